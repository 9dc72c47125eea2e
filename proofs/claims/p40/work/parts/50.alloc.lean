-- new objects: an empty place of the world becomes the object
theorem wd_nil {dC : Nat → ClassId} {dI : Nat → Nat → Nat} {A : Nat → Prop} {H0 H : Heap} {locs : List Loc} {Ls : List va_W} (h : Wd dC dI A H0 Ls H locs) : Wd dC dI A H0 (Ls ++ [[]]) H locs := by
  refine wd_perm ?_ h
  exact ((jn_snoc Ls []).trans (List.Perm.refl _)).symm
theorem wk_nil {D : va_G} {cl : List vw_C} {U : State} {Ts : List va_TL} (h : va_K D cl (Jt Ts) U) : va_K D cl (Jt (Ts ++ [[]])) U := by
  refine jk_of h (fun x hx => ?_)
  obtain ⟨t, ht, hxt⟩ := jt_mem hx
  rcases List.mem_append.mp ht with ht | ht
  · exact List.mem_flatten.mpr ⟨t, ht, hxt⟩
  · have e : t = [] := by simpa using ht
    subst e
    simp at hxt
theorem jset_mem {α : Type} : ∀ (is : List Nat) (xs Ls : List α) (t : α), t ∈ jset Ls is xs → t ∈ Ls ∨ t ∈ xs
  | [], xs, Ls, t, h => Or.inl (by cases xs <;> exact h)
  | i :: is, [], Ls, t, h => Or.inl h
  | i :: is, x :: xs, Ls, t, h => by
    rcases jset_mem is xs (Ls.set i x) t h with h | h
    · rcases List.mem_or_eq_of_mem_set h with h | h
      · exact Or.inl h
      · exact Or.inr (by rw [h]; exact List.mem_cons_self)
    · exact Or.inr (List.mem_cons_of_mem _ h)
theorem wk_set {D : va_G} {cl : List vw_C} {U : State} {Ts T1 : List va_TL} {is : List Nat} (h : va_K D cl (Jt Ts) U) (h1 : va_K D cl (Jt T1) U) : va_K D cl (Jt (jset Ts is T1)) U := by
  refine ⟨h.1, fun k q hk => ?_⟩
  obtain ⟨t, ht, hxt⟩ := jt_mem (List.mem_of_getElem? hk)
  rcases jset_mem is T1 Ts t ht with ht | ht
  · obtain ⟨i, hi⟩ := List.mem_iff_getElem?.mp (show q ∈ Jt Ts from List.mem_flatten.mpr ⟨t, ht, hxt⟩)
    exact h.2 i q hi
  · obtain ⟨i, hi⟩ := List.mem_iff_getElem?.mp (show q ∈ Jt T1 from List.mem_flatten.mpr ⟨t, ht, hxt⟩)
    exact h1.2 i q hi
section Dec3
variable {p : Program} {l : Launch} {e : Env} {R : Room} {s : State} {m : MethodId} {args : Array Value} {below : List Frame} {meth : Method} {c : Code} {H H0 : Heap} {locs : List Loc} {cells slots : Nat} {Q : State → Prop} {pc : Nat} {ls : Array Slot} {rest : List Value} {cc : ByteArray} {dC : Nat → ClassId} {dI : Nat → Nat → Nat} {A : Nat → Prop} {Ls : List va_W} {Ts : List va_TL} {tys : va_TL}
theorem xnew (hx : p.tables.exec = Jvm.exec) (hb : c.code = cc) {own C : String} {T : u_T} {N ci index n : Nat} (hts : ∀ w ∈ gt, w.before args s = true) (hin : ∀ w ∈ u_ws C T N, w ∈ gt) (ty : Nat → FieldType) (hty : ∀ k, k < N → parseFieldDescriptor (T k).2.2.1 = some (ty k)) (hown : s.vm.findClass own = some m.cls) (hcl : Cond.classLink own index C ∈ gt) (hinst : Cond.instantiable C N ∈ gt) (hini : Cond.initialized C ∈ gt) (hK : va_K (dC, dI) vwCl tys s) (hw : Wd dC dI A H0 Ls H locs) (hA : ∀ q, H0.size ≤ q → A q) (hn : Ls[n]? = some []) (hc : vwCl[ci]? = some (C, T, N)) {fs : List Value} (hfs : ∀ j, j < N → defaultValue (ty j) = vp_V fs j) (hcells : cells + 1 ≤ R.cells) (hslots : slots + N ≤ R.slots) (hdg : decode cc pc = .ok (.new index, 3))
    (kk : ∀ (q : Nat) (H1 : Heap), Wd dC dI A H0 (Ls.set n [(q, .inr (ci, fs))]) H1 locs → W p l e R s m args below meth c H1 locs (cells + 1) (slots + N) Q (F0 m (pc + 3) ls (.ref q :: rest))) : W p l e R s m args below meth c H locs cells slots Q (F0 m pc ls rest) := by
  obtain ⟨Rr, h1, h2⟩ := jn_mid Ls n [] hn
  refine va_new hx hb hts hin ty hty hown (hts _ hcl) (hts _ hinst) (hts _ hini) hK hw.1 hw.2.1 hw.2.2 hA hc hfs hcells hslots hdg (fun q H1 a b d => kk q H1 ?_)
  have hp : (Jn Ls ++ [((q, .inr (ci, fs)) : Nat × va_E)]).Perm (Jn (Ls.set n [(q, .inr (ci, fs))])) := (List.perm_append_comm.trans (h1.append_left _)).trans (h2 _).symm
  exact ⟨vp_perm hp a, vd_perm hp b, d⟩
variable {own : String} {index nL maxL mc ms : Nat} {y : MethodName} {b : ByteArray} {ret : Option FieldType} {rm : Room} {Qc : (Nat → Prop) → Array Value → State → Outcome → State → Prop} {a ci : Nat} {As : List Value} {st : List Value} {Lc : List va_W} {Tc : List va_TL} {fs : List Value} {q : vw_C}
theorem xrVn (S : CallFix p m c cc nL s args gt own) (hM : CC l y b maxL ret rm dC dI H.size (.ref a :: As) (Jn Lc) (Jt Tc) Qc mc ms) (mcode : Cond.code y b maxL ret ∈ gt) (ml : Cond.methodLink own index y ∈ gt) (mi : Cond.instanceMethod y ∈ gt) (msel : Cond.selects y.cls y y ∈ gt) (mini : Cond.initialized y.cls ∈ gt) (hd : y.cls ≠ "java/lang/invoke/MethodHandle" ∧ y.cls ≠ "java/lang/invoke/VarHandle" ∧ (parseMethodDescriptor y.desc).map (fun d => d.parameters.length) = some As.length) (hR : (rm.frames + 1).ble R.frames = true ∧ (8 + (maxL + 11) + rm.locals).ble R.locals = true) (hrc : rm.cells = mc) (hrs : rm.slots = ms) (hf : (cells + mc).ble R.cells = true ∧ (slots + ms).ble R.slots = true)
    (hX : wX s ∧ wT dI A s) (hK : va_K (dC, dI) vwCl (Jt Ts) s) (hw : Wd dC dI A s.heap Ls H locs) (is : List Nat) (hn : is.Nodup) (hC : is.map (fun i => Ls[i]?) = Lc.map some) (hT : is.map (fun i => Ts[i]?) = Tc.map some) (hrecv : (Jn Lc)[0]? = some (a, .inr (ci, fs))) (hcl : vwCl[ci]? = some q) (hq : q.1 = y.cls) (hsz : ls.size = nL) (hst : st = As.reverse ++ .ref a :: rest) (hW : ((rest.map fun (v : Value) => v.category).sum).ble 8 = true) (hdg : decode cc pc = .ok (.invokevirtual index, 3)) :
    va_Run p l e R s m args below meth c H locs cells slots mc ms (F0 m pc ls st) rest (Qc (va_A (Jn Lc) H.size) (Value.ref a :: As).toArray) (va_A (Jn Lc) H.size) :=
  rv_V S hM mcode ml mi msel mini hd hR hrc hrs hf hX hw.2.2 (jk_sub hK hT) (jp_sub hw.1 hC) (jd_sub hw.2.1 hn hC) hrecv hcl hq hsz hst hW hdg
theorem xrIn (S : CallFix p m c cc nL s args gt own) (hM : CC l y b maxL none rm dC dI H.size (.ref a :: As) (Jn Lc) (Jt Tc) Qc mc ms) (mcode : Cond.code y b maxL none ∈ gt) (ml : Cond.methodLink own index y ∈ gt) (mi : Cond.instanceMethod y ∈ gt) (mini : Cond.initialized y.cls ∈ gt) (hy : y.name = "<init>") (hd : y.cls ≠ "java/lang/invoke/MethodHandle" ∧ y.cls ≠ "java/lang/invoke/VarHandle" ∧ (parseMethodDescriptor y.desc).map (fun d => d.parameters.length) = some As.length) (hR : (rm.frames + 1).ble R.frames = true ∧ (8 + (maxL + 11) + rm.locals).ble R.locals = true) (hrc : rm.cells = mc) (hrs : rm.slots = ms) (hf : (cells + mc).ble R.cells = true ∧ (slots + ms).ble R.slots = true)
    (hX : wX s ∧ wT dI A s) (hK : va_K (dC, dI) vwCl (Jt Ts) s) (hw : Wd dC dI A s.heap Ls H locs) (is : List Nat) (hn : is.Nodup) (hC : is.map (fun i => Ls[i]?) = Lc.map some) (hT : is.map (fun i => Ts[i]?) = Tc.map some) (hsz : ls.size = nL) (hst : st = As.reverse ++ .ref a :: rest) (hW : ((rest.map fun (v : Value) => v.category).sum).ble 8 = true) (hdg : decode cc pc = .ok (.invokespecial index, 3)) :
    va_Run p l e R s m args below meth c H locs cells slots mc ms (F0 m pc ls st) rest (Qc (va_A (Jn Lc) H.size) (Value.ref a :: As).toArray) (va_A (Jn Lc) H.size) :=
  rv_I S hM mcode ml mi mini hy hd hR hrc hrs hf hX hw.2.2 (jk_sub hK hT) (jp_sub hw.1 hC) (jd_sub hw.2.1 hn hC) hsz hst hW hdg
theorem xrINn {host : String} (S : CallFix p m c cc nL s args gt own) (hM : CC l y b maxL none rm dC dI H.size (.ref a :: As) (Jn Lc) (Jt Tc) Qc mc ms) (mcode : Cond.code y b maxL none ∈ gt) (ml : va_Nw (.methodLinkNest own index y host) s) (mi : Cond.instanceMethod y ∈ gt) (mini : Cond.initialized y.cls ∈ gt) (hy : y.name = "<init>") (hd : y.cls ≠ "java/lang/invoke/MethodHandle" ∧ y.cls ≠ "java/lang/invoke/VarHandle" ∧ (parseMethodDescriptor y.desc).map (fun d => d.parameters.length) = some As.length) (hR : (rm.frames + 1).ble R.frames = true ∧ (8 + (maxL + 11) + rm.locals).ble R.locals = true) (hrc : rm.cells = mc) (hrs : rm.slots = ms) (hf : (cells + mc).ble R.cells = true ∧ (slots + ms).ble R.slots = true)
    (hX : wX s ∧ wT dI A s) (hK : va_K (dC, dI) vwCl (Jt Ts) s) (hw : Wd dC dI A s.heap Ls H locs) (is : List Nat) (hn : is.Nodup) (hC : is.map (fun i => Ls[i]?) = Lc.map some) (hT : is.map (fun i => Ts[i]?) = Tc.map some) (hsz : ls.size = nL) (hst : st = As.reverse ++ .ref a :: rest) (hW : ((rest.map fun (v : Value) => v.category).sum).ble 8 = true) (hdg : decode cc pc = .ok (.invokespecial index, 3)) :
    va_Run p l e R s m args below meth c H locs cells slots mc ms (F0 m pc ls st) rest (Qc (va_A (Jn Lc) H.size) (Value.ref a :: As).toArray) (va_A (Jn Lc) H.size) :=
  rv_IN S hM mcode ml mi mini hy hd hR hrc hrs hf hX hw.2.2 (jk_sub hK hT) (jp_sub hw.1 hC) (jd_sub hw.2.1 hn hC) hsz hst hW hdg
variable {av : Array Value} {X : Type} {L1 : X → List va_W} {T1 : X → List va_TL} {P : X → Prop}
theorem xjn_v (hr : va_Run p l e R s m args below meth c H locs cells slots mc ms (F0 m pc ls st) rest (QV dC dI P (fun x => Jn (L1 x)) (fun x => Jt (T1 x)) (va_A (Jn Lc) H.size) av) (va_A (Jn Lc) H.size)) (hK : va_K (dC, dI) vwCl (Jt Ts) s) (hw : Wd dC dI A H0 Ls H locs) (hA : ∀ q, H0.size ≤ q → A q) (is : List Nat) (hn : is.Nodup) (hC : is.map (fun i => Ls[i]?) = Lc.map some) (hlen : ∀ x, is.length = (L1 x).length)
    (kk : ∀ (x : X) (H1 : Heap) (locs1 : List Loc), P x → va_K (dC, dI) vwCl (Jt (jset Ts is (T1 x))) s → Wd dC dI A H0 (jset Ls is (L1 x)) H1 locs1 → W p l e R s m args below meth c H1 locs1 (cells + mc) (slots + ms) Q (F0 m (pc + 3) ls rest)) : W p l e R s m args below meth c H locs cells slots Q (F0 m pc ls st) := by
  have hFc := j_free hw.2.1 hw.2.2 hA hC
  refine va_callv hr hw.2.2 (fun q _ h => hFc q h) hFc (fun u t H1 locs1 ht hvm hwp hB hz1 hk1 hS1 => ?_)
  obtain ⟨hP1, hK1, hD1⟩ := hB
  rw [ht] at hP1
  obtain ⟨hP2, hD2⟩ := jj hw.1 hw.2.1 hC hn (hlen u) hk1 hFc hP1 hD1
  exact kk u H1 locs1 hwp (wk_set hK (va_K.moved hvm.symm hK1)) ⟨hP2, hD2, hS1⟩
theorem xjn_i {v : X → Int32} (hr : va_Run p l e R s m args below meth c H locs cells slots mc ms (F0 m pc ls st) rest (QI dC dI (fun r x => r = v x ∧ P x) (fun x => Jn (L1 x)) (fun x => Jt (T1 x)) (va_A (Jn Lc) H.size) av) (va_A (Jn Lc) H.size)) (hK : va_K (dC, dI) vwCl (Jt Ts) s) (hw : Wd dC dI A H0 Ls H locs) (hA : ∀ q, H0.size ≤ q → A q) (is : List Nat) (hn : is.Nodup) (hC : is.map (fun i => Ls[i]?) = Lc.map some) (hlen : ∀ x, is.length = (L1 x).length)
    (kk : ∀ (x : X) (H1 : Heap) (locs1 : List Loc), P x → va_K (dC, dI) vwCl (Jt (jset Ts is (T1 x))) s → Wd dC dI A H0 (jset Ls is (L1 x)) H1 locs1 → W p l e R s m args below meth c H1 locs1 (cells + mc) (slots + ms) Q (F0 m (pc + 3) ls (.int (v x) :: rest))) : W p l e R s m args below meth c H locs cells slots Q (F0 m pc ls st) := by
  have hFc := j_free hw.2.1 hw.2.2 hA hC
  refine va_calli hr hw.2.2 (fun q _ h => hFc q h) hFc (fun r u t H1 locs1 ht hvm hwp hB hz1 hk1 hS1 => ?_)
  obtain ⟨hP1, hK1, hD1⟩ := hB
  rw [ht] at hP1
  obtain ⟨hwp, hwq⟩ : r = v u ∧ P u := hwp
  subst hwp
  obtain ⟨hP2, hD2⟩ := jj hw.1 hw.2.1 hC hn (hlen u) hk1 hFc hP1 hD1
  exact kk u H1 locs1 hwq (wk_set hK (va_K.moved hvm.symm hK1)) ⟨hP2, hD2, hS1⟩
theorem xjn_q {v : X → Option Nat} (hr : va_Run p l e R s m args below meth c H locs cells slots mc ms (F0 m pc ls st) rest (QQ dC dI (fun r x => r = v x ∧ P x) (fun x => Jn (L1 x)) (fun x => Jt (T1 x)) (va_A (Jn Lc) H.size) av) (va_A (Jn Lc) H.size)) (hK : va_K (dC, dI) vwCl (Jt Ts) s) (hw : Wd dC dI A H0 Ls H locs) (hA : ∀ q, H0.size ≤ q → A q) (is : List Nat) (hn : is.Nodup) (hC : is.map (fun i => Ls[i]?) = Lc.map some) (hlen : ∀ x, is.length = (L1 x).length)
    (kk : ∀ (x : X) (H1 : Heap) (locs1 : List Loc), P x → va_K (dC, dI) vwCl (Jt (jset Ts is (T1 x))) s → Wd dC dI A H0 (jset Ls is (L1 x)) H1 locs1 → W p l e R s m args below meth c H1 locs1 (cells + mc) (slots + ms) Q (F0 m (pc + 3) ls (va_rf (v x) :: rest))) : W p l e R s m args below meth c H locs cells slots Q (F0 m pc ls st) := by
  have hFc := j_free hw.2.1 hw.2.2 hA hC
  refine va_callq hr hw.2.2 (fun q _ h => hFc q h) hFc (fun r u t H1 locs1 ht hvm hwp hB hz1 hk1 hS1 => ?_)
  obtain ⟨hP1, hK1, hD1⟩ := hB
  rw [ht] at hP1
  obtain ⟨hwp, hwq⟩ : r = v u ∧ P u := hwp
  subst hwp
  obtain ⟨hP2, hD2⟩ := jj hw.1 hw.2.1 hC hn (hlen u) hk1 hFc hP1 hD1
  exact kk u H1 locs1 hwq (wk_set hK (va_K.moved hvm.symm hK1)) ⟨hP2, hD2, hS1⟩
theorem xrn_i {v : X → Int32} {ty : FieldType} (x : X) (hx : p.tables.exec = Jvm.exec) (hb : c.code = cc) (hr : meth.sig.returnType = some ty) (hn : narrow ty (.int (v x)) = .int (v x)) (hlk : meth.locks = false) (hK : va_K (dC, dI) vwCl (Jt (T1 x)) s) (hw : Wd dC dI A s.heap (L1 x) H locs) (hp : P x) (hdg : decode cc pc = .ok (.ireturn, 1)) :
    W p l e R s m args below meth c H locs cells slots (MQ below (QI dC dI (fun r x => r = v x ∧ P x) (fun x => Jn (L1 x)) (fun x => Jt (T1 x)) A) args s cells slots A) (F0 m pc ls [.int (v x)]) := CI_ret x hx hb hr hn hlk hK hw.1 hw.2.1 hw.2.2 ⟨rfl, hp⟩ hdg
theorem xrn_q {v : X → Option Nat} {C : String} {vv : Value} (x : X) (hv : va_rf (v x) = vv) (hx : p.tables.exec = Jvm.exec) (hb : c.code = cc) (hr : meth.sig.returnType = some (.object C)) (hlk : meth.locks = false) (hK : va_K (dC, dI) vwCl (Jt (T1 x)) s) (hw : Wd dC dI A s.heap (L1 x) H locs) (hp : P x) (hdg : decode cc pc = .ok (.areturn, 1)) :
    W p l e R s m args below meth c H locs cells slots (MQ below (QQ dC dI (fun r x => r = v x ∧ P x) (fun x => Jn (L1 x)) (fun x => Jt (T1 x)) A) args s cells slots A) (F0 m pc ls [vv]) := CQ_ret (v x) x hv hx hb hr hlk hK hw.1 hw.2.1 hw.2.2 ⟨rfl, hp⟩ hdg
theorem xrn_v (x : X) (hx : p.tables.exec = Jvm.exec) (hb : c.code = cc) (hr : meth.sig.returnType = none) (hlk : meth.locks = false) (hK : va_K (dC, dI) vwCl (Jt (T1 x)) s) (hw : Wd dC dI A s.heap (L1 x) H locs) (hp : P x) (hdg : decode cc pc = .ok (.return_, 1)) :
    W p l e R s m args below meth c H locs cells slots (MQ below (QV dC dI P (fun x => Jn (L1 x)) (fun x => Jt (T1 x)) A) args s cells slots A) (F0 m pc ls []) := CV_ret x hx hb hr hlk hK hw.1 hw.2.1 hw.2.2 hp hdg
end Dec3
/-- a new object's numbers -/
def ob0 : Ob := (fun _ => 0, fun _ => 0, fun _ _ => 0, fun _ _ => 0, fun _ _ => none)
theorem wd_fresh {dC : Nat → ClassId} {dI : Nat → Nat → Nat} {A : Nat → Prop} {H0 H : Heap} {locs : List Loc} {Ls : List va_W} (np nn : Nat) {pl : List CR} {a nc ns : Nat} {q : Nat → Nat} {k : Nat → ClassId} {o : Ob} (hw : Wd dC dI A H0 Ls H locs) (hp : Ls[np]? = some (wPL pl)) (hn : Ls[nn]? = some (wX0 a nc ns q k o)) (hne : ¬ np = nn) : ∀ c ∈ pl, c.1 ≠ a := by
  intro c hc e
  obtain ⟨l1, l2, el⟩ := List.append_of_mem hc
  obtain ⟨j, hj⟩ := wPL_at el
  exact hne (jd_eq hw.2.1 hp hn hj (j' := 0) (x' := (a, _)) rfl e).1
theorem wk_join {D : va_G} {cl : List vw_C} {U : State} {Ts : List va_TL} (n : Nat) {pl : List CR} {c : CR} (h : va_K D cl (Jt (Ts ++ [tCR c])) U) (hn : Ts[n]? = some (tPL pl)) : va_K D cl (Jt (Ts.set n (tPL (pl ++ [c])))) U := by
  refine jk_of h (fun x hx => ?_)
  obtain ⟨t, ht, hxt⟩ := jt_mem hx
  rcases List.mem_or_eq_of_mem_set ht with ht | ht
  · exact List.mem_flatten.mpr ⟨t, List.mem_append_left _ ht, hxt⟩
  · subst ht
    have e : tPL (pl ++ [c]) = tPL pl ++ tCR c := by
      show ((pl ++ [c]).map tCR).flatten = _
      rw [List.map_append, List.flatten_append]; simp [tPL]
    rw [e] at hxt
    rcases List.mem_append.mp hxt with hxt | hxt
    · exact List.mem_flatten.mpr ⟨_, List.mem_append_left _ (List.mem_of_getElem? hn), hxt⟩
    · exact List.mem_flatten.mpr ⟨_, List.mem_append_right _ List.mem_cons_self, hxt⟩
section Dec4
variable {p : Program} {l : Launch} {e : Env} {R : Room} {s : State} {m : MethodId} {args : Array Value} {below : List Frame} {meth : Method} {c : Code} {H H0 : Heap} {locs : List Loc} {cells slots : Nat} {Q : State → Prop} {pc : Nat} {ls : Array Slot} {rest : List Value} {cc : ByteArray} {dC : Nat → ClassId} {dI : Nat → Nat → Nat} {A : Nat → Prop} {Ls : List va_W} {Ts : List va_TL} {tys : va_TL}
/-- an image into its place -/
theorem fbX8q {me n np hi h4 r_reader r_machine r_isles r_court r_study r_paper r_paperCourt r_past r_pastAhead r_movingAhead : Nat} {q q2 : Nat → Nat} {k k2 : Nat → ClassId} {o o2 : Ob} (hx : p.tables.exec = Jvm.exec) (hb : c.code = cc) (hK : va_K (dC, dI) vwCl (Jt Ts) s) (hw : Wd dC dI A H0 Ls H locs) (hn : Ls[n]? = some (wX8 me r_reader r_machine r_isles r_court r_study r_paper r_paperCourt r_past r_pastAhead r_movingAhead q k o)) (hT : Ts[n]? = some (tX8 k)) (hp : Ls[np]? = some (wX2 hi h4 q2 k2 o2)) {j : Int32} (hi9 : zin j 2 = true) (hdg : decode cc pc = .ok (.aastore, 1))
    (kk : ∀ (H1 : Heap) (locs1 : List Loc), Wd dC dI A H0 (Ls.set n (wX8 me r_reader r_machine r_isles r_court r_study r_paper r_paperCourt r_past r_pastAhead r_movingAhead q k (tR o 7 j.toNatClampNeg (some hi)))) H1 locs1 → W p l e R s m args below meth c H1 locs1 cells slots Q (F0 m (pc + 1) ls rest)) : W p l e R s m args below meth c H locs cells slots Q (F0 m pc ls (.ref hi :: .int j :: .ref (q 7) :: rest)) := by
  obtain ⟨t, ht⟩ := jt_get (j := 0) hT rfl
  obtain ⟨h1, h2⟩ := jn_get Ls n 1 _ _ hn rfl
  refine va_astq hx hb hK hw.1 hw.2.1 hw.2.2 _ t _ 2 (r := (RX2, TX2, 13)) h1 ht (jn_get Ls np 0 _ _ hp rfl).1 rfl (z_in hi9) hdg (fun H1 locs1 a b d => kk H1 locs1 ?_)
  rw [h2] at a b
  exact ⟨a, b, d⟩
end Dec4
theorem gR_tR (o : Ob) (i j : Nat) (v : Option Nat) : gR (tR o i j v) i j = v := by
  show cond (Nat.beq i i) (va_up (gR o i) j v) (gR o i) j = v
  have e : Nat.beq i i = true := by simp
  rw [e]
  show (if j = j then v else gR o i j) = v
  rw [if_pos rfl]
theorem z_max0 {p : Int32} (h : 0 ≤ p.toInt) : (if (0 : Int32) < p then p else 0) = p := by
  split
  · rfl
  · rename_i hn
    have h2 := cv_nlt (a := 0) (b := p.toInt) (x := (0 : Int32)) (y := p) (by decide) rfl hn
    exact Int32.toInt_inj.mp (by have e : (0 : Int32).toInt = 0 := by decide
                                 omega)
set_option maxHeartbeats 4000000 in
set_option maxRecDepth 100000 in
theorem m_X0_init (l : Launch) (dC : Nat → ClassId) (dI : Nat → Nat → Nat) (sz : Nat) (h0 : Nat) (p0 p1 : Int32) (nc ns : Nat) (hp0 : 0 ≤ p0.toInt ∧ p0.toInt = (nc : Int) ∧ nc ≤ 12) (hp1 : 0 ≤ p1.toInt ∧ p1.toInt = (ns : Int) ∧ ns ≤ 400) : CC l yX0_init cX0_init 5 none { frames := 1, cells := 7, slots := 860, locals := 13 } dC dI sz [.ref h0, .int p0, .int p1] (Jn [[(h0, .inr (0, [.null, .null, .null, .null, .null, .null, .null, .int 0, .int 0]))]]) (Jt [[]]) (QV dC dI (fun (_ : ((Nat → Nat) × (Nat → ClassId))) => True) (fun x => Jn ((fun x => [wX0 h0 nc ns x.1 x.2 ob0]) x)) (fun x => Jt ((fun x => [tX0 x.2]) x))) 7 860 := by
  refine CC_of (by decide) (Nat.le_of_ble_eq_true rfl) ?_
  intro p e s m below meth c A ls hx hb hml hr hlk hnm hown hts hX hK hP hD hA hl
  have hl : lv_has ls 5 [(0, .ref h0), (1, .int p0), (2, .int p1)] := hl
  have hown : s.vm.findClass RX0 = some m.cls := hown
  have hnm : meth.name = "<init>" := hnm
  have hS : va_S A s.heap s.heap [] := va_S.rf
  have hK : va_K (dC, dI) vwCl [] s := hK
  have hP : va_P (dC, dI) vwCl [(h0, .inr (0, [.null, .null, .null, .null, .null, .null, .null, .int 0, .int 0]))] s.heap := hP
  have hD : va_D A [(h0, .inr (0, [.null, .null, .null, .null, .null, .null, .null, .int 0, .int 0]))] := hD
  refine lv_aload_n hx hb dX0_init_0 rfl (lv_at hl 0 rfl) ?_
  refine W.objInit hx hb hown (hts _ kw147) (hts _ kw134) (hts _ kw135) rfl (by rw [hml]; exact hl.1) rfl dX0_init_1 (Nat.le_of_ble_eq_true rfl) (Nat.le_of_ble_eq_true rfl) ?_
  refine W.eq (g2 := F0 m 4 ls []) rfl ?_
  refine lv_aload_n hx hb dX0_init_4 rfl (lv_at hl 0 rfl) ?_
  refine lv_iconst (v := 0) hx hb dX0_init_5 (by decide) ?_
  refine va_put (D := (dC, dI)) (ci := 0) (v := .int 0) (ty := .int) (C := RX0) (T := TX0) (N := 9) hx hb hts iX0 tyX0 tyX0_ok nmX0 hown hK hP hD hS 0 rfl rfl 7 (by decide) (hts _ kw174) (fun _ h9 => h9) rfl (by decide +kernel) rfl rfl (Nat.le_of_ble_eq_true rfl) dX0_init_6 (fun H locs hP hD hS => ?_)
  have hP : va_P (dC, dI) vwCl [(h0, .inr (0, [.null, .null, .null, .null, .null, .null, .null, .int 0, .int 0]))] H := hP
  have hD : va_D A [(h0, .inr (0, [.null, .null, .null, .null, .null, .null, .null, .int 0, .int 0]))] := hD
  refine lv_aload_n hx hb dX0_init_9 rfl (lv_at hl 0 rfl) ?_
  refine lv_iconst (v := 0) hx hb dX0_init_10 (by decide) ?_
  refine va_put (D := (dC, dI)) (ci := 0) (v := .int 0) (ty := .int) (C := RX0) (T := TX0) (N := 9) hx hb hts iX0 tyX0 tyX0_ok nmX0 hown hK hP hD hS 0 rfl rfl 8 (by decide) (hts _ kw178) (fun _ h9 => h9) rfl (by decide +kernel) rfl rfl (Nat.le_of_ble_eq_true rfl) dX0_init_11 (fun H locs hP hD hS => ?_)
  have hP : va_P (dC, dI) vwCl [(h0, .inr (0, [.null, .null, .null, .null, .null, .null, .null, .int 0, .int 0]))] H := hP
  have hD : va_D A [(h0, .inr (0, [.null, .null, .null, .null, .null, .null, .null, .int 0, .int 0]))] := hD
  refine lv_iconst (v := 0) hx hb dX0_init_14 (by decide) ?_
  refine lv_iload_n hx hb dX0_init_15 rfl (lv_at hl 1 rfl) ?_
  refine va_mmax hx hb (hml.trans hl.1.symm) hown (hts _ kw148) (hts _ kw149) (hts _ kw113) (hts _ kw150) (Nat.le_of_ble_eq_true rfl) (Nat.le_of_ble_eq_true rfl) (Nat.le_of_ble_eq_true rfl) (Nat.le_of_ble_eq_true rfl) dX0_init_16 ?_
  refine lv_fi (v := p0) (z_max0 hp0.1) ?_
  refine lv_istore_n (lv' := [(3, .int p0), (0, .ref h0), (1, .int p0), (2, .int p1)]) hx hb dX0_init_19 rfl hl (by decide) rfl (fun ls hl => ?_)
  refine lv_iconst (v := 0) hx hb dX0_init_20 (by decide) ?_
  refine lv_iload_n hx hb dX0_init_21 rfl (lv_at hl 3 rfl) ?_
  refine va_mmax hx hb (hml.trans hl.1.symm) hown (hts _ kw148) (hts _ kw149) (hts _ kw113) (hts _ kw150) (Nat.le_of_ble_eq_true rfl) (Nat.le_of_ble_eq_true rfl) (Nat.le_of_ble_eq_true rfl) (Nat.le_of_ble_eq_true rfl) dX0_init_22 ?_
  refine lv_fi (v := p1) (z_max0 hp1.1) ?_
  refine lv_istore (lv' := [(4, .int p1), (3, .int p0), (0, .ref h0), (1, .int p0), (2, .int p1)]) hx hb dX0_init_25 hl (by decide) rfl (fun ls hl => ?_)
  refine lv_aload_n hx hb dX0_init_27 rfl (lv_at hl 2 rfl) ?_
  refine lv_iload_n hx hb dX0_init_28 rfl (lv_at hl 1 rfl) ?_
  refine va_newa (atype := .int) (ty := .int) (N' := nc) (a0 := (nc, (.inl (fun _ => 0)))) hx hb (hts _ kw200) rfl hK hP hD hS hA (fun _ => rfl) (z_nn hp0.1) (clp_of hp0.2.1) (by show nc * 4 ≤ _; omega) (Nat.le_of_ble_eq_true rfl) (by show 0 + nc ≤ 860; omega) dX0_init_29 (fun q3_ k4_ H hK hP hD hS => ?_)
  have hP : va_P (dC, dI) vwCl [(h0, .inr (0, [.null, .null, .null, .null, .null, .null, .null, .int 0, .int 0])), (q3_, .inl (k4_, nc, .inl (fun _ => 0)))] H := hP
  have hD : va_D A [(h0, .inr (0, [.null, .null, .null, .null, .null, .null, .null, .int 0, .int 0])), (q3_, .inl (k4_, nc, .inl (fun _ => 0)))] := hD
  have hK : va_K (dC, dI) vwCl [(k4_, .int)] s := hK
  refine va_putF (D := (dC, dI)) (ci := 0) (v := .ref q3_) (ty := .array .int) (C := RX0) (T := TX0) (N := 9) hx hb hts iX0 tyX0 tyX0_ok nmX0 hown hK hP hD hS 0 rfl rfl 0 (by decide) (hts _ kw151) (fun _ h9 => h9) rfl hnm rfl (by decide +kernel) rfl rfl (Nat.le_of_ble_eq_true rfl) dX0_init_31 (fun H locs hP hD hS => ?_)
  have hP : va_P (dC, dI) vwCl [(h0, .inr (0, [.ref q3_, .null, .null, .null, .null, .null, .null, .int 0, .int 0])), (q3_, .inl (k4_, nc, .inl (fun _ => 0)))] H := hP
  have hD : va_D A [(h0, .inr (0, [.ref q3_, .null, .null, .null, .null, .null, .null, .int 0, .int 0])), (q3_, .inl (k4_, nc, .inl (fun _ => 0)))] := hD
  refine lv_aload_n hx hb dX0_init_34 rfl (lv_at hl 2 rfl) ?_
  refine lv_iload_n hx hb dX0_init_35 rfl (lv_at hl 1 rfl) ?_
  refine va_newa (atype := .int) (ty := .int) (N' := nc) (a0 := (nc, (.inl (fun _ => 0)))) hx hb (hts _ kw200) rfl hK hP hD hS hA (fun _ => rfl) (z_nn hp0.1) (clp_of hp0.2.1) (by show nc * 4 ≤ _; omega) (Nat.le_of_ble_eq_true rfl) (by show 0 + nc + nc ≤ 860; omega) dX0_init_36 (fun q5_ k6_ H hK hP hD hS => ?_)
  have hP : va_P (dC, dI) vwCl [(h0, .inr (0, [.ref q3_, .null, .null, .null, .null, .null, .null, .int 0, .int 0])), (q3_, .inl (k4_, nc, .inl (fun _ => 0))), (q5_, .inl (k6_, nc, .inl (fun _ => 0)))] H := hP
  have hD : va_D A [(h0, .inr (0, [.ref q3_, .null, .null, .null, .null, .null, .null, .int 0, .int 0])), (q3_, .inl (k4_, nc, .inl (fun _ => 0))), (q5_, .inl (k6_, nc, .inl (fun _ => 0)))] := hD
  have hK : va_K (dC, dI) vwCl [(k4_, .int), (k6_, .int)] s := hK
  refine va_putF (D := (dC, dI)) (ci := 0) (v := .ref q5_) (ty := .array .int) (C := RX0) (T := TX0) (N := 9) hx hb hts iX0 tyX0 tyX0_ok nmX0 hown hK hP hD hS 0 rfl rfl 1 (by decide) (hts _ kw155) (fun _ h9 => h9) rfl hnm rfl (by decide +kernel) rfl rfl (Nat.le_of_ble_eq_true rfl) dX0_init_38 (fun H locs hP hD hS => ?_)
  have hP : va_P (dC, dI) vwCl [(h0, .inr (0, [.ref q3_, .ref q5_, .null, .null, .null, .null, .null, .int 0, .int 0])), (q3_, .inl (k4_, nc, .inl (fun _ => 0))), (q5_, .inl (k6_, nc, .inl (fun _ => 0)))] H := hP
  have hD : va_D A [(h0, .inr (0, [.ref q3_, .ref q5_, .null, .null, .null, .null, .null, .int 0, .int 0])), (q3_, .inl (k4_, nc, .inl (fun _ => 0))), (q5_, .inl (k6_, nc, .inl (fun _ => 0)))] := hD
  refine lv_aload_n hx hb dX0_init_41 rfl (lv_at hl 2 rfl) ?_
  refine lv_iload_n hx hb dX0_init_42 rfl (lv_at hl 1 rfl) ?_
  refine va_newa (atype := .int) (ty := .int) (N' := nc) (a0 := (nc, (.inl (fun _ => 0)))) hx hb (hts _ kw200) rfl hK hP hD hS hA (fun _ => rfl) (z_nn hp0.1) (clp_of hp0.2.1) (by show nc * 4 ≤ _; omega) (Nat.le_of_ble_eq_true rfl) (by show 0 + nc + nc + nc ≤ 860; omega) dX0_init_43 (fun q7_ k8_ H hK hP hD hS => ?_)
  have hP : va_P (dC, dI) vwCl [(h0, .inr (0, [.ref q3_, .ref q5_, .null, .null, .null, .null, .null, .int 0, .int 0])), (q3_, .inl (k4_, nc, .inl (fun _ => 0))), (q5_, .inl (k6_, nc, .inl (fun _ => 0))), (q7_, .inl (k8_, nc, .inl (fun _ => 0)))] H := hP
  have hD : va_D A [(h0, .inr (0, [.ref q3_, .ref q5_, .null, .null, .null, .null, .null, .int 0, .int 0])), (q3_, .inl (k4_, nc, .inl (fun _ => 0))), (q5_, .inl (k6_, nc, .inl (fun _ => 0))), (q7_, .inl (k8_, nc, .inl (fun _ => 0)))] := hD
  have hK : va_K (dC, dI) vwCl [(k4_, .int), (k6_, .int), (k8_, .int)] s := hK
  refine va_putF (D := (dC, dI)) (ci := 0) (v := .ref q7_) (ty := .array .int) (C := RX0) (T := TX0) (N := 9) hx hb hts iX0 tyX0 tyX0_ok nmX0 hown hK hP hD hS 0 rfl rfl 2 (by decide) (hts _ kw158) (fun _ h9 => h9) rfl hnm rfl (by decide +kernel) rfl rfl (Nat.le_of_ble_eq_true rfl) dX0_init_45 (fun H locs hP hD hS => ?_)
  have hP : va_P (dC, dI) vwCl [(h0, .inr (0, [.ref q3_, .ref q5_, .ref q7_, .null, .null, .null, .null, .int 0, .int 0])), (q3_, .inl (k4_, nc, .inl (fun _ => 0))), (q5_, .inl (k6_, nc, .inl (fun _ => 0))), (q7_, .inl (k8_, nc, .inl (fun _ => 0)))] H := hP
  have hD : va_D A [(h0, .inr (0, [.ref q3_, .ref q5_, .ref q7_, .null, .null, .null, .null, .int 0, .int 0])), (q3_, .inl (k4_, nc, .inl (fun _ => 0))), (q5_, .inl (k6_, nc, .inl (fun _ => 0))), (q7_, .inl (k8_, nc, .inl (fun _ => 0)))] := hD
  refine lv_aload_n hx hb dX0_init_48 rfl (lv_at hl 2 rfl) ?_
  refine lv_iload_n hx hb dX0_init_49 rfl (lv_at hl 1 rfl) ?_
  refine va_newa (atype := .int) (ty := .int) (N' := nc) (a0 := (nc, (.inl (fun _ => 0)))) hx hb (hts _ kw200) rfl hK hP hD hS hA (fun _ => rfl) (z_nn hp0.1) (clp_of hp0.2.1) (by show nc * 4 ≤ _; omega) (Nat.le_of_ble_eq_true rfl) (by show 0 + nc + nc + nc + nc ≤ 860; omega) dX0_init_50 (fun q9_ k10_ H hK hP hD hS => ?_)
  have hP : va_P (dC, dI) vwCl [(h0, .inr (0, [.ref q3_, .ref q5_, .ref q7_, .null, .null, .null, .null, .int 0, .int 0])), (q3_, .inl (k4_, nc, .inl (fun _ => 0))), (q5_, .inl (k6_, nc, .inl (fun _ => 0))), (q7_, .inl (k8_, nc, .inl (fun _ => 0))), (q9_, .inl (k10_, nc, .inl (fun _ => 0)))] H := hP
  have hD : va_D A [(h0, .inr (0, [.ref q3_, .ref q5_, .ref q7_, .null, .null, .null, .null, .int 0, .int 0])), (q3_, .inl (k4_, nc, .inl (fun _ => 0))), (q5_, .inl (k6_, nc, .inl (fun _ => 0))), (q7_, .inl (k8_, nc, .inl (fun _ => 0))), (q9_, .inl (k10_, nc, .inl (fun _ => 0)))] := hD
  have hK : va_K (dC, dI) vwCl [(k4_, .int), (k6_, .int), (k8_, .int), (k10_, .int)] s := hK
  refine va_putF (D := (dC, dI)) (ci := 0) (v := .ref q9_) (ty := .array .int) (C := RX0) (T := TX0) (N := 9) hx hb hts iX0 tyX0 tyX0_ok nmX0 hown hK hP hD hS 0 rfl rfl 3 (by decide) (hts _ kw162) (fun _ h9 => h9) rfl hnm rfl (by decide +kernel) rfl rfl (Nat.le_of_ble_eq_true rfl) dX0_init_52 (fun H locs hP hD hS => ?_)
  have hP : va_P (dC, dI) vwCl [(h0, .inr (0, [.ref q3_, .ref q5_, .ref q7_, .ref q9_, .null, .null, .null, .int 0, .int 0])), (q3_, .inl (k4_, nc, .inl (fun _ => 0))), (q5_, .inl (k6_, nc, .inl (fun _ => 0))), (q7_, .inl (k8_, nc, .inl (fun _ => 0))), (q9_, .inl (k10_, nc, .inl (fun _ => 0)))] H := hP
  have hD : va_D A [(h0, .inr (0, [.ref q3_, .ref q5_, .ref q7_, .ref q9_, .null, .null, .null, .int 0, .int 0])), (q3_, .inl (k4_, nc, .inl (fun _ => 0))), (q5_, .inl (k6_, nc, .inl (fun _ => 0))), (q7_, .inl (k8_, nc, .inl (fun _ => 0))), (q9_, .inl (k10_, nc, .inl (fun _ => 0)))] := hD
  refine lv_aload_n hx hb dX0_init_55 rfl (lv_at hl 2 rfl) ?_
  refine lv_iload_n hx hb dX0_init_56 rfl (lv_at hl 1 rfl) ?_
  refine va_newa (atype := .int) (ty := .int) (N' := nc) (a0 := (nc, (.inl (fun _ => 0)))) hx hb (hts _ kw200) rfl hK hP hD hS hA (fun _ => rfl) (z_nn hp0.1) (clp_of hp0.2.1) (by show nc * 4 ≤ _; omega) (Nat.le_of_ble_eq_true rfl) (by show 0 + nc + nc + nc + nc + nc ≤ 860; omega) dX0_init_57 (fun q11_ k12_ H hK hP hD hS => ?_)
  have hP : va_P (dC, dI) vwCl [(h0, .inr (0, [.ref q3_, .ref q5_, .ref q7_, .ref q9_, .null, .null, .null, .int 0, .int 0])), (q3_, .inl (k4_, nc, .inl (fun _ => 0))), (q5_, .inl (k6_, nc, .inl (fun _ => 0))), (q7_, .inl (k8_, nc, .inl (fun _ => 0))), (q9_, .inl (k10_, nc, .inl (fun _ => 0))), (q11_, .inl (k12_, nc, .inl (fun _ => 0)))] H := hP
  have hD : va_D A [(h0, .inr (0, [.ref q3_, .ref q5_, .ref q7_, .ref q9_, .null, .null, .null, .int 0, .int 0])), (q3_, .inl (k4_, nc, .inl (fun _ => 0))), (q5_, .inl (k6_, nc, .inl (fun _ => 0))), (q7_, .inl (k8_, nc, .inl (fun _ => 0))), (q9_, .inl (k10_, nc, .inl (fun _ => 0))), (q11_, .inl (k12_, nc, .inl (fun _ => 0)))] := hD
  have hK : va_K (dC, dI) vwCl [(k4_, .int), (k6_, .int), (k8_, .int), (k10_, .int), (k12_, .int)] s := hK
  refine va_putF (D := (dC, dI)) (ci := 0) (v := .ref q11_) (ty := .array .int) (C := RX0) (T := TX0) (N := 9) hx hb hts iX0 tyX0 tyX0_ok nmX0 hown hK hP hD hS 0 rfl rfl 4 (by decide) (hts _ kw166) (fun _ h9 => h9) rfl hnm rfl (by decide +kernel) rfl rfl (Nat.le_of_ble_eq_true rfl) dX0_init_59 (fun H locs hP hD hS => ?_)
  have hP : va_P (dC, dI) vwCl [(h0, .inr (0, [.ref q3_, .ref q5_, .ref q7_, .ref q9_, .ref q11_, .null, .null, .int 0, .int 0])), (q3_, .inl (k4_, nc, .inl (fun _ => 0))), (q5_, .inl (k6_, nc, .inl (fun _ => 0))), (q7_, .inl (k8_, nc, .inl (fun _ => 0))), (q9_, .inl (k10_, nc, .inl (fun _ => 0))), (q11_, .inl (k12_, nc, .inl (fun _ => 0)))] H := hP
  have hD : va_D A [(h0, .inr (0, [.ref q3_, .ref q5_, .ref q7_, .ref q9_, .ref q11_, .null, .null, .int 0, .int 0])), (q3_, .inl (k4_, nc, .inl (fun _ => 0))), (q5_, .inl (k6_, nc, .inl (fun _ => 0))), (q7_, .inl (k8_, nc, .inl (fun _ => 0))), (q9_, .inl (k10_, nc, .inl (fun _ => 0))), (q11_, .inl (k12_, nc, .inl (fun _ => 0)))] := hD
  refine lv_aload_n hx hb dX0_init_62 rfl (lv_at hl 2 rfl) ?_
  refine lv_iload hx hb dX0_init_63 (lv_at hl 0 rfl) ?_
  refine va_newa (atype := .int) (ty := .int) (N' := ns) (a0 := (ns, (.inl (fun _ => 0)))) hx hb (hts _ kw200) rfl hK hP hD hS hA (fun _ => rfl) (z_nn hp1.1) (clp_of hp1.2.1) (by show ns * 4 ≤ _; omega) (Nat.le_of_ble_eq_true rfl) (by show 0 + nc + nc + nc + nc + nc + ns ≤ 860; omega) dX0_init_65 (fun q13_ k14_ H hK hP hD hS => ?_)
  have hP : va_P (dC, dI) vwCl [(h0, .inr (0, [.ref q3_, .ref q5_, .ref q7_, .ref q9_, .ref q11_, .null, .null, .int 0, .int 0])), (q3_, .inl (k4_, nc, .inl (fun _ => 0))), (q5_, .inl (k6_, nc, .inl (fun _ => 0))), (q7_, .inl (k8_, nc, .inl (fun _ => 0))), (q9_, .inl (k10_, nc, .inl (fun _ => 0))), (q11_, .inl (k12_, nc, .inl (fun _ => 0))), (q13_, .inl (k14_, ns, .inl (fun _ => 0)))] H := hP
  have hD : va_D A [(h0, .inr (0, [.ref q3_, .ref q5_, .ref q7_, .ref q9_, .ref q11_, .null, .null, .int 0, .int 0])), (q3_, .inl (k4_, nc, .inl (fun _ => 0))), (q5_, .inl (k6_, nc, .inl (fun _ => 0))), (q7_, .inl (k8_, nc, .inl (fun _ => 0))), (q9_, .inl (k10_, nc, .inl (fun _ => 0))), (q11_, .inl (k12_, nc, .inl (fun _ => 0))), (q13_, .inl (k14_, ns, .inl (fun _ => 0)))] := hD
  have hK : va_K (dC, dI) vwCl [(k4_, .int), (k6_, .int), (k8_, .int), (k10_, .int), (k12_, .int), (k14_, .int)] s := hK
  refine va_putF (D := (dC, dI)) (ci := 0) (v := .ref q13_) (ty := .array .int) (C := RX0) (T := TX0) (N := 9) hx hb hts iX0 tyX0 tyX0_ok nmX0 hown hK hP hD hS 0 rfl rfl 5 (by decide) (hts _ kw170) (fun _ h9 => h9) rfl hnm rfl (by decide +kernel) rfl rfl (Nat.le_of_ble_eq_true rfl) dX0_init_67 (fun H locs hP hD hS => ?_)
  have hP : va_P (dC, dI) vwCl [(h0, .inr (0, [.ref q3_, .ref q5_, .ref q7_, .ref q9_, .ref q11_, .ref q13_, .null, .int 0, .int 0])), (q3_, .inl (k4_, nc, .inl (fun _ => 0))), (q5_, .inl (k6_, nc, .inl (fun _ => 0))), (q7_, .inl (k8_, nc, .inl (fun _ => 0))), (q9_, .inl (k10_, nc, .inl (fun _ => 0))), (q11_, .inl (k12_, nc, .inl (fun _ => 0))), (q13_, .inl (k14_, ns, .inl (fun _ => 0)))] H := hP
  have hD : va_D A [(h0, .inr (0, [.ref q3_, .ref q5_, .ref q7_, .ref q9_, .ref q11_, .ref q13_, .null, .int 0, .int 0])), (q3_, .inl (k4_, nc, .inl (fun _ => 0))), (q5_, .inl (k6_, nc, .inl (fun _ => 0))), (q7_, .inl (k8_, nc, .inl (fun _ => 0))), (q9_, .inl (k10_, nc, .inl (fun _ => 0))), (q11_, .inl (k12_, nc, .inl (fun _ => 0))), (q13_, .inl (k14_, ns, .inl (fun _ => 0)))] := hD
  refine lv_aload_n hx hb dX0_init_70 rfl (lv_at hl 2 rfl) ?_
  refine lv_iload hx hb dX0_init_71 (lv_at hl 0 rfl) ?_
  refine va_newa (atype := .int) (ty := .int) (N' := ns) (a0 := (ns, (.inl (fun _ => 0)))) hx hb (hts _ kw200) rfl hK hP hD hS hA (fun _ => rfl) (z_nn hp1.1) (clp_of hp1.2.1) (by show ns * 4 ≤ _; omega) (Nat.le_of_ble_eq_true rfl) (by show 0 + nc + nc + nc + nc + nc + ns + ns ≤ 860; omega) dX0_init_73 (fun q15_ k16_ H hK hP hD hS => ?_)
  have hP : va_P (dC, dI) vwCl [(h0, .inr (0, [.ref q3_, .ref q5_, .ref q7_, .ref q9_, .ref q11_, .ref q13_, .null, .int 0, .int 0])), (q3_, .inl (k4_, nc, .inl (fun _ => 0))), (q5_, .inl (k6_, nc, .inl (fun _ => 0))), (q7_, .inl (k8_, nc, .inl (fun _ => 0))), (q9_, .inl (k10_, nc, .inl (fun _ => 0))), (q11_, .inl (k12_, nc, .inl (fun _ => 0))), (q13_, .inl (k14_, ns, .inl (fun _ => 0))), (q15_, .inl (k16_, ns, .inl (fun _ => 0)))] H := hP
  have hD : va_D A [(h0, .inr (0, [.ref q3_, .ref q5_, .ref q7_, .ref q9_, .ref q11_, .ref q13_, .null, .int 0, .int 0])), (q3_, .inl (k4_, nc, .inl (fun _ => 0))), (q5_, .inl (k6_, nc, .inl (fun _ => 0))), (q7_, .inl (k8_, nc, .inl (fun _ => 0))), (q9_, .inl (k10_, nc, .inl (fun _ => 0))), (q11_, .inl (k12_, nc, .inl (fun _ => 0))), (q13_, .inl (k14_, ns, .inl (fun _ => 0))), (q15_, .inl (k16_, ns, .inl (fun _ => 0)))] := hD
  have hK : va_K (dC, dI) vwCl [(k4_, .int), (k6_, .int), (k8_, .int), (k10_, .int), (k12_, .int), (k14_, .int), (k16_, .int)] s := hK
  refine va_putF (D := (dC, dI)) (ci := 0) (v := .ref q15_) (ty := .array .int) (C := RX0) (T := TX0) (N := 9) hx hb hts iX0 tyX0 tyX0_ok nmX0 hown hK hP hD hS 0 rfl rfl 6 (by decide) (hts _ kw172) (fun _ h9 => h9) rfl hnm rfl (by decide +kernel) rfl rfl (Nat.le_of_ble_eq_true rfl) dX0_init_75 (fun H locs hP hD hS => ?_)
  have hP : va_P (dC, dI) vwCl [(h0, .inr (0, [.ref q3_, .ref q5_, .ref q7_, .ref q9_, .ref q11_, .ref q13_, .ref q15_, .int 0, .int 0])), (q3_, .inl (k4_, nc, .inl (fun _ => 0))), (q5_, .inl (k6_, nc, .inl (fun _ => 0))), (q7_, .inl (k8_, nc, .inl (fun _ => 0))), (q9_, .inl (k10_, nc, .inl (fun _ => 0))), (q11_, .inl (k12_, nc, .inl (fun _ => 0))), (q13_, .inl (k14_, ns, .inl (fun _ => 0))), (q15_, .inl (k16_, ns, .inl (fun _ => 0)))] H := hP
  have hD : va_D A [(h0, .inr (0, [.ref q3_, .ref q5_, .ref q7_, .ref q9_, .ref q11_, .ref q13_, .ref q15_, .int 0, .int 0])), (q3_, .inl (k4_, nc, .inl (fun _ => 0))), (q5_, .inl (k6_, nc, .inl (fun _ => 0))), (q7_, .inl (k8_, nc, .inl (fun _ => 0))), (q9_, .inl (k10_, nc, .inl (fun _ => 0))), (q11_, .inl (k12_, nc, .inl (fun _ => 0))), (q13_, .inl (k14_, ns, .inl (fun _ => 0))), (q15_, .inl (k16_, ns, .inl (fun _ => 0)))] := hD
  refine W.widen (k := 7) (n := 860) (Nat.le_of_ble_eq_true rfl) (by show 0 + nc + nc + nc + nc + nc + ns + ns ≤ 860; omega) ?_
  have hK : va_K (dC, dI) vwCl [(k4_, .int), (k6_, .int), (k8_, .int), (k10_, .int), (k12_, .int), (k14_, .int), (k16_, .int)] s := hK.sub [0, 1, 2, 3, 4, 5, 6] rfl
  have hP : va_P (dC, dI) vwCl [(h0, .inr (0, [.ref q3_, .ref q5_, .ref q7_, .ref q9_, .ref q11_, .ref q13_, .ref q15_, .int 0, .int 0])), (q3_, .inl (k4_, nc, .inl (fun _ => 0))), (q5_, .inl (k6_, nc, .inl (fun _ => 0))), (q7_, .inl (k8_, nc, .inl (fun _ => 0))), (q9_, .inl (k10_, nc, .inl (fun _ => 0))), (q11_, .inl (k12_, nc, .inl (fun _ => 0))), (q13_, .inl (k14_, ns, .inl (fun _ => 0))), (q15_, .inl (k16_, ns, .inl (fun _ => 0)))] H := hP.sub [0, 1, 2, 3, 4, 5, 6, 7] rfl
  have hD : va_D A [(h0, .inr (0, [.ref q3_, .ref q5_, .ref q7_, .ref q9_, .ref q11_, .ref q13_, .ref q15_, .int 0, .int 0])), (q3_, .inl (k4_, nc, .inl (fun _ => 0))), (q5_, .inl (k6_, nc, .inl (fun _ => 0))), (q7_, .inl (k8_, nc, .inl (fun _ => 0))), (q9_, .inl (k10_, nc, .inl (fun _ => 0))), (q11_, .inl (k12_, nc, .inl (fun _ => 0))), (q13_, .inl (k14_, ns, .inl (fun _ => 0))), (q15_, .inl (k16_, ns, .inl (fun _ => 0)))] := hD.sub [0, 1, 2, 3, 4, 5, 6, 7] (by decide) rfl
  exact xrn_v (X := ((Nat → Nat) × (Nat → ClassId))) (L1 := (fun x => [wX0 h0 nc ns x.1 x.2 ob0])) (T1 := (fun x => [tX0 x.2])) (P := fun _ => True) ((fun i => match i with | 0 => q3_ | 1 => q5_ | 2 => q7_ | 3 => q9_ | 4 => q11_ | 5 => q13_ | 6 => q15_ | _ => 0), (fun i => match i with | 0 => k4_ | 1 => k6_ | 2 => k8_ | 3 => k10_ | 4 => k12_ | 5 => k14_ | 6 => k16_ | _ => k4_)) hx hb hr hlk hK ⟨hP, hD, hS⟩ trivial dX0_init_78

/-- new isles -/
def ob2 : Ob := ((fun i => match i with | 10 => (-1 : Int32) | 11 => (1 : Int32) | _ => 0), (fun _ => 0), (fun _ => fun _ => 0), (fun _ => fun _ => 0), (fun _ => fun _ => none))
set_option maxHeartbeats 4000000 in
set_option maxRecDepth 100000 in
theorem m_X2_init (l : Launch) (dC : Nat → ClassId) (dI : Nat → Nat → Nat) (sz : Nat) (h0 : Nat) : CC l yX2_init cX2_init 1 none { frames := 2, cells := 9, slots := 79, locals := 32 } dC dI sz [.ref h0] (Jn [[(h0, .inr (2, [.null, .null, .null, .null, .null, .null, .null, .int 0, .int 0, .int 0, .int 0, .int 0, .int 0]))], []]) (Jt [[], []]) (QV dC dI (fun (_ : (Nat × (Nat → Nat) × (Nat → ClassId) × (Nat → Nat) × (Nat → ClassId))) => True) (fun x => Jn ((fun x => [wX2 h0 x.1 x.2.1 x.2.2.1 ob2, wX4 x.1 x.2.2.2.1 x.2.2.2.2 ob0]) x)) (fun x => Jt ((fun x => [tX2 x.2.2.1, tX4 x.2.2.2.2]) x))) 9 79 := by
  refine CC_of (by decide) (Nat.le_of_ble_eq_true rfl) ?_
  intro p e s m below meth c A ls hx hb hml hr hlk hnm hown hts hX hK hP hD hA hl
  have hl : lv_has ls 1 [(0, .ref h0)] := hl
  have hown : s.vm.findClass RX2 = some m.cls := hown
  have hnm : meth.name = "<init>" := hnm
  have hS : va_S A s.heap s.heap [] := va_S.rf
  have hK : va_K (dC, dI) vwCl [] s := hK
  have hP : va_P (dC, dI) vwCl [(h0, .inr (2, [.null, .null, .null, .null, .null, .null, .null, .int 0, .int 0, .int 0, .int 0, .int 0, .int 0]))] s.heap := hP
  have hD : va_D A [(h0, .inr (2, [.null, .null, .null, .null, .null, .null, .null, .int 0, .int 0, .int 0, .int 0, .int 0, .int 0]))] := hD
  refine lv_aload_n hx hb dX2_init_0 rfl (lv_at hl 0 rfl) ?_
  refine W.objInit hx hb hown (hts _ kw254) (hts _ kw134) (hts _ kw135) rfl (by rw [hml]; exact hl.1) rfl dX2_init_1 (Nat.le_of_ble_eq_true rfl) (Nat.le_of_ble_eq_true rfl) ?_
  refine W.eq (g2 := F0 m 4 ls []) rfl ?_
  refine lv_aload_n hx hb dX2_init_4 rfl (lv_at hl 0 rfl) ?_
  refine va_new (ci := 4) (fs := [.null, .null, .int 0, .int 0, .int 0]) (C := RX4) (T := TX4) (N := 5) hx hb hts iX4 tyX4 tyX4_ok hown (hts _ kw255) (hts _ kw256) (hts _ kw116) hK hP hD hS hA rfl (by decide +kernel) (Nat.le_of_ble_eq_true rfl) (Nat.le_of_ble_eq_true rfl) dX2_init_5 (fun q1_ H hP hD hS => ?_)
  have hP : va_P (dC, dI) vwCl [(h0, .inr (2, [.null, .null, .null, .null, .null, .null, .null, .int 0, .int 0, .int 0, .int 0, .int 0, .int 0])), (q1_, .inr (4, [.null, .null, .int 0, .int 0, .int 0]))] H := hP
  have hD : va_D A [(h0, .inr (2, [.null, .null, .null, .null, .null, .null, .null, .int 0, .int 0, .int 0, .int 0, .int 0, .int 0])), (q1_, .inr (4, [.null, .null, .int 0, .int 0, .int 0]))] := hD
  refine lv_dup hx hb dX2_init_8 rfl ?_
  refine cj_v (wr := [(h0, .inr (2, [.null, .null, .null, .null, .null, .null, .null, .int 0, .int 0, .int 0, .int 0, .int 0, .int 0]))]) (tr := []) (rv_IN (As := []) (rest := [.ref q1_, .ref h0]) ⟨hx, hb, hml, hown, hts⟩ (c_X4_init_0 l dC dI _ q1_ ) kw259 hX.1.2.2.2.1 kw258 kw116 rfl hd_X4_init ⟨rfl, rfl⟩ rfl rfl ⟨rfl, rfl⟩ hX hS (hK.sub (tys' := []) [] rfl) (hP.sub (ws' := [(q1_, .inr (4, [.null, .null, .int 0, .int 0, .int 0]))]) [1] rfl) (hD.sub (ws' := [(q1_, .inr (4, [.null, .null, .int 0, .int 0, .int 0]))]) [1] (by decide) rfl) hl.1 rfl rfl dX2_init_9) hK hP hD hS hA [1] [0] [] rfl rfl (by decide) (by decide) rfl (fun x7_ H locs hw hK hP hD hS => ?_)
  obtain ⟨q2_, q3_, k4_, k5_⟩ := x7_
  have hP : va_P (dC, dI) vwCl [(h0, .inr (2, [.null, .null, .null, .null, .null, .null, .null, .int 0, .int 0, .int 0, .int 0, .int 0, .int 0])), (q1_, .inr (4, [.ref q2_, .ref q3_, .int 0, .int 0, .int 0])), (q2_, .inl (k4_, 7, .inl (fun _ => 0))), (q3_, .inl (k5_, 7, .inl (fun _ => 0)))] H := hP
  have hD : va_D A [(h0, .inr (2, [.null, .null, .null, .null, .null, .null, .null, .int 0, .int 0, .int 0, .int 0, .int 0, .int 0])), (q1_, .inr (4, [.ref q2_, .ref q3_, .int 0, .int 0, .int 0])), (q2_, .inl (k4_, 7, .inl (fun _ => 0))), (q3_, .inl (k5_, 7, .inl (fun _ => 0)))] := hD
  have hK : va_K (dC, dI) vwCl [(k4_, .int), (k5_, .int)] s := hK
  refine va_putF (D := (dC, dI)) (ci := 2) (v := .ref q1_) (ty := .object "NoSecond$Moving") (C := RX2) (T := TX2) (N := 13) hx hb hts iX2 tyX2 tyX2_ok nmX2 hown hK hP hD hS 0 rfl rfl 0 (by decide) (hts _ kw295) (fun _ h9 => h9) rfl hnm rfl (by decide +kernel) rfl rfl (Nat.le_of_ble_eq_true rfl) dX2_init_12 (fun H locs hP hD hS => ?_)
  have hP : va_P (dC, dI) vwCl [(h0, .inr (2, [.ref q1_, .null, .null, .null, .null, .null, .null, .int 0, .int 0, .int 0, .int 0, .int 0, .int 0])), (q1_, .inr (4, [.ref q2_, .ref q3_, .int 0, .int 0, .int 0])), (q2_, .inl (k4_, 7, .inl (fun _ => 0))), (q3_, .inl (k5_, 7, .inl (fun _ => 0)))] H := hP
  have hD : va_D A [(h0, .inr (2, [.ref q1_, .null, .null, .null, .null, .null, .null, .int 0, .int 0, .int 0, .int 0, .int 0, .int 0])), (q1_, .inr (4, [.ref q2_, .ref q3_, .int 0, .int 0, .int 0])), (q2_, .inl (k4_, 7, .inl (fun _ => 0))), (q3_, .inl (k5_, 7, .inl (fun _ => 0)))] := hD
  refine lv_aload_n hx hb dX2_init_15 rfl (lv_at hl 0 rfl) ?_
  refine lv_bipush (v := 7) hx hb dX2_init_16 (by decide) ?_
  refine va_newa (atype := .int) (ty := .int) (N' := 7) (a0 := (7, (.inl (fun _ => 0)))) hx hb (hts _ kw200) rfl hK hP hD hS hA (fun _ => rfl) (by decide) (by decide) (Nat.le_of_ble_eq_true rfl) (Nat.le_of_ble_eq_true rfl) (Nat.le_of_ble_eq_true rfl) dX2_init_18 (fun q8_ k9_ H hK hP hD hS => ?_)
  have hP : va_P (dC, dI) vwCl [(h0, .inr (2, [.ref q1_, .null, .null, .null, .null, .null, .null, .int 0, .int 0, .int 0, .int 0, .int 0, .int 0])), (q1_, .inr (4, [.ref q2_, .ref q3_, .int 0, .int 0, .int 0])), (q2_, .inl (k4_, 7, .inl (fun _ => 0))), (q3_, .inl (k5_, 7, .inl (fun _ => 0))), (q8_, .inl (k9_, 7, .inl (fun _ => 0)))] H := hP
  have hD : va_D A [(h0, .inr (2, [.ref q1_, .null, .null, .null, .null, .null, .null, .int 0, .int 0, .int 0, .int 0, .int 0, .int 0])), (q1_, .inr (4, [.ref q2_, .ref q3_, .int 0, .int 0, .int 0])), (q2_, .inl (k4_, 7, .inl (fun _ => 0))), (q3_, .inl (k5_, 7, .inl (fun _ => 0))), (q8_, .inl (k9_, 7, .inl (fun _ => 0)))] := hD
  have hK : va_K (dC, dI) vwCl [(k4_, .int), (k5_, .int), (k9_, .int)] s := hK
  refine va_putF (D := (dC, dI)) (ci := 2) (v := .ref q8_) (ty := .array .int) (C := RX2) (T := TX2) (N := 13) hx hb hts iX2 tyX2 tyX2_ok nmX2 hown hK hP hD hS 0 rfl rfl 1 (by decide) (hts _ kw300) (fun _ h9 => h9) rfl hnm rfl (by decide +kernel) rfl rfl (Nat.le_of_ble_eq_true rfl) dX2_init_20 (fun H locs hP hD hS => ?_)
  have hP : va_P (dC, dI) vwCl [(h0, .inr (2, [.ref q1_, .ref q8_, .null, .null, .null, .null, .null, .int 0, .int 0, .int 0, .int 0, .int 0, .int 0])), (q1_, .inr (4, [.ref q2_, .ref q3_, .int 0, .int 0, .int 0])), (q2_, .inl (k4_, 7, .inl (fun _ => 0))), (q3_, .inl (k5_, 7, .inl (fun _ => 0))), (q8_, .inl (k9_, 7, .inl (fun _ => 0)))] H := hP
  have hD : va_D A [(h0, .inr (2, [.ref q1_, .ref q8_, .null, .null, .null, .null, .null, .int 0, .int 0, .int 0, .int 0, .int 0, .int 0])), (q1_, .inr (4, [.ref q2_, .ref q3_, .int 0, .int 0, .int 0])), (q2_, .inl (k4_, 7, .inl (fun _ => 0))), (q3_, .inl (k5_, 7, .inl (fun _ => 0))), (q8_, .inl (k9_, 7, .inl (fun _ => 0)))] := hD
  refine lv_aload_n hx hb dX2_init_23 rfl (lv_at hl 0 rfl) ?_
  refine lv_bipush (v := 28) hx hb dX2_init_24 (by decide) ?_
  refine va_newa (atype := .int) (ty := .int) (N' := 28) (a0 := (28, (.inl (fun _ => 0)))) hx hb (hts _ kw200) rfl hK hP hD hS hA (fun _ => rfl) (by decide) (by decide) (Nat.le_of_ble_eq_true rfl) (Nat.le_of_ble_eq_true rfl) (Nat.le_of_ble_eq_true rfl) dX2_init_26 (fun q10_ k11_ H hK hP hD hS => ?_)
  have hP : va_P (dC, dI) vwCl [(h0, .inr (2, [.ref q1_, .ref q8_, .null, .null, .null, .null, .null, .int 0, .int 0, .int 0, .int 0, .int 0, .int 0])), (q1_, .inr (4, [.ref q2_, .ref q3_, .int 0, .int 0, .int 0])), (q2_, .inl (k4_, 7, .inl (fun _ => 0))), (q3_, .inl (k5_, 7, .inl (fun _ => 0))), (q8_, .inl (k9_, 7, .inl (fun _ => 0))), (q10_, .inl (k11_, 28, .inl (fun _ => 0)))] H := hP
  have hD : va_D A [(h0, .inr (2, [.ref q1_, .ref q8_, .null, .null, .null, .null, .null, .int 0, .int 0, .int 0, .int 0, .int 0, .int 0])), (q1_, .inr (4, [.ref q2_, .ref q3_, .int 0, .int 0, .int 0])), (q2_, .inl (k4_, 7, .inl (fun _ => 0))), (q3_, .inl (k5_, 7, .inl (fun _ => 0))), (q8_, .inl (k9_, 7, .inl (fun _ => 0))), (q10_, .inl (k11_, 28, .inl (fun _ => 0)))] := hD
  have hK : va_K (dC, dI) vwCl [(k4_, .int), (k5_, .int), (k9_, .int), (k11_, .int)] s := hK
  refine va_putF (D := (dC, dI)) (ci := 2) (v := .ref q10_) (ty := .array .int) (C := RX2) (T := TX2) (N := 13) hx hb hts iX2 tyX2 tyX2_ok nmX2 hown hK hP hD hS 0 rfl rfl 2 (by decide) (hts _ kw303) (fun _ h9 => h9) rfl hnm rfl (by decide +kernel) rfl rfl (Nat.le_of_ble_eq_true rfl) dX2_init_28 (fun H locs hP hD hS => ?_)
  have hP : va_P (dC, dI) vwCl [(h0, .inr (2, [.ref q1_, .ref q8_, .ref q10_, .null, .null, .null, .null, .int 0, .int 0, .int 0, .int 0, .int 0, .int 0])), (q1_, .inr (4, [.ref q2_, .ref q3_, .int 0, .int 0, .int 0])), (q2_, .inl (k4_, 7, .inl (fun _ => 0))), (q3_, .inl (k5_, 7, .inl (fun _ => 0))), (q8_, .inl (k9_, 7, .inl (fun _ => 0))), (q10_, .inl (k11_, 28, .inl (fun _ => 0)))] H := hP
  have hD : va_D A [(h0, .inr (2, [.ref q1_, .ref q8_, .ref q10_, .null, .null, .null, .null, .int 0, .int 0, .int 0, .int 0, .int 0, .int 0])), (q1_, .inr (4, [.ref q2_, .ref q3_, .int 0, .int 0, .int 0])), (q2_, .inl (k4_, 7, .inl (fun _ => 0))), (q3_, .inl (k5_, 7, .inl (fun _ => 0))), (q8_, .inl (k9_, 7, .inl (fun _ => 0))), (q10_, .inl (k11_, 28, .inl (fun _ => 0)))] := hD
  refine lv_aload_n hx hb dX2_init_31 rfl (lv_at hl 0 rfl) ?_
  refine lv_bipush (v := 7) hx hb dX2_init_32 (by decide) ?_
  refine va_newa (atype := .int) (ty := .int) (N' := 7) (a0 := (7, (.inl (fun _ => 0)))) hx hb (hts _ kw200) rfl hK hP hD hS hA (fun _ => rfl) (by decide) (by decide) (Nat.le_of_ble_eq_true rfl) (Nat.le_of_ble_eq_true rfl) (Nat.le_of_ble_eq_true rfl) dX2_init_34 (fun q12_ k13_ H hK hP hD hS => ?_)
  have hP : va_P (dC, dI) vwCl [(h0, .inr (2, [.ref q1_, .ref q8_, .ref q10_, .null, .null, .null, .null, .int 0, .int 0, .int 0, .int 0, .int 0, .int 0])), (q1_, .inr (4, [.ref q2_, .ref q3_, .int 0, .int 0, .int 0])), (q2_, .inl (k4_, 7, .inl (fun _ => 0))), (q3_, .inl (k5_, 7, .inl (fun _ => 0))), (q8_, .inl (k9_, 7, .inl (fun _ => 0))), (q10_, .inl (k11_, 28, .inl (fun _ => 0))), (q12_, .inl (k13_, 7, .inl (fun _ => 0)))] H := hP
  have hD : va_D A [(h0, .inr (2, [.ref q1_, .ref q8_, .ref q10_, .null, .null, .null, .null, .int 0, .int 0, .int 0, .int 0, .int 0, .int 0])), (q1_, .inr (4, [.ref q2_, .ref q3_, .int 0, .int 0, .int 0])), (q2_, .inl (k4_, 7, .inl (fun _ => 0))), (q3_, .inl (k5_, 7, .inl (fun _ => 0))), (q8_, .inl (k9_, 7, .inl (fun _ => 0))), (q10_, .inl (k11_, 28, .inl (fun _ => 0))), (q12_, .inl (k13_, 7, .inl (fun _ => 0)))] := hD
  have hK : va_K (dC, dI) vwCl [(k4_, .int), (k5_, .int), (k9_, .int), (k11_, .int), (k13_, .int)] s := hK
  refine va_putF (D := (dC, dI)) (ci := 2) (v := .ref q12_) (ty := .array .int) (C := RX2) (T := TX2) (N := 13) hx hb hts iX2 tyX2 tyX2_ok nmX2 hown hK hP hD hS 0 rfl rfl 3 (by decide) (hts _ kw307) (fun _ h9 => h9) rfl hnm rfl (by decide +kernel) rfl rfl (Nat.le_of_ble_eq_true rfl) dX2_init_36 (fun H locs hP hD hS => ?_)
  have hP : va_P (dC, dI) vwCl [(h0, .inr (2, [.ref q1_, .ref q8_, .ref q10_, .ref q12_, .null, .null, .null, .int 0, .int 0, .int 0, .int 0, .int 0, .int 0])), (q1_, .inr (4, [.ref q2_, .ref q3_, .int 0, .int 0, .int 0])), (q2_, .inl (k4_, 7, .inl (fun _ => 0))), (q3_, .inl (k5_, 7, .inl (fun _ => 0))), (q8_, .inl (k9_, 7, .inl (fun _ => 0))), (q10_, .inl (k11_, 28, .inl (fun _ => 0))), (q12_, .inl (k13_, 7, .inl (fun _ => 0)))] H := hP
  have hD : va_D A [(h0, .inr (2, [.ref q1_, .ref q8_, .ref q10_, .ref q12_, .null, .null, .null, .int 0, .int 0, .int 0, .int 0, .int 0, .int 0])), (q1_, .inr (4, [.ref q2_, .ref q3_, .int 0, .int 0, .int 0])), (q2_, .inl (k4_, 7, .inl (fun _ => 0))), (q3_, .inl (k5_, 7, .inl (fun _ => 0))), (q8_, .inl (k9_, 7, .inl (fun _ => 0))), (q10_, .inl (k11_, 28, .inl (fun _ => 0))), (q12_, .inl (k13_, 7, .inl (fun _ => 0)))] := hD
  refine lv_aload_n hx hb dX2_init_39 rfl (lv_at hl 0 rfl) ?_
  refine lv_bipush (v := 6) hx hb dX2_init_40 (by decide) ?_
  refine va_newa (atype := .int) (ty := .int) (N' := 6) (a0 := (6, (.inl (fun _ => 0)))) hx hb (hts _ kw200) rfl hK hP hD hS hA (fun _ => rfl) (by decide) (by decide) (Nat.le_of_ble_eq_true rfl) (Nat.le_of_ble_eq_true rfl) (Nat.le_of_ble_eq_true rfl) dX2_init_42 (fun q14_ k15_ H hK hP hD hS => ?_)
  have hP : va_P (dC, dI) vwCl [(h0, .inr (2, [.ref q1_, .ref q8_, .ref q10_, .ref q12_, .null, .null, .null, .int 0, .int 0, .int 0, .int 0, .int 0, .int 0])), (q1_, .inr (4, [.ref q2_, .ref q3_, .int 0, .int 0, .int 0])), (q2_, .inl (k4_, 7, .inl (fun _ => 0))), (q3_, .inl (k5_, 7, .inl (fun _ => 0))), (q8_, .inl (k9_, 7, .inl (fun _ => 0))), (q10_, .inl (k11_, 28, .inl (fun _ => 0))), (q12_, .inl (k13_, 7, .inl (fun _ => 0))), (q14_, .inl (k15_, 6, .inl (fun _ => 0)))] H := hP
  have hD : va_D A [(h0, .inr (2, [.ref q1_, .ref q8_, .ref q10_, .ref q12_, .null, .null, .null, .int 0, .int 0, .int 0, .int 0, .int 0, .int 0])), (q1_, .inr (4, [.ref q2_, .ref q3_, .int 0, .int 0, .int 0])), (q2_, .inl (k4_, 7, .inl (fun _ => 0))), (q3_, .inl (k5_, 7, .inl (fun _ => 0))), (q8_, .inl (k9_, 7, .inl (fun _ => 0))), (q10_, .inl (k11_, 28, .inl (fun _ => 0))), (q12_, .inl (k13_, 7, .inl (fun _ => 0))), (q14_, .inl (k15_, 6, .inl (fun _ => 0)))] := hD
  have hK : va_K (dC, dI) vwCl [(k4_, .int), (k5_, .int), (k9_, .int), (k11_, .int), (k13_, .int), (k15_, .int)] s := hK
  refine va_putF (D := (dC, dI)) (ci := 2) (v := .ref q14_) (ty := .array .int) (C := RX2) (T := TX2) (N := 13) hx hb hts iX2 tyX2 tyX2_ok nmX2 hown hK hP hD hS 0 rfl rfl 4 (by decide) (hts _ kw310) (fun _ h9 => h9) rfl hnm rfl (by decide +kernel) rfl rfl (Nat.le_of_ble_eq_true rfl) dX2_init_44 (fun H locs hP hD hS => ?_)
  have hP : va_P (dC, dI) vwCl [(h0, .inr (2, [.ref q1_, .ref q8_, .ref q10_, .ref q12_, .ref q14_, .null, .null, .int 0, .int 0, .int 0, .int 0, .int 0, .int 0])), (q1_, .inr (4, [.ref q2_, .ref q3_, .int 0, .int 0, .int 0])), (q2_, .inl (k4_, 7, .inl (fun _ => 0))), (q3_, .inl (k5_, 7, .inl (fun _ => 0))), (q8_, .inl (k9_, 7, .inl (fun _ => 0))), (q10_, .inl (k11_, 28, .inl (fun _ => 0))), (q12_, .inl (k13_, 7, .inl (fun _ => 0))), (q14_, .inl (k15_, 6, .inl (fun _ => 0)))] H := hP
  have hD : va_D A [(h0, .inr (2, [.ref q1_, .ref q8_, .ref q10_, .ref q12_, .ref q14_, .null, .null, .int 0, .int 0, .int 0, .int 0, .int 0, .int 0])), (q1_, .inr (4, [.ref q2_, .ref q3_, .int 0, .int 0, .int 0])), (q2_, .inl (k4_, 7, .inl (fun _ => 0))), (q3_, .inl (k5_, 7, .inl (fun _ => 0))), (q8_, .inl (k9_, 7, .inl (fun _ => 0))), (q10_, .inl (k11_, 28, .inl (fun _ => 0))), (q12_, .inl (k13_, 7, .inl (fun _ => 0))), (q14_, .inl (k15_, 6, .inl (fun _ => 0)))] := hD
  refine lv_aload_n hx hb dX2_init_47 rfl (lv_at hl 0 rfl) ?_
  refine lv_bipush (v := 6) hx hb dX2_init_48 (by decide) ?_
  refine va_newa (atype := .int) (ty := .int) (N' := 6) (a0 := (6, (.inl (fun _ => 0)))) hx hb (hts _ kw200) rfl hK hP hD hS hA (fun _ => rfl) (by decide) (by decide) (Nat.le_of_ble_eq_true rfl) (Nat.le_of_ble_eq_true rfl) (Nat.le_of_ble_eq_true rfl) dX2_init_50 (fun q16_ k17_ H hK hP hD hS => ?_)
  have hP : va_P (dC, dI) vwCl [(h0, .inr (2, [.ref q1_, .ref q8_, .ref q10_, .ref q12_, .ref q14_, .null, .null, .int 0, .int 0, .int 0, .int 0, .int 0, .int 0])), (q1_, .inr (4, [.ref q2_, .ref q3_, .int 0, .int 0, .int 0])), (q2_, .inl (k4_, 7, .inl (fun _ => 0))), (q3_, .inl (k5_, 7, .inl (fun _ => 0))), (q8_, .inl (k9_, 7, .inl (fun _ => 0))), (q10_, .inl (k11_, 28, .inl (fun _ => 0))), (q12_, .inl (k13_, 7, .inl (fun _ => 0))), (q14_, .inl (k15_, 6, .inl (fun _ => 0))), (q16_, .inl (k17_, 6, .inl (fun _ => 0)))] H := hP
  have hD : va_D A [(h0, .inr (2, [.ref q1_, .ref q8_, .ref q10_, .ref q12_, .ref q14_, .null, .null, .int 0, .int 0, .int 0, .int 0, .int 0, .int 0])), (q1_, .inr (4, [.ref q2_, .ref q3_, .int 0, .int 0, .int 0])), (q2_, .inl (k4_, 7, .inl (fun _ => 0))), (q3_, .inl (k5_, 7, .inl (fun _ => 0))), (q8_, .inl (k9_, 7, .inl (fun _ => 0))), (q10_, .inl (k11_, 28, .inl (fun _ => 0))), (q12_, .inl (k13_, 7, .inl (fun _ => 0))), (q14_, .inl (k15_, 6, .inl (fun _ => 0))), (q16_, .inl (k17_, 6, .inl (fun _ => 0)))] := hD
  have hK : va_K (dC, dI) vwCl [(k4_, .int), (k5_, .int), (k9_, .int), (k11_, .int), (k13_, .int), (k15_, .int), (k17_, .int)] s := hK
  refine va_putF (D := (dC, dI)) (ci := 2) (v := .ref q16_) (ty := .array .int) (C := RX2) (T := TX2) (N := 13) hx hb hts iX2 tyX2 tyX2_ok nmX2 hown hK hP hD hS 0 rfl rfl 5 (by decide) (hts _ kw312) (fun _ h9 => h9) rfl hnm rfl (by decide +kernel) rfl rfl (Nat.le_of_ble_eq_true rfl) dX2_init_52 (fun H locs hP hD hS => ?_)
  have hP : va_P (dC, dI) vwCl [(h0, .inr (2, [.ref q1_, .ref q8_, .ref q10_, .ref q12_, .ref q14_, .ref q16_, .null, .int 0, .int 0, .int 0, .int 0, .int 0, .int 0])), (q1_, .inr (4, [.ref q2_, .ref q3_, .int 0, .int 0, .int 0])), (q2_, .inl (k4_, 7, .inl (fun _ => 0))), (q3_, .inl (k5_, 7, .inl (fun _ => 0))), (q8_, .inl (k9_, 7, .inl (fun _ => 0))), (q10_, .inl (k11_, 28, .inl (fun _ => 0))), (q12_, .inl (k13_, 7, .inl (fun _ => 0))), (q14_, .inl (k15_, 6, .inl (fun _ => 0))), (q16_, .inl (k17_, 6, .inl (fun _ => 0)))] H := hP
  have hD : va_D A [(h0, .inr (2, [.ref q1_, .ref q8_, .ref q10_, .ref q12_, .ref q14_, .ref q16_, .null, .int 0, .int 0, .int 0, .int 0, .int 0, .int 0])), (q1_, .inr (4, [.ref q2_, .ref q3_, .int 0, .int 0, .int 0])), (q2_, .inl (k4_, 7, .inl (fun _ => 0))), (q3_, .inl (k5_, 7, .inl (fun _ => 0))), (q8_, .inl (k9_, 7, .inl (fun _ => 0))), (q10_, .inl (k11_, 28, .inl (fun _ => 0))), (q12_, .inl (k13_, 7, .inl (fun _ => 0))), (q14_, .inl (k15_, 6, .inl (fun _ => 0))), (q16_, .inl (k17_, 6, .inl (fun _ => 0)))] := hD
  refine lv_aload_n hx hb dX2_init_55 rfl (lv_at hl 0 rfl) ?_
  refine lv_bipush (v := 6) hx hb dX2_init_56 (by decide) ?_
  refine va_newq (C := RX0) (N' := 6) hx hb hown (hts _ kw293) hX.1.2.2.2.2.2.2.2.1 hK hP hD hS hA (by decide) (by decide) (Nat.le_of_ble_eq_true rfl) (Nat.le_of_ble_eq_true rfl) (Nat.le_of_ble_eq_true rfl) dX2_init_58 (fun q18_ k19_ H hK hP hD hS => ?_)
  have hP : va_P (dC, dI) vwCl [(h0, .inr (2, [.ref q1_, .ref q8_, .ref q10_, .ref q12_, .ref q14_, .ref q16_, .null, .int 0, .int 0, .int 0, .int 0, .int 0, .int 0])), (q1_, .inr (4, [.ref q2_, .ref q3_, .int 0, .int 0, .int 0])), (q2_, .inl (k4_, 7, .inl (fun _ => 0))), (q3_, .inl (k5_, 7, .inl (fun _ => 0))), (q8_, .inl (k9_, 7, .inl (fun _ => 0))), (q10_, .inl (k11_, 28, .inl (fun _ => 0))), (q12_, .inl (k13_, 7, .inl (fun _ => 0))), (q14_, .inl (k15_, 6, .inl (fun _ => 0))), (q16_, .inl (k17_, 6, .inl (fun _ => 0))), (q18_, .inl (k19_, 6, .inr (.inr (.inr (.inr (fun _ => none))))))] H := hP
  have hD : va_D A [(h0, .inr (2, [.ref q1_, .ref q8_, .ref q10_, .ref q12_, .ref q14_, .ref q16_, .null, .int 0, .int 0, .int 0, .int 0, .int 0, .int 0])), (q1_, .inr (4, [.ref q2_, .ref q3_, .int 0, .int 0, .int 0])), (q2_, .inl (k4_, 7, .inl (fun _ => 0))), (q3_, .inl (k5_, 7, .inl (fun _ => 0))), (q8_, .inl (k9_, 7, .inl (fun _ => 0))), (q10_, .inl (k11_, 28, .inl (fun _ => 0))), (q12_, .inl (k13_, 7, .inl (fun _ => 0))), (q14_, .inl (k15_, 6, .inl (fun _ => 0))), (q16_, .inl (k17_, 6, .inl (fun _ => 0))), (q18_, .inl (k19_, 6, .inr (.inr (.inr (.inr (fun _ => none))))))] := hD
  have hK : va_K (dC, dI) vwCl [(k4_, .int), (k5_, .int), (k9_, .int), (k11_, .int), (k13_, .int), (k15_, .int), (k17_, .int), (k19_, .object RX0)] s := hK
  refine va_putF (D := (dC, dI)) (ci := 2) (v := .ref q18_) (ty := .array (.object "NoSecond$Code")) (C := RX2) (T := TX2) (N := 13) hx hb hts iX2 tyX2 tyX2_ok nmX2 hown hK hP hD hS 0 rfl rfl 6 (by decide) (hts _ kw314) (fun _ h9 => h9) rfl hnm rfl (by decide +kernel) rfl rfl (Nat.le_of_ble_eq_true rfl) dX2_init_61 (fun H locs hP hD hS => ?_)
  have hP : va_P (dC, dI) vwCl [(h0, .inr (2, [.ref q1_, .ref q8_, .ref q10_, .ref q12_, .ref q14_, .ref q16_, .ref q18_, .int 0, .int 0, .int 0, .int 0, .int 0, .int 0])), (q1_, .inr (4, [.ref q2_, .ref q3_, .int 0, .int 0, .int 0])), (q2_, .inl (k4_, 7, .inl (fun _ => 0))), (q3_, .inl (k5_, 7, .inl (fun _ => 0))), (q8_, .inl (k9_, 7, .inl (fun _ => 0))), (q10_, .inl (k11_, 28, .inl (fun _ => 0))), (q12_, .inl (k13_, 7, .inl (fun _ => 0))), (q14_, .inl (k15_, 6, .inl (fun _ => 0))), (q16_, .inl (k17_, 6, .inl (fun _ => 0))), (q18_, .inl (k19_, 6, .inr (.inr (.inr (.inr (fun _ => none))))))] H := hP
  have hD : va_D A [(h0, .inr (2, [.ref q1_, .ref q8_, .ref q10_, .ref q12_, .ref q14_, .ref q16_, .ref q18_, .int 0, .int 0, .int 0, .int 0, .int 0, .int 0])), (q1_, .inr (4, [.ref q2_, .ref q3_, .int 0, .int 0, .int 0])), (q2_, .inl (k4_, 7, .inl (fun _ => 0))), (q3_, .inl (k5_, 7, .inl (fun _ => 0))), (q8_, .inl (k9_, 7, .inl (fun _ => 0))), (q10_, .inl (k11_, 28, .inl (fun _ => 0))), (q12_, .inl (k13_, 7, .inl (fun _ => 0))), (q14_, .inl (k15_, 6, .inl (fun _ => 0))), (q16_, .inl (k17_, 6, .inl (fun _ => 0))), (q18_, .inl (k19_, 6, .inr (.inr (.inr (.inr (fun _ => none))))))] := hD
  refine lv_aload_n hx hb dX2_init_64 rfl (lv_at hl 0 rfl) ?_
  refine lv_iconst (v := 0) hx hb dX2_init_65 (by decide) ?_
  refine va_put (D := (dC, dI)) (ci := 2) (v := .int 0) (ty := .int) (C := RX2) (T := TX2) (N := 13) hx hb hts iX2 tyX2 tyX2_ok nmX2 hown hK hP hD hS 0 rfl rfl 7 (by decide) (hts _ kw315) (fun _ h9 => h9) rfl (by decide +kernel) rfl rfl (Nat.le_of_ble_eq_true rfl) dX2_init_66 (fun H locs hP hD hS => ?_)
  have hP : va_P (dC, dI) vwCl [(h0, .inr (2, [.ref q1_, .ref q8_, .ref q10_, .ref q12_, .ref q14_, .ref q16_, .ref q18_, .int 0, .int 0, .int 0, .int 0, .int 0, .int 0])), (q1_, .inr (4, [.ref q2_, .ref q3_, .int 0, .int 0, .int 0])), (q2_, .inl (k4_, 7, .inl (fun _ => 0))), (q3_, .inl (k5_, 7, .inl (fun _ => 0))), (q8_, .inl (k9_, 7, .inl (fun _ => 0))), (q10_, .inl (k11_, 28, .inl (fun _ => 0))), (q12_, .inl (k13_, 7, .inl (fun _ => 0))), (q14_, .inl (k15_, 6, .inl (fun _ => 0))), (q16_, .inl (k17_, 6, .inl (fun _ => 0))), (q18_, .inl (k19_, 6, .inr (.inr (.inr (.inr (fun _ => none))))))] H := hP
  have hD : va_D A [(h0, .inr (2, [.ref q1_, .ref q8_, .ref q10_, .ref q12_, .ref q14_, .ref q16_, .ref q18_, .int 0, .int 0, .int 0, .int 0, .int 0, .int 0])), (q1_, .inr (4, [.ref q2_, .ref q3_, .int 0, .int 0, .int 0])), (q2_, .inl (k4_, 7, .inl (fun _ => 0))), (q3_, .inl (k5_, 7, .inl (fun _ => 0))), (q8_, .inl (k9_, 7, .inl (fun _ => 0))), (q10_, .inl (k11_, 28, .inl (fun _ => 0))), (q12_, .inl (k13_, 7, .inl (fun _ => 0))), (q14_, .inl (k15_, 6, .inl (fun _ => 0))), (q16_, .inl (k17_, 6, .inl (fun _ => 0))), (q18_, .inl (k19_, 6, .inr (.inr (.inr (.inr (fun _ => none))))))] := hD
  refine lv_aload_n hx hb dX2_init_69 rfl (lv_at hl 0 rfl) ?_
  refine lv_iconst (v := 0) hx hb dX2_init_70 (by decide) ?_
  refine va_put (D := (dC, dI)) (ci := 2) (v := .int 0) (ty := .int) (C := RX2) (T := TX2) (N := 13) hx hb hts iX2 tyX2 tyX2_ok nmX2 hown hK hP hD hS 0 rfl rfl 8 (by decide) (hts _ kw319) (fun _ h9 => h9) rfl (by decide +kernel) rfl rfl (Nat.le_of_ble_eq_true rfl) dX2_init_71 (fun H locs hP hD hS => ?_)
  have hP : va_P (dC, dI) vwCl [(h0, .inr (2, [.ref q1_, .ref q8_, .ref q10_, .ref q12_, .ref q14_, .ref q16_, .ref q18_, .int 0, .int 0, .int 0, .int 0, .int 0, .int 0])), (q1_, .inr (4, [.ref q2_, .ref q3_, .int 0, .int 0, .int 0])), (q2_, .inl (k4_, 7, .inl (fun _ => 0))), (q3_, .inl (k5_, 7, .inl (fun _ => 0))), (q8_, .inl (k9_, 7, .inl (fun _ => 0))), (q10_, .inl (k11_, 28, .inl (fun _ => 0))), (q12_, .inl (k13_, 7, .inl (fun _ => 0))), (q14_, .inl (k15_, 6, .inl (fun _ => 0))), (q16_, .inl (k17_, 6, .inl (fun _ => 0))), (q18_, .inl (k19_, 6, .inr (.inr (.inr (.inr (fun _ => none))))))] H := hP
  have hD : va_D A [(h0, .inr (2, [.ref q1_, .ref q8_, .ref q10_, .ref q12_, .ref q14_, .ref q16_, .ref q18_, .int 0, .int 0, .int 0, .int 0, .int 0, .int 0])), (q1_, .inr (4, [.ref q2_, .ref q3_, .int 0, .int 0, .int 0])), (q2_, .inl (k4_, 7, .inl (fun _ => 0))), (q3_, .inl (k5_, 7, .inl (fun _ => 0))), (q8_, .inl (k9_, 7, .inl (fun _ => 0))), (q10_, .inl (k11_, 28, .inl (fun _ => 0))), (q12_, .inl (k13_, 7, .inl (fun _ => 0))), (q14_, .inl (k15_, 6, .inl (fun _ => 0))), (q16_, .inl (k17_, 6, .inl (fun _ => 0))), (q18_, .inl (k19_, 6, .inr (.inr (.inr (.inr (fun _ => none))))))] := hD
  refine lv_aload_n hx hb dX2_init_74 rfl (lv_at hl 0 rfl) ?_
  refine lv_iconst (v := 0) hx hb dX2_init_75 (by decide) ?_
  refine va_put (D := (dC, dI)) (ci := 2) (v := .int 0) (ty := .int) (C := RX2) (T := TX2) (N := 13) hx hb hts iX2 tyX2 tyX2_ok nmX2 hown hK hP hD hS 0 rfl rfl 9 (by decide) (hts _ kw322) (fun _ h9 => h9) rfl (by decide +kernel) rfl rfl (Nat.le_of_ble_eq_true rfl) dX2_init_76 (fun H locs hP hD hS => ?_)
  have hP : va_P (dC, dI) vwCl [(h0, .inr (2, [.ref q1_, .ref q8_, .ref q10_, .ref q12_, .ref q14_, .ref q16_, .ref q18_, .int 0, .int 0, .int 0, .int 0, .int 0, .int 0])), (q1_, .inr (4, [.ref q2_, .ref q3_, .int 0, .int 0, .int 0])), (q2_, .inl (k4_, 7, .inl (fun _ => 0))), (q3_, .inl (k5_, 7, .inl (fun _ => 0))), (q8_, .inl (k9_, 7, .inl (fun _ => 0))), (q10_, .inl (k11_, 28, .inl (fun _ => 0))), (q12_, .inl (k13_, 7, .inl (fun _ => 0))), (q14_, .inl (k15_, 6, .inl (fun _ => 0))), (q16_, .inl (k17_, 6, .inl (fun _ => 0))), (q18_, .inl (k19_, 6, .inr (.inr (.inr (.inr (fun _ => none))))))] H := hP
  have hD : va_D A [(h0, .inr (2, [.ref q1_, .ref q8_, .ref q10_, .ref q12_, .ref q14_, .ref q16_, .ref q18_, .int 0, .int 0, .int 0, .int 0, .int 0, .int 0])), (q1_, .inr (4, [.ref q2_, .ref q3_, .int 0, .int 0, .int 0])), (q2_, .inl (k4_, 7, .inl (fun _ => 0))), (q3_, .inl (k5_, 7, .inl (fun _ => 0))), (q8_, .inl (k9_, 7, .inl (fun _ => 0))), (q10_, .inl (k11_, 28, .inl (fun _ => 0))), (q12_, .inl (k13_, 7, .inl (fun _ => 0))), (q14_, .inl (k15_, 6, .inl (fun _ => 0))), (q16_, .inl (k17_, 6, .inl (fun _ => 0))), (q18_, .inl (k19_, 6, .inr (.inr (.inr (.inr (fun _ => none))))))] := hD
  refine lv_aload_n hx hb dX2_init_79 rfl (lv_at hl 0 rfl) ?_
  refine lv_iconst (v := (-1)) hx hb dX2_init_80 (by decide) ?_
  refine va_put (D := (dC, dI)) (ci := 2) (v := .int (-1)) (ty := .int) (C := RX2) (T := TX2) (N := 13) hx hb hts iX2 tyX2 tyX2_ok nmX2 hown hK hP hD hS 0 rfl rfl 10 (by decide) (hts _ kw324) (fun _ h9 => h9) rfl (by decide +kernel) rfl rfl (Nat.le_of_ble_eq_true rfl) dX2_init_81 (fun H locs hP hD hS => ?_)
  have hP : va_P (dC, dI) vwCl [(h0, .inr (2, [.ref q1_, .ref q8_, .ref q10_, .ref q12_, .ref q14_, .ref q16_, .ref q18_, .int 0, .int 0, .int 0, .int (-1), .int 0, .int 0])), (q1_, .inr (4, [.ref q2_, .ref q3_, .int 0, .int 0, .int 0])), (q2_, .inl (k4_, 7, .inl (fun _ => 0))), (q3_, .inl (k5_, 7, .inl (fun _ => 0))), (q8_, .inl (k9_, 7, .inl (fun _ => 0))), (q10_, .inl (k11_, 28, .inl (fun _ => 0))), (q12_, .inl (k13_, 7, .inl (fun _ => 0))), (q14_, .inl (k15_, 6, .inl (fun _ => 0))), (q16_, .inl (k17_, 6, .inl (fun _ => 0))), (q18_, .inl (k19_, 6, .inr (.inr (.inr (.inr (fun _ => none))))))] H := hP
  have hD : va_D A [(h0, .inr (2, [.ref q1_, .ref q8_, .ref q10_, .ref q12_, .ref q14_, .ref q16_, .ref q18_, .int 0, .int 0, .int 0, .int (-1), .int 0, .int 0])), (q1_, .inr (4, [.ref q2_, .ref q3_, .int 0, .int 0, .int 0])), (q2_, .inl (k4_, 7, .inl (fun _ => 0))), (q3_, .inl (k5_, 7, .inl (fun _ => 0))), (q8_, .inl (k9_, 7, .inl (fun _ => 0))), (q10_, .inl (k11_, 28, .inl (fun _ => 0))), (q12_, .inl (k13_, 7, .inl (fun _ => 0))), (q14_, .inl (k15_, 6, .inl (fun _ => 0))), (q16_, .inl (k17_, 6, .inl (fun _ => 0))), (q18_, .inl (k19_, 6, .inr (.inr (.inr (.inr (fun _ => none))))))] := hD
  refine lv_aload_n hx hb dX2_init_84 rfl (lv_at hl 0 rfl) ?_
  refine lv_iconst (v := 1) hx hb dX2_init_85 (by decide) ?_
  refine va_put (D := (dC, dI)) (ci := 2) (v := .int 1) (ty := .int) (C := RX2) (T := TX2) (N := 13) hx hb hts iX2 tyX2 tyX2_ok nmX2 hown hK hP hD hS 0 rfl rfl 11 (by decide) (hts _ kw326) (fun _ h9 => h9) rfl (by decide +kernel) rfl rfl (Nat.le_of_ble_eq_true rfl) dX2_init_86 (fun H locs hP hD hS => ?_)
  have hP : va_P (dC, dI) vwCl [(h0, .inr (2, [.ref q1_, .ref q8_, .ref q10_, .ref q12_, .ref q14_, .ref q16_, .ref q18_, .int 0, .int 0, .int 0, .int (-1), .int 1, .int 0])), (q1_, .inr (4, [.ref q2_, .ref q3_, .int 0, .int 0, .int 0])), (q2_, .inl (k4_, 7, .inl (fun _ => 0))), (q3_, .inl (k5_, 7, .inl (fun _ => 0))), (q8_, .inl (k9_, 7, .inl (fun _ => 0))), (q10_, .inl (k11_, 28, .inl (fun _ => 0))), (q12_, .inl (k13_, 7, .inl (fun _ => 0))), (q14_, .inl (k15_, 6, .inl (fun _ => 0))), (q16_, .inl (k17_, 6, .inl (fun _ => 0))), (q18_, .inl (k19_, 6, .inr (.inr (.inr (.inr (fun _ => none))))))] H := hP
  have hD : va_D A [(h0, .inr (2, [.ref q1_, .ref q8_, .ref q10_, .ref q12_, .ref q14_, .ref q16_, .ref q18_, .int 0, .int 0, .int 0, .int (-1), .int 1, .int 0])), (q1_, .inr (4, [.ref q2_, .ref q3_, .int 0, .int 0, .int 0])), (q2_, .inl (k4_, 7, .inl (fun _ => 0))), (q3_, .inl (k5_, 7, .inl (fun _ => 0))), (q8_, .inl (k9_, 7, .inl (fun _ => 0))), (q10_, .inl (k11_, 28, .inl (fun _ => 0))), (q12_, .inl (k13_, 7, .inl (fun _ => 0))), (q14_, .inl (k15_, 6, .inl (fun _ => 0))), (q16_, .inl (k17_, 6, .inl (fun _ => 0))), (q18_, .inl (k19_, 6, .inr (.inr (.inr (.inr (fun _ => none))))))] := hD
  refine lv_aload_n hx hb dX2_init_89 rfl (lv_at hl 0 rfl) ?_
  refine lv_iconst (v := 0) hx hb dX2_init_90 (by decide) ?_
  refine va_put (D := (dC, dI)) (ci := 2) (v := .int 0) (ty := .int) (C := RX2) (T := TX2) (N := 13) hx hb hts iX2 tyX2 tyX2_ok nmX2 hown hK hP hD hS 0 rfl rfl 12 (by decide) (hts _ kw328) (fun _ h9 => h9) rfl (by decide +kernel) rfl rfl (Nat.le_of_ble_eq_true rfl) dX2_init_91 (fun H locs hP hD hS => ?_)
  have hP : va_P (dC, dI) vwCl [(h0, .inr (2, [.ref q1_, .ref q8_, .ref q10_, .ref q12_, .ref q14_, .ref q16_, .ref q18_, .int 0, .int 0, .int 0, .int (-1), .int 1, .int 0])), (q1_, .inr (4, [.ref q2_, .ref q3_, .int 0, .int 0, .int 0])), (q2_, .inl (k4_, 7, .inl (fun _ => 0))), (q3_, .inl (k5_, 7, .inl (fun _ => 0))), (q8_, .inl (k9_, 7, .inl (fun _ => 0))), (q10_, .inl (k11_, 28, .inl (fun _ => 0))), (q12_, .inl (k13_, 7, .inl (fun _ => 0))), (q14_, .inl (k15_, 6, .inl (fun _ => 0))), (q16_, .inl (k17_, 6, .inl (fun _ => 0))), (q18_, .inl (k19_, 6, .inr (.inr (.inr (.inr (fun _ => none))))))] H := hP
  have hD : va_D A [(h0, .inr (2, [.ref q1_, .ref q8_, .ref q10_, .ref q12_, .ref q14_, .ref q16_, .ref q18_, .int 0, .int 0, .int 0, .int (-1), .int 1, .int 0])), (q1_, .inr (4, [.ref q2_, .ref q3_, .int 0, .int 0, .int 0])), (q2_, .inl (k4_, 7, .inl (fun _ => 0))), (q3_, .inl (k5_, 7, .inl (fun _ => 0))), (q8_, .inl (k9_, 7, .inl (fun _ => 0))), (q10_, .inl (k11_, 28, .inl (fun _ => 0))), (q12_, .inl (k13_, 7, .inl (fun _ => 0))), (q14_, .inl (k15_, 6, .inl (fun _ => 0))), (q16_, .inl (k17_, 6, .inl (fun _ => 0))), (q18_, .inl (k19_, 6, .inr (.inr (.inr (.inr (fun _ => none))))))] := hD
  refine W.widen (k := 9) (n := 79) (Nat.le_of_ble_eq_true rfl) (Nat.le_of_ble_eq_true rfl) ?_
  have hK : va_K (dC, dI) vwCl [(k9_, .int), (k11_, .int), (k13_, .int), (k15_, .int), (k17_, .int), (k19_, .object RX0), (k4_, .int), (k5_, .int)] s := hK.sub [2, 3, 4, 5, 6, 7, 0, 1] rfl
  have hP : va_P (dC, dI) vwCl [(h0, .inr (2, [.ref q1_, .ref q8_, .ref q10_, .ref q12_, .ref q14_, .ref q16_, .ref q18_, .int 0, .int 0, .int 0, .int (-1), .int 1, .int 0])), (q8_, .inl (k9_, 7, .inl (fun _ => 0))), (q10_, .inl (k11_, 28, .inl (fun _ => 0))), (q12_, .inl (k13_, 7, .inl (fun _ => 0))), (q14_, .inl (k15_, 6, .inl (fun _ => 0))), (q16_, .inl (k17_, 6, .inl (fun _ => 0))), (q18_, .inl (k19_, 6, .inr (.inr (.inr (.inr (fun _ => none)))))), (q1_, .inr (4, [.ref q2_, .ref q3_, .int 0, .int 0, .int 0])), (q2_, .inl (k4_, 7, .inl (fun _ => 0))), (q3_, .inl (k5_, 7, .inl (fun _ => 0)))] H := hP.sub [0, 4, 5, 6, 7, 8, 9, 1, 2, 3] rfl
  have hD : va_D A [(h0, .inr (2, [.ref q1_, .ref q8_, .ref q10_, .ref q12_, .ref q14_, .ref q16_, .ref q18_, .int 0, .int 0, .int 0, .int (-1), .int 1, .int 0])), (q8_, .inl (k9_, 7, .inl (fun _ => 0))), (q10_, .inl (k11_, 28, .inl (fun _ => 0))), (q12_, .inl (k13_, 7, .inl (fun _ => 0))), (q14_, .inl (k15_, 6, .inl (fun _ => 0))), (q16_, .inl (k17_, 6, .inl (fun _ => 0))), (q18_, .inl (k19_, 6, .inr (.inr (.inr (.inr (fun _ => none)))))), (q1_, .inr (4, [.ref q2_, .ref q3_, .int 0, .int 0, .int 0])), (q2_, .inl (k4_, 7, .inl (fun _ => 0))), (q3_, .inl (k5_, 7, .inl (fun _ => 0)))] := hD.sub [0, 4, 5, 6, 7, 8, 9, 1, 2, 3] (by decide) rfl
  exact xrn_v (X := (Nat × (Nat → Nat) × (Nat → ClassId) × (Nat → Nat) × (Nat → ClassId))) (L1 := (fun x => [wX2 h0 x.1 x.2.1 x.2.2.1 ob2, wX4 x.1 x.2.2.2.1 x.2.2.2.2 ob0])) (T1 := (fun x => [tX2 x.2.2.1, tX4 x.2.2.2.2])) (P := fun _ => True) (q1_, (fun i => match i with | 1 => q8_ | 2 => q10_ | 3 => q12_ | 4 => q14_ | 5 => q16_ | 6 => q18_ | _ => 0), (fun i => match i with | 1 => k9_ | 2 => k11_ | 3 => k13_ | 4 => k15_ | 5 => k17_ | 6 => k19_ | _ => k9_), (fun i => match i with | 0 => q2_ | 1 => q3_ | _ => 0), (fun i => match i with | 0 => k4_ | 1 => k5_ | _ => k4_)) hx hb hr hlk hK ⟨hP, hD, hS⟩ trivial dX2_init_94

def f_X0_kept2 (nc_me ns_me nc_nw ns_nw : Nat) (o_me : Ob) (o_nw : Ob) : Option Ob :=
  zgd (zcp (0 : Int32) (0 : Int32) (gI o_me 7) nc_me nc_nw) <|
  zlt (cA o_nw 0 (gA o_me 0) (0 : Int32) (0 : Int32) (gI o_me 7)) fun o2 =>
  zgd (zcp (0 : Int32) (0 : Int32) (gI o_me 7) nc_me nc_nw) <|
  zlt (cA o2 1 (gA o_me 1) (0 : Int32) (0 : Int32) (gI o_me 7)) fun o4 =>
  zgd (zcp (0 : Int32) (0 : Int32) (gI o_me 7) nc_me nc_nw) <|
  zlt (cA o4 2 (gA o_me 2) (0 : Int32) (0 : Int32) (gI o_me 7)) fun o6 =>
  zgd (zcp (0 : Int32) (0 : Int32) (gI o_me 7) nc_me nc_nw) <|
  zlt (cA o6 3 (gA o_me 3) (0 : Int32) (0 : Int32) (gI o_me 7)) fun o8 =>
  zgd (zcp (0 : Int32) (0 : Int32) (gI o_me 7) nc_me nc_nw) <|
  zlt (cA o8 4 (gA o_me 4) (0 : Int32) (0 : Int32) (gI o_me 7)) fun o10 =>
  zgd (zcp (0 : Int32) (0 : Int32) (gI o_me 8) ns_me ns_nw) <|
  zlt (cA o10 5 (gA o_me 5) (0 : Int32) (0 : Int32) (gI o_me 8)) fun o12 =>
  zgd (zcp (0 : Int32) (0 : Int32) (gI o_me 8) ns_me ns_nw) <|
  zlt (cA o12 6 (gA o_me 6) (0 : Int32) (0 : Int32) (gI o_me 8)) fun o14 =>
  zlt (sI o14 7 (gI o_me 7)) fun o15 =>
  zlt (sI o15 8 (gI o_me 8)) fun o16 =>
  some o16
def zkp (o : Ob) : Bool := decide (0 ≤ (gI o 7).toInt ∧ (gI o 7).toInt ≤ 12 ∧ 0 ≤ (gI o 8).toInt ∧ (gI o 8).toInt ≤ 400)
def f_X0_kept (nc_me ns_me : Nat) (o_me : Ob) : Option Ob := zgd (zkp o_me) <| f_X0_kept2 nc_me ns_me (gI o_me 7).toNatClampNeg (gI o_me 8).toNatClampNeg o_me ob0
set_option maxHeartbeats 4000000 in
set_option maxRecDepth 100000 in
theorem m_X0_kept (l : Launch) (dC : Nat → ClassId) (dI : Nat → Nat → Nat) (sz : Nat) (h_me : Nat) (q_me : Nat → Nat) (k_me : Nat → ClassId) (nc_me ns_me : Nat) (o_me : Ob) (y : Ob) (h : f_X0_kept nc_me ns_me o_me = some y) : CC l yX0_kept cX0_kept 2 (some (.object "NoSecond$Code")) ({ frames := 2, cells := 8, slots := 869, locals := 60 } : Room) dC dI sz [.ref h_me] (Jn [wX0 h_me nc_me ns_me q_me k_me o_me, []]) (Jt [tX0 k_me, []]) (QQ dC dI (fun r x => r = some x.1 ∧ True) (fun x : (Nat × (Nat → Nat) × (Nat → ClassId)) => Jn ((fun x => [wX0 h_me nc_me ns_me q_me k_me o_me, wX0 x.1 (gI o_me 7).toNatClampNeg (gI o_me 8).toNatClampNeg x.2.1 x.2.2 y]) x)) (fun x => Jt ((fun x => [tX0 k_me, tX0 x.2.2]) x))) 8 869 := by
  refine CC_of (by decide) (Nat.le_of_ble_eq_true rfl) ?_
  intro p e s m below meth c A ls hx hb hml hr hlk hnm hown hts hX hK hP hD hA hl
  have hl : lv_has ls 2 [(0, .ref h_me)] := hl
  have hown : s.vm.findClass RX0 = some m.cls := hown
  have hw : Wd dC dI A s.heap [wX0 h_me nc_me ns_me q_me k_me o_me, []] s.heap [] := ⟨hP, hD, va_S.rf⟩
  generalize hQz : (MQ below (QQ dC dI (fun r x => r = some x.1 ∧ True) (fun x : (Nat × (Nat → Nat) × (Nat → ClassId)) => Jn ((fun x => [wX0 h_me nc_me ns_me q_me k_me o_me, wX0 x.1 (gI o_me 7).toNatClampNeg (gI o_me 8).toNatClampNeg x.2.1 x.2.2 y]) x)) (fun x => Jt ((fun x => [tX0 k_me, tX0 x.2.2]) x)) A) ([.ref h_me] : List Value).toArray s 8 869 A) = Qz
  clear hP hD hnm
  unfold f_X0_kept at h
  obtain ⟨gk, h⟩ := z_gd h
  obtain ⟨g1, g2, g3, g4⟩ := of_decide_eq_true gk
  refine xnew (n := 1) (ci := 0) (fs := [.null, .null, .null, .null, .null, .null, .null, .int 0, .int 0]) hx hb hts iX0 tyX0 tyX0_ok hown kw808 kw143 kw112 hK hw hA rfl rfl (by decide +kernel) (Nat.le_of_ble_eq_true rfl) (Nat.le_of_ble_eq_true rfl) dX0_kept_0 (fun h_nw H hw => ?_)
  have hw : Wd dC dI A s.heap [wX0 h_me nc_me ns_me q_me k_me o_me, [(h_nw, .inr (0, [.null, .null, .null, .null, .null, .null, .null, .int 0, .int 0]))]] H [] := hw
  refine lv_dup hx hb dX0_kept_3 rfl ?_
  refine lv_aload_n hx hb dX0_kept_4 rfl (lv_at hl 0 rfl) ?_
  refine fgX0_7 hx hb hts hown hK hw 0 rfl kw174 dX0_kept_5 ?_
  refine lv_aload_n hx hb dX0_kept_8 rfl (lv_at hl 0 rfl) ?_
  refine fgX0_8 hx hb hts hown hK hw 0 rfl kw178 dX0_kept_9 ?_
  refine xjn_v (X := (Nat → Nat) × (Nat → ClassId)) (P := fun _ => True) (L1 := fun x => [wX0 h_nw (gI o_me 7).toNatClampNeg (gI o_me 8).toNatClampNeg x.1 x.2 ob0]) (T1 := fun x => [tX0 x.2]) (xrIn (As := [.int (gI o_me 7), .int (gI o_me 8)]) (rest := [.ref h_nw]) (Lc := [[(h_nw, .inr (0, [.null, .null, .null, .null, .null, .null, .null, .int 0, .int 0]))]]) (Tc := [[]]) ⟨hx, hb, hml, hown, hts⟩ (m_X0_init l dC dI _ h_nw (gI o_me 7) (gI o_me 8) (gI o_me 7).toNatClampNeg (gI o_me 8).toNatClampNeg ⟨g1, (Int.toNat_of_nonneg g1).symm, by show (gI o_me 7).toInt.toNat ≤ 12; omega⟩ ⟨g3, (Int.toNat_of_nonneg g3).symm, by show (gI o_me 8).toInt.toNat ≤ 400; omega⟩) kw146 kw809 kw145 kw112 rfl hd_X0_init ⟨rfl, rfl⟩ rfl rfl ⟨rfl, rfl⟩ hX hK hw [1] (by decide) rfl rfl hl.1 rfl rfl dX0_kept_12) hK hw hA [1] (by decide) rfl (fun _ => rfl) (fun x H locs _ hK hw => ?_)
  obtain ⟨q_nw, k_nw⟩ := x
  obtain ⟨nc_nw, enc⟩ : ∃ z, z = (gI o_me 7).toNatClampNeg := ⟨_, rfl⟩
  obtain ⟨ns_nw, ens⟩ : ∃ z, z = (gI o_me 8).toNatClampNeg := ⟨_, rfl⟩
  have hw : Wd dC dI A s.heap [wX0 h_me nc_me ns_me q_me k_me o_me, wX0 h_nw nc_nw ns_nw q_nw k_nw ob0] H locs := by rw [enc, ens]; exact hw
  have hK : va_K (dC, dI) vwCl (Jt [tX0 k_me, tX0 k_nw]) s := hK
  rw [← enc, ← ens] at h
  obtain ⟨o_nw, eon⟩ : ∃ z, z = ob0 := ⟨_, rfl⟩
  rw [← eon] at hw h
  unfold f_X0_kept2 at h
  refine lv_astore_n (lv' := [(1, .ref h_nw), (0, .ref h_me)]) hx hb dX0_kept_15 rfl hl (by decide) rfl (fun ls hl => ?_)
  refine lv_aload_n hx hb dX0_kept_16 rfl (lv_at hl 1 rfl) ?_
  refine fgX0_0 hx hb hts hown hK hw 0 rfl kw151 dX0_kept_17 ?_
  refine lv_iconst (v := 0) hx hb dX0_kept_20 (by decide) ?_
  refine lv_aload_n hx hb dX0_kept_21 rfl (lv_at hl 0 rfl) ?_
  refine fgX0_0 hx hb hts hown hK hw 1 rfl kw151 dX0_kept_22 ?_
  refine lv_iconst (v := 0) hx hb dX0_kept_25 (by decide) ?_
  refine lv_aload_n hx hb dX0_kept_26 rfl (lv_at hl 1 rfl) ?_
  refine fgX0_7 hx hb hts hown hK hw 0 rfl kw174 dX0_kept_27 ?_
  obtain ⟨g1, h⟩ := z_gd h
  refine xcopy (n0 := 0) (j0 := 1) (u0 := 0) (n1 := 1) (j1 := 1) (u1 := 0) hx hb (hml.trans hl.1.symm) hown hts kw810 kw812 kw811 kw125 hK hw rfl rfl rfl rfl rfl rfl rfl rfl g1 (Nat.le_of_ble_eq_true rfl) (Nat.le_of_ble_eq_true rfl) dX0_kept_30 (fun H locs hw => ?_)
  obtain ⟨o2, eo2, h⟩ := z_lt h
  have hw : Wd dC dI A s.heap [wX0 h_me nc_me ns_me q_me k_me o_me, wX0 h_nw nc_nw ns_nw q_nw k_nw o2] H locs := by rw [eo2]; exact hw
  refine lv_aload_n hx hb dX0_kept_33 rfl (lv_at hl 1 rfl) ?_
  refine fgX0_1 hx hb hts hown hK hw 0 rfl kw155 dX0_kept_34 ?_
  refine lv_iconst (v := 0) hx hb dX0_kept_37 (by decide) ?_
  refine lv_aload_n hx hb dX0_kept_38 rfl (lv_at hl 0 rfl) ?_
  refine fgX0_1 hx hb hts hown hK hw 1 rfl kw155 dX0_kept_39 ?_
  refine lv_iconst (v := 0) hx hb dX0_kept_42 (by decide) ?_
  refine lv_aload_n hx hb dX0_kept_43 rfl (lv_at hl 1 rfl) ?_
  refine fgX0_7 hx hb hts hown hK hw 0 rfl kw174 dX0_kept_44 ?_
  obtain ⟨g3, h⟩ := z_gd h
  refine xcopy (n0 := 0) (j0 := 2) (u0 := 1) (n1 := 1) (j1 := 2) (u1 := 1) hx hb (hml.trans hl.1.symm) hown hts kw810 kw812 kw811 kw125 hK hw rfl rfl rfl rfl rfl rfl rfl rfl g3 (Nat.le_of_ble_eq_true rfl) (Nat.le_of_ble_eq_true rfl) dX0_kept_47 (fun H locs hw => ?_)
  obtain ⟨o4, eo4, h⟩ := z_lt h
  have hw : Wd dC dI A s.heap [wX0 h_me nc_me ns_me q_me k_me o_me, wX0 h_nw nc_nw ns_nw q_nw k_nw o4] H locs := by rw [eo4]; exact hw
  refine lv_aload_n hx hb dX0_kept_50 rfl (lv_at hl 1 rfl) ?_
  refine fgX0_2 hx hb hts hown hK hw 0 rfl kw158 dX0_kept_51 ?_
  refine lv_iconst (v := 0) hx hb dX0_kept_54 (by decide) ?_
  refine lv_aload_n hx hb dX0_kept_55 rfl (lv_at hl 0 rfl) ?_
  refine fgX0_2 hx hb hts hown hK hw 1 rfl kw158 dX0_kept_56 ?_
  refine lv_iconst (v := 0) hx hb dX0_kept_59 (by decide) ?_
  refine lv_aload_n hx hb dX0_kept_60 rfl (lv_at hl 1 rfl) ?_
  refine fgX0_7 hx hb hts hown hK hw 0 rfl kw174 dX0_kept_61 ?_
  obtain ⟨g5, h⟩ := z_gd h
  refine xcopy (n0 := 0) (j0 := 3) (u0 := 2) (n1 := 1) (j1 := 3) (u1 := 2) hx hb (hml.trans hl.1.symm) hown hts kw810 kw812 kw811 kw125 hK hw rfl rfl rfl rfl rfl rfl rfl rfl g5 (Nat.le_of_ble_eq_true rfl) (Nat.le_of_ble_eq_true rfl) dX0_kept_64 (fun H locs hw => ?_)
  obtain ⟨o6, eo6, h⟩ := z_lt h
  have hw : Wd dC dI A s.heap [wX0 h_me nc_me ns_me q_me k_me o_me, wX0 h_nw nc_nw ns_nw q_nw k_nw o6] H locs := by rw [eo6]; exact hw
  refine lv_aload_n hx hb dX0_kept_67 rfl (lv_at hl 1 rfl) ?_
  refine fgX0_3 hx hb hts hown hK hw 0 rfl kw162 dX0_kept_68 ?_
  refine lv_iconst (v := 0) hx hb dX0_kept_71 (by decide) ?_
  refine lv_aload_n hx hb dX0_kept_72 rfl (lv_at hl 0 rfl) ?_
  refine fgX0_3 hx hb hts hown hK hw 1 rfl kw162 dX0_kept_73 ?_
  refine lv_iconst (v := 0) hx hb dX0_kept_76 (by decide) ?_
  refine lv_aload_n hx hb dX0_kept_77 rfl (lv_at hl 1 rfl) ?_
  refine fgX0_7 hx hb hts hown hK hw 0 rfl kw174 dX0_kept_78 ?_
  obtain ⟨g7, h⟩ := z_gd h
  refine xcopy (n0 := 0) (j0 := 4) (u0 := 3) (n1 := 1) (j1 := 4) (u1 := 3) hx hb (hml.trans hl.1.symm) hown hts kw810 kw812 kw811 kw125 hK hw rfl rfl rfl rfl rfl rfl rfl rfl g7 (Nat.le_of_ble_eq_true rfl) (Nat.le_of_ble_eq_true rfl) dX0_kept_81 (fun H locs hw => ?_)
  obtain ⟨o8, eo8, h⟩ := z_lt h
  have hw : Wd dC dI A s.heap [wX0 h_me nc_me ns_me q_me k_me o_me, wX0 h_nw nc_nw ns_nw q_nw k_nw o8] H locs := by rw [eo8]; exact hw
  refine lv_aload_n hx hb dX0_kept_84 rfl (lv_at hl 1 rfl) ?_
  refine fgX0_4 hx hb hts hown hK hw 0 rfl kw166 dX0_kept_85 ?_
  refine lv_iconst (v := 0) hx hb dX0_kept_88 (by decide) ?_
  refine lv_aload_n hx hb dX0_kept_89 rfl (lv_at hl 0 rfl) ?_
  refine fgX0_4 hx hb hts hown hK hw 1 rfl kw166 dX0_kept_90 ?_
  refine lv_iconst (v := 0) hx hb dX0_kept_93 (by decide) ?_
  refine lv_aload_n hx hb dX0_kept_94 rfl (lv_at hl 1 rfl) ?_
  refine fgX0_7 hx hb hts hown hK hw 0 rfl kw174 dX0_kept_95 ?_
  obtain ⟨g9, h⟩ := z_gd h
  refine xcopy (n0 := 0) (j0 := 5) (u0 := 4) (n1 := 1) (j1 := 5) (u1 := 4) hx hb (hml.trans hl.1.symm) hown hts kw810 kw812 kw811 kw125 hK hw rfl rfl rfl rfl rfl rfl rfl rfl g9 (Nat.le_of_ble_eq_true rfl) (Nat.le_of_ble_eq_true rfl) dX0_kept_98 (fun H locs hw => ?_)
  obtain ⟨o10, eo10, h⟩ := z_lt h
  have hw : Wd dC dI A s.heap [wX0 h_me nc_me ns_me q_me k_me o_me, wX0 h_nw nc_nw ns_nw q_nw k_nw o10] H locs := by rw [eo10]; exact hw
  refine lv_aload_n hx hb dX0_kept_101 rfl (lv_at hl 1 rfl) ?_
  refine fgX0_5 hx hb hts hown hK hw 0 rfl kw170 dX0_kept_102 ?_
  refine lv_iconst (v := 0) hx hb dX0_kept_105 (by decide) ?_
  refine lv_aload_n hx hb dX0_kept_106 rfl (lv_at hl 0 rfl) ?_
  refine fgX0_5 hx hb hts hown hK hw 1 rfl kw170 dX0_kept_107 ?_
  refine lv_iconst (v := 0) hx hb dX0_kept_110 (by decide) ?_
  refine lv_aload_n hx hb dX0_kept_111 rfl (lv_at hl 1 rfl) ?_
  refine fgX0_8 hx hb hts hown hK hw 0 rfl kw178 dX0_kept_112 ?_
  obtain ⟨g11, h⟩ := z_gd h
  refine xcopy (n0 := 0) (j0 := 6) (u0 := 5) (n1 := 1) (j1 := 6) (u1 := 5) hx hb (hml.trans hl.1.symm) hown hts kw810 kw812 kw811 kw125 hK hw rfl rfl rfl rfl rfl rfl rfl rfl g11 (Nat.le_of_ble_eq_true rfl) (Nat.le_of_ble_eq_true rfl) dX0_kept_115 (fun H locs hw => ?_)
  obtain ⟨o12, eo12, h⟩ := z_lt h
  have hw : Wd dC dI A s.heap [wX0 h_me nc_me ns_me q_me k_me o_me, wX0 h_nw nc_nw ns_nw q_nw k_nw o12] H locs := by rw [eo12]; exact hw
  refine lv_aload_n hx hb dX0_kept_118 rfl (lv_at hl 1 rfl) ?_
  refine fgX0_6 hx hb hts hown hK hw 0 rfl kw172 dX0_kept_119 ?_
  refine lv_iconst (v := 0) hx hb dX0_kept_122 (by decide) ?_
  refine lv_aload_n hx hb dX0_kept_123 rfl (lv_at hl 0 rfl) ?_
  refine fgX0_6 hx hb hts hown hK hw 1 rfl kw172 dX0_kept_124 ?_
  refine lv_iconst (v := 0) hx hb dX0_kept_127 (by decide) ?_
  refine lv_aload_n hx hb dX0_kept_128 rfl (lv_at hl 1 rfl) ?_
  refine fgX0_8 hx hb hts hown hK hw 0 rfl kw178 dX0_kept_129 ?_
  obtain ⟨g13, h⟩ := z_gd h
  refine xcopy (n0 := 0) (j0 := 7) (u0 := 6) (n1 := 1) (j1 := 7) (u1 := 6) hx hb (hml.trans hl.1.symm) hown hts kw810 kw812 kw811 kw125 hK hw rfl rfl rfl rfl rfl rfl rfl rfl g13 (Nat.le_of_ble_eq_true rfl) (Nat.le_of_ble_eq_true rfl) dX0_kept_132 (fun H locs hw => ?_)
  obtain ⟨o14, eo14, h⟩ := z_lt h
  have hw : Wd dC dI A s.heap [wX0 h_me nc_me ns_me q_me k_me o_me, wX0 h_nw nc_nw ns_nw q_nw k_nw o14] H locs := by rw [eo14]; exact hw
  refine lv_aload_n hx hb dX0_kept_135 rfl (lv_at hl 0 rfl) ?_
  refine lv_aload_n hx hb dX0_kept_136 rfl (lv_at hl 1 rfl) ?_
  refine fgX0_7 hx hb hts hown hK hw 0 rfl kw174 dX0_kept_137 ?_
  refine fpX0_7 hx hb hts hown hK hw 1 rfl kw174 dX0_kept_140 (fun H locs hw => ?_)
  obtain ⟨o15, eo15, h⟩ := z_lt h
  have hw : Wd dC dI A s.heap [wX0 h_me nc_me ns_me q_me k_me o_me, wX0 h_nw nc_nw ns_nw q_nw k_nw o15] H locs := by rw [eo15]; exact hw
  refine lv_aload_n hx hb dX0_kept_143 rfl (lv_at hl 0 rfl) ?_
  refine lv_aload_n hx hb dX0_kept_144 rfl (lv_at hl 1 rfl) ?_
  refine fgX0_8 hx hb hts hown hK hw 0 rfl kw178 dX0_kept_145 ?_
  refine fpX0_8 hx hb hts hown hK hw 1 rfl kw178 dX0_kept_148 (fun H locs hw => ?_)
  obtain ⟨o16, eo16, h⟩ := z_lt h
  have hw : Wd dC dI A s.heap [wX0 h_me nc_me ns_me q_me k_me o_me, wX0 h_nw nc_nw ns_nw q_nw k_nw o16] H locs := by rw [eo16]; exact hw
  refine lv_aload_n hx hb dX0_kept_151 rfl (lv_at hl 0 rfl) ?_
  have hy := Option.some.inj h
  rw [hy] at hw
  rw [← hQz]
  refine W.widen (k := 8) (n := 869) (Nat.le_of_ble_eq_true rfl) (Nat.le_of_ble_eq_true rfl) ?_
  rw [enc, ens] at hw
  exact xrn_q (X := (Nat × (Nat → Nat) × (Nat → ClassId))) (v := fun x => some x.1) (L1 := (fun x => [wX0 h_me nc_me ns_me q_me k_me o_me, wX0 x.1 (gI o_me 7).toNatClampNeg (gI o_me 8).toNatClampNeg x.2.1 x.2.2 y])) (T1 := (fun x => [tX0 k_me, tX0 x.2.2])) (P := fun _ => True) (h_nw, q_nw, k_nw) rfl hx hb hr hlk hK hw trivial dX0_kept_152

def f_X8_law_a (nc_me_reader_code : Nat) (ns_me_reader_code : Nat) (o_me o_me_reader o_me_reader_code o_me_isles : Ob) : Option (Ob × Ob × Ob × Ob) :=
  if (gI o_me_isles 9) < (6 : Int32) then
  ((f_X6_readText nc_me_reader_code ns_me_reader_code o_me_reader o_me_reader_code (1 : Int32)).bind fun z1 =>
  zlt (sI z1.2.1 2 (0 : Int32)) fun o2 =>
  if z1.1 = (0 : Int32) then
  (none)
  else
  (some (o_me, o2, z1.2.2, o_me_isles)))
  else
  (none)
def f_X8_law_b (pl9 : List CR) (o_me o_me_isles : Ob) (r9 : Option Nat) : Option (Int32 × Ob × Ob) :=
  (f_X2_addLaw_Q o_me_isles pl9 r9).bind fun z3 =>
  (f_X8_grant o_me z3.1).bind fun z4 =>
  some (z4.1, z4.2, z3.2)
set_option maxHeartbeats 4000000 in
set_option maxRecDepth 100000 in
theorem m_X8_law_new (l : Launch) (dC : Nat → ClassId) (dI : Nat → Nat → Nat) (sz : Nat) (h_me : Nat) (h_me_reader : Nat) (h_me_machine : Nat) (h_me_isles : Nat) (h_me_court : Nat) (h_me_study : Nat) (h_me_paper : Nat) (h_me_paperCourt : Nat) (h_me_past : Nat) (h_me_pastAhead : Nat) (h_me_movingAhead : Nat) (h_me_reader_code : Nat) (h_me_isles_now : Nat) (q_me : Nat → Nat) (k_me : Nat → ClassId) (q_me_reader : Nat → Nat) (k_me_reader : Nat → ClassId) (q_me_reader_code : Nat → Nat) (k_me_reader_code : Nat → ClassId) (q_me_isles : Nat → Nat) (k_me_isles : Nat → ClassId) (nc_me_reader_code : Nat) (ns_me_reader_code : Nat) (o_me : Ob) (o_me_reader : Ob) (o_me_reader_code : Ob) (o_me_isles : Ob) (o_pool : List CR) (st9 : Ob × Ob × Ob × Ob) (h : f_X8_law_a nc_me_reader_code ns_me_reader_code o_me o_me_reader o_me_reader_code o_me_isles = some st9) (oc : Ob) (hk : f_X0_kept nc_me_reader_code ns_me_reader_code st9.2.2.1 = some oc) (h2 : ∀ (a : Nat) (q : Nat → Nat) (k : Nat → ClassId), (∀ c ∈ o_pool, c.1 ≠ a) → ∃ y, f_X8_law_b (o_pool ++ [(a, q, k, (gI st9.2.2.1 7).toNatClampNeg, (gI st9.2.2.1 8).toNatClampNeg, oc)]) st9.1 st9.2.2.2 (some a) = some y) : CC l yX8_law cX8_law 2 (some .int) ({ frames := 933, cells := 8, slots := 869, locals := 20757 } : Room) dC dI sz [.ref h_me] (Jn [wX8 h_me h_me_reader h_me_machine h_me_isles h_me_court h_me_study h_me_paper h_me_paperCourt h_me_past h_me_pastAhead h_me_movingAhead q_me k_me o_me, wX6 h_me_reader h_me_reader_code q_me_reader k_me_reader o_me_reader, wX0 h_me_reader_code nc_me_reader_code ns_me_reader_code q_me_reader_code k_me_reader_code o_me_reader_code, wX2 h_me_isles h_me_isles_now q_me_isles k_me_isles o_me_isles, wPL o_pool]) (Jt [tX8 k_me, tX6 k_me_reader, tX0 k_me_reader_code, tX2 k_me_isles, tPL o_pool]) (QI dC dI (fun r x => r = x.2.2.2.1 ∧ (fun x => (∀ c ∈ o_pool, c.1 ≠ x.1) ∧ f_X8_law_b (o_pool ++ [(x.1, x.2.1, x.2.2.1, (gI st9.2.2.1 7).toNatClampNeg, (gI st9.2.2.1 8).toNatClampNeg, oc)]) st9.1 st9.2.2.2 (some x.1) = some x.2.2.2) x) (fun x : Nat × (Nat → Nat) × (Nat → ClassId) × Int32 × Ob × Ob => Jn ((fun x => [wX8 h_me h_me_reader h_me_machine h_me_isles h_me_court h_me_study h_me_paper h_me_paperCourt h_me_past h_me_pastAhead h_me_movingAhead q_me k_me x.2.2.2.2.1, wX6 h_me_reader h_me_reader_code q_me_reader k_me_reader st9.2.1, wX0 h_me_reader_code nc_me_reader_code ns_me_reader_code q_me_reader_code k_me_reader_code st9.2.2.1, wX2 h_me_isles h_me_isles_now q_me_isles k_me_isles x.2.2.2.2.2, wPL (o_pool ++ [(x.1, x.2.1, x.2.2.1, (gI st9.2.2.1 7).toNatClampNeg, (gI st9.2.2.1 8).toNatClampNeg, oc)])]) x)) (fun x => Jt ((fun x => [tX8 k_me, tX6 k_me_reader, tX0 k_me_reader_code, tX2 k_me_isles, tPL (o_pool ++ [(x.1, x.2.1, x.2.2.1, (gI st9.2.2.1 7).toNatClampNeg, (gI st9.2.2.1 8).toNatClampNeg, oc)])]) x))) 8 869 := by
  refine CC_of (by decide) (Nat.le_of_ble_eq_true rfl) ?_
  intro p e s m below meth c A ls hx hb hml hr hlk hnm hown hts hX hK hP hD hA hl
  have hl : lv_has ls 2 [(0, .ref h_me)] := hl
  have hown : s.vm.findClass RX8 = some m.cls := hown
  have hw : Wd dC dI A s.heap [wX8 h_me h_me_reader h_me_machine h_me_isles h_me_court h_me_study h_me_paper h_me_paperCourt h_me_past h_me_pastAhead h_me_movingAhead q_me k_me o_me, wX6 h_me_reader h_me_reader_code q_me_reader k_me_reader o_me_reader, wX0 h_me_reader_code nc_me_reader_code ns_me_reader_code q_me_reader_code k_me_reader_code o_me_reader_code, wX2 h_me_isles h_me_isles_now q_me_isles k_me_isles o_me_isles, wPL o_pool] s.heap [] := ⟨hP, hD, va_S.rf⟩
  generalize hQz : (MQ below (QI dC dI (fun r x => r = x.2.2.2.1 ∧ (fun x => (∀ c ∈ o_pool, c.1 ≠ x.1) ∧ f_X8_law_b (o_pool ++ [(x.1, x.2.1, x.2.2.1, (gI st9.2.2.1 7).toNatClampNeg, (gI st9.2.2.1 8).toNatClampNeg, oc)]) st9.1 st9.2.2.2 (some x.1) = some x.2.2.2) x) (fun x : Nat × (Nat → Nat) × (Nat → ClassId) × Int32 × Ob × Ob => Jn ((fun x => [wX8 h_me h_me_reader h_me_machine h_me_isles h_me_court h_me_study h_me_paper h_me_paperCourt h_me_past h_me_pastAhead h_me_movingAhead q_me k_me x.2.2.2.2.1, wX6 h_me_reader h_me_reader_code q_me_reader k_me_reader st9.2.1, wX0 h_me_reader_code nc_me_reader_code ns_me_reader_code q_me_reader_code k_me_reader_code st9.2.2.1, wX2 h_me_isles h_me_isles_now q_me_isles k_me_isles x.2.2.2.2.2, wPL (o_pool ++ [(x.1, x.2.1, x.2.2.1, (gI st9.2.2.1 7).toNatClampNeg, (gI st9.2.2.1 8).toNatClampNeg, oc)])]) x)) (fun x => Jt ((fun x => [tX8 k_me, tX6 k_me_reader, tX0 k_me_reader_code, tX2 k_me_isles, tPL (o_pool ++ [(x.1, x.2.1, x.2.2.1, (gI st9.2.2.1 7).toNatClampNeg, (gI st9.2.2.1 8).toNatClampNeg, oc)])]) x)) A) ([.ref h_me] : List Value).toArray s 8 869 A) = Qz
  clear hP hD hnm
  unfold f_X8_law_a at h
  refine lv_aload_n hx hb dX8_law_0 rfl (lv_at hl 0 rfl) ?_
  refine fgX8_2 hx hb hts hown hK hw 0 rfl kw444 dX8_law_1 ?_
  refine fgX2_9 hx hb hts hown hK hw 3 rfl kw323 dX8_law_4 ?_
  refine lv_bipush (v := 6) hx hb dX8_law_7 (by decide) ?_
  refine lv_icmp_lt (tgt := 27) hx hb dX8_law_9 (by decide) (fun c => ?_) (fun c => ?_)
  · have h := z_t h c
    refine lv_aload_n hx hb dX8_law_27 rfl (lv_at hl 0 rfl) ?_
    refine fgX8_0 hx hb hts hown hK hw 0 rfl kw442 dX8_law_28 ?_
    refine lv_iconst (v := 1) hx hb dX8_law_31 (by decide) ?_
    obtain ⟨z1, ez1, h⟩ := z_bd h
    refine xj_i (xrV (As := [.int (1 : Int32)]) (rest := []) ⟨hx, hb, hml, hown, hts⟩ (m_X6_readText l dC dI _ h_me_reader h_me_reader_code q_me_reader k_me_reader q_me_reader_code k_me_reader_code nc_me_reader_code ns_me_reader_code o_me_reader o_me_reader_code (1 : Int32) z1 ez1) kw667 kw664 kw665 kw666 kw111 hd_X6_readText ⟨rfl, rfl⟩ rfl rfl ⟨rfl, rfl⟩ hX hK hw [1, 2] (by decide) rfl rfl rfl rfl rfl hl.1 rfl rfl dX8_law_32) hw hA [1, 2] (by decide) rfl rfl (fun H locs hw => ?_)
    have hw : Wd dC dI A s.heap [wX8 h_me h_me_reader h_me_machine h_me_isles h_me_court h_me_study h_me_paper h_me_paperCourt h_me_past h_me_pastAhead h_me_movingAhead q_me k_me o_me, wX6 h_me_reader h_me_reader_code q_me_reader k_me_reader z1.2.1, wX0 h_me_reader_code nc_me_reader_code ns_me_reader_code q_me_reader_code k_me_reader_code z1.2.2, wX2 h_me_isles h_me_isles_now q_me_isles k_me_isles o_me_isles, wPL o_pool] H locs := hw
    refine lv_istore_n (lv' := [(1, .int z1.1), (0, .ref h_me)]) hx hb dX8_law_35 rfl hl (by decide) rfl (fun ls hl => ?_)
    refine lv_aload_n hx hb dX8_law_36 rfl (lv_at hl 1 rfl) ?_
    refine fgX8_0 hx hb hts hown hK hw 0 rfl kw442 dX8_law_37 ?_
    refine lv_iconst (v := 0) hx hb dX8_law_40 (by decide) ?_
    refine fpX6_2 hx hb hts hown hK hw 1 rfl kw205 dX8_law_41 (fun H locs hw => ?_)
    obtain ⟨o2, eo2, h⟩ := z_lt h
    have hw : Wd dC dI A s.heap [wX8 h_me h_me_reader h_me_machine h_me_isles h_me_court h_me_study h_me_paper h_me_paperCourt h_me_past h_me_pastAhead h_me_movingAhead q_me k_me o_me, wX6 h_me_reader h_me_reader_code q_me_reader k_me_reader o2, wX0 h_me_reader_code nc_me_reader_code ns_me_reader_code q_me_reader_code k_me_reader_code z1.2.2, wX2 h_me_isles h_me_isles_now q_me_isles k_me_isles o_me_isles, wPL o_pool] H locs := by rw [eo2]; exact hw
    refine lv_iload_n hx hb dX8_law_44 rfl (lv_at hl 0 rfl) ?_
    refine lv_if_eq (tgt := 72) hx hb dX8_law_45 (by decide) (fun c => ?_) (fun c => ?_)
    · have h := z_t h c
      exact absurd h (by simp)
    · have h := z_f h c
      refine lv_aload_n hx hb dX8_law_48 rfl (lv_at hl 1 rfl) ?_
      refine lv_aload_n hx hb dX8_law_49 rfl (lv_at hl 1 rfl) ?_
      refine fgX8_2 hx hb hts hown hK hw 0 rfl kw444 dX8_law_50 ?_
      refine lv_aload_n hx hb dX8_law_53 rfl (lv_at hl 1 rfl) ?_
      refine fgX8_0 hx hb hts hown hK hw 0 rfl kw442 dX8_law_54 ?_
      refine fgX6_1 hx hb hts hown hK hw 1 rfl kw203 dX8_law_57 ?_
      have hy := Option.some.inj h
      have hw : Wd dC dI A s.heap [wX8 h_me h_me_reader h_me_machine h_me_isles h_me_court h_me_study h_me_paper h_me_paperCourt h_me_past h_me_pastAhead h_me_movingAhead q_me k_me st9.1, wX6 h_me_reader h_me_reader_code q_me_reader k_me_reader st9.2.1, wX0 h_me_reader_code nc_me_reader_code ns_me_reader_code q_me_reader_code k_me_reader_code st9.2.2.1, wX2 h_me_isles h_me_isles_now q_me_isles k_me_isles st9.2.2.2, wPL o_pool] H locs := by rw [← hy]; exact hw
      have hw := wd_nil hw
      have hK := wk_nil hK
      have hw : Wd dC dI A s.heap [wX8 h_me h_me_reader h_me_machine h_me_isles h_me_court h_me_study h_me_paper h_me_paperCourt h_me_past h_me_pastAhead h_me_movingAhead q_me k_me st9.1, wX6 h_me_reader h_me_reader_code q_me_reader k_me_reader st9.2.1, wX0 h_me_reader_code nc_me_reader_code ns_me_reader_code q_me_reader_code k_me_reader_code st9.2.2.1, wX2 h_me_isles h_me_isles_now q_me_isles k_me_isles st9.2.2.2, wPL o_pool, []] H locs := hw
      have hK : va_K (dC, dI) vwCl (Jt [tX8 k_me, tX6 k_me_reader, tX0 k_me_reader_code, tX2 k_me_isles, tPL o_pool, []]) s := hK
      refine xjn_q (X := Nat × (Nat → Nat) × (Nat → ClassId)) (v := fun x => some x.1) (P := fun _ => True) (L1 := fun x => [wX0 h_me_reader_code nc_me_reader_code ns_me_reader_code q_me_reader_code k_me_reader_code st9.2.2.1, wX0 x.1 (gI st9.2.2.1 7).toNatClampNeg (gI st9.2.2.1 8).toNatClampNeg x.2.1 x.2.2 oc]) (T1 := fun x => [tX0 k_me_reader_code, tX0 x.2.2]) (xrVn (As := []) (rest := [.ref h_me_isles, .ref h_me]) (Lc := [wX0 h_me_reader_code nc_me_reader_code ns_me_reader_code q_me_reader_code k_me_reader_code st9.2.2.1, []]) (Tc := [tX0 k_me_reader_code, []]) ⟨hx, hb, hml, hown, hts⟩ (m_X0_kept l dC dI _ h_me_reader_code q_me_reader_code k_me_reader_code nc_me_reader_code ns_me_reader_code st9.2.2.1 oc hk) kw807 kw804 kw805 kw806 kw112 hd_X0_kept ⟨rfl, rfl⟩ rfl rfl ⟨rfl, rfl⟩ hX hK hw [2, 5] (by decide) rfl rfl rfl rfl rfl hl.1 rfl rfl dX8_law_60) hK hw hA [2, 5] (by decide) rfl (fun _ => rfl) (fun x H locs _ hK hw => ?_)
      obtain ⟨h_nw, q_nw, k_nw⟩ := x
      have hw : Wd dC dI A s.heap [wX8 h_me h_me_reader h_me_machine h_me_isles h_me_court h_me_study h_me_paper h_me_paperCourt h_me_past h_me_pastAhead h_me_movingAhead q_me k_me st9.1, wX6 h_me_reader h_me_reader_code q_me_reader k_me_reader st9.2.1, wX0 h_me_reader_code nc_me_reader_code ns_me_reader_code q_me_reader_code k_me_reader_code st9.2.2.1, wX2 h_me_isles h_me_isles_now q_me_isles k_me_isles st9.2.2.2, wPL o_pool, wX0 h_nw (gI st9.2.2.1 7).toNatClampNeg (gI st9.2.2.1 8).toNatClampNeg q_nw k_nw oc] H locs := hw
      have hfr := wd_fresh 4 5 hw rfl rfl (by decide)
      have hw := wd_join 4 (l1 := o_pool) (l2 := []) (c := (h_nw, q_nw, k_nw, (gI st9.2.2.1 7).toNatClampNeg, (gI st9.2.2.1 8).toNatClampNeg, oc)) (Ls := [wX8 h_me h_me_reader h_me_machine h_me_isles h_me_court h_me_study h_me_paper h_me_paperCourt h_me_past h_me_pastAhead h_me_movingAhead q_me k_me st9.1, wX6 h_me_reader h_me_reader_code q_me_reader k_me_reader st9.2.1, wX0 h_me_reader_code nc_me_reader_code ns_me_reader_code q_me_reader_code k_me_reader_code st9.2.2.1, wX2 h_me_isles h_me_isles_now q_me_isles k_me_isles st9.2.2.2, wPL o_pool]) rfl (by rw [List.append_nil]; exact hw)
      have hK := wk_join 4 (pl := o_pool) (c := (h_nw, q_nw, k_nw, (gI st9.2.2.1 7).toNatClampNeg, (gI st9.2.2.1 8).toNatClampNeg, oc)) (Ts := [tX8 k_me, tX6 k_me_reader, tX0 k_me_reader_code, tX2 k_me_isles, tPL o_pool]) hK rfl
      obtain ⟨pl9, epl⟩ : ∃ z, z = o_pool ++ [(h_nw, q_nw, k_nw, (gI st9.2.2.1 7).toNatClampNeg, (gI st9.2.2.1 8).toNatClampNeg, oc)] := ⟨_, rfl⟩
      have hw : Wd dC dI A s.heap [wX8 h_me h_me_reader h_me_machine h_me_isles h_me_court h_me_study h_me_paper h_me_paperCourt h_me_past h_me_pastAhead h_me_movingAhead q_me k_me st9.1, wX6 h_me_reader h_me_reader_code q_me_reader k_me_reader st9.2.1, wX0 h_me_reader_code nc_me_reader_code ns_me_reader_code q_me_reader_code k_me_reader_code st9.2.2.1, wX2 h_me_isles h_me_isles_now q_me_isles k_me_isles st9.2.2.2, wPL pl9] H locs := by rw [epl]; exact hw
      have hK : va_K (dC, dI) vwCl (Jt [tX8 k_me, tX6 k_me_reader, tX0 k_me_reader_code, tX2 k_me_isles, tPL pl9]) s := by rw [epl]; exact hK
      obtain ⟨y9, h⟩ := h2 h_nw q_nw k_nw hfr
      have hy9 := h
      rw [← epl] at h
      unfold f_X8_law_b at h
      obtain ⟨z3, ez3, h⟩ := z_bd h
      refine xj_i (xrV (As := [va_rf (some h_nw)]) (rest := [.ref h_me]) ⟨hx, hb, hml, hown, hts⟩ (m_X2_addLaw_Q l dC dI _ h_me_isles h_me_isles_now q_me_isles k_me_isles st9.2.2.2 pl9 (some h_nw) z3 ez3) kw816 kw813 kw814 kw815 kw115 hd_X2_addLaw ⟨rfl, rfl⟩ rfl rfl ⟨rfl, rfl⟩ hX hK hw [3, 4] (by decide) rfl rfl rfl rfl rfl hl.1 rfl rfl dX8_law_63) hw hA [3, 4] (by decide) rfl rfl (fun H locs hw => ?_)
      have hw : Wd dC dI A s.heap [wX8 h_me h_me_reader h_me_machine h_me_isles h_me_court h_me_study h_me_paper h_me_paperCourt h_me_past h_me_pastAhead h_me_movingAhead q_me k_me st9.1, wX6 h_me_reader h_me_reader_code q_me_reader k_me_reader st9.2.1, wX0 h_me_reader_code nc_me_reader_code ns_me_reader_code q_me_reader_code k_me_reader_code st9.2.2.1, wX2 h_me_isles h_me_isles_now q_me_isles k_me_isles z3.2, wPL pl9] H locs := hw
      obtain ⟨z4, ez4, h⟩ := z_bd h
      refine xj_i (xrV (As := [.int z3.1]) (rest := []) ⟨hx, hb, hml, hown, hts⟩ (m_X8_grant l dC dI _ h_me h_me_reader h_me_machine h_me_isles h_me_court h_me_study h_me_paper h_me_paperCourt h_me_past h_me_pastAhead h_me_movingAhead q_me k_me st9.1 z3.1 z4 ez4) kw520 kw517 kw519 kw1 kw110 hd_X8_grant ⟨rfl, rfl⟩ rfl rfl ⟨rfl, rfl⟩ hX hK hw [0] (by decide) rfl rfl rfl rfl rfl hl.1 rfl rfl dX8_law_66) hw hA [0] (by decide) rfl rfl (fun H locs hw => ?_)
      have hw : Wd dC dI A s.heap [wX8 h_me h_me_reader h_me_machine h_me_isles h_me_court h_me_study h_me_paper h_me_paperCourt h_me_past h_me_pastAhead h_me_movingAhead q_me k_me z4.2, wX6 h_me_reader h_me_reader_code q_me_reader k_me_reader st9.2.1, wX0 h_me_reader_code nc_me_reader_code ns_me_reader_code q_me_reader_code k_me_reader_code st9.2.2.1, wX2 h_me_isles h_me_isles_now q_me_isles k_me_isles z3.2, wPL pl9] H locs := hw
      refine lv_goto (tgt := 78) hx hb dX8_law_69 (by decide) ?_
      have hy := Option.some.inj h
      rw [← hQz]
      refine W.widen (k := 8) (n := 869) (Nat.le_of_ble_eq_true rfl) (Nat.le_of_ble_eq_true rfl) ?_
      refine lv_fi (v := y9.1) (by rw [← hy]) ?_
      refine xrn_i (X := Nat × (Nat → Nat) × (Nat → ClassId) × Int32 × Ob × Ob) (v := fun x => x.2.2.2.1) (L1 := (fun x => [wX8 h_me h_me_reader h_me_machine h_me_isles h_me_court h_me_study h_me_paper h_me_paperCourt h_me_past h_me_pastAhead h_me_movingAhead q_me k_me x.2.2.2.2.1, wX6 h_me_reader h_me_reader_code q_me_reader k_me_reader st9.2.1, wX0 h_me_reader_code nc_me_reader_code ns_me_reader_code q_me_reader_code k_me_reader_code st9.2.2.1, wX2 h_me_isles h_me_isles_now q_me_isles k_me_isles x.2.2.2.2.2, wPL (o_pool ++ [(x.1, x.2.1, x.2.2.1, (gI st9.2.2.1 7).toNatClampNeg, (gI st9.2.2.1 8).toNatClampNeg, oc)])])) (T1 := (fun x => [tX8 k_me, tX6 k_me_reader, tX0 k_me_reader_code, tX2 k_me_isles, tPL (o_pool ++ [(x.1, x.2.1, x.2.2.1, (gI st9.2.2.1 7).toNatClampNeg, (gI st9.2.2.1 8).toNatClampNeg, oc)])])) (P := (fun x => (∀ c ∈ o_pool, c.1 ≠ x.1) ∧ f_X8_law_b (o_pool ++ [(x.1, x.2.1, x.2.2.1, (gI st9.2.2.1 7).toNatClampNeg, (gI st9.2.2.1 8).toNatClampNeg, oc)]) st9.1 st9.2.2.2 (some x.1) = some x.2.2.2)) (h_nw, q_nw, k_nw, y9) hx hb hr rfl hlk (by rw [epl] at hK; exact hK) ?_ ⟨hfr, hy9⟩ dX8_law_78
      rw [epl] at hw
      rw [← hy]
      exact hw
  · have h := z_f h c
    exact absurd h (by simp)

def f_X8_image_b (o_me_isles o_me_isles_now : Ob) (o_pool : List CR) (o_m9 o_img o_imgn : Ob) : Option (Int32 × Ob × Ob × Ob) :=
  (f_X2_set_O o_img o_imgn o_pool o_me_isles o_me_isles_now).bind fun z2 =>
  (f_X8_grant o_m9 (0 : Int32)).bind fun z3 =>
  some (z3.1, z3.2, z2.1, z2.2)
def f_X8_image_a (o_me : Ob) (p0 : Int32) : Option Unit :=
  if p0 < (0 : Int32) then
  (none)
  else
  (if p0 < (2 : Int32) then
  (zgd (zin p0 2) <|
  some ())
  else
  (none))
set_option maxHeartbeats 4000000 in
set_option maxRecDepth 100000 in
theorem m_X8_image_new (l : Launch) (dC : Nat → ClassId) (dI : Nat → Nat → Nat) (sz : Nat) (h_me : Nat) (h_me_reader : Nat) (h_me_machine : Nat) (h_me_isles : Nat) (h_me_court : Nat) (h_me_study : Nat) (h_me_paper : Nat) (h_me_paperCourt : Nat) (h_me_past : Nat) (h_me_pastAhead : Nat) (h_me_movingAhead : Nat) (h_me_isles_now : Nat) (q_me : Nat → Nat) (k_me : Nat → ClassId) (q_me_isles : Nat → Nat) (k_me_isles : Nat → ClassId) (q_me_isles_now : Nat → Nat) (k_me_isles_now : Nat → ClassId) (o_me : Ob) (o_me_isles : Ob) (o_me_isles_now : Ob) (o_pool : List CR) (p0 : Int32) (him : gR o_me 7 p0.toNatClampNeg = none) (hzn : zin p0 2 = true) (h : f_X8_image_a o_me p0 = some ()) (h2 : ∀ a : Nat, ∃ y, f_X8_image_b o_me_isles o_me_isles_now o_pool (tR o_me 7 p0.toNatClampNeg (some a)) ob2 ob0 = some y) : CC l yX8_image cX8_image 2 (some .int) ({ frames := 3, cells := 10, slots := 92, locals := 103 } : Room) dC dI sz [.ref h_me, .int p0] (Jn [wX8 h_me h_me_reader h_me_machine h_me_isles h_me_court h_me_study h_me_paper h_me_paperCourt h_me_past h_me_pastAhead h_me_movingAhead q_me k_me o_me, wX2 h_me_isles h_me_isles_now q_me_isles k_me_isles o_me_isles, wX4 h_me_isles_now q_me_isles_now k_me_isles_now o_me_isles_now, wPL o_pool, [], []]) (Jt [tX8 k_me, tX2 k_me_isles, tX4 k_me_isles_now, tPL o_pool, [], []]) (QI dC dI (fun r x => r = x.2.2.2.2.2.2.1 ∧ (fun x => f_X8_image_b o_me_isles o_me_isles_now o_pool (tR o_me 7 p0.toNatClampNeg (some x.1)) ob2 ob0 = some x.2.2.2.2.2.2) x) (fun x : Nat × Nat × (Nat → Nat) × (Nat → ClassId) × (Nat → Nat) × (Nat → ClassId) × Int32 × Ob × Ob × Ob => Jn ((fun x => [wX8 h_me h_me_reader h_me_machine h_me_isles h_me_court h_me_study h_me_paper h_me_paperCourt h_me_past h_me_pastAhead h_me_movingAhead q_me k_me x.2.2.2.2.2.2.2.1, wX2 h_me_isles h_me_isles_now q_me_isles k_me_isles o_me_isles, wX4 h_me_isles_now q_me_isles_now k_me_isles_now o_me_isles_now, wPL o_pool, wX2 x.1 x.2.1 x.2.2.1 x.2.2.2.1 x.2.2.2.2.2.2.2.2.1, wX4 x.2.1 x.2.2.2.2.1 x.2.2.2.2.2.1 x.2.2.2.2.2.2.2.2.2]) x)) (fun x => Jt ((fun x => [tX8 k_me, tX2 k_me_isles, tX4 k_me_isles_now, tPL o_pool, tX2 x.2.2.2.1, tX4 x.2.2.2.2.2.1]) x))) 10 92 := by
  refine CC_of (by decide) (Nat.le_of_ble_eq_true rfl) ?_
  intro p e s m below meth c A ls hx hb hml hr hlk hnm hown hts hX hK hP hD hA hl
  have hl : lv_has ls 2 [(0, .ref h_me), (1, .int p0)] := hl
  have hown : s.vm.findClass RX8 = some m.cls := hown
  have hw : Wd dC dI A s.heap [wX8 h_me h_me_reader h_me_machine h_me_isles h_me_court h_me_study h_me_paper h_me_paperCourt h_me_past h_me_pastAhead h_me_movingAhead q_me k_me o_me, wX2 h_me_isles h_me_isles_now q_me_isles k_me_isles o_me_isles, wX4 h_me_isles_now q_me_isles_now k_me_isles_now o_me_isles_now, wPL o_pool, [], []] s.heap [] := ⟨hP, hD, va_S.rf⟩
  generalize hQz : (MQ below (QI dC dI (fun r x => r = x.2.2.2.2.2.2.1 ∧ (fun x => f_X8_image_b o_me_isles o_me_isles_now o_pool (tR o_me 7 p0.toNatClampNeg (some x.1)) ob2 ob0 = some x.2.2.2.2.2.2) x) (fun x : Nat × Nat × (Nat → Nat) × (Nat → ClassId) × (Nat → Nat) × (Nat → ClassId) × Int32 × Ob × Ob × Ob => Jn ((fun x => [wX8 h_me h_me_reader h_me_machine h_me_isles h_me_court h_me_study h_me_paper h_me_paperCourt h_me_past h_me_pastAhead h_me_movingAhead q_me k_me x.2.2.2.2.2.2.2.1, wX2 h_me_isles h_me_isles_now q_me_isles k_me_isles o_me_isles, wX4 h_me_isles_now q_me_isles_now k_me_isles_now o_me_isles_now, wPL o_pool, wX2 x.1 x.2.1 x.2.2.1 x.2.2.2.1 x.2.2.2.2.2.2.2.2.1, wX4 x.2.1 x.2.2.2.2.1 x.2.2.2.2.2.1 x.2.2.2.2.2.2.2.2.2]) x)) (fun x => Jt ((fun x => [tX8 k_me, tX2 k_me_isles, tX4 k_me_isles_now, tPL o_pool, tX2 x.2.2.2.1, tX4 x.2.2.2.2.2.1]) x)) A) ([.ref h_me, .int p0] : List Value).toArray s 10 92 A) = Qz
  clear hP hD hnm
  unfold f_X8_image_a at h
  refine lv_iload_n hx hb dX8_image_0 rfl (lv_at hl 1 rfl) ?_
  refine lv_if_lt (tgt := 9) hx hb dX8_image_1 (by decide) (fun c => ?_) (fun c => ?_)
  · have h := z_t h c
    exact absurd h (by simp)
  · have h := z_f h c
    refine lv_iload_n hx hb dX8_image_4 rfl (lv_at hl 1 rfl) ?_
    refine lv_iconst (v := 2) hx hb dX8_image_5 (by decide) ?_
    refine lv_icmp_lt (tgt := 15) hx hb dX8_image_6 (by decide) (fun c => ?_) (fun c => ?_)
    · have h := z_t h c
      refine lv_aload_n hx hb dX8_image_15 rfl (lv_at hl 0 rfl) ?_
      refine fgX8_7 hx hb hts hown hK hw 0 rfl kw449 dX8_image_16 ?_
      refine lv_iload_n hx hb dX8_image_19 rfl (lv_at hl 1 rfl) ?_
      obtain ⟨g1, h⟩ := z_gd h
      refine faX8_7 hx hb hK hw 0 rfl rfl g1 dX8_image_20 ?_
      refine lv_fv (v := .null) (congrArg va_rf him) ?_
      refine lv_ifnonnullN hx hb dX8_image_21 ?_
      refine lv_aload_n hx hb dX8_image_24 rfl (lv_at hl 0 rfl) ?_
      refine fgX8_7 hx hb hts hown hK hw 0 rfl kw449 dX8_image_25 ?_
      refine lv_iload_n hx hb dX8_image_28 rfl (lv_at hl 1 rfl) ?_
      refine xnew (n := 4) (ci := 2) (fs := [.null, .null, .null, .null, .null, .null, .null, .int 0, .int 0, .int 0, .int 0, .int 0, .int 0]) hx hb hts iX2 tyX2 tyX2_ok hown kw249 kw250 kw115 hK hw hA rfl rfl (by decide +kernel) (Nat.le_of_ble_eq_true rfl) (Nat.le_of_ble_eq_true rfl) dX8_image_29 (fun h_img H hw => ?_)
      have hw : Wd dC dI A s.heap [wX8 h_me h_me_reader h_me_machine h_me_isles h_me_court h_me_study h_me_paper h_me_paperCourt h_me_past h_me_pastAhead h_me_movingAhead q_me k_me o_me, wX2 h_me_isles h_me_isles_now q_me_isles k_me_isles o_me_isles, wX4 h_me_isles_now q_me_isles_now k_me_isles_now o_me_isles_now, wPL o_pool, [(h_img, .inr (2, [.null, .null, .null, .null, .null, .null, .null, .int 0, .int 0, .int 0, .int 0, .int 0, .int 0]))], []] H _ := hw
      refine lv_dup hx hb dX8_image_32 rfl ?_
      refine xjn_v (X := Nat × (Nat → Nat) × (Nat → ClassId) × (Nat → Nat) × (Nat → ClassId)) (P := fun _ => True) (L1 := fun x => [wX2 h_img x.1 x.2.1 x.2.2.1 ob2, wX4 x.1 x.2.2.2.1 x.2.2.2.2 ob0]) (T1 := fun x => [tX2 x.2.2.1, tX4 x.2.2.2.2]) (xrINn (As := []) (rest := [.ref h_img, .int p0, .ref (q_me 7)]) (Lc := [[(h_img, .inr (2, [.null, .null, .null, .null, .null, .null, .null, .int 0, .int 0, .int 0, .int 0, .int 0, .int 0]))], []]) (Tc := [[], []]) ⟨hx, hb, hml, hown, hts⟩ (m_X2_init l dC dI _ h_img) kw253 hX.1.2.2.1 kw252 kw115 rfl hd_X2_init ⟨rfl, rfl⟩ rfl rfl ⟨rfl, rfl⟩ hX hK hw [4, 5] (by decide) rfl rfl hl.1 rfl rfl dX8_image_33) hK hw hA [4, 5] (by decide) rfl (fun _ => rfl) (fun x H locs _ hK hw => ?_)
      obtain ⟨h_img_now, q_img, k_img, q_img_now, k_img_now⟩ := x
      have hw : Wd dC dI A s.heap [wX8 h_me h_me_reader h_me_machine h_me_isles h_me_court h_me_study h_me_paper h_me_paperCourt h_me_past h_me_pastAhead h_me_movingAhead q_me k_me o_me, wX2 h_me_isles h_me_isles_now q_me_isles k_me_isles o_me_isles, wX4 h_me_isles_now q_me_isles_now k_me_isles_now o_me_isles_now, wPL o_pool, wX2 h_img h_img_now q_img k_img ob2, wX4 h_img_now q_img_now k_img_now ob0] H locs := hw
      have hK : va_K (dC, dI) vwCl (Jt [tX8 k_me, tX2 k_me_isles, tX4 k_me_isles_now, tPL o_pool, tX2 k_img, tX4 k_img_now]) s := hK
      have g9 : zin p0 2 = true := hzn
      refine fbX8q (n := 0) (np := 4) hx hb hK hw rfl rfl rfl g9 dX8_image_36 (fun H locs hw => ?_)
      obtain ⟨o_m9, eo9⟩ : ∃ z, z = tR o_me 7 p0.toNatClampNeg (some h_img) := ⟨_, rfl⟩
      have hw : Wd dC dI A s.heap [wX8 h_me h_me_reader h_me_machine h_me_isles h_me_court h_me_study h_me_paper h_me_paperCourt h_me_past h_me_pastAhead h_me_movingAhead q_me k_me o_m9, wX2 h_me_isles h_me_isles_now q_me_isles k_me_isles o_me_isles, wX4 h_me_isles_now q_me_isles_now k_me_isles_now o_me_isles_now, wPL o_pool, wX2 h_img h_img_now q_img k_img ob2, wX4 h_img_now q_img_now k_img_now ob0] H locs := by rw [eo9]; exact hw
      refine lv_aload_n hx hb dX8_image_37 rfl (lv_at hl 0 rfl) ?_
      refine fgX8_7 hx hb hts hown hK hw 0 rfl kw449 dX8_image_38 ?_
      refine lv_iload_n hx hb dX8_image_41 rfl (lv_at hl 1 rfl) ?_
      refine faX8_7 hx hb hK hw 0 rfl rfl g9 dX8_image_42 ?_
      refine lv_fv (v := .ref h_img) (by rw [eo9, gR_tR]; rfl) ?_
      obtain ⟨y9, h9⟩ := h2 h_img
      have h := h9
      rw [← eo9] at h
      obtain ⟨o_img, eoi⟩ : ∃ z, z = ob2 := ⟨_, rfl⟩
      obtain ⟨o_imgn, eoj⟩ : ∃ z, z = ob0 := ⟨_, rfl⟩
      rw [← eoi, ← eoj] at h hw
      unfold f_X8_image_b at h
      refine lv_aload_n hx hb dX8_image_43 rfl (lv_at hl 0 rfl) ?_
      refine fgX8_2 hx hb hts hown hK hw 0 rfl kw444 dX8_image_44 ?_
      obtain ⟨z2, ez2, h⟩ := z_bd h
      refine xj_v (xrV (As := [.ref h_me_isles]) (rest := []) ⟨hx, hb, hml, hown, hts⟩ (m_X2_set_O l dC dI _ h_img h_img_now h_me_isles h_me_isles_now q_img k_img q_img_now k_img_now q_me_isles k_me_isles q_me_isles_now k_me_isles_now o_img o_imgn o_pool o_me_isles o_me_isles_now z2 ez2) kw1118 kw1115 kw1116 kw1117 kw115 hd_X2_set ⟨rfl, rfl⟩ rfl rfl ⟨rfl, rfl⟩ hX hK hw [4, 5, 3, 1, 2] (by decide) rfl rfl rfl rfl rfl hl.1 rfl rfl dX8_image_47) hw hA [4, 5, 3, 1, 2] (by decide) rfl rfl (fun H locs hw => ?_)
      have hw : Wd dC dI A s.heap [wX8 h_me h_me_reader h_me_machine h_me_isles h_me_court h_me_study h_me_paper h_me_paperCourt h_me_past h_me_pastAhead h_me_movingAhead q_me k_me o_m9, wX2 h_me_isles h_me_isles_now q_me_isles k_me_isles o_me_isles, wX4 h_me_isles_now q_me_isles_now k_me_isles_now o_me_isles_now, wPL o_pool, wX2 h_img h_img_now q_img k_img z2.1, wX4 h_img_now q_img_now k_img_now z2.2] H locs := hw
      refine lv_aload_n hx hb dX8_image_50 rfl (lv_at hl 0 rfl) ?_
      refine lv_iconst (v := 0) hx hb dX8_image_51 (by decide) ?_
      obtain ⟨z3, ez3, h⟩ := z_bd h
      refine xj_i (xrV (As := [.int (0 : Int32)]) (rest := []) ⟨hx, hb, hml, hown, hts⟩ (m_X8_grant l dC dI _ h_me h_me_reader h_me_machine h_me_isles h_me_court h_me_study h_me_paper h_me_paperCourt h_me_past h_me_pastAhead h_me_movingAhead q_me k_me o_m9 (0 : Int32) z3 ez3) kw520 kw517 kw519 kw1 kw110 hd_X8_grant ⟨rfl, rfl⟩ rfl rfl ⟨rfl, rfl⟩ hX hK hw [0] (by decide) rfl rfl rfl rfl rfl hl.1 rfl rfl dX8_image_52) hw hA [0] (by decide) rfl rfl (fun H locs hw => ?_)
      have hw : Wd dC dI A s.heap [wX8 h_me h_me_reader h_me_machine h_me_isles h_me_court h_me_study h_me_paper h_me_paperCourt h_me_past h_me_pastAhead h_me_movingAhead q_me k_me z3.2, wX2 h_me_isles h_me_isles_now q_me_isles k_me_isles o_me_isles, wX4 h_me_isles_now q_me_isles_now k_me_isles_now o_me_isles_now, wPL o_pool, wX2 h_img h_img_now q_img k_img z2.1, wX4 h_img_now q_img_now k_img_now z2.2] H locs := hw
      have hy := Option.some.inj h
      rw [← hQz]
      refine W.widen (k := 10) (n := 92) (Nat.le_of_ble_eq_true rfl) (Nat.le_of_ble_eq_true rfl) ?_
      refine lv_fi (v := y9.1) (by rw [← hy]) ?_
      refine xrn_i (X := Nat × Nat × (Nat → Nat) × (Nat → ClassId) × (Nat → Nat) × (Nat → ClassId) × Int32 × Ob × Ob × Ob) (v := fun x => x.2.2.2.2.2.2.1) (L1 := (fun x => [wX8 h_me h_me_reader h_me_machine h_me_isles h_me_court h_me_study h_me_paper h_me_paperCourt h_me_past h_me_pastAhead h_me_movingAhead q_me k_me x.2.2.2.2.2.2.2.1, wX2 h_me_isles h_me_isles_now q_me_isles k_me_isles o_me_isles, wX4 h_me_isles_now q_me_isles_now k_me_isles_now o_me_isles_now, wPL o_pool, wX2 x.1 x.2.1 x.2.2.1 x.2.2.2.1 x.2.2.2.2.2.2.2.2.1, wX4 x.2.1 x.2.2.2.2.1 x.2.2.2.2.2.1 x.2.2.2.2.2.2.2.2.2])) (T1 := (fun x => [tX8 k_me, tX2 k_me_isles, tX4 k_me_isles_now, tPL o_pool, tX2 x.2.2.2.1, tX4 x.2.2.2.2.2.1])) (P := (fun x => f_X8_image_b o_me_isles o_me_isles_now o_pool (tR o_me 7 p0.toNatClampNeg (some x.1)) ob2 ob0 = some x.2.2.2.2.2.2)) (h_img, h_img_now, q_img, k_img, q_img_now, k_img_now, y9) hx hb hr rfl hlk hK ?_ h9 dX8_image_55
      rw [← hy]
      exact hw
    · have h := z_f h c
      exact absurd h (by simp)
