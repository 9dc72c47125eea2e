-- references that may be none
section Opt
variable {p : Program} {l : Launch} {e : Env} {R : Room} {s : State} {m : MethodId} {args : Array Value} {below : List Frame} {meth : Method} {c : Code} {H H0 : Heap} {locs : List Loc} {cells slots : Nat} {Q : State → Prop} {pc : Nat} {ls : Array Slot} {rest : List Value} {cc : ByteArray}
theorem xaload_n (hx : p.tables.exec = Jvm.exec) (hb : c.code = cc) {k : Fin 4} {i : Nat} {r : Option Nat} (hdg : decode cc pc = .ok (.aload_n k, 1)) (hi : (k : Nat) = i) (hl : ls[i]? = some (.val (va_rf r))) (kk : W p l e R s m args below meth c H locs cells slots Q (F0 m (pc + 1) ls (va_rf r :: rest))) : W p l e R s m args below meth c H locs cells slots Q (F0 m pc ls rest) := by
  cases r with
  | none => exact lv_aload_nN hx hb hdg hi hl kk
  | some a => exact lv_aload_n hx hb hdg hi hl kk
theorem xaload (hx : p.tables.exec = Jvm.exec) (hb : c.code = cc) {i : Nat} {r : Option Nat} (hdg : decode cc pc = .ok (.aload i, 2)) (hl : ls[i]? = some (.val (va_rf r))) (kk : W p l e R s m args below meth c H locs cells slots Q (F0 m (pc + 2) ls (va_rf r :: rest))) : W p l e R s m args below meth c H locs cells slots Q (F0 m pc ls rest) := by
  cases r with
  | none => exact lv_aloadN hx hb hdg hl kk
  | some a => exact lv_aload hx hb hdg hl kk
theorem xastore_n (hx : p.tables.exec = Jvm.exec) (hb : c.code = cc) {k : Fin 4} {i nL : Nat} {r : Option Nat} {lv lv' : List (Nat × Value)} (hdg : decode cc pc = .ok (.astore_n k, 1)) (hi : (k : Nat) = i) (h : lv_has ls nL lv) (hn : i < nL) (hl : (i, va_rf r) :: lv.filter (fun q => !(q.1 == i) && !(q.1 + 1 == i && q.2.category == 2)) = lv') (kk : ∀ ls' : Array Slot, lv_has ls' nL lv' → W p l e R s m args below meth c H locs cells slots Q (F0 m (pc + 1) ls' rest)) : W p l e R s m args below meth c H locs cells slots Q (F0 m pc ls (va_rf r :: rest)) := by
  cases r with
  | none => exact lv_astore_nN hx hb hdg hi h hn hl kk
  | some a => exact lv_astore_n hx hb hdg hi h hn hl kk
theorem xastore (hx : p.tables.exec = Jvm.exec) (hb : c.code = cc) {i nL : Nat} {r : Option Nat} {lv lv' : List (Nat × Value)} (hdg : decode cc pc = .ok (.astore i, 2)) (h : lv_has ls nL lv) (hn : i < nL) (hl : (i, va_rf r) :: lv.filter (fun q => !(q.1 == i) && !(q.1 + 1 == i && q.2.category == 2)) = lv') (kk : ∀ ls' : Array Slot, lv_has ls' nL lv' → W p l e R s m args below meth c H locs cells slots Q (F0 m (pc + 2) ls' rest)) : W p l e R s m args below meth c H locs cells slots Q (F0 m pc ls (va_rf r :: rest)) := by
  cases r with
  | none => exact lv_astoreN hx hb hdg h hn hl kk
  | some a => exact lv_astore hx hb hdg h hn hl kk
end Opt
-- the laws' codes: as many as there are
abbrev CR : Type := Nat × (Nat → Nat) × (Nat → ClassId) × Nat × Nat × Ob
def wCR (c : CR) : va_W := wX0 c.1 c.2.2.2.1 c.2.2.2.2.1 c.2.1 c.2.2.1 c.2.2.2.2.2
def tCR (c : CR) : va_TL := tX0 c.2.2.1
def wPL (pl : List CR) : va_W := (pl.map wCR).flatten
def tPL (pl : List CR) : va_TL := (pl.map tCR).flatten
def pfind (pl : List CR) (a : Nat) : Option CR := pl.find? (fun c => Nat.beq c.1 a)
def zop {α : Type} (r : Option Nat) (pl : List CR) (kn : Option α) (ks : CR → Option α) : Option α :=
  match r with
  | none => kn
  | some a => (pfind pl a).bind ks
def zpo (pl : List CR) (r : Option Nat) : Bool :=
  match r with
  | none => true
  | some a => (pfind pl a).isSome
theorem pfind_some {pl : List CR} {a : Nat} {c : CR} (h : pfind pl a = some c) : c.1 = a ∧ ∃ l1 l2 : List CR, pl = l1 ++ c :: l2 := by
  obtain ⟨h1, as, bs, h2, -⟩ := List.find?_eq_some_iff_append.mp h
  exact ⟨Nat.eq_of_beq_eq_true h1, as, bs, h2⟩
theorem z_op {α : Type} {r : Option Nat} {pl : List CR} {kn : Option α} {ks : CR → Option α} {y : α} (h : zop r pl kn ks = some y) : (r = none ∧ kn = some y) ∨ (∃ (c : CR) (l1 l2 : List CR), r = some c.1 ∧ pl = l1 ++ c :: l2 ∧ ks c = some y) := by
  cases r with
  | none => exact Or.inl ⟨rfl, h⟩
  | some a =>
    have h : (pfind pl a).bind ks = some y := h
    obtain ⟨c, h1, h2⟩ := z_bd h
    obtain ⟨e, l1, l2, e2⟩ := pfind_some h1
    exact Or.inr ⟨c, l1, l2, by rw [e], e2, h2⟩
theorem z_po {pl : List CR} {r : Option Nat} (h : zpo pl r = true) : r = none ∨ ∃ (c : CR) (l1 l2 : List CR), r = some c.1 ∧ pl = l1 ++ c :: l2 := by
  cases r with
  | none => exact Or.inl rfl
  | some a =>
    have h : (pfind pl a).isSome = true := h
    obtain ⟨c, h1⟩ := Option.isSome_iff_exists.mp h
    obtain ⟨e, l1, l2, e2⟩ := pfind_some h1
    exact Or.inr ⟨c, l1, l2, by rw [e], e2⟩
theorem vp_perm {D : va_G} {cl : List vw_C} {ws ws' : va_W} {H : Heap} (hp : ws.Perm ws') (h : va_P D cl ws H) : va_P D cl ws' H := by
  intro k q hk
  obtain ⟨i, hi⟩ := List.mem_iff_getElem?.mp (hp.mem_iff.mpr (List.mem_of_getElem? hk))
  exact h i q hi
theorem vd_iff {A : Nat → Prop} {ws : va_W} : va_D A ws ↔ (ws.map (fun x => x.1)).Nodup ∧ ∀ x ∈ ws, A x.1 := by
  constructor
  · intro h
    refine ⟨?_, fun x hx => ?_⟩
    · refine List.pairwise_iff_getElem.mpr (fun i j hi hj hij e => ?_)
      simp only [List.length_map] at hi hj
      rw [List.getElem_map, List.getElem_map] at e
      have := h.1 i j _ _ (List.getElem?_eq_getElem hi) (List.getElem?_eq_getElem hj) e
      omega
    · obtain ⟨i, hi⟩ := List.mem_iff_getElem?.mp hx
      exact h.2 i x hi
  · intro h
    refine ⟨fun i j p q hi hj e => ?_, fun k q hk => h.2 q (List.mem_of_getElem? hk)⟩
    have a1 : (ws.map (fun x => x.1))[i]? = some p.1 := by rw [List.getElem?_map, hi]; rfl
    have a2 : (ws.map (fun x => x.1))[j]? = some p.1 := by rw [List.getElem?_map, hj, e]; rfl
    exact nd_at h.1 a1 a2
theorem vd_perm {A : Nat → Prop} {ws ws' : va_W} (hp : ws.Perm ws') (h : va_D A ws) : va_D A ws' := by
  have h := vd_iff.mp h
  exact vd_iff.mpr ⟨((hp.map _).nodup_iff).mp h.1, fun x hx => h.2 x (hp.mem_iff.mpr hx)⟩
theorem jn_mid (Ls : List va_W) : ∀ (n : Nat) (z : va_W), Ls[n]? = some z → ∃ R : va_W, (Jn Ls).Perm (z ++ R) ∧ ∀ x : va_W, (Jn (Ls.set n x)).Perm (x ++ R) := by
  induction Ls with
  | nil => intro n z h; simp at h
  | cons c Ls ih =>
    intro n z h
    cases n with
    | zero =>
      have e : c = z := by simpa using h
      subst e
      exact ⟨Jn Ls, List.Perm.refl _, fun x => List.Perm.refl _⟩
    | succ n =>
      obtain ⟨R, h1, h2⟩ := ih n z (by simpa using h)
      refine ⟨c ++ R, ?_, fun x => ?_⟩
      · show (c ++ Jn Ls).Perm (z ++ (c ++ R))
        exact (h1.append_left c).trans (List.perm_append_comm_assoc c z R)
      · show (c ++ Jn (Ls.set n x)).Perm (x ++ (c ++ R))
        exact ((h2 x).append_left c).trans (List.perm_append_comm_assoc c x R)
theorem jn_snoc (Ls : List va_W) (x : va_W) : (Jn (Ls ++ [x])).Perm (x ++ Jn Ls) := by
  have e : Jn (Ls ++ [x]) = Jn Ls ++ x := by
    show (Ls ++ [x]).flatten = Ls.flatten ++ x
    rw [List.flatten_append]; simp
  rw [e]
  exact List.perm_append_comm
theorem wPL_mid (l1 l2 : List CR) (c : CR) : (wPL (l1 ++ c :: l2)).Perm (wCR c ++ wPL (l1 ++ l2)) := by
  have e1 : wPL (l1 ++ c :: l2) = wPL l1 ++ (wCR c ++ wPL l2) := by
    show ((l1 ++ c :: l2).map wCR).flatten = _
    rw [List.map_append, List.flatten_append, List.map_cons, List.flatten_cons]; rfl
  have e2 : wPL (l1 ++ l2) = wPL l1 ++ wPL l2 := by
    show ((l1 ++ l2).map wCR).flatten = _
    rw [List.map_append, List.flatten_append]; rfl
  rw [e1, e2]
  exact List.perm_append_comm_assoc _ _ _
theorem wd_perm {dC : Nat → ClassId} {dI : Nat → Nat → Nat} {A : Nat → Prop} {H0 H : Heap} {locs : List Loc} {Ls Ls' : List va_W} (hp : (Jn Ls).Perm (Jn Ls')) (h : Wd dC dI A H0 Ls H locs) : Wd dC dI A H0 Ls' H locs := ⟨vp_perm hp h.1, vd_perm hp h.2.1, h.2.2⟩
/-- one code out of the pool -/
theorem wd_split {dC : Nat → ClassId} {dI : Nat → Nat → Nat} {A : Nat → Prop} {H0 H : Heap} {locs : List Loc} {Ls : List va_W} (n : Nat) {l1 l2 : List CR} {c : CR} (hn : Ls[n]? = some (wPL (l1 ++ c :: l2))) (h : Wd dC dI A H0 Ls H locs) : Wd dC dI A H0 (Ls.set n (wPL (l1 ++ l2)) ++ [wCR c]) H locs := by
  obtain ⟨R, h1, h2⟩ := jn_mid Ls n _ hn
  refine wd_perm ?_ h
  refine h1.trans (List.Perm.trans ?_ (jn_snoc _ _).symm)
  refine ((wPL_mid l1 l2 c).append_right R).trans ?_
  rw [List.append_assoc]
  exact (h2 _).symm.append_left _
theorem wd_join {dC : Nat → ClassId} {dI : Nat → Nat → Nat} {A : Nat → Prop} {H0 H : Heap} {locs : List Loc} {Ls : List va_W} (n : Nat) {l1 l2 : List CR} {c : CR} {z : va_W} (hn : Ls[n]? = some z) (h : Wd dC dI A H0 (Ls.set n (wPL (l1 ++ l2)) ++ [wCR c]) H locs) : Wd dC dI A H0 (Ls.set n (wPL (l1 ++ c :: l2))) H locs := by
  obtain ⟨R, h1, h2⟩ := jn_mid Ls n _ hn
  refine wd_perm ?_ h
  refine (jn_snoc _ _).trans (List.Perm.trans ?_ (h2 _).symm)
  refine ((h2 _).append_left _).trans ?_
  rw [← List.append_assoc]
  exact (wPL_mid l1 l2 c).symm.append_right R
theorem tPL_mem {l1 l2 : List CR} {c : CR} {x : ClassId × FieldType} (h : x ∈ tPL (l1 ++ l2) ∨ x ∈ tCR c) : x ∈ tPL (l1 ++ c :: l2) := by
  have e1 : tPL (l1 ++ c :: l2) = tPL l1 ++ (tCR c ++ tPL l2) := by
    show ((l1 ++ c :: l2).map tCR).flatten = _
    rw [List.map_append, List.flatten_append, List.map_cons, List.flatten_cons]; rfl
  have e2 : tPL (l1 ++ l2) = tPL l1 ++ tPL l2 := by
    show ((l1 ++ l2).map tCR).flatten = _
    rw [List.map_append, List.flatten_append]; rfl
  rw [e1]
  rw [e2] at h
  simp only [List.mem_append] at h ⊢
  rcases h with (h | h) | h
  · exact Or.inl h
  · exact Or.inr (Or.inr h)
  · exact Or.inr (Or.inl h)
theorem wk_split {D : va_G} {cl : List vw_C} {U : State} {Ts : List va_TL} (n : Nat) {l1 l2 : List CR} {c : CR} (hn : Ts[n]? = some (tPL (l1 ++ c :: l2))) (h : va_K D cl (Jt Ts) U) : va_K D cl (Jt (Ts.set n (tPL (l1 ++ l2)) ++ [tCR c])) U := by
  refine jk_of h (fun x hx => ?_)
  obtain ⟨t, ht, hxt⟩ := jt_mem hx
  have full : x ∈ tPL (l1 ++ c :: l2) → x ∈ Jt Ts := fun hm => List.mem_flatten.mpr ⟨_, List.mem_of_getElem? hn, hm⟩
  rcases List.mem_append.mp ht with ht | ht
  · rcases List.mem_or_eq_of_mem_set ht with ht | ht
    · exact List.mem_flatten.mpr ⟨t, ht, hxt⟩
    · subst ht
      exact full (tPL_mem (Or.inl hxt))
  · have e : t = tCR c := by simpa using ht
    subst e
    exact full (tPL_mem (Or.inr hxt))
def zcp (sp dp n : Int32) (N0 N1 : Nat) : Bool := decide (0 ≤ sp.toInt ∧ 0 ≤ dp.toInt ∧ 0 ≤ n.toInt ∧ sp.toInt + n.toInt ≤ (N0 : Int) ∧ dp.toInt + n.toInt ≤ (N1 : Int))
def cA (o : Ob) (i : Nat) (f : Nat → Int32) (sp dp n : Int32) : Ob := sA o i (va_cpy f (gA o i) sp.toNatClampNeg dp.toNatClampNeg n.toNatClampNeg)
section Dec2
variable {p : Program} {l : Launch} {e : Env} {R : Room} {s : State} {m : MethodId} {args : Array Value} {below : List Frame} {meth : Method} {c : Code} {H H0 : Heap} {locs : List Loc} {cells slots : Nat} {Q : State → Prop} {pc : Nat} {ls : Array Slot} {rest : List Value} {cc : ByteArray} {dC : Nat → ClassId} {dI : Nat → Nat → Nat} {A : Nat → Prop} {Ls : List va_W} {Ts : List va_TL} {tys : va_TL}
theorem z_nn {x : Int32} (h : 0 ≤ x.toInt) : ¬ x < 0 := fun z => by
  have := Int32.lt_iff_toInt_lt.mp z
  have e : (0 : Int32).toInt = 0 := by decide
  omega
theorem xcopy (hx : p.tables.exec = Jvm.exec) (hb : c.code = cc) (hml : c.maxLocals = ls.size) {own : String} {index : Nat} (hown : s.vm.findClass own = some m.cls) (hts : ∀ w ∈ gt, w.before args s = true) (k1 : Cond.methodLink own index arraycopyName ∈ gt) (k2 : Cond.native arraycopyName ∈ gt) (k3 : Cond.static arraycopyName ∈ gt) (k4 : Cond.initialized "java/lang/System" ∈ gt) (hK : va_K (dC, dI) vwCl (Jt Ts) s) (hw : Wd dC dI A H0 Ls H locs)
    {n0 j0 u0 n1 j1 u1 a0 a1 N0 N1 : Nat} {cs0 cs1 : va_W} {ts0 ts1 : va_TL} {c0 c1 : ClassId} {f g : Nat → Int32} (hn0 : Ls[n0]? = some cs0) (he0 : cs0[j0]? = some (a0, .inl (c0, N0, .inl f))) (hn1 : Ls[n1]? = some cs1) (he1 : cs1[j1]? = some (a1, .inl (c1, N1, .inl g))) (hT0 : Ts[n0]? = some ts0) (ht0 : ts0[u0]? = some (c0, .int)) (hT1 : Ts[n1]? = some ts1) (ht1 : ts1[u1]? = some (c1, .int)) {sp dp n : Int32} (hg : zcp sp dp n N0 N1 = true)
    (hframes : 1 ≤ R.frames) (hlocals : (rest.map fun (v : Value) => v.category).sum + (nativeFrameWords "java/lang/System" "arraycopy" 5 + 11) ≤ R.locals) (hdg : decode cc pc = .ok (.invokestatic index, 3))
    (kk : ∀ (H1 : Heap) (locs1 : List Loc), Wd dC dI A H0 (Ls.set n1 (cs1.set j1 (a1, .inl (c1, N1, .inl (va_cpy f g sp.toNatClampNeg dp.toNatClampNeg n.toNatClampNeg))))) H1 locs1 → W p l e R s m args below meth c H1 locs1 cells slots Q (F0 m (pc + 3) ls rest)) : W p l e R s m args below meth c H locs cells slots Q (F0 m pc ls (.int n :: .int dp :: .ref a1 :: .int sp :: .ref a0 :: rest)) := by
  obtain ⟨g1, g2, g3, g4, g5⟩ := of_decide_eq_true hg
  obtain ⟨t0, q0⟩ := jt_get hT0 ht0
  obtain ⟨t1, q1⟩ := jt_get hT1 ht1
  obtain ⟨h1, h2⟩ := jn_get Ls n1 j1 cs1 _ hn1 he1
  have e1 : sp.toNatClampNeg = sp.toInt.toNat := rfl
  have e2 : dp.toNatClampNeg = dp.toInt.toNat := rfl
  have e3 : n.toNatClampNeg = n.toInt.toNat := rfl
  refine va_copyi hx hb hml hown (hts _ k1) (hts _ k2) (hts _ k3) (hts _ k4) hK hw.1 hw.2.1 hw.2.2 _ _ t0 t1 (ty := .int) (jn_get Ls n0 j0 cs0 _ hn0 he0).1 h1 q0 q1 rfl (z_nn g1) (z_nn g2) (z_nn g3) (by rw [e1, e3]; omega) (by rw [e2, e3]; omega) (fun _ _ => rfl) hframes hlocals hdg (fun H1 locs1 a b d => kk H1 locs1 ?_)
  rw [h2] at a b
  exact ⟨a, b, d⟩
theorem wPL_at {pl l1 l2 : List CR} {c : CR} (h : pl = l1 ++ c :: l2) : ∃ j : Nat, (wPL pl)[j]? = some (c.1, .inr (0, ((wCR c)[0]?.map (fun x => match x.2 with | .inr q => q.2 | _ => [])).getD [])) := by
  refine List.mem_iff_getElem?.mp ?_
  rw [h]
  refine (wPL_mid l1 l2 c).mem_iff.mpr (List.mem_append_left _ ?_)
  exact List.mem_cons_self
/-- a law into its place -/
theorem fbX2q {me r_now n np : Nat} {q : Nat → Nat} {k : Nat → ClassId} {o : Ob} {pl : List CR} (hx : p.tables.exec = Jvm.exec) (hb : c.code = cc) (hK : va_K (dC, dI) vwCl (Jt Ts) s) (hw : Wd dC dI A H0 Ls H locs) (hn : Ls[n]? = some (wX2 me r_now q k o)) (hT : Ts[n]? = some (tX2 k)) (hp : Ls[np]? = some (wPL pl)) {j : Int32} {r : Option Nat} (hr : zpo pl r = true) (hi : zin j 6 = true) (hdg : decode cc pc = .ok (.aastore, 1))
    (kk : ∀ (H1 : Heap) (locs1 : List Loc), Wd dC dI A H0 (Ls.set n (wX2 me r_now q k (tR o 6 j.toNatClampNeg r))) H1 locs1 → W p l e R s m args below meth c H1 locs1 cells slots Q (F0 m (pc + 1) ls rest)) : W p l e R s m args below meth c H locs cells slots Q (F0 m pc ls (va_rf r :: .int j :: .ref (q 6) :: rest)) := by
  obtain ⟨t, ht⟩ := jt_get (j := 5) hT rfl
  obtain ⟨h1, h2⟩ := jn_get Ls n 6 _ _ hn rfl
  rcases z_po hr with rfl | ⟨c9, l1, l2, rfl, hpl⟩
  · refine va_astqN hx hb hK hw.1 hw.2.1 hw.2.2 _ t h1 ht (z_in hi) hdg (fun H1 locs1 a b d => kk H1 locs1 ?_)
    rw [h2] at a b
    exact ⟨a, b, d⟩
  · obtain ⟨j9, hj9⟩ := wPL_at hpl
    refine va_astq hx hb hK hw.1 hw.2.1 hw.2.2 _ t _ 0 (r := (RX0, TX0, 9)) h1 ht (jn_get Ls np j9 _ _ hp hj9).1 rfl (z_in hi) hdg (fun H1 locs1 a b d => kk H1 locs1 ?_)
    rw [h2] at a b
    exact ⟨a, b, d⟩
-- texts
theorem xS_B (hX : wX s ∧ wT dI A s) (hS : va_S A s.heap H locs) : va_S (fun q => dI 100 0 ≤ q) s.heap H locs := ⟨hS.1, fun q h1 h2 => hS.2.1 q h1 (fun h => h2 (hX.2.2.1 q h)), fun l h => hX.2.2.1 _ (hS.2.2 l h)⟩
variable {own : String} {idx i : Nat}
theorem xs_val (hx : p.tables.exec = Jvm.exec) (hb : c.code = cc) (hX : wX s ∧ wT dI A s) (hw : Wd dC dI A s.heap Ls H locs) (hts : ∀ w ∈ gt, w.before args s = true) (hown : s.vm.findClass own = some m.cls) (hi : decide (i < 9) = true) (hl : Cond.fieldLink own idx "java/lang/String" "value" "[B" ∈ gt) (hdg : decode cc pc = .ok (.getfield idx, 3)) (kk : W p l e R s m args below meth c H locs cells slots Q (F0 m (pc + 3) ls (.ref (dI 102 i) :: rest))) : W p l e R s m args below meth c H locs cells slots Q (F0 m pc ls (.ref (dI 101 i) :: rest)) :=
  vk_getf hx hb (hX.2.2.2.1.1 i (of_decide_eq_true hi)).2.2.1 (xS_B hX hw.2.2) hown (hts _ hl) (fun _ h => h) hdg kk
theorem xs_cod (hx : p.tables.exec = Jvm.exec) (hb : c.code = cc) (hX : wX s ∧ wT dI A s) (hw : Wd dC dI A s.heap Ls H locs) (hts : ∀ w ∈ gt, w.before args s = true) (hown : s.vm.findClass own = some m.cls) (hi : decide (i < 9) = true) (hl : Cond.fieldLink own idx "java/lang/String" "coder" "B" ∈ gt) (hdg : decode cc pc = .ok (.getfield idx, 3)) (kk : W p l e R s m args below meth c H locs cells slots Q (F0 m (pc + 3) ls (.int 0 :: rest))) : W p l e R s m args below meth c H locs cells slots Q (F0 m pc ls (.ref (dI 101 i) :: rest)) :=
  vk_getf hx hb (hX.2.2.2.1.1 i (of_decide_eq_true hi)).2.1 (xS_B hX hw.2.2) hown (hts _ hl) (fun _ h => h) hdg kk
theorem xs_cs (hx : p.tables.exec = Jvm.exec) (hb : c.code = cc) (hX : wX s ∧ wT dI A s) (hw : Wd dC dI A s.heap Ls H locs) (hts : ∀ w ∈ gt, w.before args s = true) (hown : s.vm.findClass own = some m.cls) (hl : Cond.fieldLink own idx "java/lang/String" "COMPACT_STRINGS" "Z" ∈ gt) (hdg : decode cc pc = .ok (.getstatic idx, 3)) (kk : W p l e R s m args below meth c H locs cells slots Q (F0 m (pc + 3) ls (.int 1 :: rest))) : W p l e R s m args below meth c H locs cells slots Q (F0 m pc ls rest) :=
  va_gets hx hb hX.2.2.2.2.1 (xS_B hX hw.2.2) hown (hts _ hl) (fun _ h => h) hdg kk
theorem xs_sio (hx : p.tables.exec = Jvm.exec) (hb : c.code = cc) (hX : wX s ∧ wT dI A s) (hw : Wd dC dI A s.heap Ls H locs) (hts : ∀ w ∈ gt, w.before args s = true) (hown : s.vm.findClass own = some m.cls) (hl : Cond.fieldLink own idx "jdk/internal/util/Preconditions" "SIOOBE_FORMATTER" "Ljava/util/function/BiFunction;" ∈ gt) (hdg : decode cc pc = .ok (.getstatic idx, 3)) (kk : ∀ r : Option Nat, W p l e R s m args below meth c H locs cells slots Q (F0 m (pc + 3) ls (va_rf r :: rest))) : W p l e R s m args below meth c H locs cells slots Q (F0 m pc ls rest) := by
  rcases hX.2.2.2.2.2.1 with h | ⟨t, h⟩
  · exact va_gets hx hb h (xS_B hX hw.2.2) hown (hts _ hl) (fun _ h => h) hdg (kk none)
  · exact va_gets hx hb h (xS_B hX hw.2.2) hown (hts _ hl) (fun _ h => h) hdg (kk (some t))
theorem xs_len (hx : p.tables.exec = Jvm.exec) (hb : c.code = cc) (hX : wX s ∧ wT dI A s) (hw : Wd dC dI A s.heap Ls H locs) (hi : decide (i < 9) = true) (hdg : decode cc pc = .ok (.arraylength, 1)) (kk : W p l e R s m args below meth c H locs cells slots Q (F0 m (pc + 1) ls (.int (Int32.ofNat (lnS.getD i 0)) :: rest))) : W p l e R s m args below meth c H locs cells slots Q (F0 m pc ls (.ref (dI 102 i) :: rest)) :=
  va_tlen hx hb (hX.2.2.2.1.1 i (of_decide_eq_true hi)).2.2.2 (xS_B hX hw.2.2) rfl hdg kk
theorem xs_ld (hx : p.tables.exec = Jvm.exec) (hb : c.code = cc) (hX : wX s ∧ wT dI A s) (hw : Wd dC dI A s.heap Ls H locs) (hi : decide (i < 9) = true) {j : Int32} (hj : zin j (lnS.getD i 0) = true) (hdg : decode cc pc = .ok (.baload, 1)) (kk : W p l e R s m args below meth c H locs cells slots Q (F0 m (pc + 1) ls (.int ((btS.getD i []).getD j.toNatClampNeg 0) :: rest))) : W p l e R s m args below meth c H locs cells slots Q (F0 m pc ls (.int j :: .ref (dI 102 i) :: rest)) :=
  va_tb hx hb (hX.2.2.2.1.1 i (of_decide_eq_true hi)).2.2.2 (xS_B hX hw.2.2) (z_in hj) rfl hdg kk
def zch (v : Int32) : Bool := decide (narrow .char (.int v) = .int v)
theorem z_ch {v : Int32} (h : zch v = true) : narrow .char (.int v) = .int v := of_decide_eq_true h
variable {index nL maxL : Nat} {y : MethodName} {b : ByteArray} {ret : Option FieldType} {rm : Room} {Qc : (Nat → Prop) → Array Value → State → Outcome → State → Prop} {As : List Value} {st : List Value}
theorem xrT (S : CallFix p m c cc nL s args gt own) (hM : CC l y b maxL ret rm dC dI H.size (.ref (dI 101 i) :: As) (Jn []) (Jt []) Qc 0 0) (hi : decide (i < 9) = true) (hy : y.cls = "java/lang/String") (mcode : Cond.code y b maxL ret ∈ gt) (ml : Cond.methodLink own index y ∈ gt) (mi : Cond.instanceMethod y ∈ gt) (msel : Cond.selects y.cls y y ∈ gt) (mini : Cond.initialized y.cls ∈ gt) (hd : y.cls ≠ "java/lang/invoke/MethodHandle" ∧ y.cls ≠ "java/lang/invoke/VarHandle" ∧ (parseMethodDescriptor y.desc).map (fun d => d.parameters.length) = some As.length) (hR : (rm.frames + 1).ble R.frames = true ∧ (8 + (maxL + 11) + rm.locals).ble R.locals = true) (hrc : rm.cells = 0) (hrs : rm.slots = 0) (hf : (cells + 0).ble R.cells = true ∧ (slots + 0).ble R.slots = true)
    (hX : wX s ∧ wT dI A s) (hK : va_K (dC, dI) vwCl (Jt Ts) s) (hw : Wd dC dI A s.heap Ls H locs) (hsz : ls.size = nL) (hst : st = As.reverse ++ .ref (dI 101 i) :: rest) (hW : ((rest.map fun (v : Value) => v.category).sum).ble 8 = true) (hdg : decode cc pc = .ok (.invokevirtual index, 3)) :
    va_Run p l e R s m args below meth c H locs cells slots 0 0 (F0 m pc ls st) rest (Qc (va_A (Jn []) H.size) (Value.ref (dI 101 i) :: As).toArray) (va_A (Jn []) H.size) := by
  have hts := S.2.2.2.2
  have hD0 : va_D A (Jn []) := ⟨fun i j p q h => by simp [Jn] at h, fun k q h => by simp [Jn] at h⟩
  have hP0 : va_P (dC, dI) vwCl (Jn []) H := fun k q h => by simp [Jn] at h
  refine va_runV S hM ⟨callB_of As.length hts (wz_good mcode) rfl hrc hrs (hts _ mini) (hts _ ml) hd ⟨Nat.le_of_ble_eq_true hR.1, Nat.le_of_ble_eq_true hR.2⟩, hts _ mi, hts _ msel⟩ ⟨wA_blind, ?_, fun U hU hW => ⟨rfl, by rw [hU], by rw [hU]; exact hP0, va_K.moved hW.alike (jk_of hK (fun x hx => by simp [Jt] at hx)), hD0.weaken (fun _ _ _ _ => trivial), wY_call hX hw.2.2 hD0 hU hW⟩⟩ rfl rfl hsz hst (lv_room (Nat.le_of_ble_eq_true hW)) hdg ⟨Nat.le_of_ble_eq_true hf.1, Nat.le_of_ble_eq_true hf.2⟩
  have h := vk_recv hX.2.2.2.1 (of_decide_eq_true hi) (xS_B hX hw.2.2)
  rw [hy]
  exact h
end Dec2
