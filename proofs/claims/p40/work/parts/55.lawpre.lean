/-! THE CLAIM OUT OF ONE WALK OF THE LAW'S BODY. Your part is whole_start (and what it stands on); all else here is the same for every law, but numbers. -/
def R_law : String := "NoSecondLaw"
def lw_P (b : Addr) (xs : List Int32) (args : Array Value) (s : State) : Prop := args = #[.ref b] ∧ s.IntsAt b xs ∧ xs.length ≤ 3072 ∧ (Jvm.Cond.and given_1 narrow_1).before args s = true
def lw_Q (_ : Array Value) (s : State) (o : Outcome) (t : State) : Prop := o = .returned (some (.int 1)) ∧ Framed s o t [] 600000 7302250
def lw_Z (below : List Frame) (a : Array Value) (s : State) : State → Prop := fun t => ∃ o, t.status = .running ∧ Ended t below o ∧ lw_Q a s o t
/-- the law's own end, with 1 on the stack, nothing written that was there before, its room as the claim has it -/
theorem lw_ret {p : Program} {l : Launch} {e : Env} {s : State} {m : MethodId} {below : List Frame} {meth : Method} {c : Code} {b : Nat} (hx : p.tables.exec = Jvm.exec) (hb : c.code = code) (hr : meth.sig.returnType = ret) (hlocks : meth.locks = false) {pc : Nat} {H : Heap} {ls : Array Slot} (hdg : decode code pc = .ok (.ireturn, 1)) : W p l e room_1 s m #[Value.ref b] below meth c H [] 600000 7302250 (lw_Z below #[Value.ref b] s) (F0 m pc ls [.int 1]) := by
  intro T hT X
  obtain ⟨fs, hret, hrun, hended, hW, hframe⟩ := X.leave (v := some (.int 1)) (hlocks := hlocks) (fun h => by rw [hr] at h; cases h)
  have hmeth' : T.vm.method? m = some meth := X.method'
  refine ⟨T.setFrames fs, ?_, .returned (some (.int 1)), hrun, hended, rfl, ⟨_, rfl⟩, hW, hframe⟩
  jvm_step X.here [X.here.top, hx, hb, hdg, hmeth', hr, ret, narrow_b1]
  (try refine ⟨rfl, ?_⟩); (try refine ⟨rfl, ?_⟩)
  first | (intro acts; rw [hret _ acts rfl rfl rfl]) | rw [hret _ _ rfl rfl rfl]
  exact Steps.refl _
/-- what holds at the law's entry: the machine, the code, the tables' words (any of lw_tbl by 'hts w (by decide +kernel)'), the script of L ints xs at the cell b, what the Statement gives of the start (any of its parts by flat_of_before) -/
def lw_At (p : Program) (s : State) (m : MethodId) (meth : Method) (c : Code) (b L : Nat) (xs : Nat → Int32) : Prop :=
  p.tables.exec = Jvm.exec ∧ c.code = code ∧ meth.sig.returnType = ret ∧ c.maxLocals = 4 ∧ s.vm.findClass R_law = some m.cls ∧ (∀ w ∈ lw_tbl, w.before #[Value.ref b] s = true) ∧ va_X b L xs s s.heap ∧ b < s.heap.size ∧ meth.locks = false ∧ (Jvm.Cond.and given_1 narrow_1).before #[Value.ref b] s = true
theorem law_in {i : Int32} {n L j : Nat} (hi : i.toInt = (n : Int)) (hn : n + 6 ≤ L) (hL : L ≤ 3072) (h1 : 1 ≤ j) (h2 : j ≤ 5) : vp_in (i + Int32.ofNat j) L := by
  have e : (i + Int32.ofNat j).toInt = (n : Int) + (j : Int) := i32_add hi (nI_toInt (n := j) (by omega)) (by omega) (by omega)
  exact vin_of (m := (L : Int)) rfl (by rw [e]; omega) (by rw [e]; omega)
-- the law's world: the class's objects, the codes, the images, the reference
abbrev IR : Type := Nat × Nat × (Nat → Nat) × (Nat → ClassId) × (Nat → Nat) × (Nat → ClassId) × Ob × Ob
def wI2 : Option IR → va_W
  | none => []
  | some r => wX2 r.1 r.2.1 r.2.2.1 r.2.2.2.1 r.2.2.2.2.2.2.1
def wI4 : Option IR → va_W
  | none => []
  | some r => wX4 r.2.1 r.2.2.2.2.1 r.2.2.2.2.2.1 r.2.2.2.2.2.2.2
def tI2 : Option IR → va_TL
  | none => []
  | some r => tX2 r.2.2.2.1
def tI4 : Option IR → va_TL
  | none => []
  | some r => tX4 r.2.2.2.2.2.1
def LW (h : Nat → Nat) (q : Nat → Nat → Nat) (k : Nat → Nat → ClassId) (S : Nat → Ob) (pl : List CR) (im0 im1 : Option IR) : List va_W := [wX8 (h 0) (h 1) (h 3) (h 4) (h 6) (h 7) (h 8) (h 10) (h 11) (h 12) (h 13) (q 0) (k 0) (S 0), wX6 (h 1) (h 2) (q 1) (k 1) (S 1), wX0 (h 2) 12 400 (q 2) (k 2) (S 2), wX3 (h 3) (q 3) (k 3) (S 3), wX2 (h 4) (h 5) (q 4) (k 4) (S 4), wX4 (h 5) (q 5) (k 5) (S 5), wX1 (h 6) (h 4) (h 3) (q 6) (k 6) (S 6), wX7 (h 7) (h 6) (h 4) (q 7) (k 7) (S 7), wX2 (h 8) (h 9) (q 8) (k 8) (S 8), wX4 (h 9) (q 9) (k 9) (S 9), wX1 (h 10) (h 8) (h 3) (q 10) (k 10) (S 10), wX5 (h 11) (q 11) (k 11) (S 11), wX5 (h 12) (q 12) (k 12) (S 12), wX4 (h 13) (q 13) (k 13) (S 13), wPL pl, wI2 im0, wI4 im0, wI2 im1, wI4 im1, wX9 (h 14) (q 14) (k 14) (S 14)]
def LT (k : Nat → Nat → ClassId) (pl : List CR) (im0 im1 : Option IR) : List va_TL := [tX8 (k 0), tX6 (k 1), tX0 (k 2), tX3 (k 3), tX2 (k 4), tX4 (k 5), tX1 (k 6), tX7 (k 7), tX2 (k 8), tX4 (k 9), tX1 (k 10), tX5 (k 11), tX5 (k 12), tX4 (k 13), tPL pl, tI2 im0, tI4 im0, tI2 im1, tI4 im1, tX9 (k 14)]
