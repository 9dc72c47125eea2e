noncomputable def nq {α : Type} (l : List α) : Nat → Option α := List.rec (motive := fun _ => Nat → Option α) (fun _ => none) (fun a _ ih n => Nat.rec (motive := fun _ => Option α) (some a) (fun m _ => ih m) n) l
theorem nq_get {α : Type} : ∀ (l : List α) (n : Nat), nq l n = l[n]?
  | [], n => rfl
  | _ :: _, 0 => rfl
  | _ :: t, n + 1 => (nq_get t n).trans rfl
theorem gw1 {w : Jvm.Cond} (i : Nat) (h : nq tables_1_1 i = some w) (hg : goodWord w = true) : w ∈ gt := gm1 i ((nq_get _ _).symm.trans h) hg
theorem gw2 {w : Jvm.Cond} (i : Nat) (h : nq tables_1_2 i = some w) (hg : goodWord w = true) : w ∈ gt := gm2 i ((nq_get _ _).symm.trans h) hg
theorem gw3 {w : Jvm.Cond} (i : Nat) (h : nq tables_1_3 i = some w) (hg : goodWord w = true) : w ∈ gt := gm3 i ((nq_get _ _).symm.trans h) hg
theorem gw4 {w : Jvm.Cond} (i : Nat) (h : nq tables_1_4 i = some w) (hg : goodWord w = true) : w ∈ gt := gm4 i ((nq_get _ _).symm.trans h) hg
theorem gw5 {w : Jvm.Cond} (i : Nat) (h : nq tables_1_5 i = some w) (hg : goodWord w = true) : w ∈ gt := gm5 i ((nq_get _ _).symm.trans h) hg
theorem gw6 {w : Jvm.Cond} (i : Nat) (h : nq tables_1_6 i = some w) (hg : goodWord w = true) : w ∈ gt := gm6 i ((nq_get _ _).symm.trans h) hg
theorem gw7 {w : Jvm.Cond} (i : Nat) (h : nq tables_1_7 i = some w) (hg : goodWord w = true) : w ∈ gt := gm7 i ((nq_get _ _).symm.trans h) hg
theorem gw8 {w : Jvm.Cond} (i : Nat) (h : nq tables_1_8 i = some w) (hg : goodWord w = true) : w ∈ gt := gm8 i ((nq_get _ _).symm.trans h) hg
theorem gs1 {y : MethodName} {n : Nat} (i : Nat) (h : nq lw_privs_1 i = some (y, n)) : Cond.selects y.cls y y ∈ gt := List.mem_filter.mpr ⟨List.mem_append.mpr (Or.inl (List.mem_map.mpr ⟨(y, n), (List.mem_append.mpr (Or.inl (List.mem_of_getElem? ((nq_get _ _).symm.trans h)))), rfl⟩)), rfl⟩
theorem gs2 {y : MethodName} {n : Nat} (i : Nat) (h : nq lw_privs_2 i = some (y, n)) : Cond.selects y.cls y y ∈ gt := List.mem_filter.mpr ⟨List.mem_append.mpr (Or.inl (List.mem_map.mpr ⟨(y, n), (List.mem_append.mpr (Or.inr (List.mem_append.mpr (Or.inl (List.mem_of_getElem? ((nq_get _ _).symm.trans h)))))), rfl⟩)), rfl⟩
theorem gs3 {y : MethodName} {n : Nat} (i : Nat) (h : nq lw_privs_3 i = some (y, n)) : Cond.selects y.cls y y ∈ gt := List.mem_filter.mpr ⟨List.mem_append.mpr (Or.inl (List.mem_map.mpr ⟨(y, n), (List.mem_append.mpr (Or.inr (List.mem_append.mpr (Or.inr (List.mem_append.mpr (Or.inl (List.mem_of_getElem? ((nq_get _ _).symm.trans h)))))))), rfl⟩)), rfl⟩
theorem gs4 {y : MethodName} {n : Nat} (i : Nat) (h : nq lw_privs_4 i = some (y, n)) : Cond.selects y.cls y y ∈ gt := List.mem_filter.mpr ⟨List.mem_append.mpr (Or.inl (List.mem_map.mpr ⟨(y, n), (List.mem_append.mpr (Or.inr (List.mem_append.mpr (Or.inr (List.mem_append.mpr (Or.inr (List.mem_append.mpr (Or.inl (List.mem_of_getElem? ((nq_get _ _).symm.trans h)))))))))), rfl⟩)), rfl⟩
theorem gs5 {y : MethodName} {n : Nat} (i : Nat) (h : nq lw_privs_5 i = some (y, n)) : Cond.selects y.cls y y ∈ gt := List.mem_filter.mpr ⟨List.mem_append.mpr (Or.inl (List.mem_map.mpr ⟨(y, n), (List.mem_append.mpr (Or.inr (List.mem_append.mpr (Or.inr (List.mem_append.mpr (Or.inr (List.mem_append.mpr (Or.inr (List.mem_append.mpr (Or.inl (List.mem_of_getElem? ((nq_get _ _).symm.trans h)))))))))))), rfl⟩)), rfl⟩
theorem gs6 {y : MethodName} {n : Nat} (i : Nat) (h : nq lw_privs_6 i = some (y, n)) : Cond.selects y.cls y y ∈ gt := List.mem_filter.mpr ⟨List.mem_append.mpr (Or.inl (List.mem_map.mpr ⟨(y, n), (List.mem_append.mpr (Or.inr (List.mem_append.mpr (Or.inr (List.mem_append.mpr (Or.inr (List.mem_append.mpr (Or.inr (List.mem_append.mpr (Or.inr (List.mem_append.mpr (Or.inl (List.mem_of_getElem? ((nq_get _ _).symm.trans h)))))))))))))), rfl⟩)), rfl⟩
theorem gs7 {y : MethodName} {n : Nat} (i : Nat) (h : nq lw_privs_7 i = some (y, n)) : Cond.selects y.cls y y ∈ gt := List.mem_filter.mpr ⟨List.mem_append.mpr (Or.inl (List.mem_map.mpr ⟨(y, n), (List.mem_append.mpr (Or.inr (List.mem_append.mpr (Or.inr (List.mem_append.mpr (Or.inr (List.mem_append.mpr (Or.inr (List.mem_append.mpr (Or.inr (List.mem_append.mpr (Or.inr (List.mem_of_getElem? ((nq_get _ _).symm.trans h)))))))))))))), rfl⟩)), rfl⟩
-- decode, an instruction at a time: what stands at a place, by the bytes alone
abbrev ZD : Type → Type := Jvm.ClassFile.Decoder
abbrev zU1 : ZD Nat := Jvm.ClassFile.Reader.u1
abbrev zU2 : ZD Nat := Jvm.ClassFile.Reader.u2
abbrev zS1 : ZD Int := Jvm.ClassFile.Reader.s1
abbrev zS2 : ZD Int := Jvm.ClassFile.Reader.s2
noncomputable def dq {α : Type} (l : List α) : Nat → List α := List.rec (motive := fun _ => Nat → List α) (fun _ => []) (fun a t ih n => Nat.rec (motive := fun _ => List α) (a :: t) (fun m _ => ih m) n) l
theorem dq_drop {α : Type} : ∀ (l : List α) (n : Nat), dq l n = l.drop n
  | [], n => by cases n <;> rfl
  | _ :: _, 0 => rfl
  | _ :: t, n + 1 => dq_drop t n
noncomputable def bq1 (c : ByteArray) (pc op : Nat) : Bool := match dq c.data.toList pc with
  | a :: _ => Nat.beq a.toNat op
  | [] => false
noncomputable def bq2 (c : ByteArray) (pc op x : Nat) : Bool := match dq c.data.toList pc with
  | a :: b :: _ => Nat.beq a.toNat op && Nat.beq b.toNat x
  | _ => false
noncomputable def bq3 (c : ByteArray) (pc op x y : Nat) : Bool := match dq c.data.toList pc with
  | a :: b :: d :: _ => Nat.beq a.toNat op && (Nat.beq b.toNat x && Nat.beq d.toNat y)
  | _ => false
theorem zu1 {c : ByteArray} {pc : Nat} {a : UInt8} {l : List UInt8} (h : c.data.toList.drop pc = a :: l) : zU1 c pc = .ok (a.toNat, pc + 1) := by
  have e1 : (c.data.toList.drop pc).length = l.length + 1 := by rw [h]; rfl
  rw [List.length_drop] at e1
  have hl : pc < c.data.toList.length := by omega
  have hs : pc < c.size := hl
  have hg : c.data.toList[pc]? = some a := by
    have q : (c.data.toList.drop pc)[0]? = c.data.toList[pc + 0]? := List.getElem?_drop
    rw [h] at q
    exact q.symm
  have hg2 : c[pc] = a := by
    have q := List.getElem?_eq_getElem hl
    rw [hg] at q
    exact (Option.some.inj q).symm
  show ((if h : pc < c.size then (do set (pc + 1); Pure.pure (c[pc]).toNat) else throw (Jvm.ClassFile.HasTruncated.truncated pc) : ZD Nat)) c pc = _
  rw [dif_pos hs, hg2]
  rfl
theorem drop_s {α : Type} {a : α} {l : List α} : ∀ {L : List α} {n : Nat}, L.drop n = a :: l → L.drop (n + 1) = l := by
  intro L n h
  have q : (L.drop n).drop 1 = L.drop (n + 1) := List.drop_drop
  rw [← q, h]; rfl
theorem bq1_u {c : ByteArray} {pc op : Nat} (h : bq1 c pc op = true) : zU1 c pc = .ok (op, pc + 1) := by
  unfold bq1 at h
  rw [dq_drop] at h
  cases e : c.data.toList.drop pc with
  | nil => rw [e] at h; cases h
  | cons a l =>
    rw [e] at h
    have q : a.toNat = op := Nat.eq_of_beq_eq_true h
    rw [zu1 e, q]
theorem bq2_u {c : ByteArray} {pc op x : Nat} (h : bq2 c pc op x = true) : zU1 c pc = .ok (op, pc + 1) ∧ zU1 c (pc + 1) = .ok (x, pc + 1 + 1) := by
  unfold bq2 at h
  rw [dq_drop] at h
  cases e : c.data.toList.drop pc with
  | nil => rw [e] at h; cases h
  | cons a l =>
    rw [e] at h
    cases l with
    | nil => cases h
    | cons b l =>
      have h : (Nat.beq a.toNat op && Nat.beq b.toNat x) = true := h
      have h := (Bool.and_eq_true _ _).mp h
      rw [zu1 e, zu1 (drop_s e), Nat.eq_of_beq_eq_true h.1, Nat.eq_of_beq_eq_true h.2]
      exact ⟨rfl, rfl⟩
theorem bq3_u {c : ByteArray} {pc op x y : Nat} (h : bq3 c pc op x y = true) : zU1 c pc = .ok (op, pc + 1) ∧ zU1 c (pc + 1) = .ok (x, pc + 1 + 1) ∧ zU1 c (pc + 1 + 1) = .ok (y, pc + 1 + 1 + 1) := by
  unfold bq3 at h
  rw [dq_drop] at h
  cases e : c.data.toList.drop pc with
  | nil => rw [e] at h; cases h
  | cons a l =>
    rw [e] at h
    cases l with
    | nil => cases h
    | cons b l =>
      cases l with
      | nil => cases h
      | cons d l =>
        have h : (Nat.beq a.toNat op && (Nat.beq b.toNat x && Nat.beq d.toNat y)) = true := h
        have h := (Bool.and_eq_true _ _).mp h
        have h' := (Bool.and_eq_true _ _).mp h.2
        rw [zu1 e, zu1 (drop_s e), zu1 (drop_s (drop_s e)), Nat.eq_of_beq_eq_true h.1, Nat.eq_of_beq_eq_true h'.1, Nat.eq_of_beq_eq_true h'.2]
        exact ⟨rfl, rfl, rfl⟩
theorem zu2 {c : ByteArray} {p x y : Nat} (h2 : zU1 c p = .ok (x, p + 1)) (h3 : zU1 c (p + 1) = .ok (y, p + 1 + 1)) : zU2 c p = .ok (x * 256 + y, p + 1 + 1) := by
  have e : zU2 c p = Except.bind (zU1 c p) (fun x => Except.bind (zU1 c x.2) (fun y => .ok (x.1 * 256 + y.1, y.2))) := rfl
  rw [e, h2]
  show Except.bind (zU1 c (p + 1)) (fun z => .ok (x * 256 + z.1, z.2)) = _
  rw [h3]; rfl
theorem zs1 {c : ByteArray} {p x : Nat} (h : zU1 c p = .ok (x, p + 1)) : zS1 c p = .ok (Jvm.ClassFile.Reader.signed 8 x, p + 1) := by
  have e : zS1 c p = Except.bind (zU1 c p) (fun x => .ok (Jvm.ClassFile.Reader.signed 8 x.1, x.2)) := rfl
  rw [e, h]; rfl
theorem zs2 {c : ByteArray} {p x y : Nat} (h2 : zU1 c p = .ok (x, p + 1)) (h3 : zU1 c (p + 1) = .ok (y, p + 1 + 1)) : zS2 c p = .ok (Jvm.ClassFile.Reader.signed 16 (x * 256 + y), p + 1 + 1) := by
  have e : zS2 c p = Except.bind (zU2 c p) (fun x => .ok (Jvm.ClassFile.Reader.signed 16 x.1, x.2)) := rfl
  rw [e, zu2 h2 h3]; rfl
theorem dec_bind {K : Nat → ZD Instr} {c : ByteArray} {pc a : Nat} (hK : Jvm.ClassFile.Decoder.instr pc = (Bind.bind zU1 K)) (h : zU1 c pc = .ok (a, pc + 1)) : decode c pc = Except.bind (K a c (pc + 1)) (fun x => .ok (x.1, x.2 - pc)) := by
  have e1 : decode c pc = Except.bind (Jvm.ClassFile.Decoder.instr pc c pc) (fun x => .ok (x.1, x.2 - pc)) := rfl
  have e2 : (Bind.bind zU1 K : ZD Instr) c pc = Except.bind (zU1 c pc) (fun x => K x.1 c x.2) := rfl
  rw [e1, hK, e2, h]; rfl
theorem zd1 {c : ByteArray} {pc : Nat} (h : bq1 c pc 1 = true) : decode c pc = .ok (Instr.aconst_null, 1) := by
  have e := dec_bind (K := _) rfl (bq1_u h)
  have e2 : decode c pc = .ok (Instr.aconst_null, pc + 1 - pc) := e
  rw [e2, Nat.add_sub_cancel_left]
theorem zd2 {c : ByteArray} {pc : Nat} (h : bq1 c pc 2 = true) : decode c pc = .ok (Instr.iconst (-1), 1) := by
  have e := dec_bind (K := _) rfl (bq1_u h)
  have e2 : decode c pc = .ok (Instr.iconst (-1), pc + 1 - pc) := e
  rw [e2, Nat.add_sub_cancel_left]
theorem zd3 {c : ByteArray} {pc : Nat} (h : bq1 c pc 3 = true) : decode c pc = .ok (Instr.iconst 0, 1) := by
  have e := dec_bind (K := _) rfl (bq1_u h)
  have e2 : decode c pc = .ok (Instr.iconst 0, pc + 1 - pc) := e
  rw [e2, Nat.add_sub_cancel_left]
theorem zd4 {c : ByteArray} {pc : Nat} (h : bq1 c pc 4 = true) : decode c pc = .ok (Instr.iconst 1, 1) := by
  have e := dec_bind (K := _) rfl (bq1_u h)
  have e2 : decode c pc = .ok (Instr.iconst 1, pc + 1 - pc) := e
  rw [e2, Nat.add_sub_cancel_left]
theorem zd5 {c : ByteArray} {pc : Nat} (h : bq1 c pc 5 = true) : decode c pc = .ok (Instr.iconst 2, 1) := by
  have e := dec_bind (K := _) rfl (bq1_u h)
  have e2 : decode c pc = .ok (Instr.iconst 2, pc + 1 - pc) := e
  rw [e2, Nat.add_sub_cancel_left]
theorem zd6 {c : ByteArray} {pc : Nat} (h : bq1 c pc 6 = true) : decode c pc = .ok (Instr.iconst 3, 1) := by
  have e := dec_bind (K := _) rfl (bq1_u h)
  have e2 : decode c pc = .ok (Instr.iconst 3, pc + 1 - pc) := e
  rw [e2, Nat.add_sub_cancel_left]
theorem zd7 {c : ByteArray} {pc : Nat} (h : bq1 c pc 7 = true) : decode c pc = .ok (Instr.iconst 4, 1) := by
  have e := dec_bind (K := _) rfl (bq1_u h)
  have e2 : decode c pc = .ok (Instr.iconst 4, pc + 1 - pc) := e
  rw [e2, Nat.add_sub_cancel_left]
theorem zd8 {c : ByteArray} {pc : Nat} (h : bq1 c pc 8 = true) : decode c pc = .ok (Instr.iconst 5, 1) := by
  have e := dec_bind (K := _) rfl (bq1_u h)
  have e2 : decode c pc = .ok (Instr.iconst 5, pc + 1 - pc) := e
  rw [e2, Nat.add_sub_cancel_left]
theorem zd9 {c : ByteArray} {pc : Nat} (h : bq1 c pc 9 = true) : decode c pc = .ok (Instr.lconst 0, 1) := by
  have e := dec_bind (K := _) rfl (bq1_u h)
  have e2 : decode c pc = .ok (Instr.lconst 0, pc + 1 - pc) := e
  rw [e2, Nat.add_sub_cancel_left]
theorem zd10 {c : ByteArray} {pc : Nat} (h : bq1 c pc 10 = true) : decode c pc = .ok (Instr.lconst 1, 1) := by
  have e := dec_bind (K := _) rfl (bq1_u h)
  have e2 : decode c pc = .ok (Instr.lconst 1, pc + 1 - pc) := e
  rw [e2, Nat.add_sub_cancel_left]
theorem zd16 {c : ByteArray} {pc x : Nat} (h : bq2 c pc 16 x = true) : decode c pc = .ok (Instr.bipush (Jvm.ClassFile.Reader.signed 8 x), 2) := by
  obtain ⟨h1, h2⟩ := bq2_u h
  have e := dec_bind (K := _) rfl h1
  have e2 : decode c pc = Except.bind (Except.bind (zS1 c (pc + 1)) (fun x => .ok (Instr.bipush (x.1), x.2))) (fun x => .ok (x.1, x.2 - pc)) := e
  rw [zs1 h2] at e2
  have e3 : decode c pc = .ok (Instr.bipush (Jvm.ClassFile.Reader.signed 8 x), pc + 1 + 1 - pc) := e2
  have e5 : pc + 1 + 1 - pc = 2 := by omega
  rw [e3, e5]
theorem zd17 {c : ByteArray} {pc x y : Nat} (h : bq3 c pc 17 x y = true) : decode c pc = .ok (Instr.sipush (Jvm.ClassFile.Reader.signed 16 (x * 256 + y)), 3) := by
  obtain ⟨h1, h2, h3⟩ := bq3_u h
  have e := dec_bind (K := _) rfl h1
  have e2 : decode c pc = Except.bind (Except.bind (zS2 c (pc + 1)) (fun x => .ok (Instr.sipush (x.1), x.2))) (fun x => .ok (x.1, x.2 - pc)) := e
  rw [zs2 h2 h3] at e2
  have e3 : decode c pc = .ok (Instr.sipush (Jvm.ClassFile.Reader.signed 16 (x * 256 + y)), pc + 1 + 1 + 1 - pc) := e2
  have e5 : pc + 1 + 1 + 1 - pc = 3 := by omega
  rw [e3, e5]
theorem zd18 {c : ByteArray} {pc x : Nat} (h : bq2 c pc 18 x = true) : decode c pc = .ok (Instr.ldc (x), 2) := by
  obtain ⟨h1, h2⟩ := bq2_u h
  have e := dec_bind (K := _) rfl h1
  have e2 : decode c pc = Except.bind (Except.bind (zU1 c (pc + 1)) (fun x => .ok (Instr.ldc (x.1), x.2))) (fun x => .ok (x.1, x.2 - pc)) := e
  rw [h2] at e2
  have e3 : decode c pc = .ok (Instr.ldc (x), pc + 1 + 1 - pc) := e2
  have e5 : pc + 1 + 1 - pc = 2 := by omega
  rw [e3, e5]
theorem zd19 {c : ByteArray} {pc x y : Nat} (h : bq3 c pc 19 x y = true) : decode c pc = .ok (Instr.ldc_w (x * 256 + y), 3) := by
  obtain ⟨h1, h2, h3⟩ := bq3_u h
  have e := dec_bind (K := _) rfl h1
  have e2 : decode c pc = Except.bind (Except.bind (zU2 c (pc + 1)) (fun x => .ok (Instr.ldc_w (x.1), x.2))) (fun x => .ok (x.1, x.2 - pc)) := e
  rw [zu2 h2 h3] at e2
  have e3 : decode c pc = .ok (Instr.ldc_w (x * 256 + y), pc + 1 + 1 + 1 - pc) := e2
  have e5 : pc + 1 + 1 + 1 - pc = 3 := by omega
  rw [e3, e5]
theorem zd20 {c : ByteArray} {pc x y : Nat} (h : bq3 c pc 20 x y = true) : decode c pc = .ok (Instr.ldc2_w (x * 256 + y), 3) := by
  obtain ⟨h1, h2, h3⟩ := bq3_u h
  have e := dec_bind (K := _) rfl h1
  have e2 : decode c pc = Except.bind (Except.bind (zU2 c (pc + 1)) (fun x => .ok (Instr.ldc2_w (x.1), x.2))) (fun x => .ok (x.1, x.2 - pc)) := e
  rw [zu2 h2 h3] at e2
  have e3 : decode c pc = .ok (Instr.ldc2_w (x * 256 + y), pc + 1 + 1 + 1 - pc) := e2
  have e5 : pc + 1 + 1 + 1 - pc = 3 := by omega
  rw [e3, e5]
theorem zd21 {c : ByteArray} {pc x : Nat} (h : bq2 c pc 21 x = true) : decode c pc = .ok (Instr.iload (x), 2) := by
  obtain ⟨h1, h2⟩ := bq2_u h
  have e := dec_bind (K := _) rfl h1
  have e2 : decode c pc = Except.bind (Except.bind (zU1 c (pc + 1)) (fun x => .ok (Instr.iload (x.1), x.2))) (fun x => .ok (x.1, x.2 - pc)) := e
  rw [h2] at e2
  have e3 : decode c pc = .ok (Instr.iload (x), pc + 1 + 1 - pc) := e2
  have e5 : pc + 1 + 1 - pc = 2 := by omega
  rw [e3, e5]
theorem zd22 {c : ByteArray} {pc x : Nat} (h : bq2 c pc 22 x = true) : decode c pc = .ok (Instr.lload (x), 2) := by
  obtain ⟨h1, h2⟩ := bq2_u h
  have e := dec_bind (K := _) rfl h1
  have e2 : decode c pc = Except.bind (Except.bind (zU1 c (pc + 1)) (fun x => .ok (Instr.lload (x.1), x.2))) (fun x => .ok (x.1, x.2 - pc)) := e
  rw [h2] at e2
  have e3 : decode c pc = .ok (Instr.lload (x), pc + 1 + 1 - pc) := e2
  have e5 : pc + 1 + 1 - pc = 2 := by omega
  rw [e3, e5]
theorem zd26 {c : ByteArray} {pc : Nat} (h : bq1 c pc 26 = true) : decode c pc = .ok (Instr.iload_n 0, 1) := by
  have e := dec_bind (K := _) rfl (bq1_u h)
  have e2 : decode c pc = .ok (Instr.iload_n 0, pc + 1 - pc) := e
  rw [e2, Nat.add_sub_cancel_left]
theorem zd27 {c : ByteArray} {pc : Nat} (h : bq1 c pc 27 = true) : decode c pc = .ok (Instr.iload_n 1, 1) := by
  have e := dec_bind (K := _) rfl (bq1_u h)
  have e2 : decode c pc = .ok (Instr.iload_n 1, pc + 1 - pc) := e
  rw [e2, Nat.add_sub_cancel_left]
theorem zd28 {c : ByteArray} {pc : Nat} (h : bq1 c pc 28 = true) : decode c pc = .ok (Instr.iload_n 2, 1) := by
  have e := dec_bind (K := _) rfl (bq1_u h)
  have e2 : decode c pc = .ok (Instr.iload_n 2, pc + 1 - pc) := e
  rw [e2, Nat.add_sub_cancel_left]
theorem zd29 {c : ByteArray} {pc : Nat} (h : bq1 c pc 29 = true) : decode c pc = .ok (Instr.iload_n 3, 1) := by
  have e := dec_bind (K := _) rfl (bq1_u h)
  have e2 : decode c pc = .ok (Instr.iload_n 3, pc + 1 - pc) := e
  rw [e2, Nat.add_sub_cancel_left]
theorem zd30 {c : ByteArray} {pc : Nat} (h : bq1 c pc 30 = true) : decode c pc = .ok (Instr.lload_n 0, 1) := by
  have e := dec_bind (K := _) rfl (bq1_u h)
  have e2 : decode c pc = .ok (Instr.lload_n 0, pc + 1 - pc) := e
  rw [e2, Nat.add_sub_cancel_left]
theorem zd31 {c : ByteArray} {pc : Nat} (h : bq1 c pc 31 = true) : decode c pc = .ok (Instr.lload_n 1, 1) := by
  have e := dec_bind (K := _) rfl (bq1_u h)
  have e2 : decode c pc = .ok (Instr.lload_n 1, pc + 1 - pc) := e
  rw [e2, Nat.add_sub_cancel_left]
theorem zd32 {c : ByteArray} {pc : Nat} (h : bq1 c pc 32 = true) : decode c pc = .ok (Instr.lload_n 2, 1) := by
  have e := dec_bind (K := _) rfl (bq1_u h)
  have e2 : decode c pc = .ok (Instr.lload_n 2, pc + 1 - pc) := e
  rw [e2, Nat.add_sub_cancel_left]
theorem zd33 {c : ByteArray} {pc : Nat} (h : bq1 c pc 33 = true) : decode c pc = .ok (Instr.lload_n 3, 1) := by
  have e := dec_bind (K := _) rfl (bq1_u h)
  have e2 : decode c pc = .ok (Instr.lload_n 3, pc + 1 - pc) := e
  rw [e2, Nat.add_sub_cancel_left]
theorem zd42 {c : ByteArray} {pc : Nat} (h : bq1 c pc 42 = true) : decode c pc = .ok (Instr.aload_n 0, 1) := by
  have e := dec_bind (K := _) rfl (bq1_u h)
  have e2 : decode c pc = .ok (Instr.aload_n 0, pc + 1 - pc) := e
  rw [e2, Nat.add_sub_cancel_left]
theorem zd43 {c : ByteArray} {pc : Nat} (h : bq1 c pc 43 = true) : decode c pc = .ok (Instr.aload_n 1, 1) := by
  have e := dec_bind (K := _) rfl (bq1_u h)
  have e2 : decode c pc = .ok (Instr.aload_n 1, pc + 1 - pc) := e
  rw [e2, Nat.add_sub_cancel_left]
theorem zd44 {c : ByteArray} {pc : Nat} (h : bq1 c pc 44 = true) : decode c pc = .ok (Instr.aload_n 2, 1) := by
  have e := dec_bind (K := _) rfl (bq1_u h)
  have e2 : decode c pc = .ok (Instr.aload_n 2, pc + 1 - pc) := e
  rw [e2, Nat.add_sub_cancel_left]
theorem zd45 {c : ByteArray} {pc : Nat} (h : bq1 c pc 45 = true) : decode c pc = .ok (Instr.aload_n 3, 1) := by
  have e := dec_bind (K := _) rfl (bq1_u h)
  have e2 : decode c pc = .ok (Instr.aload_n 3, pc + 1 - pc) := e
  rw [e2, Nat.add_sub_cancel_left]
theorem zd46 {c : ByteArray} {pc : Nat} (h : bq1 c pc 46 = true) : decode c pc = .ok (Instr.iaload, 1) := by
  have e := dec_bind (K := _) rfl (bq1_u h)
  have e2 : decode c pc = .ok (Instr.iaload, pc + 1 - pc) := e
  rw [e2, Nat.add_sub_cancel_left]
theorem zd47 {c : ByteArray} {pc : Nat} (h : bq1 c pc 47 = true) : decode c pc = .ok (Instr.laload, 1) := by
  have e := dec_bind (K := _) rfl (bq1_u h)
  have e2 : decode c pc = .ok (Instr.laload, pc + 1 - pc) := e
  rw [e2, Nat.add_sub_cancel_left]
theorem zd50 {c : ByteArray} {pc : Nat} (h : bq1 c pc 50 = true) : decode c pc = .ok (Instr.aaload, 1) := by
  have e := dec_bind (K := _) rfl (bq1_u h)
  have e2 : decode c pc = .ok (Instr.aaload, pc + 1 - pc) := e
  rw [e2, Nat.add_sub_cancel_left]
theorem zd51 {c : ByteArray} {pc : Nat} (h : bq1 c pc 51 = true) : decode c pc = .ok (Instr.baload, 1) := by
  have e := dec_bind (K := _) rfl (bq1_u h)
  have e2 : decode c pc = .ok (Instr.baload, pc + 1 - pc) := e
  rw [e2, Nat.add_sub_cancel_left]
theorem zd54 {c : ByteArray} {pc x : Nat} (h : bq2 c pc 54 x = true) : decode c pc = .ok (Instr.istore (x), 2) := by
  obtain ⟨h1, h2⟩ := bq2_u h
  have e := dec_bind (K := _) rfl h1
  have e2 : decode c pc = Except.bind (Except.bind (zU1 c (pc + 1)) (fun x => .ok (Instr.istore (x.1), x.2))) (fun x => .ok (x.1, x.2 - pc)) := e
  rw [h2] at e2
  have e3 : decode c pc = .ok (Instr.istore (x), pc + 1 + 1 - pc) := e2
  have e5 : pc + 1 + 1 - pc = 2 := by omega
  rw [e3, e5]
theorem zd55 {c : ByteArray} {pc x : Nat} (h : bq2 c pc 55 x = true) : decode c pc = .ok (Instr.lstore (x), 2) := by
  obtain ⟨h1, h2⟩ := bq2_u h
  have e := dec_bind (K := _) rfl h1
  have e2 : decode c pc = Except.bind (Except.bind (zU1 c (pc + 1)) (fun x => .ok (Instr.lstore (x.1), x.2))) (fun x => .ok (x.1, x.2 - pc)) := e
  rw [h2] at e2
  have e3 : decode c pc = .ok (Instr.lstore (x), pc + 1 + 1 - pc) := e2
  have e5 : pc + 1 + 1 - pc = 2 := by omega
  rw [e3, e5]
theorem zd59 {c : ByteArray} {pc : Nat} (h : bq1 c pc 59 = true) : decode c pc = .ok (Instr.istore_n 0, 1) := by
  have e := dec_bind (K := _) rfl (bq1_u h)
  have e2 : decode c pc = .ok (Instr.istore_n 0, pc + 1 - pc) := e
  rw [e2, Nat.add_sub_cancel_left]
theorem zd60 {c : ByteArray} {pc : Nat} (h : bq1 c pc 60 = true) : decode c pc = .ok (Instr.istore_n 1, 1) := by
  have e := dec_bind (K := _) rfl (bq1_u h)
  have e2 : decode c pc = .ok (Instr.istore_n 1, pc + 1 - pc) := e
  rw [e2, Nat.add_sub_cancel_left]
theorem zd61 {c : ByteArray} {pc : Nat} (h : bq1 c pc 61 = true) : decode c pc = .ok (Instr.istore_n 2, 1) := by
  have e := dec_bind (K := _) rfl (bq1_u h)
  have e2 : decode c pc = .ok (Instr.istore_n 2, pc + 1 - pc) := e
  rw [e2, Nat.add_sub_cancel_left]
theorem zd62 {c : ByteArray} {pc : Nat} (h : bq1 c pc 62 = true) : decode c pc = .ok (Instr.istore_n 3, 1) := by
  have e := dec_bind (K := _) rfl (bq1_u h)
  have e2 : decode c pc = .ok (Instr.istore_n 3, pc + 1 - pc) := e
  rw [e2, Nat.add_sub_cancel_left]
theorem zd66 {c : ByteArray} {pc : Nat} (h : bq1 c pc 66 = true) : decode c pc = .ok (Instr.lstore_n 3, 1) := by
  have e := dec_bind (K := _) rfl (bq1_u h)
  have e2 : decode c pc = .ok (Instr.lstore_n 3, pc + 1 - pc) := e
  rw [e2, Nat.add_sub_cancel_left]
theorem zd76 {c : ByteArray} {pc : Nat} (h : bq1 c pc 76 = true) : decode c pc = .ok (Instr.astore_n 1, 1) := by
  have e := dec_bind (K := _) rfl (bq1_u h)
  have e2 : decode c pc = .ok (Instr.astore_n 1, pc + 1 - pc) := e
  rw [e2, Nat.add_sub_cancel_left]
theorem zd77 {c : ByteArray} {pc : Nat} (h : bq1 c pc 77 = true) : decode c pc = .ok (Instr.astore_n 2, 1) := by
  have e := dec_bind (K := _) rfl (bq1_u h)
  have e2 : decode c pc = .ok (Instr.astore_n 2, pc + 1 - pc) := e
  rw [e2, Nat.add_sub_cancel_left]
theorem zd79 {c : ByteArray} {pc : Nat} (h : bq1 c pc 79 = true) : decode c pc = .ok (Instr.iastore, 1) := by
  have e := dec_bind (K := _) rfl (bq1_u h)
  have e2 : decode c pc = .ok (Instr.iastore, pc + 1 - pc) := e
  rw [e2, Nat.add_sub_cancel_left]
theorem zd80 {c : ByteArray} {pc : Nat} (h : bq1 c pc 80 = true) : decode c pc = .ok (Instr.lastore, 1) := by
  have e := dec_bind (K := _) rfl (bq1_u h)
  have e2 : decode c pc = .ok (Instr.lastore, pc + 1 - pc) := e
  rw [e2, Nat.add_sub_cancel_left]
theorem zd83 {c : ByteArray} {pc : Nat} (h : bq1 c pc 83 = true) : decode c pc = .ok (Instr.aastore, 1) := by
  have e := dec_bind (K := _) rfl (bq1_u h)
  have e2 : decode c pc = .ok (Instr.aastore, pc + 1 - pc) := e
  rw [e2, Nat.add_sub_cancel_left]
theorem zd84 {c : ByteArray} {pc : Nat} (h : bq1 c pc 84 = true) : decode c pc = .ok (Instr.bastore, 1) := by
  have e := dec_bind (K := _) rfl (bq1_u h)
  have e2 : decode c pc = .ok (Instr.bastore, pc + 1 - pc) := e
  rw [e2, Nat.add_sub_cancel_left]
theorem zd87 {c : ByteArray} {pc : Nat} (h : bq1 c pc 87 = true) : decode c pc = .ok (Instr.pop, 1) := by
  have e := dec_bind (K := _) rfl (bq1_u h)
  have e2 : decode c pc = .ok (Instr.pop, pc + 1 - pc) := e
  rw [e2, Nat.add_sub_cancel_left]
theorem zd88 {c : ByteArray} {pc : Nat} (h : bq1 c pc 88 = true) : decode c pc = .ok (Instr.pop2, 1) := by
  have e := dec_bind (K := _) rfl (bq1_u h)
  have e2 : decode c pc = .ok (Instr.pop2, pc + 1 - pc) := e
  rw [e2, Nat.add_sub_cancel_left]
theorem zd89 {c : ByteArray} {pc : Nat} (h : bq1 c pc 89 = true) : decode c pc = .ok (Instr.dup, 1) := by
  have e := dec_bind (K := _) rfl (bq1_u h)
  have e2 : decode c pc = .ok (Instr.dup, pc + 1 - pc) := e
  rw [e2, Nat.add_sub_cancel_left]
theorem zd92 {c : ByteArray} {pc : Nat} (h : bq1 c pc 92 = true) : decode c pc = .ok (Instr.dup2, 1) := by
  have e := dec_bind (K := _) rfl (bq1_u h)
  have e2 : decode c pc = .ok (Instr.dup2, pc + 1 - pc) := e
  rw [e2, Nat.add_sub_cancel_left]
theorem zd96 {c : ByteArray} {pc : Nat} (h : bq1 c pc 96 = true) : decode c pc = .ok (Instr.iadd, 1) := by
  have e := dec_bind (K := _) rfl (bq1_u h)
  have e2 : decode c pc = .ok (Instr.iadd, pc + 1 - pc) := e
  rw [e2, Nat.add_sub_cancel_left]
theorem zd97 {c : ByteArray} {pc : Nat} (h : bq1 c pc 97 = true) : decode c pc = .ok (Instr.ladd, 1) := by
  have e := dec_bind (K := _) rfl (bq1_u h)
  have e2 : decode c pc = .ok (Instr.ladd, pc + 1 - pc) := e
  rw [e2, Nat.add_sub_cancel_left]
theorem zd100 {c : ByteArray} {pc : Nat} (h : bq1 c pc 100 = true) : decode c pc = .ok (Instr.isub, 1) := by
  have e := dec_bind (K := _) rfl (bq1_u h)
  have e2 : decode c pc = .ok (Instr.isub, pc + 1 - pc) := e
  rw [e2, Nat.add_sub_cancel_left]
theorem zd101 {c : ByteArray} {pc : Nat} (h : bq1 c pc 101 = true) : decode c pc = .ok (Instr.lsub, 1) := by
  have e := dec_bind (K := _) rfl (bq1_u h)
  have e2 : decode c pc = .ok (Instr.lsub, pc + 1 - pc) := e
  rw [e2, Nat.add_sub_cancel_left]
theorem zd104 {c : ByteArray} {pc : Nat} (h : bq1 c pc 104 = true) : decode c pc = .ok (Instr.imul, 1) := by
  have e := dec_bind (K := _) rfl (bq1_u h)
  have e2 : decode c pc = .ok (Instr.imul, pc + 1 - pc) := e
  rw [e2, Nat.add_sub_cancel_left]
theorem zd105 {c : ByteArray} {pc : Nat} (h : bq1 c pc 105 = true) : decode c pc = .ok (Instr.lmul, 1) := by
  have e := dec_bind (K := _) rfl (bq1_u h)
  have e2 : decode c pc = .ok (Instr.lmul, pc + 1 - pc) := e
  rw [e2, Nat.add_sub_cancel_left]
theorem zd109 {c : ByteArray} {pc : Nat} (h : bq1 c pc 109 = true) : decode c pc = .ok (Instr.ldiv, 1) := by
  have e := dec_bind (K := _) rfl (bq1_u h)
  have e2 : decode c pc = .ok (Instr.ldiv, pc + 1 - pc) := e
  rw [e2, Nat.add_sub_cancel_left]
theorem zd112 {c : ByteArray} {pc : Nat} (h : bq1 c pc 112 = true) : decode c pc = .ok (Instr.irem, 1) := by
  have e := dec_bind (K := _) rfl (bq1_u h)
  have e2 : decode c pc = .ok (Instr.irem, pc + 1 - pc) := e
  rw [e2, Nat.add_sub_cancel_left]
theorem zd113 {c : ByteArray} {pc : Nat} (h : bq1 c pc 113 = true) : decode c pc = .ok (Instr.lrem, 1) := by
  have e := dec_bind (K := _) rfl (bq1_u h)
  have e2 : decode c pc = .ok (Instr.lrem, pc + 1 - pc) := e
  rw [e2, Nat.add_sub_cancel_left]
theorem zd116 {c : ByteArray} {pc : Nat} (h : bq1 c pc 116 = true) : decode c pc = .ok (Instr.ineg, 1) := by
  have e := dec_bind (K := _) rfl (bq1_u h)
  have e2 : decode c pc = .ok (Instr.ineg, pc + 1 - pc) := e
  rw [e2, Nat.add_sub_cancel_left]
theorem zd120 {c : ByteArray} {pc : Nat} (h : bq1 c pc 120 = true) : decode c pc = .ok (Instr.ishl, 1) := by
  have e := dec_bind (K := _) rfl (bq1_u h)
  have e2 : decode c pc = .ok (Instr.ishl, pc + 1 - pc) := e
  rw [e2, Nat.add_sub_cancel_left]
theorem zd122 {c : ByteArray} {pc : Nat} (h : bq1 c pc 122 = true) : decode c pc = .ok (Instr.ishr, 1) := by
  have e := dec_bind (K := _) rfl (bq1_u h)
  have e2 : decode c pc = .ok (Instr.ishr, pc + 1 - pc) := e
  rw [e2, Nat.add_sub_cancel_left]
theorem zd124 {c : ByteArray} {pc : Nat} (h : bq1 c pc 124 = true) : decode c pc = .ok (Instr.iushr, 1) := by
  have e := dec_bind (K := _) rfl (bq1_u h)
  have e2 : decode c pc = .ok (Instr.iushr, pc + 1 - pc) := e
  rw [e2, Nat.add_sub_cancel_left]
theorem zd126 {c : ByteArray} {pc : Nat} (h : bq1 c pc 126 = true) : decode c pc = .ok (Instr.iand, 1) := by
  have e := dec_bind (K := _) rfl (bq1_u h)
  have e2 : decode c pc = .ok (Instr.iand, pc + 1 - pc) := e
  rw [e2, Nat.add_sub_cancel_left]
theorem zd128 {c : ByteArray} {pc : Nat} (h : bq1 c pc 128 = true) : decode c pc = .ok (Instr.ior, 1) := by
  have e := dec_bind (K := _) rfl (bq1_u h)
  have e2 : decode c pc = .ok (Instr.ior, pc + 1 - pc) := e
  rw [e2, Nat.add_sub_cancel_left]
theorem zd130 {c : ByteArray} {pc : Nat} (h : bq1 c pc 130 = true) : decode c pc = .ok (Instr.ixor, 1) := by
  have e := dec_bind (K := _) rfl (bq1_u h)
  have e2 : decode c pc = .ok (Instr.ixor, pc + 1 - pc) := e
  rw [e2, Nat.add_sub_cancel_left]
theorem zd132 {c : ByteArray} {pc x y : Nat} (h : bq3 c pc 132 x y = true) : decode c pc = .ok (Instr.iinc (x) (Jvm.ClassFile.Reader.signed 8 y), 3) := by
  obtain ⟨h1, h2, h3⟩ := bq3_u h
  have e := dec_bind (K := _) rfl h1
  have e2 : decode c pc = Except.bind (Except.bind (zU1 c (pc + 1)) (fun x => Except.bind (zS1 c x.2) (fun y => .ok (Instr.iinc (x.1) (y.1), y.2)))) (fun x => .ok (x.1, x.2 - pc)) := e
  rw [h2] at e2
  have e3 : decode c pc = Except.bind (Except.bind (zS1 c (pc + 1 + 1)) (fun y => .ok (Instr.iinc (x) (y.1), y.2))) (fun x => .ok (x.1, x.2 - pc)) := e2
  rw [zs1 h3] at e3
  have e4 : decode c pc = .ok (Instr.iinc (x) (Jvm.ClassFile.Reader.signed 8 y), pc + 1 + 1 + 1 - pc) := e3
  have e5 : pc + 1 + 1 + 1 - pc = 3 := by omega
  rw [e4, e5]
theorem zd133 {c : ByteArray} {pc : Nat} (h : bq1 c pc 133 = true) : decode c pc = .ok (Instr.i2l, 1) := by
  have e := dec_bind (K := _) rfl (bq1_u h)
  have e2 : decode c pc = .ok (Instr.i2l, pc + 1 - pc) := e
  rw [e2, Nat.add_sub_cancel_left]
theorem zd136 {c : ByteArray} {pc : Nat} (h : bq1 c pc 136 = true) : decode c pc = .ok (Instr.l2i, 1) := by
  have e := dec_bind (K := _) rfl (bq1_u h)
  have e2 : decode c pc = .ok (Instr.l2i, pc + 1 - pc) := e
  rw [e2, Nat.add_sub_cancel_left]
theorem zd146 {c : ByteArray} {pc : Nat} (h : bq1 c pc 146 = true) : decode c pc = .ok (Instr.i2c, 1) := by
  have e := dec_bind (K := _) rfl (bq1_u h)
  have e2 : decode c pc = .ok (Instr.i2c, pc + 1 - pc) := e
  rw [e2, Nat.add_sub_cancel_left]
theorem zd148 {c : ByteArray} {pc : Nat} (h : bq1 c pc 148 = true) : decode c pc = .ok (Instr.lcmp, 1) := by
  have e := dec_bind (K := _) rfl (bq1_u h)
  have e2 : decode c pc = .ok (Instr.lcmp, pc + 1 - pc) := e
  rw [e2, Nat.add_sub_cancel_left]
theorem zd153 {c : ByteArray} {pc x y : Nat} (h : bq3 c pc 153 x y = true) : decode c pc = .ok (Instr.ifCond .eq (Jvm.ClassFile.Reader.signed 16 (x * 256 + y)), 3) := by
  obtain ⟨h1, h2, h3⟩ := bq3_u h
  have e := dec_bind (K := _) rfl h1
  have e2 : decode c pc = Except.bind (Except.bind (zS2 c (pc + 1)) (fun x => .ok (Instr.ifCond .eq (x.1), x.2))) (fun x => .ok (x.1, x.2 - pc)) := e
  rw [zs2 h2 h3] at e2
  have e3 : decode c pc = .ok (Instr.ifCond .eq (Jvm.ClassFile.Reader.signed 16 (x * 256 + y)), pc + 1 + 1 + 1 - pc) := e2
  have e5 : pc + 1 + 1 + 1 - pc = 3 := by omega
  rw [e3, e5]
theorem zd154 {c : ByteArray} {pc x y : Nat} (h : bq3 c pc 154 x y = true) : decode c pc = .ok (Instr.ifCond .ne (Jvm.ClassFile.Reader.signed 16 (x * 256 + y)), 3) := by
  obtain ⟨h1, h2, h3⟩ := bq3_u h
  have e := dec_bind (K := _) rfl h1
  have e2 : decode c pc = Except.bind (Except.bind (zS2 c (pc + 1)) (fun x => .ok (Instr.ifCond .ne (x.1), x.2))) (fun x => .ok (x.1, x.2 - pc)) := e
  rw [zs2 h2 h3] at e2
  have e3 : decode c pc = .ok (Instr.ifCond .ne (Jvm.ClassFile.Reader.signed 16 (x * 256 + y)), pc + 1 + 1 + 1 - pc) := e2
  have e5 : pc + 1 + 1 + 1 - pc = 3 := by omega
  rw [e3, e5]
theorem zd155 {c : ByteArray} {pc x y : Nat} (h : bq3 c pc 155 x y = true) : decode c pc = .ok (Instr.ifCond .lt (Jvm.ClassFile.Reader.signed 16 (x * 256 + y)), 3) := by
  obtain ⟨h1, h2, h3⟩ := bq3_u h
  have e := dec_bind (K := _) rfl h1
  have e2 : decode c pc = Except.bind (Except.bind (zS2 c (pc + 1)) (fun x => .ok (Instr.ifCond .lt (x.1), x.2))) (fun x => .ok (x.1, x.2 - pc)) := e
  rw [zs2 h2 h3] at e2
  have e3 : decode c pc = .ok (Instr.ifCond .lt (Jvm.ClassFile.Reader.signed 16 (x * 256 + y)), pc + 1 + 1 + 1 - pc) := e2
  have e5 : pc + 1 + 1 + 1 - pc = 3 := by omega
  rw [e3, e5]
theorem zd156 {c : ByteArray} {pc x y : Nat} (h : bq3 c pc 156 x y = true) : decode c pc = .ok (Instr.ifCond .ge (Jvm.ClassFile.Reader.signed 16 (x * 256 + y)), 3) := by
  obtain ⟨h1, h2, h3⟩ := bq3_u h
  have e := dec_bind (K := _) rfl h1
  have e2 : decode c pc = Except.bind (Except.bind (zS2 c (pc + 1)) (fun x => .ok (Instr.ifCond .ge (x.1), x.2))) (fun x => .ok (x.1, x.2 - pc)) := e
  rw [zs2 h2 h3] at e2
  have e3 : decode c pc = .ok (Instr.ifCond .ge (Jvm.ClassFile.Reader.signed 16 (x * 256 + y)), pc + 1 + 1 + 1 - pc) := e2
  have e5 : pc + 1 + 1 + 1 - pc = 3 := by omega
  rw [e3, e5]
theorem zd157 {c : ByteArray} {pc x y : Nat} (h : bq3 c pc 157 x y = true) : decode c pc = .ok (Instr.ifCond .gt (Jvm.ClassFile.Reader.signed 16 (x * 256 + y)), 3) := by
  obtain ⟨h1, h2, h3⟩ := bq3_u h
  have e := dec_bind (K := _) rfl h1
  have e2 : decode c pc = Except.bind (Except.bind (zS2 c (pc + 1)) (fun x => .ok (Instr.ifCond .gt (x.1), x.2))) (fun x => .ok (x.1, x.2 - pc)) := e
  rw [zs2 h2 h3] at e2
  have e3 : decode c pc = .ok (Instr.ifCond .gt (Jvm.ClassFile.Reader.signed 16 (x * 256 + y)), pc + 1 + 1 + 1 - pc) := e2
  have e5 : pc + 1 + 1 + 1 - pc = 3 := by omega
  rw [e3, e5]
theorem zd158 {c : ByteArray} {pc x y : Nat} (h : bq3 c pc 158 x y = true) : decode c pc = .ok (Instr.ifCond .le (Jvm.ClassFile.Reader.signed 16 (x * 256 + y)), 3) := by
  obtain ⟨h1, h2, h3⟩ := bq3_u h
  have e := dec_bind (K := _) rfl h1
  have e2 : decode c pc = Except.bind (Except.bind (zS2 c (pc + 1)) (fun x => .ok (Instr.ifCond .le (x.1), x.2))) (fun x => .ok (x.1, x.2 - pc)) := e
  rw [zs2 h2 h3] at e2
  have e3 : decode c pc = .ok (Instr.ifCond .le (Jvm.ClassFile.Reader.signed 16 (x * 256 + y)), pc + 1 + 1 + 1 - pc) := e2
  have e5 : pc + 1 + 1 + 1 - pc = 3 := by omega
  rw [e3, e5]
theorem zd159 {c : ByteArray} {pc x y : Nat} (h : bq3 c pc 159 x y = true) : decode c pc = .ok (Instr.if_icmp .eq (Jvm.ClassFile.Reader.signed 16 (x * 256 + y)), 3) := by
  obtain ⟨h1, h2, h3⟩ := bq3_u h
  have e := dec_bind (K := _) rfl h1
  have e2 : decode c pc = Except.bind (Except.bind (zS2 c (pc + 1)) (fun x => .ok (Instr.if_icmp .eq (x.1), x.2))) (fun x => .ok (x.1, x.2 - pc)) := e
  rw [zs2 h2 h3] at e2
  have e3 : decode c pc = .ok (Instr.if_icmp .eq (Jvm.ClassFile.Reader.signed 16 (x * 256 + y)), pc + 1 + 1 + 1 - pc) := e2
  have e5 : pc + 1 + 1 + 1 - pc = 3 := by omega
  rw [e3, e5]
theorem zd160 {c : ByteArray} {pc x y : Nat} (h : bq3 c pc 160 x y = true) : decode c pc = .ok (Instr.if_icmp .ne (Jvm.ClassFile.Reader.signed 16 (x * 256 + y)), 3) := by
  obtain ⟨h1, h2, h3⟩ := bq3_u h
  have e := dec_bind (K := _) rfl h1
  have e2 : decode c pc = Except.bind (Except.bind (zS2 c (pc + 1)) (fun x => .ok (Instr.if_icmp .ne (x.1), x.2))) (fun x => .ok (x.1, x.2 - pc)) := e
  rw [zs2 h2 h3] at e2
  have e3 : decode c pc = .ok (Instr.if_icmp .ne (Jvm.ClassFile.Reader.signed 16 (x * 256 + y)), pc + 1 + 1 + 1 - pc) := e2
  have e5 : pc + 1 + 1 + 1 - pc = 3 := by omega
  rw [e3, e5]
theorem zd161 {c : ByteArray} {pc x y : Nat} (h : bq3 c pc 161 x y = true) : decode c pc = .ok (Instr.if_icmp .lt (Jvm.ClassFile.Reader.signed 16 (x * 256 + y)), 3) := by
  obtain ⟨h1, h2, h3⟩ := bq3_u h
  have e := dec_bind (K := _) rfl h1
  have e2 : decode c pc = Except.bind (Except.bind (zS2 c (pc + 1)) (fun x => .ok (Instr.if_icmp .lt (x.1), x.2))) (fun x => .ok (x.1, x.2 - pc)) := e
  rw [zs2 h2 h3] at e2
  have e3 : decode c pc = .ok (Instr.if_icmp .lt (Jvm.ClassFile.Reader.signed 16 (x * 256 + y)), pc + 1 + 1 + 1 - pc) := e2
  have e5 : pc + 1 + 1 + 1 - pc = 3 := by omega
  rw [e3, e5]
theorem zd162 {c : ByteArray} {pc x y : Nat} (h : bq3 c pc 162 x y = true) : decode c pc = .ok (Instr.if_icmp .ge (Jvm.ClassFile.Reader.signed 16 (x * 256 + y)), 3) := by
  obtain ⟨h1, h2, h3⟩ := bq3_u h
  have e := dec_bind (K := _) rfl h1
  have e2 : decode c pc = Except.bind (Except.bind (zS2 c (pc + 1)) (fun x => .ok (Instr.if_icmp .ge (x.1), x.2))) (fun x => .ok (x.1, x.2 - pc)) := e
  rw [zs2 h2 h3] at e2
  have e3 : decode c pc = .ok (Instr.if_icmp .ge (Jvm.ClassFile.Reader.signed 16 (x * 256 + y)), pc + 1 + 1 + 1 - pc) := e2
  have e5 : pc + 1 + 1 + 1 - pc = 3 := by omega
  rw [e3, e5]
theorem zd163 {c : ByteArray} {pc x y : Nat} (h : bq3 c pc 163 x y = true) : decode c pc = .ok (Instr.if_icmp .gt (Jvm.ClassFile.Reader.signed 16 (x * 256 + y)), 3) := by
  obtain ⟨h1, h2, h3⟩ := bq3_u h
  have e := dec_bind (K := _) rfl h1
  have e2 : decode c pc = Except.bind (Except.bind (zS2 c (pc + 1)) (fun x => .ok (Instr.if_icmp .gt (x.1), x.2))) (fun x => .ok (x.1, x.2 - pc)) := e
  rw [zs2 h2 h3] at e2
  have e3 : decode c pc = .ok (Instr.if_icmp .gt (Jvm.ClassFile.Reader.signed 16 (x * 256 + y)), pc + 1 + 1 + 1 - pc) := e2
  have e5 : pc + 1 + 1 + 1 - pc = 3 := by omega
  rw [e3, e5]
theorem zd164 {c : ByteArray} {pc x y : Nat} (h : bq3 c pc 164 x y = true) : decode c pc = .ok (Instr.if_icmp .le (Jvm.ClassFile.Reader.signed 16 (x * 256 + y)), 3) := by
  obtain ⟨h1, h2, h3⟩ := bq3_u h
  have e := dec_bind (K := _) rfl h1
  have e2 : decode c pc = Except.bind (Except.bind (zS2 c (pc + 1)) (fun x => .ok (Instr.if_icmp .le (x.1), x.2))) (fun x => .ok (x.1, x.2 - pc)) := e
  rw [zs2 h2 h3] at e2
  have e3 : decode c pc = .ok (Instr.if_icmp .le (Jvm.ClassFile.Reader.signed 16 (x * 256 + y)), pc + 1 + 1 + 1 - pc) := e2
  have e5 : pc + 1 + 1 + 1 - pc = 3 := by omega
  rw [e3, e5]
theorem zd167 {c : ByteArray} {pc x y : Nat} (h : bq3 c pc 167 x y = true) : decode c pc = .ok (Instr.goto (Jvm.ClassFile.Reader.signed 16 (x * 256 + y)), 3) := by
  obtain ⟨h1, h2, h3⟩ := bq3_u h
  have e := dec_bind (K := _) rfl h1
  have e2 : decode c pc = Except.bind (Except.bind (zS2 c (pc + 1)) (fun x => .ok (Instr.goto (x.1), x.2))) (fun x => .ok (x.1, x.2 - pc)) := e
  rw [zs2 h2 h3] at e2
  have e3 : decode c pc = .ok (Instr.goto (Jvm.ClassFile.Reader.signed 16 (x * 256 + y)), pc + 1 + 1 + 1 - pc) := e2
  have e5 : pc + 1 + 1 + 1 - pc = 3 := by omega
  rw [e3, e5]
theorem zd172 {c : ByteArray} {pc : Nat} (h : bq1 c pc 172 = true) : decode c pc = .ok (Instr.ireturn, 1) := by
  have e := dec_bind (K := _) rfl (bq1_u h)
  have e2 : decode c pc = .ok (Instr.ireturn, pc + 1 - pc) := e
  rw [e2, Nat.add_sub_cancel_left]
theorem zd173 {c : ByteArray} {pc : Nat} (h : bq1 c pc 173 = true) : decode c pc = .ok (Instr.lreturn, 1) := by
  have e := dec_bind (K := _) rfl (bq1_u h)
  have e2 : decode c pc = .ok (Instr.lreturn, pc + 1 - pc) := e
  rw [e2, Nat.add_sub_cancel_left]
theorem zd176 {c : ByteArray} {pc : Nat} (h : bq1 c pc 176 = true) : decode c pc = .ok (Instr.areturn, 1) := by
  have e := dec_bind (K := _) rfl (bq1_u h)
  have e2 : decode c pc = .ok (Instr.areturn, pc + 1 - pc) := e
  rw [e2, Nat.add_sub_cancel_left]
theorem zd177 {c : ByteArray} {pc : Nat} (h : bq1 c pc 177 = true) : decode c pc = .ok (Instr.return_, 1) := by
  have e := dec_bind (K := _) rfl (bq1_u h)
  have e2 : decode c pc = .ok (Instr.return_, pc + 1 - pc) := e
  rw [e2, Nat.add_sub_cancel_left]
theorem zd178 {c : ByteArray} {pc x y : Nat} (h : bq3 c pc 178 x y = true) : decode c pc = .ok (Instr.getstatic (x * 256 + y), 3) := by
  obtain ⟨h1, h2, h3⟩ := bq3_u h
  have e := dec_bind (K := _) rfl h1
  have e2 : decode c pc = Except.bind (Except.bind (zU2 c (pc + 1)) (fun x => .ok (Instr.getstatic (x.1), x.2))) (fun x => .ok (x.1, x.2 - pc)) := e
  rw [zu2 h2 h3] at e2
  have e3 : decode c pc = .ok (Instr.getstatic (x * 256 + y), pc + 1 + 1 + 1 - pc) := e2
  have e5 : pc + 1 + 1 + 1 - pc = 3 := by omega
  rw [e3, e5]
theorem zd180 {c : ByteArray} {pc x y : Nat} (h : bq3 c pc 180 x y = true) : decode c pc = .ok (Instr.getfield (x * 256 + y), 3) := by
  obtain ⟨h1, h2, h3⟩ := bq3_u h
  have e := dec_bind (K := _) rfl h1
  have e2 : decode c pc = Except.bind (Except.bind (zU2 c (pc + 1)) (fun x => .ok (Instr.getfield (x.1), x.2))) (fun x => .ok (x.1, x.2 - pc)) := e
  rw [zu2 h2 h3] at e2
  have e3 : decode c pc = .ok (Instr.getfield (x * 256 + y), pc + 1 + 1 + 1 - pc) := e2
  have e5 : pc + 1 + 1 + 1 - pc = 3 := by omega
  rw [e3, e5]
theorem zd181 {c : ByteArray} {pc x y : Nat} (h : bq3 c pc 181 x y = true) : decode c pc = .ok (Instr.putfield (x * 256 + y), 3) := by
  obtain ⟨h1, h2, h3⟩ := bq3_u h
  have e := dec_bind (K := _) rfl h1
  have e2 : decode c pc = Except.bind (Except.bind (zU2 c (pc + 1)) (fun x => .ok (Instr.putfield (x.1), x.2))) (fun x => .ok (x.1, x.2 - pc)) := e
  rw [zu2 h2 h3] at e2
  have e3 : decode c pc = .ok (Instr.putfield (x * 256 + y), pc + 1 + 1 + 1 - pc) := e2
  have e5 : pc + 1 + 1 + 1 - pc = 3 := by omega
  rw [e3, e5]
theorem zd182 {c : ByteArray} {pc x y : Nat} (h : bq3 c pc 182 x y = true) : decode c pc = .ok (Instr.invokevirtual (x * 256 + y), 3) := by
  obtain ⟨h1, h2, h3⟩ := bq3_u h
  have e := dec_bind (K := _) rfl h1
  have e2 : decode c pc = Except.bind (Except.bind (zU2 c (pc + 1)) (fun x => .ok (Instr.invokevirtual (x.1), x.2))) (fun x => .ok (x.1, x.2 - pc)) := e
  rw [zu2 h2 h3] at e2
  have e3 : decode c pc = .ok (Instr.invokevirtual (x * 256 + y), pc + 1 + 1 + 1 - pc) := e2
  have e5 : pc + 1 + 1 + 1 - pc = 3 := by omega
  rw [e3, e5]
theorem zd183 {c : ByteArray} {pc x y : Nat} (h : bq3 c pc 183 x y = true) : decode c pc = .ok (Instr.invokespecial (x * 256 + y), 3) := by
  obtain ⟨h1, h2, h3⟩ := bq3_u h
  have e := dec_bind (K := _) rfl h1
  have e2 : decode c pc = Except.bind (Except.bind (zU2 c (pc + 1)) (fun x => .ok (Instr.invokespecial (x.1), x.2))) (fun x => .ok (x.1, x.2 - pc)) := e
  rw [zu2 h2 h3] at e2
  have e3 : decode c pc = .ok (Instr.invokespecial (x * 256 + y), pc + 1 + 1 + 1 - pc) := e2
  have e5 : pc + 1 + 1 + 1 - pc = 3 := by omega
  rw [e3, e5]
theorem zd184 {c : ByteArray} {pc x y : Nat} (h : bq3 c pc 184 x y = true) : decode c pc = .ok (Instr.invokestatic (x * 256 + y), 3) := by
  obtain ⟨h1, h2, h3⟩ := bq3_u h
  have e := dec_bind (K := _) rfl h1
  have e2 : decode c pc = Except.bind (Except.bind (zU2 c (pc + 1)) (fun x => .ok (Instr.invokestatic (x.1), x.2))) (fun x => .ok (x.1, x.2 - pc)) := e
  rw [zu2 h2 h3] at e2
  have e3 : decode c pc = .ok (Instr.invokestatic (x * 256 + y), pc + 1 + 1 + 1 - pc) := e2
  have e5 : pc + 1 + 1 + 1 - pc = 3 := by omega
  rw [e3, e5]
theorem zd187 {c : ByteArray} {pc x y : Nat} (h : bq3 c pc 187 x y = true) : decode c pc = .ok (Instr.new (x * 256 + y), 3) := by
  obtain ⟨h1, h2, h3⟩ := bq3_u h
  have e := dec_bind (K := _) rfl h1
  have e2 : decode c pc = Except.bind (Except.bind (zU2 c (pc + 1)) (fun x => .ok (Instr.new (x.1), x.2))) (fun x => .ok (x.1, x.2 - pc)) := e
  rw [zu2 h2 h3] at e2
  have e3 : decode c pc = .ok (Instr.new (x * 256 + y), pc + 1 + 1 + 1 - pc) := e2
  have e5 : pc + 1 + 1 + 1 - pc = 3 := by omega
  rw [e3, e5]
theorem zd189 {c : ByteArray} {pc x y : Nat} (h : bq3 c pc 189 x y = true) : decode c pc = .ok (Instr.anewarray (x * 256 + y), 3) := by
  obtain ⟨h1, h2, h3⟩ := bq3_u h
  have e := dec_bind (K := _) rfl h1
  have e2 : decode c pc = Except.bind (Except.bind (zU2 c (pc + 1)) (fun x => .ok (Instr.anewarray (x.1), x.2))) (fun x => .ok (x.1, x.2 - pc)) := e
  rw [zu2 h2 h3] at e2
  have e3 : decode c pc = .ok (Instr.anewarray (x * 256 + y), pc + 1 + 1 + 1 - pc) := e2
  have e5 : pc + 1 + 1 + 1 - pc = 3 := by omega
  rw [e3, e5]
theorem zd190 {c : ByteArray} {pc : Nat} (h : bq1 c pc 190 = true) : decode c pc = .ok (Instr.arraylength, 1) := by
  have e := dec_bind (K := _) rfl (bq1_u h)
  have e2 : decode c pc = .ok (Instr.arraylength, pc + 1 - pc) := e
  rw [e2, Nat.add_sub_cancel_left]
theorem zd191 {c : ByteArray} {pc : Nat} (h : bq1 c pc 191 = true) : decode c pc = .ok (Instr.athrow, 1) := by
  have e := dec_bind (K := _) rfl (bq1_u h)
  have e2 : decode c pc = .ok (Instr.athrow, pc + 1 - pc) := e
  rw [e2, Nat.add_sub_cancel_left]
theorem zd198 {c : ByteArray} {pc x y : Nat} (h : bq3 c pc 198 x y = true) : decode c pc = .ok (Instr.ifnull (Jvm.ClassFile.Reader.signed 16 (x * 256 + y)), 3) := by
  obtain ⟨h1, h2, h3⟩ := bq3_u h
  have e := dec_bind (K := _) rfl h1
  have e2 : decode c pc = Except.bind (Except.bind (zS2 c (pc + 1)) (fun x => .ok (Instr.ifnull (x.1), x.2))) (fun x => .ok (x.1, x.2 - pc)) := e
  rw [zs2 h2 h3] at e2
  have e3 : decode c pc = .ok (Instr.ifnull (Jvm.ClassFile.Reader.signed 16 (x * 256 + y)), pc + 1 + 1 + 1 - pc) := e2
  have e5 : pc + 1 + 1 + 1 - pc = 3 := by omega
  rw [e3, e5]
theorem zd199 {c : ByteArray} {pc x y : Nat} (h : bq3 c pc 199 x y = true) : decode c pc = .ok (Instr.ifnonnull (Jvm.ClassFile.Reader.signed 16 (x * 256 + y)), 3) := by
  obtain ⟨h1, h2, h3⟩ := bq3_u h
  have e := dec_bind (K := _) rfl h1
  have e2 : decode c pc = Except.bind (Except.bind (zS2 c (pc + 1)) (fun x => .ok (Instr.ifnonnull (x.1), x.2))) (fun x => .ok (x.1, x.2 - pc)) := e
  rw [zs2 h2 h3] at e2
  have e3 : decode c pc = .ok (Instr.ifnonnull (Jvm.ClassFile.Reader.signed 16 (x * 256 + y)), pc + 1 + 1 + 1 - pc) := e2
  have e5 : pc + 1 + 1 + 1 - pc = 3 := by omega
  rw [e3, e5]
