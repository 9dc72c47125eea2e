-- an object's numbers and rows, by the numbers of its fields
abbrev Ob : Type := (Nat → Int32) × (Nat → Int64) × (Nat → Nat → Int32) × (Nat → Nat → Int64) × (Nat → Nat → Option Nat)
def fset {α : Type} (f : Nat → α) (i : Nat) (v : α) : Nat → α := fun j => cond (Nat.beq j i) v (f j)
abbrev gI (o : Ob) (i : Nat) : Int32 := o.1 i
abbrev gL (o : Ob) (i : Nat) : Int64 := o.2.1 i
abbrev gA (o : Ob) (i : Nat) : Nat → Int32 := o.2.2.1 i
abbrev gM (o : Ob) (i : Nat) : Nat → Int64 := o.2.2.2.1 i
abbrev gR (o : Ob) (i : Nat) : Nat → Option Nat := o.2.2.2.2 i
def sI (o : Ob) (i : Nat) (v : Int32) : Ob := (fset o.1 i v, o.2)
def sL (o : Ob) (i : Nat) (v : Int64) : Ob := (o.1, fset o.2.1 i v, o.2.2)
def sA (o : Ob) (i : Nat) (g : Nat → Int32) : Ob := (o.1, o.2.1, fset o.2.2.1 i g, o.2.2.2)
def sM (o : Ob) (i : Nat) (g : Nat → Int64) : Ob := (o.1, o.2.1, o.2.2.1, fset o.2.2.2.1 i g, o.2.2.2.2)
def sR (o : Ob) (i : Nat) (g : Nat → Option Nat) : Ob := (o.1, o.2.1, o.2.2.1, o.2.2.2.1, fset o.2.2.2.2 i g)
def tA (o : Ob) (i j : Nat) (v : Int32) : Ob := sA o i (upd (gA o i) j v)
def tM (o : Ob) (i j : Nat) (v : Int64) : Ob := sM o i (vp_updL (gM o i) j v)
def tR (o : Ob) (i j : Nat) (v : Option Nat) : Ob := sR o i (va_up (gR o i) j v)
-- what a method is, told as a function: none where the machine would not go on
def zgd {α : Type} (b : Bool) (x : Option α) : Option α := cond b x none
def zlt {α β : Type} (a : α) (k : α → Option β) : Option β := k a
def zit {α β : Type} (B : (α → Option β) → α → Option β) : Nat → α → Option β
  | 0 => fun _ => none
  | n + 1 => fun a => B (zit B n) a
def zfu : Nat := 100000
def zin (i : Int32) (n : Nat) : Bool := decide (0 ≤ i.toInt ∧ i.toInt < (n : Int))
def zbo (v : Int32) : Bool := decide (v = 0) || decide (v = 1)
theorem z_gd {α : Type} {b : Bool} {x : Option α} {y : α} (h : zgd b x = some y) : b = true ∧ x = some y := by
  cases b with
  | true => exact ⟨rfl, h⟩
  | false => cases h
theorem z_lt {α β : Type} {a : α} {k : α → Option β} {y : β} (h : zlt a k = some y) : ∃ z, z = a ∧ k z = some y := ⟨a, rfl, h⟩
theorem z_bd {α β : Type} {x : Option α} {k : α → Option β} {y : β} (h : x.bind k = some y) : ∃ z, x = some z ∧ k z = some y := by
  cases x with
  | none => cases h
  | some z => exact ⟨z, rfl, h⟩
theorem z_t {c : Prop} {i : Decidable c} {α : Type} {X Y : Option α} {y : α} (h : (@ite _ c i X Y) = some y) (hc : c) : X = some y := by rw [if_pos hc] at h; exact h
theorem z_f {c : Prop} {i : Decidable c} {α : Type} {X Y : Option α} {y : α} (h : (@ite _ c i X Y) = some y) (hc : ¬ c) : Y = some y := by rw [if_neg hc] at h; exact h
theorem z_in {i : Int32} {n : Nat} (h : zin i n = true) : vp_in i n := by
  have h := of_decide_eq_true h
  exact vin_of (m := (n : Int)) rfl h.1 h.2
theorem z_nar {v : Int32} (h : zbo v = true) : narrow .boolean (.int v) = .int v := by
  unfold zbo at h
  rcases (Bool.or_eq_true _ _).mp h with h | h
  · have h := of_decide_eq_true h; subst h; rfl
  · have h := of_decide_eq_true h; subst h; rfl
theorem z_fit {v : Int32} (h : zbo v = true) : fits .boolean (.int v) = true := by
  unfold zbo at h
  rcases (Bool.or_eq_true _ _).mp h with h | h
  · have h := of_decide_eq_true h; subst h; rfl
  · have h := of_decide_eq_true h; subst h; rfl
-- a world of several objects: each its own list of cells
def Jn (Ls : List va_W) : va_W := Ls.flatten
def Jt (Ts : List va_TL) : va_TL := Ts.flatten
def joff : List va_W → Nat → Nat
  | [], _ => 0
  | _ :: _, 0 => 0
  | c :: Ls, n + 1 => c.length + joff Ls n
theorem jn_get (Ls : List va_W) : ∀ (n j : Nat) (cs : va_W) (x : Nat × va_E), Ls[n]? = some cs → cs[j]? = some x → (Jn Ls)[joff Ls n + j]? = some x ∧ ∀ x' : Nat × va_E, (Jn Ls).set (joff Ls n + j) x' = Jn (Ls.set n (cs.set j x')) := by
  induction Ls with
  | nil => intro n j cs x h; simp at h
  | cons c Ls ih =>
    intro n j cs x h hj
    cases n with
    | zero =>
      have e : c = cs := by simpa using h
      subst e
      have hl : j < c.length := (List.getElem?_eq_some_iff.mp hj).1
      have e0 : joff (c :: Ls) 0 + j = j := Nat.zero_add j
      rw [e0]
      refine ⟨?_, fun x' => ?_⟩
      · show (c ++ Jn Ls)[j]? = some x
        rw [List.getElem?_append_left hl]; exact hj
      · show (c ++ Jn Ls).set j x' = c.set j x' ++ Jn Ls
        rw [List.set_append_left _ _ hl]
    | succ n =>
      have h : Ls[n]? = some cs := by simpa using h
      obtain ⟨h1, h2⟩ := ih n j cs x h hj
      have e0 : joff (c :: Ls) (n + 1) + j = c.length + (joff Ls n + j) := Nat.add_assoc _ _ _
      rw [e0]
      refine ⟨?_, fun x' => ?_⟩
      · show (c ++ Jn Ls)[c.length + (joff Ls n + j)]? = some x
        rw [List.getElem?_append_right (Nat.le_add_right _ _), Nat.add_sub_cancel_left]; exact h1
      · show (c ++ Jn Ls).set (c.length + (joff Ls n + j)) x' = c ++ Jn (Ls.set n (cs.set j x'))
        rw [List.set_append_right _ _ (Nat.le_add_right _ _), Nat.add_sub_cancel_left, h2]
theorem jn_of (Ls : List va_W) : ∀ (q : Nat) (x : Nat × va_E), (Jn Ls)[q]? = some x → ∃ (n j : Nat) (cs : va_W), Ls[n]? = some cs ∧ cs[j]? = some x ∧ q = joff Ls n + j := by
  induction Ls with
  | nil => intro q x h; simp [Jn] at h
  | cons c Ls ih =>
    intro q x h
    have h : (c ++ Jn Ls)[q]? = some x := h
    by_cases hq : q < c.length
    · rw [List.getElem?_append_left hq] at h
      exact ⟨0, q, c, rfl, h, (Nat.zero_add q).symm⟩
    · rw [List.getElem?_append_right (Nat.not_lt.mp hq)] at h
      obtain ⟨n, j, cs, h1, h2, h3⟩ := ih _ x h
      refine ⟨n + 1, j, cs, h1, h2, ?_⟩
      show q = c.length + joff Ls n + j
      omega
theorem joff_inj (Ls : List va_W) : ∀ (n n' j j' : Nat) (cs cs' : va_W), Ls[n]? = some cs → Ls[n']? = some cs' → j < cs.length → j' < cs'.length → joff Ls n + j = joff Ls n' + j' → n = n' ∧ j = j' := by
  induction Ls with
  | nil => intro n n' j j' cs cs' h; simp at h
  | cons c Ls ih =>
    intro n n' j j' cs cs' h h' hj hj' e
    cases n with
    | zero =>
      have e1 : c = cs := by simpa using h
      subst e1
      cases n' with
      | zero => exact ⟨rfl, by simpa [joff] using e⟩
      | succ n' =>
        have e : 0 + j = c.length + joff Ls n' + j' := e
        omega
    | succ n =>
      cases n' with
      | zero =>
        have e1 : c = cs' := by simpa using h'
        subst e1
        have e : c.length + joff Ls n + j = 0 + j' := e
        omega
      | succ n' =>
        have e : c.length + joff Ls n + j = c.length + joff Ls n' + j' := e
        obtain ⟨e1, e2⟩ := ih n n' j j' cs cs' (by simpa using h) (by simpa using h') hj hj' (by omega)
        exact ⟨by rw [e1], e2⟩
theorem jp_at {D : va_G} {cl : List vw_C} {Ls : List va_W} {H : Heap} (hP : va_P D cl (Jn Ls) H) {n j : Nat} {cs : va_W} {x : Nat × va_E} (h : Ls[n]? = some cs) (hj : cs[j]? = some x) : va_at D cl x H := hP _ x (jn_get Ls n j cs x h hj).1
theorem jp_of {D : va_G} {cl : List vw_C} {Ls : List va_W} {H : Heap} (h : ∀ (n j : Nat) (cs : va_W) (x : Nat × va_E), Ls[n]? = some cs → cs[j]? = some x → va_at D cl x H) : va_P D cl (Jn Ls) H := by
  intro k q hk
  obtain ⟨n, j, cs, h1, h2, -⟩ := jn_of Ls k q hk
  exact h n j cs q h1 h2
theorem jd_eq {A : Nat → Prop} {Ls : List va_W} (hD : va_D A (Jn Ls)) {n n' j j' : Nat} {cs cs' : va_W} {x x' : Nat × va_E} (h : Ls[n]? = some cs) (h' : Ls[n']? = some cs') (hj : cs[j]? = some x) (hj' : cs'[j']? = some x') (e : x.1 = x'.1) : n = n' ∧ j = j' :=
  joff_inj Ls n n' j j' cs cs' h h' (List.getElem?_eq_some_iff.mp hj).1 (List.getElem?_eq_some_iff.mp hj').1 (hD.1 _ _ x x' (jn_get Ls n j cs x h hj).1 (jn_get Ls n' j' cs' x' h' hj').1 e)
theorem jd_A {A : Nat → Prop} {Ls : List va_W} (hD : va_D A (Jn Ls)) {n j : Nat} {cs : va_W} {x : Nat × va_E} (h : Ls[n]? = some cs) (hj : cs[j]? = some x) : A x.1 := hD.2 _ x (jn_get Ls n j cs x h hj).1
theorem jd_of {A : Nat → Prop} {Ls : List va_W} (h1 : ∀ (n n' j j' : Nat) (cs cs' : va_W) (x x' : Nat × va_E), Ls[n]? = some cs → Ls[n']? = some cs' → cs[j]? = some x → cs'[j']? = some x' → x.1 = x'.1 → n = n' ∧ j = j') (h2 : ∀ (n j : Nat) (cs : va_W) (x : Nat × va_E), Ls[n]? = some cs → cs[j]? = some x → A x.1) : va_D A (Jn Ls) := by
  refine ⟨fun i i' p q hi hi' e => ?_, fun k q hk => ?_⟩
  · obtain ⟨n, j, cs, a1, a2, a3⟩ := jn_of Ls i p hi
    obtain ⟨n', j', cs', b1, b2, b3⟩ := jn_of Ls i' q hi'
    obtain ⟨e1, e2⟩ := h1 n n' j j' cs cs' p q a1 b1 a2 b2 e
    rw [a3, b3, e1, e2]
  · obtain ⟨n, j, cs, a1, a2, -⟩ := jn_of Ls k q hk
    exact h2 n j cs q a1 a2
theorem pick_at {α : Type} {Ls Lc : List α} {is : List Nat} (hC : is.map (fun i => Ls[i]?) = Lc.map some) {n : Nat} {c : α} (h : Lc[n]? = some c) : ∃ i : Nat, is[n]? = some i ∧ Ls[i]? = some c := by
  have h1 : (is.map (fun i => Ls[i]?))[n]? = some (some c) := by rw [hC, List.getElem?_map, h]; rfl
  rw [List.getElem?_map] at h1
  cases hi : is[n]? with
  | none => rw [hi] at h1; cases h1
  | some i => rw [hi] at h1; exact ⟨i, rfl, Option.some.inj h1⟩
theorem nd_at {is : List Nat} (hn : is.Nodup) {a b i : Nat} (h : is[a]? = some i) (h' : is[b]? = some i) : a = b := by
  obtain ⟨ha, e⟩ := List.getElem?_eq_some_iff.mp h
  obtain ⟨hb, e'⟩ := List.getElem?_eq_some_iff.mp h'
  exact (List.getElem_inj hn).mp (e.trans e'.symm)
theorem jp_sub {D : va_G} {cl : List vw_C} {Ls Lc : List va_W} {H : Heap} (hP : va_P D cl (Jn Ls) H) {is : List Nat} (hC : is.map (fun i => Ls[i]?) = Lc.map some) : va_P D cl (Jn Lc) H := by
  refine jp_of (fun n j cs x h hj => ?_)
  obtain ⟨i, -, h2⟩ := pick_at hC h
  exact jp_at hP h2 hj
theorem jd_sub {A : Nat → Prop} {Ls Lc : List va_W} (hD : va_D A (Jn Ls)) {is : List Nat} (hn : is.Nodup) (hC : is.map (fun i => Ls[i]?) = Lc.map some) : va_D A (Jn Lc) := by
  refine jd_of (fun n n' j j' cs cs' x x' h h' hj hj' e => ?_) (fun n j cs x h hj => ?_)
  · obtain ⟨i, a1, a2⟩ := pick_at hC h
    obtain ⟨i', b1, b2⟩ := pick_at hC h'
    obtain ⟨e1, e2⟩ := jd_eq hD a2 b2 hj hj' e
    subst e1
    exact ⟨nd_at hn a1 b1, e2⟩
  · obtain ⟨i, -, a2⟩ := pick_at hC h
    exact jd_A hD a2 hj
theorem jt_mem {Ts : List va_TL} {x : ClassId × FieldType} (h : x ∈ Jt Ts) : ∃ t ∈ Ts, x ∈ t := List.mem_flatten.mp h
theorem jk_of {D : va_G} {cl : List vw_C} {tys tys' : va_TL} {U : State} (h : va_K D cl tys U) (hs : ∀ x ∈ tys', x ∈ tys) : va_K D cl tys' U := by
  refine ⟨h.1, fun k q hk => ?_⟩
  obtain ⟨i, hi⟩ := List.mem_iff_getElem?.mp (hs q (List.mem_of_getElem? hk))
  exact h.2 i q hi
theorem jk_sub {D : va_G} {cl : List vw_C} {Ts Tc : List va_TL} {U : State} (h : va_K D cl (Jt Ts) U) {is : List Nat} (hC : is.map (fun i => Ts[i]?) = Tc.map some) : va_K D cl (Jt Tc) U := by
  refine jk_of h (fun x hx => ?_)
  obtain ⟨t, ht, hxt⟩ := jt_mem hx
  obtain ⟨n, hn⟩ := List.mem_iff_getElem?.mp ht
  obtain ⟨i, -, hi⟩ := pick_at hC hn
  exact List.mem_flatten.mpr ⟨t, List.mem_of_getElem? hi, hxt⟩
theorem jt_get {Ts : List va_TL} {n j : Nat} {t : va_TL} {x : ClassId × FieldType} (h : Ts[n]? = some t) (hj : t[j]? = some x) : ∃ k : Nat, (Jt Ts)[k]? = some x :=
  List.mem_iff_getElem?.mp (List.mem_flatten.mpr ⟨t, List.mem_of_getElem? h, List.mem_of_getElem? hj⟩)
def jset {α : Type} : List α → List Nat → List α → List α
  | Ls, i :: is, x :: xs => jset (Ls.set i x) is xs
  | Ls, _, _ => Ls
theorem jset_get {α : Type} : ∀ (is : List Nat) (xs Ls : List α) (n : Nat) (c : α), is.Nodup → is.length = xs.length → (jset Ls is xs)[n]? = some c → (∃ i : Nat, is[i]? = some n ∧ xs[i]? = some c) ∨ (n ∉ is ∧ Ls[n]? = some c)
  | [], xs, Ls, n, c, _, hl, h => by
    refine Or.inr ⟨by simp, ?_⟩
    cases xs with
    | nil => exact h
    | cons _ _ => cases hl
  | i :: is, [], Ls, n, c, _, hl, h => by cases hl
  | i :: is, x :: xs, Ls, n, c, hn, hl, h => by
    have hn2 := List.nodup_cons.mp hn
    rcases jset_get is xs (Ls.set i x) n c hn2.2 (Nat.succ.inj hl) h with ⟨k, h1, h2⟩ | ⟨h1, h2⟩
    · exact Or.inl ⟨k + 1, h1, h2⟩
    · by_cases e : i = n
      · subst e
        have hlt : i < Ls.length := by
          have := (List.getElem?_eq_some_iff.mp h2).1
          simpa using this
        rw [List.getElem?_set_self hlt] at h2
        exact Or.inl ⟨0, rfl, h2⟩
      · rw [List.getElem?_set_ne e] at h2
        refine Or.inr ⟨fun hm => ?_, h2⟩
        rcases List.mem_cons.mp hm with e2 | e2
        · exact e e2.symm
        · exact h1 e2
theorem jj {D : va_G} {cl : List vw_C} {A0 : Nat → Prop} {Ls Lc L1 : List va_W} {H H1 : Heap} {is : List Nat} (hP : va_P D cl (Jn Ls) H) (hD : va_D A0 (Jn Ls)) (hC : is.map (fun i => Ls[i]?) = Lc.map some) (hn : is.Nodup) (hlen : is.length = L1.length)
    (hk : ∀ q : Nat, q < H.size → ¬ va_A (Jn Lc) H.size q → H1[q]? = H[q]?) (hF : ∀ q, va_A (Jn Lc) H.size q → A0 q) (hP1 : va_P D cl (Jn L1) H1) (hD1 : va_D (va_A (Jn Lc) H.size) (Jn L1)) : va_P D cl (Jn (jset Ls is L1)) H1 ∧ va_D A0 (Jn (jset Ls is L1)) := by
  have apart : ∀ (n j : Nat) (cs : va_W) (x : Nat × va_E), n ∉ is → Ls[n]? = some cs → cs[j]? = some x → x.1 < H.size ∧ ¬ va_A (Jn Lc) H.size x.1 := by
    intro n j cs x hni h hj
    have hl := (jp_at hP h hj).lt
    refine ⟨hl, fun hv => ?_⟩
    rcases hv with ⟨k2, e, hv⟩ | hv
    · obtain ⟨n', j', cs', b1, b2, -⟩ := jn_of Lc k2 (x.1, e) hv
      obtain ⟨i, c1, c2⟩ := pick_at hC b1
      obtain ⟨e1, -⟩ := jd_eq hD h c2 hj b2 rfl
      subst e1
      exact hni (List.mem_of_getElem? c1)
    · omega
  refine ⟨jp_of (fun n j cs x h hj => ?_), jd_of (fun n n' j j' cs cs' x x' h h' hj hj' e => ?_) (fun n j cs x h hj => ?_)⟩
  · rcases jset_get is L1 Ls n cs hn hlen h with ⟨i, a1, a2⟩ | ⟨a1, a2⟩
    · exact jp_at hP1 a2 hj
    · obtain ⟨g1, g2⟩ := apart n j cs x a1 a2 hj
      exact (jp_at hP a2 hj).kept (hk x.1 g1 g2)
  · rcases jset_get is L1 Ls n cs hn hlen h with ⟨i, a1, a2⟩ | ⟨a1, a2⟩
    · rcases jset_get is L1 Ls n' cs' hn hlen h' with ⟨i', b1, b2⟩ | ⟨b1, b2⟩
      · obtain ⟨e1, e2⟩ := jd_eq hD1 a2 b2 hj hj' e
        subst e1
        exact ⟨Option.some.inj (a1.symm.trans b1), e2⟩
      · exact absurd (by rw [← e]; exact jd_A hD1 a2 hj) (apart n' j' cs' x' b1 b2 hj').2
    · rcases jset_get is L1 Ls n' cs' hn hlen h' with ⟨i', b1, b2⟩ | ⟨b1, b2⟩
      · exact absurd (by rw [e]; exact jd_A hD1 b2 hj') (apart n j cs x a1 a2 hj).2
      · exact jd_eq hD a2 b2 hj hj' e
  · rcases jset_get is L1 Ls n cs hn hlen h with ⟨i, a1, a2⟩ | ⟨a1, a2⟩
    · exact hF _ (jd_A hD1 a2 hj)
    · exact jd_A hD a2 hj
theorem j_free {A0 : Nat → Prop} {Ls Lc : List va_W} {H0 H : Heap} {locs : List Loc} {is : List Nat} (hD : va_D A0 (Jn Ls)) (hS : va_S A0 H0 H locs) (hA : ∀ q, H0.size ≤ q → A0 q) (hC : is.map (fun i => Ls[i]?) = Lc.map some) : ∀ q, va_A (Jn Lc) H.size q → A0 q := by
  intro q h
  rcases h with ⟨k, e, h⟩ | h
  · obtain ⟨n, j, cs, b1, b2, -⟩ := jn_of Lc k (q, e) h
    obtain ⟨i, -, c2⟩ := pick_at hC b1
    exact jd_A hD c2 b2
  · exact hA q (Nat.le_trans hS.1 h)
/-- the world of a walk -/
def Wd (dC : Nat → ClassId) (dI : Nat → Nat → Nat) (A : Nat → Prop) (H0 : Heap) (Ls : List va_W) (H : Heap) (locs : List Loc) : Prop := va_P (dC, dI) vwCl (Jn Ls) H ∧ va_D A (Jn Ls) ∧ va_S A H0 H locs
section Dec
variable {p : Program} {l : Launch} {e : Env} {R : Room} {s : State} {m : MethodId} {args : Array Value} {below : List Frame} {meth : Method} {c : Code} {H H0 : Heap} {locs : List Loc} {cells slots : Nat} {Q : State → Prop} {pc : Nat} {ls : Array Slot} {rest : List Value} {cc : ByteArray} {dC : Nat → ClassId} {dI : Nat → Nat → Nat} {A : Nat → Prop} {Ls : List va_W} {Ts : List va_TL} {tys : va_TL}
theorem xget (hx : p.tables.exec = Jvm.exec) (hb : c.code = cc) {own ref C : String} {T : u_T} {N ci index a n : Nat} {cs : va_W} {fs : List Value} (hts : ∀ w ∈ gt, w.before args s = true) (hin : ∀ w ∈ u_ws C T N, w ∈ gt) (hown : s.vm.findClass own = some m.cls) (hK : va_K (dC, dI) vwCl tys s) (hw : Wd dC dI A H0 Ls H locs) (hn : Ls[n]? = some cs) (j : Nat) (he : cs[j]? = some (a, .inr (ci, fs))) (hc : vwCl[ci]? = some (C, T, N)) (k : Nat) (hk : k < N) (hlink : Cond.fieldLink own index ref (T k).2.1 (T k).2.2.1 ∈ gt) (hsame : (T k).1 = ref) {v : Value} (hv : fs[k]? = some v) (hdg : decode cc pc = .ok (.getfield index, 3))
    (kk : W p l e R s m args below meth c H locs cells slots Q (F0 m (pc + 3) ls (v :: rest))) : W p l e R s m args below meth c H locs cells slots Q (F0 m pc ls (.ref a :: rest)) :=
  va_get hx hb hts hin hown hK hw.1 _ (jn_get Ls n j cs _ hn he).1 hc k hk (hts _ hlink) (fun x h => by rw [← hsame]; exact h) hv hdg kk
theorem xput (hx : p.tables.exec = Jvm.exec) (hb : c.code = cc) {own ref C : String} {T : u_T} {N ci index a n : Nat} {cs : va_W} {fs : List Value} (hts : ∀ w ∈ gt, w.before args s = true) (hin : ∀ w ∈ u_ws C T N, w ∈ gt) (ty0 : Nat → FieldType) (hty : ∀ k, k < N → parseFieldDescriptor (T k).2.2.1 = some (ty0 k)) (hnm : ∀ a, a < N → ∀ b, b < N → a ≠ b → (T a).2.1 ≠ (T b).2.1) (hown : s.vm.findClass own = some m.cls) (hK : va_K (dC, dI) vwCl tys s) (hw : Wd dC dI A H0 Ls H locs) (hn0 : Ls[n]? = some cs) (j : Nat) (he : cs[j]? = some (a, .inr (ci, fs))) (hc : vwCl[ci]? = some (C, T, N)) (k : Nat) (hk : k < N) (hlink : Cond.fieldLink own index ref (T k).2.1 (T k).2.2.1 ∈ gt) (hsame : (T k).1 = ref) (hfin : (T k).2.2.2 = false) {ty : FieldType} {v : Value} (hd : parseFieldDescriptor (T k).2.2.1 = some ty) (hn : narrow ty v = v) (hfit : fits ty v = true) (hl : k < fs.length) (hdg : decode cc pc = .ok (.putfield index, 3))
    (kk : ∀ (H1 : Heap) (locs1 : List Loc), Wd dC dI A H0 (Ls.set n (cs.set j (a, .inr (ci, fs.set k v)))) H1 locs1 → W p l e R s m args below meth c H1 locs1 cells slots Q (F0 m (pc + 3) ls rest)) : W p l e R s m args below meth c H locs cells slots Q (F0 m pc ls (v :: .ref a :: rest)) := by
  obtain ⟨h1, h2⟩ := jn_get Ls n j cs _ hn0 he
  refine va_put hx hb hts hin ty0 hty hnm hown hK hw.1 hw.2.1 hw.2.2 _ h1 hc k hk (hts _ hlink) (fun x h => by rw [← hsame]; exact h) hfin hd hn hfit hl hdg (fun H1 locs1 a b d => kk H1 locs1 ?_)
  rw [h2] at a b
  exact ⟨a, b, d⟩
theorem xiald (hx : p.tables.exec = Jvm.exec) (hb : c.code = cc) {n j jt a N : Nat} {cs : va_W} {ts : va_TL} {cA : ClassId} {f : Nat → Int32} (hK : va_K (dC, dI) vwCl (Jt Ts) s) (hw : Wd dC dI A H0 Ls H locs) (hn : Ls[n]? = some cs) (he : cs[j]? = some (a, .inl (cA, N, .inl f))) (hT : Ts[n]? = some ts) (ht : ts[jt]? = some (cA, .int)) {i : Int32} (hi : zin i N = true) (hdg : decode cc pc = .ok (.iaload, 1))
    (kk : W p l e R s m args below meth c H locs cells slots Q (F0 m (pc + 1) ls (.int (f i.toNatClampNeg) :: rest))) : W p l e R s m args below meth c H locs cells slots Q (F0 m pc ls (.int i :: .ref a :: rest)) := by
  obtain ⟨t, h⟩ := jt_get hT ht
  exact va_iald hx hb hK hw.1 _ t (jn_get Ls n j cs _ hn he).1 h (z_in hi) hdg kk
theorem xzald (hx : p.tables.exec = Jvm.exec) (hb : c.code = cc) {n j jt a N : Nat} {cs : va_W} {ts : va_TL} {cA : ClassId} {f : Nat → Int32} (hK : va_K (dC, dI) vwCl (Jt Ts) s) (hw : Wd dC dI A H0 Ls H locs) (hn : Ls[n]? = some cs) (he : cs[j]? = some (a, .inl (cA, N, .inl f))) (hT : Ts[n]? = some ts) (ht : ts[jt]? = some (cA, .boolean)) {i : Int32} (hi : zin i N = true) (hdg : decode cc pc = .ok (.baload, 1))
    (kk : W p l e R s m args below meth c H locs cells slots Q (F0 m (pc + 1) ls (.int (f i.toNatClampNeg) :: rest))) : W p l e R s m args below meth c H locs cells slots Q (F0 m pc ls (.int i :: .ref a :: rest)) := by
  obtain ⟨t, h⟩ := jt_get hT ht
  exact va_zald hx hb hK hw.1 _ t (jn_get Ls n j cs _ hn he).1 h (z_in hi) hdg kk
theorem xlald (hx : p.tables.exec = Jvm.exec) (hb : c.code = cc) {n j jt a N : Nat} {cs : va_W} {ts : va_TL} {cA : ClassId} {f : Nat → Int64} (hK : va_K (dC, dI) vwCl (Jt Ts) s) (hw : Wd dC dI A H0 Ls H locs) (hn : Ls[n]? = some cs) (he : cs[j]? = some (a, .inl (cA, N, .inr (.inl f)))) (hT : Ts[n]? = some ts) (ht : ts[jt]? = some (cA, .long)) {i : Int32} (hi : zin i N = true) (hdg : decode cc pc = .ok (.laload, 1))
    (kk : W p l e R s m args below meth c H locs cells slots Q (F0 m (pc + 1) ls (.long (f i.toNatClampNeg) :: rest))) : W p l e R s m args below meth c H locs cells slots Q (F0 m pc ls (.int i :: .ref a :: rest)) := by
  obtain ⟨t, h⟩ := jt_get hT ht
  exact va_lald hx hb hK hw.1 _ t (jn_get Ls n j cs _ hn he).1 h (z_in hi) hdg kk
theorem xaldq (hx : p.tables.exec = Jvm.exec) (hb : c.code = cc) {n j jt a N : Nat} {cs : va_W} {ts : va_TL} {cA : ClassId} {C : String} {f : Nat → Option Nat} (hK : va_K (dC, dI) vwCl (Jt Ts) s) (hw : Wd dC dI A H0 Ls H locs) (hn : Ls[n]? = some cs) (he : cs[j]? = some (a, .inl (cA, N, .inr (.inr (.inr (.inr f)))))) (hT : Ts[n]? = some ts) (ht : ts[jt]? = some (cA, .object C)) {i : Int32} (hi : zin i N = true) (hdg : decode cc pc = .ok (.aaload, 1))
    (kk : W p l e R s m args below meth c H locs cells slots Q (F0 m (pc + 1) ls (va_rf (f i.toNatClampNeg) :: rest))) : W p l e R s m args below meth c H locs cells slots Q (F0 m pc ls (.int i :: .ref a :: rest)) := by
  obtain ⟨t, h⟩ := jt_get hT ht
  exact va_aldq hx hb hK hw.1 _ t (jn_get Ls n j cs _ hn he).1 h (z_in hi) hdg kk
theorem xiast (hx : p.tables.exec = Jvm.exec) (hb : c.code = cc) {n j jt a N : Nat} {cs : va_W} {ts : va_TL} {cA : ClassId} {f : Nat → Int32} (hK : va_K (dC, dI) vwCl (Jt Ts) s) (hw : Wd dC dI A H0 Ls H locs) (hn : Ls[n]? = some cs) (he : cs[j]? = some (a, .inl (cA, N, .inl f))) (hT : Ts[n]? = some ts) (ht : ts[jt]? = some (cA, .int)) {i x : Int32} (hi : zin i N = true) (hdg : decode cc pc = .ok (.iastore, 1))
    (kk : ∀ (H1 : Heap) (locs1 : List Loc), Wd dC dI A H0 (Ls.set n (cs.set j (a, .inl (cA, N, .inl (upd f i.toNatClampNeg x))))) H1 locs1 → W p l e R s m args below meth c H1 locs1 cells slots Q (F0 m (pc + 1) ls rest)) : W p l e R s m args below meth c H locs cells slots Q (F0 m pc ls (.int x :: .int i :: .ref a :: rest)) := by
  obtain ⟨t, h⟩ := jt_get hT ht
  obtain ⟨h1, h2⟩ := jn_get Ls n j cs _ hn he
  refine va_iast hx hb hK hw.1 hw.2.1 hw.2.2 _ t h1 h (z_in hi) hdg (fun H1 locs1 a b d => kk H1 locs1 ?_)
  rw [h2] at a b
  exact ⟨a, b, d⟩
theorem xzast (hx : p.tables.exec = Jvm.exec) (hb : c.code = cc) {n j jt a N : Nat} {cs : va_W} {ts : va_TL} {cA : ClassId} {f : Nat → Int32} (hK : va_K (dC, dI) vwCl (Jt Ts) s) (hw : Wd dC dI A H0 Ls H locs) (hn : Ls[n]? = some cs) (he : cs[j]? = some (a, .inl (cA, N, .inl f))) (hT : Ts[n]? = some ts) (ht : ts[jt]? = some (cA, .boolean)) {i x : Int32} (hi : zin i N = true) (hdg : decode cc pc = .ok (.bastore, 1))
    (kk : ∀ (H1 : Heap) (locs1 : List Loc), Wd dC dI A H0 (Ls.set n (cs.set j (a, .inl (cA, N, .inl (upd f i.toNatClampNeg (vp_nar .boolean x)))))) H1 locs1 → W p l e R s m args below meth c H1 locs1 cells slots Q (F0 m (pc + 1) ls rest)) : W p l e R s m args below meth c H locs cells slots Q (F0 m pc ls (.int x :: .int i :: .ref a :: rest)) := by
  obtain ⟨t, h⟩ := jt_get hT ht
  obtain ⟨h1, h2⟩ := jn_get Ls n j cs _ hn he
  refine va_zast hx hb hK hw.1 hw.2.1 hw.2.2 _ t h1 h (z_in hi) hdg (fun H1 locs1 a b d => kk H1 locs1 ?_)
  rw [h2] at a b
  exact ⟨a, b, d⟩
theorem xlast (hx : p.tables.exec = Jvm.exec) (hb : c.code = cc) {n j jt a N : Nat} {cs : va_W} {ts : va_TL} {cA : ClassId} {f : Nat → Int64} (hK : va_K (dC, dI) vwCl (Jt Ts) s) (hw : Wd dC dI A H0 Ls H locs) (hn : Ls[n]? = some cs) (he : cs[j]? = some (a, .inl (cA, N, .inr (.inl f)))) (hT : Ts[n]? = some ts) (ht : ts[jt]? = some (cA, .long)) {i : Int32} {x : Int64} (hi : zin i N = true) (hdg : decode cc pc = .ok (.lastore, 1))
    (kk : ∀ (H1 : Heap) (locs1 : List Loc), Wd dC dI A H0 (Ls.set n (cs.set j (a, .inl (cA, N, .inr (.inl (vp_updL f i.toNatClampNeg x)))))) H1 locs1 → W p l e R s m args below meth c H1 locs1 cells slots Q (F0 m (pc + 1) ls rest)) : W p l e R s m args below meth c H locs cells slots Q (F0 m pc ls (.long x :: .int i :: .ref a :: rest)) := by
  obtain ⟨t, h⟩ := jt_get hT ht
  obtain ⟨h1, h2⟩ := jn_get Ls n j cs _ hn he
  refine va_last hx hb hK hw.1 hw.2.1 hw.2.2 _ t h1 h (z_in hi) hdg (fun H1 locs1 a b d => kk H1 locs1 ?_)
  rw [h2] at a b
  exact ⟨a, b, d⟩
theorem xalen (hx : p.tables.exec = Jvm.exec) (hb : c.code = cc) {n j jt a : Nat} {cs : va_W} {ts : va_TL} {cA : ClassId} {x : vp_A} {ty : FieldType} (hK : va_K (dC, dI) vwCl (Jt Ts) s) (hw : Wd dC dI A H0 Ls H locs) (hn : Ls[n]? = some cs) (he : cs[j]? = some (a, .inl (cA, x))) (hT : Ts[n]? = some ts) (ht : ts[jt]? = some (cA, ty)) (hdg : decode cc pc = .ok (.arraylength, 1))
    (kk : W p l e R s m args below meth c H locs cells slots Q (F0 m (pc + 1) ls (.int (Int32.ofNat x.1) :: rest))) : W p l e R s m args below meth c H locs cells slots Q (F0 m pc ls (.ref a :: rest)) := by
  obtain ⟨t, h⟩ := jt_get hT ht
  exact va_alen hx hb hK hw.1 _ t (jn_get Ls n j cs _ hn he).1 h rfl hdg kk
-- calls
variable {own : String} {index nL maxL : Nat} {y : MethodName} {b : ByteArray} {ret : Option FieldType} {rm : Room} {Qc : (Nat → Prop) → Array Value → State → Outcome → State → Prop} {a ci : Nat} {As : List Value} {st : List Value} {Lc L1 : List va_W} {Tc : List va_TL} {fs : List Value} {q : vw_C}
theorem xrV (S : CallFix p m c cc nL s args gt own) (hM : CC l y b maxL ret rm dC dI H.size (.ref a :: As) (Jn Lc) (Jt Tc) Qc 0 0) (mcode : Cond.code y b maxL ret ∈ gt) (ml : Cond.methodLink own index y ∈ gt) (mi : Cond.instanceMethod y ∈ gt) (msel : Cond.selects y.cls y y ∈ gt) (mini : Cond.initialized y.cls ∈ gt) (hd : y.cls ≠ "java/lang/invoke/MethodHandle" ∧ y.cls ≠ "java/lang/invoke/VarHandle" ∧ (parseMethodDescriptor y.desc).map (fun d => d.parameters.length) = some As.length) (hR : (rm.frames + 1).ble R.frames = true ∧ (8 + (maxL + 11) + rm.locals).ble R.locals = true) (hrc : rm.cells = 0) (hrs : rm.slots = 0) (hf : (cells + 0).ble R.cells = true ∧ (slots + 0).ble R.slots = true)
    (hX : wX s ∧ wT dI A s) (hK : va_K (dC, dI) vwCl (Jt Ts) s) (hw : Wd dC dI A s.heap Ls H locs) (is : List Nat) (hn : is.Nodup) (hC : is.map (fun i => Ls[i]?) = Lc.map some) (hT : is.map (fun i => Ts[i]?) = Tc.map some) (hrecv : (Jn Lc)[0]? = some (a, .inr (ci, fs))) (hcl : vwCl[ci]? = some q) (hq : q.1 = y.cls) (hsz : ls.size = nL) (hst : st = As.reverse ++ .ref a :: rest) (hW : ((rest.map fun (v : Value) => v.category).sum).ble 8 = true) (hdg : decode cc pc = .ok (.invokevirtual index, 3)) :
    va_Run p l e R s m args below meth c H locs cells slots 0 0 (F0 m pc ls st) rest (Qc (va_A (Jn Lc) H.size) (Value.ref a :: As).toArray) (va_A (Jn Lc) H.size) :=
  rv_V S hM mcode ml mi msel mini hd hR hrc hrs hf hX hw.2.2 (jk_sub hK hT) (jp_sub hw.1 hC) (jd_sub hw.2.1 hn hC) hrecv hcl hq hsz hst hW hdg
theorem xrS (S : CallFix p m c cc nL s args gt own) (hM : CC l y b maxL ret rm dC dI H.size As (Jn Lc) (Jt Tc) Qc 0 0) (mcode : Cond.code y b maxL ret ∈ gt) (ml : Cond.methodLink own index y ∈ gt) (mi : Cond.static y ∈ gt) (mini : Cond.initialized y.cls ∈ gt) (hd : y.cls ≠ "java/lang/invoke/MethodHandle" ∧ y.cls ≠ "java/lang/invoke/VarHandle" ∧ (parseMethodDescriptor y.desc).map (fun d => d.parameters.length) = some As.length) (hR : (rm.frames + 1).ble R.frames = true ∧ (8 + (maxL + 11) + rm.locals).ble R.locals = true) (hrc : rm.cells = 0) (hrs : rm.slots = 0) (hf : (cells + 0).ble R.cells = true ∧ (slots + 0).ble R.slots = true)
    (hX : wX s ∧ wT dI A s) (hK : va_K (dC, dI) vwCl (Jt Ts) s) (hw : Wd dC dI A s.heap Ls H locs) (is : List Nat) (hn : is.Nodup) (hC : is.map (fun i => Ls[i]?) = Lc.map some) (hT : is.map (fun i => Ts[i]?) = Tc.map some) (hsz : ls.size = nL) (hst : st = As.reverse ++ rest) (hW : ((rest.map fun (v : Value) => v.category).sum).ble 8 = true) (hdg : decode cc pc = .ok (.invokestatic index, 3)) :
    va_Run p l e R s m args below meth c H locs cells slots 0 0 (F0 m pc ls st) rest (Qc (va_A (Jn Lc) H.size) As.toArray) (va_A (Jn Lc) H.size) :=
  rv_S S hM mcode ml mi mini hd hR hrc hrs hf hX hw.2.2 (jk_sub hK hT) (jp_sub hw.1 hC) (jd_sub hw.2.1 hn hC) hsz hst hW hdg
theorem xrSN {host : String} (S : CallFix p m c cc nL s args gt own) (hM : CC l y b maxL ret rm dC dI H.size As (Jn Lc) (Jt Tc) Qc 0 0) (mcode : Cond.code y b maxL ret ∈ gt) (ml : va_Nw (.methodLinkNest own index y host) s) (mi : Cond.static y ∈ gt) (mini : Cond.initialized y.cls ∈ gt) (hd : y.cls ≠ "java/lang/invoke/MethodHandle" ∧ y.cls ≠ "java/lang/invoke/VarHandle" ∧ (parseMethodDescriptor y.desc).map (fun d => d.parameters.length) = some As.length) (hR : (rm.frames + 1).ble R.frames = true ∧ (8 + (maxL + 11) + rm.locals).ble R.locals = true) (hrc : rm.cells = 0) (hrs : rm.slots = 0) (hf : (cells + 0).ble R.cells = true ∧ (slots + 0).ble R.slots = true)
    (hX : wX s ∧ wT dI A s) (hK : va_K (dC, dI) vwCl (Jt Ts) s) (hw : Wd dC dI A s.heap Ls H locs) (is : List Nat) (hn : is.Nodup) (hC : is.map (fun i => Ls[i]?) = Lc.map some) (hT : is.map (fun i => Ts[i]?) = Tc.map some) (hsz : ls.size = nL) (hst : st = As.reverse ++ rest) (hW : ((rest.map fun (v : Value) => v.category).sum).ble 8 = true) (hdg : decode cc pc = .ok (.invokestatic index, 3)) :
    va_Run p l e R s m args below meth c H locs cells slots 0 0 (F0 m pc ls st) rest (Qc (va_A (Jn Lc) H.size) As.toArray) (va_A (Jn Lc) H.size) :=
  rv_SN S hM mcode ml mi mini hd hR hrc hrs hf hX hw.2.2 (jk_sub hK hT) (jp_sub hw.1 hC) (jd_sub hw.2.1 hn hC) hsz hst hW hdg
variable {av : Array Value} {t1 : va_TL}
theorem xj_i {v : Int32} (hr : va_Run p l e R s m args below meth c H locs cells slots 0 0 (F0 m pc ls st) rest (QI dC dI (fun r (_ : Unit) => r = v) (fun _ => Jn L1) (fun _ => t1) (va_A (Jn Lc) H.size) av) (va_A (Jn Lc) H.size)) (hw : Wd dC dI A H0 Ls H locs) (hA : ∀ q, H0.size ≤ q → A q) (is : List Nat) (hn : is.Nodup) (hC : is.map (fun i => Ls[i]?) = Lc.map some) (hlen : is.length = L1.length)
    (kk : ∀ (H1 : Heap) (locs1 : List Loc), Wd dC dI A H0 (jset Ls is L1) H1 locs1 → W p l e R s m args below meth c H1 locs1 cells slots Q (F0 m (pc + 3) ls (.int v :: rest))) : W p l e R s m args below meth c H locs cells slots Q (F0 m pc ls st) := by
  have hFc := j_free hw.2.1 hw.2.2 hA hC
  refine va_calli hr hw.2.2 (fun q _ h => hFc q h) hFc (fun r u t H1 locs1 ht hvm hwp hB hz1 hk1 hS1 => ?_)
  obtain ⟨hP1, hK1, hD1⟩ := hB
  rw [ht] at hP1
  have hwp : r = v := hwp
  subst hwp
  obtain ⟨hP2, hD2⟩ := jj hw.1 hw.2.1 hC hn hlen hk1 hFc hP1 hD1
  exact kk H1 locs1 ⟨hP2, hD2, hS1⟩
theorem xj_l {v : Int64} (hr : va_Run p l e R s m args below meth c H locs cells slots 0 0 (F0 m pc ls st) rest (QL dC dI (fun r (_ : Unit) => r = v) (fun _ => Jn L1) (fun _ => t1) (va_A (Jn Lc) H.size) av) (va_A (Jn Lc) H.size)) (hw : Wd dC dI A H0 Ls H locs) (hA : ∀ q, H0.size ≤ q → A q) (is : List Nat) (hn : is.Nodup) (hC : is.map (fun i => Ls[i]?) = Lc.map some) (hlen : is.length = L1.length)
    (kk : ∀ (H1 : Heap) (locs1 : List Loc), Wd dC dI A H0 (jset Ls is L1) H1 locs1 → W p l e R s m args below meth c H1 locs1 cells slots Q (F0 m (pc + 3) ls (.long v :: rest))) : W p l e R s m args below meth c H locs cells slots Q (F0 m pc ls st) := by
  have hFc := j_free hw.2.1 hw.2.2 hA hC
  refine va_calll hr hw.2.2 (fun q _ h => hFc q h) hFc (fun r u t H1 locs1 ht hvm hwp hB hz1 hk1 hS1 => ?_)
  obtain ⟨hP1, hK1, hD1⟩ := hB
  rw [ht] at hP1
  have hwp : r = v := hwp
  subst hwp
  obtain ⟨hP2, hD2⟩ := jj hw.1 hw.2.1 hC hn hlen hk1 hFc hP1 hD1
  exact kk H1 locs1 ⟨hP2, hD2, hS1⟩
theorem xj_q {v : Option Nat} (hr : va_Run p l e R s m args below meth c H locs cells slots 0 0 (F0 m pc ls st) rest (QQ dC dI (fun r (_ : Unit) => r = v) (fun _ => Jn L1) (fun _ => t1) (va_A (Jn Lc) H.size) av) (va_A (Jn Lc) H.size)) (hw : Wd dC dI A H0 Ls H locs) (hA : ∀ q, H0.size ≤ q → A q) (is : List Nat) (hn : is.Nodup) (hC : is.map (fun i => Ls[i]?) = Lc.map some) (hlen : is.length = L1.length)
    (kk : ∀ (H1 : Heap) (locs1 : List Loc), Wd dC dI A H0 (jset Ls is L1) H1 locs1 → W p l e R s m args below meth c H1 locs1 cells slots Q (F0 m (pc + 3) ls (va_rf v :: rest))) : W p l e R s m args below meth c H locs cells slots Q (F0 m pc ls st) := by
  have hFc := j_free hw.2.1 hw.2.2 hA hC
  refine va_callq hr hw.2.2 (fun q _ h => hFc q h) hFc (fun r u t H1 locs1 ht hvm hwp hB hz1 hk1 hS1 => ?_)
  obtain ⟨hP1, hK1, hD1⟩ := hB
  rw [ht] at hP1
  have hwp : r = v := hwp
  subst hwp
  obtain ⟨hP2, hD2⟩ := jj hw.1 hw.2.1 hC hn hlen hk1 hFc hP1 hD1
  exact kk H1 locs1 ⟨hP2, hD2, hS1⟩
theorem xj_v (hr : va_Run p l e R s m args below meth c H locs cells slots 0 0 (F0 m pc ls st) rest (QV dC dI (fun (_ : Unit) => True) (fun _ => Jn L1) (fun _ => t1) (va_A (Jn Lc) H.size) av) (va_A (Jn Lc) H.size)) (hw : Wd dC dI A H0 Ls H locs) (hA : ∀ q, H0.size ≤ q → A q) (is : List Nat) (hn : is.Nodup) (hC : is.map (fun i => Ls[i]?) = Lc.map some) (hlen : is.length = L1.length)
    (kk : ∀ (H1 : Heap) (locs1 : List Loc), Wd dC dI A H0 (jset Ls is L1) H1 locs1 → W p l e R s m args below meth c H1 locs1 cells slots Q (F0 m (pc + 3) ls rest)) : W p l e R s m args below meth c H locs cells slots Q (F0 m pc ls st) := by
  have hFc := j_free hw.2.1 hw.2.2 hA hC
  refine va_callv hr hw.2.2 (fun q _ h => hFc q h) hFc (fun u t H1 locs1 ht hvm hwp hB hz1 hk1 hS1 => ?_)
  obtain ⟨hP1, hK1, hD1⟩ := hB
  rw [ht] at hP1
  obtain ⟨hP2, hD2⟩ := jj hw.1 hw.2.1 hC hn hlen hk1 hFc hP1 hD1
  exact kk H1 locs1 ⟨hP2, hD2, hS1⟩
-- ends
theorem xr_i {v : Int32} {ty : FieldType} (hx : p.tables.exec = Jvm.exec) (hb : c.code = cc) (hr : meth.sig.returnType = some ty) (hn : narrow ty (.int v) = .int v) (hlk : meth.locks = false) (hK : va_K (dC, dI) vwCl (Jt Ts) s) (hw : Wd dC dI A s.heap L1 H locs) (hdg : decode cc pc = .ok (.ireturn, 1)) :
    W p l e R s m args below meth c H locs cells slots (MQ below (QI dC dI (fun r (_ : Unit) => r = v) (fun _ => Jn L1) (fun _ => Jt Ts) A) args s cells slots A) (F0 m pc ls [.int v]) := CI_ret () hx hb hr hn hlk hK hw.1 hw.2.1 hw.2.2 rfl hdg
theorem xr_l {v : Int64} (hx : p.tables.exec = Jvm.exec) (hb : c.code = cc) (hr : meth.sig.returnType = some .long) (hlk : meth.locks = false) (hK : va_K (dC, dI) vwCl (Jt Ts) s) (hw : Wd dC dI A s.heap L1 H locs) (hdg : decode cc pc = .ok (.lreturn, 1)) :
    W p l e R s m args below meth c H locs cells slots (MQ below (QL dC dI (fun r (_ : Unit) => r = v) (fun _ => Jn L1) (fun _ => Jt Ts) A) args s cells slots A) (F0 m pc ls [.long v]) := CL_ret () hx hb hr hlk hK hw.1 hw.2.1 hw.2.2 rfl hdg
theorem xr_v (hx : p.tables.exec = Jvm.exec) (hb : c.code = cc) (hr : meth.sig.returnType = none) (hlk : meth.locks = false) (hK : va_K (dC, dI) vwCl (Jt Ts) s) (hw : Wd dC dI A s.heap L1 H locs) (hdg : decode cc pc = .ok (.return_, 1)) :
    W p l e R s m args below meth c H locs cells slots (MQ below (QV dC dI (fun (_ : Unit) => True) (fun _ => Jn L1) (fun _ => Jt Ts) A) args s cells slots A) (F0 m pc ls []) := CV_ret () hx hb hr hlk hK hw.1 hw.2.1 hw.2.2 trivial hdg
theorem xr_q {C : String} {v : Value} (r : Option Nat) (hv : va_rf r = v) (hx : p.tables.exec = Jvm.exec) (hb : c.code = cc) (hr : meth.sig.returnType = some (.object C)) (hlk : meth.locks = false) (hK : va_K (dC, dI) vwCl (Jt Ts) s) (hw : Wd dC dI A s.heap L1 H locs) (hdg : decode cc pc = .ok (.areturn, 1)) :
    W p l e R s m args below meth c H locs cells slots (MQ below (QQ dC dI (fun a (_ : Unit) => a = r) (fun _ => Jn L1) (fun _ => Jt Ts) A) args s cells slots A) (F0 m pc ls [v]) := CQ_ret r () hv hx hb hr hlk hK hw.1 hw.2.1 hw.2.2 rfl hdg
end Dec
abbrev CI (l : Launch) (y : MethodName) (b : ByteArray) (n : Nat) (r : Option FieldType) (rm : Room) (dC : Nat → ClassId) (dI : Nat → Nat → Nat) (sz : Nat) (av : List Value) (Lc : List va_W) (Tc : List va_TL) (v : Int32) (L1 : List va_W) : Prop := CC l y b n r rm dC dI sz av (Jn Lc) (Jt Tc) (QI dC dI (fun r (_ : Unit) => r = v) (fun _ => Jn L1) (fun _ => Jt Tc)) 0 0
abbrev CL (l : Launch) (y : MethodName) (b : ByteArray) (n : Nat) (r : Option FieldType) (rm : Room) (dC : Nat → ClassId) (dI : Nat → Nat → Nat) (sz : Nat) (av : List Value) (Lc : List va_W) (Tc : List va_TL) (v : Int64) (L1 : List va_W) : Prop := CC l y b n r rm dC dI sz av (Jn Lc) (Jt Tc) (QL dC dI (fun r (_ : Unit) => r = v) (fun _ => Jn L1) (fun _ => Jt Tc)) 0 0
abbrev CV (l : Launch) (y : MethodName) (b : ByteArray) (n : Nat) (r : Option FieldType) (rm : Room) (dC : Nat → ClassId) (dI : Nat → Nat → Nat) (sz : Nat) (av : List Value) (Lc : List va_W) (Tc : List va_TL) (L1 : List va_W) : Prop := CC l y b n r rm dC dI sz av (Jn Lc) (Jt Tc) (QV dC dI (fun (_ : Unit) => True) (fun _ => Jn L1) (fun _ => Jt Tc)) 0 0
abbrev CQ (l : Launch) (y : MethodName) (b : ByteArray) (n : Nat) (r : Option FieldType) (rm : Room) (dC : Nat → ClassId) (dI : Nat → Nat → Nat) (sz : Nat) (av : List Value) (Lc : List va_W) (Tc : List va_TL) (v : Option Nat) (L1 : List va_W) : Prop := CC l y b n r rm dC dI sz av (Jn Lc) (Jt Tc) (QQ dC dI (fun r (_ : Unit) => r = v) (fun _ => Jn L1) (fun _ => Jt Tc)) 0 0
