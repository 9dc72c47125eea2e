abbrev DD : Type := List Nat × List Nat × List Nat × List Nat × List Nat
def sbl (azz bzz : List Nat) : Bool := azz.all (fun izz => bzz.elem izz)
def dsbX (Dzz Ezz : DD) : Bool := sbl Dzz.1 Ezz.1 && sbl Dzz.2.1 Ezz.2.1 && sbl Dzz.2.2.1 Ezz.2.2.1 && sbl Dzz.2.2.2.1 Ezz.2.2.2.1 && sbl Dzz.2.2.2.2 Ezz.2.2.2.2
def FrX (Dzz : DD) (o o' : Ob) : Prop := (∀ izz, Dzz.1.elem izz = false → gI o' izz = gI o izz) ∧ (∀ izz, Dzz.2.1.elem izz = false → gL o' izz = gL o izz) ∧ (∀ izz, Dzz.2.2.1.elem izz = false → gA o' izz = gA o izz) ∧ (∀ izz, Dzz.2.2.2.1.elem izz = false → gM o' izz = gM o izz) ∧ (∀ izz, Dzz.2.2.2.2.elem izz = false → gR o' izz = gR o izz)
set_option maxHeartbeats 200000 in
theorem FrX.I {Dzz : DD} {o o' : Ob} (hzz : FrX Dzz o o') (izz : Nat) (hizz : Dzz.1.elem izz = false) : gI o' izz = gI o izz := hzz.1 izz hizz
set_option maxHeartbeats 200000 in
theorem FrX.L {Dzz : DD} {o o' : Ob} (hzz : FrX Dzz o o') (izz : Nat) (hizz : Dzz.2.1.elem izz = false) : gL o' izz = gL o izz := hzz.2.1 izz hizz
set_option maxHeartbeats 200000 in
theorem FrX.A {Dzz : DD} {o o' : Ob} (hzz : FrX Dzz o o') (izz : Nat) (hizz : Dzz.2.2.1.elem izz = false) : gA o' izz = gA o izz := hzz.2.2.1 izz hizz
set_option maxHeartbeats 200000 in
theorem FrX.M {Dzz : DD} {o o' : Ob} (hzz : FrX Dzz o o') (izz : Nat) (hizz : Dzz.2.2.2.1.elem izz = false) : gM o' izz = gM o izz := hzz.2.2.2.1 izz hizz
set_option maxHeartbeats 200000 in
theorem FrX.R {Dzz : DD} {o o' : Ob} (hzz : FrX Dzz o o') (izz : Nat) (hizz : Dzz.2.2.2.2.elem izz = false) : gR o' izz = gR o izz := hzz.2.2.2.2 izz hizz
set_option maxHeartbeats 200000 in
theorem FrX.rf {Dzz : DD} {o : Ob} : FrX Dzz o o := ⟨fun _ _ => rfl, fun _ _ => rfl, fun _ _ => rfl, fun _ _ => rfl, fun _ _ => rfl⟩
set_option maxHeartbeats 200000 in
theorem FrX.tr {Dzz : DD} {o o' o'' : Ob} (hzz : FrX Dzz o o') (kzz : FrX Dzz o' o'') : FrX Dzz o o'' := ⟨fun izz hizz => (kzz.1 izz hizz).trans (hzz.1 izz hizz), fun izz hizz => (kzz.2.1 izz hizz).trans (hzz.2.1 izz hizz), fun izz hizz => (kzz.2.2.1 izz hizz).trans (hzz.2.2.1 izz hizz), fun izz hizz => (kzz.2.2.2.1 izz hizz).trans (hzz.2.2.2.1 izz hizz), fun izz hizz => (kzz.2.2.2.2 izz hizz).trans (hzz.2.2.2.2 izz hizz)⟩
set_option maxHeartbeats 200000 in
theorem sbl_no {azz bzz : List Nat} (hzz : sbl azz bzz = true) {izz : Nat} (hizz : bzz.elem izz = false) : azz.elem izz = false := by
  cases ezz : azz.elem izz with
  | false => rfl
  | true =>
    have qzz := List.all_eq_true.mp hzz izz (List.elem_iff.mp ezz)
    rw [hizz] at qzz; cases qzz
set_option maxHeartbeats 200000 in
theorem FrX.mono {Dzz Ezz : DD} {o o' : Ob} (hzz : FrX Dzz o o') (hs : dsbX Dzz Ezz = true) : FrX Ezz o o' := by
  unfold dsbX at hs
  simp only [Bool.and_eq_true] at hs
  obtain ⟨⟨⟨⟨q1zz, q2zz⟩, q3zz⟩, q4zz⟩, q5zz⟩ := hs
  exact ⟨fun izz hizz => hzz.1 izz (sbl_no q1zz hizz), fun izz hizz => hzz.2.1 izz (sbl_no q2zz hizz), fun izz hizz => hzz.2.2.1 izz (sbl_no q3zz hizz), fun izz hizz => hzz.2.2.2.1 izz (sbl_no q4zz hizz), fun izz hizz => hzz.2.2.2.2 izz (sbl_no q5zz hizz)⟩
set_option maxHeartbeats 200000 in
theorem elem_ne {l : List Nat} {kzz izz : Nat} (hk : l.elem kzz = true) (hizz : l.elem izz = false) : izz ≠ kzz := by
  intro ezz; rw [ezz, hk] at hizz; cases hizz
set_option maxHeartbeats 200000 in
theorem FrX.sI {Dzz : DD} {o o' : Ob} {kzz : Nat} {vzz : Int32} (hzz : FrX Dzz o o') (hk : Dzz.1.elem kzz = true) : FrX Dzz o (sI o' kzz vzz) := ⟨fun izz hizz => (fset_ne (elem_ne hk hizz)).trans (hzz.1 izz hizz), hzz.2.1, hzz.2.2.1, hzz.2.2.2.1, hzz.2.2.2.2⟩
set_option maxHeartbeats 200000 in
theorem FrX.sL {Dzz : DD} {o o' : Ob} {kzz : Nat} {vzz : Int64} (hzz : FrX Dzz o o') (hk : Dzz.2.1.elem kzz = true) : FrX Dzz o (sL o' kzz vzz) := ⟨hzz.1, fun izz hizz => (fset_ne (elem_ne hk hizz)).trans (hzz.2.1 izz hizz), hzz.2.2.1, hzz.2.2.2.1, hzz.2.2.2.2⟩
set_option maxHeartbeats 200000 in
theorem FrX.sA {Dzz : DD} {o o' : Ob} {kzz : Nat} {vzz : Nat → Int32} (hzz : FrX Dzz o o') (hk : Dzz.2.2.1.elem kzz = true) : FrX Dzz o (sA o' kzz vzz) := ⟨hzz.1, hzz.2.1, fun izz hizz => (fset_ne (elem_ne hk hizz)).trans (hzz.2.2.1 izz hizz), hzz.2.2.2.1, hzz.2.2.2.2⟩
set_option maxHeartbeats 200000 in
theorem FrX.sM {Dzz : DD} {o o' : Ob} {kzz : Nat} {vzz : Nat → Int64} (hzz : FrX Dzz o o') (hk : Dzz.2.2.2.1.elem kzz = true) : FrX Dzz o (sM o' kzz vzz) := ⟨hzz.1, hzz.2.1, hzz.2.2.1, fun izz hizz => (fset_ne (elem_ne hk hizz)).trans (hzz.2.2.2.1 izz hizz), hzz.2.2.2.2⟩
set_option maxHeartbeats 200000 in
theorem FrX.sR {Dzz : DD} {o o' : Ob} {kzz : Nat} {vzz : Nat → Option Nat} (hzz : FrX Dzz o o') (hk : Dzz.2.2.2.2.elem kzz = true) : FrX Dzz o (sR o' kzz vzz) := ⟨hzz.1, hzz.2.1, hzz.2.2.1, hzz.2.2.2.1, fun izz hizz => (fset_ne (elem_ne hk hizz)).trans (hzz.2.2.2.2 izz hizz)⟩
set_option maxHeartbeats 200000 in
theorem FrX.tA {Dzz : DD} {o o' : Ob} {kzz jzz : Nat} {vzz : Int32} (hzz : FrX Dzz o o') (hk : Dzz.2.2.1.elem kzz = true) : FrX Dzz o (tA o' kzz jzz vzz) := FrX.sA hzz hk
set_option maxHeartbeats 200000 in
theorem FrX.tM {Dzz : DD} {o o' : Ob} {kzz jzz : Nat} {vzz : Int64} (hzz : FrX Dzz o o') (hk : Dzz.2.2.2.1.elem kzz = true) : FrX Dzz o (tM o' kzz jzz vzz) := FrX.sM hzz hk
set_option maxHeartbeats 200000 in
theorem FrX.tR {Dzz : DD} {o o' : Ob} {kzz jzz : Nat} {vzz : Option Nat} (hzz : FrX Dzz o o') (hk : Dzz.2.2.2.2.elem kzz = true) : FrX Dzz o (tR o' kzz jzz vzz) := FrX.sR hzz hk
set_option maxHeartbeats 200000 in
theorem FrX.cA {Dzz : DD} {o o' : Ob} {kzz : Nat} {fzz : Nat → Int32} {azz bzz czz : Int32} (hzz : FrX Dzz o o') (hk : Dzz.2.2.1.elem kzz = true) : FrX Dzz o (cA o' kzz fzz azz bzz czz) := FrX.sA hzz hk
set_option maxHeartbeats 200000 in
theorem z_if {czz : Prop} {izz : Decidable czz} {α : Type} {Xzz Y : Option α} {yzz : α} (hzz : (@ite _ czz izz Xzz Y) = some yzz) : (czz ∧ Xzz = some yzz) ∨ (¬ czz ∧ Y = some yzz) := by
  by_cases qzz : czz
  · exact Or.inl ⟨qzz, z_t hzz qzz⟩
  · exact Or.inr ⟨qzz, z_f hzz qzz⟩
set_option maxHeartbeats 200000 in
theorem z_opX {α : Type} {rzz : Option Nat} {pl : List CR} {knzz : Option α} {kszz : CR → Option α} {yzz : α} (hzz : zop rzz pl knzz kszz = some yzz) : (rzz = none ∧ knzz = some yzz) ∨ ∃ azz czz, rzz = some azz ∧ pfind pl azz = some czz ∧ kszz czz = some yzz := by
  cases rzz with
  | none => exact Or.inl ⟨rfl, hzz⟩
  | some azz =>
    obtain ⟨czz, qzz, hzz⟩ := z_bd (x := pfind pl azz) hzz
    exact Or.inr ⟨azz, czz, rfl, qzz, hzz⟩
set_option maxHeartbeats 200000 in
theorem z_map {α β : Type} {xzz : Option α} {fzz : α → β} {yzz : β} (hzz : xzz.map fzz = some yzz) : ∃ vzz, xzz = some vzz ∧ fzz vzz = yzz := by
  cases xzz with
  | none => cases hzz
  | some vzz => exact ⟨vzz, rfl, Option.some.inj hzz⟩
def d_X9_reckon_me : DD := ([38], [], [], [], [])
set_option maxHeartbeats 200000 in
theorem fr_bk_X9_reckon_72 {v2 : Int64} {v4zz : Int64} {s0zz : Int32} {o_me : Ob} {yzz : Int64 × Ob}  (hzz : bk_X9_reckon_72 v2 v4zz s0zz o_me = some yzz) : FrX d_X9_reckon_me o_me yzz.2 := by
  unfold bk_X9_reckon_72 at hzz
  have hzz := (z_gd hzz).2
  obtain ⟨o3zz, eo3, hzz⟩ := z_lt hzz
  have k1zz : FrX d_X9_reckon_me o_me o3zz := by rw [eo3]; exact FrX.sI FrX.rf rfl
  rcases z_if hzz with ⟨-, hzz⟩ | ⟨-, hzz⟩
  · have hzz := (z_gd hzz).2
    have hzz := Option.some.inj hzz
    subst hzz
    exact k1zz
  · have hzz := Option.some.inj hzz
    subst hzz
    exact k1zz
set_option maxHeartbeats 200000 in
theorem fr_bk_X9_reckon_104 {v2 : Int64} {v4zz : Int64} {s0zz : Int32} {o_me : Ob} {yzz : Int64 × Ob}  (hzz : bk_X9_reckon_104 v2 v4zz s0zz o_me = some yzz) : FrX d_X9_reckon_me o_me yzz.2 := by
  unfold bk_X9_reckon_104 at hzz
  have hzz := (z_gd hzz).2
  obtain ⟨o6, eo6, hzz⟩ := z_lt hzz
  have k1zz : FrX d_X9_reckon_me o_me o6 := by rw [eo6]; exact FrX.sI FrX.rf rfl
  rcases z_if hzz with ⟨-, hzz⟩ | ⟨-, hzz⟩
  · have hzz := (z_gd hzz).2
    have hzz := Option.some.inj hzz
    subst hzz
    exact k1zz
  · have hzz := Option.some.inj hzz
    subst hzz
    exact k1zz
set_option maxHeartbeats 200000 in
theorem fr_f_X9_reckon {o_me : Ob} {p0zz : Int32} {p1zz : Int64} {p2zz : Int64} {yzz : Int64 × Ob}  (hzz : f_X9_reckon o_me p0zz p1zz p2zz = some yzz) : FrX d_X9_reckon_me o_me yzz.2 := by
  unfold f_X9_reckon at hzz
  rcases z_if hzz with ⟨-, hzz⟩ | ⟨-, hzz⟩
  · have hzz := Option.some.inj hzz
    subst hzz
    exact FrX.rf
  · rcases z_if hzz with ⟨-, hzz⟩ | ⟨-, hzz⟩
    · have hzz := Option.some.inj hzz
      subst hzz
      exact FrX.rf
    · rcases z_if hzz with ⟨-, hzz⟩ | ⟨-, hzz⟩
      · have hzz := Option.some.inj hzz
        subst hzz
        exact FrX.rf
      · rcases z_if hzz with ⟨-, hzz⟩ | ⟨-, hzz⟩
        · rcases z_if hzz with ⟨-, hzz⟩ | ⟨-, hzz⟩
          · have wzz := fr_bk_X9_reckon_72  hzz
            exact FrX.rf.tr wzz
          · have wzz := fr_bk_X9_reckon_72  hzz
            exact FrX.rf.tr wzz
        · rcases z_if hzz with ⟨-, hzz⟩ | ⟨-, hzz⟩
          · rcases z_if hzz with ⟨-, hzz⟩ | ⟨-, hzz⟩
            · have wzz := fr_bk_X9_reckon_104  hzz
              exact FrX.rf.tr wzz
            · have wzz := fr_bk_X9_reckon_104  hzz
              exact FrX.rf.tr wzz
          · rcases z_if hzz with ⟨-, hzz⟩ | ⟨-, hzz⟩
            · rcases z_if hzz with ⟨-, hzz⟩ | ⟨-, hzz⟩
              · have hzz := Option.some.inj hzz
                subst hzz
                exact FrX.rf
              · have hzz := Option.some.inj hzz
                subst hzz
                exact FrX.rf
            · rcases z_if hzz with ⟨-, hzz⟩ | ⟨-, hzz⟩
              · rcases z_if hzz with ⟨-, hzz⟩ | ⟨-, hzz⟩
                · have hzz := Option.some.inj hzz
                  subst hzz
                  exact FrX.rf
                · have hzz := Option.some.inj hzz
                  subst hzz
                  exact FrX.rf
              · rcases z_if hzz with ⟨-, hzz⟩ | ⟨-, hzz⟩
                · have hzz := Option.some.inj hzz
                  subst hzz
                  exact FrX.rf
                · have hzz := Option.some.inj hzz
                  subst hzz
                  exact FrX.rf
def d_X9_reckonAll_me : DD := ([38], [39], [], [37], [])
set_option maxHeartbeats 200000 in
theorem fr_bk_X9_reckonAll_368 {s0zz : Int64} {o_me : Ob} {yzz : Ob}  (hzz : bk_X9_reckonAll_368 s0zz o_me = some yzz) : FrX d_X9_reckonAll_me o_me yzz := by
  unfold bk_X9_reckonAll_368 at hzz
  obtain ⟨o2, eo2, hzz⟩ := z_lt hzz
  have k1zz : FrX d_X9_reckonAll_me o_me o2 := by rw [eo2]; exact FrX.sL FrX.rf rfl
  have hzz := Option.some.inj hzz
  subst hzz
  exact k1zz
set_option maxHeartbeats 200000 in
theorem fr_bk_X9_reckonAll_353 {v3 : Int32} {o_me : Ob} {yzz : Ob}  (hzz : bk_X9_reckonAll_353 v3 o_me = some yzz) : FrX d_X9_reckonAll_me o_me yzz := by
  unfold bk_X9_reckonAll_353 at hzz
  rcases z_if hzz with ⟨-, hzz⟩ | ⟨-, hzz⟩
  · have wzz := fr_bk_X9_reckonAll_368  hzz
    exact FrX.rf.tr wzz
  · have wzz := fr_bk_X9_reckonAll_368  hzz
    exact FrX.rf.tr wzz
set_option maxHeartbeats 200000 in
theorem fr_bk_X9_reckonAll_350 {rec_10_0 : Int32 × Int32 × Int32 × Ob → Option (Ob)} {v2 : Int32} {v3 : Int32} {v4zz : Int32} {o_me : Ob} {yzz : Ob} (hrec_10_0 : ∀ (azz : Int32 × Int32 × Int32 × Ob) (yzz : Ob), rec_10_0 azz = some yzz → FrX d_X9_reckonAll_me azz.2.2.2 yzz) (hzz : bk_X9_reckonAll_350 rec_10_0 v2 v3 v4zz o_me = some yzz) : FrX d_X9_reckonAll_me o_me yzz := by
  unfold bk_X9_reckonAll_350 at hzz
  have wzz := hrec_10_0 _ _ hzz
  exact FrX.rf.tr wzz
set_option maxHeartbeats 200000 in
theorem fr_bk_X9_reckonAll_336 {rec_10_0 : Int32 × Int32 × Int32 × Ob → Option (Ob)} {v2 : Int32} {v3 : Int32} {v4zz : Int32} {v6 : Int32} {s0zz : Int64} {s1zz : Int64} {o_me : Ob} {yzz : Ob} (hrec_10_0 : ∀ (azz : Int32 × Int32 × Int32 × Ob) (yzz : Ob), rec_10_0 azz = some yzz → FrX d_X9_reckonAll_me azz.2.2.2 yzz) (hzz : bk_X9_reckonAll_336 rec_10_0 v2 v3 v4zz v6 s0zz s1zz o_me = some yzz) : FrX d_X9_reckonAll_me o_me yzz := by
  unfold bk_X9_reckonAll_336 at hzz
  rcases z_if hzz with ⟨-, hzz⟩ | ⟨-, hzz⟩
  · have wzz := fr_bk_X9_reckonAll_350 hrec_10_0 hzz
    exact FrX.rf.tr wzz
  · obtain ⟨x7, ex7, hzz⟩ := z_lt hzz
    have wzz := fr_bk_X9_reckonAll_350 hrec_10_0 hzz
    exact FrX.rf.tr wzz
set_option maxHeartbeats 200000 in
theorem fr_bk_X9_reckonAll_282 {rec_10_0 : Int32 × Int32 × Int32 × Ob → Option (Ob)} {v2 : Int32} {v3 : Int32} {v4zz : Int32} {s0zz : Int32} {o_me : Ob} {yzz : Ob} (hrec_10_0 : ∀ (azz : Int32 × Int32 × Int32 × Ob) (yzz : Ob), rec_10_0 azz = some yzz → FrX d_X9_reckonAll_me azz.2.2.2 yzz) (hzz : bk_X9_reckonAll_282 rec_10_0 v2 v3 v4zz s0zz o_me = some yzz) : FrX d_X9_reckonAll_me o_me yzz := by
  unfold bk_X9_reckonAll_282 at hzz
  have hzz := (z_gd hzz).2
  obtain ⟨o18, eo18, hzz⟩ := z_lt hzz
  have k1zz : FrX d_X9_reckonAll_me o_me o18 := by rw [eo18]; exact FrX.sI FrX.rf rfl
  have wzz := fr_bk_X9_reckonAll_350 hrec_10_0 hzz
  exact k1zz.tr wzz
set_option maxHeartbeats 200000 in
theorem fr_bk_X9_reckonAll_277 {rec_10_0 : Int32 × Int32 × Int32 × Ob → Option (Ob)} {v2 : Int32} {v3 : Int32} {v4zz : Int32} {o_me : Ob} {yzz : Ob} (hrec_10_0 : ∀ (azz : Int32 × Int32 × Int32 × Ob) (yzz : Ob), rec_10_0 azz = some yzz → FrX d_X9_reckonAll_me azz.2.2.2 yzz) (hzz : bk_X9_reckonAll_277 rec_10_0 v2 v3 v4zz o_me = some yzz) : FrX d_X9_reckonAll_me o_me yzz := by
  unfold bk_X9_reckonAll_277 at hzz
  have wzz := fr_bk_X9_reckonAll_282 hrec_10_0 hzz
  exact FrX.rf.tr wzz
set_option maxHeartbeats 200000 in
theorem fr_bk_X9_reckonAll_204 {rec_10_0 : Int32 × Int32 × Int32 × Ob → Option (Ob)} {v2 : Int32} {v3 : Int32} {v4zz : Int32} {s0zz : Int64} {s1zz : Int32} {o_me : Ob} {yzz : Ob} (hrec_10_0 : ∀ (azz : Int32 × Int32 × Int32 × Ob) (yzz : Ob), rec_10_0 azz = some yzz → FrX d_X9_reckonAll_me azz.2.2.2 yzz) (hzz : bk_X9_reckonAll_204 rec_10_0 v2 v3 v4zz s0zz s1zz o_me = some yzz) : FrX d_X9_reckonAll_me o_me yzz := by
  unfold bk_X9_reckonAll_204 at hzz
  have hzz := (z_gd hzz).2
  obtain ⟨o24, eo24, hzz⟩ := z_lt hzz
  have k1zz : FrX d_X9_reckonAll_me o_me o24 := by rw [eo24]; exact FrX.tM FrX.rf rfl
  obtain ⟨x25, ex25, hzz⟩ := z_lt hzz
  have wzz := fr_bk_X9_reckonAll_350 hrec_10_0 hzz
  exact k1zz.tr wzz
set_option maxHeartbeats 200000 in
theorem fr_bk_X9_reckonAll_95 {rec_10_0 : Int32 × Int32 × Int32 × Ob → Option (Ob)} {v2 : Int32} {v3 : Int32} {v4zz : Int32} {v5 : Int32} {s0zz : Int32} {o_me : Ob} {yzz : Ob} (hrec_10_0 : ∀ (azz : Int32 × Int32 × Int32 × Ob) (yzz : Ob), rec_10_0 azz = some yzz → FrX d_X9_reckonAll_me azz.2.2.2 yzz) (hzz : bk_X9_reckonAll_95 rec_10_0 v2 v3 v4zz v5 s0zz o_me = some yzz) : FrX d_X9_reckonAll_me o_me yzz := by
  unfold bk_X9_reckonAll_95 at hzz
  obtain ⟨x5zz, ex5, hzz⟩ := z_lt hzz
  rcases z_if hzz with ⟨-, hzz⟩ | ⟨-, hzz⟩
  · rcases z_if hzz with ⟨-, hzz⟩ | ⟨-, hzz⟩
    · rcases z_if hzz with ⟨-, hzz⟩ | ⟨-, hzz⟩
      · have hzz := (z_gd hzz).2
        have hzz := (z_gd hzz).2
        obtain ⟨o10, eo10, hzz⟩ := z_lt hzz
        have k1zz : FrX d_X9_reckonAll_me o_me o10 := by rw [eo10]; exact FrX.tM FrX.rf rfl
        have wzz := fr_bk_X9_reckonAll_350 hrec_10_0 hzz
        exact k1zz.tr wzz
      · have hzz := (z_gd hzz).2
        rcases z_if hzz with ⟨-, hzz⟩ | ⟨-, hzz⟩
        · have wzz := fr_bk_X9_reckonAll_336 hrec_10_0 hzz
          exact FrX.rf.tr wzz
        · have wzz := fr_bk_X9_reckonAll_336 hrec_10_0 hzz
          exact FrX.rf.tr wzz
    · obtain ⟨x11, ex11, hzz⟩ := z_lt hzz
      have hzz := (z_gd hzz).2
      have hzz := (z_gd hzz).2
      obtain ⟨z14zz, ez14, hzz⟩ := z_bd hzz
      have k2zz : FrX d_X9_reckonAll_me o_me z14zz.2 := FrX.rf.tr ((fr_f_X9_reckon  ez14).mono rfl)
      have hzz := (z_gd hzz).2
      obtain ⟨o16, eo16, hzz⟩ := z_lt hzz
      have k3zz : FrX d_X9_reckonAll_me o_me o16 := by rw [eo16]; exact FrX.tM k2zz rfl
      rcases z_if hzz with ⟨-, hzz⟩ | ⟨-, hzz⟩
      · have hzz := (z_gd hzz).2
        obtain ⟨z20, ez20, hzz⟩ := z_bd hzz
        rcases z_if hzz with ⟨-, hzz⟩ | ⟨-, hzz⟩
        · have wzz := fr_bk_X9_reckonAll_277 hrec_10_0 hzz
          exact k3zz.tr wzz
        · have wzz := fr_bk_X9_reckonAll_282 hrec_10_0 hzz
          exact k3zz.tr wzz
      · have wzz := fr_bk_X9_reckonAll_277 hrec_10_0 hzz
        exact k3zz.tr wzz
  · rcases z_if hzz with ⟨-, hzz⟩ | ⟨-, hzz⟩
    · have wzz := fr_bk_X9_reckonAll_204 hrec_10_0 hzz
      exact FrX.rf.tr wzz
    · rcases z_if hzz with ⟨-, hzz⟩ | ⟨-, hzz⟩
      · have hzz := (z_gd hzz).2
        have wzz := fr_bk_X9_reckonAll_204 hrec_10_0 hzz
        exact FrX.rf.tr wzz
      · rcases z_if hzz with ⟨-, hzz⟩ | ⟨-, hzz⟩
        · obtain ⟨z21, ez21, hzz⟩ := z_bd hzz
          rcases z_if hzz with ⟨-, hzz⟩ | ⟨-, hzz⟩
          · have wzz := fr_bk_X9_reckonAll_204 hrec_10_0 hzz
            exact FrX.rf.tr wzz
          · rcases z_if hzz with ⟨-, hzz⟩ | ⟨-, hzz⟩
            · have hzz := (z_gd hzz).2
              have wzz := fr_bk_X9_reckonAll_204 hrec_10_0 hzz
              exact FrX.rf.tr wzz
            · have hzz := (z_gd hzz).2
              have wzz := fr_bk_X9_reckonAll_204 hrec_10_0 hzz
              exact FrX.rf.tr wzz
        · have hzz := (z_gd hzz).2
          have wzz := fr_bk_X9_reckonAll_204 hrec_10_0 hzz
          exact FrX.rf.tr wzz
set_option maxHeartbeats 200000 in
theorem fr_bk_X9_reckonAll_57 {rec_10_0 : Int32 × Int32 × Int32 × Ob → Option (Ob)} {v2 : Int32} {v3 : Int32} {v4zz : Int32} {s0zz : Int32} {o_me : Ob} {yzz : Ob} (hrec_10_0 : ∀ (azz : Int32 × Int32 × Int32 × Ob) (yzz : Ob), rec_10_0 azz = some yzz → FrX d_X9_reckonAll_me azz.2.2.2 yzz) (hzz : bk_X9_reckonAll_57 rec_10_0 v2 v3 v4zz s0zz o_me = some yzz) : FrX d_X9_reckonAll_me o_me yzz := by
  unfold bk_X9_reckonAll_57 at hzz
  rcases z_if hzz with ⟨-, hzz⟩ | ⟨-, hzz⟩
  · have hzz := (z_gd hzz).2
    have wzz := fr_bk_X9_reckonAll_95 hrec_10_0 hzz
    exact FrX.rf.tr wzz
  · have hzz := (z_gd hzz).2
    have wzz := fr_bk_X9_reckonAll_95 hrec_10_0 hzz
    exact FrX.rf.tr wzz
set_option maxHeartbeats 200000 in
theorem fr_lb_X9_reckonAll_10 {rec_10_0 : Int32 × Int32 × Int32 × Ob → Option (Ob)} {v2 : Int32} {v3 : Int32} {v4zz : Int32} {o_me : Ob} {yzz : Ob} (hrec_10_0 : ∀ (azz : Int32 × Int32 × Int32 × Ob) (yzz : Ob), rec_10_0 azz = some yzz → FrX d_X9_reckonAll_me azz.2.2.2 yzz) (hzz : lb_X9_reckonAll_10 rec_10_0 v2 v3 v4zz o_me = some yzz) : FrX d_X9_reckonAll_me o_me yzz := by
  unfold lb_X9_reckonAll_10 at hzz
  rcases z_if hzz with ⟨-, hzz⟩ | ⟨-, hzz⟩
  · have wzz := fr_bk_X9_reckonAll_353  hzz
    exact FrX.rf.tr wzz
  · rcases z_if hzz with ⟨-, hzz⟩ | ⟨-, hzz⟩
    · rcases z_if hzz with ⟨-, hzz⟩ | ⟨-, hzz⟩
      · have hzz := (z_gd hzz).2
        have wzz := fr_bk_X9_reckonAll_57 hrec_10_0 hzz
        exact FrX.rf.tr wzz
      · have hzz := (z_gd hzz).2
        have wzz := fr_bk_X9_reckonAll_57 hrec_10_0 hzz
        exact FrX.rf.tr wzz
    · have wzz := fr_bk_X9_reckonAll_353  hzz
      exact FrX.rf.tr wzz
set_option maxHeartbeats 200000 in
theorem fr_lp_X9_reckonAll_10   : ∀ (Nzz : Nat) (azz : Int32 × Int32 × Int32 × Ob) (yzz : Ob), lp_X9_reckonAll_10  Nzz azz = some yzz → FrX d_X9_reckonAll_me azz.2.2.2 yzz := by
  intro Nzz
  induction Nzz with
  | zero => intro azz yzz hzz; cases hzz
  | succ Nzz ihzz => intro azz yzz hzz; exact fr_lb_X9_reckonAll_10   ihzz hzz
set_option maxHeartbeats 200000 in
theorem fr_f_X9_reckonAll {o_me : Ob} {p0zz : Int32} {p1zz : Int32} {yzz : Ob}  (hzz : f_X9_reckonAll o_me p0zz p1zz = some yzz) : FrX d_X9_reckonAll_me o_me yzz := by
  unfold f_X9_reckonAll at hzz
  obtain ⟨o1, eo1, hzz⟩ := z_lt hzz
  have k1zz : FrX d_X9_reckonAll_me o_me o1 := by rw [eo1]; exact FrX.sI FrX.rf rfl
  have wzz := fr_lp_X9_reckonAll_10  _ _ _ hzz
  exact k1zz.tr wzz
def d_X9_isSo_me : DD := ([38], [39, 40], [], [37], [])
set_option maxHeartbeats 200000 in
theorem fr_bk_X9_isSo_59 {v1zz : Int32} {o_me : Ob} {yzz : Int32 × Ob}  (hzz : bk_X9_isSo_59 v1zz o_me = some yzz) : FrX d_X9_isSo_me o_me yzz.2 := by
  unfold bk_X9_isSo_59 at hzz
  have hzz := (z_gd hzz).2
  rcases z_if hzz with ⟨-, hzz⟩ | ⟨-, hzz⟩
  · have hzz := Option.some.inj hzz
    subst hzz
    exact FrX.rf
  · have hzz := (z_gd hzz).2
    have hzz := (z_gd hzz).2
    obtain ⟨z6, ez6, hzz⟩ := z_bd hzz
    have k1zz : FrX d_X9_isSo_me o_me z6 := FrX.rf.tr ((fr_f_X9_reckonAll  ez6).mono rfl)
    obtain ⟨o7, eo7, hzz⟩ := z_lt hzz
    have k2zz : FrX d_X9_isSo_me o_me o7 := by rw [eo7]; exact FrX.sL k1zz rfl
    rcases z_if hzz with ⟨-, hzz⟩ | ⟨-, hzz⟩
    · have hzz := Option.some.inj hzz
      subst hzz
      exact k2zz
    · have hzz := Option.some.inj hzz
      subst hzz
      exact k2zz
set_option maxHeartbeats 200000 in
theorem fr_f_X9_isSo {o_me : Ob} {p0zz : Int32} {yzz : Int32 × Ob}  (hzz : f_X9_isSo o_me p0zz = some yzz) : FrX d_X9_isSo_me o_me yzz.2 := by
  unfold f_X9_isSo at hzz
  have hzz := (z_gd hzz).2
  have hzz := (z_gd hzz).2
  rcases z_if hzz with ⟨-, hzz⟩ | ⟨-, hzz⟩
  · have wzz := fr_bk_X9_isSo_59  hzz
    exact FrX.rf.tr wzz
  · have hzz := (z_gd hzz).2
    have hzz := (z_gd hzz).2
    obtain ⟨z10, ez10, hzz⟩ := z_bd hzz
    have k1zz : FrX d_X9_isSo_me o_me z10 := FrX.rf.tr ((fr_f_X9_reckonAll  ez10).mono rfl)
    rcases z_if hzz with ⟨-, hzz⟩ | ⟨-, hzz⟩
    · rcases z_if hzz with ⟨-, hzz⟩ | ⟨-, hzz⟩
      · have hzz := Option.some.inj hzz
        subst hzz
        exact k1zz
      · have wzz := fr_bk_X9_isSo_59  hzz
        exact k1zz.tr wzz
    · have hzz := Option.some.inj hzz
      subst hzz
      exact k1zz
def d_X9_tells_me : DD := ([34, 38], [39, 40], [], [35, 37], [])
set_option maxHeartbeats 200000 in
theorem fr_bk_X9_tells_224 {rec_159_0 : Int32 × Int64 × Int32 × Ob → Option (Int64 × Ob)} {v1zz : Int32} {v7 : Int64} {v9 : Int32} {o_me : Ob} {yzz : Int64 × Ob} (hrec_159_0 : ∀ (azz : Int32 × Int64 × Int32 × Ob) (yzz : Int64 × Ob), rec_159_0 azz = some yzz → FrX d_X9_tells_me azz.2.2.2 yzz.2) (hzz : bk_X9_tells_224 rec_159_0 v1zz v7 v9 o_me = some yzz) : FrX d_X9_tells_me o_me yzz.2 := by
  unfold bk_X9_tells_224 at hzz
  obtain ⟨x17, ex17, hzz⟩ := z_lt hzz
  have wzz := hrec_159_0 _ _ hzz
  exact FrX.rf.tr wzz
set_option maxHeartbeats 200000 in
theorem fr_bk_X9_tells_222 {rec_159_0 : Int32 × Int64 × Int32 × Ob → Option (Int64 × Ob)} {v1zz : Int32} {v9 : Int32} {s0zz : Int64} {o_me : Ob} {yzz : Int64 × Ob} (hrec_159_0 : ∀ (azz : Int32 × Int64 × Int32 × Ob) (yzz : Int64 × Ob), rec_159_0 azz = some yzz → FrX d_X9_tells_me azz.2.2.2 yzz.2) (hzz : bk_X9_tells_222 rec_159_0 v1zz v9 s0zz o_me = some yzz) : FrX d_X9_tells_me o_me yzz.2 := by
  unfold bk_X9_tells_222 at hzz
  have wzz := fr_bk_X9_tells_224 hrec_159_0 hzz
  exact FrX.rf.tr wzz
set_option maxHeartbeats 200000 in
theorem fr_lb_X9_tells_159 {rec_159_0 : Int32 × Int64 × Int32 × Ob → Option (Int64 × Ob)} {v1zz : Int32} {v7 : Int64} {v9 : Int32} {o_me : Ob} {yzz : Int64 × Ob} (hrec_159_0 : ∀ (azz : Int32 × Int64 × Int32 × Ob) (yzz : Int64 × Ob), rec_159_0 azz = some yzz → FrX d_X9_tells_me azz.2.2.2 yzz.2) (hzz : lb_X9_tells_159 rec_159_0 v1zz v7 v9 o_me = some yzz) : FrX d_X9_tells_me o_me yzz.2 := by
  unfold lb_X9_tells_159 at hzz
  have hzz := (z_gd hzz).2
  rcases z_if hzz with ⟨-, hzz⟩ | ⟨-, hzz⟩
  · have hzz := Option.some.inj hzz
    subst hzz
    exact FrX.rf
  · obtain ⟨x15, ex15, hzz⟩ := z_lt hzz
    have hzz := (z_gd hzz).2
    rcases z_if hzz with ⟨-, hzz⟩ | ⟨-, hzz⟩
    · obtain ⟨z18, ez18, hzz⟩ := z_bd hzz
      have k1zz : FrX d_X9_tells_me o_me z18.2 := FrX.rf.tr ((fr_f_X9_isSo  ez18).mono rfl)
      rcases z_if hzz with ⟨-, hzz⟩ | ⟨-, hzz⟩
      · have wzz := fr_bk_X9_tells_224 hrec_159_0 hzz
        exact k1zz.tr wzz
      · rcases z_if hzz with ⟨-, hzz⟩ | ⟨-, hzz⟩
        · have wzz := fr_bk_X9_tells_222 hrec_159_0 hzz
          exact k1zz.tr wzz
        · have wzz := fr_bk_X9_tells_222 hrec_159_0 hzz
          exact k1zz.tr wzz
    · have wzz := fr_bk_X9_tells_224 hrec_159_0 hzz
      exact FrX.rf.tr wzz
set_option maxHeartbeats 200000 in
theorem fr_lp_X9_tells_159   : ∀ (Nzz : Nat) (azz : Int32 × Int64 × Int32 × Ob) (yzz : Int64 × Ob), lp_X9_tells_159  Nzz azz = some yzz → FrX d_X9_tells_me azz.2.2.2 yzz.2 := by
  intro Nzz
  induction Nzz with
  | zero => intro azz yzz hzz; cases hzz
  | succ Nzz ihzz => intro azz yzz hzz; exact fr_lb_X9_tells_159   ihzz hzz
set_option maxHeartbeats 200000 in
theorem fr_f_X9_tells {o_me : Ob} {p0zz : Int32} {p1zz : Int32} {p2zz : Int32} {p3zz : Int32} {p4zz : Int64} {yzz : Int64 × Ob}  (hzz : f_X9_tells o_me p0zz p1zz p2zz p3zz p4zz = some yzz) : FrX d_X9_tells_me o_me yzz.2 := by
  unfold f_X9_tells at hzz
  rcases z_if hzz with ⟨-, hzz⟩ | ⟨-, hzz⟩
  · have hzz := Option.some.inj hzz
    subst hzz
    exact FrX.rf
  · obtain ⟨o1, eo1, hzz⟩ := z_lt hzz
    have k1zz : FrX d_X9_tells_me o_me o1 := by rw [eo1]; exact FrX.sI FrX.rf rfl
    obtain ⟨o2, eo2, hzz⟩ := z_lt hzz
    have k2zz : FrX d_X9_tells_me o_me o2 := by rw [eo2]; exact FrX.tM k1zz rfl
    obtain ⟨o3zz, eo3, hzz⟩ := z_lt hzz
    have k3zz : FrX d_X9_tells_me o_me o3zz := by rw [eo3]; exact FrX.tM k2zz rfl
    have hzz := (z_gd hzz).2
    obtain ⟨o5zz, eo5, hzz⟩ := z_lt hzz
    have k4zz : FrX d_X9_tells_me o_me o5zz := by rw [eo5]; exact FrX.tM k3zz rfl
    have hzz := (z_gd hzz).2
    obtain ⟨o7, eo7, hzz⟩ := z_lt hzz
    have k5zz : FrX d_X9_tells_me o_me o7 := by rw [eo7]; exact FrX.tM k4zz rfl
    have hzz := (z_gd hzz).2
    obtain ⟨o9, eo9, hzz⟩ := z_lt hzz
    have k6zz : FrX d_X9_tells_me o_me o9 := by rw [eo9]; exact FrX.tM k5zz rfl
    obtain ⟨o10, eo10, hzz⟩ := z_lt hzz
    have k7zz : FrX d_X9_tells_me o_me o10 := by rw [eo10]; exact FrX.tM k6zz rfl
    obtain ⟨o11, eo11, hzz⟩ := z_lt hzz
    have k8zz : FrX d_X9_tells_me o_me o11 := by rw [eo11]; exact FrX.tM k7zz rfl
    obtain ⟨o12, eo12, hzz⟩ := z_lt hzz
    have k9 : FrX d_X9_tells_me o_me o12 := by rw [eo12]; exact FrX.tM k8zz rfl
    obtain ⟨o13, eo13, hzz⟩ := z_lt hzz
    have k10 : FrX d_X9_tells_me o_me o13 := by rw [eo13]; exact FrX.tM k9 rfl
    have wzz := fr_lp_X9_tells_159  _ _ _ hzz
    exact k10.tr wzz
def d_X9_isBarred_me : DD := ([34, 38], [39, 40], [], [35, 37], [])
set_option maxHeartbeats 200000 in
theorem fr_f_X9_isBarred {o_me : Ob} {p0zz : Int32} {p1zz : Int32} {yzz : Int32 × Ob}  (hzz : f_X9_isBarred o_me p0zz p1zz = some yzz) : FrX d_X9_isBarred_me o_me yzz.2 := by
  unfold f_X9_isBarred at hzz
  obtain ⟨z1, ez1, hzz⟩ := z_bd hzz
  have k1zz : FrX d_X9_isBarred_me o_me z1.2 := FrX.rf.tr ((fr_f_X9_tells  ez1).mono rfl)
  rcases z_if hzz with ⟨-, hzz⟩ | ⟨-, hzz⟩
  · have hzz := Option.some.inj hzz
    subst hzz
    exact k1zz
  · have hzz := Option.some.inj hzz
    subst hzz
    exact k1zz
def d_X9_runsOf_me : DD := ([34, 38], [39, 40], [], [35, 37], [])
set_option maxHeartbeats 200000 in
theorem fr_f_X9_runsOf {o_me : Ob} {p0zz : Int32} {p1zz : Int32} {yzz : Int32 × Ob}  (hzz : f_X9_runsOf o_me p0zz p1zz = some yzz) : FrX d_X9_runsOf_me o_me yzz.2 := by
  unfold f_X9_runsOf at hzz
  have hzz := (z_gd hzz).2
  obtain ⟨z2, ez2, hzz⟩ := z_bd hzz
  have k1zz : FrX d_X9_runsOf_me o_me z2.2 := FrX.rf.tr ((fr_f_X9_tells  ez2).mono rfl)
  obtain ⟨z3, ez3, hzz⟩ := z_bd hzz
  have hzz := Option.some.inj hzz
  subst hzz
  exact k1zz
def d_X9_layPlaces_me : DD := ([34, 38, 43], [39, 40], [41, 42], [35, 37], [])
set_option maxHeartbeats 200000 in
theorem fr_bk_X9_layPlaces_119 {rec_7_0 : Int32 × Int32 × Ob → Option (Ob)} {v1zz : Int32} {v2 : Int32} {o_me : Ob} {yzz : Ob} (hrec_7_0 : ∀ (azz : Int32 × Int32 × Ob) (yzz : Ob), rec_7_0 azz = some yzz → FrX d_X9_layPlaces_me azz.2.2 yzz) (hzz : bk_X9_layPlaces_119 rec_7_0 v1zz v2 o_me = some yzz) : FrX d_X9_layPlaces_me o_me yzz := by
  unfold bk_X9_layPlaces_119 at hzz
  obtain ⟨x3, ex3zz, hzz⟩ := z_lt hzz
  have wzz := hrec_7_0 _ _ hzz
  exact FrX.rf.tr wzz
set_option maxHeartbeats 200000 in
theorem fr_bk_X9_layPlaces_102 {rec_7_0 : Int32 × Int32 × Ob → Option (Ob)} {v1zz : Int32} {v2 : Int32} {v3 : Int32} {o_me : Ob} {yzz : Ob} (hrec_7_0 : ∀ (azz : Int32 × Int32 × Ob) (yzz : Ob), rec_7_0 azz = some yzz → FrX d_X9_layPlaces_me azz.2.2 yzz) (hzz : bk_X9_layPlaces_102 rec_7_0 v1zz v2 v3 o_me = some yzz) : FrX d_X9_layPlaces_me o_me yzz := by
  unfold bk_X9_layPlaces_102 at hzz
  have hzz := (z_gd hzz).2
  obtain ⟨o10, eo10, hzz⟩ := z_lt hzz
  have k1zz : FrX d_X9_layPlaces_me o_me o10 := by rw [eo10]; exact FrX.tA FrX.rf rfl
  obtain ⟨o11, eo11, hzz⟩ := z_lt hzz
  have k2zz : FrX d_X9_layPlaces_me o_me o11 := by rw [eo11]; exact FrX.sI k1zz rfl
  have wzz := fr_bk_X9_layPlaces_119 hrec_7_0 hzz
  exact k2zz.tr wzz
set_option maxHeartbeats 200000 in
theorem fr_lb_X9_layPlaces_56 {rec_7_0 : Int32 × Int32 × Ob → Option (Ob)} {rec_56_2 : Int32 × Int32 × Int32 × Ob → Option (Ob)} {v1zz : Int32} {v2 : Int32} {v3 : Int32} {o_me : Ob} {yzz : Ob} (hrec_7_0 : ∀ (azz : Int32 × Int32 × Ob) (yzz : Ob), rec_7_0 azz = some yzz → FrX d_X9_layPlaces_me azz.2.2 yzz) (hrec_56_2 : ∀ (azz : Int32 × Int32 × Int32 × Ob) (yzz : Ob), rec_56_2 azz = some yzz → FrX d_X9_layPlaces_me azz.2.2.2 yzz) (hzz : lb_X9_layPlaces_56 rec_7_0 rec_56_2 v1zz v2 v3 o_me = some yzz) : FrX d_X9_layPlaces_me o_me yzz := by
  unfold lb_X9_layPlaces_56 at hzz
  rcases z_if hzz with ⟨-, hzz⟩ | ⟨-, hzz⟩
  · have wzz := fr_bk_X9_layPlaces_102 hrec_7_0 hzz
    exact FrX.rf.tr wzz
  · have hzz := (z_gd hzz).2
    have hzz := (z_gd hzz).2
    have hzz := (z_gd hzz).2
    rcases z_if hzz with ⟨-, hzz⟩ | ⟨-, hzz⟩
    · have wzz := fr_bk_X9_layPlaces_102 hrec_7_0 hzz
      exact FrX.rf.tr wzz
    · have hzz := (z_gd hzz).2
      have hzz := (z_gd hzz).2
      obtain ⟨o17, eo17, hzz⟩ := z_lt hzz
      have k1zz : FrX d_X9_layPlaces_me o_me o17 := by rw [eo17]; exact FrX.tA FrX.rf rfl
      obtain ⟨x18, ex18, hzz⟩ := z_lt hzz
      have wzz := hrec_56_2 _ _ hzz
      exact k1zz.tr wzz
set_option maxHeartbeats 200000 in
theorem fr_lp_X9_layPlaces_56 {rec_7_0 : Int32 × Int32 × Ob → Option (Ob)} (hrec_7_0 : ∀ (azz : Int32 × Int32 × Ob) (yzz : Ob), rec_7_0 azz = some yzz → FrX d_X9_layPlaces_me azz.2.2 yzz) : ∀ (Nzz : Nat) (azz : Int32 × Int32 × Int32 × Ob) (yzz : Ob), lp_X9_layPlaces_56 rec_7_0 Nzz azz = some yzz → FrX d_X9_layPlaces_me azz.2.2.2 yzz := by
  intro Nzz
  induction Nzz with
  | zero => intro azz yzz hzz; cases hzz
  | succ Nzz ihzz => intro azz yzz hzz; exact fr_lb_X9_layPlaces_56  hrec_7_0 ihzz hzz
set_option maxHeartbeats 200000 in
theorem fr_lb_X9_layPlaces_7 {rec_7_0 : Int32 × Int32 × Ob → Option (Ob)} {v1zz : Int32} {v2 : Int32} {o_me : Ob} {yzz : Ob} (hrec_7_0 : ∀ (azz : Int32 × Int32 × Ob) (yzz : Ob), rec_7_0 azz = some yzz → FrX d_X9_layPlaces_me azz.2.2 yzz) (hzz : lb_X9_layPlaces_7 rec_7_0 v1zz v2 o_me = some yzz) : FrX d_X9_layPlaces_me o_me yzz := by
  unfold lb_X9_layPlaces_7 at hzz
  rcases z_if hzz with ⟨-, hzz⟩ | ⟨-, hzz⟩
  · have hzz := Option.some.inj hzz
    subst hzz
    exact FrX.rf
  · have hzz := (z_gd hzz).2
    rcases z_if hzz with ⟨-, hzz⟩ | ⟨-, hzz⟩
    · obtain ⟨z4, ez4, hzz⟩ := z_bd hzz
      have k1zz : FrX d_X9_layPlaces_me o_me z4.2 := FrX.rf.tr ((fr_f_X9_isBarred  ez4).mono rfl)
      rcases z_if hzz with ⟨-, hzz⟩ | ⟨-, hzz⟩
      · obtain ⟨z5, ez5, hzz⟩ := z_bd hzz
        have k2zz : FrX d_X9_layPlaces_me o_me z5.2 := k1zz.tr ((fr_f_X9_runsOf  ez5).mono rfl)
        have hzz := (z_gd hzz).2
        obtain ⟨o7, eo7, hzz⟩ := z_lt hzz
        have k3zz : FrX d_X9_layPlaces_me o_me o7 := by rw [eo7]; exact FrX.tA k2zz rfl
        obtain ⟨x8, ex8, hzz⟩ := z_lt hzz
        have wzz := fr_lp_X9_layPlaces_56 hrec_7_0 _ _ _ hzz
        exact k3zz.tr wzz
      · have wzz := fr_bk_X9_layPlaces_119 hrec_7_0 hzz
        exact k1zz.tr wzz
    · have wzz := fr_bk_X9_layPlaces_119 hrec_7_0 hzz
      exact FrX.rf.tr wzz
set_option maxHeartbeats 200000 in
theorem fr_lp_X9_layPlaces_7   : ∀ (Nzz : Nat) (azz : Int32 × Int32 × Ob) (yzz : Ob), lp_X9_layPlaces_7  Nzz azz = some yzz → FrX d_X9_layPlaces_me azz.2.2 yzz := by
  intro Nzz
  induction Nzz with
  | zero => intro azz yzz hzz; cases hzz
  | succ Nzz ihzz => intro azz yzz hzz; exact fr_lb_X9_layPlaces_7   ihzz hzz
set_option maxHeartbeats 200000 in
theorem fr_f_X9_layPlaces {o_me : Ob} {p0zz : Int32} {yzz : Ob}  (hzz : f_X9_layPlaces o_me p0zz = some yzz) : FrX d_X9_layPlaces_me o_me yzz := by
  unfold f_X9_layPlaces at hzz
  obtain ⟨o1, eo1, hzz⟩ := z_lt hzz
  have k1zz : FrX d_X9_layPlaces_me o_me o1 := by rw [eo1]; exact FrX.sI FrX.rf rfl
  have wzz := fr_lp_X9_layPlaces_7  _ _ _ hzz
  exact k1zz.tr wzz
def d_X9_keepAll_me : DD := ([], [], [6], [], [])
set_option maxHeartbeats 200000 in
theorem fr_lb_X9_keepAll_2 {rec_2_0 : Int32 × Int32 × Ob → Option (Ob)} {v1zz : Int32} {v2 : Int32} {o_me : Ob} {yzz : Ob} (hrec_2_0 : ∀ (azz : Int32 × Int32 × Ob) (yzz : Ob), rec_2_0 azz = some yzz → FrX d_X9_keepAll_me azz.2.2 yzz) (hzz : lb_X9_keepAll_2 rec_2_0 v1zz v2 o_me = some yzz) : FrX d_X9_keepAll_me o_me yzz := by
  unfold lb_X9_keepAll_2 at hzz
  rcases z_if hzz with ⟨-, hzz⟩ | ⟨-, hzz⟩
  · have hzz := Option.some.inj hzz
    subst hzz
    exact FrX.rf
  · have hzz := (z_gd hzz).2
    have hzz := (z_gd hzz).2
    obtain ⟨o3zz, eo3, hzz⟩ := z_lt hzz
    have k1zz : FrX d_X9_keepAll_me o_me o3zz := by rw [eo3]; exact FrX.tA FrX.rf rfl
    obtain ⟨x4zz, ex4, hzz⟩ := z_lt hzz
    have wzz := hrec_2_0 _ _ hzz
    exact k1zz.tr wzz
set_option maxHeartbeats 200000 in
theorem fr_lp_X9_keepAll_2   : ∀ (Nzz : Nat) (azz : Int32 × Int32 × Ob) (yzz : Ob), lp_X9_keepAll_2  Nzz azz = some yzz → FrX d_X9_keepAll_me azz.2.2 yzz := by
  intro Nzz
  induction Nzz with
  | zero => intro azz yzz hzz; cases hzz
  | succ Nzz ihzz => intro azz yzz hzz; exact fr_lb_X9_keepAll_2   ihzz hzz
set_option maxHeartbeats 200000 in
theorem fr_f_X9_keepAll {o_me : Ob} {p0zz : Int32} {yzz : Ob}  (hzz : f_X9_keepAll o_me p0zz = some yzz) : FrX d_X9_keepAll_me o_me yzz := by
  unfold f_X9_keepAll at hzz
  have wzz := fr_lp_X9_keepAll_2  _ _ _ hzz
  exact FrX.rf.tr wzz
def d_X9_remember_me : DD := ([8], [], [6, 7], [], [])
set_option maxHeartbeats 200000 in
theorem fr_bk_X9_remember_77 {v1zz : Int32} {o_me : Ob} {yzz : Ob}  (hzz : bk_X9_remember_77 v1zz o_me = some yzz) : FrX d_X9_remember_me o_me yzz := by
  unfold bk_X9_remember_77 at hzz
  obtain ⟨z1, ez1, hzz⟩ := z_bd hzz
  have k1zz : FrX d_X9_remember_me o_me z1 := FrX.rf.tr ((fr_f_X9_keepAll  ez1).mono rfl)
  have hzz := (z_gd hzz).2
  obtain ⟨o3zz, eo3, hzz⟩ := z_lt hzz
  have k2zz : FrX d_X9_remember_me o_me o3zz := by rw [eo3]; exact FrX.tA k1zz rfl
  obtain ⟨o4zz, eo4, hzz⟩ := z_lt hzz
  have k3zz : FrX d_X9_remember_me o_me o4zz := by rw [eo4]; exact FrX.sI k2zz rfl
  have hzz := Option.some.inj hzz
  subst hzz
  exact k3zz
set_option maxHeartbeats 200000 in
theorem fr_lb_X9_remember_41 {rec_41_2 : Int32 × Int32 × Ob → Option (Ob)} {v1zz : Int32} {v2 : Int32} {o_me : Ob} {yzz : Ob} (hrec_41_2 : ∀ (azz : Int32 × Int32 × Ob) (yzz : Ob), rec_41_2 azz = some yzz → FrX d_X9_remember_me azz.2.2 yzz) (hzz : lb_X9_remember_41 rec_41_2 v1zz v2 o_me = some yzz) : FrX d_X9_remember_me o_me yzz := by
  unfold lb_X9_remember_41 at hzz
  rcases z_if hzz with ⟨-, hzz⟩ | ⟨-, hzz⟩
  · obtain ⟨o5zz, eo5, hzz⟩ := z_lt hzz
    have k1zz : FrX d_X9_remember_me o_me o5zz := by rw [eo5]; exact FrX.sI FrX.rf rfl
    have wzz := fr_bk_X9_remember_77  hzz
    exact k1zz.tr wzz
  · have hzz := (z_gd hzz).2
    have hzz := (z_gd hzz).2
    obtain ⟨o8zz, eo8, hzz⟩ := z_lt hzz
    have k2zz : FrX d_X9_remember_me o_me o8zz := by rw [eo8]; exact FrX.tA FrX.rf rfl
    obtain ⟨x9, ex9, hzz⟩ := z_lt hzz
    have wzz := hrec_41_2 _ _ hzz
    exact k2zz.tr wzz
set_option maxHeartbeats 200000 in
theorem fr_lp_X9_remember_41   : ∀ (Nzz : Nat) (azz : Int32 × Int32 × Ob) (yzz : Ob), lp_X9_remember_41  Nzz azz = some yzz → FrX d_X9_remember_me azz.2.2 yzz := by
  intro Nzz
  induction Nzz with
  | zero => intro azz yzz hzz; cases hzz
  | succ Nzz ihzz => intro azz yzz hzz; exact fr_lb_X9_remember_41   ihzz hzz
set_option maxHeartbeats 200000 in
theorem fr_lb_X9_remember_11 {rec_11_1 : Int32 × Int32 × Ob → Option (Ob)} {v1zz : Int32} {v2 : Int32} {o_me : Ob} {yzz : Ob} (hrec_11_1 : ∀ (azz : Int32 × Int32 × Ob) (yzz : Ob), rec_11_1 azz = some yzz → FrX d_X9_remember_me azz.2.2 yzz) (hzz : lb_X9_remember_11 rec_11_1 v1zz v2 o_me = some yzz) : FrX d_X9_remember_me o_me yzz := by
  unfold lb_X9_remember_11 at hzz
  rcases z_if hzz with ⟨-, hzz⟩ | ⟨-, hzz⟩
  · have wzz := fr_lp_X9_remember_41  _ _ _ hzz
    exact FrX.rf.tr wzz
  · have hzz := (z_gd hzz).2
    have hzz := (z_gd hzz).2
    obtain ⟨o12, eo12, hzz⟩ := z_lt hzz
    have k1zz : FrX d_X9_remember_me o_me o12 := by rw [eo12]; exact FrX.tA FrX.rf rfl
    obtain ⟨x13, ex13, hzz⟩ := z_lt hzz
    have wzz := hrec_11_1 _ _ hzz
    exact k1zz.tr wzz
set_option maxHeartbeats 200000 in
theorem fr_lp_X9_remember_11   : ∀ (Nzz : Nat) (azz : Int32 × Int32 × Ob) (yzz : Ob), lp_X9_remember_11  Nzz azz = some yzz → FrX d_X9_remember_me azz.2.2 yzz := by
  intro Nzz
  induction Nzz with
  | zero => intro azz yzz hzz; cases hzz
  | succ Nzz ihzz => intro azz yzz hzz; exact fr_lb_X9_remember_11   ihzz hzz
set_option maxHeartbeats 200000 in
theorem fr_f_X9_remember {o_me : Ob} {p0zz : Int32} {yzz : Ob}  (hzz : f_X9_remember o_me p0zz = some yzz) : FrX d_X9_remember_me o_me yzz := by
  unfold f_X9_remember at hzz
  rcases z_if hzz with ⟨-, hzz⟩ | ⟨-, hzz⟩
  · have wzz := fr_lp_X9_remember_11  _ _ _ hzz
    exact FrX.rf.tr wzz
  · have wzz := fr_bk_X9_remember_77  hzz
    exact FrX.rf.tr wzz
def d_X9_winsOf_me : DD := ([34, 38], [39, 40], [], [35, 37], [])
set_option maxHeartbeats 200000 in
theorem fr_f_X9_winsOf {o_me : Ob} {p0zz : Int32} {p1zz : Int32} {p2zz : Int32} {yzz : Int32 × Ob}  (hzz : f_X9_winsOf o_me p0zz p1zz p2zz = some yzz) : FrX d_X9_winsOf_me o_me yzz.2 := by
  unfold f_X9_winsOf at hzz
  obtain ⟨z1, ez1, hzz⟩ := z_bd hzz
  have k1zz : FrX d_X9_winsOf_me o_me z1.2 := FrX.rf.tr ((fr_f_X9_tells  ez1).mono rfl)
  obtain ⟨z2, ez2, hzz⟩ := z_bd hzz
  have hzz := Option.some.inj hzz
  subst hzz
  exact k1zz
def d_X9_turnsOf_me : DD := ([34, 38], [39, 40], [], [35, 37], [])
set_option maxHeartbeats 200000 in
theorem fr_f_X9_turnsOf {o_me : Ob} {p0zz : Int32} {p1zz : Int32} {yzz : Int32 × Ob}  (hzz : f_X9_turnsOf o_me p0zz p1zz = some yzz) : FrX d_X9_turnsOf_me o_me yzz.2 := by
  unfold f_X9_turnsOf at hzz
  have hzz := (z_gd hzz).2
  obtain ⟨z2, ez2, hzz⟩ := z_bd hzz
  have k1zz : FrX d_X9_turnsOf_me o_me z2.2 := FrX.rf.tr ((fr_f_X9_tells  ez2).mono rfl)
  obtain ⟨z3, ez3, hzz⟩ := z_bd hzz
  have hzz := Option.some.inj hzz
  subst hzz
  exact k1zz
def d_X9_raceIt_me : DD := ([34, 38], [39, 40], [3], [35, 37], [])
set_option maxHeartbeats 200000 in
theorem fr_lb_X9_raceIt_219 {rec_219_5 : Int32 × Int32 × Ob → Option (Int32 × Ob)} {v2 : Int32} {v7 : Int32} {o_me : Ob} {yzz : Int32 × Ob} (hrec_219_5 : ∀ (azz : Int32 × Int32 × Ob) (yzz : Int32 × Ob), rec_219_5 azz = some yzz → FrX d_X9_raceIt_me azz.2.2 yzz.2) (hzz : lb_X9_raceIt_219 rec_219_5 v2 v7 o_me = some yzz) : FrX d_X9_raceIt_me o_me yzz.2 := by
  unfold lb_X9_raceIt_219 at hzz
  rcases z_if hzz with ⟨-, hzz⟩ | ⟨-, hzz⟩
  · have hzz := Option.some.inj hzz
    subst hzz
    exact FrX.rf
  · have hzz := (z_gd hzz).2
    have hzz := (z_gd hzz).2
    obtain ⟨o11, eo11, hzz⟩ := z_lt hzz
    have k1zz : FrX d_X9_raceIt_me o_me o11 := by rw [eo11]; exact FrX.tA FrX.rf rfl
    obtain ⟨x12, ex12, hzz⟩ := z_lt hzz
    have wzz := hrec_219_5 _ _ hzz
    exact k1zz.tr wzz
set_option maxHeartbeats 200000 in
theorem fr_lp_X9_raceIt_219   : ∀ (Nzz : Nat) (azz : Int32 × Int32 × Ob) (yzz : Int32 × Ob), lp_X9_raceIt_219  Nzz azz = some yzz → FrX d_X9_raceIt_me azz.2.2 yzz.2 := by
  intro Nzz
  induction Nzz with
  | zero => intro azz yzz hzz; cases hzz
  | succ Nzz ihzz => intro azz yzz hzz; exact fr_lb_X9_raceIt_219   ihzz hzz
set_option maxHeartbeats 200000 in
theorem fr_bk_X9_raceIt_216 {v2 : Int32} {o_me : Ob} {yzz : Int32 × Ob}  (hzz : bk_X9_raceIt_216 v2 o_me = some yzz) : FrX d_X9_raceIt_me o_me yzz.2 := by
  unfold bk_X9_raceIt_216 at hzz
  have wzz := fr_lp_X9_raceIt_219  _ _ _ hzz
  exact FrX.rf.tr wzz
set_option maxHeartbeats 200000 in
theorem fr_bk_X9_raceIt_169 {v2 : Int32} {v6 : Int32} {o_me : Ob} {yzz : Int32 × Ob}  (hzz : bk_X9_raceIt_169 v2 v6 o_me = some yzz) : FrX d_X9_raceIt_me o_me yzz.2 := by
  unfold bk_X9_raceIt_169 at hzz
  rcases z_if hzz with ⟨-, hzz⟩ | ⟨-, hzz⟩
  · have wzz := fr_bk_X9_raceIt_216  hzz
    exact FrX.rf.tr wzz
  · have hzz := (z_gd hzz).2
    obtain ⟨z14zz, ez14, hzz⟩ := z_bd hzz
    have hzz := (z_gd hzz).2
    obtain ⟨o16, eo16, hzz⟩ := z_lt hzz
    have k1zz : FrX d_X9_raceIt_me o_me o16 := by rw [eo16]; exact FrX.tA FrX.rf rfl
    have wzz := fr_bk_X9_raceIt_216  hzz
    exact k1zz.tr wzz
set_option maxHeartbeats 200000 in
theorem fr_bk_X9_raceIt_90 {v2 : Int32} {v3 : Int32} {v4zz : Int32} {v5 : Int32} {s0zz : Int32} {o_me : Ob} {yzz : Int32 × Ob}  (hzz : bk_X9_raceIt_90 v2 v3 v4zz v5 s0zz o_me = some yzz) : FrX d_X9_raceIt_me o_me yzz.2 := by
  unfold bk_X9_raceIt_90 at hzz
  have hzz := (z_gd hzz).2
  obtain ⟨z4, ez4, hzz⟩ := z_bd hzz
  have hzz := (z_gd hzz).2
  obtain ⟨o6, eo6, hzz⟩ := z_lt hzz
  have k1zz : FrX d_X9_raceIt_me o_me o6 := by rw [eo6]; exact FrX.tA FrX.rf rfl
  obtain ⟨z7, ez7, hzz⟩ := z_bd hzz
  obtain ⟨o8zz, eo8, hzz⟩ := z_lt hzz
  have k2zz : FrX d_X9_raceIt_me o_me o8zz := by rw [eo8]; exact FrX.tA k1zz rfl
  rcases z_if hzz with ⟨-, hzz⟩ | ⟨-, hzz⟩
  · have wzz := fr_bk_X9_raceIt_169  hzz
    exact k2zz.tr wzz
  · have hzz := (z_gd hzz).2
    obtain ⟨o18, eo18, hzz⟩ := z_lt hzz
    have k3zz : FrX d_X9_raceIt_me o_me o18 := by rw [eo18]; exact FrX.tA k2zz rfl
    have wzz := fr_bk_X9_raceIt_169  hzz
    exact k3zz.tr wzz
set_option maxHeartbeats 200000 in
theorem fr_bk_X9_raceIt_64 {v1zz : Int32} {v2 : Int32} {v3 : Int32} {v4zz : Int32} {s0zz : Int32} {o_me : Ob} {yzz : Int32 × Ob}  (hzz : bk_X9_raceIt_64 v1zz v2 v3 v4zz s0zz o_me = some yzz) : FrX d_X9_raceIt_me o_me yzz.2 := by
  unfold bk_X9_raceIt_64 at hzz
  rcases z_if hzz with ⟨-, hzz⟩ | ⟨-, hzz⟩
  · have wzz := fr_bk_X9_raceIt_90  hzz
    exact FrX.rf.tr wzz
  · obtain ⟨z19, ez19, hzz⟩ := z_bd hzz
    have k1zz : FrX d_X9_raceIt_me o_me z19.2 := FrX.rf.tr ((fr_f_X9_winsOf  ez19).mono rfl)
    have wzz := fr_bk_X9_raceIt_90  hzz
    exact k1zz.tr wzz
set_option maxHeartbeats 200000 in
theorem fr_bk_X9_raceIt_39 {v1zz : Int32} {v2 : Int32} {v3 : Int32} {s0zz : Int32} {o_me : Ob} {yzz : Int32 × Ob}  (hzz : bk_X9_raceIt_39 v1zz v2 v3 s0zz o_me = some yzz) : FrX d_X9_raceIt_me o_me yzz.2 := by
  unfold bk_X9_raceIt_39 at hzz
  rcases z_if hzz with ⟨-, hzz⟩ | ⟨-, hzz⟩
  · have wzz := fr_bk_X9_raceIt_64  hzz
    exact FrX.rf.tr wzz
  · obtain ⟨z20, ez20, hzz⟩ := z_bd hzz
    have k1zz : FrX d_X9_raceIt_me o_me z20.2 := FrX.rf.tr ((fr_f_X9_turnsOf  ez20).mono rfl)
    have wzz := fr_bk_X9_raceIt_64  hzz
    exact k1zz.tr wzz
set_option maxHeartbeats 200000 in
theorem fr_f_X9_raceIt {o_me : Ob} {p0zz : Int32} {yzz : Int32 × Ob}  (hzz : f_X9_raceIt o_me p0zz = some yzz) : FrX d_X9_raceIt_me o_me yzz.2 := by
  unfold f_X9_raceIt at hzz
  obtain ⟨x1zz, ex1, hzz⟩ := z_lt hzz
  obtain ⟨z2, ez2, hzz⟩ := z_bd hzz
  have k1zz : FrX d_X9_raceIt_me o_me z2.2 := FrX.rf.tr ((fr_f_X9_winsOf  ez2).mono rfl)
  rcases z_if hzz with ⟨-, hzz⟩ | ⟨-, hzz⟩
  · have wzz := fr_bk_X9_raceIt_39  hzz
    exact k1zz.tr wzz
  · obtain ⟨z21, ez21, hzz⟩ := z_bd hzz
    have k2zz : FrX d_X9_raceIt_me o_me z21.2 := k1zz.tr ((fr_f_X9_winsOf  ez21).mono rfl)
    have wzz := fr_bk_X9_raceIt_39  hzz
    exact k2zz.tr wzz
def d_X9_raceNow_me : DD := ([8, 34, 38, 43], [39, 40], [3, 6, 7, 41, 42], [35, 37], [])
set_option maxHeartbeats 200000 in
theorem fr_f_X9_raceNow {o_me : Ob} {p0zz : Int32} {yzz : Int32 × Ob}  (hzz : f_X9_raceNow o_me p0zz = some yzz) : FrX d_X9_raceNow_me o_me yzz.2 := by
  unfold f_X9_raceNow at hzz
  obtain ⟨z1, ez1, hzz⟩ := z_bd hzz
  rcases z_if hzz with ⟨-, hzz⟩ | ⟨-, hzz⟩
  · have hzz := Option.some.inj hzz
    subst hzz
    exact FrX.rf
  · obtain ⟨z2, ez2, hzz⟩ := z_bd hzz
    have k1zz : FrX d_X9_raceNow_me o_me z2 := FrX.rf.tr ((fr_f_X9_layPlaces  ez2).mono rfl)
    rcases z_if hzz with ⟨-, hzz⟩ | ⟨-, hzz⟩
    · have hzz := Option.some.inj hzz
      subst hzz
      exact k1zz
    · obtain ⟨z3, ez3, hzz⟩ := z_bd hzz
      have k2zz : FrX d_X9_raceNow_me o_me z3 := k1zz.tr ((fr_f_X9_remember  ez3).mono rfl)
      obtain ⟨z4, ez4, hzz⟩ := z_bd hzz
      have k3zz : FrX d_X9_raceNow_me o_me z4.2 := k2zz.tr ((fr_f_X9_raceIt  ez4).mono rfl)
      have hzz := Option.some.inj hzz
      subst hzz
      exact k3zz
def d_X9_enterNow_me : DD := ([8], [], [3, 6, 7], [], [])
set_option maxHeartbeats 200000 in
theorem fr_f_X9_enterNow {o_me : Ob} {p0zz : Int32} {yzz : Int32 × Ob}  (hzz : f_X9_enterNow o_me p0zz = some yzz) : FrX d_X9_enterNow_me o_me yzz.2 := by
  unfold f_X9_enterNow at hzz
  obtain ⟨z1, ez1, hzz⟩ := z_bd hzz
  rcases z_if hzz with ⟨-, hzz⟩ | ⟨-, hzz⟩
  · have hzz := Option.some.inj hzz
    subst hzz
    exact FrX.rf
  · obtain ⟨z2, ez2, hzz⟩ := z_bd hzz
    have k1zz : FrX d_X9_enterNow_me o_me z2 := FrX.rf.tr ((fr_f_X9_remember  ez2).mono rfl)
    have hzz := (z_gd hzz).2
    have hzz := (z_gd hzz).2
    obtain ⟨o5zz, eo5, hzz⟩ := z_lt hzz
    have k2zz : FrX d_X9_enterNow_me o_me o5zz := by rw [eo5]; exact FrX.tA k1zz rfl
    have hzz := (z_gd hzz).2
    have hzz := Option.some.inj hzz
    subst hzz
    exact k2zz
def d_X9_takeIt_me : DD := ([], [], [3], [], [])
set_option maxHeartbeats 200000 in
theorem fr_f_X9_takeIt {o_me : Ob} {p0zz : Int32} {yzz : Ob}  (hzz : f_X9_takeIt o_me p0zz = some yzz) : FrX d_X9_takeIt_me o_me yzz := by
  unfold f_X9_takeIt at hzz
  have hzz := (z_gd hzz).2
  obtain ⟨z2, ez2, hzz⟩ := z_bd hzz
  have hzz := (z_gd hzz).2
  obtain ⟨o4zz, eo4, hzz⟩ := z_lt hzz
  have k1zz : FrX d_X9_takeIt_me o_me o4zz := by rw [eo4]; exact FrX.tA FrX.rf rfl
  obtain ⟨o5zz, eo5, hzz⟩ := z_lt hzz
  have k2zz : FrX d_X9_takeIt_me o_me o5zz := by rw [eo5]; exact FrX.tA k1zz rfl
  have hzz := Option.some.inj hzz
  subst hzz
  exact k2zz
def d_X9_takeNow_me : DD := ([8], [], [3, 6, 7], [], [])
set_option maxHeartbeats 200000 in
theorem fr_f_X9_takeNow {o_me : Ob} {p0zz : Int32} {yzz : Int32 × Ob}  (hzz : f_X9_takeNow o_me p0zz = some yzz) : FrX d_X9_takeNow_me o_me yzz.2 := by
  unfold f_X9_takeNow at hzz
  obtain ⟨z1, ez1, hzz⟩ := z_bd hzz
  rcases z_if hzz with ⟨-, hzz⟩ | ⟨-, hzz⟩
  · have hzz := Option.some.inj hzz
    subst hzz
    exact FrX.rf
  · obtain ⟨x2zz, ex2zz, hzz⟩ := z_lt hzz
    rcases z_if hzz with ⟨-, hzz⟩ | ⟨-, hzz⟩
    · have hzz := Option.some.inj hzz
      subst hzz
      exact FrX.rf
    · obtain ⟨z3, ez3, hzz⟩ := z_bd hzz
      have k1zz : FrX d_X9_takeNow_me o_me z3 := FrX.rf.tr ((fr_f_X9_remember  ez3).mono rfl)
      obtain ⟨z4, ez4, hzz⟩ := z_bd hzz
      have k2zz : FrX d_X9_takeNow_me o_me z4 := k1zz.tr ((fr_f_X9_takeIt  ez4).mono rfl)
      have hzz := Option.some.inj hzz
      subst hzz
      exact k2zz
def d_X9_passIt_me : DD := ([34, 38], [39, 40], [3], [35, 37], [])
set_option maxHeartbeats 200000 in
theorem fr_bk_X9_passIt_40 {rec_4_0 : Int32 × Int32 × Ob → Option (Int32 × Ob)} {v1zz : Int32} {v2 : Int32} {o_me : Ob} {yzz : Int32 × Ob} (hrec_4_0 : ∀ (azz : Int32 × Int32 × Ob) (yzz : Int32 × Ob), rec_4_0 azz = some yzz → FrX d_X9_passIt_me azz.2.2 yzz.2) (hzz : bk_X9_passIt_40 rec_4_0 v1zz v2 o_me = some yzz) : FrX d_X9_passIt_me o_me yzz.2 := by
  unfold bk_X9_passIt_40 at hzz
  obtain ⟨x3, ex3zz, hzz⟩ := z_lt hzz
  have wzz := hrec_4_0 _ _ hzz
  exact FrX.rf.tr wzz
set_option maxHeartbeats 200000 in
theorem fr_lb_X9_passIt_4 {rec_4_0 : Int32 × Int32 × Ob → Option (Int32 × Ob)} {v1zz : Int32} {v2 : Int32} {o_me : Ob} {yzz : Int32 × Ob} (hrec_4_0 : ∀ (azz : Int32 × Int32 × Ob) (yzz : Int32 × Ob), rec_4_0 azz = some yzz → FrX d_X9_passIt_me azz.2.2 yzz.2) (hzz : lb_X9_passIt_4 rec_4_0 v1zz v2 o_me = some yzz) : FrX d_X9_passIt_me o_me yzz.2 := by
  unfold lb_X9_passIt_4 at hzz
  rcases z_if hzz with ⟨-, hzz⟩ | ⟨-, hzz⟩
  · obtain ⟨o1, eo1, hzz⟩ := z_lt hzz
    have k1zz : FrX d_X9_passIt_me o_me o1 := by rw [eo1]; exact FrX.tA FrX.rf rfl
    have hzz := Option.some.inj hzz
    subst hzz
    exact k1zz
  · obtain ⟨z2, ez2, hzz⟩ := z_bd hzz
    rcases z_if hzz with ⟨-, hzz⟩ | ⟨-, hzz⟩
    · have wzz := fr_bk_X9_passIt_40 hrec_4_0 hzz
      exact FrX.rf.tr wzz
    · obtain ⟨z4, ez4, hzz⟩ := z_bd hzz
      have k2zz : FrX d_X9_passIt_me o_me z4.2 := FrX.rf.tr ((fr_f_X9_turnsOf  ez4).mono rfl)
      have hzz := (z_gd hzz).2
      obtain ⟨o6, eo6, hzz⟩ := z_lt hzz
      have k3zz : FrX d_X9_passIt_me o_me o6 := by rw [eo6]; exact FrX.tA k2zz rfl
      obtain ⟨x7, ex7, hzz⟩ := z_lt hzz
      have wzz := fr_bk_X9_passIt_40 hrec_4_0 hzz
      exact k3zz.tr wzz
set_option maxHeartbeats 200000 in
theorem fr_lp_X9_passIt_4   : ∀ (Nzz : Nat) (azz : Int32 × Int32 × Ob) (yzz : Int32 × Ob), lp_X9_passIt_4  Nzz azz = some yzz → FrX d_X9_passIt_me azz.2.2 yzz.2 := by
  intro Nzz
  induction Nzz with
  | zero => intro azz yzz hzz; cases hzz
  | succ Nzz ihzz => intro azz yzz hzz; exact fr_lb_X9_passIt_4   ihzz hzz
set_option maxHeartbeats 200000 in
theorem fr_f_X9_passIt {o_me : Ob} {yzz : Int32 × Ob}  (hzz : f_X9_passIt o_me = some yzz) : FrX d_X9_passIt_me o_me yzz.2 := by
  unfold f_X9_passIt at hzz
  have wzz := fr_lp_X9_passIt_4  _ _ _ hzz
  exact FrX.rf.tr wzz
def d_X9_passNow_me : DD := ([8, 34, 38], [39, 40], [3, 6, 7], [35, 37], [])
set_option maxHeartbeats 200000 in
theorem fr_f_X9_passNow {o_me : Ob} {yzz : Int32 × Ob}  (hzz : f_X9_passNow o_me = some yzz) : FrX d_X9_passNow_me o_me yzz.2 := by
  unfold f_X9_passNow at hzz
  rcases z_if hzz with ⟨-, hzz⟩ | ⟨-, hzz⟩
  · have hzz := Option.some.inj hzz
    subst hzz
    exact FrX.rf
  · obtain ⟨z1, ez1, hzz⟩ := z_bd hzz
    have k1zz : FrX d_X9_passNow_me o_me z1 := FrX.rf.tr ((fr_f_X9_remember  ez1).mono rfl)
    obtain ⟨z2, ez2, hzz⟩ := z_bd hzz
    have k2zz : FrX d_X9_passNow_me o_me z2.2 := k1zz.tr ((fr_f_X9_passIt  ez2).mono rfl)
    have hzz := Option.some.inj hzz
    subst hzz
    exact k2zz
def d_X9_act_me : DD := ([8, 34, 38, 43], [39, 40], [3, 6, 7, 41, 42], [35, 37], [])
set_option maxHeartbeats 200000 in
theorem fr_f_X9_act {o_me : Ob} {p0zz : Int32} {p1zz : Int32} {yzz : Int32 × Ob}  (hzz : f_X9_act o_me p0zz p1zz = some yzz) : FrX d_X9_act_me o_me yzz.2 := by
  unfold f_X9_act at hzz
  rcases z_if hzz with ⟨-, hzz⟩ | ⟨-, hzz⟩
  · obtain ⟨z2, ez2, hzz⟩ := z_bd hzz
    have k1zz : FrX d_X9_act_me o_me z2.2 := FrX.rf.tr ((fr_f_X9_raceNow  ez2).mono rfl)
    have hzz := Option.some.inj hzz
    subst hzz
    exact k1zz
  · rcases z_if hzz with ⟨-, hzz⟩ | ⟨-, hzz⟩
    · obtain ⟨z3, ez3, hzz⟩ := z_bd hzz
      have k2zz : FrX d_X9_act_me o_me z3.2 := FrX.rf.tr ((fr_f_X9_enterNow  ez3).mono rfl)
      have hzz := Option.some.inj hzz
      subst hzz
      exact k2zz
    · rcases z_if hzz with ⟨-, hzz⟩ | ⟨-, hzz⟩
      · obtain ⟨z4, ez4, hzz⟩ := z_bd hzz
        have k3zz : FrX d_X9_act_me o_me z4.2 := FrX.rf.tr ((fr_f_X9_takeNow  ez4).mono rfl)
        have hzz := Option.some.inj hzz
        subst hzz
        exact k3zz
      · obtain ⟨z5, ez5, hzz⟩ := z_bd hzz
        have k4zz : FrX d_X9_act_me o_me z5.2 := FrX.rf.tr ((fr_f_X9_passNow  ez5).mono rfl)
        have hzz := Option.some.inj hzz
        subst hzz
        exact k4zz
def d_X9_tell_me : DD := ([1], [], [2], [], [])
set_option maxHeartbeats 200000 in
theorem fr_bk_X9_tell_10 {v1zz : Int32} {s0zz : Int32} {o_me : Ob} {yzz : Int32 × Ob}  (hzz : bk_X9_tell_10 v1zz s0zz o_me = some yzz) : FrX d_X9_tell_me o_me yzz.2 := by
  unfold bk_X9_tell_10 at hzz
  obtain ⟨o1, eo1, hzz⟩ := z_lt hzz
  have k1zz : FrX d_X9_tell_me o_me o1 := by rw [eo1]; exact FrX.sI FrX.rf rfl
  rcases z_if hzz with ⟨-, hzz⟩ | ⟨-, hzz⟩
  · have hzz := Option.some.inj hzz
    subst hzz
    exact k1zz
  · obtain ⟨x2zz, ex2zz, hzz⟩ := z_lt hzz
    have hzz := (z_gd hzz).2
    have hzz := (z_gd hzz).2
    obtain ⟨o5zz, eo5, hzz⟩ := z_lt hzz
    have k2zz : FrX d_X9_tell_me o_me o5zz := by rw [eo5]; exact FrX.tA k1zz rfl
    have hzz := Option.some.inj hzz
    subst hzz
    exact k2zz
set_option maxHeartbeats 200000 in
theorem fr_f_X9_tell {o_me : Ob} {p0zz : Int32} {yzz : Int32 × Ob}  (hzz : f_X9_tell o_me p0zz = some yzz) : FrX d_X9_tell_me o_me yzz.2 := by
  unfold f_X9_tell at hzz
  rcases z_if hzz with ⟨-, hzz⟩ | ⟨-, hzz⟩
  · have wzz := fr_bk_X9_tell_10  hzz
    exact FrX.rf.tr wzz
  · have wzz := fr_bk_X9_tell_10  hzz
    exact FrX.rf.tr wzz
def d_X9_settled_me : DD := ([1, 8], [], [2], [], [])
set_option maxHeartbeats 200000 in
theorem fr_bk_X9_settled_13 {v1zz : Int32} {s0zz : Int32} {o_me : Ob} {yzz : Int32 × Ob}  (hzz : bk_X9_settled_13 v1zz s0zz o_me = some yzz) : FrX d_X9_settled_me o_me yzz.2 := by
  unfold bk_X9_settled_13 at hzz
  obtain ⟨o1, eo1, hzz⟩ := z_lt hzz
  have k1zz : FrX d_X9_settled_me o_me o1 := by rw [eo1]; exact FrX.sI FrX.rf rfl
  obtain ⟨z2, ez2, hzz⟩ := z_bd hzz
  have k2zz : FrX d_X9_settled_me o_me z2.2 := k1zz.tr ((fr_f_X9_tell  ez2).mono rfl)
  have hzz := Option.some.inj hzz
  subst hzz
  exact k2zz
set_option maxHeartbeats 200000 in
theorem fr_f_X9_settled {o_me : Ob} {p0zz : Int32} {yzz : Int32 × Ob}  (hzz : f_X9_settled o_me p0zz = some yzz) : FrX d_X9_settled_me o_me yzz.2 := by
  unfold f_X9_settled at hzz
  rcases z_if hzz with ⟨-, hzz⟩ | ⟨-, hzz⟩
  · have wzz := fr_bk_X9_settled_13  hzz
    exact FrX.rf.tr wzz
  · have wzz := fr_bk_X9_settled_13  hzz
    exact FrX.rf.tr wzz
def d_X9_back_me : DD := ([0, 1, 8], [], [2, 3], [], [])
set_option maxHeartbeats 200000 in
theorem fr_lb_X9_back_39 {rec_39_0 : Int32 × Int32 × Ob → Option (Int32 × Ob)} {v1zz : Int32} {v2 : Int32} {o_me : Ob} {yzz : Int32 × Ob} (hrec_39_0 : ∀ (azz : Int32 × Int32 × Ob) (yzz : Int32 × Ob), rec_39_0 azz = some yzz → FrX d_X9_back_me azz.2.2 yzz.2) (hzz : lb_X9_back_39 rec_39_0 v1zz v2 o_me = some yzz) : FrX d_X9_back_me o_me yzz.2 := by
  unfold lb_X9_back_39 at hzz
  rcases z_if hzz with ⟨-, hzz⟩ | ⟨-, hzz⟩
  · obtain ⟨z4, ez4, hzz⟩ := z_bd hzz
    have k1zz : FrX d_X9_back_me o_me z4.2 := FrX.rf.tr ((fr_f_X9_settled  ez4).mono rfl)
    have hzz := Option.some.inj hzz
    subst hzz
    exact k1zz
  · have hzz := (z_gd hzz).2
    have hzz := (z_gd hzz).2
    obtain ⟨o7, eo7, hzz⟩ := z_lt hzz
    have k2zz : FrX d_X9_back_me o_me o7 := by rw [eo7]; exact FrX.tA FrX.rf rfl
    obtain ⟨x8, ex8, hzz⟩ := z_lt hzz
    have wzz := hrec_39_0 _ _ hzz
    exact k2zz.tr wzz
set_option maxHeartbeats 200000 in
theorem fr_lp_X9_back_39   : ∀ (Nzz : Nat) (azz : Int32 × Int32 × Ob) (yzz : Int32 × Ob), lp_X9_back_39  Nzz azz = some yzz → FrX d_X9_back_me azz.2.2 yzz.2 := by
  intro Nzz
  induction Nzz with
  | zero => intro azz yzz hzz; cases hzz
  | succ Nzz ihzz => intro azz yzz hzz; exact fr_lb_X9_back_39   ihzz hzz
set_option maxHeartbeats 200000 in
theorem fr_f_X9_back {o_me : Ob} {p0zz : Int32} {yzz : Int32 × Ob}  (hzz : f_X9_back o_me p0zz = some yzz) : FrX d_X9_back_me o_me yzz.2 := by
  unfold f_X9_back at hzz
  obtain ⟨o1, eo1, hzz⟩ := z_lt hzz
  have k1zz : FrX d_X9_back_me o_me o1 := by rw [eo1]; exact FrX.sI FrX.rf rfl
  obtain ⟨z2, ez2, hzz⟩ := z_bd hzz
  rcases z_if hzz with ⟨-, hzz⟩ | ⟨-, hzz⟩
  · obtain ⟨z10, ez10, hzz⟩ := z_bd hzz
    have k2zz : FrX d_X9_back_me o_me z10.2 := k1zz.tr ((fr_f_X9_tell  ez10).mono rfl)
    have hzz := Option.some.inj hzz
    subst hzz
    exact k2zz
  · have hzz := (z_gd hzz).2
    rcases z_if hzz with ⟨-, hzz⟩ | ⟨-, hzz⟩
    · obtain ⟨z9, ez9, hzz⟩ := z_bd hzz
      have k3zz : FrX d_X9_back_me o_me z9.2 := k1zz.tr ((fr_f_X9_tell  ez9).mono rfl)
      have hzz := Option.some.inj hzz
      subst hzz
      exact k3zz
    · have wzz := fr_lp_X9_back_39  _ _ _ hzz
      exact k1zz.tr wzz
def d_X9_layRuns_me : DD := ([34, 38], [39, 40], [41, 44], [35, 37], [])
set_option maxHeartbeats 200000 in
theorem fr_lb_X9_layRuns_2 {rec_2_0 : Int32 × Int32 × Ob → Option (Ob)} {v1zz : Int32} {v2 : Int32} {o_me : Ob} {yzz : Ob} (hrec_2_0 : ∀ (azz : Int32 × Int32 × Ob) (yzz : Ob), rec_2_0 azz = some yzz → FrX d_X9_layRuns_me azz.2.2 yzz) (hzz : lb_X9_layRuns_2 rec_2_0 v1zz v2 o_me = some yzz) : FrX d_X9_layRuns_me o_me yzz := by
  unfold lb_X9_layRuns_2 at hzz
  rcases z_if hzz with ⟨-, hzz⟩ | ⟨-, hzz⟩
  · have hzz := Option.some.inj hzz
    subst hzz
    exact FrX.rf
  · obtain ⟨z1, ez1, hzz⟩ := z_bd hzz
    have k1zz : FrX d_X9_layRuns_me o_me z1.2 := FrX.rf.tr ((fr_f_X9_runsOf  ez1).mono rfl)
    have hzz := (z_gd hzz).2
    obtain ⟨o3zz, eo3, hzz⟩ := z_lt hzz
    have k2zz : FrX d_X9_layRuns_me o_me o3zz := by rw [eo3]; exact FrX.tA k1zz rfl
    obtain ⟨z4, ez4, hzz⟩ := z_bd hzz
    have k3zz : FrX d_X9_layRuns_me o_me z4.2 := k2zz.tr ((fr_f_X9_isBarred  ez4).mono rfl)
    have hzz := (z_gd hzz).2
    obtain ⟨o6, eo6, hzz⟩ := z_lt hzz
    have k4zz : FrX d_X9_layRuns_me o_me o6 := by rw [eo6]; exact FrX.tA k3zz rfl
    obtain ⟨x7, ex7, hzz⟩ := z_lt hzz
    have wzz := hrec_2_0 _ _ hzz
    exact k4zz.tr wzz
set_option maxHeartbeats 200000 in
theorem fr_lp_X9_layRuns_2   : ∀ (Nzz : Nat) (azz : Int32 × Int32 × Ob) (yzz : Ob), lp_X9_layRuns_2  Nzz azz = some yzz → FrX d_X9_layRuns_me azz.2.2 yzz := by
  intro Nzz
  induction Nzz with
  | zero => intro azz yzz hzz; cases hzz
  | succ Nzz ihzz => intro azz yzz hzz; exact fr_lb_X9_layRuns_2   ihzz hzz
set_option maxHeartbeats 200000 in
theorem fr_f_X9_layRuns {o_me : Ob} {p0zz : Int32} {yzz : Ob}  (hzz : f_X9_layRuns o_me p0zz = some yzz) : FrX d_X9_layRuns_me o_me yzz := by
  unfold f_X9_layRuns at hzz
  have wzz := fr_lp_X9_layRuns_2  _ _ _ hzz
  exact FrX.rf.tr wzz
def d_X9_be_me : DD := ([0, 34, 38], [39, 40], [41, 44], [35, 37], [])
set_option maxHeartbeats 200000 in
theorem fr_bk_X9_be_178 {v7 : Int32} {o_me : Ob} {yzz : Int32 × Ob}  (hzz : bk_X9_be_178 v7 o_me = some yzz) : FrX d_X9_be_me o_me yzz.2 := by
  unfold bk_X9_be_178 at hzz
  have hzz := Option.some.inj hzz
  subst hzz
  exact FrX.rf
set_option maxHeartbeats 200000 in
theorem fr_bk_X9_be_158 {rec_76_0 : Int32 × Int32 × Int32 × Int32 × Int32 × Int32 × Int32 × Ob → Option (Int32 × Ob)} {v1zz : Int32} {v3 : Int32} {v4zz : Int32} {v5 : Int32} {v7 : Int32} {v8 : Int32} {s0zz : Int32} {o_me : Ob} {yzz : Int32 × Ob} (hrec_76_0 : ∀ (azz : Int32 × Int32 × Int32 × Int32 × Int32 × Int32 × Int32 × Ob) (yzz : Int32 × Ob), rec_76_0 azz = some yzz → FrX d_X9_be_me azz.2.2.2.2.2.2.2 yzz.2) (hzz : bk_X9_be_158 rec_76_0 v1zz v3 v4zz v5 v7 v8 s0zz o_me = some yzz) : FrX d_X9_be_me o_me yzz.2 := by
  unfold bk_X9_be_158 at hzz
  obtain ⟨x10, ex10, hzz⟩ := z_lt hzz
  have wzz := hrec_76_0 _ _ hzz
  exact FrX.rf.tr wzz
set_option maxHeartbeats 200000 in
theorem fr_bk_X9_be_141 {rec_76_0 : Int32 × Int32 × Int32 × Int32 × Int32 × Int32 × Int32 × Ob → Option (Int32 × Ob)} {v1zz : Int32} {v3 : Int32} {v4zz : Int32} {v5 : Int32} {v6 : Int32} {v8 : Int32} {v9 : Int32} {s0zz : Int32} {o_me : Ob} {yzz : Int32 × Ob} (hrec_76_0 : ∀ (azz : Int32 × Int32 × Int32 × Int32 × Int32 × Int32 × Int32 × Ob) (yzz : Int32 × Ob), rec_76_0 azz = some yzz → FrX d_X9_be_me azz.2.2.2.2.2.2.2 yzz.2) (hzz : bk_X9_be_141 rec_76_0 v1zz v3 v4zz v5 v6 v8 v9 s0zz o_me = some yzz) : FrX d_X9_be_me o_me yzz.2 := by
  unfold bk_X9_be_141 at hzz
  rcases z_if hzz with ⟨-, hzz⟩ | ⟨-, hzz⟩
  · have wzz := fr_bk_X9_be_158 hrec_76_0 hzz
    exact FrX.rf.tr wzz
  · obtain ⟨z11, ez11, hzz⟩ := z_bd hzz
    have wzz := fr_bk_X9_be_158 hrec_76_0 hzz
    exact FrX.rf.tr wzz
set_option maxHeartbeats 200000 in
theorem fr_bk_X9_be_127 {rec_76_0 : Int32 × Int32 × Int32 × Int32 × Int32 × Int32 × Int32 × Ob → Option (Int32 × Ob)} {v1zz : Int32} {v3 : Int32} {v4zz : Int32} {v5 : Int32} {v6 : Int32} {v7 : Int32} {v8 : Int32} {s0zz : Int32} {o_me : Ob} {yzz : Int32 × Ob} (hrec_76_0 : ∀ (azz : Int32 × Int32 × Int32 × Int32 × Int32 × Int32 × Int32 × Ob) (yzz : Int32 × Ob), rec_76_0 azz = some yzz → FrX d_X9_be_me azz.2.2.2.2.2.2.2 yzz.2) (hzz : bk_X9_be_127 rec_76_0 v1zz v3 v4zz v5 v6 v7 v8 s0zz o_me = some yzz) : FrX d_X9_be_me o_me yzz.2 := by
  unfold bk_X9_be_127 at hzz
  rcases z_if hzz with ⟨-, hzz⟩ | ⟨-, hzz⟩
  · have wzz := fr_bk_X9_be_141 hrec_76_0 hzz
    exact FrX.rf.tr wzz
  · have wzz := fr_bk_X9_be_141 hrec_76_0 hzz
    exact FrX.rf.tr wzz
set_option maxHeartbeats 200000 in
theorem fr_bk_X9_be_126 {rec_76_0 : Int32 × Int32 × Int32 × Int32 × Int32 × Int32 × Int32 × Ob → Option (Int32 × Ob)} {v1zz : Int32} {v3 : Int32} {v4zz : Int32} {v5 : Int32} {v6 : Int32} {v7 : Int32} {v8 : Int32} {o_me : Ob} {yzz : Int32 × Ob} (hrec_76_0 : ∀ (azz : Int32 × Int32 × Int32 × Int32 × Int32 × Int32 × Int32 × Ob) (yzz : Int32 × Ob), rec_76_0 azz = some yzz → FrX d_X9_be_me azz.2.2.2.2.2.2.2 yzz.2) (hzz : bk_X9_be_126 rec_76_0 v1zz v3 v4zz v5 v6 v7 v8 o_me = some yzz) : FrX d_X9_be_me o_me yzz.2 := by
  unfold bk_X9_be_126 at hzz
  have wzz := fr_bk_X9_be_127 hrec_76_0 hzz
  exact FrX.rf.tr wzz
set_option maxHeartbeats 200000 in
theorem fr_lb_X9_be_76 {rec_76_0 : Int32 × Int32 × Int32 × Int32 × Int32 × Int32 × Int32 × Ob → Option (Int32 × Ob)} {v1zz : Int32} {v3 : Int32} {v4zz : Int32} {v5 : Int32} {v6 : Int32} {v7 : Int32} {v8 : Int32} {o_me : Ob} {yzz : Int32 × Ob} (hrec_76_0 : ∀ (azz : Int32 × Int32 × Int32 × Int32 × Int32 × Int32 × Int32 × Ob) (yzz : Int32 × Ob), rec_76_0 azz = some yzz → FrX d_X9_be_me azz.2.2.2.2.2.2.2 yzz.2) (hzz : lb_X9_be_76 rec_76_0 v1zz v3 v4zz v5 v6 v7 v8 o_me = some yzz) : FrX d_X9_be_me o_me yzz.2 := by
  unfold lb_X9_be_76 at hzz
  rcases z_if hzz with ⟨-, hzz⟩ | ⟨-, hzz⟩
  · rcases z_if hzz with ⟨-, hzz⟩ | ⟨-, hzz⟩
    · have wzz := fr_bk_X9_be_178  hzz
      exact FrX.rf.tr wzz
    · rcases z_if hzz with ⟨-, hzz⟩ | ⟨-, hzz⟩
      · have wzz := fr_bk_X9_be_178  hzz
        exact FrX.rf.tr wzz
      · have hzz := Option.some.inj hzz
        subst hzz
        exact FrX.rf
  · obtain ⟨z9, ez9, hzz⟩ := z_bd hzz
    rcases z_if hzz with ⟨-, hzz⟩ | ⟨-, hzz⟩
    · obtain ⟨z12, ez12, hzz⟩ := z_bd hzz
      rcases z_if hzz with ⟨-, hzz⟩ | ⟨-, hzz⟩
      · have wzz := fr_bk_X9_be_126 hrec_76_0 hzz
        exact FrX.rf.tr wzz
      · obtain ⟨z13zz, ez13, hzz⟩ := z_bd hzz
        rcases z_if hzz with ⟨-, hzz⟩ | ⟨-, hzz⟩
        · have wzz := fr_bk_X9_be_127 hrec_76_0 hzz
          exact FrX.rf.tr wzz
        · have wzz := fr_bk_X9_be_126 hrec_76_0 hzz
          exact FrX.rf.tr wzz
    · have wzz := fr_bk_X9_be_126 hrec_76_0 hzz
      exact FrX.rf.tr wzz
set_option maxHeartbeats 200000 in
theorem fr_lp_X9_be_76   : ∀ (Nzz : Nat) (azz : Int32 × Int32 × Int32 × Int32 × Int32 × Int32 × Int32 × Ob) (yzz : Int32 × Ob), lp_X9_be_76  Nzz azz = some yzz → FrX d_X9_be_me azz.2.2.2.2.2.2.2 yzz.2 := by
  intro Nzz
  induction Nzz with
  | zero => intro azz yzz hzz; cases hzz
  | succ Nzz ihzz => intro azz yzz hzz; exact fr_lb_X9_be_76   ihzz hzz
set_option maxHeartbeats 200000 in
theorem fr_f_X9_be {o_me : Ob} {p0zz : Int32} {p1zz : Int32} {p2zz : Int32} {p3zz : Int32} {yzz : Int32 × Ob}  (hzz : f_X9_be o_me p0zz p1zz p2zz p3zz = some yzz) : FrX d_X9_be_me o_me yzz.2 := by
  unfold f_X9_be at hzz
  obtain ⟨o1, eo1, hzz⟩ := z_lt hzz
  have k1zz : FrX d_X9_be_me o_me o1 := by rw [eo1]; exact FrX.sI FrX.rf rfl
  obtain ⟨z2, ez2, hzz⟩ := z_bd hzz
  rcases z_if hzz with ⟨-, hzz⟩ | ⟨-, hzz⟩
  · have hzz := Option.some.inj hzz
    subst hzz
    exact k1zz
  · obtain ⟨z3, ez3, hzz⟩ := z_bd hzz
    rcases z_if hzz with ⟨-, hzz⟩ | ⟨-, hzz⟩
    · have hzz := Option.some.inj hzz
      subst hzz
      exact k1zz
    · obtain ⟨z4, ez4, hzz⟩ := z_bd hzz
      rcases z_if hzz with ⟨-, hzz⟩ | ⟨-, hzz⟩
      · have hzz := Option.some.inj hzz
        subst hzz
        exact k1zz
      · obtain ⟨z5, ez5, hzz⟩ := z_bd hzz
        rcases z_if hzz with ⟨-, hzz⟩ | ⟨-, hzz⟩
        · have hzz := Option.some.inj hzz
          subst hzz
          exact k1zz
        · obtain ⟨z6, ez6, hzz⟩ := z_bd hzz
          have k2zz : FrX d_X9_be_me o_me z6.2 := k1zz.tr ((fr_f_X9_isBarred  ez6).mono rfl)
          rcases z_if hzz with ⟨-, hzz⟩ | ⟨-, hzz⟩
          · obtain ⟨z7, ez7, hzz⟩ := z_bd hzz
            have k3zz : FrX d_X9_be_me o_me z7 := k2zz.tr ((fr_f_X9_layRuns  ez7).mono rfl)
            obtain ⟨z8, ez8, hzz⟩ := z_bd hzz
            have wzz := fr_lp_X9_be_76  _ _ _ hzz
            exact k3zz.tr wzz
          · have hzz := Option.some.inj hzz
            subst hzz
            exact k2zz
def d_X9_beats_me : DD := ([0, 1], [], [2, 3], [], [])
set_option maxHeartbeats 200000 in
theorem fr_bk_X9_beats_20 {o_me : Ob} {yzz : Int32 × Ob}  (hzz : bk_X9_beats_20 o_me = some yzz) : FrX d_X9_beats_me o_me yzz.2 := by
  unfold bk_X9_beats_20 at hzz
  obtain ⟨z2, ez2, hzz⟩ := z_bd hzz
  have k1zz : FrX d_X9_beats_me o_me z2.2 := FrX.rf.tr ((fr_f_X9_tell  ez2).mono rfl)
  have hzz := Option.some.inj hzz
  subst hzz
  exact k1zz
set_option maxHeartbeats 200000 in
theorem fr_bk_X9_beats_42 {o_me : Ob} {yzz : Int32 × Ob}  (hzz : bk_X9_beats_42 o_me = some yzz) : FrX d_X9_beats_me o_me yzz.2 := by
  unfold bk_X9_beats_42 at hzz
  obtain ⟨z5, ez5, hzz⟩ := z_bd hzz
  have k1zz : FrX d_X9_beats_me o_me z5.2 := FrX.rf.tr ((fr_f_X9_tell  ez5).mono rfl)
  have hzz := Option.some.inj hzz
  subst hzz
  exact k1zz
set_option maxHeartbeats 200000 in
theorem fr_bk_X9_beats_87 {v4zz : Int32} {s0zz : Int32} {s1zz : Int32} {s2zz : Int32} {o_me : Ob} {yzz : Int32 × Ob}  (hzz : bk_X9_beats_87 v4zz s0zz s1zz s2zz o_me = some yzz) : FrX d_X9_beats_me o_me yzz.2 := by
  unfold bk_X9_beats_87 at hzz
  have hzz := (z_gd hzz).2
  obtain ⟨o12, eo12, hzz⟩ := z_lt hzz
  have k1zz : FrX d_X9_beats_me o_me o12 := by rw [eo12]; exact FrX.tA FrX.rf rfl
  obtain ⟨z13zz, ez13, hzz⟩ := z_bd hzz
  have k2zz : FrX d_X9_beats_me o_me z13zz.2 := k1zz.tr ((fr_f_X9_tell  ez13).mono rfl)
  have hzz := Option.some.inj hzz
  subst hzz
  exact k2zz
set_option maxHeartbeats 200000 in
theorem fr_f_X9_beats {o_me : Ob} {p0zz : Int32} {p1zz : Int32} {p2zz : Int32} {yzz : Int32 × Ob}  (hzz : f_X9_beats o_me p0zz p1zz p2zz = some yzz) : FrX d_X9_beats_me o_me yzz.2 := by
  unfold f_X9_beats at hzz
  obtain ⟨o1, eo1, hzz⟩ := z_lt hzz
  have k1zz : FrX d_X9_beats_me o_me o1 := by rw [eo1]; exact FrX.sI FrX.rf rfl
  rcases z_if hzz with ⟨-, hzz⟩ | ⟨-, hzz⟩
  · have wzz := fr_bk_X9_beats_20  hzz
    exact k1zz.tr wzz
  · obtain ⟨z3, ez3, hzz⟩ := z_bd hzz
    rcases z_if hzz with ⟨-, hzz⟩ | ⟨-, hzz⟩
    · have wzz := fr_bk_X9_beats_20  hzz
      exact k1zz.tr wzz
    · obtain ⟨z4, ez4, hzz⟩ := z_bd hzz
      rcases z_if hzz with ⟨-, hzz⟩ | ⟨-, hzz⟩
      · have wzz := fr_bk_X9_beats_42  hzz
        exact k1zz.tr wzz
      · obtain ⟨z6, ez6, hzz⟩ := z_bd hzz
        rcases z_if hzz with ⟨-, hzz⟩ | ⟨-, hzz⟩
        · have wzz := fr_bk_X9_beats_42  hzz
          exact k1zz.tr wzz
        · have hzz := (z_gd hzz).2
          obtain ⟨x8, ex8, hzz⟩ := z_lt hzz
          obtain ⟨x9, ex9, hzz⟩ := z_lt hzz
          have hzz := (z_gd hzz).2
          rcases z_if hzz with ⟨-, hzz⟩ | ⟨-, hzz⟩
          · have wzz := fr_bk_X9_beats_87  hzz
            exact k1zz.tr wzz
          · have wzz := fr_bk_X9_beats_87  hzz
            exact k1zz.tr wzz
def d_X9_next_me : DD := ([14, 15, 16], [17], [], [], [])
set_option maxHeartbeats 200000 in
theorem fr_bk_X9_next_319 {rec_243_4 : Ob → Option (Ob)} {s0zz : Int64} {o_me : Ob} {yzz : Ob} (hrec_243_4 : ∀ (azz : Ob) (yzz : Ob), rec_243_4 azz = some yzz → FrX d_X9_next_me azz yzz) (hzz : bk_X9_next_319 rec_243_4 s0zz o_me = some yzz) : FrX d_X9_next_me o_me yzz := by
  unfold bk_X9_next_319 at hzz
  obtain ⟨o12, eo12, hzz⟩ := z_lt hzz
  have k1zz : FrX d_X9_next_me o_me o12 := by rw [eo12]; exact FrX.sL FrX.rf rfl
  obtain ⟨o13, eo13, hzz⟩ := z_lt hzz
  have k2zz : FrX d_X9_next_me o_me o13 := by rw [eo13]; exact FrX.sI k1zz rfl
  have wzz := hrec_243_4 _ _ hzz
  exact k2zz.tr wzz
set_option maxHeartbeats 200000 in
theorem fr_lb_X9_next_243 {rec_243_4 : Ob → Option (Ob)} {o_me : Ob} {yzz : Ob} (hrec_243_4 : ∀ (azz : Ob) (yzz : Ob), rec_243_4 azz = some yzz → FrX d_X9_next_me azz yzz) (hzz : lb_X9_next_243 rec_243_4 o_me = some yzz) : FrX d_X9_next_me o_me yzz := by
  unfold lb_X9_next_243 at hzz
  rcases z_if hzz with ⟨-, hzz⟩ | ⟨-, hzz⟩
  · rcases z_if hzz with ⟨-, hzz⟩ | ⟨-, hzz⟩
    · have hzz := Option.some.inj hzz
      subst hzz
      exact FrX.rf
    · have hzz := (z_gd hzz).2
      obtain ⟨z10, ez10, hzz⟩ := z_bd hzz
      rcases z_if hzz with ⟨-, hzz⟩ | ⟨-, hzz⟩
      · have hzz := Option.some.inj hzz
        subst hzz
        exact FrX.rf
      · rcases z_if hzz with ⟨-, hzz⟩ | ⟨-, hzz⟩
        · have hzz := (z_gd hzz).2
          have wzz := fr_bk_X9_next_319 hrec_243_4 hzz
          exact FrX.rf.tr wzz
        · have wzz := fr_bk_X9_next_319 hrec_243_4 hzz
          exact FrX.rf.tr wzz
  · have hzz := Option.some.inj hzz
    subst hzz
    exact FrX.rf
set_option maxHeartbeats 200000 in
theorem fr_lp_X9_next_243   : ∀ (Nzz : Nat) (azz : Ob) (yzz : Ob), lp_X9_next_243  Nzz azz = some yzz → FrX d_X9_next_me azz yzz := by
  intro Nzz
  induction Nzz with
  | zero => intro azz yzz hzz; cases hzz
  | succ Nzz ihzz => intro azz yzz hzz; exact fr_lb_X9_next_243   ihzz hzz
set_option maxHeartbeats 200000 in
theorem fr_bk_X9_next_227 {rec_149_3 : Ob → Option (Ob)} {s0zz : Int64} {o_me : Ob} {yzz : Ob} (hrec_149_3 : ∀ (azz : Ob) (yzz : Ob), rec_149_3 azz = some yzz → FrX d_X9_next_me azz yzz) (hzz : bk_X9_next_227 rec_149_3 s0zz o_me = some yzz) : FrX d_X9_next_me o_me yzz := by
  unfold bk_X9_next_227 at hzz
  obtain ⟨o16, eo16, hzz⟩ := z_lt hzz
  have k1zz : FrX d_X9_next_me o_me o16 := by rw [eo16]; exact FrX.sL FrX.rf rfl
  obtain ⟨o17, eo17, hzz⟩ := z_lt hzz
  have k2zz : FrX d_X9_next_me o_me o17 := by rw [eo17]; exact FrX.sI k1zz rfl
  have wzz := hrec_149_3 _ _ hzz
  exact k2zz.tr wzz
set_option maxHeartbeats 200000 in
theorem fr_lb_X9_next_149 {rec_149_3 : Ob → Option (Ob)} {o_me : Ob} {yzz : Ob} (hrec_149_3 : ∀ (azz : Ob) (yzz : Ob), rec_149_3 azz = some yzz → FrX d_X9_next_me azz yzz) (hzz : lb_X9_next_149 rec_149_3 o_me = some yzz) : FrX d_X9_next_me o_me yzz := by
  unfold lb_X9_next_149 at hzz
  rcases z_if hzz with ⟨-, hzz⟩ | ⟨-, hzz⟩
  · rcases z_if hzz with ⟨-, hzz⟩ | ⟨-, hzz⟩
    · have wzz := fr_lp_X9_next_243  _ _ _ hzz
      exact FrX.rf.tr wzz
    · have hzz := (z_gd hzz).2
      obtain ⟨z15, ez15, hzz⟩ := z_bd hzz
      rcases z_if hzz with ⟨-, hzz⟩ | ⟨-, hzz⟩
      · have wzz := fr_lp_X9_next_243  _ _ _ hzz
        exact FrX.rf.tr wzz
      · rcases z_if hzz with ⟨-, hzz⟩ | ⟨-, hzz⟩
        · have wzz := fr_bk_X9_next_227 hrec_149_3 hzz
          exact FrX.rf.tr wzz
        · have hzz := (z_gd hzz).2
          have wzz := fr_bk_X9_next_227 hrec_149_3 hzz
          exact FrX.rf.tr wzz
  · have wzz := fr_lp_X9_next_243  _ _ _ hzz
    exact FrX.rf.tr wzz
set_option maxHeartbeats 200000 in
theorem fr_lp_X9_next_149   : ∀ (Nzz : Nat) (azz : Ob) (yzz : Ob), lp_X9_next_149  Nzz azz = some yzz → FrX d_X9_next_me azz yzz := by
  intro Nzz
  induction Nzz with
  | zero => intro azz yzz hzz; cases hzz
  | succ Nzz ihzz => intro azz yzz hzz; exact fr_lb_X9_next_149   ihzz hzz
set_option maxHeartbeats 200000 in
theorem fr_bk_X9_next_114 {s0zz : Int32} {o_me : Ob} {yzz : Ob}  (hzz : bk_X9_next_114 s0zz o_me = some yzz) : FrX d_X9_next_me o_me yzz := by
  unfold bk_X9_next_114 at hzz
  obtain ⟨o8zz, eo8, hzz⟩ := z_lt hzz
  have k1zz : FrX d_X9_next_me o_me o8zz := by rw [eo8]; exact FrX.sI FrX.rf rfl
  rcases z_if hzz with ⟨-, hzz⟩ | ⟨-, hzz⟩
  · have hzz := (z_gd hzz).2
    obtain ⟨o20, eo20, hzz⟩ := z_lt hzz
    have k2zz : FrX d_X9_next_me o_me o20 := by rw [eo20]; exact FrX.sL k1zz rfl
    obtain ⟨o21, eo21, hzz⟩ := z_lt hzz
    have k3zz : FrX d_X9_next_me o_me o21 := by rw [eo21]; exact FrX.sI k2zz rfl
    have wzz := fr_lp_X9_next_149  _ _ _ hzz
    exact k3zz.tr wzz
  · have wzz := fr_lp_X9_next_149  _ _ _ hzz
    exact k1zz.tr wzz
set_option maxHeartbeats 200000 in
theorem fr_bk_X9_next_46 {o_me : Ob} {yzz : Ob}  (hzz : bk_X9_next_46 o_me = some yzz) : FrX d_X9_next_me o_me yzz := by
  unfold bk_X9_next_46 at hzz
  obtain ⟨o2, eo2, hzz⟩ := z_lt hzz
  have k1zz : FrX d_X9_next_me o_me o2 := by rw [eo2]; exact FrX.sI FrX.rf rfl
  obtain ⟨o3zz, eo3, hzz⟩ := z_lt hzz
  have k2zz : FrX d_X9_next_me o_me o3zz := by rw [eo3]; exact FrX.sL k1zz rfl
  rcases z_if hzz with ⟨-, hzz⟩ | ⟨-, hzz⟩
  · have wzz := fr_bk_X9_next_114  hzz
    exact k2zz.tr wzz
  · have hzz := (z_gd hzz).2
    obtain ⟨z5, ez5, hzz⟩ := z_bd hzz
    rcases z_if hzz with ⟨-, hzz⟩ | ⟨-, hzz⟩
    · have hzz := (z_gd hzz).2
      obtain ⟨z7, ez7, hzz⟩ := z_bd hzz
      rcases z_if hzz with ⟨-, hzz⟩ | ⟨-, hzz⟩
      · have wzz := fr_bk_X9_next_114  hzz
        exact k2zz.tr wzz
      · have wzz := fr_bk_X9_next_114  hzz
        exact k2zz.tr wzz
    · have wzz := fr_bk_X9_next_114  hzz
      exact k2zz.tr wzz
set_option maxHeartbeats 200000 in
theorem fr_lb_X9_next_8 {rec_8_0 : Ob → Option (Ob)} {o_me : Ob} {yzz : Ob} (hrec_8_0 : ∀ (azz : Ob) (yzz : Ob), rec_8_0 azz = some yzz → FrX d_X9_next_me azz yzz) (hzz : lb_X9_next_8 rec_8_0 o_me = some yzz) : FrX d_X9_next_me o_me yzz := by
  unfold lb_X9_next_8 at hzz
  rcases z_if hzz with ⟨-, hzz⟩ | ⟨-, hzz⟩
  · have wzz := fr_bk_X9_next_46  hzz
    exact FrX.rf.tr wzz
  · have hzz := (z_gd hzz).2
    rcases z_if hzz with ⟨-, hzz⟩ | ⟨-, hzz⟩
    · obtain ⟨o23, eo23, hzz⟩ := z_lt hzz
      have k1zz : FrX d_X9_next_me o_me o23 := by rw [eo23]; exact FrX.sI FrX.rf rfl
      have wzz := hrec_8_0 _ _ hzz
      exact k1zz.tr wzz
    · have wzz := fr_bk_X9_next_46  hzz
      exact FrX.rf.tr wzz
set_option maxHeartbeats 200000 in
theorem fr_lp_X9_next_8   : ∀ (Nzz : Nat) (azz : Ob) (yzz : Ob), lp_X9_next_8  Nzz azz = some yzz → FrX d_X9_next_me azz yzz := by
  intro Nzz
  induction Nzz with
  | zero => intro azz yzz hzz; cases hzz
  | succ Nzz ihzz => intro azz yzz hzz; exact fr_lb_X9_next_8   ihzz hzz
set_option maxHeartbeats 200000 in
theorem fr_f_X9_next {o_me : Ob} {yzz : Ob}  (hzz : f_X9_next o_me = some yzz) : FrX d_X9_next_me o_me yzz := by
  unfold f_X9_next at hzz
  obtain ⟨o1, eo1, hzz⟩ := z_lt hzz
  have k1zz : FrX d_X9_next_me o_me o1 := by rw [eo1]; exact FrX.sI FrX.rf rfl
  have wzz := fr_lp_X9_next_8  _ _ _ hzz
  exact k1zz.tr wzz
def d_X9_begin_me : DD := ([14, 15, 16, 18, 19], [17], [], [], [])
set_option maxHeartbeats 200000 in
theorem fr_f_X9_begin {o_me : Ob} {yzz : Ob}  (hzz : f_X9_begin o_me = some yzz) : FrX d_X9_begin_me o_me yzz := by
  unfold f_X9_begin at hzz
  obtain ⟨o1, eo1, hzz⟩ := z_lt hzz
  have k1zz : FrX d_X9_begin_me o_me o1 := by rw [eo1]; exact FrX.sI FrX.rf rfl
  obtain ⟨o2, eo2, hzz⟩ := z_lt hzz
  have k2zz : FrX d_X9_begin_me o_me o2 := by rw [eo2]; exact FrX.sI k1zz rfl
  obtain ⟨o3zz, eo3, hzz⟩ := z_lt hzz
  have k3zz : FrX d_X9_begin_me o_me o3zz := by rw [eo3]; exact FrX.sI k2zz rfl
  obtain ⟨z4, ez4, hzz⟩ := z_bd hzz
  have k4zz : FrX d_X9_begin_me o_me z4 := k3zz.tr ((fr_f_X9_next  ez4).mono rfl)
  have hzz := Option.some.inj hzz
  subst hzz
  exact k4zz
def d_X9_beginText_me : DD := ([14, 15, 16, 18, 19, 20, 21, 23, 26], [17], [], [], [])
set_option maxHeartbeats 200000 in
theorem fr_f_X9_beginText {o_me : Ob} {p0zz : Int32} {yzz : Ob}  (hzz : f_X9_beginText o_me p0zz = some yzz) : FrX d_X9_beginText_me o_me yzz := by
  unfold f_X9_beginText at hzz
  have hzz := (z_gd hzz).2
  obtain ⟨o2, eo2, hzz⟩ := z_lt hzz
  have k1zz : FrX d_X9_beginText_me o_me o2 := by rw [eo2]; exact FrX.sI FrX.rf rfl
  obtain ⟨z3, ez3, hzz⟩ := z_bd hzz
  have k2zz : FrX d_X9_beginText_me o_me z3 := k1zz.tr ((fr_f_X9_begin  ez3).mono rfl)
  obtain ⟨o4zz, eo4, hzz⟩ := z_lt hzz
  have k3zz : FrX d_X9_beginText_me o_me o4zz := by rw [eo4]; exact FrX.sI k2zz rfl
  obtain ⟨o5zz, eo5, hzz⟩ := z_lt hzz
  have k4zz : FrX d_X9_beginText_me o_me o5zz := by rw [eo5]; exact FrX.sI k3zz rfl
  obtain ⟨o6, eo6, hzz⟩ := z_lt hzz
  have k5zz : FrX d_X9_beginText_me o_me o6 := by rw [eo6]; exact FrX.sI k4zz rfl
  have hzz := Option.some.inj hzz
  subst hzz
  exact k5zz
def d_X9_must_me : DD := ([14, 15, 16, 18, 19], [17], [], [], [])
set_option maxHeartbeats 200000 in
theorem fr_bk_X9_must_24 {o_me : Ob} {yzz : Ob}  (hzz : bk_X9_must_24 o_me = some yzz) : FrX d_X9_must_me o_me yzz := by
  unfold bk_X9_must_24 at hzz
  rcases z_if hzz with ⟨-, hzz⟩ | ⟨-, hzz⟩
  · obtain ⟨z1, ez1, hzz⟩ := z_bd hzz
    have k1zz : FrX d_X9_must_me o_me z1 := FrX.rf.tr ((fr_f_X9_next  ez1).mono rfl)
    have hzz := Option.some.inj hzz
    subst hzz
    exact k1zz
  · have hzz := Option.some.inj hzz
    subst hzz
    exact FrX.rf
set_option maxHeartbeats 200000 in
theorem fr_f_X9_must {o_me : Ob} {p0zz : Int32} {yzz : Ob}  (hzz : f_X9_must o_me p0zz = some yzz) : FrX d_X9_must_me o_me yzz := by
  unfold f_X9_must at hzz
  rcases z_if hzz with ⟨-, hzz⟩ | ⟨-, hzz⟩
  · rcases z_if hzz with ⟨-, hzz⟩ | ⟨-, hzz⟩
    · obtain ⟨o2, eo2, hzz⟩ := z_lt hzz
      have k1zz : FrX d_X9_must_me o_me o2 := by rw [eo2]; exact FrX.sI FrX.rf rfl
      obtain ⟨o3zz, eo3, hzz⟩ := z_lt hzz
      have k2zz : FrX d_X9_must_me o_me o3zz := by rw [eo3]; exact FrX.sI k1zz rfl
      have wzz := fr_bk_X9_must_24  hzz
      exact k2zz.tr wzz
    · have wzz := fr_bk_X9_must_24  hzz
      exact FrX.rf.tr wzz
  · have wzz := fr_bk_X9_must_24  hzz
    exact FrX.rf.tr wzz
def d_X9_emit_me : DD := ([23], [], [24, 25], [], [])
set_option maxHeartbeats 200000 in
theorem fr_f_X9_emit {o_me : Ob} {p0zz : Int32} {p1zz : Int32} {yzz : Ob}  (hzz : f_X9_emit o_me p0zz p1zz = some yzz) : FrX d_X9_emit_me o_me yzz := by
  unfold f_X9_emit at hzz
  have hzz := (z_gd hzz).2
  obtain ⟨o2, eo2, hzz⟩ := z_lt hzz
  have k1zz : FrX d_X9_emit_me o_me o2 := by rw [eo2]; exact FrX.tA FrX.rf rfl
  have hzz := (z_gd hzz).2
  obtain ⟨o4zz, eo4, hzz⟩ := z_lt hzz
  have k2zz : FrX d_X9_emit_me o_me o4zz := by rw [eo4]; exact FrX.tA k1zz rfl
  obtain ⟨o5zz, eo5, hzz⟩ := z_lt hzz
  have k3zz : FrX d_X9_emit_me o_me o5zz := by rw [eo5]; exact FrX.sI k2zz rfl
  have hzz := Option.some.inj hzz
  subst hzz
  exact k3zz
def d_X9_settle_me : DD := ([23, 29], [], [24, 25], [], [])
set_option maxHeartbeats 200000 in
theorem fr_bk_X9_settle_63 {rec_0_0 : Int32 × Ob → Option (Ob)} {v1zz : Int32} {o_me : Ob} {yzz : Ob} (hrec_0_0 : ∀ (azz : Int32 × Ob) (yzz : Ob), rec_0_0 azz = some yzz → FrX d_X9_settle_me azz.2 yzz) (hzz : bk_X9_settle_63 rec_0_0 v1zz o_me = some yzz) : FrX d_X9_settle_me o_me yzz := by
  unfold bk_X9_settle_63 at hzz
  have hzz := (z_gd hzz).2
  have hzz := (z_gd hzz).2
  obtain ⟨o7, eo7, hzz⟩ := z_lt hzz
  have k1zz : FrX d_X9_settle_me o_me o7 := by rw [eo7]; exact FrX.tA FrX.rf rfl
  have wzz := hrec_0_0 _ _ hzz
  exact k1zz.tr wzz
set_option maxHeartbeats 200000 in
theorem fr_lb_X9_settle_0 {rec_0_0 : Int32 × Ob → Option (Ob)} {v1zz : Int32} {o_me : Ob} {yzz : Ob} (hrec_0_0 : ∀ (azz : Int32 × Ob) (yzz : Ob), rec_0_0 azz = some yzz → FrX d_X9_settle_me azz.2 yzz) (hzz : lb_X9_settle_0 rec_0_0 v1zz o_me = some yzz) : FrX d_X9_settle_me o_me yzz := by
  unfold lb_X9_settle_0 at hzz
  rcases z_if hzz with ⟨-, hzz⟩ | ⟨-, hzz⟩
  · have hzz := Option.some.inj hzz
    subst hzz
    exact FrX.rf
  · have hzz := (z_gd hzz).2
    obtain ⟨z2, ez2, hzz⟩ := z_bd hzz
    rcases z_if hzz with ⟨-, hzz⟩ | ⟨-, hzz⟩
    · have hzz := Option.some.inj hzz
      subst hzz
      exact FrX.rf
    · obtain ⟨o3zz, eo3, hzz⟩ := z_lt hzz
      have k1zz : FrX d_X9_settle_me o_me o3zz := by rw [eo3]; exact FrX.sI FrX.rf rfl
      have hzz := (z_gd hzz).2
      rcases z_if hzz with ⟨-, hzz⟩ | ⟨-, hzz⟩
      · have wzz := fr_bk_X9_settle_63 hrec_0_0 hzz
        exact k1zz.tr wzz
      · have hzz := (z_gd hzz).2
        rcases z_if hzz with ⟨-, hzz⟩ | ⟨-, hzz⟩
        · have wzz := fr_bk_X9_settle_63 hrec_0_0 hzz
          exact k1zz.tr wzz
        · have hzz := (z_gd hzz).2
          obtain ⟨z10, ez10, hzz⟩ := z_bd hzz
          have k2zz : FrX d_X9_settle_me o_me z10 := k1zz.tr ((fr_f_X9_emit  ez10).mono rfl)
          have wzz := hrec_0_0 _ _ hzz
          exact k2zz.tr wzz
set_option maxHeartbeats 200000 in
theorem fr_lp_X9_settle_0   : ∀ (Nzz : Nat) (azz : Int32 × Ob) (yzz : Ob), lp_X9_settle_0  Nzz azz = some yzz → FrX d_X9_settle_me azz.2 yzz := by
  intro Nzz
  induction Nzz with
  | zero => intro azz yzz hzz; cases hzz
  | succ Nzz ihzz => intro azz yzz hzz; exact fr_lb_X9_settle_0   ihzz hzz
set_option maxHeartbeats 200000 in
theorem fr_f_X9_settle {o_me : Ob} {p0zz : Int32} {yzz : Ob}  (hzz : f_X9_settle o_me p0zz = some yzz) : FrX d_X9_settle_me o_me yzz := by
  unfold f_X9_settle at hzz
  have wzz := fr_lp_X9_settle_0  _ _ _ hzz
  exact FrX.rf.tr wzz
def d_X9_push_me : DD := ([29], [], [27, 28], [], [])
set_option maxHeartbeats 200000 in
theorem fr_f_X9_push {o_me : Ob} {p0zz : Int32} {p1zz : Int32} {yzz : Ob}  (hzz : f_X9_push o_me p0zz p1zz = some yzz) : FrX d_X9_push_me o_me yzz := by
  unfold f_X9_push at hzz
  have hzz := (z_gd hzz).2
  obtain ⟨o2, eo2, hzz⟩ := z_lt hzz
  have k1zz : FrX d_X9_push_me o_me o2 := by rw [eo2]; exact FrX.tA FrX.rf rfl
  have hzz := (z_gd hzz).2
  obtain ⟨o4zz, eo4, hzz⟩ := z_lt hzz
  have k2zz : FrX d_X9_push_me o_me o4zz := by rw [eo4]; exact FrX.tA k1zz rfl
  obtain ⟨o5zz, eo5, hzz⟩ := z_lt hzz
  have k3zz : FrX d_X9_push_me o_me o5zz := by rw [eo5]; exact FrX.sI k2zz rfl
  have hzz := Option.some.inj hzz
  subst hzz
  exact k3zz
def d_X9_behindSum_me : DD := ([14, 15, 16, 18, 19, 23, 29, 30], [17], [24, 25, 27, 28], [], [])
set_option maxHeartbeats 200000 in
theorem fr_bk_X9_behindSum_224 {v2 : Int32} {s0zz : Int32} {o_me : Ob} {yzz : Int32 × Ob}  (hzz : bk_X9_behindSum_224 v2 s0zz o_me = some yzz) : FrX d_X9_behindSum_me o_me yzz.2 := by
  unfold bk_X9_behindSum_224 at hzz
  obtain ⟨z10, ez10, hzz⟩ := z_bd hzz
  have k1zz : FrX d_X9_behindSum_me o_me z10 := FrX.rf.tr ((fr_f_X9_must  ez10).mono rfl)
  rcases z_if hzz with ⟨-, hzz⟩ | ⟨-, hzz⟩
  · obtain ⟨z11, ez11, hzz⟩ := z_bd hzz
    have k2zz : FrX d_X9_behindSum_me o_me z11 := k1zz.tr ((fr_f_X9_settle  ez11).mono rfl)
    obtain ⟨z12, ez12, hzz⟩ := z_bd hzz
    have k3zz : FrX d_X9_behindSum_me o_me z12 := k2zz.tr ((fr_f_X9_push  ez12).mono rfl)
    have hzz := Option.some.inj hzz
    subst hzz
    exact k3zz
  · have hzz := Option.some.inj hzz
    subst hzz
    exact k1zz
set_option maxHeartbeats 200000 in
theorem fr_bk_X9_behindSum_219 {v2 : Int32} {o_me : Ob} {yzz : Int32 × Ob}  (hzz : bk_X9_behindSum_219 v2 o_me = some yzz) : FrX d_X9_behindSum_me o_me yzz.2 := by
  unfold bk_X9_behindSum_219 at hzz
  have wzz := fr_bk_X9_behindSum_224  hzz
  exact FrX.rf.tr wzz
set_option maxHeartbeats 200000 in
theorem fr_bk_X9_behindSum_202 {s0zz : Int32} {o_me : Ob} {yzz : Int32 × Ob}  (hzz : bk_X9_behindSum_202 s0zz o_me = some yzz) : FrX d_X9_behindSum_me o_me yzz.2 := by
  unfold bk_X9_behindSum_202 at hzz
  rcases z_if hzz with ⟨-, hzz⟩ | ⟨-, hzz⟩
  · obtain ⟨z13zz, ez13, hzz⟩ := z_bd hzz
    rcases z_if hzz with ⟨-, hzz⟩ | ⟨-, hzz⟩
    · have wzz := fr_bk_X9_behindSum_224  hzz
      exact FrX.rf.tr wzz
    · have wzz := fr_bk_X9_behindSum_219  hzz
      exact FrX.rf.tr wzz
  · have wzz := fr_bk_X9_behindSum_219  hzz
    exact FrX.rf.tr wzz
set_option maxHeartbeats 200000 in
theorem fr_bk_X9_behindSum_163 {o_me : Ob} {yzz : Int32 × Ob}  (hzz : bk_X9_behindSum_163 o_me = some yzz) : FrX d_X9_behindSum_me o_me yzz.2 := by
  unfold bk_X9_behindSum_163 at hzz
  obtain ⟨z7, ez7, hzz⟩ := z_bd hzz
  rcases z_if hzz with ⟨-, hzz⟩ | ⟨-, hzz⟩
  · obtain ⟨z8, ez8, hzz⟩ := z_bd hzz
    rcases z_if hzz with ⟨-, hzz⟩ | ⟨-, hzz⟩
    · obtain ⟨z9, ez9, hzz⟩ := z_bd hzz
      rcases z_if hzz with ⟨-, hzz⟩ | ⟨-, hzz⟩
      · have wzz := fr_bk_X9_behindSum_202  hzz
        exact FrX.rf.tr wzz
      · have wzz := fr_bk_X9_behindSum_202  hzz
        exact FrX.rf.tr wzz
    · have wzz := fr_bk_X9_behindSum_202  hzz
      exact FrX.rf.tr wzz
  · have hzz := Option.some.inj hzz
    subst hzz
    exact FrX.rf
set_option maxHeartbeats 200000 in
theorem fr_bk_X9_behindSum_71 {v1zz : Int32} {s0zz : Int32} {o_me : Ob} {yzz : Int32 × Ob}  (hzz : bk_X9_behindSum_71 v1zz s0zz o_me = some yzz) : FrX d_X9_behindSum_me o_me yzz.2 := by
  unfold bk_X9_behindSum_71 at hzz
  rcases z_if hzz with ⟨-, hzz⟩ | ⟨-, hzz⟩
  · obtain ⟨z6, ez6, hzz⟩ := z_bd hzz
    rcases z_if hzz with ⟨-, hzz⟩ | ⟨-, hzz⟩
    · obtain ⟨z14zz, ez14, hzz⟩ := z_bd hzz
      obtain ⟨z15, ez15, hzz⟩ := z_bd hzz
      have k1zz : FrX d_X9_behindSum_me o_me z15 := FrX.rf.tr ((fr_f_X9_must  ez15).mono rfl)
      rcases z_if hzz with ⟨-, hzz⟩ | ⟨-, hzz⟩
      · obtain ⟨z16, ez16, hzz⟩ := z_bd hzz
        have k2zz : FrX d_X9_behindSum_me o_me z16 := k1zz.tr ((fr_f_X9_settle  ez16).mono rfl)
        obtain ⟨o17, eo17, hzz⟩ := z_lt hzz
        have k3zz : FrX d_X9_behindSum_me o_me o17 := by rw [eo17]; exact FrX.sI k2zz rfl
        obtain ⟨o18, eo18, hzz⟩ := z_lt hzz
        have k4zz : FrX d_X9_behindSum_me o_me o18 := by rw [eo18]; exact FrX.sI k3zz rfl
        have hzz := Option.some.inj hzz
        subst hzz
        exact k4zz
      · have hzz := Option.some.inj hzz
        subst hzz
        exact k1zz
    · rcases z_if hzz with ⟨-, hzz⟩ | ⟨-, hzz⟩
      · rcases z_if hzz with ⟨-, hzz⟩ | ⟨-, hzz⟩
        · have hzz := Option.some.inj hzz
          subst hzz
          exact FrX.rf
        · have wzz := fr_bk_X9_behindSum_163  hzz
          exact FrX.rf.tr wzz
      · have wzz := fr_bk_X9_behindSum_163  hzz
        exact FrX.rf.tr wzz
  · obtain ⟨z19, ez19, hzz⟩ := z_bd hzz
    obtain ⟨z20, ez20, hzz⟩ := z_bd hzz
    have k5zz : FrX d_X9_behindSum_me o_me z20 := FrX.rf.tr ((fr_f_X9_settle  ez20).mono rfl)
    obtain ⟨z21, ez21, hzz⟩ := z_bd hzz
    have k6zz : FrX d_X9_behindSum_me o_me z21 := k5zz.tr ((fr_f_X9_push  ez21).mono rfl)
    obtain ⟨z22, ez22, hzz⟩ := z_bd hzz
    have k7zz : FrX d_X9_behindSum_me o_me z22 := k6zz.tr ((fr_f_X9_next  ez22).mono rfl)
    have hzz := Option.some.inj hzz
    subst hzz
    exact k7zz
set_option maxHeartbeats 200000 in
theorem fr_f_X9_behindSum {o_me : Ob} {p0zz : Int32} {yzz : Int32 × Ob}  (hzz : f_X9_behindSum o_me p0zz = some yzz) : FrX d_X9_behindSum_me o_me yzz.2 := by
  unfold f_X9_behindSum at hzz
  obtain ⟨z1, ez1, hzz⟩ := z_bd hzz
  rcases z_if hzz with ⟨-, hzz⟩ | ⟨-, hzz⟩
  · obtain ⟨z2, ez2, hzz⟩ := z_bd hzz
    rcases z_if hzz with ⟨-, hzz⟩ | ⟨-, hzz⟩
    · obtain ⟨z3, ez3, hzz⟩ := z_bd hzz
      rcases z_if hzz with ⟨-, hzz⟩ | ⟨-, hzz⟩
      · obtain ⟨z4, ez4, hzz⟩ := z_bd hzz
        rcases z_if hzz with ⟨-, hzz⟩ | ⟨-, hzz⟩
        · obtain ⟨z5, ez5, hzz⟩ := z_bd hzz
          rcases z_if hzz with ⟨-, hzz⟩ | ⟨-, hzz⟩
          · have wzz := fr_bk_X9_behindSum_71  hzz
            exact FrX.rf.tr wzz
          · have wzz := fr_bk_X9_behindSum_71  hzz
            exact FrX.rf.tr wzz
        · have wzz := fr_bk_X9_behindSum_71  hzz
          exact FrX.rf.tr wzz
      · have wzz := fr_bk_X9_behindSum_71  hzz
        exact FrX.rf.tr wzz
    · have wzz := fr_bk_X9_behindSum_71  hzz
      exact FrX.rf.tr wzz
  · have wzz := fr_bk_X9_behindSum_71  hzz
    exact FrX.rf.tr wzz
def d_X9_behindTest_me : DD := ([14, 15, 16, 18, 19, 23, 29, 30], [17], [24, 25, 27, 28], [], [])
set_option maxHeartbeats 200000 in
theorem fr_bk_X9_behindTest_66 {s0zz : Int32} {o_me : Ob} {yzz : Int32 × Ob}  (hzz : bk_X9_behindTest_66 s0zz o_me = some yzz) : FrX d_X9_behindTest_me o_me yzz.2 := by
  unfold bk_X9_behindTest_66 at hzz
  obtain ⟨z4, ez4, hzz⟩ := z_bd hzz
  have k1zz : FrX d_X9_behindTest_me o_me z4 := FrX.rf.tr ((fr_f_X9_emit  ez4).mono rfl)
  obtain ⟨z5, ez5, hzz⟩ := z_bd hzz
  have k2zz : FrX d_X9_behindTest_me o_me z5 := k1zz.tr ((fr_f_X9_next  ez5).mono rfl)
  have hzz := Option.some.inj hzz
  subst hzz
  exact k2zz
set_option maxHeartbeats 200000 in
theorem fr_bk_X9_behindTest_47 {v1zz : Int32} {s0zz : Int32} {o_me : Ob} {yzz : Int32 × Ob}  (hzz : bk_X9_behindTest_47 v1zz s0zz o_me = some yzz) : FrX d_X9_behindTest_me o_me yzz.2 := by
  unfold bk_X9_behindTest_47 at hzz
  obtain ⟨z3, ez3, hzz⟩ := z_bd hzz
  have k1zz : FrX d_X9_behindTest_me o_me z3 := FrX.rf.tr ((fr_f_X9_push  ez3).mono rfl)
  rcases z_if hzz with ⟨-, hzz⟩ | ⟨-, hzz⟩
  · have wzz := fr_bk_X9_behindTest_66  hzz
    exact k1zz.tr wzz
  · have wzz := fr_bk_X9_behindTest_66  hzz
    exact k1zz.tr wzz
set_option maxHeartbeats 200000 in
theorem fr_bk_X9_behindTest_32 {v1zz : Int32} {s0zz : Int32} {o_me : Ob} {yzz : Int32 × Ob}  (hzz : bk_X9_behindTest_32 v1zz s0zz o_me = some yzz) : FrX d_X9_behindTest_me o_me yzz.2 := by
  unfold bk_X9_behindTest_32 at hzz
  obtain ⟨z2, ez2, hzz⟩ := z_bd hzz
  have k1zz : FrX d_X9_behindTest_me o_me z2 := FrX.rf.tr ((fr_f_X9_settle  ez2).mono rfl)
  rcases z_if hzz with ⟨-, hzz⟩ | ⟨-, hzz⟩
  · have wzz := fr_bk_X9_behindTest_47  hzz
    exact k1zz.tr wzz
  · have wzz := fr_bk_X9_behindTest_47  hzz
    exact k1zz.tr wzz
set_option maxHeartbeats 200000 in
theorem fr_bk_X9_behindTest_22 {v1zz : Int32} {o_me : Ob} {yzz : Int32 × Ob}  (hzz : bk_X9_behindTest_22 v1zz o_me = some yzz) : FrX d_X9_behindTest_me o_me yzz.2 := by
  unfold bk_X9_behindTest_22 at hzz
  rcases z_if hzz with ⟨-, hzz⟩ | ⟨-, hzz⟩
  · have wzz := fr_bk_X9_behindTest_32  hzz
    exact FrX.rf.tr wzz
  · have wzz := fr_bk_X9_behindTest_32  hzz
    exact FrX.rf.tr wzz
set_option maxHeartbeats 200000 in
theorem fr_f_X9_behindTest {o_me : Ob} {yzz : Int32 × Ob}  (hzz : f_X9_behindTest o_me = some yzz) : FrX d_X9_behindTest_me o_me yzz.2 := by
  unfold f_X9_behindTest at hzz
  obtain ⟨z1, ez1, hzz⟩ := z_bd hzz
  rcases z_if hzz with ⟨-, hzz⟩ | ⟨-, hzz⟩
  · obtain ⟨z6, ez6, hzz⟩ := z_bd hzz
    rcases z_if hzz with ⟨-, hzz⟩ | ⟨-, hzz⟩
    · obtain ⟨z7, ez7, hzz⟩ := z_bd hzz
      rcases z_if hzz with ⟨-, hzz⟩ | ⟨-, hzz⟩
      · have hzz := Option.some.inj hzz
        subst hzz
        exact FrX.rf
      · obtain ⟨z8, ez8, hzz⟩ := z_bd hzz
        obtain ⟨z9, ez9, hzz⟩ := z_bd hzz
        have k1zz : FrX d_X9_behindTest_me o_me z9 := FrX.rf.tr ((fr_f_X9_must  ez9).mono rfl)
        rcases z_if hzz with ⟨-, hzz⟩ | ⟨-, hzz⟩
        · obtain ⟨z10, ez10, hzz⟩ := z_bd hzz
          have k2zz : FrX d_X9_behindTest_me o_me z10 := k1zz.tr ((fr_f_X9_settle  ez10).mono rfl)
          obtain ⟨o11, eo11, hzz⟩ := z_lt hzz
          have k3zz : FrX d_X9_behindTest_me o_me o11 := by rw [eo11]; exact FrX.sI k2zz rfl
          obtain ⟨o12, eo12, hzz⟩ := z_lt hzz
          have k4zz : FrX d_X9_behindTest_me o_me o12 := by rw [eo12]; exact FrX.sI k3zz rfl
          have hzz := Option.some.inj hzz
          subst hzz
          exact k4zz
        · have hzz := Option.some.inj hzz
          subst hzz
          exact k1zz
    · have wzz := fr_bk_X9_behindTest_22  hzz
      exact FrX.rf.tr wzz
  · have wzz := fr_bk_X9_behindTest_22  hzz
    exact FrX.rf.tr wzz
def d_X9_blots_me : DD := ([0], [], [], [], [])
set_option maxHeartbeats 200000 in
theorem fr_f_X9_blots {o_me : Ob} {yzz : Int32 × Ob}  (hzz : f_X9_blots o_me = some yzz) : FrX d_X9_blots_me o_me yzz.2 := by
  unfold f_X9_blots at hzz
  obtain ⟨o1, eo1, hzz⟩ := z_lt hzz
  have k1zz : FrX d_X9_blots_me o_me o1 := by rw [eo1]; exact FrX.sI FrX.rf rfl
  have hzz := Option.some.inj hzz
  subst hzz
  exact k1zz
def d_X9_thatCanBe_me : DD := ([34, 38], [39, 40], [], [35, 37], [])
set_option maxHeartbeats 200000 in
theorem fr_bk_X9_thatCanBe_92 {rec_4_0 : Int32 × Int32 × Ob → Option (Int32 × Ob)} {v2 : Int32} {s0zz : Int32} {s1zz : Int32} {o_me : Ob} {yzz : Int32 × Ob} (hrec_4_0 : ∀ (azz : Int32 × Int32 × Ob) (yzz : Int32 × Ob), rec_4_0 azz = some yzz → FrX d_X9_thatCanBe_me azz.2.2 yzz.2) (hzz : bk_X9_thatCanBe_92 rec_4_0 v2 s0zz s1zz o_me = some yzz) : FrX d_X9_thatCanBe_me o_me yzz.2 := by
  unfold bk_X9_thatCanBe_92 at hzz
  obtain ⟨x1zz, ex1, hzz⟩ := z_lt hzz
  obtain ⟨x2zz, ex2zz, hzz⟩ := z_lt hzz
  have wzz := hrec_4_0 _ _ hzz
  exact FrX.rf.tr wzz
set_option maxHeartbeats 200000 in
theorem fr_bk_X9_thatCanBe_80 {rec_4_0 : Int32 × Int32 × Ob → Option (Int32 × Ob)} {v1zz : Int32} {v2 : Int32} {v3 : Int32} {o_me : Ob} {yzz : Int32 × Ob} (hrec_4_0 : ∀ (azz : Int32 × Int32 × Ob) (yzz : Int32 × Ob), rec_4_0 azz = some yzz → FrX d_X9_thatCanBe_me azz.2.2 yzz.2) (hzz : bk_X9_thatCanBe_80 rec_4_0 v1zz v2 v3 o_me = some yzz) : FrX d_X9_thatCanBe_me o_me yzz.2 := by
  unfold bk_X9_thatCanBe_80 at hzz
  rcases z_if hzz with ⟨-, hzz⟩ | ⟨-, hzz⟩
  · have wzz := fr_bk_X9_thatCanBe_92 hrec_4_0 hzz
    exact FrX.rf.tr wzz
  · have wzz := fr_bk_X9_thatCanBe_92 hrec_4_0 hzz
    exact FrX.rf.tr wzz
set_option maxHeartbeats 200000 in
theorem fr_bk_X9_thatCanBe_73 {rec_4_0 : Int32 × Int32 × Ob → Option (Int32 × Ob)} {rec_19_1 : Int32 × Int32 × Int32 × Int32 × Ob → Option (Int32 × Ob)} {v1zz : Int32} {v2 : Int32} {v4zz : Int32} {s0zz : Int32} {o_me : Ob} {yzz : Int32 × Ob} (hrec_4_0 : ∀ (azz : Int32 × Int32 × Ob) (yzz : Int32 × Ob), rec_4_0 azz = some yzz → FrX d_X9_thatCanBe_me azz.2.2 yzz.2) (hrec_19_1 : ∀ (azz : Int32 × Int32 × Int32 × Int32 × Ob) (yzz : Int32 × Ob), rec_19_1 azz = some yzz → FrX d_X9_thatCanBe_me azz.2.2.2.2 yzz.2) (hzz : bk_X9_thatCanBe_73 rec_4_0 rec_19_1 v1zz v2 v4zz s0zz o_me = some yzz) : FrX d_X9_thatCanBe_me o_me yzz.2 := by
  unfold bk_X9_thatCanBe_73 at hzz
  obtain ⟨x6, ex6, hzz⟩ := z_lt hzz
  have wzz := hrec_19_1 _ _ hzz
  exact FrX.rf.tr wzz
set_option maxHeartbeats 200000 in
theorem fr_lb_X9_thatCanBe_19 {rec_4_0 : Int32 × Int32 × Ob → Option (Int32 × Ob)} {rec_19_1 : Int32 × Int32 × Int32 × Int32 × Ob → Option (Int32 × Ob)} {v1zz : Int32} {v2 : Int32} {v3 : Int32} {v4zz : Int32} {o_me : Ob} {yzz : Int32 × Ob} (hrec_4_0 : ∀ (azz : Int32 × Int32 × Ob) (yzz : Int32 × Ob), rec_4_0 azz = some yzz → FrX d_X9_thatCanBe_me azz.2.2 yzz.2) (hrec_19_1 : ∀ (azz : Int32 × Int32 × Int32 × Int32 × Ob) (yzz : Int32 × Ob), rec_19_1 azz = some yzz → FrX d_X9_thatCanBe_me azz.2.2.2.2 yzz.2) (hzz : lb_X9_thatCanBe_19 rec_4_0 rec_19_1 v1zz v2 v3 v4zz o_me = some yzz) : FrX d_X9_thatCanBe_me o_me yzz.2 := by
  unfold lb_X9_thatCanBe_19 at hzz
  rcases z_if hzz with ⟨-, hzz⟩ | ⟨-, hzz⟩
  · have wzz := fr_bk_X9_thatCanBe_80 hrec_4_0 hzz
    exact FrX.rf.tr wzz
  · rcases z_if hzz with ⟨-, hzz⟩ | ⟨-, hzz⟩
    · have wzz := fr_bk_X9_thatCanBe_80 hrec_4_0 hzz
      exact FrX.rf.tr wzz
    · have hzz := (z_gd hzz).2
      obtain ⟨z4, ez4, hzz⟩ := z_bd hzz
      have k1zz : FrX d_X9_thatCanBe_me o_me z4.2 := FrX.rf.tr ((fr_f_X9_turnsOf  ez4).mono rfl)
      have hzz := (z_gd hzz).2
      rcases z_if hzz with ⟨-, hzz⟩ | ⟨-, hzz⟩
      · have wzz := fr_bk_X9_thatCanBe_73 hrec_4_0 hrec_19_1 hzz
        exact k1zz.tr wzz
      · have wzz := fr_bk_X9_thatCanBe_73 hrec_4_0 hrec_19_1 hzz
        exact k1zz.tr wzz
set_option maxHeartbeats 200000 in
theorem fr_lp_X9_thatCanBe_19 {rec_4_0 : Int32 × Int32 × Ob → Option (Int32 × Ob)} (hrec_4_0 : ∀ (azz : Int32 × Int32 × Ob) (yzz : Int32 × Ob), rec_4_0 azz = some yzz → FrX d_X9_thatCanBe_me azz.2.2 yzz.2) : ∀ (Nzz : Nat) (azz : Int32 × Int32 × Int32 × Int32 × Ob) (yzz : Int32 × Ob), lp_X9_thatCanBe_19 rec_4_0 Nzz azz = some yzz → FrX d_X9_thatCanBe_me azz.2.2.2.2 yzz.2 := by
  intro Nzz
  induction Nzz with
  | zero => intro azz yzz hzz; cases hzz
  | succ Nzz ihzz => intro azz yzz hzz; exact fr_lb_X9_thatCanBe_19  hrec_4_0 ihzz hzz
set_option maxHeartbeats 200000 in
theorem fr_lb_X9_thatCanBe_4 {rec_4_0 : Int32 × Int32 × Ob → Option (Int32 × Ob)} {v1zz : Int32} {v2 : Int32} {o_me : Ob} {yzz : Int32 × Ob} (hrec_4_0 : ∀ (azz : Int32 × Int32 × Ob) (yzz : Int32 × Ob), rec_4_0 azz = some yzz → FrX d_X9_thatCanBe_me azz.2.2 yzz.2) (hzz : lb_X9_thatCanBe_4 rec_4_0 v1zz v2 o_me = some yzz) : FrX d_X9_thatCanBe_me o_me yzz.2 := by
  unfold lb_X9_thatCanBe_4 at hzz
  rcases z_if hzz with ⟨-, hzz⟩ | ⟨-, hzz⟩
  · have hzz := Option.some.inj hzz
    subst hzz
    exact FrX.rf
  · have wzz := fr_lp_X9_thatCanBe_19 hrec_4_0 _ _ _ hzz
    exact FrX.rf.tr wzz
set_option maxHeartbeats 200000 in
theorem fr_lp_X9_thatCanBe_4   : ∀ (Nzz : Nat) (azz : Int32 × Int32 × Ob) (yzz : Int32 × Ob), lp_X9_thatCanBe_4  Nzz azz = some yzz → FrX d_X9_thatCanBe_me azz.2.2 yzz.2 := by
  intro Nzz
  induction Nzz with
  | zero => intro azz yzz hzz; cases hzz
  | succ Nzz ihzz => intro azz yzz hzz; exact fr_lb_X9_thatCanBe_4   ihzz hzz
set_option maxHeartbeats 200000 in
theorem fr_f_X9_thatCanBe {o_me : Ob} {yzz : Int32 × Ob}  (hzz : f_X9_thatCanBe o_me = some yzz) : FrX d_X9_thatCanBe_me o_me yzz.2 := by
  unfold f_X9_thatCanBe at hzz
  have wzz := fr_lp_X9_thatCanBe_4  _ _ _ hzz
  exact FrX.rf.tr wzz
def d_X9_canBe_me : DD := ([0, 34, 38], [39, 40], [], [35, 37], [])
set_option maxHeartbeats 200000 in
theorem fr_f_X9_canBe {o_me : Ob} {yzz : Int32 × Ob}  (hzz : f_X9_canBe o_me = some yzz) : FrX d_X9_canBe_me o_me yzz.2 := by
  unfold f_X9_canBe at hzz
  obtain ⟨o1, eo1, hzz⟩ := z_lt hzz
  have k1zz : FrX d_X9_canBe_me o_me o1 := by rw [eo1]; exact FrX.sI FrX.rf rfl
  obtain ⟨z2, ez2, hzz⟩ := z_bd hzz
  have k2zz : FrX d_X9_canBe_me o_me z2.2 := k1zz.tr ((fr_f_X9_thatCanBe  ez2).mono rfl)
  have hzz := Option.some.inj hzz
  subst hzz
  exact k2zz
def d_X9_putBack_me : DD := ([], [], [3], [], [])
set_option maxHeartbeats 200000 in
theorem fr_lb_X9_putBack_2 {rec_2_0 : Int32 × Int32 × Ob → Option (Ob)} {v1zz : Int32} {v2 : Int32} {o_me : Ob} {yzz : Ob} (hrec_2_0 : ∀ (azz : Int32 × Int32 × Ob) (yzz : Ob), rec_2_0 azz = some yzz → FrX d_X9_putBack_me azz.2.2 yzz) (hzz : lb_X9_putBack_2 rec_2_0 v1zz v2 o_me = some yzz) : FrX d_X9_putBack_me o_me yzz := by
  unfold lb_X9_putBack_2 at hzz
  rcases z_if hzz with ⟨-, hzz⟩ | ⟨-, hzz⟩
  · have hzz := Option.some.inj hzz
    subst hzz
    exact FrX.rf
  · have hzz := (z_gd hzz).2
    have hzz := (z_gd hzz).2
    obtain ⟨o3zz, eo3, hzz⟩ := z_lt hzz
    have k1zz : FrX d_X9_putBack_me o_me o3zz := by rw [eo3]; exact FrX.tA FrX.rf rfl
    obtain ⟨x4zz, ex4, hzz⟩ := z_lt hzz
    have wzz := hrec_2_0 _ _ hzz
    exact k1zz.tr wzz
set_option maxHeartbeats 200000 in
theorem fr_lp_X9_putBack_2   : ∀ (Nzz : Nat) (azz : Int32 × Int32 × Ob) (yzz : Ob), lp_X9_putBack_2  Nzz azz = some yzz → FrX d_X9_putBack_me azz.2.2 yzz := by
  intro Nzz
  induction Nzz with
  | zero => intro azz yzz hzz; cases hzz
  | succ Nzz ihzz => intro azz yzz hzz; exact fr_lb_X9_putBack_2   ihzz hzz
set_option maxHeartbeats 200000 in
theorem fr_f_X9_putBack {o_me : Ob} {p0zz : Int32} {yzz : Ob}  (hzz : f_X9_putBack o_me p0zz = some yzz) : FrX d_X9_putBack_me o_me yzz := by
  unfold f_X9_putBack at hzz
  have wzz := fr_lp_X9_putBack_2  _ _ _ hzz
  exact FrX.rf.tr wzz
def d_X9_draw_me : DD := ([], [60], [], [], [])
set_option maxHeartbeats 200000 in
theorem fr_f_X9_draw {o_me : Ob} {p0zz : Int32} {yzz : Int32 × Ob}  (hzz : f_X9_draw o_me p0zz = some yzz) : FrX d_X9_draw_me o_me yzz.2 := by
  unfold f_X9_draw at hzz
  obtain ⟨o1, eo1, hzz⟩ := z_lt hzz
  have k1zz : FrX d_X9_draw_me o_me o1 := by rw [eo1]; exact FrX.sL FrX.rf rfl
  have hzz := (z_gd hzz).2
  have hzz := Option.some.inj hzz
  subst hzz
  exact k1zz
def d_X9_centuries_me : DD := ([0, 1, 34, 38, 43, 62], [39, 40, 60], [2, 3, 6, 41, 42, 61], [35, 37], [])
set_option maxHeartbeats 200000 in
theorem fr_bk_X9_centuries_29 {o_me : Ob} {yzz : Int32 × Ob}  (hzz : bk_X9_centuries_29 o_me = some yzz) : FrX d_X9_centuries_me o_me yzz.2 := by
  unfold bk_X9_centuries_29 at hzz
  obtain ⟨z3, ez3, hzz⟩ := z_bd hzz
  have k1zz : FrX d_X9_centuries_me o_me z3.2 := FrX.rf.tr ((fr_f_X9_tell  ez3).mono rfl)
  have hzz := Option.some.inj hzz
  subst hzz
  exact k1zz
set_option maxHeartbeats 200000 in
theorem fr_lb_X9_centuries_195 {rec_195_3 : Int32 × Int32 × Ob → Option (Int32 × Ob)} {v3 : Int32} {v4zz : Int32} {o_me : Ob} {yzz : Int32 × Ob} (hrec_195_3 : ∀ (azz : Int32 × Int32 × Ob) (yzz : Int32 × Ob), rec_195_3 azz = some yzz → FrX d_X9_centuries_me azz.2.2 yzz.2) (hzz : lb_X9_centuries_195 rec_195_3 v3 v4zz o_me = some yzz) : FrX d_X9_centuries_me o_me yzz.2 := by
  unfold lb_X9_centuries_195 at hzz
  rcases z_if hzz with ⟨-, hzz⟩ | ⟨-, hzz⟩
  · obtain ⟨o7, eo7, hzz⟩ := z_lt hzz
    have k1zz : FrX d_X9_centuries_me o_me o7 := by rw [eo7]; exact FrX.sI FrX.rf rfl
    obtain ⟨z8, ez8, hzz⟩ := z_bd hzz
    have k2zz : FrX d_X9_centuries_me o_me z8 := k1zz.tr ((fr_f_X9_putBack  ez8).mono rfl)
    obtain ⟨z9, ez9, hzz⟩ := z_bd hzz
    have k3zz : FrX d_X9_centuries_me o_me z9.2 := k2zz.tr ((fr_f_X9_tell  ez9).mono rfl)
    have hzz := Option.some.inj hzz
    subst hzz
    exact k3zz
  · have hzz := (z_gd hzz).2
    have hzz := (z_gd hzz).2
    obtain ⟨o12, eo12, hzz⟩ := z_lt hzz
    have k4zz : FrX d_X9_centuries_me o_me o12 := by rw [eo12]; exact FrX.tA FrX.rf rfl
    obtain ⟨x13, ex13, hzz⟩ := z_lt hzz
    have wzz := hrec_195_3 _ _ hzz
    exact k4zz.tr wzz
set_option maxHeartbeats 200000 in
theorem fr_lp_X9_centuries_195   : ∀ (Nzz : Nat) (azz : Int32 × Int32 × Ob) (yzz : Int32 × Ob), lp_X9_centuries_195  Nzz azz = some yzz → FrX d_X9_centuries_me azz.2.2 yzz.2 := by
  intro Nzz
  induction Nzz with
  | zero => intro azz yzz hzz; cases hzz
  | succ Nzz ihzz => intro azz yzz hzz; exact fr_lb_X9_centuries_195   ihzz hzz
set_option maxHeartbeats 200000 in
theorem fr_bk_X9_centuries_192 {v3 : Int32} {o_me : Ob} {yzz : Int32 × Ob}  (hzz : bk_X9_centuries_192 v3 o_me = some yzz) : FrX d_X9_centuries_me o_me yzz.2 := by
  unfold bk_X9_centuries_192 at hzz
  have wzz := fr_lp_X9_centuries_195  _ _ _ hzz
  exact FrX.rf.tr wzz
set_option maxHeartbeats 200000 in
theorem fr_bk_X9_centuries_181 {rec_68_1 : Int32 × Int32 × Int32 × Ob → Option (Int32 × Ob)} {v2 : Int32} {v3 : Int32} {v4zz : Int32} {o_me : Ob} {yzz : Int32 × Ob} (hrec_68_1 : ∀ (azz : Int32 × Int32 × Int32 × Ob) (yzz : Int32 × Ob), rec_68_1 azz = some yzz → FrX d_X9_centuries_me azz.2.2.2 yzz.2) (hzz : bk_X9_centuries_181 rec_68_1 v2 v3 v4zz o_me = some yzz) : FrX d_X9_centuries_me o_me yzz.2 := by
  unfold bk_X9_centuries_181 at hzz
  obtain ⟨z17, ez17, hzz⟩ := z_bd hzz
  have k1zz : FrX d_X9_centuries_me o_me z17.2 := FrX.rf.tr ((fr_f_X9_passIt  ez17).mono rfl)
  obtain ⟨x18, ex18, hzz⟩ := z_lt hzz
  have wzz := hrec_68_1 _ _ hzz
  exact k1zz.tr wzz
set_option maxHeartbeats 200000 in
theorem fr_bk_X9_centuries_169 {rec_68_1 : Int32 × Int32 × Int32 × Ob → Option (Int32 × Ob)} {v2 : Int32} {v3 : Int32} {v4zz : Int32} {v5 : Int32} {v7 : Int32} {o_me : Ob} {yzz : Int32 × Ob} (hrec_68_1 : ∀ (azz : Int32 × Int32 × Int32 × Ob) (yzz : Int32 × Ob), rec_68_1 azz = some yzz → FrX d_X9_centuries_me azz.2.2.2 yzz.2) (hzz : bk_X9_centuries_169 rec_68_1 v2 v3 v4zz v5 v7 o_me = some yzz) : FrX d_X9_centuries_me o_me yzz.2 := by
  unfold bk_X9_centuries_169 at hzz
  rcases z_if hzz with ⟨-, hzz⟩ | ⟨-, hzz⟩
  · obtain ⟨z19, ez19, hzz⟩ := z_bd hzz
    have k1zz : FrX d_X9_centuries_me o_me z19 := FrX.rf.tr ((fr_f_X9_takeIt  ez19).mono rfl)
    have wzz := fr_bk_X9_centuries_181 hrec_68_1 hzz
    exact k1zz.tr wzz
  · have wzz := fr_bk_X9_centuries_181 hrec_68_1 hzz
    exact FrX.rf.tr wzz
set_option maxHeartbeats 200000 in
theorem fr_bk_X9_centuries_140 {rec_68_1 : Int32 × Int32 × Int32 × Ob → Option (Int32 × Ob)} {v2 : Int32} {v3 : Int32} {v4zz : Int32} {v5 : Int32} {v6 : Int32} {v7 : Int32} {o_me : Ob} {yzz : Int32 × Ob} (hrec_68_1 : ∀ (azz : Int32 × Int32 × Int32 × Ob) (yzz : Int32 × Ob), rec_68_1 azz = some yzz → FrX d_X9_centuries_me azz.2.2.2 yzz.2) (hzz : bk_X9_centuries_140 rec_68_1 v2 v3 v4zz v5 v6 v7 o_me = some yzz) : FrX d_X9_centuries_me o_me yzz.2 := by
  unfold bk_X9_centuries_140 at hzz
  rcases z_if hzz with ⟨-, hzz⟩ | ⟨-, hzz⟩
  · obtain ⟨z20, ez20, hzz⟩ := z_bd hzz
    have k1zz : FrX d_X9_centuries_me o_me z20 := FrX.rf.tr ((fr_f_X9_layPlaces  ez20).mono rfl)
    rcases z_if hzz with ⟨-, hzz⟩ | ⟨-, hzz⟩
    · have wzz := fr_bk_X9_centuries_169 hrec_68_1 hzz
      exact k1zz.tr wzz
    · obtain ⟨z21, ez21, hzz⟩ := z_bd hzz
      have k2zz : FrX d_X9_centuries_me o_me z21.2 := k1zz.tr ((fr_f_X9_raceIt  ez21).mono rfl)
      obtain ⟨x22, ex22, hzz⟩ := z_lt hzz
      have wzz := fr_bk_X9_centuries_169 hrec_68_1 hzz
      exact k2zz.tr wzz
  · have wzz := fr_bk_X9_centuries_169 hrec_68_1 hzz
    exact FrX.rf.tr wzz
set_option maxHeartbeats 200000 in
theorem fr_lb_X9_centuries_68 {rec_68_1 : Int32 × Int32 × Int32 × Ob → Option (Int32 × Ob)} {v2 : Int32} {v3 : Int32} {v4zz : Int32} {o_me : Ob} {yzz : Int32 × Ob} (hrec_68_1 : ∀ (azz : Int32 × Int32 × Int32 × Ob) (yzz : Int32 × Ob), rec_68_1 azz = some yzz → FrX d_X9_centuries_me azz.2.2.2 yzz.2) (hzz : lb_X9_centuries_68 rec_68_1 v2 v3 v4zz o_me = some yzz) : FrX d_X9_centuries_me o_me yzz.2 := by
  unfold lb_X9_centuries_68 at hzz
  rcases z_if hzz with ⟨-, hzz⟩ | ⟨-, hzz⟩
  · have wzz := fr_bk_X9_centuries_192  hzz
    exact FrX.rf.tr wzz
  · rcases z_if hzz with ⟨-, hzz⟩ | ⟨-, hzz⟩
    · have wzz := fr_bk_X9_centuries_192  hzz
      exact FrX.rf.tr wzz
    · obtain ⟨z14zz, ez14, hzz⟩ := z_bd hzz
      have k1zz : FrX d_X9_centuries_me o_me z14zz.2 := FrX.rf.tr ((fr_f_X9_draw  ez14).mono rfl)
      obtain ⟨z15, ez15, hzz⟩ := z_bd hzz
      have k2zz : FrX d_X9_centuries_me o_me z15.2 := k1zz.tr ((fr_f_X9_draw  ez15).mono rfl)
      obtain ⟨z16, ez16, hzz⟩ := z_bd hzz
      have k3zz : FrX d_X9_centuries_me o_me z16.2 := k2zz.tr ((fr_f_X9_draw  ez16).mono rfl)
      rcases z_if hzz with ⟨-, hzz⟩ | ⟨-, hzz⟩
      · have wzz := fr_bk_X9_centuries_140 hrec_68_1 hzz
        exact k3zz.tr wzz
      · have hzz := (z_gd hzz).2
        have hzz := (z_gd hzz).2
        obtain ⟨o25, eo25, hzz⟩ := z_lt hzz
        have k4zz : FrX d_X9_centuries_me o_me o25 := by rw [eo25]; exact FrX.tA k3zz rfl
        have wzz := fr_bk_X9_centuries_140 hrec_68_1 hzz
        exact k4zz.tr wzz
set_option maxHeartbeats 200000 in
theorem fr_lp_X9_centuries_68   : ∀ (Nzz : Nat) (azz : Int32 × Int32 × Int32 × Ob) (yzz : Int32 × Ob), lp_X9_centuries_68  Nzz azz = some yzz → FrX d_X9_centuries_me azz.2.2.2 yzz.2 := by
  intro Nzz
  induction Nzz with
  | zero => intro azz yzz hzz; cases hzz
  | succ Nzz ihzz => intro azz yzz hzz; exact fr_lb_X9_centuries_68   ihzz hzz
set_option maxHeartbeats 200000 in
theorem fr_f_X9_centuries {o_me : Ob} {p0zz : Int32} {p1zz : Int32} {yzz : Int32 × Ob}  (hzz : f_X9_centuries o_me p0zz p1zz = some yzz) : FrX d_X9_centuries_me o_me yzz.2 := by
  unfold f_X9_centuries at hzz
  obtain ⟨o1, eo1, hzz⟩ := z_lt hzz
  have k1zz : FrX d_X9_centuries_me o_me o1 := by rw [eo1]; exact FrX.sI FrX.rf rfl
  obtain ⟨z2, ez2, hzz⟩ := z_bd hzz
  rcases z_if hzz with ⟨-, hzz⟩ | ⟨-, hzz⟩
  · have wzz := fr_bk_X9_centuries_29  hzz
    exact k1zz.tr wzz
  · obtain ⟨z4, ez4, hzz⟩ := z_bd hzz
    rcases z_if hzz with ⟨-, hzz⟩ | ⟨-, hzz⟩
    · have wzz := fr_bk_X9_centuries_29  hzz
      exact k1zz.tr wzz
    · rcases z_if hzz with ⟨-, hzz⟩ | ⟨-, hzz⟩
      · obtain ⟨z26, ez26, hzz⟩ := z_bd hzz
        have k2zz : FrX d_X9_centuries_me o_me z26.2 := k1zz.tr ((fr_f_X9_tell  ez26).mono rfl)
        have hzz := Option.some.inj hzz
        subst hzz
        exact k2zz
      · obtain ⟨z5, ez5, hzz⟩ := z_bd hzz
        have k3zz : FrX d_X9_centuries_me o_me z5 := k1zz.tr ((fr_f_X9_keepAll  ez5).mono rfl)
        obtain ⟨o6, eo6, hzz⟩ := z_lt hzz
        have k4zz : FrX d_X9_centuries_me o_me o6 := by rw [eo6]; exact FrX.sL k3zz rfl
        have wzz := fr_lp_X9_centuries_68  _ _ _ hzz
        exact k4zz.tr wzz
def d_X9_circles_me : DD := ([0], [], [], [], [])
set_option maxHeartbeats 200000 in
theorem fr_bk_X9_circles_111 {rec_9_0 : Int32 × Int32 × Ob → Option (Int32 × Ob)} {rec_23_1 : Int32 × Int32 × Int32 × Ob → Option (Int32 × Ob)} {rec_38_2 : Int32 × Int32 × Int32 × Int32 × Ob → Option (Int32 × Ob)} {v2 : Int32} {v3 : Int32} {v4zz : Int32} {s0zz : Int32} {s1zz : Int32} {o_me : Ob} {yzz : Int32 × Ob} (hrec_9_0 : ∀ (azz : Int32 × Int32 × Ob) (yzz : Int32 × Ob), rec_9_0 azz = some yzz → FrX d_X9_circles_me azz.2.2 yzz.2) (hrec_23_1 : ∀ (azz : Int32 × Int32 × Int32 × Ob) (yzz : Int32 × Ob), rec_23_1 azz = some yzz → FrX d_X9_circles_me azz.2.2.2 yzz.2) (hrec_38_2 : ∀ (azz : Int32 × Int32 × Int32 × Int32 × Ob) (yzz : Int32 × Ob), rec_38_2 azz = some yzz → FrX d_X9_circles_me azz.2.2.2.2 yzz.2) (hzz : bk_X9_circles_111 rec_9_0 rec_23_1 rec_38_2 v2 v3 v4zz s0zz s1zz o_me = some yzz) : FrX d_X9_circles_me o_me yzz.2 := by
  unfold bk_X9_circles_111 at hzz
  obtain ⟨x6, ex6, hzz⟩ := z_lt hzz
  obtain ⟨x7, ex7, hzz⟩ := z_lt hzz
  have wzz := hrec_38_2 _ _ hzz
  exact FrX.rf.tr wzz
set_option maxHeartbeats 200000 in
theorem fr_bk_X9_circles_110 {rec_9_0 : Int32 × Int32 × Ob → Option (Int32 × Ob)} {rec_23_1 : Int32 × Int32 × Int32 × Ob → Option (Int32 × Ob)} {rec_38_2 : Int32 × Int32 × Int32 × Int32 × Ob → Option (Int32 × Ob)} {v2 : Int32} {v3 : Int32} {v4zz : Int32} {s0zz : Int32} {o_me : Ob} {yzz : Int32 × Ob} (hrec_9_0 : ∀ (azz : Int32 × Int32 × Ob) (yzz : Int32 × Ob), rec_9_0 azz = some yzz → FrX d_X9_circles_me azz.2.2 yzz.2) (hrec_23_1 : ∀ (azz : Int32 × Int32 × Int32 × Ob) (yzz : Int32 × Ob), rec_23_1 azz = some yzz → FrX d_X9_circles_me azz.2.2.2 yzz.2) (hrec_38_2 : ∀ (azz : Int32 × Int32 × Int32 × Int32 × Ob) (yzz : Int32 × Ob), rec_38_2 azz = some yzz → FrX d_X9_circles_me azz.2.2.2.2 yzz.2) (hzz : bk_X9_circles_110 rec_9_0 rec_23_1 rec_38_2 v2 v3 v4zz s0zz o_me = some yzz) : FrX d_X9_circles_me o_me yzz.2 := by
  unfold bk_X9_circles_110 at hzz
  have wzz := fr_bk_X9_circles_111 hrec_9_0 hrec_23_1 hrec_38_2 hzz
  exact FrX.rf.tr wzz
set_option maxHeartbeats 200000 in
theorem fr_lb_X9_circles_38 {rec_9_0 : Int32 × Int32 × Ob → Option (Int32 × Ob)} {rec_23_1 : Int32 × Int32 × Int32 × Ob → Option (Int32 × Ob)} {rec_38_2 : Int32 × Int32 × Int32 × Int32 × Ob → Option (Int32 × Ob)} {v1zz : Int32} {v2 : Int32} {v3 : Int32} {v4zz : Int32} {o_me : Ob} {yzz : Int32 × Ob} (hrec_9_0 : ∀ (azz : Int32 × Int32 × Ob) (yzz : Int32 × Ob), rec_9_0 azz = some yzz → FrX d_X9_circles_me azz.2.2 yzz.2) (hrec_23_1 : ∀ (azz : Int32 × Int32 × Int32 × Ob) (yzz : Int32 × Ob), rec_23_1 azz = some yzz → FrX d_X9_circles_me azz.2.2.2 yzz.2) (hrec_38_2 : ∀ (azz : Int32 × Int32 × Int32 × Int32 × Ob) (yzz : Int32 × Ob), rec_38_2 azz = some yzz → FrX d_X9_circles_me azz.2.2.2.2 yzz.2) (hzz : lb_X9_circles_38 rec_9_0 rec_23_1 rec_38_2 v1zz v2 v3 v4zz o_me = some yzz) : FrX d_X9_circles_me o_me yzz.2 := by
  unfold lb_X9_circles_38 at hzz
  rcases z_if hzz with ⟨-, hzz⟩ | ⟨-, hzz⟩
  · obtain ⟨x5zz, ex5, hzz⟩ := z_lt hzz
    have wzz := hrec_23_1 _ _ hzz
    exact FrX.rf.tr wzz
  · rcases z_if hzz with ⟨-, hzz⟩ | ⟨-, hzz⟩
    · have wzz := fr_bk_X9_circles_110 hrec_9_0 hrec_23_1 hrec_38_2 hzz
      exact FrX.rf.tr wzz
    · have hzz := (z_gd hzz).2
      obtain ⟨z9, ez9, hzz⟩ := z_bd hzz
      rcases z_if hzz with ⟨-, hzz⟩ | ⟨-, hzz⟩
      · have wzz := fr_bk_X9_circles_110 hrec_9_0 hrec_23_1 hrec_38_2 hzz
        exact FrX.rf.tr wzz
      · have hzz := (z_gd hzz).2
        obtain ⟨z11, ez11, hzz⟩ := z_bd hzz
        rcases z_if hzz with ⟨-, hzz⟩ | ⟨-, hzz⟩
        · have wzz := fr_bk_X9_circles_110 hrec_9_0 hrec_23_1 hrec_38_2 hzz
          exact FrX.rf.tr wzz
        · have hzz := (z_gd hzz).2
          obtain ⟨z13zz, ez13, hzz⟩ := z_bd hzz
          rcases z_if hzz with ⟨-, hzz⟩ | ⟨-, hzz⟩
          · have wzz := fr_bk_X9_circles_110 hrec_9_0 hrec_23_1 hrec_38_2 hzz
            exact FrX.rf.tr wzz
          · have wzz := fr_bk_X9_circles_111 hrec_9_0 hrec_23_1 hrec_38_2 hzz
            exact FrX.rf.tr wzz
set_option maxHeartbeats 200000 in
theorem fr_lp_X9_circles_38 {rec_9_0 : Int32 × Int32 × Ob → Option (Int32 × Ob)} {rec_23_1 : Int32 × Int32 × Int32 × Ob → Option (Int32 × Ob)} (hrec_9_0 : ∀ (azz : Int32 × Int32 × Ob) (yzz : Int32 × Ob), rec_9_0 azz = some yzz → FrX d_X9_circles_me azz.2.2 yzz.2) (hrec_23_1 : ∀ (azz : Int32 × Int32 × Int32 × Ob) (yzz : Int32 × Ob), rec_23_1 azz = some yzz → FrX d_X9_circles_me azz.2.2.2 yzz.2) : ∀ (Nzz : Nat) (azz : Int32 × Int32 × Int32 × Int32 × Ob) (yzz : Int32 × Ob), lp_X9_circles_38 rec_9_0 rec_23_1 Nzz azz = some yzz → FrX d_X9_circles_me azz.2.2.2.2 yzz.2 := by
  intro Nzz
  induction Nzz with
  | zero => intro azz yzz hzz; cases hzz
  | succ Nzz ihzz => intro azz yzz hzz; exact fr_lb_X9_circles_38  hrec_9_0 hrec_23_1 ihzz hzz
set_option maxHeartbeats 200000 in
theorem fr_lb_X9_circles_23 {rec_9_0 : Int32 × Int32 × Ob → Option (Int32 × Ob)} {rec_23_1 : Int32 × Int32 × Int32 × Ob → Option (Int32 × Ob)} {v1zz : Int32} {v2 : Int32} {v3 : Int32} {o_me : Ob} {yzz : Int32 × Ob} (hrec_9_0 : ∀ (azz : Int32 × Int32 × Ob) (yzz : Int32 × Ob), rec_9_0 azz = some yzz → FrX d_X9_circles_me azz.2.2 yzz.2) (hrec_23_1 : ∀ (azz : Int32 × Int32 × Int32 × Ob) (yzz : Int32 × Ob), rec_23_1 azz = some yzz → FrX d_X9_circles_me azz.2.2.2 yzz.2) (hzz : lb_X9_circles_23 rec_9_0 rec_23_1 v1zz v2 v3 o_me = some yzz) : FrX d_X9_circles_me o_me yzz.2 := by
  unfold lb_X9_circles_23 at hzz
  rcases z_if hzz with ⟨-, hzz⟩ | ⟨-, hzz⟩
  · obtain ⟨x3, ex3zz, hzz⟩ := z_lt hzz
    have wzz := hrec_9_0 _ _ hzz
    exact FrX.rf.tr wzz
  · obtain ⟨x4zz, ex4, hzz⟩ := z_lt hzz
    have wzz := fr_lp_X9_circles_38 hrec_9_0 hrec_23_1 _ _ _ hzz
    exact FrX.rf.tr wzz
set_option maxHeartbeats 200000 in
theorem fr_lp_X9_circles_23 {rec_9_0 : Int32 × Int32 × Ob → Option (Int32 × Ob)} (hrec_9_0 : ∀ (azz : Int32 × Int32 × Ob) (yzz : Int32 × Ob), rec_9_0 azz = some yzz → FrX d_X9_circles_me azz.2.2 yzz.2) : ∀ (Nzz : Nat) (azz : Int32 × Int32 × Int32 × Ob) (yzz : Int32 × Ob), lp_X9_circles_23 rec_9_0 Nzz azz = some yzz → FrX d_X9_circles_me azz.2.2.2 yzz.2 := by
  intro Nzz
  induction Nzz with
  | zero => intro azz yzz hzz; cases hzz
  | succ Nzz ihzz => intro azz yzz hzz; exact fr_lb_X9_circles_23  hrec_9_0 ihzz hzz
set_option maxHeartbeats 200000 in
theorem fr_lb_X9_circles_9 {rec_9_0 : Int32 × Int32 × Ob → Option (Int32 × Ob)} {v1zz : Int32} {v2 : Int32} {o_me : Ob} {yzz : Int32 × Ob} (hrec_9_0 : ∀ (azz : Int32 × Int32 × Ob) (yzz : Int32 × Ob), rec_9_0 azz = some yzz → FrX d_X9_circles_me azz.2.2 yzz.2) (hzz : lb_X9_circles_9 rec_9_0 v1zz v2 o_me = some yzz) : FrX d_X9_circles_me o_me yzz.2 := by
  unfold lb_X9_circles_9 at hzz
  rcases z_if hzz with ⟨-, hzz⟩ | ⟨-, hzz⟩
  · have hzz := Option.some.inj hzz
    subst hzz
    exact FrX.rf
  · obtain ⟨x2zz, ex2zz, hzz⟩ := z_lt hzz
    have wzz := fr_lp_X9_circles_23 hrec_9_0 _ _ _ hzz
    exact FrX.rf.tr wzz
set_option maxHeartbeats 200000 in
theorem fr_lp_X9_circles_9   : ∀ (Nzz : Nat) (azz : Int32 × Int32 × Ob) (yzz : Int32 × Ob), lp_X9_circles_9  Nzz azz = some yzz → FrX d_X9_circles_me azz.2.2 yzz.2 := by
  intro Nzz
  induction Nzz with
  | zero => intro azz yzz hzz; cases hzz
  | succ Nzz ihzz => intro azz yzz hzz; exact fr_lb_X9_circles_9   ihzz hzz
set_option maxHeartbeats 200000 in
theorem fr_f_X9_circles {o_me : Ob} {yzz : Int32 × Ob}  (hzz : f_X9_circles o_me = some yzz) : FrX d_X9_circles_me o_me yzz.2 := by
  unfold f_X9_circles at hzz
  obtain ⟨o1, eo1, hzz⟩ := z_lt hzz
  have k1zz : FrX d_X9_circles_me o_me o1 := by rw [eo1]; exact FrX.sI FrX.rf rfl
  have wzz := fr_lp_X9_circles_9  _ _ _ hzz
  exact k1zz.tr wzz
def d_X9_count_me : DD := ([0], [], [], [], [])
set_option maxHeartbeats 200000 in
theorem fr_f_X9_count {o_me : Ob} {p0zz : Int32} {yzz : Int32 × Ob}  (hzz : f_X9_count o_me p0zz = some yzz) : FrX d_X9_count_me o_me yzz.2 := by
  unfold f_X9_count at hzz
  obtain ⟨o1, eo1, hzz⟩ := z_lt hzz
  have k1zz : FrX d_X9_count_me o_me o1 := by rw [eo1]; exact FrX.sI FrX.rf rfl
  rcases z_if hzz with ⟨-, hzz⟩ | ⟨-, hzz⟩
  · have hzz := Option.some.inj hzz
    subst hzz
    exact k1zz
  · rcases z_if hzz with ⟨-, hzz⟩ | ⟨-, hzz⟩
    · obtain ⟨z3, ez3, hzz⟩ := z_bd hzz
      have hzz := Option.some.inj hzz
      subst hzz
      exact k1zz
    · rcases z_if hzz with ⟨-, hzz⟩ | ⟨-, hzz⟩
      · have hzz := Option.some.inj hzz
        subst hzz
        exact k1zz
      · rcases z_if hzz with ⟨-, hzz⟩ | ⟨-, hzz⟩
        · obtain ⟨z4, ez4, hzz⟩ := z_bd hzz
          have hzz := Option.some.inj hzz
          subst hzz
          exact k1zz
        · rcases z_if hzz with ⟨-, hzz⟩ | ⟨-, hzz⟩
          · have hzz := Option.some.inj hzz
            subst hzz
            exact k1zz
          · rcases z_if hzz with ⟨-, hzz⟩ | ⟨-, hzz⟩
            · have hzz := Option.some.inj hzz
              subst hzz
              exact k1zz
            · rcases z_if hzz with ⟨-, hzz⟩ | ⟨-, hzz⟩
              · have hzz := Option.some.inj hzz
                subst hzz
                exact k1zz
              · rcases z_if hzz with ⟨-, hzz⟩ | ⟨-, hzz⟩
                · have hzz := Option.some.inj hzz
                  subst hzz
                  exact k1zz
                · rcases z_if hzz with ⟨-, hzz⟩ | ⟨-, hzz⟩
                  · have hzz := Option.some.inj hzz
                    subst hzz
                    exact k1zz
                  · rcases z_if hzz with ⟨-, hzz⟩ | ⟨-, hzz⟩
                    · have hzz := Option.some.inj hzz
                      subst hzz
                      exact k1zz
                    · rcases z_if hzz with ⟨-, hzz⟩ | ⟨-, hzz⟩
                      · have hzz := Option.some.inj hzz
                        subst hzz
                        exact k1zz
                      · rcases z_if hzz with ⟨-, hzz⟩ | ⟨-, hzz⟩
                        · have hzz := Option.some.inj hzz
                          subst hzz
                          exact k1zz
                        · rcases z_if hzz with ⟨-, hzz⟩ | ⟨-, hzz⟩
                          · have hzz := Option.some.inj hzz
                            subst hzz
                            exact k1zz
                          · rcases z_if hzz with ⟨-, hzz⟩ | ⟨-, hzz⟩
                            · have hzz := Option.some.inj hzz
                              subst hzz
                              exact k1zz
                            · obtain ⟨z5, ez5, hzz⟩ := z_bd hzz
                              rcases z_if hzz with ⟨-, hzz⟩ | ⟨-, hzz⟩
                              · have hzz := Option.some.inj hzz
                                subst hzz
                                exact k1zz
                              · have hzz := (z_gd hzz).2
                                have hzz := Option.some.inj hzz
                                subst hzz
                                exact k1zz
def d_X9_findCrowned_me : DD := ([34, 38], [39, 40], [47, 48, 49], [35, 37], [])
set_option maxHeartbeats 200000 in
theorem fr_bk_X9_findCrowned_163 {rec_75_1 : Int32 × Int32 × Ob → Option (Int32 × Ob)} {v2 : Int32} {s0zz : Int32} {o_me : Ob} {yzz : Int32 × Ob} (hrec_75_1 : ∀ (azz : Int32 × Int32 × Ob) (yzz : Int32 × Ob), rec_75_1 azz = some yzz → FrX d_X9_findCrowned_me azz.2.2 yzz.2) (hzz : bk_X9_findCrowned_163 rec_75_1 v2 s0zz o_me = some yzz) : FrX d_X9_findCrowned_me o_me yzz.2 := by
  unfold bk_X9_findCrowned_163 at hzz
  obtain ⟨x5zz, ex5, hzz⟩ := z_lt hzz
  have wzz := hrec_75_1 _ _ hzz
  exact FrX.rf.tr wzz
set_option maxHeartbeats 200000 in
theorem fr_bk_X9_findCrowned_153 {rec_75_1 : Int32 × Int32 × Ob → Option (Int32 × Ob)} {v1zz : Int32} {v2 : Int32} {v3 : Int32} {o_me : Ob} {yzz : Int32 × Ob} (hrec_75_1 : ∀ (azz : Int32 × Int32 × Ob) (yzz : Int32 × Ob), rec_75_1 azz = some yzz → FrX d_X9_findCrowned_me azz.2.2 yzz.2) (hzz : bk_X9_findCrowned_153 rec_75_1 v1zz v2 v3 o_me = some yzz) : FrX d_X9_findCrowned_me o_me yzz.2 := by
  unfold bk_X9_findCrowned_153 at hzz
  rcases z_if hzz with ⟨-, hzz⟩ | ⟨-, hzz⟩
  · have wzz := fr_bk_X9_findCrowned_163 hrec_75_1 hzz
    exact FrX.rf.tr wzz
  · have wzz := fr_bk_X9_findCrowned_163 hrec_75_1 hzz
    exact FrX.rf.tr wzz
set_option maxHeartbeats 200000 in
theorem fr_lb_X9_findCrowned_122 {rec_75_1 : Int32 × Int32 × Ob → Option (Int32 × Ob)} {rec_122_4 : Int32 × Int32 × Int32 × Int32 × Ob → Option (Int32 × Ob)} {v1zz : Int32} {v2 : Int32} {v3 : Int32} {v4zz : Int32} {o_me : Ob} {yzz : Int32 × Ob} (hrec_75_1 : ∀ (azz : Int32 × Int32 × Ob) (yzz : Int32 × Ob), rec_75_1 azz = some yzz → FrX d_X9_findCrowned_me azz.2.2 yzz.2) (hrec_122_4 : ∀ (azz : Int32 × Int32 × Int32 × Int32 × Ob) (yzz : Int32 × Ob), rec_122_4 azz = some yzz → FrX d_X9_findCrowned_me azz.2.2.2.2 yzz.2) (hzz : lb_X9_findCrowned_122 rec_75_1 rec_122_4 v1zz v2 v3 v4zz o_me = some yzz) : FrX d_X9_findCrowned_me o_me yzz.2 := by
  unfold lb_X9_findCrowned_122 at hzz
  rcases z_if hzz with ⟨-, hzz⟩ | ⟨-, hzz⟩
  · have wzz := fr_bk_X9_findCrowned_153 hrec_75_1 hzz
    exact FrX.rf.tr wzz
  · rcases z_if hzz with ⟨-, hzz⟩ | ⟨-, hzz⟩
    · have wzz := fr_bk_X9_findCrowned_153 hrec_75_1 hzz
      exact FrX.rf.tr wzz
    · have hzz := (z_gd hzz).2
      have hzz := (z_gd hzz).2
      obtain ⟨o8zz, eo8, hzz⟩ := z_lt hzz
      have k1zz : FrX d_X9_findCrowned_me o_me o8zz := by rw [eo8]; exact FrX.tA FrX.rf rfl
      obtain ⟨x9, ex9, hzz⟩ := z_lt hzz
      have wzz := hrec_122_4 _ _ hzz
      exact k1zz.tr wzz
set_option maxHeartbeats 200000 in
theorem fr_lp_X9_findCrowned_122 {rec_75_1 : Int32 × Int32 × Ob → Option (Int32 × Ob)} (hrec_75_1 : ∀ (azz : Int32 × Int32 × Ob) (yzz : Int32 × Ob), rec_75_1 azz = some yzz → FrX d_X9_findCrowned_me azz.2.2 yzz.2) : ∀ (Nzz : Nat) (azz : Int32 × Int32 × Int32 × Int32 × Ob) (yzz : Int32 × Ob), lp_X9_findCrowned_122 rec_75_1 Nzz azz = some yzz → FrX d_X9_findCrowned_me azz.2.2.2.2 yzz.2 := by
  intro Nzz
  induction Nzz with
  | zero => intro azz yzz hzz; cases hzz
  | succ Nzz ihzz => intro azz yzz hzz; exact fr_lb_X9_findCrowned_122  hrec_75_1 ihzz hzz
set_option maxHeartbeats 200000 in
theorem fr_bk_X9_findCrowned_118 {rec_75_1 : Int32 × Int32 × Ob → Option (Int32 × Ob)} {v1zz : Int32} {v2 : Int32} {s0zz : Int32} {o_me : Ob} {yzz : Int32 × Ob} (hrec_75_1 : ∀ (azz : Int32 × Int32 × Ob) (yzz : Int32 × Ob), rec_75_1 azz = some yzz → FrX d_X9_findCrowned_me azz.2.2 yzz.2) (hzz : bk_X9_findCrowned_118 rec_75_1 v1zz v2 s0zz o_me = some yzz) : FrX d_X9_findCrowned_me o_me yzz.2 := by
  unfold bk_X9_findCrowned_118 at hzz
  have wzz := fr_lp_X9_findCrowned_122 hrec_75_1 _ _ _ hzz
  exact FrX.rf.tr wzz
set_option maxHeartbeats 200000 in
theorem fr_bk_X9_findCrowned_105 {rec_75_1 : Int32 × Int32 × Ob → Option (Int32 × Ob)} {v1zz : Int32} {v2 : Int32} {o_me : Ob} {yzz : Int32 × Ob} (hrec_75_1 : ∀ (azz : Int32 × Int32 × Ob) (yzz : Int32 × Ob), rec_75_1 azz = some yzz → FrX d_X9_findCrowned_me azz.2.2 yzz.2) (hzz : bk_X9_findCrowned_105 rec_75_1 v1zz v2 o_me = some yzz) : FrX d_X9_findCrowned_me o_me yzz.2 := by
  unfold bk_X9_findCrowned_105 at hzz
  rcases z_if hzz with ⟨-, hzz⟩ | ⟨-, hzz⟩
  · obtain ⟨z10, ez10, hzz⟩ := z_bd hzz
    have wzz := fr_bk_X9_findCrowned_118 hrec_75_1 hzz
    exact FrX.rf.tr wzz
  · have wzz := fr_bk_X9_findCrowned_118 hrec_75_1 hzz
    exact FrX.rf.tr wzz
set_option maxHeartbeats 200000 in
theorem fr_lb_X9_findCrowned_75 {rec_75_1 : Int32 × Int32 × Ob → Option (Int32 × Ob)} {v1zz : Int32} {v2 : Int32} {o_me : Ob} {yzz : Int32 × Ob} (hrec_75_1 : ∀ (azz : Int32 × Int32 × Ob) (yzz : Int32 × Ob), rec_75_1 azz = some yzz → FrX d_X9_findCrowned_me azz.2.2 yzz.2) (hzz : lb_X9_findCrowned_75 rec_75_1 v1zz v2 o_me = some yzz) : FrX d_X9_findCrowned_me o_me yzz.2 := by
  unfold lb_X9_findCrowned_75 at hzz
  rcases z_if hzz with ⟨-, hzz⟩ | ⟨-, hzz⟩
  · have hzz := Option.some.inj hzz
    subst hzz
    exact FrX.rf
  · have hzz := (z_gd hzz).2
    have hzz := (z_gd hzz).2
    obtain ⟨o4zz, eo4, hzz⟩ := z_lt hzz
    have k1zz : FrX d_X9_findCrowned_me o_me o4zz := by rw [eo4]; exact FrX.tA FrX.rf rfl
    rcases z_if hzz with ⟨-, hzz⟩ | ⟨-, hzz⟩
    · have wzz := fr_bk_X9_findCrowned_105 hrec_75_1 hzz
      exact k1zz.tr wzz
    · have hzz := (z_gd hzz).2
      rcases z_if hzz with ⟨-, hzz⟩ | ⟨-, hzz⟩
      · obtain ⟨z12, ez12, hzz⟩ := z_bd hzz
        rcases z_if hzz with ⟨-, hzz⟩ | ⟨-, hzz⟩
        · have wzz := hrec_75_1 _ _ hzz
          exact k1zz.tr wzz
        · obtain ⟨x13, ex13, hzz⟩ := z_lt hzz
          have hzz := (z_gd hzz).2
          obtain ⟨o15, eo15, hzz⟩ := z_lt hzz
          have k2zz : FrX d_X9_findCrowned_me o_me o15 := by rw [eo15]; exact FrX.tA k1zz rfl
          have wzz := hrec_75_1 _ _ hzz
          exact k2zz.tr wzz
      · have wzz := fr_bk_X9_findCrowned_105 hrec_75_1 hzz
        exact k1zz.tr wzz
set_option maxHeartbeats 200000 in
theorem fr_lp_X9_findCrowned_75   : ∀ (Nzz : Nat) (azz : Int32 × Int32 × Ob) (yzz : Int32 × Ob), lp_X9_findCrowned_75  Nzz azz = some yzz → FrX d_X9_findCrowned_me azz.2.2 yzz.2 := by
  intro Nzz
  induction Nzz with
  | zero => intro azz yzz hzz; cases hzz
  | succ Nzz ihzz => intro azz yzz hzz; exact fr_lb_X9_findCrowned_75   ihzz hzz
set_option maxHeartbeats 200000 in
theorem fr_bk_X9_findCrowned_51 {rec_2_0 : Int32 × Ob → Option (Int32 × Ob)} {rec_10_7 : Int32 × Int32 × Ob → Option (Int32 × Ob)} {v1zz : Int32} {v2 : Int32} {s0zz : Int32} {s1zz : Int32} {o_me : Ob} {yzz : Int32 × Ob} (hrec_2_0 : ∀ (azz : Int32 × Ob) (yzz : Int32 × Ob), rec_2_0 azz = some yzz → FrX d_X9_findCrowned_me azz.2 yzz.2) (hrec_10_7 : ∀ (azz : Int32 × Int32 × Ob) (yzz : Int32 × Ob), rec_10_7 azz = some yzz → FrX d_X9_findCrowned_me azz.2.2 yzz.2) (hzz : bk_X9_findCrowned_51 rec_2_0 rec_10_7 v1zz v2 s0zz s1zz o_me = some yzz) : FrX d_X9_findCrowned_me o_me yzz.2 := by
  unfold bk_X9_findCrowned_51 at hzz
  have hzz := (z_gd hzz).2
  obtain ⟨o19, eo19, hzz⟩ := z_lt hzz
  have k1zz : FrX d_X9_findCrowned_me o_me o19 := by rw [eo19]; exact FrX.tA FrX.rf rfl
  obtain ⟨x20, ex20, hzz⟩ := z_lt hzz
  have wzz := hrec_10_7 _ _ hzz
  exact k1zz.tr wzz
set_option maxHeartbeats 200000 in
theorem fr_bk_X9_findCrowned_50 {rec_2_0 : Int32 × Ob → Option (Int32 × Ob)} {rec_10_7 : Int32 × Int32 × Ob → Option (Int32 × Ob)} {v1zz : Int32} {v2 : Int32} {s0zz : Int32} {o_me : Ob} {yzz : Int32 × Ob} (hrec_2_0 : ∀ (azz : Int32 × Ob) (yzz : Int32 × Ob), rec_2_0 azz = some yzz → FrX d_X9_findCrowned_me azz.2 yzz.2) (hrec_10_7 : ∀ (azz : Int32 × Int32 × Ob) (yzz : Int32 × Ob), rec_10_7 azz = some yzz → FrX d_X9_findCrowned_me azz.2.2 yzz.2) (hzz : bk_X9_findCrowned_50 rec_2_0 rec_10_7 v1zz v2 s0zz o_me = some yzz) : FrX d_X9_findCrowned_me o_me yzz.2 := by
  unfold bk_X9_findCrowned_50 at hzz
  have wzz := fr_bk_X9_findCrowned_51 hrec_2_0 hrec_10_7 hzz
  exact FrX.rf.tr wzz
set_option maxHeartbeats 200000 in
theorem fr_lb_X9_findCrowned_10 {rec_2_0 : Int32 × Ob → Option (Int32 × Ob)} {rec_10_7 : Int32 × Int32 × Ob → Option (Int32 × Ob)} {v1zz : Int32} {v2 : Int32} {o_me : Ob} {yzz : Int32 × Ob} (hrec_2_0 : ∀ (azz : Int32 × Ob) (yzz : Int32 × Ob), rec_2_0 azz = some yzz → FrX d_X9_findCrowned_me azz.2 yzz.2) (hrec_10_7 : ∀ (azz : Int32 × Int32 × Ob) (yzz : Int32 × Ob), rec_10_7 azz = some yzz → FrX d_X9_findCrowned_me azz.2.2 yzz.2) (hzz : lb_X9_findCrowned_10 rec_2_0 rec_10_7 v1zz v2 o_me = some yzz) : FrX d_X9_findCrowned_me o_me yzz.2 := by
  unfold lb_X9_findCrowned_10 at hzz
  rcases z_if hzz with ⟨-, hzz⟩ | ⟨-, hzz⟩
  · obtain ⟨x16, ex16, hzz⟩ := z_lt hzz
    have wzz := hrec_2_0 _ _ hzz
    exact FrX.rf.tr wzz
  · obtain ⟨z17, ez17, hzz⟩ := z_bd hzz
    rcases z_if hzz with ⟨-, hzz⟩ | ⟨-, hzz⟩
    · have wzz := fr_bk_X9_findCrowned_50 hrec_2_0 hrec_10_7 hzz
      exact FrX.rf.tr wzz
    · obtain ⟨z21, ez21, hzz⟩ := z_bd hzz
      have k1zz : FrX d_X9_findCrowned_me o_me z21.2 := FrX.rf.tr ((fr_f_X9_isBarred  ez21).mono rfl)
      rcases z_if hzz with ⟨-, hzz⟩ | ⟨-, hzz⟩
      · obtain ⟨z22, ez22, hzz⟩ := z_bd hzz
        have k2zz : FrX d_X9_findCrowned_me o_me z22.2 := k1zz.tr ((fr_f_X9_runsOf  ez22).mono rfl)
        have wzz := fr_bk_X9_findCrowned_51 hrec_2_0 hrec_10_7 hzz
        exact k2zz.tr wzz
      · have wzz := fr_bk_X9_findCrowned_50 hrec_2_0 hrec_10_7 hzz
        exact k1zz.tr wzz
set_option maxHeartbeats 200000 in
theorem fr_lp_X9_findCrowned_10 {rec_2_0 : Int32 × Ob → Option (Int32 × Ob)} (hrec_2_0 : ∀ (azz : Int32 × Ob) (yzz : Int32 × Ob), rec_2_0 azz = some yzz → FrX d_X9_findCrowned_me azz.2 yzz.2) : ∀ (Nzz : Nat) (azz : Int32 × Int32 × Ob) (yzz : Int32 × Ob), lp_X9_findCrowned_10 rec_2_0 Nzz azz = some yzz → FrX d_X9_findCrowned_me azz.2.2 yzz.2 := by
  intro Nzz
  induction Nzz with
  | zero => intro azz yzz hzz; cases hzz
  | succ Nzz ihzz => intro azz yzz hzz; exact fr_lb_X9_findCrowned_10  hrec_2_0 ihzz hzz
set_option maxHeartbeats 200000 in
theorem fr_lb_X9_findCrowned_2 {rec_2_0 : Int32 × Ob → Option (Int32 × Ob)} {v1zz : Int32} {o_me : Ob} {yzz : Int32 × Ob} (hrec_2_0 : ∀ (azz : Int32 × Ob) (yzz : Int32 × Ob), rec_2_0 azz = some yzz → FrX d_X9_findCrowned_me azz.2 yzz.2) (hzz : lb_X9_findCrowned_2 rec_2_0 v1zz o_me = some yzz) : FrX d_X9_findCrowned_me o_me yzz.2 := by
  unfold lb_X9_findCrowned_2 at hzz
  rcases z_if hzz with ⟨-, hzz⟩ | ⟨-, hzz⟩
  · obtain ⟨o1, eo1, hzz⟩ := z_lt hzz
    have k1zz : FrX d_X9_findCrowned_me o_me o1 := by rw [eo1]; exact FrX.tA FrX.rf rfl
    have wzz := fr_lp_X9_findCrowned_75  _ _ _ hzz
    exact k1zz.tr wzz
  · have wzz := fr_lp_X9_findCrowned_10 hrec_2_0 _ _ _ hzz
    exact FrX.rf.tr wzz
set_option maxHeartbeats 200000 in
theorem fr_lp_X9_findCrowned_2   : ∀ (Nzz : Nat) (azz : Int32 × Ob) (yzz : Int32 × Ob), lp_X9_findCrowned_2  Nzz azz = some yzz → FrX d_X9_findCrowned_me azz.2 yzz.2 := by
  intro Nzz
  induction Nzz with
  | zero => intro azz yzz hzz; cases hzz
  | succ Nzz ihzz => intro azz yzz hzz; exact fr_lb_X9_findCrowned_2   ihzz hzz
set_option maxHeartbeats 200000 in
theorem fr_f_X9_findCrowned {o_me : Ob} {yzz : Int32 × Ob}  (hzz : f_X9_findCrowned o_me = some yzz) : FrX d_X9_findCrowned_me o_me yzz.2 := by
  unfold f_X9_findCrowned at hzz
  have wzz := fr_lp_X9_findCrowned_2  _ _ _ hzz
  exact FrX.rf.tr wzz
def d_X9_crowned_me : DD := ([0, 34, 38], [39, 40], [47, 48, 49], [35, 37], [])
set_option maxHeartbeats 200000 in
theorem fr_f_X9_crowned {o_me : Ob} {p0zz : Int32} {yzz : Int32 × Ob}  (hzz : f_X9_crowned o_me p0zz = some yzz) : FrX d_X9_crowned_me o_me yzz.2 := by
  unfold f_X9_crowned at hzz
  obtain ⟨o1, eo1, hzz⟩ := z_lt hzz
  have k1zz : FrX d_X9_crowned_me o_me o1 := by rw [eo1]; exact FrX.sI FrX.rf rfl
  obtain ⟨z2, ez2, hzz⟩ := z_bd hzz
  rcases z_if hzz with ⟨-, hzz⟩ | ⟨-, hzz⟩
  · have hzz := Option.some.inj hzz
    subst hzz
    exact k1zz
  · obtain ⟨z3, ez3, hzz⟩ := z_bd hzz
    have k2zz : FrX d_X9_crowned_me o_me z3.2 := k1zz.tr ((fr_f_X9_findCrowned  ez3).mono rfl)
    rcases z_if hzz with ⟨-, hzz⟩ | ⟨-, hzz⟩
    · have hzz := Option.some.inj hzz
      subst hzz
      exact k2zz
    · have hzz := (z_gd hzz).2
      have hzz := Option.some.inj hzz
      subst hzz
      exact k2zz
def d_X9_drawn_me : DD := ([0], [], [], [], [])
set_option maxHeartbeats 200000 in
theorem fr_bk_X9_drawn_60 {v1zz : Int32} {s0zz : Int32} {o_me : Ob} {yzz : Int32 × Ob}  (hzz : bk_X9_drawn_60 v1zz s0zz o_me = some yzz) : FrX d_X9_drawn_me o_me yzz.2 := by
  unfold bk_X9_drawn_60 at hzz
  have hzz := (z_gd hzz).2
  have hzz := Option.some.inj hzz
  subst hzz
  exact FrX.rf
set_option maxHeartbeats 200000 in
theorem fr_f_X9_drawn {o_me : Ob} {p0zz : Int32} {p1zz : Int32} {yzz : Int32 × Ob}  (hzz : f_X9_drawn o_me p0zz p1zz = some yzz) : FrX d_X9_drawn_me o_me yzz.2 := by
  unfold f_X9_drawn at hzz
  obtain ⟨o1, eo1, hzz⟩ := z_lt hzz
  have k1zz : FrX d_X9_drawn_me o_me o1 := by rw [eo1]; exact FrX.sI FrX.rf rfl
  obtain ⟨z2, ez2, hzz⟩ := z_bd hzz
  rcases z_if hzz with ⟨-, hzz⟩ | ⟨-, hzz⟩
  · have hzz := Option.some.inj hzz
    subst hzz
    exact k1zz
  · obtain ⟨z3, ez3, hzz⟩ := z_bd hzz
    rcases z_if hzz with ⟨-, hzz⟩ | ⟨-, hzz⟩
    · have hzz := Option.some.inj hzz
      subst hzz
      exact k1zz
    · rcases z_if hzz with ⟨-, hzz⟩ | ⟨-, hzz⟩
      · have wzz := fr_bk_X9_drawn_60  hzz
        exact k1zz.tr wzz
      · rcases z_if hzz with ⟨-, hzz⟩ | ⟨-, hzz⟩
        · have wzz := fr_bk_X9_drawn_60  hzz
          exact k1zz.tr wzz
        · have wzz := fr_bk_X9_drawn_60  hzz
          exact k1zz.tr wzz
def d_X9_end_me : DD := ([0, 13], [], [], [], [])
set_option maxHeartbeats 200000 in
theorem fr_f_X9_end {o_me : Ob} {p0zz : Int32} {yzz : Int32 × Ob}  (hzz : f_X9_end o_me p0zz = some yzz) : FrX d_X9_end_me o_me yzz.2 := by
  unfold f_X9_end at hzz
  obtain ⟨o1, eo1, hzz⟩ := z_lt hzz
  have k1zz : FrX d_X9_end_me o_me o1 := by rw [eo1]; exact FrX.sI FrX.rf rfl
  rcases z_if hzz with ⟨-, hzz⟩ | ⟨-, hzz⟩
  · have hzz := Option.some.inj hzz
    subst hzz
    exact k1zz
  · rcases z_if hzz with ⟨-, hzz⟩ | ⟨-, hzz⟩
    · obtain ⟨o2, eo2, hzz⟩ := z_lt hzz
      have k2zz : FrX d_X9_end_me o_me o2 := by rw [eo2]; exact FrX.sI k1zz rfl
      have hzz := Option.some.inj hzz
      subst hzz
      exact k2zz
    · have hzz := Option.some.inj hzz
      subst hzz
      exact k1zz
def d_X9_endText_me : DD := ([13, 14, 15, 16, 18, 19, 20], [17], [], [], [])
set_option maxHeartbeats 200000 in
theorem fr_bk_X9_endText_19 {o_me : Ob} {yzz : Ob}  (hzz : bk_X9_endText_19 o_me = some yzz) : FrX d_X9_endText_me o_me yzz := by
  unfold bk_X9_endText_19 at hzz
  obtain ⟨o1, eo1, hzz⟩ := z_lt hzz
  have k1zz : FrX d_X9_endText_me o_me o1 := by rw [eo1]; exact FrX.sI FrX.rf rfl
  obtain ⟨o2, eo2, hzz⟩ := z_lt hzz
  have k2zz : FrX d_X9_endText_me o_me o2 := by rw [eo2]; exact FrX.sI k1zz rfl
  have hzz := Option.some.inj hzz
  subst hzz
  exact k2zz
set_option maxHeartbeats 200000 in
theorem fr_f_X9_endText {o_me : Ob} {yzz : Ob}  (hzz : f_X9_endText o_me = some yzz) : FrX d_X9_endText_me o_me yzz := by
  unfold f_X9_endText at hzz
  rcases z_if hzz with ⟨-, hzz⟩ | ⟨-, hzz⟩
  · rcases z_if hzz with ⟨-, hzz⟩ | ⟨-, hzz⟩
    · have wzz := fr_bk_X9_endText_19  hzz
      exact FrX.rf.tr wzz
    · obtain ⟨z3, ez3, hzz⟩ := z_bd hzz
      have k1zz : FrX d_X9_endText_me o_me z3 := FrX.rf.tr ((fr_f_X9_must  ez3).mono rfl)
      have wzz := fr_bk_X9_endText_19  hzz
      exact k1zz.tr wzz
  · have wzz := fr_bk_X9_endText_19  hzz
    exact FrX.rf.tr wzz
def d_X9_fault_me : DD := ([0], [], [], [], [])
set_option maxHeartbeats 200000 in
theorem fr_f_X9_fault {o_me : Ob} {yzz : Int32 × Ob}  (hzz : f_X9_fault o_me = some yzz) : FrX d_X9_fault_me o_me yzz.2 := by
  unfold f_X9_fault at hzz
  obtain ⟨o1, eo1, hzz⟩ := z_lt hzz
  have k1zz : FrX d_X9_fault_me o_me o1 := by rw [eo1]; exact FrX.sI FrX.rf rfl
  have hzz := Option.some.inj hzz
  subst hzz
  exact k1zz
def d_X9_four_me : DD := ([13], [], [12], [], [])
set_option maxHeartbeats 200000 in
theorem fr_lb_X9_four_3 {rec_3_0 : Int32 × Int32 × Ob → Option (Ob)} {v1zz : Int32} {v2 : Int32} {o_me : Ob} {yzz : Ob} (hrec_3_0 : ∀ (azz : Int32 × Int32 × Ob) (yzz : Ob), rec_3_0 azz = some yzz → FrX d_X9_four_me azz.2.2 yzz) (hzz : lb_X9_four_3 rec_3_0 v1zz v2 o_me = some yzz) : FrX d_X9_four_me o_me yzz := by
  unfold lb_X9_four_3 at hzz
  rcases z_if hzz with ⟨-, hzz⟩ | ⟨-, hzz⟩
  · have hzz := Option.some.inj hzz
    subst hzz
    exact FrX.rf
  · have hzz := (z_gd hzz).2
    obtain ⟨o2, eo2, hzz⟩ := z_lt hzz
    have k1zz : FrX d_X9_four_me o_me o2 := by rw [eo2]; exact FrX.tA FrX.rf rfl
    obtain ⟨o3zz, eo3, hzz⟩ := z_lt hzz
    have k2zz : FrX d_X9_four_me o_me o3zz := by rw [eo3]; exact FrX.sI k1zz rfl
    obtain ⟨x4zz, ex4, hzz⟩ := z_lt hzz
    have wzz := hrec_3_0 _ _ hzz
    exact k2zz.tr wzz
set_option maxHeartbeats 200000 in
theorem fr_lp_X9_four_3   : ∀ (Nzz : Nat) (azz : Int32 × Int32 × Ob) (yzz : Ob), lp_X9_four_3  Nzz azz = some yzz → FrX d_X9_four_me azz.2.2 yzz := by
  intro Nzz
  induction Nzz with
  | zero => intro azz yzz hzz; cases hzz
  | succ Nzz ihzz => intro azz yzz hzz; exact fr_lb_X9_four_3   ihzz hzz
set_option maxHeartbeats 200000 in
theorem fr_f_X9_four {o_me : Ob} {p0zz : Int32} {yzz : Ob}  (hzz : f_X9_four o_me p0zz = some yzz) : FrX d_X9_four_me o_me yzz := by
  unfold f_X9_four at hzz
  have wzz := fr_lp_X9_four_3  _ _ _ hzz
  exact FrX.rf.tr wzz
def d_X9_feed_me : DD := ([0, 13], [], [12], [], [])
set_option maxHeartbeats 200000 in
theorem fr_f_X9_feed {o_me : Ob} {p0zz : Int32} {p1zz : Int32} {p2zz : Int32} {p3zz : Int32} {p4zz : Int32} {yzz : Int32 × Ob}  (hzz : f_X9_feed o_me p0zz p1zz p2zz p3zz p4zz = some yzz) : FrX d_X9_feed_me o_me yzz.2 := by
  unfold f_X9_feed at hzz
  obtain ⟨o1, eo1, hzz⟩ := z_lt hzz
  have k1zz : FrX d_X9_feed_me o_me o1 := by rw [eo1]; exact FrX.sI FrX.rf rfl
  rcases z_if hzz with ⟨-, hzz⟩ | ⟨-, hzz⟩
  · obtain ⟨z2, ez2, hzz⟩ := z_bd hzz
    have k2zz : FrX d_X9_feed_me o_me z2 := k1zz.tr ((fr_f_X9_four  ez2).mono rfl)
    obtain ⟨z3, ez3, hzz⟩ := z_bd hzz
    have k3zz : FrX d_X9_feed_me o_me z3 := k2zz.tr ((fr_f_X9_four  ez3).mono rfl)
    obtain ⟨z4, ez4, hzz⟩ := z_bd hzz
    have k4zz : FrX d_X9_feed_me o_me z4 := k3zz.tr ((fr_f_X9_four  ez4).mono rfl)
    obtain ⟨z5, ez5, hzz⟩ := z_bd hzz
    have k5zz : FrX d_X9_feed_me o_me z5 := k4zz.tr ((fr_f_X9_four  ez5).mono rfl)
    obtain ⟨z6, ez6, hzz⟩ := z_bd hzz
    have k6zz : FrX d_X9_feed_me o_me z6 := k5zz.tr ((fr_f_X9_four  ez6).mono rfl)
    have hzz := Option.some.inj hzz
    subst hzz
    exact k6zz
  · have hzz := Option.some.inj hzz
    subst hzz
    exact k1zz
def d_X9_few_me : DD := ([0], [], [], [53], [])
set_option maxHeartbeats 200000 in
theorem fr_lb_X9_few_157 {rec_157_2 : Int32 × Int64 × Int32 × Ob → Option (Int64 × Ob)} {v1zz : Int32} {v4zz : Int64} {v6 : Int32} {o_me : Ob} {yzz : Int64 × Ob} (hrec_157_2 : ∀ (azz : Int32 × Int64 × Int32 × Ob) (yzz : Int64 × Ob), rec_157_2 azz = some yzz → FrX d_X9_few_me azz.2.2.2 yzz.2) (hzz : lb_X9_few_157 rec_157_2 v1zz v4zz v6 o_me = some yzz) : FrX d_X9_few_me o_me yzz.2 := by
  unfold lb_X9_few_157 at hzz
  rcases z_if hzz with ⟨-, hzz⟩ | ⟨-, hzz⟩
  · have hzz := Option.some.inj hzz
    subst hzz
    exact FrX.rf
  · have hzz := (z_gd hzz).2
    obtain ⟨x6, ex6, hzz⟩ := z_lt hzz
    obtain ⟨x7, ex7, hzz⟩ := z_lt hzz
    have wzz := hrec_157_2 _ _ hzz
    exact FrX.rf.tr wzz
set_option maxHeartbeats 200000 in
theorem fr_lp_X9_few_157   : ∀ (Nzz : Nat) (azz : Int32 × Int64 × Int32 × Ob) (yzz : Int64 × Ob), lp_X9_few_157  Nzz azz = some yzz → FrX d_X9_few_me azz.2.2.2 yzz.2 := by
  intro Nzz
  induction Nzz with
  | zero => intro azz yzz hzz; cases hzz
  | succ Nzz ihzz => intro azz yzz hzz; exact fr_lb_X9_few_157   ihzz hzz
set_option maxHeartbeats 200000 in
theorem fr_lb_X9_few_85 {rec_74_1 : Int32 × Int32 × Int32 × Int32 × Ob → Option (Int64 × Ob)} {rec_85_3 : Int32 × Int32 × Int32 × Int32 × Int32 × Ob → Option (Int64 × Ob)} {v1zz : Int32} {v2 : Int32} {v3 : Int32} {v4zz : Int32} {v5 : Int32} {o_me : Ob} {yzz : Int64 × Ob} (hrec_74_1 : ∀ (azz : Int32 × Int32 × Int32 × Int32 × Ob) (yzz : Int64 × Ob), rec_74_1 azz = some yzz → FrX d_X9_few_me azz.2.2.2.2 yzz.2) (hrec_85_3 : ∀ (azz : Int32 × Int32 × Int32 × Int32 × Int32 × Ob) (yzz : Int64 × Ob), rec_85_3 azz = some yzz → FrX d_X9_few_me azz.2.2.2.2.2 yzz.2) (hzz : lb_X9_few_85 rec_74_1 rec_85_3 v1zz v2 v3 v4zz v5 o_me = some yzz) : FrX d_X9_few_me o_me yzz.2 := by
  unfold lb_X9_few_85 at hzz
  rcases z_if hzz with ⟨-, hzz⟩ | ⟨-, hzz⟩
  · obtain ⟨x9, ex9, hzz⟩ := z_lt hzz
    have wzz := hrec_74_1 _ _ hzz
    exact FrX.rf.tr wzz
  · have hzz := (z_gd hzz).2
    obtain ⟨x11, ex11, hzz⟩ := z_lt hzz
    have hzz := (z_gd hzz).2
    obtain ⟨o13, eo13, hzz⟩ := z_lt hzz
    have k1zz : FrX d_X9_few_me o_me o13 := by rw [eo13]; exact FrX.tM FrX.rf rfl
    obtain ⟨x14, ex14, hzz⟩ := z_lt hzz
    have hzz := (z_gd hzz).2
    have hzz := (z_gd hzz).2
    obtain ⟨o17, eo17, hzz⟩ := z_lt hzz
    have k2zz : FrX d_X9_few_me o_me o17 := by rw [eo17]; exact FrX.tM k1zz rfl
    obtain ⟨x18, ex18, hzz⟩ := z_lt hzz
    have wzz := hrec_85_3 _ _ hzz
    exact k2zz.tr wzz
set_option maxHeartbeats 200000 in
theorem fr_lp_X9_few_85 {rec_74_1 : Int32 × Int32 × Int32 × Int32 × Ob → Option (Int64 × Ob)} (hrec_74_1 : ∀ (azz : Int32 × Int32 × Int32 × Int32 × Ob) (yzz : Int64 × Ob), rec_74_1 azz = some yzz → FrX d_X9_few_me azz.2.2.2.2 yzz.2) : ∀ (Nzz : Nat) (azz : Int32 × Int32 × Int32 × Int32 × Int32 × Ob) (yzz : Int64 × Ob), lp_X9_few_85 rec_74_1 Nzz azz = some yzz → FrX d_X9_few_me azz.2.2.2.2.2 yzz.2 := by
  intro Nzz
  induction Nzz with
  | zero => intro azz yzz hzz; cases hzz
  | succ Nzz ihzz => intro azz yzz hzz; exact fr_lb_X9_few_85  hrec_74_1 ihzz hzz
set_option maxHeartbeats 200000 in
theorem fr_lb_X9_few_74 {rec_74_1 : Int32 × Int32 × Int32 × Int32 × Ob → Option (Int64 × Ob)} {v1zz : Int32} {v2 : Int32} {v3 : Int32} {v4zz : Int32} {o_me : Ob} {yzz : Int64 × Ob} (hrec_74_1 : ∀ (azz : Int32 × Int32 × Int32 × Int32 × Ob) (yzz : Int64 × Ob), rec_74_1 azz = some yzz → FrX d_X9_few_me azz.2.2.2.2 yzz.2) (hzz : lb_X9_few_74 rec_74_1 v1zz v2 v3 v4zz o_me = some yzz) : FrX d_X9_few_me o_me yzz.2 := by
  unfold lb_X9_few_74 at hzz
  rcases z_if hzz with ⟨-, hzz⟩ | ⟨-, hzz⟩
  · have wzz := fr_lp_X9_few_157  _ _ _ hzz
    exact FrX.rf.tr wzz
  · obtain ⟨x8, ex8, hzz⟩ := z_lt hzz
    have wzz := fr_lp_X9_few_85 hrec_74_1 _ _ _ hzz
    exact FrX.rf.tr wzz
set_option maxHeartbeats 200000 in
theorem fr_lp_X9_few_74   : ∀ (Nzz : Nat) (azz : Int32 × Int32 × Int32 × Int32 × Ob) (yzz : Int64 × Ob), lp_X9_few_74  Nzz azz = some yzz → FrX d_X9_few_me azz.2.2.2.2 yzz.2 := by
  intro Nzz
  induction Nzz with
  | zero => intro azz yzz hzz; cases hzz
  | succ Nzz ihzz => intro azz yzz hzz; exact fr_lb_X9_few_74   ihzz hzz
set_option maxHeartbeats 200000 in
theorem fr_bk_X9_few_57 {rec_35_0 : Int32 × Int32 × Int32 × Ob → Option (Int64 × Ob)} {v1zz : Int32} {v2 : Int32} {v3 : Int32} {s0zz : Int64} {s1zz : Int32} {o_me : Ob} {yzz : Int64 × Ob} (hrec_35_0 : ∀ (azz : Int32 × Int32 × Int32 × Ob) (yzz : Int64 × Ob), rec_35_0 azz = some yzz → FrX d_X9_few_me azz.2.2.2 yzz.2) (hzz : bk_X9_few_57 rec_35_0 v1zz v2 v3 s0zz s1zz o_me = some yzz) : FrX d_X9_few_me o_me yzz.2 := by
  unfold bk_X9_few_57 at hzz
  have hzz := (z_gd hzz).2
  obtain ⟨o20, eo20, hzz⟩ := z_lt hzz
  have k1zz : FrX d_X9_few_me o_me o20 := by rw [eo20]; exact FrX.tM FrX.rf rfl
  obtain ⟨x21, ex21, hzz⟩ := z_lt hzz
  have wzz := hrec_35_0 _ _ hzz
  exact k1zz.tr wzz
set_option maxHeartbeats 200000 in
theorem fr_lb_X9_few_35 {rec_35_0 : Int32 × Int32 × Int32 × Ob → Option (Int64 × Ob)} {v1zz : Int32} {v2 : Int32} {v3 : Int32} {o_me : Ob} {yzz : Int64 × Ob} (hrec_35_0 : ∀ (azz : Int32 × Int32 × Int32 × Ob) (yzz : Int64 × Ob), rec_35_0 azz = some yzz → FrX d_X9_few_me azz.2.2.2 yzz.2) (hzz : lb_X9_few_35 rec_35_0 v1zz v2 v3 o_me = some yzz) : FrX d_X9_few_me o_me yzz.2 := by
  unfold lb_X9_few_35 at hzz
  rcases z_if hzz with ⟨-, hzz⟩ | ⟨-, hzz⟩
  · obtain ⟨x4zz, ex4, hzz⟩ := z_lt hzz
    have wzz := fr_lp_X9_few_74  _ _ _ hzz
    exact FrX.rf.tr wzz
  · rcases z_if hzz with ⟨-, hzz⟩ | ⟨-, hzz⟩
    · have wzz := fr_bk_X9_few_57 hrec_35_0 hzz
      exact FrX.rf.tr wzz
    · have wzz := fr_bk_X9_few_57 hrec_35_0 hzz
      exact FrX.rf.tr wzz
set_option maxHeartbeats 200000 in
theorem fr_lp_X9_few_35   : ∀ (Nzz : Nat) (azz : Int32 × Int32 × Int32 × Ob) (yzz : Int64 × Ob), lp_X9_few_35  Nzz azz = some yzz → FrX d_X9_few_me azz.2.2.2 yzz.2 := by
  intro Nzz
  induction Nzz with
  | zero => intro azz yzz hzz; cases hzz
  | succ Nzz ihzz => intro azz yzz hzz; exact fr_lb_X9_few_35   ihzz hzz
set_option maxHeartbeats 200000 in
theorem fr_f_X9_few {o_me : Ob} {p0zz : Int32} {p1zz : Int32} {yzz : Int64 × Ob}  (hzz : f_X9_few o_me p0zz p1zz = some yzz) : FrX d_X9_few_me o_me yzz.2 := by
  unfold f_X9_few at hzz
  obtain ⟨o1, eo1, hzz⟩ := z_lt hzz
  have k1zz : FrX d_X9_few_me o_me o1 := by rw [eo1]; exact FrX.sI FrX.rf rfl
  obtain ⟨z2, ez2, hzz⟩ := z_bd hzz
  rcases z_if hzz with ⟨-, hzz⟩ | ⟨-, hzz⟩
  · have hzz := Option.some.inj hzz
    subst hzz
    exact k1zz
  · obtain ⟨z3, ez3, hzz⟩ := z_bd hzz
    rcases z_if hzz with ⟨-, hzz⟩ | ⟨-, hzz⟩
    · have hzz := Option.some.inj hzz
      subst hzz
      exact k1zz
    · have wzz := fr_lp_X9_few_35  _ _ _ hzz
      exact k1zz.tr wzz
def d_X9_giveBack_me : DD := ([8], [], [3, 6, 7], [], [])
set_option maxHeartbeats 200000 in
theorem fr_lb_X9_giveBack_35 {rec_35_1 : Int32 × Int32 × Ob → Option (Ob)} {v1zz : Int32} {v2 : Int32} {o_me : Ob} {yzz : Ob} (hrec_35_1 : ∀ (azz : Int32 × Int32 × Ob) (yzz : Ob), rec_35_1 azz = some yzz → FrX d_X9_giveBack_me azz.2.2 yzz) (hzz : lb_X9_giveBack_35 rec_35_1 v1zz v2 o_me = some yzz) : FrX d_X9_giveBack_me o_me yzz := by
  unfold lb_X9_giveBack_35 at hzz
  rcases z_if hzz with ⟨-, hzz⟩ | ⟨-, hzz⟩
  · obtain ⟨o2, eo2, hzz⟩ := z_lt hzz
    have k1zz : FrX d_X9_giveBack_me o_me o2 := by rw [eo2]; exact FrX.sI FrX.rf rfl
    have hzz := Option.some.inj hzz
    subst hzz
    exact k1zz
  · have hzz := (z_gd hzz).2
    have hzz := (z_gd hzz).2
    obtain ⟨o5zz, eo5, hzz⟩ := z_lt hzz
    have k2zz : FrX d_X9_giveBack_me o_me o5zz := by rw [eo5]; exact FrX.tA FrX.rf rfl
    obtain ⟨x6, ex6, hzz⟩ := z_lt hzz
    have wzz := hrec_35_1 _ _ hzz
    exact k2zz.tr wzz
set_option maxHeartbeats 200000 in
theorem fr_lp_X9_giveBack_35   : ∀ (Nzz : Nat) (azz : Int32 × Int32 × Ob) (yzz : Ob), lp_X9_giveBack_35  Nzz azz = some yzz → FrX d_X9_giveBack_me azz.2.2 yzz := by
  intro Nzz
  induction Nzz with
  | zero => intro azz yzz hzz; cases hzz
  | succ Nzz ihzz => intro azz yzz hzz; exact fr_lb_X9_giveBack_35   ihzz hzz
set_option maxHeartbeats 200000 in
theorem fr_lb_X9_giveBack_8 {rec_8_0 : Int32 × Int32 × Ob → Option (Ob)} {v1zz : Int32} {v2 : Int32} {o_me : Ob} {yzz : Ob} (hrec_8_0 : ∀ (azz : Int32 × Int32 × Ob) (yzz : Ob), rec_8_0 azz = some yzz → FrX d_X9_giveBack_me azz.2.2 yzz) (hzz : lb_X9_giveBack_8 rec_8_0 v1zz v2 o_me = some yzz) : FrX d_X9_giveBack_me o_me yzz := by
  unfold lb_X9_giveBack_8 at hzz
  rcases z_if hzz with ⟨-, hzz⟩ | ⟨-, hzz⟩
  · have wzz := fr_lp_X9_giveBack_35  _ _ _ hzz
    exact FrX.rf.tr wzz
  · have hzz := (z_gd hzz).2
    have hzz := (z_gd hzz).2
    obtain ⟨o9, eo9, hzz⟩ := z_lt hzz
    have k1zz : FrX d_X9_giveBack_me o_me o9 := by rw [eo9]; exact FrX.tA FrX.rf rfl
    obtain ⟨x10, ex10, hzz⟩ := z_lt hzz
    have wzz := hrec_8_0 _ _ hzz
    exact k1zz.tr wzz
set_option maxHeartbeats 200000 in
theorem fr_lp_X9_giveBack_8   : ∀ (Nzz : Nat) (azz : Int32 × Int32 × Ob) (yzz : Ob), lp_X9_giveBack_8  Nzz azz = some yzz → FrX d_X9_giveBack_me azz.2.2 yzz := by
  intro Nzz
  induction Nzz with
  | zero => intro azz yzz hzz; cases hzz
  | succ Nzz ihzz => intro azz yzz hzz; exact fr_lb_X9_giveBack_8   ihzz hzz
set_option maxHeartbeats 200000 in
theorem fr_f_X9_giveBack {o_me : Ob} {p0zz : Int32} {yzz : Ob}  (hzz : f_X9_giveBack o_me p0zz = some yzz) : FrX d_X9_giveBack_me o_me yzz := by
  unfold f_X9_giveBack at hzz
  obtain ⟨z1, ez1, hzz⟩ := z_bd hzz
  have k1zz : FrX d_X9_giveBack_me o_me z1 := FrX.rf.tr ((fr_f_X9_putBack  ez1).mono rfl)
  have wzz := fr_lp_X9_giveBack_8  _ _ _ hzz
  exact k1zz.tr wzz
def d_X9_layLine_me : DD := ([], [], [50, 51], [], [])
set_option maxHeartbeats 200000 in
theorem fr_bk_X9_layLine_120 {rec_46_1 : Int32 × Int32 × Ob → Option (Int32 × Ob)} {rec_89_3 : Int32 × Int32 × Int32 × Int32 × Ob → Option (Int32 × Ob)} {v1zz : Int32} {v2 : Int32} {v3 : Int32} {v4zz : Int32} {o_me : Ob} {yzz : Int32 × Ob} (hrec_46_1 : ∀ (azz : Int32 × Int32 × Ob) (yzz : Int32 × Ob), rec_46_1 azz = some yzz → FrX d_X9_layLine_me azz.2.2 yzz.2) (hrec_89_3 : ∀ (azz : Int32 × Int32 × Int32 × Int32 × Ob) (yzz : Int32 × Ob), rec_89_3 azz = some yzz → FrX d_X9_layLine_me azz.2.2.2.2 yzz.2) (hzz : bk_X9_layLine_120 rec_46_1 rec_89_3 v1zz v2 v3 v4zz o_me = some yzz) : FrX d_X9_layLine_me o_me yzz.2 := by
  unfold bk_X9_layLine_120 at hzz
  obtain ⟨x8, ex8, hzz⟩ := z_lt hzz
  have wzz := hrec_89_3 _ _ hzz
  exact FrX.rf.tr wzz
set_option maxHeartbeats 200000 in
theorem fr_lb_X9_layLine_89 {rec_46_1 : Int32 × Int32 × Ob → Option (Int32 × Ob)} {rec_89_3 : Int32 × Int32 × Int32 × Int32 × Ob → Option (Int32 × Ob)} {v1zz : Int32} {v2 : Int32} {v3 : Int32} {v4zz : Int32} {o_me : Ob} {yzz : Int32 × Ob} (hrec_46_1 : ∀ (azz : Int32 × Int32 × Ob) (yzz : Int32 × Ob), rec_46_1 azz = some yzz → FrX d_X9_layLine_me azz.2.2 yzz.2) (hrec_89_3 : ∀ (azz : Int32 × Int32 × Int32 × Int32 × Ob) (yzz : Int32 × Ob), rec_89_3 azz = some yzz → FrX d_X9_layLine_me azz.2.2.2.2 yzz.2) (hzz : lb_X9_layLine_89 rec_46_1 rec_89_3 v1zz v2 v3 v4zz o_me = some yzz) : FrX d_X9_layLine_me o_me yzz.2 := by
  unfold lb_X9_layLine_89 at hzz
  rcases z_if hzz with ⟨-, hzz⟩ | ⟨-, hzz⟩
  · have wzz := hrec_46_1 _ _ hzz
    exact FrX.rf.tr wzz
  · have hzz := (z_gd hzz).2
    rcases z_if hzz with ⟨-, hzz⟩ | ⟨-, hzz⟩
    · have hzz := (z_gd hzz).2
      obtain ⟨o10, eo10, hzz⟩ := z_lt hzz
      have k1zz : FrX d_X9_layLine_me o_me o10 := by rw [eo10]; exact FrX.tA FrX.rf rfl
      obtain ⟨x11, ex11, hzz⟩ := z_lt hzz
      have wzz := fr_bk_X9_layLine_120 hrec_46_1 hrec_89_3 hzz
      exact k1zz.tr wzz
    · have wzz := fr_bk_X9_layLine_120 hrec_46_1 hrec_89_3 hzz
      exact FrX.rf.tr wzz
set_option maxHeartbeats 200000 in
theorem fr_lp_X9_layLine_89 {rec_46_1 : Int32 × Int32 × Ob → Option (Int32 × Ob)} (hrec_46_1 : ∀ (azz : Int32 × Int32 × Ob) (yzz : Int32 × Ob), rec_46_1 azz = some yzz → FrX d_X9_layLine_me azz.2.2 yzz.2) : ∀ (Nzz : Nat) (azz : Int32 × Int32 × Int32 × Int32 × Ob) (yzz : Int32 × Ob), lp_X9_layLine_89 rec_46_1 Nzz azz = some yzz → FrX d_X9_layLine_me azz.2.2.2.2 yzz.2 := by
  intro Nzz
  induction Nzz with
  | zero => intro azz yzz hzz; cases hzz
  | succ Nzz ihzz => intro azz yzz hzz; exact fr_lb_X9_layLine_89  hrec_46_1 ihzz hzz
set_option maxHeartbeats 200000 in
theorem fr_bk_X9_layLine_79 {rec_46_1 : Int32 × Int32 × Ob → Option (Int32 × Ob)} {v1zz : Int32} {v2 : Int32} {v3 : Int32} {o_me : Ob} {yzz : Int32 × Ob} (hrec_46_1 : ∀ (azz : Int32 × Int32 × Ob) (yzz : Int32 × Ob), rec_46_1 azz = some yzz → FrX d_X9_layLine_me azz.2.2 yzz.2) (hzz : bk_X9_layLine_79 rec_46_1 v1zz v2 v3 o_me = some yzz) : FrX d_X9_layLine_me o_me yzz.2 := by
  unfold bk_X9_layLine_79 at hzz
  obtain ⟨x6, ex6, hzz⟩ := z_lt hzz
  have wzz := fr_lp_X9_layLine_89 hrec_46_1 _ _ _ hzz
  exact FrX.rf.tr wzz
set_option maxHeartbeats 200000 in
theorem fr_lb_X9_layLine_46 {rec_46_1 : Int32 × Int32 × Ob → Option (Int32 × Ob)} {v1zz : Int32} {v2 : Int32} {o_me : Ob} {yzz : Int32 × Ob} (hrec_46_1 : ∀ (azz : Int32 × Int32 × Ob) (yzz : Int32 × Ob), rec_46_1 azz = some yzz → FrX d_X9_layLine_me azz.2.2 yzz.2) (hzz : lb_X9_layLine_46 rec_46_1 v1zz v2 o_me = some yzz) : FrX d_X9_layLine_me o_me yzz.2 := by
  unfold lb_X9_layLine_46 at hzz
  rcases z_if hzz with ⟨-, hzz⟩ | ⟨-, hzz⟩
  · have hzz := Option.some.inj hzz
    subst hzz
    exact FrX.rf
  · obtain ⟨x2zz, ex2zz, hzz⟩ := z_lt hzz
    have hzz := (z_gd hzz).2
    obtain ⟨x4zz, ex4, hzz⟩ := z_lt hzz
    obtain ⟨z5, ez5, hzz⟩ := z_bd hzz
    rcases z_if hzz with ⟨-, hzz⟩ | ⟨-, hzz⟩
    · have wzz := fr_bk_X9_layLine_79 hrec_46_1 hzz
      exact FrX.rf.tr wzz
    · have hzz := (z_gd hzz).2
      obtain ⟨o13, eo13, hzz⟩ := z_lt hzz
      have k1zz : FrX d_X9_layLine_me o_me o13 := by rw [eo13]; exact FrX.tA FrX.rf rfl
      obtain ⟨x14, ex14, hzz⟩ := z_lt hzz
      have wzz := fr_bk_X9_layLine_79 hrec_46_1 hzz
      exact k1zz.tr wzz
set_option maxHeartbeats 200000 in
theorem fr_lp_X9_layLine_46   : ∀ (Nzz : Nat) (azz : Int32 × Int32 × Ob) (yzz : Int32 × Ob), lp_X9_layLine_46  Nzz azz = some yzz → FrX d_X9_layLine_me azz.2.2 yzz.2 := by
  intro Nzz
  induction Nzz with
  | zero => intro azz yzz hzz; cases hzz
  | succ Nzz ihzz => intro azz yzz hzz; exact fr_lb_X9_layLine_46   ihzz hzz
set_option maxHeartbeats 200000 in
theorem fr_bk_X9_layLine_40 {rec_13_0 : Int32 × Int32 × Int32 × Ob → Option (Int32 × Ob)} {v1zz : Int32} {v2 : Int32} {v3 : Int32} {o_me : Ob} {yzz : Int32 × Ob} (hrec_13_0 : ∀ (azz : Int32 × Int32 × Int32 × Ob) (yzz : Int32 × Ob), rec_13_0 azz = some yzz → FrX d_X9_layLine_me azz.2.2.2 yzz.2) (hzz : bk_X9_layLine_40 rec_13_0 v1zz v2 v3 o_me = some yzz) : FrX d_X9_layLine_me o_me yzz.2 := by
  unfold bk_X9_layLine_40 at hzz
  obtain ⟨x16, ex16, hzz⟩ := z_lt hzz
  have wzz := hrec_13_0 _ _ hzz
  exact FrX.rf.tr wzz
set_option maxHeartbeats 200000 in
theorem fr_lb_X9_layLine_13 {rec_13_0 : Int32 × Int32 × Int32 × Ob → Option (Int32 × Ob)} {v1zz : Int32} {v2 : Int32} {v3 : Int32} {o_me : Ob} {yzz : Int32 × Ob} (hrec_13_0 : ∀ (azz : Int32 × Int32 × Int32 × Ob) (yzz : Int32 × Ob), rec_13_0 azz = some yzz → FrX d_X9_layLine_me azz.2.2.2 yzz.2) (hzz : lb_X9_layLine_13 rec_13_0 v1zz v2 v3 o_me = some yzz) : FrX d_X9_layLine_me o_me yzz.2 := by
  unfold lb_X9_layLine_13 at hzz
  rcases z_if hzz with ⟨-, hzz⟩ | ⟨-, hzz⟩
  · have wzz := fr_lp_X9_layLine_46  _ _ _ hzz
    exact FrX.rf.tr wzz
  · have hzz := (z_gd hzz).2
    rcases z_if hzz with ⟨-, hzz⟩ | ⟨-, hzz⟩
    · have hzz := (z_gd hzz).2
      obtain ⟨o18, eo18, hzz⟩ := z_lt hzz
      have k1zz : FrX d_X9_layLine_me o_me o18 := by rw [eo18]; exact FrX.tA FrX.rf rfl
      obtain ⟨x19, ex19, hzz⟩ := z_lt hzz
      have wzz := fr_bk_X9_layLine_40 hrec_13_0 hzz
      exact k1zz.tr wzz
    · have wzz := fr_bk_X9_layLine_40 hrec_13_0 hzz
      exact FrX.rf.tr wzz
set_option maxHeartbeats 200000 in
theorem fr_lp_X9_layLine_13   : ∀ (Nzz : Nat) (azz : Int32 × Int32 × Int32 × Ob) (yzz : Int32 × Ob), lp_X9_layLine_13  Nzz azz = some yzz → FrX d_X9_layLine_me azz.2.2.2 yzz.2 := by
  intro Nzz
  induction Nzz with
  | zero => intro azz yzz hzz; cases hzz
  | succ Nzz ihzz => intro azz yzz hzz; exact fr_lb_X9_layLine_13   ihzz hzz
set_option maxHeartbeats 200000 in
theorem fr_f_X9_layLine {o_me : Ob} {yzz : Int32 × Ob}  (hzz : f_X9_layLine o_me = some yzz) : FrX d_X9_layLine_me o_me yzz.2 := by
  unfold f_X9_layLine at hzz
  obtain ⟨x1zz, ex1, hzz⟩ := z_lt hzz
  have wzz := fr_lp_X9_layLine_13  _ _ _ hzz
  exact FrX.rf.tr wzz
def d_X9_heir_me : DD := ([0], [], [50, 51], [], [])
set_option maxHeartbeats 200000 in
theorem fr_f_X9_heir {o_me : Ob} {p0zz : Int32} {yzz : Int32 × Ob}  (hzz : f_X9_heir o_me p0zz = some yzz) : FrX d_X9_heir_me o_me yzz.2 := by
  unfold f_X9_heir at hzz
  obtain ⟨o1, eo1, hzz⟩ := z_lt hzz
  have k1zz : FrX d_X9_heir_me o_me o1 := by rw [eo1]; exact FrX.sI FrX.rf rfl
  obtain ⟨z2, ez2, hzz⟩ := z_bd hzz
  have k2zz : FrX d_X9_heir_me o_me z2.2 := k1zz.tr ((fr_f_X9_layLine  ez2).mono rfl)
  rcases z_if hzz with ⟨-, hzz⟩ | ⟨-, hzz⟩
  · have hzz := Option.some.inj hzz
    subst hzz
    exact k2zz
  · obtain ⟨z3, ez3, hzz⟩ := z_bd hzz
    rcases z_if hzz with ⟨-, hzz⟩ | ⟨-, hzz⟩
    · have hzz := Option.some.inj hzz
      subst hzz
      exact k2zz
    · have hzz := (z_gd hzz).2
      have hzz := Option.some.inj hzz
      subst hzz
      exact k2zz
def d_X9_image_me : DD := ([0, 1], [], [2, 4, 5], [], [])
set_option maxHeartbeats 200000 in
theorem fr_lb_X9_image_23 {rec_23_0 : Int32 × Int32 × Ob → Option (Int32 × Ob)} {v1zz : Int32} {v2 : Int32} {o_me : Ob} {yzz : Int32 × Ob} (hrec_23_0 : ∀ (azz : Int32 × Int32 × Ob) (yzz : Int32 × Ob), rec_23_0 azz = some yzz → FrX d_X9_image_me azz.2.2 yzz.2) (hzz : lb_X9_image_23 rec_23_0 v1zz v2 o_me = some yzz) : FrX d_X9_image_me o_me yzz.2 := by
  unfold lb_X9_image_23 at hzz
  rcases z_if hzz with ⟨-, hzz⟩ | ⟨-, hzz⟩
  · have hzz := (z_gd hzz).2
    obtain ⟨o4zz, eo4, hzz⟩ := z_lt hzz
    have k1zz : FrX d_X9_image_me o_me o4zz := by rw [eo4]; exact FrX.tA FrX.rf rfl
    obtain ⟨z5, ez5, hzz⟩ := z_bd hzz
    have k2zz : FrX d_X9_image_me o_me z5.2 := k1zz.tr ((fr_f_X9_tell  ez5).mono rfl)
    have hzz := Option.some.inj hzz
    subst hzz
    exact k2zz
  · have hzz := (z_gd hzz).2
    have hzz := (z_gd hzz).2
    obtain ⟨o8zz, eo8, hzz⟩ := z_lt hzz
    have k3zz : FrX d_X9_image_me o_me o8zz := by rw [eo8]; exact FrX.tA FrX.rf rfl
    obtain ⟨x9, ex9, hzz⟩ := z_lt hzz
    have wzz := hrec_23_0 _ _ hzz
    exact k3zz.tr wzz
set_option maxHeartbeats 200000 in
theorem fr_lp_X9_image_23   : ∀ (Nzz : Nat) (azz : Int32 × Int32 × Ob) (yzz : Int32 × Ob), lp_X9_image_23  Nzz azz = some yzz → FrX d_X9_image_me azz.2.2 yzz.2 := by
  intro Nzz
  induction Nzz with
  | zero => intro azz yzz hzz; cases hzz
  | succ Nzz ihzz => intro azz yzz hzz; exact fr_lb_X9_image_23   ihzz hzz
set_option maxHeartbeats 200000 in
theorem fr_f_X9_image {o_me : Ob} {p0zz : Int32} {yzz : Int32 × Ob}  (hzz : f_X9_image o_me p0zz = some yzz) : FrX d_X9_image_me o_me yzz.2 := by
  unfold f_X9_image at hzz
  obtain ⟨o1, eo1, hzz⟩ := z_lt hzz
  have k1zz : FrX d_X9_image_me o_me o1 := by rw [eo1]; exact FrX.sI FrX.rf rfl
  obtain ⟨z2, ez2, hzz⟩ := z_bd hzz
  rcases z_if hzz with ⟨-, hzz⟩ | ⟨-, hzz⟩
  · obtain ⟨z10, ez10, hzz⟩ := z_bd hzz
    have k2zz : FrX d_X9_image_me o_me z10.2 := k1zz.tr ((fr_f_X9_tell  ez10).mono rfl)
    have hzz := Option.some.inj hzz
    subst hzz
    exact k2zz
  · have wzz := fr_lp_X9_image_23  _ _ _ hzz
    exact k1zz.tr wzz
def d_X9_ladder_me : DD := ([0], [], [], [52], [])
set_option maxHeartbeats 200000 in
theorem fr_bk_X9_ladder_98 {rec_42_0 : Int32 × Int32 × Int32 × Ob → Option (Int64 × Ob)} {v1zz : Int32} {v2 : Int32} {v3 : Int32} {o_me : Ob} {yzz : Int64 × Ob} (hrec_42_0 : ∀ (azz : Int32 × Int32 × Int32 × Ob) (yzz : Int64 × Ob), rec_42_0 azz = some yzz → FrX d_X9_ladder_me azz.2.2.2 yzz.2) (hzz : bk_X9_ladder_98 rec_42_0 v1zz v2 v3 o_me = some yzz) : FrX d_X9_ladder_me o_me yzz.2 := by
  unfold bk_X9_ladder_98 at hzz
  obtain ⟨x8, ex8, hzz⟩ := z_lt hzz
  have wzz := hrec_42_0 _ _ hzz
  exact FrX.rf.tr wzz
set_option maxHeartbeats 200000 in
theorem fr_lb_X9_ladder_57 {rec_42_0 : Int32 × Int32 × Int32 × Ob → Option (Int64 × Ob)} {rec_57_1 : Int32 × Int32 × Int32 × Int32 × Ob → Option (Int64 × Ob)} {v1zz : Int32} {v2 : Int32} {v3 : Int32} {v4zz : Int32} {o_me : Ob} {yzz : Int64 × Ob} (hrec_42_0 : ∀ (azz : Int32 × Int32 × Int32 × Ob) (yzz : Int64 × Ob), rec_42_0 azz = some yzz → FrX d_X9_ladder_me azz.2.2.2 yzz.2) (hrec_57_1 : ∀ (azz : Int32 × Int32 × Int32 × Int32 × Ob) (yzz : Int64 × Ob), rec_57_1 azz = some yzz → FrX d_X9_ladder_me azz.2.2.2.2 yzz.2) (hzz : lb_X9_ladder_57 rec_42_0 rec_57_1 v1zz v2 v3 v4zz o_me = some yzz) : FrX d_X9_ladder_me o_me yzz.2 := by
  unfold lb_X9_ladder_57 at hzz
  rcases z_if hzz with ⟨-, hzz⟩ | ⟨-, hzz⟩
  · have wzz := fr_bk_X9_ladder_98 hrec_42_0 hzz
    exact FrX.rf.tr wzz
  · rcases z_if hzz with ⟨-, hzz⟩ | ⟨-, hzz⟩
    · have wzz := fr_bk_X9_ladder_98 hrec_42_0 hzz
      exact FrX.rf.tr wzz
    · rcases z_if hzz with ⟨-, hzz⟩ | ⟨-, hzz⟩
      · have wzz := fr_bk_X9_ladder_98 hrec_42_0 hzz
        exact FrX.rf.tr wzz
      · have hzz := (z_gd hzz).2
        have hzz := (z_gd hzz).2
        have hzz := (z_gd hzz).2
        obtain ⟨o12, eo12, hzz⟩ := z_lt hzz
        have k1zz : FrX d_X9_ladder_me o_me o12 := by rw [eo12]; exact FrX.tM FrX.rf rfl
        obtain ⟨x13, ex13, hzz⟩ := z_lt hzz
        have wzz := hrec_57_1 _ _ hzz
        exact k1zz.tr wzz
set_option maxHeartbeats 200000 in
theorem fr_lp_X9_ladder_57 {rec_42_0 : Int32 × Int32 × Int32 × Ob → Option (Int64 × Ob)} (hrec_42_0 : ∀ (azz : Int32 × Int32 × Int32 × Ob) (yzz : Int64 × Ob), rec_42_0 azz = some yzz → FrX d_X9_ladder_me azz.2.2.2 yzz.2) : ∀ (Nzz : Nat) (azz : Int32 × Int32 × Int32 × Int32 × Ob) (yzz : Int64 × Ob), lp_X9_ladder_57 rec_42_0 Nzz azz = some yzz → FrX d_X9_ladder_me azz.2.2.2.2 yzz.2 := by
  intro Nzz
  induction Nzz with
  | zero => intro azz yzz hzz; cases hzz
  | succ Nzz ihzz => intro azz yzz hzz; exact fr_lb_X9_ladder_57  hrec_42_0 ihzz hzz
set_option maxHeartbeats 200000 in
theorem fr_lb_X9_ladder_42 {rec_42_0 : Int32 × Int32 × Int32 × Ob → Option (Int64 × Ob)} {v1zz : Int32} {v2 : Int32} {v3 : Int32} {o_me : Ob} {yzz : Int64 × Ob} (hrec_42_0 : ∀ (azz : Int32 × Int32 × Int32 × Ob) (yzz : Int64 × Ob), rec_42_0 azz = some yzz → FrX d_X9_ladder_me azz.2.2.2 yzz.2) (hzz : lb_X9_ladder_42 rec_42_0 v1zz v2 v3 o_me = some yzz) : FrX d_X9_ladder_me o_me yzz.2 := by
  unfold lb_X9_ladder_42 at hzz
  rcases z_if hzz with ⟨-, hzz⟩ | ⟨-, hzz⟩
  · have hzz := (z_gd hzz).2
    have hzz := Option.some.inj hzz
    subst hzz
    exact FrX.rf
  · have hzz := (z_gd hzz).2
    obtain ⟨o7, eo7, hzz⟩ := z_lt hzz
    have k1zz : FrX d_X9_ladder_me o_me o7 := by rw [eo7]; exact FrX.tM FrX.rf rfl
    have wzz := fr_lp_X9_ladder_57 hrec_42_0 _ _ _ hzz
    exact k1zz.tr wzz
set_option maxHeartbeats 200000 in
theorem fr_lp_X9_ladder_42   : ∀ (Nzz : Nat) (azz : Int32 × Int32 × Int32 × Ob) (yzz : Int64 × Ob), lp_X9_ladder_42  Nzz azz = some yzz → FrX d_X9_ladder_me azz.2.2.2 yzz.2 := by
  intro Nzz
  induction Nzz with
  | zero => intro azz yzz hzz; cases hzz
  | succ Nzz ihzz => intro azz yzz hzz; exact fr_lb_X9_ladder_42   ihzz hzz
set_option maxHeartbeats 200000 in
theorem fr_f_X9_ladder {o_me : Ob} {p0zz : Int32} {p1zz : Int32} {yzz : Int64 × Ob}  (hzz : f_X9_ladder o_me p0zz p1zz = some yzz) : FrX d_X9_ladder_me o_me yzz.2 := by
  unfold f_X9_ladder at hzz
  obtain ⟨o1, eo1, hzz⟩ := z_lt hzz
  have k1zz : FrX d_X9_ladder_me o_me o1 := by rw [eo1]; exact FrX.sI FrX.rf rfl
  obtain ⟨z2, ez2, hzz⟩ := z_bd hzz
  rcases z_if hzz with ⟨-, hzz⟩ | ⟨-, hzz⟩
  · have hzz := Option.some.inj hzz
    subst hzz
    exact k1zz
  · obtain ⟨z3, ez3, hzz⟩ := z_bd hzz
    rcases z_if hzz with ⟨-, hzz⟩ | ⟨-, hzz⟩
    · have hzz := Option.some.inj hzz
      subst hzz
      exact k1zz
    · obtain ⟨o4zz, eo4, hzz⟩ := z_lt hzz
      have k2zz : FrX d_X9_ladder_me o_me o4zz := by rw [eo4]; exact FrX.tM k1zz rfl
      have wzz := fr_lp_X9_ladder_42  _ _ _ hzz
      exact k2zz.tr wzz
def d_X9_leaf_me : DD := ([14, 15, 16, 18, 19, 23, 26], [17], [24, 25], [], [])
set_option maxHeartbeats 200000 in
theorem fr_bk_X9_leaf_19 {v2 : Int32} {v3 : Int32} {s0zz : Int32} {o_me : Ob} {yzz : Ob}  (hzz : bk_X9_leaf_19 v2 v3 s0zz o_me = some yzz) : FrX d_X9_leaf_me o_me yzz := by
  unfold bk_X9_leaf_19 at hzz
  obtain ⟨z1, ez1, hzz⟩ := z_bd hzz
  have k1zz : FrX d_X9_leaf_me o_me z1 := FrX.rf.tr ((fr_f_X9_must  ez1).mono rfl)
  rcases z_if hzz with ⟨-, hzz⟩ | ⟨-, hzz⟩
  · obtain ⟨z2, ez2, hzz⟩ := z_bd hzz
    have k2zz : FrX d_X9_leaf_me o_me z2 := k1zz.tr ((fr_f_X9_emit  ez2).mono rfl)
    obtain ⟨o3zz, eo3, hzz⟩ := z_lt hzz
    have k3zz : FrX d_X9_leaf_me o_me o3zz := by rw [eo3]; exact FrX.sI k2zz rfl
    have hzz := Option.some.inj hzz
    subst hzz
    exact k3zz
  · have hzz := Option.some.inj hzz
    subst hzz
    exact k1zz
set_option maxHeartbeats 200000 in
theorem fr_bk_X9_leaf_18 {v2 : Int32} {v3 : Int32} {o_me : Ob} {yzz : Ob}  (hzz : bk_X9_leaf_18 v2 v3 o_me = some yzz) : FrX d_X9_leaf_me o_me yzz := by
  unfold bk_X9_leaf_18 at hzz
  have wzz := fr_bk_X9_leaf_19  hzz
  exact FrX.rf.tr wzz
set_option maxHeartbeats 200000 in
theorem fr_f_X9_leaf {o_me : Ob} {p0zz : Int32} {p1zz : Int32} {p2zz : Int32} {yzz : Ob}  (hzz : f_X9_leaf o_me p0zz p1zz p2zz = some yzz) : FrX d_X9_leaf_me o_me yzz := by
  unfold f_X9_leaf at hzz
  rcases z_if hzz with ⟨-, hzz⟩ | ⟨-, hzz⟩
  · have wzz := fr_bk_X9_leaf_18  hzz
    exact FrX.rf.tr wzz
  · rcases z_if hzz with ⟨-, hzz⟩ | ⟨-, hzz⟩
    · have wzz := fr_bk_X9_leaf_18  hzz
      exact FrX.rf.tr wzz
    · have wzz := fr_bk_X9_leaf_19  hzz
      exact FrX.rf.tr wzz
def d_X9_number_me : DD := ([14, 15, 16, 18, 19], [17], [], [], [])
set_option maxHeartbeats 200000 in
theorem fr_bk_X9_number_33 {v5 : Int32} {s0zz : Int32} {o_me : Ob} {yzz : Int32 × Ob}  (hzz : bk_X9_number_33 v5 s0zz o_me = some yzz) : FrX d_X9_number_me o_me yzz.2 := by
  unfold bk_X9_number_33 at hzz
  obtain ⟨z2, ez2, hzz⟩ := z_bd hzz
  have k1zz : FrX d_X9_number_me o_me z2 := FrX.rf.tr ((fr_f_X9_must  ez2).mono rfl)
  have hzz := Option.some.inj hzz
  subst hzz
  exact k1zz
set_option maxHeartbeats 200000 in
theorem fr_bk_X9_number_32 {v5 : Int32} {o_me : Ob} {yzz : Int32 × Ob}  (hzz : bk_X9_number_32 v5 o_me = some yzz) : FrX d_X9_number_me o_me yzz.2 := by
  unfold bk_X9_number_32 at hzz
  have wzz := fr_bk_X9_number_33  hzz
  exact FrX.rf.tr wzz
set_option maxHeartbeats 200000 in
theorem fr_f_X9_number {o_me : Ob} {p0zz : Int64} {p1zz : Int64} {yzz : Int32 × Ob}  (hzz : f_X9_number o_me p0zz p1zz = some yzz) : FrX d_X9_number_me o_me yzz.2 := by
  unfold f_X9_number at hzz
  obtain ⟨x1zz, ex1, hzz⟩ := z_lt hzz
  rcases z_if hzz with ⟨-, hzz⟩ | ⟨-, hzz⟩
  · obtain ⟨z3, ez3, hzz⟩ := z_bd hzz
    rcases z_if hzz with ⟨-, hzz⟩ | ⟨-, hzz⟩
    · have wzz := fr_bk_X9_number_32  hzz
      exact FrX.rf.tr wzz
    · have wzz := fr_bk_X9_number_33  hzz
      exact FrX.rf.tr wzz
  · have wzz := fr_bk_X9_number_32  hzz
    exact FrX.rf.tr wzz
def d_X9_openBracket_me : DD := ([14, 15, 16, 18, 19, 29, 30], [17], [27, 28], [], [])
set_option maxHeartbeats 200000 in
theorem fr_bk_X9_openBracket_15 {v1zz : Int32} {s0zz : Int32} {o_me : Ob} {yzz : Ob}  (hzz : bk_X9_openBracket_15 v1zz s0zz o_me = some yzz) : FrX d_X9_openBracket_me o_me yzz := by
  unfold bk_X9_openBracket_15 at hzz
  obtain ⟨z1, ez1, hzz⟩ := z_bd hzz
  have k1zz : FrX d_X9_openBracket_me o_me z1 := FrX.rf.tr ((fr_f_X9_must  ez1).mono rfl)
  rcases z_if hzz with ⟨-, hzz⟩ | ⟨-, hzz⟩
  · obtain ⟨o2, eo2, hzz⟩ := z_lt hzz
    have k2zz : FrX d_X9_openBracket_me o_me o2 := by rw [eo2]; exact FrX.sI k1zz rfl
    obtain ⟨z3, ez3, hzz⟩ := z_bd hzz
    have k3zz : FrX d_X9_openBracket_me o_me z3 := k2zz.tr ((fr_f_X9_push  ez3).mono rfl)
    have hzz := Option.some.inj hzz
    subst hzz
    exact k3zz
  · have hzz := Option.some.inj hzz
    subst hzz
    exact k1zz
set_option maxHeartbeats 200000 in
theorem fr_f_X9_openBracket {o_me : Ob} {p0zz : Int32} {yzz : Ob}  (hzz : f_X9_openBracket o_me p0zz = some yzz) : FrX d_X9_openBracket_me o_me yzz := by
  unfold f_X9_openBracket at hzz
  rcases z_if hzz with ⟨-, hzz⟩ | ⟨-, hzz⟩
  · have wzz := fr_bk_X9_openBracket_15  hzz
    exact FrX.rf.tr wzz
  · have wzz := fr_bk_X9_openBracket_15  hzz
    exact FrX.rf.tr wzz
def d_X9_readPart_me : DD := ([14, 15, 16, 18, 19, 23, 26, 29, 30], [17], [24, 25, 27, 28], [], [])
set_option maxHeartbeats 200000 in
theorem fr_bk_X9_readPart_99 {v1zz : Int32} {s0zz : Int32} {s1zz : Int32} {s2zz : Int32} {o_me : Ob} {yzz : Int32 × Ob}  (hzz : bk_X9_readPart_99 v1zz s0zz s1zz s2zz o_me = some yzz) : FrX d_X9_readPart_me o_me yzz.2 := by
  unfold bk_X9_readPart_99 at hzz
  obtain ⟨z3, ez3, hzz⟩ := z_bd hzz
  have k1zz : FrX d_X9_readPart_me o_me z3 := FrX.rf.tr ((fr_f_X9_leaf  ez3).mono rfl)
  rcases z_if hzz with ⟨-, hzz⟩ | ⟨-, hzz⟩
  · have hzz := Option.some.inj hzz
    subst hzz
    exact k1zz
  · rcases z_if hzz with ⟨-, hzz⟩ | ⟨-, hzz⟩
    · have hzz := Option.some.inj hzz
      subst hzz
      exact k1zz
    · rcases z_if hzz with ⟨-, hzz⟩ | ⟨-, hzz⟩
      · obtain ⟨x4zz, ex4, hzz⟩ := z_lt hzz
        obtain ⟨z5, ez5, hzz⟩ := z_bd hzz
        have k2zz : FrX d_X9_readPart_me o_me z5.2 := k1zz.tr ((fr_f_X9_number  ez5).mono rfl)
        have hzz := (z_gd hzz).2
        obtain ⟨o7, eo7, hzz⟩ := z_lt hzz
        have k3zz : FrX d_X9_readPart_me o_me o7 := by rw [eo7]; exact FrX.tA k2zz rfl
        have hzz := Option.some.inj hzz
        subst hzz
        exact k3zz
      · have hzz := Option.some.inj hzz
        subst hzz
        exact k1zz
set_option maxHeartbeats 200000 in
theorem fr_bk_X9_readPart_86 {v1zz : Int32} {v2 : Int32} {s0zz : Int32} {s1zz : Int32} {o_me : Ob} {yzz : Int32 × Ob}  (hzz : bk_X9_readPart_86 v1zz v2 s0zz s1zz o_me = some yzz) : FrX d_X9_readPart_me o_me yzz.2 := by
  unfold bk_X9_readPart_86 at hzz
  rcases z_if hzz with ⟨-, hzz⟩ | ⟨-, hzz⟩
  · have wzz := fr_bk_X9_readPart_99  hzz
    exact FrX.rf.tr wzz
  · have wzz := fr_bk_X9_readPart_99  hzz
    exact FrX.rf.tr wzz
set_option maxHeartbeats 200000 in
theorem fr_bk_X9_readPart_76 {v1zz : Int32} {v2 : Int32} {s0zz : Int32} {o_me : Ob} {yzz : Int32 × Ob}  (hzz : bk_X9_readPart_76 v1zz v2 s0zz o_me = some yzz) : FrX d_X9_readPart_me o_me yzz.2 := by
  unfold bk_X9_readPart_76 at hzz
  rcases z_if hzz with ⟨-, hzz⟩ | ⟨-, hzz⟩
  · have wzz := fr_bk_X9_readPart_86  hzz
    exact FrX.rf.tr wzz
  · have wzz := fr_bk_X9_readPart_86  hzz
    exact FrX.rf.tr wzz
set_option maxHeartbeats 200000 in
theorem fr_bk_X9_readPart_71 {v1zz : Int32} {v2 : Int32} {o_me : Ob} {yzz : Int32 × Ob}  (hzz : bk_X9_readPart_71 v1zz v2 o_me = some yzz) : FrX d_X9_readPart_me o_me yzz.2 := by
  unfold bk_X9_readPart_71 at hzz
  have wzz := fr_bk_X9_readPart_76  hzz
  exact FrX.rf.tr wzz
set_option maxHeartbeats 200000 in
theorem fr_bk_X9_readPart_60 {v1zz : Int32} {s0zz : Int32} {o_me : Ob} {yzz : Int32 × Ob}  (hzz : bk_X9_readPart_60 v1zz s0zz o_me = some yzz) : FrX d_X9_readPart_me o_me yzz.2 := by
  unfold bk_X9_readPart_60 at hzz
  rcases z_if hzz with ⟨-, hzz⟩ | ⟨-, hzz⟩
  · rcases z_if hzz with ⟨-, hzz⟩ | ⟨-, hzz⟩
    · have wzz := fr_bk_X9_readPart_76  hzz
      exact FrX.rf.tr wzz
    · have wzz := fr_bk_X9_readPart_71  hzz
      exact FrX.rf.tr wzz
  · have wzz := fr_bk_X9_readPart_71  hzz
    exact FrX.rf.tr wzz
set_option maxHeartbeats 200000 in
theorem fr_bk_X9_readPart_59 {v1zz : Int32} {o_me : Ob} {yzz : Int32 × Ob}  (hzz : bk_X9_readPart_59 v1zz o_me = some yzz) : FrX d_X9_readPart_me o_me yzz.2 := by
  unfold bk_X9_readPart_59 at hzz
  have wzz := fr_bk_X9_readPart_60  hzz
  exact FrX.rf.tr wzz
set_option maxHeartbeats 200000 in
theorem fr_bk_X9_readPart_35 {s0zz : Int32} {o_me : Ob} {yzz : Int32 × Ob}  (hzz : bk_X9_readPart_35 s0zz o_me = some yzz) : FrX d_X9_readPart_me o_me yzz.2 := by
  unfold bk_X9_readPart_35 at hzz
  rcases z_if hzz with ⟨-, hzz⟩ | ⟨-, hzz⟩
  · rcases z_if hzz with ⟨-, hzz⟩ | ⟨-, hzz⟩
    · have wzz := fr_bk_X9_readPart_59  hzz
      exact FrX.rf.tr wzz
    · have wzz := fr_bk_X9_readPart_60  hzz
      exact FrX.rf.tr wzz
  · have wzz := fr_bk_X9_readPart_59  hzz
    exact FrX.rf.tr wzz
set_option maxHeartbeats 200000 in
theorem fr_f_X9_readPart {o_me : Ob} {yzz : Int32 × Ob}  (hzz : f_X9_readPart o_me = some yzz) : FrX d_X9_readPart_me o_me yzz.2 := by
  unfold f_X9_readPart at hzz
  obtain ⟨z1, ez1, hzz⟩ := z_bd hzz
  rcases z_if hzz with ⟨-, hzz⟩ | ⟨-, hzz⟩
  · rcases z_if hzz with ⟨-, hzz⟩ | ⟨-, hzz⟩
    · obtain ⟨z2, ez2, hzz⟩ := z_bd hzz
      have wzz := fr_bk_X9_readPart_35  hzz
      exact FrX.rf.tr wzz
    · obtain ⟨z8, ez8, hzz⟩ := z_bd hzz
      have wzz := fr_bk_X9_readPart_35  hzz
      exact FrX.rf.tr wzz
  · obtain ⟨z9, ez9, hzz⟩ := z_bd hzz
    have k1zz : FrX d_X9_readPart_me o_me z9 := FrX.rf.tr ((fr_f_X9_openBracket  ez9).mono rfl)
    have hzz := Option.some.inj hzz
    subst hzz
    exact k1zz
def d_X9_readPlain_me : DD := ([14, 15, 16, 18, 19, 23, 26, 29, 30], [17], [24, 25, 27, 28], [], [])
set_option maxHeartbeats 200000 in
theorem fr_f_X9_readPlain {o_me : Ob} {yzz : Int32 × Ob}  (hzz : f_X9_readPlain o_me = some yzz) : FrX d_X9_readPlain_me o_me yzz.2 := by
  unfold f_X9_readPlain at hzz
  obtain ⟨z1, ez1, hzz⟩ := z_bd hzz
  rcases z_if hzz with ⟨-, hzz⟩ | ⟨-, hzz⟩
  · obtain ⟨z2, ez2, hzz⟩ := z_bd hzz
    rcases z_if hzz with ⟨-, hzz⟩ | ⟨-, hzz⟩
    · obtain ⟨z3, ez3, hzz⟩ := z_bd hzz
      have k1zz : FrX d_X9_readPlain_me o_me z3.2 := FrX.rf.tr ((fr_f_X9_readPart  ez3).mono rfl)
      have hzz := Option.some.inj hzz
      subst hzz
      exact k1zz
    · obtain ⟨z4, ez4, hzz⟩ := z_bd hzz
      have k2zz : FrX d_X9_readPlain_me o_me z4 := FrX.rf.tr ((fr_f_X9_openBracket  ez4).mono rfl)
      have hzz := Option.some.inj hzz
      subst hzz
      exact k2zz
  · obtain ⟨z5, ez5, hzz⟩ := z_bd hzz
    have k3zz : FrX d_X9_readPlain_me o_me z5 := FrX.rf.tr ((fr_f_X9_push  ez5).mono rfl)
    obtain ⟨z6, ez6, hzz⟩ := z_bd hzz
    have k4zz : FrX d_X9_readPlain_me o_me z6 := k3zz.tr ((fr_f_X9_next  ez6).mono rfl)
    have hzz := Option.some.inj hzz
    subst hzz
    exact k4zz
def d_X9_readExpression_me : DD := ([14, 15, 16, 18, 19, 23, 26, 29, 30], [17], [24, 25, 27, 28], [], [])
set_option maxHeartbeats 200000 in
theorem fr_bk_X9_readExpression_76 {o_me : Ob} {yzz : Ob}  (hzz : bk_X9_readExpression_76 o_me = some yzz) : FrX d_X9_readExpression_me o_me yzz := by
  unfold bk_X9_readExpression_76 at hzz
  obtain ⟨z3, ez3, hzz⟩ := z_bd hzz
  have k1zz : FrX d_X9_readExpression_me o_me z3 := FrX.rf.tr ((fr_f_X9_settle  ez3).mono rfl)
  have hzz := Option.some.inj hzz
  subst hzz
  exact k1zz
set_option maxHeartbeats 200000 in
theorem fr_bk_X9_readExpression_72 {rec_20_1 : Int32 × Int32 × Ob → Option (Ob)} {v1zz : Int32} {s0zz : Int32} {o_me : Ob} {yzz : Ob} (hrec_20_1 : ∀ (azz : Int32 × Int32 × Ob) (yzz : Ob), rec_20_1 azz = some yzz → FrX d_X9_readExpression_me azz.2.2 yzz) (hzz : bk_X9_readExpression_72 rec_20_1 v1zz s0zz o_me = some yzz) : FrX d_X9_readExpression_me o_me yzz := by
  unfold bk_X9_readExpression_72 at hzz
  have wzz := hrec_20_1 _ _ hzz
  exact FrX.rf.tr wzz
set_option maxHeartbeats 200000 in
theorem fr_lb_X9_readExpression_20 {rec_20_1 : Int32 × Int32 × Ob → Option (Ob)} {v1zz : Int32} {v2 : Int32} {o_me : Ob} {yzz : Ob} (hrec_20_1 : ∀ (azz : Int32 × Int32 × Ob) (yzz : Ob), rec_20_1 azz = some yzz → FrX d_X9_readExpression_me azz.2.2 yzz) (hzz : lb_X9_readExpression_20 rec_20_1 v1zz v2 o_me = some yzz) : FrX d_X9_readExpression_me o_me yzz := by
  unfold lb_X9_readExpression_20 at hzz
  rcases z_if hzz with ⟨-, hzz⟩ | ⟨-, hzz⟩
  · rcases z_if hzz with ⟨-, hzz⟩ | ⟨-, hzz⟩
    · have wzz := fr_bk_X9_readExpression_76  hzz
      exact FrX.rf.tr wzz
    · rcases z_if hzz with ⟨-, hzz⟩ | ⟨-, hzz⟩
      · obtain ⟨z7, ez7, hzz⟩ := z_bd hzz
        have k1zz : FrX d_X9_readExpression_me o_me z7.2 := FrX.rf.tr ((fr_f_X9_readPlain  ez7).mono rfl)
        have wzz := fr_bk_X9_readExpression_72 hrec_20_1 hzz
        exact k1zz.tr wzz
      · rcases z_if hzz with ⟨-, hzz⟩ | ⟨-, hzz⟩
        · obtain ⟨z6, ez6, hzz⟩ := z_bd hzz
          have k2zz : FrX d_X9_readExpression_me o_me z6.2 := FrX.rf.tr ((fr_f_X9_readPart  ez6).mono rfl)
          have wzz := fr_bk_X9_readExpression_72 hrec_20_1 hzz
          exact k2zz.tr wzz
        · rcases z_if hzz with ⟨-, hzz⟩ | ⟨-, hzz⟩
          · obtain ⟨z5, ez5, hzz⟩ := z_bd hzz
            have k3zz : FrX d_X9_readExpression_me o_me z5.2 := FrX.rf.tr ((fr_f_X9_behindSum  ez5).mono rfl)
            have wzz := fr_bk_X9_readExpression_72 hrec_20_1 hzz
            exact k3zz.tr wzz
          · obtain ⟨z4, ez4, hzz⟩ := z_bd hzz
            have k4zz : FrX d_X9_readExpression_me o_me z4.2 := FrX.rf.tr ((fr_f_X9_behindTest  ez4).mono rfl)
            have wzz := fr_bk_X9_readExpression_72 hrec_20_1 hzz
            exact k4zz.tr wzz
  · have wzz := fr_bk_X9_readExpression_76  hzz
    exact FrX.rf.tr wzz
set_option maxHeartbeats 200000 in
theorem fr_lp_X9_readExpression_20   : ∀ (Nzz : Nat) (azz : Int32 × Int32 × Ob) (yzz : Ob), lp_X9_readExpression_20  Nzz azz = some yzz → FrX d_X9_readExpression_me azz.2.2 yzz := by
  intro Nzz
  induction Nzz with
  | zero => intro azz yzz hzz; cases hzz
  | succ Nzz ihzz => intro azz yzz hzz; exact fr_lb_X9_readExpression_20   ihzz hzz
set_option maxHeartbeats 200000 in
theorem fr_bk_X9_readExpression_19 {v1zz : Int32} {s0zz : Int32} {o_me : Ob} {yzz : Ob}  (hzz : bk_X9_readExpression_19 v1zz s0zz o_me = some yzz) : FrX d_X9_readExpression_me o_me yzz := by
  unfold bk_X9_readExpression_19 at hzz
  have wzz := fr_lp_X9_readExpression_20  _ _ _ hzz
  exact FrX.rf.tr wzz
set_option maxHeartbeats 200000 in
theorem fr_f_X9_readExpression {o_me : Ob} {p0zz : Int32} {yzz : Ob}  (hzz : f_X9_readExpression o_me p0zz = some yzz) : FrX d_X9_readExpression_me o_me yzz := by
  unfold f_X9_readExpression at hzz
  obtain ⟨o1, eo1, hzz⟩ := z_lt hzz
  have k1zz : FrX d_X9_readExpression_me o_me o1 := by rw [eo1]; exact FrX.sI FrX.rf rfl
  obtain ⟨o2, eo2, hzz⟩ := z_lt hzz
  have k2zz : FrX d_X9_readExpression_me o_me o2 := by rw [eo2]; exact FrX.sI k1zz rfl
  rcases z_if hzz with ⟨-, hzz⟩ | ⟨-, hzz⟩
  · have wzz := fr_bk_X9_readExpression_19  hzz
    exact k2zz.tr wzz
  · have wzz := fr_bk_X9_readExpression_19  hzz
    exact k2zz.tr wzz
def d_X9_readLaw_me : DD := ([14, 15, 16, 18, 19, 21, 23, 26, 29, 30], [17], [22, 24, 25, 27, 28], [], [])
set_option maxHeartbeats 200000 in
theorem fr_bk_X9_readLaw_185 {v2 : Int32} {o_me : Ob} {yzz : Ob}  (hzz : bk_X9_readLaw_185 v2 o_me = some yzz) : FrX d_X9_readLaw_me o_me yzz := by
  unfold bk_X9_readLaw_185 at hzz
  have hzz := (z_gd hzz).2
  obtain ⟨o13, eo13, hzz⟩ := z_lt hzz
  have k1zz : FrX d_X9_readLaw_me o_me o13 := by rw [eo13]; exact FrX.tA FrX.rf rfl
  have hzz := Option.some.inj hzz
  subst hzz
  exact k1zz
set_option maxHeartbeats 200000 in
theorem fr_bk_X9_readLaw_135 {v2 : Int32} {o_me : Ob} {yzz : Ob}  (hzz : bk_X9_readLaw_135 v2 o_me = some yzz) : FrX d_X9_readLaw_me o_me yzz := by
  unfold bk_X9_readLaw_135 at hzz
  have hzz := (z_gd hzz).2
  obtain ⟨o9, eo9, hzz⟩ := z_lt hzz
  have k1zz : FrX d_X9_readLaw_me o_me o9 := by rw [eo9]; exact FrX.tA FrX.rf rfl
  have hzz := (z_gd hzz).2
  obtain ⟨o11, eo11, hzz⟩ := z_lt hzz
  have k2zz : FrX d_X9_readLaw_me o_me o11 := by rw [eo11]; exact FrX.tA k1zz rfl
  rcases z_if hzz with ⟨-, hzz⟩ | ⟨-, hzz⟩
  · obtain ⟨z14zz, ez14, hzz⟩ := z_bd hzz
    rcases z_if hzz with ⟨-, hzz⟩ | ⟨-, hzz⟩
    · have wzz := fr_bk_X9_readLaw_185  hzz
      exact k2zz.tr wzz
    · obtain ⟨z15, ez15, hzz⟩ := z_bd hzz
      have k3zz : FrX d_X9_readLaw_me o_me z15 := k2zz.tr ((fr_f_X9_next  ez15).mono rfl)
      obtain ⟨z16, ez16, hzz⟩ := z_bd hzz
      have k4zz : FrX d_X9_readLaw_me o_me z16 := k3zz.tr ((fr_f_X9_readExpression  ez16).mono rfl)
      have wzz := fr_bk_X9_readLaw_185  hzz
      exact k4zz.tr wzz
  · have wzz := fr_bk_X9_readLaw_185  hzz
    exact k2zz.tr wzz
set_option maxHeartbeats 200000 in
theorem fr_lb_X9_readLaw_75 {rec_75_3 : Int32 × Int32 × Int32 × Ob → Option (Ob)} {v1zz : Int32} {v2 : Int32} {v3 : Int32} {o_me : Ob} {yzz : Ob} (hrec_75_3 : ∀ (azz : Int32 × Int32 × Int32 × Ob) (yzz : Ob), rec_75_3 azz = some yzz → FrX d_X9_readLaw_me azz.2.2.2 yzz) (hzz : lb_X9_readLaw_75 rec_75_3 v1zz v2 v3 o_me = some yzz) : FrX d_X9_readLaw_me o_me yzz := by
  unfold lb_X9_readLaw_75 at hzz
  rcases z_if hzz with ⟨-, hzz⟩ | ⟨-, hzz⟩
  · have hzz := (z_gd hzz).2
    obtain ⟨o4zz, eo4, hzz⟩ := z_lt hzz
    have k1zz : FrX d_X9_readLaw_me o_me o4zz := by rw [eo4]; exact FrX.tA FrX.rf rfl
    obtain ⟨o5zz, eo5, hzz⟩ := z_lt hzz
    have k2zz : FrX d_X9_readLaw_me o_me o5zz := by rw [eo5]; exact FrX.sI k1zz rfl
    have hzz := (z_gd hzz).2
    obtain ⟨o7, eo7, hzz⟩ := z_lt hzz
    have k3zz : FrX d_X9_readLaw_me o_me o7 := by rw [eo7]; exact FrX.tA k2zz rfl
    rcases z_if hzz with ⟨-, hzz⟩ | ⟨-, hzz⟩
    · have wzz := fr_bk_X9_readLaw_135  hzz
      exact k3zz.tr wzz
    · obtain ⟨z17, ez17, hzz⟩ := z_bd hzz
      have k4zz : FrX d_X9_readLaw_me o_me z17 := k3zz.tr ((fr_f_X9_readExpression  ez17).mono rfl)
      have wzz := fr_bk_X9_readLaw_135  hzz
      exact k4zz.tr wzz
  · have hzz := (z_gd hzz).2
    obtain ⟨o19, eo19, hzz⟩ := z_lt hzz
    have k5zz : FrX d_X9_readLaw_me o_me o19 := by rw [eo19]; exact FrX.tA FrX.rf rfl
    obtain ⟨x20, ex20, hzz⟩ := z_lt hzz
    have wzz := hrec_75_3 _ _ hzz
    exact k5zz.tr wzz
set_option maxHeartbeats 200000 in
theorem fr_lp_X9_readLaw_75   : ∀ (Nzz : Nat) (azz : Int32 × Int32 × Int32 × Ob) (yzz : Ob), lp_X9_readLaw_75  Nzz azz = some yzz → FrX d_X9_readLaw_me azz.2.2.2 yzz := by
  intro Nzz
  induction Nzz with
  | zero => intro azz yzz hzz; cases hzz
  | succ Nzz ihzz => intro azz yzz hzz; exact fr_lb_X9_readLaw_75   ihzz hzz
set_option maxHeartbeats 200000 in
theorem fr_bk_X9_readLaw_54 {v1zz : Int32} {s0zz : Int32} {o_me : Ob} {yzz : Ob}  (hzz : bk_X9_readLaw_54 v1zz s0zz o_me = some yzz) : FrX d_X9_readLaw_me o_me yzz := by
  unfold bk_X9_readLaw_54 at hzz
  obtain ⟨z1, ez1, hzz⟩ := z_bd hzz
  have k1zz : FrX d_X9_readLaw_me o_me z1 := FrX.rf.tr ((fr_f_X9_must  ez1).mono rfl)
  rcases z_if hzz with ⟨-, hzz⟩ | ⟨-, hzz⟩
  · obtain ⟨x2zz, ex2zz, hzz⟩ := z_lt hzz
    have wzz := fr_lp_X9_readLaw_75  _ _ _ hzz
    exact k1zz.tr wzz
  · have hzz := Option.some.inj hzz
    subst hzz
    exact k1zz
set_option maxHeartbeats 200000 in
theorem fr_bk_X9_readLaw_53 {v1zz : Int32} {o_me : Ob} {yzz : Ob}  (hzz : bk_X9_readLaw_53 v1zz o_me = some yzz) : FrX d_X9_readLaw_me o_me yzz := by
  unfold bk_X9_readLaw_53 at hzz
  have wzz := fr_bk_X9_readLaw_54  hzz
  exact FrX.rf.tr wzz
set_option maxHeartbeats 200000 in
theorem fr_bk_X9_readLaw_27 {rec_4_0 : Int32 × Int32 × Ob → Option (Ob)} {v2 : Int32} {s0zz : Int32} {o_me : Ob} {yzz : Ob} (hrec_4_0 : ∀ (azz : Int32 × Int32 × Ob) (yzz : Ob), rec_4_0 azz = some yzz → FrX d_X9_readLaw_me azz.2.2 yzz) (hzz : bk_X9_readLaw_27 rec_4_0 v2 s0zz o_me = some yzz) : FrX d_X9_readLaw_me o_me yzz := by
  unfold bk_X9_readLaw_27 at hzz
  obtain ⟨x23, ex23, hzz⟩ := z_lt hzz
  have wzz := hrec_4_0 _ _ hzz
  exact FrX.rf.tr wzz
set_option maxHeartbeats 200000 in
theorem fr_lb_X9_readLaw_4 {rec_4_0 : Int32 × Int32 × Ob → Option (Ob)} {v1zz : Int32} {v2 : Int32} {o_me : Ob} {yzz : Ob} (hrec_4_0 : ∀ (azz : Int32 × Int32 × Ob) (yzz : Ob), rec_4_0 azz = some yzz → FrX d_X9_readLaw_me azz.2.2 yzz) (hzz : lb_X9_readLaw_4 rec_4_0 v1zz v2 o_me = some yzz) : FrX d_X9_readLaw_me o_me yzz := by
  unfold lb_X9_readLaw_4 at hzz
  rcases z_if hzz with ⟨-, hzz⟩ | ⟨-, hzz⟩
  · rcases z_if hzz with ⟨-, hzz⟩ | ⟨-, hzz⟩
    · have wzz := fr_bk_X9_readLaw_53  hzz
      exact FrX.rf.tr wzz
    · rcases z_if hzz with ⟨-, hzz⟩ | ⟨-, hzz⟩
      · have wzz := fr_bk_X9_readLaw_53  hzz
        exact FrX.rf.tr wzz
      · have wzz := fr_bk_X9_readLaw_54  hzz
        exact FrX.rf.tr wzz
  · have hzz := (z_gd hzz).2
    obtain ⟨z22, ez22, hzz⟩ := z_bd hzz
    rcases z_if hzz with ⟨-, hzz⟩ | ⟨-, hzz⟩
    · have wzz := fr_bk_X9_readLaw_27 hrec_4_0 hzz
      exact FrX.rf.tr wzz
    · have wzz := fr_bk_X9_readLaw_27 hrec_4_0 hzz
      exact FrX.rf.tr wzz
set_option maxHeartbeats 200000 in
theorem fr_lp_X9_readLaw_4   : ∀ (Nzz : Nat) (azz : Int32 × Int32 × Ob) (yzz : Ob), lp_X9_readLaw_4  Nzz azz = some yzz → FrX d_X9_readLaw_me azz.2.2 yzz := by
  intro Nzz
  induction Nzz with
  | zero => intro azz yzz hzz; cases hzz
  | succ Nzz ihzz => intro azz yzz hzz; exact fr_lb_X9_readLaw_4   ihzz hzz
set_option maxHeartbeats 200000 in
theorem fr_f_X9_readLaw {o_me : Ob} {yzz : Ob}  (hzz : f_X9_readLaw o_me = some yzz) : FrX d_X9_readLaw_me o_me yzz := by
  unfold f_X9_readLaw at hzz
  have wzz := fr_lp_X9_readLaw_4  _ _ _ hzz
  exact FrX.rf.tr wzz
def d_X9_law_me : DD := ([0, 1, 13, 14, 15, 16, 18, 19, 20, 21, 23, 26, 29, 30], [17], [2, 3, 22, 24, 25, 27, 28], [], [])
set_option maxHeartbeats 200000 in
theorem fr_lb_X9_law_145 {rec_145_3 : Int32 × Int32 × Ob → Option (Int32 × Ob)} {v1zz : Int32} {v2 : Int32} {o_me : Ob} {yzz : Int32 × Ob} (hrec_145_3 : ∀ (azz : Int32 × Int32 × Ob) (yzz : Int32 × Ob), rec_145_3 azz = some yzz → FrX d_X9_law_me azz.2.2 yzz.2) (hzz : lb_X9_law_145 rec_145_3 v1zz v2 o_me = some yzz) : FrX d_X9_law_me o_me yzz.2 := by
  unfold lb_X9_law_145 at hzz
  rcases z_if hzz with ⟨-, hzz⟩ | ⟨-, hzz⟩
  · obtain ⟨o8zz, eo8, hzz⟩ := z_lt hzz
    have k1zz : FrX d_X9_law_me o_me o8zz := by rw [eo8]; exact FrX.tA FrX.rf rfl
    obtain ⟨z9, ez9, hzz⟩ := z_bd hzz
    have k2zz : FrX d_X9_law_me o_me z9.2 := k1zz.tr ((fr_f_X9_tell  ez9).mono rfl)
    have hzz := Option.some.inj hzz
    subst hzz
    exact k2zz
  · have hzz := (z_gd hzz).2
    have hzz := (z_gd hzz).2
    obtain ⟨o12, eo12, hzz⟩ := z_lt hzz
    have k3zz : FrX d_X9_law_me o_me o12 := by rw [eo12]; exact FrX.tA FrX.rf rfl
    have hzz := (z_gd hzz).2
    have hzz := (z_gd hzz).2
    obtain ⟨o15, eo15, hzz⟩ := z_lt hzz
    have k4zz : FrX d_X9_law_me o_me o15 := by rw [eo15]; exact FrX.tA k3zz rfl
    obtain ⟨x16, ex16, hzz⟩ := z_lt hzz
    have wzz := hrec_145_3 _ _ hzz
    exact k4zz.tr wzz
set_option maxHeartbeats 200000 in
theorem fr_lp_X9_law_145   : ∀ (Nzz : Nat) (azz : Int32 × Int32 × Ob) (yzz : Int32 × Ob), lp_X9_law_145  Nzz azz = some yzz → FrX d_X9_law_me azz.2.2 yzz.2 := by
  intro Nzz
  induction Nzz with
  | zero => intro azz yzz hzz; cases hzz
  | succ Nzz ihzz => intro azz yzz hzz; exact fr_lb_X9_law_145   ihzz hzz
set_option maxHeartbeats 200000 in
theorem fr_lb_X9_law_110 {rec_110_2 : Int32 × Int32 × Ob → Option (Int32 × Ob)} {v1zz : Int32} {v2 : Int32} {o_me : Ob} {yzz : Int32 × Ob} (hrec_110_2 : ∀ (azz : Int32 × Int32 × Ob) (yzz : Int32 × Ob), rec_110_2 azz = some yzz → FrX d_X9_law_me azz.2.2 yzz.2) (hzz : lb_X9_law_110 rec_110_2 v1zz v2 o_me = some yzz) : FrX d_X9_law_me o_me yzz.2 := by
  unfold lb_X9_law_110 at hzz
  rcases z_if hzz with ⟨-, hzz⟩ | ⟨-, hzz⟩
  · have wzz := fr_lp_X9_law_145  _ _ _ hzz
    exact FrX.rf.tr wzz
  · have hzz := (z_gd hzz).2
    have hzz := (z_gd hzz).2
    obtain ⟨o19, eo19, hzz⟩ := z_lt hzz
    have k1zz : FrX d_X9_law_me o_me o19 := by rw [eo19]; exact FrX.tA FrX.rf rfl
    obtain ⟨x20, ex20, hzz⟩ := z_lt hzz
    have wzz := hrec_110_2 _ _ hzz
    exact k1zz.tr wzz
set_option maxHeartbeats 200000 in
theorem fr_lp_X9_law_110   : ∀ (Nzz : Nat) (azz : Int32 × Int32 × Ob) (yzz : Int32 × Ob), lp_X9_law_110  Nzz azz = some yzz → FrX d_X9_law_me azz.2.2 yzz.2 := by
  intro Nzz
  induction Nzz with
  | zero => intro azz yzz hzz; cases hzz
  | succ Nzz ihzz => intro azz yzz hzz; exact fr_lb_X9_law_110   ihzz hzz
set_option maxHeartbeats 200000 in
theorem fr_bk_X9_law_64 {o_me : Ob} {yzz : Int32 × Ob}  (hzz : bk_X9_law_64 o_me = some yzz) : FrX d_X9_law_me o_me yzz.2 := by
  unfold bk_X9_law_64 at hzz
  obtain ⟨z4, ez4, hzz⟩ := z_bd hzz
  have k1zz : FrX d_X9_law_me o_me z4 := FrX.rf.tr ((fr_f_X9_endText  ez4).mono rfl)
  rcases z_if hzz with ⟨-, hzz⟩ | ⟨-, hzz⟩
  · obtain ⟨x5zz, ex5, hzz⟩ := z_lt hzz
    have hzz := (z_gd hzz).2
    obtain ⟨o7, eo7, hzz⟩ := z_lt hzz
    have k2zz : FrX d_X9_law_me o_me o7 := by rw [eo7]; exact FrX.tA k1zz rfl
    have wzz := fr_lp_X9_law_110  _ _ _ hzz
    exact k2zz.tr wzz
  · obtain ⟨z21, ez21, hzz⟩ := z_bd hzz
    have k3zz : FrX d_X9_law_me o_me z21.2 := k1zz.tr ((fr_f_X9_tell  ez21).mono rfl)
    have hzz := Option.some.inj hzz
    subst hzz
    exact k3zz
set_option maxHeartbeats 200000 in
theorem fr_lb_X9_law_37 {rec_37_0 : Ob → Option (Int32 × Ob)} {o_me : Ob} {yzz : Int32 × Ob} (hrec_37_0 : ∀ (azz : Ob) (yzz : Int32 × Ob), rec_37_0 azz = some yzz → FrX d_X9_law_me azz yzz.2) (hzz : lb_X9_law_37 rec_37_0 o_me = some yzz) : FrX d_X9_law_me o_me yzz.2 := by
  unfold lb_X9_law_37 at hzz
  rcases z_if hzz with ⟨-, hzz⟩ | ⟨-, hzz⟩
  · obtain ⟨z22, ez22, hzz⟩ := z_bd hzz
    rcases z_if hzz with ⟨-, hzz⟩ | ⟨-, hzz⟩
    · have wzz := fr_bk_X9_law_64  hzz
      exact FrX.rf.tr wzz
    · obtain ⟨z23, ez23, hzz⟩ := z_bd hzz
      have k1zz : FrX d_X9_law_me o_me z23 := FrX.rf.tr ((fr_f_X9_next  ez23).mono rfl)
      obtain ⟨z24, ez24, hzz⟩ := z_bd hzz
      have k2zz : FrX d_X9_law_me o_me z24 := k1zz.tr ((fr_f_X9_readLaw  ez24).mono rfl)
      have wzz := hrec_37_0 _ _ hzz
      exact k2zz.tr wzz
  · have wzz := fr_bk_X9_law_64  hzz
    exact FrX.rf.tr wzz
set_option maxHeartbeats 200000 in
theorem fr_lp_X9_law_37   : ∀ (Nzz : Nat) (azz : Ob) (yzz : Int32 × Ob), lp_X9_law_37  Nzz azz = some yzz → FrX d_X9_law_me azz yzz.2 := by
  intro Nzz
  induction Nzz with
  | zero => intro azz yzz hzz; cases hzz
  | succ Nzz ihzz => intro azz yzz hzz; exact fr_lb_X9_law_37   ihzz hzz
set_option maxHeartbeats 200000 in
theorem fr_f_X9_law {o_me : Ob} {yzz : Int32 × Ob}  (hzz : f_X9_law o_me = some yzz) : FrX d_X9_law_me o_me yzz.2 := by
  unfold f_X9_law at hzz
  obtain ⟨o1, eo1, hzz⟩ := z_lt hzz
  have k1zz : FrX d_X9_law_me o_me o1 := by rw [eo1]; exact FrX.sI FrX.rf rfl
  rcases z_if hzz with ⟨-, hzz⟩ | ⟨-, hzz⟩
  · obtain ⟨o25, eo25, hzz⟩ := z_lt hzz
    have k2zz : FrX d_X9_law_me o_me o25 := by rw [eo25]; exact FrX.sI k1zz rfl
    obtain ⟨z26, ez26, hzz⟩ := z_bd hzz
    have k3zz : FrX d_X9_law_me o_me z26.2 := k2zz.tr ((fr_f_X9_tell  ez26).mono rfl)
    have hzz := Option.some.inj hzz
    subst hzz
    exact k3zz
  · obtain ⟨z2, ez2, hzz⟩ := z_bd hzz
    have k4zz : FrX d_X9_law_me o_me z2 := k1zz.tr ((fr_f_X9_beginText  ez2).mono rfl)
    obtain ⟨z3, ez3, hzz⟩ := z_bd hzz
    have k5zz : FrX d_X9_law_me o_me z3 := k4zz.tr ((fr_f_X9_readLaw  ez3).mono rfl)
    have wzz := fr_lp_X9_law_37  _ _ _ hzz
    exact k5zz.tr wzz
def d_X9_layLeft_me : DD := ([], [], [46], [], [])
set_option maxHeartbeats 200000 in
theorem fr_bk_X9_layLeft_82 {rec_22_0 : Int32 × Ob → Option (Ob)} {rec_37_1 : Int32 × Int32 × Ob → Option (Ob)} {v2 : Int32} {v3 : Int32} {s0zz : Int32} {s1zz : Int32} {o_me : Ob} {yzz : Ob} (hrec_22_0 : ∀ (azz : Int32 × Ob) (yzz : Ob), rec_22_0 azz = some yzz → FrX d_X9_layLeft_me azz.2 yzz) (hrec_37_1 : ∀ (azz : Int32 × Int32 × Ob) (yzz : Ob), rec_37_1 azz = some yzz → FrX d_X9_layLeft_me azz.2.2 yzz) (hzz : bk_X9_layLeft_82 rec_22_0 rec_37_1 v2 v3 s0zz s1zz o_me = some yzz) : FrX d_X9_layLeft_me o_me yzz := by
  unfold bk_X9_layLeft_82 at hzz
  have hzz := (z_gd hzz).2
  obtain ⟨o12, eo12, hzz⟩ := z_lt hzz
  have k1zz : FrX d_X9_layLeft_me o_me o12 := by rw [eo12]; exact FrX.tA FrX.rf rfl
  obtain ⟨x13, ex13, hzz⟩ := z_lt hzz
  have wzz := hrec_37_1 _ _ hzz
  exact k1zz.tr wzz
set_option maxHeartbeats 200000 in
theorem fr_lb_X9_layLeft_37 {rec_22_0 : Int32 × Ob → Option (Ob)} {rec_37_1 : Int32 × Int32 × Ob → Option (Ob)} {v2 : Int32} {v3 : Int32} {o_me : Ob} {yzz : Ob} (hrec_22_0 : ∀ (azz : Int32 × Ob) (yzz : Ob), rec_22_0 azz = some yzz → FrX d_X9_layLeft_me azz.2 yzz) (hrec_37_1 : ∀ (azz : Int32 × Int32 × Ob) (yzz : Ob), rec_37_1 azz = some yzz → FrX d_X9_layLeft_me azz.2.2 yzz) (hzz : lb_X9_layLeft_37 rec_22_0 rec_37_1 v2 v3 o_me = some yzz) : FrX d_X9_layLeft_me o_me yzz := by
  unfold lb_X9_layLeft_37 at hzz
  rcases z_if hzz with ⟨-, hzz⟩ | ⟨-, hzz⟩
  · obtain ⟨x7, ex7, hzz⟩ := z_lt hzz
    have wzz := hrec_22_0 _ _ hzz
    exact FrX.rf.tr wzz
  · obtain ⟨z8, ez8, hzz⟩ := z_bd hzz
    have hzz := (z_gd hzz).2
    rcases z_if hzz with ⟨-, hzz⟩ | ⟨-, hzz⟩
    · have hzz := (z_gd hzz).2
      have wzz := fr_bk_X9_layLeft_82 hrec_22_0 hrec_37_1 hzz
      exact FrX.rf.tr wzz
    · have wzz := fr_bk_X9_layLeft_82 hrec_22_0 hrec_37_1 hzz
      exact FrX.rf.tr wzz
set_option maxHeartbeats 200000 in
theorem fr_lp_X9_layLeft_37 {rec_22_0 : Int32 × Ob → Option (Ob)} (hrec_22_0 : ∀ (azz : Int32 × Ob) (yzz : Ob), rec_22_0 azz = some yzz → FrX d_X9_layLeft_me azz.2 yzz) : ∀ (Nzz : Nat) (azz : Int32 × Int32 × Ob) (yzz : Ob), lp_X9_layLeft_37 rec_22_0 Nzz azz = some yzz → FrX d_X9_layLeft_me azz.2.2 yzz := by
  intro Nzz
  induction Nzz with
  | zero => intro azz yzz hzz; cases hzz
  | succ Nzz ihzz => intro azz yzz hzz; exact fr_lb_X9_layLeft_37  hrec_22_0 ihzz hzz
set_option maxHeartbeats 200000 in
theorem fr_lb_X9_layLeft_22 {rec_22_0 : Int32 × Ob → Option (Ob)} {v2 : Int32} {o_me : Ob} {yzz : Ob} (hrec_22_0 : ∀ (azz : Int32 × Ob) (yzz : Ob), rec_22_0 azz = some yzz → FrX d_X9_layLeft_me azz.2 yzz) (hzz : lb_X9_layLeft_22 rec_22_0 v2 o_me = some yzz) : FrX d_X9_layLeft_me o_me yzz := by
  unfold lb_X9_layLeft_22 at hzz
  rcases z_if hzz with ⟨-, hzz⟩ | ⟨-, hzz⟩
  · have hzz := Option.some.inj hzz
    subst hzz
    exact FrX.rf
  · have hzz := (z_gd hzz).2
    obtain ⟨o6, eo6, hzz⟩ := z_lt hzz
    have k1zz : FrX d_X9_layLeft_me o_me o6 := by rw [eo6]; exact FrX.tA FrX.rf rfl
    have wzz := fr_lp_X9_layLeft_37 hrec_22_0 _ _ _ hzz
    exact k1zz.tr wzz
set_option maxHeartbeats 200000 in
theorem fr_lp_X9_layLeft_22   : ∀ (Nzz : Nat) (azz : Int32 × Ob) (yzz : Ob), lp_X9_layLeft_22  Nzz azz = some yzz → FrX d_X9_layLeft_me azz.2 yzz := by
  intro Nzz
  induction Nzz with
  | zero => intro azz yzz hzz; cases hzz
  | succ Nzz ihzz => intro azz yzz hzz; exact fr_lb_X9_layLeft_22   ihzz hzz
set_option maxHeartbeats 200000 in
theorem fr_f_X9_layLeft {o_me : Ob} {yzz : Ob}  (hzz : f_X9_layLeft o_me = some yzz) : FrX d_X9_layLeft_me o_me yzz := by
  unfold f_X9_layLeft at hzz
  obtain ⟨x1zz, ex1, hzz⟩ := z_lt hzz
  have hzz := (z_gd hzz).2
  obtain ⟨o3zz, eo3, hzz⟩ := z_lt hzz
  have k1zz : FrX d_X9_layLeft_me o_me o3zz := by rw [eo3]; exact FrX.tA FrX.rf rfl
  obtain ⟨x4zz, ex4, hzz⟩ := z_lt hzz
  have wzz := fr_lp_X9_layLeft_22  _ _ _ hzz
  exact k1zz.tr wzz
def d_X9_look_me : DD := ([0, 34, 38], [39, 40], [45], [35, 37], [])
set_option maxHeartbeats 200000 in
theorem fr_bk_X9_look_172 {rec_36_0 : Int32 × Int32 × Int32 × Int32 × Int32 × Ob → Option (Int32 × Ob)} {v1zz : Int32} {v2 : Int32} {v4zz : Int32} {v5 : Int32} {s0zz : Int32} {o_me : Ob} {yzz : Int32 × Ob} (hrec_36_0 : ∀ (azz : Int32 × Int32 × Int32 × Int32 × Int32 × Ob) (yzz : Int32 × Ob), rec_36_0 azz = some yzz → FrX d_X9_look_me azz.2.2.2.2.2 yzz.2) (hzz : bk_X9_look_172 rec_36_0 v1zz v2 v4zz v5 s0zz o_me = some yzz) : FrX d_X9_look_me o_me yzz.2 := by
  unfold bk_X9_look_172 at hzz
  obtain ⟨x4zz, ex4, hzz⟩ := z_lt hzz
  have wzz := hrec_36_0 _ _ hzz
  exact FrX.rf.tr wzz
set_option maxHeartbeats 200000 in
theorem fr_bk_X9_look_158 {rec_36_0 : Int32 × Int32 × Int32 × Int32 × Int32 × Ob → Option (Int32 × Ob)} {v1zz : Int32} {v2 : Int32} {v3 : Int32} {v5 : Int32} {v6 : Int32} {s0zz : Int32} {o_me : Ob} {yzz : Int32 × Ob} (hrec_36_0 : ∀ (azz : Int32 × Int32 × Int32 × Int32 × Int32 × Ob) (yzz : Int32 × Ob), rec_36_0 azz = some yzz → FrX d_X9_look_me azz.2.2.2.2.2 yzz.2) (hzz : bk_X9_look_158 rec_36_0 v1zz v2 v3 v5 v6 s0zz o_me = some yzz) : FrX d_X9_look_me o_me yzz.2 := by
  unfold bk_X9_look_158 at hzz
  rcases z_if hzz with ⟨-, hzz⟩ | ⟨-, hzz⟩
  · have wzz := fr_bk_X9_look_172 hrec_36_0 hzz
    exact FrX.rf.tr wzz
  · have wzz := fr_bk_X9_look_172 hrec_36_0 hzz
    exact FrX.rf.tr wzz
set_option maxHeartbeats 200000 in
theorem fr_bk_X9_look_139 {rec_36_0 : Int32 × Int32 × Int32 × Int32 × Int32 × Ob → Option (Int32 × Ob)} {rec_72_2 : Int32 × Int32 × Int32 × Int32 × Int32 × Int32 × Int32 × Ob → Option (Int32 × Ob)} {v1zz : Int32} {v2 : Int32} {v3 : Int32} {v4zz : Int32} {v5 : Int32} {v6 : Int32} {v7 : Int32} {o_me : Ob} {yzz : Int32 × Ob} (hrec_36_0 : ∀ (azz : Int32 × Int32 × Int32 × Int32 × Int32 × Ob) (yzz : Int32 × Ob), rec_36_0 azz = some yzz → FrX d_X9_look_me azz.2.2.2.2.2 yzz.2) (hrec_72_2 : ∀ (azz : Int32 × Int32 × Int32 × Int32 × Int32 × Int32 × Int32 × Ob) (yzz : Int32 × Ob), rec_72_2 azz = some yzz → FrX d_X9_look_me azz.2.2.2.2.2.2.2 yzz.2) (hzz : bk_X9_look_139 rec_36_0 rec_72_2 v1zz v2 v3 v4zz v5 v6 v7 o_me = some yzz) : FrX d_X9_look_me o_me yzz.2 := by
  unfold bk_X9_look_139 at hzz
  obtain ⟨x6, ex6, hzz⟩ := z_lt hzz
  have wzz := hrec_72_2 _ _ hzz
  exact FrX.rf.tr wzz
set_option maxHeartbeats 200000 in
theorem fr_bk_X9_look_137 {rec_36_0 : Int32 × Int32 × Int32 × Int32 × Int32 × Ob → Option (Int32 × Ob)} {rec_72_2 : Int32 × Int32 × Int32 × Int32 × Int32 × Int32 × Int32 × Ob → Option (Int32 × Ob)} {v1zz : Int32} {v2 : Int32} {v3 : Int32} {v4zz : Int32} {v5 : Int32} {v7 : Int32} {s0zz : Int32} {o_me : Ob} {yzz : Int32 × Ob} (hrec_36_0 : ∀ (azz : Int32 × Int32 × Int32 × Int32 × Int32 × Ob) (yzz : Int32 × Ob), rec_36_0 azz = some yzz → FrX d_X9_look_me azz.2.2.2.2.2 yzz.2) (hrec_72_2 : ∀ (azz : Int32 × Int32 × Int32 × Int32 × Int32 × Int32 × Int32 × Ob) (yzz : Int32 × Ob), rec_72_2 azz = some yzz → FrX d_X9_look_me azz.2.2.2.2.2.2.2 yzz.2) (hzz : bk_X9_look_137 rec_36_0 rec_72_2 v1zz v2 v3 v4zz v5 v7 s0zz o_me = some yzz) : FrX d_X9_look_me o_me yzz.2 := by
  unfold bk_X9_look_137 at hzz
  have wzz := fr_bk_X9_look_139 hrec_36_0 hrec_72_2 hzz
  exact FrX.rf.tr wzz
set_option maxHeartbeats 200000 in
theorem fr_lb_X9_look_72 {rec_36_0 : Int32 × Int32 × Int32 × Int32 × Int32 × Ob → Option (Int32 × Ob)} {rec_72_2 : Int32 × Int32 × Int32 × Int32 × Int32 × Int32 × Int32 × Ob → Option (Int32 × Ob)} {v1zz : Int32} {v2 : Int32} {v3 : Int32} {v4zz : Int32} {v5 : Int32} {v6 : Int32} {v7 : Int32} {o_me : Ob} {yzz : Int32 × Ob} (hrec_36_0 : ∀ (azz : Int32 × Int32 × Int32 × Int32 × Int32 × Ob) (yzz : Int32 × Ob), rec_36_0 azz = some yzz → FrX d_X9_look_me azz.2.2.2.2.2 yzz.2) (hrec_72_2 : ∀ (azz : Int32 × Int32 × Int32 × Int32 × Int32 × Int32 × Int32 × Ob) (yzz : Int32 × Ob), rec_72_2 azz = some yzz → FrX d_X9_look_me azz.2.2.2.2.2.2.2 yzz.2) (hzz : lb_X9_look_72 rec_36_0 rec_72_2 v1zz v2 v3 v4zz v5 v6 v7 o_me = some yzz) : FrX d_X9_look_me o_me yzz.2 := by
  unfold lb_X9_look_72 at hzz
  rcases z_if hzz with ⟨-, hzz⟩ | ⟨-, hzz⟩
  · rcases z_if hzz with ⟨-, hzz⟩ | ⟨-, hzz⟩
    · have wzz := fr_bk_X9_look_158 hrec_36_0 hzz
      exact FrX.rf.tr wzz
    · have wzz := fr_bk_X9_look_158 hrec_36_0 hzz
      exact FrX.rf.tr wzz
  · obtain ⟨z5, ez5, hzz⟩ := z_bd hzz
    rcases z_if hzz with ⟨-, hzz⟩ | ⟨-, hzz⟩
    · have wzz := fr_bk_X9_look_139 hrec_36_0 hrec_72_2 hzz
      exact FrX.rf.tr wzz
    · obtain ⟨z7, ez7, hzz⟩ := z_bd hzz
      have k1zz : FrX d_X9_look_me o_me z7.2 := FrX.rf.tr ((fr_f_X9_turnsOf  ez7).mono rfl)
      have hzz := (z_gd hzz).2
      have hzz := (z_gd hzz).2
      obtain ⟨o10, eo10, hzz⟩ := z_lt hzz
      have k2zz : FrX d_X9_look_me o_me o10 := by rw [eo10]; exact FrX.tA k1zz rfl
      have hzz := (z_gd hzz).2
      rcases z_if hzz with ⟨-, hzz⟩ | ⟨-, hzz⟩
      · have wzz := fr_bk_X9_look_137 hrec_36_0 hrec_72_2 hzz
        exact k2zz.tr wzz
      · have hzz := (z_gd hzz).2
        have wzz := fr_bk_X9_look_137 hrec_36_0 hrec_72_2 hzz
        exact k2zz.tr wzz
set_option maxHeartbeats 200000 in
theorem fr_lp_X9_look_72 {rec_36_0 : Int32 × Int32 × Int32 × Int32 × Int32 × Ob → Option (Int32 × Ob)} (hrec_36_0 : ∀ (azz : Int32 × Int32 × Int32 × Int32 × Int32 × Ob) (yzz : Int32 × Ob), rec_36_0 azz = some yzz → FrX d_X9_look_me azz.2.2.2.2.2 yzz.2) : ∀ (Nzz : Nat) (azz : Int32 × Int32 × Int32 × Int32 × Int32 × Int32 × Int32 × Ob) (yzz : Int32 × Ob), lp_X9_look_72 rec_36_0 Nzz azz = some yzz → FrX d_X9_look_me azz.2.2.2.2.2.2.2 yzz.2 := by
  intro Nzz
  induction Nzz with
  | zero => intro azz yzz hzz; cases hzz
  | succ Nzz ihzz => intro azz yzz hzz; exact fr_lb_X9_look_72  hrec_36_0 ihzz hzz
set_option maxHeartbeats 200000 in
theorem fr_lb_X9_look_45 {rec_36_0 : Int32 × Int32 × Int32 × Int32 × Int32 × Ob → Option (Int32 × Ob)} {rec_45_1 : Int32 × Int32 × Int32 × Int32 × Int32 × Int32 × Ob → Option (Int32 × Ob)} {v1zz : Int32} {v2 : Int32} {v3 : Int32} {v4zz : Int32} {v5 : Int32} {v6 : Int32} {o_me : Ob} {yzz : Int32 × Ob} (hrec_36_0 : ∀ (azz : Int32 × Int32 × Int32 × Int32 × Int32 × Ob) (yzz : Int32 × Ob), rec_36_0 azz = some yzz → FrX d_X9_look_me azz.2.2.2.2.2 yzz.2) (hrec_45_1 : ∀ (azz : Int32 × Int32 × Int32 × Int32 × Int32 × Int32 × Ob) (yzz : Int32 × Ob), rec_45_1 azz = some yzz → FrX d_X9_look_me azz.2.2.2.2.2.2 yzz.2) (hzz : lb_X9_look_45 rec_36_0 rec_45_1 v1zz v2 v3 v4zz v5 v6 o_me = some yzz) : FrX d_X9_look_me o_me yzz.2 := by
  unfold lb_X9_look_45 at hzz
  rcases z_if hzz with ⟨-, hzz⟩ | ⟨-, hzz⟩
  · have wzz := fr_lp_X9_look_72 hrec_36_0 _ _ _ hzz
    exact FrX.rf.tr wzz
  · have hzz := (z_gd hzz).2
    obtain ⟨o14, eo14, hzz⟩ := z_lt hzz
    have k1zz : FrX d_X9_look_me o_me o14 := by rw [eo14]; exact FrX.tA FrX.rf rfl
    obtain ⟨x15, ex15, hzz⟩ := z_lt hzz
    have wzz := hrec_45_1 _ _ hzz
    exact k1zz.tr wzz
set_option maxHeartbeats 200000 in
theorem fr_lp_X9_look_45 {rec_36_0 : Int32 × Int32 × Int32 × Int32 × Int32 × Ob → Option (Int32 × Ob)} (hrec_36_0 : ∀ (azz : Int32 × Int32 × Int32 × Int32 × Int32 × Ob) (yzz : Int32 × Ob), rec_36_0 azz = some yzz → FrX d_X9_look_me azz.2.2.2.2.2 yzz.2) : ∀ (Nzz : Nat) (azz : Int32 × Int32 × Int32 × Int32 × Int32 × Int32 × Ob) (yzz : Int32 × Ob), lp_X9_look_45 rec_36_0 Nzz azz = some yzz → FrX d_X9_look_me azz.2.2.2.2.2.2 yzz.2 := by
  intro Nzz
  induction Nzz with
  | zero => intro azz yzz hzz; cases hzz
  | succ Nzz ihzz => intro azz yzz hzz; exact fr_lb_X9_look_45  hrec_36_0 ihzz hzz
set_option maxHeartbeats 200000 in
theorem fr_lb_X9_look_36 {rec_36_0 : Int32 × Int32 × Int32 × Int32 × Int32 × Ob → Option (Int32 × Ob)} {v1zz : Int32} {v2 : Int32} {v3 : Int32} {v4zz : Int32} {v5 : Int32} {o_me : Ob} {yzz : Int32 × Ob} (hrec_36_0 : ∀ (azz : Int32 × Int32 × Int32 × Int32 × Int32 × Ob) (yzz : Int32 × Ob), rec_36_0 azz = some yzz → FrX d_X9_look_me azz.2.2.2.2.2 yzz.2) (hzz : lb_X9_look_36 rec_36_0 v1zz v2 v3 v4zz v5 o_me = some yzz) : FrX d_X9_look_me o_me yzz.2 := by
  unfold lb_X9_look_36 at hzz
  rcases z_if hzz with ⟨-, hzz⟩ | ⟨-, hzz⟩
  · rcases z_if hzz with ⟨-, hzz⟩ | ⟨-, hzz⟩
    · have hzz := Option.some.inj hzz
      subst hzz
      exact FrX.rf
    · have hzz := Option.some.inj hzz
      subst hzz
      exact FrX.rf
  · have wzz := fr_lp_X9_look_45 hrec_36_0 _ _ _ hzz
    exact FrX.rf.tr wzz
set_option maxHeartbeats 200000 in
theorem fr_lp_X9_look_36   : ∀ (Nzz : Nat) (azz : Int32 × Int32 × Int32 × Int32 × Int32 × Ob) (yzz : Int32 × Ob), lp_X9_look_36  Nzz azz = some yzz → FrX d_X9_look_me azz.2.2.2.2.2 yzz.2 := by
  intro Nzz
  induction Nzz with
  | zero => intro azz yzz hzz; cases hzz
  | succ Nzz ihzz => intro azz yzz hzz; exact fr_lb_X9_look_36   ihzz hzz
set_option maxHeartbeats 200000 in
theorem fr_f_X9_look {o_me : Ob} {p0zz : Int32} {yzz : Int32 × Ob}  (hzz : f_X9_look o_me p0zz = some yzz) : FrX d_X9_look_me o_me yzz.2 := by
  unfold f_X9_look at hzz
  obtain ⟨o1, eo1, hzz⟩ := z_lt hzz
  have k1zz : FrX d_X9_look_me o_me o1 := by rw [eo1]; exact FrX.sI FrX.rf rfl
  obtain ⟨z2, ez2, hzz⟩ := z_bd hzz
  have k2zz : FrX d_X9_look_me o_me z2.2 := k1zz.tr ((fr_f_X9_thatCanBe  ez2).mono rfl)
  obtain ⟨z3, ez3, hzz⟩ := z_bd hzz
  rcases z_if hzz with ⟨-, hzz⟩ | ⟨-, hzz⟩
  · have hzz := Option.some.inj hzz
    subst hzz
    exact k2zz
  · rcases z_if hzz with ⟨-, hzz⟩ | ⟨-, hzz⟩
    · have hzz := Option.some.inj hzz
      subst hzz
      exact k2zz
    · have wzz := fr_lp_X9_look_36  _ _ _ hzz
      exact k2zz.tr wzz
def d_X9_never_me : DD := ([0, 34, 38], [39, 40], [41, 44], [35, 37], [])
set_option maxHeartbeats 200000 in
theorem fr_bk_X9_never_70 {rec_18_0 : Int32 × Int32 × Ob → Option (Int32 × Ob)} {rec_30_1 : Int32 × Int32 × Int32 × Ob → Option (Int32 × Ob)} {v2 : Int32} {v3 : Int32} {s0zz : Int32} {s1zz : Int32} {o_me : Ob} {yzz : Int32 × Ob} (hrec_18_0 : ∀ (azz : Int32 × Int32 × Ob) (yzz : Int32 × Ob), rec_18_0 azz = some yzz → FrX d_X9_never_me azz.2.2 yzz.2) (hrec_30_1 : ∀ (azz : Int32 × Int32 × Int32 × Ob) (yzz : Int32 × Ob), rec_30_1 azz = some yzz → FrX d_X9_never_me azz.2.2.2 yzz.2) (hzz : bk_X9_never_70 rec_18_0 rec_30_1 v2 v3 s0zz s1zz o_me = some yzz) : FrX d_X9_never_me o_me yzz.2 := by
  unfold bk_X9_never_70 at hzz
  obtain ⟨x6, ex6, hzz⟩ := z_lt hzz
  obtain ⟨x7, ex7, hzz⟩ := z_lt hzz
  have wzz := hrec_30_1 _ _ hzz
  exact FrX.rf.tr wzz
set_option maxHeartbeats 200000 in
theorem fr_bk_X9_never_61 {rec_18_0 : Int32 × Int32 × Ob → Option (Int32 × Ob)} {rec_30_1 : Int32 × Int32 × Int32 × Ob → Option (Int32 × Ob)} {v2 : Int32} {v3 : Int32} {s0zz : Int32} {o_me : Ob} {yzz : Int32 × Ob} (hrec_18_0 : ∀ (azz : Int32 × Int32 × Ob) (yzz : Int32 × Ob), rec_18_0 azz = some yzz → FrX d_X9_never_me azz.2.2 yzz.2) (hrec_30_1 : ∀ (azz : Int32 × Int32 × Int32 × Ob) (yzz : Int32 × Ob), rec_30_1 azz = some yzz → FrX d_X9_never_me azz.2.2.2 yzz.2) (hzz : bk_X9_never_61 rec_18_0 rec_30_1 v2 v3 s0zz o_me = some yzz) : FrX d_X9_never_me o_me yzz.2 := by
  unfold bk_X9_never_61 at hzz
  have wzz := fr_bk_X9_never_70 hrec_18_0 hrec_30_1 hzz
  exact FrX.rf.tr wzz
set_option maxHeartbeats 200000 in
theorem fr_lb_X9_never_30 {rec_18_0 : Int32 × Int32 × Ob → Option (Int32 × Ob)} {rec_30_1 : Int32 × Int32 × Int32 × Ob → Option (Int32 × Ob)} {v1zz : Int32} {v2 : Int32} {v3 : Int32} {o_me : Ob} {yzz : Int32 × Ob} (hrec_18_0 : ∀ (azz : Int32 × Int32 × Ob) (yzz : Int32 × Ob), rec_18_0 azz = some yzz → FrX d_X9_never_me azz.2.2 yzz.2) (hrec_30_1 : ∀ (azz : Int32 × Int32 × Int32 × Ob) (yzz : Int32 × Ob), rec_30_1 azz = some yzz → FrX d_X9_never_me azz.2.2.2 yzz.2) (hzz : lb_X9_never_30 rec_18_0 rec_30_1 v1zz v2 v3 o_me = some yzz) : FrX d_X9_never_me o_me yzz.2 := by
  unfold lb_X9_never_30 at hzz
  rcases z_if hzz with ⟨-, hzz⟩ | ⟨-, hzz⟩
  · obtain ⟨x4zz, ex4, hzz⟩ := z_lt hzz
    have wzz := hrec_18_0 _ _ hzz
    exact FrX.rf.tr wzz
  · have hzz := (z_gd hzz).2
    rcases z_if hzz with ⟨-, hzz⟩ | ⟨-, hzz⟩
    · obtain ⟨z8, ez8, hzz⟩ := z_bd hzz
      rcases z_if hzz with ⟨-, hzz⟩ | ⟨-, hzz⟩
      · have wzz := fr_bk_X9_never_61 hrec_18_0 hrec_30_1 hzz
        exact FrX.rf.tr wzz
      · have wzz := fr_bk_X9_never_70 hrec_18_0 hrec_30_1 hzz
        exact FrX.rf.tr wzz
    · have wzz := fr_bk_X9_never_61 hrec_18_0 hrec_30_1 hzz
      exact FrX.rf.tr wzz
set_option maxHeartbeats 200000 in
theorem fr_lp_X9_never_30 {rec_18_0 : Int32 × Int32 × Ob → Option (Int32 × Ob)} (hrec_18_0 : ∀ (azz : Int32 × Int32 × Ob) (yzz : Int32 × Ob), rec_18_0 azz = some yzz → FrX d_X9_never_me azz.2.2 yzz.2) : ∀ (Nzz : Nat) (azz : Int32 × Int32 × Int32 × Ob) (yzz : Int32 × Ob), lp_X9_never_30 rec_18_0 Nzz azz = some yzz → FrX d_X9_never_me azz.2.2.2 yzz.2 := by
  intro Nzz
  induction Nzz with
  | zero => intro azz yzz hzz; cases hzz
  | succ Nzz ihzz => intro azz yzz hzz; exact fr_lb_X9_never_30  hrec_18_0 ihzz hzz
set_option maxHeartbeats 200000 in
theorem fr_lb_X9_never_18 {rec_18_0 : Int32 × Int32 × Ob → Option (Int32 × Ob)} {v1zz : Int32} {v2 : Int32} {o_me : Ob} {yzz : Int32 × Ob} (hrec_18_0 : ∀ (azz : Int32 × Int32 × Ob) (yzz : Int32 × Ob), rec_18_0 azz = some yzz → FrX d_X9_never_me azz.2.2 yzz.2) (hzz : lb_X9_never_18 rec_18_0 v1zz v2 o_me = some yzz) : FrX d_X9_never_me o_me yzz.2 := by
  unfold lb_X9_never_18 at hzz
  rcases z_if hzz with ⟨-, hzz⟩ | ⟨-, hzz⟩
  · have hzz := Option.some.inj hzz
    subst hzz
    exact FrX.rf
  · obtain ⟨z3, ez3, hzz⟩ := z_bd hzz
    have k1zz : FrX d_X9_never_me o_me z3 := FrX.rf.tr ((fr_f_X9_layRuns  ez3).mono rfl)
    have wzz := fr_lp_X9_never_30 hrec_18_0 _ _ _ hzz
    exact k1zz.tr wzz
set_option maxHeartbeats 200000 in
theorem fr_lp_X9_never_18   : ∀ (Nzz : Nat) (azz : Int32 × Int32 × Ob) (yzz : Int32 × Ob), lp_X9_never_18  Nzz azz = some yzz → FrX d_X9_never_me azz.2.2 yzz.2 := by
  intro Nzz
  induction Nzz with
  | zero => intro azz yzz hzz; cases hzz
  | succ Nzz ihzz => intro azz yzz hzz; exact fr_lb_X9_never_18   ihzz hzz
set_option maxHeartbeats 200000 in
theorem fr_f_X9_never {o_me : Ob} {yzz : Int32 × Ob}  (hzz : f_X9_never o_me = some yzz) : FrX d_X9_never_me o_me yzz.2 := by
  unfold f_X9_never at hzz
  obtain ⟨o1, eo1, hzz⟩ := z_lt hzz
  have k1zz : FrX d_X9_never_me o_me o1 := by rw [eo1]; exact FrX.sI FrX.rf rfl
  obtain ⟨x2zz, ex2zz, hzz⟩ := z_lt hzz
  have wzz := fr_lp_X9_never_18  _ _ _ hzz
  exact k1zz.tr wzz
def d_X9_of_me : DD := ([0, 34, 38], [39, 40], [], [35, 37], [])
set_option maxHeartbeats 200000 in
theorem fr_f_X9_of {o_me : Ob} {p0zz : Int32} {p1zz : Int32} {yzz : Int32 × Ob}  (hzz : f_X9_of o_me p0zz p1zz = some yzz) : FrX d_X9_of_me o_me yzz.2 := by
  unfold f_X9_of at hzz
  obtain ⟨o1, eo1, hzz⟩ := z_lt hzz
  have k1zz : FrX d_X9_of_me o_me o1 := by rw [eo1]; exact FrX.sI FrX.rf rfl
  obtain ⟨z2, ez2, hzz⟩ := z_bd hzz
  rcases z_if hzz with ⟨-, hzz⟩ | ⟨-, hzz⟩
  · have hzz := Option.some.inj hzz
    subst hzz
    exact k1zz
  · obtain ⟨z3, ez3, hzz⟩ := z_bd hzz
    rcases z_if hzz with ⟨-, hzz⟩ | ⟨-, hzz⟩
    · have hzz := Option.some.inj hzz
      subst hzz
      exact k1zz
    · rcases z_if hzz with ⟨-, hzz⟩ | ⟨-, hzz⟩
      · have hzz := (z_gd hzz).2
        have hzz := Option.some.inj hzz
        subst hzz
        exact k1zz
      · rcases z_if hzz with ⟨-, hzz⟩ | ⟨-, hzz⟩
        · have hzz := (z_gd hzz).2
          have hzz := Option.some.inj hzz
          subst hzz
          exact k1zz
        · rcases z_if hzz with ⟨-, hzz⟩ | ⟨-, hzz⟩
          · have hzz := (z_gd hzz).2
            have hzz := Option.some.inj hzz
            subst hzz
            exact k1zz
          · rcases z_if hzz with ⟨-, hzz⟩ | ⟨-, hzz⟩
            · have hzz := (z_gd hzz).2
              have hzz := Option.some.inj hzz
              subst hzz
              exact k1zz
            · obtain ⟨x9, ex9, hzz⟩ := z_lt hzz
              rcases z_if hzz with ⟨-, hzz⟩ | ⟨-, hzz⟩
              · rcases z_if hzz with ⟨-, hzz⟩ | ⟨-, hzz⟩
                · obtain ⟨z10, ez10, hzz⟩ := z_bd hzz
                  have k2zz : FrX d_X9_of_me o_me z10.2 := k1zz.tr ((fr_f_X9_isBarred  ez10).mono rfl)
                  rcases z_if hzz with ⟨-, hzz⟩ | ⟨-, hzz⟩
                  · have hzz := Option.some.inj hzz
                    subst hzz
                    exact k2zz
                  · have hzz := Option.some.inj hzz
                    subst hzz
                    exact k2zz
                · obtain ⟨z11, ez11, hzz⟩ := z_bd hzz
                  have k3zz : FrX d_X9_of_me o_me z11.2 := k1zz.tr ((fr_f_X9_runsOf  ez11).mono rfl)
                  have hzz := Option.some.inj hzz
                  subst hzz
                  exact k3zz
              · have hzz := (z_gd hzz).2
                have hzz := Option.some.inj hzz
                subst hzz
                exact k1zz
def d_X9_orderSum_me : DD := ([20, 38, 59], [39], [], [37], [])
set_option maxHeartbeats 200000 in
theorem fr_f_X9_orderSum {o_me : Ob} {p0zz : Int32} {yzz : Int32 × Ob}  (hzz : f_X9_orderSum o_me p0zz = some yzz) : FrX d_X9_orderSum_me o_me yzz.2 := by
  unfold f_X9_orderSum at hzz
  rcases z_if hzz with ⟨-, hzz⟩ | ⟨-, hzz⟩
  · have hzz := (z_gd hzz).2
    have hzz := (z_gd hzz).2
    rcases z_if hzz with ⟨-, hzz⟩ | ⟨-, hzz⟩
    · have hzz := Option.some.inj hzz
      subst hzz
      exact FrX.rf
    · obtain ⟨o3zz, eo3, hzz⟩ := z_lt hzz
      have k1zz : FrX d_X9_orderSum_me o_me o3zz := by rw [eo3]; exact FrX.sI FrX.rf rfl
      have hzz := (z_gd hzz).2
      have hzz := (z_gd hzz).2
      obtain ⟨z6, ez6, hzz⟩ := z_bd hzz
      have k2zz : FrX d_X9_orderSum_me o_me z6 := k1zz.tr ((fr_f_X9_reckonAll  ez6).mono rfl)
      obtain ⟨o7, eo7, hzz⟩ := z_lt hzz
      have k3zz : FrX d_X9_orderSum_me o_me o7 := by rw [eo7]; exact FrX.sI k2zz rfl
      have hzz := (z_gd hzz).2
      obtain ⟨o9, eo9, hzz⟩ := z_lt hzz
      have k4zz : FrX d_X9_orderSum_me o_me o9 := by rw [eo9]; exact FrX.sI k3zz rfl
      have hzz := Option.some.inj hzz
      subst hzz
      exact k4zz
  · have hzz := Option.some.inj hzz
    subst hzz
    exact FrX.rf
def d_X9_readSum_me : DD := ([14, 15, 16, 18, 19, 23, 26, 29, 30], [17], [24, 25, 27, 28, 55], [], [])
set_option maxHeartbeats 200000 in
theorem fr_bk_X9_readSum_22 {v1zz : Int32} {o_me : Ob} {yzz : Ob}  (hzz : bk_X9_readSum_22 v1zz o_me = some yzz) : FrX d_X9_readSum_me o_me yzz := by
  unfold bk_X9_readSum_22 at hzz
  have hzz := (z_gd hzz).2
  obtain ⟨o4zz, eo4, hzz⟩ := z_lt hzz
  have k1zz : FrX d_X9_readSum_me o_me o4zz := by rw [eo4]; exact FrX.tA FrX.rf rfl
  have hzz := Option.some.inj hzz
  subst hzz
  exact k1zz
set_option maxHeartbeats 200000 in
theorem fr_f_X9_readSum {o_me : Ob} {p0zz : Int32} {yzz : Ob}  (hzz : f_X9_readSum o_me p0zz = some yzz) : FrX d_X9_readSum_me o_me yzz := by
  unfold f_X9_readSum at hzz
  have hzz := (z_gd hzz).2
  obtain ⟨o2, eo2, hzz⟩ := z_lt hzz
  have k1zz : FrX d_X9_readSum_me o_me o2 := by rw [eo2]; exact FrX.tA FrX.rf rfl
  rcases z_if hzz with ⟨-, hzz⟩ | ⟨-, hzz⟩
  · obtain ⟨z5, ez5, hzz⟩ := z_bd hzz
    have k2zz : FrX d_X9_readSum_me o_me z5 := k1zz.tr ((fr_f_X9_readExpression  ez5).mono rfl)
    have wzz := fr_bk_X9_readSum_22  hzz
    exact k2zz.tr wzz
  · have wzz := fr_bk_X9_readSum_22  hzz
    exact k1zz.tr wzz
def d_X9_readOrder_me : DD := ([14, 15, 16, 18, 19, 21, 23, 26, 29, 30], [17], [24, 25, 27, 28, 55], [], [])
set_option maxHeartbeats 200000 in
theorem fr_bk_X9_readOrder_211 {v2 : Int32} {o_me : Ob} {yzz : Ob}  (hzz : bk_X9_readOrder_211 v2 o_me = some yzz) : FrX d_X9_readOrder_me o_me yzz := by
  unfold bk_X9_readOrder_211 at hzz
  have hzz := (z_gd hzz).2
  obtain ⟨o11, eo11, hzz⟩ := z_lt hzz
  have k1zz : FrX d_X9_readOrder_me o_me o11 := by rw [eo11]; exact FrX.tA FrX.rf rfl
  have hzz := Option.some.inj hzz
  subst hzz
  exact k1zz
set_option maxHeartbeats 200000 in
theorem fr_bk_X9_readOrder_173 {v2 : Int32} {o_me : Ob} {yzz : Ob}  (hzz : bk_X9_readOrder_173 v2 o_me = some yzz) : FrX d_X9_readOrder_me o_me yzz := by
  unfold bk_X9_readOrder_173 at hzz
  have hzz := (z_gd hzz).2
  obtain ⟨o9, eo9, hzz⟩ := z_lt hzz
  have k1zz : FrX d_X9_readOrder_me o_me o9 := by rw [eo9]; exact FrX.tA FrX.rf rfl
  rcases z_if hzz with ⟨-, hzz⟩ | ⟨-, hzz⟩
  · obtain ⟨z12, ez12, hzz⟩ := z_bd hzz
    rcases z_if hzz with ⟨-, hzz⟩ | ⟨-, hzz⟩
    · have wzz := fr_bk_X9_readOrder_211  hzz
      exact k1zz.tr wzz
    · obtain ⟨z13zz, ez13, hzz⟩ := z_bd hzz
      have k2zz : FrX d_X9_readOrder_me o_me z13zz := k1zz.tr ((fr_f_X9_next  ez13).mono rfl)
      obtain ⟨z14zz, ez14, hzz⟩ := z_bd hzz
      have k3zz : FrX d_X9_readOrder_me o_me z14zz := k2zz.tr ((fr_f_X9_readExpression  ez14).mono rfl)
      have wzz := fr_bk_X9_readOrder_211  hzz
      exact k3zz.tr wzz
  · have wzz := fr_bk_X9_readOrder_211  hzz
    exact k1zz.tr wzz
set_option maxHeartbeats 200000 in
theorem fr_bk_X9_readOrder_125 {v2 : Int32} {o_me : Ob} {yzz : Ob}  (hzz : bk_X9_readOrder_125 v2 o_me = some yzz) : FrX d_X9_readOrder_me o_me yzz := by
  unfold bk_X9_readOrder_125 at hzz
  have hzz := (z_gd hzz).2
  obtain ⟨o7, eo7, hzz⟩ := z_lt hzz
  have k1zz : FrX d_X9_readOrder_me o_me o7 := by rw [eo7]; exact FrX.tA FrX.rf rfl
  rcases z_if hzz with ⟨-, hzz⟩ | ⟨-, hzz⟩
  · obtain ⟨z15, ez15, hzz⟩ := z_bd hzz
    rcases z_if hzz with ⟨-, hzz⟩ | ⟨-, hzz⟩
    · have wzz := fr_bk_X9_readOrder_173  hzz
      exact k1zz.tr wzz
    · obtain ⟨z16, ez16, hzz⟩ := z_bd hzz
      have k2zz : FrX d_X9_readOrder_me o_me z16 := k1zz.tr ((fr_f_X9_next  ez16).mono rfl)
      obtain ⟨z17, ez17, hzz⟩ := z_bd hzz
      have k3zz : FrX d_X9_readOrder_me o_me z17.2 := k2zz.tr ((fr_f_X9_number  ez17).mono rfl)
      have hzz := (z_gd hzz).2
      obtain ⟨o19, eo19, hzz⟩ := z_lt hzz
      have k4zz : FrX d_X9_readOrder_me o_me o19 := by rw [eo19]; exact FrX.tA k3zz rfl
      have wzz := fr_bk_X9_readOrder_173  hzz
      exact k4zz.tr wzz
  · have wzz := fr_bk_X9_readOrder_173  hzz
    exact k1zz.tr wzz
set_option maxHeartbeats 200000 in
theorem fr_lb_X9_readOrder_85 {rec_85_3 : Int32 × Int32 × Int32 × Ob → Option (Ob)} {v1zz : Int32} {v2 : Int32} {v3 : Int32} {o_me : Ob} {yzz : Ob} (hrec_85_3 : ∀ (azz : Int32 × Int32 × Int32 × Ob) (yzz : Ob), rec_85_3 azz = some yzz → FrX d_X9_readOrder_me azz.2.2.2 yzz) (hzz : lb_X9_readOrder_85 rec_85_3 v1zz v2 v3 o_me = some yzz) : FrX d_X9_readOrder_me o_me yzz := by
  unfold lb_X9_readOrder_85 at hzz
  rcases z_if hzz with ⟨-, hzz⟩ | ⟨-, hzz⟩
  · have hzz := (z_gd hzz).2
    obtain ⟨o5zz, eo5, hzz⟩ := z_lt hzz
    have k1zz : FrX d_X9_readOrder_me o_me o5zz := by rw [eo5]; exact FrX.tA FrX.rf rfl
    rcases z_if hzz with ⟨-, hzz⟩ | ⟨-, hzz⟩
    · have wzz := fr_bk_X9_readOrder_125  hzz
      exact k1zz.tr wzz
    · obtain ⟨z20, ez20, hzz⟩ := z_bd hzz
      have k2zz : FrX d_X9_readOrder_me o_me z20 := k1zz.tr ((fr_f_X9_readSum  ez20).mono rfl)
      have wzz := fr_bk_X9_readOrder_125  hzz
      exact k2zz.tr wzz
  · have hzz := (z_gd hzz).2
    obtain ⟨o22, eo22, hzz⟩ := z_lt hzz
    have k3zz : FrX d_X9_readOrder_me o_me o22 := by rw [eo22]; exact FrX.tA FrX.rf rfl
    obtain ⟨x23, ex23, hzz⟩ := z_lt hzz
    have wzz := hrec_85_3 _ _ hzz
    exact k3zz.tr wzz
set_option maxHeartbeats 200000 in
theorem fr_lp_X9_readOrder_85   : ∀ (Nzz : Nat) (azz : Int32 × Int32 × Int32 × Ob) (yzz : Ob), lp_X9_readOrder_85  Nzz azz = some yzz → FrX d_X9_readOrder_me azz.2.2.2 yzz := by
  intro Nzz
  induction Nzz with
  | zero => intro azz yzz hzz; cases hzz
  | succ Nzz ihzz => intro azz yzz hzz; exact fr_lb_X9_readOrder_85   ihzz hzz
set_option maxHeartbeats 200000 in
theorem fr_bk_X9_readOrder_54 {v1zz : Int32} {s0zz : Int32} {o_me : Ob} {yzz : Ob}  (hzz : bk_X9_readOrder_54 v1zz s0zz o_me = some yzz) : FrX d_X9_readOrder_me o_me yzz := by
  unfold bk_X9_readOrder_54 at hzz
  obtain ⟨z1, ez1, hzz⟩ := z_bd hzz
  have k1zz : FrX d_X9_readOrder_me o_me z1 := FrX.rf.tr ((fr_f_X9_must  ez1).mono rfl)
  rcases z_if hzz with ⟨-, hzz⟩ | ⟨-, hzz⟩
  · obtain ⟨x2zz, ex2zz, hzz⟩ := z_lt hzz
    obtain ⟨o3zz, eo3, hzz⟩ := z_lt hzz
    have k2zz : FrX d_X9_readOrder_me o_me o3zz := by rw [eo3]; exact FrX.sI k1zz rfl
    have wzz := fr_lp_X9_readOrder_85  _ _ _ hzz
    exact k2zz.tr wzz
  · have hzz := Option.some.inj hzz
    subst hzz
    exact k1zz
set_option maxHeartbeats 200000 in
theorem fr_bk_X9_readOrder_53 {v1zz : Int32} {o_me : Ob} {yzz : Ob}  (hzz : bk_X9_readOrder_53 v1zz o_me = some yzz) : FrX d_X9_readOrder_me o_me yzz := by
  unfold bk_X9_readOrder_53 at hzz
  have wzz := fr_bk_X9_readOrder_54  hzz
  exact FrX.rf.tr wzz
set_option maxHeartbeats 200000 in
theorem fr_bk_X9_readOrder_27 {rec_4_0 : Int32 × Int32 × Ob → Option (Ob)} {v2 : Int32} {s0zz : Int32} {o_me : Ob} {yzz : Ob} (hrec_4_0 : ∀ (azz : Int32 × Int32 × Ob) (yzz : Ob), rec_4_0 azz = some yzz → FrX d_X9_readOrder_me azz.2.2 yzz) (hzz : bk_X9_readOrder_27 rec_4_0 v2 s0zz o_me = some yzz) : FrX d_X9_readOrder_me o_me yzz := by
  unfold bk_X9_readOrder_27 at hzz
  obtain ⟨x26, ex26, hzz⟩ := z_lt hzz
  have wzz := hrec_4_0 _ _ hzz
  exact FrX.rf.tr wzz
set_option maxHeartbeats 200000 in
theorem fr_lb_X9_readOrder_4 {rec_4_0 : Int32 × Int32 × Ob → Option (Ob)} {v1zz : Int32} {v2 : Int32} {o_me : Ob} {yzz : Ob} (hrec_4_0 : ∀ (azz : Int32 × Int32 × Ob) (yzz : Ob), rec_4_0 azz = some yzz → FrX d_X9_readOrder_me azz.2.2 yzz) (hzz : lb_X9_readOrder_4 rec_4_0 v1zz v2 o_me = some yzz) : FrX d_X9_readOrder_me o_me yzz := by
  unfold lb_X9_readOrder_4 at hzz
  rcases z_if hzz with ⟨-, hzz⟩ | ⟨-, hzz⟩
  · rcases z_if hzz with ⟨-, hzz⟩ | ⟨-, hzz⟩
    · have wzz := fr_bk_X9_readOrder_53  hzz
      exact FrX.rf.tr wzz
    · rcases z_if hzz with ⟨-, hzz⟩ | ⟨-, hzz⟩
      · have wzz := fr_bk_X9_readOrder_53  hzz
        exact FrX.rf.tr wzz
      · have wzz := fr_bk_X9_readOrder_54  hzz
        exact FrX.rf.tr wzz
  · have hzz := (z_gd hzz).2
    obtain ⟨z25, ez25, hzz⟩ := z_bd hzz
    rcases z_if hzz with ⟨-, hzz⟩ | ⟨-, hzz⟩
    · have wzz := fr_bk_X9_readOrder_27 hrec_4_0 hzz
      exact FrX.rf.tr wzz
    · have wzz := fr_bk_X9_readOrder_27 hrec_4_0 hzz
      exact FrX.rf.tr wzz
set_option maxHeartbeats 200000 in
theorem fr_lp_X9_readOrder_4   : ∀ (Nzz : Nat) (azz : Int32 × Int32 × Ob) (yzz : Ob), lp_X9_readOrder_4  Nzz azz = some yzz → FrX d_X9_readOrder_me azz.2.2 yzz := by
  intro Nzz
  induction Nzz with
  | zero => intro azz yzz hzz; cases hzz
  | succ Nzz ihzz => intro azz yzz hzz; exact fr_lb_X9_readOrder_4   ihzz hzz
set_option maxHeartbeats 200000 in
theorem fr_f_X9_readOrder {o_me : Ob} {yzz : Ob}  (hzz : f_X9_readOrder o_me = some yzz) : FrX d_X9_readOrder_me o_me yzz := by
  unfold f_X9_readOrder at hzz
  have wzz := fr_lp_X9_readOrder_4  _ _ _ hzz
  exact FrX.rf.tr wzz
def d_X9_run_me : DD := ([8, 20, 34, 38, 43, 56, 57, 59], [39, 40], [3, 6, 7, 41, 42], [35, 36, 37], [])
set_option maxHeartbeats 200000 in
theorem fr_bk_X9_run_161 {s0zz : Int32} {o_me : Ob} {yzz : Int32 × Ob}  (hzz : bk_X9_run_161 s0zz o_me = some yzz) : FrX d_X9_run_me o_me yzz.2 := by
  unfold bk_X9_run_161 at hzz
  obtain ⟨o14, eo14, hzz⟩ := z_lt hzz
  have k1zz : FrX d_X9_run_me o_me o14 := by rw [eo14]; exact FrX.sI FrX.rf rfl
  obtain ⟨o15, eo15, hzz⟩ := z_lt hzz
  have k2zz : FrX d_X9_run_me o_me o15 := by rw [eo15]; exact FrX.sI k1zz rfl
  have hzz := Option.some.inj hzz
  subst hzz
  exact k2zz
set_option maxHeartbeats 200000 in
theorem fr_bk_X9_run_106 {v1zz : Int32} {o_me : Ob} {yzz : Int32 × Ob}  (hzz : bk_X9_run_106 v1zz o_me = some yzz) : FrX d_X9_run_me o_me yzz.2 := by
  unfold bk_X9_run_106 at hzz
  obtain ⟨z10, ez10, hzz⟩ := z_bd hzz
  have k1zz : FrX d_X9_run_me o_me z10.2 := FrX.rf.tr ((fr_f_X9_orderSum  ez10).mono rfl)
  rcases z_if hzz with ⟨-, hzz⟩ | ⟨-, hzz⟩
  · have hzz := (z_gd hzz).2
    obtain ⟨z12, ez12, hzz⟩ := z_bd hzz
    have k2zz : FrX d_X9_run_me o_me z12.2 := k1zz.tr ((fr_f_X9_act  ez12).mono rfl)
    rcases z_if hzz with ⟨-, hzz⟩ | ⟨-, hzz⟩
    · have hzz := (z_gd hzz).2
      rcases z_if hzz with ⟨-, hzz⟩ | ⟨-, hzz⟩
      · have wzz := fr_bk_X9_run_161  hzz
        exact k2zz.tr wzz
      · have wzz := fr_bk_X9_run_161  hzz
        exact k2zz.tr wzz
    · have hzz := Option.some.inj hzz
      subst hzz
      exact k2zz
  · have hzz := Option.some.inj hzz
    subst hzz
    exact k1zz
set_option maxHeartbeats 200000 in
theorem fr_f_X9_run {o_me : Ob} {p0zz : Int32} {yzz : Int32 × Ob}  (hzz : f_X9_run o_me p0zz = some yzz) : FrX d_X9_run_me o_me yzz.2 := by
  unfold f_X9_run at hzz
  obtain ⟨o1, eo1, hzz⟩ := z_lt hzz
  have k1zz : FrX d_X9_run_me o_me o1 := by rw [eo1]; exact FrX.tM FrX.rf rfl
  obtain ⟨o2, eo2, hzz⟩ := z_lt hzz
  have k2zz : FrX d_X9_run_me o_me o2 := by rw [eo2]; exact FrX.tM k1zz rfl
  obtain ⟨o3zz, eo3, hzz⟩ := z_lt hzz
  have k3zz : FrX d_X9_run_me o_me o3zz := by rw [eo3]; exact FrX.tM k2zz rfl
  obtain ⟨o4zz, eo4, hzz⟩ := z_lt hzz
  have k4zz : FrX d_X9_run_me o_me o4zz := by rw [eo4]; exact FrX.tM k3zz rfl
  obtain ⟨z5, ez5, hzz⟩ := z_bd hzz
  obtain ⟨o6, eo6, hzz⟩ := z_lt hzz
  have k5zz : FrX d_X9_run_me o_me o6 := by rw [eo6]; exact FrX.tM k4zz rfl
  obtain ⟨o7, eo7, hzz⟩ := z_lt hzz
  have k6zz : FrX d_X9_run_me o_me o7 := by rw [eo7]; exact FrX.sI k5zz rfl
  have hzz := (z_gd hzz).2
  have hzz := (z_gd hzz).2
  rcases z_if hzz with ⟨-, hzz⟩ | ⟨-, hzz⟩
  · have wzz := fr_bk_X9_run_106  hzz
    exact k6zz.tr wzz
  · obtain ⟨z16, ez16, hzz⟩ := z_bd hzz
    have k7zz : FrX d_X9_run_me o_me z16.2 := k6zz.tr ((fr_f_X9_orderSum  ez16).mono rfl)
    rcases z_if hzz with ⟨-, hzz⟩ | ⟨-, hzz⟩
    · rcases z_if hzz with ⟨-, hzz⟩ | ⟨-, hzz⟩
      · have hzz := Option.some.inj hzz
        subst hzz
        exact k7zz
      · have wzz := fr_bk_X9_run_106  hzz
        exact k7zz.tr wzz
    · have hzz := Option.some.inj hzz
      subst hzz
      exact k7zz
def d_X9_orders_me : DD := ([0, 1, 8, 13, 14, 15, 16, 18, 19, 20, 21, 23, 26, 29, 30, 34, 38, 43, 56, 57, 58, 59], [17, 39, 40], [2, 3, 6, 7, 9, 10, 24, 25, 27, 28, 41, 42, 55], [35, 36, 37], [])
set_option maxHeartbeats 200000 in
theorem fr_lb_X9_orders_150 {rec_140_4 : Int32 × Int32 × Ob → Option (Int32 × Ob)} {rec_150_5 : Int32 × Int32 × Int32 × Ob → Option (Int32 × Ob)} {v1zz : Int32} {v2 : Int32} {v3 : Int32} {o_me : Ob} {yzz : Int32 × Ob} (hrec_140_4 : ∀ (azz : Int32 × Int32 × Ob) (yzz : Int32 × Ob), rec_140_4 azz = some yzz → FrX d_X9_orders_me azz.2.2 yzz.2) (hrec_150_5 : ∀ (azz : Int32 × Int32 × Int32 × Ob) (yzz : Int32 × Ob), rec_150_5 azz = some yzz → FrX d_X9_orders_me azz.2.2.2 yzz.2) (hzz : lb_X9_orders_150 rec_140_4 rec_150_5 v1zz v2 v3 o_me = some yzz) : FrX d_X9_orders_me o_me yzz.2 := by
  unfold lb_X9_orders_150 at hzz
  have hzz := (z_gd hzz).2
  rcases z_if hzz with ⟨-, hzz⟩ | ⟨-, hzz⟩
  · obtain ⟨x12, ex12, hzz⟩ := z_lt hzz
    have wzz := hrec_140_4 _ _ hzz
    exact FrX.rf.tr wzz
  · obtain ⟨z13zz, ez13, hzz⟩ := z_bd hzz
    have k1zz : FrX d_X9_orders_me o_me z13zz.2 := FrX.rf.tr ((fr_f_X9_run  ez13).mono rfl)
    rcases z_if hzz with ⟨-, hzz⟩ | ⟨-, hzz⟩
    · obtain ⟨x14, ex14, hzz⟩ := z_lt hzz
      have wzz := hrec_150_5 _ _ hzz
      exact k1zz.tr wzz
    · obtain ⟨z15, ez15, hzz⟩ := z_bd hzz
      have k2zz : FrX d_X9_orders_me o_me z15 := k1zz.tr ((fr_f_X9_giveBack  ez15).mono rfl)
      obtain ⟨o16, eo16, hzz⟩ := z_lt hzz
      have k3zz : FrX d_X9_orders_me o_me o16 := by rw [eo16]; exact FrX.sI k2zz rfl
      obtain ⟨z17, ez17, hzz⟩ := z_bd hzz
      have k4zz : FrX d_X9_orders_me o_me z17.2 := k3zz.tr ((fr_f_X9_tell  ez17).mono rfl)
      have hzz := Option.some.inj hzz
      subst hzz
      exact k4zz
set_option maxHeartbeats 200000 in
theorem fr_lp_X9_orders_150 {rec_140_4 : Int32 × Int32 × Ob → Option (Int32 × Ob)} (hrec_140_4 : ∀ (azz : Int32 × Int32 × Ob) (yzz : Int32 × Ob), rec_140_4 azz = some yzz → FrX d_X9_orders_me azz.2.2 yzz.2) : ∀ (Nzz : Nat) (azz : Int32 × Int32 × Int32 × Ob) (yzz : Int32 × Ob), lp_X9_orders_150 rec_140_4 Nzz azz = some yzz → FrX d_X9_orders_me azz.2.2.2 yzz.2 := by
  intro Nzz
  induction Nzz with
  | zero => intro azz yzz hzz; cases hzz
  | succ Nzz ihzz => intro azz yzz hzz; exact fr_lb_X9_orders_150  hrec_140_4 ihzz hzz
set_option maxHeartbeats 200000 in
theorem fr_lb_X9_orders_140 {rec_140_4 : Int32 × Int32 × Ob → Option (Int32 × Ob)} {v1zz : Int32} {v2 : Int32} {o_me : Ob} {yzz : Int32 × Ob} (hrec_140_4 : ∀ (azz : Int32 × Int32 × Ob) (yzz : Int32 × Ob), rec_140_4 azz = some yzz → FrX d_X9_orders_me azz.2.2 yzz.2) (hzz : lb_X9_orders_140 rec_140_4 v1zz v2 o_me = some yzz) : FrX d_X9_orders_me o_me yzz.2 := by
  unfold lb_X9_orders_140 at hzz
  rcases z_if hzz with ⟨-, hzz⟩ | ⟨-, hzz⟩
  · obtain ⟨z10, ez10, hzz⟩ := z_bd hzz
    have k1zz : FrX d_X9_orders_me o_me z10.2 := FrX.rf.tr ((fr_f_X9_tell  ez10).mono rfl)
    have hzz := Option.some.inj hzz
    subst hzz
    exact k1zz
  · have wzz := fr_lp_X9_orders_150 hrec_140_4 _ _ _ hzz
    exact FrX.rf.tr wzz
set_option maxHeartbeats 200000 in
theorem fr_lp_X9_orders_140   : ∀ (Nzz : Nat) (azz : Int32 × Int32 × Ob) (yzz : Int32 × Ob), lp_X9_orders_140  Nzz azz = some yzz → FrX d_X9_orders_me azz.2.2 yzz.2 := by
  intro Nzz
  induction Nzz with
  | zero => intro azz yzz hzz; cases hzz
  | succ Nzz ihzz => intro azz yzz hzz; exact fr_lb_X9_orders_140   ihzz hzz
set_option maxHeartbeats 200000 in
theorem fr_lb_X9_orders_104 {rec_104_3 : Int32 × Int32 × Ob → Option (Int32 × Ob)} {v1zz : Int32} {v2 : Int32} {o_me : Ob} {yzz : Int32 × Ob} (hrec_104_3 : ∀ (azz : Int32 × Int32 × Ob) (yzz : Int32 × Ob), rec_104_3 azz = some yzz → FrX d_X9_orders_me azz.2.2 yzz.2) (hzz : lb_X9_orders_104 rec_104_3 v1zz v2 o_me = some yzz) : FrX d_X9_orders_me o_me yzz.2 := by
  unfold lb_X9_orders_104 at hzz
  rcases z_if hzz with ⟨-, hzz⟩ | ⟨-, hzz⟩
  · obtain ⟨o8zz, eo8, hzz⟩ := z_lt hzz
    have k1zz : FrX d_X9_orders_me o_me o8zz := by rw [eo8]; exact FrX.sI FrX.rf rfl
    obtain ⟨o9, eo9, hzz⟩ := z_lt hzz
    have k2zz : FrX d_X9_orders_me o_me o9 := by rw [eo9]; exact FrX.sI k1zz rfl
    have wzz := fr_lp_X9_orders_140  _ _ _ hzz
    exact k2zz.tr wzz
  · have hzz := (z_gd hzz).2
    have hzz := (z_gd hzz).2
    obtain ⟨o20, eo20, hzz⟩ := z_lt hzz
    have k3zz : FrX d_X9_orders_me o_me o20 := by rw [eo20]; exact FrX.tA FrX.rf rfl
    obtain ⟨x21, ex21, hzz⟩ := z_lt hzz
    have wzz := hrec_104_3 _ _ hzz
    exact k3zz.tr wzz
set_option maxHeartbeats 200000 in
theorem fr_lp_X9_orders_104   : ∀ (Nzz : Nat) (azz : Int32 × Int32 × Ob) (yzz : Int32 × Ob), lp_X9_orders_104  Nzz azz = some yzz → FrX d_X9_orders_me azz.2.2 yzz.2 := by
  intro Nzz
  induction Nzz with
  | zero => intro azz yzz hzz; cases hzz
  | succ Nzz ihzz => intro azz yzz hzz; exact fr_lb_X9_orders_104   ihzz hzz
set_option maxHeartbeats 200000 in
theorem fr_lb_X9_orders_77 {rec_77_2 : Int32 × Int32 × Ob → Option (Int32 × Ob)} {v1zz : Int32} {v2 : Int32} {o_me : Ob} {yzz : Int32 × Ob} (hrec_77_2 : ∀ (azz : Int32 × Int32 × Ob) (yzz : Int32 × Ob), rec_77_2 azz = some yzz → FrX d_X9_orders_me azz.2.2 yzz.2) (hzz : lb_X9_orders_77 rec_77_2 v1zz v2 o_me = some yzz) : FrX d_X9_orders_me o_me yzz.2 := by
  unfold lb_X9_orders_77 at hzz
  rcases z_if hzz with ⟨-, hzz⟩ | ⟨-, hzz⟩
  · have wzz := fr_lp_X9_orders_104  _ _ _ hzz
    exact FrX.rf.tr wzz
  · have hzz := (z_gd hzz).2
    have hzz := (z_gd hzz).2
    obtain ⟨o24, eo24, hzz⟩ := z_lt hzz
    have k1zz : FrX d_X9_orders_me o_me o24 := by rw [eo24]; exact FrX.tA FrX.rf rfl
    obtain ⟨x25, ex25, hzz⟩ := z_lt hzz
    have wzz := hrec_77_2 _ _ hzz
    exact k1zz.tr wzz
set_option maxHeartbeats 200000 in
theorem fr_lp_X9_orders_77   : ∀ (Nzz : Nat) (azz : Int32 × Int32 × Ob) (yzz : Int32 × Ob), lp_X9_orders_77  Nzz azz = some yzz → FrX d_X9_orders_me azz.2.2 yzz.2 := by
  intro Nzz
  induction Nzz with
  | zero => intro azz yzz hzz; cases hzz
  | succ Nzz ihzz => intro azz yzz hzz; exact fr_lb_X9_orders_77   ihzz hzz
set_option maxHeartbeats 200000 in
theorem fr_bk_X9_orders_46 {o_me : Ob} {yzz : Int32 × Ob}  (hzz : bk_X9_orders_46 o_me = some yzz) : FrX d_X9_orders_me o_me yzz.2 := by
  unfold bk_X9_orders_46 at hzz
  obtain ⟨z5, ez5, hzz⟩ := z_bd hzz
  have k1zz : FrX d_X9_orders_me o_me z5 := FrX.rf.tr ((fr_f_X9_endText  ez5).mono rfl)
  rcases z_if hzz with ⟨-, hzz⟩ | ⟨-, hzz⟩
  · obtain ⟨z6, ez6, hzz⟩ := z_bd hzz
    have k2zz : FrX d_X9_orders_me o_me z6 := k1zz.tr ((fr_f_X9_keepAll  ez6).mono rfl)
    obtain ⟨x7, ex7, hzz⟩ := z_lt hzz
    have wzz := fr_lp_X9_orders_77  _ _ _ hzz
    exact k2zz.tr wzz
  · obtain ⟨z26, ez26, hzz⟩ := z_bd hzz
    have k3zz : FrX d_X9_orders_me o_me z26.2 := k1zz.tr ((fr_f_X9_tell  ez26).mono rfl)
    have hzz := Option.some.inj hzz
    subst hzz
    exact k3zz
set_option maxHeartbeats 200000 in
theorem fr_lb_X9_orders_19 {rec_19_0 : Ob → Option (Int32 × Ob)} {o_me : Ob} {yzz : Int32 × Ob} (hrec_19_0 : ∀ (azz : Ob) (yzz : Int32 × Ob), rec_19_0 azz = some yzz → FrX d_X9_orders_me azz yzz.2) (hzz : lb_X9_orders_19 rec_19_0 o_me = some yzz) : FrX d_X9_orders_me o_me yzz.2 := by
  unfold lb_X9_orders_19 at hzz
  rcases z_if hzz with ⟨-, hzz⟩ | ⟨-, hzz⟩
  · obtain ⟨z27, ez27, hzz⟩ := z_bd hzz
    rcases z_if hzz with ⟨-, hzz⟩ | ⟨-, hzz⟩
    · have wzz := fr_bk_X9_orders_46  hzz
      exact FrX.rf.tr wzz
    · obtain ⟨z28zz, ez28, hzz⟩ := z_bd hzz
      have k1zz : FrX d_X9_orders_me o_me z28zz := FrX.rf.tr ((fr_f_X9_next  ez28).mono rfl)
      obtain ⟨z29zz, ez29, hzz⟩ := z_bd hzz
      have k2zz : FrX d_X9_orders_me o_me z29zz := k1zz.tr ((fr_f_X9_readOrder  ez29).mono rfl)
      have wzz := hrec_19_0 _ _ hzz
      exact k2zz.tr wzz
  · have wzz := fr_bk_X9_orders_46  hzz
    exact FrX.rf.tr wzz
set_option maxHeartbeats 200000 in
theorem fr_lp_X9_orders_19   : ∀ (Nzz : Nat) (azz : Ob) (yzz : Int32 × Ob), lp_X9_orders_19  Nzz azz = some yzz → FrX d_X9_orders_me azz yzz.2 := by
  intro Nzz
  induction Nzz with
  | zero => intro azz yzz hzz; cases hzz
  | succ Nzz ihzz => intro azz yzz hzz; exact fr_lb_X9_orders_19   ihzz hzz
set_option maxHeartbeats 200000 in
theorem fr_f_X9_orders {o_me : Ob} {yzz : Int32 × Ob}  (hzz : f_X9_orders o_me = some yzz) : FrX d_X9_orders_me o_me yzz.2 := by
  unfold f_X9_orders at hzz
  obtain ⟨o1, eo1, hzz⟩ := z_lt hzz
  have k1zz : FrX d_X9_orders_me o_me o1 := by rw [eo1]; exact FrX.sI FrX.rf rfl
  obtain ⟨o2, eo2, hzz⟩ := z_lt hzz
  have k2zz : FrX d_X9_orders_me o_me o2 := by rw [eo2]; exact FrX.sI k1zz rfl
  obtain ⟨z3, ez3, hzz⟩ := z_bd hzz
  have k3zz : FrX d_X9_orders_me o_me z3 := k2zz.tr ((fr_f_X9_beginText  ez3).mono rfl)
  obtain ⟨z4, ez4, hzz⟩ := z_bd hzz
  have k4zz : FrX d_X9_orders_me o_me z4 := k3zz.tr ((fr_f_X9_readOrder  ez4).mono rfl)
  have wzz := fr_lp_X9_orders_19  _ _ _ hzz
  exact k4zz.tr wzz
def d_X9_placed_me : DD := ([0, 34, 38, 43], [39, 40], [41, 42], [35, 37], [])
set_option maxHeartbeats 200000 in
theorem fr_f_X9_placed {o_me : Ob} {p0zz : Int32} {p1zz : Int32} {yzz : Int32 × Ob}  (hzz : f_X9_placed o_me p0zz p1zz = some yzz) : FrX d_X9_placed_me o_me yzz.2 := by
  unfold f_X9_placed at hzz
  obtain ⟨o1, eo1, hzz⟩ := z_lt hzz
  have k1zz : FrX d_X9_placed_me o_me o1 := by rw [eo1]; exact FrX.sI FrX.rf rfl
  obtain ⟨z2, ez2, hzz⟩ := z_bd hzz
  rcases z_if hzz with ⟨-, hzz⟩ | ⟨-, hzz⟩
  · have hzz := Option.some.inj hzz
    subst hzz
    exact k1zz
  · obtain ⟨z3, ez3, hzz⟩ := z_bd hzz
    rcases z_if hzz with ⟨-, hzz⟩ | ⟨-, hzz⟩
    · have hzz := Option.some.inj hzz
      subst hzz
      exact k1zz
    · obtain ⟨z4, ez4, hzz⟩ := z_bd hzz
      have k2zz : FrX d_X9_placed_me o_me z4 := k1zz.tr ((fr_f_X9_layPlaces  ez4).mono rfl)
      rcases z_if hzz with ⟨-, hzz⟩ | ⟨-, hzz⟩
      · have hzz := Option.some.inj hzz
        subst hzz
        exact k2zz
      · rcases z_if hzz with ⟨-, hzz⟩ | ⟨-, hzz⟩
        · have hzz := Option.some.inj hzz
          subst hzz
          exact k2zz
        · have hzz := (z_gd hzz).2
          have hzz := Option.some.inj hzz
          subst hzz
          exact k2zz
def d_X9_ranking_me : DD := ([0], [], [46], [], [])
set_option maxHeartbeats 200000 in
theorem fr_lb_X9_ranking_47 {rec_39_0 : Int32 × Int32 × Int32 × Int32 × Ob → Option (Int32 × Ob)} {rec_47_1 : Int32 × Int32 × Int32 × Int32 × Ob → Option (Int32 × Ob)} {v1zz : Int32} {v2 : Int32} {v3 : Int32} {v4zz : Int32} {o_me : Ob} {yzz : Int32 × Ob} (hrec_39_0 : ∀ (azz : Int32 × Int32 × Int32 × Int32 × Ob) (yzz : Int32 × Ob), rec_39_0 azz = some yzz → FrX d_X9_ranking_me azz.2.2.2.2 yzz.2) (hrec_47_1 : ∀ (azz : Int32 × Int32 × Int32 × Int32 × Ob) (yzz : Int32 × Ob), rec_47_1 azz = some yzz → FrX d_X9_ranking_me azz.2.2.2.2 yzz.2) (hzz : lb_X9_ranking_47 rec_39_0 rec_47_1 v1zz v2 v3 v4zz o_me = some yzz) : FrX d_X9_ranking_me o_me yzz.2 := by
  unfold lb_X9_ranking_47 at hzz
  obtain ⟨z5, ez5, hzz⟩ := z_bd hzz
  have hzz := (z_gd hzz).2
  rcases z_if hzz with ⟨-, hzz⟩ | ⟨-, hzz⟩
  · obtain ⟨x7, ex7, hzz⟩ := z_lt hzz
    obtain ⟨x8, ex8, hzz⟩ := z_lt hzz
    have wzz := hrec_39_0 _ _ hzz
    exact FrX.rf.tr wzz
  · obtain ⟨x9, ex9, hzz⟩ := z_lt hzz
    have wzz := hrec_47_1 _ _ hzz
    exact FrX.rf.tr wzz
set_option maxHeartbeats 200000 in
theorem fr_lp_X9_ranking_47 {rec_39_0 : Int32 × Int32 × Int32 × Int32 × Ob → Option (Int32 × Ob)} (hrec_39_0 : ∀ (azz : Int32 × Int32 × Int32 × Int32 × Ob) (yzz : Int32 × Ob), rec_39_0 azz = some yzz → FrX d_X9_ranking_me azz.2.2.2.2 yzz.2) : ∀ (Nzz : Nat) (azz : Int32 × Int32 × Int32 × Int32 × Ob) (yzz : Int32 × Ob), lp_X9_ranking_47 rec_39_0 Nzz azz = some yzz → FrX d_X9_ranking_me azz.2.2.2.2 yzz.2 := by
  intro Nzz
  induction Nzz with
  | zero => intro azz yzz hzz; cases hzz
  | succ Nzz ihzz => intro azz yzz hzz; exact fr_lb_X9_ranking_47  hrec_39_0 ihzz hzz
set_option maxHeartbeats 200000 in
theorem fr_lb_X9_ranking_39 {rec_39_0 : Int32 × Int32 × Int32 × Int32 × Ob → Option (Int32 × Ob)} {v1zz : Int32} {v2 : Int32} {v3 : Int32} {v4zz : Int32} {o_me : Ob} {yzz : Int32 × Ob} (hrec_39_0 : ∀ (azz : Int32 × Int32 × Int32 × Int32 × Ob) (yzz : Int32 × Ob), rec_39_0 azz = some yzz → FrX d_X9_ranking_me azz.2.2.2.2 yzz.2) (hzz : lb_X9_ranking_39 rec_39_0 v1zz v2 v3 v4zz o_me = some yzz) : FrX d_X9_ranking_me o_me yzz.2 := by
  unfold lb_X9_ranking_39 at hzz
  rcases z_if hzz with ⟨-, hzz⟩ | ⟨-, hzz⟩
  · have hzz := Option.some.inj hzz
    subst hzz
    exact FrX.rf
  · have wzz := fr_lp_X9_ranking_47 hrec_39_0 _ _ _ hzz
    exact FrX.rf.tr wzz
set_option maxHeartbeats 200000 in
theorem fr_lp_X9_ranking_39   : ∀ (Nzz : Nat) (azz : Int32 × Int32 × Int32 × Int32 × Ob) (yzz : Int32 × Ob), lp_X9_ranking_39  Nzz azz = some yzz → FrX d_X9_ranking_me azz.2.2.2.2 yzz.2 := by
  intro Nzz
  induction Nzz with
  | zero => intro azz yzz hzz; cases hzz
  | succ Nzz ihzz => intro azz yzz hzz; exact fr_lb_X9_ranking_39   ihzz hzz
set_option maxHeartbeats 200000 in
theorem fr_f_X9_ranking {o_me : Ob} {p0zz : Int32} {yzz : Int32 × Ob}  (hzz : f_X9_ranking o_me p0zz = some yzz) : FrX d_X9_ranking_me o_me yzz.2 := by
  unfold f_X9_ranking at hzz
  obtain ⟨o1, eo1, hzz⟩ := z_lt hzz
  have k1zz : FrX d_X9_ranking_me o_me o1 := by rw [eo1]; exact FrX.sI FrX.rf rfl
  obtain ⟨z2, ez2, hzz⟩ := z_bd hzz
  rcases z_if hzz with ⟨-, hzz⟩ | ⟨-, hzz⟩
  · have hzz := Option.some.inj hzz
    subst hzz
    exact k1zz
  · obtain ⟨z3, ez3, hzz⟩ := z_bd hzz
    have k2zz : FrX d_X9_ranking_me o_me z3 := k1zz.tr ((fr_f_X9_layLeft  ez3).mono rfl)
    obtain ⟨x4zz, ex4, hzz⟩ := z_lt hzz
    have wzz := fr_lp_X9_ranking_39  _ _ _ hzz
    exact k2zz.tr wzz
def d_X9_row_me : DD := ([0, 1, 11, 13], [], [2, 3], [], [])
set_option maxHeartbeats 200000 in
theorem fr_bk_X9_row_116 {rec_35_0 : Int32 × Int32 × Int32 × Ob → Option (Int32 × Ob)} {v1zz : Int32} {v2 : Int32} {v3 : Int32} {o_me : Ob} {yzz : Int32 × Ob} (hrec_35_0 : ∀ (azz : Int32 × Int32 × Int32 × Ob) (yzz : Int32 × Ob), rec_35_0 azz = some yzz → FrX d_X9_row_me azz.2.2.2 yzz.2) (hzz : bk_X9_row_116 rec_35_0 v1zz v2 v3 o_me = some yzz) : FrX d_X9_row_me o_me yzz.2 := by
  unfold bk_X9_row_116 at hzz
  obtain ⟨x7, ex7, hzz⟩ := z_lt hzz
  have wzz := hrec_35_0 _ _ hzz
  exact FrX.rf.tr wzz
set_option maxHeartbeats 200000 in
theorem fr_bk_X9_row_106 {rec_35_0 : Int32 × Int32 × Int32 × Ob → Option (Int32 × Ob)} {v1zz : Int32} {v2 : Int32} {v3 : Int32} {o_me : Ob} {yzz : Int32 × Ob} (hrec_35_0 : ∀ (azz : Int32 × Int32 × Int32 × Ob) (yzz : Int32 × Ob), rec_35_0 azz = some yzz → FrX d_X9_row_me azz.2.2.2 yzz.2) (hzz : bk_X9_row_106 rec_35_0 v1zz v2 v3 o_me = some yzz) : FrX d_X9_row_me o_me yzz.2 := by
  unfold bk_X9_row_106 at hzz
  obtain ⟨o6, eo6, hzz⟩ := z_lt hzz
  have k1zz : FrX d_X9_row_me o_me o6 := by rw [eo6]; exact FrX.sI FrX.rf rfl
  have wzz := fr_bk_X9_row_116 hrec_35_0 hzz
  exact k1zz.tr wzz
set_option maxHeartbeats 200000 in
theorem fr_lb_X9_row_58 {rec_35_0 : Int32 × Int32 × Int32 × Ob → Option (Int32 × Ob)} {rec_58_3 : Int32 × Int32 × Int32 × Int32 × Ob → Option (Int32 × Ob)} {v1zz : Int32} {v2 : Int32} {v3 : Int32} {v4zz : Int32} {o_me : Ob} {yzz : Int32 × Ob} (hrec_35_0 : ∀ (azz : Int32 × Int32 × Int32 × Ob) (yzz : Int32 × Ob), rec_35_0 azz = some yzz → FrX d_X9_row_me azz.2.2.2 yzz.2) (hrec_58_3 : ∀ (azz : Int32 × Int32 × Int32 × Int32 × Ob) (yzz : Int32 × Ob), rec_58_3 azz = some yzz → FrX d_X9_row_me azz.2.2.2.2 yzz.2) (hzz : lb_X9_row_58 rec_35_0 rec_58_3 v1zz v2 v3 v4zz o_me = some yzz) : FrX d_X9_row_me o_me yzz.2 := by
  unfold lb_X9_row_58 at hzz
  rcases z_if hzz with ⟨-, hzz⟩ | ⟨-, hzz⟩
  · obtain ⟨x9, ex9, hzz⟩ := z_lt hzz
    have wzz := fr_bk_X9_row_116 hrec_35_0 hzz
    exact FrX.rf.tr wzz
  · have hzz := (z_gd hzz).2
    have hzz := (z_gd hzz).2
    have hzz := (z_gd hzz).2
    obtain ⟨o13, eo13, hzz⟩ := z_lt hzz
    have k1zz : FrX d_X9_row_me o_me o13 := by rw [eo13]; exact FrX.tA FrX.rf rfl
    obtain ⟨x14, ex14, hzz⟩ := z_lt hzz
    have wzz := hrec_58_3 _ _ hzz
    exact k1zz.tr wzz
set_option maxHeartbeats 200000 in
theorem fr_lp_X9_row_58 {rec_35_0 : Int32 × Int32 × Int32 × Ob → Option (Int32 × Ob)} (hrec_35_0 : ∀ (azz : Int32 × Int32 × Int32 × Ob) (yzz : Int32 × Ob), rec_35_0 azz = some yzz → FrX d_X9_row_me azz.2.2.2 yzz.2) : ∀ (Nzz : Nat) (azz : Int32 × Int32 × Int32 × Int32 × Ob) (yzz : Int32 × Ob), lp_X9_row_58 rec_35_0 Nzz azz = some yzz → FrX d_X9_row_me azz.2.2.2.2 yzz.2 := by
  intro Nzz
  induction Nzz with
  | zero => intro azz yzz hzz; cases hzz
  | succ Nzz ihzz => intro azz yzz hzz; exact fr_lb_X9_row_58  hrec_35_0 ihzz hzz
set_option maxHeartbeats 200000 in
theorem fr_lb_X9_row_35 {rec_35_0 : Int32 × Int32 × Int32 × Ob → Option (Int32 × Ob)} {v1zz : Int32} {v2 : Int32} {v3 : Int32} {o_me : Ob} {yzz : Int32 × Ob} (hrec_35_0 : ∀ (azz : Int32 × Int32 × Int32 × Ob) (yzz : Int32 × Ob), rec_35_0 azz = some yzz → FrX d_X9_row_me azz.2.2.2 yzz.2) (hzz : lb_X9_row_35 rec_35_0 v1zz v2 v3 o_me = some yzz) : FrX d_X9_row_me o_me yzz.2 := by
  unfold lb_X9_row_35 at hzz
  rcases z_if hzz with ⟨-, hzz⟩ | ⟨-, hzz⟩
  · obtain ⟨z5, ez5, hzz⟩ := z_bd hzz
    have k1zz : FrX d_X9_row_me o_me z5.2 := FrX.rf.tr ((fr_f_X9_tell  ez5).mono rfl)
    have hzz := Option.some.inj hzz
    subst hzz
    exact k1zz
  · rcases z_if hzz with ⟨-, hzz⟩ | ⟨-, hzz⟩
    · have wzz := fr_bk_X9_row_106 hrec_35_0 hzz
      exact FrX.rf.tr wzz
    · obtain ⟨z8, ez8, hzz⟩ := z_bd hzz
      rcases z_if hzz with ⟨-, hzz⟩ | ⟨-, hzz⟩
      · have wzz := fr_bk_X9_row_106 hrec_35_0 hzz
        exact FrX.rf.tr wzz
      · have wzz := fr_lp_X9_row_58 hrec_35_0 _ _ _ hzz
        exact FrX.rf.tr wzz
set_option maxHeartbeats 200000 in
theorem fr_lp_X9_row_35   : ∀ (Nzz : Nat) (azz : Int32 × Int32 × Int32 × Ob) (yzz : Int32 × Ob), lp_X9_row_35  Nzz azz = some yzz → FrX d_X9_row_me azz.2.2.2 yzz.2 := by
  intro Nzz
  induction Nzz with
  | zero => intro azz yzz hzz; cases hzz
  | succ Nzz ihzz => intro azz yzz hzz; exact fr_lb_X9_row_35   ihzz hzz
set_option maxHeartbeats 200000 in
theorem fr_f_X9_row {o_me : Ob} {yzz : Int32 × Ob}  (hzz : f_X9_row o_me = some yzz) : FrX d_X9_row_me o_me yzz.2 := by
  unfold f_X9_row at hzz
  obtain ⟨o1, eo1, hzz⟩ := z_lt hzz
  have k1zz : FrX d_X9_row_me o_me o1 := by rw [eo1]; exact FrX.sI FrX.rf rfl
  obtain ⟨x2zz, ex2zz, hzz⟩ := z_lt hzz
  obtain ⟨o3zz, eo3, hzz⟩ := z_lt hzz
  have k2zz : FrX d_X9_row_me o_me o3zz := by rw [eo3]; exact FrX.sI k1zz rfl
  rcases z_if hzz with ⟨-, hzz⟩ | ⟨-, hzz⟩
  · obtain ⟨z15, ez15, hzz⟩ := z_bd hzz
    have k3zz : FrX d_X9_row_me o_me z15.2 := k2zz.tr ((fr_f_X9_tell  ez15).mono rfl)
    have hzz := Option.some.inj hzz
    subst hzz
    exact k3zz
  · obtain ⟨o4zz, eo4, hzz⟩ := z_lt hzz
    have k4zz : FrX d_X9_row_me o_me o4zz := by rw [eo4]; exact FrX.sI k2zz rfl
    have wzz := fr_lp_X9_row_35  _ _ _ hzz
    exact k4zz.tr wzz
def d_X9_status_me : DD := ([0], [], [], [], [])
set_option maxHeartbeats 200000 in
theorem fr_f_X9_status {o_me : Ob} {yzz : Int32 × Ob}  (hzz : f_X9_status o_me = some yzz) : FrX d_X9_status_me o_me yzz.2 := by
  unfold f_X9_status at hzz
  obtain ⟨o1, eo1, hzz⟩ := z_lt hzz
  have k1zz : FrX d_X9_status_me o_me o1 := by rw [eo1]; exact FrX.sI FrX.rf rfl
  have hzz := Option.some.inj hzz
  subst hzz
  exact k1zz
def d_X9_stopped_me : DD := ([0], [], [], [], [])
set_option maxHeartbeats 200000 in
theorem fr_f_X9_stopped {o_me : Ob} {yzz : Int32 × Ob}  (hzz : f_X9_stopped o_me = some yzz) : FrX d_X9_stopped_me o_me yzz.2 := by
  unfold f_X9_stopped at hzz
  obtain ⟨o1, eo1, hzz⟩ := z_lt hzz
  have k1zz : FrX d_X9_stopped_me o_me o1 := by rw [eo1]; exact FrX.sI FrX.rf rfl
  have hzz := Option.some.inj hzz
  subst hzz
  exact k1zz
def d_X3_worth_O_me : DD := ([], [], [], [1], [])
set_option maxHeartbeats 200000 in
theorem fr_bk_X3_worth_O_287 {nc_a0 : Nat} {ns_a0 : Nat} {o_a0 : Ob} {v4zz : Int32} {o_me : Ob} {yzz : Int64 × Ob}  (hzz : bk_X3_worth_O_287 nc_a0 ns_a0 o_a0 v4zz o_me = some yzz) : FrX d_X3_worth_O_me o_me yzz.2 := by
  unfold bk_X3_worth_O_287 at hzz
  rcases z_if hzz with ⟨-, hzz⟩ | ⟨-, hzz⟩
  · have hzz := Option.some.inj hzz
    subst hzz
    exact FrX.rf
  · have hzz := Option.some.inj hzz
    subst hzz
    exact FrX.rf
set_option maxHeartbeats 200000 in
theorem fr_bk_X3_worth_O_281 {nc_a0 : Nat} {ns_a0 : Nat} {o_a0 : Ob} {rec_30_0 : Int32 × Int32 × Int32 × Int32 × Int32 × Ob → Option (Int64 × Ob)} {v3 : Int32} {v4zz : Int32} {v5 : Int32} {v6 : Int32} {v7 : Int32} {o_me : Ob} {yzz : Int64 × Ob} (hrec_30_0 : ∀ (azz : Int32 × Int32 × Int32 × Int32 × Int32 × Ob) (yzz : Int64 × Ob), rec_30_0 azz = some yzz → FrX d_X3_worth_O_me azz.2.2.2.2.2 yzz.2) (hzz : bk_X3_worth_O_281 nc_a0 ns_a0 o_a0 rec_30_0 v3 v4zz v5 v6 v7 o_me = some yzz) : FrX d_X3_worth_O_me o_me yzz.2 := by
  unfold bk_X3_worth_O_281 at hzz
  obtain ⟨x12, ex12, hzz⟩ := z_lt hzz
  have wzz := hrec_30_0 _ _ hzz
  exact FrX.rf.tr wzz
set_option maxHeartbeats 200000 in
theorem fr_bk_X3_worth_O_112 {nc_a0 : Nat} {ns_a0 : Nat} {o_a0 : Ob} {rec_30_0 : Int32 × Int32 × Int32 × Int32 × Int32 × Ob → Option (Int64 × Ob)} {v3 : Int32} {v4zz : Int32} {v5 : Int32} {v6 : Int32} {v7 : Int32} {s0zz : Int64} {s1zz : Int32} {o_me : Ob} {yzz : Int64 × Ob} (hrec_30_0 : ∀ (azz : Int32 × Int32 × Int32 × Int32 × Int32 × Ob) (yzz : Int64 × Ob), rec_30_0 azz = some yzz → FrX d_X3_worth_O_me azz.2.2.2.2.2 yzz.2) (hzz : bk_X3_worth_O_112 nc_a0 ns_a0 o_a0 rec_30_0 v3 v4zz v5 v6 v7 s0zz s1zz o_me = some yzz) : FrX d_X3_worth_O_me o_me yzz.2 := by
  unfold bk_X3_worth_O_112 at hzz
  have hzz := (z_gd hzz).2
  obtain ⟨o10, eo10, hzz⟩ := z_lt hzz
  have k1zz : FrX d_X3_worth_O_me o_me o10 := by rw [eo10]; exact FrX.tM FrX.rf rfl
  obtain ⟨x11, ex11, hzz⟩ := z_lt hzz
  have wzz := fr_bk_X3_worth_O_281 hrec_30_0 hzz
  exact k1zz.tr wzz
set_option maxHeartbeats 200000 in
theorem fr_bk_X3_worth_O_75 {nc_a0 : Nat} {ns_a0 : Nat} {o_a0 : Ob} {rec_30_0 : Int32 × Int32 × Int32 × Int32 × Int32 × Ob → Option (Int64 × Ob)} {v3 : Int32} {v4zz : Int32} {v5 : Int32} {v6 : Int32} {v7 : Int32} {v8 : Int32} {v9 : Int32} {o_me : Ob} {yzz : Int64 × Ob} (hrec_30_0 : ∀ (azz : Int32 × Int32 × Int32 × Int32 × Int32 × Ob) (yzz : Int64 × Ob), rec_30_0 azz = some yzz → FrX d_X3_worth_O_me azz.2.2.2.2.2 yzz.2) (hzz : bk_X3_worth_O_75 nc_a0 ns_a0 o_a0 rec_30_0 v3 v4zz v5 v6 v7 v8 v9 o_me = some yzz) : FrX d_X3_worth_O_me o_me yzz.2 := by
  unfold bk_X3_worth_O_75 at hzz
  rcases z_if hzz with ⟨-, hzz⟩ | ⟨-, hzz⟩
  · rcases z_if hzz with ⟨-, hzz⟩ | ⟨-, hzz⟩
    · have wzz := fr_bk_X3_worth_O_112 hrec_30_0 hzz
      exact FrX.rf.tr wzz
    · obtain ⟨z8, ez8, hzz⟩ := z_bd hzz
      have wzz := fr_bk_X3_worth_O_112 hrec_30_0 hzz
      exact FrX.rf.tr wzz
  · have hzz := Option.some.inj hzz
    subst hzz
    exact FrX.rf
set_option maxHeartbeats 200000 in
theorem fr_bk_X3_worth_O_215 {nc_a0 : Nat} {ns_a0 : Nat} {o_a0 : Ob} {rec_30_0 : Int32 × Int32 × Int32 × Int32 × Int32 × Ob → Option (Int64 × Ob)} {v3 : Int32} {v4zz : Int32} {v5 : Int32} {v6 : Int32} {v7 : Int32} {o_me : Ob} {yzz : Int64 × Ob} (hrec_30_0 : ∀ (azz : Int32 × Int32 × Int32 × Int32 × Int32 × Ob) (yzz : Int64 × Ob), rec_30_0 azz = some yzz → FrX d_X3_worth_O_me azz.2.2.2.2.2 yzz.2) (hzz : bk_X3_worth_O_215 nc_a0 ns_a0 o_a0 rec_30_0 v3 v4zz v5 v6 v7 o_me = some yzz) : FrX d_X3_worth_O_me o_me yzz.2 := by
  unfold bk_X3_worth_O_215 at hzz
  have wzz := fr_bk_X3_worth_O_281 hrec_30_0 hzz
  exact FrX.rf.tr wzz
set_option maxHeartbeats 200000 in
theorem fr_bk_X3_worth_O_197 {nc_a0 : Nat} {ns_a0 : Nat} {o_a0 : Ob} {rec_30_0 : Int32 × Int32 × Int32 × Int32 × Int32 × Ob → Option (Int64 × Ob)} {v3 : Int32} {v4zz : Int32} {v5 : Int32} {v6 : Int32} {v7 : Int32} {v9 : Int32} {s0zz : Int32} {s1zz : Int32} {o_me : Ob} {yzz : Int64 × Ob} (hrec_30_0 : ∀ (azz : Int32 × Int32 × Int32 × Int32 × Int32 × Ob) (yzz : Int64 × Ob), rec_30_0 azz = some yzz → FrX d_X3_worth_O_me azz.2.2.2.2.2 yzz.2) (hzz : bk_X3_worth_O_197 nc_a0 ns_a0 o_a0 rec_30_0 v3 v4zz v5 v6 v7 v9 s0zz s1zz o_me = some yzz) : FrX d_X3_worth_O_me o_me yzz.2 := by
  unfold bk_X3_worth_O_197 at hzz
  rcases z_if hzz with ⟨-, hzz⟩ | ⟨-, hzz⟩
  · obtain ⟨x22, ex22, hzz⟩ := z_lt hzz
    have wzz := fr_bk_X3_worth_O_215 hrec_30_0 hzz
    exact FrX.rf.tr wzz
  · obtain ⟨x21, ex21, hzz⟩ := z_lt hzz
    have wzz := fr_bk_X3_worth_O_215 hrec_30_0 hzz
    exact FrX.rf.tr wzz
set_option maxHeartbeats 200000 in
theorem fr_bk_X3_worth_O_180 {nc_a0 : Nat} {ns_a0 : Nat} {o_a0 : Ob} {rec_30_0 : Int32 × Int32 × Int32 × Int32 × Int32 × Ob → Option (Int64 × Ob)} {v3 : Int32} {v4zz : Int32} {v5 : Int32} {v6 : Int32} {v7 : Int32} {s0zz : Int64} {s1zz : Int32} {o_me : Ob} {yzz : Int64 × Ob} (hrec_30_0 : ∀ (azz : Int32 × Int32 × Int32 × Int32 × Int32 × Ob) (yzz : Int64 × Ob), rec_30_0 azz = some yzz → FrX d_X3_worth_O_me azz.2.2.2.2.2 yzz.2) (hzz : bk_X3_worth_O_180 nc_a0 ns_a0 o_a0 rec_30_0 v3 v4zz v5 v6 v7 s0zz s1zz o_me = some yzz) : FrX d_X3_worth_O_me o_me yzz.2 := by
  unfold bk_X3_worth_O_180 at hzz
  have hzz := (z_gd hzz).2
  obtain ⟨o24, eo24, hzz⟩ := z_lt hzz
  have k1zz : FrX d_X3_worth_O_me o_me o24 := by rw [eo24]; exact FrX.tM FrX.rf rfl
  have wzz := fr_bk_X3_worth_O_215 hrec_30_0 hzz
  exact k1zz.tr wzz
set_option maxHeartbeats 200000 in
theorem fr_bk_X3_worth_O_154 {nc_a0 : Nat} {ns_a0 : Nat} {o_a0 : Ob} {rec_30_0 : Int32 × Int32 × Int32 × Int32 × Int32 × Ob → Option (Int64 × Ob)} {v3 : Int32} {v4zz : Int32} {v5 : Int32} {v6 : Int32} {v7 : Int32} {v8 : Int32} {v9 : Int32} {s0zz : Int32} {o_me : Ob} {yzz : Int64 × Ob} (hrec_30_0 : ∀ (azz : Int32 × Int32 × Int32 × Int32 × Int32 × Ob) (yzz : Int64 × Ob), rec_30_0 azz = some yzz → FrX d_X3_worth_O_me azz.2.2.2.2.2 yzz.2) (hzz : bk_X3_worth_O_154 nc_a0 ns_a0 o_a0 rec_30_0 v3 v4zz v5 v6 v7 v8 v9 s0zz o_me = some yzz) : FrX d_X3_worth_O_me o_me yzz.2 := by
  unfold bk_X3_worth_O_154 at hzz
  rcases z_if hzz with ⟨-, hzz⟩ | ⟨-, hzz⟩
  · rcases z_if hzz with ⟨-, hzz⟩ | ⟨-, hzz⟩
    · have wzz := fr_bk_X3_worth_O_180 hrec_30_0 hzz
      exact FrX.rf.tr wzz
    · have wzz := fr_bk_X3_worth_O_180 hrec_30_0 hzz
      exact FrX.rf.tr wzz
  · rcases z_if hzz with ⟨-, hzz⟩ | ⟨-, hzz⟩
    · have wzz := fr_bk_X3_worth_O_197 hrec_30_0 hzz
      exact FrX.rf.tr wzz
    · have wzz := fr_bk_X3_worth_O_197 hrec_30_0 hzz
      exact FrX.rf.tr wzz
set_option maxHeartbeats 200000 in
theorem fr_lb_X3_worth_O_30 {nc_a0 : Nat} {ns_a0 : Nat} {o_a0 : Ob} {rec_30_0 : Int32 × Int32 × Int32 × Int32 × Int32 × Ob → Option (Int64 × Ob)} {v3 : Int32} {v4zz : Int32} {v5 : Int32} {v6 : Int32} {v7 : Int32} {o_me : Ob} {yzz : Int64 × Ob} (hrec_30_0 : ∀ (azz : Int32 × Int32 × Int32 × Int32 × Int32 × Ob) (yzz : Int64 × Ob), rec_30_0 azz = some yzz → FrX d_X3_worth_O_me azz.2.2.2.2.2 yzz.2) (hzz : lb_X3_worth_O_30 nc_a0 ns_a0 o_a0 rec_30_0 v3 v4zz v5 v6 v7 o_me = some yzz) : FrX d_X3_worth_O_me o_me yzz.2 := by
  unfold lb_X3_worth_O_30 at hzz
  rcases z_if hzz with ⟨-, hzz⟩ | ⟨-, hzz⟩
  · have wzz := fr_bk_X3_worth_O_287  hzz
    exact FrX.rf.tr wzz
  · rcases z_if hzz with ⟨-, hzz⟩ | ⟨-, hzz⟩
    · have wzz := fr_bk_X3_worth_O_287  hzz
      exact FrX.rf.tr wzz
    · have hzz := (z_gd hzz).2
      obtain ⟨x4zz, ex4, hzz⟩ := z_lt hzz
      have hzz := (z_gd hzz).2
      obtain ⟨x6, ex6, hzz⟩ := z_lt hzz
      obtain ⟨x7, ex7, hzz⟩ := z_lt hzz
      rcases z_if hzz with ⟨-, hzz⟩ | ⟨-, hzz⟩
      · have wzz := fr_bk_X3_worth_O_75 hrec_30_0 hzz
        exact FrX.rf.tr wzz
      · rcases z_if hzz with ⟨-, hzz⟩ | ⟨-, hzz⟩
        · have wzz := fr_bk_X3_worth_O_75 hrec_30_0 hzz
          exact FrX.rf.tr wzz
        · rcases z_if hzz with ⟨-, hzz⟩ | ⟨-, hzz⟩
          · rcases z_if hzz with ⟨-, hzz⟩ | ⟨-, hzz⟩
            · obtain ⟨x13, ex13, hzz⟩ := z_lt hzz
              have hzz := (z_gd hzz).2
              have hzz := (z_gd hzz).2
              obtain ⟨z16, ez16, hzz⟩ := z_bd hzz
              have hzz := (z_gd hzz).2
              obtain ⟨o18, eo18, hzz⟩ := z_lt hzz
              have k1zz : FrX d_X3_worth_O_me o_me o18 := by rw [eo18]; exact FrX.tM FrX.rf rfl
              have hzz := (z_gd hzz).2
              rcases z_if hzz with ⟨-, hzz⟩ | ⟨-, hzz⟩
              · have hzz := Option.some.inj hzz
                subst hzz
                exact k1zz
              · have wzz := fr_bk_X3_worth_O_281 hrec_30_0 hzz
                exact k1zz.tr wzz
            · have hzz := Option.some.inj hzz
              subst hzz
              exact FrX.rf
          · rcases z_if hzz with ⟨-, hzz⟩ | ⟨-, hzz⟩
            · have hzz := (z_gd hzz).2
              rcases z_if hzz with ⟨-, hzz⟩ | ⟨-, hzz⟩
              · have wzz := fr_bk_X3_worth_O_154 hrec_30_0 hzz
                exact FrX.rf.tr wzz
              · have wzz := fr_bk_X3_worth_O_154 hrec_30_0 hzz
                exact FrX.rf.tr wzz
            · have hzz := Option.some.inj hzz
              subst hzz
              exact FrX.rf
set_option maxHeartbeats 200000 in
theorem fr_lp_X3_worth_O_30 {nc_a0 : Nat} {ns_a0 : Nat} {o_a0 : Ob}  : ∀ (Nzz : Nat) (azz : Int32 × Int32 × Int32 × Int32 × Int32 × Ob) (yzz : Int64 × Ob), lp_X3_worth_O_30 nc_a0 ns_a0 o_a0 Nzz azz = some yzz → FrX d_X3_worth_O_me azz.2.2.2.2.2 yzz.2 := by
  intro Nzz
  induction Nzz with
  | zero => intro azz yzz hzz; cases hzz
  | succ Nzz ihzz => intro azz yzz hzz; exact fr_lb_X3_worth_O_30 (nc_a0 := nc_a0) (ns_a0 := ns_a0) (o_a0 := o_a0)  ihzz hzz
set_option maxHeartbeats 200000 in
theorem fr_f_X3_worth_O {nc_a0 : Nat} {ns_a0 : Nat} {o_me : Ob} {o_a0 : Ob} {p1zz : Int32} {p2zz : Int32} {yzz : Int64 × Ob}  (hzz : f_X3_worth_O nc_a0 ns_a0 o_me o_a0 p1zz p2zz = some yzz) : FrX d_X3_worth_O_me o_me yzz.2 := by
  unfold f_X3_worth_O at hzz
  rcases z_if hzz with ⟨-, hzz⟩ | ⟨-, hzz⟩
  · obtain ⟨x1zz, ex1, hzz⟩ := z_lt hzz
    obtain ⟨x2zz, ex2zz, hzz⟩ := z_lt hzz
    have wzz := fr_lp_X3_worth_O_30  _ _ _ hzz
    exact FrX.rf.tr wzz
  · have hzz := Option.some.inj hzz
    subst hzz
    exact FrX.rf
def d_X3_setLawWords_O_me : DD := ([], [], [0], [], [])
set_option maxHeartbeats 200000 in
theorem fr_f_X3_setLawWords_O {o_me : Ob} {o_a0 : Ob} {o_a0_now : Ob} {p1zz : Int32} {p2zz : Int32} {p3zz : Int32} {yzz : Ob}  (hzz : f_X3_setLawWords_O o_me o_a0 o_a0_now p1zz p2zz p3zz = some yzz) : FrX d_X3_setLawWords_O_me o_me yzz := by
  unfold f_X3_setLawWords_O at hzz
  obtain ⟨o1, eo1, hzz⟩ := z_lt hzz
  have k1zz : FrX d_X3_setLawWords_O_me o_me o1 := by rw [eo1]; exact FrX.tA FrX.rf rfl
  obtain ⟨o2, eo2, hzz⟩ := z_lt hzz
  have k2zz : FrX d_X3_setLawWords_O_me o_me o2 := by rw [eo2]; exact FrX.tA k1zz rfl
  have hzz := (z_gd hzz).2
  obtain ⟨o4zz, eo4, hzz⟩ := z_lt hzz
  have k3zz : FrX d_X3_setLawWords_O_me o_me o4zz := by rw [eo4]; exact FrX.tA k2zz rfl
  have hzz := (z_gd hzz).2
  obtain ⟨o6, eo6, hzz⟩ := z_lt hzz
  have k4zz : FrX d_X3_setLawWords_O_me o_me o6 := by rw [eo6]; exact FrX.tA k3zz rfl
  have hzz := (z_gd hzz).2
  obtain ⟨o8zz, eo8, hzz⟩ := z_lt hzz
  have k5zz : FrX d_X3_setLawWords_O_me o_me o8zz := by rw [eo8]; exact FrX.tA k4zz rfl
  obtain ⟨o9, eo9, hzz⟩ := z_lt hzz
  have k6zz : FrX d_X3_setLawWords_O_me o_me o9 := by rw [eo9]; exact FrX.tA k5zz rfl
  obtain ⟨o10, eo10, hzz⟩ := z_lt hzz
  have k7zz : FrX d_X3_setLawWords_O_me o_me o10 := by rw [eo10]; exact FrX.tA k6zz rfl
  obtain ⟨o11, eo11, hzz⟩ := z_lt hzz
  have k8zz : FrX d_X3_setLawWords_O_me o_me o11 := by rw [eo11]; exact FrX.tA k7zz rfl
  obtain ⟨o12, eo12, hzz⟩ := z_lt hzz
  have k9 : FrX d_X3_setLawWords_O_me o_me o12 := by rw [eo12]; exact FrX.tA k8zz rfl
  have hzz := Option.some.inj hzz
  subst hzz
  exact k9
def d_X1_told_O_me_machine : DD := ([], [], [0], [1], [])
set_option maxHeartbeats 200000 in
theorem fr_bk_X1_told_O_130 {nc_a0 : Nat} {ns_a0 : Nat} {o_me : Ob} {o_me_isles : Ob} {o_me_isles_now : Ob} {o_a0 : Ob} {rec_51_0 : Int32 × Int32 × Ob → Option (Int64 × Ob)} {v2 : Int32} {v6 : Int32} {o_me_machine : Ob} {yzz : Int64 × Ob} (hrec_51_0 : ∀ (azz : Int32 × Int32 × Ob) (yzz : Int64 × Ob), rec_51_0 azz = some yzz → FrX d_X1_told_O_me_machine azz.2.2 yzz.2) (hzz : bk_X1_told_O_130 nc_a0 ns_a0 o_me o_me_isles o_me_isles_now o_a0 rec_51_0 v2 v6 o_me_machine = some yzz) : FrX d_X1_told_O_me_machine o_me_machine yzz.2 := by
  unfold bk_X1_told_O_130 at hzz
  obtain ⟨x6, ex6, hzz⟩ := z_lt hzz
  have wzz := hrec_51_0 _ _ hzz
  exact FrX.rf.tr wzz
set_option maxHeartbeats 200000 in
theorem fr_lb_X1_told_O_51 {nc_a0 : Nat} {ns_a0 : Nat} {o_me : Ob} {o_me_isles : Ob} {o_me_isles_now : Ob} {o_a0 : Ob} {rec_51_0 : Int32 × Int32 × Ob → Option (Int64 × Ob)} {v2 : Int32} {v6 : Int32} {o_me_machine : Ob} {yzz : Int64 × Ob} (hrec_51_0 : ∀ (azz : Int32 × Int32 × Ob) (yzz : Int64 × Ob), rec_51_0 azz = some yzz → FrX d_X1_told_O_me_machine azz.2.2 yzz.2) (hzz : lb_X1_told_O_51 nc_a0 ns_a0 o_me o_me_isles o_me_isles_now o_a0 rec_51_0 v2 v6 o_me_machine = some yzz) : FrX d_X1_told_O_me_machine o_me_machine yzz.2 := by
  unfold lb_X1_told_O_51 at hzz
  rcases z_if hzz with ⟨-, hzz⟩ | ⟨-, hzz⟩
  · have hzz := Option.some.inj hzz
    subst hzz
    exact FrX.rf
  · have hzz := (z_gd hzz).2
    rcases z_if hzz with ⟨-, hzz⟩ | ⟨-, hzz⟩
    · have hzz := (z_gd hzz).2
      have hzz := (z_gd hzz).2
      obtain ⟨z9, ez9, hzz⟩ := z_bd hzz
      have k1zz : FrX d_X1_told_O_me_machine o_me_machine z9.2 := FrX.rf.tr ((fr_f_X3_worth_O  ez9).mono rfl)
      rcases z_if hzz with ⟨-, hzz⟩ | ⟨-, hzz⟩
      · have hzz := (z_gd hzz).2
        have hzz := (z_gd hzz).2
        obtain ⟨z12, ez12, hzz⟩ := z_bd hzz
        have k2zz : FrX d_X1_told_O_me_machine o_me_machine z12.2 := k1zz.tr ((fr_f_X3_worth_O  ez12).mono rfl)
        rcases z_if hzz with ⟨-, hzz⟩ | ⟨-, hzz⟩
        · have wzz := fr_bk_X1_told_O_130 hrec_51_0 hzz
          exact k2zz.tr wzz
        · have hzz := Option.some.inj hzz
          subst hzz
          exact k2zz
      · have wzz := fr_bk_X1_told_O_130 hrec_51_0 hzz
        exact k1zz.tr wzz
    · have wzz := fr_bk_X1_told_O_130 hrec_51_0 hzz
      exact FrX.rf.tr wzz
set_option maxHeartbeats 200000 in
theorem fr_lp_X1_told_O_51 {nc_a0 : Nat} {ns_a0 : Nat} {o_me : Ob} {o_me_isles : Ob} {o_me_isles_now : Ob} {o_a0 : Ob}  : ∀ (Nzz : Nat) (azz : Int32 × Int32 × Ob) (yzz : Int64 × Ob), lp_X1_told_O_51 nc_a0 ns_a0 o_me o_me_isles o_me_isles_now o_a0 Nzz azz = some yzz → FrX d_X1_told_O_me_machine azz.2.2 yzz.2 := by
  intro Nzz
  induction Nzz with
  | zero => intro azz yzz hzz; cases hzz
  | succ Nzz ihzz => intro azz yzz hzz; exact fr_lb_X1_told_O_51 (nc_a0 := nc_a0) (ns_a0 := ns_a0) (o_me := o_me) (o_me_isles := o_me_isles) (o_me_isles_now := o_me_isles_now) (o_a0 := o_a0)  ihzz hzz
set_option maxHeartbeats 200000 in
theorem fr_f_X1_told_O {nc_a0 : Nat} {ns_a0 : Nat} {o_me : Ob} {o_me_isles : Ob} {o_me_isles_now : Ob} {o_me_machine : Ob} {o_a0 : Ob} {p1zz : Int32} {p2zz : Int32} {p3zz : Int32} {p4zz : Int32} {yzz : Int64 × Ob}  (hzz : f_X1_told_O nc_a0 ns_a0 o_me o_me_isles o_me_isles_now o_me_machine o_a0 p1zz p2zz p3zz p4zz = some yzz) : FrX d_X1_told_O_me_machine o_me_machine yzz.2 := by
  unfold f_X1_told_O at hzz
  obtain ⟨z1, ez1, hzz⟩ := z_bd hzz
  rcases z_if hzz with ⟨-, hzz⟩ | ⟨-, hzz⟩
  · have hzz := Option.some.inj hzz
    subst hzz
    exact FrX.rf
  · obtain ⟨z2, ez2, hzz⟩ := z_bd hzz
    rcases z_if hzz with ⟨-, hzz⟩ | ⟨-, hzz⟩
    · have hzz := Option.some.inj hzz
      subst hzz
      exact FrX.rf
    · obtain ⟨z3, ez3, hzz⟩ := z_bd hzz
      have k1zz : FrX d_X1_told_O_me_machine o_me_machine z3 := FrX.rf.tr ((fr_f_X3_setLawWords_O  ez3).mono rfl)
      obtain ⟨x4zz, ex4, hzz⟩ := z_lt hzz
      have wzz := fr_lp_X1_told_O_51  _ _ _ hzz
      exact k1zz.tr wzz
def d_X1_isBarred_Q_me_machine : DD := ([], [], [0], [1], [])
set_option maxHeartbeats 200000 in
theorem fr_f_X1_isBarred_Q {o_me : Ob} {o_me_isles : Ob} {o_me_isles_now : Ob} {o_me_machine : Ob} {o_pool : List CR} {p0zz : Option Nat} {p1zz : Int32} {p2zz : Int32} {yzz : Int32 × Ob}  (hzz : f_X1_isBarred_Q o_me o_me_isles o_me_isles_now o_me_machine o_pool p0zz p1zz p2zz = some yzz) : FrX d_X1_isBarred_Q_me_machine o_me_machine yzz.2 := by
  unfold f_X1_isBarred_Q at hzz
  obtain ⟨z1, ez1, hzz⟩ := z_bd hzz
  have k1zz : FrX d_X1_isBarred_Q_me_machine o_me_machine z1.2 := FrX.rf.tr (by
    rcases z_opX ez1 with ⟨-, qzz⟩ | ⟨azz, czz, -, -, qzz⟩
    · obtain ⟨vzz, -, qzz⟩ := z_map qzz; subst qzz; exact FrX.rf
    · exact (fr_f_X1_told_O  qzz).mono rfl)
  rcases z_if hzz with ⟨-, hzz⟩ | ⟨-, hzz⟩
  · have hzz := Option.some.inj hzz
    subst hzz
    exact k1zz
  · have hzz := Option.some.inj hzz
    subst hzz
    exact k1zz
def d_X1_runsBy_Q_me_machine : DD := ([], [], [0], [1], [])
set_option maxHeartbeats 200000 in
theorem fr_f_X1_runsBy_Q {o_me : Ob} {o_me_isles : Ob} {o_me_isles_now : Ob} {o_me_machine : Ob} {o_pool : List CR} {p0zz : Option Nat} {p1zz : Int32} {p2zz : Int32} {yzz : Int32 × Ob}  (hzz : f_X1_runsBy_Q o_me o_me_isles o_me_isles_now o_me_machine o_pool p0zz p1zz p2zz = some yzz) : FrX d_X1_runsBy_Q_me_machine o_me_machine yzz.2 := by
  unfold f_X1_runsBy_Q at hzz
  obtain ⟨z1, ez1, hzz⟩ := z_bd hzz
  have k1zz : FrX d_X1_runsBy_Q_me_machine o_me_machine z1.2 := FrX.rf.tr (by
    rcases z_opX ez1 with ⟨-, qzz⟩ | ⟨azz, czz, -, -, qzz⟩
    · obtain ⟨vzz, -, qzz⟩ := z_map qzz; subst qzz; exact FrX.rf
    · exact (fr_f_X1_told_O  qzz).mono rfl)
  rcases z_if hzz with ⟨-, hzz⟩ | ⟨-, hzz⟩
  · have hzz := (z_gd hzz).2
    have hzz := Option.some.inj hzz
    subst hzz
    exact k1zz
  · obtain ⟨z2, ez2, hzz⟩ := z_bd hzz
    have hzz := Option.some.inj hzz
    subst hzz
    exact k1zz
def d_X1_lineUp_Q_me : DD := ([4], [], [2, 3], [], [])
def d_X1_lineUp_Q_me_machine : DD := ([], [], [0], [1], [])
set_option maxHeartbeats 200000 in
theorem fr_bk_X1_lineUp_Q_129 {o_me_isles : Ob} {o_me_isles_now : Ob} {o_pool : List CR} {rec_7_0 : Option Nat × Int32 × Int32 × Ob × Ob → Option (Int32 × Ob × Ob)} {v1zz : Option Nat} {v2 : Int32} {v3 : Int32} {o_me : Ob} {o_me_machine : Ob} {yzz : Int32 × Ob × Ob} (hrec_7_0 : ∀ (azz : Option Nat × Int32 × Int32 × Ob × Ob) (yzz : Int32 × Ob × Ob), rec_7_0 azz = some yzz → FrX d_X1_lineUp_Q_me azz.2.2.2.1 yzz.2.1 ∧ FrX d_X1_lineUp_Q_me_machine azz.2.2.2.2 yzz.2.2) (hzz : bk_X1_lineUp_Q_129 o_me_isles o_me_isles_now o_pool rec_7_0 v1zz v2 v3 o_me o_me_machine = some yzz) : FrX d_X1_lineUp_Q_me o_me yzz.2.1 ∧ FrX d_X1_lineUp_Q_me_machine o_me_machine yzz.2.2 := by
  unfold bk_X1_lineUp_Q_129 at hzz
  obtain ⟨x3, ex3zz, hzz⟩ := z_lt hzz
  have wzz := hrec_7_0 _ _ hzz
  exact ⟨FrX.rf.tr (wzz).1, FrX.rf.tr (wzz).2⟩
set_option maxHeartbeats 200000 in
theorem fr_bk_X1_lineUp_Q_111 {o_me_isles : Ob} {o_me_isles_now : Ob} {o_pool : List CR} {rec_7_0 : Option Nat × Int32 × Int32 × Ob × Ob → Option (Int32 × Ob × Ob)} {v1zz : Option Nat} {v2 : Int32} {v3 : Int32} {v4zz : Int32} {o_me : Ob} {o_me_machine : Ob} {yzz : Int32 × Ob × Ob} (hrec_7_0 : ∀ (azz : Option Nat × Int32 × Int32 × Ob × Ob) (yzz : Int32 × Ob × Ob), rec_7_0 azz = some yzz → FrX d_X1_lineUp_Q_me azz.2.2.2.1 yzz.2.1 ∧ FrX d_X1_lineUp_Q_me_machine azz.2.2.2.2 yzz.2.2) (hzz : bk_X1_lineUp_Q_111 o_me_isles o_me_isles_now o_pool rec_7_0 v1zz v2 v3 v4zz o_me o_me_machine = some yzz) : FrX d_X1_lineUp_Q_me o_me yzz.2.1 ∧ FrX d_X1_lineUp_Q_me_machine o_me_machine yzz.2.2 := by
  unfold bk_X1_lineUp_Q_111 at hzz
  have hzz := (z_gd hzz).2
  obtain ⟨o10, eo10, hzz⟩ := z_lt hzz
  have k1zz : FrX d_X1_lineUp_Q_me o_me o10 := by rw [eo10]; exact FrX.tA FrX.rf rfl
  obtain ⟨o11, eo11, hzz⟩ := z_lt hzz
  have k2zz : FrX d_X1_lineUp_Q_me o_me o11 := by rw [eo11]; exact FrX.sI k1zz rfl
  have wzz := fr_bk_X1_lineUp_Q_129 hrec_7_0 hzz
  exact ⟨k2zz.tr (wzz).1, FrX.rf.tr (wzz).2⟩
set_option maxHeartbeats 200000 in
theorem fr_lb_X1_lineUp_Q_61 {o_me_isles : Ob} {o_me_isles_now : Ob} {o_pool : List CR} {rec_7_0 : Option Nat × Int32 × Int32 × Ob × Ob → Option (Int32 × Ob × Ob)} {rec_61_2 : Option Nat × Int32 × Int32 × Int32 × Ob × Ob → Option (Int32 × Ob × Ob)} {v1zz : Option Nat} {v2 : Int32} {v3 : Int32} {v4zz : Int32} {o_me : Ob} {o_me_machine : Ob} {yzz : Int32 × Ob × Ob} (hrec_7_0 : ∀ (azz : Option Nat × Int32 × Int32 × Ob × Ob) (yzz : Int32 × Ob × Ob), rec_7_0 azz = some yzz → FrX d_X1_lineUp_Q_me azz.2.2.2.1 yzz.2.1 ∧ FrX d_X1_lineUp_Q_me_machine azz.2.2.2.2 yzz.2.2) (hrec_61_2 : ∀ (azz : Option Nat × Int32 × Int32 × Int32 × Ob × Ob) (yzz : Int32 × Ob × Ob), rec_61_2 azz = some yzz → FrX d_X1_lineUp_Q_me azz.2.2.2.2.1 yzz.2.1 ∧ FrX d_X1_lineUp_Q_me_machine azz.2.2.2.2.2 yzz.2.2) (hzz : lb_X1_lineUp_Q_61 o_me_isles o_me_isles_now o_pool rec_7_0 rec_61_2 v1zz v2 v3 v4zz o_me o_me_machine = some yzz) : FrX d_X1_lineUp_Q_me o_me yzz.2.1 ∧ FrX d_X1_lineUp_Q_me_machine o_me_machine yzz.2.2 := by
  unfold lb_X1_lineUp_Q_61 at hzz
  rcases z_if hzz with ⟨-, hzz⟩ | ⟨-, hzz⟩
  · have wzz := fr_bk_X1_lineUp_Q_111 hrec_7_0 hzz
    exact ⟨FrX.rf.tr (wzz).1, FrX.rf.tr (wzz).2⟩
  · have hzz := (z_gd hzz).2
    have hzz := (z_gd hzz).2
    have hzz := (z_gd hzz).2
    rcases z_if hzz with ⟨-, hzz⟩ | ⟨-, hzz⟩
    · have wzz := fr_bk_X1_lineUp_Q_111 hrec_7_0 hzz
      exact ⟨FrX.rf.tr (wzz).1, FrX.rf.tr (wzz).2⟩
    · have hzz := (z_gd hzz).2
      have hzz := (z_gd hzz).2
      obtain ⟨o17, eo17, hzz⟩ := z_lt hzz
      have k1zz : FrX d_X1_lineUp_Q_me o_me o17 := by rw [eo17]; exact FrX.tA FrX.rf rfl
      obtain ⟨x18, ex18, hzz⟩ := z_lt hzz
      have wzz := hrec_61_2 _ _ hzz
      exact ⟨k1zz.tr (wzz).1, FrX.rf.tr (wzz).2⟩
set_option maxHeartbeats 200000 in
theorem fr_lp_X1_lineUp_Q_61 {o_me_isles : Ob} {o_me_isles_now : Ob} {o_pool : List CR} {rec_7_0 : Option Nat × Int32 × Int32 × Ob × Ob → Option (Int32 × Ob × Ob)} (hrec_7_0 : ∀ (azz : Option Nat × Int32 × Int32 × Ob × Ob) (yzz : Int32 × Ob × Ob), rec_7_0 azz = some yzz → FrX d_X1_lineUp_Q_me azz.2.2.2.1 yzz.2.1 ∧ FrX d_X1_lineUp_Q_me_machine azz.2.2.2.2 yzz.2.2) : ∀ (Nzz : Nat) (azz : Option Nat × Int32 × Int32 × Int32 × Ob × Ob) (yzz : Int32 × Ob × Ob), lp_X1_lineUp_Q_61 o_me_isles o_me_isles_now o_pool rec_7_0 Nzz azz = some yzz → FrX d_X1_lineUp_Q_me azz.2.2.2.2.1 yzz.2.1 ∧ FrX d_X1_lineUp_Q_me_machine azz.2.2.2.2.2 yzz.2.2 := by
  intro Nzz
  induction Nzz with
  | zero => intro azz yzz hzz; cases hzz
  | succ Nzz ihzz => intro azz yzz hzz; exact fr_lb_X1_lineUp_Q_61 (o_me_isles := o_me_isles) (o_me_isles_now := o_me_isles_now) (o_pool := o_pool) hrec_7_0 ihzz hzz
set_option maxHeartbeats 200000 in
theorem fr_lb_X1_lineUp_Q_7 {o_me_isles : Ob} {o_me_isles_now : Ob} {o_pool : List CR} {rec_7_0 : Option Nat × Int32 × Int32 × Ob × Ob → Option (Int32 × Ob × Ob)} {v1zz : Option Nat} {v2 : Int32} {v3 : Int32} {o_me : Ob} {o_me_machine : Ob} {yzz : Int32 × Ob × Ob} (hrec_7_0 : ∀ (azz : Option Nat × Int32 × Int32 × Ob × Ob) (yzz : Int32 × Ob × Ob), rec_7_0 azz = some yzz → FrX d_X1_lineUp_Q_me azz.2.2.2.1 yzz.2.1 ∧ FrX d_X1_lineUp_Q_me_machine azz.2.2.2.2 yzz.2.2) (hzz : lb_X1_lineUp_Q_7 o_me_isles o_me_isles_now o_pool rec_7_0 v1zz v2 v3 o_me o_me_machine = some yzz) : FrX d_X1_lineUp_Q_me o_me yzz.2.1 ∧ FrX d_X1_lineUp_Q_me_machine o_me_machine yzz.2.2 := by
  unfold lb_X1_lineUp_Q_7 at hzz
  rcases z_if hzz with ⟨-, hzz⟩ | ⟨-, hzz⟩
  · have hzz := Option.some.inj hzz
    subst hzz
    exact ⟨FrX.rf, FrX.rf⟩
  · obtain ⟨z2, ez2, hzz⟩ := z_bd hzz
    rcases z_if hzz with ⟨-, hzz⟩ | ⟨-, hzz⟩
    · have wzz := fr_bk_X1_lineUp_Q_129 hrec_7_0 hzz
      exact ⟨FrX.rf.tr (wzz).1, FrX.rf.tr (wzz).2⟩
    · obtain ⟨z4, ez4, hzz⟩ := z_bd hzz
      have k1zz : FrX d_X1_lineUp_Q_me_machine o_me_machine z4.2 := FrX.rf.tr ((fr_f_X1_isBarred_Q  ez4).mono rfl)
      rcases z_if hzz with ⟨-, hzz⟩ | ⟨-, hzz⟩
      · obtain ⟨z5, ez5, hzz⟩ := z_bd hzz
        have k2zz : FrX d_X1_lineUp_Q_me_machine o_me_machine z5.2 := k1zz.tr ((fr_f_X1_runsBy_Q  ez5).mono rfl)
        have hzz := (z_gd hzz).2
        obtain ⟨o7, eo7, hzz⟩ := z_lt hzz
        have k3zz : FrX d_X1_lineUp_Q_me o_me o7 := by rw [eo7]; exact FrX.tA FrX.rf rfl
        obtain ⟨x8, ex8, hzz⟩ := z_lt hzz
        have wzz := fr_lp_X1_lineUp_Q_61 hrec_7_0 _ _ _ hzz
        exact ⟨k3zz.tr (wzz).1, k2zz.tr (wzz).2⟩
      · have wzz := fr_bk_X1_lineUp_Q_129 hrec_7_0 hzz
        exact ⟨FrX.rf.tr (wzz).1, k1zz.tr (wzz).2⟩
set_option maxHeartbeats 200000 in
theorem fr_lp_X1_lineUp_Q_7 {o_me_isles : Ob} {o_me_isles_now : Ob} {o_pool : List CR}  : ∀ (Nzz : Nat) (azz : Option Nat × Int32 × Int32 × Ob × Ob) (yzz : Int32 × Ob × Ob), lp_X1_lineUp_Q_7 o_me_isles o_me_isles_now o_pool Nzz azz = some yzz → FrX d_X1_lineUp_Q_me azz.2.2.2.1 yzz.2.1 ∧ FrX d_X1_lineUp_Q_me_machine azz.2.2.2.2 yzz.2.2 := by
  intro Nzz
  induction Nzz with
  | zero => intro azz yzz hzz; cases hzz
  | succ Nzz ihzz => intro azz yzz hzz; exact fr_lb_X1_lineUp_Q_7 (o_me_isles := o_me_isles) (o_me_isles_now := o_me_isles_now) (o_pool := o_pool)  ihzz hzz
set_option maxHeartbeats 200000 in
theorem fr_f_X1_lineUp_Q {o_me : Ob} {o_me_isles : Ob} {o_me_isles_now : Ob} {o_me_machine : Ob} {o_pool : List CR} {p0zz : Option Nat} {p1zz : Int32} {yzz : Int32 × Ob × Ob}  (hzz : f_X1_lineUp_Q o_me o_me_isles o_me_isles_now o_me_machine o_pool p0zz p1zz = some yzz) : FrX d_X1_lineUp_Q_me o_me yzz.2.1 ∧ FrX d_X1_lineUp_Q_me_machine o_me_machine yzz.2.2 := by
  unfold f_X1_lineUp_Q at hzz
  obtain ⟨o1, eo1, hzz⟩ := z_lt hzz
  have k1zz : FrX d_X1_lineUp_Q_me o_me o1 := by rw [eo1]; exact FrX.sI FrX.rf rfl
  have wzz := fr_lp_X1_lineUp_Q_7  _ _ _ hzz
  exact ⟨k1zz.tr (wzz).1, FrX.rf.tr (wzz).2⟩
def d_X4_addPrizes_me : DD := ([], [], [1], [], [])
set_option maxHeartbeats 200000 in
theorem fr_f_X4_addPrizes {o_me : Ob} {p0zz : Int32} {p1zz : Int32} {yzz : Ob}  (hzz : f_X4_addPrizes o_me p0zz p1zz = some yzz) : FrX d_X4_addPrizes_me o_me yzz := by
  unfold f_X4_addPrizes at hzz
  have hzz := (z_gd hzz).2
  have hzz := (z_gd hzz).2
  obtain ⟨o3zz, eo3, hzz⟩ := z_lt hzz
  have k1zz : FrX d_X4_addPrizes_me o_me o3zz := by rw [eo3]; exact FrX.tA FrX.rf rfl
  have hzz := Option.some.inj hzz
  subst hzz
  exact k1zz
def d_X1_turnsTo_Q_me_machine : DD := ([], [], [0], [1], [])
set_option maxHeartbeats 200000 in
theorem fr_f_X1_turnsTo_Q {o_me : Ob} {o_me_isles : Ob} {o_me_isles_now : Ob} {o_me_machine : Ob} {o_pool : List CR} {p0zz : Option Nat} {p1zz : Int32} {p2zz : Int32} {yzz : Int32 × Ob}  (hzz : f_X1_turnsTo_Q o_me o_me_isles o_me_isles_now o_me_machine o_pool p0zz p1zz p2zz = some yzz) : FrX d_X1_turnsTo_Q_me_machine o_me_machine yzz.2 := by
  unfold f_X1_turnsTo_Q at hzz
  obtain ⟨z1, ez1, hzz⟩ := z_bd hzz
  have k1zz : FrX d_X1_turnsTo_Q_me_machine o_me_machine z1.2 := FrX.rf.tr (by
    rcases z_opX ez1 with ⟨-, qzz⟩ | ⟨azz, czz, -, -, qzz⟩
    · obtain ⟨vzz, -, qzz⟩ := z_map qzz; subst qzz; exact FrX.rf
    · exact (fr_f_X1_told_O  qzz).mono rfl)
  rcases z_if hzz with ⟨-, hzz⟩ | ⟨-, hzz⟩
  · have hzz := (z_gd hzz).2
    have hzz := Option.some.inj hzz
    subst hzz
    exact k1zz
  · obtain ⟨z2, ez2, hzz⟩ := z_bd hzz
    have hzz := Option.some.inj hzz
    subst hzz
    exact k1zz
def d_X1_wins_Q_me_machine : DD := ([], [], [0], [1], [])
set_option maxHeartbeats 200000 in
theorem fr_f_X1_wins_Q {o_me : Ob} {o_me_isles : Ob} {o_me_isles_now : Ob} {o_me_machine : Ob} {o_pool : List CR} {p0zz : Option Nat} {p1zz : Int32} {p2zz : Int32} {p3zz : Int32} {yzz : Int32 × Ob}  (hzz : f_X1_wins_Q o_me o_me_isles o_me_isles_now o_me_machine o_pool p0zz p1zz p2zz p3zz = some yzz) : FrX d_X1_wins_Q_me_machine o_me_machine yzz.2 := by
  unfold f_X1_wins_Q at hzz
  obtain ⟨z1, ez1, hzz⟩ := z_bd hzz
  have k1zz : FrX d_X1_wins_Q_me_machine o_me_machine z1.2 := FrX.rf.tr (by
    rcases z_opX ez1 with ⟨-, qzz⟩ | ⟨azz, czz, -, -, qzz⟩
    · obtain ⟨vzz, -, qzz⟩ := z_map qzz; subst qzz; exact FrX.rf
    · exact (fr_f_X1_told_O  qzz).mono rfl)
  rcases z_if hzz with ⟨-, hzz⟩ | ⟨-, hzz⟩
  · have hzz := Option.some.inj hzz
    subst hzz
    exact k1zz
  · obtain ⟨z2, ez2, hzz⟩ := z_bd hzz
    have hzz := Option.some.inj hzz
    subst hzz
    exact k1zz
def d_X1_heldRace_me_isles_now : DD := ([2, 3], [], [0, 1], [], [])
def d_X1_heldRace_me_machine : DD := ([], [], [0], [1], [])
set_option maxHeartbeats 200000 in
theorem fr_lb_X1_heldRace_186 {o_me : Ob} {o_me_isles : Ob} {o_pool : List CR} {rec_186_6 : Int32 × Int32 × Ob × Ob → Option (Int32 × Ob × Ob)} {v3 : Int32} {v9 : Int32} {o_me_isles_now : Ob} {o_me_machine : Ob} {yzz : Int32 × Ob × Ob} (hrec_186_6 : ∀ (azz : Int32 × Int32 × Ob × Ob) (yzz : Int32 × Ob × Ob), rec_186_6 azz = some yzz → FrX d_X1_heldRace_me_isles_now azz.2.2.1 yzz.2.1 ∧ FrX d_X1_heldRace_me_machine azz.2.2.2 yzz.2.2) (hzz : lb_X1_heldRace_186 o_me o_me_isles o_pool rec_186_6 v3 v9 o_me_isles_now o_me_machine = some yzz) : FrX d_X1_heldRace_me_isles_now o_me_isles_now yzz.2.1 ∧ FrX d_X1_heldRace_me_machine o_me_machine yzz.2.2 := by
  unfold lb_X1_heldRace_186 at hzz
  rcases z_if hzz with ⟨-, hzz⟩ | ⟨-, hzz⟩
  · have hzz := Option.some.inj hzz
    subst hzz
    exact ⟨FrX.rf, FrX.rf⟩
  · have hzz := (z_gd hzz).2
    obtain ⟨o9, eo9, hzz⟩ := z_lt hzz
    have k1zz : FrX d_X1_heldRace_me_isles_now o_me_isles_now o9 := by rw [eo9]; exact FrX.sI FrX.rf rfl
    obtain ⟨x10, ex10, hzz⟩ := z_lt hzz
    have wzz := hrec_186_6 _ _ hzz
    exact ⟨k1zz.tr (wzz).1, FrX.rf.tr (wzz).2⟩
set_option maxHeartbeats 200000 in
theorem fr_lp_X1_heldRace_186 {o_me : Ob} {o_me_isles : Ob} {o_pool : List CR}  : ∀ (Nzz : Nat) (azz : Int32 × Int32 × Ob × Ob) (yzz : Int32 × Ob × Ob), lp_X1_heldRace_186 o_me o_me_isles o_pool Nzz azz = some yzz → FrX d_X1_heldRace_me_isles_now azz.2.2.1 yzz.2.1 ∧ FrX d_X1_heldRace_me_machine azz.2.2.2 yzz.2.2 := by
  intro Nzz
  induction Nzz with
  | zero => intro azz yzz hzz; cases hzz
  | succ Nzz ihzz => intro azz yzz hzz; exact fr_lb_X1_heldRace_186 (o_me := o_me) (o_me_isles := o_me_isles) (o_pool := o_pool)  ihzz hzz
set_option maxHeartbeats 200000 in
theorem fr_bk_X1_heldRace_183 {o_me : Ob} {o_me_isles : Ob} {o_pool : List CR} {v3 : Int32} {o_me_isles_now : Ob} {o_me_machine : Ob} {yzz : Int32 × Ob × Ob}  (hzz : bk_X1_heldRace_183 o_me o_me_isles o_pool v3 o_me_isles_now o_me_machine = some yzz) : FrX d_X1_heldRace_me_isles_now o_me_isles_now yzz.2.1 ∧ FrX d_X1_heldRace_me_machine o_me_machine yzz.2.2 := by
  unfold bk_X1_heldRace_183 at hzz
  have wzz := fr_lp_X1_heldRace_186  _ _ _ hzz
  exact ⟨FrX.rf.tr (wzz).1, FrX.rf.tr (wzz).2⟩
set_option maxHeartbeats 200000 in
theorem fr_bk_X1_heldRace_163 {o_me : Ob} {o_me_isles : Ob} {o_pool : List CR} {v3 : Int32} {v5 : Int32} {v8 : Int32} {o_me_isles_now : Ob} {o_me_machine : Ob} {yzz : Int32 × Ob × Ob}  (hzz : bk_X1_heldRace_163 o_me o_me_isles o_pool v3 v5 v8 o_me_isles_now o_me_machine = some yzz) : FrX d_X1_heldRace_me_isles_now o_me_isles_now yzz.2.1 ∧ FrX d_X1_heldRace_me_machine o_me_machine yzz.2.2 := by
  unfold bk_X1_heldRace_163 at hzz
  rcases z_if hzz with ⟨-, hzz⟩ | ⟨-, hzz⟩
  · have wzz := fr_bk_X1_heldRace_183  hzz
    exact ⟨FrX.rf.tr (wzz).1, FrX.rf.tr (wzz).2⟩
  · obtain ⟨z11, ez11, hzz⟩ := z_bd hzz
    have k1zz : FrX d_X1_heldRace_me_isles_now o_me_isles_now z11 := FrX.rf.tr ((fr_f_X4_addPrizes  ez11).mono rfl)
    have wzz := fr_bk_X1_heldRace_183  hzz
    exact ⟨k1zz.tr (wzz).1, FrX.rf.tr (wzz).2⟩
set_option maxHeartbeats 200000 in
theorem fr_bk_X1_heldRace_145 {o_me : Ob} {o_me_isles : Ob} {o_pool : List CR} {v3 : Int32} {v5 : Int32} {v6 : Int32} {v8 : Int32} {o_me_isles_now : Ob} {o_me_machine : Ob} {yzz : Int32 × Ob × Ob}  (hzz : bk_X1_heldRace_145 o_me o_me_isles o_pool v3 v5 v6 v8 o_me_isles_now o_me_machine = some yzz) : FrX d_X1_heldRace_me_isles_now o_me_isles_now yzz.2.1 ∧ FrX d_X1_heldRace_me_machine o_me_machine yzz.2.2 := by
  unfold bk_X1_heldRace_145 at hzz
  rcases z_if hzz with ⟨-, hzz⟩ | ⟨-, hzz⟩
  · have wzz := fr_bk_X1_heldRace_163  hzz
    exact ⟨FrX.rf.tr (wzz).1, FrX.rf.tr (wzz).2⟩
  · obtain ⟨z12, ez12, hzz⟩ := z_bd hzz
    have k1zz : FrX d_X1_heldRace_me_isles_now o_me_isles_now z12 := FrX.rf.tr ((fr_f_X4_addPrizes  ez12).mono rfl)
    have wzz := fr_bk_X1_heldRace_163  hzz
    exact ⟨k1zz.tr (wzz).1, FrX.rf.tr (wzz).2⟩
set_option maxHeartbeats 200000 in
theorem fr_bk_X1_heldRace_87 {o_me : Ob} {o_me_isles : Ob} {o_pool : List CR} {v1zz : Int32} {v2 : Option Nat} {v3 : Int32} {v4zz : Int32} {v5 : Int32} {v6 : Int32} {v7 : Int32} {s0zz : Int32} {o_me_isles_now : Ob} {o_me_machine : Ob} {yzz : Int32 × Ob × Ob}  (hzz : bk_X1_heldRace_87 o_me o_me_isles o_pool v1zz v2 v3 v4zz v5 v6 v7 s0zz o_me_isles_now o_me_machine = some yzz) : FrX d_X1_heldRace_me_isles_now o_me_isles_now yzz.2.1 ∧ FrX d_X1_heldRace_me_machine o_me_machine yzz.2.2 := by
  unfold bk_X1_heldRace_87 at hzz
  rcases z_if hzz with ⟨-, hzz⟩ | ⟨-, hzz⟩
  · have wzz := fr_bk_X1_heldRace_145  hzz
    exact ⟨FrX.rf.tr (wzz).1, FrX.rf.tr (wzz).2⟩
  · obtain ⟨z13zz, ez13, hzz⟩ := z_bd hzz
    have k1zz : FrX d_X1_heldRace_me_machine o_me_machine z13zz.2 := FrX.rf.tr ((fr_f_X1_turnsTo_Q  ez13).mono rfl)
    have hzz := (z_gd hzz).2
    obtain ⟨o15, eo15, hzz⟩ := z_lt hzz
    have k2zz : FrX d_X1_heldRace_me_isles_now o_me_isles_now o15 := by rw [eo15]; exact FrX.tA FrX.rf rfl
    obtain ⟨o16, eo16, hzz⟩ := z_lt hzz
    have k3zz : FrX d_X1_heldRace_me_isles_now o_me_isles_now o16 := by rw [eo16]; exact FrX.sI k2zz rfl
    have wzz := fr_bk_X1_heldRace_145  hzz
    exact ⟨k3zz.tr (wzz).1, k1zz.tr (wzz).2⟩
set_option maxHeartbeats 200000 in
theorem fr_bk_X1_heldRace_66 {o_me : Ob} {o_me_isles : Ob} {o_pool : List CR} {v1zz : Int32} {v2 : Option Nat} {v3 : Int32} {v4zz : Int32} {v5 : Int32} {v6 : Int32} {s0zz : Int32} {o_me_isles_now : Ob} {o_me_machine : Ob} {yzz : Int32 × Ob × Ob}  (hzz : bk_X1_heldRace_66 o_me o_me_isles o_pool v1zz v2 v3 v4zz v5 v6 s0zz o_me_isles_now o_me_machine = some yzz) : FrX d_X1_heldRace_me_isles_now o_me_isles_now yzz.2.1 ∧ FrX d_X1_heldRace_me_machine o_me_machine yzz.2.2 := by
  unfold bk_X1_heldRace_66 at hzz
  rcases z_if hzz with ⟨-, hzz⟩ | ⟨-, hzz⟩
  · have wzz := fr_bk_X1_heldRace_87  hzz
    exact ⟨FrX.rf.tr (wzz).1, FrX.rf.tr (wzz).2⟩
  · obtain ⟨z7, ez7, hzz⟩ := z_bd hzz
    have k1zz : FrX d_X1_heldRace_me_machine o_me_machine z7.2 := FrX.rf.tr ((fr_f_X1_wins_Q  ez7).mono rfl)
    have wzz := fr_bk_X1_heldRace_87  hzz
    exact ⟨FrX.rf.tr (wzz).1, k1zz.tr (wzz).2⟩
set_option maxHeartbeats 200000 in
theorem fr_bk_X1_heldRace_45 {o_me : Ob} {o_me_isles : Ob} {o_pool : List CR} {v1zz : Int32} {v2 : Option Nat} {v3 : Int32} {v4zz : Int32} {v5 : Int32} {s0zz : Int32} {o_me_isles_now : Ob} {o_me_machine : Ob} {yzz : Int32 × Ob × Ob}  (hzz : bk_X1_heldRace_45 o_me o_me_isles o_pool v1zz v2 v3 v4zz v5 s0zz o_me_isles_now o_me_machine = some yzz) : FrX d_X1_heldRace_me_isles_now o_me_isles_now yzz.2.1 ∧ FrX d_X1_heldRace_me_machine o_me_machine yzz.2.2 := by
  unfold bk_X1_heldRace_45 at hzz
  rcases z_if hzz with ⟨-, hzz⟩ | ⟨-, hzz⟩
  · have wzz := fr_bk_X1_heldRace_66  hzz
    exact ⟨FrX.rf.tr (wzz).1, FrX.rf.tr (wzz).2⟩
  · obtain ⟨z6, ez6, hzz⟩ := z_bd hzz
    have k1zz : FrX d_X1_heldRace_me_machine o_me_machine z6.2 := FrX.rf.tr ((fr_f_X1_wins_Q  ez6).mono rfl)
    have wzz := fr_bk_X1_heldRace_66  hzz
    exact ⟨FrX.rf.tr (wzz).1, k1zz.tr (wzz).2⟩
set_option maxHeartbeats 200000 in
theorem fr_f_X1_heldRace {o_me : Ob} {o_me_isles : Ob} {o_me_isles_now : Ob} {o_me_machine : Ob} {o_pool : List CR} {p0zz : Int32} {yzz : Int32 × Ob × Ob}  (hzz : f_X1_heldRace o_me o_me_isles o_me_isles_now o_me_machine o_pool p0zz = some yzz) : FrX d_X1_heldRace_me_isles_now o_me_isles_now yzz.2.1 ∧ FrX d_X1_heldRace_me_machine o_me_machine yzz.2.2 := by
  unfold f_X1_heldRace at hzz
  obtain ⟨z1, ez1, hzz⟩ := z_bd hzz
  obtain ⟨z2, ez2, hzz⟩ := z_bd hzz
  obtain ⟨z3, ez3, hzz⟩ := z_bd hzz
  obtain ⟨z4, ez4, hzz⟩ := z_bd hzz
  rcases z_if hzz with ⟨-, hzz⟩ | ⟨-, hzz⟩
  · have wzz := fr_bk_X1_heldRace_45  hzz
    exact ⟨FrX.rf.tr (wzz).1, FrX.rf.tr (wzz).2⟩
  · obtain ⟨z5, ez5, hzz⟩ := z_bd hzz
    have k1zz : FrX d_X1_heldRace_me_machine o_me_machine z5.2 := FrX.rf.tr ((fr_f_X1_wins_Q  ez5).mono rfl)
    have wzz := fr_bk_X1_heldRace_45  hzz
    exact ⟨FrX.rf.tr (wzz).1, k1zz.tr (wzz).2⟩
def d_X1_passedYear_me_isles_now : DD := ([4], [], [0], [], [])
def d_X1_passedYear_me_machine : DD := ([], [], [0], [1], [])
set_option maxHeartbeats 200000 in
theorem fr_bk_X1_passedYear_53 {o_me : Ob} {o_me_isles : Ob} {o_pool : List CR} {rec_12_0 : Option Nat × Int32 × Int32 × Ob × Ob → Option (Int32 × Ob × Ob)} {v1zz : Option Nat} {v2 : Int32} {v3 : Int32} {o_me_isles_now : Ob} {o_me_machine : Ob} {yzz : Int32 × Ob × Ob} (hrec_12_0 : ∀ (azz : Option Nat × Int32 × Int32 × Ob × Ob) (yzz : Int32 × Ob × Ob), rec_12_0 azz = some yzz → FrX d_X1_passedYear_me_isles_now azz.2.2.2.1 yzz.2.1 ∧ FrX d_X1_passedYear_me_machine azz.2.2.2.2 yzz.2.2) (hzz : bk_X1_passedYear_53 o_me o_me_isles o_pool rec_12_0 v1zz v2 v3 o_me_isles_now o_me_machine = some yzz) : FrX d_X1_passedYear_me_isles_now o_me_isles_now yzz.2.1 ∧ FrX d_X1_passedYear_me_machine o_me_machine yzz.2.2 := by
  unfold bk_X1_passedYear_53 at hzz
  obtain ⟨x4zz, ex4, hzz⟩ := z_lt hzz
  have wzz := hrec_12_0 _ _ hzz
  exact ⟨FrX.rf.tr (wzz).1, FrX.rf.tr (wzz).2⟩
set_option maxHeartbeats 200000 in
theorem fr_lb_X1_passedYear_12 {o_me : Ob} {o_me_isles : Ob} {o_pool : List CR} {rec_12_0 : Option Nat × Int32 × Int32 × Ob × Ob → Option (Int32 × Ob × Ob)} {v1zz : Option Nat} {v2 : Int32} {v3 : Int32} {o_me_isles_now : Ob} {o_me_machine : Ob} {yzz : Int32 × Ob × Ob} (hrec_12_0 : ∀ (azz : Option Nat × Int32 × Int32 × Ob × Ob) (yzz : Int32 × Ob × Ob), rec_12_0 azz = some yzz → FrX d_X1_passedYear_me_isles_now azz.2.2.2.1 yzz.2.1 ∧ FrX d_X1_passedYear_me_machine azz.2.2.2.2 yzz.2.2) (hzz : lb_X1_passedYear_12 o_me o_me_isles o_pool rec_12_0 v1zz v2 v3 o_me_isles_now o_me_machine = some yzz) : FrX d_X1_passedYear_me_isles_now o_me_isles_now yzz.2.1 ∧ FrX d_X1_passedYear_me_machine o_me_machine yzz.2.2 := by
  unfold lb_X1_passedYear_12 at hzz
  rcases z_if hzz with ⟨-, hzz⟩ | ⟨-, hzz⟩
  · obtain ⟨o2, eo2, hzz⟩ := z_lt hzz
    have k1zz : FrX d_X1_passedYear_me_isles_now o_me_isles_now o2 := by rw [eo2]; exact FrX.sI FrX.rf rfl
    have hzz := Option.some.inj hzz
    subst hzz
    exact ⟨k1zz, FrX.rf⟩
  · obtain ⟨z3, ez3, hzz⟩ := z_bd hzz
    rcases z_if hzz with ⟨-, hzz⟩ | ⟨-, hzz⟩
    · have wzz := fr_bk_X1_passedYear_53 hrec_12_0 hzz
      exact ⟨FrX.rf.tr (wzz).1, FrX.rf.tr (wzz).2⟩
    · obtain ⟨z5, ez5, hzz⟩ := z_bd hzz
      have k2zz : FrX d_X1_passedYear_me_machine o_me_machine z5.2 := FrX.rf.tr ((fr_f_X1_turnsTo_Q  ez5).mono rfl)
      have hzz := (z_gd hzz).2
      obtain ⟨o7, eo7, hzz⟩ := z_lt hzz
      have k3zz : FrX d_X1_passedYear_me_isles_now o_me_isles_now o7 := by rw [eo7]; exact FrX.tA FrX.rf rfl
      obtain ⟨x8, ex8, hzz⟩ := z_lt hzz
      have wzz := fr_bk_X1_passedYear_53 hrec_12_0 hzz
      exact ⟨k3zz.tr (wzz).1, k2zz.tr (wzz).2⟩
set_option maxHeartbeats 200000 in
theorem fr_lp_X1_passedYear_12 {o_me : Ob} {o_me_isles : Ob} {o_pool : List CR}  : ∀ (Nzz : Nat) (azz : Option Nat × Int32 × Int32 × Ob × Ob) (yzz : Int32 × Ob × Ob), lp_X1_passedYear_12 o_me o_me_isles o_pool Nzz azz = some yzz → FrX d_X1_passedYear_me_isles_now azz.2.2.2.1 yzz.2.1 ∧ FrX d_X1_passedYear_me_machine azz.2.2.2.2 yzz.2.2 := by
  intro Nzz
  induction Nzz with
  | zero => intro azz yzz hzz; cases hzz
  | succ Nzz ihzz => intro azz yzz hzz; exact fr_lb_X1_passedYear_12 (o_me := o_me) (o_me_isles := o_me_isles) (o_pool := o_pool)  ihzz hzz
set_option maxHeartbeats 200000 in
theorem fr_f_X1_passedYear {o_me : Ob} {o_me_isles : Ob} {o_me_isles_now : Ob} {o_me_machine : Ob} {o_pool : List CR} {yzz : Int32 × Ob × Ob}  (hzz : f_X1_passedYear o_me o_me_isles o_me_isles_now o_me_machine o_pool = some yzz) : FrX d_X1_passedYear_me_isles_now o_me_isles_now yzz.2.1 ∧ FrX d_X1_passedYear_me_machine o_me_machine yzz.2.2 := by
  unfold f_X1_passedYear at hzz
  obtain ⟨z1, ez1, hzz⟩ := z_bd hzz
  have wzz := fr_lp_X1_passedYear_12  _ _ _ hzz
  exact ⟨FrX.rf.tr (wzz).1, FrX.rf.tr (wzz).2⟩
def d_X3_setOrderWords_O_me : DD := ([], [], [0], [], [])
set_option maxHeartbeats 200000 in
theorem fr_bk_X3_setOrderWords_O_130 {o_a0 : Ob} {o_a0_now : Ob} {rec_59_0 : Int32 × Ob → Option (Ob)} {v4zz : Int32} {s0zz : Int32} {s1zz : Int32} {o_me : Ob} {yzz : Ob} (hrec_59_0 : ∀ (azz : Int32 × Ob) (yzz : Ob), rec_59_0 azz = some yzz → FrX d_X3_setOrderWords_O_me azz.2 yzz) (hzz : bk_X3_setOrderWords_O_130 o_a0 o_a0_now rec_59_0 v4zz s0zz s1zz o_me = some yzz) : FrX d_X3_setOrderWords_O_me o_me yzz := by
  unfold bk_X3_setOrderWords_O_130 at hzz
  have hzz := (z_gd hzz).2
  obtain ⟨o12, eo12, hzz⟩ := z_lt hzz
  have k1zz : FrX d_X3_setOrderWords_O_me o_me o12 := by rw [eo12]; exact FrX.tA FrX.rf rfl
  obtain ⟨x13, ex13, hzz⟩ := z_lt hzz
  have wzz := hrec_59_0 _ _ hzz
  exact k1zz.tr wzz
set_option maxHeartbeats 200000 in
theorem fr_bk_X3_setOrderWords_O_97 {o_a0 : Ob} {o_a0_now : Ob} {rec_59_0 : Int32 × Ob → Option (Ob)} {v4zz : Int32} {s0zz : Int32} {s1zz : Int32} {o_me : Ob} {yzz : Ob} (hrec_59_0 : ∀ (azz : Int32 × Ob) (yzz : Ob), rec_59_0 azz = some yzz → FrX d_X3_setOrderWords_O_me azz.2 yzz) (hzz : bk_X3_setOrderWords_O_97 o_a0 o_a0_now rec_59_0 v4zz s0zz s1zz o_me = some yzz) : FrX d_X3_setOrderWords_O_me o_me yzz := by
  unfold bk_X3_setOrderWords_O_97 at hzz
  have hzz := (z_gd hzz).2
  obtain ⟨o9, eo9, hzz⟩ := z_lt hzz
  have k1zz : FrX d_X3_setOrderWords_O_me o_me o9 := by rw [eo9]; exact FrX.tA FrX.rf rfl
  obtain ⟨z10, ez10, hzz⟩ := z_bd hzz
  rcases z_if hzz with ⟨-, hzz⟩ | ⟨-, hzz⟩
  · have wzz := fr_bk_X3_setOrderWords_O_130 hrec_59_0 hzz
    exact k1zz.tr wzz
  · have hzz := (z_gd hzz).2
    have wzz := fr_bk_X3_setOrderWords_O_130 hrec_59_0 hzz
    exact k1zz.tr wzz
set_option maxHeartbeats 200000 in
theorem fr_lb_X3_setOrderWords_O_59 {o_a0 : Ob} {o_a0_now : Ob} {rec_59_0 : Int32 × Ob → Option (Ob)} {v4zz : Int32} {o_me : Ob} {yzz : Ob} (hrec_59_0 : ∀ (azz : Int32 × Ob) (yzz : Ob), rec_59_0 azz = some yzz → FrX d_X3_setOrderWords_O_me azz.2 yzz) (hzz : lb_X3_setOrderWords_O_59 o_a0 o_a0_now rec_59_0 v4zz o_me = some yzz) : FrX d_X3_setOrderWords_O_me o_me yzz := by
  unfold lb_X3_setOrderWords_O_59 at hzz
  rcases z_if hzz with ⟨-, hzz⟩ | ⟨-, hzz⟩
  · have hzz := Option.some.inj hzz
    subst hzz
    exact FrX.rf
  · obtain ⟨z7, ez7, hzz⟩ := z_bd hzz
    rcases z_if hzz with ⟨-, hzz⟩ | ⟨-, hzz⟩
    · have wzz := fr_bk_X3_setOrderWords_O_97 hrec_59_0 hzz
      exact FrX.rf.tr wzz
    · have hzz := (z_gd hzz).2
      have wzz := fr_bk_X3_setOrderWords_O_97 hrec_59_0 hzz
      exact FrX.rf.tr wzz
set_option maxHeartbeats 200000 in
theorem fr_lp_X3_setOrderWords_O_59 {o_a0 : Ob} {o_a0_now : Ob}  : ∀ (Nzz : Nat) (azz : Int32 × Ob) (yzz : Ob), lp_X3_setOrderWords_O_59 o_a0 o_a0_now Nzz azz = some yzz → FrX d_X3_setOrderWords_O_me azz.2 yzz := by
  intro Nzz
  induction Nzz with
  | zero => intro azz yzz hzz; cases hzz
  | succ Nzz ihzz => intro azz yzz hzz; exact fr_lb_X3_setOrderWords_O_59 (o_a0 := o_a0) (o_a0_now := o_a0_now)  ihzz hzz
set_option maxHeartbeats 200000 in
theorem fr_f_X3_setOrderWords_O {o_me : Ob} {o_a0 : Ob} {o_a0_now : Ob} {p1zz : Int32} {p2zz : Int32} {yzz : Ob}  (hzz : f_X3_setOrderWords_O o_me o_a0 o_a0_now p1zz p2zz = some yzz) : FrX d_X3_setOrderWords_O_me o_me yzz := by
  unfold f_X3_setOrderWords_O at hzz
  obtain ⟨o1, eo1, hzz⟩ := z_lt hzz
  have k1zz : FrX d_X3_setOrderWords_O_me o_me o1 := by rw [eo1]; exact FrX.tA FrX.rf rfl
  obtain ⟨o2, eo2, hzz⟩ := z_lt hzz
  have k2zz : FrX d_X3_setOrderWords_O_me o_me o2 := by rw [eo2]; exact FrX.tA k1zz rfl
  obtain ⟨o3zz, eo3, hzz⟩ := z_lt hzz
  have k3zz : FrX d_X3_setOrderWords_O_me o_me o3zz := by rw [eo3]; exact FrX.tA k2zz rfl
  obtain ⟨o4zz, eo4, hzz⟩ := z_lt hzz
  have k4zz : FrX d_X3_setOrderWords_O_me o_me o4zz := by rw [eo4]; exact FrX.tA k3zz rfl
  obtain ⟨z5, ez5, hzz⟩ := z_bd hzz
  obtain ⟨o6, eo6, hzz⟩ := z_lt hzz
  have k5zz : FrX d_X3_setOrderWords_O_me o_me o6 := by rw [eo6]; exact FrX.tA k4zz rfl
  have wzz := fr_lp_X3_setOrderWords_O_59  _ _ _ hzz
  exact k5zz.tr wzz
def d_X1_changedEntry_me_isles_now : DD := ([2], [], [], [], [])
set_option maxHeartbeats 200000 in
theorem fr_f_X1_changedEntry {o_me : Ob} {o_me_isles : Ob} {o_me_isles_now : Ob} {p0zz : Int32} {yzz : Int32 × Ob}  (hzz : f_X1_changedEntry o_me o_me_isles o_me_isles_now p0zz = some yzz) : FrX d_X1_changedEntry_me_isles_now o_me_isles_now yzz.2 := by
  unfold f_X1_changedEntry at hzz
  obtain ⟨o1, eo1, hzz⟩ := z_lt hzz
  have k1zz : FrX d_X1_changedEntry_me_isles_now o_me_isles_now o1 := by rw [eo1]; exact FrX.sI FrX.rf rfl
  have hzz := Option.some.inj hzz
  subst hzz
  exact k1zz
def d_X1_takenGap_me_isles_now : DD := ([3], [], [1], [], [])
set_option maxHeartbeats 200000 in
theorem fr_f_X1_takenGap {o_me : Ob} {o_me_isles : Ob} {o_me_isles_now : Ob} {p0zz : Int32} {yzz : Int32 × Ob}  (hzz : f_X1_takenGap o_me o_me_isles o_me_isles_now p0zz = some yzz) : FrX d_X1_takenGap_me_isles_now o_me_isles_now yzz.2 := by
  unfold f_X1_takenGap at hzz
  obtain ⟨x1zz, ex1, hzz⟩ := z_lt hzz
  obtain ⟨z2, ez2, hzz⟩ := z_bd hzz
  have k1zz : FrX d_X1_takenGap_me_isles_now o_me_isles_now z2 := FrX.rf.tr ((fr_f_X4_addPrizes  ez2).mono rfl)
  obtain ⟨o3zz, eo3, hzz⟩ := z_lt hzz
  have k2zz : FrX d_X1_takenGap_me_isles_now o_me_isles_now o3zz := by rw [eo3]; exact FrX.sI k1zz rfl
  have hzz := Option.some.inj hzz
  subst hzz
  exact k2zz
def d_X4_writeTo_AX5_1_a0 : DD := ([], [], [1], [], [])
set_option maxHeartbeats 200000 in
theorem fr_f_X4_writeTo_AX5_1 {o_me : Ob} {o_a0 : Ob} {p1zz : Int32} {yzz : Ob}  (hzz : f_X4_writeTo_AX5_1 o_me o_a0 p1zz = some yzz) : FrX d_X4_writeTo_AX5_1_a0 o_a0 yzz := by
  unfold f_X4_writeTo_AX5_1 at hzz
  rcases z_if hzz with ⟨-, hzz⟩ | ⟨-, hzz⟩
  · have hzz := Option.some.inj hzz
    subst hzz
    exact FrX.rf
  · rcases z_if hzz with ⟨-, hzz⟩ | ⟨-, hzz⟩
    · have hzz := (z_gd hzz).2
      obtain ⟨o2, eo2, hzz⟩ := z_lt hzz
      have k1zz : FrX d_X4_writeTo_AX5_1_a0 o_a0 o2 := by rw [eo2]; exact FrX.cA FrX.rf rfl
      have hzz := (z_gd hzz).2
      obtain ⟨o4zz, eo4, hzz⟩ := z_lt hzz
      have k2zz : FrX d_X4_writeTo_AX5_1_a0 o_a0 o4zz := by rw [eo4]; exact FrX.cA k1zz rfl
      have hzz := (z_gd hzz).2
      obtain ⟨o6, eo6, hzz⟩ := z_lt hzz
      have k3zz : FrX d_X4_writeTo_AX5_1_a0 o_a0 o6 := by rw [eo6]; exact FrX.tA k2zz rfl
      have hzz := (z_gd hzz).2
      obtain ⟨o8zz, eo8, hzz⟩ := z_lt hzz
      have k4zz : FrX d_X4_writeTo_AX5_1_a0 o_a0 o8zz := by rw [eo8]; exact FrX.tA k3zz rfl
      have hzz := (z_gd hzz).2
      obtain ⟨o10, eo10, hzz⟩ := z_lt hzz
      have k5zz : FrX d_X4_writeTo_AX5_1_a0 o_a0 o10 := by rw [eo10]; exact FrX.tA k4zz rfl
      have hzz := Option.some.inj hzz
      subst hzz
      exact k5zz
    · have hzz := Option.some.inj hzz
      subst hzz
      exact FrX.rf
def d_X5_keep_O_me : DD := ([2, 3], [], [0, 1], [], [])
set_option maxHeartbeats 200000 in
theorem fr_bk_X5_keep_O_32 {o_a1 : Ob} {v1zz : Int32} {o_me : Ob} {yzz : Ob}  (hzz : bk_X5_keep_O_32 o_a1 v1zz o_me = some yzz) : FrX d_X5_keep_O_me o_me yzz := by
  unfold bk_X5_keep_O_32 at hzz
  obtain ⟨x1zz, ex1, hzz⟩ := z_lt hzz
  have hzz := (z_gd hzz).2
  obtain ⟨o3zz, eo3, hzz⟩ := z_lt hzz
  have k1zz : FrX d_X5_keep_O_me o_me o3zz := by rw [eo3]; exact FrX.tA FrX.rf rfl
  obtain ⟨z4, ez4, hzz⟩ := z_bd hzz
  have k2zz : FrX d_X5_keep_O_me o_me z4 := k1zz.tr ((fr_f_X4_writeTo_AX5_1  ez4).mono rfl)
  obtain ⟨o5zz, eo5, hzz⟩ := z_lt hzz
  have k3zz : FrX d_X5_keep_O_me o_me o5zz := by rw [eo5]; exact FrX.sI k2zz rfl
  have hzz := Option.some.inj hzz
  subst hzz
  exact k3zz
set_option maxHeartbeats 200000 in
theorem fr_f_X5_keep_O {o_me : Ob} {o_a1 : Ob} {p0zz : Int32} {yzz : Ob}  (hzz : f_X5_keep_O o_me o_a1 p0zz = some yzz) : FrX d_X5_keep_O_me o_me yzz := by
  unfold f_X5_keep_O at hzz
  rcases z_if hzz with ⟨-, hzz⟩ | ⟨-, hzz⟩
  · obtain ⟨o6, eo6, hzz⟩ := z_lt hzz
    have k1zz : FrX d_X5_keep_O_me o_me o6 := by rw [eo6]; exact FrX.sI FrX.rf rfl
    obtain ⟨o7, eo7, hzz⟩ := z_lt hzz
    have k2zz : FrX d_X5_keep_O_me o_me o7 := by rw [eo7]; exact FrX.sI k1zz rfl
    have wzz := fr_bk_X5_keep_O_32  hzz
    exact k2zz.tr wzz
  · have wzz := fr_bk_X5_keep_O_32  hzz
    exact FrX.rf.tr wzz
def d_X1_moved_O_a2 : DD := ([2, 3], [], [0, 1], [], [])
def d_X1_moved_O_me : DD := ([4], [], [2, 3], [], [])
def d_X1_moved_O_me_isles_now : DD := ([2, 3, 4], [], [0, 1], [], [])
def d_X1_moved_O_me_machine : DD := ([], [], [0], [1], [])
set_option maxHeartbeats 200000 in
theorem fr_bk_X1_moved_O_142 {o_me_isles : Ob} {o_pool : List CR} {v1zz : Int32} {v2 : Int32} {o_me : Ob} {o_me_isles_now : Ob} {o_me_machine : Ob} {o_a2 : Ob} {yzz : Int32 × Ob × Ob × Ob × Ob}  (hzz : bk_X1_moved_O_142 o_me_isles o_pool v1zz v2 o_me o_me_isles_now o_me_machine o_a2 = some yzz) : FrX d_X1_moved_O_me o_me yzz.2.1 ∧ FrX d_X1_moved_O_me_isles_now o_me_isles_now yzz.2.2.1 ∧ FrX d_X1_moved_O_me_machine o_me_machine yzz.2.2.2.1 ∧ FrX d_X1_moved_O_a2 o_a2 yzz.2.2.2.2 := by
  unfold bk_X1_moved_O_142 at hzz
  rcases z_if hzz with ⟨-, hzz⟩ | ⟨-, hzz⟩
  · obtain ⟨z4, ez4, hzz⟩ := z_bd hzz
    have k1zz : FrX d_X1_moved_O_me_isles_now o_me_isles_now z4.2.1 := FrX.rf.tr (((fr_f_X1_heldRace  ez4).1).mono rfl)
    have k2zz : FrX d_X1_moved_O_me_machine o_me_machine z4.2.2 := FrX.rf.tr (((fr_f_X1_heldRace  ez4).2).mono rfl)
    have hzz := Option.some.inj hzz
    subst hzz
    exact ⟨FrX.rf, k1zz, k2zz, FrX.rf⟩
  · rcases z_if hzz with ⟨-, hzz⟩ | ⟨-, hzz⟩
    · obtain ⟨z5, ez5, hzz⟩ := z_bd hzz
      have k3zz : FrX d_X1_moved_O_me_isles_now o_me_isles_now z5.2 := FrX.rf.tr ((fr_f_X1_changedEntry  ez5).mono rfl)
      have hzz := Option.some.inj hzz
      subst hzz
      exact ⟨FrX.rf, k3zz, FrX.rf, FrX.rf⟩
    · rcases z_if hzz with ⟨-, hzz⟩ | ⟨-, hzz⟩
      · obtain ⟨z6, ez6, hzz⟩ := z_bd hzz
        have k4zz : FrX d_X1_moved_O_me_isles_now o_me_isles_now z6.2 := FrX.rf.tr ((fr_f_X1_takenGap  ez6).mono rfl)
        have hzz := Option.some.inj hzz
        subst hzz
        exact ⟨FrX.rf, k4zz, FrX.rf, FrX.rf⟩
      · obtain ⟨z7, ez7, hzz⟩ := z_bd hzz
        have k5zz : FrX d_X1_moved_O_me_isles_now o_me_isles_now z7.2.1 := FrX.rf.tr (((fr_f_X1_passedYear  ez7).1).mono rfl)
        have k6zz : FrX d_X1_moved_O_me_machine o_me_machine z7.2.2 := FrX.rf.tr (((fr_f_X1_passedYear  ez7).2).mono rfl)
        have hzz := Option.some.inj hzz
        subst hzz
        exact ⟨FrX.rf, k5zz, k6zz, FrX.rf⟩
set_option maxHeartbeats 200000 in
theorem fr_bk_X1_moved_O_118 {o_me_isles : Ob} {o_pool : List CR} {v1zz : Int32} {v2 : Int32} {v4zz : Int32} {o_me : Ob} {o_me_isles_now : Ob} {o_me_machine : Ob} {o_a2 : Ob} {yzz : Int32 × Ob × Ob × Ob × Ob}  (hzz : bk_X1_moved_O_118 o_me_isles o_pool v1zz v2 v4zz o_me o_me_isles_now o_me_machine o_a2 = some yzz) : FrX d_X1_moved_O_me o_me yzz.2.1 ∧ FrX d_X1_moved_O_me_isles_now o_me_isles_now yzz.2.2.1 ∧ FrX d_X1_moved_O_me_machine o_me_machine yzz.2.2.2.1 ∧ FrX d_X1_moved_O_a2 o_a2 yzz.2.2.2.2 := by
  unfold bk_X1_moved_O_118 at hzz
  rcases z_if hzz with ⟨-, hzz⟩ | ⟨-, hzz⟩
  · obtain ⟨z2, ez2, hzz⟩ := z_bd hzz
    have k1zz : FrX d_X1_moved_O_a2 o_a2 z2 := FrX.rf.tr ((fr_f_X5_keep_O  ez2).mono rfl)
    have wzz := fr_bk_X1_moved_O_142  hzz
    exact ⟨FrX.rf.tr (wzz).1, FrX.rf.tr (wzz).2.1, FrX.rf.tr (wzz).2.2.1, k1zz.tr (wzz).2.2.2⟩
  · have hzz := Option.some.inj hzz
    subst hzz
    exact ⟨FrX.rf, FrX.rf, FrX.rf, FrX.rf⟩
set_option maxHeartbeats 200000 in
theorem fr_bk_X1_moved_O_116 {o_me_isles : Ob} {o_pool : List CR} {v1zz : Int32} {v2 : Int32} {s0zz : Int32} {o_me : Ob} {o_me_isles_now : Ob} {o_me_machine : Ob} {o_a2 : Ob} {yzz : Int32 × Ob × Ob × Ob × Ob}  (hzz : bk_X1_moved_O_116 o_me_isles o_pool v1zz v2 s0zz o_me o_me_isles_now o_me_machine o_a2 = some yzz) : FrX d_X1_moved_O_me o_me yzz.2.1 ∧ FrX d_X1_moved_O_me_isles_now o_me_isles_now yzz.2.2.1 ∧ FrX d_X1_moved_O_me_machine o_me_machine yzz.2.2.2.1 ∧ FrX d_X1_moved_O_a2 o_a2 yzz.2.2.2.2 := by
  unfold bk_X1_moved_O_116 at hzz
  have wzz := fr_bk_X1_moved_O_118  hzz
  exact ⟨FrX.rf.tr (wzz).1, FrX.rf.tr (wzz).2.1, FrX.rf.tr (wzz).2.2.1, FrX.rf.tr (wzz).2.2.2⟩
set_option maxHeartbeats 200000 in
theorem fr_bk_X1_moved_O_115 {o_me_isles : Ob} {o_pool : List CR} {v1zz : Int32} {v2 : Int32} {o_me : Ob} {o_me_isles_now : Ob} {o_me_machine : Ob} {o_a2 : Ob} {yzz : Int32 × Ob × Ob × Ob × Ob}  (hzz : bk_X1_moved_O_115 o_me_isles o_pool v1zz v2 o_me o_me_isles_now o_me_machine o_a2 = some yzz) : FrX d_X1_moved_O_me o_me yzz.2.1 ∧ FrX d_X1_moved_O_me_isles_now o_me_isles_now yzz.2.2.1 ∧ FrX d_X1_moved_O_me_machine o_me_machine yzz.2.2.2.1 ∧ FrX d_X1_moved_O_a2 o_a2 yzz.2.2.2.2 := by
  unfold bk_X1_moved_O_115 at hzz
  have wzz := fr_bk_X1_moved_O_116  hzz
  exact ⟨FrX.rf.tr (wzz).1, FrX.rf.tr (wzz).2.1, FrX.rf.tr (wzz).2.2.1, FrX.rf.tr (wzz).2.2.2⟩
set_option maxHeartbeats 200000 in
theorem fr_bk_X1_moved_O_71 {o_me_isles : Ob} {o_pool : List CR} {v1zz : Int32} {v2 : Int32} {s0zz : Int32} {o_me : Ob} {o_me_isles_now : Ob} {o_me_machine : Ob} {o_a2 : Ob} {yzz : Int32 × Ob × Ob × Ob × Ob}  (hzz : bk_X1_moved_O_71 o_me_isles o_pool v1zz v2 s0zz o_me o_me_isles_now o_me_machine o_a2 = some yzz) : FrX d_X1_moved_O_me o_me yzz.2.1 ∧ FrX d_X1_moved_O_me_isles_now o_me_isles_now yzz.2.2.1 ∧ FrX d_X1_moved_O_me_machine o_me_machine yzz.2.2.2.1 ∧ FrX d_X1_moved_O_a2 o_a2 yzz.2.2.2.2 := by
  unfold bk_X1_moved_O_71 at hzz
  have wzz := fr_bk_X1_moved_O_118  hzz
  exact ⟨FrX.rf.tr (wzz).1, FrX.rf.tr (wzz).2.1, FrX.rf.tr (wzz).2.2.1, FrX.rf.tr (wzz).2.2.2⟩
set_option maxHeartbeats 200000 in
theorem fr_bk_X1_moved_O_39 {o_me_isles : Ob} {o_pool : List CR} {v1zz : Int32} {v2 : Int32} {s0zz : Int32} {o_me : Ob} {o_me_isles_now : Ob} {o_me_machine : Ob} {o_a2 : Ob} {yzz : Int32 × Ob × Ob × Ob × Ob}  (hzz : bk_X1_moved_O_39 o_me_isles o_pool v1zz v2 s0zz o_me o_me_isles_now o_me_machine o_a2 = some yzz) : FrX d_X1_moved_O_me o_me yzz.2.1 ∧ FrX d_X1_moved_O_me_isles_now o_me_isles_now yzz.2.2.1 ∧ FrX d_X1_moved_O_me_machine o_me_machine yzz.2.2.2.1 ∧ FrX d_X1_moved_O_a2 o_a2 yzz.2.2.2.2 := by
  unfold bk_X1_moved_O_39 at hzz
  have wzz := fr_bk_X1_moved_O_118  hzz
  exact ⟨FrX.rf.tr (wzz).1, FrX.rf.tr (wzz).2.1, FrX.rf.tr (wzz).2.2.1, FrX.rf.tr (wzz).2.2.2⟩
set_option maxHeartbeats 200000 in
theorem fr_f_X1_moved_O {o_me : Ob} {o_me_isles : Ob} {o_me_isles_now : Ob} {o_me_machine : Ob} {o_pool : List CR} {o_a2 : Ob} {p0zz : Int32} {p1zz : Int32} {yzz : Int32 × Ob × Ob × Ob × Ob}  (hzz : f_X1_moved_O o_me o_me_isles o_me_isles_now o_me_machine o_pool o_a2 p0zz p1zz = some yzz) : FrX d_X1_moved_O_me o_me yzz.2.1 ∧ FrX d_X1_moved_O_me_isles_now o_me_isles_now yzz.2.2.1 ∧ FrX d_X1_moved_O_me_machine o_me_machine yzz.2.2.2.1 ∧ FrX d_X1_moved_O_a2 o_a2 yzz.2.2.2.2 := by
  unfold f_X1_moved_O at hzz
  rcases z_if hzz with ⟨-, hzz⟩ | ⟨-, hzz⟩
  · obtain ⟨z8, ez8, hzz⟩ := z_bd hzz
    rcases z_if hzz with ⟨-, hzz⟩ | ⟨-, hzz⟩
    · have wzz := fr_bk_X1_moved_O_39  hzz
      exact ⟨FrX.rf.tr (wzz).1, FrX.rf.tr (wzz).2.1, FrX.rf.tr (wzz).2.2.1, FrX.rf.tr (wzz).2.2.2⟩
    · obtain ⟨z9, ez9, hzz⟩ := z_bd hzz
      obtain ⟨z10, ez10, hzz⟩ := z_bd hzz
      have k1zz : FrX d_X1_moved_O_me o_me z10.2.1 := FrX.rf.tr (((fr_f_X1_lineUp_Q  ez10).1).mono rfl)
      have k2zz : FrX d_X1_moved_O_me_machine o_me_machine z10.2.2 := FrX.rf.tr (((fr_f_X1_lineUp_Q  ez10).2).mono rfl)
      rcases z_if hzz with ⟨-, hzz⟩ | ⟨-, hzz⟩
      · have wzz := fr_bk_X1_moved_O_39  hzz
        exact ⟨k1zz.tr (wzz).1, FrX.rf.tr (wzz).2.1, k2zz.tr (wzz).2.2.1, FrX.rf.tr (wzz).2.2.2⟩
      · have wzz := fr_bk_X1_moved_O_39  hzz
        exact ⟨k1zz.tr (wzz).1, FrX.rf.tr (wzz).2.1, k2zz.tr (wzz).2.2.1, FrX.rf.tr (wzz).2.2.2⟩
  · rcases z_if hzz with ⟨-, hzz⟩ | ⟨-, hzz⟩
    · rcases z_if hzz with ⟨-, hzz⟩ | ⟨-, hzz⟩
      · have wzz := fr_bk_X1_moved_O_71  hzz
        exact ⟨FrX.rf.tr (wzz).1, FrX.rf.tr (wzz).2.1, FrX.rf.tr (wzz).2.2.1, FrX.rf.tr (wzz).2.2.2⟩
      · have wzz := fr_bk_X1_moved_O_71  hzz
        exact ⟨FrX.rf.tr (wzz).1, FrX.rf.tr (wzz).2.1, FrX.rf.tr (wzz).2.2.1, FrX.rf.tr (wzz).2.2.2⟩
    · obtain ⟨z1, ez1, hzz⟩ := z_bd hzz
      rcases z_if hzz with ⟨-, hzz⟩ | ⟨-, hzz⟩
      · have wzz := fr_bk_X1_moved_O_116  hzz
        exact ⟨FrX.rf.tr (wzz).1, FrX.rf.tr (wzz).2.1, FrX.rf.tr (wzz).2.2.1, FrX.rf.tr (wzz).2.2.2⟩
      · rcases z_if hzz with ⟨-, hzz⟩ | ⟨-, hzz⟩
        · rcases z_if hzz with ⟨-, hzz⟩ | ⟨-, hzz⟩
          · have wzz := fr_bk_X1_moved_O_116  hzz
            exact ⟨FrX.rf.tr (wzz).1, FrX.rf.tr (wzz).2.1, FrX.rf.tr (wzz).2.2.1, FrX.rf.tr (wzz).2.2.2⟩
          · have wzz := fr_bk_X1_moved_O_115  hzz
            exact ⟨FrX.rf.tr (wzz).1, FrX.rf.tr (wzz).2.1, FrX.rf.tr (wzz).2.2.1, FrX.rf.tr (wzz).2.2.2⟩
        · have wzz := fr_bk_X1_moved_O_115  hzz
          exact ⟨FrX.rf.tr (wzz).1, FrX.rf.tr (wzz).2.1, FrX.rf.tr (wzz).2.2.1, FrX.rf.tr (wzz).2.2.2⟩
def d_X8_obey_O_me : DD := ([15, 16], [], [], [], [])
def d_X8_obey_O_me_court : DD := ([4], [], [2, 3], [], [])
def d_X8_obey_O_me_isles_now : DD := ([2, 3, 4], [], [0, 1], [], [])
def d_X8_obey_O_me_machine : DD := ([], [], [0], [1], [])
def d_X8_obey_O_me_past : DD := ([2, 3], [], [0, 1], [], [])
set_option maxHeartbeats 200000 in
theorem fr_f_X8_obey_O {nc_a0 : Nat} {ns_a0 : Nat} {o_me : Ob} {o_me_machine : Ob} {o_me_isles : Ob} {o_me_isles_now : Ob} {o_me_court : Ob} {o_me_past : Ob} {o_pool : List CR} {o_a0 : Ob} {p1zz : Int32} {yzz : Int32 × Ob × Ob × Ob × Ob × Ob}  (hzz : f_X8_obey_O nc_a0 ns_a0 o_me o_me_machine o_me_isles o_me_isles_now o_me_court o_me_past o_pool o_a0 p1zz = some yzz) : FrX d_X8_obey_O_me o_me yzz.2.1 ∧ FrX d_X8_obey_O_me_machine o_me_machine yzz.2.2.1 ∧ FrX d_X8_obey_O_me_isles_now o_me_isles_now yzz.2.2.2.1 ∧ FrX d_X8_obey_O_me_court o_me_court yzz.2.2.2.2.1 ∧ FrX d_X8_obey_O_me_past o_me_past yzz.2.2.2.2.2 := by
  unfold f_X8_obey_O at hzz
  obtain ⟨z1, ez1, hzz⟩ := z_bd hzz
  have k1zz : FrX d_X8_obey_O_me_machine o_me_machine z1 := FrX.rf.tr ((fr_f_X3_setOrderWords_O  ez1).mono rfl)
  have hzz := (z_gd hzz).2
  have hzz := (z_gd hzz).2
  obtain ⟨z4, ez4, hzz⟩ := z_bd hzz
  have k2zz : FrX d_X8_obey_O_me_machine o_me_machine z4.2 := k1zz.tr ((fr_f_X3_worth_O  ez4).mono rfl)
  rcases z_if hzz with ⟨-, hzz⟩ | ⟨-, hzz⟩
  · have hzz := (z_gd hzz).2
    have hzz := (z_gd hzz).2
    obtain ⟨z7, ez7, hzz⟩ := z_bd hzz
    have k3zz : FrX d_X8_obey_O_me_machine o_me_machine z7.2 := k2zz.tr ((fr_f_X3_worth_O  ez7).mono rfl)
    rcases z_if hzz with ⟨-, hzz⟩ | ⟨-, hzz⟩
    · have hzz := Option.some.inj hzz
      subst hzz
      exact ⟨FrX.rf, k3zz, FrX.rf, FrX.rf, FrX.rf⟩
    · have hzz := (z_gd hzz).2
      obtain ⟨x9, ex9, hzz⟩ := z_lt hzz
      obtain ⟨z10, ez10, hzz⟩ := z_bd hzz
      have k4zz : FrX d_X8_obey_O_me_court o_me_court z10.2.1 := FrX.rf.tr (((fr_f_X1_moved_O  ez10).1).mono rfl)
      have k5zz : FrX d_X8_obey_O_me_isles_now o_me_isles_now z10.2.2.1 := FrX.rf.tr (((fr_f_X1_moved_O  ez10).2.1).mono rfl)
      have k6zz : FrX d_X8_obey_O_me_machine o_me_machine z10.2.2.2.1 := k3zz.tr (((fr_f_X1_moved_O  ez10).2.2.1).mono rfl)
      have k7zz : FrX d_X8_obey_O_me_past o_me_past z10.2.2.2.2 := FrX.rf.tr (((fr_f_X1_moved_O  ez10).2.2.2).mono rfl)
      rcases z_if hzz with ⟨-, hzz⟩ | ⟨-, hzz⟩
      · obtain ⟨o11, eo11, hzz⟩ := z_lt hzz
        have k8zz : FrX d_X8_obey_O_me o_me o11 := by rw [eo11]; exact FrX.sI FrX.rf rfl
        rcases z_if hzz with ⟨-, hzz⟩ | ⟨-, hzz⟩
        · obtain ⟨o12, eo12, hzz⟩ := z_lt hzz
          have k9 : FrX d_X8_obey_O_me o_me o12 := by rw [eo12]; exact FrX.sI k8zz rfl
          have hzz := Option.some.inj hzz
          subst hzz
          exact ⟨k9, k6zz, k5zz, k4zz, k7zz⟩
        · have hzz := Option.some.inj hzz
          subst hzz
          exact ⟨k8zz, k6zz, k5zz, k4zz, k7zz⟩
      · have hzz := Option.some.inj hzz
        subst hzz
        exact ⟨FrX.rf, k6zz, k5zz, k4zz, k7zz⟩
  · have hzz := Option.some.inj hzz
    subst hzz
    exact ⟨FrX.rf, k2zz, FrX.rf, FrX.rf, FrX.rf⟩
def d_X8_refuse_me : DD := ([12], [], [11], [], [])
set_option maxHeartbeats 200000 in
theorem fr_f_X8_refuse {o_me : Ob} {p0zz : Int32} {yzz : Int32 × Ob}  (hzz : f_X8_refuse o_me p0zz = some yzz) : FrX d_X8_refuse_me o_me yzz.2 := by
  unfold f_X8_refuse at hzz
  obtain ⟨o1, eo1, hzz⟩ := z_lt hzz
  have k1zz : FrX d_X8_refuse_me o_me o1 := by rw [eo1]; exact FrX.sI FrX.rf rfl
  rcases z_if hzz with ⟨-, hzz⟩ | ⟨-, hzz⟩
  · have hzz := Option.some.inj hzz
    subst hzz
    exact k1zz
  · rcases z_if hzz with ⟨-, hzz⟩ | ⟨-, hzz⟩
    · have hzz := Option.some.inj hzz
      subst hzz
      exact k1zz
    · obtain ⟨x2zz, ex2zz, hzz⟩ := z_lt hzz
      have hzz := (z_gd hzz).2
      have hzz := (z_gd hzz).2
      obtain ⟨o5zz, eo5, hzz⟩ := z_lt hzz
      have k2zz : FrX d_X8_refuse_me o_me o5zz := by rw [eo5]; exact FrX.tA k1zz rfl
      have hzz := Option.some.inj hzz
      subst hzz
      exact k2zz
def d_X8_grant_me : DD := ([12], [], [], [], [])
set_option maxHeartbeats 200000 in
theorem fr_f_X8_grant {o_me : Ob} {p0zz : Int32} {yzz : Int32 × Ob}  (hzz : f_X8_grant o_me p0zz = some yzz) : FrX d_X8_grant_me o_me yzz.2 := by
  unfold f_X8_grant at hzz
  obtain ⟨o1, eo1, hzz⟩ := z_lt hzz
  have k1zz : FrX d_X8_grant_me o_me o1 := by rw [eo1]; exact FrX.sI FrX.rf rfl
  have hzz := Option.some.inj hzz
  subst hzz
  exact k1zz
def d_X8_answer_me : DD := ([12], [], [11], [], [])
set_option maxHeartbeats 200000 in
theorem fr_f_X8_answer {o_me : Ob} {p0zz : Int32} {yzz : Int32 × Ob}  (hzz : f_X8_answer o_me p0zz = some yzz) : FrX d_X8_answer_me o_me yzz.2 := by
  unfold f_X8_answer at hzz
  rcases z_if hzz with ⟨-, hzz⟩ | ⟨-, hzz⟩
  · obtain ⟨z1, ez1, hzz⟩ := z_bd hzz
    have k1zz : FrX d_X8_answer_me o_me z1.2 := FrX.rf.tr ((fr_f_X8_grant  ez1).mono rfl)
    have hzz := Option.some.inj hzz
    subst hzz
    exact k1zz
  · obtain ⟨z2, ez2, hzz⟩ := z_bd hzz
    have k2zz : FrX d_X8_answer_me o_me z2.2 := FrX.rf.tr ((fr_f_X8_refuse  ez2).mono rfl)
    have hzz := Option.some.inj hzz
    subst hzz
    exact k2zz
def d_X8_tellRow_me_isles : DD := ([], [], [2], [], [])
set_option maxHeartbeats 200000 in
theorem fr_lb_X8_tellRow_65 {o_me : Ob} {o_me_reader : Ob} {rec_65_1 : Int32 × Int32 × Int32 × Ob → Option (Int32 × Ob)} {v1zz : Int32} {v2 : Int32} {v3 : Int32} {o_me_isles : Ob} {yzz : Int32 × Ob} (hrec_65_1 : ∀ (azz : Int32 × Int32 × Int32 × Ob) (yzz : Int32 × Ob), rec_65_1 azz = some yzz → FrX d_X8_tellRow_me_isles azz.2.2.2 yzz.2) (hzz : lb_X8_tellRow_65 o_me o_me_reader rec_65_1 v1zz v2 v3 o_me_isles = some yzz) : FrX d_X8_tellRow_me_isles o_me_isles yzz.2 := by
  unfold lb_X8_tellRow_65 at hzz
  rcases z_if hzz with ⟨-, hzz⟩ | ⟨-, hzz⟩
  · have hzz := Option.some.inj hzz
    subst hzz
    exact FrX.rf
  · obtain ⟨z3, ez3, hzz⟩ := z_bd hzz
    have hzz := (z_gd hzz).2
    obtain ⟨o5zz, eo5, hzz⟩ := z_lt hzz
    have k1zz : FrX d_X8_tellRow_me_isles o_me_isles o5zz := by rw [eo5]; exact FrX.tA FrX.rf rfl
    obtain ⟨x6, ex6, hzz⟩ := z_lt hzz
    have wzz := hrec_65_1 _ _ hzz
    exact k1zz.tr wzz
set_option maxHeartbeats 200000 in
theorem fr_lp_X8_tellRow_65 {o_me : Ob} {o_me_reader : Ob}  : ∀ (Nzz : Nat) (azz : Int32 × Int32 × Int32 × Ob) (yzz : Int32 × Ob), lp_X8_tellRow_65 o_me o_me_reader Nzz azz = some yzz → FrX d_X8_tellRow_me_isles azz.2.2.2 yzz.2 := by
  intro Nzz
  induction Nzz with
  | zero => intro azz yzz hzz; cases hzz
  | succ Nzz ihzz => intro azz yzz hzz; exact fr_lb_X8_tellRow_65 (o_me := o_me) (o_me_reader := o_me_reader)  ihzz hzz
set_option maxHeartbeats 200000 in
theorem fr_lb_X8_tellRow_24 {o_me : Ob} {o_me_reader : Ob} {rec_24_0 : Int32 × Int32 × Int32 × Ob → Option (Int32 × Ob)} {v1zz : Int32} {v2 : Int32} {v3 : Int32} {o_me_isles : Ob} {yzz : Int32 × Ob} (hrec_24_0 : ∀ (azz : Int32 × Int32 × Int32 × Ob) (yzz : Int32 × Ob), rec_24_0 azz = some yzz → FrX d_X8_tellRow_me_isles azz.2.2.2 yzz.2) (hzz : lb_X8_tellRow_24 o_me o_me_reader rec_24_0 v1zz v2 v3 o_me_isles = some yzz) : FrX d_X8_tellRow_me_isles o_me_isles yzz.2 := by
  unfold lb_X8_tellRow_24 at hzz
  rcases z_if hzz with ⟨-, hzz⟩ | ⟨-, hzz⟩
  · have wzz := fr_lp_X8_tellRow_65  _ _ _ hzz
    exact FrX.rf.tr wzz
  · obtain ⟨z7, ez7, hzz⟩ := z_bd hzz
    rcases z_if hzz with ⟨-, hzz⟩ | ⟨-, hzz⟩
    · have hzz := Option.some.inj hzz
      subst hzz
      exact FrX.rf
    · rcases z_if hzz with ⟨-, hzz⟩ | ⟨-, hzz⟩
      · obtain ⟨x8, ex8, hzz⟩ := z_lt hzz
        have wzz := hrec_24_0 _ _ hzz
        exact FrX.rf.tr wzz
      · have hzz := Option.some.inj hzz
        subst hzz
        exact FrX.rf
set_option maxHeartbeats 200000 in
theorem fr_lp_X8_tellRow_24 {o_me : Ob} {o_me_reader : Ob}  : ∀ (Nzz : Nat) (azz : Int32 × Int32 × Int32 × Ob) (yzz : Int32 × Ob), lp_X8_tellRow_24 o_me o_me_reader Nzz azz = some yzz → FrX d_X8_tellRow_me_isles azz.2.2.2 yzz.2 := by
  intro Nzz
  induction Nzz with
  | zero => intro azz yzz hzz; cases hzz
  | succ Nzz ihzz => intro azz yzz hzz; exact fr_lb_X8_tellRow_24 (o_me := o_me) (o_me_reader := o_me_reader)  ihzz hzz
set_option maxHeartbeats 200000 in
theorem fr_f_X8_tellRow {o_me : Ob} {o_me_reader : Ob} {o_me_isles : Ob} {p0zz : Int32} {yzz : Int32 × Ob}  (hzz : f_X8_tellRow o_me o_me_reader o_me_isles p0zz = some yzz) : FrX d_X8_tellRow_me_isles o_me_isles yzz.2 := by
  unfold f_X8_tellRow at hzz
  obtain ⟨z1, ez1, hzz⟩ := z_bd hzz
  obtain ⟨z2, ez2, hzz⟩ := z_bd hzz
  rcases z_if hzz with ⟨-, hzz⟩ | ⟨-, hzz⟩
  · have hzz := Option.some.inj hzz
    subst hzz
    exact FrX.rf
  · have wzz := fr_lp_X8_tellRow_24  _ _ _ hzz
    exact FrX.rf.tr wzz
def d_X8_row_me : DD := ([12, 13], [], [11], [], [])
def d_X8_row_me_isles : DD := ([], [], [2], [], [])
def d_X8_row_me_reader : DD := ([2], [], [], [], [])
set_option maxHeartbeats 200000 in
theorem fr_bk_X8_row_61 {rec_26_0 : Int32 × Int32 × Ob × Ob × Ob → Option (Int32 × Ob × Ob × Ob)} {v1zz : Int32} {v2 : Int32} {o_me : Ob} {o_me_reader : Ob} {o_me_isles : Ob} {yzz : Int32 × Ob × Ob × Ob} (hrec_26_0 : ∀ (azz : Int32 × Int32 × Ob × Ob × Ob) (yzz : Int32 × Ob × Ob × Ob), rec_26_0 azz = some yzz → FrX d_X8_row_me azz.2.2.1 yzz.2.1 ∧ FrX d_X8_row_me_reader azz.2.2.2.1 yzz.2.2.1 ∧ FrX d_X8_row_me_isles azz.2.2.2.2 yzz.2.2.2) (hzz : bk_X8_row_61 rec_26_0 v1zz v2 o_me o_me_reader o_me_isles = some yzz) : FrX d_X8_row_me o_me yzz.2.1 ∧ FrX d_X8_row_me_reader o_me_reader yzz.2.2.1 ∧ FrX d_X8_row_me_isles o_me_isles yzz.2.2.2 := by
  unfold bk_X8_row_61 at hzz
  obtain ⟨x6, ex6, hzz⟩ := z_lt hzz
  have wzz := hrec_26_0 _ _ hzz
  exact ⟨FrX.rf.tr (wzz).1, FrX.rf.tr (wzz).2.1, FrX.rf.tr (wzz).2.2⟩
set_option maxHeartbeats 200000 in
theorem fr_lb_X8_row_26 {rec_26_0 : Int32 × Int32 × Ob × Ob × Ob → Option (Int32 × Ob × Ob × Ob)} {v1zz : Int32} {v2 : Int32} {o_me : Ob} {o_me_reader : Ob} {o_me_isles : Ob} {yzz : Int32 × Ob × Ob × Ob} (hrec_26_0 : ∀ (azz : Int32 × Int32 × Ob × Ob × Ob) (yzz : Int32 × Ob × Ob × Ob), rec_26_0 azz = some yzz → FrX d_X8_row_me azz.2.2.1 yzz.2.1 ∧ FrX d_X8_row_me_reader azz.2.2.2.1 yzz.2.2.1 ∧ FrX d_X8_row_me_isles azz.2.2.2.2 yzz.2.2.2) (hzz : lb_X8_row_26 rec_26_0 v1zz v2 o_me o_me_reader o_me_isles = some yzz) : FrX d_X8_row_me o_me yzz.2.1 ∧ FrX d_X8_row_me_reader o_me_reader yzz.2.2.1 ∧ FrX d_X8_row_me_isles o_me_isles yzz.2.2.2 := by
  unfold lb_X8_row_26 at hzz
  rcases z_if hzz with ⟨-, hzz⟩ | ⟨-, hzz⟩
  · obtain ⟨o2, eo2, hzz⟩ := z_lt hzz
    have k1zz : FrX d_X8_row_me_reader o_me_reader o2 := by rw [eo2]; exact FrX.sI FrX.rf rfl
    obtain ⟨z3, ez3, hzz⟩ := z_bd hzz
    have k2zz : FrX d_X8_row_me o_me z3.2 := FrX.rf.tr ((fr_f_X8_grant  ez3).mono rfl)
    have hzz := Option.some.inj hzz
    subst hzz
    exact ⟨k2zz, k1zz, FrX.rf⟩
  · obtain ⟨z4, ez4, hzz⟩ := z_bd hzz
    have k3zz : FrX d_X8_row_me_isles o_me_isles z4.2 := FrX.rf.tr ((fr_f_X8_tellRow  ez4).mono rfl)
    rcases z_if hzz with ⟨-, hzz⟩ | ⟨-, hzz⟩
    · obtain ⟨o5zz, eo5, hzz⟩ := z_lt hzz
      have k4zz : FrX d_X8_row_me o_me o5zz := by rw [eo5]; exact FrX.sI FrX.rf rfl
      have wzz := fr_bk_X8_row_61 hrec_26_0 hzz
      exact ⟨k4zz.tr (wzz).1, FrX.rf.tr (wzz).2.1, k3zz.tr (wzz).2.2⟩
    · obtain ⟨x7, ex7, hzz⟩ := z_lt hzz
      have wzz := fr_bk_X8_row_61 hrec_26_0 hzz
      exact ⟨FrX.rf.tr (wzz).1, FrX.rf.tr (wzz).2.1, k3zz.tr (wzz).2.2⟩
set_option maxHeartbeats 200000 in
theorem fr_lp_X8_row_26   : ∀ (Nzz : Nat) (azz : Int32 × Int32 × Ob × Ob × Ob) (yzz : Int32 × Ob × Ob × Ob), lp_X8_row_26  Nzz azz = some yzz → FrX d_X8_row_me azz.2.2.1 yzz.2.1 ∧ FrX d_X8_row_me_reader azz.2.2.2.1 yzz.2.2.1 ∧ FrX d_X8_row_me_isles azz.2.2.2.2 yzz.2.2.2 := by
  intro Nzz
  induction Nzz with
  | zero => intro azz yzz hzz; cases hzz
  | succ Nzz ihzz => intro azz yzz hzz; exact fr_lb_X8_row_26   ihzz hzz
set_option maxHeartbeats 200000 in
theorem fr_f_X8_row {o_me : Ob} {o_me_reader : Ob} {o_me_isles : Ob} {yzz : Int32 × Ob × Ob × Ob}  (hzz : f_X8_row o_me o_me_reader o_me_isles = some yzz) : FrX d_X8_row_me o_me yzz.2.1 ∧ FrX d_X8_row_me_reader o_me_reader yzz.2.2.1 ∧ FrX d_X8_row_me_isles o_me_isles yzz.2.2.2 := by
  unfold f_X8_row at hzz
  rcases z_if hzz with ⟨-, hzz⟩ | ⟨-, hzz⟩
  · obtain ⟨z8, ez8, hzz⟩ := z_bd hzz
    have k1zz : FrX d_X8_row_me o_me z8.2 := FrX.rf.tr ((fr_f_X8_refuse  ez8).mono rfl)
    have hzz := Option.some.inj hzz
    subst hzz
    exact ⟨k1zz, FrX.rf, FrX.rf⟩
  · obtain ⟨o1, eo1, hzz⟩ := z_lt hzz
    have k2zz : FrX d_X8_row_me o_me o1 := by rw [eo1]; exact FrX.sI FrX.rf rfl
    have wzz := fr_lp_X8_row_26  _ _ _ hzz
    exact ⟨k2zz.tr (wzz).1, FrX.rf.tr (wzz).2.1, FrX.rf.tr (wzz).2.2⟩
