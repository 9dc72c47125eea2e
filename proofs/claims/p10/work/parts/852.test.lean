set_option maxHeartbeats 200000 in
theorem m37_at {o : Ob} {jzz izz : Nat} {vzz : Int64} : gM (tM o 37 jzz vzz) 37 izz = if izz = jzz then vzz else gM o 37 izz := rfl
set_option maxHeartbeats 200000 in
theorem m1_at {o : Ob} {jzz izz : Nat} {vzz : Int64} : gM (tM o 1 jzz vzz) 1 izz = if izz = jzz then vzz else gM o 1 izz := rfl
-- what reckoning leaves as it was
def SR (o o' : Ob) : Prop := o'.2.2.1 = o.2.2.1 ∧ (∀ izz, izz ≠ 38 → gI o' izz = gI o izz) ∧ (∀ izz, izz ≠ 37 → gM o' izz = gM o izz)
set_option maxHeartbeats 200000 in
theorem SR.rf {o : Ob} : SR o o := ⟨rfl, fun _ _ => rfl, fun _ _ => rfl⟩
set_option maxHeartbeats 200000 in
theorem SR.tr {o o' o'' : Ob} (hzz : SR o o') (h' : SR o' o'') : SR o o'' := ⟨h'.1.trans hzz.1, fun izz hizz => (h'.2.1 izz hizz).trans (hzz.2.1 izz hizz), fun izz hizz => (h'.2.2 izz hizz).trans (hzz.2.2 izz hizz)⟩
set_option maxHeartbeats 200000 in
theorem SR.gA {o o' : Ob} (hzz : SR o o') (izz : Nat) : gA o' izz = gA o izz := congrFun hzz.1 izz
set_option maxHeartbeats 200000 in
theorem SR.tM {o : Ob} {jzz : Nat} {vzz : Int64} : SR o (tM o 37 jzz vzz) := ⟨rfl, fun _ _ => rfl, fun izz hizz => fset_ne (f := fun izz => gM o izz) hizz⟩
set_option maxHeartbeats 200000 in
theorem SR.sI {o : Ob} {vzz : Int32} : SR o (sI o 38 vzz) := ⟨rfl, fun _ hizz => fset_ne hizz, fun _ _ => rfl⟩
set_option maxHeartbeats 200000 in
theorem RD.sr {s2zz w2zz : Nat → Int32} {o o' : Ob} (hzz : RD s2zz w2zz o) (ezz : SR o o') : RD s2zz w2zz o' := by
  have e20 := ezz.2.1 20 (by decide)
  have e34 := ezz.2.1 34 (by decide)
  rcases hzz with ⟨azz, l, hl, bzz, czz⟩ | ⟨azz, bzz⟩
  · exact Or.inl ⟨by rw [e20]; exact azz, l, hl, by rw [e34]; exact bzz, fun kzz => by rw [ezz.gA 3]; exact czz kzz⟩
  · exact Or.inr ⟨by rw [e20]; exact azz, fun kzz => by rw [ezz.gA 24, ezz.gA 25]; exact bzz kzz⟩
def EWo (od : Bool) (mezz o : Ob) : Prop := (0 ≤ (gA o 3 0).toInt ∧ (gA o 3 0).toInt ≤ 7) ∧ (od = false → gI o 20 = 0 ∧ ∀ kzz, kzz < 9 → (gA mezz 0 kzz).toInt64 = gM o 35 (kzz + 1)) ∧
  (od = true → ¬ gI o 20 = 0 ∧ (∀ kzz, kzz < 5 → (gA mezz 0 kzz).toInt64 = gM o 36 (kzz + 1)) ∧ ∀ pzz : Nat, pzz < 7 → (((pzz : Int) < (gA o 3 0).toInt ∧ gA mezz 0 (5 + pzz) = gA o 3 (15 + pzz) ∧ gA mezz 0 (12 + pzz) = gA o 3 (8 + pzz)) ∨ ((gA o 3 0).toInt ≤ (pzz : Int) ∧ gA mezz 0 (5 + pzz) = -1 ∧ gA mezz 0 (12 + pzz) = -1)))
set_option maxHeartbeats 200000 in
theorem EWo.sr {od : Bool} {mezz me' o o' : Ob} (hzz : EWo od mezz o) (e0zz : gA me' 0 = gA mezz 0) (ezz : SR o o') : EWo od me' o' := by
  obtain ⟨h0, h1, h2⟩ := hzz
  refine ⟨by rw [ezz.gA 3]; exact h0, fun qzz => ?_, fun qzz => ?_⟩
  · obtain ⟨azz, bzz⟩ := h1 qzz
    exact ⟨by rw [ezz.2.1 20 (by decide)]; exact azz, fun kzz hk => by rw [e0zz, ezz.2.2 35 (by decide)]; exact bzz kzz hk⟩
  · obtain ⟨azz, bzz, czz⟩ := h2 qzz
    exact ⟨by rw [ezz.2.1 20 (by decide)]; exact azz, fun kzz hk => by rw [e0zz, ezz.2.2 36 (by decide)]; exact bzz kzz hk, fun pzz hp => by rw [e0zz, ezz.gA 3]; exact czz pzz hp⟩
-- steps of the reference
set_option maxHeartbeats 200000 in
theorem r_step {s2zz w2zz : Nat → Int32} {o yzz : Ob} {Nzz : Nat} {v2 v3 v4zz : Int32} {kzz bzz : Nat} (hrd : RD s2zz w2zz o) (ek : v4zz.toInt = (kzz : Int)) (eb : v2.toInt = (bzz : Int)) (hkb : kzz < bzz) (hbzz : bzz ≤ 400) (h38 : gI o 38 = 0) (hzz : lp_X9_reckonAll_10 (Nzz + 1) (v2, v3, v4zz, o) = some yzz) : bk_X9_reckonAll_95 (lp_X9_reckonAll_10 Nzz) v2 v3 v4zz (s2zz kzz) (w2zz kzz) o = some yzz := by
  have hzz : lb_X9_reckonAll_10 (lp_X9_reckonAll_10 Nzz) v2 v3 v4zz o = some yzz := hzz
  unfold lb_X9_reckonAll_10 at hzz
  have hzz := z_t (z_f hzz (fun qzz => by have qzz := cv_le (a := (bzz : Int)) (b := (kzz : Int)) eb ek qzz; omega)) h38
  rcases hrd with ⟨h20, l, hl, e34, hk⟩ | ⟨h20, hk⟩
  · obtain ⟨-, hzz⟩ := z_gd (z_t hzz h20)
    unfold bk_X9_reckonAll_57 at hzz
    obtain ⟨-, hzz⟩ := z_gd (z_t hzz h20)
    have a1zz : ((gI o 34) + (98 : Int32)).toInt = 84 + 900 * (l : Int) + 98 := i32_add e34 (by decide) (by omega) (by omega)
    have a2 : ((2 : Int32) * v4zz).toInt = 2 * (kzz : Int) := i32_mul (by decide) ek (by omega) (by omega)
    have a3 : (((gI o 34) + (98 : Int32)) + ((2 : Int32) * v4zz)).toInt = 84 + 900 * (l : Int) + 98 + 2 * (kzz : Int) := i32_add a1zz a2 (by omega) (by omega)
    have a4 : ((((gI o 34) + (98 : Int32)) + ((2 : Int32) * v4zz)) + (1 : Int32)).toInt = 84 + 900 * (l : Int) + 98 + 2 * (kzz : Int) + 1 := i32_add a3 (by decide) (by omega) (by omega)
    have i3zz : (((gI o 34) + (98 : Int32)) + ((2 : Int32) * v4zz)).toNatClampNeg = 84 + 900 * l + 98 + 2 * kzz := tnc_eq (by omega)
    have i4zz : ((((gI o 34) + (98 : Int32)) + ((2 : Int32) * v4zz)) + (1 : Int32)).toNatClampNeg = 84 + 900 * l + 98 + 2 * kzz + 1 := tnc_eq (by omega)
    rw [i3zz, i4zz, ← (hk kzz).1, ← (hk kzz).2] at hzz
    exact hzz
  · obtain ⟨-, hzz⟩ := z_gd (z_f hzz h20)
    unfold bk_X9_reckonAll_57 at hzz
    obtain ⟨-, hzz⟩ := z_gd (z_f hzz h20)
    have ik : v4zz.toNatClampNeg = kzz := tnc_eq ek
    rw [ik, ← (hk kzz).1, ← (hk kzz).2] at hzz
    exact hzz
set_option maxHeartbeats 200000 in
theorem r_push {reczz : Int32 × Int32 × Int32 × Ob → Option Ob} {v2 v3 x5zz : Int32} {s0zz : Int64} {o yzz : Ob} {qzz : Nat} (e3zz : v3.toInt = (qzz : Int)) (hzz : bk_X9_reckonAll_204 reczz v2 v3 x5zz s0zz v3 o = some yzz) : reczz (v2, v3 + 1, x5zz, tM o 37 qzz s0zz) = some yzz := by
  unfold bk_X9_reckonAll_204 at hzz
  obtain ⟨-, hzz⟩ := z_gd hzz
  obtain ⟨o24, e24zz, hzz⟩ := z_lt hzz
  obtain ⟨x25, e25zz, hzz⟩ := z_lt hzz
  have i3zz : v3.toNatClampNeg = qzz := tnc_eq e3zz
  rw [i3zz] at e24zz
  rw [e24zz, e25zz] at hzz
  exact hzz
set_option maxHeartbeats 200000 in
theorem r_num {reczz : Int32 × Int32 × Int32 × Ob → Option Ob} {v2 v3 v4zz s0zz : Int32} {o yzz : Ob} {qzz : Nat} (e3zz : v3.toInt = (qzz : Int)) (hzz : bk_X9_reckonAll_95 reczz v2 v3 v4zz 0 s0zz o = some yzz) : reczz (v2, v3 + 1, v4zz + 1, tM o 37 qzz s0zz.toInt64) = some yzz := by
  unfold bk_X9_reckonAll_95 at hzz
  obtain ⟨x5zz, e5zz, hzz⟩ := z_lt hzz
  have hzz := z_t (z_f hzz (by decide)) rfl
  rw [e5zz] at hzz
  exact r_push e3zz hzz
set_option maxHeartbeats 200000 in
theorem r_word {od : Bool} {mezz : Ob} {reczz : Int32 × Int32 × Int32 × Ob → Option Ob} {v2 v3 v4zz wzz op s0zz : Int32} {o yzz : Ob} {qzz : Nat} (hE : EWo od mezz o) (hw : WD od wzz op s0zz) (e3zz : v3.toInt = (qzz : Int)) (hzz : bk_X9_reckonAll_95 reczz v2 v3 v4zz op s0zz o = some yzz) : reczz (v2, v3 + 1, v4zz + 1, tM o 37 qzz (gA mezz 0 wzz.toNatClampNeg).toInt64) = some yzz := by
  unfold bk_X9_reckonAll_95 at hzz
  obtain ⟨x5zz, e5zz, hzz⟩ := z_lt hzz
  rw [e5zz] at hzz
  have hop : 1 ≤ op.toInt ∧ op.toInt ≤ 9 := by
    rcases hw with ⟨kzz, hk, -, ezz⟩ | ⟨-, pzz, -, -, ⟨-, ezz⟩ | ⟨-, ezz⟩⟩
    · rcases hk with hk | ⟨-, hk⟩ <;> omega
    · omega
    · omega
  have hzz := z_f hzz (fun czz => by have czz := cv_le (a := 20) (b := op.toInt) (by decide) rfl czz; omega)
  have hzz := z_f hzz (fun czz => by have czz := cv_eq (a := op.toInt) (b := 0) rfl (by decide) czz; omega)
  have hio : op.toNatClampNeg = op.toInt.toNat := rfl
  have hiw : wzz.toNatClampNeg = wzz.toInt.toNat := rfl
  cases od with
  | false =>
    obtain ⟨h20, hv⟩ := hE.2.1 rfl
    obtain ⟨-, hzz⟩ := z_gd (z_t hzz h20)
    rcases hw with ⟨kzz, hk, ew, eo⟩ | ⟨czz, -⟩
    · have i1zz : op.toNatClampNeg = kzz + 1 := tnc_eq (by omega)
      have i2zz : wzz.toNatClampNeg = kzz := tnc_eq ew
      have hk9 : kzz < 9 := by rcases hk with hk | ⟨-, hk⟩ <;> omega
      rw [i1zz, ← hv kzz hk9] at hzz
      rw [i2zz]
      exact r_push e3zz hzz
    · cases czz
  | true =>
    obtain ⟨h20, hv, hp⟩ := hE.2.2 rfl
    have hzz := z_f hzz h20
    rcases hw with ⟨kzz, hk, ew, eo⟩ | ⟨-, pzz, hp7, ea, hx⟩
    · have hk5 : kzz < 5 := by
        rcases hk with hk | ⟨czz, -⟩
        · exact hk
        · cases czz
      have i1zz : op.toNatClampNeg = kzz + 1 := tnc_eq (by omega)
      have i2zz : wzz.toNatClampNeg = kzz := tnc_eq ew
      have hzz := z_f hzz (fun czz => by have czz := cv_le (a := 6) (b := op.toInt) (by decide) rfl czz; omega)
      obtain ⟨-, hzz⟩ := z_gd hzz
      rw [i1zz, ← hv kzz hk5] at hzz
      rw [i2zz]
      exact r_push e3zz hzz
    · have hzz := z_t hzz (Int32.le_iff_toInt_le.mpr (by have czz : (6 : Int32).toInt = 6 := (by decide); rcases hx with ⟨-, ezz⟩ | ⟨-, ezz⟩ <;> omega))
      obtain ⟨zzz, ez, hzz⟩ := z_bd hzz
      have e1zz : (-1 : Int32).toInt64 = (-1 : Int64) := by decide
      have s15 : ((15 : Int32) + s0zz).toInt = 15 + (pzz : Int) := i32_add (by decide) ea (by omega) (by omega)
      have s8 : ((8 : Int32) + s0zz).toInt = 8 + (pzz : Int) := i32_add (by decide) ea (by omega) (by omega)
      have j15zz : ((15 : Int32) + s0zz).toNatClampNeg = 15 + pzz := tnc_eq (by omega)
      have j8zz : ((8 : Int32) + s0zz).toNatClampNeg = 8 + pzz := tnc_eq (by omega)
      rcases isP9 ez hE.1 with ⟨czz, d⟩ | ⟨czz, d⟩
      · have hzz := z_t hzz czz
        rw [ea] at d
        rcases hp pzz hp7 with ⟨gzz, -⟩ | ⟨-, g1, g2⟩
        · exact absurd ⟨by omega, gzz⟩ d
        · rcases hx with ⟨ew, -⟩ | ⟨ew, -⟩
          · have i2zz : wzz.toNatClampNeg = 5 + pzz := tnc_eq (by omega)
            rw [i2zz, g1, e1zz]; exact r_push e3zz hzz
          · have i2zz : wzz.toNatClampNeg = 12 + pzz := tnc_eq (by omega)
            rw [i2zz, g2, e1zz]; exact r_push e3zz hzz
      · have hzz := z_f hzz czz
        rw [ea] at d
        rcases hp pzz hp7 with ⟨-, g1, g2⟩ | ⟨gzz, -⟩
        · rcases hx with ⟨ew, eo⟩ | ⟨ew, eo⟩
          · have i2zz : wzz.toNatClampNeg = 5 + pzz := tnc_eq (by omega)
            have hzz := z_t hzz (Int32.toInt_inj.mp (eo.trans (by decide)))
            obtain ⟨-, hzz⟩ := z_gd hzz
            rw [j15zz, ← g1] at hzz
            rw [i2zz]; exact r_push e3zz hzz
          · have i2zz : wzz.toNatClampNeg = 12 + pzz := tnc_eq (by omega)
            have hzz := z_f hzz (fun czz => by have czz := cv_eq (a := op.toInt) (b := 6) rfl (by decide) czz; omega)
            obtain ⟨-, hzz⟩ := z_gd hzz
            rw [j8zz, ← g2] at hzz
            rw [i2zz]; exact r_push e3zz hzz
        · omega
set_option maxHeartbeats 200000 in
theorem r_end {o yzz : Ob} {Nzz : Nat} {v2 v3 v4zz : Int32} (h38 : gI o 38 = 1) (hzz : lp_X9_reckonAll_10 Nzz (v2, v3, v4zz, o) = some yzz) : gI yzz 38 = 1 := by
  cases Nzz with
  | zero => cases hzz
  | succ Nzz =>
    have hzz : lb_X9_reckonAll_10 (lp_X9_reckonAll_10 Nzz) v2 v3 v4zz o = some yzz := hzz
    unfold lb_X9_reckonAll_10 at hzz
    have h353 : bk_X9_reckonAll_353 v3 o = some yzz → gI yzz 38 = 1 := by
      intro hzz
      unfold bk_X9_reckonAll_353 at hzz
      by_cases czz : v3 ≤ (0 : Int32)
      · have hzz := z_t hzz czz
        unfold bk_X9_reckonAll_368 at hzz
        obtain ⟨o2, e2zz, hzz⟩ := z_lt hzz
        rw [← Option.some.inj hzz, e2zz]; exact h38
      · have hzz := z_f hzz czz
        unfold bk_X9_reckonAll_368 at hzz
        obtain ⟨o2, e2zz, hzz⟩ := z_lt hzz
        rw [← Option.some.inj hzz, e2zz]; exact h38
    by_cases czz : v2 ≤ v4zz
    · exact h353 (z_t hzz czz)
    · exact h353 (z_f (z_f hzz czz) (by rw [h38]; decide))
set_option maxHeartbeats 200000 in
theorem r_bin {Nzz : Nat} {v2 v3 v4zz op s0zz : Int32} {o yzz : Ob} {qzz : Nat} (e3zz : v3.toInt = (qzz : Int) + 2) (hq : qzz < 400) (h0 : 20 ≤ op.toInt) (h1 : op.toInt < 28) (hzz : bk_X9_reckonAll_95 (lp_X9_reckonAll_10 Nzz) v2 v3 v4zz op s0zz o = some yzz) : ∃ wzz, f_X9_reckon o op (gM o 37 qzz) (gM o 37 (qzz + 1)) = some wzz ∧ (∀ zzz, RK o wzz zzz → (zzz = -9000000000000000000 ∧ gI yzz 38 = 1) ∨ (zzz = wzz.1 ∧ (-1000000000 ≤ wzz.1.toInt ∧ wzz.1.toInt ≤ 1000000000) ∧ ∃ o', lp_X9_reckonAll_10 Nzz (v2, v3 + (-1), v4zz + 1, o') = some yzz ∧ SR o o' ∧ gI o' 38 = 0 ∧ ∀ jzz, gM o' 37 jzz = if jzz = qzz then wzz.1 else gM o 37 jzz)) := by
  unfold bk_X9_reckonAll_95 at hzz
  obtain ⟨x5zz, e5zz, hzz⟩ := z_lt hzz
  rw [e5zz] at hzz
  have hzz := z_t hzz (Int32.le_iff_toInt_le.mpr (by have czz : (20 : Int32).toInt = 20 := (by decide); omega))
  have hzz := z_f hzz (fun czz => by have czz := cv_le (a := 28) (b := op.toInt) (by decide) rfl czz; omega)
  obtain ⟨x11, e11zz, hzz⟩ := z_lt hzz
  obtain ⟨-, hzz⟩ := z_gd hzz
  obtain ⟨-, hzz⟩ := z_gd hzz
  have t11 : x11.toInt = (qzz : Int) + 2 + (-1) := by rw [e11zz]; exact i32_add e3zz (by decide) (by omega) (by omega)
  have t12 : (x11 - (1 : Int32)).toInt = x11.toInt - 1 := i32_sub rfl (by decide) (by omega) (by omega)
  have i11zz : x11.toNatClampNeg = qzz + 1 := tnc_eq (by omega)
  have i12zz : (x11 - (1 : Int32)).toNatClampNeg = qzz := tnc_eq (by omega)
  rw [i11zz, i12zz] at hzz
  obtain ⟨wzz, ew, hzz⟩ := z_bd hzz
  refine ⟨wzz, ew, fun zzz hz => ?_⟩
  obtain ⟨-, hzz⟩ := z_gd hzz
  obtain ⟨o16, e16zz, hzz⟩ := z_lt hzz
  have k38 : gI o16 38 = gI wzz.2 38 := by rw [e16zz]; rfl
  have s16 : ∀ izz, izz ≠ 38 → gI o16 izz = gI o izz := fun izz hizz => by rw [e16zz]; exact hz.1 izz hizz
  have a16 : o16.2.2.1 = o.2.2.1 := by rw [e16zz]; show wzz.2.2.2.1 = o.2.2.1; rw [hz.2.1]
  have m16 : ∀ izz, izz ≠ 37 → gM o16 izz = gM o izz := fun izz hizz => by
    rw [e16zz]
    have : gM (tM wzz.2 37 qzz wzz.1) izz = gM wzz.2 izz := fset_ne (f := fun izz => gM wzz.2 izz) hizz
    rw [this]; show wzz.2.2.2.2.1 izz = o.2.2.2.1 izz; rw [hz.2.1]
  have v16 : ∀ jzz, gM o16 37 jzz = if jzz = qzz then wzz.1 else gM o 37 jzz := fun jzz => by
    rw [e16zz, m37_at]; show (if jzz = qzz then wzz.1 else wzz.2.2.2.2.1 37 jzz) = _; rw [hz.2.1]
  have h277 : bk_X9_reckonAll_277 (lp_X9_reckonAll_10 Nzz) v2 x11 (v4zz + 1) o16 = some yzz → gI yzz 38 = 1 := by
    intro hzz
    unfold bk_X9_reckonAll_277 bk_X9_reckonAll_282 at hzz
    obtain ⟨-, hzz⟩ := z_gd hzz
    obtain ⟨o18, e18zz, hzz⟩ := z_lt hzz
    exact r_end (by rw [e18zz]; rfl) hzz
  rcases hz.2.2 with ⟨z1, z2⟩ | ⟨z1, z2, z3, z4⟩
  · refine Or.inl ⟨z1, ?_⟩
    rcases z2 with z2 | ⟨z2, z3⟩
    · exact h277 (z_f hzz (by rw [k38, z2]; decide))
    · obtain ⟨-, hzz⟩ := z_gd (z_t hzz (by rw [k38]; exact z2))
      obtain ⟨z20, ez20, hzz⟩ := z_bd hzz
      rw [v16 qzz, if_pos rfl] at ez20
      rcases in_iff _ _ _ _ ez20 with ⟨azz, bzz⟩ | ⟨azz, bzz, czz⟩
      · exact h277 (z_t hzz azz)
      · have c1zz : (-1000000000 : Int64).toInt = -1000000000 := by decide
        have c2zz : (1000000000 : Int64).toInt = 1000000000 := by decide
        exact absurd ⟨by omega, by omega⟩ z3
  · refine Or.inr ⟨z1, ⟨z3, z4⟩, ?_⟩
    obtain ⟨-, hzz⟩ := z_gd (z_t hzz (by rw [k38]; exact z2))
    obtain ⟨z20, ez20, hzz⟩ := z_bd hzz
    rw [v16 qzz, if_pos rfl] at ez20
    rcases in_iff _ _ _ _ ez20 with ⟨azz, bzz⟩ | ⟨azz, bzz, czz⟩
    · have c1zz : (-1000000000 : Int64).toInt = -1000000000 := by decide
      have c2zz : (1000000000 : Int64).toInt = 1000000000 := by decide
      exact absurd ⟨by omega, by omega⟩ bzz
    · have hzz := z_f hzz azz
      unfold bk_X9_reckonAll_282 at hzz
      obtain ⟨-, hzz⟩ := z_gd hzz
      obtain ⟨o18, e18zz, hzz⟩ := z_lt hzz
      rw [e11zz] at hzz
      refine ⟨o18, hzz, ⟨by rw [e18zz]; exact a16, fun izz hizz => ?_, fun izz hizz => by rw [e18zz]; exact m16 izz hizz⟩, by rw [e18zz]; rfl, fun jzz => by rw [e18zz]; exact v16 jzz⟩
      rw [e18zz]; exact (fset_ne hizz).trans (s16 izz hizz)
set_option maxHeartbeats 200000 in
theorem r_not {Nzz : Nat} {v2 v3 v4zz s0zz : Int32} {o yzz : Ob} {qzz : Nat} (e3zz : v3.toInt = (qzz : Int) + 1) (hq : qzz < 400) (hzz : bk_X9_reckonAll_95 (lp_X9_reckonAll_10 Nzz) v2 v3 v4zz 28 s0zz o = some yzz) : lp_X9_reckonAll_10 Nzz (v2, v3, v4zz + 1, tM o 37 qzz ((1 : Int64) - gM o 37 qzz)) = some yzz := by
  unfold bk_X9_reckonAll_95 at hzz
  obtain ⟨x5zz, e5zz, hzz⟩ := z_lt hzz
  rw [e5zz] at hzz
  have hzz := z_t (z_t (z_t hzz (by decide)) (by decide)) rfl
  obtain ⟨-, hzz⟩ := z_gd hzz
  obtain ⟨-, hzz⟩ := z_gd hzz
  obtain ⟨o10, e10zz, hzz⟩ := z_lt hzz
  have t : (v3 - (1 : Int32)).toInt = (qzz : Int) + 1 - 1 := i32_sub e3zz (by decide) (by omega) (by omega)
  have izz : (v3 - (1 : Int32)).toNatClampNeg = qzz := tnc_eq (by omega)
  rw [izz] at e10zz
  rw [e10zz] at hzz
  exact hzz
set_option maxHeartbeats 200000 in
theorem r_ao {Nzz : Nat} {v2 v3 v4zz op s0zz : Int32} {o yzz : Ob} {qzz : Nat} (e3zz : v3.toInt = (qzz : Int) + 1) (hq : qzz < 400) (ho : op = 29 ∨ op = 30) (hv : gM o 37 qzz = 0 ∨ gM o 37 qzz = 1) (hzz : bk_X9_reckonAll_95 (lp_X9_reckonAll_10 Nzz) v2 v3 v4zz op s0zz o = some yzz) :
    (((op = 29 ∧ gM o 37 qzz = 0) ∨ (op = 30 ∧ gM o 37 qzz = 1)) ∧ lp_X9_reckonAll_10 Nzz (v2, v3, s0zz, o) = some yzz) ∨ (((op = 29 ∧ gM o 37 qzz = 1) ∨ (op = 30 ∧ gM o 37 qzz = 0)) ∧ lp_X9_reckonAll_10 Nzz (v2, v3 + (-1), v4zz + 1, o) = some yzz) := by
  unfold bk_X9_reckonAll_95 at hzz
  obtain ⟨x5zz, e5zz, hzz⟩ := z_lt hzz
  rw [e5zz] at hzz
  have t : (v3 - (1 : Int32)).toInt = (qzz : Int) + 1 - 1 := i32_sub e3zz (by decide) (by omega) (by omega)
  have izz : (v3 - (1 : Int32)).toNatClampNeg = qzz := tnc_eq (by omega)
  rw [izz] at hzz
  have h336 : ∀ czz : Int64, bk_X9_reckonAll_336 (lp_X9_reckonAll_10 Nzz) v2 v3 (v4zz + 1) s0zz czz (gM o 37 qzz) o = some yzz → (gM o 37 qzz = czz ∧ lp_X9_reckonAll_10 Nzz (v2, v3, s0zz, o) = some yzz) ∨ (¬ gM o 37 qzz = czz ∧ lp_X9_reckonAll_10 Nzz (v2, v3 + (-1), v4zz + 1, o) = some yzz) := by
    intro czz hzz
    unfold bk_X9_reckonAll_336 at hzz
    by_cases gzz : lg_cmp (gM o 37 qzz) czz = 0
    · exact Or.inl ⟨Int64.toInt_inj.mp (cvl_eq rfl rfl gzz), z_t hzz gzz⟩
    · have hzz := z_f hzz gzz
      obtain ⟨x7, e7zz, hzz⟩ := z_lt hzz
      rw [e7zz] at hzz
      exact Or.inr ⟨fun ezz => cvl_ne rfl rfl gzz (by rw [ezz]), hzz⟩
  rcases ho with ezz | ezz
  · subst ezz
    have hzz := z_f (z_t (z_t hzz (by decide)) (by decide)) (by decide)
    obtain ⟨-, hzz⟩ := z_gd hzz
    rcases h336 0 (z_t hzz rfl) with ⟨azz, bzz⟩ | ⟨azz, bzz⟩
    · exact Or.inl ⟨Or.inl ⟨rfl, azz⟩, bzz⟩
    · rcases hv with hv | hv
      · exact absurd hv azz
      · exact Or.inr ⟨Or.inl ⟨rfl, hv⟩, bzz⟩
  · subst ezz
    have hzz := z_f (z_t (z_t hzz (by decide)) (by decide)) (by decide)
    obtain ⟨-, hzz⟩ := z_gd hzz
    rcases h336 1 (z_f hzz (by decide)) with ⟨azz, bzz⟩ | ⟨azz, bzz⟩
    · exact Or.inl ⟨Or.inr ⟨rfl, azz⟩, bzz⟩
    · rcases hv with hv | hv
      · exact Or.inr ⟨Or.inr ⟨rfl, hv⟩, bzz⟩
      · exact absurd hv azz
