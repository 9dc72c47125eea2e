-- one order, once
set_option maxHeartbeats 200000 in
theorem osum {o : Ob} {p0zz : Int32} {zzz : Int32 × Ob} {Pzz : Nat} (ep : p0zz.toInt = (Pzz : Int)) (hP : Pzz ≤ 94) (h59 : gI o 59 = 0) (hzz : f_X9_orderSum o p0zz = some zzz) : (gA o 55 Pzz = gA o 55 (Pzz + 1) ∧ zzz = (-1, o)) ∨ (¬ gA o 55 Pzz = gA o 55 (Pzz + 1) ∧ ∃ wzz, f_X9_reckonAll (sI o 20 1) (gA o 55 Pzz) (gA o 55 (Pzz + 1)) = some wzz ∧ zzz.2 = sI (sI wzz 20 0) 59 (gI wzz 38) ∧ zzz.1 = (gL wzz 39).toInt32) := by
  have i0zz : p0zz.toNatClampNeg = Pzz := tnc_eq ep
  have i1zz : (p0zz + (1 : Int32)).toNatClampNeg = Pzz + 1 := tnc_eq (by rw [i32_add ep (by decide : (1 : Int32).toInt = 1) (by omega) (by omega)]; omega)
  unfold f_X9_orderSum at hzz
  rw [i0zz, i1zz] at hzz
  have hzz := (z_gd (z_gd (z_t hzz h59)).2).2
  rcases z_if hzz with ⟨czz, hzz⟩ | ⟨czz, hzz⟩
  · exact Or.inl ⟨czz, (Option.some.inj hzz).symm⟩
  · obtain ⟨o3zz, e3zz, hzz⟩ := z_lt hzz
    have hzz := (z_gd (z_gd hzz).2).2
    obtain ⟨wzz, ew, hzz⟩ := z_bd hzz
    obtain ⟨o7, e7zz, hzz⟩ := z_lt hzz
    have hzz := (z_gd hzz).2
    obtain ⟨o9, e9zz, hzz⟩ := z_lt hzz
    have hzz := Option.some.inj hzz
    subst e3zz e7zz e9zz
    refine Or.inr ⟨czz, wzz, ew, ?_, ?_⟩
    · rw [← hzz]; rfl
    · rw [← hzz]; rfl
set_option maxHeartbeats 200000 in
theorem EWo.tr1 {mezz me' o o' : Ob} (hzz : EWo true mezz o) (e0zz : gA me' 0 = gA mezz 0) (e3zz : gA o' 3 = gA o 3) (e36 : gM o' 36 = gM o 36) (h20 : ¬ gI o' 20 = 0) : EWo true me' o' := by
  refine ⟨by rw [e3zz]; exact hzz.1, (fun qzz => by cases qzz), fun _ => ⟨h20, ?_, ?_⟩⟩
  · rw [e0zz, e36]; exact (hzz.2.2 rfl).2.1
  · rw [e0zz, e3zz]; exact (hzz.2.2 rfl).2.2
def RunR (pl : List CR) (isl o : Ob) (n : Nat) (yzz : Int32 × Ob × Ob × Ob × Ob × Ob) (y' : Int32 × Ob) : Prop := RwC n (gA o 3) (gA y'.2 3) ∧ (∀ jzz, 400 ≤ jzz → gA y'.2 6 jzz = gA o 6 jzz) ∧ ((yzz.1 = 0 ∧ y'.1 = -3) ∨ (yzz.1 = 1 ∧ y'.1 = 0 ∧ TzS pl isl yzz.2.2.2.1 yzz.2.2.2.2.2 y'.2 n ∧ gI yzz.2.1 15 = gI y'.2 56 ∧ gI yzz.2.1 16 = gI y'.2 57 ∧ (gI y'.2 56 = gI o 56 ∨ gI y'.2 56 = gI o 56 + 1)))
set_option maxHeartbeats 200000 in
theorem RunR.of {pl : List CR} {isl o o' : Ob} {n : Nat} {yzz : Int32 × Ob × Ob × Ob × Ob × Ob} {y' : Int32 × Ob} (hzz : RunR pl isl o' n yzz y') (e3zz : gA o' 3 = gA o 3) (e6zz : gA o' 6 = gA o 6) (e56 : gI o' 56 = gI o 56) : RunR pl isl o n yzz y' := by
  refine ⟨by rw [← e3zz]; exact hzz.1, fun jzz hj => by rw [← e6zz]; exact hzz.2.1 jzz hj, by rw [← e56]; exact hzz.2.2⟩
set_option maxHeartbeats 200000 in
theorem run_act {pl : List CR} {isl mv pa czz o8zz oc mezz o : Ob} {nc ns mzz n K1 K2 : Nat} {p1zz xzz : Int32} {yzz : Int32 × Ob × Ob × Ob × Ob × Ob} {y' : Int32 × Ob} (hSzz : TzS pl isl mv pa o n) (hdzz : gI o8zz 15 = gI o 56) (hl : gI o8zz 16 = gI o 57) (h59 : gI o 59 = 0) (hE : EWo true mezz (sI o 20 1)) (hK8 : (gI oc 8).toInt = (K1 : Int)) (hK1 : K1 ≤ 400) (hK2 : K2 ≤ 400) (hmzz : mzz < 12) (hczz : ClE true oc (gA o 55) (gA o 24) (gA o 25) mzz K1 K2) (ep : p1zz.toInt = (mzz : Int)) (exzz : xzz.toInt = 8 * (mzz : Int))
    (h1 : (zgd (zin p1zz nc) <| zgd (zin p1zz nc) <| (f_X3_worth_O nc ns mezz oc (gA oc 2 p1zz.toNatClampNeg) (gA oc 3 p1zz.toNatClampNeg)).bind fun z7 => if (lg_cmp z7.1 (-9000000000000000000 : Int64)) = (0 : Int32) then (some ((0 : Int32), o8zz, z7.2, mv, czz, pa)) else (zgd (zin p1zz nc) <| zlt (gA oc 0 p1zz.toNatClampNeg) fun x9 => (f_X1_moved_O czz isl mv z7.2 pl pa x9 z7.1.toInt32).bind fun z10 => if (0 : Int32) ≤ z10.1 then (zlt (sI o8zz 15 ((gI o8zz 15) + (1 : Int32))) fun o11 => if x9 = (0 : Int32) then (zlt (sI o11 16 z10.1) fun o12 => some ((1 : Int32), o12, z10.2.2.2.1, z10.2.2.1, z10.2.1, z10.2.2.2.2)) else (some ((1 : Int32), o11, z10.2.2.2.1, z10.2.2.1, z10.2.1, z10.2.2.2.2))) else (some ((0 : Int32), o8zz, z10.2.2.2.1, z10.2.2.1, z10.2.1, z10.2.2.2.2)))) = some yzz)
    (h2 : bk_X9_run_106 xzz o = some y') : RunR pl isl o n yzz y' := by
  have im : p1zz.toNatClampNeg = mzz := tnc_eq ep
  have ix : xzz.toNatClampNeg = 8 * mzz := tnc_eq (by rw [exzz]; omega)
  have tx1 : (xzz + (1 : Int32)).toInt = ((8 * mzz + 1 : Nat) : Int) := by rw [i32_add exzz (by decide : (1 : Int32).toInt = 1) (by omega) (by omega)]; omega
  rw [im] at h1
  unfold bk_X9_run_106 at h2
  rw [ix] at h2
  obtain ⟨z10r, e10r, h2⟩ := z_bd h2
  have fo := fr_f_X9_orderSum e10r
  have os := osum tx1 (by omega) h59 e10r
  have h1 := (z_gd (z_gd h1).2).2
  obtain ⟨z7, e7zz, h1⟩ := z_bd h1
  obtain ⟨a1zz, b1, c1zz, a2, b2, c2zz, d2zz, k0zz, kr, ea1, eb1, ec1, ea2, eb2, ec2, ed2, ⟨l1, l2, l3, l4, l5⟩, hsum, -, -⟩ := hczz
  have sf : sfo true = 1 := rfl
  rw [sf] at ea2 eb2
  have eb2' : (gA o 55 (8 * mzz + 2)).toInt = (b2 : Int) := eb2
  have G0zz : gA z10r.2 3 = gA o 3 := fo.A 3 rfl
  have G6 : gA z10r.2 6 = gA o 6 := fo.A 6 rfl
  have hS0 : gI z10r.2 59 = 0 → TzS pl isl mv pa z10r.2 n := fun _ => hSzz.sc G0zz (fo.I 8 rfl) G6 (fo.A 7 rfl) (by
    rcases os with ⟨-, qzz⟩ | ⟨-, wzz, -, qzz, -⟩
    · rw [qzz]
    · rw [qzz]; exact hSzz.2.2.2.2.1.symm)
  have e55 : gA z10r.2 55 (8 * mzz) = gA oc 0 mzz := by rw [fo.A 55 rfl]; exact k0zz.symm
  rw [e55] at h2
  -- the move
  have mvd : ∀ (z10 : Int32 × Ob × Ob × Ob × Ob) (w12 : Int32 × Ob), gI z10r.2 59 = 0 → MvE pl isl mv z10r.2 n z10.1 w12.1 z10.2.2.1 z10.2.2.2.2 w12.2 → FrX d_X9_act_me z10r.2 w12.2 → (if (0 : Int32) ≤ z10.1 then (zlt (sI o8zz 15 ((gI o8zz 15) + (1 : Int32))) fun o11 => if gA oc 0 mzz = (0 : Int32) then (zlt (sI o11 16 z10.1) fun o12 => some ((1 : Int32), o12, z10.2.2.2.1, z10.2.2.1, z10.2.1, z10.2.2.2.2)) else (some ((1 : Int32), o11, z10.2.2.2.1, z10.2.2.1, z10.2.1, z10.2.2.2.2))) else (some ((0 : Int32), o8zz, z10.2.2.2.1, z10.2.2.1, z10.2.1, z10.2.2.2.2))) = some yzz → (if (0 : Int32) ≤ w12.1 then (zgd (zin xzz 96) <| if (gA w12.2 55 (8 * mzz)) = (0 : Int32) then (bk_X9_run_161 w12.1 w12.2) else (bk_X9_run_161 (gI w12.2 57) w12.2)) else (some ((-3 : Int32), w12.2))) = some y' → RunR pl isl o n yzz y' := by
    intro z10 w12 q59 ⟨u1zz, u2zz, u3, u4zz, u5⟩ fa h1 h2
    rw [u1zz] at h1
    rw [G0zz] at u3
    have k56 : gI w12.2 56 = gI o 56 := (fa.I 56 rfl).trans (fo.I 56 rfl)
    have k57 : gI w12.2 57 = gI o 57 := (fa.I 57 rfl).trans (fo.I 57 rfl)
    have w55 : gA w12.2 55 (8 * mzz) = gA oc 0 mzz := by rw [fa.A 55 rfl]; exact e55
    by_cases c0zz : (0 : Int32) ≤ w12.1
    · have h1 := z_t h1 c0zz
      have h2 := (z_gd (z_t h2 c0zz)).2
      rw [w55] at h2
      obtain ⟨o11, g11, h1⟩ := z_lt h1
      have finzz : ∀ (s : Int32) (o12 : Ob), bk_X9_run_161 s w12.2 = some y' → yzz = ((1 : Int32), o12, z10.2.2.2.1, z10.2.2.1, z10.2.1, z10.2.2.2.2) → gI o12 15 = gI o8zz 15 + 1 → gI o12 16 = s → RunR pl isl o n yzz y' := by
        intro s o12 hbzz ey q15zz q16zz
        unfold bk_X9_run_161 at hbzz
        obtain ⟨o14, g14, hbzz⟩ := z_lt hbzz
        obtain ⟨o15, g15, hbzz⟩ := z_lt hbzz
        have hbzz := Option.some.inj hbzz
        rw [← hbzz, ey]
        refine ⟨?_, fun jzz hj => ?_, Or.inr ⟨rfl, rfl, u2zz.sc ?_ ?_ ?_ ?_ ?_, ?_, ?_, Or.inr ?_⟩⟩
        · rw [g15, g14]; exact u3
        · rw [g15, g14]
          show gA w12.2 6 jzz = _
          rw [u5 jzz hj, G6]
        · rw [g15, g14]; rfl
        · rw [g15, g14]; rfl
        · rw [g15, g14]; rfl
        · rw [g15, g14]; rfl
        · rw [g15, g14]; rfl
        · rw [g15, g14]
          show gI o12 15 = gI w12.2 56 + 1
          rw [q15zz, k56, hdzz]
        · rw [g15, g14]
          show gI o12 16 = s
          exact q16zz
        · rw [g15, g14]
          show gI w12.2 56 + 1 = gI o 56 + 1
          rw [k56]
      by_cases c1zz : gA oc 0 mzz = 0
      · obtain ⟨o12, g12, h1⟩ := z_lt (z_t h1 c1zz)
        have h1 := Option.some.inj h1
        exact finzz w12.1 o12 (z_t h2 c1zz) h1.symm (by rw [g12, g11]; rfl) (by rw [g12]; rfl)
      · have h1 := Option.some.inj (z_f h1 c1zz)
        exact finzz (gI w12.2 57) o11 (z_f h2 c1zz) h1.symm (by rw [g11]; rfl) (by rw [g11, k57]; exact hl)
    · have h1 := Option.some.inj (z_f h1 c0zz)
      have h2 := Option.some.inj (z_f h2 c0zz)
      rw [← h1, ← h2]
      exact ⟨u3, fun jzz hj => by rw [← G6]; exact u5 jzz hj, Or.inl ⟨rfl, rfl⟩⟩
  rcases hsum with ⟨s1zz, s2zz, s3zz⟩ | ⟨s1zz, sn, hn, hb2, hx⟩
  · -- a year
    have uzz := worth_nil e7zz (by omega)
    have h1 := z_f h1 (fun qzz => by have qzz := (lg_cmp_eq _ _).mp qzz; have q' : (1 : Int64) = -9000000000000000000 := (by rw [uzz] at qzz; exact qzz); exact absurd q' (by decide))
    have h1 := (z_gd h1).2
    obtain ⟨x9, g9, h1⟩ := z_lt h1
    obtain ⟨z10, e10zz, h1⟩ := z_bd h1
    have q0 : z10r = (-1, o) := by
      rcases os with ⟨-, qzz⟩ | ⟨qzz, -⟩
      · exact qzz
      · exact absurd (Int32.toInt_inj.mp (by rw [ea2, eb2']; omega)) qzz
    have q59 : gI z10r.2 59 = 0 := by rw [q0]; exact h59
    have h2 := (z_gd (z_t h2 q59)).2
    obtain ⟨w12, e12zz, h2⟩ := z_bd h2
    have fa := fr_f_X9_act e12zz
    rw [s1zz] at e12zz
    rw [g9, s1zz] at e10zz
    unfold f_X9_act at e12zz
    obtain ⟨w5, e5zz, e12zz⟩ := z_bd (z_f (z_f (z_f e12zz (by decide)) (by decide)) (by decide))
    have e12zz := Option.some.inj e12zz
    have mm := pass_move (hS0 q59) e10zz e5zz
    rw [g9] at h1
    exact mvd z10 w12 q59 (by rw [← e12zz]; exact mm) fa h1 h2
  · rcases os with ⟨qzz, -⟩ | ⟨-, wzz, ew, ez2, ez1⟩
    · have ezz := congrArg Int32.toInt qzz
      rw [ea2, eb2'] at ezz
      have := hx.lt
      omega
    · have hR : RD (gA o 24) (gA o 25) (sI o 20 1) := Or.inr ⟨by show ¬ (1 : Int32) = 0; decide, fun kzz => ⟨rfl, rfl⟩⟩
      have k59 : gI z10r.2 59 = gI wzz 38 := by rw [ez2]; rfl
      rcases ev_all hx hn (by omega) (by omega) (by omega) ea1 eb1 ea2 eb2' hE hR e7zz ew with ⟨v1zz, v2⟩ | ⟨v1zz, v2, -, -⟩
      · have h1 := Option.some.inj (z_t h1 ((lg_cmp_eq _ _).mpr v1zz))
        have h2 := Option.some.inj (z_f h2 (by rw [k59, v2]; decide))
        rw [← h1, ← h2]
        exact ⟨by rw [G0zz]; exact RwC.rf, fun jzz _ => by rw [G6], Or.inl ⟨rfl, rfl⟩⟩
      · have q59 : gI z10r.2 59 = 0 := by rw [k59]; exact v1zz
        have nb : ¬ z7.1 = -9000000000000000000 := by
          intro qzz
          rcases ev_all hx hn (by omega) (by omega) (by omega) ea1 eb1 ea2 eb2' hE hR e7zz ew with ⟨_, vzz⟩ | ⟨_, _, vzz, _⟩
          · rw [v1zz] at vzz; exact absurd vzz (by decide)
          · rw [qzz] at vzz; exact absurd vzz (by decide)
        have h1 := (z_gd (z_f h1 (fun qzz => nb ((lg_cmp_eq _ _).mp qzz)))).2
        obtain ⟨x9, g9, h1⟩ := z_lt h1
        obtain ⟨z10, e10zz, h1⟩ := z_bd h1
        have h2 := (z_gd (z_t h2 q59)).2
        obtain ⟨w12, e12zz, h2⟩ := z_bd h2
        have fa := fr_f_X9_act e12zz
        rw [g9] at e10zz h1
        rw [ez1, ← v2] at e12zz
        have hKzz : gA oc 0 mzz = 0 ∨ gA oc 0 mzz = 1 ∨ gA oc 0 mzz = 2 ∨ gA oc 0 mzz = 3 := by
          rcases i32_cases8 kr.1 (by omega) with qzz | qzz | qzz | qzz | qzz | qzz | qzz | qzz
          · exact Or.inl qzz
          · exact Or.inr (Or.inl qzz)
          · exact Or.inr (Or.inr (Or.inl qzz))
          · exact Or.inr (Or.inr (Or.inr qzz))
          all_goals (rw [qzz] at kr; exact absurd kr.2 (by decide))
        exact mvd z10 w12 q59 (act_move (hS0 q59) hKzz e10zz e12zz) fa h1 h2
set_option maxHeartbeats 200000 in
theorem run_eq {pl : List CR} {isl mv pa czz o8zz oc mezz o : Ob} {nc ns mzz n K1 K2 : Nat} {p1zz xzz : Int32} {yzz : Int32 × Ob × Ob × Ob × Ob × Ob} {y' : Int32 × Ob} (hSzz : TzS pl isl mv pa o n) (hdzz : gI o8zz 15 = gI o 56) (hl : gI o8zz 16 = gI o 57) (hK8 : (gI oc 8).toInt = (K1 : Int)) (hK1 : K1 ≤ 400) (hK2 : K2 ≤ 400) (hmzz : mzz < 12) (hczz : ClE true oc (gA o 55) (gA o 24) (gA o 25) mzz K1 K2) (ep : p1zz.toInt = (mzz : Int)) (exzz : xzz.toInt = 8 * (mzz : Int)) (h1 : f_X8_obey_O nc ns o8zz mezz isl mv czz pa pl oc p1zz = some yzz) (h2 : f_X9_run o xzz = some y') : RunR pl isl o n yzz y' := by
  obtain ⟨hI, hMzz, hP, hL, h20, en, hZ⟩ := id hSzz
  have n1zz : (1 : Int32).toNatClampNeg = 1 := by decide
  have n2zz : (2 : Int32).toNatClampNeg = 2 := by decide
  have n3zz : (3 : Int32).toNatClampNeg = 3 := by decide
  have n4zz : (4 : Int32).toNatClampNeg = 4 := by decide
  have n5zz : (5 : Int32).toNatClampNeg = 5 := by decide
  have n7 : (7 : Int32).toNatClampNeg = 7 := by decide
  have im : p1zz.toNatClampNeg = mzz := tnc_eq ep
  have t5zz : (xzz + (5 : Int32)).toInt = ((8 * mzz + 5 : Nat) : Int) := by rw [i32_add exzz (by decide : (5 : Int32).toInt = 5) (by omega) (by omega)]; omega
  have i5zz : (xzz + (5 : Int32)).toNatClampNeg = 8 * mzz + 5 := tnc_eq t5zz
  have i6zz : (xzz + (6 : Int32)).toNatClampNeg = 8 * mzz + 6 := tnc_eq (by rw [i32_add exzz (by decide : (6 : Int32).toInt = 6) (by omega) (by omega)]; omega)
  unfold f_X8_obey_O at h1
  obtain ⟨z1, e1zz, h1⟩ := z_bd h1
  have h1 := (z_gd (z_gd h1).2).2
  obtain ⟨z4, e4zz, h1⟩ := z_bd h1
  rw [im] at e4zz
  unfold f_X9_run at h2
  rw [n1zz, n2zz, n3zz, n4zz, n5zz, n7, i5zz, i6zz] at h2
  obtain ⟨o1, g1, h2⟩ := z_lt h2
  obtain ⟨o2, g2, h2⟩ := z_lt h2
  obtain ⟨o3zz, g3zz, h2⟩ := z_lt h2
  obtain ⟨o4zz, g4, h2⟩ := z_lt h2
  obtain ⟨w5, e5zz, h2⟩ := z_bd h2
  obtain ⟨o6, g6, h2⟩ := z_lt h2
  obtain ⟨o7, g7, h2⟩ := z_lt h2
  have h2 := (z_gd (z_gd h2).2).2
  have A : ∀ izz, gA o7 izz = gA o izz := fun izz => by rw [g7, g6, g4, g3zz, g2, g1]; rfl
  have I : ∀ izz, izz ≠ 59 → gI o7 izz = gI o izz := fun izz hizz => by rw [g7, g6, g4, g3zz, g2, g1]; exact fset_ne hizz
  have k59 : gI o7 59 = 0 := by rw [g7]; rfl
  have A4 : gA o4zz 3 = gA o 3 := by rw [g4, g3zz, g2, g1]; rfl
  have hE : EWo true z1 (sI o7 20 1) := by
    refine oWords (o := o4zz) (n := n) (w5 := w5) (by rw [A4]; exact hI) (by rw [A4]; exact hMzz) (by rw [A4]; exact en) (by rw [A4]; exact hZ) e1zz e5zz ?_ ?_ ?_ ?_ ?_ ?_ ?_
    · rw [A4]; exact A 3
    · rw [A4, g7, g6, g4, g3zz, g2, g1]; rfl
    · rw [hdzz, g7, g6, g4, g3zz, g2, g1]; rfl
    · rw [hl, g7, g6, g4, g3zz, g2, g1]; rfl
    · rw [A4, g7, g6, g4, g3zz, g2, g1]; rfl
    · rw [g7, g6]; rfl
    · show ¬ (1 : Int32) = 0; decide
  have hS7 : TzS pl isl mv pa o7 n := hSzz.sc (A 3) (I 8 (by decide)) (A 6) (A 7) (I 20 (by decide))
  have hd7 : gI o8zz 15 = gI o7 56 := hdzz.trans (I 56 (by decide)).symm
  have hl7 : gI o8zz 16 = gI o7 57 := hl.trans (I 57 (by decide)).symm
  have hc7 : ClE true oc (gA o7 55) (gA o7 24) (gA o7 25) mzz K1 K2 := by rw [A, A, A]; exact hczz
  rw [A 55] at h2
  refine RunR.of (o' := o7) ?_ (A 3) (A 6) (I 56 (by decide))
  obtain ⟨a1zz, b1, c1zz, a2, b2, c2zz, d2zz, k0zz, kr, ea1, eb1, ec1, ea2, eb2, ec2, ed2, ⟨l1, l2, l3, l4, l5⟩, hsum, htst, -⟩ := id hczz
  rcases z_if h2 with ⟨qzz, h2⟩ | ⟨qzz, h2⟩
  · -- no test
    have qzz := cv_le (a := (d2zz : Int)) (b := (c2zz : Int)) ed2 ec2 qzz
    rcases htst with ⟨t1zz, t2zz⟩ | ⟨tnzz, hn, hx⟩
    · have uzz := worth_nil e4zz (by omega)
      have h1 := z_t h1 ((lg_cmp_eq _ _).mpr (by rw [uzz]))
      have hE4 : EWo true z4.2 (sI o7 20 1) := by rw [uzz]; exact hE
      exact run_act hS7 hd7 hl7 k59 hE4 hK8 hK1 hK2 hmzz hc7 ep exzz h1 h2
    · have := hx.lt; omega
  · have qzz := cv_nle (a := (d2zz : Int)) (b := (c2zz : Int)) ed2 ec2 qzz
    rcases htst with ⟨t1zz, t2zz⟩ | ⟨tnzz, hn, hx⟩
    · omega
    · obtain ⟨z16, e16zz, h2⟩ := z_bd h2
      have fo := fr_f_X9_orderSum e16zz
      have G16 : gA z16.2 3 = gA o7 3 := fo.A 3 rfl
      have G166 : gA z16.2 6 = gA o7 6 := fo.A 6 rfl
      rcases osum t5zz (by omega) k59 e16zz with ⟨qq, -⟩ | ⟨-, wzz, ew, ez2, ez1⟩
      · rw [A 55] at qq
        have ezz := congrArg Int32.toInt qq
        have ed2' : (gA o 55 (8 * mzz + 5 + 1)).toInt = (d2zz : Int) := ed2
        rw [ec2, ed2'] at ezz
        omega
      · have hR : RD (gA o 24) (gA o 25) (sI o7 20 1) := Or.inr ⟨by show ¬ (1 : Int32) = 0; decide, fun kzz => ⟨congrFun (A 24).symm kzz, congrFun (A 25).symm kzz⟩⟩
        have f1zz : (gA o7 55 (8 * mzz + 5)).toInt = (c2zz : Int) := by rw [A]; exact ec2
        have f2zz : (gA o7 55 (8 * mzz + 5 + 1)).toInt = (d2zz : Int) := by rw [A]; exact ed2
        have q59 : gI z16.2 59 = gI wzz 38 := by rw [ez2]; rfl
        rcases ev_all hx hn (by omega) (by omega) (by omega) eb1 ec1 f1zz f2zz hE hR e4zz ew with ⟨v1zz, v2⟩ | ⟨v1zz, v2, v3, v4zz⟩
        · have h1 := Option.some.inj (z_f h1 (fun zzz => by have zzz := (lg_cmp_eq _ _).mp zzz; rw [v1zz] at zzz; exact absurd zzz (by decide)))
          have h2 := Option.some.inj (z_f h2 (by rw [q59, v2]; decide))
          rw [← h1, ← h2]
          exact ⟨by rw [G16]; exact RwC.rf, fun jzz _ => by rw [G166], Or.inr ⟨rfl, rfl, hS7.sc G16 (fo.I 8 rfl) G166 (fo.A 7 rfl) (by rw [ez2]; exact hS7.2.2.2.2.1.symm), hd7.trans (fo.I 56 rfl).symm, hl7.trans (fo.I 57 rfl).symm, Or.inl (fo.I 56 rfl)⟩⟩
        · have q59' : gI z16.2 59 = 0 := by rw [q59]; exact v1zz
          have h2 := z_t h2 q59'
          rw [ez1, ← v2] at h2
          rcases v4zz rfl with uzz | uzz
          · have h1 := Option.some.inj (z_f h1 (fun zzz => by have zzz := (lg_cmp_eq _ _).mp zzz; rw [uzz] at zzz; exact absurd zzz (by decide)))
            have h2 := Option.some.inj (z_t h2 (by rw [uzz]; decide))
            rw [← h1, ← h2]
            exact ⟨by rw [G16]; exact RwC.rf, fun jzz _ => by rw [G166], Or.inr ⟨rfl, rfl, hS7.sc G16 (fo.I 8 rfl) G166 (fo.A 7 rfl) (by rw [ez2]; exact hS7.2.2.2.2.1.symm), hd7.trans (fo.I 56 rfl).symm, hl7.trans (fo.I 57 rfl).symm, Or.inl (fo.I 56 rfl)⟩⟩
          · have h1 := z_t h1 ((lg_cmp_eq _ _).mpr uzz)
            have h2 := z_f h2 (by rw [uzz]; decide)
            have hS16 : TzS pl isl mv pa z16.2 n := hS7.sc G16 (fo.I 8 rfl) G166 (fo.A 7 rfl) (by rw [ez2]; exact hS7.2.2.2.2.1.symm)
            have hE16 : EWo true z4.2 (sI z16.2 20 1) := hE.tr1 ((fr_f_X3_worth_O e4zz).A 0 rfl) G16 (fo.M 36 rfl) (by show ¬ (1 : Int32) = 0; decide)
            have hc16 : ClE true oc (gA z16.2 55) (gA z16.2 24) (gA z16.2 25) mzz K1 K2 := by rw [fo.A 55 rfl, fo.A 24 rfl, fo.A 25 rfl]; exact hc7
            exact RunR.of (run_act hS16 (hd7.trans (fo.I 56 rfl).symm) (hl7.trans (fo.I 57 rfl).symm) q59' hE16 hK8 hK1 hK2 hmzz hc16 ep exzz h1 h2) G16 G166 (fo.I 56 rfl)
