-- calls that change the isles
def dIs : DD := ([0, 1, 8], [], [2, 3], [], [])
set_option maxHeartbeats 200000 in
theorem TF.isl {pl : List CR} {o0zz o1 o4zz o5zz o8zz o6 o11 o9 o0' o4' o5' o11' o9' : Ob} {im0 im1 : Option IR} (hzz : TF pl o0zz o1 o4zz o5zz o8zz o6 o11 o9 im0 im1) (fzz : FrX dIs o9 o9') (hTzz : Tia pl o4' o5' (gA o9' 3)) (hP : PaT o11' o9' (gA o9' 3 0).toInt.toNat (gA o9' 3)) (hst : StT o0' o9') (e13zz : gI o0' 13 = gI o0zz 13) (e14zz : gI o0' 14 = gI o0zz 14) (eR : gR o0' 7 = gR o0zz 7) : TF pl o0' o1 o4' o5' o8zz o6 o11' o9' im0 im1 := by
  obtain ⟨⟨h1, h2⟩, h3, ⟨h4, h4'⟩, h5, h6, h7, h8, h9, h10⟩ := hzz
  exact ⟨⟨by rw [fzz.I 13 rfl]; exact h1, by rw [fzz.A 12 rfl]; exact h2⟩, by rw [fzz.I 11 rfl, e13zz]; exact h3, ⟨h4.eq (fzz.M 31 rfl) (fzz.M 32 rfl), h4'.eq2 (fzz.M 33 rfl) (fzz.M 54 rfl)⟩, hst, by rw [e14zz, fzz.I 58 rfl]; exact h6, h7.eq (fzz.I 62 rfl) (fzz.A 61 rfl), hTzz, hP, h10.eq eR (fzz.A 5 rfl) (fzz.A 4 rfl)⟩
set_option maxHeartbeats 200000 in
/-- refused, and nothing else -/
theorem TF.no {pl : List CR} {o0zz o1 o4zz o5zz o8zz o6 o11 o9 : Ob} {im0 im1 : Option IR} {vzz : Int32} {zzz wzz : Int32 × Ob} (hzz : TF pl o0zz o1 o4zz o5zz o8zz o6 o11 o9 im0 im1) (hv : vzz = -1 ∨ vzz = -2 ∨ vzz = -3 ∨ vzz = -5 ∨ vzz = -6) (k1zz : f_X8_refuse o0zz vzz = some zzz) (k2zz : f_X9_tell o9 vzz = some wzz) : zzz.1 = wzz.1 ∧ TF pl zzz.2 o1 o4zz o5zz o8zz o6 o11 wzz.2 im0 im1 := by
  obtain ⟨s1zz, s2zz, s3zz⟩ := st_refuse hzz.2.2.2.1 hv k1zz k2zz
  have fa := fr_f_X8_refuse k1zz
  have ft := fr_f_X9_tell k2zz
  have e3zz : gA wzz.2 3 = gA o9 3 := ft.A 3 rfl
  refine ⟨s1zz.trans s2zz.symm, hzz.isl (ft.mono rfl) (by rw [e3zz]; exact hzz.2.2.2.2.2.2.1) ?_ s3zz (fa.I 13 rfl) (fa.I 14 rfl) (fa.R 7 rfl)⟩
  rw [e3zz]
  exact hzz.2.2.2.2.2.2.2.1.eq (ft.I 8 rfl) (ft.A 6 rfl) (ft.A 7 rfl)
set_option maxHeartbeats 200000 in
/-- granted, and nothing else -/
theorem TF.yes {pl : List CR} {o0zz o1 o4zz o5zz o8zz o6 o11 o9 : Ob} {im0 im1 : Option IR} {vzz : Int32} {zzz wzz : Int32 × Ob} (hzz : TF pl o0zz o1 o4zz o5zz o8zz o6 o11 o9 im0 im1) (hv : 0 ≤ vzz.toInt) (k1zz : f_X8_grant o0zz vzz = some zzz) (k2zz : f_X9_tell o9 vzz = some wzz) : zzz.1 = wzz.1 ∧ TF pl zzz.2 o1 o4zz o5zz o8zz o6 o11 wzz.2 im0 im1 := by
  obtain ⟨s1zz, s2zz, s3zz⟩ := st_grant hzz.2.2.2.1 hv k1zz k2zz
  have fa := fr_f_X8_grant k1zz
  have ft := fr_f_X9_tell k2zz
  have e3zz : gA wzz.2 3 = gA o9 3 := ft.A 3 rfl
  refine ⟨s1zz.trans s2zz.symm, hzz.isl (ft.mono rfl) (by rw [e3zz]; exact hzz.2.2.2.2.2.2.1) ?_ s3zz (fa.I 13 rfl) (fa.I 14 rfl) (fa.R 7 rfl)⟩
  rw [e3zz]
  exact hzz.2.2.2.2.2.2.2.1.eq (ft.I 8 rfl) (ft.A 6 rfl) (ft.A 7 rfl)
set_option maxHeartbeats 200000 in
theorem chg {o : Ob} {pzz vzz : Int32} {wzz : Int32 × Ob} {kzz : Nat} (ek : pzz.toInt = (kzz : Int)) (hzz : f_X9_change o pzz vzz = some wzz) : wzz.1 = gA o 3 kzz ∧ wzz.2 = sI (tA o 3 kzz vzz) 1 0 := by
  have ip : pzz.toNatClampNeg = kzz := tnc_eq ek
  unfold f_X9_change at hzz
  rw [ip] at hzz
  have hzz := (z_gd hzz).2
  obtain ⟨x2zz, g2, hzz⟩ := z_lt hzz
  have hzz := (z_gd hzz).2
  obtain ⟨o4zz, g4, hzz⟩ := z_lt hzz
  obtain ⟨o5zz, g5zz, hzz⟩ := z_lt hzz
  have hzz := Option.some.inj hzz
  rw [← hzz]
  exact ⟨g2, by show o5zz = _; rw [g5zz, g4]⟩
set_option maxHeartbeats 200000 in
theorem grant_d {o : Ob} {vzz : Int32} {zzz : Int32 × Ob} (hzz : f_X8_grant o vzz = some zzz) : zzz = (vzz, sI o 12 0) := by
  unfold f_X8_grant at hzz
  obtain ⟨o1, g1, hzz⟩ := z_lt hzz
  rw [← Option.some.inj hzz, g1]
set_option maxHeartbeats 200000 in
/-- a cell changed by the reference, a grant of the class -/
theorem StT.chg {o0zz o9 : Ob} {kzz : Nat} {vzz : Int32} (hzz : StT o0zz o9) : StT (sI o0zz 12 0) (sI (tA o9 3 kzz vzz) 1 0) := ⟨rfl, hzz.2⟩
set_option maxHeartbeats 200000 in
theorem tf_force {pl : List CR} {o0zz o1 o4zz o5zz o8zz o6 o11 o9 : Ob} {im0 im1 : Option IR} {pzz : Int32} {yzz : Int32 × Ob × Ob} {y' : Int32 × Ob} (ht : TF pl o0zz o1 o4zz o5zz o8zz o6 o11 o9 im0 im1) (h1 : f_X8_force o0zz o4zz pzz = some yzz) (h2 : f_X9_force o9 pzz = some y') : yzz.1 = y'.1 ∧ TF pl yzz.2.1 o1 yzz.2.2 o5zz o8zz o6 o11 y'.2 im0 im1 := by
  unfold f_X8_force at h1
  unfold f_X9_force at h2
  obtain ⟨q1zz, g1, h2⟩ := z_lt h2
  have ht1 : TF pl o0zz o1 o4zz o5zz o8zz o6 o11 q1zz im0 im1 := by rw [g1]; exact ht.sI0
  obtain ⟨w2zz, l2, h2⟩ := z_bd h2
  have hI := ht1.2.2.2.2.2.2.1.2.1
  have n2zz : (2 : Int32).toNatClampNeg = 2 := by decide
  unfold f_X9_isLaw at l2
  rw [n2zz] at l2
  -- it may be
  have yes : (pzz = -1 ∨ (0 ≤ pzz.toInt ∧ pzz.toInt < (gA q1zz 3 2).toInt)) → ¬ w2zz = 0 → bk_X8_force_23 pzz o0zz o4zz = some yzz → yzz.1 = y'.1 ∧ TF pl yzz.2.1 o1 yzz.2.2 o5zz o8zz o6 o11 y'.2 im0 im1 := by
    intro hp hw h1
    obtain ⟨w4zz, l4, h2⟩ := z_bd (z_f h2 hw)
    have h2 := Option.some.inj h2
    obtain ⟨c1zz, c2zz⟩ := chg (kzz := 3) (by decide) l4
    unfold bk_X8_force_23 at h1
    obtain ⟨x1zz, qzz, h1⟩ := z_lt h1
    obtain ⟨q2zz, g2, h1⟩ := z_lt h1
    obtain ⟨z3, k3zz, h1⟩ := z_bd h1
    have h1 := Option.some.inj h1
    have ez := grant_d k3zz
    rw [← h1, ← h2, ez, g2]
    have eG : gA w4zz.2 3 = upd (gA q1zz 3) 3 pzz := by rw [c2zz]; rfl
    refine ⟨by show x1zz = w4zz.1; rw [qzz, c1zz]; exact hI.2.2.1.1, ?_⟩
    refine ht1.isl (by rw [c2zz]; exact FrX.sI (FrX.tA FrX.rf rfl) rfl) ?_ ?_ (by rw [c2zz]; exact ht1.2.2.2.1.chg) rfl rfl rfl
    · show Tia pl (sI o4zz 10 pzz) o5zz (gA w4zz.2 3)
      rw [eG]
      obtain ⟨t1zz, t2zz, t3zz, t4zz⟩ := ht1.2.2.2.2.2.2.1
      refine ⟨t1zz.eq rfl rfl rfl rfl rfl (fun jzz hj => by rw [updA, if_neg (by omega)]), ?_, t3zz.ext (fun _ _ => rfl) (fun _ _ => rfl) rfl rfl rfl (fun jzz j1 j2zz => by rw [updA, if_neg (by omega)]), fun jzz hj => ?_⟩
      · obtain ⟨u1zz, u2zz, u3, u4zz, u5, u6⟩ := t2zz
        have e0zz : upd (gA q1zz 3) 3 pzz 0 = gA q1zz 3 0 := by rw [updA, if_neg (by omega)]
        have e2zz : upd (gA q1zz 3) 3 pzz 2 = gA q1zz 3 2 := by rw [updA, if_neg (by omega)]
        have e5zz : upd (gA q1zz 3) 3 pzz 5 = gA q1zz 3 5 := by rw [updA, if_neg (by omega)]
        have e6zz : upd (gA q1zz 3) 3 pzz 6 = gA q1zz 3 6 := by rw [updA, if_neg (by omega)]
        have e3zz : upd (gA q1zz 3) 3 pzz 3 = pzz := by rw [updA, if_pos rfl]
        refine ⟨⟨by rw [e0zz]; exact u1zz.1, fun jzz hj => by rw [updA, if_neg (by omega)]; exact u1zz.2.1 jzz hj, by rw [e6zz]; exact u1zz.2.2⟩, by rw [e2zz]; exact u2zz, ⟨by rw [e3zz]; rfl, ?_, ?_⟩, by rw [e5zz]; exact u4zz, fun jzz hj => by rw [updA, if_neg (by omega), updA, if_neg (by omega)]; exact u5 jzz hj, fun l hl => ?_⟩
        · rw [e3zz]
          rcases hp with hp | hp
          · rw [hp]; decide
          · omega
        · rw [e3zz, e2zz]
          rcases hp with hp | hp
          · rw [hp, (by decide : (-1 : Int32).toInt = -1)]; have := u2zz.2.1; omega
          · exact hp.2
        · rw [e2zz] at hl
          obtain ⟨azz, cc, r1zz, r2, r3⟩ := u6 l hl
          exact ⟨azz, cc, r1zz, r2, r3.eq (fun jzz hj => by rw [updA, if_neg (by omega)])⟩
      · have g0 := t2zz.1.1.2.1
        rw [updA, if_neg (by omega)] at hj
        rw [updA, if_neg (by omega)]
        exact t4zz jzz hj
    · rw [eG]
      have e0zz : upd (gA q1zz 3) 3 pzz 0 = gA q1zz 3 0 := by rw [updA, if_neg (by omega)]
      rw [e0zz]
      have hp := ht1.2.2.2.2.2.2.2.1
      have wzz : PaT o11 w4zz.2 (gA q1zz 3 0).toInt.toNat (gA q1zz 3) := hp.eq (by rw [c2zz]; rfl) (by rw [c2zz]; rfl) (by rw [c2zz]; rfl)
      obtain ⟨v0zz, sz, fi, v1zz, v2, v3, v4zz, v5⟩ := wzz
      exact ⟨v0zz, sz, fi, v1zz, v2, v3, v4zz, fun izz hizz => (v5 izz hizz).mv rfl (fun _ _ => rfl) rfl (fun _ _ => rfl) (fun jzz hj => by rw [updA, if_neg (by omega)])⟩
  by_cases c0zz : pzz = -1
  · have l2 := z_t l2 c0zz
    unfold bk_X9_isLaw_23 at l2
    have l2 := Option.some.inj l2
    exact yes (Or.inl c0zz) (by rw [← l2]; decide) (z_t h1 c0zz)
  · have l2 := z_f l2 c0zz
    have h1 := z_f h1 c0zz
    obtain ⟨w1zz, l1, l2⟩ := z_bd l2
    obtain ⟨z4, k4zz, h1⟩ := z_bd h1
    have r2 := hI.2.1
    have e64 : ((gA q1zz 3 2).toInt64 - (1 : Int64)).toInt = (gA q1zz 3 2).toInt - 1 := i64_sub (Int32.toInt_toInt64 _) (by decide) (by omega) (by omega)
    have i9zz := in9 (m := 0) (by decide) e64 l1
    have i8zz := rg8 (n := (gA q1zz 3 2).toInt) (by rw [r2.1]) (show (if pzz < (0 : Int32) then some (0 : Int32) else (if gI o4zz 9 ≤ pzz then some (0 : Int32) else some (1 : Int32))) = some z4 from k4zz)
    rcases i9zz with ⟨a1zz, a2⟩ | ⟨a1zz, a2⟩
    · have l2 := Option.some.inj (z_t l2 a1zz)
      have z40 : z4 = 0 := by
        rcases i8zz with ⟨uzz, -⟩ | ⟨-, uzz⟩
        · exact uzz
        · omega
      obtain ⟨z5, k5zz, h1⟩ := z_bd (z_t h1 z40)
      have h1 := Option.some.inj h1
      obtain ⟨w3zz, l3, h2⟩ := z_bd (z_t h2 l2.symm)
      have h2 := Option.some.inj h2
      rw [← h1, ← h2]
      exact ht1.no (Or.inr (Or.inl rfl)) k5zz l3
    · have l2 := z_f l2 a1zz
      unfold bk_X9_isLaw_23 at l2
      have l2 := Option.some.inj l2
      have z40 : ¬ z4 = 0 := by
        rcases i8zz with ⟨-, uzz⟩ | ⟨uzz, -⟩
        · omega
        · exact uzz
      exact yes (Or.inr ⟨a2.1, by omega⟩) (by rw [← l2]; decide) (z_f h1 z40)
set_option maxHeartbeats 200000 in
theorem tf_forget {pl : List CR} {o0zz o1 o4zz o5zz o8zz o6 o11 o9 : Ob} {im0 im1 : Option IR} {yzz : Int32 × Ob} {y' : Int32 × Ob} (ht : TF pl o0zz o1 o4zz o5zz o8zz o6 o11 o9 im0 im1) (h1 : f_X8_forget o0zz o4zz = some yzz) (h2 : f_X9_forget o9 = some y') : yzz.1 = y'.1 ∧ TF pl o0zz o1 yzz.2 o5zz o8zz o6 o11 y'.2 im0 im1 := by
  obtain ⟨a1zz, a2⟩ := t_forget ht.2.2.2.2.2.2.1.1 h1 h2
  obtain ⟨c1zz, c2zz⟩ := forget8 h1
  have n1zz : (1 : Int32).toNatClampNeg = 1 := by decide
  unfold f_X9_forget at h2
  rw [n1zz] at h2
  obtain ⟨q1zz, g1, h2⟩ := z_lt h2
  obtain ⟨x2zz, g2, h2⟩ := z_lt h2
  obtain ⟨q3zz, g3zz, h2⟩ := z_lt h2
  have h2 := Option.some.inj h2
  have eG : gA y'.2 3 = upd (gA o9 3) 1 0 := by rw [← h2, g3zz, g1]; rfl
  have Fzz : FrX dIs o9 y'.2 := by rw [← h2, g3zz, g1]; exact FrX.tA (FrX.sI FrX.rf rfl) rfl
  refine ⟨a1zz, ?_⟩
  obtain ⟨t1zz, t2zz, t3zz, t4zz⟩ := ht.2.2.2.2.2.2.1
  refine ht.isl Fzz ⟨a2, ?_, ?_, fun jzz hj => ?_⟩ ?_ (ht.2.2.2.1.eq rfl rfl (by rw [← h2, g3zz, g1]; rfl) (by rw [← h2, g3zz, g1]; rfl)) rfl rfl rfl
  · rw [c2zz, eG]
    exact t2zz.ext rfl rfl rfl rfl rfl (fun _ _ => rfl) (fun _ _ => rfl) (fun _ _ => rfl) (fun _ _ => rfl) (fun jzz hj => by rw [updA, if_neg (by omega)])
  · rw [eG]
    exact t3zz.ext (fun _ _ => rfl) (fun _ _ => rfl) rfl rfl rfl (fun jzz j1 j2zz => by rw [updA, if_neg (by omega)])
  · have g0 := t2zz.1.1.2.1
    rw [eG, updA, if_neg (by omega)] at hj
    rw [eG, updA, if_neg (by omega)]
    exact t4zz jzz hj
  · rw [eG]
    have e0zz : upd (gA o9 3) 1 0 0 = gA o9 3 0 := by rw [updA, if_neg (by omega)]
    rw [e0zz]
    obtain ⟨v0zz, sz, fi, v1zz, v2, v3, v4zz, v5⟩ := ht.2.2.2.2.2.2.2.1
    exact ⟨v0zz.trans (by rw [← h2, g3zz, g1]; rfl), sz, fi, v1zz, v2, v3, v4zz, fun izz hizz => (v5 izz hizz).mv rfl (fun _ _ => rfl) (by rw [← h2, g3zz, g1]; rfl) (fun _ _ => by rw [← h2, g3zz, g1]; rfl) (fun jzz hj => by rw [updA, if_neg (by omega)])⟩
