-- steps of the class
set_option maxHeartbeats 200000 in
theorem c_open {nc ns : Nat} {oc : Ob} {Nzz : Nat} {v3 v4zz v5 v6 v7 : Int32} {mezz : Ob} {yzz : Int64 × Ob} {kzz : Nat} (ek : v5.toInt = (kzz : Int)) (h37 : v7.toInt < v3.toInt) (h56 : v5.toInt < v6.toInt) (hzz : lp_X3_worth_O_30 nc ns oc (Nzz + 1) (v3, v4zz, v5, v6, v7, mezz) = some yzz) :
    (if (gA oc 5 kzz) = (0 : Int32) then (bk_X3_worth_O_75 nc ns oc (lp_X3_worth_O_30 nc ns oc Nzz) v3 v4zz (v5 + 1) v6 v7 (gA oc 5 kzz) (gA oc 6 kzz) mezz)
     else (if (gA oc 5 kzz) = (1 : Int32) then (bk_X3_worth_O_75 nc ns oc (lp_X3_worth_O_30 nc ns oc Nzz) v3 v4zz (v5 + 1) v6 v7 (gA oc 5 kzz) (gA oc 6 kzz) mezz)
     else (if (4 : Int32) < (gA oc 5 kzz) then
       (if (2 : Int32) ≤ v4zz then
         (zlt (v4zz + (-1 : Int32)) fun x13 =>
          zgd (zin (x13 - (1 : Int32)) 50) <|
          zgd (zin x13 50) <|
          (f_X3_joined (gA oc 5 kzz) (gM mezz 1 (x13 - (1 : Int32)).toNatClampNeg) (gM mezz 1 x13.toNatClampNeg)).bind fun z16 =>
          zgd (zin (x13 - (1 : Int32)) 50) <|
          zlt (tM mezz 1 (x13 - (1 : Int32)).toNatClampNeg z16) fun o18 =>
          zgd (zin (x13 - (1 : Int32)) 50) <|
          if (lg_cmp (gM o18 1 (x13 - (1 : Int32)).toNatClampNeg) (-9000000000000000000 : Int64)) = (0 : Int32) then
          (some ((-9000000000000000000 : Int64), o18))
          else
          (bk_X3_worth_O_281 nc ns oc (lp_X3_worth_O_30 nc ns oc Nzz) v3 x13 (v5 + 1) v6 v7 o18))
        else (some ((-9000000000000000000 : Int64), mezz)))
     else
       (if (1 : Int32) ≤ v4zz then
         (zgd (zin (v4zz - (1 : Int32)) 50) <|
          if (lg_cmp (gM mezz 1 (v4zz - (1 : Int32)).toNatClampNeg) (1 : Int64)) = (0 : Int32) then
          (bk_X3_worth_O_154 nc ns oc (lp_X3_worth_O_30 nc ns oc Nzz) v3 v4zz (v5 + 1) v6 v7 (gA oc 5 kzz) (gA oc 6 kzz) (1 : Int32) mezz)
          else
          (bk_X3_worth_O_154 nc ns oc (lp_X3_worth_O_30 nc ns oc Nzz) v3 v4zz (v5 + 1) v6 v7 (gA oc 5 kzz) (gA oc 6 kzz) (0 : Int32) mezz))
        else (some ((-9000000000000000000 : Int64), mezz)))))) = some yzz := by
  have hzz : lb_X3_worth_O_30 nc ns oc (lp_X3_worth_O_30 nc ns oc Nzz) v3 v4zz v5 v6 v7 mezz = some yzz := hzz
  unfold lb_X3_worth_O_30 at hzz
  have hzz := z_f (z_f hzz (fun qzz => by have qzz := cv_le (a := v3.toInt) (b := v7.toInt) rfl rfl qzz; omega)) (fun qzz => by have qzz := cv_le (a := v6.toInt) (b := v5.toInt) rfl rfl qzz; omega)
  obtain ⟨-, hzz⟩ := z_gd hzz
  obtain ⟨x4zz, e4zz, hzz⟩ := z_lt hzz
  obtain ⟨-, hzz⟩ := z_gd hzz
  obtain ⟨x6, e6zz, hzz⟩ := z_lt hzz
  obtain ⟨x7, e7zz, hzz⟩ := z_lt hzz
  have ik : v5.toNatClampNeg = kzz := tnc_eq ek
  rw [ik] at e4zz e6zz
  rw [e4zz, e6zz, e7zz] at hzz
  exact hzz
set_option maxHeartbeats 200000 in
theorem c_push {nc ns : Nat} {oc : Ob} {reczz : Int32 × Int32 × Int32 × Int32 × Int32 × Ob → Option (Int64 × Ob)} {v3 v4zz v5 v6 v7 : Int32} {s0zz : Int64} {mezz : Ob} {yzz : Int64 × Ob} {qzz : Nat} (eq : v4zz.toInt = (qzz : Int)) (hzz : bk_X3_worth_O_112 nc ns oc reczz v3 v4zz v5 v6 v7 s0zz v4zz mezz = some yzz) : reczz (v3, v4zz + 1, v5, v6, v7 + 1, tM mezz 1 qzz s0zz) = some yzz := by
  unfold bk_X3_worth_O_112 at hzz
  obtain ⟨-, hzz⟩ := z_gd hzz
  obtain ⟨o10, e10zz, hzz⟩ := z_lt hzz
  obtain ⟨x11, e11zz, hzz⟩ := z_lt hzz
  unfold bk_X3_worth_O_281 at hzz
  obtain ⟨x12, e12zz, hzz⟩ := z_lt hzz
  have iq : v4zz.toNatClampNeg = qzz := tnc_eq eq
  rw [iq] at e10zz
  rw [e10zz, e11zz, e12zz] at hzz
  exact hzz
set_option maxHeartbeats 200000 in
theorem c_num {nc ns : Nat} {oc : Ob} {Nzz : Nat} {v3 v4zz v5 v6 v7 : Int32} {mezz : Ob} {yzz : Int64 × Ob} {kzz qzz : Nat} (ek : v5.toInt = (kzz : Int)) (h37 : v7.toInt < v3.toInt) (h56 : v5.toInt < v6.toInt) (eq : v4zz.toInt = (qzz : Int)) (hq : qzz < 50) (hs : gA oc 5 kzz = 0) (hzz : lp_X3_worth_O_30 nc ns oc (Nzz + 1) (v3, v4zz, v5, v6, v7, mezz) = some yzz) : lp_X3_worth_O_30 nc ns oc Nzz (v3, v4zz + 1, v5 + 1, v6, v7 + 1, tM mezz 1 qzz (gA oc 6 kzz).toInt64) = some yzz := by
  have hzz := z_t (c_open ek h37 h56 hzz) hs
  unfold bk_X3_worth_O_75 at hzz
  have hzz := z_t (z_t hzz (Int32.lt_iff_toInt_lt.mpr (by have czz : (50 : Int32).toInt = 50 := (by decide); omega))) hs
  exact c_push eq hzz
set_option maxHeartbeats 200000 in
theorem c_word {nc ns : Nat} {oc : Ob} {Nzz : Nat} {v3 v4zz v5 v6 v7 : Int32} {mezz : Ob} {yzz : Int64 × Ob} {kzz qzz : Nat} (ek : v5.toInt = (kzz : Int)) (h37 : v7.toInt < v3.toInt) (h56 : v5.toInt < v6.toInt) (eq : v4zz.toInt = (qzz : Int)) (hq : qzz < 50) (hs : gA oc 5 kzz = 1) (hw : 0 ≤ (gA oc 6 kzz).toInt ∧ (gA oc 6 kzz).toInt ≤ 18) (hzz : lp_X3_worth_O_30 nc ns oc (Nzz + 1) (v3, v4zz, v5, v6, v7, mezz) = some yzz) : lp_X3_worth_O_30 nc ns oc Nzz (v3, v4zz + 1, v5 + 1, v6, v7 + 1, tM mezz 1 qzz (gA mezz 0 (gA oc 6 kzz).toNatClampNeg).toInt64) = some yzz := by
  have hzz := z_t (z_f (c_open ek h37 h56 hzz) (by rw [hs]; decide)) hs
  unfold bk_X3_worth_O_75 at hzz
  have hzz := z_f (z_t hzz (Int32.lt_iff_toInt_lt.mpr (by have czz : (50 : Int32).toInt = 50 := (by decide); omega))) (by rw [hs]; decide)
  obtain ⟨z8, ez, hzz⟩ := z_bd hzz
  unfold f_X3_wordWorth at ez
  have ez := z_f (z_f ez (fun czz => by have czz := cv_lt (a := (gA oc 6 kzz).toInt) (b := 0) rfl (by decide) czz; omega)) (fun czz => by have czz := cv_le (a := 19) (b := (gA oc 6 kzz).toInt) (by decide) rfl czz; omega)
  obtain ⟨-, ez⟩ := z_gd ez
  rw [← Option.some.inj ez] at hzz
  exact c_push eq hzz
set_option maxHeartbeats 200000 in
theorem c_bin {nc ns : Nat} {oc : Ob} {Nzz : Nat} {v3 v4zz v5 v6 v7 : Int32} {mezz : Ob} {yzz : Int64 × Ob} {kzz qzz : Nat} (ek : v5.toInt = (kzz : Int)) (h37 : v7.toInt < v3.toInt) (h56 : v5.toInt < v6.toInt) (eq : v4zz.toInt = (qzz : Int) + 2) (hq : qzz < 400) (hs : 4 < (gA oc 5 kzz).toInt) (hzz : lp_X3_worth_O_30 nc ns oc (Nzz + 1) (v3, v4zz, v5, v6, v7, mezz) = some yzz) :
    ∃ zzz, f_X3_joined (gA oc 5 kzz) (gM mezz 1 qzz) (gM mezz 1 (qzz + 1)) = some zzz ∧ ((zzz = -9000000000000000000 ∧ yzz.1 = -9000000000000000000) ∨ (¬ zzz = -9000000000000000000 ∧ lp_X3_worth_O_30 nc ns oc Nzz (v3, v4zz + (-1), v5 + 1, v6, v7 + 1, tM mezz 1 qzz zzz) = some yzz)) := by
  have hzz := c_open ek h37 h56 hzz
  have hzz := z_f hzz (fun czz => by have czz := cv_eq (a := (gA oc 5 kzz).toInt) (b := 0) rfl (by decide) czz; omega)
  have hzz := z_f hzz (fun czz => by have czz := cv_eq (a := (gA oc 5 kzz).toInt) (b := 1) rfl (by decide) czz; omega)
  have hzz := z_t hzz (Int32.lt_iff_toInt_lt.mpr (by have czz : (4 : Int32).toInt = 4 := (by decide); omega))
  have hzz := z_t hzz (Int32.le_iff_toInt_le.mpr (by have czz : (2 : Int32).toInt = 2 := (by decide); omega))
  obtain ⟨x13, e13zz, hzz⟩ := z_lt hzz
  obtain ⟨-, hzz⟩ := z_gd hzz
  obtain ⟨-, hzz⟩ := z_gd hzz
  have t13 : x13.toInt = (qzz : Int) + 2 + (-1) := by rw [e13zz]; exact i32_add eq (by decide) (by omega) (by omega)
  have t12 : (x13 - (1 : Int32)).toInt = x13.toInt - 1 := i32_sub rfl (by decide) (by omega) (by omega)
  have i13 : x13.toNatClampNeg = qzz + 1 := tnc_eq (by omega)
  have i12zz : (x13 - (1 : Int32)).toNatClampNeg = qzz := tnc_eq (by omega)
  rw [i13, i12zz] at hzz
  obtain ⟨zzz, ez, hzz⟩ := z_bd hzz
  obtain ⟨-, hzz⟩ := z_gd hzz
  obtain ⟨o18, e18zz, hzz⟩ := z_lt hzz
  obtain ⟨-, hzz⟩ := z_gd hzz
  have k18 : gM o18 1 qzz = zzz := by rw [e18zz, m1_at, if_pos rfl]
  rw [k18] at hzz
  refine ⟨zzz, ez, ?_⟩
  by_cases gzz : lg_cmp zzz (-9000000000000000000 : Int64) = 0
  · have eg : zzz = -9000000000000000000 := Int64.toInt_inj.mp (cvl_eq rfl rfl gzz)
    exact Or.inl ⟨eg, by rw [← Option.some.inj (z_t hzz gzz)]⟩
  · have hzz := z_f hzz gzz
    unfold bk_X3_worth_O_281 at hzz
    obtain ⟨x12, e12zz, hzz⟩ := z_lt hzz
    rw [e12zz, e18zz, e13zz] at hzz
    exact Or.inr ⟨fun ezz => cvl_ne rfl rfl gzz (by rw [ezz]), hzz⟩
set_option maxHeartbeats 200000 in
theorem c_one {nc ns : Nat} {oc : Ob} {Nzz : Nat} {v3 v4zz v5 v6 v7 : Int32} {mezz : Ob} {yzz : Int64 × Ob} {kzz qzz : Nat} (ek : v5.toInt = (kzz : Int)) (h37 : v7.toInt < v3.toInt) (h56 : v5.toInt < v6.toInt) (eq : v4zz.toInt = (qzz : Int) + 1) (hq : qzz < 400) (hs : 2 ≤ (gA oc 5 kzz).toInt ∧ (gA oc 5 kzz).toInt ≤ 4) (hv : gM mezz 1 qzz = 0 ∨ gM mezz 1 qzz = 1) (hzz : lp_X3_worth_O_30 nc ns oc (Nzz + 1) (v3, v4zz, v5, v6, v7, mezz) = some yzz) :
    (gM mezz 1 qzz = 1 ∧ bk_X3_worth_O_154 nc ns oc (lp_X3_worth_O_30 nc ns oc Nzz) v3 v4zz (v5 + 1) v6 v7 (gA oc 5 kzz) (gA oc 6 kzz) (1 : Int32) mezz = some yzz) ∨ (gM mezz 1 qzz = 0 ∧ bk_X3_worth_O_154 nc ns oc (lp_X3_worth_O_30 nc ns oc Nzz) v3 v4zz (v5 + 1) v6 v7 (gA oc 5 kzz) (gA oc 6 kzz) (0 : Int32) mezz = some yzz) := by
  have hzz := c_open ek h37 h56 hzz
  have hzz := z_f hzz (fun czz => by have czz := cv_eq (a := (gA oc 5 kzz).toInt) (b := 0) rfl (by decide) czz; omega)
  have hzz := z_f hzz (fun czz => by have czz := cv_eq (a := (gA oc 5 kzz).toInt) (b := 1) rfl (by decide) czz; omega)
  have hzz := z_f hzz (fun czz => by have czz := cv_lt (a := 4) (b := (gA oc 5 kzz).toInt) (by decide) rfl czz; omega)
  have hzz := z_t hzz (Int32.le_iff_toInt_le.mpr (by have czz : (1 : Int32).toInt = 1 := (by decide); omega))
  obtain ⟨-, hzz⟩ := z_gd hzz
  have t : (v4zz - (1 : Int32)).toInt = (qzz : Int) + 1 - 1 := i32_sub eq (by decide) (by omega) (by omega)
  have izz : (v4zz - (1 : Int32)).toNatClampNeg = qzz := tnc_eq (by omega)
  rw [izz] at hzz
  by_cases gzz : lg_cmp (gM mezz 1 qzz) (1 : Int64) = 0
  · exact Or.inl ⟨Int64.toInt_inj.mp (cvl_eq rfl rfl gzz), z_t hzz gzz⟩
  · rcases hv with hv | hv
    · exact Or.inr ⟨hv, z_f hzz gzz⟩
    · exact absurd (cvl_ne rfl rfl gzz (by rw [hv])) (fun wzz => wzz)
set_option maxHeartbeats 200000 in
theorem c_not {nc ns : Nat} {oc : Ob} {reczz : Int32 × Int32 × Int32 × Int32 × Int32 × Ob → Option (Int64 × Ob)} {v3 v4zz v5 v6 v7 x6 s0zz : Int32} {mezz : Ob} {yzz : Int64 × Ob} {qzz : Nat} (eq : v4zz.toInt = (qzz : Int) + 1) (hq : qzz < 400) (hzz : bk_X3_worth_O_154 nc ns oc reczz v3 v4zz v5 v6 v7 2 x6 s0zz mezz = some yzz) : reczz (v3, v4zz, v5, v6, v7 + 1, tM mezz 1 qzz (if s0zz = 0 then 1 else 0)) = some yzz := by
  have t : (v4zz - (1 : Int32)).toInt = (qzz : Int) + 1 - 1 := i32_sub eq (by decide) (by omega) (by omega)
  have izz : (v4zz - (1 : Int32)).toNatClampNeg = qzz := tnc_eq (by omega)
  have h180 : ∀ czz : Int64, bk_X3_worth_O_180 nc ns oc reczz v3 v4zz v5 v6 v7 czz (v4zz - (1 : Int32)) mezz = some yzz → reczz (v3, v4zz, v5, v6, v7 + 1, tM mezz 1 qzz czz) = some yzz := by
    intro czz hzz
    unfold bk_X3_worth_O_180 at hzz
    obtain ⟨-, hzz⟩ := z_gd hzz
    obtain ⟨o24, e24zz, hzz⟩ := z_lt hzz
    unfold bk_X3_worth_O_215 bk_X3_worth_O_281 at hzz
    obtain ⟨x12, e12zz, hzz⟩ := z_lt hzz
    rw [izz] at e24zz
    rw [e12zz, e24zz] at hzz
    exact hzz
  unfold bk_X3_worth_O_154 at hzz
  have hzz := z_t hzz rfl
  by_cases czz : s0zz = 0
  · rw [if_pos czz]; exact h180 1 (z_t hzz czz)
  · rw [if_neg czz]; exact h180 0 (z_f hzz czz)
set_option maxHeartbeats 200000 in
theorem c_ao {nc ns : Nat} {oc : Ob} {reczz : Int32 × Int32 × Int32 × Int32 × Int32 × Ob → Option (Int64 × Ob)} {v3 v4zz v5 v6 v7 s x6 s0zz : Int32} {mezz : Ob} {yzz : Int64 × Ob} {bzz : Nat} (hs : s = 3 ∨ s = 4) (h0 : s0zz = 0 ∨ s0zz = 1) (e6zz : x6.toInt = (bzz : Int)) (h5 : v5.toInt ≤ (bzz : Int)) (hzz : bk_X3_worth_O_154 nc ns oc reczz v3 v4zz v5 v6 v7 s x6 s0zz mezz = some yzz) :
    (((s = 3 ∧ s0zz = 0) ∨ (s = 4 ∧ s0zz = 1)) ∧ ∃ xzz : Int32, xzz.toInt = (bzz : Int) ∧ reczz (v3, v4zz, xzz, v6, v7 + 1, mezz) = some yzz) ∨ (((s = 3 ∧ s0zz = 1) ∨ (s = 4 ∧ s0zz = 0)) ∧ reczz (v3, v4zz + (-1), v5, v6, v7 + 1, mezz) = some yzz) := by
  have h197 : ∀ czz : Int32, bk_X3_worth_O_197 nc ns oc reczz v3 v4zz v5 v6 v7 x6 czz s0zz mezz = some yzz → (s0zz = czz ∧ ∃ xzz : Int32, xzz.toInt = (bzz : Int) ∧ reczz (v3, v4zz, xzz, v6, v7 + 1, mezz) = some yzz) ∨ (¬ s0zz = czz ∧ reczz (v3, v4zz + (-1), v5, v6, v7 + 1, mezz) = some yzz) := by
    intro czz hzz
    unfold bk_X3_worth_O_197 at hzz
    by_cases gzz : s0zz = czz
    · obtain ⟨x22, e22zz, hzz⟩ := z_lt (z_t hzz gzz)
      unfold bk_X3_worth_O_215 bk_X3_worth_O_281 at hzz
      obtain ⟨x12, e12zz, hzz⟩ := z_lt hzz
      rw [e12zz] at hzz
      refine Or.inl ⟨gzz, x22, ?_, hzz⟩
      rw [e22zz]
      by_cases kzz : v5 < x6
      · rw [if_pos kzz]; exact e6zz
      · have k' := cv_nlt (a := v5.toInt) (b := (bzz : Int)) rfl e6zz kzz
        rw [if_neg kzz]; omega
    · obtain ⟨x21, e21zz, hzz⟩ := z_lt (z_f hzz gzz)
      unfold bk_X3_worth_O_215 bk_X3_worth_O_281 at hzz
      obtain ⟨x12, e12zz, hzz⟩ := z_lt hzz
      rw [e12zz, e21zz] at hzz
      exact Or.inr ⟨gzz, hzz⟩
  unfold bk_X3_worth_O_154 at hzz
  rcases hs with ezz | ezz
  · subst ezz
    have hzz := z_f (z_f hzz (by decide)) (by decide)
    rcases h197 0 hzz with ⟨azz, bzz⟩ | ⟨azz, bzz⟩
    · exact Or.inl ⟨Or.inl ⟨rfl, azz⟩, bzz⟩
    · rcases h0 with czz | czz
      · exact absurd czz azz
      · exact Or.inr ⟨Or.inl ⟨rfl, czz⟩, bzz⟩
  · subst ezz
    have hzz := z_t (z_f hzz (by decide)) rfl
    rcases h197 1 hzz with ⟨azz, bzz⟩ | ⟨azz, bzz⟩
    · exact Or.inl ⟨Or.inr ⟨rfl, azz⟩, bzz⟩
    · rcases h0 with czz | czz
      · exact Or.inr ⟨Or.inr ⟨rfl, czz⟩, bzz⟩
      · exact absurd czz azz
