-- a law asked in both: the class's told (from the last clause down) and the reference's tells (from the first up)
def RSt (Gzz : Nat → Int32) (Wzz : Nat → Int64) (l : Nat) (o : Ob) : Prop := gI o 20 = 0 ∧ gA o 3 = Gzz ∧ (gI o 34).toInt = 84 + 900 * (l : Int) ∧ gM o 35 = Wzz
set_option maxHeartbeats 200000 in
theorem RSt.fr {Gzz : Nat → Int32} {Wzz : Nat → Int64} {l : Nat} {o o' : Ob} (hzz : RSt Gzz Wzz l o) (fzz : FrX d_X9_isSo_me o o') : RSt Gzz Wzz l o' := ⟨(fzz.I 20 rfl).trans hzz.1, (fzz.A 3 rfl).trans hzz.2.1, by rw [fzz.I 34 rfl]; exact hzz.2.2.1, (fzz.M 35 rfl).trans hzz.2.2.2⟩
def opL (Gzz : Nat → Int32) (l : Nat) : Nat → Int32 := fun kzz => Gzz (84 + 900 * l + 98 + 2 * kzz)
def argL (Gzz : Nat → Int32) (l : Nat) : Nat → Int32 := fun kzz => Gzz (84 + 900 * l + 98 + 2 * kzz + 1)
def clL (Gzz : Nat → Int32) (l : Nat) : Nat → Int32 := fun kzz => Gzz (84 + 900 * l + 2 + kzz)
set_option maxHeartbeats 200000 in
theorem RSt.rd {Gzz : Nat → Int32} {Wzz : Nat → Int64} {l : Nat} {o : Ob} (hzz : RSt Gzz Wzz l o) (hl : l < 6) : RD (opL Gzz l) (argL Gzz l) o := Or.inl ⟨hzz.1, l, hl, hzz.2.2.1, fun kzz => by rw [hzz.2.1]; exact ⟨rfl, rfl⟩⟩
set_option maxHeartbeats 200000 in
theorem RSt.ew {Gzz : Nat → Int32} {Wzz : Nat → Int64} {l : Nat} {mezz o : Ob} (hzz : RSt Gzz Wzz l o) (hG : 0 ≤ (Gzz 0).toInt ∧ (Gzz 0).toInt ≤ 7) (hW : ∀ kzz, kzz < 9 → (gA mezz 0 kzz).toInt64 = Wzz (kzz + 1)) : EWo false mezz o := ⟨by rw [hzz.2.1]; exact hG, fun _ => ⟨hzz.1, fun kzz hk => by rw [hzz.2.2.2]; exact hW kzz hk⟩, fun qzz => by cases qzz⟩
set_option maxHeartbeats 200000 in
theorem worth_nil {nc ns : Nat} {mezz oc : Ob} {pzz qzz : Int32} {yzz : Int64 × Ob} (hzz : f_X3_worth_O nc ns mezz oc pzz qzz = some yzz) (hpq : qzz.toInt ≤ pzz.toInt) : yzz = (1, mezz) := by
  unfold f_X3_worth_O at hzz
  have hzz := z_f hzz (fun czz => by have czz := cv_lt (a := pzz.toInt) (b := qzz.toInt) rfl rfl czz; omega)
  exact (Option.some.inj hzz).symm
set_option maxHeartbeats 200000 in
theorem ixp {p0zz czz : Int32} {l mzz kzz : Nat} (hzz : p0zz.toInt = 84 + 900 * (l : Int) + 2 + 8 * (mzz : Int)) (hl : l < 6) (hmzz : mzz < 12) (hczz : czz.toInt = (kzz : Int)) (hk : kzz < 8) : (p0zz + czz).toNatClampNeg = 84 + 900 * l + 2 + (8 * mzz + kzz) := tnc_eq (by rw [i32_add hzz hczz (by omega) (by omega)]; omega)
set_option maxHeartbeats 200000 in
theorem ixp0 {p0zz : Int32} {l mzz : Nat} (hzz : p0zz.toInt = 84 + 900 * (l : Int) + 2 + 8 * (mzz : Int)) : p0zz.toNatClampNeg = 84 + 900 * l + 2 + 8 * mzz := tnc_eq (by rw [hzz]; omega)
set_option maxHeartbeats 200000 in
/-- a clause's sum, asked by the reference -/
theorem so59 {Gzz : Nat → Int32} {Wzz : Nat → Int64} {l mzz : Nat} {o : Ob} {p0zz : Int32} {zzz : Int32 × Ob} (hs : RSt Gzz Wzz l o) (hl : l < 6) (hmzz : mzz < 12) (hp : p0zz.toInt = 84 + 900 * (l : Int) + 2 + 8 * (mzz : Int)) (hzz : bk_X9_isSo_59 p0zz o = some zzz) :
    (clL Gzz l (8 * mzz) = 3 ∧ zzz.1 = 1) ∨ (¬ clL Gzz l (8 * mzz) = 3 ∧ ∃ wzz, f_X9_reckonAll o (clL Gzz l (8 * mzz + 3)) (clL Gzz l (8 * mzz + 4)) = some wzz ∧ ((gI wzz 38 = 0 ∧ zzz.1 = 1 ∧ gL zzz.2 40 = gL wzz 39) ∨ (¬ gI wzz 38 = 0 ∧ zzz.1 = 0))) := by
  unfold bk_X9_isSo_59 at hzz
  have hzz := (z_gd hzz).2
  have i0zz := ixp0 hp
  have i3zz := ixp (czz := 3) (kzz := 3) hp hl hmzz (by decide) (by decide)
  have i4zz := ixp (czz := 4) (kzz := 4) hp hl hmzz (by decide) (by decide)
  rw [i0zz, i3zz, i4zz, hs.2.1] at hzz
  rcases z_if hzz with ⟨czz, hzz⟩ | ⟨czz, hzz⟩
  · have hzz := Option.some.inj hzz
    exact Or.inl ⟨czz, by rw [← hzz]⟩
  · have hzz := (z_gd (z_gd hzz).2).2
    obtain ⟨wzz, ezz, hzz⟩ := z_bd hzz
    obtain ⟨o7, e7zz, hzz⟩ := z_lt hzz
    refine Or.inr ⟨czz, wzz, ezz, ?_⟩
    rcases z_if hzz with ⟨c2zz, hzz⟩ | ⟨c2zz, hzz⟩
    · have hzz := Option.some.inj hzz
      rw [e7zz] at c2zz
      exact Or.inl ⟨c2zz, by rw [← hzz], by rw [← hzz, e7zz]; rfl⟩
    · have hzz := Option.some.inj hzz
      rw [e7zz] at c2zz
      exact Or.inr ⟨c2zz, by rw [← hzz]⟩
set_option maxHeartbeats 200000 in
/-- a clause, asked by the reference -/
theorem so_all {Gzz : Nat → Int32} {Wzz : Nat → Int64} {l mzz : Nat} {o : Ob} {p0zz : Int32} {zzz : Int32 × Ob} (hs : RSt Gzz Wzz l o) (hl : l < 6) (hmzz : mzz < 12) (hp : p0zz.toInt = 84 + 900 * (l : Int) + 2 + 8 * (mzz : Int)) (hzz : f_X9_isSo o p0zz = some zzz) :
    ((clL Gzz l (8 * mzz + 6)).toInt ≤ (clL Gzz l (8 * mzz + 5)).toInt ∧ bk_X9_isSo_59 p0zz o = some zzz) ∨
    ((clL Gzz l (8 * mzz + 5)).toInt < (clL Gzz l (8 * mzz + 6)).toInt ∧ ∃ wzz, f_X9_reckonAll o (clL Gzz l (8 * mzz + 5)) (clL Gzz l (8 * mzz + 6)) = some wzz ∧ ((gI wzz 38 = 0 ∧ ((gL wzz 39 = 0 ∧ zzz.1 = 0) ∨ (¬ gL wzz 39 = 0 ∧ bk_X9_isSo_59 p0zz wzz = some zzz))) ∨ (¬ gI wzz 38 = 0 ∧ zzz.1 = 0))) := by
  unfold f_X9_isSo at hzz
  have hzz := (z_gd (z_gd hzz).2).2
  have i5zz := ixp (czz := 5) (kzz := 5) hp hl hmzz (by decide) (by decide)
  have i6zz := ixp (czz := 6) (kzz := 6) hp hl hmzz (by decide) (by decide)
  rw [i5zz, i6zz, hs.2.1] at hzz
  rcases z_if hzz with ⟨czz, hzz⟩ | ⟨czz, hzz⟩
  · exact Or.inl ⟨cv_le rfl rfl czz, hzz⟩
  · have hzz := (z_gd (z_gd hzz).2).2
    obtain ⟨wzz, ezz, hzz⟩ := z_bd hzz
    refine Or.inr ⟨cv_nle rfl rfl czz, wzz, ezz, ?_⟩
    rcases z_if hzz with ⟨c2zz, hzz⟩ | ⟨c2zz, hzz⟩
    · refine Or.inl ⟨c2zz, ?_⟩
      rcases z_if hzz with ⟨c3zz, hzz⟩ | ⟨c3zz, hzz⟩
      · have hzz := Option.some.inj hzz
        exact Or.inl ⟨(lg_cmp_eq _ _).mp c3zz, by rw [← hzz]⟩
      · exact Or.inr ⟨fun qzz => c3zz ((lg_cmp_eq _ _).mpr qzz), hzz⟩
    · have hzz := Option.some.inj hzz
      exact Or.inr ⟨c2zz, by rw [← hzz]⟩
set_option maxHeartbeats 200000 in
/-- what the reference says of a clause, whatever its other rows hold -/
def RNo (Gzz : Nat → Int32) (Wzz : Nat → Int64) (l mzz : Nat) : Prop := ∀ (o : Ob) (p0zz : Int32) (zzz : Int32 × Ob), RSt Gzz Wzz l o → p0zz.toInt = 84 + 900 * (l : Int) + 2 + 8 * (mzz : Int) → f_X9_isSo o p0zz = some zzz → zzz.1 = 0
def RYes (Gzz : Nat → Int32) (Wzz : Nat → Int64) (l mzz : Nat) (vzz : Int64) : Prop := ∀ (o : Ob) (p0zz : Int32) (zzz : Int32 × Ob), RSt Gzz Wzz l o → p0zz.toInt = 84 + 900 * (l : Int) + 2 + 8 * (mzz : Int) → f_X9_isSo o p0zz = some zzz → ¬ zzz.1 = 0 ∧ (¬ clL Gzz l (8 * mzz) = 3 → gL zzz.2 40 = vzz)
set_option maxHeartbeats 200000 in
theorem reck_fr {o wzz : Ob} {azz bzz : Int32} (ezz : f_X9_reckonAll o azz bzz = some wzz) : FrX d_X9_isSo_me o wzz := (fr_f_X9_reckonAll ezz).mono rfl
/-- one clause in both -/
theorem so_one {nc ns : Nat} {oc mezz : Ob} {Gzz : Nat → Int32} {Wzz : Nat → Int64} {l mzz K1 K2 : Nat} {y1 : Int64 × Ob} (hl : l < 6) (hmzz : mzz < 12) (hK8 : (gI oc 8).toInt = (K1 : Int)) (hK1 : K1 ≤ 400) (hK2 : K2 ≤ 400) (hczz : ClE false oc (clL Gzz l) (opL Gzz l) (argL Gzz l) mzz K1 K2) (hG : 0 ≤ (Gzz 0).toInt ∧ (Gzz 0).toInt ≤ 7) (hW : ∀ kzz, kzz < 9 → (gA mezz 0 kzz).toInt64 = Wzz (kzz + 1))
    (h1 : f_X3_worth_O nc ns mezz oc (gA oc 3 mzz) (gA oc 4 mzz) = some y1) :
    (¬ y1.1 = 1 → RNo Gzz Wzz l mzz) ∧ (y1.1 = 1 → ∀ y3, f_X3_worth_O nc ns y1.2 oc (gA oc 2 mzz) (gA oc 3 mzz) = some y3 → (y3.1 = -9000000000000000000 → RNo Gzz Wzz l mzz) ∧ (¬ y3.1 = -9000000000000000000 → RYes Gzz Wzz l mzz y3.1)) := by
  obtain ⟨a1zz, b1, c1zz, a2, b2, c2zz, d2zz, k0zz, kr, ea1, eb1, ec1, ea2, eb2, ec2, ed2, ⟨l1, l2, l3, l4, l5⟩, hsum, htst, -⟩ := hczz
  have sf : sfo false = 3 := rfl
  rw [sf] at ea2 eb2
  have k0' : gA oc 0 mzz = clL Gzz l (8 * mzz) := k0zz
  have e4zz : clL Gzz l (8 * mzz + (3 + 1)) = clL Gzz l (8 * mzz + 4) := rfl
  rw [e4zz] at eb2
  -- the test
  have tst : ∀ (o : Ob) (p0zz : Int32) (zzz : Int32 × Ob), RSt Gzz Wzz l o → p0zz.toInt = 84 + 900 * (l : Int) + 2 + 8 * (mzz : Int) → f_X9_isSo o p0zz = some zzz → (¬ y1.1 = 1 ∧ zzz.1 = 0) ∨ (y1.1 = 1 ∧ ∃ o', RSt Gzz Wzz l o' ∧ bk_X9_isSo_59 p0zz o' = some zzz) := by
    intro o p0zz zzz hs hp hz
    rcases so_all hs hl hmzz hp hz with ⟨qzz, hz⟩ | ⟨qzz, wzz, ew, hz⟩
    · rcases htst with ⟨t1zz, t2zz⟩ | ⟨n, hn, hx⟩
      · have uzz := worth_nil h1 (by omega)
        exact Or.inr ⟨by rw [uzz], o, hs, hz⟩
      · have := hx.lt; omega
    · rcases htst with ⟨t1zz, t2zz⟩ | ⟨n, hn, hx⟩
      · omega
      · have hs' := hs.fr (reck_fr ew)
        rcases ev_all hx hn (by omega) (by omega) (by omega) eb1 ec1 ec2 ed2 (hs.ew hG hW) (hs.rd hl) h1 ew with ⟨u1zz, u2zz⟩ | ⟨u1zz, u2zz, -, u4zz⟩
        · have nb : ¬ y1.1 = 1 := by rw [u1zz]; decide
          rcases hz with ⟨gzz, -⟩ | ⟨-, gzz⟩
          · rw [u2zz] at gzz; exact absurd gzz (by decide)
          · exact Or.inl ⟨nb, gzz⟩
        · rcases hz with ⟨-, gzz⟩ | ⟨gzz, -⟩
          · rcases gzz with ⟨g1, g2⟩ | ⟨g1, g2⟩
            · exact Or.inl ⟨by rw [u2zz, g1]; decide, g2⟩
            · refine Or.inr ⟨?_, wzz, hs', g2⟩
              rcases u4zz rfl with uzz | uzz
              · exact absurd (u2zz.symm.trans uzz) g1
              · exact uzz
          · exact absurd u1zz gzz
  refine ⟨fun ny o p0zz zzz hs hp hz => ?_, fun yy y3 h3 => ?_⟩
  · rcases tst o p0zz zzz hs hp hz with ⟨-, gzz⟩ | ⟨gzz, -⟩
    · exact gzz
    · exact absurd gzz ny
  · have hW3 : ∀ kzz, kzz < 9 → (gA y1.2 0 kzz).toInt64 = Wzz (kzz + 1) := by
      intro kzz hk
      rw [(fr_f_X3_worth_O h1).A 0 rfl]; exact hW kzz hk
    refine ⟨fun hbzz o p0zz zzz hs hp hz => ?_, fun hbzz o p0zz zzz hs hp hz => ?_⟩
    · rcases tst o p0zz zzz hs hp hz with ⟨gzz, -⟩ | ⟨-, o', hs', hz'⟩
      · exact absurd yy gzz
      · rcases so59 hs' hl hmzz hp hz' with ⟨gzz, -⟩ | ⟨gzz, wzz, ew, hw⟩
        · rcases hsum with ⟨s1zz, s2zz, s3zz⟩ | ⟨s1zz, -⟩
          · have uzz := worth_nil h3 (by omega)
            have hb' : (1 : Int64) = -9000000000000000000 := by rw [uzz] at hbzz; exact hbzz
            exact absurd hb' (by decide)
          · exact absurd (k0'.trans gzz) s1zz
        · rcases hsum with ⟨s1zz, -⟩ | ⟨s1zz, n, hn, hb2, hx⟩
          · exact absurd (k0'.symm.trans s1zz) gzz
          · rcases ev_all hx hn (by omega) (by omega) (by omega) ea1 eb1 ea2 eb2 (hs'.ew hG hW3) (hs'.rd hl) h3 ew with ⟨u1zz, u2zz⟩ | ⟨u1zz, u2zz, u3, -⟩
            · rcases hw with ⟨qzz, -⟩ | ⟨-, qzz⟩
              · rw [u2zz] at qzz; exact absurd qzz (by decide)
              · exact qzz
            · rw [hbzz] at u3
              exact absurd u3 (by decide)
    · rcases tst o p0zz zzz hs hp hz with ⟨gzz, -⟩ | ⟨-, o', hs', hz'⟩
      · exact absurd yy gzz
      · rcases so59 hs' hl hmzz hp hz' with ⟨gzz, g2⟩ | ⟨gzz, wzz, ew, hw⟩
        · exact ⟨by rw [g2]; decide, fun qzz => absurd gzz qzz⟩
        · rcases hsum with ⟨s1zz, -⟩ | ⟨s1zz, n, hn, hb2, hx⟩
          · exact absurd (k0'.symm.trans s1zz) gzz
          · rcases ev_all hx hn (by omega) (by omega) (by omega) ea1 eb1 ea2 eb2 (hs'.ew hG hW3) (hs'.rd hl) h3 ew with ⟨u1zz, u2zz⟩ | ⟨u1zz, u2zz, u3, -⟩
            · exact absurd u1zz hbzz
            · rcases hw with ⟨-, q1zz, q2zz⟩ | ⟨qzz, -⟩
              · exact ⟨by rw [q1zz]; decide, fun _ => q2zz.trans u2zz.symm⟩
              · exact absurd u1zz qzz
set_option maxHeartbeats 200000 in
/-- what the class's walk from the last clause down says of the reference -/
def TCe (Gzz : Nat → Int32) (Wzz : Nat → Int64) (oc : Ob) (l : Nat) (Kzz : Int32) (n : Nat) (yzz : Int64) : Prop :=
  (yzz = -9000000000000000000 ∧ ∀ mzz, mzz < n → gA oc 0 mzz = Kzz → RNo Gzz Wzz l mzz) ∨ (¬ yzz = -9000000000000000000 ∧ ∃ mzz, mzz < n ∧ gA oc 0 mzz = Kzz ∧ RYes Gzz Wzz l mzz yzz ∧ ∀ m', mzz < m' → m' < n → gA oc 0 m' = Kzz → RNo Gzz Wzz l m')
set_option maxHeartbeats 200000 in
theorem tol_lp {nc ns : Nat} {azz bzz czz oc : Ob} {Gzz : Nat → Int32} {Wzz : Nat → Int64} {l n K1 K2 : Nat} {Kzz : Int32} {yzz : Int64 × Ob} (hl : l < 6) (hn : n ≤ 12) (hK8 : (gI oc 8).toInt = (K1 : Int)) (hK1 : K1 ≤ 400) (hK2 : K2 ≤ 400) (hczz : ∀ mzz, mzz < n → ClE false oc (clL Gzz l) (opL Gzz l) (argL Gzz l) mzz K1 K2) (hG : 0 ≤ (Gzz 0).toInt ∧ (Gzz 0).toInt ≤ 7) :
    ∀ (Nzz : Nat) (v6 : Int32) (mezz : Ob) (izz : Nat), v6.toInt = (izz : Int) - 1 → izz ≤ n → (∀ kzz, kzz < 9 → (gA mezz 0 kzz).toInt64 = Wzz (kzz + 1)) → lp_X1_told_O_51 nc ns azz bzz czz oc Nzz (Kzz, v6, mezz) = some yzz → TCe Gzz Wzz oc l Kzz izz yzz.1 := by
  intro Nzz
  induction Nzz with
  | zero => intro v6 mezz izz _ _ _ hzz; cases hzz
  | succ Nzz ihzz =>
    intro v6 mezz izz e6zz hizz hW hzz
    have hzz : lb_X1_told_O_51 nc ns azz bzz czz oc (lp_X1_told_O_51 nc ns azz bzz czz oc Nzz) Kzz v6 mezz = some yzz := hzz
    unfold lb_X1_told_O_51 at hzz
    rcases z_if hzz with ⟨c0zz, hzz⟩ | ⟨c0zz, hzz⟩
    · have hzz := Option.some.inj hzz
      have c0zz := cv_lt (a := (izz : Int) - 1) (b := 0) e6zz (by decide) c0zz
      have ei : izz = 0 := by omega
      subst ei
      exact Or.inl ⟨by rw [← hzz], fun mzz hmzz => absurd hmzz (by omega)⟩
    · have c0zz := cv_nlt (a := (izz : Int) - 1) (b := 0) e6zz (by decide) c0zz
      have hzz := (z_gd hzz).2
      obtain ⟨jzz, ej⟩ : ∃ jzz, izz = jzz + 1 := ⟨izz - 1, by omega⟩
      subst ej
      have i6zz : v6.toNatClampNeg = jzz := tnc_eq (by rw [e6zz]; omega)
      rw [i6zz] at hzz
      have t7 : (v6 + (-1 : Int32)).toInt = (jzz : Int) - 1 := Eq.trans (i32_add e6zz (by decide : (-1 : Int32).toInt = -1) (by omega) (by omega)) (by omega)
      -- what is told below, if the clause j doesn't hold
      have lowzz : ∀ (me' : Ob), (∀ kzz, kzz < 9 → (gA me' 0 kzz).toInt64 = Wzz (kzz + 1)) → bk_X1_told_O_130 nc ns azz bzz czz oc (lp_X1_told_O_51 nc ns azz bzz czz oc Nzz) Kzz v6 me' = some yzz → (gA oc 0 jzz = Kzz → RNo Gzz Wzz l jzz) → TCe Gzz Wzz oc l Kzz (jzz + 1) yzz.1 := by
        intro me' hW' hbzz hno
        unfold bk_X1_told_O_130 at hbzz
        obtain ⟨x6, exzz, hbzz⟩ := z_lt hbzz
        rw [← exzz] at t7
        rcases ihzz x6 me' jzz t7 (by omega) hW' hbzz with ⟨g1, g2⟩ | ⟨g1, mzz, g2, g3zz, g4, g5zz⟩
        · refine Or.inl ⟨g1, fun mzz hmzz hk => ?_⟩
          by_cases qzz : mzz = jzz
          · subst qzz; exact hno hk
          · exact g2 mzz (by omega) hk
        · refine Or.inr ⟨g1, mzz, by omega, g3zz, g4, fun m' h1 h2 hk => ?_⟩
          by_cases qzz : m' = jzz
          · subst qzz; exact hno hk
          · exact g5zz m' h1 (by omega) hk
      rcases z_if hzz with ⟨c1zz, hzz⟩ | ⟨c1zz, hzz⟩
      · have hzz := (z_gd (z_gd hzz).2).2
        obtain ⟨z9, e9zz, hzz⟩ := z_bd hzz
        have so := so_one hl (by omega) hK8 hK1 hK2 (hczz jzz (by omega)) hG hW e9zz
        have hW9 : ∀ kzz, kzz < 9 → (gA z9.2 0 kzz).toInt64 = Wzz (kzz + 1) := fun kzz hk => by rw [(fr_f_X3_worth_O e9zz).A 0 rfl]; exact hW kzz hk
        rcases z_if hzz with ⟨c2zz, hzz⟩ | ⟨c2zz, hzz⟩
        · have c2zz := (lg_cmp_eq _ _).mp c2zz
          have hzz := (z_gd (z_gd hzz).2).2
          obtain ⟨z12, e12zz, hzz⟩ := z_bd hzz
          have so := so.2 c2zz z12 e12zz
          have hW12 : ∀ kzz, kzz < 9 → (gA z12.2 0 kzz).toInt64 = Wzz (kzz + 1) := fun kzz hk => by rw [(fr_f_X3_worth_O e12zz).A 0 rfl]; exact hW9 kzz hk
          rcases z_if hzz with ⟨c3zz, hzz⟩ | ⟨c3zz, hzz⟩
          · exact lowzz z12.2 hW12 hzz (fun _ => so.1 ((lg_cmp_eq _ _).mp c3zz))
          · have hzz := Option.some.inj hzz
            have nb : ¬ z12.1 = -9000000000000000000 := fun qzz => c3zz ((lg_cmp_eq _ _).mpr qzz)
            rw [← hzz]
            exact Or.inr ⟨nb, jzz, by omega, c1zz, so.2 nb, fun m' h1 h2 => absurd h1 (by omega)⟩
        · exact lowzz z9.2 hW9 hzz (fun _ => so.1 (fun qzz => c2zz ((lg_cmp_eq _ _).mpr qzz)))
      · exact lowzz mezz hW hzz (fun qzz => absurd qzz c1zz)
/-- the reference's walk from the first clause up -/
theorem tel_lp {oc : Ob} {Gzz : Nat → Int32} {Wzz : Nat → Int64} {l n K1 K2 : Nat} {Kzz : Int32} {vzz wo : Int64} {yzz : Int64 × Ob} (hl : l < 6) (hn : n ≤ 12) (hn1 : (Gzz (84 + 900 * l + 1)).toInt = (n : Int)) (hczz : ∀ mzz, mzz < n → ClE false oc (clL Gzz l) (opL Gzz l) (argL Gzz l) mzz K1 K2) (hv : TCe Gzz Wzz oc l Kzz n vzz) :
    ∀ (Nzz : Nat) (v7 : Int64) (v9 : Int32) (o : Ob) (izz : Nat), v9.toInt = (izz : Int) → izz ≤ n → RSt Gzz Wzz l o → ((vzz = -9000000000000000000 → v7 = wo) ∧ (¬ vzz = -9000000000000000000 → (∃ mzz, mzz < izz ∧ mzz < n ∧ gA oc 0 mzz = Kzz ∧ RYes Gzz Wzz l mzz vzz ∧ ∀ m', mzz < m' → m' < n → gA oc 0 m' = Kzz → RNo Gzz Wzz l m') → v7 = if Kzz = 3 then 1 else vzz)) →
      lp_X9_tells_159 Nzz (Kzz, v7, v9, o) = some yzz → (vzz = -9000000000000000000 ∧ yzz.1 = wo) ∨ (¬ vzz = -9000000000000000000 ∧ yzz.1 = if Kzz = 3 then 1 else vzz) := by
  intro Nzz
  induction Nzz with
  | zero => intro v7 v9 o izz _ _ _ _ hzz; cases hzz
  | succ Nzz ihzz =>
    intro v7 v9 o izz e9zz hizz hs hI hzz
    have hzz : lb_X9_tells_159 (lp_X9_tells_159 Nzz) Kzz v7 v9 o = some yzz := hzz
    unfold lb_X9_tells_159 at hzz
    have hzz := (z_gd hzz).2
    have i1zz : (gI o 34 + (1 : Int32)).toNatClampNeg = 84 + 900 * l + 1 := tnc_eq (by rw [i32_add hs.2.2.1 (by decide : (1 : Int32).toInt = 1) (by omega) (by omega)]; omega)
    rw [i1zz, hs.2.1] at hzz
    rcases z_if hzz with ⟨c0zz, hzz⟩ | ⟨c0zz, hzz⟩
    · have c0zz := cv_le (a := (n : Int)) (b := (izz : Int)) hn1 e9zz c0zz
      have hzz := Option.some.inj hzz
      rw [← hzz]
      by_cases qzz : vzz = -9000000000000000000
      · exact Or.inl ⟨qzz, hI.1 qzz⟩
      · refine Or.inr ⟨qzz, hI.2 qzz ?_⟩
        rcases hv with ⟨gzz, -⟩ | ⟨-, mzz, g2, g3zz, g4, g5zz⟩
        · exact absurd gzz qzz
        · exact ⟨mzz, by omega, g2, g3zz, g4, g5zz⟩
    · have c0zz := cv_nle (a := (n : Int)) (b := (izz : Int)) hn1 e9zz c0zz
      obtain ⟨x15, exzz, hzz⟩ := z_lt hzz
      have hzz := (z_gd hzz).2
      have tx : x15.toInt = 84 + 900 * (l : Int) + 2 + 8 * (izz : Int) := by
        rw [exzz]
        exact i32_add (i32_add hs.2.2.1 (by decide : (2 : Int32).toInt = 2) (by omega) (by omega)) (i32_mul (by decide : (8 : Int32).toInt = 8) e9zz (by omega) (by omega)) (by omega) (by omega)
      have ix := ixp0 tx
      rw [ix] at hzz
      have t10 : (v9 + (1 : Int32)).toInt = ((izz + 1 : Nat) : Int) := Eq.trans (i32_add e9zz (by decide : (1 : Int32).toInt = 1) (by omega) (by omega)) (by omega)
      have kk : gA oc 0 izz = clL Gzz l (8 * izz) := by
        obtain ⟨_, _, _, _, _, _, _, k0zz, -⟩ := hczz izz (by omega)
        exact k0zz
      have nxtzz : ∀ (w7zz : Int64) (o' : Ob), RSt Gzz Wzz l o' → ((vzz = -9000000000000000000 → w7zz = wo) ∧ (¬ vzz = -9000000000000000000 → (∃ mzz, mzz < izz + 1 ∧ mzz < n ∧ gA oc 0 mzz = Kzz ∧ RYes Gzz Wzz l mzz vzz ∧ ∀ m', mzz < m' → m' < n → gA oc 0 m' = Kzz → RNo Gzz Wzz l m') → w7zz = if Kzz = 3 then 1 else vzz)) → bk_X9_tells_224 (lp_X9_tells_159 Nzz) Kzz w7zz v9 o' = some yzz → (vzz = -9000000000000000000 ∧ yzz.1 = wo) ∨ (¬ vzz = -9000000000000000000 ∧ yzz.1 = if Kzz = 3 then 1 else vzz) := by
        intro w7zz o' hs' hI' hbzz
        unfold bk_X9_tells_224 at hbzz
        obtain ⟨x17, e17zz, hbzz⟩ := z_lt hbzz
        rw [← e17zz] at t10
        exact ihzz w7zz x17 o' (izz + 1) t10 (by omega) hs' hI' hbzz
      have keepzz : (∀ (mzz : Nat), mzz = izz → gA oc 0 mzz = Kzz → RYes Gzz Wzz l mzz vzz → False) → ((vzz = -9000000000000000000 → v7 = wo) ∧ (¬ vzz = -9000000000000000000 → (∃ mzz, mzz < izz + 1 ∧ mzz < n ∧ gA oc 0 mzz = Kzz ∧ RYes Gzz Wzz l mzz vzz ∧ ∀ m', mzz < m' → m' < n → gA oc 0 m' = Kzz → RNo Gzz Wzz l m') → v7 = if Kzz = 3 then 1 else vzz)) := by
        intro hno
        refine ⟨hI.1, fun qzz ⟨mzz, m1zz, m2zz, m3zz, m4zz, m5zz⟩ => hI.2 qzz ⟨mzz, ?_, m2zz, m3zz, m4zz, m5zz⟩⟩
        by_cases qq : mzz = izz
        · exact absurd m4zz (fun zzz => hno mzz qq m3zz zzz)
        · omega
      rcases z_if hzz with ⟨c1zz, hzz⟩ | ⟨c1zz, hzz⟩
      · obtain ⟨z18, e18zz, hzz⟩ := z_bd hzz
        have hs8 : RSt Gzz Wzz l z18.2 := hs.fr (fr_f_X9_isSo e18zz)
        have kK : gA oc 0 izz = Kzz := kk.trans c1zz
        rcases z_if hzz with ⟨c2zz, hzz⟩ | ⟨c2zz, hzz⟩
        · exact nxtzz v7 z18.2 hs8 (keepzz (fun mzz em _ hy => by subst em; exact (hy o x15 z18 hs tx e18zz).1 c2zz)) hzz
        · -- it holds
          have hval : ¬ vzz = -9000000000000000000 → (∃ mzz, mzz < izz + 1 ∧ mzz < n ∧ gA oc 0 mzz = Kzz ∧ RYes Gzz Wzz l mzz vzz ∧ ∀ m', mzz < m' → m' < n → gA oc 0 m' = Kzz → RNo Gzz Wzz l m') → (Kzz = 3 ∨ gL z18.2 40 = vzz) := by
            intro qzz ⟨mzz, m1zz, m2zz, m3zz, m4zz, m5zz⟩
            by_cases qq : mzz = izz
            · subst qq
              by_cases q3zz : Kzz = 3
              · exact Or.inl q3zz
              · exact Or.inr ((m4zz o x15 z18 hs tx e18zz).2 (fun zzz => q3zz (kK.symm.trans (kk.trans zzz))))
            · exact absurd (m5zz izz (by omega) (by omega) kK o x15 z18 hs tx e18zz) c2zz
          have hbrk : ¬ vzz = -9000000000000000000 := by
            intro qzz
            rcases hv with ⟨-, gzz⟩ | ⟨gzz, -⟩
            · exact c2zz (gzz izz (by omega) kK o x15 z18 hs tx e18zz)
            · exact gzz qzz
          rcases z_if hzz with ⟨c3zz, hzz⟩ | ⟨c3zz, hzz⟩
          · unfold bk_X9_tells_222 at hzz
            exact nxtzz 1 z18.2 hs8 ⟨fun qzz => absurd qzz hbrk, fun _ _ => by rw [if_pos c3zz]⟩ hzz
          · unfold bk_X9_tells_222 at hzz
            refine nxtzz (gL z18.2 40) z18.2 hs8 ⟨fun qzz => absurd qzz hbrk, fun qzz wzz => ?_⟩ hzz
            rw [if_neg c3zz]
            rcases hval qzz wzz with uzz | uzz
            · exact absurd uzz c3zz
            · exact uzz
      · exact nxtzz v7 o hs (keepzz (fun mzz em hk _ => by subst em; exact c1zz (kk.symm.trans hk))) hzz
