-- the clauses of orders, one behind the other
set_option maxHeartbeats 200000 in
theorem osum_20 {o : Ob} {pzz : Int32} {zzz : Int32 × Ob} (h0 : gI o 20 = 0) (hzz : f_X9_orderSum o pzz = some zzz) : gI zzz.2 20 = 0 := by
  unfold f_X9_orderSum at hzz
  rcases z_if hzz with ⟨-, hzz⟩ | ⟨-, hzz⟩
  · have hzz := (z_gd (z_gd hzz).2).2
    rcases z_if hzz with ⟨-, hzz⟩ | ⟨-, hzz⟩
    · rw [← Option.some.inj hzz]; exact h0
    · obtain ⟨o3zz, e3zz, hzz⟩ := z_lt hzz
      have hzz := (z_gd (z_gd hzz).2).2
      obtain ⟨wzz, ew, hzz⟩ := z_bd hzz
      obtain ⟨o7, e7zz, hzz⟩ := z_lt hzz
      have hzz := (z_gd hzz).2
      obtain ⟨o9, e9zz, hzz⟩ := z_lt hzz
      rw [← Option.some.inj hzz, e9zz, e7zz]; rfl
  · rw [← Option.some.inj hzz]; exact h0
set_option maxHeartbeats 200000 in
theorem run106_20 {o : Ob} {xzz : Int32} {yzz : Int32 × Ob} (h0 : gI o 20 = 0) (hzz : bk_X9_run_106 xzz o = some yzz) : gI yzz.2 20 = 0 := by
  unfold bk_X9_run_106 at hzz
  obtain ⟨zzz, ezz, hzz⟩ := z_bd hzz
  have kzz := osum_20 h0 ezz
  rcases z_if hzz with ⟨-, hzz⟩ | ⟨-, hzz⟩
  · have hzz := (z_gd hzz).2
    obtain ⟨wzz, e2zz, hzz⟩ := z_bd hzz
    have k2zz : gI wzz.2 20 = 0 := ((fr_f_X9_act e2zz).I 20 rfl).trans kzz
    rcases z_if hzz with ⟨-, hzz⟩ | ⟨-, hzz⟩
    · have hzz := (z_gd hzz).2
      rcases z_if hzz with ⟨-, hzz⟩ | ⟨-, hzz⟩
      · unfold bk_X9_run_161 at hzz
        obtain ⟨o14, g14, hzz⟩ := z_lt hzz
        obtain ⟨o15, g15, hzz⟩ := z_lt hzz
        rw [← Option.some.inj hzz, g15, g14]; exact k2zz
      · unfold bk_X9_run_161 at hzz
        obtain ⟨o14, g14, hzz⟩ := z_lt hzz
        obtain ⟨o15, g15, hzz⟩ := z_lt hzz
        rw [← Option.some.inj hzz, g15, g14]; exact k2zz
    · rw [← Option.some.inj hzz]; exact k2zz
  · rw [← Option.some.inj hzz]; exact kzz
set_option maxHeartbeats 200000 in
theorem run_20 {o : Ob} {xzz : Int32} {yzz : Int32 × Ob} (h0 : gI o 20 = 0) (hzz : f_X9_run o xzz = some yzz) : gI yzz.2 20 = 0 := by
  unfold f_X9_run at hzz
  obtain ⟨o1, g1, hzz⟩ := z_lt hzz
  obtain ⟨o2, g2, hzz⟩ := z_lt hzz
  obtain ⟨o3zz, g3zz, hzz⟩ := z_lt hzz
  obtain ⟨o4zz, g4, hzz⟩ := z_lt hzz
  obtain ⟨w5, e5zz, hzz⟩ := z_bd hzz
  obtain ⟨o6, g6, hzz⟩ := z_lt hzz
  obtain ⟨o7, g7, hzz⟩ := z_lt hzz
  have k7zz : gI o7 20 = 0 := by rw [g7, g6, g4, g3zz, g2, g1]; exact h0
  have hzz := (z_gd (z_gd hzz).2).2
  rcases z_if hzz with ⟨-, hzz⟩ | ⟨-, hzz⟩
  · exact run106_20 k7zz hzz
  · obtain ⟨zzz, ezz, hzz⟩ := z_bd hzz
    have kzz := osum_20 k7zz ezz
    rcases z_if hzz with ⟨-, hzz⟩ | ⟨-, hzz⟩
    · rcases z_if hzz with ⟨-, hzz⟩ | ⟨-, hzz⟩
      · rw [← Option.some.inj hzz]; exact kzz
      · exact run106_20 kzz hzz
    · rw [← Option.some.inj hzz]; exact kzz
set_option maxHeartbeats 200000 in
theorem end_20 {o zzz : Ob} (hzz : f_X9_endText o = some zzz) : gI zzz 20 = 0 := by
  have ezz : ∀ wzz : Ob, bk_X9_endText_19 wzz = some zzz → gI zzz 20 = 0 := by
    intro wzz hzz
    unfold bk_X9_endText_19 at hzz
    obtain ⟨q1zz, gq1, hzz⟩ := z_lt hzz
    obtain ⟨q2zz, gq2, hzz⟩ := z_lt hzz
    rw [← Option.some.inj hzz, gq2, gq1]; rfl
  unfold f_X9_endText at hzz
  rcases z_if hzz with ⟨-, hzz⟩ | ⟨-, hzz⟩
  · rcases z_if hzz with ⟨-, hzz⟩ | ⟨-, hzz⟩
    · exact ezz _ hzz
    · obtain ⟨wzz, -, hzz⟩ := z_bd hzz
      exact ezz _ hzz
  · exact ezz _ hzz
def OJ (pl : List CR) (isl : Ob) (n : Nat) (oc : Ob) (qzz K1 K2 : Nat) (o0zz o8zz mv pa o : Ob) (Dzz : Nat) : Prop :=
  TzS pl isl mv pa o n ∧ (gI o8zz 15 = gI o 56 ∧ gI o8zz 16 = gI o 57) ∧ (StT o8zz o ∧ gI o8zz 14 = gI o 58) ∧ BfR o0zz o ∧ RwC n (gA o0zz 3) (gA o 3) ∧ (gI o 21).toInt = (qzz : Int) ∧ (∀ mzz, mzz < qzz → ClE true oc (gA o 55) (gA o 24) (gA o 25) mzz K1 K2) ∧ (∃ d : Nat, (gI o 56).toInt = (d : Int) ∧ d ≤ Dzz)
def OrdO (pl : List CR) (isl : Ob) (n : Nat) (o0zz : Ob) (yzz : Int32 × Ob × Ob × Ob × Ob × Ob × Ob × Ob × Ob × Ob) (y' : Int32 × Ob) : Prop := yzz.1 = y'.1 ∧ TzS pl isl yzz.2.2.2.2.2.1 yzz.2.2.2.2.2.2.2.1 y'.2 n ∧ RwC n (gA o0zz 3) (gA y'.2 3) ∧ StT yzz.2.1 y'.2 ∧ gI yzz.2.1 14 = gI y'.2 58
set_option maxHeartbeats 200000 in
theorem ord_in {pl : List CR} {isl oc o0zz mv0 pa0 mvAzz paA rd : Ob} {n qzz K1 K2 nc ns mzz : Nat} {v3 : Int32} {rec78 : Int32 × Ob × Ob × Ob × Ob × Ob × Ob × Ob × Ob × Ob → Option (Int32 × Ob × Ob × Ob × Ob × Ob × Ob × Ob × Ob × Ob)} {rec140 : Int32 × Int32 × Ob → Option (Int32 × Ob)} {yzz : Int32 × Ob × Ob × Ob × Ob × Ob × Ob × Ob × Ob × Ob} {y' : Int32 × Ob}
    (hS0 : TzS pl isl mv0 pa0 o0zz n) (hC : BfC mv0 pa0 mvAzz paA) (hK8 : (gI oc 8).toInt = (K1 : Int)) (hK1 : K1 ≤ 400) (hK2 : K2 ≤ 400) (hq : qzz ≤ 12) (hmzz : mzz < qzz) (e3zz : v3.toInt = (mzz : Int))
    (hrec : ∀ (xzz : Int32) (o8zz mezz mv czz pa o : Ob), xzz.toInt = ((mzz + 1 : Nat) : Int) → OJ pl isl n oc qzz K1 K2 o0zz o8zz mv pa o (20 * (mzz + 1)) → rec78 (xzz, o8zz, rd, oc, mezz, mv, czz, pa, paA, mvAzz) = some yzz → rec140 (gI o0zz 8, xzz, o) = some y' → OrdO pl isl n o0zz yzz y') :
    ∀ (Nzz N' : Nat) (v4zz : Int32) (o8zz mezz mv czz pa o : Ob) (t : Nat), v4zz.toInt = (t : Int) → t ≤ 20 → OJ pl isl n oc qzz K1 K2 o0zz o8zz mv pa o (20 * mzz + t) → lp_X8_orders_89 nc ns isl pl rec78 Nzz (v3, v4zz, o8zz, rd, oc, mezz, mv, czz, pa, paA, mvAzz) = some yzz → lp_X9_orders_150 rec140 N' (gI o0zz 8, v3, v4zz, o) = some y' → OrdO pl isl n o0zz yzz y' := by
  intro Nzz
  induction Nzz with
  | zero => intro N' v4zz o8zz mezz mv czz pa o t _ _ _ h1; cases h1
  | succ Nzz ihzz =>
    intro N' v4zz o8zz mezz mv czz pa o t e4zz ht hJ h1 h2
    cases N' with
    | zero => cases h2
    | succ N' =>
    obtain ⟨hSzz, ⟨hdzz, hl⟩, ⟨hst, h14⟩, hBzz, hw, h21, hcl, d, ed, hdD⟩ := hJ
    have h1 : lb_X8_orders_89 nc ns isl pl rec78 (lp_X8_orders_89 nc ns isl pl rec78 Nzz) v3 v4zz o8zz rd oc mezz mv czz pa paA mvAzz = some yzz := h1
    have h2 : lb_X9_orders_150 rec140 (lp_X9_orders_150 rec140 N') (gI o0zz 8) v3 v4zz o = some y' := h2
    unfold lb_X8_orders_89 at h1
    unfold lb_X9_orders_150 at h2
    have i3zz : v3.toNatClampNeg = mzz := tnc_eq e3zz
    have t8 : ((8 : Int32) * v3).toInt = 8 * (mzz : Int) := i32_mul (by decide : (8 : Int32).toInt = 8) e3zz (by omega) (by omega)
    have i7zz : (((8 : Int32) * v3) + (7 : Int32)).toNatClampNeg = 8 * mzz + 7 := tnc_eq (by rw [i32_add t8 (by decide : (7 : Int32).toInt = 7) (by omega) (by omega)]; omega)
    rw [i3zz] at h1
    rw [i7zz] at h2
    have h1 := (z_gd h1).2
    have h2 := (z_gd h2).2
    have hcm := hcl mzz hmzz
    obtain ⟨_, _, _, _, _, _, _, _, _, _, _, _, _, _, _, _, _, _, _, htm⟩ := id hcm
    obtain ⟨m1zz, m2zz, m3zz⟩ := htm rfl
    rw [← m1zz] at h2
    by_cases c0zz : gA oc 1 mzz ≤ v4zz
    · have h1 := z_t h1 c0zz
      have h2 := z_t h2 c0zz
      obtain ⟨x10, g10, h1⟩ := z_lt h1
      obtain ⟨x12, g12, h2⟩ := z_lt h2
      have qx : x12 = x10 := g12.trans g10.symm
      rw [qx] at h2
      have tx : x10.toInt = ((mzz + 1 : Nat) : Int) := by rw [g10]; exact Eq.trans (i32_add e3zz (by decide : (1 : Int32).toInt = 1) (by omega) (by omega)) (by omega)
      exact hrec x10 o8zz mezz mv czz pa o tx ⟨hSzz, ⟨hdzz, hl⟩, ⟨hst, h14⟩, hBzz, hw, h21, hcl, d, ed, by omega⟩ h1 h2
    · have c0' := cv_nle (a := (gA oc 1 mzz).toInt) (b := (t : Int)) rfl e4zz c0zz
      have h1 := z_f h1 c0zz
      have h2 := z_f h2 c0zz
      obtain ⟨z11, k11, h1⟩ := z_bd h1
      obtain ⟨w13zz, k13, h2⟩ := z_bd h2
      have f8zz := (fr_f_X8_obey_O k11).1
      have f9zz := fr_f_X9_run k13
      obtain ⟨r1zz, r2, r3⟩ := run_eq hSzz hdzz hl hK8 hK1 hK2 (by omega) hcm e3zz t8 k11 k13
      have hw' : RwC n (gA o0zz 3) (gA w13zz.2 3) := hw.tr r1zz
      have hB' : BfR o0zz w13zz.2 := ⟨fun jzz hj => by rw [f9zz.A 9 rfl]; exact hBzz.1 jzz hj, fun jzz hj => by rw [f9zz.A 10 rfl]; exact hBzz.2.1 jzz hj, fun t' ht' => by rw [r2 (425 + t') (by omega)]; exact hBzz.2.2 t' ht'⟩
      have hst' : StT z11.2.1 w13zz.2 := hst.eq (f8zz.I 12 rfl) (f8zz.A 11 rfl) (f9zz.I 1 rfl) (f9zz.A 2 rfl)
      rcases r3 with ⟨u1zz, u2zz⟩ | ⟨u1zz, u2zz, u3, u4zz, u5, u6⟩
      · have h1 := z_t h1 u1zz
        have h2 := z_f h2 (by rw [u2zz]; decide)
        obtain ⟨o13, g13, h1⟩ := z_lt h1
        obtain ⟨z14zz, k14, h1⟩ := z_bd h1
        obtain ⟨z15, k15, h1⟩ := z_bd h1
        obtain ⟨z16, k16, h1⟩ := z_bd h1
        have h1 := Option.some.inj h1
        obtain ⟨w15, l15, h2⟩ := z_bd h2
        obtain ⟨o16, l16, h2⟩ := z_lt h2
        obtain ⟨w17, l17, h2⟩ := z_bd h2
        have h2 := Option.some.inj h2
        have fg := fr_f_X9_giveBack l15
        have ft := fr_f_X9_tell l17
        have fr := fr_f_X8_refuse k16
        have k20 : gI w13zz.2 20 = 0 := run_20 hSzz.2.2.2.2.1 k13
        obtain ⟨v1zz, v2⟩ := give_eq hS0 hB' hC hw' k20 k14 k15 l15
        have hs16 : StT o13 o16 := hst'.eq (by rw [g13]; rfl) (by rw [g13]; rfl) (by rw [l16]; exact fg.I 1 rfl) (by rw [l16]; exact fg.A 2 rfl)
        obtain ⟨s1zz, s2zz, s3zz⟩ := st_refuse hs16 (Or.inr (Or.inr (Or.inl rfl))) k16 l17
        have e3' : gA w17.2 3 = gA w15 3 := (ft.A 3 rfl).trans (by rw [l16]; rfl)
        rw [← h1, ← h2]
        refine ⟨s1zz.trans s2zz.symm, ?_, ?_, s3zz, ?_⟩
        · exact v1zz.sc e3' ((ft.I 8 rfl).trans (by rw [l16]; rfl)) ((ft.A 6 rfl).trans (by rw [l16]; rfl)) ((ft.A 7 rfl).trans (by rw [l16]; rfl)) ((ft.I 20 rfl).trans (by rw [l16]; rfl))
        · show RwC n (gA o0zz 3) (gA w17.2 3)
          rw [e3', v2]; exact RwC.rf
        · show gI z16.2 14 = gI w17.2 58
          rw [fr.I 14 rfl, ft.I 58 rfl, g13, l16]; rfl
      · have h1 := z_f h1 (by rw [u1zz]; decide)
        have h2 := z_t h2 (by rw [u2zz]; decide)
        obtain ⟨x12, g12, h1⟩ := z_lt h1
        obtain ⟨x14, l14, h2⟩ := z_lt h2
        have qx : x14 = x12 := l14.trans g12.symm
        rw [qx] at h2
        have tx : x12.toInt = ((t + 1 : Nat) : Int) := by rw [g12]; exact Eq.trans (i32_add e4zz (by decide : (1 : Int32).toInt = 1) (by omega) (by omega)) (by omega)
        have hdn : ∃ d' : Nat, (gI w13zz.2 56).toInt = (d' : Int) ∧ d' ≤ 20 * mzz + (t + 1) := by
          rcases u6 with uzz | uzz
          · exact ⟨d, by rw [uzz]; exact ed, by omega⟩
          · exact ⟨d + 1, by rw [uzz]; exact Eq.trans (i32_add ed (by decide : (1 : Int32).toInt = 1) (by omega) (by omega)) (by omega), by omega⟩
        exact ihzz N' x12 z11.2.1 z11.2.2.1 z11.2.2.2.1 z11.2.2.2.2.1 z11.2.2.2.2.2 w13zz.2 (t + 1) tx (by omega) ⟨u3, ⟨u4zz, u5⟩, ⟨hst', by rw [f8zz.I 14 rfl, f9zz.I 58 rfl]; exact h14⟩, hB', hw', by rw [f9zz.I 21 rfl]; exact h21, fun m' hm' => by rw [f9zz.A 55 rfl, f9zz.A 24 rfl, f9zz.A 25 rfl]; exact hcl m' hm', hdn⟩ h1 h2
set_option maxHeartbeats 200000 in
theorem ord_out {pl : List CR} {isl oc o0zz mv0 pa0 mvAzz paA rd : Ob} {n qzz K1 K2 nc ns : Nat} {yzz : Int32 × Ob × Ob × Ob × Ob × Ob × Ob × Ob × Ob × Ob} {y' : Int32 × Ob}
    (hS0 : TzS pl isl mv0 pa0 o0zz n) (hC : BfC mv0 pa0 mvAzz paA) (hK8 : (gI oc 8).toInt = (K1 : Int)) (hK1 : K1 ≤ 400) (hK2 : K2 ≤ 400) (hq : qzz ≤ 12) (h7 : (gI oc 7).toInt = (qzz : Int)) :
    ∀ (Nzz N' : Nat) (v3 : Int32) (o8zz mezz mv czz pa o : Ob) (mzz : Nat), v3.toInt = (mzz : Int) → mzz ≤ qzz → OJ pl isl n oc qzz K1 K2 o0zz o8zz mv pa o (20 * mzz) → lp_X8_orders_78 nc ns isl pl Nzz (v3, o8zz, rd, oc, mezz, mv, czz, pa, paA, mvAzz) = some yzz → lp_X9_orders_140 N' (gI o0zz 8, v3, o) = some y' → OrdO pl isl n o0zz yzz y' := by
  intro Nzz
  induction Nzz with
  | zero => intro N' v3 o8zz mezz mv czz pa o mzz _ _ _ h1; cases h1
  | succ Nzz ihzz =>
    intro N' v3 o8zz mezz mv czz pa o mzz e3zz hmzz hJ h1 h2
    cases N' with
    | zero => cases h2
    | succ N' =>
    have h1 : lb_X8_orders_78 nc ns isl pl (lp_X8_orders_78 nc ns isl pl Nzz) v3 o8zz rd oc mezz mv czz pa paA mvAzz = some yzz := h1
    have h2 : lb_X9_orders_140 (lp_X9_orders_140 N') (gI o0zz 8) v3 o = some y' := h2
    unfold lb_X8_orders_78 at h1
    unfold lb_X9_orders_140 at h2
    have e21zz : gI o 21 = gI oc 7 := Int32.toInt_inj.mp (by rw [hJ.2.2.2.2.2.1, h7])
    rw [e21zz] at h2
    by_cases c0zz : gI oc 7 ≤ v3
    · obtain ⟨hSzz, ⟨hdzz, hl⟩, ⟨hst, h14⟩, hBzz, hw, h21, hcl, d, ed, hdD⟩ := hJ
      have h1 := z_t h1 c0zz
      have h2 := z_t h2 c0zz
      obtain ⟨z8, k8zz, h1⟩ := z_bd h1
      obtain ⟨w10zz, k10, h2⟩ := z_bd h2
      have h1 := Option.some.inj h1
      have h2 := Option.some.inj h2
      rw [hdzz] at k8zz
      obtain ⟨s1zz, s2zz, s3zz⟩ := st_grant hst (by omega) k8zz k10
      have ft := fr_f_X9_tell k10
      have fg := fr_f_X8_grant k8zz
      rw [← h1, ← h2]
      refine ⟨s1zz.trans s2zz.symm, hSzz.sc (ft.A 3 rfl) (ft.I 8 rfl) (ft.A 6 rfl) (ft.A 7 rfl) (ft.I 20 rfl), ?_, s3zz, ?_⟩
      · show RwC n (gA o0zz 3) (gA w10zz.2 3)
        rw [ft.A 3 rfl]; exact hw
      · show gI z8.2 14 = gI w10zz.2 58
        rw [fg.I 14 rfl, ft.I 58 rfl]; exact h14
    · have h1 := z_f h1 c0zz
      have h2 := z_f h2 c0zz
      have c0' := cv_nle (a := (qzz : Int)) (b := (mzz : Int)) h7 e3zz c0zz
      exact ord_in hS0 hC hK8 hK1 hK2 hq (by omega) e3zz (fun xzz o8' me' mv' c' pa' o' exzz hJ' g1 g2 => ihzz N' xzz o8' me' mv' c' pa' o' (mzz + 1) exzz (by omega) hJ' g1 g2) zfu zfu 0 o8zz mezz mv czz pa o 0 (by decide) (by omega) hJ h1 h2
def dB9 : DD := ([], [], [9, 10], [], [])
set_option maxHeartbeats 200000 in
theorem ord77 {yzz : Int32 × Ob} {qzz : Int32} : ∀ (Nzz : Nat) (vzz : Int32) (o : Ob) (izz : Nat), vzz.toInt = (izz : Int) → izz ≤ 400 → lp_X9_orders_77 Nzz (qzz, vzz, o) = some yzz → ∃ o1, lp_X9_orders_104 zfu (qzz, 0, o1) = some yzz ∧ (∀ jzz, gA o1 9 jzz = if izz ≤ jzz ∧ jzz < 400 then gA o 6 jzz else gA o 9 jzz) ∧ FrX dB9 o o1 := by
  intro Nzz
  induction Nzz with
  | zero => intro vzz o izz _ _ hzz; cases hzz
  | succ Nzz ihzz =>
    intro vzz o izz evzz hizz hzz
    have hzz : lb_X9_orders_77 (lp_X9_orders_77 Nzz) qzz vzz o = some yzz := hzz
    unfold lb_X9_orders_77 at hzz
    rcases z_if hzz with ⟨czz, hzz⟩ | ⟨czz, hzz⟩
    · have czz := cv_le (a := 400) (b := (izz : Int)) (by decide) evzz czz
      exact ⟨o, hzz, fun jzz => by rw [if_neg (by omega)], FrX.rf⟩
    · have czz := cv_nle (a := 400) (b := (izz : Int)) (by decide) evzz czz
      have ivzz : vzz.toNatClampNeg = izz := tnc_eq evzz
      rw [ivzz] at hzz
      have hzz := (z_gd (z_gd hzz).2).2
      obtain ⟨o5zz, e5zz, hzz⟩ := z_lt hzz
      obtain ⟨x6, e6zz, hzz⟩ := z_lt hzz
      obtain ⟨o1, r0, r1zz, r2⟩ := ihzz x6 o5zz (izz + 1) (by rw [e6zz]; exact Eq.trans (i32_add evzz (by decide : (1 : Int32).toInt = 1) (by omega) (by omega)) (by omega)) (by omega) hzz
      have a9 : ∀ jzz, gA o5zz 9 jzz = if jzz = izz then gA o 6 izz else gA o 9 jzz := fun jzz => by rw [e5zz]; rfl
      have a6 : gA o5zz 6 = gA o 6 := by rw [e5zz]; rfl
      refine ⟨o1, r0, fun jzz => ?_, FrX.tr (by rw [e5zz]; exact FrX.tA FrX.rf rfl) r2⟩
      rw [r1zz, a6, a9]
      by_cases d : jzz = izz
      · rw [if_neg (by omega), if_pos d, if_pos (by omega), d]
      · by_cases d2zz : izz ≤ jzz ∧ jzz < 400
        · rw [if_pos (by omega), if_pos d2zz]
        · rw [if_neg (by omega), if_neg d, if_neg d2zz]
set_option maxHeartbeats 200000 in
theorem ord104 {yzz : Int32 × Ob} {qzz : Int32} : ∀ (Nzz : Nat) (vzz : Int32) (o : Ob) (izz : Nat), vzz.toInt = (izz : Int) → izz ≤ 16 → lp_X9_orders_104 Nzz (qzz, vzz, o) = some yzz → ∃ o1, lp_X9_orders_140 zfu (qzz, 0, sI (sI o1 56 0) 57 (-1)) = some yzz ∧ (∀ jzz, gA o1 10 jzz = if izz ≤ jzz ∧ jzz < 16 then gA o 7 jzz else gA o 10 jzz) ∧ gA o1 9 = gA o 9 ∧ FrX dB9 o o1 := by
  intro Nzz
  induction Nzz with
  | zero => intro vzz o izz _ _ hzz; cases hzz
  | succ Nzz ihzz =>
    intro vzz o izz evzz hizz hzz
    have hzz : lb_X9_orders_104 (lp_X9_orders_104 Nzz) qzz vzz o = some yzz := hzz
    unfold lb_X9_orders_104 at hzz
    rcases z_if hzz with ⟨czz, hzz⟩ | ⟨czz, hzz⟩
    · have czz := cv_le (a := 16) (b := (izz : Int)) (by decide) evzz czz
      obtain ⟨o8zz, e8, hzz⟩ := z_lt hzz
      obtain ⟨o9, e9zz, hzz⟩ := z_lt hzz
      rw [e9zz, e8] at hzz
      exact ⟨o, hzz, fun jzz => by rw [if_neg (by omega)], rfl, FrX.rf⟩
    · have czz := cv_nle (a := 16) (b := (izz : Int)) (by decide) evzz czz
      have ivzz : vzz.toNatClampNeg = izz := tnc_eq evzz
      rw [ivzz] at hzz
      have hzz := (z_gd (z_gd hzz).2).2
      obtain ⟨o5zz, e5zz, hzz⟩ := z_lt hzz
      obtain ⟨x6, e6zz, hzz⟩ := z_lt hzz
      obtain ⟨o1, r0, r1zz, r9, r2⟩ := ihzz x6 o5zz (izz + 1) (by rw [e6zz]; exact Eq.trans (i32_add evzz (by decide : (1 : Int32).toInt = 1) (by omega) (by omega)) (by omega)) (by omega) hzz
      have a9 : ∀ jzz, gA o5zz 10 jzz = if jzz = izz then gA o 7 izz else gA o 10 jzz := fun jzz => by rw [e5zz]; rfl
      have a6 : gA o5zz 7 = gA o 7 := by rw [e5zz]; rfl
      refine ⟨o1, r0, fun jzz => ?_, r9.trans (by rw [e5zz]; rfl), FrX.tr (by rw [e5zz]; exact FrX.tA FrX.rf rfl) r2⟩
      rw [r1zz, a6, a9]
      by_cases d : jzz = izz
      · rw [if_neg (by omega), if_pos d, if_pos (by omega), d]
      · by_cases d2zz : izz ≤ jzz ∧ jzz < 16
        · rw [if_pos (by omega), if_pos d2zz]
        · rw [if_neg (by omega), if_neg d, if_neg d2zz]
set_option maxHeartbeats 200000 in
/-- orders in both -/
theorem orders_eq {pl : List CR} {isl mv pa czz mezz o8zz rd oc paA mvAzz o : Ob} {n : Nat} {yzz : Int32 × Ob × Ob × Ob × Ob × Ob × Ob × Ob × Ob × Ob} {y' : Int32 × Ob} (hSzz : TzS pl isl mv pa o n) (hst : StT o8zz o) (hz : TZ rd o) (ht : TbW o) (hH : HDs o) (h1 : f_X8_orders 12 400 o8zz rd oc mezz isl mv czz pa paA mvAzz pl = some yzz) (h2 : f_X9_orders o = some y') : OrdO pl isl n o yzz y' := by
  unfold f_X8_orders at h1
  obtain ⟨p1zz, g1, h1⟩ := z_lt h1
  obtain ⟨z2, k2zz, h1⟩ := z_bd h1
  obtain ⟨p3zz, g3zz, h1⟩ := z_lt h1
  unfold f_X9_orders at h2
  obtain ⟨o1, l1, h2⟩ := z_lt h2
  obtain ⟨o2, l2, h2⟩ := z_lt h2
  obtain ⟨z3, l3, h2⟩ := z_bd h2
  obtain ⟨z4, l4, h2⟩ := z_bd h2
  have A2 : ∀ izz, gA o2 izz = gA o izz := fun izz => by rw [l2, l1]; rfl
  have M2zz : ∀ izz, gM o2 izz = gM o izz := fun izz => by rw [l2, l1]; rfl
  have k13 : gI o2 13 = gI o 13 := by rw [l2, l1]; rfl
  have hz2 : TZ rd o2 := ⟨by rw [k13]; exact hz.1, by rw [A2]; exact hz.2.1, by rw [k13]; exact hz.2.2.1, by rw [k13]; exact hz.2.2.2⟩
  have ht2 : TbW o2 := ⟨fun kzz hk => by rw [M2zz]; exact ht.1 kzz hk, fun kzz hk => by rw [M2zz]; exact ht.2 kzz hk⟩
  have hH2 : HDs o2 := ⟨fun kzz hk => by rw [M2zz]; exact hH.1 kzz hk, fun kzz hk => by rw [M2zz]; exact hH.2 kzz hk⟩
  obtain ⟨wzz, hw, ⟨w3zz, wF⟩, hx⟩ := parse_O hz2 ht2 hH2 k2zz l3 l4 h2
  rw [A2] at w3zz
  unfold bk_X9_orders_46 at hw
  obtain ⟨z5, k5zz, hw⟩ := z_bd hw
  have f5zz := fr_f_X9_endText k5zz
  have hst1 : StT p1zz z5 := hst.eq (by rw [g1]; rfl) (by rw [g1]; rfl) ((f5zz.I 1 rfl).trans ((wF.I 1 rfl).trans (by rw [l2, l1]; rfl))) ((f5zz.A 2 rfl).trans ((wF.A 2 rfl).trans (A2 2)))
  have e53 : gA z5 3 = gA o 3 := (f5zz.A 3 rfl).trans w3zz
  have k20 : gI z5 20 = 0 := end_20 k5zz
  have e58 : gI z5 58 = -1 := (f5zz.I 58 rfl).trans ((wF.I 58 rfl).trans (by rw [l2]; rfl))
  have hS5 : TzS pl isl mv pa z5 n := hSzz.sc e53 ((f5zz.I 8 rfl).trans ((wF.I 8 rfl).trans (by rw [l2, l1]; rfl))) ((f5zz.A 6 rfl).trans ((wF.A 6 rfl).trans (A2 6))) ((f5zz.A 7 rfl).trans ((wF.A 7 rfl).trans (A2 7))) (k20.trans hSzz.2.2.2.2.1.symm)
  have e14zz : gI p1zz 14 = gI z5 58 := by rw [e58, g1]; rfl
  rcases hx with ⟨a1zz, hbzz⟩ | ⟨a1zz, a2, a3, k1zz, k2', qzz, hq1, hq2, hC⟩
  · -- no text
    have h1 := z_t h1 a1zz
    have e19zz : ¬ gI z5 19 = 0 := by
      unfold f_X9_endText at k5zz
      rcases hbzz with ⟨b1, b2⟩ | ⟨b1, b2, b3⟩
      · have k5zz := z_f k5zz (by rw [b1]; decide)
        unfold bk_X9_endText_19 at k5zz
        obtain ⟨q1zz, gq1, k5zz⟩ := z_lt k5zz
        obtain ⟨q2zz, gq2, k5zz⟩ := z_lt k5zz
        rw [← Option.some.inj k5zz, gq2, gq1]
        show ¬ gI wzz 19 = 0
        rw [b1]; decide
      · obtain ⟨zm, ezm, k5zz⟩ := z_bd (z_f (z_t k5zz b1) b2)
        have em := mu_no b1 ezm
        unfold bk_X9_endText_19 at k5zz
        obtain ⟨q1zz, gq1, k5zz⟩ := z_lt k5zz
        obtain ⟨q2zz, gq2, k5zz⟩ := z_lt k5zz
        rw [← Option.some.inj k5zz, gq2, gq1, em]
        show ¬ (1 : Int32) = 0
        decide
    obtain ⟨z17, k17, h1⟩ := z_bd h1
    have h1 := Option.some.inj h1
    obtain ⟨w26, k26, hw⟩ := z_bd (z_f hw e19zz)
    have hw := Option.some.inj hw
    obtain ⟨s1zz, s2zz, s3zz⟩ := st_refuse hst1 (Or.inr (Or.inr (Or.inr (Or.inr rfl)))) k17 k26
    have ft := fr_f_X9_tell k26
    have fr := fr_f_X8_refuse k17
    rw [← h1, ← hw]
    refine ⟨s1zz.trans s2zz.symm, hS5.sc (ft.A 3 rfl) (ft.I 8 rfl) (ft.A 6 rfl) (ft.A 7 rfl) (ft.I 20 rfl), ?_, s3zz, ?_⟩
    · show RwC n (gA o 3) (gA w26.2 3)
      rw [ft.A 3 rfl, e53]; exact RwC.rf
    · show gI z17.2 14 = gI w26.2 58
      rw [fr.I 14 rfl, ft.I 58 rfl]; exact e14zz
  · have h1 := z_f h1 (by rw [a1zz]; decide)
    have e19zz : gI z5 19 = 0 := by
      unfold f_X9_endText at k5zz
      have k5zz := z_t (z_t k5zz a2) a3
      unfold bk_X9_endText_19 at k5zz
      obtain ⟨q1zz, gq1, k5zz⟩ := z_lt k5zz
      obtain ⟨q2zz, gq2, k5zz⟩ := z_lt k5zz
      rw [← Option.some.inj k5zz, gq2, gq1]; exact a2
    obtain ⟨zA, kAzz, h1⟩ := z_bd h1
    obtain ⟨zP, kPzz, h1⟩ := z_bd h1
    obtain ⟨p6zz, g6, h1⟩ := z_lt h1
    obtain ⟨p7zz, g7, h1⟩ := z_lt h1
    obtain ⟨z6, k6zz, hw⟩ := z_bd (z_t hw e19zz)
    obtain ⟨x7, q7zz, hw⟩ := z_lt hw
    have f6zz := fr_f_X9_keepAll k6zz
    unfold f_X9_keepAll at k6zz
    have d6zz := keepAll_lp (mzz := 17) (by decide) (by decide) zfu 0 z5 0 (by decide) (Nat.zero_le _) k6zz
    obtain ⟨u1zz, hw, v9, F1zz⟩ := ord77 zfu 0 z6 0 (by decide) (Nat.zero_le _) hw
    obtain ⟨u2zz, hw, v10, v99, F2⟩ := ord104 zfu 0 u1zz 0 (by decide) (Nat.zero_le _) hw
    have e8 : x7 = gI o 8 := by
      rw [q7zz, f6zz.I 8 rfl]
      exact (f5zz.I 8 rfl).trans ((wF.I 8 rfl).trans (by rw [l2, l1]; rfl))
    rw [e8] at hw
    have e6o : ∀ jzz, jzz < 400 → gA z6 6 jzz = gA o 6 jzz := by
      intro jzz hj
      rw [d6zz, if_neg (by omega), f5zz.A 6 rfl, wF.A 6 rfl, A2]
    have e7o : gA u1zz 7 = gA o 7 := (F1zz.A 7 rfl).trans ((f6zz.A 7 rfl).trans ((f5zz.A 7 rfl).trans ((wF.A 7 rfl).trans (A2 7))))
    have e3u : gA u2zz 3 = gA o 3 := (F2.A 3 rfl).trans ((F1zz.A 3 rfl).trans ((f6zz.A 3 rfl).trans e53))
    have e6u : gA u2zz 6 = gA z6 6 := (F2.A 6 rfl).trans (F1zz.A 6 rfl)
    obtain ⟨s1zz, s2zz, s3zz, s4zz, s5⟩ := setM kAzz
    obtain ⟨t1zz, t2zz, t3zz, t4zz⟩ := setP kPzz
    have hBC : BfC mv pa zA zP := ⟨⟨s1zz, s2zz, s3zz, s4zz, s5⟩, t1zz, t2zz, t3zz, t4zz⟩
    obtain ⟨c1zz, c2zz, c3zz, c4zz, c5zz, c6zz⟩ := hC
    have K8 := c1zz.2.2.2.2.1
    have K2' := c1zz.2.2.2.2.2.2.2.1
    have hk1 : k1zz ≤ 400 := by
      have azz := c1zz.2.2.2.2.2.2.1
      obtain ⟨aa, bb, ea, eb, lab, lb, -⟩ := c1zz.1.2.2.2.2
      have bzz := c1zz.1.1.2.2.2
      omega
    refine ord_out (K1 := k1zz) (K2 := k2') (qzz := qzz) hSzz hBC K8 hk1 K2' hq2 c3zz zfu zfu 0 p7zz mezz mv czz pa _ 0 (by decide) (Nat.zero_le _) ?_ h1 hw
    refine ⟨?_, ⟨by rw [g7, g6]; rfl, by rw [g7]; rfl⟩, ⟨?_, ?_⟩, ⟨fun jzz hj => ?_, fun jzz hj => ?_, fun t ht => ?_⟩, ?_, ?_, fun mzz hmzz => ?_, 0, by show (0 : Int32).toInt = _; decide, Nat.le_refl _⟩
    · refine hSzz.mv (o' := sI (sI u2zz 56 0) 57 (-1)) (by show RwC n (gA o 3) (gA u2zz 3); rw [e3u]; exact RwC.rf) (by show TzM mv (gA u2zz 3); rw [e3u]; exact hSzz.2.1) ?_ ?_
      · show PaT pa (sI (sI u2zz 56 0) 57 (-1)) n (gA u2zz 3)
        rw [e3u]
        obtain ⟨q0, sz, fi, q1zz, q2zz, q3zz, q4zz, q5zz⟩ := hSzz.2.2.1
        refine ⟨?_, sz, fi, q1zz, q2zz, q3zz, q4zz, fun izz hizz => (q5zz izz hizz).mv rfl (fun _ _ => rfl) ?_ (fun t ht => ?_) (fun _ _ => rfl)⟩
        · show gI pa 3 = gI u2zz 8
          rw [F2.I 8 rfl, F1zz.I 8 rfl, ← q7zz, e8]; exact q0
        · show gA u2zz 7 izz = gA o 7 izz
          rw [F2.A 7 rfl, e7o]
        · show gA u2zz 6 (25 * izz + t) = gA o 6 (25 * izz + t)
          rw [e6u, e6o _ (by omega)]
      · show gI u2zz 20 = gI o 20
        rw [F2.I 20 rfl, F1zz.I 20 rfl, f6zz.I 20 rfl, k20]; exact hSzz.2.2.2.2.1.symm
    · refine hst1.eq (by rw [g7, g6]; rfl) (by rw [g7, g6]; rfl) ?_ ?_
      · show gI u2zz 1 = gI z5 1
        rw [F2.I 1 rfl, F1zz.I 1 rfl, f6zz.I 1 rfl]
      · show gA u2zz 2 = gA z5 2
        rw [F2.A 2 rfl, F1zz.A 2 rfl, f6zz.A 2 rfl]
    · show gI p7zz 14 = gI u2zz 58
      rw [F2.I 58 rfl, F1zz.I 58 rfl, f6zz.I 58 rfl, ← e14zz, g7, g6]; rfl
    · show gA u2zz 9 jzz = gA o 6 jzz
      rw [v99, v9, if_pos (by omega), e6o jzz hj]
    · show gA u2zz 10 jzz = gA o 7 jzz
      rw [v10, if_pos (by omega), e7o]
    · show gA u2zz 6 (425 + t) = gA o 3 (4 + t)
      have et : 425 + t - 25 * 17 = t := by omega
      rw [e6u, d6zz, if_pos (by omega), et, e53]
    · show RwC n (gA o 3) (gA u2zz 3)
      rw [e3u]; exact RwC.rf
    · show (gI u2zz 21).toInt = (qzz : Int)
      rw [F2.I 21 rfl, F1zz.I 21 rfl, f6zz.I 21 rfl, f5zz.I 21 rfl]; exact c2zz
    · show ClE true z2.2.2 (gA u2zz 55) (gA u2zz 24) (gA u2zz 25) mzz k1zz k2'
      rw [F2.A 55 rfl, F1zz.A 55 rfl, f6zz.A 55 rfl, f5zz.A 55 rfl, F2.A 24 rfl, F1zz.A 24 rfl, f6zz.A 24 rfl, f5zz.A 24 rfl, F2.A 25 rfl, F1zz.A 25 rfl, f6zz.A 25 rfl, f5zz.A 25 rfl]
      exact c6zz mzz hmzz
