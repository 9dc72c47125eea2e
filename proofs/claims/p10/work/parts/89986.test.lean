-- count, of, compare, the tape, beats, seen, orders
set_option maxHeartbeats 200000 in
theorem priz_lp {isl mv o : Ob} {n : Nat} {pzz qzz : Int32} (hMzz : TzM mv (gA o 3)) (e7zz : gI isl 7 = qzz) (eq : qzz.toInt = (n : Int)) (hn : n ≤ 7) (ep : pzz.toInt = 15) {yzz zzz : Int32} : ∀ (Nzz N' : Nat) (v1zz v2 : Int32) (izz : Nat), v2.toInt = (izz : Int) → izz ≤ n → lp_X2_allPrizes_4 isl mv Nzz (v1zz, v2) = some yzz → lp_X9_sumOf_5 o N' (pzz, qzz, v1zz, v2) = some zzz → yzz = zzz := by
  intro Nzz
  induction Nzz with
  | zero => intro N' v1zz v2 izz _ _ hzz; cases hzz
  | succ Nzz ihzz =>
    intro N' v1zz v2 izz e2zz hizz h1 h2
    cases N' with
    | zero => cases h2
    | succ N' =>
    have h1 : lb_X2_allPrizes_4 isl mv (lp_X2_allPrizes_4 isl mv Nzz) v1zz v2 = some yzz := h1
    have h2 : lb_X9_sumOf_5 o (lp_X9_sumOf_5 o N') pzz qzz v1zz v2 = some zzz := h2
    unfold lb_X2_allPrizes_4 at h1
    unfold lb_X9_sumOf_5 at h2
    rw [e7zz] at h1
    by_cases czz : qzz ≤ v2
    · rw [← Option.some.inj (z_t h1 czz), ← Option.some.inj (z_t h2 czz)]
    · have h1 := z_f h1 czz
      have h2 := z_f h2 czz
      have czz := cv_nle (a := (n : Int)) (b := (izz : Int)) eq e2zz czz
      have i1zz : v2.toNatClampNeg = izz := tnc_eq e2zz
      have i2zz : (pzz + v2).toNatClampNeg = 15 + izz := tnc_eq (by rw [i32_add ep e2zz (by omega) (by omega)]; omega)
      rw [i1zz] at h1
      rw [i2zz] at h2
      have h1 := (z_gd h1).2
      have h2 := (z_gd h2).2
      obtain ⟨x2zz, g2, h1⟩ := z_lt h1
      obtain ⟨x3, g3zz, h1⟩ := z_lt h1
      obtain ⟨u2zz, k2zz, h2⟩ := z_lt h2
      obtain ⟨u3, k3zz, h2⟩ := z_lt h2
      rw [(hMzz.2.1 izz (by omega)).1] at g2
      have q2zz : u2zz = x2zz := k2zz.trans g2.symm
      have q3zz : u3 = x3 := k3zz.trans g3zz.symm
      rw [q2zz, q3zz] at h2
      exact ihzz N' x2zz x3 (izz + 1) (by rw [g3zz]; exact Eq.trans (i32_add e2zz (by decide : (1 : Int32).toInt = 1) (by omega) (by omega)) (by omega)) (by omega) h1 h2
set_option maxHeartbeats 200000 in
theorem tf_count {pl : List CR} {o0zz o1 o4zz o5zz o8zz o6 o11 o9 : Ob} {im0 im1 : Option IR} {pzz : Int32} {yzz : Int32} {y' : Int32 × Ob} (ht : TF pl o0zz o1 o4zz o5zz o8zz o6 o11 o9 im0 im1) (h1 : f_X8_count o0zz o1 o4zz o5zz o11 pzz = some yzz) (h2 : f_X9_count o9 pzz = some y') : yzz = y'.1 := by
  have n0zz : (0 : Int32).toNatClampNeg = 0 := by decide
  have n1zz : (1 : Int32).toNatClampNeg = 1 := by decide
  have n2zz : (2 : Int32).toNatClampNeg = 2 := by decide
  have n3zz : (3 : Int32).toNatClampNeg = 3 := by decide
  have n5zz : (5 : Int32).toNatClampNeg = 5 := by decide
  have n6zz : (6 : Int32).toNatClampNeg = 6 := by decide
  have n7 : (7 : Int32).toNatClampNeg = 7 := by decide
  unfold f_X8_count at h1
  unfold f_X9_count at h2
  obtain ⟨q1zz, g1, h2⟩ := z_lt h2
  have ht1 : TF pl o0zz o1 o4zz o5zz o8zz o6 o11 q1zz im0 im1 := by rw [g1]; exact ht.sI0
  have hn := ht1.n
  obtain ⟨⟨a1zz, a2⟩, a3, -, a5, a6, -, ⟨t1zz, t2zz, t3zz, t4zz⟩, a9, -⟩ := ht1
  rw [n0zz, n1zz, n2zz, n3zz, n5zz, n6zz, n7] at h2
  rw [n1zz, n2zz, n3zz, n5zz, n6zz] at h1
  by_cases c0zz : pzz = 0
  · rw [← Option.some.inj (z_t h1 c0zz), ← Option.some.inj (z_t h2 c0zz)]; exact t1zz.1
  have h1 := z_f h1 c0zz
  have h2 := z_f h2 c0zz
  by_cases c1zz : pzz = 1
  · obtain ⟨z2, k2zz, h1⟩ := z_bd (z_t h1 c1zz)
    obtain ⟨w3zz, l3, h2⟩ := z_bd (z_t h2 c1zz)
    rw [← Option.some.inj h1, ← Option.some.inj h2]
    exact ones_eq t3zz hn.2 hn.1 (fun jzz hj => t4zz jzz (by omega)) k2zz l3
  have h1 := z_f h1 c1zz
  have h2 := z_f h2 c1zz
  by_cases c2zz : pzz = 2
  · rw [← Option.some.inj (z_t h1 c2zz), ← Option.some.inj (z_t h2 c2zz)]; exact t3zz.2.2.1.1
  have h1 := z_f h1 c2zz
  have h2 := z_f h2 c2zz
  by_cases c3zz : pzz = 3
  · obtain ⟨z2, k2zz, h1⟩ := z_bd (z_t h1 c3zz)
    obtain ⟨w3zz, l3, h2⟩ := z_bd (z_t h2 c3zz)
    rw [← Option.some.inj h1, ← Option.some.inj h2]
    unfold f_X2_allPrizes at k2zz
    unfold f_X9_sumOf at l3
    exact priz_lp t3zz t1zz.1 hn.1 hn.2 (by decide) zfu zfu 0 0 0 (by decide) (Nat.zero_le _) k2zz l3
  have h1 := z_f h1 c3zz
  have h2 := z_f h2 c3zz
  by_cases c4zz : pzz = 4
  · rw [← Option.some.inj (z_t h1 c4zz), ← Option.some.inj (z_t h2 c4zz)]; exact t1zz.2.1
  have h1 := z_f h1 c4zz
  have h2 := z_f h2 c4zz
  by_cases c5zz : pzz = 5
  · rw [← Option.some.inj (z_t h1 c5zz), ← Option.some.inj (z_t h2 c5zz)]; exact t2zz.2.1.1
  have h1 := z_f h1 c5zz
  have h2 := z_f h2 c5zz
  by_cases c6zz : pzz = 6
  · rw [← Option.some.inj (z_t h1 c6zz), ← Option.some.inj (z_t h2 c6zz)]; exact a9.1
  have h1 := z_f h1 c6zz
  have h2 := z_f h2 c6zz
  by_cases c7zz : pzz = 7
  · rw [← Option.some.inj (z_t h1 c7zz), ← Option.some.inj (z_t h2 c7zz)]; exact a1zz
  have h1 := z_f h1 c7zz
  have h2 := z_f h2 c7zz
  by_cases c8zz : pzz = 8
  · rw [← Option.some.inj (z_t h1 c8zz), ← Option.some.inj (z_t h2 c8zz)]; exact a5.2 1 (by decide)
  have h1 := z_f h1 c8zz
  have h2 := z_f h2 c8zz
  by_cases c9zz : pzz = 9
  · rw [← Option.some.inj (z_t h1 c9zz), ← Option.some.inj (z_t h2 c9zz)]; exact a5.2 2 (by decide)
  have h1 := z_f h1 c9zz
  have h2 := z_f h2 c9zz
  by_cases c10zz : pzz = 10
  · rw [← Option.some.inj (z_t h1 c10zz), ← Option.some.inj (z_t h2 c10zz)]; exact a5.2 3 (by decide)
  have h1 := z_f h1 c10zz
  have h2 := z_f h2 c10zz
  by_cases c11zz : pzz = 11
  · rw [← Option.some.inj (z_t h1 c11zz), ← Option.some.inj (z_t h2 c11zz)]; exact a5.2 5 (by decide)
  have h1 := z_f h1 c11zz
  have h2 := z_f h2 c11zz
  by_cases c12zz : pzz = 12
  · rw [← Option.some.inj (z_t h1 c12zz), ← Option.some.inj (z_t h2 c12zz)]; exact a5.2 6 (by decide)
  have h1 := z_f h1 c12zz
  have h2 := z_f h2 c12zz
  by_cases c13zz : pzz = 13
  · rw [← Option.some.inj (z_t h1 c13zz), ← Option.some.inj (z_t h2 c13zz)]; exact t2zz.2.2.1.1
  have h1 := z_f h1 c13zz
  have h2 := z_f h2 c13zz
  obtain ⟨w5, l5, h2⟩ := z_bd h2
  have i9zz := in9 (m := 14) (n := 16) (by decide) (by decide) l5
  by_cases c14zz : pzz = 14
  · have uzz : ¬ w5 = 0 := by
      rcases i9zz with ⟨-, uzz⟩ | ⟨uzz, -⟩
      · rw [c14zz] at uzz; exact absurd (by decide) uzz
      · exact uzz
    obtain ⟨z4, k4zz, h1⟩ := z_bd (z_t h1 c14zz)
    have h2 := (z_gd (z_f h2 uzz)).2
    unfold f_X2_term at k4zz
    rw [c14zz] at h2
    rw [← Option.some.inj h1, ← Option.some.inj h2, ← Option.some.inj (z_t k4zz rfl)]
    exact t3zz.2.2.2.1.1
  have h1 := z_f h1 c14zz
  by_cases c15zz : pzz = 15
  · have uzz : ¬ w5 = 0 := by
      rcases i9zz with ⟨-, uzz⟩ | ⟨uzz, -⟩
      · rw [c15zz] at uzz; exact absurd (by decide) uzz
      · exact uzz
    obtain ⟨z4, k4zz, h1⟩ := z_bd (z_t h1 c15zz)
    have h2 := (z_gd (z_f h2 uzz)).2
    unfold f_X2_term at k4zz
    rw [c15zz] at h2
    rw [← Option.some.inj h1, ← Option.some.inj h2, ← Option.some.inj (z_t (z_f k4zz (by decide)) rfl)]
    exact t2zz.2.2.2.1.1
  have h1 := z_f h1 c15zz
  by_cases c16 : pzz = 16
  · have uzz : ¬ w5 = 0 := by
      rcases i9zz with ⟨-, uzz⟩ | ⟨uzz, -⟩
      · rw [c16] at uzz; exact absurd (by decide) uzz
      · exact uzz
    obtain ⟨z4, k4zz, h1⟩ := z_bd (z_t h1 c16)
    have h2 := (z_gd (z_f h2 uzz)).2
    unfold f_X2_term at k4zz
    rw [c16] at h2
    rw [← Option.some.inj h1, ← Option.some.inj h2, ← Option.some.inj (z_f (z_f k4zz (by decide)) (by decide))]
    exact t2zz.1.2.2
  have h1 := z_f h1 c16
  have uzz : w5 = 0 := by
    rcases i9zz with ⟨uzz, -⟩ | ⟨-, uzz⟩
    · exact uzz
    · exfalso
      have d14zz := cv_ne (a := pzz.toInt) (b := 14) rfl (by decide) c14zz
      have d15zz := cv_ne (a := pzz.toInt) (b := 15) rfl (by decide) c15zz
      have d16zz := cv_ne (a := pzz.toInt) (b := 16) rfl (by decide) c16
      omega
  rw [← Option.some.inj h1, ← Option.some.inj (z_t h2 uzz)]
set_option maxHeartbeats 200000 in
theorem tf_feed {pl : List CR} {o0zz o1 o4zz o5zz o8zz o6 o11 o9 : Ob} {im0 im1 : Option IR} {azz bzz czz d ezz : Int32} {yzz y' : Int32 × Ob} (ht : TF pl o0zz o1 o4zz o5zz o8zz o6 o11 o9 im0 im1) (hr : 0 ≤ (gI o1 2).toInt ∧ (gI o1 2).toInt ≤ 400) (h1 : f_X8_feed o0zz o1 azz bzz czz d ezz = some yzz) (h2 : f_X9_feed o9 azz bzz czz d ezz = some y') : yzz.1 = y'.1 ∧ TF pl o0zz yzz.2 o4zz o5zz o8zz o6 o11 y'.2 im0 im1 := by
  have fzz := fr_f_X9_feed h2
  have s := feed_ts ht.1.1 hr h1 h2
  have t := feed_tb ht.1.1 ht.1.2 hr h1 h2
  obtain ⟨-, h3, ⟨h4, h4'⟩, h5, h6, h7, h8, h9, h10⟩ := ht
  refine ⟨s.1, ⟨s.2, t⟩, by rw [fzz.I 11 rfl]; exact h3, ⟨h4.eq (fzz.M 31 rfl) (fzz.M 32 rfl), h4'.eq2 (fzz.M 33 rfl) (fzz.M 54 rfl)⟩, h5.eq rfl rfl (fzz.I 1 rfl) (fzz.A 2 rfl), by rw [fzz.I 58 rfl]; exact h6, h7.eq (fzz.I 62 rfl) (fzz.A 61 rfl), by rw [fzz.A 3 rfl]; exact h8, by rw [fzz.A 3 rfl]; exact h9.eq (fzz.I 8 rfl) (fzz.A 6 rfl) (fzz.A 7 rfl), h10.eq rfl (fzz.A 5 rfl) (fzz.A 4 rfl)⟩
set_option maxHeartbeats 200000 in
theorem end_tape {o0zz o1 : Ob} {pzz : Int32} {yzz : Int32 × Ob} (hzz : f_X8_end o0zz o1 pzz = some yzz) : gA yzz.2 0 = gA o1 0 := by
  unfold f_X8_end at hzz
  rcases z_if hzz with ⟨-, hzz⟩ | ⟨-, hzz⟩
  · rw [← Option.some.inj hzz]
  · rcases z_if hzz with ⟨-, hzz⟩ | ⟨-, hzz⟩
    · obtain ⟨qzz, gzz, hzz⟩ := z_lt hzz
      rw [← Option.some.inj hzz, gzz]; rfl
    · rw [← Option.some.inj hzz]
set_option maxHeartbeats 200000 in
theorem tf_end {pl : List CR} {o0zz o1 o4zz o5zz o8zz o6 o11 o9 : Ob} {im0 im1 : Option IR} {pzz : Int32} {yzz y' : Int32 × Ob} (ht : TF pl o0zz o1 o4zz o5zz o8zz o6 o11 o9 im0 im1) (h1 : f_X8_end o0zz o1 pzz = some yzz) (h2 : f_X9_end o9 pzz = some y') : yzz.1 = y'.1 ∧ TF pl o0zz yzz.2 o4zz o5zz o8zz o6 o11 y'.2 im0 im1 := by
  have fzz := fr_f_X9_end h2
  have s := end_ts ht.1.1 h1 h2
  have t : gA yzz.2 0 = gA y'.2 12 := by rw [end_tape h1, fzz.A 12 rfl]; exact ht.1.2
  obtain ⟨-, h3, ⟨h4, h4'⟩, h5, h6, h7, h8, h9, h10⟩ := ht
  refine ⟨s.1, ⟨s.2, t⟩, by rw [fzz.I 11 rfl]; exact h3, ⟨h4.eq (fzz.M 31 rfl) (fzz.M 32 rfl), h4'.eq2 (fzz.M 33 rfl) (fzz.M 54 rfl)⟩, h5.eq rfl rfl (fzz.I 1 rfl) (fzz.A 2 rfl), by rw [fzz.I 58 rfl]; exact h6, h7.eq (fzz.I 62 rfl) (fzz.A 61 rfl), by rw [fzz.A 3 rfl]; exact h8, by rw [fzz.A 3 rfl]; exact h9.eq (fzz.I 8 rfl) (fzz.A 6 rfl) (fzz.A 7 rfl), h10.eq rfl (fzz.A 5 rfl) (fzz.A 4 rfl)⟩
set_option maxHeartbeats 200000 in
theorem tf_orders {pl : List CR} {o0zz o1 oc mezz o4zz o5zz czz o8zz o6 o11 o12 o13 o9 : Ob} {im0 im1 : Option IR} {yzz : Int32 × Ob × Ob × Ob × Ob × Ob × Ob × Ob × Ob × Ob} {y' : Int32 × Ob} (ht : TF pl o0zz o1 o4zz o5zz o8zz o6 o11 o9 im0 im1) (h20 : gI o9 20 = 0) (hr : 0 ≤ (gI o1 2).toInt ∧ (gI o1 2).toInt ≤ 400) (h1 : f_X8_orders 12 400 o0zz o1 oc mezz o4zz o5zz czz o11 o12 o13 pl = some yzz) (h2 : f_X9_orders o9 = some y') (e13zz : gI yzz.2.1 13 = gI o0zz 13) (eR : gR yzz.2.1 7 = gR o0zz 7) (eT : gA yzz.2.2.1 0 = gA o1 0) (e2zz : gI yzz.2.2.1 2 = 0) (e9zz : gI y'.2 13 = 0) : yzz.1 = y'.1 ∧ TF pl yzz.2.1 yzz.2.2.1 o4zz yzz.2.2.2.2.2.1 o8zz o6 yzz.2.2.2.2.2.2.2.1 y'.2 im0 im1 := by
  have fzz := fr_f_X9_orders h2
  have hNzz := ht.n
  obtain ⟨r1zz, r2, r3, r4, r5zz⟩ := orders_eq (ht.s h20) ht.2.2.2.1 ⟨ht.1.1, ht.1.2, by rw [← ht.1.1]; exact hr.1, by rw [← ht.1.1]; exact hr.2⟩ ht.2.2.1.1 ht.2.2.1.2 h1 h2
  obtain ⟨⟨h1', h2'⟩, h3, ⟨h4, h4'⟩, h5, h6, h7, h8, h9, h10⟩ := ht
  have e0zz : gA y'.2 3 0 = gA o9 3 0 := r3 0 (by omega)
  exact ⟨r1zz, ⟨by rw [e2zz, e9zz], by rw [eT, fzz.A 12 rfl]; exact h2'⟩, by rw [fzz.I 11 rfl, e13zz]; exact h3, ⟨h4.eq (fzz.M 31 rfl) (fzz.M 32 rfl), h4'.eq2 (fzz.M 33 rfl) (fzz.M 54 rfl)⟩, r4, r5zz, h7.eq (fzz.I 62 rfl) (fzz.A 61 rfl), h8.mv hNzz.1 r3 r2.2.1, by rw [e0zz]; exact r2.2.2.1, h10.eq eR (fzz.A 5 rfl) (fzz.A 4 rfl)⟩
