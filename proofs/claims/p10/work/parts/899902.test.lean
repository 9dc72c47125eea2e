-- images under the whole tie
set_option maxHeartbeats 200000 in
theorem TzI.loc {pl : List CR} {isl isl' : Ob} {Gzz G' : Nat → Int32} (hzz : TzI pl isl Gzz) (i7zz : gI isl' 7 = gI isl 7) (i9zz : gI isl' 9 = gI isl 9) (i10zz : gI isl' 10 = gI isl 10) (i11zz : gI isl' 11 = gI isl 11) (i12zz : gI isl' 12 = gI isl 12) (a2 : ∀ jzz, jzz < 28 → gA isl' 2 jzz = gA isl 2 jzz) (a4 : ∀ jzz, jzz < 6 → gA isl' 4 jzz = gA isl 4 jzz) (a5 : ∀ jzz, jzz < 6 → gA isl' 5 jzz = gA isl 5 jzz) (aR : ∀ jzz, jzz < 6 → gR isl' 6 jzz = gR isl 6 jzz)
    (eg : ∀ jzz, jzz < 5484 → G' jzz = Gzz jzz) : TzI pl isl' G' := by
  have e0zz : G' 0 = Gzz 0 := eg 0 (by omega)
  have e2zz : G' 2 = Gzz 2 := eg 2 (by omega)
  have e3zz : G' 3 = Gzz 3 := eg 3 (by omega)
  have e5zz : G' 5 = Gzz 5 := eg 5 (by omega)
  have e6zz : G' 6 = Gzz 6 := eg 6 (by omega)
  unfold TzI WiL
  rw [e0zz, e2zz, e3zz, e5zz, e6zz, i7zz, i9zz, i10zz, i11zz, i12zz]
  refine ⟨⟨hzz.1.1, fun jzz hj => ?_, hzz.1.2.2⟩, hzz.2.1, hzz.2.2.1, hzz.2.2.2.1, fun jzz hj => ?_, fun l hl => ?_⟩
  · rw [a2 jzz hj, eg (36 + jzz) (by omega)]; exact hzz.1.2.1 jzz hj
  · rw [a4 jzz hj, a5 jzz hj, eg (71 + 2 * jzz) (by omega), eg (72 + 2 * jzz) (by omega)]; exact hzz.2.2.2.2.1 jzz hj
  · obtain ⟨azz, czz, r1zz, r2, r3⟩ := hzz.2.2.2.2.2 l hl
    have := hzz.2.1.2.2
    exact ⟨azz, czz, by rw [aR l (by omega)]; exact r1zz, r2, r3.loc (fun jzz j1 j2zz => eg jzz (by omega))⟩
set_option maxHeartbeats 200000 in
theorem Tia.cp {pl pl' : List CR} {oi onzz a0zz a0n : Ob} {zzz : Ob × Ob} {Gzz G' : Nat → Int32} (hzz : f_X2_set_O oi onzz pl' a0zz a0n = some zzz) (ht : Tia pl a0zz a0n Gzz) (eg : ∀ jzz, jzz < 5484 → G' jzz = Gzz jzz) : Tia pl zzz.1 zzz.2 G' := by
  obtain ⟨s1zz, ⟨s7, s8, s9, s10, s11, s12⟩, r1zz, r2, r3, r4, r5zz, rR⟩ := setIsl hzz
  obtain ⟨m0zz, m1zz, m2zz, m3zz, m4zz⟩ := setM s1zz
  obtain ⟨t1zz, t2zz, t3zz, t4zz⟩ := ht
  refine ⟨Tis.cp hzz t1zz (fun jzz hj => eg jzz (by omega)), t2zz.loc s7 s9 s10 s11 s12 r2 r4 r5zz rR eg, t3zz.ext m0zz m1zz m2zz m3zz m4zz (fun jzz j1 j2zz => eg jzz (by omega)), fun jzz hj => ?_⟩
  have g0 := t2zz.1.1.2.1
  rw [eg 0 (by omega)] at hj
  rw [eg jzz (by omega)]
  exact t4zz jzz hj
set_option maxHeartbeats 200000 in
theorem Tia.loc {pl : List CR} {isl mv : Ob} {Gzz G' : Nat → Int32} (hzz : Tia pl isl mv Gzz) (eg : ∀ jzz, jzz < 5484 → G' jzz = Gzz jzz) : Tia pl isl mv G' := by
  obtain ⟨t1zz, t2zz, t3zz, t4zz⟩ := hzz
  refine ⟨t1zz.eq rfl rfl rfl rfl rfl (fun jzz hj => eg jzz (by omega)), t2zz.loc rfl rfl rfl rfl rfl (fun _ _ => rfl) (fun _ _ => rfl) (fun _ _ => rfl) (fun _ _ => rfl) eg, t3zz.ext (fun _ _ => rfl) (fun _ _ => rfl) rfl rfl rfl (fun jzz j1 j2zz => eg jzz (by omega)), fun jzz hj => ?_⟩
  have g0 := t2zz.1.1.2.1
  rw [eg 0 (by omega)] at hj
  rw [eg jzz (by omega)]
  exact t4zz jzz hj
set_option maxHeartbeats 200000 in
theorem TslF.put {pl : List CR} {o0' o9 o9' : Ob} {kzz : Nat} {gzz : Nat → Option Nat} {rzz : IR} (e0zz : ∀ jzz, gR o0' 7 jzz = if jzz = kzz then some rzz.1 else gzz jzz) (e5zz : ∀ jzz, gA o9' 5 jzz = if jzz = kzz then 1 else gA o9 5 jzz) (ht : Tia pl rzz.2.2.2.2.2.2.1 rzz.2.2.2.2.2.2.2 (fun jzz => gA o9' 4 (5484 * kzz + jzz))) : TslF pl o0' o9' kzz (some rzz) := by
  refine ⟨(fun qzz => by cases qzz), fun r' qzz => ?_⟩
  rw [← Option.some.inj qzz]
  exact ⟨by rw [e0zz, if_pos rfl], by rw [e5zz, if_pos rfl]; decide, ht⟩
set_option maxHeartbeats 200000 in
theorem TslF.oth {pl : List CR} {o0zz o9 o0' o9' : Ob} {kzz k' : Nat} {azz : Option Nat} {im : Option IR} (hzz : TslF pl o0zz o9 k' im) (hk : kzz < 2) (hk' : k' < 2) (hn : k' ≠ kzz) (e0zz : ∀ jzz, gR o0' 7 jzz = if jzz = kzz then azz else gR o0zz 7 jzz) (e5zz : ∀ jzz, gA o9' 5 jzz = if jzz = kzz then 1 else gA o9 5 jzz) (e4zz : ∀ jzz, jzz < 5484 * kzz ∨ 5484 * kzz + 5484 ≤ jzz → gA o9' 4 jzz = gA o9 4 jzz) : TslF pl o0' o9' k' im := by
  refine ⟨fun qzz => ?_, fun rzz qzz => ?_⟩
  · rw [e0zz, if_neg hn, e5zz, if_neg hn]; exact hzz.1 qzz
  · obtain ⟨a1zz, a2, a3⟩ := hzz.2 rzz qzz
    rw [e0zz, if_neg hn, e5zz, if_neg hn]
    exact ⟨a1zz, a2, a3.loc (fun jzz hj => e4zz (5484 * k' + jzz) (by omega))⟩
set_option maxHeartbeats 200000 in
theorem TimF.put0 {pl : List CR} {o0zz o9 o0' o9' : Ob} {kzz : Nat} {im0 im1 : Option IR} {rzz : IR} (hk : kzz < 2) (ta : TslF pl o0zz o9 kzz im0) (tbzz : TslF pl o0zz o9 (1 - kzz) im1) (e0zz : ∀ jzz, gR o0' 7 jzz = if jzz = kzz then some rzz.1 else gR o0zz 7 jzz) (e5zz : ∀ jzz, gA o9' 5 jzz = if jzz = kzz then 1 else gA o9 5 jzz) (e4zz : ∀ jzz, jzz < 5484 * kzz ∨ 5484 * kzz + 5484 ≤ jzz → gA o9' 4 jzz = gA o9 4 jzz) (ht : Tia pl rzz.2.2.2.2.2.2.1 rzz.2.2.2.2.2.2.2 (fun jzz => gA o9' 4 (5484 * kzz + jzz))) : TimF pl o0' o9' (some rzz) im1 :=
  ⟨kzz, hk, TslF.put e0zz e5zz ht, tbzz.oth hk (by omega) (by omega) e0zz e5zz e4zz⟩
set_option maxHeartbeats 200000 in
theorem TimF.put1 {pl : List CR} {o0zz o9 o0' o9' : Ob} {kzz : Nat} {im0 im1 : Option IR} {rzz : IR} (hk : kzz < 2) (ta : TslF pl o0zz o9 (1 - kzz) im0) (tbzz : TslF pl o0zz o9 kzz im1) (e0zz : ∀ jzz, gR o0' 7 jzz = if jzz = kzz then some rzz.1 else gR o0zz 7 jzz) (e5zz : ∀ jzz, gA o9' 5 jzz = if jzz = kzz then 1 else gA o9 5 jzz) (e4zz : ∀ jzz, jzz < 5484 * kzz ∨ 5484 * kzz + 5484 ≤ jzz → gA o9' 4 jzz = gA o9 4 jzz) (ht : Tia pl rzz.2.2.2.2.2.2.1 rzz.2.2.2.2.2.2.2 (fun jzz => gA o9' 4 (5484 * kzz + jzz))) : TimF pl o0' o9' im0 (some rzz) := by
  have ezz : 1 - (1 - kzz) = kzz := by omega
  exact ⟨1 - kzz, by omega, ta.oth hk (by omega) (by omega) e0zz e5zz e4zz, by rw [ezz]; exact TslF.put e0zz e5zz ht⟩
set_option maxHeartbeats 200000 in
theorem TimF.ik {pl : List CR} {o0zz o9 : Ob} {im0 im1 : Option IR} (hzz : TimF pl o0zz o9 im0 im1) (h2 : ∀ jzz, 2 ≤ jzz → gR o0zz 7 jzz = none) : IK (gR o0zz 7) im0 im1 := by
  obtain ⟨s, hs, azz, bzz⟩ := hzz
  exact IK.of ⟨s, hs, ⟨azz.1, fun rzz hr => ⟨(azz.2 rzz hr).1, (azz.2 rzz hr).2.1, (azz.2 rzz hr).2.2.1⟩⟩, bzz.1, fun rzz hr => ⟨(bzz.2 rzz hr).1, (bzz.2 rzz hr).2.1, (bzz.2 rzz hr).2.2.1⟩⟩ h2
def dIm : DD := ([0, 8], [], [3, 4, 5], [], [])
set_option maxHeartbeats 200000 in
/-- what the reference tells behind all the writing -/
theorem img_t {yzz : Int32 × Ob} {v1zz : Int32} : ∀ (Nzz : Nat) (v2 : Int32) (o : Ob), lp_X9_image_23 Nzz (v1zz, v2, o) = some yzz → ∃ qzz : Ob, FrX dIm o qzz ∧ f_X9_tell qzz 0 = some yzz := by
  intro Nzz
  induction Nzz with
  | zero => intro v2 o hzz; cases hzz
  | succ Nzz ihzz =>
    intro v2 o hzz
    have hzz : lb_X9_image_23 (lp_X9_image_23 Nzz) v1zz v2 o = some yzz := hzz
    unfold lb_X9_image_23 at hzz
    rcases z_if hzz with ⟨-, hzz⟩ | ⟨-, hzz⟩
    · have hzz := (z_gd hzz).2
      obtain ⟨qzz, gzz, hzz⟩ := z_lt hzz
      obtain ⟨zzz, kzz, hzz⟩ := z_bd hzz
      rw [← Option.some.inj hzz]
      exact ⟨qzz, by rw [gzz]; exact FrX.tA FrX.rf rfl, kzz⟩
    · have hzz := (z_gd (z_gd hzz).2).2
      obtain ⟨q1zz, g1, hzz⟩ := z_lt hzz
      obtain ⟨xzz, gx, hzz⟩ := z_lt hzz
      obtain ⟨qzz, fzz, kzz⟩ := ihzz xzz q1zz hzz
      exact ⟨qzz, (by rw [g1]; exact FrX.tA FrX.rf rfl : FrX dIm o q1zz).tr fzz, kzz⟩
set_option maxHeartbeats 200000 in
theorem bck_t {yzz : Int32 × Ob} {v1zz : Int32} : ∀ (Nzz : Nat) (v2 : Int32) (o : Ob), lp_X9_back_39 Nzz (v1zz, v2, o) = some yzz → ∃ qzz : Ob, FrX dIm o qzz ∧ gI qzz 8 = 0 ∧ f_X9_tell qzz 0 = some yzz := by
  intro Nzz
  induction Nzz with
  | zero => intro v2 o hzz; cases hzz
  | succ Nzz ihzz =>
    intro v2 o hzz
    have hzz : lb_X9_back_39 (lp_X9_back_39 Nzz) v1zz v2 o = some yzz := hzz
    unfold lb_X9_back_39 at hzz
    rcases z_if hzz with ⟨-, hzz⟩ | ⟨-, hzz⟩
    · obtain ⟨zzz, kzz, hzz⟩ := z_bd hzz
      unfold f_X9_settled at kzz
      have kzz := z_t kzz (by decide)
      unfold bk_X9_settled_13 at kzz
      obtain ⟨q2zz, g2, kzz⟩ := z_lt kzz
      obtain ⟨z2, k2zz, kzz⟩ := z_bd kzz
      refine ⟨q2zz, by rw [g2]; exact FrX.sI FrX.rf rfl, by rw [g2]; rfl, ?_⟩
      rw [k2zz, ← Option.some.inj hzz, ← Option.some.inj kzz]
    · have hzz := (z_gd (z_gd hzz).2).2
      obtain ⟨q1zz, g1, hzz⟩ := z_lt hzz
      obtain ⟨xzz, gx, hzz⟩ := z_lt hzz
      obtain ⟨qzz, fzz, e8, kzz⟩ := ihzz xzz q1zz hzz
      exact ⟨qzz, (by rw [g1]; exact FrX.tA FrX.rf rfl : FrX dIm o q1zz).tr fzz, e8, kzz⟩
set_option maxHeartbeats 200000 in
theorem tf_img_no {pl : List CR} {o0zz o1 o4zz o5zz o8zz o6 o11 o9 : Ob} {im0 im1 : Option IR} {pzz : Int32} {zzz y' : Int32 × Ob} (ht : TF pl o0zz o1 o4zz o5zz o8zz o6 o11 o9 im0 im1) (hp : ¬ (0 ≤ pzz.toInt ∧ pzz.toInt ≤ 1)) (k1zz : f_X8_refuse o0zz (-1) = some zzz) (h2 : f_X9_image o9 pzz = some y') : zzz.1 = y'.1 ∧ TF pl zzz.2 o1 o4zz o5zz o8zz o6 o11 y'.2 im0 im1 := by
  unfold f_X9_image at h2
  obtain ⟨q1zz, g1, h2⟩ := z_lt h2
  have ht1 : TF pl o0zz o1 o4zz o5zz o8zz o6 o11 q1zz im0 im1 := by rw [g1]; exact ht.sI0
  obtain ⟨w2zz, l2, h2⟩ := z_bd h2
  rcases in9 (m := 0) (n := 1) (by decide) (by decide) l2 with ⟨uzz, -⟩ | ⟨-, uzz⟩
  · obtain ⟨wzz, l, h2⟩ := z_bd (z_t h2 uzz)
    rw [← Option.some.inj h2]
    exact ht1.no (Or.inl rfl) k1zz l
  · exact absurd uzz hp
set_option maxHeartbeats 200000 in
/-- an image kept: all but the images themselves -/
theorem tf_img_ok {pl : List CR} {o0zz oz o1 o4zz o5zz o8zz o6 o11 o9 : Ob} {im0 im1 im0' im1' : Option IR} {pzz : Int32} {zzz y' : Int32 × Ob} (ht : TF pl o0zz o1 o4zz o5zz o8zz o6 o11 o9 im0 im1) (hp : 0 ≤ pzz.toInt ∧ pzz.toInt ≤ 1) (ez : (∀ izz, gI oz izz = gI o0zz izz) ∧ ∀ izz, gA oz izz = gA o0zz izz) (k1zz : f_X8_grant oz 0 = some zzz) (h2 : f_X9_image o9 pzz = some y') (tm : TimF pl zzz.2 y'.2 im0' im1') : zzz.1 = y'.1 ∧ TF pl zzz.2 o1 o4zz o5zz o8zz o6 o11 y'.2 im0' im1' := by
  have fzz := fr_f_X9_image h2
  unfold f_X9_image at h2
  obtain ⟨q1zz, g1, h2⟩ := z_lt h2
  obtain ⟨w2zz, l2, h2⟩ := z_bd h2
  rcases in9 (m := 0) (n := 1) (by decide) (by decide) l2 with ⟨-, uzz⟩ | ⟨uzz, -⟩
  · exact absurd hp uzz
  · obtain ⟨qzz, fq, kzz⟩ := img_t zfu 0 q1zz (z_f h2 uzz)
    have sq : StT oz qzz := ht.2.2.2.1.eq (ez.1 12) (ez.2 11) (by rw [fq.I 1 rfl, g1]; rfl) (by rw [fq.A 2 rfl, g1]; rfl)
    obtain ⟨s1zz, s2zz, s3zz⟩ := st_grant sq (by decide) k1zz kzz
    have fg := fr_f_X8_grant k1zz
    obtain ⟨⟨h1', h2'⟩, h3, ⟨h4, h4'⟩, h5, h6, h7, h8, h9, -⟩ := ht
    exact ⟨s1zz.trans s2zz.symm, ⟨by rw [fzz.I 13 rfl]; exact h1', by rw [fzz.A 12 rfl]; exact h2'⟩, by rw [fg.I 13 rfl, ez.1 13, fzz.I 11 rfl]; exact h3, ⟨h4.eq (fzz.M 31 rfl) (fzz.M 32 rfl), h4'.eq2 (fzz.M 33 rfl) (fzz.M 54 rfl)⟩, s3zz, by rw [fg.I 14 rfl, ez.1 14, fzz.I 58 rfl]; exact h6, h7.eq (fzz.I 62 rfl) (fzz.A 61 rfl), by rw [fzz.A 3 rfl]; exact h8, by rw [fzz.A 3 rfl]; exact h9.eq (fzz.I 8 rfl) (fzz.A 6 rfl) (fzz.A 7 rfl), tm⟩
set_option maxHeartbeats 200000 in
theorem tf_backN {pl : List CR} {o0zz o1 o4zz o5zz o8zz o6 o11 o9 : Ob} {im0 im1 : Option IR} {pzz : Int32} {yzz y' : Int32 × Ob} (ht : TF pl o0zz o1 o4zz o5zz o8zz o6 o11 o9 im0 im1) (h1 : f_X8_back_N o0zz pzz = some yzz) (h2 : f_X9_back o9 pzz = some y') (qzz : gR o0zz 7 pzz.toNatClampNeg = none) : yzz.1 = y'.1 ∧ TF pl yzz.2 o1 o4zz o5zz o8zz o6 o11 y'.2 im0 im1 := by
  unfold f_X9_back at h2
  obtain ⟨q1zz, g1, h2⟩ := z_lt h2
  have ht1 : TF pl o0zz o1 o4zz o5zz o8zz o6 o11 q1zz im0 im1 := by rw [g1]; exact ht.sI0
  obtain ⟨w2zz, l2, h2⟩ := z_bd h2
  have i9zz := in9 (m := 0) (n := 1) (by decide) (by decide) l2
  have no : ¬ (0 ≤ pzz.toInt ∧ pzz.toInt ≤ 1) → bk_X8_back_N_9 o0zz = some yzz → yzz.1 = y'.1 ∧ TF pl yzz.2 o1 o4zz o5zz o8zz o6 o11 y'.2 im0 im1 := by
    intro hp h1
    unfold bk_X8_back_N_9 at h1
    obtain ⟨zzz, kzz, h1⟩ := z_bd h1
    rcases i9zz with ⟨uzz, -⟩ | ⟨-, uzz⟩
    · obtain ⟨wzz, l, h2⟩ := z_bd (z_t h2 uzz)
      rw [← Option.some.inj h1, ← Option.some.inj h2]
      exact ht1.no (Or.inl rfl) kzz l
    · exact absurd uzz hp
  unfold f_X8_back_N at h1
  by_cases c1zz : pzz < (0 : Int32)
  · exact no (by have czz := cv_lt (a := pzz.toInt) (b := 0) rfl (by decide) c1zz; omega) (z_t h1 c1zz)
  have h1 := z_f h1 c1zz
  by_cases c2zz : pzz < (2 : Int32)
  · have d1zz := cv_nlt (a := pzz.toInt) (b := 0) rfl (by decide) c1zz
    have d2zz := cv_lt (a := pzz.toInt) (b := 2) rfl (by decide) c2zz
    obtain ⟨zzz, kzz, h1⟩ := z_bd (z_gd (z_t h1 c2zz)).2
    rcases i9zz with ⟨-, uzz⟩ | ⟨uzz, -⟩
    · exact absurd ⟨d1zz, by omega⟩ uzz
    · have h2 := (z_gd (z_f h2 uzz)).2
      obtain ⟨k', ek⟩ : ∃ k' : Nat, pzz.toInt = (k' : Int) := ⟨pzz.toInt.toNat, by omega⟩
      have ik : pzz.toNatClampNeg = k' := tnc_eq ek
      rw [ik] at h2 qzz
      have z5 : gA q1zz 5 k' = 0 := by
        obtain ⟨s, hs, ta, tbzz⟩ := ht1.2.2.2.2.2.2.2.2
        rcases (show k' = s ∨ k' = 1 - s by omega) with ezz | ezz
        · rw [ezz] at qzz ⊢
          rcases opt_c im0 with e0zz | ⟨rzz, e0zz⟩
          · exact (ta.1 e0zz).2
          · rw [(ta.2 rzz e0zz).1] at qzz; cases qzz
        · rw [ezz] at qzz ⊢
          rcases opt_c im1 with e0zz | ⟨rzz, e0zz⟩
          · exact (tbzz.1 e0zz).2
          · rw [(tbzz.2 rzz e0zz).1] at qzz; cases qzz
      obtain ⟨wzz, l, h2⟩ := z_bd (z_t h2 z5)
      rw [← Option.some.inj h1, ← Option.some.inj h2]
      exact ht1.no (Or.inr (Or.inl rfl)) kzz l
  · exact no (by have czz := cv_nlt (a := pzz.toInt) (b := 2) rfl (by decide) c2zz; omega) (z_f h1 c2zz)
set_option maxHeartbeats 200000 in
theorem tf_backO {pl : List CR} {o0zz o1 o4zz o5zz o8zz o6 o11 o9 : Ob} {im0 im1 : Option IR} {rzz : IR} {pzz : Int32} {yzz : Int32 × Ob × Ob × Ob × Ob} {y' : Int32 × Ob} (ht : TF pl o0zz o1 o4zz o5zz o8zz o6 o11 o9 im0 im1) (h1 : f_X8_back_O o0zz o4zz o5zz o11 pl rzz.2.2.2.2.2.2.1 rzz.2.2.2.2.2.2.2 pzz = some yzz) (h2 : f_X9_back o9 pzz = some y') (h5 : ¬ gA o9 5 pzz.toNatClampNeg = 0) (hr : Tia pl rzz.2.2.2.2.2.2.1 rzz.2.2.2.2.2.2.2 (fun jzz => gA o9 4 (5484 * pzz.toNatClampNeg + jzz))) : yzz.1 = y'.1 ∧ TF pl yzz.2.1 o1 yzz.2.2.1 yzz.2.2.2.1 o8zz o6 yzz.2.2.2.2 y'.2 im0 im1 := by
  have fzz := fr_f_X9_back h2
  have h2c := h2
  unfold f_X9_back at h2
  obtain ⟨q1zz, g1, h2⟩ := z_lt h2
  have ht1 : TF pl o0zz o1 o4zz o5zz o8zz o6 o11 q1zz im0 im1 := by rw [g1]; exact ht.sI0
  obtain ⟨w2zz, l2, h2⟩ := z_bd h2
  have i9zz := in9 (m := 0) (n := 1) (by decide) (by decide) l2
  have no : ¬ (0 ≤ pzz.toInt ∧ pzz.toInt ≤ 1) → bk_X8_back_O_9 pl rzz.2.2.2.2.2.2.1 rzz.2.2.2.2.2.2.2 o0zz o4zz o5zz o11 = some yzz → yzz.1 = y'.1 ∧ TF pl yzz.2.1 o1 yzz.2.2.1 yzz.2.2.2.1 o8zz o6 yzz.2.2.2.2 y'.2 im0 im1 := by
    intro hp h1
    unfold bk_X8_back_O_9 at h1
    obtain ⟨zzz, kzz, h1⟩ := z_bd h1
    rcases i9zz with ⟨uzz, -⟩ | ⟨-, uzz⟩
    · obtain ⟨wzz, l, h2⟩ := z_bd (z_t h2 uzz)
      rw [← Option.some.inj h1, ← Option.some.inj h2]
      exact ht1.no (Or.inl rfl) kzz l
    · exact absurd uzz hp
  unfold f_X8_back_O at h1
  by_cases c1zz : pzz < (0 : Int32)
  · exact no (by have czz := cv_lt (a := pzz.toInt) (b := 0) rfl (by decide) c1zz; omega) (z_t h1 c1zz)
  have h1 := z_f h1 c1zz
  by_cases c2zz : pzz < (2 : Int32)
  · have d1zz := cv_nlt (a := pzz.toInt) (b := 0) rfl (by decide) c1zz
    have d2zz := cv_lt (a := pzz.toInt) (b := 2) rfl (by decide) c2zz
    obtain ⟨z4, k4zz, h1⟩ := z_bd (z_gd (z_gd (z_t h1 c2zz)).2).2
    obtain ⟨z5, k5zz, h1⟩ := z_bd h1
    obtain ⟨z6, k6zz, h1⟩ := z_bd h1
    have h1 := Option.some.inj h1
    rcases i9zz with ⟨-, uzz⟩ | ⟨uzz, -⟩
    · exact absurd ⟨d1zz, by omega⟩ uzz
    · obtain ⟨k', ek⟩ : ∃ k' : Nat, pzz.toInt = (k' : Int) := ⟨pzz.toInt.toNat, by omega⟩
      have ik : pzz.toNatClampNeg = k' := tnc_eq ek
      rw [ik] at h5 hr
      obtain ⟨q3zz, q4zz, q5zz⟩ := back9 (k := k') h2c ek (by omega) h5
      have h2 := (z_gd (z_f h2 uzz)).2
      have h2 := z_f h2 (by rw [ik, g1]; exact h5)
      obtain ⟨qzz, fq, e8, kzz⟩ := bck_t zfu 0 q1zz h2
      have ec := clear_d k5zz
      have ft := fr_f_X9_tell kzz
      have sq : StT o0zz qzz := ht1.2.2.2.1.eq rfl rfl (fq.I 1 rfl) (fq.A 2 rfl)
      obtain ⟨s1zz, s2zz, s3zz⟩ := st_grant sq (by decide) k6zz kzz
      have fg := fr_f_X8_grant k6zz
      have hTzz := Tia.cp k4zz hr (G' := gA y'.2 3) (fun jzz hj => q3zz jzz hj)
      obtain ⟨⟨h1', h2'⟩, h3, ⟨h4, h4'⟩, h5', h6, h7, h8, h9, h10⟩ := ht
      rw [← h1]
      exact ⟨s1zz.trans s2zz.symm, ⟨by rw [fzz.I 13 rfl]; exact h1', by rw [fzz.A 12 rfl]; exact h2'⟩, by rw [fg.I 13 rfl, fzz.I 11 rfl]; exact h3, ⟨h4.eq (fzz.M 31 rfl) (fzz.M 32 rfl), h4'.eq2 (fzz.M 33 rfl) (fzz.M 54 rfl)⟩, s3zz, by rw [fg.I 14 rfl, fzz.I 58 rfl]; exact h6, h7.eq (fzz.I 62 rfl) (fzz.A 61 rfl), hTzz, PaT.emp ec.1 ec.2 ((ft.I 8 rfl).trans e8), h10.eq (fg.R 7 rfl) q5zz q4zz⟩
  · exact no (by have czz := cv_nlt (a := pzz.toInt) (b := 2) rfl (by decide) c2zz; omega) (z_f h1 c2zz)
set_option maxHeartbeats 200000 in
theorem image_b2 {o4zz o5zz : Ob} {pl : List CR} {o9 oi onzz : Ob} {yzz : Int32 × Ob × Ob × Ob} (hzz : f_X8_image_b o4zz o5zz pl o9 oi onzz = some yzz) : f_X8_grant o9 0 = some (yzz.1, yzz.2.1) ∧ f_X2_set_O oi onzz pl o4zz o5zz = some (yzz.2.2.1, yzz.2.2.2) := by
  unfold f_X8_image_b at hzz
  obtain ⟨z2, e2zz, hzz⟩ := z_bd hzz
  obtain ⟨z3, e3zz, hzz⟩ := z_bd hzz
  rw [← Option.some.inj hzz]
  exact ⟨e3zz, e2zz⟩
