def JI (S : Nat → Ob) (pl : List CR) (im0 im1 : Option IR) : Prop :=
  (IvX9 (S 14) ∧ gI (S 14) 20 = 0 ∧ TF pl (S 0) (S 1) (S 4) (S 5) (S 8) (S 9) (S 11) (S 14) im0 im1) ∧ PLok pl ∧ IvX6 (S 1) ∧ IvX0 12 400 (S 2) ∧ IvX3 (S 3) ∧ IvX2 pl (S 4) ∧ IvX4 (S 5) ∧ IvX1 (S 6) ∧ IvX7 (S 7) ∧ IvX2 pl (S 8) ∧ IvX4 (S 9) ∧ IvX1 (S 10) ∧ IvX5 (S 11) ∧ IvX5 (S 12) ∧ IvX4 (S 13) ∧ IK (gR (S 0) 7) im0 im1 ∧
  (∀ r : IR, im0 = some r → IvX2 pl r.2.2.2.2.2.2.1 ∧ IvX4 r.2.2.2.2.2.2.2) ∧ (∀ r : IR, im1 = some r → IvX2 pl r.2.2.2.2.2.2.1 ∧ IvX4 r.2.2.2.2.2.2.2)
theorem zpo_app {pl l : List CR} {r : Option Nat} (h : zpo pl r = true) : zpo (pl ++ l) r = true := by
  cases r with
  | none => rfl
  | some a =>
    have h : (pfind pl a).isSome = true := h
    show (pfind (pl ++ l) a).isSome = true
    unfold pfind at h ⊢
    rw [List.find?_append]
    cases e : pl.find? (fun c => Nat.beq c.1 a) with
    | none => rw [e] at h; cases h
    | some c => rfl
theorem zpo_new {pl : List CR} {c : CR} : zpo (pl ++ [c]) (some c.1) = true := by
  show (pfind (pl ++ [c]) c.1).isSome = true
  unfold pfind
  rw [List.find?_append]
  cases e : pl.find? (fun c' => Nat.beq c'.1 c.1) with
  | none =>
    have q : [c].find? (fun c' => Nat.beq c'.1 c.1) = some c := List.find?_cons_of_pos (Nat.beq_refl c.1)
    rw [q]; rfl
  | some c' => rfl
theorem IvX2.app {pl l : List CR} {o : Ob} (h : IvX2 pl o) : IvX2 (pl ++ l) o := ⟨h.1, h.2.1, h.2.2.1, h.2.2.2.1, h.2.2.2.2.1, fun j hj => zpo_app (h.2.2.2.2.2 j hj)⟩
theorem PLok.app {pl : List CR} {c : CR} (h : PLok pl) (hc : IvX0 c.2.2.2.1 c.2.2.2.2.1 c.2.2.2.2.2) : PLok (pl ++ [c]) := by
  intro d hd
  rcases List.mem_append.mp hd with q | q
  · exact h d q
  · rw [List.mem_singleton.mp q]; exact hc
theorem h_kept (o : Ob) (h : IvX0 12 400 o) : ∃ oc, f_X0_kept 12 400 o = some oc ∧ IvX0 (gI o 7).toNatClampNeg (gI o 8).toNatClampNeg oc := by
  have h7 := h.1
  have h8 := h.2.1
  have e7 : (((gI o 7).toNatClampNeg : Nat) : Int) = (gI o 7).toInt := by
    have e : (gI o 7).toNatClampNeg = (gI o 7).toInt.toNat := rfl
    rw [e]; omega
  have e8 : (((gI o 8).toNatClampNeg : Nat) : Int) = (gI o 8).toInt := by
    have e : (gI o 8).toNatClampNeg = (gI o 8).toInt.toNat := rfl
    rw [e]; omega
  have z0 : (0 : Int32).toInt = 0 := by decide
  have g : wp (f_X0_kept 12 400 o) (fun oc => IvX0 (gI o 7).toNatClampNeg (gI o 8).toNatClampNeg oc) := by
    unfold f_X0_kept
    refine wp_gd (decide_eq_true ⟨by omega, by omega, by omega, by omega⟩) ?_
    unfold f_X0_kept2
    have c7 : zcp (0 : Int32) (0 : Int32) (gI o 7) 12 (gI o 7).toNatClampNeg = true := zcp_of (m0 := 12) (m1 := (gI o 7).toInt) rfl e7 (by omega) (by omega) (by omega) (by omega) (by omega)
    have c8 : zcp (0 : Int32) (0 : Int32) (gI o 8) 400 (gI o 8).toNatClampNeg = true := zcp_of (m0 := 400) (m1 := (gI o 8).toInt) rfl e8 (by omega) (by omega) (by omega) (by omega) (by omega)
    refine wp_gd c7 ?_
    refine wp_lt (fun o2 f2 => ?_)
    refine wp_gd c7 ?_
    refine wp_lt (fun o4 f4 => ?_)
    refine wp_gd c7 ?_
    refine wp_lt (fun o6 f6 => ?_)
    refine wp_gd c7 ?_
    refine wp_lt (fun o8 f8 => ?_)
    refine wp_gd c7 ?_
    refine wp_lt (fun o10 f10 => ?_)
    refine wp_gd c8 ?_
    refine wp_lt (fun o12 f12 => ?_)
    refine wp_gd c8 ?_
    refine wp_lt (fun o14 f14 => ?_)
    refine wp_lt (fun o15 f15 => ?_)
    refine wp_lt (fun o16 f16 => ?_)
    refine wp_some ?_
    have k7 : gI o16 7 = gI o 7 := by rw [f16, f15]; rfl
    have k8 : gI o16 8 = gI o 8 := by rw [f16]; rfl
    have k1 : gA o16 1 = va_cpy (gA o 1) (fun _ => 0) (0 : Int32).toNatClampNeg (0 : Int32).toNatClampNeg (gI o 7).toNatClampNeg := by rw [f16, f15, f14, f12, f10, f8, f6, f4, f2]; rfl
    refine ⟨by rw [k7]; omega, by rw [k8]; omega, fun j _ hj => ?_, trivial⟩
    rw [k1]
    unfold va_cpy
    have n0 : (0 : Int32).toNatClampNeg = 0 := by decide
    rw [n0]
    split
    · have e : 0 + (j - 0) = j := by omega
      rw [e]; exact h.2.2.1 j (Nat.zero_le _) hj
    · exact (show 0 ≤ (0 : Int32).toInt ∧ (0 : Int32).toInt ≤ 20 by decide)
  exact g
theorem h_lawb (pl : List CR) (c : CR) (hpl : PLok pl) (hc : IvX0 c.2.2.2.1 c.2.2.2.2.1 c.2.2.2.2.2) (o8 o4 : Ob) (h4 : IvX2 pl o4) : ∃ y, f_X8_law_b (pl ++ [c]) o8 o4 (some c.1) = some y ∧ IvX8 (gR o8 7) y.2.1 ∧ IvX2 (pl ++ [c]) y.2.2 := by
  obtain ⟨z3, e3, -, g, -⟩ := s_X2_addLaw_Q o4 (pl ++ [c]) (some c.1) h4.app (hpl.app hc) zpo_new
  obtain ⟨z4, e4, g4, -⟩ := s_X8_grant o8 z3.1 (rfl : IvX8 (gR o8 7) o8)
  refine ⟨(z4.1, z4.2, z3.2), ?_, g4, g⟩
  unfold f_X8_law_b
  rw [e3]
  show ((f_X8_grant o8 z3.1).bind fun z4 => some (z4.1, z4.2, z3.2)) = _
  rw [e4]; rfl
theorem iv2_0 (pl : List CR) : IvX2 pl ob2 := by
  have z : (0 : Int32).toInt = 0 := by decide
  refine ⟨⟨by decide, by decide⟩, ⟨by decide, by decide⟩, ⟨by decide, by decide⟩, ⟨by decide, by decide⟩, ⟨fun j _ _ => ?_, trivial⟩, fun j _ => rfl⟩
  show 0 ≤ (0 : Int32).toInt ∧ (0 : Int32).toInt ≤ 3
  decide
theorem iv4_0 : IvX4 ob0 := by
  refine ⟨⟨fun j _ _ => ?_, trivial⟩, trivial⟩
  show 0 ≤ (0 : Int32).toInt ∧ (0 : Int32).toInt ≤ 9
  decide
theorem h_imgb (pl : List CR) (hpl : PLok pl) (o4 o5 o8 oi on : Ob) (h4 : IvX2 pl o4) (h5 : IvX4 o5) (hi : IvX2 pl oi) (hn : IvX4 on) : ∃ y, f_X8_image_b o4 o5 pl o8 oi on = some y ∧ IvX8 (gR o8 7) y.2.1 ∧ IvX2 pl y.2.2.1 ∧ IvX4 y.2.2.2 := by
  obtain ⟨z2, e2, g1, -, g2, -⟩ := s_X2_set_O oi on pl o4 o5 hi hn hpl h4 h5
  obtain ⟨z3, e3, g3, -⟩ := s_X8_grant o8 0 (rfl : IvX8 (gR o8 7) o8)
  refine ⟨(z3.1, z3.2, z2.1, z2.2), ?_, g3, g1, g2⟩
  unfold f_X8_image_b
  rw [e2]
  show ((f_X8_grant o8 0).bind fun z3 => some (z3.1, z3.2, z2.1, z2.2)) = _
  rw [e3]; rfl
theorem okp_0 : ok_0 JI := by
  intro S pl im0 im1 a1 a2 hJ
  obtain ⟨⟨h14, h20, ht⟩, hpl, h1, h2, h3, h4, h5, h6, h7, h8, h9, h10, h11, h12, h13, hik, hi0, hi1⟩ := hJ
  obtain ⟨y2, e2, p2⟩ := s_X9_person (S 14) a1 a2 h14 
  obtain ⟨y1, e1, p1⟩ := s_X8_person (S 0) (S 4) (S 5) (S 11) a1 a2 (rfl : IvX8 (gR (S 0) 7) (S 0)) h4 h5 h11
  have tt := tf_person ht h4 e1 e2
  exact ⟨y2, e2, y1, e1, ⟨⟨p2.2.1, ((p2.2.2.1 20 (by decide)).trans h20), tt.2⟩, hpl, h1, h2, h3, p1.2.2.1, p1.2.2.2.2.1, h6, h7, h8, h9, h10, p1.2.2.2.2.2.2.1, h12, h13, (IK.eq p1.1 hik), hi0, hi1⟩⟩
theorem okp_1 : ok_1 JI := by
  intro S pl im0 im1 a1 a2 hJ
  obtain ⟨⟨h14, h20, ht⟩, hpl, h1, h2, h3, h4, h5, h6, h7, h8, h9, h10, h11, h12, h13, hik, hi0, hi1⟩ := hJ
  obtain ⟨y2, e2, p2⟩ := s_X9_of (S 14) a1 a2 h14 ⟨by rw [h20]; decide, by rw [h20]; decide⟩
  obtain ⟨y1, e1, p1⟩ := s_X8_of (S 0) (S 3) (S 4) (S 5) (S 6) pl a1 a2 (rfl : IvX8 (gR (S 0) 7) (S 0)) h3 h4 h5 h6 hpl
  exact ⟨y2, e2, y1, e1, ⟨⟨p2.1, ((p2.2.1 20 (by decide)).trans h20), ht.rd (fr_f_X9_of e2) rfl⟩, hpl, h1, h2, p1.1, h4, h5, h6, h7, h8, h9, h10, h11, h12, h13, hik, hi0, hi1⟩⟩
theorem okp_2 : ok_2 JI := by
  intro S pl im0 im1 a1 a2 a3 hJ
  obtain ⟨⟨h14, h20, ht⟩, hpl, h1, h2, h3, h4, h5, h6, h7, h8, h9, h10, h11, h12, h13, hik, hi0, hi1⟩ := hJ
  obtain ⟨y2, e2, p2⟩ := s_X9_strength (S 14) a1 a2 a3 h14 
  obtain ⟨y1, e1, p1⟩ := s_X8_strength (S 0) (S 4) a1 a2 a3 (rfl : IvX8 (gR (S 0) 7) (S 0)) h4
  have tt := tf_strength ht h4 e1 e2
  exact ⟨y2, e2, y1, e1, ⟨⟨p2.1, ((p2.2.1 20 (by decide)).trans h20), tt.2⟩, hpl, h1, h2, h3, p1.2.2.1, h5, h6, h7, h8, h9, h10, h11, h12, h13, (IK.eq p1.1 hik), hi0, hi1⟩⟩
theorem okp_3 : ok_3 JI := by
  intro S pl im0 im1 a1 a2 a3 hJ
  obtain ⟨⟨h14, h20, ht⟩, hpl, h1, h2, h3, h4, h5, h6, h7, h8, h9, h10, h11, h12, h13, hik, hi0, hi1⟩ := hJ
  obtain ⟨y2, e2, p2⟩ := s_X9_beats (S 14) a1 a2 a3 h14 
  obtain ⟨y1, e1, p1⟩ := s_X8_beats (S 0) (S 4) a1 a2 a3 (rfl : IvX8 (gR (S 0) 7) (S 0)) h4
  have tt := tf_beats ht h4 e1 e2
  exact ⟨y2, e2, y1, e1, ⟨⟨p2.2.1, ((p2.2.2.1 20 (by decide)).trans h20), tt.2⟩, hpl, h1, h2, h3, p1.2.2.1, h5, h6, h7, h8, h9, h10, h11, h12, h13, (IK.eq p1.1 hik), hi0, hi1⟩⟩
theorem okp_4 : ok_4 JI := by
  intro S pl im0 im1 a1 a2 hJ
  obtain ⟨⟨h14, h20, ht⟩, hpl, h1, h2, h3, h4, h5, h6, h7, h8, h9, h10, h11, h12, h13, hik, hi0, hi1⟩ := hJ
  obtain ⟨y2, e2, p2⟩ := s_X9_placed (S 14) a1 a2 h14 ⟨by rw [h20]; decide, by rw [h20]; decide⟩
  obtain ⟨y1, e1, p1⟩ := s_X8_placed (S 0) (S 3) (S 4) (S 5) (S 6) pl a1 a2 (rfl : IvX8 (gR (S 0) 7) (S 0)) h3 h4 h5 h6 hpl
  exact ⟨y2, e2, y1, e1, ⟨⟨p2.2.1, ((p2.2.2.1 20 (by decide)).trans h20), ht.rd (fr_f_X9_placed e2) rfl⟩, hpl, h1, h2, p1.2.1, h4, h5, p1.2.2.2.1, h7, h8, h9, h10, h11, h12, h13, hik, hi0, hi1⟩⟩
theorem okp_5 : ok_5 JI := by
  intro S pl im0 im1 a1 a2 hJ
  obtain ⟨⟨h14, h20, ht⟩, hpl, h1, h2, h3, h4, h5, h6, h7, h8, h9, h10, h11, h12, h13, hik, hi0, hi1⟩ := hJ
  obtain ⟨y2, e2, p2⟩ := s_X9_terms (S 14) a1 a2 h14 
  obtain ⟨y1, e1, p1⟩ := s_X8_terms (S 0) (S 4) (S 5) (S 11) a1 a2 (rfl : IvX8 (gR (S 0) 7) (S 0)) h4 h5 h11
  have tt := tf_terms ht e1 e2
  exact ⟨y2, e2, y1, e1, ⟨⟨p2.1, ((p2.2.1 20 (by decide)).trans h20), tt.2⟩, hpl, h1, h2, h3, p1.2.2.1, p1.2.2.2.2.1, h6, h7, h8, h9, h10, p1.2.2.2.2.2.2.1, h12, h13, (IK.eq p1.1 hik), hi0, hi1⟩⟩
theorem okp_6 : ok_6 JI := by
  intro S pl im0 im1 a1 a2 a3 a4 a5 hJ
  obtain ⟨⟨h14, h20, ht⟩, hpl, h1, h2, h3, h4, h5, h6, h7, h8, h9, h10, h11, h12, h13, hik, hi0, hi1⟩ := hJ
  obtain ⟨y2, e2, p2⟩ := s_X9_feed (S 14) a1 a2 a3 a4 a5 h14 
  obtain ⟨y1, e1, p1⟩ := s_X8_feed (S 0) (S 1) a1 a2 a3 a4 a5 (rfl : IvX8 (gR (S 0) 7) (S 0)) h1
  have tt := tf_feed ht h1.1 e1 e2
  exact ⟨y2, e2, y1, e1, ⟨⟨p2.2.1, ((p2.2.2.1 20 (by decide)).trans h20), tt.2⟩, hpl, p1.2.1, h2, h3, h4, h5, h6, h7, h8, h9, h10, h11, h12, h13, hik, hi0, hi1⟩⟩
theorem okp_7 : ok_7 JI := by
  intro S pl im0 im1 a1 hJ
  obtain ⟨⟨h14, h20, ht⟩, hpl, h1, h2, h3, h4, h5, h6, h7, h8, h9, h10, h11, h12, h13, hik, hi0, hi1⟩ := hJ
  obtain ⟨y2, e2, p2⟩ := s_X9_end (S 14) a1 h14 
  obtain ⟨y1, e1, p1⟩ := s_X8_end (S 0) (S 1) a1 (rfl : IvX8 (gR (S 0) 7) (S 0)) h1
  have tt := tf_end ht e1 e2
  exact ⟨y2, e2, y1, e1, ⟨⟨p2.2.1, ((p2.2.2.1 20 (by decide)).trans h20), tt.2⟩, hpl, p1.2.1, h2, h3, h4, h5, h6, h7, h8, h9, h10, h11, h12, h13, hik, hi0, hi1⟩⟩
theorem okp_8 : ok_8 JI := by
  intro S pl im0 im1  hJ
  obtain ⟨⟨h14, h20, ht⟩, hpl, h1, h2, h3, h4, h5, h6, h7, h8, h9, h10, h11, h12, h13, hik, hi0, hi1⟩ := hJ
  obtain ⟨y2, e2, p2⟩ := s_X9_row (S 14)  h14 
  obtain ⟨y1, e1, p1⟩ := s_X8_row (S 0) (S 1) (S 4)  (rfl : IvX8 (gR (S 0) 7) (S 0)) h1 h4
  have tt := tf_row ht h4 h1.1 e1 e2
  exact ⟨y2, e2, y1, e1, ⟨⟨p2.1, ((p2.2.1 20 (by decide)).trans h20), tt.2⟩, hpl, p1.2.2.1, h2, h3, p1.2.2.2.2.1, h5, h6, h7, h8, h9, h10, h11, h12, h13, (IK.eq p1.1 hik), hi0, hi1⟩⟩
theorem okp_9 : ok_9 JI := by
  intro S pl im0 im1  hJ
  obtain ⟨⟨h14, h20, ht⟩, hpl, h1, h2, h3, h4, h5, h6, h7, h8, h9, h10, h11, h12, h13, hik, hi0, hi1⟩ := hJ
  obtain ⟨y2, e2, p2⟩ := s_X9_blots (S 14)  h14 
  obtain ⟨y1, e1, p1⟩ := s_X8_blots (S 0)  (rfl : IvX8 (gR (S 0) 7) (S 0))
  exact ⟨y2, e2, y1, e1, ⟨⟨p2.1, ((p2.2.1 20 (by decide)).trans h20), ht.rd (fr_f_X9_blots e2) rfl⟩, hpl, h1, h2, h3, h4, h5, h6, h7, h8, h9, h10, h11, h12, h13, hik, hi0, hi1⟩⟩
theorem okp_10 : ok_10 JI := by
  intro S pl im0 im1 hJ
  obtain ⟨⟨h14, h20, ht⟩, hpl, h1, h2, h3, h4, h5, h6, h7, h8, h9, h10, h11, h12, h13, hik, hi0, hi1⟩ := hJ
  obtain ⟨y2, e2, p2⟩ := s_X9_law (S 14)  h14 ⟨by rw [h20]; decide, by rw [h20]; decide⟩
  refine ⟨y2, e2, ?_⟩
  by_cases c1 : (gI (S 4) 9) < (6 : Int32)
  · obtain ⟨z1, ez1, -, g1, gk, g2, -⟩ := s_X6_readText (S 1) (S 2) 1 h1 h2 ⟨by decide, by decide⟩
    have hI1 : IvX6 (sI z1.2.1 2 0) := ipX6_2 g1 ⟨by decide, by decide⟩
    have eT : gA z1.2.1 0 = gA (S 1) 0 := gk.2.1 0 (by decide)
    by_cases c2 : z1.1 = 0
    · obtain ⟨z3, ez3, g3, -⟩ := s_X8_refuse (S 0) (-6) (rfl : IvX8 (gR (S 0) 7) (S 0))
      have tt := tf_law_bad ht h1.1 c1 ez1 c2 eT ez3 e2
      refine Or.inl ⟨(z3.1, z3.2, sI z1.2.1 2 0, z1.2.2), ?_, ⟨⟨p2.1, p2.2.2, tt.2⟩, hpl, hI1, g2, h3, h4, h5, h6, h7, h8, h9, h10, h11, h12, h13, IK.eq g3 hik, hi0, hi1⟩⟩
      unfold f_X8_law_R
      rw [if_pos c1, ez1]
      show (if z1.1 = (0 : Int32) then ((f_X8_refuse (S 0) (-6 : Int32)).bind fun z3 => some (z3.1, z3.2, sI z1.2.1 2 0, z1.2.2)) else none) = _
      rw [if_pos c2, ez3]; rfl
    · obtain ⟨oc, eoc, hoc⟩ := h_kept z1.2.2 g2
      refine Or.inr ⟨(S 0, sI z1.2.1 2 0, z1.2.2, S 4), ?_, oc, eoc, fun a q k _ => ?_, fun x hx => ?_⟩
      · unfold f_X8_law_a
        rw [if_pos c1, ez1]
        show (if z1.1 = (0 : Int32) then none else some (S 0, sI z1.2.1 2 0, z1.2.2, S 4)) = _
        rw [if_neg c2]
      · obtain ⟨y, ey, -⟩ := h_lawb pl (a, q, k, (gI z1.2.2 7).toNatClampNeg, (gI z1.2.2 8).toNatClampNeg, oc) hpl hoc (S 0) (S 4) h4
        exact ⟨y, ey⟩
      · obtain ⟨y, ey, q1, q2⟩ := h_lawb pl (x.1, x.2.1, x.2.2.1, (gI z1.2.2 7).toNatClampNeg, (gI z1.2.2 8).toNatClampNeg, oc) hpl hoc (S 0) (S 4) h4
        have exy : y = x.2.2.2 := Option.some.inj (ey.symm.trans hx.2)
        rw [exy] at q1 q2
        have tt := tf_law_y ht h1.1 c1 ez1 c2 eT eoc rfl hx.1 hx.2 e2
        exact ⟨⟨p2.1, p2.2.2, tt.2⟩, hpl.app hoc, hI1, g2, h3, q2, h5, h6, h7, h8.app, h9, h10, h11, h12, h13, IK.eq q1 hik, fun r hr => ⟨(hi0 r hr).1.app, (hi0 r hr).2⟩, fun r hr => ⟨(hi1 r hr).1.app, (hi1 r hr).2⟩⟩
  · obtain ⟨z5, ez5, g5, -⟩ := s_X8_refuse (S 0) (-5) (rfl : IvX8 (gR (S 0) 7) (S 0))
    have hI1 : IvX6 (sI (S 1) 2 0) := ipX6_2 h1 ⟨by decide, by decide⟩
    have tt := tf_law_full (o1 := S 1) ht c1 ez5 e2
    refine Or.inl ⟨(z5.1, z5.2, sI (S 1) 2 0, S 2), ?_, ⟨⟨p2.1, p2.2.2, tt.2⟩, hpl, hI1, h2, h3, h4, h5, h6, h7, h8, h9, h10, h11, h12, h13, IK.eq g5 hik, hi0, hi1⟩⟩
    unfold f_X8_law_R
    rw [if_neg c1]
    show ((f_X8_refuse (S 0) (-5 : Int32)).bind fun z5 => some (z5.1, z5.2, sI (S 1) 2 0, S 2)) = _
    rw [ez5]; rfl
theorem okp_11 : ok_11 JI := by
  intro S pl im0 im1  hJ
  obtain ⟨⟨h14, h20, ht⟩, hpl, h1, h2, h3, h4, h5, h6, h7, h8, h9, h10, h11, h12, h13, hik, hi0, hi1⟩ := hJ
  obtain ⟨y2, e2, p2⟩ := s_X9_orders (S 14)  h14 ⟨by rw [h20]; decide, by rw [h20]; decide⟩
  obtain ⟨y1, e1, p1⟩ := s_X8_orders (S 0) (S 1) (S 2) (S 3) (S 4) (S 5) (S 6) (S 11) (S 12) (S 13) pl  (rfl : IvX8 (gR (S 0) 7) (S 0)) h1 h2 h3 h4 h5 h6 h11 h12 h13 hpl
  have tt := tf_orders ht h20 h1.1 e1 e2 (p1.2.1.1 13 (by decide)) p1.1 (p1.2.2.2.1.2.1 0 (by decide)) (orders8_2 e1) p2.2.2.2
  exact ⟨y2, e2, y1, e1, ⟨⟨p2.1, p2.2.2.1, tt.2⟩, hpl, p1.2.2.1, p1.2.2.2.2.1, p1.2.2.2.2.2.2.1, h4, p1.2.2.2.2.2.2.2.2.1, p1.2.2.2.2.2.2.2.2.2.2.1, h7, h8, h9, h10, p1.2.2.2.2.2.2.2.2.2.2.2.2.1, p1.2.2.2.2.2.2.2.2.2.2.2.2.2.2.1, p1.2.2.2.2.2.2.2.2.2.2.2.2.2.2.2.2.1, (IK.eq p1.1 hik), hi0, hi1⟩⟩
theorem okp_12 : ok_12 JI := by
  intro S pl im0 im1  hJ
  obtain ⟨⟨h14, h20, ht⟩, hpl, h1, h2, h3, h4, h5, h6, h7, h8, h9, h10, h11, h12, h13, hik, hi0, hi1⟩ := hJ
  obtain ⟨y2, e2, p2⟩ := s_X9_fault (S 14)  h14 
  obtain ⟨y1, e1, p1⟩ := s_X8_fault (S 0) (S 1)  (rfl : IvX8 (gR (S 0) 7) (S 0)) h1
  exact ⟨y2, e2, y1, e1, ⟨⟨p2.1, ((p2.2.1 20 (by decide)).trans h20), ht.rd (fr_f_X9_fault e2) rfl⟩, hpl, h1, h2, h3, h4, h5, h6, h7, h8, h9, h10, h11, h12, h13, hik, hi0, hi1⟩⟩
theorem okp_13 : ok_13 JI := by
  intro S pl im0 im1  hJ
  obtain ⟨⟨h14, h20, ht⟩, hpl, h1, h2, h3, h4, h5, h6, h7, h8, h9, h10, h11, h12, h13, hik, hi0, hi1⟩ := hJ
  obtain ⟨y2, e2, p2⟩ := s_X9_stopped (S 14)  h14 
  obtain ⟨y1, e1, p1⟩ := s_X8_stopped (S 0)  (rfl : IvX8 (gR (S 0) 7) (S 0))
  exact ⟨y2, e2, y1, e1, ⟨⟨p2.1, ((p2.2.1 20 (by decide)).trans h20), ht.rd (fr_f_X9_stopped e2) rfl⟩, hpl, h1, h2, h3, h4, h5, h6, h7, h8, h9, h10, h11, h12, h13, hik, hi0, hi1⟩⟩
theorem okp_14 : ok_14 JI := by
  intro S pl im0 im1 a1 hJ
  obtain ⟨⟨h14, h20, ht⟩, hpl, h1, h2, h3, h4, h5, h6, h7, h8, h9, h10, h11, h12, h13, hik, hi0, hi1⟩ := hJ
  obtain ⟨y2, e2, p2⟩ := s_X9_force (S 14) a1 h14 
  obtain ⟨y1, e1, p1⟩ := s_X8_force (S 0) (S 4) a1 (rfl : IvX8 (gR (S 0) 7) (S 0)) h4
  have tt := tf_force ht e1 e2
  exact ⟨y2, e2, y1, e1, ⟨⟨p2.2.1, ((p2.2.2.1 20 (by decide)).trans h20), tt.2⟩, hpl, h1, h2, h3, p1.2.2.1, h5, h6, h7, h8, h9, h10, h11, h12, h13, (IK.eq p1.1 hik), hi0, hi1⟩⟩
theorem okp_15 : ok_15 JI := by
  intro S pl im0 im1 a1 hJ
  obtain ⟨⟨h14, h20, ht⟩, hpl, h1, h2, h3, h4, h5, h6, h7, h8, h9, h10, h11, h12, h13, hik, hi0, hi1⟩ := hJ
  obtain ⟨y2, e2, p2⟩ := s_X9_race (S 14) a1 h14 ⟨by rw [h20]; decide, by rw [h20]; decide⟩
  obtain ⟨y1, e1, p1⟩ := s_X8_race (S 0) (S 3) (S 4) (S 5) (S 6) (S 11) pl a1 (rfl : IvX8 (gR (S 0) 7) (S 0)) h3 h4 h5 h6 h11 hpl
  have tt := tf_race ht h20 e1 e2
  exact ⟨y2, e2, y1, e1, ⟨⟨p2.2.1, ((p2.2.2.1 20 (by decide)).trans h20), tt.2⟩, hpl, h1, h2, p1.2.2.1, h4, p1.2.2.2.2.1, p1.2.2.2.2.2.2.1, h7, h8, h9, h10, p1.2.2.2.2.2.2.2.2.1, h12, h13, (IK.eq p1.1 hik), hi0, hi1⟩⟩
theorem okp_16 : ok_16 JI := by
  intro S pl im0 im1 a1 hJ
  obtain ⟨⟨h14, h20, ht⟩, hpl, h1, h2, h3, h4, h5, h6, h7, h8, h9, h10, h11, h12, h13, hik, hi0, hi1⟩ := hJ
  obtain ⟨y2, e2, p2⟩ := s_X9_enter (S 14) a1 h14 ⟨by rw [h20]; decide, by rw [h20]; decide⟩
  obtain ⟨y1, e1, p1⟩ := s_X8_enter (S 0) (S 3) (S 4) (S 5) (S 6) (S 11) pl a1 (rfl : IvX8 (gR (S 0) 7) (S 0)) h3 h4 h5 h6 h11 hpl
  have tt := tf_enter ht h20 e1 e2
  exact ⟨y2, e2, y1, e1, ⟨⟨p2.2.1, ((p2.2.2.1 20 (by decide)).trans h20), tt.2⟩, hpl, h1, h2, p1.2.2.1, h4, p1.2.2.2.2.1, p1.2.2.2.2.2.2.1, h7, h8, h9, h10, p1.2.2.2.2.2.2.2.2.1, h12, h13, (IK.eq p1.1 hik), hi0, hi1⟩⟩
theorem okp_17 : ok_17 JI := by
  intro S pl im0 im1 a1 hJ
  obtain ⟨⟨h14, h20, ht⟩, hpl, h1, h2, h3, h4, h5, h6, h7, h8, h9, h10, h11, h12, h13, hik, hi0, hi1⟩ := hJ
  obtain ⟨y2, e2, p2⟩ := s_X9_take (S 14) a1 h14 
  obtain ⟨y1, e1, p1⟩ := s_X8_take (S 0) (S 3) (S 4) (S 5) (S 6) (S 11) pl a1 (rfl : IvX8 (gR (S 0) 7) (S 0)) h3 h4 h5 h6 h11 hpl
  have tt := tf_take ht h20 e1 e2
  exact ⟨y2, e2, y1, e1, ⟨⟨p2.2.1, ((p2.2.2.1 20 (by decide)).trans h20), tt.2⟩, hpl, h1, h2, p1.2.2.1, h4, p1.2.2.2.2.1, p1.2.2.2.2.2.2.1, h7, h8, h9, h10, p1.2.2.2.2.2.2.2.2.1, h12, h13, (IK.eq p1.1 hik), hi0, hi1⟩⟩
theorem okp_18 : ok_18 JI := by
  intro S pl im0 im1  hJ
  obtain ⟨⟨h14, h20, ht⟩, hpl, h1, h2, h3, h4, h5, h6, h7, h8, h9, h10, h11, h12, h13, hik, hi0, hi1⟩ := hJ
  obtain ⟨y2, e2, p2⟩ := s_X9_pass (S 14)  h14 ⟨by rw [h20]; decide, by rw [h20]; decide⟩
  obtain ⟨y1, e1, p1⟩ := s_X8_pass (S 0) (S 3) (S 4) (S 5) (S 6) (S 11) pl  (rfl : IvX8 (gR (S 0) 7) (S 0)) h3 h4 h5 h6 h11 hpl
  have tt := tf_pass ht h20 e1 e2
  exact ⟨y2, e2, y1, e1, ⟨⟨p2.2.1, ((p2.2.2.1 20 (by decide)).trans h20), tt.2⟩, hpl, h1, h2, p1.2.2.1, h4, p1.2.2.2.2.1, p1.2.2.2.2.2.2.1, h7, h8, h9, h10, p1.2.2.2.2.2.2.2.2.1, h12, h13, (IK.eq p1.1 hik), hi0, hi1⟩⟩
theorem okp_19 : ok_19 JI := by
  intro S pl im0 im1  hJ
  obtain ⟨⟨h14, h20, ht⟩, hpl, h1, h2, h3, h4, h5, h6, h7, h8, h9, h10, h11, h12, h13, hik, hi0, hi1⟩ := hJ
  obtain ⟨y2, e2, p2⟩ := s_X9_undo (S 14)  h14 
  obtain ⟨y1, e1, p1⟩ := s_X8_undo (S 0) (S 4) (S 5) (S 11)  (rfl : IvX8 (gR (S 0) 7) (S 0)) h4 h5 h11
  have tt := tf_undo ht h20 e1 e2
  exact ⟨y2, e2, y1, e1, ⟨⟨p2.2.1, ((p2.2.2.1 20 (by decide)).trans h20), tt.2⟩, hpl, h1, h2, h3, h4, p1.2.2.1, h6, h7, h8, h9, h10, p1.2.2.2.2.1, h12, h13, (IK.eq p1.1 hik), hi0, hi1⟩⟩
theorem okp_20 : ok_20 JI := by
  intro S pl im0 im1 a1 a2 a3 a4 hJ
  obtain ⟨⟨h14, h20, ht⟩, hpl, h1, h2, h3, h4, h5, h6, h7, h8, h9, h10, h11, h12, h13, hik, hi0, hi1⟩ := hJ
  obtain ⟨y2, e2, p2⟩ := s_X9_be (S 14) a1 a2 a3 a4 h14 ⟨by rw [h20]; decide, by rw [h20]; decide⟩
  obtain ⟨y1, e1, p1⟩ := s_X8_be (S 0) (S 3) (S 4) (S 5) (S 6) (S 7) pl a1 a2 a3 a4 (rfl : IvX8 (gR (S 0) 7) (S 0)) h3 h4 h5 h6 h7 hpl
  exact ⟨y2, e2, y1, e1, ⟨⟨p2.1, ((p2.2.1 20 (by decide)).trans h20), ht.rd (fr_f_X9_be e2) rfl⟩, hpl, h1, h2, p1.1, h4, h5, h6, p1.2.2.1, h8, h9, h10, h11, h12, h13, hik, hi0, hi1⟩⟩
theorem okp_21 : ok_21 JI := by
  intro S pl im0 im1 a1 a2 hJ
  obtain ⟨⟨h14, h20, ht⟩, hpl, h1, h2, h3, h4, h5, h6, h7, h8, h9, h10, h11, h12, h13, hik, hi0, hi1⟩ := hJ
  obtain ⟨y2, e2, p2⟩ := s_X9_seen (S 14) a1 a2 h14 
  obtain ⟨y1, e1, p1⟩ := s_X8_seen (S 0) (S 4) a1 a2 (rfl : IvX8 (gR (S 0) 7) (S 0)) h4
  have tt := tf_seen ht h4 e1 e2
  exact ⟨y2, e2, y1, e1, ⟨⟨p2.2.1, ((p2.2.2.1 20 (by decide)).trans h20), tt.2⟩, hpl, h1, h2, h3, p1.2.2.1, h5, h6, h7, h8, h9, h10, h11, h12, h13, (IK.eq p1.1 hik), hi0, hi1⟩⟩
theorem okp_22 : ok_22 JI := by
  intro S pl im0 im1  hJ
  obtain ⟨⟨h14, h20, ht⟩, hpl, h1, h2, h3, h4, h5, h6, h7, h8, h9, h10, h11, h12, h13, hik, hi0, hi1⟩ := hJ
  obtain ⟨y2, e2, p2⟩ := s_X9_forget (S 14)  h14 
  obtain ⟨y1, e1, p1⟩ := s_X8_forget (S 0) (S 4)  (rfl : IvX8 (gR (S 0) 7) (S 0)) h4
  have tt := tf_forget ht e1 e2
  exact ⟨y2, e2, y1, e1, ⟨⟨p2.2.1, ((p2.2.2.1 20 (by decide)).trans h20), tt.2⟩, hpl, h1, h2, h3, p1.2.1, h5, h6, h7, h8, h9, h10, h11, h12, h13, hik, hi0, hi1⟩⟩
theorem okp_23 : ok_23 JI := by
  intro S pl im0 im1  hJ
  obtain ⟨⟨h14, h20, ht⟩, hpl, h1, h2, h3, h4, h5, h6, h7, h8, h9, h10, h11, h12, h13, hik, hi0, hi1⟩ := hJ
  obtain ⟨y2, e2, p2⟩ := s_X9_canBe (S 14)  h14 ⟨by rw [h20]; decide, by rw [h20]; decide⟩
  obtain ⟨y1, e1, p1⟩ := s_X8_canBe (S 0) (S 3) (S 4) (S 5) (S 6) (S 7) pl  (rfl : IvX8 (gR (S 0) 7) (S 0)) h3 h4 h5 h6 h7 hpl
  exact ⟨y2, e2, y1, e1, ⟨⟨p2.2.1, ((p2.2.2.1 20 (by decide)).trans h20), ht.rd (fr_f_X9_canBe e2) rfl⟩, hpl, h1, h2, p1.2.1, h4, h5, h6, h7, h8, h9, h10, h11, h12, h13, hik, hi0, hi1⟩⟩
theorem okp_24 : ok_24 JI := by
  intro S pl im0 im1 a1 hJ
  obtain ⟨⟨h14, h20, ht⟩, hpl, h1, h2, h3, h4, h5, h6, h7, h8, h9, h10, h11, h12, h13, hik, hi0, hi1⟩ := hJ
  obtain ⟨y2, e2, p2⟩ := s_X9_look (S 14) a1 h14 ⟨by rw [h20]; decide, by rw [h20]; decide⟩
  obtain ⟨y1, e1, p1⟩ := s_X8_look (S 0) (S 3) (S 4) (S 5) (S 6) (S 7) pl a1 (rfl : IvX8 (gR (S 0) 7) (S 0)) h3 h4 h5 h6 h7 hpl
  exact ⟨y2, e2, y1, e1, ⟨⟨p2.2.1, ((p2.2.2.1 20 (by decide)).trans h20), ht.rd (fr_f_X9_look e2) rfl⟩, hpl, h1, h2, p1.1, h4, h5, h6, p1.2.2.1, h8, h9, h10, h11, h12, h13, hik, hi0, hi1⟩⟩
theorem okp_25 : ok_25 JI := by
  intro S pl im0 im1 a1 hJ
  obtain ⟨⟨h14, h20, ht⟩, hpl, h1, h2, h3, h4, h5, h6, h7, h8, h9, h10, h11, h12, h13, hik, hi0, hi1⟩ := hJ
  obtain ⟨y2, e2, p2⟩ := s_X9_ranking (S 14) a1 h14 
  obtain ⟨y1, e1, p1⟩ := s_X8_ranking (S 0) (S 4) (S 7) a1 (rfl : IvX8 (gR (S 0) 7) (S 0)) h4 h7
  exact ⟨y2, e2, y1, e1, ⟨⟨p2.1, ((p2.2.1 20 (by decide)).trans h20), ht.rd (fr_f_X9_ranking e2) rfl⟩, hpl, h1, h2, h3, h4, h5, h6, p1.1, h8, h9, h10, h11, h12, h13, hik, hi0, hi1⟩⟩
theorem okp_26 : ok_26 JI := by
  intro S pl im0 im1  hJ
  obtain ⟨⟨h14, h20, ht⟩, hpl, h1, h2, h3, h4, h5, h6, h7, h8, h9, h10, h11, h12, h13, hik, hi0, hi1⟩ := hJ
  obtain ⟨y2, e2, p2⟩ := s_X9_circles (S 14)  h14 
  obtain ⟨y1, e1, p1⟩ := s_X8_circles (S 0) (S 4) (S 7)  (rfl : IvX8 (gR (S 0) 7) (S 0)) h4 h7
  exact ⟨y2, e2, y1, e1, ⟨⟨p2.1, ((p2.2.1 20 (by decide)).trans h20), ht.rd (fr_f_X9_circles e2) rfl⟩, hpl, h1, h2, h3, h4, h5, h6, h7, h8, h9, h10, h11, h12, h13, hik, hi0, hi1⟩⟩
theorem okp_27 : ok_27 JI := by
  intro S pl im0 im1 a1 hJ
  obtain ⟨⟨h14, h20, ht⟩, hpl, h1, h2, h3, h4, h5, h6, h7, h8, h9, h10, h11, h12, h13, hik, hi0, hi1⟩ := hJ
  obtain ⟨y2, e2, p2⟩ := s_X9_crowned (S 14) a1 h14 ⟨by rw [h20]; decide, by rw [h20]; decide⟩
  obtain ⟨y1, e1, p1⟩ := s_X8_crowned (S 0) (S 3) (S 4) (S 5) (S 6) (S 7) pl a1 (rfl : IvX8 (gR (S 0) 7) (S 0)) h3 h4 h5 h6 h7 hpl
  exact ⟨y2, e2, y1, e1, ⟨⟨p2.1, ((p2.2.1 20 (by decide)).trans h20), ht.rd (fr_f_X9_crowned e2) rfl⟩, hpl, h1, h2, p1.1, h4, h5, h6, p1.2.2.1, h8, h9, h10, h11, h12, h13, hik, hi0, hi1⟩⟩
theorem okp_28 : ok_28 JI := by
  intro S pl im0 im1 a1 hJ
  obtain ⟨⟨h14, h20, ht⟩, hpl, h1, h2, h3, h4, h5, h6, h7, h8, h9, h10, h11, h12, h13, hik, hi0, hi1⟩ := hJ
  obtain ⟨y2, e2, p2⟩ := s_X9_heir (S 14) a1 h14 
  obtain ⟨y1, e1, p1⟩ := s_X8_heir (S 0) (S 4) (S 7) a1 (rfl : IvX8 (gR (S 0) 7) (S 0)) h4 h7
  exact ⟨y2, e2, y1, e1, ⟨⟨p2.2.1, ((p2.2.2.1 20 (by decide)).trans h20), ht.rd (fr_f_X9_heir e2) rfl⟩, hpl, h1, h2, h3, h4, h5, h6, p1.2.1, h8, h9, h10, h11, h12, h13, hik, hi0, hi1⟩⟩
theorem okp_29 : ok_29 JI := by
  intro S pl im0 im1 a1 a2 hJ
  obtain ⟨⟨h14, h20, ht⟩, hpl, h1, h2, h3, h4, h5, h6, h7, h8, h9, h10, h11, h12, h13, hik, hi0, hi1⟩ := hJ
  obtain ⟨y2, e2, p2⟩ := s_X9_ladder (S 14) a1 a2 h14 
  obtain ⟨y1, e1, p1⟩ := s_X8_ladder (S 0) (S 7) a1 a2 (rfl : IvX8 (gR (S 0) 7) (S 0)) h7
  exact ⟨y2, e2, y1, e1, ⟨⟨p2.1, ((p2.2.1 20 (by decide)).trans h20), ht.rd (fr_f_X9_ladder e2) rfl⟩, hpl, h1, h2, h3, h4, h5, h6, p1.1, h8, h9, h10, h11, h12, h13, hik, hi0, hi1⟩⟩
theorem okp_30 : ok_30 JI := by
  intro S pl im0 im1  hJ
  obtain ⟨⟨h14, h20, ht⟩, hpl, h1, h2, h3, h4, h5, h6, h7, h8, h9, h10, h11, h12, h13, hik, hi0, hi1⟩ := hJ
  obtain ⟨y2, e2, p2⟩ := s_X9_never (S 14)  h14 ⟨by rw [h20]; decide, by rw [h20]; decide⟩
  obtain ⟨y1, e1, p1⟩ := s_X8_never (S 0) (S 3) (S 4) (S 5) (S 6) (S 7) pl  (rfl : IvX8 (gR (S 0) 7) (S 0)) h3 h4 h5 h6 h7 hpl
  exact ⟨y2, e2, y1, e1, ⟨⟨p2.1, ((p2.2.1 20 (by decide)).trans h20), ht.rd (fr_f_X9_never e2) rfl⟩, hpl, h1, h2, p1.1, h4, h5, h6, p1.2.2.1, h8, h9, h10, h11, h12, h13, hik, hi0, hi1⟩⟩
theorem okp_31 : ok_31 JI := by
  intro S pl im0 im1 a1 a2 hJ
  obtain ⟨⟨h14, h20, ht⟩, hpl, h1, h2, h3, h4, h5, h6, h7, h8, h9, h10, h11, h12, h13, hik, hi0, hi1⟩ := hJ
  obtain ⟨y2, e2, p2⟩ := s_X9_few (S 14) a1 a2 h14 
  obtain ⟨y1, e1, p1⟩ := s_X8_few (S 0) (S 4) (S 7) a1 a2 (rfl : IvX8 (gR (S 0) 7) (S 0)) h4 h7
  exact ⟨y2, e2, y1, e1, ⟨⟨p2.1, ((p2.2.1 20 (by decide)).trans h20), ht.rd (fr_f_X9_few e2) rfl⟩, hpl, h1, h2, h3, h4, h5, h6, p1.1, h8, h9, h10, h11, h12, h13, hik, hi0, hi1⟩⟩
theorem okp_32 : ok_32 JI := by
  intro S pl im0 im1 a1 a2 hJ
  obtain ⟨⟨h14, h20, ht⟩, hpl, h1, h2, h3, h4, h5, h6, h7, h8, h9, h10, h11, h12, h13, hik, hi0, hi1⟩ := hJ
  obtain ⟨y2, e2, p2⟩ := s_X9_compare (S 14) a1 a2 h14 ⟨by rw [h20]; decide, by rw [h20]; decide⟩
  obtain ⟨y1, e1, p1⟩ := s_X8_compare (S 0) (S 3) (S 4) (S 5) (S 6) pl a1 a2 (rfl : IvX8 (gR (S 0) 7) (S 0)) h3 h4 h5 h6 hpl
  have tt := tf_compare ht h20 e1 e2
  exact ⟨y2, e2, y1, e1, ⟨⟨p2.2.1, ((p2.2.2.1 20 (by decide)).trans h20), tt.2⟩, hpl, h1, h2, p1.2.1, h4, h5, p1.2.2.2.1, h7, h8, h9, h10, h11, h12, h13, hik, hi0, hi1⟩⟩
theorem okp_33 : ok_33 JI := by
  intro S pl im0 im1 a1 a2 hJ
  obtain ⟨⟨h14, h20, ht⟩, hpl, h1, h2, h3, h4, h5, h6, h7, h8, h9, h10, h11, h12, h13, hik, hi0, hi1⟩ := hJ
  obtain ⟨y2, e2, p2⟩ := s_X9_centuries (S 14) a1 a2 h14 ⟨by rw [h20]; decide, by rw [h20]; decide⟩
  obtain ⟨y1, e1, p1⟩ := s_X8_centuries (S 0) (S 3) (S 4) (S 5) (S 8) (S 9) (S 10) pl a1 a2 (rfl : IvX8 (gR (S 0) 7) (S 0)) h3 h4 h5 h8 h9 h10 hpl
  have tt := tf_cent ht h20 e1 e2 (p1.2.1.1 13 (by decide)) (p1.2.1.1 14 (by decide)) p1.1
  exact ⟨y2, e2, y1, e1, ⟨⟨p2.2.1, ((p2.2.2.1 20 (by decide)).trans h20), tt.2⟩, hpl, h1, h2, p1.2.2.1, h4, h5, h6, h7, p1.2.2.2.2.1, p1.2.2.2.2.2.2.1, p1.2.2.2.2.2.2.2.2.1, h11, h12, h13, (IK.eq p1.1 hik), hi0, hi1⟩⟩
theorem okp_34 : ok_34 JI := by
  intro S pl im0 im1 a1 a2 hJ
  obtain ⟨⟨h14, h20, ht⟩, hpl, h1, h2, h3, h4, h5, h6, h7, h8, h9, h10, h11, h12, h13, hik, hi0, hi1⟩ := hJ
  obtain ⟨y2, e2, p2⟩ := s_X9_drawn (S 14) a1 a2 h14 
  obtain ⟨y1, e1, p1⟩ := s_X8_drawn (S 0) (S 8) (S 9) a1 a2 (rfl : IvX8 (gR (S 0) 7) (S 0)) h8 h9
  exact ⟨y2, e2, y1, e1, ⟨⟨p2.1, ((p2.2.1 20 (by decide)).trans h20), ht.rd (fr_f_X9_drawn e2) rfl⟩, hpl, h1, h2, h3, h4, h5, h6, h7, h8, h9, h10, h11, h12, h13, hik, hi0, hi1⟩⟩
theorem okp_35 : ok_35 JI := by
  intro S pl im0 im1 a1 hJ
  obtain ⟨⟨h14, h20, ht⟩, hpl, h1, h2, h3, h4, h5, h6, h7, h8, h9, h10, h11, h12, h13, hik, hi0, hi1⟩ := hJ
  obtain ⟨y2, e2, p2⟩ := s_X9_image (S 14) a1 h14 
  refine ⟨y2, e2, ?_⟩
  obtain ⟨z1, ez1, g1, -⟩ := s_X8_refuse (S 0) (-1) (rfl : IvX8 (gR (S 0) 7) (S 0))
  have href : bk_X8_image_R_9 (S 0) = some (z1.1, z1.2) := by
    unfold bk_X8_image_R_9
    rw [ez1]; rfl
  by_cases c1 : a1 < (0 : Int32)
  · have tt := tf_img_no ht (by have c1 := cv_lt (a := a1.toInt) (b := 0) rfl (by decide) c1; omega) ez1 e2
    refine Or.inl ⟨(z1.1, z1.2), ?_, ⟨⟨p2.1, ((p2.2.1 20 (by decide)).trans h20), tt.2⟩, hpl, h1, h2, h3, h4, h5, h6, h7, h8, h9, h10, h11, h12, h13, IK.eq g1 hik, hi0, hi1⟩⟩
    unfold f_X8_image_R
    rw [if_pos c1]; exact href
  by_cases c2 : a1 < (2 : Int32)
  rotate_left
  · have tt := tf_img_no ht (by have c2 := cv_nlt (a := a1.toInt) (b := 2) rfl (by decide) c2; omega) ez1 e2
    refine Or.inl ⟨(z1.1, z1.2), ?_, ⟨⟨p2.1, ((p2.2.1 20 (by decide)).trans h20), tt.2⟩, hpl, h1, h2, h3, h4, h5, h6, h7, h8, h9, h10, h11, h12, h13, IK.eq g1 hik, hi0, hi1⟩⟩
    unfold f_X8_image_R
    rw [if_neg c1, if_neg c2]; exact href
  have d1 := cv_nlt (a := a1.toInt) (b := 0) rfl (by decide) c1
  have d2 := cv_lt (a := a1.toInt) (b := 2) rfl (by decide) c2
  have hz : zin a1 2 = true := zin_of (m := 2) rfl (by omega) (by omega)
  obtain ⟨k, ek⟩ : ∃ k : Nat, a1.toInt = (k : Int) := ⟨a1.toInt.toNat, by omega⟩
  have hk : k < 2 := by omega
  have ik : a1.toNatClampNeg = k := tnc_eq ek
  obtain ⟨q4, q4', q3, q5⟩ := image9 e2 ek hk
  have hset : ∀ {oi on : Ob} {z : Ob × Ob}, f_X2_set_O oi on pl (S 4) (S 5) = some z → Tia pl z.1 z.2 (fun j => gA y2.2 4 (5484 * k + j)) := fun h => Tia.cp h ht.2.2.2.2.2.2.1 (fun j hj => q4 j hj)
  have himO : ∀ oi on : Ob, IvX2 pl oi → IvX4 on → ∃ (z4 : Ob × Ob) (z5 : Int32 × Ob), f_X2_set_O oi on pl (S 4) (S 5) = some z4 ∧ f_X8_grant (S 0) 0 = some z5 ∧ f_X8_image_O (S 0) (S 4) (S 5) pl oi on a1 = some (z5.1, z5.2, z4.1, z4.2) ∧ IvX8 (gR (S 0) 7) z5.2 ∧ IvX2 pl z4.1 ∧ IvX4 z4.2 := by
    intro oi on hoi hon
    obtain ⟨z4, e4, q1, -, q2, -⟩ := s_X2_set_O oi on pl (S 4) (S 5) hoi hon hpl h4 h5
    obtain ⟨z5, e5, q3, -⟩ := s_X8_grant (S 0) 0 (rfl : IvX8 (gR (S 0) 7) (S 0))
    refine ⟨z4, z5, e4, e5, ?_, q3, q1, q2⟩
    unfold f_X8_image_O
    rw [if_neg c1, if_pos c2, hz, e4]
    show ((f_X8_grant (S 0) 0).bind fun z5 => some (z5.1, z5.2, z4.1, z4.2)) = _
    rw [e5]; rfl
  have hima : f_X8_image_a (S 0) a1 = some () := by
    unfold f_X8_image_a
    rw [if_neg c1, if_pos c2, hz]; rfl
  have himb : ∀ a : Nat, ∃ y, f_X8_image_b (S 4) (S 5) pl (tR (S 0) 7 a1.toNatClampNeg (some a)) ob2 ob0 = some y ∧ IvX8 (gR (tR (S 0) 7 a1.toNatClampNeg (some a)) 7) y.2.1 ∧ IvX2 pl y.2.2.1 ∧ IvX4 y.2.2.2 := fun a => h_imgb pl hpl (S 4) (S 5) _ ob2 ob0 h4 h5 (iv2_0 pl) iv4_0
  have hnew : ∀ {o0' : Ob} {a : Nat}, IvX8 (gR (tR (S 0) 7 a1.toNatClampNeg (some a)) 7) o0' → ∀ j, gR o0' 7 j = if j = k then some a else gR (S 0) 7 j := fun w j => by
    have w := congrFun w j
    rw [ik] at w
    exact w
  have hold : ∀ {o0' : Ob} {a : Nat}, IvX8 (gR (S 0) 7) o0' → gR (S 0) 7 k = some a → ∀ j, gR o0' 7 j = if j = k then some a else gR (S 0) 7 j := fun w q j => by
    have w := congrFun w j
    by_cases c : j = k
    · rw [if_pos c, w, c, q]
    · rw [if_neg c]; exact w
  have h2n : ∀ {o0' : Ob} {a : Nat}, (∀ j, gR o0' 7 j = if j = k then some a else gR (S 0) 7 j) → ∀ j, 2 ≤ j → gR o0' 7 j = none := fun w j hj => by
    rw [w j, if_neg (by omega)]; exact hik.1 j hj
  obtain ⟨s, hs, ta, tb⟩ := ht.2.2.2.2.2.2.2.2
  rcases (show k = s ∨ s = 1 - k by omega) with es | es
  · rw [← es] at ta tb
    rcases opt_c im0 with e0 | ⟨r, e0⟩
    · subst e0
      have q : gR (S 0) 7 a1.toNatClampNeg = none := by rw [ik]; exact (ta.1 rfl).1
      refine Or.inr (Or.inr (Or.inr (Or.inl ⟨rfl, q, hz, hima, fun a => ?_, fun x hx => ?_⟩)))
      · obtain ⟨y, ey, -⟩ := himb a; exact ⟨y, ey⟩
      · obtain ⟨y, ey, w1, w2, w3⟩ := himb x.1
        obtain ⟨kg, ks⟩ := image_b2 ey
        have exy : y = x.2.2.2.2.2.2 := Option.some.inj (ey.symm.trans hx)
        have w4 := hset ks
        rw [exy] at w1 w2 w3 w4 kg
        have tm : TimF pl x.2.2.2.2.2.2.2.1 y2.2 (some (x.1, x.2.1, x.2.2.1, x.2.2.2.1, x.2.2.2.2.1, x.2.2.2.2.2.1, x.2.2.2.2.2.2.2.2.1, x.2.2.2.2.2.2.2.2.2)) im1 := TimF.put0 hk ta tb (hnew w1) q5 q4' w4
        have tt := tf_img_ok (oz := tR (S 0) 7 a1.toNatClampNeg (some x.1)) ht ⟨d1, by omega⟩ ⟨fun _ => rfl, fun _ => rfl⟩ kg e2 tm
        refine ⟨⟨p2.1, ((p2.2.1 20 (by decide)).trans h20), tt.2⟩, hpl, h1, h2, h3, h4, h5, h6, h7, h8, h9, h10, h11, h12, h13, tm.ik (h2n (hnew w1)), fun r hr => ?_, hi1⟩
        rw [← Option.some.inj hr]; exact ⟨w2, w3⟩
    · have q : gR (S 0) 7 a1.toNatClampNeg = some r.1 := by rw [ik]; exact (ta.2 r e0).1
      obtain ⟨z4, z5, e4, e5, ey1, w1, w2, w3⟩ := himO _ _ (hi0 r e0).1 (hi0 r e0).2
      subst e0
      have tm : TimF pl z5.2 y2.2 (some (r.1, r.2.1, r.2.2.1, r.2.2.2.1, r.2.2.2.2.1, r.2.2.2.2.2.1, z4.1, z4.2)) im1 := TimF.put0 hk ta tb (hold w1 (by rw [← ik]; exact q)) q5 q4' (hset e4)
      have tt := tf_img_ok ht ⟨d1, by omega⟩ ⟨fun _ => rfl, fun _ => rfl⟩ e5 e2 tm
      refine Or.inr (Or.inl ⟨r, rfl, q, _, ey1, ⟨⟨p2.1, ((p2.2.1 20 (by decide)).trans h20), tt.2⟩, hpl, h1, h2, h3, h4, h5, h6, h7, h8, h9, h10, h11, h12, h13, IK.eq w1 (hik.rep0 rfl), fun r' hr => ?_, hi1⟩⟩)
      rw [← Option.some.inj hr]; exact ⟨w2, w3⟩
  · have es' : 1 - s = k := by omega
    rw [es'] at tb
    rw [es] at ta
    rcases opt_c im1 with e0 | ⟨r, e0⟩
    · subst e0
      have q : gR (S 0) 7 a1.toNatClampNeg = none := by rw [ik]; exact (tb.1 rfl).1
      refine Or.inr (Or.inr (Or.inr (Or.inr ⟨rfl, q, hz, hima, fun a => ?_, fun x hx => ?_⟩)))
      · obtain ⟨y, ey, -⟩ := himb a; exact ⟨y, ey⟩
      · obtain ⟨y, ey, w1, w2, w3⟩ := himb x.1
        obtain ⟨kg, ks⟩ := image_b2 ey
        have exy : y = x.2.2.2.2.2.2 := Option.some.inj (ey.symm.trans hx)
        have w4 := hset ks
        rw [exy] at w1 w2 w3 w4 kg
        have tm : TimF pl x.2.2.2.2.2.2.2.1 y2.2 im0 (some (x.1, x.2.1, x.2.2.1, x.2.2.2.1, x.2.2.2.2.1, x.2.2.2.2.2.1, x.2.2.2.2.2.2.2.2.1, x.2.2.2.2.2.2.2.2.2)) := TimF.put1 hk ta tb (hnew w1) q5 q4' w4
        have tt := tf_img_ok (oz := tR (S 0) 7 a1.toNatClampNeg (some x.1)) ht ⟨d1, by omega⟩ ⟨fun _ => rfl, fun _ => rfl⟩ kg e2 tm
        refine ⟨⟨p2.1, ((p2.2.1 20 (by decide)).trans h20), tt.2⟩, hpl, h1, h2, h3, h4, h5, h6, h7, h8, h9, h10, h11, h12, h13, tm.ik (h2n (hnew w1)), hi0, fun r hr => ?_⟩
        rw [← Option.some.inj hr]; exact ⟨w2, w3⟩
    · have q : gR (S 0) 7 a1.toNatClampNeg = some r.1 := by rw [ik]; exact (tb.2 r e0).1
      obtain ⟨z4, z5, e4, e5, ey1, w1, w2, w3⟩ := himO _ _ (hi1 r e0).1 (hi1 r e0).2
      subst e0
      have tm : TimF pl z5.2 y2.2 im0 (some (r.1, r.2.1, r.2.2.1, r.2.2.2.1, r.2.2.2.2.1, r.2.2.2.2.2.1, z4.1, z4.2)) := TimF.put1 hk ta tb (hold w1 (by rw [← ik]; exact q)) q5 q4' (hset e4)
      have tt := tf_img_ok ht ⟨d1, by omega⟩ ⟨fun _ => rfl, fun _ => rfl⟩ e5 e2 tm
      refine Or.inr (Or.inr (Or.inl ⟨r, rfl, q, _, ey1, ⟨⟨p2.1, ((p2.2.1 20 (by decide)).trans h20), tt.2⟩, hpl, h1, h2, h3, h4, h5, h6, h7, h8, h9, h10, h11, h12, h13, IK.eq w1 (hik.rep1 rfl), hi0, fun r' hr => ?_⟩⟩))
      rw [← Option.some.inj hr]; exact ⟨w2, w3⟩
theorem okp_36 : ok_36 JI := by
  intro S pl im0 im1 a1 hJ
  obtain ⟨⟨h14, h20, ht⟩, hpl, h1, h2, h3, h4, h5, h6, h7, h8, h9, h10, h11, h12, h13, hik, hi0, hi1⟩ := hJ
  obtain ⟨y2, e2, p2⟩ := s_X9_back (S 14) a1 h14 
  refine ⟨y2, e2, ?_⟩
  obtain ⟨z1, ez1, g1, -⟩ := s_X8_refuse (S 0) (-1) (rfl : IvX8 (gR (S 0) 7) (S 0))
  have hn9 : bk_X8_back_N_9 (S 0) = some (z1.1, z1.2) := by
    unfold bk_X8_back_N_9
    rw [ez1]; rfl
  have hN : ∃ y1 : Int32 × Ob, f_X8_back_N (S 0) a1 = some y1 ∧ IvX8 (gR (S 0) 7) y1.2 := by
    unfold f_X8_back_N
    by_cases c1 : a1 < (0 : Int32)
    · rw [if_pos c1]; exact ⟨_, hn9, g1⟩
    · rw [if_neg c1]
      by_cases c2 : a1 < (2 : Int32)
      · have d1 := cv_nlt (a := a1.toInt) (b := 0) rfl (by decide) c1
        have d2 := cv_lt (a := a1.toInt) (b := 2) rfl (by decide) c2
        have hz : zin a1 2 = true := zin_of (m := 2) rfl (by omega) (by omega)
        obtain ⟨z3, ez3, g3, -⟩ := s_X8_refuse (S 0) (-2) (rfl : IvX8 (gR (S 0) 7) (S 0))
        rw [if_pos c2, hz, ez3]
        exact ⟨(z3.1, z3.2), rfl, g3⟩
      · rw [if_neg c2]; exact ⟨_, hn9, g1⟩
  have hO : ∀ oi on : Ob, IvX2 pl oi → IvX4 on → ∃ y1 : Int32 × Ob × Ob × Ob × Ob, f_X8_back_O (S 0) (S 4) (S 5) (S 11) pl oi on a1 = some y1 ∧ IvX8 (gR (S 0) 7) y1.2.1 ∧ IvX2 pl y1.2.2.1 ∧ IvX4 y1.2.2.2.1 ∧ IvX5 y1.2.2.2.2 := by
    intro oi on hoi hon
    have h9' : bk_X8_back_O_9 pl oi on (S 0) (S 4) (S 5) (S 11) = some (z1.1, z1.2, S 4, S 5, S 11) := by
      unfold bk_X8_back_O_9
      rw [ez1]; rfl
    unfold f_X8_back_O
    by_cases c1 : a1 < (0 : Int32)
    · rw [if_pos c1]; exact ⟨_, h9', g1, h4, h5, h11⟩
    · rw [if_neg c1]
      by_cases c2 : a1 < (2 : Int32)
      · have d1 := cv_nlt (a := a1.toInt) (b := 0) rfl (by decide) c1
        have d2 := cv_lt (a := a1.toInt) (b := 2) rfl (by decide) c2
        have hz : zin a1 2 = true := zin_of (m := 2) rfl (by omega) (by omega)
        obtain ⟨z4, e4, q1, -, q2, -⟩ := s_X2_set_O (S 4) (S 5) pl oi on h4 h5 hpl hoi hon
        obtain ⟨z5, e5, q3, -⟩ := s_X5_clear (S 11) h11
        obtain ⟨z6, e6, q4, -⟩ := s_X8_grant (S 0) 0 (rfl : IvX8 (gR (S 0) 7) (S 0))
        refine ⟨(z6.1, z6.2, z4.1, z4.2, z5), ?_, q4, q1, q2, q3⟩
        rw [if_pos c2, hz, e4]
        show ((f_X5_clear (S 11)).bind fun z5 => (f_X8_grant (S 0) 0).bind fun z6 => some (z6.1, z6.2, z4.1, z4.2, z5)) = _
        rw [e5]
        show ((f_X8_grant (S 0) 0).bind fun z6 => some (z6.1, z6.2, z4.1, z4.2, z5)) = _
        rw [e6]; rfl
      · rw [if_neg c2]; exact ⟨_, h9', g1, h4, h5, h11⟩
  have hcase : gR (S 0) 7 a1.toNatClampNeg = none ∨ (∃ r : IR, im0 = some r ∧ gR (S 0) 7 a1.toNatClampNeg = some r.1 ∧ ¬ gA (S 14) 5 a1.toNatClampNeg = 0 ∧ Tia pl r.2.2.2.2.2.2.1 r.2.2.2.2.2.2.2 (fun j => gA (S 14) 4 (5484 * a1.toNatClampNeg + j))) ∨ (∃ r : IR, im1 = some r ∧ gR (S 0) 7 a1.toNatClampNeg = some r.1 ∧ ¬ gA (S 14) 5 a1.toNatClampNeg = 0 ∧ Tia pl r.2.2.2.2.2.2.1 r.2.2.2.2.2.2.2 (fun j => gA (S 14) 4 (5484 * a1.toNatClampNeg + j))) := by
    rcases (show a1.toNatClampNeg < 2 ∨ 2 ≤ a1.toNatClampNeg by omega) with h | h
    · obtain ⟨s, hs, ta, tb⟩ := ht.2.2.2.2.2.2.2.2
      rcases (show a1.toNatClampNeg = s ∨ a1.toNatClampNeg = 1 - s by omega) with e | e
      · rw [e]
        rcases opt_c im0 with e0 | ⟨r, e0⟩
        · exact Or.inl (ta.1 e0).1
        · exact Or.inr (Or.inl ⟨r, e0, ta.2 r e0⟩)
      · rw [e]
        rcases opt_c im1 with e0 | ⟨r, e0⟩
        · exact Or.inl (tb.1 e0).1
        · exact Or.inr (Or.inr ⟨r, e0, tb.2 r e0⟩)
    · exact Or.inl (hik.1 _ h)
  rcases hcase with q | ⟨r, er, q, r5, rt⟩ | ⟨r, er, q, r5, rt⟩
  · obtain ⟨y1, ey1, w1⟩ := hN
    have tt := tf_backN ht ey1 e2 q
    exact Or.inl ⟨q, y1, ey1, ⟨⟨p2.1, ((p2.2.1 20 (by decide)).trans h20), tt.2⟩, hpl, h1, h2, h3, h4, h5, h6, h7, h8, h9, h10, h11, h12, h13, IK.eq w1 hik, hi0, hi1⟩⟩
  · obtain ⟨y1, ey1, w1, w2, w3, w4⟩ := hO _ _ (hi0 r er).1 (hi0 r er).2
    have tt := tf_backO ht ey1 e2 r5 rt
    subst er
    exact Or.inr (Or.inl ⟨r, rfl, q, y1, ey1, ⟨⟨p2.1, ((p2.2.1 20 (by decide)).trans h20), tt.2⟩, hpl, h1, h2, h3, w2, w3, h6, h7, h8, h9, h10, w4, h12, h13, IK.eq w1 hik, hi0, hi1⟩⟩)
  · obtain ⟨y1, ey1, w1, w2, w3, w4⟩ := hO _ _ (hi1 r er).1 (hi1 r er).2
    have tt := tf_backO ht ey1 e2 r5 rt
    subst er
    exact Or.inr (Or.inr ⟨r, rfl, q, y1, ey1, ⟨⟨p2.1, ((p2.2.1 20 (by decide)).trans h20), tt.2⟩, hpl, h1, h2, h3, w2, w3, h6, h7, h8, h9, h10, w4, h12, h13, IK.eq w1 hik, hi0, hi1⟩⟩)
theorem okp_37 : ok_37 JI := by
  intro S pl im0 im1 a1 hJ
  obtain ⟨⟨h14, h20, ht⟩, hpl, h1, h2, h3, h4, h5, h6, h7, h8, h9, h10, h11, h12, h13, hik, hi0, hi1⟩ := hJ
  obtain ⟨y2, e2, p2⟩ := s_X9_count (S 14) a1 h14 
  obtain ⟨y1, e1, p1⟩ := s_X8_count (S 0) (S 1) (S 4) (S 5) (S 11) a1 (rfl : IvX8 (gR (S 0) 7) (S 0)) h1 h4 h5 h11
  exact ⟨y2, e2, y1, e1, ⟨⟨p2.1, ((p2.2.1 20 (by decide)).trans h20), ht.rd (fr_f_X9_count e2) rfl⟩, hpl, h1, h2, h3, h4, h5, h6, h7, h8, h9, h10, h11, h12, h13, hik, hi0, hi1⟩⟩
theorem okp_38 : ok_38 JI := by
  intro S pl im0 im1  hJ
  obtain ⟨⟨h14, h20, ht⟩, hpl, h1, h2, h3, h4, h5, h6, h7, h8, h9, h10, h11, h12, h13, hik, hi0, hi1⟩ := hJ
  obtain ⟨y2, e2, p2⟩ := s_X9_status (S 14)  h14 
  obtain ⟨y1, e1, p1⟩ := s_X8_status (S 0)  (rfl : IvX8 (gR (S 0) 7) (S 0))
  exact ⟨y2, e2, y1, e1, tf_status ht e1 e2, ⟨⟨p2.1, ((p2.2.1 20 (by decide)).trans h20), ht.rd (fr_f_X9_status e2) rfl⟩, hpl, h1, h2, h3, h4, h5, h6, h7, h8, h9, h10, h11, h12, h13, hik, hi0, hi1⟩⟩
theorem okp_all : okS JI := ⟨okp_0, okp_1, okp_2, okp_3, okp_4, okp_5, okp_6, okp_7, okp_8, okp_9, okp_10, okp_11, okp_12, okp_13, okp_14, okp_15, okp_16, okp_17, okp_18, okp_19, okp_20, okp_21, okp_22, okp_23, okp_24, okp_25, okp_26, okp_27, okp_28, okp_29, okp_30, okp_31, okp_32, okp_33, okp_34, okp_35, okp_36, okp_37, okp_38⟩
def row0 : Nat → Int32 := upd (upd (fun _ => 0) (3 : Int32).toNatClampNeg (-1)) (5 : Int32).toNatClampNeg 1
theorem row0_z {j : Nat} (h3 : j ≠ 3) (h5 : j ≠ 5) : row0 j = 0 := by
  have n3 : (3 : Int32).toNatClampNeg = 3 := by decide
  have n5 : (5 : Int32).toNatClampNeg = 5 := by decide
  unfold row0
  rw [n3, n5, upd_n h5, upd_n h3]
theorem sg_row0 : sgd rowS row0 := by
  refine ⟨fun j h1 h2 => ?_, fun j h1 h2 => ?_, fun j h1 h2 => ?_, fun j h1 h2 => ?_, fun j h1 h2 => ?_, fun j h1 h2 => ?_, fun j h1 h2 => ?_, fun j h1 h2 => ?_, fun j h1 h2 => ?_, trivial⟩
  · rw [row0_z (by omega) (by omega)]; decide
  · rw [row0_z (by omega) (by omega)]; decide
  · rw [row0_z (by omega) (by omega)]; decide
  · have e : j = 3 := by omega
    subst e; exact (by decide : -1 ≤ (row0 3).toInt ∧ (row0 3).toInt ≤ 5)
  · rw [row0_z (by omega) (by omega)]; decide
  · rw [row0_z (by omega) (by omega)]; decide
  · rw [row0_z (by omega) (by omega)]; decide
  · rw [row0_z (by omega) (by omega)]; decide
  · rw [row0_z (by omega) (by omega)]; decide
theorem pw_0 (j : Nat) : PW rowS j 0 := by
  have h : ∀ s ∈ rowS, s.2.2.1 ≤ (0 : Int32).toInt ∧ (0 : Int32).toInt ≤ s.2.2.2 := by decide
  exact fun s hs _ _ => h s hs
theorem wl_0 {g : Nat → Int32} {s : Nat} (h : g (s + 1) = 0) : WL g s := by
  refine ⟨by rw [h]; decide, fun c hc => ?_⟩
  rw [h] at hc
  have z : (0 : Int32).toInt = 0 := by decide
  omega
theorem ex_0 : EX9 row0 (fun _ => 0) (fun _ => 0) (fun _ => 0) := ⟨fun l hl => wl_0 (row0_z (by omega) (by omega)), fun k hk => ⟨fun l hl => wl_0 rfl, fun j hj => pw_0 j⟩, fun k i hk hi => pw_0 _, fun k i hk hi => pw_0 _⟩
theorem iv9_0 : IvX9 (S0 14) := ⟨⟨by decide, by decide⟩, ⟨by decide, by decide⟩, ⟨by decide, by decide⟩, ⟨by decide, by decide⟩, ⟨by decide, by decide⟩, ⟨by decide, by decide⟩, ⟨by decide, by decide⟩, ⟨by decide, by decide⟩, ⟨by decide, by decide⟩, ⟨by decide, by decide⟩, ⟨by decide, by decide⟩, ⟨by decide, by decide⟩, ⟨by decide, by decide⟩, ⟨by decide, by decide⟩, ⟨by decide, by decide⟩, sg_row0, ⟨fun _ _ _ => (show 0 ≤ (0 : Int32).toInt ∧ (0 : Int32).toInt ≤ 3 by decide), trivial⟩, ⟨fun _ _ _ => (show 0 ≤ (0 : Int32).toInt ∧ (0 : Int32).toInt ≤ 3 by decide), trivial⟩, ⟨fun _ _ _ => (show 0 ≤ (0 : Int32).toInt ∧ (0 : Int32).toInt ≤ 6 by decide), trivial⟩, ⟨fun _ _ _ => (show (-1) ≤ (0 : Int32).toInt ∧ (0 : Int32).toInt ≤ 8 by decide), trivial⟩, ⟨fun _ _ _ => (show 0 ≤ (0 : Int32).toInt ∧ (0 : Int32).toInt ≤ 6 by decide), trivial⟩, ⟨fun _ _ _ => (show 0 ≤ (0 : Int32).toInt ∧ (0 : Int32).toInt ≤ 6 by decide), trivial⟩, ⟨ex_0, by decide, by decide⟩⟩
theorem ivX6_0 : IvX6 (S0 1) := ⟨⟨by decide, by decide⟩, ⟨by decide, by decide⟩, ⟨by decide, by decide⟩, ⟨by decide, by decide⟩, ⟨by decide, by decide⟩, ⟨by decide, by decide⟩, trivial⟩
theorem ivX1_0 : IvX1 (S0 6) := ⟨⟨by decide, by decide⟩, ⟨fun _ _ _ => (show 0 ≤ (0 : Int32).toInt ∧ (0 : Int32).toInt ≤ 6 by decide), trivial⟩, trivial⟩
theorem ivX7_0 : IvX7 (S0 7) := ⟨⟨fun _ _ _ => (show 0 ≤ (0 : Int32).toInt ∧ (0 : Int32).toInt ≤ 7 by decide), trivial⟩, ⟨fun _ _ _ => (show 0 ≤ (0 : Int32).toInt ∧ (0 : Int32).toInt ≤ 6 by decide), trivial⟩, trivial⟩
theorem ivX0_0 : IvX0 12 400 (S0 2) := ⟨⟨by decide, by decide, by decide⟩, ⟨by decide, by decide, by decide⟩, fun _ _ _ => (show 0 ≤ (0 : Int32).toInt ∧ (0 : Int32).toInt ≤ 20 by decide), trivial⟩
theorem ivX5_0 : IvX5 (S0 11) := ⟨⟨by decide, by decide⟩, ⟨by decide, by decide⟩, fun _ _ _ _ => (show 0 ≤ (0 : Int32).toInt ∧ (0 : Int32).toInt ≤ 9 by decide)⟩
theorem bit_0 : ∀ q, q < 7 → ((0 : Int32) >>> ((Int32.ofNat q) &&& 31)) &&& (1 : Int32) = 0 := by decide +kernel
theorem tzm_0 {mv : Ob} {G : Nat → Int32} (a0 : ∀ j, j < 7 → gA mv 0 j = 0) (a1 : ∀ j, j < 7 → gA mv 1 j = 0) (i2 : gI mv 2 = 0) (i3 : gI mv 3 = 0) (i4 : gI mv 4 = 0) (hG : ∀ j, 4 ≤ j → j < 29 → j ≠ 5 → G j = 0) : TzM mv G := by
  refine ⟨fun j hj => ?_, fun j hj => ?_, ?_, ?_, fun p h1 h2 => ?_, by rw [i2]; decide, by rw [i2]; decide⟩
  · rw [a0 j hj, hG _ (by omega) (by omega) (by omega)]; decide
  · rw [a1 j hj, hG _ (by omega) (by omega) (by omega)]; decide
  · rw [i3, hG _ (by omega) (by omega) (by omega)]; decide
  · rw [i4, hG _ (by omega) (by omega) (by omega)]; decide
  · obtain ⟨q, eq⟩ : ∃ q : Nat, p.toInt = (q : Int) := ⟨p.toInt.toNat, by omega⟩
    have iq : p.toNatClampNeg = q := tnc_eq eq
    rw [iq, i2, hG (22 + q) (by omega) (by omega) (by omega), i32_of eq (by omega), bit_0 q (by omega)]
theorem tf_0 : TF [] (S0 0) (S0 1) (S0 4) (S0 5) (S0 8) (S0 9) (S0 11) (S0 14) none none := by
  have r0 : ∀ j, j ≠ 3 → j ≠ 5 → gA (S0 14) 3 j = 0 := fun j a b => row0_z a b
  have g0 : (gA (S0 14) 3 0).toInt = 0 := by decide
  have g2 : (gA (S0 14) 3 2).toInt = 0 := by decide
  have e9 : (gI (S0 4) 7).toInt = 0 := by decide
  refine ⟨⟨rfl, rfl⟩, rfl, ⟨⟨by decide +kernel, by decide +kernel⟩, by decide +kernel, by decide +kernel⟩, ⟨rfl, fun _ _ => rfl⟩, rfl, ⟨Or.inr ⟨by decide, by decide⟩, ?_⟩, ⟨?_, ?_, ?_, ?_⟩, PaT.emp rfl rfl rfl, 0, by decide, ⟨fun _ => ⟨rfl, rfl⟩, fun r q => by cases q⟩, ⟨fun _ => ⟨rfl, rfl⟩, fun r q => by cases q⟩⟩
  · exact tzm_0 (fun _ _ => rfl) (fun _ _ => rfl) rfl rfl rfl (fun _ _ _ _ => rfl)
  · exact ⟨(r0 0 (by decide) (by decide)).symm, (r0 1 (by decide) (by decide)).symm, fun j _ => (r0 (29 + j) (by omega) (by omega)).symm, fun j _ => (r0 (64 + j) (by omega) (by omega)).symm, fun _ _ _ => rfl, fun j _ => (r0 (36 + j) (by omega) (by omega)).symm, fun _ _ _ => rfl, fun j hj _ => by omega⟩
  · refine ⟨⟨⟨(r0 0 (by decide) (by decide)).symm, by omega, by omega⟩, fun j hj => ?_, (r0 6 (by decide) (by decide)).symm⟩, ⟨(r0 2 (by decide) (by decide)).symm, by omega, by omega⟩, ⟨by decide, by decide, by decide⟩, ⟨by decide, by decide, by decide⟩, fun j hj => ⟨(r0 (71 + 2 * j) (by omega) (by omega)).symm, (r0 (72 + 2 * j) (by omega) (by omega)).symm⟩, fun l hl => by omega⟩
    rw [r0 (36 + j) (by omega) (by omega)]
    exact ⟨rfl, by decide, by decide⟩
  · exact tzm_0 (fun _ _ => rfl) (fun _ _ => rfl) rfl rfl rfl (fun j h1 h2 h3 => r0 j (by omega) h3)
  · intro j hj
    exact r0 j (by omega) (by omega)
theorem ji_0 : JI S0 [] none none := ⟨⟨iv9_0, by decide, tf_0⟩, fun c hc => absurd hc List.not_mem_nil, ivX6_0, ivX0_0, trivial, iv2_0 [], iv4_0, ivX1_0, ivX7_0, iv2_0 [], iv4_0, ivX1_0, ivX5_0, ivX5_0, iv4_0, ⟨fun _ _ => rfl, fun _ _ => Or.inl rfl, fun _ => ⟨rfl, rfl⟩, fun _ => Or.inl rfl⟩, (fun r hr => by cases hr), (fun r hr => by cases hr)⟩
