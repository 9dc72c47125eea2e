def JT (Szz : Nat → Ob) (pl : List CR) (im0 im1 : Option IR) : Prop :=
  (IvX9 (Szz 14) ∧ gI (Szz 14) 20 = 0 ∧ TF pl (Szz 0) (Szz 1) (Szz 4) (Szz 5) (Szz 8) (Szz 9) (Szz 11) (Szz 14) im0 im1) ∧ PLok pl ∧ IvX6 (Szz 1) ∧ IvX0 12 400 (Szz 2) ∧ IvX3 (Szz 3) ∧ IvX2 pl (Szz 4) ∧ IvX4 (Szz 5) ∧ IvX1 (Szz 6) ∧ IvX7 (Szz 7) ∧ IvX2 pl (Szz 8) ∧ IvX4 (Szz 9) ∧ IvX1 (Szz 10) ∧ IvX5 (Szz 11) ∧ IvX5 (Szz 12) ∧ IvX4 (Szz 13) ∧ IK (gR (Szz 0) 7) im0 im1 ∧
  (∀ rzz : IR, im0 = some rzz → IvX2 pl rzz.2.2.2.2.2.2.1 ∧ IvX4 rzz.2.2.2.2.2.2.2) ∧ (∀ rzz : IR, im1 = some rzz → IvX2 pl rzz.2.2.2.2.2.2.1 ∧ IvX4 rzz.2.2.2.2.2.2.2)
def ok_0t (I : (Nat → Ob) → List CR → Option IR → Option IR → Prop) : Prop := ∀ (Szz : Nat → Ob) (pl : List CR) (im0 im1 : Option IR) (a1zz : Int32) (a2 : Int32), I Szz pl im0 im1 → ∃ y2 : Int32 × Ob, f_X9_person (Szz 14) a1zz a2 = some y2 ∧ ((∃ y1 : Int32 × Ob × Ob × Ob × Ob, f_X8_person (Szz 0) (Szz 4) (Szz 5) (Szz 11) a1zz a2 = some y1 ∧ y1.1 = y2.1 ∧ I (fset (fset (fset (fset (fset Szz 0 y1.2.1) 4 y1.2.2.1) 5 y1.2.2.2.1) 11 y1.2.2.2.2) 14 y2.2) pl im0 im1))
set_option maxHeartbeats 200000 in
theorem okp_0t : ok_0t JT := by
  intro Szz pl im0 im1 a1zz a2 hJ
  obtain ⟨⟨h14, h20, ht⟩, hpl, h1, h2, h3, h4, h5, h6, h7, h8, h9, h10, h11, h12, h13, hik, hi0zz, hi1⟩ := hJ
  obtain ⟨y2, e2zz, p2zz⟩ := s_X9_person (Szz 14) a1zz a2 h14 
  obtain ⟨y1, e1zz, p1zz⟩ := s_X8_person (Szz 0) (Szz 4) (Szz 5) (Szz 11) a1zz a2 (rfl : IvX8 (gR (Szz 0) 7) (Szz 0)) h4 h5 h11
  have tt := tf_person ht h4 e1zz e2zz
  exact ⟨y2, e2zz, y1, e1zz, tt.1, ⟨⟨p2zz.2.1, ((p2zz.2.2.1 20 (by decide)).trans h20), tt.2⟩, hpl, h1, h2, h3, p1zz.2.2.1, p1zz.2.2.2.2.1, h6, h7, h8, h9, h10, p1zz.2.2.2.2.2.2.1, h12, h13, (IK.eq p1zz.1 hik), hi0zz, hi1⟩⟩
def ok_1t (I : (Nat → Ob) → List CR → Option IR → Option IR → Prop) : Prop := ∀ (Szz : Nat → Ob) (pl : List CR) (im0 im1 : Option IR) (a1zz : Int32) (a2 : Int32), I Szz pl im0 im1 → ∃ y2 : Int32 × Ob, f_X9_of (Szz 14) a1zz a2 = some y2 ∧ ((∃ y1 : Int32 × Ob, f_X8_of (Szz 0) (Szz 3) (Szz 4) (Szz 5) (Szz 6) pl a1zz a2 = some y1 ∧ y1.1 = y2.1 ∧ I (fset (fset Szz 3 y1.2) 14 y2.2) pl im0 im1))
set_option maxHeartbeats 200000 in
theorem okp_1t : ok_1t JT := by
  intro Szz pl im0 im1 a1zz a2 hJ
  obtain ⟨⟨h14, h20, ht⟩, hpl, h1, h2, h3, h4, h5, h6, h7, h8, h9, h10, h11, h12, h13, hik, hi0zz, hi1⟩ := hJ
  obtain ⟨y2, e2zz, p2zz⟩ := s_X9_of (Szz 14) a1zz a2 h14 ⟨by rw [h20]; decide, by rw [h20]; decide⟩
  obtain ⟨y1, e1zz, p1zz⟩ := s_X8_of (Szz 0) (Szz 3) (Szz 4) (Szz 5) (Szz 6) pl a1zz a2 (rfl : IvX8 (gR (Szz 0) 7) (Szz 0)) h3 h4 h5 h6 hpl
  exact ⟨y2, e2zz, y1, e1zz, tf_of ht h20 e1zz e2zz, ⟨⟨p2zz.1, ((p2zz.2.1 20 (by decide)).trans h20), ht.rd (fr_f_X9_of e2zz) rfl⟩, hpl, h1, h2, p1zz.1, h4, h5, h6, h7, h8, h9, h10, h11, h12, h13, hik, hi0zz, hi1⟩⟩
def ok_2t (I : (Nat → Ob) → List CR → Option IR → Option IR → Prop) : Prop := ∀ (Szz : Nat → Ob) (pl : List CR) (im0 im1 : Option IR) (a1zz : Int32) (a2 : Int32) (a3 : Int32), I Szz pl im0 im1 → ∃ y2 : Int32 × Ob, f_X9_strength (Szz 14) a1zz a2 a3 = some y2 ∧ ((∃ y1 : Int32 × Ob × Ob, f_X8_strength (Szz 0) (Szz 4) a1zz a2 a3 = some y1 ∧ y1.1 = y2.1 ∧ I (fset (fset (fset Szz 0 y1.2.1) 4 y1.2.2) 14 y2.2) pl im0 im1))
set_option maxHeartbeats 200000 in
theorem okp_2t : ok_2t JT := by
  intro Szz pl im0 im1 a1zz a2 a3 hJ
  obtain ⟨⟨h14, h20, ht⟩, hpl, h1, h2, h3, h4, h5, h6, h7, h8, h9, h10, h11, h12, h13, hik, hi0zz, hi1⟩ := hJ
  obtain ⟨y2, e2zz, p2zz⟩ := s_X9_strength (Szz 14) a1zz a2 a3 h14 
  obtain ⟨y1, e1zz, p1zz⟩ := s_X8_strength (Szz 0) (Szz 4) a1zz a2 a3 (rfl : IvX8 (gR (Szz 0) 7) (Szz 0)) h4
  have tt := tf_strength ht h4 e1zz e2zz
  exact ⟨y2, e2zz, y1, e1zz, tt.1, ⟨⟨p2zz.1, ((p2zz.2.1 20 (by decide)).trans h20), tt.2⟩, hpl, h1, h2, h3, p1zz.2.2.1, h5, h6, h7, h8, h9, h10, h11, h12, h13, (IK.eq p1zz.1 hik), hi0zz, hi1⟩⟩
def ok_3t (I : (Nat → Ob) → List CR → Option IR → Option IR → Prop) : Prop := ∀ (Szz : Nat → Ob) (pl : List CR) (im0 im1 : Option IR) (a1zz : Int32) (a2 : Int32) (a3 : Int32), I Szz pl im0 im1 → ∃ y2 : Int32 × Ob, f_X9_beats (Szz 14) a1zz a2 a3 = some y2 ∧ ((∃ y1 : Int32 × Ob × Ob, f_X8_beats (Szz 0) (Szz 4) a1zz a2 a3 = some y1 ∧ y1.1 = y2.1 ∧ I (fset (fset (fset Szz 0 y1.2.1) 4 y1.2.2) 14 y2.2) pl im0 im1))
set_option maxHeartbeats 200000 in
theorem okp_3t : ok_3t JT := by
  intro Szz pl im0 im1 a1zz a2 a3 hJ
  obtain ⟨⟨h14, h20, ht⟩, hpl, h1, h2, h3, h4, h5, h6, h7, h8, h9, h10, h11, h12, h13, hik, hi0zz, hi1⟩ := hJ
  obtain ⟨y2, e2zz, p2zz⟩ := s_X9_beats (Szz 14) a1zz a2 a3 h14 
  obtain ⟨y1, e1zz, p1zz⟩ := s_X8_beats (Szz 0) (Szz 4) a1zz a2 a3 (rfl : IvX8 (gR (Szz 0) 7) (Szz 0)) h4
  have tt := tf_beats ht h4 e1zz e2zz
  exact ⟨y2, e2zz, y1, e1zz, tt.1, ⟨⟨p2zz.2.1, ((p2zz.2.2.1 20 (by decide)).trans h20), tt.2⟩, hpl, h1, h2, h3, p1zz.2.2.1, h5, h6, h7, h8, h9, h10, h11, h12, h13, (IK.eq p1zz.1 hik), hi0zz, hi1⟩⟩
def ok_4t (I : (Nat → Ob) → List CR → Option IR → Option IR → Prop) : Prop := ∀ (Szz : Nat → Ob) (pl : List CR) (im0 im1 : Option IR) (a1zz : Int32) (a2 : Int32), I Szz pl im0 im1 → ∃ y2 : Int32 × Ob, f_X9_placed (Szz 14) a1zz a2 = some y2 ∧ ((∃ y1 : Int32 × Ob × Ob, f_X8_placed (Szz 0) (Szz 3) (Szz 4) (Szz 5) (Szz 6) pl a1zz a2 = some y1 ∧ y1.1 = y2.1 ∧ I (fset (fset (fset Szz 3 y1.2.1) 6 y1.2.2) 14 y2.2) pl im0 im1))
set_option maxHeartbeats 200000 in
theorem okp_4t : ok_4t JT := by
  intro Szz pl im0 im1 a1zz a2 hJ
  obtain ⟨⟨h14, h20, ht⟩, hpl, h1, h2, h3, h4, h5, h6, h7, h8, h9, h10, h11, h12, h13, hik, hi0zz, hi1⟩ := hJ
  obtain ⟨y2, e2zz, p2zz⟩ := s_X9_placed (Szz 14) a1zz a2 h14 ⟨by rw [h20]; decide, by rw [h20]; decide⟩
  obtain ⟨y1, e1zz, p1zz⟩ := s_X8_placed (Szz 0) (Szz 3) (Szz 4) (Szz 5) (Szz 6) pl a1zz a2 (rfl : IvX8 (gR (Szz 0) 7) (Szz 0)) h3 h4 h5 h6 hpl
  exact ⟨y2, e2zz, y1, e1zz, tf_placed ht h20 e1zz e2zz, ⟨⟨p2zz.2.1, ((p2zz.2.2.1 20 (by decide)).trans h20), ht.rd (fr_f_X9_placed e2zz) rfl⟩, hpl, h1, h2, p1zz.2.1, h4, h5, p1zz.2.2.2.1, h7, h8, h9, h10, h11, h12, h13, hik, hi0zz, hi1⟩⟩
def ok_5t (I : (Nat → Ob) → List CR → Option IR → Option IR → Prop) : Prop := ∀ (Szz : Nat → Ob) (pl : List CR) (im0 im1 : Option IR) (a1zz : Int32) (a2 : Int32), I Szz pl im0 im1 → ∃ y2 : Int32 × Ob, f_X9_terms (Szz 14) a1zz a2 = some y2 ∧ ((∃ y1 : Int32 × Ob × Ob × Ob × Ob, f_X8_terms (Szz 0) (Szz 4) (Szz 5) (Szz 11) a1zz a2 = some y1 ∧ y1.1 = y2.1 ∧ I (fset (fset (fset (fset (fset Szz 0 y1.2.1) 4 y1.2.2.1) 5 y1.2.2.2.1) 11 y1.2.2.2.2) 14 y2.2) pl im0 im1))
set_option maxHeartbeats 200000 in
theorem okp_5t : ok_5t JT := by
  intro Szz pl im0 im1 a1zz a2 hJ
  obtain ⟨⟨h14, h20, ht⟩, hpl, h1, h2, h3, h4, h5, h6, h7, h8, h9, h10, h11, h12, h13, hik, hi0zz, hi1⟩ := hJ
  obtain ⟨y2, e2zz, p2zz⟩ := s_X9_terms (Szz 14) a1zz a2 h14 
  obtain ⟨y1, e1zz, p1zz⟩ := s_X8_terms (Szz 0) (Szz 4) (Szz 5) (Szz 11) a1zz a2 (rfl : IvX8 (gR (Szz 0) 7) (Szz 0)) h4 h5 h11
  have tt := tf_terms ht e1zz e2zz
  exact ⟨y2, e2zz, y1, e1zz, tt.1, ⟨⟨p2zz.1, ((p2zz.2.1 20 (by decide)).trans h20), tt.2⟩, hpl, h1, h2, h3, p1zz.2.2.1, p1zz.2.2.2.2.1, h6, h7, h8, h9, h10, p1zz.2.2.2.2.2.2.1, h12, h13, (IK.eq p1zz.1 hik), hi0zz, hi1⟩⟩
def ok_6t (I : (Nat → Ob) → List CR → Option IR → Option IR → Prop) : Prop := ∀ (Szz : Nat → Ob) (pl : List CR) (im0 im1 : Option IR) (a1zz : Int32) (a2 : Int32) (a3 : Int32) (a4 : Int32) (a5 : Int32), I Szz pl im0 im1 → ∃ y2 : Int32 × Ob, f_X9_feed (Szz 14) a1zz a2 a3 a4 a5 = some y2 ∧ ((∃ y1 : Int32 × Ob, f_X8_feed (Szz 0) (Szz 1) a1zz a2 a3 a4 a5 = some y1 ∧ y1.1 = y2.1 ∧ I (fset (fset Szz 1 y1.2) 14 y2.2) pl im0 im1))
set_option maxHeartbeats 200000 in
theorem okp_6t : ok_6t JT := by
  intro Szz pl im0 im1 a1zz a2 a3 a4 a5 hJ
  obtain ⟨⟨h14, h20, ht⟩, hpl, h1, h2, h3, h4, h5, h6, h7, h8, h9, h10, h11, h12, h13, hik, hi0zz, hi1⟩ := hJ
  obtain ⟨y2, e2zz, p2zz⟩ := s_X9_feed (Szz 14) a1zz a2 a3 a4 a5 h14 
  obtain ⟨y1, e1zz, p1zz⟩ := s_X8_feed (Szz 0) (Szz 1) a1zz a2 a3 a4 a5 (rfl : IvX8 (gR (Szz 0) 7) (Szz 0)) h1
  have tt := tf_feed ht h1.1 e1zz e2zz
  exact ⟨y2, e2zz, y1, e1zz, tt.1, ⟨⟨p2zz.2.1, ((p2zz.2.2.1 20 (by decide)).trans h20), tt.2⟩, hpl, p1zz.2.1, h2, h3, h4, h5, h6, h7, h8, h9, h10, h11, h12, h13, hik, hi0zz, hi1⟩⟩
def ok_7t (I : (Nat → Ob) → List CR → Option IR → Option IR → Prop) : Prop := ∀ (Szz : Nat → Ob) (pl : List CR) (im0 im1 : Option IR) (a1zz : Int32), I Szz pl im0 im1 → ∃ y2 : Int32 × Ob, f_X9_end (Szz 14) a1zz = some y2 ∧ ((∃ y1 : Int32 × Ob, f_X8_end (Szz 0) (Szz 1) a1zz = some y1 ∧ y1.1 = y2.1 ∧ I (fset (fset Szz 1 y1.2) 14 y2.2) pl im0 im1))
set_option maxHeartbeats 200000 in
theorem okp_7t : ok_7t JT := by
  intro Szz pl im0 im1 a1zz hJ
  obtain ⟨⟨h14, h20, ht⟩, hpl, h1, h2, h3, h4, h5, h6, h7, h8, h9, h10, h11, h12, h13, hik, hi0zz, hi1⟩ := hJ
  obtain ⟨y2, e2zz, p2zz⟩ := s_X9_end (Szz 14) a1zz h14 
  obtain ⟨y1, e1zz, p1zz⟩ := s_X8_end (Szz 0) (Szz 1) a1zz (rfl : IvX8 (gR (Szz 0) 7) (Szz 0)) h1
  have tt := tf_end ht e1zz e2zz
  exact ⟨y2, e2zz, y1, e1zz, tt.1, ⟨⟨p2zz.2.1, ((p2zz.2.2.1 20 (by decide)).trans h20), tt.2⟩, hpl, p1zz.2.1, h2, h3, h4, h5, h6, h7, h8, h9, h10, h11, h12, h13, hik, hi0zz, hi1⟩⟩
def ok_8t (I : (Nat → Ob) → List CR → Option IR → Option IR → Prop) : Prop := ∀ (Szz : Nat → Ob) (pl : List CR) (im0 im1 : Option IR), I Szz pl im0 im1 → ∃ y2 : Int32 × Ob, f_X9_row (Szz 14) = some y2 ∧ ((∃ y1 : Int32 × Ob × Ob × Ob, f_X8_row (Szz 0) (Szz 1) (Szz 4) = some y1 ∧ y1.1 = y2.1 ∧ I (fset (fset (fset (fset Szz 0 y1.2.1) 1 y1.2.2.1) 4 y1.2.2.2) 14 y2.2) pl im0 im1))
set_option maxHeartbeats 200000 in
theorem okp_8t : ok_8t JT := by
  intro Szz pl im0 im1  hJ
  obtain ⟨⟨h14, h20, ht⟩, hpl, h1, h2, h3, h4, h5, h6, h7, h8, h9, h10, h11, h12, h13, hik, hi0zz, hi1⟩ := hJ
  obtain ⟨y2, e2zz, p2zz⟩ := s_X9_row (Szz 14)  h14 
  obtain ⟨y1, e1zz, p1zz⟩ := s_X8_row (Szz 0) (Szz 1) (Szz 4)  (rfl : IvX8 (gR (Szz 0) 7) (Szz 0)) h1 h4
  have tt := tf_row ht h4 h1.1 e1zz e2zz
  exact ⟨y2, e2zz, y1, e1zz, tt.1, ⟨⟨p2zz.1, ((p2zz.2.1 20 (by decide)).trans h20), tt.2⟩, hpl, p1zz.2.2.1, h2, h3, p1zz.2.2.2.2.1, h5, h6, h7, h8, h9, h10, h11, h12, h13, (IK.eq p1zz.1 hik), hi0zz, hi1⟩⟩
def ok_9t (I : (Nat → Ob) → List CR → Option IR → Option IR → Prop) : Prop := ∀ (Szz : Nat → Ob) (pl : List CR) (im0 im1 : Option IR), I Szz pl im0 im1 → ∃ y2 : Int32 × Ob, f_X9_blots (Szz 14) = some y2 ∧ ((∃ y1 : Int32, f_X8_blots (Szz 0) = some y1 ∧ I (fset Szz 14 y2.2) pl im0 im1))
set_option maxHeartbeats 200000 in
theorem okp_9t : ok_9t JT := by
  intro Szz pl im0 im1  hJ
  obtain ⟨⟨h14, h20, ht⟩, hpl, h1, h2, h3, h4, h5, h6, h7, h8, h9, h10, h11, h12, h13, hik, hi0zz, hi1⟩ := hJ
  obtain ⟨y2, e2zz, p2zz⟩ := s_X9_blots (Szz 14)  h14 
  obtain ⟨y1, e1zz, p1zz⟩ := s_X8_blots (Szz 0)  (rfl : IvX8 (gR (Szz 0) 7) (Szz 0))
  exact ⟨y2, e2zz, y1, e1zz, ⟨⟨p2zz.1, ((p2zz.2.1 20 (by decide)).trans h20), ht.rd (fr_f_X9_blots e2zz) rfl⟩, hpl, h1, h2, h3, h4, h5, h6, h7, h8, h9, h10, h11, h12, h13, hik, hi0zz, hi1⟩⟩
def ok_10t (I : (Nat → Ob) → List CR → Option IR → Option IR → Prop) : Prop := ∀ (Szz : Nat → Ob) (pl : List CR) (im0 im1 : Option IR), I Szz pl im0 im1 → ∃ y2 : Int32 × Ob, f_X9_law (Szz 14) = some y2 ∧ ((∃ y1 : Int32 × Ob × Ob × Ob, f_X8_law_R 12 400 (Szz 0) (Szz 1) (Szz 2) (Szz 4) = some y1 ∧ y1.1 = y2.1 ∧ I (fset (fset (fset (fset Szz 0 y1.2.1) 1 y1.2.2.1) 2 y1.2.2.2) 14 y2.2) pl im0 im1) ∨ (∃ st9zz : Ob × Ob × Ob × Ob, (f_X8_law_a 12 400 (Szz 0) (Szz 1) (Szz 2) (Szz 4) = some st9zz) ∧ ∃ oc : Ob, (f_X0_kept 12 400 st9zz.2.2.1 = some oc) ∧ (∀ (azz : Nat) (qzz : Nat → Nat) (kzz : Nat → ClassIdzz), (∀ czz ∈ pl, czz.1 ≠ azz) → ∃ yzz, f_X8_law_b (pl ++ [(azz, qzz, kzz, (gI st9zz.2.2.1 7).toNatClampNeg, (gI st9zz.2.2.1 8).toNatClampNeg, oc)]) st9zz.1 st9zz.2.2.2 (some azz) = some yzz) ∧ ∀ xzz : Nat × (Nat → Nat) × (Nat → ClassIdzz) × Int32 × Ob × Ob, (fun xzz => (∀ czz ∈ pl, czz.1 ≠ xzz.1) ∧ f_X8_law_b (pl ++ [(xzz.1, xzz.2.1, xzz.2.2.1, (gI st9zz.2.2.1 7).toNatClampNeg, (gI st9zz.2.2.1 8).toNatClampNeg, oc)]) st9zz.1 st9zz.2.2.2 (some xzz.1) = some xzz.2.2.2) xzz → I (fset (fset (fset (fset (fset Szz 0 xzz.2.2.2.2.1) 1 st9zz.2.1) 2 st9zz.2.2.1) 4 xzz.2.2.2.2.2) 14 y2.2) (pl ++ [(xzz.1, xzz.2.1, xzz.2.2.1, (gI st9zz.2.2.1 7).toNatClampNeg, (gI st9zz.2.2.1 8).toNatClampNeg, oc)]) im0 im1 ∧ xzz.2.2.2.1 = y2.1))
set_option maxHeartbeats 200000 in
theorem okp_10t : ok_10t JT := by
  intro Szz pl im0 im1 hJ
  obtain ⟨⟨h14, h20, ht⟩, hpl, h1, h2, h3, h4, h5, h6, h7, h8, h9, h10, h11, h12, h13, hik, hi0zz, hi1⟩ := hJ
  obtain ⟨y2, e2zz, p2zz⟩ := s_X9_law (Szz 14)  h14 ⟨by rw [h20]; decide, by rw [h20]; decide⟩
  refine ⟨y2, e2zz, ?_⟩
  by_cases c1zz : (gI (Szz 4) 9) < (6 : Int32)
  · obtain ⟨z1, ez1, -, g1, gk, g2, -⟩ := s_X6_readText (Szz 1) (Szz 2) 1 h1 h2 ⟨by decide, by decide⟩
    have hI1 : IvX6 (sI z1.2.1 2 0) := ipX6_2 g1 ⟨by decide, by decide⟩
    have eT : gA z1.2.1 0 = gA (Szz 1) 0 := gk.2.1 0 (by decide)
    by_cases c2zz : z1.1 = 0
    · obtain ⟨z3, ez3, g3zz, -⟩ := s_X8_refuse (Szz 0) (-6) (rfl : IvX8 (gR (Szz 0) 7) (Szz 0))
      have tt := tf_law_bad ht h1.1 c1zz ez1 c2zz eT ez3 e2zz
      refine Or.inl ⟨(z3.1, z3.2, sI z1.2.1 2 0, z1.2.2), ?_, tt.1, ⟨⟨p2zz.1, p2zz.2.2, tt.2⟩, hpl, hI1, g2, h3, h4, h5, h6, h7, h8, h9, h10, h11, h12, h13, IK.eq g3zz hik, hi0zz, hi1⟩⟩
      unfold f_X8_law_R
      rw [if_pos c1zz, ez1]
      show (if z1.1 = (0 : Int32) then ((f_X8_refuse (Szz 0) (-6 : Int32)).bind fun z3 => some (z3.1, z3.2, sI z1.2.1 2 0, z1.2.2)) else none) = _
      rw [if_pos c2zz, ez3]; rfl
    · obtain ⟨oc, eoc, hoc⟩ := h_kept z1.2.2 g2
      refine Or.inr ⟨(Szz 0, sI z1.2.1 2 0, z1.2.2, Szz 4), ?_, oc, eoc, fun azz qzz kzz _ => ?_, fun xzz hx => ?_⟩
      · unfold f_X8_law_a
        rw [if_pos c1zz, ez1]
        show (if z1.1 = (0 : Int32) then none else some (Szz 0, sI z1.2.1 2 0, z1.2.2, Szz 4)) = _
        rw [if_neg c2zz]
      · obtain ⟨yzz, ey, -⟩ := h_lawb pl (azz, qzz, kzz, (gI z1.2.2 7).toNatClampNeg, (gI z1.2.2 8).toNatClampNeg, oc) hpl hoc (Szz 0) (Szz 4) h4
        exact ⟨yzz, ey⟩
      · obtain ⟨yzz, ey, q1zz, q2zz⟩ := h_lawb pl (xzz.1, xzz.2.1, xzz.2.2.1, (gI z1.2.2 7).toNatClampNeg, (gI z1.2.2 8).toNatClampNeg, oc) hpl hoc (Szz 0) (Szz 4) h4
        have exy : yzz = xzz.2.2.2 := Option.some.inj (ey.symm.trans hx.2)
        rw [exy] at q1zz q2zz
        have tt := tf_law_y ht h1.1 c1zz ez1 c2zz eT eoc rfl hx.1 hx.2 e2zz
        exact ⟨⟨⟨p2zz.1, p2zz.2.2, tt.2⟩, hpl.app hoc, hI1, g2, h3, q2zz, h5, h6, h7, h8.app, h9, h10, h11, h12, h13, IK.eq q1zz hik, fun rzz hr => ⟨(hi0zz rzz hr).1.app, (hi0zz rzz hr).2⟩, fun rzz hr => ⟨(hi1 rzz hr).1.app, (hi1 rzz hr).2⟩⟩, tt.1⟩
  · obtain ⟨z5, ez5, g5zz, -⟩ := s_X8_refuse (Szz 0) (-5) (rfl : IvX8 (gR (Szz 0) 7) (Szz 0))
    have hI1 : IvX6 (sI (Szz 1) 2 0) := ipX6_2 h1 ⟨by decide, by decide⟩
    have tt := tf_law_full (o1 := Szz 1) ht c1zz ez5 e2zz
    refine Or.inl ⟨(z5.1, z5.2, sI (Szz 1) 2 0, Szz 2), ?_, tt.1, ⟨⟨p2zz.1, p2zz.2.2, tt.2⟩, hpl, hI1, h2, h3, h4, h5, h6, h7, h8, h9, h10, h11, h12, h13, IK.eq g5zz hik, hi0zz, hi1⟩⟩
    unfold f_X8_law_R
    rw [if_neg c1zz]
    show ((f_X8_refuse (Szz 0) (-5 : Int32)).bind fun z5 => some (z5.1, z5.2, sI (Szz 1) 2 0, Szz 2)) = _
    rw [ez5]; rfl
def ok_11t (I : (Nat → Ob) → List CR → Option IR → Option IR → Prop) : Prop := ∀ (Szz : Nat → Ob) (pl : List CR) (im0 im1 : Option IR), I Szz pl im0 im1 → ∃ y2 : Int32 × Ob, f_X9_orders (Szz 14) = some y2 ∧ ((∃ y1 : Int32 × Ob × Ob × Ob × Ob × Ob × Ob × Ob × Ob × Ob, f_X8_orders 12 400 (Szz 0) (Szz 1) (Szz 2) (Szz 3) (Szz 4) (Szz 5) (Szz 6) (Szz 11) (Szz 12) (Szz 13) pl = some y1 ∧ y1.1 = y2.1 ∧ I (fset (fset (fset (fset (fset (fset (fset (fset (fset (fset Szz 0 y1.2.1) 1 y1.2.2.1) 2 y1.2.2.2.1) 3 y1.2.2.2.2.1) 5 y1.2.2.2.2.2.1) 6 y1.2.2.2.2.2.2.1) 11 y1.2.2.2.2.2.2.2.1) 12 y1.2.2.2.2.2.2.2.2.1) 13 y1.2.2.2.2.2.2.2.2.2) 14 y2.2) pl im0 im1))
set_option maxHeartbeats 200000 in
theorem okp_11t : ok_11t JT := by
  intro Szz pl im0 im1  hJ
  obtain ⟨⟨h14, h20, ht⟩, hpl, h1, h2, h3, h4, h5, h6, h7, h8, h9, h10, h11, h12, h13, hik, hi0zz, hi1⟩ := hJ
  obtain ⟨y2, e2zz, p2zz⟩ := s_X9_orders (Szz 14)  h14 ⟨by rw [h20]; decide, by rw [h20]; decide⟩
  obtain ⟨y1, e1zz, p1zz⟩ := s_X8_orders (Szz 0) (Szz 1) (Szz 2) (Szz 3) (Szz 4) (Szz 5) (Szz 6) (Szz 11) (Szz 12) (Szz 13) pl  (rfl : IvX8 (gR (Szz 0) 7) (Szz 0)) h1 h2 h3 h4 h5 h6 h11 h12 h13 hpl
  have tt := tf_orders ht h20 h1.1 e1zz e2zz (p1zz.2.1.1 13 (by decide)) p1zz.1 (p1zz.2.2.2.1.2.1 0 (by decide)) (orders8_2 e1zz) p2zz.2.2.2
  exact ⟨y2, e2zz, y1, e1zz, tt.1, ⟨⟨p2zz.1, p2zz.2.2.1, tt.2⟩, hpl, p1zz.2.2.1, p1zz.2.2.2.2.1, p1zz.2.2.2.2.2.2.1, h4, p1zz.2.2.2.2.2.2.2.2.1, p1zz.2.2.2.2.2.2.2.2.2.2.1, h7, h8, h9, h10, p1zz.2.2.2.2.2.2.2.2.2.2.2.2.1, p1zz.2.2.2.2.2.2.2.2.2.2.2.2.2.2.1, p1zz.2.2.2.2.2.2.2.2.2.2.2.2.2.2.2.2.1, (IK.eq p1zz.1 hik), hi0zz, hi1⟩⟩
def ok_12t (I : (Nat → Ob) → List CR → Option IR → Option IR → Prop) : Prop := ∀ (Szz : Nat → Ob) (pl : List CR) (im0 im1 : Option IR), I Szz pl im0 im1 → ∃ y2 : Int32 × Ob, f_X9_fault (Szz 14) = some y2 ∧ ((∃ y1 : Int32, f_X8_fault (Szz 0) (Szz 1) = some y1 ∧ I (fset Szz 14 y2.2) pl im0 im1))
set_option maxHeartbeats 200000 in
theorem okp_12t : ok_12t JT := by
  intro Szz pl im0 im1  hJ
  obtain ⟨⟨h14, h20, ht⟩, hpl, h1, h2, h3, h4, h5, h6, h7, h8, h9, h10, h11, h12, h13, hik, hi0zz, hi1⟩ := hJ
  obtain ⟨y2, e2zz, p2zz⟩ := s_X9_fault (Szz 14)  h14 
  obtain ⟨y1, e1zz, p1zz⟩ := s_X8_fault (Szz 0) (Szz 1)  (rfl : IvX8 (gR (Szz 0) 7) (Szz 0)) h1
  exact ⟨y2, e2zz, y1, e1zz, ⟨⟨p2zz.1, ((p2zz.2.1 20 (by decide)).trans h20), ht.rd (fr_f_X9_fault e2zz) rfl⟩, hpl, h1, h2, h3, h4, h5, h6, h7, h8, h9, h10, h11, h12, h13, hik, hi0zz, hi1⟩⟩
def ok_13t (I : (Nat → Ob) → List CR → Option IR → Option IR → Prop) : Prop := ∀ (Szz : Nat → Ob) (pl : List CR) (im0 im1 : Option IR), I Szz pl im0 im1 → ∃ y2 : Int32 × Ob, f_X9_stopped (Szz 14) = some y2 ∧ ((∃ y1 : Int32, f_X8_stopped (Szz 0) = some y1 ∧ y1 = y2.1 ∧ I (fset Szz 14 y2.2) pl im0 im1))
set_option maxHeartbeats 200000 in
theorem okp_13t : ok_13t JT := by
  intro Szz pl im0 im1  hJ
  obtain ⟨⟨h14, h20, ht⟩, hpl, h1, h2, h3, h4, h5, h6, h7, h8, h9, h10, h11, h12, h13, hik, hi0zz, hi1⟩ := hJ
  obtain ⟨y2, e2zz, p2zz⟩ := s_X9_stopped (Szz 14)  h14 
  obtain ⟨y1, e1zz, p1zz⟩ := s_X8_stopped (Szz 0)  (rfl : IvX8 (gR (Szz 0) 7) (Szz 0))
  exact ⟨y2, e2zz, y1, e1zz, tf_stopped ht e1zz e2zz, ⟨⟨p2zz.1, ((p2zz.2.1 20 (by decide)).trans h20), ht.rd (fr_f_X9_stopped e2zz) rfl⟩, hpl, h1, h2, h3, h4, h5, h6, h7, h8, h9, h10, h11, h12, h13, hik, hi0zz, hi1⟩⟩
def ok_14t (I : (Nat → Ob) → List CR → Option IR → Option IR → Prop) : Prop := ∀ (Szz : Nat → Ob) (pl : List CR) (im0 im1 : Option IR) (a1zz : Int32), I Szz pl im0 im1 → ∃ y2 : Int32 × Ob, f_X9_force (Szz 14) a1zz = some y2 ∧ ((∃ y1 : Int32 × Ob × Ob, f_X8_force (Szz 0) (Szz 4) a1zz = some y1 ∧ y1.1 = y2.1 ∧ I (fset (fset (fset Szz 0 y1.2.1) 4 y1.2.2) 14 y2.2) pl im0 im1))
set_option maxHeartbeats 200000 in
theorem okp_14t : ok_14t JT := by
  intro Szz pl im0 im1 a1zz hJ
  obtain ⟨⟨h14, h20, ht⟩, hpl, h1, h2, h3, h4, h5, h6, h7, h8, h9, h10, h11, h12, h13, hik, hi0zz, hi1⟩ := hJ
  obtain ⟨y2, e2zz, p2zz⟩ := s_X9_force (Szz 14) a1zz h14 
  obtain ⟨y1, e1zz, p1zz⟩ := s_X8_force (Szz 0) (Szz 4) a1zz (rfl : IvX8 (gR (Szz 0) 7) (Szz 0)) h4
  have tt := tf_force ht e1zz e2zz
  exact ⟨y2, e2zz, y1, e1zz, tt.1, ⟨⟨p2zz.2.1, ((p2zz.2.2.1 20 (by decide)).trans h20), tt.2⟩, hpl, h1, h2, h3, p1zz.2.2.1, h5, h6, h7, h8, h9, h10, h11, h12, h13, (IK.eq p1zz.1 hik), hi0zz, hi1⟩⟩
def ok_15t (I : (Nat → Ob) → List CR → Option IR → Option IR → Prop) : Prop := ∀ (Szz : Nat → Ob) (pl : List CR) (im0 im1 : Option IR) (a1zz : Int32), I Szz pl im0 im1 → ∃ y2 : Int32 × Ob, f_X9_race (Szz 14) a1zz = some y2 ∧ ((∃ y1 : Int32 × Ob × Ob × Ob × Ob × Ob, f_X8_race (Szz 0) (Szz 3) (Szz 4) (Szz 5) (Szz 6) (Szz 11) pl a1zz = some y1 ∧ y1.1 = y2.1 ∧ I (fset (fset (fset (fset (fset (fset Szz 0 y1.2.1) 3 y1.2.2.1) 5 y1.2.2.2.1) 6 y1.2.2.2.2.1) 11 y1.2.2.2.2.2) 14 y2.2) pl im0 im1))
set_option maxHeartbeats 200000 in
theorem okp_15t : ok_15t JT := by
  intro Szz pl im0 im1 a1zz hJ
  obtain ⟨⟨h14, h20, ht⟩, hpl, h1, h2, h3, h4, h5, h6, h7, h8, h9, h10, h11, h12, h13, hik, hi0zz, hi1⟩ := hJ
  obtain ⟨y2, e2zz, p2zz⟩ := s_X9_race (Szz 14) a1zz h14 ⟨by rw [h20]; decide, by rw [h20]; decide⟩
  obtain ⟨y1, e1zz, p1zz⟩ := s_X8_race (Szz 0) (Szz 3) (Szz 4) (Szz 5) (Szz 6) (Szz 11) pl a1zz (rfl : IvX8 (gR (Szz 0) 7) (Szz 0)) h3 h4 h5 h6 h11 hpl
  have tt := tf_race ht h20 e1zz e2zz
  exact ⟨y2, e2zz, y1, e1zz, tt.1, ⟨⟨p2zz.2.1, ((p2zz.2.2.1 20 (by decide)).trans h20), tt.2⟩, hpl, h1, h2, p1zz.2.2.1, h4, p1zz.2.2.2.2.1, p1zz.2.2.2.2.2.2.1, h7, h8, h9, h10, p1zz.2.2.2.2.2.2.2.2.1, h12, h13, (IK.eq p1zz.1 hik), hi0zz, hi1⟩⟩
def ok_16t (I : (Nat → Ob) → List CR → Option IR → Option IR → Prop) : Prop := ∀ (Szz : Nat → Ob) (pl : List CR) (im0 im1 : Option IR) (a1zz : Int32), I Szz pl im0 im1 → ∃ y2 : Int32 × Ob, f_X9_enter (Szz 14) a1zz = some y2 ∧ ((∃ y1 : Int32 × Ob × Ob × Ob × Ob × Ob, f_X8_enter (Szz 0) (Szz 3) (Szz 4) (Szz 5) (Szz 6) (Szz 11) pl a1zz = some y1 ∧ y1.1 = y2.1 ∧ I (fset (fset (fset (fset (fset (fset Szz 0 y1.2.1) 3 y1.2.2.1) 5 y1.2.2.2.1) 6 y1.2.2.2.2.1) 11 y1.2.2.2.2.2) 14 y2.2) pl im0 im1))
set_option maxHeartbeats 200000 in
theorem okp_16t : ok_16t JT := by
  intro Szz pl im0 im1 a1zz hJ
  obtain ⟨⟨h14, h20, ht⟩, hpl, h1, h2, h3, h4, h5, h6, h7, h8, h9, h10, h11, h12, h13, hik, hi0zz, hi1⟩ := hJ
  obtain ⟨y2, e2zz, p2zz⟩ := s_X9_enter (Szz 14) a1zz h14 ⟨by rw [h20]; decide, by rw [h20]; decide⟩
  obtain ⟨y1, e1zz, p1zz⟩ := s_X8_enter (Szz 0) (Szz 3) (Szz 4) (Szz 5) (Szz 6) (Szz 11) pl a1zz (rfl : IvX8 (gR (Szz 0) 7) (Szz 0)) h3 h4 h5 h6 h11 hpl
  have tt := tf_enter ht h20 e1zz e2zz
  exact ⟨y2, e2zz, y1, e1zz, tt.1, ⟨⟨p2zz.2.1, ((p2zz.2.2.1 20 (by decide)).trans h20), tt.2⟩, hpl, h1, h2, p1zz.2.2.1, h4, p1zz.2.2.2.2.1, p1zz.2.2.2.2.2.2.1, h7, h8, h9, h10, p1zz.2.2.2.2.2.2.2.2.1, h12, h13, (IK.eq p1zz.1 hik), hi0zz, hi1⟩⟩
def ok_17t (I : (Nat → Ob) → List CR → Option IR → Option IR → Prop) : Prop := ∀ (Szz : Nat → Ob) (pl : List CR) (im0 im1 : Option IR) (a1zz : Int32), I Szz pl im0 im1 → ∃ y2 : Int32 × Ob, f_X9_take (Szz 14) a1zz = some y2 ∧ ((∃ y1 : Int32 × Ob × Ob × Ob × Ob × Ob, f_X8_take (Szz 0) (Szz 3) (Szz 4) (Szz 5) (Szz 6) (Szz 11) pl a1zz = some y1 ∧ y1.1 = y2.1 ∧ I (fset (fset (fset (fset (fset (fset Szz 0 y1.2.1) 3 y1.2.2.1) 5 y1.2.2.2.1) 6 y1.2.2.2.2.1) 11 y1.2.2.2.2.2) 14 y2.2) pl im0 im1))
set_option maxHeartbeats 200000 in
theorem okp_17t : ok_17t JT := by
  intro Szz pl im0 im1 a1zz hJ
  obtain ⟨⟨h14, h20, ht⟩, hpl, h1, h2, h3, h4, h5, h6, h7, h8, h9, h10, h11, h12, h13, hik, hi0zz, hi1⟩ := hJ
  obtain ⟨y2, e2zz, p2zz⟩ := s_X9_take (Szz 14) a1zz h14 
  obtain ⟨y1, e1zz, p1zz⟩ := s_X8_take (Szz 0) (Szz 3) (Szz 4) (Szz 5) (Szz 6) (Szz 11) pl a1zz (rfl : IvX8 (gR (Szz 0) 7) (Szz 0)) h3 h4 h5 h6 h11 hpl
  have tt := tf_take ht h20 e1zz e2zz
  exact ⟨y2, e2zz, y1, e1zz, tt.1, ⟨⟨p2zz.2.1, ((p2zz.2.2.1 20 (by decide)).trans h20), tt.2⟩, hpl, h1, h2, p1zz.2.2.1, h4, p1zz.2.2.2.2.1, p1zz.2.2.2.2.2.2.1, h7, h8, h9, h10, p1zz.2.2.2.2.2.2.2.2.1, h12, h13, (IK.eq p1zz.1 hik), hi0zz, hi1⟩⟩
def ok_18t (I : (Nat → Ob) → List CR → Option IR → Option IR → Prop) : Prop := ∀ (Szz : Nat → Ob) (pl : List CR) (im0 im1 : Option IR), I Szz pl im0 im1 → ∃ y2 : Int32 × Ob, f_X9_pass (Szz 14) = some y2 ∧ ((∃ y1 : Int32 × Ob × Ob × Ob × Ob × Ob, f_X8_pass (Szz 0) (Szz 3) (Szz 4) (Szz 5) (Szz 6) (Szz 11) pl = some y1 ∧ y1.1 = y2.1 ∧ I (fset (fset (fset (fset (fset (fset Szz 0 y1.2.1) 3 y1.2.2.1) 5 y1.2.2.2.1) 6 y1.2.2.2.2.1) 11 y1.2.2.2.2.2) 14 y2.2) pl im0 im1))
set_option maxHeartbeats 200000 in
theorem okp_18t : ok_18t JT := by
  intro Szz pl im0 im1  hJ
  obtain ⟨⟨h14, h20, ht⟩, hpl, h1, h2, h3, h4, h5, h6, h7, h8, h9, h10, h11, h12, h13, hik, hi0zz, hi1⟩ := hJ
  obtain ⟨y2, e2zz, p2zz⟩ := s_X9_pass (Szz 14)  h14 ⟨by rw [h20]; decide, by rw [h20]; decide⟩
  obtain ⟨y1, e1zz, p1zz⟩ := s_X8_pass (Szz 0) (Szz 3) (Szz 4) (Szz 5) (Szz 6) (Szz 11) pl  (rfl : IvX8 (gR (Szz 0) 7) (Szz 0)) h3 h4 h5 h6 h11 hpl
  have tt := tf_pass ht h20 e1zz e2zz
  exact ⟨y2, e2zz, y1, e1zz, tt.1, ⟨⟨p2zz.2.1, ((p2zz.2.2.1 20 (by decide)).trans h20), tt.2⟩, hpl, h1, h2, p1zz.2.2.1, h4, p1zz.2.2.2.2.1, p1zz.2.2.2.2.2.2.1, h7, h8, h9, h10, p1zz.2.2.2.2.2.2.2.2.1, h12, h13, (IK.eq p1zz.1 hik), hi0zz, hi1⟩⟩
def ok_19t (I : (Nat → Ob) → List CR → Option IR → Option IR → Prop) : Prop := ∀ (Szz : Nat → Ob) (pl : List CR) (im0 im1 : Option IR), I Szz pl im0 im1 → ∃ y2 : Int32 × Ob, f_X9_undo (Szz 14) = some y2 ∧ ((∃ y1 : Int32 × Ob × Ob × Ob, f_X8_undo (Szz 0) (Szz 4) (Szz 5) (Szz 11) = some y1 ∧ y1.1 = y2.1 ∧ I (fset (fset (fset (fset Szz 0 y1.2.1) 5 y1.2.2.1) 11 y1.2.2.2) 14 y2.2) pl im0 im1))
set_option maxHeartbeats 200000 in
theorem okp_19t : ok_19t JT := by
  intro Szz pl im0 im1  hJ
  obtain ⟨⟨h14, h20, ht⟩, hpl, h1, h2, h3, h4, h5, h6, h7, h8, h9, h10, h11, h12, h13, hik, hi0zz, hi1⟩ := hJ
  obtain ⟨y2, e2zz, p2zz⟩ := s_X9_undo (Szz 14)  h14 
  obtain ⟨y1, e1zz, p1zz⟩ := s_X8_undo (Szz 0) (Szz 4) (Szz 5) (Szz 11)  (rfl : IvX8 (gR (Szz 0) 7) (Szz 0)) h4 h5 h11
  have tt := tf_undo ht h20 e1zz e2zz
  exact ⟨y2, e2zz, y1, e1zz, tt.1, ⟨⟨p2zz.2.1, ((p2zz.2.2.1 20 (by decide)).trans h20), tt.2⟩, hpl, h1, h2, h3, h4, p1zz.2.2.1, h6, h7, h8, h9, h10, p1zz.2.2.2.2.1, h12, h13, (IK.eq p1zz.1 hik), hi0zz, hi1⟩⟩
def ok_20t (I : (Nat → Ob) → List CR → Option IR → Option IR → Prop) : Prop := ∀ (Szz : Nat → Ob) (pl : List CR) (im0 im1 : Option IR) (a1zz : Int32) (a2 : Int32) (a3 : Int32) (a4 : Int32), I Szz pl im0 im1 → ∃ y2 : Int32 × Ob, f_X9_be (Szz 14) a1zz a2 a3 a4 = some y2 ∧ ((∃ y1 : Int32 × Ob × Ob, f_X8_be (Szz 0) (Szz 3) (Szz 4) (Szz 5) (Szz 6) (Szz 7) pl a1zz a2 a3 a4 = some y1 ∧ y1.1 = y2.1 ∧ I (fset (fset (fset Szz 3 y1.2.1) 7 y1.2.2) 14 y2.2) pl im0 im1))
set_option maxHeartbeats 200000 in
theorem okp_20t : ok_20t JT := by
  intro Szz pl im0 im1 a1zz a2 a3 a4 hJ
  obtain ⟨⟨h14, h20, ht⟩, hpl, h1, h2, h3, h4, h5, h6, h7, h8, h9, h10, h11, h12, h13, hik, hi0zz, hi1⟩ := hJ
  obtain ⟨y2, e2zz, p2zz⟩ := s_X9_be (Szz 14) a1zz a2 a3 a4 h14 ⟨by rw [h20]; decide, by rw [h20]; decide⟩
  obtain ⟨y1, e1zz, p1zz⟩ := s_X8_be (Szz 0) (Szz 3) (Szz 4) (Szz 5) (Szz 6) (Szz 7) pl a1zz a2 a3 a4 (rfl : IvX8 (gR (Szz 0) 7) (Szz 0)) h3 h4 h5 h6 h7 hpl
  exact ⟨y2, e2zz, y1, e1zz, tf_be ht h20 e1zz e2zz, ⟨⟨p2zz.1, ((p2zz.2.1 20 (by decide)).trans h20), ht.rd (fr_f_X9_be e2zz) rfl⟩, hpl, h1, h2, p1zz.1, h4, h5, h6, p1zz.2.2.1, h8, h9, h10, h11, h12, h13, hik, hi0zz, hi1⟩⟩
def ok_21t (I : (Nat → Ob) → List CR → Option IR → Option IR → Prop) : Prop := ∀ (Szz : Nat → Ob) (pl : List CR) (im0 im1 : Option IR) (a1zz : Int32) (a2 : Int32), I Szz pl im0 im1 → ∃ y2 : Int32 × Ob, f_X9_seen (Szz 14) a1zz a2 = some y2 ∧ ((∃ y1 : Int32 × Ob × Ob, f_X8_seen (Szz 0) (Szz 4) a1zz a2 = some y1 ∧ y1.1 = y2.1 ∧ I (fset (fset (fset Szz 0 y1.2.1) 4 y1.2.2) 14 y2.2) pl im0 im1))
set_option maxHeartbeats 200000 in
theorem okp_21t : ok_21t JT := by
  intro Szz pl im0 im1 a1zz a2 hJ
  obtain ⟨⟨h14, h20, ht⟩, hpl, h1, h2, h3, h4, h5, h6, h7, h8, h9, h10, h11, h12, h13, hik, hi0zz, hi1⟩ := hJ
  obtain ⟨y2, e2zz, p2zz⟩ := s_X9_seen (Szz 14) a1zz a2 h14 
  obtain ⟨y1, e1zz, p1zz⟩ := s_X8_seen (Szz 0) (Szz 4) a1zz a2 (rfl : IvX8 (gR (Szz 0) 7) (Szz 0)) h4
  have tt := tf_seen ht h4 e1zz e2zz
  exact ⟨y2, e2zz, y1, e1zz, tt.1, ⟨⟨p2zz.2.1, ((p2zz.2.2.1 20 (by decide)).trans h20), tt.2⟩, hpl, h1, h2, h3, p1zz.2.2.1, h5, h6, h7, h8, h9, h10, h11, h12, h13, (IK.eq p1zz.1 hik), hi0zz, hi1⟩⟩
def ok_22t (I : (Nat → Ob) → List CR → Option IR → Option IR → Prop) : Prop := ∀ (Szz : Nat → Ob) (pl : List CR) (im0 im1 : Option IR), I Szz pl im0 im1 → ∃ y2 : Int32 × Ob, f_X9_forget (Szz 14) = some y2 ∧ ((∃ y1 : Int32 × Ob, f_X8_forget (Szz 0) (Szz 4) = some y1 ∧ y1.1 = y2.1 ∧ I (fset (fset Szz 4 y1.2) 14 y2.2) pl im0 im1))
set_option maxHeartbeats 200000 in
theorem okp_22t : ok_22t JT := by
  intro Szz pl im0 im1  hJ
  obtain ⟨⟨h14, h20, ht⟩, hpl, h1, h2, h3, h4, h5, h6, h7, h8, h9, h10, h11, h12, h13, hik, hi0zz, hi1⟩ := hJ
  obtain ⟨y2, e2zz, p2zz⟩ := s_X9_forget (Szz 14)  h14 
  obtain ⟨y1, e1zz, p1zz⟩ := s_X8_forget (Szz 0) (Szz 4)  (rfl : IvX8 (gR (Szz 0) 7) (Szz 0)) h4
  have tt := tf_forget ht e1zz e2zz
  exact ⟨y2, e2zz, y1, e1zz, tt.1, ⟨⟨p2zz.2.1, ((p2zz.2.2.1 20 (by decide)).trans h20), tt.2⟩, hpl, h1, h2, h3, p1zz.2.1, h5, h6, h7, h8, h9, h10, h11, h12, h13, hik, hi0zz, hi1⟩⟩
def ok_23t (I : (Nat → Ob) → List CR → Option IR → Option IR → Prop) : Prop := ∀ (Szz : Nat → Ob) (pl : List CR) (im0 im1 : Option IR), I Szz pl im0 im1 → ∃ y2 : Int32 × Ob, f_X9_canBe (Szz 14) = some y2 ∧ ((∃ y1 : Int32 × Ob, f_X8_canBe (Szz 0) (Szz 3) (Szz 4) (Szz 5) (Szz 6) (Szz 7) pl = some y1 ∧ y1.1 = y2.1 ∧ I (fset (fset Szz 3 y1.2) 14 y2.2) pl im0 im1))
set_option maxHeartbeats 200000 in
theorem okp_23t : ok_23t JT := by
  intro Szz pl im0 im1  hJ
  obtain ⟨⟨h14, h20, ht⟩, hpl, h1, h2, h3, h4, h5, h6, h7, h8, h9, h10, h11, h12, h13, hik, hi0zz, hi1⟩ := hJ
  obtain ⟨y2, e2zz, p2zz⟩ := s_X9_canBe (Szz 14)  h14 ⟨by rw [h20]; decide, by rw [h20]; decide⟩
  obtain ⟨y1, e1zz, p1zz⟩ := s_X8_canBe (Szz 0) (Szz 3) (Szz 4) (Szz 5) (Szz 6) (Szz 7) pl  (rfl : IvX8 (gR (Szz 0) 7) (Szz 0)) h3 h4 h5 h6 h7 hpl
  exact ⟨y2, e2zz, y1, e1zz, tf_canBe ht h4 h20 e1zz e2zz, ⟨⟨p2zz.2.1, ((p2zz.2.2.1 20 (by decide)).trans h20), ht.rd (fr_f_X9_canBe e2zz) rfl⟩, hpl, h1, h2, p1zz.2.1, h4, h5, h6, h7, h8, h9, h10, h11, h12, h13, hik, hi0zz, hi1⟩⟩
def ok_24t (I : (Nat → Ob) → List CR → Option IR → Option IR → Prop) : Prop := ∀ (Szz : Nat → Ob) (pl : List CR) (im0 im1 : Option IR) (a1zz : Int32), I Szz pl im0 im1 → ∃ y2 : Int32 × Ob, f_X9_look (Szz 14) a1zz = some y2 ∧ ((∃ y1 : Int32 × Ob × Ob, f_X8_look (Szz 0) (Szz 3) (Szz 4) (Szz 5) (Szz 6) (Szz 7) pl a1zz = some y1 ∧ y1.1 = y2.1 ∧ I (fset (fset (fset Szz 3 y1.2.1) 7 y1.2.2) 14 y2.2) pl im0 im1))
set_option maxHeartbeats 200000 in
theorem okp_24t : ok_24t JT := by
  intro Szz pl im0 im1 a1zz hJ
  obtain ⟨⟨h14, h20, ht⟩, hpl, h1, h2, h3, h4, h5, h6, h7, h8, h9, h10, h11, h12, h13, hik, hi0zz, hi1⟩ := hJ
  obtain ⟨y2, e2zz, p2zz⟩ := s_X9_look (Szz 14) a1zz h14 ⟨by rw [h20]; decide, by rw [h20]; decide⟩
  obtain ⟨y1, e1zz, p1zz⟩ := s_X8_look (Szz 0) (Szz 3) (Szz 4) (Szz 5) (Szz 6) (Szz 7) pl a1zz (rfl : IvX8 (gR (Szz 0) 7) (Szz 0)) h3 h4 h5 h6 h7 hpl
  exact ⟨y2, e2zz, y1, e1zz, tf_look ht h4 h20 e1zz e2zz, ⟨⟨p2zz.2.1, ((p2zz.2.2.1 20 (by decide)).trans h20), ht.rd (fr_f_X9_look e2zz) rfl⟩, hpl, h1, h2, p1zz.1, h4, h5, h6, p1zz.2.2.1, h8, h9, h10, h11, h12, h13, hik, hi0zz, hi1⟩⟩
def ok_25t (I : (Nat → Ob) → List CR → Option IR → Option IR → Prop) : Prop := ∀ (Szz : Nat → Ob) (pl : List CR) (im0 im1 : Option IR) (a1zz : Int32), I Szz pl im0 im1 → ∃ y2 : Int32 × Ob, f_X9_ranking (Szz 14) a1zz = some y2 ∧ ((∃ y1 : Int32 × Ob, f_X8_ranking (Szz 0) (Szz 4) (Szz 7) a1zz = some y1 ∧ I (fset (fset Szz 7 y1.2) 14 y2.2) pl im0 im1))
set_option maxHeartbeats 200000 in
theorem okp_25t : ok_25t JT := by
  intro Szz pl im0 im1 a1zz hJ
  obtain ⟨⟨h14, h20, ht⟩, hpl, h1, h2, h3, h4, h5, h6, h7, h8, h9, h10, h11, h12, h13, hik, hi0zz, hi1⟩ := hJ
  obtain ⟨y2, e2zz, p2zz⟩ := s_X9_ranking (Szz 14) a1zz h14 
  obtain ⟨y1, e1zz, p1zz⟩ := s_X8_ranking (Szz 0) (Szz 4) (Szz 7) a1zz (rfl : IvX8 (gR (Szz 0) 7) (Szz 0)) h4 h7
  exact ⟨y2, e2zz, y1, e1zz, ⟨⟨p2zz.1, ((p2zz.2.1 20 (by decide)).trans h20), ht.rd (fr_f_X9_ranking e2zz) rfl⟩, hpl, h1, h2, h3, h4, h5, h6, p1zz.1, h8, h9, h10, h11, h12, h13, hik, hi0zz, hi1⟩⟩
def ok_26t (I : (Nat → Ob) → List CR → Option IR → Option IR → Prop) : Prop := ∀ (Szz : Nat → Ob) (pl : List CR) (im0 im1 : Option IR), I Szz pl im0 im1 → ∃ y2 : Int32 × Ob, f_X9_circles (Szz 14) = some y2 ∧ ((∃ y1 : Int32, f_X8_circles (Szz 0) (Szz 4) (Szz 7) = some y1 ∧ I (fset Szz 14 y2.2) pl im0 im1))
set_option maxHeartbeats 200000 in
theorem okp_26t : ok_26t JT := by
  intro Szz pl im0 im1  hJ
  obtain ⟨⟨h14, h20, ht⟩, hpl, h1, h2, h3, h4, h5, h6, h7, h8, h9, h10, h11, h12, h13, hik, hi0zz, hi1⟩ := hJ
  obtain ⟨y2, e2zz, p2zz⟩ := s_X9_circles (Szz 14)  h14 
  obtain ⟨y1, e1zz, p1zz⟩ := s_X8_circles (Szz 0) (Szz 4) (Szz 7)  (rfl : IvX8 (gR (Szz 0) 7) (Szz 0)) h4 h7
  exact ⟨y2, e2zz, y1, e1zz, ⟨⟨p2zz.1, ((p2zz.2.1 20 (by decide)).trans h20), ht.rd (fr_f_X9_circles e2zz) rfl⟩, hpl, h1, h2, h3, h4, h5, h6, h7, h8, h9, h10, h11, h12, h13, hik, hi0zz, hi1⟩⟩
def ok_27t (I : (Nat → Ob) → List CR → Option IR → Option IR → Prop) : Prop := ∀ (Szz : Nat → Ob) (pl : List CR) (im0 im1 : Option IR) (a1zz : Int32), I Szz pl im0 im1 → ∃ y2 : Int32 × Ob, f_X9_crowned (Szz 14) a1zz = some y2 ∧ ((∃ y1 : Int32 × Ob × Ob, f_X8_crowned (Szz 0) (Szz 3) (Szz 4) (Szz 5) (Szz 6) (Szz 7) pl a1zz = some y1 ∧ y1.1 = y2.1 ∧ I (fset (fset (fset Szz 3 y1.2.1) 7 y1.2.2) 14 y2.2) pl im0 im1))
set_option maxHeartbeats 200000 in
theorem okp_27t : ok_27t JT := by
  intro Szz pl im0 im1 a1zz hJ
  obtain ⟨⟨h14, h20, ht⟩, hpl, h1, h2, h3, h4, h5, h6, h7, h8, h9, h10, h11, h12, h13, hik, hi0zz, hi1⟩ := hJ
  obtain ⟨y2, e2zz, p2zz⟩ := s_X9_crowned (Szz 14) a1zz h14 ⟨by rw [h20]; decide, by rw [h20]; decide⟩
  obtain ⟨y1, e1zz, p1zz⟩ := s_X8_crowned (Szz 0) (Szz 3) (Szz 4) (Szz 5) (Szz 6) (Szz 7) pl a1zz (rfl : IvX8 (gR (Szz 0) 7) (Szz 0)) h3 h4 h5 h6 h7 hpl
  exact ⟨y2, e2zz, y1, e1zz, tf_crowned ht h20 e1zz e2zz, ⟨⟨p2zz.1, ((p2zz.2.1 20 (by decide)).trans h20), ht.rd (fr_f_X9_crowned e2zz) rfl⟩, hpl, h1, h2, p1zz.1, h4, h5, h6, p1zz.2.2.1, h8, h9, h10, h11, h12, h13, hik, hi0zz, hi1⟩⟩
def ok_28t (I : (Nat → Ob) → List CR → Option IR → Option IR → Prop) : Prop := ∀ (Szz : Nat → Ob) (pl : List CR) (im0 im1 : Option IR) (a1zz : Int32), I Szz pl im0 im1 → ∃ y2 : Int32 × Ob, f_X9_heir (Szz 14) a1zz = some y2 ∧ ((∃ y1 : Int32 × Ob, f_X8_heir (Szz 0) (Szz 4) (Szz 7) a1zz = some y1 ∧ I (fset (fset Szz 7 y1.2) 14 y2.2) pl im0 im1))
set_option maxHeartbeats 200000 in
theorem okp_28t : ok_28t JT := by
  intro Szz pl im0 im1 a1zz hJ
  obtain ⟨⟨h14, h20, ht⟩, hpl, h1, h2, h3, h4, h5, h6, h7, h8, h9, h10, h11, h12, h13, hik, hi0zz, hi1⟩ := hJ
  obtain ⟨y2, e2zz, p2zz⟩ := s_X9_heir (Szz 14) a1zz h14 
  obtain ⟨y1, e1zz, p1zz⟩ := s_X8_heir (Szz 0) (Szz 4) (Szz 7) a1zz (rfl : IvX8 (gR (Szz 0) 7) (Szz 0)) h4 h7
  exact ⟨y2, e2zz, y1, e1zz, ⟨⟨p2zz.2.1, ((p2zz.2.2.1 20 (by decide)).trans h20), ht.rd (fr_f_X9_heir e2zz) rfl⟩, hpl, h1, h2, h3, h4, h5, h6, p1zz.2.1, h8, h9, h10, h11, h12, h13, hik, hi0zz, hi1⟩⟩
def ok_29t (I : (Nat → Ob) → List CR → Option IR → Option IR → Prop) : Prop := ∀ (Szz : Nat → Ob) (pl : List CR) (im0 im1 : Option IR) (a1zz : Int32) (a2 : Int32), I Szz pl im0 im1 → ∃ y2 : Int64 × Ob, f_X9_ladder (Szz 14) a1zz a2 = some y2 ∧ ((∃ y1 : Int64 × Ob, f_X8_ladder (Szz 0) (Szz 7) a1zz a2 = some y1 ∧ I (fset (fset Szz 7 y1.2) 14 y2.2) pl im0 im1))
set_option maxHeartbeats 200000 in
theorem okp_29t : ok_29t JT := by
  intro Szz pl im0 im1 a1zz a2 hJ
  obtain ⟨⟨h14, h20, ht⟩, hpl, h1, h2, h3, h4, h5, h6, h7, h8, h9, h10, h11, h12, h13, hik, hi0zz, hi1⟩ := hJ
  obtain ⟨y2, e2zz, p2zz⟩ := s_X9_ladder (Szz 14) a1zz a2 h14 
  obtain ⟨y1, e1zz, p1zz⟩ := s_X8_ladder (Szz 0) (Szz 7) a1zz a2 (rfl : IvX8 (gR (Szz 0) 7) (Szz 0)) h7
  exact ⟨y2, e2zz, y1, e1zz, ⟨⟨p2zz.1, ((p2zz.2.1 20 (by decide)).trans h20), ht.rd (fr_f_X9_ladder e2zz) rfl⟩, hpl, h1, h2, h3, h4, h5, h6, p1zz.1, h8, h9, h10, h11, h12, h13, hik, hi0zz, hi1⟩⟩
def ok_30t (I : (Nat → Ob) → List CR → Option IR → Option IR → Prop) : Prop := ∀ (Szz : Nat → Ob) (pl : List CR) (im0 im1 : Option IR), I Szz pl im0 im1 → ∃ y2 : Int32 × Ob, f_X9_never (Szz 14) = some y2 ∧ ((∃ y1 : Int32 × Ob × Ob, f_X8_never (Szz 0) (Szz 3) (Szz 4) (Szz 5) (Szz 6) (Szz 7) pl = some y1 ∧ y1.1 = y2.1 ∧ I (fset (fset (fset Szz 3 y1.2.1) 7 y1.2.2) 14 y2.2) pl im0 im1))
set_option maxHeartbeats 200000 in
theorem okp_30t : ok_30t JT := by
  intro Szz pl im0 im1  hJ
  obtain ⟨⟨h14, h20, ht⟩, hpl, h1, h2, h3, h4, h5, h6, h7, h8, h9, h10, h11, h12, h13, hik, hi0zz, hi1⟩ := hJ
  obtain ⟨y2, e2zz, p2zz⟩ := s_X9_never (Szz 14)  h14 ⟨by rw [h20]; decide, by rw [h20]; decide⟩
  obtain ⟨y1, e1zz, p1zz⟩ := s_X8_never (Szz 0) (Szz 3) (Szz 4) (Szz 5) (Szz 6) (Szz 7) pl  (rfl : IvX8 (gR (Szz 0) 7) (Szz 0)) h3 h4 h5 h6 h7 hpl
  exact ⟨y2, e2zz, y1, e1zz, tf_never ht h20 e1zz e2zz, ⟨⟨p2zz.1, ((p2zz.2.1 20 (by decide)).trans h20), ht.rd (fr_f_X9_never e2zz) rfl⟩, hpl, h1, h2, p1zz.1, h4, h5, h6, p1zz.2.2.1, h8, h9, h10, h11, h12, h13, hik, hi0zz, hi1⟩⟩
def ok_31t (I : (Nat → Ob) → List CR → Option IR → Option IR → Prop) : Prop := ∀ (Szz : Nat → Ob) (pl : List CR) (im0 im1 : Option IR) (a1zz : Int32) (a2 : Int32), I Szz pl im0 im1 → ∃ y2 : Int64 × Ob, f_X9_few (Szz 14) a1zz a2 = some y2 ∧ ((∃ y1 : Int64 × Ob, f_X8_few (Szz 0) (Szz 4) (Szz 7) a1zz a2 = some y1 ∧ y1.1 = y2.1 ∧ I (fset (fset Szz 7 y1.2) 14 y2.2) pl im0 im1))
set_option maxHeartbeats 200000 in
theorem okp_31t : ok_31t JT := by
  intro Szz pl im0 im1 a1zz a2 hJ
  obtain ⟨⟨h14, h20, ht⟩, hpl, h1, h2, h3, h4, h5, h6, h7, h8, h9, h10, h11, h12, h13, hik, hi0zz, hi1⟩ := hJ
  obtain ⟨y2, e2zz, p2zz⟩ := s_X9_few (Szz 14) a1zz a2 h14 
  obtain ⟨y1, e1zz, p1zz⟩ := s_X8_few (Szz 0) (Szz 4) (Szz 7) a1zz a2 (rfl : IvX8 (gR (Szz 0) 7) (Szz 0)) h4 h7
  exact ⟨y2, e2zz, y1, e1zz, tf_few ht e1zz e2zz, ⟨⟨p2zz.1, ((p2zz.2.1 20 (by decide)).trans h20), ht.rd (fr_f_X9_few e2zz) rfl⟩, hpl, h1, h2, h3, h4, h5, h6, p1zz.1, h8, h9, h10, h11, h12, h13, hik, hi0zz, hi1⟩⟩
def ok_32t (I : (Nat → Ob) → List CR → Option IR → Option IR → Prop) : Prop := ∀ (Szz : Nat → Ob) (pl : List CR) (im0 im1 : Option IR) (a1zz : Int32) (a2 : Int32), I Szz pl im0 im1 → ∃ y2 : Int32 × Ob, f_X9_compare (Szz 14) a1zz a2 = some y2 ∧ ((∃ y1 : Int32 × Ob × Ob, f_X8_compare (Szz 0) (Szz 3) (Szz 4) (Szz 5) (Szz 6) pl a1zz a2 = some y1 ∧ y1.1 = y2.1 ∧ I (fset (fset (fset Szz 3 y1.2.1) 6 y1.2.2) 14 y2.2) pl im0 im1))
set_option maxHeartbeats 200000 in
theorem okp_32t : ok_32t JT := by
  intro Szz pl im0 im1 a1zz a2 hJ
  obtain ⟨⟨h14, h20, ht⟩, hpl, h1, h2, h3, h4, h5, h6, h7, h8, h9, h10, h11, h12, h13, hik, hi0zz, hi1⟩ := hJ
  obtain ⟨y2, e2zz, p2zz⟩ := s_X9_compare (Szz 14) a1zz a2 h14 ⟨by rw [h20]; decide, by rw [h20]; decide⟩
  obtain ⟨y1, e1zz, p1zz⟩ := s_X8_compare (Szz 0) (Szz 3) (Szz 4) (Szz 5) (Szz 6) pl a1zz a2 (rfl : IvX8 (gR (Szz 0) 7) (Szz 0)) h3 h4 h5 h6 hpl
  have tt := tf_compare ht h20 e1zz e2zz
  exact ⟨y2, e2zz, y1, e1zz, tt.1, ⟨⟨p2zz.2.1, ((p2zz.2.2.1 20 (by decide)).trans h20), tt.2⟩, hpl, h1, h2, p1zz.2.1, h4, h5, p1zz.2.2.2.1, h7, h8, h9, h10, h11, h12, h13, hik, hi0zz, hi1⟩⟩
def ok_33t (I : (Nat → Ob) → List CR → Option IR → Option IR → Prop) : Prop := ∀ (Szz : Nat → Ob) (pl : List CR) (im0 im1 : Option IR) (a1zz : Int32) (a2 : Int32), I Szz pl im0 im1 → ∃ y2 : Int32 × Ob, f_X9_centuries (Szz 14) a1zz a2 = some y2 ∧ ((∃ y1 : Int32 × Ob × Ob × Ob × Ob × Ob, f_X8_centuries (Szz 0) (Szz 3) (Szz 4) (Szz 5) (Szz 8) (Szz 9) (Szz 10) pl a1zz a2 = some y1 ∧ y1.1 = y2.1 ∧ I (fset (fset (fset (fset (fset (fset Szz 0 y1.2.1) 3 y1.2.2.1) 8 y1.2.2.2.1) 9 y1.2.2.2.2.1) 10 y1.2.2.2.2.2) 14 y2.2) pl im0 im1))
set_option maxHeartbeats 200000 in
theorem okp_33t : ok_33t JT := by
  intro Szz pl im0 im1 a1zz a2 hJ
  obtain ⟨⟨h14, h20, ht⟩, hpl, h1, h2, h3, h4, h5, h6, h7, h8, h9, h10, h11, h12, h13, hik, hi0zz, hi1⟩ := hJ
  obtain ⟨y2, e2zz, p2zz⟩ := s_X9_centuries (Szz 14) a1zz a2 h14 ⟨by rw [h20]; decide, by rw [h20]; decide⟩
  obtain ⟨y1, e1zz, p1zz⟩ := s_X8_centuries (Szz 0) (Szz 3) (Szz 4) (Szz 5) (Szz 8) (Szz 9) (Szz 10) pl a1zz a2 (rfl : IvX8 (gR (Szz 0) 7) (Szz 0)) h3 h4 h5 h8 h9 h10 hpl
  have tt := tf_cent ht h20 e1zz e2zz (p1zz.2.1.1 13 (by decide)) (p1zz.2.1.1 14 (by decide)) p1zz.1
  exact ⟨y2, e2zz, y1, e1zz, tt.1, ⟨⟨p2zz.2.1, ((p2zz.2.2.1 20 (by decide)).trans h20), tt.2⟩, hpl, h1, h2, p1zz.2.2.1, h4, h5, h6, h7, p1zz.2.2.2.2.1, p1zz.2.2.2.2.2.2.1, p1zz.2.2.2.2.2.2.2.2.1, h11, h12, h13, (IK.eq p1zz.1 hik), hi0zz, hi1⟩⟩
def ok_34t (I : (Nat → Ob) → List CR → Option IR → Option IR → Prop) : Prop := ∀ (Szz : Nat → Ob) (pl : List CR) (im0 im1 : Option IR) (a1zz : Int32) (a2 : Int32), I Szz pl im0 im1 → ∃ y2 : Int32 × Ob, f_X9_drawn (Szz 14) a1zz a2 = some y2 ∧ ((∃ y1 : Int32, f_X8_drawn (Szz 0) (Szz 8) (Szz 9) a1zz a2 = some y1 ∧ y1 = y2.1 ∧ I (fset Szz 14 y2.2) pl im0 im1))
set_option maxHeartbeats 200000 in
theorem okp_34t : ok_34t JT := by
  intro Szz pl im0 im1 a1zz a2 hJ
  obtain ⟨⟨h14, h20, ht⟩, hpl, h1, h2, h3, h4, h5, h6, h7, h8, h9, h10, h11, h12, h13, hik, hi0zz, hi1⟩ := hJ
  obtain ⟨y2, e2zz, p2zz⟩ := s_X9_drawn (Szz 14) a1zz a2 h14 
  obtain ⟨y1, e1zz, p1zz⟩ := s_X8_drawn (Szz 0) (Szz 8) (Szz 9) a1zz a2 (rfl : IvX8 (gR (Szz 0) 7) (Szz 0)) h8 h9
  exact ⟨y2, e2zz, y1, e1zz, tf_drawn ht e1zz e2zz, ⟨⟨p2zz.1, ((p2zz.2.1 20 (by decide)).trans h20), ht.rd (fr_f_X9_drawn e2zz) rfl⟩, hpl, h1, h2, h3, h4, h5, h6, h7, h8, h9, h10, h11, h12, h13, hik, hi0zz, hi1⟩⟩
def ok_35t (I : (Nat → Ob) → List CR → Option IR → Option IR → Prop) : Prop := ∀ (Szz : Nat → Ob) (pl : List CR) (im0 im1 : Option IR) (a1zz : Int32), I Szz pl im0 im1 → ∃ y2 : Int32 × Ob, f_X9_image (Szz 14) a1zz = some y2 ∧ ((∃ y1 : Int32 × Ob, f_X8_image_R (Szz 0) a1zz = some y1 ∧ I (fset (fset Szz 0 y1.2) 14 y2.2) pl im0 im1) ∨ (∃ r9 : IR, im0 = some r9 ∧ gR (Szz 0) 7 a1zz.toNatClampNeg = some r9.1 ∧ ∃ y1 : Int32 × Ob × Ob × Ob, f_X8_image_O (Szz 0) (Szz 4) (Szz 5) pl r9.2.2.2.2.2.2.1 r9.2.2.2.2.2.2.2 a1zz = some y1 ∧ I (fset (fset Szz 0 y1.2.1) 14 y2.2) pl (some (r9.1, r9.2.1, r9.2.2.1, r9.2.2.2.1, r9.2.2.2.2.1, r9.2.2.2.2.2.1, y1.2.2.1, y1.2.2.2)) im1) ∨ (∃ r9 : IR, im1 = some r9 ∧ gR (Szz 0) 7 a1zz.toNatClampNeg = some r9.1 ∧ ∃ y1 : Int32 × Ob × Ob × Ob, f_X8_image_O (Szz 0) (Szz 4) (Szz 5) pl r9.2.2.2.2.2.2.1 r9.2.2.2.2.2.2.2 a1zz = some y1 ∧ I (fset (fset Szz 0 y1.2.1) 14 y2.2) pl im0 (some (r9.1, r9.2.1, r9.2.2.1, r9.2.2.2.1, r9.2.2.2.2.1, r9.2.2.2.2.2.1, y1.2.2.1, y1.2.2.2))) ∨ (im0 = none ∧ (gR (Szz 0) 7 a1zz.toNatClampNeg = none) ∧ (zin a1zz 2 = true) ∧ (f_X8_image_a (Szz 0) a1zz = some ()) ∧ (∀ azz : Nat, ∃ yzz, f_X8_image_b (Szz 4) (Szz 5) pl (tR (Szz 0) 7 a1zz.toNatClampNeg (some azz)) ob2 ob0 = some yzz) ∧ ∀ xzz : Nat × Nat × (Nat → Nat) × (Nat → ClassIdzz) × (Nat → Nat) × (Nat → ClassIdzz) × Int32 × Ob × Ob × Ob, (fun xzz => f_X8_image_b (Szz 4) (Szz 5) pl (tR (Szz 0) 7 a1zz.toNatClampNeg (some xzz.1)) ob2 ob0 = some xzz.2.2.2.2.2.2) xzz → I (fset (fset Szz 0 xzz.2.2.2.2.2.2.2.1) 14 y2.2) pl (some (xzz.1, xzz.2.1, xzz.2.2.1, xzz.2.2.2.1, xzz.2.2.2.2.1, xzz.2.2.2.2.2.1, xzz.2.2.2.2.2.2.2.2.1, xzz.2.2.2.2.2.2.2.2.2)) im1) ∨ (im1 = none ∧ (gR (Szz 0) 7 a1zz.toNatClampNeg = none) ∧ (zin a1zz 2 = true) ∧ (f_X8_image_a (Szz 0) a1zz = some ()) ∧ (∀ azz : Nat, ∃ yzz, f_X8_image_b (Szz 4) (Szz 5) pl (tR (Szz 0) 7 a1zz.toNatClampNeg (some azz)) ob2 ob0 = some yzz) ∧ ∀ xzz : Nat × Nat × (Nat → Nat) × (Nat → ClassIdzz) × (Nat → Nat) × (Nat → ClassIdzz) × Int32 × Ob × Ob × Ob, (fun xzz => f_X8_image_b (Szz 4) (Szz 5) pl (tR (Szz 0) 7 a1zz.toNatClampNeg (some xzz.1)) ob2 ob0 = some xzz.2.2.2.2.2.2) xzz → I (fset (fset Szz 0 xzz.2.2.2.2.2.2.2.1) 14 y2.2) pl im0 (some (xzz.1, xzz.2.1, xzz.2.2.1, xzz.2.2.2.1, xzz.2.2.2.2.1, xzz.2.2.2.2.2.1, xzz.2.2.2.2.2.2.2.2.1, xzz.2.2.2.2.2.2.2.2.2))))
set_option maxHeartbeats 200000 in
theorem okp_35t : ok_35t JT := by
  intro Szz pl im0 im1 a1zz hJ
  obtain ⟨⟨h14, h20, ht⟩, hpl, h1, h2, h3, h4, h5, h6, h7, h8, h9, h10, h11, h12, h13, hik, hi0zz, hi1⟩ := hJ
  obtain ⟨y2, e2zz, p2zz⟩ := s_X9_image (Szz 14) a1zz h14 
  refine ⟨y2, e2zz, ?_⟩
  obtain ⟨z1, ez1, g1, -⟩ := s_X8_refuse (Szz 0) (-1) (rfl : IvX8 (gR (Szz 0) 7) (Szz 0))
  have href : bk_X8_image_R_9 (Szz 0) = some (z1.1, z1.2) := by
    unfold bk_X8_image_R_9
    rw [ez1]; rfl
  by_cases c1zz : a1zz < (0 : Int32)
  · have tt := tf_img_no ht (by have c1zz := cv_lt (a := a1zz.toInt) (b := 0) rfl (by decide) c1zz; omega) ez1 e2zz
    refine Or.inl ⟨(z1.1, z1.2), ?_, ⟨⟨p2zz.1, ((p2zz.2.1 20 (by decide)).trans h20), tt.2⟩, hpl, h1, h2, h3, h4, h5, h6, h7, h8, h9, h10, h11, h12, h13, IK.eq g1 hik, hi0zz, hi1⟩⟩
    unfold f_X8_image_R
    rw [if_pos c1zz]; exact href
  by_cases c2zz : a1zz < (2 : Int32)
  rotate_left
  · have tt := tf_img_no ht (by have c2zz := cv_nlt (a := a1zz.toInt) (b := 2) rfl (by decide) c2zz; omega) ez1 e2zz
    refine Or.inl ⟨(z1.1, z1.2), ?_, ⟨⟨p2zz.1, ((p2zz.2.1 20 (by decide)).trans h20), tt.2⟩, hpl, h1, h2, h3, h4, h5, h6, h7, h8, h9, h10, h11, h12, h13, IK.eq g1 hik, hi0zz, hi1⟩⟩
    unfold f_X8_image_R
    rw [if_neg c1zz, if_neg c2zz]; exact href
  have d1zz := cv_nlt (a := a1zz.toInt) (b := 0) rfl (by decide) c1zz
  have d2zz := cv_lt (a := a1zz.toInt) (b := 2) rfl (by decide) c2zz
  have hz : zin a1zz 2 = true := zin_of (m := 2) rfl (by omega) (by omega)
  obtain ⟨kzz, ek⟩ : ∃ kzz : Nat, a1zz.toInt = (kzz : Int) := ⟨a1zz.toInt.toNat, by omega⟩
  have hk : kzz < 2 := by omega
  have ik : a1zz.toNatClampNeg = kzz := tnc_eq ek
  obtain ⟨q4zz, q4', q3zz, q5zz⟩ := image9 e2zz ek hk
  have hset : ∀ {oi onzz : Ob} {zzz : Ob × Ob}, f_X2_set_O oi onzz pl (Szz 4) (Szz 5) = some zzz → Tia pl zzz.1 zzz.2 (fun jzz => gA y2.2 4 (5484 * kzz + jzz)) := fun hzz => Tia.cp hzz ht.2.2.2.2.2.2.1 (fun jzz hj => q4zz jzz hj)
  have himO : ∀ oi onzz : Ob, IvX2 pl oi → IvX4 onzz → ∃ (z4 : Ob × Ob) (z5 : Int32 × Ob), f_X2_set_O oi onzz pl (Szz 4) (Szz 5) = some z4 ∧ f_X8_grant (Szz 0) 0 = some z5 ∧ f_X8_image_O (Szz 0) (Szz 4) (Szz 5) pl oi onzz a1zz = some (z5.1, z5.2, z4.1, z4.2) ∧ IvX8 (gR (Szz 0) 7) z5.2 ∧ IvX2 pl z4.1 ∧ IvX4 z4.2 := by
    intro oi onzz hoi hon
    obtain ⟨z4, e4zz, q1zz, -, q2zz, -⟩ := s_X2_set_O oi onzz pl (Szz 4) (Szz 5) hoi hon hpl h4 h5
    obtain ⟨z5, e5zz, q3zz, -⟩ := s_X8_grant (Szz 0) 0 (rfl : IvX8 (gR (Szz 0) 7) (Szz 0))
    refine ⟨z4, z5, e4zz, e5zz, ?_, q3zz, q1zz, q2zz⟩
    unfold f_X8_image_O
    rw [if_neg c1zz, if_pos c2zz, hz, e4zz]
    show ((f_X8_grant (Szz 0) 0).bind fun z5 => some (z5.1, z5.2, z4.1, z4.2)) = _
    rw [e5zz]; rfl
  have hima : f_X8_image_a (Szz 0) a1zz = some () := by
    unfold f_X8_image_a
    rw [if_neg c1zz, if_pos c2zz, hz]; rfl
  have himb : ∀ azz : Nat, ∃ yzz, f_X8_image_b (Szz 4) (Szz 5) pl (tR (Szz 0) 7 a1zz.toNatClampNeg (some azz)) ob2 ob0 = some yzz ∧ IvX8 (gR (tR (Szz 0) 7 a1zz.toNatClampNeg (some azz)) 7) yzz.2.1 ∧ IvX2 pl yzz.2.2.1 ∧ IvX4 yzz.2.2.2 := fun azz => h_imgb pl hpl (Szz 4) (Szz 5) _ ob2 ob0 h4 h5 (iv2_0 pl) iv4_0
  have hnew : ∀ {o0' : Ob} {azz : Nat}, IvX8 (gR (tR (Szz 0) 7 a1zz.toNatClampNeg (some azz)) 7) o0' → ∀ jzz, gR o0' 7 jzz = if jzz = kzz then some azz else gR (Szz 0) 7 jzz := fun wzz jzz => by
    have wzz := congrFun wzz jzz
    rw [ik] at wzz
    exact wzz
  have hold : ∀ {o0' : Ob} {azz : Nat}, IvX8 (gR (Szz 0) 7) o0' → gR (Szz 0) 7 kzz = some azz → ∀ jzz, gR o0' 7 jzz = if jzz = kzz then some azz else gR (Szz 0) 7 jzz := fun wzz qzz jzz => by
    have wzz := congrFun wzz jzz
    by_cases czz : jzz = kzz
    · rw [if_pos czz, wzz, czz, qzz]
    · rw [if_neg czz]; exact wzz
  have h2n : ∀ {o0' : Ob} {azz : Nat}, (∀ jzz, gR o0' 7 jzz = if jzz = kzz then some azz else gR (Szz 0) 7 jzz) → ∀ jzz, 2 ≤ jzz → gR o0' 7 jzz = none := fun wzz jzz hj => by
    rw [wzz jzz, if_neg (by omega)]; exact hik.1 jzz hj
  obtain ⟨s, hs, ta, tbzz⟩ := ht.2.2.2.2.2.2.2.2
  rcases (show kzz = s ∨ s = 1 - kzz by omega) with es | es
  · rw [← es] at ta tbzz
    rcases opt_c im0 with e0zz | ⟨rzz, e0zz⟩
    · subst e0zz
      have qzz : gR (Szz 0) 7 a1zz.toNatClampNeg = none := by rw [ik]; exact (ta.1 rfl).1
      refine Or.inr (Or.inr (Or.inr (Or.inl ⟨rfl, qzz, hz, hima, fun azz => ?_, fun xzz hx => ?_⟩)))
      · obtain ⟨yzz, ey, -⟩ := himb azz; exact ⟨yzz, ey⟩
      · obtain ⟨yzz, ey, w1zz, w2zz, w3zz⟩ := himb xzz.1
        obtain ⟨kg, kszz⟩ := image_b2 ey
        have exy : yzz = xzz.2.2.2.2.2.2 := Option.some.inj (ey.symm.trans hx)
        have w4zz := hset kszz
        rw [exy] at w1zz w2zz w3zz w4zz kg
        have tm : TimF pl xzz.2.2.2.2.2.2.2.1 y2.2 (some (xzz.1, xzz.2.1, xzz.2.2.1, xzz.2.2.2.1, xzz.2.2.2.2.1, xzz.2.2.2.2.2.1, xzz.2.2.2.2.2.2.2.2.1, xzz.2.2.2.2.2.2.2.2.2)) im1 := TimF.put0 hk ta tbzz (hnew w1zz) q5zz q4' w4zz
        have tt := tf_img_ok ht ⟨d1zz, by omega⟩ ⟨fun _ => rfl, fun _ => rfl⟩ kg e2zz tm
        refine ⟨⟨p2zz.1, ((p2zz.2.1 20 (by decide)).trans h20), tt.2⟩, hpl, h1, h2, h3, h4, h5, h6, h7, h8, h9, h10, h11, h12, h13, tm.ik (h2n (hnew w1zz)), fun rzz hr => ?_, hi1⟩
        rw [← Option.some.inj hr]; exact ⟨w2zz, w3zz⟩
    · have qzz : gR (Szz 0) 7 a1zz.toNatClampNeg = some rzz.1 := by rw [ik]; exact (ta.2 rzz e0zz).1
      obtain ⟨z4, z5, e4zz, e5zz, ey1, w1zz, w2zz, w3zz⟩ := himO _ _ (hi0zz rzz e0zz).1 (hi0zz rzz e0zz).2
      subst e0zz
      have tm : TimF pl z5.2 y2.2 (some (rzz.1, rzz.2.1, rzz.2.2.1, rzz.2.2.2.1, rzz.2.2.2.2.1, rzz.2.2.2.2.2.1, z4.1, z4.2)) im1 := TimF.put0 hk ta tbzz (hold w1zz (by rw [← ik]; exact qzz)) q5zz q4' (hset e4zz)
      have tt := tf_img_ok ht ⟨d1zz, by omega⟩ ⟨fun _ => rfl, fun _ => rfl⟩ e5zz e2zz tm
      refine Or.inr (Or.inl ⟨rzz, rfl, qzz, _, ey1, ⟨⟨p2zz.1, ((p2zz.2.1 20 (by decide)).trans h20), tt.2⟩, hpl, h1, h2, h3, h4, h5, h6, h7, h8, h9, h10, h11, h12, h13, IK.eq w1zz (hik.rep0 rfl), fun r' hr => ?_, hi1⟩⟩)
      rw [← Option.some.inj hr]; exact ⟨w2zz, w3zz⟩
  · have es' : 1 - s = kzz := by omega
    rw [es'] at tbzz
    rw [es] at ta
    rcases opt_c im1 with e0zz | ⟨rzz, e0zz⟩
    · subst e0zz
      have qzz : gR (Szz 0) 7 a1zz.toNatClampNeg = none := by rw [ik]; exact (tbzz.1 rfl).1
      refine Or.inr (Or.inr (Or.inr (Or.inr ⟨rfl, qzz, hz, hima, fun azz => ?_, fun xzz hx => ?_⟩)))
      · obtain ⟨yzz, ey, -⟩ := himb azz; exact ⟨yzz, ey⟩
      · obtain ⟨yzz, ey, w1zz, w2zz, w3zz⟩ := himb xzz.1
        obtain ⟨kg, kszz⟩ := image_b2 ey
        have exy : yzz = xzz.2.2.2.2.2.2 := Option.some.inj (ey.symm.trans hx)
        have w4zz := hset kszz
        rw [exy] at w1zz w2zz w3zz w4zz kg
        have tm : TimF pl xzz.2.2.2.2.2.2.2.1 y2.2 im0 (some (xzz.1, xzz.2.1, xzz.2.2.1, xzz.2.2.2.1, xzz.2.2.2.2.1, xzz.2.2.2.2.2.1, xzz.2.2.2.2.2.2.2.2.1, xzz.2.2.2.2.2.2.2.2.2)) := TimF.put1 hk ta tbzz (hnew w1zz) q5zz q4' w4zz
        have tt := tf_img_ok ht ⟨d1zz, by omega⟩ ⟨fun _ => rfl, fun _ => rfl⟩ kg e2zz tm
        refine ⟨⟨p2zz.1, ((p2zz.2.1 20 (by decide)).trans h20), tt.2⟩, hpl, h1, h2, h3, h4, h5, h6, h7, h8, h9, h10, h11, h12, h13, tm.ik (h2n (hnew w1zz)), hi0zz, fun rzz hr => ?_⟩
        rw [← Option.some.inj hr]; exact ⟨w2zz, w3zz⟩
    · have qzz : gR (Szz 0) 7 a1zz.toNatClampNeg = some rzz.1 := by rw [ik]; exact (tbzz.2 rzz e0zz).1
      obtain ⟨z4, z5, e4zz, e5zz, ey1, w1zz, w2zz, w3zz⟩ := himO _ _ (hi1 rzz e0zz).1 (hi1 rzz e0zz).2
      subst e0zz
      have tm : TimF pl z5.2 y2.2 im0 (some (rzz.1, rzz.2.1, rzz.2.2.1, rzz.2.2.2.1, rzz.2.2.2.2.1, rzz.2.2.2.2.2.1, z4.1, z4.2)) := TimF.put1 hk ta tbzz (hold w1zz (by rw [← ik]; exact qzz)) q5zz q4' (hset e4zz)
      have tt := tf_img_ok ht ⟨d1zz, by omega⟩ ⟨fun _ => rfl, fun _ => rfl⟩ e5zz e2zz tm
      refine Or.inr (Or.inr (Or.inl ⟨rzz, rfl, qzz, _, ey1, ⟨⟨p2zz.1, ((p2zz.2.1 20 (by decide)).trans h20), tt.2⟩, hpl, h1, h2, h3, h4, h5, h6, h7, h8, h9, h10, h11, h12, h13, IK.eq w1zz (hik.rep1 rfl), hi0zz, fun r' hr => ?_⟩⟩))
      rw [← Option.some.inj hr]; exact ⟨w2zz, w3zz⟩
def ok_36t (I : (Nat → Ob) → List CR → Option IR → Option IR → Prop) : Prop := ∀ (Szz : Nat → Ob) (pl : List CR) (im0 im1 : Option IR) (a1zz : Int32), I Szz pl im0 im1 → ∃ y2 : Int32 × Ob, f_X9_back (Szz 14) a1zz = some y2 ∧ ((gR (Szz 0) 7 a1zz.toNatClampNeg = none ∧ ∃ y1 : Int32 × Ob, f_X8_back_N (Szz 0) a1zz = some y1 ∧ I (fset (fset Szz 0 y1.2) 14 y2.2) pl im0 im1) ∨ (∃ r9 : IR, im0 = some r9 ∧ gR (Szz 0) 7 a1zz.toNatClampNeg = some r9.1 ∧ ∃ y1 : Int32 × Ob × Ob × Ob × Ob, f_X8_back_O (Szz 0) (Szz 4) (Szz 5) (Szz 11) pl r9.2.2.2.2.2.2.1 r9.2.2.2.2.2.2.2 a1zz = some y1 ∧ I (fset (fset (fset (fset (fset Szz 0 y1.2.1) 4 y1.2.2.1) 5 y1.2.2.2.1) 11 y1.2.2.2.2) 14 y2.2) pl (some r9) im1) ∨ (∃ r9 : IR, im1 = some r9 ∧ gR (Szz 0) 7 a1zz.toNatClampNeg = some r9.1 ∧ ∃ y1 : Int32 × Ob × Ob × Ob × Ob, f_X8_back_O (Szz 0) (Szz 4) (Szz 5) (Szz 11) pl r9.2.2.2.2.2.2.1 r9.2.2.2.2.2.2.2 a1zz = some y1 ∧ I (fset (fset (fset (fset (fset Szz 0 y1.2.1) 4 y1.2.2.1) 5 y1.2.2.2.1) 11 y1.2.2.2.2) 14 y2.2) pl im0 (some r9)))
set_option maxHeartbeats 200000 in
theorem okp_36t : ok_36t JT := by
  intro Szz pl im0 im1 a1zz hJ
  obtain ⟨⟨h14, h20, ht⟩, hpl, h1, h2, h3, h4, h5, h6, h7, h8, h9, h10, h11, h12, h13, hik, hi0zz, hi1⟩ := hJ
  obtain ⟨y2, e2zz, p2zz⟩ := s_X9_back (Szz 14) a1zz h14 
  refine ⟨y2, e2zz, ?_⟩
  obtain ⟨z1, ez1, g1, -⟩ := s_X8_refuse (Szz 0) (-1) (rfl : IvX8 (gR (Szz 0) 7) (Szz 0))
  have hn9 : bk_X8_back_N_9 (Szz 0) = some (z1.1, z1.2) := by
    unfold bk_X8_back_N_9
    rw [ez1]; rfl
  have hNzz : ∃ y1 : Int32 × Ob, f_X8_back_N (Szz 0) a1zz = some y1 ∧ IvX8 (gR (Szz 0) 7) y1.2 := by
    unfold f_X8_back_N
    by_cases c1zz : a1zz < (0 : Int32)
    · rw [if_pos c1zz]; exact ⟨_, hn9, g1⟩
    · rw [if_neg c1zz]
      by_cases c2zz : a1zz < (2 : Int32)
      · have d1zz := cv_nlt (a := a1zz.toInt) (b := 0) rfl (by decide) c1zz
        have d2zz := cv_lt (a := a1zz.toInt) (b := 2) rfl (by decide) c2zz
        have hz : zin a1zz 2 = true := zin_of (m := 2) rfl (by omega) (by omega)
        obtain ⟨z3, ez3, g3zz, -⟩ := s_X8_refuse (Szz 0) (-2) (rfl : IvX8 (gR (Szz 0) 7) (Szz 0))
        rw [if_pos c2zz, hz, ez3]
        exact ⟨(z3.1, z3.2), rfl, g3zz⟩
      · rw [if_neg c2zz]; exact ⟨_, hn9, g1⟩
  have hO : ∀ oi onzz : Ob, IvX2 pl oi → IvX4 onzz → ∃ y1 : Int32 × Ob × Ob × Ob × Ob, f_X8_back_O (Szz 0) (Szz 4) (Szz 5) (Szz 11) pl oi onzz a1zz = some y1 ∧ IvX8 (gR (Szz 0) 7) y1.2.1 ∧ IvX2 pl y1.2.2.1 ∧ IvX4 y1.2.2.2.1 ∧ IvX5 y1.2.2.2.2 := by
    intro oi onzz hoi hon
    have h9' : bk_X8_back_O_9 pl oi onzz (Szz 0) (Szz 4) (Szz 5) (Szz 11) = some (z1.1, z1.2, Szz 4, Szz 5, Szz 11) := by
      unfold bk_X8_back_O_9
      rw [ez1]; rfl
    unfold f_X8_back_O
    by_cases c1zz : a1zz < (0 : Int32)
    · rw [if_pos c1zz]; exact ⟨_, h9', g1, h4, h5, h11⟩
    · rw [if_neg c1zz]
      by_cases c2zz : a1zz < (2 : Int32)
      · have d1zz := cv_nlt (a := a1zz.toInt) (b := 0) rfl (by decide) c1zz
        have d2zz := cv_lt (a := a1zz.toInt) (b := 2) rfl (by decide) c2zz
        have hz : zin a1zz 2 = true := zin_of (m := 2) rfl (by omega) (by omega)
        obtain ⟨z4, e4zz, q1zz, -, q2zz, -⟩ := s_X2_set_O (Szz 4) (Szz 5) pl oi onzz h4 h5 hpl hoi hon
        obtain ⟨z5, e5zz, q3zz, -⟩ := s_X5_clear (Szz 11) h11
        obtain ⟨z6, e6zz, q4zz, -⟩ := s_X8_grant (Szz 0) 0 (rfl : IvX8 (gR (Szz 0) 7) (Szz 0))
        refine ⟨(z6.1, z6.2, z4.1, z4.2, z5), ?_, q4zz, q1zz, q2zz, q3zz⟩
        rw [if_pos c2zz, hz, e4zz]
        show ((f_X5_clear (Szz 11)).bind fun z5 => (f_X8_grant (Szz 0) 0).bind fun z6 => some (z6.1, z6.2, z4.1, z4.2, z5)) = _
        rw [e5zz]
        show ((f_X8_grant (Szz 0) 0).bind fun z6 => some (z6.1, z6.2, z4.1, z4.2, z5)) = _
        rw [e6zz]; rfl
      · rw [if_neg c2zz]; exact ⟨_, h9', g1, h4, h5, h11⟩
  have hcase : gR (Szz 0) 7 a1zz.toNatClampNeg = none ∨ (∃ rzz : IR, im0 = some rzz ∧ gR (Szz 0) 7 a1zz.toNatClampNeg = some rzz.1 ∧ ¬ gA (Szz 14) 5 a1zz.toNatClampNeg = 0 ∧ Tia pl rzz.2.2.2.2.2.2.1 rzz.2.2.2.2.2.2.2 (fun jzz => gA (Szz 14) 4 (5484 * a1zz.toNatClampNeg + jzz))) ∨ (∃ rzz : IR, im1 = some rzz ∧ gR (Szz 0) 7 a1zz.toNatClampNeg = some rzz.1 ∧ ¬ gA (Szz 14) 5 a1zz.toNatClampNeg = 0 ∧ Tia pl rzz.2.2.2.2.2.2.1 rzz.2.2.2.2.2.2.2 (fun jzz => gA (Szz 14) 4 (5484 * a1zz.toNatClampNeg + jzz))) := by
    rcases (show a1zz.toNatClampNeg < 2 ∨ 2 ≤ a1zz.toNatClampNeg by omega) with hzz | hzz
    · obtain ⟨s, hs, ta, tbzz⟩ := ht.2.2.2.2.2.2.2.2
      rcases (show a1zz.toNatClampNeg = s ∨ a1zz.toNatClampNeg = 1 - s by omega) with ezz | ezz
      · rw [ezz]
        rcases opt_c im0 with e0zz | ⟨rzz, e0zz⟩
        · exact Or.inl (ta.1 e0zz).1
        · exact Or.inr (Or.inl ⟨rzz, e0zz, ta.2 rzz e0zz⟩)
      · rw [ezz]
        rcases opt_c im1 with e0zz | ⟨rzz, e0zz⟩
        · exact Or.inl (tbzz.1 e0zz).1
        · exact Or.inr (Or.inr ⟨rzz, e0zz, tbzz.2 rzz e0zz⟩)
    · exact Or.inl (hik.1 _ hzz)
  rcases hcase with qzz | ⟨rzz, er, qzz, r5zz, rt⟩ | ⟨rzz, er, qzz, r5zz, rt⟩
  · obtain ⟨y1, ey1, w1zz⟩ := hNzz
    have tt := tf_backN ht ey1 e2zz qzz
    exact Or.inl ⟨qzz, y1, ey1, ⟨⟨p2zz.1, ((p2zz.2.1 20 (by decide)).trans h20), tt.2⟩, hpl, h1, h2, h3, h4, h5, h6, h7, h8, h9, h10, h11, h12, h13, IK.eq w1zz hik, hi0zz, hi1⟩⟩
  · obtain ⟨y1, ey1, w1zz, w2zz, w3zz, w4zz⟩ := hO _ _ (hi0zz rzz er).1 (hi0zz rzz er).2
    have tt := tf_backO ht ey1 e2zz r5zz rt
    subst er
    exact Or.inr (Or.inl ⟨rzz, rfl, qzz, y1, ey1, ⟨⟨p2zz.1, ((p2zz.2.1 20 (by decide)).trans h20), tt.2⟩, hpl, h1, h2, h3, w2zz, w3zz, h6, h7, h8, h9, h10, w4zz, h12, h13, IK.eq w1zz hik, hi0zz, hi1⟩⟩)
  · obtain ⟨y1, ey1, w1zz, w2zz, w3zz, w4zz⟩ := hO _ _ (hi1 rzz er).1 (hi1 rzz er).2
    have tt := tf_backO ht ey1 e2zz r5zz rt
    subst er
    exact Or.inr (Or.inr ⟨rzz, rfl, qzz, y1, ey1, ⟨⟨p2zz.1, ((p2zz.2.1 20 (by decide)).trans h20), tt.2⟩, hpl, h1, h2, h3, w2zz, w3zz, h6, h7, h8, h9, h10, w4zz, h12, h13, IK.eq w1zz hik, hi0zz, hi1⟩⟩)
def ok_37t (I : (Nat → Ob) → List CR → Option IR → Option IR → Prop) : Prop := ∀ (Szz : Nat → Ob) (pl : List CR) (im0 im1 : Option IR) (a1zz : Int32), I Szz pl im0 im1 → ∃ y2 : Int32 × Ob, f_X9_count (Szz 14) a1zz = some y2 ∧ ((∃ y1 : Int32, f_X8_count (Szz 0) (Szz 1) (Szz 4) (Szz 5) (Szz 11) a1zz = some y1 ∧ y1 = y2.1 ∧ I (fset Szz 14 y2.2) pl im0 im1))
set_option maxHeartbeats 200000 in
theorem okp_37t : ok_37t JT := by
  intro Szz pl im0 im1 a1zz hJ
  obtain ⟨⟨h14, h20, ht⟩, hpl, h1, h2, h3, h4, h5, h6, h7, h8, h9, h10, h11, h12, h13, hik, hi0zz, hi1⟩ := hJ
  obtain ⟨y2, e2zz, p2zz⟩ := s_X9_count (Szz 14) a1zz h14 
  obtain ⟨y1, e1zz, p1zz⟩ := s_X8_count (Szz 0) (Szz 1) (Szz 4) (Szz 5) (Szz 11) a1zz (rfl : IvX8 (gR (Szz 0) 7) (Szz 0)) h1 h4 h5 h11
  exact ⟨y2, e2zz, y1, e1zz, tf_count ht e1zz e2zz, ⟨⟨p2zz.1, ((p2zz.2.1 20 (by decide)).trans h20), ht.rd (fr_f_X9_count e2zz) rfl⟩, hpl, h1, h2, h3, h4, h5, h6, h7, h8, h9, h10, h11, h12, h13, hik, hi0zz, hi1⟩⟩
def ok_38t (I : (Nat → Ob) → List CR → Option IR → Option IR → Prop) : Prop := ∀ (Szz : Nat → Ob) (pl : List CR) (im0 im1 : Option IR), I Szz pl im0 im1 → ∃ y2 : Int32 × Ob, f_X9_status (Szz 14) = some y2 ∧ ((∃ y1 : Int32, f_X8_status (Szz 0) = some y1 ∧ y1 = y2.1 ∧ I (fset Szz 14 y2.2) pl im0 im1))
set_option maxHeartbeats 200000 in
theorem okp_38t : ok_38t JT := by
  intro Szz pl im0 im1  hJ
  obtain ⟨⟨h14, h20, ht⟩, hpl, h1, h2, h3, h4, h5, h6, h7, h8, h9, h10, h11, h12, h13, hik, hi0zz, hi1⟩ := hJ
  obtain ⟨y2, e2zz, p2zz⟩ := s_X9_status (Szz 14)  h14 
  obtain ⟨y1, e1zz, p1zz⟩ := s_X8_status (Szz 0)  (rfl : IvX8 (gR (Szz 0) 7) (Szz 0))
  exact ⟨y2, e2zz, y1, e1zz, tf_status ht e1zz e2zz, ⟨⟨p2zz.1, ((p2zz.2.1 20 (by decide)).trans h20), ht.rd (fr_f_X9_status e2zz) rfl⟩, hpl, h1, h2, h3, h4, h5, h6, h7, h8, h9, h10, h11, h12, h13, hik, hi0zz, hi1⟩⟩
set_option maxHeartbeats 200000 in
theorem bit_0 : ∀ qzz, qzz < 7 → ((0 : Int32) >>> ((Int32.ofNat qzz) &&& 31)) &&& (1 : Int32) = 0 := by decide +kernel
set_option maxHeartbeats 200000 in
theorem tzm_0 {mv : Ob} {Gzz : Nat → Int32} (a0zz : ∀ jzz, jzz < 7 → gA mv 0 jzz = 0) (a1zz : ∀ jzz, jzz < 7 → gA mv 1 jzz = 0) (i2zz : gI mv 2 = 0) (i3zz : gI mv 3 = 0) (i4zz : gI mv 4 = 0) (hG : ∀ jzz, 4 ≤ jzz → jzz < 29 → jzz ≠ 5 → Gzz jzz = 0) : TzM mv Gzz := by
  refine ⟨fun jzz hj => ?_, fun jzz hj => ?_, ?_, ?_, fun pzz h1 h2 => ?_, by rw [i2zz]; decide, by rw [i2zz]; decide⟩
  · rw [a0zz jzz hj, hG _ (by omega) (by omega) (by omega)]; decide
  · rw [a1zz jzz hj, hG _ (by omega) (by omega) (by omega)]; decide
  · rw [i3zz, hG _ (by omega) (by omega) (by omega)]; decide
  · rw [i4zz, hG _ (by omega) (by omega) (by omega)]; decide
  · obtain ⟨qzz, eq⟩ : ∃ qzz : Nat, pzz.toInt = (qzz : Int) := ⟨pzz.toInt.toNat, by omega⟩
    have iq : pzz.toNatClampNeg = qzz := tnc_eq eq
    rw [iq, i2zz, hG (22 + qzz) (by omega) (by omega) (by omega), i32_of eq (by omega), bit_0 qzz (by omega)]
set_option maxHeartbeats 200000 in
theorem tf_0 : TF [] (S0 0) (S0 1) (S0 4) (S0 5) (S0 8) (S0 9) (S0 11) (S0 14) none none := by
  have r0 : ∀ jzz, jzz ≠ 3 → jzz ≠ 5 → gA (S0 14) 3 jzz = 0 := fun jzz azz bzz => row0_z azz bzz
  have g0 : (gA (S0 14) 3 0).toInt = 0 := by decide
  have g2 : (gA (S0 14) 3 2).toInt = 0 := by decide
  have e9zz : (gI (S0 4) 7).toInt = 0 := by decide
  refine ⟨⟨rfl, rfl⟩, rfl, ⟨⟨by decide +kernel, by decide +kernel⟩, by decide +kernel, by decide +kernel⟩, ⟨rfl, fun _ _ => rfl⟩, rfl, ⟨Or.inr ⟨by decide, by decide⟩, ?_⟩, ⟨?_, ?_, ?_, ?_⟩, PaT.emp rfl rfl rfl, 0, by decide, ⟨fun _ => ⟨rfl, rfl⟩, fun rzz qzz => by cases qzz⟩, ⟨fun _ => ⟨rfl, rfl⟩, fun rzz qzz => by cases qzz⟩⟩
  · exact tzm_0 (fun _ _ => rfl) (fun _ _ => rfl) rfl rfl rfl (fun _ _ _ _ => rfl)
  · exact ⟨(r0 0 (by decide) (by decide)).symm, (r0 1 (by decide) (by decide)).symm, fun jzz _ => (r0 (29 + jzz) (by omega) (by omega)).symm, fun jzz _ => (r0 (64 + jzz) (by omega) (by omega)).symm, fun _ _ _ => rfl, fun jzz _ => (r0 (36 + jzz) (by omega) (by omega)).symm, fun _ _ _ => rfl, fun jzz hj _ => by omega⟩
  · refine ⟨⟨⟨(r0 0 (by decide) (by decide)).symm, by omega, by omega⟩, fun jzz hj => ?_, (r0 6 (by decide) (by decide)).symm⟩, ⟨(r0 2 (by decide) (by decide)).symm, by omega, by omega⟩, ⟨by decide, by decide, by decide⟩, ⟨by decide, by decide, by decide⟩, fun jzz hj => ⟨(r0 (71 + 2 * jzz) (by omega) (by omega)).symm, (r0 (72 + 2 * jzz) (by omega) (by omega)).symm⟩, fun l hl => by omega⟩
    rw [r0 (36 + jzz) (by omega) (by omega)]
    exact ⟨rfl, by decide, by decide⟩
  · exact tzm_0 (fun _ _ => rfl) (fun _ _ => rfl) rfl rfl rfl (fun jzz h1 h2 h3 => r0 jzz (by omega) h3)
  · intro jzz hj
    exact r0 jzz (by omega) (by omega)
