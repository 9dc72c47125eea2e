def lb_X9_law_145   (rec_145_3 : Int32 × Int32 × Ob → Option (Int32 × Ob)) (v1 : Int32) (v2 : Int32) (o_me : Ob) : Option (Int32 × Ob) :=
  if (gI o_me 23) ≤ v2 then
  (zlt (tA o_me 3 (2 : Int32).toNatClampNeg ((gA o_me 3 (2 : Int32).toNatClampNeg) + (1 : Int32))) fun o8 =>
  (f_X9_tell o8 ((gA o8 3 (2 : Int32).toNatClampNeg) - (1 : Int32))).bind fun z9 =>
  some (z9.1, z9.2))
  else
  (zgd (zin v2 400) <|
  zgd (zin ((v1 + (98 : Int32)) + ((2 : Int32) * v2)) 5484) <|
  zlt (tA o_me 3 ((v1 + (98 : Int32)) + ((2 : Int32) * v2)).toNatClampNeg (gA o_me 24 v2.toNatClampNeg)) fun o12 =>
  zgd (zin v2 400) <|
  zgd (zin (((v1 + (98 : Int32)) + ((2 : Int32) * v2)) + (1 : Int32)) 5484) <|
  zlt (tA o12 3 (((v1 + (98 : Int32)) + ((2 : Int32) * v2)) + (1 : Int32)).toNatClampNeg (gA o12 25 v2.toNatClampNeg)) fun o15 =>
  zlt (v2 + (1 : Int32)) fun x16 =>
  rec_145_3 (v1, x16, o15))
def lp_X9_law_145   : Nat → (Int32 × Int32 × Ob) → Option (Int32 × Ob) := zit (fun rec a => lb_X9_law_145   rec a.1 a.2.1 a.2.2)
def lb_X9_law_110   (rec_110_2 : Int32 × Int32 × Ob → Option (Int32 × Ob)) (v1 : Int32) (v2 : Int32) (o_me : Ob) : Option (Int32 × Ob) :=
  if ((8 : Int32) * (gI o_me 21)) ≤ v2 then
  (lp_X9_law_145   zfu (v1, (0 : Int32), o_me))
  else
  (zgd (zin v2 96) <|
  zgd (zin ((v1 + (2 : Int32)) + v2) 5484) <|
  zlt (tA o_me 3 ((v1 + (2 : Int32)) + v2).toNatClampNeg (gA o_me 22 v2.toNatClampNeg)) fun o19 =>
  zlt (v2 + (1 : Int32)) fun x20 =>
  rec_110_2 (v1, x20, o19))
def lp_X9_law_110   : Nat → (Int32 × Int32 × Ob) → Option (Int32 × Ob) := zit (fun rec a => lb_X9_law_110   rec a.1 a.2.1 a.2.2)
def bk_X9_law_64   (o_me : Ob) : Option (Int32 × Ob) :=
  (f_X9_endText o_me).bind fun z4 =>
  if (gI z4 19) = (0 : Int32) then
  (zlt ((84 : Int32) + ((900 : Int32) * (gA z4 3 (2 : Int32).toNatClampNeg))) fun x5 =>
  zgd (zin (x5 + (1 : Int32)) 5484) <|
  zlt (tA z4 3 (x5 + (1 : Int32)).toNatClampNeg (gI z4 21)) fun o7 =>
  lp_X9_law_110   zfu (x5, (0 : Int32), o7))
  else
  ((f_X9_tell z4 (-6 : Int32)).bind fun z21 =>
  some (z21.1, z21.2))
def lb_X9_law_37   (rec_37_0 : Ob → Option (Int32 × Ob)) (o_me : Ob) : Option (Int32 × Ob) :=
  if (gI o_me 19) = (0 : Int32) then
  ((f_X9_isSign o_me (59 : Int32)).bind fun z22 =>
  if z22 = (0 : Int32) then
  (bk_X9_law_64   o_me)
  else
  ((f_X9_next o_me).bind fun z23 =>
  (f_X9_readLaw z23).bind fun z24 =>
  rec_37_0 z24))
  else
  (bk_X9_law_64   o_me)
def lp_X9_law_37   : Nat → Ob → Option (Int32 × Ob) := zit (fun rec a => lb_X9_law_37   rec a)
def f_X9_law (o_me : Ob) : Option (Int32 × Ob) :=
  zlt (sI o_me 0 (0 : Int32)) fun o1 =>
  if (gA o1 3 (2 : Int32).toNatClampNeg) = (6 : Int32) then
  (zlt (sI o1 13 (0 : Int32)) fun o25 =>
  (f_X9_tell o25 (-5 : Int32)).bind fun z26 =>
  some (z26.1, z26.2))
  else
  ((f_X9_beginText o1 (0 : Int32)).bind fun z2 =>
  (f_X9_readLaw z2).bind fun z3 =>
  lp_X9_law_37   zfu z3)
set_option maxHeartbeats 4000000 in
set_option maxRecDepth 100000 in
theorem m_X9_law (l : Launch) (dC : Nat → ClassId) (dI : Nat → Nat → Nat) (sz : Nat) (h_me : Nat) (q_me : Nat → Nat) (k_me : Nat → ClassId) (o_me : Ob) (y : Int32 × Ob) (h : f_X9_law o_me = some y) : CI l yX9_law cX9_law 3 (some .int) ({ frames := 8, cells := 0, slots := 0, locals := 174 } : Room) dC dI sz [.ref h_me] [wX9 h_me q_me k_me o_me] [tX9 k_me] y.1 [wX9 h_me q_me k_me y.2] := by
  refine CC_of (by decide) (Nat.le_of_ble_eq_true rfl) ?_
  intro p e s m below meth c A ls hx hb hml hr hlk hnm hown hts hX hK hP hD hA hl
  have hl : lv_has ls 3 [(0, .ref h_me)] := hl
  have hown : s.vm.findClass RX9 = some m.cls := hown
  have hw : Wd dC dI A s.heap [wX9 h_me q_me k_me o_me] s.heap [] := ⟨hP, hD, va_S.rf⟩
  generalize hQz : (MQ below (QI dC dI (fun r (_ : Unit) => r = y.1) (fun _ => Jn [wX9 h_me q_me k_me y.2]) (fun _ => Jt [tX9 k_me]) A) ([.ref h_me] : List Value).toArray s 0 0 A) = Qz
  clear hP hD hnm
  have lp_145_3 : ∀ (N : Nat), ∀ (v1 : Int32) (v2 : Int32) (o_me : Ob) (H : Heap) (locs : List Loc) (ls : Array Slot), lp_X9_law_145   N (v1, v2, o_me) = some y → Wd dC dI A s.heap [wX9 h_me q_me k_me o_me] H locs → lv_has ls 3 [(0, .ref h_me), (1, .int v1), (2, .int v2)] → W p l e ({ frames := 8, cells := 0, slots := 0, locals := 174 } : Room) s m ([.ref h_me] : List Value).toArray below meth c H locs 0 0 Qz (F0 m 145 ls []) := by
    intro N
    induction N with
    | zero =>
      intro v1 v2 o_me H locs ls h hw hl
      exact absurd (show (none : Option (Int32 × Ob)) = some y from h) (by simp)
    | succ N ih =>
      intro v1 v2 o_me H locs ls h hw hl
      have h : lb_X9_law_145   (lp_X9_law_145   N) v1 v2 o_me = some y := h
      unfold lb_X9_law_145 at h
      refine lv_iload_n hx hb dX9_law_145 rfl (lv_at hl 2 rfl) ?_
      refine lv_aload_n hx hb dX9_law_146 rfl (lv_at hl 0 rfl) ?_
      refine fgX9_23 hx hb hts hown hK hw 0 rfl kw1199 dX9_law_147 ?_
      refine lv_icmp_ge (tgt := 199) hx hb dX9_law_150 (by decide) (fun c => ?_) (fun c => ?_)
      · have h := z_t h c
        refine lv_aload_n hx hb dX9_law_199 rfl (lv_at hl 0 rfl) ?_
        refine fgX9_3 hx hb hts hown hK hw 0 rfl kw1179 dX9_law_200 ?_
        refine lv_iconst (v := 2) hx hb dX9_law_203 (by decide) ?_
        refine lv_dup2_11 hx hb dX9_law_204 rfl rfl ?_
        refine faX9_3 hx hb hK hw 0 rfl rfl (by decide) dX9_law_205 ?_
        refine lv_iconst (v := 1) hx hb dX9_law_206 (by decide) ?_
        refine lv_iadd hx hb dX9_law_207 ?_
        refine fbX9_3 hx hb hK hw 0 rfl rfl (by decide) dX9_law_208 (fun H locs hw => ?_)
        obtain ⟨o8, eo8, h⟩ := z_lt h
        have hw : Wd dC dI A s.heap [wX9 h_me q_me k_me o8] H locs := by rw [eo8]; exact hw
        refine lv_aload_n hx hb dX9_law_209 rfl (lv_at hl 0 rfl) ?_
        refine lv_aload_n hx hb dX9_law_210 rfl (lv_at hl 0 rfl) ?_
        refine fgX9_3 hx hb hts hown hK hw 0 rfl kw1179 dX9_law_211 ?_
        refine lv_iconst (v := 2) hx hb dX9_law_214 (by decide) ?_
        refine faX9_3 hx hb hK hw 0 rfl rfl (by decide) dX9_law_215 ?_
        refine lv_iconst (v := 1) hx hb dX9_law_216 (by decide) ?_
        refine lv_isub hx hb dX9_law_217 ?_
        obtain ⟨z9, ez9, h⟩ := z_bd h
        refine xj_i (xrV (As := [.int ((gA o8 3 (2 : Int32).toNatClampNeg) - (1 : Int32))]) (rest := []) ⟨hx, hb, hml, hown, hts⟩ (m_X9_tell l dC dI _ h_me q_me k_me o8 ((gA o8 3 (2 : Int32).toNatClampNeg) - (1 : Int32)) z9 ez9) kw1374 kw1371 kw1373 kw39 kw120 hd_X9_tell ⟨rfl, rfl⟩ rfl rfl ⟨rfl, rfl⟩ hX hK hw [0] (by decide) rfl rfl rfl rfl rfl hl.1 rfl rfl dX9_law_218) hw hA [0] (by decide) rfl rfl (fun H locs hw => ?_)
        have hw : Wd dC dI A s.heap [wX9 h_me q_me k_me z9.2] H locs := hw
        have hy := Option.some.inj h
        rw [← hQz, ← hy]
        exact xr_i (v := z9.1) hx hb hr rfl hlk hK hw dX9_law_221
      · have h := z_f h c
        refine lv_aload_n hx hb dX9_law_153 rfl (lv_at hl 0 rfl) ?_
        refine fgX9_3 hx hb hts hown hK hw 0 rfl kw1179 dX9_law_154 ?_
        refine lv_iload_n hx hb dX9_law_157 rfl (lv_at hl 1 rfl) ?_
        refine lv_bipush (v := 98) hx hb dX9_law_158 (by decide) ?_
        refine lv_iadd hx hb dX9_law_160 ?_
        refine lv_iconst (v := 2) hx hb dX9_law_161 (by decide) ?_
        refine lv_iload_n hx hb dX9_law_162 rfl (lv_at hl 2 rfl) ?_
        refine lv_imul hx hb dX9_law_163 ?_
        refine lv_iadd hx hb dX9_law_164 ?_
        refine lv_aload_n hx hb dX9_law_165 rfl (lv_at hl 0 rfl) ?_
        refine fgX9_24 hx hb hts hown hK hw 0 rfl kw1200 dX9_law_166 ?_
        refine lv_iload_n hx hb dX9_law_169 rfl (lv_at hl 2 rfl) ?_
        obtain ⟨g10, h⟩ := z_gd h
        refine faX9_24 hx hb hK hw 0 rfl rfl g10 dX9_law_170 ?_
        obtain ⟨g11, h⟩ := z_gd h
        refine fbX9_3 hx hb hK hw 0 rfl rfl g11 dX9_law_171 (fun H locs hw => ?_)
        obtain ⟨o12, eo12, h⟩ := z_lt h
        have hw : Wd dC dI A s.heap [wX9 h_me q_me k_me o12] H locs := by rw [eo12]; exact hw
        refine lv_aload_n hx hb dX9_law_172 rfl (lv_at hl 0 rfl) ?_
        refine fgX9_3 hx hb hts hown hK hw 0 rfl kw1179 dX9_law_173 ?_
        refine lv_iload_n hx hb dX9_law_176 rfl (lv_at hl 1 rfl) ?_
        refine lv_bipush (v := 98) hx hb dX9_law_177 (by decide) ?_
        refine lv_iadd hx hb dX9_law_179 ?_
        refine lv_iconst (v := 2) hx hb dX9_law_180 (by decide) ?_
        refine lv_iload_n hx hb dX9_law_181 rfl (lv_at hl 2 rfl) ?_
        refine lv_imul hx hb dX9_law_182 ?_
        refine lv_iadd hx hb dX9_law_183 ?_
        refine lv_iconst (v := 1) hx hb dX9_law_184 (by decide) ?_
        refine lv_iadd hx hb dX9_law_185 ?_
        refine lv_aload_n hx hb dX9_law_186 rfl (lv_at hl 0 rfl) ?_
        refine fgX9_25 hx hb hts hown hK hw 0 rfl kw1201 dX9_law_187 ?_
        refine lv_iload_n hx hb dX9_law_190 rfl (lv_at hl 2 rfl) ?_
        obtain ⟨g13, h⟩ := z_gd h
        refine faX9_25 hx hb hK hw 0 rfl rfl g13 dX9_law_191 ?_
        obtain ⟨g14, h⟩ := z_gd h
        refine fbX9_3 hx hb hK hw 0 rfl rfl g14 dX9_law_192 (fun H locs hw => ?_)
        obtain ⟨o15, eo15, h⟩ := z_lt h
        have hw : Wd dC dI A s.heap [wX9 h_me q_me k_me o15] H locs := by rw [eo15]; exact hw
        obtain ⟨x16, ex16, h⟩ := z_lt h
        refine lv_iinc (v := x16) (lv' := [(2, .int x16), (0, .ref h_me), (1, .int v1)]) hx hb dX9_law_193 hl (k := 2) rfl ((congrArg (v2 + ·) (show Int32.ofInt 1 = (1 : Int32) from by decide)).trans ex16.symm) (by decide) rfl (fun ls hl => ?_)
        refine lv_goto (tgt := 145) hx hb dX9_law_196 (by decide) ?_
        exact ih v1 x16 o15 _ _ _ h hw (lv_sub hl [1, 2, 0] rfl)
  have lp_110_2 : ∀ (N : Nat), ∀ (v1 : Int32) (v2 : Int32) (o_me : Ob) (H : Heap) (locs : List Loc) (ls : Array Slot), lp_X9_law_110   N (v1, v2, o_me) = some y → Wd dC dI A s.heap [wX9 h_me q_me k_me o_me] H locs → lv_has ls 3 [(0, .ref h_me), (1, .int v1), (2, .int v2)] → W p l e ({ frames := 8, cells := 0, slots := 0, locals := 174 } : Room) s m ([.ref h_me] : List Value).toArray below meth c H locs 0 0 Qz (F0 m 110 ls []) := by
    intro N
    induction N with
    | zero =>
      intro v1 v2 o_me H locs ls h hw hl
      exact absurd (show (none : Option (Int32 × Ob)) = some y from h) (by simp)
    | succ N ih =>
      intro v1 v2 o_me H locs ls h hw hl
      have h : lb_X9_law_110   (lp_X9_law_110   N) v1 v2 o_me = some y := h
      unfold lb_X9_law_110 at h
      refine lv_iload_n hx hb dX9_law_110 rfl (lv_at hl 2 rfl) ?_
      refine lv_bipush (v := 8) hx hb dX9_law_111 (by decide) ?_
      refine lv_aload_n hx hb dX9_law_113 rfl (lv_at hl 0 rfl) ?_
      refine fgX9_21 hx hb hts hown hK hw 0 rfl kw1197 dX9_law_114 ?_
      refine lv_imul hx hb dX9_law_117 ?_
      refine lv_icmp_ge (tgt := 143) hx hb dX9_law_118 (by decide) (fun c => ?_) (fun c => ?_)
      · have h := z_t h c
        refine lv_iconst (v := 0) hx hb dX9_law_143 (by decide) ?_
        refine lv_istore_n (lv' := [(2, .int (0 : Int32)), (0, .ref h_me), (1, .int v1)]) hx hb dX9_law_144 rfl hl (by decide) rfl (fun ls hl => ?_)
        exact lp_145_3  zfu v1 (0 : Int32) o_me _ _ _ h hw (lv_sub hl [1, 2, 0] rfl)
      · have h := z_f h c
        refine lv_aload_n hx hb dX9_law_121 rfl (lv_at hl 0 rfl) ?_
        refine fgX9_3 hx hb hts hown hK hw 0 rfl kw1179 dX9_law_122 ?_
        refine lv_iload_n hx hb dX9_law_125 rfl (lv_at hl 1 rfl) ?_
        refine lv_iconst (v := 2) hx hb dX9_law_126 (by decide) ?_
        refine lv_iadd hx hb dX9_law_127 ?_
        refine lv_iload_n hx hb dX9_law_128 rfl (lv_at hl 2 rfl) ?_
        refine lv_iadd hx hb dX9_law_129 ?_
        refine lv_aload_n hx hb dX9_law_130 rfl (lv_at hl 0 rfl) ?_
        refine fgX9_22 hx hb hts hown hK hw 0 rfl kw1198 dX9_law_131 ?_
        refine lv_iload_n hx hb dX9_law_134 rfl (lv_at hl 2 rfl) ?_
        obtain ⟨g17, h⟩ := z_gd h
        refine faX9_22 hx hb hK hw 0 rfl rfl g17 dX9_law_135 ?_
        obtain ⟨g18, h⟩ := z_gd h
        refine fbX9_3 hx hb hK hw 0 rfl rfl g18 dX9_law_136 (fun H locs hw => ?_)
        obtain ⟨o19, eo19, h⟩ := z_lt h
        have hw : Wd dC dI A s.heap [wX9 h_me q_me k_me o19] H locs := by rw [eo19]; exact hw
        obtain ⟨x20, ex20, h⟩ := z_lt h
        refine lv_iinc (v := x20) (lv' := [(2, .int x20), (0, .ref h_me), (1, .int v1)]) hx hb dX9_law_137 hl (k := 2) rfl ((congrArg (v2 + ·) (show Int32.ofInt 1 = (1 : Int32) from by decide)).trans ex20.symm) (by decide) rfl (fun ls hl => ?_)
        refine lv_goto (tgt := 110) hx hb dX9_law_140 (by decide) ?_
        exact ih v1 x20 o19 _ _ _ h hw (lv_sub hl [1, 2, 0] rfl)
  have bk_64_1 : ∀ (o_me : Ob) (H : Heap) (locs : List Loc) (ls : Array Slot), bk_X9_law_64   o_me = some y → Wd dC dI A s.heap [wX9 h_me q_me k_me o_me] H locs → lv_has ls 3 [(0, .ref h_me)] → W p l e ({ frames := 8, cells := 0, slots := 0, locals := 174 } : Room) s m ([.ref h_me] : List Value).toArray below meth c H locs 0 0 Qz (F0 m 64 ls []) := by
    intro o_me H locs ls h hw hl
    unfold bk_X9_law_64 at h
    refine lv_aload_n hx hb dX9_law_64 rfl (lv_at hl 0 rfl) ?_
    obtain ⟨z4, ez4, h⟩ := z_bd h
    refine xj_v (xrV (As := []) (rest := []) ⟨hx, hb, hml, hown, hts⟩ (m_X9_endText l dC dI _ h_me q_me k_me o_me z4 ez4) kw1615 kw1612 kw1614 kw75 kw120 hd_X9_endText ⟨rfl, rfl⟩ rfl rfl ⟨rfl, rfl⟩ hX hK hw [0] (by decide) rfl rfl rfl rfl rfl hl.1 rfl rfl dX9_law_65) hw hA [0] (by decide) rfl rfl (fun H locs hw => ?_)
    have hw : Wd dC dI A s.heap [wX9 h_me q_me k_me z4] H locs := hw
    refine lv_aload_n hx hb dX9_law_68 rfl (lv_at hl 0 rfl) ?_
    refine fgX9_19 hx hb hts hown hK hw 0 rfl kw1195 dX9_law_69 ?_
    refine lv_if_eq (tgt := 82) hx hb dX9_law_72 (by decide) (fun c => ?_) (fun c => ?_)
    · have h := z_t h c
      refine lv_bipush (v := 84) hx hb dX9_law_82 (by decide) ?_
      refine lv_sipush (v := 900) hx hb dX9_law_84 (by decide) ?_
      refine lv_aload_n hx hb dX9_law_87 rfl (lv_at hl 0 rfl) ?_
      refine fgX9_3 hx hb hts hown hK hw 0 rfl kw1179 dX9_law_88 ?_
      refine lv_iconst (v := 2) hx hb dX9_law_91 (by decide) ?_
      refine faX9_3 hx hb hK hw 0 rfl rfl (by decide) dX9_law_92 ?_
      refine lv_imul hx hb dX9_law_93 ?_
      refine lv_iadd hx hb dX9_law_94 ?_
      obtain ⟨x5, ex5, h⟩ := z_lt h
      refine lv_fi (v := x5) ex5.symm ?_
      refine lv_istore_n (lv' := [(1, .int x5), (0, .ref h_me)]) hx hb dX9_law_95 rfl hl (by decide) rfl (fun ls hl => ?_)
      refine lv_aload_n hx hb dX9_law_96 rfl (lv_at hl 1 rfl) ?_
      refine fgX9_3 hx hb hts hown hK hw 0 rfl kw1179 dX9_law_97 ?_
      refine lv_iload_n hx hb dX9_law_100 rfl (lv_at hl 0 rfl) ?_
      refine lv_iconst (v := 1) hx hb dX9_law_101 (by decide) ?_
      refine lv_iadd hx hb dX9_law_102 ?_
      refine lv_aload_n hx hb dX9_law_103 rfl (lv_at hl 1 rfl) ?_
      refine fgX9_21 hx hb hts hown hK hw 0 rfl kw1197 dX9_law_104 ?_
      obtain ⟨g6, h⟩ := z_gd h
      refine fbX9_3 hx hb hK hw 0 rfl rfl g6 dX9_law_107 (fun H locs hw => ?_)
      obtain ⟨o7, eo7, h⟩ := z_lt h
      have hw : Wd dC dI A s.heap [wX9 h_me q_me k_me o7] H locs := by rw [eo7]; exact hw
      refine lv_iconst (v := 0) hx hb dX9_law_108 (by decide) ?_
      refine lv_istore_n (lv' := [(2, .int (0 : Int32)), (1, .int x5), (0, .ref h_me)]) hx hb dX9_law_109 rfl hl (by decide) rfl (fun ls hl => ?_)
      exact lp_110_2  zfu x5 (0 : Int32) o7 _ _ _ h hw (lv_sub hl [2, 1, 0] rfl)
    · have h := z_f h c
      refine lv_aload_n hx hb dX9_law_75 rfl (lv_at hl 0 rfl) ?_
      refine lv_bipush (v := (-6)) hx hb dX9_law_76 (by decide) ?_
      obtain ⟨z21, ez21, h⟩ := z_bd h
      refine xj_i (xrV (As := [.int (-6 : Int32)]) (rest := []) ⟨hx, hb, hml, hown, hts⟩ (m_X9_tell l dC dI _ h_me q_me k_me z4 (-6 : Int32) z21 ez21) kw1374 kw1371 kw1373 kw39 kw120 hd_X9_tell ⟨rfl, rfl⟩ rfl rfl ⟨rfl, rfl⟩ hX hK hw [0] (by decide) rfl rfl rfl rfl rfl hl.1 rfl rfl dX9_law_78) hw hA [0] (by decide) rfl rfl (fun H locs hw => ?_)
      have hw : Wd dC dI A s.heap [wX9 h_me q_me k_me z21.2] H locs := hw
      have hy := Option.some.inj h
      rw [← hQz, ← hy]
      exact xr_i (v := z21.1) hx hb hr rfl hlk hK hw dX9_law_81
  have lp_37_0 : ∀ (N : Nat), ∀ (o_me : Ob) (H : Heap) (locs : List Loc) (ls : Array Slot), lp_X9_law_37   N o_me = some y → Wd dC dI A s.heap [wX9 h_me q_me k_me o_me] H locs → lv_has ls 3 [(0, .ref h_me)] → W p l e ({ frames := 8, cells := 0, slots := 0, locals := 174 } : Room) s m ([.ref h_me] : List Value).toArray below meth c H locs 0 0 Qz (F0 m 37 ls []) := by
    intro N
    induction N with
    | zero =>
      intro o_me H locs ls h hw hl
      exact absurd (show (none : Option (Int32 × Ob)) = some y from h) (by simp)
    | succ N ih =>
      intro o_me H locs ls h hw hl
      have h : lb_X9_law_37   (lp_X9_law_37   N) o_me = some y := h
      unfold lb_X9_law_37 at h
      refine lv_aload_n hx hb dX9_law_37 rfl (lv_at hl 0 rfl) ?_
      refine fgX9_19 hx hb hts hown hK hw 0 rfl kw1195 dX9_law_38 ?_
      refine lv_if_ne (tgt := 64) hx hb dX9_law_41 (by decide) (fun c => ?_) (fun c => ?_)
      · have h := z_f h c
        exact bk_64_1  o_me _ _ _ h hw (lv_sub hl [0] rfl)
      · have h := z_t h c
        refine lv_aload_n hx hb dX9_law_44 rfl (lv_at hl 0 rfl) ?_
        refine lv_bipush (v := 59) hx hb dX9_law_45 (by decide) ?_
        obtain ⟨z22, ez22, h⟩ := z_bd h
        refine xj_i (xrV (As := [.int (59 : Int32)]) (rest := []) ⟨hx, hb, hml, hown, hts⟩ (m_X9_isSign l dC dI _ h_me q_me k_me o_me (59 : Int32) z22 ez22) kw1551 kw1548 kw1550 kw62 kw120 hd_X9_isSign ⟨rfl, rfl⟩ rfl rfl ⟨rfl, rfl⟩ hX hK hw [0] (by decide) rfl rfl rfl rfl rfl hl.1 rfl rfl dX9_law_47) hw hA [0] (by decide) rfl rfl (fun H locs hw => ?_)
        have hw : Wd dC dI A s.heap [wX9 h_me q_me k_me o_me] H locs := hw
        refine lv_if_eq (tgt := 64) hx hb dX9_law_50 (by decide) (fun c => ?_) (fun c => ?_)
        · have h := z_t h c
          exact bk_64_1  o_me _ _ _ h hw (lv_sub hl [0] rfl)
        · have h := z_f h c
          refine lv_aload_n hx hb dX9_law_53 rfl (lv_at hl 0 rfl) ?_
          obtain ⟨z23, ez23, h⟩ := z_bd h
          refine xj_v (xrV (As := []) (rest := []) ⟨hx, hb, hml, hown, hts⟩ (m_X9_next l dC dI _ h_me q_me k_me o_me z23 ez23) kw1512 kw1509 kw1511 kw55 kw120 hd_X9_next ⟨rfl, rfl⟩ rfl rfl ⟨rfl, rfl⟩ hX hK hw [0] (by decide) rfl rfl rfl rfl rfl hl.1 rfl rfl dX9_law_54) hw hA [0] (by decide) rfl rfl (fun H locs hw => ?_)
          have hw : Wd dC dI A s.heap [wX9 h_me q_me k_me z23] H locs := hw
          refine lv_aload_n hx hb dX9_law_57 rfl (lv_at hl 0 rfl) ?_
          obtain ⟨z24, ez24, h⟩ := z_bd h
          refine xj_v (xrV (As := []) (rest := []) ⟨hx, hb, hml, hown, hts⟩ (m_X9_readLaw l dC dI _ h_me q_me k_me z23 z24 ez24) kw1526 kw1523 kw1525 kw56 kw120 hd_X9_readLaw ⟨rfl, rfl⟩ rfl rfl ⟨rfl, rfl⟩ hX hK hw [0] (by decide) rfl rfl rfl rfl rfl hl.1 rfl rfl dX9_law_58) hw hA [0] (by decide) rfl rfl (fun H locs hw => ?_)
          have hw : Wd dC dI A s.heap [wX9 h_me q_me k_me z24] H locs := hw
          refine lv_goto (tgt := 37) hx hb dX9_law_61 (by decide) ?_
          exact ih z24 _ _ _ h hw (lv_sub hl [0] rfl)
  unfold f_X9_law at h
  refine lv_aload_n hx hb dX9_law_0 rfl (lv_at hl 0 rfl) ?_
  refine lv_iconst (v := 0) hx hb dX9_law_1 (by decide) ?_
  refine fpX9_0 hx hb hts hown hK hw 0 rfl kw1176 dX9_law_2 (fun H locs hw => ?_)
  obtain ⟨o1, eo1, h⟩ := z_lt h
  have hw : Wd dC dI A s.heap [wX9 h_me q_me k_me o1] H locs := by rw [eo1]; exact hw
  refine lv_aload_n hx hb dX9_law_5 rfl (lv_at hl 0 rfl) ?_
  refine fgX9_3 hx hb hts hown hK hw 0 rfl kw1179 dX9_law_6 ?_
  refine lv_iconst (v := 2) hx hb dX9_law_9 (by decide) ?_
  refine faX9_3 hx hb hK hw 0 rfl rfl (by decide) dX9_law_10 ?_
  refine lv_bipush (v := 6) hx hb dX9_law_11 (by decide) ?_
  refine lv_icmp_ne (tgt := 28) hx hb dX9_law_13 (by decide) (fun c => ?_) (fun c => ?_)
  · have h := z_f h c
    refine lv_aload_n hx hb dX9_law_28 rfl (lv_at hl 0 rfl) ?_
    refine lv_iconst (v := 0) hx hb dX9_law_29 (by decide) ?_
    obtain ⟨z2, ez2, h⟩ := z_bd h
    refine xj_v (xrV (As := [.int (0 : Int32)]) (rest := []) ⟨hx, hb, hml, hown, hts⟩ (m_X9_beginText l dC dI _ h_me q_me k_me o1 (0 : Int32) z2 ez2) kw1504 kw1501 kw1503 kw53 kw120 hd_X9_beginText ⟨rfl, rfl⟩ rfl rfl ⟨rfl, rfl⟩ hX hK hw [0] (by decide) rfl rfl rfl rfl rfl hl.1 rfl rfl dX9_law_30) hw hA [0] (by decide) rfl rfl (fun H locs hw => ?_)
    have hw : Wd dC dI A s.heap [wX9 h_me q_me k_me z2] H locs := hw
    refine lv_aload_n hx hb dX9_law_33 rfl (lv_at hl 0 rfl) ?_
    obtain ⟨z3, ez3, h⟩ := z_bd h
    refine xj_v (xrV (As := []) (rest := []) ⟨hx, hb, hml, hown, hts⟩ (m_X9_readLaw l dC dI _ h_me q_me k_me z2 z3 ez3) kw1526 kw1523 kw1525 kw56 kw120 hd_X9_readLaw ⟨rfl, rfl⟩ rfl rfl ⟨rfl, rfl⟩ hX hK hw [0] (by decide) rfl rfl rfl rfl rfl hl.1 rfl rfl dX9_law_34) hw hA [0] (by decide) rfl rfl (fun H locs hw => ?_)
    have hw : Wd dC dI A s.heap [wX9 h_me q_me k_me z3] H locs := hw
    exact lp_37_0  zfu z3 _ _ _ h hw (lv_sub hl [0] rfl)
  · have h := z_t h c
    refine lv_aload_n hx hb dX9_law_16 rfl (lv_at hl 0 rfl) ?_
    refine lv_iconst (v := 0) hx hb dX9_law_17 (by decide) ?_
    refine fpX9_13 hx hb hts hown hK hw 0 rfl kw1189 dX9_law_18 (fun H locs hw => ?_)
    obtain ⟨o25, eo25, h⟩ := z_lt h
    have hw : Wd dC dI A s.heap [wX9 h_me q_me k_me o25] H locs := by rw [eo25]; exact hw
    refine lv_aload_n hx hb dX9_law_21 rfl (lv_at hl 0 rfl) ?_
    refine lv_bipush (v := (-5)) hx hb dX9_law_22 (by decide) ?_
    obtain ⟨z26, ez26, h⟩ := z_bd h
    refine xj_i (xrV (As := [.int (-5 : Int32)]) (rest := []) ⟨hx, hb, hml, hown, hts⟩ (m_X9_tell l dC dI _ h_me q_me k_me o25 (-5 : Int32) z26 ez26) kw1374 kw1371 kw1373 kw39 kw120 hd_X9_tell ⟨rfl, rfl⟩ rfl rfl ⟨rfl, rfl⟩ hX hK hw [0] (by decide) rfl rfl rfl rfl rfl hl.1 rfl rfl dX9_law_24) hw hA [0] (by decide) rfl rfl (fun H locs hw => ?_)
    have hw : Wd dC dI A s.heap [wX9 h_me q_me k_me z26.2] H locs := hw
    have hy := Option.some.inj h
    rw [← hQz, ← hy]
    exact xr_i (v := z26.1) hx hb hr rfl hlk hK hw dX9_law_27

def f_X9_leftBy (o_me : Ob) (p0 : Int32) (p1 : Int32) : Option (Int32) :=
  (f_X9_is p0 p1).bind fun z1 =>
  if z1 = (0 : Int32) then
  (zgd (zin ((64 : Int32) + p1) 5484) <|
  (f_X9_ones ((gA o_me 3 ((64 : Int32) + p1).toNatClampNeg) &&& p0)).bind fun z3 =>
  zgd (zin (p0 ||| ((1 : Int32) <<< (p1 &&& 31))) 128) <|
  some (z3 + (gA o_me 46 (p0 ||| ((1 : Int32) <<< (p1 &&& 31))).toNatClampNeg)))
  else
  (some (100000000 : Int32))
set_option maxHeartbeats 4000000 in
set_option maxRecDepth 100000 in
theorem m_X9_leftBy (l : Launch) (dC : Nat → ClassId) (dI : Nat → Nat → Nat) (sz : Nat) (h_me : Nat) (q_me : Nat → Nat) (k_me : Nat → ClassId) (o_me : Ob) (p0 : Int32) (p1 : Int32) (y : Int32) (h : f_X9_leftBy o_me p0 p1 = some y) : CI l yX9_leftBy cX9_leftBy 3 (some .int) ({ frames := 1, cells := 0, slots := 0, locals := 22 } : Room) dC dI sz [.ref h_me, .int p0, .int p1] [wX9 h_me q_me k_me o_me] [tX9 k_me] y [wX9 h_me q_me k_me o_me] := by
  refine CC_of (by decide) (Nat.le_of_ble_eq_true rfl) ?_
  intro p e s m below meth c A ls hx hb hml hr hlk hnm hown hts hX hK hP hD hA hl
  have hl : lv_has ls 3 [(0, .ref h_me), (1, .int p0), (2, .int p1)] := hl
  have hown : s.vm.findClass RX9 = some m.cls := hown
  have hw : Wd dC dI A s.heap [wX9 h_me q_me k_me o_me] s.heap [] := ⟨hP, hD, va_S.rf⟩
  generalize hQz : (MQ below (QI dC dI (fun r (_ : Unit) => r = y) (fun _ => Jn [wX9 h_me q_me k_me o_me]) (fun _ => Jt [tX9 k_me]) A) ([.ref h_me, .int p0, .int p1] : List Value).toArray s 0 0 A) = Qz
  clear hP hD hnm
  unfold f_X9_leftBy at h
  refine lv_iload_n hx hb dX9_leftBy_0 rfl (lv_at hl 1 rfl) ?_
  refine lv_iload_n hx hb dX9_leftBy_1 rfl (lv_at hl 2 rfl) ?_
  obtain ⟨z1, ez1, h⟩ := z_bd h
  refine xj_i (xrS (As := [.int p0, .int p1]) (rest := []) ⟨hx, hb, hml, hown, hts⟩ (m_X9_is l dC dI _  p0 p1 z1 ez1) kw1704 kw1702 kw1703 kw120 hd_X9_is ⟨rfl, rfl⟩ rfl rfl ⟨rfl, rfl⟩ hX hK hw [] (by decide) rfl rfl hl.1 rfl rfl dX9_leftBy_2) hw hA [] (by decide) rfl rfl (fun H locs hw => ?_)
  refine lv_if_eq (tgt := 14) hx hb dX9_leftBy_5 (by decide) (fun c => ?_) (fun c => ?_)
  · have h := z_t h c
    refine lv_aload_n hx hb dX9_leftBy_14 rfl (lv_at hl 0 rfl) ?_
    refine fgX9_3 hx hb hts hown hK hw 0 rfl kw1179 dX9_leftBy_15 ?_
    refine lv_bipush (v := 64) hx hb dX9_leftBy_18 (by decide) ?_
    refine lv_iload_n hx hb dX9_leftBy_20 rfl (lv_at hl 2 rfl) ?_
    refine lv_iadd hx hb dX9_leftBy_21 ?_
    obtain ⟨g2, h⟩ := z_gd h
    refine faX9_3 hx hb hK hw 0 rfl rfl g2 dX9_leftBy_22 ?_
    refine lv_iload_n hx hb dX9_leftBy_23 rfl (lv_at hl 1 rfl) ?_
    refine lv_iand hx hb dX9_leftBy_24 ?_
    obtain ⟨z3, ez3, h⟩ := z_bd h
    refine xj_i (xrS (As := [.int ((gA o_me 3 ((64 : Int32) + p1).toNatClampNeg) &&& p0)]) (rest := []) ⟨hx, hb, hml, hown, hts⟩ (m_X9_ones l dC dI _  ((gA o_me 3 ((64 : Int32) + p1).toNatClampNeg) &&& p0) z3 ez3) kw1707 kw1705 kw1706 kw120 hd_X9_ones ⟨rfl, rfl⟩ rfl rfl ⟨rfl, rfl⟩ hX hK hw [] (by decide) rfl rfl hl.1 rfl rfl dX9_leftBy_25) hw hA [] (by decide) rfl rfl (fun H locs hw => ?_)
    refine lv_aload_n hx hb dX9_leftBy_28 rfl (lv_at hl 0 rfl) ?_
    refine fgX9_46 hx hb hts hown hK hw 0 rfl kw1222 dX9_leftBy_29 ?_
    refine lv_iload_n hx hb dX9_leftBy_32 rfl (lv_at hl 1 rfl) ?_
    refine lv_iconst (v := 1) hx hb dX9_leftBy_33 (by decide) ?_
    refine lv_iload_n hx hb dX9_leftBy_34 rfl (lv_at hl 2 rfl) ?_
    refine lv_ishl hx hb dX9_leftBy_35 ?_
    refine lv_ior hx hb dX9_leftBy_36 ?_
    obtain ⟨g4, h⟩ := z_gd h
    refine faX9_46 hx hb hK hw 0 rfl rfl g4 dX9_leftBy_37 ?_
    refine lv_iadd hx hb dX9_leftBy_38 ?_
    have hy := Option.some.inj h
    rw [← hQz, ← hy]
    exact xr_i (v := z3 + (gA o_me 46 (p0 ||| ((1 : Int32) <<< (p1 &&& 31))).toNatClampNeg)) hx hb hr rfl hlk hK hw dX9_leftBy_39
  · have h := z_f h c
    refine lv_ldcw (v := 100000000) hx hb hown (hts _ kw1701) dX9_leftBy_8 ?_
    refine lv_goto (tgt := 39) hx hb dX9_leftBy_11 (by decide) ?_
    have hy := Option.some.inj h
    rw [← hQz, ← hy]
    exact xr_i (v := (100000000 : Int32)) hx hb hr rfl hlk hK hw dX9_leftBy_39

def bk_X9_layLeft_82  (rec_22_0 : Int32 × Ob → Option (Ob)) (rec_37_1 : Int32 × Int32 × Ob → Option (Ob)) (v2 : Int32) (v3 : Int32) (s0 : Int32) (s1 : Int32) (o_me : Ob) : Option (Ob) :=
  zgd (zin s1 128) <|
  zlt (tA o_me 46 s1.toNatClampNeg s0) fun o12 =>
  zlt (v3 + (1 : Int32)) fun x13 =>
  rec_37_1 (v2, x13, o12)
def lb_X9_layLeft_37  (rec_22_0 : Int32 × Ob → Option (Ob)) (rec_37_1 : Int32 × Int32 × Ob → Option (Ob)) (v2 : Int32) (v3 : Int32) (o_me : Ob) : Option (Ob) :=
  if (gA o_me 3 (0 : Int32).toNatClampNeg) ≤ v3 then
  (zlt (v2 + (-1 : Int32)) fun x7 =>
  rec_22_0 (x7, o_me))
  else
  ((f_X9_leftBy o_me v2 v3).bind fun z8 =>
  zgd (zin v2 128) <|
  if (gA o_me 46 v2.toNatClampNeg) ≤ z8 then
  (zgd (zin v2 128) <|
  bk_X9_layLeft_82  rec_22_0 rec_37_1 v2 v3 (gA o_me 46 v2.toNatClampNeg) v2 o_me)
  else
  (bk_X9_layLeft_82  rec_22_0 rec_37_1 v2 v3 z8 v2 o_me))
def lp_X9_layLeft_37  (rec_22_0 : Int32 × Ob → Option (Ob)) : Nat → (Int32 × Int32 × Ob) → Option (Ob) := zit (fun rec a => lb_X9_layLeft_37  rec_22_0 rec a.1 a.2.1 a.2.2)
def lb_X9_layLeft_22   (rec_22_0 : Int32 × Ob → Option (Ob)) (v2 : Int32) (o_me : Ob) : Option (Ob) :=
  if v2 < (0 : Int32) then
  (some o_me)
  else
  (zgd (zin v2 128) <|
  zlt (tA o_me 46 v2.toNatClampNeg (100000000 : Int32)) fun o6 =>
  lp_X9_layLeft_37  rec_22_0 zfu (v2, (0 : Int32), o6))
def lp_X9_layLeft_22   : Nat → (Int32 × Ob) → Option (Ob) := zit (fun rec a => lb_X9_layLeft_22   rec a.1 a.2)
def f_X9_layLeft (o_me : Ob) : Option (Ob) :=
  zlt (((1 : Int32) <<< ((gA o_me 3 (0 : Int32).toNatClampNeg) &&& 31)) - (1 : Int32)) fun x1 =>
  zgd (zin x1 128) <|
  zlt (tA o_me 46 x1.toNatClampNeg (0 : Int32)) fun o3 =>
  zlt (x1 - (1 : Int32)) fun x4 =>
  lp_X9_layLeft_22   zfu (x4, o3)
set_option maxHeartbeats 4000000 in
set_option maxRecDepth 100000 in
theorem m_X9_layLeft (l : Launch) (dC : Nat → ClassId) (dI : Nat → Nat → Nat) (sz : Nat) (h_me : Nat) (q_me : Nat → Nat) (k_me : Nat → ClassId) (o_me : Ob) (y : Ob) (h : f_X9_layLeft o_me = some y) : CV l yX9_layLeft cX9_layLeft 5 none ({ frames := 2, cells := 0, slots := 0, locals := 44 } : Room) dC dI sz [.ref h_me] [wX9 h_me q_me k_me o_me] [tX9 k_me] [wX9 h_me q_me k_me y] := by
  refine CC_of (by decide) (Nat.le_of_ble_eq_true rfl) ?_
  intro p e s m below meth c A ls hx hb hml hr hlk hnm hown hts hX hK hP hD hA hl
  have hl : lv_has ls 5 [(0, .ref h_me)] := hl
  have hown : s.vm.findClass RX9 = some m.cls := hown
  have hw : Wd dC dI A s.heap [wX9 h_me q_me k_me o_me] s.heap [] := ⟨hP, hD, va_S.rf⟩
  generalize hQz : (MQ below (QV dC dI (fun (_ : Unit) => True) (fun _ => Jn [wX9 h_me q_me k_me y]) (fun _ => Jt [tX9 k_me]) A) ([.ref h_me] : List Value).toArray s 0 0 A) = Qz
  clear hP hD hnm
  have bk_82_2 : ∀ (rec_22_0 : Int32 × Ob → Option (Ob)) (hrec_22_0 : ∀ (v2 : Int32) (o_me : Ob) (H : Heap) (locs : List Loc) (ls : Array Slot), rec_22_0 (v2, o_me) = some y → Wd dC dI A s.heap [wX9 h_me q_me k_me o_me] H locs → lv_has ls 5 [(0, .ref h_me), (2, .int v2)] → W p l e ({ frames := 2, cells := 0, slots := 0, locals := 44 } : Room) s m ([.ref h_me] : List Value).toArray below meth c H locs 0 0 Qz (F0 m 22 ls [])) (rec_37_1 : Int32 × Int32 × Ob → Option (Ob)) (hrec_37_1 : ∀ (v2 : Int32) (v3 : Int32) (o_me : Ob) (H : Heap) (locs : List Loc) (ls : Array Slot), rec_37_1 (v2, v3, o_me) = some y → Wd dC dI A s.heap [wX9 h_me q_me k_me o_me] H locs → lv_has ls 5 [(0, .ref h_me), (2, .int v2), (3, .int v3)] → W p l e ({ frames := 2, cells := 0, slots := 0, locals := 44 } : Room) s m ([.ref h_me] : List Value).toArray below meth c H locs 0 0 Qz (F0 m 37 ls [])), ∀ (v2 : Int32) (v3 : Int32) (s0 : Int32) (s1 : Int32) (o_me : Ob) (H : Heap) (locs : List Loc) (ls : Array Slot), bk_X9_layLeft_82  rec_22_0 rec_37_1 v2 v3 s0 s1 o_me = some y → Wd dC dI A s.heap [wX9 h_me q_me k_me o_me] H locs → lv_has ls 5 [(0, .ref h_me), (2, .int v2), (3, .int v3)] → W p l e ({ frames := 2, cells := 0, slots := 0, locals := 44 } : Room) s m ([.ref h_me] : List Value).toArray below meth c H locs 0 0 Qz (F0 m 82 ls [.int s0, .int s1, .ref (q_me 46)]) := by
    intro rec_22_0 hrec_22_0 rec_37_1 hrec_37_1
    intro v2 v3 s0 s1 o_me H locs ls h hw hl
    unfold bk_X9_layLeft_82 at h
    obtain ⟨g11, h⟩ := z_gd h
    refine fbX9_46 hx hb hK hw 0 rfl rfl g11 dX9_layLeft_82 (fun H locs hw => ?_)
    obtain ⟨o12, eo12, h⟩ := z_lt h
    have hw : Wd dC dI A s.heap [wX9 h_me q_me k_me o12] H locs := by rw [eo12]; exact hw
    obtain ⟨x13, ex13, h⟩ := z_lt h
    refine lv_iinc (v := x13) (lv' := [(3, .int x13), (0, .ref h_me), (2, .int v2)]) hx hb dX9_layLeft_83 hl (k := 2) rfl ((congrArg (v3 + ·) (show Int32.ofInt 1 = (1 : Int32) from by decide)).trans ex13.symm) (by decide) rfl (fun ls hl => ?_)
    refine lv_goto (tgt := 37) hx hb dX9_layLeft_86 (by decide) ?_
    exact hrec_37_1 v2 x13 o12 _ _ _ h hw (lv_sub hl [1, 2, 0] rfl)
  have lp_37_1 : ∀ (rec_22_0 : Int32 × Ob → Option (Ob)) (hrec_22_0 : ∀ (v2 : Int32) (o_me : Ob) (H : Heap) (locs : List Loc) (ls : Array Slot), rec_22_0 (v2, o_me) = some y → Wd dC dI A s.heap [wX9 h_me q_me k_me o_me] H locs → lv_has ls 5 [(0, .ref h_me), (2, .int v2)] → W p l e ({ frames := 2, cells := 0, slots := 0, locals := 44 } : Room) s m ([.ref h_me] : List Value).toArray below meth c H locs 0 0 Qz (F0 m 22 ls [])) (N : Nat), ∀ (v2 : Int32) (v3 : Int32) (o_me : Ob) (H : Heap) (locs : List Loc) (ls : Array Slot), lp_X9_layLeft_37  rec_22_0 N (v2, v3, o_me) = some y → Wd dC dI A s.heap [wX9 h_me q_me k_me o_me] H locs → lv_has ls 5 [(0, .ref h_me), (2, .int v2), (3, .int v3)] → W p l e ({ frames := 2, cells := 0, slots := 0, locals := 44 } : Room) s m ([.ref h_me] : List Value).toArray below meth c H locs 0 0 Qz (F0 m 37 ls []) := by
    intro rec_22_0 hrec_22_0
    intro N
    induction N with
    | zero =>
      intro v2 v3 o_me H locs ls h hw hl
      exact absurd (show (none : Option (Ob)) = some y from h) (by simp)
    | succ N ih =>
      intro v2 v3 o_me H locs ls h hw hl
      have h : lb_X9_layLeft_37  rec_22_0 (lp_X9_layLeft_37  rec_22_0 N) v2 v3 o_me = some y := h
      unfold lb_X9_layLeft_37 at h
      refine lv_iload_n hx hb dX9_layLeft_37 rfl (lv_at hl 2 rfl) ?_
      refine lv_aload_n hx hb dX9_layLeft_38 rfl (lv_at hl 0 rfl) ?_
      refine fgX9_3 hx hb hts hown hK hw 0 rfl kw1179 dX9_layLeft_39 ?_
      refine lv_iconst (v := 0) hx hb dX9_layLeft_42 (by decide) ?_
      refine faX9_3 hx hb hK hw 0 rfl rfl (by decide) dX9_layLeft_43 ?_
      refine lv_icmp_ge (tgt := 89) hx hb dX9_layLeft_44 (by decide) (fun c => ?_) (fun c => ?_)
      · have h := z_t h c
        obtain ⟨x7, ex7, h⟩ := z_lt h
        refine lv_iinc (v := x7) (lv' := [(2, .int x7), (0, .ref h_me), (3, .int v3)]) hx hb dX9_layLeft_89 hl (k := 1) rfl ((congrArg (v2 + ·) (show Int32.ofInt (-1) = (-1 : Int32) from by decide)).trans ex7.symm) (by decide) rfl (fun ls hl => ?_)
        refine lv_goto (tgt := 22) hx hb dX9_layLeft_92 (by decide) ?_
        exact hrec_22_0 x7 o_me _ _ _ h hw (lv_sub hl [1, 0] rfl)
      · have h := z_f h c
        refine lv_aload_n hx hb dX9_layLeft_47 rfl (lv_at hl 0 rfl) ?_
        refine lv_iload_n hx hb dX9_layLeft_48 rfl (lv_at hl 1 rfl) ?_
        refine lv_iload_n hx hb dX9_layLeft_49 rfl (lv_at hl 2 rfl) ?_
        obtain ⟨z8, ez8, h⟩ := z_bd h
        refine xj_i (xrV (As := [.int v2, .int v3]) (rest := []) ⟨hx, hb, hml, hown, hts⟩ (m_X9_leftBy l dC dI _ h_me q_me k_me o_me v2 v3 z8 ez8) kw1743 kw1740 kw1742 kw94 kw120 hd_X9_leftBy ⟨rfl, rfl⟩ rfl rfl ⟨rfl, rfl⟩ hX hK hw [0] (by decide) rfl rfl rfl rfl rfl hl.1 rfl rfl dX9_layLeft_50) hw hA [0] (by decide) rfl rfl (fun H locs hw => ?_)
        have hw : Wd dC dI A s.heap [wX9 h_me q_me k_me o_me] H locs := hw
        refine lv_istore (lv' := [(4, .int z8), (0, .ref h_me), (2, .int v2), (3, .int v3)]) hx hb dX9_layLeft_53 hl (by decide) rfl (fun ls hl => ?_)
        refine lv_aload_n hx hb dX9_layLeft_55 rfl (lv_at hl 1 rfl) ?_
        refine fgX9_46 hx hb hts hown hK hw 0 rfl kw1222 dX9_layLeft_56 ?_
        refine lv_iload_n hx hb dX9_layLeft_59 rfl (lv_at hl 2 rfl) ?_
        refine lv_iload hx hb dX9_layLeft_60 (lv_at hl 0 rfl) ?_
        refine lv_aload_n hx hb dX9_layLeft_62 rfl (lv_at hl 1 rfl) ?_
        refine fgX9_46 hx hb hts hown hK hw 0 rfl kw1222 dX9_layLeft_63 ?_
        refine lv_iload_n hx hb dX9_layLeft_66 rfl (lv_at hl 2 rfl) ?_
        obtain ⟨g9, h⟩ := z_gd h
        refine faX9_46 hx hb hK hw 0 rfl rfl g9 dX9_layLeft_67 ?_
        refine lv_icmp_ge (tgt := 76) hx hb dX9_layLeft_68 (by decide) (fun c => ?_) (fun c => ?_)
        · have h := z_t h c
          refine lv_aload_n hx hb dX9_layLeft_76 rfl (lv_at hl 1 rfl) ?_
          refine fgX9_46 hx hb hts hown hK hw 0 rfl kw1222 dX9_layLeft_77 ?_
          refine lv_iload_n hx hb dX9_layLeft_80 rfl (lv_at hl 2 rfl) ?_
          obtain ⟨g10, h⟩ := z_gd h
          refine faX9_46 hx hb hK hw 0 rfl rfl g10 dX9_layLeft_81 ?_
          exact bk_82_2 rec_22_0 hrec_22_0 (lp_X9_layLeft_37  rec_22_0 N) ih v2 v3 (gA o_me 46 v2.toNatClampNeg) v2 o_me _ _ _ h hw (lv_sub hl [1, 2, 3] rfl)
        · have h := z_f h c
          refine lv_iload hx hb dX9_layLeft_71 (lv_at hl 0 rfl) ?_
          refine lv_goto (tgt := 82) hx hb dX9_layLeft_73 (by decide) ?_
          exact bk_82_2 rec_22_0 hrec_22_0 (lp_X9_layLeft_37  rec_22_0 N) ih v2 v3 z8 v2 o_me _ _ _ h hw (lv_sub hl [1, 2, 3] rfl)
  have lp_22_0 : ∀ (N : Nat), ∀ (v2 : Int32) (o_me : Ob) (H : Heap) (locs : List Loc) (ls : Array Slot), lp_X9_layLeft_22   N (v2, o_me) = some y → Wd dC dI A s.heap [wX9 h_me q_me k_me o_me] H locs → lv_has ls 5 [(0, .ref h_me), (2, .int v2)] → W p l e ({ frames := 2, cells := 0, slots := 0, locals := 44 } : Room) s m ([.ref h_me] : List Value).toArray below meth c H locs 0 0 Qz (F0 m 22 ls []) := by
    intro N
    induction N with
    | zero =>
      intro v2 o_me H locs ls h hw hl
      exact absurd (show (none : Option (Ob)) = some y from h) (by simp)
    | succ N ih =>
      intro v2 o_me H locs ls h hw hl
      have h : lb_X9_layLeft_22   (lp_X9_layLeft_22   N) v2 o_me = some y := h
      unfold lb_X9_layLeft_22 at h
      refine lv_iload_n hx hb dX9_layLeft_22 rfl (lv_at hl 1 rfl) ?_
      refine lv_if_lt (tgt := 95) hx hb dX9_layLeft_23 (by decide) (fun c => ?_) (fun c => ?_)
      · have h := z_t h c
        have hy := Option.some.inj h
        rw [← hQz, ← hy]
        exact xr_v hx hb hr hlk hK hw dX9_layLeft_95
      · have h := z_f h c
        refine lv_aload_n hx hb dX9_layLeft_26 rfl (lv_at hl 0 rfl) ?_
        refine fgX9_46 hx hb hts hown hK hw 0 rfl kw1222 dX9_layLeft_27 ?_
        refine lv_iload_n hx hb dX9_layLeft_30 rfl (lv_at hl 1 rfl) ?_
        refine lv_ldcw (v := 100000000) hx hb hown (hts _ kw1701) dX9_layLeft_31 ?_
        obtain ⟨g5, h⟩ := z_gd h
        refine fbX9_46 hx hb hK hw 0 rfl rfl g5 dX9_layLeft_34 (fun H locs hw => ?_)
        obtain ⟨o6, eo6, h⟩ := z_lt h
        have hw : Wd dC dI A s.heap [wX9 h_me q_me k_me o6] H locs := by rw [eo6]; exact hw
        refine lv_iconst (v := 0) hx hb dX9_layLeft_35 (by decide) ?_
        refine lv_istore_n (lv' := [(3, .int (0 : Int32)), (0, .ref h_me), (2, .int v2)]) hx hb dX9_layLeft_36 rfl hl (by decide) rfl (fun ls hl => ?_)
        exact lp_37_1 (lp_X9_layLeft_22   N) ih zfu v2 (0 : Int32) o6 _ _ _ h hw (lv_sub hl [1, 2, 0] rfl)
  unfold f_X9_layLeft at h
  refine lv_iconst (v := 1) hx hb dX9_layLeft_0 (by decide) ?_
  refine lv_aload_n hx hb dX9_layLeft_1 rfl (lv_at hl 0 rfl) ?_
  refine fgX9_3 hx hb hts hown hK hw 0 rfl kw1179 dX9_layLeft_2 ?_
  refine lv_iconst (v := 0) hx hb dX9_layLeft_5 (by decide) ?_
  refine faX9_3 hx hb hK hw 0 rfl rfl (by decide) dX9_layLeft_6 ?_
  refine lv_ishl hx hb dX9_layLeft_7 ?_
  refine lv_iconst (v := 1) hx hb dX9_layLeft_8 (by decide) ?_
  refine lv_isub hx hb dX9_layLeft_9 ?_
  obtain ⟨x1, ex1, h⟩ := z_lt h
  refine lv_fi (v := x1) ex1.symm ?_
  refine lv_istore_n (lv' := [(1, .int x1), (0, .ref h_me)]) hx hb dX9_layLeft_10 rfl hl (by decide) rfl (fun ls hl => ?_)
  refine lv_aload_n hx hb dX9_layLeft_11 rfl (lv_at hl 1 rfl) ?_
  refine fgX9_46 hx hb hts hown hK hw 0 rfl kw1222 dX9_layLeft_12 ?_
  refine lv_iload_n hx hb dX9_layLeft_15 rfl (lv_at hl 0 rfl) ?_
  refine lv_iconst (v := 0) hx hb dX9_layLeft_16 (by decide) ?_
  obtain ⟨g2, h⟩ := z_gd h
  refine fbX9_46 hx hb hK hw 0 rfl rfl g2 dX9_layLeft_17 (fun H locs hw => ?_)
  obtain ⟨o3, eo3, h⟩ := z_lt h
  have hw : Wd dC dI A s.heap [wX9 h_me q_me k_me o3] H locs := by rw [eo3]; exact hw
  refine lv_iload_n hx hb dX9_layLeft_18 rfl (lv_at hl 0 rfl) ?_
  refine lv_iconst (v := 1) hx hb dX9_layLeft_19 (by decide) ?_
  refine lv_isub hx hb dX9_layLeft_20 ?_
  obtain ⟨x4, ex4, h⟩ := z_lt h
  refine lv_fi (v := x4) ex4.symm ?_
  refine lv_istore_n (lv' := [(2, .int x4), (1, .int x1), (0, .ref h_me)]) hx hb dX9_layLeft_21 rfl hl (by decide) rfl (fun ls hl => ?_)
  exact lp_22_0  zfu x4 o3 _ _ _ h hw (lv_sub hl [2, 0] rfl)

def bk_X9_look_172  (rec_36_0 : Int32 × Int32 × Int32 × Int32 × Int32 × Ob → Option (Int32 × Ob)) (v1 : Int32) (v2 : Int32) (v4 : Int32) (v5 : Int32) (s0 : Int32) (o_me : Ob) : Option (Int32 × Ob) :=
  zlt (v5 + (1 : Int32)) fun x4 =>
  rec_36_0 (v1, v2, s0, v4, x4, o_me)
def bk_X9_look_158  (rec_36_0 : Int32 × Int32 × Int32 × Int32 × Int32 × Ob → Option (Int32 × Ob)) (v1 : Int32) (v2 : Int32) (v3 : Int32) (v5 : Int32) (v6 : Int32) (s0 : Int32) (o_me : Ob) : Option (Int32 × Ob) :=
  if v3 ≤ v6 then
  (bk_X9_look_172  rec_36_0 v1 v2 s0 v5 v3 o_me)
  else
  (bk_X9_look_172  rec_36_0 v1 v2 s0 v5 v6 o_me)
def bk_X9_look_139  (rec_36_0 : Int32 × Int32 × Int32 × Int32 × Int32 × Ob → Option (Int32 × Ob)) (rec_72_2 : Int32 × Int32 × Int32 × Int32 × Int32 × Int32 × Int32 × Ob → Option (Int32 × Ob)) (v1 : Int32) (v2 : Int32) (v3 : Int32) (v4 : Int32) (v5 : Int32) (v6 : Int32) (v7 : Int32) (o_me : Ob) : Option (Int32 × Ob) :=
  zlt (v7 + (1 : Int32)) fun x6 =>
  rec_72_2 (v1, v2, v3, v4, v5, v6, x6, o_me)
def bk_X9_look_137  (rec_36_0 : Int32 × Int32 × Int32 × Int32 × Int32 × Ob → Option (Int32 × Ob)) (rec_72_2 : Int32 × Int32 × Int32 × Int32 × Int32 × Int32 × Int32 × Ob → Option (Int32 × Ob)) (v1 : Int32) (v2 : Int32) (v3 : Int32) (v4 : Int32) (v5 : Int32) (v7 : Int32) (s0 : Int32) (o_me : Ob) : Option (Int32 × Ob) :=
  bk_X9_look_139  rec_36_0 rec_72_2 v1 v2 v3 v4 v5 s0 v7 o_me
def lb_X9_look_72  (rec_36_0 : Int32 × Int32 × Int32 × Int32 × Int32 × Ob → Option (Int32 × Ob)) (rec_72_2 : Int32 × Int32 × Int32 × Int32 × Int32 × Int32 × Int32 × Ob → Option (Int32 × Ob)) (v1 : Int32) (v2 : Int32) (v3 : Int32) (v4 : Int32) (v5 : Int32) (v6 : Int32) (v7 : Int32) (o_me : Ob) : Option (Int32 × Ob) :=
  if (gA o_me 3 (0 : Int32).toNatClampNeg) ≤ v7 then
  (if v3 ≤ v6 then
  (bk_X9_look_158  rec_36_0 v1 v2 v3 v5 v6 v4 o_me)
  else
  (bk_X9_look_158  rec_36_0 v1 v2 v3 v5 v6 v5 o_me))
  else
  ((f_X9_is v2 v7).bind fun z5 =>
  if z5 = (0 : Int32) then
  (bk_X9_look_139  rec_36_0 rec_72_2 v1 v2 v3 v4 v5 v6 v7 o_me)
  else
  ((f_X9_turnsOf o_me v7 v5).bind fun z7 =>
  zgd (zin z7.1 10) <|
  zgd (zin z7.1 10) <|
  zlt (tA z7.2 45 z7.1.toNatClampNeg ((gA z7.2 45 z7.1.toNatClampNeg) + (1 : Int32))) fun o10 =>
  zgd (zin z7.1 10) <|
  if (gA o10 45 z7.1.toNatClampNeg) ≤ v6 then
  (bk_X9_look_137  rec_36_0 rec_72_2 v1 v2 v3 v4 v5 v7 v6 o10)
  else
  (zgd (zin z7.1 10) <|
  bk_X9_look_137  rec_36_0 rec_72_2 v1 v2 v3 v4 v5 v7 (gA o10 45 z7.1.toNatClampNeg) o10)))
def lp_X9_look_72  (rec_36_0 : Int32 × Int32 × Int32 × Int32 × Int32 × Ob → Option (Int32 × Ob)) : Nat → (Int32 × Int32 × Int32 × Int32 × Int32 × Int32 × Int32 × Ob) → Option (Int32 × Ob) := zit (fun rec a => lb_X9_look_72  rec_36_0 rec a.1 a.2.1 a.2.2.1 a.2.2.2.1 a.2.2.2.2.1 a.2.2.2.2.2.1 a.2.2.2.2.2.2.1 a.2.2.2.2.2.2.2)
def lb_X9_look_45  (rec_36_0 : Int32 × Int32 × Int32 × Int32 × Int32 × Ob → Option (Int32 × Ob)) (rec_45_1 : Int32 × Int32 × Int32 × Int32 × Int32 × Int32 × Ob → Option (Int32 × Ob)) (v1 : Int32) (v2 : Int32) (v3 : Int32) (v4 : Int32) (v5 : Int32) (v6 : Int32) (o_me : Ob) : Option (Int32 × Ob) :=
  if (10 : Int32) ≤ v6 then
  (lp_X9_look_72  rec_36_0 zfu (v1, v2, v3, v4, v5, (0 : Int32), (0 : Int32), o_me))
  else
  (zgd (zin v6 10) <|
  zlt (tA o_me 45 v6.toNatClampNeg (0 : Int32)) fun o14 =>
  zlt (v6 + (1 : Int32)) fun x15 =>
  rec_45_1 (v1, v2, v3, v4, v5, x15, o14))
def lp_X9_look_45  (rec_36_0 : Int32 × Int32 × Int32 × Int32 × Int32 × Ob → Option (Int32 × Ob)) : Nat → (Int32 × Int32 × Int32 × Int32 × Int32 × Int32 × Ob) → Option (Int32 × Ob) := zit (fun rec a => lb_X9_look_45  rec_36_0 rec a.1 a.2.1 a.2.2.1 a.2.2.2.1 a.2.2.2.2.1 a.2.2.2.2.2.1 a.2.2.2.2.2.2)
def lb_X9_look_36   (rec_36_0 : Int32 × Int32 × Int32 × Int32 × Int32 × Ob → Option (Int32 × Ob)) (v1 : Int32) (v2 : Int32) (v3 : Int32) (v4 : Int32) (v5 : Int32) (o_me : Ob) : Option (Int32 × Ob) :=
  if (4 : Int32) ≤ v5 then
  (if v1 = (0 : Int32) then
  (some (v4, o_me))
  else
  (some (v3, o_me)))
  else
  (lp_X9_look_45  rec_36_0 zfu (v1, v2, v3, v4, v5, (0 : Int32), o_me))
def lp_X9_look_36   : Nat → (Int32 × Int32 × Int32 × Int32 × Int32 × Ob) → Option (Int32 × Ob) := zit (fun rec a => lb_X9_look_36   rec a.1 a.2.1 a.2.2.1 a.2.2.2.1 a.2.2.2.2.1 a.2.2.2.2.2)
def f_X9_look (o_me : Ob) (p0 : Int32) : Option (Int32 × Ob) :=
  zlt (sI o_me 0 (0 : Int32)) fun o1 =>
  (f_X9_thatCanBe o1).bind fun z2 =>
  (f_X9_in p0.toInt64 (0 : Int64) (1 : Int64)).bind fun z3 =>
  if z3 = (0 : Int32) then
  (some ((-1 : Int32), z2.2))
  else
  (if z2.1 = (0 : Int32) then
  (some ((-1 : Int32), z2.2))
  else
  (lp_X9_look_36   zfu (p0, z2.1, (100000000 : Int32), (-1 : Int32), (0 : Int32), z2.2)))
set_option maxHeartbeats 4000000 in
set_option maxRecDepth 100000 in
theorem m_X9_look (l : Launch) (dC : Nat → ClassId) (dI : Nat → Nat → Nat) (sz : Nat) (h_me : Nat) (q_me : Nat → Nat) (k_me : Nat → ClassId) (o_me : Ob) (p0 : Int32) (y : Int32 × Ob) (h : f_X9_look o_me p0 = some y) : CI l yX9_look cX9_look 9 (some .int) ({ frames := 7, cells := 0, slots := 0, locals := 169 } : Room) dC dI sz [.ref h_me, .int p0] [wX9 h_me q_me k_me o_me] [tX9 k_me] y.1 [wX9 h_me q_me k_me y.2] := by
  refine CC_of (by decide) (Nat.le_of_ble_eq_true rfl) ?_
  intro p e s m below meth c A ls hx hb hml hr hlk hnm hown hts hX hK hP hD hA hl
  have hl : lv_has ls 9 [(0, .ref h_me), (1, .int p0)] := hl
  have hown : s.vm.findClass RX9 = some m.cls := hown
  have hw : Wd dC dI A s.heap [wX9 h_me q_me k_me o_me] s.heap [] := ⟨hP, hD, va_S.rf⟩
  generalize hQz : (MQ below (QI dC dI (fun r (_ : Unit) => r = y.1) (fun _ => Jn [wX9 h_me q_me k_me y.2]) (fun _ => Jt [tX9 k_me]) A) ([.ref h_me, .int p0] : List Value).toArray s 0 0 A) = Qz
  clear hP hD hnm
  have bk_172_4 : ∀ (rec_36_0 : Int32 × Int32 × Int32 × Int32 × Int32 × Ob → Option (Int32 × Ob)) (hrec_36_0 : ∀ (v1 : Int32) (v2 : Int32) (v3 : Int32) (v4 : Int32) (v5 : Int32) (o_me : Ob) (H : Heap) (locs : List Loc) (ls : Array Slot), rec_36_0 (v1, v2, v3, v4, v5, o_me) = some y → Wd dC dI A s.heap [wX9 h_me q_me k_me o_me] H locs → lv_has ls 9 [(0, .ref h_me), (1, .int v1), (2, .int v2), (3, .int v3), (4, .int v4), (5, .int v5)] → W p l e ({ frames := 7, cells := 0, slots := 0, locals := 169 } : Room) s m ([.ref h_me, .int p0] : List Value).toArray below meth c H locs 0 0 Qz (F0 m 36 ls [])), ∀ (v1 : Int32) (v2 : Int32) (v4 : Int32) (v5 : Int32) (s0 : Int32) (o_me : Ob) (H : Heap) (locs : List Loc) (ls : Array Slot), bk_X9_look_172  rec_36_0 v1 v2 v4 v5 s0 o_me = some y → Wd dC dI A s.heap [wX9 h_me q_me k_me o_me] H locs → lv_has ls 9 [(0, .ref h_me), (1, .int v1), (2, .int v2), (4, .int v4), (5, .int v5)] → W p l e ({ frames := 7, cells := 0, slots := 0, locals := 169 } : Room) s m ([.ref h_me, .int p0] : List Value).toArray below meth c H locs 0 0 Qz (F0 m 172 ls [.int s0]) := by
    intro rec_36_0 hrec_36_0
    intro v1 v2 v4 v5 s0 o_me H locs ls h hw hl
    unfold bk_X9_look_172 at h
    refine lv_istore_n (lv' := [(3, .int s0), (0, .ref h_me), (1, .int v1), (2, .int v2), (4, .int v4), (5, .int v5)]) hx hb dX9_look_172 rfl hl (by decide) rfl (fun ls hl => ?_)
    obtain ⟨x4, ex4, h⟩ := z_lt h
    refine lv_iinc (v := x4) (lv' := [(5, .int x4), (3, .int s0), (0, .ref h_me), (1, .int v1), (2, .int v2), (4, .int v4)]) hx hb dX9_look_173 hl (k := 5) rfl ((congrArg (v5 + ·) (show Int32.ofInt 1 = (1 : Int32) from by decide)).trans ex4.symm) (by decide) rfl (fun ls hl => ?_)
    refine lv_goto (tgt := 36) hx hb dX9_look_176 (by decide) ?_
    exact hrec_36_0 v1 v2 s0 v4 x4 o_me _ _ _ h hw (lv_sub hl [2, 3, 4, 1, 5, 0] rfl)
  have bk_158_3 : ∀ (rec_36_0 : Int32 × Int32 × Int32 × Int32 × Int32 × Ob → Option (Int32 × Ob)) (hrec_36_0 : ∀ (v1 : Int32) (v2 : Int32) (v3 : Int32) (v4 : Int32) (v5 : Int32) (o_me : Ob) (H : Heap) (locs : List Loc) (ls : Array Slot), rec_36_0 (v1, v2, v3, v4, v5, o_me) = some y → Wd dC dI A s.heap [wX9 h_me q_me k_me o_me] H locs → lv_has ls 9 [(0, .ref h_me), (1, .int v1), (2, .int v2), (3, .int v3), (4, .int v4), (5, .int v5)] → W p l e ({ frames := 7, cells := 0, slots := 0, locals := 169 } : Room) s m ([.ref h_me, .int p0] : List Value).toArray below meth c H locs 0 0 Qz (F0 m 36 ls [])), ∀ (v1 : Int32) (v2 : Int32) (v3 : Int32) (v5 : Int32) (v6 : Int32) (s0 : Int32) (o_me : Ob) (H : Heap) (locs : List Loc) (ls : Array Slot), bk_X9_look_158  rec_36_0 v1 v2 v3 v5 v6 s0 o_me = some y → Wd dC dI A s.heap [wX9 h_me q_me k_me o_me] H locs → lv_has ls 9 [(0, .ref h_me), (1, .int v1), (2, .int v2), (3, .int v3), (5, .int v5), (6, .int v6)] → W p l e ({ frames := 7, cells := 0, slots := 0, locals := 169 } : Room) s m ([.ref h_me, .int p0] : List Value).toArray below meth c H locs 0 0 Qz (F0 m 158 ls [.int s0]) := by
    intro rec_36_0 hrec_36_0
    intro v1 v2 v3 v5 v6 s0 o_me H locs ls h hw hl
    unfold bk_X9_look_158 at h
    refine lv_istore (lv' := [(4, .int s0), (0, .ref h_me), (1, .int v1), (2, .int v2), (3, .int v3), (5, .int v5), (6, .int v6)]) hx hb dX9_look_158 hl (by decide) rfl (fun ls hl => ?_)
    refine lv_iload hx hb dX9_look_160 (lv_at hl 6 rfl) ?_
    refine lv_iload_n hx hb dX9_look_162 rfl (lv_at hl 4 rfl) ?_
    refine lv_icmp_ge (tgt := 171) hx hb dX9_look_163 (by decide) (fun c => ?_) (fun c => ?_)
    · have h := z_t h c
      refine lv_iload_n hx hb dX9_look_171 rfl (lv_at hl 4 rfl) ?_
      exact bk_172_4 rec_36_0 hrec_36_0 v1 v2 s0 v5 v3 o_me _ _ _ h hw (lv_sub hl [1, 2, 3, 0, 5] rfl)
    · have h := z_f h c
      refine lv_iload hx hb dX9_look_166 (lv_at hl 6 rfl) ?_
      refine lv_goto (tgt := 172) hx hb dX9_look_168 (by decide) ?_
      exact bk_172_4 rec_36_0 hrec_36_0 v1 v2 s0 v5 v6 o_me _ _ _ h hw (lv_sub hl [1, 2, 3, 0, 5] rfl)
  have bk_139_5 : ∀ (rec_36_0 : Int32 × Int32 × Int32 × Int32 × Int32 × Ob → Option (Int32 × Ob)) (hrec_36_0 : ∀ (v1 : Int32) (v2 : Int32) (v3 : Int32) (v4 : Int32) (v5 : Int32) (o_me : Ob) (H : Heap) (locs : List Loc) (ls : Array Slot), rec_36_0 (v1, v2, v3, v4, v5, o_me) = some y → Wd dC dI A s.heap [wX9 h_me q_me k_me o_me] H locs → lv_has ls 9 [(0, .ref h_me), (1, .int v1), (2, .int v2), (3, .int v3), (4, .int v4), (5, .int v5)] → W p l e ({ frames := 7, cells := 0, slots := 0, locals := 169 } : Room) s m ([.ref h_me, .int p0] : List Value).toArray below meth c H locs 0 0 Qz (F0 m 36 ls [])) (rec_72_2 : Int32 × Int32 × Int32 × Int32 × Int32 × Int32 × Int32 × Ob → Option (Int32 × Ob)) (hrec_72_2 : ∀ (v1 : Int32) (v2 : Int32) (v3 : Int32) (v4 : Int32) (v5 : Int32) (v6 : Int32) (v7 : Int32) (o_me : Ob) (H : Heap) (locs : List Loc) (ls : Array Slot), rec_72_2 (v1, v2, v3, v4, v5, v6, v7, o_me) = some y → Wd dC dI A s.heap [wX9 h_me q_me k_me o_me] H locs → lv_has ls 9 [(0, .ref h_me), (1, .int v1), (2, .int v2), (3, .int v3), (4, .int v4), (5, .int v5), (6, .int v6), (7, .int v7)] → W p l e ({ frames := 7, cells := 0, slots := 0, locals := 169 } : Room) s m ([.ref h_me, .int p0] : List Value).toArray below meth c H locs 0 0 Qz (F0 m 72 ls [])), ∀ (v1 : Int32) (v2 : Int32) (v3 : Int32) (v4 : Int32) (v5 : Int32) (v6 : Int32) (v7 : Int32) (o_me : Ob) (H : Heap) (locs : List Loc) (ls : Array Slot), bk_X9_look_139  rec_36_0 rec_72_2 v1 v2 v3 v4 v5 v6 v7 o_me = some y → Wd dC dI A s.heap [wX9 h_me q_me k_me o_me] H locs → lv_has ls 9 [(0, .ref h_me), (1, .int v1), (2, .int v2), (3, .int v3), (4, .int v4), (5, .int v5), (6, .int v6), (7, .int v7)] → W p l e ({ frames := 7, cells := 0, slots := 0, locals := 169 } : Room) s m ([.ref h_me, .int p0] : List Value).toArray below meth c H locs 0 0 Qz (F0 m 139 ls []) := by
    intro rec_36_0 hrec_36_0 rec_72_2 hrec_72_2
    intro v1 v2 v3 v4 v5 v6 v7 o_me H locs ls h hw hl
    unfold bk_X9_look_139 at h
    obtain ⟨x6, ex6, h⟩ := z_lt h
    refine lv_iinc (v := x6) (lv' := [(7, .int x6), (0, .ref h_me), (1, .int v1), (2, .int v2), (3, .int v3), (4, .int v4), (5, .int v5), (6, .int v6)]) hx hb dX9_look_139 hl (k := 7) rfl ((congrArg (v7 + ·) (show Int32.ofInt 1 = (1 : Int32) from by decide)).trans ex6.symm) (by decide) rfl (fun ls hl => ?_)
    refine lv_goto (tgt := 72) hx hb dX9_look_142 (by decide) ?_
    exact hrec_72_2 v1 v2 v3 v4 v5 v6 x6 o_me _ _ _ h hw (lv_sub hl [1, 2, 3, 4, 5, 6, 7, 0] rfl)
  have bk_137_6 : ∀ (rec_36_0 : Int32 × Int32 × Int32 × Int32 × Int32 × Ob → Option (Int32 × Ob)) (hrec_36_0 : ∀ (v1 : Int32) (v2 : Int32) (v3 : Int32) (v4 : Int32) (v5 : Int32) (o_me : Ob) (H : Heap) (locs : List Loc) (ls : Array Slot), rec_36_0 (v1, v2, v3, v4, v5, o_me) = some y → Wd dC dI A s.heap [wX9 h_me q_me k_me o_me] H locs → lv_has ls 9 [(0, .ref h_me), (1, .int v1), (2, .int v2), (3, .int v3), (4, .int v4), (5, .int v5)] → W p l e ({ frames := 7, cells := 0, slots := 0, locals := 169 } : Room) s m ([.ref h_me, .int p0] : List Value).toArray below meth c H locs 0 0 Qz (F0 m 36 ls [])) (rec_72_2 : Int32 × Int32 × Int32 × Int32 × Int32 × Int32 × Int32 × Ob → Option (Int32 × Ob)) (hrec_72_2 : ∀ (v1 : Int32) (v2 : Int32) (v3 : Int32) (v4 : Int32) (v5 : Int32) (v6 : Int32) (v7 : Int32) (o_me : Ob) (H : Heap) (locs : List Loc) (ls : Array Slot), rec_72_2 (v1, v2, v3, v4, v5, v6, v7, o_me) = some y → Wd dC dI A s.heap [wX9 h_me q_me k_me o_me] H locs → lv_has ls 9 [(0, .ref h_me), (1, .int v1), (2, .int v2), (3, .int v3), (4, .int v4), (5, .int v5), (6, .int v6), (7, .int v7)] → W p l e ({ frames := 7, cells := 0, slots := 0, locals := 169 } : Room) s m ([.ref h_me, .int p0] : List Value).toArray below meth c H locs 0 0 Qz (F0 m 72 ls [])), ∀ (v1 : Int32) (v2 : Int32) (v3 : Int32) (v4 : Int32) (v5 : Int32) (v7 : Int32) (s0 : Int32) (o_me : Ob) (H : Heap) (locs : List Loc) (ls : Array Slot), bk_X9_look_137  rec_36_0 rec_72_2 v1 v2 v3 v4 v5 v7 s0 o_me = some y → Wd dC dI A s.heap [wX9 h_me q_me k_me o_me] H locs → lv_has ls 9 [(0, .ref h_me), (1, .int v1), (2, .int v2), (3, .int v3), (4, .int v4), (5, .int v5), (7, .int v7)] → W p l e ({ frames := 7, cells := 0, slots := 0, locals := 169 } : Room) s m ([.ref h_me, .int p0] : List Value).toArray below meth c H locs 0 0 Qz (F0 m 137 ls [.int s0]) := by
    intro rec_36_0 hrec_36_0 rec_72_2 hrec_72_2
    intro v1 v2 v3 v4 v5 v7 s0 o_me H locs ls h hw hl
    unfold bk_X9_look_137 at h
    refine lv_istore (lv' := [(6, .int s0), (0, .ref h_me), (1, .int v1), (2, .int v2), (3, .int v3), (4, .int v4), (5, .int v5), (7, .int v7)]) hx hb dX9_look_137 hl (by decide) rfl (fun ls hl => ?_)
    exact bk_139_5 rec_36_0 hrec_36_0 rec_72_2 hrec_72_2 v1 v2 v3 v4 v5 s0 v7 o_me _ _ _ h hw (lv_sub hl [1, 2, 3, 4, 5, 6, 0, 7] rfl)
  have lp_72_2 : ∀ (rec_36_0 : Int32 × Int32 × Int32 × Int32 × Int32 × Ob → Option (Int32 × Ob)) (hrec_36_0 : ∀ (v1 : Int32) (v2 : Int32) (v3 : Int32) (v4 : Int32) (v5 : Int32) (o_me : Ob) (H : Heap) (locs : List Loc) (ls : Array Slot), rec_36_0 (v1, v2, v3, v4, v5, o_me) = some y → Wd dC dI A s.heap [wX9 h_me q_me k_me o_me] H locs → lv_has ls 9 [(0, .ref h_me), (1, .int v1), (2, .int v2), (3, .int v3), (4, .int v4), (5, .int v5)] → W p l e ({ frames := 7, cells := 0, slots := 0, locals := 169 } : Room) s m ([.ref h_me, .int p0] : List Value).toArray below meth c H locs 0 0 Qz (F0 m 36 ls [])) (N : Nat), ∀ (v1 : Int32) (v2 : Int32) (v3 : Int32) (v4 : Int32) (v5 : Int32) (v6 : Int32) (v7 : Int32) (o_me : Ob) (H : Heap) (locs : List Loc) (ls : Array Slot), lp_X9_look_72  rec_36_0 N (v1, v2, v3, v4, v5, v6, v7, o_me) = some y → Wd dC dI A s.heap [wX9 h_me q_me k_me o_me] H locs → lv_has ls 9 [(0, .ref h_me), (1, .int v1), (2, .int v2), (3, .int v3), (4, .int v4), (5, .int v5), (6, .int v6), (7, .int v7)] → W p l e ({ frames := 7, cells := 0, slots := 0, locals := 169 } : Room) s m ([.ref h_me, .int p0] : List Value).toArray below meth c H locs 0 0 Qz (F0 m 72 ls []) := by
    intro rec_36_0 hrec_36_0
    intro N
    induction N with
    | zero =>
      intro v1 v2 v3 v4 v5 v6 v7 o_me H locs ls h hw hl
      exact absurd (show (none : Option (Int32 × Ob)) = some y from h) (by simp)
    | succ N ih =>
      intro v1 v2 v3 v4 v5 v6 v7 o_me H locs ls h hw hl
      have h : lb_X9_look_72  rec_36_0 (lp_X9_look_72  rec_36_0 N) v1 v2 v3 v4 v5 v6 v7 o_me = some y := h
      unfold lb_X9_look_72 at h
      refine lv_iload hx hb dX9_look_72 (lv_at hl 7 rfl) ?_
      refine lv_aload_n hx hb dX9_look_74 rfl (lv_at hl 0 rfl) ?_
      refine fgX9_3 hx hb hts hown hK hw 0 rfl kw1179 dX9_look_75 ?_
      refine lv_iconst (v := 0) hx hb dX9_look_78 (by decide) ?_
      refine faX9_3 hx hb hK hw 0 rfl rfl (by decide) dX9_look_79 ?_
      refine lv_icmp_ge (tgt := 145) hx hb dX9_look_80 (by decide) (fun c => ?_) (fun c => ?_)
      · have h := z_t h c
        refine lv_iload hx hb dX9_look_145 (lv_at hl 6 rfl) ?_
        refine lv_iload_n hx hb dX9_look_147 rfl (lv_at hl 3 rfl) ?_
        refine lv_icmp_ge (tgt := 156) hx hb dX9_look_148 (by decide) (fun c => ?_) (fun c => ?_)
        · have h := z_t h c
          refine lv_iload hx hb dX9_look_156 (lv_at hl 4 rfl) ?_
          exact bk_158_3 rec_36_0 hrec_36_0 v1 v2 v3 v5 v6 v4 o_me _ _ _ h hw (lv_sub hl [0, 1, 2, 3, 5, 6] rfl)
        · have h := z_f h c
          refine lv_iload hx hb dX9_look_151 (lv_at hl 5 rfl) ?_
          refine lv_goto (tgt := 158) hx hb dX9_look_153 (by decide) ?_
          exact bk_158_3 rec_36_0 hrec_36_0 v1 v2 v3 v5 v6 v5 o_me _ _ _ h hw (lv_sub hl [0, 1, 2, 3, 5, 6] rfl)
      · have h := z_f h c
        refine lv_iload_n hx hb dX9_look_83 rfl (lv_at hl 2 rfl) ?_
        refine lv_iload hx hb dX9_look_84 (lv_at hl 7 rfl) ?_
        obtain ⟨z5, ez5, h⟩ := z_bd h
        refine xj_i (xrS (As := [.int v2, .int v7]) (rest := []) ⟨hx, hb, hml, hown, hts⟩ (m_X9_is l dC dI _  v2 v7 z5 ez5) kw1704 kw1702 kw1703 kw120 hd_X9_is ⟨rfl, rfl⟩ rfl rfl ⟨rfl, rfl⟩ hX hK hw [] (by decide) rfl rfl hl.1 rfl rfl dX9_look_86) hw hA [] (by decide) rfl rfl (fun H locs hw => ?_)
        refine lv_if_eq (tgt := 139) hx hb dX9_look_89 (by decide) (fun c => ?_) (fun c => ?_)
        · have h := z_t h c
          exact bk_139_5 rec_36_0 hrec_36_0 (lp_X9_look_72  rec_36_0 N) ih v1 v2 v3 v4 v5 v6 v7 o_me _ _ _ h hw (lv_sub hl [0, 1, 2, 3, 4, 5, 6, 7] rfl)
        · have h := z_f h c
          refine lv_aload_n hx hb dX9_look_92 rfl (lv_at hl 0 rfl) ?_
          refine lv_iload hx hb dX9_look_93 (lv_at hl 7 rfl) ?_
          refine lv_iload hx hb dX9_look_95 (lv_at hl 5 rfl) ?_
          obtain ⟨z7, ez7, h⟩ := z_bd h
          refine xj_i (xrV (As := [.int v7, .int v5]) (rest := []) ⟨hx, hb, hml, hown, hts⟩ (m_X9_turnsOf l dC dI _ h_me q_me k_me o_me v7 v5 z7 ez7) kw1652 kw1649 kw1651 kw82 kw120 hd_X9_turnsOf ⟨rfl, rfl⟩ rfl rfl ⟨rfl, rfl⟩ hX hK hw [0] (by decide) rfl rfl rfl rfl rfl hl.1 rfl rfl dX9_look_97) hw hA [0] (by decide) rfl rfl (fun H locs hw => ?_)
          have hw : Wd dC dI A s.heap [wX9 h_me q_me k_me z7.2] H locs := hw
          refine lv_istore (lv' := [(8, .int z7.1), (0, .ref h_me), (1, .int v1), (2, .int v2), (3, .int v3), (4, .int v4), (5, .int v5), (6, .int v6), (7, .int v7)]) hx hb dX9_look_100 hl (by decide) rfl (fun ls hl => ?_)
          refine lv_aload_n hx hb dX9_look_102 rfl (lv_at hl 1 rfl) ?_
          refine fgX9_45 hx hb hts hown hK hw 0 rfl kw1221 dX9_look_103 ?_
          refine lv_iload hx hb dX9_look_106 (lv_at hl 0 rfl) ?_
          refine lv_dup2_11 hx hb dX9_look_108 rfl rfl ?_
          obtain ⟨g8, h⟩ := z_gd h
          refine faX9_45 hx hb hK hw 0 rfl rfl g8 dX9_look_109 ?_
          refine lv_iconst (v := 1) hx hb dX9_look_110 (by decide) ?_
          refine lv_iadd hx hb dX9_look_111 ?_
          obtain ⟨g9, h⟩ := z_gd h
          refine fbX9_45 hx hb hK hw 0 rfl rfl g9 dX9_look_112 (fun H locs hw => ?_)
          obtain ⟨o10, eo10, h⟩ := z_lt h
          have hw : Wd dC dI A s.heap [wX9 h_me q_me k_me o10] H locs := by rw [eo10]; exact hw
          refine lv_aload_n hx hb dX9_look_113 rfl (lv_at hl 1 rfl) ?_
          refine fgX9_45 hx hb hts hown hK hw 0 rfl kw1221 dX9_look_114 ?_
          refine lv_iload hx hb dX9_look_117 (lv_at hl 0 rfl) ?_
          obtain ⟨g11, h⟩ := z_gd h
          refine faX9_45 hx hb hK hw 0 rfl rfl g11 dX9_look_119 ?_
          refine lv_iload hx hb dX9_look_120 (lv_at hl 7 rfl) ?_
          refine lv_icmp_le (tgt := 135) hx hb dX9_look_122 (by decide) (fun c => ?_) (fun c => ?_)
          · have h := z_t h c
            refine lv_iload hx hb dX9_look_135 (lv_at hl 7 rfl) ?_
            exact bk_137_6 rec_36_0 hrec_36_0 (lp_X9_look_72  rec_36_0 N) ih v1 v2 v3 v4 v5 v7 v6 o10 _ _ _ h hw (lv_sub hl [1, 2, 3, 4, 5, 6, 8] rfl)
          · have h := z_f h c
            refine lv_aload_n hx hb dX9_look_125 rfl (lv_at hl 1 rfl) ?_
            refine fgX9_45 hx hb hts hown hK hw 0 rfl kw1221 dX9_look_126 ?_
            refine lv_iload hx hb dX9_look_129 (lv_at hl 0 rfl) ?_
            obtain ⟨g12, h⟩ := z_gd h
            refine faX9_45 hx hb hK hw 0 rfl rfl g12 dX9_look_131 ?_
            refine lv_goto (tgt := 137) hx hb dX9_look_132 (by decide) ?_
            exact bk_137_6 rec_36_0 hrec_36_0 (lp_X9_look_72  rec_36_0 N) ih v1 v2 v3 v4 v5 v7 (gA o10 45 z7.1.toNatClampNeg) o10 _ _ _ h hw (lv_sub hl [1, 2, 3, 4, 5, 6, 8] rfl)
  have lp_45_1 : ∀ (rec_36_0 : Int32 × Int32 × Int32 × Int32 × Int32 × Ob → Option (Int32 × Ob)) (hrec_36_0 : ∀ (v1 : Int32) (v2 : Int32) (v3 : Int32) (v4 : Int32) (v5 : Int32) (o_me : Ob) (H : Heap) (locs : List Loc) (ls : Array Slot), rec_36_0 (v1, v2, v3, v4, v5, o_me) = some y → Wd dC dI A s.heap [wX9 h_me q_me k_me o_me] H locs → lv_has ls 9 [(0, .ref h_me), (1, .int v1), (2, .int v2), (3, .int v3), (4, .int v4), (5, .int v5)] → W p l e ({ frames := 7, cells := 0, slots := 0, locals := 169 } : Room) s m ([.ref h_me, .int p0] : List Value).toArray below meth c H locs 0 0 Qz (F0 m 36 ls [])) (N : Nat), ∀ (v1 : Int32) (v2 : Int32) (v3 : Int32) (v4 : Int32) (v5 : Int32) (v6 : Int32) (o_me : Ob) (H : Heap) (locs : List Loc) (ls : Array Slot), lp_X9_look_45  rec_36_0 N (v1, v2, v3, v4, v5, v6, o_me) = some y → Wd dC dI A s.heap [wX9 h_me q_me k_me o_me] H locs → lv_has ls 9 [(0, .ref h_me), (1, .int v1), (2, .int v2), (3, .int v3), (4, .int v4), (5, .int v5), (6, .int v6)] → W p l e ({ frames := 7, cells := 0, slots := 0, locals := 169 } : Room) s m ([.ref h_me, .int p0] : List Value).toArray below meth c H locs 0 0 Qz (F0 m 45 ls []) := by
    intro rec_36_0 hrec_36_0
    intro N
    induction N with
    | zero =>
      intro v1 v2 v3 v4 v5 v6 o_me H locs ls h hw hl
      exact absurd (show (none : Option (Int32 × Ob)) = some y from h) (by simp)
    | succ N ih =>
      intro v1 v2 v3 v4 v5 v6 o_me H locs ls h hw hl
      have h : lb_X9_look_45  rec_36_0 (lp_X9_look_45  rec_36_0 N) v1 v2 v3 v4 v5 v6 o_me = some y := h
      unfold lb_X9_look_45 at h
      refine lv_iload hx hb dX9_look_45 (lv_at hl 6 rfl) ?_
      refine lv_bipush (v := 10) hx hb dX9_look_47 (by decide) ?_
      refine lv_icmp_ge (tgt := 66) hx hb dX9_look_49 (by decide) (fun c => ?_) (fun c => ?_)
      · have h := z_t h c
        refine lv_iconst (v := 0) hx hb dX9_look_66 (by decide) ?_
        refine lv_istore (lv' := [(6, .int (0 : Int32)), (0, .ref h_me), (1, .int v1), (2, .int v2), (3, .int v3), (4, .int v4), (5, .int v5)]) hx hb dX9_look_67 hl (by decide) rfl (fun ls hl => ?_)
        refine lv_iconst (v := 0) hx hb dX9_look_69 (by decide) ?_
        refine lv_istore (lv' := [(7, .int (0 : Int32)), (6, .int (0 : Int32)), (0, .ref h_me), (1, .int v1), (2, .int v2), (3, .int v3), (4, .int v4), (5, .int v5)]) hx hb dX9_look_70 hl (by decide) rfl (fun ls hl => ?_)
        exact lp_72_2 rec_36_0 hrec_36_0 zfu v1 v2 v3 v4 v5 (0 : Int32) (0 : Int32) o_me _ _ _ h hw (lv_sub hl [2, 3, 4, 5, 6, 7, 1, 0] rfl)
      · have h := z_f h c
        refine lv_aload_n hx hb dX9_look_52 rfl (lv_at hl 0 rfl) ?_
        refine fgX9_45 hx hb hts hown hK hw 0 rfl kw1221 dX9_look_53 ?_
        refine lv_iload hx hb dX9_look_56 (lv_at hl 6 rfl) ?_
        refine lv_iconst (v := 0) hx hb dX9_look_58 (by decide) ?_
        obtain ⟨g13, h⟩ := z_gd h
        refine fbX9_45 hx hb hK hw 0 rfl rfl g13 dX9_look_59 (fun H locs hw => ?_)
        obtain ⟨o14, eo14, h⟩ := z_lt h
        have hw : Wd dC dI A s.heap [wX9 h_me q_me k_me o14] H locs := by rw [eo14]; exact hw
        obtain ⟨x15, ex15, h⟩ := z_lt h
        refine lv_iinc (v := x15) (lv' := [(6, .int x15), (0, .ref h_me), (1, .int v1), (2, .int v2), (3, .int v3), (4, .int v4), (5, .int v5)]) hx hb dX9_look_60 hl (k := 6) rfl ((congrArg (v6 + ·) (show Int32.ofInt 1 = (1 : Int32) from by decide)).trans ex15.symm) (by decide) rfl (fun ls hl => ?_)
        refine lv_goto (tgt := 45) hx hb dX9_look_63 (by decide) ?_
        exact ih v1 v2 v3 v4 v5 x15 o14 _ _ _ h hw (lv_sub hl [1, 2, 3, 4, 5, 6, 0] rfl)
  have lp_36_0 : ∀ (N : Nat), ∀ (v1 : Int32) (v2 : Int32) (v3 : Int32) (v4 : Int32) (v5 : Int32) (o_me : Ob) (H : Heap) (locs : List Loc) (ls : Array Slot), lp_X9_look_36   N (v1, v2, v3, v4, v5, o_me) = some y → Wd dC dI A s.heap [wX9 h_me q_me k_me o_me] H locs → lv_has ls 9 [(0, .ref h_me), (1, .int v1), (2, .int v2), (3, .int v3), (4, .int v4), (5, .int v5)] → W p l e ({ frames := 7, cells := 0, slots := 0, locals := 169 } : Room) s m ([.ref h_me, .int p0] : List Value).toArray below meth c H locs 0 0 Qz (F0 m 36 ls []) := by
    intro N
    induction N with
    | zero =>
      intro v1 v2 v3 v4 v5 o_me H locs ls h hw hl
      exact absurd (show (none : Option (Int32 × Ob)) = some y from h) (by simp)
    | succ N ih =>
      intro v1 v2 v3 v4 v5 o_me H locs ls h hw hl
      have h : lb_X9_look_36   (lp_X9_look_36   N) v1 v2 v3 v4 v5 o_me = some y := h
      unfold lb_X9_look_36 at h
      refine lv_iload hx hb dX9_look_36 (lv_at hl 5 rfl) ?_
      refine lv_iconst (v := 4) hx hb dX9_look_38 (by decide) ?_
      refine lv_icmp_ge (tgt := 179) hx hb dX9_look_39 (by decide) (fun c => ?_) (fun c => ?_)
      · have h := z_t h c
        refine lv_iload_n hx hb dX9_look_179 rfl (lv_at hl 1 rfl) ?_
        refine lv_if_ne (tgt := 188) hx hb dX9_look_180 (by decide) (fun c => ?_) (fun c => ?_)
        · have h := z_f h c
          refine lv_iload_n hx hb dX9_look_188 rfl (lv_at hl 3 rfl) ?_
          have hy := Option.some.inj h
          rw [← hQz, ← hy]
          exact xr_i (v := v3) hx hb hr rfl hlk hK hw dX9_look_189
        · have h := z_t h c
          refine lv_iload hx hb dX9_look_183 (lv_at hl 4 rfl) ?_
          refine lv_goto (tgt := 189) hx hb dX9_look_185 (by decide) ?_
          have hy := Option.some.inj h
          rw [← hQz, ← hy]
          exact xr_i (v := v4) hx hb hr rfl hlk hK hw dX9_look_189
      · have h := z_f h c
        refine lv_iconst (v := 0) hx hb dX9_look_42 (by decide) ?_
        refine lv_istore (lv' := [(6, .int (0 : Int32)), (0, .ref h_me), (1, .int v1), (2, .int v2), (3, .int v3), (4, .int v4), (5, .int v5)]) hx hb dX9_look_43 hl (by decide) rfl (fun ls hl => ?_)
        exact lp_45_1 (lp_X9_look_36   N) ih zfu v1 v2 v3 v4 v5 (0 : Int32) o_me _ _ _ h hw (lv_sub hl [1, 2, 3, 4, 5, 6, 0] rfl)
  unfold f_X9_look at h
  refine lv_aload_n hx hb dX9_look_0 rfl (lv_at hl 0 rfl) ?_
  refine lv_iconst (v := 0) hx hb dX9_look_1 (by decide) ?_
  refine fpX9_0 hx hb hts hown hK hw 0 rfl kw1176 dX9_look_2 (fun H locs hw => ?_)
  obtain ⟨o1, eo1, h⟩ := z_lt h
  have hw : Wd dC dI A s.heap [wX9 h_me q_me k_me o1] H locs := by rw [eo1]; exact hw
  refine lv_aload_n hx hb dX9_look_5 rfl (lv_at hl 0 rfl) ?_
  obtain ⟨z2, ez2, h⟩ := z_bd h
  refine xj_i (xrV (As := []) (rest := []) ⟨hx, hb, hml, hown, hts⟩ (m_X9_thatCanBe l dC dI _ h_me q_me k_me o1 z2 ez2) kw1727 kw1724 kw1726 kw92 kw120 hd_X9_thatCanBe ⟨rfl, rfl⟩ rfl rfl ⟨rfl, rfl⟩ hX hK hw [0] (by decide) rfl rfl rfl rfl rfl hl.1 rfl rfl dX9_look_6) hw hA [0] (by decide) rfl rfl (fun H locs hw => ?_)
  have hw : Wd dC dI A s.heap [wX9 h_me q_me k_me z2.2] H locs := hw
  refine lv_istore_n (lv' := [(2, .int z2.1), (0, .ref h_me), (1, .int p0)]) hx hb dX9_look_9 rfl hl (by decide) rfl (fun ls hl => ?_)
  refine lv_iload_n hx hb dX9_look_10 rfl (lv_at hl 2 rfl) ?_
  refine lv_i2l hx hb dX9_look_11 rfl ?_
  refine lv_lconst (v := 0) hx hb dX9_look_12 (by decide) ?_
  refine lv_lconst (v := 1) hx hb dX9_look_13 (by decide) ?_
  obtain ⟨z3, ez3, h⟩ := z_bd h
  refine xj_i (xrS (As := [.long p0.toInt64, .long (0 : Int64), .long (1 : Int64)]) (rest := []) ⟨hx, hb, hml, hown, hts⟩ (m_X9_in l dC dI _  p0.toInt64 (0 : Int64) (1 : Int64) z3 ez3) kw1385 kw1383 kw1384 kw120 hd_X9_in ⟨rfl, rfl⟩ rfl rfl ⟨rfl, rfl⟩ hX hK hw [] (by decide) rfl rfl hl.1 rfl rfl dX9_look_14) hw hA [] (by decide) rfl rfl (fun H locs hw => ?_)
  refine lv_if_eq (tgt := 24) hx hb dX9_look_17 (by decide) (fun c => ?_) (fun c => ?_)
  · have h := z_t h c
    refine lv_iconst (v := (-1)) hx hb dX9_look_24 (by decide) ?_
    have hy := Option.some.inj h
    rw [← hQz, ← hy]
    exact xr_i (v := (-1 : Int32)) hx hb hr rfl hlk hK hw dX9_look_25
  · have h := z_f h c
    refine lv_iload_n hx hb dX9_look_20 rfl (lv_at hl 0 rfl) ?_
    refine lv_if_ne (tgt := 26) hx hb dX9_look_21 (by decide) (fun c => ?_) (fun c => ?_)
    · have h := z_f h c
      refine lv_ldcw (v := 100000000) hx hb hown (hts _ kw1701) dX9_look_26 ?_
      refine lv_istore_n (lv' := [(3, .int (100000000 : Int32)), (2, .int z2.1), (0, .ref h_me), (1, .int p0)]) hx hb dX9_look_29 rfl hl (by decide) rfl (fun ls hl => ?_)
      refine lv_iconst (v := (-1)) hx hb dX9_look_30 (by decide) ?_
      refine lv_istore (lv' := [(4, .int (-1 : Int32)), (3, .int (100000000 : Int32)), (2, .int z2.1), (0, .ref h_me), (1, .int p0)]) hx hb dX9_look_31 hl (by decide) rfl (fun ls hl => ?_)
      refine lv_iconst (v := 0) hx hb dX9_look_33 (by decide) ?_
      refine lv_istore (lv' := [(5, .int (0 : Int32)), (4, .int (-1 : Int32)), (3, .int (100000000 : Int32)), (2, .int z2.1), (0, .ref h_me), (1, .int p0)]) hx hb dX9_look_34 hl (by decide) rfl (fun ls hl => ?_)
      exact lp_36_0  zfu p0 z2.1 (100000000 : Int32) (-1 : Int32) (0 : Int32) z2.2 _ _ _ h hw (lv_sub hl [4, 5, 3, 2, 1, 0] rfl)
    · have h := z_t h c
      refine lv_iconst (v := (-1)) hx hb dX9_look_24 (by decide) ?_
      have hy := Option.some.inj h
      rw [← hQz, ← hy]
      exact xr_i (v := (-1 : Int32)) hx hb hr rfl hlk hK hw dX9_look_25

def bk_X9_never_70  (rec_18_0 : Int32 × Int32 × Ob → Option (Int32 × Ob)) (rec_30_1 : Int32 × Int32 × Int32 × Ob → Option (Int32 × Ob)) (v2 : Int32) (v3 : Int32) (s0 : Int32) (s1 : Int32) (o_me : Ob) : Option (Int32 × Ob) :=
  zlt (s1 &&& s0) fun x6 =>
  zlt (v3 + (1 : Int32)) fun x7 =>
  rec_30_1 (x6, v2, x7, o_me)
def bk_X9_never_61  (rec_18_0 : Int32 × Int32 × Ob → Option (Int32 × Ob)) (rec_30_1 : Int32 × Int32 × Int32 × Ob → Option (Int32 × Ob)) (v2 : Int32) (v3 : Int32) (s0 : Int32) (o_me : Ob) : Option (Int32 × Ob) :=
  bk_X9_never_70  rec_18_0 rec_30_1 v2 v3 (-1 : Int32) s0 o_me
def lb_X9_never_30  (rec_18_0 : Int32 × Int32 × Ob → Option (Int32 × Ob)) (rec_30_1 : Int32 × Int32 × Int32 × Ob → Option (Int32 × Ob)) (v1 : Int32) (v2 : Int32) (v3 : Int32) (o_me : Ob) : Option (Int32 × Ob) :=
  if (gA o_me 3 (0 : Int32).toNatClampNeg) ≤ v3 then
  (zlt (v2 + (1 : Int32)) fun x4 =>
  rec_18_0 (v1, x4, o_me))
  else
  (zgd (zin v3 7) <|
  if (gA o_me 44 v3.toNatClampNeg) = (0 : Int32) then
  ((f_X9_placeOf o_me v3 (127 : Int32)).bind fun z8 =>
  if z8 = (1 : Int32) then
  (bk_X9_never_61  rec_18_0 rec_30_1 v2 v3 v1 o_me)
  else
  (bk_X9_never_70  rec_18_0 rec_30_1 v2 v3 (((1 : Int32) <<< (v3 &&& 31)) ^^^ (-1 : Int32)) v1 o_me))
  else
  (bk_X9_never_61  rec_18_0 rec_30_1 v2 v3 v1 o_me))
def lp_X9_never_30  (rec_18_0 : Int32 × Int32 × Ob → Option (Int32 × Ob)) : Nat → (Int32 × Int32 × Int32 × Ob) → Option (Int32 × Ob) := zit (fun rec a => lb_X9_never_30  rec_18_0 rec a.1 a.2.1 a.2.2.1 a.2.2.2)
def lb_X9_never_18   (rec_18_0 : Int32 × Int32 × Ob → Option (Int32 × Ob)) (v1 : Int32) (v2 : Int32) (o_me : Ob) : Option (Int32 × Ob) :=
  if (4 : Int32) ≤ v2 then
  (some (v1, o_me))
  else
  ((f_X9_layRuns o_me v2).bind fun z3 =>
  lp_X9_never_30  rec_18_0 zfu (v1, v2, (0 : Int32), z3))
def lp_X9_never_18   : Nat → (Int32 × Int32 × Ob) → Option (Int32 × Ob) := zit (fun rec a => lb_X9_never_18   rec a.1 a.2.1 a.2.2)
def f_X9_never (o_me : Ob) : Option (Int32 × Ob) :=
  zlt (sI o_me 0 (0 : Int32)) fun o1 =>
  zlt (((1 : Int32) <<< ((gA o1 3 (0 : Int32).toNatClampNeg) &&& 31)) - (1 : Int32)) fun x2 =>
  lp_X9_never_18   zfu (x2, (0 : Int32), o1)
set_option maxHeartbeats 4000000 in
set_option maxRecDepth 100000 in
theorem m_X9_never (l : Launch) (dC : Nat → ClassId) (dI : Nat → Nat → Nat) (sz : Nat) (h_me : Nat) (q_me : Nat → Nat) (k_me : Nat → ClassId) (o_me : Ob) (y : Int32 × Ob) (h : f_X9_never o_me = some y) : CI l yX9_never cX9_never 4 (some .int) ({ frames := 7, cells := 0, slots := 0, locals := 167 } : Room) dC dI sz [.ref h_me] [wX9 h_me q_me k_me o_me] [tX9 k_me] y.1 [wX9 h_me q_me k_me y.2] := by
  refine CC_of (by decide) (Nat.le_of_ble_eq_true rfl) ?_
  intro p e s m below meth c A ls hx hb hml hr hlk hnm hown hts hX hK hP hD hA hl
  have hl : lv_has ls 4 [(0, .ref h_me)] := hl
  have hown : s.vm.findClass RX9 = some m.cls := hown
  have hw : Wd dC dI A s.heap [wX9 h_me q_me k_me o_me] s.heap [] := ⟨hP, hD, va_S.rf⟩
  generalize hQz : (MQ below (QI dC dI (fun r (_ : Unit) => r = y.1) (fun _ => Jn [wX9 h_me q_me k_me y.2]) (fun _ => Jt [tX9 k_me]) A) ([.ref h_me] : List Value).toArray s 0 0 A) = Qz
  clear hP hD hnm
  have bk_70_3 : ∀ (rec_18_0 : Int32 × Int32 × Ob → Option (Int32 × Ob)) (hrec_18_0 : ∀ (v1 : Int32) (v2 : Int32) (o_me : Ob) (H : Heap) (locs : List Loc) (ls : Array Slot), rec_18_0 (v1, v2, o_me) = some y → Wd dC dI A s.heap [wX9 h_me q_me k_me o_me] H locs → lv_has ls 4 [(0, .ref h_me), (1, .int v1), (2, .int v2)] → W p l e ({ frames := 7, cells := 0, slots := 0, locals := 167 } : Room) s m ([.ref h_me] : List Value).toArray below meth c H locs 0 0 Qz (F0 m 18 ls [])) (rec_30_1 : Int32 × Int32 × Int32 × Ob → Option (Int32 × Ob)) (hrec_30_1 : ∀ (v1 : Int32) (v2 : Int32) (v3 : Int32) (o_me : Ob) (H : Heap) (locs : List Loc) (ls : Array Slot), rec_30_1 (v1, v2, v3, o_me) = some y → Wd dC dI A s.heap [wX9 h_me q_me k_me o_me] H locs → lv_has ls 4 [(0, .ref h_me), (1, .int v1), (2, .int v2), (3, .int v3)] → W p l e ({ frames := 7, cells := 0, slots := 0, locals := 167 } : Room) s m ([.ref h_me] : List Value).toArray below meth c H locs 0 0 Qz (F0 m 30 ls [])), ∀ (v2 : Int32) (v3 : Int32) (s0 : Int32) (s1 : Int32) (o_me : Ob) (H : Heap) (locs : List Loc) (ls : Array Slot), bk_X9_never_70  rec_18_0 rec_30_1 v2 v3 s0 s1 o_me = some y → Wd dC dI A s.heap [wX9 h_me q_me k_me o_me] H locs → lv_has ls 4 [(0, .ref h_me), (2, .int v2), (3, .int v3)] → W p l e ({ frames := 7, cells := 0, slots := 0, locals := 167 } : Room) s m ([.ref h_me] : List Value).toArray below meth c H locs 0 0 Qz (F0 m 70 ls [.int s0, .int s1]) := by
    intro rec_18_0 hrec_18_0 rec_30_1 hrec_30_1
    intro v2 v3 s0 s1 o_me H locs ls h hw hl
    unfold bk_X9_never_70 at h
    refine lv_iand hx hb dX9_never_70 ?_
    obtain ⟨x6, ex6, h⟩ := z_lt h
    refine lv_fi (v := x6) ex6.symm ?_
    refine lv_istore_n (lv' := [(1, .int x6), (0, .ref h_me), (2, .int v2), (3, .int v3)]) hx hb dX9_never_71 rfl hl (by decide) rfl (fun ls hl => ?_)
    obtain ⟨x7, ex7, h⟩ := z_lt h
    refine lv_iinc (v := x7) (lv' := [(3, .int x7), (1, .int x6), (0, .ref h_me), (2, .int v2)]) hx hb dX9_never_72 hl (k := 3) rfl ((congrArg (v3 + ·) (show Int32.ofInt 1 = (1 : Int32) from by decide)).trans ex7.symm) (by decide) rfl (fun ls hl => ?_)
    refine lv_goto (tgt := 30) hx hb dX9_never_75 (by decide) ?_
    exact hrec_30_1 x6 v2 x7 o_me _ _ _ h hw (lv_sub hl [2, 1, 3, 0] rfl)
  have bk_61_2 : ∀ (rec_18_0 : Int32 × Int32 × Ob → Option (Int32 × Ob)) (hrec_18_0 : ∀ (v1 : Int32) (v2 : Int32) (o_me : Ob) (H : Heap) (locs : List Loc) (ls : Array Slot), rec_18_0 (v1, v2, o_me) = some y → Wd dC dI A s.heap [wX9 h_me q_me k_me o_me] H locs → lv_has ls 4 [(0, .ref h_me), (1, .int v1), (2, .int v2)] → W p l e ({ frames := 7, cells := 0, slots := 0, locals := 167 } : Room) s m ([.ref h_me] : List Value).toArray below meth c H locs 0 0 Qz (F0 m 18 ls [])) (rec_30_1 : Int32 × Int32 × Int32 × Ob → Option (Int32 × Ob)) (hrec_30_1 : ∀ (v1 : Int32) (v2 : Int32) (v3 : Int32) (o_me : Ob) (H : Heap) (locs : List Loc) (ls : Array Slot), rec_30_1 (v1, v2, v3, o_me) = some y → Wd dC dI A s.heap [wX9 h_me q_me k_me o_me] H locs → lv_has ls 4 [(0, .ref h_me), (1, .int v1), (2, .int v2), (3, .int v3)] → W p l e ({ frames := 7, cells := 0, slots := 0, locals := 167 } : Room) s m ([.ref h_me] : List Value).toArray below meth c H locs 0 0 Qz (F0 m 30 ls [])), ∀ (v2 : Int32) (v3 : Int32) (s0 : Int32) (o_me : Ob) (H : Heap) (locs : List Loc) (ls : Array Slot), bk_X9_never_61  rec_18_0 rec_30_1 v2 v3 s0 o_me = some y → Wd dC dI A s.heap [wX9 h_me q_me k_me o_me] H locs → lv_has ls 4 [(0, .ref h_me), (2, .int v2), (3, .int v3)] → W p l e ({ frames := 7, cells := 0, slots := 0, locals := 167 } : Room) s m ([.ref h_me] : List Value).toArray below meth c H locs 0 0 Qz (F0 m 61 ls [.int s0]) := by
    intro rec_18_0 hrec_18_0 rec_30_1 hrec_30_1
    intro v2 v3 s0 o_me H locs ls h hw hl
    unfold bk_X9_never_61 at h
    refine lv_iconst (v := (-1)) hx hb dX9_never_61 (by decide) ?_
    refine lv_goto (tgt := 70) hx hb dX9_never_62 (by decide) ?_
    exact bk_70_3 rec_18_0 hrec_18_0 rec_30_1 hrec_30_1 v2 v3 (-1 : Int32) s0 o_me _ _ _ h hw (lv_sub hl [0, 1, 2] rfl)
  have lp_30_1 : ∀ (rec_18_0 : Int32 × Int32 × Ob → Option (Int32 × Ob)) (hrec_18_0 : ∀ (v1 : Int32) (v2 : Int32) (o_me : Ob) (H : Heap) (locs : List Loc) (ls : Array Slot), rec_18_0 (v1, v2, o_me) = some y → Wd dC dI A s.heap [wX9 h_me q_me k_me o_me] H locs → lv_has ls 4 [(0, .ref h_me), (1, .int v1), (2, .int v2)] → W p l e ({ frames := 7, cells := 0, slots := 0, locals := 167 } : Room) s m ([.ref h_me] : List Value).toArray below meth c H locs 0 0 Qz (F0 m 18 ls [])) (N : Nat), ∀ (v1 : Int32) (v2 : Int32) (v3 : Int32) (o_me : Ob) (H : Heap) (locs : List Loc) (ls : Array Slot), lp_X9_never_30  rec_18_0 N (v1, v2, v3, o_me) = some y → Wd dC dI A s.heap [wX9 h_me q_me k_me o_me] H locs → lv_has ls 4 [(0, .ref h_me), (1, .int v1), (2, .int v2), (3, .int v3)] → W p l e ({ frames := 7, cells := 0, slots := 0, locals := 167 } : Room) s m ([.ref h_me] : List Value).toArray below meth c H locs 0 0 Qz (F0 m 30 ls []) := by
    intro rec_18_0 hrec_18_0
    intro N
    induction N with
    | zero =>
      intro v1 v2 v3 o_me H locs ls h hw hl
      exact absurd (show (none : Option (Int32 × Ob)) = some y from h) (by simp)
    | succ N ih =>
      intro v1 v2 v3 o_me H locs ls h hw hl
      have h : lb_X9_never_30  rec_18_0 (lp_X9_never_30  rec_18_0 N) v1 v2 v3 o_me = some y := h
      unfold lb_X9_never_30 at h
      refine lv_iload_n hx hb dX9_never_30 rfl (lv_at hl 3 rfl) ?_
      refine lv_aload_n hx hb dX9_never_31 rfl (lv_at hl 0 rfl) ?_
      refine fgX9_3 hx hb hts hown hK hw 0 rfl kw1179 dX9_never_32 ?_
      refine lv_iconst (v := 0) hx hb dX9_never_35 (by decide) ?_
      refine faX9_3 hx hb hK hw 0 rfl rfl (by decide) dX9_never_36 ?_
      refine lv_icmp_ge (tgt := 78) hx hb dX9_never_37 (by decide) (fun c => ?_) (fun c => ?_)
      · have h := z_t h c
        obtain ⟨x4, ex4, h⟩ := z_lt h
        refine lv_iinc (v := x4) (lv' := [(2, .int x4), (0, .ref h_me), (1, .int v1), (3, .int v3)]) hx hb dX9_never_78 hl (k := 2) rfl ((congrArg (v2 + ·) (show Int32.ofInt 1 = (1 : Int32) from by decide)).trans ex4.symm) (by decide) rfl (fun ls hl => ?_)
        refine lv_goto (tgt := 18) hx hb dX9_never_81 (by decide) ?_
        exact hrec_18_0 v1 x4 o_me _ _ _ h hw (lv_sub hl [1, 2, 0] rfl)
      · have h := z_f h c
        refine lv_iload_n hx hb dX9_never_40 rfl (lv_at hl 1 rfl) ?_
        refine lv_aload_n hx hb dX9_never_41 rfl (lv_at hl 0 rfl) ?_
        refine fgX9_44 hx hb hts hown hK hw 0 rfl kw1220 dX9_never_42 ?_
        refine lv_iload_n hx hb dX9_never_45 rfl (lv_at hl 3 rfl) ?_
        obtain ⟨g5, h⟩ := z_gd h
        refine faX9_44 hx hb hK hw 0 rfl rfl g5 dX9_never_46 ?_
        refine lv_if_ne (tgt := 61) hx hb dX9_never_47 (by decide) (fun c => ?_) (fun c => ?_)
        · have h := z_f h c
          exact bk_61_2 rec_18_0 hrec_18_0 (lp_X9_never_30  rec_18_0 N) ih v2 v3 v1 o_me _ _ _ h hw (lv_sub hl [0, 2, 3] rfl)
        · have h := z_t h c
          refine lv_aload_n hx hb dX9_never_50 rfl (lv_at hl 0 rfl) ?_
          refine lv_iload_n hx hb dX9_never_51 rfl (lv_at hl 3 rfl) ?_
          refine lv_bipush (v := 127) hx hb dX9_never_52 (by decide) ?_
          obtain ⟨z8, ez8, h⟩ := z_bd h
          refine xj_i (xrV (As := [.int v3, .int (127 : Int32)]) (rest := [.int v1]) ⟨hx, hb, hml, hown, hts⟩ (m_X9_placeOf l dC dI _ h_me q_me k_me o_me v3 (127 : Int32) z8 ez8) kw1711 kw1708 kw1710 kw91 kw120 hd_X9_placeOf ⟨rfl, rfl⟩ rfl rfl ⟨rfl, rfl⟩ hX hK hw [0] (by decide) rfl rfl rfl rfl rfl hl.1 rfl rfl dX9_never_54) hw hA [0] (by decide) rfl rfl (fun H locs hw => ?_)
          have hw : Wd dC dI A s.heap [wX9 h_me q_me k_me o_me] H locs := hw
          refine lv_iconst (v := 1) hx hb dX9_never_57 (by decide) ?_
          refine lv_icmp_ne (tgt := 65) hx hb dX9_never_58 (by decide) (fun c => ?_) (fun c => ?_)
          · have h := z_f h c
            refine lv_iconst (v := 1) hx hb dX9_never_65 (by decide) ?_
            refine lv_iload_n hx hb dX9_never_66 rfl (lv_at hl 3 rfl) ?_
            refine lv_ishl hx hb dX9_never_67 ?_
            refine lv_iconst (v := (-1)) hx hb dX9_never_68 (by decide) ?_
            refine lv_ixor hx hb dX9_never_69 ?_
            exact bk_70_3 rec_18_0 hrec_18_0 (lp_X9_never_30  rec_18_0 N) ih v2 v3 (((1 : Int32) <<< (v3 &&& 31)) ^^^ (-1 : Int32)) v1 o_me _ _ _ h hw (lv_sub hl [0, 2, 3] rfl)
          · have h := z_t h c
            exact bk_61_2 rec_18_0 hrec_18_0 (lp_X9_never_30  rec_18_0 N) ih v2 v3 v1 o_me _ _ _ h hw (lv_sub hl [0, 2, 3] rfl)
  have lp_18_0 : ∀ (N : Nat), ∀ (v1 : Int32) (v2 : Int32) (o_me : Ob) (H : Heap) (locs : List Loc) (ls : Array Slot), lp_X9_never_18   N (v1, v2, o_me) = some y → Wd dC dI A s.heap [wX9 h_me q_me k_me o_me] H locs → lv_has ls 4 [(0, .ref h_me), (1, .int v1), (2, .int v2)] → W p l e ({ frames := 7, cells := 0, slots := 0, locals := 167 } : Room) s m ([.ref h_me] : List Value).toArray below meth c H locs 0 0 Qz (F0 m 18 ls []) := by
    intro N
    induction N with
    | zero =>
      intro v1 v2 o_me H locs ls h hw hl
      exact absurd (show (none : Option (Int32 × Ob)) = some y from h) (by simp)
    | succ N ih =>
      intro v1 v2 o_me H locs ls h hw hl
      have h : lb_X9_never_18   (lp_X9_never_18   N) v1 v2 o_me = some y := h
      unfold lb_X9_never_18 at h
      refine lv_iload_n hx hb dX9_never_18 rfl (lv_at hl 2 rfl) ?_
      refine lv_iconst (v := 4) hx hb dX9_never_19 (by decide) ?_
      refine lv_icmp_ge (tgt := 84) hx hb dX9_never_20 (by decide) (fun c => ?_) (fun c => ?_)
      · have h := z_t h c
        refine lv_iload_n hx hb dX9_never_84 rfl (lv_at hl 1 rfl) ?_
        have hy := Option.some.inj h
        rw [← hQz, ← hy]
        exact xr_i (v := v1) hx hb hr rfl hlk hK hw dX9_never_85
      · have h := z_f h c
        refine lv_aload_n hx hb dX9_never_23 rfl (lv_at hl 0 rfl) ?_
        refine lv_iload_n hx hb dX9_never_24 rfl (lv_at hl 2 rfl) ?_
        obtain ⟨z3, ez3, h⟩ := z_bd h
        refine xj_v (xrV (As := [.int v2]) (rest := []) ⟨hx, hb, hml, hown, hts⟩ (m_X9_layRuns l dC dI _ h_me q_me k_me o_me v2 z3 ez3) kw1696 kw1693 kw1695 kw89 kw120 hd_X9_layRuns ⟨rfl, rfl⟩ rfl rfl ⟨rfl, rfl⟩ hX hK hw [0] (by decide) rfl rfl rfl rfl rfl hl.1 rfl rfl dX9_never_25) hw hA [0] (by decide) rfl rfl (fun H locs hw => ?_)
        have hw : Wd dC dI A s.heap [wX9 h_me q_me k_me z3] H locs := hw
        refine lv_iconst (v := 0) hx hb dX9_never_28 (by decide) ?_
        refine lv_istore_n (lv' := [(3, .int (0 : Int32)), (0, .ref h_me), (1, .int v1), (2, .int v2)]) hx hb dX9_never_29 rfl hl (by decide) rfl (fun ls hl => ?_)
        exact lp_30_1 (lp_X9_never_18   N) ih zfu v1 v2 (0 : Int32) z3 _ _ _ h hw (lv_sub hl [1, 2, 3, 0] rfl)
  unfold f_X9_never at h
  refine lv_aload_n hx hb dX9_never_0 rfl (lv_at hl 0 rfl) ?_
  refine lv_iconst (v := 0) hx hb dX9_never_1 (by decide) ?_
  refine fpX9_0 hx hb hts hown hK hw 0 rfl kw1176 dX9_never_2 (fun H locs hw => ?_)
  obtain ⟨o1, eo1, h⟩ := z_lt h
  have hw : Wd dC dI A s.heap [wX9 h_me q_me k_me o1] H locs := by rw [eo1]; exact hw
  refine lv_iconst (v := 1) hx hb dX9_never_5 (by decide) ?_
  refine lv_aload_n hx hb dX9_never_6 rfl (lv_at hl 0 rfl) ?_
  refine fgX9_3 hx hb hts hown hK hw 0 rfl kw1179 dX9_never_7 ?_
  refine lv_iconst (v := 0) hx hb dX9_never_10 (by decide) ?_
  refine faX9_3 hx hb hK hw 0 rfl rfl (by decide) dX9_never_11 ?_
  refine lv_ishl hx hb dX9_never_12 ?_
  refine lv_iconst (v := 1) hx hb dX9_never_13 (by decide) ?_
  refine lv_isub hx hb dX9_never_14 ?_
  obtain ⟨x2, ex2, h⟩ := z_lt h
  refine lv_fi (v := x2) ex2.symm ?_
  refine lv_istore_n (lv' := [(1, .int x2), (0, .ref h_me)]) hx hb dX9_never_15 rfl hl (by decide) rfl (fun ls hl => ?_)
  refine lv_iconst (v := 0) hx hb dX9_never_16 (by decide) ?_
  refine lv_istore_n (lv' := [(2, .int (0 : Int32)), (1, .int x2), (0, .ref h_me)]) hx hb dX9_never_17 rfl hl (by decide) rfl (fun ls hl => ?_)
  exact lp_18_0  zfu x2 (0 : Int32) o1 _ _ _ h hw (lv_sub hl [2, 1, 0] rfl)

def f_X9_of (o_me : Ob) (p0 : Int32) (p1 : Int32) : Option (Int32 × Ob) :=
  zlt (sI o_me 0 (0 : Int32)) fun o1 =>
  (f_X9_isPerson o1 p0).bind fun z2 =>
  if z2 = (0 : Int32) then
  (some ((-1 : Int32), o1))
  else
  ((f_X9_in p1.toInt64 (0 : Int64) (15 : Int64)).bind fun z3 =>
  if z3 = (0 : Int32) then
  (some ((-1 : Int32), o1))
  else
  (if p1 = (0 : Int32) then
  (zgd (zin ((8 : Int32) + p0) 5484) <|
  some (gA o1 3 ((8 : Int32) + p0).toNatClampNeg, o1))
  else
  (if p1 = (1 : Int32) then
  (zgd (zin ((15 : Int32) + p0) 5484) <|
  some (gA o1 3 ((15 : Int32) + p0).toNatClampNeg, o1))
  else
  (if p1 = (2 : Int32) then
  (zgd (zin ((22 : Int32) + p0) 5484) <|
  some (gA o1 3 ((22 : Int32) + p0).toNatClampNeg, o1))
  else
  (if p1 = (3 : Int32) then
  (zgd (zin ((29 : Int32) + p0) 5484) <|
  some (gA o1 3 ((29 : Int32) + p0).toNatClampNeg, o1))
  else
  (zlt (p1 - p1 / (4 : Int32) * (4 : Int32)) fun x9 =>
  if (8 : Int32) ≤ p1 then
  (if (12 : Int32) ≤ p1 then
  ((f_X9_isBarred o1 p0 x9).bind fun z10 =>
  if z10.1 = (0 : Int32) then
  (some ((0 : Int32), z10.2))
  else
  (some ((1 : Int32), z10.2)))
  else
  ((f_X9_runsOf o1 p0 x9).bind fun z11 =>
  some (z11.1, z11.2)))
  else
  (zgd (zin (((36 : Int32) + ((4 : Int32) * p0)) + x9) 5484) <|
  some (gA o1 3 (((36 : Int32) + ((4 : Int32) * p0)) + x9).toNatClampNeg, o1))))))))
set_option maxHeartbeats 4000000 in
set_option maxRecDepth 100000 in
theorem m_X9_of (l : Launch) (dC : Nat → ClassId) (dI : Nat → Nat → Nat) (sz : Nat) (h_me : Nat) (q_me : Nat → Nat) (k_me : Nat → ClassId) (o_me : Ob) (p0 : Int32) (p1 : Int32) (y : Int32 × Ob) (h : f_X9_of o_me p0 p1 = some y) : CI l yX9_of cX9_of 4 (some .int) ({ frames := 6, cells := 0, slots := 0, locals := 145 } : Room) dC dI sz [.ref h_me, .int p0, .int p1] [wX9 h_me q_me k_me o_me] [tX9 k_me] y.1 [wX9 h_me q_me k_me y.2] := by
  refine CC_of (by decide) (Nat.le_of_ble_eq_true rfl) ?_
  intro p e s m below meth c A ls hx hb hml hr hlk hnm hown hts hX hK hP hD hA hl
  have hl : lv_has ls 4 [(0, .ref h_me), (1, .int p0), (2, .int p1)] := hl
  have hown : s.vm.findClass RX9 = some m.cls := hown
  have hw : Wd dC dI A s.heap [wX9 h_me q_me k_me o_me] s.heap [] := ⟨hP, hD, va_S.rf⟩
  generalize hQz : (MQ below (QI dC dI (fun r (_ : Unit) => r = y.1) (fun _ => Jn [wX9 h_me q_me k_me y.2]) (fun _ => Jt [tX9 k_me]) A) ([.ref h_me, .int p0, .int p1] : List Value).toArray s 0 0 A) = Qz
  clear hP hD hnm
  unfold f_X9_of at h
  refine lv_aload_n hx hb dX9_of_0 rfl (lv_at hl 0 rfl) ?_
  refine lv_iconst (v := 0) hx hb dX9_of_1 (by decide) ?_
  refine fpX9_0 hx hb hts hown hK hw 0 rfl kw1176 dX9_of_2 (fun H locs hw => ?_)
  obtain ⟨o1, eo1, h⟩ := z_lt h
  have hw : Wd dC dI A s.heap [wX9 h_me q_me k_me o1] H locs := by rw [eo1]; exact hw
  refine lv_aload_n hx hb dX9_of_5 rfl (lv_at hl 0 rfl) ?_
  refine lv_iload_n hx hb dX9_of_6 rfl (lv_at hl 1 rfl) ?_
  obtain ⟨z2, ez2, h⟩ := z_bd h
  refine xj_i (xrV (As := [.int p0]) (rest := []) ⟨hx, hb, hml, hown, hts⟩ (m_X9_isPerson l dC dI _ h_me q_me k_me o1 p0 z2 ez2) kw1402 kw1399 kw1401 kw42 kw120 hd_X9_isPerson ⟨rfl, rfl⟩ rfl rfl ⟨rfl, rfl⟩ hX hK hw [0] (by decide) rfl rfl rfl rfl rfl hl.1 rfl rfl dX9_of_7) hw hA [0] (by decide) rfl rfl (fun H locs hw => ?_)
  have hw : Wd dC dI A s.heap [wX9 h_me q_me k_me o1] H locs := hw
  refine lv_if_eq (tgt := 25) hx hb dX9_of_10 (by decide) (fun c => ?_) (fun c => ?_)
  · have h := z_t h c
    refine lv_iconst (v := (-1)) hx hb dX9_of_25 (by decide) ?_
    have hy := Option.some.inj h
    rw [← hQz, ← hy]
    exact xr_i (v := (-1 : Int32)) hx hb hr rfl hlk hK hw dX9_of_26
  · have h := z_f h c
    refine lv_iload_n hx hb dX9_of_13 rfl (lv_at hl 2 rfl) ?_
    refine lv_i2l hx hb dX9_of_14 rfl ?_
    refine lv_lconst (v := 0) hx hb dX9_of_15 (by decide) ?_
    refine lv_ldc2 (v := 15) hx hb hown (hts _ kw1407) dX9_of_16 ?_
    obtain ⟨z3, ez3, h⟩ := z_bd h
    refine xj_i (xrS (As := [.long p1.toInt64, .long (0 : Int64), .long (15 : Int64)]) (rest := []) ⟨hx, hb, hml, hown, hts⟩ (m_X9_in l dC dI _  p1.toInt64 (0 : Int64) (15 : Int64) z3 ez3) kw1385 kw1383 kw1384 kw120 hd_X9_in ⟨rfl, rfl⟩ rfl rfl ⟨rfl, rfl⟩ hX hK hw [] (by decide) rfl rfl hl.1 rfl rfl dX9_of_19) hw hA [] (by decide) rfl rfl (fun H locs hw => ?_)
    refine lv_if_ne (tgt := 27) hx hb dX9_of_22 (by decide) (fun c => ?_) (fun c => ?_)
    · have h := z_f h c
      refine lv_iload_n hx hb dX9_of_27 rfl (lv_at hl 2 rfl) ?_
      rcases (show p1.toInt = 0 ∨ p1.toInt = 1 ∨ p1.toInt = 2 ∨ p1.toInt = 3 ∨ (p1.toInt < 0 ∨ 3 < p1.toInt) by omega) with c4 | c4 | c4 | c4 | c4
      · skip
        have ec4 : p1 = (0 : Int32) := Int32.toInt_inj.mp (c4.trans (by decide))
        have h := z_t h ec4
        refine lv_fi (v := 0) ec4 ?_
        refine lv_tableIn (tgt := 60) hx hb dX9_of_28 (by decide) (by decide) rfl (by decide) ?_
        refine lv_aload_n hx hb dX9_of_60 rfl (lv_at hl 0 rfl) ?_
        refine fgX9_3 hx hb hts hown hK hw 0 rfl kw1179 dX9_of_61 ?_
        refine lv_bipush (v := 8) hx hb dX9_of_64 (by decide) ?_
        refine lv_iload_n hx hb dX9_of_66 rfl (lv_at hl 1 rfl) ?_
        refine lv_iadd hx hb dX9_of_67 ?_
        obtain ⟨g5, h⟩ := z_gd h
        refine faX9_3 hx hb hK hw 0 rfl rfl g5 dX9_of_68 ?_
        have hy := Option.some.inj h
        rw [← hQz, ← hy]
        exact xr_i (v := gA o1 3 ((8 : Int32) + p0).toNatClampNeg) hx hb hr rfl hlk hK hw dX9_of_69
      · skip
        have h := z_f h (fun e9 => by rw [e9] at c4; revert c4; decide)
        have ec4 : p1 = (1 : Int32) := Int32.toInt_inj.mp (c4.trans (by decide))
        have h := z_t h ec4
        refine lv_fi (v := 1) ec4 ?_
        refine lv_tableIn (tgt := 70) hx hb dX9_of_28 (by decide) (by decide) rfl (by decide) ?_
        refine lv_aload_n hx hb dX9_of_70 rfl (lv_at hl 0 rfl) ?_
        refine fgX9_3 hx hb hts hown hK hw 0 rfl kw1179 dX9_of_71 ?_
        refine lv_bipush (v := 15) hx hb dX9_of_74 (by decide) ?_
        refine lv_iload_n hx hb dX9_of_76 rfl (lv_at hl 1 rfl) ?_
        refine lv_iadd hx hb dX9_of_77 ?_
        obtain ⟨g6, h⟩ := z_gd h
        refine faX9_3 hx hb hK hw 0 rfl rfl g6 dX9_of_78 ?_
        have hy := Option.some.inj h
        rw [← hQz, ← hy]
        exact xr_i (v := gA o1 3 ((15 : Int32) + p0).toNatClampNeg) hx hb hr rfl hlk hK hw dX9_of_79
      · skip
        have h := z_f h (fun e9 => by rw [e9] at c4; revert c4; decide)
        have h := z_f h (fun e9 => by rw [e9] at c4; revert c4; decide)
        have ec4 : p1 = (2 : Int32) := Int32.toInt_inj.mp (c4.trans (by decide))
        have h := z_t h ec4
        refine lv_fi (v := 2) ec4 ?_
        refine lv_tableIn (tgt := 80) hx hb dX9_of_28 (by decide) (by decide) rfl (by decide) ?_
        refine lv_aload_n hx hb dX9_of_80 rfl (lv_at hl 0 rfl) ?_
        refine fgX9_3 hx hb hts hown hK hw 0 rfl kw1179 dX9_of_81 ?_
        refine lv_bipush (v := 22) hx hb dX9_of_84 (by decide) ?_
        refine lv_iload_n hx hb dX9_of_86 rfl (lv_at hl 1 rfl) ?_
        refine lv_iadd hx hb dX9_of_87 ?_
        obtain ⟨g7, h⟩ := z_gd h
        refine faX9_3 hx hb hK hw 0 rfl rfl g7 dX9_of_88 ?_
        have hy := Option.some.inj h
        rw [← hQz, ← hy]
        exact xr_i (v := gA o1 3 ((22 : Int32) + p0).toNatClampNeg) hx hb hr rfl hlk hK hw dX9_of_89
      · skip
        have h := z_f h (fun e9 => by rw [e9] at c4; revert c4; decide)
        have h := z_f h (fun e9 => by rw [e9] at c4; revert c4; decide)
        have h := z_f h (fun e9 => by rw [e9] at c4; revert c4; decide)
        have ec4 : p1 = (3 : Int32) := Int32.toInt_inj.mp (c4.trans (by decide))
        have h := z_t h ec4
        refine lv_fi (v := 3) ec4 ?_
        refine lv_tableIn (tgt := 90) hx hb dX9_of_28 (by decide) (by decide) rfl (by decide) ?_
        refine lv_aload_n hx hb dX9_of_90 rfl (lv_at hl 0 rfl) ?_
        refine fgX9_3 hx hb hts hown hK hw 0 rfl kw1179 dX9_of_91 ?_
        refine lv_bipush (v := 29) hx hb dX9_of_94 (by decide) ?_
        refine lv_iload_n hx hb dX9_of_96 rfl (lv_at hl 1 rfl) ?_
        refine lv_iadd hx hb dX9_of_97 ?_
        obtain ⟨g8, h⟩ := z_gd h
        refine faX9_3 hx hb hK hw 0 rfl rfl g8 dX9_of_98 ?_
        have hy := Option.some.inj h
        rw [← hQz, ← hy]
        exact xr_i (v := gA o1 3 ((29 : Int32) + p0).toNatClampNeg) hx hb hr rfl hlk hK hw dX9_of_99
      · skip
        have h := z_f h (fun e9 => by rw [e9] at c4; revert c4; decide)
        have h := z_f h (fun e9 => by rw [e9] at c4; revert c4; decide)
        have h := z_f h (fun e9 => by rw [e9] at c4; revert c4; decide)
        have h := z_f h (fun e9 => by rw [e9] at c4; revert c4; decide)
        refine lv_tableOut (tgt := 100) hx hb dX9_of_28 c4 (by decide) ?_
        refine lv_iload_n hx hb dX9_of_100 rfl (lv_at hl 2 rfl) ?_
        refine lv_iconst (v := 4) hx hb dX9_of_101 (by decide) ?_
        refine lv_irem hx hb dX9_of_102 (by decide) ?_
        obtain ⟨x9, ex9, h⟩ := z_lt h
        refine lv_fi (v := x9) ex9.symm ?_
        refine lv_istore_n (lv' := [(3, .int x9), (0, .ref h_me), (1, .int p0), (2, .int p1)]) hx hb dX9_of_103 rfl hl (by decide) rfl (fun ls hl => ?_)
        refine lv_iload_n hx hb dX9_of_104 rfl (lv_at hl 3 rfl) ?_
        refine lv_bipush (v := 8) hx hb dX9_of_105 (by decide) ?_
        refine lv_icmp_ge (tgt := 126) hx hb dX9_of_107 (by decide) (fun c => ?_) (fun c => ?_)
        · have h := z_t h c
          refine lv_iload_n hx hb dX9_of_126 rfl (lv_at hl 3 rfl) ?_
          refine lv_bipush (v := 12) hx hb dX9_of_127 (by decide) ?_
          refine lv_icmp_ge (tgt := 141) hx hb dX9_of_129 (by decide) (fun c => ?_) (fun c => ?_)
          · have h := z_t h c
            refine lv_aload_n hx hb dX9_of_141 rfl (lv_at hl 1 rfl) ?_
            refine lv_iload_n hx hb dX9_of_142 rfl (lv_at hl 2 rfl) ?_
            refine lv_iload_n hx hb dX9_of_143 rfl (lv_at hl 0 rfl) ?_
            obtain ⟨z10, ez10, h⟩ := z_bd h
            refine xj_i (xrV (As := [.int p0, .int x9]) (rest := []) ⟨hx, hb, hml, hown, hts⟩ (m_X9_isBarred l dC dI _ h_me q_me k_me o1 p0 x9 z10 ez10) kw1437 kw1434 kw1436 kw48 kw120 hd_X9_isBarred ⟨rfl, rfl⟩ rfl rfl ⟨rfl, rfl⟩ hX hK hw [0] (by decide) rfl rfl rfl rfl rfl hl.1 rfl rfl dX9_of_144) hw hA [0] (by decide) rfl rfl (fun H locs hw => ?_)
            have hw : Wd dC dI A s.heap [wX9 h_me q_me k_me z10.2] H locs := hw
            refine lv_if_eq (tgt := 154) hx hb dX9_of_147 (by decide) (fun c => ?_) (fun c => ?_)
            · have h := z_t h c
              refine lv_iconst (v := 0) hx hb dX9_of_154 (by decide) ?_
              have hy := Option.some.inj h
              rw [← hQz, ← hy]
              exact xr_i (v := (0 : Int32)) hx hb hr rfl hlk hK hw dX9_of_155
            · have h := z_f h c
              refine lv_iconst (v := 1) hx hb dX9_of_150 (by decide) ?_
              refine lv_goto (tgt := 155) hx hb dX9_of_151 (by decide) ?_
              have hy := Option.some.inj h
              rw [← hQz, ← hy]
              exact xr_i (v := (1 : Int32)) hx hb hr rfl hlk hK hw dX9_of_155
          · have h := z_f h c
            refine lv_aload_n hx hb dX9_of_132 rfl (lv_at hl 1 rfl) ?_
            refine lv_iload_n hx hb dX9_of_133 rfl (lv_at hl 2 rfl) ?_
            refine lv_iload_n hx hb dX9_of_134 rfl (lv_at hl 0 rfl) ?_
            obtain ⟨z11, ez11, h⟩ := z_bd h
            refine xj_i (xrV (As := [.int p0, .int x9]) (rest := []) ⟨hx, hb, hml, hown, hts⟩ (m_X9_runsOf l dC dI _ h_me q_me k_me o1 p0 x9 z11 ez11) kw1411 kw1408 kw1410 kw43 kw120 hd_X9_runsOf ⟨rfl, rfl⟩ rfl rfl ⟨rfl, rfl⟩ hX hK hw [0] (by decide) rfl rfl rfl rfl rfl hl.1 rfl rfl dX9_of_135) hw hA [0] (by decide) rfl rfl (fun H locs hw => ?_)
            have hw : Wd dC dI A s.heap [wX9 h_me q_me k_me z11.2] H locs := hw
            refine lv_goto (tgt := 155) hx hb dX9_of_138 (by decide) ?_
            have hy := Option.some.inj h
            rw [← hQz, ← hy]
            exact xr_i (v := z11.1) hx hb hr rfl hlk hK hw dX9_of_155
        · have h := z_f h c
          refine lv_aload_n hx hb dX9_of_110 rfl (lv_at hl 1 rfl) ?_
          refine fgX9_3 hx hb hts hown hK hw 0 rfl kw1179 dX9_of_111 ?_
          refine lv_bipush (v := 36) hx hb dX9_of_114 (by decide) ?_
          refine lv_iconst (v := 4) hx hb dX9_of_116 (by decide) ?_
          refine lv_iload_n hx hb dX9_of_117 rfl (lv_at hl 2 rfl) ?_
          refine lv_imul hx hb dX9_of_118 ?_
          refine lv_iadd hx hb dX9_of_119 ?_
          refine lv_iload_n hx hb dX9_of_120 rfl (lv_at hl 0 rfl) ?_
          refine lv_iadd hx hb dX9_of_121 ?_
          obtain ⟨g12, h⟩ := z_gd h
          refine faX9_3 hx hb hK hw 0 rfl rfl g12 dX9_of_122 ?_
          refine lv_goto (tgt := 155) hx hb dX9_of_123 (by decide) ?_
          have hy := Option.some.inj h
          rw [← hQz, ← hy]
          exact xr_i (v := gA o1 3 (((36 : Int32) + ((4 : Int32) * p0)) + x9).toNatClampNeg) hx hb hr rfl hlk hK hw dX9_of_155
    · have h := z_t h c
      refine lv_iconst (v := (-1)) hx hb dX9_of_25 (by decide) ?_
      have hy := Option.some.inj h
      rw [← hQz, ← hy]
      exact xr_i (v := (-1 : Int32)) hx hb hr rfl hlk hK hw dX9_of_26

def f_X9_orderSum (o_me : Ob) (p0 : Int32) : Option (Int32 × Ob) :=
  if (gI o_me 59) = (0 : Int32) then
  (zgd (zin p0 96) <|
  zgd (zin (p0 + (1 : Int32)) 96) <|
  if (gA o_me 55 p0.toNatClampNeg) = (gA o_me 55 (p0 + (1 : Int32)).toNatClampNeg) then
  (some ((-1 : Int32), o_me))
  else
  (zlt (sI o_me 20 (1 : Int32)) fun o3 =>
  zgd (zin p0 96) <|
  zgd (zin (p0 + (1 : Int32)) 96) <|
  (f_X9_reckonAll o3 (gA o3 55 p0.toNatClampNeg) (gA o3 55 (p0 + (1 : Int32)).toNatClampNeg)).bind fun z6 =>
  zlt (sI z6 20 (0 : Int32)) fun o7 =>
  zgd (zbo (gI o7 38)) <|
  zlt (sI o7 59 (gI o7 38)) fun o9 =>
  some ((gL o9 39).toInt32, o9)))
  else
  (some ((-1 : Int32), o_me))
set_option maxHeartbeats 4000000 in
set_option maxRecDepth 100000 in
theorem m_X9_orderSum (l : Launch) (dC : Nat → ClassId) (dI : Nat → Nat → Nat) (sz : Nat) (h_me : Nat) (q_me : Nat → Nat) (k_me : Nat → ClassId) (o_me : Ob) (p0 : Int32) (y : Int32 × Ob) (h : f_X9_orderSum o_me p0 = some y) : CI l yX9_orderSum cX9_orderSum 2 (some .int) ({ frames := 3, cells := 0, slots := 0, locals := 72 } : Room) dC dI sz [.ref h_me, .int p0] [wX9 h_me q_me k_me o_me] [tX9 k_me] y.1 [wX9 h_me q_me k_me y.2] := by
  refine CC_of (by decide) (Nat.le_of_ble_eq_true rfl) ?_
  intro p e s m below meth c A ls hx hb hml hr hlk hnm hown hts hX hK hP hD hA hl
  have hl : lv_has ls 2 [(0, .ref h_me), (1, .int p0)] := hl
  have hown : s.vm.findClass RX9 = some m.cls := hown
  have hw : Wd dC dI A s.heap [wX9 h_me q_me k_me o_me] s.heap [] := ⟨hP, hD, va_S.rf⟩
  generalize hQz : (MQ below (QI dC dI (fun r (_ : Unit) => r = y.1) (fun _ => Jn [wX9 h_me q_me k_me y.2]) (fun _ => Jt [tX9 k_me]) A) ([.ref h_me, .int p0] : List Value).toArray s 0 0 A) = Qz
  clear hP hD hnm
  unfold f_X9_orderSum at h
  refine lv_aload_n hx hb dX9_orderSum_0 rfl (lv_at hl 0 rfl) ?_
  refine fgX9_59 hx hb hts hown hK hw 0 rfl kw1235 dX9_orderSum_1 ?_
  refine lv_if_ne (tgt := 24) hx hb dX9_orderSum_4 (by decide) (fun c => ?_) (fun c => ?_)
  · have h := z_f h c
    refine lv_iconst (v := (-1)) hx hb dX9_orderSum_24 (by decide) ?_
    have hy := Option.some.inj h
    rw [← hQz, ← hy]
    exact xr_i (v := (-1 : Int32)) hx hb hr rfl hlk hK hw dX9_orderSum_25
  · have h := z_t h c
    refine lv_aload_n hx hb dX9_orderSum_7 rfl (lv_at hl 0 rfl) ?_
    refine fgX9_55 hx hb hts hown hK hw 0 rfl kw1231 dX9_orderSum_8 ?_
    refine lv_iload_n hx hb dX9_orderSum_11 rfl (lv_at hl 1 rfl) ?_
    obtain ⟨g1, h⟩ := z_gd h
    refine faX9_55 hx hb hK hw 0 rfl rfl g1 dX9_orderSum_12 ?_
    refine lv_aload_n hx hb dX9_orderSum_13 rfl (lv_at hl 0 rfl) ?_
    refine fgX9_55 hx hb hts hown hK hw 0 rfl kw1231 dX9_orderSum_14 ?_
    refine lv_iload_n hx hb dX9_orderSum_17 rfl (lv_at hl 1 rfl) ?_
    refine lv_iconst (v := 1) hx hb dX9_orderSum_18 (by decide) ?_
    refine lv_iadd hx hb dX9_orderSum_19 ?_
    obtain ⟨g2, h⟩ := z_gd h
    refine faX9_55 hx hb hK hw 0 rfl rfl g2 dX9_orderSum_20 ?_
    refine lv_icmp_ne (tgt := 26) hx hb dX9_orderSum_21 (by decide) (fun c => ?_) (fun c => ?_)
    · have h := z_f h c
      refine lv_aload_n hx hb dX9_orderSum_26 rfl (lv_at hl 0 rfl) ?_
      refine lv_iconst (v := 1) hx hb dX9_orderSum_27 (by decide) ?_
      refine fpX9_20 hx hb hts hown hK hw 0 rfl kw1196 (by decide) dX9_orderSum_28 (fun H locs hw => ?_)
      obtain ⟨o3, eo3, h⟩ := z_lt h
      have hw : Wd dC dI A s.heap [wX9 h_me q_me k_me o3] H locs := by rw [eo3]; exact hw
      refine lv_aload_n hx hb dX9_orderSum_31 rfl (lv_at hl 0 rfl) ?_
      refine lv_aload_n hx hb dX9_orderSum_32 rfl (lv_at hl 0 rfl) ?_
      refine fgX9_55 hx hb hts hown hK hw 0 rfl kw1231 dX9_orderSum_33 ?_
      refine lv_iload_n hx hb dX9_orderSum_36 rfl (lv_at hl 1 rfl) ?_
      obtain ⟨g4, h⟩ := z_gd h
      refine faX9_55 hx hb hK hw 0 rfl rfl g4 dX9_orderSum_37 ?_
      refine lv_aload_n hx hb dX9_orderSum_38 rfl (lv_at hl 0 rfl) ?_
      refine fgX9_55 hx hb hts hown hK hw 0 rfl kw1231 dX9_orderSum_39 ?_
      refine lv_iload_n hx hb dX9_orderSum_42 rfl (lv_at hl 1 rfl) ?_
      refine lv_iconst (v := 1) hx hb dX9_orderSum_43 (by decide) ?_
      refine lv_iadd hx hb dX9_orderSum_44 ?_
      obtain ⟨g5, h⟩ := z_gd h
      refine faX9_55 hx hb hK hw 0 rfl rfl g5 dX9_orderSum_45 ?_
      obtain ⟨z6, ez6, h⟩ := z_bd h
      refine xj_v (xrV (As := [.int (gA o3 55 p0.toNatClampNeg), .int (gA o3 55 (p0 + (1 : Int32)).toNatClampNeg)]) (rest := []) ⟨hx, hb, hml, hown, hts⟩ (m_X9_reckonAll l dC dI _ h_me q_me k_me o3 (gA o3 55 p0.toNatClampNeg) (gA o3 55 (p0 + (1 : Int32)).toNatClampNeg) z6 ez6) kw1423 kw1420 kw1422 kw46 kw120 hd_X9_reckonAll ⟨rfl, rfl⟩ rfl rfl ⟨rfl, rfl⟩ hX hK hw [0] (by decide) rfl rfl rfl rfl rfl hl.1 rfl rfl dX9_orderSum_46) hw hA [0] (by decide) rfl rfl (fun H locs hw => ?_)
      have hw : Wd dC dI A s.heap [wX9 h_me q_me k_me z6] H locs := hw
      refine lv_aload_n hx hb dX9_orderSum_49 rfl (lv_at hl 0 rfl) ?_
      refine lv_iconst (v := 0) hx hb dX9_orderSum_50 (by decide) ?_
      refine fpX9_20 hx hb hts hown hK hw 0 rfl kw1196 (by decide) dX9_orderSum_51 (fun H locs hw => ?_)
      obtain ⟨o7, eo7, h⟩ := z_lt h
      have hw : Wd dC dI A s.heap [wX9 h_me q_me k_me o7] H locs := by rw [eo7]; exact hw
      refine lv_aload_n hx hb dX9_orderSum_54 rfl (lv_at hl 0 rfl) ?_
      refine lv_aload_n hx hb dX9_orderSum_55 rfl (lv_at hl 0 rfl) ?_
      refine fgX9_38 hx hb hts hown hK hw 0 rfl kw1214 dX9_orderSum_56 ?_
      obtain ⟨g8, h⟩ := z_gd h
      refine fpX9_59 hx hb hts hown hK hw 0 rfl kw1235 g8 dX9_orderSum_59 (fun H locs hw => ?_)
      obtain ⟨o9, eo9, h⟩ := z_lt h
      have hw : Wd dC dI A s.heap [wX9 h_me q_me k_me o9] H locs := by rw [eo9]; exact hw
      refine lv_aload_n hx hb dX9_orderSum_62 rfl (lv_at hl 0 rfl) ?_
      refine fgX9_39 hx hb hts hown hK hw 0 rfl kw1215 dX9_orderSum_63 ?_
      refine lv_l2i hx hb dX9_orderSum_66 rfl ?_
      have hy := Option.some.inj h
      rw [← hQz, ← hy]
      exact xr_i (v := (gL o9 39).toInt32) hx hb hr rfl hlk hK hw dX9_orderSum_67
    · have h := z_t h c
      refine lv_iconst (v := (-1)) hx hb dX9_orderSum_24 (by decide) ?_
      have hy := Option.some.inj h
      rw [← hQz, ← hy]
      exact xr_i (v := (-1 : Int32)) hx hb hr rfl hlk hK hw dX9_orderSum_25

def bk_X9_readSum_22   (v1 : Int32) (o_me : Ob) : Option (Ob) :=
  zgd (zin (v1 + (1 : Int32)) 96) <|
  zlt (tA o_me 55 (v1 + (1 : Int32)).toNatClampNeg (gI o_me 23)) fun o4 =>
  some o4
def f_X9_readSum (o_me : Ob) (p0 : Int32) : Option (Ob) :=
  zgd (zin p0 96) <|
  zlt (tA o_me 55 p0.toNatClampNeg (gI o_me 23)) fun o2 =>
  if (gI o2 19) = (0 : Int32) then
  ((f_X9_readExpression o2 (0 : Int32)).bind fun z5 =>
  bk_X9_readSum_22   p0 z5)
  else
  (bk_X9_readSum_22   p0 o2)
set_option maxHeartbeats 4000000 in
set_option maxRecDepth 100000 in
theorem m_X9_readSum (l : Launch) (dC : Nat → ClassId) (dI : Nat → Nat → Nat) (sz : Nat) (h_me : Nat) (q_me : Nat → Nat) (k_me : Nat → ClassId) (o_me : Ob) (p0 : Int32) (y : Ob) (h : f_X9_readSum o_me p0 = some y) : CV l yX9_readSum cX9_readSum 2 none ({ frames := 7, cells := 0, slots := 0, locals := 151 } : Room) dC dI sz [.ref h_me, .int p0] [wX9 h_me q_me k_me o_me] [tX9 k_me] [wX9 h_me q_me k_me y] := by
  refine CC_of (by decide) (Nat.le_of_ble_eq_true rfl) ?_
  intro p e s m below meth c A ls hx hb hml hr hlk hnm hown hts hX hK hP hD hA hl
  have hl : lv_has ls 2 [(0, .ref h_me), (1, .int p0)] := hl
  have hown : s.vm.findClass RX9 = some m.cls := hown
  have hw : Wd dC dI A s.heap [wX9 h_me q_me k_me o_me] s.heap [] := ⟨hP, hD, va_S.rf⟩
  generalize hQz : (MQ below (QV dC dI (fun (_ : Unit) => True) (fun _ => Jn [wX9 h_me q_me k_me y]) (fun _ => Jt [tX9 k_me]) A) ([.ref h_me, .int p0] : List Value).toArray s 0 0 A) = Qz
  clear hP hD hnm
  have bk_22_0 : ∀ (v1 : Int32) (o_me : Ob) (H : Heap) (locs : List Loc) (ls : Array Slot), bk_X9_readSum_22   v1 o_me = some y → Wd dC dI A s.heap [wX9 h_me q_me k_me o_me] H locs → lv_has ls 2 [(0, .ref h_me), (1, .int v1)] → W p l e ({ frames := 7, cells := 0, slots := 0, locals := 151 } : Room) s m ([.ref h_me, .int p0] : List Value).toArray below meth c H locs 0 0 Qz (F0 m 22 ls []) := by
    intro v1 o_me H locs ls h hw hl
    unfold bk_X9_readSum_22 at h
    refine lv_aload_n hx hb dX9_readSum_22 rfl (lv_at hl 0 rfl) ?_
    refine fgX9_55 hx hb hts hown hK hw 0 rfl kw1231 dX9_readSum_23 ?_
    refine lv_iload_n hx hb dX9_readSum_26 rfl (lv_at hl 1 rfl) ?_
    refine lv_iconst (v := 1) hx hb dX9_readSum_27 (by decide) ?_
    refine lv_iadd hx hb dX9_readSum_28 ?_
    refine lv_aload_n hx hb dX9_readSum_29 rfl (lv_at hl 0 rfl) ?_
    refine fgX9_23 hx hb hts hown hK hw 0 rfl kw1199 dX9_readSum_30 ?_
    obtain ⟨g3, h⟩ := z_gd h
    refine fbX9_55 hx hb hK hw 0 rfl rfl g3 dX9_readSum_33 (fun H locs hw => ?_)
    obtain ⟨o4, eo4, h⟩ := z_lt h
    have hw : Wd dC dI A s.heap [wX9 h_me q_me k_me o4] H locs := by rw [eo4]; exact hw
    have hy := Option.some.inj h
    rw [← hQz, ← hy]
    exact xr_v hx hb hr hlk hK hw dX9_readSum_34
  unfold f_X9_readSum at h
  refine lv_aload_n hx hb dX9_readSum_0 rfl (lv_at hl 0 rfl) ?_
  refine fgX9_55 hx hb hts hown hK hw 0 rfl kw1231 dX9_readSum_1 ?_
  refine lv_iload_n hx hb dX9_readSum_4 rfl (lv_at hl 1 rfl) ?_
  refine lv_aload_n hx hb dX9_readSum_5 rfl (lv_at hl 0 rfl) ?_
  refine fgX9_23 hx hb hts hown hK hw 0 rfl kw1199 dX9_readSum_6 ?_
  obtain ⟨g1, h⟩ := z_gd h
  refine fbX9_55 hx hb hK hw 0 rfl rfl g1 dX9_readSum_9 (fun H locs hw => ?_)
  obtain ⟨o2, eo2, h⟩ := z_lt h
  have hw : Wd dC dI A s.heap [wX9 h_me q_me k_me o2] H locs := by rw [eo2]; exact hw
  refine lv_aload_n hx hb dX9_readSum_10 rfl (lv_at hl 0 rfl) ?_
  refine fgX9_19 hx hb hts hown hK hw 0 rfl kw1195 dX9_readSum_11 ?_
  refine lv_if_ne (tgt := 22) hx hb dX9_readSum_14 (by decide) (fun c => ?_) (fun c => ?_)
  · have h := z_f h c
    exact bk_22_0  p0 o2 _ _ _ h hw (lv_sub hl [0, 1] rfl)
  · have h := z_t h c
    refine lv_aload_n hx hb dX9_readSum_17 rfl (lv_at hl 0 rfl) ?_
    refine lv_iconst (v := 0) hx hb dX9_readSum_18 (by decide) ?_
    obtain ⟨z5, ez5, h⟩ := z_bd h
    refine xj_v (xrV (As := [.int (0 : Int32)]) (rest := []) ⟨hx, hb, hml, hown, hts⟩ (m_X9_readExpression l dC dI _ h_me q_me k_me o2 (0 : Int32) z5 ez5) kw1538 kw1535 kw1537 kw59 kw120 hd_X9_readExpression ⟨rfl, rfl⟩ rfl rfl ⟨rfl, rfl⟩ hX hK hw [0] (by decide) rfl rfl rfl rfl rfl hl.1 rfl rfl dX9_readSum_19) hw hA [0] (by decide) rfl rfl (fun H locs hw => ?_)
    have hw : Wd dC dI A s.heap [wX9 h_me q_me k_me z5] H locs := hw
    exact bk_22_0  p0 z5 _ _ _ h hw (lv_sub hl [0, 1] rfl)

def bk_X9_readOrder_211   (v2 : Int32) (o_me : Ob) : Option (Ob) :=
  zgd (zin (v2 + (6 : Int32)) 96) <|
  zlt (tA o_me 55 (v2 + (6 : Int32)).toNatClampNeg (gI o_me 23)) fun o11 =>
  some o11
def bk_X9_readOrder_173   (v2 : Int32) (o_me : Ob) : Option (Ob) :=
  zgd (zin (v2 + (5 : Int32)) 96) <|
  zlt (tA o_me 55 (v2 + (5 : Int32)).toNatClampNeg (gI o_me 23)) fun o9 =>
  if (gI o9 19) = (0 : Int32) then
  ((f_X9_isWord o9 (294 : Int64)).bind fun z12 =>
  if z12 = (0 : Int32) then
  (bk_X9_readOrder_211   v2 o9)
  else
  ((f_X9_next o9).bind fun z13 =>
  (f_X9_readExpression z13 (1 : Int32)).bind fun z14 =>
  bk_X9_readOrder_211   v2 z14))
  else
  (bk_X9_readOrder_211   v2 o9)
def bk_X9_readOrder_125   (v2 : Int32) (o_me : Ob) : Option (Ob) :=
  zgd (zin (v2 + (7 : Int32)) 96) <|
  zlt (tA o_me 55 (v2 + (7 : Int32)).toNatClampNeg (1 : Int32)) fun o7 =>
  if (gI o7 19) = (0 : Int32) then
  ((f_X9_isWord o7 (21279923 : Int64)).bind fun z15 =>
  if z15 = (0 : Int32) then
  (bk_X9_readOrder_173   v2 o7)
  else
  ((f_X9_next o7).bind fun z16 =>
  (f_X9_number z16 (1 : Int64) (20 : Int64)).bind fun z17 =>
  zgd (zin (v2 + (7 : Int32)) 96) <|
  zlt (tA z17.2 55 (v2 + (7 : Int32)).toNatClampNeg z17.1) fun o19 =>
  bk_X9_readOrder_173   v2 o19))
  else
  (bk_X9_readOrder_173   v2 o7)
def lb_X9_readOrder_85   (rec_85_3 : Int32 × Int32 × Int32 × Ob → Option (Ob)) (v1 : Int32) (v2 : Int32) (v3 : Int32) (o_me : Ob) : Option (Ob) :=
  if (8 : Int32) ≤ v3 then
  (zgd (zin v2 96) <|
  zlt (tA o_me 55 v2.toNatClampNeg v1) fun o5 =>
  if v1 = (3 : Int32) then
  (bk_X9_readOrder_125   v2 o5)
  else
  ((f_X9_readSum o5 (v2 + (1 : Int32))).bind fun z20 =>
  bk_X9_readOrder_125   v2 z20))
  else
  (zgd (zin (v2 + v3) 96) <|
  zlt (tA o_me 55 (v2 + v3).toNatClampNeg (0 : Int32)) fun o22 =>
  zlt (v3 + (1 : Int32)) fun x23 =>
  rec_85_3 (v1, v2, x23, o22))
def lp_X9_readOrder_85   : Nat → (Int32 × Int32 × Int32 × Ob) → Option (Ob) := zit (fun rec a => lb_X9_readOrder_85   rec a.1 a.2.1 a.2.2.1 a.2.2.2)
def bk_X9_readOrder_54   (v1 : Int32) (s0 : Int32) (o_me : Ob) : Option (Ob) :=
  (f_X9_must o_me s0).bind fun z1 =>
  if (gI z1 19) = (0 : Int32) then
  (zlt ((8 : Int32) * (gI z1 21)) fun x2 =>
  zlt (sI z1 21 ((gI z1 21) + (1 : Int32))) fun o3 =>
  lp_X9_readOrder_85   zfu (v1, x2, (0 : Int32), o3))
  else
  (some z1)
def bk_X9_readOrder_53   (v1 : Int32) (o_me : Ob) : Option (Ob) :=
  bk_X9_readOrder_54   v1 (0 : Int32) o_me
def bk_X9_readOrder_27  (rec_4_0 : Int32 × Int32 × Ob → Option (Ob)) (v2 : Int32) (s0 : Int32) (o_me : Ob) : Option (Ob) :=
  zlt (v2 + (1 : Int32)) fun x26 =>
  rec_4_0 (s0, x26, o_me)
def lb_X9_readOrder_4   (rec_4_0 : Int32 × Int32 × Ob → Option (Ob)) (v1 : Int32) (v2 : Int32) (o_me : Ob) : Option (Ob) :=
  if (4 : Int32) ≤ v2 then
  (if v1 = (-1 : Int32) then
  (bk_X9_readOrder_53   v1 o_me)
  else
  (if (12 : Int32) ≤ (gI o_me 21) then
  (bk_X9_readOrder_53   v1 o_me)
  else
  (bk_X9_readOrder_54   v1 (1 : Int32) o_me)))
  else
  (zgd (zin v2 4) <|
  (f_X9_isWord o_me (gM o_me 54 v2.toNatClampNeg)).bind fun z25 =>
  if z25 = (0 : Int32) then
  (bk_X9_readOrder_27  rec_4_0 v2 v1 o_me)
  else
  (bk_X9_readOrder_27  rec_4_0 v2 v2 o_me))
def lp_X9_readOrder_4   : Nat → (Int32 × Int32 × Ob) → Option (Ob) := zit (fun rec a => lb_X9_readOrder_4   rec a.1 a.2.1 a.2.2)
def f_X9_readOrder (o_me : Ob) : Option (Ob) :=
  lp_X9_readOrder_4   zfu ((-1 : Int32), (0 : Int32), o_me)
set_option maxHeartbeats 4000000 in
set_option maxRecDepth 100000 in
theorem m_X9_readOrder (l : Launch) (dC : Nat → ClassId) (dI : Nat → Nat → Nat) (sz : Nat) (h_me : Nat) (q_me : Nat → Nat) (k_me : Nat → ClassId) (o_me : Ob) (y : Ob) (h : f_X9_readOrder o_me = some y) : CV l yX9_readOrder cX9_readOrder 4 none ({ frames := 8, cells := 0, slots := 0, locals := 172 } : Room) dC dI sz [.ref h_me] [wX9 h_me q_me k_me o_me] [tX9 k_me] [wX9 h_me q_me k_me y] := by
  refine CC_of (by decide) (Nat.le_of_ble_eq_true rfl) ?_
  intro p e s m below meth c A ls hx hb hml hr hlk hnm hown hts hX hK hP hD hA hl
  have hl : lv_has ls 4 [(0, .ref h_me)] := hl
  have hown : s.vm.findClass RX9 = some m.cls := hown
  have hw : Wd dC dI A s.heap [wX9 h_me q_me k_me o_me] s.heap [] := ⟨hP, hD, va_S.rf⟩
  generalize hQz : (MQ below (QV dC dI (fun (_ : Unit) => True) (fun _ => Jn [wX9 h_me q_me k_me y]) (fun _ => Jt [tX9 k_me]) A) ([.ref h_me] : List Value).toArray s 0 0 A) = Qz
  clear hP hD hnm
  have bk_211_6 : ∀ (v2 : Int32) (o_me : Ob) (H : Heap) (locs : List Loc) (ls : Array Slot), bk_X9_readOrder_211   v2 o_me = some y → Wd dC dI A s.heap [wX9 h_me q_me k_me o_me] H locs → lv_has ls 4 [(0, .ref h_me), (2, .int v2)] → W p l e ({ frames := 8, cells := 0, slots := 0, locals := 172 } : Room) s m ([.ref h_me] : List Value).toArray below meth c H locs 0 0 Qz (F0 m 211 ls []) := by
    intro v2 o_me H locs ls h hw hl
    unfold bk_X9_readOrder_211 at h
    refine lv_aload_n hx hb dX9_readOrder_211 rfl (lv_at hl 0 rfl) ?_
    refine fgX9_55 hx hb hts hown hK hw 0 rfl kw1231 dX9_readOrder_212 ?_
    refine lv_iload_n hx hb dX9_readOrder_215 rfl (lv_at hl 1 rfl) ?_
    refine lv_bipush (v := 6) hx hb dX9_readOrder_216 (by decide) ?_
    refine lv_iadd hx hb dX9_readOrder_218 ?_
    refine lv_aload_n hx hb dX9_readOrder_219 rfl (lv_at hl 0 rfl) ?_
    refine fgX9_23 hx hb hts hown hK hw 0 rfl kw1199 dX9_readOrder_220 ?_
    obtain ⟨g10, h⟩ := z_gd h
    refine fbX9_55 hx hb hK hw 0 rfl rfl g10 dX9_readOrder_223 (fun H locs hw => ?_)
    obtain ⟨o11, eo11, h⟩ := z_lt h
    have hw : Wd dC dI A s.heap [wX9 h_me q_me k_me o11] H locs := by rw [eo11]; exact hw
    have hy := Option.some.inj h
    rw [← hQz, ← hy]
    exact xr_v hx hb hr hlk hK hw dX9_readOrder_224
  have bk_173_5 : ∀ (v2 : Int32) (o_me : Ob) (H : Heap) (locs : List Loc) (ls : Array Slot), bk_X9_readOrder_173   v2 o_me = some y → Wd dC dI A s.heap [wX9 h_me q_me k_me o_me] H locs → lv_has ls 4 [(0, .ref h_me), (2, .int v2)] → W p l e ({ frames := 8, cells := 0, slots := 0, locals := 172 } : Room) s m ([.ref h_me] : List Value).toArray below meth c H locs 0 0 Qz (F0 m 173 ls []) := by
    intro v2 o_me H locs ls h hw hl
    unfold bk_X9_readOrder_173 at h
    refine lv_aload_n hx hb dX9_readOrder_173 rfl (lv_at hl 0 rfl) ?_
    refine fgX9_55 hx hb hts hown hK hw 0 rfl kw1231 dX9_readOrder_174 ?_
    refine lv_iload_n hx hb dX9_readOrder_177 rfl (lv_at hl 1 rfl) ?_
    refine lv_iconst (v := 5) hx hb dX9_readOrder_178 (by decide) ?_
    refine lv_iadd hx hb dX9_readOrder_179 ?_
    refine lv_aload_n hx hb dX9_readOrder_180 rfl (lv_at hl 0 rfl) ?_
    refine fgX9_23 hx hb hts hown hK hw 0 rfl kw1199 dX9_readOrder_181 ?_
    obtain ⟨g8, h⟩ := z_gd h
    refine fbX9_55 hx hb hK hw 0 rfl rfl g8 dX9_readOrder_184 (fun H locs hw => ?_)
    obtain ⟨o9, eo9, h⟩ := z_lt h
    have hw : Wd dC dI A s.heap [wX9 h_me q_me k_me o9] H locs := by rw [eo9]; exact hw
    refine lv_aload_n hx hb dX9_readOrder_185 rfl (lv_at hl 0 rfl) ?_
    refine fgX9_19 hx hb hts hown hK hw 0 rfl kw1195 dX9_readOrder_186 ?_
    refine lv_if_ne (tgt := 211) hx hb dX9_readOrder_189 (by decide) (fun c => ?_) (fun c => ?_)
    · have h := z_f h c
      exact bk_211_6  v2 o9 _ _ _ h hw (lv_sub hl [0, 1] rfl)
    · have h := z_t h c
      refine lv_aload_n hx hb dX9_readOrder_192 rfl (lv_at hl 0 rfl) ?_
      refine lv_ldc2 (v := 294) hx hb hown (hts _ kw1611) dX9_readOrder_193 ?_
      obtain ⟨z12, ez12, h⟩ := z_bd h
      refine xj_i (xrV (As := [.long (294 : Int64)]) (rest := []) ⟨hx, hb, hml, hown, hts⟩ (m_X9_isWord l dC dI _ h_me q_me k_me o9 (294 : Int64) z12 ez12) kw1530 kw1527 kw1529 kw57 kw120 hd_X9_isWord ⟨rfl, rfl⟩ rfl rfl ⟨rfl, rfl⟩ hX hK hw [0] (by decide) rfl rfl rfl rfl rfl hl.1 rfl rfl dX9_readOrder_196) hw hA [0] (by decide) rfl rfl (fun H locs hw => ?_)
      have hw : Wd dC dI A s.heap [wX9 h_me q_me k_me o9] H locs := hw
      refine lv_if_eq (tgt := 211) hx hb dX9_readOrder_199 (by decide) (fun c => ?_) (fun c => ?_)
      · have h := z_t h c
        exact bk_211_6  v2 o9 _ _ _ h hw (lv_sub hl [0, 1] rfl)
      · have h := z_f h c
        refine lv_aload_n hx hb dX9_readOrder_202 rfl (lv_at hl 0 rfl) ?_
        obtain ⟨z13, ez13, h⟩ := z_bd h
        refine xj_v (xrV (As := []) (rest := []) ⟨hx, hb, hml, hown, hts⟩ (m_X9_next l dC dI _ h_me q_me k_me o9 z13 ez13) kw1512 kw1509 kw1511 kw55 kw120 hd_X9_next ⟨rfl, rfl⟩ rfl rfl ⟨rfl, rfl⟩ hX hK hw [0] (by decide) rfl rfl rfl rfl rfl hl.1 rfl rfl dX9_readOrder_203) hw hA [0] (by decide) rfl rfl (fun H locs hw => ?_)
        have hw : Wd dC dI A s.heap [wX9 h_me q_me k_me z13] H locs := hw
        refine lv_aload_n hx hb dX9_readOrder_206 rfl (lv_at hl 0 rfl) ?_
        refine lv_iconst (v := 1) hx hb dX9_readOrder_207 (by decide) ?_
        obtain ⟨z14, ez14, h⟩ := z_bd h
        refine xj_v (xrV (As := [.int (1 : Int32)]) (rest := []) ⟨hx, hb, hml, hown, hts⟩ (m_X9_readExpression l dC dI _ h_me q_me k_me z13 (1 : Int32) z14 ez14) kw1538 kw1535 kw1537 kw59 kw120 hd_X9_readExpression ⟨rfl, rfl⟩ rfl rfl ⟨rfl, rfl⟩ hX hK hw [0] (by decide) rfl rfl rfl rfl rfl hl.1 rfl rfl dX9_readOrder_208) hw hA [0] (by decide) rfl rfl (fun H locs hw => ?_)
        have hw : Wd dC dI A s.heap [wX9 h_me q_me k_me z14] H locs := hw
        exact bk_211_6  v2 z14 _ _ _ h hw (lv_sub hl [0, 1] rfl)
  have bk_125_4 : ∀ (v2 : Int32) (o_me : Ob) (H : Heap) (locs : List Loc) (ls : Array Slot), bk_X9_readOrder_125   v2 o_me = some y → Wd dC dI A s.heap [wX9 h_me q_me k_me o_me] H locs → lv_has ls 4 [(0, .ref h_me), (2, .int v2)] → W p l e ({ frames := 8, cells := 0, slots := 0, locals := 172 } : Room) s m ([.ref h_me] : List Value).toArray below meth c H locs 0 0 Qz (F0 m 125 ls []) := by
    intro v2 o_me H locs ls h hw hl
    unfold bk_X9_readOrder_125 at h
    refine lv_aload_n hx hb dX9_readOrder_125 rfl (lv_at hl 0 rfl) ?_
    refine fgX9_55 hx hb hts hown hK hw 0 rfl kw1231 dX9_readOrder_126 ?_
    refine lv_iload_n hx hb dX9_readOrder_129 rfl (lv_at hl 1 rfl) ?_
    refine lv_bipush (v := 7) hx hb dX9_readOrder_130 (by decide) ?_
    refine lv_iadd hx hb dX9_readOrder_132 ?_
    refine lv_iconst (v := 1) hx hb dX9_readOrder_133 (by decide) ?_
    obtain ⟨g6, h⟩ := z_gd h
    refine fbX9_55 hx hb hK hw 0 rfl rfl g6 dX9_readOrder_134 (fun H locs hw => ?_)
    obtain ⟨o7, eo7, h⟩ := z_lt h
    have hw : Wd dC dI A s.heap [wX9 h_me q_me k_me o7] H locs := by rw [eo7]; exact hw
    refine lv_aload_n hx hb dX9_readOrder_135 rfl (lv_at hl 0 rfl) ?_
    refine fgX9_19 hx hb hts hown hK hw 0 rfl kw1195 dX9_readOrder_136 ?_
    refine lv_if_ne (tgt := 173) hx hb dX9_readOrder_139 (by decide) (fun c => ?_) (fun c => ?_)
    · have h := z_f h c
      exact bk_173_5  v2 o7 _ _ _ h hw (lv_sub hl [0, 1] rfl)
    · have h := z_t h c
      refine lv_aload_n hx hb dX9_readOrder_142 rfl (lv_at hl 0 rfl) ?_
      refine lv_ldc2 (v := 21279923) hx hb hown (hts _ kw1808) dX9_readOrder_143 ?_
      obtain ⟨z15, ez15, h⟩ := z_bd h
      refine xj_i (xrV (As := [.long (21279923 : Int64)]) (rest := []) ⟨hx, hb, hml, hown, hts⟩ (m_X9_isWord l dC dI _ h_me q_me k_me o7 (21279923 : Int64) z15 ez15) kw1530 kw1527 kw1529 kw57 kw120 hd_X9_isWord ⟨rfl, rfl⟩ rfl rfl ⟨rfl, rfl⟩ hX hK hw [0] (by decide) rfl rfl rfl rfl rfl hl.1 rfl rfl dX9_readOrder_146) hw hA [0] (by decide) rfl rfl (fun H locs hw => ?_)
      have hw : Wd dC dI A s.heap [wX9 h_me q_me k_me o7] H locs := hw
      refine lv_if_eq (tgt := 173) hx hb dX9_readOrder_149 (by decide) (fun c => ?_) (fun c => ?_)
      · have h := z_t h c
        exact bk_173_5  v2 o7 _ _ _ h hw (lv_sub hl [0, 1] rfl)
      · have h := z_f h c
        refine lv_aload_n hx hb dX9_readOrder_152 rfl (lv_at hl 0 rfl) ?_
        obtain ⟨z16, ez16, h⟩ := z_bd h
        refine xj_v (xrV (As := []) (rest := []) ⟨hx, hb, hml, hown, hts⟩ (m_X9_next l dC dI _ h_me q_me k_me o7 z16 ez16) kw1512 kw1509 kw1511 kw55 kw120 hd_X9_next ⟨rfl, rfl⟩ rfl rfl ⟨rfl, rfl⟩ hX hK hw [0] (by decide) rfl rfl rfl rfl rfl hl.1 rfl rfl dX9_readOrder_153) hw hA [0] (by decide) rfl rfl (fun H locs hw => ?_)
        have hw : Wd dC dI A s.heap [wX9 h_me q_me k_me z16] H locs := hw
        refine lv_aload_n hx hb dX9_readOrder_156 rfl (lv_at hl 0 rfl) ?_
        refine fgX9_55 hx hb hts hown hK hw 0 rfl kw1231 dX9_readOrder_157 ?_
        refine lv_iload_n hx hb dX9_readOrder_160 rfl (lv_at hl 1 rfl) ?_
        refine lv_bipush (v := 7) hx hb dX9_readOrder_161 (by decide) ?_
        refine lv_iadd hx hb dX9_readOrder_163 ?_
        refine lv_aload_n hx hb dX9_readOrder_164 rfl (lv_at hl 0 rfl) ?_
        refine lv_lconst (v := 1) hx hb dX9_readOrder_165 (by decide) ?_
        refine lv_ldc2 (v := 20) hx hb hown (hts _ kw1601) dX9_readOrder_166 ?_
        obtain ⟨z17, ez17, h⟩ := z_bd h
        refine xj_i (xrV (As := [.long (1 : Int64), .long (20 : Int64)]) (rest := [.int (v2 + (7 : Int32)), .ref (q_me 55)]) ⟨hx, hb, hml, hown, hts⟩ (m_X9_number l dC dI _ h_me q_me k_me z16 (1 : Int64) (20 : Int64) z17 ez17) kw1581 kw1578 kw1580 kw69 kw120 hd_X9_number ⟨rfl, rfl⟩ rfl rfl ⟨rfl, rfl⟩ hX hK hw [0] (by decide) rfl rfl rfl rfl rfl hl.1 rfl rfl dX9_readOrder_169) hw hA [0] (by decide) rfl rfl (fun H locs hw => ?_)
        have hw : Wd dC dI A s.heap [wX9 h_me q_me k_me z17.2] H locs := hw
        obtain ⟨g18, h⟩ := z_gd h
        refine fbX9_55 hx hb hK hw 0 rfl rfl g18 dX9_readOrder_172 (fun H locs hw => ?_)
        obtain ⟨o19, eo19, h⟩ := z_lt h
        have hw : Wd dC dI A s.heap [wX9 h_me q_me k_me o19] H locs := by rw [eo19]; exact hw
        exact bk_173_5  v2 o19 _ _ _ h hw (lv_sub hl [0, 1] rfl)
  have lp_85_3 : ∀ (N : Nat), ∀ (v1 : Int32) (v2 : Int32) (v3 : Int32) (o_me : Ob) (H : Heap) (locs : List Loc) (ls : Array Slot), lp_X9_readOrder_85   N (v1, v2, v3, o_me) = some y → Wd dC dI A s.heap [wX9 h_me q_me k_me o_me] H locs → lv_has ls 4 [(0, .ref h_me), (1, .int v1), (2, .int v2), (3, .int v3)] → W p l e ({ frames := 8, cells := 0, slots := 0, locals := 172 } : Room) s m ([.ref h_me] : List Value).toArray below meth c H locs 0 0 Qz (F0 m 85 ls []) := by
    intro N
    induction N with
    | zero =>
      intro v1 v2 v3 o_me H locs ls h hw hl
      exact absurd (show (none : Option (Ob)) = some y from h) (by simp)
    | succ N ih =>
      intro v1 v2 v3 o_me H locs ls h hw hl
      have h : lb_X9_readOrder_85   (lp_X9_readOrder_85   N) v1 v2 v3 o_me = some y := h
      unfold lb_X9_readOrder_85 at h
      refine lv_iload_n hx hb dX9_readOrder_85 rfl (lv_at hl 3 rfl) ?_
      refine lv_bipush (v := 8) hx hb dX9_readOrder_86 (by decide) ?_
      refine lv_icmp_ge (tgt := 106) hx hb dX9_readOrder_88 (by decide) (fun c => ?_) (fun c => ?_)
      · have h := z_t h c
        refine lv_aload_n hx hb dX9_readOrder_106 rfl (lv_at hl 0 rfl) ?_
        refine fgX9_55 hx hb hts hown hK hw 0 rfl kw1231 dX9_readOrder_107 ?_
        refine lv_iload_n hx hb dX9_readOrder_110 rfl (lv_at hl 2 rfl) ?_
        refine lv_iload_n hx hb dX9_readOrder_111 rfl (lv_at hl 1 rfl) ?_
        obtain ⟨g4, h⟩ := z_gd h
        refine fbX9_55 hx hb hK hw 0 rfl rfl g4 dX9_readOrder_112 (fun H locs hw => ?_)
        obtain ⟨o5, eo5, h⟩ := z_lt h
        have hw : Wd dC dI A s.heap [wX9 h_me q_me k_me o5] H locs := by rw [eo5]; exact hw
        refine lv_iload_n hx hb dX9_readOrder_113 rfl (lv_at hl 1 rfl) ?_
        refine lv_iconst (v := 3) hx hb dX9_readOrder_114 (by decide) ?_
        refine lv_icmp_eq (tgt := 125) hx hb dX9_readOrder_115 (by decide) (fun c => ?_) (fun c => ?_)
        · have h := z_t h c
          exact bk_125_4  v2 o5 _ _ _ h hw (lv_sub hl [0, 2] rfl)
        · have h := z_f h c
          refine lv_aload_n hx hb dX9_readOrder_118 rfl (lv_at hl 0 rfl) ?_
          refine lv_iload_n hx hb dX9_readOrder_119 rfl (lv_at hl 2 rfl) ?_
          refine lv_iconst (v := 1) hx hb dX9_readOrder_120 (by decide) ?_
          refine lv_iadd hx hb dX9_readOrder_121 ?_
          obtain ⟨z20, ez20, h⟩ := z_bd h
          refine xj_v (xrV (As := [.int (v2 + (1 : Int32))]) (rest := []) ⟨hx, hb, hml, hown, hts⟩ (m_X9_readSum l dC dI _ h_me q_me k_me o5 (v2 + (1 : Int32)) z20 ez20) kw1807 kw1804 kw1806 kw101 kw120 hd_X9_readSum ⟨rfl, rfl⟩ rfl rfl ⟨rfl, rfl⟩ hX hK hw [0] (by decide) rfl rfl rfl rfl rfl hl.1 rfl rfl dX9_readOrder_122) hw hA [0] (by decide) rfl rfl (fun H locs hw => ?_)
          have hw : Wd dC dI A s.heap [wX9 h_me q_me k_me z20] H locs := hw
          exact bk_125_4  v2 z20 _ _ _ h hw (lv_sub hl [0, 2] rfl)
      · have h := z_f h c
        refine lv_aload_n hx hb dX9_readOrder_91 rfl (lv_at hl 0 rfl) ?_
        refine fgX9_55 hx hb hts hown hK hw 0 rfl kw1231 dX9_readOrder_92 ?_
        refine lv_iload_n hx hb dX9_readOrder_95 rfl (lv_at hl 2 rfl) ?_
        refine lv_iload_n hx hb dX9_readOrder_96 rfl (lv_at hl 3 rfl) ?_
        refine lv_iadd hx hb dX9_readOrder_97 ?_
        refine lv_iconst (v := 0) hx hb dX9_readOrder_98 (by decide) ?_
        obtain ⟨g21, h⟩ := z_gd h
        refine fbX9_55 hx hb hK hw 0 rfl rfl g21 dX9_readOrder_99 (fun H locs hw => ?_)
        obtain ⟨o22, eo22, h⟩ := z_lt h
        have hw : Wd dC dI A s.heap [wX9 h_me q_me k_me o22] H locs := by rw [eo22]; exact hw
        obtain ⟨x23, ex23, h⟩ := z_lt h
        refine lv_iinc (v := x23) (lv' := [(3, .int x23), (0, .ref h_me), (1, .int v1), (2, .int v2)]) hx hb dX9_readOrder_100 hl (k := 3) rfl ((congrArg (v3 + ·) (show Int32.ofInt 1 = (1 : Int32) from by decide)).trans ex23.symm) (by decide) rfl (fun ls hl => ?_)
        refine lv_goto (tgt := 85) hx hb dX9_readOrder_103 (by decide) ?_
        exact ih v1 v2 x23 o22 _ _ _ h hw (lv_sub hl [1, 2, 3, 0] rfl)
  have bk_54_2 : ∀ (v1 : Int32) (s0 : Int32) (o_me : Ob) (H : Heap) (locs : List Loc) (ls : Array Slot), bk_X9_readOrder_54   v1 s0 o_me = some y → Wd dC dI A s.heap [wX9 h_me q_me k_me o_me] H locs → lv_has ls 4 [(0, .ref h_me), (1, .int v1)] → W p l e ({ frames := 8, cells := 0, slots := 0, locals := 172 } : Room) s m ([.ref h_me] : List Value).toArray below meth c H locs 0 0 Qz (F0 m 54 ls [.int s0, .ref h_me]) := by
    intro v1 s0 o_me H locs ls h hw hl
    unfold bk_X9_readOrder_54 at h
    obtain ⟨z1, ez1, h⟩ := z_bd h
    refine xj_v (xrV (As := [.int s0]) (rest := []) ⟨hx, hb, hml, hown, hts⟩ (m_X9_must l dC dI _ h_me q_me k_me o_me s0 z1 ez1) kw1534 kw1531 kw1533 kw58 kw120 hd_X9_must ⟨rfl, rfl⟩ rfl rfl ⟨rfl, rfl⟩ hX hK hw [0] (by decide) rfl rfl rfl rfl rfl hl.1 rfl rfl dX9_readOrder_54) hw hA [0] (by decide) rfl rfl (fun H locs hw => ?_)
    have hw : Wd dC dI A s.heap [wX9 h_me q_me k_me z1] H locs := hw
    refine lv_aload_n hx hb dX9_readOrder_57 rfl (lv_at hl 0 rfl) ?_
    refine fgX9_19 hx hb hts hown hK hw 0 rfl kw1195 dX9_readOrder_58 ?_
    refine lv_if_eq (tgt := 65) hx hb dX9_readOrder_61 (by decide) (fun c => ?_) (fun c => ?_)
    · have h := z_t h c
      refine lv_bipush (v := 8) hx hb dX9_readOrder_65 (by decide) ?_
      refine lv_aload_n hx hb dX9_readOrder_67 rfl (lv_at hl 0 rfl) ?_
      refine fgX9_21 hx hb hts hown hK hw 0 rfl kw1197 dX9_readOrder_68 ?_
      refine lv_imul hx hb dX9_readOrder_71 ?_
      obtain ⟨x2, ex2, h⟩ := z_lt h
      refine lv_fi (v := x2) ex2.symm ?_
      refine lv_istore_n (lv' := [(2, .int x2), (0, .ref h_me), (1, .int v1)]) hx hb dX9_readOrder_72 rfl hl (by decide) rfl (fun ls hl => ?_)
      refine lv_aload_n hx hb dX9_readOrder_73 rfl (lv_at hl 1 rfl) ?_
      refine lv_dup hx hb dX9_readOrder_74 rfl ?_
      refine fgX9_21 hx hb hts hown hK hw 0 rfl kw1197 dX9_readOrder_75 ?_
      refine lv_iconst (v := 1) hx hb dX9_readOrder_78 (by decide) ?_
      refine lv_iadd hx hb dX9_readOrder_79 ?_
      refine fpX9_21 hx hb hts hown hK hw 0 rfl kw1197 dX9_readOrder_80 (fun H locs hw => ?_)
      obtain ⟨o3, eo3, h⟩ := z_lt h
      have hw : Wd dC dI A s.heap [wX9 h_me q_me k_me o3] H locs := by rw [eo3]; exact hw
      refine lv_iconst (v := 0) hx hb dX9_readOrder_83 (by decide) ?_
      refine lv_istore_n (lv' := [(3, .int (0 : Int32)), (2, .int x2), (0, .ref h_me), (1, .int v1)]) hx hb dX9_readOrder_84 rfl hl (by decide) rfl (fun ls hl => ?_)
      exact lp_85_3  zfu v1 x2 (0 : Int32) o3 _ _ _ h hw (lv_sub hl [2, 3, 1, 0] rfl)
    · have h := z_f h c
      have hy := Option.some.inj h
      rw [← hQz, ← hy]
      exact xr_v hx hb hr hlk hK hw dX9_readOrder_64
  have bk_53_1 : ∀ (v1 : Int32) (o_me : Ob) (H : Heap) (locs : List Loc) (ls : Array Slot), bk_X9_readOrder_53   v1 o_me = some y → Wd dC dI A s.heap [wX9 h_me q_me k_me o_me] H locs → lv_has ls 4 [(0, .ref h_me), (1, .int v1)] → W p l e ({ frames := 8, cells := 0, slots := 0, locals := 172 } : Room) s m ([.ref h_me] : List Value).toArray below meth c H locs 0 0 Qz (F0 m 53 ls [.ref h_me]) := by
    intro v1 o_me H locs ls h hw hl
    unfold bk_X9_readOrder_53 at h
    refine lv_iconst (v := 0) hx hb dX9_readOrder_53 (by decide) ?_
    exact bk_54_2  v1 (0 : Int32) o_me _ _ _ h hw (lv_sub hl [0, 1] rfl)
  have bk_27_7 : ∀ (rec_4_0 : Int32 × Int32 × Ob → Option (Ob)) (hrec_4_0 : ∀ (v1 : Int32) (v2 : Int32) (o_me : Ob) (H : Heap) (locs : List Loc) (ls : Array Slot), rec_4_0 (v1, v2, o_me) = some y → Wd dC dI A s.heap [wX9 h_me q_me k_me o_me] H locs → lv_has ls 4 [(0, .ref h_me), (1, .int v1), (2, .int v2)] → W p l e ({ frames := 8, cells := 0, slots := 0, locals := 172 } : Room) s m ([.ref h_me] : List Value).toArray below meth c H locs 0 0 Qz (F0 m 4 ls [])), ∀ (v2 : Int32) (s0 : Int32) (o_me : Ob) (H : Heap) (locs : List Loc) (ls : Array Slot), bk_X9_readOrder_27  rec_4_0 v2 s0 o_me = some y → Wd dC dI A s.heap [wX9 h_me q_me k_me o_me] H locs → lv_has ls 4 [(0, .ref h_me), (2, .int v2)] → W p l e ({ frames := 8, cells := 0, slots := 0, locals := 172 } : Room) s m ([.ref h_me] : List Value).toArray below meth c H locs 0 0 Qz (F0 m 27 ls [.int s0]) := by
    intro rec_4_0 hrec_4_0
    intro v2 s0 o_me H locs ls h hw hl
    unfold bk_X9_readOrder_27 at h
    refine lv_istore_n (lv' := [(1, .int s0), (0, .ref h_me), (2, .int v2)]) hx hb dX9_readOrder_27 rfl hl (by decide) rfl (fun ls hl => ?_)
    obtain ⟨x26, ex26, h⟩ := z_lt h
    refine lv_iinc (v := x26) (lv' := [(2, .int x26), (1, .int s0), (0, .ref h_me)]) hx hb dX9_readOrder_28 hl (k := 2) rfl ((congrArg (v2 + ·) (show Int32.ofInt 1 = (1 : Int32) from by decide)).trans ex26.symm) (by decide) rfl (fun ls hl => ?_)
    refine lv_goto (tgt := 4) hx hb dX9_readOrder_31 (by decide) ?_
    exact hrec_4_0 s0 x26 o_me _ _ _ h hw (lv_sub hl [2, 1, 0] rfl)
  have lp_4_0 : ∀ (N : Nat), ∀ (v1 : Int32) (v2 : Int32) (o_me : Ob) (H : Heap) (locs : List Loc) (ls : Array Slot), lp_X9_readOrder_4   N (v1, v2, o_me) = some y → Wd dC dI A s.heap [wX9 h_me q_me k_me o_me] H locs → lv_has ls 4 [(0, .ref h_me), (1, .int v1), (2, .int v2)] → W p l e ({ frames := 8, cells := 0, slots := 0, locals := 172 } : Room) s m ([.ref h_me] : List Value).toArray below meth c H locs 0 0 Qz (F0 m 4 ls []) := by
    intro N
    induction N with
    | zero =>
      intro v1 v2 o_me H locs ls h hw hl
      exact absurd (show (none : Option (Ob)) = some y from h) (by simp)
    | succ N ih =>
      intro v1 v2 o_me H locs ls h hw hl
      have h : lb_X9_readOrder_4   (lp_X9_readOrder_4   N) v1 v2 o_me = some y := h
      unfold lb_X9_readOrder_4 at h
      refine lv_iload_n hx hb dX9_readOrder_4 rfl (lv_at hl 2 rfl) ?_
      refine lv_iconst (v := 4) hx hb dX9_readOrder_5 (by decide) ?_
      refine lv_icmp_ge (tgt := 34) hx hb dX9_readOrder_6 (by decide) (fun c => ?_) (fun c => ?_)
      · have h := z_t h c
        refine lv_aload_n hx hb dX9_readOrder_34 rfl (lv_at hl 0 rfl) ?_
        refine lv_iload_n hx hb dX9_readOrder_35 rfl (lv_at hl 1 rfl) ?_
        refine lv_iconst (v := (-1)) hx hb dX9_readOrder_36 (by decide) ?_
        refine lv_icmp_eq (tgt := 53) hx hb dX9_readOrder_37 (by decide) (fun c => ?_) (fun c => ?_)
        · have h := z_t h c
          exact bk_53_1  v1 o_me _ _ _ h hw (lv_sub hl [0, 1] rfl)
        · have h := z_f h c
          refine lv_aload_n hx hb dX9_readOrder_40 rfl (lv_at hl 0 rfl) ?_
          refine fgX9_21 hx hb hts hown hK hw 0 rfl kw1197 dX9_readOrder_41 ?_
          refine lv_bipush (v := 12) hx hb dX9_readOrder_44 (by decide) ?_
          refine lv_icmp_ge (tgt := 53) hx hb dX9_readOrder_46 (by decide) (fun c => ?_) (fun c => ?_)
          · have h := z_t h c
            exact bk_53_1  v1 o_me _ _ _ h hw (lv_sub hl [0, 1] rfl)
          · have h := z_f h c
            refine lv_iconst (v := 1) hx hb dX9_readOrder_49 (by decide) ?_
            refine lv_goto (tgt := 54) hx hb dX9_readOrder_50 (by decide) ?_
            exact bk_54_2  v1 (1 : Int32) o_me _ _ _ h hw (lv_sub hl [0, 1] rfl)
      · have h := z_f h c
        refine lv_aload_n hx hb dX9_readOrder_9 rfl (lv_at hl 0 rfl) ?_
        refine lv_aload_n hx hb dX9_readOrder_10 rfl (lv_at hl 0 rfl) ?_
        refine fgX9_54 hx hb hts hown hK hw 0 rfl kw1230 dX9_readOrder_11 ?_
        refine lv_iload_n hx hb dX9_readOrder_14 rfl (lv_at hl 2 rfl) ?_
        obtain ⟨g24, h⟩ := z_gd h
        refine faX9_54 hx hb hK hw 0 rfl rfl g24 dX9_readOrder_15 ?_
        obtain ⟨z25, ez25, h⟩ := z_bd h
        refine xj_i (xrV (As := [.long (gM o_me 54 v2.toNatClampNeg)]) (rest := []) ⟨hx, hb, hml, hown, hts⟩ (m_X9_isWord l dC dI _ h_me q_me k_me o_me (gM o_me 54 v2.toNatClampNeg) z25 ez25) kw1530 kw1527 kw1529 kw57 kw120 hd_X9_isWord ⟨rfl, rfl⟩ rfl rfl ⟨rfl, rfl⟩ hX hK hw [0] (by decide) rfl rfl rfl rfl rfl hl.1 rfl rfl dX9_readOrder_16) hw hA [0] (by decide) rfl rfl (fun H locs hw => ?_)
        have hw : Wd dC dI A s.heap [wX9 h_me q_me k_me o_me] H locs := hw
        refine lv_if_eq (tgt := 26) hx hb dX9_readOrder_19 (by decide) (fun c => ?_) (fun c => ?_)
        · have h := z_t h c
          refine lv_iload_n hx hb dX9_readOrder_26 rfl (lv_at hl 1 rfl) ?_
          exact bk_27_7 (lp_X9_readOrder_4   N) ih v2 v1 o_me _ _ _ h hw (lv_sub hl [0, 2] rfl)
        · have h := z_f h c
          refine lv_iload_n hx hb dX9_readOrder_22 rfl (lv_at hl 2 rfl) ?_
          refine lv_goto (tgt := 27) hx hb dX9_readOrder_23 (by decide) ?_
          exact bk_27_7 (lp_X9_readOrder_4   N) ih v2 v2 o_me _ _ _ h hw (lv_sub hl [0, 2] rfl)
  unfold f_X9_readOrder at h
  refine lv_iconst (v := (-1)) hx hb dX9_readOrder_0 (by decide) ?_
  refine lv_istore_n (lv' := [(1, .int (-1 : Int32)), (0, .ref h_me)]) hx hb dX9_readOrder_1 rfl hl (by decide) rfl (fun ls hl => ?_)
  refine lv_iconst (v := 0) hx hb dX9_readOrder_2 (by decide) ?_
  refine lv_istore_n (lv' := [(2, .int (0 : Int32)), (1, .int (-1 : Int32)), (0, .ref h_me)]) hx hb dX9_readOrder_3 rfl hl (by decide) rfl (fun ls hl => ?_)
  exact lp_4_0  zfu (-1 : Int32) (0 : Int32) o_me _ _ _ h hw (lv_sub hl [2, 1, 0] rfl)

