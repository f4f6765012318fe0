noncomputable section
theorem sw_law {v : Int32} (h0 : ¬ v = 0) (h1 : ¬ v = 1) (h2 : ¬ v = 2) (h3 : ¬ v = 3) (h4 : ¬ v = 4) (h5 : ¬ v = 5) (h6 : ¬ v = 6) (h7 : ¬ v = 7) (h8 : ¬ v = 8) (h9 : ¬ v = 9) : v.toInt < 0 ∨ 9 < v.toInt := by
  have h : ∀ j : Int32, v.toInt = j.toInt → v = j := fun j e => Int32.toInt.inj e
  rcases (show v.toInt < 0 ∨ 9 < v.toInt ∨ v.toInt = 0 ∨ v.toInt = 1 ∨ v.toInt = 2 ∨ v.toInt = 3 ∨ v.toInt = 4 ∨ v.toInt = 5 ∨ v.toInt = 6 ∨ v.toInt = 7 ∨ v.toInt = 8 ∨ v.toInt = 9 by omega) with a | a | a | a | a | a | a | a | a | a | a | a
  · exact Or.inl a
  · exact Or.inr a
  · exact absurd (h 0 (a.trans (by decide))) h0
  · exact absurd (h 1 (a.trans (by decide))) h1
  · exact absurd (h 2 (a.trans (by decide))) h2
  · exact absurd (h 3 (a.trans (by decide))) h3
  · exact absurd (h 4 (a.trans (by decide))) h4
  · exact absurd (h 5 (a.trans (by decide))) h5
  · exact absurd (h 6 (a.trans (by decide))) h6
  · exact absurd (h 7 (a.trans (by decide))) h7
  · exact absurd (h 8 (a.trans (by decide))) h8
  · exact absurd (h 9 (a.trans (by decide))) h9
theorem len5 {L : Nat} (h : L ≤ 2560) : (Int32.ofNat L - 5).toInt = (L : Int) - 5 := by
  have e1 : (Int32.ofNat L).toInt = (L : Int) := nI_i (a := L) (by omega)
  have e2 : (5 : Int32).toInt = 5 := by decide
  rw [Int32.toInt_sub, e1, e2]
  exact Int.bmod_eq_of_le (by omega) (by omega)
theorem in_d {x : Int32} {d : Nat} (hd : d ≤ 65536) : mw_in x 0 (nI d - 1) ↔ ¬ x < 0 ∧ x < nI d := by
  unfold mw_in
  rw [Int32.lt_iff_toInt_lt (x := nI d - 1), dec_toI (by omega), Int32.lt_iff_toInt_lt (x := x) (y := nI d), nI_i (by omega)]
  constructor
  · rintro ⟨h1, h2⟩
    exact ⟨h1, by omega⟩
  · rintro ⟨h1, h2⟩
    exact ⟨h1, by omega⟩
theorem bg_sub {R2 : RS} {bg : Nat → Int32} {B : Nat → Nat} {k j : Nat} (hk : k ≤ 2048) (b0 : ∀ i, i < k → B i ≤ B (i + 1)) (b1 : B k ≤ 65536) (b2 : R2.2.2 = k + 1) (b3 : ∀ i, i ≤ k → R2.2.1 i = lN (B i) ∧ bg i = nI (B i)) (hj : j < k) :
    cst R2 (nI j) = nI (B j) ∧ cst R2 (nI (j + 1)) - cst R2 (nI j) = nI (B (j + 1) - B j) ∧ bg (j + 1) - bg j = nI (B (j + 1) - B j) ∧ B j ≤ B (j + 1) ∧ B (j + 1) ≤ 65536 ∧ B (j + 1) ≤ B k := by
  have m1 := mono_B b0 k (j + 1) (by omega) (by omega)
  have m2 := b0 j hj
  have e1 := cst_n (R2 := R2) (i := j) (b := B j) (by omega) (by omega) (b3 j (by omega)).1 (by omega)
  have e2 := cst_n (R2 := R2) (i := j + 1) (b := B (j + 1)) (by omega) (by omega) (b3 (j + 1) (by omega)).1 (by omega)
  refine ⟨e1, ?_, ?_, m2, by omega, m1⟩
  · rw [e1, e2, pk_sub m2]
  · rw [(b3 j (by omega)).2, (b3 (j + 1) (by omega)).2, pk_sub m2]
theorem a_chainAt {R2 R3 : RS} {bg pl : Nat → Int32} {B : Nat → Nat} {k j j2 : Nat} (hz : R3.2.2 = B k) (b1 : B k ≤ 65536) (b5 : ∀ i, i < B k → ∃ x, x < 8192 ∧ R3.2.1 i = lN x ∧ pl i = nI x) (e : cst R2 (nI j) = nI (B j)) (h : B j + j2 < B k) : (rw_at R3.2.1 (nI R3.2.2) (cst R2 (nI j) + nI j2)).toInt32 = pl (B j + j2) := by
  obtain ⟨x, x1, x2, x3⟩ := b5 (B j + j2) h
  rw [e, nI_add, rw_at_n (by omega) (by omega), x2, x3, lN_32 (by omega)]
set_option maxHeartbeats 4000000 in
set_option maxRecDepth 100000 in
theorem law_loop {p : Program} {l : Launch} {e : Env} {s : State} {m : MethodId} {below : List Frame} {meth : Method} {c : Code} {b L : Nat} {xs : Nat → Int32} {D : va_G} {E : ClassId × ClassId × ClassId × ClassId} {e0 h0 oA g0 : Nat} {ad am : Nat → Nat} (hl0 : l.stackTraces = false) (C0 : lw_At p s m meth c b L xs) (hL9 : L ≤ 2560) (hK : KK D E s) (hZ : SF e0 (lA s) s s.heap) :
    ∀ (n i : Nat) (H : Heap) (locs : List Loc) (cells slots : Nat) (ls : Array Slot), i ≤ 2564 → L ≤ i + 5 * n + 4 → LInv D E e0 (lA s) h0 oA g0 ad am n cells slots H → va_S (lA s) s.heap H locs → lv_has ls 7 [(0, .ref b), (1, .ref h0), (2, .ref g0), (3, .ref oA), (4, .int (nI i))] → W p l e room_1 s m #[Value.ref b] below meth c H locs cells slots (lw_Z below #[Value.ref b] s) (F0 m 23 ls []) := by
  obtain ⟨hx, hb, hrt, hml, hown, hts9, hX, hbl, hlocks, hgv⟩ := id C0
  have hbA : ¬ lA s b := Nat.not_le.mpr hbl
  intro n
  induction n with
  | zero =>
    intro i H locs cells slots ls hi hn hI hS hl
    obtain ⟨a, sn, ed, k, mo9, R1, R2, R3, R4, R5, fo, sg, LP, pf, th, hot, pc, cx, cy, iv, e9, gx, gy, bg, gl, gh, go, st, hP, hD, hL, hk, ⟨o1, o2, o3, o4, o5⟩, hz, hrel, hc1, hc2⟩ := hI
    refine lv_iload hx hb d_law_23 (lv_at hl 4 rfl) ?_
    refine lv_aload_n hx hb d_law_25 rfl (lv_at hl 0 rfl) ?_
    refine va_slen hx hb hX hbl hbA hS d_law_26 ?_
    refine lv_iconst (v := 5) hx hb d_law_27 (by decide) ?_
    refine lv_isub hx hb d_law_28 ?_
    refine lv_icmp_gt (tgt := 699) hx hb d_law_29 (by decide) (fun c1 => ?_) (fun c1 => ?_)
    · refine lv_iconst (v := 1) hx hb d_law_699 (by decide) ?_
      refine va_forget (fun q hq => hS.2.2 q hq) ?_
      refine W.widen (k := 601024) (n := 7293034) (by omega) (by omega) ?_
      exact lw_ret hx hb hrt hlocks d_law_700
    · exact absurd (by rw [Int32.lt_iff_toInt_lt, len5 hL9, nI_i (by omega)]; omega) c1
  | succ n ih =>
    intro i H locs cells slots ls hi hn hI hS hl
    refine lv_iload hx hb d_law_23 (lv_at hl 4 rfl) ?_
    refine lv_aload_n hx hb d_law_25 rfl (lv_at hl 0 rfl) ?_
    refine va_slen hx hb hX hbl hbA hS d_law_26 ?_
    refine lv_iconst (v := 5) hx hb d_law_27 (by decide) ?_
    refine lv_isub hx hb d_law_28 ?_
    refine lv_icmp_gt (tgt := 699) hx hb d_law_29 (by decide) (fun c1 => ?_) (fun c1 => ?_)
    · obtain ⟨a, sn, ed, k, mo9, R1, R2, R3, R4, R5, fo, sg, LP, pf, th, hot, pc, cx, cy, iv, e9, gx, gy, bg, gl, gh, go, st, hP, hD, hL, hk, ⟨o1, o2, o3, o4, o5⟩, hz, hrel, hc1, hc2⟩ := hI
      refine lv_iconst (v := 1) hx hb d_law_699 (by decide) ?_
      refine va_forget (fun q hq => hS.2.2 q hq) ?_
      refine W.widen (k := 601024) (n := 7293034) (by omega) (by omega) ?_
      exact lw_ret hx hb hrt hlocks d_law_700
    have hi5 : i + 5 ≤ L := by
      rw [Int32.lt_iff_toInt_lt, len5 hL9, nI_i (by omega)] at c1
      omega
    refine lv_aload_n hx hb d_law_32 rfl (lv_at hl 0 rfl) ?_
    refine lv_iload hx hb d_law_33 (lv_at hl 4 rfl) ?_
    refine va_sld hx hb hX hbl hbA hS (vp_in_nI (n := i) (by omega) (by omega)) d_law_35 ?_
    refine lv_bipush (v := 15) hx hb d_law_36 (by decide) ?_
    refine lv_iand hx hb d_law_38 ?_
    refine lv_topi (fun v ev => ?_)
    have K : ∀ (H : Heap) (locs : List Loc) (cells slots : Nat) (ls : Array Slot), LInv D E e0 (lA s) h0 oA g0 ad am n cells slots H → va_S (lA s) s.heap H locs → lv_has ls 7 [(0, .ref b), (1, .ref h0), (2, .ref g0), (3, .ref oA), (4, .int (nI i))] → W p l e room_1 s m #[Value.ref b] below meth c H locs cells slots (lw_Z below #[Value.ref b] s) (F0 m 693 ls []) := by
      intro H locs cells slots ls hI hS hl
      refine lv_iinc (v := nI (i + 5)) (lv' := [(4, .int (nI (i + 5))), (0, .ref b), (1, .ref h0), (2, .ref g0), (3, .ref oA)]) hx hb d_law_693 hl (k := 4) rfl (by first | exact (nI_add i 5) | exact congrArg _ (nI_add i 5) | rfl) (by decide) rfl (fun ls hl => ?_)
      refine lv_goto (tgt := 23) hx hb d_law_696 (by decide) ?_
      exact ih (i + 5) H locs cells slots ls (by omega) (by omega) hI hS (lv_sub hl [1, 2, 3, 4, 0] rfl)
    obtain ⟨a, sn, ed, k, mo9, R1, R2, R3, R4, R5, fo, sg, LP, pf, th, hot, pc, cx, cy, iv, e9, gx, gy, bg, gl, gh, go, st, hP, hD, hL, hk, ⟨o1, o2, o3, o4, o5⟩, hz, hrel, hc1, hc2⟩ := hI
    have w1 := o1.2.1
    have w2 := o1.2.2
    have w3 := o4.2.1
    have w4 := o4.2.2
    by_cases e_0 : v = 0
    · rw [e_0]
      refine lv_tableIn (tgt := 92) (off := 53) hx hb d_law_39 (by decide) (by decide) rfl (by decide) ?_
      by_cases f1 : sp_in (xs (i + 1)) = 0 ∨ sp_in (xs (i + 2)) = 0 ∨ sp_in (xs (i + 3)) = 0 ∨ sp_in (xs (i + 4)) = 0
      · exact lc_segment_a hl0 C0 hL9 hK hZ a sn ed k mo9 R1 R2 R3 R4 R5 fo sg LP pf th hot pc cx cy iv e9 gx gy bg gl gh go st hL hk o1 o2 o3 o4 o5 hz hrel hc1 hc2 hi5 f1 hP hD hS hl K
      have g1 : sp_in (xs (i + 1)) = 1 := sp_in_1 (fun z => f1 (Or.inl z))
      have g2 : sp_in (xs (i + 2)) = 1 := sp_in_1 (fun z => f1 (Or.inr (Or.inl z)))
      have g3 : sp_in (xs (i + 3)) = 1 := sp_in_1 (fun z => f1 (Or.inr (Or.inr (Or.inl z))))
      have g4 : sp_in (xs (i + 4)) = 1 := sp_in_1 (fun z => f1 (Or.inr (Or.inr (Or.inr z))))
      by_cases f2 : k < 2048
      · exact lc_segment hl0 C0 hL9 hK hZ a sn ed k mo9 R1 R2 R3 R4 R5 fo sg LP pf th hot pc cx cy iv e9 gx gy bg gl gh go st hL hk o1 o2 o3 o4 o5 hz hrel hc1 hc2 hi5 f2 g1 g2 g3 g4 hP hD hS hl K
      obtain rfl : k = 2048 := by omega
      exact lc_segment_b hl0 C0 hL9 hK hZ a sn ed mo9 R1 R2 R3 R4 R5 fo sg LP pf th hot pc cx cy iv e9 gx gy bg gl gh go st hL hk o1 o2 o3 o4 o5 hz hrel hc1 hc2 hi5 (Nat.le_refl _) g1 g2 g3 g4 hP hD hS hl K
    by_cases e1 : v = 1
    · rw [e1]
      refine lv_tableIn (tgt := 184) (off := 145) hx hb d_law_39 (by decide) (by decide) rfl (by decide) ?_
      exact lc_clear hl0 C0 hL9 hK hZ a sn ed k mo9 R1 R2 R3 R4 R5 fo sg LP pf th hot pc cx cy iv e9 gx gy bg gl gh go st hL hk o1 o2 o3 o4 o5 hz hrel hc1 hc2 hi5  hP hD hS hl K
    by_cases e2 : v = 2
    · rw [e2]
      refine lv_tableIn (tgt := 197) (off := 158) hx hb d_law_39 (by decide) (by decide) rfl (by decide) ?_
      rcases hrel.2 with ⟨q1, q2, q3, ⟨z1, z2, z3, z4, z5⟩, q5⟩ | ⟨q1, q2⟩
      · rcases snap_all hrel.1 hk o1 o2 o3 o4 o5 z1 z2 z3 z4 z5 with ⟨B, s1, s2, s3, s4, s5, s6, s7⟩ | ⟨s1, s2⟩
        · exact lc_snap hl0 C0 hL9 hK hZ a sn ed k mo9 R1 R2 R3 R4 R5 fo sg LP pf th hot pc cx cy iv e9 gx gy bg gl gh go st hL hk o1 o2 o3 o4 o5 hz hrel hc1 hc2 hi5 q1 z2 z4 z5 B s1 s2 s3 s4 s5 s6 s7 hP hD hS hl K
        · exact lc_snap_x hl0 C0 hL9 hK hZ a sn ed k mo9 R1 R2 R3 R4 R5 fo sg LP pf th hot pc cx cy iv e9 gx gy bg gl gh go st hL hk o1 o2 o3 o4 o5 hz hrel hc1 hc2 hi5 q1 z2 z4 z5 s1 s2 hP hD hS hl K
      · exact lc_snap_1 hl0 C0 hL9 hK hZ a sn ed k mo9 R1 R2 R3 R4 R5 fo sg LP pf th hot pc cx cy iv e9 gx gy bg gl gh go st hL hk o1 o2 o3 o4 o5 hz hrel hc1 hc2 hi5 q1.1 q2 hP hD hS hl K
    by_cases e3 : v = 3
    · rw [e3]
      refine lv_tableIn (tgt := 241) (off := 202) hx hb d_law_39 (by decide) (by decide) rfl (by decide) ?_
      by_cases f1 : rw_has (nI k) (xs (i + 1)) = 0
      · exact lc_meets_a hl0 C0 hL9 hK hZ a sn ed k mo9 R1 R2 R3 R4 R5 fo sg LP pf th hot pc cx cy iv e9 gx gy bg gl gh go st hL hk o1 o2 o3 o4 o5 hz hrel hc1 hc2 hi5 f1 hP hD hS hl K
      by_cases f2 : sp_in (xs (i + 2)) = 0 ∨ sp_in (xs (i + 3)) = 0
      · exact lc_meets_b hl0 C0 hL9 hK hZ a sn ed k mo9 R1 R2 R3 R4 R5 fo sg LP pf th hot pc cx cy iv e9 gx gy bg gl gh go st hL hk o1 o2 o3 o4 o5 hz hrel hc1 hc2 hi5 f1 f2 hP hD hS hl K
      obtain ⟨j, hj, e1⟩ := has_nat (by omega) f1
      exact lc_meets hl0 C0 hL9 hK hZ a sn ed k mo9 R1 R2 R3 R4 R5 fo sg LP pf th hot pc cx cy iv e9 gx gy bg gl gh go st hL hk o1 o2 o3 o4 o5 hz hrel hc1 hc2 hi5 j hj e1 (sp_in_1 (fun z => f2 (Or.inl z))) (sp_in_1 (fun z => f2 (Or.inr z))) hP hD hS hl K
    by_cases e4 : v = 4
    · rw [e4]
      refine lv_tableIn (tgt := 328) (off := 289) hx hb d_law_39 (by decide) (by decide) rfl (by decide) ?_
      by_cases f1 : rw_has (nI k) (xs (i + 1)) = 0 ∨ rw_has (nI k) (xs (i + 2)) = 0 ∨ sp_xy (xs (i + 3)) = 0
      · exact lc_crossing_a hl0 C0 hL9 hK hZ a sn ed k mo9 R1 R2 R3 R4 R5 fo sg LP pf th hot pc cx cy iv e9 gx gy bg gl gh go st hL hk o1 o2 o3 o4 o5 hz hrel hc1 hc2 hi5 f1 hP hD hS hl K
      obtain ⟨j, hj, e1⟩ := has_nat (i := (xs (i + 1))) (n := k) (by omega) (fun z => f1 (Or.inl z))
      obtain ⟨j2, hj2, e2⟩ := has_nat (i := (xs (i + 2))) (n := k) (by omega) (fun z => f1 (Or.inr (Or.inl z)))
      by_cases f2 : sg_cross (sg j) (sg j2)
      · exact lc_crossing hl0 C0 hL9 hK hZ a sn ed k mo9 R1 R2 R3 R4 R5 fo sg LP pf th hot pc cx cy iv e9 gx gy bg gl gh go st hL hk o1 o2 o3 o4 o5 hz hrel hc1 hc2 hi5 j j2 hj hj2 e1 e2 (fun z => f1 (Or.inr (Or.inr z))) f2 hP hD hS hl K
      · exact lc_crossing_b hl0 C0 hL9 hK hZ a sn ed k mo9 R1 R2 R3 R4 R5 fo sg LP pf th hot pc cx cy iv e9 gx gy bg gl gh go st hL hk o1 o2 o3 o4 o5 hz hrel hc1 hc2 hi5 j j2 hj hj2 e1 e2 (fun z => f1 (Or.inr (Or.inr z))) f2 hP hD hS hl K
    by_cases e5 : v = 5
    · rw [e5]
      refine lv_tableIn (tgt := 408) (off := 369) hx hb d_law_39 (by decide) (by decide) rfl (by decide) ?_
      have hn1 := (rel_n hk hrel).1
      by_cases f1 : rw_has (nI R1.2.2) (xs (i + 1)) = 0 ∨ sp_xy (xs (i + 2)) = 0
      · exact lc_pixel_a hl0 C0 hL9 hK hZ a sn ed k mo9 R1 R2 R3 R4 R5 fo sg LP pf th hot pc cx cy iv e9 gx gy bg gl gh go st hL hk o1 o2 o3 o4 o5 hz hrel hc1 hc2 hi5 hn1 f1 hP hD hS hl K
      obtain ⟨j, hj, e1⟩ := has_nat (i := (xs (i + 1))) (n := R1.2.2) (by omega) (fun z => f1 (Or.inl z))
      rcases hrel.2 with ⟨q1, q2, q3, ⟨z1, z2, z3, z4, z5⟩, q5⟩ | ⟨⟨q1, q2, q3, q4, q5, q6⟩, q7⟩
      · omega
      · exact lc_pixel hl0 C0 hL9 hK hZ a sn ed k mo9 R1 R2 R3 R4 R5 fo sg LP pf th hot pc cx cy iv e9 gx gy bg gl gh go st hL hk o1 o2 o3 o4 o5 hz hrel hc1 hc2 hi5 hn1 q4 q5 j hj e1 (fun z => f1 (Or.inr z)) hP hD hS hl K
    by_cases e6 : v = 6
    · rw [e6]
      refine lv_tableIn (tgt := 476) (off := 437) hx hb d_law_39 (by decide) (by decide) rfl (by decide) ?_
      by_cases f1 : rw_has (nI k) (xs (i + 1)) = 0
      · exact lc_chain_a hl0 C0 hL9 hK hZ a sn ed k mo9 R1 R2 R3 R4 R5 fo sg LP pf th hot pc cx cy iv e9 gx gy bg gl gh go st hL hk o1 o2 o3 o4 o5 hz hrel hc1 hc2 hi5 f1 hP hD hS hl K
      rcases hrel.2 with ⟨q1, q2, q3, ⟨z1, z2, z3, z4, z5⟩, q5⟩ | ⟨⟨q1, q2, q3, q4, q5, q6, ⟨B, b0, b1, b2, b3, b4, b5⟩, q8⟩, q7⟩
      · exact lc_chain_b hl0 C0 hL9 hK hZ a sn ed k mo9 R1 R2 R3 R4 R5 fo sg LP pf th hot pc cx cy iv e9 gx gy bg gl gh go st hL hk o1 o2 o3 o4 o5 hz hrel hc1 hc2 hi5 q1 f1 hP hD hS hl K
      obtain ⟨j, hj, e1⟩ := has_nat (by omega) f1
      exact lc_chain hl0 C0 hL9 hK hZ a sn ed k mo9 R1 R2 R3 R4 R5 fo sg LP pf th hot pc cx cy iv e9 gx gy bg gl gh go st hL hk o1 o2 o3 o4 o5 hz hrel hc1 hc2 hi5 q1 B b0 b1 b2 b3 j hj e1 hP hD hS hl K
    by_cases e7 : v = 7
    · rw [e7]
      refine lv_tableIn (tgt := 532) (off := 493) hx hb d_law_39 (by decide) (by decide) rfl (by decide) ?_
      by_cases f1 : rw_has (nI k) (xs (i + 1)) = 0
      · exact lc_chainAt_a hl0 C0 hL9 hK hZ a sn ed k mo9 R1 R2 R3 R4 R5 fo sg LP pf th hot pc cx cy iv e9 gx gy bg gl gh go st hL hk o1 o2 o3 o4 o5 hz hrel hc1 hc2 hi5 f1 hP hD hS hl K
      rcases hrel.2 with ⟨q1, q2, q3, ⟨z1, z2, z3, z4, z5⟩, q5⟩ | ⟨⟨q1, q2, q3, q4, q5, q6, ⟨B, b0, b1, b2, b3, b4, b5⟩, q8⟩, q7⟩
      · exact lc_chainAt_b hl0 C0 hL9 hK hZ a sn ed k mo9 R1 R2 R3 R4 R5 fo sg LP pf th hot pc cx cy iv e9 gx gy bg gl gh go st hL hk o1 o2 o3 o4 o5 hz hrel hc1 hc2 hi5 q1 f1 hP hD hS hl K
      obtain ⟨j, hj, e1⟩ := has_nat (by omega) f1
      obtain ⟨c1, c2, c3, c4, c5, c6⟩ := bg_sub hk b0 b1 b2 b3 hj
      by_cases f2 : (xs (i + 2)) < 0 ∨ ¬ (xs (i + 2)) < cst R2 (nI (j + 1)) - cst R2 (nI j)
      · exact lc_chainAt_c hl0 C0 hL9 hK hZ a sn ed k mo9 R1 R2 R3 R4 R5 fo sg LP pf th hot pc cx cy iv e9 gx gy bg gl gh go st hL hk o1 o2 o3 o4 o5 hz hrel hc1 hc2 hi5 q1 j hj e1 f2 (fun z => by rw [c3, in_d (by omega)] at z; rw [c2] at f2; exact f2.elim z.1 (fun y => y z.2)) hP hD hS hl K
      have f3 : mw_in (xs (i + 2)) 0 (nI (B (j + 1) - B j) - 1) := (in_d (by omega)).mpr ⟨fun z => f2 (Or.inl z), Classical.not_not.mp (fun z => f2 (Or.inr (by rw [c2]; exact z)))⟩
      obtain ⟨j2, hj2, e2⟩ := mw_nat (by omega) f3
      have g3 : ¬ nI j2 < 0 := by rw [← e2]; exact fun z => f2 (Or.inl z)
      have g4 : nI j2 < cst R2 (nI (j + 1)) - cst R2 (nI j) := by rw [← e2]; exact Classical.not_not.mp (fun z => f2 (Or.inr z))
      exact lc_chainAt hl0 C0 hL9 hK hZ a sn ed k mo9 R1 R2 R3 R4 R5 fo sg LP pf th hot pc cx cy iv e9 gx gy bg gl gh go st hL hk o1 o2 o3 o4 o5 hz hrel hc1 hc2 hi5 q1 B b0 b1 b2 b3 b4 b5 j j2 hj e1 e2 g3 g4 (by omega) (a_chainAt (bg := bg) b4 b1 b5 c1 (by omega)) hP hD hS hl K
    by_cases e8 : v = 8
    · rw [e8]
      refine lv_tableIn (tgt := 600) (off := 561) hx hb d_law_39 (by decide) (by decide) rfl (by decide) ?_
      have hn1 := (rel_n hk hrel).2.1
      by_cases f1 : rw_has (nI R4.2.2) (xs (i + 1)) = 0 ∨ (xs (i + 2)) < 0 ∨ ¬ (xs (i + 2)) ≤ 2
      · exact lc_piece_a hl0 C0 hL9 hK hZ a sn ed k mo9 R1 R2 R3 R4 R5 fo sg LP pf th hot pc cx cy iv e9 gx gy bg gl gh go st hL hk o1 o2 o3 o4 o5 hz hrel hc1 hc2 hi5 hn1 f1 hP hD hS hl K
      obtain ⟨j, hj, e1⟩ := has_nat (i := (xs (i + 1))) (n := R4.2.2) (by omega) (fun z => f1 (Or.inl z))
      rcases hrel.2 with ⟨q1, q2, q3, ⟨z1, z2, z3, z4, z5⟩, q5⟩ | ⟨⟨q1, q2, q3, q4, q5, ⟨q6, q6b⟩, q9, q8⟩, q7⟩
      · omega
      obtain ⟨a9, b9, c9, ⟨t1, t2, t3⟩, t4, t5, t6, t7, t8⟩ := q8 j hj
      exact lc_piece hl0 C0 hL9 hK hZ a sn ed k mo9 R1 R2 R3 R4 R5 fo sg LP pf th hot pc cx cy iv e9 gx gy bg gl gh go st hL hk o1 o2 o3 o4 o5 hz hrel hc1 hc2 hi5 hn1 q6 q6b j a9 b9 c9 hj e1 (fun z => f1 (Or.inr (Or.inl z))) (fun z => f1 (Or.inr (Or.inr (Int32.not_le.mpr z)))) t1 t2 t3 t4 t5 t6 t7 t8 hP hD hS hl K
    by_cases e_9 : v = 9
    · rw [e_9]
      refine lv_tableIn (tgt := 668) (off := 629) hx hb d_law_39 (by decide) (by decide) rfl (by decide) ?_
      by_cases f1 : mw_in (xs (i + 1)) 0 4
      · exact lc_count hl0 C0 hL9 hK hZ a sn ed k mo9 R1 R2 R3 R4 R5 fo sg LP pf th hot pc cx cy iv e9 gx gy bg gl gh go st hL hk o1 o2 o3 o4 o5 hz hrel hc1 hc2 hi5 f1 hP hD hS hl K
      · exact lc_count_a hl0 C0 hL9 hK hZ a sn ed k mo9 R1 R2 R3 R4 R5 fo sg LP pf th hot pc cx cy iv e9 gx gy bg gl gh go st hL hk o1 o2 o3 o4 o5 hz hrel hc1 hc2 hi5 f1 hP hD hS hl K
    refine lv_tableOut (tgt := 693) hx hb d_law_39 (sw_law e_0 e1 e2 e3 e4 e5 e6 e7 e8 e_9) (by decide) ?_
    exact K H locs cells slots ls ⟨a, sn, ed, k, mo9, R1, R2, R3, R4, R5, fo, sg, LP, pf, th, hot, pc, cx, cy, iv, e9, gx, gy, bg, gl, gh, go, st, hP, hD, hL, hk, ⟨o1, o2, o3, o4, o5⟩, hz, hrel, by omega, by omega⟩ hS hl
end
