theorem d_P_findChains_0 : decode c_P_findChains 0 = .ok (.iconst 0, 1) := by decide +kernel
theorem d_P_findChains_1 : decode c_P_findChains 1 = .ok (.istore_n 1, 1) := by decide +kernel
theorem d_P_findChains_2 : decode c_P_findChains 2 = .ok (.iload_n 1, 1) := by decide +kernel
theorem d_P_findChains_3 : decode c_P_findChains 3 = .ok (.aload_n 0, 1) := by decide +kernel
theorem d_P_findChains_4 : decode c_P_findChains 4 = .ok (.getfield 12, 3) := by decide +kernel
theorem d_P_findChains_7 : decode c_P_findChains 7 = .ok (.invokevirtual 53, 3) := by decide +kernel
theorem d_P_findChains_10 : decode c_P_findChains 10 = .ok (.if_icmp .ge 63, 3) := by decide +kernel
theorem d_P_findChains_13 : decode c_P_findChains 13 = .ok (.aload_n 0, 1) := by decide +kernel
theorem d_P_findChains_14 : decode c_P_findChains 14 = .ok (.getfield 29, 3) := by decide +kernel
theorem d_P_findChains_17 : decode c_P_findChains 17 = .ok (.invokevirtual 92, 3) := by decide +kernel
theorem d_P_findChains_20 : decode c_P_findChains 20 = .ok (.istore_n 2, 1) := by decide +kernel
theorem d_P_findChains_21 : decode c_P_findChains 21 = .ok (.aload_n 0, 1) := by decide +kernel
theorem d_P_findChains_22 : decode c_P_findChains 22 = .ok (.getfield 25, 3) := by decide +kernel
theorem d_P_findChains_25 : decode c_P_findChains 25 = .ok (.iload_n 2, 1) := by decide +kernel
theorem d_P_findChains_26 : decode c_P_findChains 26 = .ok (.i2l, 1) := by decide +kernel
theorem d_P_findChains_27 : decode c_P_findChains 27 = .ok (.invokevirtual 188, 3) := by decide +kernel
theorem d_P_findChains_30 : decode c_P_findChains 30 = .ok (.pop, 1) := by decide +kernel
theorem d_P_findChains_31 : decode c_P_findChains 31 = .ok (.aload_n 0, 1) := by decide +kernel
theorem d_P_findChains_32 : decode c_P_findChains 32 = .ok (.aload_n 0, 1) := by decide +kernel
theorem d_P_findChains_33 : decode c_P_findChains 33 = .ok (.getfield 12, 3) := by decide +kernel
theorem d_P_findChains_36 : decode c_P_findChains 36 = .ok (.iload_n 1, 1) := by decide +kernel
theorem d_P_findChains_37 : decode c_P_findChains 37 = .ok (.invokevirtual 103, 3) := by decide +kernel
theorem d_P_findChains_40 : decode c_P_findChains 40 = .ok (.checkcast 62, 3) := by decide +kernel
theorem d_P_findChains_43 : decode c_P_findChains 43 = .ok (.invokevirtual 196, 3) := by decide +kernel
theorem d_P_findChains_46 : decode c_P_findChains 46 = .ok (.ifCond .ne 5, 3) := by decide +kernel
theorem d_P_findChains_49 : decode c_P_findChains 49 = .ok (.iconst 0, 1) := by decide +kernel
theorem d_P_findChains_50 : decode c_P_findChains 50 = .ok (.ireturn, 1) := by decide +kernel
theorem d_P_findChains_51 : decode c_P_findChains 51 = .ok (.aload_n 0, 1) := by decide +kernel
theorem d_P_findChains_52 : decode c_P_findChains 52 = .ok (.aload_n 0, 1) := by decide +kernel
theorem d_P_findChains_53 : decode c_P_findChains 53 = .ok (.getfield 12, 3) := by decide +kernel
theorem d_P_findChains_56 : decode c_P_findChains 56 = .ok (.iload_n 1, 1) := by decide +kernel
theorem d_P_findChains_57 : decode c_P_findChains 57 = .ok (.invokevirtual 103, 3) := by decide +kernel
theorem d_P_findChains_60 : decode c_P_findChains 60 = .ok (.checkcast 62, 3) := by decide +kernel
theorem d_P_findChains_63 : decode c_P_findChains 63 = .ok (.iload_n 2, 1) := by decide +kernel
theorem d_P_findChains_64 : decode c_P_findChains 64 = .ok (.invokevirtual 199, 3) := by decide +kernel
theorem d_P_findChains_67 : decode c_P_findChains 67 = .ok (.iinc 1 1, 3) := by decide +kernel
theorem d_P_findChains_70 : decode c_P_findChains 70 = .ok (.goto (-68), 3) := by decide +kernel
theorem d_P_findChains_73 : decode c_P_findChains 73 = .ok (.aload_n 0, 1) := by decide +kernel
theorem d_P_findChains_74 : decode c_P_findChains 74 = .ok (.getfield 25, 3) := by decide +kernel
theorem d_P_findChains_77 : decode c_P_findChains 77 = .ok (.aload_n 0, 1) := by decide +kernel
theorem d_P_findChains_78 : decode c_P_findChains 78 = .ok (.getfield 29, 3) := by decide +kernel
theorem d_P_findChains_81 : decode c_P_findChains 81 = .ok (.invokevirtual 92, 3) := by decide +kernel
theorem d_P_findChains_84 : decode c_P_findChains 84 = .ok (.i2l, 1) := by decide +kernel
theorem d_P_findChains_85 : decode c_P_findChains 85 = .ok (.invokevirtual 188, 3) := by decide +kernel
theorem d_P_findChains_88 : decode c_P_findChains 88 = .ok (.pop, 1) := by decide +kernel
theorem d_P_findChains_89 : decode c_P_findChains 89 = .ok (.iconst 1, 1) := by decide +kernel
theorem d_P_findChains_90 : decode c_P_findChains 90 = .ok (.ireturn, 1) := by decide +kernel
noncomputable section
/-- one chain more: the row of starts, the row of places -/
def fc_1 (q : SQ) (R1 R2 R3 : RS) : (RS × RS) × Bool := if (ap_all q R1 R3).2 = true then ((rs_add 2049 R2 (lN R3.2.2), op_all q R1 (ap_all q R1 R3).1 R3.2.2), true) else ((rs_add 2049 R2 (lN R3.2.2), (ap_all q R1 R3).1), false)
def fc_go (sg : Nat → SQ) (k : Nat) (R1 : RS) : Nat → Nat → RS × RS → (RS × RS) × Bool
  | 0, _, s => (s, true)
  | fu + 1, i, s => if i < k then (if (fc_1 (sg i) R1 s.1 s.2).2 = true then fc_go sg k R1 fu (i + 1) (fc_1 (sg i) R1 s.1 s.2).1 else fc_1 (sg i) R1 s.1 s.2) else ((rs_add 2049 s.1 (lN s.2.2.2), s.2), true)
/-- two rows, each in order and not shorter than before -/
def r2_ok (s t : RS × RS) : Prop := (rs_ok 2049 t.1 ∧ rs_ok 65536 t.2) ∧ s.1.1 ≤ t.1.1 ∧ s.2.1 ≤ t.2.1
theorem r2_tr {s t u : RS × RS} (h1 : r2_ok s t) (h2 : r2_ok t u) : r2_ok s u := ⟨h2.1, Nat.le_trans h1.2.1 h2.2.1, Nat.le_trans h1.2.2 h2.2.2⟩
theorem fc_1_ok {q : SQ} {R1 R2 R3 : RS} (h2 : rs_ok 2049 R2) (h3 : rs_ok 65536 R3) : r2_ok (R2, R3) (fc_1 q R1 R2 R3).1 := by
  have g2 := rs_add_ok (x := lN R3.2.2) h2
  have g3 := ap_ok (q := q) (f := R1.2.1) (e := ff R1 (sg_key (smx q) (smy q) + 1)) (R1.2.2 + 1) (ff R1 (sg_key (slx q) (sly q))) R3 h3
  unfold fc_1
  split
  · have g4 := op_ok (q := q) (R1 := R1) (b := R3.2.2) g3.1
    exact ⟨⟨g2.1, g4.1⟩, g2.2, Nat.le_trans g3.2 (Nat.le_of_eq g4.2.2.symm)⟩
  · exact ⟨⟨g2.1, g3.1⟩, g2.2, g3.2⟩
theorem fc_ok {sg : Nat → SQ} {k : Nat} {R1 : RS} : ∀ (fu i : Nat) (s : RS × RS), rs_ok 2049 s.1 → rs_ok 65536 s.2 → r2_ok s (fc_go sg k R1 fu i s).1 := by
  intro fu
  induction fu with
  | zero => intro i s h2 h3; exact ⟨⟨h2, h3⟩, Nat.le_refl _, Nat.le_refl _⟩
  | succ fu ih =>
    intro i s h2 h3
    unfold fc_go
    have g := fc_1_ok (q := sg i) (R1 := R1) h2 h3
    split
    · split
      · exact r2_tr g (ih (i + 1) _ g.1.1 g.1.2)
      · exact g
    · have g2 := rs_add_ok (x := lN s.2.2.2) h2
      exact ⟨⟨g2.1, h3⟩, g2.2, Nat.le_refl _⟩
def fc_all (sg : Nat → SQ) (k : Nat) (R1 R2 R3 : RS) : (RS × RS) × Bool := fc_go sg k R1 (k + 1) 0 (R2, R3)
/-- what the two rows have cost -/
def k2 (s t : RS × RS) : Nat := (t.1.1 - s.1.1) + (t.2.1 - s.2.1)
def p2 (s t : RS × RS) : Nat := (pot 2049 s.1.1 - pot 2049 t.1.1) + (pot 65536 s.2.1 - pot 65536 t.2.1)
theorem k2_tr {s t u : RS × RS} (h1 : r2_ok s t) (h2 : r2_ok t u) : k2 s t + k2 t u ≤ k2 s u := by
  unfold k2
  have a := h1.2; have b := h2.2
  omega
theorem p2_tr {s t u : RS × RS} (h1 : r2_ok s t) (h2 : r2_ok t u) : p2 s t + p2 t u ≤ p2 s u := by
  unfold p2
  have a1 := pot_anti (m := 2049) h1.2.1; have a2 := pot_anti (m := 65536) h1.2.2
  have b1 := pot_anti (m := 2049) h2.2.1; have b2 := pot_anti (m := 65536) h2.2.2
  omega
theorem rs_add_e {m : Nat} {R : RS} {x : Int64} (h : R.2.2 < m) : rs_add m R x = (ra_n R.2.2 R.1 m, ra_f R.2.1 R.2.2 R.1 x, R.2.2 + 1) := if_neg (by omega)
theorem rs_add_c {m : Nat} {R : RS} {x : Int64} (h : rs_ok m R) (hz : R.2.2 < m) : ra_c R.2.2 R.1 + R.1 ≤ (rs_add m R x).1 ∧ ra_s R.2.2 R.1 m + pot m (rs_add m R x).1 ≤ pot m R.1 := by
  rw [rs_add_e hz]
  exact ⟨ra_c_le h.2.1 h.1 hz h.2.2, ra_s_le h.2.1 h.1 hz h.2.2⟩
theorem ap_gz {q : SQ} {f : Nat → Int64} {e : Nat} : ∀ (fu h : Nat) (R : RS), R.2.2 ≤ (ap_go q f e fu h R).1.2.2 := by
  intro fu
  induction fu with
  | zero => intro j R; exact Nat.le_refl _
  | succ fu ih =>
    intro j R
    unfold ap_go
    split
    · split
      · exact ih _ _
      · split
        · rename_i c
          exact Nat.le_trans (by rw [rs_add_e c]; exact Nat.le_succ _) (ih (j + 1) _)
        · exact Nat.le_refl _
    · exact Nat.le_refl _
theorem ap_z (q : SQ) (R1 R3 : RS) : R3.2.2 ≤ (ap_all q R1 R3).1.2.2 := ap_gz _ _ _
set_option maxHeartbeats 4000000 in
set_option maxRecDepth 100000 in
theorem k_P_findChains (l : Launch) (D : va_G) (E : ClassId × ClassId × ClassId × ClassId) (h0 sz e0 ed k a1 a2 a3 : Nat) (ad : Nat → Nat) (sn mo9 : Int32) (sg : Nat → SQ) (LP : List Nat) (pf : Nat → va_E) (hL : Lst E LP pf e0 ed k sg) (hk : k ≤ 2048) (R1 R2 R3 : RS) (ho1 : rs_ok 16384 R1) (ho2 : rs_ok 2049 R2) (ho3 : rs_ok 65536 R3) (hz2 : R2.2.2 = 0) : Met l y_P_findChains (.code y_P_findChains c_P_findChains 3 (some .boolean) :: gw) ({ frames := 5, cells := (k2 (R2, R3) (fc_all sg k R1 R2 R3).1), slots := (p2 (R2, R3) (fc_all sg k R1 R2 R3).1), locals := 135 } : Room) (wP D E ([(h0, .inr (2, [.ref (ad 0), .ref (ad 1), .ref (ad 2), .ref (ad 3), .ref (ad 4), .ref (ad 5), .int sn])), ((ad 0), .inr (4, [.ref ed, .int (nI k), .int mo9])), ((ad 1), .inr (0, [.int (nI 16384), .ref a1, .int (nI R1.2.2)])), (a1, .inl (E.1, R1.1, .inr (.inl R1.2.1))), ((ad 2), .inr (0, [.int (nI 2049), .ref a2, .int (nI R2.2.2)])), (a2, .inl (E.1, R2.1, .inr (.inl R2.2.1))), ((ad 3), .inr (0, [.int (nI 65536), .ref a3, .int (nI R3.2.2)])), (a3, .inl (E.1, R3.1, .inr (.inl R3.2.1)))] ++ va_pl LP pf) sz [.ref h0]) (va_Qi (fun (r : Int32) (u : Nat × Nat) => r = if (fc_all sg k R1 R2 R3).2 = true then 1 else 0) (wB D (fun u => ([(h0, .inr (2, [.ref (ad 0), .ref (ad 1), .ref (ad 2), .ref (ad 3), .ref (ad 4), .ref (ad 5), .int sn])), ((ad 0), .inr (4, [.ref ed, .int (nI k), .int mo9])), ((ad 1), .inr (0, [.int (nI 16384), .ref a1, .int (nI R1.2.2)])), (a1, .inl (E.1, R1.1, .inr (.inl R1.2.1))), ((ad 2), .inr (0, [.int (nI 2049), .ref u.1, .int (nI (fc_all sg k R1 R2 R3).1.1.2.2)])), (u.1, .inl (E.1, (fc_all sg k R1 R2 R3).1.1.1, .inr (.inl ((fc_all sg k R1 R2 R3).1.1.2.1)))), ((ad 3), .inr (0, [.int (nI 65536), .ref u.2, .int (nI (fc_all sg k R1 R2 R3).1.2.2.2)])), (u.2, .inl (E.1, (fc_all sg k R1 R2 R3).1.2.1, .inr (.inl ((fc_all sg k R1 R2 R3).1.2.2.1))))] ++ va_pl LP pf)) (va_A ([(h0, .inr (2, [.ref (ad 0), .ref (ad 1), .ref (ad 2), .ref (ad 3), .ref (ad 4), .ref (ad 5), .int sn])), ((ad 0), .inr (4, [.ref ed, .int (nI k), .int mo9])), ((ad 1), .inr (0, [.int (nI 16384), .ref a1, .int (nI R1.2.2)])), (a1, .inl (E.1, R1.1, .inr (.inl R1.2.1))), ((ad 2), .inr (0, [.int (nI 2049), .ref a2, .int (nI R2.2.2)])), (a2, .inl (E.1, R2.1, .inr (.inl R2.2.1))), ((ad 3), .inr (0, [.int (nI 65536), .ref a3, .int (nI R3.2.2)])), (a3, .inl (E.1, R3.1, .inr (.inl R3.2.1)))] ++ va_pl LP pf) sz)) (va_A ([(h0, .inr (2, [.ref (ad 0), .ref (ad 1), .ref (ad 2), .ref (ad 3), .ref (ad 4), .ref (ad 5), .int sn])), ((ad 0), .inr (4, [.ref ed, .int (nI k), .int mo9])), ((ad 1), .inr (0, [.int (nI 16384), .ref a1, .int (nI R1.2.2)])), (a1, .inl (E.1, R1.1, .inr (.inl R1.2.1))), ((ad 2), .inr (0, [.int (nI 2049), .ref a2, .int (nI R2.2.2)])), (a2, .inl (E.1, R2.1, .inr (.inl R2.2.1))), ((ad 3), .inr (0, [.int (nI 65536), .ref a3, .int (nI R3.2.2)])), (a3, .inl (E.1, R3.1, .inr (.inl R3.2.1)))] ++ va_pl LP pf) sz)) (k2 (R2, R3) (fc_all sg k R1 R2 R3).1) (p2 (R2, R3) (fc_all sg k R1 R2 R3).1) (va_A ([(h0, .inr (2, [.ref (ad 0), .ref (ad 1), .ref (ad 2), .ref (ad 3), .ref (ad 4), .ref (ad 5), .int sn])), ((ad 0), .inr (4, [.ref ed, .int (nI k), .int mo9])), ((ad 1), .inr (0, [.int (nI 16384), .ref a1, .int (nI R1.2.2)])), (a1, .inl (E.1, R1.1, .inr (.inl R1.2.1))), ((ad 2), .inr (0, [.int (nI 2049), .ref a2, .int (nI R2.2.2)])), (a2, .inl (E.1, R2.1, .inr (.inl R2.2.1))), ((ad 3), .inr (0, [.int (nI 65536), .ref a3, .int (nI R3.2.2)])), (a3, .inl (E.1, R3.1, .inr (.inl R3.2.1)))] ++ va_pl LP pf) sz) := by
  refine wr_ofW (y := y_P_findChains) (cc := c_P_findChains) (maxL := 3) (ws := ([(h0, .inr (2, [.ref (ad 0), .ref (ad 1), .ref (ad 2), .ref (ad 3), .ref (ad 4), .ref (ad 5), .int sn])), ((ad 0), .inr (4, [.ref ed, .int (nI k), .int mo9])), ((ad 1), .inr (0, [.int (nI 16384), .ref a1, .int (nI R1.2.2)])), (a1, .inl (E.1, R1.1, .inr (.inl R1.2.1))), ((ad 2), .inr (0, [.int (nI 2049), .ref a2, .int (nI R2.2.2)])), (a2, .inl (E.1, R2.1, .inr (.inl R2.2.1))), ((ad 3), .inr (0, [.int (nI 65536), .ref a3, .int (nI R3.2.2)])), (a3, .inl (E.1, R3.1, .inr (.inl R3.2.1)))] ++ va_pl LP pf)) (sz := sz) (av := [.ref h0]) (Qc := fun A => (va_Qi (fun (r : Int32) (u : Nat × Nat) => r = if (fc_all sg k R1 R2 R3).2 = true then 1 else 0) (wB D (fun u => ([(h0, .inr (2, [.ref (ad 0), .ref (ad 1), .ref (ad 2), .ref (ad 3), .ref (ad 4), .ref (ad 5), .int sn])), ((ad 0), .inr (4, [.ref ed, .int (nI k), .int mo9])), ((ad 1), .inr (0, [.int (nI 16384), .ref a1, .int (nI R1.2.2)])), (a1, .inl (E.1, R1.1, .inr (.inl R1.2.1))), ((ad 2), .inr (0, [.int (nI 2049), .ref u.1, .int (nI (fc_all sg k R1 R2 R3).1.1.2.2)])), (u.1, .inl (E.1, (fc_all sg k R1 R2 R3).1.1.1, .inr (.inl ((fc_all sg k R1 R2 R3).1.1.2.1)))), ((ad 3), .inr (0, [.int (nI 65536), .ref u.2, .int (nI (fc_all sg k R1 R2 R3).1.2.2.2)])), (u.2, .inl (E.1, (fc_all sg k R1 R2 R3).1.2.1, .inr (.inl ((fc_all sg k R1 R2 R3).1.2.2.1))))] ++ va_pl LP pf)) A) A)) (by decide) (Nat.le_of_ble_eq_true rfl) ?_
  intro p e s m below meth c B hP hK A hA hD hS ls hl
  obtain ⟨hx, hb, hrt, hml, hown, hts, hG, hlocks, hin⟩ := B
  have hl : lv_has ls 3 [(0, .ref h0)] := hl
  obtain ⟨T, hT⟩ : ∃ T, T = (fc_all sg k R1 R2 R3) := ⟨_, rfl⟩
  rw [← hT]
  rw [fc_all] at hT
  refine lv_iconst (v := 0) hx hb d_P_findChains_0 (by decide) ?_
  refine lv_istore_n (lv' := [(1, .int 0), (0, .ref h0)]) hx hb d_P_findChains_1 rfl hl (by decide) rfl (fun ls hl => ?_)
  have loop : ∀ (fu : Nat) (i : Nat) (st : RS × RS) (b2 : Nat) (b3 : Nat) (H : Heap) (locs : List Loc) (ls : Array Slot), (i ≤ k) → (k < i + fu) → (fc_go sg k R1 fu i st = T) → (r2_ok (R2, R3) st) → (st.1.2.2 ≤ i) → va_P D vwC ([(h0, .inr (2, [.ref (ad 0), .ref (ad 1), .ref (ad 2), .ref (ad 3), .ref (ad 4), .ref (ad 5), .int sn])), ((ad 0), .inr (4, [.ref ed, .int (nI k), .int mo9])), ((ad 1), .inr (0, [.int (nI 16384), .ref a1, .int (nI R1.2.2)])), (a1, .inl (E.1, R1.1, .inr (.inl R1.2.1))), ((ad 2), .inr (0, [.int (nI 2049), .ref b2, .int (nI st.1.2.2)])), (b2, .inl (E.1, st.1.1, .inr (.inl st.1.2.1))), ((ad 3), .inr (0, [.int (nI 65536), .ref b3, .int (nI st.2.2.2)])), (b3, .inl (E.1, st.2.1, .inr (.inl st.2.2.1)))] ++ va_pl LP pf) H → va_D A ([(h0, .inr (2, [.ref (ad 0), .ref (ad 1), .ref (ad 2), .ref (ad 3), .ref (ad 4), .ref (ad 5), .int sn])), ((ad 0), .inr (4, [.ref ed, .int (nI k), .int mo9])), ((ad 1), .inr (0, [.int (nI 16384), .ref a1, .int (nI R1.2.2)])), (a1, .inl (E.1, R1.1, .inr (.inl R1.2.1))), ((ad 2), .inr (0, [.int (nI 2049), .ref b2, .int (nI st.1.2.2)])), (b2, .inl (E.1, st.1.1, .inr (.inl st.1.2.1))), ((ad 3), .inr (0, [.int (nI 65536), .ref b3, .int (nI st.2.2.2)])), (b3, .inl (E.1, st.2.1, .inr (.inl st.2.2.1)))] ++ va_pl LP pf) → va_S A s.heap H locs → lv_has ls 3 [(0, .ref h0), (1, .int (nI i))] → W p l e ({ frames := 5, cells := (k2 (R2, R3) T.1), slots := (p2 (R2, R3) T.1), locals := 135 } : Room) s m ([.ref h0] : List Value).toArray below meth c H locs (k2 (R2, R3) st) (p2 (R2, R3) st) (MQ below (va_Qi (fun (r : Int32) (u : Nat × Nat) => r = if T.2 = true then 1 else 0) (wB D (fun u => ([(h0, .inr (2, [.ref (ad 0), .ref (ad 1), .ref (ad 2), .ref (ad 3), .ref (ad 4), .ref (ad 5), .int sn])), ((ad 0), .inr (4, [.ref ed, .int (nI k), .int mo9])), ((ad 1), .inr (0, [.int (nI 16384), .ref a1, .int (nI R1.2.2)])), (a1, .inl (E.1, R1.1, .inr (.inl R1.2.1))), ((ad 2), .inr (0, [.int (nI 2049), .ref u.1, .int (nI T.1.1.2.2)])), (u.1, .inl (E.1, T.1.1.1, .inr (.inl T.1.1.2.1))), ((ad 3), .inr (0, [.int (nI 65536), .ref u.2, .int (nI T.1.2.2.2)])), (u.2, .inl (E.1, T.1.2.1, .inr (.inl T.1.2.2.1)))] ++ va_pl LP pf)) A) A) ([.ref h0] : List Value).toArray s (k2 (R2, R3) T.1) (p2 (R2, R3) T.1) A) (F0 m 2 ls []) := by
    intro fu
    induction fu with
    | zero =>
      intro i st b2 b3 H locs ls h1 h2 h3 h4 h5 hP hD hS hl
      omega
    | succ fu ih =>
      intro i st b2 b3 H locs ls h1 h2 h3 h4 h5 hP hD hS hl
      have o1 := fc_ok (sg := sg) (k := k) (R1 := R1) (fu + 1) i st h4.1.1 h4.1.2
      rw [h3] at o1
      have o2 := k2_tr h4 o1
      have o3 := p2_tr h4 o1
      rw [fc_go] at h3
      refine lv_iload_n hx hb d_P_findChains_2 rfl (lv_at hl 1 rfl) ?_
      refine lv_aload_n hx hb d_P_findChains_3 rfl (lv_at hl 0 rfl) ?_
      refine va_get (D := D) (ci := 2) (v := .ref (ad 0)) (C := K_P) (T := F_P) (N := 7) hx hb hG in_P hown hK.1 hP 0 rfl rfl 0 (by decide) (hG _ wd_109) (fun _ h9 => h9) rfl d_P_findChains_4 ?_
      have hPc := hP.sub (ws' := [((ad 0), .inr (4, [.ref ed, .int (nI k), .int mo9]))]) [1] rfl
      refine vp_callSi (W.runV (As := []) (rest := [.int (nI i)]) ⟨hx, hb, hml, hown, hts⟩ (k_A_size l D E (ad 0) (.ref ed) (nI k) mo9) (cwV 0 hts (gw_gv wd_135 wd_136 wd_137 wd_40 wd_138) rfl rfl rfl (by decide +kernel) ⟨Nat.le_of_ble_eq_true rfl, Nat.le_of_ble_eq_true rfl⟩) (rP_V 0 hPc hK rfl rfl) rfl rfl hl.1 rfl (lv_room (Nat.le_of_ble_eq_true rfl)) d_P_findChains_7 ⟨by show _ ≤ k2 (R2, R3) T.1; omega, by show _ ≤ p2 (R2, R3) T.1; omega⟩) (fun r1 hr1 => ?_)
      subst hr1
      refine lv_icmp_ge (tgt := 73) hx hb d_P_findChains_10 (by decide) (fun c1 => ?_) (fun c1 => ?_)
      · have q9 : ¬ i < k := by have := (nI_leI (by omega) (by omega)).mp c1; omega
        rw [if_neg q9] at h3
        have z1 : st.1.2.2 < 2049 := by omega
        obtain ⟨qa, qb, qc⟩ := id h4.1.1
        have q6 := h4.1.2.2.2
        have q7 := h4.1.2.2.1
        have g1 := rs_add_ok (x := lN st.2.2.2) h4.1.1
        have g2 := rs_add_c (x := lN st.2.2.2) h4.1.1 z1
        obtain ⟨Aa, hA9⟩ : ∃ Aa, Aa = rs_add 2049 st.1 (lN st.2.2.2) := ⟨_, rfl⟩
        rw [← hA9] at g1 g2 h3
        have e9 := hA9
        rw [rs_add_e z1] at e9
        have g3 : r2_ok st (Aa, st.2) := ⟨⟨g1.1, h4.1.2⟩, g1.2, Nat.le_refl _⟩
        have g4 := r2_tr h4 g3
        have g5 : r2_ok (Aa, st.2) T.1 := by rw [← h3]; exact ⟨⟨g1.1, h4.1.2⟩, Nat.le_refl _, Nat.le_refl _⟩
        have g6 := k2_tr g4 g5
        have g7 := p2_tr g4 g5
        have g8 := k2_tr h4 g3
        have g9 := p2_tr h4 g3
        have w1 : k2 st (Aa, st.2) = Aa.1 - st.1.1 := by show (Aa.1 - st.1.1) + (st.2.1 - st.2.1) = _; omega
        have w2 : p2 st (Aa, st.2) = pot 2049 st.1.1 - pot 2049 Aa.1 := by show (pot 2049 st.1.1 - pot 2049 Aa.1) + (pot 65536 st.2.1 - pot 65536 st.2.1) = _; omega
        refine lv_aload_n hx hb d_P_findChains_73 rfl (lv_at hl 0 rfl) ?_
        refine va_get (D := D) (ci := 2) (v := .ref (ad 2)) (C := K_P) (T := F_P) (N := 7) hx hb hG in_P hown hK.1 hP 0 rfl rfl 2 (by decide) (hG _ wd_111) (fun _ h9 => h9) rfl d_P_findChains_74 ?_
        refine lv_aload_n hx hb d_P_findChains_77 rfl (lv_at hl 0 rfl) ?_
        refine va_get (D := D) (ci := 2) (v := .ref (ad 3)) (C := K_P) (T := F_P) (N := 7) hx hb hG in_P hown hK.1 hP 0 rfl rfl 3 (by decide) (hG _ wd_112) (fun _ h9 => h9) rfl d_P_findChains_78 ?_
        have hPc := hP.sub (ws' := [((ad 3), .inr (0, [.int (nI 65536), .ref b3, .int (nI st.2.2.2)]))]) [6] rfl
        refine vp_callSi (W.runV (As := []) (rest := [.ref (ad 2)]) ⟨hx, hb, hml, hown, hts⟩ (k_R_size l D E (ad 3) b3 (nI 65536) (nI st.2.2.2)) (cwV 0 hts (gw_gv wd_155 wd_156 wd_157 wd_41 wd_158) rfl rfl rfl (by decide +kernel) ⟨Nat.le_of_ble_eq_true rfl, Nat.le_of_ble_eq_true rfl⟩) (rP_V 0 hPc hK rfl rfl) rfl rfl hl.1 rfl (lv_room (Nat.le_of_ble_eq_true rfl)) d_P_findChains_81 ⟨by show _ ≤ k2 (R2, R3) T.1; omega, by show _ ≤ p2 (R2, R3) T.1; omega⟩) (fun r2 hr2 => ?_)
        subst hr2
        refine lv_i2l hx hb d_P_findChains_84 rfl ?_
        rw [show (Int32.toInt64 (nI st.2.2.2)) = lN st.2.2.2 from nI_l (by omega)]
        have hPc := hP.sub (ws' := [((ad 2), .inr (0, [.int (nI 2049), .ref b2, .int (nI st.1.2.2)])), (b2, .inl (E.1, st.1.1, .inr (.inl st.1.2.1)))]) [4, 5] rfl
        have hDc := hD.sub (ws' := [((ad 2), .inr (0, [.int (nI 2049), .ref b2, .int (nI st.1.2.2)])), (b2, .inl (E.1, st.1.1, .inr (.inl st.1.2.1)))]) [4, 5] (by decide) rfl
        have hFc := va_free (wc := [((ad 2), .inr (0, [.int (nI 2049), .ref b2, .int (nI st.1.2.2)])), (b2, .inl (E.1, st.1.1, .inr (.inl st.1.2.1)))]) hD hS hA [4, 5] rfl
        refine va_calli (va_runV (As := [.long (lN st.2.2.2)]) (rest := []) ⟨hx, hb, hml, hown, hts⟩ (k_R_add l D E (ad 2) b2 H.size 2049 st.1.2.2 st.1.1 st.1.2.1 (lN st.2.2.2) qa qb z1 qc (by omega)) (cwV 1 hts (gw_gv wd_415 wd_416 wd_417 wd_41 wd_418) rfl rfl rfl (by decide +kernel) ⟨Nat.le_of_ble_eq_true rfl, Nat.le_of_ble_eq_true rfl⟩) (wP_V 0 hPc hK hDc rfl rfl) rfl rfl hl.1 rfl (lv_room (Nat.le_of_ble_eq_true rfl)) d_P_findChains_85 ⟨by show _ + ra_c st.1.2.2 st.1.1 ≤ k2 (R2, R3) T.1; omega, by show _ + ra_s st.1.2.2 st.1.1 2049 ≤ p2 (R2, R3) T.1; omega⟩) hS (fun q _ h => hFc q h) hFc (fun r9 u2 t H1 locs ht hvm hw hB hz1 hk1 hS => ?_)
        obtain ⟨hP1, hD1⟩ := hB
        rw [ht] at hP1
        have hP1 : va_P D vwC [((ad 2), .inr (0, [.int (nI 2049), .ref u2, .int (nI Aa.2.2)])), (u2, .inl (E.1, Aa.1, .inr (.inl Aa.2.1)))] H1 := by rw [e9]; exact hP1
        have hD1 : va_D (va_A [((ad 2), .inr (0, [.int (nI 2049), .ref b2, .int (nI st.1.2.2)])), (b2, .inl (E.1, st.1.1, .inr (.inl st.1.2.1)))] H.size) [((ad 2), .inr (0, [.int (nI 2049), .ref u2, .int (nI Aa.2.2)])), (u2, .inl (E.1, Aa.1, .inr (.inl Aa.2.1)))] := by rw [e9]; exact hD1
        obtain ⟨hP, hD⟩ := va_joinQ (X := [(h0, .inr (2, [.ref (ad 0), .ref (ad 1), .ref (ad 2), .ref (ad 3), .ref (ad 4), .ref (ad 5), .int sn])), ((ad 0), .inr (4, [.ref ed, .int (nI k), .int mo9])), ((ad 1), .inr (0, [.int (nI 16384), .ref a1, .int (nI R1.2.2)])), (a1, .inl (E.1, R1.1, .inr (.inl R1.2.1))), ((ad 2), .inr (0, [.int (nI 2049), .ref b2, .int (nI st.1.2.2)])), (b2, .inl (E.1, st.1.1, .inr (.inl st.1.2.1))), ((ad 3), .inr (0, [.int (nI 65536), .ref b3, .int (nI st.2.2.2)])), (b3, .inl (E.1, st.2.1, .inr (.inl st.2.2.1)))]) (cx := [((ad 2), .inr (0, [.int (nI 2049), .ref b2, .int (nI st.1.2.2)])), (b2, .inl (E.1, st.1.1, .inr (.inl st.1.2.1)))]) (wr := [(h0, .inr (2, [.ref (ad 0), .ref (ad 1), .ref (ad 2), .ref (ad 3), .ref (ad 4), .ref (ad 5), .int sn])), ((ad 0), .inr (4, [.ref ed, .int (nI k), .int mo9])), ((ad 1), .inr (0, [.int (nI 16384), .ref a1, .int (nI R1.2.2)])), (a1, .inl (E.1, R1.1, .inr (.inl R1.2.1))), ((ad 3), .inr (0, [.int (nI 65536), .ref b3, .int (nI st.2.2.2)])), (b3, .inl (E.1, st.2.1, .inr (.inl st.2.2.1)))]) (w1 := [((ad 2), .inr (0, [.int (nI 2049), .ref u2, .int (nI Aa.2.2)])), (u2, .inl (E.1, Aa.1, .inr (.inl Aa.2.1)))]) (pl := va_pl LP pf) hP hD [4, 5] [0, 1, 2, 3, 6, 7] rfl rfl (by decide) (by decide) hk1 hFc hP1 hD1
        generalize H1 = H at hP hS ⊢
        have hP : va_P D vwC ([(h0, .inr (2, [.ref (ad 0), .ref (ad 1), .ref (ad 2), .ref (ad 3), .ref (ad 4), .ref (ad 5), .int sn])), ((ad 0), .inr (4, [.ref ed, .int (nI k), .int mo9])), ((ad 1), .inr (0, [.int (nI 16384), .ref a1, .int (nI R1.2.2)])), (a1, .inl (E.1, R1.1, .inr (.inl R1.2.1))), ((ad 3), .inr (0, [.int (nI 65536), .ref b3, .int (nI st.2.2.2)])), (b3, .inl (E.1, st.2.1, .inr (.inl st.2.2.1))), ((ad 2), .inr (0, [.int (nI 2049), .ref u2, .int (nI Aa.2.2)])), (u2, .inl (E.1, Aa.1, .inr (.inl Aa.2.1)))] ++ va_pl LP pf) H := hP
        have hD : va_D A ([(h0, .inr (2, [.ref (ad 0), .ref (ad 1), .ref (ad 2), .ref (ad 3), .ref (ad 4), .ref (ad 5), .int sn])), ((ad 0), .inr (4, [.ref ed, .int (nI k), .int mo9])), ((ad 1), .inr (0, [.int (nI 16384), .ref a1, .int (nI R1.2.2)])), (a1, .inl (E.1, R1.1, .inr (.inl R1.2.1))), ((ad 3), .inr (0, [.int (nI 65536), .ref b3, .int (nI st.2.2.2)])), (b3, .inl (E.1, st.2.1, .inr (.inl st.2.2.1))), ((ad 2), .inr (0, [.int (nI 2049), .ref u2, .int (nI Aa.2.2)])), (u2, .inl (E.1, Aa.1, .inr (.inl Aa.2.1)))] ++ va_pl LP pf) := hD
        have hP := va_P.part (X := [(h0, .inr (2, [.ref (ad 0), .ref (ad 1), .ref (ad 2), .ref (ad 3), .ref (ad 4), .ref (ad 5), .int sn])), ((ad 0), .inr (4, [.ref ed, .int (nI k), .int mo9])), ((ad 1), .inr (0, [.int (nI 16384), .ref a1, .int (nI R1.2.2)])), (a1, .inl (E.1, R1.1, .inr (.inl R1.2.1))), ((ad 3), .inr (0, [.int (nI 65536), .ref b3, .int (nI st.2.2.2)])), (b3, .inl (E.1, st.2.1, .inr (.inl st.2.2.1))), ((ad 2), .inr (0, [.int (nI 2049), .ref u2, .int (nI Aa.2.2)])), (u2, .inl (E.1, Aa.1, .inr (.inl Aa.2.1)))]) (cx := [(h0, .inr (2, [.ref (ad 0), .ref (ad 1), .ref (ad 2), .ref (ad 3), .ref (ad 4), .ref (ad 5), .int sn])), ((ad 0), .inr (4, [.ref ed, .int (nI k), .int mo9])), ((ad 1), .inr (0, [.int (nI 16384), .ref a1, .int (nI R1.2.2)])), (a1, .inl (E.1, R1.1, .inr (.inl R1.2.1))), ((ad 2), .inr (0, [.int (nI 2049), .ref u2, .int (nI Aa.2.2)])), (u2, .inl (E.1, Aa.1, .inr (.inl Aa.2.1))), ((ad 3), .inr (0, [.int (nI 65536), .ref b3, .int (nI st.2.2.2)])), (b3, .inl (E.1, st.2.1, .inr (.inl st.2.2.1)))]) (pl := va_pl LP pf) hP [0, 1, 2, 3, 6, 7, 4, 5] rfl
        have hD := va_D.part (X := [(h0, .inr (2, [.ref (ad 0), .ref (ad 1), .ref (ad 2), .ref (ad 3), .ref (ad 4), .ref (ad 5), .int sn])), ((ad 0), .inr (4, [.ref ed, .int (nI k), .int mo9])), ((ad 1), .inr (0, [.int (nI 16384), .ref a1, .int (nI R1.2.2)])), (a1, .inl (E.1, R1.1, .inr (.inl R1.2.1))), ((ad 3), .inr (0, [.int (nI 65536), .ref b3, .int (nI st.2.2.2)])), (b3, .inl (E.1, st.2.1, .inr (.inl st.2.2.1))), ((ad 2), .inr (0, [.int (nI 2049), .ref u2, .int (nI Aa.2.2)])), (u2, .inl (E.1, Aa.1, .inr (.inl Aa.2.1)))]) (cx := [(h0, .inr (2, [.ref (ad 0), .ref (ad 1), .ref (ad 2), .ref (ad 3), .ref (ad 4), .ref (ad 5), .int sn])), ((ad 0), .inr (4, [.ref ed, .int (nI k), .int mo9])), ((ad 1), .inr (0, [.int (nI 16384), .ref a1, .int (nI R1.2.2)])), (a1, .inl (E.1, R1.1, .inr (.inl R1.2.1))), ((ad 2), .inr (0, [.int (nI 2049), .ref u2, .int (nI Aa.2.2)])), (u2, .inl (E.1, Aa.1, .inr (.inl Aa.2.1))), ((ad 3), .inr (0, [.int (nI 65536), .ref b3, .int (nI st.2.2.2)])), (b3, .inl (E.1, st.2.1, .inr (.inl st.2.2.1)))]) (pl := va_pl LP pf) hD [0, 1, 2, 3, 6, 7, 4, 5] (by decide) rfl
        refine W.widen (k := (k2 (R2, R3) (Aa, st.2))) (n := (p2 (R2, R3) (Aa, st.2))) (by show _ + ra_c st.1.2.2 st.1.1 ≤ _; omega) (by show _ + ra_s st.1.2.2 st.1.1 2049 ≤ _; omega) ?_
        refine lv_pop hx hb d_P_findChains_88 rfl ?_
        refine lv_iconst (v := 1) hx hb d_P_findChains_89 (by decide) ?_
        subst h3
        exact W.zret (v := 1) (ty := .boolean) hx hb hrt rfl (fun t ht hW => ⟨⟨1, (u2, b3), rfl, rfl, ⟨by rw [ht]; exact hP, hD⟩⟩, hS.F ht⟩) hS.2.2 d_P_findChains_90 hlocks
      · have q9 : i < k := by rw [nI_leI (by omega) (by omega)] at c1; omega
        rw [if_pos q9] at h3
        obtain ⟨V, hV⟩ : ∃ V, V = fc_1 (sg i) R1 st.1 st.2 := ⟨_, rfl⟩
        rw [← hV] at h3
        have v1 := fc_1_ok (q := sg i) (R1 := R1) h4.1.1 h4.1.2
        rw [← hV] at v1
        have v1 : r2_ok st V.1 := v1
        have v2 : r2_ok V.1 T.1 := by
          by_cases z : V.2 = true
          · rw [if_pos z] at h3; rw [← h3]; exact fc_ok _ _ _ v1.1.1 v1.1.2
          · rw [if_neg z] at h3; rw [← h3]; exact ⟨v1.1, Nat.le_refl _, Nat.le_refl _⟩
        rw [fc_1] at hV
        obtain ⟨Y, hY⟩ : ∃ Y, Y = ap_all (sg i) R1 st.2 := ⟨_, rfl⟩
        have y1 := ap_ok (q := sg i) (f := R1.2.1) (e := ff R1 (sg_key (smx (sg i)) (smy (sg i)) + 1)) (R1.2.2 + 1) (ff R1 (sg_key (slx (sg i)) (sly (sg i)))) st.2 h4.1.2
        have y1 : rs_ok 65536 Y.1 ∧ st.2.1 ≤ Y.1.1 := by rw [hY]; exact y1
        rw [← hY] at hV
        have y2 := op_ok (q := sg i) (R1 := R1) (b := st.2.2.2) y1.1
        have y3 : V.1.1 = rs_add 2049 st.1 (lN st.2.2.2) ∧ V.1.2.1 = Y.1.1 := by
          by_cases z : Y.2 = true
          · rw [if_pos z] at hV; rw [hV]; exact ⟨rfl, y2.2.2⟩
          · rw [if_neg z] at hV; rw [hV]; exact ⟨rfl, rfl⟩
        have y0 : r2_ok (rs_add 2049 st.1 (lN st.2.2.2), st.2) V.1 := ⟨v1.1, by rw [y3.1]; exact Nat.le_refl _, by rw [y3.2]; exact y1.2⟩
        have h3s := h3
        have z1 : st.1.2.2 < 2049 := by omega
        obtain ⟨qa, qb, qc⟩ := id h4.1.1
        have q6 := h4.1.2.2.2
        have q7 := h4.1.2.2.1
        have g1 := rs_add_ok (x := lN st.2.2.2) h4.1.1
        have g2 := rs_add_c (x := lN st.2.2.2) h4.1.1 z1
        obtain ⟨Aa, hA9⟩ : ∃ Aa, Aa = rs_add 2049 st.1 (lN st.2.2.2) := ⟨_, rfl⟩
        rw [← hA9] at g1 g2
        have e9 := hA9
        rw [rs_add_e z1] at e9
        have g3 : r2_ok st (Aa, st.2) := ⟨⟨g1.1, h4.1.2⟩, g1.2, Nat.le_refl _⟩
        have g4 := r2_tr h4 g3
        have g5 : r2_ok (Aa, st.2) T.1 := by rw [hA9]; exact r2_tr y0 v2
        have g6 := k2_tr g4 g5
        have g7 := p2_tr g4 g5
        have g8 := k2_tr h4 g3
        have g9 := p2_tr h4 g3
        have w1 : k2 st (Aa, st.2) = Aa.1 - st.1.1 := by show (Aa.1 - st.1.1) + (st.2.1 - st.2.1) = _; omega
        have w2 : p2 st (Aa, st.2) = pot 2049 st.1.1 - pot 2049 Aa.1 := by show (pot 2049 st.1.1 - pot 2049 Aa.1) + (pot 65536 st.2.1 - pot 65536 st.2.1) = _; omega
        have y5 : V.1.1 = Aa := by rw [hA9]; exact y3.1
        have yV : r2_ok (Aa, st.2) (Aa, Y.1) := ⟨⟨g1.1, y1.1⟩, Nat.le_refl _, y1.2⟩
        have yT : r2_ok (Aa, Y.1) T.1 := ⟨v2.1, by rw [← y5]; exact v2.2.1, by rw [← y3.2]; exact v2.2.2⟩
        have yA := r2_tr g4 yV
        have d1 := k2_tr yA yT
        have d2 := p2_tr yA yT
        have d3 := k2_tr g4 yV
        have d4 := p2_tr g4 yV
        have w3 : k2 (Aa, st.2) (Aa, Y.1) = Y.1.1 - st.2.1 := by show (Aa.1 - Aa.1) + (Y.1.1 - st.2.1) = _; omega
        have w4 : p2 (Aa, st.2) (Aa, Y.1) = pot 65536 st.2.1 - pot 65536 Y.1.1 := by show (pot 2049 Aa.1 - pot 2049 Aa.1) + (pot 65536 st.2.1 - pot 65536 Y.1.1) = _; omega
        refine lv_aload_n hx hb d_P_findChains_13 rfl (lv_at hl 0 rfl) ?_
        refine va_get (D := D) (ci := 2) (v := .ref (ad 3)) (C := K_P) (T := F_P) (N := 7) hx hb hG in_P hown hK.1 hP 0 rfl rfl 3 (by decide) (hG _ wd_112) (fun _ h9 => h9) rfl d_P_findChains_14 ?_
        have hPc := hP.sub (ws' := [((ad 3), .inr (0, [.int (nI 65536), .ref b3, .int (nI st.2.2.2)]))]) [6] rfl
        refine vp_callSi (W.runV (As := []) (rest := []) ⟨hx, hb, hml, hown, hts⟩ (k_R_size l D E (ad 3) b3 (nI 65536) (nI st.2.2.2)) (cwV 0 hts (gw_gv wd_155 wd_156 wd_157 wd_41 wd_158) rfl rfl rfl (by decide +kernel) ⟨Nat.le_of_ble_eq_true rfl, Nat.le_of_ble_eq_true rfl⟩) (rP_V 0 hPc hK rfl rfl) rfl rfl hl.1 rfl (lv_room (Nat.le_of_ble_eq_true rfl)) d_P_findChains_17 ⟨by show _ ≤ k2 (R2, R3) T.1; omega, by show _ ≤ p2 (R2, R3) T.1; omega⟩) (fun r2 hr2 => ?_)
        subst hr2
        refine lv_istore_n (lv' := [(2, .int (nI st.2.2.2)), (0, .ref h0), (1, .int (nI i))]) hx hb d_P_findChains_20 rfl hl (by decide) rfl (fun ls hl => ?_)
        refine lv_aload_n hx hb d_P_findChains_21 rfl (lv_at hl 1 rfl) ?_
        refine va_get (D := D) (ci := 2) (v := .ref (ad 2)) (C := K_P) (T := F_P) (N := 7) hx hb hG in_P hown hK.1 hP 0 rfl rfl 2 (by decide) (hG _ wd_111) (fun _ h9 => h9) rfl d_P_findChains_22 ?_
        refine lv_iload_n hx hb d_P_findChains_25 rfl (lv_at hl 0 rfl) ?_
        refine lv_i2l hx hb d_P_findChains_26 rfl ?_
        rw [show (Int32.toInt64 (nI st.2.2.2)) = lN st.2.2.2 from nI_l (by omega)]
        have hPc := hP.sub (ws' := [((ad 2), .inr (0, [.int (nI 2049), .ref b2, .int (nI st.1.2.2)])), (b2, .inl (E.1, st.1.1, .inr (.inl st.1.2.1)))]) [4, 5] rfl
        have hDc := hD.sub (ws' := [((ad 2), .inr (0, [.int (nI 2049), .ref b2, .int (nI st.1.2.2)])), (b2, .inl (E.1, st.1.1, .inr (.inl st.1.2.1)))]) [4, 5] (by decide) rfl
        have hFc := va_free (wc := [((ad 2), .inr (0, [.int (nI 2049), .ref b2, .int (nI st.1.2.2)])), (b2, .inl (E.1, st.1.1, .inr (.inl st.1.2.1)))]) hD hS hA [4, 5] rfl
        refine va_calli (va_runV (As := [.long (lN st.2.2.2)]) (rest := []) ⟨hx, hb, hml, hown, hts⟩ (k_R_add l D E (ad 2) b2 H.size 2049 st.1.2.2 st.1.1 st.1.2.1 (lN st.2.2.2) qa qb z1 qc (by omega)) (cwV 1 hts (gw_gv wd_415 wd_416 wd_417 wd_41 wd_418) rfl rfl rfl (by decide +kernel) ⟨Nat.le_of_ble_eq_true rfl, Nat.le_of_ble_eq_true rfl⟩) (wP_V 0 hPc hK hDc rfl rfl) rfl rfl hl.1 rfl (lv_room (Nat.le_of_ble_eq_true rfl)) d_P_findChains_27 ⟨by show _ + ra_c st.1.2.2 st.1.1 ≤ k2 (R2, R3) T.1; omega, by show _ + ra_s st.1.2.2 st.1.1 2049 ≤ p2 (R2, R3) T.1; omega⟩) hS (fun q _ h => hFc q h) hFc (fun r9 u2 t H1 locs ht hvm hw hB hz1 hk1 hS => ?_)
        obtain ⟨hP1, hD1⟩ := hB
        rw [ht] at hP1
        have hP1 : va_P D vwC [((ad 2), .inr (0, [.int (nI 2049), .ref u2, .int (nI Aa.2.2)])), (u2, .inl (E.1, Aa.1, .inr (.inl Aa.2.1)))] H1 := by rw [e9]; exact hP1
        have hD1 : va_D (va_A [((ad 2), .inr (0, [.int (nI 2049), .ref b2, .int (nI st.1.2.2)])), (b2, .inl (E.1, st.1.1, .inr (.inl st.1.2.1)))] H.size) [((ad 2), .inr (0, [.int (nI 2049), .ref u2, .int (nI Aa.2.2)])), (u2, .inl (E.1, Aa.1, .inr (.inl Aa.2.1)))] := by rw [e9]; exact hD1
        obtain ⟨hP, hD⟩ := va_joinQ (X := [(h0, .inr (2, [.ref (ad 0), .ref (ad 1), .ref (ad 2), .ref (ad 3), .ref (ad 4), .ref (ad 5), .int sn])), ((ad 0), .inr (4, [.ref ed, .int (nI k), .int mo9])), ((ad 1), .inr (0, [.int (nI 16384), .ref a1, .int (nI R1.2.2)])), (a1, .inl (E.1, R1.1, .inr (.inl R1.2.1))), ((ad 2), .inr (0, [.int (nI 2049), .ref b2, .int (nI st.1.2.2)])), (b2, .inl (E.1, st.1.1, .inr (.inl st.1.2.1))), ((ad 3), .inr (0, [.int (nI 65536), .ref b3, .int (nI st.2.2.2)])), (b3, .inl (E.1, st.2.1, .inr (.inl st.2.2.1)))]) (cx := [((ad 2), .inr (0, [.int (nI 2049), .ref b2, .int (nI st.1.2.2)])), (b2, .inl (E.1, st.1.1, .inr (.inl st.1.2.1)))]) (wr := [(h0, .inr (2, [.ref (ad 0), .ref (ad 1), .ref (ad 2), .ref (ad 3), .ref (ad 4), .ref (ad 5), .int sn])), ((ad 0), .inr (4, [.ref ed, .int (nI k), .int mo9])), ((ad 1), .inr (0, [.int (nI 16384), .ref a1, .int (nI R1.2.2)])), (a1, .inl (E.1, R1.1, .inr (.inl R1.2.1))), ((ad 3), .inr (0, [.int (nI 65536), .ref b3, .int (nI st.2.2.2)])), (b3, .inl (E.1, st.2.1, .inr (.inl st.2.2.1)))]) (w1 := [((ad 2), .inr (0, [.int (nI 2049), .ref u2, .int (nI Aa.2.2)])), (u2, .inl (E.1, Aa.1, .inr (.inl Aa.2.1)))]) (pl := va_pl LP pf) hP hD [4, 5] [0, 1, 2, 3, 6, 7] rfl rfl (by decide) (by decide) hk1 hFc hP1 hD1
        generalize H1 = H at hP hS ⊢
        have hP : va_P D vwC ([(h0, .inr (2, [.ref (ad 0), .ref (ad 1), .ref (ad 2), .ref (ad 3), .ref (ad 4), .ref (ad 5), .int sn])), ((ad 0), .inr (4, [.ref ed, .int (nI k), .int mo9])), ((ad 1), .inr (0, [.int (nI 16384), .ref a1, .int (nI R1.2.2)])), (a1, .inl (E.1, R1.1, .inr (.inl R1.2.1))), ((ad 3), .inr (0, [.int (nI 65536), .ref b3, .int (nI st.2.2.2)])), (b3, .inl (E.1, st.2.1, .inr (.inl st.2.2.1))), ((ad 2), .inr (0, [.int (nI 2049), .ref u2, .int (nI Aa.2.2)])), (u2, .inl (E.1, Aa.1, .inr (.inl Aa.2.1)))] ++ va_pl LP pf) H := hP
        have hD : va_D A ([(h0, .inr (2, [.ref (ad 0), .ref (ad 1), .ref (ad 2), .ref (ad 3), .ref (ad 4), .ref (ad 5), .int sn])), ((ad 0), .inr (4, [.ref ed, .int (nI k), .int mo9])), ((ad 1), .inr (0, [.int (nI 16384), .ref a1, .int (nI R1.2.2)])), (a1, .inl (E.1, R1.1, .inr (.inl R1.2.1))), ((ad 3), .inr (0, [.int (nI 65536), .ref b3, .int (nI st.2.2.2)])), (b3, .inl (E.1, st.2.1, .inr (.inl st.2.2.1))), ((ad 2), .inr (0, [.int (nI 2049), .ref u2, .int (nI Aa.2.2)])), (u2, .inl (E.1, Aa.1, .inr (.inl Aa.2.1)))] ++ va_pl LP pf) := hD
        have hP := va_P.part (X := [(h0, .inr (2, [.ref (ad 0), .ref (ad 1), .ref (ad 2), .ref (ad 3), .ref (ad 4), .ref (ad 5), .int sn])), ((ad 0), .inr (4, [.ref ed, .int (nI k), .int mo9])), ((ad 1), .inr (0, [.int (nI 16384), .ref a1, .int (nI R1.2.2)])), (a1, .inl (E.1, R1.1, .inr (.inl R1.2.1))), ((ad 3), .inr (0, [.int (nI 65536), .ref b3, .int (nI st.2.2.2)])), (b3, .inl (E.1, st.2.1, .inr (.inl st.2.2.1))), ((ad 2), .inr (0, [.int (nI 2049), .ref u2, .int (nI Aa.2.2)])), (u2, .inl (E.1, Aa.1, .inr (.inl Aa.2.1)))]) (cx := [(h0, .inr (2, [.ref (ad 0), .ref (ad 1), .ref (ad 2), .ref (ad 3), .ref (ad 4), .ref (ad 5), .int sn])), ((ad 0), .inr (4, [.ref ed, .int (nI k), .int mo9])), ((ad 1), .inr (0, [.int (nI 16384), .ref a1, .int (nI R1.2.2)])), (a1, .inl (E.1, R1.1, .inr (.inl R1.2.1))), ((ad 2), .inr (0, [.int (nI 2049), .ref u2, .int (nI Aa.2.2)])), (u2, .inl (E.1, Aa.1, .inr (.inl Aa.2.1))), ((ad 3), .inr (0, [.int (nI 65536), .ref b3, .int (nI st.2.2.2)])), (b3, .inl (E.1, st.2.1, .inr (.inl st.2.2.1)))]) (pl := va_pl LP pf) hP [0, 1, 2, 3, 6, 7, 4, 5] rfl
        have hD := va_D.part (X := [(h0, .inr (2, [.ref (ad 0), .ref (ad 1), .ref (ad 2), .ref (ad 3), .ref (ad 4), .ref (ad 5), .int sn])), ((ad 0), .inr (4, [.ref ed, .int (nI k), .int mo9])), ((ad 1), .inr (0, [.int (nI 16384), .ref a1, .int (nI R1.2.2)])), (a1, .inl (E.1, R1.1, .inr (.inl R1.2.1))), ((ad 3), .inr (0, [.int (nI 65536), .ref b3, .int (nI st.2.2.2)])), (b3, .inl (E.1, st.2.1, .inr (.inl st.2.2.1))), ((ad 2), .inr (0, [.int (nI 2049), .ref u2, .int (nI Aa.2.2)])), (u2, .inl (E.1, Aa.1, .inr (.inl Aa.2.1)))]) (cx := [(h0, .inr (2, [.ref (ad 0), .ref (ad 1), .ref (ad 2), .ref (ad 3), .ref (ad 4), .ref (ad 5), .int sn])), ((ad 0), .inr (4, [.ref ed, .int (nI k), .int mo9])), ((ad 1), .inr (0, [.int (nI 16384), .ref a1, .int (nI R1.2.2)])), (a1, .inl (E.1, R1.1, .inr (.inl R1.2.1))), ((ad 2), .inr (0, [.int (nI 2049), .ref u2, .int (nI Aa.2.2)])), (u2, .inl (E.1, Aa.1, .inr (.inl Aa.2.1))), ((ad 3), .inr (0, [.int (nI 65536), .ref b3, .int (nI st.2.2.2)])), (b3, .inl (E.1, st.2.1, .inr (.inl st.2.2.1)))]) (pl := va_pl LP pf) hD [0, 1, 2, 3, 6, 7, 4, 5] (by decide) rfl
        refine W.widen (k := (k2 (R2, R3) (Aa, st.2))) (n := (p2 (R2, R3) (Aa, st.2))) (by show _ + ra_c st.1.2.2 st.1.1 ≤ _; omega) (by show _ + ra_s st.1.2.2 st.1.1 2049 ≤ _; omega) ?_
        refine lv_pop hx hb d_P_findChains_30 rfl ?_
        refine lv_aload_n hx hb d_P_findChains_31 rfl (lv_at hl 1 rfl) ?_
        refine lv_aload_n hx hb d_P_findChains_32 rfl (lv_at hl 1 rfl) ?_
        refine va_get (D := D) (ci := 2) (v := .ref (ad 0)) (C := K_P) (T := F_P) (N := 7) hx hb hG in_P hown hK.1 hP 0 rfl rfl 0 (by decide) (hG _ wd_109) (fun _ h9 => h9) rfl d_P_findChains_33 ?_
        refine lv_iload_n hx hb d_P_findChains_36 rfl (lv_at hl 2 rfl) ?_
        obtain ⟨n_ga, l_ga, ga, x1_ga, x2_ga, x3_ga, x4_ga, x5_ga, x6_ga, x7_ga⟩ := hL.get (i := i) q9
        have hPc : va_P D vwC [((ad 0), .inr (4, [.ref ed, .int (nI k), .int mo9])), (ed, .inl (E.2.2.2, n_ga, .inr (.inr (.inr (.inr l_ga)))))] H := pl_cons (hP.sub (ws' := [((ad 0), .inr (4, [.ref ed, .int (nI k), .int mo9]))]) [1] rfl) (pl_one (X := [(h0, .inr (2, [.ref (ad 0), .ref (ad 1), .ref (ad 2), .ref (ad 3), .ref (ad 4), .ref (ad 5), .int sn])), ((ad 0), .inr (4, [.ref ed, .int (nI k), .int mo9])), ((ad 1), .inr (0, [.int (nI 16384), .ref a1, .int (nI R1.2.2)])), (a1, .inl (E.1, R1.1, .inr (.inl R1.2.1))), ((ad 2), .inr (0, [.int (nI 2049), .ref u2, .int (nI Aa.2.2)])), (u2, .inl (E.1, Aa.1, .inr (.inl Aa.2.1))), ((ad 3), .inr (0, [.int (nI 65536), .ref b3, .int (nI st.2.2.2)])), (b3, .inl (E.1, st.2.1, .inr (.inl st.2.2.1)))]) hP x1_ga x2_ga)
        refine va_csq (W.runV (As := [.int (nI i)]) (rest := [.ref h0]) ⟨hx, hb, hml, hown, hts⟩ (k_A_get l D E (ad 0) ed n_ga k i mo9 l_ga q9 x3_ga (by omega)) (cwV 1 hts (gw_gv wd_369 wd_370 wd_371 wd_40 wd_372) rfl rfl rfl (by decide +kernel) ⟨Nat.le_of_ble_eq_true rfl, Nat.le_of_ble_eq_true rfl⟩) (rP_V 0 hPc hK rfl rfl) rfl rfl hl.1 rfl (lv_room (Nat.le_of_ble_eq_true rfl)) d_P_findChains_37 ⟨by show _ ≤ k2 (R2, R3) T.1; omega, by show _ ≤ p2 (R2, R3) T.1; omega⟩) (fun r_ga hr_ga => ?_)
        rw [x5_ga] at hr_ga
        subst hr_ga
        refine va_castS (a := ga) hx hb hown (hG _ wd_258) (hK.1.1 1 _ rfl).2 (va_recv (q0 := 0) hK.1 (pl_one (X := [(h0, .inr (2, [.ref (ad 0), .ref (ad 1), .ref (ad 2), .ref (ad 3), .ref (ad 4), .ref (ad 5), .int sn])), ((ad 0), .inr (4, [.ref ed, .int (nI k), .int mo9])), ((ad 1), .inr (0, [.int (nI 16384), .ref a1, .int (nI R1.2.2)])), (a1, .inl (E.1, R1.1, .inr (.inl R1.2.1))), ((ad 2), .inr (0, [.int (nI 2049), .ref u2, .int (nI Aa.2.2)])), (u2, .inl (E.1, Aa.1, .inr (.inl Aa.2.1))), ((ad 3), .inr (0, [.int (nI 65536), .ref b3, .int (nI st.2.2.2)])), (b3, .inl (E.1, st.2.1, .inr (.inl st.2.2.1)))]) hP x6_ga x7_ga) rfl rfl) d_P_findChains_40 ?_
        have hPc := va_P.part (X := [(h0, .inr (2, [.ref (ad 0), .ref (ad 1), .ref (ad 2), .ref (ad 3), .ref (ad 4), .ref (ad 5), .int sn])), ((ad 0), .inr (4, [.ref ed, .int (nI k), .int mo9])), ((ad 1), .inr (0, [.int (nI 16384), .ref a1, .int (nI R1.2.2)])), (a1, .inl (E.1, R1.1, .inr (.inl R1.2.1))), ((ad 2), .inr (0, [.int (nI 2049), .ref u2, .int (nI Aa.2.2)])), (u2, .inl (E.1, Aa.1, .inr (.inl Aa.2.1))), ((ad 3), .inr (0, [.int (nI 65536), .ref b3, .int (nI st.2.2.2)])), (b3, .inl (E.1, st.2.1, .inr (.inl st.2.2.1)))]) (cx := [(h0, .inr (2, [.ref (ad 0), .ref (ad 1), .ref (ad 2), .ref (ad 3), .ref (ad 4), .ref (ad 5), .int sn])), ((ad 1), .inr (0, [.int (nI 16384), .ref a1, .int (nI R1.2.2)])), (a1, .inl (E.1, R1.1, .inr (.inl R1.2.1))), ((ad 3), .inr (0, [.int (nI 65536), .ref b3, .int (nI st.2.2.2)])), (b3, .inl (E.1, st.2.1, .inr (.inl st.2.2.1)))]) (pl := va_pl LP pf) hP [0, 2, 3, 6, 7] rfl
        have hDc := va_D.part (X := [(h0, .inr (2, [.ref (ad 0), .ref (ad 1), .ref (ad 2), .ref (ad 3), .ref (ad 4), .ref (ad 5), .int sn])), ((ad 0), .inr (4, [.ref ed, .int (nI k), .int mo9])), ((ad 1), .inr (0, [.int (nI 16384), .ref a1, .int (nI R1.2.2)])), (a1, .inl (E.1, R1.1, .inr (.inl R1.2.1))), ((ad 2), .inr (0, [.int (nI 2049), .ref u2, .int (nI Aa.2.2)])), (u2, .inl (E.1, Aa.1, .inr (.inl Aa.2.1))), ((ad 3), .inr (0, [.int (nI 65536), .ref b3, .int (nI st.2.2.2)])), (b3, .inl (E.1, st.2.1, .inr (.inl st.2.2.1)))]) (cx := [(h0, .inr (2, [.ref (ad 0), .ref (ad 1), .ref (ad 2), .ref (ad 3), .ref (ad 4), .ref (ad 5), .int sn])), ((ad 1), .inr (0, [.int (nI 16384), .ref a1, .int (nI R1.2.2)])), (a1, .inl (E.1, R1.1, .inr (.inl R1.2.1))), ((ad 3), .inr (0, [.int (nI 65536), .ref b3, .int (nI st.2.2.2)])), (b3, .inl (E.1, st.2.1, .inr (.inl st.2.2.1)))]) (pl := va_pl LP pf) hD [0, 2, 3, 6, 7] (by decide) rfl
        have hFc := va_freeP (X := [(h0, .inr (2, [.ref (ad 0), .ref (ad 1), .ref (ad 2), .ref (ad 3), .ref (ad 4), .ref (ad 5), .int sn])), ((ad 0), .inr (4, [.ref ed, .int (nI k), .int mo9])), ((ad 1), .inr (0, [.int (nI 16384), .ref a1, .int (nI R1.2.2)])), (a1, .inl (E.1, R1.1, .inr (.inl R1.2.1))), ((ad 2), .inr (0, [.int (nI 2049), .ref u2, .int (nI Aa.2.2)])), (u2, .inl (E.1, Aa.1, .inr (.inl Aa.2.1))), ((ad 3), .inr (0, [.int (nI 65536), .ref b3, .int (nI st.2.2.2)])), (b3, .inl (E.1, st.2.1, .inr (.inl st.2.2.1)))]) (cx := [(h0, .inr (2, [.ref (ad 0), .ref (ad 1), .ref (ad 2), .ref (ad 3), .ref (ad 4), .ref (ad 5), .int sn])), ((ad 1), .inr (0, [.int (nI 16384), .ref a1, .int (nI R1.2.2)])), (a1, .inl (E.1, R1.1, .inr (.inl R1.2.1))), ((ad 3), .inr (0, [.int (nI 65536), .ref b3, .int (nI st.2.2.2)])), (b3, .inl (E.1, st.2.1, .inr (.inl st.2.2.1)))]) (pl := va_pl LP pf) hD hS hA [0, 2, 3, 6, 7] rfl
        refine va_calli (va_runV (As := [.ref ga]) (rest := []) ⟨hx, hb, hml, hown, hts⟩ (k_P_addPlaces l D E h0 H.size a1 b3 ad sn LP pf R1 st.2 ho1 h4.1.2 ga (sg i) x6_ga x7_ga) (cwV 1 hts (gw_gv wd_467 wd_469 wd_13 wd_37 wd_470) rfl rfl rfl (by decide +kernel) ⟨Nat.le_of_ble_eq_true rfl, Nat.le_of_ble_eq_true rfl⟩) (wP_V 0 hPc hK hDc rfl rfl) rfl rfl hl.1 rfl (lv_room (Nat.le_of_ble_eq_true rfl)) d_P_findChains_43 ⟨by rw [← hY]; show _ + (Y.1.1 - st.2.1) ≤ k2 (R2, R3) T.1; omega, by rw [← hY]; show _ + (pot 65536 st.2.1 - pot 65536 Y.1.1) ≤ p2 (R2, R3) T.1; omega⟩) hS (fun q _ h => hFc q h) hFc (fun r3 u3 t H1 locs ht hvm hw hB hz1 hk1 hS => ?_)
        obtain ⟨hP1, hD1⟩ := hB
        rw [ht] at hP1
        rw [← hY] at hP1 hD1 hw
        obtain ⟨hP, hD⟩ := va_joinP (X := [(h0, .inr (2, [.ref (ad 0), .ref (ad 1), .ref (ad 2), .ref (ad 3), .ref (ad 4), .ref (ad 5), .int sn])), ((ad 0), .inr (4, [.ref ed, .int (nI k), .int mo9])), ((ad 1), .inr (0, [.int (nI 16384), .ref a1, .int (nI R1.2.2)])), (a1, .inl (E.1, R1.1, .inr (.inl R1.2.1))), ((ad 2), .inr (0, [.int (nI 2049), .ref u2, .int (nI Aa.2.2)])), (u2, .inl (E.1, Aa.1, .inr (.inl Aa.2.1))), ((ad 3), .inr (0, [.int (nI 65536), .ref b3, .int (nI st.2.2.2)])), (b3, .inl (E.1, st.2.1, .inr (.inl st.2.2.1)))]) (cx := [(h0, .inr (2, [.ref (ad 0), .ref (ad 1), .ref (ad 2), .ref (ad 3), .ref (ad 4), .ref (ad 5), .int sn])), ((ad 1), .inr (0, [.int (nI 16384), .ref a1, .int (nI R1.2.2)])), (a1, .inl (E.1, R1.1, .inr (.inl R1.2.1))), ((ad 3), .inr (0, [.int (nI 65536), .ref b3, .int (nI st.2.2.2)])), (b3, .inl (E.1, st.2.1, .inr (.inl st.2.2.1)))]) (wr := [((ad 0), .inr (4, [.ref ed, .int (nI k), .int mo9])), ((ad 2), .inr (0, [.int (nI 2049), .ref u2, .int (nI Aa.2.2)])), (u2, .inl (E.1, Aa.1, .inr (.inl Aa.2.1)))]) (rx := [(h0, .inr (2, [.ref (ad 0), .ref (ad 1), .ref (ad 2), .ref (ad 3), .ref (ad 4), .ref (ad 5), .int sn])), ((ad 1), .inr (0, [.int (nI 16384), .ref a1, .int (nI R1.2.2)])), (a1, .inl (E.1, R1.1, .inr (.inl R1.2.1))), ((ad 3), .inr (0, [.int (nI 65536), .ref u3, .int (nI Y.1.2.2)])), (u3, .inl (E.1, Y.1.1, .inr (.inl Y.1.2.1)))]) (pl := va_pl LP pf) (pl1 := va_pl LP pf) hP hD [0, 2, 3, 6, 7] [1, 4, 5] rfl rfl (by decide) (by decide) hk1 hFc hP1 hD1
        generalize H1 = H at hP hS ⊢
        have hP : va_P D vwC ([((ad 0), .inr (4, [.ref ed, .int (nI k), .int mo9])), ((ad 2), .inr (0, [.int (nI 2049), .ref u2, .int (nI Aa.2.2)])), (u2, .inl (E.1, Aa.1, .inr (.inl Aa.2.1))), (h0, .inr (2, [.ref (ad 0), .ref (ad 1), .ref (ad 2), .ref (ad 3), .ref (ad 4), .ref (ad 5), .int sn])), ((ad 1), .inr (0, [.int (nI 16384), .ref a1, .int (nI R1.2.2)])), (a1, .inl (E.1, R1.1, .inr (.inl R1.2.1))), ((ad 3), .inr (0, [.int (nI 65536), .ref u3, .int (nI Y.1.2.2)])), (u3, .inl (E.1, Y.1.1, .inr (.inl Y.1.2.1)))] ++ va_pl LP pf) H := hP
        have hD : va_D A ([((ad 0), .inr (4, [.ref ed, .int (nI k), .int mo9])), ((ad 2), .inr (0, [.int (nI 2049), .ref u2, .int (nI Aa.2.2)])), (u2, .inl (E.1, Aa.1, .inr (.inl Aa.2.1))), (h0, .inr (2, [.ref (ad 0), .ref (ad 1), .ref (ad 2), .ref (ad 3), .ref (ad 4), .ref (ad 5), .int sn])), ((ad 1), .inr (0, [.int (nI 16384), .ref a1, .int (nI R1.2.2)])), (a1, .inl (E.1, R1.1, .inr (.inl R1.2.1))), ((ad 3), .inr (0, [.int (nI 65536), .ref u3, .int (nI Y.1.2.2)])), (u3, .inl (E.1, Y.1.1, .inr (.inl Y.1.2.1)))] ++ va_pl LP pf) := hD
        have hP := va_P.part (X := [((ad 0), .inr (4, [.ref ed, .int (nI k), .int mo9])), ((ad 2), .inr (0, [.int (nI 2049), .ref u2, .int (nI Aa.2.2)])), (u2, .inl (E.1, Aa.1, .inr (.inl Aa.2.1))), (h0, .inr (2, [.ref (ad 0), .ref (ad 1), .ref (ad 2), .ref (ad 3), .ref (ad 4), .ref (ad 5), .int sn])), ((ad 1), .inr (0, [.int (nI 16384), .ref a1, .int (nI R1.2.2)])), (a1, .inl (E.1, R1.1, .inr (.inl R1.2.1))), ((ad 3), .inr (0, [.int (nI 65536), .ref u3, .int (nI Y.1.2.2)])), (u3, .inl (E.1, Y.1.1, .inr (.inl Y.1.2.1)))]) (cx := [(h0, .inr (2, [.ref (ad 0), .ref (ad 1), .ref (ad 2), .ref (ad 3), .ref (ad 4), .ref (ad 5), .int sn])), ((ad 0), .inr (4, [.ref ed, .int (nI k), .int mo9])), ((ad 1), .inr (0, [.int (nI 16384), .ref a1, .int (nI R1.2.2)])), (a1, .inl (E.1, R1.1, .inr (.inl R1.2.1))), ((ad 2), .inr (0, [.int (nI 2049), .ref u2, .int (nI Aa.2.2)])), (u2, .inl (E.1, Aa.1, .inr (.inl Aa.2.1))), ((ad 3), .inr (0, [.int (nI 65536), .ref u3, .int (nI Y.1.2.2)])), (u3, .inl (E.1, Y.1.1, .inr (.inl Y.1.2.1)))]) (pl := va_pl LP pf) hP [3, 0, 4, 5, 1, 2, 6, 7] rfl
        have hD := va_D.part (X := [((ad 0), .inr (4, [.ref ed, .int (nI k), .int mo9])), ((ad 2), .inr (0, [.int (nI 2049), .ref u2, .int (nI Aa.2.2)])), (u2, .inl (E.1, Aa.1, .inr (.inl Aa.2.1))), (h0, .inr (2, [.ref (ad 0), .ref (ad 1), .ref (ad 2), .ref (ad 3), .ref (ad 4), .ref (ad 5), .int sn])), ((ad 1), .inr (0, [.int (nI 16384), .ref a1, .int (nI R1.2.2)])), (a1, .inl (E.1, R1.1, .inr (.inl R1.2.1))), ((ad 3), .inr (0, [.int (nI 65536), .ref u3, .int (nI Y.1.2.2)])), (u3, .inl (E.1, Y.1.1, .inr (.inl Y.1.2.1)))]) (cx := [(h0, .inr (2, [.ref (ad 0), .ref (ad 1), .ref (ad 2), .ref (ad 3), .ref (ad 4), .ref (ad 5), .int sn])), ((ad 0), .inr (4, [.ref ed, .int (nI k), .int mo9])), ((ad 1), .inr (0, [.int (nI 16384), .ref a1, .int (nI R1.2.2)])), (a1, .inl (E.1, R1.1, .inr (.inl R1.2.1))), ((ad 2), .inr (0, [.int (nI 2049), .ref u2, .int (nI Aa.2.2)])), (u2, .inl (E.1, Aa.1, .inr (.inl Aa.2.1))), ((ad 3), .inr (0, [.int (nI 65536), .ref u3, .int (nI Y.1.2.2)])), (u3, .inl (E.1, Y.1.1, .inr (.inl Y.1.2.1)))]) (pl := va_pl LP pf) hD [3, 0, 4, 5, 1, 2, 6, 7] (by decide) rfl
        rw [← hY]
        refine W.widen (k := (k2 (R2, R3) (Aa, Y.1))) (n := (p2 (R2, R3) (Aa, Y.1))) (by omega) (by omega) ?_
        refine lv_if_ne (tgt := 51) hx hb d_P_findChains_46 (by decide) (fun c3 => ?_) (fun c3 => ?_)
        · have z : Y.2 = true := Classical.byContradiction (fun z => c3 (by rw [show r3 = if Y.2 = true then 1 else 0 from hw, if_neg z]))
          rw [if_pos z, ← hA9] at hV
          rw [if_pos (show V.2 = true from by rw [hV])] at h3
          refine lv_aload_n hx hb d_P_findChains_51 rfl (lv_at hl 1 rfl) ?_
          refine lv_aload_n hx hb d_P_findChains_52 rfl (lv_at hl 1 rfl) ?_
          refine va_get (D := D) (ci := 2) (v := .ref (ad 0)) (C := K_P) (T := F_P) (N := 7) hx hb hG in_P hown hK.1 hP 0 rfl rfl 0 (by decide) (hG _ wd_109) (fun _ h9 => h9) rfl d_P_findChains_53 ?_
          refine lv_iload_n hx hb d_P_findChains_56 rfl (lv_at hl 2 rfl) ?_
          obtain ⟨n_gb, l_gb, gb, x1_gb, x2_gb, x3_gb, x4_gb, x5_gb, x6_gb, x7_gb⟩ := hL.get (i := i) q9
          have hPc : va_P D vwC [((ad 0), .inr (4, [.ref ed, .int (nI k), .int mo9])), (ed, .inl (E.2.2.2, n_gb, .inr (.inr (.inr (.inr l_gb)))))] H := pl_cons (hP.sub (ws' := [((ad 0), .inr (4, [.ref ed, .int (nI k), .int mo9]))]) [1] rfl) (pl_one (X := [(h0, .inr (2, [.ref (ad 0), .ref (ad 1), .ref (ad 2), .ref (ad 3), .ref (ad 4), .ref (ad 5), .int sn])), ((ad 0), .inr (4, [.ref ed, .int (nI k), .int mo9])), ((ad 1), .inr (0, [.int (nI 16384), .ref a1, .int (nI R1.2.2)])), (a1, .inl (E.1, R1.1, .inr (.inl R1.2.1))), ((ad 2), .inr (0, [.int (nI 2049), .ref u2, .int (nI Aa.2.2)])), (u2, .inl (E.1, Aa.1, .inr (.inl Aa.2.1))), ((ad 3), .inr (0, [.int (nI 65536), .ref u3, .int (nI Y.1.2.2)])), (u3, .inl (E.1, Y.1.1, .inr (.inl Y.1.2.1)))]) hP x1_gb x2_gb)
          refine va_csq (W.runV (As := [.int (nI i)]) (rest := [.ref h0]) ⟨hx, hb, hml, hown, hts⟩ (k_A_get l D E (ad 0) ed n_gb k i mo9 l_gb q9 x3_gb (by omega)) (cwV 1 hts (gw_gv wd_369 wd_370 wd_371 wd_40 wd_372) rfl rfl rfl (by decide +kernel) ⟨Nat.le_of_ble_eq_true rfl, Nat.le_of_ble_eq_true rfl⟩) (rP_V 0 hPc hK rfl rfl) rfl rfl hl.1 rfl (lv_room (Nat.le_of_ble_eq_true rfl)) d_P_findChains_57 ⟨by show _ ≤ k2 (R2, R3) T.1; omega, by show _ ≤ p2 (R2, R3) T.1; omega⟩) (fun r_gb hr_gb => ?_)
          rw [x5_gb] at hr_gb
          subst hr_gb
          refine va_castS (a := gb) hx hb hown (hG _ wd_258) (hK.1.1 1 _ rfl).2 (va_recv (q0 := 0) hK.1 (pl_one (X := [(h0, .inr (2, [.ref (ad 0), .ref (ad 1), .ref (ad 2), .ref (ad 3), .ref (ad 4), .ref (ad 5), .int sn])), ((ad 0), .inr (4, [.ref ed, .int (nI k), .int mo9])), ((ad 1), .inr (0, [.int (nI 16384), .ref a1, .int (nI R1.2.2)])), (a1, .inl (E.1, R1.1, .inr (.inl R1.2.1))), ((ad 2), .inr (0, [.int (nI 2049), .ref u2, .int (nI Aa.2.2)])), (u2, .inl (E.1, Aa.1, .inr (.inl Aa.2.1))), ((ad 3), .inr (0, [.int (nI 65536), .ref u3, .int (nI Y.1.2.2)])), (u3, .inl (E.1, Y.1.1, .inr (.inl Y.1.2.1)))]) hP x6_gb x7_gb) rfl rfl) d_P_findChains_60 ?_
          refine lv_iload_n hx hb d_P_findChains_63 rfl (lv_at hl 0 rfl) ?_
          have yb : st.2.2.2 ≤ Y.1.2.2 := by rw [hY]; exact ap_z _ _ _
          have hPc := va_P.part (X := [(h0, .inr (2, [.ref (ad 0), .ref (ad 1), .ref (ad 2), .ref (ad 3), .ref (ad 4), .ref (ad 5), .int sn])), ((ad 0), .inr (4, [.ref ed, .int (nI k), .int mo9])), ((ad 1), .inr (0, [.int (nI 16384), .ref a1, .int (nI R1.2.2)])), (a1, .inl (E.1, R1.1, .inr (.inl R1.2.1))), ((ad 2), .inr (0, [.int (nI 2049), .ref u2, .int (nI Aa.2.2)])), (u2, .inl (E.1, Aa.1, .inr (.inl Aa.2.1))), ((ad 3), .inr (0, [.int (nI 65536), .ref u3, .int (nI Y.1.2.2)])), (u3, .inl (E.1, Y.1.1, .inr (.inl Y.1.2.1)))]) (cx := [(h0, .inr (2, [.ref (ad 0), .ref (ad 1), .ref (ad 2), .ref (ad 3), .ref (ad 4), .ref (ad 5), .int sn])), ((ad 1), .inr (0, [.int (nI 16384), .ref a1, .int (nI R1.2.2)])), (a1, .inl (E.1, R1.1, .inr (.inl R1.2.1))), ((ad 3), .inr (0, [.int (nI 65536), .ref u3, .int (nI Y.1.2.2)])), (u3, .inl (E.1, Y.1.1, .inr (.inl Y.1.2.1)))]) (pl := va_pl LP pf) hP [0, 2, 3, 6, 7] rfl
          have hDc := va_D.part (X := [(h0, .inr (2, [.ref (ad 0), .ref (ad 1), .ref (ad 2), .ref (ad 3), .ref (ad 4), .ref (ad 5), .int sn])), ((ad 0), .inr (4, [.ref ed, .int (nI k), .int mo9])), ((ad 1), .inr (0, [.int (nI 16384), .ref a1, .int (nI R1.2.2)])), (a1, .inl (E.1, R1.1, .inr (.inl R1.2.1))), ((ad 2), .inr (0, [.int (nI 2049), .ref u2, .int (nI Aa.2.2)])), (u2, .inl (E.1, Aa.1, .inr (.inl Aa.2.1))), ((ad 3), .inr (0, [.int (nI 65536), .ref u3, .int (nI Y.1.2.2)])), (u3, .inl (E.1, Y.1.1, .inr (.inl Y.1.2.1)))]) (cx := [(h0, .inr (2, [.ref (ad 0), .ref (ad 1), .ref (ad 2), .ref (ad 3), .ref (ad 4), .ref (ad 5), .int sn])), ((ad 1), .inr (0, [.int (nI 16384), .ref a1, .int (nI R1.2.2)])), (a1, .inl (E.1, R1.1, .inr (.inl R1.2.1))), ((ad 3), .inr (0, [.int (nI 65536), .ref u3, .int (nI Y.1.2.2)])), (u3, .inl (E.1, Y.1.1, .inr (.inl Y.1.2.1)))]) (pl := va_pl LP pf) hD [0, 2, 3, 6, 7] (by decide) rfl
          have hFc := va_freeP (X := [(h0, .inr (2, [.ref (ad 0), .ref (ad 1), .ref (ad 2), .ref (ad 3), .ref (ad 4), .ref (ad 5), .int sn])), ((ad 0), .inr (4, [.ref ed, .int (nI k), .int mo9])), ((ad 1), .inr (0, [.int (nI 16384), .ref a1, .int (nI R1.2.2)])), (a1, .inl (E.1, R1.1, .inr (.inl R1.2.1))), ((ad 2), .inr (0, [.int (nI 2049), .ref u2, .int (nI Aa.2.2)])), (u2, .inl (E.1, Aa.1, .inr (.inl Aa.2.1))), ((ad 3), .inr (0, [.int (nI 65536), .ref u3, .int (nI Y.1.2.2)])), (u3, .inl (E.1, Y.1.1, .inr (.inl Y.1.2.1)))]) (cx := [(h0, .inr (2, [.ref (ad 0), .ref (ad 1), .ref (ad 2), .ref (ad 3), .ref (ad 4), .ref (ad 5), .int sn])), ((ad 1), .inr (0, [.int (nI 16384), .ref a1, .int (nI R1.2.2)])), (a1, .inl (E.1, R1.1, .inr (.inl R1.2.1))), ((ad 3), .inr (0, [.int (nI 65536), .ref u3, .int (nI Y.1.2.2)])), (u3, .inl (E.1, Y.1.1, .inr (.inl Y.1.2.1)))]) (pl := va_pl LP pf) hD hS hA [0, 2, 3, 6, 7] rfl
          refine va_callv (va_runV (As := [.ref gb, .int (nI st.2.2.2)]) (rest := []) ⟨hx, hb, hml, hown, hts⟩ (k_P_orderPlaces l D E h0 H.size a1 u3 ad sn LP pf R1 Y.1 ho1 y1.1 gb (sg i) x6_gb x7_gb st.2.2.2 yb) (cwV 2 hts (gw_gv wd_508 wd_510 wd_15 wd_37 wd_511) rfl rfl rfl (by decide +kernel) ⟨Nat.le_of_ble_eq_true rfl, Nat.le_of_ble_eq_true rfl⟩) (wP_V 0 hPc hK hDc rfl rfl) rfl rfl hl.1 rfl (lv_room (Nat.le_of_ble_eq_true rfl)) d_P_findChains_64 ⟨by show _ ≤ k2 (R2, R3) T.1; omega, by show _ ≤ p2 (R2, R3) T.1; omega⟩) hS (fun q _ h => hFc q h) hFc (fun u9 t H1 locs ht hvm hw hB hz1 hk1 hS => ?_)
          obtain ⟨hP1, hD1⟩ := hB
          rw [ht] at hP1
          obtain ⟨hP, hD⟩ := va_joinP (X := [(h0, .inr (2, [.ref (ad 0), .ref (ad 1), .ref (ad 2), .ref (ad 3), .ref (ad 4), .ref (ad 5), .int sn])), ((ad 0), .inr (4, [.ref ed, .int (nI k), .int mo9])), ((ad 1), .inr (0, [.int (nI 16384), .ref a1, .int (nI R1.2.2)])), (a1, .inl (E.1, R1.1, .inr (.inl R1.2.1))), ((ad 2), .inr (0, [.int (nI 2049), .ref u2, .int (nI Aa.2.2)])), (u2, .inl (E.1, Aa.1, .inr (.inl Aa.2.1))), ((ad 3), .inr (0, [.int (nI 65536), .ref u3, .int (nI Y.1.2.2)])), (u3, .inl (E.1, Y.1.1, .inr (.inl Y.1.2.1)))]) (cx := [(h0, .inr (2, [.ref (ad 0), .ref (ad 1), .ref (ad 2), .ref (ad 3), .ref (ad 4), .ref (ad 5), .int sn])), ((ad 1), .inr (0, [.int (nI 16384), .ref a1, .int (nI R1.2.2)])), (a1, .inl (E.1, R1.1, .inr (.inl R1.2.1))), ((ad 3), .inr (0, [.int (nI 65536), .ref u3, .int (nI Y.1.2.2)])), (u3, .inl (E.1, Y.1.1, .inr (.inl Y.1.2.1)))]) (wr := [((ad 0), .inr (4, [.ref ed, .int (nI k), .int mo9])), ((ad 2), .inr (0, [.int (nI 2049), .ref u2, .int (nI Aa.2.2)])), (u2, .inl (E.1, Aa.1, .inr (.inl Aa.2.1)))]) (rx := [(h0, .inr (2, [.ref (ad 0), .ref (ad 1), .ref (ad 2), .ref (ad 3), .ref (ad 4), .ref (ad 5), .int sn])), ((ad 1), .inr (0, [.int (nI 16384), .ref a1, .int (nI R1.2.2)])), (a1, .inl (E.1, R1.1, .inr (.inl R1.2.1))), ((ad 3), .inr (0, [.int (nI 65536), .ref u3, .int (nI (op_all (sg i) R1 Y.1 st.2.2.2).2.2)])), (u3, .inl (E.1, (op_all (sg i) R1 Y.1 st.2.2.2).1, .inr (.inl ((op_all (sg i) R1 Y.1 st.2.2.2).2.1))))]) (pl := va_pl LP pf) (pl1 := va_pl LP pf) hP hD [0, 2, 3, 6, 7] [1, 4, 5] rfl rfl (by decide) (by decide) hk1 hFc hP1 hD1
          generalize H1 = H at hP hS ⊢
          have hP : va_P D vwC ([((ad 0), .inr (4, [.ref ed, .int (nI k), .int mo9])), ((ad 2), .inr (0, [.int (nI 2049), .ref u2, .int (nI Aa.2.2)])), (u2, .inl (E.1, Aa.1, .inr (.inl Aa.2.1))), (h0, .inr (2, [.ref (ad 0), .ref (ad 1), .ref (ad 2), .ref (ad 3), .ref (ad 4), .ref (ad 5), .int sn])), ((ad 1), .inr (0, [.int (nI 16384), .ref a1, .int (nI R1.2.2)])), (a1, .inl (E.1, R1.1, .inr (.inl R1.2.1))), ((ad 3), .inr (0, [.int (nI 65536), .ref u3, .int (nI (op_all (sg i) R1 Y.1 st.2.2.2).2.2)])), (u3, .inl (E.1, (op_all (sg i) R1 Y.1 st.2.2.2).1, .inr (.inl ((op_all (sg i) R1 Y.1 st.2.2.2).2.1))))] ++ va_pl LP pf) H := hP
          have hD : va_D A ([((ad 0), .inr (4, [.ref ed, .int (nI k), .int mo9])), ((ad 2), .inr (0, [.int (nI 2049), .ref u2, .int (nI Aa.2.2)])), (u2, .inl (E.1, Aa.1, .inr (.inl Aa.2.1))), (h0, .inr (2, [.ref (ad 0), .ref (ad 1), .ref (ad 2), .ref (ad 3), .ref (ad 4), .ref (ad 5), .int sn])), ((ad 1), .inr (0, [.int (nI 16384), .ref a1, .int (nI R1.2.2)])), (a1, .inl (E.1, R1.1, .inr (.inl R1.2.1))), ((ad 3), .inr (0, [.int (nI 65536), .ref u3, .int (nI (op_all (sg i) R1 Y.1 st.2.2.2).2.2)])), (u3, .inl (E.1, (op_all (sg i) R1 Y.1 st.2.2.2).1, .inr (.inl ((op_all (sg i) R1 Y.1 st.2.2.2).2.1))))] ++ va_pl LP pf) := hD
          have hP := va_P.part (X := [((ad 0), .inr (4, [.ref ed, .int (nI k), .int mo9])), ((ad 2), .inr (0, [.int (nI 2049), .ref u2, .int (nI Aa.2.2)])), (u2, .inl (E.1, Aa.1, .inr (.inl Aa.2.1))), (h0, .inr (2, [.ref (ad 0), .ref (ad 1), .ref (ad 2), .ref (ad 3), .ref (ad 4), .ref (ad 5), .int sn])), ((ad 1), .inr (0, [.int (nI 16384), .ref a1, .int (nI R1.2.2)])), (a1, .inl (E.1, R1.1, .inr (.inl R1.2.1))), ((ad 3), .inr (0, [.int (nI 65536), .ref u3, .int (nI (op_all (sg i) R1 Y.1 st.2.2.2).2.2)])), (u3, .inl (E.1, (op_all (sg i) R1 Y.1 st.2.2.2).1, .inr (.inl ((op_all (sg i) R1 Y.1 st.2.2.2).2.1))))]) (cx := [(h0, .inr (2, [.ref (ad 0), .ref (ad 1), .ref (ad 2), .ref (ad 3), .ref (ad 4), .ref (ad 5), .int sn])), ((ad 0), .inr (4, [.ref ed, .int (nI k), .int mo9])), ((ad 1), .inr (0, [.int (nI 16384), .ref a1, .int (nI R1.2.2)])), (a1, .inl (E.1, R1.1, .inr (.inl R1.2.1))), ((ad 2), .inr (0, [.int (nI 2049), .ref u2, .int (nI Aa.2.2)])), (u2, .inl (E.1, Aa.1, .inr (.inl Aa.2.1))), ((ad 3), .inr (0, [.int (nI 65536), .ref u3, .int (nI (op_all (sg i) R1 Y.1 st.2.2.2).2.2)])), (u3, .inl (E.1, (op_all (sg i) R1 Y.1 st.2.2.2).1, .inr (.inl ((op_all (sg i) R1 Y.1 st.2.2.2).2.1))))]) (pl := va_pl LP pf) hP [3, 0, 4, 5, 1, 2, 6, 7] rfl
          have hD := va_D.part (X := [((ad 0), .inr (4, [.ref ed, .int (nI k), .int mo9])), ((ad 2), .inr (0, [.int (nI 2049), .ref u2, .int (nI Aa.2.2)])), (u2, .inl (E.1, Aa.1, .inr (.inl Aa.2.1))), (h0, .inr (2, [.ref (ad 0), .ref (ad 1), .ref (ad 2), .ref (ad 3), .ref (ad 4), .ref (ad 5), .int sn])), ((ad 1), .inr (0, [.int (nI 16384), .ref a1, .int (nI R1.2.2)])), (a1, .inl (E.1, R1.1, .inr (.inl R1.2.1))), ((ad 3), .inr (0, [.int (nI 65536), .ref u3, .int (nI (op_all (sg i) R1 Y.1 st.2.2.2).2.2)])), (u3, .inl (E.1, (op_all (sg i) R1 Y.1 st.2.2.2).1, .inr (.inl ((op_all (sg i) R1 Y.1 st.2.2.2).2.1))))]) (cx := [(h0, .inr (2, [.ref (ad 0), .ref (ad 1), .ref (ad 2), .ref (ad 3), .ref (ad 4), .ref (ad 5), .int sn])), ((ad 0), .inr (4, [.ref ed, .int (nI k), .int mo9])), ((ad 1), .inr (0, [.int (nI 16384), .ref a1, .int (nI R1.2.2)])), (a1, .inl (E.1, R1.1, .inr (.inl R1.2.1))), ((ad 2), .inr (0, [.int (nI 2049), .ref u2, .int (nI Aa.2.2)])), (u2, .inl (E.1, Aa.1, .inr (.inl Aa.2.1))), ((ad 3), .inr (0, [.int (nI 65536), .ref u3, .int (nI (op_all (sg i) R1 Y.1 st.2.2.2).2.2)])), (u3, .inl (E.1, (op_all (sg i) R1 Y.1 st.2.2.2).1, .inr (.inl ((op_all (sg i) R1 Y.1 st.2.2.2).2.1))))]) (pl := va_pl LP pf) hD [3, 0, 4, 5, 1, 2, 6, 7] (by decide) rfl
          refine lv_iinc (v := nI (i + 1)) (lv' := [(1, .int (nI (i + 1))), (2, .int (nI st.2.2.2)), (0, .ref h0)]) hx hb d_P_findChains_67 hl (k := 2) rfl (iinc_p _) (by decide) rfl (fun ls hl => ?_)
          refine lv_goto (tgt := 2) hx hb d_P_findChains_70 (by decide) ?_
          have eV : V.1 = (Aa, (op_all (sg i) R1 Y.1 st.2.2.2)) := by rw [hV]
          rw [eV] at h3 v1
          refine W.widen (k := (k2 (R2, R3) (Aa, (op_all (sg i) R1 Y.1 st.2.2.2)))) (n := (p2 (R2, R3) (Aa, (op_all (sg i) R1 Y.1 st.2.2.2)))) (by show k2 (R2, R3) (Aa, Y.1) + 0 ≤ _; unfold k2; show _ ≤ (Aa.1 - R2.1) + (((op_all (sg i) R1 Y.1 st.2.2.2)).1 - R3.1); rw [y2.2.2]; exact Nat.le_refl _) (by show p2 (R2, R3) (Aa, Y.1) + 0 ≤ _; unfold p2; show _ ≤ (pot 2049 R2.1 - pot 2049 Aa.1) + (pot 65536 R3.1 - pot 65536 ((op_all (sg i) R1 Y.1 st.2.2.2)).1); rw [y2.2.2]; exact Nat.le_refl _) ?_
          exact ih (i + 1) (Aa, (op_all (sg i) R1 Y.1 st.2.2.2)) u2 u3 H locs ls (by omega) (by omega) h3 (r2_tr h4 v1) (by rw [e9]; show st.1.2.2 + 1 ≤ i + 1; omega) hP hD hS (lv_sub hl [2, 0] rfl)
        · have z : ¬ Y.2 = true := fun z => absurd (show (1 : Int32) = 0 from by rw [← c3, show r3 = if Y.2 = true then 1 else 0 from hw, if_pos z]) (by decide)
          rw [if_neg z, ← hA9] at hV
          rw [if_neg (show ¬ V.2 = true from by rw [hV]; exact Bool.false_ne_true), hV] at h3
          subst h3
          refine lv_iconst (v := 0) hx hb d_P_findChains_49 (by decide) ?_
          exact W.zret (v := 0) (ty := .boolean) hx hb hrt rfl (fun t ht hW => ⟨⟨0, (u2, u3), rfl, rfl, ⟨by rw [ht]; exact hP, hD⟩⟩, hS.F ht⟩) hS.2.2 d_P_findChains_50 hlocks
  refine W.widen (k := (k2 (R2, R3) (R2, R3))) (n := (p2 (R2, R3) (R2, R3))) (Nat.zero_le _) (Nat.zero_le _) ?_
  exact loop (k + 1) 0 (R2, R3) a2 a3 _ _ ls (Nat.zero_le _) (by omega) hT.symm ⟨⟨ho2, ho3⟩, Nat.le_refl _, Nat.le_refl _⟩ (by show R2.2.2 ≤ 0; omega) hP hD hS (lv_sub hl [1, 0] rfl)
end
