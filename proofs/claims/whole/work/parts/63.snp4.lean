theorem d_P_findHot_0 : decode c_P_findHot 0 = .ok (.iconst 0, 1) := by decide +kernel
theorem d_P_findHot_1 : decode c_P_findHot 1 = .ok (.istore_n 1, 1) := by decide +kernel
theorem d_P_findHot_2 : decode c_P_findHot 2 = .ok (.iload_n 1, 1) := by decide +kernel
theorem d_P_findHot_3 : decode c_P_findHot 3 = .ok (.aload_n 0, 1) := by decide +kernel
theorem d_P_findHot_4 : decode c_P_findHot 4 = .ok (.getfield 12, 3) := by decide +kernel
theorem d_P_findHot_7 : decode c_P_findHot 7 = .ok (.invokevirtual 53, 3) := by decide +kernel
theorem d_P_findHot_10 : decode c_P_findHot 10 = .ok (.if_icmp .ge 54, 3) := by decide +kernel
theorem d_P_findHot_13 : decode c_P_findHot 13 = .ok (.aload_n 0, 1) := by decide +kernel
theorem d_P_findHot_14 : decode c_P_findHot 14 = .ok (.getfield 12, 3) := by decide +kernel
theorem d_P_findHot_17 : decode c_P_findHot 17 = .ok (.iload_n 1, 1) := by decide +kernel
theorem d_P_findHot_18 : decode c_P_findHot 18 = .ok (.invokevirtual 103, 3) := by decide +kernel
theorem d_P_findHot_21 : decode c_P_findHot 21 = .ok (.checkcast 62, 3) := by decide +kernel
theorem d_P_findHot_24 : decode c_P_findHot 24 = .ok (.astore_n 2, 1) := by decide +kernel
theorem d_P_findHot_25 : decode c_P_findHot 25 = .ok (.aload_n 0, 1) := by decide +kernel
theorem d_P_findHot_26 : decode c_P_findHot 26 = .ok (.aload_n 2, 1) := by decide +kernel
theorem d_P_findHot_27 : decode c_P_findHot 27 = .ok (.invokevirtual 167, 3) := by decide +kernel
theorem d_P_findHot_30 : decode c_P_findHot 30 = .ok (.invokevirtual 171, 3) := by decide +kernel
theorem d_P_findHot_33 : decode c_P_findHot 33 = .ok (.ifCond .eq 23, 3) := by decide +kernel
theorem d_P_findHot_36 : decode c_P_findHot 36 = .ok (.aload_n 0, 1) := by decide +kernel
theorem d_P_findHot_37 : decode c_P_findHot 37 = .ok (.aload_n 2, 1) := by decide +kernel
theorem d_P_findHot_38 : decode c_P_findHot 38 = .ok (.invokevirtual 175, 3) := by decide +kernel
theorem d_P_findHot_41 : decode c_P_findHot 41 = .ok (.invokevirtual 171, 3) := by decide +kernel
theorem d_P_findHot_44 : decode c_P_findHot 44 = .ok (.ifCond .eq 12, 3) := by decide +kernel
theorem d_P_findHot_47 : decode c_P_findHot 47 = .ok (.aload_n 0, 1) := by decide +kernel
theorem d_P_findHot_48 : decode c_P_findHot 48 = .ok (.aload_n 2, 1) := by decide +kernel
theorem d_P_findHot_49 : decode c_P_findHot 49 = .ok (.iload_n 1, 1) := by decide +kernel
theorem d_P_findHot_50 : decode c_P_findHot 50 = .ok (.invokevirtual 178, 3) := by decide +kernel
theorem d_P_findHot_53 : decode c_P_findHot 53 = .ok (.ifCond .ne 5, 3) := by decide +kernel
theorem d_P_findHot_56 : decode c_P_findHot 56 = .ok (.iconst 0, 1) := by decide +kernel
theorem d_P_findHot_57 : decode c_P_findHot 57 = .ok (.ireturn, 1) := by decide +kernel
theorem d_P_findHot_58 : decode c_P_findHot 58 = .ok (.iinc 1 1, 3) := by decide +kernel
theorem d_P_findHot_61 : decode c_P_findHot 61 = .ok (.goto (-59), 3) := by decide +kernel
theorem d_P_findHot_64 : decode c_P_findHot 64 = .ok (.aload_n 0, 1) := by decide +kernel
theorem d_P_findHot_65 : decode c_P_findHot 65 = .ok (.invokevirtual 182, 3) := by decide +kernel
theorem d_P_findHot_68 : decode c_P_findHot 68 = .ok (.ireturn, 1) := by decide +kernel
noncomputable section
def fh_a (q : SQ) (R : RS) : RS := hj R (sg_key (sx q) (sy q))
def fh_b (q : SQ) (R : RS) : RS := hj (fh_a q R) (sg_key (su q) (sv q))
def fh_1 (sg : Nat → SQ) (i : Nat) (R : RS) : RS × Bool := if hj_ok R then (if hj_ok (fh_a (sg i) R) then hc_go sg (sg i) i (i + 1) 0 (fh_b (sg i) R) else (fh_b (sg i) R, false)) else (fh_a (sg i) R, false)
def fh_go (sg : Nat → SQ) (k : Nat) : Nat → Nat → RS → RS × Bool
  | 0, _, R => (R, true)
  | fu + 1, i, R => if i < k then (if (fh_1 sg i R).2 = true then fh_go sg k fu (i + 1) (fh_1 sg i R).1 else fh_1 sg i R) else (mh_m R, decide ((mh_m R).2.2 ≤ 8192))
theorem fh_1_ok {sg : Nat → SQ} {i : Nat} {R : RS} (h : rs_ok 16384 R) : rs_ok 16384 (fh_1 sg i R).1 ∧ R.1 ≤ (fh_1 sg i R).1.1 := by
  unfold fh_1
  have h1 := hj_o (x := sg_key (sx (sg i)) (sy (sg i))) h
  have h2 := hj_o (x := sg_key (su (sg i)) (sv (sg i))) h1.1
  split
  · split
    · have h3 := hc_ok (sg := sg) (q := sg i) (i0 := i) (i + 1) 0 _ h2.1
      exact ⟨h3.1, Nat.le_trans h1.2 (Nat.le_trans h2.2 h3.2)⟩
    · exact ⟨h2.1, Nat.le_trans h1.2 h2.2⟩
  · exact h1
theorem fh_ok {sg : Nat → SQ} {k : Nat} : ∀ (fu i : Nat) (R : RS), rs_ok 16384 R → rs_ok 16384 (fh_go sg k fu i R).1 ∧ R.1 ≤ (fh_go sg k fu i R).1.1 := by
  intro fu
  induction fu with
  | zero => intro j R h; exact ⟨h, Nat.le_refl _⟩
  | succ fu ih =>
    intro i R h
    unfold fh_go
    have h1 := fh_1_ok (sg := sg) (i := i) h
    split
    · split
      · have h2 := ih (i + 1) _ h1.1
        exact ⟨h2.1, Nat.le_trans h1.2 h2.2⟩
      · exact h1
    · exact ⟨mh_ok h, Nat.le_refl _⟩
/-- all hot pixels -/
def fh_all (sg : Nat → SQ) (k : Nat) (R : RS) : RS × Bool := fh_go sg k (k + 1) 0 R
set_option maxHeartbeats 4000000 in
set_option maxRecDepth 100000 in
theorem k_P_findHot (l : Launch) (D : va_G) (E : ClassId × ClassId × ClassId × ClassId) (h0 sz e0 ed k a1 : Nat) (ad : Nat → Nat) (sn mo9 : Int32) (sg : Nat → SQ) (LP : List Nat) (pf : Nat → va_E) (hL : Lst E LP pf e0 ed k sg) (hk : k ≤ 2048) (R1 : RS) (hok : rs_ok 16384 R1)  : Met l y_P_findHot (.code y_P_findHot c_P_findHot 3 (some .boolean) :: gw) ({ frames := 5, cells := ((fh_all sg k R1).1.1 - R1.1), slots := (pot 16384 R1.1 - pot 16384 (fh_all sg k R1).1.1), locals := 160 } : Room) (wP D E ([(h0, .inr (2, [.ref (ad 0), .ref (ad 1), .ref (ad 2), .ref (ad 3), .ref (ad 4), .ref (ad 5), .int sn])), ((ad 0), .inr (4, [.ref ed, .int (nI k), .int mo9])), ((ad 1), .inr (0, [.int (nI 16384), .ref a1, .int (nI R1.2.2)])), (a1, .inl (E.1, R1.1, .inr (.inl R1.2.1)))] ++ va_pl LP pf) sz [.ref h0]) (va_Qi (fun (r : Int32) (u : Nat) => r = if (fh_all sg k R1).2 = true then 1 else 0) (wB D (fun u => ([(h0, .inr (2, [.ref (ad 0), .ref (ad 1), .ref (ad 2), .ref (ad 3), .ref (ad 4), .ref (ad 5), .int sn])), ((ad 0), .inr (4, [.ref ed, .int (nI k), .int mo9])), ((ad 1), .inr (0, [.int (nI 16384), .ref u, .int (nI (fh_all sg k R1).1.2.2)])), (u, .inl (E.1, (fh_all sg k R1).1.1, .inr (.inl ((fh_all sg k R1).1.2.1))))] ++ va_pl LP pf)) (va_A ([(h0, .inr (2, [.ref (ad 0), .ref (ad 1), .ref (ad 2), .ref (ad 3), .ref (ad 4), .ref (ad 5), .int sn])), ((ad 0), .inr (4, [.ref ed, .int (nI k), .int mo9])), ((ad 1), .inr (0, [.int (nI 16384), .ref a1, .int (nI R1.2.2)])), (a1, .inl (E.1, R1.1, .inr (.inl R1.2.1)))] ++ va_pl LP pf) sz)) (va_A ([(h0, .inr (2, [.ref (ad 0), .ref (ad 1), .ref (ad 2), .ref (ad 3), .ref (ad 4), .ref (ad 5), .int sn])), ((ad 0), .inr (4, [.ref ed, .int (nI k), .int mo9])), ((ad 1), .inr (0, [.int (nI 16384), .ref a1, .int (nI R1.2.2)])), (a1, .inl (E.1, R1.1, .inr (.inl R1.2.1)))] ++ va_pl LP pf) sz)) ((fh_all sg k R1).1.1 - R1.1) (pot 16384 R1.1 - pot 16384 (fh_all sg k R1).1.1) (va_A ([(h0, .inr (2, [.ref (ad 0), .ref (ad 1), .ref (ad 2), .ref (ad 3), .ref (ad 4), .ref (ad 5), .int sn])), ((ad 0), .inr (4, [.ref ed, .int (nI k), .int mo9])), ((ad 1), .inr (0, [.int (nI 16384), .ref a1, .int (nI R1.2.2)])), (a1, .inl (E.1, R1.1, .inr (.inl R1.2.1)))] ++ va_pl LP pf) sz) := by
  refine wr_ofW (y := y_P_findHot) (cc := c_P_findHot) (maxL := 3) (ws := ([(h0, .inr (2, [.ref (ad 0), .ref (ad 1), .ref (ad 2), .ref (ad 3), .ref (ad 4), .ref (ad 5), .int sn])), ((ad 0), .inr (4, [.ref ed, .int (nI k), .int mo9])), ((ad 1), .inr (0, [.int (nI 16384), .ref a1, .int (nI R1.2.2)])), (a1, .inl (E.1, R1.1, .inr (.inl R1.2.1)))] ++ va_pl LP pf)) (sz := sz) (av := [.ref h0]) (Qc := fun A => (va_Qi (fun (r : Int32) (u : Nat) => r = if (fh_all sg k R1).2 = true then 1 else 0) (wB D (fun u => ([(h0, .inr (2, [.ref (ad 0), .ref (ad 1), .ref (ad 2), .ref (ad 3), .ref (ad 4), .ref (ad 5), .int sn])), ((ad 0), .inr (4, [.ref ed, .int (nI k), .int mo9])), ((ad 1), .inr (0, [.int (nI 16384), .ref u, .int (nI (fh_all sg k R1).1.2.2)])), (u, .inl (E.1, (fh_all sg k R1).1.1, .inr (.inl ((fh_all sg k R1).1.2.1))))] ++ va_pl LP pf)) A) A)) (by decide) (Nat.le_of_ble_eq_true rfl) ?_
  intro p e s m below meth c B hP hK A hA hD hS ls hl
  obtain ⟨hx, hb, hrt, hml, hown, hts, hG, hlocks, hin⟩ := B
  have hl : lv_has ls 3 [(0, .ref h0)] := hl
  obtain ⟨T, hT⟩ : ∃ T, T = (fh_all sg k R1) := ⟨_, rfl⟩
  rw [← hT]
  rw [fh_all] at hT
  refine lv_iconst (v := 0) hx hb d_P_findHot_0 (by decide) ?_
  refine lv_istore_n (lv' := [(1, .int 0), (0, .ref h0)]) hx hb d_P_findHot_1 rfl hl (by decide) rfl (fun ls hl => ?_)
  have loop : ∀ (fu : Nat) (i : Nat) (R : RS) (b : Nat) (H : Heap) (locs : List Loc) (ls : Array Slot), (i ≤ k) → (k < i + fu) → (fh_go sg k fu i R = T) → (rs_ok 16384 R) → (R1.1 ≤ R.1) → va_P D vwC ([(h0, .inr (2, [.ref (ad 0), .ref (ad 1), .ref (ad 2), .ref (ad 3), .ref (ad 4), .ref (ad 5), .int sn])), ((ad 0), .inr (4, [.ref ed, .int (nI k), .int mo9])), ((ad 1), .inr (0, [.int (nI 16384), .ref b, .int (nI R.2.2)])), (b, .inl (E.1, R.1, .inr (.inl R.2.1)))] ++ va_pl LP pf) H → va_D A ([(h0, .inr (2, [.ref (ad 0), .ref (ad 1), .ref (ad 2), .ref (ad 3), .ref (ad 4), .ref (ad 5), .int sn])), ((ad 0), .inr (4, [.ref ed, .int (nI k), .int mo9])), ((ad 1), .inr (0, [.int (nI 16384), .ref b, .int (nI R.2.2)])), (b, .inl (E.1, R.1, .inr (.inl R.2.1)))] ++ va_pl LP pf) → va_S A s.heap H locs → lv_has ls 3 [(0, .ref h0), (1, .int (nI i))] → W p l e ({ frames := 5, cells := (T.1.1 - R1.1), slots := (pot 16384 R1.1 - pot 16384 T.1.1), locals := 160 } : Room) s m ([.ref h0] : List Value).toArray below meth c H locs (R.1 - R1.1) (pot 16384 R1.1 - pot 16384 R.1) (MQ below (va_Qi (fun (r : Int32) (u : Nat) => r = if T.2 = true then 1 else 0) (wB D (fun u => ([(h0, .inr (2, [.ref (ad 0), .ref (ad 1), .ref (ad 2), .ref (ad 3), .ref (ad 4), .ref (ad 5), .int sn])), ((ad 0), .inr (4, [.ref ed, .int (nI k), .int mo9])), ((ad 1), .inr (0, [.int (nI 16384), .ref u, .int (nI T.1.2.2)])), (u, .inl (E.1, T.1.1, .inr (.inl T.1.2.1)))] ++ va_pl LP pf)) A) A) ([.ref h0] : List Value).toArray s (T.1.1 - R1.1) (pot 16384 R1.1 - pot 16384 T.1.1) A) (F0 m 2 ls []) := by
    intro fu
    induction fu with
    | zero =>
      intro i R b H locs ls h1 h2 h3 h4 h5 hP hD hS hl
      omega
    | succ fu ih =>
      intro i R b H locs ls h1 h2 h3 h4 h5 hP hD hS hl
      have o1 := (fh_ok (sg := sg) (k := k) (fu + 1) i R h4).2
      rw [h3] at o1
      have o2 := pot_anti (m := 16384) o1
      have o3 := pot_anti (m := 16384) h5
      rw [fh_go] at h3
      refine lv_iload_n hx hb d_P_findHot_2 rfl (lv_at hl 1 rfl) ?_
      refine lv_aload_n hx hb d_P_findHot_3 rfl (lv_at hl 0 rfl) ?_
      refine va_get (D := D) (ci := 2) (v := .ref (ad 0)) (C := K_P) (T := F_P) (N := 7) hx hb hG in_P hown hK.1 hP 0 rfl rfl 0 (by decide) (hG _ wd_109) (fun _ h9 => h9) rfl d_P_findHot_4 ?_
      have hPc := hP.sub (ws' := [((ad 0), .inr (4, [.ref ed, .int (nI k), .int mo9]))]) [1] rfl
      refine vp_callSi (W.runV (As := []) (rest := [.int (nI i)]) ⟨hx, hb, hml, hown, hts⟩ (k_A_size l D E (ad 0) (.ref ed) (nI k) mo9) (cwV 0 hts (gw_gv wd_135 wd_136 wd_137 wd_40 wd_138) rfl rfl rfl (by decide +kernel) ⟨Nat.le_of_ble_eq_true rfl, Nat.le_of_ble_eq_true rfl⟩) (rP_V 0 hPc hK rfl rfl) rfl rfl hl.1 rfl (lv_room (Nat.le_of_ble_eq_true rfl)) d_P_findHot_7 ⟨by show _ ≤ T.1.1 - R1.1; omega, by show _ ≤ pot 16384 R1.1 - pot 16384 T.1.1; omega⟩) (fun r1 hr1 => ?_)
      subst hr1
      refine lv_icmp_ge (tgt := 64) hx hb d_P_findHot_10 (by decide) (fun c1 => ?_) (fun c1 => ?_)
      · have q9 : ¬ i < k := by have := (nI_leI (by omega) (by omega)).mp c1; omega
        rw [if_neg q9] at h3
        refine lv_aload_n hx hb d_P_findHot_64 rfl (lv_at hl 0 rfl) ?_
        have hPc := hP.sub (ws' := [(h0, .inr (2, [.ref (ad 0), .ref (ad 1), .ref (ad 2), .ref (ad 3), .ref (ad 4), .ref (ad 5), .int sn])), ((ad 1), .inr (0, [.int (nI 16384), .ref b, .int (nI R.2.2)])), (b, .inl (E.1, R.1, .inr (.inl R.2.1)))]) [0, 2, 3] rfl
        have hDc := hD.sub (ws' := [(h0, .inr (2, [.ref (ad 0), .ref (ad 1), .ref (ad 2), .ref (ad 3), .ref (ad 4), .ref (ad 5), .int sn])), ((ad 1), .inr (0, [.int (nI 16384), .ref b, .int (nI R.2.2)])), (b, .inl (E.1, R.1, .inr (.inl R.2.1)))]) [0, 2, 3] (by decide) rfl
        have hFc := va_free (wc := [(h0, .inr (2, [.ref (ad 0), .ref (ad 1), .ref (ad 2), .ref (ad 3), .ref (ad 4), .ref (ad 5), .int sn])), ((ad 1), .inr (0, [.int (nI 16384), .ref b, .int (nI R.2.2)])), (b, .inl (E.1, R.1, .inr (.inl R.2.1)))]) hD hS hA [0, 2, 3] rfl
        refine va_calli (va_runV (As := []) (rest := []) ⟨hx, hb, hml, hown, hts⟩ (k_P_mergeHot l D E h0 H.size b ad sn R h4.2.1 (by have := h4.2.2; omega) (Nat.le_trans (mh_le R) h4.2.1)) (cwV 0 hts (gw_gv wd_399 wd_401 wd_7 wd_37 wd_402) rfl rfl rfl (by decide +kernel) ⟨Nat.le_of_ble_eq_true rfl, Nat.le_of_ble_eq_true rfl⟩) (wP_V 0 hPc hK hDc rfl rfl) rfl rfl hl.1 rfl (lv_room (Nat.le_of_ble_eq_true rfl)) d_P_findHot_65 ⟨by show _ ≤ T.1.1 - R1.1; omega, by show _ ≤ pot 16384 R1.1 - pot 16384 T.1.1; omega⟩) hS (fun q _ h => hFc q h) hFc (fun r2 u t H1 locs ht hvm hw hB hz1 hk1 hS => ?_)
        obtain ⟨hP1, hD1⟩ := hB
        rw [ht] at hP1
        obtain ⟨hP, hD⟩ := va_joinQ (X := [(h0, .inr (2, [.ref (ad 0), .ref (ad 1), .ref (ad 2), .ref (ad 3), .ref (ad 4), .ref (ad 5), .int sn])), ((ad 0), .inr (4, [.ref ed, .int (nI k), .int mo9])), ((ad 1), .inr (0, [.int (nI 16384), .ref b, .int (nI R.2.2)])), (b, .inl (E.1, R.1, .inr (.inl R.2.1)))]) (cx := [(h0, .inr (2, [.ref (ad 0), .ref (ad 1), .ref (ad 2), .ref (ad 3), .ref (ad 4), .ref (ad 5), .int sn])), ((ad 1), .inr (0, [.int (nI 16384), .ref b, .int (nI R.2.2)])), (b, .inl (E.1, R.1, .inr (.inl R.2.1)))]) (wr := [((ad 0), .inr (4, [.ref ed, .int (nI k), .int mo9]))]) (w1 := [(h0, .inr (2, [.ref (ad 0), .ref (ad 1), .ref (ad 2), .ref (ad 3), .ref (ad 4), .ref (ad 5), .int sn])), ((ad 1), .inr (0, [.int (nI 16384), .ref b, .int (nI (mh_m R).2.2)])), (b, .inl (E.1, (mh_m R).1, .inr (.inl ((mh_m R).2.1))))]) (pl := va_pl LP pf) hP hD [0, 2, 3] [1] rfl rfl (by decide) (by decide) hk1 hFc hP1 hD1
        generalize H1 = H at hP hS ⊢
        have hP : va_P D vwC ([((ad 0), .inr (4, [.ref ed, .int (nI k), .int mo9])), (h0, .inr (2, [.ref (ad 0), .ref (ad 1), .ref (ad 2), .ref (ad 3), .ref (ad 4), .ref (ad 5), .int sn])), ((ad 1), .inr (0, [.int (nI 16384), .ref b, .int (nI (mh_m R).2.2)])), (b, .inl (E.1, (mh_m R).1, .inr (.inl ((mh_m R).2.1))))] ++ va_pl LP pf) H := hP
        have hD : va_D A ([((ad 0), .inr (4, [.ref ed, .int (nI k), .int mo9])), (h0, .inr (2, [.ref (ad 0), .ref (ad 1), .ref (ad 2), .ref (ad 3), .ref (ad 4), .ref (ad 5), .int sn])), ((ad 1), .inr (0, [.int (nI 16384), .ref b, .int (nI (mh_m R).2.2)])), (b, .inl (E.1, (mh_m R).1, .inr (.inl ((mh_m R).2.1))))] ++ va_pl LP pf) := hD
        have hP := va_P.part (X := [((ad 0), .inr (4, [.ref ed, .int (nI k), .int mo9])), (h0, .inr (2, [.ref (ad 0), .ref (ad 1), .ref (ad 2), .ref (ad 3), .ref (ad 4), .ref (ad 5), .int sn])), ((ad 1), .inr (0, [.int (nI 16384), .ref b, .int (nI (mh_m R).2.2)])), (b, .inl (E.1, (mh_m R).1, .inr (.inl ((mh_m R).2.1))))]) (cx := [(h0, .inr (2, [.ref (ad 0), .ref (ad 1), .ref (ad 2), .ref (ad 3), .ref (ad 4), .ref (ad 5), .int sn])), ((ad 0), .inr (4, [.ref ed, .int (nI k), .int mo9])), ((ad 1), .inr (0, [.int (nI 16384), .ref b, .int (nI (mh_m R).2.2)])), (b, .inl (E.1, (mh_m R).1, .inr (.inl ((mh_m R).2.1))))]) (pl := va_pl LP pf) hP [1, 0, 2, 3] rfl
        have hD := va_D.part (X := [((ad 0), .inr (4, [.ref ed, .int (nI k), .int mo9])), (h0, .inr (2, [.ref (ad 0), .ref (ad 1), .ref (ad 2), .ref (ad 3), .ref (ad 4), .ref (ad 5), .int sn])), ((ad 1), .inr (0, [.int (nI 16384), .ref b, .int (nI (mh_m R).2.2)])), (b, .inl (E.1, (mh_m R).1, .inr (.inl ((mh_m R).2.1))))]) (cx := [(h0, .inr (2, [.ref (ad 0), .ref (ad 1), .ref (ad 2), .ref (ad 3), .ref (ad 4), .ref (ad 5), .int sn])), ((ad 0), .inr (4, [.ref ed, .int (nI k), .int mo9])), ((ad 1), .inr (0, [.int (nI 16384), .ref b, .int (nI (mh_m R).2.2)])), (b, .inl (E.1, (mh_m R).1, .inr (.inl ((mh_m R).2.1))))]) (pl := va_pl LP pf) hD [1, 0, 2, 3] (by decide) rfl
        subst h3
        rw [show r2 = if decide ((mh_m R).2.2 ≤ 8192) = true then 1 else 0 from by rw [show r2 = b01 ((mh_m R).2.2 ≤ 8192) from hw]; by_cases z : (mh_m R).2.2 ≤ 8192; rw [b01_t z, if_pos (decide_eq_true z)]; rw [b01_f z, if_neg (fun y => z (of_decide_eq_true y))]]
        refine W.widen (k := ((mh_m R).1 - R1.1)) (n := (pot 16384 R1.1 - pot 16384 (mh_m R).1)) (by show R.1 - R1.1 + 0 ≤ R.1 - R1.1; omega) (by show pot 16384 R1.1 - pot 16384 R.1 + 0 ≤ pot 16384 R1.1 - pot 16384 R.1; omega) ?_
        exact W.zret (v := (if decide ((mh_m R).2.2 ≤ 8192) = true then 1 else 0)) (ty := .boolean) hx hb hrt (bI_n _) (fun t ht hW => ⟨⟨(if decide ((mh_m R).2.2 ≤ 8192) = true then 1 else 0), b, rfl, rfl, ⟨by rw [ht]; exact hP, hD⟩⟩, hS.F ht⟩) hS.2.2 d_P_findHot_68 hlocks
      · have q9 : i < k := by rw [nI_leI (by omega) (by omega)] at c1; omega
        rw [if_pos q9] at h3
        refine lv_aload_n hx hb d_P_findHot_13 rfl (lv_at hl 0 rfl) ?_
        refine va_get (D := D) (ci := 2) (v := .ref (ad 0)) (C := K_P) (T := F_P) (N := 7) hx hb hG in_P hown hK.1 hP 0 rfl rfl 0 (by decide) (hG _ wd_109) (fun _ h9 => h9) rfl d_P_findHot_14 ?_
        refine lv_iload_n hx hb d_P_findHot_17 rfl (lv_at hl 1 rfl) ?_
        obtain ⟨n_ga, l_ga, ga, x1_ga, x2_ga, x3_ga, x4_ga, x5_ga, x6_ga, x7_ga⟩ := hL.get (i := i) q9
        have hPc : va_P D vwC [((ad 0), .inr (4, [.ref ed, .int (nI k), .int mo9])), (ed, .inl (E.2.2.2, n_ga, .inr (.inr (.inr (.inr l_ga)))))] H := pl_cons (hP.sub (ws' := [((ad 0), .inr (4, [.ref ed, .int (nI k), .int mo9]))]) [1] rfl) (pl_one (X := [(h0, .inr (2, [.ref (ad 0), .ref (ad 1), .ref (ad 2), .ref (ad 3), .ref (ad 4), .ref (ad 5), .int sn])), ((ad 0), .inr (4, [.ref ed, .int (nI k), .int mo9])), ((ad 1), .inr (0, [.int (nI 16384), .ref b, .int (nI R.2.2)])), (b, .inl (E.1, R.1, .inr (.inl R.2.1)))]) hP x1_ga x2_ga)
        refine va_csq (W.runV (As := [.int (nI i)]) (rest := []) ⟨hx, hb, hml, hown, hts⟩ (k_A_get l D E (ad 0) ed n_ga k i mo9 l_ga q9 x3_ga (by omega)) (cwV 1 hts (gw_gv wd_369 wd_370 wd_371 wd_40 wd_372) rfl rfl rfl (by decide +kernel) ⟨Nat.le_of_ble_eq_true rfl, Nat.le_of_ble_eq_true rfl⟩) (rP_V 0 hPc hK rfl rfl) rfl rfl hl.1 rfl (lv_room (Nat.le_of_ble_eq_true rfl)) d_P_findHot_18 ⟨by show _ ≤ T.1.1 - R1.1; omega, by show _ ≤ pot 16384 R1.1 - pot 16384 T.1.1; omega⟩) (fun r_ga hr_ga => ?_)
        rw [x5_ga] at hr_ga
        subst hr_ga
        refine va_castS (a := ga) hx hb hown (hG _ wd_258) (hK.1.1 1 _ rfl).2 (va_recv (q0 := 0) hK.1 (pl_one (X := [(h0, .inr (2, [.ref (ad 0), .ref (ad 1), .ref (ad 2), .ref (ad 3), .ref (ad 4), .ref (ad 5), .int sn])), ((ad 0), .inr (4, [.ref ed, .int (nI k), .int mo9])), ((ad 1), .inr (0, [.int (nI 16384), .ref b, .int (nI R.2.2)])), (b, .inl (E.1, R.1, .inr (.inl R.2.1)))]) hP x6_ga x7_ga) rfl rfl) d_P_findHot_21 ?_
        refine lv_astore_n (lv' := [(2, .ref ga), (0, .ref h0), (1, .int (nI i))]) hx hb d_P_findHot_24 rfl hl (by decide) rfl (fun ls hl => ?_)
        refine lv_aload_n hx hb d_P_findHot_25 rfl (lv_at hl 1 rfl) ?_
        refine lv_aload_n hx hb d_P_findHot_26 rfl (lv_at hl 0 rfl) ?_
        obtain ⟨V, hV⟩ : ∃ V, V = fh_1 sg i R := ⟨_, rfl⟩
        rw [← hV] at h3
        have v1 := fh_1_ok (sg := sg) (i := i) h4
        rw [← hV] at v1
        have v2 : V.1.1 ≤ T.1.1 := by
          by_cases z : V.2 = true
          · rw [if_pos z] at h3; rw [← h3]; exact (fh_ok _ _ _ v1.1).2
          · rw [if_neg z] at h3; rw [← h3]; exact Nat.le_refl _
        have v3 := pot_anti (m := 16384) v2
        have v4 := pot_anti (m := 16384) v1.2
        rw [fh_1] at hV
        have hPc : va_P D vwC [(ga, .inr (1, sgF (sg i)))] H := pl_one (X := [(h0, .inr (2, [.ref (ad 0), .ref (ad 1), .ref (ad 2), .ref (ad 3), .ref (ad 4), .ref (ad 5), .int sn])), ((ad 0), .inr (4, [.ref ed, .int (nI k), .int mo9])), ((ad 1), .inr (0, [.int (nI 16384), .ref b, .int (nI R.2.2)])), (b, .inl (E.1, R.1, .inr (.inl R.2.1)))]) hP x6_ga x7_ga
        refine vp_callSl (W.runV (As := []) (rest := [.ref h0]) ⟨hx, hb, hml, hown, hts⟩ (k_S_fromKey l D E ga (sg i)) (cwV 0 hts (gw_gv wd_383 wd_384 wd_385 wd_48 wd_386) rfl rfl rfl (by decide +kernel) ⟨Nat.le_of_ble_eq_true rfl, Nat.le_of_ble_eq_true rfl⟩) (rP_V 0 hPc hK rfl rfl) rfl rfl hl.1 rfl (lv_room (Nat.le_of_ble_eq_true rfl)) d_P_findHot_27 ⟨by show _ ≤ T.1.1 - R1.1; omega, by show _ ≤ pot 16384 R1.1 - pot 16384 T.1.1; omega⟩) (fun r2 hr2 => ?_)
        subst hr2
        have a1k := hj_o (x := (sg_key (sx (sg i)) (sy (sg i)))) h4
        have a2k := hj_o (x := (sg_key (su (sg i)) (sv (sg i)))) a1k.1
        have a3k := hc_ok (sg := sg) (q := sg i) (i0 := i) (i + 1) 0 _ a2k.1
        have p1 : (fh_a (sg i) R).1 ≤ V.1.1 := by
          by_cases z : hj_ok R
          · rw [if_pos z] at hV
            by_cases z2 : hj_ok (fh_a (sg i) R)
            · rw [if_pos z2] at hV; rw [hV]; exact Nat.le_trans a2k.2 a3k.2
            · rw [if_neg z2] at hV; rw [hV]; exact a2k.2
          · rw [if_neg z] at hV; rw [hV]; exact Nat.le_refl _
        have p2 := pot_anti (m := 16384) p1
        have p3 : R.1 ≤ (fh_a (sg i) R).1 := a1k.2
        have p4 := pot_anti (m := 16384) p3
        have hPc := hP.sub (ws' := [(h0, .inr (2, [.ref (ad 0), .ref (ad 1), .ref (ad 2), .ref (ad 3), .ref (ad 4), .ref (ad 5), .int sn])), ((ad 1), .inr (0, [.int (nI 16384), .ref b, .int (nI R.2.2)])), (b, .inl (E.1, R.1, .inr (.inl R.2.1)))]) [0, 2, 3] rfl
        have hDc := hD.sub (ws' := [(h0, .inr (2, [.ref (ad 0), .ref (ad 1), .ref (ad 2), .ref (ad 3), .ref (ad 4), .ref (ad 5), .int sn])), ((ad 1), .inr (0, [.int (nI 16384), .ref b, .int (nI R.2.2)])), (b, .inl (E.1, R.1, .inr (.inl R.2.1)))]) [0, 2, 3] (by decide) rfl
        have hFc := va_free (wc := [(h0, .inr (2, [.ref (ad 0), .ref (ad 1), .ref (ad 2), .ref (ad 3), .ref (ad 4), .ref (ad 5), .int sn])), ((ad 1), .inr (0, [.int (nI 16384), .ref b, .int (nI R.2.2)])), (b, .inl (E.1, R.1, .inr (.inl R.2.1)))]) hD hS hA [0, 2, 3] rfl
        refine va_calli (va_runV (As := [.long (sg_key (sx (sg i)) (sy (sg i)))]) (rest := []) ⟨hx, hb, hml, hown, hts⟩ (k_P_heat l D E h0 H.size b ad sn R (sg_key (sx (sg i)) (sy (sg i))) h4) (cwV 1 hts (gw_gv wd_391 wd_393 wd_6 wd_37 wd_394) rfl rfl rfl (by decide +kernel) ⟨Nat.le_of_ble_eq_true rfl, Nat.le_of_ble_eq_true rfl⟩) (wP_V 0 hPc hK hDc rfl rfl) rfl rfl hl.1 rfl (lv_room (Nat.le_of_ble_eq_true rfl)) d_P_findHot_30 ⟨by show _ + ((fh_a (sg i) R).1 - R.1) ≤ T.1.1 - R1.1; omega, by show _ + (pot 16384 R.1 - pot 16384 (fh_a (sg i) R).1) ≤ pot 16384 R1.1 - pot 16384 T.1.1; omega⟩) hS (fun q _ h => hFc q h) hFc (fun r3 u1 t H1 locs ht hvm hw hB hz1 hk1 hS => ?_)
        obtain ⟨hP1, hD1⟩ := hB
        rw [ht] at hP1
        obtain ⟨hP, hD⟩ := va_joinQ (X := [(h0, .inr (2, [.ref (ad 0), .ref (ad 1), .ref (ad 2), .ref (ad 3), .ref (ad 4), .ref (ad 5), .int sn])), ((ad 0), .inr (4, [.ref ed, .int (nI k), .int mo9])), ((ad 1), .inr (0, [.int (nI 16384), .ref b, .int (nI R.2.2)])), (b, .inl (E.1, R.1, .inr (.inl R.2.1)))]) (cx := [(h0, .inr (2, [.ref (ad 0), .ref (ad 1), .ref (ad 2), .ref (ad 3), .ref (ad 4), .ref (ad 5), .int sn])), ((ad 1), .inr (0, [.int (nI 16384), .ref b, .int (nI R.2.2)])), (b, .inl (E.1, R.1, .inr (.inl R.2.1)))]) (wr := [((ad 0), .inr (4, [.ref ed, .int (nI k), .int mo9]))]) (w1 := [(h0, .inr (2, [.ref (ad 0), .ref (ad 1), .ref (ad 2), .ref (ad 3), .ref (ad 4), .ref (ad 5), .int sn])), ((ad 1), .inr (0, [.int (nI 16384), .ref u1, .int (nI (fh_a (sg i) R).2.2)])), (u1, .inl (E.1, (fh_a (sg i) R).1, .inr (.inl ((fh_a (sg i) R).2.1))))]) (pl := va_pl LP pf) hP hD [0, 2, 3] [1] rfl rfl (by decide) (by decide) hk1 hFc hP1 hD1
        generalize H1 = H at hP hS ⊢
        have hP : va_P D vwC ([((ad 0), .inr (4, [.ref ed, .int (nI k), .int mo9])), (h0, .inr (2, [.ref (ad 0), .ref (ad 1), .ref (ad 2), .ref (ad 3), .ref (ad 4), .ref (ad 5), .int sn])), ((ad 1), .inr (0, [.int (nI 16384), .ref u1, .int (nI (fh_a (sg i) R).2.2)])), (u1, .inl (E.1, (fh_a (sg i) R).1, .inr (.inl ((fh_a (sg i) R).2.1))))] ++ va_pl LP pf) H := hP
        have hD : va_D A ([((ad 0), .inr (4, [.ref ed, .int (nI k), .int mo9])), (h0, .inr (2, [.ref (ad 0), .ref (ad 1), .ref (ad 2), .ref (ad 3), .ref (ad 4), .ref (ad 5), .int sn])), ((ad 1), .inr (0, [.int (nI 16384), .ref u1, .int (nI (fh_a (sg i) R).2.2)])), (u1, .inl (E.1, (fh_a (sg i) R).1, .inr (.inl ((fh_a (sg i) R).2.1))))] ++ va_pl LP pf) := hD
        have hP := va_P.part (X := [((ad 0), .inr (4, [.ref ed, .int (nI k), .int mo9])), (h0, .inr (2, [.ref (ad 0), .ref (ad 1), .ref (ad 2), .ref (ad 3), .ref (ad 4), .ref (ad 5), .int sn])), ((ad 1), .inr (0, [.int (nI 16384), .ref u1, .int (nI (fh_a (sg i) R).2.2)])), (u1, .inl (E.1, (fh_a (sg i) R).1, .inr (.inl ((fh_a (sg i) R).2.1))))]) (cx := [(h0, .inr (2, [.ref (ad 0), .ref (ad 1), .ref (ad 2), .ref (ad 3), .ref (ad 4), .ref (ad 5), .int sn])), ((ad 0), .inr (4, [.ref ed, .int (nI k), .int mo9])), ((ad 1), .inr (0, [.int (nI 16384), .ref u1, .int (nI (fh_a (sg i) R).2.2)])), (u1, .inl (E.1, (fh_a (sg i) R).1, .inr (.inl ((fh_a (sg i) R).2.1))))]) (pl := va_pl LP pf) hP [1, 0, 2, 3] rfl
        have hD := va_D.part (X := [((ad 0), .inr (4, [.ref ed, .int (nI k), .int mo9])), (h0, .inr (2, [.ref (ad 0), .ref (ad 1), .ref (ad 2), .ref (ad 3), .ref (ad 4), .ref (ad 5), .int sn])), ((ad 1), .inr (0, [.int (nI 16384), .ref u1, .int (nI (fh_a (sg i) R).2.2)])), (u1, .inl (E.1, (fh_a (sg i) R).1, .inr (.inl ((fh_a (sg i) R).2.1))))]) (cx := [(h0, .inr (2, [.ref (ad 0), .ref (ad 1), .ref (ad 2), .ref (ad 3), .ref (ad 4), .ref (ad 5), .int sn])), ((ad 0), .inr (4, [.ref ed, .int (nI k), .int mo9])), ((ad 1), .inr (0, [.int (nI 16384), .ref u1, .int (nI (fh_a (sg i) R).2.2)])), (u1, .inl (E.1, (fh_a (sg i) R).1, .inr (.inl ((fh_a (sg i) R).2.1))))]) (pl := va_pl LP pf) hD [1, 0, 2, 3] (by decide) rfl
        refine W.widen (k := ((fh_a (sg i) R).1 - R1.1)) (n := (pot 16384 R1.1 - pot 16384 (fh_a (sg i) R).1)) (by show _ + ((fh_a (sg i) R).1 - R.1) ≤ _; omega) (by show _ + (pot 16384 R.1 - pot 16384 (fh_a (sg i) R).1) ≤ _; omega) ?_
        refine lv_if_eq (tgt := 56) hx hb d_P_findHot_33 (by decide) (fun c2 => ?_) (fun c2 => ?_)
        · rw [show r3 = b01 (hj_ok R) from hw] at c2
          rw [if_neg (b01_0 c2)] at hV
          rw [if_neg (show ¬ V.2 = true from by rw [hV]; exact Bool.false_ne_true), hV] at h3
          subst h3
          refine lv_iconst (v := 0) hx hb d_P_findHot_56 (by decide) ?_
          exact W.zret (v := 0) (ty := .boolean) hx hb hrt rfl (fun t ht hW => ⟨⟨0, u1, rfl, rfl, ⟨by rw [ht]; exact hP, hD⟩⟩, hS.F ht⟩) hS.2.2 d_P_findHot_57 hlocks
        · rw [show r3 = b01 (hj_ok R) from hw] at c2
          rw [if_pos (b01_1 c2)] at hV
          refine lv_aload_n hx hb d_P_findHot_36 rfl (lv_at hl 1 rfl) ?_
          refine lv_aload_n hx hb d_P_findHot_37 rfl (lv_at hl 0 rfl) ?_
          have hPc : va_P D vwC [(ga, .inr (1, sgF (sg i)))] H := pl_one (X := [(h0, .inr (2, [.ref (ad 0), .ref (ad 1), .ref (ad 2), .ref (ad 3), .ref (ad 4), .ref (ad 5), .int sn])), ((ad 0), .inr (4, [.ref ed, .int (nI k), .int mo9])), ((ad 1), .inr (0, [.int (nI 16384), .ref u1, .int (nI (fh_a (sg i) R).2.2)])), (u1, .inl (E.1, (fh_a (sg i) R).1, .inr (.inl ((fh_a (sg i) R).2.1))))]) hP x6_ga x7_ga
          refine vp_callSl (W.runV (As := []) (rest := [.ref h0]) ⟨hx, hb, hml, hown, hts⟩ (k_S_toKey l D E ga (sg i)) (cwV 0 hts (gw_gv wd_431 wd_432 wd_433 wd_48 wd_434) rfl rfl rfl (by decide +kernel) ⟨Nat.le_of_ble_eq_true rfl, Nat.le_of_ble_eq_true rfl⟩) (rP_V 0 hPc hK rfl rfl) rfl rfl hl.1 rfl (lv_room (Nat.le_of_ble_eq_true rfl)) d_P_findHot_38 ⟨by show _ ≤ T.1.1 - R1.1; omega, by show _ ≤ pot 16384 R1.1 - pot 16384 T.1.1; omega⟩) (fun r4 hr4 => ?_)
          subst hr4
          have p5 : (fh_b (sg i) R).1 ≤ V.1.1 := by
            by_cases z2 : hj_ok (fh_a (sg i) R)
            · rw [if_pos z2] at hV; rw [hV]; exact a3k.2
            · rw [if_neg z2] at hV; rw [hV]; exact Nat.le_refl _
          have p6 := pot_anti (m := 16384) p5
          have p7 : (fh_a (sg i) R).1 ≤ (fh_b (sg i) R).1 := a2k.2
          have p8 := pot_anti (m := 16384) p7
          have hPc := hP.sub (ws' := [(h0, .inr (2, [.ref (ad 0), .ref (ad 1), .ref (ad 2), .ref (ad 3), .ref (ad 4), .ref (ad 5), .int sn])), ((ad 1), .inr (0, [.int (nI 16384), .ref u1, .int (nI (fh_a (sg i) R).2.2)])), (u1, .inl (E.1, (fh_a (sg i) R).1, .inr (.inl ((fh_a (sg i) R).2.1))))]) [0, 2, 3] rfl
          have hDc := hD.sub (ws' := [(h0, .inr (2, [.ref (ad 0), .ref (ad 1), .ref (ad 2), .ref (ad 3), .ref (ad 4), .ref (ad 5), .int sn])), ((ad 1), .inr (0, [.int (nI 16384), .ref u1, .int (nI (fh_a (sg i) R).2.2)])), (u1, .inl (E.1, (fh_a (sg i) R).1, .inr (.inl ((fh_a (sg i) R).2.1))))]) [0, 2, 3] (by decide) rfl
          have hFc := va_free (wc := [(h0, .inr (2, [.ref (ad 0), .ref (ad 1), .ref (ad 2), .ref (ad 3), .ref (ad 4), .ref (ad 5), .int sn])), ((ad 1), .inr (0, [.int (nI 16384), .ref u1, .int (nI (fh_a (sg i) R).2.2)])), (u1, .inl (E.1, (fh_a (sg i) R).1, .inr (.inl ((fh_a (sg i) R).2.1))))]) hD hS hA [0, 2, 3] rfl
          refine va_calli (va_runV (As := [.long (sg_key (su (sg i)) (sv (sg i)))]) (rest := []) ⟨hx, hb, hml, hown, hts⟩ (k_P_heat l D E h0 H.size u1 ad sn (fh_a (sg i) R) (sg_key (su (sg i)) (sv (sg i))) a1k.1) (cwV 1 hts (gw_gv wd_391 wd_393 wd_6 wd_37 wd_394) rfl rfl rfl (by decide +kernel) ⟨Nat.le_of_ble_eq_true rfl, Nat.le_of_ble_eq_true rfl⟩) (wP_V 0 hPc hK hDc rfl rfl) rfl rfl hl.1 rfl (lv_room (Nat.le_of_ble_eq_true rfl)) d_P_findHot_41 ⟨by show _ + ((fh_b (sg i) R).1 - (fh_a (sg i) R).1) ≤ T.1.1 - R1.1; omega, by show _ + (pot 16384 (fh_a (sg i) R).1 - pot 16384 (fh_b (sg i) R).1) ≤ pot 16384 R1.1 - pot 16384 T.1.1; omega⟩) hS (fun q _ h => hFc q h) hFc (fun r5 u2 t H1 locs ht hvm hw hB hz1 hk1 hS => ?_)
          obtain ⟨hP1, hD1⟩ := hB
          rw [ht] at hP1
          obtain ⟨hP, hD⟩ := va_joinQ (X := [(h0, .inr (2, [.ref (ad 0), .ref (ad 1), .ref (ad 2), .ref (ad 3), .ref (ad 4), .ref (ad 5), .int sn])), ((ad 0), .inr (4, [.ref ed, .int (nI k), .int mo9])), ((ad 1), .inr (0, [.int (nI 16384), .ref u1, .int (nI (fh_a (sg i) R).2.2)])), (u1, .inl (E.1, (fh_a (sg i) R).1, .inr (.inl ((fh_a (sg i) R).2.1))))]) (cx := [(h0, .inr (2, [.ref (ad 0), .ref (ad 1), .ref (ad 2), .ref (ad 3), .ref (ad 4), .ref (ad 5), .int sn])), ((ad 1), .inr (0, [.int (nI 16384), .ref u1, .int (nI (fh_a (sg i) R).2.2)])), (u1, .inl (E.1, (fh_a (sg i) R).1, .inr (.inl ((fh_a (sg i) R).2.1))))]) (wr := [((ad 0), .inr (4, [.ref ed, .int (nI k), .int mo9]))]) (w1 := [(h0, .inr (2, [.ref (ad 0), .ref (ad 1), .ref (ad 2), .ref (ad 3), .ref (ad 4), .ref (ad 5), .int sn])), ((ad 1), .inr (0, [.int (nI 16384), .ref u2, .int (nI (fh_b (sg i) R).2.2)])), (u2, .inl (E.1, (fh_b (sg i) R).1, .inr (.inl ((fh_b (sg i) R).2.1))))]) (pl := va_pl LP pf) hP hD [0, 2, 3] [1] rfl rfl (by decide) (by decide) hk1 hFc hP1 hD1
          generalize H1 = H at hP hS ⊢
          have hP : va_P D vwC ([((ad 0), .inr (4, [.ref ed, .int (nI k), .int mo9])), (h0, .inr (2, [.ref (ad 0), .ref (ad 1), .ref (ad 2), .ref (ad 3), .ref (ad 4), .ref (ad 5), .int sn])), ((ad 1), .inr (0, [.int (nI 16384), .ref u2, .int (nI (fh_b (sg i) R).2.2)])), (u2, .inl (E.1, (fh_b (sg i) R).1, .inr (.inl ((fh_b (sg i) R).2.1))))] ++ va_pl LP pf) H := hP
          have hD : va_D A ([((ad 0), .inr (4, [.ref ed, .int (nI k), .int mo9])), (h0, .inr (2, [.ref (ad 0), .ref (ad 1), .ref (ad 2), .ref (ad 3), .ref (ad 4), .ref (ad 5), .int sn])), ((ad 1), .inr (0, [.int (nI 16384), .ref u2, .int (nI (fh_b (sg i) R).2.2)])), (u2, .inl (E.1, (fh_b (sg i) R).1, .inr (.inl ((fh_b (sg i) R).2.1))))] ++ va_pl LP pf) := hD
          have hP := va_P.part (X := [((ad 0), .inr (4, [.ref ed, .int (nI k), .int mo9])), (h0, .inr (2, [.ref (ad 0), .ref (ad 1), .ref (ad 2), .ref (ad 3), .ref (ad 4), .ref (ad 5), .int sn])), ((ad 1), .inr (0, [.int (nI 16384), .ref u2, .int (nI (fh_b (sg i) R).2.2)])), (u2, .inl (E.1, (fh_b (sg i) R).1, .inr (.inl ((fh_b (sg i) R).2.1))))]) (cx := [(h0, .inr (2, [.ref (ad 0), .ref (ad 1), .ref (ad 2), .ref (ad 3), .ref (ad 4), .ref (ad 5), .int sn])), ((ad 0), .inr (4, [.ref ed, .int (nI k), .int mo9])), ((ad 1), .inr (0, [.int (nI 16384), .ref u2, .int (nI (fh_b (sg i) R).2.2)])), (u2, .inl (E.1, (fh_b (sg i) R).1, .inr (.inl ((fh_b (sg i) R).2.1))))]) (pl := va_pl LP pf) hP [1, 0, 2, 3] rfl
          have hD := va_D.part (X := [((ad 0), .inr (4, [.ref ed, .int (nI k), .int mo9])), (h0, .inr (2, [.ref (ad 0), .ref (ad 1), .ref (ad 2), .ref (ad 3), .ref (ad 4), .ref (ad 5), .int sn])), ((ad 1), .inr (0, [.int (nI 16384), .ref u2, .int (nI (fh_b (sg i) R).2.2)])), (u2, .inl (E.1, (fh_b (sg i) R).1, .inr (.inl ((fh_b (sg i) R).2.1))))]) (cx := [(h0, .inr (2, [.ref (ad 0), .ref (ad 1), .ref (ad 2), .ref (ad 3), .ref (ad 4), .ref (ad 5), .int sn])), ((ad 0), .inr (4, [.ref ed, .int (nI k), .int mo9])), ((ad 1), .inr (0, [.int (nI 16384), .ref u2, .int (nI (fh_b (sg i) R).2.2)])), (u2, .inl (E.1, (fh_b (sg i) R).1, .inr (.inl ((fh_b (sg i) R).2.1))))]) (pl := va_pl LP pf) hD [1, 0, 2, 3] (by decide) rfl
          refine W.widen (k := ((fh_b (sg i) R).1 - R1.1)) (n := (pot 16384 R1.1 - pot 16384 (fh_b (sg i) R).1)) (by show _ + ((fh_b (sg i) R).1 - (fh_a (sg i) R).1) ≤ _; omega) (by show _ + (pot 16384 (fh_a (sg i) R).1 - pot 16384 (fh_b (sg i) R).1) ≤ _; omega) ?_
          refine lv_if_eq (tgt := 56) hx hb d_P_findHot_44 (by decide) (fun c3 => ?_) (fun c3 => ?_)
          · rw [show r5 = b01 (hj_ok (fh_a (sg i) R)) from hw] at c3
            rw [if_neg (b01_0 c3)] at hV
            rw [if_neg (show ¬ V.2 = true from by rw [hV]; exact Bool.false_ne_true), hV] at h3
            subst h3
            refine lv_iconst (v := 0) hx hb d_P_findHot_56 (by decide) ?_
            exact W.zret (v := 0) (ty := .boolean) hx hb hrt rfl (fun t ht hW => ⟨⟨0, u2, rfl, rfl, ⟨by rw [ht]; exact hP, hD⟩⟩, hS.F ht⟩) hS.2.2 d_P_findHot_57 hlocks
          · rw [show r5 = b01 (hj_ok (fh_a (sg i) R)) from hw] at c3
            rw [if_pos (b01_1 c3)] at hV
            refine lv_aload_n hx hb d_P_findHot_47 rfl (lv_at hl 1 rfl) ?_
            refine lv_aload_n hx hb d_P_findHot_48 rfl (lv_at hl 0 rfl) ?_
            refine lv_iload_n hx hb d_P_findHot_49 rfl (lv_at hl 2 rfl) ?_
            have hPc := va_P.part (X := [(h0, .inr (2, [.ref (ad 0), .ref (ad 1), .ref (ad 2), .ref (ad 3), .ref (ad 4), .ref (ad 5), .int sn])), ((ad 0), .inr (4, [.ref ed, .int (nI k), .int mo9])), ((ad 1), .inr (0, [.int (nI 16384), .ref u2, .int (nI (fh_b (sg i) R).2.2)])), (u2, .inl (E.1, (fh_b (sg i) R).1, .inr (.inl ((fh_b (sg i) R).2.1))))]) (cx := [(h0, .inr (2, [.ref (ad 0), .ref (ad 1), .ref (ad 2), .ref (ad 3), .ref (ad 4), .ref (ad 5), .int sn])), ((ad 0), .inr (4, [.ref ed, .int (nI k), .int mo9])), ((ad 1), .inr (0, [.int (nI 16384), .ref u2, .int (nI (fh_b (sg i) R).2.2)])), (u2, .inl (E.1, (fh_b (sg i) R).1, .inr (.inl ((fh_b (sg i) R).2.1))))]) (pl := va_pl LP pf) hP [0, 1, 2, 3] rfl
            have hDc := va_D.part (X := [(h0, .inr (2, [.ref (ad 0), .ref (ad 1), .ref (ad 2), .ref (ad 3), .ref (ad 4), .ref (ad 5), .int sn])), ((ad 0), .inr (4, [.ref ed, .int (nI k), .int mo9])), ((ad 1), .inr (0, [.int (nI 16384), .ref u2, .int (nI (fh_b (sg i) R).2.2)])), (u2, .inl (E.1, (fh_b (sg i) R).1, .inr (.inl ((fh_b (sg i) R).2.1))))]) (cx := [(h0, .inr (2, [.ref (ad 0), .ref (ad 1), .ref (ad 2), .ref (ad 3), .ref (ad 4), .ref (ad 5), .int sn])), ((ad 0), .inr (4, [.ref ed, .int (nI k), .int mo9])), ((ad 1), .inr (0, [.int (nI 16384), .ref u2, .int (nI (fh_b (sg i) R).2.2)])), (u2, .inl (E.1, (fh_b (sg i) R).1, .inr (.inl ((fh_b (sg i) R).2.1))))]) (pl := va_pl LP pf) hD [0, 1, 2, 3] (by decide) rfl
            have hFc := va_freeP (X := [(h0, .inr (2, [.ref (ad 0), .ref (ad 1), .ref (ad 2), .ref (ad 3), .ref (ad 4), .ref (ad 5), .int sn])), ((ad 0), .inr (4, [.ref ed, .int (nI k), .int mo9])), ((ad 1), .inr (0, [.int (nI 16384), .ref u2, .int (nI (fh_b (sg i) R).2.2)])), (u2, .inl (E.1, (fh_b (sg i) R).1, .inr (.inl ((fh_b (sg i) R).2.1))))]) (cx := [(h0, .inr (2, [.ref (ad 0), .ref (ad 1), .ref (ad 2), .ref (ad 3), .ref (ad 4), .ref (ad 5), .int sn])), ((ad 0), .inr (4, [.ref ed, .int (nI k), .int mo9])), ((ad 1), .inr (0, [.int (nI 16384), .ref u2, .int (nI (fh_b (sg i) R).2.2)])), (u2, .inl (E.1, (fh_b (sg i) R).1, .inr (.inl ((fh_b (sg i) R).2.1))))]) (pl := va_pl LP pf) hD hS hA [0, 1, 2, 3] rfl
            refine va_calli (va_runV (As := [.ref ga, .int (nI i)]) (rest := []) ⟨hx, hb, hml, hown, hts⟩ (k_P_heatCrossings l D E h0 H.size e0 ed k u2 ad sn mo9 sg LP pf hL hk (fh_b (sg i) R) a2k.1 ga i (sg i) x6_ga x7_ga (by omega)) (cwV 2 hts (gw_gv wd_435 wd_437 wd_9 wd_37 wd_438) rfl rfl rfl (by decide +kernel) ⟨Nat.le_of_ble_eq_true rfl, Nat.le_of_ble_eq_true rfl⟩) (wP_V 0 hPc hK hDc rfl rfl) rfl rfl hl.1 rfl (lv_room (Nat.le_of_ble_eq_true rfl)) d_P_findHot_50 ⟨by rw [← hV]; show _ + (V.1.1 - (fh_b (sg i) R).1) ≤ T.1.1 - R1.1; omega, by rw [← hV]; show _ + (pot 16384 (fh_b (sg i) R).1 - pot 16384 V.1.1) ≤ pot 16384 R1.1 - pot 16384 T.1.1; omega⟩) hS (fun q _ h => hFc q h) hFc (fun r6 u3 t H1 locs ht hvm hw hB hz1 hk1 hS => ?_)
            obtain ⟨hP1, hD1⟩ := hB
            rw [ht] at hP1
            rw [← hV] at hP1 hD1 hw
            obtain ⟨hP, hD⟩ := va_joinP (X := [(h0, .inr (2, [.ref (ad 0), .ref (ad 1), .ref (ad 2), .ref (ad 3), .ref (ad 4), .ref (ad 5), .int sn])), ((ad 0), .inr (4, [.ref ed, .int (nI k), .int mo9])), ((ad 1), .inr (0, [.int (nI 16384), .ref u2, .int (nI (fh_b (sg i) R).2.2)])), (u2, .inl (E.1, (fh_b (sg i) R).1, .inr (.inl ((fh_b (sg i) R).2.1))))]) (cx := [(h0, .inr (2, [.ref (ad 0), .ref (ad 1), .ref (ad 2), .ref (ad 3), .ref (ad 4), .ref (ad 5), .int sn])), ((ad 0), .inr (4, [.ref ed, .int (nI k), .int mo9])), ((ad 1), .inr (0, [.int (nI 16384), .ref u2, .int (nI (fh_b (sg i) R).2.2)])), (u2, .inl (E.1, (fh_b (sg i) R).1, .inr (.inl ((fh_b (sg i) R).2.1))))]) (wr := []) (rx := [(h0, .inr (2, [.ref (ad 0), .ref (ad 1), .ref (ad 2), .ref (ad 3), .ref (ad 4), .ref (ad 5), .int sn])), ((ad 0), .inr (4, [.ref ed, .int (nI k), .int mo9])), ((ad 1), .inr (0, [.int (nI 16384), .ref u3, .int (nI V.1.2.2)])), (u3, .inl (E.1, V.1.1, .inr (.inl V.1.2.1)))]) (pl := va_pl LP pf) (pl1 := va_pl LP pf) hP hD [0, 1, 2, 3] [] rfl rfl (by decide) (by decide) hk1 hFc hP1 hD1
            generalize H1 = H at hP hS ⊢
            have hP : va_P D vwC ([(h0, .inr (2, [.ref (ad 0), .ref (ad 1), .ref (ad 2), .ref (ad 3), .ref (ad 4), .ref (ad 5), .int sn])), ((ad 0), .inr (4, [.ref ed, .int (nI k), .int mo9])), ((ad 1), .inr (0, [.int (nI 16384), .ref u3, .int (nI V.1.2.2)])), (u3, .inl (E.1, V.1.1, .inr (.inl V.1.2.1)))] ++ va_pl LP pf) H := hP
            have hD : va_D A ([(h0, .inr (2, [.ref (ad 0), .ref (ad 1), .ref (ad 2), .ref (ad 3), .ref (ad 4), .ref (ad 5), .int sn])), ((ad 0), .inr (4, [.ref ed, .int (nI k), .int mo9])), ((ad 1), .inr (0, [.int (nI 16384), .ref u3, .int (nI V.1.2.2)])), (u3, .inl (E.1, V.1.1, .inr (.inl V.1.2.1)))] ++ va_pl LP pf) := hD
            rw [← hV]
            refine W.widen (k := (V.1.1 - R1.1)) (n := (pot 16384 R1.1 - pot 16384 V.1.1)) (by omega) (by omega) ?_
            refine lv_if_ne (tgt := 58) hx hb d_P_findHot_53 (by decide) (fun c4 => ?_) (fun c4 => ?_)
            · have z : V.2 = true := Classical.byContradiction (fun z => c4 (by rw [show r6 = if V.2 = true then 1 else 0 from hw, if_neg z]))
              rw [if_pos z] at h3
              refine lv_iinc (v := nI (i + 1)) (lv' := [(1, .int (nI (i + 1))), (2, .ref ga), (0, .ref h0)]) hx hb d_P_findHot_58 hl (k := 2) rfl (iinc_p _) (by decide) rfl (fun ls hl => ?_)
              refine lv_goto (tgt := 2) hx hb d_P_findHot_61 (by decide) ?_
              exact ih (i + 1) V.1 u3 H locs ls (by omega) (by omega) h3 v1.1 (Nat.le_trans h5 v1.2) hP hD hS (lv_sub hl [2, 0] rfl)
            · have z : ¬ V.2 = true := fun z => absurd (show (1 : Int32) = 0 from by rw [← c4, show r6 = if V.2 = true then 1 else 0 from hw, if_pos z]) (by decide)
              rw [if_neg z] at h3
              subst h3
              refine lv_iconst (v := 0) hx hb d_P_findHot_56 (by decide) ?_
              exact W.zret (v := 0) (ty := .boolean) hx hb hrt rfl (fun t ht hW => ⟨⟨0, u3, rfl, (if_neg z).symm, ⟨by rw [ht]; exact hP, hD⟩⟩, hS.F ht⟩) hS.2.2 d_P_findHot_57 hlocks
  refine W.widen (k := (R1.1 - R1.1)) (n := (pot 16384 R1.1 - pot 16384 R1.1)) (Nat.zero_le _) (Nat.zero_le _) ?_
  exact loop (k + 1) 0 R1 a1 _ _ ls (Nat.zero_le _) (by omega) hT.symm hok (Nat.le_refl _) hP hD hS (lv_sub hl [1, 0] rfl)
end
