theorem d_P_orderPlaces_0 : decode c_P_orderPlaces 0 = .ok (.aload_n 1, 1) := by decide +kernel
theorem d_P_orderPlaces_1 : decode c_P_orderPlaces 1 = .ok (.invokevirtual 213, 3) := by decide +kernel
theorem d_P_orderPlaces_4 : decode c_P_orderPlaces 4 = .ok (.ifCond .eq 18, 3) := by decide +kernel
theorem d_P_orderPlaces_7 : decode c_P_orderPlaces 7 = .ok (.aload_n 0, 1) := by decide +kernel
theorem d_P_orderPlaces_8 : decode c_P_orderPlaces 8 = .ok (.getfield 29, 3) := by decide +kernel
theorem d_P_orderPlaces_11 : decode c_P_orderPlaces 11 = .ok (.iload_n 2, 1) := by decide +kernel
theorem d_P_orderPlaces_12 : decode c_P_orderPlaces 12 = .ok (.aload_n 0, 1) := by decide +kernel
theorem d_P_orderPlaces_13 : decode c_P_orderPlaces 13 = .ok (.getfield 29, 3) := by decide +kernel
theorem d_P_orderPlaces_16 : decode c_P_orderPlaces 16 = .ok (.invokevirtual 92, 3) := by decide +kernel
theorem d_P_orderPlaces_19 : decode c_P_orderPlaces 19 = .ok (.invokevirtual 216, 3) := by decide +kernel
theorem d_P_orderPlaces_22 : decode c_P_orderPlaces 22 = .ok (.aload_n 1, 1) := by decide +kernel
theorem d_P_orderPlaces_23 : decode c_P_orderPlaces 23 = .ok (.invokevirtual 213, 3) := by decide +kernel
theorem d_P_orderPlaces_26 : decode c_P_orderPlaces 26 = .ok (.aload_n 1, 1) := by decide +kernel
theorem d_P_orderPlaces_27 : decode c_P_orderPlaces 27 = .ok (.invokevirtual 220, 3) := by decide +kernel
theorem d_P_orderPlaces_30 : decode c_P_orderPlaces 30 = .ok (.if_icmp .eq 8, 3) := by decide +kernel
theorem d_P_orderPlaces_33 : decode c_P_orderPlaces 33 = .ok (.aload_n 0, 1) := by decide +kernel
theorem d_P_orderPlaces_34 : decode c_P_orderPlaces 34 = .ok (.iload_n 2, 1) := by decide +kernel
theorem d_P_orderPlaces_35 : decode c_P_orderPlaces 35 = .ok (.invokevirtual 223, 3) := by decide +kernel
theorem d_P_orderPlaces_38 : decode c_P_orderPlaces 38 = .ok (.return_, 1) := by decide +kernel
theorem d_P_turnColumnsRound_0 : decode c_P_turnColumnsRound 0 = .ok (.iload_n 1, 1) := by decide +kernel
theorem d_P_turnColumnsRound_1 : decode c_P_turnColumnsRound 1 = .ok (.istore_n 2, 1) := by decide +kernel
theorem d_P_turnColumnsRound_2 : decode c_P_turnColumnsRound 2 = .ok (.iload_n 1, 1) := by decide +kernel
theorem d_P_turnColumnsRound_3 : decode c_P_turnColumnsRound 3 = .ok (.iconst 1, 1) := by decide +kernel
theorem d_P_turnColumnsRound_4 : decode c_P_turnColumnsRound 4 = .ok (.iadd, 1) := by decide +kernel
theorem d_P_turnColumnsRound_5 : decode c_P_turnColumnsRound 5 = .ok (.istore_n 3, 1) := by decide +kernel
theorem d_P_turnColumnsRound_6 : decode c_P_turnColumnsRound 6 = .ok (.iload_n 3, 1) := by decide +kernel
theorem d_P_turnColumnsRound_7 : decode c_P_turnColumnsRound 7 = .ok (.aload_n 0, 1) := by decide +kernel
theorem d_P_turnColumnsRound_8 : decode c_P_turnColumnsRound 8 = .ok (.getfield 29, 3) := by decide +kernel
theorem d_P_turnColumnsRound_11 : decode c_P_turnColumnsRound 11 = .ok (.invokevirtual 92, 3) := by decide +kernel
theorem d_P_turnColumnsRound_14 : decode c_P_turnColumnsRound 14 = .ok (.if_icmp .gt 45, 3) := by decide +kernel
theorem d_P_turnColumnsRound_17 : decode c_P_turnColumnsRound 17 = .ok (.iload_n 3, 1) := by decide +kernel
theorem d_P_turnColumnsRound_18 : decode c_P_turnColumnsRound 18 = .ok (.aload_n 0, 1) := by decide +kernel
theorem d_P_turnColumnsRound_19 : decode c_P_turnColumnsRound 19 = .ok (.getfield 29, 3) := by decide +kernel
theorem d_P_turnColumnsRound_22 : decode c_P_turnColumnsRound 22 = .ok (.invokevirtual 92, 3) := by decide +kernel
theorem d_P_turnColumnsRound_25 : decode c_P_turnColumnsRound 25 = .ok (.if_icmp .eq 17, 3) := by decide +kernel
theorem d_P_turnColumnsRound_28 : decode c_P_turnColumnsRound 28 = .ok (.aload_n 0, 1) := by decide +kernel
theorem d_P_turnColumnsRound_29 : decode c_P_turnColumnsRound 29 = .ok (.iload_n 3, 1) := by decide +kernel
theorem d_P_turnColumnsRound_30 : decode c_P_turnColumnsRound 30 = .ok (.invokevirtual 226, 3) := by decide +kernel
theorem d_P_turnColumnsRound_33 : decode c_P_turnColumnsRound 33 = .ok (.aload_n 0, 1) := by decide +kernel
theorem d_P_turnColumnsRound_34 : decode c_P_turnColumnsRound 34 = .ok (.iload_n 2, 1) := by decide +kernel
theorem d_P_turnColumnsRound_35 : decode c_P_turnColumnsRound 35 = .ok (.invokevirtual 226, 3) := by decide +kernel
theorem d_P_turnColumnsRound_38 : decode c_P_turnColumnsRound 38 = .ok (.lcmp, 1) := by decide +kernel
theorem d_P_turnColumnsRound_39 : decode c_P_turnColumnsRound 39 = .ok (.ifCond .eq 14, 3) := by decide +kernel
theorem d_P_turnColumnsRound_42 : decode c_P_turnColumnsRound 42 = .ok (.aload_n 0, 1) := by decide +kernel
theorem d_P_turnColumnsRound_43 : decode c_P_turnColumnsRound 43 = .ok (.getfield 29, 3) := by decide +kernel
theorem d_P_turnColumnsRound_46 : decode c_P_turnColumnsRound 46 = .ok (.iload_n 2, 1) := by decide +kernel
theorem d_P_turnColumnsRound_47 : decode c_P_turnColumnsRound 47 = .ok (.iload_n 3, 1) := by decide +kernel
theorem d_P_turnColumnsRound_48 : decode c_P_turnColumnsRound 48 = .ok (.invokevirtual 216, 3) := by decide +kernel
theorem d_P_turnColumnsRound_51 : decode c_P_turnColumnsRound 51 = .ok (.iload_n 3, 1) := by decide +kernel
theorem d_P_turnColumnsRound_52 : decode c_P_turnColumnsRound 52 = .ok (.istore_n 2, 1) := by decide +kernel
theorem d_P_turnColumnsRound_53 : decode c_P_turnColumnsRound 53 = .ok (.iinc 3 1, 3) := by decide +kernel
theorem d_P_turnColumnsRound_56 : decode c_P_turnColumnsRound 56 = .ok (.goto (-50), 3) := by decide +kernel
theorem d_P_turnColumnsRound_59 : decode c_P_turnColumnsRound 59 = .ok (.return_, 1) := by decide +kernel
noncomputable section
def tc_go (R1 : RS) (n z : Nat) : Nat → Nat → Nat → (Nat → Int64) → (Nat → Int64)
  | 0, _, _, f => f
  | fu + 1, k, b, f => if k ≤ z then (if k = z ∨ px_x R1 (n, f, z) (nI k) ≠ px_x R1 (n, f, z) (nI b) then tc_go R1 n z fu (k + 1) k (ps_turn f b k) else tc_go R1 n z fu (k + 1) b f) else f
def tc_all (R1 R3 : RS) (b : Nat) : RS := (R3.1, tc_go R1 R3.1 R3.2.2 (R3.2.2 + 1) (b + 1) b R3.2.1, R3.2.2)
set_option maxHeartbeats 4000000 in
set_option maxRecDepth 100000 in
theorem k_P_turnColumnsRound (l : Launch) (D : va_G) (E : ClassId × ClassId × ClassId × ClassId) (h0 sz a1 a3 : Nat) (ad : Nat → Nat) (sn : Int32) (R1 R3 : RS) (ho1 : rs_ok 16384 R1) (ho3 : rs_ok 65536 R3) (b : Nat) (hb0 : b ≤ R3.2.2) : Met l y_P_turnColumnsRound (.code y_P_turnColumnsRound c_P_turnColumnsRound 4 none :: gw) ({ frames := 3, cells := 0, slots := 0, locals := 75 } : Room) (wP D E [(h0, .inr (2, [.ref (ad 0), .ref (ad 1), .ref (ad 2), .ref (ad 3), .ref (ad 4), .ref (ad 5), .int sn])), ((ad 1), .inr (0, [.int (nI 16384), .ref a1, .int (nI R1.2.2)])), (a1, .inl (E.1, R1.1, .inr (.inl R1.2.1))), ((ad 3), .inr (0, [.int (nI 65536), .ref a3, .int (nI R3.2.2)])), (a3, .inl (E.1, R3.1, .inr (.inl R3.2.1)))] sz [.ref h0, .int (nI b)]) (va_Qv (fun (u : Unit) => True) (wB D (fun _ => [(h0, .inr (2, [.ref (ad 0), .ref (ad 1), .ref (ad 2), .ref (ad 3), .ref (ad 4), .ref (ad 5), .int sn])), ((ad 1), .inr (0, [.int (nI 16384), .ref a1, .int (nI R1.2.2)])), (a1, .inl (E.1, R1.1, .inr (.inl R1.2.1))), ((ad 3), .inr (0, [.int (nI 65536), .ref a3, .int (nI (tc_all R1 R3 b).2.2)])), (a3, .inl (E.1, (tc_all R1 R3 b).1, .inr (.inl ((tc_all R1 R3 b).2.1))))]) (va_A [(h0, .inr (2, [.ref (ad 0), .ref (ad 1), .ref (ad 2), .ref (ad 3), .ref (ad 4), .ref (ad 5), .int sn])), ((ad 1), .inr (0, [.int (nI 16384), .ref a1, .int (nI R1.2.2)])), (a1, .inl (E.1, R1.1, .inr (.inl R1.2.1))), ((ad 3), .inr (0, [.int (nI 65536), .ref a3, .int (nI R3.2.2)])), (a3, .inl (E.1, R3.1, .inr (.inl R3.2.1)))] sz)) (va_A [(h0, .inr (2, [.ref (ad 0), .ref (ad 1), .ref (ad 2), .ref (ad 3), .ref (ad 4), .ref (ad 5), .int sn])), ((ad 1), .inr (0, [.int (nI 16384), .ref a1, .int (nI R1.2.2)])), (a1, .inl (E.1, R1.1, .inr (.inl R1.2.1))), ((ad 3), .inr (0, [.int (nI 65536), .ref a3, .int (nI R3.2.2)])), (a3, .inl (E.1, R3.1, .inr (.inl R3.2.1)))] sz)) 0 0 (va_A [(h0, .inr (2, [.ref (ad 0), .ref (ad 1), .ref (ad 2), .ref (ad 3), .ref (ad 4), .ref (ad 5), .int sn])), ((ad 1), .inr (0, [.int (nI 16384), .ref a1, .int (nI R1.2.2)])), (a1, .inl (E.1, R1.1, .inr (.inl R1.2.1))), ((ad 3), .inr (0, [.int (nI 65536), .ref a3, .int (nI R3.2.2)])), (a3, .inl (E.1, R3.1, .inr (.inl R3.2.1)))] sz) := by
  refine wr_ofW (Qc := fun A => (va_Qv (fun (u : Unit) => True) (wB D (fun _ => [(h0, .inr (2, [.ref (ad 0), .ref (ad 1), .ref (ad 2), .ref (ad 3), .ref (ad 4), .ref (ad 5), .int sn])), ((ad 1), .inr (0, [.int (nI 16384), .ref a1, .int (nI R1.2.2)])), (a1, .inl (E.1, R1.1, .inr (.inl R1.2.1))), ((ad 3), .inr (0, [.int (nI 65536), .ref a3, .int (nI (tc_all R1 R3 b).2.2)])), (a3, .inl (E.1, (tc_all R1 R3 b).1, .inr (.inl ((tc_all R1 R3 b).2.1))))]) A) A)) (by decide) (Nat.le_of_ble_eq_true rfl) ?_
  intro p e s m below meth c B hP hK A hA hD hS ls hl
  obtain ⟨hx, hb, hrt, hml, hown, hts, hG, hlocks, hin⟩ := B
  have hl : lv_has ls 4 [(0, .ref h0), (1, .int (nI b))] := hl
  obtain ⟨T, hT⟩ : ∃ T, T = (tc_all R1 R3 b) := ⟨_, rfl⟩
  rw [← hT]
  obtain ⟨q11, q12, q13⟩ := id ho1
  obtain ⟨q31, q32, q33⟩ := id ho3
  refine lv_iload_n hx hb d_P_turnColumnsRound_0 rfl (lv_at hl 1 rfl) ?_
  refine lv_istore_n (lv' := [(2, .int (nI b)), (0, .ref h0), (1, .int (nI b))]) hx hb d_P_turnColumnsRound_1 rfl hl (by decide) rfl (fun ls hl => ?_)
  refine lv_iload_n hx hb d_P_turnColumnsRound_2 rfl (lv_at hl 2 rfl) ?_
  refine lv_iconst (v := 1) hx hb d_P_turnColumnsRound_3 (by decide) ?_
  refine lv_iadd hx hb d_P_turnColumnsRound_4 ?_
  rw [show (nI b + 1) = nI (b + 1) from nI_1 _]
  refine lv_istore_n (lv' := [(3, .int (nI (b + 1))), (2, .int (nI b)), (0, .ref h0), (1, .int (nI b))]) hx hb d_P_turnColumnsRound_5 rfl hl (by decide) rfl (fun ls hl => ?_)
  have loop : ∀ (fu : Nat) (k : Nat) (v : Nat) (f : Nat → Int64) (H : Heap) (locs : List Loc) (ls : Array Slot), (v < k) → (k ≤ R3.2.2 + 1) → (R3.2.2 + 1 < k + fu) → ((R3.1, tc_go R1 R3.1 R3.2.2 fu k v f, R3.2.2) = T) → va_P D vwC [(h0, .inr (2, [.ref (ad 0), .ref (ad 1), .ref (ad 2), .ref (ad 3), .ref (ad 4), .ref (ad 5), .int sn])), ((ad 1), .inr (0, [.int (nI 16384), .ref a1, .int (nI R1.2.2)])), (a1, .inl (E.1, R1.1, .inr (.inl R1.2.1))), ((ad 3), .inr (0, [.int (nI 65536), .ref a3, .int (nI (R3.1, f, R3.2.2).2.2)])), (a3, .inl (E.1, (R3.1, f, R3.2.2).1, .inr (.inl ((R3.1, f, R3.2.2).2.1))))] H → va_D A [(h0, .inr (2, [.ref (ad 0), .ref (ad 1), .ref (ad 2), .ref (ad 3), .ref (ad 4), .ref (ad 5), .int sn])), ((ad 1), .inr (0, [.int (nI 16384), .ref a1, .int (nI R1.2.2)])), (a1, .inl (E.1, R1.1, .inr (.inl R1.2.1))), ((ad 3), .inr (0, [.int (nI 65536), .ref a3, .int (nI (R3.1, f, R3.2.2).2.2)])), (a3, .inl (E.1, (R3.1, f, R3.2.2).1, .inr (.inl ((R3.1, f, R3.2.2).2.1))))] → va_S A s.heap H locs → lv_has ls 4 [(0, .ref h0), (1, .int (nI b)), (2, .int (nI v)), (3, .int (nI k))] → W p l e ({ frames := 3, cells := 0, slots := 0, locals := 75 } : Room) s m ([.ref h0, .int (nI b)] : List Value).toArray below meth c H locs 0 0 (MQ below (va_Qv (fun (u : Unit) => True) (wB D (fun _ => [(h0, .inr (2, [.ref (ad 0), .ref (ad 1), .ref (ad 2), .ref (ad 3), .ref (ad 4), .ref (ad 5), .int sn])), ((ad 1), .inr (0, [.int (nI 16384), .ref a1, .int (nI R1.2.2)])), (a1, .inl (E.1, R1.1, .inr (.inl R1.2.1))), ((ad 3), .inr (0, [.int (nI 65536), .ref a3, .int (nI T.2.2)])), (a3, .inl (E.1, T.1, .inr (.inl T.2.1)))]) A) A) ([.ref h0, .int (nI b)] : List Value).toArray s 0 0 A) (F0 m 6 ls []) := by
    intro fu
    induction fu with
    | zero =>
      intro k v f H locs ls h1 h2 h3 h4 hP hD hS hl
      omega
    | succ fu ih =>
      intro k v f H locs ls h1 h2 h3 h4 hP hD hS hl
      rw [tc_go] at h4
      refine lv_iload_n hx hb d_P_turnColumnsRound_6 rfl (lv_at hl 3 rfl) ?_
      refine lv_aload_n hx hb d_P_turnColumnsRound_7 rfl (lv_at hl 0 rfl) ?_
      refine va_get (D := D) (ci := 2) (v := .ref (ad 3)) (C := K_P) (T := F_P) (N := 7) hx hb hG in_P hown hK.1 hP 0 rfl rfl 3 (by decide) (hG _ wd_112) (fun _ h9 => h9) rfl d_P_turnColumnsRound_8 ?_
      have hPc := hP.sub (ws' := [((ad 3), .inr (0, [.int (nI 65536), .ref a3, .int (nI (R3.1, f, R3.2.2).2.2)]))]) [3] rfl
      refine vp_callSi (W.runV (As := []) (rest := [.int (nI k)]) ⟨hx, hb, hml, hown, hts⟩ (k_R_size l D E (ad 3) a3 (nI 65536) (nI R3.2.2)) (cwV 0 hts (gw_gv wd_155 wd_156 wd_157 wd_41 wd_158) rfl rfl rfl (by decide +kernel) ⟨Nat.le_of_ble_eq_true rfl, Nat.le_of_ble_eq_true rfl⟩) (rP_V 0 hPc hK rfl rfl) rfl rfl hl.1 rfl (lv_room (Nat.le_of_ble_eq_true rfl)) d_P_turnColumnsRound_11 ⟨Nat.le_of_ble_eq_true rfl, Nat.le_of_ble_eq_true rfl⟩) (fun r1 hr1 => ?_)
      subst hr1
      refine lv_icmp_gt (tgt := 59) hx hb d_P_turnColumnsRound_14 (by decide) (fun c1 => ?_) (fun c1 => ?_)
      · have q : ¬ k ≤ R3.2.2 := by have := (nI_ltI (by omega) (by omega)).mp c1; omega
        rw [if_neg q] at h4
        subst h4
        exact W.vret hx hb hrt (fun t ht hW => ⟨⟨(), rfl, trivial, ⟨by rw [ht]; exact hP, hD⟩⟩, hS.F ht⟩) hS.2.2 d_P_turnColumnsRound_59 hlocks
      · have q : k ≤ R3.2.2 := by rw [nI_ltI (by omega) (by omega)] at c1; omega
        rw [if_pos q] at h4
        refine lv_iload_n hx hb d_P_turnColumnsRound_17 rfl (lv_at hl 3 rfl) ?_
        refine lv_aload_n hx hb d_P_turnColumnsRound_18 rfl (lv_at hl 0 rfl) ?_
        refine va_get (D := D) (ci := 2) (v := .ref (ad 3)) (C := K_P) (T := F_P) (N := 7) hx hb hG in_P hown hK.1 hP 0 rfl rfl 3 (by decide) (hG _ wd_112) (fun _ h9 => h9) rfl d_P_turnColumnsRound_19 ?_
        have hPc := hP.sub (ws' := [((ad 3), .inr (0, [.int (nI 65536), .ref a3, .int (nI (R3.1, f, R3.2.2).2.2)]))]) [3] rfl
        refine vp_callSi (W.runV (As := []) (rest := [.int (nI k)]) ⟨hx, hb, hml, hown, hts⟩ (k_R_size l D E (ad 3) a3 (nI 65536) (nI R3.2.2)) (cwV 0 hts (gw_gv wd_155 wd_156 wd_157 wd_41 wd_158) rfl rfl rfl (by decide +kernel) ⟨Nat.le_of_ble_eq_true rfl, Nat.le_of_ble_eq_true rfl⟩) (rP_V 0 hPc hK rfl rfl) rfl rfl hl.1 rfl (lv_room (Nat.le_of_ble_eq_true rfl)) d_P_turnColumnsRound_22 ⟨Nat.le_of_ble_eq_true rfl, Nat.le_of_ble_eq_true rfl⟩) (fun r2 hr2 => ?_)
        subst hr2
        refine lv_icmp_eq (tgt := 42) hx hb d_P_turnColumnsRound_25 (by decide) (fun c2 => ?_) (fun c2 => ?_)
        · have q8 : k = R3.2.2 := (nI_eq (by omega) (by omega)).mp c2
          rw [if_pos (Or.inl q8)] at h4
          refine lv_aload_n hx hb d_P_turnColumnsRound_42 rfl (lv_at hl 0 rfl) ?_
          refine va_get (D := D) (ci := 2) (v := .ref (ad 3)) (C := K_P) (T := F_P) (N := 7) hx hb hG in_P hown hK.1 hP 0 rfl rfl 3 (by decide) (hG _ wd_112) (fun _ h9 => h9) rfl d_P_turnColumnsRound_43 ?_
          refine lv_iload_n hx hb d_P_turnColumnsRound_46 rfl (lv_at hl 2 rfl) ?_
          refine lv_iload_n hx hb d_P_turnColumnsRound_47 rfl (lv_at hl 3 rfl) ?_
          have hPc := hP.sub (ws' := [((ad 3), .inr (0, [.int (nI 65536), .ref a3, .int (nI (R3.1, f, R3.2.2).2.2)])), (a3, .inl (E.1, (R3.1, f, R3.2.2).1, .inr (.inl ((R3.1, f, R3.2.2).2.1))))]) [3, 4] rfl
          have hDc := hD.sub (ws' := [((ad 3), .inr (0, [.int (nI 65536), .ref a3, .int (nI (R3.1, f, R3.2.2).2.2)])), (a3, .inl (E.1, (R3.1, f, R3.2.2).1, .inr (.inl ((R3.1, f, R3.2.2).2.1))))]) [3, 4] (by decide) rfl
          have hFc := va_free (wc := [((ad 3), .inr (0, [.int (nI 65536), .ref a3, .int (nI (R3.1, f, R3.2.2).2.2)])), (a3, .inl (E.1, (R3.1, f, R3.2.2).1, .inr (.inl ((R3.1, f, R3.2.2).2.1))))]) hD hS hA [3, 4] rfl
          refine va_callv (va_runV (As := [.int (nI v), .int (nI k)]) (rest := []) ⟨hx, hb, hml, hown, hts⟩ (k_R_turnRound l D E (ad 3) a3 H.size (nI 65536) R3.2.2 R3.1 v k f q32 (by omega) q (by omega)) (cwV 2 hts (gw_gv wd_516 wd_517 wd_518 wd_41 wd_519) rfl rfl rfl (by decide +kernel) ⟨Nat.le_of_ble_eq_true rfl, Nat.le_of_ble_eq_true rfl⟩) (wP_V 0 hPc hK hDc rfl rfl) rfl rfl hl.1 rfl (lv_room (Nat.le_of_ble_eq_true rfl)) d_P_turnColumnsRound_48 ⟨Nat.le_of_ble_eq_true rfl, Nat.le_of_ble_eq_true rfl⟩) hS (fun q _ h => hFc q h) hFc (fun u9 t H1 locs ht hvm hw hB hz1 hk1 hS => ?_)
          obtain ⟨hP1, hD1⟩ := hB
          rw [ht] at hP1
          obtain ⟨hP, hD⟩ := va_join (wr := [(h0, .inr (2, [.ref (ad 0), .ref (ad 1), .ref (ad 2), .ref (ad 3), .ref (ad 4), .ref (ad 5), .int sn])), ((ad 1), .inr (0, [.int (nI 16384), .ref a1, .int (nI R1.2.2)])), (a1, .inl (E.1, R1.1, .inr (.inl R1.2.1)))]) (w1 := [((ad 3), .inr (0, [.int (nI 65536), .ref a3, .int (nI (R3.1, ps_turn f v k, R3.2.2).2.2)])), (a3, .inl (E.1, (R3.1, ps_turn f v k, R3.2.2).1, .inr (.inl ((R3.1, ps_turn f v k, R3.2.2).2.1))))]) hP hD [3, 4] [0, 1, 2] rfl rfl (by decide) (by decide) hk1 hFc hP1 hD1
          generalize H1 = H at hP hS ⊢
          have hP : va_P D vwC [(h0, .inr (2, [.ref (ad 0), .ref (ad 1), .ref (ad 2), .ref (ad 3), .ref (ad 4), .ref (ad 5), .int sn])), ((ad 1), .inr (0, [.int (nI 16384), .ref a1, .int (nI R1.2.2)])), (a1, .inl (E.1, R1.1, .inr (.inl R1.2.1))), ((ad 3), .inr (0, [.int (nI 65536), .ref a3, .int (nI (R3.1, ps_turn f v k, R3.2.2).2.2)])), (a3, .inl (E.1, (R3.1, ps_turn f v k, R3.2.2).1, .inr (.inl ((R3.1, ps_turn f v k, R3.2.2).2.1))))] H := hP
          have hD : va_D A [(h0, .inr (2, [.ref (ad 0), .ref (ad 1), .ref (ad 2), .ref (ad 3), .ref (ad 4), .ref (ad 5), .int sn])), ((ad 1), .inr (0, [.int (nI 16384), .ref a1, .int (nI R1.2.2)])), (a1, .inl (E.1, R1.1, .inr (.inl R1.2.1))), ((ad 3), .inr (0, [.int (nI 65536), .ref a3, .int (nI (R3.1, ps_turn f v k, R3.2.2).2.2)])), (a3, .inl (E.1, (R3.1, ps_turn f v k, R3.2.2).1, .inr (.inl ((R3.1, ps_turn f v k, R3.2.2).2.1))))] := hD
          refine lv_iload_n hx hb d_P_turnColumnsRound_51 rfl (lv_at hl 3 rfl) ?_
          refine lv_istore_n (lv' := [(2, .int (nI k)), (0, .ref h0), (1, .int (nI b)), (3, .int (nI k))]) hx hb d_P_turnColumnsRound_52 rfl hl (by decide) rfl (fun ls hl => ?_)
          refine lv_iinc (v := nI (k + 1)) (lv' := [(3, .int (nI (k + 1))), (2, .int (nI k)), (0, .ref h0), (1, .int (nI b))]) hx hb d_P_turnColumnsRound_53 hl (k := 3) rfl (iinc_p _) (by decide) rfl (fun ls hl => ?_)
          refine lv_goto (tgt := 6) hx hb d_P_turnColumnsRound_56 (by decide) ?_
          exact ih (k + 1) k (ps_turn f v k) H locs ls (by omega) (by omega) (by omega) h4 hP hD hS (lv_sub hl [2, 3, 1, 0] rfl)
        · have q8 : ¬ k = R3.2.2 := fun y => c2 (by rw [y])
          refine lv_aload_n hx hb d_P_turnColumnsRound_28 rfl (lv_at hl 0 rfl) ?_
          refine lv_iload_n hx hb d_P_turnColumnsRound_29 rfl (lv_at hl 3 rfl) ?_
          have hPc := hP.sub (ws' := [(h0, .inr (2, [.ref (ad 0), .ref (ad 1), .ref (ad 2), .ref (ad 3), .ref (ad 4), .ref (ad 5), .int sn])), ((ad 1), .inr (0, [.int (nI 16384), .ref a1, .int (nI R1.2.2)])), (a1, .inl (E.1, R1.1, .inr (.inl R1.2.1))), ((ad 3), .inr (0, [.int (nI 65536), .ref a3, .int (nI (R3.1, f, R3.2.2).2.2)])), (a3, .inl (E.1, (R3.1, f, R3.2.2).1, .inr (.inl ((R3.1, f, R3.2.2).2.1))))]) [0, 1, 2, 3, 4] rfl
          refine vp_callSl (W.runV (As := [.int (nI k)]) (rest := []) ⟨hx, hb, hml, hown, hts⟩ (k_P_placeX l D E h0 a1 a3 ad sn (nI k) R1 (R3.1, f, R3.2.2) q12 (by omega) q32 (by show R3.1 < _; omega)) (cwV 1 hts (gw_gv wd_528 wd_530 wd_17 wd_37 wd_531) rfl rfl rfl (by decide +kernel) ⟨Nat.le_of_ble_eq_true rfl, Nat.le_of_ble_eq_true rfl⟩) (rP_V 0 hPc hK rfl rfl) rfl rfl hl.1 rfl (lv_room (Nat.le_of_ble_eq_true rfl)) d_P_turnColumnsRound_30 ⟨Nat.le_of_ble_eq_true rfl, Nat.le_of_ble_eq_true rfl⟩) (fun r3 hr3 => ?_)
          subst hr3
          refine lv_aload_n hx hb d_P_turnColumnsRound_33 rfl (lv_at hl 0 rfl) ?_
          refine lv_iload_n hx hb d_P_turnColumnsRound_34 rfl (lv_at hl 2 rfl) ?_
          have hPc := hP.sub (ws' := [(h0, .inr (2, [.ref (ad 0), .ref (ad 1), .ref (ad 2), .ref (ad 3), .ref (ad 4), .ref (ad 5), .int sn])), ((ad 1), .inr (0, [.int (nI 16384), .ref a1, .int (nI R1.2.2)])), (a1, .inl (E.1, R1.1, .inr (.inl R1.2.1))), ((ad 3), .inr (0, [.int (nI 65536), .ref a3, .int (nI (R3.1, f, R3.2.2).2.2)])), (a3, .inl (E.1, (R3.1, f, R3.2.2).1, .inr (.inl ((R3.1, f, R3.2.2).2.1))))]) [0, 1, 2, 3, 4] rfl
          refine vp_callSl (W.runV (As := [.int (nI v)]) (rest := [.long (px_x R1 (R3.1, f, R3.2.2) (nI k))]) ⟨hx, hb, hml, hown, hts⟩ (k_P_placeX l D E h0 a1 a3 ad sn (nI v) R1 (R3.1, f, R3.2.2) q12 (by omega) q32 (by show R3.1 < _; omega)) (cwV 1 hts (gw_gv wd_528 wd_530 wd_17 wd_37 wd_531) rfl rfl rfl (by decide +kernel) ⟨Nat.le_of_ble_eq_true rfl, Nat.le_of_ble_eq_true rfl⟩) (rP_V 0 hPc hK rfl rfl) rfl rfl hl.1 rfl (lv_room (Nat.le_of_ble_eq_true rfl)) d_P_turnColumnsRound_35 ⟨Nat.le_of_ble_eq_true rfl, Nat.le_of_ble_eq_true rfl⟩) (fun r4 hr4 => ?_)
          subst hr4
          refine W.lcmp hx hb d_P_turnColumnsRound_38 ?_
          refine lv_if_eq (tgt := 53) hx hb d_P_turnColumnsRound_39 (by decide) (fun c3 => ?_) (fun c3 => ?_)
          · rw [if_neg (fun y => y.elim q8 (fun w => w (lg_eq.mp c3)))] at h4
            refine lv_iinc (v := nI (k + 1)) (lv' := [(3, .int (nI (k + 1))), (0, .ref h0), (1, .int (nI b)), (2, .int (nI v))]) hx hb d_P_turnColumnsRound_53 hl (k := 3) rfl (iinc_p _) (by decide) rfl (fun ls hl => ?_)
            refine lv_goto (tgt := 6) hx hb d_P_turnColumnsRound_56 (by decide) ?_
            exact ih (k + 1) v f H locs ls (by omega) (by omega) (by omega) h4 hP hD hS (lv_sub hl [1, 2, 3, 0] rfl)
          · rw [if_pos (Or.inr (fun y => c3 (lg_eq.mpr y)))] at h4
            refine lv_aload_n hx hb d_P_turnColumnsRound_42 rfl (lv_at hl 0 rfl) ?_
            refine va_get (D := D) (ci := 2) (v := .ref (ad 3)) (C := K_P) (T := F_P) (N := 7) hx hb hG in_P hown hK.1 hP 0 rfl rfl 3 (by decide) (hG _ wd_112) (fun _ h9 => h9) rfl d_P_turnColumnsRound_43 ?_
            refine lv_iload_n hx hb d_P_turnColumnsRound_46 rfl (lv_at hl 2 rfl) ?_
            refine lv_iload_n hx hb d_P_turnColumnsRound_47 rfl (lv_at hl 3 rfl) ?_
            have hPc := hP.sub (ws' := [((ad 3), .inr (0, [.int (nI 65536), .ref a3, .int (nI (R3.1, f, R3.2.2).2.2)])), (a3, .inl (E.1, (R3.1, f, R3.2.2).1, .inr (.inl ((R3.1, f, R3.2.2).2.1))))]) [3, 4] rfl
            have hDc := hD.sub (ws' := [((ad 3), .inr (0, [.int (nI 65536), .ref a3, .int (nI (R3.1, f, R3.2.2).2.2)])), (a3, .inl (E.1, (R3.1, f, R3.2.2).1, .inr (.inl ((R3.1, f, R3.2.2).2.1))))]) [3, 4] (by decide) rfl
            have hFc := va_free (wc := [((ad 3), .inr (0, [.int (nI 65536), .ref a3, .int (nI (R3.1, f, R3.2.2).2.2)])), (a3, .inl (E.1, (R3.1, f, R3.2.2).1, .inr (.inl ((R3.1, f, R3.2.2).2.1))))]) hD hS hA [3, 4] rfl
            refine va_callv (va_runV (As := [.int (nI v), .int (nI k)]) (rest := []) ⟨hx, hb, hml, hown, hts⟩ (k_R_turnRound l D E (ad 3) a3 H.size (nI 65536) R3.2.2 R3.1 v k f q32 (by omega) q (by omega)) (cwV 2 hts (gw_gv wd_516 wd_517 wd_518 wd_41 wd_519) rfl rfl rfl (by decide +kernel) ⟨Nat.le_of_ble_eq_true rfl, Nat.le_of_ble_eq_true rfl⟩) (wP_V 0 hPc hK hDc rfl rfl) rfl rfl hl.1 rfl (lv_room (Nat.le_of_ble_eq_true rfl)) d_P_turnColumnsRound_48 ⟨Nat.le_of_ble_eq_true rfl, Nat.le_of_ble_eq_true rfl⟩) hS (fun q _ h => hFc q h) hFc (fun u9 t H1 locs ht hvm hw hB hz1 hk1 hS => ?_)
            obtain ⟨hP1, hD1⟩ := hB
            rw [ht] at hP1
            obtain ⟨hP, hD⟩ := va_join (wr := [(h0, .inr (2, [.ref (ad 0), .ref (ad 1), .ref (ad 2), .ref (ad 3), .ref (ad 4), .ref (ad 5), .int sn])), ((ad 1), .inr (0, [.int (nI 16384), .ref a1, .int (nI R1.2.2)])), (a1, .inl (E.1, R1.1, .inr (.inl R1.2.1)))]) (w1 := [((ad 3), .inr (0, [.int (nI 65536), .ref a3, .int (nI (R3.1, ps_turn f v k, R3.2.2).2.2)])), (a3, .inl (E.1, (R3.1, ps_turn f v k, R3.2.2).1, .inr (.inl ((R3.1, ps_turn f v k, R3.2.2).2.1))))]) hP hD [3, 4] [0, 1, 2] rfl rfl (by decide) (by decide) hk1 hFc hP1 hD1
            generalize H1 = H at hP hS ⊢
            have hP : va_P D vwC [(h0, .inr (2, [.ref (ad 0), .ref (ad 1), .ref (ad 2), .ref (ad 3), .ref (ad 4), .ref (ad 5), .int sn])), ((ad 1), .inr (0, [.int (nI 16384), .ref a1, .int (nI R1.2.2)])), (a1, .inl (E.1, R1.1, .inr (.inl R1.2.1))), ((ad 3), .inr (0, [.int (nI 65536), .ref a3, .int (nI (R3.1, ps_turn f v k, R3.2.2).2.2)])), (a3, .inl (E.1, (R3.1, ps_turn f v k, R3.2.2).1, .inr (.inl ((R3.1, ps_turn f v k, R3.2.2).2.1))))] H := hP
            have hD : va_D A [(h0, .inr (2, [.ref (ad 0), .ref (ad 1), .ref (ad 2), .ref (ad 3), .ref (ad 4), .ref (ad 5), .int sn])), ((ad 1), .inr (0, [.int (nI 16384), .ref a1, .int (nI R1.2.2)])), (a1, .inl (E.1, R1.1, .inr (.inl R1.2.1))), ((ad 3), .inr (0, [.int (nI 65536), .ref a3, .int (nI (R3.1, ps_turn f v k, R3.2.2).2.2)])), (a3, .inl (E.1, (R3.1, ps_turn f v k, R3.2.2).1, .inr (.inl ((R3.1, ps_turn f v k, R3.2.2).2.1))))] := hD
            refine lv_iload_n hx hb d_P_turnColumnsRound_51 rfl (lv_at hl 3 rfl) ?_
            refine lv_istore_n (lv' := [(2, .int (nI k)), (0, .ref h0), (1, .int (nI b)), (3, .int (nI k))]) hx hb d_P_turnColumnsRound_52 rfl hl (by decide) rfl (fun ls hl => ?_)
            refine lv_iinc (v := nI (k + 1)) (lv' := [(3, .int (nI (k + 1))), (2, .int (nI k)), (0, .ref h0), (1, .int (nI b))]) hx hb d_P_turnColumnsRound_53 hl (k := 3) rfl (iinc_p _) (by decide) rfl (fun ls hl => ?_)
            refine lv_goto (tgt := 6) hx hb d_P_turnColumnsRound_56 (by decide) ?_
            exact ih (k + 1) k (ps_turn f v k) H locs ls (by omega) (by omega) (by omega) h4 hP hD hS (lv_sub hl [2, 3, 1, 0] rfl)
  exact loop (R3.2.2 + 1) (b + 1) b R3.2.1 _ _ ls (by omega) (by omega) (by omega) hT.symm hP hD hS (lv_sub hl [2, 3, 1, 0] rfl)
def op_a (q : SQ) (R3 : RS) (b : Nat) : RS := if swx q < 0 then (R3.1, ps_turn R3.2.1 b R3.2.2, R3.2.2) else R3
def op_all (q : SQ) (R1 R3 : RS) (b : Nat) : RS := if (if swx q < 0 then (1 : Int32) else 0) = (if swy q < 0 then (1 : Int32) else 0) then op_a q R3 b else tc_all R1 (op_a q R3 b) b
theorem op_a_ok {q : SQ} {R3 : RS} {b m : Nat} (h : rs_ok m R3) : rs_ok m (op_a q R3 b) ∧ (op_a q R3 b).2.2 = R3.2.2 ∧ (op_a q R3 b).1 = R3.1 := by
  unfold op_a
  split <;> exact ⟨h, rfl, rfl⟩
theorem op_ok {q : SQ} {R1 R3 : RS} {b m : Nat} (h : rs_ok m R3) : rs_ok m (op_all q R1 R3 b) ∧ (op_all q R1 R3 b).2.2 = R3.2.2 ∧ (op_all q R1 R3 b).1 = R3.1 := by
  unfold op_all
  by_cases c : (if swx q < 0 then (1 : Int32) else 0) = (if swy q < 0 then (1 : Int32) else 0)
  · rw [if_pos c]
    exact op_a_ok h
  · rw [if_neg c]
    exact op_a_ok h
set_option maxHeartbeats 4000000 in
set_option maxRecDepth 100000 in
theorem k_P_orderPlaces (l : Launch) (D : va_G) (E : ClassId × ClassId × ClassId × ClassId) (h0 sz a1 a3 : Nat) (ad : Nat → Nat) (sn : Int32) (LP : List Nat) (pf : Nat → va_E) (R1 R3 : RS) (ho1 : rs_ok 16384 R1) (ho3 : rs_ok 65536 R3) (y : Nat) (q : SQ) (hy : y ∈ LP) (hfy : pf y = .inr (1, sgF q)) (b : Nat) (hb0 : b ≤ R3.2.2) : Met l y_P_orderPlaces (.code y_P_orderPlaces c_P_orderPlaces 3 none :: gw) ({ frames := 4, cells := 0, slots := 0, locals := 100 } : Room) (wP D E ([(h0, .inr (2, [.ref (ad 0), .ref (ad 1), .ref (ad 2), .ref (ad 3), .ref (ad 4), .ref (ad 5), .int sn])), ((ad 1), .inr (0, [.int (nI 16384), .ref a1, .int (nI R1.2.2)])), (a1, .inl (E.1, R1.1, .inr (.inl R1.2.1))), ((ad 3), .inr (0, [.int (nI 65536), .ref a3, .int (nI R3.2.2)])), (a3, .inl (E.1, R3.1, .inr (.inl R3.2.1)))] ++ va_pl LP pf) sz [.ref h0, .ref y, .int (nI b)]) (va_Qv (fun (u : Unit) => True) (wB D (fun _ => ([(h0, .inr (2, [.ref (ad 0), .ref (ad 1), .ref (ad 2), .ref (ad 3), .ref (ad 4), .ref (ad 5), .int sn])), ((ad 1), .inr (0, [.int (nI 16384), .ref a1, .int (nI R1.2.2)])), (a1, .inl (E.1, R1.1, .inr (.inl R1.2.1))), ((ad 3), .inr (0, [.int (nI 65536), .ref a3, .int (nI (op_all q R1 R3 b).2.2)])), (a3, .inl (E.1, (op_all q R1 R3 b).1, .inr (.inl ((op_all q R1 R3 b).2.1))))] ++ va_pl LP pf)) (va_A ([(h0, .inr (2, [.ref (ad 0), .ref (ad 1), .ref (ad 2), .ref (ad 3), .ref (ad 4), .ref (ad 5), .int sn])), ((ad 1), .inr (0, [.int (nI 16384), .ref a1, .int (nI R1.2.2)])), (a1, .inl (E.1, R1.1, .inr (.inl R1.2.1))), ((ad 3), .inr (0, [.int (nI 65536), .ref a3, .int (nI R3.2.2)])), (a3, .inl (E.1, R3.1, .inr (.inl R3.2.1)))] ++ va_pl LP pf) sz)) (va_A ([(h0, .inr (2, [.ref (ad 0), .ref (ad 1), .ref (ad 2), .ref (ad 3), .ref (ad 4), .ref (ad 5), .int sn])), ((ad 1), .inr (0, [.int (nI 16384), .ref a1, .int (nI R1.2.2)])), (a1, .inl (E.1, R1.1, .inr (.inl R1.2.1))), ((ad 3), .inr (0, [.int (nI 65536), .ref a3, .int (nI R3.2.2)])), (a3, .inl (E.1, R3.1, .inr (.inl R3.2.1)))] ++ va_pl LP pf) sz)) 0 0 (va_A ([(h0, .inr (2, [.ref (ad 0), .ref (ad 1), .ref (ad 2), .ref (ad 3), .ref (ad 4), .ref (ad 5), .int sn])), ((ad 1), .inr (0, [.int (nI 16384), .ref a1, .int (nI R1.2.2)])), (a1, .inl (E.1, R1.1, .inr (.inl R1.2.1))), ((ad 3), .inr (0, [.int (nI 65536), .ref a3, .int (nI R3.2.2)])), (a3, .inl (E.1, R3.1, .inr (.inl R3.2.1)))] ++ va_pl LP pf) sz) := by
  refine wr_ofW (y := y_P_orderPlaces) (cc := c_P_orderPlaces) (maxL := 3) (ws := ([(h0, .inr (2, [.ref (ad 0), .ref (ad 1), .ref (ad 2), .ref (ad 3), .ref (ad 4), .ref (ad 5), .int sn])), ((ad 1), .inr (0, [.int (nI 16384), .ref a1, .int (nI R1.2.2)])), (a1, .inl (E.1, R1.1, .inr (.inl R1.2.1))), ((ad 3), .inr (0, [.int (nI 65536), .ref a3, .int (nI R3.2.2)])), (a3, .inl (E.1, R3.1, .inr (.inl R3.2.1)))] ++ va_pl LP pf)) (sz := sz) (av := [.ref h0, .ref y, .int (nI b)]) (Qc := fun A => (va_Qv (fun (u : Unit) => True) (wB D (fun _ => ([(h0, .inr (2, [.ref (ad 0), .ref (ad 1), .ref (ad 2), .ref (ad 3), .ref (ad 4), .ref (ad 5), .int sn])), ((ad 1), .inr (0, [.int (nI 16384), .ref a1, .int (nI R1.2.2)])), (a1, .inl (E.1, R1.1, .inr (.inl R1.2.1))), ((ad 3), .inr (0, [.int (nI 65536), .ref a3, .int (nI (op_all q R1 R3 b).2.2)])), (a3, .inl (E.1, (op_all q R1 R3 b).1, .inr (.inl ((op_all q R1 R3 b).2.1))))] ++ va_pl LP pf)) A) A)) (by decide) (Nat.le_of_ble_eq_true rfl) ?_
  intro p e s m below meth c B hP hK A hA hD hS ls hl
  obtain ⟨hx, hb, hrt, hml, hown, hts, hG, hlocks, hin⟩ := B
  have hl : lv_has ls 3 [(0, .ref h0), (1, .ref y), (2, .int (nI b))] := hl
  obtain ⟨q31, q32, q33⟩ := id ho3
  refine lv_aload_n hx hb d_P_orderPlaces_0 rfl (lv_at hl 1 rfl) ?_
  have hPc : va_P D vwC [(y, .inr (1, sgF q))] s.heap := pl_one (X := [(h0, .inr (2, [.ref (ad 0), .ref (ad 1), .ref (ad 2), .ref (ad 3), .ref (ad 4), .ref (ad 5), .int sn])), ((ad 1), .inr (0, [.int (nI 16384), .ref a1, .int (nI R1.2.2)])), (a1, .inl (E.1, R1.1, .inr (.inl R1.2.1))), ((ad 3), .inr (0, [.int (nI 65536), .ref a3, .int (nI R3.2.2)])), (a3, .inl (E.1, R3.1, .inr (.inl R3.2.1)))]) hP hy hfy
  refine vp_callSi (W.runV (As := []) (rest := []) ⟨hx, hb, hml, hown, hts⟩ (k_S_goesLeft l D E y q) (cwV 0 hts (gw_gv wd_512 wd_513 wd_514 wd_48 wd_515) rfl rfl rfl (by decide +kernel) ⟨Nat.le_of_ble_eq_true rfl, Nat.le_of_ble_eq_true rfl⟩) (rP_V 0 hPc hK rfl rfl) rfl rfl hl.1 rfl (lv_room (Nat.le_of_ble_eq_true rfl)) d_P_orderPlaces_1 ⟨Nat.le_of_ble_eq_true rfl, Nat.le_of_ble_eq_true rfl⟩) (fun r1 hr1 => ?_)
  have J : ∀ (H : Heap) (locs : List Loc) (ls : Array Slot), va_P D vwC ([(h0, .inr (2, [.ref (ad 0), .ref (ad 1), .ref (ad 2), .ref (ad 3), .ref (ad 4), .ref (ad 5), .int sn])), ((ad 1), .inr (0, [.int (nI 16384), .ref a1, .int (nI R1.2.2)])), (a1, .inl (E.1, R1.1, .inr (.inl R1.2.1))), ((ad 3), .inr (0, [.int (nI 65536), .ref a3, .int (nI (op_a q R3 b).2.2)])), (a3, .inl (E.1, (op_a q R3 b).1, .inr (.inl ((op_a q R3 b).2.1))))] ++ va_pl LP pf) H → va_D A ([(h0, .inr (2, [.ref (ad 0), .ref (ad 1), .ref (ad 2), .ref (ad 3), .ref (ad 4), .ref (ad 5), .int sn])), ((ad 1), .inr (0, [.int (nI 16384), .ref a1, .int (nI R1.2.2)])), (a1, .inl (E.1, R1.1, .inr (.inl R1.2.1))), ((ad 3), .inr (0, [.int (nI 65536), .ref a3, .int (nI (op_a q R3 b).2.2)])), (a3, .inl (E.1, (op_a q R3 b).1, .inr (.inl ((op_a q R3 b).2.1))))] ++ va_pl LP pf) → va_S A s.heap H locs → lv_has ls 3 [(0, .ref h0), (1, .ref y), (2, .int (nI b))] → W p l e ({ frames := 4, cells := 0, slots := 0, locals := 100 } : Room) s m ([.ref h0, .ref y, .int (nI b)] : List Value).toArray below meth c H locs 0 0 (MQ below (va_Qv (fun (u : Unit) => True) (wB D (fun _ => ([(h0, .inr (2, [.ref (ad 0), .ref (ad 1), .ref (ad 2), .ref (ad 3), .ref (ad 4), .ref (ad 5), .int sn])), ((ad 1), .inr (0, [.int (nI 16384), .ref a1, .int (nI R1.2.2)])), (a1, .inl (E.1, R1.1, .inr (.inl R1.2.1))), ((ad 3), .inr (0, [.int (nI 65536), .ref a3, .int (nI (op_all q R1 R3 b).2.2)])), (a3, .inl (E.1, (op_all q R1 R3 b).1, .inr (.inl ((op_all q R1 R3 b).2.1))))] ++ va_pl LP pf)) A) A) ([.ref h0, .ref y, .int (nI b)] : List Value).toArray s 0 0 A) (F0 m 22 ls []) := by
    intro H locs ls hP hD hS hl
    obtain ⟨m1, m2, m3⟩ := op_a_ok (q := q) (b := b) ho3
    refine lv_aload_n hx hb d_P_orderPlaces_22 rfl (lv_at hl 1 rfl) ?_
    have hPc : va_P D vwC [(y, .inr (1, sgF q))] H := pl_one (X := [(h0, .inr (2, [.ref (ad 0), .ref (ad 1), .ref (ad 2), .ref (ad 3), .ref (ad 4), .ref (ad 5), .int sn])), ((ad 1), .inr (0, [.int (nI 16384), .ref a1, .int (nI R1.2.2)])), (a1, .inl (E.1, R1.1, .inr (.inl R1.2.1))), ((ad 3), .inr (0, [.int (nI 65536), .ref a3, .int (nI (op_a q R3 b).2.2)])), (a3, .inl (E.1, (op_a q R3 b).1, .inr (.inl ((op_a q R3 b).2.1))))]) hP hy hfy
    refine vp_callSi (W.runV (As := []) (rest := []) ⟨hx, hb, hml, hown, hts⟩ (k_S_goesLeft l D E y q) (cwV 0 hts (gw_gv wd_512 wd_513 wd_514 wd_48 wd_515) rfl rfl rfl (by decide +kernel) ⟨Nat.le_of_ble_eq_true rfl, Nat.le_of_ble_eq_true rfl⟩) (rP_V 0 hPc hK rfl rfl) rfl rfl hl.1 rfl (lv_room (Nat.le_of_ble_eq_true rfl)) d_P_orderPlaces_23 ⟨Nat.le_of_ble_eq_true rfl, Nat.le_of_ble_eq_true rfl⟩) (fun r2 hr2 => ?_)
    refine lv_aload_n hx hb d_P_orderPlaces_26 rfl (lv_at hl 1 rfl) ?_
    have hPc : va_P D vwC [(y, .inr (1, sgF q))] H := pl_one (X := [(h0, .inr (2, [.ref (ad 0), .ref (ad 1), .ref (ad 2), .ref (ad 3), .ref (ad 4), .ref (ad 5), .int sn])), ((ad 1), .inr (0, [.int (nI 16384), .ref a1, .int (nI R1.2.2)])), (a1, .inl (E.1, R1.1, .inr (.inl R1.2.1))), ((ad 3), .inr (0, [.int (nI 65536), .ref a3, .int (nI (op_a q R3 b).2.2)])), (a3, .inl (E.1, (op_a q R3 b).1, .inr (.inl ((op_a q R3 b).2.1))))]) hP hy hfy
    refine vp_callSi (W.runV (As := []) (rest := [.int r2]) ⟨hx, hb, hml, hown, hts⟩ (k_S_goesDown l D E y q) (cwV 0 hts (gw_gv wd_520 wd_521 wd_522 wd_48 wd_523) rfl rfl rfl (by decide +kernel) ⟨Nat.le_of_ble_eq_true rfl, Nat.le_of_ble_eq_true rfl⟩) (rP_V 0 hPc hK rfl rfl) rfl rfl hl.1 rfl (lv_room (Nat.le_of_ble_eq_true rfl)) d_P_orderPlaces_27 ⟨Nat.le_of_ble_eq_true rfl, Nat.le_of_ble_eq_true rfl⟩) (fun r3 hr3 => ?_)
    rw [hr2, hr3]
    refine lv_icmp_eq (tgt := 38) hx hb d_P_orderPlaces_30 (by decide) (fun c1 => ?_) (fun c1 => ?_)
    · rw [show op_all q R1 R3 b = op_a q R3 b from if_pos c1]
      exact W.vret hx hb hrt (fun t ht hW => ⟨⟨(), rfl, trivial, ⟨by rw [ht]; exact hP, hD⟩⟩, hS.F ht⟩) hS.2.2 d_P_orderPlaces_38 hlocks
    · rw [show op_all q R1 R3 b = tc_all R1 (op_a q R3 b) b from if_neg c1]
      refine lv_aload_n hx hb d_P_orderPlaces_33 rfl (lv_at hl 0 rfl) ?_
      refine lv_iload_n hx hb d_P_orderPlaces_34 rfl (lv_at hl 2 rfl) ?_
      have hPc := hP.sub (ws' := [(h0, .inr (2, [.ref (ad 0), .ref (ad 1), .ref (ad 2), .ref (ad 3), .ref (ad 4), .ref (ad 5), .int sn])), ((ad 1), .inr (0, [.int (nI 16384), .ref a1, .int (nI R1.2.2)])), (a1, .inl (E.1, R1.1, .inr (.inl R1.2.1))), ((ad 3), .inr (0, [.int (nI 65536), .ref a3, .int (nI (op_a q R3 b).2.2)])), (a3, .inl (E.1, (op_a q R3 b).1, .inr (.inl ((op_a q R3 b).2.1))))]) [0, 1, 2, 3, 4] rfl
      have hDc := hD.sub (ws' := [(h0, .inr (2, [.ref (ad 0), .ref (ad 1), .ref (ad 2), .ref (ad 3), .ref (ad 4), .ref (ad 5), .int sn])), ((ad 1), .inr (0, [.int (nI 16384), .ref a1, .int (nI R1.2.2)])), (a1, .inl (E.1, R1.1, .inr (.inl R1.2.1))), ((ad 3), .inr (0, [.int (nI 65536), .ref a3, .int (nI (op_a q R3 b).2.2)])), (a3, .inl (E.1, (op_a q R3 b).1, .inr (.inl ((op_a q R3 b).2.1))))]) [0, 1, 2, 3, 4] (by decide) rfl
      have hFc := va_free (wc := [(h0, .inr (2, [.ref (ad 0), .ref (ad 1), .ref (ad 2), .ref (ad 3), .ref (ad 4), .ref (ad 5), .int sn])), ((ad 1), .inr (0, [.int (nI 16384), .ref a1, .int (nI R1.2.2)])), (a1, .inl (E.1, R1.1, .inr (.inl R1.2.1))), ((ad 3), .inr (0, [.int (nI 65536), .ref a3, .int (nI (op_a q R3 b).2.2)])), (a3, .inl (E.1, (op_a q R3 b).1, .inr (.inl ((op_a q R3 b).2.1))))]) hD hS hA [0, 1, 2, 3, 4] rfl
      refine va_callv (va_runV (As := [.int (nI b)]) (rest := []) ⟨hx, hb, hml, hown, hts⟩ (k_P_turnColumnsRound l D E h0 H.size a1 a3 ad sn R1 (op_a q R3 b) ho1 m1 b (by omega)) (cwV 1 hts (gw_gv wd_524 wd_526 wd_16 wd_37 wd_527) rfl rfl rfl (by decide +kernel) ⟨Nat.le_of_ble_eq_true rfl, Nat.le_of_ble_eq_true rfl⟩) (wP_V 0 hPc hK hDc rfl rfl) rfl rfl hl.1 rfl (lv_room (Nat.le_of_ble_eq_true rfl)) d_P_orderPlaces_35 ⟨Nat.le_of_ble_eq_true rfl, Nat.le_of_ble_eq_true rfl⟩) hS (fun q _ h => hFc q h) hFc (fun u9 t H1 locs ht hvm hw hB hz1 hk1 hS => ?_)
      obtain ⟨hP1, hD1⟩ := hB
      rw [ht] at hP1
      obtain ⟨hP, hD⟩ := va_joinQ (X := [(h0, .inr (2, [.ref (ad 0), .ref (ad 1), .ref (ad 2), .ref (ad 3), .ref (ad 4), .ref (ad 5), .int sn])), ((ad 1), .inr (0, [.int (nI 16384), .ref a1, .int (nI R1.2.2)])), (a1, .inl (E.1, R1.1, .inr (.inl R1.2.1))), ((ad 3), .inr (0, [.int (nI 65536), .ref a3, .int (nI (op_a q R3 b).2.2)])), (a3, .inl (E.1, (op_a q R3 b).1, .inr (.inl ((op_a q R3 b).2.1))))]) (cx := [(h0, .inr (2, [.ref (ad 0), .ref (ad 1), .ref (ad 2), .ref (ad 3), .ref (ad 4), .ref (ad 5), .int sn])), ((ad 1), .inr (0, [.int (nI 16384), .ref a1, .int (nI R1.2.2)])), (a1, .inl (E.1, R1.1, .inr (.inl R1.2.1))), ((ad 3), .inr (0, [.int (nI 65536), .ref a3, .int (nI (op_a q R3 b).2.2)])), (a3, .inl (E.1, (op_a q R3 b).1, .inr (.inl ((op_a q R3 b).2.1))))]) (wr := []) (w1 := [(h0, .inr (2, [.ref (ad 0), .ref (ad 1), .ref (ad 2), .ref (ad 3), .ref (ad 4), .ref (ad 5), .int sn])), ((ad 1), .inr (0, [.int (nI 16384), .ref a1, .int (nI R1.2.2)])), (a1, .inl (E.1, R1.1, .inr (.inl R1.2.1))), ((ad 3), .inr (0, [.int (nI 65536), .ref a3, .int (nI (tc_all R1 (op_a q R3 b) b).2.2)])), (a3, .inl (E.1, (tc_all R1 (op_a q R3 b) b).1, .inr (.inl ((tc_all R1 (op_a q R3 b) b).2.1))))]) (pl := va_pl LP pf) hP hD [0, 1, 2, 3, 4] [] rfl rfl (by decide) (by decide) hk1 hFc hP1 hD1
      generalize H1 = H at hP hS ⊢
      have hP : va_P D vwC ([(h0, .inr (2, [.ref (ad 0), .ref (ad 1), .ref (ad 2), .ref (ad 3), .ref (ad 4), .ref (ad 5), .int sn])), ((ad 1), .inr (0, [.int (nI 16384), .ref a1, .int (nI R1.2.2)])), (a1, .inl (E.1, R1.1, .inr (.inl R1.2.1))), ((ad 3), .inr (0, [.int (nI 65536), .ref a3, .int (nI (tc_all R1 (op_a q R3 b) b).2.2)])), (a3, .inl (E.1, (tc_all R1 (op_a q R3 b) b).1, .inr (.inl ((tc_all R1 (op_a q R3 b) b).2.1))))] ++ va_pl LP pf) H := hP
      have hD : va_D A ([(h0, .inr (2, [.ref (ad 0), .ref (ad 1), .ref (ad 2), .ref (ad 3), .ref (ad 4), .ref (ad 5), .int sn])), ((ad 1), .inr (0, [.int (nI 16384), .ref a1, .int (nI R1.2.2)])), (a1, .inl (E.1, R1.1, .inr (.inl R1.2.1))), ((ad 3), .inr (0, [.int (nI 65536), .ref a3, .int (nI (tc_all R1 (op_a q R3 b) b).2.2)])), (a3, .inl (E.1, (tc_all R1 (op_a q R3 b) b).1, .inr (.inl ((tc_all R1 (op_a q R3 b) b).2.1))))] ++ va_pl LP pf) := hD
      exact W.vret hx hb hrt (fun t ht hW => ⟨⟨(), rfl, trivial, ⟨by rw [ht]; exact hP, hD⟩⟩, hS.F ht⟩) hS.2.2 d_P_orderPlaces_38 hlocks
  refine lv_if_eq (tgt := 22) hx hb d_P_orderPlaces_4 (by decide) (fun c1 => ?_) (fun c1 => ?_)
  · have g : ¬ swx q < 0 := fun g => absurd c1 (by rw [hr1, if_pos g]; decide)
    have ea : op_a q R3 b = R3 := if_neg g
    exact J _ _ ls (by rw [ea]; exact hP) (by rw [ea]; exact hD) hS (lv_sub hl [0, 1, 2] rfl)
  · have g : swx q < 0 := Classical.byContradiction (fun g => c1 (by rw [hr1, if_neg g]))
    have ea : op_a q R3 b = (R3.1, ps_turn R3.2.1 b R3.2.2, R3.2.2) := if_pos g
    refine lv_aload_n hx hb d_P_orderPlaces_7 rfl (lv_at hl 0 rfl) ?_
    refine va_get (D := D) (ci := 2) (v := .ref (ad 3)) (C := K_P) (T := F_P) (N := 7) hx hb hG in_P hown hK.1 hP 0 rfl rfl 3 (by decide) (hG _ wd_112) (fun _ h9 => h9) rfl d_P_orderPlaces_8 ?_
    refine lv_iload_n hx hb d_P_orderPlaces_11 rfl (lv_at hl 2 rfl) ?_
    refine lv_aload_n hx hb d_P_orderPlaces_12 rfl (lv_at hl 0 rfl) ?_
    refine va_get (D := D) (ci := 2) (v := .ref (ad 3)) (C := K_P) (T := F_P) (N := 7) hx hb hG in_P hown hK.1 hP 0 rfl rfl 3 (by decide) (hG _ wd_112) (fun _ h9 => h9) rfl d_P_orderPlaces_13 ?_
    have hPc := hP.sub (ws' := [((ad 3), .inr (0, [.int (nI 65536), .ref a3, .int (nI R3.2.2)]))]) [3] rfl
    refine vp_callSi (W.runV (As := []) (rest := [.int (nI b), .ref (ad 3)]) ⟨hx, hb, hml, hown, hts⟩ (k_R_size l D E (ad 3) a3 (nI 65536) (nI R3.2.2)) (cwV 0 hts (gw_gv wd_155 wd_156 wd_157 wd_41 wd_158) rfl rfl rfl (by decide +kernel) ⟨Nat.le_of_ble_eq_true rfl, Nat.le_of_ble_eq_true rfl⟩) (rP_V 0 hPc hK rfl rfl) rfl rfl hl.1 rfl (lv_room (Nat.le_of_ble_eq_true rfl)) d_P_orderPlaces_16 ⟨Nat.le_of_ble_eq_true rfl, Nat.le_of_ble_eq_true rfl⟩) (fun r4 hr4 => ?_)
    subst hr4
    have hPc := hP.sub (ws' := [((ad 3), .inr (0, [.int (nI 65536), .ref a3, .int (nI R3.2.2)])), (a3, .inl (E.1, R3.1, .inr (.inl R3.2.1)))]) [3, 4] rfl
    have hDc := hD.sub (ws' := [((ad 3), .inr (0, [.int (nI 65536), .ref a3, .int (nI R3.2.2)])), (a3, .inl (E.1, R3.1, .inr (.inl R3.2.1)))]) [3, 4] (by decide) rfl
    have hFc := va_free (wc := [((ad 3), .inr (0, [.int (nI 65536), .ref a3, .int (nI R3.2.2)])), (a3, .inl (E.1, R3.1, .inr (.inl R3.2.1)))]) hD hS hA [3, 4] rfl
    refine va_callv (va_runV (As := [.int (nI b), .int (nI R3.2.2)]) (rest := []) ⟨hx, hb, hml, hown, hts⟩ (k_R_turnRound l D E (ad 3) a3 s.heap.size (nI 65536) R3.2.2 R3.1 b R3.2.2 R3.2.1 q32 (by omega) (Nat.le_refl _) hb0) (cwV 2 hts (gw_gv wd_516 wd_517 wd_518 wd_41 wd_519) rfl rfl rfl (by decide +kernel) ⟨Nat.le_of_ble_eq_true rfl, Nat.le_of_ble_eq_true rfl⟩) (wP_V 0 hPc hK hDc rfl rfl) rfl rfl hl.1 rfl (lv_room (Nat.le_of_ble_eq_true rfl)) d_P_orderPlaces_19 ⟨Nat.le_of_ble_eq_true rfl, Nat.le_of_ble_eq_true rfl⟩) hS (fun q _ h => hFc q h) hFc (fun u9 t H1 locs ht hvm hw hB hz1 hk1 hS => ?_)
    obtain ⟨hP1, hD1⟩ := hB
    rw [ht] at hP1
    obtain ⟨hP, hD⟩ := va_joinQ (X := [(h0, .inr (2, [.ref (ad 0), .ref (ad 1), .ref (ad 2), .ref (ad 3), .ref (ad 4), .ref (ad 5), .int sn])), ((ad 1), .inr (0, [.int (nI 16384), .ref a1, .int (nI R1.2.2)])), (a1, .inl (E.1, R1.1, .inr (.inl R1.2.1))), ((ad 3), .inr (0, [.int (nI 65536), .ref a3, .int (nI R3.2.2)])), (a3, .inl (E.1, R3.1, .inr (.inl R3.2.1)))]) (cx := [((ad 3), .inr (0, [.int (nI 65536), .ref a3, .int (nI R3.2.2)])), (a3, .inl (E.1, R3.1, .inr (.inl R3.2.1)))]) (wr := [(h0, .inr (2, [.ref (ad 0), .ref (ad 1), .ref (ad 2), .ref (ad 3), .ref (ad 4), .ref (ad 5), .int sn])), ((ad 1), .inr (0, [.int (nI 16384), .ref a1, .int (nI R1.2.2)])), (a1, .inl (E.1, R1.1, .inr (.inl R1.2.1)))]) (w1 := [((ad 3), .inr (0, [.int (nI 65536), .ref a3, .int (nI (R3.1, ps_turn R3.2.1 b R3.2.2, R3.2.2).2.2)])), (a3, .inl (E.1, (R3.1, ps_turn R3.2.1 b R3.2.2, R3.2.2).1, .inr (.inl ((R3.1, ps_turn R3.2.1 b R3.2.2, R3.2.2).2.1))))]) (pl := va_pl LP pf) hP hD [3, 4] [0, 1, 2] rfl rfl (by decide) (by decide) hk1 hFc hP1 hD1
    generalize H1 = H at hP hS ⊢
    have hP : va_P D vwC ([(h0, .inr (2, [.ref (ad 0), .ref (ad 1), .ref (ad 2), .ref (ad 3), .ref (ad 4), .ref (ad 5), .int sn])), ((ad 1), .inr (0, [.int (nI 16384), .ref a1, .int (nI R1.2.2)])), (a1, .inl (E.1, R1.1, .inr (.inl R1.2.1))), ((ad 3), .inr (0, [.int (nI 65536), .ref a3, .int (nI (R3.1, ps_turn R3.2.1 b R3.2.2, R3.2.2).2.2)])), (a3, .inl (E.1, (R3.1, ps_turn R3.2.1 b R3.2.2, R3.2.2).1, .inr (.inl ((R3.1, ps_turn R3.2.1 b R3.2.2, R3.2.2).2.1))))] ++ va_pl LP pf) H := hP
    have hD : va_D A ([(h0, .inr (2, [.ref (ad 0), .ref (ad 1), .ref (ad 2), .ref (ad 3), .ref (ad 4), .ref (ad 5), .int sn])), ((ad 1), .inr (0, [.int (nI 16384), .ref a1, .int (nI R1.2.2)])), (a1, .inl (E.1, R1.1, .inr (.inl R1.2.1))), ((ad 3), .inr (0, [.int (nI 65536), .ref a3, .int (nI (R3.1, ps_turn R3.2.1 b R3.2.2, R3.2.2).2.2)])), (a3, .inl (E.1, (R3.1, ps_turn R3.2.1 b R3.2.2, R3.2.2).1, .inr (.inl ((R3.1, ps_turn R3.2.1 b R3.2.2, R3.2.2).2.1))))] ++ va_pl LP pf) := hD
    exact J _ _ ls (by rw [ea]; exact hP) (by rw [ea]; exact hD) hS (lv_sub hl [0, 1, 2] rfl)
end
