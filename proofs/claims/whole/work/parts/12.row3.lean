theorem d_R_sink_0 : decode c_R_sink 0 = .ok (.iload_n 3, 1) := by decide +kernel
theorem d_R_sink_1 : decode c_R_sink 1 = .ok (.istore 5, 2) := by decide +kernel
theorem d_R_sink_3 : decode c_R_sink 3 = .ok (.iconst 2, 1) := by decide +kernel
theorem d_R_sink_4 : decode c_R_sink 4 = .ok (.iload 5, 2) := by decide +kernel
theorem d_R_sink_6 : decode c_R_sink 6 = .ok (.imul, 1) := by decide +kernel
theorem d_R_sink_7 : decode c_R_sink 7 = .ok (.iconst 1, 1) := by decide +kernel
theorem d_R_sink_8 : decode c_R_sink 8 = .ok (.iadd, 1) := by decide +kernel
theorem d_R_sink_9 : decode c_R_sink 9 = .ok (.iload 4, 2) := by decide +kernel
theorem d_R_sink_11 : decode c_R_sink 11 = .ok (.if_icmp .ge 79, 3) := by decide +kernel
theorem d_R_sink_14 : decode c_R_sink 14 = .ok (.iconst 2, 1) := by decide +kernel
theorem d_R_sink_15 : decode c_R_sink 15 = .ok (.iload 5, 2) := by decide +kernel
theorem d_R_sink_17 : decode c_R_sink 17 = .ok (.imul, 1) := by decide +kernel
theorem d_R_sink_18 : decode c_R_sink 18 = .ok (.iconst 1, 1) := by decide +kernel
theorem d_R_sink_19 : decode c_R_sink 19 = .ok (.iadd, 1) := by decide +kernel
theorem d_R_sink_20 : decode c_R_sink 20 = .ok (.istore 6, 2) := by decide +kernel
theorem d_R_sink_22 : decode c_R_sink 22 = .ok (.iload 6, 2) := by decide +kernel
theorem d_R_sink_24 : decode c_R_sink 24 = .ok (.iconst 1, 1) := by decide +kernel
theorem d_R_sink_25 : decode c_R_sink 25 = .ok (.iadd, 1) := by decide +kernel
theorem d_R_sink_26 : decode c_R_sink 26 = .ok (.iload 4, 2) := by decide +kernel
theorem d_R_sink_28 : decode c_R_sink 28 = .ok (.if_icmp .ge 26, 3) := by decide +kernel
theorem d_R_sink_31 : decode c_R_sink 31 = .ok (.aload_n 0, 1) := by decide +kernel
theorem d_R_sink_32 : decode c_R_sink 32 = .ok (.getfield 15, 3) := by decide +kernel
theorem d_R_sink_35 : decode c_R_sink 35 = .ok (.iload 6, 2) := by decide +kernel
theorem d_R_sink_37 : decode c_R_sink 37 = .ok (.iconst 1, 1) := by decide +kernel
theorem d_R_sink_38 : decode c_R_sink 38 = .ok (.iadd, 1) := by decide +kernel
theorem d_R_sink_39 : decode c_R_sink 39 = .ok (.laload, 1) := by decide +kernel
theorem d_R_sink_40 : decode c_R_sink 40 = .ok (.aload_n 0, 1) := by decide +kernel
theorem d_R_sink_41 : decode c_R_sink 41 = .ok (.getfield 15, 3) := by decide +kernel
theorem d_R_sink_44 : decode c_R_sink 44 = .ok (.iload 6, 2) := by decide +kernel
theorem d_R_sink_46 : decode c_R_sink 46 = .ok (.laload, 1) := by decide +kernel
theorem d_R_sink_47 : decode c_R_sink 47 = .ok (.lcmp, 1) := by decide +kernel
theorem d_R_sink_48 : decode c_R_sink 48 = .ok (.ifCond .le 6, 3) := by decide +kernel
theorem d_R_sink_51 : decode c_R_sink 51 = .ok (.iinc 6 1, 3) := by decide +kernel
theorem d_R_sink_54 : decode c_R_sink 54 = .ok (.aload_n 0, 1) := by decide +kernel
theorem d_R_sink_55 : decode c_R_sink 55 = .ok (.getfield 15, 3) := by decide +kernel
theorem d_R_sink_58 : decode c_R_sink 58 = .ok (.iload 6, 2) := by decide +kernel
theorem d_R_sink_60 : decode c_R_sink 60 = .ok (.laload, 1) := by decide +kernel
theorem d_R_sink_61 : decode c_R_sink 61 = .ok (.lload_n 1, 1) := by decide +kernel
theorem d_R_sink_62 : decode c_R_sink 62 = .ok (.lcmp, 1) := by decide +kernel
theorem d_R_sink_63 : decode c_R_sink 63 = .ok (.ifCond .gt 6, 3) := by decide +kernel
theorem d_R_sink_66 : decode c_R_sink 66 = .ok (.goto 24, 3) := by decide +kernel
theorem d_R_sink_69 : decode c_R_sink 69 = .ok (.aload_n 0, 1) := by decide +kernel
theorem d_R_sink_70 : decode c_R_sink 70 = .ok (.getfield 15, 3) := by decide +kernel
theorem d_R_sink_73 : decode c_R_sink 73 = .ok (.iload 5, 2) := by decide +kernel
theorem d_R_sink_75 : decode c_R_sink 75 = .ok (.aload_n 0, 1) := by decide +kernel
theorem d_R_sink_76 : decode c_R_sink 76 = .ok (.getfield 15, 3) := by decide +kernel
theorem d_R_sink_79 : decode c_R_sink 79 = .ok (.iload 6, 2) := by decide +kernel
theorem d_R_sink_81 : decode c_R_sink 81 = .ok (.laload, 1) := by decide +kernel
theorem d_R_sink_82 : decode c_R_sink 82 = .ok (.lastore, 1) := by decide +kernel
theorem d_R_sink_83 : decode c_R_sink 83 = .ok (.iload 6, 2) := by decide +kernel
theorem d_R_sink_85 : decode c_R_sink 85 = .ok (.istore 5, 2) := by decide +kernel
theorem d_R_sink_87 : decode c_R_sink 87 = .ok (.goto (-84), 3) := by decide +kernel
theorem d_R_sink_90 : decode c_R_sink 90 = .ok (.aload_n 0, 1) := by decide +kernel
theorem d_R_sink_91 : decode c_R_sink 91 = .ok (.getfield 15, 3) := by decide +kernel
theorem d_R_sink_94 : decode c_R_sink 94 = .ok (.iload 5, 2) := by decide +kernel
theorem d_R_sink_96 : decode c_R_sink 96 = .ok (.lload_n 1, 1) := by decide +kernel
theorem d_R_sink_97 : decode c_R_sink 97 = .ok (.lastore, 1) := by decide +kernel
theorem d_R_sink_98 : decode c_R_sink 98 = .ok (.return_, 1) := by decide +kernel
theorem d_R_turnRound_0 : decode c_R_turnRound 0 = .ok (.iload_n 1, 1) := by decide +kernel
theorem d_R_turnRound_1 : decode c_R_turnRound 1 = .ok (.istore_n 3, 1) := by decide +kernel
theorem d_R_turnRound_2 : decode c_R_turnRound 2 = .ok (.iload_n 2, 1) := by decide +kernel
theorem d_R_turnRound_3 : decode c_R_turnRound 3 = .ok (.iconst 1, 1) := by decide +kernel
theorem d_R_turnRound_4 : decode c_R_turnRound 4 = .ok (.isub, 1) := by decide +kernel
theorem d_R_turnRound_5 : decode c_R_turnRound 5 = .ok (.istore 4, 2) := by decide +kernel
theorem d_R_turnRound_7 : decode c_R_turnRound 7 = .ok (.iload_n 3, 1) := by decide +kernel
theorem d_R_turnRound_8 : decode c_R_turnRound 8 = .ok (.iload 4, 2) := by decide +kernel
theorem d_R_turnRound_10 : decode c_R_turnRound 10 = .ok (.if_icmp .ge 59, 3) := by decide +kernel
theorem d_R_turnRound_13 : decode c_R_turnRound 13 = .ok (.aload_n 0, 1) := by decide +kernel
theorem d_R_turnRound_14 : decode c_R_turnRound 14 = .ok (.iload_n 3, 1) := by decide +kernel
theorem d_R_turnRound_15 : decode c_R_turnRound 15 = .ok (.invokevirtual 22, 3) := by decide +kernel
theorem d_R_turnRound_18 : decode c_R_turnRound 18 = .ok (.ifCond .eq 51, 3) := by decide +kernel
theorem d_R_turnRound_21 : decode c_R_turnRound 21 = .ok (.aload_n 0, 1) := by decide +kernel
theorem d_R_turnRound_22 : decode c_R_turnRound 22 = .ok (.iload 4, 2) := by decide +kernel
theorem d_R_turnRound_24 : decode c_R_turnRound 24 = .ok (.invokevirtual 22, 3) := by decide +kernel
theorem d_R_turnRound_27 : decode c_R_turnRound 27 = .ok (.ifCond .eq 42, 3) := by decide +kernel
theorem d_R_turnRound_30 : decode c_R_turnRound 30 = .ok (.aload_n 0, 1) := by decide +kernel
theorem d_R_turnRound_31 : decode c_R_turnRound 31 = .ok (.getfield 15, 3) := by decide +kernel
theorem d_R_turnRound_34 : decode c_R_turnRound 34 = .ok (.iload_n 3, 1) := by decide +kernel
theorem d_R_turnRound_35 : decode c_R_turnRound 35 = .ok (.laload, 1) := by decide +kernel
theorem d_R_turnRound_36 : decode c_R_turnRound 36 = .ok (.lstore 5, 2) := by decide +kernel
theorem d_R_turnRound_38 : decode c_R_turnRound 38 = .ok (.aload_n 0, 1) := by decide +kernel
theorem d_R_turnRound_39 : decode c_R_turnRound 39 = .ok (.getfield 15, 3) := by decide +kernel
theorem d_R_turnRound_42 : decode c_R_turnRound 42 = .ok (.iload_n 3, 1) := by decide +kernel
theorem d_R_turnRound_43 : decode c_R_turnRound 43 = .ok (.aload_n 0, 1) := by decide +kernel
theorem d_R_turnRound_44 : decode c_R_turnRound 44 = .ok (.getfield 15, 3) := by decide +kernel
theorem d_R_turnRound_47 : decode c_R_turnRound 47 = .ok (.iload 4, 2) := by decide +kernel
theorem d_R_turnRound_49 : decode c_R_turnRound 49 = .ok (.laload, 1) := by decide +kernel
theorem d_R_turnRound_50 : decode c_R_turnRound 50 = .ok (.lastore, 1) := by decide +kernel
theorem d_R_turnRound_51 : decode c_R_turnRound 51 = .ok (.aload_n 0, 1) := by decide +kernel
theorem d_R_turnRound_52 : decode c_R_turnRound 52 = .ok (.getfield 15, 3) := by decide +kernel
theorem d_R_turnRound_55 : decode c_R_turnRound 55 = .ok (.iload 4, 2) := by decide +kernel
theorem d_R_turnRound_57 : decode c_R_turnRound 57 = .ok (.lload 5, 2) := by decide +kernel
theorem d_R_turnRound_59 : decode c_R_turnRound 59 = .ok (.lastore, 1) := by decide +kernel
theorem d_R_turnRound_60 : decode c_R_turnRound 60 = .ok (.iinc 3 1, 3) := by decide +kernel
theorem d_R_turnRound_63 : decode c_R_turnRound 63 = .ok (.iinc 4 (-1), 3) := by decide +kernel
theorem d_R_turnRound_66 : decode c_R_turnRound 66 = .ok (.goto (-59), 3) := by decide +kernel
theorem d_R_turnRound_69 : decode c_R_turnRound 69 = .ok (.return_, 1) := by decide +kernel
theorem rw_has_in {i z : Nat} (h : i < z) (hz : z < 2 ^ 31) : rw_has (nI z) (nI i) = 1 := by
  unfold rw_has
  rw [if_neg (nI_pos (by omega)), if_neg (by rw [nI_leI (by omega) (by omega)]; omega)]
theorem iinc_p (a : Nat) : nI a + Int32.ofInt 1 = nI (a + 1) := nI_1 a
theorem iinc_m (a : Nat) : nI (a + 1) + Int32.ofInt (-1) = nI a := pk_m1 a
theorem nI_toI {y : Int32} {k : Nat} (h : y.toInt = (k : Int)) : y = nI k := by
  have hk := y.toInt_lt
  apply Int32.toInt.inj
  rw [h, nI_toInt (by omega)]
theorem dec_toI {k : Nat} (h : k < 2 ^ 31) : (nI k - 1).toInt = (k : Int) - 1 := by
  cases k with
  | zero => decide
  | succ k => rw [nI_pred, nI_toInt (by omega)]; omega
theorem iinc_toI {k : Nat} (h : k < 2 ^ 31) : (nI k + Int32.ofInt (-1)).toInt = (k : Int) - 1 := by
  cases k with
  | zero => decide
  | succ k => rw [iinc_m, nI_toInt (by omega)]; omega
theorem i2h (h : Nat) : (2 : Int32) * nI h + 1 = nI (2 * h + 1) := by
  rw [show (2 : Int32) = nI 2 from rfl, pk_mul, nI_1]
theorem nI_d1 {k : Nat} (h : 0 < k) : nI k - 1 = nI (k - 1) := by
  cases k with
  | zero => omega
  | succ k => exact nI_pred k
set_option maxHeartbeats 4000000 in
set_option maxRecDepth 100000 in
theorem k_R_turnRound (l : Launch) (D : va_G) (E : ClassId × ClassId × ClassId × ClassId) (h0 a sz : Nat) (most : Int32) (z n b e0 : Nat) (f : Nat → Int64) (hz : z ≤ n) (hn : n < 2 ^ 29) (he : e0 ≤ z) (hbe : b ≤ e0) : Met l y_R_turnRound (.code y_R_turnRound c_R_turnRound 7 none :: gw) ({ frames := 1, cells := 0, slots := 0, locals := 21 } : Room) (wP D E [(h0, .inr (0, [.int most, .ref a, .int (nI z)])), (a, .inl (E.1, n, .inr (.inl f)))] sz [.ref h0, .int (nI b), .int (nI e0)]) (va_Qv (fun (u : Unit) => True) (wB D (fun _ => [(h0, .inr (0, [.int most, .ref a, .int (nI z)])), (a, .inl (E.1, n, .inr (.inl (ps_turn f b e0))))]) (va_A [(h0, .inr (0, [.int most, .ref a, .int (nI z)])), (a, .inl (E.1, n, .inr (.inl f)))] sz)) (va_A [(h0, .inr (0, [.int most, .ref a, .int (nI z)])), (a, .inl (E.1, n, .inr (.inl f)))] sz)) 0 0 (va_A [(h0, .inr (0, [.int most, .ref a, .int (nI z)])), (a, .inl (E.1, n, .inr (.inl f)))] sz) := by
  refine wr_ofW (Qc := fun A => (va_Qv (fun (u : Unit) => True) (wB D (fun _ => [(h0, .inr (0, [.int most, .ref a, .int (nI z)])), (a, .inl (E.1, n, .inr (.inl (ps_turn f b e0))))]) A) A)) (by decide) (Nat.le_of_ble_eq_true rfl) ?_
  intro p e s m below meth c B hP hK A hA hD hS ls hl
  obtain ⟨hx, hb, hrt, hml, hown, hts, hG, hlocks, hin⟩ := B
  have hl : lv_has ls 7 [(0, .ref h0), (1, .int (nI b)), (2, .int (nI e0))] := hl
  refine lv_iload_n hx hb d_R_turnRound_0 rfl (lv_at hl 1 rfl) ?_
  refine lv_istore_n (lv' := [(3, .int (nI b)), (0, .ref h0), (1, .int (nI b)), (2, .int (nI e0))]) hx hb d_R_turnRound_1 rfl hl (by decide) rfl (fun ls hl => ?_)
  refine lv_iload_n hx hb d_R_turnRound_2 rfl (lv_at hl 3 rfl) ?_
  refine lv_iconst (v := 1) hx hb d_R_turnRound_3 (by decide) ?_
  refine lv_isub hx hb d_R_turnRound_4 ?_
  refine lv_istore (lv' := [(4, .int (nI e0 - 1)), (3, .int (nI b)), (0, .ref h0), (1, .int (nI b)), (2, .int (nI e0))]) hx hb d_R_turnRound_5 hl (by decide) rfl (fun ls hl => ?_)
  have loop : ∀ (fu : Nat) (lo : Nat) (eh : Nat) (y : Int32) (g : Nat → Int64) (H : Heap) (locs : List Loc) (ls : Array Slot), (eh ≤ z) → (y.toInt = (eh : Int) - 1) → (eh < lo + fu) → (ps_turn g lo eh = ps_turn f b e0) → (lo ≤ eh) → va_P D vwC [(h0, .inr (0, [.int most, .ref a, .int (nI z)])), (a, .inl (E.1, n, .inr (.inl g)))] H → va_D A [(h0, .inr (0, [.int most, .ref a, .int (nI z)])), (a, .inl (E.1, n, .inr (.inl g)))] → va_S A s.heap H locs → lv_has ls 7 [(0, .ref h0), (3, .int (nI lo)), (4, .int y)] → W p l e ({ frames := 1, cells := 0, slots := 0, locals := 21 } : Room) s m ([.ref h0, .int (nI b), .int (nI e0)] : List Value).toArray below meth c H locs 0 0 (MQ below (va_Qv (fun (u : Unit) => True) (wB D (fun _ => [(h0, .inr (0, [.int most, .ref a, .int (nI z)])), (a, .inl (E.1, n, .inr (.inl (ps_turn f b e0))))]) A) A) ([.ref h0, .int (nI b), .int (nI e0)] : List Value).toArray s 0 0 A) (F0 m 7 ls []) := by
    intro fu
    induction fu with
    | zero =>
      intro lo eh y g H locs ls h1 h2 h3 h4 h5 hP hD hS hl
      omega
    | succ fu ih =>
      intro lo eh y g H locs ls h1 h2 h3 h4 h5 hP hD hS hl
      refine lv_iload_n hx hb d_R_turnRound_7 rfl (lv_at hl 1 rfl) ?_
      refine lv_iload hx hb d_R_turnRound_8 (lv_at hl 2 rfl) ?_
      refine lv_icmp_ge (tgt := 69) hx hb d_R_turnRound_10 (by decide) (fun c1 => ?_) (fun c1 => ?_)
      · have q : eh ≤ lo + 1 := by rw [Int32.le_iff_toInt_le, h2, nI_toInt (by omega)] at c1; omega
        rw [ps_turn_end q] at h4
        subst h4
        exact W.vret hx hb hrt (fun t ht hW => ⟨⟨(), rfl, trivial, ⟨by rw [ht]; exact hP, hD⟩⟩, hS.F ht⟩) hS.2.2 d_R_turnRound_69 hlocks
      · have q : lo + 1 < eh := by rw [Int32.le_iff_toInt_le, h2, nI_toInt (by omega)] at c1; omega
        obtain ⟨hi, rfl⟩ : ∃ k, eh = k + 1 := ⟨eh - 1, by omega⟩
        obtain rfl : y = nI hi := nI_toI (by omega)
        refine lv_aload_n hx hb d_R_turnRound_13 rfl (lv_at hl 0 rfl) ?_
        refine lv_iload_n hx hb d_R_turnRound_14 rfl (lv_at hl 1 rfl) ?_
        have hPc := hP.sub (ws' := [(h0, .inr (0, [.int most, .ref a, .int (nI z)]))]) [0] rfl
        refine vp_callSi (W.runV (As := [.int (nI lo)]) (rest := []) ⟨hx, hb, hml, hown, hts⟩ (k_R_has l D E h0 a most (nI z) (nI lo)) (cwV 1 hts (gw_gv wd_487 wd_488 wd_489 wd_41 wd_490) rfl rfl rfl (by decide +kernel) ⟨Nat.le_of_ble_eq_true rfl, Nat.le_of_ble_eq_true rfl⟩) (rP_V 0 hPc hK rfl rfl) rfl rfl hl.1 rfl (lv_room (Nat.le_of_ble_eq_true rfl)) d_R_turnRound_15 ⟨Nat.le_of_ble_eq_true rfl, Nat.le_of_ble_eq_true rfl⟩) (fun r1 hr1 => ?_)
        rw [rw_has_in (by omega) (by omega)] at hr1
        subst hr1
        refine lv_if_eq (tgt := 69) hx hb d_R_turnRound_18 (by decide) (fun c2 => ?_) (fun c2 => ?_)
        · exact absurd c2 (by decide)
        · refine lv_aload_n hx hb d_R_turnRound_21 rfl (lv_at hl 0 rfl) ?_
          refine lv_iload hx hb d_R_turnRound_22 (lv_at hl 2 rfl) ?_
          have hPc := hP.sub (ws' := [(h0, .inr (0, [.int most, .ref a, .int (nI z)]))]) [0] rfl
          refine vp_callSi (W.runV (As := [.int (nI hi)]) (rest := []) ⟨hx, hb, hml, hown, hts⟩ (k_R_has l D E h0 a most (nI z) (nI hi)) (cwV 1 hts (gw_gv wd_487 wd_488 wd_489 wd_41 wd_490) rfl rfl rfl (by decide +kernel) ⟨Nat.le_of_ble_eq_true rfl, Nat.le_of_ble_eq_true rfl⟩) (rP_V 0 hPc hK rfl rfl) rfl rfl hl.1 rfl (lv_room (Nat.le_of_ble_eq_true rfl)) d_R_turnRound_24 ⟨Nat.le_of_ble_eq_true rfl, Nat.le_of_ble_eq_true rfl⟩) (fun r2 hr2 => ?_)
          rw [rw_has_in (by omega) (by omega)] at hr2
          subst hr2
          refine lv_if_eq (tgt := 69) hx hb d_R_turnRound_27 (by decide) (fun c3 => ?_) (fun c3 => ?_)
          · exact absurd c3 (by decide)
          · refine lv_aload_n hx hb d_R_turnRound_30 rfl (lv_at hl 0 rfl) ?_
            refine va_get (D := D) (ci := 0) (v := .ref a) (C := K_R) (T := F_R) (N := 3) hx hb hG in_R hown hK.1 hP 0 rfl rfl 1 (by decide) (hG _ wd_98) (fun _ h9 => h9) rfl d_R_turnRound_31 ?_
            refine lv_iload_n hx hb d_R_turnRound_34 rfl (lv_at hl 1 rfl) ?_
            refine va_lald hx hb hK.1 hP 1 0 rfl rfl (vp_in_nI (by omega) (by omega)) d_R_turnRound_35 ?_
            rw [show g (Int32.toNatClampNeg (nI lo)) = g lo from by rw [nI_clamp (by omega)]]
            refine lv_lstore (lv' := [(5, .long (g lo)), (0, .ref h0), (3, .int (nI lo)), (4, .int (nI hi))]) hx hb d_R_turnRound_36 hl (by decide) rfl (fun ls hl => ?_)
            refine lv_aload_n hx hb d_R_turnRound_38 rfl (lv_at hl 1 rfl) ?_
            refine va_get (D := D) (ci := 0) (v := .ref a) (C := K_R) (T := F_R) (N := 3) hx hb hG in_R hown hK.1 hP 0 rfl rfl 1 (by decide) (hG _ wd_98) (fun _ h9 => h9) rfl d_R_turnRound_39 ?_
            refine lv_iload_n hx hb d_R_turnRound_42 rfl (lv_at hl 2 rfl) ?_
            refine lv_aload_n hx hb d_R_turnRound_43 rfl (lv_at hl 1 rfl) ?_
            refine va_get (D := D) (ci := 0) (v := .ref a) (C := K_R) (T := F_R) (N := 3) hx hb hG in_R hown hK.1 hP 0 rfl rfl 1 (by decide) (hG _ wd_98) (fun _ h9 => h9) rfl d_R_turnRound_44 ?_
            refine lv_iload hx hb d_R_turnRound_47 (lv_at hl 3 rfl) ?_
            refine va_lald hx hb hK.1 hP 1 0 rfl rfl (vp_in_nI (by omega) (by omega)) d_R_turnRound_49 ?_
            rw [show g (Int32.toNatClampNeg (nI hi)) = g hi from by rw [nI_clamp (by omega)]]
            refine va_last hx hb hK.1 hP hD hS 1 0 rfl rfl (vp_in_nI (by omega) (by omega)) d_R_turnRound_50 (fun H locs hP hD hS => ?_)
            rw [show vp_updL g (Int32.toNatClampNeg (nI lo)) (g hi) = (vp_updL g lo (g hi)) from by rw [nI_clamp (by omega)]] at hP hD
            have hP : va_P D vwC [(h0, .inr (0, [.int most, .ref a, .int (nI z)])), (a, .inl (E.1, n, .inr (.inl (vp_updL g lo (g hi)))))] H := hP
            have hD : va_D A [(h0, .inr (0, [.int most, .ref a, .int (nI z)])), (a, .inl (E.1, n, .inr (.inl (vp_updL g lo (g hi)))))] := hD
            refine lv_aload_n hx hb d_R_turnRound_51 rfl (lv_at hl 1 rfl) ?_
            refine va_get (D := D) (ci := 0) (v := .ref a) (C := K_R) (T := F_R) (N := 3) hx hb hG in_R hown hK.1 hP 0 rfl rfl 1 (by decide) (hG _ wd_98) (fun _ h9 => h9) rfl d_R_turnRound_52 ?_
            refine lv_iload hx hb d_R_turnRound_55 (lv_at hl 3 rfl) ?_
            refine lv_lload hx hb d_R_turnRound_57 (lv_at hl 0 rfl) ?_
            refine va_last hx hb hK.1 hP hD hS 1 0 rfl rfl (vp_in_nI (by omega) (by omega)) d_R_turnRound_59 (fun H locs hP hD hS => ?_)
            rw [show vp_updL (vp_updL g lo (g hi)) (Int32.toNatClampNeg (nI hi)) (g lo) = (vp_updL (vp_updL g lo (g hi)) hi (g lo)) from by rw [nI_clamp (by omega)]] at hP hD
            have hP : va_P D vwC [(h0, .inr (0, [.int most, .ref a, .int (nI z)])), (a, .inl (E.1, n, .inr (.inl (vp_updL (vp_updL g lo (g hi)) hi (g lo)))))] H := hP
            have hD : va_D A [(h0, .inr (0, [.int most, .ref a, .int (nI z)])), (a, .inl (E.1, n, .inr (.inl (vp_updL (vp_updL g lo (g hi)) hi (g lo)))))] := hD
            refine lv_iinc (v := nI (lo + 1)) (lv' := [(3, .int (nI (lo + 1))), (5, .long (g lo)), (0, .ref h0), (4, .int (nI hi))]) hx hb d_R_turnRound_60 hl (k := 2) rfl (iinc_p lo) (by decide) rfl (fun ls hl => ?_)
            obtain ⟨y2, hy2⟩ : ∃ y2, y2 = nI hi + Int32.ofInt (-1) := ⟨_, rfl⟩
            refine lv_iinc (v := y2) (lv' := [(4, .int y2), (3, .int (nI (lo + 1))), (5, .long (g lo)), (0, .ref h0)]) hx hb d_R_turnRound_63 hl (k := 3) rfl hy2.symm (by decide) rfl (fun ls hl => ?_)
            refine lv_goto (tgt := 7) hx hb d_R_turnRound_66 (by decide) ?_
            exact ih (lo + 1) hi y2 _ H locs ls (by omega) (by rw [hy2, iinc_toI (by omega)]) (by omega) (by rw [← h4]; exact ps_turn_step (e := hi + 1) q) (by omega) hP hD hS (lv_sub hl [3, 1, 0] rfl)
  exact loop (z + 2) b e0 _ f _ _ ls he (dec_toI (by omega)) (by omega) rfl hbe hP hD hS (lv_sub hl [2, 1, 0] rfl)
set_option maxHeartbeats 4000000 in
set_option maxRecDepth 100000 in
theorem k_R_sink (l : Launch) (D : va_G) (E : ClassId × ClassId × ClassId × ClassId) (h0 a sz : Nat) (most z : Int32) (x : Int64) (n h e0 : Nat) (f : Nat → Int64) (hn : n < 2 ^ 29) (he : e0 ≤ n) (hh : h < e0) : Met l y_R_sink (.code y_R_sink c_R_sink 7 none :: gw) ({ frames := 0, cells := 0, slots := 0, locals := 0 } : Room) (wP D E [(h0, .inr (0, [.int most, .ref a, .int z])), (a, .inl (E.1, n, .inr (.inl f)))] sz [.ref h0, .long x, .int (nI h), .int (nI e0)]) (va_Qv (fun (u : Unit) => True) (wB D (fun _ => [(h0, .inr (0, [.int most, .ref a, .int z])), (a, .inl (E.1, n, .inr (.inl (ps_sink x e0 e0 f h))))]) (va_A [(h0, .inr (0, [.int most, .ref a, .int z])), (a, .inl (E.1, n, .inr (.inl f)))] sz)) (va_A [(h0, .inr (0, [.int most, .ref a, .int z])), (a, .inl (E.1, n, .inr (.inl f)))] sz)) 0 0 (va_A [(h0, .inr (0, [.int most, .ref a, .int z])), (a, .inl (E.1, n, .inr (.inl f)))] sz) := by
  refine wr_ofW (Qc := fun A => (va_Qv (fun (u : Unit) => True) (wB D (fun _ => [(h0, .inr (0, [.int most, .ref a, .int z])), (a, .inl (E.1, n, .inr (.inl (ps_sink x e0 e0 f h))))]) A) A)) (by decide) (Nat.le_of_ble_eq_true rfl) ?_
  intro p e s m below meth c B hP hK A hA hD hS ls hl
  obtain ⟨hx, hb, hrt, hml, hown, hts, hG, hlocks, hin⟩ := B
  have hl : lv_has ls 7 [(0, .ref h0), (1, .long x), (3, .int (nI h)), (4, .int (nI e0))] := hl
  refine lv_iload_n hx hb d_R_sink_0 rfl (lv_at hl 2 rfl) ?_
  refine lv_istore (lv' := [(5, .int (nI h)), (0, .ref h0), (1, .long x), (3, .int (nI h)), (4, .int (nI e0))]) hx hb d_R_sink_1 hl (by decide) rfl (fun ls hl => ?_)
  have loop : ∀ (fu : Nat) (k : Nat) (g : Nat → Int64) (H : Heap) (locs : List Loc) (ls : Array Slot), (k < e0) → (e0 ≤ k + fu) → (ps_sink x e0 fu g k = ps_sink x e0 e0 f h) → va_P D vwC [(h0, .inr (0, [.int most, .ref a, .int z])), (a, .inl (E.1, n, .inr (.inl g)))] H → va_D A [(h0, .inr (0, [.int most, .ref a, .int z])), (a, .inl (E.1, n, .inr (.inl g)))] → va_S A s.heap H locs → lv_has ls 7 [(0, .ref h0), (1, .long x), (4, .int (nI e0)), (5, .int (nI k))] → W p l e ({ frames := 0, cells := 0, slots := 0, locals := 0 } : Room) s m ([.ref h0, .long x, .int (nI h), .int (nI e0)] : List Value).toArray below meth c H locs 0 0 (MQ below (va_Qv (fun (u : Unit) => True) (wB D (fun _ => [(h0, .inr (0, [.int most, .ref a, .int z])), (a, .inl (E.1, n, .inr (.inl (ps_sink x e0 e0 f h))))]) A) A) ([.ref h0, .long x, .int (nI h), .int (nI e0)] : List Value).toArray s 0 0 A) (F0 m 3 ls []) := by
    intro fu
    induction fu with
    | zero =>
      intro k g H locs ls h1 h2 h4 hP hD hS hl
      omega
    | succ fu ih =>
      intro k g H locs ls h1 h2 h4 hP hD hS hl
      rw [ps_sink] at h4
      refine lv_iconst (v := 2) hx hb d_R_sink_3 (by decide) ?_
      refine lv_iload hx hb d_R_sink_4 (lv_at hl 3 rfl) ?_
      refine lv_imul hx hb d_R_sink_6 ?_
      refine lv_iconst (v := 1) hx hb d_R_sink_7 (by decide) ?_
      refine lv_iadd hx hb d_R_sink_8 ?_
      rw [i2h]
      refine lv_iload hx hb d_R_sink_9 (lv_at hl 2 rfl) ?_
      refine lv_icmp_ge (tgt := 90) hx hb d_R_sink_11 (by decide) (fun c1 => ?_) (fun c1 => ?_)
      · have q : ¬ 2 * k + 1 < e0 := by have := (nI_leI (by omega) (by omega)).mp c1; omega
        rw [if_neg q] at h4
        refine lv_aload_n hx hb d_R_sink_90 rfl (lv_at hl 0 rfl) ?_
        refine va_get (D := D) (ci := 0) (v := .ref a) (C := K_R) (T := F_R) (N := 3) hx hb hG in_R hown hK.1 hP 0 rfl rfl 1 (by decide) (hG _ wd_98) (fun _ h9 => h9) rfl d_R_sink_91 ?_
        refine lv_iload hx hb d_R_sink_94 (lv_at hl 3 rfl) ?_
        refine lv_lload_n hx hb d_R_sink_96 rfl (lv_at hl 1 rfl) ?_
        refine va_last hx hb hK.1 hP hD hS 1 0 rfl rfl (vp_in_nI (by omega) (by omega)) d_R_sink_97 (fun H locs hP hD hS => ?_)
        rw [show vp_updL g (Int32.toNatClampNeg (nI k)) x = (vp_updL g k x) from by rw [nI_clamp (by omega)]] at hP hD
        have hP : va_P D vwC [(h0, .inr (0, [.int most, .ref a, .int z])), (a, .inl (E.1, n, .inr (.inl (vp_updL g k x))))] H := hP
        have hD : va_D A [(h0, .inr (0, [.int most, .ref a, .int z])), (a, .inl (E.1, n, .inr (.inl (vp_updL g k x))))] := hD
        rw [h4] at hP hD
        exact W.vret hx hb hrt (fun t ht hW => ⟨⟨(), rfl, trivial, ⟨by rw [ht]; exact hP, hD⟩⟩, hS.F ht⟩) hS.2.2 d_R_sink_98 hlocks
      · have q : 2 * k + 1 < e0 := by rw [nI_leI (by omega) (by omega)] at c1; omega
        rw [if_pos q] at h4
        refine lv_iconst (v := 2) hx hb d_R_sink_14 (by decide) ?_
        refine lv_iload hx hb d_R_sink_15 (lv_at hl 3 rfl) ?_
        refine lv_imul hx hb d_R_sink_17 ?_
        refine lv_iconst (v := 1) hx hb d_R_sink_18 (by decide) ?_
        refine lv_iadd hx hb d_R_sink_19 ?_
        rw [i2h]
        refine lv_istore (lv' := [(6, .int (nI (2 * k + 1))), (0, .ref h0), (1, .long x), (4, .int (nI e0)), (5, .int (nI k))]) hx hb d_R_sink_20 hl (by decide) rfl (fun ls hl => ?_)
        have J : ∀ (ch : Nat) (ls : Array Slot), (ch = if 2 * k + 2 < e0 ∧ g (2 * k + 1) < g (2 * k + 2) then 2 * k + 2 else 2 * k + 1) → (ch < e0) → lv_has ls 7 [(0, .ref h0), (1, .long x), (4, .int (nI e0)), (5, .int (nI k)), (6, .int (nI ch))] → W p l e ({ frames := 0, cells := 0, slots := 0, locals := 0 } : Room) s m ([.ref h0, .long x, .int (nI h), .int (nI e0)] : List Value).toArray below meth c H locs 0 0 (MQ below (va_Qv (fun (u : Unit) => True) (wB D (fun _ => [(h0, .inr (0, [.int most, .ref a, .int z])), (a, .inl (E.1, n, .inr (.inl (ps_sink x e0 e0 f h))))]) A) A) ([.ref h0, .long x, .int (nI h), .int (nI e0)] : List Value).toArray s 0 0 A) (F0 m 54 ls []) := by
          intro ch ls hc hc1 hl
          rw [← hc] at h4
          refine lv_aload_n hx hb d_R_sink_54 rfl (lv_at hl 0 rfl) ?_
          refine va_get (D := D) (ci := 0) (v := .ref a) (C := K_R) (T := F_R) (N := 3) hx hb hG in_R hown hK.1 hP 0 rfl rfl 1 (by decide) (hG _ wd_98) (fun _ h9 => h9) rfl d_R_sink_55 ?_
          refine lv_iload hx hb d_R_sink_58 (lv_at hl 4 rfl) ?_
          refine va_lald hx hb hK.1 hP 1 0 rfl rfl (vp_in_nI (by omega) (by omega)) d_R_sink_60 ?_
          rw [show g (Int32.toNatClampNeg (nI ch)) = g ch from by rw [nI_clamp (by omega)]]
          refine lv_lload_n hx hb d_R_sink_61 rfl (lv_at hl 1 rfl) ?_
          refine W.lcmp hx hb d_R_sink_62 ?_
          refine lv_if_gt (tgt := 69) hx hb d_R_sink_63 (by decide) (fun c2 => ?_) (fun c2 => ?_)
          · have c2 : ¬ g ch ≤ x := by rw [lg_gt, Int64.lt_iff_toInt_lt] at c2; rw [Int64.le_iff_toInt_le]; omega
            rw [if_neg c2] at h4
            refine lv_aload_n hx hb d_R_sink_69 rfl (lv_at hl 0 rfl) ?_
            refine va_get (D := D) (ci := 0) (v := .ref a) (C := K_R) (T := F_R) (N := 3) hx hb hG in_R hown hK.1 hP 0 rfl rfl 1 (by decide) (hG _ wd_98) (fun _ h9 => h9) rfl d_R_sink_70 ?_
            refine lv_iload hx hb d_R_sink_73 (lv_at hl 3 rfl) ?_
            refine lv_aload_n hx hb d_R_sink_75 rfl (lv_at hl 0 rfl) ?_
            refine va_get (D := D) (ci := 0) (v := .ref a) (C := K_R) (T := F_R) (N := 3) hx hb hG in_R hown hK.1 hP 0 rfl rfl 1 (by decide) (hG _ wd_98) (fun _ h9 => h9) rfl d_R_sink_76 ?_
            refine lv_iload hx hb d_R_sink_79 (lv_at hl 4 rfl) ?_
            refine va_lald hx hb hK.1 hP 1 0 rfl rfl (vp_in_nI (by omega) (by omega)) d_R_sink_81 ?_
            rw [show g (Int32.toNatClampNeg (nI ch)) = g ch from by rw [nI_clamp (by omega)]]
            refine va_last hx hb hK.1 hP hD hS 1 0 rfl rfl (vp_in_nI (by omega) (by omega)) d_R_sink_82 (fun H locs hP hD hS => ?_)
            rw [show vp_updL g (Int32.toNatClampNeg (nI k)) (g ch) = (vp_updL g k (g ch)) from by rw [nI_clamp (by omega)]] at hP hD
            have hP : va_P D vwC [(h0, .inr (0, [.int most, .ref a, .int z])), (a, .inl (E.1, n, .inr (.inl (vp_updL g k (g ch)))))] H := hP
            have hD : va_D A [(h0, .inr (0, [.int most, .ref a, .int z])), (a, .inl (E.1, n, .inr (.inl (vp_updL g k (g ch)))))] := hD
            refine lv_iload hx hb d_R_sink_83 (lv_at hl 4 rfl) ?_
            refine lv_istore (lv' := [(5, .int (nI ch)), (0, .ref h0), (1, .long x), (4, .int (nI e0)), (6, .int (nI ch))]) hx hb d_R_sink_85 hl (by decide) rfl (fun ls hl => ?_)
            refine lv_goto (tgt := 3) hx hb d_R_sink_87 (by decide) ?_
            exact ih ch _ H locs ls hc1 (by split at hc <;> omega) h4 hP hD hS (lv_sub hl [1, 2, 3, 0] rfl)
          · have c2 : g ch ≤ x := by rw [lg_gt, Int64.lt_iff_toInt_lt] at c2; rw [Int64.le_iff_toInt_le]; omega
            rw [if_pos c2] at h4
            refine lv_goto (tgt := 90) hx hb d_R_sink_66 (by decide) ?_
            refine lv_aload_n hx hb d_R_sink_90 rfl (lv_at hl 0 rfl) ?_
            refine va_get (D := D) (ci := 0) (v := .ref a) (C := K_R) (T := F_R) (N := 3) hx hb hG in_R hown hK.1 hP 0 rfl rfl 1 (by decide) (hG _ wd_98) (fun _ h9 => h9) rfl d_R_sink_91 ?_
            refine lv_iload hx hb d_R_sink_94 (lv_at hl 3 rfl) ?_
            refine lv_lload_n hx hb d_R_sink_96 rfl (lv_at hl 1 rfl) ?_
            refine va_last hx hb hK.1 hP hD hS 1 0 rfl rfl (vp_in_nI (by omega) (by omega)) d_R_sink_97 (fun H locs hP hD hS => ?_)
            rw [show vp_updL g (Int32.toNatClampNeg (nI k)) x = (vp_updL g k x) from by rw [nI_clamp (by omega)]] at hP hD
            have hP : va_P D vwC [(h0, .inr (0, [.int most, .ref a, .int z])), (a, .inl (E.1, n, .inr (.inl (vp_updL g k x))))] H := hP
            have hD : va_D A [(h0, .inr (0, [.int most, .ref a, .int z])), (a, .inl (E.1, n, .inr (.inl (vp_updL g k x))))] := hD
            rw [h4] at hP hD
            exact W.vret hx hb hrt (fun t ht hW => ⟨⟨(), rfl, trivial, ⟨by rw [ht]; exact hP, hD⟩⟩, hS.F ht⟩) hS.2.2 d_R_sink_98 hlocks
        refine lv_iload hx hb d_R_sink_22 (lv_at hl 0 rfl) ?_
        refine lv_iconst (v := 1) hx hb d_R_sink_24 (by decide) ?_
        refine lv_iadd hx hb d_R_sink_25 ?_
        rw [show ((nI (2 * k + 1)) + 1) = nI (2 * k + 2) from nI_1 _]
        refine lv_iload hx hb d_R_sink_26 (lv_at hl 3 rfl) ?_
        refine lv_icmp_ge (tgt := 54) hx hb d_R_sink_28 (by decide) (fun c2 => ?_) (fun c2 => ?_)
        · exact J (2 * k + 1) ls (by rw [if_neg]; intro z; have := (nI_leI (by omega) (by omega)).mp c2; omega) q (lv_sub hl [1, 2, 3, 4, 0] rfl)
        · have q2 : 2 * k + 2 < e0 := by rw [nI_leI (by omega) (by omega)] at c2; omega
          refine lv_aload_n hx hb d_R_sink_31 rfl (lv_at hl 1 rfl) ?_
          refine va_get (D := D) (ci := 0) (v := .ref a) (C := K_R) (T := F_R) (N := 3) hx hb hG in_R hown hK.1 hP 0 rfl rfl 1 (by decide) (hG _ wd_98) (fun _ h9 => h9) rfl d_R_sink_32 ?_
          refine lv_iload hx hb d_R_sink_35 (lv_at hl 0 rfl) ?_
          refine lv_iconst (v := 1) hx hb d_R_sink_37 (by decide) ?_
          refine lv_iadd hx hb d_R_sink_38 ?_
          rw [show ((nI (2 * k + 1)) + 1) = nI (2 * k + 2) from nI_1 _]
          refine va_lald hx hb hK.1 hP 1 0 rfl rfl (vp_in_nI (by omega) (by omega)) d_R_sink_39 ?_
          rw [show g (Int32.toNatClampNeg (nI (2 * k + 2))) = g (2 * k + 2) from by rw [nI_clamp (by omega)]]
          refine lv_aload_n hx hb d_R_sink_40 rfl (lv_at hl 1 rfl) ?_
          refine va_get (D := D) (ci := 0) (v := .ref a) (C := K_R) (T := F_R) (N := 3) hx hb hG in_R hown hK.1 hP 0 rfl rfl 1 (by decide) (hG _ wd_98) (fun _ h9 => h9) rfl d_R_sink_41 ?_
          refine lv_iload hx hb d_R_sink_44 (lv_at hl 0 rfl) ?_
          refine va_lald hx hb hK.1 hP 1 0 rfl rfl (vp_in_nI (by omega) (by omega)) d_R_sink_46 ?_
          rw [show g (Int32.toNatClampNeg (nI (2 * k + 1))) = g (2 * k + 1) from by rw [nI_clamp (by omega)]]
          refine W.lcmp hx hb d_R_sink_47 ?_
          refine lv_if_le (tgt := 54) hx hb d_R_sink_48 (by decide) (fun c3 => ?_) (fun c3 => ?_)
          · exact J (2 * k + 1) ls (by rw [if_neg]; intro z; exact lg_le.mp c3 z.2) q (lv_sub hl [1, 2, 3, 4, 0] rfl)
          · refine lv_iinc (v := nI (2 * k + 2)) (lv' := [(6, .int (nI (2 * k + 2))), (0, .ref h0), (1, .long x), (4, .int (nI e0)), (5, .int (nI k))]) hx hb d_R_sink_51 hl (k := 0) rfl (iinc_p _) (by decide) rfl (fun ls hl => ?_)
            exact J (2 * k + 2) ls (by rw [if_pos]; exact ⟨q2, Classical.not_not.mp (fun z => c3 (lg_le.mpr z))⟩) q2 (lv_sub hl [1, 2, 3, 4, 0] rfl)
  exact loop e0 h f _ _ ls hh (by omega) rfl hP hD hS (lv_sub hl [1, 2, 4, 0] rfl)
