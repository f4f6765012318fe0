theorem d_M_crossing_0 : decode c_M_crossing 0 = .ok (.aload_n 0, 1) := by decide +kernel
theorem d_M_crossing_1 : decode c_M_crossing 1 = .ok (.iconst 0, 1) := by decide +kernel
theorem d_M_crossing_2 : decode c_M_crossing 2 = .ok (.putfield 46, 3) := by decide +kernel
theorem d_M_crossing_5 : decode c_M_crossing 5 = .ok (.aload_n 0, 1) := by decide +kernel
theorem d_M_crossing_6 : decode c_M_crossing 6 = .ok (.iload_n 1, 1) := by decide +kernel
theorem d_M_crossing_7 : decode c_M_crossing 7 = .ok (.invokevirtual 116, 3) := by decide +kernel
theorem d_M_crossing_10 : decode c_M_crossing 10 = .ok (.ifCond .eq 20, 3) := by decide +kernel
theorem d_M_crossing_13 : decode c_M_crossing 13 = .ok (.aload_n 0, 1) := by decide +kernel
theorem d_M_crossing_14 : decode c_M_crossing 14 = .ok (.iload_n 2, 1) := by decide +kernel
theorem d_M_crossing_15 : decode c_M_crossing 15 = .ok (.invokevirtual 116, 3) := by decide +kernel
theorem d_M_crossing_18 : decode c_M_crossing 18 = .ok (.ifCond .eq 12, 3) := by decide +kernel
theorem d_M_crossing_21 : decode c_M_crossing 21 = .ok (.iload_n 3, 1) := by decide +kernel
theorem d_M_crossing_22 : decode c_M_crossing 22 = .ok (.iconst 0, 1) := by decide +kernel
theorem d_M_crossing_23 : decode c_M_crossing 23 = .ok (.iconst 1, 1) := by decide +kernel
theorem d_M_crossing_24 : decode c_M_crossing 24 = .ok (.invokestatic 52, 3) := by decide +kernel
theorem d_M_crossing_27 : decode c_M_crossing 27 = .ok (.ifCond .ne 9, 3) := by decide +kernel
theorem d_M_crossing_30 : decode c_M_crossing 30 = .ok (.aload_n 0, 1) := by decide +kernel
theorem d_M_crossing_31 : decode c_M_crossing 31 = .ok (.iconst 1, 1) := by decide +kernel
theorem d_M_crossing_32 : decode c_M_crossing 32 = .ok (.invokevirtual 73, 3) := by decide +kernel
theorem d_M_crossing_35 : decode c_M_crossing 35 = .ok (.ireturn, 1) := by decide +kernel
theorem d_M_crossing_36 : decode c_M_crossing 36 = .ok (.aload_n 0, 1) := by decide +kernel
theorem d_M_crossing_37 : decode c_M_crossing 37 = .ok (.iload_n 1, 1) := by decide +kernel
theorem d_M_crossing_38 : decode c_M_crossing 38 = .ok (.iload_n 2, 1) := by decide +kernel
theorem d_M_crossing_39 : decode c_M_crossing 39 = .ok (.invokevirtual 136, 3) := by decide +kernel
theorem d_M_crossing_42 : decode c_M_crossing 42 = .ok (.ifCond .ne 9, 3) := by decide +kernel
theorem d_M_crossing_45 : decode c_M_crossing 45 = .ok (.aload_n 0, 1) := by decide +kernel
theorem d_M_crossing_46 : decode c_M_crossing 46 = .ok (.iconst 2, 1) := by decide +kernel
theorem d_M_crossing_47 : decode c_M_crossing 47 = .ok (.invokevirtual 73, 3) := by decide +kernel
theorem d_M_crossing_50 : decode c_M_crossing 50 = .ok (.ireturn, 1) := by decide +kernel
theorem d_M_crossing_51 : decode c_M_crossing 51 = .ok (.iload_n 3, 1) := by decide +kernel
theorem d_M_crossing_52 : decode c_M_crossing 52 = .ok (.ifCond .ne 10, 3) := by decide +kernel
theorem d_M_crossing_55 : decode c_M_crossing 55 = .ok (.aload_n 0, 1) := by decide +kernel
theorem d_M_crossing_56 : decode c_M_crossing 56 = .ok (.getfield 130, 3) := by decide +kernel
theorem d_M_crossing_59 : decode c_M_crossing 59 = .ok (.goto 7, 3) := by decide +kernel
theorem d_M_crossing_62 : decode c_M_crossing 62 = .ok (.aload_n 0, 1) := by decide +kernel
theorem d_M_crossing_63 : decode c_M_crossing 63 = .ok (.getfield 133, 3) := by decide +kernel
theorem d_M_crossing_66 : decode c_M_crossing 66 = .ok (.ireturn, 1) := by decide +kernel
theorem d_M_piece_0 : decode c_M_piece 0 = .ok (.aload_n 0, 1) := by decide +kernel
theorem d_M_piece_1 : decode c_M_piece 1 = .ok (.iconst 0, 1) := by decide +kernel
theorem d_M_piece_2 : decode c_M_piece 2 = .ok (.putfield 46, 3) := by decide +kernel
theorem d_M_piece_5 : decode c_M_piece 5 = .ok (.iload_n 1, 1) := by decide +kernel
theorem d_M_piece_6 : decode c_M_piece 6 = .ok (.iconst 0, 1) := by decide +kernel
theorem d_M_piece_7 : decode c_M_piece 7 = .ok (.aload_n 0, 1) := by decide +kernel
theorem d_M_piece_8 : decode c_M_piece 8 = .ok (.getfield 66, 3) := by decide +kernel
theorem d_M_piece_11 : decode c_M_piece 11 = .ok (.iconst 1, 1) := by decide +kernel
theorem d_M_piece_12 : decode c_M_piece 12 = .ok (.isub, 1) := by decide +kernel
theorem d_M_piece_13 : decode c_M_piece 13 = .ok (.invokestatic 52, 3) := by decide +kernel
theorem d_M_piece_16 : decode c_M_piece 16 = .ok (.ifCond .eq 12, 3) := by decide +kernel
theorem d_M_piece_19 : decode c_M_piece 19 = .ok (.iload_n 2, 1) := by decide +kernel
theorem d_M_piece_20 : decode c_M_piece 20 = .ok (.iconst 0, 1) := by decide +kernel
theorem d_M_piece_21 : decode c_M_piece 21 = .ok (.iconst 2, 1) := by decide +kernel
theorem d_M_piece_22 : decode c_M_piece 22 = .ok (.invokestatic 52, 3) := by decide +kernel
theorem d_M_piece_25 : decode c_M_piece 25 = .ok (.ifCond .ne 9, 3) := by decide +kernel
theorem d_M_piece_28 : decode c_M_piece 28 = .ok (.aload_n 0, 1) := by decide +kernel
theorem d_M_piece_29 : decode c_M_piece 29 = .ok (.iconst 1, 1) := by decide +kernel
theorem d_M_piece_30 : decode c_M_piece 30 = .ok (.invokevirtual 73, 3) := by decide +kernel
theorem d_M_piece_33 : decode c_M_piece 33 = .ok (.ireturn, 1) := by decide +kernel
theorem d_M_piece_34 : decode c_M_piece 34 = .ok (.iload_n 2, 1) := by decide +kernel
theorem d_M_piece_35 : decode c_M_piece 35 = .ok (.ifCond .ne 12, 3) := by decide +kernel
theorem d_M_piece_38 : decode c_M_piece 38 = .ok (.aload_n 0, 1) := by decide +kernel
theorem d_M_piece_39 : decode c_M_piece 39 = .ok (.getfield 26, 3) := by decide +kernel
theorem d_M_piece_42 : decode c_M_piece 42 = .ok (.iload_n 1, 1) := by decide +kernel
theorem d_M_piece_43 : decode c_M_piece 43 = .ok (.iaload, 1) := by decide +kernel
theorem d_M_piece_44 : decode c_M_piece 44 = .ok (.goto 23, 3) := by decide +kernel
theorem d_M_piece_47 : decode c_M_piece 47 = .ok (.iload_n 2, 1) := by decide +kernel
theorem d_M_piece_48 : decode c_M_piece 48 = .ok (.iconst 1, 1) := by decide +kernel
theorem d_M_piece_49 : decode c_M_piece 49 = .ok (.if_icmp .ne 12, 3) := by decide +kernel
theorem d_M_piece_52 : decode c_M_piece 52 = .ok (.aload_n 0, 1) := by decide +kernel
theorem d_M_piece_53 : decode c_M_piece 53 = .ok (.getfield 29, 3) := by decide +kernel
theorem d_M_piece_56 : decode c_M_piece 56 = .ok (.iload_n 1, 1) := by decide +kernel
theorem d_M_piece_57 : decode c_M_piece 57 = .ok (.iaload, 1) := by decide +kernel
theorem d_M_piece_58 : decode c_M_piece 58 = .ok (.goto 9, 3) := by decide +kernel
theorem d_M_piece_61 : decode c_M_piece 61 = .ok (.aload_n 0, 1) := by decide +kernel
theorem d_M_piece_62 : decode c_M_piece 62 = .ok (.getfield 32, 3) := by decide +kernel
theorem d_M_piece_65 : decode c_M_piece 65 = .ok (.iload_n 1, 1) := by decide +kernel
theorem d_M_piece_66 : decode c_M_piece 66 = .ok (.iaload, 1) := by decide +kernel
theorem d_M_piece_67 : decode c_M_piece 67 = .ok (.ireturn, 1) := by decide +kernel
theorem d_M_pixel_0 : decode c_M_pixel 0 = .ok (.aload_n 0, 1) := by decide +kernel
theorem d_M_pixel_1 : decode c_M_pixel 1 = .ok (.iconst 0, 1) := by decide +kernel
theorem d_M_pixel_2 : decode c_M_pixel 2 = .ok (.putfield 46, 3) := by decide +kernel
theorem d_M_pixel_5 : decode c_M_pixel 5 = .ok (.iload_n 1, 1) := by decide +kernel
theorem d_M_pixel_6 : decode c_M_pixel 6 = .ok (.iconst 0, 1) := by decide +kernel
theorem d_M_pixel_7 : decode c_M_pixel 7 = .ok (.aload_n 0, 1) := by decide +kernel
theorem d_M_pixel_8 : decode c_M_pixel 8 = .ok (.getfield 63, 3) := by decide +kernel
theorem d_M_pixel_11 : decode c_M_pixel 11 = .ok (.iconst 1, 1) := by decide +kernel
theorem d_M_pixel_12 : decode c_M_pixel 12 = .ok (.isub, 1) := by decide +kernel
theorem d_M_pixel_13 : decode c_M_pixel 13 = .ok (.invokestatic 52, 3) := by decide +kernel
theorem d_M_pixel_16 : decode c_M_pixel 16 = .ok (.ifCond .eq 12, 3) := by decide +kernel
theorem d_M_pixel_19 : decode c_M_pixel 19 = .ok (.iload_n 2, 1) := by decide +kernel
theorem d_M_pixel_20 : decode c_M_pixel 20 = .ok (.iconst 0, 1) := by decide +kernel
theorem d_M_pixel_21 : decode c_M_pixel 21 = .ok (.iconst 1, 1) := by decide +kernel
theorem d_M_pixel_22 : decode c_M_pixel 22 = .ok (.invokestatic 52, 3) := by decide +kernel
theorem d_M_pixel_25 : decode c_M_pixel 25 = .ok (.ifCond .ne 9, 3) := by decide +kernel
theorem d_M_pixel_28 : decode c_M_pixel 28 = .ok (.aload_n 0, 1) := by decide +kernel
theorem d_M_pixel_29 : decode c_M_pixel 29 = .ok (.iconst 1, 1) := by decide +kernel
theorem d_M_pixel_30 : decode c_M_pixel 30 = .ok (.invokevirtual 73, 3) := by decide +kernel
theorem d_M_pixel_33 : decode c_M_pixel 33 = .ok (.ireturn, 1) := by decide +kernel
theorem d_M_pixel_34 : decode c_M_pixel 34 = .ok (.iload_n 2, 1) := by decide +kernel
theorem d_M_pixel_35 : decode c_M_pixel 35 = .ok (.ifCond .ne 12, 3) := by decide +kernel
theorem d_M_pixel_38 : decode c_M_pixel 38 = .ok (.aload_n 0, 1) := by decide +kernel
theorem d_M_pixel_39 : decode c_M_pixel 39 = .ok (.getfield 13, 3) := by decide +kernel
theorem d_M_pixel_42 : decode c_M_pixel 42 = .ok (.iload_n 1, 1) := by decide +kernel
theorem d_M_pixel_43 : decode c_M_pixel 43 = .ok (.iaload, 1) := by decide +kernel
theorem d_M_pixel_44 : decode c_M_pixel 44 = .ok (.goto 9, 3) := by decide +kernel
theorem d_M_pixel_47 : decode c_M_pixel 47 = .ok (.aload_n 0, 1) := by decide +kernel
theorem d_M_pixel_48 : decode c_M_pixel 48 = .ok (.getfield 16, 3) := by decide +kernel
theorem d_M_pixel_51 : decode c_M_pixel 51 = .ok (.iload_n 1, 1) := by decide +kernel
theorem d_M_pixel_52 : decode c_M_pixel 52 = .ok (.iaload, 1) := by decide +kernel
theorem d_M_pixel_53 : decode c_M_pixel 53 = .ok (.ireturn, 1) := by decide +kernel
noncomputable section
theorem mw_nat {p : Int32} {h : Nat} (hh : h < 2 ^ 30) (hp : mw_in p 0 (nI h - 1)) : ∃ i, i < h ∧ p = nI i := by
  obtain ⟨h1, h2⟩ := hp
  obtain ⟨i, hi, rfl⟩ := nI_of h1
  refine ⟨i, ?_, rfl⟩
  rw [Int32.lt_iff_toInt_lt, dec_toI (by omega), nI_toInt hi] at h2
  omega
theorem mw_nat' {h i : Nat} (hh : h < 2 ^ 30) (hi : i < h) : mw_in (nI i) 0 (nI h - 1) := by
  refine ⟨nI_pos (by omega), ?_⟩
  rw [Int32.lt_iff_toInt_lt, dec_toI (by omega), nI_toInt (by omega)]
  omega
set_option maxHeartbeats 4000000 in
set_option maxRecDepth 100000 in
theorem k_M_crossing_n (l : Launch) (D : va_G) (E : ClassId × ClassId × ClassId × ClassId) (h0 sz : Nat) (ad : Nat → Nat) (th sg sn hot pc cx cy : Int32) (fo fv to tv : Int64) (fi ti : Int32) (k1 k2 w : Int32) (hn : ¬ (mw_in k1 0 (sg - 1) ∧ mw_in k2 0 (sg - 1) ∧ mw_in w 0 1)) : Met l y_M_crossing (.code y_M_crossing c_M_crossing 4 (some .int) :: gw) ({ frames := 2, cells := 0, slots := 0, locals := 80 } : Room) (wP D E [(h0, .inr (3, mF ad th sg sn hot pc cx cy fo fv to tv fi ti))] sz [.ref h0, .int k1, .int k2, .int w]) (va_Qi (fun (r : Int32) (u : Unit) => r = 0) (wB D (fun _ => [(h0, .inr (3, mF ad 1 sg sn hot pc cx cy fo fv to tv fi ti))]) (va_A [(h0, .inr (3, mF ad th sg sn hot pc cx cy fo fv to tv fi ti))] sz)) (va_A [(h0, .inr (3, mF ad th sg sn hot pc cx cy fo fv to tv fi ti))] sz)) 0 0 (va_A [(h0, .inr (3, mF ad th sg sn hot pc cx cy fo fv to tv fi ti))] sz) := by
  refine wr_ofW (Qc := fun A => (va_Qi (fun (r : Int32) (u : Unit) => r = 0) (wB D (fun _ => [(h0, .inr (3, mF ad 1 sg sn hot pc cx cy fo fv to tv fi ti))]) A) A)) (by decide) (Nat.le_of_ble_eq_true rfl) ?_
  intro p e s m below meth c B hP hK A hA hD hS ls hl
  obtain ⟨hx, hb, hrt, hml, hown, hts, hG, hlocks, hin⟩ := B
  have hl : lv_has ls 4 [(0, .ref h0), (1, .int k1), (2, .int k2), (3, .int w)] := hl
  refine lv_aload_n hx hb d_M_crossing_0 rfl (lv_at hl 0 rfl) ?_
  refine lv_iconst (v := 0) hx hb d_M_crossing_1 (by decide) ?_
  refine va_put (D := D) (ci := 3) (v := .int 0) (ty := .int) (C := K_M) (T := F_M) (N := 24) hx hb hG in_M t_M t_M_ok n_M hown hK.1 hP hD hS 0 rfl rfl 0 (by decide) (hG _ wd_648) (fun _ h9 => h9) rfl (by decide +kernel) rfl rfl (Nat.le_of_ble_eq_true rfl) d_M_crossing_2 (fun H locs hP hD hS => ?_)
  have hP : va_P D vwC [(h0, .inr (3, mF ad 0 sg sn hot pc cx cy fo fv to tv fi ti))] H := hP
  have hD : va_D A [(h0, .inr (3, mF ad 0 sg sn hot pc cx cy fo fv to tv fi ti))] := hD
  refine lv_aload_n hx hb d_M_crossing_5 rfl (lv_at hl 0 rfl) ?_
  refine lv_iload_n hx hb d_M_crossing_6 rfl (lv_at hl 1 rfl) ?_
  have hPc := hP.sub (ws' := [(h0, .inr (3, mF ad 0 sg sn hot pc cx cy fo fv to tv fi ti))]) [0] rfl
  refine vp_callSi (W.runV (As := [.int k1]) (rest := []) ⟨hx, hb, hml, hown, hts⟩ (k_M_isSegment l D E h0 ad 0 sg sn hot pc cx cy fo fv to tv fi ti k1) (cwV 1 hts (gw_gv wd_755 wd_757 wd_23 wd_42 wd_758) rfl rfl rfl (by decide +kernel) ⟨Nat.le_of_ble_eq_true rfl, Nat.le_of_ble_eq_true rfl⟩) (rP_V 0 hPc hK rfl rfl) rfl rfl hl.1 rfl (lv_room (Nat.le_of_ble_eq_true rfl)) d_M_crossing_7 ⟨Nat.le_of_ble_eq_true rfl, Nat.le_of_ble_eq_true rfl⟩) (fun is1 his1 => ?_)
  refine lv_if_eq (tgt := 30) hx hb d_M_crossing_10 (by decide) (fun c1 => ?_) (fun c1 => ?_)
  · refine lv_aload_n hx hb d_M_crossing_30 rfl (lv_at hl 0 rfl) ?_
    refine lv_iconst (v := 1) hx hb d_M_crossing_31 (by decide) ?_
    have hPc := hP.sub (ws' := [(h0, .inr (3, mF ad 0 sg sn hot pc cx cy fo fv to tv fi ti))]) [0] rfl
    have hDc := hD.sub (ws' := [(h0, .inr (3, mF ad 0 sg sn hot pc cx cy fo fv to tv fi ti))]) [0] (by decide) rfl
    have hFc := va_free (wc := [(h0, .inr (3, mF ad 0 sg sn hot pc cx cy fo fv to tv fi ti))]) hD hS hA [0] rfl
    refine va_calli (va_runV (As := [.int 1]) (rest := []) ⟨hx, hb, hml, hown, hts⟩ (k_M_fail l D E h0 H.size ad 0 sg sn hot pc cx cy fo fv to tv fi ti 1) (cwV 1 hts (gw_gv wd_739 wd_741 wd_21 wd_42 wd_742) rfl rfl rfl (by decide +kernel) ⟨Nat.le_of_ble_eq_true rfl, Nat.le_of_ble_eq_true rfl⟩) (wP_V 0 hPc hK hDc rfl rfl) rfl rfl hl.1 rfl (lv_room (Nat.le_of_ble_eq_true rfl)) d_M_crossing_32 ⟨Nat.le_of_ble_eq_true rfl, Nat.le_of_ble_eq_true rfl⟩) hS (fun q _ h => hFc q h) hFc (fun rf2 u9 t H1 locs ht hvm hw hB hz1 hk1 hS => ?_)
    obtain ⟨hP1, hD1⟩ := hB
    rw [ht] at hP1
    obtain ⟨hP, hD⟩ := va_join (wr := []) (w1 := [(h0, .inr (3, mF ad 1 sg sn hot pc cx cy fo fv to tv fi ti))]) hP hD [0] [] rfl rfl (by decide) (by decide) hk1 hFc hP1 hD1
    generalize H1 = H at hP hS ⊢
    have hP : va_P D vwC [(h0, .inr (3, mF ad 1 sg sn hot pc cx cy fo fv to tv fi ti))] H := hP
    have hD : va_D A [(h0, .inr (3, mF ad 1 sg sn hot pc cx cy fo fv to tv fi ti))] := hD
    obtain rfl : rf2 = 0 := hw
    exact W.iret (v := 0) hx hb hrt (fun t ht hW => ⟨⟨0, (), rfl, rfl, ⟨by rw [ht]; exact hP, hD⟩⟩, hS.F ht⟩) hS.2.2 d_M_crossing_35 hlocks
  · rw [his1] at c1
    refine lv_aload_n hx hb d_M_crossing_13 rfl (lv_at hl 0 rfl) ?_
    refine lv_iload_n hx hb d_M_crossing_14 rfl (lv_at hl 2 rfl) ?_
    have hPc := hP.sub (ws' := [(h0, .inr (3, mF ad 0 sg sn hot pc cx cy fo fv to tv fi ti))]) [0] rfl
    refine vp_callSi (W.runV (As := [.int k2]) (rest := []) ⟨hx, hb, hml, hown, hts⟩ (k_M_isSegment l D E h0 ad 0 sg sn hot pc cx cy fo fv to tv fi ti k2) (cwV 1 hts (gw_gv wd_755 wd_757 wd_23 wd_42 wd_758) rfl rfl rfl (by decide +kernel) ⟨Nat.le_of_ble_eq_true rfl, Nat.le_of_ble_eq_true rfl⟩) (rP_V 0 hPc hK rfl rfl) rfl rfl hl.1 rfl (lv_room (Nat.le_of_ble_eq_true rfl)) d_M_crossing_15 ⟨Nat.le_of_ble_eq_true rfl, Nat.le_of_ble_eq_true rfl⟩) (fun is3 his3 => ?_)
    refine lv_if_eq (tgt := 30) hx hb d_M_crossing_18 (by decide) (fun c2 => ?_) (fun c2 => ?_)
    · refine lv_aload_n hx hb d_M_crossing_30 rfl (lv_at hl 0 rfl) ?_
      refine lv_iconst (v := 1) hx hb d_M_crossing_31 (by decide) ?_
      have hPc := hP.sub (ws' := [(h0, .inr (3, mF ad 0 sg sn hot pc cx cy fo fv to tv fi ti))]) [0] rfl
      have hDc := hD.sub (ws' := [(h0, .inr (3, mF ad 0 sg sn hot pc cx cy fo fv to tv fi ti))]) [0] (by decide) rfl
      have hFc := va_free (wc := [(h0, .inr (3, mF ad 0 sg sn hot pc cx cy fo fv to tv fi ti))]) hD hS hA [0] rfl
      refine va_calli (va_runV (As := [.int 1]) (rest := []) ⟨hx, hb, hml, hown, hts⟩ (k_M_fail l D E h0 H.size ad 0 sg sn hot pc cx cy fo fv to tv fi ti 1) (cwV 1 hts (gw_gv wd_739 wd_741 wd_21 wd_42 wd_742) rfl rfl rfl (by decide +kernel) ⟨Nat.le_of_ble_eq_true rfl, Nat.le_of_ble_eq_true rfl⟩) (wP_V 0 hPc hK hDc rfl rfl) rfl rfl hl.1 rfl (lv_room (Nat.le_of_ble_eq_true rfl)) d_M_crossing_32 ⟨Nat.le_of_ble_eq_true rfl, Nat.le_of_ble_eq_true rfl⟩) hS (fun q _ h => hFc q h) hFc (fun rf4 u9 t H1 locs ht hvm hw hB hz1 hk1 hS => ?_)
      obtain ⟨hP1, hD1⟩ := hB
      rw [ht] at hP1
      obtain ⟨hP, hD⟩ := va_join (wr := []) (w1 := [(h0, .inr (3, mF ad 1 sg sn hot pc cx cy fo fv to tv fi ti))]) hP hD [0] [] rfl rfl (by decide) (by decide) hk1 hFc hP1 hD1
      generalize H1 = H at hP hS ⊢
      have hP : va_P D vwC [(h0, .inr (3, mF ad 1 sg sn hot pc cx cy fo fv to tv fi ti))] H := hP
      have hD : va_D A [(h0, .inr (3, mF ad 1 sg sn hot pc cx cy fo fv to tv fi ti))] := hD
      obtain rfl : rf4 = 0 := hw
      exact W.iret (v := 0) hx hb hrt (fun t ht hW => ⟨⟨0, (), rfl, rfl, ⟨by rw [ht]; exact hP, hD⟩⟩, hS.F ht⟩) hS.2.2 d_M_crossing_35 hlocks
    · rw [his3] at c2
      refine lv_iload_n hx hb d_M_crossing_21 rfl (lv_at hl 3 rfl) ?_
      refine lv_iconst (v := 0) hx hb d_M_crossing_22 (by decide) ?_
      refine lv_iconst (v := 1) hx hb d_M_crossing_23 (by decide) ?_
      have hPc := hP.sub (ws' := []) [] rfl
      refine vp_callSi (W.runS (As := [.int w, .int 0, .int 1]) (rest := []) ⟨hx, hb, hml, hown, hts⟩ (k_M_within l D E w 0 1) (va_cwS 3 hts (gw_gs wd_736 wd_737 wd_42 wd_738) rfl rfl rfl (by decide +kernel) ⟨Nat.le_of_ble_eq_true rfl, Nat.le_of_ble_eq_true rfl⟩) (rP_S hPc hK) rfl rfl hl.1 rfl (lv_room (Nat.le_of_ble_eq_true rfl)) d_M_crossing_24 ⟨Nat.le_of_ble_eq_true rfl, Nat.le_of_ble_eq_true rfl⟩) (fun r3 hr3 => ?_)
      refine lv_if_ne (tgt := 36) hx hb d_M_crossing_27 (by decide) (fun c3 => ?_) (fun c3 => ?_)
      · rw [hr3] at c3
        exact absurd ⟨b01_1 c1, b01_1 c2, b01_1 c3⟩ hn
      · refine lv_aload_n hx hb d_M_crossing_30 rfl (lv_at hl 0 rfl) ?_
        refine lv_iconst (v := 1) hx hb d_M_crossing_31 (by decide) ?_
        have hPc := hP.sub (ws' := [(h0, .inr (3, mF ad 0 sg sn hot pc cx cy fo fv to tv fi ti))]) [0] rfl
        have hDc := hD.sub (ws' := [(h0, .inr (3, mF ad 0 sg sn hot pc cx cy fo fv to tv fi ti))]) [0] (by decide) rfl
        have hFc := va_free (wc := [(h0, .inr (3, mF ad 0 sg sn hot pc cx cy fo fv to tv fi ti))]) hD hS hA [0] rfl
        refine va_calli (va_runV (As := [.int 1]) (rest := []) ⟨hx, hb, hml, hown, hts⟩ (k_M_fail l D E h0 H.size ad 0 sg sn hot pc cx cy fo fv to tv fi ti 1) (cwV 1 hts (gw_gv wd_739 wd_741 wd_21 wd_42 wd_742) rfl rfl rfl (by decide +kernel) ⟨Nat.le_of_ble_eq_true rfl, Nat.le_of_ble_eq_true rfl⟩) (wP_V 0 hPc hK hDc rfl rfl) rfl rfl hl.1 rfl (lv_room (Nat.le_of_ble_eq_true rfl)) d_M_crossing_32 ⟨Nat.le_of_ble_eq_true rfl, Nat.le_of_ble_eq_true rfl⟩) hS (fun q _ h => hFc q h) hFc (fun rf5 u9 t H1 locs ht hvm hw hB hz1 hk1 hS => ?_)
        obtain ⟨hP1, hD1⟩ := hB
        rw [ht] at hP1
        obtain ⟨hP, hD⟩ := va_join (wr := []) (w1 := [(h0, .inr (3, mF ad 1 sg sn hot pc cx cy fo fv to tv fi ti))]) hP hD [0] [] rfl rfl (by decide) (by decide) hk1 hFc hP1 hD1
        generalize H1 = H at hP hS ⊢
        have hP : va_P D vwC [(h0, .inr (3, mF ad 1 sg sn hot pc cx cy fo fv to tv fi ti))] H := hP
        have hD : va_D A [(h0, .inr (3, mF ad 1 sg sn hot pc cx cy fo fv to tv fi ti))] := hD
        obtain rfl : rf5 = 0 := hw
        exact W.iret (v := 0) hx hb hrt (fun t ht hW => ⟨⟨0, (), rfl, rfl, ⟨by rw [ht]; exact hP, hD⟩⟩, hS.F ht⟩) hS.2.2 d_M_crossing_35 hlocks
set_option maxHeartbeats 4000000 in
set_option maxRecDepth 100000 in
theorem k_M_crossing_x (l : Launch) (D : va_G) (E : ClassId × ClassId × ClassId × ClassId) (h0 sz : Nat) (ad : Nat → Nat) (th sg sn hot pc cx cy : Int32) (fo fv to tv : Int64) (fi ti : Int32) (e9 : Nat → Int32) (k j : Nat) (w : Int32) (hk : 4 * k + 3 < 8192) (hj : 4 * j + 3 < 8192) (bk : bnd (mq e9 k)) (bj : bnd (mq e9 j)) (hi : mw_in (nI k) 0 (sg - 1) ∧ mw_in (nI j) 0 (sg - 1) ∧ mw_in w 0 1) (ok : ¬ mx_ok (mq e9 k) (mq e9 j)) : Met l y_M_crossing (.code y_M_crossing c_M_crossing 4 (some .int) :: gw) ({ frames := 2, cells := 0, slots := 0, locals := 80 } : Room) (wP D E [(h0, .inr (3, mF ad th sg sn hot pc cx cy fo fv to tv fi ti)), ((ad 0), .inl (E.2.1, 8192, .inl e9))] sz [.ref h0, .int (nI k), .int (nI j), .int w]) (va_Qi (fun (r : Int32) (u : Int32 × Int32) => r = 0) (wB D (fun u => [(h0, .inr (3, mF ad 2 sg sn hot pc u.1 u.2 fo fv to tv fi ti)), ((ad 0), .inl (E.2.1, 8192, .inl e9))]) (va_A [(h0, .inr (3, mF ad th sg sn hot pc cx cy fo fv to tv fi ti)), ((ad 0), .inl (E.2.1, 8192, .inl e9))] sz)) (va_A [(h0, .inr (3, mF ad th sg sn hot pc cx cy fo fv to tv fi ti)), ((ad 0), .inl (E.2.1, 8192, .inl e9))] sz)) 0 0 (va_A [(h0, .inr (3, mF ad th sg sn hot pc cx cy fo fv to tv fi ti)), ((ad 0), .inl (E.2.1, 8192, .inl e9))] sz) := by
  refine wr_ofW (Qc := fun A => (va_Qi (fun (r : Int32) (u : Int32 × Int32) => r = 0) (wB D (fun u => [(h0, .inr (3, mF ad 2 sg sn hot pc u.1 u.2 fo fv to tv fi ti)), ((ad 0), .inl (E.2.1, 8192, .inl e9))]) A) A)) (by decide) (Nat.le_of_ble_eq_true rfl) ?_
  intro p e s m below meth c B hP hK A hA hD hS ls hl
  obtain ⟨hx, hb, hrt, hml, hown, hts, hG, hlocks, hin⟩ := B
  have hl : lv_has ls 4 [(0, .ref h0), (1, .int (nI k)), (2, .int (nI j)), (3, .int w)] := hl
  refine lv_aload_n hx hb d_M_crossing_0 rfl (lv_at hl 0 rfl) ?_
  refine lv_iconst (v := 0) hx hb d_M_crossing_1 (by decide) ?_
  refine va_put (D := D) (ci := 3) (v := .int 0) (ty := .int) (C := K_M) (T := F_M) (N := 24) hx hb hG in_M t_M t_M_ok n_M hown hK.1 hP hD hS 0 rfl rfl 0 (by decide) (hG _ wd_648) (fun _ h9 => h9) rfl (by decide +kernel) rfl rfl (Nat.le_of_ble_eq_true rfl) d_M_crossing_2 (fun H locs hP hD hS => ?_)
  have hP : va_P D vwC [(h0, .inr (3, mF ad 0 sg sn hot pc cx cy fo fv to tv fi ti)), ((ad 0), .inl (E.2.1, 8192, .inl e9))] H := hP
  have hD : va_D A [(h0, .inr (3, mF ad 0 sg sn hot pc cx cy fo fv to tv fi ti)), ((ad 0), .inl (E.2.1, 8192, .inl e9))] := hD
  refine lv_aload_n hx hb d_M_crossing_5 rfl (lv_at hl 0 rfl) ?_
  refine lv_iload_n hx hb d_M_crossing_6 rfl (lv_at hl 1 rfl) ?_
  have hPc := hP.sub (ws' := [(h0, .inr (3, mF ad 0 sg sn hot pc cx cy fo fv to tv fi ti))]) [0] rfl
  refine vp_callSi (W.runV (As := [.int (nI k)]) (rest := []) ⟨hx, hb, hml, hown, hts⟩ (k_M_isSegment l D E h0 ad 0 sg sn hot pc cx cy fo fv to tv fi ti (nI k)) (cwV 1 hts (gw_gv wd_755 wd_757 wd_23 wd_42 wd_758) rfl rfl rfl (by decide +kernel) ⟨Nat.le_of_ble_eq_true rfl, Nat.le_of_ble_eq_true rfl⟩) (rP_V 0 hPc hK rfl rfl) rfl rfl hl.1 rfl (lv_room (Nat.le_of_ble_eq_true rfl)) d_M_crossing_7 ⟨Nat.le_of_ble_eq_true rfl, Nat.le_of_ble_eq_true rfl⟩) (fun is1 his1 => ?_)
  refine lv_if_eq (tgt := 30) hx hb d_M_crossing_10 (by decide) (fun c1 => ?_) (fun c1 => ?_)
  · rw [his1, b01_t hi.1] at c1
    exact absurd c1 (by decide)
  · refine lv_aload_n hx hb d_M_crossing_13 rfl (lv_at hl 0 rfl) ?_
    refine lv_iload_n hx hb d_M_crossing_14 rfl (lv_at hl 2 rfl) ?_
    have hPc := hP.sub (ws' := [(h0, .inr (3, mF ad 0 sg sn hot pc cx cy fo fv to tv fi ti))]) [0] rfl
    refine vp_callSi (W.runV (As := [.int (nI j)]) (rest := []) ⟨hx, hb, hml, hown, hts⟩ (k_M_isSegment l D E h0 ad 0 sg sn hot pc cx cy fo fv to tv fi ti (nI j)) (cwV 1 hts (gw_gv wd_755 wd_757 wd_23 wd_42 wd_758) rfl rfl rfl (by decide +kernel) ⟨Nat.le_of_ble_eq_true rfl, Nat.le_of_ble_eq_true rfl⟩) (rP_V 0 hPc hK rfl rfl) rfl rfl hl.1 rfl (lv_room (Nat.le_of_ble_eq_true rfl)) d_M_crossing_15 ⟨Nat.le_of_ble_eq_true rfl, Nat.le_of_ble_eq_true rfl⟩) (fun is2 his2 => ?_)
    refine lv_if_eq (tgt := 30) hx hb d_M_crossing_18 (by decide) (fun c2 => ?_) (fun c2 => ?_)
    · rw [his2, b01_t hi.2.1] at c2
      exact absurd c2 (by decide)
    · refine lv_iload_n hx hb d_M_crossing_21 rfl (lv_at hl 3 rfl) ?_
      refine lv_iconst (v := 0) hx hb d_M_crossing_22 (by decide) ?_
      refine lv_iconst (v := 1) hx hb d_M_crossing_23 (by decide) ?_
      have hPc := hP.sub (ws' := []) [] rfl
      refine vp_callSi (W.runS (As := [.int w, .int 0, .int 1]) (rest := []) ⟨hx, hb, hml, hown, hts⟩ (k_M_within l D E w 0 1) (va_cwS 3 hts (gw_gs wd_736 wd_737 wd_42 wd_738) rfl rfl rfl (by decide +kernel) ⟨Nat.le_of_ble_eq_true rfl, Nat.le_of_ble_eq_true rfl⟩) (rP_S hPc hK) rfl rfl hl.1 rfl (lv_room (Nat.le_of_ble_eq_true rfl)) d_M_crossing_24 ⟨Nat.le_of_ble_eq_true rfl, Nat.le_of_ble_eq_true rfl⟩) (fun r3 hr3 => ?_)
      refine lv_if_ne (tgt := 36) hx hb d_M_crossing_27 (by decide) (fun c3 => ?_) (fun c3 => ?_)
      · refine lv_aload_n hx hb d_M_crossing_36 rfl (lv_at hl 0 rfl) ?_
        refine lv_iload_n hx hb d_M_crossing_37 rfl (lv_at hl 1 rfl) ?_
        refine lv_iload_n hx hb d_M_crossing_38 rfl (lv_at hl 2 rfl) ?_
        have hPc := hP.sub (ws' := [(h0, .inr (3, mF ad 0 sg sn hot pc cx cy fo fv to tv fi ti)), ((ad 0), .inl (E.2.1, 8192, .inl e9))]) [0, 1] rfl
        have hDc := hD.sub (ws' := [(h0, .inr (3, mF ad 0 sg sn hot pc cx cy fo fv to tv fi ti)), ((ad 0), .inl (E.2.1, 8192, .inl e9))]) [0, 1] (by decide) rfl
        have hFc := va_free (wc := [(h0, .inr (3, mF ad 0 sg sn hot pc cx cy fo fv to tv fi ti)), ((ad 0), .inl (E.2.1, 8192, .inl e9))]) hD hS hA [0, 1] rfl
        refine va_calli (va_runV (As := [.int (nI k), .int (nI j)]) (rest := []) ⟨hx, hb, hml, hown, hts⟩ (k_M_cross l D E h0 H.size ad 0 sg sn hot pc cx cy fo fv to tv fi ti e9 k j hk hj bk bj) (cwV 2 hts (gw_gv wd_783 wd_785 wd_28 wd_42 wd_786) rfl rfl rfl (by decide +kernel) ⟨Nat.le_of_ble_eq_true rfl, Nat.le_of_ble_eq_true rfl⟩) (wP_V 0 hPc hK hDc rfl rfl) rfl rfl hl.1 rfl (lv_room (Nat.le_of_ble_eq_true rfl)) d_M_crossing_39 ⟨Nat.le_of_ble_eq_true rfl, Nat.le_of_ble_eq_true rfl⟩) hS (fun q _ h => hFc q h) hFc (fun rc u t H1 locs ht hvm hw hB hz1 hk1 hS => ?_)
        obtain ⟨hP1, hD1⟩ := hB
        rw [ht] at hP1
        obtain ⟨hP, hD⟩ := va_join (wr := []) (w1 := [(h0, .inr (3, mF ad 0 sg sn hot pc u.1 u.2 fo fv to tv fi ti)), ((ad 0), .inl (E.2.1, 8192, .inl e9))]) hP hD [0, 1] [] rfl rfl (by decide) (by decide) hk1 hFc hP1 hD1
        generalize H1 = H at hP hS ⊢
        have hP : va_P D vwC [(h0, .inr (3, mF ad 0 sg sn hot pc u.1 u.2 fo fv to tv fi ti)), ((ad 0), .inl (E.2.1, 8192, .inl e9))] H := hP
        have hD : va_D A [(h0, .inr (3, mF ad 0 sg sn hot pc u.1 u.2 fo fv to tv fi ti)), ((ad 0), .inl (E.2.1, 8192, .inl e9))] := hD
        obtain ⟨hw1, hw2⟩ := hw
        refine lv_if_ne (tgt := 51) hx hb d_M_crossing_42 (by decide) (fun c4 => ?_) (fun c4 => ?_)
        · rw [hw1, b01_f ok] at c4
          exact absurd rfl c4
        · refine lv_aload_n hx hb d_M_crossing_45 rfl (lv_at hl 0 rfl) ?_
          refine lv_iconst (v := 2) hx hb d_M_crossing_46 (by decide) ?_
          have hPc := hP.sub (ws' := [(h0, .inr (3, mF ad 0 sg sn hot pc u.1 u.2 fo fv to tv fi ti))]) [0] rfl
          have hDc := hD.sub (ws' := [(h0, .inr (3, mF ad 0 sg sn hot pc u.1 u.2 fo fv to tv fi ti))]) [0] (by decide) rfl
          have hFc := va_free (wc := [(h0, .inr (3, mF ad 0 sg sn hot pc u.1 u.2 fo fv to tv fi ti))]) hD hS hA [0] rfl
          refine va_calli (va_runV (As := [.int 2]) (rest := []) ⟨hx, hb, hml, hown, hts⟩ (k_M_fail l D E h0 H.size ad 0 sg sn hot pc u.1 u.2 fo fv to tv fi ti 2) (cwV 1 hts (gw_gv wd_739 wd_741 wd_21 wd_42 wd_742) rfl rfl rfl (by decide +kernel) ⟨Nat.le_of_ble_eq_true rfl, Nat.le_of_ble_eq_true rfl⟩) (wP_V 0 hPc hK hDc rfl rfl) rfl rfl hl.1 rfl (lv_room (Nat.le_of_ble_eq_true rfl)) d_M_crossing_47 ⟨Nat.le_of_ble_eq_true rfl, Nat.le_of_ble_eq_true rfl⟩) hS (fun q _ h => hFc q h) hFc (fun rf3 u9 t H1 locs ht hvm hw hB hz1 hk1 hS => ?_)
          obtain ⟨hP1, hD1⟩ := hB
          rw [ht] at hP1
          obtain ⟨hP, hD⟩ := va_join (wr := [((ad 0), .inl (E.2.1, 8192, .inl e9))]) (w1 := [(h0, .inr (3, mF ad 2 sg sn hot pc u.1 u.2 fo fv to tv fi ti))]) hP hD [0] [1] rfl rfl (by decide) (by decide) hk1 hFc hP1 hD1
          generalize H1 = H at hP hS ⊢
          have hP : va_P D vwC [((ad 0), .inl (E.2.1, 8192, .inl e9)), (h0, .inr (3, mF ad 2 sg sn hot pc u.1 u.2 fo fv to tv fi ti))] H := hP
          have hD : va_D A [((ad 0), .inl (E.2.1, 8192, .inl e9)), (h0, .inr (3, mF ad 2 sg sn hot pc u.1 u.2 fo fv to tv fi ti))] := hD
          obtain rfl : rf3 = 0 := hw
          have hP := hP.sub (ws' := [(h0, .inr (3, mF ad 2 sg sn hot pc u.1 u.2 fo fv to tv fi ti)), ((ad 0), .inl (E.2.1, 8192, .inl e9))]) [1, 0] rfl
          have hD := hD.sub (ws' := [(h0, .inr (3, mF ad 2 sg sn hot pc u.1 u.2 fo fv to tv fi ti)), ((ad 0), .inl (E.2.1, 8192, .inl e9))]) [1, 0] (by decide) rfl
          exact W.iret (v := 0) hx hb hrt (fun t ht hW => ⟨⟨0, u, rfl, rfl, ⟨by rw [ht]; exact hP, hD⟩⟩, hS.F ht⟩) hS.2.2 d_M_crossing_50 hlocks
      · rw [hr3, b01_t hi.2.2] at c3
        exact absurd c3 (by decide)
set_option maxHeartbeats 4000000 in
set_option maxRecDepth 100000 in
theorem k_M_crossing (l : Launch) (D : va_G) (E : ClassId × ClassId × ClassId × ClassId) (h0 sz : Nat) (ad : Nat → Nat) (th sg sn hot pc cx cy : Int32) (fo fv to tv : Int64) (fi ti : Int32) (e9 : Nat → Int32) (k j : Nat) (w : Int32) (hk : 4 * k + 3 < 8192) (hj : 4 * j + 3 < 8192) (bk : bnd (mq e9 k)) (bj : bnd (mq e9 j)) (hi : mw_in (nI k) 0 (sg - 1) ∧ mw_in (nI j) 0 (sg - 1) ∧ mw_in w 0 1) (ok : mx_ok (mq e9 k) (mq e9 j)) : Met l y_M_crossing (.code y_M_crossing c_M_crossing 4 (some .int) :: gw) ({ frames := 2, cells := 0, slots := 0, locals := 80 } : Room) (wP D E [(h0, .inr (3, mF ad th sg sn hot pc cx cy fo fv to tv fi ti)), ((ad 0), .inl (E.2.1, 8192, .inl e9))] sz [.ref h0, .int (nI k), .int (nI j), .int w]) (va_Qi (fun (r : Int32) (u : Unit) => r = if w = 0 then mx_x (mq e9 k) (mq e9 j) else mx_y (mq e9 k) (mq e9 j)) (wB D (fun _ => [(h0, .inr (3, mF ad 0 sg sn hot pc (mx_x (mq e9 k) (mq e9 j)) (mx_y (mq e9 k) (mq e9 j)) fo fv to tv fi ti)), ((ad 0), .inl (E.2.1, 8192, .inl e9))]) (va_A [(h0, .inr (3, mF ad th sg sn hot pc cx cy fo fv to tv fi ti)), ((ad 0), .inl (E.2.1, 8192, .inl e9))] sz)) (va_A [(h0, .inr (3, mF ad th sg sn hot pc cx cy fo fv to tv fi ti)), ((ad 0), .inl (E.2.1, 8192, .inl e9))] sz)) 0 0 (va_A [(h0, .inr (3, mF ad th sg sn hot pc cx cy fo fv to tv fi ti)), ((ad 0), .inl (E.2.1, 8192, .inl e9))] sz) := by
  refine wr_ofW (Qc := fun A => (va_Qi (fun (r : Int32) (u : Unit) => r = if w = 0 then mx_x (mq e9 k) (mq e9 j) else mx_y (mq e9 k) (mq e9 j)) (wB D (fun _ => [(h0, .inr (3, mF ad 0 sg sn hot pc (mx_x (mq e9 k) (mq e9 j)) (mx_y (mq e9 k) (mq e9 j)) fo fv to tv fi ti)), ((ad 0), .inl (E.2.1, 8192, .inl e9))]) A) A)) (by decide) (Nat.le_of_ble_eq_true rfl) ?_
  intro p e s m below meth c B hP hK A hA hD hS ls hl
  obtain ⟨hx, hb, hrt, hml, hown, hts, hG, hlocks, hin⟩ := B
  have hl : lv_has ls 4 [(0, .ref h0), (1, .int (nI k)), (2, .int (nI j)), (3, .int w)] := hl
  refine lv_aload_n hx hb d_M_crossing_0 rfl (lv_at hl 0 rfl) ?_
  refine lv_iconst (v := 0) hx hb d_M_crossing_1 (by decide) ?_
  refine va_put (D := D) (ci := 3) (v := .int 0) (ty := .int) (C := K_M) (T := F_M) (N := 24) hx hb hG in_M t_M t_M_ok n_M hown hK.1 hP hD hS 0 rfl rfl 0 (by decide) (hG _ wd_648) (fun _ h9 => h9) rfl (by decide +kernel) rfl rfl (Nat.le_of_ble_eq_true rfl) d_M_crossing_2 (fun H locs hP hD hS => ?_)
  have hP : va_P D vwC [(h0, .inr (3, mF ad 0 sg sn hot pc cx cy fo fv to tv fi ti)), ((ad 0), .inl (E.2.1, 8192, .inl e9))] H := hP
  have hD : va_D A [(h0, .inr (3, mF ad 0 sg sn hot pc cx cy fo fv to tv fi ti)), ((ad 0), .inl (E.2.1, 8192, .inl e9))] := hD
  refine lv_aload_n hx hb d_M_crossing_5 rfl (lv_at hl 0 rfl) ?_
  refine lv_iload_n hx hb d_M_crossing_6 rfl (lv_at hl 1 rfl) ?_
  have hPc := hP.sub (ws' := [(h0, .inr (3, mF ad 0 sg sn hot pc cx cy fo fv to tv fi ti))]) [0] rfl
  refine vp_callSi (W.runV (As := [.int (nI k)]) (rest := []) ⟨hx, hb, hml, hown, hts⟩ (k_M_isSegment l D E h0 ad 0 sg sn hot pc cx cy fo fv to tv fi ti (nI k)) (cwV 1 hts (gw_gv wd_755 wd_757 wd_23 wd_42 wd_758) rfl rfl rfl (by decide +kernel) ⟨Nat.le_of_ble_eq_true rfl, Nat.le_of_ble_eq_true rfl⟩) (rP_V 0 hPc hK rfl rfl) rfl rfl hl.1 rfl (lv_room (Nat.le_of_ble_eq_true rfl)) d_M_crossing_7 ⟨Nat.le_of_ble_eq_true rfl, Nat.le_of_ble_eq_true rfl⟩) (fun is1 his1 => ?_)
  refine lv_if_eq (tgt := 30) hx hb d_M_crossing_10 (by decide) (fun c1 => ?_) (fun c1 => ?_)
  · rw [his1, b01_t hi.1] at c1
    exact absurd c1 (by decide)
  · refine lv_aload_n hx hb d_M_crossing_13 rfl (lv_at hl 0 rfl) ?_
    refine lv_iload_n hx hb d_M_crossing_14 rfl (lv_at hl 2 rfl) ?_
    have hPc := hP.sub (ws' := [(h0, .inr (3, mF ad 0 sg sn hot pc cx cy fo fv to tv fi ti))]) [0] rfl
    refine vp_callSi (W.runV (As := [.int (nI j)]) (rest := []) ⟨hx, hb, hml, hown, hts⟩ (k_M_isSegment l D E h0 ad 0 sg sn hot pc cx cy fo fv to tv fi ti (nI j)) (cwV 1 hts (gw_gv wd_755 wd_757 wd_23 wd_42 wd_758) rfl rfl rfl (by decide +kernel) ⟨Nat.le_of_ble_eq_true rfl, Nat.le_of_ble_eq_true rfl⟩) (rP_V 0 hPc hK rfl rfl) rfl rfl hl.1 rfl (lv_room (Nat.le_of_ble_eq_true rfl)) d_M_crossing_15 ⟨Nat.le_of_ble_eq_true rfl, Nat.le_of_ble_eq_true rfl⟩) (fun is2 his2 => ?_)
    refine lv_if_eq (tgt := 30) hx hb d_M_crossing_18 (by decide) (fun c2 => ?_) (fun c2 => ?_)
    · rw [his2, b01_t hi.2.1] at c2
      exact absurd c2 (by decide)
    · refine lv_iload_n hx hb d_M_crossing_21 rfl (lv_at hl 3 rfl) ?_
      refine lv_iconst (v := 0) hx hb d_M_crossing_22 (by decide) ?_
      refine lv_iconst (v := 1) hx hb d_M_crossing_23 (by decide) ?_
      have hPc := hP.sub (ws' := []) [] rfl
      refine vp_callSi (W.runS (As := [.int w, .int 0, .int 1]) (rest := []) ⟨hx, hb, hml, hown, hts⟩ (k_M_within l D E w 0 1) (va_cwS 3 hts (gw_gs wd_736 wd_737 wd_42 wd_738) rfl rfl rfl (by decide +kernel) ⟨Nat.le_of_ble_eq_true rfl, Nat.le_of_ble_eq_true rfl⟩) (rP_S hPc hK) rfl rfl hl.1 rfl (lv_room (Nat.le_of_ble_eq_true rfl)) d_M_crossing_24 ⟨Nat.le_of_ble_eq_true rfl, Nat.le_of_ble_eq_true rfl⟩) (fun r3 hr3 => ?_)
      refine lv_if_ne (tgt := 36) hx hb d_M_crossing_27 (by decide) (fun c3 => ?_) (fun c3 => ?_)
      · refine lv_aload_n hx hb d_M_crossing_36 rfl (lv_at hl 0 rfl) ?_
        refine lv_iload_n hx hb d_M_crossing_37 rfl (lv_at hl 1 rfl) ?_
        refine lv_iload_n hx hb d_M_crossing_38 rfl (lv_at hl 2 rfl) ?_
        have hPc := hP.sub (ws' := [(h0, .inr (3, mF ad 0 sg sn hot pc cx cy fo fv to tv fi ti)), ((ad 0), .inl (E.2.1, 8192, .inl e9))]) [0, 1] rfl
        have hDc := hD.sub (ws' := [(h0, .inr (3, mF ad 0 sg sn hot pc cx cy fo fv to tv fi ti)), ((ad 0), .inl (E.2.1, 8192, .inl e9))]) [0, 1] (by decide) rfl
        have hFc := va_free (wc := [(h0, .inr (3, mF ad 0 sg sn hot pc cx cy fo fv to tv fi ti)), ((ad 0), .inl (E.2.1, 8192, .inl e9))]) hD hS hA [0, 1] rfl
        refine va_calli (va_runV (As := [.int (nI k), .int (nI j)]) (rest := []) ⟨hx, hb, hml, hown, hts⟩ (k_M_cross l D E h0 H.size ad 0 sg sn hot pc cx cy fo fv to tv fi ti e9 k j hk hj bk bj) (cwV 2 hts (gw_gv wd_783 wd_785 wd_28 wd_42 wd_786) rfl rfl rfl (by decide +kernel) ⟨Nat.le_of_ble_eq_true rfl, Nat.le_of_ble_eq_true rfl⟩) (wP_V 0 hPc hK hDc rfl rfl) rfl rfl hl.1 rfl (lv_room (Nat.le_of_ble_eq_true rfl)) d_M_crossing_39 ⟨Nat.le_of_ble_eq_true rfl, Nat.le_of_ble_eq_true rfl⟩) hS (fun q _ h => hFc q h) hFc (fun rc u t H1 locs ht hvm hw hB hz1 hk1 hS => ?_)
        obtain ⟨hP1, hD1⟩ := hB
        rw [ht] at hP1
        obtain ⟨hP, hD⟩ := va_join (wr := []) (w1 := [(h0, .inr (3, mF ad 0 sg sn hot pc u.1 u.2 fo fv to tv fi ti)), ((ad 0), .inl (E.2.1, 8192, .inl e9))]) hP hD [0, 1] [] rfl rfl (by decide) (by decide) hk1 hFc hP1 hD1
        generalize H1 = H at hP hS ⊢
        have hP : va_P D vwC [(h0, .inr (3, mF ad 0 sg sn hot pc u.1 u.2 fo fv to tv fi ti)), ((ad 0), .inl (E.2.1, 8192, .inl e9))] H := hP
        have hD : va_D A [(h0, .inr (3, mF ad 0 sg sn hot pc u.1 u.2 fo fv to tv fi ti)), ((ad 0), .inl (E.2.1, 8192, .inl e9))] := hD
        obtain ⟨hw1, hw2⟩ := hw
        refine lv_if_ne (tgt := 51) hx hb d_M_crossing_42 (by decide) (fun c4 => ?_) (fun c4 => ?_)
        · obtain rfl := hw2 ok
          have hP : va_P D vwC [(h0, .inr (3, mF ad 0 sg sn hot pc (mx_x (mq e9 k) (mq e9 j)) (mx_y (mq e9 k) (mq e9 j)) fo fv to tv fi ti)), ((ad 0), .inl (E.2.1, 8192, .inl e9))] H := hP
          have hD : va_D A [(h0, .inr (3, mF ad 0 sg sn hot pc (mx_x (mq e9 k) (mq e9 j)) (mx_y (mq e9 k) (mq e9 j)) fo fv to tv fi ti)), ((ad 0), .inl (E.2.1, 8192, .inl e9))] := hD
          refine lv_iload_n hx hb d_M_crossing_51 rfl (lv_at hl 3 rfl) ?_
          refine lv_if_ne (tgt := 62) hx hb d_M_crossing_52 (by decide) (fun c5 => ?_) (fun c5 => ?_)
          · refine lv_aload_n hx hb d_M_crossing_62 rfl (lv_at hl 0 rfl) ?_
            refine va_get (D := D) (ci := 3) (v := .int (mx_y (mq e9 k) (mq e9 j))) (C := K_M) (T := F_M) (N := 24) hx hb hG in_M hown hK.1 hP 0 rfl rfl 14 (by decide) (hG _ wd_662) (fun _ h9 => h9) rfl d_M_crossing_63 ?_
            exact W.iret (v := mx_y (mq e9 k) (mq e9 j)) hx hb hrt (fun t ht hW => ⟨⟨mx_y (mq e9 k) (mq e9 j), (), rfl, (if_neg c5).symm, ⟨by rw [ht]; exact hP, hD⟩⟩, hS.F ht⟩) hS.2.2 d_M_crossing_66 hlocks
          · refine lv_aload_n hx hb d_M_crossing_55 rfl (lv_at hl 0 rfl) ?_
            refine va_get (D := D) (ci := 3) (v := .int (mx_x (mq e9 k) (mq e9 j))) (C := K_M) (T := F_M) (N := 24) hx hb hG in_M hown hK.1 hP 0 rfl rfl 13 (by decide) (hG _ wd_661) (fun _ h9 => h9) rfl d_M_crossing_56 ?_
            refine lv_goto (tgt := 66) hx hb d_M_crossing_59 (by decide) ?_
            exact W.iret (v := mx_x (mq e9 k) (mq e9 j)) hx hb hrt (fun t ht hW => ⟨⟨mx_x (mq e9 k) (mq e9 j), (), rfl, (if_pos c5).symm, ⟨by rw [ht]; exact hP, hD⟩⟩, hS.F ht⟩) hS.2.2 d_M_crossing_66 hlocks
        · rw [hw1, b01_t ok] at c4
          exact absurd c4 (by decide)
      · rw [hr3, b01_t hi.2.2] at c3
        exact absurd c3 (by decide)
set_option maxHeartbeats 4000000 in
set_option maxRecDepth 100000 in
theorem k_M_pixel_n (l : Launch) (D : va_G) (E : ClassId × ClassId × ClassId × ClassId) (h0 sz : Nat) (ad : Nat → Nat) (th sg sn hot pc cx cy : Int32) (fo fv to tv : Int64) (fi ti : Int32) (k w : Int32) (hn : ¬ (mw_in k 0 (hot - 1) ∧ mw_in w 0 1)) : Met l y_M_pixel (.code y_M_pixel c_M_pixel 3 (some .int) :: gw) ({ frames := 1, cells := 0, slots := 0, locals := 40 } : Room) (wP D E [(h0, .inr (3, mF ad th sg sn hot pc cx cy fo fv to tv fi ti))] sz [.ref h0, .int k, .int w]) (va_Qi (fun (r : Int32) (u : Unit) => r = 0) (wB D (fun _ => [(h0, .inr (3, mF ad 1 sg sn hot pc cx cy fo fv to tv fi ti))]) (va_A [(h0, .inr (3, mF ad th sg sn hot pc cx cy fo fv to tv fi ti))] sz)) (va_A [(h0, .inr (3, mF ad th sg sn hot pc cx cy fo fv to tv fi ti))] sz)) 0 0 (va_A [(h0, .inr (3, mF ad th sg sn hot pc cx cy fo fv to tv fi ti))] sz) := by
  refine wr_ofW (Qc := fun A => (va_Qi (fun (r : Int32) (u : Unit) => r = 0) (wB D (fun _ => [(h0, .inr (3, mF ad 1 sg sn hot pc cx cy fo fv to tv fi ti))]) A) A)) (by decide) (Nat.le_of_ble_eq_true rfl) ?_
  intro p e s m below meth c B hP hK A hA hD hS ls hl
  obtain ⟨hx, hb, hrt, hml, hown, hts, hG, hlocks, hin⟩ := B
  have hl : lv_has ls 3 [(0, .ref h0), (1, .int k), (2, .int w)] := hl
  refine lv_aload_n hx hb d_M_pixel_0 rfl (lv_at hl 0 rfl) ?_
  refine lv_iconst (v := 0) hx hb d_M_pixel_1 (by decide) ?_
  refine va_put (D := D) (ci := 3) (v := .int 0) (ty := .int) (C := K_M) (T := F_M) (N := 24) hx hb hG in_M t_M t_M_ok n_M hown hK.1 hP hD hS 0 rfl rfl 0 (by decide) (hG _ wd_648) (fun _ h9 => h9) rfl (by decide +kernel) rfl rfl (Nat.le_of_ble_eq_true rfl) d_M_pixel_2 (fun H locs hP hD hS => ?_)
  have hP : va_P D vwC [(h0, .inr (3, mF ad 0 sg sn hot pc cx cy fo fv to tv fi ti))] H := hP
  have hD : va_D A [(h0, .inr (3, mF ad 0 sg sn hot pc cx cy fo fv to tv fi ti))] := hD
  refine lv_iload_n hx hb d_M_pixel_5 rfl (lv_at hl 1 rfl) ?_
  refine lv_iconst (v := 0) hx hb d_M_pixel_6 (by decide) ?_
  refine lv_aload_n hx hb d_M_pixel_7 rfl (lv_at hl 0 rfl) ?_
  refine va_get (D := D) (ci := 3) (v := .int hot) (C := K_M) (T := F_M) (N := 24) hx hb hG in_M hown hK.1 hP 0 rfl rfl 4 (by decide) (hG _ wd_652) (fun _ h9 => h9) rfl d_M_pixel_8 ?_
  refine lv_iconst (v := 1) hx hb d_M_pixel_11 (by decide) ?_
  refine lv_isub hx hb d_M_pixel_12 ?_
  have hPc := hP.sub (ws' := []) [] rfl
  refine vp_callSi (W.runS (As := [.int k, .int 0, .int (hot - 1)]) (rest := []) ⟨hx, hb, hml, hown, hts⟩ (k_M_within l D E k 0 (hot - 1)) (va_cwS 3 hts (gw_gs wd_736 wd_737 wd_42 wd_738) rfl rfl rfl (by decide +kernel) ⟨Nat.le_of_ble_eq_true rfl, Nat.le_of_ble_eq_true rfl⟩) (rP_S hPc hK) rfl rfl hl.1 rfl (lv_room (Nat.le_of_ble_eq_true rfl)) d_M_pixel_13 ⟨Nat.le_of_ble_eq_true rfl, Nat.le_of_ble_eq_true rfl⟩) (fun r1 hr1 => ?_)
  refine lv_if_eq (tgt := 28) hx hb d_M_pixel_16 (by decide) (fun c1 => ?_) (fun c1 => ?_)
  · refine lv_aload_n hx hb d_M_pixel_28 rfl (lv_at hl 0 rfl) ?_
    refine lv_iconst (v := 1) hx hb d_M_pixel_29 (by decide) ?_
    have hPc := hP.sub (ws' := [(h0, .inr (3, mF ad 0 sg sn hot pc cx cy fo fv to tv fi ti))]) [0] rfl
    have hDc := hD.sub (ws' := [(h0, .inr (3, mF ad 0 sg sn hot pc cx cy fo fv to tv fi ti))]) [0] (by decide) rfl
    have hFc := va_free (wc := [(h0, .inr (3, mF ad 0 sg sn hot pc cx cy fo fv to tv fi ti))]) hD hS hA [0] rfl
    refine va_calli (va_runV (As := [.int 1]) (rest := []) ⟨hx, hb, hml, hown, hts⟩ (k_M_fail l D E h0 H.size ad 0 sg sn hot pc cx cy fo fv to tv fi ti 1) (cwV 1 hts (gw_gv wd_739 wd_741 wd_21 wd_42 wd_742) rfl rfl rfl (by decide +kernel) ⟨Nat.le_of_ble_eq_true rfl, Nat.le_of_ble_eq_true rfl⟩) (wP_V 0 hPc hK hDc rfl rfl) rfl rfl hl.1 rfl (lv_room (Nat.le_of_ble_eq_true rfl)) d_M_pixel_30 ⟨Nat.le_of_ble_eq_true rfl, Nat.le_of_ble_eq_true rfl⟩) hS (fun q _ h => hFc q h) hFc (fun rf1 u9 t H1 locs ht hvm hw hB hz1 hk1 hS => ?_)
    obtain ⟨hP1, hD1⟩ := hB
    rw [ht] at hP1
    obtain ⟨hP, hD⟩ := va_join (wr := []) (w1 := [(h0, .inr (3, mF ad 1 sg sn hot pc cx cy fo fv to tv fi ti))]) hP hD [0] [] rfl rfl (by decide) (by decide) hk1 hFc hP1 hD1
    generalize H1 = H at hP hS ⊢
    have hP : va_P D vwC [(h0, .inr (3, mF ad 1 sg sn hot pc cx cy fo fv to tv fi ti))] H := hP
    have hD : va_D A [(h0, .inr (3, mF ad 1 sg sn hot pc cx cy fo fv to tv fi ti))] := hD
    obtain rfl : rf1 = 0 := hw
    exact W.iret (v := 0) hx hb hrt (fun t ht hW => ⟨⟨0, (), rfl, rfl, ⟨by rw [ht]; exact hP, hD⟩⟩, hS.F ht⟩) hS.2.2 d_M_pixel_33 hlocks
  · rw [hr1] at c1
    refine lv_iload_n hx hb d_M_pixel_19 rfl (lv_at hl 2 rfl) ?_
    refine lv_iconst (v := 0) hx hb d_M_pixel_20 (by decide) ?_
    refine lv_iconst (v := 1) hx hb d_M_pixel_21 (by decide) ?_
    have hPc := hP.sub (ws' := []) [] rfl
    refine vp_callSi (W.runS (As := [.int w, .int 0, .int 1]) (rest := []) ⟨hx, hb, hml, hown, hts⟩ (k_M_within l D E w 0 1) (va_cwS 3 hts (gw_gs wd_736 wd_737 wd_42 wd_738) rfl rfl rfl (by decide +kernel) ⟨Nat.le_of_ble_eq_true rfl, Nat.le_of_ble_eq_true rfl⟩) (rP_S hPc hK) rfl rfl hl.1 rfl (lv_room (Nat.le_of_ble_eq_true rfl)) d_M_pixel_22 ⟨Nat.le_of_ble_eq_true rfl, Nat.le_of_ble_eq_true rfl⟩) (fun r2 hr2 => ?_)
    refine lv_if_ne (tgt := 34) hx hb d_M_pixel_25 (by decide) (fun c2 => ?_) (fun c2 => ?_)
    · rw [hr2] at c2
      exact absurd ⟨b01_1 c1, b01_1 c2⟩ hn
    · refine lv_aload_n hx hb d_M_pixel_28 rfl (lv_at hl 0 rfl) ?_
      refine lv_iconst (v := 1) hx hb d_M_pixel_29 (by decide) ?_
      have hPc := hP.sub (ws' := [(h0, .inr (3, mF ad 0 sg sn hot pc cx cy fo fv to tv fi ti))]) [0] rfl
      have hDc := hD.sub (ws' := [(h0, .inr (3, mF ad 0 sg sn hot pc cx cy fo fv to tv fi ti))]) [0] (by decide) rfl
      have hFc := va_free (wc := [(h0, .inr (3, mF ad 0 sg sn hot pc cx cy fo fv to tv fi ti))]) hD hS hA [0] rfl
      refine va_calli (va_runV (As := [.int 1]) (rest := []) ⟨hx, hb, hml, hown, hts⟩ (k_M_fail l D E h0 H.size ad 0 sg sn hot pc cx cy fo fv to tv fi ti 1) (cwV 1 hts (gw_gv wd_739 wd_741 wd_21 wd_42 wd_742) rfl rfl rfl (by decide +kernel) ⟨Nat.le_of_ble_eq_true rfl, Nat.le_of_ble_eq_true rfl⟩) (wP_V 0 hPc hK hDc rfl rfl) rfl rfl hl.1 rfl (lv_room (Nat.le_of_ble_eq_true rfl)) d_M_pixel_30 ⟨Nat.le_of_ble_eq_true rfl, Nat.le_of_ble_eq_true rfl⟩) hS (fun q _ h => hFc q h) hFc (fun rf2 u9 t H1 locs ht hvm hw hB hz1 hk1 hS => ?_)
      obtain ⟨hP1, hD1⟩ := hB
      rw [ht] at hP1
      obtain ⟨hP, hD⟩ := va_join (wr := []) (w1 := [(h0, .inr (3, mF ad 1 sg sn hot pc cx cy fo fv to tv fi ti))]) hP hD [0] [] rfl rfl (by decide) (by decide) hk1 hFc hP1 hD1
      generalize H1 = H at hP hS ⊢
      have hP : va_P D vwC [(h0, .inr (3, mF ad 1 sg sn hot pc cx cy fo fv to tv fi ti))] H := hP
      have hD : va_D A [(h0, .inr (3, mF ad 1 sg sn hot pc cx cy fo fv to tv fi ti))] := hD
      obtain rfl : rf2 = 0 := hw
      exact W.iret (v := 0) hx hb hrt (fun t ht hW => ⟨⟨0, (), rfl, rfl, ⟨by rw [ht]; exact hP, hD⟩⟩, hS.F ht⟩) hS.2.2 d_M_pixel_33 hlocks
set_option maxHeartbeats 4000000 in
set_option maxRecDepth 100000 in
theorem k_M_pixel (l : Launch) (D : va_G) (E : ClassId × ClassId × ClassId × ClassId) (h0 sz : Nat) (ad : Nat → Nat) (th sg sn hot pc cx cy : Int32) (fo fv to tv : Int64) (fi ti : Int32) (gx gy : Nat → Int32) (k : Nat) (w : Int32) (hk : k < 8192) (hi : mw_in (nI k) 0 (hot - 1) ∧ mw_in w 0 1) : Met l y_M_pixel (.code y_M_pixel c_M_pixel 3 (some .int) :: gw) ({ frames := 1, cells := 0, slots := 0, locals := 40 } : Room) (wP D E [(h0, .inr (3, mF ad th sg sn hot pc cx cy fo fv to tv fi ti)), ((ad 1), .inl (E.2.1, 8193, .inl gx)), ((ad 2), .inl (E.2.1, 8193, .inl gy))] sz [.ref h0, .int (nI k), .int w]) (va_Qi (fun (r : Int32) (u : Unit) => r = if w = 0 then gx k else gy k) (wB D (fun _ => [(h0, .inr (3, mF ad 0 sg sn hot pc cx cy fo fv to tv fi ti)), ((ad 1), .inl (E.2.1, 8193, .inl gx)), ((ad 2), .inl (E.2.1, 8193, .inl gy))]) (va_A [(h0, .inr (3, mF ad th sg sn hot pc cx cy fo fv to tv fi ti)), ((ad 1), .inl (E.2.1, 8193, .inl gx)), ((ad 2), .inl (E.2.1, 8193, .inl gy))] sz)) (va_A [(h0, .inr (3, mF ad th sg sn hot pc cx cy fo fv to tv fi ti)), ((ad 1), .inl (E.2.1, 8193, .inl gx)), ((ad 2), .inl (E.2.1, 8193, .inl gy))] sz)) 0 0 (va_A [(h0, .inr (3, mF ad th sg sn hot pc cx cy fo fv to tv fi ti)), ((ad 1), .inl (E.2.1, 8193, .inl gx)), ((ad 2), .inl (E.2.1, 8193, .inl gy))] sz) := by
  refine wr_ofW (Qc := fun A => (va_Qi (fun (r : Int32) (u : Unit) => r = if w = 0 then gx k else gy k) (wB D (fun _ => [(h0, .inr (3, mF ad 0 sg sn hot pc cx cy fo fv to tv fi ti)), ((ad 1), .inl (E.2.1, 8193, .inl gx)), ((ad 2), .inl (E.2.1, 8193, .inl gy))]) A) A)) (by decide) (Nat.le_of_ble_eq_true rfl) ?_
  intro p e s m below meth c B hP hK A hA hD hS ls hl
  obtain ⟨hx, hb, hrt, hml, hown, hts, hG, hlocks, hin⟩ := B
  have hl : lv_has ls 3 [(0, .ref h0), (1, .int (nI k)), (2, .int w)] := hl
  refine lv_aload_n hx hb d_M_pixel_0 rfl (lv_at hl 0 rfl) ?_
  refine lv_iconst (v := 0) hx hb d_M_pixel_1 (by decide) ?_
  refine va_put (D := D) (ci := 3) (v := .int 0) (ty := .int) (C := K_M) (T := F_M) (N := 24) hx hb hG in_M t_M t_M_ok n_M hown hK.1 hP hD hS 0 rfl rfl 0 (by decide) (hG _ wd_648) (fun _ h9 => h9) rfl (by decide +kernel) rfl rfl (Nat.le_of_ble_eq_true rfl) d_M_pixel_2 (fun H locs hP hD hS => ?_)
  have hP : va_P D vwC [(h0, .inr (3, mF ad 0 sg sn hot pc cx cy fo fv to tv fi ti)), ((ad 1), .inl (E.2.1, 8193, .inl gx)), ((ad 2), .inl (E.2.1, 8193, .inl gy))] H := hP
  have hD : va_D A [(h0, .inr (3, mF ad 0 sg sn hot pc cx cy fo fv to tv fi ti)), ((ad 1), .inl (E.2.1, 8193, .inl gx)), ((ad 2), .inl (E.2.1, 8193, .inl gy))] := hD
  refine lv_iload_n hx hb d_M_pixel_5 rfl (lv_at hl 1 rfl) ?_
  refine lv_iconst (v := 0) hx hb d_M_pixel_6 (by decide) ?_
  refine lv_aload_n hx hb d_M_pixel_7 rfl (lv_at hl 0 rfl) ?_
  refine va_get (D := D) (ci := 3) (v := .int hot) (C := K_M) (T := F_M) (N := 24) hx hb hG in_M hown hK.1 hP 0 rfl rfl 4 (by decide) (hG _ wd_652) (fun _ h9 => h9) rfl d_M_pixel_8 ?_
  refine lv_iconst (v := 1) hx hb d_M_pixel_11 (by decide) ?_
  refine lv_isub hx hb d_M_pixel_12 ?_
  have hPc := hP.sub (ws' := []) [] rfl
  refine vp_callSi (W.runS (As := [.int (nI k), .int 0, .int (hot - 1)]) (rest := []) ⟨hx, hb, hml, hown, hts⟩ (k_M_within l D E (nI k) 0 (hot - 1)) (va_cwS 3 hts (gw_gs wd_736 wd_737 wd_42 wd_738) rfl rfl rfl (by decide +kernel) ⟨Nat.le_of_ble_eq_true rfl, Nat.le_of_ble_eq_true rfl⟩) (rP_S hPc hK) rfl rfl hl.1 rfl (lv_room (Nat.le_of_ble_eq_true rfl)) d_M_pixel_13 ⟨Nat.le_of_ble_eq_true rfl, Nat.le_of_ble_eq_true rfl⟩) (fun r1 hr1 => ?_)
  refine lv_if_eq (tgt := 28) hx hb d_M_pixel_16 (by decide) (fun c1 => ?_) (fun c1 => ?_)
  · rw [hr1, b01_t hi.1] at c1
    exact absurd c1 (by decide)
  · refine lv_iload_n hx hb d_M_pixel_19 rfl (lv_at hl 2 rfl) ?_
    refine lv_iconst (v := 0) hx hb d_M_pixel_20 (by decide) ?_
    refine lv_iconst (v := 1) hx hb d_M_pixel_21 (by decide) ?_
    have hPc := hP.sub (ws' := []) [] rfl
    refine vp_callSi (W.runS (As := [.int w, .int 0, .int 1]) (rest := []) ⟨hx, hb, hml, hown, hts⟩ (k_M_within l D E w 0 1) (va_cwS 3 hts (gw_gs wd_736 wd_737 wd_42 wd_738) rfl rfl rfl (by decide +kernel) ⟨Nat.le_of_ble_eq_true rfl, Nat.le_of_ble_eq_true rfl⟩) (rP_S hPc hK) rfl rfl hl.1 rfl (lv_room (Nat.le_of_ble_eq_true rfl)) d_M_pixel_22 ⟨Nat.le_of_ble_eq_true rfl, Nat.le_of_ble_eq_true rfl⟩) (fun r2 hr2 => ?_)
    refine lv_if_ne (tgt := 34) hx hb d_M_pixel_25 (by decide) (fun c2 => ?_) (fun c2 => ?_)
    · refine lv_iload_n hx hb d_M_pixel_34 rfl (lv_at hl 2 rfl) ?_
      refine lv_if_ne (tgt := 47) hx hb d_M_pixel_35 (by decide) (fun c3 => ?_) (fun c3 => ?_)
      · refine lv_aload_n hx hb d_M_pixel_47 rfl (lv_at hl 0 rfl) ?_
        refine va_get (D := D) (ci := 3) (v := .ref (ad 2)) (C := K_M) (T := F_M) (N := 24) hx hb hG in_M hown hK.1 hP 0 rfl rfl 6 (by decide) (hG _ wd_654) (fun _ h9 => h9) rfl d_M_pixel_48 ?_
        refine lv_iload_n hx hb d_M_pixel_51 rfl (lv_at hl 1 rfl) ?_
        refine va_iald hx hb hK.1 hP 2 1 rfl rfl (vp_in_nI (by omega) (by omega)) d_M_pixel_52 ?_
        rw [show gy (Int32.toNatClampNeg (nI k)) = gy k from by rw [nI_clamp (by omega)]]
        exact W.iret (v := gy k) hx hb hrt (fun t ht hW => ⟨⟨gy k, (), rfl, (if_neg c3).symm, ⟨by rw [ht]; exact hP, hD⟩⟩, hS.F ht⟩) hS.2.2 d_M_pixel_53 hlocks
      · refine lv_aload_n hx hb d_M_pixel_38 rfl (lv_at hl 0 rfl) ?_
        refine va_get (D := D) (ci := 3) (v := .ref (ad 1)) (C := K_M) (T := F_M) (N := 24) hx hb hG in_M hown hK.1 hP 0 rfl rfl 5 (by decide) (hG _ wd_653) (fun _ h9 => h9) rfl d_M_pixel_39 ?_
        refine lv_iload_n hx hb d_M_pixel_42 rfl (lv_at hl 1 rfl) ?_
        refine va_iald hx hb hK.1 hP 1 1 rfl rfl (vp_in_nI (by omega) (by omega)) d_M_pixel_43 ?_
        rw [show gx (Int32.toNatClampNeg (nI k)) = gx k from by rw [nI_clamp (by omega)]]
        refine lv_goto (tgt := 53) hx hb d_M_pixel_44 (by decide) ?_
        exact W.iret (v := gx k) hx hb hrt (fun t ht hW => ⟨⟨gx k, (), rfl, (if_pos c3).symm, ⟨by rw [ht]; exact hP, hD⟩⟩, hS.F ht⟩) hS.2.2 d_M_pixel_53 hlocks
    · rw [hr2, b01_t hi.2] at c2
      exact absurd c2 (by decide)
set_option maxHeartbeats 4000000 in
set_option maxRecDepth 100000 in
theorem k_M_piece_n (l : Launch) (D : va_G) (E : ClassId × ClassId × ClassId × ClassId) (h0 sz : Nat) (ad : Nat → Nat) (th sg sn hot pc cx cy : Int32) (fo fv to tv : Int64) (fi ti : Int32) (k w : Int32) (hn : ¬ (mw_in k 0 (pc - 1) ∧ mw_in w 0 2)) : Met l y_M_piece (.code y_M_piece c_M_piece 3 (some .int) :: gw) ({ frames := 1, cells := 0, slots := 0, locals := 40 } : Room) (wP D E [(h0, .inr (3, mF ad th sg sn hot pc cx cy fo fv to tv fi ti))] sz [.ref h0, .int k, .int w]) (va_Qi (fun (r : Int32) (u : Unit) => r = 0) (wB D (fun _ => [(h0, .inr (3, mF ad 1 sg sn hot pc cx cy fo fv to tv fi ti))]) (va_A [(h0, .inr (3, mF ad th sg sn hot pc cx cy fo fv to tv fi ti))] sz)) (va_A [(h0, .inr (3, mF ad th sg sn hot pc cx cy fo fv to tv fi ti))] sz)) 0 0 (va_A [(h0, .inr (3, mF ad th sg sn hot pc cx cy fo fv to tv fi ti))] sz) := by
  refine wr_ofW (Qc := fun A => (va_Qi (fun (r : Int32) (u : Unit) => r = 0) (wB D (fun _ => [(h0, .inr (3, mF ad 1 sg sn hot pc cx cy fo fv to tv fi ti))]) A) A)) (by decide) (Nat.le_of_ble_eq_true rfl) ?_
  intro p e s m below meth c B hP hK A hA hD hS ls hl
  obtain ⟨hx, hb, hrt, hml, hown, hts, hG, hlocks, hin⟩ := B
  have hl : lv_has ls 3 [(0, .ref h0), (1, .int k), (2, .int w)] := hl
  refine lv_aload_n hx hb d_M_piece_0 rfl (lv_at hl 0 rfl) ?_
  refine lv_iconst (v := 0) hx hb d_M_piece_1 (by decide) ?_
  refine va_put (D := D) (ci := 3) (v := .int 0) (ty := .int) (C := K_M) (T := F_M) (N := 24) hx hb hG in_M t_M t_M_ok n_M hown hK.1 hP hD hS 0 rfl rfl 0 (by decide) (hG _ wd_648) (fun _ h9 => h9) rfl (by decide +kernel) rfl rfl (Nat.le_of_ble_eq_true rfl) d_M_piece_2 (fun H locs hP hD hS => ?_)
  have hP : va_P D vwC [(h0, .inr (3, mF ad 0 sg sn hot pc cx cy fo fv to tv fi ti))] H := hP
  have hD : va_D A [(h0, .inr (3, mF ad 0 sg sn hot pc cx cy fo fv to tv fi ti))] := hD
  refine lv_iload_n hx hb d_M_piece_5 rfl (lv_at hl 1 rfl) ?_
  refine lv_iconst (v := 0) hx hb d_M_piece_6 (by decide) ?_
  refine lv_aload_n hx hb d_M_piece_7 rfl (lv_at hl 0 rfl) ?_
  refine va_get (D := D) (ci := 3) (v := .int pc) (C := K_M) (T := F_M) (N := 24) hx hb hG in_M hown hK.1 hP 0 rfl rfl 9 (by decide) (hG _ wd_657) (fun _ h9 => h9) rfl d_M_piece_8 ?_
  refine lv_iconst (v := 1) hx hb d_M_piece_11 (by decide) ?_
  refine lv_isub hx hb d_M_piece_12 ?_
  have hPc := hP.sub (ws' := []) [] rfl
  refine vp_callSi (W.runS (As := [.int k, .int 0, .int (pc - 1)]) (rest := []) ⟨hx, hb, hml, hown, hts⟩ (k_M_within l D E k 0 (pc - 1)) (va_cwS 3 hts (gw_gs wd_736 wd_737 wd_42 wd_738) rfl rfl rfl (by decide +kernel) ⟨Nat.le_of_ble_eq_true rfl, Nat.le_of_ble_eq_true rfl⟩) (rP_S hPc hK) rfl rfl hl.1 rfl (lv_room (Nat.le_of_ble_eq_true rfl)) d_M_piece_13 ⟨Nat.le_of_ble_eq_true rfl, Nat.le_of_ble_eq_true rfl⟩) (fun r1 hr1 => ?_)
  refine lv_if_eq (tgt := 28) hx hb d_M_piece_16 (by decide) (fun c1 => ?_) (fun c1 => ?_)
  · refine lv_aload_n hx hb d_M_piece_28 rfl (lv_at hl 0 rfl) ?_
    refine lv_iconst (v := 1) hx hb d_M_piece_29 (by decide) ?_
    have hPc := hP.sub (ws' := [(h0, .inr (3, mF ad 0 sg sn hot pc cx cy fo fv to tv fi ti))]) [0] rfl
    have hDc := hD.sub (ws' := [(h0, .inr (3, mF ad 0 sg sn hot pc cx cy fo fv to tv fi ti))]) [0] (by decide) rfl
    have hFc := va_free (wc := [(h0, .inr (3, mF ad 0 sg sn hot pc cx cy fo fv to tv fi ti))]) hD hS hA [0] rfl
    refine va_calli (va_runV (As := [.int 1]) (rest := []) ⟨hx, hb, hml, hown, hts⟩ (k_M_fail l D E h0 H.size ad 0 sg sn hot pc cx cy fo fv to tv fi ti 1) (cwV 1 hts (gw_gv wd_739 wd_741 wd_21 wd_42 wd_742) rfl rfl rfl (by decide +kernel) ⟨Nat.le_of_ble_eq_true rfl, Nat.le_of_ble_eq_true rfl⟩) (wP_V 0 hPc hK hDc rfl rfl) rfl rfl hl.1 rfl (lv_room (Nat.le_of_ble_eq_true rfl)) d_M_piece_30 ⟨Nat.le_of_ble_eq_true rfl, Nat.le_of_ble_eq_true rfl⟩) hS (fun q _ h => hFc q h) hFc (fun rf1 u9 t H1 locs ht hvm hw hB hz1 hk1 hS => ?_)
    obtain ⟨hP1, hD1⟩ := hB
    rw [ht] at hP1
    obtain ⟨hP, hD⟩ := va_join (wr := []) (w1 := [(h0, .inr (3, mF ad 1 sg sn hot pc cx cy fo fv to tv fi ti))]) hP hD [0] [] rfl rfl (by decide) (by decide) hk1 hFc hP1 hD1
    generalize H1 = H at hP hS ⊢
    have hP : va_P D vwC [(h0, .inr (3, mF ad 1 sg sn hot pc cx cy fo fv to tv fi ti))] H := hP
    have hD : va_D A [(h0, .inr (3, mF ad 1 sg sn hot pc cx cy fo fv to tv fi ti))] := hD
    obtain rfl : rf1 = 0 := hw
    exact W.iret (v := 0) hx hb hrt (fun t ht hW => ⟨⟨0, (), rfl, rfl, ⟨by rw [ht]; exact hP, hD⟩⟩, hS.F ht⟩) hS.2.2 d_M_piece_33 hlocks
  · rw [hr1] at c1
    refine lv_iload_n hx hb d_M_piece_19 rfl (lv_at hl 2 rfl) ?_
    refine lv_iconst (v := 0) hx hb d_M_piece_20 (by decide) ?_
    refine lv_iconst (v := 2) hx hb d_M_piece_21 (by decide) ?_
    have hPc := hP.sub (ws' := []) [] rfl
    refine vp_callSi (W.runS (As := [.int w, .int 0, .int 2]) (rest := []) ⟨hx, hb, hml, hown, hts⟩ (k_M_within l D E w 0 2) (va_cwS 3 hts (gw_gs wd_736 wd_737 wd_42 wd_738) rfl rfl rfl (by decide +kernel) ⟨Nat.le_of_ble_eq_true rfl, Nat.le_of_ble_eq_true rfl⟩) (rP_S hPc hK) rfl rfl hl.1 rfl (lv_room (Nat.le_of_ble_eq_true rfl)) d_M_piece_22 ⟨Nat.le_of_ble_eq_true rfl, Nat.le_of_ble_eq_true rfl⟩) (fun r2 hr2 => ?_)
    refine lv_if_ne (tgt := 34) hx hb d_M_piece_25 (by decide) (fun c2 => ?_) (fun c2 => ?_)
    · rw [hr2] at c2
      exact absurd ⟨b01_1 c1, b01_1 c2⟩ hn
    · refine lv_aload_n hx hb d_M_piece_28 rfl (lv_at hl 0 rfl) ?_
      refine lv_iconst (v := 1) hx hb d_M_piece_29 (by decide) ?_
      have hPc := hP.sub (ws' := [(h0, .inr (3, mF ad 0 sg sn hot pc cx cy fo fv to tv fi ti))]) [0] rfl
      have hDc := hD.sub (ws' := [(h0, .inr (3, mF ad 0 sg sn hot pc cx cy fo fv to tv fi ti))]) [0] (by decide) rfl
      have hFc := va_free (wc := [(h0, .inr (3, mF ad 0 sg sn hot pc cx cy fo fv to tv fi ti))]) hD hS hA [0] rfl
      refine va_calli (va_runV (As := [.int 1]) (rest := []) ⟨hx, hb, hml, hown, hts⟩ (k_M_fail l D E h0 H.size ad 0 sg sn hot pc cx cy fo fv to tv fi ti 1) (cwV 1 hts (gw_gv wd_739 wd_741 wd_21 wd_42 wd_742) rfl rfl rfl (by decide +kernel) ⟨Nat.le_of_ble_eq_true rfl, Nat.le_of_ble_eq_true rfl⟩) (wP_V 0 hPc hK hDc rfl rfl) rfl rfl hl.1 rfl (lv_room (Nat.le_of_ble_eq_true rfl)) d_M_piece_30 ⟨Nat.le_of_ble_eq_true rfl, Nat.le_of_ble_eq_true rfl⟩) hS (fun q _ h => hFc q h) hFc (fun rf2 u9 t H1 locs ht hvm hw hB hz1 hk1 hS => ?_)
      obtain ⟨hP1, hD1⟩ := hB
      rw [ht] at hP1
      obtain ⟨hP, hD⟩ := va_join (wr := []) (w1 := [(h0, .inr (3, mF ad 1 sg sn hot pc cx cy fo fv to tv fi ti))]) hP hD [0] [] rfl rfl (by decide) (by decide) hk1 hFc hP1 hD1
      generalize H1 = H at hP hS ⊢
      have hP : va_P D vwC [(h0, .inr (3, mF ad 1 sg sn hot pc cx cy fo fv to tv fi ti))] H := hP
      have hD : va_D A [(h0, .inr (3, mF ad 1 sg sn hot pc cx cy fo fv to tv fi ti))] := hD
      obtain rfl : rf2 = 0 := hw
      exact W.iret (v := 0) hx hb hrt (fun t ht hW => ⟨⟨0, (), rfl, rfl, ⟨by rw [ht]; exact hP, hD⟩⟩, hS.F ht⟩) hS.2.2 d_M_piece_33 hlocks
set_option maxHeartbeats 4000000 in
set_option maxRecDepth 100000 in
theorem k_M_piece (l : Launch) (D : va_G) (E : ClassId × ClassId × ClassId × ClassId) (h0 sz : Nat) (ad : Nat → Nat) (th sg sn hot pc cx cy : Int32) (fo fv to tv : Int64) (fi ti : Int32) (gl gh go : Nat → Int32) (k : Nat) (w : Int32) (hk : k < 65536) (hi : mw_in (nI k) 0 (pc - 1) ∧ mw_in w 0 2) : Met l y_M_piece (.code y_M_piece c_M_piece 3 (some .int) :: gw) ({ frames := 1, cells := 0, slots := 0, locals := 40 } : Room) (wP D E [(h0, .inr (3, mF ad th sg sn hot pc cx cy fo fv to tv fi ti)), ((ad 5), .inl (E.2.1, 65536, .inl gl)), ((ad 6), .inl (E.2.1, 65536, .inl gh)), ((ad 7), .inl (E.2.1, 65536, .inl go))] sz [.ref h0, .int (nI k), .int w]) (va_Qi (fun (r : Int32) (u : Unit) => r = if w = 0 then gl k else if w = 1 then gh k else go k) (wB D (fun _ => [(h0, .inr (3, mF ad 0 sg sn hot pc cx cy fo fv to tv fi ti)), ((ad 5), .inl (E.2.1, 65536, .inl gl)), ((ad 6), .inl (E.2.1, 65536, .inl gh)), ((ad 7), .inl (E.2.1, 65536, .inl go))]) (va_A [(h0, .inr (3, mF ad th sg sn hot pc cx cy fo fv to tv fi ti)), ((ad 5), .inl (E.2.1, 65536, .inl gl)), ((ad 6), .inl (E.2.1, 65536, .inl gh)), ((ad 7), .inl (E.2.1, 65536, .inl go))] sz)) (va_A [(h0, .inr (3, mF ad th sg sn hot pc cx cy fo fv to tv fi ti)), ((ad 5), .inl (E.2.1, 65536, .inl gl)), ((ad 6), .inl (E.2.1, 65536, .inl gh)), ((ad 7), .inl (E.2.1, 65536, .inl go))] sz)) 0 0 (va_A [(h0, .inr (3, mF ad th sg sn hot pc cx cy fo fv to tv fi ti)), ((ad 5), .inl (E.2.1, 65536, .inl gl)), ((ad 6), .inl (E.2.1, 65536, .inl gh)), ((ad 7), .inl (E.2.1, 65536, .inl go))] sz) := by
  refine wr_ofW (Qc := fun A => (va_Qi (fun (r : Int32) (u : Unit) => r = if w = 0 then gl k else if w = 1 then gh k else go k) (wB D (fun _ => [(h0, .inr (3, mF ad 0 sg sn hot pc cx cy fo fv to tv fi ti)), ((ad 5), .inl (E.2.1, 65536, .inl gl)), ((ad 6), .inl (E.2.1, 65536, .inl gh)), ((ad 7), .inl (E.2.1, 65536, .inl go))]) A) A)) (by decide) (Nat.le_of_ble_eq_true rfl) ?_
  intro p e s m below meth c B hP hK A hA hD hS ls hl
  obtain ⟨hx, hb, hrt, hml, hown, hts, hG, hlocks, hin⟩ := B
  have hl : lv_has ls 3 [(0, .ref h0), (1, .int (nI k)), (2, .int w)] := hl
  refine lv_aload_n hx hb d_M_piece_0 rfl (lv_at hl 0 rfl) ?_
  refine lv_iconst (v := 0) hx hb d_M_piece_1 (by decide) ?_
  refine va_put (D := D) (ci := 3) (v := .int 0) (ty := .int) (C := K_M) (T := F_M) (N := 24) hx hb hG in_M t_M t_M_ok n_M hown hK.1 hP hD hS 0 rfl rfl 0 (by decide) (hG _ wd_648) (fun _ h9 => h9) rfl (by decide +kernel) rfl rfl (Nat.le_of_ble_eq_true rfl) d_M_piece_2 (fun H locs hP hD hS => ?_)
  have hP : va_P D vwC [(h0, .inr (3, mF ad 0 sg sn hot pc cx cy fo fv to tv fi ti)), ((ad 5), .inl (E.2.1, 65536, .inl gl)), ((ad 6), .inl (E.2.1, 65536, .inl gh)), ((ad 7), .inl (E.2.1, 65536, .inl go))] H := hP
  have hD : va_D A [(h0, .inr (3, mF ad 0 sg sn hot pc cx cy fo fv to tv fi ti)), ((ad 5), .inl (E.2.1, 65536, .inl gl)), ((ad 6), .inl (E.2.1, 65536, .inl gh)), ((ad 7), .inl (E.2.1, 65536, .inl go))] := hD
  refine lv_iload_n hx hb d_M_piece_5 rfl (lv_at hl 1 rfl) ?_
  refine lv_iconst (v := 0) hx hb d_M_piece_6 (by decide) ?_
  refine lv_aload_n hx hb d_M_piece_7 rfl (lv_at hl 0 rfl) ?_
  refine va_get (D := D) (ci := 3) (v := .int pc) (C := K_M) (T := F_M) (N := 24) hx hb hG in_M hown hK.1 hP 0 rfl rfl 9 (by decide) (hG _ wd_657) (fun _ h9 => h9) rfl d_M_piece_8 ?_
  refine lv_iconst (v := 1) hx hb d_M_piece_11 (by decide) ?_
  refine lv_isub hx hb d_M_piece_12 ?_
  have hPc := hP.sub (ws' := []) [] rfl
  refine vp_callSi (W.runS (As := [.int (nI k), .int 0, .int (pc - 1)]) (rest := []) ⟨hx, hb, hml, hown, hts⟩ (k_M_within l D E (nI k) 0 (pc - 1)) (va_cwS 3 hts (gw_gs wd_736 wd_737 wd_42 wd_738) rfl rfl rfl (by decide +kernel) ⟨Nat.le_of_ble_eq_true rfl, Nat.le_of_ble_eq_true rfl⟩) (rP_S hPc hK) rfl rfl hl.1 rfl (lv_room (Nat.le_of_ble_eq_true rfl)) d_M_piece_13 ⟨Nat.le_of_ble_eq_true rfl, Nat.le_of_ble_eq_true rfl⟩) (fun r1 hr1 => ?_)
  refine lv_if_eq (tgt := 28) hx hb d_M_piece_16 (by decide) (fun c1 => ?_) (fun c1 => ?_)
  · rw [hr1, b01_t hi.1] at c1
    exact absurd c1 (by decide)
  · refine lv_iload_n hx hb d_M_piece_19 rfl (lv_at hl 2 rfl) ?_
    refine lv_iconst (v := 0) hx hb d_M_piece_20 (by decide) ?_
    refine lv_iconst (v := 2) hx hb d_M_piece_21 (by decide) ?_
    have hPc := hP.sub (ws' := []) [] rfl
    refine vp_callSi (W.runS (As := [.int w, .int 0, .int 2]) (rest := []) ⟨hx, hb, hml, hown, hts⟩ (k_M_within l D E w 0 2) (va_cwS 3 hts (gw_gs wd_736 wd_737 wd_42 wd_738) rfl rfl rfl (by decide +kernel) ⟨Nat.le_of_ble_eq_true rfl, Nat.le_of_ble_eq_true rfl⟩) (rP_S hPc hK) rfl rfl hl.1 rfl (lv_room (Nat.le_of_ble_eq_true rfl)) d_M_piece_22 ⟨Nat.le_of_ble_eq_true rfl, Nat.le_of_ble_eq_true rfl⟩) (fun r2 hr2 => ?_)
    refine lv_if_ne (tgt := 34) hx hb d_M_piece_25 (by decide) (fun c2 => ?_) (fun c2 => ?_)
    · refine lv_iload_n hx hb d_M_piece_34 rfl (lv_at hl 2 rfl) ?_
      refine lv_if_ne (tgt := 47) hx hb d_M_piece_35 (by decide) (fun c3 => ?_) (fun c3 => ?_)
      · refine lv_iload_n hx hb d_M_piece_47 rfl (lv_at hl 2 rfl) ?_
        refine lv_iconst (v := 1) hx hb d_M_piece_48 (by decide) ?_
        refine lv_icmp_ne (tgt := 61) hx hb d_M_piece_49 (by decide) (fun c4 => ?_) (fun c4 => ?_)
        · refine lv_aload_n hx hb d_M_piece_61 rfl (lv_at hl 0 rfl) ?_
          refine va_get (D := D) (ci := 3) (v := .ref (ad 7)) (C := K_M) (T := F_M) (N := 24) hx hb hG in_M hown hK.1 hP 0 rfl rfl 12 (by decide) (hG _ wd_660) (fun _ h9 => h9) rfl d_M_piece_62 ?_
          refine lv_iload_n hx hb d_M_piece_65 rfl (lv_at hl 1 rfl) ?_
          refine va_iald hx hb hK.1 hP 3 1 rfl rfl (vp_in_nI (by omega) (by omega)) d_M_piece_66 ?_
          rw [show go (Int32.toNatClampNeg (nI k)) = go k from by rw [nI_clamp (by omega)]]
          exact W.iret (v := go k) hx hb hrt (fun t ht hW => ⟨⟨go k, (), rfl, by rw [if_neg c3, if_neg c4], ⟨by rw [ht]; exact hP, hD⟩⟩, hS.F ht⟩) hS.2.2 d_M_piece_67 hlocks
        · refine lv_aload_n hx hb d_M_piece_52 rfl (lv_at hl 0 rfl) ?_
          refine va_get (D := D) (ci := 3) (v := .ref (ad 6)) (C := K_M) (T := F_M) (N := 24) hx hb hG in_M hown hK.1 hP 0 rfl rfl 11 (by decide) (hG _ wd_659) (fun _ h9 => h9) rfl d_M_piece_53 ?_
          refine lv_iload_n hx hb d_M_piece_56 rfl (lv_at hl 1 rfl) ?_
          refine va_iald hx hb hK.1 hP 2 1 rfl rfl (vp_in_nI (by omega) (by omega)) d_M_piece_57 ?_
          rw [show gh (Int32.toNatClampNeg (nI k)) = gh k from by rw [nI_clamp (by omega)]]
          refine lv_goto (tgt := 67) hx hb d_M_piece_58 (by decide) ?_
          exact W.iret (v := gh k) hx hb hrt (fun t ht hW => ⟨⟨gh k, (), rfl, by rw [if_neg c3, if_pos c4], ⟨by rw [ht]; exact hP, hD⟩⟩, hS.F ht⟩) hS.2.2 d_M_piece_67 hlocks
      · refine lv_aload_n hx hb d_M_piece_38 rfl (lv_at hl 0 rfl) ?_
        refine va_get (D := D) (ci := 3) (v := .ref (ad 5)) (C := K_M) (T := F_M) (N := 24) hx hb hG in_M hown hK.1 hP 0 rfl rfl 10 (by decide) (hG _ wd_658) (fun _ h9 => h9) rfl d_M_piece_39 ?_
        refine lv_iload_n hx hb d_M_piece_42 rfl (lv_at hl 1 rfl) ?_
        refine va_iald hx hb hK.1 hP 1 1 rfl rfl (vp_in_nI (by omega) (by omega)) d_M_piece_43 ?_
        rw [show gl (Int32.toNatClampNeg (nI k)) = gl k from by rw [nI_clamp (by omega)]]
        refine lv_goto (tgt := 67) hx hb d_M_piece_44 (by decide) ?_
        exact W.iret (v := gl k) hx hb hrt (fun t ht hW => ⟨⟨gl k, (), rfl, by rw [if_pos c3], ⟨by rw [ht]; exact hP, hD⟩⟩, hS.F ht⟩) hS.2.2 d_M_piece_67 hlocks
    · rw [hr2, b01_t hi.2] at c2
      exact absurd c2 (by decide)
end
