theorem d_P_chainStart_0 : decode c_P_chainStart 0 = .ok (.aload_n 0, 1) := by decide +kernel
theorem d_P_chainStart_1 : decode c_P_chainStart 1 = .ok (.getfield 25, 3) := by decide +kernel
theorem d_P_chainStart_4 : decode c_P_chainStart 4 = .ok (.iload_n 1, 1) := by decide +kernel
theorem d_P_chainStart_5 : decode c_P_chainStart 5 = .ok (.invokevirtual 135, 3) := by decide +kernel
theorem d_P_chainStart_8 : decode c_P_chainStart 8 = .ok (.l2i, 1) := by decide +kernel
theorem d_P_chainStart_9 : decode c_P_chainStart 9 = .ok (.ireturn, 1) := by decide +kernel
theorem d_P_forgetSnap_0 : decode c_P_forgetSnap 0 = .ok (.aload_n 0, 1) := by decide +kernel
theorem d_P_forgetSnap_1 : decode c_P_forgetSnap 1 = .ok (.iconst 0, 1) := by decide +kernel
theorem d_P_forgetSnap_2 : decode c_P_forgetSnap 2 = .ok (.putfield 38, 3) := by decide +kernel
theorem d_P_forgetSnap_5 : decode c_P_forgetSnap 5 = .ok (.aload_n 0, 1) := by decide +kernel
theorem d_P_forgetSnap_6 : decode c_P_forgetSnap 6 = .ok (.getfield 21, 3) := by decide +kernel
theorem d_P_forgetSnap_9 : decode c_P_forgetSnap 9 = .ok (.invokevirtual 164, 3) := by decide +kernel
theorem d_P_forgetSnap_12 : decode c_P_forgetSnap 12 = .ok (.aload_n 0, 1) := by decide +kernel
theorem d_P_forgetSnap_13 : decode c_P_forgetSnap 13 = .ok (.getfield 25, 3) := by decide +kernel
theorem d_P_forgetSnap_16 : decode c_P_forgetSnap 16 = .ok (.invokevirtual 164, 3) := by decide +kernel
theorem d_P_forgetSnap_19 : decode c_P_forgetSnap 19 = .ok (.aload_n 0, 1) := by decide +kernel
theorem d_P_forgetSnap_20 : decode c_P_forgetSnap 20 = .ok (.getfield 29, 3) := by decide +kernel
theorem d_P_forgetSnap_23 : decode c_P_forgetSnap 23 = .ok (.invokevirtual 164, 3) := by decide +kernel
theorem d_P_forgetSnap_26 : decode c_P_forgetSnap 26 = .ok (.aload_n 0, 1) := by decide +kernel
theorem d_P_forgetSnap_27 : decode c_P_forgetSnap 27 = .ok (.getfield 32, 3) := by decide +kernel
theorem d_P_forgetSnap_30 : decode c_P_forgetSnap 30 = .ok (.invokevirtual 164, 3) := by decide +kernel
theorem d_P_forgetSnap_33 : decode c_P_forgetSnap 33 = .ok (.aload_n 0, 1) := by decide +kernel
theorem d_P_forgetSnap_34 : decode c_P_forgetSnap 34 = .ok (.getfield 35, 3) := by decide +kernel
theorem d_P_forgetSnap_37 : decode c_P_forgetSnap 37 = .ok (.invokevirtual 164, 3) := by decide +kernel
theorem d_P_forgetSnap_40 : decode c_P_forgetSnap 40 = .ok (.return_, 1) := by decide +kernel
theorem d_P_hasSegment_0 : decode c_P_hasSegment 0 = .ok (.iload_n 1, 1) := by decide +kernel
theorem d_P_hasSegment_1 : decode c_P_hasSegment 1 = .ok (.ifCond .lt 18, 3) := by decide +kernel
theorem d_P_hasSegment_4 : decode c_P_hasSegment 4 = .ok (.iload_n 1, 1) := by decide +kernel
theorem d_P_hasSegment_5 : decode c_P_hasSegment 5 = .ok (.aload_n 0, 1) := by decide +kernel
theorem d_P_hasSegment_6 : decode c_P_hasSegment 6 = .ok (.getfield 12, 3) := by decide +kernel
theorem d_P_hasSegment_9 : decode c_P_hasSegment 9 = .ok (.invokevirtual 53, 3) := by decide +kernel
theorem d_P_hasSegment_12 : decode c_P_hasSegment 12 = .ok (.if_icmp .ge 7, 3) := by decide +kernel
theorem d_P_hasSegment_15 : decode c_P_hasSegment 15 = .ok (.iconst 1, 1) := by decide +kernel
theorem d_P_hasSegment_16 : decode c_P_hasSegment 16 = .ok (.goto 4, 3) := by decide +kernel
theorem d_P_hasSegment_19 : decode c_P_hasSegment 19 = .ok (.iconst 0, 1) := by decide +kernel
theorem d_P_hasSegment_20 : decode c_P_hasSegment 20 = .ok (.ireturn, 1) := by decide +kernel
theorem d_P_inReach_0 : decode c_P_inReach 0 = .ok (.iload_n 0, 1) := by decide +kernel
theorem d_P_inReach_1 : decode c_P_inReach 1 = .ok (.ldc 151, 2) := by decide +kernel
theorem d_P_inReach_3 : decode c_P_inReach 3 = .ok (.if_icmp .lt 13, 3) := by decide +kernel
theorem d_P_inReach_6 : decode c_P_inReach 6 = .ok (.iload_n 0, 1) := by decide +kernel
theorem d_P_inReach_7 : decode c_P_inReach 7 = .ok (.ldc 152, 2) := by decide +kernel
theorem d_P_inReach_9 : decode c_P_inReach 9 = .ok (.if_icmp .gt 7, 3) := by decide +kernel
theorem d_P_inReach_12 : decode c_P_inReach 12 = .ok (.iconst 1, 1) := by decide +kernel
theorem d_P_inReach_13 : decode c_P_inReach 13 = .ok (.goto 4, 3) := by decide +kernel
theorem d_P_inReach_16 : decode c_P_inReach 16 = .ok (.iconst 0, 1) := by decide +kernel
theorem d_P_inReach_17 : decode c_P_inReach 17 = .ok (.ireturn, 1) := by decide +kernel
theorem d_P_isXOrY_0 : decode c_P_isXOrY 0 = .ok (.iload_n 0, 1) := by decide +kernel
theorem d_P_isXOrY_1 : decode c_P_isXOrY 1 = .ok (.ifCond .eq 8, 3) := by decide +kernel
theorem d_P_isXOrY_4 : decode c_P_isXOrY 4 = .ok (.iload_n 0, 1) := by decide +kernel
theorem d_P_isXOrY_5 : decode c_P_isXOrY 5 = .ok (.iconst 1, 1) := by decide +kernel
theorem d_P_isXOrY_6 : decode c_P_isXOrY 6 = .ok (.if_icmp .ne 7, 3) := by decide +kernel
theorem d_P_isXOrY_9 : decode c_P_isXOrY 9 = .ok (.iconst 1, 1) := by decide +kernel
theorem d_P_isXOrY_10 : decode c_P_isXOrY 10 = .ok (.goto 4, 3) := by decide +kernel
theorem d_P_isXOrY_13 : decode c_P_isXOrY 13 = .ok (.iconst 0, 1) := by decide +kernel
theorem d_P_isXOrY_14 : decode c_P_isXOrY 14 = .ok (.ireturn, 1) := by decide +kernel
theorem d_P_mergeHot_0 : decode c_P_mergeHot 0 = .ok (.aload_n 0, 1) := by decide +kernel
theorem d_P_mergeHot_1 : decode c_P_mergeHot 1 = .ok (.getfield 21, 3) := by decide +kernel
theorem d_P_mergeHot_4 : decode c_P_mergeHot 4 = .ok (.invokevirtual 190, 3) := by decide +kernel
theorem d_P_mergeHot_7 : decode c_P_mergeHot 7 = .ok (.aload_n 0, 1) := by decide +kernel
theorem d_P_mergeHot_8 : decode c_P_mergeHot 8 = .ok (.getfield 21, 3) := by decide +kernel
theorem d_P_mergeHot_11 : decode c_P_mergeHot 11 = .ok (.invokevirtual 193, 3) := by decide +kernel
theorem d_P_mergeHot_14 : decode c_P_mergeHot 14 = .ok (.aload_n 0, 1) := by decide +kernel
theorem d_P_mergeHot_15 : decode c_P_mergeHot 15 = .ok (.getfield 21, 3) := by decide +kernel
theorem d_P_mergeHot_18 : decode c_P_mergeHot 18 = .ok (.invokevirtual 92, 3) := by decide +kernel
theorem d_P_mergeHot_21 : decode c_P_mergeHot 21 = .ok (.sipush 8192, 3) := by decide +kernel
theorem d_P_mergeHot_24 : decode c_P_mergeHot 24 = .ok (.if_icmp .gt 7, 3) := by decide +kernel
theorem d_P_mergeHot_27 : decode c_P_mergeHot 27 = .ok (.iconst 1, 1) := by decide +kernel
theorem d_P_mergeHot_28 : decode c_P_mergeHot 28 = .ok (.goto 4, 3) := by decide +kernel
theorem d_P_mergeHot_31 : decode c_P_mergeHot 31 = .ok (.iconst 0, 1) := by decide +kernel
theorem d_P_mergeHot_32 : decode c_P_mergeHot 32 = .ok (.ireturn, 1) := by decide +kernel
theorem d_P_placeX_0 : decode c_P_placeX 0 = .ok (.aload_n 0, 1) := by decide +kernel
theorem d_P_placeX_1 : decode c_P_placeX 1 = .ok (.getfield 21, 3) := by decide +kernel
theorem d_P_placeX_4 : decode c_P_placeX 4 = .ok (.aload_n 0, 1) := by decide +kernel
theorem d_P_placeX_5 : decode c_P_placeX 5 = .ok (.getfield 29, 3) := by decide +kernel
theorem d_P_placeX_8 : decode c_P_placeX 8 = .ok (.iload_n 1, 1) := by decide +kernel
theorem d_P_placeX_9 : decode c_P_placeX 9 = .ok (.invokevirtual 135, 3) := by decide +kernel
theorem d_P_placeX_12 : decode c_P_placeX 12 = .ok (.l2i, 1) := by decide +kernel
theorem d_P_placeX_13 : decode c_P_placeX 13 = .ok (.invokevirtual 135, 3) := by decide +kernel
theorem d_P_placeX_16 : decode c_P_placeX 16 = .ok (.invokestatic 157, 3) := by decide +kernel
theorem d_P_placeX_19 : decode c_P_placeX 19 = .ok (.lreturn, 1) := by decide +kernel
def sp_in (x : Int32) : Int32 := if x < -500000000 then 0 else if 500000000 < x then 0 else 1
def sp_xy (x : Int32) : Int32 := if x = 0 then 1 else if x = 1 then 1 else 0
set_option maxHeartbeats 4000000 in
set_option maxRecDepth 100000 in
theorem k_P_inReach (l : Launch) (D : va_G) (E : ClassId × ClassId × ClassId × ClassId) (x : Int32) : Met l y_P_inReach (.code y_P_inReach c_P_inReach 1 (some .boolean) :: gw) ({ frames := 0, cells := 0, slots := 0, locals := 0 } : Room) (rP D E [] [.int x]) (vp_Si (fun r => r = sp_in x)) 0 0 (fun _ => False) := by
  refine rd_ofW (by decide) (Nat.le_of_ble_eq_true rfl) ?_
  intro p e s m below meth c B hP hK ls hl
  obtain ⟨hx, hb, hrt, hml, hown, hts, hG, hlocks, hin⟩ := B
  have hl : lv_has ls 1 [(0, .int x)] := hl
  refine lv_iload_n hx hb d_P_inReach_0 rfl (lv_at hl 0 rfl) ?_
  refine lv_ldc hx hb hown (hG _ wd_171) d_P_inReach_1 ?_
  refine lv_icmp_lt (tgt := 16) hx hb d_P_inReach_3 (by decide) (fun c1 => ?_) (fun c1 => ?_)
  · refine lv_iconst (v := 0) hx hb d_P_inReach_16 (by decide) ?_
    exact W.zret (v := 0) (ty := .boolean) hx hb hrt rfl (fun t ht hW => ⟨0, rfl, by rw [sp_in, if_pos c1], ht⟩) (fun q h => nomatch h) d_P_inReach_17 hlocks
  · refine lv_iload_n hx hb d_P_inReach_6 rfl (lv_at hl 0 rfl) ?_
    refine lv_ldc hx hb hown (hG _ wd_172) d_P_inReach_7 ?_
    refine lv_icmp_gt (tgt := 16) hx hb d_P_inReach_9 (by decide) (fun c2 => ?_) (fun c2 => ?_)
    · refine lv_iconst (v := 0) hx hb d_P_inReach_16 (by decide) ?_
      exact W.zret (v := 0) (ty := .boolean) hx hb hrt rfl (fun t ht hW => ⟨0, rfl, by rw [sp_in, if_neg c1, if_pos c2], ht⟩) (fun q h => nomatch h) d_P_inReach_17 hlocks
    · refine lv_iconst (v := 1) hx hb d_P_inReach_12 (by decide) ?_
      refine lv_goto (tgt := 17) hx hb d_P_inReach_13 (by decide) ?_
      exact W.zret (v := 1) (ty := .boolean) hx hb hrt rfl (fun t ht hW => ⟨1, rfl, by rw [sp_in, if_neg c1, if_neg c2], ht⟩) (fun q h => nomatch h) d_P_inReach_17 hlocks
set_option maxHeartbeats 4000000 in
set_option maxRecDepth 100000 in
theorem k_P_isXOrY (l : Launch) (D : va_G) (E : ClassId × ClassId × ClassId × ClassId) (x : Int32) : Met l y_P_isXOrY (.code y_P_isXOrY c_P_isXOrY 1 (some .boolean) :: gw) ({ frames := 0, cells := 0, slots := 0, locals := 0 } : Room) (rP D E [] [.int x]) (vp_Si (fun r => r = sp_xy x)) 0 0 (fun _ => False) := by
  refine rd_ofW (by decide) (Nat.le_of_ble_eq_true rfl) ?_
  intro p e s m below meth c B hP hK ls hl
  obtain ⟨hx, hb, hrt, hml, hown, hts, hG, hlocks, hin⟩ := B
  have hl : lv_has ls 1 [(0, .int x)] := hl
  refine lv_iload_n hx hb d_P_isXOrY_0 rfl (lv_at hl 0 rfl) ?_
  refine lv_if_eq (tgt := 9) hx hb d_P_isXOrY_1 (by decide) (fun c1 => ?_) (fun c1 => ?_)
  · refine lv_iconst (v := 1) hx hb d_P_isXOrY_9 (by decide) ?_
    refine lv_goto (tgt := 14) hx hb d_P_isXOrY_10 (by decide) ?_
    exact W.zret (v := 1) (ty := .boolean) hx hb hrt rfl (fun t ht hW => ⟨1, rfl, by rw [sp_xy, if_pos c1], ht⟩) (fun q h => nomatch h) d_P_isXOrY_14 hlocks
  · refine lv_iload_n hx hb d_P_isXOrY_4 rfl (lv_at hl 0 rfl) ?_
    refine lv_iconst (v := 1) hx hb d_P_isXOrY_5 (by decide) ?_
    refine lv_icmp_ne (tgt := 13) hx hb d_P_isXOrY_6 (by decide) (fun c2 => ?_) (fun c2 => ?_)
    · refine lv_iconst (v := 0) hx hb d_P_isXOrY_13 (by decide) ?_
      exact W.zret (v := 0) (ty := .boolean) hx hb hrt rfl (fun t ht hW => ⟨0, rfl, by rw [sp_xy, if_neg c1, if_neg c2], ht⟩) (fun q h => nomatch h) d_P_isXOrY_14 hlocks
    · have c3 : x = 1 := c2
      refine lv_iconst (v := 1) hx hb d_P_isXOrY_9 (by decide) ?_
      refine lv_goto (tgt := 14) hx hb d_P_isXOrY_10 (by decide) ?_
      exact W.zret (v := 1) (ty := .boolean) hx hb hrt rfl (fun t ht hW => ⟨1, rfl, by rw [sp_xy, if_neg c1, if_pos c3], ht⟩) (fun q h => nomatch h) d_P_isXOrY_14 hlocks
set_option maxHeartbeats 4000000 in
set_option maxRecDepth 100000 in
theorem k_P_hasSegment (l : Launch) (D : va_G) (E : ClassId × ClassId × ClassId × ClassId) (h0 ed k : Nat) (ad : Nat → Nat) (sn mo9 i : Int32) : Met l y_P_hasSegment (.code y_P_hasSegment c_P_hasSegment 2 (some .boolean) :: gw) ({ frames := 1, cells := 0, slots := 0, locals := 22 } : Room) (rP D E [(h0, .inr (2, [.ref (ad 0), .ref (ad 1), .ref (ad 2), .ref (ad 3), .ref (ad 4), .ref (ad 5), .int sn])), ((ad 0), .inr (4, [.ref ed, .int (nI k), .int mo9]))] [.ref h0, .int i]) (vp_Si (fun r => r = rw_has (nI k) i)) 0 0 (fun _ => False) := by
  refine rd_ofW (by decide) (Nat.le_of_ble_eq_true rfl) ?_
  intro p e s m below meth c B hP hK ls hl
  obtain ⟨hx, hb, hrt, hml, hown, hts, hG, hlocks, hin⟩ := B
  have hl : lv_has ls 2 [(0, .ref h0), (1, .int i)] := hl
  refine lv_iload_n hx hb d_P_hasSegment_0 rfl (lv_at hl 1 rfl) ?_
  refine lv_if_lt (tgt := 19) hx hb d_P_hasSegment_1 (by decide) (fun c1 => ?_) (fun c1 => ?_)
  · refine lv_iconst (v := 0) hx hb d_P_hasSegment_19 (by decide) ?_
    exact W.zret (v := 0) (ty := .boolean) hx hb hrt rfl (fun t ht hW => ⟨0, rfl, by rw [rw_has, if_pos c1], ht⟩) (fun q h => nomatch h) d_P_hasSegment_20 hlocks
  · refine lv_iload_n hx hb d_P_hasSegment_4 rfl (lv_at hl 1 rfl) ?_
    refine lv_aload_n hx hb d_P_hasSegment_5 rfl (lv_at hl 0 rfl) ?_
    refine va_get (D := D) (ci := 2) (v := .ref (ad 0)) (C := K_P) (T := F_P) (N := 7) hx hb hG in_P hown hK.1 hP 0 rfl rfl 0 (by decide) (hG _ wd_109) (fun _ h9 => h9) rfl d_P_hasSegment_6 ?_
    have hPc := hP.sub (ws' := [((ad 0), .inr (4, [.ref ed, .int (nI k), .int mo9]))]) [1] rfl
    refine vp_callSi (W.runV (As := []) (rest := [.int i]) ⟨hx, hb, hml, hown, hts⟩ (k_A_size l D E (ad 0) (.ref ed) (nI k) mo9) (cwV 0 hts (gw_gv wd_135 wd_136 wd_137 wd_40 wd_138) rfl rfl rfl (by decide +kernel) ⟨Nat.le_of_ble_eq_true rfl, Nat.le_of_ble_eq_true rfl⟩) (rP_V 0 hPc hK rfl rfl) rfl rfl hl.1 rfl (lv_room (Nat.le_of_ble_eq_true rfl)) d_P_hasSegment_9 ⟨Nat.le_of_ble_eq_true rfl, Nat.le_of_ble_eq_true rfl⟩) (fun r1 hr1 => ?_)
    subst hr1
    refine lv_icmp_ge (tgt := 19) hx hb d_P_hasSegment_12 (by decide) (fun c2 => ?_) (fun c2 => ?_)
    · refine lv_iconst (v := 0) hx hb d_P_hasSegment_19 (by decide) ?_
      exact W.zret (v := 0) (ty := .boolean) hx hb hrt rfl (fun t ht hW => ⟨0, rfl, by rw [rw_has, if_neg c1, if_pos c2], ht⟩) (fun q h => nomatch h) d_P_hasSegment_20 hlocks
    · refine lv_iconst (v := 1) hx hb d_P_hasSegment_15 (by decide) ?_
      refine lv_goto (tgt := 20) hx hb d_P_hasSegment_16 (by decide) ?_
      exact W.zret (v := 1) (ty := .boolean) hx hb hrt rfl (fun t ht hW => ⟨1, rfl, by rw [rw_has, if_neg c1, if_neg c2], ht⟩) (fun q h => nomatch h) d_P_hasSegment_20 hlocks
set_option maxHeartbeats 4000000 in
set_option maxRecDepth 100000 in
theorem k_P_chainStart (l : Launch) (D : va_G) (E : ClassId × ClassId × ClassId × ClassId) (h0 a2 : Nat) (ad : Nat → Nat) (sn i : Int32) (R2 : RS) (hz : R2.2.2 ≤ R2.1) (hn : R2.1 < 2 ^ 31) : Met l y_P_chainStart (.code y_P_chainStart c_P_chainStart 2 (some .int) :: gw) ({ frames := 2, cells := 0, slots := 0, locals := 45 } : Room) (rP D E [(h0, .inr (2, [.ref (ad 0), .ref (ad 1), .ref (ad 2), .ref (ad 3), .ref (ad 4), .ref (ad 5), .int sn])), ((ad 2), .inr (0, [.int (nI 2049), .ref a2, .int (nI R2.2.2)])), (a2, .inl (E.1, R2.1, .inr (.inl R2.2.1)))] [.ref h0, .int i]) (vp_Si (fun r => r = (rw_at R2.2.1 (nI R2.2.2) i).toInt32)) 0 0 (fun _ => False) := by
  refine rd_ofW (by decide) (Nat.le_of_ble_eq_true rfl) ?_
  intro p e s m below meth c B hP hK ls hl
  obtain ⟨hx, hb, hrt, hml, hown, hts, hG, hlocks, hin⟩ := B
  have hl : lv_has ls 2 [(0, .ref h0), (1, .int i)] := hl
  refine lv_aload_n hx hb d_P_chainStart_0 rfl (lv_at hl 0 rfl) ?_
  refine va_get (D := D) (ci := 2) (v := .ref (ad 2)) (C := K_P) (T := F_P) (N := 7) hx hb hG in_P hown hK.1 hP 0 rfl rfl 2 (by decide) (hG _ wd_111) (fun _ h9 => h9) rfl d_P_chainStart_1 ?_
  refine lv_iload_n hx hb d_P_chainStart_4 rfl (lv_at hl 1 rfl) ?_
  have hPc := hP.sub (ws' := [((ad 2), .inr (0, [.int (nI 2049), .ref a2, .int (nI R2.2.2)])), (a2, .inl (E.1, R2.1, .inr (.inl R2.2.1)))]) [1, 2] rfl
  refine vp_callSl (W.runV (As := [.int i]) (rest := []) ⟨hx, hb, hml, hown, hts⟩ (k_R_at l D E (ad 2) a2 (nI 2049) i R2.2.2 R2.1 R2.2.1 hz hn) (cwV 1 hts (gw_gv wd_483 wd_484 wd_485 wd_41 wd_486) rfl rfl rfl (by decide +kernel) ⟨Nat.le_of_ble_eq_true rfl, Nat.le_of_ble_eq_true rfl⟩) (rP_V 0 hPc hK rfl rfl) rfl rfl hl.1 rfl (lv_room (Nat.le_of_ble_eq_true rfl)) d_P_chainStart_5 ⟨Nat.le_of_ble_eq_true rfl, Nat.le_of_ble_eq_true rfl⟩) (fun r1 hr1 => ?_)
  subst hr1
  refine lv_l2i hx hb d_P_chainStart_8 rfl ?_
  exact W.iret (v := (Int64.toInt32 (rw_at R2.2.1 (nI R2.2.2) i))) hx hb hrt (fun t ht hW => ⟨(Int64.toInt32 (rw_at R2.2.1 (nI R2.2.2) i)), rfl, rfl, ht⟩) (fun q h => nomatch h) d_P_chainStart_9 hlocks
def px_x (R1 R3 : RS) (i : Int32) : Int64 := sg_kx (rw_at R1.2.1 (nI R1.2.2) (rw_at R3.2.1 (nI R3.2.2) i).toInt32)
set_option maxHeartbeats 4000000 in
set_option maxRecDepth 100000 in
theorem k_P_placeX (l : Launch) (D : va_G) (E : ClassId × ClassId × ClassId × ClassId) (h0 a1 a3 : Nat) (ad : Nat → Nat) (sn i : Int32) (R1 R3 : RS) (hz1 : R1.2.2 ≤ R1.1) (hn1 : R1.1 < 2 ^ 31) (hz3 : R3.2.2 ≤ R3.1) (hn3 : R3.1 < 2 ^ 31) : Met l y_P_placeX (.code y_P_placeX c_P_placeX 2 (some .long) :: gw) ({ frames := 2, cells := 0, slots := 0, locals := 45 } : Room) (rP D E [(h0, .inr (2, [.ref (ad 0), .ref (ad 1), .ref (ad 2), .ref (ad 3), .ref (ad 4), .ref (ad 5), .int sn])), ((ad 1), .inr (0, [.int (nI 16384), .ref a1, .int (nI R1.2.2)])), (a1, .inl (E.1, R1.1, .inr (.inl R1.2.1))), ((ad 3), .inr (0, [.int (nI 65536), .ref a3, .int (nI R3.2.2)])), (a3, .inl (E.1, R3.1, .inr (.inl R3.2.1)))] [.ref h0, .int i]) (vp_Sl (fun r => r = px_x R1 R3 i)) 0 0 (fun _ => False) := by
  refine rd_ofW (by decide) (Nat.le_of_ble_eq_true rfl) ?_
  intro p e s m below meth c B hP hK ls hl
  obtain ⟨hx, hb, hrt, hml, hown, hts, hG, hlocks, hin⟩ := B
  have hl : lv_has ls 2 [(0, .ref h0), (1, .int i)] := hl
  refine lv_aload_n hx hb d_P_placeX_0 rfl (lv_at hl 0 rfl) ?_
  refine va_get (D := D) (ci := 2) (v := .ref (ad 1)) (C := K_P) (T := F_P) (N := 7) hx hb hG in_P hown hK.1 hP 0 rfl rfl 1 (by decide) (hG _ wd_110) (fun _ h9 => h9) rfl d_P_placeX_1 ?_
  refine lv_aload_n hx hb d_P_placeX_4 rfl (lv_at hl 0 rfl) ?_
  refine va_get (D := D) (ci := 2) (v := .ref (ad 3)) (C := K_P) (T := F_P) (N := 7) hx hb hG in_P hown hK.1 hP 0 rfl rfl 3 (by decide) (hG _ wd_112) (fun _ h9 => h9) rfl d_P_placeX_5 ?_
  refine lv_iload_n hx hb d_P_placeX_8 rfl (lv_at hl 1 rfl) ?_
  have hPc := hP.sub (ws' := [((ad 3), .inr (0, [.int (nI 65536), .ref a3, .int (nI R3.2.2)])), (a3, .inl (E.1, R3.1, .inr (.inl R3.2.1)))]) [3, 4] rfl
  refine vp_callSl (W.runV (As := [.int i]) (rest := [.ref (ad 1)]) ⟨hx, hb, hml, hown, hts⟩ (k_R_at l D E (ad 3) a3 (nI 65536) i R3.2.2 R3.1 R3.2.1 hz3 hn3) (cwV 1 hts (gw_gv wd_483 wd_484 wd_485 wd_41 wd_486) rfl rfl rfl (by decide +kernel) ⟨Nat.le_of_ble_eq_true rfl, Nat.le_of_ble_eq_true rfl⟩) (rP_V 0 hPc hK rfl rfl) rfl rfl hl.1 rfl (lv_room (Nat.le_of_ble_eq_true rfl)) d_P_placeX_9 ⟨Nat.le_of_ble_eq_true rfl, Nat.le_of_ble_eq_true rfl⟩) (fun r1 hr1 => ?_)
  subst hr1
  refine lv_l2i hx hb d_P_placeX_12 rfl ?_
  have hPc := hP.sub (ws' := [((ad 1), .inr (0, [.int (nI 16384), .ref a1, .int (nI R1.2.2)])), (a1, .inl (E.1, R1.1, .inr (.inl R1.2.1)))]) [1, 2] rfl
  refine vp_callSl (W.runV (As := [.int (Int64.toInt32 (rw_at R3.2.1 (nI R3.2.2) i))]) (rest := []) ⟨hx, hb, hml, hown, hts⟩ (k_R_at l D E (ad 1) a1 (nI 16384) (rw_at R3.2.1 (nI R3.2.2) i).toInt32 R1.2.2 R1.1 R1.2.1 hz1 hn1) (cwV 1 hts (gw_gv wd_483 wd_484 wd_485 wd_41 wd_486) rfl rfl rfl (by decide +kernel) ⟨Nat.le_of_ble_eq_true rfl, Nat.le_of_ble_eq_true rfl⟩) (rP_V 0 hPc hK rfl rfl) rfl rfl hl.1 rfl (lv_room (Nat.le_of_ble_eq_true rfl)) d_P_placeX_13 ⟨Nat.le_of_ble_eq_true rfl, Nat.le_of_ble_eq_true rfl⟩) (fun r2 hr2 => ?_)
  subst hr2
  have hPc := hP.sub (ws' := []) [] rfl
  refine vp_callSl (W.runS (As := [.long (rw_at R1.2.1 (nI R1.2.2) (rw_at R3.2.1 (nI R3.2.2) i).toInt32)]) (rest := []) ⟨hx, hb, hml, hown, hts⟩ (k_P_keyX l D E (rw_at R1.2.1 (nI R1.2.2) (rw_at R3.2.1 (nI R3.2.2) i).toInt32)) (va_cwS 1 hts (gw_gs wd_492 wd_493 wd_37 wd_494) rfl rfl rfl (by decide +kernel) ⟨Nat.le_of_ble_eq_true rfl, Nat.le_of_ble_eq_true rfl⟩) (rP_S hPc hK) rfl rfl hl.1 rfl (lv_room (Nat.le_of_ble_eq_true rfl)) d_P_placeX_16 ⟨Nat.le_of_ble_eq_true rfl, Nat.le_of_ble_eq_true rfl⟩) (fun r3 hr3 => ?_)
  subst hr3
  exact W.lret (v := (sg_kx (rw_at R1.2.1 (nI R1.2.2) (rw_at R3.2.1 (nI R3.2.2) i).toInt32))) hx hb hrt (fun t ht hW => ⟨(sg_kx (rw_at R1.2.1 (nI R1.2.2) (rw_at R3.2.1 (nI R3.2.2) i).toInt32)), rfl, rfl, ht⟩) (fun q h => nomatch h) d_P_placeX_19 hlocks
set_option maxHeartbeats 4000000 in
set_option maxRecDepth 100000 in
theorem k_P_forgetSnap (l : Launch) (D : va_G) (E : ClassId × ClassId × ClassId × ClassId) (h0 sz a1 a2 a3 a4 a5 : Nat) (ad : Nat → Nat) (sn z1 z2 z3 z4 z5 : Int32) : Met l y_P_forgetSnap (.code y_P_forgetSnap c_P_forgetSnap 1 none :: gw) ({ frames := 1, cells := 0, slots := 0, locals := 22 } : Room) (wP D E [(h0, .inr (2, [.ref (ad 0), .ref (ad 1), .ref (ad 2), .ref (ad 3), .ref (ad 4), .ref (ad 5), .int sn])), ((ad 1), .inr (0, [.int (nI 16384), .ref a1, .int z1])), ((ad 2), .inr (0, [.int (nI 2049), .ref a2, .int z2])), ((ad 3), .inr (0, [.int (nI 65536), .ref a3, .int z3])), ((ad 4), .inr (0, [.int (nI 65536), .ref a4, .int z4])), ((ad 5), .inr (0, [.int (nI 65536), .ref a5, .int z5]))] sz [.ref h0]) (va_Qv (fun (u : Unit) => True) (wB D (fun _ => [(h0, .inr (2, [.ref (ad 0), .ref (ad 1), .ref (ad 2), .ref (ad 3), .ref (ad 4), .ref (ad 5), .int 0])), ((ad 1), .inr (0, [.int (nI 16384), .ref a1, .int 0])), ((ad 2), .inr (0, [.int (nI 2049), .ref a2, .int 0])), ((ad 3), .inr (0, [.int (nI 65536), .ref a3, .int 0])), ((ad 4), .inr (0, [.int (nI 65536), .ref a4, .int 0])), ((ad 5), .inr (0, [.int (nI 65536), .ref a5, .int 0]))]) (va_A [(h0, .inr (2, [.ref (ad 0), .ref (ad 1), .ref (ad 2), .ref (ad 3), .ref (ad 4), .ref (ad 5), .int sn])), ((ad 1), .inr (0, [.int (nI 16384), .ref a1, .int z1])), ((ad 2), .inr (0, [.int (nI 2049), .ref a2, .int z2])), ((ad 3), .inr (0, [.int (nI 65536), .ref a3, .int z3])), ((ad 4), .inr (0, [.int (nI 65536), .ref a4, .int z4])), ((ad 5), .inr (0, [.int (nI 65536), .ref a5, .int z5]))] sz)) (va_A [(h0, .inr (2, [.ref (ad 0), .ref (ad 1), .ref (ad 2), .ref (ad 3), .ref (ad 4), .ref (ad 5), .int sn])), ((ad 1), .inr (0, [.int (nI 16384), .ref a1, .int z1])), ((ad 2), .inr (0, [.int (nI 2049), .ref a2, .int z2])), ((ad 3), .inr (0, [.int (nI 65536), .ref a3, .int z3])), ((ad 4), .inr (0, [.int (nI 65536), .ref a4, .int z4])), ((ad 5), .inr (0, [.int (nI 65536), .ref a5, .int z5]))] sz)) 0 0 (va_A [(h0, .inr (2, [.ref (ad 0), .ref (ad 1), .ref (ad 2), .ref (ad 3), .ref (ad 4), .ref (ad 5), .int sn])), ((ad 1), .inr (0, [.int (nI 16384), .ref a1, .int z1])), ((ad 2), .inr (0, [.int (nI 2049), .ref a2, .int z2])), ((ad 3), .inr (0, [.int (nI 65536), .ref a3, .int z3])), ((ad 4), .inr (0, [.int (nI 65536), .ref a4, .int z4])), ((ad 5), .inr (0, [.int (nI 65536), .ref a5, .int z5]))] sz) := by
  refine wr_ofW (Qc := fun A => (va_Qv (fun (u : Unit) => True) (wB D (fun _ => [(h0, .inr (2, [.ref (ad 0), .ref (ad 1), .ref (ad 2), .ref (ad 3), .ref (ad 4), .ref (ad 5), .int 0])), ((ad 1), .inr (0, [.int (nI 16384), .ref a1, .int 0])), ((ad 2), .inr (0, [.int (nI 2049), .ref a2, .int 0])), ((ad 3), .inr (0, [.int (nI 65536), .ref a3, .int 0])), ((ad 4), .inr (0, [.int (nI 65536), .ref a4, .int 0])), ((ad 5), .inr (0, [.int (nI 65536), .ref a5, .int 0]))]) A) A)) (by decide) (Nat.le_of_ble_eq_true rfl) ?_
  intro p e s m below meth c B hP hK A hA hD hS ls hl
  obtain ⟨hx, hb, hrt, hml, hown, hts, hG, hlocks, hin⟩ := B
  have hl : lv_has ls 1 [(0, .ref h0)] := hl
  refine lv_aload_n hx hb d_P_forgetSnap_0 rfl (lv_at hl 0 rfl) ?_
  refine lv_iconst (v := 0) hx hb d_P_forgetSnap_1 (by decide) ?_
  refine va_put (D := D) (ci := 2) (v := .int 0) (ty := .boolean) (C := K_P) (T := F_P) (N := 7) hx hb hG in_P t_P t_P_ok n_P hown hK.1 hP hD hS 0 rfl rfl 6 (by decide) (hG _ wd_115) (fun _ h9 => h9) rfl (by decide +kernel) rfl rfl (Nat.le_of_ble_eq_true rfl) d_P_forgetSnap_2 (fun H locs hP hD hS => ?_)
  have hP : va_P D vwC [(h0, .inr (2, [.ref (ad 0), .ref (ad 1), .ref (ad 2), .ref (ad 3), .ref (ad 4), .ref (ad 5), .int 0])), ((ad 1), .inr (0, [.int (nI 16384), .ref a1, .int z1])), ((ad 2), .inr (0, [.int (nI 2049), .ref a2, .int z2])), ((ad 3), .inr (0, [.int (nI 65536), .ref a3, .int z3])), ((ad 4), .inr (0, [.int (nI 65536), .ref a4, .int z4])), ((ad 5), .inr (0, [.int (nI 65536), .ref a5, .int z5]))] H := hP
  have hD : va_D A [(h0, .inr (2, [.ref (ad 0), .ref (ad 1), .ref (ad 2), .ref (ad 3), .ref (ad 4), .ref (ad 5), .int 0])), ((ad 1), .inr (0, [.int (nI 16384), .ref a1, .int z1])), ((ad 2), .inr (0, [.int (nI 2049), .ref a2, .int z2])), ((ad 3), .inr (0, [.int (nI 65536), .ref a3, .int z3])), ((ad 4), .inr (0, [.int (nI 65536), .ref a4, .int z4])), ((ad 5), .inr (0, [.int (nI 65536), .ref a5, .int z5]))] := hD
  refine lv_aload_n hx hb d_P_forgetSnap_5 rfl (lv_at hl 0 rfl) ?_
  refine va_get (D := D) (ci := 2) (v := .ref (ad 1)) (C := K_P) (T := F_P) (N := 7) hx hb hG in_P hown hK.1 hP 0 rfl rfl 1 (by decide) (hG _ wd_110) (fun _ h9 => h9) rfl d_P_forgetSnap_6 ?_
  have hPc := hP.sub (ws' := [((ad 1), .inr (0, [.int (nI 16384), .ref a1, .int z1]))]) [1] rfl
  have hDc := hD.sub (ws' := [((ad 1), .inr (0, [.int (nI 16384), .ref a1, .int z1]))]) [1] (by decide) rfl
  have hFc := va_free (wc := [((ad 1), .inr (0, [.int (nI 16384), .ref a1, .int z1]))]) hD hS hA [1] rfl
  refine va_callv (va_runV (As := []) (rest := []) ⟨hx, hb, hml, hown, hts⟩ (k_R_drop l D E (ad 1) a1 H.size (nI 16384) z1) (cwV 0 hts (gw_gv wd_147 wd_148 wd_149 wd_41 wd_150) rfl rfl rfl (by decide +kernel) ⟨Nat.le_of_ble_eq_true rfl, Nat.le_of_ble_eq_true rfl⟩) (wP_V 0 hPc hK hDc rfl rfl) rfl rfl hl.1 rfl (lv_room (Nat.le_of_ble_eq_true rfl)) d_P_forgetSnap_9 ⟨Nat.le_of_ble_eq_true rfl, Nat.le_of_ble_eq_true rfl⟩) hS (fun q _ h => hFc q h) hFc (fun u t H1 locs ht hvm hw hB hz1 hk1 hS => ?_)
  obtain ⟨hP1, hD1⟩ := hB
  rw [ht] at hP1
  obtain ⟨hP, hD⟩ := va_join (wr := [(h0, .inr (2, [.ref (ad 0), .ref (ad 1), .ref (ad 2), .ref (ad 3), .ref (ad 4), .ref (ad 5), .int 0])), ((ad 2), .inr (0, [.int (nI 2049), .ref a2, .int z2])), ((ad 3), .inr (0, [.int (nI 65536), .ref a3, .int z3])), ((ad 4), .inr (0, [.int (nI 65536), .ref a4, .int z4])), ((ad 5), .inr (0, [.int (nI 65536), .ref a5, .int z5]))]) (w1 := [((ad 1), .inr (0, [.int (nI 16384), .ref a1, .int 0]))]) hP hD [1] [0, 2, 3, 4, 5] rfl rfl (by decide) (by decide) hk1 hFc hP1 hD1
  generalize H1 = H at hP hS ⊢
  have hP : va_P D vwC [(h0, .inr (2, [.ref (ad 0), .ref (ad 1), .ref (ad 2), .ref (ad 3), .ref (ad 4), .ref (ad 5), .int 0])), ((ad 2), .inr (0, [.int (nI 2049), .ref a2, .int z2])), ((ad 3), .inr (0, [.int (nI 65536), .ref a3, .int z3])), ((ad 4), .inr (0, [.int (nI 65536), .ref a4, .int z4])), ((ad 5), .inr (0, [.int (nI 65536), .ref a5, .int z5])), ((ad 1), .inr (0, [.int (nI 16384), .ref a1, .int 0]))] H := hP
  have hD : va_D A [(h0, .inr (2, [.ref (ad 0), .ref (ad 1), .ref (ad 2), .ref (ad 3), .ref (ad 4), .ref (ad 5), .int 0])), ((ad 2), .inr (0, [.int (nI 2049), .ref a2, .int z2])), ((ad 3), .inr (0, [.int (nI 65536), .ref a3, .int z3])), ((ad 4), .inr (0, [.int (nI 65536), .ref a4, .int z4])), ((ad 5), .inr (0, [.int (nI 65536), .ref a5, .int z5])), ((ad 1), .inr (0, [.int (nI 16384), .ref a1, .int 0]))] := hD
  refine lv_aload_n hx hb d_P_forgetSnap_12 rfl (lv_at hl 0 rfl) ?_
  refine va_get (D := D) (ci := 2) (v := .ref (ad 2)) (C := K_P) (T := F_P) (N := 7) hx hb hG in_P hown hK.1 hP 0 rfl rfl 2 (by decide) (hG _ wd_111) (fun _ h9 => h9) rfl d_P_forgetSnap_13 ?_
  have hPc := hP.sub (ws' := [((ad 2), .inr (0, [.int (nI 2049), .ref a2, .int z2]))]) [1] rfl
  have hDc := hD.sub (ws' := [((ad 2), .inr (0, [.int (nI 2049), .ref a2, .int z2]))]) [1] (by decide) rfl
  have hFc := va_free (wc := [((ad 2), .inr (0, [.int (nI 2049), .ref a2, .int z2]))]) hD hS hA [1] rfl
  refine va_callv (va_runV (As := []) (rest := []) ⟨hx, hb, hml, hown, hts⟩ (k_R_drop l D E (ad 2) a2 H.size (nI 2049) z2) (cwV 0 hts (gw_gv wd_147 wd_148 wd_149 wd_41 wd_150) rfl rfl rfl (by decide +kernel) ⟨Nat.le_of_ble_eq_true rfl, Nat.le_of_ble_eq_true rfl⟩) (wP_V 0 hPc hK hDc rfl rfl) rfl rfl hl.1 rfl (lv_room (Nat.le_of_ble_eq_true rfl)) d_P_forgetSnap_16 ⟨Nat.le_of_ble_eq_true rfl, Nat.le_of_ble_eq_true rfl⟩) hS (fun q _ h => hFc q h) hFc (fun u t H1 locs ht hvm hw hB hz1 hk1 hS => ?_)
  obtain ⟨hP1, hD1⟩ := hB
  rw [ht] at hP1
  obtain ⟨hP, hD⟩ := va_join (wr := [(h0, .inr (2, [.ref (ad 0), .ref (ad 1), .ref (ad 2), .ref (ad 3), .ref (ad 4), .ref (ad 5), .int 0])), ((ad 3), .inr (0, [.int (nI 65536), .ref a3, .int z3])), ((ad 4), .inr (0, [.int (nI 65536), .ref a4, .int z4])), ((ad 5), .inr (0, [.int (nI 65536), .ref a5, .int z5])), ((ad 1), .inr (0, [.int (nI 16384), .ref a1, .int 0]))]) (w1 := [((ad 2), .inr (0, [.int (nI 2049), .ref a2, .int 0]))]) hP hD [1] [0, 2, 3, 4, 5] rfl rfl (by decide) (by decide) hk1 hFc hP1 hD1
  generalize H1 = H at hP hS ⊢
  have hP : va_P D vwC [(h0, .inr (2, [.ref (ad 0), .ref (ad 1), .ref (ad 2), .ref (ad 3), .ref (ad 4), .ref (ad 5), .int 0])), ((ad 3), .inr (0, [.int (nI 65536), .ref a3, .int z3])), ((ad 4), .inr (0, [.int (nI 65536), .ref a4, .int z4])), ((ad 5), .inr (0, [.int (nI 65536), .ref a5, .int z5])), ((ad 1), .inr (0, [.int (nI 16384), .ref a1, .int 0])), ((ad 2), .inr (0, [.int (nI 2049), .ref a2, .int 0]))] H := hP
  have hD : va_D A [(h0, .inr (2, [.ref (ad 0), .ref (ad 1), .ref (ad 2), .ref (ad 3), .ref (ad 4), .ref (ad 5), .int 0])), ((ad 3), .inr (0, [.int (nI 65536), .ref a3, .int z3])), ((ad 4), .inr (0, [.int (nI 65536), .ref a4, .int z4])), ((ad 5), .inr (0, [.int (nI 65536), .ref a5, .int z5])), ((ad 1), .inr (0, [.int (nI 16384), .ref a1, .int 0])), ((ad 2), .inr (0, [.int (nI 2049), .ref a2, .int 0]))] := hD
  refine lv_aload_n hx hb d_P_forgetSnap_19 rfl (lv_at hl 0 rfl) ?_
  refine va_get (D := D) (ci := 2) (v := .ref (ad 3)) (C := K_P) (T := F_P) (N := 7) hx hb hG in_P hown hK.1 hP 0 rfl rfl 3 (by decide) (hG _ wd_112) (fun _ h9 => h9) rfl d_P_forgetSnap_20 ?_
  have hPc := hP.sub (ws' := [((ad 3), .inr (0, [.int (nI 65536), .ref a3, .int z3]))]) [1] rfl
  have hDc := hD.sub (ws' := [((ad 3), .inr (0, [.int (nI 65536), .ref a3, .int z3]))]) [1] (by decide) rfl
  have hFc := va_free (wc := [((ad 3), .inr (0, [.int (nI 65536), .ref a3, .int z3]))]) hD hS hA [1] rfl
  refine va_callv (va_runV (As := []) (rest := []) ⟨hx, hb, hml, hown, hts⟩ (k_R_drop l D E (ad 3) a3 H.size (nI 65536) z3) (cwV 0 hts (gw_gv wd_147 wd_148 wd_149 wd_41 wd_150) rfl rfl rfl (by decide +kernel) ⟨Nat.le_of_ble_eq_true rfl, Nat.le_of_ble_eq_true rfl⟩) (wP_V 0 hPc hK hDc rfl rfl) rfl rfl hl.1 rfl (lv_room (Nat.le_of_ble_eq_true rfl)) d_P_forgetSnap_23 ⟨Nat.le_of_ble_eq_true rfl, Nat.le_of_ble_eq_true rfl⟩) hS (fun q _ h => hFc q h) hFc (fun u t H1 locs ht hvm hw hB hz1 hk1 hS => ?_)
  obtain ⟨hP1, hD1⟩ := hB
  rw [ht] at hP1
  obtain ⟨hP, hD⟩ := va_join (wr := [(h0, .inr (2, [.ref (ad 0), .ref (ad 1), .ref (ad 2), .ref (ad 3), .ref (ad 4), .ref (ad 5), .int 0])), ((ad 4), .inr (0, [.int (nI 65536), .ref a4, .int z4])), ((ad 5), .inr (0, [.int (nI 65536), .ref a5, .int z5])), ((ad 1), .inr (0, [.int (nI 16384), .ref a1, .int 0])), ((ad 2), .inr (0, [.int (nI 2049), .ref a2, .int 0]))]) (w1 := [((ad 3), .inr (0, [.int (nI 65536), .ref a3, .int 0]))]) hP hD [1] [0, 2, 3, 4, 5] rfl rfl (by decide) (by decide) hk1 hFc hP1 hD1
  generalize H1 = H at hP hS ⊢
  have hP : va_P D vwC [(h0, .inr (2, [.ref (ad 0), .ref (ad 1), .ref (ad 2), .ref (ad 3), .ref (ad 4), .ref (ad 5), .int 0])), ((ad 4), .inr (0, [.int (nI 65536), .ref a4, .int z4])), ((ad 5), .inr (0, [.int (nI 65536), .ref a5, .int z5])), ((ad 1), .inr (0, [.int (nI 16384), .ref a1, .int 0])), ((ad 2), .inr (0, [.int (nI 2049), .ref a2, .int 0])), ((ad 3), .inr (0, [.int (nI 65536), .ref a3, .int 0]))] H := hP
  have hD : va_D A [(h0, .inr (2, [.ref (ad 0), .ref (ad 1), .ref (ad 2), .ref (ad 3), .ref (ad 4), .ref (ad 5), .int 0])), ((ad 4), .inr (0, [.int (nI 65536), .ref a4, .int z4])), ((ad 5), .inr (0, [.int (nI 65536), .ref a5, .int z5])), ((ad 1), .inr (0, [.int (nI 16384), .ref a1, .int 0])), ((ad 2), .inr (0, [.int (nI 2049), .ref a2, .int 0])), ((ad 3), .inr (0, [.int (nI 65536), .ref a3, .int 0]))] := hD
  refine lv_aload_n hx hb d_P_forgetSnap_26 rfl (lv_at hl 0 rfl) ?_
  refine va_get (D := D) (ci := 2) (v := .ref (ad 4)) (C := K_P) (T := F_P) (N := 7) hx hb hG in_P hown hK.1 hP 0 rfl rfl 4 (by decide) (hG _ wd_113) (fun _ h9 => h9) rfl d_P_forgetSnap_27 ?_
  have hPc := hP.sub (ws' := [((ad 4), .inr (0, [.int (nI 65536), .ref a4, .int z4]))]) [1] rfl
  have hDc := hD.sub (ws' := [((ad 4), .inr (0, [.int (nI 65536), .ref a4, .int z4]))]) [1] (by decide) rfl
  have hFc := va_free (wc := [((ad 4), .inr (0, [.int (nI 65536), .ref a4, .int z4]))]) hD hS hA [1] rfl
  refine va_callv (va_runV (As := []) (rest := []) ⟨hx, hb, hml, hown, hts⟩ (k_R_drop l D E (ad 4) a4 H.size (nI 65536) z4) (cwV 0 hts (gw_gv wd_147 wd_148 wd_149 wd_41 wd_150) rfl rfl rfl (by decide +kernel) ⟨Nat.le_of_ble_eq_true rfl, Nat.le_of_ble_eq_true rfl⟩) (wP_V 0 hPc hK hDc rfl rfl) rfl rfl hl.1 rfl (lv_room (Nat.le_of_ble_eq_true rfl)) d_P_forgetSnap_30 ⟨Nat.le_of_ble_eq_true rfl, Nat.le_of_ble_eq_true rfl⟩) hS (fun q _ h => hFc q h) hFc (fun u t H1 locs ht hvm hw hB hz1 hk1 hS => ?_)
  obtain ⟨hP1, hD1⟩ := hB
  rw [ht] at hP1
  obtain ⟨hP, hD⟩ := va_join (wr := [(h0, .inr (2, [.ref (ad 0), .ref (ad 1), .ref (ad 2), .ref (ad 3), .ref (ad 4), .ref (ad 5), .int 0])), ((ad 5), .inr (0, [.int (nI 65536), .ref a5, .int z5])), ((ad 1), .inr (0, [.int (nI 16384), .ref a1, .int 0])), ((ad 2), .inr (0, [.int (nI 2049), .ref a2, .int 0])), ((ad 3), .inr (0, [.int (nI 65536), .ref a3, .int 0]))]) (w1 := [((ad 4), .inr (0, [.int (nI 65536), .ref a4, .int 0]))]) hP hD [1] [0, 2, 3, 4, 5] rfl rfl (by decide) (by decide) hk1 hFc hP1 hD1
  generalize H1 = H at hP hS ⊢
  have hP : va_P D vwC [(h0, .inr (2, [.ref (ad 0), .ref (ad 1), .ref (ad 2), .ref (ad 3), .ref (ad 4), .ref (ad 5), .int 0])), ((ad 5), .inr (0, [.int (nI 65536), .ref a5, .int z5])), ((ad 1), .inr (0, [.int (nI 16384), .ref a1, .int 0])), ((ad 2), .inr (0, [.int (nI 2049), .ref a2, .int 0])), ((ad 3), .inr (0, [.int (nI 65536), .ref a3, .int 0])), ((ad 4), .inr (0, [.int (nI 65536), .ref a4, .int 0]))] H := hP
  have hD : va_D A [(h0, .inr (2, [.ref (ad 0), .ref (ad 1), .ref (ad 2), .ref (ad 3), .ref (ad 4), .ref (ad 5), .int 0])), ((ad 5), .inr (0, [.int (nI 65536), .ref a5, .int z5])), ((ad 1), .inr (0, [.int (nI 16384), .ref a1, .int 0])), ((ad 2), .inr (0, [.int (nI 2049), .ref a2, .int 0])), ((ad 3), .inr (0, [.int (nI 65536), .ref a3, .int 0])), ((ad 4), .inr (0, [.int (nI 65536), .ref a4, .int 0]))] := hD
  refine lv_aload_n hx hb d_P_forgetSnap_33 rfl (lv_at hl 0 rfl) ?_
  refine va_get (D := D) (ci := 2) (v := .ref (ad 5)) (C := K_P) (T := F_P) (N := 7) hx hb hG in_P hown hK.1 hP 0 rfl rfl 5 (by decide) (hG _ wd_114) (fun _ h9 => h9) rfl d_P_forgetSnap_34 ?_
  have hPc := hP.sub (ws' := [((ad 5), .inr (0, [.int (nI 65536), .ref a5, .int z5]))]) [1] rfl
  have hDc := hD.sub (ws' := [((ad 5), .inr (0, [.int (nI 65536), .ref a5, .int z5]))]) [1] (by decide) rfl
  have hFc := va_free (wc := [((ad 5), .inr (0, [.int (nI 65536), .ref a5, .int z5]))]) hD hS hA [1] rfl
  refine va_callv (va_runV (As := []) (rest := []) ⟨hx, hb, hml, hown, hts⟩ (k_R_drop l D E (ad 5) a5 H.size (nI 65536) z5) (cwV 0 hts (gw_gv wd_147 wd_148 wd_149 wd_41 wd_150) rfl rfl rfl (by decide +kernel) ⟨Nat.le_of_ble_eq_true rfl, Nat.le_of_ble_eq_true rfl⟩) (wP_V 0 hPc hK hDc rfl rfl) rfl rfl hl.1 rfl (lv_room (Nat.le_of_ble_eq_true rfl)) d_P_forgetSnap_37 ⟨Nat.le_of_ble_eq_true rfl, Nat.le_of_ble_eq_true rfl⟩) hS (fun q _ h => hFc q h) hFc (fun u t H1 locs ht hvm hw hB hz1 hk1 hS => ?_)
  obtain ⟨hP1, hD1⟩ := hB
  rw [ht] at hP1
  obtain ⟨hP, hD⟩ := va_join (wr := [(h0, .inr (2, [.ref (ad 0), .ref (ad 1), .ref (ad 2), .ref (ad 3), .ref (ad 4), .ref (ad 5), .int 0])), ((ad 1), .inr (0, [.int (nI 16384), .ref a1, .int 0])), ((ad 2), .inr (0, [.int (nI 2049), .ref a2, .int 0])), ((ad 3), .inr (0, [.int (nI 65536), .ref a3, .int 0])), ((ad 4), .inr (0, [.int (nI 65536), .ref a4, .int 0]))]) (w1 := [((ad 5), .inr (0, [.int (nI 65536), .ref a5, .int 0]))]) hP hD [1] [0, 2, 3, 4, 5] rfl rfl (by decide) (by decide) hk1 hFc hP1 hD1
  generalize H1 = H at hP hS ⊢
  have hP : va_P D vwC [(h0, .inr (2, [.ref (ad 0), .ref (ad 1), .ref (ad 2), .ref (ad 3), .ref (ad 4), .ref (ad 5), .int 0])), ((ad 1), .inr (0, [.int (nI 16384), .ref a1, .int 0])), ((ad 2), .inr (0, [.int (nI 2049), .ref a2, .int 0])), ((ad 3), .inr (0, [.int (nI 65536), .ref a3, .int 0])), ((ad 4), .inr (0, [.int (nI 65536), .ref a4, .int 0])), ((ad 5), .inr (0, [.int (nI 65536), .ref a5, .int 0]))] H := hP
  have hD : va_D A [(h0, .inr (2, [.ref (ad 0), .ref (ad 1), .ref (ad 2), .ref (ad 3), .ref (ad 4), .ref (ad 5), .int 0])), ((ad 1), .inr (0, [.int (nI 16384), .ref a1, .int 0])), ((ad 2), .inr (0, [.int (nI 2049), .ref a2, .int 0])), ((ad 3), .inr (0, [.int (nI 65536), .ref a3, .int 0])), ((ad 4), .inr (0, [.int (nI 65536), .ref a4, .int 0])), ((ad 5), .inr (0, [.int (nI 65536), .ref a5, .int 0]))] := hD
  exact W.vret hx hb hrt (fun t ht hW => ⟨⟨(), rfl, trivial, ⟨by rw [ht]; exact hP, hD⟩⟩, hS.F ht⟩) hS.2.2 d_P_forgetSnap_40 hlocks
/-- hot pixels sorted, each once -/
def mh_m (R : RS) : RS := (R.1, (ps_kd (ps_sort R.2.2 R.2.1) R.2.2).1, (ps_kd (ps_sort R.2.2 R.2.1) R.2.2).2)
set_option maxHeartbeats 4000000 in
set_option maxRecDepth 100000 in
theorem k_P_mergeHot (l : Launch) (D : va_G) (E : ClassId × ClassId × ClassId × ClassId) (h0 sz a1 : Nat) (ad : Nat → Nat) (sn : Int32) (R1 : RS) (hz : R1.2.2 ≤ R1.1) (hn : R1.1 < 2 ^ 29) (hm : (mh_m R1).2.2 ≤ R1.1) : Met l y_P_mergeHot (.code y_P_mergeHot c_P_mergeHot 1 (some .boolean) :: gw) ({ frames := 2, cells := 0, slots := 0, locals := 50 } : Room) (wP D E [(h0, .inr (2, [.ref (ad 0), .ref (ad 1), .ref (ad 2), .ref (ad 3), .ref (ad 4), .ref (ad 5), .int sn])), ((ad 1), .inr (0, [.int (nI 16384), .ref a1, .int (nI R1.2.2)])), (a1, .inl (E.1, R1.1, .inr (.inl R1.2.1)))] sz [.ref h0]) (va_Qi (fun (r : Int32) (u : Unit) => r = b01 ((mh_m R1).2.2 ≤ 8192)) (wB D (fun _ => [(h0, .inr (2, [.ref (ad 0), .ref (ad 1), .ref (ad 2), .ref (ad 3), .ref (ad 4), .ref (ad 5), .int sn])), ((ad 1), .inr (0, [.int (nI 16384), .ref a1, .int (nI (mh_m R1).2.2)])), (a1, .inl (E.1, (mh_m R1).1, .inr (.inl ((mh_m R1).2.1))))]) (va_A [(h0, .inr (2, [.ref (ad 0), .ref (ad 1), .ref (ad 2), .ref (ad 3), .ref (ad 4), .ref (ad 5), .int sn])), ((ad 1), .inr (0, [.int (nI 16384), .ref a1, .int (nI R1.2.2)])), (a1, .inl (E.1, R1.1, .inr (.inl R1.2.1)))] sz)) (va_A [(h0, .inr (2, [.ref (ad 0), .ref (ad 1), .ref (ad 2), .ref (ad 3), .ref (ad 4), .ref (ad 5), .int sn])), ((ad 1), .inr (0, [.int (nI 16384), .ref a1, .int (nI R1.2.2)])), (a1, .inl (E.1, R1.1, .inr (.inl R1.2.1)))] sz)) 0 0 (va_A [(h0, .inr (2, [.ref (ad 0), .ref (ad 1), .ref (ad 2), .ref (ad 3), .ref (ad 4), .ref (ad 5), .int sn])), ((ad 1), .inr (0, [.int (nI 16384), .ref a1, .int (nI R1.2.2)])), (a1, .inl (E.1, R1.1, .inr (.inl R1.2.1)))] sz) := by
  refine wr_ofW (Qc := fun A => (va_Qi (fun (r : Int32) (u : Unit) => r = b01 ((mh_m R1).2.2 ≤ 8192)) (wB D (fun _ => [(h0, .inr (2, [.ref (ad 0), .ref (ad 1), .ref (ad 2), .ref (ad 3), .ref (ad 4), .ref (ad 5), .int sn])), ((ad 1), .inr (0, [.int (nI 16384), .ref a1, .int (nI (mh_m R1).2.2)])), (a1, .inl (E.1, (mh_m R1).1, .inr (.inl ((mh_m R1).2.1))))]) A) A)) (by decide) (Nat.le_of_ble_eq_true rfl) ?_
  intro p e s m below meth c B hP hK A hA hD hS ls hl
  obtain ⟨hx, hb, hrt, hml, hown, hts, hG, hlocks, hin⟩ := B
  have hl : lv_has ls 1 [(0, .ref h0)] := hl
  refine lv_aload_n hx hb d_P_mergeHot_0 rfl (lv_at hl 0 rfl) ?_
  refine va_get (D := D) (ci := 2) (v := .ref (ad 1)) (C := K_P) (T := F_P) (N := 7) hx hb hG in_P hown hK.1 hP 0 rfl rfl 1 (by decide) (hG _ wd_110) (fun _ h9 => h9) rfl d_P_mergeHot_1 ?_
  have hPc := hP.sub (ws' := [((ad 1), .inr (0, [.int (nI 16384), .ref a1, .int (nI R1.2.2)])), (a1, .inl (E.1, R1.1, .inr (.inl R1.2.1)))]) [1, 2] rfl
  have hDc := hD.sub (ws' := [((ad 1), .inr (0, [.int (nI 16384), .ref a1, .int (nI R1.2.2)])), (a1, .inl (E.1, R1.1, .inr (.inl R1.2.1)))]) [1, 2] (by decide) rfl
  have hFc := va_free (wc := [((ad 1), .inr (0, [.int (nI 16384), .ref a1, .int (nI R1.2.2)])), (a1, .inl (E.1, R1.1, .inr (.inl R1.2.1)))]) hD hS hA [1, 2] rfl
  refine va_callv (va_runV (As := []) (rest := []) ⟨hx, hb, hml, hown, hts⟩ (k_R_sort l D E (ad 1) a1 s.heap.size (nI 16384) R1.2.2 R1.1 R1.2.1 hz hn) (cwV 0 hts (gw_gv wd_403 wd_404 wd_405 wd_41 wd_406) rfl rfl rfl (by decide +kernel) ⟨Nat.le_of_ble_eq_true rfl, Nat.le_of_ble_eq_true rfl⟩) (wP_V 0 hPc hK hDc rfl rfl) rfl rfl hl.1 rfl (lv_room (Nat.le_of_ble_eq_true rfl)) d_P_mergeHot_4 ⟨Nat.le_of_ble_eq_true rfl, Nat.le_of_ble_eq_true rfl⟩) hS (fun q _ h => hFc q h) hFc (fun u t H1 locs ht hvm hw hB hz1 hk1 hS => ?_)
  obtain ⟨hP1, hD1⟩ := hB
  rw [ht] at hP1
  obtain ⟨hP, hD⟩ := va_join (wr := [(h0, .inr (2, [.ref (ad 0), .ref (ad 1), .ref (ad 2), .ref (ad 3), .ref (ad 4), .ref (ad 5), .int sn]))]) (w1 := [((ad 1), .inr (0, [.int (nI 16384), .ref a1, .int (nI R1.2.2)])), (a1, .inl (E.1, R1.1, .inr (.inl (ps_sort R1.2.2 R1.2.1))))]) hP hD [1, 2] [0] rfl rfl (by decide) (by decide) hk1 hFc hP1 hD1
  generalize H1 = H at hP hS ⊢
  have hP : va_P D vwC [(h0, .inr (2, [.ref (ad 0), .ref (ad 1), .ref (ad 2), .ref (ad 3), .ref (ad 4), .ref (ad 5), .int sn])), ((ad 1), .inr (0, [.int (nI 16384), .ref a1, .int (nI R1.2.2)])), (a1, .inl (E.1, R1.1, .inr (.inl (ps_sort R1.2.2 R1.2.1))))] H := hP
  have hD : va_D A [(h0, .inr (2, [.ref (ad 0), .ref (ad 1), .ref (ad 2), .ref (ad 3), .ref (ad 4), .ref (ad 5), .int sn])), ((ad 1), .inr (0, [.int (nI 16384), .ref a1, .int (nI R1.2.2)])), (a1, .inl (E.1, R1.1, .inr (.inl (ps_sort R1.2.2 R1.2.1))))] := hD
  refine lv_aload_n hx hb d_P_mergeHot_7 rfl (lv_at hl 0 rfl) ?_
  refine va_get (D := D) (ci := 2) (v := .ref (ad 1)) (C := K_P) (T := F_P) (N := 7) hx hb hG in_P hown hK.1 hP 0 rfl rfl 1 (by decide) (hG _ wd_110) (fun _ h9 => h9) rfl d_P_mergeHot_8 ?_
  have hPc := hP.sub (ws' := [((ad 1), .inr (0, [.int (nI 16384), .ref a1, .int (nI R1.2.2)])), (a1, .inl (E.1, R1.1, .inr (.inl (ps_sort R1.2.2 R1.2.1))))]) [1, 2] rfl
  have hDc := hD.sub (ws' := [((ad 1), .inr (0, [.int (nI 16384), .ref a1, .int (nI R1.2.2)])), (a1, .inl (E.1, R1.1, .inr (.inl (ps_sort R1.2.2 R1.2.1))))]) [1, 2] (by decide) rfl
  have hFc := va_free (wc := [((ad 1), .inr (0, [.int (nI 16384), .ref a1, .int (nI R1.2.2)])), (a1, .inl (E.1, R1.1, .inr (.inl (ps_sort R1.2.2 R1.2.1))))]) hD hS hA [1, 2] rfl
  refine va_callv (va_runV (As := []) (rest := []) ⟨hx, hb, hml, hown, hts⟩ (k_R_keepDistinct l D E (ad 1) a1 H.size (nI 16384) R1.2.2 R1.1 (ps_sort R1.2.2 R1.2.1) hz hn) (cwV 0 hts (gw_gv wd_411 wd_412 wd_413 wd_41 wd_414) rfl rfl rfl (by decide +kernel) ⟨Nat.le_of_ble_eq_true rfl, Nat.le_of_ble_eq_true rfl⟩) (wP_V 0 hPc hK hDc rfl rfl) rfl rfl hl.1 rfl (lv_room (Nat.le_of_ble_eq_true rfl)) d_P_mergeHot_11 ⟨Nat.le_of_ble_eq_true rfl, Nat.le_of_ble_eq_true rfl⟩) hS (fun q _ h => hFc q h) hFc (fun u t H1 locs ht hvm hw hB hz1 hk1 hS => ?_)
  obtain ⟨hP1, hD1⟩ := hB
  rw [ht] at hP1
  obtain ⟨hP, hD⟩ := va_join (wr := [(h0, .inr (2, [.ref (ad 0), .ref (ad 1), .ref (ad 2), .ref (ad 3), .ref (ad 4), .ref (ad 5), .int sn]))]) (w1 := [((ad 1), .inr (0, [.int (nI 16384), .ref a1, .int (nI (mh_m R1).2.2)])), (a1, .inl (E.1, (mh_m R1).1, .inr (.inl ((mh_m R1).2.1))))]) hP hD [1, 2] [0] rfl rfl (by decide) (by decide) hk1 hFc hP1 hD1
  generalize H1 = H at hP hS ⊢
  have hP : va_P D vwC [(h0, .inr (2, [.ref (ad 0), .ref (ad 1), .ref (ad 2), .ref (ad 3), .ref (ad 4), .ref (ad 5), .int sn])), ((ad 1), .inr (0, [.int (nI 16384), .ref a1, .int (nI (mh_m R1).2.2)])), (a1, .inl (E.1, (mh_m R1).1, .inr (.inl ((mh_m R1).2.1))))] H := hP
  have hD : va_D A [(h0, .inr (2, [.ref (ad 0), .ref (ad 1), .ref (ad 2), .ref (ad 3), .ref (ad 4), .ref (ad 5), .int sn])), ((ad 1), .inr (0, [.int (nI 16384), .ref a1, .int (nI (mh_m R1).2.2)])), (a1, .inl (E.1, (mh_m R1).1, .inr (.inl ((mh_m R1).2.1))))] := hD
  refine lv_aload_n hx hb d_P_mergeHot_14 rfl (lv_at hl 0 rfl) ?_
  refine va_get (D := D) (ci := 2) (v := .ref (ad 1)) (C := K_P) (T := F_P) (N := 7) hx hb hG in_P hown hK.1 hP 0 rfl rfl 1 (by decide) (hG _ wd_110) (fun _ h9 => h9) rfl d_P_mergeHot_15 ?_
  have hPc := hP.sub (ws' := [((ad 1), .inr (0, [.int (nI 16384), .ref a1, .int (nI (mh_m R1).2.2)]))]) [1] rfl
  refine vp_callSi (W.runV (As := []) (rest := []) ⟨hx, hb, hml, hown, hts⟩ (k_R_size l D E (ad 1) a1 (nI 16384) (nI (mh_m R1).2.2)) (cwV 0 hts (gw_gv wd_155 wd_156 wd_157 wd_41 wd_158) rfl rfl rfl (by decide +kernel) ⟨Nat.le_of_ble_eq_true rfl, Nat.le_of_ble_eq_true rfl⟩) (rP_V 0 hPc hK rfl rfl) rfl rfl hl.1 rfl (lv_room (Nat.le_of_ble_eq_true rfl)) d_P_mergeHot_18 ⟨Nat.le_of_ble_eq_true rfl, Nat.le_of_ble_eq_true rfl⟩) (fun r1 hr1 => ?_)
  subst hr1
  refine lv_sipush (v := 8192) hx hb d_P_mergeHot_21 (by decide) ?_
  refine lv_icmp_gt (tgt := 31) hx hb d_P_mergeHot_24 (by decide) (fun c1 => ?_) (fun c1 => ?_)
  · refine lv_iconst (v := 0) hx hb d_P_mergeHot_31 (by decide) ?_
    exact W.zret (v := 0) (ty := .boolean) hx hb hrt rfl (fun t ht hW => ⟨⟨0, (), rfl, by rw [b01_f (fun h => absurd c1 (fun h9 => by have h9 : nI 8192 < nI (mh_m R1).2.2 := h9; have := (nI_ltI (by omega) (by omega)).mp h9; omega))], ⟨by rw [ht]; exact hP, hD⟩⟩, hS.F ht⟩) hS.2.2 d_P_mergeHot_32 hlocks
  · refine lv_iconst (v := 1) hx hb d_P_mergeHot_27 (by decide) ?_
    refine lv_goto (tgt := 32) hx hb d_P_mergeHot_28 (by decide) ?_
    exact W.zret (v := 1) (ty := .boolean) hx hb hrt rfl (fun t ht hW => ⟨⟨1, (), rfl, by rw [b01_t (by have := mt (nI_ltI (a := 8192) (b := (mh_m R1).2.2) (by omega) (by omega)).mpr c1; omega)], ⟨by rw [ht]; exact hP, hD⟩⟩, hS.F ht⟩) hS.2.2 d_P_mergeHot_32 hlocks
