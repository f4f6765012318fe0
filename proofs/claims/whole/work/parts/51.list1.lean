theorem d_A_elementData_0 : decode c_A_elementData 0 = .ok (.aload_n 0, 1) := by decide +kernel
theorem d_A_elementData_1 : decode c_A_elementData 1 = .ok (.getfield 9, 3) := by decide +kernel
theorem d_A_elementData_4 : decode c_A_elementData 4 = .ok (.iload_n 1, 1) := by decide +kernel
theorem d_A_elementData_5 : decode c_A_elementData 5 = .ok (.aaload, 1) := by decide +kernel
theorem d_A_elementData_6 : decode c_A_elementData 6 = .ok (.areturn, 1) := by decide +kernel
theorem d_A_get_0 : decode c_A_get 0 = .ok (.iload_n 1, 1) := by decide +kernel
theorem d_A_get_1 : decode c_A_get 1 = .ok (.aload_n 0, 1) := by decide +kernel
theorem d_A_get_2 : decode c_A_get 2 = .ok (.getfield 48, 3) := by decide +kernel
theorem d_A_get_5 : decode c_A_get 5 = .ok (.invokestatic 118, 3) := by decide +kernel
theorem d_A_get_8 : decode c_A_get 8 = .ok (.pop, 1) := by decide +kernel
theorem d_A_get_9 : decode c_A_get 9 = .ok (.aload_n 0, 1) := by decide +kernel
theorem d_A_get_10 : decode c_A_get 10 = .ok (.iload_n 1, 1) := by decide +kernel
theorem d_A_get_11 : decode c_A_get 11 = .ok (.invokevirtual 123, 3) := by decide +kernel
theorem d_A_get_14 : decode c_A_get 14 = .ok (.areturn, 1) := by decide +kernel
theorem d_A_init_0 : decode c_A_init 0 = .ok (.aload_n 0, 1) := by decide +kernel
theorem d_A_init_1 : decode c_A_init 1 = .ok (.invokespecial 1, 3) := by decide +kernel
theorem d_A_init_4 : decode c_A_init 4 = .ok (.aload_n 0, 1) := by decide +kernel
theorem d_A_init_5 : decode c_A_init 5 = .ok (.getstatic 39, 3) := by decide +kernel
theorem d_A_init_8 : decode c_A_init 8 = .ok (.putfield 9, 3) := by decide +kernel
theorem d_A_init_11 : decode c_A_init 11 = .ok (.return_, 1) := by decide +kernel
theorem d_A_size_0 : decode c_A_size 0 = .ok (.aload_n 0, 1) := by decide +kernel
theorem d_A_size_1 : decode c_A_size 1 = .ok (.getfield 48, 3) := by decide +kernel
theorem d_A_size_4 : decode c_A_size 4 = .ok (.ireturn, 1) := by decide +kernel
theorem d_B_init_0 : decode c_B_init 0 = .ok (.aload_n 0, 1) := by decide +kernel
theorem d_B_init_1 : decode c_B_init 1 = .ok (.invokespecial 1, 3) := by decide +kernel
theorem d_B_init_4 : decode c_B_init 4 = .ok (.aload_n 0, 1) := by decide +kernel
theorem d_B_init_5 : decode c_B_init 5 = .ok (.iconst 0, 1) := by decide +kernel
theorem d_B_init_6 : decode c_B_init 6 = .ok (.putfield 7, 3) := by decide +kernel
theorem d_B_init_9 : decode c_B_init 9 = .ok (.return_, 1) := by decide +kernel
theorem d_C_init_0 : decode c_C_init 0 = .ok (.aload_n 0, 1) := by decide +kernel
theorem d_C_init_1 : decode c_C_init 1 = .ok (.invokespecial 1, 3) := by decide +kernel
theorem d_C_init_4 : decode c_C_init 4 = .ok (.return_, 1) := by decide +kernel
theorem d_O_checkIndex_0 : decode c_O_checkIndex 0 = .ok (.iload_n 0, 1) := by decide +kernel
theorem d_O_checkIndex_1 : decode c_O_checkIndex 1 = .ok (.iload_n 1, 1) := by decide +kernel
theorem d_O_checkIndex_2 : decode c_O_checkIndex 2 = .ok (.aconst_null, 1) := by decide +kernel
theorem d_O_checkIndex_3 : decode c_O_checkIndex 3 = .ok (.invokestatic 105, 3) := by decide +kernel
theorem d_O_checkIndex_6 : decode c_O_checkIndex 6 = .ok (.ireturn, 1) := by decide +kernel
theorem d_Q_checkIndex_0 : decode c_Q_checkIndex 0 = .ok (.iload_n 0, 1) := by decide +kernel
theorem d_Q_checkIndex_1 : decode c_Q_checkIndex 1 = .ok (.ifCond .lt 8, 3) := by decide +kernel
theorem d_Q_checkIndex_4 : decode c_Q_checkIndex 4 = .ok (.iload_n 0, 1) := by decide +kernel
theorem d_Q_checkIndex_5 : decode c_Q_checkIndex 5 = .ok (.iload_n 1, 1) := by decide +kernel
theorem d_Q_checkIndex_6 : decode c_Q_checkIndex 6 = .ok (.if_icmp .lt 10, 3) := by decide +kernel
theorem d_Q_checkIndex_16 : decode c_Q_checkIndex 16 = .ok (.iload_n 0, 1) := by decide +kernel
theorem d_Q_checkIndex_17 : decode c_Q_checkIndex 17 = .ok (.ireturn, 1) := by decide +kernel
set_option maxHeartbeats 4000000 in
set_option maxRecDepth 100000 in
theorem k_C_init (l : Launch) (D : va_G) (E : ClassId × ClassId × ClassId × ClassId) (h0 : Nat) : Met l y_C_init (.code y_C_init c_C_init 1 none :: gw) ({ frames := 1, cells := 0, slots := 0, locals := 12 } : Room) (rP D E [] [.ref h0]) (va_Sv (fun _ => True)) 0 0 (fun _ => False) := by
  refine rd_ofF (by decide) (Nat.le_of_ble_eq_true rfl) ?_
  intro p e s m below meth c B hP hK ls hl
  obtain ⟨hx, hb, hrt, hml, hown, hts, hG, hlocks, hin⟩ := B
  have hl : lv_has ls 1 [(0, .ref h0)] := hl
  refine lv_aload_n hx hb d_C_init_0 rfl (lv_at hl 0 rfl) ?_
  refine W.objInit hx hb hown (hG _ wd_76) (hG _ wd_63) (hG _ wd_64) rfl (by rw [hml]; exact hl.1) rfl d_C_init_1 (Nat.le_of_ble_eq_true rfl) (Nat.le_of_ble_eq_true rfl) ?_
  refine W.eq (g2 := F0 m 4 ls []) rfl ?_
  exact W.vret hx hb hrt (fun t ht hW => ⟨rfl, trivial, ht⟩) (fun q h => nomatch h) d_C_init_4 hlocks
set_option maxHeartbeats 4000000 in
set_option maxRecDepth 100000 in
theorem k_B_init (l : Launch) (D : va_G) (E : ClassId × ClassId × ClassId × ClassId) (h0 sz : Nat) (v : Value) (z mo9 : Int32) : Met l y_B_init (.code y_B_init c_B_init 1 none :: gw) ({ frames := 2, cells := 0, slots := 0, locals := 40 } : Room) (wP D E [(h0, .inr (4, [v, .int z, .int mo9]))] sz [.ref h0]) (va_Qv (fun (u : Unit) => True) (wB D (fun _ => [(h0, .inr (4, [v, .int z, .int 0]))]) (va_A [(h0, .inr (4, [v, .int z, .int mo9]))] sz)) (va_A [(h0, .inr (4, [v, .int z, .int mo9]))] sz)) 0 0 (va_A [(h0, .inr (4, [v, .int z, .int mo9]))] sz) := by
  refine wr_ofF (Qc := fun A => (va_Qv (fun (u : Unit) => True) (wB D (fun _ => [(h0, .inr (4, [v, .int z, .int 0]))]) A) A)) (by decide) (Nat.le_of_ble_eq_true rfl) ?_
  intro p e s m below meth c B hP hK A hA hD hS ls hl
  obtain ⟨hx, hb, hrt, hml, hown, hts, hG, hlocks, hin⟩ := B
  have hl : lv_has ls 1 [(0, .ref h0)] := hl
  refine lv_aload_n hx hb d_B_init_0 rfl (lv_at hl 0 rfl) ?_
  have hPc := hP.sub (ws' := []) [] rfl
  refine va_csv (W.runI (As := []) (rest := []) ⟨hx, hb, hml, hown, hts⟩ (k_C_init l D E h0) (cwI 0 hts (gw_gi wd_75) rfl rfl rfl (hG _ wd_38) (hG _ wd_73) (hG _ wd_74) rfl (by decide +kernel) ⟨Nat.le_of_ble_eq_true rfl, Nat.le_of_ble_eq_true rfl⟩) (rP_S hPc hK) rfl rfl hl.1 rfl (lv_room (Nat.le_of_ble_eq_true rfl)) d_B_init_1 ⟨Nat.le_of_ble_eq_true rfl, Nat.le_of_ble_eq_true rfl⟩) (fun _ => ?_)
  refine lv_aload_n hx hb d_B_init_4 rfl (lv_at hl 0 rfl) ?_
  refine lv_iconst (v := 0) hx hb d_B_init_5 (by decide) ?_
  refine va_put (D := D) (ci := 4) (v := .int 0) (ty := .int) (C := K_A) (T := F_A) (N := 3) hx hb hG in_A t_A t_A_ok n_A hown hK.1 hP hD hS 0 rfl rfl 2 (by decide) (hG _ wd_81) (fun _ h9 => h9) rfl (by decide +kernel) rfl rfl (Nat.le_of_ble_eq_true rfl) d_B_init_6 (fun H locs hP hD hS => ?_)
  have hP : va_P D vwC [(h0, .inr (4, [v, .int z, .int 0]))] H := hP
  have hD : va_D A [(h0, .inr (4, [v, .int z, .int 0]))] := hD
  exact W.vret hx hb hrt (fun t ht hW => ⟨⟨(), rfl, trivial, ⟨by rw [ht]; exact hP, hD⟩⟩, hS.F ht⟩) hS.2.2 d_B_init_9 hlocks
set_option maxHeartbeats 4000000 in
set_option maxRecDepth 100000 in
theorem k_A_init (l : Launch) (D : va_G) (E : ClassId × ClassId × ClassId × ClassId) (h0 sz e0 : Nat) : Met l y_A_init (.code y_A_init c_A_init 1 none :: gw) ({ frames := 3, cells := 0, slots := 0, locals := 70 } : Room) (wX D E e0 [(h0, .inr (4, [.null, .int 0, .int 0]))] sz [.ref h0]) (va_Qv (fun (u : Unit) => True) (wB D (fun _ => [(h0, .inr (4, [.ref e0, .int 0, .int 0]))]) (va_A [(h0, .inr (4, [.null, .int 0, .int 0]))] sz)) (va_A [(h0, .inr (4, [.null, .int 0, .int 0]))] sz)) 0 0 (va_A [(h0, .inr (4, [.null, .int 0, .int 0]))] sz) := by
  refine wx_ofF (Qc := fun A => (va_Qv (fun (u : Unit) => True) (wB D (fun _ => [(h0, .inr (4, [.ref e0, .int 0, .int 0]))]) A) A)) (by decide) (Nat.le_of_ble_eq_true rfl) ?_
  intro p e s m below meth c B hP hK A hA hD hS hZ ls hl
  obtain ⟨hx, hb, hrt, hml, hown, hts, hG, hlocks, hin⟩ := B
  have hl : lv_has ls 1 [(0, .ref h0)] := hl
  refine lv_aload_n hx hb d_A_init_0 rfl (lv_at hl 0 rfl) ?_
  have hPc := hP.sub (ws' := [(h0, .inr (4, [.null, .int 0, .int 0]))]) [0] rfl
  have hDc := hD.sub (ws' := [(h0, .inr (4, [.null, .int 0, .int 0]))]) [0] (by decide) rfl
  have hFc := va_free (wc := [(h0, .inr (4, [.null, .int 0, .int 0]))]) hD hS hA [0] rfl
  refine va_callv (va_runI (As := []) (rest := []) ⟨hx, hb, hml, hown, hts⟩ (k_B_init l D E h0 s.heap.size .null 0 0) (cwI 0 hts (gw_gi wd_72) rfl rfl rfl (hG _ wd_39) (hG _ wd_70) (hG _ wd_71) rfl (by decide +kernel) ⟨Nat.le_of_ble_eq_true rfl, Nat.le_of_ble_eq_true rfl⟩) (wP_S hPc hK hDc) rfl rfl hl.1 rfl (lv_room (Nat.le_of_ble_eq_true rfl)) d_A_init_1 ⟨Nat.le_of_ble_eq_true rfl, Nat.le_of_ble_eq_true rfl⟩) hS (fun q _ h => hFc q h) hFc (fun u t H1 locs ht hvm hw hB hz1 hk1 hS => ?_)
  obtain ⟨hP1, hD1⟩ := hB
  rw [ht] at hP1
  obtain ⟨hP, hD⟩ := va_join (wr := []) (w1 := [(h0, .inr (4, [.null, .int 0, .int 0]))]) hP hD [0] [] rfl rfl (by decide) (by decide) hk1 hFc hP1 hD1
  generalize H1 = H at hP hS ⊢
  have hP : va_P D vwC [(h0, .inr (4, [.null, .int 0, .int 0]))] H := hP
  have hD : va_D A [(h0, .inr (4, [.null, .int 0, .int 0]))] := hD
  refine lv_aload_n hx hb d_A_init_4 rfl (lv_at hl 0 rfl) ?_
  refine va_gets hx hb hZ.1 hS hown (hG _ wd_77) (fun _ h9 => h9) d_A_init_5 ?_
  refine va_put (D := D) (ci := 4) (v := .ref e0) (ty := .array (.object "java/lang/Object")) (C := K_A) (T := F_A) (N := 3) hx hb hG in_A t_A t_A_ok n_A hown hK.1 hP hD hS 0 rfl rfl 0 (by decide) (hG _ wd_79) (fun _ h9 => h9) rfl (by decide +kernel) rfl rfl (Nat.le_of_ble_eq_true rfl) d_A_init_8 (fun H locs hP hD hS => ?_)
  have hP : va_P D vwC [(h0, .inr (4, [.ref e0, .int 0, .int 0]))] H := hP
  have hD : va_D A [(h0, .inr (4, [.ref e0, .int 0, .int 0]))] := hD
  exact W.vret hx hb hrt (fun t ht hW => ⟨⟨(), rfl, trivial, ⟨by rw [ht]; exact hP, hD⟩⟩, hS.F ht⟩) hS.2.2 d_A_init_11 hlocks
set_option maxHeartbeats 4000000 in
set_option maxRecDepth 100000 in
theorem k_A_size (l : Launch) (D : va_G) (E : ClassId × ClassId × ClassId × ClassId) (h0 : Nat) (v : Value) (z mo9 : Int32) : Met l y_A_size (.code y_A_size c_A_size 1 (some .int) :: gw) ({ frames := 0, cells := 0, slots := 0, locals := 0 } : Room) (rP D E [(h0, .inr (4, [v, .int z, .int mo9]))] [.ref h0]) (vp_Si (fun r => r = z)) 0 0 (fun _ => False) := by
  refine rd_ofF (by decide) (Nat.le_of_ble_eq_true rfl) ?_
  intro p e s m below meth c B hP hK ls hl
  obtain ⟨hx, hb, hrt, hml, hown, hts, hG, hlocks, hin⟩ := B
  have hl : lv_has ls 1 [(0, .ref h0)] := hl
  refine lv_aload_n hx hb d_A_size_0 rfl (lv_at hl 0 rfl) ?_
  refine va_get (D := D) (ci := 4) (v := .int z) (C := K_A) (T := F_A) (N := 3) hx hb hG in_A hown hK.1 hP 0 rfl rfl 1 (by decide) (hG _ wd_80) (fun _ h9 => h9) rfl d_A_size_1 ?_
  exact W.iret (v := z) hx hb hrt (fun t ht hW => ⟨z, rfl, rfl, ht⟩) (fun q h => nomatch h) d_A_size_4 hlocks
set_option maxHeartbeats 4000000 in
set_option maxRecDepth 100000 in
theorem k_Q_checkIndex (l : Launch) (D : va_G) (E : ClassId × ClassId × ClassId × ClassId) (i n : Nat) (hi : i < n) (hn : n < 2 ^ 31) : Met l y_Q_checkIndex (.code y_Q_checkIndex c_Q_checkIndex 3 (some .int) :: gw) ({ frames := 0, cells := 0, slots := 0, locals := 0 } : Room) (rP D E [] [.int (nI i), .int (nI n), .null]) (vp_Si (fun r => r = nI i)) 0 0 (fun _ => False) := by
  refine rd_ofF (by decide) (Nat.le_of_ble_eq_true rfl) ?_
  intro p e s m below meth c B hP hK ls hl
  obtain ⟨hx, hb, hrt, hml, hown, hts, hG, hlocks, hin⟩ := B
  have hl : lv_has ls 3 [(0, .int (nI i)), (1, .int (nI n)), (2, .null)] := hl
  refine lv_iload_n hx hb d_Q_checkIndex_0 rfl (lv_at hl 0 rfl) ?_
  refine lv_if_lt (tgt := 9) hx hb d_Q_checkIndex_1 (by decide) (fun c1 => ?_) (fun c1 => ?_)
  · exact absurd c1 (nI_pos (by omega))
  · refine lv_iload_n hx hb d_Q_checkIndex_4 rfl (lv_at hl 0 rfl) ?_
    refine lv_iload_n hx hb d_Q_checkIndex_5 rfl (lv_at hl 1 rfl) ?_
    refine lv_icmp_lt (tgt := 16) hx hb d_Q_checkIndex_6 (by decide) (fun c2 => ?_) (fun c2 => ?_)
    · refine lv_iload_n hx hb d_Q_checkIndex_16 rfl (lv_at hl 0 rfl) ?_
      exact W.iret (v := nI i) hx hb hrt (fun t ht hW => ⟨nI i, rfl, rfl, ht⟩) (fun q h => nomatch h) d_Q_checkIndex_17 hlocks
    · exact absurd (nI_lt hi hn) c2
set_option maxHeartbeats 4000000 in
set_option maxRecDepth 100000 in
theorem k_O_checkIndex (l : Launch) (D : va_G) (E : ClassId × ClassId × ClassId × ClassId) (i n : Nat) (hi : i < n) (hn : n < 2 ^ 31) : Met l y_O_checkIndex (.code y_O_checkIndex c_O_checkIndex 2 (some .int) :: gw) ({ frames := 1, cells := 0, slots := 0, locals := 22 } : Room) (rP D E [] [.int (nI i), .int (nI n)]) (vp_Si (fun r => r = nI i)) 0 0 (fun _ => False) := by
  refine rd_ofF (by decide) (Nat.le_of_ble_eq_true rfl) ?_
  intro p e s m below meth c B hP hK ls hl
  obtain ⟨hx, hb, hrt, hml, hown, hts, hG, hlocks, hin⟩ := B
  have hl : lv_has ls 2 [(0, .int (nI i)), (1, .int (nI n))] := hl
  refine lv_iload_n hx hb d_O_checkIndex_0 rfl (lv_at hl 0 rfl) ?_
  refine lv_iload_n hx hb d_O_checkIndex_1 rfl (lv_at hl 1 rfl) ?_
  refine lv_null hx hb d_O_checkIndex_2 ?_
  have hPc := hP.sub (ws' := []) [] rfl
  refine vp_callSi (W.runS (As := [.int (nI i), .int (nI n), .null]) (rest := []) ⟨hx, hb, hml, hown, hts⟩ (k_Q_checkIndex l D E i n hi hn) (va_cwS 3 hts (gw_gs wd_376 wd_377 wd_54 wd_378) rfl rfl rfl (by decide +kernel) ⟨Nat.le_of_ble_eq_true rfl, Nat.le_of_ble_eq_true rfl⟩) (rP_S hPc hK) rfl rfl hl.1 rfl (lv_room (Nat.le_of_ble_eq_true rfl)) d_O_checkIndex_3 ⟨Nat.le_of_ble_eq_true rfl, Nat.le_of_ble_eq_true rfl⟩) (fun r1 hr1 => ?_)
  subst hr1
  exact W.iret (v := (nI i)) hx hb hrt (fun t ht hW => ⟨(nI i), rfl, rfl, ht⟩) (fun q h => nomatch h) d_O_checkIndex_6 hlocks
set_option maxHeartbeats 4000000 in
set_option maxRecDepth 100000 in
theorem k_A_elementData (l : Launch) (D : va_G) (E : ClassId × ClassId × ClassId × ClassId) (h0 ed n i : Nat) (z mo9 : Int32) (el : Nat → Option Nat) (hi : i < n) (hn : n < 2 ^ 31) : Met l y_A_elementData (.code y_A_elementData c_A_elementData 2 (some (.object "java/lang/Object")) :: gw) ({ frames := 0, cells := 0, slots := 0, locals := 0 } : Room) (rP D E [(h0, .inr (4, [.ref ed, .int z, .int mo9])), (ed, .inl (E.2.2.2, n, .inr (.inr (.inr (.inr el)))))] [.ref h0, .int (nI i)]) (va_Sq (fun r => r = el i)) 0 0 (fun _ => False) := by
  refine rd_ofF (by decide) (Nat.le_of_ble_eq_true rfl) ?_
  intro p e s m below meth c B hP hK ls hl
  obtain ⟨hx, hb, hrt, hml, hown, hts, hG, hlocks, hin⟩ := B
  have hl : lv_has ls 2 [(0, .ref h0), (1, .int (nI i))] := hl
  refine lv_aload_n hx hb d_A_elementData_0 rfl (lv_at hl 0 rfl) ?_
  refine va_get (D := D) (ci := 4) (v := .ref ed) (C := K_A) (T := F_A) (N := 3) hx hb hG in_A hown hK.1 hP 0 rfl rfl 0 (by decide) (hG _ wd_79) (fun _ h9 => h9) rfl d_A_elementData_1 ?_
  refine lv_iload_n hx hb d_A_elementData_4 rfl (lv_at hl 1 rfl) ?_
  refine va_aldq hx hb hK.1 hP 1 3 rfl rfl (vp_in_nI hi hn) d_A_elementData_5 ?_
  rw [show el (Int32.toNatClampNeg (nI i)) = (el i) from by rw [nI_clamp (by omega)]]
  exact W.aret (v := va_rf (el i)) hx hb hrt (Or.inl ⟨_, rfl⟩) (va_rf_or _) (fun t ht hW => ⟨(el i), rfl, rfl, ht⟩) (fun q h => nomatch h) d_A_elementData_6 hlocks
set_option maxHeartbeats 4000000 in
set_option maxRecDepth 100000 in
theorem k_A_get (l : Launch) (D : va_G) (E : ClassId × ClassId × ClassId × ClassId) (h0 ed n k i : Nat) (mo9 : Int32) (el : Nat → Option Nat) (hi : i < k) (hk : k ≤ n) (hn : n < 2 ^ 31) : Met l y_A_get (.code y_A_get c_A_get 2 (some (.object "java/lang/Object")) :: gw) ({ frames := 2, cells := 0, slots := 0, locals := 60 } : Room) (rP D E [(h0, .inr (4, [.ref ed, .int (nI k), .int mo9])), (ed, .inl (E.2.2.2, n, .inr (.inr (.inr (.inr el)))))] [.ref h0, .int (nI i)]) (va_Sq (fun r => r = el i)) 0 0 (fun _ => False) := by
  refine rd_ofF (by decide) (Nat.le_of_ble_eq_true rfl) ?_
  intro p e s m below meth c B hP hK ls hl
  obtain ⟨hx, hb, hrt, hml, hown, hts, hG, hlocks, hin⟩ := B
  have hl : lv_has ls 2 [(0, .ref h0), (1, .int (nI i))] := hl
  refine lv_iload_n hx hb d_A_get_0 rfl (lv_at hl 1 rfl) ?_
  refine lv_aload_n hx hb d_A_get_1 rfl (lv_at hl 0 rfl) ?_
  refine va_get (D := D) (ci := 4) (v := .int (nI k)) (C := K_A) (T := F_A) (N := 3) hx hb hG in_A hown hK.1 hP 0 rfl rfl 1 (by decide) (hG _ wd_80) (fun _ h9 => h9) rfl d_A_get_2 ?_
  have hPc := hP.sub (ws' := []) [] rfl
  refine vp_callSi (W.runS (As := [.int (nI i), .int (nI k)]) (rest := []) ⟨hx, hb, hml, hown, hts⟩ (k_O_checkIndex l D E i k hi (by omega)) (va_cwS 2 hts (gw_gs wd_373 wd_374 wd_53 wd_375) rfl rfl rfl (by decide +kernel) ⟨Nat.le_of_ble_eq_true rfl, Nat.le_of_ble_eq_true rfl⟩) (rP_S hPc hK) rfl rfl hl.1 rfl (lv_room (Nat.le_of_ble_eq_true rfl)) d_A_get_5 ⟨Nat.le_of_ble_eq_true rfl, Nat.le_of_ble_eq_true rfl⟩) (fun r1 hr1 => ?_)
  refine lv_pop hx hb d_A_get_8 rfl ?_
  refine lv_aload_n hx hb d_A_get_9 rfl (lv_at hl 0 rfl) ?_
  refine lv_iload_n hx hb d_A_get_10 rfl (lv_at hl 1 rfl) ?_
  have hPc := hP.sub (ws' := [(h0, .inr (4, [.ref ed, .int (nI k), .int mo9])), (ed, .inl (E.2.2.2, n, .inr (.inr (.inr (.inr el)))))]) [0, 1] rfl
  refine va_csq (W.runV (As := [.int (nI i)]) (rest := []) ⟨hx, hb, hml, hown, hts⟩ (k_A_elementData l D E h0 ed n i (nI k) mo9 el (by omega) hn) (cwV 1 hts (gw_gv wd_379 wd_380 wd_381 wd_40 wd_382) rfl rfl rfl (by decide +kernel) ⟨Nat.le_of_ble_eq_true rfl, Nat.le_of_ble_eq_true rfl⟩) (rP_V 0 hPc hK rfl rfl) rfl rfl hl.1 rfl (lv_room (Nat.le_of_ble_eq_true rfl)) d_A_get_11 ⟨Nat.le_of_ble_eq_true rfl, Nat.le_of_ble_eq_true rfl⟩) (fun r2 hr2 => ?_)
  subst hr2
  exact W.aret (v := va_rf (el i)) hx hb hrt (Or.inl ⟨_, rfl⟩) (va_rf_or _) (fun t ht hW => ⟨(el i), rfl, rfl, ht⟩) (fun q h => nomatch h) d_A_get_14 hlocks
