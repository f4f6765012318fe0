theorem d_M_chain_0 : decode c_M_chain 0 = .ok (.aload_n 0, 1) := by decide +kernel
theorem d_M_chain_1 : decode c_M_chain 1 = .ok (.iconst 0, 1) := by decide +kernel
theorem d_M_chain_2 : decode c_M_chain 2 = .ok (.putfield 46, 3) := by decide +kernel
theorem d_M_chain_5 : decode c_M_chain 5 = .ok (.aload_n 0, 1) := by decide +kernel
theorem d_M_chain_6 : decode c_M_chain 6 = .ok (.iload_n 1, 1) := by decide +kernel
theorem d_M_chain_7 : decode c_M_chain 7 = .ok (.invokevirtual 116, 3) := by decide +kernel
theorem d_M_chain_10 : decode c_M_chain 10 = .ok (.ifCond .ne 9, 3) := by decide +kernel
theorem d_M_chain_13 : decode c_M_chain 13 = .ok (.aload_n 0, 1) := by decide +kernel
theorem d_M_chain_14 : decode c_M_chain 14 = .ok (.iconst 1, 1) := by decide +kernel
theorem d_M_chain_15 : decode c_M_chain 15 = .ok (.invokevirtual 73, 3) := by decide +kernel
theorem d_M_chain_18 : decode c_M_chain 18 = .ok (.ireturn, 1) := by decide +kernel
theorem d_M_chain_19 : decode c_M_chain 19 = .ok (.aload_n 0, 1) := by decide +kernel
theorem d_M_chain_20 : decode c_M_chain 20 = .ok (.getfield 59, 3) := by decide +kernel
theorem d_M_chain_23 : decode c_M_chain 23 = .ok (.ifCond .eq 21, 3) := by decide +kernel
theorem d_M_chain_26 : decode c_M_chain 26 = .ok (.aload_n 0, 1) := by decide +kernel
theorem d_M_chain_27 : decode c_M_chain 27 = .ok (.getfield 19, 3) := by decide +kernel
theorem d_M_chain_30 : decode c_M_chain 30 = .ok (.iload_n 1, 1) := by decide +kernel
theorem d_M_chain_31 : decode c_M_chain 31 = .ok (.iconst 1, 1) := by decide +kernel
theorem d_M_chain_32 : decode c_M_chain 32 = .ok (.iadd, 1) := by decide +kernel
theorem d_M_chain_33 : decode c_M_chain 33 = .ok (.iaload, 1) := by decide +kernel
theorem d_M_chain_34 : decode c_M_chain 34 = .ok (.aload_n 0, 1) := by decide +kernel
theorem d_M_chain_35 : decode c_M_chain 35 = .ok (.getfield 19, 3) := by decide +kernel
theorem d_M_chain_38 : decode c_M_chain 38 = .ok (.iload_n 1, 1) := by decide +kernel
theorem d_M_chain_39 : decode c_M_chain 39 = .ok (.iaload, 1) := by decide +kernel
theorem d_M_chain_40 : decode c_M_chain 40 = .ok (.isub, 1) := by decide +kernel
theorem d_M_chain_41 : decode c_M_chain 41 = .ok (.goto 8, 3) := by decide +kernel
theorem d_M_chain_44 : decode c_M_chain 44 = .ok (.aload_n 0, 1) := by decide +kernel
theorem d_M_chain_45 : decode c_M_chain 45 = .ok (.iconst 2, 1) := by decide +kernel
theorem d_M_chain_46 : decode c_M_chain 46 = .ok (.invokevirtual 73, 3) := by decide +kernel
theorem d_M_chain_49 : decode c_M_chain 49 = .ok (.ireturn, 1) := by decide +kernel
theorem d_M_chainAt_0 : decode c_M_chainAt 0 = .ok (.aload_n 0, 1) := by decide +kernel
theorem d_M_chainAt_1 : decode c_M_chainAt 1 = .ok (.iconst 0, 1) := by decide +kernel
theorem d_M_chainAt_2 : decode c_M_chainAt 2 = .ok (.putfield 46, 3) := by decide +kernel
theorem d_M_chainAt_5 : decode c_M_chainAt 5 = .ok (.aload_n 0, 1) := by decide +kernel
theorem d_M_chainAt_6 : decode c_M_chainAt 6 = .ok (.iload_n 1, 1) := by decide +kernel
theorem d_M_chainAt_7 : decode c_M_chainAt 7 = .ok (.invokevirtual 116, 3) := by decide +kernel
theorem d_M_chainAt_10 : decode c_M_chainAt 10 = .ok (.ifCond .ne 9, 3) := by decide +kernel
theorem d_M_chainAt_13 : decode c_M_chainAt 13 = .ok (.aload_n 0, 1) := by decide +kernel
theorem d_M_chainAt_14 : decode c_M_chainAt 14 = .ok (.iconst 1, 1) := by decide +kernel
theorem d_M_chainAt_15 : decode c_M_chainAt 15 = .ok (.invokevirtual 73, 3) := by decide +kernel
theorem d_M_chainAt_18 : decode c_M_chainAt 18 = .ok (.ireturn, 1) := by decide +kernel
theorem d_M_chainAt_19 : decode c_M_chainAt 19 = .ok (.aload_n 0, 1) := by decide +kernel
theorem d_M_chainAt_20 : decode c_M_chainAt 20 = .ok (.getfield 59, 3) := by decide +kernel
theorem d_M_chainAt_23 : decode c_M_chainAt 23 = .ok (.ifCond .ne 9, 3) := by decide +kernel
theorem d_M_chainAt_26 : decode c_M_chainAt 26 = .ok (.aload_n 0, 1) := by decide +kernel
theorem d_M_chainAt_27 : decode c_M_chainAt 27 = .ok (.iconst 2, 1) := by decide +kernel
theorem d_M_chainAt_28 : decode c_M_chainAt 28 = .ok (.invokevirtual 73, 3) := by decide +kernel
theorem d_M_chainAt_31 : decode c_M_chainAt 31 = .ok (.ireturn, 1) := by decide +kernel
theorem d_M_chainAt_32 : decode c_M_chainAt 32 = .ok (.iload_n 2, 1) := by decide +kernel
theorem d_M_chainAt_33 : decode c_M_chainAt 33 = .ok (.iconst 0, 1) := by decide +kernel
theorem d_M_chainAt_34 : decode c_M_chainAt 34 = .ok (.aload_n 0, 1) := by decide +kernel
theorem d_M_chainAt_35 : decode c_M_chainAt 35 = .ok (.getfield 19, 3) := by decide +kernel
theorem d_M_chainAt_38 : decode c_M_chainAt 38 = .ok (.iload_n 1, 1) := by decide +kernel
theorem d_M_chainAt_39 : decode c_M_chainAt 39 = .ok (.iconst 1, 1) := by decide +kernel
theorem d_M_chainAt_40 : decode c_M_chainAt 40 = .ok (.iadd, 1) := by decide +kernel
theorem d_M_chainAt_41 : decode c_M_chainAt 41 = .ok (.iaload, 1) := by decide +kernel
theorem d_M_chainAt_42 : decode c_M_chainAt 42 = .ok (.aload_n 0, 1) := by decide +kernel
theorem d_M_chainAt_43 : decode c_M_chainAt 43 = .ok (.getfield 19, 3) := by decide +kernel
theorem d_M_chainAt_46 : decode c_M_chainAt 46 = .ok (.iload_n 1, 1) := by decide +kernel
theorem d_M_chainAt_47 : decode c_M_chainAt 47 = .ok (.iaload, 1) := by decide +kernel
theorem d_M_chainAt_48 : decode c_M_chainAt 48 = .ok (.isub, 1) := by decide +kernel
theorem d_M_chainAt_49 : decode c_M_chainAt 49 = .ok (.iconst 1, 1) := by decide +kernel
theorem d_M_chainAt_50 : decode c_M_chainAt 50 = .ok (.isub, 1) := by decide +kernel
theorem d_M_chainAt_51 : decode c_M_chainAt 51 = .ok (.invokestatic 52, 3) := by decide +kernel
theorem d_M_chainAt_54 : decode c_M_chainAt 54 = .ok (.ifCond .eq 19, 3) := by decide +kernel
theorem d_M_chainAt_57 : decode c_M_chainAt 57 = .ok (.aload_n 0, 1) := by decide +kernel
theorem d_M_chainAt_58 : decode c_M_chainAt 58 = .ok (.getfield 23, 3) := by decide +kernel
theorem d_M_chainAt_61 : decode c_M_chainAt 61 = .ok (.aload_n 0, 1) := by decide +kernel
theorem d_M_chainAt_62 : decode c_M_chainAt 62 = .ok (.getfield 19, 3) := by decide +kernel
theorem d_M_chainAt_65 : decode c_M_chainAt 65 = .ok (.iload_n 1, 1) := by decide +kernel
theorem d_M_chainAt_66 : decode c_M_chainAt 66 = .ok (.iaload, 1) := by decide +kernel
theorem d_M_chainAt_67 : decode c_M_chainAt 67 = .ok (.iload_n 2, 1) := by decide +kernel
theorem d_M_chainAt_68 : decode c_M_chainAt 68 = .ok (.iadd, 1) := by decide +kernel
theorem d_M_chainAt_69 : decode c_M_chainAt 69 = .ok (.iaload, 1) := by decide +kernel
theorem d_M_chainAt_70 : decode c_M_chainAt 70 = .ok (.goto 8, 3) := by decide +kernel
theorem d_M_chainAt_73 : decode c_M_chainAt 73 = .ok (.aload_n 0, 1) := by decide +kernel
theorem d_M_chainAt_74 : decode c_M_chainAt 74 = .ok (.iconst 1, 1) := by decide +kernel
theorem d_M_chainAt_75 : decode c_M_chainAt 75 = .ok (.invokevirtual 73, 3) := by decide +kernel
theorem d_M_chainAt_78 : decode c_M_chainAt 78 = .ok (.ireturn, 1) := by decide +kernel
theorem d_M_count_0 : decode c_M_count 0 = .ok (.aload_n 0, 1) := by decide +kernel
theorem d_M_count_1 : decode c_M_count 1 = .ok (.iconst 0, 1) := by decide +kernel
theorem d_M_count_2 : decode c_M_count 2 = .ok (.putfield 46, 3) := by decide +kernel
theorem d_M_count_5 : decode c_M_count 5 = .ok (.iload_n 1, 1) := by decide +kernel
theorem d_M_count_6 : decode c_M_count 6 = .ok (.iconst 0, 1) := by decide +kernel
theorem d_M_count_7 : decode c_M_count 7 = .ok (.iconst 4, 1) := by decide +kernel
theorem d_M_count_8 : decode c_M_count 8 = .ok (.invokestatic 52, 3) := by decide +kernel
theorem d_M_count_11 : decode c_M_count 11 = .ok (.ifCond .ne 5, 3) := by decide +kernel
theorem d_M_count_14 : decode c_M_count 14 = .ok (.iconst (-1), 1) := by decide +kernel
theorem d_M_count_15 : decode c_M_count 15 = .ok (.ireturn, 1) := by decide +kernel
theorem d_M_count_16 : decode c_M_count 16 = .ok (.iload_n 1, 1) := by decide +kernel
theorem d_M_count_17 : decode c_M_count 17 = .ok (.iconst 3, 1) := by decide +kernel
theorem d_M_count_18 : decode c_M_count 18 = .ok (.if_icmp .ge 31, 3) := by decide +kernel
theorem d_M_count_21 : decode c_M_count 21 = .ok (.iload_n 1, 1) := by decide +kernel
theorem d_M_count_22 : decode c_M_count 22 = .ok (.ifCond .ne 10, 3) := by decide +kernel
theorem d_M_count_25 : decode c_M_count 25 = .ok (.aload_n 0, 1) := by decide +kernel
theorem d_M_count_26 : decode c_M_count 26 = .ok (.getfield 56, 3) := by decide +kernel
theorem d_M_count_29 : decode c_M_count 29 = .ok (.goto 19, 3) := by decide +kernel
theorem d_M_count_32 : decode c_M_count 32 = .ok (.iload_n 1, 1) := by decide +kernel
theorem d_M_count_33 : decode c_M_count 33 = .ok (.iconst 1, 1) := by decide +kernel
theorem d_M_count_34 : decode c_M_count 34 = .ok (.if_icmp .ne 10, 3) := by decide +kernel
theorem d_M_count_37 : decode c_M_count 37 = .ok (.aload_n 0, 1) := by decide +kernel
theorem d_M_count_38 : decode c_M_count 38 = .ok (.getfield 63, 3) := by decide +kernel
theorem d_M_count_41 : decode c_M_count 41 = .ok (.goto 7, 3) := by decide +kernel
theorem d_M_count_44 : decode c_M_count 44 = .ok (.aload_n 0, 1) := by decide +kernel
theorem d_M_count_45 : decode c_M_count 45 = .ok (.getfield 66, 3) := by decide +kernel
theorem d_M_count_48 : decode c_M_count 48 = .ok (.ireturn, 1) := by decide +kernel
theorem d_M_count_49 : decode c_M_count 49 = .ok (.iload_n 1, 1) := by decide +kernel
theorem d_M_count_50 : decode c_M_count 50 = .ok (.iconst 3, 1) := by decide +kernel
theorem d_M_count_51 : decode c_M_count 51 = .ok (.if_icmp .ne 15, 3) := by decide +kernel
theorem d_M_count_54 : decode c_M_count 54 = .ok (.aload_n 0, 1) := by decide +kernel
theorem d_M_count_55 : decode c_M_count 55 = .ok (.getfield 19, 3) := by decide +kernel
theorem d_M_count_58 : decode c_M_count 58 = .ok (.aload_n 0, 1) := by decide +kernel
theorem d_M_count_59 : decode c_M_count 59 = .ok (.getfield 56, 3) := by decide +kernel
theorem d_M_count_62 : decode c_M_count 62 = .ok (.iaload, 1) := by decide +kernel
theorem d_M_count_63 : decode c_M_count 63 = .ok (.goto 15, 3) := by decide +kernel
theorem d_M_count_66 : decode c_M_count 66 = .ok (.aload_n 0, 1) := by decide +kernel
theorem d_M_count_67 : decode c_M_count 67 = .ok (.getfield 59, 3) := by decide +kernel
theorem d_M_count_70 : decode c_M_count 70 = .ok (.ifCond .eq 7, 3) := by decide +kernel
theorem d_M_count_73 : decode c_M_count 73 = .ok (.iconst 1, 1) := by decide +kernel
theorem d_M_count_74 : decode c_M_count 74 = .ok (.goto 4, 3) := by decide +kernel
theorem d_M_count_77 : decode c_M_count 77 = .ok (.iconst 0, 1) := by decide +kernel
theorem d_M_count_78 : decode c_M_count 78 = .ok (.ireturn, 1) := by decide +kernel
theorem d_M_init_0 : decode c_M_init 0 = .ok (.aload_n 0, 1) := by decide +kernel
theorem d_M_init_1 : decode c_M_init 1 = .ok (.invokespecial 1, 3) := by decide +kernel
theorem d_M_init_4 : decode c_M_init 4 = .ok (.aload_n 0, 1) := by decide +kernel
theorem d_M_init_5 : decode c_M_init 5 = .ok (.sipush 8192, 3) := by decide +kernel
theorem d_M_init_8 : decode c_M_init 8 = .ok (.newarray .int, 2) := by decide +kernel
theorem d_M_init_10 : decode c_M_init 10 = .ok (.putfield 7, 3) := by decide +kernel
theorem d_M_init_13 : decode c_M_init 13 = .ok (.aload_n 0, 1) := by decide +kernel
theorem d_M_init_14 : decode c_M_init 14 = .ok (.sipush 8193, 3) := by decide +kernel
theorem d_M_init_17 : decode c_M_init 17 = .ok (.newarray .int, 2) := by decide +kernel
theorem d_M_init_19 : decode c_M_init 19 = .ok (.putfield 13, 3) := by decide +kernel
theorem d_M_init_22 : decode c_M_init 22 = .ok (.aload_n 0, 1) := by decide +kernel
theorem d_M_init_23 : decode c_M_init 23 = .ok (.sipush 8193, 3) := by decide +kernel
theorem d_M_init_26 : decode c_M_init 26 = .ok (.newarray .int, 2) := by decide +kernel
theorem d_M_init_28 : decode c_M_init 28 = .ok (.putfield 16, 3) := by decide +kernel
theorem d_M_init_31 : decode c_M_init 31 = .ok (.aload_n 0, 1) := by decide +kernel
theorem d_M_init_32 : decode c_M_init 32 = .ok (.sipush 2049, 3) := by decide +kernel
theorem d_M_init_35 : decode c_M_init 35 = .ok (.newarray .int, 2) := by decide +kernel
theorem d_M_init_37 : decode c_M_init 37 = .ok (.putfield 19, 3) := by decide +kernel
theorem d_M_init_40 : decode c_M_init 40 = .ok (.aload_n 0, 1) := by decide +kernel
theorem d_M_init_41 : decode c_M_init 41 = .ok (.ldc 22, 2) := by decide +kernel
theorem d_M_init_43 : decode c_M_init 43 = .ok (.newarray .int, 2) := by decide +kernel
theorem d_M_init_45 : decode c_M_init 45 = .ok (.putfield 23, 3) := by decide +kernel
theorem d_M_init_48 : decode c_M_init 48 = .ok (.aload_n 0, 1) := by decide +kernel
theorem d_M_init_49 : decode c_M_init 49 = .ok (.ldc 22, 2) := by decide +kernel
theorem d_M_init_51 : decode c_M_init 51 = .ok (.newarray .int, 2) := by decide +kernel
theorem d_M_init_53 : decode c_M_init 53 = .ok (.putfield 26, 3) := by decide +kernel
theorem d_M_init_56 : decode c_M_init 56 = .ok (.aload_n 0, 1) := by decide +kernel
theorem d_M_init_57 : decode c_M_init 57 = .ok (.ldc 22, 2) := by decide +kernel
theorem d_M_init_59 : decode c_M_init 59 = .ok (.newarray .int, 2) := by decide +kernel
theorem d_M_init_61 : decode c_M_init 61 = .ok (.putfield 29, 3) := by decide +kernel
theorem d_M_init_64 : decode c_M_init 64 = .ok (.aload_n 0, 1) := by decide +kernel
theorem d_M_init_65 : decode c_M_init 65 = .ok (.ldc 22, 2) := by decide +kernel
theorem d_M_init_67 : decode c_M_init 67 = .ok (.newarray .int, 2) := by decide +kernel
theorem d_M_init_69 : decode c_M_init 69 = .ok (.putfield 32, 3) := by decide +kernel
theorem d_M_init_72 : decode c_M_init 72 = .ok (.aload_n 0, 1) := by decide +kernel
theorem d_M_init_73 : decode c_M_init 73 = .ok (.sipush 8192, 3) := by decide +kernel
theorem d_M_init_76 : decode c_M_init 76 = .ok (.newarray .long, 2) := by decide +kernel
theorem d_M_init_78 : decode c_M_init 78 = .ok (.putfield 35, 3) := by decide +kernel
theorem d_M_init_81 : decode c_M_init 81 = .ok (.aload_n 0, 1) := by decide +kernel
theorem d_M_init_82 : decode c_M_init 82 = .ok (.sipush 8192, 3) := by decide +kernel
theorem d_M_init_85 : decode c_M_init 85 = .ok (.newarray .long, 2) := by decide +kernel
theorem d_M_init_87 : decode c_M_init 87 = .ok (.putfield 39, 3) := by decide +kernel
theorem d_M_init_90 : decode c_M_init 90 = .ok (.aload_n 0, 1) := by decide +kernel
theorem d_M_init_91 : decode c_M_init 91 = .ok (.sipush 8192, 3) := by decide +kernel
theorem d_M_init_94 : decode c_M_init 94 = .ok (.newarray .boolean, 2) := by decide +kernel
theorem d_M_init_96 : decode c_M_init 96 = .ok (.putfield 42, 3) := by decide +kernel
theorem d_M_init_99 : decode c_M_init 99 = .ok (.return_, 1) := by decide +kernel
noncomputable section
set_option maxHeartbeats 4000000 in
set_option maxRecDepth 100000 in
theorem k_M_chain_n (l : Launch) (D : va_G) (E : ClassId × ClassId × ClassId × ClassId) (h0 sz : Nat) (ad : Nat → Nat) (th sg sn hot pc cx cy : Int32) (fo fv to tv : Int64) (fi ti : Int32) (k9 : Int32) (hn : ¬ mw_in k9 0 (sg - 1)) : Met l y_M_chain (.code y_M_chain c_M_chain 2 (some .int) :: gw) ({ frames := 2, cells := 0, slots := 0, locals := 60 } : Room) (wP D E [(h0, .inr (3, mF ad th sg sn hot pc cx cy fo fv to tv fi ti))] sz [.ref h0, .int k9]) (va_Qi (fun (r : Int32) (u : Unit) => r = 0) (wB D (fun _ => [(h0, .inr (3, mF ad 1 sg sn hot pc cx cy fo fv to tv fi ti))]) (va_A [(h0, .inr (3, mF ad th sg sn hot pc cx cy fo fv to tv fi ti))] sz)) (va_A [(h0, .inr (3, mF ad th sg sn hot pc cx cy fo fv to tv fi ti))] sz)) 0 0 (va_A [(h0, .inr (3, mF ad th sg sn hot pc cx cy fo fv to tv fi ti))] sz) := by
  refine wr_ofW (Qc := fun A => (va_Qi (fun (r : Int32) (u : Unit) => r = 0) (wB D (fun _ => [(h0, .inr (3, mF ad 1 sg sn hot pc cx cy fo fv to tv fi ti))]) A) A)) (by decide) (Nat.le_of_ble_eq_true rfl) ?_
  intro p e s m below meth c B hP hK A hA hD hS ls hl
  obtain ⟨hx, hb, hrt, hml, hown, hts, hG, hlocks, hin⟩ := B
  have hl : lv_has ls 2 [(0, .ref h0), (1, .int k9)] := hl
  refine lv_aload_n hx hb d_M_chain_0 rfl (lv_at hl 0 rfl) ?_
  refine lv_iconst (v := 0) hx hb d_M_chain_1 (by decide) ?_
  refine va_put (D := D) (ci := 3) (v := .int 0) (ty := .int) (C := K_M) (T := F_M) (N := 24) hx hb hG in_M t_M t_M_ok n_M hown hK.1 hP hD hS 0 rfl rfl 0 (by decide) (hG _ wd_648) (fun _ h9 => h9) rfl (by decide +kernel) rfl rfl (Nat.le_of_ble_eq_true rfl) d_M_chain_2 (fun H locs hP hD hS => ?_)
  have hP : va_P D vwC [(h0, .inr (3, mF ad 0 sg sn hot pc cx cy fo fv to tv fi ti))] H := hP
  have hD : va_D A [(h0, .inr (3, mF ad 0 sg sn hot pc cx cy fo fv to tv fi ti))] := hD
  refine lv_aload_n hx hb d_M_chain_5 rfl (lv_at hl 0 rfl) ?_
  refine lv_iload_n hx hb d_M_chain_6 rfl (lv_at hl 1 rfl) ?_
  have hPc := hP.sub (ws' := [(h0, .inr (3, mF ad 0 sg sn hot pc cx cy fo fv to tv fi ti))]) [0] rfl
  refine vp_callSi (W.runV (As := [.int k9]) (rest := []) ⟨hx, hb, hml, hown, hts⟩ (k_M_isSegment l D E h0 ad 0 sg sn hot pc cx cy fo fv to tv fi ti k9) (cwV 1 hts (gw_gv wd_755 wd_757 wd_23 wd_42 wd_758) rfl rfl rfl (by decide +kernel) ⟨Nat.le_of_ble_eq_true rfl, Nat.le_of_ble_eq_true rfl⟩) (rP_V 0 hPc hK rfl rfl) rfl rfl hl.1 rfl (lv_room (Nat.le_of_ble_eq_true rfl)) d_M_chain_7 ⟨Nat.le_of_ble_eq_true rfl, Nat.le_of_ble_eq_true rfl⟩) (fun is1 his1 => ?_)
  refine lv_if_ne (tgt := 19) hx hb d_M_chain_10 (by decide) (fun c1 => ?_) (fun c1 => ?_)
  · rw [his1] at c1
    exact absurd (b01_1 c1) hn
  · refine lv_aload_n hx hb d_M_chain_13 rfl (lv_at hl 0 rfl) ?_
    refine lv_iconst (v := 1) hx hb d_M_chain_14 (by decide) ?_
    have hPc := hP.sub (ws' := [(h0, .inr (3, mF ad 0 sg sn hot pc cx cy fo fv to tv fi ti))]) [0] rfl
    have hDc := hD.sub (ws' := [(h0, .inr (3, mF ad 0 sg sn hot pc cx cy fo fv to tv fi ti))]) [0] (by decide) rfl
    have hFc := va_free (wc := [(h0, .inr (3, mF ad 0 sg sn hot pc cx cy fo fv to tv fi ti))]) hD hS hA [0] rfl
    refine va_calli (va_runV (As := [.int 1]) (rest := []) ⟨hx, hb, hml, hown, hts⟩ (k_M_fail l D E h0 H.size ad 0 sg sn hot pc cx cy fo fv to tv fi ti 1) (cwV 1 hts (gw_gv wd_739 wd_741 wd_21 wd_42 wd_742) rfl rfl rfl (by decide +kernel) ⟨Nat.le_of_ble_eq_true rfl, Nat.le_of_ble_eq_true rfl⟩) (wP_V 0 hPc hK hDc rfl rfl) rfl rfl hl.1 rfl (lv_room (Nat.le_of_ble_eq_true rfl)) d_M_chain_15 ⟨Nat.le_of_ble_eq_true rfl, Nat.le_of_ble_eq_true rfl⟩) hS (fun q _ h => hFc q h) hFc (fun rf2 u9 t H1 locs ht hvm hw hB hz1 hk1 hS => ?_)
    obtain ⟨hP1, hD1⟩ := hB
    rw [ht] at hP1
    obtain ⟨hP, hD⟩ := va_join (wr := []) (w1 := [(h0, .inr (3, mF ad 1 sg sn hot pc cx cy fo fv to tv fi ti))]) hP hD [0] [] rfl rfl (by decide) (by decide) hk1 hFc hP1 hD1
    generalize H1 = H at hP hS ⊢
    have hP : va_P D vwC [(h0, .inr (3, mF ad 1 sg sn hot pc cx cy fo fv to tv fi ti))] H := hP
    have hD : va_D A [(h0, .inr (3, mF ad 1 sg sn hot pc cx cy fo fv to tv fi ti))] := hD
    obtain rfl : rf2 = 0 := hw
    exact W.iret (v := 0) hx hb hrt (fun t ht hW => ⟨⟨0, (), rfl, rfl, ⟨by rw [ht]; exact hP, hD⟩⟩, hS.F ht⟩) hS.2.2 d_M_chain_18 hlocks
set_option maxHeartbeats 4000000 in
set_option maxRecDepth 100000 in
theorem k_M_chain_s (l : Launch) (D : va_G) (E : ClassId × ClassId × ClassId × ClassId) (h0 sz : Nat) (ad : Nat → Nat) (th sg sn hot pc cx cy : Int32) (fo fv to tv : Int64) (fi ti : Int32) (k9 : Int32) (hs : mw_in k9 0 (sg - 1)) : Met l y_M_chain (.code y_M_chain c_M_chain 2 (some .int) :: gw) ({ frames := 2, cells := 0, slots := 0, locals := 60 } : Room) (wP D E [(h0, .inr (3, mF ad th sg 0 hot pc cx cy fo fv to tv fi ti))] sz [.ref h0, .int k9]) (va_Qi (fun (r : Int32) (u : Unit) => r = 0) (wB D (fun _ => [(h0, .inr (3, mF ad 2 sg 0 hot pc cx cy fo fv to tv fi ti))]) (va_A [(h0, .inr (3, mF ad th sg 0 hot pc cx cy fo fv to tv fi ti))] sz)) (va_A [(h0, .inr (3, mF ad th sg 0 hot pc cx cy fo fv to tv fi ti))] sz)) 0 0 (va_A [(h0, .inr (3, mF ad th sg 0 hot pc cx cy fo fv to tv fi ti))] sz) := by
  refine wr_ofW (Qc := fun A => (va_Qi (fun (r : Int32) (u : Unit) => r = 0) (wB D (fun _ => [(h0, .inr (3, mF ad 2 sg 0 hot pc cx cy fo fv to tv fi ti))]) A) A)) (by decide) (Nat.le_of_ble_eq_true rfl) ?_
  intro p e s m below meth c B hP hK A hA hD hS ls hl
  obtain ⟨hx, hb, hrt, hml, hown, hts, hG, hlocks, hin⟩ := B
  have hl : lv_has ls 2 [(0, .ref h0), (1, .int k9)] := hl
  refine lv_aload_n hx hb d_M_chain_0 rfl (lv_at hl 0 rfl) ?_
  refine lv_iconst (v := 0) hx hb d_M_chain_1 (by decide) ?_
  refine va_put (D := D) (ci := 3) (v := .int 0) (ty := .int) (C := K_M) (T := F_M) (N := 24) hx hb hG in_M t_M t_M_ok n_M hown hK.1 hP hD hS 0 rfl rfl 0 (by decide) (hG _ wd_648) (fun _ h9 => h9) rfl (by decide +kernel) rfl rfl (Nat.le_of_ble_eq_true rfl) d_M_chain_2 (fun H locs hP hD hS => ?_)
  have hP : va_P D vwC [(h0, .inr (3, mF ad 0 sg 0 hot pc cx cy fo fv to tv fi ti))] H := hP
  have hD : va_D A [(h0, .inr (3, mF ad 0 sg 0 hot pc cx cy fo fv to tv fi ti))] := hD
  refine lv_aload_n hx hb d_M_chain_5 rfl (lv_at hl 0 rfl) ?_
  refine lv_iload_n hx hb d_M_chain_6 rfl (lv_at hl 1 rfl) ?_
  have hPc := hP.sub (ws' := [(h0, .inr (3, mF ad 0 sg 0 hot pc cx cy fo fv to tv fi ti))]) [0] rfl
  refine vp_callSi (W.runV (As := [.int k9]) (rest := []) ⟨hx, hb, hml, hown, hts⟩ (k_M_isSegment l D E h0 ad 0 sg 0 hot pc cx cy fo fv to tv fi ti k9) (cwV 1 hts (gw_gv wd_755 wd_757 wd_23 wd_42 wd_758) rfl rfl rfl (by decide +kernel) ⟨Nat.le_of_ble_eq_true rfl, Nat.le_of_ble_eq_true rfl⟩) (rP_V 0 hPc hK rfl rfl) rfl rfl hl.1 rfl (lv_room (Nat.le_of_ble_eq_true rfl)) d_M_chain_7 ⟨Nat.le_of_ble_eq_true rfl, Nat.le_of_ble_eq_true rfl⟩) (fun is1 his1 => ?_)
  refine lv_if_ne (tgt := 19) hx hb d_M_chain_10 (by decide) (fun c1 => ?_) (fun c1 => ?_)
  · refine lv_aload_n hx hb d_M_chain_19 rfl (lv_at hl 0 rfl) ?_
    refine va_get (D := D) (ci := 3) (v := .int 0) (C := K_M) (T := F_M) (N := 24) hx hb hG in_M hown hK.1 hP 0 rfl rfl 3 (by decide) (hG _ wd_651) (fun _ h9 => h9) rfl d_M_chain_20 ?_
    refine lv_if_eq (tgt := 44) hx hb d_M_chain_23 (by decide) (fun c2 => ?_) (fun c2 => ?_)
    · refine lv_aload_n hx hb d_M_chain_44 rfl (lv_at hl 0 rfl) ?_
      refine lv_iconst (v := 2) hx hb d_M_chain_45 (by decide) ?_
      have hPc := hP.sub (ws' := [(h0, .inr (3, mF ad 0 sg 0 hot pc cx cy fo fv to tv fi ti))]) [0] rfl
      have hDc := hD.sub (ws' := [(h0, .inr (3, mF ad 0 sg 0 hot pc cx cy fo fv to tv fi ti))]) [0] (by decide) rfl
      have hFc := va_free (wc := [(h0, .inr (3, mF ad 0 sg 0 hot pc cx cy fo fv to tv fi ti))]) hD hS hA [0] rfl
      refine va_calli (va_runV (As := [.int 2]) (rest := []) ⟨hx, hb, hml, hown, hts⟩ (k_M_fail l D E h0 H.size ad 0 sg 0 hot pc cx cy fo fv to tv fi ti 2) (cwV 1 hts (gw_gv wd_739 wd_741 wd_21 wd_42 wd_742) rfl rfl rfl (by decide +kernel) ⟨Nat.le_of_ble_eq_true rfl, Nat.le_of_ble_eq_true rfl⟩) (wP_V 0 hPc hK hDc rfl rfl) rfl rfl hl.1 rfl (lv_room (Nat.le_of_ble_eq_true rfl)) d_M_chain_46 ⟨Nat.le_of_ble_eq_true rfl, Nat.le_of_ble_eq_true rfl⟩) hS (fun q _ h => hFc q h) hFc (fun rf2 u9 t H1 locs ht hvm hw hB hz1 hk1 hS => ?_)
      obtain ⟨hP1, hD1⟩ := hB
      rw [ht] at hP1
      obtain ⟨hP, hD⟩ := va_join (wr := []) (w1 := [(h0, .inr (3, mF ad 2 sg 0 hot pc cx cy fo fv to tv fi ti))]) hP hD [0] [] rfl rfl (by decide) (by decide) hk1 hFc hP1 hD1
      generalize H1 = H at hP hS ⊢
      have hP : va_P D vwC [(h0, .inr (3, mF ad 2 sg 0 hot pc cx cy fo fv to tv fi ti))] H := hP
      have hD : va_D A [(h0, .inr (3, mF ad 2 sg 0 hot pc cx cy fo fv to tv fi ti))] := hD
      obtain rfl : rf2 = 0 := hw
      exact W.iret (v := 0) hx hb hrt (fun t ht hW => ⟨⟨0, (), rfl, rfl, ⟨by rw [ht]; exact hP, hD⟩⟩, hS.F ht⟩) hS.2.2 d_M_chain_49 hlocks
    · exact absurd rfl c2
  · rw [his1, b01_t hs] at c1
    exact absurd c1 (by decide)
set_option maxHeartbeats 4000000 in
set_option maxRecDepth 100000 in
theorem k_M_chain (l : Launch) (D : va_G) (E : ClassId × ClassId × ClassId × ClassId) (h0 sz : Nat) (ad : Nat → Nat) (th sg sn hot pc cx cy : Int32) (fo fv to tv : Int64) (fi ti : Int32) (bg : Nat → Int32) (k : Nat) (hk : k < 2048) (hs : mw_in (nI k) 0 (sg - 1)) (h1 : ¬ sn = 0) : Met l y_M_chain (.code y_M_chain c_M_chain 2 (some .int) :: gw) ({ frames := 2, cells := 0, slots := 0, locals := 60 } : Room) (wP D E [(h0, .inr (3, mF ad th sg sn hot pc cx cy fo fv to tv fi ti)), ((ad 3), .inl (E.2.1, 2049, .inl bg))] sz [.ref h0, .int (nI k)]) (va_Qi (fun (r : Int32) (u : Unit) => r = bg (k + 1) - bg k) (wB D (fun _ => [(h0, .inr (3, mF ad 0 sg sn hot pc cx cy fo fv to tv fi ti)), ((ad 3), .inl (E.2.1, 2049, .inl bg))]) (va_A [(h0, .inr (3, mF ad th sg sn hot pc cx cy fo fv to tv fi ti)), ((ad 3), .inl (E.2.1, 2049, .inl bg))] sz)) (va_A [(h0, .inr (3, mF ad th sg sn hot pc cx cy fo fv to tv fi ti)), ((ad 3), .inl (E.2.1, 2049, .inl bg))] sz)) 0 0 (va_A [(h0, .inr (3, mF ad th sg sn hot pc cx cy fo fv to tv fi ti)), ((ad 3), .inl (E.2.1, 2049, .inl bg))] sz) := by
  refine wr_ofW (Qc := fun A => (va_Qi (fun (r : Int32) (u : Unit) => r = bg (k + 1) - bg k) (wB D (fun _ => [(h0, .inr (3, mF ad 0 sg sn hot pc cx cy fo fv to tv fi ti)), ((ad 3), .inl (E.2.1, 2049, .inl bg))]) A) A)) (by decide) (Nat.le_of_ble_eq_true rfl) ?_
  intro p e s m below meth c B hP hK A hA hD hS ls hl
  obtain ⟨hx, hb, hrt, hml, hown, hts, hG, hlocks, hin⟩ := B
  have hl : lv_has ls 2 [(0, .ref h0), (1, .int (nI k))] := hl
  refine lv_aload_n hx hb d_M_chain_0 rfl (lv_at hl 0 rfl) ?_
  refine lv_iconst (v := 0) hx hb d_M_chain_1 (by decide) ?_
  refine va_put (D := D) (ci := 3) (v := .int 0) (ty := .int) (C := K_M) (T := F_M) (N := 24) hx hb hG in_M t_M t_M_ok n_M hown hK.1 hP hD hS 0 rfl rfl 0 (by decide) (hG _ wd_648) (fun _ h9 => h9) rfl (by decide +kernel) rfl rfl (Nat.le_of_ble_eq_true rfl) d_M_chain_2 (fun H locs hP hD hS => ?_)
  have hP : va_P D vwC [(h0, .inr (3, mF ad 0 sg sn hot pc cx cy fo fv to tv fi ti)), ((ad 3), .inl (E.2.1, 2049, .inl bg))] H := hP
  have hD : va_D A [(h0, .inr (3, mF ad 0 sg sn hot pc cx cy fo fv to tv fi ti)), ((ad 3), .inl (E.2.1, 2049, .inl bg))] := hD
  refine lv_aload_n hx hb d_M_chain_5 rfl (lv_at hl 0 rfl) ?_
  refine lv_iload_n hx hb d_M_chain_6 rfl (lv_at hl 1 rfl) ?_
  have hPc := hP.sub (ws' := [(h0, .inr (3, mF ad 0 sg sn hot pc cx cy fo fv to tv fi ti))]) [0] rfl
  refine vp_callSi (W.runV (As := [.int (nI k)]) (rest := []) ⟨hx, hb, hml, hown, hts⟩ (k_M_isSegment l D E h0 ad 0 sg sn hot pc cx cy fo fv to tv fi ti (nI k)) (cwV 1 hts (gw_gv wd_755 wd_757 wd_23 wd_42 wd_758) rfl rfl rfl (by decide +kernel) ⟨Nat.le_of_ble_eq_true rfl, Nat.le_of_ble_eq_true rfl⟩) (rP_V 0 hPc hK rfl rfl) rfl rfl hl.1 rfl (lv_room (Nat.le_of_ble_eq_true rfl)) d_M_chain_7 ⟨Nat.le_of_ble_eq_true rfl, Nat.le_of_ble_eq_true rfl⟩) (fun is1 his1 => ?_)
  refine lv_if_ne (tgt := 19) hx hb d_M_chain_10 (by decide) (fun c1 => ?_) (fun c1 => ?_)
  · refine lv_aload_n hx hb d_M_chain_19 rfl (lv_at hl 0 rfl) ?_
    refine va_get (D := D) (ci := 3) (v := .int sn) (C := K_M) (T := F_M) (N := 24) hx hb hG in_M hown hK.1 hP 0 rfl rfl 3 (by decide) (hG _ wd_651) (fun _ h9 => h9) rfl d_M_chain_20 ?_
    refine lv_if_eq (tgt := 44) hx hb d_M_chain_23 (by decide) (fun c2 => ?_) (fun c2 => ?_)
    · exact absurd c2 h1
    · refine lv_aload_n hx hb d_M_chain_26 rfl (lv_at hl 0 rfl) ?_
      refine va_get (D := D) (ci := 3) (v := .ref (ad 3)) (C := K_M) (T := F_M) (N := 24) hx hb hG in_M hown hK.1 hP 0 rfl rfl 7 (by decide) (hG _ wd_655) (fun _ h9 => h9) rfl d_M_chain_27 ?_
      refine lv_iload_n hx hb d_M_chain_30 rfl (lv_at hl 1 rfl) ?_
      refine lv_iconst (v := 1) hx hb d_M_chain_31 (by decide) ?_
      refine lv_iadd hx hb d_M_chain_32 ?_
      rw [show (nI k + 1) = nI (k + 1) from nI_1 _]
      refine va_iald hx hb hK.1 hP 1 1 rfl rfl (vp_in_nI (by omega) (by omega)) d_M_chain_33 ?_
      rw [show bg (Int32.toNatClampNeg (nI (k + 1))) = bg (k + 1) from by rw [nI_clamp (by omega)]]
      refine lv_aload_n hx hb d_M_chain_34 rfl (lv_at hl 0 rfl) ?_
      refine va_get (D := D) (ci := 3) (v := .ref (ad 3)) (C := K_M) (T := F_M) (N := 24) hx hb hG in_M hown hK.1 hP 0 rfl rfl 7 (by decide) (hG _ wd_655) (fun _ h9 => h9) rfl d_M_chain_35 ?_
      refine lv_iload_n hx hb d_M_chain_38 rfl (lv_at hl 1 rfl) ?_
      refine va_iald hx hb hK.1 hP 1 1 rfl rfl (vp_in_nI (by omega) (by omega)) d_M_chain_39 ?_
      rw [show bg (Int32.toNatClampNeg (nI k)) = bg k from by rw [nI_clamp (by omega)]]
      refine lv_isub hx hb d_M_chain_40 ?_
      refine lv_goto (tgt := 49) hx hb d_M_chain_41 (by decide) ?_
      exact W.iret (v := (bg (k + 1) - bg k)) hx hb hrt (fun t ht hW => ⟨⟨(bg (k + 1) - bg k), (), rfl, rfl, ⟨by rw [ht]; exact hP, hD⟩⟩, hS.F ht⟩) hS.2.2 d_M_chain_49 hlocks
  · rw [his1, b01_t hs] at c1
    exact absurd c1 (by decide)
set_option maxHeartbeats 4000000 in
set_option maxRecDepth 100000 in
theorem k_M_chainAt_n (l : Launch) (D : va_G) (E : ClassId × ClassId × ClassId × ClassId) (h0 sz : Nat) (ad : Nat → Nat) (th sg sn hot pc cx cy : Int32) (fo fv to tv : Int64) (fi ti : Int32) (k9 i9 : Int32) (hn : ¬ mw_in k9 0 (sg - 1)) : Met l y_M_chainAt (.code y_M_chainAt c_M_chainAt 3 (some .int) :: gw) ({ frames := 2, cells := 0, slots := 0, locals := 60 } : Room) (wP D E [(h0, .inr (3, mF ad th sg sn hot pc cx cy fo fv to tv fi ti))] sz [.ref h0, .int k9, .int i9]) (va_Qi (fun (r : Int32) (u : Unit) => r = 0) (wB D (fun _ => [(h0, .inr (3, mF ad 1 sg sn hot pc cx cy fo fv to tv fi ti))]) (va_A [(h0, .inr (3, mF ad th sg sn hot pc cx cy fo fv to tv fi ti))] sz)) (va_A [(h0, .inr (3, mF ad th sg sn hot pc cx cy fo fv to tv fi ti))] sz)) 0 0 (va_A [(h0, .inr (3, mF ad th sg sn hot pc cx cy fo fv to tv fi ti))] sz) := by
  refine wr_ofW (Qc := fun A => (va_Qi (fun (r : Int32) (u : Unit) => r = 0) (wB D (fun _ => [(h0, .inr (3, mF ad 1 sg sn hot pc cx cy fo fv to tv fi ti))]) A) A)) (by decide) (Nat.le_of_ble_eq_true rfl) ?_
  intro p e s m below meth c B hP hK A hA hD hS ls hl
  obtain ⟨hx, hb, hrt, hml, hown, hts, hG, hlocks, hin⟩ := B
  have hl : lv_has ls 3 [(0, .ref h0), (1, .int k9), (2, .int i9)] := hl
  refine lv_aload_n hx hb d_M_chainAt_0 rfl (lv_at hl 0 rfl) ?_
  refine lv_iconst (v := 0) hx hb d_M_chainAt_1 (by decide) ?_
  refine va_put (D := D) (ci := 3) (v := .int 0) (ty := .int) (C := K_M) (T := F_M) (N := 24) hx hb hG in_M t_M t_M_ok n_M hown hK.1 hP hD hS 0 rfl rfl 0 (by decide) (hG _ wd_648) (fun _ h9 => h9) rfl (by decide +kernel) rfl rfl (Nat.le_of_ble_eq_true rfl) d_M_chainAt_2 (fun H locs hP hD hS => ?_)
  have hP : va_P D vwC [(h0, .inr (3, mF ad 0 sg sn hot pc cx cy fo fv to tv fi ti))] H := hP
  have hD : va_D A [(h0, .inr (3, mF ad 0 sg sn hot pc cx cy fo fv to tv fi ti))] := hD
  refine lv_aload_n hx hb d_M_chainAt_5 rfl (lv_at hl 0 rfl) ?_
  refine lv_iload_n hx hb d_M_chainAt_6 rfl (lv_at hl 1 rfl) ?_
  have hPc := hP.sub (ws' := [(h0, .inr (3, mF ad 0 sg sn hot pc cx cy fo fv to tv fi ti))]) [0] rfl
  refine vp_callSi (W.runV (As := [.int k9]) (rest := []) ⟨hx, hb, hml, hown, hts⟩ (k_M_isSegment l D E h0 ad 0 sg sn hot pc cx cy fo fv to tv fi ti k9) (cwV 1 hts (gw_gv wd_755 wd_757 wd_23 wd_42 wd_758) rfl rfl rfl (by decide +kernel) ⟨Nat.le_of_ble_eq_true rfl, Nat.le_of_ble_eq_true rfl⟩) (rP_V 0 hPc hK rfl rfl) rfl rfl hl.1 rfl (lv_room (Nat.le_of_ble_eq_true rfl)) d_M_chainAt_7 ⟨Nat.le_of_ble_eq_true rfl, Nat.le_of_ble_eq_true rfl⟩) (fun is1 his1 => ?_)
  refine lv_if_ne (tgt := 19) hx hb d_M_chainAt_10 (by decide) (fun c1 => ?_) (fun c1 => ?_)
  · rw [his1] at c1
    exact absurd (b01_1 c1) hn
  · refine lv_aload_n hx hb d_M_chainAt_13 rfl (lv_at hl 0 rfl) ?_
    refine lv_iconst (v := 1) hx hb d_M_chainAt_14 (by decide) ?_
    have hPc := hP.sub (ws' := [(h0, .inr (3, mF ad 0 sg sn hot pc cx cy fo fv to tv fi ti))]) [0] rfl
    have hDc := hD.sub (ws' := [(h0, .inr (3, mF ad 0 sg sn hot pc cx cy fo fv to tv fi ti))]) [0] (by decide) rfl
    have hFc := va_free (wc := [(h0, .inr (3, mF ad 0 sg sn hot pc cx cy fo fv to tv fi ti))]) hD hS hA [0] rfl
    refine va_calli (va_runV (As := [.int 1]) (rest := []) ⟨hx, hb, hml, hown, hts⟩ (k_M_fail l D E h0 H.size ad 0 sg sn hot pc cx cy fo fv to tv fi ti 1) (cwV 1 hts (gw_gv wd_739 wd_741 wd_21 wd_42 wd_742) rfl rfl rfl (by decide +kernel) ⟨Nat.le_of_ble_eq_true rfl, Nat.le_of_ble_eq_true rfl⟩) (wP_V 0 hPc hK hDc rfl rfl) rfl rfl hl.1 rfl (lv_room (Nat.le_of_ble_eq_true rfl)) d_M_chainAt_15 ⟨Nat.le_of_ble_eq_true rfl, Nat.le_of_ble_eq_true rfl⟩) hS (fun q _ h => hFc q h) hFc (fun rf2 u9 t H1 locs ht hvm hw hB hz1 hk1 hS => ?_)
    obtain ⟨hP1, hD1⟩ := hB
    rw [ht] at hP1
    obtain ⟨hP, hD⟩ := va_join (wr := []) (w1 := [(h0, .inr (3, mF ad 1 sg sn hot pc cx cy fo fv to tv fi ti))]) hP hD [0] [] rfl rfl (by decide) (by decide) hk1 hFc hP1 hD1
    generalize H1 = H at hP hS ⊢
    have hP : va_P D vwC [(h0, .inr (3, mF ad 1 sg sn hot pc cx cy fo fv to tv fi ti))] H := hP
    have hD : va_D A [(h0, .inr (3, mF ad 1 sg sn hot pc cx cy fo fv to tv fi ti))] := hD
    obtain rfl : rf2 = 0 := hw
    exact W.iret (v := 0) hx hb hrt (fun t ht hW => ⟨⟨0, (), rfl, rfl, ⟨by rw [ht]; exact hP, hD⟩⟩, hS.F ht⟩) hS.2.2 d_M_chainAt_18 hlocks
set_option maxHeartbeats 4000000 in
set_option maxRecDepth 100000 in
theorem k_M_chainAt_s (l : Launch) (D : va_G) (E : ClassId × ClassId × ClassId × ClassId) (h0 sz : Nat) (ad : Nat → Nat) (th sg sn hot pc cx cy : Int32) (fo fv to tv : Int64) (fi ti : Int32) (k9 i9 : Int32) (hs : mw_in k9 0 (sg - 1)) : Met l y_M_chainAt (.code y_M_chainAt c_M_chainAt 3 (some .int) :: gw) ({ frames := 2, cells := 0, slots := 0, locals := 60 } : Room) (wP D E [(h0, .inr (3, mF ad th sg 0 hot pc cx cy fo fv to tv fi ti))] sz [.ref h0, .int k9, .int i9]) (va_Qi (fun (r : Int32) (u : Unit) => r = 0) (wB D (fun _ => [(h0, .inr (3, mF ad 2 sg 0 hot pc cx cy fo fv to tv fi ti))]) (va_A [(h0, .inr (3, mF ad th sg 0 hot pc cx cy fo fv to tv fi ti))] sz)) (va_A [(h0, .inr (3, mF ad th sg 0 hot pc cx cy fo fv to tv fi ti))] sz)) 0 0 (va_A [(h0, .inr (3, mF ad th sg 0 hot pc cx cy fo fv to tv fi ti))] sz) := by
  refine wr_ofW (Qc := fun A => (va_Qi (fun (r : Int32) (u : Unit) => r = 0) (wB D (fun _ => [(h0, .inr (3, mF ad 2 sg 0 hot pc cx cy fo fv to tv fi ti))]) A) A)) (by decide) (Nat.le_of_ble_eq_true rfl) ?_
  intro p e s m below meth c B hP hK A hA hD hS ls hl
  obtain ⟨hx, hb, hrt, hml, hown, hts, hG, hlocks, hin⟩ := B
  have hl : lv_has ls 3 [(0, .ref h0), (1, .int k9), (2, .int i9)] := hl
  refine lv_aload_n hx hb d_M_chainAt_0 rfl (lv_at hl 0 rfl) ?_
  refine lv_iconst (v := 0) hx hb d_M_chainAt_1 (by decide) ?_
  refine va_put (D := D) (ci := 3) (v := .int 0) (ty := .int) (C := K_M) (T := F_M) (N := 24) hx hb hG in_M t_M t_M_ok n_M hown hK.1 hP hD hS 0 rfl rfl 0 (by decide) (hG _ wd_648) (fun _ h9 => h9) rfl (by decide +kernel) rfl rfl (Nat.le_of_ble_eq_true rfl) d_M_chainAt_2 (fun H locs hP hD hS => ?_)
  have hP : va_P D vwC [(h0, .inr (3, mF ad 0 sg 0 hot pc cx cy fo fv to tv fi ti))] H := hP
  have hD : va_D A [(h0, .inr (3, mF ad 0 sg 0 hot pc cx cy fo fv to tv fi ti))] := hD
  refine lv_aload_n hx hb d_M_chainAt_5 rfl (lv_at hl 0 rfl) ?_
  refine lv_iload_n hx hb d_M_chainAt_6 rfl (lv_at hl 1 rfl) ?_
  have hPc := hP.sub (ws' := [(h0, .inr (3, mF ad 0 sg 0 hot pc cx cy fo fv to tv fi ti))]) [0] rfl
  refine vp_callSi (W.runV (As := [.int k9]) (rest := []) ⟨hx, hb, hml, hown, hts⟩ (k_M_isSegment l D E h0 ad 0 sg 0 hot pc cx cy fo fv to tv fi ti k9) (cwV 1 hts (gw_gv wd_755 wd_757 wd_23 wd_42 wd_758) rfl rfl rfl (by decide +kernel) ⟨Nat.le_of_ble_eq_true rfl, Nat.le_of_ble_eq_true rfl⟩) (rP_V 0 hPc hK rfl rfl) rfl rfl hl.1 rfl (lv_room (Nat.le_of_ble_eq_true rfl)) d_M_chainAt_7 ⟨Nat.le_of_ble_eq_true rfl, Nat.le_of_ble_eq_true rfl⟩) (fun is1 his1 => ?_)
  refine lv_if_ne (tgt := 19) hx hb d_M_chainAt_10 (by decide) (fun c1 => ?_) (fun c1 => ?_)
  · refine lv_aload_n hx hb d_M_chainAt_19 rfl (lv_at hl 0 rfl) ?_
    refine va_get (D := D) (ci := 3) (v := .int 0) (C := K_M) (T := F_M) (N := 24) hx hb hG in_M hown hK.1 hP 0 rfl rfl 3 (by decide) (hG _ wd_651) (fun _ h9 => h9) rfl d_M_chainAt_20 ?_
    refine lv_if_ne (tgt := 32) hx hb d_M_chainAt_23 (by decide) (fun c2 => ?_) (fun c2 => ?_)
    · exact absurd rfl c2
    · refine lv_aload_n hx hb d_M_chainAt_26 rfl (lv_at hl 0 rfl) ?_
      refine lv_iconst (v := 2) hx hb d_M_chainAt_27 (by decide) ?_
      have hPc := hP.sub (ws' := [(h0, .inr (3, mF ad 0 sg 0 hot pc cx cy fo fv to tv fi ti))]) [0] rfl
      have hDc := hD.sub (ws' := [(h0, .inr (3, mF ad 0 sg 0 hot pc cx cy fo fv to tv fi ti))]) [0] (by decide) rfl
      have hFc := va_free (wc := [(h0, .inr (3, mF ad 0 sg 0 hot pc cx cy fo fv to tv fi ti))]) hD hS hA [0] rfl
      refine va_calli (va_runV (As := [.int 2]) (rest := []) ⟨hx, hb, hml, hown, hts⟩ (k_M_fail l D E h0 H.size ad 0 sg 0 hot pc cx cy fo fv to tv fi ti 2) (cwV 1 hts (gw_gv wd_739 wd_741 wd_21 wd_42 wd_742) rfl rfl rfl (by decide +kernel) ⟨Nat.le_of_ble_eq_true rfl, Nat.le_of_ble_eq_true rfl⟩) (wP_V 0 hPc hK hDc rfl rfl) rfl rfl hl.1 rfl (lv_room (Nat.le_of_ble_eq_true rfl)) d_M_chainAt_28 ⟨Nat.le_of_ble_eq_true rfl, Nat.le_of_ble_eq_true rfl⟩) hS (fun q _ h => hFc q h) hFc (fun rf2 u9 t H1 locs ht hvm hw hB hz1 hk1 hS => ?_)
      obtain ⟨hP1, hD1⟩ := hB
      rw [ht] at hP1
      obtain ⟨hP, hD⟩ := va_join (wr := []) (w1 := [(h0, .inr (3, mF ad 2 sg 0 hot pc cx cy fo fv to tv fi ti))]) hP hD [0] [] rfl rfl (by decide) (by decide) hk1 hFc hP1 hD1
      generalize H1 = H at hP hS ⊢
      have hP : va_P D vwC [(h0, .inr (3, mF ad 2 sg 0 hot pc cx cy fo fv to tv fi ti))] H := hP
      have hD : va_D A [(h0, .inr (3, mF ad 2 sg 0 hot pc cx cy fo fv to tv fi ti))] := hD
      obtain rfl : rf2 = 0 := hw
      exact W.iret (v := 0) hx hb hrt (fun t ht hW => ⟨⟨0, (), rfl, rfl, ⟨by rw [ht]; exact hP, hD⟩⟩, hS.F ht⟩) hS.2.2 d_M_chainAt_31 hlocks
  · rw [his1, b01_t hs] at c1
    exact absurd c1 (by decide)
set_option maxHeartbeats 4000000 in
set_option maxRecDepth 100000 in
theorem k_M_chainAt_i (l : Launch) (D : va_G) (E : ClassId × ClassId × ClassId × ClassId) (h0 sz : Nat) (ad : Nat → Nat) (th sg sn hot pc cx cy : Int32) (fo fv to tv : Int64) (fi ti : Int32) (bg : Nat → Int32) (k : Nat) (i9 : Int32) (hk : k < 2048) (hs : mw_in (nI k) 0 (sg - 1)) (h1 : ¬ sn = 0) (hi : ¬ mw_in i9 0 (bg (k + 1) - bg k - 1)) : Met l y_M_chainAt (.code y_M_chainAt c_M_chainAt 3 (some .int) :: gw) ({ frames := 2, cells := 0, slots := 0, locals := 60 } : Room) (wP D E [(h0, .inr (3, mF ad th sg sn hot pc cx cy fo fv to tv fi ti)), ((ad 3), .inl (E.2.1, 2049, .inl bg))] sz [.ref h0, .int (nI k), .int i9]) (va_Qi (fun (r : Int32) (u : Unit) => r = 0) (wB D (fun _ => [(h0, .inr (3, mF ad 1 sg sn hot pc cx cy fo fv to tv fi ti)), ((ad 3), .inl (E.2.1, 2049, .inl bg))]) (va_A [(h0, .inr (3, mF ad th sg sn hot pc cx cy fo fv to tv fi ti)), ((ad 3), .inl (E.2.1, 2049, .inl bg))] sz)) (va_A [(h0, .inr (3, mF ad th sg sn hot pc cx cy fo fv to tv fi ti)), ((ad 3), .inl (E.2.1, 2049, .inl bg))] sz)) 0 0 (va_A [(h0, .inr (3, mF ad th sg sn hot pc cx cy fo fv to tv fi ti)), ((ad 3), .inl (E.2.1, 2049, .inl bg))] sz) := by
  refine wr_ofW (Qc := fun A => (va_Qi (fun (r : Int32) (u : Unit) => r = 0) (wB D (fun _ => [(h0, .inr (3, mF ad 1 sg sn hot pc cx cy fo fv to tv fi ti)), ((ad 3), .inl (E.2.1, 2049, .inl bg))]) A) A)) (by decide) (Nat.le_of_ble_eq_true rfl) ?_
  intro p e s m below meth c B hP hK A hA hD hS ls hl
  obtain ⟨hx, hb, hrt, hml, hown, hts, hG, hlocks, hin⟩ := B
  have hl : lv_has ls 3 [(0, .ref h0), (1, .int (nI k)), (2, .int i9)] := hl
  refine lv_aload_n hx hb d_M_chainAt_0 rfl (lv_at hl 0 rfl) ?_
  refine lv_iconst (v := 0) hx hb d_M_chainAt_1 (by decide) ?_
  refine va_put (D := D) (ci := 3) (v := .int 0) (ty := .int) (C := K_M) (T := F_M) (N := 24) hx hb hG in_M t_M t_M_ok n_M hown hK.1 hP hD hS 0 rfl rfl 0 (by decide) (hG _ wd_648) (fun _ h9 => h9) rfl (by decide +kernel) rfl rfl (Nat.le_of_ble_eq_true rfl) d_M_chainAt_2 (fun H locs hP hD hS => ?_)
  have hP : va_P D vwC [(h0, .inr (3, mF ad 0 sg sn hot pc cx cy fo fv to tv fi ti)), ((ad 3), .inl (E.2.1, 2049, .inl bg))] H := hP
  have hD : va_D A [(h0, .inr (3, mF ad 0 sg sn hot pc cx cy fo fv to tv fi ti)), ((ad 3), .inl (E.2.1, 2049, .inl bg))] := hD
  refine lv_aload_n hx hb d_M_chainAt_5 rfl (lv_at hl 0 rfl) ?_
  refine lv_iload_n hx hb d_M_chainAt_6 rfl (lv_at hl 1 rfl) ?_
  have hPc := hP.sub (ws' := [(h0, .inr (3, mF ad 0 sg sn hot pc cx cy fo fv to tv fi ti))]) [0] rfl
  refine vp_callSi (W.runV (As := [.int (nI k)]) (rest := []) ⟨hx, hb, hml, hown, hts⟩ (k_M_isSegment l D E h0 ad 0 sg sn hot pc cx cy fo fv to tv fi ti (nI k)) (cwV 1 hts (gw_gv wd_755 wd_757 wd_23 wd_42 wd_758) rfl rfl rfl (by decide +kernel) ⟨Nat.le_of_ble_eq_true rfl, Nat.le_of_ble_eq_true rfl⟩) (rP_V 0 hPc hK rfl rfl) rfl rfl hl.1 rfl (lv_room (Nat.le_of_ble_eq_true rfl)) d_M_chainAt_7 ⟨Nat.le_of_ble_eq_true rfl, Nat.le_of_ble_eq_true rfl⟩) (fun is1 his1 => ?_)
  refine lv_if_ne (tgt := 19) hx hb d_M_chainAt_10 (by decide) (fun c1 => ?_) (fun c1 => ?_)
  · refine lv_aload_n hx hb d_M_chainAt_19 rfl (lv_at hl 0 rfl) ?_
    refine va_get (D := D) (ci := 3) (v := .int sn) (C := K_M) (T := F_M) (N := 24) hx hb hG in_M hown hK.1 hP 0 rfl rfl 3 (by decide) (hG _ wd_651) (fun _ h9 => h9) rfl d_M_chainAt_20 ?_
    refine lv_if_ne (tgt := 32) hx hb d_M_chainAt_23 (by decide) (fun c2 => ?_) (fun c2 => ?_)
    · refine lv_iload_n hx hb d_M_chainAt_32 rfl (lv_at hl 2 rfl) ?_
      refine lv_iconst (v := 0) hx hb d_M_chainAt_33 (by decide) ?_
      refine lv_aload_n hx hb d_M_chainAt_34 rfl (lv_at hl 0 rfl) ?_
      refine va_get (D := D) (ci := 3) (v := .ref (ad 3)) (C := K_M) (T := F_M) (N := 24) hx hb hG in_M hown hK.1 hP 0 rfl rfl 7 (by decide) (hG _ wd_655) (fun _ h9 => h9) rfl d_M_chainAt_35 ?_
      refine lv_iload_n hx hb d_M_chainAt_38 rfl (lv_at hl 1 rfl) ?_
      refine lv_iconst (v := 1) hx hb d_M_chainAt_39 (by decide) ?_
      refine lv_iadd hx hb d_M_chainAt_40 ?_
      rw [show (nI k + 1) = nI (k + 1) from nI_1 _]
      refine va_iald hx hb hK.1 hP 1 1 rfl rfl (vp_in_nI (by omega) (by omega)) d_M_chainAt_41 ?_
      rw [show bg (Int32.toNatClampNeg (nI (k + 1))) = bg (k + 1) from by rw [nI_clamp (by omega)]]
      refine lv_aload_n hx hb d_M_chainAt_42 rfl (lv_at hl 0 rfl) ?_
      refine va_get (D := D) (ci := 3) (v := .ref (ad 3)) (C := K_M) (T := F_M) (N := 24) hx hb hG in_M hown hK.1 hP 0 rfl rfl 7 (by decide) (hG _ wd_655) (fun _ h9 => h9) rfl d_M_chainAt_43 ?_
      refine lv_iload_n hx hb d_M_chainAt_46 rfl (lv_at hl 1 rfl) ?_
      refine va_iald hx hb hK.1 hP 1 1 rfl rfl (vp_in_nI (by omega) (by omega)) d_M_chainAt_47 ?_
      rw [show bg (Int32.toNatClampNeg (nI k)) = bg k from by rw [nI_clamp (by omega)]]
      refine lv_isub hx hb d_M_chainAt_48 ?_
      refine lv_iconst (v := 1) hx hb d_M_chainAt_49 (by decide) ?_
      refine lv_isub hx hb d_M_chainAt_50 ?_
      have hPc := hP.sub (ws' := []) [] rfl
      refine vp_callSi (W.runS (As := [.int i9, .int 0, .int ((bg (k + 1) - bg k) - 1)]) (rest := []) ⟨hx, hb, hml, hown, hts⟩ (k_M_within l D E i9 0 (bg (k + 1) - bg k - 1)) (va_cwS 3 hts (gw_gs wd_736 wd_737 wd_42 wd_738) rfl rfl rfl (by decide +kernel) ⟨Nat.le_of_ble_eq_true rfl, Nat.le_of_ble_eq_true rfl⟩) (rP_S hPc hK) rfl rfl hl.1 rfl (lv_room (Nat.le_of_ble_eq_true rfl)) d_M_chainAt_51 ⟨Nat.le_of_ble_eq_true rfl, Nat.le_of_ble_eq_true rfl⟩) (fun r3 hr3 => ?_)
      refine lv_if_eq (tgt := 73) hx hb d_M_chainAt_54 (by decide) (fun c3 => ?_) (fun c3 => ?_)
      · refine lv_aload_n hx hb d_M_chainAt_73 rfl (lv_at hl 0 rfl) ?_
        refine lv_iconst (v := 1) hx hb d_M_chainAt_74 (by decide) ?_
        have hPc := hP.sub (ws' := [(h0, .inr (3, mF ad 0 sg sn hot pc cx cy fo fv to tv fi ti))]) [0] rfl
        have hDc := hD.sub (ws' := [(h0, .inr (3, mF ad 0 sg sn hot pc cx cy fo fv to tv fi ti))]) [0] (by decide) rfl
        have hFc := va_free (wc := [(h0, .inr (3, mF ad 0 sg sn hot pc cx cy fo fv to tv fi ti))]) hD hS hA [0] rfl
        refine va_calli (va_runV (As := [.int 1]) (rest := []) ⟨hx, hb, hml, hown, hts⟩ (k_M_fail l D E h0 H.size ad 0 sg sn hot pc cx cy fo fv to tv fi ti 1) (cwV 1 hts (gw_gv wd_739 wd_741 wd_21 wd_42 wd_742) rfl rfl rfl (by decide +kernel) ⟨Nat.le_of_ble_eq_true rfl, Nat.le_of_ble_eq_true rfl⟩) (wP_V 0 hPc hK hDc rfl rfl) rfl rfl hl.1 rfl (lv_room (Nat.le_of_ble_eq_true rfl)) d_M_chainAt_75 ⟨Nat.le_of_ble_eq_true rfl, Nat.le_of_ble_eq_true rfl⟩) hS (fun q _ h => hFc q h) hFc (fun rf2 u9 t H1 locs ht hvm hw hB hz1 hk1 hS => ?_)
        obtain ⟨hP1, hD1⟩ := hB
        rw [ht] at hP1
        obtain ⟨hP, hD⟩ := va_join (wr := [((ad 3), .inl (E.2.1, 2049, .inl bg))]) (w1 := [(h0, .inr (3, mF ad 1 sg sn hot pc cx cy fo fv to tv fi ti))]) hP hD [0] [1] rfl rfl (by decide) (by decide) hk1 hFc hP1 hD1
        generalize H1 = H at hP hS ⊢
        have hP : va_P D vwC [((ad 3), .inl (E.2.1, 2049, .inl bg)), (h0, .inr (3, mF ad 1 sg sn hot pc cx cy fo fv to tv fi ti))] H := hP
        have hD : va_D A [((ad 3), .inl (E.2.1, 2049, .inl bg)), (h0, .inr (3, mF ad 1 sg sn hot pc cx cy fo fv to tv fi ti))] := hD
        obtain rfl : rf2 = 0 := hw
        have hP := hP.sub (ws' := [(h0, .inr (3, mF ad 1 sg sn hot pc cx cy fo fv to tv fi ti)), ((ad 3), .inl (E.2.1, 2049, .inl bg))]) [1, 0] rfl
        have hD := hD.sub (ws' := [(h0, .inr (3, mF ad 1 sg sn hot pc cx cy fo fv to tv fi ti)), ((ad 3), .inl (E.2.1, 2049, .inl bg))]) [1, 0] (by decide) rfl
        exact W.iret (v := 0) hx hb hrt (fun t ht hW => ⟨⟨0, (), rfl, rfl, ⟨by rw [ht]; exact hP, hD⟩⟩, hS.F ht⟩) hS.2.2 d_M_chainAt_78 hlocks
      · rw [hr3] at c3
        exact absurd (b01_1 c3) hi
    · exact absurd c2 h1
  · rw [his1, b01_t hs] at c1
    exact absurd c1 (by decide)
set_option maxHeartbeats 4000000 in
set_option maxRecDepth 100000 in
theorem k_M_chainAt (l : Launch) (D : va_G) (E : ClassId × ClassId × ClassId × ClassId) (h0 sz : Nat) (ad : Nat → Nat) (th sg sn hot pc cx cy : Int32) (fo fv to tv : Int64) (fi ti : Int32) (bg pl : Nat → Int32) (k j a b : Nat) (hk : k < 2048) (hs : mw_in (nI k) 0 (sg - 1)) (h1 : ¬ sn = 0) (ha : bg k = nI a) (hb9 : bg (k + 1) = nI b) (hab : a + j < b) (hb2 : b ≤ 65536) : Met l y_M_chainAt (.code y_M_chainAt c_M_chainAt 3 (some .int) :: gw) ({ frames := 2, cells := 0, slots := 0, locals := 60 } : Room) (wP D E [(h0, .inr (3, mF ad th sg sn hot pc cx cy fo fv to tv fi ti)), ((ad 3), .inl (E.2.1, 2049, .inl bg)), ((ad 4), .inl (E.2.1, 65536, .inl pl))] sz [.ref h0, .int (nI k), .int (nI j)]) (va_Qi (fun (r : Int32) (u : Unit) => r = pl (a + j)) (wB D (fun _ => [(h0, .inr (3, mF ad 0 sg sn hot pc cx cy fo fv to tv fi ti)), ((ad 3), .inl (E.2.1, 2049, .inl bg)), ((ad 4), .inl (E.2.1, 65536, .inl pl))]) (va_A [(h0, .inr (3, mF ad th sg sn hot pc cx cy fo fv to tv fi ti)), ((ad 3), .inl (E.2.1, 2049, .inl bg)), ((ad 4), .inl (E.2.1, 65536, .inl pl))] sz)) (va_A [(h0, .inr (3, mF ad th sg sn hot pc cx cy fo fv to tv fi ti)), ((ad 3), .inl (E.2.1, 2049, .inl bg)), ((ad 4), .inl (E.2.1, 65536, .inl pl))] sz)) 0 0 (va_A [(h0, .inr (3, mF ad th sg sn hot pc cx cy fo fv to tv fi ti)), ((ad 3), .inl (E.2.1, 2049, .inl bg)), ((ad 4), .inl (E.2.1, 65536, .inl pl))] sz) := by
  refine wr_ofW (Qc := fun A => (va_Qi (fun (r : Int32) (u : Unit) => r = pl (a + j)) (wB D (fun _ => [(h0, .inr (3, mF ad 0 sg sn hot pc cx cy fo fv to tv fi ti)), ((ad 3), .inl (E.2.1, 2049, .inl bg)), ((ad 4), .inl (E.2.1, 65536, .inl pl))]) A) A)) (by decide) (Nat.le_of_ble_eq_true rfl) ?_
  intro p e s m below meth c B hP hK A hA hD hS ls hl
  obtain ⟨hx, hb, hrt, hml, hown, hts, hG, hlocks, hin⟩ := B
  have hl : lv_has ls 3 [(0, .ref h0), (1, .int (nI k)), (2, .int (nI j))] := hl
  refine lv_aload_n hx hb d_M_chainAt_0 rfl (lv_at hl 0 rfl) ?_
  refine lv_iconst (v := 0) hx hb d_M_chainAt_1 (by decide) ?_
  refine va_put (D := D) (ci := 3) (v := .int 0) (ty := .int) (C := K_M) (T := F_M) (N := 24) hx hb hG in_M t_M t_M_ok n_M hown hK.1 hP hD hS 0 rfl rfl 0 (by decide) (hG _ wd_648) (fun _ h9 => h9) rfl (by decide +kernel) rfl rfl (Nat.le_of_ble_eq_true rfl) d_M_chainAt_2 (fun H locs hP hD hS => ?_)
  have hP : va_P D vwC [(h0, .inr (3, mF ad 0 sg sn hot pc cx cy fo fv to tv fi ti)), ((ad 3), .inl (E.2.1, 2049, .inl bg)), ((ad 4), .inl (E.2.1, 65536, .inl pl))] H := hP
  have hD : va_D A [(h0, .inr (3, mF ad 0 sg sn hot pc cx cy fo fv to tv fi ti)), ((ad 3), .inl (E.2.1, 2049, .inl bg)), ((ad 4), .inl (E.2.1, 65536, .inl pl))] := hD
  refine lv_aload_n hx hb d_M_chainAt_5 rfl (lv_at hl 0 rfl) ?_
  refine lv_iload_n hx hb d_M_chainAt_6 rfl (lv_at hl 1 rfl) ?_
  have hPc := hP.sub (ws' := [(h0, .inr (3, mF ad 0 sg sn hot pc cx cy fo fv to tv fi ti))]) [0] rfl
  refine vp_callSi (W.runV (As := [.int (nI k)]) (rest := []) ⟨hx, hb, hml, hown, hts⟩ (k_M_isSegment l D E h0 ad 0 sg sn hot pc cx cy fo fv to tv fi ti (nI k)) (cwV 1 hts (gw_gv wd_755 wd_757 wd_23 wd_42 wd_758) rfl rfl rfl (by decide +kernel) ⟨Nat.le_of_ble_eq_true rfl, Nat.le_of_ble_eq_true rfl⟩) (rP_V 0 hPc hK rfl rfl) rfl rfl hl.1 rfl (lv_room (Nat.le_of_ble_eq_true rfl)) d_M_chainAt_7 ⟨Nat.le_of_ble_eq_true rfl, Nat.le_of_ble_eq_true rfl⟩) (fun is1 his1 => ?_)
  refine lv_if_ne (tgt := 19) hx hb d_M_chainAt_10 (by decide) (fun c1 => ?_) (fun c1 => ?_)
  · refine lv_aload_n hx hb d_M_chainAt_19 rfl (lv_at hl 0 rfl) ?_
    refine va_get (D := D) (ci := 3) (v := .int sn) (C := K_M) (T := F_M) (N := 24) hx hb hG in_M hown hK.1 hP 0 rfl rfl 3 (by decide) (hG _ wd_651) (fun _ h9 => h9) rfl d_M_chainAt_20 ?_
    refine lv_if_ne (tgt := 32) hx hb d_M_chainAt_23 (by decide) (fun c2 => ?_) (fun c2 => ?_)
    · refine lv_iload_n hx hb d_M_chainAt_32 rfl (lv_at hl 2 rfl) ?_
      refine lv_iconst (v := 0) hx hb d_M_chainAt_33 (by decide) ?_
      refine lv_aload_n hx hb d_M_chainAt_34 rfl (lv_at hl 0 rfl) ?_
      refine va_get (D := D) (ci := 3) (v := .ref (ad 3)) (C := K_M) (T := F_M) (N := 24) hx hb hG in_M hown hK.1 hP 0 rfl rfl 7 (by decide) (hG _ wd_655) (fun _ h9 => h9) rfl d_M_chainAt_35 ?_
      refine lv_iload_n hx hb d_M_chainAt_38 rfl (lv_at hl 1 rfl) ?_
      refine lv_iconst (v := 1) hx hb d_M_chainAt_39 (by decide) ?_
      refine lv_iadd hx hb d_M_chainAt_40 ?_
      rw [show (nI k + 1) = nI (k + 1) from nI_1 _]
      refine va_iald hx hb hK.1 hP 1 1 rfl rfl (vp_in_nI (by omega) (by omega)) d_M_chainAt_41 ?_
      rw [show bg (Int32.toNatClampNeg (nI (k + 1))) = bg (k + 1) from by rw [nI_clamp (by omega)]]
      refine lv_aload_n hx hb d_M_chainAt_42 rfl (lv_at hl 0 rfl) ?_
      refine va_get (D := D) (ci := 3) (v := .ref (ad 3)) (C := K_M) (T := F_M) (N := 24) hx hb hG in_M hown hK.1 hP 0 rfl rfl 7 (by decide) (hG _ wd_655) (fun _ h9 => h9) rfl d_M_chainAt_43 ?_
      refine lv_iload_n hx hb d_M_chainAt_46 rfl (lv_at hl 1 rfl) ?_
      refine va_iald hx hb hK.1 hP 1 1 rfl rfl (vp_in_nI (by omega) (by omega)) d_M_chainAt_47 ?_
      rw [show bg (Int32.toNatClampNeg (nI k)) = bg k from by rw [nI_clamp (by omega)]]
      refine lv_isub hx hb d_M_chainAt_48 ?_
      refine lv_iconst (v := 1) hx hb d_M_chainAt_49 (by decide) ?_
      refine lv_isub hx hb d_M_chainAt_50 ?_
      have hPc := hP.sub (ws' := []) [] rfl
      refine vp_callSi (W.runS (As := [.int (nI j), .int 0, .int ((bg (k + 1) - bg k) - 1)]) (rest := []) ⟨hx, hb, hml, hown, hts⟩ (k_M_within l D E (nI j) 0 (bg (k + 1) - bg k - 1)) (va_cwS 3 hts (gw_gs wd_736 wd_737 wd_42 wd_738) rfl rfl rfl (by decide +kernel) ⟨Nat.le_of_ble_eq_true rfl, Nat.le_of_ble_eq_true rfl⟩) (rP_S hPc hK) rfl rfl hl.1 rfl (lv_room (Nat.le_of_ble_eq_true rfl)) d_M_chainAt_51 ⟨Nat.le_of_ble_eq_true rfl, Nat.le_of_ble_eq_true rfl⟩) (fun r3 hr3 => ?_)
      refine lv_if_eq (tgt := 73) hx hb d_M_chainAt_54 (by decide) (fun c3 => ?_) (fun c3 => ?_)
      · rw [hr3, b01_t (by rw [hb9, ha, pk_sub (by omega)]; exact mw_nat' (by omega) (by omega))] at c3
        exact absurd c3 (by decide)
      · refine lv_aload_n hx hb d_M_chainAt_57 rfl (lv_at hl 0 rfl) ?_
        refine va_get (D := D) (ci := 3) (v := .ref (ad 4)) (C := K_M) (T := F_M) (N := 24) hx hb hG in_M hown hK.1 hP 0 rfl rfl 8 (by decide) (hG _ wd_656) (fun _ h9 => h9) rfl d_M_chainAt_58 ?_
        refine lv_aload_n hx hb d_M_chainAt_61 rfl (lv_at hl 0 rfl) ?_
        refine va_get (D := D) (ci := 3) (v := .ref (ad 3)) (C := K_M) (T := F_M) (N := 24) hx hb hG in_M hown hK.1 hP 0 rfl rfl 7 (by decide) (hG _ wd_655) (fun _ h9 => h9) rfl d_M_chainAt_62 ?_
        refine lv_iload_n hx hb d_M_chainAt_65 rfl (lv_at hl 1 rfl) ?_
        refine va_iald hx hb hK.1 hP 1 1 rfl rfl (vp_in_nI (by omega) (by omega)) d_M_chainAt_66 ?_
        rw [show bg (Int32.toNatClampNeg (nI k)) = (nI a) from by rw [nI_clamp (by omega), ha]]
        refine lv_iload_n hx hb d_M_chainAt_67 rfl (lv_at hl 2 rfl) ?_
        refine lv_iadd hx hb d_M_chainAt_68 ?_
        rw [show ((nI a) + nI j) = nI (a + j) from nI_add _ _]
        refine va_iald hx hb hK.1 hP 2 1 rfl rfl (vp_in_nI (by omega) (by omega)) d_M_chainAt_69 ?_
        rw [show pl (Int32.toNatClampNeg (nI (a + j))) = pl (a + j) from by rw [nI_clamp (by omega)]]
        refine lv_goto (tgt := 78) hx hb d_M_chainAt_70 (by decide) ?_
        exact W.iret (v := pl (a + j)) hx hb hrt (fun t ht hW => ⟨⟨pl (a + j), (), rfl, rfl, ⟨by rw [ht]; exact hP, hD⟩⟩, hS.F ht⟩) hS.2.2 d_M_chainAt_78 hlocks
    · exact absurd c2 h1
  · rw [his1, b01_t hs] at c1
    exact absurd c1 (by decide)
set_option maxHeartbeats 4000000 in
set_option maxRecDepth 100000 in
theorem k_M_count_n (l : Launch) (D : va_G) (E : ClassId × ClassId × ClassId × ClassId) (h0 sz : Nat) (ad : Nat → Nat) (th sg sn hot pc cx cy : Int32) (fo fv to tv : Int64) (fi ti : Int32) (w : Int32) (hn : ¬ mw_in w 0 4) : Met l y_M_count (.code y_M_count c_M_count 2 (some .int) :: gw) ({ frames := 1, cells := 0, slots := 0, locals := 30 } : Room) (wP D E [(h0, .inr (3, mF ad th sg sn hot pc cx cy fo fv to tv fi ti))] sz [.ref h0, .int w]) (va_Qi (fun (r : Int32) (u : Unit) => r = -1) (wB D (fun _ => [(h0, .inr (3, mF ad 0 sg sn hot pc cx cy fo fv to tv fi ti))]) (va_A [(h0, .inr (3, mF ad th sg sn hot pc cx cy fo fv to tv fi ti))] sz)) (va_A [(h0, .inr (3, mF ad th sg sn hot pc cx cy fo fv to tv fi ti))] sz)) 0 0 (va_A [(h0, .inr (3, mF ad th sg sn hot pc cx cy fo fv to tv fi ti))] sz) := by
  refine wr_ofW (Qc := fun A => (va_Qi (fun (r : Int32) (u : Unit) => r = -1) (wB D (fun _ => [(h0, .inr (3, mF ad 0 sg sn hot pc cx cy fo fv to tv fi ti))]) A) A)) (by decide) (Nat.le_of_ble_eq_true rfl) ?_
  intro p e s m below meth c B hP hK A hA hD hS ls hl
  obtain ⟨hx, hb, hrt, hml, hown, hts, hG, hlocks, hin⟩ := B
  have hl : lv_has ls 2 [(0, .ref h0), (1, .int w)] := hl
  refine lv_aload_n hx hb d_M_count_0 rfl (lv_at hl 0 rfl) ?_
  refine lv_iconst (v := 0) hx hb d_M_count_1 (by decide) ?_
  refine va_put (D := D) (ci := 3) (v := .int 0) (ty := .int) (C := K_M) (T := F_M) (N := 24) hx hb hG in_M t_M t_M_ok n_M hown hK.1 hP hD hS 0 rfl rfl 0 (by decide) (hG _ wd_648) (fun _ h9 => h9) rfl (by decide +kernel) rfl rfl (Nat.le_of_ble_eq_true rfl) d_M_count_2 (fun H locs hP hD hS => ?_)
  have hP : va_P D vwC [(h0, .inr (3, mF ad 0 sg sn hot pc cx cy fo fv to tv fi ti))] H := hP
  have hD : va_D A [(h0, .inr (3, mF ad 0 sg sn hot pc cx cy fo fv to tv fi ti))] := hD
  refine lv_iload_n hx hb d_M_count_5 rfl (lv_at hl 1 rfl) ?_
  refine lv_iconst (v := 0) hx hb d_M_count_6 (by decide) ?_
  refine lv_iconst (v := 4) hx hb d_M_count_7 (by decide) ?_
  have hPc := hP.sub (ws' := []) [] rfl
  refine vp_callSi (W.runS (As := [.int w, .int 0, .int 4]) (rest := []) ⟨hx, hb, hml, hown, hts⟩ (k_M_within l D E w 0 4) (va_cwS 3 hts (gw_gs wd_736 wd_737 wd_42 wd_738) rfl rfl rfl (by decide +kernel) ⟨Nat.le_of_ble_eq_true rfl, Nat.le_of_ble_eq_true rfl⟩) (rP_S hPc hK) rfl rfl hl.1 rfl (lv_room (Nat.le_of_ble_eq_true rfl)) d_M_count_8 ⟨Nat.le_of_ble_eq_true rfl, Nat.le_of_ble_eq_true rfl⟩) (fun r1 hr1 => ?_)
  refine lv_if_ne (tgt := 16) hx hb d_M_count_11 (by decide) (fun c1 => ?_) (fun c1 => ?_)
  · rw [hr1] at c1
    exact absurd (b01_1 c1) hn
  · refine lv_iconst (v := (-1)) hx hb d_M_count_14 (by decide) ?_
    exact W.iret (v := (-1)) hx hb hrt (fun t ht hW => ⟨⟨(-1), (), rfl, rfl, ⟨by rw [ht]; exact hP, hD⟩⟩, hS.F ht⟩) hS.2.2 d_M_count_15 hlocks
set_option maxHeartbeats 4000000 in
set_option maxRecDepth 100000 in
theorem k_M_count (l : Launch) (D : va_G) (E : ClassId × ClassId × ClassId × ClassId) (h0 sz : Nat) (ad : Nat → Nat) (th sg sn hot pc cx cy : Int32) (fo fv to tv : Int64) (fi ti : Int32) (bg : Nat → Int32) (k : Nat) (w : Int32) (hk : k < 2049) (hi : mw_in w 0 4) : Met l y_M_count (.code y_M_count c_M_count 2 (some .int) :: gw) ({ frames := 1, cells := 0, slots := 0, locals := 30 } : Room) (wP D E [(h0, .inr (3, mF ad th (nI k) sn hot pc cx cy fo fv to tv fi ti)), ((ad 3), .inl (E.2.1, 2049, .inl bg))] sz [.ref h0, .int w]) (va_Qi (fun (r : Int32) (u : Unit) => r = if 3 ≤ w then (if w = 3 then bg k else if sn = 0 then 0 else 1) else if w = 0 then nI k else if w = 1 then hot else pc) (wB D (fun _ => [(h0, .inr (3, mF ad 0 (nI k) sn hot pc cx cy fo fv to tv fi ti)), ((ad 3), .inl (E.2.1, 2049, .inl bg))]) (va_A [(h0, .inr (3, mF ad th (nI k) sn hot pc cx cy fo fv to tv fi ti)), ((ad 3), .inl (E.2.1, 2049, .inl bg))] sz)) (va_A [(h0, .inr (3, mF ad th (nI k) sn hot pc cx cy fo fv to tv fi ti)), ((ad 3), .inl (E.2.1, 2049, .inl bg))] sz)) 0 0 (va_A [(h0, .inr (3, mF ad th (nI k) sn hot pc cx cy fo fv to tv fi ti)), ((ad 3), .inl (E.2.1, 2049, .inl bg))] sz) := by
  refine wr_ofW (Qc := fun A => (va_Qi (fun (r : Int32) (u : Unit) => r = if 3 ≤ w then (if w = 3 then bg k else if sn = 0 then 0 else 1) else if w = 0 then nI k else if w = 1 then hot else pc) (wB D (fun _ => [(h0, .inr (3, mF ad 0 (nI k) sn hot pc cx cy fo fv to tv fi ti)), ((ad 3), .inl (E.2.1, 2049, .inl bg))]) A) A)) (by decide) (Nat.le_of_ble_eq_true rfl) ?_
  intro p e s m below meth c B hP hK A hA hD hS ls hl
  obtain ⟨hx, hb, hrt, hml, hown, hts, hG, hlocks, hin⟩ := B
  have hl : lv_has ls 2 [(0, .ref h0), (1, .int w)] := hl
  refine lv_aload_n hx hb d_M_count_0 rfl (lv_at hl 0 rfl) ?_
  refine lv_iconst (v := 0) hx hb d_M_count_1 (by decide) ?_
  refine va_put (D := D) (ci := 3) (v := .int 0) (ty := .int) (C := K_M) (T := F_M) (N := 24) hx hb hG in_M t_M t_M_ok n_M hown hK.1 hP hD hS 0 rfl rfl 0 (by decide) (hG _ wd_648) (fun _ h9 => h9) rfl (by decide +kernel) rfl rfl (Nat.le_of_ble_eq_true rfl) d_M_count_2 (fun H locs hP hD hS => ?_)
  have hP : va_P D vwC [(h0, .inr (3, mF ad 0 (nI k) sn hot pc cx cy fo fv to tv fi ti)), ((ad 3), .inl (E.2.1, 2049, .inl bg))] H := hP
  have hD : va_D A [(h0, .inr (3, mF ad 0 (nI k) sn hot pc cx cy fo fv to tv fi ti)), ((ad 3), .inl (E.2.1, 2049, .inl bg))] := hD
  refine lv_iload_n hx hb d_M_count_5 rfl (lv_at hl 1 rfl) ?_
  refine lv_iconst (v := 0) hx hb d_M_count_6 (by decide) ?_
  refine lv_iconst (v := 4) hx hb d_M_count_7 (by decide) ?_
  have hPc := hP.sub (ws' := []) [] rfl
  refine vp_callSi (W.runS (As := [.int w, .int 0, .int 4]) (rest := []) ⟨hx, hb, hml, hown, hts⟩ (k_M_within l D E w 0 4) (va_cwS 3 hts (gw_gs wd_736 wd_737 wd_42 wd_738) rfl rfl rfl (by decide +kernel) ⟨Nat.le_of_ble_eq_true rfl, Nat.le_of_ble_eq_true rfl⟩) (rP_S hPc hK) rfl rfl hl.1 rfl (lv_room (Nat.le_of_ble_eq_true rfl)) d_M_count_8 ⟨Nat.le_of_ble_eq_true rfl, Nat.le_of_ble_eq_true rfl⟩) (fun r1 hr1 => ?_)
  refine lv_if_ne (tgt := 16) hx hb d_M_count_11 (by decide) (fun c1 => ?_) (fun c1 => ?_)
  · refine lv_iload_n hx hb d_M_count_16 rfl (lv_at hl 1 rfl) ?_
    refine lv_iconst (v := 3) hx hb d_M_count_17 (by decide) ?_
    refine lv_icmp_ge (tgt := 49) hx hb d_M_count_18 (by decide) (fun c2 => ?_) (fun c2 => ?_)
    · refine lv_iload_n hx hb d_M_count_49 rfl (lv_at hl 1 rfl) ?_
      refine lv_iconst (v := 3) hx hb d_M_count_50 (by decide) ?_
      refine lv_icmp_ne (tgt := 66) hx hb d_M_count_51 (by decide) (fun c3 => ?_) (fun c3 => ?_)
      · refine lv_aload_n hx hb d_M_count_66 rfl (lv_at hl 0 rfl) ?_
        refine va_get (D := D) (ci := 3) (v := .int sn) (C := K_M) (T := F_M) (N := 24) hx hb hG in_M hown hK.1 hP 0 rfl rfl 3 (by decide) (hG _ wd_651) (fun _ h9 => h9) rfl d_M_count_67 ?_
        refine lv_if_eq (tgt := 77) hx hb d_M_count_70 (by decide) (fun c4 => ?_) (fun c4 => ?_)
        · refine lv_iconst (v := 0) hx hb d_M_count_77 (by decide) ?_
          exact W.iret (v := 0) hx hb hrt (fun t ht hW => ⟨⟨0, (), rfl, by rw [if_pos c2, if_neg c3, if_pos c4], ⟨by rw [ht]; exact hP, hD⟩⟩, hS.F ht⟩) hS.2.2 d_M_count_78 hlocks
        · refine lv_iconst (v := 1) hx hb d_M_count_73 (by decide) ?_
          refine lv_goto (tgt := 78) hx hb d_M_count_74 (by decide) ?_
          exact W.iret (v := 1) hx hb hrt (fun t ht hW => ⟨⟨1, (), rfl, by rw [if_pos c2, if_neg c3, if_neg c4], ⟨by rw [ht]; exact hP, hD⟩⟩, hS.F ht⟩) hS.2.2 d_M_count_78 hlocks
      · refine lv_aload_n hx hb d_M_count_54 rfl (lv_at hl 0 rfl) ?_
        refine va_get (D := D) (ci := 3) (v := .ref (ad 3)) (C := K_M) (T := F_M) (N := 24) hx hb hG in_M hown hK.1 hP 0 rfl rfl 7 (by decide) (hG _ wd_655) (fun _ h9 => h9) rfl d_M_count_55 ?_
        refine lv_aload_n hx hb d_M_count_58 rfl (lv_at hl 0 rfl) ?_
        refine va_get (D := D) (ci := 3) (v := .int (nI k)) (C := K_M) (T := F_M) (N := 24) hx hb hG in_M hown hK.1 hP 0 rfl rfl 1 (by decide) (hG _ wd_649) (fun _ h9 => h9) rfl d_M_count_59 ?_
        refine va_iald hx hb hK.1 hP 1 1 rfl rfl (vp_in_nI (by omega) (by omega)) d_M_count_62 ?_
        rw [show bg (Int32.toNatClampNeg (nI k)) = bg k from by rw [nI_clamp (by omega)]]
        refine lv_goto (tgt := 78) hx hb d_M_count_63 (by decide) ?_
        exact W.iret (v := bg k) hx hb hrt (fun t ht hW => ⟨⟨bg k, (), rfl, by rw [if_pos c2, if_pos c3], ⟨by rw [ht]; exact hP, hD⟩⟩, hS.F ht⟩) hS.2.2 d_M_count_78 hlocks
    · refine lv_iload_n hx hb d_M_count_21 rfl (lv_at hl 1 rfl) ?_
      refine lv_if_ne (tgt := 32) hx hb d_M_count_22 (by decide) (fun c3 => ?_) (fun c3 => ?_)
      · refine lv_iload_n hx hb d_M_count_32 rfl (lv_at hl 1 rfl) ?_
        refine lv_iconst (v := 1) hx hb d_M_count_33 (by decide) ?_
        refine lv_icmp_ne (tgt := 44) hx hb d_M_count_34 (by decide) (fun c4 => ?_) (fun c4 => ?_)
        · refine lv_aload_n hx hb d_M_count_44 rfl (lv_at hl 0 rfl) ?_
          refine va_get (D := D) (ci := 3) (v := .int pc) (C := K_M) (T := F_M) (N := 24) hx hb hG in_M hown hK.1 hP 0 rfl rfl 9 (by decide) (hG _ wd_657) (fun _ h9 => h9) rfl d_M_count_45 ?_
          exact W.iret (v := pc) hx hb hrt (fun t ht hW => ⟨⟨pc, (), rfl, by rw [if_neg c2, if_neg c3, if_neg c4], ⟨by rw [ht]; exact hP, hD⟩⟩, hS.F ht⟩) hS.2.2 d_M_count_48 hlocks
        · refine lv_aload_n hx hb d_M_count_37 rfl (lv_at hl 0 rfl) ?_
          refine va_get (D := D) (ci := 3) (v := .int hot) (C := K_M) (T := F_M) (N := 24) hx hb hG in_M hown hK.1 hP 0 rfl rfl 4 (by decide) (hG _ wd_652) (fun _ h9 => h9) rfl d_M_count_38 ?_
          refine lv_goto (tgt := 48) hx hb d_M_count_41 (by decide) ?_
          exact W.iret (v := hot) hx hb hrt (fun t ht hW => ⟨⟨hot, (), rfl, by rw [if_neg c2, if_neg c3, if_pos c4], ⟨by rw [ht]; exact hP, hD⟩⟩, hS.F ht⟩) hS.2.2 d_M_count_48 hlocks
      · refine lv_aload_n hx hb d_M_count_25 rfl (lv_at hl 0 rfl) ?_
        refine va_get (D := D) (ci := 3) (v := .int (nI k)) (C := K_M) (T := F_M) (N := 24) hx hb hG in_M hown hK.1 hP 0 rfl rfl 1 (by decide) (hG _ wd_649) (fun _ h9 => h9) rfl d_M_count_26 ?_
        refine lv_goto (tgt := 48) hx hb d_M_count_29 (by decide) ?_
        exact W.iret (v := nI k) hx hb hrt (fun t ht hW => ⟨⟨nI k, (), rfl, by rw [if_neg c2, if_pos c3], ⟨by rw [ht]; exact hP, hD⟩⟩, hS.F ht⟩) hS.2.2 d_M_count_48 hlocks
  · rw [hr1, b01_t hi] at c1
    exact absurd c1 (by decide)
def ad11 (a b c d e f g h i j k : Nat) : Nat → Nat := fun n => match n with | 0 => a | 1 => b | 2 => c | 3 => d | 4 => e | 5 => f | 6 => g | 7 => h | 8 => i | 9 => j | _ => k
set_option maxHeartbeats 4000000 in
set_option maxRecDepth 100000 in
theorem k_M_init (l : Launch) (D : va_G) (E : ClassId × ClassId × ClassId × ClassId) (h0 sz : Nat) : Met l y_M_init (.code y_M_init c_M_init 1 none :: gw) ({ frames := 1, cells := 11, slots := 313347, locals := 12 } : Room) (wP D E [(h0, .inr (3, [.int 0, .int 0, .null, .int 0, .int 0, .null, .null, .null, .null, .int 0, .null, .null, .null, .int 0, .int 0, .long 0, .long 0, .long 0, .long 0, .int 0, .int 0, .null, .null, .null]))] sz [.ref h0]) (va_Qv (fun (u : Nat → Nat) => True) (wB D (fun u => [(h0, .inr (3, mF u 0 0 0 0 0 0 0 0 0 0 0 0 0)), ((u 0), .inl (E.2.1, 8192, .inl (fun _ => 0))), ((u 1), .inl (E.2.1, 8193, .inl (fun _ => 0))), ((u 2), .inl (E.2.1, 8193, .inl (fun _ => 0))), ((u 3), .inl (E.2.1, 2049, .inl (fun _ => 0))), ((u 4), .inl (E.2.1, 65536, .inl (fun _ => 0))), ((u 5), .inl (E.2.1, 65536, .inl (fun _ => 0))), ((u 6), .inl (E.2.1, 65536, .inl (fun _ => 0))), ((u 7), .inl (E.2.1, 65536, .inl (fun _ => 0))), ((u 8), .inl (E.1, 8192, .inr (.inl (fun _ => 0)))), ((u 9), .inl (E.1, 8192, .inr (.inl (fun _ => 0)))), ((u 10), .inl (E.2.2.1, 8192, .inl (fun _ => 0)))]) (va_A [(h0, .inr (3, [.int 0, .int 0, .null, .int 0, .int 0, .null, .null, .null, .null, .int 0, .null, .null, .null, .int 0, .int 0, .long 0, .long 0, .long 0, .long 0, .int 0, .int 0, .null, .null, .null]))] sz)) (va_A [(h0, .inr (3, [.int 0, .int 0, .null, .int 0, .int 0, .null, .null, .null, .null, .int 0, .null, .null, .null, .int 0, .int 0, .long 0, .long 0, .long 0, .long 0, .int 0, .int 0, .null, .null, .null]))] sz)) 11 313347 (va_A [(h0, .inr (3, [.int 0, .int 0, .null, .int 0, .int 0, .null, .null, .null, .null, .int 0, .null, .null, .null, .int 0, .int 0, .long 0, .long 0, .long 0, .long 0, .int 0, .int 0, .null, .null, .null]))] sz) := by
  refine wr_ofW (Qc := fun A => (va_Qv (fun (u : Nat → Nat) => True) (wB D (fun u => [(h0, .inr (3, mF u 0 0 0 0 0 0 0 0 0 0 0 0 0)), ((u 0), .inl (E.2.1, 8192, .inl (fun _ => 0))), ((u 1), .inl (E.2.1, 8193, .inl (fun _ => 0))), ((u 2), .inl (E.2.1, 8193, .inl (fun _ => 0))), ((u 3), .inl (E.2.1, 2049, .inl (fun _ => 0))), ((u 4), .inl (E.2.1, 65536, .inl (fun _ => 0))), ((u 5), .inl (E.2.1, 65536, .inl (fun _ => 0))), ((u 6), .inl (E.2.1, 65536, .inl (fun _ => 0))), ((u 7), .inl (E.2.1, 65536, .inl (fun _ => 0))), ((u 8), .inl (E.1, 8192, .inr (.inl (fun _ => 0)))), ((u 9), .inl (E.1, 8192, .inr (.inl (fun _ => 0)))), ((u 10), .inl (E.2.2.1, 8192, .inl (fun _ => 0)))]) A) A)) (by decide) (Nat.le_of_ble_eq_true rfl) ?_
  intro p e s m below meth c B hP hK A hA hD hS ls hl
  obtain ⟨hx, hb, hrt, hml, hown, hts, hG, hlocks, hin⟩ := B
  have hl : lv_has ls 1 [(0, .ref h0)] := hl
  refine lv_aload_n hx hb d_M_init_0 rfl (lv_at hl 0 rfl) ?_
  refine W.objInit hx hb hown (hG _ wd_646) (hG _ wd_63) (hG _ wd_64) rfl (by rw [hml]; exact hl.1) rfl d_M_init_1 (Nat.le_of_ble_eq_true rfl) (Nat.le_of_ble_eq_true rfl) ?_
  refine W.eq (g2 := F0 m 4 ls []) rfl ?_
  refine lv_aload_n hx hb d_M_init_4 rfl (lv_at hl 0 rfl) ?_
  refine lv_sipush (v := 8192) hx hb d_M_init_5 (by decide) ?_
  refine va_newa (atype := .int) (a0 := (8192, .inl (fun _ => 0))) (ty := .int) hx hb (hG _ wd_721) rfl hK.1 hP hD hS hA (fun _ => rfl) (by decide) (by decide) (by decide) (Nat.le_of_ble_eq_true rfl) (Nat.le_of_ble_eq_true rfl) d_M_init_8 (fun q0 cA H hK2 hP hD hS => ?_)
  obtain rfl : E.2.1 = cA := ty_eq hK2 1 4 rfl rfl
  have hP : va_P D vwC [(h0, .inr (3, [.int 0, .int 0, .null, .int 0, .int 0, .null, .null, .null, .null, .int 0, .null, .null, .null, .int 0, .int 0, .long 0, .long 0, .long 0, .long 0, .int 0, .int 0, .null, .null, .null])), (q0, .inl (E.2.1, 8192, .inl (fun _ => 0)))] H := hP
  have hD : va_D A [(h0, .inr (3, [.int 0, .int 0, .null, .int 0, .int 0, .null, .null, .null, .null, .int 0, .null, .null, .null, .int 0, .int 0, .long 0, .long 0, .long 0, .long 0, .int 0, .int 0, .null, .null, .null])), (q0, .inl (E.2.1, 8192, .inl (fun _ => 0)))] := hD
  refine W.widen (k := 1) (n := 8192) (by decide) (by decide) ?_
  refine va_putF (D := D) (ci := 3) (v := .ref q0) (ty := .array .int) (C := K_M) (T := F_M) (N := 24) hx hb hG in_M t_M t_M_ok n_M hown hK.1 hP hD hS 0 rfl rfl 2 (by decide) (hG _ wd_650) (fun _ h9 => h9) rfl hin rfl (by decide +kernel) rfl rfl (Nat.le_of_ble_eq_true rfl) d_M_init_10 (fun H locs hP hD hS => ?_)
  have hP : va_P D vwC [(h0, .inr (3, [.int 0, .int 0, .ref q0, .int 0, .int 0, .null, .null, .null, .null, .int 0, .null, .null, .null, .int 0, .int 0, .long 0, .long 0, .long 0, .long 0, .int 0, .int 0, .null, .null, .null])), (q0, .inl (E.2.1, 8192, .inl (fun _ => 0)))] H := hP
  have hD : va_D A [(h0, .inr (3, [.int 0, .int 0, .ref q0, .int 0, .int 0, .null, .null, .null, .null, .int 0, .null, .null, .null, .int 0, .int 0, .long 0, .long 0, .long 0, .long 0, .int 0, .int 0, .null, .null, .null])), (q0, .inl (E.2.1, 8192, .inl (fun _ => 0)))] := hD
  refine lv_aload_n hx hb d_M_init_13 rfl (lv_at hl 0 rfl) ?_
  refine lv_sipush (v := 8193) hx hb d_M_init_14 (by decide) ?_
  refine va_newa (atype := .int) (a0 := (8193, .inl (fun _ => 0))) (ty := .int) hx hb (hG _ wd_721) rfl hK.1 hP hD hS hA (fun _ => rfl) (by decide) (by decide) (by decide) (Nat.le_of_ble_eq_true rfl) (Nat.le_of_ble_eq_true rfl) d_M_init_17 (fun q1 cA H hK2 hP hD hS => ?_)
  obtain rfl : E.2.1 = cA := ty_eq hK2 1 4 rfl rfl
  have hP : va_P D vwC [(h0, .inr (3, [.int 0, .int 0, .ref q0, .int 0, .int 0, .null, .null, .null, .null, .int 0, .null, .null, .null, .int 0, .int 0, .long 0, .long 0, .long 0, .long 0, .int 0, .int 0, .null, .null, .null])), (q0, .inl (E.2.1, 8192, .inl (fun _ => 0))), (q1, .inl (E.2.1, 8193, .inl (fun _ => 0)))] H := hP
  have hD : va_D A [(h0, .inr (3, [.int 0, .int 0, .ref q0, .int 0, .int 0, .null, .null, .null, .null, .int 0, .null, .null, .null, .int 0, .int 0, .long 0, .long 0, .long 0, .long 0, .int 0, .int 0, .null, .null, .null])), (q0, .inl (E.2.1, 8192, .inl (fun _ => 0))), (q1, .inl (E.2.1, 8193, .inl (fun _ => 0)))] := hD
  refine W.widen (k := 2) (n := 16385) (by decide) (by decide) ?_
  refine va_putF (D := D) (ci := 3) (v := .ref q1) (ty := .array .int) (C := K_M) (T := F_M) (N := 24) hx hb hG in_M t_M t_M_ok n_M hown hK.1 hP hD hS 0 rfl rfl 5 (by decide) (hG _ wd_653) (fun _ h9 => h9) rfl hin rfl (by decide +kernel) rfl rfl (Nat.le_of_ble_eq_true rfl) d_M_init_19 (fun H locs hP hD hS => ?_)
  have hP : va_P D vwC [(h0, .inr (3, [.int 0, .int 0, .ref q0, .int 0, .int 0, .ref q1, .null, .null, .null, .int 0, .null, .null, .null, .int 0, .int 0, .long 0, .long 0, .long 0, .long 0, .int 0, .int 0, .null, .null, .null])), (q0, .inl (E.2.1, 8192, .inl (fun _ => 0))), (q1, .inl (E.2.1, 8193, .inl (fun _ => 0)))] H := hP
  have hD : va_D A [(h0, .inr (3, [.int 0, .int 0, .ref q0, .int 0, .int 0, .ref q1, .null, .null, .null, .int 0, .null, .null, .null, .int 0, .int 0, .long 0, .long 0, .long 0, .long 0, .int 0, .int 0, .null, .null, .null])), (q0, .inl (E.2.1, 8192, .inl (fun _ => 0))), (q1, .inl (E.2.1, 8193, .inl (fun _ => 0)))] := hD
  refine lv_aload_n hx hb d_M_init_22 rfl (lv_at hl 0 rfl) ?_
  refine lv_sipush (v := 8193) hx hb d_M_init_23 (by decide) ?_
  refine va_newa (atype := .int) (a0 := (8193, .inl (fun _ => 0))) (ty := .int) hx hb (hG _ wd_721) rfl hK.1 hP hD hS hA (fun _ => rfl) (by decide) (by decide) (by decide) (Nat.le_of_ble_eq_true rfl) (Nat.le_of_ble_eq_true rfl) d_M_init_26 (fun q2 cA H hK2 hP hD hS => ?_)
  obtain rfl : E.2.1 = cA := ty_eq hK2 1 4 rfl rfl
  have hP : va_P D vwC [(h0, .inr (3, [.int 0, .int 0, .ref q0, .int 0, .int 0, .ref q1, .null, .null, .null, .int 0, .null, .null, .null, .int 0, .int 0, .long 0, .long 0, .long 0, .long 0, .int 0, .int 0, .null, .null, .null])), (q0, .inl (E.2.1, 8192, .inl (fun _ => 0))), (q1, .inl (E.2.1, 8193, .inl (fun _ => 0))), (q2, .inl (E.2.1, 8193, .inl (fun _ => 0)))] H := hP
  have hD : va_D A [(h0, .inr (3, [.int 0, .int 0, .ref q0, .int 0, .int 0, .ref q1, .null, .null, .null, .int 0, .null, .null, .null, .int 0, .int 0, .long 0, .long 0, .long 0, .long 0, .int 0, .int 0, .null, .null, .null])), (q0, .inl (E.2.1, 8192, .inl (fun _ => 0))), (q1, .inl (E.2.1, 8193, .inl (fun _ => 0))), (q2, .inl (E.2.1, 8193, .inl (fun _ => 0)))] := hD
  refine W.widen (k := 3) (n := 24578) (by decide) (by decide) ?_
  refine va_putF (D := D) (ci := 3) (v := .ref q2) (ty := .array .int) (C := K_M) (T := F_M) (N := 24) hx hb hG in_M t_M t_M_ok n_M hown hK.1 hP hD hS 0 rfl rfl 6 (by decide) (hG _ wd_654) (fun _ h9 => h9) rfl hin rfl (by decide +kernel) rfl rfl (Nat.le_of_ble_eq_true rfl) d_M_init_28 (fun H locs hP hD hS => ?_)
  have hP : va_P D vwC [(h0, .inr (3, [.int 0, .int 0, .ref q0, .int 0, .int 0, .ref q1, .ref q2, .null, .null, .int 0, .null, .null, .null, .int 0, .int 0, .long 0, .long 0, .long 0, .long 0, .int 0, .int 0, .null, .null, .null])), (q0, .inl (E.2.1, 8192, .inl (fun _ => 0))), (q1, .inl (E.2.1, 8193, .inl (fun _ => 0))), (q2, .inl (E.2.1, 8193, .inl (fun _ => 0)))] H := hP
  have hD : va_D A [(h0, .inr (3, [.int 0, .int 0, .ref q0, .int 0, .int 0, .ref q1, .ref q2, .null, .null, .int 0, .null, .null, .null, .int 0, .int 0, .long 0, .long 0, .long 0, .long 0, .int 0, .int 0, .null, .null, .null])), (q0, .inl (E.2.1, 8192, .inl (fun _ => 0))), (q1, .inl (E.2.1, 8193, .inl (fun _ => 0))), (q2, .inl (E.2.1, 8193, .inl (fun _ => 0)))] := hD
  refine lv_aload_n hx hb d_M_init_31 rfl (lv_at hl 0 rfl) ?_
  refine lv_sipush (v := 2049) hx hb d_M_init_32 (by decide) ?_
  refine va_newa (atype := .int) (a0 := (2049, .inl (fun _ => 0))) (ty := .int) hx hb (hG _ wd_721) rfl hK.1 hP hD hS hA (fun _ => rfl) (by decide) (by decide) (by decide) (Nat.le_of_ble_eq_true rfl) (Nat.le_of_ble_eq_true rfl) d_M_init_35 (fun q3 cA H hK2 hP hD hS => ?_)
  obtain rfl : E.2.1 = cA := ty_eq hK2 1 4 rfl rfl
  have hP : va_P D vwC [(h0, .inr (3, [.int 0, .int 0, .ref q0, .int 0, .int 0, .ref q1, .ref q2, .null, .null, .int 0, .null, .null, .null, .int 0, .int 0, .long 0, .long 0, .long 0, .long 0, .int 0, .int 0, .null, .null, .null])), (q0, .inl (E.2.1, 8192, .inl (fun _ => 0))), (q1, .inl (E.2.1, 8193, .inl (fun _ => 0))), (q2, .inl (E.2.1, 8193, .inl (fun _ => 0))), (q3, .inl (E.2.1, 2049, .inl (fun _ => 0)))] H := hP
  have hD : va_D A [(h0, .inr (3, [.int 0, .int 0, .ref q0, .int 0, .int 0, .ref q1, .ref q2, .null, .null, .int 0, .null, .null, .null, .int 0, .int 0, .long 0, .long 0, .long 0, .long 0, .int 0, .int 0, .null, .null, .null])), (q0, .inl (E.2.1, 8192, .inl (fun _ => 0))), (q1, .inl (E.2.1, 8193, .inl (fun _ => 0))), (q2, .inl (E.2.1, 8193, .inl (fun _ => 0))), (q3, .inl (E.2.1, 2049, .inl (fun _ => 0)))] := hD
  refine W.widen (k := 4) (n := 26627) (by decide) (by decide) ?_
  refine va_putF (D := D) (ci := 3) (v := .ref q3) (ty := .array .int) (C := K_M) (T := F_M) (N := 24) hx hb hG in_M t_M t_M_ok n_M hown hK.1 hP hD hS 0 rfl rfl 7 (by decide) (hG _ wd_655) (fun _ h9 => h9) rfl hin rfl (by decide +kernel) rfl rfl (Nat.le_of_ble_eq_true rfl) d_M_init_37 (fun H locs hP hD hS => ?_)
  have hP : va_P D vwC [(h0, .inr (3, [.int 0, .int 0, .ref q0, .int 0, .int 0, .ref q1, .ref q2, .ref q3, .null, .int 0, .null, .null, .null, .int 0, .int 0, .long 0, .long 0, .long 0, .long 0, .int 0, .int 0, .null, .null, .null])), (q0, .inl (E.2.1, 8192, .inl (fun _ => 0))), (q1, .inl (E.2.1, 8193, .inl (fun _ => 0))), (q2, .inl (E.2.1, 8193, .inl (fun _ => 0))), (q3, .inl (E.2.1, 2049, .inl (fun _ => 0)))] H := hP
  have hD : va_D A [(h0, .inr (3, [.int 0, .int 0, .ref q0, .int 0, .int 0, .ref q1, .ref q2, .ref q3, .null, .int 0, .null, .null, .null, .int 0, .int 0, .long 0, .long 0, .long 0, .long 0, .int 0, .int 0, .null, .null, .null])), (q0, .inl (E.2.1, 8192, .inl (fun _ => 0))), (q1, .inl (E.2.1, 8193, .inl (fun _ => 0))), (q2, .inl (E.2.1, 8193, .inl (fun _ => 0))), (q3, .inl (E.2.1, 2049, .inl (fun _ => 0)))] := hD
  refine lv_aload_n hx hb d_M_init_40 rfl (lv_at hl 0 rfl) ?_
  refine lv_ldc hx hb hown (hG _ wd_647) d_M_init_41 ?_
  refine va_newa (atype := .int) (a0 := (65536, .inl (fun _ => 0))) (ty := .int) hx hb (hG _ wd_721) rfl hK.1 hP hD hS hA (fun _ => rfl) (by decide) (by decide) (by decide) (Nat.le_of_ble_eq_true rfl) (Nat.le_of_ble_eq_true rfl) d_M_init_43 (fun q4 cA H hK2 hP hD hS => ?_)
  obtain rfl : E.2.1 = cA := ty_eq hK2 1 4 rfl rfl
  have hP : va_P D vwC [(h0, .inr (3, [.int 0, .int 0, .ref q0, .int 0, .int 0, .ref q1, .ref q2, .ref q3, .null, .int 0, .null, .null, .null, .int 0, .int 0, .long 0, .long 0, .long 0, .long 0, .int 0, .int 0, .null, .null, .null])), (q0, .inl (E.2.1, 8192, .inl (fun _ => 0))), (q1, .inl (E.2.1, 8193, .inl (fun _ => 0))), (q2, .inl (E.2.1, 8193, .inl (fun _ => 0))), (q3, .inl (E.2.1, 2049, .inl (fun _ => 0))), (q4, .inl (E.2.1, 65536, .inl (fun _ => 0)))] H := hP
  have hD : va_D A [(h0, .inr (3, [.int 0, .int 0, .ref q0, .int 0, .int 0, .ref q1, .ref q2, .ref q3, .null, .int 0, .null, .null, .null, .int 0, .int 0, .long 0, .long 0, .long 0, .long 0, .int 0, .int 0, .null, .null, .null])), (q0, .inl (E.2.1, 8192, .inl (fun _ => 0))), (q1, .inl (E.2.1, 8193, .inl (fun _ => 0))), (q2, .inl (E.2.1, 8193, .inl (fun _ => 0))), (q3, .inl (E.2.1, 2049, .inl (fun _ => 0))), (q4, .inl (E.2.1, 65536, .inl (fun _ => 0)))] := hD
  refine W.widen (k := 5) (n := 92163) (by decide) (by decide) ?_
  refine va_putF (D := D) (ci := 3) (v := .ref q4) (ty := .array .int) (C := K_M) (T := F_M) (N := 24) hx hb hG in_M t_M t_M_ok n_M hown hK.1 hP hD hS 0 rfl rfl 8 (by decide) (hG _ wd_656) (fun _ h9 => h9) rfl hin rfl (by decide +kernel) rfl rfl (Nat.le_of_ble_eq_true rfl) d_M_init_45 (fun H locs hP hD hS => ?_)
  have hP : va_P D vwC [(h0, .inr (3, [.int 0, .int 0, .ref q0, .int 0, .int 0, .ref q1, .ref q2, .ref q3, .ref q4, .int 0, .null, .null, .null, .int 0, .int 0, .long 0, .long 0, .long 0, .long 0, .int 0, .int 0, .null, .null, .null])), (q0, .inl (E.2.1, 8192, .inl (fun _ => 0))), (q1, .inl (E.2.1, 8193, .inl (fun _ => 0))), (q2, .inl (E.2.1, 8193, .inl (fun _ => 0))), (q3, .inl (E.2.1, 2049, .inl (fun _ => 0))), (q4, .inl (E.2.1, 65536, .inl (fun _ => 0)))] H := hP
  have hD : va_D A [(h0, .inr (3, [.int 0, .int 0, .ref q0, .int 0, .int 0, .ref q1, .ref q2, .ref q3, .ref q4, .int 0, .null, .null, .null, .int 0, .int 0, .long 0, .long 0, .long 0, .long 0, .int 0, .int 0, .null, .null, .null])), (q0, .inl (E.2.1, 8192, .inl (fun _ => 0))), (q1, .inl (E.2.1, 8193, .inl (fun _ => 0))), (q2, .inl (E.2.1, 8193, .inl (fun _ => 0))), (q3, .inl (E.2.1, 2049, .inl (fun _ => 0))), (q4, .inl (E.2.1, 65536, .inl (fun _ => 0)))] := hD
  refine lv_aload_n hx hb d_M_init_48 rfl (lv_at hl 0 rfl) ?_
  refine lv_ldc hx hb hown (hG _ wd_647) d_M_init_49 ?_
  refine va_newa (atype := .int) (a0 := (65536, .inl (fun _ => 0))) (ty := .int) hx hb (hG _ wd_721) rfl hK.1 hP hD hS hA (fun _ => rfl) (by decide) (by decide) (by decide) (Nat.le_of_ble_eq_true rfl) (Nat.le_of_ble_eq_true rfl) d_M_init_51 (fun q5 cA H hK2 hP hD hS => ?_)
  obtain rfl : E.2.1 = cA := ty_eq hK2 1 4 rfl rfl
  have hP : va_P D vwC [(h0, .inr (3, [.int 0, .int 0, .ref q0, .int 0, .int 0, .ref q1, .ref q2, .ref q3, .ref q4, .int 0, .null, .null, .null, .int 0, .int 0, .long 0, .long 0, .long 0, .long 0, .int 0, .int 0, .null, .null, .null])), (q0, .inl (E.2.1, 8192, .inl (fun _ => 0))), (q1, .inl (E.2.1, 8193, .inl (fun _ => 0))), (q2, .inl (E.2.1, 8193, .inl (fun _ => 0))), (q3, .inl (E.2.1, 2049, .inl (fun _ => 0))), (q4, .inl (E.2.1, 65536, .inl (fun _ => 0))), (q5, .inl (E.2.1, 65536, .inl (fun _ => 0)))] H := hP
  have hD : va_D A [(h0, .inr (3, [.int 0, .int 0, .ref q0, .int 0, .int 0, .ref q1, .ref q2, .ref q3, .ref q4, .int 0, .null, .null, .null, .int 0, .int 0, .long 0, .long 0, .long 0, .long 0, .int 0, .int 0, .null, .null, .null])), (q0, .inl (E.2.1, 8192, .inl (fun _ => 0))), (q1, .inl (E.2.1, 8193, .inl (fun _ => 0))), (q2, .inl (E.2.1, 8193, .inl (fun _ => 0))), (q3, .inl (E.2.1, 2049, .inl (fun _ => 0))), (q4, .inl (E.2.1, 65536, .inl (fun _ => 0))), (q5, .inl (E.2.1, 65536, .inl (fun _ => 0)))] := hD
  refine W.widen (k := 6) (n := 157699) (by decide) (by decide) ?_
  refine va_putF (D := D) (ci := 3) (v := .ref q5) (ty := .array .int) (C := K_M) (T := F_M) (N := 24) hx hb hG in_M t_M t_M_ok n_M hown hK.1 hP hD hS 0 rfl rfl 10 (by decide) (hG _ wd_658) (fun _ h9 => h9) rfl hin rfl (by decide +kernel) rfl rfl (Nat.le_of_ble_eq_true rfl) d_M_init_53 (fun H locs hP hD hS => ?_)
  have hP : va_P D vwC [(h0, .inr (3, [.int 0, .int 0, .ref q0, .int 0, .int 0, .ref q1, .ref q2, .ref q3, .ref q4, .int 0, .ref q5, .null, .null, .int 0, .int 0, .long 0, .long 0, .long 0, .long 0, .int 0, .int 0, .null, .null, .null])), (q0, .inl (E.2.1, 8192, .inl (fun _ => 0))), (q1, .inl (E.2.1, 8193, .inl (fun _ => 0))), (q2, .inl (E.2.1, 8193, .inl (fun _ => 0))), (q3, .inl (E.2.1, 2049, .inl (fun _ => 0))), (q4, .inl (E.2.1, 65536, .inl (fun _ => 0))), (q5, .inl (E.2.1, 65536, .inl (fun _ => 0)))] H := hP
  have hD : va_D A [(h0, .inr (3, [.int 0, .int 0, .ref q0, .int 0, .int 0, .ref q1, .ref q2, .ref q3, .ref q4, .int 0, .ref q5, .null, .null, .int 0, .int 0, .long 0, .long 0, .long 0, .long 0, .int 0, .int 0, .null, .null, .null])), (q0, .inl (E.2.1, 8192, .inl (fun _ => 0))), (q1, .inl (E.2.1, 8193, .inl (fun _ => 0))), (q2, .inl (E.2.1, 8193, .inl (fun _ => 0))), (q3, .inl (E.2.1, 2049, .inl (fun _ => 0))), (q4, .inl (E.2.1, 65536, .inl (fun _ => 0))), (q5, .inl (E.2.1, 65536, .inl (fun _ => 0)))] := hD
  refine lv_aload_n hx hb d_M_init_56 rfl (lv_at hl 0 rfl) ?_
  refine lv_ldc hx hb hown (hG _ wd_647) d_M_init_57 ?_
  refine va_newa (atype := .int) (a0 := (65536, .inl (fun _ => 0))) (ty := .int) hx hb (hG _ wd_721) rfl hK.1 hP hD hS hA (fun _ => rfl) (by decide) (by decide) (by decide) (Nat.le_of_ble_eq_true rfl) (Nat.le_of_ble_eq_true rfl) d_M_init_59 (fun q6 cA H hK2 hP hD hS => ?_)
  obtain rfl : E.2.1 = cA := ty_eq hK2 1 4 rfl rfl
  have hP : va_P D vwC [(h0, .inr (3, [.int 0, .int 0, .ref q0, .int 0, .int 0, .ref q1, .ref q2, .ref q3, .ref q4, .int 0, .ref q5, .null, .null, .int 0, .int 0, .long 0, .long 0, .long 0, .long 0, .int 0, .int 0, .null, .null, .null])), (q0, .inl (E.2.1, 8192, .inl (fun _ => 0))), (q1, .inl (E.2.1, 8193, .inl (fun _ => 0))), (q2, .inl (E.2.1, 8193, .inl (fun _ => 0))), (q3, .inl (E.2.1, 2049, .inl (fun _ => 0))), (q4, .inl (E.2.1, 65536, .inl (fun _ => 0))), (q5, .inl (E.2.1, 65536, .inl (fun _ => 0))), (q6, .inl (E.2.1, 65536, .inl (fun _ => 0)))] H := hP
  have hD : va_D A [(h0, .inr (3, [.int 0, .int 0, .ref q0, .int 0, .int 0, .ref q1, .ref q2, .ref q3, .ref q4, .int 0, .ref q5, .null, .null, .int 0, .int 0, .long 0, .long 0, .long 0, .long 0, .int 0, .int 0, .null, .null, .null])), (q0, .inl (E.2.1, 8192, .inl (fun _ => 0))), (q1, .inl (E.2.1, 8193, .inl (fun _ => 0))), (q2, .inl (E.2.1, 8193, .inl (fun _ => 0))), (q3, .inl (E.2.1, 2049, .inl (fun _ => 0))), (q4, .inl (E.2.1, 65536, .inl (fun _ => 0))), (q5, .inl (E.2.1, 65536, .inl (fun _ => 0))), (q6, .inl (E.2.1, 65536, .inl (fun _ => 0)))] := hD
  refine W.widen (k := 7) (n := 223235) (by decide) (by decide) ?_
  refine va_putF (D := D) (ci := 3) (v := .ref q6) (ty := .array .int) (C := K_M) (T := F_M) (N := 24) hx hb hG in_M t_M t_M_ok n_M hown hK.1 hP hD hS 0 rfl rfl 11 (by decide) (hG _ wd_659) (fun _ h9 => h9) rfl hin rfl (by decide +kernel) rfl rfl (Nat.le_of_ble_eq_true rfl) d_M_init_61 (fun H locs hP hD hS => ?_)
  have hP : va_P D vwC [(h0, .inr (3, [.int 0, .int 0, .ref q0, .int 0, .int 0, .ref q1, .ref q2, .ref q3, .ref q4, .int 0, .ref q5, .ref q6, .null, .int 0, .int 0, .long 0, .long 0, .long 0, .long 0, .int 0, .int 0, .null, .null, .null])), (q0, .inl (E.2.1, 8192, .inl (fun _ => 0))), (q1, .inl (E.2.1, 8193, .inl (fun _ => 0))), (q2, .inl (E.2.1, 8193, .inl (fun _ => 0))), (q3, .inl (E.2.1, 2049, .inl (fun _ => 0))), (q4, .inl (E.2.1, 65536, .inl (fun _ => 0))), (q5, .inl (E.2.1, 65536, .inl (fun _ => 0))), (q6, .inl (E.2.1, 65536, .inl (fun _ => 0)))] H := hP
  have hD : va_D A [(h0, .inr (3, [.int 0, .int 0, .ref q0, .int 0, .int 0, .ref q1, .ref q2, .ref q3, .ref q4, .int 0, .ref q5, .ref q6, .null, .int 0, .int 0, .long 0, .long 0, .long 0, .long 0, .int 0, .int 0, .null, .null, .null])), (q0, .inl (E.2.1, 8192, .inl (fun _ => 0))), (q1, .inl (E.2.1, 8193, .inl (fun _ => 0))), (q2, .inl (E.2.1, 8193, .inl (fun _ => 0))), (q3, .inl (E.2.1, 2049, .inl (fun _ => 0))), (q4, .inl (E.2.1, 65536, .inl (fun _ => 0))), (q5, .inl (E.2.1, 65536, .inl (fun _ => 0))), (q6, .inl (E.2.1, 65536, .inl (fun _ => 0)))] := hD
  refine lv_aload_n hx hb d_M_init_64 rfl (lv_at hl 0 rfl) ?_
  refine lv_ldc hx hb hown (hG _ wd_647) d_M_init_65 ?_
  refine va_newa (atype := .int) (a0 := (65536, .inl (fun _ => 0))) (ty := .int) hx hb (hG _ wd_721) rfl hK.1 hP hD hS hA (fun _ => rfl) (by decide) (by decide) (by decide) (Nat.le_of_ble_eq_true rfl) (Nat.le_of_ble_eq_true rfl) d_M_init_67 (fun q7 cA H hK2 hP hD hS => ?_)
  obtain rfl : E.2.1 = cA := ty_eq hK2 1 4 rfl rfl
  have hP : va_P D vwC [(h0, .inr (3, [.int 0, .int 0, .ref q0, .int 0, .int 0, .ref q1, .ref q2, .ref q3, .ref q4, .int 0, .ref q5, .ref q6, .null, .int 0, .int 0, .long 0, .long 0, .long 0, .long 0, .int 0, .int 0, .null, .null, .null])), (q0, .inl (E.2.1, 8192, .inl (fun _ => 0))), (q1, .inl (E.2.1, 8193, .inl (fun _ => 0))), (q2, .inl (E.2.1, 8193, .inl (fun _ => 0))), (q3, .inl (E.2.1, 2049, .inl (fun _ => 0))), (q4, .inl (E.2.1, 65536, .inl (fun _ => 0))), (q5, .inl (E.2.1, 65536, .inl (fun _ => 0))), (q6, .inl (E.2.1, 65536, .inl (fun _ => 0))), (q7, .inl (E.2.1, 65536, .inl (fun _ => 0)))] H := hP
  have hD : va_D A [(h0, .inr (3, [.int 0, .int 0, .ref q0, .int 0, .int 0, .ref q1, .ref q2, .ref q3, .ref q4, .int 0, .ref q5, .ref q6, .null, .int 0, .int 0, .long 0, .long 0, .long 0, .long 0, .int 0, .int 0, .null, .null, .null])), (q0, .inl (E.2.1, 8192, .inl (fun _ => 0))), (q1, .inl (E.2.1, 8193, .inl (fun _ => 0))), (q2, .inl (E.2.1, 8193, .inl (fun _ => 0))), (q3, .inl (E.2.1, 2049, .inl (fun _ => 0))), (q4, .inl (E.2.1, 65536, .inl (fun _ => 0))), (q5, .inl (E.2.1, 65536, .inl (fun _ => 0))), (q6, .inl (E.2.1, 65536, .inl (fun _ => 0))), (q7, .inl (E.2.1, 65536, .inl (fun _ => 0)))] := hD
  refine W.widen (k := 8) (n := 288771) (by decide) (by decide) ?_
  refine va_putF (D := D) (ci := 3) (v := .ref q7) (ty := .array .int) (C := K_M) (T := F_M) (N := 24) hx hb hG in_M t_M t_M_ok n_M hown hK.1 hP hD hS 0 rfl rfl 12 (by decide) (hG _ wd_660) (fun _ h9 => h9) rfl hin rfl (by decide +kernel) rfl rfl (Nat.le_of_ble_eq_true rfl) d_M_init_69 (fun H locs hP hD hS => ?_)
  have hP : va_P D vwC [(h0, .inr (3, [.int 0, .int 0, .ref q0, .int 0, .int 0, .ref q1, .ref q2, .ref q3, .ref q4, .int 0, .ref q5, .ref q6, .ref q7, .int 0, .int 0, .long 0, .long 0, .long 0, .long 0, .int 0, .int 0, .null, .null, .null])), (q0, .inl (E.2.1, 8192, .inl (fun _ => 0))), (q1, .inl (E.2.1, 8193, .inl (fun _ => 0))), (q2, .inl (E.2.1, 8193, .inl (fun _ => 0))), (q3, .inl (E.2.1, 2049, .inl (fun _ => 0))), (q4, .inl (E.2.1, 65536, .inl (fun _ => 0))), (q5, .inl (E.2.1, 65536, .inl (fun _ => 0))), (q6, .inl (E.2.1, 65536, .inl (fun _ => 0))), (q7, .inl (E.2.1, 65536, .inl (fun _ => 0)))] H := hP
  have hD : va_D A [(h0, .inr (3, [.int 0, .int 0, .ref q0, .int 0, .int 0, .ref q1, .ref q2, .ref q3, .ref q4, .int 0, .ref q5, .ref q6, .ref q7, .int 0, .int 0, .long 0, .long 0, .long 0, .long 0, .int 0, .int 0, .null, .null, .null])), (q0, .inl (E.2.1, 8192, .inl (fun _ => 0))), (q1, .inl (E.2.1, 8193, .inl (fun _ => 0))), (q2, .inl (E.2.1, 8193, .inl (fun _ => 0))), (q3, .inl (E.2.1, 2049, .inl (fun _ => 0))), (q4, .inl (E.2.1, 65536, .inl (fun _ => 0))), (q5, .inl (E.2.1, 65536, .inl (fun _ => 0))), (q6, .inl (E.2.1, 65536, .inl (fun _ => 0))), (q7, .inl (E.2.1, 65536, .inl (fun _ => 0)))] := hD
  refine lv_aload_n hx hb d_M_init_72 rfl (lv_at hl 0 rfl) ?_
  refine lv_sipush (v := 8192) hx hb d_M_init_73 (by decide) ?_
  refine va_newa (atype := .long) (a0 := (8192, .inr (.inl (fun _ => 0)))) (ty := .long) hx hb (hG _ wd_107) rfl hK.1 hP hD hS hA (fun _ => rfl) (by decide) (by decide) (by decide) (Nat.le_of_ble_eq_true rfl) (Nat.le_of_ble_eq_true rfl) d_M_init_76 (fun q8 cA H hK2 hP hD hS => ?_)
  obtain rfl : E.1 = cA := ty_eq hK2 0 4 rfl rfl
  have hP : va_P D vwC [(h0, .inr (3, [.int 0, .int 0, .ref q0, .int 0, .int 0, .ref q1, .ref q2, .ref q3, .ref q4, .int 0, .ref q5, .ref q6, .ref q7, .int 0, .int 0, .long 0, .long 0, .long 0, .long 0, .int 0, .int 0, .null, .null, .null])), (q0, .inl (E.2.1, 8192, .inl (fun _ => 0))), (q1, .inl (E.2.1, 8193, .inl (fun _ => 0))), (q2, .inl (E.2.1, 8193, .inl (fun _ => 0))), (q3, .inl (E.2.1, 2049, .inl (fun _ => 0))), (q4, .inl (E.2.1, 65536, .inl (fun _ => 0))), (q5, .inl (E.2.1, 65536, .inl (fun _ => 0))), (q6, .inl (E.2.1, 65536, .inl (fun _ => 0))), (q7, .inl (E.2.1, 65536, .inl (fun _ => 0))), (q8, .inl (E.1, 8192, .inr (.inl (fun _ => 0))))] H := hP
  have hD : va_D A [(h0, .inr (3, [.int 0, .int 0, .ref q0, .int 0, .int 0, .ref q1, .ref q2, .ref q3, .ref q4, .int 0, .ref q5, .ref q6, .ref q7, .int 0, .int 0, .long 0, .long 0, .long 0, .long 0, .int 0, .int 0, .null, .null, .null])), (q0, .inl (E.2.1, 8192, .inl (fun _ => 0))), (q1, .inl (E.2.1, 8193, .inl (fun _ => 0))), (q2, .inl (E.2.1, 8193, .inl (fun _ => 0))), (q3, .inl (E.2.1, 2049, .inl (fun _ => 0))), (q4, .inl (E.2.1, 65536, .inl (fun _ => 0))), (q5, .inl (E.2.1, 65536, .inl (fun _ => 0))), (q6, .inl (E.2.1, 65536, .inl (fun _ => 0))), (q7, .inl (E.2.1, 65536, .inl (fun _ => 0))), (q8, .inl (E.1, 8192, .inr (.inl (fun _ => 0))))] := hD
  refine W.widen (k := 9) (n := 296963) (by decide) (by decide) ?_
  refine va_putF (D := D) (ci := 3) (v := .ref q8) (ty := .array .long) (C := K_M) (T := F_M) (N := 24) hx hb hG in_M t_M t_M_ok n_M hown hK.1 hP hD hS 0 rfl rfl 21 (by decide) (hG _ wd_669) (fun _ h9 => h9) rfl hin rfl (by decide +kernel) rfl rfl (Nat.le_of_ble_eq_true rfl) d_M_init_78 (fun H locs hP hD hS => ?_)
  have hP : va_P D vwC [(h0, .inr (3, [.int 0, .int 0, .ref q0, .int 0, .int 0, .ref q1, .ref q2, .ref q3, .ref q4, .int 0, .ref q5, .ref q6, .ref q7, .int 0, .int 0, .long 0, .long 0, .long 0, .long 0, .int 0, .int 0, .ref q8, .null, .null])), (q0, .inl (E.2.1, 8192, .inl (fun _ => 0))), (q1, .inl (E.2.1, 8193, .inl (fun _ => 0))), (q2, .inl (E.2.1, 8193, .inl (fun _ => 0))), (q3, .inl (E.2.1, 2049, .inl (fun _ => 0))), (q4, .inl (E.2.1, 65536, .inl (fun _ => 0))), (q5, .inl (E.2.1, 65536, .inl (fun _ => 0))), (q6, .inl (E.2.1, 65536, .inl (fun _ => 0))), (q7, .inl (E.2.1, 65536, .inl (fun _ => 0))), (q8, .inl (E.1, 8192, .inr (.inl (fun _ => 0))))] H := hP
  have hD : va_D A [(h0, .inr (3, [.int 0, .int 0, .ref q0, .int 0, .int 0, .ref q1, .ref q2, .ref q3, .ref q4, .int 0, .ref q5, .ref q6, .ref q7, .int 0, .int 0, .long 0, .long 0, .long 0, .long 0, .int 0, .int 0, .ref q8, .null, .null])), (q0, .inl (E.2.1, 8192, .inl (fun _ => 0))), (q1, .inl (E.2.1, 8193, .inl (fun _ => 0))), (q2, .inl (E.2.1, 8193, .inl (fun _ => 0))), (q3, .inl (E.2.1, 2049, .inl (fun _ => 0))), (q4, .inl (E.2.1, 65536, .inl (fun _ => 0))), (q5, .inl (E.2.1, 65536, .inl (fun _ => 0))), (q6, .inl (E.2.1, 65536, .inl (fun _ => 0))), (q7, .inl (E.2.1, 65536, .inl (fun _ => 0))), (q8, .inl (E.1, 8192, .inr (.inl (fun _ => 0))))] := hD
  refine lv_aload_n hx hb d_M_init_81 rfl (lv_at hl 0 rfl) ?_
  refine lv_sipush (v := 8192) hx hb d_M_init_82 (by decide) ?_
  refine va_newa (atype := .long) (a0 := (8192, .inr (.inl (fun _ => 0)))) (ty := .long) hx hb (hG _ wd_107) rfl hK.1 hP hD hS hA (fun _ => rfl) (by decide) (by decide) (by decide) (Nat.le_of_ble_eq_true rfl) (Nat.le_of_ble_eq_true rfl) d_M_init_85 (fun q9 cA H hK2 hP hD hS => ?_)
  obtain rfl : E.1 = cA := ty_eq hK2 0 4 rfl rfl
  have hP : va_P D vwC [(h0, .inr (3, [.int 0, .int 0, .ref q0, .int 0, .int 0, .ref q1, .ref q2, .ref q3, .ref q4, .int 0, .ref q5, .ref q6, .ref q7, .int 0, .int 0, .long 0, .long 0, .long 0, .long 0, .int 0, .int 0, .ref q8, .null, .null])), (q0, .inl (E.2.1, 8192, .inl (fun _ => 0))), (q1, .inl (E.2.1, 8193, .inl (fun _ => 0))), (q2, .inl (E.2.1, 8193, .inl (fun _ => 0))), (q3, .inl (E.2.1, 2049, .inl (fun _ => 0))), (q4, .inl (E.2.1, 65536, .inl (fun _ => 0))), (q5, .inl (E.2.1, 65536, .inl (fun _ => 0))), (q6, .inl (E.2.1, 65536, .inl (fun _ => 0))), (q7, .inl (E.2.1, 65536, .inl (fun _ => 0))), (q8, .inl (E.1, 8192, .inr (.inl (fun _ => 0)))), (q9, .inl (E.1, 8192, .inr (.inl (fun _ => 0))))] H := hP
  have hD : va_D A [(h0, .inr (3, [.int 0, .int 0, .ref q0, .int 0, .int 0, .ref q1, .ref q2, .ref q3, .ref q4, .int 0, .ref q5, .ref q6, .ref q7, .int 0, .int 0, .long 0, .long 0, .long 0, .long 0, .int 0, .int 0, .ref q8, .null, .null])), (q0, .inl (E.2.1, 8192, .inl (fun _ => 0))), (q1, .inl (E.2.1, 8193, .inl (fun _ => 0))), (q2, .inl (E.2.1, 8193, .inl (fun _ => 0))), (q3, .inl (E.2.1, 2049, .inl (fun _ => 0))), (q4, .inl (E.2.1, 65536, .inl (fun _ => 0))), (q5, .inl (E.2.1, 65536, .inl (fun _ => 0))), (q6, .inl (E.2.1, 65536, .inl (fun _ => 0))), (q7, .inl (E.2.1, 65536, .inl (fun _ => 0))), (q8, .inl (E.1, 8192, .inr (.inl (fun _ => 0)))), (q9, .inl (E.1, 8192, .inr (.inl (fun _ => 0))))] := hD
  refine W.widen (k := 10) (n := 305155) (by decide) (by decide) ?_
  refine va_putF (D := D) (ci := 3) (v := .ref q9) (ty := .array .long) (C := K_M) (T := F_M) (N := 24) hx hb hG in_M t_M t_M_ok n_M hown hK.1 hP hD hS 0 rfl rfl 22 (by decide) (hG _ wd_670) (fun _ h9 => h9) rfl hin rfl (by decide +kernel) rfl rfl (Nat.le_of_ble_eq_true rfl) d_M_init_87 (fun H locs hP hD hS => ?_)
  have hP : va_P D vwC [(h0, .inr (3, [.int 0, .int 0, .ref q0, .int 0, .int 0, .ref q1, .ref q2, .ref q3, .ref q4, .int 0, .ref q5, .ref q6, .ref q7, .int 0, .int 0, .long 0, .long 0, .long 0, .long 0, .int 0, .int 0, .ref q8, .ref q9, .null])), (q0, .inl (E.2.1, 8192, .inl (fun _ => 0))), (q1, .inl (E.2.1, 8193, .inl (fun _ => 0))), (q2, .inl (E.2.1, 8193, .inl (fun _ => 0))), (q3, .inl (E.2.1, 2049, .inl (fun _ => 0))), (q4, .inl (E.2.1, 65536, .inl (fun _ => 0))), (q5, .inl (E.2.1, 65536, .inl (fun _ => 0))), (q6, .inl (E.2.1, 65536, .inl (fun _ => 0))), (q7, .inl (E.2.1, 65536, .inl (fun _ => 0))), (q8, .inl (E.1, 8192, .inr (.inl (fun _ => 0)))), (q9, .inl (E.1, 8192, .inr (.inl (fun _ => 0))))] H := hP
  have hD : va_D A [(h0, .inr (3, [.int 0, .int 0, .ref q0, .int 0, .int 0, .ref q1, .ref q2, .ref q3, .ref q4, .int 0, .ref q5, .ref q6, .ref q7, .int 0, .int 0, .long 0, .long 0, .long 0, .long 0, .int 0, .int 0, .ref q8, .ref q9, .null])), (q0, .inl (E.2.1, 8192, .inl (fun _ => 0))), (q1, .inl (E.2.1, 8193, .inl (fun _ => 0))), (q2, .inl (E.2.1, 8193, .inl (fun _ => 0))), (q3, .inl (E.2.1, 2049, .inl (fun _ => 0))), (q4, .inl (E.2.1, 65536, .inl (fun _ => 0))), (q5, .inl (E.2.1, 65536, .inl (fun _ => 0))), (q6, .inl (E.2.1, 65536, .inl (fun _ => 0))), (q7, .inl (E.2.1, 65536, .inl (fun _ => 0))), (q8, .inl (E.1, 8192, .inr (.inl (fun _ => 0)))), (q9, .inl (E.1, 8192, .inr (.inl (fun _ => 0))))] := hD
  refine lv_aload_n hx hb d_M_init_90 rfl (lv_at hl 0 rfl) ?_
  refine lv_sipush (v := 8192) hx hb d_M_init_91 (by decide) ?_
  refine va_newa (atype := .boolean) (a0 := (8192, .inl (fun _ => 0))) (ty := .boolean) hx hb (hG _ wd_722) rfl hK.1 hP hD hS hA (fun _ => rfl) (by decide) (by decide) (by decide) (Nat.le_of_ble_eq_true rfl) (Nat.le_of_ble_eq_true rfl) d_M_init_94 (fun q10 cA H hK2 hP hD hS => ?_)
  obtain rfl : E.2.2.1 = cA := ty_eq hK2 2 4 rfl rfl
  have hP : va_P D vwC [(h0, .inr (3, [.int 0, .int 0, .ref q0, .int 0, .int 0, .ref q1, .ref q2, .ref q3, .ref q4, .int 0, .ref q5, .ref q6, .ref q7, .int 0, .int 0, .long 0, .long 0, .long 0, .long 0, .int 0, .int 0, .ref q8, .ref q9, .null])), (q0, .inl (E.2.1, 8192, .inl (fun _ => 0))), (q1, .inl (E.2.1, 8193, .inl (fun _ => 0))), (q2, .inl (E.2.1, 8193, .inl (fun _ => 0))), (q3, .inl (E.2.1, 2049, .inl (fun _ => 0))), (q4, .inl (E.2.1, 65536, .inl (fun _ => 0))), (q5, .inl (E.2.1, 65536, .inl (fun _ => 0))), (q6, .inl (E.2.1, 65536, .inl (fun _ => 0))), (q7, .inl (E.2.1, 65536, .inl (fun _ => 0))), (q8, .inl (E.1, 8192, .inr (.inl (fun _ => 0)))), (q9, .inl (E.1, 8192, .inr (.inl (fun _ => 0)))), (q10, .inl (E.2.2.1, 8192, .inl (fun _ => 0)))] H := hP
  have hD : va_D A [(h0, .inr (3, [.int 0, .int 0, .ref q0, .int 0, .int 0, .ref q1, .ref q2, .ref q3, .ref q4, .int 0, .ref q5, .ref q6, .ref q7, .int 0, .int 0, .long 0, .long 0, .long 0, .long 0, .int 0, .int 0, .ref q8, .ref q9, .null])), (q0, .inl (E.2.1, 8192, .inl (fun _ => 0))), (q1, .inl (E.2.1, 8193, .inl (fun _ => 0))), (q2, .inl (E.2.1, 8193, .inl (fun _ => 0))), (q3, .inl (E.2.1, 2049, .inl (fun _ => 0))), (q4, .inl (E.2.1, 65536, .inl (fun _ => 0))), (q5, .inl (E.2.1, 65536, .inl (fun _ => 0))), (q6, .inl (E.2.1, 65536, .inl (fun _ => 0))), (q7, .inl (E.2.1, 65536, .inl (fun _ => 0))), (q8, .inl (E.1, 8192, .inr (.inl (fun _ => 0)))), (q9, .inl (E.1, 8192, .inr (.inl (fun _ => 0)))), (q10, .inl (E.2.2.1, 8192, .inl (fun _ => 0)))] := hD
  refine W.widen (k := 11) (n := 313347) (by decide) (by decide) ?_
  refine va_putF (D := D) (ci := 3) (v := .ref q10) (ty := .array .boolean) (C := K_M) (T := F_M) (N := 24) hx hb hG in_M t_M t_M_ok n_M hown hK.1 hP hD hS 0 rfl rfl 23 (by decide) (hG _ wd_671) (fun _ h9 => h9) rfl hin rfl (by decide +kernel) rfl rfl (Nat.le_of_ble_eq_true rfl) d_M_init_96 (fun H locs hP hD hS => ?_)
  have hP : va_P D vwC [(h0, .inr (3, [.int 0, .int 0, .ref q0, .int 0, .int 0, .ref q1, .ref q2, .ref q3, .ref q4, .int 0, .ref q5, .ref q6, .ref q7, .int 0, .int 0, .long 0, .long 0, .long 0, .long 0, .int 0, .int 0, .ref q8, .ref q9, .ref q10])), (q0, .inl (E.2.1, 8192, .inl (fun _ => 0))), (q1, .inl (E.2.1, 8193, .inl (fun _ => 0))), (q2, .inl (E.2.1, 8193, .inl (fun _ => 0))), (q3, .inl (E.2.1, 2049, .inl (fun _ => 0))), (q4, .inl (E.2.1, 65536, .inl (fun _ => 0))), (q5, .inl (E.2.1, 65536, .inl (fun _ => 0))), (q6, .inl (E.2.1, 65536, .inl (fun _ => 0))), (q7, .inl (E.2.1, 65536, .inl (fun _ => 0))), (q8, .inl (E.1, 8192, .inr (.inl (fun _ => 0)))), (q9, .inl (E.1, 8192, .inr (.inl (fun _ => 0)))), (q10, .inl (E.2.2.1, 8192, .inl (fun _ => 0)))] H := hP
  have hD : va_D A [(h0, .inr (3, [.int 0, .int 0, .ref q0, .int 0, .int 0, .ref q1, .ref q2, .ref q3, .ref q4, .int 0, .ref q5, .ref q6, .ref q7, .int 0, .int 0, .long 0, .long 0, .long 0, .long 0, .int 0, .int 0, .ref q8, .ref q9, .ref q10])), (q0, .inl (E.2.1, 8192, .inl (fun _ => 0))), (q1, .inl (E.2.1, 8193, .inl (fun _ => 0))), (q2, .inl (E.2.1, 8193, .inl (fun _ => 0))), (q3, .inl (E.2.1, 2049, .inl (fun _ => 0))), (q4, .inl (E.2.1, 65536, .inl (fun _ => 0))), (q5, .inl (E.2.1, 65536, .inl (fun _ => 0))), (q6, .inl (E.2.1, 65536, .inl (fun _ => 0))), (q7, .inl (E.2.1, 65536, .inl (fun _ => 0))), (q8, .inl (E.1, 8192, .inr (.inl (fun _ => 0)))), (q9, .inl (E.1, 8192, .inr (.inl (fun _ => 0)))), (q10, .inl (E.2.2.1, 8192, .inl (fun _ => 0)))] := hD
  have hP : va_P D vwC [(h0, .inr (3, mF (ad11 q0 q1 q2 q3 q4 q5 q6 q7 q8 q9 q10) 0 0 0 0 0 0 0 0 0 0 0 0 0)), ((ad11 q0 q1 q2 q3 q4 q5 q6 q7 q8 q9 q10 0), .inl (E.2.1, 8192, .inl (fun _ => 0))), ((ad11 q0 q1 q2 q3 q4 q5 q6 q7 q8 q9 q10 1), .inl (E.2.1, 8193, .inl (fun _ => 0))), ((ad11 q0 q1 q2 q3 q4 q5 q6 q7 q8 q9 q10 2), .inl (E.2.1, 8193, .inl (fun _ => 0))), ((ad11 q0 q1 q2 q3 q4 q5 q6 q7 q8 q9 q10 3), .inl (E.2.1, 2049, .inl (fun _ => 0))), ((ad11 q0 q1 q2 q3 q4 q5 q6 q7 q8 q9 q10 4), .inl (E.2.1, 65536, .inl (fun _ => 0))), ((ad11 q0 q1 q2 q3 q4 q5 q6 q7 q8 q9 q10 5), .inl (E.2.1, 65536, .inl (fun _ => 0))), ((ad11 q0 q1 q2 q3 q4 q5 q6 q7 q8 q9 q10 6), .inl (E.2.1, 65536, .inl (fun _ => 0))), ((ad11 q0 q1 q2 q3 q4 q5 q6 q7 q8 q9 q10 7), .inl (E.2.1, 65536, .inl (fun _ => 0))), ((ad11 q0 q1 q2 q3 q4 q5 q6 q7 q8 q9 q10 8), .inl (E.1, 8192, .inr (.inl (fun _ => 0)))), ((ad11 q0 q1 q2 q3 q4 q5 q6 q7 q8 q9 q10 9), .inl (E.1, 8192, .inr (.inl (fun _ => 0)))), ((ad11 q0 q1 q2 q3 q4 q5 q6 q7 q8 q9 q10 10), .inl (E.2.2.1, 8192, .inl (fun _ => 0)))] H := hP
  have hD : va_D A [(h0, .inr (3, mF (ad11 q0 q1 q2 q3 q4 q5 q6 q7 q8 q9 q10) 0 0 0 0 0 0 0 0 0 0 0 0 0)), ((ad11 q0 q1 q2 q3 q4 q5 q6 q7 q8 q9 q10 0), .inl (E.2.1, 8192, .inl (fun _ => 0))), ((ad11 q0 q1 q2 q3 q4 q5 q6 q7 q8 q9 q10 1), .inl (E.2.1, 8193, .inl (fun _ => 0))), ((ad11 q0 q1 q2 q3 q4 q5 q6 q7 q8 q9 q10 2), .inl (E.2.1, 8193, .inl (fun _ => 0))), ((ad11 q0 q1 q2 q3 q4 q5 q6 q7 q8 q9 q10 3), .inl (E.2.1, 2049, .inl (fun _ => 0))), ((ad11 q0 q1 q2 q3 q4 q5 q6 q7 q8 q9 q10 4), .inl (E.2.1, 65536, .inl (fun _ => 0))), ((ad11 q0 q1 q2 q3 q4 q5 q6 q7 q8 q9 q10 5), .inl (E.2.1, 65536, .inl (fun _ => 0))), ((ad11 q0 q1 q2 q3 q4 q5 q6 q7 q8 q9 q10 6), .inl (E.2.1, 65536, .inl (fun _ => 0))), ((ad11 q0 q1 q2 q3 q4 q5 q6 q7 q8 q9 q10 7), .inl (E.2.1, 65536, .inl (fun _ => 0))), ((ad11 q0 q1 q2 q3 q4 q5 q6 q7 q8 q9 q10 8), .inl (E.1, 8192, .inr (.inl (fun _ => 0)))), ((ad11 q0 q1 q2 q3 q4 q5 q6 q7 q8 q9 q10 9), .inl (E.1, 8192, .inr (.inl (fun _ => 0)))), ((ad11 q0 q1 q2 q3 q4 q5 q6 q7 q8 q9 q10 10), .inl (E.2.2.1, 8192, .inl (fun _ => 0)))] := hD
  exact W.vret hx hb hrt (fun t ht hW => ⟨⟨(ad11 q0 q1 q2 q3 q4 q5 q6 q7 q8 q9 q10), rfl, trivial, ⟨by rw [ht]; exact hP, hD⟩⟩, hS.F ht⟩) hS.2.2 d_M_init_99 hlocks
end
