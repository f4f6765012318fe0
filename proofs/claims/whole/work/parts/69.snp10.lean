theorem d_P_chain_0 : decode c_P_chain 0 = .ok (.aload_n 0, 1) := by decide +kernel
theorem d_P_chain_1 : decode c_P_chain 1 = .ok (.iload_n 1, 1) := by decide +kernel
theorem d_P_chain_2 : decode c_P_chain 2 = .ok (.invokevirtual 93, 3) := by decide +kernel
theorem d_P_chain_5 : decode c_P_chain 5 = .ok (.ifCond .ne 13, 3) := by decide +kernel
theorem d_P_chain_18 : decode c_P_chain 18 = .ok (.aload_n 0, 1) := by decide +kernel
theorem d_P_chain_19 : decode c_P_chain 19 = .ok (.getfield 38, 3) := by decide +kernel
theorem d_P_chain_22 : decode c_P_chain 22 = .ok (.ifCond .ne 13, 3) := by decide +kernel
theorem d_P_chain_35 : decode c_P_chain 35 = .ok (.aload_n 0, 1) := by decide +kernel
theorem d_P_chain_36 : decode c_P_chain 36 = .ok (.iload_n 1, 1) := by decide +kernel
theorem d_P_chain_37 : decode c_P_chain 37 = .ok (.iconst 1, 1) := by decide +kernel
theorem d_P_chain_38 : decode c_P_chain 38 = .ok (.iadd, 1) := by decide +kernel
theorem d_P_chain_39 : decode c_P_chain 39 = .ok (.invokevirtual 141, 3) := by decide +kernel
theorem d_P_chain_42 : decode c_P_chain 42 = .ok (.aload_n 0, 1) := by decide +kernel
theorem d_P_chain_43 : decode c_P_chain 43 = .ok (.iload_n 1, 1) := by decide +kernel
theorem d_P_chain_44 : decode c_P_chain 44 = .ok (.invokevirtual 141, 3) := by decide +kernel
theorem d_P_chain_47 : decode c_P_chain 47 = .ok (.isub, 1) := by decide +kernel
theorem d_P_chain_48 : decode c_P_chain 48 = .ok (.ireturn, 1) := by decide +kernel
theorem d_P_chainAt_0 : decode c_P_chainAt 0 = .ok (.aload_n 0, 1) := by decide +kernel
theorem d_P_chainAt_1 : decode c_P_chainAt 1 = .ok (.iload_n 1, 1) := by decide +kernel
theorem d_P_chainAt_2 : decode c_P_chainAt 2 = .ok (.invokevirtual 93, 3) := by decide +kernel
theorem d_P_chainAt_5 : decode c_P_chainAt 5 = .ok (.ifCond .ne 13, 3) := by decide +kernel
theorem d_P_chainAt_18 : decode c_P_chainAt 18 = .ok (.aload_n 0, 1) := by decide +kernel
theorem d_P_chainAt_19 : decode c_P_chainAt 19 = .ok (.getfield 38, 3) := by decide +kernel
theorem d_P_chainAt_22 : decode c_P_chainAt 22 = .ok (.ifCond .ne 13, 3) := by decide +kernel
theorem d_P_chainAt_35 : decode c_P_chainAt 35 = .ok (.aload_n 0, 1) := by decide +kernel
theorem d_P_chainAt_36 : decode c_P_chainAt 36 = .ok (.iload_n 1, 1) := by decide +kernel
theorem d_P_chainAt_37 : decode c_P_chainAt 37 = .ok (.invokevirtual 141, 3) := by decide +kernel
theorem d_P_chainAt_40 : decode c_P_chainAt 40 = .ok (.istore_n 3, 1) := by decide +kernel
theorem d_P_chainAt_41 : decode c_P_chainAt 41 = .ok (.iload_n 2, 1) := by decide +kernel
theorem d_P_chainAt_42 : decode c_P_chainAt 42 = .ok (.ifCond .lt 16, 3) := by decide +kernel
theorem d_P_chainAt_45 : decode c_P_chainAt 45 = .ok (.iload_n 2, 1) := by decide +kernel
theorem d_P_chainAt_46 : decode c_P_chainAt 46 = .ok (.aload_n 0, 1) := by decide +kernel
theorem d_P_chainAt_47 : decode c_P_chainAt 47 = .ok (.iload_n 1, 1) := by decide +kernel
theorem d_P_chainAt_48 : decode c_P_chainAt 48 = .ok (.iconst 1, 1) := by decide +kernel
theorem d_P_chainAt_49 : decode c_P_chainAt 49 = .ok (.iadd, 1) := by decide +kernel
theorem d_P_chainAt_50 : decode c_P_chainAt 50 = .ok (.invokevirtual 141, 3) := by decide +kernel
theorem d_P_chainAt_53 : decode c_P_chainAt 53 = .ok (.iload_n 3, 1) := by decide +kernel
theorem d_P_chainAt_54 : decode c_P_chainAt 54 = .ok (.isub, 1) := by decide +kernel
theorem d_P_chainAt_55 : decode c_P_chainAt 55 = .ok (.if_icmp .lt 13, 3) := by decide +kernel
theorem d_P_chainAt_68 : decode c_P_chainAt 68 = .ok (.aload_n 0, 1) := by decide +kernel
theorem d_P_chainAt_69 : decode c_P_chainAt 69 = .ok (.getfield 29, 3) := by decide +kernel
theorem d_P_chainAt_72 : decode c_P_chainAt 72 = .ok (.iload_n 3, 1) := by decide +kernel
theorem d_P_chainAt_73 : decode c_P_chainAt 73 = .ok (.iload_n 2, 1) := by decide +kernel
theorem d_P_chainAt_74 : decode c_P_chainAt 74 = .ok (.iadd, 1) := by decide +kernel
theorem d_P_chainAt_75 : decode c_P_chainAt 75 = .ok (.invokevirtual 135, 3) := by decide +kernel
theorem d_P_chainAt_78 : decode c_P_chainAt 78 = .ok (.l2i, 1) := by decide +kernel
theorem d_P_chainAt_79 : decode c_P_chainAt 79 = .ok (.ireturn, 1) := by decide +kernel
theorem d_P_count_0 : decode c_P_count 0 = .ok (.iload_n 1, 1) := by decide +kernel
theorem d_P_count_36 : decode c_P_count 36 = .ok (.aload_n 0, 1) := by decide +kernel
theorem d_P_count_37 : decode c_P_count 37 = .ok (.getfield 12, 3) := by decide +kernel
theorem d_P_count_40 : decode c_P_count 40 = .ok (.invokevirtual 53, 3) := by decide +kernel
theorem d_P_count_43 : decode c_P_count 43 = .ok (.ireturn, 1) := by decide +kernel
theorem d_P_count_44 : decode c_P_count 44 = .ok (.aload_n 0, 1) := by decide +kernel
theorem d_P_count_45 : decode c_P_count 45 = .ok (.getfield 21, 3) := by decide +kernel
theorem d_P_count_48 : decode c_P_count 48 = .ok (.invokevirtual 92, 3) := by decide +kernel
theorem d_P_count_51 : decode c_P_count 51 = .ok (.ireturn, 1) := by decide +kernel
theorem d_P_count_52 : decode c_P_count 52 = .ok (.aload_n 0, 1) := by decide +kernel
theorem d_P_count_53 : decode c_P_count 53 = .ok (.getfield 32, 3) := by decide +kernel
theorem d_P_count_56 : decode c_P_count 56 = .ok (.invokevirtual 92, 3) := by decide +kernel
theorem d_P_count_59 : decode c_P_count 59 = .ok (.ireturn, 1) := by decide +kernel
theorem d_P_count_60 : decode c_P_count 60 = .ok (.aload_n 0, 1) := by decide +kernel
theorem d_P_count_61 : decode c_P_count 61 = .ok (.getfield 29, 3) := by decide +kernel
theorem d_P_count_64 : decode c_P_count 64 = .ok (.invokevirtual 92, 3) := by decide +kernel
theorem d_P_count_67 : decode c_P_count 67 = .ok (.ireturn, 1) := by decide +kernel
theorem d_P_count_68 : decode c_P_count 68 = .ok (.aload_n 0, 1) := by decide +kernel
theorem d_P_count_69 : decode c_P_count 69 = .ok (.getfield 38, 3) := by decide +kernel
theorem d_P_count_72 : decode c_P_count 72 = .ok (.ifCond .eq 7, 3) := by decide +kernel
theorem d_P_count_75 : decode c_P_count 75 = .ok (.iconst 1, 1) := by decide +kernel
theorem d_P_count_76 : decode c_P_count 76 = .ok (.goto 4, 3) := by decide +kernel
theorem d_P_count_79 : decode c_P_count 79 = .ok (.iconst 0, 1) := by decide +kernel
theorem d_P_count_80 : decode c_P_count 80 = .ok (.ireturn, 1) := by decide +kernel
theorem d_P_count_81 : decode c_P_count 81 = .ok (.iconst (-1), 1) := by decide +kernel
theorem d_P_count_82 : decode c_P_count 82 = .ok (.ireturn, 1) := by decide +kernel
theorem d_P_crossing_0 : decode c_P_crossing 0 = .ok (.aload_n 0, 1) := by decide +kernel
theorem d_P_crossing_1 : decode c_P_crossing 1 = .ok (.iload_n 1, 1) := by decide +kernel
theorem d_P_crossing_2 : decode c_P_crossing 2 = .ok (.invokevirtual 93, 3) := by decide +kernel
theorem d_P_crossing_5 : decode c_P_crossing 5 = .ok (.ifCond .eq 18, 3) := by decide +kernel
theorem d_P_crossing_8 : decode c_P_crossing 8 = .ok (.aload_n 0, 1) := by decide +kernel
theorem d_P_crossing_9 : decode c_P_crossing 9 = .ok (.iload_n 2, 1) := by decide +kernel
theorem d_P_crossing_10 : decode c_P_crossing 10 = .ok (.invokevirtual 93, 3) := by decide +kernel
theorem d_P_crossing_13 : decode c_P_crossing 13 = .ok (.ifCond .eq 10, 3) := by decide +kernel
theorem d_P_crossing_16 : decode c_P_crossing 16 = .ok (.iload_n 3, 1) := by decide +kernel
theorem d_P_crossing_17 : decode c_P_crossing 17 = .ok (.invokestatic 111, 3) := by decide +kernel
theorem d_P_crossing_20 : decode c_P_crossing 20 = .ok (.ifCond .ne 13, 3) := by decide +kernel
theorem d_P_crossing_33 : decode c_P_crossing 33 = .ok (.aload_n 0, 1) := by decide +kernel
theorem d_P_crossing_34 : decode c_P_crossing 34 = .ok (.getfield 12, 3) := by decide +kernel
theorem d_P_crossing_37 : decode c_P_crossing 37 = .ok (.iload_n 1, 1) := by decide +kernel
theorem d_P_crossing_38 : decode c_P_crossing 38 = .ok (.invokevirtual 103, 3) := by decide +kernel
theorem d_P_crossing_41 : decode c_P_crossing 41 = .ok (.checkcast 62, 3) := by decide +kernel
theorem d_P_crossing_44 : decode c_P_crossing 44 = .ok (.astore 4, 2) := by decide +kernel
theorem d_P_crossing_46 : decode c_P_crossing 46 = .ok (.aload_n 0, 1) := by decide +kernel
theorem d_P_crossing_47 : decode c_P_crossing 47 = .ok (.getfield 12, 3) := by decide +kernel
theorem d_P_crossing_50 : decode c_P_crossing 50 = .ok (.iload_n 2, 1) := by decide +kernel
theorem d_P_crossing_51 : decode c_P_crossing 51 = .ok (.invokevirtual 103, 3) := by decide +kernel
theorem d_P_crossing_54 : decode c_P_crossing 54 = .ok (.checkcast 62, 3) := by decide +kernel
theorem d_P_crossing_57 : decode c_P_crossing 57 = .ok (.astore 5, 2) := by decide +kernel
theorem d_P_crossing_59 : decode c_P_crossing 59 = .ok (.aload 4, 2) := by decide +kernel
theorem d_P_crossing_61 : decode c_P_crossing 61 = .ok (.aload 5, 2) := by decide +kernel
theorem d_P_crossing_63 : decode c_P_crossing 63 = .ok (.invokevirtual 116, 3) := by decide +kernel
theorem d_P_crossing_66 : decode c_P_crossing 66 = .ok (.ifCond .ne 13, 3) := by decide +kernel
theorem d_P_crossing_79 : decode c_P_crossing 79 = .ok (.aload 4, 2) := by decide +kernel
theorem d_P_crossing_81 : decode c_P_crossing 81 = .ok (.aload 5, 2) := by decide +kernel
theorem d_P_crossing_83 : decode c_P_crossing 83 = .ok (.invokevirtual 122, 3) := by decide +kernel
theorem d_P_crossing_86 : decode c_P_crossing 86 = .ok (.iload_n 3, 1) := by decide +kernel
theorem d_P_crossing_87 : decode c_P_crossing 87 = .ok (.invokestatic 126, 3) := by decide +kernel
theorem d_P_crossing_90 : decode c_P_crossing 90 = .ok (.ireturn, 1) := by decide +kernel
theorem d_P_meets_0 : decode c_P_meets 0 = .ok (.aload_n 0, 1) := by decide +kernel
theorem d_P_meets_1 : decode c_P_meets 1 = .ok (.iload_n 1, 1) := by decide +kernel
theorem d_P_meets_2 : decode c_P_meets 2 = .ok (.invokevirtual 93, 3) := by decide +kernel
theorem d_P_meets_5 : decode c_P_meets 5 = .ok (.ifCond .ne 13, 3) := by decide +kernel
theorem d_P_meets_18 : decode c_P_meets 18 = .ok (.iload_n 2, 1) := by decide +kernel
theorem d_P_meets_19 : decode c_P_meets 19 = .ok (.invokestatic 42, 3) := by decide +kernel
theorem d_P_meets_22 : decode c_P_meets 22 = .ok (.ifCond .eq 10, 3) := by decide +kernel
theorem d_P_meets_25 : decode c_P_meets 25 = .ok (.iload_n 3, 1) := by decide +kernel
theorem d_P_meets_26 : decode c_P_meets 26 = .ok (.invokestatic 42, 3) := by decide +kernel
theorem d_P_meets_29 : decode c_P_meets 29 = .ok (.ifCond .ne 13, 3) := by decide +kernel
theorem d_P_meets_42 : decode c_P_meets 42 = .ok (.aload_n 0, 1) := by decide +kernel
theorem d_P_meets_43 : decode c_P_meets 43 = .ok (.getfield 12, 3) := by decide +kernel
theorem d_P_meets_46 : decode c_P_meets 46 = .ok (.iload_n 1, 1) := by decide +kernel
theorem d_P_meets_47 : decode c_P_meets 47 = .ok (.invokevirtual 103, 3) := by decide +kernel
theorem d_P_meets_50 : decode c_P_meets 50 = .ok (.checkcast 62, 3) := by decide +kernel
theorem d_P_meets_53 : decode c_P_meets 53 = .ok (.iload_n 2, 1) := by decide +kernel
theorem d_P_meets_54 : decode c_P_meets 54 = .ok (.i2l, 1) := by decide +kernel
theorem d_P_meets_55 : decode c_P_meets 55 = .ok (.iload_n 3, 1) := by decide +kernel
theorem d_P_meets_56 : decode c_P_meets 56 = .ok (.i2l, 1) := by decide +kernel
theorem d_P_meets_57 : decode c_P_meets 57 = .ok (.invokevirtual 107, 3) := by decide +kernel
theorem d_P_meets_60 : decode c_P_meets 60 = .ok (.ireturn, 1) := by decide +kernel
theorem d_P_piece_0 : decode c_P_piece 0 = .ok (.aload_n 0, 1) := by decide +kernel
theorem d_P_piece_1 : decode c_P_piece 1 = .ok (.getfield 32, 3) := by decide +kernel
theorem d_P_piece_4 : decode c_P_piece 4 = .ok (.iload_n 1, 1) := by decide +kernel
theorem d_P_piece_5 : decode c_P_piece 5 = .ok (.invokevirtual 130, 3) := by decide +kernel
theorem d_P_piece_8 : decode c_P_piece 8 = .ok (.ifCond .eq 12, 3) := by decide +kernel
theorem d_P_piece_11 : decode c_P_piece 11 = .ok (.iload_n 2, 1) := by decide +kernel
theorem d_P_piece_12 : decode c_P_piece 12 = .ok (.ifCond .lt 8, 3) := by decide +kernel
theorem d_P_piece_15 : decode c_P_piece 15 = .ok (.iload_n 2, 1) := by decide +kernel
theorem d_P_piece_16 : decode c_P_piece 16 = .ok (.iconst 2, 1) := by decide +kernel
theorem d_P_piece_17 : decode c_P_piece 17 = .ok (.if_icmp .le 13, 3) := by decide +kernel
theorem d_P_piece_30 : decode c_P_piece 30 = .ok (.iload_n 2, 1) := by decide +kernel
theorem d_P_piece_31 : decode c_P_piece 31 = .ok (.iconst 2, 1) := by decide +kernel
theorem d_P_piece_32 : decode c_P_piece 32 = .ok (.if_icmp .ne 13, 3) := by decide +kernel
theorem d_P_piece_35 : decode c_P_piece 35 = .ok (.aload_n 0, 1) := by decide +kernel
theorem d_P_piece_36 : decode c_P_piece 36 = .ok (.getfield 35, 3) := by decide +kernel
theorem d_P_piece_39 : decode c_P_piece 39 = .ok (.iload_n 1, 1) := by decide +kernel
theorem d_P_piece_40 : decode c_P_piece 40 = .ok (.invokevirtual 135, 3) := by decide +kernel
theorem d_P_piece_43 : decode c_P_piece 43 = .ok (.l2i, 1) := by decide +kernel
theorem d_P_piece_44 : decode c_P_piece 44 = .ok (.ireturn, 1) := by decide +kernel
theorem d_P_piece_45 : decode c_P_piece 45 = .ok (.aload_n 0, 1) := by decide +kernel
theorem d_P_piece_46 : decode c_P_piece 46 = .ok (.getfield 32, 3) := by decide +kernel
theorem d_P_piece_49 : decode c_P_piece 49 = .ok (.iload_n 1, 1) := by decide +kernel
theorem d_P_piece_50 : decode c_P_piece 50 = .ok (.invokevirtual 135, 3) := by decide +kernel
theorem d_P_piece_53 : decode c_P_piece 53 = .ok (.lstore_n 3, 1) := by decide +kernel
theorem d_P_piece_54 : decode c_P_piece 54 = .ok (.iload_n 2, 1) := by decide +kernel
theorem d_P_piece_55 : decode c_P_piece 55 = .ok (.ifCond .ne 10, 3) := by decide +kernel
theorem d_P_piece_58 : decode c_P_piece 58 = .ok (.lload_n 3, 1) := by decide +kernel
theorem d_P_piece_59 : decode c_P_piece 59 = .ok (.bipush 13, 2) := by decide +kernel
theorem d_P_piece_61 : decode c_P_piece 61 = .ok (.lshr, 1) := by decide +kernel
theorem d_P_piece_62 : decode c_P_piece 62 = .ok (.goto 8, 3) := by decide +kernel
theorem d_P_piece_65 : decode c_P_piece 65 = .ok (.lload_n 3, 1) := by decide +kernel
theorem d_P_piece_66 : decode c_P_piece 66 = .ok (.ldc2_w 149, 3) := by decide +kernel
theorem d_P_piece_69 : decode c_P_piece 69 = .ok (.land, 1) := by decide +kernel
theorem d_P_piece_70 : decode c_P_piece 70 = .ok (.l2i, 1) := by decide +kernel
theorem d_P_piece_71 : decode c_P_piece 71 = .ok (.ireturn, 1) := by decide +kernel
theorem d_P_pixel_0 : decode c_P_pixel 0 = .ok (.aload_n 0, 1) := by decide +kernel
theorem d_P_pixel_1 : decode c_P_pixel 1 = .ok (.getfield 21, 3) := by decide +kernel
theorem d_P_pixel_4 : decode c_P_pixel 4 = .ok (.iload_n 1, 1) := by decide +kernel
theorem d_P_pixel_5 : decode c_P_pixel 5 = .ok (.invokevirtual 130, 3) := by decide +kernel
theorem d_P_pixel_8 : decode c_P_pixel 8 = .ok (.ifCond .eq 10, 3) := by decide +kernel
theorem d_P_pixel_11 : decode c_P_pixel 11 = .ok (.iload_n 2, 1) := by decide +kernel
theorem d_P_pixel_12 : decode c_P_pixel 12 = .ok (.invokestatic 111, 3) := by decide +kernel
theorem d_P_pixel_15 : decode c_P_pixel 15 = .ok (.ifCond .ne 13, 3) := by decide +kernel
theorem d_P_pixel_28 : decode c_P_pixel 28 = .ok (.aload_n 0, 1) := by decide +kernel
theorem d_P_pixel_29 : decode c_P_pixel 29 = .ok (.getfield 21, 3) := by decide +kernel
theorem d_P_pixel_32 : decode c_P_pixel 32 = .ok (.iload_n 1, 1) := by decide +kernel
theorem d_P_pixel_33 : decode c_P_pixel 33 = .ok (.invokevirtual 135, 3) := by decide +kernel
theorem d_P_pixel_36 : decode c_P_pixel 36 = .ok (.iload_n 2, 1) := by decide +kernel
theorem d_P_pixel_37 : decode c_P_pixel 37 = .ok (.invokestatic 126, 3) := by decide +kernel
theorem d_P_pixel_40 : decode c_P_pixel 40 = .ok (.ireturn, 1) := by decide +kernel
noncomputable section
theorem sw_out {w : Int32} (h0 : ¬ w = 0) (h1 : ¬ w = 1) (h2 : ¬ w = 2) (h3 : ¬ w = 3) (h4 : ¬ w = 4) : w.toInt < 0 ∨ 4 < w.toInt := by
  have h : ∀ j : Int32, w.toInt = j.toInt → w = j := fun j e => Int32.toInt.inj e
  rcases (show w.toInt < 0 ∨ 4 < w.toInt ∨ w.toInt = 0 ∨ w.toInt = 1 ∨ w.toInt = 2 ∨ w.toInt = 3 ∨ w.toInt = 4 by omega) with a | a | a | a | a | a | a
  · exact Or.inl a
  · exact Or.inr a
  · exact absurd (h 0 (a.trans (by decide))) h0
  · exact absurd (h 1 (a.trans (by decide))) h1
  · exact absurd (h 2 (a.trans (by decide))) h2
  · exact absurd (h 3 (a.trans (by decide))) h3
  · exact absurd (h 4 (a.trans (by decide))) h4
def sp_cn (k z1 z4 z3 sn w : Int32) : Int32 := if w = 0 then k else if w = 1 then z1 else if w = 2 then z4 else if w = 3 then z3 else if w = 4 then (if sn = 0 then 0 else 1) else -1
theorem d_P_count_1 : decode c_P_count 1 = .ok (.tableswitch 80 0 4 #[35, 43, 51, 59, 67], 35) := by decide +kernel
/-- where the chain begins -/
def cst (R2 : RS) (i : Int32) : Int32 := (rw_at R2.2.1 (nI R2.2.2) i).toInt32
set_option maxHeartbeats 4000000 in
set_option maxRecDepth 100000 in
theorem k_P_count (l : Launch) (D : va_G) (E : ClassId × ClassId × ClassId × ClassId) (h0 ed a1 a3 a4 : Nat) (ad : Nat → Nat) (sn kk mo9 z1 z3 z4 wh : Int32) : Met l y_P_count (.code y_P_count c_P_count 2 (some .int) :: gw) ({ frames := 1, cells := 0, slots := 0, locals := 30 } : Room) (rP D E [(h0, .inr (2, [.ref (ad 0), .ref (ad 1), .ref (ad 2), .ref (ad 3), .ref (ad 4), .ref (ad 5), .int sn])), ((ad 0), .inr (4, [.ref ed, .int kk, .int mo9])), ((ad 1), .inr (0, [.int (nI 16384), .ref a1, .int z1])), ((ad 3), .inr (0, [.int (nI 65536), .ref a3, .int z3])), ((ad 4), .inr (0, [.int (nI 65536), .ref a4, .int z4]))] [.ref h0, .int wh]) (vp_Si (fun r => r = sp_cn kk z1 z4 z3 sn wh)) 0 0 (fun _ => False) := by
  refine rd_ofW (by decide) (Nat.le_of_ble_eq_true rfl) ?_
  intro p e s m below meth c B hP hK ls hl
  obtain ⟨hx, hb, hrt, hml, hown, hts, hG, hlocks, hin⟩ := B
  have hl : lv_has ls 2 [(0, .ref h0), (1, .int wh)] := hl
  refine lv_iload_n hx hb d_P_count_0 rfl (lv_at hl 1 rfl) ?_
  by_cases e0 : wh = 0
  · subst e0
    refine lv_tableIn (tgt := 36) (off := 35) hx hb d_P_count_1 (by decide) (by decide) rfl (by decide) ?_
    refine lv_aload_n hx hb d_P_count_36 rfl (lv_at hl 0 rfl) ?_
    refine va_get (D := D) (ci := 2) (v := .ref (ad 0)) (C := K_P) (T := F_P) (N := 7) hx hb hG in_P hown hK.1 hP 0 rfl rfl 0 (by decide) (hG _ wd_109) (fun _ h9 => h9) rfl d_P_count_37 ?_
    have hPc := hP.sub (ws' := [((ad 0), .inr (4, [.ref ed, .int kk, .int mo9]))]) [1] rfl
    refine vp_callSi (W.runV (As := []) (rest := []) ⟨hx, hb, hml, hown, hts⟩ (k_A_size l D E (ad 0) (.ref ed) kk mo9) (cwV 0 hts (gw_gv wd_135 wd_136 wd_137 wd_40 wd_138) rfl rfl rfl (by decide +kernel) ⟨Nat.le_of_ble_eq_true rfl, Nat.le_of_ble_eq_true rfl⟩) (rP_V 0 hPc hK rfl rfl) rfl rfl hl.1 rfl (lv_room (Nat.le_of_ble_eq_true rfl)) d_P_count_40 ⟨Nat.le_of_ble_eq_true rfl, Nat.le_of_ble_eq_true rfl⟩) (fun r1 hr1 => ?_)
    exact W.iret (v := r1) hx hb hrt (fun t ht hW => ⟨r1, rfl, hr1, ht⟩) (fun q h => nomatch h) d_P_count_43 hlocks
  · by_cases e1 : wh = 1
    · subst e1
      refine lv_tableIn (tgt := 44) (off := 43) hx hb d_P_count_1 (by decide) (by decide) rfl (by decide) ?_
      refine lv_aload_n hx hb d_P_count_44 rfl (lv_at hl 0 rfl) ?_
      refine va_get (D := D) (ci := 2) (v := .ref (ad 1)) (C := K_P) (T := F_P) (N := 7) hx hb hG in_P hown hK.1 hP 0 rfl rfl 1 (by decide) (hG _ wd_110) (fun _ h9 => h9) rfl d_P_count_45 ?_
      have hPc := hP.sub (ws' := [((ad 1), .inr (0, [.int (nI 16384), .ref a1, .int z1]))]) [2] rfl
      refine vp_callSi (W.runV (As := []) (rest := []) ⟨hx, hb, hml, hown, hts⟩ (k_R_size l D E (ad 1) a1 (nI 16384) z1) (cwV 0 hts (gw_gv wd_155 wd_156 wd_157 wd_41 wd_158) rfl rfl rfl (by decide +kernel) ⟨Nat.le_of_ble_eq_true rfl, Nat.le_of_ble_eq_true rfl⟩) (rP_V 0 hPc hK rfl rfl) rfl rfl hl.1 rfl (lv_room (Nat.le_of_ble_eq_true rfl)) d_P_count_48 ⟨Nat.le_of_ble_eq_true rfl, Nat.le_of_ble_eq_true rfl⟩) (fun r1 hr1 => ?_)
      exact W.iret (v := r1) hx hb hrt (fun t ht hW => ⟨r1, rfl, hr1, ht⟩) (fun q h => nomatch h) d_P_count_51 hlocks
    · by_cases e2 : wh = 2
      · subst e2
        refine lv_tableIn (tgt := 52) (off := 51) hx hb d_P_count_1 (by decide) (by decide) rfl (by decide) ?_
        refine lv_aload_n hx hb d_P_count_52 rfl (lv_at hl 0 rfl) ?_
        refine va_get (D := D) (ci := 2) (v := .ref (ad 4)) (C := K_P) (T := F_P) (N := 7) hx hb hG in_P hown hK.1 hP 0 rfl rfl 4 (by decide) (hG _ wd_113) (fun _ h9 => h9) rfl d_P_count_53 ?_
        have hPc := hP.sub (ws' := [((ad 4), .inr (0, [.int (nI 65536), .ref a4, .int z4]))]) [4] rfl
        refine vp_callSi (W.runV (As := []) (rest := []) ⟨hx, hb, hml, hown, hts⟩ (k_R_size l D E (ad 4) a4 (nI 65536) z4) (cwV 0 hts (gw_gv wd_155 wd_156 wd_157 wd_41 wd_158) rfl rfl rfl (by decide +kernel) ⟨Nat.le_of_ble_eq_true rfl, Nat.le_of_ble_eq_true rfl⟩) (rP_V 0 hPc hK rfl rfl) rfl rfl hl.1 rfl (lv_room (Nat.le_of_ble_eq_true rfl)) d_P_count_56 ⟨Nat.le_of_ble_eq_true rfl, Nat.le_of_ble_eq_true rfl⟩) (fun r1 hr1 => ?_)
        exact W.iret (v := r1) hx hb hrt (fun t ht hW => ⟨r1, rfl, hr1, ht⟩) (fun q h => nomatch h) d_P_count_59 hlocks
      · by_cases e3 : wh = 3
        · subst e3
          refine lv_tableIn (tgt := 60) (off := 59) hx hb d_P_count_1 (by decide) (by decide) rfl (by decide) ?_
          refine lv_aload_n hx hb d_P_count_60 rfl (lv_at hl 0 rfl) ?_
          refine va_get (D := D) (ci := 2) (v := .ref (ad 3)) (C := K_P) (T := F_P) (N := 7) hx hb hG in_P hown hK.1 hP 0 rfl rfl 3 (by decide) (hG _ wd_112) (fun _ h9 => h9) rfl d_P_count_61 ?_
          have hPc := hP.sub (ws' := [((ad 3), .inr (0, [.int (nI 65536), .ref a3, .int z3]))]) [3] rfl
          refine vp_callSi (W.runV (As := []) (rest := []) ⟨hx, hb, hml, hown, hts⟩ (k_R_size l D E (ad 3) a3 (nI 65536) z3) (cwV 0 hts (gw_gv wd_155 wd_156 wd_157 wd_41 wd_158) rfl rfl rfl (by decide +kernel) ⟨Nat.le_of_ble_eq_true rfl, Nat.le_of_ble_eq_true rfl⟩) (rP_V 0 hPc hK rfl rfl) rfl rfl hl.1 rfl (lv_room (Nat.le_of_ble_eq_true rfl)) d_P_count_64 ⟨Nat.le_of_ble_eq_true rfl, Nat.le_of_ble_eq_true rfl⟩) (fun r1 hr1 => ?_)
          exact W.iret (v := r1) hx hb hrt (fun t ht hW => ⟨r1, rfl, hr1, ht⟩) (fun q h => nomatch h) d_P_count_67 hlocks
        · by_cases e4 : wh = 4
          · subst e4
            refine lv_tableIn (tgt := 68) (off := 67) hx hb d_P_count_1 (by decide) (by decide) rfl (by decide) ?_
            refine lv_aload_n hx hb d_P_count_68 rfl (lv_at hl 0 rfl) ?_
            refine va_get (D := D) (ci := 2) (v := .int sn) (C := K_P) (T := F_P) (N := 7) hx hb hG in_P hown hK.1 hP 0 rfl rfl 6 (by decide) (hG _ wd_115) (fun _ h9 => h9) rfl d_P_count_69 ?_
            refine lv_if_eq (tgt := 79) hx hb d_P_count_72 (by decide) (fun c1 => ?_) (fun c1 => ?_)
            · refine lv_iconst (v := 0) hx hb d_P_count_79 (by decide) ?_
              exact W.iret (v := 0) hx hb hrt (fun t ht hW => ⟨0, rfl, by rw [show sp_cn kk z1 z4 z3 sn 4 = if sn = 0 then 0 else 1 from rfl, if_pos c1], ht⟩) (fun q h => nomatch h) d_P_count_80 hlocks
            · refine lv_iconst (v := 1) hx hb d_P_count_75 (by decide) ?_
              refine lv_goto (tgt := 80) hx hb d_P_count_76 (by decide) ?_
              exact W.iret (v := 1) hx hb hrt (fun t ht hW => ⟨1, rfl, by rw [show sp_cn kk z1 z4 z3 sn 4 = if sn = 0 then 0 else 1 from rfl, if_neg c1], ht⟩) (fun q h => nomatch h) d_P_count_80 hlocks
          · refine lv_tableOut (tgt := 81) hx hb d_P_count_1 (sw_out e0 e1 e2 e3 e4) (by decide) ?_
            refine lv_iconst (v := (-1)) hx hb d_P_count_81 (by decide) ?_
            exact W.iret (v := (-1)) hx hb hrt (fun t ht hW => ⟨(-1), rfl, by rw [sp_cn, if_neg e0, if_neg e1, if_neg e2, if_neg e3, if_neg e4], ht⟩) (fun q h => nomatch h) d_P_count_82 hlocks
set_option maxHeartbeats 4000000 in
set_option maxRecDepth 100000 in
theorem k_P_meets (l : Launch) (D : va_G) (E : ClassId × ClassId × ClassId × ClassId) (h0 e0 ed k : Nat) (ad : Nat → Nat) (sn mo9 : Int32) (sg : Nat → SQ) (LP : List Nat) (pf : Nat → va_E) (hL : Lst E LP pf e0 ed k sg) (hk : k ≤ 2048) (i : Nat) (x y : Int32) (h1 : i < k) (h2 : sp_in x = 1) (h3 : sp_in y = 1) : Met l y_P_meets (.code y_P_meets c_P_meets 4 (some .boolean) :: gw) ({ frames := 3, cells := 0, slots := 0, locals := 90 } : Room) (rP D E ([(h0, .inr (2, [.ref (ad 0), .ref (ad 1), .ref (ad 2), .ref (ad 3), .ref (ad 4), .ref (ad 5), .int sn])), ((ad 0), .inr (4, [.ref ed, .int (nI k), .int mo9]))] ++ va_pl LP pf) [.ref h0, .int (nI i), .int x, .int y]) (vp_Si (fun r => r = b01 (sg_enters (sg i) (Int32.toInt64 x) (Int32.toInt64 y)))) 0 0 (fun _ => False) := by
  refine rd_ofW (by decide) (Nat.le_of_ble_eq_true rfl) ?_
  intro p e s m below meth c B hP hK ls hl
  obtain ⟨hx, hb, hrt, hml, hown, hts, hG, hlocks, hin⟩ := B
  have hl : lv_has ls 4 [(0, .ref h0), (1, .int (nI i)), (2, .int x), (3, .int y)] := hl
  refine lv_aload_n hx hb d_P_meets_0 rfl (lv_at hl 0 rfl) ?_
  refine lv_iload_n hx hb d_P_meets_1 rfl (lv_at hl 1 rfl) ?_
  have hPc := hP.sub (ws' := [(h0, .inr (2, [.ref (ad 0), .ref (ad 1), .ref (ad 2), .ref (ad 3), .ref (ad 4), .ref (ad 5), .int sn])), ((ad 0), .inr (4, [.ref ed, .int (nI k), .int mo9]))]) [0, 1] rfl
  refine vp_callSi (W.runV (As := [.int (nI i)]) (rest := []) ⟨hx, hb, hml, hown, hts⟩ (k_P_hasSegment l D E h0 ed k ad sn mo9 (nI i)) (cwV 1 hts (gw_gv wd_571 wd_573 wd_20 wd_37 wd_574) rfl rfl rfl (by decide +kernel) ⟨Nat.le_of_ble_eq_true rfl, Nat.le_of_ble_eq_true rfl⟩) (rP_V 0 hPc hK rfl rfl) rfl rfl hl.1 rfl (lv_room (Nat.le_of_ble_eq_true rfl)) d_P_meets_2 ⟨Nat.le_of_ble_eq_true rfl, Nat.le_of_ble_eq_true rfl⟩) (fun rh1 hrh1 => ?_)
  rw [rw_has_in h1 (by omega)] at hrh1
  subst hrh1
  refine lv_if_ne (tgt := 18) hx hb d_P_meets_5 (by decide) (fun c1 => ?_) (fun c1 => ?_)
  · refine lv_iload_n hx hb d_P_meets_18 rfl (lv_at hl 2 rfl) ?_
    have hPc := hP.sub (ws' := []) [] rfl
    refine vp_callSi (W.runS (As := [.int x]) (rest := []) ⟨hx, hb, hml, hown, hts⟩ (k_P_inReach l D E x) (va_cwS 1 hts (gw_gs wd_168 wd_169 wd_37 wd_170) rfl rfl rfl (by decide +kernel) ⟨Nat.le_of_ble_eq_true rfl, Nat.le_of_ble_eq_true rfl⟩) (rP_S hPc hK) rfl rfl hl.1 rfl (lv_room (Nat.le_of_ble_eq_true rfl)) d_P_meets_19 ⟨Nat.le_of_ble_eq_true rfl, Nat.le_of_ble_eq_true rfl⟩) (fun rh2 hrh2 => ?_)
    rw [h2] at hrh2
    subst hrh2
    refine lv_if_eq (tgt := 32) hx hb d_P_meets_22 (by decide) (fun c2 => ?_) (fun c2 => ?_)
    · exact absurd c2 (by decide)
    · refine lv_iload_n hx hb d_P_meets_25 rfl (lv_at hl 3 rfl) ?_
      have hPc := hP.sub (ws' := []) [] rfl
      refine vp_callSi (W.runS (As := [.int y]) (rest := []) ⟨hx, hb, hml, hown, hts⟩ (k_P_inReach l D E y) (va_cwS 1 hts (gw_gs wd_168 wd_169 wd_37 wd_170) rfl rfl rfl (by decide +kernel) ⟨Nat.le_of_ble_eq_true rfl, Nat.le_of_ble_eq_true rfl⟩) (rP_S hPc hK) rfl rfl hl.1 rfl (lv_room (Nat.le_of_ble_eq_true rfl)) d_P_meets_26 ⟨Nat.le_of_ble_eq_true rfl, Nat.le_of_ble_eq_true rfl⟩) (fun rh3 hrh3 => ?_)
      rw [h3] at hrh3
      subst hrh3
      refine lv_if_ne (tgt := 42) hx hb d_P_meets_29 (by decide) (fun c3 => ?_) (fun c3 => ?_)
      · refine lv_aload_n hx hb d_P_meets_42 rfl (lv_at hl 0 rfl) ?_
        refine va_get (D := D) (ci := 2) (v := .ref (ad 0)) (C := K_P) (T := F_P) (N := 7) hx hb hG in_P hown hK.1 hP 0 rfl rfl 0 (by decide) (hG _ wd_109) (fun _ h9 => h9) rfl d_P_meets_43 ?_
        refine lv_iload_n hx hb d_P_meets_46 rfl (lv_at hl 1 rfl) ?_
        obtain ⟨n_ga, l_ga, ga, x1_ga, x2_ga, x3_ga, x4_ga, x5_ga, x6_ga, x7_ga⟩ := hL.get (i := i) h1
        have hPc : va_P D vwC [((ad 0), .inr (4, [.ref ed, .int (nI k), .int mo9])), (ed, .inl (E.2.2.2, n_ga, .inr (.inr (.inr (.inr l_ga)))))] s.heap := pl_cons (hP.sub (ws' := [((ad 0), .inr (4, [.ref ed, .int (nI k), .int mo9]))]) [1] rfl) (pl_one (X := [(h0, .inr (2, [.ref (ad 0), .ref (ad 1), .ref (ad 2), .ref (ad 3), .ref (ad 4), .ref (ad 5), .int sn])), ((ad 0), .inr (4, [.ref ed, .int (nI k), .int mo9]))]) hP x1_ga x2_ga)
        refine va_csq (W.runV (As := [.int (nI i)]) (rest := []) ⟨hx, hb, hml, hown, hts⟩ (k_A_get l D E (ad 0) ed n_ga k i mo9 l_ga h1 x3_ga (by omega)) (cwV 1 hts (gw_gv wd_369 wd_370 wd_371 wd_40 wd_372) rfl rfl rfl (by decide +kernel) ⟨Nat.le_of_ble_eq_true rfl, Nat.le_of_ble_eq_true rfl⟩) (rP_V 0 hPc hK rfl rfl) rfl rfl hl.1 rfl (lv_room (Nat.le_of_ble_eq_true rfl)) d_P_meets_47 ⟨Nat.le_of_ble_eq_true rfl, Nat.le_of_ble_eq_true rfl⟩) (fun r_ga hr_ga => ?_)
        rw [x5_ga] at hr_ga
        subst hr_ga
        refine va_castS (a := ga) hx hb hown (hG _ wd_258) (hK.1.1 1 _ rfl).2 (va_recv (q0 := 0) hK.1 (pl_one (X := [(h0, .inr (2, [.ref (ad 0), .ref (ad 1), .ref (ad 2), .ref (ad 3), .ref (ad 4), .ref (ad 5), .int sn])), ((ad 0), .inr (4, [.ref ed, .int (nI k), .int mo9]))]) hP x6_ga x7_ga) rfl rfl) d_P_meets_50 ?_
        refine lv_iload_n hx hb d_P_meets_53 rfl (lv_at hl 2 rfl) ?_
        refine lv_i2l hx hb d_P_meets_54 rfl ?_
        refine lv_iload_n hx hb d_P_meets_55 rfl (lv_at hl 3 rfl) ?_
        refine lv_i2l hx hb d_P_meets_56 rfl ?_
        have hPc : va_P D vwC [(ga, .inr (1, sgF (sg i)))] s.heap := pl_one (X := [(h0, .inr (2, [.ref (ad 0), .ref (ad 1), .ref (ad 2), .ref (ad 3), .ref (ad 4), .ref (ad 5), .int sn])), ((ad 0), .inr (4, [.ref ed, .int (nI k), .int mo9]))]) hP x6_ga x7_ga
        refine vp_callSi (W.runV (As := [.long (Int32.toInt64 x), .long (Int32.toInt64 y)]) (rest := []) ⟨hx, hb, hml, hown, hts⟩ (k_S_enters l D E ga (sg i) (Int32.toInt64 x) (Int32.toInt64 y)) (cwV 2 hts (gw_gv wd_499 wd_500 wd_501 wd_48 wd_502) rfl rfl rfl (by decide +kernel) ⟨Nat.le_of_ble_eq_true rfl, Nat.le_of_ble_eq_true rfl⟩) (rP_V 0 hPc hK rfl rfl) rfl rfl hl.1 rfl (lv_room (Nat.le_of_ble_eq_true rfl)) d_P_meets_57 ⟨Nat.le_of_ble_eq_true rfl, Nat.le_of_ble_eq_true rfl⟩) (fun r4 hr4 => ?_)
        subst hr4
        exact W.zret (v := (b01 (sg_enters (sg i) (Int32.toInt64 x) (Int32.toInt64 y)))) (ty := .boolean) hx hb hrt (b01_n _) (fun t ht hW => ⟨(b01 (sg_enters (sg i) (Int32.toInt64 x) (Int32.toInt64 y))), rfl, rfl, ht⟩) (fun q h => nomatch h) d_P_meets_60 hlocks
      · exact absurd c3 (by decide)
  · exact absurd c1 (by decide)
set_option maxHeartbeats 4000000 in
set_option maxRecDepth 100000 in
theorem k_P_crossing (l : Launch) (D : va_G) (E : ClassId × ClassId × ClassId × ClassId) (h0 e0 ed k : Nat) (ad : Nat → Nat) (sn mo9 : Int32) (sg : Nat → SQ) (LP : List Nat) (pf : Nat → va_E) (hL : Lst E LP pf e0 ed k sg) (hk : k ≤ 2048) (i j : Nat) (wh : Int32) (h1 : i < k) (h2 : j < k) (h3 : sp_xy wh = 1) (h4 : sg_cross (sg i) (sg j)) : Met l y_P_crossing (.code y_P_crossing c_P_crossing 6 (some .int) :: gw) ({ frames := 3, cells := 0, slots := 0, locals := 90 } : Room) (rP D E ([(h0, .inr (2, [.ref (ad 0), .ref (ad 1), .ref (ad 2), .ref (ad 3), .ref (ad 4), .ref (ad 5), .int sn])), ((ad 0), .inr (4, [.ref ed, .int (nI k), .int mo9]))] ++ va_pl LP pf) [.ref h0, .int (nI i), .int (nI j), .int wh]) (vp_Si (fun r => r = sg_kp (sg_ck (sg i) (sg j)) wh)) 0 0 (fun _ => False) := by
  refine rd_ofW (by decide) (Nat.le_of_ble_eq_true rfl) ?_
  intro p e s m below meth c B hP hK ls hl
  obtain ⟨hx, hb, hrt, hml, hown, hts, hG, hlocks, hin⟩ := B
  have hl : lv_has ls 6 [(0, .ref h0), (1, .int (nI i)), (2, .int (nI j)), (3, .int wh)] := hl
  refine lv_aload_n hx hb d_P_crossing_0 rfl (lv_at hl 0 rfl) ?_
  refine lv_iload_n hx hb d_P_crossing_1 rfl (lv_at hl 1 rfl) ?_
  have hPc := hP.sub (ws' := [(h0, .inr (2, [.ref (ad 0), .ref (ad 1), .ref (ad 2), .ref (ad 3), .ref (ad 4), .ref (ad 5), .int sn])), ((ad 0), .inr (4, [.ref ed, .int (nI k), .int mo9]))]) [0, 1] rfl
  refine vp_callSi (W.runV (As := [.int (nI i)]) (rest := []) ⟨hx, hb, hml, hown, hts⟩ (k_P_hasSegment l D E h0 ed k ad sn mo9 (nI i)) (cwV 1 hts (gw_gv wd_571 wd_573 wd_20 wd_37 wd_574) rfl rfl rfl (by decide +kernel) ⟨Nat.le_of_ble_eq_true rfl, Nat.le_of_ble_eq_true rfl⟩) (rP_V 0 hPc hK rfl rfl) rfl rfl hl.1 rfl (lv_room (Nat.le_of_ble_eq_true rfl)) d_P_crossing_2 ⟨Nat.le_of_ble_eq_true rfl, Nat.le_of_ble_eq_true rfl⟩) (fun rh1 hrh1 => ?_)
  rw [rw_has_in h1 (by omega)] at hrh1
  subst hrh1
  refine lv_if_eq (tgt := 23) hx hb d_P_crossing_5 (by decide) (fun c1 => ?_) (fun c1 => ?_)
  · exact absurd c1 (by decide)
  · refine lv_aload_n hx hb d_P_crossing_8 rfl (lv_at hl 0 rfl) ?_
    refine lv_iload_n hx hb d_P_crossing_9 rfl (lv_at hl 2 rfl) ?_
    have hPc := hP.sub (ws' := [(h0, .inr (2, [.ref (ad 0), .ref (ad 1), .ref (ad 2), .ref (ad 3), .ref (ad 4), .ref (ad 5), .int sn])), ((ad 0), .inr (4, [.ref ed, .int (nI k), .int mo9]))]) [0, 1] rfl
    refine vp_callSi (W.runV (As := [.int (nI j)]) (rest := []) ⟨hx, hb, hml, hown, hts⟩ (k_P_hasSegment l D E h0 ed k ad sn mo9 (nI j)) (cwV 1 hts (gw_gv wd_571 wd_573 wd_20 wd_37 wd_574) rfl rfl rfl (by decide +kernel) ⟨Nat.le_of_ble_eq_true rfl, Nat.le_of_ble_eq_true rfl⟩) (rP_V 0 hPc hK rfl rfl) rfl rfl hl.1 rfl (lv_room (Nat.le_of_ble_eq_true rfl)) d_P_crossing_10 ⟨Nat.le_of_ble_eq_true rfl, Nat.le_of_ble_eq_true rfl⟩) (fun rh2 hrh2 => ?_)
    rw [rw_has_in h2 (by omega)] at hrh2
    subst hrh2
    refine lv_if_eq (tgt := 23) hx hb d_P_crossing_13 (by decide) (fun c2 => ?_) (fun c2 => ?_)
    · exact absurd c2 (by decide)
    · refine lv_iload_n hx hb d_P_crossing_16 rfl (lv_at hl 3 rfl) ?_
      have hPc := hP.sub (ws' := []) [] rfl
      refine vp_callSi (W.runS (As := [.int wh]) (rest := []) ⟨hx, hb, hml, hown, hts⟩ (k_P_isXOrY l D E wh) (va_cwS 1 hts (gw_gs wd_599 wd_600 wd_37 wd_601) rfl rfl rfl (by decide +kernel) ⟨Nat.le_of_ble_eq_true rfl, Nat.le_of_ble_eq_true rfl⟩) (rP_S hPc hK) rfl rfl hl.1 rfl (lv_room (Nat.le_of_ble_eq_true rfl)) d_P_crossing_17 ⟨Nat.le_of_ble_eq_true rfl, Nat.le_of_ble_eq_true rfl⟩) (fun rh3 hrh3 => ?_)
      rw [h3] at hrh3
      subst hrh3
      refine lv_if_ne (tgt := 33) hx hb d_P_crossing_20 (by decide) (fun c3 => ?_) (fun c3 => ?_)
      · refine lv_aload_n hx hb d_P_crossing_33 rfl (lv_at hl 0 rfl) ?_
        refine va_get (D := D) (ci := 2) (v := .ref (ad 0)) (C := K_P) (T := F_P) (N := 7) hx hb hG in_P hown hK.1 hP 0 rfl rfl 0 (by decide) (hG _ wd_109) (fun _ h9 => h9) rfl d_P_crossing_34 ?_
        refine lv_iload_n hx hb d_P_crossing_37 rfl (lv_at hl 1 rfl) ?_
        obtain ⟨n_ga, l_ga, ga, x1_ga, x2_ga, x3_ga, x4_ga, x5_ga, x6_ga, x7_ga⟩ := hL.get (i := i) h1
        have hPc : va_P D vwC [((ad 0), .inr (4, [.ref ed, .int (nI k), .int mo9])), (ed, .inl (E.2.2.2, n_ga, .inr (.inr (.inr (.inr l_ga)))))] s.heap := pl_cons (hP.sub (ws' := [((ad 0), .inr (4, [.ref ed, .int (nI k), .int mo9]))]) [1] rfl) (pl_one (X := [(h0, .inr (2, [.ref (ad 0), .ref (ad 1), .ref (ad 2), .ref (ad 3), .ref (ad 4), .ref (ad 5), .int sn])), ((ad 0), .inr (4, [.ref ed, .int (nI k), .int mo9]))]) hP x1_ga x2_ga)
        refine va_csq (W.runV (As := [.int (nI i)]) (rest := []) ⟨hx, hb, hml, hown, hts⟩ (k_A_get l D E (ad 0) ed n_ga k i mo9 l_ga h1 x3_ga (by omega)) (cwV 1 hts (gw_gv wd_369 wd_370 wd_371 wd_40 wd_372) rfl rfl rfl (by decide +kernel) ⟨Nat.le_of_ble_eq_true rfl, Nat.le_of_ble_eq_true rfl⟩) (rP_V 0 hPc hK rfl rfl) rfl rfl hl.1 rfl (lv_room (Nat.le_of_ble_eq_true rfl)) d_P_crossing_38 ⟨Nat.le_of_ble_eq_true rfl, Nat.le_of_ble_eq_true rfl⟩) (fun r_ga hr_ga => ?_)
        rw [x5_ga] at hr_ga
        subst hr_ga
        refine va_castS (a := ga) hx hb hown (hG _ wd_258) (hK.1.1 1 _ rfl).2 (va_recv (q0 := 0) hK.1 (pl_one (X := [(h0, .inr (2, [.ref (ad 0), .ref (ad 1), .ref (ad 2), .ref (ad 3), .ref (ad 4), .ref (ad 5), .int sn])), ((ad 0), .inr (4, [.ref ed, .int (nI k), .int mo9]))]) hP x6_ga x7_ga) rfl rfl) d_P_crossing_41 ?_
        refine lv_astore (lv' := [(4, .ref ga), (0, .ref h0), (1, .int (nI i)), (2, .int (nI j)), (3, .int wh)]) hx hb d_P_crossing_44 hl (by decide) rfl (fun ls hl => ?_)
        refine lv_aload_n hx hb d_P_crossing_46 rfl (lv_at hl 1 rfl) ?_
        refine va_get (D := D) (ci := 2) (v := .ref (ad 0)) (C := K_P) (T := F_P) (N := 7) hx hb hG in_P hown hK.1 hP 0 rfl rfl 0 (by decide) (hG _ wd_109) (fun _ h9 => h9) rfl d_P_crossing_47 ?_
        refine lv_iload_n hx hb d_P_crossing_50 rfl (lv_at hl 3 rfl) ?_
        obtain ⟨n_gb, l_gb, gb, x1_gb, x2_gb, x3_gb, x4_gb, x5_gb, x6_gb, x7_gb⟩ := hL.get (i := j) h2
        have hPc : va_P D vwC [((ad 0), .inr (4, [.ref ed, .int (nI k), .int mo9])), (ed, .inl (E.2.2.2, n_gb, .inr (.inr (.inr (.inr l_gb)))))] s.heap := pl_cons (hP.sub (ws' := [((ad 0), .inr (4, [.ref ed, .int (nI k), .int mo9]))]) [1] rfl) (pl_one (X := [(h0, .inr (2, [.ref (ad 0), .ref (ad 1), .ref (ad 2), .ref (ad 3), .ref (ad 4), .ref (ad 5), .int sn])), ((ad 0), .inr (4, [.ref ed, .int (nI k), .int mo9]))]) hP x1_gb x2_gb)
        refine va_csq (W.runV (As := [.int (nI j)]) (rest := []) ⟨hx, hb, hml, hown, hts⟩ (k_A_get l D E (ad 0) ed n_gb k j mo9 l_gb h2 x3_gb (by omega)) (cwV 1 hts (gw_gv wd_369 wd_370 wd_371 wd_40 wd_372) rfl rfl rfl (by decide +kernel) ⟨Nat.le_of_ble_eq_true rfl, Nat.le_of_ble_eq_true rfl⟩) (rP_V 0 hPc hK rfl rfl) rfl rfl hl.1 rfl (lv_room (Nat.le_of_ble_eq_true rfl)) d_P_crossing_51 ⟨Nat.le_of_ble_eq_true rfl, Nat.le_of_ble_eq_true rfl⟩) (fun r_gb hr_gb => ?_)
        rw [x5_gb] at hr_gb
        subst hr_gb
        refine va_castS (a := gb) hx hb hown (hG _ wd_258) (hK.1.1 1 _ rfl).2 (va_recv (q0 := 0) hK.1 (pl_one (X := [(h0, .inr (2, [.ref (ad 0), .ref (ad 1), .ref (ad 2), .ref (ad 3), .ref (ad 4), .ref (ad 5), .int sn])), ((ad 0), .inr (4, [.ref ed, .int (nI k), .int mo9]))]) hP x6_gb x7_gb) rfl rfl) d_P_crossing_54 ?_
        refine lv_astore (lv' := [(5, .ref gb), (4, .ref ga), (0, .ref h0), (1, .int (nI i)), (2, .int (nI j)), (3, .int wh)]) hx hb d_P_crossing_57 hl (by decide) rfl (fun ls hl => ?_)
        refine lv_aload hx hb d_P_crossing_59 (lv_at hl 1 rfl) ?_
        refine lv_aload hx hb d_P_crossing_61 (lv_at hl 0 rfl) ?_
        have hPc : va_P D vwC [(ga, .inr (1, sgF (sg i))), (gb, .inr (1, sgF (sg j)))] s.heap := pl_cons (pl_one (X := [(h0, .inr (2, [.ref (ad 0), .ref (ad 1), .ref (ad 2), .ref (ad 3), .ref (ad 4), .ref (ad 5), .int sn])), ((ad 0), .inr (4, [.ref ed, .int (nI k), .int mo9]))]) hP x6_ga x7_ga) (pl_one (X := [(h0, .inr (2, [.ref (ad 0), .ref (ad 1), .ref (ad 2), .ref (ad 3), .ref (ad 4), .ref (ad 5), .int sn])), ((ad 0), .inr (4, [.ref ed, .int (nI k), .int mo9]))]) hP x6_gb x7_gb)
        refine vp_callSi (W.runV (As := [.ref gb]) (rest := []) ⟨hx, hb, hml, hown, hts⟩ (k_S_crosses l D E ga gb (sg i) (sg j)) (cwV 1 hts (gw_gv wd_439 wd_440 wd_441 wd_48 wd_442) rfl rfl rfl (by decide +kernel) ⟨Nat.le_of_ble_eq_true rfl, Nat.le_of_ble_eq_true rfl⟩) (rP_V 0 hPc hK rfl rfl) rfl rfl hl.1 rfl (lv_room (Nat.le_of_ble_eq_true rfl)) d_P_crossing_63 ⟨Nat.le_of_ble_eq_true rfl, Nat.le_of_ble_eq_true rfl⟩) (fun r4 hr4 => ?_)
        rw [b01_t h4] at hr4
        subst hr4
        refine lv_if_ne (tgt := 79) hx hb d_P_crossing_66 (by decide) (fun c4 => ?_) (fun c4 => ?_)
        · refine lv_aload hx hb d_P_crossing_79 (lv_at hl 1 rfl) ?_
          refine lv_aload hx hb d_P_crossing_81 (lv_at hl 0 rfl) ?_
          have hPc : va_P D vwC [(ga, .inr (1, sgF (sg i))), (gb, .inr (1, sgF (sg j)))] s.heap := pl_cons (pl_one (X := [(h0, .inr (2, [.ref (ad 0), .ref (ad 1), .ref (ad 2), .ref (ad 3), .ref (ad 4), .ref (ad 5), .int sn])), ((ad 0), .inr (4, [.ref ed, .int (nI k), .int mo9]))]) hP x6_ga x7_ga) (pl_one (X := [(h0, .inr (2, [.ref (ad 0), .ref (ad 1), .ref (ad 2), .ref (ad 3), .ref (ad 4), .ref (ad 5), .int sn])), ((ad 0), .inr (4, [.ref ed, .int (nI k), .int mo9]))]) hP x6_gb x7_gb)
          refine vp_callSl (W.runV (As := [.ref gb]) (rest := []) ⟨hx, hb, hml, hown, hts⟩ (k_S_crossingKey l D E ga gb (sg i) (sg j)) (cwV 1 hts (gw_gv wd_451 wd_452 wd_453 wd_48 wd_454) rfl rfl rfl (by decide +kernel) ⟨Nat.le_of_ble_eq_true rfl, Nat.le_of_ble_eq_true rfl⟩) (rP_V 0 hPc hK rfl rfl) rfl rfl hl.1 rfl (lv_room (Nat.le_of_ble_eq_true rfl)) d_P_crossing_83 ⟨Nat.le_of_ble_eq_true rfl, Nat.le_of_ble_eq_true rfl⟩) (fun r5 hr5 => ?_)
          subst hr5
          refine lv_iload_n hx hb d_P_crossing_86 rfl (lv_at hl 5 rfl) ?_
          have hPc := hP.sub (ws' := []) [] rfl
          refine vp_callSi (W.runS (As := [.long (sg_ck (sg i) (sg j)), .int wh]) (rest := []) ⟨hx, hb, hml, hown, hts⟩ (k_P_keyPart l D E (sg_ck (sg i) (sg j)) wh) (va_cwS 2 hts (gw_gs wd_604 wd_605 wd_37 wd_606) rfl rfl rfl (by decide +kernel) ⟨Nat.le_of_ble_eq_true rfl, Nat.le_of_ble_eq_true rfl⟩) (rP_S hPc hK) rfl rfl hl.1 rfl (lv_room (Nat.le_of_ble_eq_true rfl)) d_P_crossing_87 ⟨Nat.le_of_ble_eq_true rfl, Nat.le_of_ble_eq_true rfl⟩) (fun r6 hr6 => ?_)
          subst hr6
          exact W.iret (v := (sg_kp (sg_ck (sg i) (sg j)) wh)) hx hb hrt (fun t ht hW => ⟨(sg_kp (sg_ck (sg i) (sg j)) wh), rfl, rfl, ht⟩) (fun q h => nomatch h) d_P_crossing_90 hlocks
        · exact absurd c4 (by decide)
      · exact absurd c3 (by decide)
set_option maxHeartbeats 4000000 in
set_option maxRecDepth 100000 in
theorem k_P_pixel (l : Launch) (D : va_G) (E : ClassId × ClassId × ClassId × ClassId) (h0 a1 : Nat) (ad : Nat → Nat) (sn : Int32) (R1 : RS) (o1 : rs_ok 16384 R1) (i : Nat) (wh : Int32) (h1 : i < R1.2.2) (h2 : sp_xy wh = 1) : Met l y_P_pixel (.code y_P_pixel c_P_pixel 3 (some .int) :: gw) ({ frames := 2, cells := 0, slots := 0, locals := 60 } : Room) (rP D E [(h0, .inr (2, [.ref (ad 0), .ref (ad 1), .ref (ad 2), .ref (ad 3), .ref (ad 4), .ref (ad 5), .int sn])), ((ad 1), .inr (0, [.int (nI 16384), .ref a1, .int (nI R1.2.2)])), (a1, .inl (E.1, R1.1, .inr (.inl R1.2.1)))] [.ref h0, .int (nI i), .int wh]) (vp_Si (fun r => r = sg_kp (R1.2.1 i) wh)) 0 0 (fun _ => False) := by
  refine rd_ofW (by decide) (Nat.le_of_ble_eq_true rfl) ?_
  intro p e s m below meth c B hP hK ls hl
  obtain ⟨hx, hb, hrt, hml, hown, hts, hG, hlocks, hin⟩ := B
  have hl : lv_has ls 3 [(0, .ref h0), (1, .int (nI i)), (2, .int wh)] := hl
  have p2 := o1.2.1
  have p3 := o1.2.2
  refine lv_aload_n hx hb d_P_pixel_0 rfl (lv_at hl 0 rfl) ?_
  refine va_get (D := D) (ci := 2) (v := .ref (ad 1)) (C := K_P) (T := F_P) (N := 7) hx hb hG in_P hown hK.1 hP 0 rfl rfl 1 (by decide) (hG _ wd_110) (fun _ h9 => h9) rfl d_P_pixel_1 ?_
  refine lv_iload_n hx hb d_P_pixel_4 rfl (lv_at hl 1 rfl) ?_
  have hPc := hP.sub (ws' := [((ad 1), .inr (0, [.int (nI 16384), .ref a1, .int (nI R1.2.2)]))]) [1] rfl
  refine vp_callSi (W.runV (As := [.int (nI i)]) (rest := []) ⟨hx, hb, hml, hown, hts⟩ (k_R_has l D E (ad 1) a1 (nI 16384) (nI R1.2.2) (nI i)) (cwV 1 hts (gw_gv wd_614 wd_488 wd_489 wd_41 wd_490) rfl rfl rfl (by decide +kernel) ⟨Nat.le_of_ble_eq_true rfl, Nat.le_of_ble_eq_true rfl⟩) (rP_V 0 hPc hK rfl rfl) rfl rfl hl.1 rfl (lv_room (Nat.le_of_ble_eq_true rfl)) d_P_pixel_5 ⟨Nat.le_of_ble_eq_true rfl, Nat.le_of_ble_eq_true rfl⟩) (fun rh1 hrh1 => ?_)
  rw [rw_has_in h1 (by omega)] at hrh1
  subst hrh1
  refine lv_if_eq (tgt := 18) hx hb d_P_pixel_8 (by decide) (fun c1 => ?_) (fun c1 => ?_)
  · exact absurd c1 (by decide)
  · refine lv_iload_n hx hb d_P_pixel_11 rfl (lv_at hl 2 rfl) ?_
    have hPc := hP.sub (ws' := []) [] rfl
    refine vp_callSi (W.runS (As := [.int wh]) (rest := []) ⟨hx, hb, hml, hown, hts⟩ (k_P_isXOrY l D E wh) (va_cwS 1 hts (gw_gs wd_599 wd_600 wd_37 wd_601) rfl rfl rfl (by decide +kernel) ⟨Nat.le_of_ble_eq_true rfl, Nat.le_of_ble_eq_true rfl⟩) (rP_S hPc hK) rfl rfl hl.1 rfl (lv_room (Nat.le_of_ble_eq_true rfl)) d_P_pixel_12 ⟨Nat.le_of_ble_eq_true rfl, Nat.le_of_ble_eq_true rfl⟩) (fun rh2 hrh2 => ?_)
    rw [h2] at hrh2
    subst hrh2
    refine lv_if_ne (tgt := 28) hx hb d_P_pixel_15 (by decide) (fun c2 => ?_) (fun c2 => ?_)
    · refine lv_aload_n hx hb d_P_pixel_28 rfl (lv_at hl 0 rfl) ?_
      refine va_get (D := D) (ci := 2) (v := .ref (ad 1)) (C := K_P) (T := F_P) (N := 7) hx hb hG in_P hown hK.1 hP 0 rfl rfl 1 (by decide) (hG _ wd_110) (fun _ h9 => h9) rfl d_P_pixel_29 ?_
      refine lv_iload_n hx hb d_P_pixel_32 rfl (lv_at hl 1 rfl) ?_
      have hPc := hP.sub (ws' := [((ad 1), .inr (0, [.int (nI 16384), .ref a1, .int (nI R1.2.2)])), (a1, .inl (E.1, R1.1, .inr (.inl R1.2.1)))]) [1, 2] rfl
      refine vp_callSl (W.runV (As := [.int (nI i)]) (rest := []) ⟨hx, hb, hml, hown, hts⟩ (k_R_at l D E (ad 1) a1 (nI 16384) (nI i) R1.2.2 R1.1 R1.2.1 o1.2.1 (by omega)) (cwV 1 hts (gw_gv wd_483 wd_484 wd_485 wd_41 wd_486) rfl rfl rfl (by decide +kernel) ⟨Nat.le_of_ble_eq_true rfl, Nat.le_of_ble_eq_true rfl⟩) (rP_V 0 hPc hK rfl rfl) rfl rfl hl.1 rfl (lv_room (Nat.le_of_ble_eq_true rfl)) d_P_pixel_33 ⟨Nat.le_of_ble_eq_true rfl, Nat.le_of_ble_eq_true rfl⟩) (fun r3 hr3 => ?_)
      rw [rw_at_in h1 (by omega)] at hr3
      subst hr3
      refine lv_iload_n hx hb d_P_pixel_36 rfl (lv_at hl 2 rfl) ?_
      have hPc := hP.sub (ws' := []) [] rfl
      refine vp_callSi (W.runS (As := [.long (R1.2.1 i), .int wh]) (rest := []) ⟨hx, hb, hml, hown, hts⟩ (k_P_keyPart l D E (R1.2.1 i) wh) (va_cwS 2 hts (gw_gs wd_604 wd_605 wd_37 wd_606) rfl rfl rfl (by decide +kernel) ⟨Nat.le_of_ble_eq_true rfl, Nat.le_of_ble_eq_true rfl⟩) (rP_S hPc hK) rfl rfl hl.1 rfl (lv_room (Nat.le_of_ble_eq_true rfl)) d_P_pixel_37 ⟨Nat.le_of_ble_eq_true rfl, Nat.le_of_ble_eq_true rfl⟩) (fun r4 hr4 => ?_)
      subst hr4
      exact W.iret (v := (sg_kp (R1.2.1 i) wh)) hx hb hrt (fun t ht hW => ⟨(sg_kp (R1.2.1 i) wh), rfl, rfl, ht⟩) (fun q h => nomatch h) d_P_pixel_40 hlocks
    · exact absurd c2 (by decide)
set_option maxHeartbeats 4000000 in
set_option maxRecDepth 100000 in
theorem k_P_chain (l : Launch) (D : va_G) (E : ClassId × ClassId × ClassId × ClassId) (h0 ed k a2 : Nat) (ad : Nat → Nat) (sn mo9 : Int32) (hk : k ≤ 2048) (R2 : RS) (o2 : rs_ok 2049 R2) (i : Nat) (h1 : i < k) (h2 : ¬ sn = 0) : Met l y_P_chain (.code y_P_chain c_P_chain 2 (some .int) :: gw) ({ frames := 3, cells := 0, slots := 0, locals := 70 } : Room) (rP D E [(h0, .inr (2, [.ref (ad 0), .ref (ad 1), .ref (ad 2), .ref (ad 3), .ref (ad 4), .ref (ad 5), .int sn])), ((ad 0), .inr (4, [.ref ed, .int (nI k), .int mo9])), ((ad 2), .inr (0, [.int (nI 2049), .ref a2, .int (nI R2.2.2)])), (a2, .inl (E.1, R2.1, .inr (.inl R2.2.1)))] [.ref h0, .int (nI i)]) (vp_Si (fun r => r = cst R2 (nI (i + 1)) - cst R2 (nI i))) 0 0 (fun _ => False) := by
  refine rd_ofW (by decide) (Nat.le_of_ble_eq_true rfl) ?_
  intro p e s m below meth c B hP hK ls hl
  obtain ⟨hx, hb, hrt, hml, hown, hts, hG, hlocks, hin⟩ := B
  have hl : lv_has ls 2 [(0, .ref h0), (1, .int (nI i))] := hl
  have p3 := o2.2.2
  refine lv_aload_n hx hb d_P_chain_0 rfl (lv_at hl 0 rfl) ?_
  refine lv_iload_n hx hb d_P_chain_1 rfl (lv_at hl 1 rfl) ?_
  have hPc := hP.sub (ws' := [(h0, .inr (2, [.ref (ad 0), .ref (ad 1), .ref (ad 2), .ref (ad 3), .ref (ad 4), .ref (ad 5), .int sn])), ((ad 0), .inr (4, [.ref ed, .int (nI k), .int mo9]))]) [0, 1] rfl
  refine vp_callSi (W.runV (As := [.int (nI i)]) (rest := []) ⟨hx, hb, hml, hown, hts⟩ (k_P_hasSegment l D E h0 ed k ad sn mo9 (nI i)) (cwV 1 hts (gw_gv wd_571 wd_573 wd_20 wd_37 wd_574) rfl rfl rfl (by decide +kernel) ⟨Nat.le_of_ble_eq_true rfl, Nat.le_of_ble_eq_true rfl⟩) (rP_V 0 hPc hK rfl rfl) rfl rfl hl.1 rfl (lv_room (Nat.le_of_ble_eq_true rfl)) d_P_chain_2 ⟨Nat.le_of_ble_eq_true rfl, Nat.le_of_ble_eq_true rfl⟩) (fun rh1 hrh1 => ?_)
  rw [rw_has_in h1 (by omega)] at hrh1
  subst hrh1
  refine lv_if_ne (tgt := 18) hx hb d_P_chain_5 (by decide) (fun c1 => ?_) (fun c1 => ?_)
  · refine lv_aload_n hx hb d_P_chain_18 rfl (lv_at hl 0 rfl) ?_
    refine va_get (D := D) (ci := 2) (v := .int sn) (C := K_P) (T := F_P) (N := 7) hx hb hG in_P hown hK.1 hP 0 rfl rfl 6 (by decide) (hG _ wd_115) (fun _ h9 => h9) rfl d_P_chain_19 ?_
    refine lv_if_ne (tgt := 35) hx hb d_P_chain_22 (by decide) (fun c2 => ?_) (fun c2 => ?_)
    · refine lv_aload_n hx hb d_P_chain_35 rfl (lv_at hl 0 rfl) ?_
      refine lv_iload_n hx hb d_P_chain_36 rfl (lv_at hl 1 rfl) ?_
      refine lv_iconst (v := 1) hx hb d_P_chain_37 (by decide) ?_
      refine lv_iadd hx hb d_P_chain_38 ?_
      rw [show (nI i + 1) = nI (i + 1) from nI_1 _]
      have hPc := hP.sub (ws' := [(h0, .inr (2, [.ref (ad 0), .ref (ad 1), .ref (ad 2), .ref (ad 3), .ref (ad 4), .ref (ad 5), .int sn])), ((ad 2), .inr (0, [.int (nI 2049), .ref a2, .int (nI R2.2.2)])), (a2, .inl (E.1, R2.1, .inr (.inl R2.2.1)))]) [0, 2, 3] rfl
      refine vp_callSi (W.runV (As := [.int (nI (i + 1))]) (rest := []) ⟨hx, hb, hml, hown, hts⟩ (k_P_chainStart l D E h0 a2 ad sn (nI (i + 1)) R2 o2.2.1 (by omega)) (cwV 1 hts (gw_gv wd_552 wd_554 wd_19 wd_37 wd_555) rfl rfl rfl (by decide +kernel) ⟨Nat.le_of_ble_eq_true rfl, Nat.le_of_ble_eq_true rfl⟩) (rP_V 0 hPc hK rfl rfl) rfl rfl hl.1 rfl (lv_room (Nat.le_of_ble_eq_true rfl)) d_P_chain_39 ⟨Nat.le_of_ble_eq_true rfl, Nat.le_of_ble_eq_true rfl⟩) (fun r3 hr3 => ?_)
      obtain rfl : r3 = cst R2 (nI (i + 1)) := hr3
      refine lv_aload_n hx hb d_P_chain_42 rfl (lv_at hl 0 rfl) ?_
      refine lv_iload_n hx hb d_P_chain_43 rfl (lv_at hl 1 rfl) ?_
      have hPc := hP.sub (ws' := [(h0, .inr (2, [.ref (ad 0), .ref (ad 1), .ref (ad 2), .ref (ad 3), .ref (ad 4), .ref (ad 5), .int sn])), ((ad 2), .inr (0, [.int (nI 2049), .ref a2, .int (nI R2.2.2)])), (a2, .inl (E.1, R2.1, .inr (.inl R2.2.1)))]) [0, 2, 3] rfl
      refine vp_callSi (W.runV (As := [.int (nI i)]) (rest := [.int (cst R2 (nI (i + 1)))]) ⟨hx, hb, hml, hown, hts⟩ (k_P_chainStart l D E h0 a2 ad sn (nI i) R2 o2.2.1 (by omega)) (cwV 1 hts (gw_gv wd_552 wd_554 wd_19 wd_37 wd_555) rfl rfl rfl (by decide +kernel) ⟨Nat.le_of_ble_eq_true rfl, Nat.le_of_ble_eq_true rfl⟩) (rP_V 0 hPc hK rfl rfl) rfl rfl hl.1 rfl (lv_room (Nat.le_of_ble_eq_true rfl)) d_P_chain_44 ⟨Nat.le_of_ble_eq_true rfl, Nat.le_of_ble_eq_true rfl⟩) (fun r4 hr4 => ?_)
      obtain rfl : r4 = cst R2 (nI i) := hr4
      refine lv_isub hx hb d_P_chain_47 ?_
      exact W.iret (v := ((cst R2 (nI (i + 1))) - (cst R2 (nI i)))) hx hb hrt (fun t ht hW => ⟨((cst R2 (nI (i + 1))) - (cst R2 (nI i))), rfl, rfl, ht⟩) (fun q h => nomatch h) d_P_chain_48 hlocks
    · exact absurd c2 h2
  · exact absurd c1 (by decide)
set_option maxHeartbeats 4000000 in
set_option maxRecDepth 100000 in
theorem k_P_chainAt (l : Launch) (D : va_G) (E : ClassId × ClassId × ClassId × ClassId) (h0 ed k a2 a3 : Nat) (ad : Nat → Nat) (sn mo9 : Int32) (hk : k ≤ 2048) (R2 : RS) (o2 : rs_ok 2049 R2) (i : Nat) (h1 : i < k) (h2 : ¬ sn = 0) (R3 : RS) (o3 : rs_ok 65536 R3) (g : Int32) (h3 : ¬ g < 0) (h4 : g < cst R2 (nI (i + 1)) - cst R2 (nI i)) : Met l y_P_chainAt (.code y_P_chainAt c_P_chainAt 4 (some .int) :: gw) ({ frames := 3, cells := 0, slots := 0, locals := 70 } : Room) (rP D E [(h0, .inr (2, [.ref (ad 0), .ref (ad 1), .ref (ad 2), .ref (ad 3), .ref (ad 4), .ref (ad 5), .int sn])), ((ad 0), .inr (4, [.ref ed, .int (nI k), .int mo9])), ((ad 2), .inr (0, [.int (nI 2049), .ref a2, .int (nI R2.2.2)])), (a2, .inl (E.1, R2.1, .inr (.inl R2.2.1))), ((ad 3), .inr (0, [.int (nI 65536), .ref a3, .int (nI R3.2.2)])), (a3, .inl (E.1, R3.1, .inr (.inl R3.2.1)))] [.ref h0, .int (nI i), .int g]) (vp_Si (fun r => r = (rw_at R3.2.1 (nI R3.2.2) (cst R2 (nI i) + g)).toInt32)) 0 0 (fun _ => False) := by
  refine rd_ofW (by decide) (Nat.le_of_ble_eq_true rfl) ?_
  intro p e s m below meth c B hP hK ls hl
  obtain ⟨hx, hb, hrt, hml, hown, hts, hG, hlocks, hin⟩ := B
  have hl : lv_has ls 4 [(0, .ref h0), (1, .int (nI i)), (2, .int g)] := hl
  have p3 := o2.2.2
  have p4 := o3.2.2
  refine lv_aload_n hx hb d_P_chainAt_0 rfl (lv_at hl 0 rfl) ?_
  refine lv_iload_n hx hb d_P_chainAt_1 rfl (lv_at hl 1 rfl) ?_
  have hPc := hP.sub (ws' := [(h0, .inr (2, [.ref (ad 0), .ref (ad 1), .ref (ad 2), .ref (ad 3), .ref (ad 4), .ref (ad 5), .int sn])), ((ad 0), .inr (4, [.ref ed, .int (nI k), .int mo9]))]) [0, 1] rfl
  refine vp_callSi (W.runV (As := [.int (nI i)]) (rest := []) ⟨hx, hb, hml, hown, hts⟩ (k_P_hasSegment l D E h0 ed k ad sn mo9 (nI i)) (cwV 1 hts (gw_gv wd_571 wd_573 wd_20 wd_37 wd_574) rfl rfl rfl (by decide +kernel) ⟨Nat.le_of_ble_eq_true rfl, Nat.le_of_ble_eq_true rfl⟩) (rP_V 0 hPc hK rfl rfl) rfl rfl hl.1 rfl (lv_room (Nat.le_of_ble_eq_true rfl)) d_P_chainAt_2 ⟨Nat.le_of_ble_eq_true rfl, Nat.le_of_ble_eq_true rfl⟩) (fun rh1 hrh1 => ?_)
  rw [rw_has_in h1 (by omega)] at hrh1
  subst hrh1
  refine lv_if_ne (tgt := 18) hx hb d_P_chainAt_5 (by decide) (fun c1 => ?_) (fun c1 => ?_)
  · refine lv_aload_n hx hb d_P_chainAt_18 rfl (lv_at hl 0 rfl) ?_
    refine va_get (D := D) (ci := 2) (v := .int sn) (C := K_P) (T := F_P) (N := 7) hx hb hG in_P hown hK.1 hP 0 rfl rfl 6 (by decide) (hG _ wd_115) (fun _ h9 => h9) rfl d_P_chainAt_19 ?_
    refine lv_if_ne (tgt := 35) hx hb d_P_chainAt_22 (by decide) (fun c2 => ?_) (fun c2 => ?_)
    · refine lv_aload_n hx hb d_P_chainAt_35 rfl (lv_at hl 0 rfl) ?_
      refine lv_iload_n hx hb d_P_chainAt_36 rfl (lv_at hl 1 rfl) ?_
      have hPc := hP.sub (ws' := [(h0, .inr (2, [.ref (ad 0), .ref (ad 1), .ref (ad 2), .ref (ad 3), .ref (ad 4), .ref (ad 5), .int sn])), ((ad 2), .inr (0, [.int (nI 2049), .ref a2, .int (nI R2.2.2)])), (a2, .inl (E.1, R2.1, .inr (.inl R2.2.1)))]) [0, 2, 3] rfl
      refine vp_callSi (W.runV (As := [.int (nI i)]) (rest := []) ⟨hx, hb, hml, hown, hts⟩ (k_P_chainStart l D E h0 a2 ad sn (nI i) R2 o2.2.1 (by omega)) (cwV 1 hts (gw_gv wd_552 wd_554 wd_19 wd_37 wd_555) rfl rfl rfl (by decide +kernel) ⟨Nat.le_of_ble_eq_true rfl, Nat.le_of_ble_eq_true rfl⟩) (rP_V 0 hPc hK rfl rfl) rfl rfl hl.1 rfl (lv_room (Nat.le_of_ble_eq_true rfl)) d_P_chainAt_37 ⟨Nat.le_of_ble_eq_true rfl, Nat.le_of_ble_eq_true rfl⟩) (fun r3 hr3 => ?_)
      obtain rfl : r3 = cst R2 (nI i) := hr3
      refine lv_istore_n (lv' := [(3, .int (cst R2 (nI i))), (0, .ref h0), (1, .int (nI i)), (2, .int g)]) hx hb d_P_chainAt_40 rfl hl (by decide) rfl (fun ls hl => ?_)
      refine lv_iload_n hx hb d_P_chainAt_41 rfl (lv_at hl 3 rfl) ?_
      refine lv_if_lt (tgt := 58) hx hb d_P_chainAt_42 (by decide) (fun c3 => ?_) (fun c3 => ?_)
      · exact absurd c3 h3
      · refine lv_iload_n hx hb d_P_chainAt_45 rfl (lv_at hl 3 rfl) ?_
        refine lv_aload_n hx hb d_P_chainAt_46 rfl (lv_at hl 1 rfl) ?_
        refine lv_iload_n hx hb d_P_chainAt_47 rfl (lv_at hl 2 rfl) ?_
        refine lv_iconst (v := 1) hx hb d_P_chainAt_48 (by decide) ?_
        refine lv_iadd hx hb d_P_chainAt_49 ?_
        rw [show (nI i + 1) = nI (i + 1) from nI_1 _]
        have hPc := hP.sub (ws' := [(h0, .inr (2, [.ref (ad 0), .ref (ad 1), .ref (ad 2), .ref (ad 3), .ref (ad 4), .ref (ad 5), .int sn])), ((ad 2), .inr (0, [.int (nI 2049), .ref a2, .int (nI R2.2.2)])), (a2, .inl (E.1, R2.1, .inr (.inl R2.2.1)))]) [0, 2, 3] rfl
        refine vp_callSi (W.runV (As := [.int (nI (i + 1))]) (rest := [.int g]) ⟨hx, hb, hml, hown, hts⟩ (k_P_chainStart l D E h0 a2 ad sn (nI (i + 1)) R2 o2.2.1 (by omega)) (cwV 1 hts (gw_gv wd_552 wd_554 wd_19 wd_37 wd_555) rfl rfl rfl (by decide +kernel) ⟨Nat.le_of_ble_eq_true rfl, Nat.le_of_ble_eq_true rfl⟩) (rP_V 0 hPc hK rfl rfl) rfl rfl hl.1 rfl (lv_room (Nat.le_of_ble_eq_true rfl)) d_P_chainAt_50 ⟨Nat.le_of_ble_eq_true rfl, Nat.le_of_ble_eq_true rfl⟩) (fun r4 hr4 => ?_)
        obtain rfl : r4 = cst R2 (nI (i + 1)) := hr4
        refine lv_iload_n hx hb d_P_chainAt_53 rfl (lv_at hl 0 rfl) ?_
        refine lv_isub hx hb d_P_chainAt_54 ?_
        refine lv_icmp_lt (tgt := 68) hx hb d_P_chainAt_55 (by decide) (fun c4 => ?_) (fun c4 => ?_)
        · refine lv_aload_n hx hb d_P_chainAt_68 rfl (lv_at hl 1 rfl) ?_
          refine va_get (D := D) (ci := 2) (v := .ref (ad 3)) (C := K_P) (T := F_P) (N := 7) hx hb hG in_P hown hK.1 hP 0 rfl rfl 3 (by decide) (hG _ wd_112) (fun _ h9 => h9) rfl d_P_chainAt_69 ?_
          refine lv_iload_n hx hb d_P_chainAt_72 rfl (lv_at hl 0 rfl) ?_
          refine lv_iload_n hx hb d_P_chainAt_73 rfl (lv_at hl 3 rfl) ?_
          refine lv_iadd hx hb d_P_chainAt_74 ?_
          have hPc := hP.sub (ws' := [((ad 3), .inr (0, [.int (nI 65536), .ref a3, .int (nI R3.2.2)])), (a3, .inl (E.1, R3.1, .inr (.inl R3.2.1)))]) [4, 5] rfl
          refine vp_callSl (W.runV (As := [.int ((cst R2 (nI i)) + g)]) (rest := []) ⟨hx, hb, hml, hown, hts⟩ (k_R_at l D E (ad 3) a3 (nI 65536) (cst R2 (nI i) + g) R3.2.2 R3.1 R3.2.1 o3.2.1 (by omega)) (cwV 1 hts (gw_gv wd_483 wd_484 wd_485 wd_41 wd_486) rfl rfl rfl (by decide +kernel) ⟨Nat.le_of_ble_eq_true rfl, Nat.le_of_ble_eq_true rfl⟩) (rP_V 0 hPc hK rfl rfl) rfl rfl hl.1 rfl (lv_room (Nat.le_of_ble_eq_true rfl)) d_P_chainAt_75 ⟨Nat.le_of_ble_eq_true rfl, Nat.le_of_ble_eq_true rfl⟩) (fun r5 hr5 => ?_)
          subst hr5
          refine lv_l2i hx hb d_P_chainAt_78 rfl ?_
          exact W.iret (v := (Int64.toInt32 (rw_at R3.2.1 (nI R3.2.2) (cst R2 (nI i) + g)))) hx hb hrt (fun t ht hW => ⟨(Int64.toInt32 (rw_at R3.2.1 (nI R3.2.2) (cst R2 (nI i) + g))), rfl, rfl, ht⟩) (fun q h => nomatch h) d_P_chainAt_79 hlocks
        · exact absurd h4 c4
    · exact absurd c2 h2
  · exact absurd c1 (by decide)
def pc_r (R4 R5 : RS) (i : Nat) (wh : Int32) : Int32 := if wh = 2 then (rw_at R5.2.1 (nI R5.2.2) (nI i)).toInt32 else if wh = 0 then ((R4.2.1 i) >>> (Int32.toInt64 13 &&& 63)).toInt32 else ((R4.2.1 i) &&& 8191).toInt32
set_option maxHeartbeats 4000000 in
set_option maxRecDepth 100000 in
theorem k_P_piece (l : Launch) (D : va_G) (E : ClassId × ClassId × ClassId × ClassId) (h0 a4 a5 : Nat) (ad : Nat → Nat) (sn : Int32) (R4 R5 : RS) (o4 : rs_ok 65536 R4) (o5 : rs_ok 65536 R5) (i : Nat) (wh : Int32) (h1 : i < R4.2.2) (h2 : ¬ wh < 0) (h3 : ¬ 2 < wh) : Met l y_P_piece (.code y_P_piece c_P_piece 5 (some .int) :: gw) ({ frames := 2, cells := 0, slots := 0, locals := 60 } : Room) (rP D E [(h0, .inr (2, [.ref (ad 0), .ref (ad 1), .ref (ad 2), .ref (ad 3), .ref (ad 4), .ref (ad 5), .int sn])), ((ad 4), .inr (0, [.int (nI 65536), .ref a4, .int (nI R4.2.2)])), (a4, .inl (E.1, R4.1, .inr (.inl R4.2.1))), ((ad 5), .inr (0, [.int (nI 65536), .ref a5, .int (nI R5.2.2)])), (a5, .inl (E.1, R5.1, .inr (.inl R5.2.1)))] [.ref h0, .int (nI i), .int wh]) (vp_Si (fun r => r = pc_r R4 R5 i wh)) 0 0 (fun _ => False) := by
  refine rd_ofW (by decide) (Nat.le_of_ble_eq_true rfl) ?_
  intro p e s m below meth c B hP hK ls hl
  obtain ⟨hx, hb, hrt, hml, hown, hts, hG, hlocks, hin⟩ := B
  have hl : lv_has ls 5 [(0, .ref h0), (1, .int (nI i)), (2, .int wh)] := hl
  have p2 := o4.2.1
  have p3 := o4.2.2
  have p4 := o5.2.2
  refine lv_aload_n hx hb d_P_piece_0 rfl (lv_at hl 0 rfl) ?_
  refine va_get (D := D) (ci := 2) (v := .ref (ad 4)) (C := K_P) (T := F_P) (N := 7) hx hb hG in_P hown hK.1 hP 0 rfl rfl 4 (by decide) (hG _ wd_113) (fun _ h9 => h9) rfl d_P_piece_1 ?_
  refine lv_iload_n hx hb d_P_piece_4 rfl (lv_at hl 1 rfl) ?_
  have hPc := hP.sub (ws' := [((ad 4), .inr (0, [.int (nI 65536), .ref a4, .int (nI R4.2.2)]))]) [1] rfl
  refine vp_callSi (W.runV (As := [.int (nI i)]) (rest := []) ⟨hx, hb, hml, hown, hts⟩ (k_R_has l D E (ad 4) a4 (nI 65536) (nI R4.2.2) (nI i)) (cwV 1 hts (gw_gv wd_614 wd_488 wd_489 wd_41 wd_490) rfl rfl rfl (by decide +kernel) ⟨Nat.le_of_ble_eq_true rfl, Nat.le_of_ble_eq_true rfl⟩) (rP_V 0 hPc hK rfl rfl) rfl rfl hl.1 rfl (lv_room (Nat.le_of_ble_eq_true rfl)) d_P_piece_5 ⟨Nat.le_of_ble_eq_true rfl, Nat.le_of_ble_eq_true rfl⟩) (fun rh1 hrh1 => ?_)
  rw [rw_has_in h1 (by omega)] at hrh1
  subst hrh1
  refine lv_if_eq (tgt := 20) hx hb d_P_piece_8 (by decide) (fun c1 => ?_) (fun c1 => ?_)
  · exact absurd c1 (by decide)
  · refine lv_iload_n hx hb d_P_piece_11 rfl (lv_at hl 2 rfl) ?_
    refine lv_if_lt (tgt := 20) hx hb d_P_piece_12 (by decide) (fun c2 => ?_) (fun c2 => ?_)
    · exact absurd c2 h2
    · refine lv_iload_n hx hb d_P_piece_15 rfl (lv_at hl 2 rfl) ?_
      refine lv_iconst (v := 2) hx hb d_P_piece_16 (by decide) ?_
      refine lv_icmp_le (tgt := 30) hx hb d_P_piece_17 (by decide) (fun c3 => ?_) (fun c3 => ?_)
      · refine lv_iload_n hx hb d_P_piece_30 rfl (lv_at hl 2 rfl) ?_
        refine lv_iconst (v := 2) hx hb d_P_piece_31 (by decide) ?_
        refine lv_icmp_ne (tgt := 45) hx hb d_P_piece_32 (by decide) (fun c4 => ?_) (fun c4 => ?_)
        · refine lv_aload_n hx hb d_P_piece_45 rfl (lv_at hl 0 rfl) ?_
          refine va_get (D := D) (ci := 2) (v := .ref (ad 4)) (C := K_P) (T := F_P) (N := 7) hx hb hG in_P hown hK.1 hP 0 rfl rfl 4 (by decide) (hG _ wd_113) (fun _ h9 => h9) rfl d_P_piece_46 ?_
          refine lv_iload_n hx hb d_P_piece_49 rfl (lv_at hl 1 rfl) ?_
          have hPc := hP.sub (ws' := [((ad 4), .inr (0, [.int (nI 65536), .ref a4, .int (nI R4.2.2)])), (a4, .inl (E.1, R4.1, .inr (.inl R4.2.1)))]) [1, 2] rfl
          refine vp_callSl (W.runV (As := [.int (nI i)]) (rest := []) ⟨hx, hb, hml, hown, hts⟩ (k_R_at l D E (ad 4) a4 (nI 65536) (nI i) R4.2.2 R4.1 R4.2.1 o4.2.1 (by omega)) (cwV 1 hts (gw_gv wd_483 wd_484 wd_485 wd_41 wd_486) rfl rfl rfl (by decide +kernel) ⟨Nat.le_of_ble_eq_true rfl, Nat.le_of_ble_eq_true rfl⟩) (rP_V 0 hPc hK rfl rfl) rfl rfl hl.1 rfl (lv_room (Nat.le_of_ble_eq_true rfl)) d_P_piece_50 ⟨Nat.le_of_ble_eq_true rfl, Nat.le_of_ble_eq_true rfl⟩) (fun r5 hr5 => ?_)
          rw [rw_at_in h1 (by omega)] at hr5
          subst hr5
          refine lv_lstore_n (lv' := [(3, .long (R4.2.1 i)), (0, .ref h0), (1, .int (nI i)), (2, .int wh)]) hx hb d_P_piece_53 rfl hl (by decide) rfl (fun ls hl => ?_)
          refine lv_iload_n hx hb d_P_piece_54 rfl (lv_at hl 3 rfl) ?_
          refine lv_if_ne (tgt := 65) hx hb d_P_piece_55 (by decide) (fun c5 => ?_) (fun c5 => ?_)
          · refine lv_lload_n hx hb d_P_piece_65 rfl (lv_at hl 0 rfl) ?_
            refine lv_ldc2 hx hb hown (hG _ wd_640) d_P_piece_66 ?_
            refine lv_land hx hb d_P_piece_69 ?_
            refine lv_l2i hx hb d_P_piece_70 rfl ?_
            exact W.iret (v := (Int64.toInt32 ((R4.2.1 i) &&& 8191))) hx hb hrt (fun t ht hW => ⟨(Int64.toInt32 ((R4.2.1 i) &&& 8191)), rfl, by rw [pc_r, if_neg c4, if_neg c5], ht⟩) (fun q h => nomatch h) d_P_piece_71 hlocks
          · refine lv_lload_n hx hb d_P_piece_58 rfl (lv_at hl 0 rfl) ?_
            refine lv_bipush (v := 13) hx hb d_P_piece_59 (by decide) ?_
            refine lv_lshr hx hb d_P_piece_61 rfl ?_
            refine lv_goto (tgt := 70) hx hb d_P_piece_62 (by decide) ?_
            refine lv_l2i hx hb d_P_piece_70 rfl ?_
            exact W.iret (v := (Int64.toInt32 ((R4.2.1 i) >>> (Int32.toInt64 13 &&& 63)))) hx hb hrt (fun t ht hW => ⟨(Int64.toInt32 ((R4.2.1 i) >>> (Int32.toInt64 13 &&& 63))), rfl, by rw [pc_r, if_neg c4, if_pos c5], ht⟩) (fun q h => nomatch h) d_P_piece_71 hlocks
        · refine lv_aload_n hx hb d_P_piece_35 rfl (lv_at hl 0 rfl) ?_
          refine va_get (D := D) (ci := 2) (v := .ref (ad 5)) (C := K_P) (T := F_P) (N := 7) hx hb hG in_P hown hK.1 hP 0 rfl rfl 5 (by decide) (hG _ wd_114) (fun _ h9 => h9) rfl d_P_piece_36 ?_
          refine lv_iload_n hx hb d_P_piece_39 rfl (lv_at hl 1 rfl) ?_
          have hPc := hP.sub (ws' := [((ad 5), .inr (0, [.int (nI 65536), .ref a5, .int (nI R5.2.2)])), (a5, .inl (E.1, R5.1, .inr (.inl R5.2.1)))]) [3, 4] rfl
          refine vp_callSl (W.runV (As := [.int (nI i)]) (rest := []) ⟨hx, hb, hml, hown, hts⟩ (k_R_at l D E (ad 5) a5 (nI 65536) (nI i) R5.2.2 R5.1 R5.2.1 o5.2.1 (by omega)) (cwV 1 hts (gw_gv wd_483 wd_484 wd_485 wd_41 wd_486) rfl rfl rfl (by decide +kernel) ⟨Nat.le_of_ble_eq_true rfl, Nat.le_of_ble_eq_true rfl⟩) (rP_V 0 hPc hK rfl rfl) rfl rfl hl.1 rfl (lv_room (Nat.le_of_ble_eq_true rfl)) d_P_piece_40 ⟨Nat.le_of_ble_eq_true rfl, Nat.le_of_ble_eq_true rfl⟩) (fun r6 hr6 => ?_)
          subst hr6
          refine lv_l2i hx hb d_P_piece_43 rfl ?_
          exact W.iret (v := (Int64.toInt32 (rw_at R5.2.1 (nI R5.2.2) (nI i)))) hx hb hrt (fun t ht hW => ⟨(Int64.toInt32 (rw_at R5.2.1 (nI R5.2.2) (nI i))), rfl, by rw [pc_r, if_pos c4], ht⟩) (fun q h => nomatch h) d_P_piece_44 hlocks
      · exact absurd (Int32.not_le.mp c3) h3
end
