theorem d_M_clear_0 : decode c_M_clear 0 = .ok (.aload_n 0, 1) := by decide +kernel
theorem d_M_clear_1 : decode c_M_clear 1 = .ok (.iconst 0, 1) := by decide +kernel
theorem d_M_clear_2 : decode c_M_clear 2 = .ok (.putfield 46, 3) := by decide +kernel
theorem d_M_clear_5 : decode c_M_clear 5 = .ok (.aload_n 0, 1) := by decide +kernel
theorem d_M_clear_6 : decode c_M_clear 6 = .ok (.getfield 56, 3) := by decide +kernel
theorem d_M_clear_9 : decode c_M_clear 9 = .ok (.istore_n 1, 1) := by decide +kernel
theorem d_M_clear_10 : decode c_M_clear 10 = .ok (.aload_n 0, 1) := by decide +kernel
theorem d_M_clear_11 : decode c_M_clear 11 = .ok (.iconst 0, 1) := by decide +kernel
theorem d_M_clear_12 : decode c_M_clear 12 = .ok (.putfield 56, 3) := by decide +kernel
theorem d_M_clear_15 : decode c_M_clear 15 = .ok (.aload_n 0, 1) := by decide +kernel
theorem d_M_clear_16 : decode c_M_clear 16 = .ok (.invokevirtual 77, 3) := by decide +kernel
theorem d_M_clear_19 : decode c_M_clear 19 = .ok (.iload_n 1, 1) := by decide +kernel
theorem d_M_clear_20 : decode c_M_clear 20 = .ok (.ireturn, 1) := by decide +kernel
theorem d_M_forget_0 : decode c_M_forget 0 = .ok (.aload_n 0, 1) := by decide +kernel
theorem d_M_forget_1 : decode c_M_forget 1 = .ok (.iconst 0, 1) := by decide +kernel
theorem d_M_forget_2 : decode c_M_forget 2 = .ok (.putfield 59, 3) := by decide +kernel
theorem d_M_forget_5 : decode c_M_forget 5 = .ok (.aload_n 0, 1) := by decide +kernel
theorem d_M_forget_6 : decode c_M_forget 6 = .ok (.iconst 0, 1) := by decide +kernel
theorem d_M_forget_7 : decode c_M_forget 7 = .ok (.putfield 63, 3) := by decide +kernel
theorem d_M_forget_10 : decode c_M_forget 10 = .ok (.aload_n 0, 1) := by decide +kernel
theorem d_M_forget_11 : decode c_M_forget 11 = .ok (.iconst 0, 1) := by decide +kernel
theorem d_M_forget_12 : decode c_M_forget 12 = .ok (.putfield 66, 3) := by decide +kernel
theorem d_M_forget_15 : decode c_M_forget 15 = .ok (.iconst 0, 1) := by decide +kernel
theorem d_M_forget_16 : decode c_M_forget 16 = .ok (.istore_n 1, 1) := by decide +kernel
theorem d_M_forget_17 : decode c_M_forget 17 = .ok (.iload_n 1, 1) := by decide +kernel
theorem d_M_forget_18 : decode c_M_forget 18 = .ok (.sipush 2048, 3) := by decide +kernel
theorem d_M_forget_21 : decode c_M_forget 21 = .ok (.if_icmp .gt 16, 3) := by decide +kernel
theorem d_M_forget_24 : decode c_M_forget 24 = .ok (.aload_n 0, 1) := by decide +kernel
theorem d_M_forget_25 : decode c_M_forget 25 = .ok (.getfield 19, 3) := by decide +kernel
theorem d_M_forget_28 : decode c_M_forget 28 = .ok (.iload_n 1, 1) := by decide +kernel
theorem d_M_forget_29 : decode c_M_forget 29 = .ok (.iconst 0, 1) := by decide +kernel
theorem d_M_forget_30 : decode c_M_forget 30 = .ok (.iastore, 1) := by decide +kernel
theorem d_M_forget_31 : decode c_M_forget 31 = .ok (.iinc 1 1, 3) := by decide +kernel
theorem d_M_forget_34 : decode c_M_forget 34 = .ok (.goto (-17), 3) := by decide +kernel
theorem d_M_forget_37 : decode c_M_forget 37 = .ok (.return_, 1) := by decide +kernel
theorem d_M_meets_0 : decode c_M_meets 0 = .ok (.aload_n 0, 1) := by decide +kernel
theorem d_M_meets_1 : decode c_M_meets 1 = .ok (.iconst 0, 1) := by decide +kernel
theorem d_M_meets_2 : decode c_M_meets 2 = .ok (.putfield 46, 3) := by decide +kernel
theorem d_M_meets_5 : decode c_M_meets 5 = .ok (.aload_n 0, 1) := by decide +kernel
theorem d_M_meets_6 : decode c_M_meets 6 = .ok (.iload_n 1, 1) := by decide +kernel
theorem d_M_meets_7 : decode c_M_meets 7 = .ok (.invokevirtual 116, 3) := by decide +kernel
theorem d_M_meets_10 : decode c_M_meets 10 = .ok (.ifCond .ne 17, 3) := by decide +kernel
theorem d_M_meets_13 : decode c_M_meets 13 = .ok (.aload_n 0, 1) := by decide +kernel
theorem d_M_meets_14 : decode c_M_meets 14 = .ok (.iconst 1, 1) := by decide +kernel
theorem d_M_meets_15 : decode c_M_meets 15 = .ok (.invokevirtual 73, 3) := by decide +kernel
theorem d_M_meets_18 : decode c_M_meets 18 = .ok (.ifCond .le 7, 3) := by decide +kernel
theorem d_M_meets_25 : decode c_M_meets 25 = .ok (.iconst 0, 1) := by decide +kernel
theorem d_M_meets_26 : decode c_M_meets 26 = .ok (.ireturn, 1) := by decide +kernel
theorem d_M_meets_27 : decode c_M_meets 27 = .ok (.iload_n 2, 1) := by decide +kernel
theorem d_M_meets_28 : decode c_M_meets 28 = .ok (.invokestatic 69, 3) := by decide +kernel
theorem d_M_meets_31 : decode c_M_meets 31 = .ok (.ifCond .ne 10, 3) := by decide +kernel
theorem d_M_meets_34 : decode c_M_meets 34 = .ok (.iload_n 3, 1) := by decide +kernel
theorem d_M_meets_35 : decode c_M_meets 35 = .ok (.invokestatic 69, 3) := by decide +kernel
theorem d_M_meets_38 : decode c_M_meets 38 = .ok (.ifCond .eq 17, 3) := by decide +kernel
theorem d_M_meets_41 : decode c_M_meets 41 = .ok (.aload_n 0, 1) := by decide +kernel
theorem d_M_meets_42 : decode c_M_meets 42 = .ok (.iconst 2, 1) := by decide +kernel
theorem d_M_meets_43 : decode c_M_meets 43 = .ok (.invokevirtual 73, 3) := by decide +kernel
theorem d_M_meets_46 : decode c_M_meets 46 = .ok (.ifCond .le 7, 3) := by decide +kernel
theorem d_M_meets_53 : decode c_M_meets 53 = .ok (.iconst 0, 1) := by decide +kernel
theorem d_M_meets_54 : decode c_M_meets 54 = .ok (.ireturn, 1) := by decide +kernel
theorem d_M_meets_55 : decode c_M_meets 55 = .ok (.aload_n 0, 1) := by decide +kernel
theorem d_M_meets_56 : decode c_M_meets 56 = .ok (.iload_n 1, 1) := by decide +kernel
theorem d_M_meets_57 : decode c_M_meets 57 = .ok (.iload_n 2, 1) := by decide +kernel
theorem d_M_meets_58 : decode c_M_meets 58 = .ok (.iload_n 3, 1) := by decide +kernel
theorem d_M_meets_59 : decode c_M_meets 59 = .ok (.invokevirtual 119, 3) := by decide +kernel
theorem d_M_meets_62 : decode c_M_meets 62 = .ok (.ireturn, 1) := by decide +kernel
theorem d_M_segment_0 : decode c_M_segment 0 = .ok (.aload_n 0, 1) := by decide +kernel
theorem d_M_segment_1 : decode c_M_segment 1 = .ok (.iconst 0, 1) := by decide +kernel
theorem d_M_segment_2 : decode c_M_segment 2 = .ok (.putfield 46, 3) := by decide +kernel
theorem d_M_segment_5 : decode c_M_segment 5 = .ok (.iload_n 1, 1) := by decide +kernel
theorem d_M_segment_6 : decode c_M_segment 6 = .ok (.invokestatic 69, 3) := by decide +kernel
theorem d_M_segment_9 : decode c_M_segment 9 = .ok (.ifCond .ne 25, 3) := by decide +kernel
theorem d_M_segment_12 : decode c_M_segment 12 = .ok (.iload_n 2, 1) := by decide +kernel
theorem d_M_segment_13 : decode c_M_segment 13 = .ok (.invokestatic 69, 3) := by decide +kernel
theorem d_M_segment_16 : decode c_M_segment 16 = .ok (.ifCond .ne 18, 3) := by decide +kernel
theorem d_M_segment_19 : decode c_M_segment 19 = .ok (.iload_n 3, 1) := by decide +kernel
theorem d_M_segment_20 : decode c_M_segment 20 = .ok (.invokestatic 69, 3) := by decide +kernel
theorem d_M_segment_23 : decode c_M_segment 23 = .ok (.ifCond .ne 11, 3) := by decide +kernel
theorem d_M_segment_26 : decode c_M_segment 26 = .ok (.iload 4, 2) := by decide +kernel
theorem d_M_segment_28 : decode c_M_segment 28 = .ok (.invokestatic 69, 3) := by decide +kernel
theorem d_M_segment_31 : decode c_M_segment 31 = .ok (.ifCond .eq 9, 3) := by decide +kernel
theorem d_M_segment_34 : decode c_M_segment 34 = .ok (.aload_n 0, 1) := by decide +kernel
theorem d_M_segment_35 : decode c_M_segment 35 = .ok (.iconst 1, 1) := by decide +kernel
theorem d_M_segment_36 : decode c_M_segment 36 = .ok (.invokevirtual 73, 3) := by decide +kernel
theorem d_M_segment_39 : decode c_M_segment 39 = .ok (.ireturn, 1) := by decide +kernel
theorem d_M_segment_40 : decode c_M_segment 40 = .ok (.aload_n 0, 1) := by decide +kernel
theorem d_M_segment_41 : decode c_M_segment 41 = .ok (.getfield 56, 3) := by decide +kernel
theorem d_M_segment_44 : decode c_M_segment 44 = .ok (.sipush 2048, 3) := by decide +kernel
theorem d_M_segment_47 : decode c_M_segment 47 = .ok (.if_icmp .ne 9, 3) := by decide +kernel
theorem d_M_segment_50 : decode c_M_segment 50 = .ok (.aload_n 0, 1) := by decide +kernel
theorem d_M_segment_51 : decode c_M_segment 51 = .ok (.iconst 2, 1) := by decide +kernel
theorem d_M_segment_52 : decode c_M_segment 52 = .ok (.invokevirtual 73, 3) := by decide +kernel
theorem d_M_segment_55 : decode c_M_segment 55 = .ok (.ireturn, 1) := by decide +kernel
theorem d_M_segment_56 : decode c_M_segment 56 = .ok (.aload_n 0, 1) := by decide +kernel
theorem d_M_segment_57 : decode c_M_segment 57 = .ok (.invokevirtual 77, 3) := by decide +kernel
theorem d_M_segment_60 : decode c_M_segment 60 = .ok (.iconst 4, 1) := by decide +kernel
theorem d_M_segment_61 : decode c_M_segment 61 = .ok (.aload_n 0, 1) := by decide +kernel
theorem d_M_segment_62 : decode c_M_segment 62 = .ok (.getfield 56, 3) := by decide +kernel
theorem d_M_segment_65 : decode c_M_segment 65 = .ok (.imul, 1) := by decide +kernel
theorem d_M_segment_66 : decode c_M_segment 66 = .ok (.istore 5, 2) := by decide +kernel
theorem d_M_segment_68 : decode c_M_segment 68 = .ok (.aload_n 0, 1) := by decide +kernel
theorem d_M_segment_69 : decode c_M_segment 69 = .ok (.getfield 7, 3) := by decide +kernel
theorem d_M_segment_72 : decode c_M_segment 72 = .ok (.iload 5, 2) := by decide +kernel
theorem d_M_segment_74 : decode c_M_segment 74 = .ok (.iload_n 1, 1) := by decide +kernel
theorem d_M_segment_75 : decode c_M_segment 75 = .ok (.iastore, 1) := by decide +kernel
theorem d_M_segment_76 : decode c_M_segment 76 = .ok (.aload_n 0, 1) := by decide +kernel
theorem d_M_segment_77 : decode c_M_segment 77 = .ok (.getfield 7, 3) := by decide +kernel
theorem d_M_segment_80 : decode c_M_segment 80 = .ok (.iload 5, 2) := by decide +kernel
theorem d_M_segment_82 : decode c_M_segment 82 = .ok (.iconst 1, 1) := by decide +kernel
theorem d_M_segment_83 : decode c_M_segment 83 = .ok (.iadd, 1) := by decide +kernel
theorem d_M_segment_84 : decode c_M_segment 84 = .ok (.iload_n 2, 1) := by decide +kernel
theorem d_M_segment_85 : decode c_M_segment 85 = .ok (.iastore, 1) := by decide +kernel
theorem d_M_segment_86 : decode c_M_segment 86 = .ok (.aload_n 0, 1) := by decide +kernel
theorem d_M_segment_87 : decode c_M_segment 87 = .ok (.getfield 7, 3) := by decide +kernel
theorem d_M_segment_90 : decode c_M_segment 90 = .ok (.iload 5, 2) := by decide +kernel
theorem d_M_segment_92 : decode c_M_segment 92 = .ok (.iconst 2, 1) := by decide +kernel
theorem d_M_segment_93 : decode c_M_segment 93 = .ok (.iadd, 1) := by decide +kernel
theorem d_M_segment_94 : decode c_M_segment 94 = .ok (.iload_n 3, 1) := by decide +kernel
theorem d_M_segment_95 : decode c_M_segment 95 = .ok (.iastore, 1) := by decide +kernel
theorem d_M_segment_96 : decode c_M_segment 96 = .ok (.aload_n 0, 1) := by decide +kernel
theorem d_M_segment_97 : decode c_M_segment 97 = .ok (.getfield 7, 3) := by decide +kernel
theorem d_M_segment_100 : decode c_M_segment 100 = .ok (.iload 5, 2) := by decide +kernel
theorem d_M_segment_102 : decode c_M_segment 102 = .ok (.iconst 3, 1) := by decide +kernel
theorem d_M_segment_103 : decode c_M_segment 103 = .ok (.iadd, 1) := by decide +kernel
theorem d_M_segment_104 : decode c_M_segment 104 = .ok (.iload 4, 2) := by decide +kernel
theorem d_M_segment_106 : decode c_M_segment 106 = .ok (.iastore, 1) := by decide +kernel
theorem d_M_segment_107 : decode c_M_segment 107 = .ok (.aload_n 0, 1) := by decide +kernel
theorem d_M_segment_108 : decode c_M_segment 108 = .ok (.dup, 1) := by decide +kernel
theorem d_M_segment_109 : decode c_M_segment 109 = .ok (.getfield 56, 3) := by decide +kernel
theorem d_M_segment_112 : decode c_M_segment 112 = .ok (.iconst 1, 1) := by decide +kernel
theorem d_M_segment_113 : decode c_M_segment 113 = .ok (.iadd, 1) := by decide +kernel
theorem d_M_segment_114 : decode c_M_segment 114 = .ok (.putfield 56, 3) := by decide +kernel
theorem d_M_segment_117 : decode c_M_segment 117 = .ok (.aload_n 0, 1) := by decide +kernel
theorem d_M_segment_118 : decode c_M_segment 118 = .ok (.getfield 56, 3) := by decide +kernel
theorem d_M_segment_121 : decode c_M_segment 121 = .ok (.iconst 1, 1) := by decide +kernel
theorem d_M_segment_122 : decode c_M_segment 122 = .ok (.isub, 1) := by decide +kernel
theorem d_M_segment_123 : decode c_M_segment 123 = .ok (.ireturn, 1) := by decide +kernel
noncomputable section
def mg_z (bg : Nat → Int32) (k : Nat) : Nat → Int32 := fun j => if j < k then 0 else bg j
theorem mg_z_s (bg : Nat → Int32) (k : Nat) : upd (mg_z bg k) k 0 = mg_z bg (k + 1) := by
  funext j
  by_cases e : j = k
  · subst e
    rw [pk_us, mg_z, if_pos (by omega)]
  · rw [pk_un e, mg_z, mg_z]
    by_cases c : j < k
    · rw [if_pos c, if_pos (by omega)]
    · rw [if_neg c, if_neg (by omega)]
theorem mg_z_0 (bg : Nat → Int32) : mg_z bg 0 = bg := by
  funext j
  exact if_neg (by omega)
set_option maxHeartbeats 4000000 in
set_option maxRecDepth 100000 in
theorem k_M_forget (l : Launch) (D : va_G) (E : ClassId × ClassId × ClassId × ClassId) (h0 sz : Nat) (ad : Nat → Nat) (th sg sn hot pc cx cy : Int32) (fo fv to tv : Int64) (fi ti : Int32) (bg : Nat → Int32) : Met l y_M_forget (.code y_M_forget c_M_forget 2 none :: gw) ({ frames := 0, cells := 0, slots := 0, locals := 0 } : Room) (wP D E [(h0, .inr (3, mF ad th sg sn hot pc cx cy fo fv to tv fi ti)), ((ad 3), .inl (E.2.1, 2049, .inl bg))] sz [.ref h0]) (va_Qv (fun (u : Unit) => True) (wB D (fun _ => [(h0, .inr (3, mF ad th sg 0 0 0 cx cy fo fv to tv fi ti)), ((ad 3), .inl (E.2.1, 2049, .inl (mg_z bg 2049)))]) (va_A [(h0, .inr (3, mF ad th sg sn hot pc cx cy fo fv to tv fi ti)), ((ad 3), .inl (E.2.1, 2049, .inl bg))] sz)) (va_A [(h0, .inr (3, mF ad th sg sn hot pc cx cy fo fv to tv fi ti)), ((ad 3), .inl (E.2.1, 2049, .inl bg))] sz)) 0 0 (va_A [(h0, .inr (3, mF ad th sg sn hot pc cx cy fo fv to tv fi ti)), ((ad 3), .inl (E.2.1, 2049, .inl bg))] sz) := by
  refine wr_ofW (Qc := fun A => (va_Qv (fun (u : Unit) => True) (wB D (fun _ => [(h0, .inr (3, mF ad th sg 0 0 0 cx cy fo fv to tv fi ti)), ((ad 3), .inl (E.2.1, 2049, .inl (mg_z bg 2049)))]) A) A)) (by decide) (Nat.le_of_ble_eq_true rfl) ?_
  intro p e s m below meth c B hP hK A hA hD hS ls hl
  obtain ⟨hx, hb, hrt, hml, hown, hts, hG, hlocks, hin⟩ := B
  have hl : lv_has ls 2 [(0, .ref h0)] := hl
  refine lv_aload_n hx hb d_M_forget_0 rfl (lv_at hl 0 rfl) ?_
  refine lv_iconst (v := 0) hx hb d_M_forget_1 (by decide) ?_
  refine va_put (D := D) (ci := 3) (v := .int 0) (ty := .boolean) (C := K_M) (T := F_M) (N := 24) hx hb hG in_M t_M t_M_ok n_M hown hK.1 hP hD hS 0 rfl rfl 3 (by decide) (hG _ wd_651) (fun _ h9 => h9) rfl (by decide +kernel) rfl rfl (Nat.le_of_ble_eq_true rfl) d_M_forget_2 (fun H locs hP hD hS => ?_)
  have hP : va_P D vwC [(h0, .inr (3, mF ad th sg 0 hot pc cx cy fo fv to tv fi ti)), ((ad 3), .inl (E.2.1, 2049, .inl bg))] H := hP
  have hD : va_D A [(h0, .inr (3, mF ad th sg 0 hot pc cx cy fo fv to tv fi ti)), ((ad 3), .inl (E.2.1, 2049, .inl bg))] := hD
  refine lv_aload_n hx hb d_M_forget_5 rfl (lv_at hl 0 rfl) ?_
  refine lv_iconst (v := 0) hx hb d_M_forget_6 (by decide) ?_
  refine va_put (D := D) (ci := 3) (v := .int 0) (ty := .int) (C := K_M) (T := F_M) (N := 24) hx hb hG in_M t_M t_M_ok n_M hown hK.1 hP hD hS 0 rfl rfl 4 (by decide) (hG _ wd_652) (fun _ h9 => h9) rfl (by decide +kernel) rfl rfl (Nat.le_of_ble_eq_true rfl) d_M_forget_7 (fun H locs hP hD hS => ?_)
  have hP : va_P D vwC [(h0, .inr (3, mF ad th sg 0 0 pc cx cy fo fv to tv fi ti)), ((ad 3), .inl (E.2.1, 2049, .inl bg))] H := hP
  have hD : va_D A [(h0, .inr (3, mF ad th sg 0 0 pc cx cy fo fv to tv fi ti)), ((ad 3), .inl (E.2.1, 2049, .inl bg))] := hD
  refine lv_aload_n hx hb d_M_forget_10 rfl (lv_at hl 0 rfl) ?_
  refine lv_iconst (v := 0) hx hb d_M_forget_11 (by decide) ?_
  refine va_put (D := D) (ci := 3) (v := .int 0) (ty := .int) (C := K_M) (T := F_M) (N := 24) hx hb hG in_M t_M t_M_ok n_M hown hK.1 hP hD hS 0 rfl rfl 9 (by decide) (hG _ wd_657) (fun _ h9 => h9) rfl (by decide +kernel) rfl rfl (Nat.le_of_ble_eq_true rfl) d_M_forget_12 (fun H locs hP hD hS => ?_)
  have hP : va_P D vwC [(h0, .inr (3, mF ad th sg 0 0 0 cx cy fo fv to tv fi ti)), ((ad 3), .inl (E.2.1, 2049, .inl bg))] H := hP
  have hD : va_D A [(h0, .inr (3, mF ad th sg 0 0 0 cx cy fo fv to tv fi ti)), ((ad 3), .inl (E.2.1, 2049, .inl bg))] := hD
  refine lv_iconst (v := 0) hx hb d_M_forget_15 (by decide) ?_
  refine lv_istore_n (lv' := [(1, .int 0), (0, .ref h0)]) hx hb d_M_forget_16 rfl hl (by decide) rfl (fun ls hl => ?_)
  have loop : ∀ (fu : Nat) (k : Nat) (H : Heap) (locs : List Loc) (ls : Array Slot), (k ≤ 2049) → (2049 < k + fu) → va_P D vwC [(h0, .inr (3, mF ad th sg 0 0 0 cx cy fo fv to tv fi ti)), ((ad 3), .inl (E.2.1, 2049, .inl (mg_z bg k)))] H → va_D A [(h0, .inr (3, mF ad th sg 0 0 0 cx cy fo fv to tv fi ti)), ((ad 3), .inl (E.2.1, 2049, .inl (mg_z bg k)))] → va_S A s.heap H locs → lv_has ls 2 [(0, .ref h0), (1, .int (nI k))] → W p l e ({ frames := 0, cells := 0, slots := 0, locals := 0 } : Room) s m ([.ref h0] : List Value).toArray below meth c H locs 0 0 (MQ below (va_Qv (fun (u : Unit) => True) (wB D (fun _ => [(h0, .inr (3, mF ad th sg 0 0 0 cx cy fo fv to tv fi ti)), ((ad 3), .inl (E.2.1, 2049, .inl (mg_z bg 2049)))]) A) A) ([.ref h0] : List Value).toArray s 0 0 A) (F0 m 17 ls []) := by
    intro fu
    induction fu with
    | zero =>
      intro k H locs ls h1 h2 hP hD hS hl
      omega
    | succ fu ih =>
      intro k H locs ls h1 h2 hP hD hS hl
      refine lv_iload_n hx hb d_M_forget_17 rfl (lv_at hl 1 rfl) ?_
      refine lv_sipush (v := 2048) hx hb d_M_forget_18 (by decide) ?_
      refine lv_icmp_gt (tgt := 37) hx hb d_M_forget_21 (by decide) (fun c1 => ?_) (fun c1 => ?_)
      · have q : 2048 < k := (nI_ltI (a := 2048) (by omega) (by omega)).mp c1
        obtain rfl : k = 2049 := by omega
        exact W.vret hx hb hrt (fun t ht hW => ⟨⟨(), rfl, trivial, ⟨by rw [ht]; exact hP, hD⟩⟩, hS.F ht⟩) hS.2.2 d_M_forget_37 hlocks
      · have q : k < 2049 := Nat.not_le.mp (fun h => c1 ((nI_ltI (a := 2048) (b := k) (by omega) (by omega)).mpr h))
        refine lv_aload_n hx hb d_M_forget_24 rfl (lv_at hl 0 rfl) ?_
        refine va_get (D := D) (ci := 3) (v := .ref (ad 3)) (C := K_M) (T := F_M) (N := 24) hx hb hG in_M hown hK.1 hP 0 rfl rfl 7 (by decide) (hG _ wd_655) (fun _ h9 => h9) rfl d_M_forget_25 ?_
        refine lv_iload_n hx hb d_M_forget_28 rfl (lv_at hl 1 rfl) ?_
        refine lv_iconst (v := 0) hx hb d_M_forget_29 (by decide) ?_
        refine va_iast hx hb hK.1 hP hD hS 1 1 rfl rfl (vp_in_nI (by omega) (by omega)) d_M_forget_30 (fun H locs hP hD hS => ?_)
        rw [show upd (mg_z bg k) (Int32.toNatClampNeg (nI k)) 0 = (mg_z bg (k + 1)) from by rw [nI_clamp (by omega)]; exact mg_z_s bg k] at hP hD
        have hP : va_P D vwC [(h0, .inr (3, mF ad th sg 0 0 0 cx cy fo fv to tv fi ti)), ((ad 3), .inl (E.2.1, 2049, .inl (mg_z bg (k + 1))))] H := hP
        have hD : va_D A [(h0, .inr (3, mF ad th sg 0 0 0 cx cy fo fv to tv fi ti)), ((ad 3), .inl (E.2.1, 2049, .inl (mg_z bg (k + 1))))] := hD
        refine lv_iinc (v := nI (k + 1)) (lv' := [(1, .int (nI (k + 1))), (0, .ref h0)]) hx hb d_M_forget_31 hl (k := 1) rfl (iinc_p _) (by decide) rfl (fun ls hl => ?_)
        refine lv_goto (tgt := 17) hx hb d_M_forget_34 (by decide) ?_
        exact ih (k + 1) H locs ls (by omega) (by omega) hP hD hS (lv_sub hl [1, 0] rfl)
  have hP : va_P D vwC [(h0, .inr (3, mF ad th sg 0 0 0 cx cy fo fv to tv fi ti)), ((ad 3), .inl (E.2.1, 2049, .inl (mg_z bg 0)))] H := by rw [mg_z_0]; exact hP
  have hD : va_D A [(h0, .inr (3, mF ad th sg 0 0 0 cx cy fo fv to tv fi ti)), ((ad 3), .inl (E.2.1, 2049, .inl (mg_z bg 0)))] := by rw [mg_z_0]; exact hD
  exact loop 2050 0 _ _ ls (by omega) (by omega) hP hD hS (lv_sub hl [1, 0] rfl)
set_option maxHeartbeats 4000000 in
set_option maxRecDepth 100000 in
theorem k_M_segment_f (l : Launch) (D : va_G) (E : ClassId × ClassId × ClassId × ClassId) (h0 sz : Nat) (ad : Nat → Nat) (th sg sn hot pc cx cy : Int32) (fo fv to tv : Int64) (fi ti : Int32) (x y x2 y2 : Int32) (hf : mw_far x ∨ mw_far y ∨ mw_far x2 ∨ mw_far y2) : Met l y_M_segment (.code y_M_segment c_M_segment 6 (some .int) :: gw) ({ frames := 2, cells := 0, slots := 0, locals := 60 } : Room) (wP D E [(h0, .inr (3, mF ad th sg sn hot pc cx cy fo fv to tv fi ti))] sz [.ref h0, .int x, .int y, .int x2, .int y2]) (va_Qi (fun (r : Int32) (u : Unit) => r = 0) (wB D (fun _ => [(h0, .inr (3, mF ad 1 sg sn hot pc cx cy fo fv to tv fi ti))]) (va_A [(h0, .inr (3, mF ad th sg sn hot pc cx cy fo fv to tv fi ti))] sz)) (va_A [(h0, .inr (3, mF ad th sg sn hot pc cx cy fo fv to tv fi ti))] sz)) 0 0 (va_A [(h0, .inr (3, mF ad th sg sn hot pc cx cy fo fv to tv fi ti))] sz) := by
  refine wr_ofW (Qc := fun A => (va_Qi (fun (r : Int32) (u : Unit) => r = 0) (wB D (fun _ => [(h0, .inr (3, mF ad 1 sg sn hot pc cx cy fo fv to tv fi ti))]) A) A)) (by decide) (Nat.le_of_ble_eq_true rfl) ?_
  intro p e s m below meth c B hP hK A hA hD hS ls hl
  obtain ⟨hx, hb, hrt, hml, hown, hts, hG, hlocks, hin⟩ := B
  have hl : lv_has ls 6 [(0, .ref h0), (1, .int x), (2, .int y), (3, .int x2), (4, .int y2)] := hl
  refine lv_aload_n hx hb d_M_segment_0 rfl (lv_at hl 0 rfl) ?_
  refine lv_iconst (v := 0) hx hb d_M_segment_1 (by decide) ?_
  refine va_put (D := D) (ci := 3) (v := .int 0) (ty := .int) (C := K_M) (T := F_M) (N := 24) hx hb hG in_M t_M t_M_ok n_M hown hK.1 hP hD hS 0 rfl rfl 0 (by decide) (hG _ wd_648) (fun _ h9 => h9) rfl (by decide +kernel) rfl rfl (Nat.le_of_ble_eq_true rfl) d_M_segment_2 (fun H locs hP hD hS => ?_)
  have hP : va_P D vwC [(h0, .inr (3, mF ad 0 sg sn hot pc cx cy fo fv to tv fi ti))] H := hP
  have hD : va_D A [(h0, .inr (3, mF ad 0 sg sn hot pc cx cy fo fv to tv fi ti))] := hD
  refine lv_iload_n hx hb d_M_segment_5 rfl (lv_at hl 1 rfl) ?_
  have hPc := hP.sub (ws' := []) [] rfl
  refine vp_callSi (W.runS (As := [.int x]) (rest := []) ⟨hx, hb, hml, hown, hts⟩ (k_M_isFar l D E x) (va_cwS 1 hts (gw_gs wd_731 wd_732 wd_42 wd_733) rfl rfl rfl (by decide +kernel) ⟨Nat.le_of_ble_eq_true rfl, Nat.le_of_ble_eq_true rfl⟩) (rP_S hPc hK) rfl rfl hl.1 rfl (lv_room (Nat.le_of_ble_eq_true rfl)) d_M_segment_6 ⟨Nat.le_of_ble_eq_true rfl, Nat.le_of_ble_eq_true rfl⟩) (fun f0 hf0 => ?_)
  refine lv_if_ne (tgt := 34) hx hb d_M_segment_9 (by decide) (fun c0 => ?_) (fun c0 => ?_)
  · rw [hf0] at c0
    refine lv_aload_n hx hb d_M_segment_34 rfl (lv_at hl 0 rfl) ?_
    refine lv_iconst (v := 1) hx hb d_M_segment_35 (by decide) ?_
    have hPc := hP.sub (ws' := [(h0, .inr (3, mF ad 0 sg sn hot pc cx cy fo fv to tv fi ti))]) [0] rfl
    have hDc := hD.sub (ws' := [(h0, .inr (3, mF ad 0 sg sn hot pc cx cy fo fv to tv fi ti))]) [0] (by decide) rfl
    have hFc := va_free (wc := [(h0, .inr (3, mF ad 0 sg sn hot pc cx cy fo fv to tv fi ti))]) hD hS hA [0] rfl
    refine va_calli (va_runV (As := [.int 1]) (rest := []) ⟨hx, hb, hml, hown, hts⟩ (k_M_fail l D E h0 H.size ad 0 sg sn hot pc cx cy fo fv to tv fi ti 1) (cwV 1 hts (gw_gv wd_739 wd_741 wd_21 wd_42 wd_742) rfl rfl rfl (by decide +kernel) ⟨Nat.le_of_ble_eq_true rfl, Nat.le_of_ble_eq_true rfl⟩) (wP_V 0 hPc hK hDc rfl rfl) rfl rfl hl.1 rfl (lv_room (Nat.le_of_ble_eq_true rfl)) d_M_segment_36 ⟨Nat.le_of_ble_eq_true rfl, Nat.le_of_ble_eq_true rfl⟩) hS (fun q _ h => hFc q h) hFc (fun rf1 u9 t H1 locs ht hvm hw hB hz1 hk1 hS => ?_)
    obtain ⟨hP1, hD1⟩ := hB
    rw [ht] at hP1
    obtain ⟨hP, hD⟩ := va_join (wr := []) (w1 := [(h0, .inr (3, mF ad 1 sg sn hot pc cx cy fo fv to tv fi ti))]) hP hD [0] [] rfl rfl (by decide) (by decide) hk1 hFc hP1 hD1
    generalize H1 = H at hP hS ⊢
    have hP : va_P D vwC [(h0, .inr (3, mF ad 1 sg sn hot pc cx cy fo fv to tv fi ti))] H := hP
    have hD : va_D A [(h0, .inr (3, mF ad 1 sg sn hot pc cx cy fo fv to tv fi ti))] := hD
    obtain rfl : rf1 = 0 := hw
    exact W.iret (v := 0) hx hb hrt (fun t ht hW => ⟨⟨0, (), rfl, rfl, ⟨by rw [ht]; exact hP, hD⟩⟩, hS.F ht⟩) hS.2.2 d_M_segment_39 hlocks
  · rw [hf0] at c0
    refine lv_iload_n hx hb d_M_segment_12 rfl (lv_at hl 2 rfl) ?_
    have hPc := hP.sub (ws' := []) [] rfl
    refine vp_callSi (W.runS (As := [.int y]) (rest := []) ⟨hx, hb, hml, hown, hts⟩ (k_M_isFar l D E y) (va_cwS 1 hts (gw_gs wd_731 wd_732 wd_42 wd_733) rfl rfl rfl (by decide +kernel) ⟨Nat.le_of_ble_eq_true rfl, Nat.le_of_ble_eq_true rfl⟩) (rP_S hPc hK) rfl rfl hl.1 rfl (lv_room (Nat.le_of_ble_eq_true rfl)) d_M_segment_13 ⟨Nat.le_of_ble_eq_true rfl, Nat.le_of_ble_eq_true rfl⟩) (fun f1 hf1 => ?_)
    refine lv_if_ne (tgt := 34) hx hb d_M_segment_16 (by decide) (fun c1 => ?_) (fun c1 => ?_)
    · rw [hf1] at c1
      refine lv_aload_n hx hb d_M_segment_34 rfl (lv_at hl 0 rfl) ?_
      refine lv_iconst (v := 1) hx hb d_M_segment_35 (by decide) ?_
      have hPc := hP.sub (ws' := [(h0, .inr (3, mF ad 0 sg sn hot pc cx cy fo fv to tv fi ti))]) [0] rfl
      have hDc := hD.sub (ws' := [(h0, .inr (3, mF ad 0 sg sn hot pc cx cy fo fv to tv fi ti))]) [0] (by decide) rfl
      have hFc := va_free (wc := [(h0, .inr (3, mF ad 0 sg sn hot pc cx cy fo fv to tv fi ti))]) hD hS hA [0] rfl
      refine va_calli (va_runV (As := [.int 1]) (rest := []) ⟨hx, hb, hml, hown, hts⟩ (k_M_fail l D E h0 H.size ad 0 sg sn hot pc cx cy fo fv to tv fi ti 1) (cwV 1 hts (gw_gv wd_739 wd_741 wd_21 wd_42 wd_742) rfl rfl rfl (by decide +kernel) ⟨Nat.le_of_ble_eq_true rfl, Nat.le_of_ble_eq_true rfl⟩) (wP_V 0 hPc hK hDc rfl rfl) rfl rfl hl.1 rfl (lv_room (Nat.le_of_ble_eq_true rfl)) d_M_segment_36 ⟨Nat.le_of_ble_eq_true rfl, Nat.le_of_ble_eq_true rfl⟩) hS (fun q _ h => hFc q h) hFc (fun rf2 u9 t H1 locs ht hvm hw hB hz1 hk1 hS => ?_)
      obtain ⟨hP1, hD1⟩ := hB
      rw [ht] at hP1
      obtain ⟨hP, hD⟩ := va_join (wr := []) (w1 := [(h0, .inr (3, mF ad 1 sg sn hot pc cx cy fo fv to tv fi ti))]) hP hD [0] [] rfl rfl (by decide) (by decide) hk1 hFc hP1 hD1
      generalize H1 = H at hP hS ⊢
      have hP : va_P D vwC [(h0, .inr (3, mF ad 1 sg sn hot pc cx cy fo fv to tv fi ti))] H := hP
      have hD : va_D A [(h0, .inr (3, mF ad 1 sg sn hot pc cx cy fo fv to tv fi ti))] := hD
      obtain rfl : rf2 = 0 := hw
      exact W.iret (v := 0) hx hb hrt (fun t ht hW => ⟨⟨0, (), rfl, rfl, ⟨by rw [ht]; exact hP, hD⟩⟩, hS.F ht⟩) hS.2.2 d_M_segment_39 hlocks
    · rw [hf1] at c1
      refine lv_iload_n hx hb d_M_segment_19 rfl (lv_at hl 3 rfl) ?_
      have hPc := hP.sub (ws' := []) [] rfl
      refine vp_callSi (W.runS (As := [.int x2]) (rest := []) ⟨hx, hb, hml, hown, hts⟩ (k_M_isFar l D E x2) (va_cwS 1 hts (gw_gs wd_731 wd_732 wd_42 wd_733) rfl rfl rfl (by decide +kernel) ⟨Nat.le_of_ble_eq_true rfl, Nat.le_of_ble_eq_true rfl⟩) (rP_S hPc hK) rfl rfl hl.1 rfl (lv_room (Nat.le_of_ble_eq_true rfl)) d_M_segment_20 ⟨Nat.le_of_ble_eq_true rfl, Nat.le_of_ble_eq_true rfl⟩) (fun f2 hf2 => ?_)
      refine lv_if_ne (tgt := 34) hx hb d_M_segment_23 (by decide) (fun c2 => ?_) (fun c2 => ?_)
      · rw [hf2] at c2
        refine lv_aload_n hx hb d_M_segment_34 rfl (lv_at hl 0 rfl) ?_
        refine lv_iconst (v := 1) hx hb d_M_segment_35 (by decide) ?_
        have hPc := hP.sub (ws' := [(h0, .inr (3, mF ad 0 sg sn hot pc cx cy fo fv to tv fi ti))]) [0] rfl
        have hDc := hD.sub (ws' := [(h0, .inr (3, mF ad 0 sg sn hot pc cx cy fo fv to tv fi ti))]) [0] (by decide) rfl
        have hFc := va_free (wc := [(h0, .inr (3, mF ad 0 sg sn hot pc cx cy fo fv to tv fi ti))]) hD hS hA [0] rfl
        refine va_calli (va_runV (As := [.int 1]) (rest := []) ⟨hx, hb, hml, hown, hts⟩ (k_M_fail l D E h0 H.size ad 0 sg sn hot pc cx cy fo fv to tv fi ti 1) (cwV 1 hts (gw_gv wd_739 wd_741 wd_21 wd_42 wd_742) rfl rfl rfl (by decide +kernel) ⟨Nat.le_of_ble_eq_true rfl, Nat.le_of_ble_eq_true rfl⟩) (wP_V 0 hPc hK hDc rfl rfl) rfl rfl hl.1 rfl (lv_room (Nat.le_of_ble_eq_true rfl)) d_M_segment_36 ⟨Nat.le_of_ble_eq_true rfl, Nat.le_of_ble_eq_true rfl⟩) hS (fun q _ h => hFc q h) hFc (fun rf3 u9 t H1 locs ht hvm hw hB hz1 hk1 hS => ?_)
        obtain ⟨hP1, hD1⟩ := hB
        rw [ht] at hP1
        obtain ⟨hP, hD⟩ := va_join (wr := []) (w1 := [(h0, .inr (3, mF ad 1 sg sn hot pc cx cy fo fv to tv fi ti))]) hP hD [0] [] rfl rfl (by decide) (by decide) hk1 hFc hP1 hD1
        generalize H1 = H at hP hS ⊢
        have hP : va_P D vwC [(h0, .inr (3, mF ad 1 sg sn hot pc cx cy fo fv to tv fi ti))] H := hP
        have hD : va_D A [(h0, .inr (3, mF ad 1 sg sn hot pc cx cy fo fv to tv fi ti))] := hD
        obtain rfl : rf3 = 0 := hw
        exact W.iret (v := 0) hx hb hrt (fun t ht hW => ⟨⟨0, (), rfl, rfl, ⟨by rw [ht]; exact hP, hD⟩⟩, hS.F ht⟩) hS.2.2 d_M_segment_39 hlocks
      · rw [hf2] at c2
        refine lv_iload hx hb d_M_segment_26 (lv_at hl 4 rfl) ?_
        have hPc := hP.sub (ws' := []) [] rfl
        refine vp_callSi (W.runS (As := [.int y2]) (rest := []) ⟨hx, hb, hml, hown, hts⟩ (k_M_isFar l D E y2) (va_cwS 1 hts (gw_gs wd_731 wd_732 wd_42 wd_733) rfl rfl rfl (by decide +kernel) ⟨Nat.le_of_ble_eq_true rfl, Nat.le_of_ble_eq_true rfl⟩) (rP_S hPc hK) rfl rfl hl.1 rfl (lv_room (Nat.le_of_ble_eq_true rfl)) d_M_segment_28 ⟨Nat.le_of_ble_eq_true rfl, Nat.le_of_ble_eq_true rfl⟩) (fun f3 hf3 => ?_)
        refine lv_if_eq (tgt := 40) hx hb d_M_segment_31 (by decide) (fun c3 => ?_) (fun c3 => ?_)
        · rw [hf3] at c3
          exact absurd hf (by
            rintro (h | h | h | h)
            · rw [b01_t h] at c0; exact absurd c0 (by decide)
            · rw [b01_t h] at c1; exact absurd c1 (by decide)
            · rw [b01_t h] at c2; exact absurd c2 (by decide)
            · rw [b01_t h] at c3; exact absurd c3 (by decide))
        · rw [hf3] at c3
          refine lv_aload_n hx hb d_M_segment_34 rfl (lv_at hl 0 rfl) ?_
          refine lv_iconst (v := 1) hx hb d_M_segment_35 (by decide) ?_
          have hPc := hP.sub (ws' := [(h0, .inr (3, mF ad 0 sg sn hot pc cx cy fo fv to tv fi ti))]) [0] rfl
          have hDc := hD.sub (ws' := [(h0, .inr (3, mF ad 0 sg sn hot pc cx cy fo fv to tv fi ti))]) [0] (by decide) rfl
          have hFc := va_free (wc := [(h0, .inr (3, mF ad 0 sg sn hot pc cx cy fo fv to tv fi ti))]) hD hS hA [0] rfl
          refine va_calli (va_runV (As := [.int 1]) (rest := []) ⟨hx, hb, hml, hown, hts⟩ (k_M_fail l D E h0 H.size ad 0 sg sn hot pc cx cy fo fv to tv fi ti 1) (cwV 1 hts (gw_gv wd_739 wd_741 wd_21 wd_42 wd_742) rfl rfl rfl (by decide +kernel) ⟨Nat.le_of_ble_eq_true rfl, Nat.le_of_ble_eq_true rfl⟩) (wP_V 0 hPc hK hDc rfl rfl) rfl rfl hl.1 rfl (lv_room (Nat.le_of_ble_eq_true rfl)) d_M_segment_36 ⟨Nat.le_of_ble_eq_true rfl, Nat.le_of_ble_eq_true rfl⟩) hS (fun q _ h => hFc q h) hFc (fun rf4 u9 t H1 locs ht hvm hw hB hz1 hk1 hS => ?_)
          obtain ⟨hP1, hD1⟩ := hB
          rw [ht] at hP1
          obtain ⟨hP, hD⟩ := va_join (wr := []) (w1 := [(h0, .inr (3, mF ad 1 sg sn hot pc cx cy fo fv to tv fi ti))]) hP hD [0] [] rfl rfl (by decide) (by decide) hk1 hFc hP1 hD1
          generalize H1 = H at hP hS ⊢
          have hP : va_P D vwC [(h0, .inr (3, mF ad 1 sg sn hot pc cx cy fo fv to tv fi ti))] H := hP
          have hD : va_D A [(h0, .inr (3, mF ad 1 sg sn hot pc cx cy fo fv to tv fi ti))] := hD
          obtain rfl : rf4 = 0 := hw
          exact W.iret (v := 0) hx hb hrt (fun t ht hW => ⟨⟨0, (), rfl, rfl, ⟨by rw [ht]; exact hP, hD⟩⟩, hS.F ht⟩) hS.2.2 d_M_segment_39 hlocks
set_option maxHeartbeats 4000000 in
set_option maxRecDepth 100000 in
theorem k_M_segment_n (l : Launch) (D : va_G) (E : ClassId × ClassId × ClassId × ClassId) (h0 sz : Nat) (ad : Nat → Nat) (th sg sn hot pc cx cy : Int32) (fo fv to tv : Int64) (fi ti : Int32) (x y x2 y2 : Int32) (hf : ¬ mw_far x ∧ ¬ mw_far y ∧ ¬ mw_far x2 ∧ ¬ mw_far y2) : Met l y_M_segment (.code y_M_segment c_M_segment 6 (some .int) :: gw) ({ frames := 2, cells := 0, slots := 0, locals := 60 } : Room) (wP D E [(h0, .inr (3, mF ad th 2048 sn hot pc cx cy fo fv to tv fi ti))] sz [.ref h0, .int x, .int y, .int x2, .int y2]) (va_Qi (fun (r : Int32) (u : Unit) => r = 0) (wB D (fun _ => [(h0, .inr (3, mF ad 2 2048 sn hot pc cx cy fo fv to tv fi ti))]) (va_A [(h0, .inr (3, mF ad th 2048 sn hot pc cx cy fo fv to tv fi ti))] sz)) (va_A [(h0, .inr (3, mF ad th 2048 sn hot pc cx cy fo fv to tv fi ti))] sz)) 0 0 (va_A [(h0, .inr (3, mF ad th 2048 sn hot pc cx cy fo fv to tv fi ti))] sz) := by
  refine wr_ofW (Qc := fun A => (va_Qi (fun (r : Int32) (u : Unit) => r = 0) (wB D (fun _ => [(h0, .inr (3, mF ad 2 2048 sn hot pc cx cy fo fv to tv fi ti))]) A) A)) (by decide) (Nat.le_of_ble_eq_true rfl) ?_
  intro p e s m below meth c B hP hK A hA hD hS ls hl
  obtain ⟨hx, hb, hrt, hml, hown, hts, hG, hlocks, hin⟩ := B
  have hl : lv_has ls 6 [(0, .ref h0), (1, .int x), (2, .int y), (3, .int x2), (4, .int y2)] := hl
  refine lv_aload_n hx hb d_M_segment_0 rfl (lv_at hl 0 rfl) ?_
  refine lv_iconst (v := 0) hx hb d_M_segment_1 (by decide) ?_
  refine va_put (D := D) (ci := 3) (v := .int 0) (ty := .int) (C := K_M) (T := F_M) (N := 24) hx hb hG in_M t_M t_M_ok n_M hown hK.1 hP hD hS 0 rfl rfl 0 (by decide) (hG _ wd_648) (fun _ h9 => h9) rfl (by decide +kernel) rfl rfl (Nat.le_of_ble_eq_true rfl) d_M_segment_2 (fun H locs hP hD hS => ?_)
  have hP : va_P D vwC [(h0, .inr (3, mF ad 0 2048 sn hot pc cx cy fo fv to tv fi ti))] H := hP
  have hD : va_D A [(h0, .inr (3, mF ad 0 2048 sn hot pc cx cy fo fv to tv fi ti))] := hD
  refine lv_iload_n hx hb d_M_segment_5 rfl (lv_at hl 1 rfl) ?_
  have hPc := hP.sub (ws' := []) [] rfl
  refine vp_callSi (W.runS (As := [.int x]) (rest := []) ⟨hx, hb, hml, hown, hts⟩ (k_M_isFar l D E x) (va_cwS 1 hts (gw_gs wd_731 wd_732 wd_42 wd_733) rfl rfl rfl (by decide +kernel) ⟨Nat.le_of_ble_eq_true rfl, Nat.le_of_ble_eq_true rfl⟩) (rP_S hPc hK) rfl rfl hl.1 rfl (lv_room (Nat.le_of_ble_eq_true rfl)) d_M_segment_6 ⟨Nat.le_of_ble_eq_true rfl, Nat.le_of_ble_eq_true rfl⟩) (fun f0 hf0 => ?_)
  refine lv_if_ne (tgt := 34) hx hb d_M_segment_9 (by decide) (fun c0 => ?_) (fun c0 => ?_)
  · rw [hf0] at c0
    exact absurd (b01_1 c0) hf.1
  · rw [hf0] at c0
    refine lv_iload_n hx hb d_M_segment_12 rfl (lv_at hl 2 rfl) ?_
    have hPc := hP.sub (ws' := []) [] rfl
    refine vp_callSi (W.runS (As := [.int y]) (rest := []) ⟨hx, hb, hml, hown, hts⟩ (k_M_isFar l D E y) (va_cwS 1 hts (gw_gs wd_731 wd_732 wd_42 wd_733) rfl rfl rfl (by decide +kernel) ⟨Nat.le_of_ble_eq_true rfl, Nat.le_of_ble_eq_true rfl⟩) (rP_S hPc hK) rfl rfl hl.1 rfl (lv_room (Nat.le_of_ble_eq_true rfl)) d_M_segment_13 ⟨Nat.le_of_ble_eq_true rfl, Nat.le_of_ble_eq_true rfl⟩) (fun f1 hf1 => ?_)
    refine lv_if_ne (tgt := 34) hx hb d_M_segment_16 (by decide) (fun c1 => ?_) (fun c1 => ?_)
    · rw [hf1] at c1
      exact absurd (b01_1 c1) hf.2.1
    · rw [hf1] at c1
      refine lv_iload_n hx hb d_M_segment_19 rfl (lv_at hl 3 rfl) ?_
      have hPc := hP.sub (ws' := []) [] rfl
      refine vp_callSi (W.runS (As := [.int x2]) (rest := []) ⟨hx, hb, hml, hown, hts⟩ (k_M_isFar l D E x2) (va_cwS 1 hts (gw_gs wd_731 wd_732 wd_42 wd_733) rfl rfl rfl (by decide +kernel) ⟨Nat.le_of_ble_eq_true rfl, Nat.le_of_ble_eq_true rfl⟩) (rP_S hPc hK) rfl rfl hl.1 rfl (lv_room (Nat.le_of_ble_eq_true rfl)) d_M_segment_20 ⟨Nat.le_of_ble_eq_true rfl, Nat.le_of_ble_eq_true rfl⟩) (fun f2 hf2 => ?_)
      refine lv_if_ne (tgt := 34) hx hb d_M_segment_23 (by decide) (fun c2 => ?_) (fun c2 => ?_)
      · rw [hf2] at c2
        exact absurd (b01_1 c2) hf.2.2.1
      · rw [hf2] at c2
        refine lv_iload hx hb d_M_segment_26 (lv_at hl 4 rfl) ?_
        have hPc := hP.sub (ws' := []) [] rfl
        refine vp_callSi (W.runS (As := [.int y2]) (rest := []) ⟨hx, hb, hml, hown, hts⟩ (k_M_isFar l D E y2) (va_cwS 1 hts (gw_gs wd_731 wd_732 wd_42 wd_733) rfl rfl rfl (by decide +kernel) ⟨Nat.le_of_ble_eq_true rfl, Nat.le_of_ble_eq_true rfl⟩) (rP_S hPc hK) rfl rfl hl.1 rfl (lv_room (Nat.le_of_ble_eq_true rfl)) d_M_segment_28 ⟨Nat.le_of_ble_eq_true rfl, Nat.le_of_ble_eq_true rfl⟩) (fun f3 hf3 => ?_)
        refine lv_if_eq (tgt := 40) hx hb d_M_segment_31 (by decide) (fun c3 => ?_) (fun c3 => ?_)
        · rw [hf3] at c3
          refine lv_aload_n hx hb d_M_segment_40 rfl (lv_at hl 0 rfl) ?_
          refine va_get (D := D) (ci := 3) (v := .int 2048) (C := K_M) (T := F_M) (N := 24) hx hb hG in_M hown hK.1 hP 0 rfl rfl 1 (by decide) (hG _ wd_649) (fun _ h9 => h9) rfl d_M_segment_41 ?_
          refine lv_sipush (v := 2048) hx hb d_M_segment_44 (by decide) ?_
          refine lv_icmp_ne (tgt := 56) hx hb d_M_segment_47 (by decide) (fun d1 => ?_) (fun d1 => ?_)
          · exact absurd rfl d1
          · refine lv_aload_n hx hb d_M_segment_50 rfl (lv_at hl 0 rfl) ?_
            refine lv_iconst (v := 2) hx hb d_M_segment_51 (by decide) ?_
            have hPc := hP.sub (ws' := [(h0, .inr (3, mF ad 0 2048 sn hot pc cx cy fo fv to tv fi ti))]) [0] rfl
            have hDc := hD.sub (ws' := [(h0, .inr (3, mF ad 0 2048 sn hot pc cx cy fo fv to tv fi ti))]) [0] (by decide) rfl
            have hFc := va_free (wc := [(h0, .inr (3, mF ad 0 2048 sn hot pc cx cy fo fv to tv fi ti))]) hD hS hA [0] rfl
            refine va_calli (va_runV (As := [.int 2]) (rest := []) ⟨hx, hb, hml, hown, hts⟩ (k_M_fail l D E h0 H.size ad 0 2048 sn hot pc cx cy fo fv to tv fi ti 2) (cwV 1 hts (gw_gv wd_739 wd_741 wd_21 wd_42 wd_742) rfl rfl rfl (by decide +kernel) ⟨Nat.le_of_ble_eq_true rfl, Nat.le_of_ble_eq_true rfl⟩) (wP_V 0 hPc hK hDc rfl rfl) rfl rfl hl.1 rfl (lv_room (Nat.le_of_ble_eq_true rfl)) d_M_segment_52 ⟨Nat.le_of_ble_eq_true rfl, Nat.le_of_ble_eq_true rfl⟩) hS (fun q _ h => hFc q h) hFc (fun rf1 u9 t H1 locs ht hvm hw hB hz1 hk1 hS => ?_)
            obtain ⟨hP1, hD1⟩ := hB
            rw [ht] at hP1
            obtain ⟨hP, hD⟩ := va_join (wr := []) (w1 := [(h0, .inr (3, mF ad 2 2048 sn hot pc cx cy fo fv to tv fi ti))]) hP hD [0] [] rfl rfl (by decide) (by decide) hk1 hFc hP1 hD1
            generalize H1 = H at hP hS ⊢
            have hP : va_P D vwC [(h0, .inr (3, mF ad 2 2048 sn hot pc cx cy fo fv to tv fi ti))] H := hP
            have hD : va_D A [(h0, .inr (3, mF ad 2 2048 sn hot pc cx cy fo fv to tv fi ti))] := hD
            obtain rfl : rf1 = 0 := hw
            exact W.iret (v := 0) hx hb hrt (fun t ht hW => ⟨⟨0, (), rfl, rfl, ⟨by rw [ht]; exact hP, hD⟩⟩, hS.F ht⟩) hS.2.2 d_M_segment_55 hlocks
        · rw [hf3] at c3
          exact absurd (b01_1 c3) hf.2.2.2
def mg_put (e : Nat → Int32) (k : Nat) (q : SQ) : Nat → Int32 := upd (upd (upd (upd e (4 * k) q.1) (4 * k + 1) q.2.1) (4 * k + 2) q.2.2.1) (4 * k + 3) q.2.2.2
theorem mg_put_k (e : Nat → Int32) (k : Nat) (q : SQ) : mq (mg_put e k q) k = q := by
  unfold mq mg_put
  rw [pk_us, pk_un (show 4 * k ≠ 4 * k + 3 by omega), pk_un (show 4 * k ≠ 4 * k + 2 by omega), pk_un (show 4 * k ≠ 4 * k + 1 by omega), pk_us,
    pk_un (show 4 * k + 1 ≠ 4 * k + 3 by omega), pk_un (show 4 * k + 1 ≠ 4 * k + 2 by omega), pk_us, pk_un (show 4 * k + 2 ≠ 4 * k + 3 by omega), pk_us]
theorem mg_put_j (e : Nat → Int32) (k j : Nat) (q : SQ) (h : j < k) : mq (mg_put e k q) j = mq e j := by
  unfold mq mg_put
  have g : ∀ i, i < 4 * k → upd (upd (upd (upd e (4 * k) q.1) (4 * k + 1) q.2.1) (4 * k + 2) q.2.2.1) (4 * k + 3) q.2.2.2 i = e i := by
    intro i hi
    rw [pk_un (by omega), pk_un (by omega), pk_un (by omega), pk_un (by omega)]
  rw [g _ (by omega), g _ (by omega), g _ (by omega), g _ (by omega)]
set_option maxHeartbeats 4000000 in
set_option maxRecDepth 100000 in
theorem k_M_segment (l : Launch) (D : va_G) (E : ClassId × ClassId × ClassId × ClassId) (h0 sz : Nat) (ad : Nat → Nat) (th sg sn hot pc cx cy : Int32) (fo fv to tv : Int64) (fi ti : Int32) (x y x2 y2 : Int32) (e9 bg : Nat → Int32) (k : Nat) (hk : k < 2048) (hf : ¬ mw_far x ∧ ¬ mw_far y ∧ ¬ mw_far x2 ∧ ¬ mw_far y2) : Met l y_M_segment (.code y_M_segment c_M_segment 6 (some .int) :: gw) ({ frames := 2, cells := 0, slots := 0, locals := 60 } : Room) (wP D E [(h0, .inr (3, mF ad th (nI k) sn hot pc cx cy fo fv to tv fi ti)), ((ad 0), .inl (E.2.1, 8192, .inl e9)), ((ad 3), .inl (E.2.1, 2049, .inl bg))] sz [.ref h0, .int x, .int y, .int x2, .int y2]) (va_Qi (fun (r : Int32) (u : Unit) => r = nI k) (wB D (fun _ => [(h0, .inr (3, mF ad 0 (nI (k + 1)) 0 0 0 cx cy fo fv to tv fi ti)), ((ad 0), .inl (E.2.1, 8192, .inl (mg_put e9 k (x, y, x2, y2)))), ((ad 3), .inl (E.2.1, 2049, .inl (mg_z bg 2049)))]) (va_A [(h0, .inr (3, mF ad th (nI k) sn hot pc cx cy fo fv to tv fi ti)), ((ad 0), .inl (E.2.1, 8192, .inl e9)), ((ad 3), .inl (E.2.1, 2049, .inl bg))] sz)) (va_A [(h0, .inr (3, mF ad th (nI k) sn hot pc cx cy fo fv to tv fi ti)), ((ad 0), .inl (E.2.1, 8192, .inl e9)), ((ad 3), .inl (E.2.1, 2049, .inl bg))] sz)) 0 0 (va_A [(h0, .inr (3, mF ad th (nI k) sn hot pc cx cy fo fv to tv fi ti)), ((ad 0), .inl (E.2.1, 8192, .inl e9)), ((ad 3), .inl (E.2.1, 2049, .inl bg))] sz) := by
  refine wr_ofW (Qc := fun A => (va_Qi (fun (r : Int32) (u : Unit) => r = nI k) (wB D (fun _ => [(h0, .inr (3, mF ad 0 (nI (k + 1)) 0 0 0 cx cy fo fv to tv fi ti)), ((ad 0), .inl (E.2.1, 8192, .inl (mg_put e9 k (x, y, x2, y2)))), ((ad 3), .inl (E.2.1, 2049, .inl (mg_z bg 2049)))]) A) A)) (by decide) (Nat.le_of_ble_eq_true rfl) ?_
  intro p e s m below meth c B hP hK A hA hD hS ls hl
  obtain ⟨hx, hb, hrt, hml, hown, hts, hG, hlocks, hin⟩ := B
  have hl : lv_has ls 6 [(0, .ref h0), (1, .int x), (2, .int y), (3, .int x2), (4, .int y2)] := hl
  refine lv_aload_n hx hb d_M_segment_0 rfl (lv_at hl 0 rfl) ?_
  refine lv_iconst (v := 0) hx hb d_M_segment_1 (by decide) ?_
  refine va_put (D := D) (ci := 3) (v := .int 0) (ty := .int) (C := K_M) (T := F_M) (N := 24) hx hb hG in_M t_M t_M_ok n_M hown hK.1 hP hD hS 0 rfl rfl 0 (by decide) (hG _ wd_648) (fun _ h9 => h9) rfl (by decide +kernel) rfl rfl (Nat.le_of_ble_eq_true rfl) d_M_segment_2 (fun H locs hP hD hS => ?_)
  have hP : va_P D vwC [(h0, .inr (3, mF ad 0 (nI k) sn hot pc cx cy fo fv to tv fi ti)), ((ad 0), .inl (E.2.1, 8192, .inl e9)), ((ad 3), .inl (E.2.1, 2049, .inl bg))] H := hP
  have hD : va_D A [(h0, .inr (3, mF ad 0 (nI k) sn hot pc cx cy fo fv to tv fi ti)), ((ad 0), .inl (E.2.1, 8192, .inl e9)), ((ad 3), .inl (E.2.1, 2049, .inl bg))] := hD
  refine lv_iload_n hx hb d_M_segment_5 rfl (lv_at hl 1 rfl) ?_
  have hPc := hP.sub (ws' := []) [] rfl
  refine vp_callSi (W.runS (As := [.int x]) (rest := []) ⟨hx, hb, hml, hown, hts⟩ (k_M_isFar l D E x) (va_cwS 1 hts (gw_gs wd_731 wd_732 wd_42 wd_733) rfl rfl rfl (by decide +kernel) ⟨Nat.le_of_ble_eq_true rfl, Nat.le_of_ble_eq_true rfl⟩) (rP_S hPc hK) rfl rfl hl.1 rfl (lv_room (Nat.le_of_ble_eq_true rfl)) d_M_segment_6 ⟨Nat.le_of_ble_eq_true rfl, Nat.le_of_ble_eq_true rfl⟩) (fun f0 hf0 => ?_)
  refine lv_if_ne (tgt := 34) hx hb d_M_segment_9 (by decide) (fun c0 => ?_) (fun c0 => ?_)
  · rw [hf0] at c0
    exact absurd (b01_1 c0) hf.1
  · rw [hf0] at c0
    refine lv_iload_n hx hb d_M_segment_12 rfl (lv_at hl 2 rfl) ?_
    have hPc := hP.sub (ws' := []) [] rfl
    refine vp_callSi (W.runS (As := [.int y]) (rest := []) ⟨hx, hb, hml, hown, hts⟩ (k_M_isFar l D E y) (va_cwS 1 hts (gw_gs wd_731 wd_732 wd_42 wd_733) rfl rfl rfl (by decide +kernel) ⟨Nat.le_of_ble_eq_true rfl, Nat.le_of_ble_eq_true rfl⟩) (rP_S hPc hK) rfl rfl hl.1 rfl (lv_room (Nat.le_of_ble_eq_true rfl)) d_M_segment_13 ⟨Nat.le_of_ble_eq_true rfl, Nat.le_of_ble_eq_true rfl⟩) (fun f1 hf1 => ?_)
    refine lv_if_ne (tgt := 34) hx hb d_M_segment_16 (by decide) (fun c1 => ?_) (fun c1 => ?_)
    · rw [hf1] at c1
      exact absurd (b01_1 c1) hf.2.1
    · rw [hf1] at c1
      refine lv_iload_n hx hb d_M_segment_19 rfl (lv_at hl 3 rfl) ?_
      have hPc := hP.sub (ws' := []) [] rfl
      refine vp_callSi (W.runS (As := [.int x2]) (rest := []) ⟨hx, hb, hml, hown, hts⟩ (k_M_isFar l D E x2) (va_cwS 1 hts (gw_gs wd_731 wd_732 wd_42 wd_733) rfl rfl rfl (by decide +kernel) ⟨Nat.le_of_ble_eq_true rfl, Nat.le_of_ble_eq_true rfl⟩) (rP_S hPc hK) rfl rfl hl.1 rfl (lv_room (Nat.le_of_ble_eq_true rfl)) d_M_segment_20 ⟨Nat.le_of_ble_eq_true rfl, Nat.le_of_ble_eq_true rfl⟩) (fun f2 hf2 => ?_)
      refine lv_if_ne (tgt := 34) hx hb d_M_segment_23 (by decide) (fun c2 => ?_) (fun c2 => ?_)
      · rw [hf2] at c2
        exact absurd (b01_1 c2) hf.2.2.1
      · rw [hf2] at c2
        refine lv_iload hx hb d_M_segment_26 (lv_at hl 4 rfl) ?_
        have hPc := hP.sub (ws' := []) [] rfl
        refine vp_callSi (W.runS (As := [.int y2]) (rest := []) ⟨hx, hb, hml, hown, hts⟩ (k_M_isFar l D E y2) (va_cwS 1 hts (gw_gs wd_731 wd_732 wd_42 wd_733) rfl rfl rfl (by decide +kernel) ⟨Nat.le_of_ble_eq_true rfl, Nat.le_of_ble_eq_true rfl⟩) (rP_S hPc hK) rfl rfl hl.1 rfl (lv_room (Nat.le_of_ble_eq_true rfl)) d_M_segment_28 ⟨Nat.le_of_ble_eq_true rfl, Nat.le_of_ble_eq_true rfl⟩) (fun f3 hf3 => ?_)
        refine lv_if_eq (tgt := 40) hx hb d_M_segment_31 (by decide) (fun c3 => ?_) (fun c3 => ?_)
        · rw [hf3] at c3
          refine lv_aload_n hx hb d_M_segment_40 rfl (lv_at hl 0 rfl) ?_
          refine va_get (D := D) (ci := 3) (v := .int (nI k)) (C := K_M) (T := F_M) (N := 24) hx hb hG in_M hown hK.1 hP 0 rfl rfl 1 (by decide) (hG _ wd_649) (fun _ h9 => h9) rfl d_M_segment_41 ?_
          refine lv_sipush (v := 2048) hx hb d_M_segment_44 (by decide) ?_
          refine lv_icmp_ne (tgt := 56) hx hb d_M_segment_47 (by decide) (fun d1 => ?_) (fun d1 => ?_)
          · refine lv_aload_n hx hb d_M_segment_56 rfl (lv_at hl 0 rfl) ?_
            have hPc := hP.sub (ws' := [(h0, .inr (3, mF ad 0 (nI k) sn hot pc cx cy fo fv to tv fi ti)), ((ad 3), .inl (E.2.1, 2049, .inl bg))]) [0, 2] rfl
            have hDc := hD.sub (ws' := [(h0, .inr (3, mF ad 0 (nI k) sn hot pc cx cy fo fv to tv fi ti)), ((ad 3), .inl (E.2.1, 2049, .inl bg))]) [0, 2] (by decide) rfl
            have hFc := va_free (wc := [(h0, .inr (3, mF ad 0 (nI k) sn hot pc cx cy fo fv to tv fi ti)), ((ad 3), .inl (E.2.1, 2049, .inl bg))]) hD hS hA [0, 2] rfl
            refine va_callv (va_runV (As := []) (rest := []) ⟨hx, hb, hml, hown, hts⟩ (k_M_forget l D E h0 H.size ad 0 (nI k) sn hot pc cx cy fo fv to tv fi ti bg) (cwV 0 hts (gw_gv wd_743 wd_745 wd_22 wd_42 wd_746) rfl rfl rfl (by decide +kernel) ⟨Nat.le_of_ble_eq_true rfl, Nat.le_of_ble_eq_true rfl⟩) (wP_V 0 hPc hK hDc rfl rfl) rfl rfl hl.1 rfl (lv_room (Nat.le_of_ble_eq_true rfl)) d_M_segment_57 ⟨Nat.le_of_ble_eq_true rfl, Nat.le_of_ble_eq_true rfl⟩) hS (fun q _ h => hFc q h) hFc (fun u t H1 locs ht hvm hw hB hz1 hk1 hS => ?_)
            obtain ⟨hP1, hD1⟩ := hB
            rw [ht] at hP1
            obtain ⟨hP, hD⟩ := va_join (wr := [((ad 0), .inl (E.2.1, 8192, .inl e9))]) (w1 := [(h0, .inr (3, mF ad 0 (nI k) 0 0 0 cx cy fo fv to tv fi ti)), ((ad 3), .inl (E.2.1, 2049, .inl (mg_z bg 2049)))]) hP hD [0, 2] [1] rfl rfl (by decide) (by decide) hk1 hFc hP1 hD1
            generalize H1 = H at hP hS ⊢
            have hP : va_P D vwC [((ad 0), .inl (E.2.1, 8192, .inl e9)), (h0, .inr (3, mF ad 0 (nI k) 0 0 0 cx cy fo fv to tv fi ti)), ((ad 3), .inl (E.2.1, 2049, .inl (mg_z bg 2049)))] H := hP
            have hD : va_D A [((ad 0), .inl (E.2.1, 8192, .inl e9)), (h0, .inr (3, mF ad 0 (nI k) 0 0 0 cx cy fo fv to tv fi ti)), ((ad 3), .inl (E.2.1, 2049, .inl (mg_z bg 2049)))] := hD
            refine lv_iconst (v := 4) hx hb d_M_segment_60 (by decide) ?_
            refine lv_aload_n hx hb d_M_segment_61 rfl (lv_at hl 0 rfl) ?_
            refine va_get (D := D) (ci := 3) (v := .int (nI k)) (C := K_M) (T := F_M) (N := 24) hx hb hG in_M hown hK.1 hP 1 rfl rfl 1 (by decide) (hG _ wd_649) (fun _ h9 => h9) rfl d_M_segment_62 ?_
            refine lv_imul hx hb d_M_segment_65 ?_
            rw [show (4 * nI k) = nI (4 * k) from pk_mul 4 k]
            refine lv_istore (lv' := [(5, .int (nI (4 * k))), (0, .ref h0), (1, .int x), (2, .int y), (3, .int x2), (4, .int y2)]) hx hb d_M_segment_66 hl (by decide) rfl (fun ls hl => ?_)
            refine lv_aload_n hx hb d_M_segment_68 rfl (lv_at hl 1 rfl) ?_
            refine va_get (D := D) (ci := 3) (v := .ref (ad 0)) (C := K_M) (T := F_M) (N := 24) hx hb hG in_M hown hK.1 hP 1 rfl rfl 2 (by decide) (hG _ wd_650) (fun _ h9 => h9) rfl d_M_segment_69 ?_
            refine lv_iload hx hb d_M_segment_72 (lv_at hl 0 rfl) ?_
            refine lv_iload_n hx hb d_M_segment_74 rfl (lv_at hl 2 rfl) ?_
            refine va_iast hx hb hK.1 hP hD hS 0 1 rfl rfl (vp_in_nI (by omega) (by omega)) d_M_segment_75 (fun H locs hP hD hS => ?_)
            rw [show upd e9 (Int32.toNatClampNeg (nI (4 * k))) x = (upd e9 (4 * k) x) from by rw [nI_clamp (by omega)]] at hP hD
            have hP : va_P D vwC [((ad 0), .inl (E.2.1, 8192, .inl (upd e9 (4 * k) x))), (h0, .inr (3, mF ad 0 (nI k) 0 0 0 cx cy fo fv to tv fi ti)), ((ad 3), .inl (E.2.1, 2049, .inl (mg_z bg 2049)))] H := hP
            have hD : va_D A [((ad 0), .inl (E.2.1, 8192, .inl (upd e9 (4 * k) x))), (h0, .inr (3, mF ad 0 (nI k) 0 0 0 cx cy fo fv to tv fi ti)), ((ad 3), .inl (E.2.1, 2049, .inl (mg_z bg 2049)))] := hD
            refine lv_aload_n hx hb d_M_segment_76 rfl (lv_at hl 1 rfl) ?_
            refine va_get (D := D) (ci := 3) (v := .ref (ad 0)) (C := K_M) (T := F_M) (N := 24) hx hb hG in_M hown hK.1 hP 1 rfl rfl 2 (by decide) (hG _ wd_650) (fun _ h9 => h9) rfl d_M_segment_77 ?_
            refine lv_iload hx hb d_M_segment_80 (lv_at hl 0 rfl) ?_
            refine lv_iconst (v := 1) hx hb d_M_segment_82 (by decide) ?_
            refine lv_iadd hx hb d_M_segment_83 ?_
            rw [show (nI (4 * k) + 1) = nI (4 * k + 1) from nI_1 _]
            refine lv_iload_n hx hb d_M_segment_84 rfl (lv_at hl 3 rfl) ?_
            refine va_iast hx hb hK.1 hP hD hS 0 1 rfl rfl (vp_in_nI (by omega) (by omega)) d_M_segment_85 (fun H locs hP hD hS => ?_)
            rw [show upd (upd e9 (4 * k) x) (Int32.toNatClampNeg (nI (4 * k + 1))) y = (upd (upd e9 (4 * k) x) (4 * k + 1) y) from by rw [nI_clamp (by omega)]] at hP hD
            have hP : va_P D vwC [((ad 0), .inl (E.2.1, 8192, .inl (upd (upd e9 (4 * k) x) (4 * k + 1) y))), (h0, .inr (3, mF ad 0 (nI k) 0 0 0 cx cy fo fv to tv fi ti)), ((ad 3), .inl (E.2.1, 2049, .inl (mg_z bg 2049)))] H := hP
            have hD : va_D A [((ad 0), .inl (E.2.1, 8192, .inl (upd (upd e9 (4 * k) x) (4 * k + 1) y))), (h0, .inr (3, mF ad 0 (nI k) 0 0 0 cx cy fo fv to tv fi ti)), ((ad 3), .inl (E.2.1, 2049, .inl (mg_z bg 2049)))] := hD
            refine lv_aload_n hx hb d_M_segment_86 rfl (lv_at hl 1 rfl) ?_
            refine va_get (D := D) (ci := 3) (v := .ref (ad 0)) (C := K_M) (T := F_M) (N := 24) hx hb hG in_M hown hK.1 hP 1 rfl rfl 2 (by decide) (hG _ wd_650) (fun _ h9 => h9) rfl d_M_segment_87 ?_
            refine lv_iload hx hb d_M_segment_90 (lv_at hl 0 rfl) ?_
            refine lv_iconst (v := 2) hx hb d_M_segment_92 (by decide) ?_
            refine lv_iadd hx hb d_M_segment_93 ?_
            rw [show (nI (4 * k) + 2) = nI (4 * k + 2) from nI_add _ 2]
            refine lv_iload_n hx hb d_M_segment_94 rfl (lv_at hl 4 rfl) ?_
            refine va_iast hx hb hK.1 hP hD hS 0 1 rfl rfl (vp_in_nI (by omega) (by omega)) d_M_segment_95 (fun H locs hP hD hS => ?_)
            rw [show upd (upd (upd e9 (4 * k) x) (4 * k + 1) y) (Int32.toNatClampNeg (nI (4 * k + 2))) x2 = (upd (upd (upd e9 (4 * k) x) (4 * k + 1) y) (4 * k + 2) x2) from by rw [nI_clamp (by omega)]] at hP hD
            have hP : va_P D vwC [((ad 0), .inl (E.2.1, 8192, .inl (upd (upd (upd e9 (4 * k) x) (4 * k + 1) y) (4 * k + 2) x2))), (h0, .inr (3, mF ad 0 (nI k) 0 0 0 cx cy fo fv to tv fi ti)), ((ad 3), .inl (E.2.1, 2049, .inl (mg_z bg 2049)))] H := hP
            have hD : va_D A [((ad 0), .inl (E.2.1, 8192, .inl (upd (upd (upd e9 (4 * k) x) (4 * k + 1) y) (4 * k + 2) x2))), (h0, .inr (3, mF ad 0 (nI k) 0 0 0 cx cy fo fv to tv fi ti)), ((ad 3), .inl (E.2.1, 2049, .inl (mg_z bg 2049)))] := hD
            refine lv_aload_n hx hb d_M_segment_96 rfl (lv_at hl 1 rfl) ?_
            refine va_get (D := D) (ci := 3) (v := .ref (ad 0)) (C := K_M) (T := F_M) (N := 24) hx hb hG in_M hown hK.1 hP 1 rfl rfl 2 (by decide) (hG _ wd_650) (fun _ h9 => h9) rfl d_M_segment_97 ?_
            refine lv_iload hx hb d_M_segment_100 (lv_at hl 0 rfl) ?_
            refine lv_iconst (v := 3) hx hb d_M_segment_102 (by decide) ?_
            refine lv_iadd hx hb d_M_segment_103 ?_
            rw [show (nI (4 * k) + 3) = nI (4 * k + 3) from nI_add _ 3]
            refine lv_iload hx hb d_M_segment_104 (lv_at hl 5 rfl) ?_
            refine va_iast hx hb hK.1 hP hD hS 0 1 rfl rfl (vp_in_nI (by omega) (by omega)) d_M_segment_106 (fun H locs hP hD hS => ?_)
            rw [show upd (upd (upd (upd e9 (4 * k) x) (4 * k + 1) y) (4 * k + 2) x2) (Int32.toNatClampNeg (nI (4 * k + 3))) y2 = (upd (upd (upd (upd e9 (4 * k) x) (4 * k + 1) y) (4 * k + 2) x2) (4 * k + 3) y2) from by rw [nI_clamp (by omega)]] at hP hD
            have hP : va_P D vwC [((ad 0), .inl (E.2.1, 8192, .inl (upd (upd (upd (upd e9 (4 * k) x) (4 * k + 1) y) (4 * k + 2) x2) (4 * k + 3) y2))), (h0, .inr (3, mF ad 0 (nI k) 0 0 0 cx cy fo fv to tv fi ti)), ((ad 3), .inl (E.2.1, 2049, .inl (mg_z bg 2049)))] H := hP
            have hD : va_D A [((ad 0), .inl (E.2.1, 8192, .inl (upd (upd (upd (upd e9 (4 * k) x) (4 * k + 1) y) (4 * k + 2) x2) (4 * k + 3) y2))), (h0, .inr (3, mF ad 0 (nI k) 0 0 0 cx cy fo fv to tv fi ti)), ((ad 3), .inl (E.2.1, 2049, .inl (mg_z bg 2049)))] := hD
            refine lv_aload_n hx hb d_M_segment_107 rfl (lv_at hl 1 rfl) ?_
            refine lv_dup hx hb d_M_segment_108 rfl ?_
            refine va_get (D := D) (ci := 3) (v := .int (nI k)) (C := K_M) (T := F_M) (N := 24) hx hb hG in_M hown hK.1 hP 1 rfl rfl 1 (by decide) (hG _ wd_649) (fun _ h9 => h9) rfl d_M_segment_109 ?_
            refine lv_iconst (v := 1) hx hb d_M_segment_112 (by decide) ?_
            refine lv_iadd hx hb d_M_segment_113 ?_
            rw [show (nI k + 1) = nI (k + 1) from nI_1 _]
            refine va_put (D := D) (ci := 3) (v := .int (nI (k + 1))) (ty := .int) (C := K_M) (T := F_M) (N := 24) hx hb hG in_M t_M t_M_ok n_M hown hK.1 hP hD hS 1 rfl rfl 1 (by decide) (hG _ wd_649) (fun _ h9 => h9) rfl (by decide +kernel) rfl rfl (Nat.le_of_ble_eq_true rfl) d_M_segment_114 (fun H locs hP hD hS => ?_)
            have hP : va_P D vwC [((ad 0), .inl (E.2.1, 8192, .inl (upd (upd (upd (upd e9 (4 * k) x) (4 * k + 1) y) (4 * k + 2) x2) (4 * k + 3) y2))), (h0, .inr (3, mF ad 0 (nI (k + 1)) 0 0 0 cx cy fo fv to tv fi ti)), ((ad 3), .inl (E.2.1, 2049, .inl (mg_z bg 2049)))] H := hP
            have hD : va_D A [((ad 0), .inl (E.2.1, 8192, .inl (upd (upd (upd (upd e9 (4 * k) x) (4 * k + 1) y) (4 * k + 2) x2) (4 * k + 3) y2))), (h0, .inr (3, mF ad 0 (nI (k + 1)) 0 0 0 cx cy fo fv to tv fi ti)), ((ad 3), .inl (E.2.1, 2049, .inl (mg_z bg 2049)))] := hD
            refine lv_aload_n hx hb d_M_segment_117 rfl (lv_at hl 1 rfl) ?_
            refine va_get (D := D) (ci := 3) (v := .int (nI (k + 1))) (C := K_M) (T := F_M) (N := 24) hx hb hG in_M hown hK.1 hP 1 rfl rfl 1 (by decide) (hG _ wd_649) (fun _ h9 => h9) rfl d_M_segment_118 ?_
            refine lv_iconst (v := 1) hx hb d_M_segment_121 (by decide) ?_
            refine lv_isub hx hb d_M_segment_122 ?_
            rw [show (nI (k + 1) - 1) = nI k from nI_pred k]
            have hP := hP
            have hP := hP.sub (ws' := [(h0, .inr (3, mF ad 0 (nI (k + 1)) 0 0 0 cx cy fo fv to tv fi ti)), ((ad 0), .inl (E.2.1, 8192, .inl (upd (upd (upd (upd e9 (4 * k) x) (4 * k + 1) y) (4 * k + 2) x2) (4 * k + 3) y2))), ((ad 3), .inl (E.2.1, 2049, .inl (mg_z bg 2049)))]) [1, 0, 2] rfl
            have hD := hD.sub (ws' := [(h0, .inr (3, mF ad 0 (nI (k + 1)) 0 0 0 cx cy fo fv to tv fi ti)), ((ad 0), .inl (E.2.1, 8192, .inl (upd (upd (upd (upd e9 (4 * k) x) (4 * k + 1) y) (4 * k + 2) x2) (4 * k + 3) y2))), ((ad 3), .inl (E.2.1, 2049, .inl (mg_z bg 2049)))]) [1, 0, 2] (by decide) rfl
            exact W.iret (v := nI k) hx hb hrt (fun t ht hW => ⟨⟨nI k, (), rfl, rfl, ⟨by rw [ht]; exact hP, hD⟩⟩, hS.F ht⟩) hS.2.2 d_M_segment_123 hlocks
          · exact absurd ((nI_eq (b := 2048) (by omega) (by omega)).mp d1) (by omega)
        · rw [hf3] at c3
          exact absurd (b01_1 c3) hf.2.2.2
set_option maxHeartbeats 4000000 in
set_option maxRecDepth 100000 in
theorem k_M_clear (l : Launch) (D : va_G) (E : ClassId × ClassId × ClassId × ClassId) (h0 sz : Nat) (ad : Nat → Nat) (th sg sn hot pc cx cy : Int32) (fo fv to tv : Int64) (fi ti : Int32) (bg : Nat → Int32) : Met l y_M_clear (.code y_M_clear c_M_clear 2 (some .int) :: gw) ({ frames := 1, cells := 0, slots := 0, locals := 24 } : Room) (wP D E [(h0, .inr (3, mF ad th sg sn hot pc cx cy fo fv to tv fi ti)), ((ad 3), .inl (E.2.1, 2049, .inl bg))] sz [.ref h0]) (va_Qi (fun (r : Int32) (u : Unit) => r = sg) (wB D (fun _ => [(h0, .inr (3, mF ad 0 0 0 0 0 cx cy fo fv to tv fi ti)), ((ad 3), .inl (E.2.1, 2049, .inl (mg_z bg 2049)))]) (va_A [(h0, .inr (3, mF ad th sg sn hot pc cx cy fo fv to tv fi ti)), ((ad 3), .inl (E.2.1, 2049, .inl bg))] sz)) (va_A [(h0, .inr (3, mF ad th sg sn hot pc cx cy fo fv to tv fi ti)), ((ad 3), .inl (E.2.1, 2049, .inl bg))] sz)) 0 0 (va_A [(h0, .inr (3, mF ad th sg sn hot pc cx cy fo fv to tv fi ti)), ((ad 3), .inl (E.2.1, 2049, .inl bg))] sz) := by
  refine wr_ofW (Qc := fun A => (va_Qi (fun (r : Int32) (u : Unit) => r = sg) (wB D (fun _ => [(h0, .inr (3, mF ad 0 0 0 0 0 cx cy fo fv to tv fi ti)), ((ad 3), .inl (E.2.1, 2049, .inl (mg_z bg 2049)))]) A) A)) (by decide) (Nat.le_of_ble_eq_true rfl) ?_
  intro p e s m below meth c B hP hK A hA hD hS ls hl
  obtain ⟨hx, hb, hrt, hml, hown, hts, hG, hlocks, hin⟩ := B
  have hl : lv_has ls 2 [(0, .ref h0)] := hl
  refine lv_aload_n hx hb d_M_clear_0 rfl (lv_at hl 0 rfl) ?_
  refine lv_iconst (v := 0) hx hb d_M_clear_1 (by decide) ?_
  refine va_put (D := D) (ci := 3) (v := .int 0) (ty := .int) (C := K_M) (T := F_M) (N := 24) hx hb hG in_M t_M t_M_ok n_M hown hK.1 hP hD hS 0 rfl rfl 0 (by decide) (hG _ wd_648) (fun _ h9 => h9) rfl (by decide +kernel) rfl rfl (Nat.le_of_ble_eq_true rfl) d_M_clear_2 (fun H locs hP hD hS => ?_)
  have hP : va_P D vwC [(h0, .inr (3, mF ad 0 sg sn hot pc cx cy fo fv to tv fi ti)), ((ad 3), .inl (E.2.1, 2049, .inl bg))] H := hP
  have hD : va_D A [(h0, .inr (3, mF ad 0 sg sn hot pc cx cy fo fv to tv fi ti)), ((ad 3), .inl (E.2.1, 2049, .inl bg))] := hD
  refine lv_aload_n hx hb d_M_clear_5 rfl (lv_at hl 0 rfl) ?_
  refine va_get (D := D) (ci := 3) (v := .int sg) (C := K_M) (T := F_M) (N := 24) hx hb hG in_M hown hK.1 hP 0 rfl rfl 1 (by decide) (hG _ wd_649) (fun _ h9 => h9) rfl d_M_clear_6 ?_
  refine lv_istore_n (lv' := [(1, .int sg), (0, .ref h0)]) hx hb d_M_clear_9 rfl hl (by decide) rfl (fun ls hl => ?_)
  refine lv_aload_n hx hb d_M_clear_10 rfl (lv_at hl 1 rfl) ?_
  refine lv_iconst (v := 0) hx hb d_M_clear_11 (by decide) ?_
  refine va_put (D := D) (ci := 3) (v := .int 0) (ty := .int) (C := K_M) (T := F_M) (N := 24) hx hb hG in_M t_M t_M_ok n_M hown hK.1 hP hD hS 0 rfl rfl 1 (by decide) (hG _ wd_649) (fun _ h9 => h9) rfl (by decide +kernel) rfl rfl (Nat.le_of_ble_eq_true rfl) d_M_clear_12 (fun H locs hP hD hS => ?_)
  have hP : va_P D vwC [(h0, .inr (3, mF ad 0 0 sn hot pc cx cy fo fv to tv fi ti)), ((ad 3), .inl (E.2.1, 2049, .inl bg))] H := hP
  have hD : va_D A [(h0, .inr (3, mF ad 0 0 sn hot pc cx cy fo fv to tv fi ti)), ((ad 3), .inl (E.2.1, 2049, .inl bg))] := hD
  refine lv_aload_n hx hb d_M_clear_15 rfl (lv_at hl 1 rfl) ?_
  have hPc := hP.sub (ws' := [(h0, .inr (3, mF ad 0 0 sn hot pc cx cy fo fv to tv fi ti)), ((ad 3), .inl (E.2.1, 2049, .inl bg))]) [0, 1] rfl
  have hDc := hD.sub (ws' := [(h0, .inr (3, mF ad 0 0 sn hot pc cx cy fo fv to tv fi ti)), ((ad 3), .inl (E.2.1, 2049, .inl bg))]) [0, 1] (by decide) rfl
  have hFc := va_free (wc := [(h0, .inr (3, mF ad 0 0 sn hot pc cx cy fo fv to tv fi ti)), ((ad 3), .inl (E.2.1, 2049, .inl bg))]) hD hS hA [0, 1] rfl
  refine va_callv (va_runV (As := []) (rest := []) ⟨hx, hb, hml, hown, hts⟩ (k_M_forget l D E h0 H.size ad 0 0 sn hot pc cx cy fo fv to tv fi ti bg) (cwV 0 hts (gw_gv wd_743 wd_745 wd_22 wd_42 wd_746) rfl rfl rfl (by decide +kernel) ⟨Nat.le_of_ble_eq_true rfl, Nat.le_of_ble_eq_true rfl⟩) (wP_V 0 hPc hK hDc rfl rfl) rfl rfl hl.1 rfl (lv_room (Nat.le_of_ble_eq_true rfl)) d_M_clear_16 ⟨Nat.le_of_ble_eq_true rfl, Nat.le_of_ble_eq_true rfl⟩) hS (fun q _ h => hFc q h) hFc (fun u t H1 locs ht hvm hw hB hz1 hk1 hS => ?_)
  obtain ⟨hP1, hD1⟩ := hB
  rw [ht] at hP1
  obtain ⟨hP, hD⟩ := va_join (wr := []) (w1 := [(h0, .inr (3, mF ad 0 0 0 0 0 cx cy fo fv to tv fi ti)), ((ad 3), .inl (E.2.1, 2049, .inl (mg_z bg 2049)))]) hP hD [0, 1] [] rfl rfl (by decide) (by decide) hk1 hFc hP1 hD1
  generalize H1 = H at hP hS ⊢
  have hP : va_P D vwC [(h0, .inr (3, mF ad 0 0 0 0 0 cx cy fo fv to tv fi ti)), ((ad 3), .inl (E.2.1, 2049, .inl (mg_z bg 2049)))] H := hP
  have hD : va_D A [(h0, .inr (3, mF ad 0 0 0 0 0 cx cy fo fv to tv fi ti)), ((ad 3), .inl (E.2.1, 2049, .inl (mg_z bg 2049)))] := hD
  refine lv_iload_n hx hb d_M_clear_19 rfl (lv_at hl 0 rfl) ?_
  exact W.iret (v := sg) hx hb hrt (fun t ht hW => ⟨⟨sg, (), rfl, rfl, ⟨by rw [ht]; exact hP, hD⟩⟩, hS.F ht⟩) hS.2.2 d_M_clear_20 hlocks
set_option maxHeartbeats 4000000 in
set_option maxRecDepth 100000 in
theorem k_M_meets_s (l : Launch) (D : va_G) (E : ClassId × ClassId × ClassId × ClassId) (h0 sz : Nat) (ad : Nat → Nat) (th sg sn hot pc cx cy : Int32) (fo fv to tv : Int64) (fi ti : Int32) (k9 x y : Int32) (hn : ¬ mw_in k9 0 (sg - 1)) : Met l y_M_meets (.code y_M_meets c_M_meets 4 (some .boolean) :: gw) ({ frames := 4, cells := 0, slots := 0, locals := 160 } : Room) (wP D E [(h0, .inr (3, mF ad th sg sn hot pc cx cy fo fv to tv fi ti))] sz [.ref h0, .int k9, .int x, .int y]) (va_Qi (fun (r : Int32) (u : Unit) => r = 0) (wB D (fun _ => [(h0, .inr (3, mF ad 1 sg sn hot pc cx cy fo fv to tv fi ti))]) (va_A [(h0, .inr (3, mF ad th sg sn hot pc cx cy fo fv to tv fi ti))] sz)) (va_A [(h0, .inr (3, mF ad th sg sn hot pc cx cy fo fv to tv fi ti))] sz)) 0 0 (va_A [(h0, .inr (3, mF ad th sg sn hot pc cx cy fo fv to tv fi ti))] sz) := by
  refine wr_ofW (Qc := fun A => (va_Qi (fun (r : Int32) (u : Unit) => r = 0) (wB D (fun _ => [(h0, .inr (3, mF ad 1 sg sn hot pc cx cy fo fv to tv fi ti))]) A) A)) (by decide) (Nat.le_of_ble_eq_true rfl) ?_
  intro p e s m below meth c B hP hK A hA hD hS ls hl
  obtain ⟨hx, hb, hrt, hml, hown, hts, hG, hlocks, hin⟩ := B
  have hl : lv_has ls 4 [(0, .ref h0), (1, .int k9), (2, .int x), (3, .int y)] := hl
  refine lv_aload_n hx hb d_M_meets_0 rfl (lv_at hl 0 rfl) ?_
  refine lv_iconst (v := 0) hx hb d_M_meets_1 (by decide) ?_
  refine va_put (D := D) (ci := 3) (v := .int 0) (ty := .int) (C := K_M) (T := F_M) (N := 24) hx hb hG in_M t_M t_M_ok n_M hown hK.1 hP hD hS 0 rfl rfl 0 (by decide) (hG _ wd_648) (fun _ h9 => h9) rfl (by decide +kernel) rfl rfl (Nat.le_of_ble_eq_true rfl) d_M_meets_2 (fun H locs hP hD hS => ?_)
  have hP : va_P D vwC [(h0, .inr (3, mF ad 0 sg sn hot pc cx cy fo fv to tv fi ti))] H := hP
  have hD : va_D A [(h0, .inr (3, mF ad 0 sg sn hot pc cx cy fo fv to tv fi ti))] := hD
  refine lv_aload_n hx hb d_M_meets_5 rfl (lv_at hl 0 rfl) ?_
  refine lv_iload_n hx hb d_M_meets_6 rfl (lv_at hl 1 rfl) ?_
  have hPc := hP.sub (ws' := [(h0, .inr (3, mF ad 0 sg sn hot pc cx cy fo fv to tv fi ti))]) [0] rfl
  refine vp_callSi (W.runV (As := [.int k9]) (rest := []) ⟨hx, hb, hml, hown, hts⟩ (k_M_isSegment l D E h0 ad 0 sg sn hot pc cx cy fo fv to tv fi ti k9) (cwV 1 hts (gw_gv wd_755 wd_757 wd_23 wd_42 wd_758) rfl rfl rfl (by decide +kernel) ⟨Nat.le_of_ble_eq_true rfl, Nat.le_of_ble_eq_true rfl⟩) (rP_V 0 hPc hK rfl rfl) rfl rfl hl.1 rfl (lv_room (Nat.le_of_ble_eq_true rfl)) d_M_meets_7 ⟨Nat.le_of_ble_eq_true rfl, Nat.le_of_ble_eq_true rfl⟩) (fun is1 his1 => ?_)
  refine lv_if_ne (tgt := 27) hx hb d_M_meets_10 (by decide) (fun c1 => ?_) (fun c1 => ?_)
  · rw [his1] at c1
    exact absurd (b01_1 c1) hn
  · refine lv_aload_n hx hb d_M_meets_13 rfl (lv_at hl 0 rfl) ?_
    refine lv_iconst (v := 1) hx hb d_M_meets_14 (by decide) ?_
    have hPc := hP.sub (ws' := [(h0, .inr (3, mF ad 0 sg sn hot pc cx cy fo fv to tv fi ti))]) [0] rfl
    have hDc := hD.sub (ws' := [(h0, .inr (3, mF ad 0 sg sn hot pc cx cy fo fv to tv fi ti))]) [0] (by decide) rfl
    have hFc := va_free (wc := [(h0, .inr (3, mF ad 0 sg sn hot pc cx cy fo fv to tv fi ti))]) hD hS hA [0] rfl
    refine va_calli (va_runV (As := [.int 1]) (rest := []) ⟨hx, hb, hml, hown, hts⟩ (k_M_fail l D E h0 H.size ad 0 sg sn hot pc cx cy fo fv to tv fi ti 1) (cwV 1 hts (gw_gv wd_739 wd_741 wd_21 wd_42 wd_742) rfl rfl rfl (by decide +kernel) ⟨Nat.le_of_ble_eq_true rfl, Nat.le_of_ble_eq_true rfl⟩) (wP_V 0 hPc hK hDc rfl rfl) rfl rfl hl.1 rfl (lv_room (Nat.le_of_ble_eq_true rfl)) d_M_meets_15 ⟨Nat.le_of_ble_eq_true rfl, Nat.le_of_ble_eq_true rfl⟩) hS (fun q _ h => hFc q h) hFc (fun rf2 u9 t H1 locs ht hvm hw hB hz1 hk1 hS => ?_)
    obtain ⟨hP1, hD1⟩ := hB
    rw [ht] at hP1
    obtain ⟨hP, hD⟩ := va_join (wr := []) (w1 := [(h0, .inr (3, mF ad 1 sg sn hot pc cx cy fo fv to tv fi ti))]) hP hD [0] [] rfl rfl (by decide) (by decide) hk1 hFc hP1 hD1
    generalize H1 = H at hP hS ⊢
    have hP : va_P D vwC [(h0, .inr (3, mF ad 1 sg sn hot pc cx cy fo fv to tv fi ti))] H := hP
    have hD : va_D A [(h0, .inr (3, mF ad 1 sg sn hot pc cx cy fo fv to tv fi ti))] := hD
    obtain rfl : rf2 = 0 := hw
    refine lv_if_le (tgt := 25) hx hb d_M_meets_18 (by decide) (fun c2 => ?_) (fun c2 => ?_)
    · refine lv_iconst (v := 0) hx hb d_M_meets_25 (by decide) ?_
      exact W.zret (v := 0) (ty := .boolean) hx hb hrt rfl (fun t ht hW => ⟨⟨0, (), rfl, rfl, ⟨by rw [ht]; exact hP, hD⟩⟩, hS.F ht⟩) hS.2.2 d_M_meets_26 hlocks
    · exact absurd (by decide) c2
set_option maxHeartbeats 4000000 in
set_option maxRecDepth 100000 in
theorem k_M_meets_f (l : Launch) (D : va_G) (E : ClassId × ClassId × ClassId × ClassId) (h0 sz : Nat) (ad : Nat → Nat) (th sg sn hot pc cx cy : Int32) (fo fv to tv : Int64) (fi ti : Int32) (k9 x y : Int32) (hs : mw_in k9 0 (sg - 1)) (hf : mw_far x ∨ mw_far y) : Met l y_M_meets (.code y_M_meets c_M_meets 4 (some .boolean) :: gw) ({ frames := 4, cells := 0, slots := 0, locals := 160 } : Room) (wP D E [(h0, .inr (3, mF ad th sg sn hot pc cx cy fo fv to tv fi ti))] sz [.ref h0, .int k9, .int x, .int y]) (va_Qi (fun (r : Int32) (u : Unit) => r = 0) (wB D (fun _ => [(h0, .inr (3, mF ad 2 sg sn hot pc cx cy fo fv to tv fi ti))]) (va_A [(h0, .inr (3, mF ad th sg sn hot pc cx cy fo fv to tv fi ti))] sz)) (va_A [(h0, .inr (3, mF ad th sg sn hot pc cx cy fo fv to tv fi ti))] sz)) 0 0 (va_A [(h0, .inr (3, mF ad th sg sn hot pc cx cy fo fv to tv fi ti))] sz) := by
  refine wr_ofW (Qc := fun A => (va_Qi (fun (r : Int32) (u : Unit) => r = 0) (wB D (fun _ => [(h0, .inr (3, mF ad 2 sg sn hot pc cx cy fo fv to tv fi ti))]) A) A)) (by decide) (Nat.le_of_ble_eq_true rfl) ?_
  intro p e s m below meth c B hP hK A hA hD hS ls hl
  obtain ⟨hx, hb, hrt, hml, hown, hts, hG, hlocks, hin⟩ := B
  have hl : lv_has ls 4 [(0, .ref h0), (1, .int k9), (2, .int x), (3, .int y)] := hl
  refine lv_aload_n hx hb d_M_meets_0 rfl (lv_at hl 0 rfl) ?_
  refine lv_iconst (v := 0) hx hb d_M_meets_1 (by decide) ?_
  refine va_put (D := D) (ci := 3) (v := .int 0) (ty := .int) (C := K_M) (T := F_M) (N := 24) hx hb hG in_M t_M t_M_ok n_M hown hK.1 hP hD hS 0 rfl rfl 0 (by decide) (hG _ wd_648) (fun _ h9 => h9) rfl (by decide +kernel) rfl rfl (Nat.le_of_ble_eq_true rfl) d_M_meets_2 (fun H locs hP hD hS => ?_)
  have hP : va_P D vwC [(h0, .inr (3, mF ad 0 sg sn hot pc cx cy fo fv to tv fi ti))] H := hP
  have hD : va_D A [(h0, .inr (3, mF ad 0 sg sn hot pc cx cy fo fv to tv fi ti))] := hD
  refine lv_aload_n hx hb d_M_meets_5 rfl (lv_at hl 0 rfl) ?_
  refine lv_iload_n hx hb d_M_meets_6 rfl (lv_at hl 1 rfl) ?_
  have hPc := hP.sub (ws' := [(h0, .inr (3, mF ad 0 sg sn hot pc cx cy fo fv to tv fi ti))]) [0] rfl
  refine vp_callSi (W.runV (As := [.int k9]) (rest := []) ⟨hx, hb, hml, hown, hts⟩ (k_M_isSegment l D E h0 ad 0 sg sn hot pc cx cy fo fv to tv fi ti k9) (cwV 1 hts (gw_gv wd_755 wd_757 wd_23 wd_42 wd_758) rfl rfl rfl (by decide +kernel) ⟨Nat.le_of_ble_eq_true rfl, Nat.le_of_ble_eq_true rfl⟩) (rP_V 0 hPc hK rfl rfl) rfl rfl hl.1 rfl (lv_room (Nat.le_of_ble_eq_true rfl)) d_M_meets_7 ⟨Nat.le_of_ble_eq_true rfl, Nat.le_of_ble_eq_true rfl⟩) (fun is1 his1 => ?_)
  refine lv_if_ne (tgt := 27) hx hb d_M_meets_10 (by decide) (fun c9 => ?_) (fun c9 => ?_)
  · refine lv_iload_n hx hb d_M_meets_27 rfl (lv_at hl 2 rfl) ?_
    have hPc := hP.sub (ws' := []) [] rfl
    refine vp_callSi (W.runS (As := [.int x]) (rest := []) ⟨hx, hb, hml, hown, hts⟩ (k_M_isFar l D E x) (va_cwS 1 hts (gw_gs wd_731 wd_732 wd_42 wd_733) rfl rfl rfl (by decide +kernel) ⟨Nat.le_of_ble_eq_true rfl, Nat.le_of_ble_eq_true rfl⟩) (rP_S hPc hK) rfl rfl hl.1 rfl (lv_room (Nat.le_of_ble_eq_true rfl)) d_M_meets_28 ⟨Nat.le_of_ble_eq_true rfl, Nat.le_of_ble_eq_true rfl⟩) (fun f0 hf0 => ?_)
    refine lv_if_ne (tgt := 41) hx hb d_M_meets_31 (by decide) (fun c0 => ?_) (fun c0 => ?_)
    · rw [hf0] at c0
      refine lv_aload_n hx hb d_M_meets_41 rfl (lv_at hl 0 rfl) ?_
      refine lv_iconst (v := 2) hx hb d_M_meets_42 (by decide) ?_
      have hPc := hP.sub (ws' := [(h0, .inr (3, mF ad 0 sg sn hot pc cx cy fo fv to tv fi ti))]) [0] rfl
      have hDc := hD.sub (ws' := [(h0, .inr (3, mF ad 0 sg sn hot pc cx cy fo fv to tv fi ti))]) [0] (by decide) rfl
      have hFc := va_free (wc := [(h0, .inr (3, mF ad 0 sg sn hot pc cx cy fo fv to tv fi ti))]) hD hS hA [0] rfl
      refine va_calli (va_runV (As := [.int 2]) (rest := []) ⟨hx, hb, hml, hown, hts⟩ (k_M_fail l D E h0 H.size ad 0 sg sn hot pc cx cy fo fv to tv fi ti 2) (cwV 1 hts (gw_gv wd_739 wd_741 wd_21 wd_42 wd_742) rfl rfl rfl (by decide +kernel) ⟨Nat.le_of_ble_eq_true rfl, Nat.le_of_ble_eq_true rfl⟩) (wP_V 0 hPc hK hDc rfl rfl) rfl rfl hl.1 rfl (lv_room (Nat.le_of_ble_eq_true rfl)) d_M_meets_43 ⟨Nat.le_of_ble_eq_true rfl, Nat.le_of_ble_eq_true rfl⟩) hS (fun q _ h => hFc q h) hFc (fun rf2 u9 t H1 locs ht hvm hw hB hz1 hk1 hS => ?_)
      obtain ⟨hP1, hD1⟩ := hB
      rw [ht] at hP1
      obtain ⟨hP, hD⟩ := va_join (wr := []) (w1 := [(h0, .inr (3, mF ad 2 sg sn hot pc cx cy fo fv to tv fi ti))]) hP hD [0] [] rfl rfl (by decide) (by decide) hk1 hFc hP1 hD1
      generalize H1 = H at hP hS ⊢
      have hP : va_P D vwC [(h0, .inr (3, mF ad 2 sg sn hot pc cx cy fo fv to tv fi ti))] H := hP
      have hD : va_D A [(h0, .inr (3, mF ad 2 sg sn hot pc cx cy fo fv to tv fi ti))] := hD
      obtain rfl : rf2 = 0 := hw
      refine lv_if_le (tgt := 53) hx hb d_M_meets_46 (by decide) (fun d1 => ?_) (fun d1 => ?_)
      · refine lv_iconst (v := 0) hx hb d_M_meets_53 (by decide) ?_
        exact W.zret (v := 0) (ty := .boolean) hx hb hrt rfl (fun t ht hW => ⟨⟨0, (), rfl, rfl, ⟨by rw [ht]; exact hP, hD⟩⟩, hS.F ht⟩) hS.2.2 d_M_meets_54 hlocks
      · exact absurd (by decide) d1
    · rw [hf0] at c0
      refine lv_iload_n hx hb d_M_meets_34 rfl (lv_at hl 3 rfl) ?_
      have hPc := hP.sub (ws' := []) [] rfl
      refine vp_callSi (W.runS (As := [.int y]) (rest := []) ⟨hx, hb, hml, hown, hts⟩ (k_M_isFar l D E y) (va_cwS 1 hts (gw_gs wd_731 wd_732 wd_42 wd_733) rfl rfl rfl (by decide +kernel) ⟨Nat.le_of_ble_eq_true rfl, Nat.le_of_ble_eq_true rfl⟩) (rP_S hPc hK) rfl rfl hl.1 rfl (lv_room (Nat.le_of_ble_eq_true rfl)) d_M_meets_35 ⟨Nat.le_of_ble_eq_true rfl, Nat.le_of_ble_eq_true rfl⟩) (fun f1 hf1 => ?_)
      refine lv_if_eq (tgt := 55) hx hb d_M_meets_38 (by decide) (fun c1 => ?_) (fun c1 => ?_)
      · rw [hf1] at c1
        exact absurd hf (by
          rintro (h | h)
          · rw [b01_t h] at c0; exact absurd c0 (by decide)
          · rw [b01_t h] at c1; exact absurd c1 (by decide))
      · rw [hf1] at c1
        refine lv_aload_n hx hb d_M_meets_41 rfl (lv_at hl 0 rfl) ?_
        refine lv_iconst (v := 2) hx hb d_M_meets_42 (by decide) ?_
        have hPc := hP.sub (ws' := [(h0, .inr (3, mF ad 0 sg sn hot pc cx cy fo fv to tv fi ti))]) [0] rfl
        have hDc := hD.sub (ws' := [(h0, .inr (3, mF ad 0 sg sn hot pc cx cy fo fv to tv fi ti))]) [0] (by decide) rfl
        have hFc := va_free (wc := [(h0, .inr (3, mF ad 0 sg sn hot pc cx cy fo fv to tv fi ti))]) hD hS hA [0] rfl
        refine va_calli (va_runV (As := [.int 2]) (rest := []) ⟨hx, hb, hml, hown, hts⟩ (k_M_fail l D E h0 H.size ad 0 sg sn hot pc cx cy fo fv to tv fi ti 2) (cwV 1 hts (gw_gv wd_739 wd_741 wd_21 wd_42 wd_742) rfl rfl rfl (by decide +kernel) ⟨Nat.le_of_ble_eq_true rfl, Nat.le_of_ble_eq_true rfl⟩) (wP_V 0 hPc hK hDc rfl rfl) rfl rfl hl.1 rfl (lv_room (Nat.le_of_ble_eq_true rfl)) d_M_meets_43 ⟨Nat.le_of_ble_eq_true rfl, Nat.le_of_ble_eq_true rfl⟩) hS (fun q _ h => hFc q h) hFc (fun rf3 u9 t H1 locs ht hvm hw hB hz1 hk1 hS => ?_)
        obtain ⟨hP1, hD1⟩ := hB
        rw [ht] at hP1
        obtain ⟨hP, hD⟩ := va_join (wr := []) (w1 := [(h0, .inr (3, mF ad 2 sg sn hot pc cx cy fo fv to tv fi ti))]) hP hD [0] [] rfl rfl (by decide) (by decide) hk1 hFc hP1 hD1
        generalize H1 = H at hP hS ⊢
        have hP : va_P D vwC [(h0, .inr (3, mF ad 2 sg sn hot pc cx cy fo fv to tv fi ti))] H := hP
        have hD : va_D A [(h0, .inr (3, mF ad 2 sg sn hot pc cx cy fo fv to tv fi ti))] := hD
        obtain rfl : rf3 = 0 := hw
        refine lv_if_le (tgt := 53) hx hb d_M_meets_46 (by decide) (fun d1 => ?_) (fun d1 => ?_)
        · refine lv_iconst (v := 0) hx hb d_M_meets_53 (by decide) ?_
          exact W.zret (v := 0) (ty := .boolean) hx hb hrt rfl (fun t ht hW => ⟨⟨0, (), rfl, rfl, ⟨by rw [ht]; exact hP, hD⟩⟩, hS.F ht⟩) hS.2.2 d_M_meets_54 hlocks
        · exact absurd (by decide) d1
  · rw [his1, b01_t hs] at c9
    exact absurd c9 (by decide)
set_option maxHeartbeats 4000000 in
set_option maxRecDepth 100000 in
theorem k_M_meets (l : Launch) (D : va_G) (E : ClassId × ClassId × ClassId × ClassId) (h0 sz : Nat) (ad : Nat → Nat) (th sg sn hot pc cx cy : Int32) (fo fv to tv : Int64) (fi ti : Int32) (e9 : Nat → Int32) (k : Nat) (x y : Int32) (hk : 4 * k + 3 < 8192) (hs : mw_in (nI k) 0 (sg - 1)) (hf : ¬ mw_far x ∧ ¬ mw_far y) : Met l y_M_meets (.code y_M_meets c_M_meets 4 (some .boolean) :: gw) ({ frames := 4, cells := 0, slots := 0, locals := 160 } : Room) (wP D E [(h0, .inr (3, mF ad th sg sn hot pc cx cy fo fv to tv fi ti)), ((ad 0), .inl (E.2.1, 8192, .inl e9))] sz [.ref h0, .int (nI k), .int x, .int y]) (va_Qi (fun (r : Int32) (u : Unit) => r = b01 (mi_in (mq e9 k) x y)) (wB D (fun _ => [(h0, .inr (3, mF ad 0 sg sn hot pc cx cy ((mi_iv (mq e9 k) x y).1.1) ((mi_iv (mq e9 k) x y).1.2.1) ((mi_iv (mq e9 k) x y).2.1) ((mi_iv (mq e9 k) x y).2.2.1) ((mi_iv (mq e9 k) x y).1.2.2) ((mi_iv (mq e9 k) x y).2.2.2))), ((ad 0), .inl (E.2.1, 8192, .inl e9))]) (va_A [(h0, .inr (3, mF ad th sg sn hot pc cx cy fo fv to tv fi ti)), ((ad 0), .inl (E.2.1, 8192, .inl e9))] sz)) (va_A [(h0, .inr (3, mF ad th sg sn hot pc cx cy fo fv to tv fi ti)), ((ad 0), .inl (E.2.1, 8192, .inl e9))] sz)) 0 0 (va_A [(h0, .inr (3, mF ad th sg sn hot pc cx cy fo fv to tv fi ti)), ((ad 0), .inl (E.2.1, 8192, .inl e9))] sz) := by
  refine wr_ofW (Qc := fun A => (va_Qi (fun (r : Int32) (u : Unit) => r = b01 (mi_in (mq e9 k) x y)) (wB D (fun _ => [(h0, .inr (3, mF ad 0 sg sn hot pc cx cy ((mi_iv (mq e9 k) x y).1.1) ((mi_iv (mq e9 k) x y).1.2.1) ((mi_iv (mq e9 k) x y).2.1) ((mi_iv (mq e9 k) x y).2.2.1) ((mi_iv (mq e9 k) x y).1.2.2) ((mi_iv (mq e9 k) x y).2.2.2))), ((ad 0), .inl (E.2.1, 8192, .inl e9))]) A) A)) (by decide) (Nat.le_of_ble_eq_true rfl) ?_
  intro p e s m below meth c B hP hK A hA hD hS ls hl
  obtain ⟨hx, hb, hrt, hml, hown, hts, hG, hlocks, hin⟩ := B
  have hl : lv_has ls 4 [(0, .ref h0), (1, .int (nI k)), (2, .int x), (3, .int y)] := hl
  refine lv_aload_n hx hb d_M_meets_0 rfl (lv_at hl 0 rfl) ?_
  refine lv_iconst (v := 0) hx hb d_M_meets_1 (by decide) ?_
  refine va_put (D := D) (ci := 3) (v := .int 0) (ty := .int) (C := K_M) (T := F_M) (N := 24) hx hb hG in_M t_M t_M_ok n_M hown hK.1 hP hD hS 0 rfl rfl 0 (by decide) (hG _ wd_648) (fun _ h9 => h9) rfl (by decide +kernel) rfl rfl (Nat.le_of_ble_eq_true rfl) d_M_meets_2 (fun H locs hP hD hS => ?_)
  have hP : va_P D vwC [(h0, .inr (3, mF ad 0 sg sn hot pc cx cy fo fv to tv fi ti)), ((ad 0), .inl (E.2.1, 8192, .inl e9))] H := hP
  have hD : va_D A [(h0, .inr (3, mF ad 0 sg sn hot pc cx cy fo fv to tv fi ti)), ((ad 0), .inl (E.2.1, 8192, .inl e9))] := hD
  refine lv_aload_n hx hb d_M_meets_5 rfl (lv_at hl 0 rfl) ?_
  refine lv_iload_n hx hb d_M_meets_6 rfl (lv_at hl 1 rfl) ?_
  have hPc := hP.sub (ws' := [(h0, .inr (3, mF ad 0 sg sn hot pc cx cy fo fv to tv fi ti))]) [0] rfl
  refine vp_callSi (W.runV (As := [.int (nI k)]) (rest := []) ⟨hx, hb, hml, hown, hts⟩ (k_M_isSegment l D E h0 ad 0 sg sn hot pc cx cy fo fv to tv fi ti (nI k)) (cwV 1 hts (gw_gv wd_755 wd_757 wd_23 wd_42 wd_758) rfl rfl rfl (by decide +kernel) ⟨Nat.le_of_ble_eq_true rfl, Nat.le_of_ble_eq_true rfl⟩) (rP_V 0 hPc hK rfl rfl) rfl rfl hl.1 rfl (lv_room (Nat.le_of_ble_eq_true rfl)) d_M_meets_7 ⟨Nat.le_of_ble_eq_true rfl, Nat.le_of_ble_eq_true rfl⟩) (fun is1 his1 => ?_)
  refine lv_if_ne (tgt := 27) hx hb d_M_meets_10 (by decide) (fun c9 => ?_) (fun c9 => ?_)
  · refine lv_iload_n hx hb d_M_meets_27 rfl (lv_at hl 2 rfl) ?_
    have hPc := hP.sub (ws' := []) [] rfl
    refine vp_callSi (W.runS (As := [.int x]) (rest := []) ⟨hx, hb, hml, hown, hts⟩ (k_M_isFar l D E x) (va_cwS 1 hts (gw_gs wd_731 wd_732 wd_42 wd_733) rfl rfl rfl (by decide +kernel) ⟨Nat.le_of_ble_eq_true rfl, Nat.le_of_ble_eq_true rfl⟩) (rP_S hPc hK) rfl rfl hl.1 rfl (lv_room (Nat.le_of_ble_eq_true rfl)) d_M_meets_28 ⟨Nat.le_of_ble_eq_true rfl, Nat.le_of_ble_eq_true rfl⟩) (fun f0 hf0 => ?_)
    refine lv_if_ne (tgt := 41) hx hb d_M_meets_31 (by decide) (fun c0 => ?_) (fun c0 => ?_)
    · rw [hf0] at c0
      exact absurd (b01_1 c0) hf.1
    · rw [hf0] at c0
      refine lv_iload_n hx hb d_M_meets_34 rfl (lv_at hl 3 rfl) ?_
      have hPc := hP.sub (ws' := []) [] rfl
      refine vp_callSi (W.runS (As := [.int y]) (rest := []) ⟨hx, hb, hml, hown, hts⟩ (k_M_isFar l D E y) (va_cwS 1 hts (gw_gs wd_731 wd_732 wd_42 wd_733) rfl rfl rfl (by decide +kernel) ⟨Nat.le_of_ble_eq_true rfl, Nat.le_of_ble_eq_true rfl⟩) (rP_S hPc hK) rfl rfl hl.1 rfl (lv_room (Nat.le_of_ble_eq_true rfl)) d_M_meets_35 ⟨Nat.le_of_ble_eq_true rfl, Nat.le_of_ble_eq_true rfl⟩) (fun f1 hf1 => ?_)
      refine lv_if_eq (tgt := 55) hx hb d_M_meets_38 (by decide) (fun c1 => ?_) (fun c1 => ?_)
      · rw [hf1] at c1
        refine lv_aload_n hx hb d_M_meets_55 rfl (lv_at hl 0 rfl) ?_
        refine lv_iload_n hx hb d_M_meets_56 rfl (lv_at hl 1 rfl) ?_
        refine lv_iload_n hx hb d_M_meets_57 rfl (lv_at hl 2 rfl) ?_
        refine lv_iload_n hx hb d_M_meets_58 rfl (lv_at hl 3 rfl) ?_
        have hPc := hP.sub (ws' := [(h0, .inr (3, mF ad 0 sg sn hot pc cx cy fo fv to tv fi ti)), ((ad 0), .inl (E.2.1, 8192, .inl e9))]) [0, 1] rfl
        have hDc := hD.sub (ws' := [(h0, .inr (3, mF ad 0 sg sn hot pc cx cy fo fv to tv fi ti)), ((ad 0), .inl (E.2.1, 8192, .inl e9))]) [0, 1] (by decide) rfl
        have hFc := va_free (wc := [(h0, .inr (3, mF ad 0 sg sn hot pc cx cy fo fv to tv fi ti)), ((ad 0), .inl (E.2.1, 8192, .inl e9))]) hD hS hA [0, 1] rfl
        refine va_calli (va_runV (As := [.int (nI k), .int x, .int y]) (rest := []) ⟨hx, hb, hml, hown, hts⟩ (k_M_isIn l D E h0 H.size ad 0 sg sn hot pc cx cy fo fv to tv fi ti e9 k x y hk) (cwV 3 hts (gw_gv wd_759 wd_761 wd_24 wd_42 wd_762) rfl rfl rfl (by decide +kernel) ⟨Nat.le_of_ble_eq_true rfl, Nat.le_of_ble_eq_true rfl⟩) (wP_V 0 hPc hK hDc rfl rfl) rfl rfl hl.1 rfl (lv_room (Nat.le_of_ble_eq_true rfl)) d_M_meets_59 ⟨Nat.le_of_ble_eq_true rfl, Nat.le_of_ble_eq_true rfl⟩) hS (fun q _ h => hFc q h) hFc (fun ri u t H1 locs ht hvm hw hB hz1 hk1 hS => ?_)
        obtain ⟨hP1, hD1⟩ := hB
        rw [ht] at hP1
        obtain ⟨hP, hD⟩ := va_join (wr := []) (w1 := [(h0, .inr (3, mF ad 0 sg sn hot pc cx cy ((mi_iv (mq e9 k) x y).1.1) ((mi_iv (mq e9 k) x y).1.2.1) ((mi_iv (mq e9 k) x y).2.1) ((mi_iv (mq e9 k) x y).2.2.1) ((mi_iv (mq e9 k) x y).1.2.2) ((mi_iv (mq e9 k) x y).2.2.2))), ((ad 0), .inl (E.2.1, 8192, .inl e9))]) hP hD [0, 1] [] rfl rfl (by decide) (by decide) hk1 hFc hP1 hD1
        generalize H1 = H at hP hS ⊢
        have hP : va_P D vwC [(h0, .inr (3, mF ad 0 sg sn hot pc cx cy ((mi_iv (mq e9 k) x y).1.1) ((mi_iv (mq e9 k) x y).1.2.1) ((mi_iv (mq e9 k) x y).2.1) ((mi_iv (mq e9 k) x y).2.2.1) ((mi_iv (mq e9 k) x y).1.2.2) ((mi_iv (mq e9 k) x y).2.2.2))), ((ad 0), .inl (E.2.1, 8192, .inl e9))] H := hP
        have hD : va_D A [(h0, .inr (3, mF ad 0 sg sn hot pc cx cy ((mi_iv (mq e9 k) x y).1.1) ((mi_iv (mq e9 k) x y).1.2.1) ((mi_iv (mq e9 k) x y).2.1) ((mi_iv (mq e9 k) x y).2.2.1) ((mi_iv (mq e9 k) x y).1.2.2) ((mi_iv (mq e9 k) x y).2.2.2))), ((ad 0), .inl (E.2.1, 8192, .inl e9))] := hD
        obtain rfl : ri = _ := hw
        exact W.zret (v := (b01 (mi_in (mq e9 k) x y))) (ty := .boolean) hx hb hrt (b01_n _) (fun t ht hW => ⟨⟨(b01 (mi_in (mq e9 k) x y)), (), rfl, rfl, ⟨by rw [ht]; exact hP, hD⟩⟩, hS.F ht⟩) hS.2.2 d_M_meets_62 hlocks
      · rw [hf1] at c1
        exact absurd (b01_1 c1) hf.2
  · rw [his1, b01_t hs] at c9
    exact absurd c9 (by decide)
end
