theorem d_M_heatAll_0 : decode c_M_heatAll 0 = .ok (.iconst 1, 1) := by decide +kernel
theorem d_M_heatAll_1 : decode c_M_heatAll 1 = .ok (.istore_n 1, 1) := by decide +kernel
theorem d_M_heatAll_2 : decode c_M_heatAll 2 = .ok (.iconst 0, 1) := by decide +kernel
theorem d_M_heatAll_3 : decode c_M_heatAll 3 = .ok (.istore_n 2, 1) := by decide +kernel
theorem d_M_heatAll_4 : decode c_M_heatAll 4 = .ok (.iload_n 2, 1) := by decide +kernel
theorem d_M_heatAll_5 : decode c_M_heatAll 5 = .ok (.aload_n 0, 1) := by decide +kernel
theorem d_M_heatAll_6 : decode c_M_heatAll 6 = .ok (.getfield 56, 3) := by decide +kernel
theorem d_M_heatAll_9 : decode c_M_heatAll 9 = .ok (.if_icmp .ge 71, 3) := by decide +kernel
theorem d_M_heatAll_12 : decode c_M_heatAll 12 = .ok (.iload_n 1, 1) := by decide +kernel
theorem d_M_heatAll_13 : decode c_M_heatAll 13 = .ok (.ifCond .eq 67, 3) := by decide +kernel
theorem d_M_heatAll_16 : decode c_M_heatAll 16 = .ok (.aload_n 0, 1) := by decide +kernel
theorem d_M_heatAll_17 : decode c_M_heatAll 17 = .ok (.aload_n 0, 1) := by decide +kernel
theorem d_M_heatAll_18 : decode c_M_heatAll 18 = .ok (.getfield 7, 3) := by decide +kernel
theorem d_M_heatAll_21 : decode c_M_heatAll 21 = .ok (.iconst 4, 1) := by decide +kernel
theorem d_M_heatAll_22 : decode c_M_heatAll 22 = .ok (.iload_n 2, 1) := by decide +kernel
theorem d_M_heatAll_23 : decode c_M_heatAll 23 = .ok (.imul, 1) := by decide +kernel
theorem d_M_heatAll_24 : decode c_M_heatAll 24 = .ok (.iaload, 1) := by decide +kernel
theorem d_M_heatAll_25 : decode c_M_heatAll 25 = .ok (.aload_n 0, 1) := by decide +kernel
theorem d_M_heatAll_26 : decode c_M_heatAll 26 = .ok (.getfield 7, 3) := by decide +kernel
theorem d_M_heatAll_29 : decode c_M_heatAll 29 = .ok (.iconst 4, 1) := by decide +kernel
theorem d_M_heatAll_30 : decode c_M_heatAll 30 = .ok (.iload_n 2, 1) := by decide +kernel
theorem d_M_heatAll_31 : decode c_M_heatAll 31 = .ok (.imul, 1) := by decide +kernel
theorem d_M_heatAll_32 : decode c_M_heatAll 32 = .ok (.iconst 1, 1) := by decide +kernel
theorem d_M_heatAll_33 : decode c_M_heatAll 33 = .ok (.iadd, 1) := by decide +kernel
theorem d_M_heatAll_34 : decode c_M_heatAll 34 = .ok (.iaload, 1) := by decide +kernel
theorem d_M_heatAll_35 : decode c_M_heatAll 35 = .ok (.invokevirtual 143, 3) := by decide +kernel
theorem d_M_heatAll_38 : decode c_M_heatAll 38 = .ok (.ifCond .eq 34, 3) := by decide +kernel
theorem d_M_heatAll_41 : decode c_M_heatAll 41 = .ok (.aload_n 0, 1) := by decide +kernel
theorem d_M_heatAll_42 : decode c_M_heatAll 42 = .ok (.aload_n 0, 1) := by decide +kernel
theorem d_M_heatAll_43 : decode c_M_heatAll 43 = .ok (.getfield 7, 3) := by decide +kernel
theorem d_M_heatAll_46 : decode c_M_heatAll 46 = .ok (.iconst 4, 1) := by decide +kernel
theorem d_M_heatAll_47 : decode c_M_heatAll 47 = .ok (.iload_n 2, 1) := by decide +kernel
theorem d_M_heatAll_48 : decode c_M_heatAll 48 = .ok (.imul, 1) := by decide +kernel
theorem d_M_heatAll_49 : decode c_M_heatAll 49 = .ok (.iconst 2, 1) := by decide +kernel
theorem d_M_heatAll_50 : decode c_M_heatAll 50 = .ok (.iadd, 1) := by decide +kernel
theorem d_M_heatAll_51 : decode c_M_heatAll 51 = .ok (.iaload, 1) := by decide +kernel
theorem d_M_heatAll_52 : decode c_M_heatAll 52 = .ok (.aload_n 0, 1) := by decide +kernel
theorem d_M_heatAll_53 : decode c_M_heatAll 53 = .ok (.getfield 7, 3) := by decide +kernel
theorem d_M_heatAll_56 : decode c_M_heatAll 56 = .ok (.iconst 4, 1) := by decide +kernel
theorem d_M_heatAll_57 : decode c_M_heatAll 57 = .ok (.iload_n 2, 1) := by decide +kernel
theorem d_M_heatAll_58 : decode c_M_heatAll 58 = .ok (.imul, 1) := by decide +kernel
theorem d_M_heatAll_59 : decode c_M_heatAll 59 = .ok (.iconst 3, 1) := by decide +kernel
theorem d_M_heatAll_60 : decode c_M_heatAll 60 = .ok (.iadd, 1) := by decide +kernel
theorem d_M_heatAll_61 : decode c_M_heatAll 61 = .ok (.iaload, 1) := by decide +kernel
theorem d_M_heatAll_62 : decode c_M_heatAll 62 = .ok (.invokevirtual 143, 3) := by decide +kernel
theorem d_M_heatAll_65 : decode c_M_heatAll 65 = .ok (.ifCond .eq 7, 3) := by decide +kernel
theorem d_M_heatAll_68 : decode c_M_heatAll 68 = .ok (.iconst 1, 1) := by decide +kernel
theorem d_M_heatAll_69 : decode c_M_heatAll 69 = .ok (.goto 4, 3) := by decide +kernel
theorem d_M_heatAll_72 : decode c_M_heatAll 72 = .ok (.iconst 0, 1) := by decide +kernel
theorem d_M_heatAll_73 : decode c_M_heatAll 73 = .ok (.istore_n 1, 1) := by decide +kernel
theorem d_M_heatAll_74 : decode c_M_heatAll 74 = .ok (.iinc 2 1, 3) := by decide +kernel
theorem d_M_heatAll_77 : decode c_M_heatAll 77 = .ok (.goto (-73), 3) := by decide +kernel
theorem d_M_heatAll_80 : decode c_M_heatAll 80 = .ok (.iconst 0, 1) := by decide +kernel
theorem d_M_heatAll_81 : decode c_M_heatAll 81 = .ok (.istore_n 2, 1) := by decide +kernel
theorem d_M_heatAll_82 : decode c_M_heatAll 82 = .ok (.iload_n 2, 1) := by decide +kernel
theorem d_M_heatAll_83 : decode c_M_heatAll 83 = .ok (.aload_n 0, 1) := by decide +kernel
theorem d_M_heatAll_84 : decode c_M_heatAll 84 = .ok (.getfield 56, 3) := by decide +kernel
theorem d_M_heatAll_87 : decode c_M_heatAll 87 = .ok (.if_icmp .ge 65, 3) := by decide +kernel
theorem d_M_heatAll_90 : decode c_M_heatAll 90 = .ok (.iload_n 1, 1) := by decide +kernel
theorem d_M_heatAll_91 : decode c_M_heatAll 91 = .ok (.ifCond .eq 61, 3) := by decide +kernel
theorem d_M_heatAll_94 : decode c_M_heatAll 94 = .ok (.iload_n 2, 1) := by decide +kernel
theorem d_M_heatAll_95 : decode c_M_heatAll 95 = .ok (.iconst 1, 1) := by decide +kernel
theorem d_M_heatAll_96 : decode c_M_heatAll 96 = .ok (.iadd, 1) := by decide +kernel
theorem d_M_heatAll_97 : decode c_M_heatAll 97 = .ok (.istore_n 3, 1) := by decide +kernel
theorem d_M_heatAll_98 : decode c_M_heatAll 98 = .ok (.iload_n 3, 1) := by decide +kernel
theorem d_M_heatAll_99 : decode c_M_heatAll 99 = .ok (.aload_n 0, 1) := by decide +kernel
theorem d_M_heatAll_100 : decode c_M_heatAll 100 = .ok (.getfield 56, 3) := by decide +kernel
theorem d_M_heatAll_103 : decode c_M_heatAll 103 = .ok (.if_icmp .ge 43, 3) := by decide +kernel
theorem d_M_heatAll_106 : decode c_M_heatAll 106 = .ok (.iload_n 1, 1) := by decide +kernel
theorem d_M_heatAll_107 : decode c_M_heatAll 107 = .ok (.ifCond .eq 39, 3) := by decide +kernel
theorem d_M_heatAll_110 : decode c_M_heatAll 110 = .ok (.aload_n 0, 1) := by decide +kernel
theorem d_M_heatAll_111 : decode c_M_heatAll 111 = .ok (.iload_n 2, 1) := by decide +kernel
theorem d_M_heatAll_112 : decode c_M_heatAll 112 = .ok (.iload_n 3, 1) := by decide +kernel
theorem d_M_heatAll_113 : decode c_M_heatAll 113 = .ok (.invokevirtual 136, 3) := by decide +kernel
theorem d_M_heatAll_116 : decode c_M_heatAll 116 = .ok (.ifCond .eq 18, 3) := by decide +kernel
theorem d_M_heatAll_119 : decode c_M_heatAll 119 = .ok (.aload_n 0, 1) := by decide +kernel
theorem d_M_heatAll_120 : decode c_M_heatAll 120 = .ok (.aload_n 0, 1) := by decide +kernel
theorem d_M_heatAll_121 : decode c_M_heatAll 121 = .ok (.getfield 130, 3) := by decide +kernel
theorem d_M_heatAll_124 : decode c_M_heatAll 124 = .ok (.aload_n 0, 1) := by decide +kernel
theorem d_M_heatAll_125 : decode c_M_heatAll 125 = .ok (.getfield 133, 3) := by decide +kernel
theorem d_M_heatAll_128 : decode c_M_heatAll 128 = .ok (.invokevirtual 143, 3) := by decide +kernel
theorem d_M_heatAll_131 : decode c_M_heatAll 131 = .ok (.ifCond .eq 7, 3) := by decide +kernel
theorem d_M_heatAll_134 : decode c_M_heatAll 134 = .ok (.iconst 1, 1) := by decide +kernel
theorem d_M_heatAll_135 : decode c_M_heatAll 135 = .ok (.goto 4, 3) := by decide +kernel
theorem d_M_heatAll_138 : decode c_M_heatAll 138 = .ok (.iconst 0, 1) := by decide +kernel
theorem d_M_heatAll_139 : decode c_M_heatAll 139 = .ok (.istore_n 1, 1) := by decide +kernel
theorem d_M_heatAll_140 : decode c_M_heatAll 140 = .ok (.iinc 3 1, 3) := by decide +kernel
theorem d_M_heatAll_143 : decode c_M_heatAll 143 = .ok (.goto (-45), 3) := by decide +kernel
theorem d_M_heatAll_146 : decode c_M_heatAll 146 = .ok (.iinc 2 1, 3) := by decide +kernel
theorem d_M_heatAll_149 : decode c_M_heatAll 149 = .ok (.goto (-67), 3) := by decide +kernel
theorem d_M_heatAll_152 : decode c_M_heatAll 152 = .ok (.iload_n 1, 1) := by decide +kernel
theorem d_M_heatAll_153 : decode c_M_heatAll 153 = .ok (.ireturn, 1) := by decide +kernel
noncomputable section
def ha_1 (q : SQ) (s : HT) : HT := if (mh_heat s q.1 q.2.1).2.2 ≤ 8192 then mh_heat (mh_heat s q.1 q.2.1) q.2.2.1 q.2.2.2 else mh_heat s q.1 q.2.1
def ha_e (e : Nat → Int32) (n : Nat) : Nat → Nat → HT → HT
  | 0, _, s => s
  | fu + 1, k, s => if k < n ∧ s.2.2 ≤ 8192 then ha_e e n fu (k + 1) (ha_1 (mq e k) s) else s
def ha_c (q o : SQ) (s : HT) : HT := if b01 (mx_ok q o) = 0 then s else mh_heat s (mx_x q o) (mx_y q o)
def ha_t (e : Nat → Int32) (n k : Nat) : Nat → Nat → HT → HT
  | 0, _, s => s
  | fu + 1, j, s => if j < n ∧ s.2.2 ≤ 8192 then ha_t e n k fu (j + 1) (ha_c (mq e k) (mq e j) s) else s
def ha_s (e : Nat → Int32) (n : Nat) : Nat → Nat → HT → HT
  | 0, _, s => s
  | fu + 1, k, s => if k < n ∧ s.2.2 ≤ 8192 then ha_s e n fu (k + 1) (ha_t e n k (n + 1) (k + 1) s) else s
def ha_all (e : Nat → Int32) (n : Nat) (s : HT) : HT := ha_s e n (n + 1) 0 (ha_e e n (n + 1) 0 s)
set_option maxHeartbeats 4000000 in
set_option maxRecDepth 100000 in
theorem k_M_heatAll (l : Launch) (D : va_G) (E : ClassId × ClassId × ClassId × ClassId) (h0 sz : Nat) (ad : Nat → Nat) (th sg sn hot pc cx cy : Int32) (fo fv to tv : Int64) (fi ti : Int32) (e9 : Nat → Int32) (n : Nat) (st0 : HT) (hst0 : st0.2.2 ≤ 8192) (hn : 4 * n ≤ 8192) (hb9 : ∀ k, k < n → bnd (mq e9 k)) : Met l y_M_heatAll (.code y_M_heatAll c_M_heatAll 4 (some .boolean) :: gw) ({ frames := 2, cells := 0, slots := 0, locals := 80 } : Room) (wP D E [(h0, .inr (3, mF ad th (nI n) sn (nI st0.2.2) pc cx cy fo fv to tv fi ti)), ((ad 0), .inl (E.2.1, 8192, .inl e9)), ((ad 1), .inl (E.2.1, 8193, .inl st0.1)), ((ad 2), .inl (E.2.1, 8193, .inl st0.2.1))] sz [.ref h0]) (va_Qi (fun (r : Int32) (u : Int32 × Int32) => r = b01 ((ha_all e9 n st0).2.2 ≤ 8192)) (wB D (fun u => [(h0, .inr (3, mF ad th (nI n) sn (nI (ha_all e9 n st0).2.2) pc u.1 u.2 fo fv to tv fi ti)), ((ad 0), .inl (E.2.1, 8192, .inl e9)), ((ad 1), .inl (E.2.1, 8193, .inl ((ha_all e9 n st0).1))), ((ad 2), .inl (E.2.1, 8193, .inl ((ha_all e9 n st0).2.1)))]) (va_A [(h0, .inr (3, mF ad th (nI n) sn (nI st0.2.2) pc cx cy fo fv to tv fi ti)), ((ad 0), .inl (E.2.1, 8192, .inl e9)), ((ad 1), .inl (E.2.1, 8193, .inl st0.1)), ((ad 2), .inl (E.2.1, 8193, .inl st0.2.1))] sz)) (va_A [(h0, .inr (3, mF ad th (nI n) sn (nI st0.2.2) pc cx cy fo fv to tv fi ti)), ((ad 0), .inl (E.2.1, 8192, .inl e9)), ((ad 1), .inl (E.2.1, 8193, .inl st0.1)), ((ad 2), .inl (E.2.1, 8193, .inl st0.2.1))] sz)) 0 0 (va_A [(h0, .inr (3, mF ad th (nI n) sn (nI st0.2.2) pc cx cy fo fv to tv fi ti)), ((ad 0), .inl (E.2.1, 8192, .inl e9)), ((ad 1), .inl (E.2.1, 8193, .inl st0.1)), ((ad 2), .inl (E.2.1, 8193, .inl st0.2.1))] sz) := by
  refine wr_ofW (Qc := fun A => (va_Qi (fun (r : Int32) (u : Int32 × Int32) => r = b01 ((ha_all e9 n st0).2.2 ≤ 8192)) (wB D (fun u => [(h0, .inr (3, mF ad th (nI n) sn (nI (ha_all e9 n st0).2.2) pc u.1 u.2 fo fv to tv fi ti)), ((ad 0), .inl (E.2.1, 8192, .inl e9)), ((ad 1), .inl (E.2.1, 8193, .inl ((ha_all e9 n st0).1))), ((ad 2), .inl (E.2.1, 8193, .inl ((ha_all e9 n st0).2.1)))]) A) A)) (by decide) (Nat.le_of_ble_eq_true rfl) ?_
  intro p e s m below meth c B hP hK A hA hD hS ls hl
  obtain ⟨hx, hb, hrt, hml, hown, hts, hG, hlocks, hin⟩ := B
  have hl : lv_has ls 4 [(0, .ref h0)] := hl
  obtain ⟨T, hT⟩ : ∃ T, T = (ha_all e9 n st0) := ⟨_, rfl⟩
  rw [← hT]
  have outer : ∀ (fu : Nat) (k : Nat) (st : HT) (cx : Int32) (cy : Int32) (b : Int32) (H : Heap) (locs : List Loc) (ls : Array Slot), (k ≤ n) → (n < k + fu) → (b = b01 (st.2.2 ≤ 8192)) → (ha_s e9 n fu k st = T) → va_P D vwC [(h0, .inr (3, mF ad th (nI n) sn (nI st.2.2) pc cx cy fo fv to tv fi ti)), ((ad 0), .inl (E.2.1, 8192, .inl e9)), ((ad 1), .inl (E.2.1, 8193, .inl st.1)), ((ad 2), .inl (E.2.1, 8193, .inl st.2.1))] H → va_D A [(h0, .inr (3, mF ad th (nI n) sn (nI st.2.2) pc cx cy fo fv to tv fi ti)), ((ad 0), .inl (E.2.1, 8192, .inl e9)), ((ad 1), .inl (E.2.1, 8193, .inl st.1)), ((ad 2), .inl (E.2.1, 8193, .inl st.2.1))] → va_S A s.heap H locs → lv_has ls 4 [(0, .ref h0), (1, .int b), (2, .int (nI k))] → W p l e ({ frames := 2, cells := 0, slots := 0, locals := 80 } : Room) s m ([.ref h0] : List Value).toArray below meth c H locs 0 0 (MQ below (va_Qi (fun (r : Int32) (u : Int32 × Int32) => r = b01 (T.2.2 ≤ 8192)) (wB D (fun u => [(h0, .inr (3, mF ad th (nI n) sn (nI T.2.2) pc u.1 u.2 fo fv to tv fi ti)), ((ad 0), .inl (E.2.1, 8192, .inl e9)), ((ad 1), .inl (E.2.1, 8193, .inl T.1)), ((ad 2), .inl (E.2.1, 8193, .inl T.2.1))]) A) A) ([.ref h0] : List Value).toArray s 0 0 A) (F0 m 82 ls []) := by
    intro fu
    induction fu with
    | zero =>
      intro k st cx cy b H locs ls h1 h2 h3 h4 hP hD hS hl
      omega
    | succ fu ihO =>
      intro k st cx cy b H locs ls h1 h2 h3 h4 hP hD hS hl
      rw [ha_s] at h4
      refine lv_iload_n hx hb d_M_heatAll_82 rfl (lv_at hl 2 rfl) ?_
      refine lv_aload_n hx hb d_M_heatAll_83 rfl (lv_at hl 0 rfl) ?_
      refine va_get (D := D) (ci := 3) (v := .int (nI n)) (C := K_M) (T := F_M) (N := 24) hx hb hG in_M hown hK.1 hP 0 rfl rfl 1 (by decide) (hG _ wd_649) (fun _ h9 => h9) rfl d_M_heatAll_84 ?_
      refine lv_icmp_ge (tgt := 152) hx hb d_M_heatAll_87 (by decide) (fun c1 => ?_) (fun c1 => ?_)
      · rw [if_neg (fun g => by have := (nI_leI (by omega) (by omega)).mp c1; omega)] at h4
        subst h4
        refine lv_iload_n hx hb d_M_heatAll_152 rfl (lv_at hl 1 rfl) ?_
        subst h3
        exact W.zret (v := (b01 (st.2.2 ≤ 8192))) (ty := .boolean) hx hb hrt (b01_n _) (fun t ht hW => ⟨⟨(b01 (st.2.2 ≤ 8192)), (cx, cy), rfl, rfl, ⟨by rw [ht]; exact hP, hD⟩⟩, hS.F ht⟩) hS.2.2 d_M_heatAll_153 hlocks
      · have q : k < n := by rw [nI_leI (by omega) (by omega)] at c1; omega
        refine lv_iload_n hx hb d_M_heatAll_90 rfl (lv_at hl 1 rfl) ?_
        refine lv_if_eq (tgt := 152) hx hb d_M_heatAll_91 (by decide) (fun c2 => ?_) (fun c2 => ?_)
        · rw [h3] at c2
          rw [if_neg (fun g => b01_0 c2 g.2)] at h4
          subst h4
          refine lv_iload_n hx hb d_M_heatAll_152 rfl (lv_at hl 1 rfl) ?_
          subst h3
          exact W.zret (v := (b01 (st.2.2 ≤ 8192))) (ty := .boolean) hx hb hrt (b01_n _) (fun t ht hW => ⟨⟨(b01 (st.2.2 ≤ 8192)), (cx, cy), rfl, rfl, ⟨by rw [ht]; exact hP, hD⟩⟩, hS.F ht⟩) hS.2.2 d_M_heatAll_153 hlocks
        · rw [h3] at c2
          rw [if_pos ⟨q, b01_1 c2⟩] at h4
          refine lv_iload_n hx hb d_M_heatAll_94 rfl (lv_at hl 2 rfl) ?_
          refine lv_iconst (v := 1) hx hb d_M_heatAll_95 (by decide) ?_
          refine lv_iadd hx hb d_M_heatAll_96 ?_
          rw [show (nI k + 1) = nI (k + 1) from nI_1 _]
          refine lv_istore_n (lv' := [(3, .int (nI (k + 1))), (0, .ref h0), (1, .int b), (2, .int (nI k))]) hx hb d_M_heatAll_97 rfl hl (by decide) rfl (fun ls hl => ?_)
          obtain ⟨T2, hT2⟩ : ∃ T2, T2 = ha_t e9 n k (n + 1) (k + 1) st := ⟨_, rfl⟩
          rw [← hT2] at h4
          have inner : ∀ (gu : Nat) (j : Nat) (st : HT) (cx : Int32) (cy : Int32) (b : Int32) (H : Heap) (locs : List Loc) (ls : Array Slot), (j ≤ n) → (n < j + gu) → (b = b01 (st.2.2 ≤ 8192)) → (ha_t e9 n k gu j st = T2) → (k < j) → va_P D vwC [(h0, .inr (3, mF ad th (nI n) sn (nI st.2.2) pc cx cy fo fv to tv fi ti)), ((ad 0), .inl (E.2.1, 8192, .inl e9)), ((ad 1), .inl (E.2.1, 8193, .inl st.1)), ((ad 2), .inl (E.2.1, 8193, .inl st.2.1))] H → va_D A [(h0, .inr (3, mF ad th (nI n) sn (nI st.2.2) pc cx cy fo fv to tv fi ti)), ((ad 0), .inl (E.2.1, 8192, .inl e9)), ((ad 1), .inl (E.2.1, 8193, .inl st.1)), ((ad 2), .inl (E.2.1, 8193, .inl st.2.1))] → va_S A s.heap H locs → lv_has ls 4 [(0, .ref h0), (1, .int b), (2, .int (nI k)), (3, .int (nI j))] → W p l e ({ frames := 2, cells := 0, slots := 0, locals := 80 } : Room) s m ([.ref h0] : List Value).toArray below meth c H locs 0 0 (MQ below (va_Qi (fun (r : Int32) (u : Int32 × Int32) => r = b01 (T.2.2 ≤ 8192)) (wB D (fun u => [(h0, .inr (3, mF ad th (nI n) sn (nI T.2.2) pc u.1 u.2 fo fv to tv fi ti)), ((ad 0), .inl (E.2.1, 8192, .inl e9)), ((ad 1), .inl (E.2.1, 8193, .inl T.1)), ((ad 2), .inl (E.2.1, 8193, .inl T.2.1))]) A) A) ([.ref h0] : List Value).toArray s 0 0 A) (F0 m 98 ls []) := by
            intro gu
            induction gu with
            | zero =>
              intro j st cx cy b H locs ls g1 g2 g3 g4 g5 hP hD hS hl
              omega
            | succ gu ih =>
              intro j st cx cy b H locs ls g1 g2 g3 g4 g5 hP hD hS hl
              rw [ha_t] at g4
              refine lv_iload_n hx hb d_M_heatAll_98 rfl (lv_at hl 3 rfl) ?_
              refine lv_aload_n hx hb d_M_heatAll_99 rfl (lv_at hl 0 rfl) ?_
              refine va_get (D := D) (ci := 3) (v := .int (nI n)) (C := K_M) (T := F_M) (N := 24) hx hb hG in_M hown hK.1 hP 0 rfl rfl 1 (by decide) (hG _ wd_649) (fun _ h9 => h9) rfl d_M_heatAll_100 ?_
              refine lv_icmp_ge (tgt := 146) hx hb d_M_heatAll_103 (by decide) (fun d1 => ?_) (fun d1 => ?_)
              · rw [if_neg (fun g => by have := (nI_leI (by omega) (by omega)).mp d1; omega)] at g4
                subst g4
                refine lv_iinc (v := nI (k + 1)) (lv' := [(2, .int (nI (k + 1))), (0, .ref h0), (1, .int b), (3, .int (nI j))]) hx hb d_M_heatAll_146 hl (k := 2) rfl (iinc_p _) (by decide) rfl (fun ls hl => ?_)
                refine lv_goto (tgt := 82) hx hb d_M_heatAll_149 (by decide) ?_
                exact ihO (k + 1) st cx cy b H locs ls (by omega) (by omega) g3 h4 hP hD hS (lv_sub hl [1, 2, 0] rfl)
              · have q2 : j < n := by rw [nI_leI (by omega) (by omega)] at d1; omega
                refine lv_iload_n hx hb d_M_heatAll_106 rfl (lv_at hl 1 rfl) ?_
                refine lv_if_eq (tgt := 146) hx hb d_M_heatAll_107 (by decide) (fun d2 => ?_) (fun d2 => ?_)
                · rw [g3] at d2
                  rw [if_neg (fun g => b01_0 d2 g.2)] at g4
                  subst g4
                  refine lv_iinc (v := nI (k + 1)) (lv' := [(2, .int (nI (k + 1))), (0, .ref h0), (1, .int b), (3, .int (nI j))]) hx hb d_M_heatAll_146 hl (k := 2) rfl (iinc_p _) (by decide) rfl (fun ls hl => ?_)
                  refine lv_goto (tgt := 82) hx hb d_M_heatAll_149 (by decide) ?_
                  exact ihO (k + 1) st cx cy b H locs ls (by omega) (by omega) g3 h4 hP hD hS (lv_sub hl [1, 2, 0] rfl)
                · rw [g3] at d2
                  have hst := b01_1 d2
                  rw [if_pos ⟨q2, hst⟩] at g4
                  refine lv_aload_n hx hb d_M_heatAll_110 rfl (lv_at hl 0 rfl) ?_
                  refine lv_iload_n hx hb d_M_heatAll_111 rfl (lv_at hl 2 rfl) ?_
                  refine lv_iload_n hx hb d_M_heatAll_112 rfl (lv_at hl 3 rfl) ?_
                  have J : ∀ (b2 : Int32) (s2 : HT) (cx : Int32) (cy : Int32) (H : Heap) (locs : List Loc) (ls : Array Slot), (b2 = b01 (s2.2.2 ≤ 8192)) → (ha_c (mq e9 k) (mq e9 j) st = s2) → va_P D vwC [(h0, .inr (3, mF ad th (nI n) sn (nI s2.2.2) pc cx cy fo fv to tv fi ti)), ((ad 0), .inl (E.2.1, 8192, .inl e9)), ((ad 1), .inl (E.2.1, 8193, .inl s2.1)), ((ad 2), .inl (E.2.1, 8193, .inl s2.2.1))] H → va_D A [(h0, .inr (3, mF ad th (nI n) sn (nI s2.2.2) pc cx cy fo fv to tv fi ti)), ((ad 0), .inl (E.2.1, 8192, .inl e9)), ((ad 1), .inl (E.2.1, 8193, .inl s2.1)), ((ad 2), .inl (E.2.1, 8193, .inl s2.2.1))] → va_S A s.heap H locs → lv_has ls 4 [(0, .ref h0), (2, .int (nI k)), (3, .int (nI j))] → W p l e ({ frames := 2, cells := 0, slots := 0, locals := 80 } : Room) s m ([.ref h0] : List Value).toArray below meth c H locs 0 0 (MQ below (va_Qi (fun (r : Int32) (u : Int32 × Int32) => r = b01 (T.2.2 ≤ 8192)) (wB D (fun u => [(h0, .inr (3, mF ad th (nI n) sn (nI T.2.2) pc u.1 u.2 fo fv to tv fi ti)), ((ad 0), .inl (E.2.1, 8192, .inl e9)), ((ad 1), .inl (E.2.1, 8193, .inl T.1)), ((ad 2), .inl (E.2.1, 8193, .inl T.2.1))]) A) A) ([.ref h0] : List Value).toArray s 0 0 A) (F0 m 139 ls [.int b2]) := by
                    intro b2 s2 cx cy H locs ls e1 e2 hP hD hS hl
                    rw [e2] at g4
                    refine lv_istore_n (lv' := [(1, .int b2), (0, .ref h0), (2, .int (nI k)), (3, .int (nI j))]) hx hb d_M_heatAll_139 rfl hl (by decide) rfl (fun ls hl => ?_)
                    refine lv_iinc (v := nI (j + 1)) (lv' := [(3, .int (nI (j + 1))), (1, .int b2), (0, .ref h0), (2, .int (nI k))]) hx hb d_M_heatAll_140 hl (k := 3) rfl (iinc_p _) (by decide) rfl (fun ls hl => ?_)
                    refine lv_goto (tgt := 98) hx hb d_M_heatAll_143 (by decide) ?_
                    exact ih (j + 1) s2 cx cy b2 H locs ls (by omega) (by omega) e1 g4 (by omega) hP hD hS (lv_sub hl [2, 1, 3, 0] rfl)
                  have hPc := hP.sub (ws' := [(h0, .inr (3, mF ad th (nI n) sn (nI st.2.2) pc cx cy fo fv to tv fi ti)), ((ad 0), .inl (E.2.1, 8192, .inl e9))]) [0, 1] rfl
                  have hDc := hD.sub (ws' := [(h0, .inr (3, mF ad th (nI n) sn (nI st.2.2) pc cx cy fo fv to tv fi ti)), ((ad 0), .inl (E.2.1, 8192, .inl e9))]) [0, 1] (by decide) rfl
                  have hFc := va_free (wc := [(h0, .inr (3, mF ad th (nI n) sn (nI st.2.2) pc cx cy fo fv to tv fi ti)), ((ad 0), .inl (E.2.1, 8192, .inl e9))]) hD hS hA [0, 1] rfl
                  refine va_calli (va_runV (As := [.int (nI k), .int (nI j)]) (rest := []) ⟨hx, hb, hml, hown, hts⟩ (k_M_cross l D E h0 H.size ad th (nI n) sn (nI st.2.2) pc cx cy fo fv to tv fi ti e9 k j (by omega) (by omega) (hb9 k (by omega)) (hb9 j (by omega))) (cwV 2 hts (gw_gv wd_783 wd_785 wd_28 wd_42 wd_786) rfl rfl rfl (by decide +kernel) ⟨Nat.le_of_ble_eq_true rfl, Nat.le_of_ble_eq_true rfl⟩) (wP_V 0 hPc hK hDc rfl rfl) rfl rfl hl.1 rfl (lv_room (Nat.le_of_ble_eq_true rfl)) d_M_heatAll_113 ⟨Nat.le_of_ble_eq_true rfl, Nat.le_of_ble_eq_true rfl⟩) hS (fun q _ h => hFc q h) hFc (fun rc u t H1 locs ht hvm hw hB hz1 hk1 hS => ?_)
                  obtain ⟨hP1, hD1⟩ := hB
                  rw [ht] at hP1
                  obtain ⟨hP, hD⟩ := va_join (wr := [((ad 1), .inl (E.2.1, 8193, .inl st.1)), ((ad 2), .inl (E.2.1, 8193, .inl st.2.1))]) (w1 := [(h0, .inr (3, mF ad th (nI n) sn (nI st.2.2) pc u.1 u.2 fo fv to tv fi ti)), ((ad 0), .inl (E.2.1, 8192, .inl e9))]) hP hD [0, 1] [2, 3] rfl rfl (by decide) (by decide) hk1 hFc hP1 hD1
                  generalize H1 = H at hP hS ⊢
                  have hP : va_P D vwC [((ad 1), .inl (E.2.1, 8193, .inl st.1)), ((ad 2), .inl (E.2.1, 8193, .inl st.2.1)), (h0, .inr (3, mF ad th (nI n) sn (nI st.2.2) pc u.1 u.2 fo fv to tv fi ti)), ((ad 0), .inl (E.2.1, 8192, .inl e9))] H := hP
                  have hD : va_D A [((ad 1), .inl (E.2.1, 8193, .inl st.1)), ((ad 2), .inl (E.2.1, 8193, .inl st.2.1)), (h0, .inr (3, mF ad th (nI n) sn (nI st.2.2) pc u.1 u.2 fo fv to tv fi ti)), ((ad 0), .inl (E.2.1, 8192, .inl e9))] := hD
                  have hP := hP.sub (ws' := [(h0, .inr (3, mF ad th (nI n) sn (nI st.2.2) pc u.1 u.2 fo fv to tv fi ti)), ((ad 0), .inl (E.2.1, 8192, .inl e9)), ((ad 1), .inl (E.2.1, 8193, .inl st.1)), ((ad 2), .inl (E.2.1, 8193, .inl st.2.1))]) [2, 3, 0, 1] rfl
                  have hD := hD.sub (ws' := [(h0, .inr (3, mF ad th (nI n) sn (nI st.2.2) pc u.1 u.2 fo fv to tv fi ti)), ((ad 0), .inl (E.2.1, 8192, .inl e9)), ((ad 1), .inl (E.2.1, 8193, .inl st.1)), ((ad 2), .inl (E.2.1, 8193, .inl st.2.1))]) [2, 3, 0, 1] (by decide) rfl
                  obtain ⟨hw1, hw2⟩ := hw
                  refine lv_if_eq (tgt := 134) hx hb d_M_heatAll_116 (by decide) (fun d3 => ?_) (fun d3 => ?_)
                  · rw [hw1] at d3
                    refine lv_iconst (v := 1) hx hb d_M_heatAll_134 (by decide) ?_
                    refine lv_goto (tgt := 139) hx hb d_M_heatAll_135 (by decide) ?_
                    exact J 1 st u.1 u.2 H locs ls (b01_t hst).symm (if_pos d3) hP hD hS (lv_sub hl [0, 2, 3] rfl)
                  · rw [hw1] at d3
                    obtain rfl := hw2 (b01_1 d3)
                    have hP : va_P D vwC [(h0, .inr (3, mF ad th (nI n) sn (nI st.2.2) pc (mx_x (mq e9 k) (mq e9 j)) (mx_y (mq e9 k) (mq e9 j)) fo fv to tv fi ti)), ((ad 0), .inl (E.2.1, 8192, .inl e9)), ((ad 1), .inl (E.2.1, 8193, .inl st.1)), ((ad 2), .inl (E.2.1, 8193, .inl st.2.1))] H := hP
                    have hD : va_D A [(h0, .inr (3, mF ad th (nI n) sn (nI st.2.2) pc (mx_x (mq e9 k) (mq e9 j)) (mx_y (mq e9 k) (mq e9 j)) fo fv to tv fi ti)), ((ad 0), .inl (E.2.1, 8192, .inl e9)), ((ad 1), .inl (E.2.1, 8193, .inl st.1)), ((ad 2), .inl (E.2.1, 8193, .inl st.2.1))] := hD
                    refine lv_aload_n hx hb d_M_heatAll_119 rfl (lv_at hl 0 rfl) ?_
                    refine lv_aload_n hx hb d_M_heatAll_120 rfl (lv_at hl 0 rfl) ?_
                    refine va_get (D := D) (ci := 3) (v := .int (mx_x (mq e9 k) (mq e9 j))) (C := K_M) (T := F_M) (N := 24) hx hb hG in_M hown hK.1 hP 0 rfl rfl 13 (by decide) (hG _ wd_661) (fun _ h9 => h9) rfl d_M_heatAll_121 ?_
                    refine lv_aload_n hx hb d_M_heatAll_124 rfl (lv_at hl 0 rfl) ?_
                    refine va_get (D := D) (ci := 3) (v := .int (mx_y (mq e9 k) (mq e9 j))) (C := K_M) (T := F_M) (N := 24) hx hb hG in_M hown hK.1 hP 0 rfl rfl 14 (by decide) (hG _ wd_662) (fun _ h9 => h9) rfl d_M_heatAll_125 ?_
                    have hPc := hP.sub (ws' := [(h0, .inr (3, mF ad th (nI n) sn (nI st.2.2) pc (mx_x (mq e9 k) (mq e9 j)) (mx_y (mq e9 k) (mq e9 j)) fo fv to tv fi ti)), ((ad 1), .inl (E.2.1, 8193, .inl st.1)), ((ad 2), .inl (E.2.1, 8193, .inl st.2.1))]) [0, 2, 3] rfl
                    have hDc := hD.sub (ws' := [(h0, .inr (3, mF ad th (nI n) sn (nI st.2.2) pc (mx_x (mq e9 k) (mq e9 j)) (mx_y (mq e9 k) (mq e9 j)) fo fv to tv fi ti)), ((ad 1), .inl (E.2.1, 8193, .inl st.1)), ((ad 2), .inl (E.2.1, 8193, .inl st.2.1))]) [0, 2, 3] (by decide) rfl
                    have hFc := va_free (wc := [(h0, .inr (3, mF ad th (nI n) sn (nI st.2.2) pc (mx_x (mq e9 k) (mq e9 j)) (mx_y (mq e9 k) (mq e9 j)) fo fv to tv fi ti)), ((ad 1), .inl (E.2.1, 8193, .inl st.1)), ((ad 2), .inl (E.2.1, 8193, .inl st.2.1))]) hD hS hA [0, 2, 3] rfl
                    refine va_calli (va_runV (As := [.int (mx_x (mq e9 k) (mq e9 j)), .int (mx_y (mq e9 k) (mq e9 j))]) (rest := []) ⟨hx, hb, hml, hown, hts⟩ (k_M_heat l D E h0 H.size ad th (nI n) sn (nI st.2.2) pc (mx_x (mq e9 k) (mq e9 j)) (mx_y (mq e9 k) (mq e9 j)) fo fv to tv fi ti st.1 st.2.1 st.2.2 (mx_x (mq e9 k) (mq e9 j)) (mx_y (mq e9 k) (mq e9 j)) hst) (cwV 2 hts (gw_gv wd_802 wd_804 wd_31 wd_42 wd_805) rfl rfl rfl (by decide +kernel) ⟨Nat.le_of_ble_eq_true rfl, Nat.le_of_ble_eq_true rfl⟩) (wP_V 0 hPc hK hDc rfl rfl) rfl rfl hl.1 rfl (lv_room (Nat.le_of_ble_eq_true rfl)) d_M_heatAll_128 ⟨Nat.le_of_ble_eq_true rfl, Nat.le_of_ble_eq_true rfl⟩) hS (fun q _ h => hFc q h) hFc (fun rh u9 t H1 locs ht hvm hw hB hz1 hk1 hS => ?_)
                    obtain ⟨hP1, hD1⟩ := hB
                    rw [ht] at hP1
                    have hP1 : va_P D vwC [(h0, .inr (3, mF ad th (nI n) sn (nI (mh_heat st (mx_x (mq e9 k) (mq e9 j)) (mx_y (mq e9 k) (mq e9 j))).2.2) pc (mx_x (mq e9 k) (mq e9 j)) (mx_y (mq e9 k) (mq e9 j)) fo fv to tv fi ti)), ((ad 1), .inl (E.2.1, 8193, .inl ((mh_heat st (mx_x (mq e9 k) (mq e9 j)) (mx_y (mq e9 k) (mq e9 j))).1))), ((ad 2), .inl (E.2.1, 8193, .inl ((mh_heat st (mx_x (mq e9 k) (mq e9 j)) (mx_y (mq e9 k) (mq e9 j))).2.1)))] H1 := hP1
                    have hD1 : va_D (va_A _ _) [(h0, .inr (3, mF ad th (nI n) sn (nI (mh_heat st (mx_x (mq e9 k) (mq e9 j)) (mx_y (mq e9 k) (mq e9 j))).2.2) pc (mx_x (mq e9 k) (mq e9 j)) (mx_y (mq e9 k) (mq e9 j)) fo fv to tv fi ti)), ((ad 1), .inl (E.2.1, 8193, .inl ((mh_heat st (mx_x (mq e9 k) (mq e9 j)) (mx_y (mq e9 k) (mq e9 j))).1))), ((ad 2), .inl (E.2.1, 8193, .inl ((mh_heat st (mx_x (mq e9 k) (mq e9 j)) (mx_y (mq e9 k) (mq e9 j))).2.1)))] := hD1
                    obtain ⟨hP, hD⟩ := va_join (wr := [((ad 0), .inl (E.2.1, 8192, .inl e9))]) (w1 := [(h0, .inr (3, mF ad th (nI n) sn (nI (mh_heat st (mx_x (mq e9 k) (mq e9 j)) (mx_y (mq e9 k) (mq e9 j))).2.2) pc (mx_x (mq e9 k) (mq e9 j)) (mx_y (mq e9 k) (mq e9 j)) fo fv to tv fi ti)), ((ad 1), .inl (E.2.1, 8193, .inl ((mh_heat st (mx_x (mq e9 k) (mq e9 j)) (mx_y (mq e9 k) (mq e9 j))).1))), ((ad 2), .inl (E.2.1, 8193, .inl ((mh_heat st (mx_x (mq e9 k) (mq e9 j)) (mx_y (mq e9 k) (mq e9 j))).2.1)))]) hP hD [0, 2, 3] [1] rfl rfl (by decide) (by decide) hk1 hFc hP1 hD1
                    generalize H1 = H at hP hS ⊢
                    have hP : va_P D vwC [((ad 0), .inl (E.2.1, 8192, .inl e9)), (h0, .inr (3, mF ad th (nI n) sn (nI (mh_heat st (mx_x (mq e9 k) (mq e9 j)) (mx_y (mq e9 k) (mq e9 j))).2.2) pc (mx_x (mq e9 k) (mq e9 j)) (mx_y (mq e9 k) (mq e9 j)) fo fv to tv fi ti)), ((ad 1), .inl (E.2.1, 8193, .inl ((mh_heat st (mx_x (mq e9 k) (mq e9 j)) (mx_y (mq e9 k) (mq e9 j))).1))), ((ad 2), .inl (E.2.1, 8193, .inl ((mh_heat st (mx_x (mq e9 k) (mq e9 j)) (mx_y (mq e9 k) (mq e9 j))).2.1)))] H := hP
                    have hD : va_D A [((ad 0), .inl (E.2.1, 8192, .inl e9)), (h0, .inr (3, mF ad th (nI n) sn (nI (mh_heat st (mx_x (mq e9 k) (mq e9 j)) (mx_y (mq e9 k) (mq e9 j))).2.2) pc (mx_x (mq e9 k) (mq e9 j)) (mx_y (mq e9 k) (mq e9 j)) fo fv to tv fi ti)), ((ad 1), .inl (E.2.1, 8193, .inl ((mh_heat st (mx_x (mq e9 k) (mq e9 j)) (mx_y (mq e9 k) (mq e9 j))).1))), ((ad 2), .inl (E.2.1, 8193, .inl ((mh_heat st (mx_x (mq e9 k) (mq e9 j)) (mx_y (mq e9 k) (mq e9 j))).2.1)))] := hD
                    have hP := hP.sub (ws' := [(h0, .inr (3, mF ad th (nI n) sn (nI (mh_heat st (mx_x (mq e9 k) (mq e9 j)) (mx_y (mq e9 k) (mq e9 j))).2.2) pc (mx_x (mq e9 k) (mq e9 j)) (mx_y (mq e9 k) (mq e9 j)) fo fv to tv fi ti)), ((ad 0), .inl (E.2.1, 8192, .inl e9)), ((ad 1), .inl (E.2.1, 8193, .inl ((mh_heat st (mx_x (mq e9 k) (mq e9 j)) (mx_y (mq e9 k) (mq e9 j))).1))), ((ad 2), .inl (E.2.1, 8193, .inl ((mh_heat st (mx_x (mq e9 k) (mq e9 j)) (mx_y (mq e9 k) (mq e9 j))).2.1)))]) [1, 0, 2, 3] rfl
                    have hD := hD.sub (ws' := [(h0, .inr (3, mF ad th (nI n) sn (nI (mh_heat st (mx_x (mq e9 k) (mq e9 j)) (mx_y (mq e9 k) (mq e9 j))).2.2) pc (mx_x (mq e9 k) (mq e9 j)) (mx_y (mq e9 k) (mq e9 j)) fo fv to tv fi ti)), ((ad 0), .inl (E.2.1, 8192, .inl e9)), ((ad 1), .inl (E.2.1, 8193, .inl ((mh_heat st (mx_x (mq e9 k) (mq e9 j)) (mx_y (mq e9 k) (mq e9 j))).1))), ((ad 2), .inl (E.2.1, 8193, .inl ((mh_heat st (mx_x (mq e9 k) (mq e9 j)) (mx_y (mq e9 k) (mq e9 j))).2.1)))]) [1, 0, 2, 3] (by decide) rfl
                    have hw3 : rh = b01 ((mh_heat st (mx_x (mq e9 k) (mq e9 j)) (mx_y (mq e9 k) (mq e9 j))).2.2 ≤ 8192) := hw
                    refine lv_if_eq (tgt := 138) hx hb d_M_heatAll_131 (by decide) (fun d4 => ?_) (fun d4 => ?_)
                    · rw [hw3] at d4
                      refine lv_iconst (v := 0) hx hb d_M_heatAll_138 (by decide) ?_
                      exact J 0 (mh_heat st (mx_x (mq e9 k) (mq e9 j)) (mx_y (mq e9 k) (mq e9 j))) _ _ H locs ls (b01_f (b01_0 d4)).symm (if_neg d3) hP hD hS (lv_sub hl [0, 2, 3] rfl)
                    · rw [hw3] at d4
                      refine lv_iconst (v := 1) hx hb d_M_heatAll_134 (by decide) ?_
                      refine lv_goto (tgt := 139) hx hb d_M_heatAll_135 (by decide) ?_
                      exact J 1 (mh_heat st (mx_x (mq e9 k) (mq e9 j)) (mx_y (mq e9 k) (mq e9 j))) _ _ H locs ls (b01_t (b01_1 d4)).symm (if_neg d3) hP hD hS (lv_sub hl [0, 2, 3] rfl)
          exact inner (n + 1) (k + 1) st cx cy b H locs ls (by omega) (by omega) h3 hT2.symm (by omega) hP hD hS (lv_sub hl [1, 2, 3, 0] rfl)
  refine lv_iconst (v := 1) hx hb d_M_heatAll_0 (by decide) ?_
  refine lv_istore_n (lv' := [(1, .int 1), (0, .ref h0)]) hx hb d_M_heatAll_1 rfl hl (by decide) rfl (fun ls hl => ?_)
  refine lv_iconst (v := 0) hx hb d_M_heatAll_2 (by decide) ?_
  refine lv_istore_n (lv' := [(2, .int 0), (1, .int 1), (0, .ref h0)]) hx hb d_M_heatAll_3 rfl hl (by decide) rfl (fun ls hl => ?_)
  have first : ∀ (fu : Nat) (k : Nat) (st : HT) (cx : Int32) (cy : Int32) (b : Int32) (H : Heap) (locs : List Loc) (ls : Array Slot), (k ≤ n) → (n < k + fu) → (b = b01 (st.2.2 ≤ 8192)) → (ha_s e9 n (n + 1) 0 (ha_e e9 n fu k st) = T) → va_P D vwC [(h0, .inr (3, mF ad th (nI n) sn (nI st.2.2) pc cx cy fo fv to tv fi ti)), ((ad 0), .inl (E.2.1, 8192, .inl e9)), ((ad 1), .inl (E.2.1, 8193, .inl st.1)), ((ad 2), .inl (E.2.1, 8193, .inl st.2.1))] H → va_D A [(h0, .inr (3, mF ad th (nI n) sn (nI st.2.2) pc cx cy fo fv to tv fi ti)), ((ad 0), .inl (E.2.1, 8192, .inl e9)), ((ad 1), .inl (E.2.1, 8193, .inl st.1)), ((ad 2), .inl (E.2.1, 8193, .inl st.2.1))] → va_S A s.heap H locs → lv_has ls 4 [(0, .ref h0), (1, .int b), (2, .int (nI k))] → W p l e ({ frames := 2, cells := 0, slots := 0, locals := 80 } : Room) s m ([.ref h0] : List Value).toArray below meth c H locs 0 0 (MQ below (va_Qi (fun (r : Int32) (u : Int32 × Int32) => r = b01 (T.2.2 ≤ 8192)) (wB D (fun u => [(h0, .inr (3, mF ad th (nI n) sn (nI T.2.2) pc u.1 u.2 fo fv to tv fi ti)), ((ad 0), .inl (E.2.1, 8192, .inl e9)), ((ad 1), .inl (E.2.1, 8193, .inl T.1)), ((ad 2), .inl (E.2.1, 8193, .inl T.2.1))]) A) A) ([.ref h0] : List Value).toArray s 0 0 A) (F0 m 4 ls []) := by
    intro fu
    induction fu with
    | zero =>
      intro k st cx cy b H locs ls h1 h2 h3 h4 hP hD hS hl
      omega
    | succ fu ih =>
      intro k st cx cy b H locs ls h1 h2 h3 h4 hP hD hS hl
      rw [ha_e] at h4
      refine lv_iload_n hx hb d_M_heatAll_4 rfl (lv_at hl 2 rfl) ?_
      refine lv_aload_n hx hb d_M_heatAll_5 rfl (lv_at hl 0 rfl) ?_
      refine va_get (D := D) (ci := 3) (v := .int (nI n)) (C := K_M) (T := F_M) (N := 24) hx hb hG in_M hown hK.1 hP 0 rfl rfl 1 (by decide) (hG _ wd_649) (fun _ h9 => h9) rfl d_M_heatAll_6 ?_
      refine lv_icmp_ge (tgt := 80) hx hb d_M_heatAll_9 (by decide) (fun c1 => ?_) (fun c1 => ?_)
      · rw [if_neg (fun g => by have := (nI_leI (by omega) (by omega)).mp c1; omega)] at h4
        refine lv_iconst (v := 0) hx hb d_M_heatAll_80 (by decide) ?_
        refine lv_istore_n (lv' := [(2, .int 0), (0, .ref h0), (1, .int b)]) hx hb d_M_heatAll_81 rfl hl (by decide) rfl (fun ls hl => ?_)
        exact outer (n + 1) 0 st cx cy b H locs ls (by omega) (by omega) h3 h4 hP hD hS (lv_sub hl [1, 2, 0] rfl)
      · have q : k < n := by rw [nI_leI (by omega) (by omega)] at c1; omega
        refine lv_iload_n hx hb d_M_heatAll_12 rfl (lv_at hl 1 rfl) ?_
        refine lv_if_eq (tgt := 80) hx hb d_M_heatAll_13 (by decide) (fun c2 => ?_) (fun c2 => ?_)
        · rw [h3] at c2
          rw [if_neg (fun g => b01_0 c2 g.2)] at h4
          refine lv_iconst (v := 0) hx hb d_M_heatAll_80 (by decide) ?_
          refine lv_istore_n (lv' := [(2, .int 0), (0, .ref h0), (1, .int b)]) hx hb d_M_heatAll_81 rfl hl (by decide) rfl (fun ls hl => ?_)
          exact outer (n + 1) 0 st cx cy b H locs ls (by omega) (by omega) h3 h4 hP hD hS (lv_sub hl [1, 2, 0] rfl)
        · rw [h3] at c2
          have hst := b01_1 c2
          rw [if_pos ⟨q, hst⟩] at h4
          obtain ⟨qq, hqq⟩ : ∃ q, q = mq e9 k := ⟨_, rfl⟩
          rw [← hqq] at h4
          have g0 : e9 (4 * k) = qq.1 := by rw [hqq]; rfl
          have g1 : e9 (4 * k + 1) = qq.2.1 := by rw [hqq]; rfl
          have g2 : e9 (4 * k + 2) = qq.2.2.1 := by rw [hqq]; rfl
          have g3 : e9 (4 * k + 3) = qq.2.2.2 := by rw [hqq]; rfl
          have J : ∀ (b2 : Int32) (s2 : HT) (H : Heap) (locs : List Loc) (ls : Array Slot), (b2 = b01 (s2.2.2 ≤ 8192)) → (ha_1 qq st = s2) → va_P D vwC [(h0, .inr (3, mF ad th (nI n) sn (nI s2.2.2) pc cx cy fo fv to tv fi ti)), ((ad 0), .inl (E.2.1, 8192, .inl e9)), ((ad 1), .inl (E.2.1, 8193, .inl s2.1)), ((ad 2), .inl (E.2.1, 8193, .inl s2.2.1))] H → va_D A [(h0, .inr (3, mF ad th (nI n) sn (nI s2.2.2) pc cx cy fo fv to tv fi ti)), ((ad 0), .inl (E.2.1, 8192, .inl e9)), ((ad 1), .inl (E.2.1, 8193, .inl s2.1)), ((ad 2), .inl (E.2.1, 8193, .inl s2.2.1))] → va_S A s.heap H locs → lv_has ls 4 [(0, .ref h0), (2, .int (nI k))] → W p l e ({ frames := 2, cells := 0, slots := 0, locals := 80 } : Room) s m ([.ref h0] : List Value).toArray below meth c H locs 0 0 (MQ below (va_Qi (fun (r : Int32) (u : Int32 × Int32) => r = b01 (T.2.2 ≤ 8192)) (wB D (fun u => [(h0, .inr (3, mF ad th (nI n) sn (nI T.2.2) pc u.1 u.2 fo fv to tv fi ti)), ((ad 0), .inl (E.2.1, 8192, .inl e9)), ((ad 1), .inl (E.2.1, 8193, .inl T.1)), ((ad 2), .inl (E.2.1, 8193, .inl T.2.1))]) A) A) ([.ref h0] : List Value).toArray s 0 0 A) (F0 m 73 ls [.int b2]) := by
            intro b2 s2 H locs ls e1 e2 hP hD hS hl
            rw [e2] at h4
            refine lv_istore_n (lv' := [(1, .int b2), (0, .ref h0), (2, .int (nI k))]) hx hb d_M_heatAll_73 rfl hl (by decide) rfl (fun ls hl => ?_)
            refine lv_iinc (v := nI (k + 1)) (lv' := [(2, .int (nI (k + 1))), (1, .int b2), (0, .ref h0)]) hx hb d_M_heatAll_74 hl (k := 2) rfl (iinc_p _) (by decide) rfl (fun ls hl => ?_)
            refine lv_goto (tgt := 4) hx hb d_M_heatAll_77 (by decide) ?_
            exact ih (k + 1) s2 cx cy b2 H locs ls (by omega) (by omega) e1 h4 hP hD hS (lv_sub hl [2, 1, 0] rfl)
          refine lv_aload_n hx hb d_M_heatAll_16 rfl (lv_at hl 0 rfl) ?_
          refine lv_aload_n hx hb d_M_heatAll_17 rfl (lv_at hl 0 rfl) ?_
          refine va_get (D := D) (ci := 3) (v := .ref (ad 0)) (C := K_M) (T := F_M) (N := 24) hx hb hG in_M hown hK.1 hP 0 rfl rfl 2 (by decide) (hG _ wd_650) (fun _ h9 => h9) rfl d_M_heatAll_18 ?_
          refine lv_iconst (v := 4) hx hb d_M_heatAll_21 (by decide) ?_
          refine lv_iload_n hx hb d_M_heatAll_22 rfl (lv_at hl 2 rfl) ?_
          refine lv_imul hx hb d_M_heatAll_23 ?_
          rw [show (4 * nI k) = nI (4 * k) from pk_mul 4 k]
          refine va_iald hx hb hK.1 hP 1 1 rfl rfl (vp_in_nI (by omega) (by omega)) d_M_heatAll_24 ?_
          rw [show e9 (Int32.toNatClampNeg (nI (4 * k))) = qq.1 from by rw [nI_clamp (by omega)]; exact g0]
          refine lv_aload_n hx hb d_M_heatAll_25 rfl (lv_at hl 0 rfl) ?_
          refine va_get (D := D) (ci := 3) (v := .ref (ad 0)) (C := K_M) (T := F_M) (N := 24) hx hb hG in_M hown hK.1 hP 0 rfl rfl 2 (by decide) (hG _ wd_650) (fun _ h9 => h9) rfl d_M_heatAll_26 ?_
          refine lv_iconst (v := 4) hx hb d_M_heatAll_29 (by decide) ?_
          refine lv_iload_n hx hb d_M_heatAll_30 rfl (lv_at hl 2 rfl) ?_
          refine lv_imul hx hb d_M_heatAll_31 ?_
          rw [show (4 * nI k) = nI (4 * k) from pk_mul 4 k]
          refine lv_iconst (v := 1) hx hb d_M_heatAll_32 (by decide) ?_
          refine lv_iadd hx hb d_M_heatAll_33 ?_
          rw [show (nI (4 * k) + 1) = nI (4 * k + 1) from nI_1 _]
          refine va_iald hx hb hK.1 hP 1 1 rfl rfl (vp_in_nI (by omega) (by omega)) d_M_heatAll_34 ?_
          rw [show e9 (Int32.toNatClampNeg (nI (4 * k + 1))) = qq.2.1 from by rw [nI_clamp (by omega)]; exact g1]
          have hPc := hP.sub (ws' := [(h0, .inr (3, mF ad th (nI n) sn (nI st.2.2) pc cx cy fo fv to tv fi ti)), ((ad 1), .inl (E.2.1, 8193, .inl st.1)), ((ad 2), .inl (E.2.1, 8193, .inl st.2.1))]) [0, 2, 3] rfl
          have hDc := hD.sub (ws' := [(h0, .inr (3, mF ad th (nI n) sn (nI st.2.2) pc cx cy fo fv to tv fi ti)), ((ad 1), .inl (E.2.1, 8193, .inl st.1)), ((ad 2), .inl (E.2.1, 8193, .inl st.2.1))]) [0, 2, 3] (by decide) rfl
          have hFc := va_free (wc := [(h0, .inr (3, mF ad th (nI n) sn (nI st.2.2) pc cx cy fo fv to tv fi ti)), ((ad 1), .inl (E.2.1, 8193, .inl st.1)), ((ad 2), .inl (E.2.1, 8193, .inl st.2.1))]) hD hS hA [0, 2, 3] rfl
          refine va_calli (va_runV (As := [.int qq.1, .int qq.2.1]) (rest := []) ⟨hx, hb, hml, hown, hts⟩ (k_M_heat l D E h0 H.size ad th (nI n) sn (nI st.2.2) pc cx cy fo fv to tv fi ti st.1 st.2.1 st.2.2 qq.1 qq.2.1 hst) (cwV 2 hts (gw_gv wd_802 wd_804 wd_31 wd_42 wd_805) rfl rfl rfl (by decide +kernel) ⟨Nat.le_of_ble_eq_true rfl, Nat.le_of_ble_eq_true rfl⟩) (wP_V 0 hPc hK hDc rfl rfl) rfl rfl hl.1 rfl (lv_room (Nat.le_of_ble_eq_true rfl)) d_M_heatAll_35 ⟨Nat.le_of_ble_eq_true rfl, Nat.le_of_ble_eq_true rfl⟩) hS (fun q _ h => hFc q h) hFc (fun rh u9 t H1 locs ht hvm hw hB hz1 hk1 hS => ?_)
          obtain ⟨hP1, hD1⟩ := hB
          rw [ht] at hP1
          have hP1 : va_P D vwC [(h0, .inr (3, mF ad th (nI n) sn (nI (mh_heat st qq.1 qq.2.1).2.2) pc cx cy fo fv to tv fi ti)), ((ad 1), .inl (E.2.1, 8193, .inl ((mh_heat st qq.1 qq.2.1).1))), ((ad 2), .inl (E.2.1, 8193, .inl ((mh_heat st qq.1 qq.2.1).2.1)))] H1 := hP1
          have hD1 : va_D (va_A _ _) [(h0, .inr (3, mF ad th (nI n) sn (nI (mh_heat st qq.1 qq.2.1).2.2) pc cx cy fo fv to tv fi ti)), ((ad 1), .inl (E.2.1, 8193, .inl ((mh_heat st qq.1 qq.2.1).1))), ((ad 2), .inl (E.2.1, 8193, .inl ((mh_heat st qq.1 qq.2.1).2.1)))] := hD1
          obtain ⟨hP, hD⟩ := va_join (wr := [((ad 0), .inl (E.2.1, 8192, .inl e9))]) (w1 := [(h0, .inr (3, mF ad th (nI n) sn (nI (mh_heat st qq.1 qq.2.1).2.2) pc cx cy fo fv to tv fi ti)), ((ad 1), .inl (E.2.1, 8193, .inl ((mh_heat st qq.1 qq.2.1).1))), ((ad 2), .inl (E.2.1, 8193, .inl ((mh_heat st qq.1 qq.2.1).2.1)))]) hP hD [0, 2, 3] [1] rfl rfl (by decide) (by decide) hk1 hFc hP1 hD1
          generalize H1 = H at hP hS ⊢
          have hP : va_P D vwC [((ad 0), .inl (E.2.1, 8192, .inl e9)), (h0, .inr (3, mF ad th (nI n) sn (nI (mh_heat st qq.1 qq.2.1).2.2) pc cx cy fo fv to tv fi ti)), ((ad 1), .inl (E.2.1, 8193, .inl ((mh_heat st qq.1 qq.2.1).1))), ((ad 2), .inl (E.2.1, 8193, .inl ((mh_heat st qq.1 qq.2.1).2.1)))] H := hP
          have hD : va_D A [((ad 0), .inl (E.2.1, 8192, .inl e9)), (h0, .inr (3, mF ad th (nI n) sn (nI (mh_heat st qq.1 qq.2.1).2.2) pc cx cy fo fv to tv fi ti)), ((ad 1), .inl (E.2.1, 8193, .inl ((mh_heat st qq.1 qq.2.1).1))), ((ad 2), .inl (E.2.1, 8193, .inl ((mh_heat st qq.1 qq.2.1).2.1)))] := hD
          have hP := hP.sub (ws' := [(h0, .inr (3, mF ad th (nI n) sn (nI (mh_heat st qq.1 qq.2.1).2.2) pc cx cy fo fv to tv fi ti)), ((ad 0), .inl (E.2.1, 8192, .inl e9)), ((ad 1), .inl (E.2.1, 8193, .inl ((mh_heat st qq.1 qq.2.1).1))), ((ad 2), .inl (E.2.1, 8193, .inl ((mh_heat st qq.1 qq.2.1).2.1)))]) [1, 0, 2, 3] rfl
          have hD := hD.sub (ws' := [(h0, .inr (3, mF ad th (nI n) sn (nI (mh_heat st qq.1 qq.2.1).2.2) pc cx cy fo fv to tv fi ti)), ((ad 0), .inl (E.2.1, 8192, .inl e9)), ((ad 1), .inl (E.2.1, 8193, .inl ((mh_heat st qq.1 qq.2.1).1))), ((ad 2), .inl (E.2.1, 8193, .inl ((mh_heat st qq.1 qq.2.1).2.1)))]) [1, 0, 2, 3] (by decide) rfl
          have hw1 : rh = b01 ((mh_heat st qq.1 qq.2.1).2.2 ≤ 8192) := hw
          refine lv_if_eq (tgt := 72) hx hb d_M_heatAll_38 (by decide) (fun c3 => ?_) (fun c3 => ?_)
          · rw [hw1] at c3
            refine lv_iconst (v := 0) hx hb d_M_heatAll_72 (by decide) ?_
            exact J 0 (mh_heat st qq.1 qq.2.1) H locs ls (b01_f (b01_0 c3)).symm (if_neg (b01_0 c3)) hP hD hS (lv_sub hl [0, 2] rfl)
          · rw [hw1] at c3
            have hst := b01_1 c3
            refine lv_aload_n hx hb d_M_heatAll_41 rfl (lv_at hl 0 rfl) ?_
            refine lv_aload_n hx hb d_M_heatAll_42 rfl (lv_at hl 0 rfl) ?_
            refine va_get (D := D) (ci := 3) (v := .ref (ad 0)) (C := K_M) (T := F_M) (N := 24) hx hb hG in_M hown hK.1 hP 0 rfl rfl 2 (by decide) (hG _ wd_650) (fun _ h9 => h9) rfl d_M_heatAll_43 ?_
            refine lv_iconst (v := 4) hx hb d_M_heatAll_46 (by decide) ?_
            refine lv_iload_n hx hb d_M_heatAll_47 rfl (lv_at hl 2 rfl) ?_
            refine lv_imul hx hb d_M_heatAll_48 ?_
            rw [show (4 * nI k) = nI (4 * k) from pk_mul 4 k]
            refine lv_iconst (v := 2) hx hb d_M_heatAll_49 (by decide) ?_
            refine lv_iadd hx hb d_M_heatAll_50 ?_
            rw [show (nI (4 * k) + 2) = nI (4 * k + 2) from nI_add _ 2]
            refine va_iald hx hb hK.1 hP 1 1 rfl rfl (vp_in_nI (by omega) (by omega)) d_M_heatAll_51 ?_
            rw [show e9 (Int32.toNatClampNeg (nI (4 * k + 2))) = qq.2.2.1 from by rw [nI_clamp (by omega)]; exact g2]
            refine lv_aload_n hx hb d_M_heatAll_52 rfl (lv_at hl 0 rfl) ?_
            refine va_get (D := D) (ci := 3) (v := .ref (ad 0)) (C := K_M) (T := F_M) (N := 24) hx hb hG in_M hown hK.1 hP 0 rfl rfl 2 (by decide) (hG _ wd_650) (fun _ h9 => h9) rfl d_M_heatAll_53 ?_
            refine lv_iconst (v := 4) hx hb d_M_heatAll_56 (by decide) ?_
            refine lv_iload_n hx hb d_M_heatAll_57 rfl (lv_at hl 2 rfl) ?_
            refine lv_imul hx hb d_M_heatAll_58 ?_
            rw [show (4 * nI k) = nI (4 * k) from pk_mul 4 k]
            refine lv_iconst (v := 3) hx hb d_M_heatAll_59 (by decide) ?_
            refine lv_iadd hx hb d_M_heatAll_60 ?_
            rw [show (nI (4 * k) + 3) = nI (4 * k + 3) from nI_add _ 3]
            refine va_iald hx hb hK.1 hP 1 1 rfl rfl (vp_in_nI (by omega) (by omega)) d_M_heatAll_61 ?_
            rw [show e9 (Int32.toNatClampNeg (nI (4 * k + 3))) = qq.2.2.2 from by rw [nI_clamp (by omega)]; exact g3]
            have hPc := hP.sub (ws' := [(h0, .inr (3, mF ad th (nI n) sn (nI (mh_heat st qq.1 qq.2.1).2.2) pc cx cy fo fv to tv fi ti)), ((ad 1), .inl (E.2.1, 8193, .inl ((mh_heat st qq.1 qq.2.1).1))), ((ad 2), .inl (E.2.1, 8193, .inl ((mh_heat st qq.1 qq.2.1).2.1)))]) [0, 2, 3] rfl
            have hDc := hD.sub (ws' := [(h0, .inr (3, mF ad th (nI n) sn (nI (mh_heat st qq.1 qq.2.1).2.2) pc cx cy fo fv to tv fi ti)), ((ad 1), .inl (E.2.1, 8193, .inl ((mh_heat st qq.1 qq.2.1).1))), ((ad 2), .inl (E.2.1, 8193, .inl ((mh_heat st qq.1 qq.2.1).2.1)))]) [0, 2, 3] (by decide) rfl
            have hFc := va_free (wc := [(h0, .inr (3, mF ad th (nI n) sn (nI (mh_heat st qq.1 qq.2.1).2.2) pc cx cy fo fv to tv fi ti)), ((ad 1), .inl (E.2.1, 8193, .inl ((mh_heat st qq.1 qq.2.1).1))), ((ad 2), .inl (E.2.1, 8193, .inl ((mh_heat st qq.1 qq.2.1).2.1)))]) hD hS hA [0, 2, 3] rfl
            refine va_calli (va_runV (As := [.int qq.2.2.1, .int qq.2.2.2]) (rest := []) ⟨hx, hb, hml, hown, hts⟩ (k_M_heat l D E h0 H.size ad th (nI n) sn (nI (mh_heat st qq.1 qq.2.1).2.2) pc cx cy fo fv to tv fi ti (mh_heat st qq.1 qq.2.1).1 (mh_heat st qq.1 qq.2.1).2.1 (mh_heat st qq.1 qq.2.1).2.2 qq.2.2.1 qq.2.2.2 hst) (cwV 2 hts (gw_gv wd_802 wd_804 wd_31 wd_42 wd_805) rfl rfl rfl (by decide +kernel) ⟨Nat.le_of_ble_eq_true rfl, Nat.le_of_ble_eq_true rfl⟩) (wP_V 0 hPc hK hDc rfl rfl) rfl rfl hl.1 rfl (lv_room (Nat.le_of_ble_eq_true rfl)) d_M_heatAll_62 ⟨Nat.le_of_ble_eq_true rfl, Nat.le_of_ble_eq_true rfl⟩) hS (fun q _ h => hFc q h) hFc (fun rh2 u9 t H1 locs ht hvm hw hB hz1 hk1 hS => ?_)
            obtain ⟨hP1, hD1⟩ := hB
            rw [ht] at hP1
            have hP1 : va_P D vwC [(h0, .inr (3, mF ad th (nI n) sn (nI (mh_heat (mh_heat st qq.1 qq.2.1) qq.2.2.1 qq.2.2.2).2.2) pc cx cy fo fv to tv fi ti)), ((ad 1), .inl (E.2.1, 8193, .inl ((mh_heat (mh_heat st qq.1 qq.2.1) qq.2.2.1 qq.2.2.2).1))), ((ad 2), .inl (E.2.1, 8193, .inl ((mh_heat (mh_heat st qq.1 qq.2.1) qq.2.2.1 qq.2.2.2).2.1)))] H1 := hP1
            have hD1 : va_D (va_A _ _) [(h0, .inr (3, mF ad th (nI n) sn (nI (mh_heat (mh_heat st qq.1 qq.2.1) qq.2.2.1 qq.2.2.2).2.2) pc cx cy fo fv to tv fi ti)), ((ad 1), .inl (E.2.1, 8193, .inl ((mh_heat (mh_heat st qq.1 qq.2.1) qq.2.2.1 qq.2.2.2).1))), ((ad 2), .inl (E.2.1, 8193, .inl ((mh_heat (mh_heat st qq.1 qq.2.1) qq.2.2.1 qq.2.2.2).2.1)))] := hD1
            obtain ⟨hP, hD⟩ := va_join (wr := [((ad 0), .inl (E.2.1, 8192, .inl e9))]) (w1 := [(h0, .inr (3, mF ad th (nI n) sn (nI (mh_heat (mh_heat st qq.1 qq.2.1) qq.2.2.1 qq.2.2.2).2.2) pc cx cy fo fv to tv fi ti)), ((ad 1), .inl (E.2.1, 8193, .inl ((mh_heat (mh_heat st qq.1 qq.2.1) qq.2.2.1 qq.2.2.2).1))), ((ad 2), .inl (E.2.1, 8193, .inl ((mh_heat (mh_heat st qq.1 qq.2.1) qq.2.2.1 qq.2.2.2).2.1)))]) hP hD [0, 2, 3] [1] rfl rfl (by decide) (by decide) hk1 hFc hP1 hD1
            generalize H1 = H at hP hS ⊢
            have hP : va_P D vwC [((ad 0), .inl (E.2.1, 8192, .inl e9)), (h0, .inr (3, mF ad th (nI n) sn (nI (mh_heat (mh_heat st qq.1 qq.2.1) qq.2.2.1 qq.2.2.2).2.2) pc cx cy fo fv to tv fi ti)), ((ad 1), .inl (E.2.1, 8193, .inl ((mh_heat (mh_heat st qq.1 qq.2.1) qq.2.2.1 qq.2.2.2).1))), ((ad 2), .inl (E.2.1, 8193, .inl ((mh_heat (mh_heat st qq.1 qq.2.1) qq.2.2.1 qq.2.2.2).2.1)))] H := hP
            have hD : va_D A [((ad 0), .inl (E.2.1, 8192, .inl e9)), (h0, .inr (3, mF ad th (nI n) sn (nI (mh_heat (mh_heat st qq.1 qq.2.1) qq.2.2.1 qq.2.2.2).2.2) pc cx cy fo fv to tv fi ti)), ((ad 1), .inl (E.2.1, 8193, .inl ((mh_heat (mh_heat st qq.1 qq.2.1) qq.2.2.1 qq.2.2.2).1))), ((ad 2), .inl (E.2.1, 8193, .inl ((mh_heat (mh_heat st qq.1 qq.2.1) qq.2.2.1 qq.2.2.2).2.1)))] := hD
            have hP := hP.sub (ws' := [(h0, .inr (3, mF ad th (nI n) sn (nI (mh_heat (mh_heat st qq.1 qq.2.1) qq.2.2.1 qq.2.2.2).2.2) pc cx cy fo fv to tv fi ti)), ((ad 0), .inl (E.2.1, 8192, .inl e9)), ((ad 1), .inl (E.2.1, 8193, .inl ((mh_heat (mh_heat st qq.1 qq.2.1) qq.2.2.1 qq.2.2.2).1))), ((ad 2), .inl (E.2.1, 8193, .inl ((mh_heat (mh_heat st qq.1 qq.2.1) qq.2.2.1 qq.2.2.2).2.1)))]) [1, 0, 2, 3] rfl
            have hD := hD.sub (ws' := [(h0, .inr (3, mF ad th (nI n) sn (nI (mh_heat (mh_heat st qq.1 qq.2.1) qq.2.2.1 qq.2.2.2).2.2) pc cx cy fo fv to tv fi ti)), ((ad 0), .inl (E.2.1, 8192, .inl e9)), ((ad 1), .inl (E.2.1, 8193, .inl ((mh_heat (mh_heat st qq.1 qq.2.1) qq.2.2.1 qq.2.2.2).1))), ((ad 2), .inl (E.2.1, 8193, .inl ((mh_heat (mh_heat st qq.1 qq.2.1) qq.2.2.1 qq.2.2.2).2.1)))]) [1, 0, 2, 3] (by decide) rfl
            have hw2 : rh2 = b01 ((mh_heat (mh_heat st qq.1 qq.2.1) qq.2.2.1 qq.2.2.2).2.2 ≤ 8192) := hw
            refine lv_if_eq (tgt := 72) hx hb d_M_heatAll_65 (by decide) (fun c4 => ?_) (fun c4 => ?_)
            · rw [hw2] at c4
              refine lv_iconst (v := 0) hx hb d_M_heatAll_72 (by decide) ?_
              exact J 0 (mh_heat (mh_heat st qq.1 qq.2.1) qq.2.2.1 qq.2.2.2) H locs ls (b01_f (b01_0 c4)).symm (if_pos hst) hP hD hS (lv_sub hl [0, 2] rfl)
            · rw [hw2] at c4
              refine lv_iconst (v := 1) hx hb d_M_heatAll_68 (by decide) ?_
              refine lv_goto (tgt := 73) hx hb d_M_heatAll_69 (by decide) ?_
              exact J 1 (mh_heat (mh_heat st qq.1 qq.2.1) qq.2.2.1 qq.2.2.2) H locs ls (b01_t (b01_1 c4)).symm (if_pos hst) hP hD hS (lv_sub hl [0, 2] rfl)
  exact first (n + 1) 0 st0 cx cy 1 _ _ ls (by omega) (by omega) (b01_t hst0).symm hT.symm hP hD hS (lv_sub hl [2, 1, 0] rfl)
end
