theorem d_M_chainAll_0 : decode c_M_chainAll 0 = .ok (.iconst 0, 1) := by decide +kernel
theorem d_M_chainAll_1 : decode c_M_chainAll 1 = .ok (.istore_n 1, 1) := by decide +kernel
theorem d_M_chainAll_2 : decode c_M_chainAll 2 = .ok (.iconst 0, 1) := by decide +kernel
theorem d_M_chainAll_3 : decode c_M_chainAll 3 = .ok (.istore_n 2, 1) := by decide +kernel
theorem d_M_chainAll_4 : decode c_M_chainAll 4 = .ok (.iload_n 2, 1) := by decide +kernel
theorem d_M_chainAll_5 : decode c_M_chainAll 5 = .ok (.aload_n 0, 1) := by decide +kernel
theorem d_M_chainAll_6 : decode c_M_chainAll 6 = .ok (.getfield 56, 3) := by decide +kernel
theorem d_M_chainAll_9 : decode c_M_chainAll 9 = .ok (.if_icmp .ge 83, 3) := by decide +kernel
theorem d_M_chainAll_12 : decode c_M_chainAll 12 = .ok (.aload_n 0, 1) := by decide +kernel
theorem d_M_chainAll_13 : decode c_M_chainAll 13 = .ok (.getfield 19, 3) := by decide +kernel
theorem d_M_chainAll_16 : decode c_M_chainAll 16 = .ok (.iload_n 2, 1) := by decide +kernel
theorem d_M_chainAll_17 : decode c_M_chainAll 17 = .ok (.iload_n 1, 1) := by decide +kernel
theorem d_M_chainAll_18 : decode c_M_chainAll 18 = .ok (.iastore, 1) := by decide +kernel
theorem d_M_chainAll_19 : decode c_M_chainAll 19 = .ok (.iconst 0, 1) := by decide +kernel
theorem d_M_chainAll_20 : decode c_M_chainAll 20 = .ok (.istore_n 3, 1) := by decide +kernel
theorem d_M_chainAll_21 : decode c_M_chainAll 21 = .ok (.iconst 0, 1) := by decide +kernel
theorem d_M_chainAll_22 : decode c_M_chainAll 22 = .ok (.istore 4, 2) := by decide +kernel
theorem d_M_chainAll_24 : decode c_M_chainAll 24 = .ok (.iload 4, 2) := by decide +kernel
theorem d_M_chainAll_26 : decode c_M_chainAll 26 = .ok (.aload_n 0, 1) := by decide +kernel
theorem d_M_chainAll_27 : decode c_M_chainAll 27 = .ok (.getfield 63, 3) := by decide +kernel
theorem d_M_chainAll_30 : decode c_M_chainAll 30 = .ok (.if_icmp .ge 52, 3) := by decide +kernel
theorem d_M_chainAll_33 : decode c_M_chainAll 33 = .ok (.aload_n 0, 1) := by decide +kernel
theorem d_M_chainAll_34 : decode c_M_chainAll 34 = .ok (.iload_n 2, 1) := by decide +kernel
theorem d_M_chainAll_35 : decode c_M_chainAll 35 = .ok (.aload_n 0, 1) := by decide +kernel
theorem d_M_chainAll_36 : decode c_M_chainAll 36 = .ok (.getfield 13, 3) := by decide +kernel
theorem d_M_chainAll_39 : decode c_M_chainAll 39 = .ok (.iload 4, 2) := by decide +kernel
theorem d_M_chainAll_41 : decode c_M_chainAll 41 = .ok (.iaload, 1) := by decide +kernel
theorem d_M_chainAll_42 : decode c_M_chainAll 42 = .ok (.aload_n 0, 1) := by decide +kernel
theorem d_M_chainAll_43 : decode c_M_chainAll 43 = .ok (.getfield 16, 3) := by decide +kernel
theorem d_M_chainAll_46 : decode c_M_chainAll 46 = .ok (.iload 4, 2) := by decide +kernel
theorem d_M_chainAll_48 : decode c_M_chainAll 48 = .ok (.iaload, 1) := by decide +kernel
theorem d_M_chainAll_49 : decode c_M_chainAll 49 = .ok (.invokevirtual 119, 3) := by decide +kernel
theorem d_M_chainAll_52 : decode c_M_chainAll 52 = .ok (.ifCond .eq 24, 3) := by decide +kernel
theorem d_M_chainAll_55 : decode c_M_chainAll 55 = .ok (.iload_n 1, 1) := by decide +kernel
theorem d_M_chainAll_56 : decode c_M_chainAll 56 = .ok (.iload_n 3, 1) := by decide +kernel
theorem d_M_chainAll_57 : decode c_M_chainAll 57 = .ok (.iadd, 1) := by decide +kernel
theorem d_M_chainAll_58 : decode c_M_chainAll 58 = .ok (.ldc 22, 2) := by decide +kernel
theorem d_M_chainAll_60 : decode c_M_chainAll 60 = .ok (.if_icmp .ne 5, 3) := by decide +kernel
theorem d_M_chainAll_63 : decode c_M_chainAll 63 = .ok (.iconst 0, 1) := by decide +kernel
theorem d_M_chainAll_64 : decode c_M_chainAll 64 = .ok (.ireturn, 1) := by decide +kernel
theorem d_M_chainAll_65 : decode c_M_chainAll 65 = .ok (.aload_n 0, 1) := by decide +kernel
theorem d_M_chainAll_66 : decode c_M_chainAll 66 = .ok (.iload_n 1, 1) := by decide +kernel
theorem d_M_chainAll_67 : decode c_M_chainAll 67 = .ok (.iload_n 3, 1) := by decide +kernel
theorem d_M_chainAll_68 : decode c_M_chainAll 68 = .ok (.iload 4, 2) := by decide +kernel
theorem d_M_chainAll_70 : decode c_M_chainAll 70 = .ok (.invokevirtual 146, 3) := by decide +kernel
theorem d_M_chainAll_73 : decode c_M_chainAll 73 = .ok (.iinc 3 1, 3) := by decide +kernel
theorem d_M_chainAll_76 : decode c_M_chainAll 76 = .ok (.iinc 4 1, 3) := by decide +kernel
theorem d_M_chainAll_79 : decode c_M_chainAll 79 = .ok (.goto (-55), 3) := by decide +kernel
theorem d_M_chainAll_82 : decode c_M_chainAll 82 = .ok (.iload_n 1, 1) := by decide +kernel
theorem d_M_chainAll_83 : decode c_M_chainAll 83 = .ok (.iload_n 3, 1) := by decide +kernel
theorem d_M_chainAll_84 : decode c_M_chainAll 84 = .ok (.iadd, 1) := by decide +kernel
theorem d_M_chainAll_85 : decode c_M_chainAll 85 = .ok (.istore_n 1, 1) := by decide +kernel
theorem d_M_chainAll_86 : decode c_M_chainAll 86 = .ok (.iinc 2 1, 3) := by decide +kernel
theorem d_M_chainAll_89 : decode c_M_chainAll 89 = .ok (.goto (-85), 3) := by decide +kernel
theorem d_M_chainAll_92 : decode c_M_chainAll 92 = .ok (.aload_n 0, 1) := by decide +kernel
theorem d_M_chainAll_93 : decode c_M_chainAll 93 = .ok (.getfield 19, 3) := by decide +kernel
theorem d_M_chainAll_96 : decode c_M_chainAll 96 = .ok (.aload_n 0, 1) := by decide +kernel
theorem d_M_chainAll_97 : decode c_M_chainAll 97 = .ok (.getfield 56, 3) := by decide +kernel
theorem d_M_chainAll_100 : decode c_M_chainAll 100 = .ok (.iload_n 1, 1) := by decide +kernel
theorem d_M_chainAll_101 : decode c_M_chainAll 101 = .ok (.iastore, 1) := by decide +kernel
theorem d_M_chainAll_102 : decode c_M_chainAll 102 = .ok (.iconst 1, 1) := by decide +kernel
theorem d_M_chainAll_103 : decode c_M_chainAll 103 = .ok (.ireturn, 1) := by decide +kernel
noncomputable section
abbrev CT : Type := (Nat → Int64) × (Nat → Int64) × (Nat → Int32) × (Nat → Int32)
def ch_ins (v : Int64 × Int64 × Int32) (at9 n : Nat) (px : Int32) (s : CT) : CT :=
  (vp_updL (mvG s.1 (in_pos v s.1 s.2.1 s.2.2.1 n) n) (in_pos v s.1 s.2.1 s.2.2.1 n) v.1, vp_updL (mvG s.2.1 (in_pos v s.1 s.2.1 s.2.2.1 n) n) (in_pos v s.1 s.2.1 s.2.2.1 n) v.2.1,
    upd (mvG s.2.2.1 (in_pos v s.1 s.2.1 s.2.2.1 n) n) (in_pos v s.1 s.2.1 s.2.2.1 n) v.2.2, upd (mvG s.2.2.2 (at9 + in_pos v s.1 s.2.1 s.2.2.1 n) (at9 + n)) (at9 + in_pos v s.1 s.2.1 s.2.2.1 n) px)
def ch_h (q : SQ) (gx gy : Nat → Int32) (hot at9 : Nat) : Nat → Nat → Nat × CT → Option (Nat × CT)
  | 0, _, s => some s
  | fu + 1, h, s => if h < hot then (if b01 (mi_in q (gx h) (gy h)) = 0 then ch_h q gx gy hot at9 fu (h + 1) s
      else if at9 + s.1 = 65536 then none else ch_h q gx gy hot at9 fu (h + 1) (s.1 + 1, ch_ins (mi_iv q (gx h) (gy h)).1 at9 s.1 (nI h) s.2)) else some s
def ch_s (e gx gy : Nat → Int32) (n hot : Nat) : Nat → Nat → Nat × (Nat → Int32) × CT → Option (Nat × (Nat → Int32) × CT)
  | 0, _, s => some s
  | fu + 1, k, s => if k < n then (match ch_h (mq e k) gx gy hot s.1 (hot + 1) 0 (0, s.2.2) with
      | none => none
      | some r => ch_s e gx gy n hot fu (k + 1) (s.1 + r.1, upd s.2.1 k (nI s.1), r.2)) else some (s.1, upd s.2.1 n (nI s.1), s.2.2)
def zo (cl : Nat → Int32) : Prop := ∀ j, cl j = 0 ∨ cl j = 1
theorem zo_mv {cl : Nat → Int32} (h : zo cl) (k n : Nat) : zo (mvG cl k n) := by
  intro j
  unfold mvG
  split
  · exact h _
  · exact h _
theorem zo_upd {cl : Nat → Int32} {x : Int32} (h : zo cl) (hx : x = 0 ∨ x = 1) (k : Nat) : zo (upd cl k x) := by
  intro j
  by_cases e : j = k
  · subst e; rw [pk_us]; exact hx
  · rw [pk_un e]; exact h j
theorem mr_up_z {o u : Int64} {i : Int32} {s : Int64 × Int64 × Int32} (h : s.2.2 = 0 ∨ s.2.2 = 1) : (mr_up o u i s).2.2 = 0 ∨ (mr_up o u i s).2.2 = 1 := by
  unfold mr_up
  split
  · exact b01_z _
  · exact h
theorem ml_iv_z {a d low : Int64} {s : IV} (h : s.1.2.2 = 0 ∨ s.1.2.2 = 1) : (ml_iv a d low s).1.2.2 = 0 ∨ (ml_iv a d low s).1.2.2 = 1 := by
  unfold ml_iv
  split
  · exact h
  · split
    · exact mr_up_z h
    · exact mr_up_z h
theorem mi_iv_z (q : SQ) (x y : Int32) : (mi_iv q x y).1.2.2 = 0 ∨ (mi_iv q x y).1.2.2 = 1 := by
  have h1 : (mi_1 q x).1.2.2 = 0 ∨ (mi_1 q x).1.2.2 = 1 := ml_iv_z (Or.inr rfl)
  by_cases c : mi_ok1 q x
  · rw [mi_iv_t c]; exact ml_iv_z h1
  · rw [mi_iv_f c]; exact h1
theorem ch_ins_z {v : Int64 × Int64 × Int32} {a n : Nat} {px : Int32} {s : CT} (h : zo s.2.2.1) (hv : v.2.2 = 0 ∨ v.2.2 = 1) : zo (ch_ins v a n px s).2.2.1 := zo_upd (zo_mv h _ _) hv _
set_option maxHeartbeats 4000000 in
set_option maxRecDepth 100000 in
theorem k_M_chainAll (l : Launch) (D : va_G) (E : ClassId × ClassId × ClassId × ClassId) (h0 sz : Nat) (ad : Nat → Nat) (th sg sn hot pc cx cy : Int32) (fo fv to tv : Int64) (fi ti : Int32) (e9 gx gy bg : Nat → Int32) (st0 : CT) (iv : IV) (n h9 : Nat) (hn : 4 * n ≤ 8192) (hh : h9 ≤ 8192) (hz : zo st0.2.2.1) (R : Nat × (Nat → Int32) × CT) (hR : ch_s e9 gx gy n h9 (n + 1) 0 (0, bg, st0) = some R) : Met l y_M_chainAll (.code y_M_chainAll c_M_chainAll 5 (some .boolean) :: gw) ({ frames := 4, cells := 0, slots := 0, locals := 190 } : Room) (wP D E [(h0, .inr (3, mF ad th (nI n) sn (nI h9) pc cx cy iv.1.1 iv.1.2.1 iv.2.1 iv.2.2.1 iv.1.2.2 iv.2.2.2)), ((ad 0), .inl (E.2.1, 8192, .inl e9)), ((ad 1), .inl (E.2.1, 8193, .inl gx)), ((ad 2), .inl (E.2.1, 8193, .inl gy)), ((ad 3), .inl (E.2.1, 2049, .inl bg)), ((ad 8), .inl (E.1, 8192, .inr (.inl st0.1))), ((ad 9), .inl (E.1, 8192, .inr (.inl st0.2.1))), ((ad 10), .inl (E.2.2.1, 8192, .inl st0.2.2.1)), ((ad 4), .inl (E.2.1, 65536, .inl st0.2.2.2))] sz [.ref h0]) (va_Qi (fun (r : Int32) (u : IV) => r = 1) (wB D (fun u => [(h0, .inr (3, mF ad th (nI n) sn (nI h9) pc cx cy u.1.1 u.1.2.1 u.2.1 u.2.2.1 u.1.2.2 u.2.2.2)), ((ad 0), .inl (E.2.1, 8192, .inl e9)), ((ad 1), .inl (E.2.1, 8193, .inl gx)), ((ad 2), .inl (E.2.1, 8193, .inl gy)), ((ad 3), .inl (E.2.1, 2049, .inl R.2.1)), ((ad 8), .inl (E.1, 8192, .inr (.inl R.2.2.1))), ((ad 9), .inl (E.1, 8192, .inr (.inl R.2.2.2.1))), ((ad 10), .inl (E.2.2.1, 8192, .inl R.2.2.2.2.1)), ((ad 4), .inl (E.2.1, 65536, .inl R.2.2.2.2.2))]) (va_A [(h0, .inr (3, mF ad th (nI n) sn (nI h9) pc cx cy iv.1.1 iv.1.2.1 iv.2.1 iv.2.2.1 iv.1.2.2 iv.2.2.2)), ((ad 0), .inl (E.2.1, 8192, .inl e9)), ((ad 1), .inl (E.2.1, 8193, .inl gx)), ((ad 2), .inl (E.2.1, 8193, .inl gy)), ((ad 3), .inl (E.2.1, 2049, .inl bg)), ((ad 8), .inl (E.1, 8192, .inr (.inl st0.1))), ((ad 9), .inl (E.1, 8192, .inr (.inl st0.2.1))), ((ad 10), .inl (E.2.2.1, 8192, .inl st0.2.2.1)), ((ad 4), .inl (E.2.1, 65536, .inl st0.2.2.2))] sz)) (va_A [(h0, .inr (3, mF ad th (nI n) sn (nI h9) pc cx cy iv.1.1 iv.1.2.1 iv.2.1 iv.2.2.1 iv.1.2.2 iv.2.2.2)), ((ad 0), .inl (E.2.1, 8192, .inl e9)), ((ad 1), .inl (E.2.1, 8193, .inl gx)), ((ad 2), .inl (E.2.1, 8193, .inl gy)), ((ad 3), .inl (E.2.1, 2049, .inl bg)), ((ad 8), .inl (E.1, 8192, .inr (.inl st0.1))), ((ad 9), .inl (E.1, 8192, .inr (.inl st0.2.1))), ((ad 10), .inl (E.2.2.1, 8192, .inl st0.2.2.1)), ((ad 4), .inl (E.2.1, 65536, .inl st0.2.2.2))] sz)) 0 0 (va_A [(h0, .inr (3, mF ad th (nI n) sn (nI h9) pc cx cy iv.1.1 iv.1.2.1 iv.2.1 iv.2.2.1 iv.1.2.2 iv.2.2.2)), ((ad 0), .inl (E.2.1, 8192, .inl e9)), ((ad 1), .inl (E.2.1, 8193, .inl gx)), ((ad 2), .inl (E.2.1, 8193, .inl gy)), ((ad 3), .inl (E.2.1, 2049, .inl bg)), ((ad 8), .inl (E.1, 8192, .inr (.inl st0.1))), ((ad 9), .inl (E.1, 8192, .inr (.inl st0.2.1))), ((ad 10), .inl (E.2.2.1, 8192, .inl st0.2.2.1)), ((ad 4), .inl (E.2.1, 65536, .inl st0.2.2.2))] sz) := by
  refine wr_ofW (Qc := fun A => (va_Qi (fun (r : Int32) (u : IV) => r = 1) (wB D (fun u => [(h0, .inr (3, mF ad th (nI n) sn (nI h9) pc cx cy u.1.1 u.1.2.1 u.2.1 u.2.2.1 u.1.2.2 u.2.2.2)), ((ad 0), .inl (E.2.1, 8192, .inl e9)), ((ad 1), .inl (E.2.1, 8193, .inl gx)), ((ad 2), .inl (E.2.1, 8193, .inl gy)), ((ad 3), .inl (E.2.1, 2049, .inl R.2.1)), ((ad 8), .inl (E.1, 8192, .inr (.inl R.2.2.1))), ((ad 9), .inl (E.1, 8192, .inr (.inl R.2.2.2.1))), ((ad 10), .inl (E.2.2.1, 8192, .inl R.2.2.2.2.1)), ((ad 4), .inl (E.2.1, 65536, .inl R.2.2.2.2.2))]) A) A)) (by decide) (Nat.le_of_ble_eq_true rfl) ?_
  intro p e s m below meth c B hP hK A hA hD hS ls hl
  obtain ⟨hx, hb, hrt, hml, hown, hts, hG, hlocks, hin⟩ := B
  have hl : lv_has ls 5 [(0, .ref h0)] := hl
  refine lv_iconst (v := 0) hx hb d_M_chainAll_0 (by decide) ?_
  refine lv_istore_n (lv' := [(1, .int 0), (0, .ref h0)]) hx hb d_M_chainAll_1 rfl hl (by decide) rfl (fun ls hl => ?_)
  refine lv_iconst (v := 0) hx hb d_M_chainAll_2 (by decide) ?_
  refine lv_istore_n (lv' := [(2, .int 0), (1, .int 0), (0, .ref h0)]) hx hb d_M_chainAll_3 rfl hl (by decide) rfl (fun ls hl => ?_)
  have outer : ∀ (fu : Nat) (k : Nat) (at9 : Nat) (bg : Nat → Int32) (st : CT) (iv : IV) (H : Heap) (locs : List Loc) (ls : Array Slot), (k ≤ n) → (n < k + fu) → (at9 ≤ 65536) → (ch_s e9 gx gy n h9 fu k (at9, bg, st) = some R) → (zo st.2.2.1) → va_P D vwC [(h0, .inr (3, mF ad th (nI n) sn (nI h9) pc cx cy iv.1.1 iv.1.2.1 iv.2.1 iv.2.2.1 iv.1.2.2 iv.2.2.2)), ((ad 0), .inl (E.2.1, 8192, .inl e9)), ((ad 1), .inl (E.2.1, 8193, .inl gx)), ((ad 2), .inl (E.2.1, 8193, .inl gy)), ((ad 3), .inl (E.2.1, 2049, .inl bg)), ((ad 8), .inl (E.1, 8192, .inr (.inl st.1))), ((ad 9), .inl (E.1, 8192, .inr (.inl st.2.1))), ((ad 10), .inl (E.2.2.1, 8192, .inl st.2.2.1)), ((ad 4), .inl (E.2.1, 65536, .inl st.2.2.2))] H → va_D A [(h0, .inr (3, mF ad th (nI n) sn (nI h9) pc cx cy iv.1.1 iv.1.2.1 iv.2.1 iv.2.2.1 iv.1.2.2 iv.2.2.2)), ((ad 0), .inl (E.2.1, 8192, .inl e9)), ((ad 1), .inl (E.2.1, 8193, .inl gx)), ((ad 2), .inl (E.2.1, 8193, .inl gy)), ((ad 3), .inl (E.2.1, 2049, .inl bg)), ((ad 8), .inl (E.1, 8192, .inr (.inl st.1))), ((ad 9), .inl (E.1, 8192, .inr (.inl st.2.1))), ((ad 10), .inl (E.2.2.1, 8192, .inl st.2.2.1)), ((ad 4), .inl (E.2.1, 65536, .inl st.2.2.2))] → va_S A s.heap H locs → lv_has ls 5 [(0, .ref h0), (1, .int (nI at9)), (2, .int (nI k))] → W p l e ({ frames := 4, cells := 0, slots := 0, locals := 190 } : Room) s m ([.ref h0] : List Value).toArray below meth c H locs 0 0 (MQ below (va_Qi (fun (r : Int32) (u : IV) => r = 1) (wB D (fun u => [(h0, .inr (3, mF ad th (nI n) sn (nI h9) pc cx cy u.1.1 u.1.2.1 u.2.1 u.2.2.1 u.1.2.2 u.2.2.2)), ((ad 0), .inl (E.2.1, 8192, .inl e9)), ((ad 1), .inl (E.2.1, 8193, .inl gx)), ((ad 2), .inl (E.2.1, 8193, .inl gy)), ((ad 3), .inl (E.2.1, 2049, .inl R.2.1)), ((ad 8), .inl (E.1, 8192, .inr (.inl R.2.2.1))), ((ad 9), .inl (E.1, 8192, .inr (.inl R.2.2.2.1))), ((ad 10), .inl (E.2.2.1, 8192, .inl R.2.2.2.2.1)), ((ad 4), .inl (E.2.1, 65536, .inl R.2.2.2.2.2))]) A) A) ([.ref h0] : List Value).toArray s 0 0 A) (F0 m 4 ls []) := by
    intro fu
    induction fu with
    | zero =>
      intro k at9 bg st iv H locs ls h1 h2 h3 h4 h5 hP hD hS hl
      omega
    | succ fu ihO =>
      intro k at9 bg st iv H locs ls h1 h2 h3 h4 h5 hP hD hS hl
      rw [ch_s] at h4
      refine lv_iload_n hx hb d_M_chainAll_4 rfl (lv_at hl 2 rfl) ?_
      refine lv_aload_n hx hb d_M_chainAll_5 rfl (lv_at hl 0 rfl) ?_
      refine va_get (D := D) (ci := 3) (v := .int (nI n)) (C := K_M) (T := F_M) (N := 24) hx hb hG in_M hown hK.1 hP 0 rfl rfl 1 (by decide) (hG _ wd_649) (fun _ h9 => h9) rfl d_M_chainAll_6 ?_
      refine lv_icmp_ge (tgt := 92) hx hb d_M_chainAll_9 (by decide) (fun c1 => ?_) (fun c1 => ?_)
      · have q : ¬ k < n := by have := (nI_leI (by omega) (by omega)).mp c1; omega
        rw [if_neg q] at h4
        cases h4
        refine lv_aload_n hx hb d_M_chainAll_92 rfl (lv_at hl 0 rfl) ?_
        refine va_get (D := D) (ci := 3) (v := .ref (ad 3)) (C := K_M) (T := F_M) (N := 24) hx hb hG in_M hown hK.1 hP 0 rfl rfl 7 (by decide) (hG _ wd_655) (fun _ h9 => h9) rfl d_M_chainAll_93 ?_
        refine lv_aload_n hx hb d_M_chainAll_96 rfl (lv_at hl 0 rfl) ?_
        refine va_get (D := D) (ci := 3) (v := .int (nI n)) (C := K_M) (T := F_M) (N := 24) hx hb hG in_M hown hK.1 hP 0 rfl rfl 1 (by decide) (hG _ wd_649) (fun _ h9 => h9) rfl d_M_chainAll_97 ?_
        refine lv_iload_n hx hb d_M_chainAll_100 rfl (lv_at hl 1 rfl) ?_
        refine va_iast hx hb hK.1 hP hD hS 4 1 rfl rfl (vp_in_nI (by omega) (by omega)) d_M_chainAll_101 (fun H locs hP hD hS => ?_)
        rw [show upd bg (Int32.toNatClampNeg (nI n)) (nI at9) = (upd bg n (nI at9)) from by rw [nI_clamp (by omega)]] at hP hD
        have hP : va_P D vwC [(h0, .inr (3, mF ad th (nI n) sn (nI h9) pc cx cy iv.1.1 iv.1.2.1 iv.2.1 iv.2.2.1 iv.1.2.2 iv.2.2.2)), ((ad 0), .inl (E.2.1, 8192, .inl e9)), ((ad 1), .inl (E.2.1, 8193, .inl gx)), ((ad 2), .inl (E.2.1, 8193, .inl gy)), ((ad 3), .inl (E.2.1, 2049, .inl (upd bg n (nI at9)))), ((ad 8), .inl (E.1, 8192, .inr (.inl st.1))), ((ad 9), .inl (E.1, 8192, .inr (.inl st.2.1))), ((ad 10), .inl (E.2.2.1, 8192, .inl st.2.2.1)), ((ad 4), .inl (E.2.1, 65536, .inl st.2.2.2))] H := hP
        have hD : va_D A [(h0, .inr (3, mF ad th (nI n) sn (nI h9) pc cx cy iv.1.1 iv.1.2.1 iv.2.1 iv.2.2.1 iv.1.2.2 iv.2.2.2)), ((ad 0), .inl (E.2.1, 8192, .inl e9)), ((ad 1), .inl (E.2.1, 8193, .inl gx)), ((ad 2), .inl (E.2.1, 8193, .inl gy)), ((ad 3), .inl (E.2.1, 2049, .inl (upd bg n (nI at9)))), ((ad 8), .inl (E.1, 8192, .inr (.inl st.1))), ((ad 9), .inl (E.1, 8192, .inr (.inl st.2.1))), ((ad 10), .inl (E.2.2.1, 8192, .inl st.2.2.1)), ((ad 4), .inl (E.2.1, 65536, .inl st.2.2.2))] := hD
        refine lv_iconst (v := 1) hx hb d_M_chainAll_102 (by decide) ?_
        exact W.zret (v := 1) (ty := .boolean) hx hb hrt rfl (fun t ht hW => ⟨⟨1, iv, rfl, rfl, ⟨by rw [ht]; exact hP, hD⟩⟩, hS.F ht⟩) hS.2.2 d_M_chainAll_103 hlocks
      · have q : k < n := by rw [nI_leI (by omega) (by omega)] at c1; omega
        rw [if_pos q] at h4
        refine lv_aload_n hx hb d_M_chainAll_12 rfl (lv_at hl 0 rfl) ?_
        refine va_get (D := D) (ci := 3) (v := .ref (ad 3)) (C := K_M) (T := F_M) (N := 24) hx hb hG in_M hown hK.1 hP 0 rfl rfl 7 (by decide) (hG _ wd_655) (fun _ h9 => h9) rfl d_M_chainAll_13 ?_
        refine lv_iload_n hx hb d_M_chainAll_16 rfl (lv_at hl 2 rfl) ?_
        refine lv_iload_n hx hb d_M_chainAll_17 rfl (lv_at hl 1 rfl) ?_
        refine va_iast hx hb hK.1 hP hD hS 4 1 rfl rfl (vp_in_nI (by omega) (by omega)) d_M_chainAll_18 (fun H locs hP hD hS => ?_)
        rw [show upd bg (Int32.toNatClampNeg (nI k)) (nI at9) = (upd bg k (nI at9)) from by rw [nI_clamp (by omega)]] at hP hD
        have hP : va_P D vwC [(h0, .inr (3, mF ad th (nI n) sn (nI h9) pc cx cy iv.1.1 iv.1.2.1 iv.2.1 iv.2.2.1 iv.1.2.2 iv.2.2.2)), ((ad 0), .inl (E.2.1, 8192, .inl e9)), ((ad 1), .inl (E.2.1, 8193, .inl gx)), ((ad 2), .inl (E.2.1, 8193, .inl gy)), ((ad 3), .inl (E.2.1, 2049, .inl (upd bg k (nI at9)))), ((ad 8), .inl (E.1, 8192, .inr (.inl st.1))), ((ad 9), .inl (E.1, 8192, .inr (.inl st.2.1))), ((ad 10), .inl (E.2.2.1, 8192, .inl st.2.2.1)), ((ad 4), .inl (E.2.1, 65536, .inl st.2.2.2))] H := hP
        have hD : va_D A [(h0, .inr (3, mF ad th (nI n) sn (nI h9) pc cx cy iv.1.1 iv.1.2.1 iv.2.1 iv.2.2.1 iv.1.2.2 iv.2.2.2)), ((ad 0), .inl (E.2.1, 8192, .inl e9)), ((ad 1), .inl (E.2.1, 8193, .inl gx)), ((ad 2), .inl (E.2.1, 8193, .inl gy)), ((ad 3), .inl (E.2.1, 2049, .inl (upd bg k (nI at9)))), ((ad 8), .inl (E.1, 8192, .inr (.inl st.1))), ((ad 9), .inl (E.1, 8192, .inr (.inl st.2.1))), ((ad 10), .inl (E.2.2.1, 8192, .inl st.2.2.1)), ((ad 4), .inl (E.2.1, 65536, .inl st.2.2.2))] := hD
        refine lv_iconst (v := 0) hx hb d_M_chainAll_19 (by decide) ?_
        refine lv_istore_n (lv' := [(3, .int 0), (0, .ref h0), (1, .int (nI at9)), (2, .int (nI k))]) hx hb d_M_chainAll_20 rfl hl (by decide) rfl (fun ls hl => ?_)
        refine lv_iconst (v := 0) hx hb d_M_chainAll_21 (by decide) ?_
        refine lv_istore (lv' := [(4, .int 0), (3, .int 0), (0, .ref h0), (1, .int (nI at9)), (2, .int (nI k))]) hx hb d_M_chainAll_22 hl (by decide) rfl (fun ls hl => ?_)
        obtain ⟨X, hX⟩ : ∃ X, X = ch_h (mq e9 k) gx gy h9 at9 (h9 + 1) 0 (0, st) := ⟨_, rfl⟩
        dsimp only at h4
        rw [← hX] at h4
        have inner : ∀ (gu : Nat) (h : Nat) (m9 : Nat) (st : CT) (iv : IV) (H : Heap) (locs : List Loc) (ls : Array Slot), (h ≤ h9) → (h9 < h + gu) → (m9 ≤ h) → (at9 + m9 ≤ 65536) → (ch_h (mq e9 k) gx gy h9 at9 gu h (m9, st) = X) → (zo st.2.2.1) → va_P D vwC [(h0, .inr (3, mF ad th (nI n) sn (nI h9) pc cx cy iv.1.1 iv.1.2.1 iv.2.1 iv.2.2.1 iv.1.2.2 iv.2.2.2)), ((ad 0), .inl (E.2.1, 8192, .inl e9)), ((ad 1), .inl (E.2.1, 8193, .inl gx)), ((ad 2), .inl (E.2.1, 8193, .inl gy)), ((ad 3), .inl (E.2.1, 2049, .inl (upd bg k (nI at9)))), ((ad 8), .inl (E.1, 8192, .inr (.inl st.1))), ((ad 9), .inl (E.1, 8192, .inr (.inl st.2.1))), ((ad 10), .inl (E.2.2.1, 8192, .inl st.2.2.1)), ((ad 4), .inl (E.2.1, 65536, .inl st.2.2.2))] H → va_D A [(h0, .inr (3, mF ad th (nI n) sn (nI h9) pc cx cy iv.1.1 iv.1.2.1 iv.2.1 iv.2.2.1 iv.1.2.2 iv.2.2.2)), ((ad 0), .inl (E.2.1, 8192, .inl e9)), ((ad 1), .inl (E.2.1, 8193, .inl gx)), ((ad 2), .inl (E.2.1, 8193, .inl gy)), ((ad 3), .inl (E.2.1, 2049, .inl (upd bg k (nI at9)))), ((ad 8), .inl (E.1, 8192, .inr (.inl st.1))), ((ad 9), .inl (E.1, 8192, .inr (.inl st.2.1))), ((ad 10), .inl (E.2.2.1, 8192, .inl st.2.2.1)), ((ad 4), .inl (E.2.1, 65536, .inl st.2.2.2))] → va_S A s.heap H locs → lv_has ls 5 [(0, .ref h0), (1, .int (nI at9)), (2, .int (nI k)), (3, .int (nI m9)), (4, .int (nI h))] → W p l e ({ frames := 4, cells := 0, slots := 0, locals := 190 } : Room) s m ([.ref h0] : List Value).toArray below meth c H locs 0 0 (MQ below (va_Qi (fun (r : Int32) (u : IV) => r = 1) (wB D (fun u => [(h0, .inr (3, mF ad th (nI n) sn (nI h9) pc cx cy u.1.1 u.1.2.1 u.2.1 u.2.2.1 u.1.2.2 u.2.2.2)), ((ad 0), .inl (E.2.1, 8192, .inl e9)), ((ad 1), .inl (E.2.1, 8193, .inl gx)), ((ad 2), .inl (E.2.1, 8193, .inl gy)), ((ad 3), .inl (E.2.1, 2049, .inl R.2.1)), ((ad 8), .inl (E.1, 8192, .inr (.inl R.2.2.1))), ((ad 9), .inl (E.1, 8192, .inr (.inl R.2.2.2.1))), ((ad 10), .inl (E.2.2.1, 8192, .inl R.2.2.2.2.1)), ((ad 4), .inl (E.2.1, 65536, .inl R.2.2.2.2.2))]) A) A) ([.ref h0] : List Value).toArray s 0 0 A) (F0 m 24 ls []) := by
          intro gu
          induction gu with
          | zero =>
            intro h m9 st iv H locs ls g1 g2 g3 g4 g5 g6 hP hD hS hl
            omega
          | succ gu ih =>
            intro h m9 st iv H locs ls g1 g2 g3 g4 g5 g6 hP hD hS hl
            rw [ch_h] at g5
            refine lv_iload hx hb d_M_chainAll_24 (lv_at hl 4 rfl) ?_
            refine lv_aload_n hx hb d_M_chainAll_26 rfl (lv_at hl 0 rfl) ?_
            refine va_get (D := D) (ci := 3) (v := .int (nI h9)) (C := K_M) (T := F_M) (N := 24) hx hb hG in_M hown hK.1 hP 0 rfl rfl 4 (by decide) (hG _ wd_652) (fun _ h9 => h9) rfl d_M_chainAll_27 ?_
            refine lv_icmp_ge (tgt := 82) hx hb d_M_chainAll_30 (by decide) (fun d1 => ?_) (fun d1 => ?_)
            · have q2 : ¬ h < h9 := by have := (nI_leI (by omega) (by omega)).mp d1; omega
              rw [if_neg q2] at g5
              rw [← g5] at h4
              dsimp only at h4
              refine lv_iload_n hx hb d_M_chainAll_82 rfl (lv_at hl 1 rfl) ?_
              refine lv_iload_n hx hb d_M_chainAll_83 rfl (lv_at hl 3 rfl) ?_
              refine lv_iadd hx hb d_M_chainAll_84 ?_
              rw [show (nI at9 + nI m9) = nI (at9 + m9) from nI_add _ _]
              refine lv_istore_n (lv' := [(1, .int (nI (at9 + m9))), (0, .ref h0), (2, .int (nI k)), (3, .int (nI m9)), (4, .int (nI h))]) hx hb d_M_chainAll_85 rfl hl (by decide) rfl (fun ls hl => ?_)
              refine lv_iinc (v := nI (k + 1)) (lv' := [(2, .int (nI (k + 1))), (1, .int (nI (at9 + m9))), (0, .ref h0), (3, .int (nI m9)), (4, .int (nI h))]) hx hb d_M_chainAll_86 hl (k := 2) rfl (iinc_p _) (by decide) rfl (fun ls hl => ?_)
              refine lv_goto (tgt := 4) hx hb d_M_chainAll_89 (by decide) ?_
              exact ihO (k + 1) (at9 + m9) (upd bg k (nI at9)) st iv H locs ls (by omega) (by omega) (by omega) h4 g6 hP hD hS (lv_sub hl [2, 1, 0] rfl)
            · have q2 : h < h9 := by rw [nI_leI (by omega) (by omega)] at d1; omega
              rw [if_pos q2] at g5
              refine lv_aload_n hx hb d_M_chainAll_33 rfl (lv_at hl 0 rfl) ?_
              refine lv_iload_n hx hb d_M_chainAll_34 rfl (lv_at hl 2 rfl) ?_
              refine lv_aload_n hx hb d_M_chainAll_35 rfl (lv_at hl 0 rfl) ?_
              refine va_get (D := D) (ci := 3) (v := .ref (ad 1)) (C := K_M) (T := F_M) (N := 24) hx hb hG in_M hown hK.1 hP 0 rfl rfl 5 (by decide) (hG _ wd_653) (fun _ h9 => h9) rfl d_M_chainAll_36 ?_
              refine lv_iload hx hb d_M_chainAll_39 (lv_at hl 4 rfl) ?_
              refine va_iald hx hb hK.1 hP 2 1 rfl rfl (vp_in_nI (by omega) (by omega)) d_M_chainAll_41 ?_
              rw [show gx (Int32.toNatClampNeg (nI h)) = gx h from by rw [nI_clamp (by omega)]]
              refine lv_aload_n hx hb d_M_chainAll_42 rfl (lv_at hl 0 rfl) ?_
              refine va_get (D := D) (ci := 3) (v := .ref (ad 2)) (C := K_M) (T := F_M) (N := 24) hx hb hG in_M hown hK.1 hP 0 rfl rfl 6 (by decide) (hG _ wd_654) (fun _ h9 => h9) rfl d_M_chainAll_43 ?_
              refine lv_iload hx hb d_M_chainAll_46 (lv_at hl 4 rfl) ?_
              refine va_iald hx hb hK.1 hP 3 1 rfl rfl (vp_in_nI (by omega) (by omega)) d_M_chainAll_48 ?_
              rw [show gy (Int32.toNatClampNeg (nI h)) = gy h from by rw [nI_clamp (by omega)]]
              have hPc := hP.sub (ws' := [(h0, .inr (3, mF ad th (nI n) sn (nI h9) pc cx cy iv.1.1 iv.1.2.1 iv.2.1 iv.2.2.1 iv.1.2.2 iv.2.2.2)), ((ad 0), .inl (E.2.1, 8192, .inl e9))]) [0, 1] rfl
              have hDc := hD.sub (ws' := [(h0, .inr (3, mF ad th (nI n) sn (nI h9) pc cx cy iv.1.1 iv.1.2.1 iv.2.1 iv.2.2.1 iv.1.2.2 iv.2.2.2)), ((ad 0), .inl (E.2.1, 8192, .inl e9))]) [0, 1] (by decide) rfl
              have hFc := va_free (wc := [(h0, .inr (3, mF ad th (nI n) sn (nI h9) pc cx cy iv.1.1 iv.1.2.1 iv.2.1 iv.2.2.1 iv.1.2.2 iv.2.2.2)), ((ad 0), .inl (E.2.1, 8192, .inl e9))]) hD hS hA [0, 1] rfl
              refine va_calli (va_runV (As := [.int (nI k), .int (gx h), .int (gy h)]) (rest := []) ⟨hx, hb, hml, hown, hts⟩ (k_M_isIn l D E h0 H.size ad th (nI n) sn (nI h9) pc cx cy iv.1.1 iv.1.2.1 iv.2.1 iv.2.2.1 iv.1.2.2 iv.2.2.2 e9 k (gx h) (gy h) (by omega)) (cwV 3 hts (gw_gv wd_759 wd_761 wd_24 wd_42 wd_762) rfl rfl rfl (by decide +kernel) ⟨Nat.le_of_ble_eq_true rfl, Nat.le_of_ble_eq_true rfl⟩) (wP_V 0 hPc hK hDc rfl rfl) rfl rfl hl.1 rfl (lv_room (Nat.le_of_ble_eq_true rfl)) d_M_chainAll_49 ⟨Nat.le_of_ble_eq_true rfl, Nat.le_of_ble_eq_true rfl⟩) hS (fun q _ h => hFc q h) hFc (fun ri u9 t H1 locs ht hvm hw hB hz1 hk1 hS => ?_)
              obtain ⟨hP1, hD1⟩ := hB
              rw [ht] at hP1
              obtain ⟨hP, hD⟩ := va_join (wr := [((ad 1), .inl (E.2.1, 8193, .inl gx)), ((ad 2), .inl (E.2.1, 8193, .inl gy)), ((ad 3), .inl (E.2.1, 2049, .inl (upd bg k (nI at9)))), ((ad 8), .inl (E.1, 8192, .inr (.inl st.1))), ((ad 9), .inl (E.1, 8192, .inr (.inl st.2.1))), ((ad 10), .inl (E.2.2.1, 8192, .inl st.2.2.1)), ((ad 4), .inl (E.2.1, 65536, .inl st.2.2.2))]) (w1 := [(h0, .inr (3, mF ad th (nI n) sn (nI h9) pc cx cy ((mi_iv (mq e9 k) (gx h) (gy h)).1.1) ((mi_iv (mq e9 k) (gx h) (gy h)).1.2.1) ((mi_iv (mq e9 k) (gx h) (gy h)).2.1) ((mi_iv (mq e9 k) (gx h) (gy h)).2.2.1) ((mi_iv (mq e9 k) (gx h) (gy h)).1.2.2) ((mi_iv (mq e9 k) (gx h) (gy h)).2.2.2))), ((ad 0), .inl (E.2.1, 8192, .inl e9))]) hP hD [0, 1] [2, 3, 4, 5, 6, 7, 8] rfl rfl (by decide) (by decide) hk1 hFc hP1 hD1
              generalize H1 = H at hP hS ⊢
              have hP : va_P D vwC [((ad 1), .inl (E.2.1, 8193, .inl gx)), ((ad 2), .inl (E.2.1, 8193, .inl gy)), ((ad 3), .inl (E.2.1, 2049, .inl (upd bg k (nI at9)))), ((ad 8), .inl (E.1, 8192, .inr (.inl st.1))), ((ad 9), .inl (E.1, 8192, .inr (.inl st.2.1))), ((ad 10), .inl (E.2.2.1, 8192, .inl st.2.2.1)), ((ad 4), .inl (E.2.1, 65536, .inl st.2.2.2)), (h0, .inr (3, mF ad th (nI n) sn (nI h9) pc cx cy ((mi_iv (mq e9 k) (gx h) (gy h)).1.1) ((mi_iv (mq e9 k) (gx h) (gy h)).1.2.1) ((mi_iv (mq e9 k) (gx h) (gy h)).2.1) ((mi_iv (mq e9 k) (gx h) (gy h)).2.2.1) ((mi_iv (mq e9 k) (gx h) (gy h)).1.2.2) ((mi_iv (mq e9 k) (gx h) (gy h)).2.2.2))), ((ad 0), .inl (E.2.1, 8192, .inl e9))] H := hP
              have hD : va_D A [((ad 1), .inl (E.2.1, 8193, .inl gx)), ((ad 2), .inl (E.2.1, 8193, .inl gy)), ((ad 3), .inl (E.2.1, 2049, .inl (upd bg k (nI at9)))), ((ad 8), .inl (E.1, 8192, .inr (.inl st.1))), ((ad 9), .inl (E.1, 8192, .inr (.inl st.2.1))), ((ad 10), .inl (E.2.2.1, 8192, .inl st.2.2.1)), ((ad 4), .inl (E.2.1, 65536, .inl st.2.2.2)), (h0, .inr (3, mF ad th (nI n) sn (nI h9) pc cx cy ((mi_iv (mq e9 k) (gx h) (gy h)).1.1) ((mi_iv (mq e9 k) (gx h) (gy h)).1.2.1) ((mi_iv (mq e9 k) (gx h) (gy h)).2.1) ((mi_iv (mq e9 k) (gx h) (gy h)).2.2.1) ((mi_iv (mq e9 k) (gx h) (gy h)).1.2.2) ((mi_iv (mq e9 k) (gx h) (gy h)).2.2.2))), ((ad 0), .inl (E.2.1, 8192, .inl e9))] := hD
              have hP := hP.sub (ws' := [(h0, .inr (3, mF ad th (nI n) sn (nI h9) pc cx cy ((mi_iv (mq e9 k) (gx h) (gy h)).1.1) ((mi_iv (mq e9 k) (gx h) (gy h)).1.2.1) ((mi_iv (mq e9 k) (gx h) (gy h)).2.1) ((mi_iv (mq e9 k) (gx h) (gy h)).2.2.1) ((mi_iv (mq e9 k) (gx h) (gy h)).1.2.2) ((mi_iv (mq e9 k) (gx h) (gy h)).2.2.2))), ((ad 0), .inl (E.2.1, 8192, .inl e9)), ((ad 1), .inl (E.2.1, 8193, .inl gx)), ((ad 2), .inl (E.2.1, 8193, .inl gy)), ((ad 3), .inl (E.2.1, 2049, .inl (upd bg k (nI at9)))), ((ad 8), .inl (E.1, 8192, .inr (.inl st.1))), ((ad 9), .inl (E.1, 8192, .inr (.inl st.2.1))), ((ad 10), .inl (E.2.2.1, 8192, .inl st.2.2.1)), ((ad 4), .inl (E.2.1, 65536, .inl st.2.2.2))]) [7, 8, 0, 1, 2, 3, 4, 5, 6] rfl
              have hD := hD.sub (ws' := [(h0, .inr (3, mF ad th (nI n) sn (nI h9) pc cx cy ((mi_iv (mq e9 k) (gx h) (gy h)).1.1) ((mi_iv (mq e9 k) (gx h) (gy h)).1.2.1) ((mi_iv (mq e9 k) (gx h) (gy h)).2.1) ((mi_iv (mq e9 k) (gx h) (gy h)).2.2.1) ((mi_iv (mq e9 k) (gx h) (gy h)).1.2.2) ((mi_iv (mq e9 k) (gx h) (gy h)).2.2.2))), ((ad 0), .inl (E.2.1, 8192, .inl e9)), ((ad 1), .inl (E.2.1, 8193, .inl gx)), ((ad 2), .inl (E.2.1, 8193, .inl gy)), ((ad 3), .inl (E.2.1, 2049, .inl (upd bg k (nI at9)))), ((ad 8), .inl (E.1, 8192, .inr (.inl st.1))), ((ad 9), .inl (E.1, 8192, .inr (.inl st.2.1))), ((ad 10), .inl (E.2.2.1, 8192, .inl st.2.2.1)), ((ad 4), .inl (E.2.1, 65536, .inl st.2.2.2))]) [7, 8, 0, 1, 2, 3, 4, 5, 6] (by decide) rfl
              have hw1 : ri = b01 (mi_in (mq e9 k) (gx h) (gy h)) := hw
              refine lv_if_eq (tgt := 76) hx hb d_M_chainAll_52 (by decide) (fun d2 => ?_) (fun d2 => ?_)
              · rw [hw1] at d2
                rw [if_pos d2] at g5
                refine lv_iinc (v := nI (h + 1)) (lv' := [(4, .int (nI (h + 1))), (0, .ref h0), (1, .int (nI at9)), (2, .int (nI k)), (3, .int (nI m9))]) hx hb d_M_chainAll_76 hl (k := 4) rfl (iinc_p _) (by decide) rfl (fun ls hl => ?_)
                refine lv_goto (tgt := 24) hx hb d_M_chainAll_79 (by decide) ?_
                exact ih (h + 1) m9 st (mi_iv (mq e9 k) (gx h) (gy h)) H locs ls (by omega) (by omega) (by omega) g4 g5 g6 hP hD hS (lv_sub hl [1, 2, 3, 4, 0] rfl)
              · rw [hw1] at d2
                rw [if_neg d2] at g5
                refine lv_iload_n hx hb d_M_chainAll_55 rfl (lv_at hl 1 rfl) ?_
                refine lv_iload_n hx hb d_M_chainAll_56 rfl (lv_at hl 3 rfl) ?_
                refine lv_iadd hx hb d_M_chainAll_57 ?_
                rw [show (nI at9 + nI m9) = nI (at9 + m9) from nI_add _ _]
                refine lv_ldc hx hb hown (hG _ wd_647) d_M_chainAll_58 ?_
                refine lv_icmp_ne (tgt := 65) hx hb d_M_chainAll_60 (by decide) (fun d3 => ?_) (fun d3 => ?_)
                · have q3 : ¬ at9 + m9 = 65536 := fun z => d3 (by rw [z]; rfl)
                  dsimp only at g5
                  rw [if_neg q3] at g5
                  refine lv_aload_n hx hb d_M_chainAll_65 rfl (lv_at hl 0 rfl) ?_
                  refine lv_iload_n hx hb d_M_chainAll_66 rfl (lv_at hl 1 rfl) ?_
                  refine lv_iload_n hx hb d_M_chainAll_67 rfl (lv_at hl 3 rfl) ?_
                  refine lv_iload hx hb d_M_chainAll_68 (lv_at hl 4 rfl) ?_
                  have hPc := hP.sub (ws' := [(h0, .inr (3, mF ad th (nI n) sn (nI h9) pc cx cy ((mi_iv (mq e9 k) (gx h) (gy h)).1.1) ((mi_iv (mq e9 k) (gx h) (gy h)).1.2.1) ((mi_iv (mq e9 k) (gx h) (gy h)).2.1) ((mi_iv (mq e9 k) (gx h) (gy h)).2.2.1) ((mi_iv (mq e9 k) (gx h) (gy h)).1.2.2) ((mi_iv (mq e9 k) (gx h) (gy h)).2.2.2))), ((ad 8), .inl (E.1, 8192, .inr (.inl st.1))), ((ad 9), .inl (E.1, 8192, .inr (.inl st.2.1))), ((ad 10), .inl (E.2.2.1, 8192, .inl st.2.2.1)), ((ad 4), .inl (E.2.1, 65536, .inl st.2.2.2))]) [0, 5, 6, 7, 8] rfl
                  have hDc := hD.sub (ws' := [(h0, .inr (3, mF ad th (nI n) sn (nI h9) pc cx cy ((mi_iv (mq e9 k) (gx h) (gy h)).1.1) ((mi_iv (mq e9 k) (gx h) (gy h)).1.2.1) ((mi_iv (mq e9 k) (gx h) (gy h)).2.1) ((mi_iv (mq e9 k) (gx h) (gy h)).2.2.1) ((mi_iv (mq e9 k) (gx h) (gy h)).1.2.2) ((mi_iv (mq e9 k) (gx h) (gy h)).2.2.2))), ((ad 8), .inl (E.1, 8192, .inr (.inl st.1))), ((ad 9), .inl (E.1, 8192, .inr (.inl st.2.1))), ((ad 10), .inl (E.2.2.1, 8192, .inl st.2.2.1)), ((ad 4), .inl (E.2.1, 65536, .inl st.2.2.2))]) [0, 5, 6, 7, 8] (by decide) rfl
                  have hFc := va_free (wc := [(h0, .inr (3, mF ad th (nI n) sn (nI h9) pc cx cy ((mi_iv (mq e9 k) (gx h) (gy h)).1.1) ((mi_iv (mq e9 k) (gx h) (gy h)).1.2.1) ((mi_iv (mq e9 k) (gx h) (gy h)).2.1) ((mi_iv (mq e9 k) (gx h) (gy h)).2.2.1) ((mi_iv (mq e9 k) (gx h) (gy h)).1.2.2) ((mi_iv (mq e9 k) (gx h) (gy h)).2.2.2))), ((ad 8), .inl (E.1, 8192, .inr (.inl st.1))), ((ad 9), .inl (E.1, 8192, .inr (.inl st.2.1))), ((ad 10), .inl (E.2.2.1, 8192, .inl st.2.2.1)), ((ad 4), .inl (E.2.1, 65536, .inl st.2.2.2))]) hD hS hA [0, 5, 6, 7, 8] rfl
                  refine va_callv (va_runV (As := [.int (nI at9), .int (nI m9), .int (nI h)]) (rest := []) ⟨hx, hb, hml, hown, hts⟩ (k_M_insert l D E h0 H.size ad th (nI n) sn (nI h9) pc cx cy ((mi_iv (mq e9 k) (gx h) (gy h)).1.1) ((mi_iv (mq e9 k) (gx h) (gy h)).1.2.1) ((mi_iv (mq e9 k) (gx h) (gy h)).2.1) ((mi_iv (mq e9 k) (gx h) (gy h)).2.2.1) ((mi_iv (mq e9 k) (gx h) (gy h)).1.2.2) ((mi_iv (mq e9 k) (gx h) (gy h)).2.2.2) st.1 st.2.1 st.2.2.1 st.2.2.2 at9 m9 (nI h) (by omega) (by omega) (mi_iv_z _ _ _) g6) (cwV 3 hts (gw_gv wd_814 wd_816 wd_34 wd_42 wd_817) rfl rfl rfl (by decide +kernel) ⟨Nat.le_of_ble_eq_true rfl, Nat.le_of_ble_eq_true rfl⟩) (wP_V 0 hPc hK hDc rfl rfl) rfl rfl hl.1 rfl (lv_room (Nat.le_of_ble_eq_true rfl)) d_M_chainAll_70 ⟨Nat.le_of_ble_eq_true rfl, Nat.le_of_ble_eq_true rfl⟩) hS (fun q _ h => hFc q h) hFc (fun u9 t H1 locs ht hvm hw hB hz1 hk1 hS => ?_)
                  obtain ⟨hP1, hD1⟩ := hB
                  rw [ht] at hP1
                  obtain ⟨hP, hD⟩ := va_join (wr := [((ad 0), .inl (E.2.1, 8192, .inl e9)), ((ad 1), .inl (E.2.1, 8193, .inl gx)), ((ad 2), .inl (E.2.1, 8193, .inl gy)), ((ad 3), .inl (E.2.1, 2049, .inl (upd bg k (nI at9))))]) (w1 := [(h0, .inr (3, mF ad th (nI n) sn (nI h9) pc cx cy ((mi_iv (mq e9 k) (gx h) (gy h)).1.1) ((mi_iv (mq e9 k) (gx h) (gy h)).1.2.1) ((mi_iv (mq e9 k) (gx h) (gy h)).2.1) ((mi_iv (mq e9 k) (gx h) (gy h)).2.2.1) ((mi_iv (mq e9 k) (gx h) (gy h)).1.2.2) ((mi_iv (mq e9 k) (gx h) (gy h)).2.2.2))), ((ad 8), .inl (E.1, 8192, .inr (.inl ((ch_ins (mi_iv (mq e9 k) (gx h) (gy h)).1 at9 m9 (nI h) st).1)))), ((ad 9), .inl (E.1, 8192, .inr (.inl ((ch_ins (mi_iv (mq e9 k) (gx h) (gy h)).1 at9 m9 (nI h) st).2.1)))), ((ad 10), .inl (E.2.2.1, 8192, .inl ((ch_ins (mi_iv (mq e9 k) (gx h) (gy h)).1 at9 m9 (nI h) st).2.2.1))), ((ad 4), .inl (E.2.1, 65536, .inl ((ch_ins (mi_iv (mq e9 k) (gx h) (gy h)).1 at9 m9 (nI h) st).2.2.2)))]) hP hD [0, 5, 6, 7, 8] [1, 2, 3, 4] rfl rfl (by decide) (by decide) hk1 hFc hP1 hD1
                  generalize H1 = H at hP hS ⊢
                  have hP : va_P D vwC [((ad 0), .inl (E.2.1, 8192, .inl e9)), ((ad 1), .inl (E.2.1, 8193, .inl gx)), ((ad 2), .inl (E.2.1, 8193, .inl gy)), ((ad 3), .inl (E.2.1, 2049, .inl (upd bg k (nI at9)))), (h0, .inr (3, mF ad th (nI n) sn (nI h9) pc cx cy ((mi_iv (mq e9 k) (gx h) (gy h)).1.1) ((mi_iv (mq e9 k) (gx h) (gy h)).1.2.1) ((mi_iv (mq e9 k) (gx h) (gy h)).2.1) ((mi_iv (mq e9 k) (gx h) (gy h)).2.2.1) ((mi_iv (mq e9 k) (gx h) (gy h)).1.2.2) ((mi_iv (mq e9 k) (gx h) (gy h)).2.2.2))), ((ad 8), .inl (E.1, 8192, .inr (.inl ((ch_ins (mi_iv (mq e9 k) (gx h) (gy h)).1 at9 m9 (nI h) st).1)))), ((ad 9), .inl (E.1, 8192, .inr (.inl ((ch_ins (mi_iv (mq e9 k) (gx h) (gy h)).1 at9 m9 (nI h) st).2.1)))), ((ad 10), .inl (E.2.2.1, 8192, .inl ((ch_ins (mi_iv (mq e9 k) (gx h) (gy h)).1 at9 m9 (nI h) st).2.2.1))), ((ad 4), .inl (E.2.1, 65536, .inl ((ch_ins (mi_iv (mq e9 k) (gx h) (gy h)).1 at9 m9 (nI h) st).2.2.2)))] H := hP
                  have hD : va_D A [((ad 0), .inl (E.2.1, 8192, .inl e9)), ((ad 1), .inl (E.2.1, 8193, .inl gx)), ((ad 2), .inl (E.2.1, 8193, .inl gy)), ((ad 3), .inl (E.2.1, 2049, .inl (upd bg k (nI at9)))), (h0, .inr (3, mF ad th (nI n) sn (nI h9) pc cx cy ((mi_iv (mq e9 k) (gx h) (gy h)).1.1) ((mi_iv (mq e9 k) (gx h) (gy h)).1.2.1) ((mi_iv (mq e9 k) (gx h) (gy h)).2.1) ((mi_iv (mq e9 k) (gx h) (gy h)).2.2.1) ((mi_iv (mq e9 k) (gx h) (gy h)).1.2.2) ((mi_iv (mq e9 k) (gx h) (gy h)).2.2.2))), ((ad 8), .inl (E.1, 8192, .inr (.inl ((ch_ins (mi_iv (mq e9 k) (gx h) (gy h)).1 at9 m9 (nI h) st).1)))), ((ad 9), .inl (E.1, 8192, .inr (.inl ((ch_ins (mi_iv (mq e9 k) (gx h) (gy h)).1 at9 m9 (nI h) st).2.1)))), ((ad 10), .inl (E.2.2.1, 8192, .inl ((ch_ins (mi_iv (mq e9 k) (gx h) (gy h)).1 at9 m9 (nI h) st).2.2.1))), ((ad 4), .inl (E.2.1, 65536, .inl ((ch_ins (mi_iv (mq e9 k) (gx h) (gy h)).1 at9 m9 (nI h) st).2.2.2)))] := hD
                  have hP := hP.sub (ws' := [(h0, .inr (3, mF ad th (nI n) sn (nI h9) pc cx cy ((mi_iv (mq e9 k) (gx h) (gy h)).1.1) ((mi_iv (mq e9 k) (gx h) (gy h)).1.2.1) ((mi_iv (mq e9 k) (gx h) (gy h)).2.1) ((mi_iv (mq e9 k) (gx h) (gy h)).2.2.1) ((mi_iv (mq e9 k) (gx h) (gy h)).1.2.2) ((mi_iv (mq e9 k) (gx h) (gy h)).2.2.2))), ((ad 0), .inl (E.2.1, 8192, .inl e9)), ((ad 1), .inl (E.2.1, 8193, .inl gx)), ((ad 2), .inl (E.2.1, 8193, .inl gy)), ((ad 3), .inl (E.2.1, 2049, .inl (upd bg k (nI at9)))), ((ad 8), .inl (E.1, 8192, .inr (.inl ((ch_ins (mi_iv (mq e9 k) (gx h) (gy h)).1 at9 m9 (nI h) st).1)))), ((ad 9), .inl (E.1, 8192, .inr (.inl ((ch_ins (mi_iv (mq e9 k) (gx h) (gy h)).1 at9 m9 (nI h) st).2.1)))), ((ad 10), .inl (E.2.2.1, 8192, .inl ((ch_ins (mi_iv (mq e9 k) (gx h) (gy h)).1 at9 m9 (nI h) st).2.2.1))), ((ad 4), .inl (E.2.1, 65536, .inl ((ch_ins (mi_iv (mq e9 k) (gx h) (gy h)).1 at9 m9 (nI h) st).2.2.2)))]) [4, 0, 1, 2, 3, 5, 6, 7, 8] rfl
                  have hD := hD.sub (ws' := [(h0, .inr (3, mF ad th (nI n) sn (nI h9) pc cx cy ((mi_iv (mq e9 k) (gx h) (gy h)).1.1) ((mi_iv (mq e9 k) (gx h) (gy h)).1.2.1) ((mi_iv (mq e9 k) (gx h) (gy h)).2.1) ((mi_iv (mq e9 k) (gx h) (gy h)).2.2.1) ((mi_iv (mq e9 k) (gx h) (gy h)).1.2.2) ((mi_iv (mq e9 k) (gx h) (gy h)).2.2.2))), ((ad 0), .inl (E.2.1, 8192, .inl e9)), ((ad 1), .inl (E.2.1, 8193, .inl gx)), ((ad 2), .inl (E.2.1, 8193, .inl gy)), ((ad 3), .inl (E.2.1, 2049, .inl (upd bg k (nI at9)))), ((ad 8), .inl (E.1, 8192, .inr (.inl ((ch_ins (mi_iv (mq e9 k) (gx h) (gy h)).1 at9 m9 (nI h) st).1)))), ((ad 9), .inl (E.1, 8192, .inr (.inl ((ch_ins (mi_iv (mq e9 k) (gx h) (gy h)).1 at9 m9 (nI h) st).2.1)))), ((ad 10), .inl (E.2.2.1, 8192, .inl ((ch_ins (mi_iv (mq e9 k) (gx h) (gy h)).1 at9 m9 (nI h) st).2.2.1))), ((ad 4), .inl (E.2.1, 65536, .inl ((ch_ins (mi_iv (mq e9 k) (gx h) (gy h)).1 at9 m9 (nI h) st).2.2.2)))]) [4, 0, 1, 2, 3, 5, 6, 7, 8] (by decide) rfl
                  refine lv_iinc (v := nI (m9 + 1)) (lv' := [(3, .int (nI (m9 + 1))), (0, .ref h0), (1, .int (nI at9)), (2, .int (nI k)), (4, .int (nI h))]) hx hb d_M_chainAll_73 hl (k := 3) rfl (iinc_p _) (by decide) rfl (fun ls hl => ?_)
                  refine lv_iinc (v := nI (h + 1)) (lv' := [(4, .int (nI (h + 1))), (3, .int (nI (m9 + 1))), (0, .ref h0), (1, .int (nI at9)), (2, .int (nI k))]) hx hb d_M_chainAll_76 hl (k := 4) rfl (iinc_p _) (by decide) rfl (fun ls hl => ?_)
                  refine lv_goto (tgt := 24) hx hb d_M_chainAll_79 (by decide) ?_
                  exact ih (h + 1) (m9 + 1) (ch_ins (mi_iv (mq e9 k) (gx h) (gy h)).1 at9 m9 (nI h) st) (mi_iv (mq e9 k) (gx h) (gy h)) H locs ls (by omega) (by omega) (by omega) (by omega) g5 (ch_ins_z g6 (mi_iv_z _ _ _)) hP hD hS (lv_sub hl [2, 3, 4, 1, 0] rfl)
                · have q3 : at9 + m9 = 65536 := (nI_eq (b := 65536) (by omega) (by omega)).mp d3
                  dsimp only at g5
                  rw [if_pos q3] at g5
                  rw [← g5] at h4
                  dsimp only at h4
                  cases h4
        exact inner (h9 + 1) 0 0 st iv H locs ls (by omega) (by omega) (by omega) (by omega) hX.symm h5 hP hD hS (lv_sub hl [2, 3, 4, 1, 0] rfl)
  exact outer (n + 1) 0 0 bg st0 iv _ _ ls (by omega) (by omega) (by omega) hR hz hP hD hS (lv_sub hl [2, 1, 0] rfl)
set_option maxHeartbeats 4000000 in
set_option maxRecDepth 100000 in
theorem k_M_chainAll_n (l : Launch) (D : va_G) (E : ClassId × ClassId × ClassId × ClassId) (h0 sz : Nat) (ad : Nat → Nat) (th sg sn hot pc cx cy : Int32) (fo fv to tv : Int64) (fi ti : Int32) (e9 gx gy bg : Nat → Int32) (st0 : CT) (iv : IV) (n h9 : Nat) (hn : 4 * n ≤ 8192) (hh : h9 ≤ 8192) (hz : zo st0.2.2.1) (hR : ch_s e9 gx gy n h9 (n + 1) 0 (0, bg, st0) = none) : Met l y_M_chainAll (.code y_M_chainAll c_M_chainAll 5 (some .boolean) :: gw) ({ frames := 4, cells := 0, slots := 0, locals := 190 } : Room) (wP D E [(h0, .inr (3, mF ad th (nI n) sn (nI h9) pc cx cy iv.1.1 iv.1.2.1 iv.2.1 iv.2.2.1 iv.1.2.2 iv.2.2.2)), ((ad 0), .inl (E.2.1, 8192, .inl e9)), ((ad 1), .inl (E.2.1, 8193, .inl gx)), ((ad 2), .inl (E.2.1, 8193, .inl gy)), ((ad 3), .inl (E.2.1, 2049, .inl bg)), ((ad 8), .inl (E.1, 8192, .inr (.inl st0.1))), ((ad 9), .inl (E.1, 8192, .inr (.inl st0.2.1))), ((ad 10), .inl (E.2.2.1, 8192, .inl st0.2.2.1)), ((ad 4), .inl (E.2.1, 65536, .inl st0.2.2.2))] sz [.ref h0]) (va_Qi (fun (r : Int32) (u : IV × (Nat → Int32) × CT) => r = 0 ∧ zo u.2.2.2.2.1) (wB D (fun u => [(h0, .inr (3, mF ad th (nI n) sn (nI h9) pc cx cy u.1.1.1 u.1.1.2.1 u.1.2.1 u.1.2.2.1 u.1.1.2.2 u.1.2.2.2)), ((ad 0), .inl (E.2.1, 8192, .inl e9)), ((ad 1), .inl (E.2.1, 8193, .inl gx)), ((ad 2), .inl (E.2.1, 8193, .inl gy)), ((ad 3), .inl (E.2.1, 2049, .inl u.2.1)), ((ad 8), .inl (E.1, 8192, .inr (.inl u.2.2.1))), ((ad 9), .inl (E.1, 8192, .inr (.inl u.2.2.2.1))), ((ad 10), .inl (E.2.2.1, 8192, .inl u.2.2.2.2.1)), ((ad 4), .inl (E.2.1, 65536, .inl u.2.2.2.2.2))]) (va_A [(h0, .inr (3, mF ad th (nI n) sn (nI h9) pc cx cy iv.1.1 iv.1.2.1 iv.2.1 iv.2.2.1 iv.1.2.2 iv.2.2.2)), ((ad 0), .inl (E.2.1, 8192, .inl e9)), ((ad 1), .inl (E.2.1, 8193, .inl gx)), ((ad 2), .inl (E.2.1, 8193, .inl gy)), ((ad 3), .inl (E.2.1, 2049, .inl bg)), ((ad 8), .inl (E.1, 8192, .inr (.inl st0.1))), ((ad 9), .inl (E.1, 8192, .inr (.inl st0.2.1))), ((ad 10), .inl (E.2.2.1, 8192, .inl st0.2.2.1)), ((ad 4), .inl (E.2.1, 65536, .inl st0.2.2.2))] sz)) (va_A [(h0, .inr (3, mF ad th (nI n) sn (nI h9) pc cx cy iv.1.1 iv.1.2.1 iv.2.1 iv.2.2.1 iv.1.2.2 iv.2.2.2)), ((ad 0), .inl (E.2.1, 8192, .inl e9)), ((ad 1), .inl (E.2.1, 8193, .inl gx)), ((ad 2), .inl (E.2.1, 8193, .inl gy)), ((ad 3), .inl (E.2.1, 2049, .inl bg)), ((ad 8), .inl (E.1, 8192, .inr (.inl st0.1))), ((ad 9), .inl (E.1, 8192, .inr (.inl st0.2.1))), ((ad 10), .inl (E.2.2.1, 8192, .inl st0.2.2.1)), ((ad 4), .inl (E.2.1, 65536, .inl st0.2.2.2))] sz)) 0 0 (va_A [(h0, .inr (3, mF ad th (nI n) sn (nI h9) pc cx cy iv.1.1 iv.1.2.1 iv.2.1 iv.2.2.1 iv.1.2.2 iv.2.2.2)), ((ad 0), .inl (E.2.1, 8192, .inl e9)), ((ad 1), .inl (E.2.1, 8193, .inl gx)), ((ad 2), .inl (E.2.1, 8193, .inl gy)), ((ad 3), .inl (E.2.1, 2049, .inl bg)), ((ad 8), .inl (E.1, 8192, .inr (.inl st0.1))), ((ad 9), .inl (E.1, 8192, .inr (.inl st0.2.1))), ((ad 10), .inl (E.2.2.1, 8192, .inl st0.2.2.1)), ((ad 4), .inl (E.2.1, 65536, .inl st0.2.2.2))] sz) := by
  refine wr_ofW (Qc := fun A => (va_Qi (fun (r : Int32) (u : IV × (Nat → Int32) × CT) => r = 0 ∧ zo u.2.2.2.2.1) (wB D (fun u => [(h0, .inr (3, mF ad th (nI n) sn (nI h9) pc cx cy u.1.1.1 u.1.1.2.1 u.1.2.1 u.1.2.2.1 u.1.1.2.2 u.1.2.2.2)), ((ad 0), .inl (E.2.1, 8192, .inl e9)), ((ad 1), .inl (E.2.1, 8193, .inl gx)), ((ad 2), .inl (E.2.1, 8193, .inl gy)), ((ad 3), .inl (E.2.1, 2049, .inl u.2.1)), ((ad 8), .inl (E.1, 8192, .inr (.inl u.2.2.1))), ((ad 9), .inl (E.1, 8192, .inr (.inl u.2.2.2.1))), ((ad 10), .inl (E.2.2.1, 8192, .inl u.2.2.2.2.1)), ((ad 4), .inl (E.2.1, 65536, .inl u.2.2.2.2.2))]) A) A)) (by decide) (Nat.le_of_ble_eq_true rfl) ?_
  intro p e s m below meth c B hP hK A hA hD hS ls hl
  obtain ⟨hx, hb, hrt, hml, hown, hts, hG, hlocks, hin⟩ := B
  have hl : lv_has ls 5 [(0, .ref h0)] := hl
  refine lv_iconst (v := 0) hx hb d_M_chainAll_0 (by decide) ?_
  refine lv_istore_n (lv' := [(1, .int 0), (0, .ref h0)]) hx hb d_M_chainAll_1 rfl hl (by decide) rfl (fun ls hl => ?_)
  refine lv_iconst (v := 0) hx hb d_M_chainAll_2 (by decide) ?_
  refine lv_istore_n (lv' := [(2, .int 0), (1, .int 0), (0, .ref h0)]) hx hb d_M_chainAll_3 rfl hl (by decide) rfl (fun ls hl => ?_)
  have outer : ∀ (fu : Nat) (k : Nat) (at9 : Nat) (bg : Nat → Int32) (st : CT) (iv : IV) (H : Heap) (locs : List Loc) (ls : Array Slot), (k ≤ n) → (n < k + fu) → (at9 ≤ 65536) → (ch_s e9 gx gy n h9 fu k (at9, bg, st) = none) → (zo st.2.2.1) → va_P D vwC [(h0, .inr (3, mF ad th (nI n) sn (nI h9) pc cx cy iv.1.1 iv.1.2.1 iv.2.1 iv.2.2.1 iv.1.2.2 iv.2.2.2)), ((ad 0), .inl (E.2.1, 8192, .inl e9)), ((ad 1), .inl (E.2.1, 8193, .inl gx)), ((ad 2), .inl (E.2.1, 8193, .inl gy)), ((ad 3), .inl (E.2.1, 2049, .inl bg)), ((ad 8), .inl (E.1, 8192, .inr (.inl st.1))), ((ad 9), .inl (E.1, 8192, .inr (.inl st.2.1))), ((ad 10), .inl (E.2.2.1, 8192, .inl st.2.2.1)), ((ad 4), .inl (E.2.1, 65536, .inl st.2.2.2))] H → va_D A [(h0, .inr (3, mF ad th (nI n) sn (nI h9) pc cx cy iv.1.1 iv.1.2.1 iv.2.1 iv.2.2.1 iv.1.2.2 iv.2.2.2)), ((ad 0), .inl (E.2.1, 8192, .inl e9)), ((ad 1), .inl (E.2.1, 8193, .inl gx)), ((ad 2), .inl (E.2.1, 8193, .inl gy)), ((ad 3), .inl (E.2.1, 2049, .inl bg)), ((ad 8), .inl (E.1, 8192, .inr (.inl st.1))), ((ad 9), .inl (E.1, 8192, .inr (.inl st.2.1))), ((ad 10), .inl (E.2.2.1, 8192, .inl st.2.2.1)), ((ad 4), .inl (E.2.1, 65536, .inl st.2.2.2))] → va_S A s.heap H locs → lv_has ls 5 [(0, .ref h0), (1, .int (nI at9)), (2, .int (nI k))] → W p l e ({ frames := 4, cells := 0, slots := 0, locals := 190 } : Room) s m ([.ref h0] : List Value).toArray below meth c H locs 0 0 (MQ below (va_Qi (fun (r : Int32) (u : IV × (Nat → Int32) × CT) => r = 0 ∧ zo u.2.2.2.2.1) (wB D (fun u => [(h0, .inr (3, mF ad th (nI n) sn (nI h9) pc cx cy u.1.1.1 u.1.1.2.1 u.1.2.1 u.1.2.2.1 u.1.1.2.2 u.1.2.2.2)), ((ad 0), .inl (E.2.1, 8192, .inl e9)), ((ad 1), .inl (E.2.1, 8193, .inl gx)), ((ad 2), .inl (E.2.1, 8193, .inl gy)), ((ad 3), .inl (E.2.1, 2049, .inl u.2.1)), ((ad 8), .inl (E.1, 8192, .inr (.inl u.2.2.1))), ((ad 9), .inl (E.1, 8192, .inr (.inl u.2.2.2.1))), ((ad 10), .inl (E.2.2.1, 8192, .inl u.2.2.2.2.1)), ((ad 4), .inl (E.2.1, 65536, .inl u.2.2.2.2.2))]) A) A) ([.ref h0] : List Value).toArray s 0 0 A) (F0 m 4 ls []) := by
    intro fu
    induction fu with
    | zero =>
      intro k at9 bg st iv H locs ls h1 h2 h3 h4 h5 hP hD hS hl
      omega
    | succ fu ihO =>
      intro k at9 bg st iv H locs ls h1 h2 h3 h4 h5 hP hD hS hl
      rw [ch_s] at h4
      refine lv_iload_n hx hb d_M_chainAll_4 rfl (lv_at hl 2 rfl) ?_
      refine lv_aload_n hx hb d_M_chainAll_5 rfl (lv_at hl 0 rfl) ?_
      refine va_get (D := D) (ci := 3) (v := .int (nI n)) (C := K_M) (T := F_M) (N := 24) hx hb hG in_M hown hK.1 hP 0 rfl rfl 1 (by decide) (hG _ wd_649) (fun _ h9 => h9) rfl d_M_chainAll_6 ?_
      refine lv_icmp_ge (tgt := 92) hx hb d_M_chainAll_9 (by decide) (fun c1 => ?_) (fun c1 => ?_)
      · have q : ¬ k < n := by have := (nI_leI (by omega) (by omega)).mp c1; omega
        rw [if_neg q] at h4
        cases h4
      · have q : k < n := by rw [nI_leI (by omega) (by omega)] at c1; omega
        rw [if_pos q] at h4
        refine lv_aload_n hx hb d_M_chainAll_12 rfl (lv_at hl 0 rfl) ?_
        refine va_get (D := D) (ci := 3) (v := .ref (ad 3)) (C := K_M) (T := F_M) (N := 24) hx hb hG in_M hown hK.1 hP 0 rfl rfl 7 (by decide) (hG _ wd_655) (fun _ h9 => h9) rfl d_M_chainAll_13 ?_
        refine lv_iload_n hx hb d_M_chainAll_16 rfl (lv_at hl 2 rfl) ?_
        refine lv_iload_n hx hb d_M_chainAll_17 rfl (lv_at hl 1 rfl) ?_
        refine va_iast hx hb hK.1 hP hD hS 4 1 rfl rfl (vp_in_nI (by omega) (by omega)) d_M_chainAll_18 (fun H locs hP hD hS => ?_)
        rw [show upd bg (Int32.toNatClampNeg (nI k)) (nI at9) = (upd bg k (nI at9)) from by rw [nI_clamp (by omega)]] at hP hD
        have hP : va_P D vwC [(h0, .inr (3, mF ad th (nI n) sn (nI h9) pc cx cy iv.1.1 iv.1.2.1 iv.2.1 iv.2.2.1 iv.1.2.2 iv.2.2.2)), ((ad 0), .inl (E.2.1, 8192, .inl e9)), ((ad 1), .inl (E.2.1, 8193, .inl gx)), ((ad 2), .inl (E.2.1, 8193, .inl gy)), ((ad 3), .inl (E.2.1, 2049, .inl (upd bg k (nI at9)))), ((ad 8), .inl (E.1, 8192, .inr (.inl st.1))), ((ad 9), .inl (E.1, 8192, .inr (.inl st.2.1))), ((ad 10), .inl (E.2.2.1, 8192, .inl st.2.2.1)), ((ad 4), .inl (E.2.1, 65536, .inl st.2.2.2))] H := hP
        have hD : va_D A [(h0, .inr (3, mF ad th (nI n) sn (nI h9) pc cx cy iv.1.1 iv.1.2.1 iv.2.1 iv.2.2.1 iv.1.2.2 iv.2.2.2)), ((ad 0), .inl (E.2.1, 8192, .inl e9)), ((ad 1), .inl (E.2.1, 8193, .inl gx)), ((ad 2), .inl (E.2.1, 8193, .inl gy)), ((ad 3), .inl (E.2.1, 2049, .inl (upd bg k (nI at9)))), ((ad 8), .inl (E.1, 8192, .inr (.inl st.1))), ((ad 9), .inl (E.1, 8192, .inr (.inl st.2.1))), ((ad 10), .inl (E.2.2.1, 8192, .inl st.2.2.1)), ((ad 4), .inl (E.2.1, 65536, .inl st.2.2.2))] := hD
        refine lv_iconst (v := 0) hx hb d_M_chainAll_19 (by decide) ?_
        refine lv_istore_n (lv' := [(3, .int 0), (0, .ref h0), (1, .int (nI at9)), (2, .int (nI k))]) hx hb d_M_chainAll_20 rfl hl (by decide) rfl (fun ls hl => ?_)
        refine lv_iconst (v := 0) hx hb d_M_chainAll_21 (by decide) ?_
        refine lv_istore (lv' := [(4, .int 0), (3, .int 0), (0, .ref h0), (1, .int (nI at9)), (2, .int (nI k))]) hx hb d_M_chainAll_22 hl (by decide) rfl (fun ls hl => ?_)
        obtain ⟨X, hX⟩ : ∃ X, X = ch_h (mq e9 k) gx gy h9 at9 (h9 + 1) 0 (0, st) := ⟨_, rfl⟩
        dsimp only at h4
        rw [← hX] at h4
        have inner : ∀ (gu : Nat) (h : Nat) (m9 : Nat) (st : CT) (iv : IV) (H : Heap) (locs : List Loc) (ls : Array Slot), (h ≤ h9) → (h9 < h + gu) → (m9 ≤ h) → (at9 + m9 ≤ 65536) → (ch_h (mq e9 k) gx gy h9 at9 gu h (m9, st) = X) → (zo st.2.2.1) → va_P D vwC [(h0, .inr (3, mF ad th (nI n) sn (nI h9) pc cx cy iv.1.1 iv.1.2.1 iv.2.1 iv.2.2.1 iv.1.2.2 iv.2.2.2)), ((ad 0), .inl (E.2.1, 8192, .inl e9)), ((ad 1), .inl (E.2.1, 8193, .inl gx)), ((ad 2), .inl (E.2.1, 8193, .inl gy)), ((ad 3), .inl (E.2.1, 2049, .inl (upd bg k (nI at9)))), ((ad 8), .inl (E.1, 8192, .inr (.inl st.1))), ((ad 9), .inl (E.1, 8192, .inr (.inl st.2.1))), ((ad 10), .inl (E.2.2.1, 8192, .inl st.2.2.1)), ((ad 4), .inl (E.2.1, 65536, .inl st.2.2.2))] H → va_D A [(h0, .inr (3, mF ad th (nI n) sn (nI h9) pc cx cy iv.1.1 iv.1.2.1 iv.2.1 iv.2.2.1 iv.1.2.2 iv.2.2.2)), ((ad 0), .inl (E.2.1, 8192, .inl e9)), ((ad 1), .inl (E.2.1, 8193, .inl gx)), ((ad 2), .inl (E.2.1, 8193, .inl gy)), ((ad 3), .inl (E.2.1, 2049, .inl (upd bg k (nI at9)))), ((ad 8), .inl (E.1, 8192, .inr (.inl st.1))), ((ad 9), .inl (E.1, 8192, .inr (.inl st.2.1))), ((ad 10), .inl (E.2.2.1, 8192, .inl st.2.2.1)), ((ad 4), .inl (E.2.1, 65536, .inl st.2.2.2))] → va_S A s.heap H locs → lv_has ls 5 [(0, .ref h0), (1, .int (nI at9)), (2, .int (nI k)), (3, .int (nI m9)), (4, .int (nI h))] → W p l e ({ frames := 4, cells := 0, slots := 0, locals := 190 } : Room) s m ([.ref h0] : List Value).toArray below meth c H locs 0 0 (MQ below (va_Qi (fun (r : Int32) (u : IV × (Nat → Int32) × CT) => r = 0 ∧ zo u.2.2.2.2.1) (wB D (fun u => [(h0, .inr (3, mF ad th (nI n) sn (nI h9) pc cx cy u.1.1.1 u.1.1.2.1 u.1.2.1 u.1.2.2.1 u.1.1.2.2 u.1.2.2.2)), ((ad 0), .inl (E.2.1, 8192, .inl e9)), ((ad 1), .inl (E.2.1, 8193, .inl gx)), ((ad 2), .inl (E.2.1, 8193, .inl gy)), ((ad 3), .inl (E.2.1, 2049, .inl u.2.1)), ((ad 8), .inl (E.1, 8192, .inr (.inl u.2.2.1))), ((ad 9), .inl (E.1, 8192, .inr (.inl u.2.2.2.1))), ((ad 10), .inl (E.2.2.1, 8192, .inl u.2.2.2.2.1)), ((ad 4), .inl (E.2.1, 65536, .inl u.2.2.2.2.2))]) A) A) ([.ref h0] : List Value).toArray s 0 0 A) (F0 m 24 ls []) := by
          intro gu
          induction gu with
          | zero =>
            intro h m9 st iv H locs ls g1 g2 g3 g4 g5 g6 hP hD hS hl
            omega
          | succ gu ih =>
            intro h m9 st iv H locs ls g1 g2 g3 g4 g5 g6 hP hD hS hl
            rw [ch_h] at g5
            refine lv_iload hx hb d_M_chainAll_24 (lv_at hl 4 rfl) ?_
            refine lv_aload_n hx hb d_M_chainAll_26 rfl (lv_at hl 0 rfl) ?_
            refine va_get (D := D) (ci := 3) (v := .int (nI h9)) (C := K_M) (T := F_M) (N := 24) hx hb hG in_M hown hK.1 hP 0 rfl rfl 4 (by decide) (hG _ wd_652) (fun _ h9 => h9) rfl d_M_chainAll_27 ?_
            refine lv_icmp_ge (tgt := 82) hx hb d_M_chainAll_30 (by decide) (fun d1 => ?_) (fun d1 => ?_)
            · have q2 : ¬ h < h9 := by have := (nI_leI (by omega) (by omega)).mp d1; omega
              rw [if_neg q2] at g5
              rw [← g5] at h4
              dsimp only at h4
              refine lv_iload_n hx hb d_M_chainAll_82 rfl (lv_at hl 1 rfl) ?_
              refine lv_iload_n hx hb d_M_chainAll_83 rfl (lv_at hl 3 rfl) ?_
              refine lv_iadd hx hb d_M_chainAll_84 ?_
              rw [show (nI at9 + nI m9) = nI (at9 + m9) from nI_add _ _]
              refine lv_istore_n (lv' := [(1, .int (nI (at9 + m9))), (0, .ref h0), (2, .int (nI k)), (3, .int (nI m9)), (4, .int (nI h))]) hx hb d_M_chainAll_85 rfl hl (by decide) rfl (fun ls hl => ?_)
              refine lv_iinc (v := nI (k + 1)) (lv' := [(2, .int (nI (k + 1))), (1, .int (nI (at9 + m9))), (0, .ref h0), (3, .int (nI m9)), (4, .int (nI h))]) hx hb d_M_chainAll_86 hl (k := 2) rfl (iinc_p _) (by decide) rfl (fun ls hl => ?_)
              refine lv_goto (tgt := 4) hx hb d_M_chainAll_89 (by decide) ?_
              exact ihO (k + 1) (at9 + m9) (upd bg k (nI at9)) st iv H locs ls (by omega) (by omega) (by omega) h4 g6 hP hD hS (lv_sub hl [2, 1, 0] rfl)
            · have q2 : h < h9 := by rw [nI_leI (by omega) (by omega)] at d1; omega
              rw [if_pos q2] at g5
              refine lv_aload_n hx hb d_M_chainAll_33 rfl (lv_at hl 0 rfl) ?_
              refine lv_iload_n hx hb d_M_chainAll_34 rfl (lv_at hl 2 rfl) ?_
              refine lv_aload_n hx hb d_M_chainAll_35 rfl (lv_at hl 0 rfl) ?_
              refine va_get (D := D) (ci := 3) (v := .ref (ad 1)) (C := K_M) (T := F_M) (N := 24) hx hb hG in_M hown hK.1 hP 0 rfl rfl 5 (by decide) (hG _ wd_653) (fun _ h9 => h9) rfl d_M_chainAll_36 ?_
              refine lv_iload hx hb d_M_chainAll_39 (lv_at hl 4 rfl) ?_
              refine va_iald hx hb hK.1 hP 2 1 rfl rfl (vp_in_nI (by omega) (by omega)) d_M_chainAll_41 ?_
              rw [show gx (Int32.toNatClampNeg (nI h)) = gx h from by rw [nI_clamp (by omega)]]
              refine lv_aload_n hx hb d_M_chainAll_42 rfl (lv_at hl 0 rfl) ?_
              refine va_get (D := D) (ci := 3) (v := .ref (ad 2)) (C := K_M) (T := F_M) (N := 24) hx hb hG in_M hown hK.1 hP 0 rfl rfl 6 (by decide) (hG _ wd_654) (fun _ h9 => h9) rfl d_M_chainAll_43 ?_
              refine lv_iload hx hb d_M_chainAll_46 (lv_at hl 4 rfl) ?_
              refine va_iald hx hb hK.1 hP 3 1 rfl rfl (vp_in_nI (by omega) (by omega)) d_M_chainAll_48 ?_
              rw [show gy (Int32.toNatClampNeg (nI h)) = gy h from by rw [nI_clamp (by omega)]]
              have hPc := hP.sub (ws' := [(h0, .inr (3, mF ad th (nI n) sn (nI h9) pc cx cy iv.1.1 iv.1.2.1 iv.2.1 iv.2.2.1 iv.1.2.2 iv.2.2.2)), ((ad 0), .inl (E.2.1, 8192, .inl e9))]) [0, 1] rfl
              have hDc := hD.sub (ws' := [(h0, .inr (3, mF ad th (nI n) sn (nI h9) pc cx cy iv.1.1 iv.1.2.1 iv.2.1 iv.2.2.1 iv.1.2.2 iv.2.2.2)), ((ad 0), .inl (E.2.1, 8192, .inl e9))]) [0, 1] (by decide) rfl
              have hFc := va_free (wc := [(h0, .inr (3, mF ad th (nI n) sn (nI h9) pc cx cy iv.1.1 iv.1.2.1 iv.2.1 iv.2.2.1 iv.1.2.2 iv.2.2.2)), ((ad 0), .inl (E.2.1, 8192, .inl e9))]) hD hS hA [0, 1] rfl
              refine va_calli (va_runV (As := [.int (nI k), .int (gx h), .int (gy h)]) (rest := []) ⟨hx, hb, hml, hown, hts⟩ (k_M_isIn l D E h0 H.size ad th (nI n) sn (nI h9) pc cx cy iv.1.1 iv.1.2.1 iv.2.1 iv.2.2.1 iv.1.2.2 iv.2.2.2 e9 k (gx h) (gy h) (by omega)) (cwV 3 hts (gw_gv wd_759 wd_761 wd_24 wd_42 wd_762) rfl rfl rfl (by decide +kernel) ⟨Nat.le_of_ble_eq_true rfl, Nat.le_of_ble_eq_true rfl⟩) (wP_V 0 hPc hK hDc rfl rfl) rfl rfl hl.1 rfl (lv_room (Nat.le_of_ble_eq_true rfl)) d_M_chainAll_49 ⟨Nat.le_of_ble_eq_true rfl, Nat.le_of_ble_eq_true rfl⟩) hS (fun q _ h => hFc q h) hFc (fun ri u9 t H1 locs ht hvm hw hB hz1 hk1 hS => ?_)
              obtain ⟨hP1, hD1⟩ := hB
              rw [ht] at hP1
              obtain ⟨hP, hD⟩ := va_join (wr := [((ad 1), .inl (E.2.1, 8193, .inl gx)), ((ad 2), .inl (E.2.1, 8193, .inl gy)), ((ad 3), .inl (E.2.1, 2049, .inl (upd bg k (nI at9)))), ((ad 8), .inl (E.1, 8192, .inr (.inl st.1))), ((ad 9), .inl (E.1, 8192, .inr (.inl st.2.1))), ((ad 10), .inl (E.2.2.1, 8192, .inl st.2.2.1)), ((ad 4), .inl (E.2.1, 65536, .inl st.2.2.2))]) (w1 := [(h0, .inr (3, mF ad th (nI n) sn (nI h9) pc cx cy ((mi_iv (mq e9 k) (gx h) (gy h)).1.1) ((mi_iv (mq e9 k) (gx h) (gy h)).1.2.1) ((mi_iv (mq e9 k) (gx h) (gy h)).2.1) ((mi_iv (mq e9 k) (gx h) (gy h)).2.2.1) ((mi_iv (mq e9 k) (gx h) (gy h)).1.2.2) ((mi_iv (mq e9 k) (gx h) (gy h)).2.2.2))), ((ad 0), .inl (E.2.1, 8192, .inl e9))]) hP hD [0, 1] [2, 3, 4, 5, 6, 7, 8] rfl rfl (by decide) (by decide) hk1 hFc hP1 hD1
              generalize H1 = H at hP hS ⊢
              have hP : va_P D vwC [((ad 1), .inl (E.2.1, 8193, .inl gx)), ((ad 2), .inl (E.2.1, 8193, .inl gy)), ((ad 3), .inl (E.2.1, 2049, .inl (upd bg k (nI at9)))), ((ad 8), .inl (E.1, 8192, .inr (.inl st.1))), ((ad 9), .inl (E.1, 8192, .inr (.inl st.2.1))), ((ad 10), .inl (E.2.2.1, 8192, .inl st.2.2.1)), ((ad 4), .inl (E.2.1, 65536, .inl st.2.2.2)), (h0, .inr (3, mF ad th (nI n) sn (nI h9) pc cx cy ((mi_iv (mq e9 k) (gx h) (gy h)).1.1) ((mi_iv (mq e9 k) (gx h) (gy h)).1.2.1) ((mi_iv (mq e9 k) (gx h) (gy h)).2.1) ((mi_iv (mq e9 k) (gx h) (gy h)).2.2.1) ((mi_iv (mq e9 k) (gx h) (gy h)).1.2.2) ((mi_iv (mq e9 k) (gx h) (gy h)).2.2.2))), ((ad 0), .inl (E.2.1, 8192, .inl e9))] H := hP
              have hD : va_D A [((ad 1), .inl (E.2.1, 8193, .inl gx)), ((ad 2), .inl (E.2.1, 8193, .inl gy)), ((ad 3), .inl (E.2.1, 2049, .inl (upd bg k (nI at9)))), ((ad 8), .inl (E.1, 8192, .inr (.inl st.1))), ((ad 9), .inl (E.1, 8192, .inr (.inl st.2.1))), ((ad 10), .inl (E.2.2.1, 8192, .inl st.2.2.1)), ((ad 4), .inl (E.2.1, 65536, .inl st.2.2.2)), (h0, .inr (3, mF ad th (nI n) sn (nI h9) pc cx cy ((mi_iv (mq e9 k) (gx h) (gy h)).1.1) ((mi_iv (mq e9 k) (gx h) (gy h)).1.2.1) ((mi_iv (mq e9 k) (gx h) (gy h)).2.1) ((mi_iv (mq e9 k) (gx h) (gy h)).2.2.1) ((mi_iv (mq e9 k) (gx h) (gy h)).1.2.2) ((mi_iv (mq e9 k) (gx h) (gy h)).2.2.2))), ((ad 0), .inl (E.2.1, 8192, .inl e9))] := hD
              have hP := hP.sub (ws' := [(h0, .inr (3, mF ad th (nI n) sn (nI h9) pc cx cy ((mi_iv (mq e9 k) (gx h) (gy h)).1.1) ((mi_iv (mq e9 k) (gx h) (gy h)).1.2.1) ((mi_iv (mq e9 k) (gx h) (gy h)).2.1) ((mi_iv (mq e9 k) (gx h) (gy h)).2.2.1) ((mi_iv (mq e9 k) (gx h) (gy h)).1.2.2) ((mi_iv (mq e9 k) (gx h) (gy h)).2.2.2))), ((ad 0), .inl (E.2.1, 8192, .inl e9)), ((ad 1), .inl (E.2.1, 8193, .inl gx)), ((ad 2), .inl (E.2.1, 8193, .inl gy)), ((ad 3), .inl (E.2.1, 2049, .inl (upd bg k (nI at9)))), ((ad 8), .inl (E.1, 8192, .inr (.inl st.1))), ((ad 9), .inl (E.1, 8192, .inr (.inl st.2.1))), ((ad 10), .inl (E.2.2.1, 8192, .inl st.2.2.1)), ((ad 4), .inl (E.2.1, 65536, .inl st.2.2.2))]) [7, 8, 0, 1, 2, 3, 4, 5, 6] rfl
              have hD := hD.sub (ws' := [(h0, .inr (3, mF ad th (nI n) sn (nI h9) pc cx cy ((mi_iv (mq e9 k) (gx h) (gy h)).1.1) ((mi_iv (mq e9 k) (gx h) (gy h)).1.2.1) ((mi_iv (mq e9 k) (gx h) (gy h)).2.1) ((mi_iv (mq e9 k) (gx h) (gy h)).2.2.1) ((mi_iv (mq e9 k) (gx h) (gy h)).1.2.2) ((mi_iv (mq e9 k) (gx h) (gy h)).2.2.2))), ((ad 0), .inl (E.2.1, 8192, .inl e9)), ((ad 1), .inl (E.2.1, 8193, .inl gx)), ((ad 2), .inl (E.2.1, 8193, .inl gy)), ((ad 3), .inl (E.2.1, 2049, .inl (upd bg k (nI at9)))), ((ad 8), .inl (E.1, 8192, .inr (.inl st.1))), ((ad 9), .inl (E.1, 8192, .inr (.inl st.2.1))), ((ad 10), .inl (E.2.2.1, 8192, .inl st.2.2.1)), ((ad 4), .inl (E.2.1, 65536, .inl st.2.2.2))]) [7, 8, 0, 1, 2, 3, 4, 5, 6] (by decide) rfl
              have hw1 : ri = b01 (mi_in (mq e9 k) (gx h) (gy h)) := hw
              refine lv_if_eq (tgt := 76) hx hb d_M_chainAll_52 (by decide) (fun d2 => ?_) (fun d2 => ?_)
              · rw [hw1] at d2
                rw [if_pos d2] at g5
                refine lv_iinc (v := nI (h + 1)) (lv' := [(4, .int (nI (h + 1))), (0, .ref h0), (1, .int (nI at9)), (2, .int (nI k)), (3, .int (nI m9))]) hx hb d_M_chainAll_76 hl (k := 4) rfl (iinc_p _) (by decide) rfl (fun ls hl => ?_)
                refine lv_goto (tgt := 24) hx hb d_M_chainAll_79 (by decide) ?_
                exact ih (h + 1) m9 st (mi_iv (mq e9 k) (gx h) (gy h)) H locs ls (by omega) (by omega) (by omega) g4 g5 g6 hP hD hS (lv_sub hl [1, 2, 3, 4, 0] rfl)
              · rw [hw1] at d2
                rw [if_neg d2] at g5
                refine lv_iload_n hx hb d_M_chainAll_55 rfl (lv_at hl 1 rfl) ?_
                refine lv_iload_n hx hb d_M_chainAll_56 rfl (lv_at hl 3 rfl) ?_
                refine lv_iadd hx hb d_M_chainAll_57 ?_
                rw [show (nI at9 + nI m9) = nI (at9 + m9) from nI_add _ _]
                refine lv_ldc hx hb hown (hG _ wd_647) d_M_chainAll_58 ?_
                refine lv_icmp_ne (tgt := 65) hx hb d_M_chainAll_60 (by decide) (fun d3 => ?_) (fun d3 => ?_)
                · have q3 : ¬ at9 + m9 = 65536 := fun z => d3 (by rw [z]; rfl)
                  dsimp only at g5
                  rw [if_neg q3] at g5
                  refine lv_aload_n hx hb d_M_chainAll_65 rfl (lv_at hl 0 rfl) ?_
                  refine lv_iload_n hx hb d_M_chainAll_66 rfl (lv_at hl 1 rfl) ?_
                  refine lv_iload_n hx hb d_M_chainAll_67 rfl (lv_at hl 3 rfl) ?_
                  refine lv_iload hx hb d_M_chainAll_68 (lv_at hl 4 rfl) ?_
                  have hPc := hP.sub (ws' := [(h0, .inr (3, mF ad th (nI n) sn (nI h9) pc cx cy ((mi_iv (mq e9 k) (gx h) (gy h)).1.1) ((mi_iv (mq e9 k) (gx h) (gy h)).1.2.1) ((mi_iv (mq e9 k) (gx h) (gy h)).2.1) ((mi_iv (mq e9 k) (gx h) (gy h)).2.2.1) ((mi_iv (mq e9 k) (gx h) (gy h)).1.2.2) ((mi_iv (mq e9 k) (gx h) (gy h)).2.2.2))), ((ad 8), .inl (E.1, 8192, .inr (.inl st.1))), ((ad 9), .inl (E.1, 8192, .inr (.inl st.2.1))), ((ad 10), .inl (E.2.2.1, 8192, .inl st.2.2.1)), ((ad 4), .inl (E.2.1, 65536, .inl st.2.2.2))]) [0, 5, 6, 7, 8] rfl
                  have hDc := hD.sub (ws' := [(h0, .inr (3, mF ad th (nI n) sn (nI h9) pc cx cy ((mi_iv (mq e9 k) (gx h) (gy h)).1.1) ((mi_iv (mq e9 k) (gx h) (gy h)).1.2.1) ((mi_iv (mq e9 k) (gx h) (gy h)).2.1) ((mi_iv (mq e9 k) (gx h) (gy h)).2.2.1) ((mi_iv (mq e9 k) (gx h) (gy h)).1.2.2) ((mi_iv (mq e9 k) (gx h) (gy h)).2.2.2))), ((ad 8), .inl (E.1, 8192, .inr (.inl st.1))), ((ad 9), .inl (E.1, 8192, .inr (.inl st.2.1))), ((ad 10), .inl (E.2.2.1, 8192, .inl st.2.2.1)), ((ad 4), .inl (E.2.1, 65536, .inl st.2.2.2))]) [0, 5, 6, 7, 8] (by decide) rfl
                  have hFc := va_free (wc := [(h0, .inr (3, mF ad th (nI n) sn (nI h9) pc cx cy ((mi_iv (mq e9 k) (gx h) (gy h)).1.1) ((mi_iv (mq e9 k) (gx h) (gy h)).1.2.1) ((mi_iv (mq e9 k) (gx h) (gy h)).2.1) ((mi_iv (mq e9 k) (gx h) (gy h)).2.2.1) ((mi_iv (mq e9 k) (gx h) (gy h)).1.2.2) ((mi_iv (mq e9 k) (gx h) (gy h)).2.2.2))), ((ad 8), .inl (E.1, 8192, .inr (.inl st.1))), ((ad 9), .inl (E.1, 8192, .inr (.inl st.2.1))), ((ad 10), .inl (E.2.2.1, 8192, .inl st.2.2.1)), ((ad 4), .inl (E.2.1, 65536, .inl st.2.2.2))]) hD hS hA [0, 5, 6, 7, 8] rfl
                  refine va_callv (va_runV (As := [.int (nI at9), .int (nI m9), .int (nI h)]) (rest := []) ⟨hx, hb, hml, hown, hts⟩ (k_M_insert l D E h0 H.size ad th (nI n) sn (nI h9) pc cx cy ((mi_iv (mq e9 k) (gx h) (gy h)).1.1) ((mi_iv (mq e9 k) (gx h) (gy h)).1.2.1) ((mi_iv (mq e9 k) (gx h) (gy h)).2.1) ((mi_iv (mq e9 k) (gx h) (gy h)).2.2.1) ((mi_iv (mq e9 k) (gx h) (gy h)).1.2.2) ((mi_iv (mq e9 k) (gx h) (gy h)).2.2.2) st.1 st.2.1 st.2.2.1 st.2.2.2 at9 m9 (nI h) (by omega) (by omega) (mi_iv_z _ _ _) g6) (cwV 3 hts (gw_gv wd_814 wd_816 wd_34 wd_42 wd_817) rfl rfl rfl (by decide +kernel) ⟨Nat.le_of_ble_eq_true rfl, Nat.le_of_ble_eq_true rfl⟩) (wP_V 0 hPc hK hDc rfl rfl) rfl rfl hl.1 rfl (lv_room (Nat.le_of_ble_eq_true rfl)) d_M_chainAll_70 ⟨Nat.le_of_ble_eq_true rfl, Nat.le_of_ble_eq_true rfl⟩) hS (fun q _ h => hFc q h) hFc (fun u9 t H1 locs ht hvm hw hB hz1 hk1 hS => ?_)
                  obtain ⟨hP1, hD1⟩ := hB
                  rw [ht] at hP1
                  obtain ⟨hP, hD⟩ := va_join (wr := [((ad 0), .inl (E.2.1, 8192, .inl e9)), ((ad 1), .inl (E.2.1, 8193, .inl gx)), ((ad 2), .inl (E.2.1, 8193, .inl gy)), ((ad 3), .inl (E.2.1, 2049, .inl (upd bg k (nI at9))))]) (w1 := [(h0, .inr (3, mF ad th (nI n) sn (nI h9) pc cx cy ((mi_iv (mq e9 k) (gx h) (gy h)).1.1) ((mi_iv (mq e9 k) (gx h) (gy h)).1.2.1) ((mi_iv (mq e9 k) (gx h) (gy h)).2.1) ((mi_iv (mq e9 k) (gx h) (gy h)).2.2.1) ((mi_iv (mq e9 k) (gx h) (gy h)).1.2.2) ((mi_iv (mq e9 k) (gx h) (gy h)).2.2.2))), ((ad 8), .inl (E.1, 8192, .inr (.inl ((ch_ins (mi_iv (mq e9 k) (gx h) (gy h)).1 at9 m9 (nI h) st).1)))), ((ad 9), .inl (E.1, 8192, .inr (.inl ((ch_ins (mi_iv (mq e9 k) (gx h) (gy h)).1 at9 m9 (nI h) st).2.1)))), ((ad 10), .inl (E.2.2.1, 8192, .inl ((ch_ins (mi_iv (mq e9 k) (gx h) (gy h)).1 at9 m9 (nI h) st).2.2.1))), ((ad 4), .inl (E.2.1, 65536, .inl ((ch_ins (mi_iv (mq e9 k) (gx h) (gy h)).1 at9 m9 (nI h) st).2.2.2)))]) hP hD [0, 5, 6, 7, 8] [1, 2, 3, 4] rfl rfl (by decide) (by decide) hk1 hFc hP1 hD1
                  generalize H1 = H at hP hS ⊢
                  have hP : va_P D vwC [((ad 0), .inl (E.2.1, 8192, .inl e9)), ((ad 1), .inl (E.2.1, 8193, .inl gx)), ((ad 2), .inl (E.2.1, 8193, .inl gy)), ((ad 3), .inl (E.2.1, 2049, .inl (upd bg k (nI at9)))), (h0, .inr (3, mF ad th (nI n) sn (nI h9) pc cx cy ((mi_iv (mq e9 k) (gx h) (gy h)).1.1) ((mi_iv (mq e9 k) (gx h) (gy h)).1.2.1) ((mi_iv (mq e9 k) (gx h) (gy h)).2.1) ((mi_iv (mq e9 k) (gx h) (gy h)).2.2.1) ((mi_iv (mq e9 k) (gx h) (gy h)).1.2.2) ((mi_iv (mq e9 k) (gx h) (gy h)).2.2.2))), ((ad 8), .inl (E.1, 8192, .inr (.inl ((ch_ins (mi_iv (mq e9 k) (gx h) (gy h)).1 at9 m9 (nI h) st).1)))), ((ad 9), .inl (E.1, 8192, .inr (.inl ((ch_ins (mi_iv (mq e9 k) (gx h) (gy h)).1 at9 m9 (nI h) st).2.1)))), ((ad 10), .inl (E.2.2.1, 8192, .inl ((ch_ins (mi_iv (mq e9 k) (gx h) (gy h)).1 at9 m9 (nI h) st).2.2.1))), ((ad 4), .inl (E.2.1, 65536, .inl ((ch_ins (mi_iv (mq e9 k) (gx h) (gy h)).1 at9 m9 (nI h) st).2.2.2)))] H := hP
                  have hD : va_D A [((ad 0), .inl (E.2.1, 8192, .inl e9)), ((ad 1), .inl (E.2.1, 8193, .inl gx)), ((ad 2), .inl (E.2.1, 8193, .inl gy)), ((ad 3), .inl (E.2.1, 2049, .inl (upd bg k (nI at9)))), (h0, .inr (3, mF ad th (nI n) sn (nI h9) pc cx cy ((mi_iv (mq e9 k) (gx h) (gy h)).1.1) ((mi_iv (mq e9 k) (gx h) (gy h)).1.2.1) ((mi_iv (mq e9 k) (gx h) (gy h)).2.1) ((mi_iv (mq e9 k) (gx h) (gy h)).2.2.1) ((mi_iv (mq e9 k) (gx h) (gy h)).1.2.2) ((mi_iv (mq e9 k) (gx h) (gy h)).2.2.2))), ((ad 8), .inl (E.1, 8192, .inr (.inl ((ch_ins (mi_iv (mq e9 k) (gx h) (gy h)).1 at9 m9 (nI h) st).1)))), ((ad 9), .inl (E.1, 8192, .inr (.inl ((ch_ins (mi_iv (mq e9 k) (gx h) (gy h)).1 at9 m9 (nI h) st).2.1)))), ((ad 10), .inl (E.2.2.1, 8192, .inl ((ch_ins (mi_iv (mq e9 k) (gx h) (gy h)).1 at9 m9 (nI h) st).2.2.1))), ((ad 4), .inl (E.2.1, 65536, .inl ((ch_ins (mi_iv (mq e9 k) (gx h) (gy h)).1 at9 m9 (nI h) st).2.2.2)))] := hD
                  have hP := hP.sub (ws' := [(h0, .inr (3, mF ad th (nI n) sn (nI h9) pc cx cy ((mi_iv (mq e9 k) (gx h) (gy h)).1.1) ((mi_iv (mq e9 k) (gx h) (gy h)).1.2.1) ((mi_iv (mq e9 k) (gx h) (gy h)).2.1) ((mi_iv (mq e9 k) (gx h) (gy h)).2.2.1) ((mi_iv (mq e9 k) (gx h) (gy h)).1.2.2) ((mi_iv (mq e9 k) (gx h) (gy h)).2.2.2))), ((ad 0), .inl (E.2.1, 8192, .inl e9)), ((ad 1), .inl (E.2.1, 8193, .inl gx)), ((ad 2), .inl (E.2.1, 8193, .inl gy)), ((ad 3), .inl (E.2.1, 2049, .inl (upd bg k (nI at9)))), ((ad 8), .inl (E.1, 8192, .inr (.inl ((ch_ins (mi_iv (mq e9 k) (gx h) (gy h)).1 at9 m9 (nI h) st).1)))), ((ad 9), .inl (E.1, 8192, .inr (.inl ((ch_ins (mi_iv (mq e9 k) (gx h) (gy h)).1 at9 m9 (nI h) st).2.1)))), ((ad 10), .inl (E.2.2.1, 8192, .inl ((ch_ins (mi_iv (mq e9 k) (gx h) (gy h)).1 at9 m9 (nI h) st).2.2.1))), ((ad 4), .inl (E.2.1, 65536, .inl ((ch_ins (mi_iv (mq e9 k) (gx h) (gy h)).1 at9 m9 (nI h) st).2.2.2)))]) [4, 0, 1, 2, 3, 5, 6, 7, 8] rfl
                  have hD := hD.sub (ws' := [(h0, .inr (3, mF ad th (nI n) sn (nI h9) pc cx cy ((mi_iv (mq e9 k) (gx h) (gy h)).1.1) ((mi_iv (mq e9 k) (gx h) (gy h)).1.2.1) ((mi_iv (mq e9 k) (gx h) (gy h)).2.1) ((mi_iv (mq e9 k) (gx h) (gy h)).2.2.1) ((mi_iv (mq e9 k) (gx h) (gy h)).1.2.2) ((mi_iv (mq e9 k) (gx h) (gy h)).2.2.2))), ((ad 0), .inl (E.2.1, 8192, .inl e9)), ((ad 1), .inl (E.2.1, 8193, .inl gx)), ((ad 2), .inl (E.2.1, 8193, .inl gy)), ((ad 3), .inl (E.2.1, 2049, .inl (upd bg k (nI at9)))), ((ad 8), .inl (E.1, 8192, .inr (.inl ((ch_ins (mi_iv (mq e9 k) (gx h) (gy h)).1 at9 m9 (nI h) st).1)))), ((ad 9), .inl (E.1, 8192, .inr (.inl ((ch_ins (mi_iv (mq e9 k) (gx h) (gy h)).1 at9 m9 (nI h) st).2.1)))), ((ad 10), .inl (E.2.2.1, 8192, .inl ((ch_ins (mi_iv (mq e9 k) (gx h) (gy h)).1 at9 m9 (nI h) st).2.2.1))), ((ad 4), .inl (E.2.1, 65536, .inl ((ch_ins (mi_iv (mq e9 k) (gx h) (gy h)).1 at9 m9 (nI h) st).2.2.2)))]) [4, 0, 1, 2, 3, 5, 6, 7, 8] (by decide) rfl
                  refine lv_iinc (v := nI (m9 + 1)) (lv' := [(3, .int (nI (m9 + 1))), (0, .ref h0), (1, .int (nI at9)), (2, .int (nI k)), (4, .int (nI h))]) hx hb d_M_chainAll_73 hl (k := 3) rfl (iinc_p _) (by decide) rfl (fun ls hl => ?_)
                  refine lv_iinc (v := nI (h + 1)) (lv' := [(4, .int (nI (h + 1))), (3, .int (nI (m9 + 1))), (0, .ref h0), (1, .int (nI at9)), (2, .int (nI k))]) hx hb d_M_chainAll_76 hl (k := 4) rfl (iinc_p _) (by decide) rfl (fun ls hl => ?_)
                  refine lv_goto (tgt := 24) hx hb d_M_chainAll_79 (by decide) ?_
                  exact ih (h + 1) (m9 + 1) (ch_ins (mi_iv (mq e9 k) (gx h) (gy h)).1 at9 m9 (nI h) st) (mi_iv (mq e9 k) (gx h) (gy h)) H locs ls (by omega) (by omega) (by omega) (by omega) g5 (ch_ins_z g6 (mi_iv_z _ _ _)) hP hD hS (lv_sub hl [2, 3, 4, 1, 0] rfl)
                · have q3 : at9 + m9 = 65536 := (nI_eq (b := 65536) (by omega) (by omega)).mp d3
                  dsimp only at g5
                  rw [if_pos q3] at g5
                  rw [← g5] at h4
                  dsimp only at h4
                  refine lv_iconst (v := 0) hx hb d_M_chainAll_63 (by decide) ?_
                  exact W.zret (v := 0) (ty := .boolean) hx hb hrt rfl (fun t ht hW => ⟨⟨0, ((mi_iv (mq e9 k) (gx h) (gy h)), (upd bg k (nI at9)), st), rfl, ⟨rfl, g6⟩, ⟨by rw [ht]; exact hP, hD⟩⟩, hS.F ht⟩) hS.2.2 d_M_chainAll_64 hlocks
        exact inner (h9 + 1) 0 0 st iv H locs ls (by omega) (by omega) (by omega) (by omega) hX.symm h5 hP hD hS (lv_sub hl [2, 3, 4, 1, 0] rfl)
  exact outer (n + 1) 0 0 bg st0 iv _ _ ls (by omega) (by omega) (by omega) hR hz hP hD hS (lv_sub hl [2, 1, 0] rfl)
end
