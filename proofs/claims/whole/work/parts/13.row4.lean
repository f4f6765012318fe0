theorem d_R_keepDistinct_0 : decode c_R_keepDistinct 0 = .ok (.iconst 0, 1) := by decide +kernel
theorem d_R_keepDistinct_1 : decode c_R_keepDistinct 1 = .ok (.istore_n 1, 1) := by decide +kernel
theorem d_R_keepDistinct_2 : decode c_R_keepDistinct 2 = .ok (.iconst 0, 1) := by decide +kernel
theorem d_R_keepDistinct_3 : decode c_R_keepDistinct 3 = .ok (.istore_n 2, 1) := by decide +kernel
theorem d_R_keepDistinct_4 : decode c_R_keepDistinct 4 = .ok (.iload_n 2, 1) := by decide +kernel
theorem d_R_keepDistinct_5 : decode c_R_keepDistinct 5 = .ok (.aload_n 0, 1) := by decide +kernel
theorem d_R_keepDistinct_6 : decode c_R_keepDistinct 6 = .ok (.getfield 19, 3) := by decide +kernel
theorem d_R_keepDistinct_9 : decode c_R_keepDistinct 9 = .ok (.if_icmp .ge 46, 3) := by decide +kernel
theorem d_R_keepDistinct_12 : decode c_R_keepDistinct 12 = .ok (.iload_n 1, 1) := by decide +kernel
theorem d_R_keepDistinct_13 : decode c_R_keepDistinct 13 = .ok (.ifCond .eq 21, 3) := by decide +kernel
theorem d_R_keepDistinct_16 : decode c_R_keepDistinct 16 = .ok (.aload_n 0, 1) := by decide +kernel
theorem d_R_keepDistinct_17 : decode c_R_keepDistinct 17 = .ok (.getfield 15, 3) := by decide +kernel
theorem d_R_keepDistinct_20 : decode c_R_keepDistinct 20 = .ok (.iload_n 2, 1) := by decide +kernel
theorem d_R_keepDistinct_21 : decode c_R_keepDistinct 21 = .ok (.laload, 1) := by decide +kernel
theorem d_R_keepDistinct_22 : decode c_R_keepDistinct 22 = .ok (.aload_n 0, 1) := by decide +kernel
theorem d_R_keepDistinct_23 : decode c_R_keepDistinct 23 = .ok (.getfield 15, 3) := by decide +kernel
theorem d_R_keepDistinct_26 : decode c_R_keepDistinct 26 = .ok (.iload_n 1, 1) := by decide +kernel
theorem d_R_keepDistinct_27 : decode c_R_keepDistinct 27 = .ok (.iconst 1, 1) := by decide +kernel
theorem d_R_keepDistinct_28 : decode c_R_keepDistinct 28 = .ok (.isub, 1) := by decide +kernel
theorem d_R_keepDistinct_29 : decode c_R_keepDistinct 29 = .ok (.laload, 1) := by decide +kernel
theorem d_R_keepDistinct_30 : decode c_R_keepDistinct 30 = .ok (.lcmp, 1) := by decide +kernel
theorem d_R_keepDistinct_31 : decode c_R_keepDistinct 31 = .ok (.ifCond .eq 18, 3) := by decide +kernel
theorem d_R_keepDistinct_34 : decode c_R_keepDistinct 34 = .ok (.aload_n 0, 1) := by decide +kernel
theorem d_R_keepDistinct_35 : decode c_R_keepDistinct 35 = .ok (.getfield 15, 3) := by decide +kernel
theorem d_R_keepDistinct_38 : decode c_R_keepDistinct 38 = .ok (.iload_n 1, 1) := by decide +kernel
theorem d_R_keepDistinct_39 : decode c_R_keepDistinct 39 = .ok (.aload_n 0, 1) := by decide +kernel
theorem d_R_keepDistinct_40 : decode c_R_keepDistinct 40 = .ok (.getfield 15, 3) := by decide +kernel
theorem d_R_keepDistinct_43 : decode c_R_keepDistinct 43 = .ok (.iload_n 2, 1) := by decide +kernel
theorem d_R_keepDistinct_44 : decode c_R_keepDistinct 44 = .ok (.laload, 1) := by decide +kernel
theorem d_R_keepDistinct_45 : decode c_R_keepDistinct 45 = .ok (.lastore, 1) := by decide +kernel
theorem d_R_keepDistinct_46 : decode c_R_keepDistinct 46 = .ok (.iinc 1 1, 3) := by decide +kernel
theorem d_R_keepDistinct_49 : decode c_R_keepDistinct 49 = .ok (.iinc 2 1, 3) := by decide +kernel
theorem d_R_keepDistinct_52 : decode c_R_keepDistinct 52 = .ok (.goto (-48), 3) := by decide +kernel
theorem d_R_keepDistinct_55 : decode c_R_keepDistinct 55 = .ok (.aload_n 0, 1) := by decide +kernel
theorem d_R_keepDistinct_56 : decode c_R_keepDistinct 56 = .ok (.iload_n 1, 1) := by decide +kernel
theorem d_R_keepDistinct_57 : decode c_R_keepDistinct 57 = .ok (.putfield 19, 3) := by decide +kernel
theorem d_R_keepDistinct_60 : decode c_R_keepDistinct 60 = .ok (.return_, 1) := by decide +kernel
theorem d_R_sort_0 : decode c_R_sort 0 = .ok (.aload_n 0, 1) := by decide +kernel
theorem d_R_sort_1 : decode c_R_sort 1 = .ok (.getfield 19, 3) := by decide +kernel
theorem d_R_sort_4 : decode c_R_sort 4 = .ok (.iconst 2, 1) := by decide +kernel
theorem d_R_sort_5 : decode c_R_sort 5 = .ok (.idiv, 1) := by decide +kernel
theorem d_R_sort_6 : decode c_R_sort 6 = .ok (.iconst 1, 1) := by decide +kernel
theorem d_R_sort_7 : decode c_R_sort 7 = .ok (.isub, 1) := by decide +kernel
theorem d_R_sort_8 : decode c_R_sort 8 = .ok (.istore_n 1, 1) := by decide +kernel
theorem d_R_sort_9 : decode c_R_sort 9 = .ok (.iload_n 1, 1) := by decide +kernel
theorem d_R_sort_10 : decode c_R_sort 10 = .ok (.ifCond .lt 24, 3) := by decide +kernel
theorem d_R_sort_13 : decode c_R_sort 13 = .ok (.aload_n 0, 1) := by decide +kernel
theorem d_R_sort_14 : decode c_R_sort 14 = .ok (.aload_n 0, 1) := by decide +kernel
theorem d_R_sort_15 : decode c_R_sort 15 = .ok (.getfield 15, 3) := by decide +kernel
theorem d_R_sort_18 : decode c_R_sort 18 = .ok (.iload_n 1, 1) := by decide +kernel
theorem d_R_sort_19 : decode c_R_sort 19 = .ok (.laload, 1) := by decide +kernel
theorem d_R_sort_20 : decode c_R_sort 20 = .ok (.iload_n 1, 1) := by decide +kernel
theorem d_R_sort_21 : decode c_R_sort 21 = .ok (.aload_n 0, 1) := by decide +kernel
theorem d_R_sort_22 : decode c_R_sort 22 = .ok (.getfield 19, 3) := by decide +kernel
theorem d_R_sort_25 : decode c_R_sort 25 = .ok (.invokevirtual 44, 3) := by decide +kernel
theorem d_R_sort_28 : decode c_R_sort 28 = .ok (.iinc 1 (-1), 3) := by decide +kernel
theorem d_R_sort_31 : decode c_R_sort 31 = .ok (.goto (-22), 3) := by decide +kernel
theorem d_R_sort_34 : decode c_R_sort 34 = .ok (.aload_n 0, 1) := by decide +kernel
theorem d_R_sort_35 : decode c_R_sort 35 = .ok (.getfield 19, 3) := by decide +kernel
theorem d_R_sort_38 : decode c_R_sort 38 = .ok (.iconst 1, 1) := by decide +kernel
theorem d_R_sort_39 : decode c_R_sort 39 = .ok (.isub, 1) := by decide +kernel
theorem d_R_sort_40 : decode c_R_sort 40 = .ok (.istore_n 1, 1) := by decide +kernel
theorem d_R_sort_41 : decode c_R_sort 41 = .ok (.iload_n 1, 1) := by decide +kernel
theorem d_R_sort_42 : decode c_R_sort 42 = .ok (.ifCond .le 35, 3) := by decide +kernel
theorem d_R_sort_45 : decode c_R_sort 45 = .ok (.aload_n 0, 1) := by decide +kernel
theorem d_R_sort_46 : decode c_R_sort 46 = .ok (.getfield 15, 3) := by decide +kernel
theorem d_R_sort_49 : decode c_R_sort 49 = .ok (.iload_n 1, 1) := by decide +kernel
theorem d_R_sort_50 : decode c_R_sort 50 = .ok (.laload, 1) := by decide +kernel
theorem d_R_sort_51 : decode c_R_sort 51 = .ok (.lstore_n 2, 1) := by decide +kernel
theorem d_R_sort_52 : decode c_R_sort 52 = .ok (.aload_n 0, 1) := by decide +kernel
theorem d_R_sort_53 : decode c_R_sort 53 = .ok (.getfield 15, 3) := by decide +kernel
theorem d_R_sort_56 : decode c_R_sort 56 = .ok (.iload_n 1, 1) := by decide +kernel
theorem d_R_sort_57 : decode c_R_sort 57 = .ok (.aload_n 0, 1) := by decide +kernel
theorem d_R_sort_58 : decode c_R_sort 58 = .ok (.getfield 15, 3) := by decide +kernel
theorem d_R_sort_61 : decode c_R_sort 61 = .ok (.iconst 0, 1) := by decide +kernel
theorem d_R_sort_62 : decode c_R_sort 62 = .ok (.laload, 1) := by decide +kernel
theorem d_R_sort_63 : decode c_R_sort 63 = .ok (.lastore, 1) := by decide +kernel
theorem d_R_sort_64 : decode c_R_sort 64 = .ok (.aload_n 0, 1) := by decide +kernel
theorem d_R_sort_65 : decode c_R_sort 65 = .ok (.lload_n 2, 1) := by decide +kernel
theorem d_R_sort_66 : decode c_R_sort 66 = .ok (.iconst 0, 1) := by decide +kernel
theorem d_R_sort_67 : decode c_R_sort 67 = .ok (.iload_n 1, 1) := by decide +kernel
theorem d_R_sort_68 : decode c_R_sort 68 = .ok (.invokevirtual 44, 3) := by decide +kernel
theorem d_R_sort_71 : decode c_R_sort 71 = .ok (.iinc 1 (-1), 3) := by decide +kernel
theorem d_R_sort_74 : decode c_R_sort 74 = .ok (.goto (-33), 3) := by decide +kernel
theorem d_R_sort_77 : decode c_R_sort 77 = .ok (.return_, 1) := by decide +kernel
set_option maxHeartbeats 4000000 in
set_option maxRecDepth 100000 in
theorem k_R_sort (l : Launch) (D : va_G) (E : ClassId × ClassId × ClassId × ClassId) (h0 a sz : Nat) (most : Int32) (z n : Nat) (f : Nat → Int64) (hz : z ≤ n) (hn : n < 2 ^ 29) : Met l y_R_sort (.code y_R_sort c_R_sort 4 none :: gw) ({ frames := 1, cells := 0, slots := 0, locals := 26 } : Room) (wP D E [(h0, .inr (0, [.int most, .ref a, .int (nI z)])), (a, .inl (E.1, n, .inr (.inl f)))] sz [.ref h0]) (va_Qv (fun (u : Unit) => True) (wB D (fun _ => [(h0, .inr (0, [.int most, .ref a, .int (nI z)])), (a, .inl (E.1, n, .inr (.inl (ps_sort z f))))]) (va_A [(h0, .inr (0, [.int most, .ref a, .int (nI z)])), (a, .inl (E.1, n, .inr (.inl f)))] sz)) (va_A [(h0, .inr (0, [.int most, .ref a, .int (nI z)])), (a, .inl (E.1, n, .inr (.inl f)))] sz)) 0 0 (va_A [(h0, .inr (0, [.int most, .ref a, .int (nI z)])), (a, .inl (E.1, n, .inr (.inl f)))] sz) := by
  refine wr_ofW (Qc := fun A => (va_Qv (fun (u : Unit) => True) (wB D (fun _ => [(h0, .inr (0, [.int most, .ref a, .int (nI z)])), (a, .inl (E.1, n, .inr (.inl (ps_sort z f))))]) A) A)) (by decide) (Nat.le_of_ble_eq_true rfl) ?_
  intro p e s m below meth c B hP hK A hA hD hS ls hl
  obtain ⟨hx, hb, hrt, hml, hown, hts, hG, hlocks, hin⟩ := B
  have hl : lv_has ls 4 [(0, .ref h0)] := hl
  refine lv_aload_n hx hb d_R_sort_0 rfl (lv_at hl 0 rfl) ?_
  refine va_get (D := D) (ci := 0) (v := .int (nI z)) (C := K_R) (T := F_R) (N := 3) hx hb hG in_R hown hK.1 hP 0 rfl rfl 2 (by decide) (hG _ wd_99) (fun _ h9 => h9) rfl d_R_sort_1 ?_
  refine lv_iconst (v := 2) hx hb d_R_sort_4 (by decide) ?_
  refine lv_idiv hx hb d_R_sort_5 (by decide) ?_
  rw [show (nI z / 2) = nI (z / 2) from pk_div (d := 2) (by omega) (by decide) (by decide)]
  refine lv_iconst (v := 1) hx hb d_R_sort_6 (by decide) ?_
  refine lv_isub hx hb d_R_sort_7 ?_
  refine lv_istore_n (lv' := [(1, .int (nI (z / 2) - 1)), (0, .ref h0)]) hx hb d_R_sort_8 rfl hl (by decide) rfl (fun ls hl => ?_)
  have drain : ∀ (fu : Nat) (ee : Nat) (y : Int32) (g : Nat → Int64) (H : Heap) (locs : List Loc) (ls : Array Slot), (ee ≤ z) → (y.toInt = (ee : Int) - 1) → (ee < fu) → (ps_drain (ee - 1) g = ps_sort z f) → va_P D vwC [(h0, .inr (0, [.int most, .ref a, .int (nI z)])), (a, .inl (E.1, n, .inr (.inl g)))] H → va_D A [(h0, .inr (0, [.int most, .ref a, .int (nI z)])), (a, .inl (E.1, n, .inr (.inl g)))] → va_S A s.heap H locs → lv_has ls 4 [(0, .ref h0), (1, .int y)] → W p l e ({ frames := 1, cells := 0, slots := 0, locals := 26 } : Room) s m ([.ref h0] : List Value).toArray below meth c H locs 0 0 (MQ below (va_Qv (fun (u : Unit) => True) (wB D (fun _ => [(h0, .inr (0, [.int most, .ref a, .int (nI z)])), (a, .inl (E.1, n, .inr (.inl (ps_sort z f))))]) A) A) ([.ref h0] : List Value).toArray s 0 0 A) (F0 m 41 ls []) := by
    intro fu
    induction fu with
    | zero =>
      intro ee y g H locs ls h1 h2 h3 h4 hP hD hS hl
      omega
    | succ fu ih =>
      intro ee y g H locs ls h1 h2 h3 h4 hP hD hS hl
      refine lv_iload_n hx hb d_R_sort_41 rfl (lv_at hl 1 rfl) ?_
      refine lv_if_le (tgt := 77) hx hb d_R_sort_42 (by decide) (fun c1 => ?_) (fun c1 => ?_)
      · have q : ee ≤ 1 := by rw [Int32.le_iff_toInt_le, h2, show (0 : Int32).toInt = 0 from rfl] at c1; omega
        rw [show ee - 1 = 0 by omega] at h4
        have h4 : g = ps_sort z f := h4
        rw [h4] at hP hD
        exact W.vret hx hb hrt (fun t ht hW => ⟨⟨(), rfl, trivial, ⟨by rw [ht]; exact hP, hD⟩⟩, hS.F ht⟩) hS.2.2 d_R_sort_77 hlocks
      · have q : 1 < ee := by rw [Int32.le_iff_toInt_le, h2, show (0 : Int32).toInt = 0 from rfl] at c1; omega
        obtain ⟨d, rfl⟩ : ∃ d, ee = d + 2 := ⟨ee - 2, by omega⟩
        obtain rfl : y = nI (d + 1) := nI_toI (by omega)
        refine lv_aload_n hx hb d_R_sort_45 rfl (lv_at hl 0 rfl) ?_
        refine va_get (D := D) (ci := 0) (v := .ref a) (C := K_R) (T := F_R) (N := 3) hx hb hG in_R hown hK.1 hP 0 rfl rfl 1 (by decide) (hG _ wd_98) (fun _ h9 => h9) rfl d_R_sort_46 ?_
        refine lv_iload_n hx hb d_R_sort_49 rfl (lv_at hl 1 rfl) ?_
        refine va_lald hx hb hK.1 hP 1 0 rfl rfl (vp_in_nI (by omega) (by omega)) d_R_sort_50 ?_
        rw [show g (Int32.toNatClampNeg (nI (d + 1))) = g (d + 1) from by rw [nI_clamp (by omega)]]
        refine lv_lstore_n (lv' := [(2, .long (g (d + 1))), (0, .ref h0), (1, .int (nI (d + 1)))]) hx hb d_R_sort_51 rfl hl (by decide) rfl (fun ls hl => ?_)
        refine lv_aload_n hx hb d_R_sort_52 rfl (lv_at hl 1 rfl) ?_
        refine va_get (D := D) (ci := 0) (v := .ref a) (C := K_R) (T := F_R) (N := 3) hx hb hG in_R hown hK.1 hP 0 rfl rfl 1 (by decide) (hG _ wd_98) (fun _ h9 => h9) rfl d_R_sort_53 ?_
        refine lv_iload_n hx hb d_R_sort_56 rfl (lv_at hl 2 rfl) ?_
        refine lv_aload_n hx hb d_R_sort_57 rfl (lv_at hl 1 rfl) ?_
        refine va_get (D := D) (ci := 0) (v := .ref a) (C := K_R) (T := F_R) (N := 3) hx hb hG in_R hown hK.1 hP 0 rfl rfl 1 (by decide) (hG _ wd_98) (fun _ h9 => h9) rfl d_R_sort_58 ?_
        refine lv_iconst (v := 0) hx hb d_R_sort_61 (by decide) ?_
        refine va_lald hx hb hK.1 hP 1 0 rfl rfl (vp_in_nI (n := 0) (by omega) (by omega)) d_R_sort_62 ?_
        rw [show g (Int32.toNatClampNeg 0) = g 0 from rfl]
        refine va_last hx hb hK.1 hP hD hS 1 0 rfl rfl (vp_in_nI (by omega) (by omega)) d_R_sort_63 (fun H locs hP hD hS => ?_)
        rw [show vp_updL g (Int32.toNatClampNeg (nI (d + 1))) (g 0) = (vp_updL g (d + 1) (g 0)) from by rw [nI_clamp (by omega)]] at hP hD
        have hP : va_P D vwC [(h0, .inr (0, [.int most, .ref a, .int (nI z)])), (a, .inl (E.1, n, .inr (.inl (vp_updL g (d + 1) (g 0)))))] H := hP
        have hD : va_D A [(h0, .inr (0, [.int most, .ref a, .int (nI z)])), (a, .inl (E.1, n, .inr (.inl (vp_updL g (d + 1) (g 0)))))] := hD
        refine lv_aload_n hx hb d_R_sort_64 rfl (lv_at hl 1 rfl) ?_
        refine lv_lload_n hx hb d_R_sort_65 rfl (lv_at hl 0 rfl) ?_
        refine lv_iconst (v := 0) hx hb d_R_sort_66 (by decide) ?_
        refine lv_iload_n hx hb d_R_sort_67 rfl (lv_at hl 2 rfl) ?_
        have hPc := hP.sub (ws' := [(h0, .inr (0, [.int most, .ref a, .int (nI z)])), (a, .inl (E.1, n, .inr (.inl (vp_updL g (d + 1) (g 0)))))]) [0, 1] rfl
        have hDc := hD.sub (ws' := [(h0, .inr (0, [.int most, .ref a, .int (nI z)])), (a, .inl (E.1, n, .inr (.inl (vp_updL g (d + 1) (g 0)))))]) [0, 1] (by decide) rfl
        have hFc := va_free (wc := [(h0, .inr (0, [.int most, .ref a, .int (nI z)])), (a, .inl (E.1, n, .inr (.inl (vp_updL g (d + 1) (g 0)))))]) hD hS hA [0, 1] rfl
        refine va_callv (va_runV (As := [.long (g (d + 1)), .int 0, .int (nI (d + 1))]) (rest := []) ⟨hx, hb, hml, hown, hts⟩ (k_R_sink l D E h0 a H.size most (nI z) (g (d + 1)) n 0 (d + 1) (vp_updL g (d + 1) (g 0)) hn (by omega) (by omega)) (cwV 3 hts (gw_gv wd_407 wd_409 wd_8 wd_41 wd_410) rfl rfl rfl (by decide +kernel) ⟨Nat.le_of_ble_eq_true rfl, Nat.le_of_ble_eq_true rfl⟩) (wP_V 0 hPc hK hDc rfl rfl) rfl rfl hl.1 rfl (lv_room (Nat.le_of_ble_eq_true rfl)) d_R_sort_68 ⟨Nat.le_of_ble_eq_true rfl, Nat.le_of_ble_eq_true rfl⟩) hS (fun q _ h => hFc q h) hFc (fun u t H1 locs ht hvm hw hB hz1 hk1 hS => ?_)
        obtain ⟨hP1, hD1⟩ := hB
        rw [ht] at hP1
        obtain ⟨hP, hD⟩ := va_join (wr := []) (w1 := [(h0, .inr (0, [.int most, .ref a, .int (nI z)])), (a, .inl (E.1, n, .inr (.inl (ps_sink (g (d + 1)) (d + 1) (d + 1) (vp_updL g (d + 1) (g 0)) 0))))]) hP hD [0, 1] [] rfl rfl (by decide) (by decide) hk1 hFc hP1 hD1
        generalize H1 = H at hP hS ⊢
        have hP : va_P D vwC [(h0, .inr (0, [.int most, .ref a, .int (nI z)])), (a, .inl (E.1, n, .inr (.inl (ps_sink (g (d + 1)) (d + 1) (d + 1) (vp_updL g (d + 1) (g 0)) 0))))] H := hP
        have hD : va_D A [(h0, .inr (0, [.int most, .ref a, .int (nI z)])), (a, .inl (E.1, n, .inr (.inl (ps_sink (g (d + 1)) (d + 1) (d + 1) (vp_updL g (d + 1) (g 0)) 0))))] := hD
        obtain ⟨y2, hy2⟩ : ∃ y2, y2 = nI (d + 1) + Int32.ofInt (-1) := ⟨_, rfl⟩
        refine lv_iinc (v := y2) (lv' := [(1, .int y2), (2, .long (g (d + 1))), (0, .ref h0)]) hx hb d_R_sort_71 hl (k := 2) rfl hy2.symm (by decide) rfl (fun ls hl => ?_)
        refine lv_goto (tgt := 41) hx hb d_R_sort_74 (by decide) ?_
        exact ih (d + 1) y2 _ H locs ls (by omega) (by rw [hy2, iinc_toI (by omega)]) (by omega) h4 hP hD hS (lv_sub hl [2, 0] rfl)
  have loop : ∀ (fu : Nat) (r : Nat) (y : Int32) (g : Nat → Int64) (H : Heap) (locs : List Loc) (ls : Array Slot), (r ≤ z / 2) → (y.toInt = (r : Int) - 1) → (r < fu) → (ps_heap z r g = ps_heap z (z / 2) f) → va_P D vwC [(h0, .inr (0, [.int most, .ref a, .int (nI z)])), (a, .inl (E.1, n, .inr (.inl g)))] H → va_D A [(h0, .inr (0, [.int most, .ref a, .int (nI z)])), (a, .inl (E.1, n, .inr (.inl g)))] → va_S A s.heap H locs → lv_has ls 4 [(0, .ref h0), (1, .int y)] → W p l e ({ frames := 1, cells := 0, slots := 0, locals := 26 } : Room) s m ([.ref h0] : List Value).toArray below meth c H locs 0 0 (MQ below (va_Qv (fun (u : Unit) => True) (wB D (fun _ => [(h0, .inr (0, [.int most, .ref a, .int (nI z)])), (a, .inl (E.1, n, .inr (.inl (ps_sort z f))))]) A) A) ([.ref h0] : List Value).toArray s 0 0 A) (F0 m 9 ls []) := by
    intro fu
    induction fu with
    | zero =>
      intro r y g H locs ls h1 h2 h3 h4 hP hD hS hl
      omega
    | succ fu ih =>
      intro r y g H locs ls h1 h2 h3 h4 hP hD hS hl
      refine lv_iload_n hx hb d_R_sort_9 rfl (lv_at hl 1 rfl) ?_
      refine lv_if_lt (tgt := 34) hx hb d_R_sort_10 (by decide) (fun c1 => ?_) (fun c1 => ?_)
      · have q : r = 0 := by rw [Int32.lt_iff_toInt_lt, h2, show (0 : Int32).toInt = 0 from rfl] at c1; omega
        subst q
        have h4 : g = ps_heap z (z / 2) f := h4
        refine lv_aload_n hx hb d_R_sort_34 rfl (lv_at hl 0 rfl) ?_
        refine va_get (D := D) (ci := 0) (v := .int (nI z)) (C := K_R) (T := F_R) (N := 3) hx hb hG in_R hown hK.1 hP 0 rfl rfl 2 (by decide) (hG _ wd_99) (fun _ h9 => h9) rfl d_R_sort_35 ?_
        refine lv_iconst (v := 1) hx hb d_R_sort_38 (by decide) ?_
        refine lv_isub hx hb d_R_sort_39 ?_
        refine lv_istore_n (lv' := [(1, .int (nI z - 1)), (0, .ref h0)]) hx hb d_R_sort_40 rfl hl (by decide) rfl (fun ls hl => ?_)
        exact drain (z + 1) z _ g H locs ls (Nat.le_refl _) (dec_toI (by omega)) (by omega) (by rw [h4]; rfl) hP hD hS (lv_sub hl [1, 0] rfl)
      · have q : 0 < r := by rw [Int32.lt_iff_toInt_lt, h2, show (0 : Int32).toInt = 0 from rfl] at c1; omega
        obtain ⟨d, rfl⟩ : ∃ d, r = d + 1 := ⟨r - 1, by omega⟩
        obtain rfl : y = nI d := nI_toI (by omega)
        refine lv_aload_n hx hb d_R_sort_13 rfl (lv_at hl 0 rfl) ?_
        refine lv_aload_n hx hb d_R_sort_14 rfl (lv_at hl 0 rfl) ?_
        refine va_get (D := D) (ci := 0) (v := .ref a) (C := K_R) (T := F_R) (N := 3) hx hb hG in_R hown hK.1 hP 0 rfl rfl 1 (by decide) (hG _ wd_98) (fun _ h9 => h9) rfl d_R_sort_15 ?_
        refine lv_iload_n hx hb d_R_sort_18 rfl (lv_at hl 1 rfl) ?_
        refine va_lald hx hb hK.1 hP 1 0 rfl rfl (vp_in_nI (by omega) (by omega)) d_R_sort_19 ?_
        rw [show g (Int32.toNatClampNeg (nI d)) = g d from by rw [nI_clamp (by omega)]]
        refine lv_iload_n hx hb d_R_sort_20 rfl (lv_at hl 1 rfl) ?_
        refine lv_aload_n hx hb d_R_sort_21 rfl (lv_at hl 0 rfl) ?_
        refine va_get (D := D) (ci := 0) (v := .int (nI z)) (C := K_R) (T := F_R) (N := 3) hx hb hG in_R hown hK.1 hP 0 rfl rfl 2 (by decide) (hG _ wd_99) (fun _ h9 => h9) rfl d_R_sort_22 ?_
        have hPc := hP.sub (ws' := [(h0, .inr (0, [.int most, .ref a, .int (nI z)])), (a, .inl (E.1, n, .inr (.inl g)))]) [0, 1] rfl
        have hDc := hD.sub (ws' := [(h0, .inr (0, [.int most, .ref a, .int (nI z)])), (a, .inl (E.1, n, .inr (.inl g)))]) [0, 1] (by decide) rfl
        have hFc := va_free (wc := [(h0, .inr (0, [.int most, .ref a, .int (nI z)])), (a, .inl (E.1, n, .inr (.inl g)))]) hD hS hA [0, 1] rfl
        refine va_callv (va_runV (As := [.long (g d), .int (nI d), .int (nI z)]) (rest := []) ⟨hx, hb, hml, hown, hts⟩ (k_R_sink l D E h0 a H.size most (nI z) (g d) n d z g hn hz (by omega)) (cwV 3 hts (gw_gv wd_407 wd_409 wd_8 wd_41 wd_410) rfl rfl rfl (by decide +kernel) ⟨Nat.le_of_ble_eq_true rfl, Nat.le_of_ble_eq_true rfl⟩) (wP_V 0 hPc hK hDc rfl rfl) rfl rfl hl.1 rfl (lv_room (Nat.le_of_ble_eq_true rfl)) d_R_sort_25 ⟨Nat.le_of_ble_eq_true rfl, Nat.le_of_ble_eq_true rfl⟩) hS (fun q _ h => hFc q h) hFc (fun u t H1 locs ht hvm hw hB hz1 hk1 hS => ?_)
        obtain ⟨hP1, hD1⟩ := hB
        rw [ht] at hP1
        obtain ⟨hP, hD⟩ := va_join (wr := []) (w1 := [(h0, .inr (0, [.int most, .ref a, .int (nI z)])), (a, .inl (E.1, n, .inr (.inl (ps_sink (g d) z z g d))))]) hP hD [0, 1] [] rfl rfl (by decide) (by decide) hk1 hFc hP1 hD1
        generalize H1 = H at hP hS ⊢
        have hP : va_P D vwC [(h0, .inr (0, [.int most, .ref a, .int (nI z)])), (a, .inl (E.1, n, .inr (.inl (ps_sink (g d) z z g d))))] H := hP
        have hD : va_D A [(h0, .inr (0, [.int most, .ref a, .int (nI z)])), (a, .inl (E.1, n, .inr (.inl (ps_sink (g d) z z g d))))] := hD
        obtain ⟨y2, hy2⟩ : ∃ y2, y2 = nI d + Int32.ofInt (-1) := ⟨_, rfl⟩
        refine lv_iinc (v := y2) (lv' := [(1, .int y2), (0, .ref h0)]) hx hb d_R_sort_28 hl (k := 1) rfl hy2.symm (by decide) rfl (fun ls hl => ?_)
        refine lv_goto (tgt := 9) hx hb d_R_sort_31 (by decide) ?_
        exact ih d y2 _ H locs ls (by omega) (by rw [hy2, iinc_toI (by omega)]) (by omega) h4 hP hD hS (lv_sub hl [1, 0] rfl)
  exact loop (z + 1) (z / 2) _ f _ _ ls (Nat.le_refl _) (dec_toI (by omega)) (by omega) rfl hP hD hS (lv_sub hl [1, 0] rfl)
theorem ps_kd_step (f : Nat → Int64) (k : Nat) (g : Nat → Int64) (c : Nat) (h : ps_kd f k = (g, c)) : ((c = 0 ∨ g k ≠ g (c - 1)) → ps_kd f (k + 1) = (vp_updL g c (g k), c + 1)) ∧ (¬ (c = 0 ∨ g k ≠ g (c - 1)) → ps_kd f (k + 1) = (g, c)) := by
  constructor
  · intro q
    rw [ps_kd, h]
    exact if_pos q
  · intro q
    rw [ps_kd, h]
    exact if_neg q
set_option maxHeartbeats 4000000 in
set_option maxRecDepth 100000 in
theorem k_R_keepDistinct (l : Launch) (D : va_G) (E : ClassId × ClassId × ClassId × ClassId) (h0 a sz : Nat) (most : Int32) (z n : Nat) (f : Nat → Int64) (hz : z ≤ n) (hn : n < 2 ^ 29) : Met l y_R_keepDistinct (.code y_R_keepDistinct c_R_keepDistinct 3 none :: gw) ({ frames := 0, cells := 0, slots := 0, locals := 0 } : Room) (wP D E [(h0, .inr (0, [.int most, .ref a, .int (nI z)])), (a, .inl (E.1, n, .inr (.inl f)))] sz [.ref h0]) (va_Qv (fun (u : Unit) => True) (wB D (fun _ => [(h0, .inr (0, [.int most, .ref a, .int (nI (ps_kd f z).2)])), (a, .inl (E.1, n, .inr (.inl ((ps_kd f z).1))))]) (va_A [(h0, .inr (0, [.int most, .ref a, .int (nI z)])), (a, .inl (E.1, n, .inr (.inl f)))] sz)) (va_A [(h0, .inr (0, [.int most, .ref a, .int (nI z)])), (a, .inl (E.1, n, .inr (.inl f)))] sz)) 0 0 (va_A [(h0, .inr (0, [.int most, .ref a, .int (nI z)])), (a, .inl (E.1, n, .inr (.inl f)))] sz) := by
  refine wr_ofW (Qc := fun A => (va_Qv (fun (u : Unit) => True) (wB D (fun _ => [(h0, .inr (0, [.int most, .ref a, .int (nI (ps_kd f z).2)])), (a, .inl (E.1, n, .inr (.inl ((ps_kd f z).1))))]) A) A)) (by decide) (Nat.le_of_ble_eq_true rfl) ?_
  intro p e s m below meth c B hP hK A hA hD hS ls hl
  obtain ⟨hx, hb, hrt, hml, hown, hts, hG, hlocks, hin⟩ := B
  have hl : lv_has ls 3 [(0, .ref h0)] := hl
  refine lv_iconst (v := 0) hx hb d_R_keepDistinct_0 (by decide) ?_
  refine lv_istore_n (lv' := [(1, .int 0), (0, .ref h0)]) hx hb d_R_keepDistinct_1 rfl hl (by decide) rfl (fun ls hl => ?_)
  refine lv_iconst (v := 0) hx hb d_R_keepDistinct_2 (by decide) ?_
  refine lv_istore_n (lv' := [(2, .int 0), (1, .int 0), (0, .ref h0)]) hx hb d_R_keepDistinct_3 rfl hl (by decide) rfl (fun ls hl => ?_)
  have loop : ∀ (fu : Nat) (k : Nat) (kc : Nat) (g : Nat → Int64) (H : Heap) (locs : List Loc) (ls : Array Slot), (k ≤ z) → (kc ≤ k) → (z < k + fu) → (ps_kd f k = (g, kc)) → va_P D vwC [(h0, .inr (0, [.int most, .ref a, .int (nI z)])), (a, .inl (E.1, n, .inr (.inl g)))] H → va_D A [(h0, .inr (0, [.int most, .ref a, .int (nI z)])), (a, .inl (E.1, n, .inr (.inl g)))] → va_S A s.heap H locs → lv_has ls 3 [(0, .ref h0), (1, .int (nI kc)), (2, .int (nI k))] → W p l e ({ frames := 0, cells := 0, slots := 0, locals := 0 } : Room) s m ([.ref h0] : List Value).toArray below meth c H locs 0 0 (MQ below (va_Qv (fun (u : Unit) => True) (wB D (fun _ => [(h0, .inr (0, [.int most, .ref a, .int (nI (ps_kd f z).2)])), (a, .inl (E.1, n, .inr (.inl ((ps_kd f z).1))))]) A) A) ([.ref h0] : List Value).toArray s 0 0 A) (F0 m 4 ls []) := by
    intro fu
    induction fu with
    | zero =>
      intro k kc g H locs ls h1 h2 h3 h4 hP hD hS hl
      omega
    | succ fu ih =>
      intro k kc g H locs ls h1 h2 h3 h4 hP hD hS hl
      have hk := ps_kd_step f k g kc h4
      refine lv_iload_n hx hb d_R_keepDistinct_4 rfl (lv_at hl 2 rfl) ?_
      refine lv_aload_n hx hb d_R_keepDistinct_5 rfl (lv_at hl 0 rfl) ?_
      refine va_get (D := D) (ci := 0) (v := .int (nI z)) (C := K_R) (T := F_R) (N := 3) hx hb hG in_R hown hK.1 hP 0 rfl rfl 2 (by decide) (hG _ wd_99) (fun _ h9 => h9) rfl d_R_keepDistinct_6 ?_
      refine lv_icmp_ge (tgt := 55) hx hb d_R_keepDistinct_9 (by decide) (fun c1 => ?_) (fun c1 => ?_)
      · have q : k = z := by have := (nI_leI (by omega) (by omega)).mp c1; omega
        subst q
        refine lv_aload_n hx hb d_R_keepDistinct_55 rfl (lv_at hl 0 rfl) ?_
        refine lv_iload_n hx hb d_R_keepDistinct_56 rfl (lv_at hl 1 rfl) ?_
        refine va_put (D := D) (ci := 0) (v := .int (nI kc)) (ty := .int) (C := K_R) (T := F_R) (N := 3) hx hb hG in_R t_R t_R_ok n_R hown hK.1 hP hD hS 0 rfl rfl 2 (by decide) (hG _ wd_99) (fun _ h9 => h9) rfl (by decide +kernel) rfl rfl (Nat.le_of_ble_eq_true rfl) d_R_keepDistinct_57 (fun H locs hP hD hS => ?_)
        have hP : va_P D vwC [(h0, .inr (0, [.int most, .ref a, .int (nI kc)])), (a, .inl (E.1, n, .inr (.inl g)))] H := hP
        have hD : va_D A [(h0, .inr (0, [.int most, .ref a, .int (nI kc)])), (a, .inl (E.1, n, .inr (.inl g)))] := hD
        rw [show g = (ps_kd f k).1 by rw [h4], show kc = (ps_kd f k).2 by rw [h4]] at hP hD
        exact W.vret hx hb hrt (fun t ht hW => ⟨⟨(), rfl, trivial, ⟨by rw [ht]; exact hP, hD⟩⟩, hS.F ht⟩) hS.2.2 d_R_keepDistinct_60 hlocks
      · have q : k < z := by rw [nI_leI (by omega) (by omega)] at c1; omega
        refine lv_iload_n hx hb d_R_keepDistinct_12 rfl (lv_at hl 1 rfl) ?_
        refine lv_if_eq (tgt := 34) hx hb d_R_keepDistinct_13 (by decide) (fun c2 => ?_) (fun c2 => ?_)
        · have q2 : kc = 0 := (nI_eq (b := 0) (by omega) (by omega)).mp c2
          have hk := hk.1 (Or.inl q2)
          refine lv_aload_n hx hb d_R_keepDistinct_34 rfl (lv_at hl 0 rfl) ?_
          refine va_get (D := D) (ci := 0) (v := .ref a) (C := K_R) (T := F_R) (N := 3) hx hb hG in_R hown hK.1 hP 0 rfl rfl 1 (by decide) (hG _ wd_98) (fun _ h9 => h9) rfl d_R_keepDistinct_35 ?_
          refine lv_iload_n hx hb d_R_keepDistinct_38 rfl (lv_at hl 1 rfl) ?_
          refine lv_aload_n hx hb d_R_keepDistinct_39 rfl (lv_at hl 0 rfl) ?_
          refine va_get (D := D) (ci := 0) (v := .ref a) (C := K_R) (T := F_R) (N := 3) hx hb hG in_R hown hK.1 hP 0 rfl rfl 1 (by decide) (hG _ wd_98) (fun _ h9 => h9) rfl d_R_keepDistinct_40 ?_
          refine lv_iload_n hx hb d_R_keepDistinct_43 rfl (lv_at hl 2 rfl) ?_
          refine va_lald hx hb hK.1 hP 1 0 rfl rfl (vp_in_nI (by omega) (by omega)) d_R_keepDistinct_44 ?_
          rw [show g (Int32.toNatClampNeg (nI k)) = g k from by rw [nI_clamp (by omega)]]
          refine va_last hx hb hK.1 hP hD hS 1 0 rfl rfl (vp_in_nI (by omega) (by omega)) d_R_keepDistinct_45 (fun H locs hP hD hS => ?_)
          rw [show vp_updL g (Int32.toNatClampNeg (nI kc)) (g k) = (vp_updL g kc (g k)) from by rw [nI_clamp (by omega)]] at hP hD
          have hP : va_P D vwC [(h0, .inr (0, [.int most, .ref a, .int (nI z)])), (a, .inl (E.1, n, .inr (.inl (vp_updL g kc (g k)))))] H := hP
          have hD : va_D A [(h0, .inr (0, [.int most, .ref a, .int (nI z)])), (a, .inl (E.1, n, .inr (.inl (vp_updL g kc (g k)))))] := hD
          refine lv_iinc (v := nI (kc + 1)) (lv' := [(1, .int (nI (kc + 1))), (0, .ref h0), (2, .int (nI k))]) hx hb d_R_keepDistinct_46 hl (k := 1) rfl (iinc_p _) (by decide) rfl (fun ls hl => ?_)
          refine lv_iinc (v := nI (k + 1)) (lv' := [(2, .int (nI (k + 1))), (1, .int (nI (kc + 1))), (0, .ref h0)]) hx hb d_R_keepDistinct_49 hl (k := 2) rfl (iinc_p _) (by decide) rfl (fun ls hl => ?_)
          refine lv_goto (tgt := 4) hx hb d_R_keepDistinct_52 (by decide) ?_
          exact ih (k + 1) (kc + 1) _ H locs ls (by omega) (by omega) (by omega) hk hP hD hS (lv_sub hl [2, 1, 0] rfl)
        · have q2 : ¬ kc = 0 := fun z => c2 (by rw [z]; rfl)
          refine lv_aload_n hx hb d_R_keepDistinct_16 rfl (lv_at hl 0 rfl) ?_
          refine va_get (D := D) (ci := 0) (v := .ref a) (C := K_R) (T := F_R) (N := 3) hx hb hG in_R hown hK.1 hP 0 rfl rfl 1 (by decide) (hG _ wd_98) (fun _ h9 => h9) rfl d_R_keepDistinct_17 ?_
          refine lv_iload_n hx hb d_R_keepDistinct_20 rfl (lv_at hl 2 rfl) ?_
          refine va_lald hx hb hK.1 hP 1 0 rfl rfl (vp_in_nI (by omega) (by omega)) d_R_keepDistinct_21 ?_
          rw [show g (Int32.toNatClampNeg (nI k)) = g k from by rw [nI_clamp (by omega)]]
          refine lv_aload_n hx hb d_R_keepDistinct_22 rfl (lv_at hl 0 rfl) ?_
          refine va_get (D := D) (ci := 0) (v := .ref a) (C := K_R) (T := F_R) (N := 3) hx hb hG in_R hown hK.1 hP 0 rfl rfl 1 (by decide) (hG _ wd_98) (fun _ h9 => h9) rfl d_R_keepDistinct_23 ?_
          refine lv_iload_n hx hb d_R_keepDistinct_26 rfl (lv_at hl 1 rfl) ?_
          refine lv_iconst (v := 1) hx hb d_R_keepDistinct_27 (by decide) ?_
          refine lv_isub hx hb d_R_keepDistinct_28 ?_
          rw [show (nI kc - 1) = nI (kc - 1) from nI_d1 (by omega)]
          refine va_lald hx hb hK.1 hP 1 0 rfl rfl (vp_in_nI (by omega) (by omega)) d_R_keepDistinct_29 ?_
          rw [show g (Int32.toNatClampNeg (nI (kc - 1))) = g (kc - 1) from by rw [nI_clamp (by omega)]]
          refine W.lcmp hx hb d_R_keepDistinct_30 ?_
          refine lv_if_eq (tgt := 49) hx hb d_R_keepDistinct_31 (by decide) (fun c3 => ?_) (fun c3 => ?_)
          · have hk := hk.2 (fun z => z.elim q2 (fun y => y (lg_eq.mp c3)))
            refine lv_iinc (v := nI (k + 1)) (lv' := [(2, .int (nI (k + 1))), (0, .ref h0), (1, .int (nI kc))]) hx hb d_R_keepDistinct_49 hl (k := 2) rfl (iinc_p _) (by decide) rfl (fun ls hl => ?_)
            refine lv_goto (tgt := 4) hx hb d_R_keepDistinct_52 (by decide) ?_
            exact ih (k + 1) kc _ H locs ls (by omega) (by omega) (by omega) hk hP hD hS (lv_sub hl [1, 2, 0] rfl)
          · have hk := hk.1 (Or.inr (fun z => c3 (lg_eq.mpr z)))
            refine lv_aload_n hx hb d_R_keepDistinct_34 rfl (lv_at hl 0 rfl) ?_
            refine va_get (D := D) (ci := 0) (v := .ref a) (C := K_R) (T := F_R) (N := 3) hx hb hG in_R hown hK.1 hP 0 rfl rfl 1 (by decide) (hG _ wd_98) (fun _ h9 => h9) rfl d_R_keepDistinct_35 ?_
            refine lv_iload_n hx hb d_R_keepDistinct_38 rfl (lv_at hl 1 rfl) ?_
            refine lv_aload_n hx hb d_R_keepDistinct_39 rfl (lv_at hl 0 rfl) ?_
            refine va_get (D := D) (ci := 0) (v := .ref a) (C := K_R) (T := F_R) (N := 3) hx hb hG in_R hown hK.1 hP 0 rfl rfl 1 (by decide) (hG _ wd_98) (fun _ h9 => h9) rfl d_R_keepDistinct_40 ?_
            refine lv_iload_n hx hb d_R_keepDistinct_43 rfl (lv_at hl 2 rfl) ?_
            refine va_lald hx hb hK.1 hP 1 0 rfl rfl (vp_in_nI (by omega) (by omega)) d_R_keepDistinct_44 ?_
            rw [show g (Int32.toNatClampNeg (nI k)) = g k from by rw [nI_clamp (by omega)]]
            refine va_last hx hb hK.1 hP hD hS 1 0 rfl rfl (vp_in_nI (by omega) (by omega)) d_R_keepDistinct_45 (fun H locs hP hD hS => ?_)
            rw [show vp_updL g (Int32.toNatClampNeg (nI kc)) (g k) = (vp_updL g kc (g k)) from by rw [nI_clamp (by omega)]] at hP hD
            have hP : va_P D vwC [(h0, .inr (0, [.int most, .ref a, .int (nI z)])), (a, .inl (E.1, n, .inr (.inl (vp_updL g kc (g k)))))] H := hP
            have hD : va_D A [(h0, .inr (0, [.int most, .ref a, .int (nI z)])), (a, .inl (E.1, n, .inr (.inl (vp_updL g kc (g k)))))] := hD
            refine lv_iinc (v := nI (kc + 1)) (lv' := [(1, .int (nI (kc + 1))), (0, .ref h0), (2, .int (nI k))]) hx hb d_R_keepDistinct_46 hl (k := 1) rfl (iinc_p _) (by decide) rfl (fun ls hl => ?_)
            refine lv_iinc (v := nI (k + 1)) (lv' := [(2, .int (nI (k + 1))), (1, .int (nI (kc + 1))), (0, .ref h0)]) hx hb d_R_keepDistinct_49 hl (k := 2) rfl (iinc_p _) (by decide) rfl (fun ls hl => ?_)
            refine lv_goto (tgt := 4) hx hb d_R_keepDistinct_52 (by decide) ?_
            exact ih (k + 1) (kc + 1) _ H locs ls (by omega) (by omega) (by omega) hk hP hD hS (lv_sub hl [2, 1, 0] rfl)
  exact loop (z + 1) 0 0 f _ _ ls (by omega) (by omega) (by omega) rfl hP hD hS (lv_sub hl [2, 1, 0] rfl)
