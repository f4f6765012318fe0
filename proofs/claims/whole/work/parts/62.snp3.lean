theorem d_P_heatCrossings_0 : decode c_P_heatCrossings 0 = .ok (.iconst 0, 1) := by decide +kernel
theorem d_P_heatCrossings_1 : decode c_P_heatCrossings 1 = .ok (.istore_n 3, 1) := by decide +kernel
theorem d_P_heatCrossings_2 : decode c_P_heatCrossings 2 = .ok (.iload_n 3, 1) := by decide +kernel
theorem d_P_heatCrossings_3 : decode c_P_heatCrossings 3 = .ok (.iload_n 2, 1) := by decide +kernel
theorem d_P_heatCrossings_4 : decode c_P_heatCrossings 4 = .ok (.if_icmp .ge 57, 3) := by decide +kernel
theorem d_P_heatCrossings_7 : decode c_P_heatCrossings 7 = .ok (.iload_n 3, 1) := by decide +kernel
theorem d_P_heatCrossings_8 : decode c_P_heatCrossings 8 = .ok (.aload_n 0, 1) := by decide +kernel
theorem d_P_heatCrossings_9 : decode c_P_heatCrossings 9 = .ok (.getfield 12, 3) := by decide +kernel
theorem d_P_heatCrossings_12 : decode c_P_heatCrossings 12 = .ok (.invokevirtual 53, 3) := by decide +kernel
theorem d_P_heatCrossings_15 : decode c_P_heatCrossings 15 = .ok (.if_icmp .ge 46, 3) := by decide +kernel
theorem d_P_heatCrossings_18 : decode c_P_heatCrossings 18 = .ok (.aload_n 0, 1) := by decide +kernel
theorem d_P_heatCrossings_19 : decode c_P_heatCrossings 19 = .ok (.getfield 12, 3) := by decide +kernel
theorem d_P_heatCrossings_22 : decode c_P_heatCrossings 22 = .ok (.iload_n 3, 1) := by decide +kernel
theorem d_P_heatCrossings_23 : decode c_P_heatCrossings 23 = .ok (.invokevirtual 103, 3) := by decide +kernel
theorem d_P_heatCrossings_26 : decode c_P_heatCrossings 26 = .ok (.checkcast 62, 3) := by decide +kernel
theorem d_P_heatCrossings_29 : decode c_P_heatCrossings 29 = .ok (.astore 4, 2) := by decide +kernel
theorem d_P_heatCrossings_31 : decode c_P_heatCrossings 31 = .ok (.aload_n 1, 1) := by decide +kernel
theorem d_P_heatCrossings_32 : decode c_P_heatCrossings 32 = .ok (.aload 4, 2) := by decide +kernel
theorem d_P_heatCrossings_34 : decode c_P_heatCrossings 34 = .ok (.invokevirtual 116, 3) := by decide +kernel
theorem d_P_heatCrossings_37 : decode c_P_heatCrossings 37 = .ok (.ifCond .eq 18, 3) := by decide +kernel
theorem d_P_heatCrossings_40 : decode c_P_heatCrossings 40 = .ok (.aload_n 0, 1) := by decide +kernel
theorem d_P_heatCrossings_41 : decode c_P_heatCrossings 41 = .ok (.aload_n 1, 1) := by decide +kernel
theorem d_P_heatCrossings_42 : decode c_P_heatCrossings 42 = .ok (.aload 4, 2) := by decide +kernel
theorem d_P_heatCrossings_44 : decode c_P_heatCrossings 44 = .ok (.invokevirtual 122, 3) := by decide +kernel
theorem d_P_heatCrossings_47 : decode c_P_heatCrossings 47 = .ok (.invokevirtual 171, 3) := by decide +kernel
theorem d_P_heatCrossings_50 : decode c_P_heatCrossings 50 = .ok (.ifCond .ne 5, 3) := by decide +kernel
theorem d_P_heatCrossings_53 : decode c_P_heatCrossings 53 = .ok (.iconst 0, 1) := by decide +kernel
theorem d_P_heatCrossings_54 : decode c_P_heatCrossings 54 = .ok (.ireturn, 1) := by decide +kernel
theorem d_P_heatCrossings_55 : decode c_P_heatCrossings 55 = .ok (.iinc 3 1, 3) := by decide +kernel
theorem d_P_heatCrossings_58 : decode c_P_heatCrossings 58 = .ok (.goto (-56), 3) := by decide +kernel
theorem d_P_heatCrossings_61 : decode c_P_heatCrossings 61 = .ok (.iconst 1, 1) := by decide +kernel
theorem d_P_heatCrossings_62 : decode c_P_heatCrossings 62 = .ok (.ireturn, 1) := by decide +kernel
noncomputable section
def hc_go (sg : Nat → SQ) (q : SQ) (i0 : Nat) : Nat → Nat → RS → RS × Bool
  | 0, _, R => (R, true)
  | fu + 1, j, R => if j < i0 then (if b01 (sg_cross q (sg j)) = 0 then hc_go sg q i0 fu (j + 1) R else if hj_ok R then hc_go sg q i0 fu (j + 1) (hj R (sg_ck q (sg j))) else (hj R (sg_ck q (sg j)), false)) else (R, true)
theorem hc_ok {sg : Nat → SQ} {q : SQ} {i0 : Nat} : ∀ (fu j : Nat) (R : RS), rs_ok 16384 R → rs_ok 16384 (hc_go sg q i0 fu j R).1 ∧ R.1 ≤ (hc_go sg q i0 fu j R).1.1 := by
  intro fu
  induction fu with
  | zero => intro j R h; exact ⟨h, Nat.le_refl _⟩
  | succ fu ih =>
    intro j R h
    unfold hc_go
    have h1 := hj_o (x := sg_ck q (sg j)) h
    split
    · split
      · exact ih _ _ h
      · split
        · have h2 := ih (j + 1) _ h1.1
          exact ⟨h2.1, Nat.le_trans h1.2 h2.2⟩
        · exact h1
    · exact ⟨h, Nat.le_refl _⟩
theorem bI_n (b : Bool) : narrow .boolean (.int (if b = true then 1 else 0)) = .int (if b = true then 1 else 0) := by cases b <;> rfl
set_option maxHeartbeats 4000000 in
set_option maxRecDepth 100000 in
theorem k_P_heatCrossings (l : Launch) (D : va_G) (E : ClassId × ClassId × ClassId × ClassId) (h0 sz e0 ed k a1 : Nat) (ad : Nat → Nat) (sn mo9 : Int32) (sg : Nat → SQ) (LP : List Nat) (pf : Nat → va_E) (hL : Lst E LP pf e0 ed k sg) (hk : k ≤ 2048) (R1 : RS) (hok : rs_ok 16384 R1) (y i0 : Nat) (q : SQ) (hy : y ∈ LP) (hfy : pf y = .inr (1, sgF q)) (hi : i0 ≤ k) : Met l y_P_heatCrossings (.code y_P_heatCrossings c_P_heatCrossings 5 (some .boolean) :: gw) ({ frames := 4, cells := ((hc_go sg q i0 (i0 + 1) 0 R1).1.1 - R1.1), slots := (pot 16384 R1.1 - pot 16384 (hc_go sg q i0 (i0 + 1) 0 R1).1.1), locals := 130 } : Room) (wP D E ([(h0, .inr (2, [.ref (ad 0), .ref (ad 1), .ref (ad 2), .ref (ad 3), .ref (ad 4), .ref (ad 5), .int sn])), ((ad 0), .inr (4, [.ref ed, .int (nI k), .int mo9])), ((ad 1), .inr (0, [.int (nI 16384), .ref a1, .int (nI R1.2.2)])), (a1, .inl (E.1, R1.1, .inr (.inl R1.2.1)))] ++ va_pl LP pf) sz [.ref h0, .ref y, .int (nI i0)]) (va_Qi (fun (r : Int32) (u : Nat) => r = if (hc_go sg q i0 (i0 + 1) 0 R1).2 = true then 1 else 0) (wB D (fun u => ([(h0, .inr (2, [.ref (ad 0), .ref (ad 1), .ref (ad 2), .ref (ad 3), .ref (ad 4), .ref (ad 5), .int sn])), ((ad 0), .inr (4, [.ref ed, .int (nI k), .int mo9])), ((ad 1), .inr (0, [.int (nI 16384), .ref u, .int (nI (hc_go sg q i0 (i0 + 1) 0 R1).1.2.2)])), (u, .inl (E.1, (hc_go sg q i0 (i0 + 1) 0 R1).1.1, .inr (.inl ((hc_go sg q i0 (i0 + 1) 0 R1).1.2.1))))] ++ va_pl LP pf)) (va_A ([(h0, .inr (2, [.ref (ad 0), .ref (ad 1), .ref (ad 2), .ref (ad 3), .ref (ad 4), .ref (ad 5), .int sn])), ((ad 0), .inr (4, [.ref ed, .int (nI k), .int mo9])), ((ad 1), .inr (0, [.int (nI 16384), .ref a1, .int (nI R1.2.2)])), (a1, .inl (E.1, R1.1, .inr (.inl R1.2.1)))] ++ va_pl LP pf) sz)) (va_A ([(h0, .inr (2, [.ref (ad 0), .ref (ad 1), .ref (ad 2), .ref (ad 3), .ref (ad 4), .ref (ad 5), .int sn])), ((ad 0), .inr (4, [.ref ed, .int (nI k), .int mo9])), ((ad 1), .inr (0, [.int (nI 16384), .ref a1, .int (nI R1.2.2)])), (a1, .inl (E.1, R1.1, .inr (.inl R1.2.1)))] ++ va_pl LP pf) sz)) ((hc_go sg q i0 (i0 + 1) 0 R1).1.1 - R1.1) (pot 16384 R1.1 - pot 16384 (hc_go sg q i0 (i0 + 1) 0 R1).1.1) (va_A ([(h0, .inr (2, [.ref (ad 0), .ref (ad 1), .ref (ad 2), .ref (ad 3), .ref (ad 4), .ref (ad 5), .int sn])), ((ad 0), .inr (4, [.ref ed, .int (nI k), .int mo9])), ((ad 1), .inr (0, [.int (nI 16384), .ref a1, .int (nI R1.2.2)])), (a1, .inl (E.1, R1.1, .inr (.inl R1.2.1)))] ++ va_pl LP pf) sz) := by
  refine wr_ofW (y := y_P_heatCrossings) (cc := c_P_heatCrossings) (maxL := 5) (ws := ([(h0, .inr (2, [.ref (ad 0), .ref (ad 1), .ref (ad 2), .ref (ad 3), .ref (ad 4), .ref (ad 5), .int sn])), ((ad 0), .inr (4, [.ref ed, .int (nI k), .int mo9])), ((ad 1), .inr (0, [.int (nI 16384), .ref a1, .int (nI R1.2.2)])), (a1, .inl (E.1, R1.1, .inr (.inl R1.2.1)))] ++ va_pl LP pf)) (sz := sz) (av := [.ref h0, .ref y, .int (nI i0)]) (Qc := fun A => (va_Qi (fun (r : Int32) (u : Nat) => r = if (hc_go sg q i0 (i0 + 1) 0 R1).2 = true then 1 else 0) (wB D (fun u => ([(h0, .inr (2, [.ref (ad 0), .ref (ad 1), .ref (ad 2), .ref (ad 3), .ref (ad 4), .ref (ad 5), .int sn])), ((ad 0), .inr (4, [.ref ed, .int (nI k), .int mo9])), ((ad 1), .inr (0, [.int (nI 16384), .ref u, .int (nI (hc_go sg q i0 (i0 + 1) 0 R1).1.2.2)])), (u, .inl (E.1, (hc_go sg q i0 (i0 + 1) 0 R1).1.1, .inr (.inl ((hc_go sg q i0 (i0 + 1) 0 R1).1.2.1))))] ++ va_pl LP pf)) A) A)) (by decide) (Nat.le_of_ble_eq_true rfl) ?_
  intro p e s m below meth c B hP hK A hA hD hS ls hl
  obtain ⟨hx, hb, hrt, hml, hown, hts, hG, hlocks, hin⟩ := B
  have hl : lv_has ls 5 [(0, .ref h0), (1, .ref y), (2, .int (nI i0))] := hl
  obtain ⟨T, hT⟩ : ∃ T, T = (hc_go sg q i0 (i0 + 1) 0 R1) := ⟨_, rfl⟩
  rw [← hT]
  refine lv_iconst (v := 0) hx hb d_P_heatCrossings_0 (by decide) ?_
  refine lv_istore_n (lv' := [(3, .int 0), (0, .ref h0), (1, .ref y), (2, .int (nI i0))]) hx hb d_P_heatCrossings_1 rfl hl (by decide) rfl (fun ls hl => ?_)
  have loop : ∀ (fu : Nat) (j : Nat) (R : RS) (b : Nat) (H : Heap) (locs : List Loc) (ls : Array Slot), (j ≤ i0) → (i0 < j + fu) → (hc_go sg q i0 fu j R = T) → (rs_ok 16384 R) → (R1.1 ≤ R.1) → va_P D vwC ([(h0, .inr (2, [.ref (ad 0), .ref (ad 1), .ref (ad 2), .ref (ad 3), .ref (ad 4), .ref (ad 5), .int sn])), ((ad 0), .inr (4, [.ref ed, .int (nI k), .int mo9])), ((ad 1), .inr (0, [.int (nI 16384), .ref b, .int (nI R.2.2)])), (b, .inl (E.1, R.1, .inr (.inl R.2.1)))] ++ va_pl LP pf) H → va_D A ([(h0, .inr (2, [.ref (ad 0), .ref (ad 1), .ref (ad 2), .ref (ad 3), .ref (ad 4), .ref (ad 5), .int sn])), ((ad 0), .inr (4, [.ref ed, .int (nI k), .int mo9])), ((ad 1), .inr (0, [.int (nI 16384), .ref b, .int (nI R.2.2)])), (b, .inl (E.1, R.1, .inr (.inl R.2.1)))] ++ va_pl LP pf) → va_S A s.heap H locs → lv_has ls 5 [(0, .ref h0), (1, .ref y), (2, .int (nI i0)), (3, .int (nI j))] → W p l e ({ frames := 4, cells := (T.1.1 - R1.1), slots := (pot 16384 R1.1 - pot 16384 T.1.1), locals := 130 } : Room) s m ([.ref h0, .ref y, .int (nI i0)] : List Value).toArray below meth c H locs (R.1 - R1.1) (pot 16384 R1.1 - pot 16384 R.1) (MQ below (va_Qi (fun (r : Int32) (u : Nat) => r = if T.2 = true then 1 else 0) (wB D (fun u => ([(h0, .inr (2, [.ref (ad 0), .ref (ad 1), .ref (ad 2), .ref (ad 3), .ref (ad 4), .ref (ad 5), .int sn])), ((ad 0), .inr (4, [.ref ed, .int (nI k), .int mo9])), ((ad 1), .inr (0, [.int (nI 16384), .ref u, .int (nI T.1.2.2)])), (u, .inl (E.1, T.1.1, .inr (.inl T.1.2.1)))] ++ va_pl LP pf)) A) A) ([.ref h0, .ref y, .int (nI i0)] : List Value).toArray s (T.1.1 - R1.1) (pot 16384 R1.1 - pot 16384 T.1.1) A) (F0 m 2 ls []) := by
    intro fu
    induction fu with
    | zero =>
      intro j R b H locs ls h1 h2 h3 h4 h5 hP hD hS hl
      omega
    | succ fu ih =>
      intro j R b H locs ls h1 h2 h3 h4 h5 hP hD hS hl
      have o1 := (hc_ok (sg := sg) (q := q) (i0 := i0) (fu + 1) j R h4).2
      rw [h3] at o1
      have o2 := pot_anti (m := 16384) o1
      have o3 := pot_anti (m := 16384) h5
      rw [hc_go] at h3
      refine lv_iload_n hx hb d_P_heatCrossings_2 rfl (lv_at hl 3 rfl) ?_
      refine lv_iload_n hx hb d_P_heatCrossings_3 rfl (lv_at hl 2 rfl) ?_
      refine lv_icmp_ge (tgt := 61) hx hb d_P_heatCrossings_4 (by decide) (fun c1 => ?_) (fun c1 => ?_)
      · have q9 : ¬ j < i0 := by have := (nI_leI (by omega) (by omega)).mp c1; omega
        rw [if_neg (q9)] at h3
        subst h3
        refine lv_iconst (v := 1) hx hb d_P_heatCrossings_61 (by decide) ?_
        exact W.zret (v := 1) (ty := .boolean) hx hb hrt rfl (fun t ht hW => ⟨⟨1, b, rfl, rfl, ⟨by rw [ht]; exact hP, hD⟩⟩, hS.F ht⟩) hS.2.2 d_P_heatCrossings_62 hlocks
      · have q9 : j < i0 := by rw [nI_leI (by omega) (by omega)] at c1; omega
        rw [if_pos q9] at h3
        refine lv_iload_n hx hb d_P_heatCrossings_7 rfl (lv_at hl 3 rfl) ?_
        refine lv_aload_n hx hb d_P_heatCrossings_8 rfl (lv_at hl 0 rfl) ?_
        refine va_get (D := D) (ci := 2) (v := .ref (ad 0)) (C := K_P) (T := F_P) (N := 7) hx hb hG in_P hown hK.1 hP 0 rfl rfl 0 (by decide) (hG _ wd_109) (fun _ h9 => h9) rfl d_P_heatCrossings_9 ?_
        have hPc := hP.sub (ws' := [((ad 0), .inr (4, [.ref ed, .int (nI k), .int mo9]))]) [1] rfl
        refine vp_callSi (W.runV (As := []) (rest := [.int (nI j)]) ⟨hx, hb, hml, hown, hts⟩ (k_A_size l D E (ad 0) (.ref ed) (nI k) mo9) (cwV 0 hts (gw_gv wd_135 wd_136 wd_137 wd_40 wd_138) rfl rfl rfl (by decide +kernel) ⟨Nat.le_of_ble_eq_true rfl, Nat.le_of_ble_eq_true rfl⟩) (rP_V 0 hPc hK rfl rfl) rfl rfl hl.1 rfl (lv_room (Nat.le_of_ble_eq_true rfl)) d_P_heatCrossings_12 ⟨by show _ ≤ T.1.1 - R1.1; omega, by show _ ≤ pot 16384 R1.1 - pot 16384 T.1.1; omega⟩) (fun r1 hr1 => ?_)
        subst hr1
        refine lv_icmp_ge (tgt := 61) hx hb d_P_heatCrossings_15 (by decide) (fun c2 => ?_) (fun c2 => ?_)
        · exact absurd ((nI_leI (by omega) (by omega)).mp c2) (by omega)
        · refine lv_aload_n hx hb d_P_heatCrossings_18 rfl (lv_at hl 0 rfl) ?_
          refine va_get (D := D) (ci := 2) (v := .ref (ad 0)) (C := K_P) (T := F_P) (N := 7) hx hb hG in_P hown hK.1 hP 0 rfl rfl 0 (by decide) (hG _ wd_109) (fun _ h9 => h9) rfl d_P_heatCrossings_19 ?_
          refine lv_iload_n hx hb d_P_heatCrossings_22 rfl (lv_at hl 3 rfl) ?_
          obtain ⟨n_ga, l_ga, ga, x1_ga, x2_ga, x3_ga, x4_ga, x5_ga, x6_ga, x7_ga⟩ := hL.get (i := j) (by omega)
          have hPc : va_P D vwC [((ad 0), .inr (4, [.ref ed, .int (nI k), .int mo9])), (ed, .inl (E.2.2.2, n_ga, .inr (.inr (.inr (.inr l_ga)))))] H := pl_cons (hP.sub (ws' := [((ad 0), .inr (4, [.ref ed, .int (nI k), .int mo9]))]) [1] rfl) (pl_one (X := [(h0, .inr (2, [.ref (ad 0), .ref (ad 1), .ref (ad 2), .ref (ad 3), .ref (ad 4), .ref (ad 5), .int sn])), ((ad 0), .inr (4, [.ref ed, .int (nI k), .int mo9])), ((ad 1), .inr (0, [.int (nI 16384), .ref b, .int (nI R.2.2)])), (b, .inl (E.1, R.1, .inr (.inl R.2.1)))]) hP x1_ga x2_ga)
          refine va_csq (W.runV (As := [.int (nI j)]) (rest := []) ⟨hx, hb, hml, hown, hts⟩ (k_A_get l D E (ad 0) ed n_ga k j mo9 l_ga (by omega) x3_ga (by omega)) (cwV 1 hts (gw_gv wd_369 wd_370 wd_371 wd_40 wd_372) rfl rfl rfl (by decide +kernel) ⟨Nat.le_of_ble_eq_true rfl, Nat.le_of_ble_eq_true rfl⟩) (rP_V 0 hPc hK rfl rfl) rfl rfl hl.1 rfl (lv_room (Nat.le_of_ble_eq_true rfl)) d_P_heatCrossings_23 ⟨by show _ ≤ T.1.1 - R1.1; omega, by show _ ≤ pot 16384 R1.1 - pot 16384 T.1.1; omega⟩) (fun r_ga hr_ga => ?_)
          rw [x5_ga] at hr_ga
          subst hr_ga
          refine va_castS (a := ga) hx hb hown (hG _ wd_258) (hK.1.1 1 _ rfl).2 (va_recv (q0 := 0) hK.1 (pl_one (X := [(h0, .inr (2, [.ref (ad 0), .ref (ad 1), .ref (ad 2), .ref (ad 3), .ref (ad 4), .ref (ad 5), .int sn])), ((ad 0), .inr (4, [.ref ed, .int (nI k), .int mo9])), ((ad 1), .inr (0, [.int (nI 16384), .ref b, .int (nI R.2.2)])), (b, .inl (E.1, R.1, .inr (.inl R.2.1)))]) hP x6_ga x7_ga) rfl rfl) d_P_heatCrossings_26 ?_
          refine lv_astore (lv' := [(4, .ref ga), (0, .ref h0), (1, .ref y), (2, .int (nI i0)), (3, .int (nI j))]) hx hb d_P_heatCrossings_29 hl (by decide) rfl (fun ls hl => ?_)
          refine lv_aload_n hx hb d_P_heatCrossings_31 rfl (lv_at hl 2 rfl) ?_
          refine lv_aload hx hb d_P_heatCrossings_32 (lv_at hl 0 rfl) ?_
          have hPc : va_P D vwC [(y, .inr (1, sgF q)), (ga, .inr (1, sgF (sg j)))] H := pl_cons (pl_one (X := [(h0, .inr (2, [.ref (ad 0), .ref (ad 1), .ref (ad 2), .ref (ad 3), .ref (ad 4), .ref (ad 5), .int sn])), ((ad 0), .inr (4, [.ref ed, .int (nI k), .int mo9])), ((ad 1), .inr (0, [.int (nI 16384), .ref b, .int (nI R.2.2)])), (b, .inl (E.1, R.1, .inr (.inl R.2.1)))]) hP hy hfy) (pl_one (X := [(h0, .inr (2, [.ref (ad 0), .ref (ad 1), .ref (ad 2), .ref (ad 3), .ref (ad 4), .ref (ad 5), .int sn])), ((ad 0), .inr (4, [.ref ed, .int (nI k), .int mo9])), ((ad 1), .inr (0, [.int (nI 16384), .ref b, .int (nI R.2.2)])), (b, .inl (E.1, R.1, .inr (.inl R.2.1)))]) hP x6_ga x7_ga)
          refine vp_callSi (W.runV (As := [.ref ga]) (rest := []) ⟨hx, hb, hml, hown, hts⟩ (k_S_crosses l D E y ga q (sg j)) (cwV 1 hts (gw_gv wd_439 wd_440 wd_441 wd_48 wd_442) rfl rfl rfl (by decide +kernel) ⟨Nat.le_of_ble_eq_true rfl, Nat.le_of_ble_eq_true rfl⟩) (rP_V 0 hPc hK rfl rfl) rfl rfl hl.1 rfl (lv_room (Nat.le_of_ble_eq_true rfl)) d_P_heatCrossings_34 ⟨by show _ ≤ T.1.1 - R1.1; omega, by show _ ≤ pot 16384 R1.1 - pot 16384 T.1.1; omega⟩) (fun r2 hr2 => ?_)
          refine lv_if_eq (tgt := 55) hx hb d_P_heatCrossings_37 (by decide) (fun c3 => ?_) (fun c3 => ?_)
          · rw [hr2] at c3
            rw [if_pos c3] at h3
            refine lv_iinc (v := nI (j + 1)) (lv' := [(3, .int (nI (j + 1))), (4, .ref ga), (0, .ref h0), (1, .ref y), (2, .int (nI i0))]) hx hb d_P_heatCrossings_55 hl (k := 4) rfl (iinc_p _) (by decide) rfl (fun ls hl => ?_)
            refine lv_goto (tgt := 2) hx hb d_P_heatCrossings_58 (by decide) ?_
            exact ih (j + 1) R b H locs ls (by omega) (by omega) h3 h4 h5 hP hD hS (lv_sub hl [2, 3, 4, 0] rfl)
          · rw [hr2] at c3
            rw [if_neg c3] at h3
            refine lv_aload_n hx hb d_P_heatCrossings_40 rfl (lv_at hl 1 rfl) ?_
            refine lv_aload_n hx hb d_P_heatCrossings_41 rfl (lv_at hl 2 rfl) ?_
            refine lv_aload hx hb d_P_heatCrossings_42 (lv_at hl 0 rfl) ?_
            have hPc : va_P D vwC [(y, .inr (1, sgF q)), (ga, .inr (1, sgF (sg j)))] H := pl_cons (pl_one (X := [(h0, .inr (2, [.ref (ad 0), .ref (ad 1), .ref (ad 2), .ref (ad 3), .ref (ad 4), .ref (ad 5), .int sn])), ((ad 0), .inr (4, [.ref ed, .int (nI k), .int mo9])), ((ad 1), .inr (0, [.int (nI 16384), .ref b, .int (nI R.2.2)])), (b, .inl (E.1, R.1, .inr (.inl R.2.1)))]) hP hy hfy) (pl_one (X := [(h0, .inr (2, [.ref (ad 0), .ref (ad 1), .ref (ad 2), .ref (ad 3), .ref (ad 4), .ref (ad 5), .int sn])), ((ad 0), .inr (4, [.ref ed, .int (nI k), .int mo9])), ((ad 1), .inr (0, [.int (nI 16384), .ref b, .int (nI R.2.2)])), (b, .inl (E.1, R.1, .inr (.inl R.2.1)))]) hP x6_ga x7_ga)
            refine vp_callSl (W.runV (As := [.ref ga]) (rest := [.ref h0]) ⟨hx, hb, hml, hown, hts⟩ (k_S_crossingKey l D E y ga q (sg j)) (cwV 1 hts (gw_gv wd_451 wd_452 wd_453 wd_48 wd_454) rfl rfl rfl (by decide +kernel) ⟨Nat.le_of_ble_eq_true rfl, Nat.le_of_ble_eq_true rfl⟩) (rP_V 0 hPc hK rfl rfl) rfl rfl hl.1 rfl (lv_room (Nat.le_of_ble_eq_true rfl)) d_P_heatCrossings_44 ⟨by show _ ≤ T.1.1 - R1.1; omega, by show _ ≤ pot 16384 R1.1 - pot 16384 T.1.1; omega⟩) (fun r3 hr3 => ?_)
            subst hr3
            have g1 := hj_o (x := sg_ck q (sg j)) h4
            have g2 : (hj R (sg_ck q (sg j))).1 ≤ T.1.1 := by
              by_cases z : hj_ok R
              · rw [if_pos z] at h3; rw [← h3]; exact (hc_ok _ _ _ g1.1).2
              · rw [if_neg z] at h3; rw [← h3]; exact Nat.le_refl _
            have g3 := pot_anti (m := 16384) g2
            have g4 := pot_anti (m := 16384) g1.2
            have hPc := hP.sub (ws' := [(h0, .inr (2, [.ref (ad 0), .ref (ad 1), .ref (ad 2), .ref (ad 3), .ref (ad 4), .ref (ad 5), .int sn])), ((ad 1), .inr (0, [.int (nI 16384), .ref b, .int (nI R.2.2)])), (b, .inl (E.1, R.1, .inr (.inl R.2.1)))]) [0, 2, 3] rfl
            have hDc := hD.sub (ws' := [(h0, .inr (2, [.ref (ad 0), .ref (ad 1), .ref (ad 2), .ref (ad 3), .ref (ad 4), .ref (ad 5), .int sn])), ((ad 1), .inr (0, [.int (nI 16384), .ref b, .int (nI R.2.2)])), (b, .inl (E.1, R.1, .inr (.inl R.2.1)))]) [0, 2, 3] (by decide) rfl
            have hFc := va_free (wc := [(h0, .inr (2, [.ref (ad 0), .ref (ad 1), .ref (ad 2), .ref (ad 3), .ref (ad 4), .ref (ad 5), .int sn])), ((ad 1), .inr (0, [.int (nI 16384), .ref b, .int (nI R.2.2)])), (b, .inl (E.1, R.1, .inr (.inl R.2.1)))]) hD hS hA [0, 2, 3] rfl
            refine va_calli (va_runV (As := [.long (sg_ck q (sg j))]) (rest := []) ⟨hx, hb, hml, hown, hts⟩ (k_P_heat l D E h0 H.size b ad sn R (sg_ck q (sg j)) h4) (cwV 1 hts (gw_gv wd_391 wd_393 wd_6 wd_37 wd_394) rfl rfl rfl (by decide +kernel) ⟨Nat.le_of_ble_eq_true rfl, Nat.le_of_ble_eq_true rfl⟩) (wP_V 0 hPc hK hDc rfl rfl) rfl rfl hl.1 rfl (lv_room (Nat.le_of_ble_eq_true rfl)) d_P_heatCrossings_47 ⟨by show _ ≤ T.1.1 - R1.1; omega, by show _ ≤ pot 16384 R1.1 - pot 16384 T.1.1; omega⟩) hS (fun q _ h => hFc q h) hFc (fun r4 u1 t H1 locs ht hvm hw hB hz1 hk1 hS => ?_)
            obtain ⟨hP1, hD1⟩ := hB
            rw [ht] at hP1
            obtain ⟨hP, hD⟩ := va_joinQ (X := [(h0, .inr (2, [.ref (ad 0), .ref (ad 1), .ref (ad 2), .ref (ad 3), .ref (ad 4), .ref (ad 5), .int sn])), ((ad 0), .inr (4, [.ref ed, .int (nI k), .int mo9])), ((ad 1), .inr (0, [.int (nI 16384), .ref b, .int (nI R.2.2)])), (b, .inl (E.1, R.1, .inr (.inl R.2.1)))]) (cx := [(h0, .inr (2, [.ref (ad 0), .ref (ad 1), .ref (ad 2), .ref (ad 3), .ref (ad 4), .ref (ad 5), .int sn])), ((ad 1), .inr (0, [.int (nI 16384), .ref b, .int (nI R.2.2)])), (b, .inl (E.1, R.1, .inr (.inl R.2.1)))]) (wr := [((ad 0), .inr (4, [.ref ed, .int (nI k), .int mo9]))]) (w1 := [(h0, .inr (2, [.ref (ad 0), .ref (ad 1), .ref (ad 2), .ref (ad 3), .ref (ad 4), .ref (ad 5), .int sn])), ((ad 1), .inr (0, [.int (nI 16384), .ref u1, .int (nI (hj R (sg_ck q (sg j))).2.2)])), (u1, .inl (E.1, (hj R (sg_ck q (sg j))).1, .inr (.inl ((hj R (sg_ck q (sg j))).2.1))))]) (pl := va_pl LP pf) hP hD [0, 2, 3] [1] rfl rfl (by decide) (by decide) hk1 hFc hP1 hD1
            generalize H1 = H at hP hS ⊢
            have hP : va_P D vwC ([((ad 0), .inr (4, [.ref ed, .int (nI k), .int mo9])), (h0, .inr (2, [.ref (ad 0), .ref (ad 1), .ref (ad 2), .ref (ad 3), .ref (ad 4), .ref (ad 5), .int sn])), ((ad 1), .inr (0, [.int (nI 16384), .ref u1, .int (nI (hj R (sg_ck q (sg j))).2.2)])), (u1, .inl (E.1, (hj R (sg_ck q (sg j))).1, .inr (.inl ((hj R (sg_ck q (sg j))).2.1))))] ++ va_pl LP pf) H := hP
            have hD : va_D A ([((ad 0), .inr (4, [.ref ed, .int (nI k), .int mo9])), (h0, .inr (2, [.ref (ad 0), .ref (ad 1), .ref (ad 2), .ref (ad 3), .ref (ad 4), .ref (ad 5), .int sn])), ((ad 1), .inr (0, [.int (nI 16384), .ref u1, .int (nI (hj R (sg_ck q (sg j))).2.2)])), (u1, .inl (E.1, (hj R (sg_ck q (sg j))).1, .inr (.inl ((hj R (sg_ck q (sg j))).2.1))))] ++ va_pl LP pf) := hD
            have hP := va_P.part (X := [((ad 0), .inr (4, [.ref ed, .int (nI k), .int mo9])), (h0, .inr (2, [.ref (ad 0), .ref (ad 1), .ref (ad 2), .ref (ad 3), .ref (ad 4), .ref (ad 5), .int sn])), ((ad 1), .inr (0, [.int (nI 16384), .ref u1, .int (nI (hj R (sg_ck q (sg j))).2.2)])), (u1, .inl (E.1, (hj R (sg_ck q (sg j))).1, .inr (.inl ((hj R (sg_ck q (sg j))).2.1))))]) (cx := [(h0, .inr (2, [.ref (ad 0), .ref (ad 1), .ref (ad 2), .ref (ad 3), .ref (ad 4), .ref (ad 5), .int sn])), ((ad 0), .inr (4, [.ref ed, .int (nI k), .int mo9])), ((ad 1), .inr (0, [.int (nI 16384), .ref u1, .int (nI (hj R (sg_ck q (sg j))).2.2)])), (u1, .inl (E.1, (hj R (sg_ck q (sg j))).1, .inr (.inl ((hj R (sg_ck q (sg j))).2.1))))]) (pl := va_pl LP pf) hP [1, 0, 2, 3] rfl
            have hD := va_D.part (X := [((ad 0), .inr (4, [.ref ed, .int (nI k), .int mo9])), (h0, .inr (2, [.ref (ad 0), .ref (ad 1), .ref (ad 2), .ref (ad 3), .ref (ad 4), .ref (ad 5), .int sn])), ((ad 1), .inr (0, [.int (nI 16384), .ref u1, .int (nI (hj R (sg_ck q (sg j))).2.2)])), (u1, .inl (E.1, (hj R (sg_ck q (sg j))).1, .inr (.inl ((hj R (sg_ck q (sg j))).2.1))))]) (cx := [(h0, .inr (2, [.ref (ad 0), .ref (ad 1), .ref (ad 2), .ref (ad 3), .ref (ad 4), .ref (ad 5), .int sn])), ((ad 0), .inr (4, [.ref ed, .int (nI k), .int mo9])), ((ad 1), .inr (0, [.int (nI 16384), .ref u1, .int (nI (hj R (sg_ck q (sg j))).2.2)])), (u1, .inl (E.1, (hj R (sg_ck q (sg j))).1, .inr (.inl ((hj R (sg_ck q (sg j))).2.1))))]) (pl := va_pl LP pf) hD [1, 0, 2, 3] (by decide) rfl
            refine W.widen (k := ((hj R (sg_ck q (sg j))).1 - R1.1)) (n := (pot 16384 R1.1 - pot 16384 (hj R (sg_ck q (sg j))).1)) (by omega) (by omega) ?_
            refine lv_if_ne (tgt := 55) hx hb d_P_heatCrossings_50 (by decide) (fun c4 => ?_) (fun c4 => ?_)
            · rw [show r4 = b01 (hj_ok R) from hw] at c4
              rw [if_pos (b01_1 c4)] at h3
              refine lv_iinc (v := nI (j + 1)) (lv' := [(3, .int (nI (j + 1))), (4, .ref ga), (0, .ref h0), (1, .ref y), (2, .int (nI i0))]) hx hb d_P_heatCrossings_55 hl (k := 4) rfl (iinc_p _) (by decide) rfl (fun ls hl => ?_)
              refine lv_goto (tgt := 2) hx hb d_P_heatCrossings_58 (by decide) ?_
              exact ih (j + 1) (hj R (sg_ck q (sg j))) u1 H locs ls (by omega) (by omega) h3 g1.1 (Nat.le_trans h5 g1.2) hP hD hS (lv_sub hl [2, 3, 4, 0] rfl)
            · rw [show r4 = b01 (hj_ok R) from hw] at c4
              rw [if_neg (b01_0 c4)] at h3
              subst h3
              refine lv_iconst (v := 0) hx hb d_P_heatCrossings_53 (by decide) ?_
              exact W.zret (v := 0) (ty := .boolean) hx hb hrt rfl (fun t ht hW => ⟨⟨0, u1, rfl, rfl, ⟨by rw [ht]; exact hP, hD⟩⟩, hS.F ht⟩) hS.2.2 d_P_heatCrossings_54 hlocks
  refine W.widen (k := (R1.1 - R1.1)) (n := (pot 16384 R1.1 - pot 16384 R1.1)) (Nat.zero_le _) (Nat.zero_le _) ?_
  exact loop (i0 + 1) 0 R1 a1 _ _ ls (Nat.zero_le _) (by omega) hT.symm hok (Nat.le_refl _) hP hD hS (lv_sub hl [1, 2, 3, 0] rfl)
end
