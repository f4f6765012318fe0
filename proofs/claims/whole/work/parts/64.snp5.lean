theorem d_P_addPlaces_0 : decode c_P_addPlaces 0 = .ok (.aload_n 0, 1) := by decide +kernel
theorem d_P_addPlaces_1 : decode c_P_addPlaces 1 = .ok (.getfield 21, 3) := by decide +kernel
theorem d_P_addPlaces_4 : decode c_P_addPlaces 4 = .ok (.aload_n 1, 1) := by decide +kernel
theorem d_P_addPlaces_5 : decode c_P_addPlaces 5 = .ok (.invokevirtual 203, 3) := by decide +kernel
theorem d_P_addPlaces_8 : decode c_P_addPlaces 8 = .ok (.lconst 1, 1) := by decide +kernel
theorem d_P_addPlaces_9 : decode c_P_addPlaces 9 = .ok (.ladd, 1) := by decide +kernel
theorem d_P_addPlaces_10 : decode c_P_addPlaces 10 = .ok (.invokevirtual 206, 3) := by decide +kernel
theorem d_P_addPlaces_13 : decode c_P_addPlaces 13 = .ok (.istore_n 2, 1) := by decide +kernel
theorem d_P_addPlaces_14 : decode c_P_addPlaces 14 = .ok (.aload_n 0, 1) := by decide +kernel
theorem d_P_addPlaces_15 : decode c_P_addPlaces 15 = .ok (.getfield 21, 3) := by decide +kernel
theorem d_P_addPlaces_18 : decode c_P_addPlaces 18 = .ok (.aload_n 1, 1) := by decide +kernel
theorem d_P_addPlaces_19 : decode c_P_addPlaces 19 = .ok (.invokevirtual 210, 3) := by decide +kernel
theorem d_P_addPlaces_22 : decode c_P_addPlaces 22 = .ok (.invokevirtual 206, 3) := by decide +kernel
theorem d_P_addPlaces_25 : decode c_P_addPlaces 25 = .ok (.istore_n 3, 1) := by decide +kernel
theorem d_P_addPlaces_26 : decode c_P_addPlaces 26 = .ok (.iload_n 3, 1) := by decide +kernel
theorem d_P_addPlaces_27 : decode c_P_addPlaces 27 = .ok (.iload_n 2, 1) := by decide +kernel
theorem d_P_addPlaces_28 : decode c_P_addPlaces 28 = .ok (.if_icmp .ge 50, 3) := by decide +kernel
theorem d_P_addPlaces_31 : decode c_P_addPlaces 31 = .ok (.aload_n 0, 1) := by decide +kernel
theorem d_P_addPlaces_32 : decode c_P_addPlaces 32 = .ok (.getfield 21, 3) := by decide +kernel
theorem d_P_addPlaces_35 : decode c_P_addPlaces 35 = .ok (.iload_n 3, 1) := by decide +kernel
theorem d_P_addPlaces_36 : decode c_P_addPlaces 36 = .ok (.invokevirtual 135, 3) := by decide +kernel
theorem d_P_addPlaces_39 : decode c_P_addPlaces 39 = .ok (.lstore 4, 2) := by decide +kernel
theorem d_P_addPlaces_41 : decode c_P_addPlaces 41 = .ok (.aload_n 1, 1) := by decide +kernel
theorem d_P_addPlaces_42 : decode c_P_addPlaces 42 = .ok (.lload 4, 2) := by decide +kernel
theorem d_P_addPlaces_44 : decode c_P_addPlaces 44 = .ok (.invokestatic 157, 3) := by decide +kernel
theorem d_P_addPlaces_47 : decode c_P_addPlaces 47 = .ok (.lload 4, 2) := by decide +kernel
theorem d_P_addPlaces_49 : decode c_P_addPlaces 49 = .ok (.invokestatic 161, 3) := by decide +kernel
theorem d_P_addPlaces_52 : decode c_P_addPlaces 52 = .ok (.invokevirtual 107, 3) := by decide +kernel
theorem d_P_addPlaces_55 : decode c_P_addPlaces 55 = .ok (.ifCond .eq 17, 3) := by decide +kernel
theorem d_P_addPlaces_58 : decode c_P_addPlaces 58 = .ok (.aload_n 0, 1) := by decide +kernel
theorem d_P_addPlaces_59 : decode c_P_addPlaces 59 = .ok (.getfield 29, 3) := by decide +kernel
theorem d_P_addPlaces_62 : decode c_P_addPlaces 62 = .ok (.iload_n 3, 1) := by decide +kernel
theorem d_P_addPlaces_63 : decode c_P_addPlaces 63 = .ok (.i2l, 1) := by decide +kernel
theorem d_P_addPlaces_64 : decode c_P_addPlaces 64 = .ok (.invokevirtual 188, 3) := by decide +kernel
theorem d_P_addPlaces_67 : decode c_P_addPlaces 67 = .ok (.ifCond .ne 5, 3) := by decide +kernel
theorem d_P_addPlaces_70 : decode c_P_addPlaces 70 = .ok (.iconst 0, 1) := by decide +kernel
theorem d_P_addPlaces_71 : decode c_P_addPlaces 71 = .ok (.ireturn, 1) := by decide +kernel
theorem d_P_addPlaces_72 : decode c_P_addPlaces 72 = .ok (.iinc 3 1, 3) := by decide +kernel
theorem d_P_addPlaces_75 : decode c_P_addPlaces 75 = .ok (.goto (-49), 3) := by decide +kernel
theorem d_P_addPlaces_78 : decode c_P_addPlaces 78 = .ok (.iconst 1, 1) := by decide +kernel
theorem d_P_addPlaces_79 : decode c_P_addPlaces 79 = .ok (.ireturn, 1) := by decide +kernel
noncomputable section
theorem ff_le (f : Nat → Int64) (x : Int64) : ∀ (n lo hi : Nat), lo ≤ hi → ps_ff f x n lo hi ≤ hi := by
  intro n
  induction n with
  | zero => intro lo hi h; exact h
  | succ n ih =>
    intro lo hi h
    unfold ps_ff
    split
    · split
      · exact ih _ _ (by omega)
      · exact Nat.le_trans (ih _ _ (by omega)) (by omega)
    · exact h
/-- the first hot pixel from x on -/
def ff (R : RS) (x : Int64) : Nat := ps_ff R.2.1 x (R.2.2 + 1) 0 R.2.2
theorem ff_z (R : RS) (x : Int64) : ff R x ≤ R.2.2 := ff_le _ _ _ _ _ (Nat.zero_le _)
def ap_go (q : SQ) (f : Nat → Int64) (e : Nat) : Nat → Nat → RS → RS × Bool
  | 0, _, R => (R, true)
  | fu + 1, h, R => if h < e then (if b01 (sg_enters q (sg_kx (f h)) (sg_ky (f h))) = 0 then ap_go q f e fu (h + 1) R else if R.2.2 < 65536 then ap_go q f e fu (h + 1) (rs_add 65536 R (lN h)) else (R, false)) else (R, true)
theorem ap_ok {q : SQ} {f : Nat → Int64} {e : Nat} : ∀ (fu h : Nat) (R : RS), rs_ok 65536 R → rs_ok 65536 (ap_go q f e fu h R).1 ∧ R.1 ≤ (ap_go q f e fu h R).1.1 := by
  intro fu
  induction fu with
  | zero => intro j R h; exact ⟨h, Nat.le_refl _⟩
  | succ fu ih =>
    intro j R h
    unfold ap_go
    have h1 := rs_add_ok (x := lN j) h
    split
    · split
      · exact ih _ _ h
      · split
        · have h2 := ih (j + 1) _ h1.1
          exact ⟨h2.1, Nat.le_trans h1.2 h2.2⟩
        · exact ⟨h, Nat.le_refl _⟩
    · exact ⟨h, Nat.le_refl _⟩
/-- the places of a segment, by rising keys -/
def ap_all (q : SQ) (R1 R3 : RS) : RS × Bool := ap_go q R1.2.1 (ff R1 (sg_key (smx q) (smy q) + 1)) (R1.2.2 + 1) (ff R1 (sg_key (slx q) (sly q))) R3
theorem rw_at_in {f : Nat → Int64} {z i : Nat} (h : i < z) (hz : z < 2 ^ 31) : rw_at f (nI z) (nI i) = f i := by
  have e1 : rw_has (nI z) (nI i) = 1 := by
    rw [rw_has, if_neg (nI_pos (by omega)), if_neg (fun q => absurd ((nI_leI (by omega) (by omega)).mp q) (by omega))]
  rw [rw_at, e1, if_neg (by decide), nI_clamp (by omega)]
set_option maxHeartbeats 4000000 in
set_option maxRecDepth 100000 in
theorem k_P_addPlaces (l : Launch) (D : va_G) (E : ClassId × ClassId × ClassId × ClassId) (h0 sz a1 a3 : Nat) (ad : Nat → Nat) (sn : Int32) (LP : List Nat) (pf : Nat → va_E) (R1 R3 : RS) (ho1 : rs_ok 16384 R1) (ho3 : rs_ok 65536 R3) (y : Nat) (q : SQ) (hy : y ∈ LP) (hfy : pf y = .inr (1, sgF q))  : Met l y_P_addPlaces (.code y_P_addPlaces c_P_addPlaces 6 (some .boolean) :: gw) ({ frames := 3, cells := ((ap_all q R1 R3).1.1 - R3.1), slots := (pot 65536 R3.1 - pot 65536 (ap_all q R1 R3).1.1), locals := 105 } : Room) (wP D E ([(h0, .inr (2, [.ref (ad 0), .ref (ad 1), .ref (ad 2), .ref (ad 3), .ref (ad 4), .ref (ad 5), .int sn])), ((ad 1), .inr (0, [.int (nI 16384), .ref a1, .int (nI R1.2.2)])), (a1, .inl (E.1, R1.1, .inr (.inl R1.2.1))), ((ad 3), .inr (0, [.int (nI 65536), .ref a3, .int (nI R3.2.2)])), (a3, .inl (E.1, R3.1, .inr (.inl R3.2.1)))] ++ va_pl LP pf) sz [.ref h0, .ref y]) (va_Qi (fun (r : Int32) (u : Nat) => r = if (ap_all q R1 R3).2 = true then 1 else 0) (wB D (fun u => ([(h0, .inr (2, [.ref (ad 0), .ref (ad 1), .ref (ad 2), .ref (ad 3), .ref (ad 4), .ref (ad 5), .int sn])), ((ad 1), .inr (0, [.int (nI 16384), .ref a1, .int (nI R1.2.2)])), (a1, .inl (E.1, R1.1, .inr (.inl R1.2.1))), ((ad 3), .inr (0, [.int (nI 65536), .ref u, .int (nI (ap_all q R1 R3).1.2.2)])), (u, .inl (E.1, (ap_all q R1 R3).1.1, .inr (.inl ((ap_all q R1 R3).1.2.1))))] ++ va_pl LP pf)) (va_A ([(h0, .inr (2, [.ref (ad 0), .ref (ad 1), .ref (ad 2), .ref (ad 3), .ref (ad 4), .ref (ad 5), .int sn])), ((ad 1), .inr (0, [.int (nI 16384), .ref a1, .int (nI R1.2.2)])), (a1, .inl (E.1, R1.1, .inr (.inl R1.2.1))), ((ad 3), .inr (0, [.int (nI 65536), .ref a3, .int (nI R3.2.2)])), (a3, .inl (E.1, R3.1, .inr (.inl R3.2.1)))] ++ va_pl LP pf) sz)) (va_A ([(h0, .inr (2, [.ref (ad 0), .ref (ad 1), .ref (ad 2), .ref (ad 3), .ref (ad 4), .ref (ad 5), .int sn])), ((ad 1), .inr (0, [.int (nI 16384), .ref a1, .int (nI R1.2.2)])), (a1, .inl (E.1, R1.1, .inr (.inl R1.2.1))), ((ad 3), .inr (0, [.int (nI 65536), .ref a3, .int (nI R3.2.2)])), (a3, .inl (E.1, R3.1, .inr (.inl R3.2.1)))] ++ va_pl LP pf) sz)) ((ap_all q R1 R3).1.1 - R3.1) (pot 65536 R3.1 - pot 65536 (ap_all q R1 R3).1.1) (va_A ([(h0, .inr (2, [.ref (ad 0), .ref (ad 1), .ref (ad 2), .ref (ad 3), .ref (ad 4), .ref (ad 5), .int sn])), ((ad 1), .inr (0, [.int (nI 16384), .ref a1, .int (nI R1.2.2)])), (a1, .inl (E.1, R1.1, .inr (.inl R1.2.1))), ((ad 3), .inr (0, [.int (nI 65536), .ref a3, .int (nI R3.2.2)])), (a3, .inl (E.1, R3.1, .inr (.inl R3.2.1)))] ++ va_pl LP pf) sz) := by
  refine wr_ofW (y := y_P_addPlaces) (cc := c_P_addPlaces) (maxL := 6) (ws := ([(h0, .inr (2, [.ref (ad 0), .ref (ad 1), .ref (ad 2), .ref (ad 3), .ref (ad 4), .ref (ad 5), .int sn])), ((ad 1), .inr (0, [.int (nI 16384), .ref a1, .int (nI R1.2.2)])), (a1, .inl (E.1, R1.1, .inr (.inl R1.2.1))), ((ad 3), .inr (0, [.int (nI 65536), .ref a3, .int (nI R3.2.2)])), (a3, .inl (E.1, R3.1, .inr (.inl R3.2.1)))] ++ va_pl LP pf)) (sz := sz) (av := [.ref h0, .ref y]) (Qc := fun A => (va_Qi (fun (r : Int32) (u : Nat) => r = if (ap_all q R1 R3).2 = true then 1 else 0) (wB D (fun u => ([(h0, .inr (2, [.ref (ad 0), .ref (ad 1), .ref (ad 2), .ref (ad 3), .ref (ad 4), .ref (ad 5), .int sn])), ((ad 1), .inr (0, [.int (nI 16384), .ref a1, .int (nI R1.2.2)])), (a1, .inl (E.1, R1.1, .inr (.inl R1.2.1))), ((ad 3), .inr (0, [.int (nI 65536), .ref u, .int (nI (ap_all q R1 R3).1.2.2)])), (u, .inl (E.1, (ap_all q R1 R3).1.1, .inr (.inl ((ap_all q R1 R3).1.2.1))))] ++ va_pl LP pf)) A) A)) (by decide) (Nat.le_of_ble_eq_true rfl) ?_
  intro p e s m below meth c B hP hK A hA hD hS ls hl
  obtain ⟨hx, hb, hrt, hml, hown, hts, hG, hlocks, hin⟩ := B
  have hl : lv_has ls 6 [(0, .ref h0), (1, .ref y)] := hl
  obtain ⟨T, hT⟩ : ∃ T, T = (ap_all q R1 R3) := ⟨_, rfl⟩
  rw [← hT]
  rw [ap_all] at hT
  obtain ⟨q11, q12, q13⟩ := id ho1
  refine lv_aload_n hx hb d_P_addPlaces_0 rfl (lv_at hl 0 rfl) ?_
  refine va_get (D := D) (ci := 2) (v := .ref (ad 1)) (C := K_P) (T := F_P) (N := 7) hx hb hG in_P hown hK.1 hP 0 rfl rfl 1 (by decide) (hG _ wd_110) (fun _ h9 => h9) rfl d_P_addPlaces_1 ?_
  refine lv_aload_n hx hb d_P_addPlaces_4 rfl (lv_at hl 1 rfl) ?_
  have hPc : va_P D vwC [(y, .inr (1, sgF q))] s.heap := pl_one (X := [(h0, .inr (2, [.ref (ad 0), .ref (ad 1), .ref (ad 2), .ref (ad 3), .ref (ad 4), .ref (ad 5), .int sn])), ((ad 1), .inr (0, [.int (nI 16384), .ref a1, .int (nI R1.2.2)])), (a1, .inl (E.1, R1.1, .inr (.inl R1.2.1))), ((ad 3), .inr (0, [.int (nI 65536), .ref a3, .int (nI R3.2.2)])), (a3, .inl (E.1, R3.1, .inr (.inl R3.2.1)))]) hP hy hfy
  refine vp_callSl (W.runV (As := []) (rest := [.ref (ad 1)]) ⟨hx, hb, hml, hown, hts⟩ (k_S_mostKey l D E y q) (cwV 0 hts (gw_gv wd_471 wd_472 wd_473 wd_48 wd_474) rfl rfl rfl (by decide +kernel) ⟨Nat.le_of_ble_eq_true rfl, Nat.le_of_ble_eq_true rfl⟩) (rP_V 0 hPc hK rfl rfl) rfl rfl hl.1 rfl (lv_room (Nat.le_of_ble_eq_true rfl)) d_P_addPlaces_5 ⟨Nat.zero_le _, Nat.zero_le _⟩) (fun r1 hr1 => ?_)
  subst hr1
  refine lv_lconst (v := 1) hx hb d_P_addPlaces_8 (by decide) ?_
  refine lv_ladd hx hb d_P_addPlaces_9 ?_
  have hPc := hP.sub (ws' := [((ad 1), .inr (0, [.int (nI 16384), .ref a1, .int (nI R1.2.2)])), (a1, .inl (E.1, R1.1, .inr (.inl R1.2.1)))]) [1, 2] rfl
  refine vp_callSi (W.runV (As := [.long ((sg_key (smx q) (smy q)) + 1)]) (rest := []) ⟨hx, hb, hml, hown, hts⟩ (k_R_firstFrom l D E (ad 1) a1 (nI 16384) (sg_key (smx q) (smy q) + 1) R1.2.2 R1.1 R1.2.1 q12 (by omega)) (cwV 1 hts (gw_gv wd_475 wd_476 wd_477 wd_41 wd_478) rfl rfl rfl (by decide +kernel) ⟨Nat.le_of_ble_eq_true rfl, Nat.le_of_ble_eq_true rfl⟩) (rP_V 0 hPc hK rfl rfl) rfl rfl hl.1 rfl (lv_room (Nat.le_of_ble_eq_true rfl)) d_P_addPlaces_10 ⟨Nat.zero_le _, Nat.zero_le _⟩) (fun r2 hr2 => ?_)
  obtain rfl : r2 = nI (ff R1 (sg_key (smx q) (smy q) + 1)) := hr2
  refine lv_istore_n (lv' := [(2, .int (nI (ff R1 (sg_key (smx q) (smy q) + 1)))), (0, .ref h0), (1, .ref y)]) hx hb d_P_addPlaces_13 rfl hl (by decide) rfl (fun ls hl => ?_)
  refine lv_aload_n hx hb d_P_addPlaces_14 rfl (lv_at hl 1 rfl) ?_
  refine va_get (D := D) (ci := 2) (v := .ref (ad 1)) (C := K_P) (T := F_P) (N := 7) hx hb hG in_P hown hK.1 hP 0 rfl rfl 1 (by decide) (hG _ wd_110) (fun _ h9 => h9) rfl d_P_addPlaces_15 ?_
  refine lv_aload_n hx hb d_P_addPlaces_18 rfl (lv_at hl 2 rfl) ?_
  have hPc : va_P D vwC [(y, .inr (1, sgF q))] s.heap := pl_one (X := [(h0, .inr (2, [.ref (ad 0), .ref (ad 1), .ref (ad 2), .ref (ad 3), .ref (ad 4), .ref (ad 5), .int sn])), ((ad 1), .inr (0, [.int (nI 16384), .ref a1, .int (nI R1.2.2)])), (a1, .inl (E.1, R1.1, .inr (.inl R1.2.1))), ((ad 3), .inr (0, [.int (nI 65536), .ref a3, .int (nI R3.2.2)])), (a3, .inl (E.1, R3.1, .inr (.inl R3.2.1)))]) hP hy hfy
  refine vp_callSl (W.runV (As := []) (rest := [.ref (ad 1)]) ⟨hx, hb, hml, hown, hts⟩ (k_S_leastKey l D E y q) (cwV 0 hts (gw_gv wd_479 wd_480 wd_481 wd_48 wd_482) rfl rfl rfl (by decide +kernel) ⟨Nat.le_of_ble_eq_true rfl, Nat.le_of_ble_eq_true rfl⟩) (rP_V 0 hPc hK rfl rfl) rfl rfl hl.1 rfl (lv_room (Nat.le_of_ble_eq_true rfl)) d_P_addPlaces_19 ⟨Nat.zero_le _, Nat.zero_le _⟩) (fun r3 hr3 => ?_)
  subst hr3
  have hPc := hP.sub (ws' := [((ad 1), .inr (0, [.int (nI 16384), .ref a1, .int (nI R1.2.2)])), (a1, .inl (E.1, R1.1, .inr (.inl R1.2.1)))]) [1, 2] rfl
  refine vp_callSi (W.runV (As := [.long (sg_key (slx q) (sly q))]) (rest := []) ⟨hx, hb, hml, hown, hts⟩ (k_R_firstFrom l D E (ad 1) a1 (nI 16384) (sg_key (slx q) (sly q)) R1.2.2 R1.1 R1.2.1 q12 (by omega)) (cwV 1 hts (gw_gv wd_475 wd_476 wd_477 wd_41 wd_478) rfl rfl rfl (by decide +kernel) ⟨Nat.le_of_ble_eq_true rfl, Nat.le_of_ble_eq_true rfl⟩) (rP_V 0 hPc hK rfl rfl) rfl rfl hl.1 rfl (lv_room (Nat.le_of_ble_eq_true rfl)) d_P_addPlaces_22 ⟨Nat.zero_le _, Nat.zero_le _⟩) (fun r4 hr4 => ?_)
  obtain rfl : r4 = nI (ff R1 (sg_key (slx q) (sly q))) := hr4
  refine lv_istore_n (lv' := [(3, .int (nI (ff R1 (sg_key (slx q) (sly q))))), (2, .int (nI (ff R1 (sg_key (smx q) (smy q) + 1)))), (0, .ref h0), (1, .ref y)]) hx hb d_P_addPlaces_25 rfl hl (by decide) rfl (fun ls hl => ?_)
  have fz := ff_z R1 (sg_key (smx q) (smy q) + 1)
  have fb := ff_z R1 (sg_key (slx q) (sly q))
  generalize (ff R1 (sg_key (smx q) (smy q) + 1)) = en at hT fz hl ⊢
  generalize (ff R1 (sg_key (slx q) (sly q))) = bn at hT fb hl ⊢
  have loop : ∀ (fu : Nat) (h : Nat) (R : RS) (b : Nat) (H : Heap) (locs : List Loc) (ls : Array Slot), (h ≤ R1.2.2) → (R1.2.2 < h + fu) → (ap_go q R1.2.1 en fu h R = T) → (rs_ok 65536 R) → (R3.1 ≤ R.1) → va_P D vwC ([(h0, .inr (2, [.ref (ad 0), .ref (ad 1), .ref (ad 2), .ref (ad 3), .ref (ad 4), .ref (ad 5), .int sn])), ((ad 1), .inr (0, [.int (nI 16384), .ref a1, .int (nI R1.2.2)])), (a1, .inl (E.1, R1.1, .inr (.inl R1.2.1))), ((ad 3), .inr (0, [.int (nI 65536), .ref b, .int (nI R.2.2)])), (b, .inl (E.1, R.1, .inr (.inl R.2.1)))] ++ va_pl LP pf) H → va_D A ([(h0, .inr (2, [.ref (ad 0), .ref (ad 1), .ref (ad 2), .ref (ad 3), .ref (ad 4), .ref (ad 5), .int sn])), ((ad 1), .inr (0, [.int (nI 16384), .ref a1, .int (nI R1.2.2)])), (a1, .inl (E.1, R1.1, .inr (.inl R1.2.1))), ((ad 3), .inr (0, [.int (nI 65536), .ref b, .int (nI R.2.2)])), (b, .inl (E.1, R.1, .inr (.inl R.2.1)))] ++ va_pl LP pf) → va_S A s.heap H locs → lv_has ls 6 [(0, .ref h0), (1, .ref y), (2, .int (nI en)), (3, .int (nI h))] → W p l e ({ frames := 3, cells := (T.1.1 - R3.1), slots := (pot 65536 R3.1 - pot 65536 T.1.1), locals := 105 } : Room) s m ([.ref h0, .ref y] : List Value).toArray below meth c H locs (R.1 - R3.1) (pot 65536 R3.1 - pot 65536 R.1) (MQ below (va_Qi (fun (r : Int32) (u : Nat) => r = if T.2 = true then 1 else 0) (wB D (fun u => ([(h0, .inr (2, [.ref (ad 0), .ref (ad 1), .ref (ad 2), .ref (ad 3), .ref (ad 4), .ref (ad 5), .int sn])), ((ad 1), .inr (0, [.int (nI 16384), .ref a1, .int (nI R1.2.2)])), (a1, .inl (E.1, R1.1, .inr (.inl R1.2.1))), ((ad 3), .inr (0, [.int (nI 65536), .ref u, .int (nI T.1.2.2)])), (u, .inl (E.1, T.1.1, .inr (.inl T.1.2.1)))] ++ va_pl LP pf)) A) A) ([.ref h0, .ref y] : List Value).toArray s (T.1.1 - R3.1) (pot 65536 R3.1 - pot 65536 T.1.1) A) (F0 m 26 ls []) := by
    intro fu
    induction fu with
    | zero =>
      intro h R b H locs ls h1 h2 h3 h4 h5 hP hD hS hl
      omega
    | succ fu ih =>
      intro h R b H locs ls h1 h2 h3 h4 h5 hP hD hS hl
      have o1 := (ap_ok (q := q) (f := R1.2.1) (e := en) (fu + 1) h R h4).2
      rw [h3] at o1
      have o2 := pot_anti (m := 65536) o1
      have o3 := pot_anti (m := 65536) h5
      rw [ap_go] at h3
      refine lv_iload_n hx hb d_P_addPlaces_26 rfl (lv_at hl 3 rfl) ?_
      refine lv_iload_n hx hb d_P_addPlaces_27 rfl (lv_at hl 2 rfl) ?_
      refine lv_icmp_ge (tgt := 78) hx hb d_P_addPlaces_28 (by decide) (fun c1 => ?_) (fun c1 => ?_)
      · have q9 : ¬ h < en := by have := (nI_leI (by omega) (by omega)).mp c1; omega
        rw [if_neg q9] at h3
        subst h3
        refine lv_iconst (v := 1) hx hb d_P_addPlaces_78 (by decide) ?_
        exact W.zret (v := 1) (ty := .boolean) hx hb hrt rfl (fun t ht hW => ⟨⟨1, b, rfl, rfl, ⟨by rw [ht]; exact hP, hD⟩⟩, hS.F ht⟩) hS.2.2 d_P_addPlaces_79 hlocks
      · have q9 : h < en := by rw [nI_leI (by omega) (by omega)] at c1; omega
        rw [if_pos q9] at h3
        refine lv_aload_n hx hb d_P_addPlaces_31 rfl (lv_at hl 0 rfl) ?_
        refine va_get (D := D) (ci := 2) (v := .ref (ad 1)) (C := K_P) (T := F_P) (N := 7) hx hb hG in_P hown hK.1 hP 0 rfl rfl 1 (by decide) (hG _ wd_110) (fun _ h9 => h9) rfl d_P_addPlaces_32 ?_
        refine lv_iload_n hx hb d_P_addPlaces_35 rfl (lv_at hl 3 rfl) ?_
        have hPc := hP.sub (ws' := [((ad 1), .inr (0, [.int (nI 16384), .ref a1, .int (nI R1.2.2)])), (a1, .inl (E.1, R1.1, .inr (.inl R1.2.1)))]) [1, 2] rfl
        refine vp_callSl (W.runV (As := [.int (nI h)]) (rest := []) ⟨hx, hb, hml, hown, hts⟩ (k_R_at l D E (ad 1) a1 (nI 16384) (nI h) R1.2.2 R1.1 R1.2.1 q12 (by omega)) (cwV 1 hts (gw_gv wd_483 wd_484 wd_485 wd_41 wd_486) rfl rfl rfl (by decide +kernel) ⟨Nat.le_of_ble_eq_true rfl, Nat.le_of_ble_eq_true rfl⟩) (rP_V 0 hPc hK rfl rfl) rfl rfl hl.1 rfl (lv_room (Nat.le_of_ble_eq_true rfl)) d_P_addPlaces_36 ⟨by show _ ≤ T.1.1 - R3.1; omega, by show _ ≤ pot 65536 R3.1 - pot 65536 T.1.1; omega⟩) (fun r5 hr5 => ?_)
        rw [rw_at_in (by omega) (by omega)] at hr5
        subst hr5
        refine lv_lstore (lv' := [(4, .long (R1.2.1 h)), (0, .ref h0), (1, .ref y), (2, .int (nI en)), (3, .int (nI h))]) hx hb d_P_addPlaces_39 hl (by decide) rfl (fun ls hl => ?_)
        refine lv_aload_n hx hb d_P_addPlaces_41 rfl (lv_at hl 2 rfl) ?_
        refine lv_lload hx hb d_P_addPlaces_42 (lv_at hl 0 rfl) ?_
        have hPc := hP.sub (ws' := []) [] rfl
        refine vp_callSl (W.runS (As := [.long (R1.2.1 h)]) (rest := [.ref y]) ⟨hx, hb, hml, hown, hts⟩ (k_P_keyX l D E (R1.2.1 h)) (va_cwS 1 hts (gw_gs wd_492 wd_493 wd_37 wd_494) rfl rfl rfl (by decide +kernel) ⟨Nat.le_of_ble_eq_true rfl, Nat.le_of_ble_eq_true rfl⟩) (rP_S hPc hK) rfl rfl hl.1 rfl (lv_room (Nat.le_of_ble_eq_true rfl)) d_P_addPlaces_44 ⟨by show _ ≤ T.1.1 - R3.1; omega, by show _ ≤ pot 65536 R3.1 - pot 65536 T.1.1; omega⟩) (fun r6 hr6 => ?_)
        subst hr6
        refine lv_lload hx hb d_P_addPlaces_47 (lv_at hl 0 rfl) ?_
        have hPc := hP.sub (ws' := []) [] rfl
        refine vp_callSl (W.runS (As := [.long (R1.2.1 h)]) (rest := [.long (sg_kx (R1.2.1 h)), .ref y]) ⟨hx, hb, hml, hown, hts⟩ (k_P_keyY l D E (R1.2.1 h)) (va_cwS 1 hts (gw_gs wd_495 wd_496 wd_37 wd_497) rfl rfl rfl (by decide +kernel) ⟨Nat.le_of_ble_eq_true rfl, Nat.le_of_ble_eq_true rfl⟩) (rP_S hPc hK) rfl rfl hl.1 rfl (lv_room (Nat.le_of_ble_eq_true rfl)) d_P_addPlaces_49 ⟨by show _ ≤ T.1.1 - R3.1; omega, by show _ ≤ pot 65536 R3.1 - pot 65536 T.1.1; omega⟩) (fun r7 hr7 => ?_)
        subst hr7
        have hPc : va_P D vwC [(y, .inr (1, sgF q))] H := pl_one (X := [(h0, .inr (2, [.ref (ad 0), .ref (ad 1), .ref (ad 2), .ref (ad 3), .ref (ad 4), .ref (ad 5), .int sn])), ((ad 1), .inr (0, [.int (nI 16384), .ref a1, .int (nI R1.2.2)])), (a1, .inl (E.1, R1.1, .inr (.inl R1.2.1))), ((ad 3), .inr (0, [.int (nI 65536), .ref b, .int (nI R.2.2)])), (b, .inl (E.1, R.1, .inr (.inl R.2.1)))]) hP hy hfy
        refine vp_callSi (W.runV (As := [.long (sg_kx (R1.2.1 h)), .long (sg_ky (R1.2.1 h))]) (rest := []) ⟨hx, hb, hml, hown, hts⟩ (k_S_enters l D E y q (sg_kx (R1.2.1 h)) (sg_ky (R1.2.1 h))) (cwV 2 hts (gw_gv wd_499 wd_500 wd_501 wd_48 wd_502) rfl rfl rfl (by decide +kernel) ⟨Nat.le_of_ble_eq_true rfl, Nat.le_of_ble_eq_true rfl⟩) (rP_V 0 hPc hK rfl rfl) rfl rfl hl.1 rfl (lv_room (Nat.le_of_ble_eq_true rfl)) d_P_addPlaces_52 ⟨by show _ ≤ T.1.1 - R3.1; omega, by show _ ≤ pot 65536 R3.1 - pot 65536 T.1.1; omega⟩) (fun r8 hr8 => ?_)
        subst hr8
        refine lv_if_eq (tgt := 72) hx hb d_P_addPlaces_55 (by decide) (fun c2 => ?_) (fun c2 => ?_)
        · rw [if_pos c2] at h3
          refine lv_iinc (v := nI (h + 1)) (lv' := [(3, .int (nI (h + 1))), (4, .long (R1.2.1 h)), (0, .ref h0), (1, .ref y), (2, .int (nI en))]) hx hb d_P_addPlaces_72 hl (k := 4) rfl (iinc_p _) (by decide) rfl (fun ls hl => ?_)
          refine lv_goto (tgt := 26) hx hb d_P_addPlaces_75 (by decide) ?_
          exact ih (h + 1) R b H locs ls (by omega) (by omega) h3 h4 h5 hP hD hS (lv_sub hl [2, 3, 4, 0] rfl)
        · rw [if_neg c2] at h3
          refine lv_aload_n hx hb d_P_addPlaces_58 rfl (lv_at hl 1 rfl) ?_
          refine va_get (D := D) (ci := 2) (v := .ref (ad 3)) (C := K_P) (T := F_P) (N := 7) hx hb hG in_P hown hK.1 hP 0 rfl rfl 3 (by decide) (hG _ wd_112) (fun _ h9 => h9) rfl d_P_addPlaces_59 ?_
          refine lv_iload_n hx hb d_P_addPlaces_62 rfl (lv_at hl 4 rfl) ?_
          refine lv_i2l hx hb d_P_addPlaces_63 rfl ?_
          rw [show (Int32.toInt64 (nI h)) = lN h from nI_l (by omega)]
          by_cases c3 : R.2.2 < 65536
          · rw [if_pos c3] at h3
            obtain ⟨qa, qb, qc⟩ := id h4
            have e1 : rs_add 65536 R (lN h) = (ra_n R.2.2 R.1 65536, ra_f R.2.1 R.2.2 R.1 (lN h), R.2.2 + 1) := if_neg (by omega)
            have g1 := rs_add_ok (x := lN h) h4
            rw [e1] at h3 g1
            have r1 := ra_n_le (z := R.2.2) (n := R.1) (m := 65536) qb qa (by omega) qc
            have r2 := ra_c_le (z := R.2.2) (n := R.1) (m := 65536) qb qa (by omega) qc
            have r3 := ra_s_le (z := R.2.2) (n := R.1) (m := 65536) qb qa (by omega) qc
            have r4 : ra_n R.2.2 R.1 65536 ≤ T.1.1 := by have := (ap_ok (q := q) (f := R1.2.1) (e := en) fu (h + 1) _ g1.1).2; rw [h3] at this; exact this
            have r5 := pot_anti (m := 65536) r4
            have hPc := hP.sub (ws' := [((ad 3), .inr (0, [.int (nI 65536), .ref b, .int (nI R.2.2)])), (b, .inl (E.1, R.1, .inr (.inl R.2.1)))]) [3, 4] rfl
            have hDc := hD.sub (ws' := [((ad 3), .inr (0, [.int (nI 65536), .ref b, .int (nI R.2.2)])), (b, .inl (E.1, R.1, .inr (.inl R.2.1)))]) [3, 4] (by decide) rfl
            have hFc := va_free (wc := [((ad 3), .inr (0, [.int (nI 65536), .ref b, .int (nI R.2.2)])), (b, .inl (E.1, R.1, .inr (.inl R.2.1)))]) hD hS hA [3, 4] rfl
            refine va_calli (va_runV (As := [.long (lN h)]) (rest := []) ⟨hx, hb, hml, hown, hts⟩ (k_R_add l D E (ad 3) b H.size 65536 R.2.2 R.1 R.2.1 (lN h) qa qb c3 qc (by omega)) (cwV 1 hts (gw_gv wd_415 wd_416 wd_417 wd_41 wd_418) rfl rfl rfl (by decide +kernel) ⟨Nat.le_of_ble_eq_true rfl, Nat.le_of_ble_eq_true rfl⟩) (wP_V 0 hPc hK hDc rfl rfl) rfl rfl hl.1 rfl (lv_room (Nat.le_of_ble_eq_true rfl)) d_P_addPlaces_64 ⟨by show _ + ra_c R.2.2 R.1 ≤ T.1.1 - R3.1; omega, by show _ + ra_s R.2.2 R.1 65536 ≤ pot 65536 R3.1 - pot 65536 T.1.1; omega⟩) hS (fun q _ h => hFc q h) hFc (fun r9 u1 t H1 locs ht hvm hw hB hz1 hk1 hS => ?_)
            obtain ⟨hP1, hD1⟩ := hB
            rw [ht] at hP1
            obtain ⟨hP, hD⟩ := va_joinQ (X := [(h0, .inr (2, [.ref (ad 0), .ref (ad 1), .ref (ad 2), .ref (ad 3), .ref (ad 4), .ref (ad 5), .int sn])), ((ad 1), .inr (0, [.int (nI 16384), .ref a1, .int (nI R1.2.2)])), (a1, .inl (E.1, R1.1, .inr (.inl R1.2.1))), ((ad 3), .inr (0, [.int (nI 65536), .ref b, .int (nI R.2.2)])), (b, .inl (E.1, R.1, .inr (.inl R.2.1)))]) (cx := [((ad 3), .inr (0, [.int (nI 65536), .ref b, .int (nI R.2.2)])), (b, .inl (E.1, R.1, .inr (.inl R.2.1)))]) (wr := [(h0, .inr (2, [.ref (ad 0), .ref (ad 1), .ref (ad 2), .ref (ad 3), .ref (ad 4), .ref (ad 5), .int sn])), ((ad 1), .inr (0, [.int (nI 16384), .ref a1, .int (nI R1.2.2)])), (a1, .inl (E.1, R1.1, .inr (.inl R1.2.1)))]) (w1 := [((ad 3), .inr (0, [.int (nI 65536), .ref u1, .int (nI (ra_n R.2.2 R.1 65536, ra_f R.2.1 R.2.2 R.1 (lN h), R.2.2 + 1).2.2)])), (u1, .inl (E.1, (ra_n R.2.2 R.1 65536, ra_f R.2.1 R.2.2 R.1 (lN h), R.2.2 + 1).1, .inr (.inl ((ra_n R.2.2 R.1 65536, ra_f R.2.1 R.2.2 R.1 (lN h), R.2.2 + 1).2.1))))]) (pl := va_pl LP pf) hP hD [3, 4] [0, 1, 2] rfl rfl (by decide) (by decide) hk1 hFc hP1 hD1
            generalize H1 = H at hP hS ⊢
            have hP : va_P D vwC ([(h0, .inr (2, [.ref (ad 0), .ref (ad 1), .ref (ad 2), .ref (ad 3), .ref (ad 4), .ref (ad 5), .int sn])), ((ad 1), .inr (0, [.int (nI 16384), .ref a1, .int (nI R1.2.2)])), (a1, .inl (E.1, R1.1, .inr (.inl R1.2.1))), ((ad 3), .inr (0, [.int (nI 65536), .ref u1, .int (nI (ra_n R.2.2 R.1 65536, ra_f R.2.1 R.2.2 R.1 (lN h), R.2.2 + 1).2.2)])), (u1, .inl (E.1, (ra_n R.2.2 R.1 65536, ra_f R.2.1 R.2.2 R.1 (lN h), R.2.2 + 1).1, .inr (.inl ((ra_n R.2.2 R.1 65536, ra_f R.2.1 R.2.2 R.1 (lN h), R.2.2 + 1).2.1))))] ++ va_pl LP pf) H := hP
            have hD : va_D A ([(h0, .inr (2, [.ref (ad 0), .ref (ad 1), .ref (ad 2), .ref (ad 3), .ref (ad 4), .ref (ad 5), .int sn])), ((ad 1), .inr (0, [.int (nI 16384), .ref a1, .int (nI R1.2.2)])), (a1, .inl (E.1, R1.1, .inr (.inl R1.2.1))), ((ad 3), .inr (0, [.int (nI 65536), .ref u1, .int (nI (ra_n R.2.2 R.1 65536, ra_f R.2.1 R.2.2 R.1 (lN h), R.2.2 + 1).2.2)])), (u1, .inl (E.1, (ra_n R.2.2 R.1 65536, ra_f R.2.1 R.2.2 R.1 (lN h), R.2.2 + 1).1, .inr (.inl ((ra_n R.2.2 R.1 65536, ra_f R.2.1 R.2.2 R.1 (lN h), R.2.2 + 1).2.1))))] ++ va_pl LP pf) := hD
            obtain rfl : r9 = 1 := hw
            refine W.widen (k := (ra_n R.2.2 R.1 65536 - R3.1)) (n := (pot 65536 R3.1 - pot 65536 (ra_n R.2.2 R.1 65536))) (by omega) (by omega) ?_
            refine lv_if_ne (tgt := 72) hx hb d_P_addPlaces_67 (by decide) (fun c4 => ?_) (fun c4 => ?_)
            · refine lv_iinc (v := nI (h + 1)) (lv' := [(3, .int (nI (h + 1))), (4, .long (R1.2.1 h)), (0, .ref h0), (1, .ref y), (2, .int (nI en))]) hx hb d_P_addPlaces_72 hl (k := 4) rfl (iinc_p _) (by decide) rfl (fun ls hl => ?_)
              refine lv_goto (tgt := 26) hx hb d_P_addPlaces_75 (by decide) ?_
              exact ih (h + 1) (ra_n R.2.2 R.1 65536, ra_f R.2.1 R.2.2 R.1 (lN h), R.2.2 + 1) u1 H locs ls (by omega) (by omega) h3 g1.1 (by show R3.1 ≤ ra_n _ _ _; omega) hP hD hS (lv_sub hl [2, 3, 4, 0] rfl)
            · exact absurd c4 (by decide)
          · rw [if_neg c3] at h3
            have hPc := hP.sub (ws' := [((ad 3), .inr (0, [.int (nI 65536), .ref b, .int (nI R.2.2)]))]) [3] rfl
            have hDc := hD.sub (ws' := [((ad 3), .inr (0, [.int (nI 65536), .ref b, .int (nI R.2.2)]))]) [3] (by decide) rfl
            have hFc := va_free (wc := [((ad 3), .inr (0, [.int (nI 65536), .ref b, .int (nI R.2.2)]))]) hD hS hA [3] rfl
            refine va_calli (va_runV (As := [.long (lN h)]) (rest := []) ⟨hx, hb, hml, hown, hts⟩ (k_R_add3 l D E (ad 3) b H.size 65536 R.2.2 (lN h) (by omega) (by have := h4.2.1; have := h4.2.2; omega)) (cwV 1 hts (gw_gv wd_415 wd_416 wd_417 wd_41 wd_418) rfl rfl rfl (by decide +kernel) ⟨Nat.le_of_ble_eq_true rfl, Nat.le_of_ble_eq_true rfl⟩) (wP_V 0 hPc hK hDc rfl rfl) rfl rfl hl.1 rfl (lv_room (Nat.le_of_ble_eq_true rfl)) d_P_addPlaces_64 ⟨by show _ ≤ T.1.1 - R3.1; omega, by show _ ≤ pot 65536 R3.1 - pot 65536 T.1.1; omega⟩) hS (fun q _ h => hFc q h) hFc (fun r9 u t H1 locs ht hvm hw hB hz1 hk1 hS => ?_)
            obtain ⟨hP1, hD1⟩ := hB
            rw [ht] at hP1
            obtain ⟨hP, hD⟩ := va_joinQ (X := [(h0, .inr (2, [.ref (ad 0), .ref (ad 1), .ref (ad 2), .ref (ad 3), .ref (ad 4), .ref (ad 5), .int sn])), ((ad 1), .inr (0, [.int (nI 16384), .ref a1, .int (nI R1.2.2)])), (a1, .inl (E.1, R1.1, .inr (.inl R1.2.1))), ((ad 3), .inr (0, [.int (nI 65536), .ref b, .int (nI R.2.2)])), (b, .inl (E.1, R.1, .inr (.inl R.2.1)))]) (cx := [((ad 3), .inr (0, [.int (nI 65536), .ref b, .int (nI R.2.2)]))]) (wr := [(h0, .inr (2, [.ref (ad 0), .ref (ad 1), .ref (ad 2), .ref (ad 3), .ref (ad 4), .ref (ad 5), .int sn])), ((ad 1), .inr (0, [.int (nI 16384), .ref a1, .int (nI R1.2.2)])), (a1, .inl (E.1, R1.1, .inr (.inl R1.2.1))), (b, .inl (E.1, R.1, .inr (.inl R.2.1)))]) (w1 := [((ad 3), .inr (0, [.int (nI 65536), .ref b, .int (nI R.2.2)]))]) (pl := va_pl LP pf) hP hD [3] [0, 1, 2, 4] rfl rfl (by decide) (by decide) hk1 hFc hP1 hD1
            generalize H1 = H at hP hS ⊢
            have hP : va_P D vwC ([(h0, .inr (2, [.ref (ad 0), .ref (ad 1), .ref (ad 2), .ref (ad 3), .ref (ad 4), .ref (ad 5), .int sn])), ((ad 1), .inr (0, [.int (nI 16384), .ref a1, .int (nI R1.2.2)])), (a1, .inl (E.1, R1.1, .inr (.inl R1.2.1))), (b, .inl (E.1, R.1, .inr (.inl R.2.1))), ((ad 3), .inr (0, [.int (nI 65536), .ref b, .int (nI R.2.2)]))] ++ va_pl LP pf) H := hP
            have hD : va_D A ([(h0, .inr (2, [.ref (ad 0), .ref (ad 1), .ref (ad 2), .ref (ad 3), .ref (ad 4), .ref (ad 5), .int sn])), ((ad 1), .inr (0, [.int (nI 16384), .ref a1, .int (nI R1.2.2)])), (a1, .inl (E.1, R1.1, .inr (.inl R1.2.1))), (b, .inl (E.1, R.1, .inr (.inl R.2.1))), ((ad 3), .inr (0, [.int (nI 65536), .ref b, .int (nI R.2.2)]))] ++ va_pl LP pf) := hD
            have hP := va_P.part (X := [(h0, .inr (2, [.ref (ad 0), .ref (ad 1), .ref (ad 2), .ref (ad 3), .ref (ad 4), .ref (ad 5), .int sn])), ((ad 1), .inr (0, [.int (nI 16384), .ref a1, .int (nI R1.2.2)])), (a1, .inl (E.1, R1.1, .inr (.inl R1.2.1))), (b, .inl (E.1, R.1, .inr (.inl R.2.1))), ((ad 3), .inr (0, [.int (nI 65536), .ref b, .int (nI R.2.2)]))]) (cx := [(h0, .inr (2, [.ref (ad 0), .ref (ad 1), .ref (ad 2), .ref (ad 3), .ref (ad 4), .ref (ad 5), .int sn])), ((ad 1), .inr (0, [.int (nI 16384), .ref a1, .int (nI R1.2.2)])), (a1, .inl (E.1, R1.1, .inr (.inl R1.2.1))), ((ad 3), .inr (0, [.int (nI 65536), .ref b, .int (nI R.2.2)])), (b, .inl (E.1, R.1, .inr (.inl R.2.1)))]) (pl := va_pl LP pf) hP [0, 1, 2, 4, 3] rfl
            have hD := va_D.part (X := [(h0, .inr (2, [.ref (ad 0), .ref (ad 1), .ref (ad 2), .ref (ad 3), .ref (ad 4), .ref (ad 5), .int sn])), ((ad 1), .inr (0, [.int (nI 16384), .ref a1, .int (nI R1.2.2)])), (a1, .inl (E.1, R1.1, .inr (.inl R1.2.1))), (b, .inl (E.1, R.1, .inr (.inl R.2.1))), ((ad 3), .inr (0, [.int (nI 65536), .ref b, .int (nI R.2.2)]))]) (cx := [(h0, .inr (2, [.ref (ad 0), .ref (ad 1), .ref (ad 2), .ref (ad 3), .ref (ad 4), .ref (ad 5), .int sn])), ((ad 1), .inr (0, [.int (nI 16384), .ref a1, .int (nI R1.2.2)])), (a1, .inl (E.1, R1.1, .inr (.inl R1.2.1))), ((ad 3), .inr (0, [.int (nI 65536), .ref b, .int (nI R.2.2)])), (b, .inl (E.1, R.1, .inr (.inl R.2.1)))]) (pl := va_pl LP pf) hD [0, 1, 2, 4, 3] (by decide) rfl
            obtain rfl : r9 = 0 := hw
            refine lv_if_ne (tgt := 72) hx hb d_P_addPlaces_67 (by decide) (fun c4 => ?_) (fun c4 => ?_)
            · exact absurd rfl c4
            · subst h3
              refine lv_iconst (v := 0) hx hb d_P_addPlaces_70 (by decide) ?_
              exact W.zret (v := 0) (ty := .boolean) hx hb hrt rfl (fun t ht hW => ⟨⟨0, b, rfl, rfl, ⟨by rw [ht]; exact hP, hD⟩⟩, hS.F ht⟩) hS.2.2 d_P_addPlaces_71 hlocks
  refine W.widen (k := (R3.1 - R3.1)) (n := (pot 65536 R3.1 - pot 65536 R3.1)) (Nat.zero_le _) (Nat.zero_le _) ?_
  exact loop (R1.2.2 + 1) bn R3 a3 _ _ ls fb (by omega) hT.symm ho3 (Nat.le_refl _) hP hD hS (lv_sub hl [2, 3, 1, 0] rfl)
end
