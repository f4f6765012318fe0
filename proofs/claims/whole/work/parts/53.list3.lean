theorem d_A_grow_0_0 : decode c_A_grow_0 0 = .ok (.aload_n 0, 1) := by decide +kernel
theorem d_A_grow_0_1 : decode c_A_grow_0 1 = .ok (.aload_n 0, 1) := by decide +kernel
theorem d_A_grow_0_2 : decode c_A_grow_0 2 = .ok (.getfield 48, 3) := by decide +kernel
theorem d_A_grow_0_5 : decode c_A_grow_0 5 = .ok (.iconst 1, 1) := by decide +kernel
theorem d_A_grow_0_6 : decode c_A_grow_0 6 = .ok (.iadd, 1) := by decide +kernel
theorem d_A_grow_0_7 : decode c_A_grow_0 7 = .ok (.invokevirtual 69, 3) := by decide +kernel
theorem d_A_grow_0_10 : decode c_A_grow_0 10 = .ok (.areturn, 1) := by decide +kernel
theorem d_A_grow_I_0 : decode c_A_grow_I 0 = .ok (.aload_n 0, 1) := by decide +kernel
theorem d_A_grow_I_1 : decode c_A_grow_I 1 = .ok (.getfield 9, 3) := by decide +kernel
theorem d_A_grow_I_4 : decode c_A_grow_I 4 = .ok (.arraylength, 1) := by decide +kernel
theorem d_A_grow_I_5 : decode c_A_grow_I 5 = .ok (.istore_n 2, 1) := by decide +kernel
theorem d_A_grow_I_6 : decode c_A_grow_I 6 = .ok (.iload_n 2, 1) := by decide +kernel
theorem d_A_grow_I_7 : decode c_A_grow_I 7 = .ok (.ifCond .gt 13, 3) := by decide +kernel
theorem d_A_grow_I_10 : decode c_A_grow_I 10 = .ok (.aload_n 0, 1) := by decide +kernel
theorem d_A_grow_I_11 : decode c_A_grow_I 11 = .ok (.getfield 9, 3) := by decide +kernel
theorem d_A_grow_I_14 : decode c_A_grow_I 14 = .ok (.getstatic 39, 3) := by decide +kernel
theorem d_A_grow_I_17 : decode c_A_grow_I 17 = .ok (.if_acmp .eq 28, 3) := by decide +kernel
theorem d_A_grow_I_20 : decode c_A_grow_I 20 = .ok (.iload_n 2, 1) := by decide +kernel
theorem d_A_grow_I_21 : decode c_A_grow_I 21 = .ok (.iload_n 1, 1) := by decide +kernel
theorem d_A_grow_I_22 : decode c_A_grow_I 22 = .ok (.iload_n 2, 1) := by decide +kernel
theorem d_A_grow_I_23 : decode c_A_grow_I 23 = .ok (.isub, 1) := by decide +kernel
theorem d_A_grow_I_24 : decode c_A_grow_I 24 = .ok (.iload_n 2, 1) := by decide +kernel
theorem d_A_grow_I_25 : decode c_A_grow_I 25 = .ok (.iconst 1, 1) := by decide +kernel
theorem d_A_grow_I_26 : decode c_A_grow_I 26 = .ok (.ishr, 1) := by decide +kernel
theorem d_A_grow_I_27 : decode c_A_grow_I 27 = .ok (.invokestatic 73, 3) := by decide +kernel
theorem d_A_grow_I_30 : decode c_A_grow_I 30 = .ok (.istore_n 3, 1) := by decide +kernel
theorem d_A_grow_I_31 : decode c_A_grow_I 31 = .ok (.aload_n 0, 1) := by decide +kernel
theorem d_A_grow_I_32 : decode c_A_grow_I 32 = .ok (.aload_n 0, 1) := by decide +kernel
theorem d_A_grow_I_33 : decode c_A_grow_I 33 = .ok (.getfield 9, 3) := by decide +kernel
theorem d_A_grow_I_36 : decode c_A_grow_I 36 = .ok (.iload_n 3, 1) := by decide +kernel
theorem d_A_grow_I_37 : decode c_A_grow_I 37 = .ok (.invokestatic 66, 3) := by decide +kernel
theorem d_A_grow_I_40 : decode c_A_grow_I 40 = .ok (.dup_x1, 1) := by decide +kernel
theorem d_A_grow_I_41 : decode c_A_grow_I 41 = .ok (.putfield 9, 3) := by decide +kernel
theorem d_A_grow_I_44 : decode c_A_grow_I 44 = .ok (.areturn, 1) := by decide +kernel
theorem d_A_grow_I_45 : decode c_A_grow_I 45 = .ok (.aload_n 0, 1) := by decide +kernel
theorem d_A_grow_I_46 : decode c_A_grow_I 46 = .ok (.bipush 10, 2) := by decide +kernel
theorem d_A_grow_I_48 : decode c_A_grow_I 48 = .ok (.iload_n 1, 1) := by decide +kernel
theorem d_A_grow_I_49 : decode c_A_grow_I 49 = .ok (.invokestatic 79, 3) := by decide +kernel
theorem d_A_grow_I_52 : decode c_A_grow_I 52 = .ok (.anewarray 7, 3) := by decide +kernel
theorem d_A_grow_I_55 : decode c_A_grow_I 55 = .ok (.dup_x1, 1) := by decide +kernel
theorem d_A_grow_I_56 : decode c_A_grow_I 56 = .ok (.putfield 9, 3) := by decide +kernel
theorem d_A_grow_I_59 : decode c_A_grow_I 59 = .ok (.areturn, 1) := by decide +kernel
theorem d_Y_copyOf_aObjectI_0 : decode c_Y_copyOf_aObjectI 0 = .ok (.aload_n 0, 1) := by decide +kernel
theorem d_Y_copyOf_aObjectI_1 : decode c_Y_copyOf_aObjectI 1 = .ok (.iload_n 1, 1) := by decide +kernel
theorem d_Y_copyOf_aObjectI_2 : decode c_Y_copyOf_aObjectI 2 = .ok (.aload_n 0, 1) := by decide +kernel
theorem d_Y_copyOf_aObjectI_3 : decode c_Y_copyOf_aObjectI 3 = .ok (.invokevirtual 86, 3) := by decide +kernel
theorem d_Y_copyOf_aObjectI_6 : decode c_Y_copyOf_aObjectI 6 = .ok (.invokestatic 300, 3) := by decide +kernel
theorem d_Y_copyOf_aObjectI_9 : decode c_Y_copyOf_aObjectI 9 = .ok (.areturn, 1) := by decide +kernel
theorem pl_cls {D : va_G} {E : ClassId × ClassId × ClassId × ClassId} {s : State} {X : va_W} {LP : List Nat} {pf : Nat → va_E} {H : Heap} {a n : Nat} {el : Nat → Option Nat} (hK : KK D E s) (hP : va_P D vwC (X ++ va_pl LP pf) H) (ha : a ∈ LP) (hf : pf a = .inl (E.2.2.2, n, .inr (.inr (.inr (.inr el))))) : ∃ cell : Cell, H[a]? = some cell ∧ cell.vm.isStatics = false ∧ s.vm.findClass "[Ljava/lang/Object;" = some cell.cls := by
  obtain ⟨k, hk⟩ := pl_at (X := X) ha hf
  exact ⟨_, hP k _ hk, rfl, va_nmO (hK.1.2 3 _ rfl).2 (by decide)⟩
set_option maxHeartbeats 4000000 in
set_option maxRecDepth 100000 in
theorem k_Y_copyOf_aObjectI (l : Launch) (D : va_G) (E : ClassId × ClassId × ClassId × ClassId) (a sz n n2 : Nat) (el : Nat → Option Nat) (LP : List Nat) (pf : Nat → va_E) (ha : a ∈ LP) (hfa : pf a = .inl (E.2.2.2, n, .inr (.inr (.inr (.inr el))))) (hel : ∀ i, i < n → ∀ y, el i = some y → y ∈ LP ∧ ∃ q, pf y = .inr (1, sgF q)) (h1 : n ≤ n2) (hn : n2 < 2 ^ 20) : Met l y_Y_copyOf_aObjectI (.code y_Y_copyOf_aObjectI c_Y_copyOf_aObjectI 2 (some (.array (.object "java/lang/Object"))) :: gw) ({ frames := 2, cells := 1, slots := n2, locals := 70 } : Room) (wP D E ([] ++ va_pl LP pf) sz [.ref a, .int (nI n2)]) (va_Qr (fun (u : Unit) => True) (wBr D (fun _ q => ([(q, .inl (E.2.2.2, n2, .inr (.inr (.inr (.inr (va_cpy el (fun _ => none) 0 0 n))))))] ++ va_pl LP pf)) (va_A ([] ++ va_pl LP pf) sz)) (va_A ([] ++ va_pl LP pf) sz)) 1 n2 (va_A ([] ++ va_pl LP pf) sz) := by
  refine wr_ofF (y := y_Y_copyOf_aObjectI) (cc := c_Y_copyOf_aObjectI) (maxL := 2) (ws := ([] ++ va_pl LP pf)) (sz := sz) (av := [.ref a, .int (nI n2)]) (Qc := fun A => (va_Qr (fun (u : Unit) => True) (wBr D (fun _ q => ([(q, .inl (E.2.2.2, n2, .inr (.inr (.inr (.inr (va_cpy el (fun _ => none) 0 0 n))))))] ++ va_pl LP pf)) A) A)) (by decide) (Nat.le_of_ble_eq_true rfl) ?_
  intro p e s m below meth c B hP hK A hA hD hS ls hl
  obtain ⟨hx, hb, hrt, hml, hown, hts, hG, hlocks, hin⟩ := B
  have hl : lv_has ls 2 [(0, .ref a), (1, .int (nI n2))] := hl
  refine lv_aload_n hx hb d_Y_copyOf_aObjectI_0 rfl (lv_at hl 0 rfl) ?_
  refine lv_iload_n hx hb d_Y_copyOf_aObjectI_1 rfl (lv_at hl 1 rfl) ?_
  refine lv_aload_n hx hb d_Y_copyOf_aObjectI_2 rfl (lv_at hl 0 rfl) ?_
  obtain ⟨mi, hmi⟩ := hK.2.2.2.2.2
  refine va_getC hx hb (hml.trans hl.1.symm) hown (hG _ wd_330) (va_Nw.use (A := _) rfl (hK.2.1 (.declares y_J_getClass) (by decide +kernel))) (hG _ wd_845) (hG _ wd_331) (hG _ wd_342) hmi (pl_cls (X := []) hK hP ha hfa) (Nat.le_of_ble_eq_true rfl) (Nat.le_of_ble_eq_true rfl) d_Y_copyOf_aObjectI_3 ?_
  have hPc := va_P.part (X := []) (cx := []) (pl := va_pl LP pf) hP [] rfl
  have hDc := va_D.part (X := []) (cx := []) (pl := va_pl LP pf) hD [] (by decide) rfl
  have hFc := va_freeP (X := []) (cx := []) (pl := va_pl LP pf) hD hS hA [] rfl
  refine va_callr (va_runS (As := [.ref a, .int (nI n2), .ref mi]) (rest := []) ⟨hx, hb, hml, hown, hts⟩ (k_Y_copyOf_aObjectIClass l D E a s.heap.size n n2 el LP pf ha hfa hel h1 hn mi) (va_cwS 3 hts (gw_gs wd_343 wd_344 wd_51 wd_345) rfl rfl rfl (by decide +kernel) ⟨Nat.le_of_ble_eq_true rfl, Nat.le_of_ble_eq_true rfl⟩) (wM_S hPc hK hDc hmi) rfl rfl hl.1 rfl (lv_room (Nat.le_of_ble_eq_true rfl)) d_Y_copyOf_aObjectI_6 ⟨Nat.le_of_ble_eq_true rfl, Nat.le_of_eq (Nat.zero_add _)⟩) hS (fun q _ h => hFc q h) hFc (fun u q t H1 locs ht hvm hw hB hz1 hk1 hS => ?_)
  obtain ⟨hP1, hD1⟩ := hB
  rw [ht] at hP1
  obtain ⟨hP, hD⟩ := va_joinP (X := []) (cx := []) (wr := []) (rx := [(q, .inl (E.2.2.2, n2, .inr (.inr (.inr (.inr (va_cpy el (fun _ => none) 0 0 n))))))]) (pl := va_pl LP pf) (pl1 := va_pl LP pf) hP hD [] [] rfl rfl (by decide) (by decide) hk1 hFc hP1 hD1
  generalize H1 = H at hP hS ⊢
  have hP : va_P D vwC ([(q, .inl (E.2.2.2, n2, .inr (.inr (.inr (.inr (va_cpy el (fun _ => none) 0 0 n))))))] ++ va_pl LP pf) H := hP
  have hD : va_D A ([(q, .inl (E.2.2.2, n2, .inr (.inr (.inr (.inr (va_cpy el (fun _ => none) 0 0 n))))))] ++ va_pl LP pf) := hD
  refine W.widen (k := 1) (n := n2) (by omega) (by omega) ?_
  exact W.aret (v := .ref q) hx hb hrt (Or.inr ⟨_, rfl⟩) (Or.inr ⟨_, rfl⟩) (fun t ht hW => ⟨⟨(), q, rfl, trivial, ⟨by rw [ht]; exact hP, hD⟩⟩, hS.F ht⟩) hS.2.2 d_Y_copyOf_aObjectI_9 hlocks
set_option maxHeartbeats 4000000 in
set_option maxRecDepth 100000 in
theorem k_A_grow_I0 (l : Launch) (D : va_G) (E : ClassId × ClassId × ClassId × ClassId) (h0 sz e0 : Nat) (mo9 : Int32) (LP : List Nat) (pf : Nat → va_E) : Met l y_A_grow_I (.code y_A_grow_I c_A_grow_I 4 (some (.array (.object "java/lang/Object"))) :: gw) ({ frames := 3, cells := 1, slots := 10, locals := 110 } : Room) (wX D E e0 ([(h0, .inr (4, [.ref e0, .int 0, .int mo9]))] ++ va_pl LP pf) sz [.ref h0, .int 1]) (va_Qr (fun (u : Unit) => True) (wBr D (fun _ q => ([(h0, .inr (4, [.ref q, .int 0, .int mo9])), (q, .inl (E.2.2.2, 10, .inr (.inr (.inr (.inr (fun _ => none))))))] ++ va_pl LP pf)) (va_A ([(h0, .inr (4, [.ref e0, .int 0, .int mo9]))] ++ va_pl LP pf) sz)) (va_A ([(h0, .inr (4, [.ref e0, .int 0, .int mo9]))] ++ va_pl LP pf) sz)) 1 10 (va_A ([(h0, .inr (4, [.ref e0, .int 0, .int mo9]))] ++ va_pl LP pf) sz) := by
  refine wx_ofF (y := y_A_grow_I) (cc := c_A_grow_I) (maxL := 4) (ws := ([(h0, .inr (4, [.ref e0, .int 0, .int mo9]))] ++ va_pl LP pf)) (sz := sz) (av := [.ref h0, .int 1]) (Qc := fun A => (va_Qr (fun (u : Unit) => True) (wBr D (fun _ q => ([(h0, .inr (4, [.ref q, .int 0, .int mo9])), (q, .inl (E.2.2.2, 10, .inr (.inr (.inr (.inr (fun _ => none))))))] ++ va_pl LP pf)) A) A)) (by decide) (Nat.le_of_ble_eq_true rfl) ?_
  intro p e s m below meth c B hP hK A hA hD hS hZ ls hl
  obtain ⟨hx, hb, hrt, hml, hown, hts, hG, hlocks, hin⟩ := B
  have hl : lv_has ls 4 [(0, .ref h0), (1, .int 1)] := hl
  refine lv_aload_n hx hb d_A_grow_I_0 rfl (lv_at hl 0 rfl) ?_
  refine va_get (D := D) (ci := 4) (v := .ref e0) (C := K_A) (T := F_A) (N := 3) hx hb hG in_A hown hK.1 hP 0 rfl rfl 0 (by decide) (hG _ wd_79) (fun _ h9 => h9) rfl d_A_grow_I_1 ?_
  refine va_tlen (v := 0) hx hb hZ.2.1 hS rfl d_A_grow_I_4 ?_
  refine lv_istore_n (lv' := [(2, .int 0), (0, .ref h0), (1, .int 1)]) hx hb d_A_grow_I_5 rfl hl (by decide) rfl (fun ls hl => ?_)
  refine lv_iload_n hx hb d_A_grow_I_6 rfl (lv_at hl 0 rfl) ?_
  refine lv_if_gt (tgt := 20) hx hb d_A_grow_I_7 (by decide) (fun c1 => ?_) (fun c1 => ?_)
  · exact absurd c1 (by decide)
  · refine lv_aload_n hx hb d_A_grow_I_10 rfl (lv_at hl 1 rfl) ?_
    refine va_get (D := D) (ci := 4) (v := .ref e0) (C := K_A) (T := F_A) (N := 3) hx hb hG in_A hown hK.1 hP 0 rfl rfl 0 (by decide) (hG _ wd_79) (fun _ h9 => h9) rfl d_A_grow_I_11 ?_
    refine va_gets hx hb hZ.1 hS hown (hG _ wd_77) (fun _ h9 => h9) d_A_grow_I_14 ?_
    refine lv_acmp_eq (rx := some e0) (ry := some e0) (tgt := 45) hx hb d_A_grow_I_17 (by decide) (fun _ => ?_) (fun c2 => absurd rfl c2)
    refine lv_aload_n hx hb d_A_grow_I_45 rfl (lv_at hl 1 rfl) ?_
    refine lv_bipush (v := 10) hx hb d_A_grow_I_46 (by decide) ?_
    refine lv_iload_n hx hb d_A_grow_I_48 rfl (lv_at hl 2 rfl) ?_
    refine va_mmax hx hb (hml.trans hl.1.symm) hown (hG _ wd_355) (hG _ wd_321) (hG _ wd_49) (hG _ wd_322) (Nat.le_of_ble_eq_true rfl) (Nat.le_of_ble_eq_true rfl) (Nat.le_of_ble_eq_true rfl) (Nat.le_of_ble_eq_true rfl) d_A_grow_I_49 ?_
    rw [show (if (10 : Int32) < 1 then (1 : Int32) else 10) = 10 from by decide]
    refine va_newq (N' := 10) hx hb hown (hG _ wd_356) hK.2.2.2.2.1 hK.1 hP hD hS hA (by decide) (by decide) (by decide) (Nat.le_of_ble_eq_true rfl) (Nat.le_of_ble_eq_true rfl) d_A_grow_I_52 (fun q cA H hK2 hP hD hS => ?_)
    obtain rfl : E.2.2.2 = cA := ty_eq hK2 3 4 rfl rfl
    have hP := va_P.swap (a := [(h0, .inr (4, [.ref e0, .int 0, .int mo9]))]) hP
    have hD := va_D.swap (a := [(h0, .inr (4, [.ref e0, .int 0, .int mo9]))]) hD
    have hP : va_P D vwC ([(h0, .inr (4, [.ref e0, .int 0, .int mo9])), (q, .inl (E.2.2.2, 10, .inr (.inr (.inr (.inr (fun _ => none))))))] ++ va_pl LP pf) H := hP
    have hD : va_D A ([(h0, .inr (4, [.ref e0, .int 0, .int mo9])), (q, .inl (E.2.2.2, 10, .inr (.inr (.inr (.inr (fun _ => none))))))] ++ va_pl LP pf) := hD
    refine W.widen (k := 1) (n := 10) (by decide) (by decide) ?_
    refine lv_dup_x1 hx hb d_A_grow_I_55 rfl rfl ?_
    refine va_put (D := D) (ci := 4) (v := .ref q) (ty := .array (.object "java/lang/Object")) (C := K_A) (T := F_A) (N := 3) hx hb hG in_A t_A t_A_ok n_A hown hK.1 hP hD hS 0 rfl rfl 0 (by decide) (hG _ wd_79) (fun _ h9 => h9) rfl (by decide +kernel) rfl rfl (Nat.le_of_ble_eq_true rfl) d_A_grow_I_56 (fun H locs hP hD hS => ?_)
    have hP : va_P D vwC ([(h0, .inr (4, [.ref q, .int 0, .int mo9])), (q, .inl (E.2.2.2, 10, .inr (.inr (.inr (.inr (fun _ => none))))))] ++ va_pl LP pf) H := hP
    have hD : va_D A ([(h0, .inr (4, [.ref q, .int 0, .int mo9])), (q, .inl (E.2.2.2, 10, .inr (.inr (.inr (.inr (fun _ => none))))))] ++ va_pl LP pf) := hD
    exact W.aret (v := .ref q) hx hb hrt (Or.inr ⟨_, rfl⟩) (Or.inr ⟨_, rfl⟩) (fun t ht hW => ⟨⟨(), q, rfl, trivial, ⟨by rw [ht]; exact hP, hD⟩⟩, hS.F ht⟩) hS.2.2 d_A_grow_I_59 hlocks
set_option maxHeartbeats 4000000 in
set_option maxRecDepth 100000 in
theorem k_A_grow_I (l : Launch) (D : va_G) (E : ClassId × ClassId × ClassId × ClassId) (h0 sz n : Nat) (el : Nat → Option Nat) (mo9 : Int32) (LP : List Nat) (pf : Nat → va_E) (a : Nat) (ha : a ∈ LP) (hfa : pf a = .inl (E.2.2.2, n, .inr (.inr (.inr (.inr el))))) (hel : ∀ i, i < n → ∀ y, el i = some y → y ∈ LP ∧ ∃ q, pf y = .inr (1, sgF q)) (h2 : 2 ≤ n) (hn : n < 2 ^ 18) : Met l y_A_grow_I (.code y_A_grow_I c_A_grow_I 4 (some (.array (.object "java/lang/Object"))) :: gw) ({ frames := 3, cells := 1, slots := (n + n / 2), locals := 110 } : Room) (wP D E ([(h0, .inr (4, [.ref a, .int (nI n), .int mo9]))] ++ va_pl LP pf) sz [.ref h0, .int (nI (n + 1))]) (va_Qr (fun (u : Unit) => True) (wBr D (fun _ q => ([(h0, .inr (4, [.ref q, .int (nI n), .int mo9])), (q, .inl (E.2.2.2, (n + n / 2), .inr (.inr (.inr (.inr (va_cpy el (fun _ => none) 0 0 n))))))] ++ va_pl LP pf)) (va_A ([(h0, .inr (4, [.ref a, .int (nI n), .int mo9]))] ++ va_pl LP pf) sz)) (va_A ([(h0, .inr (4, [.ref a, .int (nI n), .int mo9]))] ++ va_pl LP pf) sz)) 1 (n + n / 2) (va_A ([(h0, .inr (4, [.ref a, .int (nI n), .int mo9]))] ++ va_pl LP pf) sz) := by
  refine wr_ofF (y := y_A_grow_I) (cc := c_A_grow_I) (maxL := 4) (ws := ([(h0, .inr (4, [.ref a, .int (nI n), .int mo9]))] ++ va_pl LP pf)) (sz := sz) (av := [.ref h0, .int (nI (n + 1))]) (Qc := fun A => (va_Qr (fun (u : Unit) => True) (wBr D (fun _ q => ([(h0, .inr (4, [.ref q, .int (nI n), .int mo9])), (q, .inl (E.2.2.2, (n + n / 2), .inr (.inr (.inr (.inr (va_cpy el (fun _ => none) 0 0 n))))))] ++ va_pl LP pf)) A) A)) (by decide) (Nat.le_of_ble_eq_true rfl) ?_
  intro p e s m below meth c B hP hK A hA hD hS ls hl
  obtain ⟨hx, hb, hrt, hml, hown, hts, hG, hlocks, hin⟩ := B
  have hl : lv_has ls 4 [(0, .ref h0), (1, .int (nI (n + 1)))] := hl
  refine lv_aload_n hx hb d_A_grow_I_0 rfl (lv_at hl 0 rfl) ?_
  refine va_get (D := D) (ci := 4) (v := .ref a) (C := K_A) (T := F_A) (N := 3) hx hb hG in_A hown hK.1 hP 0 rfl rfl 0 (by decide) (hG _ wd_79) (fun _ h9 => h9) rfl d_A_grow_I_1 ?_
  obtain ⟨kq, hkq⟩ := pl_at (X := [(h0, .inr (4, [.ref a, .int (nI n), .int mo9]))]) ha hfa
  refine va_alen (v := nI n) hx hb hK.1 hP kq 3 hkq rfl rfl d_A_grow_I_4 ?_
  refine lv_istore_n (lv' := [(2, .int (nI n)), (0, .ref h0), (1, .int (nI (n + 1)))]) hx hb d_A_grow_I_5 rfl hl (by decide) rfl (fun ls hl => ?_)
  refine lv_iload_n hx hb d_A_grow_I_6 rfl (lv_at hl 0 rfl) ?_
  refine lv_if_gt (tgt := 20) hx hb d_A_grow_I_7 (by decide) (fun c1 => ?_) (fun c1 => ?_)
  · refine lv_iload_n hx hb d_A_grow_I_20 rfl (lv_at hl 0 rfl) ?_
    refine lv_iload_n hx hb d_A_grow_I_21 rfl (lv_at hl 2 rfl) ?_
    refine lv_iload_n hx hb d_A_grow_I_22 rfl (lv_at hl 0 rfl) ?_
    refine lv_isub hx hb d_A_grow_I_23 ?_
    rw [show (nI (n + 1) - (nI n)) = nI 1 from (pk_sub (by omega)).trans (by rw [Nat.add_sub_cancel_left])]
    refine lv_iload_n hx hb d_A_grow_I_24 rfl (lv_at hl 0 rfl) ?_
    refine lv_iconst (v := 1) hx hb d_A_grow_I_25 (by decide) ?_
    refine lv_ishr hx hb d_A_grow_I_26 ?_
    rw [show ((nI n) >>> (1 &&& 31)) = nI (n / 2) from (pk_shrN (n := n) (by omega) ((1 : Int32) &&& 31) 1 (by decide)).trans (by rw [Nat.pow_one])]
    have hPc := hP.sub (ws' := []) [] rfl
    refine vp_callSi (W.runS (As := [.int (nI n), .int (nI 1), .int (nI (n / 2))]) (rest := []) ⟨hx, hb, hml, hown, hts⟩ (k_U_newLength l D E n h2 (by omega)) (va_cwS 3 hts (gw_gs wd_317 wd_318 wd_50 wd_319) rfl rfl rfl (by decide +kernel) ⟨Nat.le_of_ble_eq_true rfl, Nat.le_of_ble_eq_true rfl⟩) (rP_S hPc hK) rfl rfl hl.1 rfl (lv_room (Nat.le_of_ble_eq_true rfl)) d_A_grow_I_27 ⟨Nat.zero_le _, Nat.zero_le _⟩) (fun r1 hr1 => ?_)
    subst hr1
    refine lv_istore_n (lv' := [(3, .int (nI (n + n / 2))), (2, .int (nI n)), (0, .ref h0), (1, .int (nI (n + 1)))]) hx hb d_A_grow_I_30 rfl hl (by decide) rfl (fun ls hl => ?_)
    refine lv_aload_n hx hb d_A_grow_I_31 rfl (lv_at hl 2 rfl) ?_
    refine lv_aload_n hx hb d_A_grow_I_32 rfl (lv_at hl 2 rfl) ?_
    refine va_get (D := D) (ci := 4) (v := .ref a) (C := K_A) (T := F_A) (N := 3) hx hb hG in_A hown hK.1 hP 0 rfl rfl 0 (by decide) (hG _ wd_79) (fun _ h9 => h9) rfl d_A_grow_I_33 ?_
    refine lv_iload_n hx hb d_A_grow_I_36 rfl (lv_at hl 0 rfl) ?_
    have hPc := va_P.part (X := [(h0, .inr (4, [.ref a, .int (nI n), .int mo9]))]) (cx := []) (pl := va_pl LP pf) hP [] rfl
    have hDc := va_D.part (X := [(h0, .inr (4, [.ref a, .int (nI n), .int mo9]))]) (cx := []) (pl := va_pl LP pf) hD [] (by decide) rfl
    have hFc := va_freeP (X := [(h0, .inr (4, [.ref a, .int (nI n), .int mo9]))]) (cx := []) (pl := va_pl LP pf) hD hS hA [] rfl
    refine va_callr (va_runS (As := [.ref a, .int (nI (n + n / 2))]) (rest := [.ref h0]) ⟨hx, hb, hml, hown, hts⟩ (k_Y_copyOf_aObjectI l D E a s.heap.size n (n + n / 2) el LP pf ha hfa hel (by omega) (by omega)) (va_cwS 2 hts (gw_gs wd_327 wd_328 wd_51 wd_329) rfl rfl rfl (by decide +kernel) ⟨Nat.le_of_ble_eq_true rfl, Nat.le_of_ble_eq_true rfl⟩) (wP_S hPc hK hDc) rfl rfl hl.1 rfl (lv_room (Nat.le_of_ble_eq_true rfl)) d_A_grow_I_37 ⟨Nat.le_of_ble_eq_true rfl, Nat.le_of_eq (Nat.zero_add _)⟩) hS (fun q _ h => hFc q h) hFc (fun u q t H1 locs ht hvm hw hB hz1 hk1 hS => ?_)
    obtain ⟨hP1, hD1⟩ := hB
    rw [ht] at hP1
    obtain ⟨hP, hD⟩ := va_joinP (X := [(h0, .inr (4, [.ref a, .int (nI n), .int mo9]))]) (cx := []) (wr := [(h0, .inr (4, [.ref a, .int (nI n), .int mo9]))]) (rx := [(q, .inl (E.2.2.2, (n + n / 2), .inr (.inr (.inr (.inr (va_cpy el (fun _ => none) 0 0 n))))))]) (pl := va_pl LP pf) (pl1 := va_pl LP pf) hP hD [] [0] rfl rfl (by decide) (by decide) hk1 hFc hP1 hD1
    generalize H1 = H at hP hS ⊢
    have hP : va_P D vwC ([(h0, .inr (4, [.ref a, .int (nI n), .int mo9])), (q, .inl (E.2.2.2, (n + n / 2), .inr (.inr (.inr (.inr (va_cpy el (fun _ => none) 0 0 n))))))] ++ va_pl LP pf) H := hP
    have hD : va_D A ([(h0, .inr (4, [.ref a, .int (nI n), .int mo9])), (q, .inl (E.2.2.2, (n + n / 2), .inr (.inr (.inr (.inr (va_cpy el (fun _ => none) 0 0 n))))))] ++ va_pl LP pf) := hD
    refine W.widen (k := 1) (n := (n + n / 2)) (by omega) (by omega) ?_
    refine lv_dup_x1 hx hb d_A_grow_I_40 rfl rfl ?_
    refine va_put (D := D) (ci := 4) (v := .ref q) (ty := .array (.object "java/lang/Object")) (C := K_A) (T := F_A) (N := 3) hx hb hG in_A t_A t_A_ok n_A hown hK.1 hP hD hS 0 rfl rfl 0 (by decide) (hG _ wd_79) (fun _ h9 => h9) rfl (by decide +kernel) rfl rfl (Nat.le_of_ble_eq_true rfl) d_A_grow_I_41 (fun H locs hP hD hS => ?_)
    have hP : va_P D vwC ([(h0, .inr (4, [.ref q, .int (nI n), .int mo9])), (q, .inl (E.2.2.2, (n + n / 2), .inr (.inr (.inr (.inr (va_cpy el (fun _ => none) 0 0 n))))))] ++ va_pl LP pf) H := hP
    have hD : va_D A ([(h0, .inr (4, [.ref q, .int (nI n), .int mo9])), (q, .inl (E.2.2.2, (n + n / 2), .inr (.inr (.inr (.inr (va_cpy el (fun _ => none) 0 0 n))))))] ++ va_pl LP pf) := hD
    exact W.aret (v := .ref q) hx hb hrt (Or.inr ⟨_, rfl⟩) (Or.inr ⟨_, rfl⟩) (fun t ht hW => ⟨⟨(), q, rfl, trivial, ⟨by rw [ht]; exact hP, hD⟩⟩, hS.F ht⟩) hS.2.2 d_A_grow_I_44 hlocks
  · exact absurd (show nI 0 < nI n from nI_lt (by omega) (by omega)) c1
set_option maxHeartbeats 4000000 in
set_option maxRecDepth 100000 in
theorem k_A_grow_00 (l : Launch) (D : va_G) (E : ClassId × ClassId × ClassId × ClassId) (h0 sz e0 : Nat) (mo9 : Int32) (LP : List Nat) (pf : Nat → va_E) : Met l y_A_grow_0 (.code y_A_grow_0 c_A_grow_0 1 (some (.array (.object "java/lang/Object"))) :: gw) ({ frames := 4, cells := 1, slots := 10, locals := 140 } : Room) (wX D E e0 ([(h0, .inr (4, [.ref e0, .int 0, .int mo9]))] ++ va_pl LP pf) sz [.ref h0]) (va_Qr (fun (u : Unit) => True) (wBr D (fun _ q => ([(h0, .inr (4, [.ref q, .int 0, .int mo9])), (q, .inl (E.2.2.2, 10, .inr (.inr (.inr (.inr (fun _ => none))))))] ++ va_pl LP pf)) (va_A ([(h0, .inr (4, [.ref e0, .int 0, .int mo9]))] ++ va_pl LP pf) sz)) (va_A ([(h0, .inr (4, [.ref e0, .int 0, .int mo9]))] ++ va_pl LP pf) sz)) 1 10 (va_A ([(h0, .inr (4, [.ref e0, .int 0, .int mo9]))] ++ va_pl LP pf) sz) := by
  refine wx_ofF (y := y_A_grow_0) (cc := c_A_grow_0) (maxL := 1) (ws := ([(h0, .inr (4, [.ref e0, .int 0, .int mo9]))] ++ va_pl LP pf)) (sz := sz) (av := [.ref h0]) (Qc := fun A => (va_Qr (fun (u : Unit) => True) (wBr D (fun _ q => ([(h0, .inr (4, [.ref q, .int 0, .int mo9])), (q, .inl (E.2.2.2, 10, .inr (.inr (.inr (.inr (fun _ => none))))))] ++ va_pl LP pf)) A) A)) (by decide) (Nat.le_of_ble_eq_true rfl) ?_
  intro p e s m below meth c B hP hK A hA hD hS hZ ls hl
  obtain ⟨hx, hb, hrt, hml, hown, hts, hG, hlocks, hin⟩ := B
  have hl : lv_has ls 1 [(0, .ref h0)] := hl
  refine lv_aload_n hx hb d_A_grow_0_0 rfl (lv_at hl 0 rfl) ?_
  refine lv_aload_n hx hb d_A_grow_0_1 rfl (lv_at hl 0 rfl) ?_
  refine va_get (D := D) (ci := 4) (v := .int 0) (C := K_A) (T := F_A) (N := 3) hx hb hG in_A hown hK.1 hP 0 rfl rfl 1 (by decide) (hG _ wd_80) (fun _ h9 => h9) rfl d_A_grow_0_2 ?_
  refine lv_iconst (v := 1) hx hb d_A_grow_0_5 (by decide) ?_
  refine lv_iadd hx hb d_A_grow_0_6 ?_
  rw [show (0 : Int32) + 1 = 1 from by decide]
  have hPc := va_P.part (X := [(h0, .inr (4, [.ref e0, .int 0, .int mo9]))]) (cx := [(h0, .inr (4, [.ref e0, .int 0, .int mo9]))]) (pl := va_pl LP pf) hP [0] rfl
  have hDc := va_D.part (X := [(h0, .inr (4, [.ref e0, .int 0, .int mo9]))]) (cx := [(h0, .inr (4, [.ref e0, .int 0, .int mo9]))]) (pl := va_pl LP pf) hD [0] (by decide) rfl
  have hFc := va_freeP (X := [(h0, .inr (4, [.ref e0, .int 0, .int mo9]))]) (cx := [(h0, .inr (4, [.ref e0, .int 0, .int mo9]))]) (pl := va_pl LP pf) hD hS hA [0] rfl
  refine va_callr (va_runV (As := [.int 1]) (rest := []) ⟨hx, hb, hml, hown, hts⟩ (k_A_grow_I0 l D E h0 s.heap.size e0 mo9 LP pf) (cwV 1 hts (gw_gv wd_313 wd_315 wd_4 wd_40 wd_316) rfl rfl rfl (by decide +kernel) ⟨Nat.le_of_ble_eq_true rfl, Nat.le_of_ble_eq_true rfl⟩) (wX_V 0 hPc hK hDc hZ hS hFc rfl rfl) rfl rfl hl.1 rfl (lv_room (Nat.le_of_ble_eq_true rfl)) d_A_grow_0_7 ⟨Nat.le_of_ble_eq_true rfl, Nat.le_of_ble_eq_true rfl⟩) hS (fun q _ h => hFc q h) hFc (fun u q t H1 locs ht hvm hw hB hz1 hk1 hS => ?_)
  obtain ⟨hP1, hD1⟩ := hB
  rw [ht] at hP1
  obtain ⟨hP, hD⟩ := va_joinP (X := [(h0, .inr (4, [.ref e0, .int 0, .int mo9]))]) (cx := [(h0, .inr (4, [.ref e0, .int 0, .int mo9]))]) (wr := []) (rx := [(h0, .inr (4, [.ref q, .int 0, .int mo9])), (q, .inl (E.2.2.2, 10, .inr (.inr (.inr (.inr (fun _ => none))))))]) (pl := va_pl LP pf) (pl1 := va_pl LP pf) hP hD [0] [] rfl rfl (by decide) (by decide) hk1 hFc hP1 hD1
  generalize H1 = H at hP hS ⊢
  have hP : va_P D vwC ([(h0, .inr (4, [.ref q, .int 0, .int mo9])), (q, .inl (E.2.2.2, 10, .inr (.inr (.inr (.inr (fun _ => none))))))] ++ va_pl LP pf) H := hP
  have hD : va_D A ([(h0, .inr (4, [.ref q, .int 0, .int mo9])), (q, .inl (E.2.2.2, 10, .inr (.inr (.inr (.inr (fun _ => none))))))] ++ va_pl LP pf) := hD
  refine W.widen (k := 1) (n := 10) (by decide) (by decide) ?_
  exact W.aret (v := .ref q) hx hb hrt (Or.inr ⟨_, rfl⟩) (Or.inr ⟨_, rfl⟩) (fun t ht hW => ⟨⟨(), q, rfl, trivial, ⟨by rw [ht]; exact hP, hD⟩⟩, hS.F ht⟩) hS.2.2 d_A_grow_0_10 hlocks
set_option maxHeartbeats 4000000 in
set_option maxRecDepth 100000 in
theorem k_A_grow_0 (l : Launch) (D : va_G) (E : ClassId × ClassId × ClassId × ClassId) (h0 sz n : Nat) (el : Nat → Option Nat) (mo9 : Int32) (LP : List Nat) (pf : Nat → va_E) (a : Nat) (ha : a ∈ LP) (hfa : pf a = .inl (E.2.2.2, n, .inr (.inr (.inr (.inr el))))) (hel : ∀ i, i < n → ∀ y, el i = some y → y ∈ LP ∧ ∃ q, pf y = .inr (1, sgF q)) (h2 : 2 ≤ n) (hn : n < 2 ^ 18) : Met l y_A_grow_0 (.code y_A_grow_0 c_A_grow_0 1 (some (.array (.object "java/lang/Object"))) :: gw) ({ frames := 4, cells := 1, slots := (n + n / 2), locals := 140 } : Room) (wP D E ([(h0, .inr (4, [.ref a, .int (nI n), .int mo9]))] ++ va_pl LP pf) sz [.ref h0]) (va_Qr (fun (u : Unit) => True) (wBr D (fun _ q => ([(h0, .inr (4, [.ref q, .int (nI n), .int mo9])), (q, .inl (E.2.2.2, (n + n / 2), .inr (.inr (.inr (.inr (va_cpy el (fun _ => none) 0 0 n))))))] ++ va_pl LP pf)) (va_A ([(h0, .inr (4, [.ref a, .int (nI n), .int mo9]))] ++ va_pl LP pf) sz)) (va_A ([(h0, .inr (4, [.ref a, .int (nI n), .int mo9]))] ++ va_pl LP pf) sz)) 1 (n + n / 2) (va_A ([(h0, .inr (4, [.ref a, .int (nI n), .int mo9]))] ++ va_pl LP pf) sz) := by
  refine wr_ofF (y := y_A_grow_0) (cc := c_A_grow_0) (maxL := 1) (ws := ([(h0, .inr (4, [.ref a, .int (nI n), .int mo9]))] ++ va_pl LP pf)) (sz := sz) (av := [.ref h0]) (Qc := fun A => (va_Qr (fun (u : Unit) => True) (wBr D (fun _ q => ([(h0, .inr (4, [.ref q, .int (nI n), .int mo9])), (q, .inl (E.2.2.2, (n + n / 2), .inr (.inr (.inr (.inr (va_cpy el (fun _ => none) 0 0 n))))))] ++ va_pl LP pf)) A) A)) (by decide) (Nat.le_of_ble_eq_true rfl) ?_
  intro p e s m below meth c B hP hK A hA hD hS ls hl
  obtain ⟨hx, hb, hrt, hml, hown, hts, hG, hlocks, hin⟩ := B
  have hl : lv_has ls 1 [(0, .ref h0)] := hl
  refine lv_aload_n hx hb d_A_grow_0_0 rfl (lv_at hl 0 rfl) ?_
  refine lv_aload_n hx hb d_A_grow_0_1 rfl (lv_at hl 0 rfl) ?_
  refine va_get (D := D) (ci := 4) (v := .int (nI n)) (C := K_A) (T := F_A) (N := 3) hx hb hG in_A hown hK.1 hP 0 rfl rfl 1 (by decide) (hG _ wd_80) (fun _ h9 => h9) rfl d_A_grow_0_2 ?_
  refine lv_iconst (v := 1) hx hb d_A_grow_0_5 (by decide) ?_
  refine lv_iadd hx hb d_A_grow_0_6 ?_
  rw [show (nI n + 1) = nI (n + 1) from nI_1 _]
  have hPc := va_P.part (X := [(h0, .inr (4, [.ref a, .int (nI n), .int mo9]))]) (cx := [(h0, .inr (4, [.ref a, .int (nI n), .int mo9]))]) (pl := va_pl LP pf) hP [0] rfl
  have hDc := va_D.part (X := [(h0, .inr (4, [.ref a, .int (nI n), .int mo9]))]) (cx := [(h0, .inr (4, [.ref a, .int (nI n), .int mo9]))]) (pl := va_pl LP pf) hD [0] (by decide) rfl
  have hFc := va_freeP (X := [(h0, .inr (4, [.ref a, .int (nI n), .int mo9]))]) (cx := [(h0, .inr (4, [.ref a, .int (nI n), .int mo9]))]) (pl := va_pl LP pf) hD hS hA [0] rfl
  refine va_callr (va_runV (As := [.int (nI (n + 1))]) (rest := []) ⟨hx, hb, hml, hown, hts⟩ (k_A_grow_I l D E h0 s.heap.size n el mo9 LP pf a ha hfa hel h2 hn) (cwV 1 hts (gw_gv wd_313 wd_315 wd_4 wd_40 wd_316) rfl rfl rfl (by decide +kernel) ⟨Nat.le_of_ble_eq_true rfl, Nat.le_of_ble_eq_true rfl⟩) (wP_V 0 hPc hK hDc rfl rfl) rfl rfl hl.1 rfl (lv_room (Nat.le_of_ble_eq_true rfl)) d_A_grow_0_7 ⟨Nat.le_of_ble_eq_true rfl, Nat.le_of_eq (Nat.zero_add _)⟩) hS (fun q _ h => hFc q h) hFc (fun u q t H1 locs ht hvm hw hB hz1 hk1 hS => ?_)
  obtain ⟨hP1, hD1⟩ := hB
  rw [ht] at hP1
  obtain ⟨hP, hD⟩ := va_joinP (X := [(h0, .inr (4, [.ref a, .int (nI n), .int mo9]))]) (cx := [(h0, .inr (4, [.ref a, .int (nI n), .int mo9]))]) (wr := []) (rx := [(h0, .inr (4, [.ref q, .int (nI n), .int mo9])), (q, .inl (E.2.2.2, (n + n / 2), .inr (.inr (.inr (.inr (va_cpy el (fun _ => none) 0 0 n))))))]) (pl := va_pl LP pf) (pl1 := va_pl LP pf) hP hD [0] [] rfl rfl (by decide) (by decide) hk1 hFc hP1 hD1
  generalize H1 = H at hP hS ⊢
  have hP : va_P D vwC ([(h0, .inr (4, [.ref q, .int (nI n), .int mo9])), (q, .inl (E.2.2.2, (n + n / 2), .inr (.inr (.inr (.inr (va_cpy el (fun _ => none) 0 0 n))))))] ++ va_pl LP pf) H := hP
  have hD : va_D A ([(h0, .inr (4, [.ref q, .int (nI n), .int mo9])), (q, .inl (E.2.2.2, (n + n / 2), .inr (.inr (.inr (.inr (va_cpy el (fun _ => none) 0 0 n))))))] ++ va_pl LP pf) := hD
  refine W.widen (k := 1) (n := (n + n / 2)) (by omega) (by omega) ?_
  exact W.aret (v := .ref q) hx hb hrt (Or.inr ⟨_, rfl⟩) (Or.inr ⟨_, rfl⟩) (fun t ht hW => ⟨⟨(), q, rfl, trivial, ⟨by rw [ht]; exact hP, hD⟩⟩, hS.F ht⟩) hS.2.2 d_A_grow_0_10 hlocks
