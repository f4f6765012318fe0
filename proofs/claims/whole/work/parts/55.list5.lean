theorem d_A_add_Object_0 : decode c_A_add_Object 0 = .ok (.aload_n 0, 1) := by decide +kernel
theorem d_A_add_Object_1 : decode c_A_add_Object 1 = .ok (.dup, 1) := by decide +kernel
theorem d_A_add_Object_2 : decode c_A_add_Object 2 = .ok (.getfield 63, 3) := by decide +kernel
theorem d_A_add_Object_5 : decode c_A_add_Object 5 = .ok (.iconst 1, 1) := by decide +kernel
theorem d_A_add_Object_6 : decode c_A_add_Object 6 = .ok (.iadd, 1) := by decide +kernel
theorem d_A_add_Object_7 : decode c_A_add_Object 7 = .ok (.putfield 63, 3) := by decide +kernel
theorem d_A_add_Object_10 : decode c_A_add_Object 10 = .ok (.aload_n 0, 1) := by decide +kernel
theorem d_A_add_Object_11 : decode c_A_add_Object 11 = .ok (.aload_n 1, 1) := by decide +kernel
theorem d_A_add_Object_12 : decode c_A_add_Object 12 = .ok (.aload_n 0, 1) := by decide +kernel
theorem d_A_add_Object_13 : decode c_A_add_Object 13 = .ok (.getfield 9, 3) := by decide +kernel
theorem d_A_add_Object_16 : decode c_A_add_Object 16 = .ok (.aload_n 0, 1) := by decide +kernel
theorem d_A_add_Object_17 : decode c_A_add_Object 17 = .ok (.getfield 48, 3) := by decide +kernel
theorem d_A_add_Object_20 : decode c_A_add_Object 20 = .ok (.invokevirtual 131, 3) := by decide +kernel
theorem d_A_add_Object_23 : decode c_A_add_Object 23 = .ok (.iconst 1, 1) := by decide +kernel
theorem d_A_add_Object_24 : decode c_A_add_Object 24 = .ok (.ireturn, 1) := by decide +kernel
theorem d_A_clear_0 : decode c_A_clear 0 = .ok (.aload_n 0, 1) := by decide +kernel
theorem d_A_clear_1 : decode c_A_clear 1 = .ok (.dup, 1) := by decide +kernel
theorem d_A_clear_2 : decode c_A_clear 2 = .ok (.getfield 63, 3) := by decide +kernel
theorem d_A_clear_5 : decode c_A_clear 5 = .ok (.iconst 1, 1) := by decide +kernel
theorem d_A_clear_6 : decode c_A_clear 6 = .ok (.iadd, 1) := by decide +kernel
theorem d_A_clear_7 : decode c_A_clear 7 = .ok (.putfield 63, 3) := by decide +kernel
theorem d_A_clear_10 : decode c_A_clear 10 = .ok (.aload_n 0, 1) := by decide +kernel
theorem d_A_clear_11 : decode c_A_clear 11 = .ok (.getfield 9, 3) := by decide +kernel
theorem d_A_clear_14 : decode c_A_clear 14 = .ok (.astore_n 1, 1) := by decide +kernel
theorem d_A_clear_15 : decode c_A_clear 15 = .ok (.aload_n 0, 1) := by decide +kernel
theorem d_A_clear_16 : decode c_A_clear 16 = .ok (.getfield 48, 3) := by decide +kernel
theorem d_A_clear_19 : decode c_A_clear 19 = .ok (.istore_n 2, 1) := by decide +kernel
theorem d_A_clear_20 : decode c_A_clear 20 = .ok (.aload_n 0, 1) := by decide +kernel
theorem d_A_clear_21 : decode c_A_clear 21 = .ok (.iconst 0, 1) := by decide +kernel
theorem d_A_clear_22 : decode c_A_clear 22 = .ok (.dup_x1, 1) := by decide +kernel
theorem d_A_clear_23 : decode c_A_clear 23 = .ok (.putfield 48, 3) := by decide +kernel
theorem d_A_clear_26 : decode c_A_clear 26 = .ok (.istore_n 3, 1) := by decide +kernel
theorem d_A_clear_27 : decode c_A_clear 27 = .ok (.iload_n 3, 1) := by decide +kernel
theorem d_A_clear_28 : decode c_A_clear 28 = .ok (.iload_n 2, 1) := by decide +kernel
theorem d_A_clear_29 : decode c_A_clear 29 = .ok (.if_icmp .ge 13, 3) := by decide +kernel
theorem d_A_clear_32 : decode c_A_clear 32 = .ok (.aload_n 1, 1) := by decide +kernel
theorem d_A_clear_33 : decode c_A_clear 33 = .ok (.iload_n 3, 1) := by decide +kernel
theorem d_A_clear_34 : decode c_A_clear 34 = .ok (.aconst_null, 1) := by decide +kernel
theorem d_A_clear_35 : decode c_A_clear 35 = .ok (.aastore, 1) := by decide +kernel
theorem d_A_clear_36 : decode c_A_clear 36 = .ok (.iinc 3 1, 3) := by decide +kernel
theorem d_A_clear_39 : decode c_A_clear 39 = .ok (.goto (-12), 3) := by decide +kernel
theorem d_A_clear_42 : decode c_A_clear 42 = .ok (.return_, 1) := by decide +kernel
set_option maxHeartbeats 4000000 in
set_option maxRecDepth 100000 in
theorem k_A_add_Object (l : Launch) (D : va_G) (E : ClassId × ClassId × ClassId × ClassId) (h0 sz e0 ed k : Nat) (mo9 : Int32) (sg : Nat → SQ) (LP : List Nat) (pf : Nat → va_E) (hL : Lst E LP pf e0 ed k sg) (hk : k < 2048) (y : Nat) (qq : SQ) (hy : y ∈ LP) (hfy : pf y = .inr (1, sgF qq)) : Met l y_A_add_Object (.code y_A_add_Object c_A_add_Object 2 (some .boolean) :: gw) ({ frames := 6, cells := 1, slots := 3072, locals := 195 } : Room) (wX D E e0 ([(h0, .inr (4, [.ref ed, .int (nI k), .int mo9]))] ++ va_pl LP pf) sz [.ref h0, .ref y]) (va_Qi (fun (r : Int32) (u : Nat × List Nat × (Nat → va_E)) => r = 1 ∧ Lst E u.2.1 u.2.2 e0 u.1 (k + 1) (sg_add sg k qq) ∧ (∀ a, a ∈ LP → a ∈ u.2.1) ∧ (∀ a, a ∈ LP → a ≠ ed → u.2.2 a = pf a)) (wB D (fun u => ([(h0, .inr (4, [.ref u.1, .int (nI (k + 1)), .int (mo9 + 1)]))] ++ va_pl u.2.1 u.2.2)) (va_A ([(h0, .inr (4, [.ref ed, .int (nI k), .int mo9]))] ++ va_pl LP pf) sz)) (va_A ([(h0, .inr (4, [.ref ed, .int (nI k), .int mo9]))] ++ va_pl LP pf) sz)) 1 3072 (va_A ([(h0, .inr (4, [.ref ed, .int (nI k), .int mo9]))] ++ va_pl LP pf) sz) := by
  refine wx_ofF (y := y_A_add_Object) (cc := c_A_add_Object) (maxL := 2) (ws := ([(h0, .inr (4, [.ref ed, .int (nI k), .int mo9]))] ++ va_pl LP pf)) (sz := sz) (av := [.ref h0, .ref y]) (Qc := fun A => (va_Qi (fun (r : Int32) (u : Nat × List Nat × (Nat → va_E)) => r = 1 ∧ Lst E u.2.1 u.2.2 e0 u.1 (k + 1) (sg_add sg k qq) ∧ (∀ a, a ∈ LP → a ∈ u.2.1) ∧ (∀ a, a ∈ LP → a ≠ ed → u.2.2 a = pf a)) (wB D (fun u => ([(h0, .inr (4, [.ref u.1, .int (nI (k + 1)), .int (mo9 + 1)]))] ++ va_pl u.2.1 u.2.2)) A) A)) (by decide) (Nat.le_of_ble_eq_true rfl) ?_
  intro p e s m below meth c B hP hK A hA hD hS hZ ls hl
  obtain ⟨hx, hb, hrt, hml, hown, hts, hG, hlocks, hin⟩ := B
  have hl : lv_has ls 2 [(0, .ref h0), (1, .ref y)] := hl
  refine lv_aload_n hx hb d_A_add_Object_0 rfl (lv_at hl 0 rfl) ?_
  refine lv_dup hx hb d_A_add_Object_1 rfl ?_
  refine va_get (D := D) (ci := 4) (v := .int mo9) (C := K_A) (T := F_A) (N := 3) hx hb hG in_A hown hK.1 hP 0 rfl rfl 2 (by decide) (hG _ wd_82) (fun x9 h9 => u_same (hG _ wd_83) x9 h9) rfl d_A_add_Object_2 ?_
  refine lv_iconst (v := 1) hx hb d_A_add_Object_5 (by decide) ?_
  refine lv_iadd hx hb d_A_add_Object_6 ?_
  refine va_put (D := D) (ci := 4) (v := .int (mo9 + 1)) (ty := .int) (C := K_A) (T := F_A) (N := 3) hx hb hG in_A t_A t_A_ok n_A hown hK.1 hP hD hS 0 rfl rfl 2 (by decide) (hG _ wd_82) (fun x9 h9 => u_same (hG _ wd_83) x9 h9) rfl (by decide +kernel) rfl rfl (Nat.le_of_ble_eq_true rfl) d_A_add_Object_7 (fun H locs hP hD hS => ?_)
  have hP : va_P D vwC ([(h0, .inr (4, [.ref ed, .int (nI k), .int (mo9 + 1)]))] ++ va_pl LP pf) H := hP
  have hD : va_D A ([(h0, .inr (4, [.ref ed, .int (nI k), .int (mo9 + 1)]))] ++ va_pl LP pf) := hD
  refine lv_aload_n hx hb d_A_add_Object_10 rfl (lv_at hl 0 rfl) ?_
  refine lv_aload_n hx hb d_A_add_Object_11 rfl (lv_at hl 1 rfl) ?_
  refine lv_aload_n hx hb d_A_add_Object_12 rfl (lv_at hl 0 rfl) ?_
  refine va_get (D := D) (ci := 4) (v := .ref ed) (C := K_A) (T := F_A) (N := 3) hx hb hG in_A hown hK.1 hP 0 rfl rfl 0 (by decide) (hG _ wd_79) (fun _ h9 => h9) rfl d_A_add_Object_13 ?_
  refine lv_aload_n hx hb d_A_add_Object_16 rfl (lv_at hl 0 rfl) ?_
  refine va_get (D := D) (ci := 4) (v := .int (nI k)) (C := K_A) (T := F_A) (N := 3) hx hb hG in_A hown hK.1 hP 0 rfl rfl 1 (by decide) (hG _ wd_80) (fun _ h9 => h9) rfl d_A_add_Object_17 ?_
  rcases hL with ⟨he, hk0⟩ | ⟨n, el, hO⟩
  · subst hk0
    subst he
    rw [nI_0] at hP hD
    rw [nI_0]
    have hPc := va_P.part (X := [(h0, .inr (4, [.ref ed, .int 0, .int (mo9 + 1)]))]) (cx := [(h0, .inr (4, [.ref ed, .int 0, .int (mo9 + 1)]))]) (pl := va_pl LP pf) hP [0] rfl
    have hDc := va_D.part (X := [(h0, .inr (4, [.ref ed, .int 0, .int (mo9 + 1)]))]) (cx := [(h0, .inr (4, [.ref ed, .int 0, .int (mo9 + 1)]))]) (pl := va_pl LP pf) hD [0] (by decide) rfl
    have hFc := va_freeP (X := [(h0, .inr (4, [.ref ed, .int 0, .int (mo9 + 1)]))]) (cx := [(h0, .inr (4, [.ref ed, .int 0, .int (mo9 + 1)]))]) (pl := va_pl LP pf) hD hS hA [0] rfl
    refine va_callv (va_runV (As := [.ref y, .ref ed, .int 0]) (rest := []) ⟨hx, hb, hml, hown, hts⟩ (k_A_add3f l D E h0 H.size ed (mo9 + 1) LP pf y qq hy hfy) (cwV 3 hts (gw_gv wd_305 wd_307 wd_2 wd_40 wd_308) rfl rfl rfl (by decide +kernel) ⟨Nat.le_of_ble_eq_true rfl, Nat.le_of_ble_eq_true rfl⟩) (wX_V 0 hPc hK hDc hZ hS hFc rfl rfl) rfl rfl hl.1 rfl (lv_room (Nat.le_of_ble_eq_true rfl)) d_A_add_Object_20 ⟨Nat.le_of_ble_eq_true rfl, Nat.le_of_ble_eq_true rfl⟩) hS (fun q _ h => hFc q h) hFc (fun u1 t H1 locs ht hvm hw hB hz1 hk1 hS => ?_)
    obtain ⟨hP1, hD1⟩ := hB
    rw [ht] at hP1
    obtain ⟨hP, hD⟩ := va_joinP (X := [(h0, .inr (4, [.ref ed, .int 0, .int (mo9 + 1)]))]) (cx := [(h0, .inr (4, [.ref ed, .int 0, .int (mo9 + 1)]))]) (wr := []) (rx := [(h0, .inr (4, [.ref u1, .int (nI 1), .int (mo9 + 1)]))]) (pl := va_pl LP pf) (pl1 := va_pl (LP ++ [u1]) (va_up pf u1 (.inl (E.2.2.2, 10, .inr (.inr (.inr (.inr (va_up (fun _ => none) 0 (some y))))))))) hP hD [0] [] rfl rfl (by decide) (by decide) hk1 hFc hP1 hD1
    generalize H1 = H at hP hS ⊢
    have hP : va_P D vwC ([(h0, .inr (4, [.ref u1, .int (nI 1), .int (mo9 + 1)]))] ++ va_pl (LP ++ [u1]) (va_up pf u1 (.inl (E.2.2.2, 10, .inr (.inr (.inr (.inr (va_up (fun _ => none) 0 (some y))))))))) H := hP
    have hD : va_D A ([(h0, .inr (4, [.ref u1, .int (nI 1), .int (mo9 + 1)]))] ++ va_pl (LP ++ [u1]) (va_up pf u1 (.inl (E.2.2.2, 10, .inr (.inr (.inr (.inr (va_up (fun _ => none) 0 (some y))))))))) := hD
    refine W.widen (k := 1) (n := 3072) (by decide) (by decide) ?_
    refine lv_iconst (v := 1) hx hb d_A_add_Object_23 (by decide) ?_
    exact W.zret (v := 1) (ty := .boolean) hx hb hrt rfl (fun t ht hW => ⟨⟨1, (u1, LP ++ [u1], va_up pf u1 (.inl (E.2.2.2, 10, .inr (.inr (.inr (.inr (va_up (fun _ => none) 0 (some y)))))))), rfl, ⟨rfl, Or.inr ⟨10, va_up (fun _ => none) 0 (some y), LstO.fresh (el := fun _ => none) hw (by decide) (by decide) (by decide) hy hfy (fun i _ hi => Or.inr (va_up_n _ _ hi)) (va_up_s _ _ _) (fun i hi => absurd hi (Nat.not_lt_zero _)) (fun i _ hi z hz => by rw [va_up_n _ _ hi] at hz; cases hz) (fun i hi => absurd hi (Nat.not_lt_zero _))⟩, fun a ha => List.mem_append_left _ ha, fun a ha _ => va_up_n _ _ (fun e => hw (e ▸ ha))⟩, ⟨by rw [ht]; exact hP, hD⟩⟩, hS.F ht⟩) hS.2.2 d_A_add_Object_24 hlocks
  · obtain ⟨g1, g2, g3, g4, g5, g6, g7⟩ := id hO
    by_cases hkn : k < n
    · have hPc := va_P.part (X := [(h0, .inr (4, [.ref ed, .int (nI k), .int (mo9 + 1)]))]) (cx := [(h0, .inr (4, [.ref ed, .int (nI k), .int (mo9 + 1)]))]) (pl := va_pl LP pf) hP [0] rfl
      have hDc := va_D.part (X := [(h0, .inr (4, [.ref ed, .int (nI k), .int (mo9 + 1)]))]) (cx := [(h0, .inr (4, [.ref ed, .int (nI k), .int (mo9 + 1)]))]) (pl := va_pl LP pf) hD [0] (by decide) rfl
      have hFc := va_freeP (X := [(h0, .inr (4, [.ref ed, .int (nI k), .int (mo9 + 1)]))]) (cx := [(h0, .inr (4, [.ref ed, .int (nI k), .int (mo9 + 1)]))]) (pl := va_pl LP pf) hD hS hA [0] rfl
      refine va_callv (va_runV (As := [.ref y, .ref ed, .int (nI k)]) (rest := []) ⟨hx, hb, hml, hown, hts⟩ (k_A_add3 l D E h0 H.size ed n k el (mo9 + 1) LP pf g1 g2 hkn (by omega) y qq hy hfy) (cwV 3 hts (gw_gv wd_305 wd_307 wd_2 wd_40 wd_308) rfl rfl rfl (by decide +kernel) ⟨Nat.le_of_ble_eq_true rfl, Nat.le_of_ble_eq_true rfl⟩) (wP_V 0 hPc hK hDc rfl rfl) rfl rfl hl.1 rfl (lv_room (Nat.le_of_ble_eq_true rfl)) d_A_add_Object_20 ⟨Nat.le_of_ble_eq_true rfl, Nat.le_of_ble_eq_true rfl⟩) hS (fun q _ h => hFc q h) hFc (fun u1 t H1 locs ht hvm hw hB hz1 hk1 hS => ?_)
      obtain ⟨hP1, hD1⟩ := hB
      rw [ht] at hP1
      obtain ⟨hP, hD⟩ := va_joinP (X := [(h0, .inr (4, [.ref ed, .int (nI k), .int (mo9 + 1)]))]) (cx := [(h0, .inr (4, [.ref ed, .int (nI k), .int (mo9 + 1)]))]) (wr := []) (rx := [(h0, .inr (4, [.ref ed, .int (nI (k + 1)), .int (mo9 + 1)]))]) (pl := va_pl LP pf) (pl1 := va_pl LP (va_up pf ed (.inl (E.2.2.2, n, .inr (.inr (.inr (.inr (va_up el k (some y))))))))) hP hD [0] [] rfl rfl (by decide) (by decide) hk1 hFc hP1 hD1
      generalize H1 = H at hP hS ⊢
      have hP : va_P D vwC ([(h0, .inr (4, [.ref ed, .int (nI (k + 1)), .int (mo9 + 1)]))] ++ va_pl LP (va_up pf ed (.inl (E.2.2.2, n, .inr (.inr (.inr (.inr (va_up el k (some y))))))))) H := hP
      have hD : va_D A ([(h0, .inr (4, [.ref ed, .int (nI (k + 1)), .int (mo9 + 1)]))] ++ va_pl LP (va_up pf ed (.inl (E.2.2.2, n, .inr (.inr (.inr (.inr (va_up el k (some y))))))))) := hD
      refine W.widen (k := 1) (n := 3072) (by decide) (by decide) ?_
      refine lv_iconst (v := 1) hx hb d_A_add_Object_23 (by decide) ?_
      exact W.zret (v := 1) (ty := .boolean) hx hb hrt rfl (fun t ht hW => ⟨⟨1, (ed, LP, va_up pf ed (.inl (E.2.2.2, n, .inr (.inr (.inr (.inr (va_up el k (some y)))))))), rfl, ⟨rfl, Or.inr ⟨n, va_up el k (some y), hO.room hkn hy hfy⟩, fun a ha => ha, fun a _ hne => va_up_n _ _ hne⟩, ⟨by rw [ht]; exact hP, hD⟩⟩, hS.F ht⟩) hS.2.2 d_A_add_Object_24 hlocks
    · obtain rfl : k = n := by omega
      have hPc := va_P.part (X := [(h0, .inr (4, [.ref ed, .int (nI k), .int (mo9 + 1)]))]) (cx := [(h0, .inr (4, [.ref ed, .int (nI k), .int (mo9 + 1)]))]) (pl := va_pl LP pf) hP [0] rfl
      have hDc := va_D.part (X := [(h0, .inr (4, [.ref ed, .int (nI k), .int (mo9 + 1)]))]) (cx := [(h0, .inr (4, [.ref ed, .int (nI k), .int (mo9 + 1)]))]) (pl := va_pl LP pf) hD [0] (by decide) rfl
      have hFc := va_freeP (X := [(h0, .inr (4, [.ref ed, .int (nI k), .int (mo9 + 1)]))]) (cx := [(h0, .inr (4, [.ref ed, .int (nI k), .int (mo9 + 1)]))]) (pl := va_pl LP pf) hD hS hA [0] rfl
      refine va_callv (va_runV (As := [.ref y, .ref ed, .int (nI k)]) (rest := []) ⟨hx, hb, hml, hown, hts⟩ (k_A_add3g l D E h0 H.size ed k el (mo9 + 1) LP pf g1 g2 g6 (by omega) (by omega) y qq hy hfy) (cwV 3 hts (gw_gv wd_305 wd_307 wd_2 wd_40 wd_308) rfl rfl rfl (by decide +kernel) ⟨Nat.le_of_ble_eq_true rfl, Nat.le_of_ble_eq_true rfl⟩) (wP_V 0 hPc hK hDc rfl rfl) rfl rfl hl.1 rfl (lv_room (Nat.le_of_ble_eq_true rfl)) d_A_add_Object_20 ⟨Nat.le_of_ble_eq_true rfl, by show 0 + (k + k / 2) ≤ 3072; omega⟩) hS (fun q _ h => hFc q h) hFc (fun u1 t H1 locs ht hvm hw hB hz1 hk1 hS => ?_)
      obtain ⟨hP1, hD1⟩ := hB
      rw [ht] at hP1
      obtain ⟨hP, hD⟩ := va_joinP (X := [(h0, .inr (4, [.ref ed, .int (nI k), .int (mo9 + 1)]))]) (cx := [(h0, .inr (4, [.ref ed, .int (nI k), .int (mo9 + 1)]))]) (wr := []) (rx := [(h0, .inr (4, [.ref u1, .int (nI (k + 1)), .int (mo9 + 1)]))]) (pl := va_pl LP pf) (pl1 := va_pl (LP ++ [u1]) (va_up pf u1 (.inl (E.2.2.2, (k + k / 2), .inr (.inr (.inr (.inr (va_up (va_cpy el (fun _ => none) 0 0 k) k (some y))))))))) hP hD [0] [] rfl rfl (by decide) (by decide) hk1 hFc hP1 hD1
      generalize H1 = H at hP hS ⊢
      have hP : va_P D vwC ([(h0, .inr (4, [.ref u1, .int (nI (k + 1)), .int (mo9 + 1)]))] ++ va_pl (LP ++ [u1]) (va_up pf u1 (.inl (E.2.2.2, (k + k / 2), .inr (.inr (.inr (.inr (va_up (va_cpy el (fun _ => none) 0 0 k) k (some y))))))))) H := hP
      have hD : va_D A ([(h0, .inr (4, [.ref u1, .int (nI (k + 1)), .int (mo9 + 1)]))] ++ va_pl (LP ++ [u1]) (va_up pf u1 (.inl (E.2.2.2, (k + k / 2), .inr (.inr (.inr (.inr (va_up (va_cpy el (fun _ => none) 0 0 k) k (some y))))))))) := hD
      refine W.widen (k := 1) (n := 3072) (by decide) (by omega) ?_
      refine lv_iconst (v := 1) hx hb d_A_add_Object_23 (by decide) ?_
      exact W.zret (v := 1) (ty := .boolean) hx hb hrt rfl (fun t ht hW => ⟨⟨1, (u1, LP ++ [u1], va_up pf u1 (.inl (E.2.2.2, (k + k / 2), .inr (.inr (.inr (.inr (va_up (va_cpy el (fun _ => none) 0 0 k) k (some y)))))))), rfl, ⟨rfl, Or.inr ⟨k + k / 2, va_up (va_cpy el (fun _ => none) 0 0 k) k (some y), LstO.fresh (el := el) hw (by omega) (by omega) (by omega) hy hfy (fun i _ hi => by rw [va_up_n _ _ hi]; by_cases q : i < k; exact Or.inl (by rw [pk_cpy_in (Nat.zero_le _) (by omega), Nat.zero_add, Nat.sub_zero]); exact Or.inr (pk_cpy_out (Or.inr (by omega)))) (va_up_s _ _ _) (fun i hi => by rw [va_up_n _ _ (by omega), pk_cpy_in (Nat.zero_le _) (by omega), Nat.zero_add, Nat.sub_zero]) (fun i _ hi z hz => by
            rw [va_up_n _ _ hi] at hz
            by_cases q : i < k
            · rw [pk_cpy_in (Nat.zero_le _) (by omega), Nat.zero_add, Nat.sub_zero] at hz; exact g6 i q z hz
            · rw [pk_cpy_out (Or.inr (by omega))] at hz; cases hz) g7⟩, fun a ha => List.mem_append_left _ ha, fun a ha _ => va_up_n _ _ (fun e => hw (e ▸ ha))⟩, ⟨by rw [ht]; exact hP, hD⟩⟩, hS.F ht⟩) hS.2.2 d_A_add_Object_24 hlocks
def nl (el : Nat → Option Nat) (i : Nat) : Nat → Option Nat := fun j => if j < i then none else el j
theorem nl_s (el : Nat → Option Nat) (i : Nat) : va_up (nl el i) i none = nl el (i + 1) := by
  funext j
  by_cases e : j = i
  · subst e; rw [va_up_s, nl, if_pos (by omega)]
  · rw [va_up_n _ _ e, nl, nl]
    by_cases c : j < i
    · rw [if_pos c, if_pos (by omega)]
    · rw [if_neg c, if_neg (by omega)]
theorem nl_0 (el : Nat → Option Nat) : nl el 0 = el := by
  funext j
  exact if_neg (by omega)
theorem va_up_id {α : Type} {f : Nat → α} {k : Nat} {v : α} (h : f k = v) : va_up f k v = f := by
  funext j
  by_cases e : j = k
  · subst e; rw [va_up_s, h]
  · exact va_up_n _ _ e
theorem va_up2 {α : Type} (f : Nat → α) (k : Nat) (v w : α) : va_up (va_up f k v) k w = va_up f k w := by
  funext j
  by_cases e : j = k
  · subst e; rw [va_up_s, va_up_s]
  · rw [va_up_n _ _ e, va_up_n _ _ e, va_up_n _ _ e]
set_option maxHeartbeats 4000000 in
set_option maxRecDepth 100000 in
theorem k_A_clear (l : Launch) (D : va_G) (E : ClassId × ClassId × ClassId × ClassId) (h0 sz e0 ed k : Nat) (mo9 : Int32) (sg : Nat → SQ) (LP : List Nat) (pf : Nat → va_E) (hL : Lst E LP pf e0 ed k sg) : Met l y_A_clear (.code y_A_clear c_A_clear 4 none :: gw) ({ frames := 0, cells := 0, slots := 0, locals := 0 } : Room) (wP D E ([(h0, .inr (4, [.ref ed, .int (nI k), .int mo9]))] ++ va_pl LP pf) sz [.ref h0]) (va_Qv (fun (u : Nat → va_E) => Lst E LP u e0 ed 0 sg ∧ (∀ a, a ∈ LP → a ≠ ed → u a = pf a)) (wB D (fun u => ([(h0, .inr (4, [.ref ed, .int 0, .int (mo9 + 1)]))] ++ va_pl LP u)) (va_A ([(h0, .inr (4, [.ref ed, .int (nI k), .int mo9]))] ++ va_pl LP pf) sz)) (va_A ([(h0, .inr (4, [.ref ed, .int (nI k), .int mo9]))] ++ va_pl LP pf) sz)) 0 0 (va_A ([(h0, .inr (4, [.ref ed, .int (nI k), .int mo9]))] ++ va_pl LP pf) sz) := by
  refine wr_ofF (y := y_A_clear) (cc := c_A_clear) (maxL := 4) (ws := ([(h0, .inr (4, [.ref ed, .int (nI k), .int mo9]))] ++ va_pl LP pf)) (sz := sz) (av := [.ref h0]) (Qc := fun A => (va_Qv (fun (u : Nat → va_E) => Lst E LP u e0 ed 0 sg ∧ (∀ a, a ∈ LP → a ≠ ed → u a = pf a)) (wB D (fun u => ([(h0, .inr (4, [.ref ed, .int 0, .int (mo9 + 1)]))] ++ va_pl LP u)) A) A)) (by decide) (Nat.le_of_ble_eq_true rfl) ?_
  intro p e s m below meth c B hP hK A hA hD hS ls hl
  obtain ⟨hx, hb, hrt, hml, hown, hts, hG, hlocks, hin⟩ := B
  have hl : lv_has ls 4 [(0, .ref h0)] := hl
  refine lv_aload_n hx hb d_A_clear_0 rfl (lv_at hl 0 rfl) ?_
  refine lv_dup hx hb d_A_clear_1 rfl ?_
  refine va_get (D := D) (ci := 4) (v := .int mo9) (C := K_A) (T := F_A) (N := 3) hx hb hG in_A hown hK.1 hP 0 rfl rfl 2 (by decide) (hG _ wd_82) (fun x9 h9 => u_same (hG _ wd_83) x9 h9) rfl d_A_clear_2 ?_
  refine lv_iconst (v := 1) hx hb d_A_clear_5 (by decide) ?_
  refine lv_iadd hx hb d_A_clear_6 ?_
  refine va_put (D := D) (ci := 4) (v := .int (mo9 + 1)) (ty := .int) (C := K_A) (T := F_A) (N := 3) hx hb hG in_A t_A t_A_ok n_A hown hK.1 hP hD hS 0 rfl rfl 2 (by decide) (hG _ wd_82) (fun x9 h9 => u_same (hG _ wd_83) x9 h9) rfl (by decide +kernel) rfl rfl (Nat.le_of_ble_eq_true rfl) d_A_clear_7 (fun H locs hP hD hS => ?_)
  have hP : va_P D vwC ([(h0, .inr (4, [.ref ed, .int (nI k), .int (mo9 + 1)]))] ++ va_pl LP pf) H := hP
  have hD : va_D A ([(h0, .inr (4, [.ref ed, .int (nI k), .int (mo9 + 1)]))] ++ va_pl LP pf) := hD
  refine lv_aload_n hx hb d_A_clear_10 rfl (lv_at hl 0 rfl) ?_
  refine va_get (D := D) (ci := 4) (v := .ref ed) (C := K_A) (T := F_A) (N := 3) hx hb hG in_A hown hK.1 hP 0 rfl rfl 0 (by decide) (hG _ wd_79) (fun _ h9 => h9) rfl d_A_clear_11 ?_
  refine lv_astore_n (lv' := [(1, .ref ed), (0, .ref h0)]) hx hb d_A_clear_14 rfl hl (by decide) rfl (fun ls hl => ?_)
  refine lv_aload_n hx hb d_A_clear_15 rfl (lv_at hl 1 rfl) ?_
  refine va_get (D := D) (ci := 4) (v := .int (nI k)) (C := K_A) (T := F_A) (N := 3) hx hb hG in_A hown hK.1 hP 0 rfl rfl 1 (by decide) (hG _ wd_80) (fun _ h9 => h9) rfl d_A_clear_16 ?_
  refine lv_istore_n (lv' := [(2, .int (nI k)), (1, .ref ed), (0, .ref h0)]) hx hb d_A_clear_19 rfl hl (by decide) rfl (fun ls hl => ?_)
  refine lv_aload_n hx hb d_A_clear_20 rfl (lv_at hl 2 rfl) ?_
  refine lv_iconst (v := 0) hx hb d_A_clear_21 (by decide) ?_
  refine lv_dup_x1 hx hb d_A_clear_22 rfl rfl ?_
  refine va_put (D := D) (ci := 4) (v := .int 0) (ty := .int) (C := K_A) (T := F_A) (N := 3) hx hb hG in_A t_A t_A_ok n_A hown hK.1 hP hD hS 0 rfl rfl 1 (by decide) (hG _ wd_80) (fun _ h9 => h9) rfl (by decide +kernel) rfl rfl (Nat.le_of_ble_eq_true rfl) d_A_clear_23 (fun H locs hP hD hS => ?_)
  have hP : va_P D vwC ([(h0, .inr (4, [.ref ed, .int 0, .int (mo9 + 1)]))] ++ va_pl LP pf) H := hP
  have hD : va_D A ([(h0, .inr (4, [.ref ed, .int 0, .int (mo9 + 1)]))] ++ va_pl LP pf) := hD
  refine lv_istore_n (lv' := [(3, .int 0), (2, .int (nI k)), (1, .ref ed), (0, .ref h0)]) hx hb d_A_clear_26 rfl hl (by decide) rfl (fun ls hl => ?_)
  rcases hL with ⟨he, hk0⟩ | ⟨n, el, hO⟩
  · subst hk0
    refine lv_iload_n hx hb d_A_clear_27 rfl (lv_at hl 0 rfl) ?_
    refine lv_iload_n hx hb d_A_clear_28 rfl (lv_at hl 1 rfl) ?_
    refine lv_icmp_ge (tgt := 42) hx hb d_A_clear_29 (by decide) (fun c1 => ?_) (fun c1 => ?_)
    · exact W.vret hx hb hrt (fun t ht hW => ⟨⟨pf, rfl, ⟨Or.inl ⟨he, rfl⟩, fun _ _ _ => rfl⟩, ⟨by rw [ht]; exact hP, hD⟩⟩, hS.F ht⟩) hS.2.2 d_A_clear_42 hlocks
    · exact absurd (show nI 0 ≤ 0 from by decide) c1
  · obtain ⟨g1, g2, g3, g4, g5, g6, g7⟩ := id hO
    have loop : ∀ (fu : Nat) (i : Nat) (H : Heap) (locs : List Loc) (ls : Array Slot), (i ≤ k) → (k < i + fu) → va_P D vwC ([(h0, .inr (4, [.ref ed, .int 0, .int (mo9 + 1)]))] ++ va_pl LP (va_up pf ed (.inl (E.2.2.2, n, .inr (.inr (.inr (.inr (nl el i)))))))) H → va_D A ([(h0, .inr (4, [.ref ed, .int 0, .int (mo9 + 1)]))] ++ va_pl LP (va_up pf ed (.inl (E.2.2.2, n, .inr (.inr (.inr (.inr (nl el i)))))))) → va_S A s.heap H locs → lv_has ls 4 [(0, .ref h0), (1, .ref ed), (2, .int (nI k)), (3, .int (nI i))] → W p l e ({ frames := 0, cells := 0, slots := 0, locals := 0 } : Room) s m ([.ref h0] : List Value).toArray below meth c H locs 0 0 (MQ below (va_Qv (fun (u : Nat → va_E) => Lst E LP u e0 ed 0 sg ∧ (∀ a, a ∈ LP → a ≠ ed → u a = pf a)) (wB D (fun u => ([(h0, .inr (4, [.ref ed, .int 0, .int (mo9 + 1)]))] ++ va_pl LP u)) A) A) ([.ref h0] : List Value).toArray s 0 0 A) (F0 m 27 ls []) := by
      intro fu
      induction fu with
      | zero =>
        intro i H locs ls h1 h2 hP hD hS hl
        omega
      | succ fu ih =>
        intro i H locs ls h1 h2 hP hD hS hl
        refine lv_iload_n hx hb d_A_clear_27 rfl (lv_at hl 3 rfl) ?_
        refine lv_iload_n hx hb d_A_clear_28 rfl (lv_at hl 2 rfl) ?_
        refine lv_icmp_ge (tgt := 42) hx hb d_A_clear_29 (by decide) (fun c1 => ?_) (fun c1 => ?_)
        · exact W.vret hx hb hrt (fun t ht hW => ⟨⟨(va_up pf ed (.inl (E.2.2.2, n, .inr (.inr (.inr (.inr (nl el i))))))), rfl, ⟨Or.inr ⟨n, nl el i, g1, va_up_s _ _ _, Nat.zero_le _, g4, g5, fun j hj z hz => by
                  unfold nl at hz
                  split at hz
                  · cases hz
                  · obtain ⟨a1, q', a2⟩ := g6 j hj z hz
                    exact ⟨a1, q', by rw [va_up_n _ _ (fun e => by rw [e, g2] at a2; cases a2)]; exact a2⟩, fun j hj => absurd hj (Nat.not_lt_zero _)⟩, fun a _ hne => va_up_n _ _ hne⟩, ⟨by rw [ht]; exact hP, hD⟩⟩, hS.F ht⟩) hS.2.2 d_A_clear_42 hlocks
        · have q : i < k := by rw [nI_leI (by omega) (by omega)] at c1; omega
          refine lv_aload_n hx hb d_A_clear_32 rfl (lv_at hl 1 rfl) ?_
          refine lv_iload_n hx hb d_A_clear_33 rfl (lv_at hl 3 rfl) ?_
          refine lv_null hx hb d_A_clear_34 ?_
          obtain ⟨kq, hkq0⟩ := va_pl_get (X := [(h0, .inr (4, [.ref ed, .int 0, .int (mo9 + 1)]))]) (f := va_up pf ed (.inl (E.2.2.2, n, .inr (.inr (.inr (.inr (nl el i))))))) g1
          have hkq := hkq0
          rw [va_up_s] at hkq
          have hD0 := hD
          refine va_astqN hx hb hK.1 hP hD hS kq 3 hkq rfl (vp_in_nI (by omega) (by omega)) d_A_clear_35 (fun H locs hP hD hS => ?_)
          rw [nI_clamp (by omega), va_pl_set hD0 g1 hkq0, va_up2, nl_s] at hP hD
          have hP : va_P D vwC ([(h0, .inr (4, [.ref ed, .int 0, .int (mo9 + 1)]))] ++ va_pl LP (va_up pf ed (.inl (E.2.2.2, n, .inr (.inr (.inr (.inr (nl el (i + 1))))))))) H := hP
          have hD : va_D A ([(h0, .inr (4, [.ref ed, .int 0, .int (mo9 + 1)]))] ++ va_pl LP (va_up pf ed (.inl (E.2.2.2, n, .inr (.inr (.inr (.inr (nl el (i + 1))))))))) := hD
          refine lv_iinc (v := nI (i + 1)) (lv' := [(3, .int (nI (i + 1))), (0, .ref h0), (1, .ref ed), (2, .int (nI k))]) hx hb d_A_clear_36 hl (k := 3) rfl (iinc_p _) (by decide) rfl (fun ls hl => ?_)
          refine lv_goto (tgt := 27) hx hb d_A_clear_39 (by decide) ?_
          exact ih (i + 1) H locs ls (by omega) (by omega) hP hD hS (lv_sub hl [1, 2, 3, 0] rfl)
    exact loop (k + 1) 0 H locs ls (Nat.zero_le _) (by omega) (by rw [nl_0, va_up_id g2]; exact hP) (by rw [nl_0, va_up_id g2]; exact hD) hS (lv_sub hl [3, 2, 1, 0] rfl)
