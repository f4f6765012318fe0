theorem d_U_newLength_0 : decode c_U_newLength 0 = .ok (.iload_n 0, 1) := by decide +kernel
theorem d_U_newLength_1 : decode c_U_newLength 1 = .ok (.iload_n 1, 1) := by decide +kernel
theorem d_U_newLength_2 : decode c_U_newLength 2 = .ok (.iload_n 2, 1) := by decide +kernel
theorem d_U_newLength_3 : decode c_U_newLength 3 = .ok (.invokestatic 194, 3) := by decide +kernel
theorem d_U_newLength_6 : decode c_U_newLength 6 = .ok (.iadd, 1) := by decide +kernel
theorem d_U_newLength_7 : decode c_U_newLength 7 = .ok (.istore_n 3, 1) := by decide +kernel
theorem d_U_newLength_8 : decode c_U_newLength 8 = .ok (.iconst 0, 1) := by decide +kernel
theorem d_U_newLength_9 : decode c_U_newLength 9 = .ok (.iload_n 3, 1) := by decide +kernel
theorem d_U_newLength_10 : decode c_U_newLength 10 = .ok (.if_icmp .ge 11, 3) := by decide +kernel
theorem d_U_newLength_13 : decode c_U_newLength 13 = .ok (.iload_n 3, 1) := by decide +kernel
theorem d_U_newLength_14 : decode c_U_newLength 14 = .ok (.ldc 200, 2) := by decide +kernel
theorem d_U_newLength_16 : decode c_U_newLength 16 = .ok (.if_icmp .gt 5, 3) := by decide +kernel
theorem d_U_newLength_19 : decode c_U_newLength 19 = .ok (.iload_n 3, 1) := by decide +kernel
theorem d_U_newLength_20 : decode c_U_newLength 20 = .ok (.ireturn, 1) := by decide +kernel
theorem d_Y_copyOf_aObjectIClass_0 : decode c_Y_copyOf_aObjectIClass 0 = .ok (.aload_n 2, 1) := by decide +kernel
theorem d_Y_copyOf_aObjectIClass_1 : decode c_Y_copyOf_aObjectIClass 1 = .ok (.ldc 110, 2) := by decide +kernel
theorem d_Y_copyOf_aObjectIClass_3 : decode c_Y_copyOf_aObjectIClass 3 = .ok (.if_acmp .ne 10, 3) := by decide +kernel
theorem d_Y_copyOf_aObjectIClass_6 : decode c_Y_copyOf_aObjectIClass 6 = .ok (.iload_n 1, 1) := by decide +kernel
theorem d_Y_copyOf_aObjectIClass_7 : decode c_Y_copyOf_aObjectIClass 7 = .ok (.anewarray 2, 3) := by decide +kernel
theorem d_Y_copyOf_aObjectIClass_10 : decode c_Y_copyOf_aObjectIClass 10 = .ok (.goto 14, 3) := by decide +kernel
theorem d_Y_copyOf_aObjectIClass_24 : decode c_Y_copyOf_aObjectIClass 24 = .ok (.astore_n 3, 1) := by decide +kernel
theorem d_Y_copyOf_aObjectIClass_25 : decode c_Y_copyOf_aObjectIClass 25 = .ok (.aload_n 0, 1) := by decide +kernel
theorem d_Y_copyOf_aObjectIClass_26 : decode c_Y_copyOf_aObjectIClass 26 = .ok (.iconst 0, 1) := by decide +kernel
theorem d_Y_copyOf_aObjectIClass_27 : decode c_Y_copyOf_aObjectIClass 27 = .ok (.aload_n 3, 1) := by decide +kernel
theorem d_Y_copyOf_aObjectIClass_28 : decode c_Y_copyOf_aObjectIClass 28 = .ok (.iconst 0, 1) := by decide +kernel
theorem d_Y_copyOf_aObjectIClass_29 : decode c_Y_copyOf_aObjectIClass 29 = .ok (.aload_n 0, 1) := by decide +kernel
theorem d_Y_copyOf_aObjectIClass_30 : decode c_Y_copyOf_aObjectIClass 30 = .ok (.arraylength, 1) := by decide +kernel
theorem d_Y_copyOf_aObjectIClass_31 : decode c_Y_copyOf_aObjectIClass 31 = .ok (.iload_n 1, 1) := by decide +kernel
theorem d_Y_copyOf_aObjectIClass_32 : decode c_Y_copyOf_aObjectIClass 32 = .ok (.invokestatic 304, 3) := by decide +kernel
theorem d_Y_copyOf_aObjectIClass_35 : decode c_Y_copyOf_aObjectIClass 35 = .ok (.invokestatic 150, 3) := by decide +kernel
theorem d_Y_copyOf_aObjectIClass_38 : decode c_Y_copyOf_aObjectIClass 38 = .ok (.aload_n 3, 1) := by decide +kernel
theorem d_Y_copyOf_aObjectIClass_39 : decode c_Y_copyOf_aObjectIClass 39 = .ok (.areturn, 1) := by decide +kernel
theorem nI_max {a b : Nat} (ha : a < 2 ^ 31) (hb : b < 2 ^ 31) : (if nI a < nI b then nI b else nI a) = nI (max a b) := by
  by_cases h : a < b
  · rw [if_pos (nI_lt h hb), Nat.max_eq_right (by omega)]
  · rw [if_neg (by rw [nI_ltI ha hb]; exact h), Nat.max_eq_left (by omega)]
set_option maxHeartbeats 4000000 in
set_option maxRecDepth 100000 in
theorem k_U_newLength (l : Launch) (D : va_G) (E : ClassId × ClassId × ClassId × ClassId) (n : Nat) (h2 : 2 ≤ n) (hn : n < 2 ^ 20) : Met l y_U_newLength (.code y_U_newLength c_U_newLength 4 (some .int) :: gw) ({ frames := 1, cells := 0, slots := 0, locals := 30 } : Room) (rP D E [] [.int (nI n), .int (nI 1), .int (nI (n / 2))]) (vp_Si (fun r => r = nI (n + n / 2))) 0 0 (fun _ => False) := by
  refine rd_ofF (by decide) (Nat.le_of_ble_eq_true rfl) ?_
  intro p e s m below meth c B hP hK ls hl
  obtain ⟨hx, hb, hrt, hml, hown, hts, hG, hlocks, hin⟩ := B
  have hl : lv_has ls 4 [(0, .int (nI n)), (1, .int (nI 1)), (2, .int (nI (n / 2)))] := hl
  refine lv_iload_n hx hb d_U_newLength_0 rfl (lv_at hl 0 rfl) ?_
  refine lv_iload_n hx hb d_U_newLength_1 rfl (lv_at hl 1 rfl) ?_
  refine lv_iload_n hx hb d_U_newLength_2 rfl (lv_at hl 2 rfl) ?_
  refine va_mmax hx hb (hml.trans hl.1.symm) hown (hG _ wd_320) (hG _ wd_321) (hG _ wd_49) (hG _ wd_322) (Nat.le_of_ble_eq_true rfl) (Nat.le_of_ble_eq_true rfl) (Nat.le_of_ble_eq_true rfl) (Nat.le_of_ble_eq_true rfl) d_U_newLength_3 ?_
  rw [show (if nI 1 < nI (n / 2) then nI (n / 2) else nI 1) = nI (n / 2) from (nI_max (by omega) (by omega)).trans (by rw [Nat.max_eq_right (by omega)])]
  refine lv_iadd hx hb d_U_newLength_6 ?_
  rw [show (nI n + nI (n / 2)) = nI (n + n / 2) from nI_add _ _]
  refine lv_istore_n (lv' := [(3, .int (nI (n + n / 2))), (0, .int (nI n)), (1, .int (nI 1)), (2, .int (nI (n / 2)))]) hx hb d_U_newLength_7 rfl hl (by decide) rfl (fun ls hl => ?_)
  refine lv_iconst (v := 0) hx hb d_U_newLength_8 (by decide) ?_
  refine lv_iload_n hx hb d_U_newLength_9 rfl (lv_at hl 0 rfl) ?_
  refine lv_icmp_ge (tgt := 21) hx hb d_U_newLength_10 (by decide) (fun c1 => ?_) (fun c1 => ?_)
  · exact absurd c1 (nI_nle (by omega) (by omega))
  · refine lv_iload_n hx hb d_U_newLength_13 rfl (lv_at hl 0 rfl) ?_
    refine lv_ldc hx hb hown (hG _ wd_323) d_U_newLength_14 ?_
    refine lv_icmp_gt (tgt := 21) hx hb d_U_newLength_16 (by decide) (fun c2 => ?_) (fun c2 => ?_)
    · exact absurd c2 (nI_nlt (b := n + n / 2) (a := 2147483639) (by omega) (by decide))
    · refine lv_iload_n hx hb d_U_newLength_19 rfl (lv_at hl 0 rfl) ?_
      exact W.iret (v := nI (n + n / 2)) hx hb hrt (fun t ht hW => ⟨nI (n + n / 2), rfl, rfl, ht⟩) (fun q h => nomatch h) d_U_newLength_20 hlocks
theorem va_pl_any {D : va_G} {E : ClassId × ClassId × ClassId × ClassId} {s : State} {X : va_W} {LP : List Nat} {pf : Nat → va_E} {H : Heap} {y : Nat} {q : SQ} (hK : KK D E s) (hP : va_P D vwC (X ++ va_pl LP pf) H) (hy : y ∈ LP) (hf : pf y = .inr (1, sgF q)) : va_Any "java/lang/Object" s H y := by
  obtain ⟨k, hk⟩ := pl_at (X := X) hy hf
  exact va_rAny (r := (K_S, F_S, 10)) hK.1 hP hk rfl (fun comp c0 h1 h2 => vb_asgC (hK.2.1 (.castable "PixelSnapper$Segment" "java/lang/Object") (by decide +kernel)) comp c0 h1 h2)
set_option maxHeartbeats 4000000 in
set_option maxRecDepth 100000 in
theorem k_Y_copyOf_aObjectIClass (l : Launch) (D : va_G) (E : ClassId × ClassId × ClassId × ClassId) (a sz n n2 : Nat) (el : Nat → Option Nat) (LP : List Nat) (pf : Nat → va_E) (ha : a ∈ LP) (hfa : pf a = .inl (E.2.2.2, n, .inr (.inr (.inr (.inr el))))) (hel : ∀ i, i < n → ∀ y, el i = some y → y ∈ LP ∧ ∃ q, pf y = .inr (1, sgF q)) (h1 : n ≤ n2) (hn : n2 < 2 ^ 20) (mi9 : Nat) : Met l y_Y_copyOf_aObjectIClass (.code y_Y_copyOf_aObjectIClass c_Y_copyOf_aObjectIClass 4 (some (.array (.object "java/lang/Object"))) :: gw) ({ frames := 1, cells := 1, slots := n2, locals := 40 } : Room) (wM D E mi9 ([] ++ va_pl LP pf) sz [.ref a, .int (nI n2), .ref mi9]) (va_Qr (fun (u : Unit) => True) (wBr D (fun _ q => ([(q, .inl (E.2.2.2, n2, .inr (.inr (.inr (.inr (va_cpy el (fun _ => none) 0 0 n))))))] ++ va_pl LP pf)) (va_A ([] ++ va_pl LP pf) sz)) (va_A ([] ++ va_pl LP pf) sz)) 1 n2 (va_A ([] ++ va_pl LP pf) sz) := by
  refine wm_ofF (mi := mi9) (y := y_Y_copyOf_aObjectIClass) (ws := [] ++ va_pl LP pf) (sz := sz) (av := [.ref a, .int (nI n2), .ref mi9]) (cc := c_Y_copyOf_aObjectIClass) (maxL := 4) (Qc := fun A => (va_Qr (fun (u : Unit) => True) (wBr D (fun _ q => ([(q, .inl (E.2.2.2, n2, .inr (.inr (.inr (.inr (va_cpy el (fun _ => none) 0 0 n))))))] ++ va_pl LP pf)) A) A)) (by decide) (Nat.le_of_ble_eq_true rfl) ?_
  intro p e s m below meth c B hP hK A hA hD hS hmi ls hl
  obtain ⟨hx, hb, hrt, hml, hown, hts, hG, hlocks, hin⟩ := B
  have hl : lv_has ls 4 [(0, .ref a), (1, .int (nI n2)), (2, .ref mi9)] := hl
  refine lv_aload_n hx hb d_Y_copyOf_aObjectIClass_0 rfl (lv_at hl 2 rfl) ?_
  refine va_ldcM hx hb hown (hG _ wd_346) hmi d_Y_copyOf_aObjectIClass_1 ?_
  refine lv_acmp_ne (rx := some mi9) (ry := some mi9) (tgt := 13) hx hb d_Y_copyOf_aObjectIClass_3 (by decide) (fun c1 => absurd rfl c1) (fun _ => ?_)
  refine lv_iload_n hx hb d_Y_copyOf_aObjectIClass_6 rfl (lv_at hl 1 rfl) ?_
  refine va_newq (N' := n2) hx hb hown (hG _ wd_348) hK.2.2.2.2.1 hK.1 hP hD hS hA (nI_pos (by omega)) (nI_clamp (by omega)) (by omega) (Nat.le_of_ble_eq_true rfl) (by show 0 + n2 ≤ n2; omega) d_Y_copyOf_aObjectIClass_7 (fun q cA H hK2 hP hD hS => ?_)
  obtain rfl : E.2.2.2 = cA := ty_eq hK2 3 4 rfl rfl
  have hP := va_P.swap (a := []) hP
  have hD := va_D.swap (a := []) hD
  have hP : va_P D vwC ([(q, .inl (E.2.2.2, n2, .inr (.inr (.inr (.inr (fun _ => none))))))] ++ va_pl LP pf) H := hP
  have hD : va_D A ([(q, .inl (E.2.2.2, n2, .inr (.inr (.inr (.inr (fun _ => none))))))] ++ va_pl LP pf) := hD
  refine W.widen (k := 1) (n := n2) (by omega) (by omega) ?_
  refine lv_goto (tgt := 24) hx hb d_Y_copyOf_aObjectIClass_10 (by decide) ?_
  refine lv_astore_n (lv' := [(3, .ref q), (0, .ref a), (1, .int (nI n2)), (2, .ref mi9)]) hx hb d_Y_copyOf_aObjectIClass_24 rfl hl (by decide) rfl (fun ls hl => ?_)
  refine lv_aload_n hx hb d_Y_copyOf_aObjectIClass_25 rfl (lv_at hl 1 rfl) ?_
  refine lv_iconst (v := 0) hx hb d_Y_copyOf_aObjectIClass_26 (by decide) ?_
  refine lv_aload_n hx hb d_Y_copyOf_aObjectIClass_27 rfl (lv_at hl 0 rfl) ?_
  refine lv_iconst (v := 0) hx hb d_Y_copyOf_aObjectIClass_28 (by decide) ?_
  refine lv_aload_n hx hb d_Y_copyOf_aObjectIClass_29 rfl (lv_at hl 1 rfl) ?_
  obtain ⟨kq, hkq⟩ := pl_at (X := [(q, .inl (E.2.2.2, n2, .inr (.inr (.inr (.inr (fun _ => none))))))]) ha hfa
  refine va_alen (v := nI n) hx hb hK.1 hP kq 3 hkq rfl rfl d_Y_copyOf_aObjectIClass_30 ?_
  refine lv_iload_n hx hb d_Y_copyOf_aObjectIClass_31 rfl (lv_at hl 2 rfl) ?_
  refine va_mmin hx hb (hml.trans hl.1.symm) hown (hG _ wd_349) (hG _ wd_350) (hG _ wd_49) (hG _ wd_351) (Nat.le_of_ble_eq_true rfl) (Nat.le_of_ble_eq_true rfl) (Nat.le_of_ble_eq_true rfl) (Nat.le_refl n2) d_Y_copyOf_aObjectIClass_32 ?_
  rw [show (if nI n2 < (nI n) then nI n2 else (nI n)) = nI n from (nI_min (by omega) (by omega)).trans (by rw [Nat.min_eq_left (by omega)])]
  refine va_copyM hx hb (hml.trans hl.1.symm) hown (hG _ wd_352) (hG _ wd_354) (hG _ wd_353) (hG _ wd_52) hK.1 hP hD hS kq 0 3 3 hkq rfl rfl rfl (by decide) (by decide) (nI_pos (by omega)) (by rw [nI_clamp (by omega)]; exact Nat.le_of_eq (Nat.zero_add n)) (by rw [nI_clamp (by omega)]; exact (Nat.zero_add n).symm ▸ h1) (fun i hi y hy => ?_) (Nat.le_of_ble_eq_true rfl) (Nat.le_of_ble_eq_true rfl) d_Y_copyOf_aObjectIClass_35 (fun H locs hP hD hS => ?_)
  · rw [nI_clamp (by omega)] at hi
    rw [show (0 : Int32).toNatClampNeg + i = i from Nat.zero_add i] at hy
    obtain ⟨g1, g2, g3⟩ := hel i hi y hy
    exact va_pl_any hK hP g1 g3
  · rw [nI_clamp (by omega)] at hP hD
    have hP : va_P D vwC ([(q, .inl (E.2.2.2, n2, .inr (.inr (.inr (.inr (va_cpy el (fun _ => none) 0 0 n))))))] ++ va_pl LP pf) H := hP
    have hD : va_D A ([(q, .inl (E.2.2.2, n2, .inr (.inr (.inr (.inr (va_cpy el (fun _ => none) 0 0 n))))))] ++ va_pl LP pf) := hD
    refine lv_aload_n hx hb d_Y_copyOf_aObjectIClass_38 rfl (lv_at hl 0 rfl) ?_
    exact W.aret (v := .ref q) hx hb hrt (Or.inr ⟨_, rfl⟩) (Or.inr ⟨_, rfl⟩) (fun t ht hW => ⟨⟨(), q, rfl, trivial, ⟨by rw [ht]; exact hP, hD⟩⟩, hS.F ht⟩) hS.2.2 d_Y_copyOf_aObjectIClass_39 hlocks
