theorem d_R_add_0 : decode c_R_add 0 = .ok (.aload_n 0, 1) := by decide +kernel
theorem d_R_add_1 : decode c_R_add 1 = .ok (.invokevirtual 28, 3) := by decide +kernel
theorem d_R_add_4 : decode c_R_add 4 = .ok (.ifCond .eq 5, 3) := by decide +kernel
theorem d_R_add_7 : decode c_R_add 7 = .ok (.iconst 0, 1) := by decide +kernel
theorem d_R_add_8 : decode c_R_add 8 = .ok (.ireturn, 1) := by decide +kernel
theorem d_R_add_9 : decode c_R_add 9 = .ok (.aload_n 0, 1) := by decide +kernel
theorem d_R_add_10 : decode c_R_add 10 = .ok (.getfield 19, 3) := by decide +kernel
theorem d_R_add_13 : decode c_R_add 13 = .ok (.aload_n 0, 1) := by decide +kernel
theorem d_R_add_14 : decode c_R_add 14 = .ok (.getfield 15, 3) := by decide +kernel
theorem d_R_add_17 : decode c_R_add 17 = .ok (.arraylength, 1) := by decide +kernel
theorem d_R_add_18 : decode c_R_add 18 = .ok (.if_icmp .lt 28, 3) := by decide +kernel
theorem d_R_add_21 : decode c_R_add 21 = .ok (.aload_n 0, 1) := by decide +kernel
theorem d_R_add_22 : decode c_R_add 22 = .ok (.aload_n 0, 1) := by decide +kernel
theorem d_R_add_23 : decode c_R_add 23 = .ok (.getfield 15, 3) := by decide +kernel
theorem d_R_add_26 : decode c_R_add 26 = .ok (.aload_n 0, 1) := by decide +kernel
theorem d_R_add_27 : decode c_R_add 27 = .ok (.getfield 9, 3) := by decide +kernel
theorem d_R_add_30 : decode c_R_add 30 = .ok (.iconst 2, 1) := by decide +kernel
theorem d_R_add_31 : decode c_R_add 31 = .ok (.aload_n 0, 1) := by decide +kernel
theorem d_R_add_32 : decode c_R_add 32 = .ok (.getfield 15, 3) := by decide +kernel
theorem d_R_add_35 : decode c_R_add 35 = .ok (.arraylength, 1) := by decide +kernel
theorem d_R_add_36 : decode c_R_add 36 = .ok (.imul, 1) := by decide +kernel
theorem d_R_add_37 : decode c_R_add 37 = .ok (.invokestatic 32, 3) := by decide +kernel
theorem d_R_add_40 : decode c_R_add 40 = .ok (.invokestatic 38, 3) := by decide +kernel
theorem d_R_add_43 : decode c_R_add 43 = .ok (.putfield 15, 3) := by decide +kernel
theorem d_R_add_46 : decode c_R_add 46 = .ok (.aload_n 0, 1) := by decide +kernel
theorem d_R_add_47 : decode c_R_add 47 = .ok (.getfield 15, 3) := by decide +kernel
theorem d_R_add_50 : decode c_R_add 50 = .ok (.aload_n 0, 1) := by decide +kernel
theorem d_R_add_51 : decode c_R_add 51 = .ok (.getfield 19, 3) := by decide +kernel
theorem d_R_add_54 : decode c_R_add 54 = .ok (.lload_n 1, 1) := by decide +kernel
theorem d_R_add_55 : decode c_R_add 55 = .ok (.lastore, 1) := by decide +kernel
theorem d_R_add_56 : decode c_R_add 56 = .ok (.aload_n 0, 1) := by decide +kernel
theorem d_R_add_57 : decode c_R_add 57 = .ok (.dup, 1) := by decide +kernel
theorem d_R_add_58 : decode c_R_add 58 = .ok (.getfield 19, 3) := by decide +kernel
theorem d_R_add_61 : decode c_R_add 61 = .ok (.iconst 1, 1) := by decide +kernel
theorem d_R_add_62 : decode c_R_add 62 = .ok (.iadd, 1) := by decide +kernel
theorem d_R_add_63 : decode c_R_add 63 = .ok (.putfield 19, 3) := by decide +kernel
theorem d_R_add_66 : decode c_R_add 66 = .ok (.iconst 1, 1) := by decide +kernel
theorem d_R_add_67 : decode c_R_add 67 = .ok (.ireturn, 1) := by decide +kernel
theorem d_R_init_0 : decode c_R_init 0 = .ok (.aload_n 0, 1) := by decide +kernel
theorem d_R_init_1 : decode c_R_init 1 = .ok (.invokespecial 3, 3) := by decide +kernel
theorem d_R_init_4 : decode c_R_init 4 = .ok (.aload_n 0, 1) := by decide +kernel
theorem d_R_init_5 : decode c_R_init 5 = .ok (.iload_n 1, 1) := by decide +kernel
theorem d_R_init_6 : decode c_R_init 6 = .ok (.putfield 9, 3) := by decide +kernel
theorem d_R_init_9 : decode c_R_init 9 = .ok (.aload_n 0, 1) := by decide +kernel
theorem d_R_init_10 : decode c_R_init 10 = .ok (.bipush 16, 2) := by decide +kernel
theorem d_R_init_12 : decode c_R_init 12 = .ok (.newarray .long, 2) := by decide +kernel
theorem d_R_init_14 : decode c_R_init 14 = .ok (.putfield 15, 3) := by decide +kernel
theorem d_R_init_17 : decode c_R_init 17 = .ok (.aload_n 0, 1) := by decide +kernel
theorem d_R_init_18 : decode c_R_init 18 = .ok (.iconst 0, 1) := by decide +kernel
theorem d_R_init_19 : decode c_R_init 19 = .ok (.putfield 19, 3) := by decide +kernel
theorem d_R_init_22 : decode c_R_init 22 = .ok (.return_, 1) := by decide +kernel
theorem d_Y_copyOf_aJI_0 : decode c_Y_copyOf_aJI 0 = .ok (.iload_n 1, 1) := by decide +kernel
theorem d_Y_copyOf_aJI_1 : decode c_Y_copyOf_aJI 1 = .ok (.aload_n 0, 1) := by decide +kernel
theorem d_Y_copyOf_aJI_2 : decode c_Y_copyOf_aJI 2 = .ok (.arraylength, 1) := by decide +kernel
theorem d_Y_copyOf_aJI_3 : decode c_Y_copyOf_aJI 3 = .ok (.if_icmp .ne 11, 3) := by decide +kernel
theorem d_Y_copyOf_aJI_14 : decode c_Y_copyOf_aJI 14 = .ok (.iload_n 1, 1) := by decide +kernel
theorem d_Y_copyOf_aJI_15 : decode c_Y_copyOf_aJI 15 = .ok (.newarray .long, 2) := by decide +kernel
theorem d_Y_copyOf_aJI_17 : decode c_Y_copyOf_aJI 17 = .ok (.astore_n 2, 1) := by decide +kernel
theorem d_Y_copyOf_aJI_18 : decode c_Y_copyOf_aJI 18 = .ok (.aload_n 0, 1) := by decide +kernel
theorem d_Y_copyOf_aJI_19 : decode c_Y_copyOf_aJI 19 = .ok (.iconst 0, 1) := by decide +kernel
theorem d_Y_copyOf_aJI_20 : decode c_Y_copyOf_aJI 20 = .ok (.aload_n 2, 1) := by decide +kernel
theorem d_Y_copyOf_aJI_21 : decode c_Y_copyOf_aJI 21 = .ok (.iconst 0, 1) := by decide +kernel
theorem d_Y_copyOf_aJI_22 : decode c_Y_copyOf_aJI 22 = .ok (.aload_n 0, 1) := by decide +kernel
theorem d_Y_copyOf_aJI_23 : decode c_Y_copyOf_aJI 23 = .ok (.arraylength, 1) := by decide +kernel
theorem d_Y_copyOf_aJI_24 : decode c_Y_copyOf_aJI 24 = .ok (.iload_n 1, 1) := by decide +kernel
theorem d_Y_copyOf_aJI_25 : decode c_Y_copyOf_aJI 25 = .ok (.invokestatic 304, 3) := by decide +kernel
theorem d_Y_copyOf_aJI_28 : decode c_Y_copyOf_aJI 28 = .ok (.invokestatic 150, 3) := by decide +kernel
theorem d_Y_copyOf_aJI_31 : decode c_Y_copyOf_aJI 31 = .ok (.aload_n 2, 1) := by decide +kernel
theorem d_Y_copyOf_aJI_32 : decode c_Y_copyOf_aJI 32 = .ok (.areturn, 1) := by decide +kernel
theorem nI_min {a b : Nat} (ha : a < 2 ^ 31) (hb : b < 2 ^ 31) : (if nI b < nI a then nI b else nI a) = nI (min a b) := by
  by_cases h : b < a
  · rw [if_pos (nI_lt h ha), Nat.min_eq_right (by omega)]
  · rw [if_neg (by rw [nI_ltI hb ha]; exact h), Nat.min_eq_left (by omega)]
set_option maxHeartbeats 4000000 in
set_option maxRecDepth 100000 in
theorem k_Y_copyOf_aJI (l : Launch) (D : va_G) (E : ClassId × ClassId × ClassId × ClassId) (a sz n n2 : Nat) (f : Nat → Int64) (h1 : n < n2) (hn : n2 < 2 ^ 26) : Met l y_Y_copyOf_aJI (.code y_Y_copyOf_aJI c_Y_copyOf_aJI 3 (some (.array .long)) :: gw) ({ frames := 1, cells := 1, slots := n2, locals := 40 } : Room) (wP D E [(a, .inl (E.1, n, .inr (.inl f)))] sz [.ref a, .int (nI n2)]) (va_Qr (fun (u : Unit) => True) (wBr D (fun _ q => [(a, .inl (E.1, n, .inr (.inl f))), (q, .inl (E.1, n2, .inr (.inl (va_cpy f (fun _ => 0) 0 0 n))))]) (va_A [(a, .inl (E.1, n, .inr (.inl f)))] sz)) (va_A [(a, .inl (E.1, n, .inr (.inl f)))] sz)) 1 n2 (va_A [(a, .inl (E.1, n, .inr (.inl f)))] sz) := by
  refine wr_ofF (Qc := fun A => (va_Qr (fun (u : Unit) => True) (wBr D (fun _ q => [(a, .inl (E.1, n, .inr (.inl f))), (q, .inl (E.1, n2, .inr (.inl (va_cpy f (fun _ => 0) 0 0 n))))]) A) A)) (by decide) (Nat.le_of_ble_eq_true rfl) ?_
  intro p e s m below meth c B hP hK A hA hD hS ls hl
  obtain ⟨hx, hb, hrt, hml, hown, hts, hG, hlocks, hin⟩ := B
  have hl : lv_has ls 3 [(0, .ref a), (1, .int (nI n2))] := hl
  refine lv_iload_n hx hb d_Y_copyOf_aJI_0 rfl (lv_at hl 1 rfl) ?_
  refine lv_aload_n hx hb d_Y_copyOf_aJI_1 rfl (lv_at hl 0 rfl) ?_
  refine va_alen (v := nI n) hx hb hK.1 hP 0 0 rfl rfl rfl d_Y_copyOf_aJI_2 ?_
  refine lv_icmp_ne (tgt := 14) hx hb d_Y_copyOf_aJI_3 (by decide) (fun c1 => ?_) (fun c1 => ?_)
  · refine lv_iload_n hx hb d_Y_copyOf_aJI_14 rfl (lv_at hl 1 rfl) ?_
    refine va_newa (atype := .long) (a0 := (n2, .inr (.inl (fun _ => 0)))) (ty := .long) hx hb (hG _ wd_107) rfl hK.1 hP hD hS hA (fun _ => rfl) (nI_pos (by omega)) (nI_clamp (by omega)) (by show n2 * 8 ≤ _; omega) (Nat.le_of_ble_eq_true rfl) (by show 0 + n2 ≤ n2; omega) d_Y_copyOf_aJI_15 (fun q cA H hK2 hP hD hS => ?_)
    obtain rfl : E.1 = cA := ty_eq hK2 0 4 rfl rfl
    have hP : va_P D vwC [(a, .inl (E.1, n, .inr (.inl f))), (q, .inl (E.1, n2, .inr (.inl (fun _ => 0))))] H := hP
    have hD : va_D A [(a, .inl (E.1, n, .inr (.inl f))), (q, .inl (E.1, n2, .inr (.inl (fun _ => 0))))] := hD
    refine W.widen (k := 1) (n := n2) (by omega) (by omega) ?_
    refine lv_astore_n (lv' := [(2, .ref q), (0, .ref a), (1, .int (nI n2))]) hx hb d_Y_copyOf_aJI_17 rfl hl (by decide) rfl (fun ls hl => ?_)
    refine lv_aload_n hx hb d_Y_copyOf_aJI_18 rfl (lv_at hl 1 rfl) ?_
    refine lv_iconst (v := 0) hx hb d_Y_copyOf_aJI_19 (by decide) ?_
    refine lv_aload_n hx hb d_Y_copyOf_aJI_20 rfl (lv_at hl 0 rfl) ?_
    refine lv_iconst (v := 0) hx hb d_Y_copyOf_aJI_21 (by decide) ?_
    refine lv_aload_n hx hb d_Y_copyOf_aJI_22 rfl (lv_at hl 1 rfl) ?_
    refine va_alen (v := nI n) hx hb hK.1 hP 0 0 rfl rfl rfl d_Y_copyOf_aJI_23 ?_
    refine lv_iload_n hx hb d_Y_copyOf_aJI_24 rfl (lv_at hl 2 rfl) ?_
    refine va_mmin hx hb (hml.trans hl.1.symm) hown (hG _ wd_349) (hG _ wd_350) (hG _ wd_49) (hG _ wd_351) (Nat.le_of_ble_eq_true rfl) (Nat.le_of_ble_eq_true rfl) (Nat.le_of_ble_eq_true rfl) (Nat.le_refl n2) d_Y_copyOf_aJI_25 ?_
    rw [show (if nI n2 < (nI n) then nI n2 else (nI n)) = nI n from (nI_min (by omega) (by omega)).trans (by rw [Nat.min_eq_left (by omega)])]
    refine va_copyl hx hb (hml.trans hl.1.symm) hown (hG _ wd_352) (hG _ wd_354) (hG _ wd_353) (hG _ wd_52) hK.1 hP hD hS 0 1 0 0 rfl rfl rfl rfl rfl (by decide) (by decide) (nI_pos (by omega)) (by rw [nI_clamp (by omega)]; exact Nat.le_of_eq (Nat.zero_add n)) (by rw [nI_clamp (by omega)]; exact (Nat.zero_add n).symm ▸ (Nat.le_of_lt h1)) (fun _ _ => rfl) (Nat.le_of_ble_eq_true rfl) (Nat.le_of_ble_eq_true rfl) d_Y_copyOf_aJI_28 (fun H locs hP hD hS => ?_)
    rw [nI_clamp (by omega)] at hP hD
    have hP : va_P D vwC [(a, .inl (E.1, n, .inr (.inl f))), (q, .inl (E.1, n2, .inr (.inl (va_cpy f (fun _ => 0) 0 0 n))))] H := hP
    have hD : va_D A [(a, .inl (E.1, n, .inr (.inl f))), (q, .inl (E.1, n2, .inr (.inl (va_cpy f (fun _ => 0) 0 0 n))))] := hD
    refine lv_aload_n hx hb d_Y_copyOf_aJI_31 rfl (lv_at hl 0 rfl) ?_
    exact W.aret (v := .ref q) hx hb hrt (Or.inr ⟨_, rfl⟩) (Or.inr ⟨_, rfl⟩) (fun t ht hW => ⟨⟨(), q, rfl, trivial, ⟨by rw [ht]; exact hP, hD⟩⟩, hS.F ht⟩) hS.2.2 d_Y_copyOf_aJI_32 hlocks
  · exact absurd ((nI_eq (by omega) (by omega)).mp c1) (by omega)
set_option maxHeartbeats 4000000 in
set_option maxRecDepth 100000 in
theorem k_R_init (l : Launch) (D : va_G) (E : ClassId × ClassId × ClassId × ClassId) (h0 sz : Nat) (most : Int32) : Met l y_R_init (.code y_R_init c_R_init 2 none :: gw) ({ frames := 1, cells := 1, slots := 16, locals := 12 } : Room) (wP D E [(h0, .inr (0, [.int 0, .null, .int 0]))] sz [.ref h0, .int most]) (va_Qv (fun (u : Nat) => True) (wB D (fun q => [(h0, .inr (0, [.int most, .ref q, .int 0])), (q, .inl (E.1, 16, .inr (.inl (fun _ => 0))))]) (va_A [(h0, .inr (0, [.int 0, .null, .int 0]))] sz)) (va_A [(h0, .inr (0, [.int 0, .null, .int 0]))] sz)) 1 16 (va_A [(h0, .inr (0, [.int 0, .null, .int 0]))] sz) := by
  refine wr_ofW (Qc := fun A => (va_Qv (fun (u : Nat) => True) (wB D (fun q => [(h0, .inr (0, [.int most, .ref q, .int 0])), (q, .inl (E.1, 16, .inr (.inl (fun _ => 0))))]) A) A)) (by decide) (Nat.le_of_ble_eq_true rfl) ?_
  intro p e s m below meth c B hP hK A hA hD hS ls hl
  obtain ⟨hx, hb, hrt, hml, hown, hts, hG, hlocks, hin⟩ := B
  have hl : lv_has ls 2 [(0, .ref h0), (1, .int most)] := hl
  refine lv_aload_n hx hb d_R_init_0 rfl (lv_at hl 0 rfl) ?_
  refine W.objInit hx hb hown (hG _ wd_96) (hG _ wd_63) (hG _ wd_64) rfl (by rw [hml]; exact hl.1) rfl d_R_init_1 (Nat.le_of_ble_eq_true rfl) (Nat.le_of_ble_eq_true rfl) ?_
  refine W.eq (g2 := F0 m 4 ls []) rfl ?_
  refine lv_aload_n hx hb d_R_init_4 rfl (lv_at hl 0 rfl) ?_
  refine lv_iload_n hx hb d_R_init_5 rfl (lv_at hl 1 rfl) ?_
  refine va_putF (D := D) (ci := 0) (v := .int most) (ty := .int) (C := K_R) (T := F_R) (N := 3) hx hb hG in_R t_R t_R_ok n_R hown hK.1 hP hD hS 0 rfl rfl 0 (by decide) (hG _ wd_97) (fun _ h9 => h9) rfl hin rfl (by decide +kernel) rfl rfl (Nat.le_of_ble_eq_true rfl) d_R_init_6 (fun H locs hP hD hS => ?_)
  have hP : va_P D vwC [(h0, .inr (0, [.int most, .null, .int 0]))] H := hP
  have hD : va_D A [(h0, .inr (0, [.int most, .null, .int 0]))] := hD
  refine lv_aload_n hx hb d_R_init_9 rfl (lv_at hl 0 rfl) ?_
  refine lv_bipush (v := 16) hx hb d_R_init_10 (by decide) ?_
  refine va_newa (atype := .long) (a0 := (16, .inr (.inl (fun _ => 0)))) (ty := .long) hx hb (hG _ wd_107) rfl hK.1 hP hD hS hA (fun _ => rfl) (by decide) (by decide) (by decide) (Nat.le_of_ble_eq_true rfl) (Nat.le_of_ble_eq_true rfl) d_R_init_12 (fun q cA H hK2 hP hD hS => ?_)
  obtain rfl : E.1 = cA := ty_eq hK2 0 4 rfl rfl
  have hP : va_P D vwC [(h0, .inr (0, [.int most, .null, .int 0])), (q, .inl (E.1, 16, .inr (.inl (fun _ => 0))))] H := hP
  have hD : va_D A [(h0, .inr (0, [.int most, .null, .int 0])), (q, .inl (E.1, 16, .inr (.inl (fun _ => 0))))] := hD
  refine W.widen (k := 1) (n := 16) (by decide) (by decide) ?_
  refine va_put (D := D) (ci := 0) (v := .ref q) (ty := .array .long) (C := K_R) (T := F_R) (N := 3) hx hb hG in_R t_R t_R_ok n_R hown hK.1 hP hD hS 0 rfl rfl 1 (by decide) (hG _ wd_98) (fun _ h9 => h9) rfl (by decide +kernel) rfl rfl (Nat.le_of_ble_eq_true rfl) d_R_init_14 (fun H locs hP hD hS => ?_)
  have hP : va_P D vwC [(h0, .inr (0, [.int most, .ref q, .int 0])), (q, .inl (E.1, 16, .inr (.inl (fun _ => 0))))] H := hP
  have hD : va_D A [(h0, .inr (0, [.int most, .ref q, .int 0])), (q, .inl (E.1, 16, .inr (.inl (fun _ => 0))))] := hD
  refine lv_aload_n hx hb d_R_init_17 rfl (lv_at hl 0 rfl) ?_
  refine lv_iconst (v := 0) hx hb d_R_init_18 (by decide) ?_
  refine va_put (D := D) (ci := 0) (v := .int 0) (ty := .int) (C := K_R) (T := F_R) (N := 3) hx hb hG in_R t_R t_R_ok n_R hown hK.1 hP hD hS 0 rfl rfl 2 (by decide) (hG _ wd_99) (fun _ h9 => h9) rfl (by decide +kernel) rfl rfl (Nat.le_of_ble_eq_true rfl) d_R_init_19 (fun H locs hP hD hS => ?_)
  have hP : va_P D vwC [(h0, .inr (0, [.int most, .ref q, .int 0])), (q, .inl (E.1, 16, .inr (.inl (fun _ => 0))))] H := hP
  have hD : va_D A [(h0, .inr (0, [.int most, .ref q, .int 0])), (q, .inl (E.1, 16, .inr (.inl (fun _ => 0))))] := hD
  exact W.vret hx hb hrt (fun t ht hW => ⟨⟨q, rfl, trivial, ⟨by rw [ht]; exact hP, hD⟩⟩, hS.F ht⟩) hS.2.2 d_R_init_22 hlocks
/-- a row's room: its length, its numbers, how many -/
abbrev RS : Type := Nat × (Nat → Int64) × Nat
def ra_c (z n : Nat) : Nat := if z < n then 0 else 1
def ra_s (z n m : Nat) : Nat := if z < n then 0 else min m (2 * n)
def ra_n (z n m : Nat) : Nat := if z < n then n else min m (2 * n)
def ra_f (f : Nat → Int64) (z n : Nat) (x : Int64) : Nat → Int64 := vp_updL (if z < n then f else va_cpy f (fun _ => 0) 0 0 n) z x
def rs_add (m : Nat) (s : RS) (x : Int64) : RS := if m ≤ s.2.2 then s else (ra_n s.2.2 s.1 m, ra_f s.2.1 s.2.2 s.1 x, s.2.2 + 1)
set_option maxHeartbeats 4000000 in
set_option maxRecDepth 100000 in
theorem k_R_add1 (l : Launch) (D : va_G) (E : ClassId × ClassId × ClassId × ClassId) (h0 a sz m0 z n : Nat) (f : Nat → Int64) (x : Int64) (hz : z < n) (hn : n ≤ m0) (hm : m0 < 2 ^ 26) : Met l y_R_add (.code y_R_add c_R_add 3 (some .boolean) :: gw) ({ frames := 2, cells := 0, slots := 0, locals := 80 } : Room) (wP D E [(h0, .inr (0, [.int (nI m0), .ref a, .int (nI z)])), (a, .inl (E.1, n, .inr (.inl f)))] sz [.ref h0, .long x]) (va_Qi (fun (r : Int32) (u : Nat) => r = 1) (wB D (fun u => [(h0, .inr (0, [.int (nI m0), .ref u, .int (nI (z + 1))])), (u, .inl (E.1, n, .inr (.inl (vp_updL f z x))))]) (va_A [(h0, .inr (0, [.int (nI m0), .ref a, .int (nI z)])), (a, .inl (E.1, n, .inr (.inl f)))] sz)) (va_A [(h0, .inr (0, [.int (nI m0), .ref a, .int (nI z)])), (a, .inl (E.1, n, .inr (.inl f)))] sz)) 0 0 (va_A [(h0, .inr (0, [.int (nI m0), .ref a, .int (nI z)])), (a, .inl (E.1, n, .inr (.inl f)))] sz) := by
  refine wr_ofW (Qc := fun A => (va_Qi (fun (r : Int32) (u : Nat) => r = 1) (wB D (fun u => [(h0, .inr (0, [.int (nI m0), .ref u, .int (nI (z + 1))])), (u, .inl (E.1, n, .inr (.inl (vp_updL f z x))))]) A) A)) (by decide) (Nat.le_of_ble_eq_true rfl) ?_
  intro p e s m below meth c B hP hK A hA hD hS ls hl
  obtain ⟨hx, hb, hrt, hml, hown, hts, hG, hlocks, hin⟩ := B
  have hl : lv_has ls 3 [(0, .ref h0), (1, .long x)] := hl
  refine lv_aload_n hx hb d_R_add_0 rfl (lv_at hl 0 rfl) ?_
  have hPc := hP.sub (ws' := [(h0, .inr (0, [.int (nI m0), .ref a, .int (nI z)]))]) [0] rfl
  refine vp_callSi (W.runV (As := []) (rest := []) ⟨hx, hb, hml, hown, hts⟩ (k_R_isFull l D E h0 a (nI m0) (nI z)) (cwV 0 hts (gw_gv wd_419 wd_396 wd_397 wd_41 wd_398) rfl rfl rfl (by decide +kernel) ⟨Nat.le_of_ble_eq_true rfl, Nat.le_of_ble_eq_true rfl⟩) (rP_V 0 hPc hK rfl rfl) rfl rfl hl.1 rfl (lv_room (Nat.le_of_ble_eq_true rfl)) d_R_add_1 ⟨Nat.le_of_ble_eq_true rfl, Nat.le_of_ble_eq_true rfl⟩) (fun r1 hr1 => ?_)
  rw [if_pos (nI_lt (by omega) (by omega))] at hr1
  subst hr1
  refine lv_if_eq (tgt := 9) hx hb d_R_add_4 (by decide) (fun c1 => ?_) (fun c1 => ?_)
  · refine lv_aload_n hx hb d_R_add_9 rfl (lv_at hl 0 rfl) ?_
    refine va_get (D := D) (ci := 0) (v := .int (nI z)) (C := K_R) (T := F_R) (N := 3) hx hb hG in_R hown hK.1 hP 0 rfl rfl 2 (by decide) (hG _ wd_99) (fun _ h9 => h9) rfl d_R_add_10 ?_
    refine lv_aload_n hx hb d_R_add_13 rfl (lv_at hl 0 rfl) ?_
    refine va_get (D := D) (ci := 0) (v := .ref a) (C := K_R) (T := F_R) (N := 3) hx hb hG in_R hown hK.1 hP 0 rfl rfl 1 (by decide) (hG _ wd_98) (fun _ h9 => h9) rfl d_R_add_14 ?_
    refine va_alen (v := nI n) hx hb hK.1 hP 1 0 rfl rfl rfl d_R_add_17 ?_
    refine lv_icmp_lt (tgt := 46) hx hb d_R_add_18 (by decide) (fun c2 => ?_) (fun c2 => ?_)
    · refine lv_aload_n hx hb d_R_add_46 rfl (lv_at hl 0 rfl) ?_
      refine va_get (D := D) (ci := 0) (v := .ref a) (C := K_R) (T := F_R) (N := 3) hx hb hG in_R hown hK.1 hP 0 rfl rfl 1 (by decide) (hG _ wd_98) (fun _ h9 => h9) rfl d_R_add_47 ?_
      refine lv_aload_n hx hb d_R_add_50 rfl (lv_at hl 0 rfl) ?_
      refine va_get (D := D) (ci := 0) (v := .int (nI z)) (C := K_R) (T := F_R) (N := 3) hx hb hG in_R hown hK.1 hP 0 rfl rfl 2 (by decide) (hG _ wd_99) (fun _ h9 => h9) rfl d_R_add_51 ?_
      refine lv_lload_n hx hb d_R_add_54 rfl (lv_at hl 1 rfl) ?_
      refine va_last hx hb hK.1 hP hD hS 1 0 rfl rfl (vp_in_nI (by omega) (by omega)) d_R_add_55 (fun H locs hP hD hS => ?_)
      rw [show vp_updL f (Int32.toNatClampNeg (nI z)) x = (vp_updL f z x) from by rw [nI_clamp (by omega)]] at hP hD
      have hP : va_P D vwC [(h0, .inr (0, [.int (nI m0), .ref a, .int (nI z)])), (a, .inl (E.1, n, .inr (.inl (vp_updL f z x))))] H := hP
      have hD : va_D A [(h0, .inr (0, [.int (nI m0), .ref a, .int (nI z)])), (a, .inl (E.1, n, .inr (.inl (vp_updL f z x))))] := hD
      refine lv_aload_n hx hb d_R_add_56 rfl (lv_at hl 0 rfl) ?_
      refine lv_dup hx hb d_R_add_57 rfl ?_
      refine va_get (D := D) (ci := 0) (v := .int (nI z)) (C := K_R) (T := F_R) (N := 3) hx hb hG in_R hown hK.1 hP 0 rfl rfl 2 (by decide) (hG _ wd_99) (fun _ h9 => h9) rfl d_R_add_58 ?_
      refine lv_iconst (v := 1) hx hb d_R_add_61 (by decide) ?_
      refine lv_iadd hx hb d_R_add_62 ?_
      rw [show (nI z + 1) = nI (z + 1) from nI_1 _]
      refine va_put (D := D) (ci := 0) (v := .int (nI (z + 1))) (ty := .int) (C := K_R) (T := F_R) (N := 3) hx hb hG in_R t_R t_R_ok n_R hown hK.1 hP hD hS 0 rfl rfl 2 (by decide) (hG _ wd_99) (fun _ h9 => h9) rfl (by decide +kernel) rfl rfl (Nat.le_of_ble_eq_true rfl) d_R_add_63 (fun H locs hP hD hS => ?_)
      have hP : va_P D vwC [(h0, .inr (0, [.int (nI m0), .ref a, .int (nI (z + 1))])), (a, .inl (E.1, n, .inr (.inl (vp_updL f z x))))] H := hP
      have hD : va_D A [(h0, .inr (0, [.int (nI m0), .ref a, .int (nI (z + 1))])), (a, .inl (E.1, n, .inr (.inl (vp_updL f z x))))] := hD
      refine lv_iconst (v := 1) hx hb d_R_add_66 (by decide) ?_
      exact W.zret (v := 1) (ty := .boolean) hx hb hrt rfl (fun t ht hW => ⟨⟨1, a, rfl, rfl, ⟨by rw [ht]; exact hP, hD⟩⟩, hS.F ht⟩) hS.2.2 d_R_add_67 hlocks
    · exact absurd (nI_lt hz (by omega)) c2
  · exact absurd rfl c1
set_option maxHeartbeats 4000000 in
set_option maxRecDepth 100000 in
theorem k_R_add2 (l : Launch) (D : va_G) (E : ClassId × ClassId × ClassId × ClassId) (h0 a sz m0 n : Nat) (f : Nat → Int64) (x : Int64) (h0n : 0 < n) (hn : n < m0) (hm : m0 < 2 ^ 26) : Met l y_R_add (.code y_R_add c_R_add 3 (some .boolean) :: gw) ({ frames := 2, cells := 1, slots := (min m0 (2 * n)), locals := 80 } : Room) (wP D E [(h0, .inr (0, [.int (nI m0), .ref a, .int (nI n)])), (a, .inl (E.1, n, .inr (.inl f)))] sz [.ref h0, .long x]) (va_Qi (fun (r : Int32) (u : Nat) => r = 1) (wB D (fun u => [(h0, .inr (0, [.int (nI m0), .ref u, .int (nI (n + 1))])), (u, .inl (E.1, (min m0 (2 * n)), .inr (.inl (vp_updL (va_cpy f (fun _ => 0) 0 0 n) n x))))]) (va_A [(h0, .inr (0, [.int (nI m0), .ref a, .int (nI n)])), (a, .inl (E.1, n, .inr (.inl f)))] sz)) (va_A [(h0, .inr (0, [.int (nI m0), .ref a, .int (nI n)])), (a, .inl (E.1, n, .inr (.inl f)))] sz)) 1 (min m0 (2 * n)) (va_A [(h0, .inr (0, [.int (nI m0), .ref a, .int (nI n)])), (a, .inl (E.1, n, .inr (.inl f)))] sz) := by
  refine wr_ofW (Qc := fun A => (va_Qi (fun (r : Int32) (u : Nat) => r = 1) (wB D (fun u => [(h0, .inr (0, [.int (nI m0), .ref u, .int (nI (n + 1))])), (u, .inl (E.1, (min m0 (2 * n)), .inr (.inl (vp_updL (va_cpy f (fun _ => 0) 0 0 n) n x))))]) A) A)) (by decide) (Nat.le_of_ble_eq_true rfl) ?_
  intro p e s m below meth c B hP hK A hA hD hS ls hl
  obtain ⟨hx, hb, hrt, hml, hown, hts, hG, hlocks, hin⟩ := B
  have hl : lv_has ls 3 [(0, .ref h0), (1, .long x)] := hl
  refine lv_aload_n hx hb d_R_add_0 rfl (lv_at hl 0 rfl) ?_
  have hPc := hP.sub (ws' := [(h0, .inr (0, [.int (nI m0), .ref a, .int (nI n)]))]) [0] rfl
  refine vp_callSi (W.runV (As := []) (rest := []) ⟨hx, hb, hml, hown, hts⟩ (k_R_isFull l D E h0 a (nI m0) (nI n)) (cwV 0 hts (gw_gv wd_419 wd_396 wd_397 wd_41 wd_398) rfl rfl rfl (by decide +kernel) ⟨Nat.le_of_ble_eq_true rfl, Nat.le_of_ble_eq_true rfl⟩) (rP_V 0 hPc hK rfl rfl) rfl rfl hl.1 rfl (lv_room (Nat.le_of_ble_eq_true rfl)) d_R_add_1 ⟨Nat.le_of_ble_eq_true rfl, Nat.le_of_ble_eq_true rfl⟩) (fun r1 hr1 => ?_)
  rw [if_pos (nI_lt (by omega) (by omega))] at hr1
  subst hr1
  refine lv_if_eq (tgt := 9) hx hb d_R_add_4 (by decide) (fun c1 => ?_) (fun c1 => ?_)
  · refine lv_aload_n hx hb d_R_add_9 rfl (lv_at hl 0 rfl) ?_
    refine va_get (D := D) (ci := 0) (v := .int (nI n)) (C := K_R) (T := F_R) (N := 3) hx hb hG in_R hown hK.1 hP 0 rfl rfl 2 (by decide) (hG _ wd_99) (fun _ h9 => h9) rfl d_R_add_10 ?_
    refine lv_aload_n hx hb d_R_add_13 rfl (lv_at hl 0 rfl) ?_
    refine va_get (D := D) (ci := 0) (v := .ref a) (C := K_R) (T := F_R) (N := 3) hx hb hG in_R hown hK.1 hP 0 rfl rfl 1 (by decide) (hG _ wd_98) (fun _ h9 => h9) rfl d_R_add_14 ?_
    refine va_alen (v := nI n) hx hb hK.1 hP 1 0 rfl rfl rfl d_R_add_17 ?_
    refine lv_icmp_lt (tgt := 46) hx hb d_R_add_18 (by decide) (fun c2 => ?_) (fun c2 => ?_)
    · exact absurd c2 (nI_nlt (Nat.le_refl n) (by omega))
    · refine lv_aload_n hx hb d_R_add_21 rfl (lv_at hl 0 rfl) ?_
      refine lv_aload_n hx hb d_R_add_22 rfl (lv_at hl 0 rfl) ?_
      refine va_get (D := D) (ci := 0) (v := .ref a) (C := K_R) (T := F_R) (N := 3) hx hb hG in_R hown hK.1 hP 0 rfl rfl 1 (by decide) (hG _ wd_98) (fun _ h9 => h9) rfl d_R_add_23 ?_
      refine lv_aload_n hx hb d_R_add_26 rfl (lv_at hl 0 rfl) ?_
      refine va_get (D := D) (ci := 0) (v := .int (nI m0)) (C := K_R) (T := F_R) (N := 3) hx hb hG in_R hown hK.1 hP 0 rfl rfl 0 (by decide) (hG _ wd_97) (fun _ h9 => h9) rfl d_R_add_27 ?_
      refine lv_iconst (v := 2) hx hb d_R_add_30 (by decide) ?_
      refine lv_aload_n hx hb d_R_add_31 rfl (lv_at hl 0 rfl) ?_
      refine va_get (D := D) (ci := 0) (v := .ref a) (C := K_R) (T := F_R) (N := 3) hx hb hG in_R hown hK.1 hP 0 rfl rfl 1 (by decide) (hG _ wd_98) (fun _ h9 => h9) rfl d_R_add_32 ?_
      refine va_alen (v := nI n) hx hb hK.1 hP 1 0 rfl rfl rfl d_R_add_35 ?_
      refine lv_imul hx hb d_R_add_36 ?_
      rw [show (2 * (nI n)) = nI (2 * n) from pk_mul 2 n]
      refine va_mmin hx hb (hml.trans hl.1.symm) hown (hG _ wd_420) (hG _ wd_350) (hG _ wd_49) (hG _ wd_351) (Nat.le_of_ble_eq_true rfl) (Nat.le_of_ble_eq_true rfl) (Nat.zero_le _) (Nat.zero_le _) d_R_add_37 ?_
      rw [show (if nI (2 * n) < nI m0 then nI (2 * n) else nI m0) = nI (min m0 (2 * n)) from nI_min (by omega) (by omega)]
      have hPc := hP.sub (ws' := [(a, .inl (E.1, n, .inr (.inl f)))]) [1] rfl
      have hDc := hD.sub (ws' := [(a, .inl (E.1, n, .inr (.inl f)))]) [1] (by decide) rfl
      have hFc := va_free (wc := [(a, .inl (E.1, n, .inr (.inl f)))]) hD hS hA [1] rfl
      refine va_callr (va_runS (As := [.ref a, .int (nI (min m0 (2 * n)))]) (rest := [.ref h0]) ⟨hx, hb, hml, hown, hts⟩ (k_Y_copyOf_aJI l D E a s.heap.size n (min m0 (2 * n)) f (by omega) (by omega)) (va_cwS 2 hts (gw_gs wd_421 wd_422 wd_51 wd_423) rfl rfl rfl (by decide +kernel) ⟨Nat.le_of_ble_eq_true rfl, Nat.le_of_ble_eq_true rfl⟩) (wP_S hPc hK hDc) rfl rfl hl.1 rfl (lv_room (Nat.le_of_ble_eq_true rfl)) d_R_add_40 ⟨Nat.le_of_ble_eq_true rfl, Nat.le_of_eq (Nat.zero_add _)⟩) hS (fun q _ h => hFc q h) hFc (fun u q t H1 locs ht hvm hw hB hz1 hk1 hS => ?_)
      obtain ⟨hP1, hD1⟩ := hB
      rw [ht] at hP1
      obtain ⟨hP, hD⟩ := va_join (wr := [(h0, .inr (0, [.int (nI m0), .ref a, .int (nI n)]))]) (w1 := [(a, .inl (E.1, n, .inr (.inl f))), (q, .inl (E.1, (min m0 (2 * n)), .inr (.inl (va_cpy f (fun _ => 0) 0 0 n))))]) hP hD [1] [0] rfl rfl (by decide) (by decide) hk1 hFc hP1 hD1
      generalize H1 = H at hP hS ⊢
      have hP : va_P D vwC [(h0, .inr (0, [.int (nI m0), .ref a, .int (nI n)])), (a, .inl (E.1, n, .inr (.inl f))), (q, .inl (E.1, (min m0 (2 * n)), .inr (.inl (va_cpy f (fun _ => 0) 0 0 n))))] H := hP
      have hD : va_D A [(h0, .inr (0, [.int (nI m0), .ref a, .int (nI n)])), (a, .inl (E.1, n, .inr (.inl f))), (q, .inl (E.1, (min m0 (2 * n)), .inr (.inl (va_cpy f (fun _ => 0) 0 0 n))))] := hD
      refine W.widen (k := 1) (n := (min m0 (2 * n))) (by omega) (by omega) ?_
      refine va_put (D := D) (ci := 0) (v := .ref q) (ty := .array .long) (C := K_R) (T := F_R) (N := 3) hx hb hG in_R t_R t_R_ok n_R hown hK.1 hP hD hS 0 rfl rfl 1 (by decide) (hG _ wd_98) (fun _ h9 => h9) rfl (by decide +kernel) rfl rfl (Nat.le_of_ble_eq_true rfl) d_R_add_43 (fun H locs hP hD hS => ?_)
      have hP : va_P D vwC [(h0, .inr (0, [.int (nI m0), .ref q, .int (nI n)])), (a, .inl (E.1, n, .inr (.inl f))), (q, .inl (E.1, (min m0 (2 * n)), .inr (.inl (va_cpy f (fun _ => 0) 0 0 n))))] H := hP
      have hD : va_D A [(h0, .inr (0, [.int (nI m0), .ref q, .int (nI n)])), (a, .inl (E.1, n, .inr (.inl f))), (q, .inl (E.1, (min m0 (2 * n)), .inr (.inl (va_cpy f (fun _ => 0) 0 0 n))))] := hD
      refine lv_aload_n hx hb d_R_add_46 rfl (lv_at hl 0 rfl) ?_
      refine va_get (D := D) (ci := 0) (v := .ref q) (C := K_R) (T := F_R) (N := 3) hx hb hG in_R hown hK.1 hP 0 rfl rfl 1 (by decide) (hG _ wd_98) (fun _ h9 => h9) rfl d_R_add_47 ?_
      refine lv_aload_n hx hb d_R_add_50 rfl (lv_at hl 0 rfl) ?_
      refine va_get (D := D) (ci := 0) (v := .int (nI n)) (C := K_R) (T := F_R) (N := 3) hx hb hG in_R hown hK.1 hP 0 rfl rfl 2 (by decide) (hG _ wd_99) (fun _ h9 => h9) rfl d_R_add_51 ?_
      refine lv_lload_n hx hb d_R_add_54 rfl (lv_at hl 1 rfl) ?_
      have hP := hP.sub (ws' := [(h0, .inr (0, [.int (nI m0), .ref q, .int (nI n)])), (q, .inl (E.1, (min m0 (2 * n)), .inr (.inl (va_cpy f (fun _ => 0) 0 0 n))))]) [0, 2] rfl
      have hD := hD.sub (ws' := [(h0, .inr (0, [.int (nI m0), .ref q, .int (nI n)])), (q, .inl (E.1, (min m0 (2 * n)), .inr (.inl (va_cpy f (fun _ => 0) 0 0 n))))]) [0, 2] (by decide) rfl
      refine va_last hx hb hK.1 hP hD hS 1 0 rfl rfl (vp_in_nI (by omega) (by omega)) d_R_add_55 (fun H locs hP hD hS => ?_)
      rw [show vp_updL (va_cpy f (fun _ => 0) 0 0 n) (Int32.toNatClampNeg (nI n)) x = (vp_updL (va_cpy f (fun _ => 0) 0 0 n) n x) from by rw [nI_clamp (by omega)]] at hP hD
      have hP : va_P D vwC [(h0, .inr (0, [.int (nI m0), .ref q, .int (nI n)])), (q, .inl (E.1, (min m0 (2 * n)), .inr (.inl (vp_updL (va_cpy f (fun _ => 0) 0 0 n) n x))))] H := hP
      have hD : va_D A [(h0, .inr (0, [.int (nI m0), .ref q, .int (nI n)])), (q, .inl (E.1, (min m0 (2 * n)), .inr (.inl (vp_updL (va_cpy f (fun _ => 0) 0 0 n) n x))))] := hD
      refine lv_aload_n hx hb d_R_add_56 rfl (lv_at hl 0 rfl) ?_
      refine lv_dup hx hb d_R_add_57 rfl ?_
      refine va_get (D := D) (ci := 0) (v := .int (nI n)) (C := K_R) (T := F_R) (N := 3) hx hb hG in_R hown hK.1 hP 0 rfl rfl 2 (by decide) (hG _ wd_99) (fun _ h9 => h9) rfl d_R_add_58 ?_
      refine lv_iconst (v := 1) hx hb d_R_add_61 (by decide) ?_
      refine lv_iadd hx hb d_R_add_62 ?_
      rw [show (nI n + 1) = nI (n + 1) from nI_1 _]
      refine va_put (D := D) (ci := 0) (v := .int (nI (n + 1))) (ty := .int) (C := K_R) (T := F_R) (N := 3) hx hb hG in_R t_R t_R_ok n_R hown hK.1 hP hD hS 0 rfl rfl 2 (by decide) (hG _ wd_99) (fun _ h9 => h9) rfl (by decide +kernel) rfl rfl (Nat.le_of_ble_eq_true rfl) d_R_add_63 (fun H locs hP hD hS => ?_)
      have hP : va_P D vwC [(h0, .inr (0, [.int (nI m0), .ref q, .int (nI (n + 1))])), (q, .inl (E.1, (min m0 (2 * n)), .inr (.inl (vp_updL (va_cpy f (fun _ => 0) 0 0 n) n x))))] H := hP
      have hD : va_D A [(h0, .inr (0, [.int (nI m0), .ref q, .int (nI (n + 1))])), (q, .inl (E.1, (min m0 (2 * n)), .inr (.inl (vp_updL (va_cpy f (fun _ => 0) 0 0 n) n x))))] := hD
      refine lv_iconst (v := 1) hx hb d_R_add_66 (by decide) ?_
      exact W.zret (v := 1) (ty := .boolean) hx hb hrt rfl (fun t ht hW => ⟨⟨1, q, rfl, rfl, ⟨by rw [ht]; exact hP, hD⟩⟩, hS.F ht⟩) hS.2.2 d_R_add_67 hlocks
  · exact absurd rfl c1
set_option maxHeartbeats 4000000 in
set_option maxRecDepth 100000 in
theorem k_R_add3 (l : Launch) (D : va_G) (E : ClassId × ClassId × ClassId × ClassId) (h0 a sz m0 z : Nat) (x : Int64) (hz : m0 ≤ z) (hm : z < 2 ^ 26) : Met l y_R_add (.code y_R_add c_R_add 3 (some .boolean) :: gw) ({ frames := 2, cells := 0, slots := 0, locals := 80 } : Room) (wP D E [(h0, .inr (0, [.int (nI m0), .ref a, .int (nI z)]))] sz [.ref h0, .long x]) (va_Qi (fun (r : Int32) (u : Unit) => r = 0) (wB D (fun _ => [(h0, .inr (0, [.int (nI m0), .ref a, .int (nI z)]))]) (va_A [(h0, .inr (0, [.int (nI m0), .ref a, .int (nI z)]))] sz)) (va_A [(h0, .inr (0, [.int (nI m0), .ref a, .int (nI z)]))] sz)) 0 0 (va_A [(h0, .inr (0, [.int (nI m0), .ref a, .int (nI z)]))] sz) := by
  refine wr_ofW (Qc := fun A => (va_Qi (fun (r : Int32) (u : Unit) => r = 0) (wB D (fun _ => [(h0, .inr (0, [.int (nI m0), .ref a, .int (nI z)]))]) A) A)) (by decide) (Nat.le_of_ble_eq_true rfl) ?_
  intro p e s m below meth c B hP hK A hA hD hS ls hl
  obtain ⟨hx, hb, hrt, hml, hown, hts, hG, hlocks, hin⟩ := B
  have hl : lv_has ls 3 [(0, .ref h0), (1, .long x)] := hl
  refine lv_aload_n hx hb d_R_add_0 rfl (lv_at hl 0 rfl) ?_
  have hPc := hP.sub (ws' := [(h0, .inr (0, [.int (nI m0), .ref a, .int (nI z)]))]) [0] rfl
  refine vp_callSi (W.runV (As := []) (rest := []) ⟨hx, hb, hml, hown, hts⟩ (k_R_isFull l D E h0 a (nI m0) (nI z)) (cwV 0 hts (gw_gv wd_419 wd_396 wd_397 wd_41 wd_398) rfl rfl rfl (by decide +kernel) ⟨Nat.le_of_ble_eq_true rfl, Nat.le_of_ble_eq_true rfl⟩) (rP_V 0 hPc hK rfl rfl) rfl rfl hl.1 rfl (lv_room (Nat.le_of_ble_eq_true rfl)) d_R_add_1 ⟨Nat.le_of_ble_eq_true rfl, Nat.le_of_ble_eq_true rfl⟩) (fun r1 hr1 => ?_)
  rw [if_neg (nI_nlt (by omega) (by omega))] at hr1
  subst hr1
  refine lv_if_eq (tgt := 9) hx hb d_R_add_4 (by decide) (fun c1 => ?_) (fun c1 => ?_)
  · exact absurd c1 (by decide)
  · refine lv_iconst (v := 0) hx hb d_R_add_7 (by decide) ?_
    exact W.zret (v := 0) (ty := .boolean) hx hb hrt rfl (fun t ht hW => ⟨⟨0, (), rfl, rfl, ⟨by rw [ht]; exact hP, hD⟩⟩, hS.F ht⟩) hS.2.2 d_R_add_8 hlocks
theorem k_R_add (l : Launch) (D : va_G) (E : ClassId × ClassId × ClassId × ClassId) (h0 a sz m0 z n : Nat) (f : Nat → Int64) (x : Int64) (h0n : 0 < n) (hz : z ≤ n) (hzm : z < m0) (hn : n ≤ m0) (hm : m0 < 2 ^ 26) : Met l y_R_add (.code y_R_add c_R_add 3 (some .boolean) :: gw) ({ frames := 2, cells := (ra_c z n), slots := (ra_s z n m0), locals := 80 } : Room) (wP D E [(h0, .inr (0, [.int (nI m0), .ref a, .int (nI z)])), (a, .inl (E.1, n, .inr (.inl f)))] sz [.ref h0, .long x]) (va_Qi (fun (r : Int32) (u : Nat) => r = 1) (wB D (fun u => [(h0, .inr (0, [.int (nI m0), .ref u, .int (nI (z + 1))])), (u, .inl (E.1, (ra_n z n m0), .inr (.inl (ra_f f z n x))))]) (va_A [(h0, .inr (0, [.int (nI m0), .ref a, .int (nI z)])), (a, .inl (E.1, n, .inr (.inl f)))] sz)) (va_A [(h0, .inr (0, [.int (nI m0), .ref a, .int (nI z)])), (a, .inl (E.1, n, .inr (.inl f)))] sz)) (ra_c z n) (ra_s z n m0) (va_A [(h0, .inr (0, [.int (nI m0), .ref a, .int (nI z)])), (a, .inl (E.1, n, .inr (.inl f)))] sz) := by
  by_cases hc : z < n
  · simp only [ra_c, ra_s, ra_n, ra_f, if_pos hc]
    exact k_R_add1 l D E h0 a sz m0 z n f x hc hn hm
  · obtain rfl : z = n := by omega
    simp only [ra_c, ra_s, ra_n, ra_f, if_neg hc]
    exact k_R_add2 l D E h0 a sz m0 z f x h0n hzm hm
