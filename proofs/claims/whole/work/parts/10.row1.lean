theorem d_R_at_0 : decode c_R_at 0 = .ok (.aload_n 0, 1) := by decide +kernel
theorem d_R_at_1 : decode c_R_at 1 = .ok (.iload_n 1, 1) := by decide +kernel
theorem d_R_at_2 : decode c_R_at 2 = .ok (.invokevirtual 22, 3) := by decide +kernel
theorem d_R_at_5 : decode c_R_at 5 = .ok (.ifCond .eq 12, 3) := by decide +kernel
theorem d_R_at_8 : decode c_R_at 8 = .ok (.aload_n 0, 1) := by decide +kernel
theorem d_R_at_9 : decode c_R_at 9 = .ok (.getfield 15, 3) := by decide +kernel
theorem d_R_at_12 : decode c_R_at 12 = .ok (.iload_n 1, 1) := by decide +kernel
theorem d_R_at_13 : decode c_R_at 13 = .ok (.laload, 1) := by decide +kernel
theorem d_R_at_14 : decode c_R_at 14 = .ok (.goto 6, 3) := by decide +kernel
theorem d_R_at_17 : decode c_R_at 17 = .ok (.ldc2_w 26, 3) := by decide +kernel
theorem d_R_at_20 : decode c_R_at 20 = .ok (.lreturn, 1) := by decide +kernel
theorem d_R_has_0 : decode c_R_has 0 = .ok (.iload_n 1, 1) := by decide +kernel
theorem d_R_has_1 : decode c_R_has 1 = .ok (.ifCond .lt 15, 3) := by decide +kernel
theorem d_R_has_4 : decode c_R_has 4 = .ok (.iload_n 1, 1) := by decide +kernel
theorem d_R_has_5 : decode c_R_has 5 = .ok (.aload_n 0, 1) := by decide +kernel
theorem d_R_has_6 : decode c_R_has 6 = .ok (.getfield 19, 3) := by decide +kernel
theorem d_R_has_9 : decode c_R_has 9 = .ok (.if_icmp .ge 7, 3) := by decide +kernel
theorem d_R_has_12 : decode c_R_has 12 = .ok (.iconst 1, 1) := by decide +kernel
theorem d_R_has_13 : decode c_R_has 13 = .ok (.goto 4, 3) := by decide +kernel
theorem d_R_has_16 : decode c_R_has 16 = .ok (.iconst 0, 1) := by decide +kernel
theorem d_R_has_17 : decode c_R_has 17 = .ok (.ireturn, 1) := by decide +kernel
theorem d_R_isFull_0 : decode c_R_isFull 0 = .ok (.aload_n 0, 1) := by decide +kernel
theorem d_R_isFull_1 : decode c_R_isFull 1 = .ok (.getfield 19, 3) := by decide +kernel
theorem d_R_isFull_4 : decode c_R_isFull 4 = .ok (.aload_n 0, 1) := by decide +kernel
theorem d_R_isFull_5 : decode c_R_isFull 5 = .ok (.getfield 9, 3) := by decide +kernel
theorem d_R_isFull_8 : decode c_R_isFull 8 = .ok (.if_icmp .lt 7, 3) := by decide +kernel
theorem d_R_isFull_11 : decode c_R_isFull 11 = .ok (.iconst 1, 1) := by decide +kernel
theorem d_R_isFull_12 : decode c_R_isFull 12 = .ok (.goto 4, 3) := by decide +kernel
theorem d_R_isFull_15 : decode c_R_isFull 15 = .ok (.iconst 0, 1) := by decide +kernel
theorem d_R_isFull_16 : decode c_R_isFull 16 = .ok (.ireturn, 1) := by decide +kernel
theorem d_R_size_0 : decode c_R_size 0 = .ok (.aload_n 0, 1) := by decide +kernel
theorem d_R_size_1 : decode c_R_size 1 = .ok (.getfield 19, 3) := by decide +kernel
theorem d_R_size_4 : decode c_R_size 4 = .ok (.ireturn, 1) := by decide +kernel
set_option maxHeartbeats 4000000 in
set_option maxRecDepth 100000 in
theorem k_R_size (l : Launch) (D : va_G) (E : ClassId × ClassId × ClassId × ClassId) (h0 a : Nat) (most z : Int32) : Met l y_R_size (.code y_R_size c_R_size 1 (some .int) :: gw) ({ frames := 0, cells := 0, slots := 0, locals := 0 } : Room) (rP D E [(h0, .inr (0, [.int most, .ref a, .int z]))] [.ref h0]) (vp_Si (fun r => r = z)) 0 0 (fun _ => False) := by
  refine rd_ofW (by decide) (Nat.le_of_ble_eq_true rfl) ?_
  intro p e s m below meth c B hP hK ls hl
  obtain ⟨hx, hb, hrt, hml, hown, hts, hG, hlocks, hin⟩ := B
  have hl : lv_has ls 1 [(0, .ref h0)] := hl
  refine lv_aload_n hx hb d_R_size_0 rfl (lv_at hl 0 rfl) ?_
  refine va_get (D := D) (ci := 0) (v := .int z) (C := K_R) (T := F_R) (N := 3) hx hb hG in_R hown hK.1 hP 0 rfl rfl 2 (by decide) (hG _ wd_99) (fun _ h9 => h9) rfl d_R_size_1 ?_
  exact W.iret (v := z) hx hb hrt (fun t ht hW => ⟨z, rfl, rfl, ht⟩) (fun q h => nomatch h) d_R_size_4 hlocks
/-- whether an index is one of z -/
def rw_has (z i : Int32) : Int32 := if i < 0 then 0 else if z ≤ i then 0 else 1
set_option maxHeartbeats 4000000 in
set_option maxRecDepth 100000 in
theorem k_R_has (l : Launch) (D : va_G) (E : ClassId × ClassId × ClassId × ClassId) (h0 a : Nat) (most z i : Int32) : Met l y_R_has (.code y_R_has c_R_has 2 (some .boolean) :: gw) ({ frames := 0, cells := 0, slots := 0, locals := 0 } : Room) (rP D E [(h0, .inr (0, [.int most, .ref a, .int z]))] [.ref h0, .int i]) (vp_Si (fun r => r = rw_has z i)) 0 0 (fun _ => False) := by
  refine rd_ofW (by decide) (Nat.le_of_ble_eq_true rfl) ?_
  intro p e s m below meth c B hP hK ls hl
  obtain ⟨hx, hb, hrt, hml, hown, hts, hG, hlocks, hin⟩ := B
  have hl : lv_has ls 2 [(0, .ref h0), (1, .int i)] := hl
  refine lv_iload_n hx hb d_R_has_0 rfl (lv_at hl 1 rfl) ?_
  refine lv_if_lt (tgt := 16) hx hb d_R_has_1 (by decide) (fun c1 => ?_) (fun c1 => ?_)
  · refine lv_iconst (v := 0) hx hb d_R_has_16 (by decide) ?_
    exact W.zret (v := 0) (ty := .boolean) hx hb hrt rfl (fun t ht hW => ⟨0, rfl, by rw [rw_has, if_pos c1], ht⟩) (fun q h => nomatch h) d_R_has_17 hlocks
  · refine lv_iload_n hx hb d_R_has_4 rfl (lv_at hl 1 rfl) ?_
    refine lv_aload_n hx hb d_R_has_5 rfl (lv_at hl 0 rfl) ?_
    refine va_get (D := D) (ci := 0) (v := .int z) (C := K_R) (T := F_R) (N := 3) hx hb hG in_R hown hK.1 hP 0 rfl rfl 2 (by decide) (hG _ wd_99) (fun _ h9 => h9) rfl d_R_has_6 ?_
    refine lv_icmp_ge (tgt := 16) hx hb d_R_has_9 (by decide) (fun c2 => ?_) (fun c2 => ?_)
    · refine lv_iconst (v := 0) hx hb d_R_has_16 (by decide) ?_
      exact W.zret (v := 0) (ty := .boolean) hx hb hrt rfl (fun t ht hW => ⟨0, rfl, by rw [rw_has, if_neg c1, if_pos c2], ht⟩) (fun q h => nomatch h) d_R_has_17 hlocks
    · refine lv_iconst (v := 1) hx hb d_R_has_12 (by decide) ?_
      refine lv_goto (tgt := 17) hx hb d_R_has_13 (by decide) ?_
      exact W.zret (v := 1) (ty := .boolean) hx hb hrt rfl (fun t ht hW => ⟨1, rfl, by rw [rw_has, if_neg c1, if_neg c2], ht⟩) (fun q h => nomatch h) d_R_has_17 hlocks
set_option maxHeartbeats 4000000 in
set_option maxRecDepth 100000 in
theorem k_R_isFull (l : Launch) (D : va_G) (E : ClassId × ClassId × ClassId × ClassId) (h0 a : Nat) (most z : Int32) : Met l y_R_isFull (.code y_R_isFull c_R_isFull 1 (some .boolean) :: gw) ({ frames := 0, cells := 0, slots := 0, locals := 0 } : Room) (rP D E [(h0, .inr (0, [.int most, .ref a, .int z]))] [.ref h0]) (vp_Si (fun r => r = if z < most then 0 else 1)) 0 0 (fun _ => False) := by
  refine rd_ofW (by decide) (Nat.le_of_ble_eq_true rfl) ?_
  intro p e s m below meth c B hP hK ls hl
  obtain ⟨hx, hb, hrt, hml, hown, hts, hG, hlocks, hin⟩ := B
  have hl : lv_has ls 1 [(0, .ref h0)] := hl
  refine lv_aload_n hx hb d_R_isFull_0 rfl (lv_at hl 0 rfl) ?_
  refine va_get (D := D) (ci := 0) (v := .int z) (C := K_R) (T := F_R) (N := 3) hx hb hG in_R hown hK.1 hP 0 rfl rfl 2 (by decide) (hG _ wd_99) (fun _ h9 => h9) rfl d_R_isFull_1 ?_
  refine lv_aload_n hx hb d_R_isFull_4 rfl (lv_at hl 0 rfl) ?_
  refine va_get (D := D) (ci := 0) (v := .int most) (C := K_R) (T := F_R) (N := 3) hx hb hG in_R hown hK.1 hP 0 rfl rfl 0 (by decide) (hG _ wd_97) (fun _ h9 => h9) rfl d_R_isFull_5 ?_
  refine lv_icmp_lt (tgt := 15) hx hb d_R_isFull_8 (by decide) (fun c1 => ?_) (fun c1 => ?_)
  · refine lv_iconst (v := 0) hx hb d_R_isFull_15 (by decide) ?_
    exact W.zret (v := 0) (ty := .boolean) hx hb hrt rfl (fun t ht hW => ⟨0, rfl, by rw [if_pos c1], ht⟩) (fun q h => nomatch h) d_R_isFull_16 hlocks
  · refine lv_iconst (v := 1) hx hb d_R_isFull_11 (by decide) ?_
    refine lv_goto (tgt := 16) hx hb d_R_isFull_12 (by decide) ?_
    exact W.zret (v := 1) (ty := .boolean) hx hb hrt rfl (fun t ht hW => ⟨1, rfl, by rw [if_neg c1], ht⟩) (fun q h => nomatch h) d_R_isFull_16 hlocks
theorem rw_has_1 {z i : Int32} (h : ¬ rw_has z i = 0) : ¬ i < 0 ∧ ¬ z ≤ i := by
  unfold rw_has at h
  by_cases c1 : i < 0
  · rw [if_pos c1] at h; exact absurd rfl h
  · rw [if_neg c1] at h
    by_cases c2 : z ≤ i
    · rw [if_pos c2] at h; exact absurd rfl h
    · exact ⟨c1, c2⟩
theorem vp_in_z {sz n : Nat} {i : Int32} (h1 : ¬ i < 0) (h2 : ¬ nI sz ≤ i) (h : sz ≤ n) (hn : n < 2 ^ 31) : vp_in i n := by
  rw [vp_in_iff]
  rw [Int32.lt_iff_toInt_lt] at h1
  rw [Int32.le_iff_toInt_le, nI_toInt (by omega)] at h2
  have h0 : (0 : Int32).toInt = 0 := by decide
  omega
def rw_at (f : Nat → Int64) (z i : Int32) : Int64 := if rw_has z i = 0 then -1 else f i.toNatClampNeg
set_option maxHeartbeats 4000000 in
set_option maxRecDepth 100000 in
theorem k_R_at (l : Launch) (D : va_G) (E : ClassId × ClassId × ClassId × ClassId) (h0 a : Nat) (most i : Int32) (sz n : Nat) (f : Nat → Int64) (hsz : sz ≤ n) (hn : n < 2 ^ 31) : Met l y_R_at (.code y_R_at c_R_at 2 (some .long) :: gw) ({ frames := 1, cells := 0, slots := 0, locals := 21 } : Room) (rP D E [(h0, .inr (0, [.int most, .ref a, .int (nI sz)])), (a, .inl (E.1, n, .inr (.inl f)))] [.ref h0, .int i]) (vp_Sl (fun r => r = rw_at f (nI sz) i)) 0 0 (fun _ => False) := by
  refine rd_ofW (by decide) (Nat.le_of_ble_eq_true rfl) ?_
  intro p e s m below meth c B hP hK ls hl
  obtain ⟨hx, hb, hrt, hml, hown, hts, hG, hlocks, hin⟩ := B
  have hl : lv_has ls 2 [(0, .ref h0), (1, .int i)] := hl
  refine lv_aload_n hx hb d_R_at_0 rfl (lv_at hl 0 rfl) ?_
  refine lv_iload_n hx hb d_R_at_1 rfl (lv_at hl 1 rfl) ?_
  have hPc := hP.sub (ws' := [(h0, .inr (0, [.int most, .ref a, .int (nI sz)]))]) [0] rfl
  refine vp_callSi (W.runV (As := [.int i]) (rest := []) ⟨hx, hb, hml, hown, hts⟩ (k_R_has l D E h0 a most (nI sz) i) (cwV 1 hts (gw_gv wd_487 wd_488 wd_489 wd_41 wd_490) rfl rfl rfl (by decide +kernel) ⟨Nat.le_of_ble_eq_true rfl, Nat.le_of_ble_eq_true rfl⟩) (rP_V 0 hPc hK rfl rfl) rfl rfl hl.1 rfl (lv_room (Nat.le_of_ble_eq_true rfl)) d_R_at_2 ⟨Nat.le_of_ble_eq_true rfl, Nat.le_of_ble_eq_true rfl⟩) (fun r hr => ?_)
  refine lv_if_eq (tgt := 17) hx hb d_R_at_5 (by decide) (fun c1 => ?_) (fun c1 => ?_)
  · refine lv_ldc2 hx hb hown (hG _ wd_491) d_R_at_17 ?_
    exact W.lret (v := (-1)) hx hb hrt (fun t ht hW => ⟨(-1), rfl, by rw [hr] at c1; rw [rw_at, if_pos c1], ht⟩) (fun q h => nomatch h) d_R_at_20 hlocks
  · rw [hr] at c1
    have c2 := rw_has_1 c1
    refine lv_aload_n hx hb d_R_at_8 rfl (lv_at hl 0 rfl) ?_
    refine va_get (D := D) (ci := 0) (v := .ref a) (C := K_R) (T := F_R) (N := 3) hx hb hG in_R hown hK.1 hP 0 rfl rfl 1 (by decide) (hG _ wd_98) (fun _ h9 => h9) rfl d_R_at_9 ?_
    refine lv_iload_n hx hb d_R_at_12 rfl (lv_at hl 1 rfl) ?_
    refine va_lald hx hb hK.1 hP 1 0 rfl rfl (vp_in_z c2.1 c2.2 hsz hn) d_R_at_13 ?_
    refine lv_goto (tgt := 20) hx hb d_R_at_14 (by decide) ?_
    exact W.lret (v := (f (Int32.toNatClampNeg i))) hx hb hrt (fun t ht hW => ⟨(f (Int32.toNatClampNeg i)), rfl, by rw [rw_at, if_neg c1], ht⟩) (fun q h => nomatch h) d_R_at_20 hlocks
