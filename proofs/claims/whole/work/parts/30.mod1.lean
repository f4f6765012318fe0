theorem d_M_compare_0 : decode c_M_compare 0 = .ok (.lload_n 0, 1) := by decide +kernel
theorem d_M_compare_1 : decode c_M_compare 1 = .ok (.lload 6, 2) := by decide +kernel
theorem d_M_compare_3 : decode c_M_compare 3 = .ok (.lmul, 1) := by decide +kernel
theorem d_M_compare_4 : decode c_M_compare 4 = .ok (.lstore 8, 2) := by decide +kernel
theorem d_M_compare_6 : decode c_M_compare 6 = .ok (.lload 4, 2) := by decide +kernel
theorem d_M_compare_8 : decode c_M_compare 8 = .ok (.lload_n 2, 1) := by decide +kernel
theorem d_M_compare_9 : decode c_M_compare 9 = .ok (.lmul, 1) := by decide +kernel
theorem d_M_compare_10 : decode c_M_compare 10 = .ok (.lstore 10, 2) := by decide +kernel
theorem d_M_compare_12 : decode c_M_compare 12 = .ok (.lload 8, 2) := by decide +kernel
theorem d_M_compare_14 : decode c_M_compare 14 = .ok (.lload 10, 2) := by decide +kernel
theorem d_M_compare_16 : decode c_M_compare 16 = .ok (.lcmp, 1) := by decide +kernel
theorem d_M_compare_17 : decode c_M_compare 17 = .ok (.ifCond .ge 7, 3) := by decide +kernel
theorem d_M_compare_20 : decode c_M_compare 20 = .ok (.iconst (-1), 1) := by decide +kernel
theorem d_M_compare_21 : decode c_M_compare 21 = .ok (.goto 16, 3) := by decide +kernel
theorem d_M_compare_24 : decode c_M_compare 24 = .ok (.lload 8, 2) := by decide +kernel
theorem d_M_compare_26 : decode c_M_compare 26 = .ok (.lload 10, 2) := by decide +kernel
theorem d_M_compare_28 : decode c_M_compare 28 = .ok (.lcmp, 1) := by decide +kernel
theorem d_M_compare_29 : decode c_M_compare 29 = .ok (.ifCond .le 7, 3) := by decide +kernel
theorem d_M_compare_32 : decode c_M_compare 32 = .ok (.iconst 1, 1) := by decide +kernel
theorem d_M_compare_33 : decode c_M_compare 33 = .ok (.goto 4, 3) := by decide +kernel
theorem d_M_compare_36 : decode c_M_compare 36 = .ok (.iconst 0, 1) := by decide +kernel
theorem d_M_compare_37 : decode c_M_compare 37 = .ok (.ireturn, 1) := by decide +kernel
theorem d_M_fail_0 : decode c_M_fail 0 = .ok (.aload_n 0, 1) := by decide +kernel
theorem d_M_fail_1 : decode c_M_fail 1 = .ok (.iload_n 1, 1) := by decide +kernel
theorem d_M_fail_2 : decode c_M_fail 2 = .ok (.putfield 46, 3) := by decide +kernel
theorem d_M_fail_5 : decode c_M_fail 5 = .ok (.iconst 0, 1) := by decide +kernel
theorem d_M_fail_6 : decode c_M_fail 6 = .ok (.ireturn, 1) := by decide +kernel
theorem d_M_isFar_0 : decode c_M_isFar 0 = .ok (.iload_n 0, 1) := by decide +kernel
theorem d_M_isFar_1 : decode c_M_isFar 1 = .ok (.ldc 50, 2) := by decide +kernel
theorem d_M_isFar_3 : decode c_M_isFar 3 = .ok (.ldc 51, 2) := by decide +kernel
theorem d_M_isFar_5 : decode c_M_isFar 5 = .ok (.invokestatic 52, 3) := by decide +kernel
theorem d_M_isFar_8 : decode c_M_isFar 8 = .ok (.ifCond .ne 7, 3) := by decide +kernel
theorem d_M_isFar_11 : decode c_M_isFar 11 = .ok (.iconst 1, 1) := by decide +kernel
theorem d_M_isFar_12 : decode c_M_isFar 12 = .ok (.goto 4, 3) := by decide +kernel
theorem d_M_isFar_15 : decode c_M_isFar 15 = .ok (.iconst 0, 1) := by decide +kernel
theorem d_M_isFar_16 : decode c_M_isFar 16 = .ok (.ireturn, 1) := by decide +kernel
theorem d_M_isSegment_0 : decode c_M_isSegment 0 = .ok (.iload_n 1, 1) := by decide +kernel
theorem d_M_isSegment_1 : decode c_M_isSegment 1 = .ok (.iconst 0, 1) := by decide +kernel
theorem d_M_isSegment_2 : decode c_M_isSegment 2 = .ok (.aload_n 0, 1) := by decide +kernel
theorem d_M_isSegment_3 : decode c_M_isSegment 3 = .ok (.getfield 56, 3) := by decide +kernel
theorem d_M_isSegment_6 : decode c_M_isSegment 6 = .ok (.iconst 1, 1) := by decide +kernel
theorem d_M_isSegment_7 : decode c_M_isSegment 7 = .ok (.isub, 1) := by decide +kernel
theorem d_M_isSegment_8 : decode c_M_isSegment 8 = .ok (.invokestatic 52, 3) := by decide +kernel
theorem d_M_isSegment_11 : decode c_M_isSegment 11 = .ok (.ireturn, 1) := by decide +kernel
theorem d_M_raise_0 : decode c_M_raise 0 = .ok (.lload_n 1, 1) := by decide +kernel
theorem d_M_raise_1 : decode c_M_raise 1 = .ok (.lload_n 3, 1) := by decide +kernel
theorem d_M_raise_2 : decode c_M_raise 2 = .ok (.aload_n 0, 1) := by decide +kernel
theorem d_M_raise_3 : decode c_M_raise 3 = .ok (.getfield 80, 3) := by decide +kernel
theorem d_M_raise_6 : decode c_M_raise 6 = .ok (.aload_n 0, 1) := by decide +kernel
theorem d_M_raise_7 : decode c_M_raise 7 = .ok (.getfield 84, 3) := by decide +kernel
theorem d_M_raise_10 : decode c_M_raise 10 = .ok (.invokestatic 87, 3) := by decide +kernel
theorem d_M_raise_13 : decode c_M_raise 13 = .ok (.istore 6, 2) := by decide +kernel
theorem d_M_raise_15 : decode c_M_raise 15 = .ok (.iload 6, 2) := by decide +kernel
theorem d_M_raise_17 : decode c_M_raise 17 = .ok (.ifCond .gt 15, 3) := by decide +kernel
theorem d_M_raise_20 : decode c_M_raise 20 = .ok (.iload 6, 2) := by decide +kernel
theorem d_M_raise_22 : decode c_M_raise 22 = .ok (.ifCond .ne 46, 3) := by decide +kernel
theorem d_M_raise_25 : decode c_M_raise 25 = .ok (.aload_n 0, 1) := by decide +kernel
theorem d_M_raise_26 : decode c_M_raise 26 = .ok (.getfield 91, 3) := by decide +kernel
theorem d_M_raise_29 : decode c_M_raise 29 = .ok (.ifCond .eq 39, 3) := by decide +kernel
theorem d_M_raise_32 : decode c_M_raise 32 = .ok (.aload_n 0, 1) := by decide +kernel
theorem d_M_raise_33 : decode c_M_raise 33 = .ok (.iload 5, 2) := by decide +kernel
theorem d_M_raise_35 : decode c_M_raise 35 = .ok (.ifCond .eq 19, 3) := by decide +kernel
theorem d_M_raise_38 : decode c_M_raise 38 = .ok (.iload 6, 2) := by decide +kernel
theorem d_M_raise_40 : decode c_M_raise 40 = .ok (.ifCond .gt 10, 3) := by decide +kernel
theorem d_M_raise_43 : decode c_M_raise 43 = .ok (.aload_n 0, 1) := by decide +kernel
theorem d_M_raise_44 : decode c_M_raise 44 = .ok (.getfield 91, 3) := by decide +kernel
theorem d_M_raise_47 : decode c_M_raise 47 = .ok (.ifCond .eq 7, 3) := by decide +kernel
theorem d_M_raise_50 : decode c_M_raise 50 = .ok (.iconst 1, 1) := by decide +kernel
theorem d_M_raise_51 : decode c_M_raise 51 = .ok (.goto 4, 3) := by decide +kernel
theorem d_M_raise_54 : decode c_M_raise 54 = .ok (.iconst 0, 1) := by decide +kernel
theorem d_M_raise_55 : decode c_M_raise 55 = .ok (.putfield 91, 3) := by decide +kernel
theorem d_M_raise_58 : decode c_M_raise 58 = .ok (.aload_n 0, 1) := by decide +kernel
theorem d_M_raise_59 : decode c_M_raise 59 = .ok (.lload_n 1, 1) := by decide +kernel
theorem d_M_raise_60 : decode c_M_raise 60 = .ok (.putfield 80, 3) := by decide +kernel
theorem d_M_raise_63 : decode c_M_raise 63 = .ok (.aload_n 0, 1) := by decide +kernel
theorem d_M_raise_64 : decode c_M_raise 64 = .ok (.lload_n 3, 1) := by decide +kernel
theorem d_M_raise_65 : decode c_M_raise 65 = .ok (.putfield 84, 3) := by decide +kernel
theorem d_M_raise_68 : decode c_M_raise 68 = .ok (.return_, 1) := by decide +kernel
theorem d_M_reduce_0 : decode c_M_reduce 0 = .ok (.lload_n 1, 1) := by decide +kernel
theorem d_M_reduce_1 : decode c_M_reduce 1 = .ok (.lload_n 3, 1) := by decide +kernel
theorem d_M_reduce_2 : decode c_M_reduce 2 = .ok (.aload_n 0, 1) := by decide +kernel
theorem d_M_reduce_3 : decode c_M_reduce 3 = .ok (.getfield 94, 3) := by decide +kernel
theorem d_M_reduce_6 : decode c_M_reduce 6 = .ok (.aload_n 0, 1) := by decide +kernel
theorem d_M_reduce_7 : decode c_M_reduce 7 = .ok (.getfield 97, 3) := by decide +kernel
theorem d_M_reduce_10 : decode c_M_reduce 10 = .ok (.invokestatic 87, 3) := by decide +kernel
theorem d_M_reduce_13 : decode c_M_reduce 13 = .ok (.istore 6, 2) := by decide +kernel
theorem d_M_reduce_15 : decode c_M_reduce 15 = .ok (.iload 6, 2) := by decide +kernel
theorem d_M_reduce_17 : decode c_M_reduce 17 = .ok (.ifCond .lt 15, 3) := by decide +kernel
theorem d_M_reduce_20 : decode c_M_reduce 20 = .ok (.iload 6, 2) := by decide +kernel
theorem d_M_reduce_22 : decode c_M_reduce 22 = .ok (.ifCond .ne 46, 3) := by decide +kernel
theorem d_M_reduce_25 : decode c_M_reduce 25 = .ok (.aload_n 0, 1) := by decide +kernel
theorem d_M_reduce_26 : decode c_M_reduce 26 = .ok (.getfield 100, 3) := by decide +kernel
theorem d_M_reduce_29 : decode c_M_reduce 29 = .ok (.ifCond .eq 39, 3) := by decide +kernel
theorem d_M_reduce_32 : decode c_M_reduce 32 = .ok (.aload_n 0, 1) := by decide +kernel
theorem d_M_reduce_33 : decode c_M_reduce 33 = .ok (.iload 5, 2) := by decide +kernel
theorem d_M_reduce_35 : decode c_M_reduce 35 = .ok (.ifCond .eq 19, 3) := by decide +kernel
theorem d_M_reduce_38 : decode c_M_reduce 38 = .ok (.iload 6, 2) := by decide +kernel
theorem d_M_reduce_40 : decode c_M_reduce 40 = .ok (.ifCond .lt 10, 3) := by decide +kernel
theorem d_M_reduce_43 : decode c_M_reduce 43 = .ok (.aload_n 0, 1) := by decide +kernel
theorem d_M_reduce_44 : decode c_M_reduce 44 = .ok (.getfield 100, 3) := by decide +kernel
theorem d_M_reduce_47 : decode c_M_reduce 47 = .ok (.ifCond .eq 7, 3) := by decide +kernel
theorem d_M_reduce_50 : decode c_M_reduce 50 = .ok (.iconst 1, 1) := by decide +kernel
theorem d_M_reduce_51 : decode c_M_reduce 51 = .ok (.goto 4, 3) := by decide +kernel
theorem d_M_reduce_54 : decode c_M_reduce 54 = .ok (.iconst 0, 1) := by decide +kernel
theorem d_M_reduce_55 : decode c_M_reduce 55 = .ok (.putfield 100, 3) := by decide +kernel
theorem d_M_reduce_58 : decode c_M_reduce 58 = .ok (.aload_n 0, 1) := by decide +kernel
theorem d_M_reduce_59 : decode c_M_reduce 59 = .ok (.lload_n 1, 1) := by decide +kernel
theorem d_M_reduce_60 : decode c_M_reduce 60 = .ok (.putfield 94, 3) := by decide +kernel
theorem d_M_reduce_63 : decode c_M_reduce 63 = .ok (.aload_n 0, 1) := by decide +kernel
theorem d_M_reduce_64 : decode c_M_reduce 64 = .ok (.lload_n 3, 1) := by decide +kernel
theorem d_M_reduce_65 : decode c_M_reduce 65 = .ok (.putfield 97, 3) := by decide +kernel
theorem d_M_reduce_68 : decode c_M_reduce 68 = .ok (.return_, 1) := by decide +kernel
theorem d_M_thrown_0 : decode c_M_thrown 0 = .ok (.aload_n 0, 1) := by decide +kernel
theorem d_M_thrown_1 : decode c_M_thrown 1 = .ok (.getfield 46, 3) := by decide +kernel
theorem d_M_thrown_4 : decode c_M_thrown 4 = .ok (.ireturn, 1) := by decide +kernel
theorem d_M_within_0 : decode c_M_within 0 = .ok (.iload_n 0, 1) := by decide +kernel
theorem d_M_within_1 : decode c_M_within 1 = .ok (.iload_n 1, 1) := by decide +kernel
theorem d_M_within_2 : decode c_M_within 2 = .ok (.if_icmp .lt 12, 3) := by decide +kernel
theorem d_M_within_5 : decode c_M_within 5 = .ok (.iload_n 0, 1) := by decide +kernel
theorem d_M_within_6 : decode c_M_within 6 = .ok (.iload_n 2, 1) := by decide +kernel
theorem d_M_within_7 : decode c_M_within 7 = .ok (.if_icmp .gt 7, 3) := by decide +kernel
theorem d_M_within_10 : decode c_M_within 10 = .ok (.iconst 1, 1) := by decide +kernel
theorem d_M_within_11 : decode c_M_within 11 = .ok (.goto 4, 3) := by decide +kernel
theorem d_M_within_14 : decode c_M_within 14 = .ok (.iconst 0, 1) := by decide +kernel
theorem d_M_within_15 : decode c_M_within 15 = .ok (.ireturn, 1) := by decide +kernel
/-- the reference's fields: the addresses of its arrays, its numbers -/
def mF (ad : Nat → Nat) (th sg sn hot pc cx cy : Int32) (fo fv to tv : Int64) (fi ti : Int32) : List Value := [.int th, .int sg, .ref (ad 0), .int sn, .int hot, .ref (ad 1), .ref (ad 2), .ref (ad 3), .ref (ad 4), .int pc, .ref (ad 5), .ref (ad 6), .ref (ad 7), .int cx, .int cy, .long fo, .long fv, .long to, .long tv, .int fi, .int ti, .ref (ad 8), .ref (ad 9), .ref (ad 10)]
def mw_in (v a b : Int32) : Prop := ¬ v < a ∧ ¬ b < v
def mw_far (v : Int32) : Prop := ¬ mw_in v (-500000000) 500000000
def mr_cmp (a b c d : Int64) : Int32 := if a * d < c * b then -1 else if c * b < a * d then 1 else 0
theorem z_n {b : Int32} (h : b = 0 ∨ b = 1) : narrow .boolean (.int b) = .int b := by rcases h with rfl | rfl <;> rfl
theorem z_f {b : Int32} (h : b = 0 ∨ b = 1) : fits .boolean (.int b) = true := by rcases h with rfl | rfl <;> rfl
theorem b01_z (p : Prop) : b01 p = 0 ∨ b01 p = 1 := by
  by_cases h : p
  · exact Or.inr (b01_t h)
  · exact Or.inl (b01_f h)
noncomputable section
set_option maxHeartbeats 4000000 in
set_option maxRecDepth 100000 in
theorem k_M_within (l : Launch) (D : va_G) (E : ClassId × ClassId × ClassId × ClassId) (v a b : Int32) : Met l y_M_within (.code y_M_within c_M_within 3 (some .boolean) :: gw) ({ frames := 0, cells := 0, slots := 0, locals := 0 } : Room) (rP D E [] [.int v, .int a, .int b]) (vp_Si (fun r => r = b01 (mw_in v a b))) 0 0 (fun _ => False) := by
  refine rd_ofW (by decide) (Nat.le_of_ble_eq_true rfl) ?_
  intro p e s m below meth c B hP hK ls hl
  obtain ⟨hx, hb, hrt, hml, hown, hts, hG, hlocks, hin⟩ := B
  have hl : lv_has ls 3 [(0, .int v), (1, .int a), (2, .int b)] := hl
  refine lv_iload_n hx hb d_M_within_0 rfl (lv_at hl 0 rfl) ?_
  refine lv_iload_n hx hb d_M_within_1 rfl (lv_at hl 1 rfl) ?_
  refine lv_icmp_lt (tgt := 14) hx hb d_M_within_2 (by decide) (fun c1 => ?_) (fun c1 => ?_)
  · refine lv_iconst (v := 0) hx hb d_M_within_14 (by decide) ?_
    exact W.zret (v := 0) (ty := .boolean) hx hb hrt rfl (fun t ht hW => ⟨0, rfl, by rw [b01_f]; intro h; exact h.1 c1, ht⟩) (fun q h => nomatch h) d_M_within_15 hlocks
  · refine lv_iload_n hx hb d_M_within_5 rfl (lv_at hl 0 rfl) ?_
    refine lv_iload_n hx hb d_M_within_6 rfl (lv_at hl 2 rfl) ?_
    refine lv_icmp_gt (tgt := 14) hx hb d_M_within_7 (by decide) (fun c2 => ?_) (fun c2 => ?_)
    · refine lv_iconst (v := 0) hx hb d_M_within_14 (by decide) ?_
      exact W.zret (v := 0) (ty := .boolean) hx hb hrt rfl (fun t ht hW => ⟨0, rfl, by rw [b01_f]; intro h; exact h.2 c2, ht⟩) (fun q h => nomatch h) d_M_within_15 hlocks
    · refine lv_iconst (v := 1) hx hb d_M_within_10 (by decide) ?_
      refine lv_goto (tgt := 15) hx hb d_M_within_11 (by decide) ?_
      exact W.zret (v := 1) (ty := .boolean) hx hb hrt rfl (fun t ht hW => ⟨1, rfl, by rw [b01_t ⟨c1, c2⟩], ht⟩) (fun q h => nomatch h) d_M_within_15 hlocks
set_option maxHeartbeats 4000000 in
set_option maxRecDepth 100000 in
theorem k_M_isFar (l : Launch) (D : va_G) (E : ClassId × ClassId × ClassId × ClassId) (v : Int32) : Met l y_M_isFar (.code y_M_isFar c_M_isFar 1 (some .boolean) :: gw) ({ frames := 1, cells := 0, slots := 0, locals := 22 } : Room) (rP D E [] [.int v]) (vp_Si (fun r => r = b01 (mw_far v))) 0 0 (fun _ => False) := by
  refine rd_ofW (by decide) (Nat.le_of_ble_eq_true rfl) ?_
  intro p e s m below meth c B hP hK ls hl
  obtain ⟨hx, hb, hrt, hml, hown, hts, hG, hlocks, hin⟩ := B
  have hl : lv_has ls 1 [(0, .int v)] := hl
  refine lv_iload_n hx hb d_M_isFar_0 rfl (lv_at hl 0 rfl) ?_
  refine lv_ldc hx hb hown (hG _ wd_734) d_M_isFar_1 ?_
  refine lv_ldc hx hb hown (hG _ wd_735) d_M_isFar_3 ?_
  have hPc := hP.sub (ws' := []) [] rfl
  refine vp_callSi (W.runS (As := [.int v, .int (-500000000), .int 500000000]) (rest := []) ⟨hx, hb, hml, hown, hts⟩ (k_M_within l D E v (-500000000) 500000000) (va_cwS 3 hts (gw_gs wd_736 wd_737 wd_42 wd_738) rfl rfl rfl (by decide +kernel) ⟨Nat.le_of_ble_eq_true rfl, Nat.le_of_ble_eq_true rfl⟩) (rP_S hPc hK) rfl rfl hl.1 rfl (lv_room (Nat.le_of_ble_eq_true rfl)) d_M_isFar_5 ⟨Nat.le_of_ble_eq_true rfl, Nat.le_of_ble_eq_true rfl⟩) (fun r1 hr1 => ?_)
  refine lv_if_ne (tgt := 15) hx hb d_M_isFar_8 (by decide) (fun c1 => ?_) (fun c1 => ?_)
  · rw [hr1] at c1
    refine lv_iconst (v := 0) hx hb d_M_isFar_15 (by decide) ?_
    exact W.zret (v := 0) (ty := .boolean) hx hb hrt rfl (fun t ht hW => ⟨0, rfl, by rw [b01_f]; intro h; exact h (b01_1 c1), ht⟩) (fun q h => nomatch h) d_M_isFar_16 hlocks
  · rw [hr1] at c1
    refine lv_iconst (v := 1) hx hb d_M_isFar_11 (by decide) ?_
    refine lv_goto (tgt := 16) hx hb d_M_isFar_12 (by decide) ?_
    exact W.zret (v := 1) (ty := .boolean) hx hb hrt rfl (fun t ht hW => ⟨1, rfl, by rw [b01_t]; exact fun h => absurd c1 (by rw [b01_t h]; decide), ht⟩) (fun q h => nomatch h) d_M_isFar_16 hlocks
set_option maxHeartbeats 4000000 in
set_option maxRecDepth 100000 in
theorem k_M_isSegment (l : Launch) (D : va_G) (E : ClassId × ClassId × ClassId × ClassId) (h0 : Nat) (ad : Nat → Nat) (th sg sn hot pc cx cy : Int32) (fo fv to tv : Int64) (fi ti : Int32) (v : Int32) : Met l y_M_isSegment (.code y_M_isSegment c_M_isSegment 2 (some .boolean) :: gw) ({ frames := 1, cells := 0, slots := 0, locals := 22 } : Room) (rP D E [(h0, .inr (3, mF ad th sg sn hot pc cx cy fo fv to tv fi ti))] [.ref h0, .int v]) (vp_Si (fun r => r = b01 (mw_in v 0 (sg - 1)))) 0 0 (fun _ => False) := by
  refine rd_ofW (by decide) (Nat.le_of_ble_eq_true rfl) ?_
  intro p e s m below meth c B hP hK ls hl
  obtain ⟨hx, hb, hrt, hml, hown, hts, hG, hlocks, hin⟩ := B
  have hl : lv_has ls 2 [(0, .ref h0), (1, .int v)] := hl
  refine lv_iload_n hx hb d_M_isSegment_0 rfl (lv_at hl 1 rfl) ?_
  refine lv_iconst (v := 0) hx hb d_M_isSegment_1 (by decide) ?_
  refine lv_aload_n hx hb d_M_isSegment_2 rfl (lv_at hl 0 rfl) ?_
  refine va_get (D := D) (ci := 3) (v := .int sg) (C := K_M) (T := F_M) (N := 24) hx hb hG in_M hown hK.1 hP 0 rfl rfl 1 (by decide) (hG _ wd_649) (fun _ h9 => h9) rfl d_M_isSegment_3 ?_
  refine lv_iconst (v := 1) hx hb d_M_isSegment_6 (by decide) ?_
  refine lv_isub hx hb d_M_isSegment_7 ?_
  have hPc := hP.sub (ws' := []) [] rfl
  refine vp_callSi (W.runS (As := [.int v, .int 0, .int (sg - 1)]) (rest := []) ⟨hx, hb, hml, hown, hts⟩ (k_M_within l D E v 0 (sg - 1)) (va_cwS 3 hts (gw_gs wd_736 wd_737 wd_42 wd_738) rfl rfl rfl (by decide +kernel) ⟨Nat.le_of_ble_eq_true rfl, Nat.le_of_ble_eq_true rfl⟩) (rP_S hPc hK) rfl rfl hl.1 rfl (lv_room (Nat.le_of_ble_eq_true rfl)) d_M_isSegment_8 ⟨Nat.le_of_ble_eq_true rfl, Nat.le_of_ble_eq_true rfl⟩) (fun r1 hr1 => ?_)
  subst hr1
  exact W.zret (v := (b01 (mw_in v 0 (sg - 1)))) (ty := .boolean) hx hb hrt (b01_n _) (fun t ht hW => ⟨(b01 (mw_in v 0 (sg - 1))), rfl, rfl, ht⟩) (fun q h => nomatch h) d_M_isSegment_11 hlocks
set_option maxHeartbeats 4000000 in
set_option maxRecDepth 100000 in
theorem k_M_thrown (l : Launch) (D : va_G) (E : ClassId × ClassId × ClassId × ClassId) (h0 : Nat) (ad : Nat → Nat) (th sg sn hot pc cx cy : Int32) (fo fv to tv : Int64) (fi ti : Int32) : Met l y_M_thrown (.code y_M_thrown c_M_thrown 1 (some .int) :: gw) ({ frames := 0, cells := 0, slots := 0, locals := 0 } : Room) (rP D E [(h0, .inr (3, mF ad th sg sn hot pc cx cy fo fv to tv fi ti))] [.ref h0]) (vp_Si (fun r => r = th)) 0 0 (fun _ => False) := by
  refine rd_ofW (by decide) (Nat.le_of_ble_eq_true rfl) ?_
  intro p e s m below meth c B hP hK ls hl
  obtain ⟨hx, hb, hrt, hml, hown, hts, hG, hlocks, hin⟩ := B
  have hl : lv_has ls 1 [(0, .ref h0)] := hl
  refine lv_aload_n hx hb d_M_thrown_0 rfl (lv_at hl 0 rfl) ?_
  refine va_get (D := D) (ci := 3) (v := .int th) (C := K_M) (T := F_M) (N := 24) hx hb hG in_M hown hK.1 hP 0 rfl rfl 0 (by decide) (hG _ wd_648) (fun _ h9 => h9) rfl d_M_thrown_1 ?_
  exact W.iret (v := th) hx hb hrt (fun t ht hW => ⟨th, rfl, rfl, ht⟩) (fun q h => nomatch h) d_M_thrown_4 hlocks
set_option maxHeartbeats 4000000 in
set_option maxRecDepth 100000 in
theorem k_M_fail (l : Launch) (D : va_G) (E : ClassId × ClassId × ClassId × ClassId) (h0 sz : Nat) (ad : Nat → Nat) (th sg sn hot pc cx cy : Int32) (fo fv to tv : Int64) (fi ti : Int32) (k : Int32) : Met l y_M_fail (.code y_M_fail c_M_fail 2 (some .int) :: gw) ({ frames := 0, cells := 0, slots := 0, locals := 0 } : Room) (wP D E [(h0, .inr (3, mF ad th sg sn hot pc cx cy fo fv to tv fi ti))] sz [.ref h0, .int k]) (va_Qi (fun (r : Int32) (u : Unit) => r = 0) (wB D (fun _ => [(h0, .inr (3, mF ad k sg sn hot pc cx cy fo fv to tv fi ti))]) (va_A [(h0, .inr (3, mF ad th sg sn hot pc cx cy fo fv to tv fi ti))] sz)) (va_A [(h0, .inr (3, mF ad th sg sn hot pc cx cy fo fv to tv fi ti))] sz)) 0 0 (va_A [(h0, .inr (3, mF ad th sg sn hot pc cx cy fo fv to tv fi ti))] sz) := by
  refine wr_ofW (Qc := fun A => (va_Qi (fun (r : Int32) (u : Unit) => r = 0) (wB D (fun _ => [(h0, .inr (3, mF ad k sg sn hot pc cx cy fo fv to tv fi ti))]) A) A)) (by decide) (Nat.le_of_ble_eq_true rfl) ?_
  intro p e s m below meth c B hP hK A hA hD hS ls hl
  obtain ⟨hx, hb, hrt, hml, hown, hts, hG, hlocks, hin⟩ := B
  have hl : lv_has ls 2 [(0, .ref h0), (1, .int k)] := hl
  refine lv_aload_n hx hb d_M_fail_0 rfl (lv_at hl 0 rfl) ?_
  refine lv_iload_n hx hb d_M_fail_1 rfl (lv_at hl 1 rfl) ?_
  refine va_put (D := D) (ci := 3) (v := .int k) (ty := .int) (C := K_M) (T := F_M) (N := 24) hx hb hG in_M t_M t_M_ok n_M hown hK.1 hP hD hS 0 rfl rfl 0 (by decide) (hG _ wd_648) (fun _ h9 => h9) rfl (by decide +kernel) rfl rfl (Nat.le_of_ble_eq_true rfl) d_M_fail_2 (fun H locs hP hD hS => ?_)
  have hP : va_P D vwC [(h0, .inr (3, mF ad k sg sn hot pc cx cy fo fv to tv fi ti))] H := hP
  have hD : va_D A [(h0, .inr (3, mF ad k sg sn hot pc cx cy fo fv to tv fi ti))] := hD
  refine lv_iconst (v := 0) hx hb d_M_fail_5 (by decide) ?_
  exact W.iret (v := 0) hx hb hrt (fun t ht hW => ⟨⟨0, (), rfl, rfl, ⟨by rw [ht]; exact hP, hD⟩⟩, hS.F ht⟩) hS.2.2 d_M_fail_6 hlocks
set_option maxHeartbeats 4000000 in
set_option maxRecDepth 100000 in
theorem k_M_compare (l : Launch) (D : va_G) (E : ClassId × ClassId × ClassId × ClassId) (a b x d : Int64) : Met l y_M_compare (.code y_M_compare c_M_compare 12 (some .int) :: gw) ({ frames := 0, cells := 0, slots := 0, locals := 0 } : Room) (rP D E [] [.long a, .long b, .long x, .long d]) (vp_Si (fun r => r = mr_cmp a b x d)) 0 0 (fun _ => False) := by
  refine rd_ofW (by decide) (Nat.le_of_ble_eq_true rfl) ?_
  intro p e s m below meth c B hP hK ls hl
  obtain ⟨hx, hb, hrt, hml, hown, hts, hG, hlocks, hin⟩ := B
  have hl : lv_has ls 12 [(0, .long a), (2, .long b), (4, .long x), (6, .long d)] := hl
  refine lv_lload_n hx hb d_M_compare_0 rfl (lv_at hl 0 rfl) ?_
  refine lv_lload hx hb d_M_compare_1 (lv_at hl 3 rfl) ?_
  refine lv_lmul hx hb d_M_compare_3 ?_
  refine lv_lstore (lv' := [(8, .long (a * d)), (0, .long a), (2, .long b), (4, .long x), (6, .long d)]) hx hb d_M_compare_4 hl (by decide) rfl (fun ls hl => ?_)
  refine lv_lload hx hb d_M_compare_6 (lv_at hl 3 rfl) ?_
  refine lv_lload_n hx hb d_M_compare_8 rfl (lv_at hl 2 rfl) ?_
  refine lv_lmul hx hb d_M_compare_9 ?_
  refine lv_lstore (lv' := [(10, .long (x * b)), (8, .long (a * d)), (0, .long a), (2, .long b), (4, .long x), (6, .long d)]) hx hb d_M_compare_10 hl (by decide) rfl (fun ls hl => ?_)
  refine lv_lload hx hb d_M_compare_12 (lv_at hl 1 rfl) ?_
  refine lv_lload hx hb d_M_compare_14 (lv_at hl 0 rfl) ?_
  refine W.lcmp hx hb d_M_compare_16 ?_
  refine lv_if_ge (tgt := 24) hx hb d_M_compare_17 (by decide) (fun c1 => ?_) (fun c1 => ?_)
  · refine lv_lload hx hb d_M_compare_24 (lv_at hl 1 rfl) ?_
    refine lv_lload hx hb d_M_compare_26 (lv_at hl 0 rfl) ?_
    refine W.lcmp hx hb d_M_compare_28 ?_
    refine lv_if_le (tgt := 36) hx hb d_M_compare_29 (by decide) (fun c2 => ?_) (fun c2 => ?_)
    · refine lv_iconst (v := 0) hx hb d_M_compare_36 (by decide) ?_
      exact W.iret (v := 0) hx hb hrt (fun t ht hW => ⟨0, rfl, by rw [mr_cmp, if_neg (lg_ge.mp c1), if_neg (lg_le.mp c2)], ht⟩) (fun q h => nomatch h) d_M_compare_37 hlocks
    · refine lv_iconst (v := 1) hx hb d_M_compare_32 (by decide) ?_
      refine lv_goto (tgt := 37) hx hb d_M_compare_33 (by decide) ?_
      exact W.iret (v := 1) hx hb hrt (fun t ht hW => ⟨1, rfl, by rw [mr_cmp, if_neg (lg_ge.mp c1), if_pos (lg_le' c2)], ht⟩) (fun q h => nomatch h) d_M_compare_37 hlocks
  · refine lv_iconst (v := (-1)) hx hb d_M_compare_20 (by decide) ?_
    refine lv_goto (tgt := 37) hx hb d_M_compare_21 (by decide) ?_
    exact W.iret (v := (-1)) hx hb hrt (fun t ht hW => ⟨(-1), rfl, by rw [mr_cmp, if_pos (lg_ge' c1)], ht⟩) (fun q h => nomatch h) d_M_compare_37 hlocks
/-- the interval's begin raised to o / u, its end reduced to it -/
def mr_up (o u : Int64) (i : Int32) (s : Int64 × Int64 × Int32) : Int64 × Int64 × Int32 :=
  if 0 < mr_cmp o u s.1 s.2.1 ∨ (mr_cmp o u s.1 s.2.1 = 0 ∧ ¬ s.2.2 = 0) then (o, u, b01 (¬ i = 0 ∧ (0 < mr_cmp o u s.1 s.2.1 ∨ ¬ s.2.2 = 0))) else s
def mr_dn (o u : Int64) (i : Int32) (s : Int64 × Int64 × Int32) : Int64 × Int64 × Int32 :=
  if mr_cmp o u s.1 s.2.1 < 0 ∨ (mr_cmp o u s.1 s.2.1 = 0 ∧ ¬ s.2.2 = 0) then (o, u, b01 (¬ i = 0 ∧ (mr_cmp o u s.1 s.2.1 < 0 ∨ ¬ s.2.2 = 0))) else s
set_option maxHeartbeats 4000000 in
set_option maxRecDepth 100000 in
theorem k_M_raise (l : Launch) (D : va_G) (E : ClassId × ClassId × ClassId × ClassId) (h0 sz : Nat) (ad : Nat → Nat) (th sg sn hot pc cx cy : Int32) (fo fv to tv : Int64) (fi ti : Int32) (o u : Int64) (i : Int32) : Met l y_M_raise (.code y_M_raise c_M_raise 7 none :: gw) ({ frames := 1, cells := 0, slots := 0, locals := 40 } : Room) (wP D E [(h0, .inr (3, mF ad th sg sn hot pc cx cy fo fv to tv fi ti))] sz [.ref h0, .long o, .long u, .int i]) (va_Qv (fun (u : Unit) => True) (wB D (fun _ => [(h0, .inr (3, mF ad th sg sn hot pc cx cy ((mr_up o u i (fo, fv, fi)).1) ((mr_up o u i (fo, fv, fi)).2.1) to tv ((mr_up o u i (fo, fv, fi)).2.2) ti))]) (va_A [(h0, .inr (3, mF ad th sg sn hot pc cx cy fo fv to tv fi ti))] sz)) (va_A [(h0, .inr (3, mF ad th sg sn hot pc cx cy fo fv to tv fi ti))] sz)) 0 0 (va_A [(h0, .inr (3, mF ad th sg sn hot pc cx cy fo fv to tv fi ti))] sz) := by
  refine wr_ofW (Qc := fun A => (va_Qv (fun (u : Unit) => True) (wB D (fun _ => [(h0, .inr (3, mF ad th sg sn hot pc cx cy ((mr_up o u i (fo, fv, fi)).1) ((mr_up o u i (fo, fv, fi)).2.1) to tv ((mr_up o u i (fo, fv, fi)).2.2) ti))]) A) A)) (by decide) (Nat.le_of_ble_eq_true rfl) ?_
  intro p e s m below meth c B hP hK A hA hD hS ls hl
  obtain ⟨hx, hb, hrt, hml, hown, hts, hG, hlocks, hin⟩ := B
  have hl : lv_has ls 7 [(0, .ref h0), (1, .long o), (3, .long u), (5, .int i)] := hl
  refine lv_lload_n hx hb d_M_raise_0 rfl (lv_at hl 1 rfl) ?_
  refine lv_lload_n hx hb d_M_raise_1 rfl (lv_at hl 2 rfl) ?_
  refine lv_aload_n hx hb d_M_raise_2 rfl (lv_at hl 0 rfl) ?_
  refine va_get (D := D) (ci := 3) (v := .long fo) (C := K_M) (T := F_M) (N := 24) hx hb hG in_M hown hK.1 hP 0 rfl rfl 15 (by decide) (hG _ wd_663) (fun _ h9 => h9) rfl d_M_raise_3 ?_
  refine lv_aload_n hx hb d_M_raise_6 rfl (lv_at hl 0 rfl) ?_
  refine va_get (D := D) (ci := 3) (v := .long fv) (C := K_M) (T := F_M) (N := 24) hx hb hG in_M hown hK.1 hP 0 rfl rfl 16 (by decide) (hG _ wd_664) (fun _ h9 => h9) rfl d_M_raise_7 ?_
  have hPc := hP.sub (ws' := []) [] rfl
  refine vp_callSi (W.runS (As := [.long o, .long u, .long fo, .long fv]) (rest := []) ⟨hx, hb, hml, hown, hts⟩ (k_M_compare l D E o u fo fv) (va_cwS 4 hts (gw_gs wd_772 wd_773 wd_42 wd_774) rfl rfl rfl (by decide +kernel) ⟨Nat.le_of_ble_eq_true rfl, Nat.le_of_ble_eq_true rfl⟩) (rP_S hPc hK) rfl rfl hl.1 rfl (lv_room (Nat.le_of_ble_eq_true rfl)) d_M_raise_10 ⟨Nat.le_of_ble_eq_true rfl, Nat.le_of_ble_eq_true rfl⟩) (fun cc hcc => ?_)
  refine lv_istore (lv' := [(6, .int cc), (0, .ref h0), (1, .long o), (3, .long u), (5, .int i)]) hx hb d_M_raise_13 hl (by decide) rfl (fun ls hl => ?_)
  have hU : (mr_up o u i (fo, fv, fi)) = if 0 < cc ∨ (cc = 0 ∧ ¬ fi = 0) then (o, u, b01 (¬ i = 0 ∧ (0 < cc ∨ ¬ fi = 0))) else (fo, fv, fi) := by rw [mr_up, hcc]
  have J : ∀ (b : Int32) (ls : Array Slot), (0 < cc ∨ (cc = 0 ∧ ¬ fi = 0)) → (b = b01 (¬ i = 0 ∧ (0 < cc ∨ ¬ fi = 0))) → lv_has ls 7 [(0, .ref h0), (1, .long o), (3, .long u), (5, .int i), (6, .int cc)] → W p l e ({ frames := 1, cells := 0, slots := 0, locals := 40 } : Room) s m ([.ref h0, .long o, .long u, .int i] : List Value).toArray below meth c s.heap [] 0 0 (MQ below (va_Qv (fun (u : Unit) => True) (wB D (fun _ => [(h0, .inr (3, mF ad th sg sn hot pc cx cy ((mr_up o u i (fo, fv, fi)).1) ((mr_up o u i (fo, fv, fi)).2.1) to tv ((mr_up o u i (fo, fv, fi)).2.2) ti))]) A) A) ([.ref h0, .long o, .long u, .int i] : List Value).toArray s 0 0 A) (F0 m 55 ls [.int b, .ref h0]) := by
    intro b ls hc hbb hl
    rw [if_pos hc, ← hbb] at hU
    refine va_put (D := D) (ci := 3) (v := .int b) (ty := .boolean) (C := K_M) (T := F_M) (N := 24) hx hb hG in_M t_M t_M_ok n_M hown hK.1 hP hD hS 0 rfl rfl 19 (by decide) (hG _ wd_667) (fun _ h9 => h9) rfl (by decide +kernel) (z_n (hbb ▸ b01_z _)) (z_f (hbb ▸ b01_z _)) (Nat.le_of_ble_eq_true rfl) d_M_raise_55 (fun H locs hP hD hS => ?_)
    have hP : va_P D vwC [(h0, .inr (3, mF ad th sg sn hot pc cx cy fo fv to tv b ti))] H := hP
    have hD : va_D A [(h0, .inr (3, mF ad th sg sn hot pc cx cy fo fv to tv b ti))] := hD
    refine lv_aload_n hx hb d_M_raise_58 rfl (lv_at hl 0 rfl) ?_
    refine lv_lload_n hx hb d_M_raise_59 rfl (lv_at hl 1 rfl) ?_
    refine va_put (D := D) (ci := 3) (v := .long o) (ty := .long) (C := K_M) (T := F_M) (N := 24) hx hb hG in_M t_M t_M_ok n_M hown hK.1 hP hD hS 0 rfl rfl 15 (by decide) (hG _ wd_663) (fun _ h9 => h9) rfl (by decide +kernel) rfl rfl (Nat.le_of_ble_eq_true rfl) d_M_raise_60 (fun H locs hP hD hS => ?_)
    have hP : va_P D vwC [(h0, .inr (3, mF ad th sg sn hot pc cx cy o fv to tv b ti))] H := hP
    have hD : va_D A [(h0, .inr (3, mF ad th sg sn hot pc cx cy o fv to tv b ti))] := hD
    refine lv_aload_n hx hb d_M_raise_63 rfl (lv_at hl 0 rfl) ?_
    refine lv_lload_n hx hb d_M_raise_64 rfl (lv_at hl 2 rfl) ?_
    refine va_put (D := D) (ci := 3) (v := .long u) (ty := .long) (C := K_M) (T := F_M) (N := 24) hx hb hG in_M t_M t_M_ok n_M hown hK.1 hP hD hS 0 rfl rfl 16 (by decide) (hG _ wd_664) (fun _ h9 => h9) rfl (by decide +kernel) rfl rfl (Nat.le_of_ble_eq_true rfl) d_M_raise_65 (fun H locs hP hD hS => ?_)
    have hP : va_P D vwC [(h0, .inr (3, mF ad th sg sn hot pc cx cy o u to tv b ti))] H := hP
    have hD : va_D A [(h0, .inr (3, mF ad th sg sn hot pc cx cy o u to tv b ti))] := hD
    rw [hU]
    exact W.vret hx hb hrt (fun t ht hW => ⟨⟨(), rfl, trivial, ⟨by rw [ht]; exact hP, hD⟩⟩, hS.F ht⟩) hS.2.2 d_M_raise_68 hlocks
  have J2 : ∀ (ls : Array Slot), (0 < cc ∨ (cc = 0 ∧ ¬ fi = 0)) → lv_has ls 7 [(0, .ref h0), (1, .long o), (3, .long u), (5, .int i), (6, .int cc)] → W p l e ({ frames := 1, cells := 0, slots := 0, locals := 40 } : Room) s m ([.ref h0, .long o, .long u, .int i] : List Value).toArray below meth c s.heap [] 0 0 (MQ below (va_Qv (fun (u : Unit) => True) (wB D (fun _ => [(h0, .inr (3, mF ad th sg sn hot pc cx cy ((mr_up o u i (fo, fv, fi)).1) ((mr_up o u i (fo, fv, fi)).2.1) to tv ((mr_up o u i (fo, fv, fi)).2.2) ti))]) A) A) ([.ref h0, .long o, .long u, .int i] : List Value).toArray s 0 0 A) (F0 m 32 ls []) := by
    intro ls hc hl
    refine lv_aload_n hx hb d_M_raise_32 rfl (lv_at hl 0 rfl) ?_
    refine lv_iload hx hb d_M_raise_33 (lv_at hl 3 rfl) ?_
    refine lv_if_eq (tgt := 54) hx hb d_M_raise_35 (by decide) (fun d1 => ?_) (fun d1 => ?_)
    · refine lv_iconst (v := 0) hx hb d_M_raise_54 (by decide) ?_
      exact J 0 ls hc (b01_f (fun h => h.1 d1)).symm (lv_sub hl [0, 1, 2, 3, 4] rfl)
    · refine lv_iload hx hb d_M_raise_38 (lv_at hl 4 rfl) ?_
      refine lv_if_gt (tgt := 50) hx hb d_M_raise_40 (by decide) (fun d2 => ?_) (fun d2 => ?_)
      · refine lv_iconst (v := 1) hx hb d_M_raise_50 (by decide) ?_
        refine lv_goto (tgt := 55) hx hb d_M_raise_51 (by decide) ?_
        exact J 1 ls hc (b01_t ⟨d1, Or.inl d2⟩).symm (lv_sub hl [0, 1, 2, 3, 4] rfl)
      · refine lv_aload_n hx hb d_M_raise_43 rfl (lv_at hl 0 rfl) ?_
        refine va_get (D := D) (ci := 3) (v := .int fi) (C := K_M) (T := F_M) (N := 24) hx hb hG in_M hown hK.1 hP 0 rfl rfl 19 (by decide) (hG _ wd_667) (fun _ h9 => h9) rfl d_M_raise_44 ?_
        refine lv_if_eq (tgt := 54) hx hb d_M_raise_47 (by decide) (fun d3 => ?_) (fun d3 => ?_)
        · refine lv_iconst (v := 0) hx hb d_M_raise_54 (by decide) ?_
          exact J 0 ls hc (b01_f (fun h => h.2.elim d2 (fun g => g d3))).symm (lv_sub hl [0, 1, 2, 3, 4] rfl)
        · refine lv_iconst (v := 1) hx hb d_M_raise_50 (by decide) ?_
          refine lv_goto (tgt := 55) hx hb d_M_raise_51 (by decide) ?_
          exact J 1 ls hc (b01_t ⟨d1, Or.inr d3⟩).symm (lv_sub hl [0, 1, 2, 3, 4] rfl)
  refine lv_iload hx hb d_M_raise_15 (lv_at hl 0 rfl) ?_
  refine lv_if_gt (tgt := 32) hx hb d_M_raise_17 (by decide) (fun c1 => ?_) (fun c1 => ?_)
  · exact J2 ls (Or.inl c1) (lv_sub hl [1, 2, 3, 4, 0] rfl)
  · refine lv_iload hx hb d_M_raise_20 (lv_at hl 0 rfl) ?_
    refine lv_if_ne (tgt := 68) hx hb d_M_raise_22 (by decide) (fun c2 => ?_) (fun c2 => ?_)
    · rw [if_neg (fun h => h.elim c1 (fun g => c2 g.1))] at hU
      rw [hU]
      exact W.vret hx hb hrt (fun t ht hW => ⟨⟨(), rfl, trivial, ⟨by rw [ht]; exact hP, hD⟩⟩, hS.F ht⟩) hS.2.2 d_M_raise_68 hlocks
    · refine lv_aload_n hx hb d_M_raise_25 rfl (lv_at hl 1 rfl) ?_
      refine va_get (D := D) (ci := 3) (v := .int fi) (C := K_M) (T := F_M) (N := 24) hx hb hG in_M hown hK.1 hP 0 rfl rfl 19 (by decide) (hG _ wd_667) (fun _ h9 => h9) rfl d_M_raise_26 ?_
      refine lv_if_eq (tgt := 68) hx hb d_M_raise_29 (by decide) (fun c3 => ?_) (fun c3 => ?_)
      · rw [if_neg (fun h => h.elim c1 (fun g => g.2 c3))] at hU
        rw [hU]
        exact W.vret hx hb hrt (fun t ht hW => ⟨⟨(), rfl, trivial, ⟨by rw [ht]; exact hP, hD⟩⟩, hS.F ht⟩) hS.2.2 d_M_raise_68 hlocks
      · exact J2 ls (Or.inr ⟨c2, c3⟩) (lv_sub hl [1, 2, 3, 4, 0] rfl)
set_option maxHeartbeats 4000000 in
set_option maxRecDepth 100000 in
theorem k_M_reduce (l : Launch) (D : va_G) (E : ClassId × ClassId × ClassId × ClassId) (h0 sz : Nat) (ad : Nat → Nat) (th sg sn hot pc cx cy : Int32) (fo fv to tv : Int64) (fi ti : Int32) (o u : Int64) (i : Int32) : Met l y_M_reduce (.code y_M_reduce c_M_reduce 7 none :: gw) ({ frames := 1, cells := 0, slots := 0, locals := 40 } : Room) (wP D E [(h0, .inr (3, mF ad th sg sn hot pc cx cy fo fv to tv fi ti))] sz [.ref h0, .long o, .long u, .int i]) (va_Qv (fun (u : Unit) => True) (wB D (fun _ => [(h0, .inr (3, mF ad th sg sn hot pc cx cy fo fv ((mr_dn o u i (to, tv, ti)).1) ((mr_dn o u i (to, tv, ti)).2.1) fi ((mr_dn o u i (to, tv, ti)).2.2)))]) (va_A [(h0, .inr (3, mF ad th sg sn hot pc cx cy fo fv to tv fi ti))] sz)) (va_A [(h0, .inr (3, mF ad th sg sn hot pc cx cy fo fv to tv fi ti))] sz)) 0 0 (va_A [(h0, .inr (3, mF ad th sg sn hot pc cx cy fo fv to tv fi ti))] sz) := by
  refine wr_ofW (Qc := fun A => (va_Qv (fun (u : Unit) => True) (wB D (fun _ => [(h0, .inr (3, mF ad th sg sn hot pc cx cy fo fv ((mr_dn o u i (to, tv, ti)).1) ((mr_dn o u i (to, tv, ti)).2.1) fi ((mr_dn o u i (to, tv, ti)).2.2)))]) A) A)) (by decide) (Nat.le_of_ble_eq_true rfl) ?_
  intro p e s m below meth c B hP hK A hA hD hS ls hl
  obtain ⟨hx, hb, hrt, hml, hown, hts, hG, hlocks, hin⟩ := B
  have hl : lv_has ls 7 [(0, .ref h0), (1, .long o), (3, .long u), (5, .int i)] := hl
  refine lv_lload_n hx hb d_M_reduce_0 rfl (lv_at hl 1 rfl) ?_
  refine lv_lload_n hx hb d_M_reduce_1 rfl (lv_at hl 2 rfl) ?_
  refine lv_aload_n hx hb d_M_reduce_2 rfl (lv_at hl 0 rfl) ?_
  refine va_get (D := D) (ci := 3) (v := .long to) (C := K_M) (T := F_M) (N := 24) hx hb hG in_M hown hK.1 hP 0 rfl rfl 17 (by decide) (hG _ wd_665) (fun _ h9 => h9) rfl d_M_reduce_3 ?_
  refine lv_aload_n hx hb d_M_reduce_6 rfl (lv_at hl 0 rfl) ?_
  refine va_get (D := D) (ci := 3) (v := .long tv) (C := K_M) (T := F_M) (N := 24) hx hb hG in_M hown hK.1 hP 0 rfl rfl 18 (by decide) (hG _ wd_666) (fun _ h9 => h9) rfl d_M_reduce_7 ?_
  have hPc := hP.sub (ws' := []) [] rfl
  refine vp_callSi (W.runS (As := [.long o, .long u, .long to, .long tv]) (rest := []) ⟨hx, hb, hml, hown, hts⟩ (k_M_compare l D E o u to tv) (va_cwS 4 hts (gw_gs wd_772 wd_773 wd_42 wd_774) rfl rfl rfl (by decide +kernel) ⟨Nat.le_of_ble_eq_true rfl, Nat.le_of_ble_eq_true rfl⟩) (rP_S hPc hK) rfl rfl hl.1 rfl (lv_room (Nat.le_of_ble_eq_true rfl)) d_M_reduce_10 ⟨Nat.le_of_ble_eq_true rfl, Nat.le_of_ble_eq_true rfl⟩) (fun cc hcc => ?_)
  refine lv_istore (lv' := [(6, .int cc), (0, .ref h0), (1, .long o), (3, .long u), (5, .int i)]) hx hb d_M_reduce_13 hl (by decide) rfl (fun ls hl => ?_)
  have hU : (mr_dn o u i (to, tv, ti)) = if cc < 0 ∨ (cc = 0 ∧ ¬ ti = 0) then (o, u, b01 (¬ i = 0 ∧ (cc < 0 ∨ ¬ ti = 0))) else (to, tv, ti) := by rw [mr_dn, hcc]
  have J : ∀ (b : Int32) (ls : Array Slot), (cc < 0 ∨ (cc = 0 ∧ ¬ ti = 0)) → (b = b01 (¬ i = 0 ∧ (cc < 0 ∨ ¬ ti = 0))) → lv_has ls 7 [(0, .ref h0), (1, .long o), (3, .long u), (5, .int i), (6, .int cc)] → W p l e ({ frames := 1, cells := 0, slots := 0, locals := 40 } : Room) s m ([.ref h0, .long o, .long u, .int i] : List Value).toArray below meth c s.heap [] 0 0 (MQ below (va_Qv (fun (u : Unit) => True) (wB D (fun _ => [(h0, .inr (3, mF ad th sg sn hot pc cx cy fo fv ((mr_dn o u i (to, tv, ti)).1) ((mr_dn o u i (to, tv, ti)).2.1) fi ((mr_dn o u i (to, tv, ti)).2.2)))]) A) A) ([.ref h0, .long o, .long u, .int i] : List Value).toArray s 0 0 A) (F0 m 55 ls [.int b, .ref h0]) := by
    intro b ls hc hbb hl
    rw [if_pos hc, ← hbb] at hU
    refine va_put (D := D) (ci := 3) (v := .int b) (ty := .boolean) (C := K_M) (T := F_M) (N := 24) hx hb hG in_M t_M t_M_ok n_M hown hK.1 hP hD hS 0 rfl rfl 20 (by decide) (hG _ wd_668) (fun _ h9 => h9) rfl (by decide +kernel) (z_n (hbb ▸ b01_z _)) (z_f (hbb ▸ b01_z _)) (Nat.le_of_ble_eq_true rfl) d_M_reduce_55 (fun H locs hP hD hS => ?_)
    have hP : va_P D vwC [(h0, .inr (3, mF ad th sg sn hot pc cx cy fo fv to tv fi b))] H := hP
    have hD : va_D A [(h0, .inr (3, mF ad th sg sn hot pc cx cy fo fv to tv fi b))] := hD
    refine lv_aload_n hx hb d_M_reduce_58 rfl (lv_at hl 0 rfl) ?_
    refine lv_lload_n hx hb d_M_reduce_59 rfl (lv_at hl 1 rfl) ?_
    refine va_put (D := D) (ci := 3) (v := .long o) (ty := .long) (C := K_M) (T := F_M) (N := 24) hx hb hG in_M t_M t_M_ok n_M hown hK.1 hP hD hS 0 rfl rfl 17 (by decide) (hG _ wd_665) (fun _ h9 => h9) rfl (by decide +kernel) rfl rfl (Nat.le_of_ble_eq_true rfl) d_M_reduce_60 (fun H locs hP hD hS => ?_)
    have hP : va_P D vwC [(h0, .inr (3, mF ad th sg sn hot pc cx cy fo fv o tv fi b))] H := hP
    have hD : va_D A [(h0, .inr (3, mF ad th sg sn hot pc cx cy fo fv o tv fi b))] := hD
    refine lv_aload_n hx hb d_M_reduce_63 rfl (lv_at hl 0 rfl) ?_
    refine lv_lload_n hx hb d_M_reduce_64 rfl (lv_at hl 2 rfl) ?_
    refine va_put (D := D) (ci := 3) (v := .long u) (ty := .long) (C := K_M) (T := F_M) (N := 24) hx hb hG in_M t_M t_M_ok n_M hown hK.1 hP hD hS 0 rfl rfl 18 (by decide) (hG _ wd_666) (fun _ h9 => h9) rfl (by decide +kernel) rfl rfl (Nat.le_of_ble_eq_true rfl) d_M_reduce_65 (fun H locs hP hD hS => ?_)
    have hP : va_P D vwC [(h0, .inr (3, mF ad th sg sn hot pc cx cy fo fv o u fi b))] H := hP
    have hD : va_D A [(h0, .inr (3, mF ad th sg sn hot pc cx cy fo fv o u fi b))] := hD
    rw [hU]
    exact W.vret hx hb hrt (fun t ht hW => ⟨⟨(), rfl, trivial, ⟨by rw [ht]; exact hP, hD⟩⟩, hS.F ht⟩) hS.2.2 d_M_reduce_68 hlocks
  have J2 : ∀ (ls : Array Slot), (cc < 0 ∨ (cc = 0 ∧ ¬ ti = 0)) → lv_has ls 7 [(0, .ref h0), (1, .long o), (3, .long u), (5, .int i), (6, .int cc)] → W p l e ({ frames := 1, cells := 0, slots := 0, locals := 40 } : Room) s m ([.ref h0, .long o, .long u, .int i] : List Value).toArray below meth c s.heap [] 0 0 (MQ below (va_Qv (fun (u : Unit) => True) (wB D (fun _ => [(h0, .inr (3, mF ad th sg sn hot pc cx cy fo fv ((mr_dn o u i (to, tv, ti)).1) ((mr_dn o u i (to, tv, ti)).2.1) fi ((mr_dn o u i (to, tv, ti)).2.2)))]) A) A) ([.ref h0, .long o, .long u, .int i] : List Value).toArray s 0 0 A) (F0 m 32 ls []) := by
    intro ls hc hl
    refine lv_aload_n hx hb d_M_reduce_32 rfl (lv_at hl 0 rfl) ?_
    refine lv_iload hx hb d_M_reduce_33 (lv_at hl 3 rfl) ?_
    refine lv_if_eq (tgt := 54) hx hb d_M_reduce_35 (by decide) (fun d1 => ?_) (fun d1 => ?_)
    · refine lv_iconst (v := 0) hx hb d_M_reduce_54 (by decide) ?_
      exact J 0 ls hc (b01_f (fun h => h.1 d1)).symm (lv_sub hl [0, 1, 2, 3, 4] rfl)
    · refine lv_iload hx hb d_M_reduce_38 (lv_at hl 4 rfl) ?_
      refine lv_if_lt (tgt := 50) hx hb d_M_reduce_40 (by decide) (fun d2 => ?_) (fun d2 => ?_)
      · refine lv_iconst (v := 1) hx hb d_M_reduce_50 (by decide) ?_
        refine lv_goto (tgt := 55) hx hb d_M_reduce_51 (by decide) ?_
        exact J 1 ls hc (b01_t ⟨d1, Or.inl d2⟩).symm (lv_sub hl [0, 1, 2, 3, 4] rfl)
      · refine lv_aload_n hx hb d_M_reduce_43 rfl (lv_at hl 0 rfl) ?_
        refine va_get (D := D) (ci := 3) (v := .int ti) (C := K_M) (T := F_M) (N := 24) hx hb hG in_M hown hK.1 hP 0 rfl rfl 20 (by decide) (hG _ wd_668) (fun _ h9 => h9) rfl d_M_reduce_44 ?_
        refine lv_if_eq (tgt := 54) hx hb d_M_reduce_47 (by decide) (fun d3 => ?_) (fun d3 => ?_)
        · refine lv_iconst (v := 0) hx hb d_M_reduce_54 (by decide) ?_
          exact J 0 ls hc (b01_f (fun h => h.2.elim d2 (fun g => g d3))).symm (lv_sub hl [0, 1, 2, 3, 4] rfl)
        · refine lv_iconst (v := 1) hx hb d_M_reduce_50 (by decide) ?_
          refine lv_goto (tgt := 55) hx hb d_M_reduce_51 (by decide) ?_
          exact J 1 ls hc (b01_t ⟨d1, Or.inr d3⟩).symm (lv_sub hl [0, 1, 2, 3, 4] rfl)
  refine lv_iload hx hb d_M_reduce_15 (lv_at hl 0 rfl) ?_
  refine lv_if_lt (tgt := 32) hx hb d_M_reduce_17 (by decide) (fun c1 => ?_) (fun c1 => ?_)
  · exact J2 ls (Or.inl c1) (lv_sub hl [1, 2, 3, 4, 0] rfl)
  · refine lv_iload hx hb d_M_reduce_20 (lv_at hl 0 rfl) ?_
    refine lv_if_ne (tgt := 68) hx hb d_M_reduce_22 (by decide) (fun c2 => ?_) (fun c2 => ?_)
    · rw [if_neg (fun h => h.elim c1 (fun g => c2 g.1))] at hU
      rw [hU]
      exact W.vret hx hb hrt (fun t ht hW => ⟨⟨(), rfl, trivial, ⟨by rw [ht]; exact hP, hD⟩⟩, hS.F ht⟩) hS.2.2 d_M_reduce_68 hlocks
    · refine lv_aload_n hx hb d_M_reduce_25 rfl (lv_at hl 1 rfl) ?_
      refine va_get (D := D) (ci := 3) (v := .int ti) (C := K_M) (T := F_M) (N := 24) hx hb hG in_M hown hK.1 hP 0 rfl rfl 20 (by decide) (hG _ wd_668) (fun _ h9 => h9) rfl d_M_reduce_26 ?_
      refine lv_if_eq (tgt := 68) hx hb d_M_reduce_29 (by decide) (fun c3 => ?_) (fun c3 => ?_)
      · rw [if_neg (fun h => h.elim c1 (fun g => g.2 c3))] at hU
        rw [hU]
        exact W.vret hx hb hrt (fun t ht hW => ⟨⟨(), rfl, trivial, ⟨by rw [ht]; exact hP, hD⟩⟩, hS.F ht⟩) hS.2.2 d_M_reduce_68 hlocks
      · exact J2 ls (Or.inr ⟨c2, c3⟩) (lv_sub hl [1, 2, 3, 4, 0] rfl)
end
