theorem d_R_drop_0 : decode c_R_drop 0 = .ok (.aload_n 0, 1) := by decide +kernel
theorem d_R_drop_1 : decode c_R_drop 1 = .ok (.iconst 0, 1) := by decide +kernel
theorem d_R_drop_2 : decode c_R_drop 2 = .ok (.putfield 19, 3) := by decide +kernel
theorem d_R_drop_5 : decode c_R_drop 5 = .ok (.return_, 1) := by decide +kernel
theorem d_R_firstFrom_0 : decode c_R_firstFrom 0 = .ok (.iconst 0, 1) := by decide +kernel
theorem d_R_firstFrom_1 : decode c_R_firstFrom 1 = .ok (.istore_n 3, 1) := by decide +kernel
theorem d_R_firstFrom_2 : decode c_R_firstFrom 2 = .ok (.aload_n 0, 1) := by decide +kernel
theorem d_R_firstFrom_3 : decode c_R_firstFrom 3 = .ok (.getfield 19, 3) := by decide +kernel
theorem d_R_firstFrom_6 : decode c_R_firstFrom 6 = .ok (.istore 4, 2) := by decide +kernel
theorem d_R_firstFrom_8 : decode c_R_firstFrom 8 = .ok (.iload_n 3, 1) := by decide +kernel
theorem d_R_firstFrom_9 : decode c_R_firstFrom 9 = .ok (.iload 4, 2) := by decide +kernel
theorem d_R_firstFrom_11 : decode c_R_firstFrom 11 = .ok (.if_icmp .ge 38, 3) := by decide +kernel
theorem d_R_firstFrom_14 : decode c_R_firstFrom 14 = .ok (.iload_n 3, 1) := by decide +kernel
theorem d_R_firstFrom_15 : decode c_R_firstFrom 15 = .ok (.iload 4, 2) := by decide +kernel
theorem d_R_firstFrom_17 : decode c_R_firstFrom 17 = .ok (.iadd, 1) := by decide +kernel
theorem d_R_firstFrom_18 : decode c_R_firstFrom 18 = .ok (.iconst 2, 1) := by decide +kernel
theorem d_R_firstFrom_19 : decode c_R_firstFrom 19 = .ok (.idiv, 1) := by decide +kernel
theorem d_R_firstFrom_20 : decode c_R_firstFrom 20 = .ok (.istore 5, 2) := by decide +kernel
theorem d_R_firstFrom_22 : decode c_R_firstFrom 22 = .ok (.aload_n 0, 1) := by decide +kernel
theorem d_R_firstFrom_23 : decode c_R_firstFrom 23 = .ok (.getfield 15, 3) := by decide +kernel
theorem d_R_firstFrom_26 : decode c_R_firstFrom 26 = .ok (.iload 5, 2) := by decide +kernel
theorem d_R_firstFrom_28 : decode c_R_firstFrom 28 = .ok (.laload, 1) := by decide +kernel
theorem d_R_firstFrom_29 : decode c_R_firstFrom 29 = .ok (.lload_n 1, 1) := by decide +kernel
theorem d_R_firstFrom_30 : decode c_R_firstFrom 30 = .ok (.lcmp, 1) := by decide +kernel
theorem d_R_firstFrom_31 : decode c_R_firstFrom 31 = .ok (.ifCond .ge 11, 3) := by decide +kernel
theorem d_R_firstFrom_34 : decode c_R_firstFrom 34 = .ok (.iload 5, 2) := by decide +kernel
theorem d_R_firstFrom_36 : decode c_R_firstFrom 36 = .ok (.iconst 1, 1) := by decide +kernel
theorem d_R_firstFrom_37 : decode c_R_firstFrom 37 = .ok (.iadd, 1) := by decide +kernel
theorem d_R_firstFrom_38 : decode c_R_firstFrom 38 = .ok (.istore_n 3, 1) := by decide +kernel
theorem d_R_firstFrom_39 : decode c_R_firstFrom 39 = .ok (.goto 7, 3) := by decide +kernel
theorem d_R_firstFrom_42 : decode c_R_firstFrom 42 = .ok (.iload 5, 2) := by decide +kernel
theorem d_R_firstFrom_44 : decode c_R_firstFrom 44 = .ok (.istore 4, 2) := by decide +kernel
theorem d_R_firstFrom_46 : decode c_R_firstFrom 46 = .ok (.goto (-38), 3) := by decide +kernel
theorem d_R_firstFrom_49 : decode c_R_firstFrom 49 = .ok (.iload_n 3, 1) := by decide +kernel
theorem d_R_firstFrom_50 : decode c_R_firstFrom 50 = .ok (.ireturn, 1) := by decide +kernel
theorem nI_half {a b : Nat} (h : a + b < 2 ^ 31) : (nI a + nI b) / 2 = nI ((a + b) / 2) := by
  rw [nI_add]
  exact pk_div (d := 2) h (by decide) (by decide)
theorem lg_lt {x y : Int64} : lg_cmp x y < 0 ↔ x < y := by
  unfold lg_cmp
  by_cases h1 : y < x
  · rw [if_pos h1]
    refine ⟨fun h => absurd h (by decide), fun h => ?_⟩
    rw [Int64.lt_iff_toInt_lt] at h h1
    omega
  · rw [if_neg h1]
    by_cases h2 : x = y
    · rw [if_pos h2]
      refine ⟨fun h => absurd h (by decide), fun h => ?_⟩
      rw [h2] at h
      rw [Int64.lt_iff_toInt_lt] at h
      omega
    · rw [if_neg h2]
      refine ⟨fun _ => ?_, fun _ => by decide⟩
      rw [Int64.lt_iff_toInt_lt] at h1 ⊢
      have : x.toInt ≠ y.toInt := fun z => h2 (Int64.toInt.inj z)
      omega
theorem lg_gt {x y : Int64} : 0 < lg_cmp x y ↔ y < x := by
  unfold lg_cmp
  by_cases h1 : y < x
  · rw [if_pos h1]
    exact ⟨fun _ => h1, fun _ => by decide⟩
  · rw [if_neg h1]
    by_cases h2 : x = y
    · rw [if_pos h2]
      exact ⟨fun h => absurd h (by decide), fun h => absurd h h1⟩
    · rw [if_neg h2]
      exact ⟨fun h => absurd h (by decide), fun h => absurd h h1⟩
theorem lg_eq {x y : Int64} : lg_cmp x y = 0 ↔ x = y := by
  unfold lg_cmp
  by_cases h1 : y < x
  · rw [if_pos h1]
    refine ⟨fun h => absurd h (by decide), fun h => ?_⟩
    rw [h, Int64.lt_iff_toInt_lt] at h1
    omega
  · rw [if_neg h1]
    by_cases h2 : x = y
    · rw [if_pos h2]
      exact ⟨fun _ => h2, fun _ => rfl⟩
    · rw [if_neg h2]
      exact ⟨fun h => absurd h (by decide), fun h => absurd h h2⟩
theorem lg_ge {x y : Int64} : 0 ≤ lg_cmp x y ↔ ¬ x < y := by
  rw [← lg_lt, Int32.le_iff_toInt_le, Int32.lt_iff_toInt_lt]
  omega
theorem lg_le {x y : Int64} : lg_cmp x y ≤ 0 ↔ ¬ y < x := by
  rw [← lg_gt, Int32.le_iff_toInt_le, Int32.lt_iff_toInt_lt]
  omega
set_option maxHeartbeats 4000000 in
set_option maxRecDepth 100000 in
theorem k_R_firstFrom (l : Launch) (D : va_G) (E : ClassId × ClassId × ClassId × ClassId) (h0 a : Nat) (most : Int32) (x : Int64) (z n : Nat) (f : Nat → Int64) (hz : z ≤ n) (hn : n < 2 ^ 29) : Met l y_R_firstFrom (.code y_R_firstFrom c_R_firstFrom 6 (some .int) :: gw) ({ frames := 0, cells := 0, slots := 0, locals := 0 } : Room) (rP D E [(h0, .inr (0, [.int most, .ref a, .int (nI z)])), (a, .inl (E.1, n, .inr (.inl f)))] [.ref h0, .long x]) (vp_Si (fun r => r = nI (ps_ff f x (z + 1) 0 z))) 0 0 (fun _ => False) := by
  refine rd_ofW (by decide) (Nat.le_of_ble_eq_true rfl) ?_
  intro p e s m below meth c B hP hK ls hl
  obtain ⟨hx, hb, hrt, hml, hown, hts, hG, hlocks, hin⟩ := B
  have hl : lv_has ls 6 [(0, .ref h0), (1, .long x)] := hl
  refine lv_iconst (v := 0) hx hb d_R_firstFrom_0 (by decide) ?_
  refine lv_istore_n (lv' := [(3, .int 0), (0, .ref h0), (1, .long x)]) hx hb d_R_firstFrom_1 rfl hl (by decide) rfl (fun ls hl => ?_)
  refine lv_aload_n hx hb d_R_firstFrom_2 rfl (lv_at hl 1 rfl) ?_
  refine va_get (D := D) (ci := 0) (v := .int (nI z)) (C := K_R) (T := F_R) (N := 3) hx hb hG in_R hown hK.1 hP 0 rfl rfl 2 (by decide) (hG _ wd_99) (fun _ h9 => h9) rfl d_R_firstFrom_3 ?_
  refine lv_istore (lv' := [(4, .int (nI z)), (3, .int 0), (0, .ref h0), (1, .long x)]) hx hb d_R_firstFrom_6 hl (by decide) rfl (fun ls hl => ?_)
  have loop : ∀ (fu : Nat) (lo : Nat) (hi : Nat) (ls : Array Slot), (lo ≤ hi) → (hi ≤ z) → (hi < lo + fu) → (ps_ff f x fu lo hi = ps_ff f x (z + 1) 0 z) → lv_has ls 6 [(0, .ref h0), (1, .long x), (3, .int (nI lo)), (4, .int (nI hi))] → W p l e ({ frames := 0, cells := 0, slots := 0, locals := 0 } : Room) s m ([.ref h0, .long x] : List Value).toArray below meth c s.heap [] 0 0 (MQ below (vp_Si (fun r => r = nI (ps_ff f x (z + 1) 0 z))) ([.ref h0, .long x] : List Value).toArray s 0 0 (fun _ => False)) (F0 m 8 ls []) := by
    intro fu
    induction fu with
    | zero =>
      intro lo hi ls h1 h2 h3 h4 hl
      omega
    | succ fu ih =>
      intro lo hi ls h1 h2 h3 h4 hl
      rw [ps_ff] at h4
      refine lv_iload_n hx hb d_R_firstFrom_8 rfl (lv_at hl 2 rfl) ?_
      refine lv_iload hx hb d_R_firstFrom_9 (lv_at hl 3 rfl) ?_
      refine lv_icmp_ge (tgt := 49) hx hb d_R_firstFrom_11 (by decide) (fun c1 => ?_) (fun c1 => ?_)
      · have q : ¬ lo < hi := by have := (nI_leI (by omega) (by omega)).mp c1; omega
        rw [if_neg q] at h4
        refine lv_iload_n hx hb d_R_firstFrom_49 rfl (lv_at hl 2 rfl) ?_
        exact W.iret (v := nI lo) hx hb hrt (fun t ht hW => ⟨nI lo, rfl, by rw [h4], ht⟩) (fun q h => nomatch h) d_R_firstFrom_50 hlocks
      · have q : lo < hi := by rw [nI_leI (by omega) (by omega)] at c1; omega
        rw [if_pos q] at h4
        refine lv_iload_n hx hb d_R_firstFrom_14 rfl (lv_at hl 2 rfl) ?_
        refine lv_iload hx hb d_R_firstFrom_15 (lv_at hl 3 rfl) ?_
        refine lv_iadd hx hb d_R_firstFrom_17 ?_
        refine lv_iconst (v := 2) hx hb d_R_firstFrom_18 (by decide) ?_
        refine lv_idiv hx hb d_R_firstFrom_19 (by decide) ?_
        rw [nI_half (by omega)]
        refine lv_istore (lv' := [(5, .int (nI ((lo + hi) / 2))), (0, .ref h0), (1, .long x), (3, .int (nI lo)), (4, .int (nI hi))]) hx hb d_R_firstFrom_20 hl (by decide) rfl (fun ls hl => ?_)
        refine lv_aload_n hx hb d_R_firstFrom_22 rfl (lv_at hl 1 rfl) ?_
        refine va_get (D := D) (ci := 0) (v := .ref a) (C := K_R) (T := F_R) (N := 3) hx hb hG in_R hown hK.1 hP 0 rfl rfl 1 (by decide) (hG _ wd_98) (fun _ h9 => h9) rfl d_R_firstFrom_23 ?_
        refine lv_iload hx hb d_R_firstFrom_26 (lv_at hl 0 rfl) ?_
        refine va_lald hx hb hK.1 hP 1 0 rfl rfl (vp_in_nI (by omega) (by omega)) d_R_firstFrom_28 ?_
        rw [show f (Int32.toNatClampNeg (nI ((lo + hi) / 2))) = f ((lo + hi) / 2) from by rw [nI_clamp (by omega)]]
        refine lv_lload_n hx hb d_R_firstFrom_29 rfl (lv_at hl 2 rfl) ?_
        refine W.lcmp hx hb d_R_firstFrom_30 ?_
        refine lv_if_ge (tgt := 42) hx hb d_R_firstFrom_31 (by decide) (fun c2 => ?_) (fun c2 => ?_)
        · rw [if_neg (lg_ge.mp c2)] at h4
          refine lv_iload hx hb d_R_firstFrom_42 (lv_at hl 0 rfl) ?_
          refine lv_istore (lv' := [(4, .int (nI ((lo + hi) / 2))), (5, .int (nI ((lo + hi) / 2))), (0, .ref h0), (1, .long x), (3, .int (nI lo))]) hx hb d_R_firstFrom_44 hl (by decide) rfl (fun ls hl => ?_)
          refine lv_goto (tgt := 8) hx hb d_R_firstFrom_46 (by decide) ?_
          exact ih lo ((lo + hi) / 2) ls (by omega) (by omega) (by omega) h4 (lv_sub hl [2, 3, 4, 0] rfl)
        · have c2 : f ((lo + hi) / 2) < x := by rw [lg_ge] at c2; exact Classical.not_not.mp c2
          rw [if_pos c2] at h4
          refine lv_iload hx hb d_R_firstFrom_34 (lv_at hl 0 rfl) ?_
          refine lv_iconst (v := 1) hx hb d_R_firstFrom_36 (by decide) ?_
          refine lv_iadd hx hb d_R_firstFrom_37 ?_
          rw [nI_1]
          refine lv_istore_n (lv' := [(3, .int (nI ((lo + hi) / 2 + 1))), (5, .int (nI ((lo + hi) / 2))), (0, .ref h0), (1, .long x), (4, .int (nI hi))]) hx hb d_R_firstFrom_38 rfl hl (by decide) rfl (fun ls hl => ?_)
          refine lv_goto (tgt := 46) hx hb d_R_firstFrom_39 (by decide) ?_
          refine lv_goto (tgt := 8) hx hb d_R_firstFrom_46 (by decide) ?_
          exact ih ((lo + hi) / 2 + 1) hi ls (by omega) (by omega) (by omega) h4 (lv_sub hl [2, 3, 0, 4] rfl)
  exact loop (z + 1) 0 z ls (by omega) (by omega) (by omega) rfl (lv_sub hl [2, 3, 1, 0] rfl)
set_option maxHeartbeats 4000000 in
set_option maxRecDepth 100000 in
theorem k_R_drop (l : Launch) (D : va_G) (E : ClassId × ClassId × ClassId × ClassId) (h0 a sz : Nat) (most z : Int32) : Met l y_R_drop (.code y_R_drop c_R_drop 1 none :: gw) ({ frames := 0, cells := 0, slots := 0, locals := 0 } : Room) (wP D E [(h0, .inr (0, [.int most, .ref a, .int z]))] sz [.ref h0]) (va_Qv (fun (u : Unit) => True) (wB D (fun _ => [(h0, .inr (0, [.int most, .ref a, .int 0]))]) (va_A [(h0, .inr (0, [.int most, .ref a, .int z]))] sz)) (va_A [(h0, .inr (0, [.int most, .ref a, .int z]))] sz)) 0 0 (va_A [(h0, .inr (0, [.int most, .ref a, .int z]))] sz) := by
  refine wr_ofW (Qc := fun A => (va_Qv (fun (u : Unit) => True) (wB D (fun _ => [(h0, .inr (0, [.int most, .ref a, .int 0]))]) A) A)) (by decide) (Nat.le_of_ble_eq_true rfl) ?_
  intro p e s m below meth c B hP hK A hA hD hS ls hl
  obtain ⟨hx, hb, hrt, hml, hown, hts, hG, hlocks, hin⟩ := B
  have hl : lv_has ls 1 [(0, .ref h0)] := hl
  refine lv_aload_n hx hb d_R_drop_0 rfl (lv_at hl 0 rfl) ?_
  refine lv_iconst (v := 0) hx hb d_R_drop_1 (by decide) ?_
  refine va_put (D := D) (ci := 0) (v := .int 0) (ty := .int) (C := K_R) (T := F_R) (N := 3) hx hb hG in_R t_R t_R_ok n_R hown hK.1 hP hD hS 0 rfl rfl 2 (by decide) (hG _ wd_99) (fun _ h9 => h9) rfl (by decide +kernel) rfl rfl (Nat.le_of_ble_eq_true rfl) d_R_drop_2 (fun H locs hP hD hS => ?_)
  have hP : va_P D vwC [(h0, .inr (0, [.int most, .ref a, .int 0]))] H := hP
  have hD : va_D A [(h0, .inr (0, [.int most, .ref a, .int 0]))] := hD
  exact W.vret hx hb hrt (fun t ht hW => ⟨⟨(), rfl, trivial, ⟨by rw [ht]; exact hP, hD⟩⟩, hS.F ht⟩) hS.2.2 d_R_drop_5 hlocks
