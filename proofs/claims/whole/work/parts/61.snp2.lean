theorem d_P_heat_0 : decode c_P_heat 0 = .ok (.aload_n 0, 1) := by decide +kernel
theorem d_P_heat_1 : decode c_P_heat 1 = .ok (.getfield 21, 3) := by decide +kernel
theorem d_P_heat_4 : decode c_P_heat 4 = .ok (.invokevirtual 185, 3) := by decide +kernel
theorem d_P_heat_7 : decode c_P_heat 7 = .ok (.ifCond .eq 12, 3) := by decide +kernel
theorem d_P_heat_10 : decode c_P_heat 10 = .ok (.aload_n 0, 1) := by decide +kernel
theorem d_P_heat_11 : decode c_P_heat 11 = .ok (.invokevirtual 182, 3) := by decide +kernel
theorem d_P_heat_14 : decode c_P_heat 14 = .ok (.ifCond .ne 5, 3) := by decide +kernel
theorem d_P_heat_17 : decode c_P_heat 17 = .ok (.iconst 0, 1) := by decide +kernel
theorem d_P_heat_18 : decode c_P_heat 18 = .ok (.ireturn, 1) := by decide +kernel
theorem d_P_heat_19 : decode c_P_heat 19 = .ok (.aload_n 0, 1) := by decide +kernel
theorem d_P_heat_20 : decode c_P_heat 20 = .ok (.getfield 21, 3) := by decide +kernel
theorem d_P_heat_23 : decode c_P_heat 23 = .ok (.lload_n 1, 1) := by decide +kernel
theorem d_P_heat_24 : decode c_P_heat 24 = .ok (.invokevirtual 188, 3) := by decide +kernel
theorem d_P_heat_27 : decode c_P_heat 27 = .ok (.ireturn, 1) := by decide +kernel
theorem kd_le (f : Nat → Int64) : ∀ k, (ps_kd f k).2 ≤ k := by
  intro k
  induction k with
  | zero => exact Nat.le_refl _
  | succ k ih =>
    unfold ps_kd
    split
    · exact Nat.succ_le_succ ih
    · exact Nat.le_succ_of_le ih
theorem mh_le (R : RS) : (mh_m R).2.2 ≤ R.2.2 := kd_le _ _
theorem mh_ok {m : Nat} {R : RS} (h : rs_ok m R) : rs_ok m (mh_m R) := ⟨h.1, Nat.le_trans (mh_le R) h.2.1, h.2.2⟩
def hj_r (R : RS) : RS := if R.2.2 < 16384 then R else mh_m R
abbrev hj_ok (R : RS) : Prop := R.2.2 < 16384 ∨ (mh_m R).2.2 ≤ 8192
/-- one hot pixel more -/
def hj (R : RS) (x : Int64) : RS := if hj_ok R then rs_add 16384 (hj_r R) x else mh_m R
theorem hj_r_ok {R : RS} (h : rs_ok 16384 R) : rs_ok 16384 (hj_r R) ∧ (hj_r R).1 = R.1 := by
  unfold hj_r
  split
  · exact ⟨h, rfl⟩
  · exact ⟨mh_ok h, rfl⟩
theorem hj_o {R : RS} {x : Int64} (h : rs_ok 16384 R) : rs_ok 16384 (hj R x) ∧ R.1 ≤ (hj R x).1 := by
  obtain ⟨h1, h2⟩ := hj_r_ok h
  unfold hj
  split
  · have := rs_add_ok (x := x) h1
    exact ⟨this.1, by rw [← h2]; exact this.2⟩
  · exact ⟨mh_ok h, Nat.le_refl _⟩
set_option maxHeartbeats 4000000 in
set_option maxRecDepth 100000 in
theorem k_P_heat (l : Launch) (D : va_G) (E : ClassId × ClassId × ClassId × ClassId) (h0 sz a1 : Nat) (ad : Nat → Nat) (sn : Int32) (R1 : RS) (x : Int64) (hok : rs_ok 16384 R1) : Met l y_P_heat (.code y_P_heat c_P_heat 3 (some .boolean) :: gw) ({ frames := 3, cells := ((hj R1 x).1 - R1.1), slots := (pot 16384 R1.1 - pot 16384 (hj R1 x).1), locals := 105 } : Room) (wP D E [(h0, .inr (2, [.ref (ad 0), .ref (ad 1), .ref (ad 2), .ref (ad 3), .ref (ad 4), .ref (ad 5), .int sn])), ((ad 1), .inr (0, [.int (nI 16384), .ref a1, .int (nI R1.2.2)])), (a1, .inl (E.1, R1.1, .inr (.inl R1.2.1)))] sz [.ref h0, .long x]) (va_Qi (fun (r : Int32) (u : Nat) => r = b01 (hj_ok R1)) (wB D (fun u => [(h0, .inr (2, [.ref (ad 0), .ref (ad 1), .ref (ad 2), .ref (ad 3), .ref (ad 4), .ref (ad 5), .int sn])), ((ad 1), .inr (0, [.int (nI 16384), .ref u, .int (nI (hj R1 x).2.2)])), (u, .inl (E.1, (hj R1 x).1, .inr (.inl ((hj R1 x).2.1))))]) (va_A [(h0, .inr (2, [.ref (ad 0), .ref (ad 1), .ref (ad 2), .ref (ad 3), .ref (ad 4), .ref (ad 5), .int sn])), ((ad 1), .inr (0, [.int (nI 16384), .ref a1, .int (nI R1.2.2)])), (a1, .inl (E.1, R1.1, .inr (.inl R1.2.1)))] sz)) (va_A [(h0, .inr (2, [.ref (ad 0), .ref (ad 1), .ref (ad 2), .ref (ad 3), .ref (ad 4), .ref (ad 5), .int sn])), ((ad 1), .inr (0, [.int (nI 16384), .ref a1, .int (nI R1.2.2)])), (a1, .inl (E.1, R1.1, .inr (.inl R1.2.1)))] sz)) ((hj R1 x).1 - R1.1) (pot 16384 R1.1 - pot 16384 (hj R1 x).1) (va_A [(h0, .inr (2, [.ref (ad 0), .ref (ad 1), .ref (ad 2), .ref (ad 3), .ref (ad 4), .ref (ad 5), .int sn])), ((ad 1), .inr (0, [.int (nI 16384), .ref a1, .int (nI R1.2.2)])), (a1, .inl (E.1, R1.1, .inr (.inl R1.2.1)))] sz) := by
  refine wr_ofW (Qc := fun A => (va_Qi (fun (r : Int32) (u : Nat) => r = b01 (hj_ok R1)) (wB D (fun u => [(h0, .inr (2, [.ref (ad 0), .ref (ad 1), .ref (ad 2), .ref (ad 3), .ref (ad 4), .ref (ad 5), .int sn])), ((ad 1), .inr (0, [.int (nI 16384), .ref u, .int (nI (hj R1 x).2.2)])), (u, .inl (E.1, (hj R1 x).1, .inr (.inl ((hj R1 x).2.1))))]) A) A)) (by decide) (Nat.le_of_ble_eq_true rfl) ?_
  intro p e s m below meth c B hP hK A hA hD hS ls hl
  obtain ⟨hx, hb, hrt, hml, hown, hts, hG, hlocks, hin⟩ := B
  have hl : lv_has ls 3 [(0, .ref h0), (1, .long x)] := hl
  obtain ⟨h1, h2, h3⟩ := id hok
  refine lv_aload_n hx hb d_P_heat_0 rfl (lv_at hl 0 rfl) ?_
  refine va_get (D := D) (ci := 2) (v := .ref (ad 1)) (C := K_P) (T := F_P) (N := 7) hx hb hG in_P hown hK.1 hP 0 rfl rfl 1 (by decide) (hG _ wd_110) (fun _ h9 => h9) rfl d_P_heat_1 ?_
  have hPc := hP.sub (ws' := [((ad 1), .inr (0, [.int (nI 16384), .ref a1, .int (nI R1.2.2)]))]) [1] rfl
  refine vp_callSi (W.runV (As := []) (rest := []) ⟨hx, hb, hml, hown, hts⟩ (k_R_isFull l D E (ad 1) a1 (nI 16384) (nI R1.2.2)) (cwV 0 hts (gw_gv wd_395 wd_396 wd_397 wd_41 wd_398) rfl rfl rfl (by decide +kernel) ⟨Nat.le_of_ble_eq_true rfl, Nat.le_of_ble_eq_true rfl⟩) (rP_V 0 hPc hK rfl rfl) rfl rfl hl.1 rfl (lv_room (Nat.le_of_ble_eq_true rfl)) d_P_heat_4 ⟨Nat.zero_le _, Nat.zero_le _⟩) (fun r1 hr1 => ?_)
  refine lv_if_eq (tgt := 19) hx hb d_P_heat_7 (by decide) (fun c1 => ?_) (fun c1 => ?_)
  · have hz : R1.2.2 < 16384 := by rw [hr1] at c1; by_cases q : nI R1.2.2 < nI 16384; exact (nI_ltI (by omega) (by omega)).mp q; rw [if_neg q] at c1; exact absurd c1 (by decide)
    have hk9 : hj_ok R1 := Or.inl hz
    have hr9 : hj_r R1 = R1 := if_pos hz
    have hg9 := hok
    have e9 : hj R1 x = (ra_n R1.2.2 R1.1 16384, ra_f R1.2.1 R1.2.2 R1.1 x, R1.2.2 + 1) := by rw [hj, if_pos hk9, hr9, rs_add, if_neg (by omega)]
    rw [e9]
    obtain ⟨g1, g2, g3⟩ := hg9
    have q1 := ra_n_le (z := R1.2.2) (n := R1.1) (m := 16384) g2 g1 (by omega) g3
    have q2 := ra_c_le (z := R1.2.2) (n := R1.1) (m := 16384) g2 g1 (by omega) g3
    have q3 := ra_s_le (z := R1.2.2) (n := R1.1) (m := 16384) g2 g1 (by omega) g3
    have q4 := pot_anti (m := 16384) q1.1
    have q5 : pot 16384 R1.1 = pot 16384 R1.1 := rfl
    refine lv_aload_n hx hb d_P_heat_19 rfl (lv_at hl 0 rfl) ?_
    refine va_get (D := D) (ci := 2) (v := .ref (ad 1)) (C := K_P) (T := F_P) (N := 7) hx hb hG in_P hown hK.1 hP 0 rfl rfl 1 (by decide) (hG _ wd_110) (fun _ h9 => h9) rfl d_P_heat_20 ?_
    refine lv_lload_n hx hb d_P_heat_23 rfl (lv_at hl 1 rfl) ?_
    have hPc := hP.sub (ws' := [((ad 1), .inr (0, [.int (nI 16384), .ref a1, .int (nI R1.2.2)])), (a1, .inl (E.1, R1.1, .inr (.inl R1.2.1)))]) [1, 2] rfl
    have hDc := hD.sub (ws' := [((ad 1), .inr (0, [.int (nI 16384), .ref a1, .int (nI R1.2.2)])), (a1, .inl (E.1, R1.1, .inr (.inl R1.2.1)))]) [1, 2] (by decide) rfl
    have hFc := va_free (wc := [((ad 1), .inr (0, [.int (nI 16384), .ref a1, .int (nI R1.2.2)])), (a1, .inl (E.1, R1.1, .inr (.inl R1.2.1)))]) hD hS hA [1, 2] rfl
    refine va_calli (va_runV (As := [.long x]) (rest := []) ⟨hx, hb, hml, hown, hts⟩ (k_R_add l D E (ad 1) a1 s.heap.size 16384 R1.2.2 R1.1 R1.2.1 x g1 g2 (by omega) g3 (by omega)) (cwV 1 hts (gw_gv wd_415 wd_416 wd_417 wd_41 wd_418) rfl rfl rfl (by decide +kernel) ⟨Nat.le_of_ble_eq_true rfl, Nat.le_of_ble_eq_true rfl⟩) (wP_V 0 hPc hK hDc rfl rfl) rfl rfl hl.1 rfl (lv_room (Nat.le_of_ble_eq_true rfl)) d_P_heat_24 ⟨by show 0 + ra_c R1.2.2 R1.1 ≤ ra_n R1.2.2 R1.1 16384 - R1.1; have : R1.1 = R1.1 := rfl; omega, by show 0 + ra_s R1.2.2 R1.1 16384 ≤ pot 16384 R1.1 - pot 16384 (ra_n R1.2.2 R1.1 16384); have : R1.1 = R1.1 := rfl; omega⟩) hS (fun q _ h => hFc q h) hFc (fun r9 u1 t H1 locs ht hvm hw hB hz1 hk1 hS => ?_)
    obtain ⟨hP1, hD1⟩ := hB
    rw [ht] at hP1
    obtain ⟨hP, hD⟩ := va_join (wr := [(h0, .inr (2, [.ref (ad 0), .ref (ad 1), .ref (ad 2), .ref (ad 3), .ref (ad 4), .ref (ad 5), .int sn]))]) (w1 := [((ad 1), .inr (0, [.int (nI 16384), .ref u1, .int (nI (ra_n R1.2.2 R1.1 16384, ra_f R1.2.1 R1.2.2 R1.1 x, R1.2.2 + 1).2.2)])), (u1, .inl (E.1, (ra_n R1.2.2 R1.1 16384, ra_f R1.2.1 R1.2.2 R1.1 x, R1.2.2 + 1).1, .inr (.inl ((ra_n R1.2.2 R1.1 16384, ra_f R1.2.1 R1.2.2 R1.1 x, R1.2.2 + 1).2.1))))]) hP hD [1, 2] [0] rfl rfl (by decide) (by decide) hk1 hFc hP1 hD1
    generalize H1 = H at hP hS ⊢
    have hP : va_P D vwC [(h0, .inr (2, [.ref (ad 0), .ref (ad 1), .ref (ad 2), .ref (ad 3), .ref (ad 4), .ref (ad 5), .int sn])), ((ad 1), .inr (0, [.int (nI 16384), .ref u1, .int (nI (ra_n R1.2.2 R1.1 16384, ra_f R1.2.1 R1.2.2 R1.1 x, R1.2.2 + 1).2.2)])), (u1, .inl (E.1, (ra_n R1.2.2 R1.1 16384, ra_f R1.2.1 R1.2.2 R1.1 x, R1.2.2 + 1).1, .inr (.inl ((ra_n R1.2.2 R1.1 16384, ra_f R1.2.1 R1.2.2 R1.1 x, R1.2.2 + 1).2.1))))] H := hP
    have hD : va_D A [(h0, .inr (2, [.ref (ad 0), .ref (ad 1), .ref (ad 2), .ref (ad 3), .ref (ad 4), .ref (ad 5), .int sn])), ((ad 1), .inr (0, [.int (nI 16384), .ref u1, .int (nI (ra_n R1.2.2 R1.1 16384, ra_f R1.2.1 R1.2.2 R1.1 x, R1.2.2 + 1).2.2)])), (u1, .inl (E.1, (ra_n R1.2.2 R1.1 16384, ra_f R1.2.1 R1.2.2 R1.1 x, R1.2.2 + 1).1, .inr (.inl ((ra_n R1.2.2 R1.1 16384, ra_f R1.2.1 R1.2.2 R1.1 x, R1.2.2 + 1).2.1))))] := hD
    obtain rfl : r9 = 1 := hw
    refine W.widen (k := (ra_n R1.2.2 R1.1 16384 - R1.1)) (n := (pot 16384 R1.1 - pot 16384 (ra_n R1.2.2 R1.1 16384))) (by have : R1.1 = R1.1 := rfl; omega) (by have : R1.1 = R1.1 := rfl; omega) ?_
    exact W.zret (v := 1) (ty := .boolean) hx hb hrt rfl (fun t ht hW => ⟨⟨1, u1, rfl, (b01_t hk9).symm, ⟨by rw [ht]; exact hP, hD⟩⟩, hS.F ht⟩) hS.2.2 d_P_heat_27 hlocks
  · have hz : ¬ R1.2.2 < 16384 := fun q => c1 (by rw [hr1, if_pos ((nI_ltI (by omega) (by omega)).mpr q)])
    refine lv_aload_n hx hb d_P_heat_10 rfl (lv_at hl 0 rfl) ?_
    have hPc := hP.sub (ws' := [(h0, .inr (2, [.ref (ad 0), .ref (ad 1), .ref (ad 2), .ref (ad 3), .ref (ad 4), .ref (ad 5), .int sn])), ((ad 1), .inr (0, [.int (nI 16384), .ref a1, .int (nI R1.2.2)])), (a1, .inl (E.1, R1.1, .inr (.inl R1.2.1)))]) [0, 1, 2] rfl
    have hDc := hD.sub (ws' := [(h0, .inr (2, [.ref (ad 0), .ref (ad 1), .ref (ad 2), .ref (ad 3), .ref (ad 4), .ref (ad 5), .int sn])), ((ad 1), .inr (0, [.int (nI 16384), .ref a1, .int (nI R1.2.2)])), (a1, .inl (E.1, R1.1, .inr (.inl R1.2.1)))]) [0, 1, 2] (by decide) rfl
    have hFc := va_free (wc := [(h0, .inr (2, [.ref (ad 0), .ref (ad 1), .ref (ad 2), .ref (ad 3), .ref (ad 4), .ref (ad 5), .int sn])), ((ad 1), .inr (0, [.int (nI 16384), .ref a1, .int (nI R1.2.2)])), (a1, .inl (E.1, R1.1, .inr (.inl R1.2.1)))]) hD hS hA [0, 1, 2] rfl
    refine va_calli (va_runV (As := []) (rest := []) ⟨hx, hb, hml, hown, hts⟩ (k_P_mergeHot l D E h0 s.heap.size a1 ad sn R1 h2 (by omega) (Nat.le_trans (mh_le R1) h2)) (cwV 0 hts (gw_gv wd_399 wd_401 wd_7 wd_37 wd_402) rfl rfl rfl (by decide +kernel) ⟨Nat.le_of_ble_eq_true rfl, Nat.le_of_ble_eq_true rfl⟩) (wP_V 0 hPc hK hDc rfl rfl) rfl rfl hl.1 rfl (lv_room (Nat.le_of_ble_eq_true rfl)) d_P_heat_11 ⟨Nat.zero_le _, Nat.zero_le _⟩) hS (fun q _ h => hFc q h) hFc (fun r2 u t H1 locs ht hvm hw hB hz1 hk1 hS => ?_)
    obtain ⟨hP1, hD1⟩ := hB
    rw [ht] at hP1
    obtain ⟨hP, hD⟩ := va_join (wr := []) (w1 := [(h0, .inr (2, [.ref (ad 0), .ref (ad 1), .ref (ad 2), .ref (ad 3), .ref (ad 4), .ref (ad 5), .int sn])), ((ad 1), .inr (0, [.int (nI 16384), .ref a1, .int (nI (mh_m R1).2.2)])), (a1, .inl (E.1, (mh_m R1).1, .inr (.inl ((mh_m R1).2.1))))]) hP hD [0, 1, 2] [] rfl rfl (by decide) (by decide) hk1 hFc hP1 hD1
    generalize H1 = H at hP hS ⊢
    have hP : va_P D vwC [(h0, .inr (2, [.ref (ad 0), .ref (ad 1), .ref (ad 2), .ref (ad 3), .ref (ad 4), .ref (ad 5), .int sn])), ((ad 1), .inr (0, [.int (nI 16384), .ref a1, .int (nI (mh_m R1).2.2)])), (a1, .inl (E.1, (mh_m R1).1, .inr (.inl ((mh_m R1).2.1))))] H := hP
    have hD : va_D A [(h0, .inr (2, [.ref (ad 0), .ref (ad 1), .ref (ad 2), .ref (ad 3), .ref (ad 4), .ref (ad 5), .int sn])), ((ad 1), .inr (0, [.int (nI 16384), .ref a1, .int (nI (mh_m R1).2.2)])), (a1, .inl (E.1, (mh_m R1).1, .inr (.inl ((mh_m R1).2.1))))] := hD
    have hm9 := mh_le R1
    refine lv_if_ne (tgt := 19) hx hb d_P_heat_14 (by decide) (fun c2 => ?_) (fun c2 => ?_)
    · rw [show r2 = b01 ((mh_m R1).2.2 ≤ 8192) from hw] at c2
      have hm := b01_1 c2
      have hk9 : hj_ok R1 := Or.inr hm
      have hr9 : hj_r R1 = mh_m R1 := if_neg hz
      have hg9 := mh_ok hok
      have e9 : hj R1 x = (ra_n (mh_m R1).2.2 (mh_m R1).1 16384, ra_f (mh_m R1).2.1 (mh_m R1).2.2 (mh_m R1).1 x, (mh_m R1).2.2 + 1) := by rw [hj, if_pos hk9, hr9, rs_add, if_neg (by omega)]
      rw [e9]
      obtain ⟨g1, g2, g3⟩ := hg9
      have q1 := ra_n_le (z := (mh_m R1).2.2) (n := (mh_m R1).1) (m := 16384) g2 g1 (by omega) g3
      have q2 := ra_c_le (z := (mh_m R1).2.2) (n := (mh_m R1).1) (m := 16384) g2 g1 (by omega) g3
      have q3 := ra_s_le (z := (mh_m R1).2.2) (n := (mh_m R1).1) (m := 16384) g2 g1 (by omega) g3
      have q4 := pot_anti (m := 16384) q1.1
      have q5 : pot 16384 (mh_m R1).1 = pot 16384 R1.1 := rfl
      refine lv_aload_n hx hb d_P_heat_19 rfl (lv_at hl 0 rfl) ?_
      refine va_get (D := D) (ci := 2) (v := .ref (ad 1)) (C := K_P) (T := F_P) (N := 7) hx hb hG in_P hown hK.1 hP 0 rfl rfl 1 (by decide) (hG _ wd_110) (fun _ h9 => h9) rfl d_P_heat_20 ?_
      refine lv_lload_n hx hb d_P_heat_23 rfl (lv_at hl 1 rfl) ?_
      have hPc := hP.sub (ws' := [((ad 1), .inr (0, [.int (nI 16384), .ref a1, .int (nI (mh_m R1).2.2)])), (a1, .inl (E.1, (mh_m R1).1, .inr (.inl ((mh_m R1).2.1))))]) [1, 2] rfl
      have hDc := hD.sub (ws' := [((ad 1), .inr (0, [.int (nI 16384), .ref a1, .int (nI (mh_m R1).2.2)])), (a1, .inl (E.1, (mh_m R1).1, .inr (.inl ((mh_m R1).2.1))))]) [1, 2] (by decide) rfl
      have hFc := va_free (wc := [((ad 1), .inr (0, [.int (nI 16384), .ref a1, .int (nI (mh_m R1).2.2)])), (a1, .inl (E.1, (mh_m R1).1, .inr (.inl ((mh_m R1).2.1))))]) hD hS hA [1, 2] rfl
      refine va_calli (va_runV (As := [.long x]) (rest := []) ⟨hx, hb, hml, hown, hts⟩ (k_R_add l D E (ad 1) a1 H.size 16384 (mh_m R1).2.2 (mh_m R1).1 (mh_m R1).2.1 x g1 g2 (by omega) g3 (by omega)) (cwV 1 hts (gw_gv wd_415 wd_416 wd_417 wd_41 wd_418) rfl rfl rfl (by decide +kernel) ⟨Nat.le_of_ble_eq_true rfl, Nat.le_of_ble_eq_true rfl⟩) (wP_V 0 hPc hK hDc rfl rfl) rfl rfl hl.1 rfl (lv_room (Nat.le_of_ble_eq_true rfl)) d_P_heat_24 ⟨by show 0 + ra_c (mh_m R1).2.2 (mh_m R1).1 ≤ ra_n (mh_m R1).2.2 (mh_m R1).1 16384 - R1.1; have : (mh_m R1).1 = R1.1 := rfl; omega, by show 0 + ra_s (mh_m R1).2.2 (mh_m R1).1 16384 ≤ pot 16384 R1.1 - pot 16384 (ra_n (mh_m R1).2.2 (mh_m R1).1 16384); have : (mh_m R1).1 = R1.1 := rfl; omega⟩) hS (fun q _ h => hFc q h) hFc (fun r9 u1 t H1 locs ht hvm hw hB hz1 hk1 hS => ?_)
      obtain ⟨hP1, hD1⟩ := hB
      rw [ht] at hP1
      obtain ⟨hP, hD⟩ := va_join (wr := [(h0, .inr (2, [.ref (ad 0), .ref (ad 1), .ref (ad 2), .ref (ad 3), .ref (ad 4), .ref (ad 5), .int sn]))]) (w1 := [((ad 1), .inr (0, [.int (nI 16384), .ref u1, .int (nI (ra_n (mh_m R1).2.2 (mh_m R1).1 16384, ra_f (mh_m R1).2.1 (mh_m R1).2.2 (mh_m R1).1 x, (mh_m R1).2.2 + 1).2.2)])), (u1, .inl (E.1, (ra_n (mh_m R1).2.2 (mh_m R1).1 16384, ra_f (mh_m R1).2.1 (mh_m R1).2.2 (mh_m R1).1 x, (mh_m R1).2.2 + 1).1, .inr (.inl ((ra_n (mh_m R1).2.2 (mh_m R1).1 16384, ra_f (mh_m R1).2.1 (mh_m R1).2.2 (mh_m R1).1 x, (mh_m R1).2.2 + 1).2.1))))]) hP hD [1, 2] [0] rfl rfl (by decide) (by decide) hk1 hFc hP1 hD1
      generalize H1 = H at hP hS ⊢
      have hP : va_P D vwC [(h0, .inr (2, [.ref (ad 0), .ref (ad 1), .ref (ad 2), .ref (ad 3), .ref (ad 4), .ref (ad 5), .int sn])), ((ad 1), .inr (0, [.int (nI 16384), .ref u1, .int (nI (ra_n (mh_m R1).2.2 (mh_m R1).1 16384, ra_f (mh_m R1).2.1 (mh_m R1).2.2 (mh_m R1).1 x, (mh_m R1).2.2 + 1).2.2)])), (u1, .inl (E.1, (ra_n (mh_m R1).2.2 (mh_m R1).1 16384, ra_f (mh_m R1).2.1 (mh_m R1).2.2 (mh_m R1).1 x, (mh_m R1).2.2 + 1).1, .inr (.inl ((ra_n (mh_m R1).2.2 (mh_m R1).1 16384, ra_f (mh_m R1).2.1 (mh_m R1).2.2 (mh_m R1).1 x, (mh_m R1).2.2 + 1).2.1))))] H := hP
      have hD : va_D A [(h0, .inr (2, [.ref (ad 0), .ref (ad 1), .ref (ad 2), .ref (ad 3), .ref (ad 4), .ref (ad 5), .int sn])), ((ad 1), .inr (0, [.int (nI 16384), .ref u1, .int (nI (ra_n (mh_m R1).2.2 (mh_m R1).1 16384, ra_f (mh_m R1).2.1 (mh_m R1).2.2 (mh_m R1).1 x, (mh_m R1).2.2 + 1).2.2)])), (u1, .inl (E.1, (ra_n (mh_m R1).2.2 (mh_m R1).1 16384, ra_f (mh_m R1).2.1 (mh_m R1).2.2 (mh_m R1).1 x, (mh_m R1).2.2 + 1).1, .inr (.inl ((ra_n (mh_m R1).2.2 (mh_m R1).1 16384, ra_f (mh_m R1).2.1 (mh_m R1).2.2 (mh_m R1).1 x, (mh_m R1).2.2 + 1).2.1))))] := hD
      obtain rfl : r9 = 1 := hw
      refine W.widen (k := (ra_n (mh_m R1).2.2 (mh_m R1).1 16384 - R1.1)) (n := (pot 16384 R1.1 - pot 16384 (ra_n (mh_m R1).2.2 (mh_m R1).1 16384))) (by have : (mh_m R1).1 = R1.1 := rfl; omega) (by have : (mh_m R1).1 = R1.1 := rfl; omega) ?_
      exact W.zret (v := 1) (ty := .boolean) hx hb hrt rfl (fun t ht hW => ⟨⟨1, u1, rfl, (b01_t hk9).symm, ⟨by rw [ht]; exact hP, hD⟩⟩, hS.F ht⟩) hS.2.2 d_P_heat_27 hlocks
    · have hk9 : ¬ hj_ok R1 := fun q => q.elim hz (b01_0 (by rw [show r2 = b01 ((mh_m R1).2.2 ≤ 8192) from hw] at c2; exact c2))
      have e9 : hj R1 x = mh_m R1 := if_neg hk9
      rw [e9]
      refine lv_iconst (v := 0) hx hb d_P_heat_17 (by decide) ?_
      refine W.widen (k := ((mh_m R1).1 - R1.1)) (n := (pot 16384 R1.1 - pot 16384 (mh_m R1).1)) (Nat.zero_le _) (Nat.zero_le _) ?_
      exact W.zret (v := 0) (ty := .boolean) hx hb hrt rfl (fun t ht hW => ⟨⟨0, a1, rfl, (b01_f hk9).symm, ⟨by rw [ht]; exact hP, hD⟩⟩, hS.F ht⟩) hS.2.2 d_P_heat_18 hlocks
