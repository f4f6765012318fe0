theorem d_R_countEqual_0 : decode c_R_countEqual 0 = .ok (.iconst 0, 1) := by decide +kernel
theorem d_R_countEqual_1 : decode c_R_countEqual 1 = .ok (.istore_n 2, 1) := by decide +kernel
theorem d_R_countEqual_2 : decode c_R_countEqual 2 = .ok (.iconst 1, 1) := by decide +kernel
theorem d_R_countEqual_3 : decode c_R_countEqual 3 = .ok (.istore_n 3, 1) := by decide +kernel
theorem d_R_countEqual_4 : decode c_R_countEqual 4 = .ok (.iload_n 3, 1) := by decide +kernel
theorem d_R_countEqual_5 : decode c_R_countEqual 5 = .ok (.aload_n 0, 1) := by decide +kernel
theorem d_R_countEqual_6 : decode c_R_countEqual 6 = .ok (.getfield 19, 3) := by decide +kernel
theorem d_R_countEqual_9 : decode c_R_countEqual 9 = .ok (.if_icmp .gt 44, 3) := by decide +kernel
theorem d_R_countEqual_12 : decode c_R_countEqual 12 = .ok (.iload_n 3, 1) := by decide +kernel
theorem d_R_countEqual_13 : decode c_R_countEqual 13 = .ok (.aload_n 0, 1) := by decide +kernel
theorem d_R_countEqual_14 : decode c_R_countEqual 14 = .ok (.getfield 19, 3) := by decide +kernel
theorem d_R_countEqual_17 : decode c_R_countEqual 17 = .ok (.if_icmp .eq 19, 3) := by decide +kernel
theorem d_R_countEqual_20 : decode c_R_countEqual 20 = .ok (.aload_n 0, 1) := by decide +kernel
theorem d_R_countEqual_21 : decode c_R_countEqual 21 = .ok (.getfield 15, 3) := by decide +kernel
theorem d_R_countEqual_24 : decode c_R_countEqual 24 = .ok (.iload_n 3, 1) := by decide +kernel
theorem d_R_countEqual_25 : decode c_R_countEqual 25 = .ok (.laload, 1) := by decide +kernel
theorem d_R_countEqual_26 : decode c_R_countEqual 26 = .ok (.aload_n 0, 1) := by decide +kernel
theorem d_R_countEqual_27 : decode c_R_countEqual 27 = .ok (.getfield 15, 3) := by decide +kernel
theorem d_R_countEqual_30 : decode c_R_countEqual 30 = .ok (.iload_n 2, 1) := by decide +kernel
theorem d_R_countEqual_31 : decode c_R_countEqual 31 = .ok (.laload, 1) := by decide +kernel
theorem d_R_countEqual_32 : decode c_R_countEqual 32 = .ok (.lcmp, 1) := by decide +kernel
theorem d_R_countEqual_33 : decode c_R_countEqual 33 = .ok (.ifCond .eq 14, 3) := by decide +kernel
theorem d_R_countEqual_36 : decode c_R_countEqual 36 = .ok (.aload_n 1, 1) := by decide +kernel
theorem d_R_countEqual_37 : decode c_R_countEqual 37 = .ok (.iload_n 3, 1) := by decide +kernel
theorem d_R_countEqual_38 : decode c_R_countEqual 38 = .ok (.iload_n 2, 1) := by decide +kernel
theorem d_R_countEqual_39 : decode c_R_countEqual 39 = .ok (.isub, 1) := by decide +kernel
theorem d_R_countEqual_40 : decode c_R_countEqual 40 = .ok (.i2l, 1) := by decide +kernel
theorem d_R_countEqual_41 : decode c_R_countEqual 41 = .ok (.invokevirtual 48, 3) := by decide +kernel
theorem d_R_countEqual_44 : decode c_R_countEqual 44 = .ok (.pop, 1) := by decide +kernel
theorem d_R_countEqual_45 : decode c_R_countEqual 45 = .ok (.iload_n 3, 1) := by decide +kernel
theorem d_R_countEqual_46 : decode c_R_countEqual 46 = .ok (.istore_n 2, 1) := by decide +kernel
theorem d_R_countEqual_47 : decode c_R_countEqual 47 = .ok (.iinc 3 1, 3) := by decide +kernel
theorem d_R_countEqual_50 : decode c_R_countEqual 50 = .ok (.goto (-46), 3) := by decide +kernel
theorem d_R_countEqual_53 : decode c_R_countEqual 53 = .ok (.return_, 1) := by decide +kernel
/-- what a row may still cost -/
def pot (m n : Nat) : Nat := if n < m then 3 * m - 2 * n else 0
def rs_ok (m : Nat) (s : RS) : Prop := 0 < s.1 ∧ s.2.2 ≤ s.1 ∧ s.1 ≤ m
theorem ra_n_le {z n m : Nat} (hz : z ≤ n) (h0 : 0 < n) (hzm : z < m) (hn : n ≤ m) : n ≤ ra_n z n m ∧ ra_n z n m ≤ m ∧ z + 1 ≤ ra_n z n m := by
  unfold ra_n
  split <;> omega
theorem ra_c_le {z n m : Nat} (hz : z ≤ n) (h0 : 0 < n) (hzm : z < m) (hn : n ≤ m) : ra_c z n + n ≤ ra_n z n m := by
  unfold ra_n ra_c
  split <;> omega
theorem ra_s_le {z n m : Nat} (hz : z ≤ n) (h0 : 0 < n) (hzm : z < m) (hn : n ≤ m) : ra_s z n m + pot m (ra_n z n m) ≤ pot m n := by
  unfold ra_n ra_s pot
  split <;> (repeat' split) <;> omega
theorem pot_anti {m n n2 : Nat} (h : n ≤ n2) : pot m n2 ≤ pot m n := by
  unfold pot
  split <;> split <;> omega
theorem rs_add_ok {m : Nat} {s : RS} {x : Int64} (h : rs_ok m s) : rs_ok m (rs_add m s x) ∧ s.1 ≤ (rs_add m s x).1 := by
  obtain ⟨h1, h2, h3⟩ := h
  unfold rs_add
  by_cases c : m ≤ s.2.2
  · rw [if_pos c]
    exact ⟨⟨h1, h2, h3⟩, Nat.le_refl _⟩
  · rw [if_neg c]
    have := ra_n_le h2 h1 (by omega) h3
    exact ⟨⟨by show 0 < ra_n _ _ _; omega, this.2.2, this.2.1⟩, this.1⟩
/-- how often each number of a sorted row is in it, told to another row, as the loop does it -/
def ce_go (m : Nat) (f : Nat → Int64) (z : Nat) : Nat → Nat → Nat → RS → RS
  | 0, _, _, s => s
  | fu + 1, k, b, s => if k ≤ z then (if k = z ∨ f k ≠ f b then ce_go m f z fu (k + 1) k (rs_add m s (lN (k - b))) else ce_go m f z fu (k + 1) b s) else s
theorem ce_go_ok {m : Nat} {f : Nat → Int64} {z : Nat} : ∀ (fu k b : Nat) (s : RS), rs_ok m s → rs_ok m (ce_go m f z fu k b s) ∧ s.1 ≤ (ce_go m f z fu k b s).1 := by
  intro fu
  induction fu with
  | zero => intro k b s h; exact ⟨h, Nat.le_refl _⟩
  | succ fu ih =>
    intro k b s h
    unfold ce_go
    split
    · split
      · have h1 := rs_add_ok (x := lN (k - b)) h
        have h2 := ih (k + 1) k _ h1.1
        exact ⟨h2.1, Nat.le_trans h1.2 h2.2⟩
      · exact ih (k + 1) b s h
    · exact ⟨h, Nat.le_refl _⟩
set_option maxHeartbeats 4000000 in
set_option maxRecDepth 100000 in
theorem k_R_countEqual (l : Launch) (D : va_G) (E : ClassId × ClassId × ClassId × ClassId) (h0 a h1 b sz m0 : Nat) (most : Int32) (z n : Nat) (f : Nat → Int64) (z1 n1 : Nat) (f1 : Nat → Int64) (hz : z ≤ n) (hn : n < 2 ^ 26) (hok : rs_ok m0 (n1, f1, z1)) (hm : m0 < 2 ^ 26) (hzz : z1 + z ≤ m0) : Met l y_R_countEqual (.code y_R_countEqual c_R_countEqual 4 none :: gw) ({ frames := 3, cells := ((ce_go m0 f z (z + 1) 1 0 (n1, f1, z1)).1 - n1), slots := (pot m0 n1 - pot m0 (ce_go m0 f z (z + 1) 1 0 (n1, f1, z1)).1), locals := 110 } : Room) (wP D E [(h0, .inr (0, [.int most, .ref a, .int (nI z)])), (a, .inl (E.1, n, .inr (.inl f))), (h1, .inr (0, [.int (nI m0), .ref b, .int (nI z1)])), (b, .inl (E.1, n1, .inr (.inl f1)))] sz [.ref h0, .ref h1]) (va_Qv (fun (u : Nat) => True) (wB D (fun u => [(h0, .inr (0, [.int most, .ref a, .int (nI z)])), (a, .inl (E.1, n, .inr (.inl f))), (h1, .inr (0, [.int (nI m0), .ref u, .int (nI (ce_go m0 f z (z + 1) 1 0 (n1, f1, z1)).2.2)])), (u, .inl (E.1, (ce_go m0 f z (z + 1) 1 0 (n1, f1, z1)).1, .inr (.inl ((ce_go m0 f z (z + 1) 1 0 (n1, f1, z1)).2.1))))]) (va_A [(h0, .inr (0, [.int most, .ref a, .int (nI z)])), (a, .inl (E.1, n, .inr (.inl f))), (h1, .inr (0, [.int (nI m0), .ref b, .int (nI z1)])), (b, .inl (E.1, n1, .inr (.inl f1)))] sz)) (va_A [(h0, .inr (0, [.int most, .ref a, .int (nI z)])), (a, .inl (E.1, n, .inr (.inl f))), (h1, .inr (0, [.int (nI m0), .ref b, .int (nI z1)])), (b, .inl (E.1, n1, .inr (.inl f1)))] sz)) ((ce_go m0 f z (z + 1) 1 0 (n1, f1, z1)).1 - n1) (pot m0 n1 - pot m0 (ce_go m0 f z (z + 1) 1 0 (n1, f1, z1)).1) (va_A [(h0, .inr (0, [.int most, .ref a, .int (nI z)])), (a, .inl (E.1, n, .inr (.inl f))), (h1, .inr (0, [.int (nI m0), .ref b, .int (nI z1)])), (b, .inl (E.1, n1, .inr (.inl f1)))] sz) := by
  refine wr_ofW (Qc := fun A => (va_Qv (fun (u : Nat) => True) (wB D (fun u => [(h0, .inr (0, [.int most, .ref a, .int (nI z)])), (a, .inl (E.1, n, .inr (.inl f))), (h1, .inr (0, [.int (nI m0), .ref u, .int (nI (ce_go m0 f z (z + 1) 1 0 (n1, f1, z1)).2.2)])), (u, .inl (E.1, (ce_go m0 f z (z + 1) 1 0 (n1, f1, z1)).1, .inr (.inl ((ce_go m0 f z (z + 1) 1 0 (n1, f1, z1)).2.1))))]) A) A)) (by decide) (Nat.le_of_ble_eq_true rfl) ?_
  intro p e s m below meth c B hP hK A hA hD hS ls hl
  obtain ⟨hx, hb, hrt, hml, hown, hts, hG, hlocks, hin⟩ := B
  have hl : lv_has ls 4 [(0, .ref h0), (1, .ref h1)] := hl
  obtain ⟨out, ho⟩ : ∃ o, o = (ce_go m0 f z (z + 1) 1 0 (n1, f1, z1)) := ⟨_, rfl⟩
  rw [← ho]
  refine lv_iconst (v := 0) hx hb d_R_countEqual_0 (by decide) ?_
  refine lv_istore_n (lv' := [(2, .int 0), (0, .ref h0), (1, .ref h1)]) hx hb d_R_countEqual_1 rfl hl (by decide) rfl (fun ls hl => ?_)
  refine lv_iconst (v := 1) hx hb d_R_countEqual_2 (by decide) ?_
  refine lv_istore_n (lv' := [(3, .int 1), (2, .int 0), (0, .ref h0), (1, .ref h1)]) hx hb d_R_countEqual_3 rfl hl (by decide) rfl (fun ls hl => ?_)
  have loop : ∀ (fu : Nat) (k : Nat) (fr : Nat) (zc : Nat) (nc : Nat) (g : Nat → Int64) (bb : Nat) (H : Heap) (locs : List Loc) (ls : Array Slot), (fr < k) → (k ≤ z + 1) → (z + 1 < k + fu) → (ce_go m0 f z fu k fr (nc, g, zc) = out) → (rs_ok m0 (nc, g, zc)) → (n1 ≤ nc) → (zc + 1 ≤ z1 + k) → va_P D vwC [(h0, .inr (0, [.int most, .ref a, .int (nI z)])), (a, .inl (E.1, n, .inr (.inl f))), (h1, .inr (0, [.int (nI m0), .ref bb, .int (nI zc)])), (bb, .inl (E.1, nc, .inr (.inl g)))] H → va_D A [(h0, .inr (0, [.int most, .ref a, .int (nI z)])), (a, .inl (E.1, n, .inr (.inl f))), (h1, .inr (0, [.int (nI m0), .ref bb, .int (nI zc)])), (bb, .inl (E.1, nc, .inr (.inl g)))] → va_S A s.heap H locs → lv_has ls 4 [(0, .ref h0), (1, .ref h1), (2, .int (nI fr)), (3, .int (nI k))] → W p l e ({ frames := 3, cells := (out.1 - n1), slots := (pot m0 n1 - pot m0 out.1), locals := 110 } : Room) s m ([.ref h0, .ref h1] : List Value).toArray below meth c H locs (nc - n1) (pot m0 n1 - pot m0 nc) (MQ below (va_Qv (fun (u : Nat) => True) (wB D (fun u => [(h0, .inr (0, [.int most, .ref a, .int (nI z)])), (a, .inl (E.1, n, .inr (.inl f))), (h1, .inr (0, [.int (nI m0), .ref u, .int (nI out.2.2)])), (u, .inl (E.1, out.1, .inr (.inl out.2.1)))]) A) A) ([.ref h0, .ref h1] : List Value).toArray s (out.1 - n1) (pot m0 n1 - pot m0 out.1) A) (F0 m 4 ls []) := by
    intro fu
    induction fu with
    | zero =>
      intro k fr zc nc g bb H locs ls q1 q2 q3 q4 q5 q6 q7 hP hD hS hl
      omega
    | succ fu ih =>
      intro k fr zc nc g bb H locs ls q1 q2 q3 q4 q5 q6 q7 hP hD hS hl
      have qo := ce_go_ok (f := f) (z := z) (fu + 1) k fr _ q5
      rw [q4] at qo
      have qo1 : nc ≤ out.1 := qo.2
      rw [ce_go] at q4
      refine lv_iload_n hx hb d_R_countEqual_4 rfl (lv_at hl 3 rfl) ?_
      refine lv_aload_n hx hb d_R_countEqual_5 rfl (lv_at hl 0 rfl) ?_
      refine va_get (D := D) (ci := 0) (v := .int (nI z)) (C := K_R) (T := F_R) (N := 3) hx hb hG in_R hown hK.1 hP 0 rfl rfl 2 (by decide) (hG _ wd_99) (fun _ h9 => h9) rfl d_R_countEqual_6 ?_
      refine lv_icmp_gt (tgt := 53) hx hb d_R_countEqual_9 (by decide) (fun c1 => ?_) (fun c1 => ?_)
      · have q : ¬ k ≤ z := by have := (nI_ltI (by omega) (by omega)).mp c1; omega
        rw [if_neg q] at q4
        subst q4
        exact W.vret hx hb hrt (fun t ht hW => ⟨⟨bb, rfl, trivial, ⟨by rw [ht]; exact hP, hD⟩⟩, hS.F ht⟩) hS.2.2 d_R_countEqual_53 hlocks
      · have q : k ≤ z := by rw [nI_ltI (by omega) (by omega)] at c1; omega
        rw [if_pos q] at q4
        refine lv_iload_n hx hb d_R_countEqual_12 rfl (lv_at hl 3 rfl) ?_
        refine lv_aload_n hx hb d_R_countEqual_13 rfl (lv_at hl 0 rfl) ?_
        refine va_get (D := D) (ci := 0) (v := .int (nI z)) (C := K_R) (T := F_R) (N := 3) hx hb hG in_R hown hK.1 hP 0 rfl rfl 2 (by decide) (hG _ wd_99) (fun _ h9 => h9) rfl d_R_countEqual_14 ?_
        refine lv_icmp_eq (tgt := 36) hx hb d_R_countEqual_17 (by decide) (fun c2 => ?_) (fun c2 => ?_)
        · have q8 : k = z := (nI_eq (by omega) (by omega)).mp c2
          rw [if_pos (Or.inl q8)] at q4
          have qz : ¬ m0 ≤ zc := by omega
          obtain ⟨qa, qb, qc⟩ := q5
          dsimp only at qa qb qc
          have e1 : rs_add m0 (nc, g, zc) (lN (k - fr)) = (ra_n zc nc m0, ra_f g zc nc (lN (k - fr)), zc + 1) := if_neg qz
          rw [e1] at q4
          have r1 := ra_n_le (z := zc) (n := nc) (m := m0) qb qa (by omega) qc
          have r2 := ra_c_le (z := zc) (n := nc) (m := m0) qb qa (by omega) qc
          have r3 := ra_s_le (z := zc) (n := nc) (m := m0) qb qa (by omega) qc
          have r4 : ra_n zc nc m0 ≤ out.1 := by have := (ce_go_ok (f := f) (z := z) fu (k + 1) k _ (show rs_ok m0 (ra_n zc nc m0, ra_f g zc nc (lN (k - fr)), zc + 1) from ⟨by show 0 < ra_n _ _ _; omega, r1.2.2, r1.2.1⟩)).2; rw [q4] at this; exact this
          have r5 := pot_anti (m := m0) r4
          have r6 := pot_anti (m := m0) q6
          refine lv_aload_n hx hb d_R_countEqual_36 rfl (lv_at hl 1 rfl) ?_
          refine lv_iload_n hx hb d_R_countEqual_37 rfl (lv_at hl 3 rfl) ?_
          refine lv_iload_n hx hb d_R_countEqual_38 rfl (lv_at hl 2 rfl) ?_
          refine lv_isub hx hb d_R_countEqual_39 ?_
          rw [show (nI k - nI fr) = nI (k - fr) from pk_sub (by omega)]
          refine lv_i2l hx hb d_R_countEqual_40 rfl ?_
          rw [show (Int32.toInt64 (nI (k - fr))) = lN (k - fr) from nI_l (by omega)]
          have hPc := hP.sub (ws' := [(h1, .inr (0, [.int (nI m0), .ref bb, .int (nI zc)])), (bb, .inl (E.1, nc, .inr (.inl g)))]) [2, 3] rfl
          have hDc := hD.sub (ws' := [(h1, .inr (0, [.int (nI m0), .ref bb, .int (nI zc)])), (bb, .inl (E.1, nc, .inr (.inl g)))]) [2, 3] (by decide) rfl
          have hFc := va_free (wc := [(h1, .inr (0, [.int (nI m0), .ref bb, .int (nI zc)])), (bb, .inl (E.1, nc, .inr (.inl g)))]) hD hS hA [2, 3] rfl
          refine va_calli (va_runV (As := [.long (lN (k - fr))]) (rest := []) ⟨hx, hb, hml, hown, hts⟩ (k_R_add l D E h1 bb H.size m0 zc nc g (lN (k - fr)) qa qb (by omega) qc hm) (cwV 1 hts (gw_gv wd_562 wd_416 wd_417 wd_41 wd_418) rfl rfl rfl (by decide +kernel) ⟨Nat.le_of_ble_eq_true rfl, Nat.le_of_ble_eq_true rfl⟩) (wP_V 0 hPc hK hDc rfl rfl) rfl rfl hl.1 rfl (lv_room (Nat.le_of_ble_eq_true rfl)) d_R_countEqual_41 ⟨by show nc - n1 + ra_c zc nc ≤ out.1 - n1; omega, by show pot m0 n1 - pot m0 nc + ra_s zc nc m0 ≤ pot m0 n1 - pot m0 out.1; omega⟩) hS (fun q _ h => hFc q h) hFc (fun r9 u t H1 locs ht hvm hw hB hz1 hk1 hS => ?_)
          obtain ⟨hP1, hD1⟩ := hB
          rw [ht] at hP1
          obtain ⟨hP, hD⟩ := va_join (wr := [(h0, .inr (0, [.int most, .ref a, .int (nI z)])), (a, .inl (E.1, n, .inr (.inl f)))]) (w1 := [(h1, .inr (0, [.int (nI m0), .ref u, .int (nI (zc + 1))])), (u, .inl (E.1, (ra_n zc nc m0), .inr (.inl (ra_f g zc nc (lN (k - fr))))))]) hP hD [2, 3] [0, 1] rfl rfl (by decide) (by decide) hk1 hFc hP1 hD1
          generalize H1 = H at hP hS ⊢
          have hP : va_P D vwC [(h0, .inr (0, [.int most, .ref a, .int (nI z)])), (a, .inl (E.1, n, .inr (.inl f))), (h1, .inr (0, [.int (nI m0), .ref u, .int (nI (zc + 1))])), (u, .inl (E.1, (ra_n zc nc m0), .inr (.inl (ra_f g zc nc (lN (k - fr))))))] H := hP
          have hD : va_D A [(h0, .inr (0, [.int most, .ref a, .int (nI z)])), (a, .inl (E.1, n, .inr (.inl f))), (h1, .inr (0, [.int (nI m0), .ref u, .int (nI (zc + 1))])), (u, .inl (E.1, (ra_n zc nc m0), .inr (.inl (ra_f g zc nc (lN (k - fr))))))] := hD
          refine W.widen (k := (ra_n zc nc m0 - n1)) (n := (pot m0 n1 - pot m0 (ra_n zc nc m0))) (by omega) (by omega) ?_
          refine lv_pop hx hb d_R_countEqual_44 rfl ?_
          refine lv_iload_n hx hb d_R_countEqual_45 rfl (lv_at hl 3 rfl) ?_
          refine lv_istore_n (lv' := [(2, .int (nI k)), (0, .ref h0), (1, .ref h1), (3, .int (nI k))]) hx hb d_R_countEqual_46 rfl hl (by decide) rfl (fun ls hl => ?_)
          refine lv_iinc (v := nI (k + 1)) (lv' := [(3, .int (nI (k + 1))), (2, .int (nI k)), (0, .ref h0), (1, .ref h1)]) hx hb d_R_countEqual_47 hl (k := 3) rfl (iinc_p _) (by decide) rfl (fun ls hl => ?_)
          refine lv_goto (tgt := 4) hx hb d_R_countEqual_50 (by decide) ?_
          exact ih (k + 1) k (zc + 1) (ra_n zc nc m0) _ u H locs ls (by omega) (by omega) (by omega) q4 ⟨by show 0 < ra_n _ _ _; omega, r1.2.2, r1.2.1⟩ (by omega) (by omega) hP hD hS (lv_sub hl [2, 3, 1, 0] rfl)
        · have q8 : ¬ k = z := fun y => c2 (by rw [y])
          refine lv_aload_n hx hb d_R_countEqual_20 rfl (lv_at hl 0 rfl) ?_
          refine va_get (D := D) (ci := 0) (v := .ref a) (C := K_R) (T := F_R) (N := 3) hx hb hG in_R hown hK.1 hP 0 rfl rfl 1 (by decide) (hG _ wd_98) (fun _ h9 => h9) rfl d_R_countEqual_21 ?_
          refine lv_iload_n hx hb d_R_countEqual_24 rfl (lv_at hl 3 rfl) ?_
          refine va_lald hx hb hK.1 hP 1 0 rfl rfl (vp_in_nI (by omega) (by omega)) d_R_countEqual_25 ?_
          rw [show f (Int32.toNatClampNeg (nI k)) = f k from by rw [nI_clamp (by omega)]]
          refine lv_aload_n hx hb d_R_countEqual_26 rfl (lv_at hl 0 rfl) ?_
          refine va_get (D := D) (ci := 0) (v := .ref a) (C := K_R) (T := F_R) (N := 3) hx hb hG in_R hown hK.1 hP 0 rfl rfl 1 (by decide) (hG _ wd_98) (fun _ h9 => h9) rfl d_R_countEqual_27 ?_
          refine lv_iload_n hx hb d_R_countEqual_30 rfl (lv_at hl 2 rfl) ?_
          refine va_lald hx hb hK.1 hP 1 0 rfl rfl (vp_in_nI (by omega) (by omega)) d_R_countEqual_31 ?_
          rw [show f (Int32.toNatClampNeg (nI fr)) = f fr from by rw [nI_clamp (by omega)]]
          refine W.lcmp hx hb d_R_countEqual_32 ?_
          refine lv_if_eq (tgt := 47) hx hb d_R_countEqual_33 (by decide) (fun c3 => ?_) (fun c3 => ?_)
          · rw [if_neg (fun y => y.elim q8 (fun w => w (lg_eq.mp c3)))] at q4
            refine lv_iinc (v := nI (k + 1)) (lv' := [(3, .int (nI (k + 1))), (0, .ref h0), (1, .ref h1), (2, .int (nI fr))]) hx hb d_R_countEqual_47 hl (k := 3) rfl (iinc_p _) (by decide) rfl (fun ls hl => ?_)
            refine lv_goto (tgt := 4) hx hb d_R_countEqual_50 (by decide) ?_
            exact ih (k + 1) fr zc nc g bb H locs ls (by omega) (by omega) (by omega) q4 q5 q6 (by omega) hP hD hS (lv_sub hl [1, 2, 3, 0] rfl)
          · rw [if_pos (Or.inr (fun y => c3 (lg_eq.mpr y)))] at q4
            have qz : ¬ m0 ≤ zc := by omega
            obtain ⟨qa, qb, qc⟩ := q5
            dsimp only at qa qb qc
            have e1 : rs_add m0 (nc, g, zc) (lN (k - fr)) = (ra_n zc nc m0, ra_f g zc nc (lN (k - fr)), zc + 1) := if_neg qz
            rw [e1] at q4
            have r1 := ra_n_le (z := zc) (n := nc) (m := m0) qb qa (by omega) qc
            have r2 := ra_c_le (z := zc) (n := nc) (m := m0) qb qa (by omega) qc
            have r3 := ra_s_le (z := zc) (n := nc) (m := m0) qb qa (by omega) qc
            have r4 : ra_n zc nc m0 ≤ out.1 := by have := (ce_go_ok (f := f) (z := z) fu (k + 1) k _ (show rs_ok m0 (ra_n zc nc m0, ra_f g zc nc (lN (k - fr)), zc + 1) from ⟨by show 0 < ra_n _ _ _; omega, r1.2.2, r1.2.1⟩)).2; rw [q4] at this; exact this
            have r5 := pot_anti (m := m0) r4
            have r6 := pot_anti (m := m0) q6
            refine lv_aload_n hx hb d_R_countEqual_36 rfl (lv_at hl 1 rfl) ?_
            refine lv_iload_n hx hb d_R_countEqual_37 rfl (lv_at hl 3 rfl) ?_
            refine lv_iload_n hx hb d_R_countEqual_38 rfl (lv_at hl 2 rfl) ?_
            refine lv_isub hx hb d_R_countEqual_39 ?_
            rw [show (nI k - nI fr) = nI (k - fr) from pk_sub (by omega)]
            refine lv_i2l hx hb d_R_countEqual_40 rfl ?_
            rw [show (Int32.toInt64 (nI (k - fr))) = lN (k - fr) from nI_l (by omega)]
            have hPc := hP.sub (ws' := [(h1, .inr (0, [.int (nI m0), .ref bb, .int (nI zc)])), (bb, .inl (E.1, nc, .inr (.inl g)))]) [2, 3] rfl
            have hDc := hD.sub (ws' := [(h1, .inr (0, [.int (nI m0), .ref bb, .int (nI zc)])), (bb, .inl (E.1, nc, .inr (.inl g)))]) [2, 3] (by decide) rfl
            have hFc := va_free (wc := [(h1, .inr (0, [.int (nI m0), .ref bb, .int (nI zc)])), (bb, .inl (E.1, nc, .inr (.inl g)))]) hD hS hA [2, 3] rfl
            refine va_calli (va_runV (As := [.long (lN (k - fr))]) (rest := []) ⟨hx, hb, hml, hown, hts⟩ (k_R_add l D E h1 bb H.size m0 zc nc g (lN (k - fr)) qa qb (by omega) qc hm) (cwV 1 hts (gw_gv wd_562 wd_416 wd_417 wd_41 wd_418) rfl rfl rfl (by decide +kernel) ⟨Nat.le_of_ble_eq_true rfl, Nat.le_of_ble_eq_true rfl⟩) (wP_V 0 hPc hK hDc rfl rfl) rfl rfl hl.1 rfl (lv_room (Nat.le_of_ble_eq_true rfl)) d_R_countEqual_41 ⟨by show nc - n1 + ra_c zc nc ≤ out.1 - n1; omega, by show pot m0 n1 - pot m0 nc + ra_s zc nc m0 ≤ pot m0 n1 - pot m0 out.1; omega⟩) hS (fun q _ h => hFc q h) hFc (fun r9 u t H1 locs ht hvm hw hB hz1 hk1 hS => ?_)
            obtain ⟨hP1, hD1⟩ := hB
            rw [ht] at hP1
            obtain ⟨hP, hD⟩ := va_join (wr := [(h0, .inr (0, [.int most, .ref a, .int (nI z)])), (a, .inl (E.1, n, .inr (.inl f)))]) (w1 := [(h1, .inr (0, [.int (nI m0), .ref u, .int (nI (zc + 1))])), (u, .inl (E.1, (ra_n zc nc m0), .inr (.inl (ra_f g zc nc (lN (k - fr))))))]) hP hD [2, 3] [0, 1] rfl rfl (by decide) (by decide) hk1 hFc hP1 hD1
            generalize H1 = H at hP hS ⊢
            have hP : va_P D vwC [(h0, .inr (0, [.int most, .ref a, .int (nI z)])), (a, .inl (E.1, n, .inr (.inl f))), (h1, .inr (0, [.int (nI m0), .ref u, .int (nI (zc + 1))])), (u, .inl (E.1, (ra_n zc nc m0), .inr (.inl (ra_f g zc nc (lN (k - fr))))))] H := hP
            have hD : va_D A [(h0, .inr (0, [.int most, .ref a, .int (nI z)])), (a, .inl (E.1, n, .inr (.inl f))), (h1, .inr (0, [.int (nI m0), .ref u, .int (nI (zc + 1))])), (u, .inl (E.1, (ra_n zc nc m0), .inr (.inl (ra_f g zc nc (lN (k - fr))))))] := hD
            refine W.widen (k := (ra_n zc nc m0 - n1)) (n := (pot m0 n1 - pot m0 (ra_n zc nc m0))) (by omega) (by omega) ?_
            refine lv_pop hx hb d_R_countEqual_44 rfl ?_
            refine lv_iload_n hx hb d_R_countEqual_45 rfl (lv_at hl 3 rfl) ?_
            refine lv_istore_n (lv' := [(2, .int (nI k)), (0, .ref h0), (1, .ref h1), (3, .int (nI k))]) hx hb d_R_countEqual_46 rfl hl (by decide) rfl (fun ls hl => ?_)
            refine lv_iinc (v := nI (k + 1)) (lv' := [(3, .int (nI (k + 1))), (2, .int (nI k)), (0, .ref h0), (1, .ref h1)]) hx hb d_R_countEqual_47 hl (k := 3) rfl (iinc_p _) (by decide) rfl (fun ls hl => ?_)
            refine lv_goto (tgt := 4) hx hb d_R_countEqual_50 (by decide) ?_
            exact ih (k + 1) k (zc + 1) (ra_n zc nc m0) _ u H locs ls (by omega) (by omega) (by omega) q4 ⟨by show 0 < ra_n _ _ _; omega, r1.2.2, r1.2.1⟩ (by omega) (by omega) hP hD hS (lv_sub hl [2, 3, 1, 0] rfl)
  refine W.widen (k := n1 - n1) (n := pot m0 n1 - pot m0 n1) (by omega) (by omega) ?_
  exact loop (z + 1) 1 0 z1 n1 f1 b _ _ ls (by omega) (by omega) (by omega) ho.symm hok (Nat.le_refl _) (by omega) hP hD hS (lv_sub hl [2, 3, 1, 0] rfl)
