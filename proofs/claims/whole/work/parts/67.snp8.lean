theorem d_P_findPieces_0 : decode c_P_findPieces 0 = .ok (.iconst 0, 1) := by decide +kernel
theorem d_P_findPieces_1 : decode c_P_findPieces 1 = .ok (.istore_n 1, 1) := by decide +kernel
theorem d_P_findPieces_2 : decode c_P_findPieces 2 = .ok (.iload_n 1, 1) := by decide +kernel
theorem d_P_findPieces_3 : decode c_P_findPieces 3 = .ok (.aload_n 0, 1) := by decide +kernel
theorem d_P_findPieces_4 : decode c_P_findPieces 4 = .ok (.getfield 12, 3) := by decide +kernel
theorem d_P_findPieces_7 : decode c_P_findPieces 7 = .ok (.invokevirtual 53, 3) := by decide +kernel
theorem d_P_findPieces_10 : decode c_P_findPieces 10 = .ok (.if_icmp .ge 79, 3) := by decide +kernel
theorem d_P_findPieces_13 : decode c_P_findPieces 13 = .ok (.aload_n 0, 1) := by decide +kernel
theorem d_P_findPieces_14 : decode c_P_findPieces 14 = .ok (.iload_n 1, 1) := by decide +kernel
theorem d_P_findPieces_15 : decode c_P_findPieces 15 = .ok (.invokevirtual 141, 3) := by decide +kernel
theorem d_P_findPieces_18 : decode c_P_findPieces 18 = .ok (.iconst 1, 1) := by decide +kernel
theorem d_P_findPieces_19 : decode c_P_findPieces 19 = .ok (.iadd, 1) := by decide +kernel
theorem d_P_findPieces_20 : decode c_P_findPieces 20 = .ok (.istore_n 2, 1) := by decide +kernel
theorem d_P_findPieces_21 : decode c_P_findPieces 21 = .ok (.iload_n 2, 1) := by decide +kernel
theorem d_P_findPieces_22 : decode c_P_findPieces 22 = .ok (.aload_n 0, 1) := by decide +kernel
theorem d_P_findPieces_23 : decode c_P_findPieces 23 = .ok (.iload_n 1, 1) := by decide +kernel
theorem d_P_findPieces_24 : decode c_P_findPieces 24 = .ok (.iconst 1, 1) := by decide +kernel
theorem d_P_findPieces_25 : decode c_P_findPieces 25 = .ok (.iadd, 1) := by decide +kernel
theorem d_P_findPieces_26 : decode c_P_findPieces 26 = .ok (.invokevirtual 141, 3) := by decide +kernel
theorem d_P_findPieces_29 : decode c_P_findPieces 29 = .ok (.if_icmp .ge 54, 3) := by decide +kernel
theorem d_P_findPieces_32 : decode c_P_findPieces 32 = .ok (.aload_n 0, 1) := by decide +kernel
theorem d_P_findPieces_33 : decode c_P_findPieces 33 = .ok (.getfield 29, 3) := by decide +kernel
theorem d_P_findPieces_36 : decode c_P_findPieces 36 = .ok (.iload_n 2, 1) := by decide +kernel
theorem d_P_findPieces_37 : decode c_P_findPieces 37 = .ok (.iconst 1, 1) := by decide +kernel
theorem d_P_findPieces_38 : decode c_P_findPieces 38 = .ok (.isub, 1) := by decide +kernel
theorem d_P_findPieces_39 : decode c_P_findPieces 39 = .ok (.invokevirtual 135, 3) := by decide +kernel
theorem d_P_findPieces_42 : decode c_P_findPieces 42 = .ok (.lstore_n 3, 1) := by decide +kernel
theorem d_P_findPieces_43 : decode c_P_findPieces 43 = .ok (.aload_n 0, 1) := by decide +kernel
theorem d_P_findPieces_44 : decode c_P_findPieces 44 = .ok (.getfield 29, 3) := by decide +kernel
theorem d_P_findPieces_47 : decode c_P_findPieces 47 = .ok (.iload_n 2, 1) := by decide +kernel
theorem d_P_findPieces_48 : decode c_P_findPieces 48 = .ok (.invokevirtual 135, 3) := by decide +kernel
theorem d_P_findPieces_51 : decode c_P_findPieces 51 = .ok (.lstore 5, 2) := by decide +kernel
theorem d_P_findPieces_53 : decode c_P_findPieces 53 = .ok (.aload_n 0, 1) := by decide +kernel
theorem d_P_findPieces_54 : decode c_P_findPieces 54 = .ok (.getfield 32, 3) := by decide +kernel
theorem d_P_findPieces_57 : decode c_P_findPieces 57 = .ok (.lload_n 3, 1) := by decide +kernel
theorem d_P_findPieces_58 : decode c_P_findPieces 58 = .ok (.lload 5, 2) := by decide +kernel
theorem d_P_findPieces_60 : decode c_P_findPieces 60 = .ok (.invokestatic 229, 3) := by decide +kernel
theorem d_P_findPieces_63 : decode c_P_findPieces 63 = .ok (.bipush 13, 2) := by decide +kernel
theorem d_P_findPieces_65 : decode c_P_findPieces 65 = .ok (.lshl, 1) := by decide +kernel
theorem d_P_findPieces_66 : decode c_P_findPieces 66 = .ok (.lload_n 3, 1) := by decide +kernel
theorem d_P_findPieces_67 : decode c_P_findPieces 67 = .ok (.lload 5, 2) := by decide +kernel
theorem d_P_findPieces_69 : decode c_P_findPieces 69 = .ok (.invokestatic 235, 3) := by decide +kernel
theorem d_P_findPieces_72 : decode c_P_findPieces 72 = .ok (.lor, 1) := by decide +kernel
theorem d_P_findPieces_73 : decode c_P_findPieces 73 = .ok (.invokevirtual 188, 3) := by decide +kernel
theorem d_P_findPieces_76 : decode c_P_findPieces 76 = .ok (.pop, 1) := by decide +kernel
theorem d_P_findPieces_77 : decode c_P_findPieces 77 = .ok (.iinc 2 1, 3) := by decide +kernel
theorem d_P_findPieces_80 : decode c_P_findPieces 80 = .ok (.goto (-59), 3) := by decide +kernel
theorem d_P_findPieces_83 : decode c_P_findPieces 83 = .ok (.iinc 1 1, 3) := by decide +kernel
theorem d_P_findPieces_86 : decode c_P_findPieces 86 = .ok (.goto (-84), 3) := by decide +kernel
theorem d_P_findPieces_89 : decode c_P_findPieces 89 = .ok (.aload_n 0, 1) := by decide +kernel
theorem d_P_findPieces_90 : decode c_P_findPieces 90 = .ok (.getfield 32, 3) := by decide +kernel
theorem d_P_findPieces_93 : decode c_P_findPieces 93 = .ok (.invokevirtual 190, 3) := by decide +kernel
theorem d_P_findPieces_96 : decode c_P_findPieces 96 = .ok (.aload_n 0, 1) := by decide +kernel
theorem d_P_findPieces_97 : decode c_P_findPieces 97 = .ok (.getfield 32, 3) := by decide +kernel
theorem d_P_findPieces_100 : decode c_P_findPieces 100 = .ok (.aload_n 0, 1) := by decide +kernel
theorem d_P_findPieces_101 : decode c_P_findPieces 101 = .ok (.getfield 35, 3) := by decide +kernel
theorem d_P_findPieces_104 : decode c_P_findPieces 104 = .ok (.invokevirtual 238, 3) := by decide +kernel
theorem d_P_findPieces_107 : decode c_P_findPieces 107 = .ok (.aload_n 0, 1) := by decide +kernel
theorem d_P_findPieces_108 : decode c_P_findPieces 108 = .ok (.getfield 32, 3) := by decide +kernel
theorem d_P_findPieces_111 : decode c_P_findPieces 111 = .ok (.invokevirtual 193, 3) := by decide +kernel
theorem d_P_findPieces_114 : decode c_P_findPieces 114 = .ok (.return_, 1) := by decide +kernel
noncomputable section
/-- the key of a piece -/
def fp_k (a b : Int64) : Int64 := ((if b < a then b else a) <<< (Int32.toInt64 13 &&& 63)) ||| (if b < a then a else b)
def fp_i (f3 : Nat → Int64) : Nat → Nat → Nat → RS → RS
  | 0, _, _, R => R
  | fu + 1, j, e, R => if j + 1 < e then fp_i f3 fu (j + 1) e (rs_add 65536 R (fp_k (f3 j) (f3 (j + 1)))) else R
def fp_s (f3 : Nat → Int64) (B : Nat → Nat) (k : Nat) : Nat → Nat → RS → RS
  | 0, _, R => R
  | fu + 1, i, R => if i < k then fp_s f3 B k fu (i + 1) (fp_i f3 65537 (B i) (B (i + 1)) R) else R
theorem fp_i_ok {f3 : Nat → Int64} : ∀ (fu j e : Nat) (R : RS), rs_ok 65536 R → rs_ok 65536 (fp_i f3 fu j e R) ∧ R.1 ≤ (fp_i f3 fu j e R).1 := by
  intro fu
  induction fu with
  | zero => intro j e R h; exact ⟨h, Nat.le_refl _⟩
  | succ fu ih =>
    intro j e R h
    unfold fp_i
    have h1 := rs_add_ok (x := fp_k (f3 j) (f3 (j + 1))) h
    split
    · have h2 := ih (j + 1) e _ h1.1
      exact ⟨h2.1, Nat.le_trans h1.2 h2.2⟩
    · exact ⟨h, Nat.le_refl _⟩
theorem fp_s_ok {f3 : Nat → Int64} {B : Nat → Nat} {k : Nat} : ∀ (fu i : Nat) (R : RS), rs_ok 65536 R → rs_ok 65536 (fp_s f3 B k fu i R) ∧ R.1 ≤ (fp_s f3 B k fu i R).1 := by
  intro fu
  induction fu with
  | zero => intro i R h; exact ⟨h, Nat.le_refl _⟩
  | succ fu ih =>
    intro i R h
    unfold fp_s
    have h1 := fp_i_ok (f3 := f3) 65537 (B i) (B (i + 1)) R h
    split
    · have h2 := ih (i + 1) _ h1.1
      exact ⟨h2.1, Nat.le_trans h1.2 h2.2⟩
    · exact ⟨h, Nat.le_refl _⟩
/-- the keys of all pieces; the rows behind findPieces -/
def fp_a (f3 : Nat → Int64) (B : Nat → Nat) (k : Nat) (R4 : RS) : RS := fp_s f3 B k (k + 1) 0 R4
def fp_u (Q R5 : RS) : RS := ce_go 65536 (ps_sort Q.2.2 Q.2.1) Q.2.2 (Q.2.2 + 1) 1 0 R5
theorem fp_u_ok {Q R5 : RS} (h : rs_ok 65536 R5) : rs_ok 65536 (fp_u Q R5) ∧ R5.1 ≤ (fp_u Q R5).1 := ce_go_ok _ _ _ _ h
def k4 (Q R4 V R5 : RS) : Nat := (Q.1 - R4.1) + (V.1 - R5.1)
def p4 (Q R4 V R5 : RS) : Nat := (pot 65536 R4.1 - pot 65536 Q.1) + (pot 65536 R5.1 - pot 65536 V.1)
set_option maxHeartbeats 4000000 in
set_option maxRecDepth 100000 in
theorem k_P_findPieces (l : Launch) (D : va_G) (E : ClassId × ClassId × ClassId × ClassId) (h0 sz ed k a2 a3 a4 a5 : Nat) (ad : Nat → Nat) (sn mo9 : Int32) (hk : k ≤ 2048) (R2 R3 R4 R5 : RS) (ho2 : rs_ok 2049 R2) (ho3 : rs_ok 65536 R3) (ho4 : rs_ok 65536 R4) (ho5 : rs_ok 65536 R5) (hz4 : R4.2.2 = 0) (hz5 : R5.2.2 = 0) (B : Nat → Nat) (hB : ∀ i, i ≤ k → (rw_at R2.2.1 (nI R2.2.2) (nI i)).toInt32 = nI (B i)) (hBm : ∀ i, i < k → B i ≤ B (i + 1)) (hBn : ∀ i, i ≤ k → B i ≤ R3.2.2) : Met l y_P_findPieces (.code y_P_findPieces c_P_findPieces 7 none :: gw) ({ frames := 4, cells := (k4 (fp_a R3.2.1 B k R4) R4 (fp_u (fp_a R3.2.1 B k R4) R5) R5), slots := (p4 (fp_a R3.2.1 B k R4) R4 (fp_u (fp_a R3.2.1 B k R4) R5) R5), locals := 135 } : Room) (wP D E [(h0, .inr (2, [.ref (ad 0), .ref (ad 1), .ref (ad 2), .ref (ad 3), .ref (ad 4), .ref (ad 5), .int sn])), ((ad 0), .inr (4, [.ref ed, .int (nI k), .int mo9])), ((ad 2), .inr (0, [.int (nI 2049), .ref a2, .int (nI R2.2.2)])), (a2, .inl (E.1, R2.1, .inr (.inl R2.2.1))), ((ad 3), .inr (0, [.int (nI 65536), .ref a3, .int (nI R3.2.2)])), (a3, .inl (E.1, R3.1, .inr (.inl R3.2.1))), ((ad 4), .inr (0, [.int (nI 65536), .ref a4, .int (nI R4.2.2)])), (a4, .inl (E.1, R4.1, .inr (.inl R4.2.1))), ((ad 5), .inr (0, [.int (nI 65536), .ref a5, .int (nI R5.2.2)])), (a5, .inl (E.1, R5.1, .inr (.inl R5.2.1)))] sz [.ref h0]) (va_Qv (fun (u : Nat × Nat) => True) (wB D (fun u => [(h0, .inr (2, [.ref (ad 0), .ref (ad 1), .ref (ad 2), .ref (ad 3), .ref (ad 4), .ref (ad 5), .int sn])), ((ad 0), .inr (4, [.ref ed, .int (nI k), .int mo9])), ((ad 2), .inr (0, [.int (nI 2049), .ref a2, .int (nI R2.2.2)])), (a2, .inl (E.1, R2.1, .inr (.inl R2.2.1))), ((ad 3), .inr (0, [.int (nI 65536), .ref a3, .int (nI R3.2.2)])), (a3, .inl (E.1, R3.1, .inr (.inl R3.2.1))), ((ad 4), .inr (0, [.int (nI 65536), .ref u.1, .int (nI (mh_m (fp_a R3.2.1 B k R4)).2.2)])), (u.1, .inl (E.1, (mh_m (fp_a R3.2.1 B k R4)).1, .inr (.inl ((mh_m (fp_a R3.2.1 B k R4)).2.1)))), ((ad 5), .inr (0, [.int (nI 65536), .ref u.2, .int (nI (fp_u (fp_a R3.2.1 B k R4) R5).2.2)])), (u.2, .inl (E.1, (fp_u (fp_a R3.2.1 B k R4) R5).1, .inr (.inl ((fp_u (fp_a R3.2.1 B k R4) R5).2.1))))]) (va_A [(h0, .inr (2, [.ref (ad 0), .ref (ad 1), .ref (ad 2), .ref (ad 3), .ref (ad 4), .ref (ad 5), .int sn])), ((ad 0), .inr (4, [.ref ed, .int (nI k), .int mo9])), ((ad 2), .inr (0, [.int (nI 2049), .ref a2, .int (nI R2.2.2)])), (a2, .inl (E.1, R2.1, .inr (.inl R2.2.1))), ((ad 3), .inr (0, [.int (nI 65536), .ref a3, .int (nI R3.2.2)])), (a3, .inl (E.1, R3.1, .inr (.inl R3.2.1))), ((ad 4), .inr (0, [.int (nI 65536), .ref a4, .int (nI R4.2.2)])), (a4, .inl (E.1, R4.1, .inr (.inl R4.2.1))), ((ad 5), .inr (0, [.int (nI 65536), .ref a5, .int (nI R5.2.2)])), (a5, .inl (E.1, R5.1, .inr (.inl R5.2.1)))] sz)) (va_A [(h0, .inr (2, [.ref (ad 0), .ref (ad 1), .ref (ad 2), .ref (ad 3), .ref (ad 4), .ref (ad 5), .int sn])), ((ad 0), .inr (4, [.ref ed, .int (nI k), .int mo9])), ((ad 2), .inr (0, [.int (nI 2049), .ref a2, .int (nI R2.2.2)])), (a2, .inl (E.1, R2.1, .inr (.inl R2.2.1))), ((ad 3), .inr (0, [.int (nI 65536), .ref a3, .int (nI R3.2.2)])), (a3, .inl (E.1, R3.1, .inr (.inl R3.2.1))), ((ad 4), .inr (0, [.int (nI 65536), .ref a4, .int (nI R4.2.2)])), (a4, .inl (E.1, R4.1, .inr (.inl R4.2.1))), ((ad 5), .inr (0, [.int (nI 65536), .ref a5, .int (nI R5.2.2)])), (a5, .inl (E.1, R5.1, .inr (.inl R5.2.1)))] sz)) (k4 (fp_a R3.2.1 B k R4) R4 (fp_u (fp_a R3.2.1 B k R4) R5) R5) (p4 (fp_a R3.2.1 B k R4) R4 (fp_u (fp_a R3.2.1 B k R4) R5) R5) (va_A [(h0, .inr (2, [.ref (ad 0), .ref (ad 1), .ref (ad 2), .ref (ad 3), .ref (ad 4), .ref (ad 5), .int sn])), ((ad 0), .inr (4, [.ref ed, .int (nI k), .int mo9])), ((ad 2), .inr (0, [.int (nI 2049), .ref a2, .int (nI R2.2.2)])), (a2, .inl (E.1, R2.1, .inr (.inl R2.2.1))), ((ad 3), .inr (0, [.int (nI 65536), .ref a3, .int (nI R3.2.2)])), (a3, .inl (E.1, R3.1, .inr (.inl R3.2.1))), ((ad 4), .inr (0, [.int (nI 65536), .ref a4, .int (nI R4.2.2)])), (a4, .inl (E.1, R4.1, .inr (.inl R4.2.1))), ((ad 5), .inr (0, [.int (nI 65536), .ref a5, .int (nI R5.2.2)])), (a5, .inl (E.1, R5.1, .inr (.inl R5.2.1)))] sz) := by
  refine wr_ofW (Qc := fun A => (va_Qv (fun (u : Nat × Nat) => True) (wB D (fun u => [(h0, .inr (2, [.ref (ad 0), .ref (ad 1), .ref (ad 2), .ref (ad 3), .ref (ad 4), .ref (ad 5), .int sn])), ((ad 0), .inr (4, [.ref ed, .int (nI k), .int mo9])), ((ad 2), .inr (0, [.int (nI 2049), .ref a2, .int (nI R2.2.2)])), (a2, .inl (E.1, R2.1, .inr (.inl R2.2.1))), ((ad 3), .inr (0, [.int (nI 65536), .ref a3, .int (nI R3.2.2)])), (a3, .inl (E.1, R3.1, .inr (.inl R3.2.1))), ((ad 4), .inr (0, [.int (nI 65536), .ref u.1, .int (nI (mh_m (fp_a R3.2.1 B k R4)).2.2)])), (u.1, .inl (E.1, (mh_m (fp_a R3.2.1 B k R4)).1, .inr (.inl ((mh_m (fp_a R3.2.1 B k R4)).2.1)))), ((ad 5), .inr (0, [.int (nI 65536), .ref u.2, .int (nI (fp_u (fp_a R3.2.1 B k R4) R5).2.2)])), (u.2, .inl (E.1, (fp_u (fp_a R3.2.1 B k R4) R5).1, .inr (.inl ((fp_u (fp_a R3.2.1 B k R4) R5).2.1))))]) A) A)) (by decide) (Nat.le_of_ble_eq_true rfl) ?_
  intro p e s m below meth c B hP hK A hA hD hS ls hl
  obtain ⟨hx, hb, hrt, hml, hown, hts, hG, hlocks, hin⟩ := B
  have hl : lv_has ls 7 [(0, .ref h0)] := hl
  obtain ⟨Q, hQ⟩ : ∃ Q, Q = (fp_a R3.2.1 B k R4) := ⟨_, rfl⟩
  rw [← hQ]
  obtain ⟨V, hV⟩ : ∃ V, V = fp_u Q R5 := ⟨_, rfl⟩
  rw [← hV]
  have oq := fp_s_ok (f3 := R3.2.1) (B := B) (k := k) (k + 1) 0 R4 ho4
  have oq : rs_ok 65536 Q ∧ R4.1 ≤ Q.1 := by rw [hQ]; exact oq
  have ov := fp_u_ok (Q := Q) ho5
  rw [← hV] at ov
  rw [fp_a] at hQ
  have eC : k4 Q R4 V R5 = (Q.1 - R4.1) + (V.1 - R5.1) := rfl
  have eS : p4 Q R4 V R5 = (pot 65536 R4.1 - pot 65536 Q.1) + (pot 65536 R5.1 - pot 65536 V.1) := rfl
  have b32 := ho3.2.1
  have b33 := ho3.2.2
  have b22 := ho2.2.1
  have b23 := ho2.2.2
  have ov2 := pot_anti (m := 65536) ov.2
  have oq2 := pot_anti (m := 65536) oq.2
  refine lv_iconst (v := 0) hx hb d_P_findPieces_0 (by decide) ?_
  refine lv_istore_n (lv' := [(1, .int 0), (0, .ref h0)]) hx hb d_P_findPieces_1 rfl hl (by decide) rfl (fun ls hl => ?_)
  have outer : ∀ (fu : Nat) (i : Nat) (R : RS) (b4 : Nat) (H : Heap) (locs : List Loc) (ls : Array Slot), (i ≤ k) → (k < i + fu) → (fp_s R3.2.1 B k fu i R = Q) → (rs_ok 65536 R) → (R4.1 ≤ R.1) → (R.2.2 ≤ B i) → va_P D vwC [(h0, .inr (2, [.ref (ad 0), .ref (ad 1), .ref (ad 2), .ref (ad 3), .ref (ad 4), .ref (ad 5), .int sn])), ((ad 0), .inr (4, [.ref ed, .int (nI k), .int mo9])), ((ad 2), .inr (0, [.int (nI 2049), .ref a2, .int (nI R2.2.2)])), (a2, .inl (E.1, R2.1, .inr (.inl R2.2.1))), ((ad 3), .inr (0, [.int (nI 65536), .ref a3, .int (nI R3.2.2)])), (a3, .inl (E.1, R3.1, .inr (.inl R3.2.1))), ((ad 4), .inr (0, [.int (nI 65536), .ref b4, .int (nI R.2.2)])), (b4, .inl (E.1, R.1, .inr (.inl R.2.1))), ((ad 5), .inr (0, [.int (nI 65536), .ref a5, .int (nI R5.2.2)])), (a5, .inl (E.1, R5.1, .inr (.inl R5.2.1)))] H → va_D A [(h0, .inr (2, [.ref (ad 0), .ref (ad 1), .ref (ad 2), .ref (ad 3), .ref (ad 4), .ref (ad 5), .int sn])), ((ad 0), .inr (4, [.ref ed, .int (nI k), .int mo9])), ((ad 2), .inr (0, [.int (nI 2049), .ref a2, .int (nI R2.2.2)])), (a2, .inl (E.1, R2.1, .inr (.inl R2.2.1))), ((ad 3), .inr (0, [.int (nI 65536), .ref a3, .int (nI R3.2.2)])), (a3, .inl (E.1, R3.1, .inr (.inl R3.2.1))), ((ad 4), .inr (0, [.int (nI 65536), .ref b4, .int (nI R.2.2)])), (b4, .inl (E.1, R.1, .inr (.inl R.2.1))), ((ad 5), .inr (0, [.int (nI 65536), .ref a5, .int (nI R5.2.2)])), (a5, .inl (E.1, R5.1, .inr (.inl R5.2.1)))] → va_S A s.heap H locs → lv_has ls 7 [(0, .ref h0), (1, .int (nI i))] → W p l e ({ frames := 4, cells := (k4 Q R4 V R5), slots := (p4 Q R4 V R5), locals := 135 } : Room) s m ([.ref h0] : List Value).toArray below meth c H locs (R.1 - R4.1) (pot 65536 R4.1 - pot 65536 R.1) (MQ below (va_Qv (fun (u : Nat × Nat) => True) (wB D (fun u => [(h0, .inr (2, [.ref (ad 0), .ref (ad 1), .ref (ad 2), .ref (ad 3), .ref (ad 4), .ref (ad 5), .int sn])), ((ad 0), .inr (4, [.ref ed, .int (nI k), .int mo9])), ((ad 2), .inr (0, [.int (nI 2049), .ref a2, .int (nI R2.2.2)])), (a2, .inl (E.1, R2.1, .inr (.inl R2.2.1))), ((ad 3), .inr (0, [.int (nI 65536), .ref a3, .int (nI R3.2.2)])), (a3, .inl (E.1, R3.1, .inr (.inl R3.2.1))), ((ad 4), .inr (0, [.int (nI 65536), .ref u.1, .int (nI (mh_m Q).2.2)])), (u.1, .inl (E.1, (mh_m Q).1, .inr (.inl ((mh_m Q).2.1)))), ((ad 5), .inr (0, [.int (nI 65536), .ref u.2, .int (nI V.2.2)])), (u.2, .inl (E.1, V.1, .inr (.inl V.2.1)))]) A) A) ([.ref h0] : List Value).toArray s (k4 Q R4 V R5) (p4 Q R4 V R5) A) (F0 m 2 ls []) := by
    intro fu
    induction fu with
    | zero =>
      intro i R b4 H locs ls h1 h2 h3 h4 h5 h6 hP hD hS hl
      omega
    | succ fu ihO =>
      intro i R b4 H locs ls h1 h2 h3 h4 h5 h6 hP hD hS hl
      have o1 := (fp_s_ok (f3 := R3.2.1) (B := B) (k := k) (fu + 1) i R h4).2
      rw [h3] at o1
      have o2 := pot_anti (m := 65536) o1
      have o3 := pot_anti (m := 65536) h5
      rw [fp_s] at h3
      refine lv_iload_n hx hb d_P_findPieces_2 rfl (lv_at hl 1 rfl) ?_
      refine lv_aload_n hx hb d_P_findPieces_3 rfl (lv_at hl 0 rfl) ?_
      refine va_get (D := D) (ci := 2) (v := .ref (ad 0)) (C := K_P) (T := F_P) (N := 7) hx hb hG in_P hown hK.1 hP 0 rfl rfl 0 (by decide) (hG _ wd_109) (fun _ h9 => h9) rfl d_P_findPieces_4 ?_
      have hPc := hP.sub (ws' := [((ad 0), .inr (4, [.ref ed, .int (nI k), .int mo9]))]) [1] rfl
      refine vp_callSi (W.runV (As := []) (rest := [.int (nI i)]) ⟨hx, hb, hml, hown, hts⟩ (k_A_size l D E (ad 0) (.ref ed) (nI k) mo9) (cwV 0 hts (gw_gv wd_135 wd_136 wd_137 wd_40 wd_138) rfl rfl rfl (by decide +kernel) ⟨Nat.le_of_ble_eq_true rfl, Nat.le_of_ble_eq_true rfl⟩) (rP_V 0 hPc hK rfl rfl) rfl rfl hl.1 rfl (lv_room (Nat.le_of_ble_eq_true rfl)) d_P_findPieces_7 ⟨by show _ ≤ k4 Q R4 V R5; omega, by show _ ≤ p4 Q R4 V R5; omega⟩) (fun r1 hr1 => ?_)
      subst hr1
      refine lv_icmp_ge (tgt := 89) hx hb d_P_findPieces_10 (by decide) (fun c1 => ?_) (fun c1 => ?_)
      · have q9 : ¬ i < k := by have := (nI_leI (by omega) (by omega)).mp c1; omega
        rw [if_neg q9] at h3
        subst h3
        refine lv_aload_n hx hb d_P_findPieces_89 rfl (lv_at hl 0 rfl) ?_
        refine va_get (D := D) (ci := 2) (v := .ref (ad 4)) (C := K_P) (T := F_P) (N := 7) hx hb hG in_P hown hK.1 hP 0 rfl rfl 4 (by decide) (hG _ wd_113) (fun _ h9 => h9) rfl d_P_findPieces_90 ?_
        obtain ⟨qa, qb, qc⟩ := id h4
        have hPc := hP.sub (ws' := [((ad 4), .inr (0, [.int (nI 65536), .ref b4, .int (nI R.2.2)])), (b4, .inl (E.1, R.1, .inr (.inl R.2.1)))]) [6, 7] rfl
        have hDc := hD.sub (ws' := [((ad 4), .inr (0, [.int (nI 65536), .ref b4, .int (nI R.2.2)])), (b4, .inl (E.1, R.1, .inr (.inl R.2.1)))]) [6, 7] (by decide) rfl
        have hFc := va_free (wc := [((ad 4), .inr (0, [.int (nI 65536), .ref b4, .int (nI R.2.2)])), (b4, .inl (E.1, R.1, .inr (.inl R.2.1)))]) hD hS hA [6, 7] rfl
        refine va_callv (va_runV (As := []) (rest := []) ⟨hx, hb, hml, hown, hts⟩ (k_R_sort l D E (ad 4) b4 H.size (nI 65536) R.2.2 R.1 R.2.1 qb (by omega)) (cwV 0 hts (gw_gv wd_403 wd_404 wd_405 wd_41 wd_406) rfl rfl rfl (by decide +kernel) ⟨Nat.le_of_ble_eq_true rfl, Nat.le_of_ble_eq_true rfl⟩) (wP_V 0 hPc hK hDc rfl rfl) rfl rfl hl.1 rfl (lv_room (Nat.le_of_ble_eq_true rfl)) d_P_findPieces_93 ⟨by show _ ≤ k4 R R4 V R5; omega, by show _ ≤ p4 R R4 V R5; omega⟩) hS (fun q _ h => hFc q h) hFc (fun u9 t H1 locs ht hvm hw hB hz1 hk1 hS => ?_)
        obtain ⟨hP1, hD1⟩ := hB
        rw [ht] at hP1
        obtain ⟨hP, hD⟩ := va_join (wr := [(h0, .inr (2, [.ref (ad 0), .ref (ad 1), .ref (ad 2), .ref (ad 3), .ref (ad 4), .ref (ad 5), .int sn])), ((ad 0), .inr (4, [.ref ed, .int (nI k), .int mo9])), ((ad 2), .inr (0, [.int (nI 2049), .ref a2, .int (nI R2.2.2)])), (a2, .inl (E.1, R2.1, .inr (.inl R2.2.1))), ((ad 3), .inr (0, [.int (nI 65536), .ref a3, .int (nI R3.2.2)])), (a3, .inl (E.1, R3.1, .inr (.inl R3.2.1))), ((ad 5), .inr (0, [.int (nI 65536), .ref a5, .int (nI R5.2.2)])), (a5, .inl (E.1, R5.1, .inr (.inl R5.2.1)))]) (w1 := [((ad 4), .inr (0, [.int (nI 65536), .ref b4, .int (nI (R.1, (ps_sort R.2.2 R.2.1), R.2.2).2.2)])), (b4, .inl (E.1, (R.1, (ps_sort R.2.2 R.2.1), R.2.2).1, .inr (.inl ((R.1, (ps_sort R.2.2 R.2.1), R.2.2).2.1))))]) hP hD [6, 7] [0, 1, 2, 3, 4, 5, 8, 9] rfl rfl (by decide) (by decide) hk1 hFc hP1 hD1
        generalize H1 = H at hP hS ⊢
        have hP : va_P D vwC [(h0, .inr (2, [.ref (ad 0), .ref (ad 1), .ref (ad 2), .ref (ad 3), .ref (ad 4), .ref (ad 5), .int sn])), ((ad 0), .inr (4, [.ref ed, .int (nI k), .int mo9])), ((ad 2), .inr (0, [.int (nI 2049), .ref a2, .int (nI R2.2.2)])), (a2, .inl (E.1, R2.1, .inr (.inl R2.2.1))), ((ad 3), .inr (0, [.int (nI 65536), .ref a3, .int (nI R3.2.2)])), (a3, .inl (E.1, R3.1, .inr (.inl R3.2.1))), ((ad 5), .inr (0, [.int (nI 65536), .ref a5, .int (nI R5.2.2)])), (a5, .inl (E.1, R5.1, .inr (.inl R5.2.1))), ((ad 4), .inr (0, [.int (nI 65536), .ref b4, .int (nI (R.1, (ps_sort R.2.2 R.2.1), R.2.2).2.2)])), (b4, .inl (E.1, (R.1, (ps_sort R.2.2 R.2.1), R.2.2).1, .inr (.inl ((R.1, (ps_sort R.2.2 R.2.1), R.2.2).2.1))))] H := hP
        have hD : va_D A [(h0, .inr (2, [.ref (ad 0), .ref (ad 1), .ref (ad 2), .ref (ad 3), .ref (ad 4), .ref (ad 5), .int sn])), ((ad 0), .inr (4, [.ref ed, .int (nI k), .int mo9])), ((ad 2), .inr (0, [.int (nI 2049), .ref a2, .int (nI R2.2.2)])), (a2, .inl (E.1, R2.1, .inr (.inl R2.2.1))), ((ad 3), .inr (0, [.int (nI 65536), .ref a3, .int (nI R3.2.2)])), (a3, .inl (E.1, R3.1, .inr (.inl R3.2.1))), ((ad 5), .inr (0, [.int (nI 65536), .ref a5, .int (nI R5.2.2)])), (a5, .inl (E.1, R5.1, .inr (.inl R5.2.1))), ((ad 4), .inr (0, [.int (nI 65536), .ref b4, .int (nI (R.1, (ps_sort R.2.2 R.2.1), R.2.2).2.2)])), (b4, .inl (E.1, (R.1, (ps_sort R.2.2 R.2.1), R.2.2).1, .inr (.inl ((R.1, (ps_sort R.2.2 R.2.1), R.2.2).2.1))))] := hD
        have hP := hP.sub (ws' := [(h0, .inr (2, [.ref (ad 0), .ref (ad 1), .ref (ad 2), .ref (ad 3), .ref (ad 4), .ref (ad 5), .int sn])), ((ad 0), .inr (4, [.ref ed, .int (nI k), .int mo9])), ((ad 2), .inr (0, [.int (nI 2049), .ref a2, .int (nI R2.2.2)])), (a2, .inl (E.1, R2.1, .inr (.inl R2.2.1))), ((ad 3), .inr (0, [.int (nI 65536), .ref a3, .int (nI R3.2.2)])), (a3, .inl (E.1, R3.1, .inr (.inl R3.2.1))), ((ad 4), .inr (0, [.int (nI 65536), .ref b4, .int (nI (R.1, (ps_sort R.2.2 R.2.1), R.2.2).2.2)])), (b4, .inl (E.1, (R.1, (ps_sort R.2.2 R.2.1), R.2.2).1, .inr (.inl ((R.1, (ps_sort R.2.2 R.2.1), R.2.2).2.1)))), ((ad 5), .inr (0, [.int (nI 65536), .ref a5, .int (nI R5.2.2)])), (a5, .inl (E.1, R5.1, .inr (.inl R5.2.1)))]) [0, 1, 2, 3, 4, 5, 8, 9, 6, 7] rfl
        have hD := hD.sub (ws' := [(h0, .inr (2, [.ref (ad 0), .ref (ad 1), .ref (ad 2), .ref (ad 3), .ref (ad 4), .ref (ad 5), .int sn])), ((ad 0), .inr (4, [.ref ed, .int (nI k), .int mo9])), ((ad 2), .inr (0, [.int (nI 2049), .ref a2, .int (nI R2.2.2)])), (a2, .inl (E.1, R2.1, .inr (.inl R2.2.1))), ((ad 3), .inr (0, [.int (nI 65536), .ref a3, .int (nI R3.2.2)])), (a3, .inl (E.1, R3.1, .inr (.inl R3.2.1))), ((ad 4), .inr (0, [.int (nI 65536), .ref b4, .int (nI (R.1, (ps_sort R.2.2 R.2.1), R.2.2).2.2)])), (b4, .inl (E.1, (R.1, (ps_sort R.2.2 R.2.1), R.2.2).1, .inr (.inl ((R.1, (ps_sort R.2.2 R.2.1), R.2.2).2.1)))), ((ad 5), .inr (0, [.int (nI 65536), .ref a5, .int (nI R5.2.2)])), (a5, .inl (E.1, R5.1, .inr (.inl R5.2.1)))]) [0, 1, 2, 3, 4, 5, 8, 9, 6, 7] (by decide) rfl
        refine lv_aload_n hx hb d_P_findPieces_96 rfl (lv_at hl 0 rfl) ?_
        refine va_get (D := D) (ci := 2) (v := .ref (ad 4)) (C := K_P) (T := F_P) (N := 7) hx hb hG in_P hown hK.1 hP 0 rfl rfl 4 (by decide) (hG _ wd_113) (fun _ h9 => h9) rfl d_P_findPieces_97 ?_
        refine lv_aload_n hx hb d_P_findPieces_100 rfl (lv_at hl 0 rfl) ?_
        refine va_get (D := D) (ci := 2) (v := .ref (ad 5)) (C := K_P) (T := F_P) (N := 7) hx hb hG in_P hown hK.1 hP 0 rfl rfl 5 (by decide) (hG _ wd_114) (fun _ h9 => h9) rfl d_P_findPieces_101 ?_
        have hPc := hP.sub (ws' := [((ad 4), .inr (0, [.int (nI 65536), .ref b4, .int (nI (R.1, (ps_sort R.2.2 R.2.1), R.2.2).2.2)])), (b4, .inl (E.1, (R.1, (ps_sort R.2.2 R.2.1), R.2.2).1, .inr (.inl ((R.1, (ps_sort R.2.2 R.2.1), R.2.2).2.1)))), ((ad 5), .inr (0, [.int (nI 65536), .ref a5, .int (nI R5.2.2)])), (a5, .inl (E.1, R5.1, .inr (.inl R5.2.1)))]) [6, 7, 8, 9] rfl
        have hDc := hD.sub (ws' := [((ad 4), .inr (0, [.int (nI 65536), .ref b4, .int (nI (R.1, (ps_sort R.2.2 R.2.1), R.2.2).2.2)])), (b4, .inl (E.1, (R.1, (ps_sort R.2.2 R.2.1), R.2.2).1, .inr (.inl ((R.1, (ps_sort R.2.2 R.2.1), R.2.2).2.1)))), ((ad 5), .inr (0, [.int (nI 65536), .ref a5, .int (nI R5.2.2)])), (a5, .inl (E.1, R5.1, .inr (.inl R5.2.1)))]) [6, 7, 8, 9] (by decide) rfl
        have hFc := va_free (wc := [((ad 4), .inr (0, [.int (nI 65536), .ref b4, .int (nI (R.1, (ps_sort R.2.2 R.2.1), R.2.2).2.2)])), (b4, .inl (E.1, (R.1, (ps_sort R.2.2 R.2.1), R.2.2).1, .inr (.inl ((R.1, (ps_sort R.2.2 R.2.1), R.2.2).2.1)))), ((ad 5), .inr (0, [.int (nI 65536), .ref a5, .int (nI R5.2.2)])), (a5, .inl (E.1, R5.1, .inr (.inl R5.2.1)))]) hD hS hA [6, 7, 8, 9] rfl
        refine va_callv (va_runV (As := [.ref (ad 5)]) (rest := []) ⟨hx, hb, hml, hown, hts⟩ (k_R_countEqual l D E (ad 4) b4 (ad 5) a5 H.size 65536 (nI 65536) R.2.2 R.1 (ps_sort R.2.2 R.2.1) R5.2.2 R5.1 R5.2.1 qb (by omega) ho5 (by omega) (by omega)) (cwV 1 hts (gw_gv wd_558 wd_559 wd_560 wd_41 wd_561) rfl rfl rfl (by decide +kernel) ⟨Nat.le_of_ble_eq_true rfl, Nat.le_of_ble_eq_true rfl⟩) (wP_V 0 hPc hK hDc rfl rfl) rfl rfl hl.1 rfl (lv_room (Nat.le_of_ble_eq_true rfl)) d_P_findPieces_104 ⟨by rw [show ce_go 65536 (ps_sort R.2.2 R.2.1) R.2.2 (R.2.2 + 1) 1 0 (R5.1, R5.2.1, R5.2.2) = V from hV.symm]; show _ + (V.1 - R5.1) ≤ k4 R R4 V R5; omega, by rw [show ce_go 65536 (ps_sort R.2.2 R.2.1) R.2.2 (R.2.2 + 1) 1 0 (R5.1, R5.2.1, R5.2.2) = V from hV.symm]; show _ + (pot 65536 R5.1 - pot 65536 V.1) ≤ p4 R R4 V R5; omega⟩) hS (fun q _ h => hFc q h) hFc (fun u5 t H1 locs ht hvm hw hB hz1 hk1 hS => ?_)
        obtain ⟨hP1, hD1⟩ := hB
        rw [ht] at hP1
        rw [show ce_go 65536 (ps_sort R.2.2 R.2.1) R.2.2 (R.2.2 + 1) 1 0 (R5.1, R5.2.1, R5.2.2) = V from hV.symm] at hP1 hD1
        obtain ⟨hP, hD⟩ := va_join (wr := [(h0, .inr (2, [.ref (ad 0), .ref (ad 1), .ref (ad 2), .ref (ad 3), .ref (ad 4), .ref (ad 5), .int sn])), ((ad 0), .inr (4, [.ref ed, .int (nI k), .int mo9])), ((ad 2), .inr (0, [.int (nI 2049), .ref a2, .int (nI R2.2.2)])), (a2, .inl (E.1, R2.1, .inr (.inl R2.2.1))), ((ad 3), .inr (0, [.int (nI 65536), .ref a3, .int (nI R3.2.2)])), (a3, .inl (E.1, R3.1, .inr (.inl R3.2.1)))]) (w1 := [((ad 4), .inr (0, [.int (nI 65536), .ref b4, .int (nI (R.1, (ps_sort R.2.2 R.2.1), R.2.2).2.2)])), (b4, .inl (E.1, (R.1, (ps_sort R.2.2 R.2.1), R.2.2).1, .inr (.inl ((R.1, (ps_sort R.2.2 R.2.1), R.2.2).2.1)))), ((ad 5), .inr (0, [.int (nI 65536), .ref u5, .int (nI V.2.2)])), (u5, .inl (E.1, V.1, .inr (.inl V.2.1)))]) hP hD [6, 7, 8, 9] [0, 1, 2, 3, 4, 5] rfl rfl (by decide) (by decide) hk1 hFc hP1 hD1
        generalize H1 = H at hP hS ⊢
        have hP : va_P D vwC [(h0, .inr (2, [.ref (ad 0), .ref (ad 1), .ref (ad 2), .ref (ad 3), .ref (ad 4), .ref (ad 5), .int sn])), ((ad 0), .inr (4, [.ref ed, .int (nI k), .int mo9])), ((ad 2), .inr (0, [.int (nI 2049), .ref a2, .int (nI R2.2.2)])), (a2, .inl (E.1, R2.1, .inr (.inl R2.2.1))), ((ad 3), .inr (0, [.int (nI 65536), .ref a3, .int (nI R3.2.2)])), (a3, .inl (E.1, R3.1, .inr (.inl R3.2.1))), ((ad 4), .inr (0, [.int (nI 65536), .ref b4, .int (nI (R.1, (ps_sort R.2.2 R.2.1), R.2.2).2.2)])), (b4, .inl (E.1, (R.1, (ps_sort R.2.2 R.2.1), R.2.2).1, .inr (.inl ((R.1, (ps_sort R.2.2 R.2.1), R.2.2).2.1)))), ((ad 5), .inr (0, [.int (nI 65536), .ref u5, .int (nI V.2.2)])), (u5, .inl (E.1, V.1, .inr (.inl V.2.1)))] H := hP
        have hD : va_D A [(h0, .inr (2, [.ref (ad 0), .ref (ad 1), .ref (ad 2), .ref (ad 3), .ref (ad 4), .ref (ad 5), .int sn])), ((ad 0), .inr (4, [.ref ed, .int (nI k), .int mo9])), ((ad 2), .inr (0, [.int (nI 2049), .ref a2, .int (nI R2.2.2)])), (a2, .inl (E.1, R2.1, .inr (.inl R2.2.1))), ((ad 3), .inr (0, [.int (nI 65536), .ref a3, .int (nI R3.2.2)])), (a3, .inl (E.1, R3.1, .inr (.inl R3.2.1))), ((ad 4), .inr (0, [.int (nI 65536), .ref b4, .int (nI (R.1, (ps_sort R.2.2 R.2.1), R.2.2).2.2)])), (b4, .inl (E.1, (R.1, (ps_sort R.2.2 R.2.1), R.2.2).1, .inr (.inl ((R.1, (ps_sort R.2.2 R.2.1), R.2.2).2.1)))), ((ad 5), .inr (0, [.int (nI 65536), .ref u5, .int (nI V.2.2)])), (u5, .inl (E.1, V.1, .inr (.inl V.2.1)))] := hD
        rw [show ce_go 65536 (ps_sort R.2.2 R.2.1) R.2.2 (R.2.2 + 1) 1 0 (R5.1, R5.2.1, R5.2.2) = V from hV.symm]
        refine W.widen (k := (k4 R R4 V R5)) (n := (p4 R R4 V R5)) (by omega) (by omega) ?_
        refine lv_aload_n hx hb d_P_findPieces_107 rfl (lv_at hl 0 rfl) ?_
        refine va_get (D := D) (ci := 2) (v := .ref (ad 4)) (C := K_P) (T := F_P) (N := 7) hx hb hG in_P hown hK.1 hP 0 rfl rfl 4 (by decide) (hG _ wd_113) (fun _ h9 => h9) rfl d_P_findPieces_108 ?_
        have hPc := hP.sub (ws' := [((ad 4), .inr (0, [.int (nI 65536), .ref b4, .int (nI (R.1, (ps_sort R.2.2 R.2.1), R.2.2).2.2)])), (b4, .inl (E.1, (R.1, (ps_sort R.2.2 R.2.1), R.2.2).1, .inr (.inl ((R.1, (ps_sort R.2.2 R.2.1), R.2.2).2.1))))]) [6, 7] rfl
        have hDc := hD.sub (ws' := [((ad 4), .inr (0, [.int (nI 65536), .ref b4, .int (nI (R.1, (ps_sort R.2.2 R.2.1), R.2.2).2.2)])), (b4, .inl (E.1, (R.1, (ps_sort R.2.2 R.2.1), R.2.2).1, .inr (.inl ((R.1, (ps_sort R.2.2 R.2.1), R.2.2).2.1))))]) [6, 7] (by decide) rfl
        have hFc := va_free (wc := [((ad 4), .inr (0, [.int (nI 65536), .ref b4, .int (nI (R.1, (ps_sort R.2.2 R.2.1), R.2.2).2.2)])), (b4, .inl (E.1, (R.1, (ps_sort R.2.2 R.2.1), R.2.2).1, .inr (.inl ((R.1, (ps_sort R.2.2 R.2.1), R.2.2).2.1))))]) hD hS hA [6, 7] rfl
        refine va_callv (va_runV (As := []) (rest := []) ⟨hx, hb, hml, hown, hts⟩ (k_R_keepDistinct l D E (ad 4) b4 H.size (nI 65536) R.2.2 R.1 (ps_sort R.2.2 R.2.1) qb (by omega)) (cwV 0 hts (gw_gv wd_411 wd_412 wd_413 wd_41 wd_414) rfl rfl rfl (by decide +kernel) ⟨Nat.le_of_ble_eq_true rfl, Nat.le_of_ble_eq_true rfl⟩) (wP_V 0 hPc hK hDc rfl rfl) rfl rfl hl.1 rfl (lv_room (Nat.le_of_ble_eq_true rfl)) d_P_findPieces_111 ⟨Nat.le_refl _, Nat.le_refl _⟩) hS (fun q _ h => hFc q h) hFc (fun u9 t H1 locs ht hvm hw hB hz1 hk1 hS => ?_)
        obtain ⟨hP1, hD1⟩ := hB
        rw [ht] at hP1
        obtain ⟨hP, hD⟩ := va_join (wr := [(h0, .inr (2, [.ref (ad 0), .ref (ad 1), .ref (ad 2), .ref (ad 3), .ref (ad 4), .ref (ad 5), .int sn])), ((ad 0), .inr (4, [.ref ed, .int (nI k), .int mo9])), ((ad 2), .inr (0, [.int (nI 2049), .ref a2, .int (nI R2.2.2)])), (a2, .inl (E.1, R2.1, .inr (.inl R2.2.1))), ((ad 3), .inr (0, [.int (nI 65536), .ref a3, .int (nI R3.2.2)])), (a3, .inl (E.1, R3.1, .inr (.inl R3.2.1))), ((ad 5), .inr (0, [.int (nI 65536), .ref u5, .int (nI V.2.2)])), (u5, .inl (E.1, V.1, .inr (.inl V.2.1)))]) (w1 := [((ad 4), .inr (0, [.int (nI 65536), .ref b4, .int (nI (mh_m R).2.2)])), (b4, .inl (E.1, (mh_m R).1, .inr (.inl ((mh_m R).2.1))))]) hP hD [6, 7] [0, 1, 2, 3, 4, 5, 8, 9] rfl rfl (by decide) (by decide) hk1 hFc hP1 hD1
        generalize H1 = H at hP hS ⊢
        have hP : va_P D vwC [(h0, .inr (2, [.ref (ad 0), .ref (ad 1), .ref (ad 2), .ref (ad 3), .ref (ad 4), .ref (ad 5), .int sn])), ((ad 0), .inr (4, [.ref ed, .int (nI k), .int mo9])), ((ad 2), .inr (0, [.int (nI 2049), .ref a2, .int (nI R2.2.2)])), (a2, .inl (E.1, R2.1, .inr (.inl R2.2.1))), ((ad 3), .inr (0, [.int (nI 65536), .ref a3, .int (nI R3.2.2)])), (a3, .inl (E.1, R3.1, .inr (.inl R3.2.1))), ((ad 5), .inr (0, [.int (nI 65536), .ref u5, .int (nI V.2.2)])), (u5, .inl (E.1, V.1, .inr (.inl V.2.1))), ((ad 4), .inr (0, [.int (nI 65536), .ref b4, .int (nI (mh_m R).2.2)])), (b4, .inl (E.1, (mh_m R).1, .inr (.inl ((mh_m R).2.1))))] H := hP
        have hD : va_D A [(h0, .inr (2, [.ref (ad 0), .ref (ad 1), .ref (ad 2), .ref (ad 3), .ref (ad 4), .ref (ad 5), .int sn])), ((ad 0), .inr (4, [.ref ed, .int (nI k), .int mo9])), ((ad 2), .inr (0, [.int (nI 2049), .ref a2, .int (nI R2.2.2)])), (a2, .inl (E.1, R2.1, .inr (.inl R2.2.1))), ((ad 3), .inr (0, [.int (nI 65536), .ref a3, .int (nI R3.2.2)])), (a3, .inl (E.1, R3.1, .inr (.inl R3.2.1))), ((ad 5), .inr (0, [.int (nI 65536), .ref u5, .int (nI V.2.2)])), (u5, .inl (E.1, V.1, .inr (.inl V.2.1))), ((ad 4), .inr (0, [.int (nI 65536), .ref b4, .int (nI (mh_m R).2.2)])), (b4, .inl (E.1, (mh_m R).1, .inr (.inl ((mh_m R).2.1))))] := hD
        have hP := hP.sub (ws' := [(h0, .inr (2, [.ref (ad 0), .ref (ad 1), .ref (ad 2), .ref (ad 3), .ref (ad 4), .ref (ad 5), .int sn])), ((ad 0), .inr (4, [.ref ed, .int (nI k), .int mo9])), ((ad 2), .inr (0, [.int (nI 2049), .ref a2, .int (nI R2.2.2)])), (a2, .inl (E.1, R2.1, .inr (.inl R2.2.1))), ((ad 3), .inr (0, [.int (nI 65536), .ref a3, .int (nI R3.2.2)])), (a3, .inl (E.1, R3.1, .inr (.inl R3.2.1))), ((ad 4), .inr (0, [.int (nI 65536), .ref b4, .int (nI (mh_m R).2.2)])), (b4, .inl (E.1, (mh_m R).1, .inr (.inl ((mh_m R).2.1)))), ((ad 5), .inr (0, [.int (nI 65536), .ref u5, .int (nI V.2.2)])), (u5, .inl (E.1, V.1, .inr (.inl V.2.1)))]) [0, 1, 2, 3, 4, 5, 8, 9, 6, 7] rfl
        have hD := hD.sub (ws' := [(h0, .inr (2, [.ref (ad 0), .ref (ad 1), .ref (ad 2), .ref (ad 3), .ref (ad 4), .ref (ad 5), .int sn])), ((ad 0), .inr (4, [.ref ed, .int (nI k), .int mo9])), ((ad 2), .inr (0, [.int (nI 2049), .ref a2, .int (nI R2.2.2)])), (a2, .inl (E.1, R2.1, .inr (.inl R2.2.1))), ((ad 3), .inr (0, [.int (nI 65536), .ref a3, .int (nI R3.2.2)])), (a3, .inl (E.1, R3.1, .inr (.inl R3.2.1))), ((ad 4), .inr (0, [.int (nI 65536), .ref b4, .int (nI (mh_m R).2.2)])), (b4, .inl (E.1, (mh_m R).1, .inr (.inl ((mh_m R).2.1)))), ((ad 5), .inr (0, [.int (nI 65536), .ref u5, .int (nI V.2.2)])), (u5, .inl (E.1, V.1, .inr (.inl V.2.1)))]) [0, 1, 2, 3, 4, 5, 8, 9, 6, 7] (by decide) rfl
        exact W.vret hx hb hrt (fun t ht hW => ⟨⟨(b4, u5), rfl, trivial, ⟨by rw [ht]; exact hP, hD⟩⟩, hS.F ht⟩) hS.2.2 d_P_findPieces_114 hlocks
      · have q9 : i < k := by rw [nI_leI (by omega) (by omega)] at c1; omega
        rw [if_pos q9] at h3
        have m1 := hBm i q9
        have m2 := hBn (i + 1) (by omega)
        refine lv_aload_n hx hb d_P_findPieces_13 rfl (lv_at hl 0 rfl) ?_
        refine lv_iload_n hx hb d_P_findPieces_14 rfl (lv_at hl 1 rfl) ?_
        have hPc := hP.sub (ws' := [(h0, .inr (2, [.ref (ad 0), .ref (ad 1), .ref (ad 2), .ref (ad 3), .ref (ad 4), .ref (ad 5), .int sn])), ((ad 2), .inr (0, [.int (nI 2049), .ref a2, .int (nI R2.2.2)])), (a2, .inl (E.1, R2.1, .inr (.inl R2.2.1)))]) [0, 2, 3] rfl
        refine vp_callSi (W.runV (As := [.int (nI i)]) (rest := []) ⟨hx, hb, hml, hown, hts⟩ (k_P_chainStart l D E h0 a2 ad sn (nI i) R2 b22 (by omega)) (cwV 1 hts (gw_gv wd_552 wd_554 wd_19 wd_37 wd_555) rfl rfl rfl (by decide +kernel) ⟨Nat.le_of_ble_eq_true rfl, Nat.le_of_ble_eq_true rfl⟩) (rP_V 0 hPc hK rfl rfl) rfl rfl hl.1 rfl (lv_room (Nat.le_of_ble_eq_true rfl)) d_P_findPieces_15 ⟨by show _ ≤ k4 Q R4 V R5; omega, by show _ ≤ p4 Q R4 V R5; omega⟩) (fun r2 hr2 => ?_)
        rw [hB i (by omega)] at hr2
        subst hr2
        refine lv_iconst (v := 1) hx hb d_P_findPieces_18 (by decide) ?_
        refine lv_iadd hx hb d_P_findPieces_19 ?_
        rw [show ((nI (B i)) + 1) = nI (B i + 1) from nI_1 _]
        refine lv_istore_n (lv' := [(2, .int (nI (B i + 1))), (0, .ref h0), (1, .int (nI i))]) hx hb d_P_findPieces_20 rfl hl (by decide) rfl (fun ls hl => ?_)
        obtain ⟨X, hX⟩ : ∃ X, X = fp_i R3.2.1 65537 (B i) (B (i + 1)) R := ⟨_, rfl⟩
        rw [← hX] at h3
        have x1 := fp_i_ok (f3 := R3.2.1) 65537 (B i) (B (i + 1)) R h4
        rw [← hX] at x1
        have x2 := (fp_s_ok (f3 := R3.2.1) (B := B) (k := k) fu (i + 1) X x1.1).2
        rw [h3] at x2
        have x3 := pot_anti (m := 65536) x2
        have inner : ∀ (gu : Nat) (j : Nat) (G : RS) (b4 : Nat) (H : Heap) (locs : List Loc) (ls : Array Slot), (B i ≤ j) → (j ≤ B (i + 1)) → (B (i + 1) < j + gu) → (fp_i R3.2.1 gu j (B (i + 1)) G = X) → (rs_ok 65536 G) → (R4.1 ≤ G.1) → (G.2.2 ≤ j) → va_P D vwC [(h0, .inr (2, [.ref (ad 0), .ref (ad 1), .ref (ad 2), .ref (ad 3), .ref (ad 4), .ref (ad 5), .int sn])), ((ad 0), .inr (4, [.ref ed, .int (nI k), .int mo9])), ((ad 2), .inr (0, [.int (nI 2049), .ref a2, .int (nI R2.2.2)])), (a2, .inl (E.1, R2.1, .inr (.inl R2.2.1))), ((ad 3), .inr (0, [.int (nI 65536), .ref a3, .int (nI R3.2.2)])), (a3, .inl (E.1, R3.1, .inr (.inl R3.2.1))), ((ad 4), .inr (0, [.int (nI 65536), .ref b4, .int (nI G.2.2)])), (b4, .inl (E.1, G.1, .inr (.inl G.2.1))), ((ad 5), .inr (0, [.int (nI 65536), .ref a5, .int (nI R5.2.2)])), (a5, .inl (E.1, R5.1, .inr (.inl R5.2.1)))] H → va_D A [(h0, .inr (2, [.ref (ad 0), .ref (ad 1), .ref (ad 2), .ref (ad 3), .ref (ad 4), .ref (ad 5), .int sn])), ((ad 0), .inr (4, [.ref ed, .int (nI k), .int mo9])), ((ad 2), .inr (0, [.int (nI 2049), .ref a2, .int (nI R2.2.2)])), (a2, .inl (E.1, R2.1, .inr (.inl R2.2.1))), ((ad 3), .inr (0, [.int (nI 65536), .ref a3, .int (nI R3.2.2)])), (a3, .inl (E.1, R3.1, .inr (.inl R3.2.1))), ((ad 4), .inr (0, [.int (nI 65536), .ref b4, .int (nI G.2.2)])), (b4, .inl (E.1, G.1, .inr (.inl G.2.1))), ((ad 5), .inr (0, [.int (nI 65536), .ref a5, .int (nI R5.2.2)])), (a5, .inl (E.1, R5.1, .inr (.inl R5.2.1)))] → va_S A s.heap H locs → lv_has ls 7 [(0, .ref h0), (1, .int (nI i)), (2, .int (nI (j + 1)))] → W p l e ({ frames := 4, cells := (k4 Q R4 V R5), slots := (p4 Q R4 V R5), locals := 135 } : Room) s m ([.ref h0] : List Value).toArray below meth c H locs (G.1 - R4.1) (pot 65536 R4.1 - pot 65536 G.1) (MQ below (va_Qv (fun (u : Nat × Nat) => True) (wB D (fun u => [(h0, .inr (2, [.ref (ad 0), .ref (ad 1), .ref (ad 2), .ref (ad 3), .ref (ad 4), .ref (ad 5), .int sn])), ((ad 0), .inr (4, [.ref ed, .int (nI k), .int mo9])), ((ad 2), .inr (0, [.int (nI 2049), .ref a2, .int (nI R2.2.2)])), (a2, .inl (E.1, R2.1, .inr (.inl R2.2.1))), ((ad 3), .inr (0, [.int (nI 65536), .ref a3, .int (nI R3.2.2)])), (a3, .inl (E.1, R3.1, .inr (.inl R3.2.1))), ((ad 4), .inr (0, [.int (nI 65536), .ref u.1, .int (nI (mh_m Q).2.2)])), (u.1, .inl (E.1, (mh_m Q).1, .inr (.inl ((mh_m Q).2.1)))), ((ad 5), .inr (0, [.int (nI 65536), .ref u.2, .int (nI V.2.2)])), (u.2, .inl (E.1, V.1, .inr (.inl V.2.1)))]) A) A) ([.ref h0] : List Value).toArray s (k4 Q R4 V R5) (p4 Q R4 V R5) A) (F0 m 21 ls []) := by
          intro gu
          induction gu with
          | zero =>
            intro j G b4 H locs ls g1 g2 g3 g4 g5 g6 g7 hP hD hS hl
            omega
          | succ gu ih =>
            intro j G b4 H locs ls g1 g2 g3 g4 g5 g6 g7 hP hD hS hl
            have y1 := (fp_i_ok (f3 := R3.2.1) (gu + 1) j (B (i + 1)) G g5).2
            rw [g4] at y1
            have y2 := pot_anti (m := 65536) y1
            have y3 := pot_anti (m := 65536) g6
            rw [fp_i] at g4
            refine lv_iload_n hx hb d_P_findPieces_21 rfl (lv_at hl 2 rfl) ?_
            refine lv_aload_n hx hb d_P_findPieces_22 rfl (lv_at hl 0 rfl) ?_
            refine lv_iload_n hx hb d_P_findPieces_23 rfl (lv_at hl 1 rfl) ?_
            refine lv_iconst (v := 1) hx hb d_P_findPieces_24 (by decide) ?_
            refine lv_iadd hx hb d_P_findPieces_25 ?_
            rw [show (nI i + 1) = nI (i + 1) from nI_1 _]
            have hPc := hP.sub (ws' := [(h0, .inr (2, [.ref (ad 0), .ref (ad 1), .ref (ad 2), .ref (ad 3), .ref (ad 4), .ref (ad 5), .int sn])), ((ad 2), .inr (0, [.int (nI 2049), .ref a2, .int (nI R2.2.2)])), (a2, .inl (E.1, R2.1, .inr (.inl R2.2.1)))]) [0, 2, 3] rfl
            refine vp_callSi (W.runV (As := [.int (nI (i + 1))]) (rest := [.int (nI (j + 1))]) ⟨hx, hb, hml, hown, hts⟩ (k_P_chainStart l D E h0 a2 ad sn (nI (i + 1)) R2 b22 (by omega)) (cwV 1 hts (gw_gv wd_552 wd_554 wd_19 wd_37 wd_555) rfl rfl rfl (by decide +kernel) ⟨Nat.le_of_ble_eq_true rfl, Nat.le_of_ble_eq_true rfl⟩) (rP_V 0 hPc hK rfl rfl) rfl rfl hl.1 rfl (lv_room (Nat.le_of_ble_eq_true rfl)) d_P_findPieces_26 ⟨by show _ ≤ k4 Q R4 V R5; omega, by show _ ≤ p4 Q R4 V R5; omega⟩) (fun r3 hr3 => ?_)
            rw [hB (i + 1) (by omega)] at hr3
            subst hr3
            refine lv_icmp_ge (tgt := 83) hx hb d_P_findPieces_29 (by decide) (fun c2 => ?_) (fun c2 => ?_)
            · have q8 : ¬ j + 1 < B (i + 1) := by have := (nI_leI (by omega) (by omega)).mp c2; omega
              rw [if_neg q8] at g4
              subst g4
              refine lv_iinc (v := nI (i + 1)) (lv' := [(1, .int (nI (i + 1))), (0, .ref h0), (2, .int (nI (j + 1)))]) hx hb d_P_findPieces_83 hl (k := 1) rfl (iinc_p _) (by decide) rfl (fun ls hl => ?_)
              refine lv_goto (tgt := 2) hx hb d_P_findPieces_86 (by decide) ?_
              exact ihO (i + 1) G b4 H locs ls (by omega) (by omega) h3 g5 g6 (by omega) hP hD hS (lv_sub hl [1, 0] rfl)
            · have q8 : j + 1 < B (i + 1) := by rw [nI_leI (by omega) (by omega)] at c2; omega
              rw [if_pos q8] at g4
              refine lv_aload_n hx hb d_P_findPieces_32 rfl (lv_at hl 0 rfl) ?_
              refine va_get (D := D) (ci := 2) (v := .ref (ad 3)) (C := K_P) (T := F_P) (N := 7) hx hb hG in_P hown hK.1 hP 0 rfl rfl 3 (by decide) (hG _ wd_112) (fun _ h9 => h9) rfl d_P_findPieces_33 ?_
              refine lv_iload_n hx hb d_P_findPieces_36 rfl (lv_at hl 2 rfl) ?_
              refine lv_iconst (v := 1) hx hb d_P_findPieces_37 (by decide) ?_
              refine lv_isub hx hb d_P_findPieces_38 ?_
              rw [show (nI (j + 1) - 1) = nI j from by rw [nI_d1 (by omega)]; rfl]
              have hPc := hP.sub (ws' := [((ad 3), .inr (0, [.int (nI 65536), .ref a3, .int (nI R3.2.2)])), (a3, .inl (E.1, R3.1, .inr (.inl R3.2.1)))]) [4, 5] rfl
              refine vp_callSl (W.runV (As := [.int (nI j)]) (rest := []) ⟨hx, hb, hml, hown, hts⟩ (k_R_at l D E (ad 3) a3 (nI 65536) (nI j) R3.2.2 R3.1 R3.2.1 b32 (by omega)) (cwV 1 hts (gw_gv wd_483 wd_484 wd_485 wd_41 wd_486) rfl rfl rfl (by decide +kernel) ⟨Nat.le_of_ble_eq_true rfl, Nat.le_of_ble_eq_true rfl⟩) (rP_V 0 hPc hK rfl rfl) rfl rfl hl.1 rfl (lv_room (Nat.le_of_ble_eq_true rfl)) d_P_findPieces_39 ⟨by show _ ≤ k4 Q R4 V R5; omega, by show _ ≤ p4 Q R4 V R5; omega⟩) (fun r4 hr4 => ?_)
              rw [rw_at_in (by omega) (by omega)] at hr4
              subst hr4
              refine lv_lstore_n (lv' := [(3, .long (R3.2.1 j)), (0, .ref h0), (1, .int (nI i)), (2, .int (nI (j + 1)))]) hx hb d_P_findPieces_42 rfl hl (by decide) rfl (fun ls hl => ?_)
              refine lv_aload_n hx hb d_P_findPieces_43 rfl (lv_at hl 1 rfl) ?_
              refine va_get (D := D) (ci := 2) (v := .ref (ad 3)) (C := K_P) (T := F_P) (N := 7) hx hb hG in_P hown hK.1 hP 0 rfl rfl 3 (by decide) (hG _ wd_112) (fun _ h9 => h9) rfl d_P_findPieces_44 ?_
              refine lv_iload_n hx hb d_P_findPieces_47 rfl (lv_at hl 3 rfl) ?_
              have hPc := hP.sub (ws' := [((ad 3), .inr (0, [.int (nI 65536), .ref a3, .int (nI R3.2.2)])), (a3, .inl (E.1, R3.1, .inr (.inl R3.2.1)))]) [4, 5] rfl
              refine vp_callSl (W.runV (As := [.int (nI (j + 1))]) (rest := []) ⟨hx, hb, hml, hown, hts⟩ (k_R_at l D E (ad 3) a3 (nI 65536) (nI (j + 1)) R3.2.2 R3.1 R3.2.1 b32 (by omega)) (cwV 1 hts (gw_gv wd_483 wd_484 wd_485 wd_41 wd_486) rfl rfl rfl (by decide +kernel) ⟨Nat.le_of_ble_eq_true rfl, Nat.le_of_ble_eq_true rfl⟩) (rP_V 0 hPc hK rfl rfl) rfl rfl hl.1 rfl (lv_room (Nat.le_of_ble_eq_true rfl)) d_P_findPieces_48 ⟨by show _ ≤ k4 Q R4 V R5; omega, by show _ ≤ p4 Q R4 V R5; omega⟩) (fun r5 hr5 => ?_)
              rw [rw_at_in (by omega) (by omega)] at hr5
              subst hr5
              refine lv_lstore (lv' := [(5, .long (R3.2.1 (j + 1))), (3, .long (R3.2.1 j)), (0, .ref h0), (1, .int (nI i)), (2, .int (nI (j + 1)))]) hx hb d_P_findPieces_51 hl (by decide) rfl (fun ls hl => ?_)
              refine lv_aload_n hx hb d_P_findPieces_53 rfl (lv_at hl 2 rfl) ?_
              refine va_get (D := D) (ci := 2) (v := .ref (ad 4)) (C := K_P) (T := F_P) (N := 7) hx hb hG in_P hown hK.1 hP 0 rfl rfl 4 (by decide) (hG _ wd_113) (fun _ h9 => h9) rfl d_P_findPieces_54 ?_
              refine lv_lload_n hx hb d_P_findPieces_57 rfl (lv_at hl 1 rfl) ?_
              refine lv_lload hx hb d_P_findPieces_58 (lv_at hl 0 rfl) ?_
              refine va_mmin_long hx hb (hml.trans hl.1.symm) hown (hG _ wd_556) (hG _ wd_265) (hG _ wd_49) (hG _ wd_266) (Nat.le_of_ble_eq_true rfl) (Nat.le_of_ble_eq_true rfl) (by show _ ≤ k4 Q R4 V R5; omega) (by show _ ≤ p4 Q R4 V R5; omega) d_P_findPieces_60 ?_
              refine lv_bipush (v := 13) hx hb d_P_findPieces_63 (by decide) ?_
              refine lv_lshl hx hb d_P_findPieces_65 rfl ?_
              refine lv_lload_n hx hb d_P_findPieces_66 rfl (lv_at hl 1 rfl) ?_
              refine lv_lload hx hb d_P_findPieces_67 (lv_at hl 0 rfl) ?_
              refine va_mmax_long hx hb (hml.trans hl.1.symm) hown (hG _ wd_557) (hG _ wd_268) (hG _ wd_49) (hG _ wd_269) (Nat.le_of_ble_eq_true rfl) (Nat.le_of_ble_eq_true rfl) (by show _ ≤ k4 Q R4 V R5; omega) (by show _ ≤ p4 Q R4 V R5; omega) d_P_findPieces_69 ?_
              refine lv_lor hx hb d_P_findPieces_72 ?_
              rw [show (((if (R3.2.1 (j + 1)) < (R3.2.1 j) then (R3.2.1 (j + 1)) else (R3.2.1 j)) <<< (Int32.toInt64 13 &&& 63)) ||| (if (R3.2.1 (j + 1)) < (R3.2.1 j) then (R3.2.1 j) else (R3.2.1 (j + 1)))) = (fp_k (R3.2.1 j) (R3.2.1 (j + 1))) from rfl]
              obtain ⟨qa, qb, qc⟩ := id g5
              have e1 : rs_add 65536 G (fp_k (R3.2.1 j) (R3.2.1 (j + 1))) = (ra_n G.2.2 G.1 65536, ra_f G.2.1 G.2.2 G.1 (fp_k (R3.2.1 j) (R3.2.1 (j + 1))), G.2.2 + 1) := if_neg (by omega)
              have k1 := rs_add_ok (x := (fp_k (R3.2.1 j) (R3.2.1 (j + 1)))) g5
              have k3 := rs_add_c (x := (fp_k (R3.2.1 j) (R3.2.1 (j + 1)))) g5 (by omega)
              obtain ⟨Z, hZ9⟩ : ∃ Z, Z = rs_add 65536 G (fp_k (R3.2.1 j) (R3.2.1 (j + 1))) := ⟨_, rfl⟩
              rw [← hZ9] at g4 k1 k3 e1
              have z1 := (fp_i_ok (f3 := R3.2.1) gu (j + 1) (B (i + 1)) Z k1.1).2
              rw [g4] at z1
              have z2 := pot_anti (m := 65536) z1
              have hPc := hP.sub (ws' := [((ad 4), .inr (0, [.int (nI 65536), .ref b4, .int (nI G.2.2)])), (b4, .inl (E.1, G.1, .inr (.inl G.2.1)))]) [6, 7] rfl
              have hDc := hD.sub (ws' := [((ad 4), .inr (0, [.int (nI 65536), .ref b4, .int (nI G.2.2)])), (b4, .inl (E.1, G.1, .inr (.inl G.2.1)))]) [6, 7] (by decide) rfl
              have hFc := va_free (wc := [((ad 4), .inr (0, [.int (nI 65536), .ref b4, .int (nI G.2.2)])), (b4, .inl (E.1, G.1, .inr (.inl G.2.1)))]) hD hS hA [6, 7] rfl
              refine va_calli (va_runV (As := [.long (fp_k (R3.2.1 j) (R3.2.1 (j + 1)))]) (rest := []) ⟨hx, hb, hml, hown, hts⟩ (k_R_add l D E (ad 4) b4 H.size 65536 G.2.2 G.1 G.2.1 (fp_k (R3.2.1 j) (R3.2.1 (j + 1))) qa qb (by omega) qc (by omega)) (cwV 1 hts (gw_gv wd_415 wd_416 wd_417 wd_41 wd_418) rfl rfl rfl (by decide +kernel) ⟨Nat.le_of_ble_eq_true rfl, Nat.le_of_ble_eq_true rfl⟩) (wP_V 0 hPc hK hDc rfl rfl) rfl rfl hl.1 rfl (lv_room (Nat.le_of_ble_eq_true rfl)) d_P_findPieces_73 ⟨by show _ + ra_c G.2.2 G.1 ≤ k4 Q R4 V R5; omega, by show _ + ra_s G.2.2 G.1 65536 ≤ p4 Q R4 V R5; omega⟩) hS (fun q _ h => hFc q h) hFc (fun r9 u4 t H1 locs ht hvm hw hB hz1 hk1 hS => ?_)
              obtain ⟨hP1, hD1⟩ := hB
              rw [ht] at hP1
              have hP1 : va_P D vwC [((ad 4), .inr (0, [.int (nI 65536), .ref u4, .int (nI Z.2.2)])), (u4, .inl (E.1, Z.1, .inr (.inl Z.2.1)))] H1 := by rw [e1]; exact hP1
              have hD1 : va_D (va_A [((ad 4), .inr (0, [.int (nI 65536), .ref b4, .int (nI G.2.2)])), (b4, .inl (E.1, G.1, .inr (.inl G.2.1)))] H.size) [((ad 4), .inr (0, [.int (nI 65536), .ref u4, .int (nI Z.2.2)])), (u4, .inl (E.1, Z.1, .inr (.inl Z.2.1)))] := by rw [e1]; exact hD1
              obtain ⟨hP, hD⟩ := va_join (wr := [(h0, .inr (2, [.ref (ad 0), .ref (ad 1), .ref (ad 2), .ref (ad 3), .ref (ad 4), .ref (ad 5), .int sn])), ((ad 0), .inr (4, [.ref ed, .int (nI k), .int mo9])), ((ad 2), .inr (0, [.int (nI 2049), .ref a2, .int (nI R2.2.2)])), (a2, .inl (E.1, R2.1, .inr (.inl R2.2.1))), ((ad 3), .inr (0, [.int (nI 65536), .ref a3, .int (nI R3.2.2)])), (a3, .inl (E.1, R3.1, .inr (.inl R3.2.1))), ((ad 5), .inr (0, [.int (nI 65536), .ref a5, .int (nI R5.2.2)])), (a5, .inl (E.1, R5.1, .inr (.inl R5.2.1)))]) (w1 := [((ad 4), .inr (0, [.int (nI 65536), .ref u4, .int (nI Z.2.2)])), (u4, .inl (E.1, Z.1, .inr (.inl Z.2.1)))]) hP hD [6, 7] [0, 1, 2, 3, 4, 5, 8, 9] rfl rfl (by decide) (by decide) hk1 hFc hP1 hD1
              generalize H1 = H at hP hS ⊢
              have hP : va_P D vwC [(h0, .inr (2, [.ref (ad 0), .ref (ad 1), .ref (ad 2), .ref (ad 3), .ref (ad 4), .ref (ad 5), .int sn])), ((ad 0), .inr (4, [.ref ed, .int (nI k), .int mo9])), ((ad 2), .inr (0, [.int (nI 2049), .ref a2, .int (nI R2.2.2)])), (a2, .inl (E.1, R2.1, .inr (.inl R2.2.1))), ((ad 3), .inr (0, [.int (nI 65536), .ref a3, .int (nI R3.2.2)])), (a3, .inl (E.1, R3.1, .inr (.inl R3.2.1))), ((ad 5), .inr (0, [.int (nI 65536), .ref a5, .int (nI R5.2.2)])), (a5, .inl (E.1, R5.1, .inr (.inl R5.2.1))), ((ad 4), .inr (0, [.int (nI 65536), .ref u4, .int (nI Z.2.2)])), (u4, .inl (E.1, Z.1, .inr (.inl Z.2.1)))] H := hP
              have hD : va_D A [(h0, .inr (2, [.ref (ad 0), .ref (ad 1), .ref (ad 2), .ref (ad 3), .ref (ad 4), .ref (ad 5), .int sn])), ((ad 0), .inr (4, [.ref ed, .int (nI k), .int mo9])), ((ad 2), .inr (0, [.int (nI 2049), .ref a2, .int (nI R2.2.2)])), (a2, .inl (E.1, R2.1, .inr (.inl R2.2.1))), ((ad 3), .inr (0, [.int (nI 65536), .ref a3, .int (nI R3.2.2)])), (a3, .inl (E.1, R3.1, .inr (.inl R3.2.1))), ((ad 5), .inr (0, [.int (nI 65536), .ref a5, .int (nI R5.2.2)])), (a5, .inl (E.1, R5.1, .inr (.inl R5.2.1))), ((ad 4), .inr (0, [.int (nI 65536), .ref u4, .int (nI Z.2.2)])), (u4, .inl (E.1, Z.1, .inr (.inl Z.2.1)))] := hD
              have hP := hP.sub (ws' := [(h0, .inr (2, [.ref (ad 0), .ref (ad 1), .ref (ad 2), .ref (ad 3), .ref (ad 4), .ref (ad 5), .int sn])), ((ad 0), .inr (4, [.ref ed, .int (nI k), .int mo9])), ((ad 2), .inr (0, [.int (nI 2049), .ref a2, .int (nI R2.2.2)])), (a2, .inl (E.1, R2.1, .inr (.inl R2.2.1))), ((ad 3), .inr (0, [.int (nI 65536), .ref a3, .int (nI R3.2.2)])), (a3, .inl (E.1, R3.1, .inr (.inl R3.2.1))), ((ad 4), .inr (0, [.int (nI 65536), .ref u4, .int (nI Z.2.2)])), (u4, .inl (E.1, Z.1, .inr (.inl Z.2.1))), ((ad 5), .inr (0, [.int (nI 65536), .ref a5, .int (nI R5.2.2)])), (a5, .inl (E.1, R5.1, .inr (.inl R5.2.1)))]) [0, 1, 2, 3, 4, 5, 8, 9, 6, 7] rfl
              have hD := hD.sub (ws' := [(h0, .inr (2, [.ref (ad 0), .ref (ad 1), .ref (ad 2), .ref (ad 3), .ref (ad 4), .ref (ad 5), .int sn])), ((ad 0), .inr (4, [.ref ed, .int (nI k), .int mo9])), ((ad 2), .inr (0, [.int (nI 2049), .ref a2, .int (nI R2.2.2)])), (a2, .inl (E.1, R2.1, .inr (.inl R2.2.1))), ((ad 3), .inr (0, [.int (nI 65536), .ref a3, .int (nI R3.2.2)])), (a3, .inl (E.1, R3.1, .inr (.inl R3.2.1))), ((ad 4), .inr (0, [.int (nI 65536), .ref u4, .int (nI Z.2.2)])), (u4, .inl (E.1, Z.1, .inr (.inl Z.2.1))), ((ad 5), .inr (0, [.int (nI 65536), .ref a5, .int (nI R5.2.2)])), (a5, .inl (E.1, R5.1, .inr (.inl R5.2.1)))]) [0, 1, 2, 3, 4, 5, 8, 9, 6, 7] (by decide) rfl
              refine W.widen (k := (Z.1 - R4.1)) (n := (pot 65536 R4.1 - pot 65536 Z.1)) (by show _ + ra_c G.2.2 G.1 ≤ _; omega) (by show _ + ra_s G.2.2 G.1 65536 ≤ _; omega) ?_
              refine lv_pop hx hb d_P_findPieces_76 rfl ?_
              refine lv_iinc (v := nI (j + 1 + 1)) (lv' := [(2, .int (nI (j + 1 + 1))), (5, .long (R3.2.1 (j + 1))), (3, .long (R3.2.1 j)), (0, .ref h0), (1, .int (nI i))]) hx hb d_P_findPieces_77 hl (k := 4) rfl (iinc_p _) (by decide) rfl (fun ls hl => ?_)
              refine lv_goto (tgt := 21) hx hb d_P_findPieces_80 (by decide) ?_
              exact ih (j + 1) Z u4 H locs ls (by omega) (by omega) (by omega) g4 k1.1 (by omega) (by rw [e1]; show G.2.2 + 1 ≤ j + 1; omega) hP hD hS (lv_sub hl [3, 4, 0] rfl)
        exact inner 65537 (B i) R b4 H locs ls (Nat.le_refl _) m1 (by omega) hX.symm h4 h5 h6 hP hD hS (lv_sub hl [1, 2, 0] rfl)
  refine W.widen (k := (R4.1 - R4.1)) (n := (pot 65536 R4.1 - pot 65536 R4.1)) (Nat.zero_le _) (Nat.zero_le _) ?_
  exact outer (k + 1) 0 R4 a4 _ _ ls (Nat.zero_le _) (by omega) hQ.symm ho4 (Nat.le_refl _) (by omega) hP hD hS (lv_sub hl [1, 0] rfl)
end
