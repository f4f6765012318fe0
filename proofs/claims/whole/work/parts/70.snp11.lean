theorem d_P_chain_8 : decode c_P_chain 8 = .ok (.new 96, 3) := by decide +kernel
theorem d_P_chain_11 : decode c_P_chain 11 = .ok (.dup, 1) := by decide +kernel
theorem d_P_chain_12 : decode c_P_chain 12 = .ok (.ldc 98, 2) := by decide +kernel
theorem d_P_chain_14 : decode c_P_chain 14 = .ok (.invokespecial 100, 3) := by decide +kernel
theorem d_P_chain_17 : decode c_P_chain 17 = .ok (.athrow, 1) := by decide +kernel
theorem d_P_chain_25 : decode c_P_chain 25 = .ok (.new 57, 3) := by decide +kernel
theorem d_P_chain_28 : decode c_P_chain 28 = .ok (.dup, 1) := by decide +kernel
theorem d_P_chain_29 : decode c_P_chain 29 = .ok (.ldc 139, 2) := by decide +kernel
theorem d_P_chain_31 : decode c_P_chain 31 = .ok (.invokespecial 61, 3) := by decide +kernel
theorem d_P_chain_34 : decode c_P_chain 34 = .ok (.athrow, 1) := by decide +kernel
theorem d_P_chainAt_8 : decode c_P_chainAt 8 = .ok (.new 96, 3) := by decide +kernel
theorem d_P_chainAt_11 : decode c_P_chainAt 11 = .ok (.dup, 1) := by decide +kernel
theorem d_P_chainAt_12 : decode c_P_chainAt 12 = .ok (.ldc 98, 2) := by decide +kernel
theorem d_P_chainAt_14 : decode c_P_chainAt 14 = .ok (.invokespecial 100, 3) := by decide +kernel
theorem d_P_chainAt_17 : decode c_P_chainAt 17 = .ok (.athrow, 1) := by decide +kernel
theorem d_P_chainAt_25 : decode c_P_chainAt 25 = .ok (.new 57, 3) := by decide +kernel
theorem d_P_chainAt_28 : decode c_P_chainAt 28 = .ok (.dup, 1) := by decide +kernel
theorem d_P_chainAt_29 : decode c_P_chainAt 29 = .ok (.ldc 139, 2) := by decide +kernel
theorem d_P_chainAt_31 : decode c_P_chainAt 31 = .ok (.invokespecial 61, 3) := by decide +kernel
theorem d_P_chainAt_34 : decode c_P_chainAt 34 = .ok (.athrow, 1) := by decide +kernel
theorem d_P_chainAt_58 : decode c_P_chainAt 58 = .ok (.new 96, 3) := by decide +kernel
theorem d_P_chainAt_61 : decode c_P_chainAt 61 = .ok (.dup, 1) := by decide +kernel
theorem d_P_chainAt_62 : decode c_P_chainAt 62 = .ok (.ldc 145, 2) := by decide +kernel
theorem d_P_chainAt_64 : decode c_P_chainAt 64 = .ok (.invokespecial 100, 3) := by decide +kernel
theorem d_P_chainAt_67 : decode c_P_chainAt 67 = .ok (.athrow, 1) := by decide +kernel
theorem d_P_crossing_23 : decode c_P_crossing 23 = .ok (.new 96, 3) := by decide +kernel
theorem d_P_crossing_26 : decode c_P_crossing 26 = .ok (.dup, 1) := by decide +kernel
theorem d_P_crossing_27 : decode c_P_crossing 27 = .ok (.ldc 114, 2) := by decide +kernel
theorem d_P_crossing_29 : decode c_P_crossing 29 = .ok (.invokespecial 100, 3) := by decide +kernel
theorem d_P_crossing_32 : decode c_P_crossing 32 = .ok (.athrow, 1) := by decide +kernel
theorem d_P_crossing_69 : decode c_P_crossing 69 = .ok (.new 57, 3) := by decide +kernel
theorem d_P_crossing_72 : decode c_P_crossing 72 = .ok (.dup, 1) := by decide +kernel
theorem d_P_crossing_73 : decode c_P_crossing 73 = .ok (.ldc 120, 2) := by decide +kernel
theorem d_P_crossing_75 : decode c_P_crossing 75 = .ok (.invokespecial 61, 3) := by decide +kernel
theorem d_P_crossing_78 : decode c_P_crossing 78 = .ok (.athrow, 1) := by decide +kernel
theorem d_P_meets_8 : decode c_P_meets 8 = .ok (.new 96, 3) := by decide +kernel
theorem d_P_meets_11 : decode c_P_meets 11 = .ok (.dup, 1) := by decide +kernel
theorem d_P_meets_12 : decode c_P_meets 12 = .ok (.ldc 98, 2) := by decide +kernel
theorem d_P_meets_14 : decode c_P_meets 14 = .ok (.invokespecial 100, 3) := by decide +kernel
theorem d_P_meets_17 : decode c_P_meets 17 = .ok (.athrow, 1) := by decide +kernel
theorem d_P_meets_32 : decode c_P_meets 32 = .ok (.new 46, 3) := by decide +kernel
theorem d_P_meets_35 : decode c_P_meets 35 = .ok (.dup, 1) := by decide +kernel
theorem d_P_meets_36 : decode c_P_meets 36 = .ok (.ldc 101, 2) := by decide +kernel
theorem d_P_meets_38 : decode c_P_meets 38 = .ok (.invokespecial 50, 3) := by decide +kernel
theorem d_P_meets_41 : decode c_P_meets 41 = .ok (.athrow, 1) := by decide +kernel
theorem d_P_piece_20 : decode c_P_piece 20 = .ok (.new 96, 3) := by decide +kernel
theorem d_P_piece_23 : decode c_P_piece 23 = .ok (.dup, 1) := by decide +kernel
theorem d_P_piece_24 : decode c_P_piece 24 = .ok (.ldc 147, 2) := by decide +kernel
theorem d_P_piece_26 : decode c_P_piece 26 = .ok (.invokespecial 100, 3) := by decide +kernel
theorem d_P_piece_29 : decode c_P_piece 29 = .ok (.athrow, 1) := by decide +kernel
theorem d_P_pixel_18 : decode c_P_pixel 18 = .ok (.new 96, 3) := by decide +kernel
theorem d_P_pixel_21 : decode c_P_pixel 21 = .ok (.dup, 1) := by decide +kernel
theorem d_P_pixel_22 : decode c_P_pixel 22 = .ok (.ldc 133, 2) := by decide +kernel
theorem d_P_pixel_24 : decode c_P_pixel 24 = .ok (.invokespecial 100, 3) := by decide +kernel
theorem d_P_pixel_27 : decode c_P_pixel 27 = .ok (.athrow, 1) := by decide +kernel
theorem d_P_segment_29 : decode c_P_segment 29 = .ok (.new 46, 3) := by decide +kernel
theorem d_P_segment_32 : decode c_P_segment 32 = .ok (.dup, 1) := by decide +kernel
theorem d_P_segment_33 : decode c_P_segment 33 = .ok (.ldc 48, 2) := by decide +kernel
theorem d_P_segment_35 : decode c_P_segment 35 = .ok (.invokespecial 50, 3) := by decide +kernel
theorem d_P_segment_38 : decode c_P_segment 38 = .ok (.athrow, 1) := by decide +kernel
theorem d_P_segment_52 : decode c_P_segment 52 = .ok (.new 57, 3) := by decide +kernel
theorem d_P_segment_55 : decode c_P_segment 55 = .ok (.dup, 1) := by decide +kernel
theorem d_P_segment_56 : decode c_P_segment 56 = .ok (.ldc 59, 2) := by decide +kernel
theorem d_P_segment_58 : decode c_P_segment 58 = .ok (.invokespecial 61, 3) := by decide +kernel
theorem d_P_segment_61 : decode c_P_segment 61 = .ok (.athrow, 1) := by decide +kernel
noncomputable section
/-- the start of a call that reads, and throws -/
def tP (D : va_G) (E : ClassId × ClassId × ClassId × ClassId) (e0 : Nat) (ws : va_W) (sz : Nat) (av : List Value) : Array Value → State → Prop := va_Pc av (fun U => U.heap.size = sz ∧ va_P D vwC ws U.heap ∧ KK D E U ∧ SF e0 (fun q => sz ≤ q) U U.heap)
theorem tP_b {D : va_G} {E : ClassId × ClassId × ClassId × ClassId} {e0 : Nat} {ws : va_W} {sz : Nat} {av : List Value} : FrameBlind (tP D E e0 ws sz av) := fun a U g mk q => ⟨q.1, q.2.1, q.2.2.1, KK.call q.2.2.2.1, SF.moved (u := U) (U := U.calling g mk a) (Vm.Alike.refl U.vm) q.2.2.2.2⟩
theorem tP_V {D : va_G} {E : ClassId × ClassId × ClassId × ClassId} {e0 : Nat} {ws : va_W} {As : List Value} {s : State} {H : Heap} {A : Nat → Prop} {locs : List Loc} {b ci : Nat} {fs : List Value} {q : vw_C} (k : Nat) (hP : va_P D vwC ws H) (hK : KK D E s) (hZ : SF e0 A s s.heap) (hS : va_S A s.heap H locs) (hF : ∀ q, H.size ≤ q → A q) (he : ws[k]? = some (b, .inr (ci, fs))) (hc : vwC[ci]? = some q) : PreV s H q.1 b (tP D E e0 ws H.size (.ref b :: As)) As :=
  ⟨tP_b, va_recv hK.1 hP hc he, fun U hU hW => ⟨rfl, by rw [hU], by rw [hU]; exact hP, KK.warm hW hK, SF.down hZ hS hF hU hW⟩⟩
theorem va_D_nil {A : Nat → Prop} : va_D A [] := ⟨fun i j p q hi => (nomatch hi), fun i p hi => (nomatch hi)⟩
theorem tr_of {l : Launch} {y : MethodName} {cc : ByteArray} {maxL : Nat} {ret : Option FieldType} {D : va_G} {E : ClassId × ClassId × ClassId × ClassId} {e0 : Nat} {ws : va_W} {sz : Nat} {av : List Value} {rm : Room} {XC : (Nat → Prop) → String → State → State → Prop} {mc ms : Nat}
    (hy : plainName y.cls = true) (hlen : (lg_sl av).length ≤ maxL)
    (body : ∀ (p : Program) (e : Env) (s : State) (m : MethodId) (below : List Frame) (meth : Method) (c : Code), En p s m av.toArray meth c y.cls cc maxL ret y → (∀ x ∈ c.exceptionTable.toList, False) → va_P D vwC ws s.heap → KK D E s → ∀ A : Nat → Prop, (∀ q : Nat, s.heap.size ≤ q → A q) → va_S A s.heap s.heap [] → SF e0 A s s.heap → ∀ ls : Array Slot, lv_has ls maxL (lv_args 0 av) →
      W p l e rm s m av.toArray below meth c s.heap [] 0 0 (vx_MQ below xQ (XC A) av.toArray s mc ms A) (F0 m 0 ls [])) : vx_Met l y (.code y cc maxL ret :: gw) rm (tP D E e0 ws sz av) xQ (XC (fun q => sz ≤ q)) mc ms (fun q => sz ≤ q) := by
  refine vx_ofW (cc := cc) (maxL := maxL) (ret := ret) hy rfl ?_
  intro p e s m args below meth c s₁ B hml hT hv
  obtain ⟨rfl, hsz, hP, hK, hZ⟩ := hv
  have hts := atoms_spec (ws := Cond.code y cc maxL ret :: gw) B.pre
  subst hsz
  have hl := lv_entry av (n := maxL) hlen
  rw [lg_entry_eq]
  exact body p e s m below meth c ⟨B.exec, B.bytes, B.returns, hml, findClass_of_methodNamed B.named, hts, fun w h => hts w (List.mem_cons_of_mem _ h), B.notSynchronized, (name_of_methodNamed B.named B.method).1⟩ hT hP hK _ (fun q h => h) va_S.rf hZ _ hl
set_option maxHeartbeats 4000000 in
set_option maxRecDepth 100000 in
theorem x_P_segment_a (l : Launch) (hl0 : l.stackTraces = false) (D : va_G) (E : ClassId × ClassId × ClassId × ClassId) (e0 sz : Nat) (h0 ed k : Nat) (ad : Nat → Nat) (sn mo9 : Int32) (x y x2 y2 : Int32) (h : sp_in x = 0 ∨ sp_in y = 0 ∨ sp_in x2 = 0 ∨ sp_in y2 = 0) : vx_Met l y_P_segment (.code y_P_segment c_P_segment 5 (some .int) :: gw) ({ frames := 6, cells := 1, slots := 6, locals := 100 } : Room) (tP D E e0 [(h0, .inr (2, [.ref (ad 0), .ref (ad 1), .ref (ad 2), .ref (ad 3), .ref (ad 4), .ref (ad 5), .int sn])), ((ad 0), .inr (4, [.ref ed, .int (nI k), .int mo9]))] sz [.ref h0, .int x, .int y, .int x2, .int y2]) xQ (xC D "java/lang/IllegalArgumentException" (fun (_ : Unit) => True) (fun _ => []) (fun q => sz ≤ q)) 1 6 (fun q => sz ≤ q) := by
  refine tr_of (y := y_P_segment) (cc := c_P_segment) (maxL := 5) (ws := [(h0, .inr (2, [.ref (ad 0), .ref (ad 1), .ref (ad 2), .ref (ad 3), .ref (ad 4), .ref (ad 5), .int sn])), ((ad 0), .inr (4, [.ref ed, .int (nI k), .int mo9]))]) (sz := sz) (av := [.ref h0, .int x, .int y, .int x2, .int y2]) (XC := fun A => xC D "java/lang/IllegalArgumentException" (fun (_ : Unit) => True) (fun _ => []) A) (by decide) (Nat.le_of_ble_eq_true rfl) ?_
  intro p e s m below meth c B hT hP hK A hA hS hZ ls hl
  obtain ⟨hx, hb, hrt, hml, hown, hts, hG, hlocks, hin⟩ := B
  have hl : lv_has ls 5 [(0, .ref h0), (1, .int x), (2, .int y), (3, .int x2), (4, .int y2)] := hl
  refine lv_iload_n hx hb d_P_segment_0 rfl (lv_at hl 1 rfl) ?_
  have hPc := hP.sub (ws' := []) [] rfl
  refine vp_callSi (W.runS (As := [.int x]) (rest := []) ⟨hx, hb, hml, hown, hts⟩ (k_P_inReach l D E x) (va_cwS 1 hts (gw_gs wd_168 wd_169 wd_37 wd_170) rfl rfl rfl (by decide +kernel) ⟨Nat.le_of_ble_eq_true rfl, Nat.le_of_ble_eq_true rfl⟩) (rP_S hPc hK) rfl rfl hl.1 rfl (lv_room (Nat.le_of_ble_eq_true rfl)) d_P_segment_1 ⟨Nat.le_of_ble_eq_true rfl, Nat.le_of_ble_eq_true rfl⟩) (fun r0 hr0 => ?_)
  subst hr0
  refine lv_if_eq (tgt := 29) hx hb d_P_segment_4 (by decide) (fun c0 => ?_) (fun c0 => ?_)
  · exact th_IA (is := 48) (text := "an end lies out of reach") hx hb hl0 hown hG hK hZ hS (hl.1.trans hml.symm) (by decide +kernel) wd_173 wd_46 d_P_segment_29 d_P_segment_32 d_P_segment_33 d_P_segment_35 d_P_segment_38 hT (Nat.le_of_ble_eq_true rfl) (Nat.le_of_ble_eq_true rfl) (Nat.le_of_ble_eq_true rfl) (Nat.le_of_ble_eq_true rfl) hlocks (Nat.le_refl _) (Nat.le_refl _) () trivial (hP.sub [] rfl) va_D_nil
  · refine lv_iload_n hx hb d_P_segment_7 rfl (lv_at hl 2 rfl) ?_
    have hPc := hP.sub (ws' := []) [] rfl
    refine vp_callSi (W.runS (As := [.int y]) (rest := []) ⟨hx, hb, hml, hown, hts⟩ (k_P_inReach l D E y) (va_cwS 1 hts (gw_gs wd_168 wd_169 wd_37 wd_170) rfl rfl rfl (by decide +kernel) ⟨Nat.le_of_ble_eq_true rfl, Nat.le_of_ble_eq_true rfl⟩) (rP_S hPc hK) rfl rfl hl.1 rfl (lv_room (Nat.le_of_ble_eq_true rfl)) d_P_segment_8 ⟨Nat.le_of_ble_eq_true rfl, Nat.le_of_ble_eq_true rfl⟩) (fun r1 hr1 => ?_)
    subst hr1
    refine lv_if_eq (tgt := 29) hx hb d_P_segment_11 (by decide) (fun c1 => ?_) (fun c1 => ?_)
    · exact th_IA (is := 48) (text := "an end lies out of reach") hx hb hl0 hown hG hK hZ hS (hl.1.trans hml.symm) (by decide +kernel) wd_173 wd_46 d_P_segment_29 d_P_segment_32 d_P_segment_33 d_P_segment_35 d_P_segment_38 hT (Nat.le_of_ble_eq_true rfl) (Nat.le_of_ble_eq_true rfl) (Nat.le_of_ble_eq_true rfl) (Nat.le_of_ble_eq_true rfl) hlocks (Nat.le_refl _) (Nat.le_refl _) () trivial (hP.sub [] rfl) va_D_nil
    · refine lv_iload_n hx hb d_P_segment_14 rfl (lv_at hl 3 rfl) ?_
      have hPc := hP.sub (ws' := []) [] rfl
      refine vp_callSi (W.runS (As := [.int x2]) (rest := []) ⟨hx, hb, hml, hown, hts⟩ (k_P_inReach l D E x2) (va_cwS 1 hts (gw_gs wd_168 wd_169 wd_37 wd_170) rfl rfl rfl (by decide +kernel) ⟨Nat.le_of_ble_eq_true rfl, Nat.le_of_ble_eq_true rfl⟩) (rP_S hPc hK) rfl rfl hl.1 rfl (lv_room (Nat.le_of_ble_eq_true rfl)) d_P_segment_15 ⟨Nat.le_of_ble_eq_true rfl, Nat.le_of_ble_eq_true rfl⟩) (fun r2 hr2 => ?_)
      subst hr2
      refine lv_if_eq (tgt := 29) hx hb d_P_segment_18 (by decide) (fun c2 => ?_) (fun c2 => ?_)
      · exact th_IA (is := 48) (text := "an end lies out of reach") hx hb hl0 hown hG hK hZ hS (hl.1.trans hml.symm) (by decide +kernel) wd_173 wd_46 d_P_segment_29 d_P_segment_32 d_P_segment_33 d_P_segment_35 d_P_segment_38 hT (Nat.le_of_ble_eq_true rfl) (Nat.le_of_ble_eq_true rfl) (Nat.le_of_ble_eq_true rfl) (Nat.le_of_ble_eq_true rfl) hlocks (Nat.le_refl _) (Nat.le_refl _) () trivial (hP.sub [] rfl) va_D_nil
      · refine lv_iload hx hb d_P_segment_21 (lv_at hl 4 rfl) ?_
        have hPc := hP.sub (ws' := []) [] rfl
        refine vp_callSi (W.runS (As := [.int y2]) (rest := []) ⟨hx, hb, hml, hown, hts⟩ (k_P_inReach l D E y2) (va_cwS 1 hts (gw_gs wd_168 wd_169 wd_37 wd_170) rfl rfl rfl (by decide +kernel) ⟨Nat.le_of_ble_eq_true rfl, Nat.le_of_ble_eq_true rfl⟩) (rP_S hPc hK) rfl rfl hl.1 rfl (lv_room (Nat.le_of_ble_eq_true rfl)) d_P_segment_23 ⟨Nat.le_of_ble_eq_true rfl, Nat.le_of_ble_eq_true rfl⟩) (fun r3 hr3 => ?_)
        subst hr3
        refine lv_if_ne (tgt := 39) hx hb d_P_segment_26 (by decide) (fun c3 => ?_) (fun c3 => ?_)
        · exact absurd h (fun h => h.elim c0 (fun h => h.elim c1 (fun h => h.elim c2 c3)))
        · exact th_IA (is := 48) (text := "an end lies out of reach") hx hb hl0 hown hG hK hZ hS (hl.1.trans hml.symm) (by decide +kernel) wd_173 wd_46 d_P_segment_29 d_P_segment_32 d_P_segment_33 d_P_segment_35 d_P_segment_38 hT (Nat.le_of_ble_eq_true rfl) (Nat.le_of_ble_eq_true rfl) (Nat.le_of_ble_eq_true rfl) (Nat.le_of_ble_eq_true rfl) hlocks (Nat.le_refl _) (Nat.le_refl _) () trivial (hP.sub [] rfl) va_D_nil
set_option maxHeartbeats 4000000 in
set_option maxRecDepth 100000 in
theorem x_P_segment_b (l : Launch) (hl0 : l.stackTraces = false) (D : va_G) (E : ClassId × ClassId × ClassId × ClassId) (e0 sz : Nat) (h0 ed k : Nat) (ad : Nat → Nat) (sn mo9 : Int32) (hk : 2048 ≤ k) (hk2 : k < 2 ^ 31) (x y x2 y2 : Int32) (h0a : sp_in x = 1) (h1a : sp_in y = 1) (h2a : sp_in x2 = 1) (h3a : sp_in y2 = 1) : vx_Met l y_P_segment (.code y_P_segment c_P_segment 5 (some .int) :: gw) ({ frames := 6, cells := 1, slots := 6, locals := 100 } : Room) (tP D E e0 [(h0, .inr (2, [.ref (ad 0), .ref (ad 1), .ref (ad 2), .ref (ad 3), .ref (ad 4), .ref (ad 5), .int sn])), ((ad 0), .inr (4, [.ref ed, .int (nI k), .int mo9]))] sz [.ref h0, .int x, .int y, .int x2, .int y2]) xQ (xC D "java/lang/IllegalStateException" (fun (_ : Unit) => True) (fun _ => []) (fun q => sz ≤ q)) 1 6 (fun q => sz ≤ q) := by
  refine tr_of (y := y_P_segment) (cc := c_P_segment) (maxL := 5) (ws := [(h0, .inr (2, [.ref (ad 0), .ref (ad 1), .ref (ad 2), .ref (ad 3), .ref (ad 4), .ref (ad 5), .int sn])), ((ad 0), .inr (4, [.ref ed, .int (nI k), .int mo9]))]) (sz := sz) (av := [.ref h0, .int x, .int y, .int x2, .int y2]) (XC := fun A => xC D "java/lang/IllegalStateException" (fun (_ : Unit) => True) (fun _ => []) A) (by decide) (Nat.le_of_ble_eq_true rfl) ?_
  intro p e s m below meth c B hT hP hK A hA hS hZ ls hl
  obtain ⟨hx, hb, hrt, hml, hown, hts, hG, hlocks, hin⟩ := B
  have hl : lv_has ls 5 [(0, .ref h0), (1, .int x), (2, .int y), (3, .int x2), (4, .int y2)] := hl
  refine lv_iload_n hx hb d_P_segment_0 rfl (lv_at hl 1 rfl) ?_
  have hPc := hP.sub (ws' := []) [] rfl
  refine vp_callSi (W.runS (As := [.int x]) (rest := []) ⟨hx, hb, hml, hown, hts⟩ (k_P_inReach l D E x) (va_cwS 1 hts (gw_gs wd_168 wd_169 wd_37 wd_170) rfl rfl rfl (by decide +kernel) ⟨Nat.le_of_ble_eq_true rfl, Nat.le_of_ble_eq_true rfl⟩) (rP_S hPc hK) rfl rfl hl.1 rfl (lv_room (Nat.le_of_ble_eq_true rfl)) d_P_segment_1 ⟨Nat.le_of_ble_eq_true rfl, Nat.le_of_ble_eq_true rfl⟩) (fun r0 hr0 => ?_)
  rw [h0a] at hr0
  subst hr0
  refine lv_if_eq (tgt := 29) hx hb d_P_segment_4 (by decide) (fun c0 => ?_) (fun c0 => ?_)
  · exact absurd c0 (by decide)
  · refine lv_iload_n hx hb d_P_segment_7 rfl (lv_at hl 2 rfl) ?_
    have hPc := hP.sub (ws' := []) [] rfl
    refine vp_callSi (W.runS (As := [.int y]) (rest := []) ⟨hx, hb, hml, hown, hts⟩ (k_P_inReach l D E y) (va_cwS 1 hts (gw_gs wd_168 wd_169 wd_37 wd_170) rfl rfl rfl (by decide +kernel) ⟨Nat.le_of_ble_eq_true rfl, Nat.le_of_ble_eq_true rfl⟩) (rP_S hPc hK) rfl rfl hl.1 rfl (lv_room (Nat.le_of_ble_eq_true rfl)) d_P_segment_8 ⟨Nat.le_of_ble_eq_true rfl, Nat.le_of_ble_eq_true rfl⟩) (fun r1 hr1 => ?_)
    rw [h1a] at hr1
    subst hr1
    refine lv_if_eq (tgt := 29) hx hb d_P_segment_11 (by decide) (fun c1 => ?_) (fun c1 => ?_)
    · exact absurd c1 (by decide)
    · refine lv_iload_n hx hb d_P_segment_14 rfl (lv_at hl 3 rfl) ?_
      have hPc := hP.sub (ws' := []) [] rfl
      refine vp_callSi (W.runS (As := [.int x2]) (rest := []) ⟨hx, hb, hml, hown, hts⟩ (k_P_inReach l D E x2) (va_cwS 1 hts (gw_gs wd_168 wd_169 wd_37 wd_170) rfl rfl rfl (by decide +kernel) ⟨Nat.le_of_ble_eq_true rfl, Nat.le_of_ble_eq_true rfl⟩) (rP_S hPc hK) rfl rfl hl.1 rfl (lv_room (Nat.le_of_ble_eq_true rfl)) d_P_segment_15 ⟨Nat.le_of_ble_eq_true rfl, Nat.le_of_ble_eq_true rfl⟩) (fun r2 hr2 => ?_)
      rw [h2a] at hr2
      subst hr2
      refine lv_if_eq (tgt := 29) hx hb d_P_segment_18 (by decide) (fun c2 => ?_) (fun c2 => ?_)
      · exact absurd c2 (by decide)
      · refine lv_iload hx hb d_P_segment_21 (lv_at hl 4 rfl) ?_
        have hPc := hP.sub (ws' := []) [] rfl
        refine vp_callSi (W.runS (As := [.int y2]) (rest := []) ⟨hx, hb, hml, hown, hts⟩ (k_P_inReach l D E y2) (va_cwS 1 hts (gw_gs wd_168 wd_169 wd_37 wd_170) rfl rfl rfl (by decide +kernel) ⟨Nat.le_of_ble_eq_true rfl, Nat.le_of_ble_eq_true rfl⟩) (rP_S hPc hK) rfl rfl hl.1 rfl (lv_room (Nat.le_of_ble_eq_true rfl)) d_P_segment_23 ⟨Nat.le_of_ble_eq_true rfl, Nat.le_of_ble_eq_true rfl⟩) (fun r3 hr3 => ?_)
        rw [h3a] at hr3
        subst hr3
        refine lv_if_ne (tgt := 39) hx hb d_P_segment_26 (by decide) (fun c3 => ?_) (fun c3 => ?_)
        · refine lv_aload_n hx hb d_P_segment_39 rfl (lv_at hl 0 rfl) ?_
          refine va_get (D := D) (ci := 2) (v := .ref (ad 0)) (C := K_P) (T := F_P) (N := 7) hx hb hG in_P hown hK.1 hP 0 rfl rfl 0 (by decide) (hG _ wd_109) (fun _ h9 => h9) rfl d_P_segment_40 ?_
          have hPc := hP.sub (ws' := [((ad 0), .inr (4, [.ref ed, .int (nI k), .int mo9]))]) [1] rfl
          refine vp_callSi (W.runV (As := []) (rest := []) ⟨hx, hb, hml, hown, hts⟩ (k_A_size l D E (ad 0) (.ref ed) (nI k) mo9) (cwV 0 hts (gw_gv wd_135 wd_136 wd_137 wd_40 wd_138) rfl rfl rfl (by decide +kernel) ⟨Nat.le_of_ble_eq_true rfl, Nat.le_of_ble_eq_true rfl⟩) (rP_V 0 hPc hK rfl rfl) rfl rfl hl.1 rfl (lv_room (Nat.le_of_ble_eq_true rfl)) d_P_segment_43 ⟨Nat.le_of_ble_eq_true rfl, Nat.le_of_ble_eq_true rfl⟩) (fun r5 hr5 => ?_)
          subst hr5
          refine lv_sipush (v := 2048) hx hb d_P_segment_46 (by decide) ?_
          refine lv_icmp_lt (tgt := 62) hx hb d_P_segment_49 (by decide) (fun c5 => ?_) (fun c5 => ?_)
          · exact absurd ((nI_ltI (b := 2048) (by omega) (by omega)).mp c5) (by omega)
          · exact th_IS (is := 59) (text := "there are as many segments as may be") hx hb hl0 hown hG hK hZ hS (hl.1.trans hml.symm) (by decide +kernel) wd_242 wd_47 d_P_segment_52 d_P_segment_55 d_P_segment_56 d_P_segment_58 d_P_segment_61 hT (Nat.le_of_ble_eq_true rfl) (Nat.le_of_ble_eq_true rfl) (Nat.le_of_ble_eq_true rfl) (Nat.le_of_ble_eq_true rfl) hlocks (Nat.le_refl _) (Nat.le_refl _) () trivial (hP.sub [] rfl) va_D_nil
        · exact absurd c3 (by decide)
set_option maxHeartbeats 4000000 in
set_option maxRecDepth 100000 in
theorem x_P_meets_a (l : Launch) (hl0 : l.stackTraces = false) (D : va_G) (E : ClassId × ClassId × ClassId × ClassId) (e0 sz : Nat) (h0 ed k : Nat) (ad : Nat → Nat) (sn mo9 : Int32) (i x y : Int32) (h : rw_has (nI k) i = 0) : vx_Met l y_P_meets (.code y_P_meets c_P_meets 4 (some .boolean) :: gw) ({ frames := 6, cells := 1, slots := 6, locals := 100 } : Room) (tP D E e0 [(h0, .inr (2, [.ref (ad 0), .ref (ad 1), .ref (ad 2), .ref (ad 3), .ref (ad 4), .ref (ad 5), .int sn])), ((ad 0), .inr (4, [.ref ed, .int (nI k), .int mo9]))] sz [.ref h0, .int i, .int x, .int y]) xQ (xC D "java/lang/IndexOutOfBoundsException" (fun (_ : Unit) => True) (fun _ => []) (fun q => sz ≤ q)) 1 6 (fun q => sz ≤ q) := by
  refine tr_of (y := y_P_meets) (cc := c_P_meets) (maxL := 4) (ws := [(h0, .inr (2, [.ref (ad 0), .ref (ad 1), .ref (ad 2), .ref (ad 3), .ref (ad 4), .ref (ad 5), .int sn])), ((ad 0), .inr (4, [.ref ed, .int (nI k), .int mo9]))]) (sz := sz) (av := [.ref h0, .int i, .int x, .int y]) (XC := fun A => xC D "java/lang/IndexOutOfBoundsException" (fun (_ : Unit) => True) (fun _ => []) A) (by decide) (Nat.le_of_ble_eq_true rfl) ?_
  intro p e s m below meth c B hT hP hK A hA hS hZ ls hl
  obtain ⟨hx, hb, hrt, hml, hown, hts, hG, hlocks, hin⟩ := B
  have hl : lv_has ls 4 [(0, .ref h0), (1, .int i), (2, .int x), (3, .int y)] := hl
  refine lv_aload_n hx hb d_P_meets_0 rfl (lv_at hl 0 rfl) ?_
  refine lv_iload_n hx hb d_P_meets_1 rfl (lv_at hl 1 rfl) ?_
  have hPc := hP.sub (ws' := [(h0, .inr (2, [.ref (ad 0), .ref (ad 1), .ref (ad 2), .ref (ad 3), .ref (ad 4), .ref (ad 5), .int sn])), ((ad 0), .inr (4, [.ref ed, .int (nI k), .int mo9]))]) [0, 1] rfl
  refine vp_callSi (W.runV (As := [.int i]) (rest := []) ⟨hx, hb, hml, hown, hts⟩ (k_P_hasSegment l D E h0 ed k ad sn mo9 i) (cwV 1 hts (gw_gv wd_571 wd_573 wd_20 wd_37 wd_574) rfl rfl rfl (by decide +kernel) ⟨Nat.le_of_ble_eq_true rfl, Nat.le_of_ble_eq_true rfl⟩) (rP_V 0 hPc hK rfl rfl) rfl rfl hl.1 rfl (lv_room (Nat.le_of_ble_eq_true rfl)) d_P_meets_2 ⟨Nat.le_of_ble_eq_true rfl, Nat.le_of_ble_eq_true rfl⟩) (fun r1 hr1 => ?_)
  subst hr1
  refine lv_if_ne (tgt := 18) hx hb d_P_meets_5 (by decide) (fun c1 => ?_) (fun c1 => ?_)
  · exact absurd h c1
  · exact th_IO (is := 98) (text := "no such segment") hx hb hl0 hown hG hK hZ hS (hl.1.trans hml.symm) (by decide +kernel) wd_575 wd_56 d_P_meets_8 d_P_meets_11 d_P_meets_12 d_P_meets_14 d_P_meets_17 hT (Nat.le_of_ble_eq_true rfl) (Nat.le_of_ble_eq_true rfl) (Nat.le_of_ble_eq_true rfl) (Nat.le_of_ble_eq_true rfl) hlocks (Nat.le_refl _) (Nat.le_refl _) () trivial (hP.sub [] rfl) va_D_nil
set_option maxHeartbeats 4000000 in
set_option maxRecDepth 100000 in
theorem x_P_meets_b (l : Launch) (hl0 : l.stackTraces = false) (D : va_G) (E : ClassId × ClassId × ClassId × ClassId) (e0 sz : Nat) (h0 ed k : Nat) (ad : Nat → Nat) (sn mo9 : Int32) (i x y : Int32) (h : ¬ rw_has (nI k) i = 0) (h2 : sp_in x = 0 ∨ sp_in y = 0) : vx_Met l y_P_meets (.code y_P_meets c_P_meets 4 (some .boolean) :: gw) ({ frames := 6, cells := 1, slots := 6, locals := 100 } : Room) (tP D E e0 [(h0, .inr (2, [.ref (ad 0), .ref (ad 1), .ref (ad 2), .ref (ad 3), .ref (ad 4), .ref (ad 5), .int sn])), ((ad 0), .inr (4, [.ref ed, .int (nI k), .int mo9]))] sz [.ref h0, .int i, .int x, .int y]) xQ (xC D "java/lang/IllegalArgumentException" (fun (_ : Unit) => True) (fun _ => []) (fun q => sz ≤ q)) 1 6 (fun q => sz ≤ q) := by
  refine tr_of (y := y_P_meets) (cc := c_P_meets) (maxL := 4) (ws := [(h0, .inr (2, [.ref (ad 0), .ref (ad 1), .ref (ad 2), .ref (ad 3), .ref (ad 4), .ref (ad 5), .int sn])), ((ad 0), .inr (4, [.ref ed, .int (nI k), .int mo9]))]) (sz := sz) (av := [.ref h0, .int i, .int x, .int y]) (XC := fun A => xC D "java/lang/IllegalArgumentException" (fun (_ : Unit) => True) (fun _ => []) A) (by decide) (Nat.le_of_ble_eq_true rfl) ?_
  intro p e s m below meth c B hT hP hK A hA hS hZ ls hl
  obtain ⟨hx, hb, hrt, hml, hown, hts, hG, hlocks, hin⟩ := B
  have hl : lv_has ls 4 [(0, .ref h0), (1, .int i), (2, .int x), (3, .int y)] := hl
  refine lv_aload_n hx hb d_P_meets_0 rfl (lv_at hl 0 rfl) ?_
  refine lv_iload_n hx hb d_P_meets_1 rfl (lv_at hl 1 rfl) ?_
  have hPc := hP.sub (ws' := [(h0, .inr (2, [.ref (ad 0), .ref (ad 1), .ref (ad 2), .ref (ad 3), .ref (ad 4), .ref (ad 5), .int sn])), ((ad 0), .inr (4, [.ref ed, .int (nI k), .int mo9]))]) [0, 1] rfl
  refine vp_callSi (W.runV (As := [.int i]) (rest := []) ⟨hx, hb, hml, hown, hts⟩ (k_P_hasSegment l D E h0 ed k ad sn mo9 i) (cwV 1 hts (gw_gv wd_571 wd_573 wd_20 wd_37 wd_574) rfl rfl rfl (by decide +kernel) ⟨Nat.le_of_ble_eq_true rfl, Nat.le_of_ble_eq_true rfl⟩) (rP_V 0 hPc hK rfl rfl) rfl rfl hl.1 rfl (lv_room (Nat.le_of_ble_eq_true rfl)) d_P_meets_2 ⟨Nat.le_of_ble_eq_true rfl, Nat.le_of_ble_eq_true rfl⟩) (fun r1 hr1 => ?_)
  subst hr1
  refine lv_if_ne (tgt := 18) hx hb d_P_meets_5 (by decide) (fun c1 => ?_) (fun c1 => ?_)
  · refine lv_iload_n hx hb d_P_meets_18 rfl (lv_at hl 2 rfl) ?_
    have hPc := hP.sub (ws' := []) [] rfl
    refine vp_callSi (W.runS (As := [.int x]) (rest := []) ⟨hx, hb, hml, hown, hts⟩ (k_P_inReach l D E x) (va_cwS 1 hts (gw_gs wd_168 wd_169 wd_37 wd_170) rfl rfl rfl (by decide +kernel) ⟨Nat.le_of_ble_eq_true rfl, Nat.le_of_ble_eq_true rfl⟩) (rP_S hPc hK) rfl rfl hl.1 rfl (lv_room (Nat.le_of_ble_eq_true rfl)) d_P_meets_19 ⟨Nat.le_of_ble_eq_true rfl, Nat.le_of_ble_eq_true rfl⟩) (fun r2 hr2 => ?_)
    subst hr2
    refine lv_if_eq (tgt := 32) hx hb d_P_meets_22 (by decide) (fun c2 => ?_) (fun c2 => ?_)
    · exact th_IA (is := 101) (text := "the pixel lies out of reach") hx hb hl0 hown hG hK hZ hS (hl.1.trans hml.symm) (by decide +kernel) wd_173 wd_46 d_P_meets_32 d_P_meets_35 d_P_meets_36 d_P_meets_38 d_P_meets_41 hT (Nat.le_of_ble_eq_true rfl) (Nat.le_of_ble_eq_true rfl) (Nat.le_of_ble_eq_true rfl) (Nat.le_of_ble_eq_true rfl) hlocks (Nat.le_refl _) (Nat.le_refl _) () trivial (hP.sub [] rfl) va_D_nil
    · refine lv_iload_n hx hb d_P_meets_25 rfl (lv_at hl 3 rfl) ?_
      have hPc := hP.sub (ws' := []) [] rfl
      refine vp_callSi (W.runS (As := [.int y]) (rest := []) ⟨hx, hb, hml, hown, hts⟩ (k_P_inReach l D E y) (va_cwS 1 hts (gw_gs wd_168 wd_169 wd_37 wd_170) rfl rfl rfl (by decide +kernel) ⟨Nat.le_of_ble_eq_true rfl, Nat.le_of_ble_eq_true rfl⟩) (rP_S hPc hK) rfl rfl hl.1 rfl (lv_room (Nat.le_of_ble_eq_true rfl)) d_P_meets_26 ⟨Nat.le_of_ble_eq_true rfl, Nat.le_of_ble_eq_true rfl⟩) (fun r3 hr3 => ?_)
      subst hr3
      refine lv_if_ne (tgt := 42) hx hb d_P_meets_29 (by decide) (fun c3 => ?_) (fun c3 => ?_)
      · exact absurd h2 (fun h => h.elim c2 c3)
      · exact th_IA (is := 101) (text := "the pixel lies out of reach") hx hb hl0 hown hG hK hZ hS (hl.1.trans hml.symm) (by decide +kernel) wd_173 wd_46 d_P_meets_32 d_P_meets_35 d_P_meets_36 d_P_meets_38 d_P_meets_41 hT (Nat.le_of_ble_eq_true rfl) (Nat.le_of_ble_eq_true rfl) (Nat.le_of_ble_eq_true rfl) (Nat.le_of_ble_eq_true rfl) hlocks (Nat.le_refl _) (Nat.le_refl _) () trivial (hP.sub [] rfl) va_D_nil
  · exact absurd c1 h
set_option maxHeartbeats 4000000 in
set_option maxRecDepth 100000 in
theorem x_P_crossing_a (l : Launch) (hl0 : l.stackTraces = false) (D : va_G) (E : ClassId × ClassId × ClassId × ClassId) (e0 sz : Nat) (h0 ed k : Nat) (ad : Nat → Nat) (sn mo9 : Int32) (i j wh : Int32) (h : rw_has (nI k) i = 0 ∨ rw_has (nI k) j = 0 ∨ sp_xy wh = 0) : vx_Met l y_P_crossing (.code y_P_crossing c_P_crossing 6 (some .int) :: gw) ({ frames := 6, cells := 1, slots := 6, locals := 100 } : Room) (tP D E e0 [(h0, .inr (2, [.ref (ad 0), .ref (ad 1), .ref (ad 2), .ref (ad 3), .ref (ad 4), .ref (ad 5), .int sn])), ((ad 0), .inr (4, [.ref ed, .int (nI k), .int mo9]))] sz [.ref h0, .int i, .int j, .int wh]) xQ (xC D "java/lang/IndexOutOfBoundsException" (fun (_ : Unit) => True) (fun _ => []) (fun q => sz ≤ q)) 1 6 (fun q => sz ≤ q) := by
  refine tr_of (y := y_P_crossing) (cc := c_P_crossing) (maxL := 6) (ws := [(h0, .inr (2, [.ref (ad 0), .ref (ad 1), .ref (ad 2), .ref (ad 3), .ref (ad 4), .ref (ad 5), .int sn])), ((ad 0), .inr (4, [.ref ed, .int (nI k), .int mo9]))]) (sz := sz) (av := [.ref h0, .int i, .int j, .int wh]) (XC := fun A => xC D "java/lang/IndexOutOfBoundsException" (fun (_ : Unit) => True) (fun _ => []) A) (by decide) (Nat.le_of_ble_eq_true rfl) ?_
  intro p e s m below meth c B hT hP hK A hA hS hZ ls hl
  obtain ⟨hx, hb, hrt, hml, hown, hts, hG, hlocks, hin⟩ := B
  have hl : lv_has ls 6 [(0, .ref h0), (1, .int i), (2, .int j), (3, .int wh)] := hl
  refine lv_aload_n hx hb d_P_crossing_0 rfl (lv_at hl 0 rfl) ?_
  refine lv_iload_n hx hb d_P_crossing_1 rfl (lv_at hl 1 rfl) ?_
  have hPc := hP.sub (ws' := [(h0, .inr (2, [.ref (ad 0), .ref (ad 1), .ref (ad 2), .ref (ad 3), .ref (ad 4), .ref (ad 5), .int sn])), ((ad 0), .inr (4, [.ref ed, .int (nI k), .int mo9]))]) [0, 1] rfl
  refine vp_callSi (W.runV (As := [.int i]) (rest := []) ⟨hx, hb, hml, hown, hts⟩ (k_P_hasSegment l D E h0 ed k ad sn mo9 i) (cwV 1 hts (gw_gv wd_571 wd_573 wd_20 wd_37 wd_574) rfl rfl rfl (by decide +kernel) ⟨Nat.le_of_ble_eq_true rfl, Nat.le_of_ble_eq_true rfl⟩) (rP_V 0 hPc hK rfl rfl) rfl rfl hl.1 rfl (lv_room (Nat.le_of_ble_eq_true rfl)) d_P_crossing_2 ⟨Nat.le_of_ble_eq_true rfl, Nat.le_of_ble_eq_true rfl⟩) (fun r1 hr1 => ?_)
  subst hr1
  refine lv_if_eq (tgt := 23) hx hb d_P_crossing_5 (by decide) (fun c1 => ?_) (fun c1 => ?_)
  · exact th_IO (is := 114) (text := "no such segment or what") hx hb hl0 hown hG hK hZ hS (hl.1.trans hml.symm) (by decide +kernel) wd_575 wd_56 d_P_crossing_23 d_P_crossing_26 d_P_crossing_27 d_P_crossing_29 d_P_crossing_32 hT (Nat.le_of_ble_eq_true rfl) (Nat.le_of_ble_eq_true rfl) (Nat.le_of_ble_eq_true rfl) (Nat.le_of_ble_eq_true rfl) hlocks (Nat.le_refl _) (Nat.le_refl _) () trivial (hP.sub [] rfl) va_D_nil
  · refine lv_aload_n hx hb d_P_crossing_8 rfl (lv_at hl 0 rfl) ?_
    refine lv_iload_n hx hb d_P_crossing_9 rfl (lv_at hl 2 rfl) ?_
    have hPc := hP.sub (ws' := [(h0, .inr (2, [.ref (ad 0), .ref (ad 1), .ref (ad 2), .ref (ad 3), .ref (ad 4), .ref (ad 5), .int sn])), ((ad 0), .inr (4, [.ref ed, .int (nI k), .int mo9]))]) [0, 1] rfl
    refine vp_callSi (W.runV (As := [.int j]) (rest := []) ⟨hx, hb, hml, hown, hts⟩ (k_P_hasSegment l D E h0 ed k ad sn mo9 j) (cwV 1 hts (gw_gv wd_571 wd_573 wd_20 wd_37 wd_574) rfl rfl rfl (by decide +kernel) ⟨Nat.le_of_ble_eq_true rfl, Nat.le_of_ble_eq_true rfl⟩) (rP_V 0 hPc hK rfl rfl) rfl rfl hl.1 rfl (lv_room (Nat.le_of_ble_eq_true rfl)) d_P_crossing_10 ⟨Nat.le_of_ble_eq_true rfl, Nat.le_of_ble_eq_true rfl⟩) (fun r2 hr2 => ?_)
    subst hr2
    refine lv_if_eq (tgt := 23) hx hb d_P_crossing_13 (by decide) (fun c2 => ?_) (fun c2 => ?_)
    · exact th_IO (is := 114) (text := "no such segment or what") hx hb hl0 hown hG hK hZ hS (hl.1.trans hml.symm) (by decide +kernel) wd_575 wd_56 d_P_crossing_23 d_P_crossing_26 d_P_crossing_27 d_P_crossing_29 d_P_crossing_32 hT (Nat.le_of_ble_eq_true rfl) (Nat.le_of_ble_eq_true rfl) (Nat.le_of_ble_eq_true rfl) (Nat.le_of_ble_eq_true rfl) hlocks (Nat.le_refl _) (Nat.le_refl _) () trivial (hP.sub [] rfl) va_D_nil
    · refine lv_iload_n hx hb d_P_crossing_16 rfl (lv_at hl 3 rfl) ?_
      have hPc := hP.sub (ws' := []) [] rfl
      refine vp_callSi (W.runS (As := [.int wh]) (rest := []) ⟨hx, hb, hml, hown, hts⟩ (k_P_isXOrY l D E wh) (va_cwS 1 hts (gw_gs wd_599 wd_600 wd_37 wd_601) rfl rfl rfl (by decide +kernel) ⟨Nat.le_of_ble_eq_true rfl, Nat.le_of_ble_eq_true rfl⟩) (rP_S hPc hK) rfl rfl hl.1 rfl (lv_room (Nat.le_of_ble_eq_true rfl)) d_P_crossing_17 ⟨Nat.le_of_ble_eq_true rfl, Nat.le_of_ble_eq_true rfl⟩) (fun r3 hr3 => ?_)
      subst hr3
      refine lv_if_ne (tgt := 33) hx hb d_P_crossing_20 (by decide) (fun c3 => ?_) (fun c3 => ?_)
      · exact absurd h (fun h => h.elim c1 (fun h => h.elim c2 c3))
      · exact th_IO (is := 114) (text := "no such segment or what") hx hb hl0 hown hG hK hZ hS (hl.1.trans hml.symm) (by decide +kernel) wd_575 wd_56 d_P_crossing_23 d_P_crossing_26 d_P_crossing_27 d_P_crossing_29 d_P_crossing_32 hT (Nat.le_of_ble_eq_true rfl) (Nat.le_of_ble_eq_true rfl) (Nat.le_of_ble_eq_true rfl) (Nat.le_of_ble_eq_true rfl) hlocks (Nat.le_refl _) (Nat.le_refl _) () trivial (hP.sub [] rfl) va_D_nil
set_option maxHeartbeats 4000000 in
set_option maxRecDepth 100000 in
theorem x_P_crossing_b (l : Launch) (hl0 : l.stackTraces = false) (D : va_G) (E : ClassId × ClassId × ClassId × ClassId) (e0 sz : Nat) (h0 ed k : Nat) (ad : Nat → Nat) (sn mo9 : Int32) (sg : Nat → SQ) (LP : List Nat) (pf : Nat → va_E) (hL : Lst E LP pf e0 ed k sg) (hk : k ≤ 2048) (i j : Nat) (wh : Int32) (h1 : i < k) (h2 : j < k) (h3 : sp_xy wh = 1) (h4 : ¬ sg_cross (sg i) (sg j)) : vx_Met l y_P_crossing (.code y_P_crossing c_P_crossing 6 (some .int) :: gw) ({ frames := 6, cells := 1, slots := 6, locals := 100 } : Room) (tP D E e0 ([(h0, .inr (2, [.ref (ad 0), .ref (ad 1), .ref (ad 2), .ref (ad 3), .ref (ad 4), .ref (ad 5), .int sn])), ((ad 0), .inr (4, [.ref ed, .int (nI k), .int mo9]))] ++ va_pl LP pf) sz [.ref h0, .int (nI i), .int (nI j), .int wh]) xQ (xC D "java/lang/IllegalStateException" (fun (_ : Unit) => True) (fun _ => []) (fun q => sz ≤ q)) 1 6 (fun q => sz ≤ q) := by
  refine tr_of (y := y_P_crossing) (cc := c_P_crossing) (maxL := 6) (ws := ([(h0, .inr (2, [.ref (ad 0), .ref (ad 1), .ref (ad 2), .ref (ad 3), .ref (ad 4), .ref (ad 5), .int sn])), ((ad 0), .inr (4, [.ref ed, .int (nI k), .int mo9]))] ++ va_pl LP pf)) (sz := sz) (av := [.ref h0, .int (nI i), .int (nI j), .int wh]) (XC := fun A => xC D "java/lang/IllegalStateException" (fun (_ : Unit) => True) (fun _ => []) A) (by decide) (Nat.le_of_ble_eq_true rfl) ?_
  intro p e s m below meth c B hT hP hK A hA hS hZ ls hl
  obtain ⟨hx, hb, hrt, hml, hown, hts, hG, hlocks, hin⟩ := B
  have hl : lv_has ls 6 [(0, .ref h0), (1, .int (nI i)), (2, .int (nI j)), (3, .int wh)] := hl
  refine lv_aload_n hx hb d_P_crossing_0 rfl (lv_at hl 0 rfl) ?_
  refine lv_iload_n hx hb d_P_crossing_1 rfl (lv_at hl 1 rfl) ?_
  have hPc := hP.sub (ws' := [(h0, .inr (2, [.ref (ad 0), .ref (ad 1), .ref (ad 2), .ref (ad 3), .ref (ad 4), .ref (ad 5), .int sn])), ((ad 0), .inr (4, [.ref ed, .int (nI k), .int mo9]))]) [0, 1] rfl
  refine vp_callSi (W.runV (As := [.int (nI i)]) (rest := []) ⟨hx, hb, hml, hown, hts⟩ (k_P_hasSegment l D E h0 ed k ad sn mo9 (nI i)) (cwV 1 hts (gw_gv wd_571 wd_573 wd_20 wd_37 wd_574) rfl rfl rfl (by decide +kernel) ⟨Nat.le_of_ble_eq_true rfl, Nat.le_of_ble_eq_true rfl⟩) (rP_V 0 hPc hK rfl rfl) rfl rfl hl.1 rfl (lv_room (Nat.le_of_ble_eq_true rfl)) d_P_crossing_2 ⟨Nat.le_of_ble_eq_true rfl, Nat.le_of_ble_eq_true rfl⟩) (fun rh1 hrh1 => ?_)
  rw [rw_has_in h1 (by omega)] at hrh1
  subst hrh1
  refine lv_if_eq (tgt := 23) hx hb d_P_crossing_5 (by decide) (fun c1 => ?_) (fun c1 => ?_)
  · exact absurd c1 (by decide)
  · refine lv_aload_n hx hb d_P_crossing_8 rfl (lv_at hl 0 rfl) ?_
    refine lv_iload_n hx hb d_P_crossing_9 rfl (lv_at hl 2 rfl) ?_
    have hPc := hP.sub (ws' := [(h0, .inr (2, [.ref (ad 0), .ref (ad 1), .ref (ad 2), .ref (ad 3), .ref (ad 4), .ref (ad 5), .int sn])), ((ad 0), .inr (4, [.ref ed, .int (nI k), .int mo9]))]) [0, 1] rfl
    refine vp_callSi (W.runV (As := [.int (nI j)]) (rest := []) ⟨hx, hb, hml, hown, hts⟩ (k_P_hasSegment l D E h0 ed k ad sn mo9 (nI j)) (cwV 1 hts (gw_gv wd_571 wd_573 wd_20 wd_37 wd_574) rfl rfl rfl (by decide +kernel) ⟨Nat.le_of_ble_eq_true rfl, Nat.le_of_ble_eq_true rfl⟩) (rP_V 0 hPc hK rfl rfl) rfl rfl hl.1 rfl (lv_room (Nat.le_of_ble_eq_true rfl)) d_P_crossing_10 ⟨Nat.le_of_ble_eq_true rfl, Nat.le_of_ble_eq_true rfl⟩) (fun rh2 hrh2 => ?_)
    rw [rw_has_in h2 (by omega)] at hrh2
    subst hrh2
    refine lv_if_eq (tgt := 23) hx hb d_P_crossing_13 (by decide) (fun c2 => ?_) (fun c2 => ?_)
    · exact absurd c2 (by decide)
    · refine lv_iload_n hx hb d_P_crossing_16 rfl (lv_at hl 3 rfl) ?_
      have hPc := hP.sub (ws' := []) [] rfl
      refine vp_callSi (W.runS (As := [.int wh]) (rest := []) ⟨hx, hb, hml, hown, hts⟩ (k_P_isXOrY l D E wh) (va_cwS 1 hts (gw_gs wd_599 wd_600 wd_37 wd_601) rfl rfl rfl (by decide +kernel) ⟨Nat.le_of_ble_eq_true rfl, Nat.le_of_ble_eq_true rfl⟩) (rP_S hPc hK) rfl rfl hl.1 rfl (lv_room (Nat.le_of_ble_eq_true rfl)) d_P_crossing_17 ⟨Nat.le_of_ble_eq_true rfl, Nat.le_of_ble_eq_true rfl⟩) (fun r3 hr3 => ?_)
      rw [h3] at hr3
      subst hr3
      refine lv_if_ne (tgt := 33) hx hb d_P_crossing_20 (by decide) (fun c3 => ?_) (fun c3 => ?_)
      · refine lv_aload_n hx hb d_P_crossing_33 rfl (lv_at hl 0 rfl) ?_
        refine va_get (D := D) (ci := 2) (v := .ref (ad 0)) (C := K_P) (T := F_P) (N := 7) hx hb hG in_P hown hK.1 hP 0 rfl rfl 0 (by decide) (hG _ wd_109) (fun _ h9 => h9) rfl d_P_crossing_34 ?_
        refine lv_iload_n hx hb d_P_crossing_37 rfl (lv_at hl 1 rfl) ?_
        obtain ⟨n_ga, l_ga, ga, x1_ga, x2_ga, x3_ga, x4_ga, x5_ga, x6_ga, x7_ga⟩ := hL.get (i := i) h1
        have hPc : va_P D vwC [((ad 0), .inr (4, [.ref ed, .int (nI k), .int mo9])), (ed, .inl (E.2.2.2, n_ga, .inr (.inr (.inr (.inr l_ga)))))] s.heap := pl_cons (hP.sub (ws' := [((ad 0), .inr (4, [.ref ed, .int (nI k), .int mo9]))]) [1] rfl) (pl_one (X := [(h0, .inr (2, [.ref (ad 0), .ref (ad 1), .ref (ad 2), .ref (ad 3), .ref (ad 4), .ref (ad 5), .int sn])), ((ad 0), .inr (4, [.ref ed, .int (nI k), .int mo9]))]) hP x1_ga x2_ga)
        refine va_csq (W.runV (As := [.int (nI i)]) (rest := []) ⟨hx, hb, hml, hown, hts⟩ (k_A_get l D E (ad 0) ed n_ga k i mo9 l_ga h1 x3_ga (by omega)) (cwV 1 hts (gw_gv wd_369 wd_370 wd_371 wd_40 wd_372) rfl rfl rfl (by decide +kernel) ⟨Nat.le_of_ble_eq_true rfl, Nat.le_of_ble_eq_true rfl⟩) (rP_V 0 hPc hK rfl rfl) rfl rfl hl.1 rfl (lv_room (Nat.le_of_ble_eq_true rfl)) d_P_crossing_38 ⟨Nat.le_of_ble_eq_true rfl, Nat.le_of_ble_eq_true rfl⟩) (fun r_ga hr_ga => ?_)
        rw [x5_ga] at hr_ga
        subst hr_ga
        refine va_castS (a := ga) hx hb hown (hG _ wd_258) (hK.1.1 1 _ rfl).2 (va_recv (q0 := 0) hK.1 (pl_one (X := [(h0, .inr (2, [.ref (ad 0), .ref (ad 1), .ref (ad 2), .ref (ad 3), .ref (ad 4), .ref (ad 5), .int sn])), ((ad 0), .inr (4, [.ref ed, .int (nI k), .int mo9]))]) hP x6_ga x7_ga) rfl rfl) d_P_crossing_41 ?_
        refine lv_astore (lv' := [(4, .ref ga), (0, .ref h0), (1, .int (nI i)), (2, .int (nI j)), (3, .int wh)]) hx hb d_P_crossing_44 hl (by decide) rfl (fun ls hl => ?_)
        refine lv_aload_n hx hb d_P_crossing_46 rfl (lv_at hl 1 rfl) ?_
        refine va_get (D := D) (ci := 2) (v := .ref (ad 0)) (C := K_P) (T := F_P) (N := 7) hx hb hG in_P hown hK.1 hP 0 rfl rfl 0 (by decide) (hG _ wd_109) (fun _ h9 => h9) rfl d_P_crossing_47 ?_
        refine lv_iload_n hx hb d_P_crossing_50 rfl (lv_at hl 3 rfl) ?_
        obtain ⟨n_gb, l_gb, gb, x1_gb, x2_gb, x3_gb, x4_gb, x5_gb, x6_gb, x7_gb⟩ := hL.get (i := j) h2
        have hPc : va_P D vwC [((ad 0), .inr (4, [.ref ed, .int (nI k), .int mo9])), (ed, .inl (E.2.2.2, n_gb, .inr (.inr (.inr (.inr l_gb)))))] s.heap := pl_cons (hP.sub (ws' := [((ad 0), .inr (4, [.ref ed, .int (nI k), .int mo9]))]) [1] rfl) (pl_one (X := [(h0, .inr (2, [.ref (ad 0), .ref (ad 1), .ref (ad 2), .ref (ad 3), .ref (ad 4), .ref (ad 5), .int sn])), ((ad 0), .inr (4, [.ref ed, .int (nI k), .int mo9]))]) hP x1_gb x2_gb)
        refine va_csq (W.runV (As := [.int (nI j)]) (rest := []) ⟨hx, hb, hml, hown, hts⟩ (k_A_get l D E (ad 0) ed n_gb k j mo9 l_gb h2 x3_gb (by omega)) (cwV 1 hts (gw_gv wd_369 wd_370 wd_371 wd_40 wd_372) rfl rfl rfl (by decide +kernel) ⟨Nat.le_of_ble_eq_true rfl, Nat.le_of_ble_eq_true rfl⟩) (rP_V 0 hPc hK rfl rfl) rfl rfl hl.1 rfl (lv_room (Nat.le_of_ble_eq_true rfl)) d_P_crossing_51 ⟨Nat.le_of_ble_eq_true rfl, Nat.le_of_ble_eq_true rfl⟩) (fun r_gb hr_gb => ?_)
        rw [x5_gb] at hr_gb
        subst hr_gb
        refine va_castS (a := gb) hx hb hown (hG _ wd_258) (hK.1.1 1 _ rfl).2 (va_recv (q0 := 0) hK.1 (pl_one (X := [(h0, .inr (2, [.ref (ad 0), .ref (ad 1), .ref (ad 2), .ref (ad 3), .ref (ad 4), .ref (ad 5), .int sn])), ((ad 0), .inr (4, [.ref ed, .int (nI k), .int mo9]))]) hP x6_gb x7_gb) rfl rfl) d_P_crossing_54 ?_
        refine lv_astore (lv' := [(5, .ref gb), (4, .ref ga), (0, .ref h0), (1, .int (nI i)), (2, .int (nI j)), (3, .int wh)]) hx hb d_P_crossing_57 hl (by decide) rfl (fun ls hl => ?_)
        refine lv_aload hx hb d_P_crossing_59 (lv_at hl 1 rfl) ?_
        refine lv_aload hx hb d_P_crossing_61 (lv_at hl 0 rfl) ?_
        have hPc : va_P D vwC [(ga, .inr (1, sgF (sg i))), (gb, .inr (1, sgF (sg j)))] s.heap := pl_cons (pl_one (X := [(h0, .inr (2, [.ref (ad 0), .ref (ad 1), .ref (ad 2), .ref (ad 3), .ref (ad 4), .ref (ad 5), .int sn])), ((ad 0), .inr (4, [.ref ed, .int (nI k), .int mo9]))]) hP x6_ga x7_ga) (pl_one (X := [(h0, .inr (2, [.ref (ad 0), .ref (ad 1), .ref (ad 2), .ref (ad 3), .ref (ad 4), .ref (ad 5), .int sn])), ((ad 0), .inr (4, [.ref ed, .int (nI k), .int mo9]))]) hP x6_gb x7_gb)
        refine vp_callSi (W.runV (As := [.ref gb]) (rest := []) ⟨hx, hb, hml, hown, hts⟩ (k_S_crosses l D E ga gb (sg i) (sg j)) (cwV 1 hts (gw_gv wd_439 wd_440 wd_441 wd_48 wd_442) rfl rfl rfl (by decide +kernel) ⟨Nat.le_of_ble_eq_true rfl, Nat.le_of_ble_eq_true rfl⟩) (rP_V 0 hPc hK rfl rfl) rfl rfl hl.1 rfl (lv_room (Nat.le_of_ble_eq_true rfl)) d_P_crossing_63 ⟨Nat.le_of_ble_eq_true rfl, Nat.le_of_ble_eq_true rfl⟩) (fun r4 hr4 => ?_)
        rw [b01_f h4] at hr4
        subst hr4
        refine lv_if_ne (tgt := 79) hx hb d_P_crossing_66 (by decide) (fun c4 => ?_) (fun c4 => ?_)
        · exact absurd rfl c4
        · exact th_IS (is := 120) (text := "the segments do not cross") hx hb hl0 hown hG hK hZ hS (hl.1.trans hml.symm) (by decide +kernel) wd_242 wd_47 d_P_crossing_69 d_P_crossing_72 d_P_crossing_73 d_P_crossing_75 d_P_crossing_78 hT (Nat.le_of_ble_eq_true rfl) (Nat.le_of_ble_eq_true rfl) (Nat.le_of_ble_eq_true rfl) (Nat.le_of_ble_eq_true rfl) hlocks (Nat.le_refl _) (Nat.le_refl _) () trivial (hP.sub [] rfl) va_D_nil
      · exact absurd c3 (by decide)
set_option maxHeartbeats 4000000 in
set_option maxRecDepth 100000 in
theorem x_P_pixel (l : Launch) (hl0 : l.stackTraces = false) (D : va_G) (E : ClassId × ClassId × ClassId × ClassId) (e0 sz : Nat) (h0 a1 : Nat) (ad : Nat → Nat) (sn z1 i wh : Int32) (h : rw_has z1 i = 0 ∨ sp_xy wh = 0) : vx_Met l y_P_pixel (.code y_P_pixel c_P_pixel 3 (some .int) :: gw) ({ frames := 6, cells := 1, slots := 6, locals := 100 } : Room) (tP D E e0 [(h0, .inr (2, [.ref (ad 0), .ref (ad 1), .ref (ad 2), .ref (ad 3), .ref (ad 4), .ref (ad 5), .int sn])), ((ad 1), .inr (0, [.int (nI 16384), .ref a1, .int z1]))] sz [.ref h0, .int i, .int wh]) xQ (xC D "java/lang/IndexOutOfBoundsException" (fun (_ : Unit) => True) (fun _ => []) (fun q => sz ≤ q)) 1 6 (fun q => sz ≤ q) := by
  refine tr_of (y := y_P_pixel) (cc := c_P_pixel) (maxL := 3) (ws := [(h0, .inr (2, [.ref (ad 0), .ref (ad 1), .ref (ad 2), .ref (ad 3), .ref (ad 4), .ref (ad 5), .int sn])), ((ad 1), .inr (0, [.int (nI 16384), .ref a1, .int z1]))]) (sz := sz) (av := [.ref h0, .int i, .int wh]) (XC := fun A => xC D "java/lang/IndexOutOfBoundsException" (fun (_ : Unit) => True) (fun _ => []) A) (by decide) (Nat.le_of_ble_eq_true rfl) ?_
  intro p e s m below meth c B hT hP hK A hA hS hZ ls hl
  obtain ⟨hx, hb, hrt, hml, hown, hts, hG, hlocks, hin⟩ := B
  have hl : lv_has ls 3 [(0, .ref h0), (1, .int i), (2, .int wh)] := hl
  refine lv_aload_n hx hb d_P_pixel_0 rfl (lv_at hl 0 rfl) ?_
  refine va_get (D := D) (ci := 2) (v := .ref (ad 1)) (C := K_P) (T := F_P) (N := 7) hx hb hG in_P hown hK.1 hP 0 rfl rfl 1 (by decide) (hG _ wd_110) (fun _ h9 => h9) rfl d_P_pixel_1 ?_
  refine lv_iload_n hx hb d_P_pixel_4 rfl (lv_at hl 1 rfl) ?_
  have hPc := hP.sub (ws' := [((ad 1), .inr (0, [.int (nI 16384), .ref a1, .int z1]))]) [1] rfl
  refine vp_callSi (W.runV (As := [.int i]) (rest := []) ⟨hx, hb, hml, hown, hts⟩ (k_R_has l D E (ad 1) a1 (nI 16384) z1 i) (cwV 1 hts (gw_gv wd_614 wd_488 wd_489 wd_41 wd_490) rfl rfl rfl (by decide +kernel) ⟨Nat.le_of_ble_eq_true rfl, Nat.le_of_ble_eq_true rfl⟩) (rP_V 0 hPc hK rfl rfl) rfl rfl hl.1 rfl (lv_room (Nat.le_of_ble_eq_true rfl)) d_P_pixel_5 ⟨Nat.le_of_ble_eq_true rfl, Nat.le_of_ble_eq_true rfl⟩) (fun r1 hr1 => ?_)
  subst hr1
  refine lv_if_eq (tgt := 18) hx hb d_P_pixel_8 (by decide) (fun c1 => ?_) (fun c1 => ?_)
  · exact th_IO (is := 133) (text := "no such pixel or what") hx hb hl0 hown hG hK hZ hS (hl.1.trans hml.symm) (by decide +kernel) wd_575 wd_56 d_P_pixel_18 d_P_pixel_21 d_P_pixel_22 d_P_pixel_24 d_P_pixel_27 hT (Nat.le_of_ble_eq_true rfl) (Nat.le_of_ble_eq_true rfl) (Nat.le_of_ble_eq_true rfl) (Nat.le_of_ble_eq_true rfl) hlocks (Nat.le_refl _) (Nat.le_refl _) () trivial (hP.sub [] rfl) va_D_nil
  · refine lv_iload_n hx hb d_P_pixel_11 rfl (lv_at hl 2 rfl) ?_
    have hPc := hP.sub (ws' := []) [] rfl
    refine vp_callSi (W.runS (As := [.int wh]) (rest := []) ⟨hx, hb, hml, hown, hts⟩ (k_P_isXOrY l D E wh) (va_cwS 1 hts (gw_gs wd_599 wd_600 wd_37 wd_601) rfl rfl rfl (by decide +kernel) ⟨Nat.le_of_ble_eq_true rfl, Nat.le_of_ble_eq_true rfl⟩) (rP_S hPc hK) rfl rfl hl.1 rfl (lv_room (Nat.le_of_ble_eq_true rfl)) d_P_pixel_12 ⟨Nat.le_of_ble_eq_true rfl, Nat.le_of_ble_eq_true rfl⟩) (fun r2 hr2 => ?_)
    subst hr2
    refine lv_if_ne (tgt := 28) hx hb d_P_pixel_15 (by decide) (fun c2 => ?_) (fun c2 => ?_)
    · exact absurd h (fun h => h.elim c1 c2)
    · exact th_IO (is := 133) (text := "no such pixel or what") hx hb hl0 hown hG hK hZ hS (hl.1.trans hml.symm) (by decide +kernel) wd_575 wd_56 d_P_pixel_18 d_P_pixel_21 d_P_pixel_22 d_P_pixel_24 d_P_pixel_27 hT (Nat.le_of_ble_eq_true rfl) (Nat.le_of_ble_eq_true rfl) (Nat.le_of_ble_eq_true rfl) (Nat.le_of_ble_eq_true rfl) hlocks (Nat.le_refl _) (Nat.le_refl _) () trivial (hP.sub [] rfl) va_D_nil
set_option maxHeartbeats 4000000 in
set_option maxRecDepth 100000 in
theorem x_P_chain_a (l : Launch) (hl0 : l.stackTraces = false) (D : va_G) (E : ClassId × ClassId × ClassId × ClassId) (e0 sz : Nat) (h0 ed k : Nat) (ad : Nat → Nat) (sn mo9 : Int32) (i : Int32) (h : rw_has (nI k) i = 0) : vx_Met l y_P_chain (.code y_P_chain c_P_chain 2 (some .int) :: gw) ({ frames := 6, cells := 1, slots := 6, locals := 100 } : Room) (tP D E e0 [(h0, .inr (2, [.ref (ad 0), .ref (ad 1), .ref (ad 2), .ref (ad 3), .ref (ad 4), .ref (ad 5), .int sn])), ((ad 0), .inr (4, [.ref ed, .int (nI k), .int mo9]))] sz [.ref h0, .int i]) xQ (xC D "java/lang/IndexOutOfBoundsException" (fun (_ : Unit) => True) (fun _ => []) (fun q => sz ≤ q)) 1 6 (fun q => sz ≤ q) := by
  refine tr_of (y := y_P_chain) (cc := c_P_chain) (maxL := 2) (ws := [(h0, .inr (2, [.ref (ad 0), .ref (ad 1), .ref (ad 2), .ref (ad 3), .ref (ad 4), .ref (ad 5), .int sn])), ((ad 0), .inr (4, [.ref ed, .int (nI k), .int mo9]))]) (sz := sz) (av := [.ref h0, .int i]) (XC := fun A => xC D "java/lang/IndexOutOfBoundsException" (fun (_ : Unit) => True) (fun _ => []) A) (by decide) (Nat.le_of_ble_eq_true rfl) ?_
  intro p e s m below meth c B hT hP hK A hA hS hZ ls hl
  obtain ⟨hx, hb, hrt, hml, hown, hts, hG, hlocks, hin⟩ := B
  have hl : lv_has ls 2 [(0, .ref h0), (1, .int i)] := hl
  refine lv_aload_n hx hb d_P_chain_0 rfl (lv_at hl 0 rfl) ?_
  refine lv_iload_n hx hb d_P_chain_1 rfl (lv_at hl 1 rfl) ?_
  have hPc := hP.sub (ws' := [(h0, .inr (2, [.ref (ad 0), .ref (ad 1), .ref (ad 2), .ref (ad 3), .ref (ad 4), .ref (ad 5), .int sn])), ((ad 0), .inr (4, [.ref ed, .int (nI k), .int mo9]))]) [0, 1] rfl
  refine vp_callSi (W.runV (As := [.int i]) (rest := []) ⟨hx, hb, hml, hown, hts⟩ (k_P_hasSegment l D E h0 ed k ad sn mo9 i) (cwV 1 hts (gw_gv wd_571 wd_573 wd_20 wd_37 wd_574) rfl rfl rfl (by decide +kernel) ⟨Nat.le_of_ble_eq_true rfl, Nat.le_of_ble_eq_true rfl⟩) (rP_V 0 hPc hK rfl rfl) rfl rfl hl.1 rfl (lv_room (Nat.le_of_ble_eq_true rfl)) d_P_chain_2 ⟨Nat.le_of_ble_eq_true rfl, Nat.le_of_ble_eq_true rfl⟩) (fun r1 hr1 => ?_)
  subst hr1
  refine lv_if_ne (tgt := 18) hx hb d_P_chain_5 (by decide) (fun c1 => ?_) (fun c1 => ?_)
  · exact absurd h c1
  · exact th_IO (is := 98) (text := "no such segment") hx hb hl0 hown hG hK hZ hS (hl.1.trans hml.symm) (by decide +kernel) wd_575 wd_56 d_P_chain_8 d_P_chain_11 d_P_chain_12 d_P_chain_14 d_P_chain_17 hT (Nat.le_of_ble_eq_true rfl) (Nat.le_of_ble_eq_true rfl) (Nat.le_of_ble_eq_true rfl) (Nat.le_of_ble_eq_true rfl) hlocks (Nat.le_refl _) (Nat.le_refl _) () trivial (hP.sub [] rfl) va_D_nil
set_option maxHeartbeats 4000000 in
set_option maxRecDepth 100000 in
theorem x_P_chain_b (l : Launch) (hl0 : l.stackTraces = false) (D : va_G) (E : ClassId × ClassId × ClassId × ClassId) (e0 sz : Nat) (h0 ed k : Nat) (ad : Nat → Nat) (mo9 : Int32) (i : Int32) (h : ¬ rw_has (nI k) i = 0) : vx_Met l y_P_chain (.code y_P_chain c_P_chain 2 (some .int) :: gw) ({ frames := 6, cells := 1, slots := 6, locals := 100 } : Room) (tP D E e0 [(h0, .inr (2, [.ref (ad 0), .ref (ad 1), .ref (ad 2), .ref (ad 3), .ref (ad 4), .ref (ad 5), .int 0])), ((ad 0), .inr (4, [.ref ed, .int (nI k), .int mo9]))] sz [.ref h0, .int i]) xQ (xC D "java/lang/IllegalStateException" (fun (_ : Unit) => True) (fun _ => []) (fun q => sz ≤ q)) 1 6 (fun q => sz ≤ q) := by
  refine tr_of (y := y_P_chain) (cc := c_P_chain) (maxL := 2) (ws := [(h0, .inr (2, [.ref (ad 0), .ref (ad 1), .ref (ad 2), .ref (ad 3), .ref (ad 4), .ref (ad 5), .int 0])), ((ad 0), .inr (4, [.ref ed, .int (nI k), .int mo9]))]) (sz := sz) (av := [.ref h0, .int i]) (XC := fun A => xC D "java/lang/IllegalStateException" (fun (_ : Unit) => True) (fun _ => []) A) (by decide) (Nat.le_of_ble_eq_true rfl) ?_
  intro p e s m below meth c B hT hP hK A hA hS hZ ls hl
  obtain ⟨hx, hb, hrt, hml, hown, hts, hG, hlocks, hin⟩ := B
  have hl : lv_has ls 2 [(0, .ref h0), (1, .int i)] := hl
  refine lv_aload_n hx hb d_P_chain_0 rfl (lv_at hl 0 rfl) ?_
  refine lv_iload_n hx hb d_P_chain_1 rfl (lv_at hl 1 rfl) ?_
  have hPc := hP.sub (ws' := [(h0, .inr (2, [.ref (ad 0), .ref (ad 1), .ref (ad 2), .ref (ad 3), .ref (ad 4), .ref (ad 5), .int 0])), ((ad 0), .inr (4, [.ref ed, .int (nI k), .int mo9]))]) [0, 1] rfl
  refine vp_callSi (W.runV (As := [.int i]) (rest := []) ⟨hx, hb, hml, hown, hts⟩ (k_P_hasSegment l D E h0 ed k ad 0 mo9 i) (cwV 1 hts (gw_gv wd_571 wd_573 wd_20 wd_37 wd_574) rfl rfl rfl (by decide +kernel) ⟨Nat.le_of_ble_eq_true rfl, Nat.le_of_ble_eq_true rfl⟩) (rP_V 0 hPc hK rfl rfl) rfl rfl hl.1 rfl (lv_room (Nat.le_of_ble_eq_true rfl)) d_P_chain_2 ⟨Nat.le_of_ble_eq_true rfl, Nat.le_of_ble_eq_true rfl⟩) (fun r1 hr1 => ?_)
  subst hr1
  refine lv_if_ne (tgt := 18) hx hb d_P_chain_5 (by decide) (fun c1 => ?_) (fun c1 => ?_)
  · refine lv_aload_n hx hb d_P_chain_18 rfl (lv_at hl 0 rfl) ?_
    refine va_get (D := D) (ci := 2) (v := .int 0) (C := K_P) (T := F_P) (N := 7) hx hb hG in_P hown hK.1 hP 0 rfl rfl 6 (by decide) (hG _ wd_115) (fun _ h9 => h9) rfl d_P_chain_19 ?_
    refine lv_if_ne (tgt := 35) hx hb d_P_chain_22 (by decide) (fun c2 => ?_) (fun c2 => ?_)
    · exact absurd rfl c2
    · exact th_IS (is := 139) (text := "there are no chains") hx hb hl0 hown hG hK hZ hS (hl.1.trans hml.symm) (by decide +kernel) wd_242 wd_47 d_P_chain_25 d_P_chain_28 d_P_chain_29 d_P_chain_31 d_P_chain_34 hT (Nat.le_of_ble_eq_true rfl) (Nat.le_of_ble_eq_true rfl) (Nat.le_of_ble_eq_true rfl) (Nat.le_of_ble_eq_true rfl) hlocks (Nat.le_refl _) (Nat.le_refl _) () trivial (hP.sub [] rfl) va_D_nil
  · exact absurd c1 h
set_option maxHeartbeats 4000000 in
set_option maxRecDepth 100000 in
theorem x_P_chainAt_a (l : Launch) (hl0 : l.stackTraces = false) (D : va_G) (E : ClassId × ClassId × ClassId × ClassId) (e0 sz : Nat) (h0 ed k : Nat) (ad : Nat → Nat) (sn mo9 : Int32) (i g : Int32) (h : rw_has (nI k) i = 0) : vx_Met l y_P_chainAt (.code y_P_chainAt c_P_chainAt 4 (some .int) :: gw) ({ frames := 6, cells := 1, slots := 6, locals := 100 } : Room) (tP D E e0 [(h0, .inr (2, [.ref (ad 0), .ref (ad 1), .ref (ad 2), .ref (ad 3), .ref (ad 4), .ref (ad 5), .int sn])), ((ad 0), .inr (4, [.ref ed, .int (nI k), .int mo9]))] sz [.ref h0, .int i, .int g]) xQ (xC D "java/lang/IndexOutOfBoundsException" (fun (_ : Unit) => True) (fun _ => []) (fun q => sz ≤ q)) 1 6 (fun q => sz ≤ q) := by
  refine tr_of (y := y_P_chainAt) (cc := c_P_chainAt) (maxL := 4) (ws := [(h0, .inr (2, [.ref (ad 0), .ref (ad 1), .ref (ad 2), .ref (ad 3), .ref (ad 4), .ref (ad 5), .int sn])), ((ad 0), .inr (4, [.ref ed, .int (nI k), .int mo9]))]) (sz := sz) (av := [.ref h0, .int i, .int g]) (XC := fun A => xC D "java/lang/IndexOutOfBoundsException" (fun (_ : Unit) => True) (fun _ => []) A) (by decide) (Nat.le_of_ble_eq_true rfl) ?_
  intro p e s m below meth c B hT hP hK A hA hS hZ ls hl
  obtain ⟨hx, hb, hrt, hml, hown, hts, hG, hlocks, hin⟩ := B
  have hl : lv_has ls 4 [(0, .ref h0), (1, .int i), (2, .int g)] := hl
  refine lv_aload_n hx hb d_P_chainAt_0 rfl (lv_at hl 0 rfl) ?_
  refine lv_iload_n hx hb d_P_chainAt_1 rfl (lv_at hl 1 rfl) ?_
  have hPc := hP.sub (ws' := [(h0, .inr (2, [.ref (ad 0), .ref (ad 1), .ref (ad 2), .ref (ad 3), .ref (ad 4), .ref (ad 5), .int sn])), ((ad 0), .inr (4, [.ref ed, .int (nI k), .int mo9]))]) [0, 1] rfl
  refine vp_callSi (W.runV (As := [.int i]) (rest := []) ⟨hx, hb, hml, hown, hts⟩ (k_P_hasSegment l D E h0 ed k ad sn mo9 i) (cwV 1 hts (gw_gv wd_571 wd_573 wd_20 wd_37 wd_574) rfl rfl rfl (by decide +kernel) ⟨Nat.le_of_ble_eq_true rfl, Nat.le_of_ble_eq_true rfl⟩) (rP_V 0 hPc hK rfl rfl) rfl rfl hl.1 rfl (lv_room (Nat.le_of_ble_eq_true rfl)) d_P_chainAt_2 ⟨Nat.le_of_ble_eq_true rfl, Nat.le_of_ble_eq_true rfl⟩) (fun r1 hr1 => ?_)
  subst hr1
  refine lv_if_ne (tgt := 18) hx hb d_P_chainAt_5 (by decide) (fun c1 => ?_) (fun c1 => ?_)
  · exact absurd h c1
  · exact th_IO (is := 98) (text := "no such segment") hx hb hl0 hown hG hK hZ hS (hl.1.trans hml.symm) (by decide +kernel) wd_575 wd_56 d_P_chainAt_8 d_P_chainAt_11 d_P_chainAt_12 d_P_chainAt_14 d_P_chainAt_17 hT (Nat.le_of_ble_eq_true rfl) (Nat.le_of_ble_eq_true rfl) (Nat.le_of_ble_eq_true rfl) (Nat.le_of_ble_eq_true rfl) hlocks (Nat.le_refl _) (Nat.le_refl _) () trivial (hP.sub [] rfl) va_D_nil
set_option maxHeartbeats 4000000 in
set_option maxRecDepth 100000 in
theorem x_P_chainAt_b (l : Launch) (hl0 : l.stackTraces = false) (D : va_G) (E : ClassId × ClassId × ClassId × ClassId) (e0 sz : Nat) (h0 ed k : Nat) (ad : Nat → Nat) (mo9 : Int32) (i g : Int32) (h : ¬ rw_has (nI k) i = 0) : vx_Met l y_P_chainAt (.code y_P_chainAt c_P_chainAt 4 (some .int) :: gw) ({ frames := 6, cells := 1, slots := 6, locals := 100 } : Room) (tP D E e0 [(h0, .inr (2, [.ref (ad 0), .ref (ad 1), .ref (ad 2), .ref (ad 3), .ref (ad 4), .ref (ad 5), .int 0])), ((ad 0), .inr (4, [.ref ed, .int (nI k), .int mo9]))] sz [.ref h0, .int i, .int g]) xQ (xC D "java/lang/IllegalStateException" (fun (_ : Unit) => True) (fun _ => []) (fun q => sz ≤ q)) 1 6 (fun q => sz ≤ q) := by
  refine tr_of (y := y_P_chainAt) (cc := c_P_chainAt) (maxL := 4) (ws := [(h0, .inr (2, [.ref (ad 0), .ref (ad 1), .ref (ad 2), .ref (ad 3), .ref (ad 4), .ref (ad 5), .int 0])), ((ad 0), .inr (4, [.ref ed, .int (nI k), .int mo9]))]) (sz := sz) (av := [.ref h0, .int i, .int g]) (XC := fun A => xC D "java/lang/IllegalStateException" (fun (_ : Unit) => True) (fun _ => []) A) (by decide) (Nat.le_of_ble_eq_true rfl) ?_
  intro p e s m below meth c B hT hP hK A hA hS hZ ls hl
  obtain ⟨hx, hb, hrt, hml, hown, hts, hG, hlocks, hin⟩ := B
  have hl : lv_has ls 4 [(0, .ref h0), (1, .int i), (2, .int g)] := hl
  refine lv_aload_n hx hb d_P_chainAt_0 rfl (lv_at hl 0 rfl) ?_
  refine lv_iload_n hx hb d_P_chainAt_1 rfl (lv_at hl 1 rfl) ?_
  have hPc := hP.sub (ws' := [(h0, .inr (2, [.ref (ad 0), .ref (ad 1), .ref (ad 2), .ref (ad 3), .ref (ad 4), .ref (ad 5), .int 0])), ((ad 0), .inr (4, [.ref ed, .int (nI k), .int mo9]))]) [0, 1] rfl
  refine vp_callSi (W.runV (As := [.int i]) (rest := []) ⟨hx, hb, hml, hown, hts⟩ (k_P_hasSegment l D E h0 ed k ad 0 mo9 i) (cwV 1 hts (gw_gv wd_571 wd_573 wd_20 wd_37 wd_574) rfl rfl rfl (by decide +kernel) ⟨Nat.le_of_ble_eq_true rfl, Nat.le_of_ble_eq_true rfl⟩) (rP_V 0 hPc hK rfl rfl) rfl rfl hl.1 rfl (lv_room (Nat.le_of_ble_eq_true rfl)) d_P_chainAt_2 ⟨Nat.le_of_ble_eq_true rfl, Nat.le_of_ble_eq_true rfl⟩) (fun r1 hr1 => ?_)
  subst hr1
  refine lv_if_ne (tgt := 18) hx hb d_P_chainAt_5 (by decide) (fun c1 => ?_) (fun c1 => ?_)
  · refine lv_aload_n hx hb d_P_chainAt_18 rfl (lv_at hl 0 rfl) ?_
    refine va_get (D := D) (ci := 2) (v := .int 0) (C := K_P) (T := F_P) (N := 7) hx hb hG in_P hown hK.1 hP 0 rfl rfl 6 (by decide) (hG _ wd_115) (fun _ h9 => h9) rfl d_P_chainAt_19 ?_
    refine lv_if_ne (tgt := 35) hx hb d_P_chainAt_22 (by decide) (fun c2 => ?_) (fun c2 => ?_)
    · exact absurd rfl c2
    · exact th_IS (is := 139) (text := "there are no chains") hx hb hl0 hown hG hK hZ hS (hl.1.trans hml.symm) (by decide +kernel) wd_242 wd_47 d_P_chainAt_25 d_P_chainAt_28 d_P_chainAt_29 d_P_chainAt_31 d_P_chainAt_34 hT (Nat.le_of_ble_eq_true rfl) (Nat.le_of_ble_eq_true rfl) (Nat.le_of_ble_eq_true rfl) (Nat.le_of_ble_eq_true rfl) hlocks (Nat.le_refl _) (Nat.le_refl _) () trivial (hP.sub [] rfl) va_D_nil
  · exact absurd c1 h
set_option maxHeartbeats 4000000 in
set_option maxRecDepth 100000 in
theorem x_P_chainAt_c (l : Launch) (hl0 : l.stackTraces = false) (D : va_G) (E : ClassId × ClassId × ClassId × ClassId) (e0 sz : Nat) (h0 ed k a2 : Nat) (ad : Nat → Nat) (sn mo9 : Int32) (hk : k ≤ 2048) (R2 : RS) (o2 : rs_ok 2049 R2) (i : Nat) (g : Int32) (h1 : i < k) (h2 : ¬ sn = 0) (h : g < 0 ∨ ¬ g < cst R2 (nI (i + 1)) - cst R2 (nI i)) : vx_Met l y_P_chainAt (.code y_P_chainAt c_P_chainAt 4 (some .int) :: gw) ({ frames := 6, cells := 1, slots := 6, locals := 100 } : Room) (tP D E e0 [(h0, .inr (2, [.ref (ad 0), .ref (ad 1), .ref (ad 2), .ref (ad 3), .ref (ad 4), .ref (ad 5), .int sn])), ((ad 0), .inr (4, [.ref ed, .int (nI k), .int mo9])), ((ad 2), .inr (0, [.int (nI 2049), .ref a2, .int (nI R2.2.2)])), (a2, .inl (E.1, R2.1, .inr (.inl R2.2.1)))] sz [.ref h0, .int (nI i), .int g]) xQ (xC D "java/lang/IndexOutOfBoundsException" (fun (_ : Unit) => True) (fun _ => []) (fun q => sz ≤ q)) 1 6 (fun q => sz ≤ q) := by
  refine tr_of (y := y_P_chainAt) (cc := c_P_chainAt) (maxL := 4) (ws := [(h0, .inr (2, [.ref (ad 0), .ref (ad 1), .ref (ad 2), .ref (ad 3), .ref (ad 4), .ref (ad 5), .int sn])), ((ad 0), .inr (4, [.ref ed, .int (nI k), .int mo9])), ((ad 2), .inr (0, [.int (nI 2049), .ref a2, .int (nI R2.2.2)])), (a2, .inl (E.1, R2.1, .inr (.inl R2.2.1)))]) (sz := sz) (av := [.ref h0, .int (nI i), .int g]) (XC := fun A => xC D "java/lang/IndexOutOfBoundsException" (fun (_ : Unit) => True) (fun _ => []) A) (by decide) (Nat.le_of_ble_eq_true rfl) ?_
  intro p e s m below meth c B hT hP hK A hA hS hZ ls hl
  obtain ⟨hx, hb, hrt, hml, hown, hts, hG, hlocks, hin⟩ := B
  have hl : lv_has ls 4 [(0, .ref h0), (1, .int (nI i)), (2, .int g)] := hl
  have p3 := o2.2.2
  refine lv_aload_n hx hb d_P_chainAt_0 rfl (lv_at hl 0 rfl) ?_
  refine lv_iload_n hx hb d_P_chainAt_1 rfl (lv_at hl 1 rfl) ?_
  have hPc := hP.sub (ws' := [(h0, .inr (2, [.ref (ad 0), .ref (ad 1), .ref (ad 2), .ref (ad 3), .ref (ad 4), .ref (ad 5), .int sn])), ((ad 0), .inr (4, [.ref ed, .int (nI k), .int mo9]))]) [0, 1] rfl
  refine vp_callSi (W.runV (As := [.int (nI i)]) (rest := []) ⟨hx, hb, hml, hown, hts⟩ (k_P_hasSegment l D E h0 ed k ad sn mo9 (nI i)) (cwV 1 hts (gw_gv wd_571 wd_573 wd_20 wd_37 wd_574) rfl rfl rfl (by decide +kernel) ⟨Nat.le_of_ble_eq_true rfl, Nat.le_of_ble_eq_true rfl⟩) (rP_V 0 hPc hK rfl rfl) rfl rfl hl.1 rfl (lv_room (Nat.le_of_ble_eq_true rfl)) d_P_chainAt_2 ⟨Nat.le_of_ble_eq_true rfl, Nat.le_of_ble_eq_true rfl⟩) (fun rh1 hrh1 => ?_)
  rw [rw_has_in h1 (by omega)] at hrh1
  subst hrh1
  refine lv_if_ne (tgt := 18) hx hb d_P_chainAt_5 (by decide) (fun c1 => ?_) (fun c1 => ?_)
  · refine lv_aload_n hx hb d_P_chainAt_18 rfl (lv_at hl 0 rfl) ?_
    refine va_get (D := D) (ci := 2) (v := .int sn) (C := K_P) (T := F_P) (N := 7) hx hb hG in_P hown hK.1 hP 0 rfl rfl 6 (by decide) (hG _ wd_115) (fun _ h9 => h9) rfl d_P_chainAt_19 ?_
    refine lv_if_ne (tgt := 35) hx hb d_P_chainAt_22 (by decide) (fun c2 => ?_) (fun c2 => ?_)
    · refine lv_aload_n hx hb d_P_chainAt_35 rfl (lv_at hl 0 rfl) ?_
      refine lv_iload_n hx hb d_P_chainAt_36 rfl (lv_at hl 1 rfl) ?_
      have hPc := hP.sub (ws' := [(h0, .inr (2, [.ref (ad 0), .ref (ad 1), .ref (ad 2), .ref (ad 3), .ref (ad 4), .ref (ad 5), .int sn])), ((ad 2), .inr (0, [.int (nI 2049), .ref a2, .int (nI R2.2.2)])), (a2, .inl (E.1, R2.1, .inr (.inl R2.2.1)))]) [0, 2, 3] rfl
      refine vp_callSi (W.runV (As := [.int (nI i)]) (rest := []) ⟨hx, hb, hml, hown, hts⟩ (k_P_chainStart l D E h0 a2 ad sn (nI i) R2 o2.2.1 (by omega)) (cwV 1 hts (gw_gv wd_552 wd_554 wd_19 wd_37 wd_555) rfl rfl rfl (by decide +kernel) ⟨Nat.le_of_ble_eq_true rfl, Nat.le_of_ble_eq_true rfl⟩) (rP_V 0 hPc hK rfl rfl) rfl rfl hl.1 rfl (lv_room (Nat.le_of_ble_eq_true rfl)) d_P_chainAt_37 ⟨Nat.le_of_ble_eq_true rfl, Nat.le_of_ble_eq_true rfl⟩) (fun r3 hr3 => ?_)
      obtain rfl : r3 = cst R2 (nI i) := hr3
      refine lv_istore_n (lv' := [(3, .int (cst R2 (nI i))), (0, .ref h0), (1, .int (nI i)), (2, .int g)]) hx hb d_P_chainAt_40 rfl hl (by decide) rfl (fun ls hl => ?_)
      refine lv_iload_n hx hb d_P_chainAt_41 rfl (lv_at hl 3 rfl) ?_
      refine lv_if_lt (tgt := 58) hx hb d_P_chainAt_42 (by decide) (fun c3 => ?_) (fun c3 => ?_)
      · exact th_IO (is := 145) (text := "no such pixel in the chain") hx hb hl0 hown hG hK hZ hS (hl.1.trans hml.symm) (by decide +kernel) wd_575 wd_56 d_P_chainAt_58 d_P_chainAt_61 d_P_chainAt_62 d_P_chainAt_64 d_P_chainAt_67 hT (Nat.le_of_ble_eq_true rfl) (Nat.le_of_ble_eq_true rfl) (Nat.le_of_ble_eq_true rfl) (Nat.le_of_ble_eq_true rfl) hlocks (Nat.le_refl _) (Nat.le_refl _) () trivial (hP.sub [] rfl) va_D_nil
      · refine lv_iload_n hx hb d_P_chainAt_45 rfl (lv_at hl 3 rfl) ?_
        refine lv_aload_n hx hb d_P_chainAt_46 rfl (lv_at hl 1 rfl) ?_
        refine lv_iload_n hx hb d_P_chainAt_47 rfl (lv_at hl 2 rfl) ?_
        refine lv_iconst (v := 1) hx hb d_P_chainAt_48 (by decide) ?_
        refine lv_iadd hx hb d_P_chainAt_49 ?_
        rw [show (nI i + 1) = nI (i + 1) from nI_1 _]
        have hPc := hP.sub (ws' := [(h0, .inr (2, [.ref (ad 0), .ref (ad 1), .ref (ad 2), .ref (ad 3), .ref (ad 4), .ref (ad 5), .int sn])), ((ad 2), .inr (0, [.int (nI 2049), .ref a2, .int (nI R2.2.2)])), (a2, .inl (E.1, R2.1, .inr (.inl R2.2.1)))]) [0, 2, 3] rfl
        refine vp_callSi (W.runV (As := [.int (nI (i + 1))]) (rest := [.int g]) ⟨hx, hb, hml, hown, hts⟩ (k_P_chainStart l D E h0 a2 ad sn (nI (i + 1)) R2 o2.2.1 (by omega)) (cwV 1 hts (gw_gv wd_552 wd_554 wd_19 wd_37 wd_555) rfl rfl rfl (by decide +kernel) ⟨Nat.le_of_ble_eq_true rfl, Nat.le_of_ble_eq_true rfl⟩) (rP_V 0 hPc hK rfl rfl) rfl rfl hl.1 rfl (lv_room (Nat.le_of_ble_eq_true rfl)) d_P_chainAt_50 ⟨Nat.le_of_ble_eq_true rfl, Nat.le_of_ble_eq_true rfl⟩) (fun r4 hr4 => ?_)
        obtain rfl : r4 = cst R2 (nI (i + 1)) := hr4
        refine lv_iload_n hx hb d_P_chainAt_53 rfl (lv_at hl 0 rfl) ?_
        refine lv_isub hx hb d_P_chainAt_54 ?_
        refine lv_icmp_lt (tgt := 68) hx hb d_P_chainAt_55 (by decide) (fun c4 => ?_) (fun c4 => ?_)
        · exact absurd h (fun h => h.elim c3 (fun h => h c4))
        · exact th_IO (is := 145) (text := "no such pixel in the chain") hx hb hl0 hown hG hK hZ hS (hl.1.trans hml.symm) (by decide +kernel) wd_575 wd_56 d_P_chainAt_58 d_P_chainAt_61 d_P_chainAt_62 d_P_chainAt_64 d_P_chainAt_67 hT (Nat.le_of_ble_eq_true rfl) (Nat.le_of_ble_eq_true rfl) (Nat.le_of_ble_eq_true rfl) (Nat.le_of_ble_eq_true rfl) hlocks (Nat.le_refl _) (Nat.le_refl _) () trivial (hP.sub [] rfl) va_D_nil
    · exact absurd c2 h2
  · exact absurd c1 (by decide)
set_option maxHeartbeats 4000000 in
set_option maxRecDepth 100000 in
theorem x_P_piece (l : Launch) (hl0 : l.stackTraces = false) (D : va_G) (E : ClassId × ClassId × ClassId × ClassId) (e0 sz : Nat) (h0 a4 : Nat) (ad : Nat → Nat) (sn z4 i wh : Int32) (h : rw_has z4 i = 0 ∨ wh < 0 ∨ ¬ wh ≤ 2) : vx_Met l y_P_piece (.code y_P_piece c_P_piece 5 (some .int) :: gw) ({ frames := 6, cells := 1, slots := 6, locals := 100 } : Room) (tP D E e0 [(h0, .inr (2, [.ref (ad 0), .ref (ad 1), .ref (ad 2), .ref (ad 3), .ref (ad 4), .ref (ad 5), .int sn])), ((ad 4), .inr (0, [.int (nI 65536), .ref a4, .int z4]))] sz [.ref h0, .int i, .int wh]) xQ (xC D "java/lang/IndexOutOfBoundsException" (fun (_ : Unit) => True) (fun _ => []) (fun q => sz ≤ q)) 1 6 (fun q => sz ≤ q) := by
  refine tr_of (y := y_P_piece) (cc := c_P_piece) (maxL := 5) (ws := [(h0, .inr (2, [.ref (ad 0), .ref (ad 1), .ref (ad 2), .ref (ad 3), .ref (ad 4), .ref (ad 5), .int sn])), ((ad 4), .inr (0, [.int (nI 65536), .ref a4, .int z4]))]) (sz := sz) (av := [.ref h0, .int i, .int wh]) (XC := fun A => xC D "java/lang/IndexOutOfBoundsException" (fun (_ : Unit) => True) (fun _ => []) A) (by decide) (Nat.le_of_ble_eq_true rfl) ?_
  intro p e s m below meth c B hT hP hK A hA hS hZ ls hl
  obtain ⟨hx, hb, hrt, hml, hown, hts, hG, hlocks, hin⟩ := B
  have hl : lv_has ls 5 [(0, .ref h0), (1, .int i), (2, .int wh)] := hl
  refine lv_aload_n hx hb d_P_piece_0 rfl (lv_at hl 0 rfl) ?_
  refine va_get (D := D) (ci := 2) (v := .ref (ad 4)) (C := K_P) (T := F_P) (N := 7) hx hb hG in_P hown hK.1 hP 0 rfl rfl 4 (by decide) (hG _ wd_113) (fun _ h9 => h9) rfl d_P_piece_1 ?_
  refine lv_iload_n hx hb d_P_piece_4 rfl (lv_at hl 1 rfl) ?_
  have hPc := hP.sub (ws' := [((ad 4), .inr (0, [.int (nI 65536), .ref a4, .int z4]))]) [1] rfl
  refine vp_callSi (W.runV (As := [.int i]) (rest := []) ⟨hx, hb, hml, hown, hts⟩ (k_R_has l D E (ad 4) a4 (nI 65536) z4 i) (cwV 1 hts (gw_gv wd_614 wd_488 wd_489 wd_41 wd_490) rfl rfl rfl (by decide +kernel) ⟨Nat.le_of_ble_eq_true rfl, Nat.le_of_ble_eq_true rfl⟩) (rP_V 0 hPc hK rfl rfl) rfl rfl hl.1 rfl (lv_room (Nat.le_of_ble_eq_true rfl)) d_P_piece_5 ⟨Nat.le_of_ble_eq_true rfl, Nat.le_of_ble_eq_true rfl⟩) (fun r1 hr1 => ?_)
  subst hr1
  refine lv_if_eq (tgt := 20) hx hb d_P_piece_8 (by decide) (fun c1 => ?_) (fun c1 => ?_)
  · exact th_IO (is := 147) (text := "no such piece or what") hx hb hl0 hown hG hK hZ hS (hl.1.trans hml.symm) (by decide +kernel) wd_575 wd_56 d_P_piece_20 d_P_piece_23 d_P_piece_24 d_P_piece_26 d_P_piece_29 hT (Nat.le_of_ble_eq_true rfl) (Nat.le_of_ble_eq_true rfl) (Nat.le_of_ble_eq_true rfl) (Nat.le_of_ble_eq_true rfl) hlocks (Nat.le_refl _) (Nat.le_refl _) () trivial (hP.sub [] rfl) va_D_nil
  · refine lv_iload_n hx hb d_P_piece_11 rfl (lv_at hl 2 rfl) ?_
    refine lv_if_lt (tgt := 20) hx hb d_P_piece_12 (by decide) (fun c2 => ?_) (fun c2 => ?_)
    · exact th_IO (is := 147) (text := "no such piece or what") hx hb hl0 hown hG hK hZ hS (hl.1.trans hml.symm) (by decide +kernel) wd_575 wd_56 d_P_piece_20 d_P_piece_23 d_P_piece_24 d_P_piece_26 d_P_piece_29 hT (Nat.le_of_ble_eq_true rfl) (Nat.le_of_ble_eq_true rfl) (Nat.le_of_ble_eq_true rfl) (Nat.le_of_ble_eq_true rfl) hlocks (Nat.le_refl _) (Nat.le_refl _) () trivial (hP.sub [] rfl) va_D_nil
    · refine lv_iload_n hx hb d_P_piece_15 rfl (lv_at hl 2 rfl) ?_
      refine lv_iconst (v := 2) hx hb d_P_piece_16 (by decide) ?_
      refine lv_icmp_le (tgt := 30) hx hb d_P_piece_17 (by decide) (fun c3 => ?_) (fun c3 => ?_)
      · exact absurd h (fun h => h.elim c1 (fun h => h.elim c2 (fun h => h c3)))
      · exact th_IO (is := 147) (text := "no such piece or what") hx hb hl0 hown hG hK hZ hS (hl.1.trans hml.symm) (by decide +kernel) wd_575 wd_56 d_P_piece_20 d_P_piece_23 d_P_piece_24 d_P_piece_26 d_P_piece_29 hT (Nat.le_of_ble_eq_true rfl) (Nat.le_of_ble_eq_true rfl) (Nat.le_of_ble_eq_true rfl) (Nat.le_of_ble_eq_true rfl) hlocks (Nat.le_refl _) (Nat.le_refl _) () trivial (hP.sub [] rfl) va_D_nil
end
