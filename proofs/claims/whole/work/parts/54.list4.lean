theorem d_A_add_ObjectaObjectI_0 : decode c_A_add_ObjectaObjectI 0 = .ok (.iload_n 3, 1) := by decide +kernel
theorem d_A_add_ObjectaObjectI_1 : decode c_A_add_ObjectaObjectI 1 = .ok (.aload_n 2, 1) := by decide +kernel
theorem d_A_add_ObjectaObjectI_2 : decode c_A_add_ObjectaObjectI 2 = .ok (.arraylength, 1) := by decide +kernel
theorem d_A_add_ObjectaObjectI_3 : decode c_A_add_ObjectaObjectI 3 = .ok (.if_icmp .ne 8, 3) := by decide +kernel
theorem d_A_add_ObjectaObjectI_6 : decode c_A_add_ObjectaObjectI 6 = .ok (.aload_n 0, 1) := by decide +kernel
theorem d_A_add_ObjectaObjectI_7 : decode c_A_add_ObjectaObjectI 7 = .ok (.invokevirtual 129, 3) := by decide +kernel
theorem d_A_add_ObjectaObjectI_10 : decode c_A_add_ObjectaObjectI 10 = .ok (.astore_n 2, 1) := by decide +kernel
theorem d_A_add_ObjectaObjectI_11 : decode c_A_add_ObjectaObjectI 11 = .ok (.aload_n 2, 1) := by decide +kernel
theorem d_A_add_ObjectaObjectI_12 : decode c_A_add_ObjectaObjectI 12 = .ok (.iload_n 3, 1) := by decide +kernel
theorem d_A_add_ObjectaObjectI_13 : decode c_A_add_ObjectaObjectI 13 = .ok (.aload_n 1, 1) := by decide +kernel
theorem d_A_add_ObjectaObjectI_14 : decode c_A_add_ObjectaObjectI 14 = .ok (.aastore, 1) := by decide +kernel
theorem d_A_add_ObjectaObjectI_15 : decode c_A_add_ObjectaObjectI 15 = .ok (.aload_n 0, 1) := by decide +kernel
theorem d_A_add_ObjectaObjectI_16 : decode c_A_add_ObjectaObjectI 16 = .ok (.iload_n 3, 1) := by decide +kernel
theorem d_A_add_ObjectaObjectI_17 : decode c_A_add_ObjectaObjectI 17 = .ok (.iconst 1, 1) := by decide +kernel
theorem d_A_add_ObjectaObjectI_18 : decode c_A_add_ObjectaObjectI 18 = .ok (.iadd, 1) := by decide +kernel
theorem d_A_add_ObjectaObjectI_19 : decode c_A_add_ObjectaObjectI 19 = .ok (.putfield 48, 3) := by decide +kernel
theorem d_A_add_ObjectaObjectI_22 : decode c_A_add_ObjectaObjectI 22 = .ok (.return_, 1) := by decide +kernel
/-- one segment more -/
def sg_add (sg : Nat → SQ) (k : Nat) (q : SQ) : Nat → SQ := fun i => if i = k then q else sg i
theorem va_up_s {α : Type} (f : Nat → α) (k : Nat) (v : α) : va_up f k v k = v := if_pos rfl
theorem va_up_n {α : Type} (f : Nat → α) {k j : Nat} (v : α) (h : j ≠ k) : va_up f k v j = f j := if_neg h
theorem LstO.room {E : ClassId × ClassId × ClassId × ClassId} {LP : List Nat} {pf : Nat → va_E} {ed n k y : Nat} {el : Nat → Option Nat} {sg : Nat → SQ} {q : SQ} (h : LstO E LP pf ed n el k sg) (hk : k < n) (hy : y ∈ LP) (hf : pf y = .inr (1, sgF q)) :
    LstO E LP (va_up pf ed (.inl (E.2.2.2, n, .inr (.inr (.inr (.inr (va_up el k (some y)))))))) ed n (va_up el k (some y)) (k + 1) (sg_add sg k q) := by
  obtain ⟨h1, h2, h3, h4, h5, h6, h7⟩ := h
  have hne : ∀ z q', pf z = .inr (1, sgF q') → z ≠ ed := by
    intro z q' hz e
    rw [e, h2] at hz
    cases hz
  refine ⟨h1, va_up_s _ _ _, by omega, h4, h5, ?_, ?_⟩
  · intro i hi z hz
    by_cases e : i = k
    · subst e
      rw [va_up_s] at hz
      cases hz
      exact ⟨hy, q, by rw [va_up_n _ _ (hne _ _ hf)]; exact hf⟩
    · rw [va_up_n _ _ e] at hz
      obtain ⟨g1, q', g2⟩ := h6 i hi z hz
      exact ⟨g1, q', by rw [va_up_n _ _ (hne _ _ g2)]; exact g2⟩
  · intro i hi
    by_cases e : i = k
    · subst e
      exact ⟨y, va_up_s _ _ _, hy, by rw [va_up_n _ _ (hne _ _ hf), sg_add, if_pos rfl]; exact hf⟩
    · obtain ⟨z, g1, g2, g3⟩ := h7 i (by omega)
      exact ⟨z, by rw [va_up_n _ _ e]; exact g1, g2, by rw [va_up_n _ _ (hne _ _ g3), sg_add, if_neg e]; exact g3⟩
/-- a new array: what was in the elder, and y behind it -/
theorem LstO.fresh {E : ClassId × ClassId × ClassId × ClassId} {LP : List Nat} {pf : Nat → va_E} {q0 n2 k y : Nat} {el el2 : Nat → Option Nat} {sg : Nat → SQ} {q : SQ} (hq : q0 ∉ LP) (hk : k < n2) (h10 : 10 ≤ n2) (hn : n2 ≤ 4096) (hy : y ∈ LP) (hf : pf y = .inr (1, sgF q)) (he : ∀ i, i < n2 → i ≠ k → el2 i = el i ∨ el2 i = none) (hek : el2 k = some y) (hel : ∀ i, i < k → el2 i = el i)
    (h6 : ∀ i, i < n2 → i ≠ k → ∀ z, el2 i = some z → z ∈ LP ∧ ∃ q', pf z = .inr (1, sgF q')) (h7 : ∀ i, i < k → ∃ z, el i = some z ∧ z ∈ LP ∧ pf z = .inr (1, sgF (sg i))) :
    LstO E (LP ++ [q0]) (va_up pf q0 (.inl (E.2.2.2, n2, .inr (.inr (.inr (.inr el2)))))) q0 n2 el2 (k + 1) (sg_add sg k q) := by
  have hne : ∀ z, z ∈ LP → z ≠ q0 := fun z hz e => hq (e ▸ hz)
  have hin : ∀ z, z ∈ LP → z ∈ LP ++ [q0] := fun z hz => List.mem_append_left _ hz
  refine ⟨List.mem_append_right _ (List.mem_singleton.mpr rfl), va_up_s _ _ _, by omega, h10, hn, ?_, ?_⟩
  · intro i hi z hz
    by_cases e : i = k
    · subst e
      rw [hek] at hz
      cases hz
      exact ⟨hin _ hy, q, by rw [va_up_n _ _ (hne _ hy)]; exact hf⟩
    · obtain ⟨g1, q', g2⟩ := h6 i hi e z hz
      exact ⟨hin _ g1, q', by rw [va_up_n _ _ (hne _ g1)]; exact g2⟩
  · intro i hi
    by_cases e : i = k
    · subst e
      exact ⟨y, hek, hin _ hy, by rw [va_up_n _ _ (hne _ hy), sg_add, if_pos rfl]; exact hf⟩
    · obtain ⟨z, g1, g2, g3⟩ := h7 i (by omega)
      exact ⟨z, by rw [hel i (by omega)]; exact g1, hin _ g2, by rw [va_up_n _ _ (hne _ g2), sg_add, if_neg e]; exact g3⟩
set_option maxHeartbeats 4000000 in
set_option maxRecDepth 100000 in
theorem k_A_add3 (l : Launch) (D : va_G) (E : ClassId × ClassId × ClassId × ClassId) (h0 sz ed n k : Nat) (el : Nat → Option Nat) (mo9 : Int32) (LP : List Nat) (pf : Nat → va_E) (hed : ed ∈ LP) (hfe : pf ed = (.inl (E.2.2.2, n, .inr (.inr (.inr (.inr (el))))))) (hk : k < n) (hn : n < 2 ^ 18) (y : Nat) (qq : SQ) (hy : y ∈ LP) (hfy : pf y = .inr (1, sgF qq)) : Met l y_A_add_ObjectaObjectI (.code y_A_add_ObjectaObjectI c_A_add_ObjectaObjectI 4 none :: gw) ({ frames := 5, cells := 0, slots := 0, locals := 165 } : Room) (wP D E ([(h0, .inr (4, [.ref ed, .int (nI k), .int mo9]))] ++ va_pl LP pf) sz [.ref h0, .ref y, .ref ed, .int (nI k)]) (va_Qv (fun (u : Unit) => True) (wB D (fun _ => ([(h0, .inr (4, [.ref ed, .int (nI (k + 1)), .int mo9]))] ++ va_pl LP (va_up pf ed (.inl (E.2.2.2, n, .inr (.inr (.inr (.inr (va_up el k (some y)))))))))) (va_A ([(h0, .inr (4, [.ref ed, .int (nI k), .int mo9]))] ++ va_pl LP pf) sz)) (va_A ([(h0, .inr (4, [.ref ed, .int (nI k), .int mo9]))] ++ va_pl LP pf) sz)) 0 0 (va_A ([(h0, .inr (4, [.ref ed, .int (nI k), .int mo9]))] ++ va_pl LP pf) sz) := by
  refine wr_ofF (y := y_A_add_ObjectaObjectI) (cc := c_A_add_ObjectaObjectI) (maxL := 4) (ws := ([(h0, .inr (4, [.ref ed, .int (nI k), .int mo9]))] ++ va_pl LP pf)) (sz := sz) (av := [.ref h0, .ref y, .ref ed, .int (nI k)]) (Qc := fun A => (va_Qv (fun (u : Unit) => True) (wB D (fun _ => ([(h0, .inr (4, [.ref ed, .int (nI (k + 1)), .int mo9]))] ++ va_pl LP (va_up pf ed (.inl (E.2.2.2, n, .inr (.inr (.inr (.inr (va_up el k (some y)))))))))) A) A)) (by decide) (Nat.le_of_ble_eq_true rfl) ?_
  intro p e s m below meth c B hP hK A hA hD hS ls hl
  obtain ⟨hx, hb, hrt, hml, hown, hts, hG, hlocks, hin⟩ := B
  have hl : lv_has ls 4 [(0, .ref h0), (1, .ref y), (2, .ref ed), (3, .int (nI k))] := hl
  refine lv_iload_n hx hb d_A_add_ObjectaObjectI_0 rfl (lv_at hl 3 rfl) ?_
  refine lv_aload_n hx hb d_A_add_ObjectaObjectI_1 rfl (lv_at hl 2 rfl) ?_
  obtain ⟨kq, hkq0⟩ := va_pl_get (X := [(h0, .inr (4, [.ref ed, .int (nI k), .int mo9]))]) (f := pf) hed
  have hkq := hkq0
  rw [hfe] at hkq
  refine va_alen (v := nI n) hx hb hK.1 hP kq 3 hkq rfl rfl d_A_add_ObjectaObjectI_2 ?_
  refine lv_icmp_ne (tgt := 11) hx hb d_A_add_ObjectaObjectI_3 (by decide) (fun c1 => ?_) (fun c1 => ?_)
  · refine lv_aload_n hx hb d_A_add_ObjectaObjectI_11 rfl (lv_at hl 2 rfl) ?_
    refine lv_iload_n hx hb d_A_add_ObjectaObjectI_12 rfl (lv_at hl 3 rfl) ?_
    refine lv_aload_n hx hb d_A_add_ObjectaObjectI_13 rfl (lv_at hl 1 rfl) ?_
    have hD0 := hD
    refine va_astqM hx hb hK.1 hP hD hS kq 3 hkq rfl (va_pl_any (X := [(h0, .inr (4, [.ref ed, .int (nI k), .int mo9]))]) hK hP hy hfy) (vp_in_nI hk (by omega)) d_A_add_ObjectaObjectI_14 (fun H locs hP hD hS => ?_)
    rw [nI_clamp (by omega), va_pl_set hD0 hed hkq0] at hP hD
    have hP : va_P D vwC ([(h0, .inr (4, [.ref ed, .int (nI k), .int mo9]))] ++ va_pl LP (va_up pf ed (.inl (E.2.2.2, n, .inr (.inr (.inr (.inr (va_up el k (some y))))))))) H := hP
    have hD : va_D A ([(h0, .inr (4, [.ref ed, .int (nI k), .int mo9]))] ++ va_pl LP (va_up pf ed (.inl (E.2.2.2, n, .inr (.inr (.inr (.inr (va_up el k (some y))))))))) := hD
    refine lv_aload_n hx hb d_A_add_ObjectaObjectI_15 rfl (lv_at hl 0 rfl) ?_
    refine lv_iload_n hx hb d_A_add_ObjectaObjectI_16 rfl (lv_at hl 3 rfl) ?_
    refine lv_iconst (v := 1) hx hb d_A_add_ObjectaObjectI_17 (by decide) ?_
    refine lv_iadd hx hb d_A_add_ObjectaObjectI_18 ?_
    rw [show (nI k + 1) = nI (k + 1) from nI_1 _]
    refine va_put (D := D) (ci := 4) (v := .int (nI (k + 1))) (ty := .int) (C := K_A) (T := F_A) (N := 3) hx hb hG in_A t_A t_A_ok n_A hown hK.1 hP hD hS 0 rfl rfl 1 (by decide) (hG _ wd_80) (fun _ h9 => h9) rfl (by decide +kernel) rfl rfl (Nat.le_of_ble_eq_true rfl) d_A_add_ObjectaObjectI_19 (fun H locs hP hD hS => ?_)
    have hP : va_P D vwC ([(h0, .inr (4, [.ref ed, .int (nI (k + 1)), .int mo9]))] ++ va_pl LP (va_up pf ed (.inl (E.2.2.2, n, .inr (.inr (.inr (.inr (va_up el k (some y))))))))) H := hP
    have hD : va_D A ([(h0, .inr (4, [.ref ed, .int (nI (k + 1)), .int mo9]))] ++ va_pl LP (va_up pf ed (.inl (E.2.2.2, n, .inr (.inr (.inr (.inr (va_up el k (some y))))))))) := hD
    exact W.vret hx hb hrt (fun t ht hW => ⟨⟨(), rfl, trivial, ⟨by rw [ht]; exact hP, hD⟩⟩, hS.F ht⟩) hS.2.2 d_A_add_ObjectaObjectI_22 hlocks
  · exact absurd ((nI_eq (by omega) (by omega)).mp c1) (by omega)
set_option maxHeartbeats 4000000 in
set_option maxRecDepth 100000 in
theorem k_A_add3f (l : Launch) (D : va_G) (E : ClassId × ClassId × ClassId × ClassId) (h0 sz e0 : Nat) (mo9 : Int32) (LP : List Nat) (pf : Nat → va_E) (y : Nat) (qq : SQ) (hy : y ∈ LP) (hfy : pf y = .inr (1, sgF qq)) : Met l y_A_add_ObjectaObjectI (.code y_A_add_ObjectaObjectI c_A_add_ObjectaObjectI 4 none :: gw) ({ frames := 5, cells := 1, slots := 10, locals := 165 } : Room) (wX D E e0 ([(h0, .inr (4, [.ref e0, .int 0, .int mo9]))] ++ va_pl LP pf) sz [.ref h0, .ref y, .ref e0, .int 0]) (va_Qv (fun (u : Nat) => u ∉ LP) (wB D (fun u => ([(h0, .inr (4, [.ref u, .int (nI 1), .int mo9]))] ++ va_pl (LP ++ [u]) (va_up pf u (.inl (E.2.2.2, 10, .inr (.inr (.inr (.inr (va_up (fun _ => none) 0 (some y)))))))))) (va_A ([(h0, .inr (4, [.ref e0, .int 0, .int mo9]))] ++ va_pl LP pf) sz)) (va_A ([(h0, .inr (4, [.ref e0, .int 0, .int mo9]))] ++ va_pl LP pf) sz)) 1 10 (va_A ([(h0, .inr (4, [.ref e0, .int 0, .int mo9]))] ++ va_pl LP pf) sz) := by
  refine wx_ofF (y := y_A_add_ObjectaObjectI) (cc := c_A_add_ObjectaObjectI) (maxL := 4) (ws := ([(h0, .inr (4, [.ref e0, .int 0, .int mo9]))] ++ va_pl LP pf)) (sz := sz) (av := [.ref h0, .ref y, .ref e0, .int 0]) (Qc := fun A => (va_Qv (fun (u : Nat) => u ∉ LP) (wB D (fun u => ([(h0, .inr (4, [.ref u, .int (nI 1), .int mo9]))] ++ va_pl (LP ++ [u]) (va_up pf u (.inl (E.2.2.2, 10, .inr (.inr (.inr (.inr (va_up (fun _ => none) 0 (some y)))))))))) A) A)) (by decide) (Nat.le_of_ble_eq_true rfl) ?_
  intro p e s m below meth c B hP hK A hA hD hS hZ ls hl
  obtain ⟨hx, hb, hrt, hml, hown, hts, hG, hlocks, hin⟩ := B
  have hl : lv_has ls 4 [(0, .ref h0), (1, .ref y), (2, .ref e0), (3, .int 0)] := hl
  refine lv_iload_n hx hb d_A_add_ObjectaObjectI_0 rfl (lv_at hl 3 rfl) ?_
  refine lv_aload_n hx hb d_A_add_ObjectaObjectI_1 rfl (lv_at hl 2 rfl) ?_
  refine va_tlen (v := 0) hx hb hZ.2.1 hS rfl d_A_add_ObjectaObjectI_2 ?_
  refine lv_icmp_ne (tgt := 11) hx hb d_A_add_ObjectaObjectI_3 (by decide) (fun c1 => ?_) (fun c1 => ?_)
  · exact absurd rfl c1
  · refine lv_aload_n hx hb d_A_add_ObjectaObjectI_6 rfl (lv_at hl 0 rfl) ?_
    have hPc := va_P.part (X := [(h0, .inr (4, [.ref e0, .int 0, .int mo9]))]) (cx := [(h0, .inr (4, [.ref e0, .int 0, .int mo9]))]) (pl := va_pl LP pf) hP [0] rfl
    have hDc := va_D.part (X := [(h0, .inr (4, [.ref e0, .int 0, .int mo9]))]) (cx := [(h0, .inr (4, [.ref e0, .int 0, .int mo9]))]) (pl := va_pl LP pf) hD [0] (by decide) rfl
    have hFc := va_freeP (X := [(h0, .inr (4, [.ref e0, .int 0, .int mo9]))]) (cx := [(h0, .inr (4, [.ref e0, .int 0, .int mo9]))]) (pl := va_pl LP pf) hD hS hA [0] rfl
    refine va_callr (va_runV (As := []) (rest := []) ⟨hx, hb, hml, hown, hts⟩ (k_A_grow_00 l D E h0 s.heap.size e0 mo9 LP pf) (cwV 0 hts (gw_gv wd_309 wd_311 wd_3 wd_40 wd_312) rfl rfl rfl (by decide +kernel) ⟨Nat.le_of_ble_eq_true rfl, Nat.le_of_ble_eq_true rfl⟩) (wX_V 0 hPc hK hDc hZ hS hFc rfl rfl) rfl rfl hl.1 rfl (lv_room (Nat.le_of_ble_eq_true rfl)) d_A_add_ObjectaObjectI_7 ⟨Nat.le_of_ble_eq_true rfl, Nat.le_of_ble_eq_true rfl⟩) hS (fun q _ h => hFc q h) hFc (fun u q t H1 locs ht hvm hw hB hz1 hk1 hS => ?_)
    obtain ⟨hP1, hD1⟩ := hB
    rw [ht] at hP1
    obtain ⟨hP, hD⟩ := va_joinP (X := [(h0, .inr (4, [.ref e0, .int 0, .int mo9]))]) (cx := [(h0, .inr (4, [.ref e0, .int 0, .int mo9]))]) (wr := []) (rx := [(h0, .inr (4, [.ref q, .int 0, .int mo9])), (q, .inl (E.2.2.2, 10, .inr (.inr (.inr (.inr (fun _ => none))))))]) (pl := va_pl LP pf) (pl1 := va_pl LP pf) hP hD [0] [] rfl rfl (by decide) (by decide) hk1 hFc hP1 hD1
    generalize H1 = H at hP hS ⊢
    have hP : va_P D vwC ([(h0, .inr (4, [.ref q, .int 0, .int mo9])), (q, .inl (E.2.2.2, 10, .inr (.inr (.inr (.inr (fun _ => none))))))] ++ va_pl LP pf) H := hP
    have hD : va_D A ([(h0, .inr (4, [.ref q, .int 0, .int mo9])), (q, .inl (E.2.2.2, 10, .inr (.inr (.inr (.inr (fun _ => none))))))] ++ va_pl LP pf) := hD
    refine W.widen (k := 1) (n := 10) (by decide) (by decide) ?_
    refine lv_astore_n (lv' := [(2, .ref q), (0, .ref h0), (1, .ref y), (3, .int 0)]) hx hb d_A_add_ObjectaObjectI_10 rfl hl (by decide) rfl (fun ls hl => ?_)
    refine lv_aload_n hx hb d_A_add_ObjectaObjectI_11 rfl (lv_at hl 0 rfl) ?_
    refine lv_iload_n hx hb d_A_add_ObjectaObjectI_12 rfl (lv_at hl 3 rfl) ?_
    refine lv_aload_n hx hb d_A_add_ObjectaObjectI_13 rfl (lv_at hl 2 rfl) ?_
    refine va_astqM hx hb hK.1 hP hD hS 1 3 rfl rfl (va_pl_any (X := [(h0, .inr (4, [.ref q, .int 0, .int mo9])), (q, .inl (E.2.2.2, 10, .inr (.inr (.inr (.inr (fun _ => none))))))]) hK hP hy hfy) (vp_in_nI (n := 0) (by decide) (by decide)) d_A_add_ObjectaObjectI_14 (fun H locs hP hD hS => ?_)
    have hc0 : (0 : Int32).toNatClampNeg = 0 := by decide
    have hP : va_P D vwC ([(h0, .inr (4, [.ref q, .int 0, .int mo9])), (q, .inl (E.2.2.2, 10, .inr (.inr (.inr (.inr (va_up (fun _ => none) 0 (some y)))))))] ++ va_pl LP pf) H := hP
    have hD : va_D A ([(h0, .inr (4, [.ref q, .int 0, .int mo9])), (q, .inl (E.2.2.2, 10, .inr (.inr (.inr (.inr (va_up (fun _ => none) 0 (some y)))))))] ++ va_pl LP pf) := hD
    refine lv_aload_n hx hb d_A_add_ObjectaObjectI_15 rfl (lv_at hl 1 rfl) ?_
    refine lv_iload_n hx hb d_A_add_ObjectaObjectI_16 rfl (lv_at hl 3 rfl) ?_
    refine lv_iconst (v := 1) hx hb d_A_add_ObjectaObjectI_17 (by decide) ?_
    refine lv_iadd hx hb d_A_add_ObjectaObjectI_18 ?_
    rw [show (0 : Int32) + 1 = nI 1 from by decide]
    refine va_put (D := D) (ci := 4) (v := .int (nI 1)) (ty := .int) (C := K_A) (T := F_A) (N := 3) hx hb hG in_A t_A t_A_ok n_A hown hK.1 hP hD hS 0 rfl rfl 1 (by decide) (hG _ wd_80) (fun _ h9 => h9) rfl (by decide +kernel) rfl rfl (Nat.le_of_ble_eq_true rfl) d_A_add_ObjectaObjectI_19 (fun H locs hP hD hS => ?_)
    have hP : va_P D vwC ([(h0, .inr (4, [.ref q, .int (nI 1), .int mo9])), (q, .inl (E.2.2.2, 10, .inr (.inr (.inr (.inr (va_up (fun _ => none) 0 (some y)))))))] ++ va_pl LP pf) H := hP
    have hD : va_D A ([(h0, .inr (4, [.ref q, .int (nI 1), .int mo9])), (q, .inl (E.2.2.2, 10, .inr (.inr (.inr (.inr (va_up (fun _ => none) 0 (some y)))))))] ++ va_pl LP pf) := hD
    obtain ⟨hP, hD, hq⟩ := pl_in (X := [(h0, .inr (4, [.ref q, .int (nI 1), .int mo9]))]) hP hD
    exact W.vret hx hb hrt (fun t ht hW => ⟨⟨q, rfl, hq, ⟨by rw [ht]; exact hP, hD⟩⟩, hS.F ht⟩) hS.2.2 d_A_add_ObjectaObjectI_22 hlocks
set_option maxHeartbeats 4000000 in
set_option maxRecDepth 100000 in
theorem k_A_add3g (l : Launch) (D : va_G) (E : ClassId × ClassId × ClassId × ClassId) (h0 sz ed n : Nat) (el : Nat → Option Nat) (mo9 : Int32) (LP : List Nat) (pf : Nat → va_E) (hed : ed ∈ LP) (hfe : pf ed = (.inl (E.2.2.2, n, .inr (.inr (.inr (.inr (el))))))) (hel : ∀ i, i < n → ∀ y, el i = some y → y ∈ LP ∧ ∃ q, pf y = .inr (1, sgF q)) (h2 : 2 ≤ n) (hn : n < 2 ^ 18) (y : Nat) (qq : SQ) (hy : y ∈ LP) (hfy : pf y = .inr (1, sgF qq)) : Met l y_A_add_ObjectaObjectI (.code y_A_add_ObjectaObjectI c_A_add_ObjectaObjectI 4 none :: gw) ({ frames := 5, cells := 1, slots := (n + n / 2), locals := 165 } : Room) (wP D E ([(h0, .inr (4, [.ref ed, .int (nI n), .int mo9]))] ++ va_pl LP pf) sz [.ref h0, .ref y, .ref ed, .int (nI n)]) (va_Qv (fun (u : Nat) => u ∉ LP) (wB D (fun u => ([(h0, .inr (4, [.ref u, .int (nI (n + 1)), .int mo9]))] ++ va_pl (LP ++ [u]) (va_up pf u (.inl (E.2.2.2, (n + n / 2), .inr (.inr (.inr (.inr (va_up (va_cpy el (fun _ => none) 0 0 n) n (some y)))))))))) (va_A ([(h0, .inr (4, [.ref ed, .int (nI n), .int mo9]))] ++ va_pl LP pf) sz)) (va_A ([(h0, .inr (4, [.ref ed, .int (nI n), .int mo9]))] ++ va_pl LP pf) sz)) 1 (n + n / 2) (va_A ([(h0, .inr (4, [.ref ed, .int (nI n), .int mo9]))] ++ va_pl LP pf) sz) := by
  refine wr_ofF (y := y_A_add_ObjectaObjectI) (cc := c_A_add_ObjectaObjectI) (maxL := 4) (ws := ([(h0, .inr (4, [.ref ed, .int (nI n), .int mo9]))] ++ va_pl LP pf)) (sz := sz) (av := [.ref h0, .ref y, .ref ed, .int (nI n)]) (Qc := fun A => (va_Qv (fun (u : Nat) => u ∉ LP) (wB D (fun u => ([(h0, .inr (4, [.ref u, .int (nI (n + 1)), .int mo9]))] ++ va_pl (LP ++ [u]) (va_up pf u (.inl (E.2.2.2, (n + n / 2), .inr (.inr (.inr (.inr (va_up (va_cpy el (fun _ => none) 0 0 n) n (some y)))))))))) A) A)) (by decide) (Nat.le_of_ble_eq_true rfl) ?_
  intro p e s m below meth c B hP hK A hA hD hS ls hl
  obtain ⟨hx, hb, hrt, hml, hown, hts, hG, hlocks, hin⟩ := B
  have hl : lv_has ls 4 [(0, .ref h0), (1, .ref y), (2, .ref ed), (3, .int (nI n))] := hl
  refine lv_iload_n hx hb d_A_add_ObjectaObjectI_0 rfl (lv_at hl 3 rfl) ?_
  refine lv_aload_n hx hb d_A_add_ObjectaObjectI_1 rfl (lv_at hl 2 rfl) ?_
  obtain ⟨kq, hkq⟩ := pl_at (X := [(h0, .inr (4, [.ref ed, .int (nI n), .int mo9]))]) hed hfe
  refine va_alen (v := nI n) hx hb hK.1 hP kq 3 hkq rfl rfl d_A_add_ObjectaObjectI_2 ?_
  refine lv_icmp_ne (tgt := 11) hx hb d_A_add_ObjectaObjectI_3 (by decide) (fun c1 => ?_) (fun c1 => ?_)
  · exact absurd rfl c1
  · refine lv_aload_n hx hb d_A_add_ObjectaObjectI_6 rfl (lv_at hl 0 rfl) ?_
    have hPc := va_P.part (X := [(h0, .inr (4, [.ref ed, .int (nI n), .int mo9]))]) (cx := [(h0, .inr (4, [.ref ed, .int (nI n), .int mo9]))]) (pl := va_pl LP pf) hP [0] rfl
    have hDc := va_D.part (X := [(h0, .inr (4, [.ref ed, .int (nI n), .int mo9]))]) (cx := [(h0, .inr (4, [.ref ed, .int (nI n), .int mo9]))]) (pl := va_pl LP pf) hD [0] (by decide) rfl
    have hFc := va_freeP (X := [(h0, .inr (4, [.ref ed, .int (nI n), .int mo9]))]) (cx := [(h0, .inr (4, [.ref ed, .int (nI n), .int mo9]))]) (pl := va_pl LP pf) hD hS hA [0] rfl
    refine va_callr (va_runV (As := []) (rest := []) ⟨hx, hb, hml, hown, hts⟩ (k_A_grow_0 l D E h0 s.heap.size n el mo9 LP pf ed hed hfe hel h2 hn) (cwV 0 hts (gw_gv wd_309 wd_311 wd_3 wd_40 wd_312) rfl rfl rfl (by decide +kernel) ⟨Nat.le_of_ble_eq_true rfl, Nat.le_of_ble_eq_true rfl⟩) (wP_V 0 hPc hK hDc rfl rfl) rfl rfl hl.1 rfl (lv_room (Nat.le_of_ble_eq_true rfl)) d_A_add_ObjectaObjectI_7 ⟨Nat.le_of_ble_eq_true rfl, Nat.le_of_eq (Nat.zero_add _)⟩) hS (fun q _ h => hFc q h) hFc (fun u q t H1 locs ht hvm hw hB hz1 hk1 hS => ?_)
    obtain ⟨hP1, hD1⟩ := hB
    rw [ht] at hP1
    obtain ⟨hP, hD⟩ := va_joinP (X := [(h0, .inr (4, [.ref ed, .int (nI n), .int mo9]))]) (cx := [(h0, .inr (4, [.ref ed, .int (nI n), .int mo9]))]) (wr := []) (rx := [(h0, .inr (4, [.ref q, .int (nI n), .int mo9])), (q, .inl (E.2.2.2, (n + n / 2), .inr (.inr (.inr (.inr (va_cpy el (fun _ => none) 0 0 n))))))]) (pl := va_pl LP pf) (pl1 := va_pl LP pf) hP hD [0] [] rfl rfl (by decide) (by decide) hk1 hFc hP1 hD1
    generalize H1 = H at hP hS ⊢
    have hP : va_P D vwC ([(h0, .inr (4, [.ref q, .int (nI n), .int mo9])), (q, .inl (E.2.2.2, (n + n / 2), .inr (.inr (.inr (.inr (va_cpy el (fun _ => none) 0 0 n))))))] ++ va_pl LP pf) H := hP
    have hD : va_D A ([(h0, .inr (4, [.ref q, .int (nI n), .int mo9])), (q, .inl (E.2.2.2, (n + n / 2), .inr (.inr (.inr (.inr (va_cpy el (fun _ => none) 0 0 n))))))] ++ va_pl LP pf) := hD
    refine W.widen (k := 1) (n := (n + n / 2)) (by omega) (by omega) ?_
    refine lv_astore_n (lv' := [(2, .ref q), (0, .ref h0), (1, .ref y), (3, .int (nI n))]) hx hb d_A_add_ObjectaObjectI_10 rfl hl (by decide) rfl (fun ls hl => ?_)
    refine lv_aload_n hx hb d_A_add_ObjectaObjectI_11 rfl (lv_at hl 0 rfl) ?_
    refine lv_iload_n hx hb d_A_add_ObjectaObjectI_12 rfl (lv_at hl 3 rfl) ?_
    refine lv_aload_n hx hb d_A_add_ObjectaObjectI_13 rfl (lv_at hl 2 rfl) ?_
    refine va_astqM hx hb hK.1 hP hD hS 1 3 rfl rfl (va_pl_any (X := [(h0, .inr (4, [.ref q, .int (nI n), .int mo9])), (q, .inl (E.2.2.2, (n + n / 2), .inr (.inr (.inr (.inr (va_cpy el (fun _ => none) 0 0 n))))))]) hK hP hy hfy) (vp_in_nI (by omega) (by omega)) d_A_add_ObjectaObjectI_14 (fun H locs hP hD hS => ?_)
    rw [nI_clamp (by omega)] at hP hD
    have hP : va_P D vwC ([(h0, .inr (4, [.ref q, .int (nI n), .int mo9])), (q, .inl (E.2.2.2, (n + n / 2), .inr (.inr (.inr (.inr (va_up (va_cpy el (fun _ => none) 0 0 n) n (some y)))))))] ++ va_pl LP pf) H := hP
    have hD : va_D A ([(h0, .inr (4, [.ref q, .int (nI n), .int mo9])), (q, .inl (E.2.2.2, (n + n / 2), .inr (.inr (.inr (.inr (va_up (va_cpy el (fun _ => none) 0 0 n) n (some y)))))))] ++ va_pl LP pf) := hD
    refine lv_aload_n hx hb d_A_add_ObjectaObjectI_15 rfl (lv_at hl 1 rfl) ?_
    refine lv_iload_n hx hb d_A_add_ObjectaObjectI_16 rfl (lv_at hl 3 rfl) ?_
    refine lv_iconst (v := 1) hx hb d_A_add_ObjectaObjectI_17 (by decide) ?_
    refine lv_iadd hx hb d_A_add_ObjectaObjectI_18 ?_
    rw [show (nI n + 1) = nI (n + 1) from nI_1 _]
    refine va_put (D := D) (ci := 4) (v := .int (nI (n + 1))) (ty := .int) (C := K_A) (T := F_A) (N := 3) hx hb hG in_A t_A t_A_ok n_A hown hK.1 hP hD hS 0 rfl rfl 1 (by decide) (hG _ wd_80) (fun _ h9 => h9) rfl (by decide +kernel) rfl rfl (Nat.le_of_ble_eq_true rfl) d_A_add_ObjectaObjectI_19 (fun H locs hP hD hS => ?_)
    have hP : va_P D vwC ([(h0, .inr (4, [.ref q, .int (nI (n + 1)), .int mo9])), (q, .inl (E.2.2.2, (n + n / 2), .inr (.inr (.inr (.inr (va_up (va_cpy el (fun _ => none) 0 0 n) n (some y)))))))] ++ va_pl LP pf) H := hP
    have hD : va_D A ([(h0, .inr (4, [.ref q, .int (nI (n + 1)), .int mo9])), (q, .inl (E.2.2.2, (n + n / 2), .inr (.inr (.inr (.inr (va_up (va_cpy el (fun _ => none) 0 0 n) n (some y)))))))] ++ va_pl LP pf) := hD
    obtain ⟨hP, hD, hq⟩ := pl_in (X := [(h0, .inr (4, [.ref q, .int (nI (n + 1)), .int mo9]))]) hP hD
    exact W.vret hx hb hrt (fun t ht hW => ⟨⟨q, rfl, hq, ⟨by rw [ht]; exact hP, hD⟩⟩, hS.F ht⟩) hS.2.2 d_A_add_ObjectaObjectI_22 hlocks
