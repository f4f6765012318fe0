theorem d_M_end_0 : decode c_M_end 0 = .ok (.aload_n 0, 1) := by decide +kernel
theorem d_M_end_1 : decode c_M_end 1 = .ok (.getfield 7, 3) := by decide +kernel
theorem d_M_end_4 : decode c_M_end 4 = .ok (.iconst 4, 1) := by decide +kernel
theorem d_M_end_5 : decode c_M_end 5 = .ok (.iload_n 1, 1) := by decide +kernel
theorem d_M_end_6 : decode c_M_end 6 = .ok (.imul, 1) := by decide +kernel
theorem d_M_end_7 : decode c_M_end 7 = .ok (.iload_n 2, 1) := by decide +kernel
theorem d_M_end_8 : decode c_M_end 8 = .ok (.iadd, 1) := by decide +kernel
theorem d_M_end_9 : decode c_M_end 9 = .ok (.iaload, 1) := by decide +kernel
theorem d_M_end_10 : decode c_M_end 10 = .ok (.i2l, 1) := by decide +kernel
theorem d_M_end_11 : decode c_M_end 11 = .ok (.lreturn, 1) := by decide +kernel
noncomputable section
def mq_at (q : SQ) (k : Nat) : Int64 := if k = 0 then sx q else if k = 1 then sy q else if k = 2 then su q else sv q
set_option maxHeartbeats 4000000 in
set_option maxRecDepth 100000 in
theorem k_M_end (l : Launch) (D : va_G) (E : ClassId × ClassId × ClassId × ClassId) (h0 : Nat) (ad : Nat → Nat) (th sg sn hot pc cx cy : Int32) (fo fv to tv : Int64) (fi ti : Int32) (e9 : Nat → Int32) (k j : Nat) (hk : 4 * k + 3 < 8192) (hj : j < 4) : Met l y_M_end (.code y_M_end c_M_end 3 (some .long) :: gw) ({ frames := 0, cells := 0, slots := 0, locals := 0 } : Room) (rP D E [(h0, .inr (3, mF ad th sg sn hot pc cx cy fo fv to tv fi ti)), ((ad 0), .inl (E.2.1, 8192, .inl e9))] [.ref h0, .int (nI k), .int (nI j)]) (vp_Sl (fun r => r = Int32.toInt64 (e9 (4 * k + j)))) 0 0 (fun _ => False) := by
  refine rd_ofW (by decide) (Nat.le_of_ble_eq_true rfl) ?_
  intro p e s m below meth c B hP hK ls hl
  obtain ⟨hx, hb, hrt, hml, hown, hts, hG, hlocks, hin⟩ := B
  have hl : lv_has ls 3 [(0, .ref h0), (1, .int (nI k)), (2, .int (nI j))] := hl
  refine lv_aload_n hx hb d_M_end_0 rfl (lv_at hl 0 rfl) ?_
  refine va_get (D := D) (ci := 3) (v := .ref (ad 0)) (C := K_M) (T := F_M) (N := 24) hx hb hG in_M hown hK.1 hP 0 rfl rfl 2 (by decide) (hG _ wd_650) (fun _ h9 => h9) rfl d_M_end_1 ?_
  refine lv_iconst (v := 4) hx hb d_M_end_4 (by decide) ?_
  refine lv_iload_n hx hb d_M_end_5 rfl (lv_at hl 1 rfl) ?_
  refine lv_imul hx hb d_M_end_6 ?_
  rw [show (4 * nI k) = nI (4 * k) from pk_mul 4 k]
  refine lv_iload_n hx hb d_M_end_7 rfl (lv_at hl 2 rfl) ?_
  refine lv_iadd hx hb d_M_end_8 ?_
  rw [show (nI (4 * k) + nI j) = nI (4 * k + j) from nI_add _ _]
  refine va_iald hx hb hK.1 hP 1 1 rfl rfl (vp_in_nI (by omega) (by omega)) d_M_end_9 ?_
  rw [show e9 (Int32.toNatClampNeg (nI (4 * k + j))) = e9 (4 * k + j) from by rw [nI_clamp (by omega)]]
  refine lv_i2l hx hb d_M_end_10 rfl ?_
  exact W.lret (v := (Int32.toInt64 (e9 (4 * k + j)))) hx hb hrt (fun t ht hW => ⟨(Int32.toInt64 (e9 (4 * k + j))), rfl, rfl, ht⟩) (fun q h => nomatch h) d_M_end_11 hlocks
/-- the bits from the highest, the remainder brought below 'under' after each: at most two subtractions where r < 3 * under -/
def mo_bit (size : Int64) (k : Nat) : Int64 := (size >>> (Int32.toInt64 (nI k) &&& 63)) &&& 1
def mo_sub (under : Int64) : Nat → Int64 × Int64 → Int64 × Int64
  | 0, s => s
  | n + 1, s => if s.2 < under then s else mo_sub under n (s.1 + 1, s.2 - under)
def mo_abs (b : Int64) : Int64 := if b < 0 then -b else b
end
