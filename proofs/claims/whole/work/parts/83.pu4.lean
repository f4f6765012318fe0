/-! Pure rows: keys of pixels; the pixel of a crossing -/
def kz (x y : Int) : Int := (x + 500000000) * 1073741824 + (y + 500000000)
theorem key_lN {x y : Int64} (hx : x.toInt.natAbs ≤ 500000000) (hy : y.toInt.natAbs ≤ 500000000) : sg_key x y = lN ((x.toInt + 500000000).toNat * 1073741824 + (y.toInt + 500000000).toNat) := by
  have h5 : (500000000 : Int64).toInt = 500000000 := by decide
  have e1 : x + 500000000 = lN (x.toInt + 500000000).toNat := by
    apply Int64.toInt.inj
    rw [i64_add (by omega) (by omega), h5, pf_lI (by omega)]; omega
  have e2 : y + 500000000 = lN (y.toInt + 500000000).toNat := by
    apply Int64.toInt.inj
    rw [i64_add (by omega) (by omega), h5, pf_lI (by omega)]; omega
  unfold sg_key
  rw [e1, e2, show Int32.toInt64 30 = (nI 30).toInt64 from rfl, wb_shl _ (by decide), show (2 : Nat) ^ 30 = 1073741824 from rfl]
  exact g_or (k := 30) rfl (by omega) (by omega)
theorem key_i {x y : Int64} (hx : x.toInt.natAbs ≤ 500000000) (hy : y.toInt.natAbs ≤ 500000000) : (sg_key x y).toInt = kz x.toInt y.toInt := by
  rw [key_lN hx hy, pf_lI (by omega)]
  unfold kz
  omega
theorem kx_key {x y : Int64} (hx : x.toInt.natAbs ≤ 500000000) (hy : y.toInt.natAbs ≤ 500000000) : sg_kx (sg_key x y) = x := by
  have h5 : (500000000 : Int64).toInt = 500000000 := by decide
  rw [key_lN hx hy]
  unfold sg_kx
  rw [show Int32.toInt64 30 = (nI 30).toInt64 from rfl, wb_c 30 (by decide), pf_shr (d := 30) (by rw [wb_tb, wb_sm 30 (by decide), BitVec.toNat_ofNat]) (by omega), show (2 : Nat) ^ 30 = 1073741824 from rfl]
  have e : ((x.toInt + 500000000).toNat * 1073741824 + (y.toInt + 500000000).toNat) / 1073741824 = (x.toInt + 500000000).toNat := by omega
  rw [e]
  apply Int64.toInt.inj
  rw [i64_sub] <;> rw [h5, pf_lI (by omega)] <;> omega
theorem ky_key {x y : Int64} (hx : x.toInt.natAbs ≤ 500000000) (hy : y.toInt.natAbs ≤ 500000000) : sg_ky (sg_key x y) = y := by
  have h5 : (500000000 : Int64).toInt = 500000000 := by decide
  rw [key_lN hx hy]
  unfold sg_ky
  rw [show (1073741823 : Int64) = lN (2 ^ 30 - 1) from rfl, wb_mask (by omega) (by decide), show (2 : Nat) ^ 30 = 1073741824 from rfl]
  have e : ((x.toInt + 500000000).toNat * 1073741824 + (y.toInt + 500000000).toNat) % 1073741824 = (y.toInt + 500000000).toNat := by omega
  rw [e]
  apply Int64.toInt.inj
  rw [i64_sub] <;> rw [h5, pf_lI (by omega)] <;> omega
/-- a pixel's key, by its two ints -/
def k32 (x y : Int32) : Int64 := sg_key x.toInt64 y.toInt64
theorem k32_i {x y : Int32} (hx : x.toInt.natAbs ≤ 500000000) (hy : y.toInt.natAbs ≤ 500000000) : (k32 x y).toInt = kz x.toInt y.toInt := by
  unfold k32
  rw [key_i] <;> rw [Int32.toInt_toInt64]
  · rw [Int32.toInt_toInt64]
  · exact hx
  · exact hy
theorem k32_x {x y : Int32} (hx : x.toInt.natAbs ≤ 500000000) (hy : y.toInt.natAbs ≤ 500000000) : sg_kx (k32 x y) = x.toInt64 := kx_key (by rw [Int32.toInt_toInt64]; exact hx) (by rw [Int32.toInt_toInt64]; exact hy)
theorem k32_y {x y : Int32} (hx : x.toInt.natAbs ≤ 500000000) (hy : y.toInt.natAbs ≤ 500000000) : sg_ky (k32 x y) = y.toInt64 := ky_key (by rw [Int32.toInt_toInt64]; exact hx) (by rw [Int32.toInt_toInt64]; exact hy)
theorem kz_lt {x y x' y' : Int} (hy : y.natAbs ≤ 500000000) (hy' : y'.natAbs ≤ 500000000) : kz x y < kz x' y' ↔ x < x' ∨ (x = x' ∧ y < y') := by
  unfold kz; omega
theorem kz_inj {x y x' y' : Int} (hy : y.natAbs ≤ 500000000) (hy' : y'.natAbs ≤ 500000000) : kz x y = kz x' y' ↔ x = x' ∧ y = y' := by
  unfold kz; omega
theorem t32_64 (a : Int32) : a.toInt64.toInt32 = a := Int32.toInt32_toInt64 a
/-- the numbers of a crossing -/
theorem mx_ok_i {q o : SQ} (hk : mx_ok q o) : 0 < (mx_1 q o).toInt ∧ (mx_1 q o).toInt < (mx_u q o).toInt ∧ 0 < (mx_2 q o).toInt ∧ (mx_2 q o).toInt < (mx_u q o).toInt := by
  unfold mx_ok at hk
  rw [i64_0lt, i64_0lt, Int64.lt_iff_toInt_lt, Int64.lt_iff_toInt_lt] at hk
  exact ⟨hk.1.1, hk.1.2, hk.2.1, hk.2.2⟩
theorem ck_v {a b : Int} {w r : Int} (h1 : a.natAbs ≤ 500000000) (h2 : b.natAbs ≤ 500000000) (hw : w = b - a) (hr : (0 ≤ w → 0 ≤ r ∧ r ≤ w) ∧ (w ≤ 0 → w ≤ r ∧ r ≤ 0)) : (a + r).natAbs ≤ 500000000 := by
  rcases Int.le_total 0 w with c | c
  · have := hr.1 c; omega
  · have := hr.2 c; omega
theorem i32_of64 {a : Int64} (h : a.toInt.natAbs ≤ 500000000) : a.toInt32.toInt = a.toInt := by
  rw [Int64.toInt_toInt32]
  exact Int.bmod_eq_of_le (by omega) (by omega)
theorem mx_xy {q o : SQ} (h : bnd q) (hk : mx_ok q o) : ((mx_x q o).toInt = q.1.toInt + mx_rx q o ∧ (mx_x q o).toInt.natAbs ≤ 500000000 ∧ sx q + Int64.ofInt (mx_rx q o) = (mx_x q o).toInt64) ∧ ((mx_y q o).toInt = q.2.1.toInt + mx_ry q o ∧ (mx_y q o).toInt.natAbs ≤ 500000000 ∧ sy q + Int64.ofInt (mx_ry q o) = (mx_y q o).toInt64) := by
  obtain ⟨k1, k2, _, _⟩ := mx_ok_i hk
  have hx := swx_i h
  have hy := swy_i h
  have rx := rd_b (b := (swx q).toInt) (o := (mx_1 q o).toInt.toNat) (u := (mx_u q o).toInt.toNat) (by omega)
  have ry := rd_b (b := (swy q).toInt) (o := (mx_1 q o).toInt.toNat) (u := (mx_u q o).toInt.toNat) (by omega)
  obtain ⟨h1, h2, h3, h4⟩ := h
  have bx := ck_v h1 h3 hx rx
  have by' := ck_v h2 h4 hy ry
  have gen : ∀ (a : Int64) (c : Int32) (r : Int), a.toInt = c.toInt → c.toInt.natAbs ≤ 500000000 → (c.toInt + r).natAbs ≤ 500000000 → (Int64.toInt32 (a + Int64.ofInt r)).toInt = c.toInt + r ∧ a + Int64.ofInt r = (Int64.toInt32 (a + Int64.ofInt r)).toInt64 := by
    intro a c r e1 e2 e3
    have e4 : (Int64.ofInt r).toInt = r := i64_ofI (by omega) (by omega)
    have e5 : (a + Int64.ofInt r).toInt = c.toInt + r := by
      rw [i64_add] <;> rw [e4, e1] <;> omega
    have e6 : (Int64.toInt32 (a + Int64.ofInt r)).toInt = c.toInt + r := by
      rw [i32_of64 (by rw [e5]; exact e3), e5]
    refine ⟨e6, Int64.toInt.inj ?_⟩
    rw [Int32.toInt_toInt64, e6, e5]
  obtain ⟨gx1, gx2⟩ := gen (sx q) q.1 (mx_rx q o) (sx_i q) h1 bx
  obtain ⟨gy1, gy2⟩ := gen (sy q) q.2.1 (mx_ry q o) (sy_i q) h2 by'
  exact ⟨⟨gx1, by show (Int64.toInt32 _).toInt.natAbs ≤ _; rw [gx1]; exact bx, gx2⟩, ⟨gy1, by show (Int64.toInt32 _).toInt.natAbs ≤ _; rw [gy1]; exact by', gy2⟩⟩
/-- the program's key of a crossing is the reference's pixel -/
theorem ck_i {q o : SQ} (h : bnd q) (g : bnd o) (hk : mx_ok q o) : sg_ck q o = k32 (mx_x q o) (mx_y q o) := by
  obtain ⟨e1, e2⟩ := bw_i h g hk
  obtain ⟨k1, k2, _, _⟩ := mx_ok_i hk
  have hu := (mx_u_b h g).2
  obtain ⟨⟨_, _, ex⟩, ⟨_, _, ey⟩⟩ := mx_xy h hk
  unfold sg_ck k32
  rw [e1, e2, sg_rp_i (swx_b h) (by omega) k2 hu, sg_rp_i (swy_b h) (by omega) k2 hu, ← ex, ← ey]
  rfl
theorem rd_sh {a b : Int} {o u : Nat} (hu : 0 < u) : a + rd b o u = (2 * (a * u + b * o) + u) / (2 * u) := by
  rw [rd_eq b hu, show 2 * (a * (u : Int) + b * o) + (u : Int) = (2 * (b * o) + u) + a * (2 * u) by grind, Int.add_mul_ediv_right _ _ (by omega)]
  omega
/-- the crossing's pixel does not hang on which segment is named first -/
theorem mx_sym {q o : SQ} (h : bnd q) (g : bnd o) (hk : mx_ok q o) : mx_x o q = mx_x q o ∧ mx_y o q = mx_y q o := by
  have hk' := mx_ok_sw h g hk
  obtain ⟨s1, s2, _⟩ := mx_sw h g hk
  obtain ⟨k1, k2, k3, k4⟩ := mx_ok_i hk
  obtain ⟨⟨x1, _, _⟩, ⟨y1, _, _⟩⟩ := mx_xy h hk
  obtain ⟨⟨x2, _, _⟩, ⟨y2, _, _⟩⟩ := mx_xy g hk'
  obtain ⟨e1, e2, e3⟩ := mx_i h g
  have hx : ∀ a b : Int, a.toNat = a.toNat → True := fun _ _ _ => trivial
  have n1 : (((mx_1 q o).toInt.toNat : Nat) : Int) = (mx_1 q o).toInt := by omega
  have n2 : (((mx_2 q o).toInt.toNat : Nat) : Int) = (mx_2 q o).toInt := by omega
  have nu : (((mx_u q o).toInt.toNat : Nat) : Int) = (mx_u q o).toInt := by omega
  have dxe := (dx_i h g).1
  have dye := (dy_i h g).1
  have ix : q.1.toInt * (mx_u q o).toInt + (swx q).toInt * (mx_1 q o).toInt = o.1.toInt * (mx_u q o).toInt + (swx o).toInt * (mx_2 q o).toInt := by
    rw [e1, e2, e3, u0_i h g, (m10_i h g).1, (m20_i h g).1, dxe, dye]
    split <;> grind
  have iy : q.2.1.toInt * (mx_u q o).toInt + (swy q).toInt * (mx_1 q o).toInt = o.2.1.toInt * (mx_u q o).toInt + (swy o).toInt * (mx_2 q o).toInt := by
    rw [e1, e2, e3, u0_i h g, (m10_i h g).1, (m20_i h g).1, dxe, dye]
    split <;> grind
  constructor
  · apply Int32.toInt.inj
    rw [x1, x2]
    unfold mx_rx
    rw [s1, s2, rd_sh (by omega), rd_sh (by omega), n1, n2, nu, ix]
  · apply Int32.toInt.inj
    rw [y1, y2]
    unfold mx_ry
    rw [s1, s2, rd_sh (by omega), rd_sh (by omega), n1, n2, nu, iy]
