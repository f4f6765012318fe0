/-! the ends' reach, and what follows of it -/
def bnd (q : SQ) : Prop := q.1.toInt.natAbs ≤ 500000000 ∧ q.2.1.toInt.natAbs ≤ 500000000 ∧ q.2.2.1.toInt.natAbs ≤ 500000000 ∧ q.2.2.2.toInt.natAbs ≤ 500000000
theorem sx_i (q : SQ) : (sx q).toInt = q.1.toInt := Int32.toInt_toInt64 _
theorem sy_i (q : SQ) : (sy q).toInt = q.2.1.toInt := Int32.toInt_toInt64 _
theorem su_i (q : SQ) : (su q).toInt = q.2.2.1.toInt := Int32.toInt_toInt64 _
theorem sv_i (q : SQ) : (sv q).toInt = q.2.2.2.toInt := Int32.toInt_toInt64 _
theorem swx_i {q : SQ} (h : bnd q) : (swx q).toInt = q.2.2.1.toInt - q.1.toInt := by
  obtain ⟨h1, h2, h3, h4⟩ := h
  unfold swx
  rw [i64_sub] <;> rw [su_i, sx_i] <;> omega
theorem swy_i {q : SQ} (h : bnd q) : (swy q).toInt = q.2.2.2.toInt - q.2.1.toInt := by
  obtain ⟨h1, h2, h3, h4⟩ := h
  unfold swy
  rw [i64_sub] <;> rw [sv_i, sy_i] <;> omega
theorem swx_b {q : SQ} (h : bnd q) : (swx q).toInt.natAbs ≤ 1000000000 := by
  rw [swx_i h]
  obtain ⟨h1, h2, h3, h4⟩ := h
  omega
theorem swy_b {q : SQ} (h : bnd q) : (swy q).toInt.natAbs ≤ 1000000000 := by
  rw [swy_i h]
  obtain ⟨h1, h2, h3, h4⟩ := h
  omega
theorem mul9 {a b : Int} (ha : a.natAbs ≤ 1000000000) (hb : b.natAbs ≤ 1000000000) : (a * b).natAbs ≤ 1000000000000000000 := by
  rw [Int.natAbs_mul]
  exact Nat.le_trans (Nat.mul_le_mul ha hb) (by decide)
/-- the difference of two products -/
theorem det9 {a b c d : Int64} (ha : a.toInt.natAbs ≤ 1000000000) (hb : b.toInt.natAbs ≤ 1000000000) (hc : c.toInt.natAbs ≤ 1000000000) (hd : d.toInt.natAbs ≤ 1000000000) :
    (a * b - c * d).toInt = a.toInt * b.toInt - c.toInt * d.toInt ∧ (a * b - c * d).toInt.natAbs ≤ 2000000000000000000 := by
  have h1 := mul9 ha hb
  have h2 := mul9 hc hd
  have e1 : (a * b).toInt = a.toInt * b.toInt := i64_mul (by omega) (by omega)
  have e2 : (c * d).toInt = c.toInt * d.toInt := i64_mul (by omega) (by omega)
  have e3 : (a * b - c * d).toInt = a.toInt * b.toInt - c.toInt * d.toInt := by
    rw [i64_sub] <;> rw [e1, e2] <;> omega
  exact ⟨e3, by rw [e3]; omega⟩
theorem dx_i {q o : SQ} (h : bnd q) (g : bnd o) : (sx o - sx q).toInt = o.1.toInt - q.1.toInt ∧ (sx o - sx q).toInt.natAbs ≤ 1000000000 := by
  obtain ⟨h1, h2, h3, h4⟩ := h
  obtain ⟨g1, g2, g3, g4⟩ := g
  have e : (sx o - sx q).toInt = o.1.toInt - q.1.toInt := by
    rw [i64_sub] <;> rw [sx_i, sx_i] <;> omega
  exact ⟨e, by rw [e]; omega⟩
theorem dy_i {q o : SQ} (h : bnd q) (g : bnd o) : (sy o - sy q).toInt = o.2.1.toInt - q.2.1.toInt ∧ (sy o - sy q).toInt.natAbs ≤ 1000000000 := by
  obtain ⟨h1, h2, h3, h4⟩ := h
  obtain ⟨g1, g2, g3, g4⟩ := g
  have e : (sy o - sy q).toInt = o.2.1.toInt - q.2.1.toInt := by
    rw [i64_sub] <;> rw [sy_i, sy_i] <;> omega
  exact ⟨e, by rw [e]; omega⟩
/-- the reference's numbers for two segments -/
def mx_u0 (q o : SQ) : Int64 := swx q * swy o - swy q * swx o
def mx_10 (q o : SQ) : Int64 := (sx o - sx q) * swy o - (sy o - sy q) * swx o
def mx_20 (q o : SQ) : Int64 := (sx o - sx q) * swy q - (sy o - sy q) * swx q
def mx_n (q o : SQ) (v : Int64) : Int64 := if mx_u0 q o < 0 then -v else v
def mx_u (q o : SQ) : Int64 := mx_n q o (mx_u0 q o)
def mx_1 (q o : SQ) : Int64 := mx_n q o (mx_10 q o)
def mx_2 (q o : SQ) : Int64 := mx_n q o (mx_20 q o)
def mx_ok (q o : SQ) : Prop := (0 < mx_1 q o ∧ mx_1 q o < mx_u q o) ∧ 0 < mx_2 q o ∧ mx_2 q o < mx_u q o
def mx_rx (q o : SQ) : Int := rd (swx q).toInt (mx_1 q o).toInt.toNat (mx_u q o).toInt.toNat
def mx_ry (q o : SQ) : Int := rd (swy q).toInt (mx_1 q o).toInt.toNat (mx_u q o).toInt.toNat
def mx_x (q o : SQ) : Int32 := Int64.toInt32 (sx q + Int64.ofInt (mx_rx q o))
def mx_y (q o : SQ) : Int32 := Int64.toInt32 (sy q + Int64.ofInt (mx_ry q o))
theorem mx_u0_b {q o : SQ} (h : bnd q) (g : bnd o) : (mx_u0 q o).toInt.natAbs ≤ 2000000000000000000 := (det9 (swx_b h) (swy_b g) (swy_b h) (swx_b g)).2
theorem mx_u_b {q o : SQ} (h : bnd q) (g : bnd o) : 0 ≤ (mx_u q o).toInt ∧ (mx_u q o).toInt ≤ 2000000000000000000 := by
  have hb := mx_u0_b h g
  have h0 : (0 : Int64).toInt = 0 := by decide
  unfold mx_u mx_n
  by_cases c : mx_u0 q o < 0
  · rw [if_pos c]
    rw [Int64.lt_iff_toInt_lt, h0] at c
    rw [i64_neg (by omega)]
    omega
  · rw [if_neg c]
    rw [Int64.lt_iff_toInt_lt, h0] at c
    omega
