/-! Pure rows: two segments cross as the reference says -/
theorem dxu_i {q o : SQ} (h : bnd q) (g : bnd o) : (su o - sx q).toInt = (sx o - sx q).toInt + (swx o).toInt ∧ (su o - sx q).toInt.natAbs ≤ 1000000000 := by
  have e2 := (dx_i h g).1
  have e3 := swx_i g
  obtain ⟨h1, h2, h3, h4⟩ := h
  obtain ⟨g1, g2, g3, g4⟩ := g
  have e : (su o - sx q).toInt = o.2.2.1.toInt - q.1.toInt := by
    rw [i64_sub] <;> rw [su_i, sx_i] <;> omega
  exact ⟨by rw [e, e2, e3]; omega, by rw [e]; omega⟩
theorem dyv_i {q o : SQ} (h : bnd q) (g : bnd o) : (sv o - sy q).toInt = (sy o - sy q).toInt + (swy o).toInt ∧ (sv o - sy q).toInt.natAbs ≤ 1000000000 := by
  have e2 := (dy_i h g).1
  have e3 := swy_i g
  obtain ⟨h1, h2, h3, h4⟩ := h
  obtain ⟨g1, g2, g3, g4⟩ := g
  have e : (sv o - sy q).toInt = o.2.2.2.toInt - q.2.1.toInt := by
    rw [i64_sub] <;> rw [sv_i, sy_i] <;> omega
  exact ⟨by rw [e, e2, e3]; omega, by rw [e]; omega⟩
theorem dxn_i {q o : SQ} (h : bnd q) (g : bnd o) : (sx q - sx o).toInt = -(sx o - sx q).toInt := by
  rw [(dx_i h g).1, (dx_i g h).1]; omega
theorem dyn_i {q o : SQ} (h : bnd q) (g : bnd o) : (sy q - sy o).toInt = -(sy o - sy q).toInt := by
  rw [(dy_i h g).1, (dy_i g h).1]; omega
theorem u0_i {q o : SQ} (h : bnd q) (g : bnd o) : (mx_u0 q o).toInt = (swx q).toInt * (swy o).toInt - (swy q).toInt * (swx o).toInt := (det9 (swx_b h) (swy_b g) (swy_b h) (swx_b g)).1
theorem m10_i {q o : SQ} (h : bnd q) (g : bnd o) : (mx_10 q o).toInt = (sx o - sx q).toInt * (swy o).toInt - (sy o - sy q).toInt * (swx o).toInt ∧ (mx_10 q o).toInt.natAbs ≤ 2000000000000000000 := det9 (dx_i h g).2 (swy_b g) (dy_i h g).2 (swx_b g)
theorem m20_i {q o : SQ} (h : bnd q) (g : bnd o) : (mx_20 q o).toInt = (sx o - sx q).toInt * (swy q).toInt - (sy o - sy q).toInt * (swx q).toInt ∧ (mx_20 q o).toInt.natAbs ≤ 2000000000000000000 := det9 (dx_i h g).2 (swy_b h) (dy_i h g).2 (swx_b h)
theorem side_f {q o : SQ} (h : bnd q) (g : bnd o) : (sg_side q (sx o) (sy o)).toInt = -(mx_20 q o).toInt := by
  rw [(m20_i h g).1, show (sg_side q (sx o) (sy o)).toInt = _ from (det9 (swx_b h) (dy_i h g).2 (swy_b h) (dx_i h g).2).1]
  grind
theorem side_t {q o : SQ} (h : bnd q) (g : bnd o) : (sg_side q (su o) (sv o)).toInt = (mx_u0 q o).toInt - (mx_20 q o).toInt := by
  rw [(m20_i h g).1, u0_i h g, show (sg_side q (su o) (sv o)).toInt = _ from (det9 (swx_b h) (dyv_i h g).2 (swy_b h) (dxu_i h g).2).1, (dyv_i h g).1, (dxu_i h g).1]
  grind
theorem side_f2 {q o : SQ} (h : bnd q) (g : bnd o) : (sg_side o (sx q) (sy q)).toInt = (mx_10 q o).toInt := by
  rw [(m10_i h g).1, show (sg_side o (sx q) (sy q)).toInt = _ from (det9 (swx_b g) (dy_i g h).2 (swy_b g) (dx_i g h).2).1, dxn_i h g, dyn_i h g]
  grind
theorem side_t2 {q o : SQ} (h : bnd q) (g : bnd o) : (sg_side o (su q) (sv q)).toInt = (mx_10 q o).toInt - (mx_u0 q o).toInt := by
  rw [(m10_i h g).1, u0_i h g, show (sg_side o (su q) (sv q)).toInt = _ from (det9 (swx_b g) (dyv_i g h).2 (swy_b g) (dxu_i g h).2).1, (dyv_i g h).1, (dxu_i g h).1, dxn_i h g, dyn_i h g]
  grind
theorem i64_lt0 {a : Int64} : a < 0 ↔ a.toInt < 0 := Int64.lt_iff_toInt_lt
theorem i64_0lt {a : Int64} : 0 < a ↔ 0 < a.toInt := Int64.lt_iff_toInt_lt
theorem i64_eq0 {a : Int64} : a = 0 ↔ a.toInt = 0 := ⟨fun h => by rw [h]; rfl, fun h => Int64.toInt.inj (h.trans rfl)⟩
theorem mx_n_i {q o : SQ} {v : Int64} (hv : v.toInt.natAbs ≤ 2000000000000000000) : (mx_n q o v).toInt = if (mx_u0 q o).toInt < 0 then -v.toInt else v.toInt := by
  unfold mx_n
  by_cases c : mx_u0 q o < 0
  · rw [if_pos c, if_pos (i64_lt0.mp c), i64_neg (by omega)]
  · rw [if_neg c, if_neg (fun z => c (i64_lt0.mpr z))]
/-- the three numbers of two segments, as whole numbers -/
theorem mx_i {q o : SQ} (h : bnd q) (g : bnd o) : (mx_u q o).toInt = (if (mx_u0 q o).toInt < 0 then -(mx_u0 q o).toInt else (mx_u0 q o).toInt) ∧ (mx_1 q o).toInt = (if (mx_u0 q o).toInt < 0 then -(mx_10 q o).toInt else (mx_10 q o).toInt) ∧ (mx_2 q o).toInt = (if (mx_u0 q o).toInt < 0 then -(mx_20 q o).toInt else (mx_20 q o).toInt) := ⟨mx_n_i (mx_u0_b h g), mx_n_i (m10_i h g).2, mx_n_i (m20_i h g).2⟩
theorem cr_iff {q o : SQ} (h : bnd q) (g : bnd o) : sg_cross q o ↔ mx_ok q o := by
  obtain ⟨e1, e2, e3⟩ := mx_i h g
  unfold sg_cross sg_parts mx_ok
  rw [i64_eq0, i64_eq0, i64_lt0, i64_lt0, i64_lt0, i64_lt0, i64_0lt, i64_0lt, i64_0lt, i64_0lt, Int64.lt_iff_toInt_lt (x := mx_1 q o), Int64.lt_iff_toInt_lt (x := mx_2 q o), e1, e2, e3, side_f h g, side_t h g, side_f2 h g, side_t2 h g]
  by_cases c : (mx_u0 q o).toInt < 0
  · rw [if_pos c, if_pos c, if_pos c]; omega
  · rw [if_neg c, if_neg c, if_neg c]; omega
/-- what the other way round gives -/
theorem mx_sw {q o : SQ} (h : bnd q) (g : bnd o) (hk : mx_ok q o) : (mx_u o q).toInt = (mx_u q o).toInt ∧ (mx_1 o q).toInt = (mx_2 q o).toInt ∧ (mx_2 o q).toInt = (mx_1 q o).toInt := by
  obtain ⟨e1, e2, e3⟩ := mx_i h g
  obtain ⟨f1, f2, f3⟩ := mx_i g h
  have a1 : (mx_u0 o q).toInt = -(mx_u0 q o).toInt := by rw [u0_i g h, u0_i h g]; grind
  have a2 : (mx_10 o q).toInt = -(mx_20 q o).toInt := by rw [(m10_i g h).1, (m20_i h g).1, dxn_i h g, dyn_i h g]; grind
  have a3 : (mx_20 o q).toInt = -(mx_10 q o).toInt := by rw [(m20_i g h).1, (m10_i h g).1, dxn_i h g, dyn_i h g]; grind
  unfold mx_ok at hk
  rw [i64_0lt, i64_0lt, Int64.lt_iff_toInt_lt, Int64.lt_iff_toInt_lt, e1, e2, e3] at hk
  rw [f1, f2, f3, e1, e2, e3, a1, a2, a3]
  by_cases c : (mx_u0 q o).toInt < 0
  · rw [if_pos c, if_pos c, if_pos c, if_neg (by omega), if_neg (by omega), if_neg (by omega)]; omega
  · rw [if_neg c] at hk
    rw [if_neg c, if_neg c, if_neg c, if_pos (by omega), if_pos (by omega), if_pos (by omega)]; omega
theorem mx_ok_sw {q o : SQ} (h : bnd q) (g : bnd o) (hk : mx_ok q o) : mx_ok o q := by
  obtain ⟨e1, e2, e3⟩ := mx_sw h g hk
  unfold mx_ok at hk ⊢
  rw [i64_0lt, i64_0lt, Int64.lt_iff_toInt_lt, Int64.lt_iff_toInt_lt] at hk ⊢
  rw [e1, e2, e3]
  exact ⟨hk.2, hk.1⟩
theorem ab64_i {a : Int64} (h : a.toInt.natAbs ≤ 4000000000000000000) : (ab64 a).toInt = (a.toInt.natAbs : Int) := by
  unfold ab64
  by_cases c : 0 < a
  · rw [if_pos c]; have := i64_0lt.mp c; omega
  · rw [if_neg c, i64_neg (by omega)]
    have : ¬ 0 < a.toInt := fun z => c (i64_0lt.mpr z)
    omega
/-- where two segments cross, the program's two numbers are the reference's -/
theorem bw_i {q o : SQ} (h : bnd q) (g : bnd o) (hk : mx_ok q o) : sg_before q o = mx_1 q o ∧ sg_whole q o = mx_u q o := by
  obtain ⟨e1, e2, e3⟩ := mx_i h g
  have b1 := (m10_i h g).2
  have b0 := mx_u0_b h g
  have hk9 := hk
  unfold mx_ok at hk
  rw [i64_0lt, i64_0lt, Int64.lt_iff_toInt_lt, Int64.lt_iff_toInt_lt, e1, e2, e3] at hk
  have a1 : (sg_before q o).toInt = (mx_1 q o).toInt := by
    unfold sg_before
    rw [ab64_i (by rw [side_f2 h g]; omega), side_f2 h g, e2]
    by_cases c : (mx_u0 q o).toInt < 0
    · rw [if_pos c] at hk ⊢; omega
    · rw [if_neg c] at hk ⊢; omega
  have a3 : (ab64 (sg_side o (su q) (sv q))).toInt = (mx_u q o).toInt - (mx_1 q o).toInt := by
    rw [ab64_i (by rw [side_t2 h g]; omega), side_t2 h g, e1, e2]
    by_cases c : (mx_u0 q o).toInt < 0
    · rw [if_pos c, if_pos c, if_pos c] at hk; rw [if_pos c, if_pos c]; omega
    · rw [if_neg c, if_neg c, if_neg c] at hk; rw [if_neg c, if_neg c]; omega
  have b2 := mx_u_b h g
  have a2 : (sg_whole q o).toInt = (mx_u q o).toInt := by
    unfold sg_whole
    rw [i64_add] <;> rw [a1, a3] <;> omega
  exact ⟨Int64.toInt.inj a1, Int64.toInt.inj a2⟩
