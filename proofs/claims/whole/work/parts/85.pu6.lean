/-! Pure rows: the program enters a pixel where the reference does; the order along a segment -/
theorem g0E {w v X : Int} : 0 < gE w v X ↔ 0 ≤ gX w X := by
  have hv := gD_p v
  have hz : gZ w = 0 ∨ gZ w = 1 := by unfold gZ; split <;> omega
  unfold gE
  constructor
  · intro h
    apply Classical.byContradiction
    intro c
    have : (2 * gX w X + 1) * gD v ≤ -1 * gD v := Int.mul_le_mul_of_nonneg_right (by omega) (by omega)
    omega
  · intro h
    have : 1 * gD v ≤ (2 * gX w X + 1) * gD v := Int.mul_le_mul_of_nonneg_right (by omega) (by omega)
    omega
theorem gS1 {w v X : Int} : gS w v X < 2 * (gD w * gD v) + 1 ↔ gX w X ≤ (w.natAbs : Int) := by
  have hv := gD_p v
  have hz : gZ w = 0 ∨ gZ w = 1 := by unfold gZ; split <;> omega
  unfold gS
  by_cases c0 : w = 0
  · subst c0
    rw [show gD 0 = 1 from rfl, Int.one_mul, show gZ 0 = 1 from rfl]
    constructor
    · intro h
      apply Classical.byContradiction
      intro c
      have : 1 * gD v ≤ (2 * gX 0 X - 1) * gD v := Int.mul_le_mul_of_nonneg_right (by omega) (by omega)
      omega
    · intro h
      have : (2 * gX 0 X - 1) * gD v ≤ -1 * gD v := Int.mul_le_mul_of_nonneg_right (by omega) (by omega)
      omega
  · rw [show gD w = 2 * (w.natAbs : Int) from if_neg c0]
    constructor
    · intro h
      apply Classical.byContradiction
      intro c
      have : (2 * (w.natAbs : Int) + 1) * gD v ≤ (2 * gX w X - 1) * gD v := Int.mul_le_mul_of_nonneg_right (by omega) (by omega)
      rw [Int.add_mul] at this
      omega
    · intro h
      have : (2 * gX w X - 1) * gD v ≤ (2 * (w.natAbs : Int) - 1) * gD v := Int.mul_le_mul_of_nonneg_right (by omega) (by omega)
      rw [Int.sub_mul (2 * (w.natAbs : Int))] at this
      omega
theorem gSE {w v X : Int} : gS w v X < gE w v X := by
  have hv := gD_p v
  unfold gS gE
  rw [Int.sub_mul, Int.add_mul]
  omega
/-- the box and the two cross-wise bounds -/
def gin (w v X Y : Int) : Prop := (0 ≤ gX w X ∧ gX w X ≤ (w.natAbs : Int)) ∧ (0 ≤ gX v Y ∧ gX v Y ≤ (v.natAbs : Int)) ∧ gS w v X < gE v w Y ∧ gS v w Y < gE w v X
theorem gok_b {w X : Int} (h : 0 ≤ gX w X ∧ gX w X ≤ (w.natAbs : Int)) : gok w X := by
  intro c
  subst c
  unfold gX at h
  rw [if_pos (by omega)] at h
  omega
theorem gin_i {w v X Y : Int} : (gok w X ∧ gok v Y ∧ gK w v X Y < gL w v X Y) ↔ gin w v X Y := by
  have a1 := g0E (w := w) (v := v) (X := X)
  have a2 := g0E (w := v) (v := w) (X := Y)
  have a3 := gS1 (w := w) (v := v) (X := X)
  have a4 := gS1 (w := v) (v := w) (X := Y)
  have a5 := gSE (w := w) (v := v) (X := X)
  have a6 := gSE (w := v) (v := w) (X := Y)
  have hD : 0 < gD w * gD v := Int.mul_pos (gD_p w) (gD_p v)
  rw [Int.mul_comm (gD v) (gD w)] at a4
  unfold gin gK gL
  rw [← a1, ← a2, ← a3, ← a4]
  constructor
  · rintro ⟨_, _, h⟩
    omega
  · rintro ⟨h1, h2, h3, h4⟩
    refine ⟨gok_b ⟨a1.mp h1.1, a3.mp h1.2⟩, gok_b ⟨a2.mp h2.1, a4.mp h2.2⟩, ?_⟩
    omega
/-- the program's own test, as whole numbers -/
def lin (w v X Y : Int) : Prop :=
  ((w * (2 * Y - 1) - v * (2 * X - 1) + (if 0 < -2 * v then 0 else -2 * v) + (if 0 < 2 * w then 0 else 2 * w) < 0 ∨ (w * (2 * Y - 1) - v * (2 * X - 1) + (if 0 < -2 * v then 0 else -2 * v) + (if 0 < 2 * w then 0 else 2 * w) = 0 ∧ ¬ -2 * v < 0 ∧ ¬ 2 * w < 0)) ∧
   (0 < w * (2 * Y - 1) - v * (2 * X - 1) + (if 0 < -2 * v then -2 * v else 0) + (if 0 < 2 * w then 2 * w else 0) ∨ (w * (2 * Y - 1) - v * (2 * X - 1) + (if 0 < -2 * v then -2 * v else 0) + (if 0 < 2 * w then 2 * w else 0) = 0 ∧ ¬ 0 < -2 * v ∧ ¬ 0 < 2 * w)))
theorem lin_i {w v X Y : Int} (hx : 0 ≤ gX w X ∧ gX w X ≤ (w.natAbs : Int)) (hy : 0 ≤ gX v Y ∧ gX v Y ≤ (v.natAbs : Int)) : lin w v X Y ↔ (gS w v X < gE v w Y ∧ gS v w Y < gE w v X) := by
  unfold lin gS gE
  rw [show w * (2 * Y - 1) = 2 * (w * Y) - w by grind, show v * (2 * X - 1) = 2 * (v * X) - v by grind]
  rcases Int.lt_trichotomy w 0 with cw | cw | cw
  · have e1 : gX w X = -X := if_pos (by omega)
    have e2 : gD w = 2 * -w := by unfold gD; rw [if_neg (by omega)]; omega
    have e3 : gZ w = 1 := if_pos (by omega)
    rw [e1] at hx
    rcases Int.lt_trichotomy v 0 with cv | cv | cv
    · have f1 : gX v Y = -Y := if_pos (by omega)
      have f2 : gD v = 2 * -v := by unfold gD; rw [if_neg (by omega)]; omega
      have f3 : gZ v = 1 := if_pos (by omega)
      rw [e1, e2, e3, f1, f2, f3]
      rw [show (2 * -X - 1) * (2 * -v) = 4 * (v * X) + 2 * v by grind, show (2 * -X + 1) * (2 * -v) = 4 * (v * X) - 2 * v by grind, show (2 * -Y - 1) * (2 * -w) = 4 * (w * Y) + 2 * w by grind, show (2 * -Y + 1) * (2 * -w) = 4 * (w * Y) - 2 * w by grind]
      omega
    · subst cv
      have f1 : gX 0 Y = -Y := rfl
      rw [f1] at hy
      have y0 : Y = 0 := by omega
      subst y0
      rw [e1, e2, e3, f1, show gD 0 = 1 from rfl, show gZ 0 = 1 from rfl]
      omega
    · have f1 : gX v Y = Y := if_neg (by omega)
      have f2 : gD v = 2 * v := by unfold gD; rw [if_neg (by omega)]; omega
      have f3 : gZ v = 0 := if_neg (by omega)
      rw [e1, e2, e3, f1, f2, f3]
      rw [show (2 * -X - 1) * (2 * v) = -4 * (v * X) - 2 * v by grind, show (2 * -X + 1) * (2 * v) = -4 * (v * X) + 2 * v by grind, show (2 * Y - 1) * (2 * -w) = -4 * (w * Y) + 2 * w by grind, show (2 * Y + 1) * (2 * -w) = -4 * (w * Y) - 2 * w by grind]
      omega
  · subst cw
    have e1 : gX 0 X = -X := rfl
    rw [e1] at hx
    have x0 : X = 0 := by omega
    subst x0
    rcases Int.lt_trichotomy v 0 with cv | cv | cv
    · have f1 : gX v Y = -Y := if_pos (by omega)
      have f2 : gD v = 2 * -v := by unfold gD; rw [if_neg (by omega)]; omega
      have f3 : gZ v = 1 := if_pos (by omega)
      rw [f1] at hy
      rw [e1, f1, f2, f3, show gD 0 = 1 from rfl, show gZ 0 = 1 from rfl]
      omega
    · subst cv
      have f1 : gX 0 Y = -Y := rfl
      rw [f1] at hy
      have y0 : Y = 0 := by omega
      subst y0
      rw [e1, show gD 0 = 1 from rfl, show gZ 0 = 1 from rfl]
      omega
    · have f1 : gX v Y = Y := if_neg (by omega)
      have f2 : gD v = 2 * v := by unfold gD; rw [if_neg (by omega)]; omega
      have f3 : gZ v = 0 := if_neg (by omega)
      rw [f1] at hy
      rw [e1, f1, f2, f3, show gD 0 = 1 from rfl, show gZ 0 = 1 from rfl]
      omega
  · have e1 : gX w X = X := if_neg (by omega)
    have e2 : gD w = 2 * w := by unfold gD; rw [if_neg (by omega)]; omega
    have e3 : gZ w = 0 := if_neg (by omega)
    rw [e1] at hx
    rcases Int.lt_trichotomy v 0 with cv | cv | cv
    · have f1 : gX v Y = -Y := if_pos (by omega)
      have f2 : gD v = 2 * -v := by unfold gD; rw [if_neg (by omega)]; omega
      have f3 : gZ v = 1 := if_pos (by omega)
      rw [e1, e2, e3, f1, f2, f3]
      rw [show (2 * X - 1) * (2 * -v) = -4 * (v * X) + 2 * v by grind, show (2 * X + 1) * (2 * -v) = -4 * (v * X) - 2 * v by grind, show (2 * -Y - 1) * (2 * w) = -4 * (w * Y) - 2 * w by grind, show (2 * -Y + 1) * (2 * w) = -4 * (w * Y) + 2 * w by grind]
      omega
    · subst cv
      have f1 : gX 0 Y = -Y := rfl
      rw [f1] at hy
      have y0 : Y = 0 := by omega
      subst y0
      rw [e1, e2, e3, f1, show gD 0 = 1 from rfl, show gZ 0 = 1 from rfl]
      omega
    · have f1 : gX v Y = Y := if_neg (by omega)
      have f2 : gD v = 2 * v := by unfold gD; rw [if_neg (by omega)]; omega
      have f3 : gZ v = 0 := if_neg (by omega)
      rw [e1, e2, e3, f1, f2, f3]
      rw [show (2 * X - 1) * (2 * v) = 4 * (v * X) - 2 * v by grind, show (2 * X + 1) * (2 * v) = 4 * (v * X) + 2 * v by grind, show (2 * Y - 1) * (2 * w) = 4 * (w * Y) - 2 * w by grind, show (2 * Y + 1) * (2 * w) = 4 * (w * Y) + 2 * w by grind]
      omega
theorem ite_i {a b c : Int64} : (if 0 < a then b else c).toInt = if 0 < a.toInt then b.toInt else c.toInt := by
  by_cases h : 0 < a
  · rw [if_pos h, if_pos (i64_0lt.mp h)]
  · rw [if_neg h, if_neg (fun z => h (i64_0lt.mpr z))]
theorem ln_add {a b c : Int64} {A B C : Int} (ha : a.toInt = A) (hb : b.toInt = B) (hc : c.toInt = C) (bA : A.natAbs ≤ 2000000000) (bB : B.natAbs ≤ 2000000000) (bC : C.natAbs ≤ 4000000002000000000) : (c + a + b).toInt = C + A + B := by
  have : (c + a).toInt = C + A := by rw [i64_add] <;> rw [ha, hc] <;> omega
  rw [i64_add] <;> rw [this, hb] <;> omega
theorem ln_i {a b c : Int64} {A B C : Int} (ha : a.toInt = A) (hb : b.toInt = B) (hc : c.toInt = C) (bA : A.natAbs ≤ 2000000000) (bB : B.natAbs ≤ 2000000000) (bC : C.natAbs ≤ 4000000002000000000) : ln_in a b c ↔
    ((C + (if 0 < A then 0 else A) + (if 0 < B then 0 else B) < 0 ∨ (C + (if 0 < A then 0 else A) + (if 0 < B then 0 else B) = 0 ∧ ¬ A < 0 ∧ ¬ B < 0)) ∧
    (0 < C + (if 0 < A then A else 0) + (if 0 < B then B else 0) ∨ (C + (if 0 < A then A else 0) + (if 0 < B then B else 0) = 0 ∧ ¬ 0 < A ∧ ¬ 0 < B))) := by
  have z0 : (0 : Int64).toInt = 0 := by decide
  have l1 : (ln_least a b c).toInt = C + (if 0 < A then 0 else A) + (if 0 < B then 0 else B) := by
    unfold ln_least
    exact ln_add (by rw [ite_i, ha, z0]) (by rw [ite_i, hb, z0]) hc (by split <;> omega) (by split <;> omega) bC
  have l2 : (ln_most a b c).toInt = C + (if 0 < A then A else 0) + (if 0 < B then B else 0) := by
    unfold ln_most
    exact ln_add (by rw [ite_i, ha, z0]) (by rw [ite_i, hb, z0]) hc (by split <;> omega) (by split <;> omega) bC
  unfold ln_in
  rw [i64_lt0, i64_eq0, i64_lt0, i64_lt0, i64_0lt, i64_eq0, i64_0lt, i64_0lt, l1, l2, ha, hb]
theorem d2_i {x : Int32} {a : Int64} {A : Int32} (ha : a.toInt = A.toInt) (hA : A.toInt.natAbs ≤ 500000000) (hx : x.toInt.natAbs ≤ 500000000) : (2 * (x.toInt64 - a) - 1).toInt = 2 * (x.toInt - A.toInt) - 1 := by
  have h1i : (1 : Int64).toInt = 1 := by decide
  have dx : (x.toInt64 - a).toInt = x.toInt - A.toInt := by rw [i64_sub] <;> rw [Int32.toInt_toInt64, ha] <;> omega
  have := i64_2 (a := x.toInt64 - a) (by omega)
  rw [i64_sub] <;> omega
theorem m2_i {w d : Int64} {D : Int} (hw : w.toInt.natAbs ≤ 1000000000) (hd : d.toInt = D) (hD : D.natAbs ≤ 2000000001) : (w * d).toInt = w.toInt * D ∧ (w.toInt * D).natAbs ≤ 2000000001000000000 := by
  have m := mulb (m := 1000000000) (n := 2000000001) hw hD
  refine ⟨?_, by omega⟩
  rw [i64_mul] <;> rw [hd] <;> omega
theorem line_i {q : SQ} {x y : Int32} (h : bnd q) (hx : x.toInt.natAbs ≤ 500000000) (hy : y.toInt.natAbs ≤ 500000000) : sg_line q x.toInt64 y.toInt64 ↔ lin (swx q).toInt (swy q).toInt (qx q x) (qy q y) := by
  have hwx := swx_b h
  have hwy := swy_b h
  obtain ⟨h1, h2, h3, h4⟩ := h
  have dx2 := d2_i (sx_i q) h1 hx
  have dy2 := d2_i (sy_i q) h2 hy
  obtain ⟨p1, b1⟩ := m2_i hwx dy2 (by omega)
  obtain ⟨p2, b2⟩ := m2_i hwy dx2 (by omega)
  have ay := i64_2 (a := swx q) (by omega)
  have ax : (-2 * swy q).toInt = -2 * (swy q).toInt := by
    have : (-2 : Int64).toInt = -2 := by decide
    rw [i64_mul] <;> rw [this] <;> omega
  have c : (swx q * (2 * (y.toInt64 - sy q) - 1) - swy q * (2 * (x.toInt64 - sx q) - 1)).toInt = (swx q).toInt * (2 * qy q y - 1) - (swy q).toInt * (2 * qx q x - 1) := by
    rw [i64_sub] <;> rw [p1, p2] <;> omega
  unfold sg_line lin
  refine ln_i ax ay c (by omega) (by omega) ?_
  show ((swx q).toInt * (2 * (y.toInt - q.2.1.toInt) - 1) - (swy q).toInt * (2 * (x.toInt - q.1.toInt) - 1)).natAbs ≤ _
  omega
theorem box_i {a b x : Int64} {w X : Int} (hw : w = b.toInt - a.toInt) (hX : X = x.toInt - a.toInt) : (¬ x < (if b < a then b else a) ∧ ¬ (if b < a then a else b) < x) ↔ (0 ≤ gX w X ∧ gX w X ≤ (w.natAbs : Int)) := by
  unfold gX
  subst hw hX
  by_cases c : b < a
  · rw [if_pos c, if_pos c, Int64.lt_iff_toInt_lt, Int64.lt_iff_toInt_lt]
    rw [Int64.lt_iff_toInt_lt] at c
    split <;> omega
  · rw [if_neg c, if_neg c, Int64.lt_iff_toInt_lt, Int64.lt_iff_toInt_lt]
    rw [Int64.lt_iff_toInt_lt] at c
    split <;> omega
theorem ent_g {q : SQ} {x y : Int32} (h : bnd q) (hx : x.toInt.natAbs ≤ 500000000) (hy : y.toInt.natAbs ≤ 500000000) : sg_enters q x.toInt64 y.toInt64 ↔ gin (swx q).toInt (swy q).toInt (qx q x) (qy q y) := by
  have b1 : _ ↔ _ := box_i (a := sx q) (b := su q) (x := x.toInt64) (w := (swx q).toInt) (X := qx q x) (by rw [swx_i h, su_i, sx_i]) (by rw [Int32.toInt_toInt64, sx_i])
  have b2 : _ ↔ _ := box_i (a := sy q) (b := sv q) (x := y.toInt64) (w := (swy q).toInt) (X := qy q y) (by rw [swy_i h, sv_i, sy_i]) (by rw [Int32.toInt_toInt64, sy_i])
  unfold sg_enters gin
  rw [line_i h hx hy, ← b1, ← b2]
  unfold slx smx sly smy
  constructor
  · rintro ⟨h1, h2, h3, h4, h5⟩
    have := (lin_i (b1.mp ⟨h1, h2⟩) (b2.mp ⟨h3, h4⟩)).mp h5
    exact ⟨⟨h1, h2⟩, ⟨h3, h4⟩, this⟩
  · rintro ⟨⟨h1, h2⟩, ⟨h3, h4⟩, h5⟩
    exact ⟨h1, h2, h3, h4, (lin_i (b1.mp ⟨h1, h2⟩) (b2.mp ⟨h3, h4⟩)).mpr h5⟩
/-- the program enters a pixel just where the reference does -/
theorem ent_i {q : SQ} {x y : Int32} (h : bnd q) (hx : x.toInt.natAbs ≤ 500000000) (hy : y.toInt.natAbs ≤ 500000000) : sg_enters q x.toInt64 y.toInt64 ↔ mi_in q x y := by
  rw [ent_g h hx hy, mi_in_k h hx hy, gin_i]
/-- the key of a pixel's place along a segment -/
def pk (q : SQ) (x y : Int32) : Int := gK (swx q).toInt (swy q).toInt (qx q x) (qy q y)
theorem pk_sk {q : SQ} {x y : Int32} (h : bnd q) (hx : x.toInt.natAbs ≤ 500000000) (hy : y.toInt.natAbs ≤ 500000000) (hin : mi_in q x y) : SK (gD (swx q).toInt * gD (swy q).toInt) (mi_iv q x y).1 (pk q x y) := by
  have := (mi_in_k h hx hy).mp hin
  exact (mi_keys h hx hy this.1 this.2.1).1
/-- along a segment: by its own x, then by its own y -/
theorem pkl_lt {q : SQ} {x y x' y' : Int32} (h : bnd q) (hx : x.toInt.natAbs ≤ 500000000) (hy : y.toInt.natAbs ≤ 500000000) (hin : mi_in q x y)
    (hlt : gX (swx q).toInt (qx q x) < gX (swx q).toInt (qx q x') ∨ (gX (swx q).toInt (qx q x) = gX (swx q).toInt (qx q x') ∧ gX (swy q).toInt (qy q y) < gX (swy q).toInt (qy q y'))) : pk q x y < pk q x' y' := by
  have h3 := ((mi_in_k h hx hy).mp hin).2.2
  unfold pk
  generalize (swx q).toInt = w at *
  generalize (swy q).toInt = v at *
  have key : ∀ (w v X X' : Int), gX w X < gX w X' → gE w v X ≤ gS w v X' := by
    intro w v X X' hl
    have hv := gD_p v
    unfold gE gS
    have : (2 * gX w X + 1) * gD v ≤ (2 * gX w X' - 1) * gD v := Int.mul_le_mul_of_nonneg_right (by omega) (by omega)
    omega
  rcases hlt with c | ⟨_, c⟩
  · have := key w v _ _ c
    unfold gK gL at *
    omega
  · have := key v w _ _ c
    unfold gK gL at *
    omega
/-- the reference's 'lies before' is the order of the keys -/
theorem less_i {D : Int} (hD : 0 < D) {v w : Int64 × Int64 × Int32} {K L : Int} (hv : SK D v K) (hw : SK D w L) : in_less v w.1 w.2.1 w.2.2 ↔ K < L := by
  obtain ⟨T, t1, t2⟩ := hv
  obtain ⟨S, s1, s2⟩ := hw
  obtain ⟨c1, c2, c3⟩ := cmp_lt hD t1 s1
  unfold in_less
  rw [c1, c3, t2, s2]
  rcases fI_01 t1.2.2.2 with ⟨p, p'⟩ | ⟨p, p'⟩ <;> rcases fI_01 s1.2.2.2 with ⟨r, r'⟩ | ⟨r, r'⟩ <;> rw [p', r', p, r] <;> simp <;> omega
