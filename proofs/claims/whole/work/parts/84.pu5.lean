/-! Pure rows: the reference's cuts as whole numbers -/
/-- v is the number T / D -/
def isK (D : Int) (v : Int64 × Int64 × Int32) (T : Int) : Prop := v.1.toInt * D = v.2.1.toInt * T ∧ (0 < v.2.1.toInt ∧ v.2.1.toInt ≤ 2000000000) ∧ v.1.toInt.natAbs ≤ 2000000001 ∧ (v.2.2 = 0 ∨ v.2.2 = 1)
def fI (z : Int32) : Int := if z = 0 then 0 else 1
/-- where a stretch begins, with its bound before it where that belongs to it -/
def SK (D : Int) (v : Int64 × Int64 × Int32) (K : Int) : Prop := ∃ T, isK D v T ∧ K = 2 * T + 1 - fI v.2.2
/-- where a stretch ends -/
def EK (D : Int) (v : Int64 × Int64 × Int32) (K : Int) : Prop := ∃ T, isK D v T ∧ K = 2 * T + fI v.2.2
theorem mulb {a b : Int} {m n : Nat} (ha : a.natAbs ≤ m) (hb : b.natAbs ≤ n) : (a * b).natAbs ≤ m * n := by
  rw [Int.natAbs_mul]
  exact Nat.mul_le_mul ha hb
theorem rat_lt {D a b c d T S : Int} (hD : 0 < D) (hb : 0 < b) (hd : 0 < d) (h1 : a * D = b * T) (h2 : c * D = d * S) : a * d < c * b ↔ T < S := by
  have e1 : (a * d) * D = (b * d) * T := by grind
  have e2 : (c * b) * D = (b * d) * S := by grind
  have hbd : 0 < b * d := Int.mul_pos hb hd
  constructor
  · intro h
    have := Int.mul_lt_mul_of_pos_right h hD
    rw [e1, e2] at this
    exact Int.lt_of_mul_lt_mul_left this (Int.le_of_lt hbd)
  · intro h
    have := Int.mul_lt_mul_of_pos_left h hbd
    rw [← e1, ← e2] at this
    exact Int.lt_of_mul_lt_mul_right this (Int.le_of_lt hD)
theorem cmp_i {D : Int} {v w : Int64 × Int64 × Int32} {T S : Int} (hD : 0 < D) (hv : isK D v T) (hw : isK D w S) : mr_cmp v.1 v.2.1 w.1 w.2.1 = if T < S then -1 else if S < T then 1 else 0 := by
  obtain ⟨v1, ⟨v2, v3⟩, v4, _⟩ := hv
  obtain ⟨w1, ⟨w2, w3⟩, w4, _⟩ := hw
  have b1 := mulb (b := w.2.1.toInt) (n := 2000000000) v4 (by omega)
  have b2 := mulb (b := v.2.1.toInt) (n := 2000000000) w4 (by omega)
  have e1 : (v.1 * w.2.1).toInt = v.1.toInt * w.2.1.toInt := i64_mul (by omega) (by omega)
  have e2 : (w.1 * v.2.1).toInt = w.1.toInt * v.2.1.toInt := i64_mul (by omega) (by omega)
  unfold mr_cmp
  have c1 : (v.1 * w.2.1 < w.1 * v.2.1) ↔ T < S := by
    rw [Int64.lt_iff_toInt_lt, e1, e2]; exact rat_lt hD v2 w2 v1 w1
  have c2 : (w.1 * v.2.1 < v.1 * w.2.1) ↔ S < T := by
    rw [Int64.lt_iff_toInt_lt, e1, e2]; exact rat_lt hD w2 v2 w1 v1
  by_cases d : T < S
  · rw [if_pos d, if_pos (c1.mpr d)]
  · rw [if_neg d, if_neg (fun z => d (c1.mp z))]
    by_cases d2 : S < T
    · rw [if_pos d2, if_pos (c2.mpr d2)]
    · rw [if_neg d2, if_neg (fun z => d2 (c2.mp z))]
theorem cmp_lt {D : Int} {v w : Int64 × Int64 × Int32} {T S : Int} (hD : 0 < D) (hv : isK D v T) (hw : isK D w S) : (mr_cmp v.1 v.2.1 w.1 w.2.1 < 0 ↔ T < S) ∧ (0 < mr_cmp v.1 v.2.1 w.1 w.2.1 ↔ S < T) ∧ (mr_cmp v.1 v.2.1 w.1 w.2.1 = 0 ↔ T = S) := by
  rw [cmp_i hD hv hw]
  by_cases d : T < S
  · rw [if_pos d]
    exact ⟨⟨fun _ => d, fun _ => by decide⟩, ⟨fun z => absurd z (by decide), fun z => by omega⟩, ⟨fun z => absurd z (by decide), fun z => by omega⟩⟩
  · rw [if_neg d]
    by_cases d2 : S < T
    · rw [if_pos d2]
      exact ⟨⟨fun z => absurd z (by decide), fun z => by omega⟩, ⟨fun _ => d2, fun _ => by decide⟩, ⟨fun z => absurd z (by decide), fun z => by omega⟩⟩
    · rw [if_neg d2]
      exact ⟨⟨fun z => absurd z (by decide), fun z => by omega⟩, ⟨fun z => absurd z (by decide), fun z => by omega⟩, ⟨fun _ => by omega, fun _ => rfl⟩⟩
theorem fI_01 {z : Int32} (h : z = 0 ∨ z = 1) : (z = 0 ∧ fI z = 0) ∨ (z = 1 ∧ fI z = 1) := by
  rcases h with h | h <;> subst h
  · exact Or.inl ⟨rfl, rfl⟩
  · exact Or.inr ⟨rfl, rfl⟩
theorem b01_pp {p : Prop} (h : p) : b01 p = 1 := if_pos h
theorem b01_nn {p : Prop} (h : ¬ p) : b01 p = 0 := if_neg h
theorem up_k {D : Int} (hD : 0 < D) {o u : Int64} {i : Int32} {s : Int64 × Int64 × Int32} {K L : Int} (h1 : SK D (o, u, i) K) (h2 : SK D s L) : SK D (mr_up o u i s) (max L K) := by
  obtain ⟨T, hT, hK⟩ := h1
  obtain ⟨S, hS, hL⟩ := h2
  obtain ⟨c1, c2, c3⟩ := cmp_lt hD hT hS
  have hs := fI_01 hS.2.2.2
  have hi := fI_01 hT.2.2.2
  unfold mr_up
  dsimp only at c1 c2 c3 hi hK ⊢
  simp only [c2, c3]
  by_cases d : S < T ∨ (T = S ∧ ¬ s.2.2 = 0)
  · rw [if_pos d]
    by_cases e : ¬ i = 0 ∧ (S < T ∨ ¬ s.2.2 = 0)
    · rw [b01_pp e]
      refine ⟨T, ⟨hT.1, hT.2.1, hT.2.2.1, Or.inr rfl⟩, ?_⟩
      show max L K = 2 * T + 1 - fI 1
      have : fI 1 = 1 := rfl
      rcases hi with ⟨a, b⟩ | ⟨a, b⟩
      · exact absurd a e.1
      · rcases d with d | ⟨d, d'⟩
        · rcases hs with ⟨a', b'⟩ | ⟨a', b'⟩ <;> omega
        · rcases hs with ⟨a', b'⟩ | ⟨a', b'⟩
          · exact absurd a' d'
          · omega
    · rw [b01_nn e]
      refine ⟨T, ⟨hT.1, hT.2.1, hT.2.2.1, Or.inl rfl⟩, ?_⟩
      show max L K = 2 * T + 1 - fI 0
      have : fI 0 = 0 := rfl
      have hi0 : i = 0 := by
        apply Classical.byContradiction
        intro z
        exact e ⟨z, d.imp id (fun w => w.2)⟩
      rcases hi with ⟨a, b⟩ | ⟨a, b⟩
      · rcases d with d | ⟨d, d'⟩
        · rcases hs with ⟨a', b'⟩ | ⟨a', b'⟩ <;> omega
        · rcases hs with ⟨a', b'⟩ | ⟨a', b'⟩
          · exact absurd a' d'
          · omega
      · rw [a] at hi0; exact absurd hi0 (by decide)
  · rw [if_neg d]
    have d1 : ¬ S < T := fun z => d (Or.inl z)
    refine ⟨S, hS, ?_⟩
    rcases hi with ⟨a, b⟩ | ⟨a, b⟩
    · rcases hs with ⟨a', b'⟩ | ⟨a', b'⟩
      · omega
      · have : ¬ s.2.2 = 0 := by rw [a']; decide
        have d2 : ¬ T = S := fun z => d (Or.inr ⟨z, this⟩)
        omega
    · rcases hs with ⟨a', b'⟩ | ⟨a', b'⟩
      · omega
      · have : ¬ s.2.2 = 0 := by rw [a']; decide
        have d2 : ¬ T = S := fun z => d (Or.inr ⟨z, this⟩)
        omega
theorem dn_k {D : Int} (hD : 0 < D) {o u : Int64} {i : Int32} {s : Int64 × Int64 × Int32} {K L : Int} (h1 : EK D (o, u, i) K) (h2 : EK D s L) : EK D (mr_dn o u i s) (min L K) := by
  obtain ⟨T, hT, hK⟩ := h1
  obtain ⟨S, hS, hL⟩ := h2
  obtain ⟨c1, c2, c3⟩ := cmp_lt hD hT hS
  have hs := fI_01 hS.2.2.2
  have hi := fI_01 hT.2.2.2
  unfold mr_dn
  dsimp only at c1 c2 c3 hi hK ⊢
  simp only [c1, c3]
  by_cases d : T < S ∨ (T = S ∧ ¬ s.2.2 = 0)
  · rw [if_pos d]
    by_cases e : ¬ i = 0 ∧ (T < S ∨ ¬ s.2.2 = 0)
    · rw [b01_pp e]
      refine ⟨T, ⟨hT.1, hT.2.1, hT.2.2.1, Or.inr rfl⟩, ?_⟩
      show min L K = 2 * T + fI 1
      have : fI 1 = 1 := rfl
      rcases hi with ⟨a, b⟩ | ⟨a, b⟩
      · exact absurd a e.1
      · rcases d with d | ⟨d, d'⟩
        · rcases hs with ⟨a', b'⟩ | ⟨a', b'⟩ <;> omega
        · rcases hs with ⟨a', b'⟩ | ⟨a', b'⟩
          · exact absurd a' d'
          · omega
    · rw [b01_nn e]
      refine ⟨T, ⟨hT.1, hT.2.1, hT.2.2.1, Or.inl rfl⟩, ?_⟩
      show min L K = 2 * T + fI 0
      have : fI 0 = 0 := rfl
      have hi0 : i = 0 := by
        apply Classical.byContradiction
        intro z
        exact e ⟨z, d.imp id (fun w => w.2)⟩
      rcases hi with ⟨a, b⟩ | ⟨a, b⟩
      · rcases d with d | ⟨d, d'⟩
        · rcases hs with ⟨a', b'⟩ | ⟨a', b'⟩ <;> omega
        · rcases hs with ⟨a', b'⟩ | ⟨a', b'⟩
          · exact absurd a' d'
          · omega
      · rw [a] at hi0; exact absurd hi0 (by decide)
  · rw [if_neg d]
    have d1 : ¬ T < S := fun z => d (Or.inl z)
    refine ⟨S, hS, ?_⟩
    rcases hi with ⟨a, b⟩ | ⟨a, b⟩
    · rcases hs with ⟨a', b'⟩ | ⟨a', b'⟩
      · omega
      · have : ¬ s.2.2 = 0 := by rw [a']; decide
        have d2 : ¬ T = S := fun z => d (Or.inr ⟨z, this⟩)
        omega
    · rcases hs with ⟨a', b'⟩ | ⟨a', b'⟩
      · omega
      · have : ¬ s.2.2 = 0 := by rw [a']; decide
        have d2 : ¬ T = S := fun z => d (Or.inr ⟨z, this⟩)
        omega
/-- the whole numbers of a way w and of a pixel X off its beginning -/
def gX (w X : Int) : Int := if w ≤ 0 then -X else X
def gD (w : Int) : Int := if w = 0 then 1 else 2 * (w.natAbs : Int)
def gZ (w : Int) : Int := if w ≤ 0 then 1 else 0
def gS (w v X : Int) : Int := 2 * ((2 * gX w X - 1) * gD v) + gZ w
def gE (w v X : Int) : Int := 2 * ((2 * gX w X + 1) * gD v) + gZ w
theorem gD_p (w : Int) : 0 < gD w := by unfold gD; split <;> omega
/-- the cuts of one way -/
theorem ml_k {a d low : Int64} {w X v : Int} {s : IV} {K L : Int} (hd : d.toInt = 2 * w) (hw : w.natAbs ≤ 1000000000) (hX : X.natAbs ≤ 1000000000) (hla : low.toInt - a.toInt = 2 * X - 1) (hlow : low.toInt.natAbs ≤ 1000000001) (ha : a.toInt.natAbs ≤ 1000000000)
    (hok : w = 0 → X = 0) (hK : SK (gD w * gD v) s.1 K) (hL : EK (gD w * gD v) s.2 L) (hK0 : 0 ≤ K) (hL0 : L ≤ 2 * (gD w * gD v) + 1) : SK (gD w * gD v) (ml_iv a d low s).1 (max K (gS w v X)) ∧ EK (gD w * gD v) (ml_iv a d low s).2 (min L (gE w v X)) := by
  have hv := gD_p v
  have hD : 0 < gD w * gD v := Int.mul_pos (gD_p w) hv
  have h2 : (2 : Int64).toInt = 2 := by decide
  unfold ml_iv
  by_cases c : d = 0
  · rw [if_pos c]
    have c' := i64_eq0.mp c
    have w0 : w = 0 := by omega
    have X0 := hok w0
    subst w0 X0
    have e1 : gS 0 v 0 = 2 * (-1 * gD v) + 1 := rfl
    have e2 : gE 0 v 0 = 2 * (1 * gD v) + 1 := rfl
    have e3 : gD 0 * gD v = 1 * gD v := rfl
    rw [e3] at hL0
    rw [show max K (gS 0 v 0) = K by rw [e1]; omega, show min L (gE 0 v 0) = L by rw [e2]; omega]
    exact ⟨hK, hL⟩
  · rw [if_neg c]
    have w0 : w ≠ 0 := fun z => c (i64_eq0.mpr (by omega))
    have eD : gD w = 2 * (w.natAbs : Int) := if_neg w0
    by_cases p : 0 < d
    · rw [if_pos p]
      have p' := i64_0lt.mp p
      have eX : gX w X = X := if_neg (by omega)
      have eZ : gZ w = 0 := if_neg (by omega)
      have q1 : (low - a).toInt = 2 * X - 1 := by rw [i64_sub] <;> omega
      have q2 : (low + 2 - a).toInt = 2 * X + 1 := by
        have : (low + 2).toInt = low.toInt + 2 := by rw [i64_add] <;> omega
        rw [i64_sub] <;> omega
      have eD2 : gD w = d.toInt := by omega
      constructor
      · refine up_k hD (K := gS w v X) ⟨(2 * X - 1) * gD v, ⟨?_, ⟨by show 0 < d.toInt; omega, by show d.toInt ≤ _; omega⟩, by show (low - a).toInt.natAbs ≤ _; omega, Or.inr rfl⟩, ?_⟩ hK
        · show (low - a).toInt * _ = d.toInt * _
          rw [q1, eD2]; grind
        · show gS w v X = 2 * ((2 * X - 1) * gD v) + 1 - fI 1
          unfold gS; rw [eX, eZ, show fI 1 = 1 from rfl]; omega
      · refine dn_k hD (K := gE w v X) ⟨(2 * X + 1) * gD v, ⟨?_, ⟨by show 0 < d.toInt; omega, by show d.toInt ≤ _; omega⟩, by show (low + 2 - a).toInt.natAbs ≤ _; omega, Or.inl rfl⟩, ?_⟩ hL
        · show (low + 2 - a).toInt * _ = d.toInt * _
          rw [q2, eD2]; grind
        · show gE w v X = 2 * ((2 * X + 1) * gD v) + fI 0
          unfold gE; rw [eX, eZ, show fI 0 = 0 from rfl]
    · rw [if_neg p]
      have p' : ¬ 0 < d.toInt := fun z => p (i64_0lt.mpr z)
      have eX : gX w X = -X := if_pos (by omega)
      have eZ : gZ w = 1 := if_pos (by omega)
      have q1 : (a - low - 2).toInt = -2 * X - 1 := by
        have : (a - low).toInt = a.toInt - low.toInt := by rw [i64_sub] <;> omega
        rw [i64_sub] <;> omega
      have q2 : (a - low).toInt = -2 * X + 1 := by rw [i64_sub] <;> omega
      have q3 : (-d).toInt = -d.toInt := i64_neg (by omega)
      have eD2 : gD w = (-d).toInt := by omega
      constructor
      · refine up_k hD (K := gS w v X) ⟨(2 * -X - 1) * gD v, ⟨?_, ⟨by show 0 < (-d).toInt; omega, by show (-d).toInt ≤ _; omega⟩, by show (a - low - 2).toInt.natAbs ≤ _; omega, Or.inl rfl⟩, ?_⟩ hK
        · show (a - low - 2).toInt * _ = (-d).toInt * _
          rw [q1, eD2]; grind
        · show gS w v X = 2 * ((2 * -X - 1) * gD v) + 1 - fI 0
          unfold gS; rw [eX, eZ, show fI 0 = 0 from rfl]; omega
      · refine dn_k hD (K := gE w v X) ⟨(2 * -X + 1) * gD v, ⟨?_, ⟨by show 0 < (-d).toInt; omega, by show (-d).toInt ≤ _; omega⟩, by show (a - low).toInt.natAbs ≤ _; omega, Or.inr rfl⟩, ?_⟩ hL
        · show (a - low).toInt * _ = (-d).toInt * _
          rw [q2, eD2]; grind
        · show gE w v X = 2 * ((2 * -X + 1) * gD v) + fI 1
          unfold gE; rw [eX, eZ, show fI 1 = 1 from rfl]
/-- where the segment begins and ends in a pixel -/
def gK (w v X Y : Int) : Int := max (max 0 (gS w v X)) (gS v w Y)
def gL (w v X Y : Int) : Int := min (min (2 * (gD w * gD v) + 1) (gE w v X)) (gE v w Y)
def gok (w X : Int) : Prop := w = 0 → X = 0
abbrev qx (q : SQ) (x : Int32) : Int := x.toInt - q.1.toInt
abbrev qy (q : SQ) (y : Int32) : Int := y.toInt - q.2.1.toInt
theorem i64_2 {a : Int64} (h : a.toInt.natAbs ≤ 1000000000) : (2 * a).toInt = 2 * a.toInt := by
  have h2 : (2 : Int64).toInt = 2 := by decide
  rw [i64_mul] <;> rw [h2] <;> omega
theorem ok_g {a d low : Int64} {w X : Int} (hd : d.toInt = 2 * w) (hla : low.toInt - a.toInt = 2 * X - 1) (hlow : low.toInt.natAbs ≤ 1000000001) : ml_ok a d low ↔ gok w X := by
  have h2 : (2 : Int64).toInt = 2 := by decide
  have e : (low + 2).toInt = low.toInt + 2 := by rw [i64_add] <;> omega
  unfold ml_ok gok
  rw [i64_eq0, Int64.lt_iff_toInt_lt, Int64.lt_iff_toInt_lt, e]
  omega
theorem mi_pre {q : SQ} {x y : Int32} (h : bnd q) (hx : x.toInt.natAbs ≤ 500000000) (hy : y.toInt.natAbs ≤ 500000000) :
    ((2 * su q - 2 * sx q).toInt = 2 * (swx q).toInt ∧ (2 * Int32.toInt64 x - 1).toInt - (2 * sx q).toInt = 2 * qx q x - 1 ∧ (2 * Int32.toInt64 x - 1).toInt.natAbs ≤ 1000000001 ∧ (2 * sx q).toInt.natAbs ≤ 1000000000 ∧ (qx q x).natAbs ≤ 1000000000) ∧
    ((2 * sv q - 2 * sy q).toInt = 2 * (swy q).toInt ∧ (2 * Int32.toInt64 y - 1).toInt - (2 * sy q).toInt = 2 * qy q y - 1 ∧ (2 * Int32.toInt64 y - 1).toInt.natAbs ≤ 1000000001 ∧ (2 * sy q).toInt.natAbs ≤ 1000000000 ∧ (qy q y).natAbs ≤ 1000000000) := by
  have h1i : (1 : Int64).toInt = 1 := by decide
  have hwx := swx_i h
  have hwy := swy_i h
  obtain ⟨h1, h2, h3, h4⟩ := h
  have ex := i64_2 (a := sx q) (by rw [sx_i]; omega)
  have ey := i64_2 (a := sy q) (by rw [sy_i]; omega)
  have eu := i64_2 (a := su q) (by rw [su_i]; omega)
  have ev := i64_2 (a := sv q) (by rw [sv_i]; omega)
  have fx := i64_2 (a := Int32.toInt64 x) (by rw [Int32.toInt_toInt64]; omega)
  have fy := i64_2 (a := Int32.toInt64 y) (by rw [Int32.toInt_toInt64]; omega)
  rw [sx_i] at ex
  rw [sy_i] at ey
  rw [su_i] at eu
  rw [sv_i] at ev
  rw [Int32.toInt_toInt64] at fx fy
  have gx : (2 * Int32.toInt64 x - 1).toInt = 2 * x.toInt - 1 := by rw [i64_sub] <;> omega
  have gy : (2 * Int32.toInt64 y - 1).toInt = 2 * y.toInt - 1 := by rw [i64_sub] <;> omega
  refine ⟨⟨?_, by unfold qx; omega, by omega, by omega, by unfold qx; omega⟩, ⟨?_, by unfold qy; omega, by omega, by omega, by unfold qy; omega⟩⟩
  · rw [i64_sub] <;> omega
  · rw [i64_sub] <;> omega
theorem mi_oks {q : SQ} {x y : Int32} (h : bnd q) (hx : x.toInt.natAbs ≤ 500000000) (hy : y.toInt.natAbs ≤ 500000000) : (mi_ok1 q x ↔ gok (swx q).toInt (qx q x)) ∧ (mi_ok2 q y ↔ gok (swy q).toInt (qy q y)) := by
  obtain ⟨⟨a1, a2, a3, _, _⟩, ⟨b1, b2, b3, _, _⟩⟩ := mi_pre h hx hy
  exact ⟨ok_g a1 a2 a3, ok_g b1 b2 b3⟩
theorem mi_keys {q : SQ} {x y : Int32} (h : bnd q) (hx : x.toInt.natAbs ≤ 500000000) (hy : y.toInt.natAbs ≤ 500000000) (g1 : gok (swx q).toInt (qx q x)) (g2 : gok (swy q).toInt (qy q y)) :
    SK (gD (swx q).toInt * gD (swy q).toInt) (mi_iv q x y).1 (gK (swx q).toInt (swy q).toInt (qx q x) (qy q y)) ∧ EK (gD (swx q).toInt * gD (swy q).toInt) (mi_iv q x y).2 (gL (swx q).toInt (swy q).toInt (qx q x) (qy q y)) := by
  obtain ⟨⟨a1, a2, a3, a4, a5⟩, ⟨b1, b2, b3, b4, b5⟩⟩ := mi_pre h hx hy
  have hk : mi_iv q x y = mi_2 q x y := if_pos ((mi_oks h hx hy).1.mpr g1)
  have hwx := swx_b h
  have hwy := swy_b h
  rw [hk]
  unfold mi_2 mi_1
  generalize (swx q).toInt = w at *
  generalize (swy q).toInt = v at *
  have hD : 0 < gD w * gD v := Int.mul_pos (gD_p w) (gD_p v)
  have s0 : SK (gD w * gD v) ((((0, 1, 1), (1, 1, 1)) : IV).1) 0 := ⟨0, ⟨by show (0 : Int) * _ = 1 * 0; omega, by decide, by decide, Or.inr rfl⟩, rfl⟩
  have s1 : EK (gD w * gD v) ((((0, 1, 1), (1, 1, 1)) : IV).2) (2 * (gD w * gD v) + 1) := ⟨gD w * gD v, ⟨by show (1 : Int) * _ = 1 * _; rfl, by decide, by decide, Or.inr rfl⟩, rfl⟩
  obtain ⟨t0, t1⟩ := ml_k a1 hwx a5 a2 a3 a4 g1 s0 s1 (by omega) (by omega)
  have t2 := ml_k (v := w) (K := max 0 (gS w v (qx q x))) (L := min (2 * (gD w * gD v) + 1) (gE w v (qx q x))) b1 hwy b5 b2 b3 b4 g2 (by rw [Int.mul_comm]; exact t0) (by rw [Int.mul_comm]; exact t1) (by omega) (by rw [Int.mul_comm (gD v)]; omega)
  rw [Int.mul_comm (gD v)] at t2
  exact t2
theorem mi_in_k {q : SQ} {x y : Int32} (h : bnd q) (hx : x.toInt.natAbs ≤ 500000000) (hy : y.toInt.natAbs ≤ 500000000) : mi_in q x y ↔ gok (swx q).toInt (qx q x) ∧ gok (swy q).toInt (qy q y) ∧ gK (swx q).toInt (swy q).toInt (qx q x) (qy q y) < gL (swx q).toInt (swy q).toInt (qx q x) (qy q y) := by
  unfold mi_in
  obtain ⟨o1, o2⟩ := mi_oks h hx hy
  rw [o1, o2, and_assoc]
  apply and_congr_right
  intro g1
  apply and_congr_right
  intro g2
  obtain ⟨⟨T, t1, t2⟩, ⟨S, s1, s2⟩⟩ := mi_keys h hx hy g1 g2
  obtain ⟨c1, c2, c3⟩ := cmp_lt (Int.mul_pos (gD_p _) (gD_p _)) t1 s1
  unfold mv_c
  rw [c1, c3, t2, s2]
  rcases fI_01 t1.2.2.2 with ⟨p, p'⟩ | ⟨p, p'⟩ <;> rcases fI_01 s1.2.2.2 with ⟨r, r'⟩ | ⟨r, r'⟩ <;> rw [p', r', p, r] <;> simp <;> omega
