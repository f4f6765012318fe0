/-! Pure rows: the order in which the program leaves a segment's places -/
/-- the places b .. z - 1 rise by A, then by B -/
def lx (A B : Int64 → Int) (f : Nat → Int64) (b z : Nat) : Prop := ∀ i j, b ≤ i → i < j → j < z → A (f i) < A (f j) ∨ (A (f i) = A (f j) ∧ B (f i) < B (f j))
/-- the same numbers there, and nothing else touched -/
def sm (f g : Nat → Int64) (b z : Nat) : Prop := (∀ v, (∃ i, (b ≤ i ∧ i < z) ∧ f i = v) ↔ ∃ i, (b ≤ i ∧ i < z) ∧ g i = v) ∧ ∀ i, i < b → g i = f i
theorem sm_refl (f : Nat → Int64) (b z : Nat) : sm f f b z := ⟨fun _ => Iff.rfl, fun _ _ => rfl⟩
theorem sm_tr {f g h : Nat → Int64} {b z : Nat} (h1 : sm f g b z) (h2 : sm g h b z) : sm f h b z := ⟨fun v => (h1.1 v).trans (h2.1 v), fun i hi => (h2.2 i hi).trans (h1.2 i hi)⟩
theorem turn_in {f : Nat → Int64} {a e j : Nat} (h : a ≤ j ∧ j < e) : ps_turn f a e j = f (a + e - 1 - j) := if_pos h
theorem turn_out {f : Nat → Int64} {a e j : Nat} (h : ¬ (a ≤ j ∧ j < e)) : ps_turn f a e j = f j := if_neg h
theorem turn_sm {f : Nat → Int64} {b a e z : Nat} (h1 : b ≤ a) (h2 : e ≤ z) : sm f (ps_turn f a e) b z := by
  refine ⟨fun v => ⟨?_, ?_⟩, fun i hi => turn_out (by omega)⟩
  · rintro ⟨i, h, g⟩
    by_cases c : a ≤ i ∧ i < e
    · refine ⟨a + e - 1 - i, by omega, ?_⟩
      rw [turn_in (by omega), show a + e - 1 - (a + e - 1 - i) = i by omega, g]
    · exact ⟨i, h, by rw [turn_out c, g]⟩
  · rintro ⟨i, h, g⟩
    by_cases c : a ≤ i ∧ i < e
    · rw [turn_in c] at g
      exact ⟨a + e - 1 - i, by omega, g⟩
    · rw [turn_out c] at g
      exact ⟨i, h, g⟩
theorem turn_lx {A B : Int64 → Int} {f : Nat → Int64} {b z : Nat} (h : lx A B f b z) : lx (fun v => -A v) (fun v => -B v) (ps_turn f b z) b z := by
  intro i j h1 h2 h3
  rw [turn_in (by omega), turn_in (by omega)]
  have := h (b + z - 1 - j) (b + z - 1 - i) (by omega) (by omega) (by omega)
  dsimp only
  omega
/-- the columns turned round, one after the other -/
theorem tc_spec {R1 : RS} {n z b0 : Nat} {A B : Int64 → Int} {V : Int64 → Prop} (hA : ∀ (f : Nat → Int64) (k b : Nat), k < z → b < z → V (f k) → V (f b) → (px_x R1 (n, f, z) (nI k) = px_x R1 (n, f, z) (nI b) ↔ A (f k) = A (f b))) :
    ∀ (fu k b : Nat) (f : Nat → Int64), z < k + fu → b < k → k ≤ z + 1 → b0 ≤ b → b ≤ z → (k = z + 1 → b = z) → (∀ i, b0 ≤ i → i < z → V (f i)) →
    lx A (fun v => -B v) f b0 b → lx A B f b z → (∀ i j, b0 ≤ i → i < b → b ≤ j → j < z → A (f i) < A (f j)) → (∀ i, b ≤ i → i < k → i < z → A (f i) = A (f b)) →
    lx A (fun v => -B v) (tc_go R1 n z fu k b f) b0 z ∧ sm f (tc_go R1 n z fu k b f) b0 z := by
  intro fu
  induction fu with
  | zero =>
    intro k b f h1 h2 h3 h4 h5 h6 hx i1 i2 i3 i4
    have : b = z := h6 (by omega)
    subst this
    exact ⟨i1, sm_refl _ _ _⟩
  | succ fu ih =>
    intro k b f h1 h2 h3 h4 h5 h6 hx i1 i2 i3 i4
    unfold tc_go
    by_cases c : k ≤ z
    · rw [if_pos c]
      have hbz : b < z := by omega
      have hcond : k < z → (px_x R1 (n, f, z) (nI k) = px_x R1 (n, f, z) (nI b) ↔ A (f k) = A (f b)) := fun hk => hA f k b hk hbz (hx k (by omega) hk) (hx b h4 hbz)
      by_cases d : k = z ∨ px_x R1 (n, f, z) (nI k) ≠ px_x R1 (n, f, z) (nI b)
      · rw [if_pos d]
        have hlt : k < z → A (f b) < A (f k) := fun hk => by
          rcases d with d | d
          · omega
          · have h7 : A (f k) ≠ A (f b) := fun w => d ((hcond hk).mpr w)
            have := i2 b k (Nat.le_refl _) h2 hk
            omega
        have st := turn_sm (f := f) (b := b0) (a := b) (e := k) (z := z) h4 c
        obtain ⟨r1, r2⟩ := ih (k + 1) k (ps_turn f b k) (by omega) (by omega) (by omega) (by omega) c (by omega) (fun i a e => by
            obtain ⟨i', a', e'⟩ := (st.1 (ps_turn f b k i)).mpr ⟨i, ⟨a, e⟩, rfl⟩
            rw [← e']; exact hx i' a'.1 a'.2)
          (fun i j a e g => by
            dsimp only
            by_cases ci : i < b
            · rw [turn_out (j := i) (by omega)]
              by_cases cj : j < b
              · rw [turn_out (by omega)]
                exact i1 i j a e cj
              · rw [turn_in (by omega)]
                exact Or.inl (i3 i _ a ci (by omega) (by omega))
            · rw [turn_in (by omega), turn_in (by omega)]
              have e1 := i4 (b + k - 1 - i) (by omega) (by omega) (by omega)
              have e2 := i4 (b + k - 1 - j) (by omega) (by omega) (by omega)
              have := i2 (b + k - 1 - j) (b + k - 1 - i) (by omega) (by omega) (by omega)
              omega)
          (fun i j a e g => by
            rw [turn_out (by omega), turn_out (by omega)]
            exact i2 i j (by omega) e g)
          (fun i j a e g l => by
            rw [turn_out (j := j) (by omega)]
            by_cases ci : i < b
            · rw [turn_out (by omega)]
              exact i3 i j a ci (by omega) l
            · rw [turn_in (by omega), i4 _ (by omega) (by omega) (by omega)]
              have e1 := hlt (by omega)
              by_cases cj : j = k
              · rw [cj]; exact e1
              · have := i2 k j (by omega) (by omega) l
                omega)
          (fun i a e g => by rw [show i = k by omega])
        exact ⟨r1, sm_tr st r2⟩
      · rw [if_neg d]
        have hkz : k < z := by
          by_cases e : k = z
          · exact absurd (Or.inl e) d
          · omega
        have he : px_x R1 (n, f, z) (nI k) = px_x R1 (n, f, z) (nI b) := Classical.not_not.mp (fun w => d (Or.inr w))
        refine ih (k + 1) b f (by omega) (by omega) (by omega) h4 h5 (by omega) hx i1 i2 i3 (fun i a e g => ?_)
        by_cases ci : i = k
        · rw [ci]; exact (hcond hkz).mp he
        · exact i4 i a (by omega) g
    · rw [if_neg c]
      have : b = z := h6 (by omega)
      subst this
      exact ⟨i1, sm_refl _ _ _⟩
/-- a place's pixel -/
def vx (gx : Nat → Int32) (v : Int64) : Int := (gx v.toInt.toNat).toInt
theorem rw_at_n {f : Nat → Int64} {z i : Nat} (hi : i < z) (hz : z < 2 ^ 31) : rw_at f (nI z) (nI i) = f i := by
  have hI : ∀ a, a < 2 ^ 31 → (nI a).toInt = (a : Int) := fun a ha => Int32.toInt_ofNat_of_lt ha
  unfold rw_at rw_has
  have h0 : ¬ nI i < 0 := by
    rw [Int32.lt_iff_toInt_lt, hI i (by omega), show (0 : Int32).toInt = 0 from by decide]; omega
  have h1 : ¬ nI z ≤ nI i := by
    rw [Int32.le_iff_toInt_le, hI i (by omega), hI z (by omega)]; omega
  rw [if_neg h0, if_neg h1, if_neg (by decide)]
  congr 1
  unfold Int32.toNatClampNeg
  rw [hI i (by omega)]
  omega
theorem lN_32 {x : Nat} (hx : x < 2 ^ 31) : (lN x).toInt32 = nI x := by
  apply Int32.toInt.inj
  rw [Int64.toInt_toInt32, pf_lI (by omega), show (nI x).toInt = (x : Int) from Int32.toInt_ofNat_of_lt hx]
  exact Int.bmod_eq_of_le (by omega) (by omega)
theorem vx_lN {gx : Nat → Int32} {x : Nat} (hx : x < 2 ^ 31) : vx gx (lN x) = (gx x).toInt := by
  unfold vx
  rw [pf_lI (by omega)]
  rfl
theorem px_i {R1 : RS} {gx gy : Nat → Int32} {hot n z k : Nat} {f : Nat → Int64} (hr : hR R1.2.1 gx gy hot) (hz1 : R1.2.2 = hot) (hhot : hot ≤ 8192) (hk : k < z) (hz : z < 2 ^ 31) {x : Nat} (hx : x < hot) (hf : f k = lN x) : (px_x R1 (n, f, z) (nI k)).toInt = vx gx (f k) := by
  unfold px_x
  dsimp only
  obtain ⟨⟨g1, g2⟩, g3⟩ := hr x hx
  rw [rw_at_n hk hz, hf, lN_32 (by omega), hz1, rw_at_n hx (by omega), g3, k32_x g1 g2, Int32.toInt_toInt64, vx_lN (by omega)]
/-- the program's order along the segment -/
theorem op_spec {q : SQ} {R1 R3 : RS} {gx gy : Nat → Int32} {hot b : Nat} (hr : hR R1.2.1 gx gy hot) (hz1 : R1.2.2 = hot) (hhot : hot ≤ 8192) (hbz : b ≤ R3.2.2) (hz : R3.2.2 < 2 ^ 31) (hv : ∀ i, b ≤ i → i < R3.2.2 → ∃ x, x < hot ∧ R3.2.1 i = lN x) (hl : lx (vx gx) (vx gy) R3.2.1 b R3.2.2) :
    lx (fun v => if swx q < 0 then -vx gx v else vx gx v) (fun v => if swy q < 0 then -vx gy v else vx gy v) (op_all q R1 R3 b).2.1 b R3.2.2 ∧ sm R3.2.1 (op_all q R1 R3 b).2.1 b R3.2.2 ∧ (op_all q R1 R3 b).2.2 = R3.2.2 := by
  have ha : sm R3.2.1 (op_a q R3 b).2.1 b R3.2.2 ∧ lx (fun v => if swx q < 0 then -vx gx v else vx gx v) (fun v => if swx q < 0 then -vx gy v else vx gy v) (op_a q R3 b).2.1 b R3.2.2 ∧ (op_a q R3 b).2.2 = R3.2.2 := by
    unfold op_a
    by_cases c : swx q < 0
    · rw [if_pos c]
      refine ⟨turn_sm (Nat.le_refl _) (Nat.le_refl _), ?_, rfl⟩
      have := turn_lx hl
      simp only [if_pos c]
      exact this
    · rw [if_neg c]
      simp only [if_neg c]
      exact ⟨sm_refl _ _ _, hl, trivial⟩
  obtain ⟨a1, a2, a3⟩ := ha
  unfold op_all
  have tc : lx (fun v => if swx q < 0 then -vx gx v else vx gx v) (fun v => -(if swx q < 0 then -vx gy v else vx gy v)) (tc_all R1 (op_a q R3 b) b).2.1 b R3.2.2 ∧ sm R3.2.1 (tc_all R1 (op_a q R3 b) b).2.1 b R3.2.2 ∧ (tc_all R1 (op_a q R3 b) b).2.2 = R3.2.2 := by
    unfold tc_all
    dsimp only
    rw [a3]
    have hv2 : ∀ i, b ≤ i → i < R3.2.2 → ∃ x, x < hot ∧ (op_a q R3 b).2.1 i = lN x := fun i h1 h2 => by
      obtain ⟨i', x1, x2⟩ := (a1.1 _).mpr ⟨i, ⟨h1, h2⟩, rfl⟩
      rw [← x2]; exact hv i' x1.1 x1.2
    generalize op_a q R3 b = Q at *
    obtain ⟨r1, r2⟩ := tc_spec (R1 := R1) (n := Q.1) (z := R3.2.2) (b0 := b) (V := fun v => ∃ x, x < hot ∧ v = lN x) (A := fun v => if swx q < 0 then -vx gx v else vx gx v) (B := fun v => if swx q < 0 then -vx gy v else vx gy v) (fun f k b' h1 h2 ⟨x, x1, x2⟩ ⟨y, y1, y2⟩ => by
        have e1 := px_i (n := Q.1) hr hz1 hhot h1 hz x1 x2
        have e2 := px_i (n := Q.1) hr hz1 hhot h2 hz y1 y2
        constructor
        · intro h
          rw [h, e2] at e1
          rw [e1]
        · intro h
          apply Int64.toInt.inj
          rw [e1, e2]
          by_cases c : swx q < 0
          · rw [if_pos c, if_pos c] at h; omega
          · rw [if_neg c, if_neg c] at h; exact h) (R3.2.2 + 1) (b + 1) b Q.2.1 (by omega) (by omega) (by omega) (by omega) hbz (by omega) hv2 (fun i j h1 h2 h3 => by omega) a2 (fun i j h1 h2 => by omega) (fun i h1 h2 h3 => by rw [show i = b by omega])
    exact ⟨r1, sm_tr a1 r2, rfl⟩
  by_cases c : swx q < 0
  · by_cases d : swy q < 0
    · simp only [if_pos c, if_pos d]
      simp only [if_pos c] at a2
      exact ⟨a2, a1, a3⟩
    · simp only [if_pos c, if_neg d]
      rw [if_neg (by decide)]
      simp only [if_pos c, Int.neg_neg] at tc
      exact tc
  · by_cases d : swy q < 0
    · simp only [if_neg c, if_pos d]
      rw [if_neg (by decide)]
      simp only [if_neg c] at tc
      exact tc
    · simp only [if_neg c, if_neg d]
      simp only [if_neg c] at a2
      exact ⟨a2, a1, a3⟩
/-- ... and so by the keys along the segment -/
theorem lx_pk {q : SQ} {gx gy : Nat → Int32} {hot b z : Nat} {f : Nat → Int64} (hb : bnd q) (hhot : hot ≤ 8192) (h5 : ∀ i, i < hot → in5 (gx i) ∧ in5 (gy i)) (hv : ∀ i, b ≤ i → i < z → ∃ x, x < hot ∧ mi_in q (gx x) (gy x) ∧ f i = lN x)
    (hl : lx (fun v => if swx q < 0 then -vx gx v else vx gx v) (fun v => if swy q < 0 then -vx gy v else vx gy v) f b z) : ∀ i j, b ≤ i → i < j → j < z → pk q (gx (f i).toInt.toNat) (gy (f i).toInt.toNat) < pk q (gx (f j).toInt.toNat) (gy (f j).toInt.toNat) := by
  intro i j h1 h2 h3
  obtain ⟨x, x1, x2, x3⟩ := hv i h1 (by omega)
  obtain ⟨y, y1, y2, y3⟩ := hv j (by omega) h3
  have hlt := hl i j h1 h2 h3
  rw [x3, y3, pf_lI (by omega), pf_lI (by omega), Int.toNat_natCast, Int.toNat_natCast]
  dsimp only at hlt
  rw [x3, y3, vx_lN (by omega), vx_lN (by omega), vx_lN (by omega), vx_lN (by omega)] at hlt
  apply pkl_lt hb (h5 x x1).1 (h5 x x1).2 x2
  have gk1 := ((mi_in_k hb (h5 x x1).1 (h5 x x1).2).mp x2)
  have gk2 := ((mi_in_k hb (h5 y y1).1 (h5 y y1).2).mp y2)
  have g1 := gk1.1
  have g2 := gk1.2.1
  have g3 := gk2.1
  have g4 := gk2.2.1
  clear gk1 gk2
  unfold gok qx at g1 g3
  unfold gok qy at g2 g4
  unfold gX qx qy
  have c1 : swx q < 0 ↔ (swx q).toInt < 0 := i64_lt0
  have c2 : swy q < 0 ↔ (swy q).toInt < 0 := i64_lt0
  simp only [c1, c2] at hlt
  generalize (swx q).toInt = w at *
  generalize (swy q).toInt = v at *
  rcases Int.lt_trichotomy w 0 with cw | cw | cw
  · rw [if_pos cw, if_pos cw] at hlt
    rw [if_pos (show w ≤ 0 by omega), if_pos (show w ≤ 0 by omega)]
    rcases Int.lt_trichotomy v 0 with cv | cv | cv
    · rw [if_pos cv, if_pos cv] at hlt
      rw [if_pos (show v ≤ 0 by omega), if_pos (show v ≤ 0 by omega)]
      omega
    · rw [if_neg (show ¬ v < 0 by omega), if_neg (show ¬ v < 0 by omega)] at hlt
      rw [if_pos (show v ≤ 0 by omega), if_pos (show v ≤ 0 by omega)]
      have := g2 cv
      have := g4 cv
      omega
    · rw [if_neg (show ¬ v < 0 by omega), if_neg (show ¬ v < 0 by omega)] at hlt
      rw [if_neg (show ¬ v ≤ 0 by omega), if_neg (show ¬ v ≤ 0 by omega)]
      omega
  · rw [if_neg (show ¬ w < 0 by omega), if_neg (show ¬ w < 0 by omega)] at hlt
    rw [if_pos (show w ≤ 0 by omega), if_pos (show w ≤ 0 by omega)]
    have := g1 cw
    have := g3 cw
    rcases Int.lt_trichotomy v 0 with cv | cv | cv
    · rw [if_pos cv, if_pos cv] at hlt
      rw [if_pos (show v ≤ 0 by omega), if_pos (show v ≤ 0 by omega)]
      omega
    · rw [if_neg (show ¬ v < 0 by omega), if_neg (show ¬ v < 0 by omega)] at hlt
      have := g2 cv
      have := g4 cv
      omega
    · rw [if_neg (show ¬ v < 0 by omega), if_neg (show ¬ v < 0 by omega)] at hlt
      rw [if_neg (show ¬ v ≤ 0 by omega), if_neg (show ¬ v ≤ 0 by omega)]
      omega
  · rw [if_neg (show ¬ w < 0 by omega), if_neg (show ¬ w < 0 by omega)] at hlt
    rw [if_neg (show ¬ w ≤ 0 by omega), if_neg (show ¬ w ≤ 0 by omega)]
    rcases Int.lt_trichotomy v 0 with cv | cv | cv
    · rw [if_pos cv, if_pos cv] at hlt
      rw [if_pos (show v ≤ 0 by omega), if_pos (show v ≤ 0 by omega)]
      omega
    · rw [if_neg (show ¬ v < 0 by omega), if_neg (show ¬ v < 0 by omega)] at hlt
      rw [if_pos (show v ≤ 0 by omega), if_pos (show v ≤ 0 by omega)]
      have := g2 cv
      have := g4 cv
      omega
    · rw [if_neg (show ¬ v < 0 by omega), if_neg (show ¬ v < 0 by omega)] at hlt
      rw [if_neg (show ¬ v ≤ 0 by omega), if_neg (show ¬ v ≤ 0 by omega)]
      omega
