/-! Pure rows: sorted rows with the same numbers are the same -/
theorem so_le {f g : Nat → Int} {n m : Nat} (hf : ∀ i j, i < j → j < n → f i < f j) (hg : ∀ i j, i < j → j < m → g i < g j) (h : ∀ i, i < n → ∃ j, j < m ∧ g j = f i) : ∀ i, i < n → i < m ∧ g i ≤ f i := by
  have key : ∀ i, i < n → ∃ j, i ≤ j ∧ j < m ∧ g j = f i := by
    intro i
    induction i with
    | zero =>
      intro hi
      obtain ⟨j, h1, h2⟩ := h 0 hi
      exact ⟨j, Nat.zero_le _, h1, h2⟩
    | succ i ih =>
      intro hi
      obtain ⟨j, h1, h2, h3⟩ := ih (by omega)
      obtain ⟨j', g1, g2⟩ := h (i + 1) hi
      have h4 := hf i (i + 1) (by omega) hi
      refine ⟨j', ?_, g1, g2⟩
      by_cases c : j' ≤ j
      · exfalso
        by_cases e : j' = j
        · rw [e] at g2; omega
        · have := hg j' j (by omega) h2
          omega
      · omega
  intro i hi
  obtain ⟨j, h1, h2, h3⟩ := key i hi
  refine ⟨by omega, ?_⟩
  by_cases e : i = j
  · rw [e, h3]; exact Int.le_of_eq (by rw [e])
  · have := hg i j (by omega) h2
    omega
theorem so_n {f g : Nat → Int} {n m : Nat} (hf : ∀ i j, i < j → j < n → f i < f j) (hg : ∀ i j, i < j → j < m → g i < g j) (h : ∀ i, i < n → ∃ j, j < m ∧ g j = f i) : n ≤ m := by
  by_cases e : n = 0
  · omega
  · have := (so_le hf hg h (n - 1) (by omega)).1
    omega
theorem so_eq {f g : Nat → Int} {n m : Nat} (hf : ∀ i j, i < j → j < n → f i < f j) (hg : ∀ i j, i < j → j < m → g i < g j) (h : ∀ i, i < n → ∃ j, j < m ∧ g j = f i) (h' : ∀ j, j < m → ∃ i, i < n ∧ f i = g j) : n = m ∧ ∀ i, i < n → f i = g i := by
  have e : n = m := Nat.le_antisymm (so_n hf hg h) (so_n hg hf h')
  refine ⟨e, fun i hi => ?_⟩
  have h1 := (so_le hf hg h i hi).2
  have h2 := (so_le hg hf h' i (by omega)).2
  omega
theorem gr_test (a b c d x y u v : Int) : (c - a) * ((y + v) - y) = (c - a) * v := by grind
theorem gr_test2 (wx wy ox oy qx qy vx vy : Int) : wx * ((oy + vy) - qy) - wy * ((ox + vx) - qx) = (wx * (oy - qy) - wy * (ox - qx)) + (wx * vy - wy * vx) := by grind
