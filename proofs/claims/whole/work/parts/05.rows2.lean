/-! Pure rows: each number once; how often each; the first that is not below; turning round -/
/-- each number of a sorted row once, as the row's loop does it: what stands after k steps, and how many are kept -/
def ps_kd (f : Nat → Int64) : Nat → (Nat → Int64) × Nat
  | 0 => (f, 0)
  | k + 1 => if (ps_kd f k).2 = 0 ∨ (ps_kd f k).1 k ≠ (ps_kd f k).1 ((ps_kd f k).2 - 1) then (vp_updL (ps_kd f k).1 (ps_kd f k).2 ((ps_kd f k).1 k), (ps_kd f k).2 + 1) else ps_kd f k
theorem ps_kd_spec {f : Nat → Int64} {n : Nat} (hs : ps_sorted f n) : ∀ k, k ≤ n →
    (ps_kd f k).2 ≤ k ∧ (0 < k → 0 < (ps_kd f k).2) ∧ (∀ i, k ≤ i → (ps_kd f k).1 i = f i) ∧ (∀ i j, i < j → j < (ps_kd f k).2 → ((ps_kd f k).1 i).toInt < ((ps_kd f k).1 j).toInt) ∧
    (∀ v, (∃ i, i < (ps_kd f k).2 ∧ (ps_kd f k).1 i = v) ↔ ∃ i, i < k ∧ f i = v) ∧ (0 < k → (ps_kd f k).1 ((ps_kd f k).2 - 1) = f (k - 1)) := by
  intro k
  induction k with
  | zero =>
    intro _
    exact ⟨Nat.le_refl _, fun h => h, fun _ _ => rfl, fun i j h1 h2 => absurd h2 (Nat.not_lt_zero _), fun v => ⟨fun ⟨i, h, _⟩ => absurd h (Nat.not_lt_zero _), fun ⟨i, h, _⟩ => absurd h (Nat.not_lt_zero _)⟩, fun h => absurd h (Nat.lt_irrefl _)⟩
  | succ k ih =>
    intro hk
    obtain ⟨a1, a2, a3, a4, a5, a6⟩ := ih (by omega)
    unfold ps_kd
    generalize ps_kd f k = gc at a1 a2 a3 a4 a5 a6 ⊢
    obtain ⟨g, c⟩ := gc
    dsimp only at a1 a2 a3 a4 a5 a6 ⊢
    by_cases q : c = 0 ∨ g k ≠ g (c - 1)
    · rw [if_pos q]
      have gk : g k = f k := a3 k (Nat.le_refl _)
      have hlt : ∀ i, i < c → (g i).toInt < (f k).toInt := by
        intro i hi
        have h0 : c ≠ 0 := by omega
        have hk0 : 0 < k := by omega
        rcases q with q | q
        · omega
        · rw [gk, a6 hk0] at q
          have h1 := hs (k - 1) k (by omega) (by omega)
          have h2 : (f (k - 1)).toInt ≠ (f k).toInt := fun z => q (Int64.toInt.inj z).symm
          have h3 : (g i).toInt ≤ (g (c - 1)).toInt := by
            by_cases e : i = c - 1
            · rw [e]; omega
            · have := a4 i (c - 1) (by omega) (by omega); omega
          rw [a6 hk0] at h3
          omega
      refine ⟨by omega, fun _ => by omega, fun i hi => ?_, fun i j h1 h2 => ?_, fun v => ⟨?_, ?_⟩, fun _ => ?_⟩
      · show vp_updL g c (g k) i = f i
        rw [pk_uLn (by omega)]
        exact a3 i (by omega)
      · show (vp_updL g c (g k) i).toInt < (vp_updL g c (g k) j).toInt
        have h2 : j < c + 1 := h2
        rw [pk_uLn (show i ≠ c by omega)]
        by_cases e : j = c
        · rw [e, pk_uLs, gk]
          exact hlt i (by omega)
        · rw [pk_uLn e]
          exact a4 i j h1 (by omega)
      · rintro ⟨i, h1, h2⟩
        have h1 : i < c + 1 := h1
        have h2 : vp_updL g c (g k) i = v := h2
        by_cases e : i = c
        · rw [e, pk_uLs, gk] at h2
          exact ⟨k, by omega, h2⟩
        · rw [pk_uLn e] at h2
          obtain ⟨j, h3, h4⟩ := (a5 v).mp ⟨i, by omega, h2⟩
          exact ⟨j, by omega, h4⟩
      · rintro ⟨i, h1, h2⟩
        by_cases e : i = k
        · refine ⟨c, Nat.lt_succ_self c, ?_⟩
          show vp_updL g c (g k) c = v
          rw [pk_uLs, gk, ← e, h2]
        · obtain ⟨j, h3, h4⟩ := (a5 v).mpr ⟨i, by omega, h2⟩
          refine ⟨j, Nat.lt_succ_of_lt h3, ?_⟩
          show vp_updL g c (g k) j = v
          rw [pk_uLn (by omega), h4]
      · show vp_updL g c (g k) (c + 1 - 1) = f (k + 1 - 1)
        rw [Nat.add_sub_cancel, Nat.add_sub_cancel, pk_uLs, gk]
    · rw [if_neg q]
      have h0 : c ≠ 0 := fun z => q (Or.inl z)
      have hk0 : 0 < k := by omega
      have he : g k = g (c - 1) := Classical.not_not.mp (fun z => q (Or.inr z))
      have gk : g k = f k := a3 k (Nat.le_refl _)
      refine ⟨by omega, fun _ => by omega, fun i hi => a3 i (by omega), a4, fun v => ⟨?_, ?_⟩, fun _ => ?_⟩
      · intro h
        obtain ⟨j, h3, h4⟩ := (a5 v).mp h
        exact ⟨j, by omega, h4⟩
      · rintro ⟨i, h1, h2⟩
        by_cases e : i = k
        · refine ⟨c - 1, by omega, ?_⟩
          show g (c - 1) = v
          rw [← he, gk, ← e, h2]
        · exact (a5 v).mpr ⟨i, by omega, h2⟩
      · show g (c - 1) = f (k + 1 - 1)
        rw [Nat.add_sub_cancel, ← he, gk]
/-- how often each stands: after the step k (from 1 on): what is told, how many, where the last run begins -/
def ps_ce (f : Nat → Int64) (n : Nat) : Nat → (Nat → Int64) × Nat × Nat
  | 0 => (fun _ => 0, 0, 0)
  | k + 1 => if k + 1 = n ∨ f (k + 1) ≠ f (ps_ce f n k).2.2 then (vp_updL (ps_ce f n k).1 (ps_ce f n k).2.1 (lN (k + 1 - (ps_ce f n k).2.2)), (ps_ce f n k).2.1 + 1, k + 1) else ps_ce f n k
/-- binary search's answer -/
def ps_ff (f : Nat → Int64) (x : Int64) : Nat → Nat → Nat → Nat
  | 0, lo, _ => lo
  | n + 1, lo, hi => if lo < hi then (if f ((lo + hi) / 2) < x then ps_ff f x n ((lo + hi) / 2 + 1) hi else ps_ff f x n lo ((lo + hi) / 2)) else lo
theorem ps_ff_spec {f : Nat → Int64} {x : Int64} {sz : Nat} (hs : ps_sorted f sz) : ∀ (n lo hi : Nat), hi ≤ lo + n → lo ≤ hi → hi ≤ sz → (∀ i, i < lo → (f i).toInt < x.toInt) → (∀ i, hi ≤ i → i < sz → x.toInt ≤ (f i).toInt) →
    lo ≤ ps_ff f x n lo hi ∧ ps_ff f x n lo hi ≤ hi ∧ (∀ i, i < ps_ff f x n lo hi → (f i).toInt < x.toInt) ∧ (∀ i, ps_ff f x n lo hi ≤ i → i < sz → x.toInt ≤ (f i).toInt) := by
  intro n
  induction n with
  | zero =>
    intro lo hi h1 h2 h3 h4 h5
    have : hi = lo := by omega
    subst this
    exact ⟨Nat.le_refl _, Nat.le_refl _, h4, h5⟩
  | succ n ih =>
    intro lo hi h1 h2 h3 h4 h5
    unfold ps_ff
    by_cases q : lo < hi
    · rw [if_pos q]
      by_cases q2 : f ((lo + hi) / 2) < x
      · rw [if_pos q2]
        rw [Int64.lt_iff_toInt_lt] at q2
        obtain ⟨b1, b2, b3, b4⟩ := ih ((lo + hi) / 2 + 1) hi (by omega) (by omega) h3 (fun i hi2 => by
          have := hs i ((lo + hi) / 2) (by omega) (by omega); omega) h5
        exact ⟨by omega, b2, b3, b4⟩
      · rw [if_neg q2]
        rw [Int64.lt_iff_toInt_lt] at q2
        obtain ⟨b1, b2, b3, b4⟩ := ih lo ((lo + hi) / 2) (by omega) (by omega) (by omega) h4 (fun i h6 h7 => by
          have := hs ((lo + hi) / 2) i h6 h7; omega)
        exact ⟨b1, by omega, b3, b4⟩
    · rw [if_neg q]
      have : hi = lo := by omega
      subst this
      exact ⟨Nat.le_refl _, Nat.le_refl _, h4, h5⟩
/-- the places a .. e - 1 turned round -/
def ps_turn (f : Nat → Int64) (a e : Nat) : Nat → Int64 := fun j => if a ≤ j ∧ j < e then f (a + e - 1 - j) else f j
theorem ps_turn_step {f : Nat → Int64} {a e : Nat} (h : a + 1 < e) : ps_turn (vp_updL (vp_updL f a (f (e - 1))) (e - 1) (f a)) (a + 1) (e - 1) = ps_turn f a e := by
  funext j
  unfold ps_turn
  by_cases q1 : j = a
  · subst q1
    rw [if_neg (by omega), if_pos (by omega), pk_uLn (by omega), pk_uLs]
    congr 1; omega
  · by_cases q2 : j = e - 1
    · subst q2
      rw [if_neg (by omega), if_pos (by omega), pk_uLs]
      congr 1; omega
    · by_cases q3 : a ≤ j ∧ j < e
      · rw [if_pos q3, if_pos (by omega), pk_uLn (by omega), pk_uLn (by omega)]
        congr 1; omega
      · rw [if_neg q3, if_neg (by omega), pk_uLn q2, pk_uLn q1]
theorem ps_turn_end {f : Nat → Int64} {a e : Nat} (h : e ≤ a + 1) : ps_turn f a e = f := by
  funext j
  unfold ps_turn
  by_cases q : a ≤ j ∧ j < e
  · rw [if_pos q]; congr 1; omega
  · rw [if_neg q]
