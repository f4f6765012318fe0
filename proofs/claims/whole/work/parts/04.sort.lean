/-! Pure rows: a heap sort of a row of longs, by counts and order -/
/-- how often v stands among the first n -/
def ps_cnt (f : Nat → Int64) (v : Int64) : Nat → Nat
  | 0 => 0
  | n + 1 => ps_cnt f v n + (if f n = v then 1 else 0)
theorem ps_cnt_succ (f : Nat → Int64) (v : Int64) (n : Nat) : ps_cnt f v (n + 1) = ps_cnt f v n + (if f n = v then 1 else 0) := rfl
theorem ps_cnt_out {f : Nat → Int64} {v x : Int64} {i : Nat} (n : Nat) (h : n ≤ i) : ps_cnt (vp_updL f i x) v n = ps_cnt f v n := by
  induction n with
  | zero => rfl
  | succ n ih =>
    have e : vp_updL f i x n = f n := pk_uLn (by omega)
    simp only [ps_cnt, e, ih (by omega)]
theorem ps_cnt_upd {f : Nat → Int64} {v x : Int64} {i : Nat} (n : Nat) (h : i < n) : ps_cnt (vp_updL f i x) v n + (if f i = v then 1 else 0) = ps_cnt f v n + (if x = v then 1 else 0) := by
  induction n with
  | zero => exact absurd h (Nat.not_lt_zero _)
  | succ n ih =>
    by_cases e : i = n
    · subst e
      have e1 : vp_updL f i x i = x := pk_uLs
      simp only [ps_cnt, e1, ps_cnt_out i (Nat.le_refl _)]
      omega
    · have e1 : vp_updL f i x n = f n := pk_uLn (fun z => e z.symm)
      have := ih (by omega)
      simp only [ps_cnt, e1]
      omega
theorem ps_cnt_congr {f g : Nat → Int64} {v : Int64} (n : Nat) (h : ∀ i, i < n → f i = g i) : ps_cnt f v n = ps_cnt g v n := by
  induction n with
  | zero => rfl
  | succ n ih => simp only [ps_cnt, ih (fun i hi => h i (by omega)), h n (by omega)]
theorem ps_cnt_pos {f : Nat → Int64} {v : Int64} (n : Nat) : 0 < ps_cnt f v n ↔ ∃ i, i < n ∧ f i = v := by
  induction n with
  | zero => simp [ps_cnt]
  | succ n ih =>
    simp only [ps_cnt]
    constructor
    · intro h
      by_cases e : f n = v
      · exact ⟨n, by omega, e⟩
      · rw [if_neg e] at h
        obtain ⟨i, h1, h2⟩ := ih.mp (by omega)
        exact ⟨i, by omega, h2⟩
    · rintro ⟨i, h1, h2⟩
      by_cases e : i = n
      · subst e
        rw [if_pos h2]; omega
      · have := ih.mpr ⟨i, by omega, h2⟩
        omega
/-- the sinking of x from the hole h, among the first e -/
def ps_sink (x : Int64) (e : Nat) : Nat → (Nat → Int64) → Nat → (Nat → Int64)
  | 0, f, h => vp_updL f h x
  | n + 1, f, h =>
    if 2 * h + 1 < e then
      if f (if 2 * h + 2 < e ∧ f (2 * h + 1) < f (2 * h + 2) then 2 * h + 2 else 2 * h + 1) ≤ x then vp_updL f h x
      else ps_sink x e n (vp_updL f h (f (if 2 * h + 2 < e ∧ f (2 * h + 1) < f (2 * h + 2) then 2 * h + 2 else 2 * h + 1))) (if 2 * h + 2 < e ∧ f (2 * h + 1) < f (2 * h + 2) then 2 * h + 2 else 2 * h + 1)
    else vp_updL f h x
/-- order from r on among the first e: no child above its parent -/
def ps_hp (f : Nat → Int64) (r e : Nat) : Prop := ∀ k c, r ≤ k → c < e → (c = 2 * k + 1 ∨ c = 2 * k + 2) → (f c).toInt ≤ (f k).toInt
/-- the same but at the hole h, where x is to go -/
def ps_hh (f : Nat → Int64) (r e h : Nat) (x : Int64) : Prop :=
  (∀ k c, r ≤ k → c < e → k ≠ h → c ≠ h → (c = 2 * k + 1 ∨ c = 2 * k + 2) → (f c).toInt ≤ (f k).toInt) ∧
  (∀ k, r ≤ k → (h = 2 * k + 1 ∨ h = 2 * k + 2) → x.toInt ≤ (f k).toInt ∧ ∀ c, c < e → (c = 2 * h + 1 ∨ c = 2 * h + 2) → (f c).toInt ≤ (f k).toInt)
theorem ps_sink_spec (x : Int64) (r e : Nat) : ∀ (n : Nat) (f : Nat → Int64) (h : Nat), e ≤ h + n → r ≤ h → h < e → ps_hh f r e h x →
    ps_hp (ps_sink x e n f h) r e ∧ (∀ v, ps_cnt (ps_sink x e n f h) v e = ps_cnt (vp_updL f h x) v e) ∧ ∀ i, e ≤ i ∨ i < h → ps_sink x e n f h i = f i := by
  intro n
  induction n with
  | zero => intro f h h1 h2 h3; omega
  | succ n ih =>
    intro f h hn hr he hh
    have base : (∀ c, c < e → (c = 2 * h + 1 ∨ c = 2 * h + 2) → (f c).toInt ≤ x.toInt) → ps_hp (vp_updL f h x) r e ∧ (∀ v, ps_cnt (vp_updL f h x) v e = ps_cnt (vp_updL f h x) v e) ∧ ∀ i, e ≤ i ∨ i < h → vp_updL f h x i = f i := by
      intro hc
      refine ⟨?_, fun _ => rfl, fun i hi => pk_uLn (by omega)⟩
      intro k c hk hce hkc
      by_cases e1 : k = h
      · subst e1
        rw [pk_uLs, pk_uLn (show c ≠ k by omega)]
        exact hc c hce hkc
      · rw [pk_uLn e1]
        by_cases e2 : c = h
        · subst e2
          rw [pk_uLs]
          exact (hh.2 k hk hkc).1
        · rw [pk_uLn e2]
          exact hh.1 k c hk hce e1 e2 hkc
    unfold ps_sink
    by_cases h1 : 2 * h + 1 < e
    · rw [if_pos h1]
      generalize hc : (if 2 * h + 2 < e ∧ f (2 * h + 1) < f (2 * h + 2) then 2 * h + 2 else 2 * h + 1) = c
      have hcb : c < e ∧ (c = 2 * h + 1 ∨ c = 2 * h + 2) ∧ ∀ c', c' < e → (c' = 2 * h + 1 ∨ c' = 2 * h + 2) → (f c').toInt ≤ (f c).toInt := by
        by_cases q : 2 * h + 2 < e ∧ f (2 * h + 1) < f (2 * h + 2)
        · rw [if_pos q] at hc
          have q2 := Int64.lt_iff_toInt_lt.mp q.2
          subst hc
          refine ⟨q.1, Or.inr rfl, ?_⟩
          rintro c' h3 (rfl | rfl) <;> omega
        · rw [if_neg q] at hc
          subst hc
          refine ⟨h1, Or.inl rfl, ?_⟩
          rintro c' h3 (rfl | rfl)
          · omega
          · have : ¬ f (2 * h + 1) < f (2 * h + 2) := fun z => q ⟨h3, z⟩
            rw [Int64.lt_iff_toInt_lt] at this
            omega
      obtain ⟨c1, c2, c3⟩ := hcb
      by_cases h2 : f c ≤ x
      · rw [if_pos h2]
        have h2' := Int64.le_iff_toInt_le.mp h2
        refine base fun c' h3 h4 => ?_
        have := c3 c' h3 h4
        omega
      · rw [if_neg h2]
        rw [Int64.le_iff_toInt_le] at h2
        have hh' : ps_hh (vp_updL f h (f c)) r e c x := by
          constructor
          · intro k c' hk hce e1 e2 hkc
            by_cases e3 : k = h
            · subst e3
              rw [pk_uLs, pk_uLn (show c' ≠ k by omega)]
              exact c3 c' hce hkc
            · rw [pk_uLn e3]
              by_cases e4 : c' = h
              · subst e4
                rw [pk_uLs]
                exact (hh.2 k hk hkc).2 c c1 c2
              · rw [pk_uLn e4]
                exact hh.1 k c' hk hce e3 e4 hkc
          · intro k hk hkc
            have e3 : k = h := by omega
            subst e3
            rw [pk_uLs]
            refine ⟨by omega, fun c' h3 h4 => ?_⟩
            rw [pk_uLn (show c' ≠ k by omega)]
            exact hh.1 c c' (by omega) h3 (by omega) (by omega) h4
        obtain ⟨a1, a2, a3⟩ := ih (vp_updL f h (f c)) c (by omega) (by omega) c1 hh'
        refine ⟨a1, fun v => ?_, fun i hi => ?_⟩
        · rw [a2 v]
          have b1 := ps_cnt_upd (f := f) (v := v) (x := x) (i := h) e he
          have b2 := ps_cnt_upd (f := f) (v := v) (x := f c) (i := h) e he
          have b3 := ps_cnt_upd (f := vp_updL f h (f c)) (v := v) (x := x) (i := c) e c1
          rw [pk_uLn (show c ≠ h by omega)] at b3
          omega
        · rw [a3 i (by omega)]
          exact pk_uLn (by omega)
    · rw [if_neg h1]
      exact base fun c h3 h4 => by omega
/-- the roots below r, from the last to the first -/
def ps_heap (n : Nat) : Nat → (Nat → Int64) → (Nat → Int64)
  | 0, f => f
  | r + 1, f => ps_heap n r (ps_sink (f r) n n f r)
theorem ps_upd_self {f : Nat → Int64} {i : Nat} : vp_updL f i (f i) = f := by
  funext j
  by_cases e : j = i
  · subst e; exact pk_uLs
  · exact pk_uLn e
theorem ps_heap_spec (n : Nat) : ∀ (r : Nat) (f : Nat → Int64), r ≤ n → ps_hp f r n → ps_hp (ps_heap n r f) 0 n ∧ (∀ v, ps_cnt (ps_heap n r f) v n = ps_cnt f v n) ∧ ∀ i, n ≤ i → ps_heap n r f i = f i := by
  intro r
  induction r with
  | zero => intro f _ h; exact ⟨h, fun _ => rfl, fun _ _ => rfl⟩
  | succ r ih =>
    intro f hr hp
    have hh : ps_hh f r n r (f r) := by
      constructor
      · intro k c hk hc e1 e2 hkc
        exact hp k c (by omega) hc hkc
      · intro k hk hkc
        omega
    obtain ⟨a1, a2, a3⟩ := ps_sink_spec (f r) r n n f r (by omega) (Nat.le_refl _) (by omega) hh
    obtain ⟨b1, b2, b3⟩ := ih (ps_sink (f r) n n f r) (by omega) a1
    refine ⟨b1, fun v => ?_, fun i hi => ?_⟩
    · show ps_cnt (ps_heap n r _) v n = _
      rw [b2, a2, ps_upd_self]
    · show ps_heap n r _ i = _
      rw [b3 i hi, a3 i (by omega)]
/-- the greatest goes to the end, e times -/
def ps_drain : Nat → (Nat → Int64) → (Nat → Int64)
  | 0, f => f
  | e + 1, f => ps_drain e (ps_sink (f (e + 1)) (e + 1) (e + 1) (vp_updL f (e + 1) (f 0)) 0)
theorem ps_top {f : Nat → Int64} {e : Nat} (h : ps_hp f 0 e) : ∀ i, i < e → (f i).toInt ≤ (f 0).toInt := by
  intro i
  induction i using Nat.strongRecOn with
  | ind i ih =>
    intro hi
    by_cases e0 : i = 0
    · subst e0; omega
    · have h1 := h ((i - 1) / 2) i (Nat.zero_le _) hi (by omega)
      have h2 := ih ((i - 1) / 2) (by omega) (by omega)
      omega
def ps_sorted (f : Nat → Int64) (n : Nat) : Prop := ∀ i j, i ≤ j → j < n → (f i).toInt ≤ (f j).toInt
theorem ps_drain_spec (n : Nat) : ∀ (e : Nat) (f : Nat → Int64), e < n → ps_hp f 0 (e + 1) → (∀ i j, e < j → i ≤ j → j < n → (f i).toInt ≤ (f j).toInt) →
    ps_sorted (ps_drain e f) n ∧ (∀ v, ps_cnt (ps_drain e f) v n = ps_cnt f v n) ∧ ∀ i, n ≤ i → ps_drain e f i = f i := by
  intro e
  induction e with
  | zero =>
    intro f he hp hs
    refine ⟨fun i j hij hj => ?_, fun _ => rfl, fun _ _ => rfl⟩
    show (f i).toInt ≤ (f j).toInt
    by_cases e0 : j = 0
    · have : i = 0 := by omega
      rw [e0, this]; omega
    · exact hs i j (by omega) hij hj
  | succ e ih =>
    intro f he hp hs
    have htop := ps_top hp
    generalize hg : vp_updL f (e + 1) (f 0) = g
    have ge : g (e + 1) = f 0 := by rw [← hg]; exact pk_uLs
    have gn : ∀ i, i ≠ e + 1 → g i = f i := fun i hi => by rw [← hg]; exact pk_uLn hi
    have hh : ps_hh g 0 (e + 1) 0 (f (e + 1)) := by
      constructor
      · intro k c hk hc e1 e2 hkc
        rw [gn c (by omega), gn k (by omega)]
        exact hp k c hk (by omega) hkc
      · intro k hk hkc
        omega
    obtain ⟨a1, a2, a3⟩ := ps_sink_spec (f (e + 1)) 0 (e + 1) (e + 1) g 0 (by omega) (Nat.le_refl _) (by omega) hh
    -- all of the sunk ones are below f 0
    have hbelow : ∀ i, i ≤ e → (ps_sink (f (e + 1)) (e + 1) (e + 1) g 0 i).toInt ≤ (f 0).toInt := by
      intro i hi
      have h1 : 0 < ps_cnt (ps_sink (f (e + 1)) (e + 1) (e + 1) g 0) (ps_sink (f (e + 1)) (e + 1) (e + 1) g 0 i) (e + 1) := (ps_cnt_pos _).mpr ⟨i, by omega, rfl⟩
      rw [a2] at h1
      obtain ⟨j, hj, ej⟩ := (ps_cnt_pos _).mp h1
      rw [← ej]
      by_cases e0 : j = 0
      · subst e0
        rw [pk_uLs]
        exact htop (e + 1) (by omega)
      · rw [pk_uLn e0, gn j (by omega)]
        exact htop j (by omega)
    obtain ⟨b1, b2, b3⟩ := ih (ps_sink (f (e + 1)) (e + 1) (e + 1) g 0) (by omega) a1 (by
      intro i j h1 h2 h3
      rw [a3 j (by omega)]
      by_cases e1 : j = e + 1
      · subst e1
        rw [ge]
        by_cases e2 : i = e + 1
        · rw [e2, a3 (e + 1) (by omega), ge]; omega
        · exact hbelow i (by omega)
      · rw [gn j e1]
        by_cases e2 : i ≤ e
        · have q1 := hbelow i e2
          have q2 := hs 0 j (by omega) (by omega) h3
          omega
        · rw [a3 i (by omega)]
          by_cases e3 : i = e + 1
          · rw [e3, ge]
            exact hs 0 j (by omega) (by omega) h3
          · rw [gn i e3]
            exact hs i j (by omega) h2 h3)
    refine ⟨?_, fun v => ?_, fun i hi => ?_⟩
    · show ps_sorted (ps_drain e (ps_sink (f (e + 1)) (e + 1) (e + 1) (vp_updL f (e + 1) (f 0)) 0)) n
      rw [hg]; exact b1
    · show ps_cnt (ps_drain e (ps_sink (f (e + 1)) (e + 1) (e + 1) (vp_updL f (e + 1) (f 0)) 0)) v n = _
      rw [hg, b2]
      -- counts over n from those over e + 1
      have k1 : ∀ m, e + 1 ≤ m → ps_cnt (ps_sink (f (e + 1)) (e + 1) (e + 1) g 0) v m + ps_cnt (vp_updL g 0 (f (e + 1))) v (e + 1) = ps_cnt (vp_updL g 0 (f (e + 1))) v m + ps_cnt (ps_sink (f (e + 1)) (e + 1) (e + 1) g 0) v (e + 1) := by
        intro m hm
        induction m with
        | zero => omega
        | succ m ih2 =>
          by_cases q : m + 1 = e + 1
          · rw [q]; omega
          · have e5 : ps_sink (f (e + 1)) (e + 1) (e + 1) g 0 m = vp_updL g 0 (f (e + 1)) m := by
              rw [a3 m (by omega), pk_uLn (show m ≠ 0 by omega)]
            have := ih2 (by omega)
            rw [ps_cnt_succ _ v m, ps_cnt_succ _ v m, e5]
            omega
      have k2 := k1 n (by omega)
      rw [a2 v] at k2
      have k3 := ps_cnt_upd (f := g) (v := v) (x := f (e + 1)) (i := 0) n (by omega)
      have k4 := ps_cnt_upd (f := f) (v := v) (x := f 0) (i := e + 1) n (by omega)
      rw [hg] at k4
      rw [gn 0 (by omega)] at k3
      omega
    · show ps_drain e (ps_sink (f (e + 1)) (e + 1) (e + 1) (vp_updL f (e + 1) (f 0)) 0) i = _
      rw [hg, b3 i hi, a3 i (by omega), gn i (by omega)]
/-- the whole sort -/
def ps_sort (n : Nat) (f : Nat → Int64) : Nat → Int64 := ps_drain (n - 1) (ps_heap n (n / 2) f)
theorem ps_sort_spec (n : Nat) (f : Nat → Int64) : ps_sorted (ps_sort n f) n ∧ (∀ v, ps_cnt (ps_sort n f) v n = ps_cnt f v n) ∧ ∀ i, n ≤ i → ps_sort n f i = f i := by
  by_cases h0 : n = 0
  · subst h0
    exact ⟨fun i j _ h => absurd h (Nat.not_lt_zero _), fun _ => rfl, fun _ _ => rfl⟩
  · obtain ⟨a1, a2, a3⟩ := ps_heap_spec n (n / 2) f (by omega) (fun k c h1 h2 h3 => by omega)
    have e1 : n - 1 + 1 = n := by omega
    obtain ⟨b1, b2, b3⟩ := ps_drain_spec n (n - 1) (ps_heap n (n / 2) f) (by omega) (by rw [e1]; exact a1) (fun i j h1 h2 h3 => by omega)
    exact ⟨b1, fun v => (b2 v).trans (a2 v), fun i hi => (b3 i hi).trans (a3 i hi)⟩
