/-! Pure rows: the reference's hot pixels as a set; both find the same -/
def in5 (x : Int32) : Prop := x.toInt.natAbs ≤ 500000000
def hk (s : HT) (i : Nat) : Int := kz (s.1 i).toInt (s.2.1 i).toInt
/-- in reach, and each before the next -/
def hw (s : HT) : Prop := (∀ i, i < s.2.2 → in5 (s.1 i) ∧ in5 (s.2.1 i)) ∧ ∀ i j, i < j → j < s.2.2 → hk s i < hk s j
def hm (s : HT) (v : Int) : Prop := ∃ i, i < s.2.2 ∧ hk s i = v
theorem i32_eq {a b : Int32} : a = b ↔ a.toInt = b.toInt := ⟨fun h => by rw [h], fun h => Int32.toInt.inj h⟩
theorem hb_i {a b x y : Int32} (hb : in5 b) (hy : in5 y) : hb_lt a b x y ↔ kz a.toInt b.toInt < kz x.toInt y.toInt := by
  unfold hb_lt
  rw [kz_lt hb hy, Int32.lt_iff_toInt_lt, Int32.lt_iff_toInt_lt, i32_eq]
theorem bs_spec {gx gy : Nat → Int32} {x y : Int32} {sz : Nat} (hr : ∀ i, i < sz → in5 (gy i)) (hy : in5 y) (hs : ∀ i j, i < j → j < sz → kz (gx i).toInt (gy i).toInt < kz (gx j).toInt (gy j).toInt) : ∀ (n lo hi : Nat), hi ≤ lo + n → lo ≤ hi → hi ≤ sz →
    (∀ i, i < lo → kz (gx i).toInt (gy i).toInt < kz x.toInt y.toInt) → (∀ i, hi ≤ i → i < sz → kz x.toInt y.toInt ≤ kz (gx i).toInt (gy i).toInt) →
    lo ≤ mh_bs gx gy x y n lo hi ∧ mh_bs gx gy x y n lo hi ≤ hi ∧ (∀ i, i < mh_bs gx gy x y n lo hi → kz (gx i).toInt (gy i).toInt < kz x.toInt y.toInt) ∧ (∀ i, mh_bs gx gy x y n lo hi ≤ i → i < sz → kz x.toInt y.toInt ≤ kz (gx i).toInt (gy i).toInt) := by
  intro n
  induction n with
  | zero =>
    intro lo hi h1 h2 h3 h4 h5
    have : hi = lo := by omega
    subst this
    exact ⟨Nat.le_refl _, Nat.le_refl _, h4, h5⟩
  | succ n ih =>
    intro lo hi h1 h2 h3 h4 h5
    unfold mh_bs
    by_cases q : lo < hi
    · rw [if_pos q]
      have e := hb_i (a := gx ((lo + hi) / 2)) (x := x) (hr ((lo + hi) / 2) (by omega)) hy
      by_cases q2 : hb_lt (gx ((lo + hi) / 2)) (gy ((lo + hi) / 2)) x y
      · rw [if_pos q2]
        have q3 := e.mp q2
        obtain ⟨b1, b2, b3, b4⟩ := ih ((lo + hi) / 2 + 1) hi (by omega) (by omega) h3 (fun i hi2 => by
          by_cases c : i = (lo + hi) / 2
          · rw [c]; exact q3
          · have := hs i ((lo + hi) / 2) (by omega) (by omega); omega) h5
        exact ⟨by omega, b2, b3, b4⟩
      · rw [if_neg q2]
        have q3 : ¬ _ := fun z => q2 (e.mpr z)
        obtain ⟨b1, b2, b3, b4⟩ := ih lo ((lo + hi) / 2) (by omega) (by omega) (by omega) h4 (fun i h6 h7 => by
          by_cases c : i = (lo + hi) / 2
          · rw [c]; omega
          · have := hs ((lo + hi) / 2) i (by omega) h7; omega)
        exact ⟨b1, by omega, b3, b4⟩
    · rw [if_neg q]
      have : hi = lo := by omega
      subst this
      exact ⟨Nat.le_refl _, Nat.le_refl _, h4, h5⟩
theorem lo_spec {s : HT} {x y : Int32} (h : hw s) (hy : in5 y) : mh_lo s x y ≤ s.2.2 ∧ (∀ i, i < mh_lo s x y → hk s i < kz x.toInt y.toInt) ∧ (∀ i, mh_lo s x y ≤ i → i < s.2.2 → kz x.toInt y.toInt ≤ hk s i) := by
  have := bs_spec (gx := s.1) (gy := s.2.1) (x := x) (y := y) (sz := s.2.2) (fun i hi => (h.1 i hi).2) hy h.2 (s.2.2 + 1) 0 s.2.2 (by omega) (by omega) (by omega) (fun i hi => absurd hi (by omega)) (fun i a b => absurd b (by omega))
  exact ⟨this.2.1, this.2.2.1, this.2.2.2⟩
theorem ins_at {g : Nat → Int32} {k h : Nat} {x : Int32} {j : Nat} (hk : k ≤ h) (hj : j ≤ h) : upd (mh_mv g k h) k x j = if j < k then g j else if j = k then x else g (j - 1) := by
  unfold upd mh_mv
  by_cases c1 : j < k
  · rw [if_pos c1, if_neg (by omega), if_neg (by omega)]
  · rw [if_neg c1]
    by_cases c2 : j = k
    · rw [if_pos c2, if_pos c2]
    · rw [if_neg c2, if_neg c2, if_pos (by omega)]
theorem heat_spec {s : HT} {x y : Int32} (h : hw s) (hx : in5 x) (hy : in5 y) : hw (mh_heat s x y) ∧ ∀ v, hm (mh_heat s x y) v ↔ hm s v ∨ v = kz x.toInt y.toInt := by
  obtain ⟨l1, l2, l3⟩ := lo_spec (x := x) h hy
  unfold mh_heat
  generalize mh_lo s x y = k at l1 l2 l3 ⊢
  by_cases c : k < s.2.2 ∧ s.1 k = x ∧ s.2.1 k = y
  · rw [if_pos c]
    refine ⟨h, fun v => ⟨Or.inl, ?_⟩⟩
    rintro (h1 | h1)
    · exact h1
    · refine ⟨k, c.1, ?_⟩
      unfold hk
      rw [c.2.1, c.2.2, h1]
  · rw [if_neg c]
    have l4 : ∀ i, k ≤ i → i < s.2.2 → kz x.toInt y.toInt < hk s i := by
      intro i hi hn
      by_cases e : i = k
      · subst e
        have h1 := l3 i (Nat.le_refl _) hn
        have h2 : kz x.toInt y.toInt ≠ hk s i := by
          intro z
          unfold hk at z
          rw [kz_inj hy (h.1 i hn).2] at z
          exact c ⟨hn, (Int32.toInt.inj z.1).symm, (Int32.toInt.inj z.2).symm⟩
        omega
      · have h1 := l3 k (Nat.le_refl _) (by omega)
        have h2 := h.2 k i (by omega) hn
        omega
    have ex : ∀ j, j ≤ s.2.2 → upd (mh_mv s.1 k s.2.2) k x j = _ := fun j hj => ins_at (g := s.1) (x := x) l1 hj
    have ey : ∀ j, j ≤ s.2.2 → upd (mh_mv s.2.1 k s.2.2) k y j = _ := fun j hj => ins_at (g := s.2.1) (x := y) l1 hj
    generalize hX : upd (mh_mv s.1 k s.2.2) k x = X at ex ⊢
    generalize hY : upd (mh_mv s.2.1 k s.2.2) k y = Y at ey ⊢
    have ek : ∀ j, j ≤ s.2.2 → hk (X, Y, s.2.2 + 1) j = if j < k then hk s j else if j = k then kz x.toInt y.toInt else hk s (j - 1) := by
      intro j hj
      show kz (X j).toInt (Y j).toInt = _
      rw [ex j hj, ey j hj]
      by_cases c1 : j < k
      · rw [if_pos c1, if_pos c1, if_pos c1]; rfl
      · rw [if_neg c1, if_neg c1, if_neg c1]
        by_cases c2 : j = k
        · rw [if_pos c2, if_pos c2, if_pos c2]
        · rw [if_neg c2, if_neg c2, if_neg c2]; rfl
    refine ⟨⟨fun i hi => ?_, fun i j hij hj => ?_⟩, fun v => ⟨?_, ?_⟩⟩
    · have hi : i < s.2.2 + 1 := hi
      show in5 (X i) ∧ in5 (Y i)
      rw [ex i (by omega), ey i (by omega)]
      by_cases c1 : i < k
      · rw [if_pos c1, if_pos c1]; exact h.1 i (by omega)
      · rw [if_neg c1, if_neg c1]
        by_cases c2 : i = k
        · rw [if_pos c2, if_pos c2]; exact ⟨hx, hy⟩
        · rw [if_neg c2, if_neg c2]; exact h.1 (i - 1) (by omega)
    · have hj : j < s.2.2 + 1 := hj
      rw [ek i (by omega), ek j (by omega)]
      by_cases c1 : i < k
      · rw [if_pos c1]
        by_cases d1 : j < k
        · rw [if_pos d1]; exact h.2 i j hij (by omega)
        · rw [if_neg d1]
          by_cases d2 : j = k
          · rw [if_pos d2]; exact l2 i c1
          · rw [if_neg d2]; exact h.2 i (j - 1) (by omega) (by omega)
      · rw [if_neg c1, if_neg (show ¬ j < k by omega), if_neg (show ¬ j = k by omega)]
        by_cases c2 : i = k
        · rw [if_pos c2]; exact l4 (j - 1) (by omega) (by omega)
        · rw [if_neg c2]; exact h.2 (i - 1) (j - 1) (by omega) (by omega)
    · rintro ⟨j, h1, h2⟩
      have h1 : j < s.2.2 + 1 := h1
      rw [ek j (by omega)] at h2
      by_cases c1 : j < k
      · rw [if_pos c1] at h2; exact Or.inl ⟨j, by omega, h2⟩
      · rw [if_neg c1] at h2
        by_cases c2 : j = k
        · rw [if_pos c2] at h2; exact Or.inr h2.symm
        · rw [if_neg c2] at h2; exact Or.inl ⟨j - 1, by omega, h2⟩
    · rintro (⟨j, h1, h2⟩ | h1)
      · by_cases c1 : j < k
        · refine ⟨j, by show j < s.2.2 + 1; omega, ?_⟩
          rw [ek j (by omega), if_pos c1]; exact h2
        · refine ⟨j + 1, by show j + 1 < s.2.2 + 1; omega, ?_⟩
          rw [ek (j + 1) (by omega), if_neg (by omega), if_neg (by omega)]; exact h2
      · refine ⟨k, by show k < s.2.2 + 1; omega, ?_⟩
        rw [ek k l1, if_neg (by omega), if_pos rfl, h1]
/-- a step of the search: what it adds is of N, and all of N if it does not end at the bound -/
def hstep (s t : HT) (N : Int → Prop) : Prop := hw t ∧ (∀ v, hm t v → hm s v ∨ N v) ∧ (t.2.2 ≤ 8192 → ∀ v, hm s v ∨ N v → hm t v)
theorem hs_refl {s : HT} (h : hw s) {N : Int → Prop} (hN : ∀ v, s.2.2 ≤ 8192 → ¬ N v) : hstep s s N := ⟨h, fun _ => Or.inl, fun c v hv => hv.elim id (fun z => absurd z (hN v c))⟩
theorem hs_tr {s t u : HT} {N M L : Int → Prop} (h1 : hstep s t N) (h2 : hstep t u M) (hu : u.2.2 ≤ 8192 → t.2.2 ≤ 8192) (hL : ∀ v, L v ↔ N v ∨ M v) : hstep s u L := by
  refine ⟨h2.1, fun v hv => ?_, fun c v hv => ?_⟩
  · rw [hL]
    rcases h2.2.1 v hv with z | z
    · exact (h1.2.1 v z).imp id Or.inl
    · exact Or.inr (Or.inr z)
  · rw [hL] at hv
    apply h2.2.2 c
    rcases hv with z | z | z
    · exact Or.inl (h1.2.2 (hu c) v (Or.inl z))
    · exact Or.inl (h1.2.2 (hu c) v (Or.inr z))
    · exact Or.inr z
theorem heat_n {s : HT} {x y : Int32} : s.2.2 ≤ (mh_heat s x y).2.2 := by
  unfold mh_heat
  split
  · exact Nat.le_refl _
  · exact Nat.le_succ _
theorem heat_step {s : HT} {x y : Int32} (h : hw s) (hx : in5 x) (hy : in5 y) : hstep s (mh_heat s x y) (fun v => v = kz x.toInt y.toInt) :=
  have g := heat_spec h hx hy
  ⟨g.1, fun v => (g.2 v).mp, fun _ v => (g.2 v).mpr⟩
theorem ha1_n {q : SQ} {s : HT} : s.2.2 ≤ (ha_1 q s).2.2 := by
  unfold ha_1
  split
  · exact Nat.le_trans heat_n heat_n
  · exact heat_n
theorem ha1_step {q : SQ} {s : HT} (h : hw s) (hb : bnd q) : hstep s (ha_1 q s) (fun v => v = kz q.1.toInt q.2.1.toInt ∨ v = kz q.2.2.1.toInt q.2.2.2.toInt) := by
  obtain ⟨b1, b2, b3, b4⟩ := hb
  have g1 := heat_step h b1 b2
  unfold ha_1
  by_cases c : (mh_heat s q.1 q.2.1).2.2 ≤ 8192
  · rw [if_pos c]
    exact hs_tr g1 (heat_step g1.1 b3 b4) (fun _ => c) (fun v => Iff.rfl)
  · rw [if_neg c]
    exact ⟨g1.1, fun v hv => (g1.2.1 v hv).imp id Or.inl, fun z => absurd z c⟩
def tM1 (e : Nat → Int32) (k : Nat) (v : Int) : Prop := v = kz (mq e k).1.toInt (mq e k).2.1.toInt ∨ v = kz (mq e k).2.2.1.toInt (mq e k).2.2.2.toInt
theorem hae_step {e : Nat → Int32} {n : Nat} (hb : ∀ k, k < n → bnd (mq e k)) : ∀ (fu k : Nat) (s : HT), n < k + fu ∨ n ≤ k → hw s → hstep s (ha_e e n fu k s) (fun v => ∃ k', k ≤ k' ∧ k' < n ∧ tM1 e k' v) ∧ s.2.2 ≤ (ha_e e n fu k s).2.2 := by
  intro fu
  induction fu with
  | zero =>
    intro k s h1 h
    exact ⟨hs_refl h (fun v _ ⟨k', a, b, _⟩ => by omega), Nat.le_refl _⟩
  | succ fu ih =>
    intro k s h1 h
    unfold ha_e
    by_cases c : k < n ∧ s.2.2 ≤ 8192
    · rw [if_pos c]
      have g1 := ha1_step h (hb k c.1)
      obtain ⟨g2, g3⟩ := ih (k + 1) (ha_1 (mq e k) s) (by omega) g1.1
      refine ⟨hs_tr g1 g2 (fun z => Nat.le_trans g3 z) (fun v => ⟨?_, ?_⟩), Nat.le_trans ha1_n g3⟩
      · rintro ⟨k', a, b, d⟩
        by_cases e : k' = k
        · rw [e] at d; exact Or.inl d
        · exact Or.inr ⟨k', by omega, b, d⟩
      · rintro (d | ⟨k', a, b, d⟩)
        · exact ⟨k, Nat.le_refl _, c.1, d⟩
        · exact ⟨k', by omega, b, d⟩
    · rw [if_neg c]
      exact ⟨hs_refl h (fun v d ⟨k', a, b, _⟩ => c ⟨by omega, d⟩), Nat.le_refl _⟩
def tM2 (e : Nat → Int32) (k j : Nat) (v : Int) : Prop := mx_ok (mq e k) (mq e j) ∧ v = kz (mx_x (mq e k) (mq e j)).toInt (mx_y (mq e k) (mq e j)).toInt
theorem hac_step {e : Nat → Int32} {k j : Nat} {s : HT} (h : hw s) (hk : bnd (mq e k)) : hstep s (ha_c (mq e k) (mq e j) s) (tM2 e k j) ∧ s.2.2 ≤ (ha_c (mq e k) (mq e j) s).2.2 := by
  unfold ha_c
  by_cases c : b01 (mx_ok (mq e k) (mq e j)) = 0
  · rw [if_pos c]
    exact ⟨hs_refl h (fun v _ z => absurd z.1 (b01_z0.mp c)), Nat.le_refl _⟩
  · rw [if_neg c]
    have c : mx_ok (mq e k) (mq e j) := Classical.not_not.mp (fun z => c (b01_z0.mpr z))
    obtain ⟨⟨_, bx, _⟩, ⟨_, by', _⟩⟩ := mx_xy hk c
    have g := heat_step h bx by'
    exact ⟨⟨g.1, fun v hv => (g.2.1 v hv).imp id (fun z => ⟨c, z⟩), fun d v hv => g.2.2 d v (hv.imp id (fun z => z.2))⟩, heat_n⟩
theorem hat_step {e : Nat → Int32} {n k : Nat} (hk : bnd (mq e k)) : ∀ (fu j : Nat) (s : HT), n < j + fu ∨ n ≤ j → hw s → hstep s (ha_t e n k fu j s) (fun v => ∃ j', j ≤ j' ∧ j' < n ∧ tM2 e k j' v) ∧ s.2.2 ≤ (ha_t e n k fu j s).2.2 := by
  intro fu
  induction fu with
  | zero =>
    intro j s h1 h
    exact ⟨hs_refl h (fun v _ ⟨k', a, b, _⟩ => by omega), Nat.le_refl _⟩
  | succ fu ih =>
    intro j s h1 h
    unfold ha_t
    by_cases c : j < n ∧ s.2.2 ≤ 8192
    · rw [if_pos c]
      obtain ⟨g1, g0⟩ := hac_step (j := j) h hk
      obtain ⟨g2, g3⟩ := ih (j + 1) (ha_c (mq e k) (mq e j) s) (by omega) g1.1
      refine ⟨hs_tr g1 g2 (fun z => Nat.le_trans g3 z) (fun v => ⟨?_, ?_⟩), Nat.le_trans g0 g3⟩
      · rintro ⟨k', a, b, d⟩
        by_cases e : k' = j
        · rw [e] at d; exact Or.inl d
        · exact Or.inr ⟨k', by omega, b, d⟩
      · rintro (d | ⟨k', a, b, d⟩)
        · exact ⟨j, Nat.le_refl _, c.1, d⟩
        · exact ⟨k', by omega, b, d⟩
    · rw [if_neg c]
      exact ⟨hs_refl h (fun v d ⟨k', a, b, _⟩ => c ⟨by omega, d⟩), Nat.le_refl _⟩
theorem has_step {e : Nat → Int32} {n : Nat} (hb : ∀ k, k < n → bnd (mq e k)) : ∀ (fu k : Nat) (s : HT), n < k + fu ∨ n ≤ k → hw s → hstep s (ha_s e n fu k s) (fun v => ∃ k', k ≤ k' ∧ k' < n ∧ ∃ j', k' + 1 ≤ j' ∧ j' < n ∧ tM2 e k' j' v) ∧ s.2.2 ≤ (ha_s e n fu k s).2.2 := by
  intro fu
  induction fu with
  | zero =>
    intro k s h1 h
    exact ⟨hs_refl h (fun v _ ⟨k', a, b, _⟩ => by omega), Nat.le_refl _⟩
  | succ fu ih =>
    intro k s h1 h
    unfold ha_s
    by_cases c : k < n ∧ s.2.2 ≤ 8192
    · rw [if_pos c]
      obtain ⟨g1, g0⟩ := hat_step (e := e) (n := n) (hb k c.1) (n + 1) (k + 1) s (by omega) h
      obtain ⟨g2, g3⟩ := ih (k + 1) (ha_t e n k (n + 1) (k + 1) s) (by omega) g1.1
      refine ⟨hs_tr g1 g2 (fun z => Nat.le_trans g3 z) (fun v => ⟨?_, ?_⟩), Nat.le_trans g0 g3⟩
      · rintro ⟨k', a, b, d⟩
        by_cases e : k' = k
        · rw [e] at d; exact Or.inl d
        · exact Or.inr ⟨k', by omega, b, d⟩
      · rintro (d | ⟨k', a, b, d⟩)
        · exact ⟨k, Nat.le_refl _, c.1, d⟩
        · exact ⟨k', by omega, b, d⟩
    · rw [if_neg c]
      exact ⟨hs_refl h (fun v d ⟨k', a, b, _⟩ => c ⟨by omega, d⟩), Nat.le_refl _⟩
def tM (e : Nat → Int32) (n : Nat) (v : Int) : Prop := (∃ k', k' < n ∧ tM1 e k' v) ∨ ∃ k' j', k' < j' ∧ j' < n ∧ tM2 e k' j' v
theorem ha_all_has {e : Nat → Int32} {n : Nat} {gx gy : Nat → Int32} (hb : ∀ k, k < n → bnd (mq e k)) : hw (ha_all e n (gx, gy, 0)) ∧ (∀ v, hm (ha_all e n (gx, gy, 0)) v → tM e n v) ∧ ((ha_all e n (gx, gy, 0)).2.2 ≤ 8192 → ∀ v, tM e n v → hm (ha_all e n (gx, gy, 0)) v) := by
  have h0 : hw (gx, gy, 0) := ⟨fun i hi => absurd hi (Nat.not_lt_zero _), fun i j _ hj => absurd hj (Nat.not_lt_zero _)⟩
  obtain ⟨g1, n1⟩ := hae_step hb (n + 1) 0 (gx, gy, 0) (by omega) h0
  obtain ⟨g2, n2⟩ := has_step hb (n + 1) 0 _ (by omega) g1.1
  have g := hs_tr (L := tM e n) g1 g2 (fun z => Nat.le_trans n2 z) (fun v => by
    unfold tM
    apply or_congr
    · exact ⟨fun ⟨k, a, b⟩ => ⟨k, Nat.zero_le _, a, b⟩, fun ⟨k, _, a, b⟩ => ⟨k, a, b⟩⟩
    · exact ⟨fun ⟨k, j, a, b, c⟩ => ⟨k, Nat.zero_le _, by omega, j, by omega, b, c⟩, fun ⟨k, _, _, j, a, b, c⟩ => ⟨k, j, by omega, b, c⟩⟩)
  refine ⟨g.1, fun v hv => ?_, fun c v hv => g.2.2 c v (Or.inr hv)⟩
  rcases g.2.1 v hv with ⟨i, a, _⟩ | z
  · exact absurd a (Nat.not_lt_zero _)
  · exact z
theorem bnd_key {q : SQ} (h : bnd q) : (sg_key (sx q) (sy q)).toInt = kz q.1.toInt q.2.1.toInt ∧ (sg_key (su q) (sv q)).toInt = kz q.2.2.1.toInt q.2.2.2.toInt := by
  obtain ⟨b1, b2, b3, b4⟩ := h
  constructor
  · rw [key_i (by rw [sx_i]; exact b1) (by rw [sy_i]; exact b2), sx_i, sy_i]
  · rw [key_i (by rw [su_i]; exact b3) (by rw [sv_i]; exact b4), su_i, sv_i]
theorem ck_z {q o : SQ} (h : bnd q) (g : bnd o) (hk : mx_ok q o) : (sg_ck q o).toInt = kz (mx_x q o).toInt (mx_y q o).toInt := by
  obtain ⟨⟨_, bx, _⟩, ⟨_, by', _⟩⟩ := mx_xy h hk
  rw [ck_i h g hk, k32_i bx by']
/-- the two sets are one -/
theorem tC_tM {sg : Nat → SQ} {e : Nat → Int32} {n : Nat} (hq : ∀ k, k < n → mq e k = sg k) (hb : ∀ k, k < n → bnd (sg k)) : (∀ v, tC sg n v → tM e n v.toInt) ∧ (∀ w, tM e n w → ∃ v, v.toInt = w ∧ tC sg n v) := by
  constructor
  · rintro v ⟨i, hi, (h | h) | ⟨j, hj, hc, h⟩⟩
    · refine Or.inl ⟨i, hi, Or.inl ?_⟩
      rw [h, (bnd_key (hb i hi)).1, hq i hi]
    · refine Or.inl ⟨i, hi, Or.inr ?_⟩
      rw [h, (bnd_key (hb i hi)).2, hq i hi]
    · refine Or.inr ⟨j, i, hj, hi, ?_⟩
      unfold tM2
      rw [hq i hi, hq j (by omega)]
      have bi := hb i hi
      have bj := hb j (by omega)
      have ok := (cr_iff bi bj).mp hc
      obtain ⟨s1, s2⟩ := mx_sym bi bj ok
      exact ⟨mx_ok_sw bi bj ok, by rw [h, ck_z bi bj ok, s1, s2]⟩
  · rintro w (⟨i, hi, h | h⟩ | ⟨j, i, hj, hi, hc, h⟩)
    · rw [hq i hi] at h
      exact ⟨_, by rw [h, (bnd_key (hb i hi)).1], i, hi, Or.inl (Or.inl rfl)⟩
    · rw [hq i hi] at h
      exact ⟨_, by rw [h, (bnd_key (hb i hi)).2], i, hi, Or.inl (Or.inr rfl)⟩
    · rw [hq i hi, hq j (by omega)] at hc h
      have bi := hb i hi
      have bj := hb j (by omega)
      have ok := mx_ok_sw bj bi hc
      obtain ⟨s1, s2⟩ := mx_sym bj bi hc
      exact ⟨sg_ck (sg i) (sg j), by rw [ck_z bi bj ok, h, s1, s2], i, hi, Or.inr ⟨j, hj, (cr_iff bi bj).mpr ok, rfl⟩⟩
/-- both find the same hot pixels, or both too many -/
theorem hot_eq {sg : Nat → SQ} {e : Nat → Int32} {n : Nat} {gx gy : Nat → Int32} {R : RS} (hq : ∀ k, k < n → mq e k = sg k) (hb : ∀ k, k < n → bnd (sg k)) (h2 : rs_ok 16384 R) (hz : R.2.2 = 0) :
    ((fh_all sg n R).2 = true ∧ (ha_all e n (gx, gy, 0)).2.2 ≤ 8192 ∧ (fh_all sg n R).1.2.2 = (ha_all e n (gx, gy, 0)).2.2 ∧ hw (ha_all e n (gx, gy, 0)) ∧
      ∀ i, i < (ha_all e n (gx, gy, 0)).2.2 → (fh_all sg n R).1.2.1 i = k32 ((ha_all e n (gx, gy, 0)).1 i) ((ha_all e n (gx, gy, 0)).2.1 i)) ∨
    ((fh_all sg n R).2 = false ∧ ¬ (ha_all e n (gx, gy, 0)).2.2 ≤ 8192) := by
  obtain ⟨m1, m2, m3⟩ := ha_all_has (e := e) (n := n) (gx := gx) (gy := gy) (fun k hk => by rw [hq k hk]; exact hb k hk)
  obtain ⟨t1, t2⟩ := tC_tM hq hb
  generalize ha_all e n (gx, gy, 0) = M at m1 m2 m3 ⊢
  rcases fh_all_has (sg := sg) (k := n) h2 hz with ⟨c1, c2, c3, c4⟩ | ⟨c1, c2⟩
  · have hsub : ∀ i, i < M.2.2 → ∃ j, j < (fh_all sg n R).1.2.2 ∧ ((fh_all sg n R).1.2.1 j).toInt = hk M i := by
      intro i hi
      obtain ⟨v, v1, v2⟩ := t2 _ (m2 _ ⟨i, hi, rfl⟩)
      obtain ⟨j, j1, j2⟩ := (c2 v).mpr v2
      exact ⟨j, j1, by rw [j2, v1]⟩
    have hn : M.2.2 ≤ 8192 := Nat.le_trans (so_n (f := hk M) (g := fun j => ((fh_all sg n R).1.2.1 j).toInt) m1.2 c4 hsub) c3
    have hsub2 : ∀ j, j < (fh_all sg n R).1.2.2 → ∃ i, i < M.2.2 ∧ hk M i = ((fh_all sg n R).1.2.1 j).toInt := by
      intro j hj
      obtain ⟨i, i1, i2⟩ := m3 hn _ (t1 _ ((c2 _).mp ⟨j, hj, rfl⟩))
      exact ⟨i, i1, i2⟩
    obtain ⟨e1, e2⟩ := so_eq (f := hk M) (g := fun j => ((fh_all sg n R).1.2.1 j).toInt) m1.2 c4 hsub hsub2
    refine Or.inl ⟨c1, hn, e1.symm, m1, fun i hi => ?_⟩
    apply Int64.toInt.inj
    rw [k32_i (m1.1 i hi).1 (m1.1 i hi).2]
    exact (e2 i hi).symm
  · obtain ⟨f, m, hm, hf, hT⟩ := c2
    refine Or.inr ⟨c1, fun hn => ?_⟩
    have := so_n (f := fun i => (f i).toInt) (g := hk M) hf m1.2 (fun i hi => by
      obtain ⟨j, j1, j2⟩ := m3 hn _ (t1 _ (hT i hi))
      exact ⟨j, j1, j2⟩)
    omega
