/-! Pure rows: the program's hot row as a set -/
theorem rs_add_v {m : Nat} {R : RS} {x : Int64} (h : rs_ok m R) (hz : R.2.2 < m) : (rs_add m R x).2.2 = R.2.2 + 1 ∧ (∀ i, i < R.2.2 → (rs_add m R x).2.1 i = R.2.1 i) ∧ (rs_add m R x).2.1 R.2.2 = x := by
  rw [rs_add_e hz]
  refine ⟨rfl, fun i hi => ?_, ?_⟩
  · show ra_f R.2.1 R.2.2 R.1 x i = _
    unfold ra_f
    rw [pk_uLn (by omega)]
    by_cases c : R.2.2 < R.1
    · rw [if_pos c]
    · rw [if_neg c]
      have := h.2.1
      unfold va_cpy
      rw [if_pos (by omega), Nat.zero_add, Nat.sub_zero]
  · show ra_f R.2.1 R.2.2 R.1 x R.2.2 = _
    unfold ra_f
    exact pk_uLs
def has (R : RS) (v : Int64) : Prop := ∃ i, i < R.2.2 ∧ R.2.1 i = v
theorem has_add {m : Nat} {R : RS} {x : Int64} (h : rs_ok m R) (hz : R.2.2 < m) (v : Int64) : has (rs_add m R x) v ↔ has R v ∨ v = x := by
  obtain ⟨e1, e2, e3⟩ := rs_add_v (x := x) h hz
  unfold has
  rw [e1]
  constructor
  · rintro ⟨i, h1, h2⟩
    by_cases c : i = R.2.2
    · rw [c, e3] at h2
      exact Or.inr h2.symm
    · rw [e2 i (by omega)] at h2
      exact Or.inl ⟨i, by omega, h2⟩
  · rintro (⟨i, h1, h2⟩ | h)
    · exact ⟨i, by omega, by rw [e2 i h1]; exact h2⟩
    · exact ⟨R.2.2, by omega, by rw [e3, h]⟩
theorem sort_has (n : Nat) (f : Nat → Int64) (v : Int64) : (∃ i, i < n ∧ ps_sort n f i = v) ↔ ∃ i, i < n ∧ f i = v := by
  rw [← ps_cnt_pos, ← ps_cnt_pos, (ps_sort_spec n f).2.1 v]
theorem mh_has (R : RS) (v : Int64) : has (mh_m R) v ↔ has R v := by
  have h := (ps_kd_spec (ps_sort_spec R.2.2 R.2.1).1 R.2.2 (Nat.le_refl _)).2.2.2.2.1 v
  unfold has mh_m
  dsimp only
  rw [h, sort_has]
theorem mh_st (R : RS) : ∀ i j, i < j → j < (mh_m R).2.2 → ((mh_m R).2.1 i).toInt < ((mh_m R).2.1 j).toInt := (ps_kd_spec (ps_sort_spec R.2.2 R.2.1).1 R.2.2 (Nat.le_refl _)).2.2.2.1
def over (T : Int64 → Prop) : Prop := ∃ (f : Nat → Int64) (n : Nat), 8192 < n ∧ (∀ i j, i < j → j < n → (f i).toInt < (f j).toInt) ∧ ∀ i, i < n → T (f i)
theorem mh_over {R : RS} {T : Int64 → Prop} (h : ¬ (mh_m R).2.2 ≤ 8192) (hT : ∀ v, has R v → T v) : over T :=
  ⟨(mh_m R).2.1, (mh_m R).2.2, by omega, mh_st R, fun i hi => hT _ ((mh_has R _).mp ⟨i, hi, rfl⟩)⟩
theorem hj_has {R : RS} {x : Int64} (h : rs_ok 16384 R) (hk : hj_ok R) (v : Int64) : has (hj R x) v ↔ has R v ∨ v = x := by
  unfold hj
  rw [if_pos hk]
  have hr := (hj_r_ok h).1
  unfold hj_r at hr ⊢
  by_cases c : R.2.2 < 16384
  · rw [if_pos c]
    exact has_add h c v
  · rw [if_neg c] at hr ⊢
    have : (mh_m R).2.2 ≤ 8192 := hk.resolve_left c
    rw [has_add hr (by omega), mh_has]
theorem hj_over {R : RS} {T : Int64 → Prop} (hk : ¬ hj_ok R) (hT : ∀ v, has R v → T v) : over T := mh_over (fun z => hk (Or.inr z)) hT
theorem b01_z0 {p : Prop} : b01 p = 0 ↔ ¬ p := by
  constructor
  · intro h hp
    rw [b01_pp hp] at h
    exact absurd h (by decide)
  · exact b01_nn
theorem hc_has {sg : Nat → SQ} {q : SQ} {i0 : Nat} {T : Int64 → Prop} (hT : ∀ j, j < i0 → sg_cross q (sg j) → T (sg_ck q (sg j))) : ∀ (fu j : Nat) (R : RS), i0 ≤ j + fu → rs_ok 16384 R → (∀ v, has R v → T v) →
    ((hc_go sg q i0 fu j R).2 = true ∧ ∀ v, has (hc_go sg q i0 fu j R).1 v ↔ has R v ∨ ∃ j', j ≤ j' ∧ j' < i0 ∧ sg_cross q (sg j') ∧ v = sg_ck q (sg j')) ∨ ((hc_go sg q i0 fu j R).2 = false ∧ over T) := by
  intro fu
  induction fu with
  | zero =>
    intro j R h1 h2 h3
    refine Or.inl ⟨rfl, fun v => ⟨Or.inl, ?_⟩⟩
    rintro (h | ⟨j', a, b, _⟩)
    · exact h
    · omega
  | succ fu ih =>
    intro j R h1 h2 h3
    unfold hc_go
    by_cases c : j < i0
    · rw [if_pos c]
      by_cases d : b01 (sg_cross q (sg j)) = 0
      · rw [if_pos d]
        rcases ih (j + 1) R (by omega) h2 h3 with ⟨e1, e2⟩ | e
        · refine Or.inl ⟨e1, fun v => ?_⟩
          rw [e2]
          constructor
          · rintro (h | ⟨j', a, b, f, g⟩)
            · exact Or.inl h
            · exact Or.inr ⟨j', by omega, b, f, g⟩
          · rintro (h | ⟨j', a, b, f, g⟩)
            · exact Or.inl h
            · by_cases e : j' = j
              · rw [e] at f
                exact absurd f (b01_z0.mp d)
              · exact Or.inr ⟨j', by omega, b, f, g⟩
        · exact Or.inr e
      · rw [if_neg d]
        have d : sg_cross q (sg j) := Classical.not_not.mp (fun z => d (b01_z0.mpr z))
        by_cases g : hj_ok R
        · rw [if_pos g]
          have hh := hj_has (x := sg_ck q (sg j)) h2 g
          rcases ih (j + 1) (hj R (sg_ck q (sg j))) (by omega) (hj_o h2).1 (fun v hv => by
            rcases (hh v).mp hv with z | z
            · exact h3 v z
            · rw [z]; exact hT j c d) with ⟨e1, e2⟩ | e
          · refine Or.inl ⟨e1, fun v => ?_⟩
            rw [e2, hh]
            constructor
            · rintro ((h | h) | ⟨j', a, b, f, k⟩)
              · exact Or.inl h
              · exact Or.inr ⟨j, Nat.le_refl _, c, d, h⟩
              · exact Or.inr ⟨j', by omega, b, f, k⟩
            · rintro (h | ⟨j', a, b, f, k⟩)
              · exact Or.inl (Or.inl h)
              · by_cases e : j' = j
                · rw [e] at k
                  exact Or.inl (Or.inr k)
                · exact Or.inr ⟨j', by omega, b, f, k⟩
          · exact Or.inr e
        · rw [if_neg g]
          exact Or.inr ⟨rfl, hj_over g h3⟩
    · rw [if_neg c]
      refine Or.inl ⟨rfl, fun v => ⟨Or.inl, ?_⟩⟩
      rintro (h | ⟨j', a, b, _⟩)
      · exact h
      · omega
/-- what the segment i makes hot -/
def tC1 (sg : Nat → SQ) (i : Nat) (v : Int64) : Prop := (v = sg_key (sx (sg i)) (sy (sg i)) ∨ v = sg_key (su (sg i)) (sv (sg i))) ∨ ∃ j, j < i ∧ sg_cross (sg i) (sg j) ∧ v = sg_ck (sg i) (sg j)
theorem fh1_has {sg : Nat → SQ} {i : Nat} {R : RS} {T : Int64 → Prop} (hT : ∀ v, tC1 sg i v → T v) (h2 : rs_ok 16384 R) (h3 : ∀ v, has R v → T v) :
    ((fh_1 sg i R).2 = true ∧ ∀ v, has (fh_1 sg i R).1 v ↔ has R v ∨ tC1 sg i v) ∨ ((fh_1 sg i R).2 = false ∧ over T) := by
  unfold fh_1
  by_cases g1 : hj_ok R
  · rw [if_pos g1]
    have ha := hj_has (x := sg_key (sx (sg i)) (sy (sg i))) h2 g1
    have oa := (hj_o (x := sg_key (sx (sg i)) (sy (sg i))) h2).1
    have ta : ∀ v, has (fh_a (sg i) R) v → T v := fun v hv => by
      rcases (ha v).mp hv with z | z
      · exact h3 v z
      · exact hT v (Or.inl (Or.inl z))
    by_cases g2 : hj_ok (fh_a (sg i) R)
    · rw [if_pos g2]
      have hb := hj_has (x := sg_key (su (sg i)) (sv (sg i))) oa g2
      have ob := (hj_o (x := sg_key (su (sg i)) (sv (sg i))) oa).1
      have tb : ∀ v, has (fh_b (sg i) R) v → T v := fun v hv => by
        rcases (hb v).mp hv with z | z
        · exact ta v z
        · exact hT v (Or.inl (Or.inr z))
      rcases hc_has (sg := sg) (q := sg i) (i0 := i) (T := T) (fun j hj hc => hT _ (Or.inr ⟨j, hj, hc, rfl⟩)) (i + 1) 0 (fh_b (sg i) R) (by omega) ob tb with ⟨e1, e2⟩ | e
      · refine Or.inl ⟨e1, fun v => ?_⟩
        rw [e2]
        have hbv : has (fh_b (sg i) R) v ↔ _ := hb v
        have hav : has (fh_a (sg i) R) v ↔ _ := ha v
        rw [hbv, show has (hj R (sg_key (sx (sg i)) (sy (sg i)))) v ↔ _ from ha v]
        unfold tC1
        constructor
        · rintro (((h | h) | h) | ⟨j', a, b, f, k⟩)
          · exact Or.inl h
          · exact Or.inr (Or.inl (Or.inl h))
          · exact Or.inr (Or.inl (Or.inr h))
          · exact Or.inr (Or.inr ⟨j', b, f, k⟩)
        · rintro (h | (h | h) | ⟨j', b, f, k⟩)
          · exact Or.inl (Or.inl (Or.inl h))
          · exact Or.inl (Or.inl (Or.inr h))
          · exact Or.inl (Or.inr h)
          · exact Or.inr ⟨j', Nat.zero_le _, b, f, k⟩
      · exact Or.inr e
    · rw [if_neg g2]
      exact Or.inr ⟨rfl, hj_over g2 ta⟩
  · rw [if_neg g1]
    exact Or.inr ⟨rfl, hj_over g1 h3⟩
def tC (sg : Nat → SQ) (k : Nat) (v : Int64) : Prop := ∃ i, i < k ∧ tC1 sg i v
theorem fh_has {sg : Nat → SQ} {k : Nat} : ∀ (fu i : Nat) (R : RS), k < i + fu → i ≤ k → rs_ok 16384 R → (∀ v, has R v → tC sg k v) → (∀ v, ∀ i', i' < i → i' < k → tC1 sg i' v → has R v) →
    ((fh_go sg k fu i R).2 = true ∧ (∀ v, has (fh_go sg k fu i R).1 v ↔ tC sg k v) ∧ (fh_go sg k fu i R).1.2.2 ≤ 8192 ∧ ∀ a b, a < b → b < (fh_go sg k fu i R).1.2.2 → ((fh_go sg k fu i R).1.2.1 a).toInt < ((fh_go sg k fu i R).1.2.1 b).toInt) ∨ ((fh_go sg k fu i R).2 = false ∧ over (tC sg k)) := by
  intro fu
  induction fu with
  | zero =>
    intro i R h1 h0 h2 h3 h4
    omega
  | succ fu ih =>
    intro i R h1 h0 h2 h3 h4
    unfold fh_go
    by_cases c : i < k
    · rw [if_pos c]
      rcases fh1_has (T := tC sg k) (fun v hv => ⟨i, c, hv⟩) h2 h3 with ⟨e1, e2⟩ | ⟨e1, e2⟩
      · rw [if_pos e1]
        refine ih (i + 1) _ (by omega) (by omega) (fh_1_ok h2).1 (fun v hv => ?_) (fun v i' a b hv => ?_)
        · rcases (e2 v).mp hv with z | z
          · exact h3 v z
          · exact ⟨i, c, z⟩
        · by_cases e : i' = i
          · rw [e] at hv
            exact (e2 v).mpr (Or.inr hv)
          · exact (e2 v).mpr (Or.inl (h4 v i' (by omega) b hv))
      · rw [if_neg (by rw [e1]; decide)]
        exact Or.inr ⟨e1, e2⟩
    · rw [if_neg c]
      by_cases d : (mh_m R).2.2 ≤ 8192
      · refine Or.inl ⟨decide_eq_true d, fun v => ?_, d, mh_st R⟩
        show has (mh_m R) v ↔ _
        rw [mh_has]
        exact ⟨h3 v, fun ⟨i', a, b⟩ => h4 v i' (by omega) a b⟩
      · exact Or.inr ⟨decide_eq_false d, mh_over d h3⟩
/-- what findHot finds -/
theorem fh_all_has {sg : Nat → SQ} {k : Nat} {R : RS} (h2 : rs_ok 16384 R) (hz : R.2.2 = 0) :
    ((fh_all sg k R).2 = true ∧ (∀ v, has (fh_all sg k R).1 v ↔ tC sg k v) ∧ (fh_all sg k R).1.2.2 ≤ 8192 ∧ ∀ a b, a < b → b < (fh_all sg k R).1.2.2 → ((fh_all sg k R).1.2.1 a).toInt < ((fh_all sg k R).1.2.1 b).toInt) ∨ ((fh_all sg k R).2 = false ∧ over (tC sg k)) :=
  fh_has (k + 1) 0 R (by omega) (by omega) h2 (fun v ⟨i, a, _⟩ => absurd a (by omega)) (fun v i' a => absurd a (by omega))
