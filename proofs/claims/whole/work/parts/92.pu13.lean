/-! Pure rows: the pieces and how often each is used -/
theorem cnt_none {f : Nat → Int64} {v : Int64} {b k : Nat} (h : b ≤ k) (hn : ∀ j, b ≤ j → j < k → f j ≠ v) : ps_cnt f v k = ps_cnt f v b := by
  induction k with
  | zero => rw [show b = 0 by omega]
  | succ k ih =>
    by_cases c : b = k + 1
    · rw [c]
    · rw [ps_cnt_succ, if_neg (hn k (by omega) (by omega)), ih (by omega) (fun j a d => hn j a (by omega))]; rfl
theorem cnt_all {f : Nat → Int64} {v : Int64} {b k : Nat} (h : b ≤ k) (hn : ∀ j, b ≤ j → j < k → f j = v) : ps_cnt f v k = ps_cnt f v b + (k - b) := by
  induction k with
  | zero => rw [show b = 0 by omega]; rfl
  | succ k ih =>
    by_cases c : b = k + 1
    · rw [c, Nat.sub_self]; rfl
    · rw [ps_cnt_succ, if_pos (hn k (by omega) (by omega)), ih (by omega) (fun j a d => hn j a (by omega))]; omega
theorem cnt_le (f : Nat → Int64) (v : Int64) (n : Nat) : ps_cnt f v n ≤ n := by
  induction n with
  | zero => exact Nat.le_refl _
  | succ n ih => rw [ps_cnt_succ]; split <;> omega
/-- what stands after the block that ends at b: g, the numbers before b, each once -/
def ceI (S : Nat → Int64) (z b : Nat) (g : Nat → Int64) (s : RS) : Prop :=
  (∀ i j, i < j → j < s.2.2 → (g i).toInt < (g j).toInt) ∧ (∀ v, (∃ i, i < s.2.2 ∧ g i = v) ↔ ∃ j, j < b ∧ S j = v) ∧ (∀ i, i < s.2.2 → s.2.1 i = lN (ps_cnt S (g i) z)) ∧ (b < z → ∀ i, i < s.2.2 → (g i).toInt < (S b).toInt)
theorem ce_spec {m z : Nat} {S : Nat → Int64} (hs : ps_sorted S z) (hzm : z ≤ m) : ∀ (fu k b : Nat) (s : RS) (g : Nat → Int64), z < k + fu → b < k → k ≤ z + 1 → b ≤ z → (k = z + 1 → b = z) → rs_ok m s → s.2.2 ≤ b → ceI S z b g s → (∀ j, b ≤ j → j < k → j < z → S j = S b) →
    ∃ g', ceI S z z g' (ce_go m S z fu k b s) := by
  intro fu
  induction fu with
  | zero =>
    intro k b s g h1 h2 h3 h4 h5 ok hsb I hc
    have : b = z := h5 (by omega)
    subst this
    exact ⟨g, I⟩
  | succ fu ih =>
    intro k b s g h1 h2 h3 h4 h5 ok hsb I hc
    unfold ce_go
    by_cases c : k ≤ z
    · rw [if_pos c]
      have hbz : b < z := by omega
      obtain ⟨i1, i2, i3, i4⟩ := I
      by_cases d : k = z ∨ S k ≠ S b
      · rw [if_pos d]
        obtain ⟨v1, v2, v3⟩ := rs_add_v (x := lN (k - b)) ok (by omega)
        have hgt : k < z → (S b).toInt < (S k).toInt := fun hk => by
          have h7 : S k ≠ S b := d.resolve_left (by omega)
          have h8 := hs b k (by omega) hk
          have h9 : (S b).toInt ≠ (S k).toInt := fun w => h7 (Int64.toInt.inj w).symm
          omega
        have hcnt : ps_cnt S (S b) z = k - b := by
          rw [cnt_none (b := k) c (fun j a e => fun w => by
              have h8 := hgt (by omega)
              have h9 := hs k j a e
              rw [w] at h9
              omega), cnt_all (b := b) (by omega) (fun j a e => hc j a e (by omega)), cnt_none (b := 0) (Nat.zero_le _) (fun j _ e => fun w => by
              obtain ⟨i, a1, a2⟩ := (i2 (S j)).mpr ⟨j, e, rfl⟩
              have h8 := i4 hbz i a1
              rw [a2, w] at h8
              omega)]
          exact Nat.zero_add _
        have e1 : ∀ i, i < s.2.2 → (if i = s.2.2 then S b else g i) = g i := fun i hi => if_neg (by omega)
        refine ih (k + 1) k (rs_add m s (lN (k - b))) (fun i => if i = s.2.2 then S b else g i) (by omega) (by omega) (by omega) c (by omega) (rs_add_o ok) (by omega) ⟨fun i j hij hj => ?_, fun v => ⟨?_, ?_⟩, fun i hi => ?_, fun hk i hi => ?_⟩ (fun j a e f => by rw [show j = k by omega])
        · rw [v1] at hj
          dsimp only
          rw [e1 i (by omega)]
          by_cases e : j = s.2.2
          · rw [if_pos e]; exact i4 hbz i (by omega)
          · rw [if_neg e]; exact i1 i j hij (by omega)
        · rintro ⟨i, a1, a2⟩
          rw [v1] at a1
          dsimp only at a2
          by_cases e : i = s.2.2
          · rw [if_pos e] at a2
            exact ⟨b, h2, a2⟩
          · rw [if_neg e] at a2
            obtain ⟨j, b1, b2⟩ := (i2 v).mp ⟨i, by omega, a2⟩
            exact ⟨j, by omega, b2⟩
        · rintro ⟨j, a1, a2⟩
          by_cases e : j < b
          · obtain ⟨i, b1, b2⟩ := (i2 v).mpr ⟨j, e, a2⟩
            exact ⟨i, by omega, by dsimp only; rw [e1 i b1, b2]⟩
          · refine ⟨s.2.2, by omega, ?_⟩
            dsimp only
            rw [if_pos rfl, ← a2, hc j (by omega) a1 (by omega)]
        · rw [v1] at hi
          dsimp only
          by_cases e : i = s.2.2
          · rw [e, if_pos rfl, v3, hcnt]
          · rw [if_neg e, v2 i (by omega), i3 i (by omega)]
        · rw [v1] at hi
          dsimp only
          by_cases e : i = s.2.2
          · rw [if_pos e]; exact hgt hk
          · rw [if_neg e]
            have := i4 hbz i (by omega)
            have := hgt hk
            omega
      · rw [if_neg d]
        have hkz : k < z := by
          by_cases e : k = z
          · exact absurd (Or.inl e) d
          · omega
        refine ih (k + 1) b s g (by omega) (by omega) (by omega) h4 (by omega) ok hsb ⟨i1, i2, i3, i4⟩ (fun j a e f => ?_)
        by_cases e2 : j = k
        · rw [e2]; exact Classical.not_not.mp (fun w => d (Or.inr w))
        · exact hc j a (by omega) f
    · rw [if_neg c]
      have : b = z := h5 (by omega)
      subst this
      exact ⟨g, I⟩
/-- the counts stand beside the numbers -/
theorem fp_u_spec {Q R5 : RS} (hz : Q.2.2 ≤ 65536) (ok : rs_ok 65536 R5) (z5 : R5.2.2 = 0) : (fp_u Q R5).2.2 = (mh_m Q).2.2 ∧ ∀ i, i < (mh_m Q).2.2 → (fp_u Q R5).2.1 i = lN (ps_cnt Q.2.1 ((mh_m Q).2.1 i) Q.2.2) := by
  obtain ⟨s1, s2, s3⟩ := ps_sort_spec Q.2.2 Q.2.1
  obtain ⟨g, g1, g2, g3, g4⟩ := ce_spec (m := 65536) s1 hz (Q.2.2 + 1) 1 0 R5 (fun _ => 0) (by omega) (by omega) (by omega) (by omega) (by omega) ok (by omega) ⟨fun i j _ hj => absurd hj (by omega), fun v => ⟨fun ⟨i, hi, _⟩ => absurd hi (by omega), fun ⟨j, hj, _⟩ => absurd hj (by omega)⟩, fun i hi => absurd hi (by omega), fun _ i hi => absurd hi (by omega)⟩ (fun j a e f => by rw [show j = 0 by omega])
  have hst := mh_st Q
  have hhas := mh_has Q
  obtain ⟨e1, e2⟩ := so_eq (f := fun i => ((mh_m Q).2.1 i).toInt) (g := fun i => (g i).toInt) hst g1 (fun i hi => by
      obtain ⟨j, j1, j2⟩ := (hhas _).mp ⟨i, hi, rfl⟩
      obtain ⟨j', k1, k2⟩ := (sort_has Q.2.2 Q.2.1 _).mpr ⟨j, j1, j2⟩
      obtain ⟨i', a1, a2⟩ := (g2 _).mpr ⟨j', k1, k2⟩
      exact ⟨i', a1, by rw [a2]⟩) (fun i hi => by
      obtain ⟨j, j1, j2⟩ := (g2 _).mp ⟨i, hi, rfl⟩
      obtain ⟨j', k1, k2⟩ := (sort_has Q.2.2 Q.2.1 _).mp ⟨j, j1, j2⟩
      obtain ⟨i', a1, a2⟩ := (hhas _).mpr ⟨j', k1, k2⟩
      exact ⟨i', a1, by rw [a2]⟩)
  refine ⟨e1.symm, fun i hi => ?_⟩
  have h1 := g3 i (by rw [← e1]; exact hi)
  have h2 : (mh_m Q).2.1 i = g i := Int64.toInt.inj (e2 i hi)
  show (ce_go 65536 (ps_sort Q.2.2 Q.2.1) Q.2.2 (Q.2.2 + 1) 1 0 R5).2.1 i = _
  rw [h1, h2, s2]
