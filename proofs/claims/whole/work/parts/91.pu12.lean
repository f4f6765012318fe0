/-! Pure rows: all the chains -/
/-- what both have laid: K starts, the chains of c segments -/
def rl (sg : Nat → SQ) (gx gy : Nat → Int32) (hot K c : Nat) (s : RS × RS) (m : Nat × (Nat → Int32) × CT) : Prop :=
  (rs_ok 2049 s.1 ∧ rs_ok 65536 s.2) ∧ s.1.2.2 = K ∧ s.2.2.2 = cB sg gx gy hot c ∧ m.1 = cB sg gx gy hot c ∧
  (∀ i, i < K → s.1.2.1 i = lN (cB sg gx gy hot i) ∧ m.2.1 i = nI (cB sg gx gy hot i)) ∧ ∀ i, i < cB sg gx gy hot c → ∃ x, x < hot ∧ s.2.2.1 i = lN x ∧ m.2.2.2.2.2 i = nI x
theorem upd_s (f : Nat → Int32) (k : Nat) (x : Int32) : upd f k x k = x := if_pos rfl
theorem upd_n {f : Nat → Int32} {k j : Nat} {x : Int32} (h : j ≠ k) : upd f k x j = f j := if_neg h
theorem ch_all {sg : Nat → SQ} {e gx gy : Nat → Int32} {hot n : Nat} {R1 : RS} (hn : n ≤ 2048) (hq : ∀ k, k < n → mq e k = sg k) (hb : ∀ k, k < n → bnd (sg k)) (hr : hR R1.2.1 gx gy hot) (hz1 : R1.2.2 = hot) (hhot : hot ≤ 8192) (hs : ∀ i j, i < j → j < hot → (R1.2.1 i).toInt < (R1.2.1 j).toInt) :
    ∀ (fu k : Nat) (s : RS × RS) (m : Nat × (Nat → Int32) × CT), n < k + fu → k ≤ n → rl sg gx gy hot k k s m →
    (cB sg gx gy hot n ≤ 65536 → (fc_go sg n R1 fu k s).2 = true ∧ ∃ M, ch_s e gx gy n hot fu k m = some M ∧ rl sg gx gy hot (n + 1) n (fc_go sg n R1 fu k s).1 M) ∧ (¬ cB sg gx gy hot n ≤ 65536 → (fc_go sg n R1 fu k s).2 = false ∧ ch_s e gx gy n hot fu k m = none) := by
  intro fu
  induction fu with
  | zero => intro k s m h1 h2; omega
  | succ fu ih =>
    intro k s m h1 h2 I
    obtain ⟨⟨o2, o3⟩, i1, i2, i3, i4, i5⟩ := I
    unfold fc_go ch_s
    by_cases c : k < n
    · rw [if_pos c, if_pos c, hq k c]
      obtain ⟨g1, g2⟩ := ch_one (q := sg k) (R3 := s.2) (st := m.2.2) (hb k c) hr hz1 hhot hs o3
      have f1 := fc_1_ok (q := sg k) (R1 := R1) o2 o3
      rw [i3, ← i2]
      rw [i2] at g1 g2
      have ecb : cB sg gx gy hot (k + 1) = cB sg gx gy hot k + ec (sg k) gx gy hot := rfl
      have emo := cB_le (sg := sg) (gx := gx) (gy := gy) (hot := hot) (show k + 1 ≤ n by omega)
      rw [ecb] at emo
      by_cases d : cB sg gx gy hot k + ec (sg k) gx gy hot ≤ 65536
      · obtain ⟨a1, r, r1, r2, r3, r4, r5⟩ := g1 d
        rw [← i2] at r1 r3 r4 r5
        have hf : fc_1 (sg k) R1 s.1 s.2 = ((rs_add 2049 s.1 (lN s.2.2.2), op_all (sg k) R1 (ap_all (sg k) R1 s.2).1 s.2.2.2), true) := if_pos a1
        rw [hf] at f1 ⊢
        rw [if_pos rfl, r1]
        obtain ⟨v1, v2, v3⟩ := rs_add_v (x := lN s.2.2.2) o2 (by omega)
        refine ih (k + 1) _ _ (by omega) (by omega) ⟨f1.1, by rw [v1, i1], r3.trans (by rw [i2]; rfl), by show s.2.2.2 + r.1 = _; rw [r2, i2]; rfl, fun i hi => ?_, fun i hi => ?_⟩
        · show (rs_add 2049 s.1 (lN s.2.2.2)).2.1 i = _ ∧ upd m.2.1 k (nI s.2.2.2) i = _
          by_cases e : i = k
          · rw [e, upd_s, ← i1, v3, i2, i1]
            exact ⟨rfl, rfl⟩
          · rw [upd_n e, v2 i (by omega)]
            exact i4 i (by omega)
        · show ∃ x, x < hot ∧ (op_all (sg k) R1 (ap_all (sg k) R1 s.2).1 s.2.2.2).2.1 i = lN x ∧ r.2.2.2.2 i = nI x
          have hi : i < cB sg gx gy hot k + ec (sg k) gx gy hot := hi
          by_cases e : i < cB sg gx gy hot k
          · obtain ⟨x, x1, x2, x3⟩ := i5 i e
            obtain ⟨y1, y2⟩ := r4 i (by omega)
            exact ⟨x, x1, by rw [y1, x2], by rw [y2, x3]⟩
          · obtain ⟨x, x1, x2, x3⟩ := r5 (i - cB sg gx gy hot k) (by omega)
            rw [show s.2.2.2 + (i - cB sg gx gy hot k) = i by omega] at x2 x3
            exact ⟨x, x1, x2, x3⟩
      · obtain ⟨a1, a2⟩ := g2 d
        rw [← i2] at a2
        have hf : fc_1 (sg k) R1 s.1 s.2 = ((rs_add 2049 s.1 (lN s.2.2.2), (ap_all (sg k) R1 s.2).1), false) := if_neg (by rw [a1]; decide)
        rw [hf, a2]
        exact ⟨fun b => by omega, fun _ => ⟨rfl, rfl⟩⟩
    · rw [if_neg c, if_neg c]
      have hk : k = n := by omega
      subst hk
      have hz := Nat.le_trans o3.2.1 o3.2.2
      refine ⟨fun b => ⟨rfl, _, rfl, ⟨rs_add_o o2, o3⟩, ?_, i2, i3, fun i hi => ?_, i5⟩, fun b => by omega⟩
      · show (rs_add 2049 s.1 (lN s.2.2.2)).2.2 = _
        rw [(rs_add_v (x := lN s.2.2.2) o2 (by omega)).1, i1]
      · obtain ⟨v1, v2, v3⟩ := rs_add_v (x := lN s.2.2.2) o2 (by omega)
        show (rs_add 2049 s.1 (lN s.2.2.2)).2.1 i = _ ∧ upd m.2.1 k (nI m.1) i = _
        by_cases e : i = k
        · rw [e, upd_s, ← i1, v3, i3, i2, i1]
          exact ⟨rfl, rfl⟩
        · rw [upd_n e, v2 i (by omega)]
          exact i4 i (by omega)
/-- both lay the same chains, or both too many places -/
theorem chains_eq {sg : Nat → SQ} {e gx gy bg : Nat → Int32} {hot n : Nat} {R1 R2 R3 : RS} {st : CT} (hn : n ≤ 2048) (hq : ∀ k, k < n → mq e k = sg k) (hb : ∀ k, k < n → bnd (sg k)) (hr : hR R1.2.1 gx gy hot) (hz1 : R1.2.2 = hot) (hhot : hot ≤ 8192) (hs : ∀ i j, i < j → j < hot → (R1.2.1 i).toInt < (R1.2.1 j).toInt)
    (o2 : rs_ok 2049 R2) (o3 : rs_ok 65536 R3) (z2 : R2.2.2 = 0) (z3 : R3.2.2 = 0) :
    (cB sg gx gy hot n ≤ 65536 ∧ (fc_all sg n R1 R2 R3).2 = true ∧ ∃ M, ch_s e gx gy n hot (n + 1) 0 (0, bg, st) = some M ∧ rl sg gx gy hot (n + 1) n (fc_all sg n R1 R2 R3).1 M) ∨ ((fc_all sg n R1 R2 R3).2 = false ∧ ch_s e gx gy n hot (n + 1) 0 (0, bg, st) = none) := by
  obtain ⟨a1, a2⟩ := ch_all (e := e) hn hq hb hr hz1 hhot hs (n + 1) 0 (R2, R3) (0, bg, st) (by omega) (by omega) ⟨⟨o2, o3⟩, z2, z3, rfl, fun i hi => absurd hi (Nat.not_lt_zero _), fun i hi => absurd hi (Nat.not_lt_zero _)⟩
  by_cases c : cB sg gx gy hot n ≤ 65536
  · exact Or.inl ⟨c, a1 c⟩
  · exact Or.inr (a2 c)
