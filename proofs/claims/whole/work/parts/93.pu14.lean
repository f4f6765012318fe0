/-! Pure rows: both find the same pieces -/
def kv (v : Int64) : Int := kz (v.toInt / 8192) (v.toInt % 8192)
def kr (v : Int64) : Prop := 0 ≤ v.toInt ∧ v.toInt < 67108864
theorem kv_lt {u v : Int64} : kv u < kv v ↔ u.toInt < v.toInt := by unfold kv kz; omega
theorem kv_inj {u v : Int64} (h : kv u = kv v) : u = v := Int64.toInt.inj (by unfold kv kz at h; omega)
theorem kv_n {a b : Nat} (ha : a < 8192) (hb : b < 8192) : kv (lN (a * 8192 + b)) = kz (nI a).toInt (nI b).toInt ∧ kr (lN (a * 8192 + b)) := by
  unfold kv kr
  rw [pf_lI (by omega), nI_i (by omega), nI_i (by omega)]
  refine ⟨?_, by omega⟩
  congr 1 <;> omega
theorem in5_n {a : Nat} (ha : a < 8192) : in5 (nI a) := by
  unfold in5
  rw [nI_i (by omega)]
  omega
theorem fp_k_i {x y : Nat} (hx : x < 8192) (hy : y < 8192) : fp_k (lN x) (lN y) = lN ((if y < x then y else x) * 8192 + (if y < x then x else y)) := by
  have e : (lN y < lN x) ↔ y < x := by rw [Int64.lt_iff_toInt_lt, pf_lI (by omega), pf_lI (by omega)]; omega
  unfold fp_k
  by_cases c : y < x
  · rw [if_pos (e.mpr c), if_pos (e.mpr c), if_pos c, if_pos c, show Int32.toInt64 13 = (nI 13).toInt64 from rfl, wb_shl _ (by decide), show (2 : Nat) ^ 13 = 8192 from rfl]
    exact g_or (k := 13) rfl (by omega) (by omega)
  · rw [if_neg (fun z => c (e.mp z)), if_neg (fun z => c (e.mp z)), if_neg c, if_neg c, show Int32.toInt64 13 = (nI 13).toInt64 from rfl, wb_shl _ (by decide), show (2 : Nat) ^ 13 = 8192 from rfl]
    exact g_or (k := 13) rfl (by omega) (by omega)
theorem gt_ab {pl : Nat → Int32} {k x y : Nat} (hx : x < 8192) (hy : y < 8192) (h1 : pl k = nI x) (h2 : pl (k + 1) = nI y) : gt_a pl k = nI (if y < x then y else x) ∧ gt_b pl k = nI (if y < x then x else y) := by
  have e : (nI y ≤ nI x) ↔ y ≤ x := by rw [Int32.le_iff_toInt_le, nI_i (by omega), nI_i (by omega)]; omega
  unfold gt_a gt_b
  rw [h1, h2]
  by_cases c : y < x
  · rw [if_pos c, if_pos c, if_pos (e.mpr (by omega)), if_pos (e.mpr (by omega))]
    exact ⟨rfl, rfl⟩
  · rw [if_neg c, if_neg c]
    by_cases d : y = x
    · subst d
      rw [if_pos (e.mpr (by omega))]
      exact ⟨rfl, rfl⟩
    · rw [if_neg (fun z => d (by have := e.mp z; omega)), if_neg (fun z => d (by have := e.mp z; omega))]
      exact ⟨rfl, rfl⟩
def gH (G : GT) : HT := (G.1, G.2.1, G.2.2.2)
/-- the reference's pieces after those of the row Q -/
def LSQ (Q : RS) (G : GT) : Prop := rs_ok 65536 Q ∧ (∀ j, j < Q.2.2 → kr (Q.2.1 j)) ∧ hw (gH G) ∧ (∀ w, hm (gH G) w ↔ ∃ j, j < Q.2.2 ∧ kv (Q.2.1 j) = w) ∧ ∀ i j, i < G.2.2.2 → j < Q.2.2 → hk (gH G) i = kv (Q.2.1 j) → G.2.2.1 i = nI (ps_cnt Q.2.1 (Q.2.1 j) Q.2.2)
theorem hk_ins {s : HT} {k j n' : Nat} {x y : Int32} (hk1 : k ≤ s.2.2) (hj : j ≤ s.2.2) : hk (upd (mh_mv s.1 k s.2.2) k x, upd (mh_mv s.2.1 k s.2.2) k y, n') j = if j < k then hk s j else if j = k then kz x.toInt y.toInt else hk s (j - 1) := by
  show kz (upd (mh_mv s.1 k s.2.2) k x j).toInt (upd (mh_mv s.2.1 k s.2.2) k y j).toInt = _
  rw [ins_at hk1 hj, ins_at hk1 hj]
  by_cases c1 : j < k
  · rw [if_pos c1, if_pos c1, if_pos c1]; rfl
  · rw [if_neg c1, if_neg c1, if_neg c1]
    by_cases c2 : j = k
    · rw [if_pos c2, if_pos c2, if_pos c2]
    · rw [if_neg c2, if_neg c2, if_neg c2]; rfl
theorem mg_heat (G : GT) (a b : Int32) : gH (mg_g G a b) = mh_heat (gH G) a b := by
  unfold mg_g mg_ins mh_heat
  have e : mg_lo G a b = mh_lo (gH G) a b := rfl
  rw [e]
  show gH (_, _, _, _) = if mh_lo (gH G) a b < G.2.2.2 ∧ G.1 (mh_lo (gH G) a b) = a ∧ G.2.1 (mh_lo (gH G) a b) = b then gH G else _
  by_cases c : mh_lo (gH G) a b < G.2.2.2 ∧ G.1 (mh_lo (gH G) a b) = a ∧ G.2.1 (mh_lo (gH G) a b) = b
  · rw [if_pos c, if_pos c]; rfl
  · rw [if_neg c, if_neg c]; rfl
theorem cnt_add {Q : RS} {v u : Int64} (ok : rs_ok 65536 Q) (hz : Q.2.2 < 65536) : ps_cnt (rs_add 65536 Q v).2.1 u (rs_add 65536 Q v).2.2 = ps_cnt Q.2.1 u Q.2.2 + (if v = u then 1 else 0) := by
  obtain ⟨v1, v2, v3⟩ := rs_add_v (x := v) ok hz
  rw [v1, ps_cnt_succ, v3, ps_cnt_congr Q.2.2 v2]
theorem nI_s1 (c : Nat) : nI c + 1 = nI (c + 1) := (Int32.ofNat_add c 1).symm
theorem ls_add {Q : RS} {G : GT} {a b : Nat} (I : LSQ Q G) (hz : Q.2.2 < 65536) (ha : a < 8192) (hb : b < 8192) : LSQ (rs_add 65536 Q (lN (a * 8192 + b))) (mg_g G (nI a) (nI b)) := by
  obtain ⟨ok, i1, i2, i3, i4⟩ := I
  obtain ⟨kn, krn⟩ := kv_n ha hb
  obtain ⟨h1, h2⟩ := heat_spec i2 (in5_n ha) (in5_n hb)
  obtain ⟨v1, v2, v3⟩ := rs_add_v (x := lN (a * 8192 + b)) ok hz
  have hc := fun u => cnt_add (v := lN (a * 8192 + b)) (u := u) ok hz
  refine ⟨rs_add_o ok, fun j hj => ?_, by rw [mg_heat]; exact h1, fun w => ?_, ?_⟩
  · rw [v1] at hj
    by_cases c : j = Q.2.2
    · rw [c, v3]; exact krn
    · rw [v2 j (by omega)]; exact i1 j (by omega)
  · rw [mg_heat, h2, i3, v1]
    constructor
    · rintro (⟨j, a1, a2⟩ | h)
      · exact ⟨j, by omega, by rw [v2 j a1, a2]⟩
      · exact ⟨Q.2.2, by omega, by rw [v3, kn, h]⟩
    · rintro ⟨j, a1, a2⟩
      by_cases c : j = Q.2.2
      · rw [c, v3, kn] at a2
        exact Or.inr a2.symm
      · rw [v2 j (by omega)] at a2
        exact Or.inl ⟨j, by omega, a2⟩
  · obtain ⟨l1, l2, l3⟩ := lo_spec (s := gH G) (x := nI a) (y := nI b) i2 (in5_n hb)
    have vk : ∀ j, j < (rs_add 65536 Q (lN (a * 8192 + b))).2.2 → kv ((rs_add 65536 Q (lN (a * 8192 + b))).2.1 j) ≠ kz (nI a).toInt (nI b).toInt → (j < Q.2.2 ∧ (rs_add 65536 Q (lN (a * 8192 + b))).2.1 j = Q.2.1 j) ∧ ps_cnt (rs_add 65536 Q (lN (a * 8192 + b))).2.1 ((rs_add 65536 Q (lN (a * 8192 + b))).2.1 j) (rs_add 65536 Q (lN (a * 8192 + b))).2.2 = ps_cnt Q.2.1 (Q.2.1 j) Q.2.2 := by
      intro j hj hne
      rw [v1] at hj
      have hj2 : j ≠ Q.2.2 := fun c => hne (by rw [c, v3, kn])
      have e := v2 j (by omega)
      refine ⟨⟨by omega, e⟩, ?_⟩
      rw [hc, e, if_neg (fun c => hne (by rw [e, ← c, kn]))]
      rfl
    have ve : ∀ j, kv ((rs_add 65536 Q (lN (a * 8192 + b))).2.1 j) = kz (nI a).toInt (nI b).toInt → (rs_add 65536 Q (lN (a * 8192 + b))).2.1 j = lN (a * 8192 + b) := fun j h => kv_inj (by rw [h, kn])
    have elo : mg_lo G (nI a) (nI b) = mh_lo (gH G) (nI a) (nI b) := rfl
    unfold mg_g mg_ins
    rw [elo]
    generalize mh_lo (gH G) (nI a) (nI b) = p at l1 l2 l3 ⊢
    have l1 : p ≤ G.2.2.2 := l1
    by_cases c : p < G.2.2.2 ∧ G.1 p = nI a ∧ G.2.1 p = nI b
    · rw [if_pos c]
      intro i j hi hj he
      have hi : i < G.2.2.2 := hi
      have he : hk (gH G) i = _ := he
      show upd G.2.2.1 p (G.2.2.1 p + 1) i = _
      have hp : hk (gH G) p = kz (nI a).toInt (nI b).toInt := by
        show kz (G.1 p).toInt (G.2.1 p).toInt = _
        rw [c.2.1, c.2.2]
      by_cases e : i = p
      · rw [e, upd_s]
        rw [e, hp] at he
        rw [ve j he.symm, hc, if_pos rfl]
        obtain ⟨j0, j1, j2⟩ := (i3 _).mp ⟨p, c.1, hp⟩
        have e0 : Q.2.1 j0 = lN (a * 8192 + b) := kv_inj (by rw [j2, kn])
        rw [i4 p j0 c.1 j1 (by rw [hp, j2]), e0, nI_s1]
      · rw [upd_n e]
        have hne : hk (gH G) i ≠ kz (nI a).toInt (nI b).toInt := by
          rw [← hp]
          rcases Nat.lt_or_gt_of_ne e with g | g
          · have := i2.2 i p g c.1; omega
          · have := i2.2 p i g hi; omega
        obtain ⟨⟨x1, x2⟩, x3⟩ := vk j hj (fun z => hne (he.trans z))
        rw [x3]
        exact i4 i j hi x1 (by rw [he, x2])
    · rw [if_neg c]
      intro i j hi hj he
      have hi : i < G.2.2.2 + 1 := hi
      have he : hk (upd (mh_mv G.1 p G.2.2.2) p (nI a), upd (mh_mv G.2.1 p G.2.2.2) p (nI b), G.2.2.2 + 1) i = _ := he
      have he := (hk_ins (s := gH G) (x := nI a) (y := nI b) (n' := G.2.2.2 + 1) l1 (show i ≤ (gH G).2.2 from by show i ≤ G.2.2.2; omega)).symm.trans he
      show upd (upd (mh_mv G.2.2.1 p G.2.2.2) p 0) p (upd (mh_mv G.2.2.1 p G.2.2.2) p 0 p + 1) i = _
      have hnot : ∀ i, i < G.2.2.2 → hk (gH G) i ≠ kz (nI a).toInt (nI b).toInt := by
        intro i0 hi0 z
        have z0 := z
        unfold hk at z
        rw [kz_inj (i2.1 i0 hi0).2 (in5_n hb)] at z
        by_cases g : i0 = p
        · exact c ⟨by omega, by rw [← g]; exact Int32.toInt.inj z.1, by rw [← g]; exact Int32.toInt.inj z.2⟩
        · by_cases g2 : i0 < p
          · have := l2 i0 g2; omega
          · have g3 := l3 p (Nat.le_refl _) (show p < G.2.2.2 by omega)
            have g4 := i2.2 p i0 (by omega) hi0
            omega
      by_cases e : i = p
      · rw [e, upd_s, upd_s]
        rw [if_neg (by omega), if_pos e] at he
        rw [ve j he.symm, hc, if_pos rfl]
        have : ps_cnt Q.2.1 (lN (a * 8192 + b)) Q.2.2 = 0 := by
          rw [cnt_none (b := 0) (Nat.zero_le _) (fun j0 _ h0 z => by
            obtain ⟨i0, x1, x2⟩ := (i3 _).mpr ⟨j0, h0, rfl⟩
            rw [z, kn] at x2
            exact hnot i0 x1 x2)]
          rfl
        rw [this]; rfl
      · rw [upd_n e, ins_at l1 (show i ≤ G.2.2.2 by omega)]
        by_cases g : i < p
        · rw [if_pos g]
          rw [if_pos g] at he
          obtain ⟨⟨x1, x2⟩, x3⟩ := vk j hj (fun z => hnot i (by omega) (he.trans z))
          rw [x3]
          exact i4 i j (by omega) x1 (by rw [he, x2])
        · rw [if_neg g, if_neg e]
          rw [if_neg g, if_neg e] at he
          obtain ⟨⟨x1, x2⟩, x3⟩ := vk j hj (fun z => hnot (i - 1) (by omega) (he.trans z))
          rw [x3]
          exact i4 (i - 1) j (by omega) x1 (by rw [he, x2])
theorem fp_i_ls {f3 : Nat → Int64} {pl : Nat → Int32} {C : Nat} (hC : C ≤ 65536) (hp : ∀ i, i < C → ∃ x, x < 8192 ∧ f3 i = lN x ∧ pl i = nI x) : ∀ (fu j e : Nat) (R : RS) (G : GT), e ≤ C → j ≤ e → R.2.2 ≤ j → LSQ R G → LSQ (fp_i f3 fu j e R) (gt_k pl fu j e G) ∧ (fp_i f3 fu j e R).2.2 ≤ e := by
  intro fu
  induction fu with
  | zero =>
    intro j e R G h1 h2 h3 I
    exact ⟨I, by show R.2.2 ≤ e; omega⟩
  | succ fu ih =>
    intro j e R G h1 h2 h3 I
    unfold fp_i gt_k
    by_cases c : j + 1 < e
    · rw [if_pos c, if_pos c]
      obtain ⟨x, x1, x2, x3⟩ := hp j (by omega)
      obtain ⟨y, y1, y2, y3⟩ := hp (j + 1) (by omega)
      obtain ⟨g1, g2⟩ := gt_ab x1 y1 x3 y3
      rw [x2, y2, fp_k_i x1 y1, g1, g2]
      have I2 := ls_add (a := if y < x then y else x) (b := if y < x then x else y) I (by omega) (by split <;> omega) (by split <;> omega)
      refine ih (j + 1) e _ _ h1 (by omega) ?_ I2
      rw [(rs_add_v I.1 (by omega)).1]
      omega
    · rw [if_neg c, if_neg c]
      exact ⟨I, by omega⟩
theorem fp_s_ls {f3 : Nat → Int64} {pl : Nat → Int32} {B : Nat → Nat} {C k : Nat} (hC : C ≤ 65536) (hp : ∀ i, i < C → ∃ x, x < 8192 ∧ f3 i = lN x ∧ pl i = nI x) (hB : ∀ i, i < k → B i ≤ B (i + 1)) (hBC : ∀ i, i ≤ k → B i ≤ C) : ∀ (fu i : Nat) (R : RS) (G : GT), i ≤ k → R.2.2 ≤ B i → LSQ R G → LSQ (fp_s f3 B k fu i R) (gt_s pl B k fu i G) ∧ (fp_s f3 B k fu i R).2.2 ≤ C := by
  intro fu
  induction fu with
  | zero =>
    intro i R G h1 h2 I
    exact ⟨I, Nat.le_trans h2 (hBC i h1)⟩
  | succ fu ih =>
    intro i R G h1 h2 I
    unfold fp_s gt_s
    by_cases c : i < k
    · rw [if_pos c, if_pos c]
      obtain ⟨a1, a2⟩ := fp_i_ls hC hp 65537 (B i) (B (i + 1)) R G (hBC (i + 1) (by omega)) (hB i c) h2 I
      exact ih (i + 1) _ _ (by omega) a2 a1
    · rw [if_neg c, if_neg c]
      exact ⟨I, Nat.le_trans h2 (hBC i h1)⟩
/-- both have the same pieces, with the same counts -/
theorem pieces_eq {f3 : Nat → Int64} {pl gl gh go : Nat → Int32} {B : Nat → Nat} {C k : Nat} {R4 R5 : RS} (hC : C ≤ 65536) (hp : ∀ i, i < C → ∃ x, x < 8192 ∧ f3 i = lN x ∧ pl i = nI x) (hB : ∀ i, i < k → B i ≤ B (i + 1)) (hBC : ∀ i, i ≤ k → B i ≤ C) (o4 : rs_ok 65536 R4) (o5 : rs_ok 65536 R5) (z4 : R4.2.2 = 0) (z5 : R5.2.2 = 0) :
    (mh_m (fp_a f3 B k R4)).2.2 = (gt_s pl B k (k + 1) 0 (gl, gh, go, 0)).2.2.2 ∧ (fp_u (fp_a f3 B k R4) R5).2.2 = (gt_s pl B k (k + 1) 0 (gl, gh, go, 0)).2.2.2 ∧ (gt_s pl B k (k + 1) 0 (gl, gh, go, 0)).2.2.2 ≤ 65536 ∧
    ∀ i, i < (gt_s pl B k (k + 1) 0 (gl, gh, go, 0)).2.2.2 → ∃ a b c, (a < 8192 ∧ b < 8192 ∧ c ≤ 65536) ∧ (mh_m (fp_a f3 B k R4)).2.1 i = lN (a * 8192 + b) ∧ (gt_s pl B k (k + 1) 0 (gl, gh, go, 0)).1 i = nI a ∧ (gt_s pl B k (k + 1) 0 (gl, gh, go, 0)).2.1 i = nI b ∧ (fp_u (fp_a f3 B k R4) R5).2.1 i = lN c ∧ (gt_s pl B k (k + 1) 0 (gl, gh, go, 0)).2.2.1 i = nI c := by
  obtain ⟨⟨ok, i1, i2, i3, i4⟩, hz⟩ := fp_s_ls hC hp hB hBC (k + 1) 0 R4 (gl, gh, go, 0) (Nat.zero_le _) (by omega) ⟨o4, fun j hj => by omega, ⟨fun i hi => absurd hi (Nat.not_lt_zero _), fun i j _ hj => absurd hj (Nat.not_lt_zero _)⟩, fun w => ⟨fun ⟨i, hi, _⟩ => absurd hi (Nat.not_lt_zero _), fun ⟨j, hj, _⟩ => by omega⟩, fun i j hi => absurd hi (Nat.not_lt_zero _)⟩
  unfold fp_a
  generalize fp_s f3 B k (k + 1) 0 R4 = Q at ok i1 i3 i4 hz ⊢
  generalize gt_s pl B k (k + 1) 0 (gl, gh, go, 0) = G at i2 i3 i4 ⊢
  obtain ⟨u1, u2⟩ := fp_u_spec (Q := Q) (by omega) o5 z5
  have hst := mh_st Q
  have hhas := mh_has Q
  obtain ⟨e1, e2⟩ := so_eq (f := fun i => kv ((mh_m Q).2.1 i)) (g := hk (gH G)) (n := (mh_m Q).2.2) (m := G.2.2.2) (fun i j h1 h2 => kv_lt.mpr (hst i j h1 h2)) i2.2 (fun i hi => by
      obtain ⟨j, j1, j2⟩ := (hhas _).mp ⟨i, hi, rfl⟩
      obtain ⟨i', a1, a2⟩ := (i3 _).mpr ⟨j, j1, rfl⟩
      exact ⟨i', a1, by rw [a2, j2]⟩) (fun i hi => by
      obtain ⟨j, j1, j2⟩ := (i3 _).mp ⟨i, hi, rfl⟩
      obtain ⟨i', a1, a2⟩ := (hhas _).mpr ⟨j, j1, rfl⟩
      exact ⟨i', a1, by show kv ((mh_m Q).2.1 i') = _; rw [a2, j2]⟩)
  refine ⟨e1, by rw [u1, e1], by have := mh_le Q; omega, fun i hi => ?_⟩
  have hiW : i < (mh_m Q).2.2 := by omega
  have h7 := e2 i hiW
  have h7 : kv ((mh_m Q).2.1 i) = hk (gH G) i := h7
  obtain ⟨j, j1, j2⟩ := (hhas _).mp ⟨i, hiW, rfl⟩
  have hr := i1 j j1
  rw [j2] at hr
  have h8 := u2 i hiW
  have h9 := i4 i j hi j1 (by rw [← h7, j2])
  rw [j2] at h9
  have hcl := cnt_le Q.2.1 ((mh_m Q).2.1 i) Q.2.2
  unfold kr at hr
  generalize (mh_m Q).2.1 i = v at h7 hr h8 h9 hcl ⊢
  refine ⟨v.toInt.toNat / 8192, v.toInt.toNat % 8192, ps_cnt Q.2.1 v Q.2.2, ⟨by omega, by omega, by omega⟩, ?_, ?_, ?_, h8, h9⟩
  · rw [Nat.div_add_mod']
    exact i64_lN hr.1
  · unfold kv hk at h7
    rw [kz_inj (by omega) (i2.1 i hi).2] at h7
    apply Int32.toInt.inj
    rw [nI_i (by omega)]
    have := h7.1
    show (G.1 i).toInt = _
    have h10 : (gH G).1 i = G.1 i := rfl
    rw [h10] at this
    omega
  · unfold kv hk at h7
    rw [kz_inj (by omega) (i2.1 i hi).2] at h7
    apply Int32.toInt.inj
    rw [nI_i (by omega)]
    have := h7.2
    show (G.2.1 i).toInt = _
    have h10 : (gH G).2.1 i = G.2.1 i := rfl
    rw [h10] at this
    omega
