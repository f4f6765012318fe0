/-! Pure rows: the reference's chain of a segment; both lay the same chains -/
theorem nI_i {a : Nat} (ha : a < 2 ^ 31) : (nI a).toInt = (a : Int) := Int32.toInt_ofNat_of_lt ha
def pk3 (q : SQ) (gx gy : Nat → Int32) (v : Int32) : Int := pk q (gx v.toInt.toNat) (gy v.toInt.toNat)
theorem pk3_n {q : SQ} {gx gy : Nat → Int32} {x : Nat} (hx : x < 2 ^ 31) : pk3 q gx gy (nI x) = pk q (gx x) (gy x) := by
  unfold pk3
  rw [nI_i hx]
  rfl
theorem pk_ne {q : SQ} {x y x' y' : Int32} (h : bnd q) (hx : in5 x) (hy : in5 y) (hx' : in5 x') (hy' : in5 y') (h1 : mi_in q x y) (h2 : mi_in q x' y') (hne : ¬ (x = x' ∧ y = y')) : pk q x y ≠ pk q x' y' := by
  have inj : ∀ w X X' : Int, gX w X = gX w X' → X = X' := by
    intro w X X' h
    unfold gX at h
    split at h <;> omega
  intro he
  rcases Int.lt_trichotomy (gX (swx q).toInt (qx q x)) (gX (swx q).toInt (qx q x')) with c | c | c
  · have := pkl_lt (y' := y') h hx hy h1 (Or.inl c); omega
  · rcases Int.lt_trichotomy (gX (swy q).toInt (qy q y)) (gX (swy q).toInt (qy q y')) with d | d | d
    · have := pkl_lt h hx hy h1 (Or.inr ⟨c, d⟩); omega
    · apply hne
      have e1 := inj _ _ _ c
      have e2 := inj _ _ _ d
      unfold qx at e1
      unfold qy at e2
      exact ⟨Int32.toInt.inj (by omega), Int32.toInt.inj (by omega)⟩
    · have := pkl_lt h hx' hy' h2 (Or.inr ⟨c.symm, d⟩); omega
  · have := pkl_lt (y' := y) h hx' hy' h2 (Or.inl c); omega
theorem pos_spec {D : Int} (hD : 0 < D) {v : Int64 × Int64 × Int32} {ov un : Nat → Int64} {cl : Nat → Int32} {Kv : Int} (hv : SK D v Kv) : ∀ (n : Nat) (K : Nat → Int), (∀ i, i < n → SK D (ov i, un i, cl i) (K i)) →
    in_pos v ov un cl n ≤ n ∧ (∀ i, in_pos v ov un cl n ≤ i → i < n → Kv < K i) ∧ (0 < in_pos v ov un cl n → ¬ Kv < K (in_pos v ov un cl n - 1)) := by
  intro n
  induction n with
  | zero =>
    intro K _
    exact ⟨Nat.le_refl _, fun i _ h => absurd h (Nat.not_lt_zero _), fun h => absurd h (Nat.lt_irrefl _)⟩
  | succ n ih =>
    intro K hK
    have e := less_i hD hv (hK n (by omega))
    unfold in_pos
    by_cases c : in_less v (ov n) (un n) (cl n)
    · rw [if_pos c]
      obtain ⟨a1, a2, a3⟩ := ih K (fun i hi => hK i (by omega))
      refine ⟨by omega, fun i h1 h2 => ?_, a3⟩
      by_cases d : i = n
      · rw [d]; exact e.mp c
      · exact a2 i h1 (by omega)
    · rw [if_neg c]
      refine ⟨Nat.le_refl _, fun i h1 h2 => by omega, fun _ => ?_⟩
      rw [Nat.add_sub_cancel]
      exact fun z => c (e.mpr z)
theorem insL {g : Nat → Int64} {p n : Nat} {x : Int64} {j : Nat} (hp : p ≤ n) (hj : j ≤ n) : vp_updL (mvG g p n) p x j = if j < p then g j else if j = p then x else g (j - 1) := by
  unfold vp_updL mvG
  by_cases c1 : j < p
  · rw [if_pos c1, if_neg (by omega), if_neg (by omega)]
  · rw [if_neg c1]
    by_cases c2 : j = p
    · rw [if_pos c2, if_pos c2]
    · rw [if_neg c2, if_neg c2, if_pos (by omega)]
theorem insI {g : Nat → Int32} {p n : Nat} {x : Int32} {j : Nat} (hp : p ≤ n) (hj : j ≤ n) : upd (mvG g p n) p x j = if j < p then g j else if j = p then x else g (j - 1) := by
  unfold upd mvG
  by_cases c1 : j < p
  · rw [if_pos c1, if_neg (by omega), if_neg (by omega)]
  · rw [if_neg c1]
    by_cases c2 : j = p
    · rw [if_pos c2, if_pos c2]
    · rw [if_neg c2, if_neg c2, if_pos (by omega)]
theorem insA {g : Nat → Int32} {a p n : Nat} {x : Int32} {j : Nat} (hp : p ≤ n) (hj : j ≤ n) : upd (mvG g (a + p) (a + n)) (a + p) x (a + j) = if j < p then g (a + j) else if j = p then x else g (a + (j - 1)) := by
  rw [insI (by omega) (by omega)]
  by_cases c1 : j < p
  · rw [if_pos c1, if_pos (by omega)]
  · rw [if_neg c1, if_neg (by omega)]
    by_cases c2 : j = p
    · rw [if_pos c2, if_pos (by omega)]
    · rw [if_neg c2, if_neg (by omega)]
      congr 1
      omega
theorem insB {g : Nat → Int32} {a p n : Nat} {x : Int32} {j : Nat} (hj : j < a) : upd (mvG g (a + p) (a + n)) (a + p) x j = g j := by
  unfold upd mvG
  rw [if_neg (by omega), if_neg (by omega)]
/-- what stands of a segment's chain after h hot pixels -/
def cI (q : SQ) (gx gy : Nat → Int32) (at9 h : Nat) (s : Nat × CT) : Prop :=
  s.1 = ec q gx gy h ∧
  (∀ i, i < s.1 → ∃ x, x < h ∧ mi_in q (gx x) (gy x) ∧ s.2.2.2.2 (at9 + i) = nI x ∧ SK (gD (swx q).toInt * gD (swy q).toInt) (s.2.1 i, s.2.2.1 i, s.2.2.2.1 i) (pk q (gx x) (gy x))) ∧
  (∀ x, x < h → mi_in q (gx x) (gy x) → ∃ i, i < s.1 ∧ s.2.2.2.2 (at9 + i) = nI x) ∧
  ∀ i j, i < j → j < s.1 → pk3 q gx gy (s.2.2.2.2 (at9 + i)) < pk3 q gx gy (s.2.2.2.2 (at9 + j))
theorem ci_ins {q : SQ} {gx gy : Nat → Int32} {at9 h hot : Nat} {s : Nat × CT} (hb : bnd q) (hhot : hot ≤ 8192) (h5 : ∀ i, i < hot → in5 (gx i) ∧ in5 (gy i)) (hd : ∀ i j, i < j → j < hot → ¬ (gx i = gx j ∧ gy i = gy j)) (hh : h < hot) (hin : mi_in q (gx h) (gy h)) (I : cI q gx gy at9 h s) :
    cI q gx gy at9 (h + 1) (s.1 + 1, ch_ins (mi_iv q (gx h) (gy h)).1 at9 s.1 (nI h) s.2) ∧ ∀ j, j < at9 → (ch_ins (mi_iv q (gx h) (gy h)).1 at9 s.1 (nI h) s.2).2.2.2 j = s.2.2.2.2 j := by
  have hD : 0 < gD (swx q).toInt * gD (swy q).toInt := Int.mul_pos (gD_p _) (gD_p _)
  have hv := pk_sk hb (h5 h hh).1 (h5 h hh).2 hin
  obtain ⟨p1, p2, p3⟩ := pos_spec hD hv s.1 (fun i => pk3 q gx gy (s.2.2.2.2 (at9 + i))) (fun i hi => by
    obtain ⟨x, x1, x2, x3, x4⟩ := I.2.1 i hi
    rw [x3, pk3_n (by omega)]
    exact x4)
  have p4 : ∀ i, i < in_pos (mi_iv q (gx h) (gy h)).1 s.2.1 s.2.2.1 s.2.2.2.1 s.1 → pk3 q gx gy (s.2.2.2.2 (at9 + i)) < pk q (gx h) (gy h) := by
    intro i hi
    have step : pk3 q gx gy (s.2.2.2.2 (at9 + (in_pos (mi_iv q (gx h) (gy h)).1 s.2.1 s.2.2.1 s.2.2.2.1 s.1 - 1))) < pk q (gx h) (gy h) := by
      have a1 := p3 (by omega)
      obtain ⟨x, x1, x2, x3, x4⟩ := I.2.1 (in_pos (mi_iv q (gx h) (gy h)).1 s.2.1 s.2.2.1 s.2.2.2.1 s.1 - 1) (by omega)
      rw [x3, pk3_n (by omega)] at a1 ⊢
      have := pk_ne hb (h5 x (by omega)).1 (h5 x (by omega)).2 (h5 h hh).1 (h5 h hh).2 x2 hin (hd x h x1 hh)
      omega
    by_cases c : i = in_pos (mi_iv q (gx h) (gy h)).1 s.2.1 s.2.2.1 s.2.2.2.1 s.1 - 1
    · rw [c]; exact step
    · have := I.2.2.2 i (in_pos (mi_iv q (gx h) (gy h)).1 s.2.1 s.2.2.1 s.2.2.2.1 s.1 - 1) (by omega) (by omega)
      omega
  clear p3
  unfold ch_ins
  generalize in_pos (mi_iv q (gx h) (gy h)).1 s.2.1 s.2.2.1 s.2.2.2.1 s.1 = p at p1 p2 p4 ⊢
  have eo : ∀ j, j ≤ s.1 → _ := fun j hj => insL (g := s.2.1) (x := (mi_iv q (gx h) (gy h)).1.1) p1 hj
  have eu : ∀ j, j ≤ s.1 → _ := fun j hj => insL (g := s.2.2.1) (x := (mi_iv q (gx h) (gy h)).1.2.1) p1 hj
  have ec' : ∀ j, j ≤ s.1 → _ := fun j hj => insI (g := s.2.2.2.1) (x := (mi_iv q (gx h) (gy h)).1.2.2) p1 hj
  have ep : ∀ j, j ≤ s.1 → _ := fun j hj => insA (g := s.2.2.2.2) (a := at9) (x := nI h) p1 hj
  have eb : ∀ j, j < at9 → _ := fun j hj => insB (g := s.2.2.2.2) (a := at9) (p := p) (n := s.1) (x := nI h) hj
  refine ⟨⟨?_, fun i hi => ?_, fun x hx hm => ?_, fun i j hij hj => ?_⟩, eb⟩
  · show s.1 + 1 = _
    rw [ec_y hin, I.1]
  · have hi : i < s.1 + 1 := hi
    dsimp only
    rw [eo i (by omega), eu i (by omega), ec' i (by omega), ep i (by omega)]
    by_cases c1 : i < p
    · rw [if_pos c1, if_pos c1, if_pos c1, if_pos c1]
      obtain ⟨x, x1, x2, x3, x4⟩ := I.2.1 i (by omega)
      exact ⟨x, by omega, x2, x3, x4⟩
    · rw [if_neg c1, if_neg c1, if_neg c1, if_neg c1]
      by_cases c2 : i = p
      · rw [if_pos c2, if_pos c2, if_pos c2, if_pos c2]
        exact ⟨h, by omega, hin, rfl, hv⟩
      · rw [if_neg c2, if_neg c2, if_neg c2, if_neg c2]
        obtain ⟨x, x1, x2, x3, x4⟩ := I.2.1 (i - 1) (by omega)
        exact ⟨x, by omega, x2, x3, x4⟩
  · dsimp only
    by_cases c : x = h
    · refine ⟨p, by omega, ?_⟩
      rw [ep p p1, if_neg (by omega), if_pos rfl, c]
    · obtain ⟨i, i1, i2⟩ := I.2.2.1 x (by omega) hm
      by_cases c1 : i < p
      · refine ⟨i, by omega, ?_⟩
        rw [ep i (by omega), if_pos c1, i2]
      · refine ⟨i + 1, by omega, ?_⟩
        rw [ep (i + 1) (by omega), if_neg (by omega), if_neg (by omega), Nat.add_sub_cancel, i2]
  · have hj : j < s.1 + 1 := hj
    dsimp only
    rw [ep i (by omega), ep j (by omega)]
    by_cases c1 : i < p
    · rw [if_pos c1]
      by_cases d1 : j < p
      · rw [if_pos d1]; exact I.2.2.2 i j hij (by omega)
      · rw [if_neg d1]
        by_cases d2 : j = p
        · rw [if_pos d2, pk3_n (by omega)]; exact p4 i c1
        · rw [if_neg d2]; exact I.2.2.2 i (j - 1) (by omega) (by omega)
    · rw [if_neg c1, if_neg (show ¬ j < p by omega), if_neg (show ¬ j = p by omega)]
      by_cases c2 : i = p
      · rw [if_pos c2, pk3_n (by omega)]; exact p2 (j - 1) (by omega) (by omega)
      · rw [if_neg c2]; exact I.2.2.2 (i - 1) (j - 1) (by omega) (by omega)
theorem ci_skip {q : SQ} {gx gy : Nat → Int32} {at9 h : Nat} {s : Nat × CT} (hin : ¬ mi_in q (gx h) (gy h)) (I : cI q gx gy at9 h s) : cI q gx gy at9 (h + 1) s := by
  refine ⟨by rw [ec_n hin, I.1], fun i hi => ?_, fun x hx hm => ?_, I.2.2.2⟩
  · obtain ⟨x, x1, x2⟩ := I.2.1 i hi
    exact ⟨x, by omega, x2⟩
  · by_cases c : x = h
    · rw [c] at hm; exact absurd hm hin
    · exact I.2.2.1 x (by omega) hm
theorem chh_spec {q : SQ} {gx gy : Nat → Int32} {at9 hot : Nat} (hb : bnd q) (hhot : hot ≤ 8192) (h5 : ∀ i, i < hot → in5 (gx i) ∧ in5 (gy i)) (hd : ∀ i j, i < j → j < hot → ¬ (gx i = gx j ∧ gy i = gy j)) : ∀ (fu h : Nat) (s : Nat × CT), hot < h + fu → h ≤ hot → at9 + s.1 ≤ 65536 → cI q gx gy at9 h s →
    (at9 + ec q gx gy hot ≤ 65536 → ∃ r, ch_h q gx gy hot at9 fu h s = some r ∧ cI q gx gy at9 hot r ∧ ∀ j, j < at9 → r.2.2.2.2 j = s.2.2.2.2 j) ∧ (¬ at9 + ec q gx gy hot ≤ 65536 → ch_h q gx gy hot at9 fu h s = none) := by
  intro fu
  induction fu with
  | zero => intro h s h1 h2; omega
  | succ fu ih =>
    intro h s h1 h2 h3 I
    unfold ch_h
    by_cases c : h < hot
    · rw [if_pos c]
      have hmono := ec_le (q := q) (gx := gx) (gy := gy) (show h + 1 ≤ hot by omega)
      by_cases d : mi_in q (gx h) (gy h)
      · rw [if_neg (fun z => b01_z0.mp z d)]
        rw [ec_y d, ← I.1] at hmono
        by_cases g : at9 + s.1 = 65536
        · rw [if_pos g]
          exact ⟨fun b => by omega, fun _ => rfl⟩
        · rw [if_neg g]
          obtain ⟨I2, I3⟩ := ci_ins hb hhot h5 hd c d I
          obtain ⟨r1, r2⟩ := ih (h + 1) _ (by omega) (by omega) (by show at9 + (s.1 + 1) ≤ 65536; omega) I2
          refine ⟨fun b => ?_, r2⟩
          obtain ⟨r, e1, e2, e3⟩ := r1 b
          exact ⟨r, e1, e2, fun j hj => (e3 j hj).trans (I3 j hj)⟩
      · rw [if_pos (b01_z0.mpr d)]
        exact ih (h + 1) s (by omega) (by omega) h3 (ci_skip d I)
    · rw [if_neg c]
      have : h = hot := by omega
      subst this
      exact ⟨fun _ => ⟨s, rfl, I, fun _ _ => rfl⟩, fun b => absurd (by rw [← I.1]; exact h3) b⟩
/-- where the chains begin -/
noncomputable def cB (sg : Nat → SQ) (gx gy : Nat → Int32) (hot : Nat) : Nat → Nat
  | 0 => 0
  | k + 1 => cB sg gx gy hot k + ec (sg k) gx gy hot
theorem cB_le {sg : Nat → SQ} {gx gy : Nat → Int32} {hot k n : Nat} (h : k ≤ n) : cB sg gx gy hot k ≤ cB sg gx gy hot n := by
  induction n with
  | zero => rw [show k = 0 by omega]; exact Nat.le_refl _
  | succ n ih =>
    by_cases c : k = n + 1
    · rw [c]; exact Nat.le_refl _
    · have := ih (by omega)
      show _ ≤ cB sg gx gy hot n + _
      omega
/-- one segment's chain: both the same -/
theorem ch_one {q : SQ} {R1 R3 : RS} {gx gy : Nat → Int32} {hot : Nat} {st : CT} (hb : bnd q) (hr : hR R1.2.1 gx gy hot) (hz1 : R1.2.2 = hot) (hhot : hot ≤ 8192) (hs : ∀ i j, i < j → j < hot → (R1.2.1 i).toInt < (R1.2.1 j).toInt) (ok : rs_ok 65536 R3) :
    (R3.2.2 + ec q gx gy hot ≤ 65536 → (ap_all q R1 R3).2 = true ∧ ∃ r, ch_h q gx gy hot R3.2.2 (hot + 1) 0 (0, st) = some r ∧ r.1 = ec q gx gy hot ∧ (op_all q R1 (ap_all q R1 R3).1 R3.2.2).2.2 = R3.2.2 + ec q gx gy hot ∧
      (∀ i, i < R3.2.2 → (op_all q R1 (ap_all q R1 R3).1 R3.2.2).2.1 i = R3.2.1 i ∧ r.2.2.2.2 i = st.2.2.2 i) ∧ ∀ i, i < ec q gx gy hot → ∃ x, x < hot ∧ (op_all q R1 (ap_all q R1 R3).1 R3.2.2).2.1 (R3.2.2 + i) = lN x ∧ r.2.2.2.2 (R3.2.2 + i) = nI x) ∧
    (¬ R3.2.2 + ec q gx gy hot ≤ 65536 → (ap_all q R1 R3).2 = false ∧ ch_h q gx gy hot R3.2.2 (hot + 1) 0 (0, st) = none) := by
  have h5 : ∀ i, i < hot → in5 (gx i) ∧ in5 (gy i) := fun i hi => (hr i hi).1
  have hd : ∀ i j, i < j → j < hot → ¬ (gx i = gx j ∧ gy i = gy j) := by
    rintro i j h1 h2 ⟨e1, e2⟩
    have := hs i j h1 h2
    rw [(hr i (by omega)).2, (hr j h2).2, e1, e2] at this
    omega
  obtain ⟨a1, a2⟩ := ap_all_spec (R3 := R3) hb hr hz1 hhot hs ok
  have hz3 := Nat.le_trans ok.2.1 ok.2.2
  obtain ⟨m1, m2⟩ := chh_spec (at9 := R3.2.2) hb hhot h5 hd (hot + 1) 0 (0, st) (by omega) (by omega) hz3 ⟨rfl, fun i hi => absurd hi (Nat.not_lt_zero _), fun x hx => absurd hx (Nat.not_lt_zero _), fun i j _ hj => absurd hj (Nat.not_lt_zero _)⟩
  refine ⟨fun b => ?_, fun b => ⟨a2 b, m2 b⟩⟩
  obtain ⟨a3, a4, a5, a6, a7, a8⟩ := a1 b
  obtain ⟨r, r1, r2, r3⟩ := m1 b
  refine ⟨a3, r, r1, r2.1, ?_⟩
  have aok := (ap_ok (q := q) (f := R1.2.1) (e := ff R1 (sg_key (smx q) (smy q) + 1)) (R1.2.2 + 1) (ff R1 (sg_key (slx q) (sly q))) R3 ok).1
  have aok : rs_ok 65536 (ap_all q R1 R3).1 := aok
  generalize ap_all q R1 R3 = P at a3 a4 a5 a6 a7 a8 aok ⊢
  have hPz := Nat.le_trans aok.2.1 aok.2.2
  -- rising by the keys: rising by x, then by y
  have hl : lx (vx gx) (vx gy) P.1.2.1 R3.2.2 P.1.2.2 := by
    intro i j h1 h2 h3
    obtain ⟨x, x1, x2, x3⟩ := a6 i h1 (by omega)
    obtain ⟨y, y1, y2, y3⟩ := a6 j (by omega) h3
    have h4 := a8 i j h1 h2 h3
    rw [x3, y3, pf_lI (by omega), pf_lI (by omega)] at h4
    have h6 := hs x y (by omega) y1.2
    rw [(hr x x1.2).2, (hr y y1.2).2, k32_i (h5 x x1.2).1 (h5 x x1.2).2, k32_i (h5 y y1.2).1 (h5 y y1.2).2, kz_lt (h5 x x1.2).2 (h5 y y1.2).2] at h6
    rw [x3, y3, vx_lN (by omega), vx_lN (by omega), vx_lN (by omega), vx_lN (by omega)]
    exact h6
  obtain ⟨o1, ⟨o2, o3⟩, o4⟩ := op_spec (q := q) (R3 := P.1) (b := R3.2.2) hr hz1 hhot (by omega) (by omega) (fun i h1 h2 => by
    obtain ⟨x, x1, x2, x3⟩ := a6 i h1 h2
    exact ⟨x, x1.2, x3⟩) hl
  generalize op_all q R1 P.1 R3.2.2 = Q at o1 o2 o3 o4 ⊢
  have hv : ∀ i, R3.2.2 ≤ i → i < P.1.2.2 → ∃ x, x < hot ∧ mi_in q (gx x) (gy x) ∧ Q.2.1 i = lN x := fun i h1 h2 => by
    obtain ⟨i', ⟨g1, g2⟩, g3⟩ := (o2 (Q.2.1 i)).mpr ⟨i, ⟨h1, h2⟩, rfl⟩
    obtain ⟨x, x1, x2, x3⟩ := a6 i' g1 g2
    exact ⟨x, x1.2, x2, by rw [← g3, x3]⟩
  have hpk := lx_pk hb hhot h5 hv o1
  refine ⟨by rw [o4, a4], fun i hi => ⟨by rw [o3 i hi, a5 i hi], r3 i hi⟩, ?_⟩
  have n1 := r2.1
  obtain ⟨e1, e2⟩ := so_eq (f := fun i => pk q (gx (Q.2.1 (R3.2.2 + i)).toInt.toNat) (gy (Q.2.1 (R3.2.2 + i)).toInt.toNat)) (g := fun i => pk3 q gx gy (r.2.2.2.2 (R3.2.2 + i))) (n := ec q gx gy hot) (m := ec q gx gy hot) (fun i j h1 h2 => hpk _ _ (by omega) (by omega) (by omega)) (fun i j h1 h2 => r2.2.2.2 i j h1 (by omega)) (fun i hi => by
      obtain ⟨x, x1, x2, x3⟩ := hv (R3.2.2 + i) (by omega) (by omega)
      obtain ⟨j, j1, j2⟩ := r2.2.2.1 x x1 x2
      refine ⟨j, by omega, ?_⟩
      rw [j2, pk3_n (by omega), x3, pf_lI (by omega), Int.toNat_natCast]) (fun j hj => by
      obtain ⟨x, x1, x2, x3, _⟩ := r2.2.1 j (by omega)
      obtain ⟨i, ⟨i1, i2⟩, i3⟩ := a7 x (by omega) x1 x2
      obtain ⟨i', ⟨g1, g2⟩, g3⟩ := (o2 (lN x)).mp ⟨i, ⟨i1, i2⟩, i3⟩
      refine ⟨i' - R3.2.2, by omega, ?_⟩
      rw [x3, pk3_n (by omega), show R3.2.2 + (i' - R3.2.2) = i' by omega, g3, pf_lI (by omega), Int.toNat_natCast])
  intro i hi
  obtain ⟨x, x1, x2, x3⟩ := hv (R3.2.2 + i) (by omega) (by omega)
  obtain ⟨y, y1, y2, y3, _⟩ := r2.2.1 i (by omega)
  have h7 := e2 i hi
  rw [x3, y3, pk3_n (by omega), pf_lI (by omega), Int.toNat_natCast] at h7
  have : x = y := by
    apply Classical.byContradiction
    intro c
    refine pk_ne hb (h5 x x1).1 (h5 x x1).2 (h5 y y1).1 (h5 y y1).2 x2 y2 ?_ h7
    rcases Nat.lt_or_gt_of_ne c with c | c
    · exact hd x y c y1
    · exact fun z => hd y x c x1 ⟨z.1.symm, z.2.symm⟩
  subst this
  exact ⟨x, x1, x3, y3⟩
