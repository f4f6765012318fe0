/-! Pure rows: the places that the program adds for a segment -/
/-- how many of the first h hot pixels the segment enters -/
noncomputable def ec (q : SQ) (gx gy : Nat → Int32) : Nat → Nat
  | 0 => 0
  | h + 1 => ec q gx gy h + if b01 (mi_in q (gx h) (gy h)) = 0 then 0 else 1
theorem ec_le {q : SQ} {gx gy : Nat → Int32} {h e : Nat} (hh : h ≤ e) : ec q gx gy h ≤ ec q gx gy e := by
  induction e with
  | zero => rw [show h = 0 by omega]; exact Nat.le_refl _
  | succ e ih =>
    by_cases c : h = e + 1
    · rw [c]; exact Nat.le_refl _
    · have := ih (by omega)
      show _ ≤ ec q gx gy e + _
      omega
theorem ec_y {q : SQ} {gx gy : Nat → Int32} {h : Nat} (hi : mi_in q (gx h) (gy h)) : ec q gx gy (h + 1) = ec q gx gy h + 1 := by
  show ec q gx gy h + _ = _
  rw [if_neg (fun z => b01_z0.mp z hi)]
theorem ec_n {q : SQ} {gx gy : Nat → Int32} {h : Nat} (hi : ¬ mi_in q (gx h) (gy h)) : ec q gx gy (h + 1) = ec q gx gy h := by
  show ec q gx gy h + _ = _
  rw [if_pos (b01_z0.mpr hi)]; rfl
theorem ec_same {q : SQ} {gx gy : Nat → Int32} {h e : Nat} (hh : h ≤ e) (hn : ∀ x, h ≤ x → x < e → ¬ mi_in q (gx x) (gy x)) : ec q gx gy e = ec q gx gy h := by
  induction e with
  | zero => rw [show h = 0 by omega]
  | succ e ih =>
    by_cases c : h = e + 1
    · rw [c]
    · rw [ec_n (hn e (by omega) (by omega))]
      exact ih (by omega) (fun x a b => hn x a (by omega))
theorem rs_add_o {m : Nat} {R : RS} {x : Int64} (h : rs_ok m R) : rs_ok m (rs_add m R x) := (rs_add_ok h).1
/-- the row's keys are the pixels' -/
def hR (f : Nat → Int64) (gx gy : Nat → Int32) (hot : Nat) : Prop := ∀ i, i < hot → (in5 (gx i) ∧ in5 (gy i)) ∧ f i = k32 (gx i) (gy i)
theorem ent_k {q : SQ} {f : Nat → Int64} {gx gy : Nat → Int32} {hot i : Nat} (hb : bnd q) (h : hR f gx gy hot) (hi : i < hot) : sg_enters q (sg_kx (f i)) (sg_ky (f i)) ↔ mi_in q (gx i) (gy i) := by
  obtain ⟨⟨h1, h2⟩, h3⟩ := h i hi
  rw [h3, k32_x h1 h2, k32_y h1 h2, ent_i hb h1 h2]
/-- the row f' has at z .. z' - 1 the entered ones of h .. e - 1, rising -/
def apQ (q : SQ) (gx gy : Nat → Int32) (h e z z' : Nat) (f' : Nat → Int64) : Prop :=
  (∀ i, z ≤ i → i < z' → ∃ x, (h ≤ x ∧ x < e) ∧ mi_in q (gx x) (gy x) ∧ f' i = lN x) ∧ (∀ x, h ≤ x → x < e → mi_in q (gx x) (gy x) → ∃ i, (z ≤ i ∧ i < z') ∧ f' i = lN x) ∧ ∀ i j, z ≤ i → i < j → j < z' → (f' i).toInt < (f' j).toInt
theorem ap_spec {q : SQ} {f : Nat → Int64} {gx gy : Nat → Int32} {hot e : Nat} (hb : bnd q) (hr : hR f gx gy hot) (he : e ≤ hot) (hhot : hot ≤ 8192) : ∀ (fu h : Nat) (R : RS), e ≤ h + fu → h ≤ e → rs_ok 65536 R →
    (R.2.2 + (ec q gx gy e - ec q gx gy h) ≤ 65536 → (ap_go q f e fu h R).2 = true ∧ (ap_go q f e fu h R).1.2.2 = R.2.2 + (ec q gx gy e - ec q gx gy h) ∧ (∀ i, i < R.2.2 → (ap_go q f e fu h R).1.2.1 i = R.2.1 i) ∧ apQ q gx gy h e R.2.2 (ap_go q f e fu h R).1.2.2 (ap_go q f e fu h R).1.2.1) ∧
    (¬ R.2.2 + (ec q gx gy e - ec q gx gy h) ≤ 65536 → (ap_go q f e fu h R).2 = false) := by
  intro fu
  induction fu with
  | zero =>
    intro h R h1 h2 ok
    have : h = e := by omega
    subst this
    have hz := Nat.le_trans ok.2.1 ok.2.2
    rw [Nat.sub_self, Nat.add_zero]
    refine ⟨fun _ => ⟨rfl, rfl, fun _ _ => rfl, fun i a b => absurd b (by show ¬ i < R.2.2; omega), fun x a b => by omega, fun i j a b c => absurd c (by show ¬ j < R.2.2; omega)⟩, fun c => absurd hz c⟩
  | succ fu ih =>
    intro h R h1 h2 ok
    have hz := Nat.le_trans ok.2.1 ok.2.2
    unfold ap_go
    by_cases c : h < e
    · rw [if_pos c]
      have hent := ent_k hb hr (show h < hot by omega)
      have hmono := ec_le (q := q) (gx := gx) (gy := gy) (show h + 1 ≤ e by omega)
      by_cases d : mi_in q (gx h) (gy h)
      · rw [if_neg (fun z => b01_z0.mp z (hent.mpr d))]
        rw [ec_y d] at hmono
        by_cases g : R.2.2 < 65536
        · rw [if_pos g]
          obtain ⟨v1, v2, v3⟩ := rs_add_v (x := lN h) ok g
          obtain ⟨i1, i2⟩ := ih (h + 1) (rs_add 65536 R (lN h)) (by omega) (by omega) (rs_add_o ok)
          rw [v1, ec_y d] at i1 i2
          refine ⟨fun b => ?_, fun b => i2 (by omega)⟩
          obtain ⟨j1, j2, j3, j4, j5, j6⟩ := i1 (by omega)
          generalize ap_go q f e fu (h + 1) (rs_add 65536 R (lN h)) = r at j1 j2 j3 j4 j5 j6 ⊢
          have hat : r.1.2.1 R.2.2 = lN h := by rw [j3 _ (by omega), v3]
          refine ⟨j1, by omega, fun i hi => by rw [j3 i (by omega), v2 i hi], fun i a b => ?_, fun x a b m => ?_, fun i j a b l => ?_⟩
          · by_cases e : i = R.2.2
            · exact ⟨h, ⟨Nat.le_refl _, c⟩, d, by rw [e, hat]⟩
            · obtain ⟨x, y1, y2, y3⟩ := j4 i (by omega) b
              exact ⟨x, by omega, y2, y3⟩
          · by_cases e : x = h
            · exact ⟨R.2.2, by omega, by rw [hat, e]⟩
            · obtain ⟨i, y1, y2⟩ := j5 x (by omega) b m
              exact ⟨i, by omega, y2⟩
          · by_cases e : i = R.2.2
            · obtain ⟨x, y1, y2, y3⟩ := j4 j (by omega) l
              rw [e, hat, y3, pf_lI (by omega), pf_lI (by omega)]
              omega
            · exact j6 i j (by omega) b l
        · rw [if_neg g]
          exact ⟨fun b => absurd b (by omega), fun _ => rfl⟩
      · rw [if_pos (b01_z0.mpr (fun z => d (hent.mp z)))]
        obtain ⟨i1, i2⟩ := ih (h + 1) R (by omega) (by omega) ok
        rw [ec_n d] at i1 i2
        refine ⟨fun b => ?_, i2⟩
        obtain ⟨j1, j2, j3, j4, j5, j6⟩ := i1 b
        refine ⟨j1, j2, j3, fun i a b => ?_, fun x a b m => ?_, j6⟩
        · obtain ⟨x, y1, y2, y3⟩ := j4 i a b
          exact ⟨x, by omega, y2, y3⟩
        · by_cases e : x = h
          · rw [e] at m; exact absurd m d
          · exact j5 x (by omega) b m
    · rw [if_neg c]
      have : h = e := by omega
      subst this
      rw [Nat.sub_self, Nat.add_zero]
      refine ⟨fun _ => ⟨rfl, rfl, fun _ _ => rfl, fun i a b => absurd b (by show ¬ i < R.2.2; omega), fun x a b => by omega, fun i j a b c => absurd c (by show ¬ j < R.2.2; omega)⟩, fun c => absurd hz c⟩
theorem kz_le {x y x' y' : Int} (hx : x ≤ x') (hy : y ≤ y') : kz x y ≤ kz x' y' := by unfold kz; omega
theorem box_b {q : SQ} (h : bnd q) : ((slx q).toInt.natAbs ≤ 500000000 ∧ (sly q).toInt.natAbs ≤ 500000000) ∧ ((smx q).toInt.natAbs ≤ 500000000 ∧ (smy q).toInt.natAbs ≤ 500000000) ∧ (slx q).toInt ≤ (smx q).toInt ∧ (sly q).toInt ≤ (smy q).toInt := by
  obtain ⟨b1, b2, b3, b4⟩ := h
  have e1 := sx_i q
  have e2 := sy_i q
  have e3 := su_i q
  have e4 := sv_i q
  unfold slx sly smx smy
  by_cases c : su q < sx q
  · rw [if_pos c, if_pos c]
    rw [Int64.lt_iff_toInt_lt] at c
    by_cases d : sv q < sy q
    · rw [if_pos d, if_pos d]
      rw [Int64.lt_iff_toInt_lt] at d
      omega
    · rw [if_neg d, if_neg d]
      rw [Int64.lt_iff_toInt_lt] at d
      omega
  · rw [if_neg c, if_neg c]
    rw [Int64.lt_iff_toInt_lt] at c
    by_cases d : sv q < sy q
    · rw [if_pos d, if_pos d]
      rw [Int64.lt_iff_toInt_lt] at d
      omega
    · rw [if_neg d, if_neg d]
      rw [Int64.lt_iff_toInt_lt] at d
      omega
theorem ap_all_spec {q : SQ} {R1 R3 : RS} {gx gy : Nat → Int32} {hot : Nat} (hb : bnd q) (hr : hR R1.2.1 gx gy hot) (hz : R1.2.2 = hot) (hhot : hot ≤ 8192) (hs : ∀ i j, i < j → j < hot → (R1.2.1 i).toInt < (R1.2.1 j).toInt) (ok : rs_ok 65536 R3) :
    (R3.2.2 + ec q gx gy hot ≤ 65536 → (ap_all q R1 R3).2 = true ∧ (ap_all q R1 R3).1.2.2 = R3.2.2 + ec q gx gy hot ∧ (∀ i, i < R3.2.2 → (ap_all q R1 R3).1.2.1 i = R3.2.1 i) ∧ apQ q gx gy 0 hot R3.2.2 (ap_all q R1 R3).1.2.2 (ap_all q R1 R3).1.2.1) ∧
    (¬ R3.2.2 + ec q gx gy hot ≤ 65536 → (ap_all q R1 R3).2 = false) := by
  obtain ⟨⟨b1, b2⟩, ⟨b3, b4⟩, b5, b6⟩ := box_b hb
  have srt : ps_sorted R1.2.1 hot := fun i j hij hj => by
    by_cases c : i = j
    · rw [c]; exact Int.le_refl _
    · exact Int.le_of_lt (hs i j (by omega) hj)
  have k1 := key_i b1 b2
  have k2 := key_i b3 b4
  have k3 : (sg_key (smx q) (smy q) + 1).toInt = kz (smx q).toInt (smy q).toInt + 1 := by
    have h1i : (1 : Int64).toInt = 1 := by decide
    have : kz (smx q).toInt (smy q).toInt < 2000000000000000000 ∧ 0 ≤ kz (smx q).toInt (smy q).toInt := by unfold kz; omega
    rw [i64_add] <;> rw [k2, h1i] <;> omega
  have bet : ∀ i, i < hot → mi_in q (gx i) (gy i) → kz (slx q).toInt (sly q).toInt ≤ (R1.2.1 i).toInt ∧ (R1.2.1 i).toInt ≤ kz (smx q).toInt (smy q).toInt := by
    intro i hi hm
    obtain ⟨⟨g1, g2⟩, g3⟩ := hr i hi
    have := (ent_i hb g1 g2).mpr hm
    obtain ⟨c1, c2, c3, c4, _⟩ := this
    rw [Int64.lt_iff_toInt_lt, Int32.toInt_toInt64] at c1 c2 c3 c4
    rw [g3, k32_i g1 g2]
    exact ⟨kz_le (by omega) (by omega), kz_le (by omega) (by omega)⟩
  obtain ⟨_, l2, l3, l4⟩ := ps_ff_spec (x := sg_key (slx q) (sly q)) srt (hot + 1) 0 hot (by omega) (by omega) (by omega) (fun i hi => absurd hi (by omega)) (fun i a b => absurd b (by omega))
  obtain ⟨_, m2, m3, m4⟩ := ps_ff_spec (x := sg_key (smx q) (smy q) + 1) srt (hot + 1) 0 hot (by omega) (by omega) (by omega) (fun i hi => absurd hi (by omega)) (fun i a b => absurd b (by omega))
  rw [k1] at l3 l4
  rw [k3] at m3 m4
  unfold ap_all ff
  rw [hz]
  generalize ps_ff R1.2.1 (sg_key (slx q) (sly q)) (hot + 1) 0 hot = h0 at l2 l3 l4 ⊢
  generalize ps_ff R1.2.1 (sg_key (smx q) (smy q) + 1) (hot + 1) 0 hot = e at m2 m3 m4 ⊢
  have hkk : kz (slx q).toInt (sly q).toInt ≤ kz (smx q).toInt (smy q).toInt := kz_le b5 b6
  clear b1 b2 b3 b4 b5 b6 k1 k2 k3 srt
  generalize kz (slx q).toInt (sly q).toInt = KL at bet l3 l4 hkk
  generalize kz (smx q).toInt (smy q).toInt = KM at bet m3 m4 hkk
  have he : h0 ≤ e := by
    apply Classical.byContradiction
    intro c
    have a1 := l3 e (by omega)
    have a2 := m4 e (Nat.le_refl _) (by omega)
    omega
  have n1 : ∀ x, x < h0 → ¬ mi_in q (gx x) (gy x) := fun x hx hm => by
    have a1 := l3 x hx
    have a2 := bet x (by omega) hm
    omega
  have n2 : ∀ x, e ≤ x → x < hot → ¬ mi_in q (gx x) (gy x) := fun x hx hx2 hm => by
    have a1 := m4 x hx hx2
    have a2 := bet x hx2 hm
    omega
  have e1 : ec q gx gy h0 = 0 := ec_same (h := 0) (Nat.zero_le _) (fun x _ b => n1 x b)
  have e2 : ec q gx gy hot = ec q gx gy e := ec_same m2 (fun x a b => n2 x a b)
  have key := ap_spec (q := q) (f := R1.2.1) (gx := gx) (gy := gy) (hot := hot) (e := e) hb hr m2 hhot (hot + 1) h0 R3 (by omega) he ok
  rw [e1, Nat.sub_zero, ← e2] at key
  refine ⟨fun b => ?_, key.2⟩
  obtain ⟨j1, j2, j3, j4, j5, j6⟩ := key.1 b
  refine ⟨j1, j2, j3, fun i a b => ?_, fun x a b m => ?_, j6⟩
  · obtain ⟨x, y1, y2, y3⟩ := j4 i a b
    exact ⟨x, by omega, y2, y3⟩
  · refine j5 x ?_ ?_ m
    · apply Classical.byContradiction
      intro c
      exact n1 x (by omega) m
    · apply Classical.byContradiction
      intro c
      exact n2 x (by omega) b m
