/-! the law: the reference's world; what ties both; the same conditions, the same answers -/
noncomputable section
/-- PixelSnapperModel with all that is its own -/
def mW (E : ClassId × ClassId × ClassId × ClassId) (g0 : Nat) (am : Nat → Nat) (th sg9 sn hot pc cx cy : Int32) (iv : IV) (e9 gx gy bg gl gh go : Nat → Int32) (st : CT) : va_W :=
  [(g0, .inr (3, mF am th sg9 sn hot pc cx cy iv.1.1 iv.1.2.1 iv.2.1 iv.2.2.1 iv.1.2.2 iv.2.2.2)), ((am 0), .inl (E.2.1, 8192, .inl e9)), ((am 1), .inl (E.2.1, 8193, .inl gx)), ((am 2), .inl (E.2.1, 8193, .inl gy)), ((am 3), .inl (E.2.1, 2049, .inl bg)),
   ((am 8), .inl (E.1, 8192, .inr (.inl st.1))), ((am 9), .inl (E.1, 8192, .inr (.inl st.2.1))), ((am 10), .inl (E.2.2.1, 8192, .inl st.2.2.1)), ((am 4), .inl (E.2.1, 65536, .inl st.2.2.2)), ((am 5), .inl (E.2.1, 65536, .inl gl)), ((am 6), .inl (E.2.1, 65536, .inl gh)), ((am 7), .inl (E.2.1, 65536, .inl go))]
/-- the same segments -/
def RELN (sg : Nat → SQ) (k : Nat) (e9 : Nat → Int32) : Prop := ∀ i, i < k → mq e9 i = sg i ∧ bnd (sg i)
/-- no snap stands -/
def REL0 (sn hot pc : Int32) (R1 R2 R3 R4 R5 : RS) (bg : Nat → Int32) : Prop := sn = 0 ∧ hot = 0 ∧ pc = 0 ∧ (R1.2.2 = 0 ∧ R2.2.2 = 0 ∧ R3.2.2 = 0 ∧ R4.2.2 = 0 ∧ R5.2.2 = 0) ∧ ∀ j, j < 2049 → bg j = 0
/-- a snap stands, the same -/
def REL1 (k : Nat) (sn hot pc : Int32) (R1 R2 R3 R4 R5 : RS) (gx gy bg pl gl gh go : Nat → Int32) : Prop :=
  sn = 1 ∧ hot = nI R1.2.2 ∧ pc = nI R4.2.2 ∧ R1.2.2 ≤ 8192 ∧ hR R1.2.1 gx gy R1.2.2 ∧ (R4.2.2 ≤ 65536 ∧ R5.2.2 = R4.2.2) ∧
  (∃ B : Nat → Nat, (∀ i, i < k → B i ≤ B (i + 1)) ∧ B k ≤ 65536 ∧ R2.2.2 = k + 1 ∧ (∀ i, i ≤ k → R2.2.1 i = lN (B i) ∧ bg i = nI (B i)) ∧ R3.2.2 = B k ∧ ∀ i, i < B k → ∃ x, x < 8192 ∧ R3.2.1 i = lN x ∧ pl i = nI x) ∧
  ∀ i, i < R4.2.2 → ∃ a b c, (a < 8192 ∧ b < 8192 ∧ c ≤ 65536) ∧ R4.2.1 i = lN (a * 8192 + b) ∧ gl i = nI a ∧ gh i = nI b ∧ R5.2.1 i = lN c ∧ go i = nI c
/-- ... and would be found again, whatever stands in the reference's rows -/
def PERB (k : Nat) (e9 : Nat → Int32) (R1 R2 R3 R4 R5 : RS) (B : Nat → Nat) : Prop := ∀ (gx gy bg gl gh go : Nat → Int32) (st : CT), ∃ M : Nat × (Nat → Int32) × CT, (ha_all e9 k (gx, gy, 0)).2.2 ≤ 8192 ∧ ch_s e9 (ha_all e9 k (gx, gy, 0)).1 (ha_all e9 k (gx, gy, 0)).2.1 k (ha_all e9 k (gx, gy, 0)).2.2 (k + 1) 0 (0, bg, st) = some M ∧ (∀ i, i ≤ k → M.2.1 i = nI (B i)) ∧ R1.2.2 = (ha_all e9 k (gx, gy, 0)).2.2 ∧
  REL1 k 1 (nI (ha_all e9 k (gx, gy, 0)).2.2) (nI (gt_s M.2.2.2.2.2 B k (k + 1) 0 (gl, gh, go, 0)).2.2.2) R1 R2 R3 R4 R5 (ha_all e9 k (gx, gy, 0)).1 (ha_all e9 k (gx, gy, 0)).2.1 M.2.1 M.2.2.2.2.2 (gt_s M.2.2.2.2.2 B k (k + 1) 0 (gl, gh, go, 0)).1 (gt_s M.2.2.2.2.2 B k (k + 1) 0 (gl, gh, go, 0)).2.1 (gt_s M.2.2.2.2.2 B k (k + 1) 0 (gl, gh, go, 0)).2.2.1
def PERS (k : Nat) (e9 : Nat → Int32) (R1 R2 R3 R4 R5 : RS) : Prop := ∃ B : Nat → Nat, (∀ i, i < k → B i ≤ B (i + 1)) ∧ (∀ i, i ≤ k → B i ≤ 65536) ∧ PERB k e9 R1 R2 R3 R4 R5 B
def REL (sg : Nat → SQ) (k : Nat) (sn hot pc : Int32) (R1 R2 R3 R4 R5 : RS) (e9 gx gy bg pl gl gh go : Nat → Int32) : Prop :=
  RELN sg k e9 ∧ (REL0 sn hot pc R1 R2 R3 R4 R5 bg ∨ (REL1 k sn hot pc R1 R2 R3 R4 R5 gx gy bg pl gl gh go ∧ PERS k e9 R1 R2 R3 R4 R5))
theorem mono_B {B : Nat → Nat} {k : Nat} (h : ∀ i, i < k → B i ≤ B (i + 1)) : ∀ j i, i ≤ j → j ≤ k → B i ≤ B j := by
  intro j
  induction j with
  | zero => intro i hi _; rw [show i = 0 by omega]; exact Nat.le_refl _
  | succ j ih =>
    intro i hi hj
    by_cases c : i = j + 1
    · rw [c]; exact Nat.le_refl _
    · exact Nat.le_trans (ih i (by omega) (by omega)) (h j (by omega))
/-! conditions -/
theorem far_0 {x : Int32} : mw_far x ↔ sp_in x = 0 := by
  unfold mw_far mw_in sp_in
  by_cases c1 : x < -500000000
  · rw [if_pos c1]; exact ⟨fun _ => rfl, fun _ h => h.1 c1⟩
  · rw [if_neg c1]
    by_cases c2 : 500000000 < x
    · rw [if_pos c2]; exact ⟨fun _ => rfl, fun _ h => h.2 c2⟩
    · rw [if_neg c2]; exact ⟨fun h => absurd ⟨c1, c2⟩ h, fun h => absurd h (by decide)⟩
theorem sp_in_1 {x : Int32} (h : ¬ sp_in x = 0) : sp_in x = 1 := by
  unfold sp_in at h ⊢
  by_cases c1 : x < -500000000
  · rw [if_pos c1] at h; exact absurd rfl h
  · rw [if_neg c1] at h ⊢
    by_cases c2 : 500000000 < x
    · rw [if_pos c2] at h; exact absurd rfl h
    · rw [if_neg c2]
theorem in5_1 {x : Int32} (h : sp_in x = 1) : in5 x := by
  unfold sp_in at h
  unfold in5
  have e1 : (-500000000 : Int32).toInt = -500000000 := by decide
  have e2 : (500000000 : Int32).toInt = 500000000 := by decide
  by_cases c1 : x < -500000000
  · rw [if_pos c1] at h; exact absurd h (by decide)
  · rw [if_neg c1] at h
    by_cases c2 : 500000000 < x
    · rw [if_pos c2] at h; exact absurd h (by decide)
    · rw [Int32.lt_iff_toInt_lt, e1] at c1
      rw [Int32.lt_iff_toInt_lt, e2] at c2
      omega
theorem has_in {n : Nat} {i : Int32} (hn : n < 2 ^ 30) : ¬ rw_has (nI n) i = 0 ↔ mw_in i 0 (nI n - 1) := by
  have z0 : (0 : Int32).toInt = 0 := by decide
  unfold mw_in
  constructor
  · intro h
    obtain ⟨h1, h2⟩ := rw_has_1 h
    refine ⟨h1, ?_⟩
    rw [Int32.le_iff_toInt_le, nI_i (by omega)] at h2
    rw [Int32.lt_iff_toInt_lt, dec_toI (by omega)]
    omega
  · rintro ⟨h1, h2⟩ h
    unfold rw_has at h
    rw [if_neg h1] at h
    rw [Int32.lt_iff_toInt_lt, dec_toI (by omega)] at h2
    by_cases c2 : nI n ≤ i
    · rw [Int32.le_iff_toInt_le, nI_i (by omega)] at c2
      omega
    · rw [if_neg c2] at h; exact absurd h (by decide)
theorem has_nat {n : Nat} {i : Int32} (hn : n < 2 ^ 30) (h : ¬ rw_has (nI n) i = 0) : ∃ j, j < n ∧ i = nI j := mw_nat hn ((has_in hn).mp h)
theorem xy_01 {w : Int32} : ¬ sp_xy w = 0 ↔ mw_in w 0 1 := by
  have z0 : (0 : Int32).toInt = 0 := by decide
  have z1 : (1 : Int32).toInt = 1 := by decide
  unfold sp_xy mw_in
  by_cases c1 : w = 0
  · subst c1; rw [if_pos rfl]; exact ⟨fun _ => by decide, fun _ => by decide⟩
  · rw [if_neg c1]
    by_cases c2 : w = 1
    · subst c2; rw [if_pos rfl]; exact ⟨fun _ => by decide, fun _ => by decide⟩
    · rw [if_neg c2]
      refine ⟨fun h => absurd rfl h, fun ⟨h1, h2⟩ => ?_⟩
      rw [Int32.lt_iff_toInt_lt] at h1 h2
      have e : w.toInt = 0 ∨ w.toInt = 1 := by omega
      rcases e with e | e
      · exact absurd (Int32.toInt.inj (e.trans z0.symm)) c1
      · exact absurd (Int32.toInt.inj (e.trans z1.symm)) c2
theorem xy_1 {w : Int32} (h : ¬ sp_xy w = 0) : sp_xy w = 1 := by
  unfold sp_xy at h ⊢
  by_cases c1 : w = 0
  · rw [if_pos c1]
  · rw [if_neg c1] at h ⊢
    by_cases c2 : w = 1
    · rw [if_pos c2]
    · rw [if_neg c2] at h; exact absurd rfl h
/-! answers -/
theorem kp_32 {x y w : Int32} (hx : in5 x) (hy : in5 y) : sg_kp (k32 x y) w = if w = 0 then x else y := by
  unfold sg_kp
  rw [k32_x hx hy, k32_y hx hy, t32_64, t32_64]
theorem a_meets {sg : Nat → SQ} {k : Nat} {e9 : Nat → Int32} {i : Nat} {x y : Int32} (h : RELN sg k e9) (hi : i < k) (hx : sp_in x = 1) (hy : sp_in y = 1) : b01 (sg_enters (sg i) (Int32.toInt64 x) (Int32.toInt64 y)) = b01 (mi_in (mq e9 i) x y) := by
  obtain ⟨h1, h2⟩ := h i hi
  rw [h1]
  by_cases c : mi_in (sg i) x y
  · rw [b01_pp c, b01_pp ((ent_i h2 (in5_1 hx) (in5_1 hy)).mpr c)]
  · rw [b01_nn c, b01_nn (fun z => c ((ent_i h2 (in5_1 hx) (in5_1 hy)).mp z))]
theorem a_crossing {sg : Nat → SQ} {k : Nat} {e9 : Nat → Int32} {i j : Nat} {w : Int32} (h : RELN sg k e9) (hi : i < k) (hj : j < k) (hc : sg_cross (sg i) (sg j)) : sg_kp (sg_ck (sg i) (sg j)) w = if w = 0 then mx_x (mq e9 i) (mq e9 j) else mx_y (mq e9 i) (mq e9 j) := by
  obtain ⟨h1, h2⟩ := h i hi
  obtain ⟨g1, g2⟩ := h j hj
  have ok := (cr_iff h2 g2).mp hc
  obtain ⟨⟨_, bx, _⟩, ⟨_, by', _⟩⟩ := mx_xy h2 ok
  rw [h1, g1, ck_i h2 g2 ok, kp_32 bx by']
theorem c_crossing {sg : Nat → SQ} {k : Nat} {e9 : Nat → Int32} {i j : Nat} (h : RELN sg k e9) (hi : i < k) (hj : j < k) : sg_cross (sg i) (sg j) ↔ mx_ok (mq e9 i) (mq e9 j) := by
  obtain ⟨h1, h2⟩ := h i hi
  obtain ⟨g1, g2⟩ := h j hj
  rw [h1, g1, cr_iff h2 g2]
theorem cst_n {R2 : RS} {i b : Nat} (hi : i < R2.2.2) (hz : R2.2.2 ≤ 2049) (hf : R2.2.1 i = lN b) (hb : b ≤ 65536) : cst R2 (nI i) = nI b := by
  unfold cst
  rw [rw_at_n hi (by omega), hf, lN_32 (by omega)]
theorem pc_r_n {R4 R5 : RS} {i a b c : Nat} {w : Int32} (h1 : ¬ w < 0) (h2 : ¬ 2 < w) (ha : a < 8192) (hb : b < 8192) (hc : c ≤ 65536) (hi : i < R5.2.2) (hz : R5.2.2 ≤ 65536) (e1 : R4.2.1 i = lN (a * 8192 + b)) (e2 : R5.2.1 i = lN c) : pc_r R4 R5 i w = if w = 0 then nI a else if w = 1 then nI b else nI c := by
  unfold pc_r
  by_cases c2 : w = 2
  · rw [if_pos c2, rw_at_n hi (by omega), e2, lN_32 (by omega), c2, if_neg (by decide), if_neg (by decide)]
  · rw [if_neg c2]
    by_cases c0 : w = 0
    · rw [if_pos c0, if_pos c0, e1, show Int32.toInt64 13 = (nI 13).toInt64 from rfl, wb_c 13 (by decide), pf_shr (d := 13) (by rw [wb_tb, wb_sm 13 (by decide), BitVec.toNat_ofNat]) (by omega), show (2 : Nat) ^ 13 = 8192 from rfl, show (a * 8192 + b) / 8192 = a by omega, lN_32 (by omega)]
    · have z0 : (0 : Int32).toInt = 0 := by decide
      have z1 : (1 : Int32).toInt = 1 := by decide
      have z2 : (2 : Int32).toInt = 2 := by decide
      have c1 : w = 1 := by
        apply Int32.toInt.inj
        have n0 : w.toInt ≠ 0 := fun z => c0 (Int32.toInt.inj (z.trans z0.symm))
        have n2 : w.toInt ≠ 2 := fun z => c2 (Int32.toInt.inj (z.trans z2.symm))
        rw [Int32.lt_iff_toInt_lt] at h1 h2
        omega
      rw [if_neg c0, if_neg c0, if_pos c1, e1, show (8191 : Int64) = lN (2 ^ 13 - 1) from rfl, wb_mask (by omega) (by decide), show (2 : Nat) ^ 13 = 8192 from rfl, show (a * 8192 + b) % 8192 = b by omega, lN_32 (by omega)]
/-- the flags stay 0 or 1 -/
theorem ch_h_z {q : SQ} {gx gy : Nat → Int32} {hot at9 : Nat} : ∀ (fu h : Nat) (s r : Nat × CT), zo s.2.2.2.1 → ch_h q gx gy hot at9 fu h s = some r → zo r.2.2.2.1 := by
  intro fu
  induction fu with
  | zero => intro h s r hz he; cases he; exact hz
  | succ fu ih =>
    intro h s r hz he
    unfold ch_h at he
    by_cases c : h < hot
    · rw [if_pos c] at he
      by_cases d : b01 (mi_in q (gx h) (gy h)) = 0
      · rw [if_pos d] at he; exact ih _ _ _ hz he
      · rw [if_neg d] at he
        by_cases g : at9 + s.1 = 65536
        · rw [if_pos g] at he; cases he
        · rw [if_neg g] at he; exact ih _ _ _ (ch_ins_z hz (mi_iv_z _ _ _)) he
    · rw [if_neg c] at he; cases he; exact hz
theorem ch_s_z {e gx gy : Nat → Int32} {n hot : Nat} : ∀ (fu k : Nat) (s r : Nat × (Nat → Int32) × CT), zo s.2.2.2.2.1 → ch_s e gx gy n hot fu k s = some r → zo r.2.2.2.2.1 := by
  intro fu
  induction fu with
  | zero => intro k s r hz he; cases he; exact hz
  | succ fu ih =>
    intro k s r hz he
    unfold ch_s at he
    by_cases c : k < n
    · rw [if_pos c] at he
      cases hc : ch_h (mq e k) gx gy hot s.1 (hot + 1) 0 (0, s.2.2) with
      | none => rw [hc] at he; cases he
      | some q =>
        rw [hc] at he
        exact ih _ _ _ (ch_h_z _ _ (0, s.2.2) q hz hc) he
    · rw [if_neg c] at he; cases he; exact hz
/-- a snap: both fail, or both succeed with the same -/
theorem snap_dec {sg : Nat → SQ} {k : Nat} {e9 gx gy bg gl gh go : Nat → Int32} {R1 R2 R3 R4 R5 : RS} {st : CT} (h : RELN sg k e9) (hk : k ≤ 2048) (o1 : rs_ok 16384 R1) (o2 : rs_ok 2049 R2) (o3 : rs_ok 65536 R3) (o4 : rs_ok 65536 R4) (o5 : rs_ok 65536 R5) (z1 : R1.2.2 = 0) (z2 : R2.2.2 = 0) (z3 : R3.2.2 = 0) (z4 : R4.2.2 = 0) (z5 : R5.2.2 = 0) :
    (∃ (M : Nat × (Nat → Int32) × CT) (B : Nat → Nat), (fh_all sg k R1).2 = true ∧ (fc_all sg k (fh_all sg k R1).1 R2 R3).2 = true ∧ (ha_all e9 k (gx, gy, 0)).2.2 ≤ 8192 ∧ ch_s e9 (ha_all e9 k (gx, gy, 0)).1 (ha_all e9 k (gx, gy, 0)).2.1 k (ha_all e9 k (gx, gy, 0)).2.2 (k + 1) 0 (0, bg, st) = some M ∧
      (∀ i, i ≤ k → cst (fc_all sg k (fh_all sg k R1).1 R2 R3).1.1 (nI i) = nI (B i)) ∧ (∀ i, i < k → B i ≤ B (i + 1)) ∧ (∀ i, i ≤ k → B i ≤ (fc_all sg k (fh_all sg k R1).1 R2 R3).1.2.2.2) ∧ (∀ i, i ≤ k → M.2.1 i = nI (B i)) ∧ (∀ i, i ≤ k → B i ≤ 65536) ∧ (fh_all sg k R1).1.2.2 = (ha_all e9 k (gx, gy, 0)).2.2 ∧
      REL1 k 1 (nI (ha_all e9 k (gx, gy, 0)).2.2) (nI (gt_s M.2.2.2.2.2 B k (k + 1) 0 (gl, gh, go, 0)).2.2.2) (fh_all sg k R1).1 (fc_all sg k (fh_all sg k R1).1 R2 R3).1.1 (fc_all sg k (fh_all sg k R1).1 R2 R3).1.2 (mh_m (fp_a (fc_all sg k (fh_all sg k R1).1 R2 R3).1.2.2.1 B k R4)) (fp_u (fp_a (fc_all sg k (fh_all sg k R1).1 R2 R3).1.2.2.1 B k R4) R5)
        (ha_all e9 k (gx, gy, 0)).1 (ha_all e9 k (gx, gy, 0)).2.1 M.2.1 M.2.2.2.2.2 (gt_s M.2.2.2.2.2 B k (k + 1) 0 (gl, gh, go, 0)).1 (gt_s M.2.2.2.2.2 B k (k + 1) 0 (gl, gh, go, 0)).2.1 (gt_s M.2.2.2.2.2 B k (k + 1) 0 (gl, gh, go, 0)).2.2.1) ∨
    ((¬ (ha_all e9 k (gx, gy, 0)).2.2 ≤ 8192 ∨ ((ha_all e9 k (gx, gy, 0)).2.2 ≤ 8192 ∧ ch_s e9 (ha_all e9 k (gx, gy, 0)).1 (ha_all e9 k (gx, gy, 0)).2.1 k (ha_all e9 k (gx, gy, 0)).2.2 (k + 1) 0 (0, bg, st) = none)) ∧
      ((fh_all sg k R1).2 = false ∨ ((fh_all sg k R1).2 = true ∧ (fc_all sg k (fh_all sg k R1).1 R2 R3).2 = false))) := by
  have hq : ∀ i, i < k → mq e9 i = sg i := fun i hi => (h i hi).1
  have hb : ∀ i, i < k → bnd (sg i) := fun i hi => (h i hi).2
  have ofh := (fh_ok (sg := sg) (k := k) (k + 1) 0 R1 o1).1
  have ofh : rs_ok 16384 (fh_all sg k R1).1 := ofh
  rcases hot_eq (gx := gx) (gy := gy) hq hb o1 z1 with ⟨h1, h2, h3, h4, h5⟩ | ⟨h1, h2⟩
  · generalize ha_all e9 k (gx, gy, 0) = T at h2 h3 h4 h5 ⊢
    generalize fh_all sg k R1 = F at h1 h3 h5 ofh ⊢
    have hr : hR F.1.2.1 T.1 T.2.1 T.2.2 := fun i hi => ⟨h4.1 i hi, h5 i hi⟩
    have hs : ∀ i j, i < j → j < T.2.2 → (F.1.2.1 i).toInt < (F.1.2.1 j).toInt := fun i j hij hj => by
      rw [h5 i (by omega), h5 j hj, k32_i (h4.1 i (by omega)).1 (h4.1 i (by omega)).2, k32_i (h4.1 j hj).1 (h4.1 j hj).2]
      exact h4.2 i j hij hj
    rcases chains_eq (e := e9) (bg := bg) (st := st) hk hq hb hr h3 h2 hs o2 o3 z2 z3 with ⟨c1, c2, M, c3, ⟨p2, p3⟩, q1, q2, q3, q4, q5⟩ | ⟨c1, c2⟩
    · generalize fc_all sg k F.1 R2 R3 = V at c2 p2 p3 q1 q2 q4 q5 ⊢
      have hmo : ∀ i, i ≤ k → cB sg T.1 T.2.1 T.2.2 i ≤ cB sg T.1 T.2.1 T.2.2 k := fun i hi => cB_le hi
      have hm1 : ∀ i, i < k → cB sg T.1 T.2.1 T.2.2 i ≤ cB sg T.1 T.2.1 T.2.2 (i + 1) := fun i _ => cB_le (Nat.le_succ i)
      have hp : ∀ i, i < cB sg T.1 T.2.1 T.2.2 k → ∃ x, x < 8192 ∧ V.1.2.2.1 i = lN x ∧ M.2.2.2.2.2 i = nI x := fun i hi => by
        obtain ⟨x, x1, x2⟩ := q5 i hi
        exact ⟨x, by omega, x2⟩
      obtain ⟨e1, e2, e3, e4⟩ := pieces_eq (gl := gl) (gh := gh) (go := go) (B := cB sg T.1 T.2.1 T.2.2) (k := k) (R5 := R5) c1 hp hm1 hmo o4 o5 z4 z5
      refine Or.inl ⟨M, cB sg T.1 T.2.1 T.2.2, h1, c2, h2, c3, fun i hi => ?_, hm1, fun i hi => by rw [q2]; exact hmo i hi, fun i hi => (q4 i (by omega)).2, fun i hi => Nat.le_trans (hmo i hi) c1, h3, ?_⟩
      · have := hmo i hi
        exact cst_n (by omega) (by omega) (q4 i (by omega)).1 (by omega)
      · refine ⟨rfl, by rw [h3], by rw [e1], by rw [h3]; exact h2, by rw [h3]; exact hr, ⟨by rw [e1]; exact e3, by rw [e1, e2]⟩, ⟨cB sg T.1 T.2.1 T.2.2, hm1, c1, q1, fun i hi => q4 i (by omega), q2, hp⟩, fun i hi => e4 i (by rw [← e1]; exact hi)⟩
    · exact Or.inr ⟨Or.inr ⟨h2, c2⟩, Or.inr ⟨h1, c1⟩⟩
  · exact Or.inr ⟨Or.inl h2, Or.inl h1⟩
theorem nI_ij {a b : Nat} (ha : a < 2 ^ 31) (hb : b < 2 ^ 31) (h : nI a = nI b) : a = b := by
  have := congrArg Int32.toInt h
  rw [nI_i ha, nI_i hb] at this
  omega
theorem fp_s_cg {f3 : Nat → Int64} {B B' : Nat → Nat} {k : Nat} (h : ∀ i, i ≤ k → B i = B' i) : ∀ (fu i : Nat) (R : RS), fp_s f3 B k fu i R = fp_s f3 B' k fu i R := by
  intro fu
  induction fu with
  | zero => intro i R; rfl
  | succ fu ih =>
    intro i R
    unfold fp_s
    by_cases c : i < k
    · rw [if_pos c, if_pos c, h i (by omega), h (i + 1) (by omega), ih]
    · rw [if_neg c, if_neg c]
theorem gt_s_cg {pl : Nat → Int32} {B B' : Nat → Nat} {k : Nat} (h : ∀ i, i ≤ k → B i = B' i) : ∀ (fu i : Nat) (s : GT), gt_s pl B k fu i s = gt_s pl B' k fu i s := by
  intro fu
  induction fu with
  | zero => intro i s; rfl
  | succ fu ih =>
    intro i s
    unfold gt_s
    by_cases c : i < k
    · rw [if_pos c, if_pos c, h i (by omega), h (i + 1) (by omega), ih]
    · rw [if_neg c, if_neg c]
/-- a snap, whatever stands in the reference's rows -/
theorem snap_all {sg : Nat → SQ} {k : Nat} {e9 : Nat → Int32} {R1 R2 R3 R4 R5 : RS} (h : RELN sg k e9) (hk : k ≤ 2048) (o1 : rs_ok 16384 R1) (o2 : rs_ok 2049 R2) (o3 : rs_ok 65536 R3) (o4 : rs_ok 65536 R4) (o5 : rs_ok 65536 R5) (z1 : R1.2.2 = 0) (z2 : R2.2.2 = 0) (z3 : R3.2.2 = 0) (z4 : R4.2.2 = 0) (z5 : R5.2.2 = 0) :
    (∃ B : Nat → Nat, (fh_all sg k R1).2 = true ∧ (fc_all sg k (fh_all sg k R1).1 R2 R3).2 = true ∧ (∀ i, i ≤ k → cst (fc_all sg k (fh_all sg k R1).1 R2 R3).1.1 (nI i) = nI (B i)) ∧ (∀ i, i < k → B i ≤ B (i + 1)) ∧ (∀ i, i ≤ k → B i ≤ (fc_all sg k (fh_all sg k R1).1 R2 R3).1.2.2.2) ∧ (∀ i, i ≤ k → B i ≤ 65536) ∧
      PERB k e9 (fh_all sg k R1).1 (fc_all sg k (fh_all sg k R1).1 R2 R3).1.1 (fc_all sg k (fh_all sg k R1).1 R2 R3).1.2 (mh_m (fp_a (fc_all sg k (fh_all sg k R1).1 R2 R3).1.2.2.1 B k R4)) (fp_u (fp_a (fc_all sg k (fh_all sg k R1).1 R2 R3).1.2.2.1 B k R4) R5) B) ∨
    (((fh_all sg k R1).2 = false ∨ ((fh_all sg k R1).2 = true ∧ (fc_all sg k (fh_all sg k R1).1 R2 R3).2 = false)) ∧
      ∀ (gx gy bg : Nat → Int32) (st : CT), ¬ (ha_all e9 k (gx, gy, 0)).2.2 ≤ 8192 ∨ ((ha_all e9 k (gx, gy, 0)).2.2 ≤ 8192 ∧ ch_s e9 (ha_all e9 k (gx, gy, 0)).1 (ha_all e9 k (gx, gy, 0)).2.1 k (ha_all e9 k (gx, gy, 0)).2.2 (k + 1) 0 (0, bg, st) = none)) := by
  have key := fun gx gy bg gl gh go st => snap_dec (gx := gx) (gy := gy) (bg := bg) (gl := gl) (gh := gh) (go := go) (st := st) h hk o1 o2 o3 o4 o5 z1 z2 z3 z4 z5
  rcases key (fun _ => 0) (fun _ => 0) (fun _ => 0) (fun _ => 0) (fun _ => 0) (fun _ => 0) (fun _ => 0, fun _ => 0, fun _ => 0, fun _ => 0) with ⟨M, B, a1, a2, _, _, a5, a6, a7, _, a9, _, _⟩ | ⟨_, a2⟩
  · refine Or.inl ⟨B, a1, a2, a5, a6, a7, a9, ?_⟩
    intro gx gy bg gl gh go st
    rcases key gx gy bg gl gh go st with ⟨M, B', b1, b2, b3, b4, b5, b6, b7, b8, b9, b10, b11⟩ | ⟨_, b2⟩
    · have e : ∀ i, i ≤ k → B' i = B i := fun i hi => nI_ij (by have := b9 i hi; omega) (by have := a9 i hi; omega) ((b5 i hi).symm.trans (a5 i hi))
      refine ⟨M, b3, b4, fun i hi => by rw [b8 i hi, e i hi], b10, ?_⟩
      unfold fp_a at b11 ⊢
      rw [gt_s_cg e, fp_s_cg e] at b11
      exact b11
    · exact absurd b2 (fun z => z.elim (fun z => absurd (z.symm.trans a1) (by decide)) (fun z => absurd (z.2.symm.trans a2) (by decide)))
  · refine Or.inr ⟨a2, fun gx gy bg st => ?_⟩
    rcases key gx gy bg (fun _ => 0) (fun _ => 0) (fun _ => 0) st with ⟨M, B', b1, b2, _⟩ | ⟨b1, _⟩
    · exact absurd a2 (fun z => z.elim (fun z => absurd (z.symm.trans b1) (by decide)) (fun z => absurd (z.2.symm.trans b2) (by decide)))
    · exact b1
/-! room -/
abbrev lA (s : State) : Nat → Prop := fun q => s.heap.size ≤ q
def rC (R1 R2 R3 R4 R5 : RS) : Nat := (16384 - R1.1) + (2049 - R2.1) + (65536 - R3.1) + (65536 - R4.1) + (65536 - R5.1)
def rS (R1 R2 R3 R4 R5 : RS) : Nat := pot 16384 R1.1 + pot 2049 R2.1 + pot 65536 R3.1 + pot 65536 R4.1 + pot 65536 R5.1
theorem pot_mono {m n n' : Nat} (h : n ≤ n') : pot m n' ≤ pot m n := by
  unfold pot
  by_cases c : n' < m
  · rw [if_pos c, if_pos (by omega)]; omega
  · rw [if_neg c]; exact Nat.zero_le _
/-- what stands at the head of the law's loop, with n calls left -/
def LInv (D : va_G) (E : ClassId × ClassId × ClassId × ClassId) (e0 : Nat) (A : Nat → Prop) (h0 oA g0 : Nat) (ad am : Nat → Nat) (n cells slots : Nat) (H : Heap) : Prop :=
  ∃ (a : Nat → Nat) (sn : Int32) (ed k : Nat) (mo9 : Int32) (R1 R2 R3 R4 R5 : RS) (fo : Nat → Int64) (sg : Nat → SQ) (LP : List Nat) (pf : Nat → va_E) (th hot pc cx cy : Int32) (iv : IV) (e9 gx gy bg gl gh go : Nat → Int32) (st : CT),
    va_P D vwC (mW E g0 am th (nI k) sn hot pc cx cy iv e9 gx gy bg gl gh go st ++ cW E h0 oA ad a sn ed k mo9 R1 R2 R3 R4 R5 fo LP pf) H ∧ va_D A (mW E g0 am th (nI k) sn hot pc cx cy iv e9 gx gy bg gl gh go st ++ cW E h0 oA ad a sn ed k mo9 R1 R2 R3 R4 R5 fo LP pf) ∧
    Lst E LP pf e0 ed k sg ∧ k ≤ 2048 ∧ (rs_ok 16384 R1 ∧ rs_ok 2049 R2 ∧ rs_ok 65536 R3 ∧ rs_ok 65536 R4 ∧ rs_ok 65536 R5) ∧ zo st.2.2.1 ∧ REL sg k sn hot pc R1 R2 R3 R4 R5 e9 gx gy bg st.2.2.2 gl gh go ∧ (cells + rC R1 R2 R3 R4 R5 + 2 * n ≤ 601024 ∧ slots + rS R1 R2 R3 R4 R5 + 3082 * n ≤ 7293034)
theorem rel_seg {sg : Nat → SQ} {k : Nat} {sn hot pc : Int32} {R1 R2 R3 R4 R5 : RS} {e9 gx gy bg pl gl gh go : Nat → Int32} {q : SQ} (h : REL sg k sn hot pc R1 R2 R3 R4 R5 e9 gx gy bg pl gl gh go) (h1 : in5 q.1) (h2 : in5 q.2.1) (h3 : in5 q.2.2.1) (h4 : in5 q.2.2.2) :
    REL (sg_add sg k q) (k + 1) 0 0 0 (rz R1) (rz R2) (rz R3) (rz R4) (rz R5) (mg_put e9 k q) gx gy (mg_z bg 2049) pl gl gh go := by
  refine ⟨fun i hi => ?_, Or.inl ⟨rfl, rfl, rfl, ⟨rfl, rfl, rfl, rfl, rfl⟩, fun j hj => if_pos hj⟩⟩
  unfold sg_add
  by_cases c : i = k
  · subst c
    rw [if_pos rfl, mg_put_k]
    exact ⟨rfl, h1, h2, h3, h4⟩
  · rw [if_neg c, mg_put_j _ _ _ _ (by omega)]
    exact h.1 i (by omega)
theorem rel_clr {sg : Nat → SQ} {k : Nat} {sn hot pc : Int32} {R1 R2 R3 R4 R5 : RS} {e9 gx gy bg pl gl gh go : Nat → Int32} (h : REL sg k sn hot pc R1 R2 R3 R4 R5 e9 gx gy bg pl gl gh go) : REL sg 0 0 0 0 (rz R1) (rz R2) (rz R3) (rz R4) (rz R5) e9 gx gy (mg_z bg 2049) pl gl gh go :=
  ⟨fun i hi => absurd hi (Nat.not_lt_zero _), Or.inl ⟨rfl, rfl, rfl, ⟨rfl, rfl, rfl, rfl, rfl⟩, fun j hj => if_pos hj⟩⟩
end
