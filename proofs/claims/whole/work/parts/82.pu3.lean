/-! Pure rows: the program's rounding is the reference's -/
theorem bit_and {s k : Nat} (hs : s < 2 ^ 62) (hk : k < 62) : (lN s &&& lN (2 ^ k) = 0) ↔ s / 2 ^ k % 2 = 0 := by
  have h64 : (2 : Nat) ^ k < 2 ^ 62 := Nat.pow_lt_pow_right (by decide) hk
  have e : s &&& 2 ^ k = (s / 2 ^ k % 2) * 2 ^ k := by
    apply Nat.eq_of_testBit_eq
    intro j
    rw [Nat.testBit_and, Nat.testBit_two_pow]
    rcases Nat.mod_two_eq_zero_or_one (s / 2 ^ k) with c | c
    · rw [c, Nat.zero_mul, Nat.zero_testBit]
      by_cases e : k = j
      · subst e
        rw [Nat.testBit_eq_decide_div_mod_eq, c]; rfl
      · simp [e]
    · rw [c, Nat.one_mul, Nat.testBit_two_pow]
      by_cases e : k = j
      · subst e
        rw [Nat.testBit_eq_decide_div_mod_eq, c]; simp
      · simp [e]
  rw [wb_and (by omega) (by omega), e]
  have hp : 0 < (2 : Nat) ^ k := Nat.two_pow_pos k
  rcases Nat.mod_two_eq_zero_or_one (s / 2 ^ k) with c | c
  · rw [c]
    exact ⟨fun _ => rfl, fun _ => by rw [Nat.zero_mul]; rfl⟩
  · rw [c, Nat.one_mul]
    refine ⟨fun h => ?_, fun h => absurd h (by decide)⟩
    have h2 := congrArg Int64.toInt h
    rw [pf_lI (by omega)] at h2
    have : ((2 ^ k : Nat) : Int) = 0 := h2
    omega
theorem rp_sub_i {W : Int64} {p l : Nat} {w : Nat} (hW : W = lN w) (hw : w < 2 ^ 61) (hl : l < 2 ^ 63) (hp : p < 2 ^ 62) : rp_sub W (lN p, lN l) = if l < w then (lN p, lN l) else (lN (p + 1), lN (l - w)) := by
  unfold rp_sub
  rw [hW]
  have e : ((lN l : Int64) < lN w) ↔ l < w := by rw [Int64.lt_iff_toInt_lt, pf_lI (by omega), pf_lI (by omega)]; omega
  by_cases c : l < w
  · rw [if_pos c, if_pos (e.mpr c)]
  · rw [if_neg c, if_neg (fun z => c (e.mp z))]
    have e2 : lN l - lN w = lN (l - w) := by
      apply Int64.toInt.inj
      rw [i64_sub] <;> rw [pf_lI (by omega), pf_lI (by omega)]
      · rw [pf_lI (by omega)]; omega
      · omega
      · omega
    rw [e2, lN_1]
theorem rp_step {L w sh p l k : Nat} (hL : L < 2 ^ 30) (hk : k < 30) (hw : w ≤ 2000000000000000000) (hsh : sh < w) (hl : l < w) (hp : p < 2 ^ 31) :
    ∃ p' l', rp_sub (lN w) (rp_sub (lN w) (2 * lN p, 2 * lN l + (if lN L &&& rp_bit (k + 1) = 0 then 0 else lN sh))) = (lN p', lN l') ∧ p' * w + l' = 2 * (p * w + l) + L / 2 ^ k % 2 * sh ∧ l' < w := by
  have hb : (lN L &&& rp_bit (k + 1) = 0) ↔ L / 2 ^ k % 2 = 0 := by
    rw [show rp_bit (k + 1) = lN (2 ^ k) from if_neg (by omega)]
    exact bit_and (by omega) (by omega)
  have hb2 : L / 2 ^ k % 2 < 2 := Nat.mod_lt _ (by decide)
  generalize L / 2 ^ k % 2 = bt at hb hb2 ⊢
  have e0 : (if lN L &&& rp_bit (k + 1) = 0 then 0 else lN sh) = lN (bt * sh) := by
    by_cases c : bt = 0
    · rw [if_pos (hb.mpr c), c, Nat.zero_mul]; rfl
    · rw [if_neg (fun z => c (hb.mp z)), show bt = 1 by omega, Nat.one_mul]
  have hs2 : bt * sh ≤ sh := by
    have : bt = 0 ∨ bt = 1 := by omega
    rcases this with c | c <;> rw [c] <;> omega
  rw [e0, show (2 : Int64) = lN 2 from rfl, lN_mul, lN_mul, lN_add, rp_sub_i rfl (by omega) (by omega) (by omega)]
  by_cases c1 : 2 * l + bt * sh < w
  · rw [if_pos c1, rp_sub_i rfl (by omega) (by omega) (by omega), if_pos c1]
    exact ⟨2 * p, 2 * l + bt * sh, rfl, by rw [Nat.mul_assoc]; omega, c1⟩
  · rw [if_neg c1, rp_sub_i rfl (by omega) (by omega) (by omega)]
    by_cases c2 : 2 * l + bt * sh - w < w
    · rw [if_pos c2]
      exact ⟨2 * p + 1, 2 * l + bt * sh - w, rfl, by rw [Nat.add_mul, Nat.mul_assoc]; omega, c2⟩
    · rw [if_neg c2]
      exact ⟨2 * p + 1 + 1, 2 * l + bt * sh - w - w, rfl, by rw [Nat.add_mul, Nat.add_mul, Nat.mul_assoc]; omega, by omega⟩
theorem rp_go_i {L w sh : Nat} (hL : L < 2 ^ 30) (hw : w ≤ 2000000000000000000) (hsh : sh < w) : ∀ (k p l : Nat), k ≤ 30 → p * w + l = L / 2 ^ k * sh → l < w → rp_go (lN L) (lN sh) (lN w) k (lN p, lN l) = (lN (L * sh / w), lN (L * sh % w)) := by
  intro k
  induction k with
  | zero =>
    intro p l _ h1 h2
    rw [Nat.pow_zero, Nat.div_one] at h1
    obtain ⟨a, b⟩ := dm_un h1 h2
    show (lN p, lN l) = _
    rw [a, b]
  | succ k ih =>
    intro p l hk h1 h2
    have hp : p ≤ L := by
      have b1 : L / 2 ^ (k + 1) * sh ≤ L * w := Nat.mul_le_mul (Nat.div_le_self _ _) (by omega)
      have b2 : p * w ≤ L * w := by omega
      exact Nat.le_of_mul_le_mul_right b2 (by omega)
    obtain ⟨p', l', e1, e2, e3⟩ := rp_step (k := k) (p := p) hL (by omega) hw hsh h2 (by omega)
    show rp_go (lN L) (lN sh) (lN w) k (rp_sub (lN w) (rp_sub (lN w) (2 * lN p, 2 * lN l + (if lN L &&& rp_bit (k + 1) = 0 then 0 else lN sh)))) = _
    rw [e1]
    apply ih p' l' (by omega) _ e3
    rw [e2, h1, dm_bit L k, Nat.add_mul, Nat.mul_assoc]
    congr 2
    omega
theorem rd_eq (b : Int) {o u : Nat} (hu : 0 < u) : rd b o u = (2 * (b * o) + u) / (2 * u) := by
  have hdm := Nat.div_add_mod (b.natAbs * o) u
  have hml := Nat.mod_lt (b.natAbs * o) hu
  have hN : ((b.natAbs * o : Nat) : Int) = (b.natAbs : Int) * o := by push_cast; rfl
  unfold rd
  generalize b.natAbs * o / u = q at hdm ⊢
  generalize b.natAbs * o % u = r at hdm hml ⊢
  generalize hX : b.natAbs * o = N at hdm hN
  have hq : ((u * q : Nat) : Int) = (u : Int) * q := by push_cast; rfl
  generalize hY : u * q = M at hdm hq
  have hd : (0 : Int) < 2 * (u : Int) := by omega
  have key : ∀ z : Int, z * (2 * (u : Int)) ≤ 2 * (b * o) + u → 2 * (b * o) + u < z * (2 * (u : Int)) + 2 * u → z = (2 * (b * o) + u) / (2 * u) := by
    intro z h1 h2
    apply Int.le_antisymm
    · exact (Int.le_ediv_iff_mul_le hd).mpr h1
    · have : (2 * (b * o) + u) / (2 * (u : Int)) < z + 1 := (Int.ediv_lt_iff_lt_mul hd).mpr (by rw [Int.add_mul]; omega)
      omega
  have e1 : ∀ z : Int, z * (2 * (u : Int)) = 2 * (u * z) := fun z => by grind
  by_cases c : b < 0
  · rw [if_pos c]
    have hb : b * (o : Int) = -(N : Int) := by
      rw [hN, show (b.natAbs : Int) = -b by omega]; grind
    by_cases c2 : u < 2 * r
    · rw [if_pos c2]
      apply key <;> rw [e1, hb, show (u : Int) * (-(q : Int) - 1) = -((u : Int) * q) - u by grind, ← hq] <;> omega
    · rw [if_neg c2]
      apply key <;> rw [e1, hb, show (u : Int) * (-(q : Int)) = -((u : Int) * q) by grind, ← hq] <;> omega
  · rw [if_neg c]
    have hb : b * (o : Int) = (N : Int) := by
      rw [hN, show (b.natAbs : Int) = b by omega]
    by_cases c2 : 2 * r < u
    · rw [if_pos c2]
      apply key <;> rw [e1, hb, ← hq] <;> omega
    · rw [if_neg c2]
      apply key <;> rw [e1, hb, show (u : Int) * ((q : Int) + 1) = (u : Int) * q + u by grind, ← hq] <;> omega
/-- the rounding of a part that is less than the whole stays on the way -/
theorem rd_b {b : Int} {o u : Nat} (ho : o < u) : (0 ≤ b → 0 ≤ rd b o u ∧ rd b o u ≤ b) ∧ (b ≤ 0 → b ≤ rd b o u ∧ rd b o u ≤ 0) := by
  rw [rd_eq b (by omega)]
  have hd : (0 : Int) < 2 * (u : Int) := by omega
  have hbo : ∀ c : Int, 0 ≤ c → 0 ≤ c * (o : Int) ∧ c * (o : Int) ≤ c * u := fun c hc => ⟨Int.mul_nonneg hc (by omega), Int.mul_le_mul_of_nonneg_left (by omega) hc⟩
  constructor
  · intro h
    obtain ⟨h1, h2⟩ := hbo b h
    refine ⟨Int.ediv_nonneg (by omega) (by omega), ?_⟩
    have : (2 * (b * o) + u) / (2 * (u : Int)) < b + 1 := (Int.ediv_lt_iff_lt_mul hd).mpr (by rw [show (b + 1) * (2 * (u : Int)) = 2 * (b * u) + 2 * u by grind]; omega)
    omega
  · intro h
    obtain ⟨h1, h2⟩ := hbo (-b) (by omega)
    rw [Int.neg_mul] at h1 h2
    rw [Int.neg_mul] at h2
    constructor
    · exact (Int.le_ediv_iff_mul_le hd).mpr (by rw [show b * (2 * (u : Int)) = 2 * (b * u) by grind]; omega)
    · have : (2 * (b * o) + u) / (2 * (u : Int)) < 0 + 1 := (Int.ediv_lt_iff_lt_mul hd).mpr (by omega)
      omega
theorem i64_ofI {z : Int} (h1 : -9223372036854775808 ≤ z) (h2 : z < 9223372036854775808) : (Int64.ofInt z).toInt = z := Int64.toInt_ofInt_of_le h1 h2
theorem rp_all_i {way sh w : Int64} (hb : way.toInt.natAbs ≤ 1000000000) (h0 : 0 ≤ sh.toInt) (h1 : sh.toInt < w.toInt) (h2 : w.toInt ≤ 2000000000000000000) :
    rp_all way sh w = (lN (way.toInt.natAbs * sh.toInt.toNat / w.toInt.toNat), lN (way.toInt.natAbs * sh.toInt.toNat % w.toInt.toNat)) := by
  have e1 : ab64 way = lN way.toInt.natAbs := by
    apply Int64.toInt.inj
    rw [ab64_i (by omega), pf_lI (by omega)]
  have e2 := i64_lN h0
  have e3 := i64_lN (a := w) (by omega)
  have e4 := rp_go_i (L := way.toInt.natAbs) (w := w.toInt.toNat) (sh := sh.toInt.toNat) (by omega) (by omega) (by omega) 30 0 0 (by decide) (by rw [Nat.div_eq_of_lt (by omega), Nat.zero_mul, Nat.zero_mul]) (by omega)
  rw [← e2, ← e3, ← e1] at e4
  exact e4
/-- the program's rounding is the reference's -/
theorem sg_rp_i {way sh w : Int64} (hb : way.toInt.natAbs ≤ 1000000000) (h0 : 0 ≤ sh.toInt) (h1 : sh.toInt < w.toInt) (h2 : w.toInt ≤ 2000000000000000000) :
    sg_rp way sh w = Int64.ofInt (rd way.toInt sh.toInt.toNat w.toInt.toNat) := by
  have hml := Nat.mod_lt (way.toInt.natAbs * sh.toInt.toNat) (show 0 < w.toInt.toNat by omega)
  have hq : way.toInt.natAbs * sh.toInt.toNat / w.toInt.toNat ≤ way.toInt.natAbs := by
    apply Nat.div_le_of_le_mul
    rw [Nat.mul_comm]
    exact Nat.mul_le_mul_right _ (by omega)
  unfold sg_rp rd
  rw [rp_all_i hb h0 h1 h2]
  dsimp only
  generalize way.toInt.natAbs * sh.toInt.toNat / w.toInt.toNat = p at hq ⊢
  generalize way.toInt.natAbs * sh.toInt.toNat % w.toInt.toNat = r at hml ⊢
  have e2 : (2 : Int64) * lN r = lN (2 * r) := by rw [show (2 : Int64) = lN 2 from rfl, lN_mul]
  have e3 := i64_lN (a := w) (by omega)
  rw [e2, lN_1]
  have c1 : (w < lN (2 * r)) ↔ w.toInt.toNat < 2 * r := by rw [Int64.lt_iff_toInt_lt, pf_lI (by omega)]; omega
  have c2 : (lN (2 * r) < w) ↔ 2 * r < w.toInt.toNat := by rw [Int64.lt_iff_toInt_lt, pf_lI (by omega)]; omega
  by_cases c : way < 0
  · have c' := i64_lt0.mp c
    rw [if_pos c, if_pos c']
    apply Int64.toInt.inj
    by_cases d : w.toInt.toNat < 2 * r
    · rw [if_pos d, if_pos (c1.mpr d), i64_neg (by rw [pf_lI (by omega)]; omega), pf_lI (by omega), i64_ofI (by omega) (by omega)]; omega
    · rw [if_neg d, if_neg (fun z => d (c1.mp z)), i64_neg (by rw [pf_lI (by omega)]; omega), pf_lI (by omega), i64_ofI (by omega) (by omega)]
  · have c' : ¬ way.toInt < 0 := fun z => c (i64_lt0.mpr z)
    rw [if_neg c, if_neg c']
    apply Int64.toInt.inj
    by_cases d : 2 * r < w.toInt.toNat
    · rw [if_pos d, if_pos (c2.mpr d), pf_lI (by omega), i64_ofI (by omega) (by omega)]
    · rw [if_neg d, if_neg (fun z => d (c2.mp z)), pf_lI (by omega), i64_ofI (by omega) (by omega)]; omega
