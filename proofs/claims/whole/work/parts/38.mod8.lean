theorem d_M_heat_0 : decode c_M_heat 0 = .ok (.iconst 0, 1) := by decide +kernel
theorem d_M_heat_1 : decode c_M_heat 1 = .ok (.istore_n 3, 1) := by decide +kernel
theorem d_M_heat_2 : decode c_M_heat 2 = .ok (.aload_n 0, 1) := by decide +kernel
theorem d_M_heat_3 : decode c_M_heat 3 = .ok (.getfield 63, 3) := by decide +kernel
theorem d_M_heat_6 : decode c_M_heat 6 = .ok (.istore 4, 2) := by decide +kernel
theorem d_M_heat_8 : decode c_M_heat 8 = .ok (.iload_n 3, 1) := by decide +kernel
theorem d_M_heat_9 : decode c_M_heat 9 = .ok (.iload 4, 2) := by decide +kernel
theorem d_M_heat_11 : decode c_M_heat 11 = .ok (.if_icmp .ge 37, 3) := by decide +kernel
theorem d_M_heat_14 : decode c_M_heat 14 = .ok (.iload_n 3, 1) := by decide +kernel
theorem d_M_heat_15 : decode c_M_heat 15 = .ok (.iload 4, 2) := by decide +kernel
theorem d_M_heat_17 : decode c_M_heat 17 = .ok (.iadd, 1) := by decide +kernel
theorem d_M_heat_18 : decode c_M_heat 18 = .ok (.iconst 2, 1) := by decide +kernel
theorem d_M_heat_19 : decode c_M_heat 19 = .ok (.idiv, 1) := by decide +kernel
theorem d_M_heat_20 : decode c_M_heat 20 = .ok (.istore 5, 2) := by decide +kernel
theorem d_M_heat_22 : decode c_M_heat 22 = .ok (.aload_n 0, 1) := by decide +kernel
theorem d_M_heat_23 : decode c_M_heat 23 = .ok (.iload 5, 2) := by decide +kernel
theorem d_M_heat_25 : decode c_M_heat 25 = .ok (.iload_n 1, 1) := by decide +kernel
theorem d_M_heat_26 : decode c_M_heat 26 = .ok (.iload_n 2, 1) := by decide +kernel
theorem d_M_heat_27 : decode c_M_heat 27 = .ok (.invokevirtual 140, 3) := by decide +kernel
theorem d_M_heat_30 : decode c_M_heat 30 = .ok (.ifCond .eq 11, 3) := by decide +kernel
theorem d_M_heat_33 : decode c_M_heat 33 = .ok (.iload 5, 2) := by decide +kernel
theorem d_M_heat_35 : decode c_M_heat 35 = .ok (.iconst 1, 1) := by decide +kernel
theorem d_M_heat_36 : decode c_M_heat 36 = .ok (.iadd, 1) := by decide +kernel
theorem d_M_heat_37 : decode c_M_heat 37 = .ok (.istore_n 3, 1) := by decide +kernel
theorem d_M_heat_38 : decode c_M_heat 38 = .ok (.goto 7, 3) := by decide +kernel
theorem d_M_heat_41 : decode c_M_heat 41 = .ok (.iload 5, 2) := by decide +kernel
theorem d_M_heat_43 : decode c_M_heat 43 = .ok (.istore 4, 2) := by decide +kernel
theorem d_M_heat_45 : decode c_M_heat 45 = .ok (.goto (-37), 3) := by decide +kernel
theorem d_M_heat_48 : decode c_M_heat 48 = .ok (.iload_n 3, 1) := by decide +kernel
theorem d_M_heat_49 : decode c_M_heat 49 = .ok (.aload_n 0, 1) := by decide +kernel
theorem d_M_heat_50 : decode c_M_heat 50 = .ok (.getfield 63, 3) := by decide +kernel
theorem d_M_heat_53 : decode c_M_heat 53 = .ok (.if_icmp .ge 25, 3) := by decide +kernel
theorem d_M_heat_56 : decode c_M_heat 56 = .ok (.aload_n 0, 1) := by decide +kernel
theorem d_M_heat_57 : decode c_M_heat 57 = .ok (.getfield 13, 3) := by decide +kernel
theorem d_M_heat_60 : decode c_M_heat 60 = .ok (.iload_n 3, 1) := by decide +kernel
theorem d_M_heat_61 : decode c_M_heat 61 = .ok (.iaload, 1) := by decide +kernel
theorem d_M_heat_62 : decode c_M_heat 62 = .ok (.iload_n 1, 1) := by decide +kernel
theorem d_M_heat_63 : decode c_M_heat 63 = .ok (.if_icmp .ne 15, 3) := by decide +kernel
theorem d_M_heat_66 : decode c_M_heat 66 = .ok (.aload_n 0, 1) := by decide +kernel
theorem d_M_heat_67 : decode c_M_heat 67 = .ok (.getfield 16, 3) := by decide +kernel
theorem d_M_heat_70 : decode c_M_heat 70 = .ok (.iload_n 3, 1) := by decide +kernel
theorem d_M_heat_71 : decode c_M_heat 71 = .ok (.iaload, 1) := by decide +kernel
theorem d_M_heat_72 : decode c_M_heat 72 = .ok (.iload_n 2, 1) := by decide +kernel
theorem d_M_heat_73 : decode c_M_heat 73 = .ok (.if_icmp .ne 5, 3) := by decide +kernel
theorem d_M_heat_76 : decode c_M_heat 76 = .ok (.iconst 1, 1) := by decide +kernel
theorem d_M_heat_77 : decode c_M_heat 77 = .ok (.ireturn, 1) := by decide +kernel
theorem d_M_heat_78 : decode c_M_heat 78 = .ok (.aload_n 0, 1) := by decide +kernel
theorem d_M_heat_79 : decode c_M_heat 79 = .ok (.getfield 63, 3) := by decide +kernel
theorem d_M_heat_82 : decode c_M_heat 82 = .ok (.istore 5, 2) := by decide +kernel
theorem d_M_heat_84 : decode c_M_heat 84 = .ok (.iload 5, 2) := by decide +kernel
theorem d_M_heat_86 : decode c_M_heat 86 = .ok (.iload_n 3, 1) := by decide +kernel
theorem d_M_heat_87 : decode c_M_heat 87 = .ok (.if_icmp .le 41, 3) := by decide +kernel
theorem d_M_heat_90 : decode c_M_heat 90 = .ok (.aload_n 0, 1) := by decide +kernel
theorem d_M_heat_91 : decode c_M_heat 91 = .ok (.getfield 13, 3) := by decide +kernel
theorem d_M_heat_94 : decode c_M_heat 94 = .ok (.iload 5, 2) := by decide +kernel
theorem d_M_heat_96 : decode c_M_heat 96 = .ok (.aload_n 0, 1) := by decide +kernel
theorem d_M_heat_97 : decode c_M_heat 97 = .ok (.getfield 13, 3) := by decide +kernel
theorem d_M_heat_100 : decode c_M_heat 100 = .ok (.iload 5, 2) := by decide +kernel
theorem d_M_heat_102 : decode c_M_heat 102 = .ok (.iconst 1, 1) := by decide +kernel
theorem d_M_heat_103 : decode c_M_heat 103 = .ok (.isub, 1) := by decide +kernel
theorem d_M_heat_104 : decode c_M_heat 104 = .ok (.iaload, 1) := by decide +kernel
theorem d_M_heat_105 : decode c_M_heat 105 = .ok (.iastore, 1) := by decide +kernel
theorem d_M_heat_106 : decode c_M_heat 106 = .ok (.aload_n 0, 1) := by decide +kernel
theorem d_M_heat_107 : decode c_M_heat 107 = .ok (.getfield 16, 3) := by decide +kernel
theorem d_M_heat_110 : decode c_M_heat 110 = .ok (.iload 5, 2) := by decide +kernel
theorem d_M_heat_112 : decode c_M_heat 112 = .ok (.aload_n 0, 1) := by decide +kernel
theorem d_M_heat_113 : decode c_M_heat 113 = .ok (.getfield 16, 3) := by decide +kernel
theorem d_M_heat_116 : decode c_M_heat 116 = .ok (.iload 5, 2) := by decide +kernel
theorem d_M_heat_118 : decode c_M_heat 118 = .ok (.iconst 1, 1) := by decide +kernel
theorem d_M_heat_119 : decode c_M_heat 119 = .ok (.isub, 1) := by decide +kernel
theorem d_M_heat_120 : decode c_M_heat 120 = .ok (.iaload, 1) := by decide +kernel
theorem d_M_heat_121 : decode c_M_heat 121 = .ok (.iastore, 1) := by decide +kernel
theorem d_M_heat_122 : decode c_M_heat 122 = .ok (.iinc 5 (-1), 3) := by decide +kernel
theorem d_M_heat_125 : decode c_M_heat 125 = .ok (.goto (-41), 3) := by decide +kernel
theorem d_M_heat_128 : decode c_M_heat 128 = .ok (.aload_n 0, 1) := by decide +kernel
theorem d_M_heat_129 : decode c_M_heat 129 = .ok (.getfield 13, 3) := by decide +kernel
theorem d_M_heat_132 : decode c_M_heat 132 = .ok (.iload_n 3, 1) := by decide +kernel
theorem d_M_heat_133 : decode c_M_heat 133 = .ok (.iload_n 1, 1) := by decide +kernel
theorem d_M_heat_134 : decode c_M_heat 134 = .ok (.iastore, 1) := by decide +kernel
theorem d_M_heat_135 : decode c_M_heat 135 = .ok (.aload_n 0, 1) := by decide +kernel
theorem d_M_heat_136 : decode c_M_heat 136 = .ok (.getfield 16, 3) := by decide +kernel
theorem d_M_heat_139 : decode c_M_heat 139 = .ok (.iload_n 3, 1) := by decide +kernel
theorem d_M_heat_140 : decode c_M_heat 140 = .ok (.iload_n 2, 1) := by decide +kernel
theorem d_M_heat_141 : decode c_M_heat 141 = .ok (.iastore, 1) := by decide +kernel
theorem d_M_heat_142 : decode c_M_heat 142 = .ok (.aload_n 0, 1) := by decide +kernel
theorem d_M_heat_143 : decode c_M_heat 143 = .ok (.dup, 1) := by decide +kernel
theorem d_M_heat_144 : decode c_M_heat 144 = .ok (.getfield 63, 3) := by decide +kernel
theorem d_M_heat_147 : decode c_M_heat 147 = .ok (.iconst 1, 1) := by decide +kernel
theorem d_M_heat_148 : decode c_M_heat 148 = .ok (.iadd, 1) := by decide +kernel
theorem d_M_heat_149 : decode c_M_heat 149 = .ok (.putfield 63, 3) := by decide +kernel
theorem d_M_heat_152 : decode c_M_heat 152 = .ok (.aload_n 0, 1) := by decide +kernel
theorem d_M_heat_153 : decode c_M_heat 153 = .ok (.getfield 63, 3) := by decide +kernel
theorem d_M_heat_156 : decode c_M_heat 156 = .ok (.sipush 8192, 3) := by decide +kernel
theorem d_M_heat_159 : decode c_M_heat 159 = .ok (.if_icmp .gt 7, 3) := by decide +kernel
theorem d_M_heat_162 : decode c_M_heat 162 = .ok (.iconst 1, 1) := by decide +kernel
theorem d_M_heat_163 : decode c_M_heat 163 = .ok (.goto 4, 3) := by decide +kernel
theorem d_M_heat_166 : decode c_M_heat 166 = .ok (.iconst 0, 1) := by decide +kernel
theorem d_M_heat_167 : decode c_M_heat 167 = .ok (.ireturn, 1) := by decide +kernel
theorem d_M_isBefore_0 : decode c_M_isBefore 0 = .ok (.aload_n 0, 1) := by decide +kernel
theorem d_M_isBefore_1 : decode c_M_isBefore 1 = .ok (.getfield 13, 3) := by decide +kernel
theorem d_M_isBefore_4 : decode c_M_isBefore 4 = .ok (.iload_n 1, 1) := by decide +kernel
theorem d_M_isBefore_5 : decode c_M_isBefore 5 = .ok (.iaload, 1) := by decide +kernel
theorem d_M_isBefore_6 : decode c_M_isBefore 6 = .ok (.iload_n 2, 1) := by decide +kernel
theorem d_M_isBefore_7 : decode c_M_isBefore 7 = .ok (.if_icmp .lt 23, 3) := by decide +kernel
theorem d_M_isBefore_10 : decode c_M_isBefore 10 = .ok (.aload_n 0, 1) := by decide +kernel
theorem d_M_isBefore_11 : decode c_M_isBefore 11 = .ok (.getfield 13, 3) := by decide +kernel
theorem d_M_isBefore_14 : decode c_M_isBefore 14 = .ok (.iload_n 1, 1) := by decide +kernel
theorem d_M_isBefore_15 : decode c_M_isBefore 15 = .ok (.iaload, 1) := by decide +kernel
theorem d_M_isBefore_16 : decode c_M_isBefore 16 = .ok (.iload_n 2, 1) := by decide +kernel
theorem d_M_isBefore_17 : decode c_M_isBefore 17 = .ok (.if_icmp .ne 17, 3) := by decide +kernel
theorem d_M_isBefore_20 : decode c_M_isBefore 20 = .ok (.aload_n 0, 1) := by decide +kernel
theorem d_M_isBefore_21 : decode c_M_isBefore 21 = .ok (.getfield 16, 3) := by decide +kernel
theorem d_M_isBefore_24 : decode c_M_isBefore 24 = .ok (.iload_n 1, 1) := by decide +kernel
theorem d_M_isBefore_25 : decode c_M_isBefore 25 = .ok (.iaload, 1) := by decide +kernel
theorem d_M_isBefore_26 : decode c_M_isBefore 26 = .ok (.iload_n 3, 1) := by decide +kernel
theorem d_M_isBefore_27 : decode c_M_isBefore 27 = .ok (.if_icmp .ge 7, 3) := by decide +kernel
theorem d_M_isBefore_30 : decode c_M_isBefore 30 = .ok (.iconst 1, 1) := by decide +kernel
theorem d_M_isBefore_31 : decode c_M_isBefore 31 = .ok (.goto 4, 3) := by decide +kernel
theorem d_M_isBefore_34 : decode c_M_isBefore 34 = .ok (.iconst 0, 1) := by decide +kernel
theorem d_M_isBefore_35 : decode c_M_isBefore 35 = .ok (.ireturn, 1) := by decide +kernel
abbrev hb_lt (a b x y : Int32) : Prop := a < x ∨ (a = x ∧ b < y)
abbrev HT : Type := (Nat → Int32) × (Nat → Int32) × Nat
/-- the first place that is not before x, y -/
def mh_bs (gx gy : Nat → Int32) (x y : Int32) : Nat → Nat → Nat → Nat
  | 0, lo, _ => lo
  | n + 1, lo, hi => if lo < hi then (if hb_lt (gx ((lo + hi) / 2)) (gy ((lo + hi) / 2)) x y then mh_bs gx gy x y n ((lo + hi) / 2 + 1) hi else mh_bs gx gy x y n lo ((lo + hi) / 2)) else lo
theorem mh_bs_le {gx gy : Nat → Int32} {x y : Int32} : ∀ n lo hi, lo ≤ hi → lo ≤ mh_bs gx gy x y n lo hi ∧ mh_bs gx gy x y n lo hi ≤ hi := by
  intro n
  induction n with
  | zero => intro lo hi h; exact ⟨Nat.le_refl _, h⟩
  | succ n ih =>
    intro lo hi h
    unfold mh_bs
    split
    · split
      · have := ih ((lo + hi) / 2 + 1) hi (by omega)
        omega
      · have := ih lo ((lo + hi) / 2) (by omega)
        omega
    · exact ⟨Nat.le_refl _, h⟩
/-- the places from k + 1 to h moved up by one -/
def mh_mv (g : Nat → Int32) (k h : Nat) : Nat → Int32 := fun j => if k < j ∧ j ≤ h then g (j - 1) else g j
theorem mh_mv_s (g : Nat → Int32) (k h : Nat) (hk : k + 1 ≤ h) : upd (mh_mv g (k + 1) h) (k + 1) (mh_mv g (k + 1) h k) = mh_mv g k h := by
  funext j
  by_cases e : j = k + 1
  · subst e
    rw [pk_us, mh_mv, mh_mv, if_neg (by omega), if_pos (by omega), Nat.add_sub_cancel]
  · rw [pk_un e, mh_mv, mh_mv]
    by_cases c : k + 1 < j ∧ j ≤ h
    · rw [if_pos c, if_pos (by omega)]
    · rw [if_neg c, if_neg (by omega)]
theorem mh_mv_0 (g : Nat → Int32) (h : Nat) : mh_mv g h h = g := by
  funext j
  exact if_neg (by omega)
def mh_lo (s : HT) (x y : Int32) : Nat := mh_bs s.1 s.2.1 x y (s.2.2 + 1) 0 s.2.2
def mh_heat (s : HT) (x y : Int32) : HT :=
  if mh_lo s x y < s.2.2 ∧ s.1 (mh_lo s x y) = x ∧ s.2.1 (mh_lo s x y) = y then s
  else (upd (mh_mv s.1 (mh_lo s x y) s.2.2) (mh_lo s x y) x, upd (mh_mv s.2.1 (mh_lo s x y) s.2.2) (mh_lo s x y) y, s.2.2 + 1)
noncomputable section
set_option maxHeartbeats 4000000 in
set_option maxRecDepth 100000 in
theorem k_M_isBefore (l : Launch) (D : va_G) (E : ClassId × ClassId × ClassId × ClassId) (h0 : Nat) (ad : Nat → Nat) (th sg sn hot pc cx cy : Int32) (fo fv to tv : Int64) (fi ti : Int32) (gx gy : Nat → Int32) (k : Nat) (x y : Int32) (hk : k < 8193) : Met l y_M_isBefore (.code y_M_isBefore c_M_isBefore 4 (some .boolean) :: gw) ({ frames := 0, cells := 0, slots := 0, locals := 0 } : Room) (rP D E [(h0, .inr (3, mF ad th sg sn hot pc cx cy fo fv to tv fi ti)), ((ad 1), .inl (E.2.1, 8193, .inl gx)), ((ad 2), .inl (E.2.1, 8193, .inl gy))] [.ref h0, .int (nI k), .int x, .int y]) (vp_Si (fun r => r = b01 (hb_lt (gx k) (gy k) x y))) 0 0 (fun _ => False) := by
  refine rd_ofW (by decide) (Nat.le_of_ble_eq_true rfl) ?_
  intro p e s m below meth c B hP hK ls hl
  obtain ⟨hx, hb, hrt, hml, hown, hts, hG, hlocks, hin⟩ := B
  have hl : lv_has ls 4 [(0, .ref h0), (1, .int (nI k)), (2, .int x), (3, .int y)] := hl
  refine lv_aload_n hx hb d_M_isBefore_0 rfl (lv_at hl 0 rfl) ?_
  refine va_get (D := D) (ci := 3) (v := .ref (ad 1)) (C := K_M) (T := F_M) (N := 24) hx hb hG in_M hown hK.1 hP 0 rfl rfl 5 (by decide) (hG _ wd_653) (fun _ h9 => h9) rfl d_M_isBefore_1 ?_
  refine lv_iload_n hx hb d_M_isBefore_4 rfl (lv_at hl 1 rfl) ?_
  refine va_iald hx hb hK.1 hP 1 1 rfl rfl (vp_in_nI (by omega) (by omega)) d_M_isBefore_5 ?_
  rw [show gx (Int32.toNatClampNeg (nI k)) = gx k from by rw [nI_clamp (by omega)]]
  refine lv_iload_n hx hb d_M_isBefore_6 rfl (lv_at hl 2 rfl) ?_
  refine lv_icmp_lt (tgt := 30) hx hb d_M_isBefore_7 (by decide) (fun c1 => ?_) (fun c1 => ?_)
  · refine lv_iconst (v := 1) hx hb d_M_isBefore_30 (by decide) ?_
    refine lv_goto (tgt := 35) hx hb d_M_isBefore_31 (by decide) ?_
    exact W.zret (v := 1) (ty := .boolean) hx hb hrt rfl (fun t ht hW => ⟨1, rfl, by rw [b01_t (p := hb_lt _ _ _ _) (Or.inl c1)], ht⟩) (fun q h => nomatch h) d_M_isBefore_35 hlocks
  · refine lv_aload_n hx hb d_M_isBefore_10 rfl (lv_at hl 0 rfl) ?_
    refine va_get (D := D) (ci := 3) (v := .ref (ad 1)) (C := K_M) (T := F_M) (N := 24) hx hb hG in_M hown hK.1 hP 0 rfl rfl 5 (by decide) (hG _ wd_653) (fun _ h9 => h9) rfl d_M_isBefore_11 ?_
    refine lv_iload_n hx hb d_M_isBefore_14 rfl (lv_at hl 1 rfl) ?_
    refine va_iald hx hb hK.1 hP 1 1 rfl rfl (vp_in_nI (by omega) (by omega)) d_M_isBefore_15 ?_
    rw [show gx (Int32.toNatClampNeg (nI k)) = gx k from by rw [nI_clamp (by omega)]]
    refine lv_iload_n hx hb d_M_isBefore_16 rfl (lv_at hl 2 rfl) ?_
    refine lv_icmp_ne (tgt := 34) hx hb d_M_isBefore_17 (by decide) (fun c2 => ?_) (fun c2 => ?_)
    · refine lv_iconst (v := 0) hx hb d_M_isBefore_34 (by decide) ?_
      exact W.zret (v := 0) (ty := .boolean) hx hb hrt rfl (fun t ht hW => ⟨0, rfl, by rw [b01_f (p := hb_lt _ _ _ _) (fun h => h.elim c1 (fun g => c2 g.1))], ht⟩) (fun q h => nomatch h) d_M_isBefore_35 hlocks
    · refine lv_aload_n hx hb d_M_isBefore_20 rfl (lv_at hl 0 rfl) ?_
      refine va_get (D := D) (ci := 3) (v := .ref (ad 2)) (C := K_M) (T := F_M) (N := 24) hx hb hG in_M hown hK.1 hP 0 rfl rfl 6 (by decide) (hG _ wd_654) (fun _ h9 => h9) rfl d_M_isBefore_21 ?_
      refine lv_iload_n hx hb d_M_isBefore_24 rfl (lv_at hl 1 rfl) ?_
      refine va_iald hx hb hK.1 hP 2 1 rfl rfl (vp_in_nI (by omega) (by omega)) d_M_isBefore_25 ?_
      rw [show gy (Int32.toNatClampNeg (nI k)) = gy k from by rw [nI_clamp (by omega)]]
      refine lv_iload_n hx hb d_M_isBefore_26 rfl (lv_at hl 3 rfl) ?_
      refine lv_icmp_ge (tgt := 34) hx hb d_M_isBefore_27 (by decide) (fun c3 => ?_) (fun c3 => ?_)
      · refine lv_iconst (v := 0) hx hb d_M_isBefore_34 (by decide) ?_
        exact W.zret (v := 0) (ty := .boolean) hx hb hrt rfl (fun t ht hW => ⟨0, rfl, by rw [b01_f (p := hb_lt _ _ _ _) (fun h => h.elim c1 (fun g => absurd c3 (by rw [Int32.le_iff_toInt_le]; rw [Int32.lt_iff_toInt_lt] at g; omega)))], ht⟩) (fun q h => nomatch h) d_M_isBefore_35 hlocks
      · refine lv_iconst (v := 1) hx hb d_M_isBefore_30 (by decide) ?_
        refine lv_goto (tgt := 35) hx hb d_M_isBefore_31 (by decide) ?_
        exact W.zret (v := 1) (ty := .boolean) hx hb hrt rfl (fun t ht hW => ⟨1, rfl, by rw [b01_t (p := hb_lt _ _ _ _) (Or.inr ⟨c2, by rw [Int32.le_iff_toInt_le] at c3; rw [Int32.lt_iff_toInt_lt]; omega⟩)], ht⟩) (fun q h => nomatch h) d_M_isBefore_35 hlocks
set_option maxHeartbeats 4000000 in
set_option maxRecDepth 100000 in
theorem k_M_heat (l : Launch) (D : va_G) (E : ClassId × ClassId × ClassId × ClassId) (h0 sz : Nat) (ad : Nat → Nat) (th sg sn hot pc cx cy : Int32) (fo fv to tv : Int64) (fi ti : Int32) (gx gy : Nat → Int32) (h : Nat) (x y : Int32) (hh : h ≤ 8192) : Met l y_M_heat (.code y_M_heat c_M_heat 6 (some .boolean) :: gw) ({ frames := 1, cells := 0, slots := 0, locals := 24 } : Room) (wP D E [(h0, .inr (3, mF ad th sg sn (nI h) pc cx cy fo fv to tv fi ti)), ((ad 1), .inl (E.2.1, 8193, .inl gx)), ((ad 2), .inl (E.2.1, 8193, .inl gy))] sz [.ref h0, .int x, .int y]) (va_Qi (fun (r : Int32) (u : Unit) => r = b01 ((mh_heat (gx, gy, h) x y).2.2 ≤ 8192)) (wB D (fun _ => [(h0, .inr (3, mF ad th sg sn (nI (mh_heat (gx, gy, h) x y).2.2) pc cx cy fo fv to tv fi ti)), ((ad 1), .inl (E.2.1, 8193, .inl ((mh_heat (gx, gy, h) x y).1))), ((ad 2), .inl (E.2.1, 8193, .inl ((mh_heat (gx, gy, h) x y).2.1)))]) (va_A [(h0, .inr (3, mF ad th sg sn (nI h) pc cx cy fo fv to tv fi ti)), ((ad 1), .inl (E.2.1, 8193, .inl gx)), ((ad 2), .inl (E.2.1, 8193, .inl gy))] sz)) (va_A [(h0, .inr (3, mF ad th sg sn (nI h) pc cx cy fo fv to tv fi ti)), ((ad 1), .inl (E.2.1, 8193, .inl gx)), ((ad 2), .inl (E.2.1, 8193, .inl gy))] sz)) 0 0 (va_A [(h0, .inr (3, mF ad th sg sn (nI h) pc cx cy fo fv to tv fi ti)), ((ad 1), .inl (E.2.1, 8193, .inl gx)), ((ad 2), .inl (E.2.1, 8193, .inl gy))] sz) := by
  refine wr_ofW (Qc := fun A => (va_Qi (fun (r : Int32) (u : Unit) => r = b01 ((mh_heat (gx, gy, h) x y).2.2 ≤ 8192)) (wB D (fun _ => [(h0, .inr (3, mF ad th sg sn (nI (mh_heat (gx, gy, h) x y).2.2) pc cx cy fo fv to tv fi ti)), ((ad 1), .inl (E.2.1, 8193, .inl ((mh_heat (gx, gy, h) x y).1))), ((ad 2), .inl (E.2.1, 8193, .inl ((mh_heat (gx, gy, h) x y).2.1)))]) A) A)) (by decide) (Nat.le_of_ble_eq_true rfl) ?_
  intro p e s m below meth c B hP hK A hA hD hS ls hl
  obtain ⟨hx, hb, hrt, hml, hown, hts, hG, hlocks, hin⟩ := B
  have hl : lv_has ls 6 [(0, .ref h0), (1, .int x), (2, .int y)] := hl
  refine lv_iconst (v := 0) hx hb d_M_heat_0 (by decide) ?_
  refine lv_istore_n (lv' := [(3, .int 0), (0, .ref h0), (1, .int x), (2, .int y)]) hx hb d_M_heat_1 rfl hl (by decide) rfl (fun ls hl => ?_)
  refine lv_aload_n hx hb d_M_heat_2 rfl (lv_at hl 1 rfl) ?_
  refine va_get (D := D) (ci := 3) (v := .int (nI h)) (C := K_M) (T := F_M) (N := 24) hx hb hG in_M hown hK.1 hP 0 rfl rfl 4 (by decide) (hG _ wd_652) (fun _ h9 => h9) rfl d_M_heat_3 ?_
  refine lv_istore (lv' := [(4, .int (nI h)), (3, .int 0), (0, .ref h0), (1, .int x), (2, .int y)]) hx hb d_M_heat_6 hl (by decide) rfl (fun ls hl => ?_)
  obtain ⟨L, hL⟩ : ∃ L, L = mh_lo (gx, gy, h) x y := ⟨_, rfl⟩
  have hLh : L ≤ h := by rw [hL]; exact (mh_bs_le _ _ _ (Nat.zero_le _)).2
  obtain ⟨T, hT⟩ : ∃ T, T = (mh_heat (gx, gy, h) x y) := ⟨_, rfl⟩
  rw [← hT]
  rw [mh_heat, ← hL] at hT
  dsimp only at hT
  have J : ∀ (H : Heap) (locs : List Loc) (ls : Array Slot), (¬ (L < h ∧ gx L = x ∧ gy L = y)) → va_P D vwC [(h0, .inr (3, mF ad th sg sn (nI h) pc cx cy fo fv to tv fi ti)), ((ad 1), .inl (E.2.1, 8193, .inl gx)), ((ad 2), .inl (E.2.1, 8193, .inl gy))] H → va_D A [(h0, .inr (3, mF ad th sg sn (nI h) pc cx cy fo fv to tv fi ti)), ((ad 1), .inl (E.2.1, 8193, .inl gx)), ((ad 2), .inl (E.2.1, 8193, .inl gy))] → va_S A s.heap H locs → lv_has ls 6 [(0, .ref h0), (1, .int x), (2, .int y), (3, .int (nI L))] → W p l e ({ frames := 1, cells := 0, slots := 0, locals := 24 } : Room) s m ([.ref h0, .int x, .int y] : List Value).toArray below meth c H locs 0 0 (MQ below (va_Qi (fun (r : Int32) (u : Unit) => r = b01 (T.2.2 ≤ 8192)) (wB D (fun _ => [(h0, .inr (3, mF ad th sg sn (nI T.2.2) pc cx cy fo fv to tv fi ti)), ((ad 1), .inl (E.2.1, 8193, .inl T.1)), ((ad 2), .inl (E.2.1, 8193, .inl T.2.1))]) A) A) ([.ref h0, .int x, .int y] : List Value).toArray s 0 0 A) (F0 m 78 ls []) := by
    intro H locs ls hn hP hD hS hl
    rw [if_neg hn] at hT
    refine lv_aload_n hx hb d_M_heat_78 rfl (lv_at hl 0 rfl) ?_
    refine va_get (D := D) (ci := 3) (v := .int (nI h)) (C := K_M) (T := F_M) (N := 24) hx hb hG in_M hown hK.1 hP 0 rfl rfl 4 (by decide) (hG _ wd_652) (fun _ h9 => h9) rfl d_M_heat_79 ?_
    refine lv_istore (lv' := [(5, .int (nI h)), (0, .ref h0), (1, .int x), (2, .int y), (3, .int (nI L))]) hx hb d_M_heat_82 hl (by decide) rfl (fun ls hl => ?_)
    have mv : ∀ (fu : Nat) (k : Nat) (H : Heap) (locs : List Loc) (ls : Array Slot), (L ≤ k) → (k ≤ h) → (k < L + fu) → va_P D vwC [(h0, .inr (3, mF ad th sg sn (nI h) pc cx cy fo fv to tv fi ti)), ((ad 1), .inl (E.2.1, 8193, .inl (mh_mv gx k h))), ((ad 2), .inl (E.2.1, 8193, .inl (mh_mv gy k h)))] H → va_D A [(h0, .inr (3, mF ad th sg sn (nI h) pc cx cy fo fv to tv fi ti)), ((ad 1), .inl (E.2.1, 8193, .inl (mh_mv gx k h))), ((ad 2), .inl (E.2.1, 8193, .inl (mh_mv gy k h)))] → va_S A s.heap H locs → lv_has ls 6 [(0, .ref h0), (1, .int x), (2, .int y), (3, .int (nI L)), (5, .int (nI k))] → W p l e ({ frames := 1, cells := 0, slots := 0, locals := 24 } : Room) s m ([.ref h0, .int x, .int y] : List Value).toArray below meth c H locs 0 0 (MQ below (va_Qi (fun (r : Int32) (u : Unit) => r = b01 (T.2.2 ≤ 8192)) (wB D (fun _ => [(h0, .inr (3, mF ad th sg sn (nI T.2.2) pc cx cy fo fv to tv fi ti)), ((ad 1), .inl (E.2.1, 8193, .inl T.1)), ((ad 2), .inl (E.2.1, 8193, .inl T.2.1))]) A) A) ([.ref h0, .int x, .int y] : List Value).toArray s 0 0 A) (F0 m 84 ls []) := by
      intro fu
      induction fu with
      | zero =>
        intro k H locs ls h1 h2 h3 hP hD hS hl
        omega
      | succ fu ih =>
        intro k H locs ls h1 h2 h3 hP hD hS hl
        refine lv_iload hx hb d_M_heat_84 (lv_at hl 4 rfl) ?_
        refine lv_iload_n hx hb d_M_heat_86 rfl (lv_at hl 3 rfl) ?_
        refine lv_icmp_le (tgt := 128) hx hb d_M_heat_87 (by decide) (fun c1 => ?_) (fun c1 => ?_)
        · obtain rfl : k = L := by have := (nI_leI (by omega) (by omega)).mp c1; omega
          refine lv_aload_n hx hb d_M_heat_128 rfl (lv_at hl 0 rfl) ?_
          refine va_get (D := D) (ci := 3) (v := .ref (ad 1)) (C := K_M) (T := F_M) (N := 24) hx hb hG in_M hown hK.1 hP 0 rfl rfl 5 (by decide) (hG _ wd_653) (fun _ h9 => h9) rfl d_M_heat_129 ?_
          refine lv_iload_n hx hb d_M_heat_132 rfl (lv_at hl 3 rfl) ?_
          refine lv_iload_n hx hb d_M_heat_133 rfl (lv_at hl 1 rfl) ?_
          refine va_iast hx hb hK.1 hP hD hS 1 1 rfl rfl (vp_in_nI (by omega) (by omega)) d_M_heat_134 (fun H locs hP hD hS => ?_)
          rw [show upd (mh_mv gx k h) (Int32.toNatClampNeg (nI k)) x = (upd (mh_mv gx k h) k x) from by rw [nI_clamp (by omega)]] at hP hD
          have hP : va_P D vwC [(h0, .inr (3, mF ad th sg sn (nI h) pc cx cy fo fv to tv fi ti)), ((ad 1), .inl (E.2.1, 8193, .inl (upd (mh_mv gx k h) k x))), ((ad 2), .inl (E.2.1, 8193, .inl (mh_mv gy k h)))] H := hP
          have hD : va_D A [(h0, .inr (3, mF ad th sg sn (nI h) pc cx cy fo fv to tv fi ti)), ((ad 1), .inl (E.2.1, 8193, .inl (upd (mh_mv gx k h) k x))), ((ad 2), .inl (E.2.1, 8193, .inl (mh_mv gy k h)))] := hD
          refine lv_aload_n hx hb d_M_heat_135 rfl (lv_at hl 0 rfl) ?_
          refine va_get (D := D) (ci := 3) (v := .ref (ad 2)) (C := K_M) (T := F_M) (N := 24) hx hb hG in_M hown hK.1 hP 0 rfl rfl 6 (by decide) (hG _ wd_654) (fun _ h9 => h9) rfl d_M_heat_136 ?_
          refine lv_iload_n hx hb d_M_heat_139 rfl (lv_at hl 3 rfl) ?_
          refine lv_iload_n hx hb d_M_heat_140 rfl (lv_at hl 2 rfl) ?_
          refine va_iast hx hb hK.1 hP hD hS 2 1 rfl rfl (vp_in_nI (by omega) (by omega)) d_M_heat_141 (fun H locs hP hD hS => ?_)
          rw [show upd (mh_mv gy k h) (Int32.toNatClampNeg (nI k)) y = (upd (mh_mv gy k h) k y) from by rw [nI_clamp (by omega)]] at hP hD
          have hP : va_P D vwC [(h0, .inr (3, mF ad th sg sn (nI h) pc cx cy fo fv to tv fi ti)), ((ad 1), .inl (E.2.1, 8193, .inl (upd (mh_mv gx k h) k x))), ((ad 2), .inl (E.2.1, 8193, .inl (upd (mh_mv gy k h) k y)))] H := hP
          have hD : va_D A [(h0, .inr (3, mF ad th sg sn (nI h) pc cx cy fo fv to tv fi ti)), ((ad 1), .inl (E.2.1, 8193, .inl (upd (mh_mv gx k h) k x))), ((ad 2), .inl (E.2.1, 8193, .inl (upd (mh_mv gy k h) k y)))] := hD
          refine lv_aload_n hx hb d_M_heat_142 rfl (lv_at hl 0 rfl) ?_
          refine lv_dup hx hb d_M_heat_143 rfl ?_
          refine va_get (D := D) (ci := 3) (v := .int (nI h)) (C := K_M) (T := F_M) (N := 24) hx hb hG in_M hown hK.1 hP 0 rfl rfl 4 (by decide) (hG _ wd_652) (fun _ h9 => h9) rfl d_M_heat_144 ?_
          refine lv_iconst (v := 1) hx hb d_M_heat_147 (by decide) ?_
          refine lv_iadd hx hb d_M_heat_148 ?_
          rw [show (nI h + 1) = nI (h + 1) from nI_1 _]
          refine va_put (D := D) (ci := 3) (v := .int (nI (h + 1))) (ty := .int) (C := K_M) (T := F_M) (N := 24) hx hb hG in_M t_M t_M_ok n_M hown hK.1 hP hD hS 0 rfl rfl 4 (by decide) (hG _ wd_652) (fun _ h9 => h9) rfl (by decide +kernel) rfl rfl (Nat.le_of_ble_eq_true rfl) d_M_heat_149 (fun H locs hP hD hS => ?_)
          have hP : va_P D vwC [(h0, .inr (3, mF ad th sg sn (nI (h + 1)) pc cx cy fo fv to tv fi ti)), ((ad 1), .inl (E.2.1, 8193, .inl (upd (mh_mv gx k h) k x))), ((ad 2), .inl (E.2.1, 8193, .inl (upd (mh_mv gy k h) k y)))] H := hP
          have hD : va_D A [(h0, .inr (3, mF ad th sg sn (nI (h + 1)) pc cx cy fo fv to tv fi ti)), ((ad 1), .inl (E.2.1, 8193, .inl (upd (mh_mv gx k h) k x))), ((ad 2), .inl (E.2.1, 8193, .inl (upd (mh_mv gy k h) k y)))] := hD
          refine lv_aload_n hx hb d_M_heat_152 rfl (lv_at hl 0 rfl) ?_
          refine va_get (D := D) (ci := 3) (v := .int (nI (h + 1))) (C := K_M) (T := F_M) (N := 24) hx hb hG in_M hown hK.1 hP 0 rfl rfl 4 (by decide) (hG _ wd_652) (fun _ h9 => h9) rfl d_M_heat_153 ?_
          refine lv_sipush (v := 8192) hx hb d_M_heat_156 (by decide) ?_
          subst hT
          refine lv_icmp_gt (tgt := 166) hx hb d_M_heat_159 (by decide) (fun c2 => ?_) (fun c2 => ?_)
          · refine lv_iconst (v := 0) hx hb d_M_heat_166 (by decide) ?_
            exact W.zret (v := 0) (ty := .boolean) hx hb hrt rfl (fun t ht hW => ⟨⟨0, (), rfl, (b01_f (p := h + 1 ≤ 8192) (by have := (nI_ltI (a := 8192) (by omega) (by omega)).mp c2; omega)).symm, ⟨by rw [ht]; exact hP, hD⟩⟩, hS.F ht⟩) hS.2.2 d_M_heat_167 hlocks
          · refine lv_iconst (v := 1) hx hb d_M_heat_162 (by decide) ?_
            refine lv_goto (tgt := 167) hx hb d_M_heat_163 (by decide) ?_
            exact W.zret (v := 1) (ty := .boolean) hx hb hrt rfl (fun t ht hW => ⟨⟨1, (), rfl, (b01_t (p := h + 1 ≤ 8192) (Nat.not_lt.mp (fun q => c2 ((nI_ltI (a := 8192) (by omega) (by omega)).mpr q)))).symm, ⟨by rw [ht]; exact hP, hD⟩⟩, hS.F ht⟩) hS.2.2 d_M_heat_167 hlocks
        · have q : L < k := by rw [nI_leI (by omega) (by omega)] at c1; omega
          obtain ⟨k, rfl⟩ : ∃ i, k = i + 1 := ⟨k - 1, by omega⟩
          refine lv_aload_n hx hb d_M_heat_90 rfl (lv_at hl 0 rfl) ?_
          refine va_get (D := D) (ci := 3) (v := .ref (ad 1)) (C := K_M) (T := F_M) (N := 24) hx hb hG in_M hown hK.1 hP 0 rfl rfl 5 (by decide) (hG _ wd_653) (fun _ h9 => h9) rfl d_M_heat_91 ?_
          refine lv_iload hx hb d_M_heat_94 (lv_at hl 4 rfl) ?_
          refine lv_aload_n hx hb d_M_heat_96 rfl (lv_at hl 0 rfl) ?_
          refine va_get (D := D) (ci := 3) (v := .ref (ad 1)) (C := K_M) (T := F_M) (N := 24) hx hb hG in_M hown hK.1 hP 0 rfl rfl 5 (by decide) (hG _ wd_653) (fun _ h9 => h9) rfl d_M_heat_97 ?_
          refine lv_iload hx hb d_M_heat_100 (lv_at hl 4 rfl) ?_
          refine lv_iconst (v := 1) hx hb d_M_heat_102 (by decide) ?_
          refine lv_isub hx hb d_M_heat_103 ?_
          rw [show (nI (k + 1) - 1) = nI k from nI_pred k]
          refine va_iald hx hb hK.1 hP 1 1 rfl rfl (vp_in_nI (by omega) (by omega)) d_M_heat_104 ?_
          rw [show (mh_mv gx (k + 1) h) (Int32.toNatClampNeg (nI k)) = mh_mv gx (k + 1) h k from by rw [nI_clamp (by omega)]]
          refine va_iast hx hb hK.1 hP hD hS 1 1 rfl rfl (vp_in_nI (by omega) (by omega)) d_M_heat_105 (fun H locs hP hD hS => ?_)
          rw [show upd (mh_mv gx (k + 1) h) (Int32.toNatClampNeg (nI (k + 1))) (mh_mv gx (k + 1) h k) = (mh_mv gx k h) from by rw [nI_clamp (by omega)]; exact mh_mv_s gx k h (by omega)] at hP hD
          have hP : va_P D vwC [(h0, .inr (3, mF ad th sg sn (nI h) pc cx cy fo fv to tv fi ti)), ((ad 1), .inl (E.2.1, 8193, .inl (mh_mv gx k h))), ((ad 2), .inl (E.2.1, 8193, .inl (mh_mv gy (k + 1) h)))] H := hP
          have hD : va_D A [(h0, .inr (3, mF ad th sg sn (nI h) pc cx cy fo fv to tv fi ti)), ((ad 1), .inl (E.2.1, 8193, .inl (mh_mv gx k h))), ((ad 2), .inl (E.2.1, 8193, .inl (mh_mv gy (k + 1) h)))] := hD
          refine lv_aload_n hx hb d_M_heat_106 rfl (lv_at hl 0 rfl) ?_
          refine va_get (D := D) (ci := 3) (v := .ref (ad 2)) (C := K_M) (T := F_M) (N := 24) hx hb hG in_M hown hK.1 hP 0 rfl rfl 6 (by decide) (hG _ wd_654) (fun _ h9 => h9) rfl d_M_heat_107 ?_
          refine lv_iload hx hb d_M_heat_110 (lv_at hl 4 rfl) ?_
          refine lv_aload_n hx hb d_M_heat_112 rfl (lv_at hl 0 rfl) ?_
          refine va_get (D := D) (ci := 3) (v := .ref (ad 2)) (C := K_M) (T := F_M) (N := 24) hx hb hG in_M hown hK.1 hP 0 rfl rfl 6 (by decide) (hG _ wd_654) (fun _ h9 => h9) rfl d_M_heat_113 ?_
          refine lv_iload hx hb d_M_heat_116 (lv_at hl 4 rfl) ?_
          refine lv_iconst (v := 1) hx hb d_M_heat_118 (by decide) ?_
          refine lv_isub hx hb d_M_heat_119 ?_
          rw [show (nI (k + 1) - 1) = nI k from nI_pred k]
          refine va_iald hx hb hK.1 hP 2 1 rfl rfl (vp_in_nI (by omega) (by omega)) d_M_heat_120 ?_
          rw [show (mh_mv gy (k + 1) h) (Int32.toNatClampNeg (nI k)) = mh_mv gy (k + 1) h k from by rw [nI_clamp (by omega)]]
          refine va_iast hx hb hK.1 hP hD hS 2 1 rfl rfl (vp_in_nI (by omega) (by omega)) d_M_heat_121 (fun H locs hP hD hS => ?_)
          rw [show upd (mh_mv gy (k + 1) h) (Int32.toNatClampNeg (nI (k + 1))) (mh_mv gy (k + 1) h k) = (mh_mv gy k h) from by rw [nI_clamp (by omega)]; exact mh_mv_s gy k h (by omega)] at hP hD
          have hP : va_P D vwC [(h0, .inr (3, mF ad th sg sn (nI h) pc cx cy fo fv to tv fi ti)), ((ad 1), .inl (E.2.1, 8193, .inl (mh_mv gx k h))), ((ad 2), .inl (E.2.1, 8193, .inl (mh_mv gy k h)))] H := hP
          have hD : va_D A [(h0, .inr (3, mF ad th sg sn (nI h) pc cx cy fo fv to tv fi ti)), ((ad 1), .inl (E.2.1, 8193, .inl (mh_mv gx k h))), ((ad 2), .inl (E.2.1, 8193, .inl (mh_mv gy k h)))] := hD
          refine lv_iinc (v := nI k) (lv' := [(5, .int (nI k)), (0, .ref h0), (1, .int x), (2, .int y), (3, .int (nI L))]) hx hb d_M_heat_122 hl (k := 4) rfl (iinc_m k) (by decide) rfl (fun ls hl => ?_)
          refine lv_goto (tgt := 84) hx hb d_M_heat_125 (by decide) ?_
          exact ih k H locs ls (by omega) (by omega) (by omega) hP hD hS (lv_sub hl [1, 2, 3, 4, 0] rfl)
    refine mv (h + 1) h _ _ ls (by omega) (by omega) (by omega) (by rw [mh_mv_0, mh_mv_0]; exact hP) (by rw [mh_mv_0, mh_mv_0]; exact hD) hS (lv_sub hl [1, 2, 3, 4, 0] rfl)
  have bs : ∀ (fu : Nat) (lo : Nat) (hi : Nat) (H : Heap) (locs : List Loc) (ls : Array Slot), (lo ≤ hi) → (hi ≤ h) → (hi < lo + fu) → (mh_bs gx gy x y fu lo hi = L) → va_P D vwC [(h0, .inr (3, mF ad th sg sn (nI h) pc cx cy fo fv to tv fi ti)), ((ad 1), .inl (E.2.1, 8193, .inl gx)), ((ad 2), .inl (E.2.1, 8193, .inl gy))] H → va_D A [(h0, .inr (3, mF ad th sg sn (nI h) pc cx cy fo fv to tv fi ti)), ((ad 1), .inl (E.2.1, 8193, .inl gx)), ((ad 2), .inl (E.2.1, 8193, .inl gy))] → va_S A s.heap H locs → lv_has ls 6 [(0, .ref h0), (1, .int x), (2, .int y), (3, .int (nI lo)), (4, .int (nI hi))] → W p l e ({ frames := 1, cells := 0, slots := 0, locals := 24 } : Room) s m ([.ref h0, .int x, .int y] : List Value).toArray below meth c H locs 0 0 (MQ below (va_Qi (fun (r : Int32) (u : Unit) => r = b01 (T.2.2 ≤ 8192)) (wB D (fun _ => [(h0, .inr (3, mF ad th sg sn (nI T.2.2) pc cx cy fo fv to tv fi ti)), ((ad 1), .inl (E.2.1, 8193, .inl T.1)), ((ad 2), .inl (E.2.1, 8193, .inl T.2.1))]) A) A) ([.ref h0, .int x, .int y] : List Value).toArray s 0 0 A) (F0 m 8 ls []) := by
    intro fu
    induction fu with
    | zero =>
      intro lo hi H locs ls h1 h2 h3 h4 hP hD hS hl
      omega
    | succ fu ih =>
      intro lo hi H locs ls h1 h2 h3 h4 hP hD hS hl
      rw [mh_bs] at h4
      refine lv_iload_n hx hb d_M_heat_8 rfl (lv_at hl 3 rfl) ?_
      refine lv_iload hx hb d_M_heat_9 (lv_at hl 4 rfl) ?_
      refine lv_icmp_ge (tgt := 48) hx hb d_M_heat_11 (by decide) (fun c1 => ?_) (fun c1 => ?_)
      · have q : ¬ lo < hi := by have := (nI_leI (by omega) (by omega)).mp c1; omega
        rw [if_neg q] at h4
        subst h4
        refine lv_iload_n hx hb d_M_heat_48 rfl (lv_at hl 3 rfl) ?_
        refine lv_aload_n hx hb d_M_heat_49 rfl (lv_at hl 0 rfl) ?_
        refine va_get (D := D) (ci := 3) (v := .int (nI h)) (C := K_M) (T := F_M) (N := 24) hx hb hG in_M hown hK.1 hP 0 rfl rfl 4 (by decide) (hG _ wd_652) (fun _ h9 => h9) rfl d_M_heat_50 ?_
        refine lv_icmp_ge (tgt := 78) hx hb d_M_heat_53 (by decide) (fun d1 => ?_) (fun d1 => ?_)
        · exact J H locs ls (fun g => by have := (nI_leI (by omega) (by omega)).mp d1; omega) hP hD hS (lv_sub hl [0, 1, 2, 3] rfl)
        · have q1 : lo < h := by rw [nI_leI (by omega) (by omega)] at d1; omega
          refine lv_aload_n hx hb d_M_heat_56 rfl (lv_at hl 0 rfl) ?_
          refine va_get (D := D) (ci := 3) (v := .ref (ad 1)) (C := K_M) (T := F_M) (N := 24) hx hb hG in_M hown hK.1 hP 0 rfl rfl 5 (by decide) (hG _ wd_653) (fun _ h9 => h9) rfl d_M_heat_57 ?_
          refine lv_iload_n hx hb d_M_heat_60 rfl (lv_at hl 3 rfl) ?_
          refine va_iald hx hb hK.1 hP 1 1 rfl rfl (vp_in_nI (by omega) (by omega)) d_M_heat_61 ?_
          rw [show gx (Int32.toNatClampNeg (nI lo)) = gx lo from by rw [nI_clamp (by omega)]]
          refine lv_iload_n hx hb d_M_heat_62 rfl (lv_at hl 1 rfl) ?_
          refine lv_icmp_ne (tgt := 78) hx hb d_M_heat_63 (by decide) (fun d2 => ?_) (fun d2 => ?_)
          · exact J H locs ls (fun g => d2 g.2.1) hP hD hS (lv_sub hl [0, 1, 2, 3] rfl)
          · refine lv_aload_n hx hb d_M_heat_66 rfl (lv_at hl 0 rfl) ?_
            refine va_get (D := D) (ci := 3) (v := .ref (ad 2)) (C := K_M) (T := F_M) (N := 24) hx hb hG in_M hown hK.1 hP 0 rfl rfl 6 (by decide) (hG _ wd_654) (fun _ h9 => h9) rfl d_M_heat_67 ?_
            refine lv_iload_n hx hb d_M_heat_70 rfl (lv_at hl 3 rfl) ?_
            refine va_iald hx hb hK.1 hP 2 1 rfl rfl (vp_in_nI (by omega) (by omega)) d_M_heat_71 ?_
            rw [show gy (Int32.toNatClampNeg (nI lo)) = gy lo from by rw [nI_clamp (by omega)]]
            refine lv_iload_n hx hb d_M_heat_72 rfl (lv_at hl 2 rfl) ?_
            refine lv_icmp_ne (tgt := 78) hx hb d_M_heat_73 (by decide) (fun d3 => ?_) (fun d3 => ?_)
            · exact J H locs ls (fun g => d3 g.2.2) hP hD hS (lv_sub hl [0, 1, 2, 3] rfl)
            · rw [if_pos ⟨q1, d2, d3⟩] at hT
              subst hT
              refine lv_iconst (v := 1) hx hb d_M_heat_76 (by decide) ?_
              exact W.zret (v := 1) (ty := .boolean) hx hb hrt rfl (fun t ht hW => ⟨⟨1, (), rfl, (b01_t (p := h ≤ 8192) hh).symm, ⟨by rw [ht]; exact hP, hD⟩⟩, hS.F ht⟩) hS.2.2 d_M_heat_77 hlocks
      · have q : lo < hi := by rw [nI_leI (by omega) (by omega)] at c1; omega
        rw [if_pos q] at h4
        refine lv_iload_n hx hb d_M_heat_14 rfl (lv_at hl 3 rfl) ?_
        refine lv_iload hx hb d_M_heat_15 (lv_at hl 4 rfl) ?_
        refine lv_iadd hx hb d_M_heat_17 ?_
        refine lv_iconst (v := 2) hx hb d_M_heat_18 (by decide) ?_
        refine lv_idiv hx hb d_M_heat_19 (by decide) ?_
        rw [nI_half (by omega)]
        refine lv_istore (lv' := [(5, .int (nI ((lo + hi) / 2))), (0, .ref h0), (1, .int x), (2, .int y), (3, .int (nI lo)), (4, .int (nI hi))]) hx hb d_M_heat_20 hl (by decide) rfl (fun ls hl => ?_)
        refine lv_aload_n hx hb d_M_heat_22 rfl (lv_at hl 1 rfl) ?_
        refine lv_iload hx hb d_M_heat_23 (lv_at hl 0 rfl) ?_
        refine lv_iload_n hx hb d_M_heat_25 rfl (lv_at hl 2 rfl) ?_
        refine lv_iload_n hx hb d_M_heat_26 rfl (lv_at hl 3 rfl) ?_
        have hPc := hP.sub (ws' := [(h0, .inr (3, mF ad th sg sn (nI h) pc cx cy fo fv to tv fi ti)), ((ad 1), .inl (E.2.1, 8193, .inl gx)), ((ad 2), .inl (E.2.1, 8193, .inl gy))]) [0, 1, 2] rfl
        refine vp_callSi (W.runV (As := [.int (nI ((lo + hi) / 2)), .int x, .int y]) (rest := []) ⟨hx, hb, hml, hown, hts⟩ (k_M_isBefore l D E h0 ad th sg sn (nI h) pc cx cy fo fv to tv fi ti gx gy ((lo + hi) / 2) x y (by omega)) (cwV 3 hts (gw_gv wd_806 wd_808 wd_32 wd_42 wd_809) rfl rfl rfl (by decide +kernel) ⟨Nat.le_of_ble_eq_true rfl, Nat.le_of_ble_eq_true rfl⟩) (rP_V 0 hPc hK rfl rfl) rfl rfl hl.1 rfl (lv_room (Nat.le_of_ble_eq_true rfl)) d_M_heat_27 ⟨Nat.le_of_ble_eq_true rfl, Nat.le_of_ble_eq_true rfl⟩) (fun rb hrb => ?_)
        refine lv_if_eq (tgt := 41) hx hb d_M_heat_30 (by decide) (fun c2 => ?_) (fun c2 => ?_)
        · rw [hrb] at c2
          rw [if_neg (b01_0 c2)] at h4
          refine lv_iload hx hb d_M_heat_41 (lv_at hl 0 rfl) ?_
          refine lv_istore (lv' := [(4, .int (nI ((lo + hi) / 2))), (5, .int (nI ((lo + hi) / 2))), (0, .ref h0), (1, .int x), (2, .int y), (3, .int (nI lo))]) hx hb d_M_heat_43 hl (by decide) rfl (fun ls hl => ?_)
          refine lv_goto (tgt := 8) hx hb d_M_heat_45 (by decide) ?_
          exact ih lo ((lo + hi) / 2) H locs ls (by omega) (by omega) (by omega) h4 hP hD hS (lv_sub hl [2, 3, 4, 5, 0] rfl)
        · rw [hrb] at c2
          rw [if_pos (b01_1 c2)] at h4
          refine lv_iload hx hb d_M_heat_33 (lv_at hl 0 rfl) ?_
          refine lv_iconst (v := 1) hx hb d_M_heat_35 (by decide) ?_
          refine lv_iadd hx hb d_M_heat_36 ?_
          rw [show ((nI ((lo + hi) / 2)) + 1) = (nI ((lo + hi) / 2 + 1)) from nI_1 _]
          refine lv_istore_n (lv' := [(3, .int (nI ((lo + hi) / 2 + 1))), (5, .int (nI ((lo + hi) / 2))), (0, .ref h0), (1, .int x), (2, .int y), (4, .int (nI hi))]) hx hb d_M_heat_37 rfl hl (by decide) rfl (fun ls hl => ?_)
          refine lv_goto (tgt := 45) hx hb d_M_heat_38 (by decide) ?_
          refine lv_goto (tgt := 8) hx hb d_M_heat_45 (by decide) ?_
          exact ih ((lo + hi) / 2 + 1) hi H locs ls (by omega) (by omega) (by omega) h4 hP hD hS (lv_sub hl [2, 3, 4, 0, 5] rfl)
  exact bs (h + 1) 0 h _ _ ls (Nat.zero_le _) (Nat.le_refl _) (by omega) hL.symm hP hD hS (lv_sub hl [2, 3, 4, 1, 0] rfl)
end
