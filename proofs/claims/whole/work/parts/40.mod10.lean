theorem d_M_insert_0 : decode c_M_insert 0 = .ok (.iload_n 2, 1) := by decide +kernel
theorem d_M_insert_1 : decode c_M_insert 1 = .ok (.istore 4, 2) := by decide +kernel
theorem d_M_insert_3 : decode c_M_insert 3 = .ok (.iconst 1, 1) := by decide +kernel
theorem d_M_insert_4 : decode c_M_insert 4 = .ok (.istore 5, 2) := by decide +kernel
theorem d_M_insert_6 : decode c_M_insert 6 = .ok (.iload 4, 2) := by decide +kernel
theorem d_M_insert_8 : decode c_M_insert 8 = .ok (.ifCond .le 154, 3) := by decide +kernel
theorem d_M_insert_11 : decode c_M_insert 11 = .ok (.iload 5, 2) := by decide +kernel
theorem d_M_insert_13 : decode c_M_insert 13 = .ok (.ifCond .eq 149, 3) := by decide +kernel
theorem d_M_insert_16 : decode c_M_insert 16 = .ok (.aload_n 0, 1) := by decide +kernel
theorem d_M_insert_17 : decode c_M_insert 17 = .ok (.getfield 80, 3) := by decide +kernel
theorem d_M_insert_20 : decode c_M_insert 20 = .ok (.aload_n 0, 1) := by decide +kernel
theorem d_M_insert_21 : decode c_M_insert 21 = .ok (.getfield 84, 3) := by decide +kernel
theorem d_M_insert_24 : decode c_M_insert 24 = .ok (.aload_n 0, 1) := by decide +kernel
theorem d_M_insert_25 : decode c_M_insert 25 = .ok (.getfield 35, 3) := by decide +kernel
theorem d_M_insert_28 : decode c_M_insert 28 = .ok (.iload 4, 2) := by decide +kernel
theorem d_M_insert_30 : decode c_M_insert 30 = .ok (.iconst 1, 1) := by decide +kernel
theorem d_M_insert_31 : decode c_M_insert 31 = .ok (.isub, 1) := by decide +kernel
theorem d_M_insert_32 : decode c_M_insert 32 = .ok (.laload, 1) := by decide +kernel
theorem d_M_insert_33 : decode c_M_insert 33 = .ok (.aload_n 0, 1) := by decide +kernel
theorem d_M_insert_34 : decode c_M_insert 34 = .ok (.getfield 39, 3) := by decide +kernel
theorem d_M_insert_37 : decode c_M_insert 37 = .ok (.iload 4, 2) := by decide +kernel
theorem d_M_insert_39 : decode c_M_insert 39 = .ok (.iconst 1, 1) := by decide +kernel
theorem d_M_insert_40 : decode c_M_insert 40 = .ok (.isub, 1) := by decide +kernel
theorem d_M_insert_41 : decode c_M_insert 41 = .ok (.laload, 1) := by decide +kernel
theorem d_M_insert_42 : decode c_M_insert 42 = .ok (.invokestatic 87, 3) := by decide +kernel
theorem d_M_insert_45 : decode c_M_insert 45 = .ok (.istore 6, 2) := by decide +kernel
theorem d_M_insert_47 : decode c_M_insert 47 = .ok (.iload 6, 2) := by decide +kernel
theorem d_M_insert_49 : decode c_M_insert 49 = .ok (.ifCond .lt 27, 3) := by decide +kernel
theorem d_M_insert_52 : decode c_M_insert 52 = .ok (.iload 6, 2) := by decide +kernel
theorem d_M_insert_54 : decode c_M_insert 54 = .ok (.ifCond .ne 26, 3) := by decide +kernel
theorem d_M_insert_57 : decode c_M_insert 57 = .ok (.aload_n 0, 1) := by decide +kernel
theorem d_M_insert_58 : decode c_M_insert 58 = .ok (.getfield 91, 3) := by decide +kernel
theorem d_M_insert_61 : decode c_M_insert 61 = .ok (.ifCond .eq 19, 3) := by decide +kernel
theorem d_M_insert_64 : decode c_M_insert 64 = .ok (.aload_n 0, 1) := by decide +kernel
theorem d_M_insert_65 : decode c_M_insert 65 = .ok (.getfield 42, 3) := by decide +kernel
theorem d_M_insert_68 : decode c_M_insert 68 = .ok (.iload 4, 2) := by decide +kernel
theorem d_M_insert_70 : decode c_M_insert 70 = .ok (.iconst 1, 1) := by decide +kernel
theorem d_M_insert_71 : decode c_M_insert 71 = .ok (.isub, 1) := by decide +kernel
theorem d_M_insert_72 : decode c_M_insert 72 = .ok (.baload, 1) := by decide +kernel
theorem d_M_insert_73 : decode c_M_insert 73 = .ok (.ifCond .ne 7, 3) := by decide +kernel
theorem d_M_insert_76 : decode c_M_insert 76 = .ok (.iconst 1, 1) := by decide +kernel
theorem d_M_insert_77 : decode c_M_insert 77 = .ok (.goto 4, 3) := by decide +kernel
theorem d_M_insert_80 : decode c_M_insert 80 = .ok (.iconst 0, 1) := by decide +kernel
theorem d_M_insert_81 : decode c_M_insert 81 = .ok (.istore 5, 2) := by decide +kernel
theorem d_M_insert_83 : decode c_M_insert 83 = .ok (.iload 5, 2) := by decide +kernel
theorem d_M_insert_85 : decode c_M_insert 85 = .ok (.ifCond .eq 74, 3) := by decide +kernel
theorem d_M_insert_88 : decode c_M_insert 88 = .ok (.aload_n 0, 1) := by decide +kernel
theorem d_M_insert_89 : decode c_M_insert 89 = .ok (.getfield 35, 3) := by decide +kernel
theorem d_M_insert_92 : decode c_M_insert 92 = .ok (.iload 4, 2) := by decide +kernel
theorem d_M_insert_94 : decode c_M_insert 94 = .ok (.aload_n 0, 1) := by decide +kernel
theorem d_M_insert_95 : decode c_M_insert 95 = .ok (.getfield 35, 3) := by decide +kernel
theorem d_M_insert_98 : decode c_M_insert 98 = .ok (.iload 4, 2) := by decide +kernel
theorem d_M_insert_100 : decode c_M_insert 100 = .ok (.iconst 1, 1) := by decide +kernel
theorem d_M_insert_101 : decode c_M_insert 101 = .ok (.isub, 1) := by decide +kernel
theorem d_M_insert_102 : decode c_M_insert 102 = .ok (.laload, 1) := by decide +kernel
theorem d_M_insert_103 : decode c_M_insert 103 = .ok (.lastore, 1) := by decide +kernel
theorem d_M_insert_104 : decode c_M_insert 104 = .ok (.aload_n 0, 1) := by decide +kernel
theorem d_M_insert_105 : decode c_M_insert 105 = .ok (.getfield 39, 3) := by decide +kernel
theorem d_M_insert_108 : decode c_M_insert 108 = .ok (.iload 4, 2) := by decide +kernel
theorem d_M_insert_110 : decode c_M_insert 110 = .ok (.aload_n 0, 1) := by decide +kernel
theorem d_M_insert_111 : decode c_M_insert 111 = .ok (.getfield 39, 3) := by decide +kernel
theorem d_M_insert_114 : decode c_M_insert 114 = .ok (.iload 4, 2) := by decide +kernel
theorem d_M_insert_116 : decode c_M_insert 116 = .ok (.iconst 1, 1) := by decide +kernel
theorem d_M_insert_117 : decode c_M_insert 117 = .ok (.isub, 1) := by decide +kernel
theorem d_M_insert_118 : decode c_M_insert 118 = .ok (.laload, 1) := by decide +kernel
theorem d_M_insert_119 : decode c_M_insert 119 = .ok (.lastore, 1) := by decide +kernel
theorem d_M_insert_120 : decode c_M_insert 120 = .ok (.aload_n 0, 1) := by decide +kernel
theorem d_M_insert_121 : decode c_M_insert 121 = .ok (.getfield 42, 3) := by decide +kernel
theorem d_M_insert_124 : decode c_M_insert 124 = .ok (.iload 4, 2) := by decide +kernel
theorem d_M_insert_126 : decode c_M_insert 126 = .ok (.aload_n 0, 1) := by decide +kernel
theorem d_M_insert_127 : decode c_M_insert 127 = .ok (.getfield 42, 3) := by decide +kernel
theorem d_M_insert_130 : decode c_M_insert 130 = .ok (.iload 4, 2) := by decide +kernel
theorem d_M_insert_132 : decode c_M_insert 132 = .ok (.iconst 1, 1) := by decide +kernel
theorem d_M_insert_133 : decode c_M_insert 133 = .ok (.isub, 1) := by decide +kernel
theorem d_M_insert_134 : decode c_M_insert 134 = .ok (.baload, 1) := by decide +kernel
theorem d_M_insert_135 : decode c_M_insert 135 = .ok (.bastore, 1) := by decide +kernel
theorem d_M_insert_136 : decode c_M_insert 136 = .ok (.aload_n 0, 1) := by decide +kernel
theorem d_M_insert_137 : decode c_M_insert 137 = .ok (.getfield 23, 3) := by decide +kernel
theorem d_M_insert_140 : decode c_M_insert 140 = .ok (.iload_n 1, 1) := by decide +kernel
theorem d_M_insert_141 : decode c_M_insert 141 = .ok (.iload 4, 2) := by decide +kernel
theorem d_M_insert_143 : decode c_M_insert 143 = .ok (.iadd, 1) := by decide +kernel
theorem d_M_insert_144 : decode c_M_insert 144 = .ok (.aload_n 0, 1) := by decide +kernel
theorem d_M_insert_145 : decode c_M_insert 145 = .ok (.getfield 23, 3) := by decide +kernel
theorem d_M_insert_148 : decode c_M_insert 148 = .ok (.iload_n 1, 1) := by decide +kernel
theorem d_M_insert_149 : decode c_M_insert 149 = .ok (.iload 4, 2) := by decide +kernel
theorem d_M_insert_151 : decode c_M_insert 151 = .ok (.iadd, 1) := by decide +kernel
theorem d_M_insert_152 : decode c_M_insert 152 = .ok (.iconst 1, 1) := by decide +kernel
theorem d_M_insert_153 : decode c_M_insert 153 = .ok (.isub, 1) := by decide +kernel
theorem d_M_insert_154 : decode c_M_insert 154 = .ok (.iaload, 1) := by decide +kernel
theorem d_M_insert_155 : decode c_M_insert 155 = .ok (.iastore, 1) := by decide +kernel
theorem d_M_insert_156 : decode c_M_insert 156 = .ok (.iinc 4 (-1), 3) := by decide +kernel
theorem d_M_insert_159 : decode c_M_insert 159 = .ok (.goto (-153), 3) := by decide +kernel
theorem d_M_insert_162 : decode c_M_insert 162 = .ok (.aload_n 0, 1) := by decide +kernel
theorem d_M_insert_163 : decode c_M_insert 163 = .ok (.getfield 35, 3) := by decide +kernel
theorem d_M_insert_166 : decode c_M_insert 166 = .ok (.iload 4, 2) := by decide +kernel
theorem d_M_insert_168 : decode c_M_insert 168 = .ok (.aload_n 0, 1) := by decide +kernel
theorem d_M_insert_169 : decode c_M_insert 169 = .ok (.getfield 80, 3) := by decide +kernel
theorem d_M_insert_172 : decode c_M_insert 172 = .ok (.lastore, 1) := by decide +kernel
theorem d_M_insert_173 : decode c_M_insert 173 = .ok (.aload_n 0, 1) := by decide +kernel
theorem d_M_insert_174 : decode c_M_insert 174 = .ok (.getfield 39, 3) := by decide +kernel
theorem d_M_insert_177 : decode c_M_insert 177 = .ok (.iload 4, 2) := by decide +kernel
theorem d_M_insert_179 : decode c_M_insert 179 = .ok (.aload_n 0, 1) := by decide +kernel
theorem d_M_insert_180 : decode c_M_insert 180 = .ok (.getfield 84, 3) := by decide +kernel
theorem d_M_insert_183 : decode c_M_insert 183 = .ok (.lastore, 1) := by decide +kernel
theorem d_M_insert_184 : decode c_M_insert 184 = .ok (.aload_n 0, 1) := by decide +kernel
theorem d_M_insert_185 : decode c_M_insert 185 = .ok (.getfield 42, 3) := by decide +kernel
theorem d_M_insert_188 : decode c_M_insert 188 = .ok (.iload 4, 2) := by decide +kernel
theorem d_M_insert_190 : decode c_M_insert 190 = .ok (.aload_n 0, 1) := by decide +kernel
theorem d_M_insert_191 : decode c_M_insert 191 = .ok (.getfield 91, 3) := by decide +kernel
theorem d_M_insert_194 : decode c_M_insert 194 = .ok (.bastore, 1) := by decide +kernel
theorem d_M_insert_195 : decode c_M_insert 195 = .ok (.aload_n 0, 1) := by decide +kernel
theorem d_M_insert_196 : decode c_M_insert 196 = .ok (.getfield 23, 3) := by decide +kernel
theorem d_M_insert_199 : decode c_M_insert 199 = .ok (.iload_n 1, 1) := by decide +kernel
theorem d_M_insert_200 : decode c_M_insert 200 = .ok (.iload 4, 2) := by decide +kernel
theorem d_M_insert_202 : decode c_M_insert 202 = .ok (.iadd, 1) := by decide +kernel
theorem d_M_insert_203 : decode c_M_insert 203 = .ok (.iload_n 3, 1) := by decide +kernel
theorem d_M_insert_204 : decode c_M_insert 204 = .ok (.iastore, 1) := by decide +kernel
theorem d_M_insert_205 : decode c_M_insert 205 = .ok (.return_, 1) := by decide +kernel
theorem vp_nar_b {x : Int32} (h : x = 0 ∨ x = 1) : vp_nar .boolean x = x := by rcases h with rfl | rfl <;> rfl
def mvG {α : Type} (g : Nat → α) (k h : Nat) : Nat → α := fun j => if k < j ∧ j ≤ h then g (j - 1) else g j
theorem mvG_at {α : Type} (g : Nat → α) {k h j : Nat} (hj : j ≤ k) : mvG g k h j = g j := if_neg (by omega)
theorem mvG_L (g : Nat → Int64) (k h : Nat) (hk : k + 1 ≤ h) : vp_updL (mvG g (k + 1) h) (k + 1) (g k) = mvG g k h := by
  funext j
  by_cases e : j = k + 1
  · subst e
    rw [pk_uLs, mvG, if_pos (by omega), Nat.add_sub_cancel]
  · rw [pk_uLn e, mvG, mvG]
    by_cases c : k + 1 < j ∧ j ≤ h
    · rw [if_pos c, if_pos (by omega)]
    · rw [if_neg c, if_neg (by omega)]
theorem mvG_I (g : Nat → Int32) (k h : Nat) (hk : k + 1 ≤ h) : upd (mvG g (k + 1) h) (k + 1) (g k) = mvG g k h := by
  funext j
  by_cases e : j = k + 1
  · subst e
    rw [pk_us, mvG, if_pos (by omega), Nat.add_sub_cancel]
  · rw [pk_un e, mvG, mvG]
    by_cases c : k + 1 < j ∧ j ≤ h
    · rw [if_pos c, if_pos (by omega)]
    · rw [if_neg c, if_neg (by omega)]
theorem mvG_0 {α : Type} (g : Nat → α) (h : Nat) : mvG g h h = g := by
  funext j
  exact if_neg (by omega)
abbrev in_less (v : Int64 × Int64 × Int32) (o u : Int64) (z : Int32) : Prop := mr_cmp v.1 v.2.1 o u < 0 ∨ (mr_cmp v.1 v.2.1 o u = 0 ∧ ¬ v.2.2 = 0 ∧ z = 0)
/-- where a pixel that is entered at v goes among the first n -/
def in_pos (v : Int64 × Int64 × Int32) (ov un : Nat → Int64) (cl : Nat → Int32) : Nat → Nat
  | 0 => 0
  | k + 1 => if in_less v (ov k) (un k) (cl k) then in_pos v ov un cl k else k + 1
theorem in_pos_le {v : Int64 × Int64 × Int32} {ov un : Nat → Int64} {cl : Nat → Int32} : ∀ n, in_pos v ov un cl n ≤ n := by
  intro n
  induction n with
  | zero => exact Nat.le_refl _
  | succ n ih =>
    unfold in_pos
    split
    · omega
    · exact Nat.le_refl _
set_option maxHeartbeats 4000000 in
set_option maxRecDepth 100000 in
theorem k_M_insert (l : Launch) (D : va_G) (E : ClassId × ClassId × ClassId × ClassId) (h0 sz : Nat) (ad : Nat → Nat) (th sg sn hot pc cx cy : Int32) (fo fv to tv : Int64) (fi ti : Int32) (ov un : Nat → Int64) (cl pl : Nat → Int32) (fr n : Nat) (px : Int32) (hn : n < 8192) (hfn : fr + n < 65536) (hfi : fi = 0 ∨ fi = 1) (hcl : ∀ j, cl j = 0 ∨ cl j = 1) : Met l y_M_insert (.code y_M_insert c_M_insert 7 none :: gw) ({ frames := 1, cells := 0, slots := 0, locals := 40 } : Room) (wP D E [(h0, .inr (3, mF ad th sg sn hot pc cx cy fo fv to tv fi ti)), ((ad 8), .inl (E.1, 8192, .inr (.inl ov))), ((ad 9), .inl (E.1, 8192, .inr (.inl un))), ((ad 10), .inl (E.2.2.1, 8192, .inl cl)), ((ad 4), .inl (E.2.1, 65536, .inl pl))] sz [.ref h0, .int (nI fr), .int (nI n), .int px]) (va_Qv (fun (u : Unit) => True) (wB D (fun _ => [(h0, .inr (3, mF ad th sg sn hot pc cx cy fo fv to tv fi ti)), ((ad 8), .inl (E.1, 8192, .inr (.inl (vp_updL (mvG ov (in_pos (fo, fv, fi) ov un cl n) n) (in_pos (fo, fv, fi) ov un cl n) fo)))), ((ad 9), .inl (E.1, 8192, .inr (.inl (vp_updL (mvG un (in_pos (fo, fv, fi) ov un cl n) n) (in_pos (fo, fv, fi) ov un cl n) fv)))), ((ad 10), .inl (E.2.2.1, 8192, .inl (upd (mvG cl (in_pos (fo, fv, fi) ov un cl n) n) (in_pos (fo, fv, fi) ov un cl n) fi))), ((ad 4), .inl (E.2.1, 65536, .inl (upd (mvG pl (fr + (in_pos (fo, fv, fi) ov un cl n)) (fr + n)) (fr + (in_pos (fo, fv, fi) ov un cl n)) px)))]) (va_A [(h0, .inr (3, mF ad th sg sn hot pc cx cy fo fv to tv fi ti)), ((ad 8), .inl (E.1, 8192, .inr (.inl ov))), ((ad 9), .inl (E.1, 8192, .inr (.inl un))), ((ad 10), .inl (E.2.2.1, 8192, .inl cl)), ((ad 4), .inl (E.2.1, 65536, .inl pl))] sz)) (va_A [(h0, .inr (3, mF ad th sg sn hot pc cx cy fo fv to tv fi ti)), ((ad 8), .inl (E.1, 8192, .inr (.inl ov))), ((ad 9), .inl (E.1, 8192, .inr (.inl un))), ((ad 10), .inl (E.2.2.1, 8192, .inl cl)), ((ad 4), .inl (E.2.1, 65536, .inl pl))] sz)) 0 0 (va_A [(h0, .inr (3, mF ad th sg sn hot pc cx cy fo fv to tv fi ti)), ((ad 8), .inl (E.1, 8192, .inr (.inl ov))), ((ad 9), .inl (E.1, 8192, .inr (.inl un))), ((ad 10), .inl (E.2.2.1, 8192, .inl cl)), ((ad 4), .inl (E.2.1, 65536, .inl pl))] sz) := by
  refine wr_ofW (Qc := fun A => (va_Qv (fun (u : Unit) => True) (wB D (fun _ => [(h0, .inr (3, mF ad th sg sn hot pc cx cy fo fv to tv fi ti)), ((ad 8), .inl (E.1, 8192, .inr (.inl (vp_updL (mvG ov (in_pos (fo, fv, fi) ov un cl n) n) (in_pos (fo, fv, fi) ov un cl n) fo)))), ((ad 9), .inl (E.1, 8192, .inr (.inl (vp_updL (mvG un (in_pos (fo, fv, fi) ov un cl n) n) (in_pos (fo, fv, fi) ov un cl n) fv)))), ((ad 10), .inl (E.2.2.1, 8192, .inl (upd (mvG cl (in_pos (fo, fv, fi) ov un cl n) n) (in_pos (fo, fv, fi) ov un cl n) fi))), ((ad 4), .inl (E.2.1, 65536, .inl (upd (mvG pl (fr + (in_pos (fo, fv, fi) ov un cl n)) (fr + n)) (fr + (in_pos (fo, fv, fi) ov un cl n)) px)))]) A) A)) (by decide) (Nat.le_of_ble_eq_true rfl) ?_
  intro p e s m below meth c B hP hK A hA hD hS ls hl
  obtain ⟨hx, hb, hrt, hml, hown, hts, hG, hlocks, hin⟩ := B
  have hl : lv_has ls 7 [(0, .ref h0), (1, .int (nI fr)), (2, .int (nI n)), (3, .int px)] := hl
  refine lv_iload_n hx hb d_M_insert_0 rfl (lv_at hl 2 rfl) ?_
  refine lv_istore (lv' := [(4, .int (nI n)), (0, .ref h0), (1, .int (nI fr)), (2, .int (nI n)), (3, .int px)]) hx hb d_M_insert_1 hl (by decide) rfl (fun ls hl => ?_)
  refine lv_iconst (v := 1) hx hb d_M_insert_3 (by decide) ?_
  refine lv_istore (lv' := [(5, .int 1), (4, .int (nI n)), (0, .ref h0), (1, .int (nI fr)), (2, .int (nI n)), (3, .int px)]) hx hb d_M_insert_4 hl (by decide) rfl (fun ls hl => ?_)
  obtain ⟨po, hpo⟩ : ∃ k, k = (in_pos (fo, fv, fi) ov un cl n) := ⟨_, rfl⟩
  rw [← hpo]
  have loop : ∀ (fu : Nat) (k : Nat) (b : Int32) (H : Heap) (locs : List Loc) (ls : Array Slot), (k ≤ n) → (k < fu) → ((b = 1 ∧ in_pos (fo, fv, fi) ov un cl k = po) ∨ (b = 0 ∧ k = po)) → va_P D vwC [(h0, .inr (3, mF ad th sg sn hot pc cx cy fo fv to tv fi ti)), ((ad 8), .inl (E.1, 8192, .inr (.inl (mvG ov k n)))), ((ad 9), .inl (E.1, 8192, .inr (.inl (mvG un k n)))), ((ad 10), .inl (E.2.2.1, 8192, .inl (mvG cl k n))), ((ad 4), .inl (E.2.1, 65536, .inl (mvG pl (fr + k) (fr + n))))] H → va_D A [(h0, .inr (3, mF ad th sg sn hot pc cx cy fo fv to tv fi ti)), ((ad 8), .inl (E.1, 8192, .inr (.inl (mvG ov k n)))), ((ad 9), .inl (E.1, 8192, .inr (.inl (mvG un k n)))), ((ad 10), .inl (E.2.2.1, 8192, .inl (mvG cl k n))), ((ad 4), .inl (E.2.1, 65536, .inl (mvG pl (fr + k) (fr + n))))] → va_S A s.heap H locs → lv_has ls 7 [(0, .ref h0), (1, .int (nI fr)), (3, .int px), (4, .int (nI k)), (5, .int b)] → W p l e ({ frames := 1, cells := 0, slots := 0, locals := 40 } : Room) s m ([.ref h0, .int (nI fr), .int (nI n), .int px] : List Value).toArray below meth c H locs 0 0 (MQ below (va_Qv (fun (u : Unit) => True) (wB D (fun _ => [(h0, .inr (3, mF ad th sg sn hot pc cx cy fo fv to tv fi ti)), ((ad 8), .inl (E.1, 8192, .inr (.inl (vp_updL (mvG ov po n) po fo)))), ((ad 9), .inl (E.1, 8192, .inr (.inl (vp_updL (mvG un po n) po fv)))), ((ad 10), .inl (E.2.2.1, 8192, .inl (upd (mvG cl po n) po fi))), ((ad 4), .inl (E.2.1, 65536, .inl (upd (mvG pl (fr + po) (fr + n)) (fr + po) px)))]) A) A) ([.ref h0, .int (nI fr), .int (nI n), .int px] : List Value).toArray s 0 0 A) (F0 m 6 ls []) := by
    intro fu
    induction fu with
    | zero =>
      intro k b H locs ls h1 h2 h3 hP hD hS hl
      omega
    | succ fu ih =>
      intro k b H locs ls h1 h2 h3 hP hD hS hl
      have J : ∀ (H : Heap) (locs : List Loc) (ls : Array Slot), (k = po) → va_P D vwC [(h0, .inr (3, mF ad th sg sn hot pc cx cy fo fv to tv fi ti)), ((ad 8), .inl (E.1, 8192, .inr (.inl (mvG ov k n)))), ((ad 9), .inl (E.1, 8192, .inr (.inl (mvG un k n)))), ((ad 10), .inl (E.2.2.1, 8192, .inl (mvG cl k n))), ((ad 4), .inl (E.2.1, 65536, .inl (mvG pl (fr + k) (fr + n))))] H → va_D A [(h0, .inr (3, mF ad th sg sn hot pc cx cy fo fv to tv fi ti)), ((ad 8), .inl (E.1, 8192, .inr (.inl (mvG ov k n)))), ((ad 9), .inl (E.1, 8192, .inr (.inl (mvG un k n)))), ((ad 10), .inl (E.2.2.1, 8192, .inl (mvG cl k n))), ((ad 4), .inl (E.2.1, 65536, .inl (mvG pl (fr + k) (fr + n))))] → va_S A s.heap H locs → lv_has ls 7 [(0, .ref h0), (1, .int (nI fr)), (3, .int px), (4, .int (nI k))] → W p l e ({ frames := 1, cells := 0, slots := 0, locals := 40 } : Room) s m ([.ref h0, .int (nI fr), .int (nI n), .int px] : List Value).toArray below meth c H locs 0 0 (MQ below (va_Qv (fun (u : Unit) => True) (wB D (fun _ => [(h0, .inr (3, mF ad th sg sn hot pc cx cy fo fv to tv fi ti)), ((ad 8), .inl (E.1, 8192, .inr (.inl (vp_updL (mvG ov po n) po fo)))), ((ad 9), .inl (E.1, 8192, .inr (.inl (vp_updL (mvG un po n) po fv)))), ((ad 10), .inl (E.2.2.1, 8192, .inl (upd (mvG cl po n) po fi))), ((ad 4), .inl (E.2.1, 65536, .inl (upd (mvG pl (fr + po) (fr + n)) (fr + po) px)))]) A) A) ([.ref h0, .int (nI fr), .int (nI n), .int px] : List Value).toArray s 0 0 A) (F0 m 162 ls []) := by
        intro H locs ls e hP hD hS hl
        subst e
        refine lv_aload_n hx hb d_M_insert_162 rfl (lv_at hl 0 rfl) ?_
        refine va_get (D := D) (ci := 3) (v := .ref (ad 8)) (C := K_M) (T := F_M) (N := 24) hx hb hG in_M hown hK.1 hP 0 rfl rfl 21 (by decide) (hG _ wd_669) (fun _ h9 => h9) rfl d_M_insert_163 ?_
        refine lv_iload hx hb d_M_insert_166 (lv_at hl 3 rfl) ?_
        refine lv_aload_n hx hb d_M_insert_168 rfl (lv_at hl 0 rfl) ?_
        refine va_get (D := D) (ci := 3) (v := .long fo) (C := K_M) (T := F_M) (N := 24) hx hb hG in_M hown hK.1 hP 0 rfl rfl 15 (by decide) (hG _ wd_663) (fun _ h9 => h9) rfl d_M_insert_169 ?_
        refine va_last hx hb hK.1 hP hD hS 1 0 rfl rfl (vp_in_nI (by omega) (by omega)) d_M_insert_172 (fun H locs hP hD hS => ?_)
        rw [show vp_updL (mvG ov k n) (Int32.toNatClampNeg (nI k)) fo = (vp_updL (mvG ov k n) k fo) from by rw [nI_clamp (by omega)]] at hP hD
        have hP : va_P D vwC [(h0, .inr (3, mF ad th sg sn hot pc cx cy fo fv to tv fi ti)), ((ad 8), .inl (E.1, 8192, .inr (.inl (vp_updL (mvG ov k n) k fo)))), ((ad 9), .inl (E.1, 8192, .inr (.inl (mvG un k n)))), ((ad 10), .inl (E.2.2.1, 8192, .inl (mvG cl k n))), ((ad 4), .inl (E.2.1, 65536, .inl (mvG pl (fr + k) (fr + n))))] H := hP
        have hD : va_D A [(h0, .inr (3, mF ad th sg sn hot pc cx cy fo fv to tv fi ti)), ((ad 8), .inl (E.1, 8192, .inr (.inl (vp_updL (mvG ov k n) k fo)))), ((ad 9), .inl (E.1, 8192, .inr (.inl (mvG un k n)))), ((ad 10), .inl (E.2.2.1, 8192, .inl (mvG cl k n))), ((ad 4), .inl (E.2.1, 65536, .inl (mvG pl (fr + k) (fr + n))))] := hD
        refine lv_aload_n hx hb d_M_insert_173 rfl (lv_at hl 0 rfl) ?_
        refine va_get (D := D) (ci := 3) (v := .ref (ad 9)) (C := K_M) (T := F_M) (N := 24) hx hb hG in_M hown hK.1 hP 0 rfl rfl 22 (by decide) (hG _ wd_670) (fun _ h9 => h9) rfl d_M_insert_174 ?_
        refine lv_iload hx hb d_M_insert_177 (lv_at hl 3 rfl) ?_
        refine lv_aload_n hx hb d_M_insert_179 rfl (lv_at hl 0 rfl) ?_
        refine va_get (D := D) (ci := 3) (v := .long fv) (C := K_M) (T := F_M) (N := 24) hx hb hG in_M hown hK.1 hP 0 rfl rfl 16 (by decide) (hG _ wd_664) (fun _ h9 => h9) rfl d_M_insert_180 ?_
        refine va_last hx hb hK.1 hP hD hS 2 0 rfl rfl (vp_in_nI (by omega) (by omega)) d_M_insert_183 (fun H locs hP hD hS => ?_)
        rw [show vp_updL (mvG un k n) (Int32.toNatClampNeg (nI k)) fv = (vp_updL (mvG un k n) k fv) from by rw [nI_clamp (by omega)]] at hP hD
        have hP : va_P D vwC [(h0, .inr (3, mF ad th sg sn hot pc cx cy fo fv to tv fi ti)), ((ad 8), .inl (E.1, 8192, .inr (.inl (vp_updL (mvG ov k n) k fo)))), ((ad 9), .inl (E.1, 8192, .inr (.inl (vp_updL (mvG un k n) k fv)))), ((ad 10), .inl (E.2.2.1, 8192, .inl (mvG cl k n))), ((ad 4), .inl (E.2.1, 65536, .inl (mvG pl (fr + k) (fr + n))))] H := hP
        have hD : va_D A [(h0, .inr (3, mF ad th sg sn hot pc cx cy fo fv to tv fi ti)), ((ad 8), .inl (E.1, 8192, .inr (.inl (vp_updL (mvG ov k n) k fo)))), ((ad 9), .inl (E.1, 8192, .inr (.inl (vp_updL (mvG un k n) k fv)))), ((ad 10), .inl (E.2.2.1, 8192, .inl (mvG cl k n))), ((ad 4), .inl (E.2.1, 65536, .inl (mvG pl (fr + k) (fr + n))))] := hD
        refine lv_aload_n hx hb d_M_insert_184 rfl (lv_at hl 0 rfl) ?_
        refine va_get (D := D) (ci := 3) (v := .ref (ad 10)) (C := K_M) (T := F_M) (N := 24) hx hb hG in_M hown hK.1 hP 0 rfl rfl 23 (by decide) (hG _ wd_671) (fun _ h9 => h9) rfl d_M_insert_185 ?_
        refine lv_iload hx hb d_M_insert_188 (lv_at hl 3 rfl) ?_
        refine lv_aload_n hx hb d_M_insert_190 rfl (lv_at hl 0 rfl) ?_
        refine va_get (D := D) (ci := 3) (v := .int fi) (C := K_M) (T := F_M) (N := 24) hx hb hG in_M hown hK.1 hP 0 rfl rfl 19 (by decide) (hG _ wd_667) (fun _ h9 => h9) rfl d_M_insert_191 ?_
        refine va_zast hx hb hK.1 hP hD hS 3 2 rfl rfl (vp_in_nI (by omega) (by omega)) d_M_insert_194 (fun H locs hP hD hS => ?_)
        rw [show upd (mvG cl k n) (Int32.toNatClampNeg (nI k)) (vp_nar .boolean fi) = (upd (mvG cl k n) k fi) from by rw [nI_clamp (by omega), vp_nar_b hfi]] at hP hD
        have hP : va_P D vwC [(h0, .inr (3, mF ad th sg sn hot pc cx cy fo fv to tv fi ti)), ((ad 8), .inl (E.1, 8192, .inr (.inl (vp_updL (mvG ov k n) k fo)))), ((ad 9), .inl (E.1, 8192, .inr (.inl (vp_updL (mvG un k n) k fv)))), ((ad 10), .inl (E.2.2.1, 8192, .inl (upd (mvG cl k n) k fi))), ((ad 4), .inl (E.2.1, 65536, .inl (mvG pl (fr + k) (fr + n))))] H := hP
        have hD : va_D A [(h0, .inr (3, mF ad th sg sn hot pc cx cy fo fv to tv fi ti)), ((ad 8), .inl (E.1, 8192, .inr (.inl (vp_updL (mvG ov k n) k fo)))), ((ad 9), .inl (E.1, 8192, .inr (.inl (vp_updL (mvG un k n) k fv)))), ((ad 10), .inl (E.2.2.1, 8192, .inl (upd (mvG cl k n) k fi))), ((ad 4), .inl (E.2.1, 65536, .inl (mvG pl (fr + k) (fr + n))))] := hD
        refine lv_aload_n hx hb d_M_insert_195 rfl (lv_at hl 0 rfl) ?_
        refine va_get (D := D) (ci := 3) (v := .ref (ad 4)) (C := K_M) (T := F_M) (N := 24) hx hb hG in_M hown hK.1 hP 0 rfl rfl 8 (by decide) (hG _ wd_656) (fun _ h9 => h9) rfl d_M_insert_196 ?_
        refine lv_iload_n hx hb d_M_insert_199 rfl (lv_at hl 1 rfl) ?_
        refine lv_iload hx hb d_M_insert_200 (lv_at hl 3 rfl) ?_
        refine lv_iadd hx hb d_M_insert_202 ?_
        rw [show (nI fr + nI k) = nI (fr + k) from nI_add _ _]
        refine lv_iload_n hx hb d_M_insert_203 rfl (lv_at hl 2 rfl) ?_
        refine va_iast hx hb hK.1 hP hD hS 4 1 rfl rfl (vp_in_nI (by omega) (by omega)) d_M_insert_204 (fun H locs hP hD hS => ?_)
        rw [show upd (mvG pl (fr + k) (fr + n)) (Int32.toNatClampNeg (nI (fr + k))) px = (upd (mvG pl (fr + k) (fr + n)) (fr + k) px) from by rw [nI_clamp (by omega)]] at hP hD
        have hP : va_P D vwC [(h0, .inr (3, mF ad th sg sn hot pc cx cy fo fv to tv fi ti)), ((ad 8), .inl (E.1, 8192, .inr (.inl (vp_updL (mvG ov k n) k fo)))), ((ad 9), .inl (E.1, 8192, .inr (.inl (vp_updL (mvG un k n) k fv)))), ((ad 10), .inl (E.2.2.1, 8192, .inl (upd (mvG cl k n) k fi))), ((ad 4), .inl (E.2.1, 65536, .inl (upd (mvG pl (fr + k) (fr + n)) (fr + k) px)))] H := hP
        have hD : va_D A [(h0, .inr (3, mF ad th sg sn hot pc cx cy fo fv to tv fi ti)), ((ad 8), .inl (E.1, 8192, .inr (.inl (vp_updL (mvG ov k n) k fo)))), ((ad 9), .inl (E.1, 8192, .inr (.inl (vp_updL (mvG un k n) k fv)))), ((ad 10), .inl (E.2.2.1, 8192, .inl (upd (mvG cl k n) k fi))), ((ad 4), .inl (E.2.1, 65536, .inl (upd (mvG pl (fr + k) (fr + n)) (fr + k) px)))] := hD
        exact W.vret hx hb hrt (fun t ht hW => ⟨⟨(), rfl, trivial, ⟨by rw [ht]; exact hP, hD⟩⟩, hS.F ht⟩) hS.2.2 d_M_insert_205 hlocks
      refine lv_iload hx hb d_M_insert_6 (lv_at hl 3 rfl) ?_
      refine lv_if_le (tgt := 162) hx hb d_M_insert_8 (by decide) (fun c1 => ?_) (fun c1 => ?_)
      · have q : k = 0 := by have := (nI_leI (b := 0) (by omega) (by omega)).mp c1; omega
        exact J H locs ls (by subst q; exact h3.elim (fun g => g.2) (fun g => g.2)) hP hD hS (lv_sub hl [0, 1, 2, 3] rfl)
      · obtain ⟨k, rfl⟩ : ∃ i, k = i + 1 := ⟨k - 1, by have : k ≠ 0 := fun z => c1 (by rw [z]; decide); omega⟩
        refine lv_iload hx hb d_M_insert_11 (lv_at hl 4 rfl) ?_
        refine lv_if_eq (tgt := 162) hx hb d_M_insert_13 (by decide) (fun c2 => ?_) (fun c2 => ?_)
        · exact J H locs ls (h3.elim (fun g => absurd c2 (by rw [g.1]; decide)) (fun g => g.2)) hP hD hS (lv_sub hl [0, 1, 2, 3] rfl)
        · have h3 : in_pos (fo, fv, fi) ov un cl (k + 1) = po := h3.elim (fun g => g.2) (fun g => absurd g.1 c2)
          rw [in_pos] at h3
          refine lv_aload_n hx hb d_M_insert_16 rfl (lv_at hl 0 rfl) ?_
          refine va_get (D := D) (ci := 3) (v := .long fo) (C := K_M) (T := F_M) (N := 24) hx hb hG in_M hown hK.1 hP 0 rfl rfl 15 (by decide) (hG _ wd_663) (fun _ h9 => h9) rfl d_M_insert_17 ?_
          refine lv_aload_n hx hb d_M_insert_20 rfl (lv_at hl 0 rfl) ?_
          refine va_get (D := D) (ci := 3) (v := .long fv) (C := K_M) (T := F_M) (N := 24) hx hb hG in_M hown hK.1 hP 0 rfl rfl 16 (by decide) (hG _ wd_664) (fun _ h9 => h9) rfl d_M_insert_21 ?_
          refine lv_aload_n hx hb d_M_insert_24 rfl (lv_at hl 0 rfl) ?_
          refine va_get (D := D) (ci := 3) (v := .ref (ad 8)) (C := K_M) (T := F_M) (N := 24) hx hb hG in_M hown hK.1 hP 0 rfl rfl 21 (by decide) (hG _ wd_669) (fun _ h9 => h9) rfl d_M_insert_25 ?_
          refine lv_iload hx hb d_M_insert_28 (lv_at hl 3 rfl) ?_
          refine lv_iconst (v := 1) hx hb d_M_insert_30 (by decide) ?_
          refine lv_isub hx hb d_M_insert_31 ?_
          rw [show (nI (k + 1) - 1) = nI k from nI_pred k]
          refine va_lald hx hb hK.1 hP 1 0 rfl rfl (vp_in_nI (by omega) (by omega)) d_M_insert_32 ?_
          rw [show (mvG ov (k + 1) n) (Int32.toNatClampNeg (nI k)) = ov k from by rw [nI_clamp (by omega)]; exact mvG_at _ (by omega)]
          refine lv_aload_n hx hb d_M_insert_33 rfl (lv_at hl 0 rfl) ?_
          refine va_get (D := D) (ci := 3) (v := .ref (ad 9)) (C := K_M) (T := F_M) (N := 24) hx hb hG in_M hown hK.1 hP 0 rfl rfl 22 (by decide) (hG _ wd_670) (fun _ h9 => h9) rfl d_M_insert_34 ?_
          refine lv_iload hx hb d_M_insert_37 (lv_at hl 3 rfl) ?_
          refine lv_iconst (v := 1) hx hb d_M_insert_39 (by decide) ?_
          refine lv_isub hx hb d_M_insert_40 ?_
          rw [show (nI (k + 1) - 1) = nI k from nI_pred k]
          refine va_lald hx hb hK.1 hP 2 0 rfl rfl (vp_in_nI (by omega) (by omega)) d_M_insert_41 ?_
          rw [show (mvG un (k + 1) n) (Int32.toNatClampNeg (nI k)) = un k from by rw [nI_clamp (by omega)]; exact mvG_at _ (by omega)]
          have hPc := hP.sub (ws' := []) [] rfl
          refine vp_callSi (W.runS (As := [.long fo, .long fv, .long (ov k), .long (un k)]) (rest := []) ⟨hx, hb, hml, hown, hts⟩ (k_M_compare l D E fo fv (ov k) (un k)) (va_cwS 4 hts (gw_gs wd_772 wd_773 wd_42 wd_774) rfl rfl rfl (by decide +kernel) ⟨Nat.le_of_ble_eq_true rfl, Nat.le_of_ble_eq_true rfl⟩) (rP_S hPc hK) rfl rfl hl.1 rfl (lv_room (Nat.le_of_ble_eq_true rfl)) d_M_insert_42 ⟨Nat.le_of_ble_eq_true rfl, Nat.le_of_ble_eq_true rfl⟩) (fun cc hcc => ?_)
          refine lv_istore (lv' := [(6, .int cc), (0, .ref h0), (1, .int (nI fr)), (3, .int px), (4, .int (nI (k + 1))), (5, .int b)]) hx hb d_M_insert_45 hl (by decide) rfl (fun ls hl => ?_)
          refine lv_iload hx hb d_M_insert_47 (lv_at hl 0 rfl) ?_
          have K : ∀ (b2 : Int32) (H : Heap) (locs : List Loc) (ls : Array Slot), ((b2 = 1 ∧ in_less (fo, fv, fi) (ov k) (un k) (cl k)) ∨ (b2 = 0 ∧ ¬ in_less (fo, fv, fi) (ov k) (un k) (cl k))) → va_P D vwC [(h0, .inr (3, mF ad th sg sn hot pc cx cy fo fv to tv fi ti)), ((ad 8), .inl (E.1, 8192, .inr (.inl (mvG ov (k + 1) n)))), ((ad 9), .inl (E.1, 8192, .inr (.inl (mvG un (k + 1) n)))), ((ad 10), .inl (E.2.2.1, 8192, .inl (mvG cl (k + 1) n))), ((ad 4), .inl (E.2.1, 65536, .inl (mvG pl (fr + (k + 1)) (fr + n))))] H → va_D A [(h0, .inr (3, mF ad th sg sn hot pc cx cy fo fv to tv fi ti)), ((ad 8), .inl (E.1, 8192, .inr (.inl (mvG ov (k + 1) n)))), ((ad 9), .inl (E.1, 8192, .inr (.inl (mvG un (k + 1) n)))), ((ad 10), .inl (E.2.2.1, 8192, .inl (mvG cl (k + 1) n))), ((ad 4), .inl (E.2.1, 65536, .inl (mvG pl (fr + (k + 1)) (fr + n))))] → va_S A s.heap H locs → lv_has ls 7 [(0, .ref h0), (1, .int (nI fr)), (3, .int px), (4, .int (nI (k + 1)))] → W p l e ({ frames := 1, cells := 0, slots := 0, locals := 40 } : Room) s m ([.ref h0, .int (nI fr), .int (nI n), .int px] : List Value).toArray below meth c H locs 0 0 (MQ below (va_Qv (fun (u : Unit) => True) (wB D (fun _ => [(h0, .inr (3, mF ad th sg sn hot pc cx cy fo fv to tv fi ti)), ((ad 8), .inl (E.1, 8192, .inr (.inl (vp_updL (mvG ov po n) po fo)))), ((ad 9), .inl (E.1, 8192, .inr (.inl (vp_updL (mvG un po n) po fv)))), ((ad 10), .inl (E.2.2.1, 8192, .inl (upd (mvG cl po n) po fi))), ((ad 4), .inl (E.2.1, 65536, .inl (upd (mvG pl (fr + po) (fr + n)) (fr + po) px)))]) A) A) ([.ref h0, .int (nI fr), .int (nI n), .int px] : List Value).toArray s 0 0 A) (F0 m 81 ls [.int b2]) := by
            intro b2 H locs ls e hP hD hS hl
            refine lv_istore (lv' := [(5, .int b2), (0, .ref h0), (1, .int (nI fr)), (3, .int px), (4, .int (nI (k + 1)))]) hx hb d_M_insert_81 hl (by decide) rfl (fun ls hl => ?_)
            refine lv_iload hx hb d_M_insert_83 (lv_at hl 0 rfl) ?_
            refine lv_if_eq (tgt := 159) hx hb d_M_insert_85 (by decide) (fun d1 => ?_) (fun d1 => ?_)
            · obtain ⟨-, e⟩ := e.resolve_left (fun g => absurd d1 (by rw [g.1]; decide))
              rw [if_neg e] at h3
              refine lv_goto (tgt := 6) hx hb d_M_insert_159 (by decide) ?_
              refine lv_iload hx hb d_M_insert_6 (lv_at hl 4 rfl) ?_
              refine lv_if_le (tgt := 162) hx hb d_M_insert_8 (by decide) (fun d2 => ?_) (fun d2 => ?_)
              · exact absurd ((nI_leI (b := 0) (by omega) (by omega)).mp d2) (by omega)
              · refine lv_iload hx hb d_M_insert_11 (lv_at hl 0 rfl) ?_
                refine lv_if_eq (tgt := 162) hx hb d_M_insert_13 (by decide) (fun d3 => ?_) (fun d3 => ?_)
                · exact J H locs ls h3 hP hD hS (lv_sub hl [1, 2, 3, 4] rfl)
                · exact absurd d1 d3
            · obtain ⟨eb, e⟩ := e.resolve_right (fun g => d1 g.1)
              rw [if_pos e] at h3
              refine lv_aload_n hx hb d_M_insert_88 rfl (lv_at hl 1 rfl) ?_
              refine va_get (D := D) (ci := 3) (v := .ref (ad 8)) (C := K_M) (T := F_M) (N := 24) hx hb hG in_M hown hK.1 hP 0 rfl rfl 21 (by decide) (hG _ wd_669) (fun _ h9 => h9) rfl d_M_insert_89 ?_
              refine lv_iload hx hb d_M_insert_92 (lv_at hl 4 rfl) ?_
              refine lv_aload_n hx hb d_M_insert_94 rfl (lv_at hl 1 rfl) ?_
              refine va_get (D := D) (ci := 3) (v := .ref (ad 8)) (C := K_M) (T := F_M) (N := 24) hx hb hG in_M hown hK.1 hP 0 rfl rfl 21 (by decide) (hG _ wd_669) (fun _ h9 => h9) rfl d_M_insert_95 ?_
              refine lv_iload hx hb d_M_insert_98 (lv_at hl 4 rfl) ?_
              refine lv_iconst (v := 1) hx hb d_M_insert_100 (by decide) ?_
              refine lv_isub hx hb d_M_insert_101 ?_
              rw [show (nI (k + 1) - 1) = nI k from nI_pred k]
              refine va_lald hx hb hK.1 hP 1 0 rfl rfl (vp_in_nI (by omega) (by omega)) d_M_insert_102 ?_
              rw [show (mvG ov (k + 1) n) (Int32.toNatClampNeg (nI k)) = ov k from by rw [nI_clamp (by omega)]; exact mvG_at _ (by omega)]
              refine va_last hx hb hK.1 hP hD hS 1 0 rfl rfl (vp_in_nI (by omega) (by omega)) d_M_insert_103 (fun H locs hP hD hS => ?_)
              rw [show vp_updL (mvG ov (k + 1) n) (Int32.toNatClampNeg (nI (k + 1))) (ov k) = (mvG ov k n) from by rw [nI_clamp (by omega)]; exact mvG_L ov k n (by omega)] at hP hD
              have hP : va_P D vwC [(h0, .inr (3, mF ad th sg sn hot pc cx cy fo fv to tv fi ti)), ((ad 8), .inl (E.1, 8192, .inr (.inl (mvG ov k n)))), ((ad 9), .inl (E.1, 8192, .inr (.inl (mvG un (k + 1) n)))), ((ad 10), .inl (E.2.2.1, 8192, .inl (mvG cl (k + 1) n))), ((ad 4), .inl (E.2.1, 65536, .inl (mvG pl (fr + (k + 1)) (fr + n))))] H := hP
              have hD : va_D A [(h0, .inr (3, mF ad th sg sn hot pc cx cy fo fv to tv fi ti)), ((ad 8), .inl (E.1, 8192, .inr (.inl (mvG ov k n)))), ((ad 9), .inl (E.1, 8192, .inr (.inl (mvG un (k + 1) n)))), ((ad 10), .inl (E.2.2.1, 8192, .inl (mvG cl (k + 1) n))), ((ad 4), .inl (E.2.1, 65536, .inl (mvG pl (fr + (k + 1)) (fr + n))))] := hD
              refine lv_aload_n hx hb d_M_insert_104 rfl (lv_at hl 1 rfl) ?_
              refine va_get (D := D) (ci := 3) (v := .ref (ad 9)) (C := K_M) (T := F_M) (N := 24) hx hb hG in_M hown hK.1 hP 0 rfl rfl 22 (by decide) (hG _ wd_670) (fun _ h9 => h9) rfl d_M_insert_105 ?_
              refine lv_iload hx hb d_M_insert_108 (lv_at hl 4 rfl) ?_
              refine lv_aload_n hx hb d_M_insert_110 rfl (lv_at hl 1 rfl) ?_
              refine va_get (D := D) (ci := 3) (v := .ref (ad 9)) (C := K_M) (T := F_M) (N := 24) hx hb hG in_M hown hK.1 hP 0 rfl rfl 22 (by decide) (hG _ wd_670) (fun _ h9 => h9) rfl d_M_insert_111 ?_
              refine lv_iload hx hb d_M_insert_114 (lv_at hl 4 rfl) ?_
              refine lv_iconst (v := 1) hx hb d_M_insert_116 (by decide) ?_
              refine lv_isub hx hb d_M_insert_117 ?_
              rw [show (nI (k + 1) - 1) = nI k from nI_pred k]
              refine va_lald hx hb hK.1 hP 2 0 rfl rfl (vp_in_nI (by omega) (by omega)) d_M_insert_118 ?_
              rw [show (mvG un (k + 1) n) (Int32.toNatClampNeg (nI k)) = un k from by rw [nI_clamp (by omega)]; exact mvG_at _ (by omega)]
              refine va_last hx hb hK.1 hP hD hS 2 0 rfl rfl (vp_in_nI (by omega) (by omega)) d_M_insert_119 (fun H locs hP hD hS => ?_)
              rw [show vp_updL (mvG un (k + 1) n) (Int32.toNatClampNeg (nI (k + 1))) (un k) = (mvG un k n) from by rw [nI_clamp (by omega)]; exact mvG_L un k n (by omega)] at hP hD
              have hP : va_P D vwC [(h0, .inr (3, mF ad th sg sn hot pc cx cy fo fv to tv fi ti)), ((ad 8), .inl (E.1, 8192, .inr (.inl (mvG ov k n)))), ((ad 9), .inl (E.1, 8192, .inr (.inl (mvG un k n)))), ((ad 10), .inl (E.2.2.1, 8192, .inl (mvG cl (k + 1) n))), ((ad 4), .inl (E.2.1, 65536, .inl (mvG pl (fr + (k + 1)) (fr + n))))] H := hP
              have hD : va_D A [(h0, .inr (3, mF ad th sg sn hot pc cx cy fo fv to tv fi ti)), ((ad 8), .inl (E.1, 8192, .inr (.inl (mvG ov k n)))), ((ad 9), .inl (E.1, 8192, .inr (.inl (mvG un k n)))), ((ad 10), .inl (E.2.2.1, 8192, .inl (mvG cl (k + 1) n))), ((ad 4), .inl (E.2.1, 65536, .inl (mvG pl (fr + (k + 1)) (fr + n))))] := hD
              refine lv_aload_n hx hb d_M_insert_120 rfl (lv_at hl 1 rfl) ?_
              refine va_get (D := D) (ci := 3) (v := .ref (ad 10)) (C := K_M) (T := F_M) (N := 24) hx hb hG in_M hown hK.1 hP 0 rfl rfl 23 (by decide) (hG _ wd_671) (fun _ h9 => h9) rfl d_M_insert_121 ?_
              refine lv_iload hx hb d_M_insert_124 (lv_at hl 4 rfl) ?_
              refine lv_aload_n hx hb d_M_insert_126 rfl (lv_at hl 1 rfl) ?_
              refine va_get (D := D) (ci := 3) (v := .ref (ad 10)) (C := K_M) (T := F_M) (N := 24) hx hb hG in_M hown hK.1 hP 0 rfl rfl 23 (by decide) (hG _ wd_671) (fun _ h9 => h9) rfl d_M_insert_127 ?_
              refine lv_iload hx hb d_M_insert_130 (lv_at hl 4 rfl) ?_
              refine lv_iconst (v := 1) hx hb d_M_insert_132 (by decide) ?_
              refine lv_isub hx hb d_M_insert_133 ?_
              rw [show (nI (k + 1) - 1) = nI k from nI_pred k]
              refine va_zald hx hb hK.1 hP 3 2 rfl rfl (vp_in_nI (by omega) (by omega)) d_M_insert_134 ?_
              rw [show (mvG cl (k + 1) n) (Int32.toNatClampNeg (nI k)) = cl k from by rw [nI_clamp (by omega)]; exact mvG_at _ (by omega)]
              refine va_zast hx hb hK.1 hP hD hS 3 2 rfl rfl (vp_in_nI (by omega) (by omega)) d_M_insert_135 (fun H locs hP hD hS => ?_)
              rw [show upd (mvG cl (k + 1) n) (Int32.toNatClampNeg (nI (k + 1))) (vp_nar .boolean (cl k)) = (mvG cl k n) from by rw [nI_clamp (by omega), vp_nar_b (hcl k)]; exact mvG_I cl k n (by omega)] at hP hD
              have hP : va_P D vwC [(h0, .inr (3, mF ad th sg sn hot pc cx cy fo fv to tv fi ti)), ((ad 8), .inl (E.1, 8192, .inr (.inl (mvG ov k n)))), ((ad 9), .inl (E.1, 8192, .inr (.inl (mvG un k n)))), ((ad 10), .inl (E.2.2.1, 8192, .inl (mvG cl k n))), ((ad 4), .inl (E.2.1, 65536, .inl (mvG pl (fr + (k + 1)) (fr + n))))] H := hP
              have hD : va_D A [(h0, .inr (3, mF ad th sg sn hot pc cx cy fo fv to tv fi ti)), ((ad 8), .inl (E.1, 8192, .inr (.inl (mvG ov k n)))), ((ad 9), .inl (E.1, 8192, .inr (.inl (mvG un k n)))), ((ad 10), .inl (E.2.2.1, 8192, .inl (mvG cl k n))), ((ad 4), .inl (E.2.1, 65536, .inl (mvG pl (fr + (k + 1)) (fr + n))))] := hD
              refine lv_aload_n hx hb d_M_insert_136 rfl (lv_at hl 1 rfl) ?_
              refine va_get (D := D) (ci := 3) (v := .ref (ad 4)) (C := K_M) (T := F_M) (N := 24) hx hb hG in_M hown hK.1 hP 0 rfl rfl 8 (by decide) (hG _ wd_656) (fun _ h9 => h9) rfl d_M_insert_137 ?_
              refine lv_iload_n hx hb d_M_insert_140 rfl (lv_at hl 2 rfl) ?_
              refine lv_iload hx hb d_M_insert_141 (lv_at hl 4 rfl) ?_
              refine lv_iadd hx hb d_M_insert_143 ?_
              rw [show (nI fr + nI (k + 1)) = nI (fr + (k + 1)) from nI_add _ _]
              refine lv_aload_n hx hb d_M_insert_144 rfl (lv_at hl 1 rfl) ?_
              refine va_get (D := D) (ci := 3) (v := .ref (ad 4)) (C := K_M) (T := F_M) (N := 24) hx hb hG in_M hown hK.1 hP 0 rfl rfl 8 (by decide) (hG _ wd_656) (fun _ h9 => h9) rfl d_M_insert_145 ?_
              refine lv_iload_n hx hb d_M_insert_148 rfl (lv_at hl 2 rfl) ?_
              refine lv_iload hx hb d_M_insert_149 (lv_at hl 4 rfl) ?_
              refine lv_iadd hx hb d_M_insert_151 ?_
              rw [show (nI fr + nI (k + 1)) = nI (fr + (k + 1)) from nI_add _ _]
              refine lv_iconst (v := 1) hx hb d_M_insert_152 (by decide) ?_
              refine lv_isub hx hb d_M_insert_153 ?_
              rw [show (nI (fr + (k + 1)) - 1) = nI (fr + k) from nI_pred (fr + k)]
              refine va_iald hx hb hK.1 hP 4 1 rfl rfl (vp_in_nI (by omega) (by omega)) d_M_insert_154 ?_
              rw [show (mvG pl (fr + (k + 1)) (fr + n)) (Int32.toNatClampNeg (nI (fr + k))) = pl (fr + k) from by rw [nI_clamp (by omega)]; exact mvG_at _ (by omega)]
              refine va_iast hx hb hK.1 hP hD hS 4 1 rfl rfl (vp_in_nI (by omega) (by omega)) d_M_insert_155 (fun H locs hP hD hS => ?_)
              rw [show upd (mvG pl (fr + (k + 1)) (fr + n)) (Int32.toNatClampNeg (nI (fr + (k + 1)))) (pl (fr + k)) = (mvG pl (fr + k) (fr + n)) from by rw [nI_clamp (by omega)]; exact mvG_I pl (fr + k) (fr + n) (by omega)] at hP hD
              have hP : va_P D vwC [(h0, .inr (3, mF ad th sg sn hot pc cx cy fo fv to tv fi ti)), ((ad 8), .inl (E.1, 8192, .inr (.inl (mvG ov k n)))), ((ad 9), .inl (E.1, 8192, .inr (.inl (mvG un k n)))), ((ad 10), .inl (E.2.2.1, 8192, .inl (mvG cl k n))), ((ad 4), .inl (E.2.1, 65536, .inl (mvG pl (fr + k) (fr + n))))] H := hP
              have hD : va_D A [(h0, .inr (3, mF ad th sg sn hot pc cx cy fo fv to tv fi ti)), ((ad 8), .inl (E.1, 8192, .inr (.inl (mvG ov k n)))), ((ad 9), .inl (E.1, 8192, .inr (.inl (mvG un k n)))), ((ad 10), .inl (E.2.2.1, 8192, .inl (mvG cl k n))), ((ad 4), .inl (E.2.1, 65536, .inl (mvG pl (fr + k) (fr + n))))] := hD
              refine lv_iinc (v := nI k) (lv' := [(4, .int (nI k)), (5, .int b2), (0, .ref h0), (1, .int (nI fr)), (3, .int px)]) hx hb d_M_insert_156 hl (k := 4) rfl (iinc_m k) (by decide) rfl (fun ls hl => ?_)
              refine lv_goto (tgt := 6) hx hb d_M_insert_159 (by decide) ?_
              exact ih k b2 H locs ls (by omega) (by omega) (Or.inl ⟨eb, h3⟩) hP hD hS (lv_sub hl [2, 3, 4, 0, 1] rfl)
          refine lv_if_lt (tgt := 76) hx hb d_M_insert_49 (by decide) (fun e1 => ?_) (fun e1 => ?_)
          · refine lv_iconst (v := 1) hx hb d_M_insert_76 (by decide) ?_
            refine lv_goto (tgt := 81) hx hb d_M_insert_77 (by decide) ?_
            exact K 1 H locs ls (Or.inl ⟨rfl, Or.inl (by rw [hcc] at e1; exact e1)⟩) hP hD hS (lv_sub hl [1, 2, 3, 4] rfl)
          · rw [hcc] at e1
            refine lv_iload hx hb d_M_insert_52 (lv_at hl 0 rfl) ?_
            refine lv_if_ne (tgt := 80) hx hb d_M_insert_54 (by decide) (fun e2 => ?_) (fun e2 => ?_)
            · rw [hcc] at e2
              refine lv_iconst (v := 0) hx hb d_M_insert_80 (by decide) ?_
              exact K 0 H locs ls (Or.inr ⟨rfl, fun g => g.elim e1 (fun g => e2 g.1)⟩) hP hD hS (lv_sub hl [1, 2, 3, 4] rfl)
            · rw [hcc] at e2
              refine lv_aload_n hx hb d_M_insert_57 rfl (lv_at hl 1 rfl) ?_
              refine va_get (D := D) (ci := 3) (v := .int fi) (C := K_M) (T := F_M) (N := 24) hx hb hG in_M hown hK.1 hP 0 rfl rfl 19 (by decide) (hG _ wd_667) (fun _ h9 => h9) rfl d_M_insert_58 ?_
              refine lv_if_eq (tgt := 80) hx hb d_M_insert_61 (by decide) (fun e3 => ?_) (fun e3 => ?_)
              · refine lv_iconst (v := 0) hx hb d_M_insert_80 (by decide) ?_
                exact K 0 H locs ls (Or.inr ⟨rfl, fun g => g.elim e1 (fun g => g.2.1 e3)⟩) hP hD hS (lv_sub hl [1, 2, 3, 4] rfl)
              · refine lv_aload_n hx hb d_M_insert_64 rfl (lv_at hl 1 rfl) ?_
                refine va_get (D := D) (ci := 3) (v := .ref (ad 10)) (C := K_M) (T := F_M) (N := 24) hx hb hG in_M hown hK.1 hP 0 rfl rfl 23 (by decide) (hG _ wd_671) (fun _ h9 => h9) rfl d_M_insert_65 ?_
                refine lv_iload hx hb d_M_insert_68 (lv_at hl 4 rfl) ?_
                refine lv_iconst (v := 1) hx hb d_M_insert_70 (by decide) ?_
                refine lv_isub hx hb d_M_insert_71 ?_
                rw [show (nI (k + 1) - 1) = nI k from nI_pred k]
                refine va_zald hx hb hK.1 hP 3 2 rfl rfl (vp_in_nI (by omega) (by omega)) d_M_insert_72 ?_
                rw [show (mvG cl (k + 1) n) (Int32.toNatClampNeg (nI k)) = cl k from by rw [nI_clamp (by omega)]; exact mvG_at _ (by omega)]
                refine lv_if_ne (tgt := 80) hx hb d_M_insert_73 (by decide) (fun e4 => ?_) (fun e4 => ?_)
                · refine lv_iconst (v := 0) hx hb d_M_insert_80 (by decide) ?_
                  exact K 0 H locs ls (Or.inr ⟨rfl, fun g => g.elim e1 (fun g => e4 g.2.2)⟩) hP hD hS (lv_sub hl [1, 2, 3, 4] rfl)
                · refine lv_iconst (v := 1) hx hb d_M_insert_76 (by decide) ?_
                  refine lv_goto (tgt := 81) hx hb d_M_insert_77 (by decide) ?_
                  exact K 1 H locs ls (Or.inl ⟨rfl, Or.inr ⟨e2, e3, e4⟩⟩) hP hD hS (lv_sub hl [1, 2, 3, 4] rfl)
  have e4 : mvG pl (fr + n) (fr + n) = pl := mvG_0 pl (fr + n)
  exact loop (n + 1) n 1 _ _ ls (Nat.le_refl _) (by omega) (Or.inl ⟨rfl, hpo.symm⟩) (by rw [mvG_0, mvG_0, mvG_0, mvG_0]; exact hP) (by rw [mvG_0, mvG_0, mvG_0, mvG_0]; exact hD) hS (lv_sub hl [2, 3, 5, 1, 0] rfl)
