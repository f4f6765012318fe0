theorem d_M_gather_0 : decode c_M_gather 0 = .ok (.iconst 0, 1) := by decide +kernel
theorem d_M_gather_1 : decode c_M_gather 1 = .ok (.istore_n 3, 1) := by decide +kernel
theorem d_M_gather_2 : decode c_M_gather 2 = .ok (.aload_n 0, 1) := by decide +kernel
theorem d_M_gather_3 : decode c_M_gather 3 = .ok (.getfield 66, 3) := by decide +kernel
theorem d_M_gather_6 : decode c_M_gather 6 = .ok (.istore 4, 2) := by decide +kernel
theorem d_M_gather_8 : decode c_M_gather 8 = .ok (.iload_n 3, 1) := by decide +kernel
theorem d_M_gather_9 : decode c_M_gather 9 = .ok (.iload 4, 2) := by decide +kernel
theorem d_M_gather_11 : decode c_M_gather 11 = .ok (.if_icmp .ge 59, 3) := by decide +kernel
theorem d_M_gather_14 : decode c_M_gather 14 = .ok (.iload_n 3, 1) := by decide +kernel
theorem d_M_gather_15 : decode c_M_gather 15 = .ok (.iload 4, 2) := by decide +kernel
theorem d_M_gather_17 : decode c_M_gather 17 = .ok (.iadd, 1) := by decide +kernel
theorem d_M_gather_18 : decode c_M_gather 18 = .ok (.iconst 2, 1) := by decide +kernel
theorem d_M_gather_19 : decode c_M_gather 19 = .ok (.idiv, 1) := by decide +kernel
theorem d_M_gather_20 : decode c_M_gather 20 = .ok (.istore 5, 2) := by decide +kernel
theorem d_M_gather_22 : decode c_M_gather 22 = .ok (.aload_n 0, 1) := by decide +kernel
theorem d_M_gather_23 : decode c_M_gather 23 = .ok (.getfield 26, 3) := by decide +kernel
theorem d_M_gather_26 : decode c_M_gather 26 = .ok (.iload 5, 2) := by decide +kernel
theorem d_M_gather_28 : decode c_M_gather 28 = .ok (.iaload, 1) := by decide +kernel
theorem d_M_gather_29 : decode c_M_gather 29 = .ok (.iload_n 1, 1) := by decide +kernel
theorem d_M_gather_30 : decode c_M_gather 30 = .ok (.if_icmp .lt 25, 3) := by decide +kernel
theorem d_M_gather_33 : decode c_M_gather 33 = .ok (.aload_n 0, 1) := by decide +kernel
theorem d_M_gather_34 : decode c_M_gather 34 = .ok (.getfield 26, 3) := by decide +kernel
theorem d_M_gather_37 : decode c_M_gather 37 = .ok (.iload 5, 2) := by decide +kernel
theorem d_M_gather_39 : decode c_M_gather 39 = .ok (.iaload, 1) := by decide +kernel
theorem d_M_gather_40 : decode c_M_gather 40 = .ok (.iload_n 1, 1) := by decide +kernel
theorem d_M_gather_41 : decode c_M_gather 41 = .ok (.if_icmp .ne 22, 3) := by decide +kernel
theorem d_M_gather_44 : decode c_M_gather 44 = .ok (.aload_n 0, 1) := by decide +kernel
theorem d_M_gather_45 : decode c_M_gather 45 = .ok (.getfield 29, 3) := by decide +kernel
theorem d_M_gather_48 : decode c_M_gather 48 = .ok (.iload 5, 2) := by decide +kernel
theorem d_M_gather_50 : decode c_M_gather 50 = .ok (.iaload, 1) := by decide +kernel
theorem d_M_gather_51 : decode c_M_gather 51 = .ok (.iload_n 2, 1) := by decide +kernel
theorem d_M_gather_52 : decode c_M_gather 52 = .ok (.if_icmp .ge 11, 3) := by decide +kernel
theorem d_M_gather_55 : decode c_M_gather 55 = .ok (.iload 5, 2) := by decide +kernel
theorem d_M_gather_57 : decode c_M_gather 57 = .ok (.iconst 1, 1) := by decide +kernel
theorem d_M_gather_58 : decode c_M_gather 58 = .ok (.iadd, 1) := by decide +kernel
theorem d_M_gather_59 : decode c_M_gather 59 = .ok (.istore_n 3, 1) := by decide +kernel
theorem d_M_gather_60 : decode c_M_gather 60 = .ok (.goto 7, 3) := by decide +kernel
theorem d_M_gather_63 : decode c_M_gather 63 = .ok (.iload 5, 2) := by decide +kernel
theorem d_M_gather_65 : decode c_M_gather 65 = .ok (.istore 4, 2) := by decide +kernel
theorem d_M_gather_67 : decode c_M_gather 67 = .ok (.goto (-59), 3) := by decide +kernel
theorem d_M_gather_70 : decode c_M_gather 70 = .ok (.iload_n 3, 1) := by decide +kernel
theorem d_M_gather_71 : decode c_M_gather 71 = .ok (.aload_n 0, 1) := by decide +kernel
theorem d_M_gather_72 : decode c_M_gather 72 = .ok (.getfield 66, 3) := by decide +kernel
theorem d_M_gather_75 : decode c_M_gather 75 = .ok (.if_icmp .eq 23, 3) := by decide +kernel
theorem d_M_gather_78 : decode c_M_gather 78 = .ok (.aload_n 0, 1) := by decide +kernel
theorem d_M_gather_79 : decode c_M_gather 79 = .ok (.getfield 26, 3) := by decide +kernel
theorem d_M_gather_82 : decode c_M_gather 82 = .ok (.iload_n 3, 1) := by decide +kernel
theorem d_M_gather_83 : decode c_M_gather 83 = .ok (.iaload, 1) := by decide +kernel
theorem d_M_gather_84 : decode c_M_gather 84 = .ok (.iload_n 1, 1) := by decide +kernel
theorem d_M_gather_85 : decode c_M_gather 85 = .ok (.if_icmp .ne 13, 3) := by decide +kernel
theorem d_M_gather_88 : decode c_M_gather 88 = .ok (.aload_n 0, 1) := by decide +kernel
theorem d_M_gather_89 : decode c_M_gather 89 = .ok (.getfield 29, 3) := by decide +kernel
theorem d_M_gather_92 : decode c_M_gather 92 = .ok (.iload_n 3, 1) := by decide +kernel
theorem d_M_gather_93 : decode c_M_gather 93 = .ok (.iaload, 1) := by decide +kernel
theorem d_M_gather_94 : decode c_M_gather 94 = .ok (.iload_n 2, 1) := by decide +kernel
theorem d_M_gather_95 : decode c_M_gather 95 = .ok (.if_icmp .eq 100, 3) := by decide +kernel
theorem d_M_gather_98 : decode c_M_gather 98 = .ok (.aload_n 0, 1) := by decide +kernel
theorem d_M_gather_99 : decode c_M_gather 99 = .ok (.getfield 66, 3) := by decide +kernel
theorem d_M_gather_102 : decode c_M_gather 102 = .ok (.istore 5, 2) := by decide +kernel
theorem d_M_gather_104 : decode c_M_gather 104 = .ok (.iload 5, 2) := by decide +kernel
theorem d_M_gather_106 : decode c_M_gather 106 = .ok (.iload_n 3, 1) := by decide +kernel
theorem d_M_gather_107 : decode c_M_gather 107 = .ok (.if_icmp .le 57, 3) := by decide +kernel
theorem d_M_gather_110 : decode c_M_gather 110 = .ok (.aload_n 0, 1) := by decide +kernel
theorem d_M_gather_111 : decode c_M_gather 111 = .ok (.getfield 26, 3) := by decide +kernel
theorem d_M_gather_114 : decode c_M_gather 114 = .ok (.iload 5, 2) := by decide +kernel
theorem d_M_gather_116 : decode c_M_gather 116 = .ok (.aload_n 0, 1) := by decide +kernel
theorem d_M_gather_117 : decode c_M_gather 117 = .ok (.getfield 26, 3) := by decide +kernel
theorem d_M_gather_120 : decode c_M_gather 120 = .ok (.iload 5, 2) := by decide +kernel
theorem d_M_gather_122 : decode c_M_gather 122 = .ok (.iconst 1, 1) := by decide +kernel
theorem d_M_gather_123 : decode c_M_gather 123 = .ok (.isub, 1) := by decide +kernel
theorem d_M_gather_124 : decode c_M_gather 124 = .ok (.iaload, 1) := by decide +kernel
theorem d_M_gather_125 : decode c_M_gather 125 = .ok (.iastore, 1) := by decide +kernel
theorem d_M_gather_126 : decode c_M_gather 126 = .ok (.aload_n 0, 1) := by decide +kernel
theorem d_M_gather_127 : decode c_M_gather 127 = .ok (.getfield 29, 3) := by decide +kernel
theorem d_M_gather_130 : decode c_M_gather 130 = .ok (.iload 5, 2) := by decide +kernel
theorem d_M_gather_132 : decode c_M_gather 132 = .ok (.aload_n 0, 1) := by decide +kernel
theorem d_M_gather_133 : decode c_M_gather 133 = .ok (.getfield 29, 3) := by decide +kernel
theorem d_M_gather_136 : decode c_M_gather 136 = .ok (.iload 5, 2) := by decide +kernel
theorem d_M_gather_138 : decode c_M_gather 138 = .ok (.iconst 1, 1) := by decide +kernel
theorem d_M_gather_139 : decode c_M_gather 139 = .ok (.isub, 1) := by decide +kernel
theorem d_M_gather_140 : decode c_M_gather 140 = .ok (.iaload, 1) := by decide +kernel
theorem d_M_gather_141 : decode c_M_gather 141 = .ok (.iastore, 1) := by decide +kernel
theorem d_M_gather_142 : decode c_M_gather 142 = .ok (.aload_n 0, 1) := by decide +kernel
theorem d_M_gather_143 : decode c_M_gather 143 = .ok (.getfield 32, 3) := by decide +kernel
theorem d_M_gather_146 : decode c_M_gather 146 = .ok (.iload 5, 2) := by decide +kernel
theorem d_M_gather_148 : decode c_M_gather 148 = .ok (.aload_n 0, 1) := by decide +kernel
theorem d_M_gather_149 : decode c_M_gather 149 = .ok (.getfield 32, 3) := by decide +kernel
theorem d_M_gather_152 : decode c_M_gather 152 = .ok (.iload 5, 2) := by decide +kernel
theorem d_M_gather_154 : decode c_M_gather 154 = .ok (.iconst 1, 1) := by decide +kernel
theorem d_M_gather_155 : decode c_M_gather 155 = .ok (.isub, 1) := by decide +kernel
theorem d_M_gather_156 : decode c_M_gather 156 = .ok (.iaload, 1) := by decide +kernel
theorem d_M_gather_157 : decode c_M_gather 157 = .ok (.iastore, 1) := by decide +kernel
theorem d_M_gather_158 : decode c_M_gather 158 = .ok (.iinc 5 (-1), 3) := by decide +kernel
theorem d_M_gather_161 : decode c_M_gather 161 = .ok (.goto (-57), 3) := by decide +kernel
theorem d_M_gather_164 : decode c_M_gather 164 = .ok (.aload_n 0, 1) := by decide +kernel
theorem d_M_gather_165 : decode c_M_gather 165 = .ok (.getfield 26, 3) := by decide +kernel
theorem d_M_gather_168 : decode c_M_gather 168 = .ok (.iload_n 3, 1) := by decide +kernel
theorem d_M_gather_169 : decode c_M_gather 169 = .ok (.iload_n 1, 1) := by decide +kernel
theorem d_M_gather_170 : decode c_M_gather 170 = .ok (.iastore, 1) := by decide +kernel
theorem d_M_gather_171 : decode c_M_gather 171 = .ok (.aload_n 0, 1) := by decide +kernel
theorem d_M_gather_172 : decode c_M_gather 172 = .ok (.getfield 29, 3) := by decide +kernel
theorem d_M_gather_175 : decode c_M_gather 175 = .ok (.iload_n 3, 1) := by decide +kernel
theorem d_M_gather_176 : decode c_M_gather 176 = .ok (.iload_n 2, 1) := by decide +kernel
theorem d_M_gather_177 : decode c_M_gather 177 = .ok (.iastore, 1) := by decide +kernel
theorem d_M_gather_178 : decode c_M_gather 178 = .ok (.aload_n 0, 1) := by decide +kernel
theorem d_M_gather_179 : decode c_M_gather 179 = .ok (.getfield 32, 3) := by decide +kernel
theorem d_M_gather_182 : decode c_M_gather 182 = .ok (.iload_n 3, 1) := by decide +kernel
theorem d_M_gather_183 : decode c_M_gather 183 = .ok (.iconst 0, 1) := by decide +kernel
theorem d_M_gather_184 : decode c_M_gather 184 = .ok (.iastore, 1) := by decide +kernel
theorem d_M_gather_185 : decode c_M_gather 185 = .ok (.aload_n 0, 1) := by decide +kernel
theorem d_M_gather_186 : decode c_M_gather 186 = .ok (.dup, 1) := by decide +kernel
theorem d_M_gather_187 : decode c_M_gather 187 = .ok (.getfield 66, 3) := by decide +kernel
theorem d_M_gather_190 : decode c_M_gather 190 = .ok (.iconst 1, 1) := by decide +kernel
theorem d_M_gather_191 : decode c_M_gather 191 = .ok (.iadd, 1) := by decide +kernel
theorem d_M_gather_192 : decode c_M_gather 192 = .ok (.putfield 66, 3) := by decide +kernel
theorem d_M_gather_195 : decode c_M_gather 195 = .ok (.aload_n 0, 1) := by decide +kernel
theorem d_M_gather_196 : decode c_M_gather 196 = .ok (.getfield 32, 3) := by decide +kernel
theorem d_M_gather_199 : decode c_M_gather 199 = .ok (.iload_n 3, 1) := by decide +kernel
theorem d_M_gather_200 : decode c_M_gather 200 = .ok (.dup2, 1) := by decide +kernel
theorem d_M_gather_201 : decode c_M_gather 201 = .ok (.iaload, 1) := by decide +kernel
theorem d_M_gather_202 : decode c_M_gather 202 = .ok (.iconst 1, 1) := by decide +kernel
theorem d_M_gather_203 : decode c_M_gather 203 = .ok (.iadd, 1) := by decide +kernel
theorem d_M_gather_204 : decode c_M_gather 204 = .ok (.iastore, 1) := by decide +kernel
theorem d_M_gather_205 : decode c_M_gather 205 = .ok (.return_, 1) := by decide +kernel
abbrev GT : Type := (Nat → Int32) × (Nat → Int32) × (Nat → Int32) × Nat
def mg_lo (s : GT) (a b : Int32) : Nat := mh_bs s.1 s.2.1 a b (s.2.2.2 + 1) 0 s.2.2.2
def mg_ins (s : GT) (a b : Int32) : GT :=
  if mg_lo s a b < s.2.2.2 ∧ s.1 (mg_lo s a b) = a ∧ s.2.1 (mg_lo s a b) = b then s
  else (upd (mh_mv s.1 (mg_lo s a b) s.2.2.2) (mg_lo s a b) a, upd (mh_mv s.2.1 (mg_lo s a b) s.2.2.2) (mg_lo s a b) b, upd (mh_mv s.2.2.1 (mg_lo s a b) s.2.2.2) (mg_lo s a b) 0, s.2.2.2 + 1)
def mg_g (s : GT) (a b : Int32) : GT := ((mg_ins s a b).1, (mg_ins s a b).2.1, upd (mg_ins s a b).2.2.1 (mg_lo s a b) ((mg_ins s a b).2.2.1 (mg_lo s a b) + 1), (mg_ins s a b).2.2.2)
theorem mg_g_n {s : GT} {a b : Int32} : (mg_g s a b).2.2.2 ≤ s.2.2.2 + 1 := by
  show (mg_ins s a b).2.2.2 ≤ _
  unfold mg_ins
  split
  · omega
  · exact Nat.le_refl _
set_option maxHeartbeats 4000000 in
set_option maxRecDepth 100000 in
theorem k_M_gather (l : Launch) (D : va_G) (E : ClassId × ClassId × ClassId × ClassId) (h0 sz : Nat) (ad : Nat → Nat) (th sg sn hot pc cx cy : Int32) (fo fv to tv : Int64) (fi ti : Int32) (gl gh go : Nat → Int32) (p9 : Nat) (a b : Int32) (hp : p9 < 65536) : Met l y_M_gather (.code y_M_gather c_M_gather 6 none :: gw) ({ frames := 0, cells := 0, slots := 0, locals := 0 } : Room) (wP D E [(h0, .inr (3, mF ad th sg sn hot (nI p9) cx cy fo fv to tv fi ti)), ((ad 5), .inl (E.2.1, 65536, .inl gl)), ((ad 6), .inl (E.2.1, 65536, .inl gh)), ((ad 7), .inl (E.2.1, 65536, .inl go))] sz [.ref h0, .int a, .int b]) (va_Qv (fun (u : Unit) => True) (wB D (fun _ => [(h0, .inr (3, mF ad th sg sn hot (nI (mg_g (gl, gh, go, p9) a b).2.2.2) cx cy fo fv to tv fi ti)), ((ad 5), .inl (E.2.1, 65536, .inl ((mg_g (gl, gh, go, p9) a b).1))), ((ad 6), .inl (E.2.1, 65536, .inl ((mg_g (gl, gh, go, p9) a b).2.1))), ((ad 7), .inl (E.2.1, 65536, .inl ((mg_g (gl, gh, go, p9) a b).2.2.1)))]) (va_A [(h0, .inr (3, mF ad th sg sn hot (nI p9) cx cy fo fv to tv fi ti)), ((ad 5), .inl (E.2.1, 65536, .inl gl)), ((ad 6), .inl (E.2.1, 65536, .inl gh)), ((ad 7), .inl (E.2.1, 65536, .inl go))] sz)) (va_A [(h0, .inr (3, mF ad th sg sn hot (nI p9) cx cy fo fv to tv fi ti)), ((ad 5), .inl (E.2.1, 65536, .inl gl)), ((ad 6), .inl (E.2.1, 65536, .inl gh)), ((ad 7), .inl (E.2.1, 65536, .inl go))] sz)) 0 0 (va_A [(h0, .inr (3, mF ad th sg sn hot (nI p9) cx cy fo fv to tv fi ti)), ((ad 5), .inl (E.2.1, 65536, .inl gl)), ((ad 6), .inl (E.2.1, 65536, .inl gh)), ((ad 7), .inl (E.2.1, 65536, .inl go))] sz) := by
  refine wr_ofW (Qc := fun A => (va_Qv (fun (u : Unit) => True) (wB D (fun _ => [(h0, .inr (3, mF ad th sg sn hot (nI (mg_g (gl, gh, go, p9) a b).2.2.2) cx cy fo fv to tv fi ti)), ((ad 5), .inl (E.2.1, 65536, .inl ((mg_g (gl, gh, go, p9) a b).1))), ((ad 6), .inl (E.2.1, 65536, .inl ((mg_g (gl, gh, go, p9) a b).2.1))), ((ad 7), .inl (E.2.1, 65536, .inl ((mg_g (gl, gh, go, p9) a b).2.2.1)))]) A) A)) (by decide) (Nat.le_of_ble_eq_true rfl) ?_
  intro p e s m below meth c B hP hK A hA hD hS ls hl
  obtain ⟨hx, hb, hrt, hml, hown, hts, hG, hlocks, hin⟩ := B
  have hl : lv_has ls 6 [(0, .ref h0), (1, .int a), (2, .int b)] := hl
  refine lv_iconst (v := 0) hx hb d_M_gather_0 (by decide) ?_
  refine lv_istore_n (lv' := [(3, .int 0), (0, .ref h0), (1, .int a), (2, .int b)]) hx hb d_M_gather_1 rfl hl (by decide) rfl (fun ls hl => ?_)
  refine lv_aload_n hx hb d_M_gather_2 rfl (lv_at hl 1 rfl) ?_
  refine va_get (D := D) (ci := 3) (v := .int (nI p9)) (C := K_M) (T := F_M) (N := 24) hx hb hG in_M hown hK.1 hP 0 rfl rfl 9 (by decide) (hG _ wd_657) (fun _ h9 => h9) rfl d_M_gather_3 ?_
  refine lv_istore (lv' := [(4, .int (nI p9)), (3, .int 0), (0, .ref h0), (1, .int a), (2, .int b)]) hx hb d_M_gather_6 hl (by decide) rfl (fun ls hl => ?_)
  obtain ⟨L, hL⟩ : ∃ L, L = mg_lo (gl, gh, go, p9) a b := ⟨_, rfl⟩
  have hLh : L ≤ p9 := by rw [hL]; exact (mh_bs_le _ _ _ (Nat.zero_le _)).2
  obtain ⟨T, hT⟩ : ∃ T, T = mg_ins (gl, gh, go, p9) a b := ⟨_, rfl⟩
  rw [mg_g, ← hT, ← hL]
  rw [mg_ins, ← hL] at hT
  dsimp only at hT ⊢
  have Z : ∀ (H : Heap) (locs : List Loc) (ls : Array Slot), (L < T.2.2.2 ∧ T.2.2.2 ≤ 65536) → va_P D vwC [(h0, .inr (3, mF ad th sg sn hot (nI T.2.2.2) cx cy fo fv to tv fi ti)), ((ad 5), .inl (E.2.1, 65536, .inl T.1)), ((ad 6), .inl (E.2.1, 65536, .inl T.2.1)), ((ad 7), .inl (E.2.1, 65536, .inl T.2.2.1))] H → va_D A [(h0, .inr (3, mF ad th sg sn hot (nI T.2.2.2) cx cy fo fv to tv fi ti)), ((ad 5), .inl (E.2.1, 65536, .inl T.1)), ((ad 6), .inl (E.2.1, 65536, .inl T.2.1)), ((ad 7), .inl (E.2.1, 65536, .inl T.2.2.1))] → va_S A s.heap H locs → lv_has ls 6 [(0, .ref h0), (1, .int a), (2, .int b), (3, .int (nI L))] → W p l e ({ frames := 0, cells := 0, slots := 0, locals := 0 } : Room) s m ([.ref h0, .int a, .int b] : List Value).toArray below meth c H locs 0 0 (MQ below (va_Qv (fun (u : Unit) => True) (wB D (fun _ => [(h0, .inr (3, mF ad th sg sn hot (nI T.2.2.2) cx cy fo fv to tv fi ti)), ((ad 5), .inl (E.2.1, 65536, .inl T.1)), ((ad 6), .inl (E.2.1, 65536, .inl T.2.1)), ((ad 7), .inl (E.2.1, 65536, .inl (upd T.2.2.1 L (T.2.2.1 L + 1))))]) A) A) ([.ref h0, .int a, .int b] : List Value).toArray s 0 0 A) (F0 m 195 ls []) := by
    intro H locs ls hLp hP hD hS hl
    refine lv_aload_n hx hb d_M_gather_195 rfl (lv_at hl 0 rfl) ?_
    refine va_get (D := D) (ci := 3) (v := .ref (ad 7)) (C := K_M) (T := F_M) (N := 24) hx hb hG in_M hown hK.1 hP 0 rfl rfl 12 (by decide) (hG _ wd_660) (fun _ h9 => h9) rfl d_M_gather_196 ?_
    refine lv_iload_n hx hb d_M_gather_199 rfl (lv_at hl 3 rfl) ?_
    refine lv_dup2_11 hx hb d_M_gather_200 rfl rfl ?_
    refine va_iald hx hb hK.1 hP 3 1 rfl rfl (vp_in_nI (by omega) (by omega)) d_M_gather_201 ?_
    rw [show T.2.2.1 (Int32.toNatClampNeg (nI L)) = T.2.2.1 L from by rw [nI_clamp (by omega)]]
    refine lv_iconst (v := 1) hx hb d_M_gather_202 (by decide) ?_
    refine lv_iadd hx hb d_M_gather_203 ?_
    refine va_iast hx hb hK.1 hP hD hS 3 1 rfl rfl (vp_in_nI (by omega) (by omega)) d_M_gather_204 (fun H locs hP hD hS => ?_)
    rw [show upd T.2.2.1 (Int32.toNatClampNeg (nI L)) (T.2.2.1 L + 1) = (upd T.2.2.1 L (T.2.2.1 L + 1)) from by rw [nI_clamp (by omega)]] at hP hD
    have hP : va_P D vwC [(h0, .inr (3, mF ad th sg sn hot (nI T.2.2.2) cx cy fo fv to tv fi ti)), ((ad 5), .inl (E.2.1, 65536, .inl T.1)), ((ad 6), .inl (E.2.1, 65536, .inl T.2.1)), ((ad 7), .inl (E.2.1, 65536, .inl (upd T.2.2.1 L (T.2.2.1 L + 1))))] H := hP
    have hD : va_D A [(h0, .inr (3, mF ad th sg sn hot (nI T.2.2.2) cx cy fo fv to tv fi ti)), ((ad 5), .inl (E.2.1, 65536, .inl T.1)), ((ad 6), .inl (E.2.1, 65536, .inl T.2.1)), ((ad 7), .inl (E.2.1, 65536, .inl (upd T.2.2.1 L (T.2.2.1 L + 1))))] := hD
    exact W.vret hx hb hrt (fun t ht hW => ⟨⟨(), rfl, trivial, ⟨by rw [ht]; exact hP, hD⟩⟩, hS.F ht⟩) hS.2.2 d_M_gather_205 hlocks
  have J : ∀ (H : Heap) (locs : List Loc) (ls : Array Slot), (¬ (L < p9 ∧ gl L = a ∧ gh L = b)) → va_P D vwC [(h0, .inr (3, mF ad th sg sn hot (nI p9) cx cy fo fv to tv fi ti)), ((ad 5), .inl (E.2.1, 65536, .inl gl)), ((ad 6), .inl (E.2.1, 65536, .inl gh)), ((ad 7), .inl (E.2.1, 65536, .inl go))] H → va_D A [(h0, .inr (3, mF ad th sg sn hot (nI p9) cx cy fo fv to tv fi ti)), ((ad 5), .inl (E.2.1, 65536, .inl gl)), ((ad 6), .inl (E.2.1, 65536, .inl gh)), ((ad 7), .inl (E.2.1, 65536, .inl go))] → va_S A s.heap H locs → lv_has ls 6 [(0, .ref h0), (1, .int a), (2, .int b), (3, .int (nI L))] → W p l e ({ frames := 0, cells := 0, slots := 0, locals := 0 } : Room) s m ([.ref h0, .int a, .int b] : List Value).toArray below meth c H locs 0 0 (MQ below (va_Qv (fun (u : Unit) => True) (wB D (fun _ => [(h0, .inr (3, mF ad th sg sn hot (nI T.2.2.2) cx cy fo fv to tv fi ti)), ((ad 5), .inl (E.2.1, 65536, .inl T.1)), ((ad 6), .inl (E.2.1, 65536, .inl T.2.1)), ((ad 7), .inl (E.2.1, 65536, .inl (upd T.2.2.1 L (T.2.2.1 L + 1))))]) A) A) ([.ref h0, .int a, .int b] : List Value).toArray s 0 0 A) (F0 m 98 ls []) := by
    intro H locs ls hn hP hD hS hl
    rw [if_neg hn] at hT
    refine lv_aload_n hx hb d_M_gather_98 rfl (lv_at hl 0 rfl) ?_
    refine va_get (D := D) (ci := 3) (v := .int (nI p9)) (C := K_M) (T := F_M) (N := 24) hx hb hG in_M hown hK.1 hP 0 rfl rfl 9 (by decide) (hG _ wd_657) (fun _ h9 => h9) rfl d_M_gather_99 ?_
    refine lv_istore (lv' := [(5, .int (nI p9)), (0, .ref h0), (1, .int a), (2, .int b), (3, .int (nI L))]) hx hb d_M_gather_102 hl (by decide) rfl (fun ls hl => ?_)
    have mv : ∀ (fu : Nat) (k : Nat) (H : Heap) (locs : List Loc) (ls : Array Slot), (L ≤ k) → (k ≤ p9) → (k < L + fu) → va_P D vwC [(h0, .inr (3, mF ad th sg sn hot (nI p9) cx cy fo fv to tv fi ti)), ((ad 5), .inl (E.2.1, 65536, .inl (mh_mv gl k p9))), ((ad 6), .inl (E.2.1, 65536, .inl (mh_mv gh k p9))), ((ad 7), .inl (E.2.1, 65536, .inl (mh_mv go k p9)))] H → va_D A [(h0, .inr (3, mF ad th sg sn hot (nI p9) cx cy fo fv to tv fi ti)), ((ad 5), .inl (E.2.1, 65536, .inl (mh_mv gl k p9))), ((ad 6), .inl (E.2.1, 65536, .inl (mh_mv gh k p9))), ((ad 7), .inl (E.2.1, 65536, .inl (mh_mv go k p9)))] → va_S A s.heap H locs → lv_has ls 6 [(0, .ref h0), (1, .int a), (2, .int b), (3, .int (nI L)), (5, .int (nI k))] → W p l e ({ frames := 0, cells := 0, slots := 0, locals := 0 } : Room) s m ([.ref h0, .int a, .int b] : List Value).toArray below meth c H locs 0 0 (MQ below (va_Qv (fun (u : Unit) => True) (wB D (fun _ => [(h0, .inr (3, mF ad th sg sn hot (nI T.2.2.2) cx cy fo fv to tv fi ti)), ((ad 5), .inl (E.2.1, 65536, .inl T.1)), ((ad 6), .inl (E.2.1, 65536, .inl T.2.1)), ((ad 7), .inl (E.2.1, 65536, .inl (upd T.2.2.1 L (T.2.2.1 L + 1))))]) A) A) ([.ref h0, .int a, .int b] : List Value).toArray s 0 0 A) (F0 m 104 ls []) := by
      intro fu
      induction fu with
      | zero =>
        intro k H locs ls h1 h2 h3 hP hD hS hl
        omega
      | succ fu ih =>
        intro k H locs ls h1 h2 h3 hP hD hS hl
        refine lv_iload hx hb d_M_gather_104 (lv_at hl 4 rfl) ?_
        refine lv_iload_n hx hb d_M_gather_106 rfl (lv_at hl 3 rfl) ?_
        refine lv_icmp_le (tgt := 164) hx hb d_M_gather_107 (by decide) (fun c1 => ?_) (fun c1 => ?_)
        · have ek : k = L := by have := (nI_leI (by omega) (by omega)).mp c1; omega
          rw [ek] at hP hD
          refine lv_aload_n hx hb d_M_gather_164 rfl (lv_at hl 0 rfl) ?_
          refine va_get (D := D) (ci := 3) (v := .ref (ad 5)) (C := K_M) (T := F_M) (N := 24) hx hb hG in_M hown hK.1 hP 0 rfl rfl 10 (by decide) (hG _ wd_658) (fun _ h9 => h9) rfl d_M_gather_165 ?_
          refine lv_iload_n hx hb d_M_gather_168 rfl (lv_at hl 3 rfl) ?_
          refine lv_iload_n hx hb d_M_gather_169 rfl (lv_at hl 1 rfl) ?_
          refine va_iast hx hb hK.1 hP hD hS 1 1 rfl rfl (vp_in_nI (by omega) (by omega)) d_M_gather_170 (fun H locs hP hD hS => ?_)
          rw [show upd (mh_mv gl L p9) (Int32.toNatClampNeg (nI L)) a = (upd (mh_mv gl L p9) L a) from by rw [nI_clamp (by omega)]] at hP hD
          have hP : va_P D vwC [(h0, .inr (3, mF ad th sg sn hot (nI p9) cx cy fo fv to tv fi ti)), ((ad 5), .inl (E.2.1, 65536, .inl (upd (mh_mv gl L p9) L a))), ((ad 6), .inl (E.2.1, 65536, .inl (mh_mv gh L p9))), ((ad 7), .inl (E.2.1, 65536, .inl (mh_mv go L p9)))] H := hP
          have hD : va_D A [(h0, .inr (3, mF ad th sg sn hot (nI p9) cx cy fo fv to tv fi ti)), ((ad 5), .inl (E.2.1, 65536, .inl (upd (mh_mv gl L p9) L a))), ((ad 6), .inl (E.2.1, 65536, .inl (mh_mv gh L p9))), ((ad 7), .inl (E.2.1, 65536, .inl (mh_mv go L p9)))] := hD
          refine lv_aload_n hx hb d_M_gather_171 rfl (lv_at hl 0 rfl) ?_
          refine va_get (D := D) (ci := 3) (v := .ref (ad 6)) (C := K_M) (T := F_M) (N := 24) hx hb hG in_M hown hK.1 hP 0 rfl rfl 11 (by decide) (hG _ wd_659) (fun _ h9 => h9) rfl d_M_gather_172 ?_
          refine lv_iload_n hx hb d_M_gather_175 rfl (lv_at hl 3 rfl) ?_
          refine lv_iload_n hx hb d_M_gather_176 rfl (lv_at hl 2 rfl) ?_
          refine va_iast hx hb hK.1 hP hD hS 2 1 rfl rfl (vp_in_nI (by omega) (by omega)) d_M_gather_177 (fun H locs hP hD hS => ?_)
          rw [show upd (mh_mv gh L p9) (Int32.toNatClampNeg (nI L)) b = (upd (mh_mv gh L p9) L b) from by rw [nI_clamp (by omega)]] at hP hD
          have hP : va_P D vwC [(h0, .inr (3, mF ad th sg sn hot (nI p9) cx cy fo fv to tv fi ti)), ((ad 5), .inl (E.2.1, 65536, .inl (upd (mh_mv gl L p9) L a))), ((ad 6), .inl (E.2.1, 65536, .inl (upd (mh_mv gh L p9) L b))), ((ad 7), .inl (E.2.1, 65536, .inl (mh_mv go L p9)))] H := hP
          have hD : va_D A [(h0, .inr (3, mF ad th sg sn hot (nI p9) cx cy fo fv to tv fi ti)), ((ad 5), .inl (E.2.1, 65536, .inl (upd (mh_mv gl L p9) L a))), ((ad 6), .inl (E.2.1, 65536, .inl (upd (mh_mv gh L p9) L b))), ((ad 7), .inl (E.2.1, 65536, .inl (mh_mv go L p9)))] := hD
          refine lv_aload_n hx hb d_M_gather_178 rfl (lv_at hl 0 rfl) ?_
          refine va_get (D := D) (ci := 3) (v := .ref (ad 7)) (C := K_M) (T := F_M) (N := 24) hx hb hG in_M hown hK.1 hP 0 rfl rfl 12 (by decide) (hG _ wd_660) (fun _ h9 => h9) rfl d_M_gather_179 ?_
          refine lv_iload_n hx hb d_M_gather_182 rfl (lv_at hl 3 rfl) ?_
          refine lv_iconst (v := 0) hx hb d_M_gather_183 (by decide) ?_
          refine va_iast hx hb hK.1 hP hD hS 3 1 rfl rfl (vp_in_nI (by omega) (by omega)) d_M_gather_184 (fun H locs hP hD hS => ?_)
          rw [show upd (mh_mv go L p9) (Int32.toNatClampNeg (nI L)) 0 = (upd (mh_mv go L p9) L 0) from by rw [nI_clamp (by omega)]] at hP hD
          have hP : va_P D vwC [(h0, .inr (3, mF ad th sg sn hot (nI p9) cx cy fo fv to tv fi ti)), ((ad 5), .inl (E.2.1, 65536, .inl (upd (mh_mv gl L p9) L a))), ((ad 6), .inl (E.2.1, 65536, .inl (upd (mh_mv gh L p9) L b))), ((ad 7), .inl (E.2.1, 65536, .inl (upd (mh_mv go L p9) L 0)))] H := hP
          have hD : va_D A [(h0, .inr (3, mF ad th sg sn hot (nI p9) cx cy fo fv to tv fi ti)), ((ad 5), .inl (E.2.1, 65536, .inl (upd (mh_mv gl L p9) L a))), ((ad 6), .inl (E.2.1, 65536, .inl (upd (mh_mv gh L p9) L b))), ((ad 7), .inl (E.2.1, 65536, .inl (upd (mh_mv go L p9) L 0)))] := hD
          refine lv_aload_n hx hb d_M_gather_185 rfl (lv_at hl 0 rfl) ?_
          refine lv_dup hx hb d_M_gather_186 rfl ?_
          refine va_get (D := D) (ci := 3) (v := .int (nI p9)) (C := K_M) (T := F_M) (N := 24) hx hb hG in_M hown hK.1 hP 0 rfl rfl 9 (by decide) (hG _ wd_657) (fun _ h9 => h9) rfl d_M_gather_187 ?_
          refine lv_iconst (v := 1) hx hb d_M_gather_190 (by decide) ?_
          refine lv_iadd hx hb d_M_gather_191 ?_
          rw [show (nI p9 + 1) = nI (p9 + 1) from nI_1 _]
          refine va_put (D := D) (ci := 3) (v := .int (nI (p9 + 1))) (ty := .int) (C := K_M) (T := F_M) (N := 24) hx hb hG in_M t_M t_M_ok n_M hown hK.1 hP hD hS 0 rfl rfl 9 (by decide) (hG _ wd_657) (fun _ h9 => h9) rfl (by decide +kernel) rfl rfl (Nat.le_of_ble_eq_true rfl) d_M_gather_192 (fun H locs hP hD hS => ?_)
          have hP : va_P D vwC [(h0, .inr (3, mF ad th sg sn hot (nI (p9 + 1)) cx cy fo fv to tv fi ti)), ((ad 5), .inl (E.2.1, 65536, .inl (upd (mh_mv gl L p9) L a))), ((ad 6), .inl (E.2.1, 65536, .inl (upd (mh_mv gh L p9) L b))), ((ad 7), .inl (E.2.1, 65536, .inl (upd (mh_mv go L p9) L 0)))] H := hP
          have hD : va_D A [(h0, .inr (3, mF ad th sg sn hot (nI (p9 + 1)) cx cy fo fv to tv fi ti)), ((ad 5), .inl (E.2.1, 65536, .inl (upd (mh_mv gl L p9) L a))), ((ad 6), .inl (E.2.1, 65536, .inl (upd (mh_mv gh L p9) L b))), ((ad 7), .inl (E.2.1, 65536, .inl (upd (mh_mv go L p9) L 0)))] := hD
          exact Z H locs ls (by rw [hT]; exact ⟨by show L < p9 + 1; omega, by show p9 + 1 ≤ 65536; omega⟩) (by rw [hT]; exact hP) (by rw [hT]; exact hD) hS (lv_sub hl [0, 1, 2, 3] rfl)
        · have q : L < k := by rw [nI_leI (by omega) (by omega)] at c1; omega
          obtain ⟨k, rfl⟩ : ∃ i, k = i + 1 := ⟨k - 1, by omega⟩
          refine lv_aload_n hx hb d_M_gather_110 rfl (lv_at hl 0 rfl) ?_
          refine va_get (D := D) (ci := 3) (v := .ref (ad 5)) (C := K_M) (T := F_M) (N := 24) hx hb hG in_M hown hK.1 hP 0 rfl rfl 10 (by decide) (hG _ wd_658) (fun _ h9 => h9) rfl d_M_gather_111 ?_
          refine lv_iload hx hb d_M_gather_114 (lv_at hl 4 rfl) ?_
          refine lv_aload_n hx hb d_M_gather_116 rfl (lv_at hl 0 rfl) ?_
          refine va_get (D := D) (ci := 3) (v := .ref (ad 5)) (C := K_M) (T := F_M) (N := 24) hx hb hG in_M hown hK.1 hP 0 rfl rfl 10 (by decide) (hG _ wd_658) (fun _ h9 => h9) rfl d_M_gather_117 ?_
          refine lv_iload hx hb d_M_gather_120 (lv_at hl 4 rfl) ?_
          refine lv_iconst (v := 1) hx hb d_M_gather_122 (by decide) ?_
          refine lv_isub hx hb d_M_gather_123 ?_
          rw [show (nI (k + 1) - 1) = nI k from nI_pred k]
          refine va_iald hx hb hK.1 hP 1 1 rfl rfl (vp_in_nI (by omega) (by omega)) d_M_gather_124 ?_
          rw [show (mh_mv gl (k + 1) p9) (Int32.toNatClampNeg (nI k)) = mh_mv gl (k + 1) p9 k from by rw [nI_clamp (by omega)]]
          refine va_iast hx hb hK.1 hP hD hS 1 1 rfl rfl (vp_in_nI (by omega) (by omega)) d_M_gather_125 (fun H locs hP hD hS => ?_)
          rw [show upd (mh_mv gl (k + 1) p9) (Int32.toNatClampNeg (nI (k + 1))) (mh_mv gl (k + 1) p9 k) = (mh_mv gl k p9) from by rw [nI_clamp (by omega)]; exact mh_mv_s gl k p9 (by omega)] at hP hD
          have hP : va_P D vwC [(h0, .inr (3, mF ad th sg sn hot (nI p9) cx cy fo fv to tv fi ti)), ((ad 5), .inl (E.2.1, 65536, .inl (mh_mv gl k p9))), ((ad 6), .inl (E.2.1, 65536, .inl (mh_mv gh (k + 1) p9))), ((ad 7), .inl (E.2.1, 65536, .inl (mh_mv go (k + 1) p9)))] H := hP
          have hD : va_D A [(h0, .inr (3, mF ad th sg sn hot (nI p9) cx cy fo fv to tv fi ti)), ((ad 5), .inl (E.2.1, 65536, .inl (mh_mv gl k p9))), ((ad 6), .inl (E.2.1, 65536, .inl (mh_mv gh (k + 1) p9))), ((ad 7), .inl (E.2.1, 65536, .inl (mh_mv go (k + 1) p9)))] := hD
          refine lv_aload_n hx hb d_M_gather_126 rfl (lv_at hl 0 rfl) ?_
          refine va_get (D := D) (ci := 3) (v := .ref (ad 6)) (C := K_M) (T := F_M) (N := 24) hx hb hG in_M hown hK.1 hP 0 rfl rfl 11 (by decide) (hG _ wd_659) (fun _ h9 => h9) rfl d_M_gather_127 ?_
          refine lv_iload hx hb d_M_gather_130 (lv_at hl 4 rfl) ?_
          refine lv_aload_n hx hb d_M_gather_132 rfl (lv_at hl 0 rfl) ?_
          refine va_get (D := D) (ci := 3) (v := .ref (ad 6)) (C := K_M) (T := F_M) (N := 24) hx hb hG in_M hown hK.1 hP 0 rfl rfl 11 (by decide) (hG _ wd_659) (fun _ h9 => h9) rfl d_M_gather_133 ?_
          refine lv_iload hx hb d_M_gather_136 (lv_at hl 4 rfl) ?_
          refine lv_iconst (v := 1) hx hb d_M_gather_138 (by decide) ?_
          refine lv_isub hx hb d_M_gather_139 ?_
          rw [show (nI (k + 1) - 1) = nI k from nI_pred k]
          refine va_iald hx hb hK.1 hP 2 1 rfl rfl (vp_in_nI (by omega) (by omega)) d_M_gather_140 ?_
          rw [show (mh_mv gh (k + 1) p9) (Int32.toNatClampNeg (nI k)) = mh_mv gh (k + 1) p9 k from by rw [nI_clamp (by omega)]]
          refine va_iast hx hb hK.1 hP hD hS 2 1 rfl rfl (vp_in_nI (by omega) (by omega)) d_M_gather_141 (fun H locs hP hD hS => ?_)
          rw [show upd (mh_mv gh (k + 1) p9) (Int32.toNatClampNeg (nI (k + 1))) (mh_mv gh (k + 1) p9 k) = (mh_mv gh k p9) from by rw [nI_clamp (by omega)]; exact mh_mv_s gh k p9 (by omega)] at hP hD
          have hP : va_P D vwC [(h0, .inr (3, mF ad th sg sn hot (nI p9) cx cy fo fv to tv fi ti)), ((ad 5), .inl (E.2.1, 65536, .inl (mh_mv gl k p9))), ((ad 6), .inl (E.2.1, 65536, .inl (mh_mv gh k p9))), ((ad 7), .inl (E.2.1, 65536, .inl (mh_mv go (k + 1) p9)))] H := hP
          have hD : va_D A [(h0, .inr (3, mF ad th sg sn hot (nI p9) cx cy fo fv to tv fi ti)), ((ad 5), .inl (E.2.1, 65536, .inl (mh_mv gl k p9))), ((ad 6), .inl (E.2.1, 65536, .inl (mh_mv gh k p9))), ((ad 7), .inl (E.2.1, 65536, .inl (mh_mv go (k + 1) p9)))] := hD
          refine lv_aload_n hx hb d_M_gather_142 rfl (lv_at hl 0 rfl) ?_
          refine va_get (D := D) (ci := 3) (v := .ref (ad 7)) (C := K_M) (T := F_M) (N := 24) hx hb hG in_M hown hK.1 hP 0 rfl rfl 12 (by decide) (hG _ wd_660) (fun _ h9 => h9) rfl d_M_gather_143 ?_
          refine lv_iload hx hb d_M_gather_146 (lv_at hl 4 rfl) ?_
          refine lv_aload_n hx hb d_M_gather_148 rfl (lv_at hl 0 rfl) ?_
          refine va_get (D := D) (ci := 3) (v := .ref (ad 7)) (C := K_M) (T := F_M) (N := 24) hx hb hG in_M hown hK.1 hP 0 rfl rfl 12 (by decide) (hG _ wd_660) (fun _ h9 => h9) rfl d_M_gather_149 ?_
          refine lv_iload hx hb d_M_gather_152 (lv_at hl 4 rfl) ?_
          refine lv_iconst (v := 1) hx hb d_M_gather_154 (by decide) ?_
          refine lv_isub hx hb d_M_gather_155 ?_
          rw [show (nI (k + 1) - 1) = nI k from nI_pred k]
          refine va_iald hx hb hK.1 hP 3 1 rfl rfl (vp_in_nI (by omega) (by omega)) d_M_gather_156 ?_
          rw [show (mh_mv go (k + 1) p9) (Int32.toNatClampNeg (nI k)) = mh_mv go (k + 1) p9 k from by rw [nI_clamp (by omega)]]
          refine va_iast hx hb hK.1 hP hD hS 3 1 rfl rfl (vp_in_nI (by omega) (by omega)) d_M_gather_157 (fun H locs hP hD hS => ?_)
          rw [show upd (mh_mv go (k + 1) p9) (Int32.toNatClampNeg (nI (k + 1))) (mh_mv go (k + 1) p9 k) = (mh_mv go k p9) from by rw [nI_clamp (by omega)]; exact mh_mv_s go k p9 (by omega)] at hP hD
          have hP : va_P D vwC [(h0, .inr (3, mF ad th sg sn hot (nI p9) cx cy fo fv to tv fi ti)), ((ad 5), .inl (E.2.1, 65536, .inl (mh_mv gl k p9))), ((ad 6), .inl (E.2.1, 65536, .inl (mh_mv gh k p9))), ((ad 7), .inl (E.2.1, 65536, .inl (mh_mv go k p9)))] H := hP
          have hD : va_D A [(h0, .inr (3, mF ad th sg sn hot (nI p9) cx cy fo fv to tv fi ti)), ((ad 5), .inl (E.2.1, 65536, .inl (mh_mv gl k p9))), ((ad 6), .inl (E.2.1, 65536, .inl (mh_mv gh k p9))), ((ad 7), .inl (E.2.1, 65536, .inl (mh_mv go k p9)))] := hD
          refine lv_iinc (v := nI k) (lv' := [(5, .int (nI k)), (0, .ref h0), (1, .int a), (2, .int b), (3, .int (nI L))]) hx hb d_M_gather_158 hl (k := 4) rfl (iinc_m k) (by decide) rfl (fun ls hl => ?_)
          refine lv_goto (tgt := 104) hx hb d_M_gather_161 (by decide) ?_
          exact ih k H locs ls (by omega) (by omega) (by omega) hP hD hS (lv_sub hl [1, 2, 3, 4, 0] rfl)
    refine mv (p9 + 1) p9 _ _ ls (by omega) (by omega) (by omega) (by rw [mh_mv_0, mh_mv_0, mh_mv_0]; exact hP) (by rw [mh_mv_0, mh_mv_0, mh_mv_0]; exact hD) hS (lv_sub hl [1, 2, 3, 4, 0] rfl)
  have bs : ∀ (fu : Nat) (lo : Nat) (hi : Nat) (H : Heap) (locs : List Loc) (ls : Array Slot), (lo ≤ hi) → (hi ≤ p9) → (hi < lo + fu) → (mh_bs gl gh a b fu lo hi = L) → va_P D vwC [(h0, .inr (3, mF ad th sg sn hot (nI p9) cx cy fo fv to tv fi ti)), ((ad 5), .inl (E.2.1, 65536, .inl gl)), ((ad 6), .inl (E.2.1, 65536, .inl gh)), ((ad 7), .inl (E.2.1, 65536, .inl go))] H → va_D A [(h0, .inr (3, mF ad th sg sn hot (nI p9) cx cy fo fv to tv fi ti)), ((ad 5), .inl (E.2.1, 65536, .inl gl)), ((ad 6), .inl (E.2.1, 65536, .inl gh)), ((ad 7), .inl (E.2.1, 65536, .inl go))] → va_S A s.heap H locs → lv_has ls 6 [(0, .ref h0), (1, .int a), (2, .int b), (3, .int (nI lo)), (4, .int (nI hi))] → W p l e ({ frames := 0, cells := 0, slots := 0, locals := 0 } : Room) s m ([.ref h0, .int a, .int b] : List Value).toArray below meth c H locs 0 0 (MQ below (va_Qv (fun (u : Unit) => True) (wB D (fun _ => [(h0, .inr (3, mF ad th sg sn hot (nI T.2.2.2) cx cy fo fv to tv fi ti)), ((ad 5), .inl (E.2.1, 65536, .inl T.1)), ((ad 6), .inl (E.2.1, 65536, .inl T.2.1)), ((ad 7), .inl (E.2.1, 65536, .inl (upd T.2.2.1 L (T.2.2.1 L + 1))))]) A) A) ([.ref h0, .int a, .int b] : List Value).toArray s 0 0 A) (F0 m 8 ls []) := by
    intro fu
    induction fu with
    | zero =>
      intro lo hi H locs ls h1 h2 h3 h4 hP hD hS hl
      omega
    | succ fu ih =>
      intro lo hi H locs ls h1 h2 h3 h4 hP hD hS hl
      rw [mh_bs] at h4
      refine lv_iload_n hx hb d_M_gather_8 rfl (lv_at hl 3 rfl) ?_
      refine lv_iload hx hb d_M_gather_9 (lv_at hl 4 rfl) ?_
      refine lv_icmp_ge (tgt := 70) hx hb d_M_gather_11 (by decide) (fun c1 => ?_) (fun c1 => ?_)
      · have q : ¬ lo < hi := by have := (nI_leI (by omega) (by omega)).mp c1; omega
        rw [if_neg q] at h4
        subst h4
        refine lv_iload_n hx hb d_M_gather_70 rfl (lv_at hl 3 rfl) ?_
        refine lv_aload_n hx hb d_M_gather_71 rfl (lv_at hl 0 rfl) ?_
        refine va_get (D := D) (ci := 3) (v := .int (nI p9)) (C := K_M) (T := F_M) (N := 24) hx hb hG in_M hown hK.1 hP 0 rfl rfl 9 (by decide) (hG _ wd_657) (fun _ h9 => h9) rfl d_M_gather_72 ?_
        refine lv_icmp_eq (tgt := 98) hx hb d_M_gather_75 (by decide) (fun d1 => ?_) (fun d1 => ?_)
        · exact J H locs ls (fun g => by have := (nI_eq (by omega) (by omega)).mp d1; omega) hP hD hS (lv_sub hl [0, 1, 2, 3] rfl)
        · have q1 : lo < p9 := by have : lo ≠ p9 := fun z => d1 (by rw [z]); omega
          refine lv_aload_n hx hb d_M_gather_78 rfl (lv_at hl 0 rfl) ?_
          refine va_get (D := D) (ci := 3) (v := .ref (ad 5)) (C := K_M) (T := F_M) (N := 24) hx hb hG in_M hown hK.1 hP 0 rfl rfl 10 (by decide) (hG _ wd_658) (fun _ h9 => h9) rfl d_M_gather_79 ?_
          refine lv_iload_n hx hb d_M_gather_82 rfl (lv_at hl 3 rfl) ?_
          refine va_iald hx hb hK.1 hP 1 1 rfl rfl (vp_in_nI (by omega) (by omega)) d_M_gather_83 ?_
          rw [show gl (Int32.toNatClampNeg (nI lo)) = gl lo from by rw [nI_clamp (by omega)]]
          refine lv_iload_n hx hb d_M_gather_84 rfl (lv_at hl 1 rfl) ?_
          refine lv_icmp_ne (tgt := 98) hx hb d_M_gather_85 (by decide) (fun d2 => ?_) (fun d2 => ?_)
          · exact J H locs ls (fun g => d2 g.2.1) hP hD hS (lv_sub hl [0, 1, 2, 3] rfl)
          · refine lv_aload_n hx hb d_M_gather_88 rfl (lv_at hl 0 rfl) ?_
            refine va_get (D := D) (ci := 3) (v := .ref (ad 6)) (C := K_M) (T := F_M) (N := 24) hx hb hG in_M hown hK.1 hP 0 rfl rfl 11 (by decide) (hG _ wd_659) (fun _ h9 => h9) rfl d_M_gather_89 ?_
            refine lv_iload_n hx hb d_M_gather_92 rfl (lv_at hl 3 rfl) ?_
            refine va_iald hx hb hK.1 hP 2 1 rfl rfl (vp_in_nI (by omega) (by omega)) d_M_gather_93 ?_
            rw [show gh (Int32.toNatClampNeg (nI lo)) = gh lo from by rw [nI_clamp (by omega)]]
            refine lv_iload_n hx hb d_M_gather_94 rfl (lv_at hl 2 rfl) ?_
            refine lv_icmp_eq (tgt := 195) hx hb d_M_gather_95 (by decide) (fun d3 => ?_) (fun d3 => ?_)
            · rw [if_pos ⟨q1, d2, d3⟩] at hT
              exact Z H locs ls (by rw [hT]; exact ⟨q1, Nat.le_of_lt hp⟩) (by rw [hT]; exact hP) (by rw [hT]; exact hD) hS (lv_sub hl [0, 1, 2, 3] rfl)
            · exact J H locs ls (fun g => d3 g.2.2) hP hD hS (lv_sub hl [0, 1, 2, 3] rfl)
      · have q : lo < hi := by rw [nI_leI (by omega) (by omega)] at c1; omega
        rw [if_pos q] at h4
        refine lv_iload_n hx hb d_M_gather_14 rfl (lv_at hl 3 rfl) ?_
        refine lv_iload hx hb d_M_gather_15 (lv_at hl 4 rfl) ?_
        refine lv_iadd hx hb d_M_gather_17 ?_
        refine lv_iconst (v := 2) hx hb d_M_gather_18 (by decide) ?_
        refine lv_idiv hx hb d_M_gather_19 (by decide) ?_
        rw [nI_half (by omega)]
        refine lv_istore (lv' := [(5, .int (nI ((lo + hi) / 2))), (0, .ref h0), (1, .int a), (2, .int b), (3, .int (nI lo)), (4, .int (nI hi))]) hx hb d_M_gather_20 hl (by decide) rfl (fun ls hl => ?_)
        have UP : ∀ (H : Heap) (locs : List Loc) (ls : Array Slot), (hb_lt (gl ((lo + hi) / 2)) (gh ((lo + hi) / 2)) a b) → va_P D vwC [(h0, .inr (3, mF ad th sg sn hot (nI p9) cx cy fo fv to tv fi ti)), ((ad 5), .inl (E.2.1, 65536, .inl gl)), ((ad 6), .inl (E.2.1, 65536, .inl gh)), ((ad 7), .inl (E.2.1, 65536, .inl go))] H → va_D A [(h0, .inr (3, mF ad th sg sn hot (nI p9) cx cy fo fv to tv fi ti)), ((ad 5), .inl (E.2.1, 65536, .inl gl)), ((ad 6), .inl (E.2.1, 65536, .inl gh)), ((ad 7), .inl (E.2.1, 65536, .inl go))] → va_S A s.heap H locs → lv_has ls 6 [(0, .ref h0), (1, .int a), (2, .int b), (3, .int (nI lo)), (4, .int (nI hi)), (5, .int (nI ((lo + hi) / 2)))] → W p l e ({ frames := 0, cells := 0, slots := 0, locals := 0 } : Room) s m ([.ref h0, .int a, .int b] : List Value).toArray below meth c H locs 0 0 (MQ below (va_Qv (fun (u : Unit) => True) (wB D (fun _ => [(h0, .inr (3, mF ad th sg sn hot (nI T.2.2.2) cx cy fo fv to tv fi ti)), ((ad 5), .inl (E.2.1, 65536, .inl T.1)), ((ad 6), .inl (E.2.1, 65536, .inl T.2.1)), ((ad 7), .inl (E.2.1, 65536, .inl (upd T.2.2.1 L (T.2.2.1 L + 1))))]) A) A) ([.ref h0, .int a, .int b] : List Value).toArray s 0 0 A) (F0 m 55 ls []) := by
          intro H locs ls e hP hD hS hl
          rw [if_pos e] at h4
          refine lv_iload hx hb d_M_gather_55 (lv_at hl 5 rfl) ?_
          refine lv_iconst (v := 1) hx hb d_M_gather_57 (by decide) ?_
          refine lv_iadd hx hb d_M_gather_58 ?_
          rw [show ((nI ((lo + hi) / 2)) + 1) = (nI ((lo + hi) / 2 + 1)) from nI_1 _]
          refine lv_istore_n (lv' := [(3, .int (nI ((lo + hi) / 2 + 1))), (0, .ref h0), (1, .int a), (2, .int b), (4, .int (nI hi)), (5, .int (nI ((lo + hi) / 2)))]) hx hb d_M_gather_59 rfl hl (by decide) rfl (fun ls hl => ?_)
          refine lv_goto (tgt := 67) hx hb d_M_gather_60 (by decide) ?_
          refine lv_goto (tgt := 8) hx hb d_M_gather_67 (by decide) ?_
          exact ih ((lo + hi) / 2 + 1) hi H locs ls (by omega) (by omega) (by omega) h4 hP hD hS (lv_sub hl [1, 2, 3, 0, 4] rfl)
        have DN : ∀ (H : Heap) (locs : List Loc) (ls : Array Slot), (¬ hb_lt (gl ((lo + hi) / 2)) (gh ((lo + hi) / 2)) a b) → va_P D vwC [(h0, .inr (3, mF ad th sg sn hot (nI p9) cx cy fo fv to tv fi ti)), ((ad 5), .inl (E.2.1, 65536, .inl gl)), ((ad 6), .inl (E.2.1, 65536, .inl gh)), ((ad 7), .inl (E.2.1, 65536, .inl go))] H → va_D A [(h0, .inr (3, mF ad th sg sn hot (nI p9) cx cy fo fv to tv fi ti)), ((ad 5), .inl (E.2.1, 65536, .inl gl)), ((ad 6), .inl (E.2.1, 65536, .inl gh)), ((ad 7), .inl (E.2.1, 65536, .inl go))] → va_S A s.heap H locs → lv_has ls 6 [(0, .ref h0), (1, .int a), (2, .int b), (3, .int (nI lo)), (4, .int (nI hi)), (5, .int (nI ((lo + hi) / 2)))] → W p l e ({ frames := 0, cells := 0, slots := 0, locals := 0 } : Room) s m ([.ref h0, .int a, .int b] : List Value).toArray below meth c H locs 0 0 (MQ below (va_Qv (fun (u : Unit) => True) (wB D (fun _ => [(h0, .inr (3, mF ad th sg sn hot (nI T.2.2.2) cx cy fo fv to tv fi ti)), ((ad 5), .inl (E.2.1, 65536, .inl T.1)), ((ad 6), .inl (E.2.1, 65536, .inl T.2.1)), ((ad 7), .inl (E.2.1, 65536, .inl (upd T.2.2.1 L (T.2.2.1 L + 1))))]) A) A) ([.ref h0, .int a, .int b] : List Value).toArray s 0 0 A) (F0 m 63 ls []) := by
          intro H locs ls e hP hD hS hl
          rw [if_neg e] at h4
          refine lv_iload hx hb d_M_gather_63 (lv_at hl 5 rfl) ?_
          refine lv_istore (lv' := [(4, .int (nI ((lo + hi) / 2))), (0, .ref h0), (1, .int a), (2, .int b), (3, .int (nI lo)), (5, .int (nI ((lo + hi) / 2)))]) hx hb d_M_gather_65 hl (by decide) rfl (fun ls hl => ?_)
          refine lv_goto (tgt := 8) hx hb d_M_gather_67 (by decide) ?_
          exact ih lo ((lo + hi) / 2) H locs ls (by omega) (by omega) (by omega) h4 hP hD hS (lv_sub hl [1, 2, 3, 4, 0] rfl)
        refine lv_aload_n hx hb d_M_gather_22 rfl (lv_at hl 1 rfl) ?_
        refine va_get (D := D) (ci := 3) (v := .ref (ad 5)) (C := K_M) (T := F_M) (N := 24) hx hb hG in_M hown hK.1 hP 0 rfl rfl 10 (by decide) (hG _ wd_658) (fun _ h9 => h9) rfl d_M_gather_23 ?_
        refine lv_iload hx hb d_M_gather_26 (lv_at hl 0 rfl) ?_
        refine va_iald hx hb hK.1 hP 1 1 rfl rfl (vp_in_nI (by omega) (by omega)) d_M_gather_28 ?_
        rw [show gl (Int32.toNatClampNeg (nI ((lo + hi) / 2))) = gl ((lo + hi) / 2) from by rw [nI_clamp (by omega)]]
        refine lv_iload_n hx hb d_M_gather_29 rfl (lv_at hl 2 rfl) ?_
        refine lv_icmp_lt (tgt := 55) hx hb d_M_gather_30 (by decide) (fun d1 => ?_) (fun d1 => ?_)
        · exact UP H locs ls (Or.inl d1) hP hD hS (lv_sub hl [1, 2, 3, 4, 5, 0] rfl)
        · refine lv_aload_n hx hb d_M_gather_33 rfl (lv_at hl 1 rfl) ?_
          refine va_get (D := D) (ci := 3) (v := .ref (ad 5)) (C := K_M) (T := F_M) (N := 24) hx hb hG in_M hown hK.1 hP 0 rfl rfl 10 (by decide) (hG _ wd_658) (fun _ h9 => h9) rfl d_M_gather_34 ?_
          refine lv_iload hx hb d_M_gather_37 (lv_at hl 0 rfl) ?_
          refine va_iald hx hb hK.1 hP 1 1 rfl rfl (vp_in_nI (by omega) (by omega)) d_M_gather_39 ?_
          rw [show gl (Int32.toNatClampNeg (nI ((lo + hi) / 2))) = gl ((lo + hi) / 2) from by rw [nI_clamp (by omega)]]
          refine lv_iload_n hx hb d_M_gather_40 rfl (lv_at hl 2 rfl) ?_
          refine lv_icmp_ne (tgt := 63) hx hb d_M_gather_41 (by decide) (fun d2 => ?_) (fun d2 => ?_)
          · exact DN H locs ls (fun g => g.elim d1 (fun g => d2 g.1)) hP hD hS (lv_sub hl [1, 2, 3, 4, 5, 0] rfl)
          · refine lv_aload_n hx hb d_M_gather_44 rfl (lv_at hl 1 rfl) ?_
            refine va_get (D := D) (ci := 3) (v := .ref (ad 6)) (C := K_M) (T := F_M) (N := 24) hx hb hG in_M hown hK.1 hP 0 rfl rfl 11 (by decide) (hG _ wd_659) (fun _ h9 => h9) rfl d_M_gather_45 ?_
            refine lv_iload hx hb d_M_gather_48 (lv_at hl 0 rfl) ?_
            refine va_iald hx hb hK.1 hP 2 1 rfl rfl (vp_in_nI (by omega) (by omega)) d_M_gather_50 ?_
            rw [show gh (Int32.toNatClampNeg (nI ((lo + hi) / 2))) = gh ((lo + hi) / 2) from by rw [nI_clamp (by omega)]]
            refine lv_iload_n hx hb d_M_gather_51 rfl (lv_at hl 3 rfl) ?_
            refine lv_icmp_ge (tgt := 63) hx hb d_M_gather_52 (by decide) (fun d3 => ?_) (fun d3 => ?_)
            · exact DN H locs ls (fun g => g.elim d1 (fun g => absurd d3 (by have := g.2; rw [Int32.le_iff_toInt_le]; rw [Int32.lt_iff_toInt_lt] at this; omega))) hP hD hS (lv_sub hl [1, 2, 3, 4, 5, 0] rfl)
            · exact UP H locs ls (Or.inr ⟨d2, by rw [Int32.le_iff_toInt_le] at d3; rw [Int32.lt_iff_toInt_lt]; omega⟩) hP hD hS (lv_sub hl [1, 2, 3, 4, 5, 0] rfl)
  exact bs (p9 + 1) 0 p9 _ _ ls (Nat.zero_le _) (Nat.le_refl _) (by omega) hL.symm hP hD hS (lv_sub hl [2, 3, 4, 1, 0] rfl)
