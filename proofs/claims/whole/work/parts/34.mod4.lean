theorem d_M_cross_0 : decode c_M_cross 0 = .ok (.aload_n 0, 1) := by decide +kernel
theorem d_M_cross_1 : decode c_M_cross 1 = .ok (.iload_n 1, 1) := by decide +kernel
theorem d_M_cross_2 : decode c_M_cross 2 = .ok (.iconst 2, 1) := by decide +kernel
theorem d_M_cross_3 : decode c_M_cross 3 = .ok (.invokevirtual 122, 3) := by decide +kernel
theorem d_M_cross_6 : decode c_M_cross 6 = .ok (.aload_n 0, 1) := by decide +kernel
theorem d_M_cross_7 : decode c_M_cross 7 = .ok (.iload_n 1, 1) := by decide +kernel
theorem d_M_cross_8 : decode c_M_cross 8 = .ok (.iconst 0, 1) := by decide +kernel
theorem d_M_cross_9 : decode c_M_cross 9 = .ok (.invokevirtual 122, 3) := by decide +kernel
theorem d_M_cross_12 : decode c_M_cross 12 = .ok (.lsub, 1) := by decide +kernel
theorem d_M_cross_13 : decode c_M_cross 13 = .ok (.lstore_n 3, 1) := by decide +kernel
theorem d_M_cross_14 : decode c_M_cross 14 = .ok (.aload_n 0, 1) := by decide +kernel
theorem d_M_cross_15 : decode c_M_cross 15 = .ok (.iload_n 1, 1) := by decide +kernel
theorem d_M_cross_16 : decode c_M_cross 16 = .ok (.iconst 3, 1) := by decide +kernel
theorem d_M_cross_17 : decode c_M_cross 17 = .ok (.invokevirtual 122, 3) := by decide +kernel
theorem d_M_cross_20 : decode c_M_cross 20 = .ok (.aload_n 0, 1) := by decide +kernel
theorem d_M_cross_21 : decode c_M_cross 21 = .ok (.iload_n 1, 1) := by decide +kernel
theorem d_M_cross_22 : decode c_M_cross 22 = .ok (.iconst 1, 1) := by decide +kernel
theorem d_M_cross_23 : decode c_M_cross 23 = .ok (.invokevirtual 122, 3) := by decide +kernel
theorem d_M_cross_26 : decode c_M_cross 26 = .ok (.lsub, 1) := by decide +kernel
theorem d_M_cross_27 : decode c_M_cross 27 = .ok (.lstore 5, 2) := by decide +kernel
theorem d_M_cross_29 : decode c_M_cross 29 = .ok (.aload_n 0, 1) := by decide +kernel
theorem d_M_cross_30 : decode c_M_cross 30 = .ok (.iload_n 2, 1) := by decide +kernel
theorem d_M_cross_31 : decode c_M_cross 31 = .ok (.iconst 2, 1) := by decide +kernel
theorem d_M_cross_32 : decode c_M_cross 32 = .ok (.invokevirtual 122, 3) := by decide +kernel
theorem d_M_cross_35 : decode c_M_cross 35 = .ok (.aload_n 0, 1) := by decide +kernel
theorem d_M_cross_36 : decode c_M_cross 36 = .ok (.iload_n 2, 1) := by decide +kernel
theorem d_M_cross_37 : decode c_M_cross 37 = .ok (.iconst 0, 1) := by decide +kernel
theorem d_M_cross_38 : decode c_M_cross 38 = .ok (.invokevirtual 122, 3) := by decide +kernel
theorem d_M_cross_41 : decode c_M_cross 41 = .ok (.lsub, 1) := by decide +kernel
theorem d_M_cross_42 : decode c_M_cross 42 = .ok (.lstore 7, 2) := by decide +kernel
theorem d_M_cross_44 : decode c_M_cross 44 = .ok (.aload_n 0, 1) := by decide +kernel
theorem d_M_cross_45 : decode c_M_cross 45 = .ok (.iload_n 2, 1) := by decide +kernel
theorem d_M_cross_46 : decode c_M_cross 46 = .ok (.iconst 3, 1) := by decide +kernel
theorem d_M_cross_47 : decode c_M_cross 47 = .ok (.invokevirtual 122, 3) := by decide +kernel
theorem d_M_cross_50 : decode c_M_cross 50 = .ok (.aload_n 0, 1) := by decide +kernel
theorem d_M_cross_51 : decode c_M_cross 51 = .ok (.iload_n 2, 1) := by decide +kernel
theorem d_M_cross_52 : decode c_M_cross 52 = .ok (.iconst 1, 1) := by decide +kernel
theorem d_M_cross_53 : decode c_M_cross 53 = .ok (.invokevirtual 122, 3) := by decide +kernel
theorem d_M_cross_56 : decode c_M_cross 56 = .ok (.lsub, 1) := by decide +kernel
theorem d_M_cross_57 : decode c_M_cross 57 = .ok (.lstore 9, 2) := by decide +kernel
theorem d_M_cross_59 : decode c_M_cross 59 = .ok (.aload_n 0, 1) := by decide +kernel
theorem d_M_cross_60 : decode c_M_cross 60 = .ok (.iload_n 2, 1) := by decide +kernel
theorem d_M_cross_61 : decode c_M_cross 61 = .ok (.iconst 0, 1) := by decide +kernel
theorem d_M_cross_62 : decode c_M_cross 62 = .ok (.invokevirtual 122, 3) := by decide +kernel
theorem d_M_cross_65 : decode c_M_cross 65 = .ok (.aload_n 0, 1) := by decide +kernel
theorem d_M_cross_66 : decode c_M_cross 66 = .ok (.iload_n 1, 1) := by decide +kernel
theorem d_M_cross_67 : decode c_M_cross 67 = .ok (.iconst 0, 1) := by decide +kernel
theorem d_M_cross_68 : decode c_M_cross 68 = .ok (.invokevirtual 122, 3) := by decide +kernel
theorem d_M_cross_71 : decode c_M_cross 71 = .ok (.lsub, 1) := by decide +kernel
theorem d_M_cross_72 : decode c_M_cross 72 = .ok (.lstore 11, 2) := by decide +kernel
theorem d_M_cross_74 : decode c_M_cross 74 = .ok (.aload_n 0, 1) := by decide +kernel
theorem d_M_cross_75 : decode c_M_cross 75 = .ok (.iload_n 2, 1) := by decide +kernel
theorem d_M_cross_76 : decode c_M_cross 76 = .ok (.iconst 1, 1) := by decide +kernel
theorem d_M_cross_77 : decode c_M_cross 77 = .ok (.invokevirtual 122, 3) := by decide +kernel
theorem d_M_cross_80 : decode c_M_cross 80 = .ok (.aload_n 0, 1) := by decide +kernel
theorem d_M_cross_81 : decode c_M_cross 81 = .ok (.iload_n 1, 1) := by decide +kernel
theorem d_M_cross_82 : decode c_M_cross 82 = .ok (.iconst 1, 1) := by decide +kernel
theorem d_M_cross_83 : decode c_M_cross 83 = .ok (.invokevirtual 122, 3) := by decide +kernel
theorem d_M_cross_86 : decode c_M_cross 86 = .ok (.lsub, 1) := by decide +kernel
theorem d_M_cross_87 : decode c_M_cross 87 = .ok (.lstore 13, 2) := by decide +kernel
theorem d_M_cross_89 : decode c_M_cross 89 = .ok (.lload_n 3, 1) := by decide +kernel
theorem d_M_cross_90 : decode c_M_cross 90 = .ok (.lload 9, 2) := by decide +kernel
theorem d_M_cross_92 : decode c_M_cross 92 = .ok (.lmul, 1) := by decide +kernel
theorem d_M_cross_93 : decode c_M_cross 93 = .ok (.lload 5, 2) := by decide +kernel
theorem d_M_cross_95 : decode c_M_cross 95 = .ok (.lload 7, 2) := by decide +kernel
theorem d_M_cross_97 : decode c_M_cross 97 = .ok (.lmul, 1) := by decide +kernel
theorem d_M_cross_98 : decode c_M_cross 98 = .ok (.lsub, 1) := by decide +kernel
theorem d_M_cross_99 : decode c_M_cross 99 = .ok (.lstore 15, 2) := by decide +kernel
theorem d_M_cross_101 : decode c_M_cross 101 = .ok (.lload 11, 2) := by decide +kernel
theorem d_M_cross_103 : decode c_M_cross 103 = .ok (.lload 9, 2) := by decide +kernel
theorem d_M_cross_105 : decode c_M_cross 105 = .ok (.lmul, 1) := by decide +kernel
theorem d_M_cross_106 : decode c_M_cross 106 = .ok (.lload 13, 2) := by decide +kernel
theorem d_M_cross_108 : decode c_M_cross 108 = .ok (.lload 7, 2) := by decide +kernel
theorem d_M_cross_110 : decode c_M_cross 110 = .ok (.lmul, 1) := by decide +kernel
theorem d_M_cross_111 : decode c_M_cross 111 = .ok (.lsub, 1) := by decide +kernel
theorem d_M_cross_112 : decode c_M_cross 112 = .ok (.lstore 17, 2) := by decide +kernel
theorem d_M_cross_114 : decode c_M_cross 114 = .ok (.lload 11, 2) := by decide +kernel
theorem d_M_cross_116 : decode c_M_cross 116 = .ok (.lload 5, 2) := by decide +kernel
theorem d_M_cross_118 : decode c_M_cross 118 = .ok (.lmul, 1) := by decide +kernel
theorem d_M_cross_119 : decode c_M_cross 119 = .ok (.lload 13, 2) := by decide +kernel
theorem d_M_cross_121 : decode c_M_cross 121 = .ok (.lload_n 3, 1) := by decide +kernel
theorem d_M_cross_122 : decode c_M_cross 122 = .ok (.lmul, 1) := by decide +kernel
theorem d_M_cross_123 : decode c_M_cross 123 = .ok (.lsub, 1) := by decide +kernel
theorem d_M_cross_124 : decode c_M_cross 124 = .ok (.lstore 19, 2) := by decide +kernel
theorem d_M_cross_126 : decode c_M_cross 126 = .ok (.lload 15, 2) := by decide +kernel
theorem d_M_cross_128 : decode c_M_cross 128 = .ok (.lconst 0, 1) := by decide +kernel
theorem d_M_cross_129 : decode c_M_cross 129 = .ok (.lcmp, 1) := by decide +kernel
theorem d_M_cross_130 : decode c_M_cross 130 = .ok (.ifCond .ge 18, 3) := by decide +kernel
theorem d_M_cross_133 : decode c_M_cross 133 = .ok (.lload 15, 2) := by decide +kernel
theorem d_M_cross_135 : decode c_M_cross 135 = .ok (.lneg, 1) := by decide +kernel
theorem d_M_cross_136 : decode c_M_cross 136 = .ok (.lstore 15, 2) := by decide +kernel
theorem d_M_cross_138 : decode c_M_cross 138 = .ok (.lload 17, 2) := by decide +kernel
theorem d_M_cross_140 : decode c_M_cross 140 = .ok (.lneg, 1) := by decide +kernel
theorem d_M_cross_141 : decode c_M_cross 141 = .ok (.lstore 17, 2) := by decide +kernel
theorem d_M_cross_143 : decode c_M_cross 143 = .ok (.lload 19, 2) := by decide +kernel
theorem d_M_cross_145 : decode c_M_cross 145 = .ok (.lneg, 1) := by decide +kernel
theorem d_M_cross_146 : decode c_M_cross 146 = .ok (.lstore 19, 2) := by decide +kernel
theorem d_M_cross_148 : decode c_M_cross 148 = .ok (.lload 17, 2) := by decide +kernel
theorem d_M_cross_150 : decode c_M_cross 150 = .ok (.lconst 0, 1) := by decide +kernel
theorem d_M_cross_151 : decode c_M_cross 151 = .ok (.lcmp, 1) := by decide +kernel
theorem d_M_cross_152 : decode c_M_cross 152 = .ok (.ifCond .le 26, 3) := by decide +kernel
theorem d_M_cross_155 : decode c_M_cross 155 = .ok (.lload 17, 2) := by decide +kernel
theorem d_M_cross_157 : decode c_M_cross 157 = .ok (.lload 15, 2) := by decide +kernel
theorem d_M_cross_159 : decode c_M_cross 159 = .ok (.lcmp, 1) := by decide +kernel
theorem d_M_cross_160 : decode c_M_cross 160 = .ok (.ifCond .ge 18, 3) := by decide +kernel
theorem d_M_cross_163 : decode c_M_cross 163 = .ok (.lload 19, 2) := by decide +kernel
theorem d_M_cross_165 : decode c_M_cross 165 = .ok (.lconst 0, 1) := by decide +kernel
theorem d_M_cross_166 : decode c_M_cross 166 = .ok (.lcmp, 1) := by decide +kernel
theorem d_M_cross_167 : decode c_M_cross 167 = .ok (.ifCond .le 11, 3) := by decide +kernel
theorem d_M_cross_170 : decode c_M_cross 170 = .ok (.lload 19, 2) := by decide +kernel
theorem d_M_cross_172 : decode c_M_cross 172 = .ok (.lload 15, 2) := by decide +kernel
theorem d_M_cross_174 : decode c_M_cross 174 = .ok (.lcmp, 1) := by decide +kernel
theorem d_M_cross_175 : decode c_M_cross 175 = .ok (.ifCond .lt 5, 3) := by decide +kernel
theorem d_M_cross_178 : decode c_M_cross 178 = .ok (.iconst 0, 1) := by decide +kernel
theorem d_M_cross_179 : decode c_M_cross 179 = .ok (.ireturn, 1) := by decide +kernel
theorem d_M_cross_180 : decode c_M_cross 180 = .ok (.aload_n 0, 1) := by decide +kernel
theorem d_M_cross_181 : decode c_M_cross 181 = .ok (.aload_n 0, 1) := by decide +kernel
theorem d_M_cross_182 : decode c_M_cross 182 = .ok (.iload_n 1, 1) := by decide +kernel
theorem d_M_cross_183 : decode c_M_cross 183 = .ok (.iconst 0, 1) := by decide +kernel
theorem d_M_cross_184 : decode c_M_cross 184 = .ok (.invokevirtual 122, 3) := by decide +kernel
theorem d_M_cross_187 : decode c_M_cross 187 = .ok (.lload_n 3, 1) := by decide +kernel
theorem d_M_cross_188 : decode c_M_cross 188 = .ok (.lload 17, 2) := by decide +kernel
theorem d_M_cross_190 : decode c_M_cross 190 = .ok (.lload 15, 2) := by decide +kernel
theorem d_M_cross_192 : decode c_M_cross 192 = .ok (.invokestatic 126, 3) := by decide +kernel
theorem d_M_cross_195 : decode c_M_cross 195 = .ok (.ladd, 1) := by decide +kernel
theorem d_M_cross_196 : decode c_M_cross 196 = .ok (.l2i, 1) := by decide +kernel
theorem d_M_cross_197 : decode c_M_cross 197 = .ok (.putfield 130, 3) := by decide +kernel
theorem d_M_cross_200 : decode c_M_cross 200 = .ok (.aload_n 0, 1) := by decide +kernel
theorem d_M_cross_201 : decode c_M_cross 201 = .ok (.aload_n 0, 1) := by decide +kernel
theorem d_M_cross_202 : decode c_M_cross 202 = .ok (.iload_n 1, 1) := by decide +kernel
theorem d_M_cross_203 : decode c_M_cross 203 = .ok (.iconst 1, 1) := by decide +kernel
theorem d_M_cross_204 : decode c_M_cross 204 = .ok (.invokevirtual 122, 3) := by decide +kernel
theorem d_M_cross_207 : decode c_M_cross 207 = .ok (.lload 5, 2) := by decide +kernel
theorem d_M_cross_209 : decode c_M_cross 209 = .ok (.lload 17, 2) := by decide +kernel
theorem d_M_cross_211 : decode c_M_cross 211 = .ok (.lload 15, 2) := by decide +kernel
theorem d_M_cross_213 : decode c_M_cross 213 = .ok (.invokestatic 126, 3) := by decide +kernel
theorem d_M_cross_216 : decode c_M_cross 216 = .ok (.ladd, 1) := by decide +kernel
theorem d_M_cross_217 : decode c_M_cross 217 = .ok (.l2i, 1) := by decide +kernel
theorem d_M_cross_218 : decode c_M_cross 218 = .ok (.putfield 133, 3) := by decide +kernel
theorem d_M_cross_221 : decode c_M_cross 221 = .ok (.iconst 1, 1) := by decide +kernel
theorem d_M_cross_222 : decode c_M_cross 222 = .ok (.ireturn, 1) := by decide +kernel
noncomputable section
set_option maxHeartbeats 4000000 in
set_option maxRecDepth 100000 in
theorem k_M_cross (l : Launch) (D : va_G) (E : ClassId × ClassId × ClassId × ClassId) (h0 sz : Nat) (ad : Nat → Nat) (th sg sn hot pc cx cy : Int32) (fo fv to tv : Int64) (fi ti : Int32) (e9 : Nat → Int32) (k j : Nat) (hk : 4 * k + 3 < 8192) (hj : 4 * j + 3 < 8192) (bk : bnd (mq e9 k)) (bj : bnd (mq e9 j)) : Met l y_M_cross (.code y_M_cross c_M_cross 21 (some .boolean) :: gw) ({ frames := 1, cells := 0, slots := 0, locals := 36 } : Room) (wP D E [(h0, .inr (3, mF ad th sg sn hot pc cx cy fo fv to tv fi ti)), ((ad 0), .inl (E.2.1, 8192, .inl e9))] sz [.ref h0, .int (nI k), .int (nI j)]) (va_Qi (fun (r : Int32) (u : Int32 × Int32) => r = b01 (mx_ok (mq e9 k) (mq e9 j)) ∧ (mx_ok (mq e9 k) (mq e9 j) → u = (mx_x (mq e9 k) (mq e9 j), mx_y (mq e9 k) (mq e9 j)))) (wB D (fun u => [(h0, .inr (3, mF ad th sg sn hot pc u.1 u.2 fo fv to tv fi ti)), ((ad 0), .inl (E.2.1, 8192, .inl e9))]) (va_A [(h0, .inr (3, mF ad th sg sn hot pc cx cy fo fv to tv fi ti)), ((ad 0), .inl (E.2.1, 8192, .inl e9))] sz)) (va_A [(h0, .inr (3, mF ad th sg sn hot pc cx cy fo fv to tv fi ti)), ((ad 0), .inl (E.2.1, 8192, .inl e9))] sz)) 0 0 (va_A [(h0, .inr (3, mF ad th sg sn hot pc cx cy fo fv to tv fi ti)), ((ad 0), .inl (E.2.1, 8192, .inl e9))] sz) := by
  refine wr_ofW (Qc := fun A => (va_Qi (fun (r : Int32) (u : Int32 × Int32) => r = b01 (mx_ok (mq e9 k) (mq e9 j)) ∧ (mx_ok (mq e9 k) (mq e9 j) → u = (mx_x (mq e9 k) (mq e9 j), mx_y (mq e9 k) (mq e9 j)))) (wB D (fun u => [(h0, .inr (3, mF ad th sg sn hot pc u.1 u.2 fo fv to tv fi ti)), ((ad 0), .inl (E.2.1, 8192, .inl e9))]) A) A)) (by decide) (Nat.le_of_ble_eq_true rfl) ?_
  intro p e s m below meth c B hP hK A hA hD hS ls hl
  obtain ⟨hx, hb, hrt, hml, hown, hts, hG, hlocks, hin⟩ := B
  have hl : lv_has ls 21 [(0, .ref h0), (1, .int (nI k)), (2, .int (nI j))] := hl
  obtain ⟨q, hq⟩ : ∃ q, q = mq e9 k := ⟨_, rfl⟩
  obtain ⟨o, ho⟩ : ∃ q, q = mq e9 j := ⟨_, rfl⟩
  rw [← hq] at bk
  rw [← ho] at bj
  rw [← hq, ← ho]
  refine lv_aload_n hx hb d_M_cross_0 rfl (lv_at hl 0 rfl) ?_
  refine lv_iload_n hx hb d_M_cross_1 rfl (lv_at hl 1 rfl) ?_
  refine lv_iconst (v := 2) hx hb d_M_cross_2 (by decide) ?_
  have hPc := hP.sub (ws' := [(h0, .inr (3, mF ad th sg sn hot pc cx cy fo fv to tv fi ti)), ((ad 0), .inl (E.2.1, 8192, .inl e9))]) [0, 1] rfl
  refine vp_callSl (W.runV (As := [.int (nI k), .int 2]) (rest := []) ⟨hx, hb, hml, hown, hts⟩ (k_M_end l D E h0 ad th sg sn hot pc cx cy fo fv to tv fi ti e9 k 2 hk (by omega)) (cwV 2 hts (gw_gv wd_787 wd_789 wd_29 wd_42 wd_790) rfl rfl rfl (by decide +kernel) ⟨Nat.le_of_ble_eq_true rfl, Nat.le_of_ble_eq_true rfl⟩) (rP_V 0 hPc hK rfl rfl) rfl rfl hl.1 rfl (lv_room (Nat.le_of_ble_eq_true rfl)) d_M_cross_3 ⟨Nat.le_of_ble_eq_true rfl, Nat.le_of_ble_eq_true rfl⟩) (fun r1 hr1 => ?_)
  obtain rfl : r1 = su q := by rw [hr1, hq]; rfl
  refine lv_aload_n hx hb d_M_cross_6 rfl (lv_at hl 0 rfl) ?_
  refine lv_iload_n hx hb d_M_cross_7 rfl (lv_at hl 1 rfl) ?_
  refine lv_iconst (v := 0) hx hb d_M_cross_8 (by decide) ?_
  have hPc := hP.sub (ws' := [(h0, .inr (3, mF ad th sg sn hot pc cx cy fo fv to tv fi ti)), ((ad 0), .inl (E.2.1, 8192, .inl e9))]) [0, 1] rfl
  refine vp_callSl (W.runV (As := [.int (nI k), .int 0]) (rest := [.long (su q)]) ⟨hx, hb, hml, hown, hts⟩ (k_M_end l D E h0 ad th sg sn hot pc cx cy fo fv to tv fi ti e9 k 0 hk (by omega)) (cwV 2 hts (gw_gv wd_787 wd_789 wd_29 wd_42 wd_790) rfl rfl rfl (by decide +kernel) ⟨Nat.le_of_ble_eq_true rfl, Nat.le_of_ble_eq_true rfl⟩) (rP_V 0 hPc hK rfl rfl) rfl rfl hl.1 rfl (lv_room (Nat.le_of_ble_eq_true rfl)) d_M_cross_9 ⟨Nat.le_of_ble_eq_true rfl, Nat.le_of_ble_eq_true rfl⟩) (fun r2 hr2 => ?_)
  obtain rfl : r2 = sx q := by rw [hr2, hq]; rfl
  refine lv_lsub hx hb d_M_cross_12 ?_
  rw [show ((su q) - (sx q)) = (swx q) from rfl]
  refine lv_lstore_n (lv' := [(3, .long (swx q)), (0, .ref h0), (1, .int (nI k)), (2, .int (nI j))]) hx hb d_M_cross_13 rfl hl (by decide) rfl (fun ls hl => ?_)
  refine lv_aload_n hx hb d_M_cross_14 rfl (lv_at hl 1 rfl) ?_
  refine lv_iload_n hx hb d_M_cross_15 rfl (lv_at hl 2 rfl) ?_
  refine lv_iconst (v := 3) hx hb d_M_cross_16 (by decide) ?_
  have hPc := hP.sub (ws' := [(h0, .inr (3, mF ad th sg sn hot pc cx cy fo fv to tv fi ti)), ((ad 0), .inl (E.2.1, 8192, .inl e9))]) [0, 1] rfl
  refine vp_callSl (W.runV (As := [.int (nI k), .int 3]) (rest := []) ⟨hx, hb, hml, hown, hts⟩ (k_M_end l D E h0 ad th sg sn hot pc cx cy fo fv to tv fi ti e9 k 3 hk (by omega)) (cwV 2 hts (gw_gv wd_787 wd_789 wd_29 wd_42 wd_790) rfl rfl rfl (by decide +kernel) ⟨Nat.le_of_ble_eq_true rfl, Nat.le_of_ble_eq_true rfl⟩) (rP_V 0 hPc hK rfl rfl) rfl rfl hl.1 rfl (lv_room (Nat.le_of_ble_eq_true rfl)) d_M_cross_17 ⟨Nat.le_of_ble_eq_true rfl, Nat.le_of_ble_eq_true rfl⟩) (fun r3 hr3 => ?_)
  obtain rfl : r3 = sv q := by rw [hr3, hq]; rfl
  refine lv_aload_n hx hb d_M_cross_20 rfl (lv_at hl 1 rfl) ?_
  refine lv_iload_n hx hb d_M_cross_21 rfl (lv_at hl 2 rfl) ?_
  refine lv_iconst (v := 1) hx hb d_M_cross_22 (by decide) ?_
  have hPc := hP.sub (ws' := [(h0, .inr (3, mF ad th sg sn hot pc cx cy fo fv to tv fi ti)), ((ad 0), .inl (E.2.1, 8192, .inl e9))]) [0, 1] rfl
  refine vp_callSl (W.runV (As := [.int (nI k), .int 1]) (rest := [.long (sv q)]) ⟨hx, hb, hml, hown, hts⟩ (k_M_end l D E h0 ad th sg sn hot pc cx cy fo fv to tv fi ti e9 k 1 hk (by omega)) (cwV 2 hts (gw_gv wd_787 wd_789 wd_29 wd_42 wd_790) rfl rfl rfl (by decide +kernel) ⟨Nat.le_of_ble_eq_true rfl, Nat.le_of_ble_eq_true rfl⟩) (rP_V 0 hPc hK rfl rfl) rfl rfl hl.1 rfl (lv_room (Nat.le_of_ble_eq_true rfl)) d_M_cross_23 ⟨Nat.le_of_ble_eq_true rfl, Nat.le_of_ble_eq_true rfl⟩) (fun r4 hr4 => ?_)
  obtain rfl : r4 = sy q := by rw [hr4, hq]; rfl
  refine lv_lsub hx hb d_M_cross_26 ?_
  rw [show ((sv q) - (sy q)) = (swy q) from rfl]
  refine lv_lstore (lv' := [(5, .long (swy q)), (3, .long (swx q)), (0, .ref h0), (1, .int (nI k)), (2, .int (nI j))]) hx hb d_M_cross_27 hl (by decide) rfl (fun ls hl => ?_)
  refine lv_aload_n hx hb d_M_cross_29 rfl (lv_at hl 2 rfl) ?_
  refine lv_iload_n hx hb d_M_cross_30 rfl (lv_at hl 4 rfl) ?_
  refine lv_iconst (v := 2) hx hb d_M_cross_31 (by decide) ?_
  have hPc := hP.sub (ws' := [(h0, .inr (3, mF ad th sg sn hot pc cx cy fo fv to tv fi ti)), ((ad 0), .inl (E.2.1, 8192, .inl e9))]) [0, 1] rfl
  refine vp_callSl (W.runV (As := [.int (nI j), .int 2]) (rest := []) ⟨hx, hb, hml, hown, hts⟩ (k_M_end l D E h0 ad th sg sn hot pc cx cy fo fv to tv fi ti e9 j 2 hj (by omega)) (cwV 2 hts (gw_gv wd_787 wd_789 wd_29 wd_42 wd_790) rfl rfl rfl (by decide +kernel) ⟨Nat.le_of_ble_eq_true rfl, Nat.le_of_ble_eq_true rfl⟩) (rP_V 0 hPc hK rfl rfl) rfl rfl hl.1 rfl (lv_room (Nat.le_of_ble_eq_true rfl)) d_M_cross_32 ⟨Nat.le_of_ble_eq_true rfl, Nat.le_of_ble_eq_true rfl⟩) (fun r5 hr5 => ?_)
  obtain rfl : r5 = su o := by rw [hr5, ho]; rfl
  refine lv_aload_n hx hb d_M_cross_35 rfl (lv_at hl 2 rfl) ?_
  refine lv_iload_n hx hb d_M_cross_36 rfl (lv_at hl 4 rfl) ?_
  refine lv_iconst (v := 0) hx hb d_M_cross_37 (by decide) ?_
  have hPc := hP.sub (ws' := [(h0, .inr (3, mF ad th sg sn hot pc cx cy fo fv to tv fi ti)), ((ad 0), .inl (E.2.1, 8192, .inl e9))]) [0, 1] rfl
  refine vp_callSl (W.runV (As := [.int (nI j), .int 0]) (rest := [.long (su o)]) ⟨hx, hb, hml, hown, hts⟩ (k_M_end l D E h0 ad th sg sn hot pc cx cy fo fv to tv fi ti e9 j 0 hj (by omega)) (cwV 2 hts (gw_gv wd_787 wd_789 wd_29 wd_42 wd_790) rfl rfl rfl (by decide +kernel) ⟨Nat.le_of_ble_eq_true rfl, Nat.le_of_ble_eq_true rfl⟩) (rP_V 0 hPc hK rfl rfl) rfl rfl hl.1 rfl (lv_room (Nat.le_of_ble_eq_true rfl)) d_M_cross_38 ⟨Nat.le_of_ble_eq_true rfl, Nat.le_of_ble_eq_true rfl⟩) (fun r6 hr6 => ?_)
  obtain rfl : r6 = sx o := by rw [hr6, ho]; rfl
  refine lv_lsub hx hb d_M_cross_41 ?_
  rw [show ((su o) - (sx o)) = (swx o) from rfl]
  refine lv_lstore (lv' := [(7, .long (swx o)), (5, .long (swy q)), (3, .long (swx q)), (0, .ref h0), (1, .int (nI k)), (2, .int (nI j))]) hx hb d_M_cross_42 hl (by decide) rfl (fun ls hl => ?_)
  refine lv_aload_n hx hb d_M_cross_44 rfl (lv_at hl 3 rfl) ?_
  refine lv_iload_n hx hb d_M_cross_45 rfl (lv_at hl 5 rfl) ?_
  refine lv_iconst (v := 3) hx hb d_M_cross_46 (by decide) ?_
  have hPc := hP.sub (ws' := [(h0, .inr (3, mF ad th sg sn hot pc cx cy fo fv to tv fi ti)), ((ad 0), .inl (E.2.1, 8192, .inl e9))]) [0, 1] rfl
  refine vp_callSl (W.runV (As := [.int (nI j), .int 3]) (rest := []) ⟨hx, hb, hml, hown, hts⟩ (k_M_end l D E h0 ad th sg sn hot pc cx cy fo fv to tv fi ti e9 j 3 hj (by omega)) (cwV 2 hts (gw_gv wd_787 wd_789 wd_29 wd_42 wd_790) rfl rfl rfl (by decide +kernel) ⟨Nat.le_of_ble_eq_true rfl, Nat.le_of_ble_eq_true rfl⟩) (rP_V 0 hPc hK rfl rfl) rfl rfl hl.1 rfl (lv_room (Nat.le_of_ble_eq_true rfl)) d_M_cross_47 ⟨Nat.le_of_ble_eq_true rfl, Nat.le_of_ble_eq_true rfl⟩) (fun r7 hr7 => ?_)
  obtain rfl : r7 = sv o := by rw [hr7, ho]; rfl
  refine lv_aload_n hx hb d_M_cross_50 rfl (lv_at hl 3 rfl) ?_
  refine lv_iload_n hx hb d_M_cross_51 rfl (lv_at hl 5 rfl) ?_
  refine lv_iconst (v := 1) hx hb d_M_cross_52 (by decide) ?_
  have hPc := hP.sub (ws' := [(h0, .inr (3, mF ad th sg sn hot pc cx cy fo fv to tv fi ti)), ((ad 0), .inl (E.2.1, 8192, .inl e9))]) [0, 1] rfl
  refine vp_callSl (W.runV (As := [.int (nI j), .int 1]) (rest := [.long (sv o)]) ⟨hx, hb, hml, hown, hts⟩ (k_M_end l D E h0 ad th sg sn hot pc cx cy fo fv to tv fi ti e9 j 1 hj (by omega)) (cwV 2 hts (gw_gv wd_787 wd_789 wd_29 wd_42 wd_790) rfl rfl rfl (by decide +kernel) ⟨Nat.le_of_ble_eq_true rfl, Nat.le_of_ble_eq_true rfl⟩) (rP_V 0 hPc hK rfl rfl) rfl rfl hl.1 rfl (lv_room (Nat.le_of_ble_eq_true rfl)) d_M_cross_53 ⟨Nat.le_of_ble_eq_true rfl, Nat.le_of_ble_eq_true rfl⟩) (fun r8 hr8 => ?_)
  obtain rfl : r8 = sy o := by rw [hr8, ho]; rfl
  refine lv_lsub hx hb d_M_cross_56 ?_
  rw [show ((sv o) - (sy o)) = (swy o) from rfl]
  refine lv_lstore (lv' := [(9, .long (swy o)), (7, .long (swx o)), (5, .long (swy q)), (3, .long (swx q)), (0, .ref h0), (1, .int (nI k)), (2, .int (nI j))]) hx hb d_M_cross_57 hl (by decide) rfl (fun ls hl => ?_)
  refine lv_aload_n hx hb d_M_cross_59 rfl (lv_at hl 4 rfl) ?_
  refine lv_iload_n hx hb d_M_cross_60 rfl (lv_at hl 6 rfl) ?_
  refine lv_iconst (v := 0) hx hb d_M_cross_61 (by decide) ?_
  have hPc := hP.sub (ws' := [(h0, .inr (3, mF ad th sg sn hot pc cx cy fo fv to tv fi ti)), ((ad 0), .inl (E.2.1, 8192, .inl e9))]) [0, 1] rfl
  refine vp_callSl (W.runV (As := [.int (nI j), .int 0]) (rest := []) ⟨hx, hb, hml, hown, hts⟩ (k_M_end l D E h0 ad th sg sn hot pc cx cy fo fv to tv fi ti e9 j 0 hj (by omega)) (cwV 2 hts (gw_gv wd_787 wd_789 wd_29 wd_42 wd_790) rfl rfl rfl (by decide +kernel) ⟨Nat.le_of_ble_eq_true rfl, Nat.le_of_ble_eq_true rfl⟩) (rP_V 0 hPc hK rfl rfl) rfl rfl hl.1 rfl (lv_room (Nat.le_of_ble_eq_true rfl)) d_M_cross_62 ⟨Nat.le_of_ble_eq_true rfl, Nat.le_of_ble_eq_true rfl⟩) (fun r9 hr9 => ?_)
  obtain rfl : r9 = sx o := by rw [hr9, ho]; rfl
  refine lv_aload_n hx hb d_M_cross_65 rfl (lv_at hl 4 rfl) ?_
  refine lv_iload_n hx hb d_M_cross_66 rfl (lv_at hl 5 rfl) ?_
  refine lv_iconst (v := 0) hx hb d_M_cross_67 (by decide) ?_
  have hPc := hP.sub (ws' := [(h0, .inr (3, mF ad th sg sn hot pc cx cy fo fv to tv fi ti)), ((ad 0), .inl (E.2.1, 8192, .inl e9))]) [0, 1] rfl
  refine vp_callSl (W.runV (As := [.int (nI k), .int 0]) (rest := [.long (sx o)]) ⟨hx, hb, hml, hown, hts⟩ (k_M_end l D E h0 ad th sg sn hot pc cx cy fo fv to tv fi ti e9 k 0 hk (by omega)) (cwV 2 hts (gw_gv wd_787 wd_789 wd_29 wd_42 wd_790) rfl rfl rfl (by decide +kernel) ⟨Nat.le_of_ble_eq_true rfl, Nat.le_of_ble_eq_true rfl⟩) (rP_V 0 hPc hK rfl rfl) rfl rfl hl.1 rfl (lv_room (Nat.le_of_ble_eq_true rfl)) d_M_cross_68 ⟨Nat.le_of_ble_eq_true rfl, Nat.le_of_ble_eq_true rfl⟩) (fun r10 hr10 => ?_)
  obtain rfl : r10 = sx q := by rw [hr10, hq]; rfl
  refine lv_lsub hx hb d_M_cross_71 ?_
  rw [show ((sx o) - (sx q)) = (sx o - sx q) from rfl]
  refine lv_lstore (lv' := [(11, .long (sx o - sx q)), (9, .long (swy o)), (7, .long (swx o)), (5, .long (swy q)), (3, .long (swx q)), (0, .ref h0), (1, .int (nI k)), (2, .int (nI j))]) hx hb d_M_cross_72 hl (by decide) rfl (fun ls hl => ?_)
  refine lv_aload_n hx hb d_M_cross_74 rfl (lv_at hl 5 rfl) ?_
  refine lv_iload_n hx hb d_M_cross_75 rfl (lv_at hl 7 rfl) ?_
  refine lv_iconst (v := 1) hx hb d_M_cross_76 (by decide) ?_
  have hPc := hP.sub (ws' := [(h0, .inr (3, mF ad th sg sn hot pc cx cy fo fv to tv fi ti)), ((ad 0), .inl (E.2.1, 8192, .inl e9))]) [0, 1] rfl
  refine vp_callSl (W.runV (As := [.int (nI j), .int 1]) (rest := []) ⟨hx, hb, hml, hown, hts⟩ (k_M_end l D E h0 ad th sg sn hot pc cx cy fo fv to tv fi ti e9 j 1 hj (by omega)) (cwV 2 hts (gw_gv wd_787 wd_789 wd_29 wd_42 wd_790) rfl rfl rfl (by decide +kernel) ⟨Nat.le_of_ble_eq_true rfl, Nat.le_of_ble_eq_true rfl⟩) (rP_V 0 hPc hK rfl rfl) rfl rfl hl.1 rfl (lv_room (Nat.le_of_ble_eq_true rfl)) d_M_cross_77 ⟨Nat.le_of_ble_eq_true rfl, Nat.le_of_ble_eq_true rfl⟩) (fun r11 hr11 => ?_)
  obtain rfl : r11 = sy o := by rw [hr11, ho]; rfl
  refine lv_aload_n hx hb d_M_cross_80 rfl (lv_at hl 5 rfl) ?_
  refine lv_iload_n hx hb d_M_cross_81 rfl (lv_at hl 6 rfl) ?_
  refine lv_iconst (v := 1) hx hb d_M_cross_82 (by decide) ?_
  have hPc := hP.sub (ws' := [(h0, .inr (3, mF ad th sg sn hot pc cx cy fo fv to tv fi ti)), ((ad 0), .inl (E.2.1, 8192, .inl e9))]) [0, 1] rfl
  refine vp_callSl (W.runV (As := [.int (nI k), .int 1]) (rest := [.long (sy o)]) ⟨hx, hb, hml, hown, hts⟩ (k_M_end l D E h0 ad th sg sn hot pc cx cy fo fv to tv fi ti e9 k 1 hk (by omega)) (cwV 2 hts (gw_gv wd_787 wd_789 wd_29 wd_42 wd_790) rfl rfl rfl (by decide +kernel) ⟨Nat.le_of_ble_eq_true rfl, Nat.le_of_ble_eq_true rfl⟩) (rP_V 0 hPc hK rfl rfl) rfl rfl hl.1 rfl (lv_room (Nat.le_of_ble_eq_true rfl)) d_M_cross_83 ⟨Nat.le_of_ble_eq_true rfl, Nat.le_of_ble_eq_true rfl⟩) (fun r12 hr12 => ?_)
  obtain rfl : r12 = sy q := by rw [hr12, hq]; rfl
  refine lv_lsub hx hb d_M_cross_86 ?_
  rw [show ((sy o) - (sy q)) = (sy o - sy q) from rfl]
  refine lv_lstore (lv' := [(13, .long (sy o - sy q)), (11, .long (sx o - sx q)), (9, .long (swy o)), (7, .long (swx o)), (5, .long (swy q)), (3, .long (swx q)), (0, .ref h0), (1, .int (nI k)), (2, .int (nI j))]) hx hb d_M_cross_87 hl (by decide) rfl (fun ls hl => ?_)
  refine lv_lload_n hx hb d_M_cross_89 rfl (lv_at hl 5 rfl) ?_
  refine lv_lload hx hb d_M_cross_90 (lv_at hl 2 rfl) ?_
  refine lv_lmul hx hb d_M_cross_92 ?_
  refine lv_lload hx hb d_M_cross_93 (lv_at hl 4 rfl) ?_
  refine lv_lload hx hb d_M_cross_95 (lv_at hl 3 rfl) ?_
  refine lv_lmul hx hb d_M_cross_97 ?_
  refine lv_lsub hx hb d_M_cross_98 ?_
  rw [show (((swx q) * (swy o)) - ((swy q) * (swx o))) = (mx_u0 q o) from rfl]
  refine lv_lstore (lv' := [(15, .long (mx_u0 q o)), (13, .long (sy o - sy q)), (11, .long (sx o - sx q)), (9, .long (swy o)), (7, .long (swx o)), (5, .long (swy q)), (3, .long (swx q)), (0, .ref h0), (1, .int (nI k)), (2, .int (nI j))]) hx hb d_M_cross_99 hl (by decide) rfl (fun ls hl => ?_)
  refine lv_lload hx hb d_M_cross_101 (lv_at hl 2 rfl) ?_
  refine lv_lload hx hb d_M_cross_103 (lv_at hl 3 rfl) ?_
  refine lv_lmul hx hb d_M_cross_105 ?_
  refine lv_lload hx hb d_M_cross_106 (lv_at hl 1 rfl) ?_
  refine lv_lload hx hb d_M_cross_108 (lv_at hl 4 rfl) ?_
  refine lv_lmul hx hb d_M_cross_110 ?_
  refine lv_lsub hx hb d_M_cross_111 ?_
  rw [show (((sx o - sx q) * (swy o)) - ((sy o - sy q) * (swx o))) = (mx_10 q o) from rfl]
  refine lv_lstore (lv' := [(17, .long (mx_10 q o)), (15, .long (mx_u0 q o)), (13, .long (sy o - sy q)), (11, .long (sx o - sx q)), (9, .long (swy o)), (7, .long (swx o)), (5, .long (swy q)), (3, .long (swx q)), (0, .ref h0), (1, .int (nI k)), (2, .int (nI j))]) hx hb d_M_cross_112 hl (by decide) rfl (fun ls hl => ?_)
  refine lv_lload hx hb d_M_cross_114 (lv_at hl 3 rfl) ?_
  refine lv_lload hx hb d_M_cross_116 (lv_at hl 6 rfl) ?_
  refine lv_lmul hx hb d_M_cross_118 ?_
  refine lv_lload hx hb d_M_cross_119 (lv_at hl 2 rfl) ?_
  refine lv_lload_n hx hb d_M_cross_121 rfl (lv_at hl 7 rfl) ?_
  refine lv_lmul hx hb d_M_cross_122 ?_
  refine lv_lsub hx hb d_M_cross_123 ?_
  rw [show (((sx o - sx q) * (swy q)) - ((sy o - sy q) * (swx q))) = (mx_20 q o) from rfl]
  refine lv_lstore (lv' := [(19, .long (mx_20 q o)), (17, .long (mx_10 q o)), (15, .long (mx_u0 q o)), (13, .long (sy o - sy q)), (11, .long (sx o - sx q)), (9, .long (swy o)), (7, .long (swx o)), (5, .long (swy q)), (3, .long (swx q)), (0, .ref h0), (1, .int (nI k)), (2, .int (nI j))]) hx hb d_M_cross_124 hl (by decide) rfl (fun ls hl => ?_)
  refine lv_lload hx hb d_M_cross_126 (lv_at hl 2 rfl) ?_
  refine lv_lconst (v := 0) hx hb d_M_cross_128 (by decide) ?_
  refine W.lcmp hx hb d_M_cross_129 ?_
  have J : ∀ (ls : Array Slot), lv_has ls 21 [(0, .ref h0), (1, .int (nI k)), (2, .int (nI j)), (3, .long (swx q)), (5, .long (swy q)), (15, .long (mx_u q o)), (17, .long (mx_1 q o)), (19, .long (mx_2 q o))] → W p l e ({ frames := 1, cells := 0, slots := 0, locals := 36 } : Room) s m ([.ref h0, .int (nI k), .int (nI j)] : List Value).toArray below meth c s.heap [] 0 0 (MQ below (va_Qi (fun (r : Int32) (u : Int32 × Int32) => r = b01 (mx_ok q o) ∧ (mx_ok q o → u = (mx_x q o, mx_y q o))) (wB D (fun u => [(h0, .inr (3, mF ad th sg sn hot pc u.1 u.2 fo fv to tv fi ti)), ((ad 0), .inl (E.2.1, 8192, .inl e9))]) A) A) ([.ref h0, .int (nI k), .int (nI j)] : List Value).toArray s 0 0 A) (F0 m 148 ls []) := by
    intro ls hl
    have K : ∀ (ls : Array Slot), (¬ mx_ok q o) → lv_has ls 21 [(0, .ref h0)] → W p l e ({ frames := 1, cells := 0, slots := 0, locals := 36 } : Room) s m ([.ref h0, .int (nI k), .int (nI j)] : List Value).toArray below meth c s.heap [] 0 0 (MQ below (va_Qi (fun (r : Int32) (u : Int32 × Int32) => r = b01 (mx_ok q o) ∧ (mx_ok q o → u = (mx_x q o, mx_y q o))) (wB D (fun u => [(h0, .inr (3, mF ad th sg sn hot pc u.1 u.2 fo fv to tv fi ti)), ((ad 0), .inl (E.2.1, 8192, .inl e9))]) A) A) ([.ref h0, .int (nI k), .int (nI j)] : List Value).toArray s 0 0 A) (F0 m 178 ls []) := by
      intro ls hn hl
      refine lv_iconst (v := 0) hx hb d_M_cross_178 (by decide) ?_
      exact W.zret (v := 0) (ty := .boolean) hx hb hrt rfl (fun t ht hW => ⟨⟨0, (cx, cy), rfl, ⟨(b01_f hn).symm, fun h => absurd h hn⟩, ⟨by rw [ht]; exact hP, hD⟩⟩, hS.F ht⟩) hS.2.2 d_M_cross_179 hlocks
    refine lv_lload hx hb d_M_cross_148 (lv_at hl 6 rfl) ?_
    refine lv_lconst (v := 0) hx hb d_M_cross_150 (by decide) ?_
    refine W.lcmp hx hb d_M_cross_151 ?_
    refine lv_if_le (tgt := 178) hx hb d_M_cross_152 (by decide) (fun c1 => ?_) (fun c1 => ?_)
    · exact K ls (fun h => lg_le.mp c1 h.1.1) (lv_sub hl [0] rfl)
    · refine lv_lload hx hb d_M_cross_155 (lv_at hl 6 rfl) ?_
      refine lv_lload hx hb d_M_cross_157 (lv_at hl 5 rfl) ?_
      refine W.lcmp hx hb d_M_cross_159 ?_
      refine lv_if_ge (tgt := 178) hx hb d_M_cross_160 (by decide) (fun c2 => ?_) (fun c2 => ?_)
      · exact K ls (fun h => lg_ge.mp c2 h.1.2) (lv_sub hl [0] rfl)
      · refine lv_lload hx hb d_M_cross_163 (lv_at hl 7 rfl) ?_
        refine lv_lconst (v := 0) hx hb d_M_cross_165 (by decide) ?_
        refine W.lcmp hx hb d_M_cross_166 ?_
        refine lv_if_le (tgt := 178) hx hb d_M_cross_167 (by decide) (fun c3 => ?_) (fun c3 => ?_)
        · exact K ls (fun h => lg_le.mp c3 h.2.1) (lv_sub hl [0] rfl)
        · refine lv_lload hx hb d_M_cross_170 (lv_at hl 7 rfl) ?_
          refine lv_lload hx hb d_M_cross_172 (lv_at hl 5 rfl) ?_
          refine W.lcmp hx hb d_M_cross_174 ?_
          refine lv_if_lt (tgt := 180) hx hb d_M_cross_175 (by decide) (fun c4 => ?_) (fun c4 => ?_)
          · have ok : mx_ok q o := ⟨⟨lg_le' c1, lg_ge' c2⟩, lg_le' c3, lg_lt.mp c4⟩
            have hU := mx_u_b bk bj
            have k1 := ok.1.1
            have k2 := ok.1.2
            rw [Int64.lt_iff_toInt_lt] at k1 k2
            rw [show (0 : Int64).toInt = 0 from by decide] at k1
            have hsx := swx_b bk
            have hsy := swy_b bk
            have g1 : mx_1 q o = lN (mx_1 q o).toInt.toNat := i64_lN (by omega)
            have g2 : mx_u q o = lN (mx_u q o).toInt.toNat := i64_lN (by omega)
            refine lv_aload_n hx hb d_M_cross_180 rfl (lv_at hl 0 rfl) ?_
            refine lv_aload_n hx hb d_M_cross_181 rfl (lv_at hl 0 rfl) ?_
            refine lv_iload_n hx hb d_M_cross_182 rfl (lv_at hl 1 rfl) ?_
            refine lv_iconst (v := 0) hx hb d_M_cross_183 (by decide) ?_
            have hPc := hP.sub (ws' := [(h0, .inr (3, mF ad th sg sn hot pc cx cy fo fv to tv fi ti)), ((ad 0), .inl (E.2.1, 8192, .inl e9))]) [0, 1] rfl
            refine vp_callSl (W.runV (As := [.int (nI k), .int 0]) (rest := [.ref h0]) ⟨hx, hb, hml, hown, hts⟩ (k_M_end l D E h0 ad th sg sn hot pc cx cy fo fv to tv fi ti e9 k 0 hk (by omega)) (cwV 2 hts (gw_gv wd_787 wd_789 wd_29 wd_42 wd_790) rfl rfl rfl (by decide +kernel) ⟨Nat.le_of_ble_eq_true rfl, Nat.le_of_ble_eq_true rfl⟩) (rP_V 0 hPc hK rfl rfl) rfl rfl hl.1 rfl (lv_room (Nat.le_of_ble_eq_true rfl)) d_M_cross_184 ⟨Nat.le_of_ble_eq_true rfl, Nat.le_of_ble_eq_true rfl⟩) (fun r13 hr13 => ?_)
            obtain rfl : r13 = sx q := by rw [hr13, hq]; rfl
            refine lv_lload_n hx hb d_M_cross_187 rfl (lv_at hl 3 rfl) ?_
            refine lv_lload hx hb d_M_cross_188 (lv_at hl 6 rfl) ?_
            refine lv_lload hx hb d_M_cross_190 (lv_at hl 5 rfl) ?_
            have hPc := hP.sub (ws' := []) [] rfl
            refine vp_callSl (W.runS (As := [.long (swx q), .long (mx_1 q o), .long (mx_u q o)]) (rest := [.long (sx q), .ref h0]) ⟨hx, hb, hml, hown, hts⟩ (g1.symm ▸ g2.symm ▸ k_M_rounded l D E (swx q) (mx_1 q o).toInt.toNat (mx_u q o).toInt.toNat ⟨by omega, by omega⟩ (by omega) (by omega) (by omega)) (va_cwS 3 hts (gw_gs wd_791 wd_792 wd_42 wd_793) rfl rfl rfl (by decide +kernel) ⟨Nat.le_of_ble_eq_true rfl, Nat.le_of_ble_eq_true rfl⟩) (rP_S hPc hK) rfl rfl hl.1 rfl (lv_room (Nat.le_of_ble_eq_true rfl)) d_M_cross_192 ⟨Nat.le_of_ble_eq_true rfl, Nat.le_of_ble_eq_true rfl⟩) (fun rr0 hrr0 => ?_)
            obtain rfl : rr0 = Int64.ofInt (mx_rx q o) := by rw [show mx_rx q o = rr0.toInt from hrr0.symm, Int64.ofInt_toInt]
            refine lv_ladd hx hb d_M_cross_195 ?_
            refine lv_l2i hx hb d_M_cross_196 rfl ?_
            rw [show (Int64.toInt32 ((sx q) + (Int64.ofInt (mx_rx q o)))) = (mx_x q o) from rfl]
            refine va_put (D := D) (ci := 3) (v := .int (mx_x q o)) (ty := .int) (C := K_M) (T := F_M) (N := 24) hx hb hG in_M t_M t_M_ok n_M hown hK.1 hP hD hS 0 rfl rfl 13 (by decide) (hG _ wd_661) (fun _ h9 => h9) rfl (by decide +kernel) rfl rfl (Nat.le_of_ble_eq_true rfl) d_M_cross_197 (fun H locs hP hD hS => ?_)
            have hP : va_P D vwC [(h0, .inr (3, mF ad th sg sn hot pc (mx_x q o) cy fo fv to tv fi ti)), ((ad 0), .inl (E.2.1, 8192, .inl e9))] H := hP
            have hD : va_D A [(h0, .inr (3, mF ad th sg sn hot pc (mx_x q o) cy fo fv to tv fi ti)), ((ad 0), .inl (E.2.1, 8192, .inl e9))] := hD
            refine lv_aload_n hx hb d_M_cross_200 rfl (lv_at hl 0 rfl) ?_
            refine lv_aload_n hx hb d_M_cross_201 rfl (lv_at hl 0 rfl) ?_
            refine lv_iload_n hx hb d_M_cross_202 rfl (lv_at hl 1 rfl) ?_
            refine lv_iconst (v := 1) hx hb d_M_cross_203 (by decide) ?_
            have hPc := hP.sub (ws' := [(h0, .inr (3, mF ad th sg sn hot pc (mx_x q o) cy fo fv to tv fi ti)), ((ad 0), .inl (E.2.1, 8192, .inl e9))]) [0, 1] rfl
            refine vp_callSl (W.runV (As := [.int (nI k), .int 1]) (rest := [.ref h0]) ⟨hx, hb, hml, hown, hts⟩ (k_M_end l D E h0 ad th sg sn hot pc (mx_x q o) cy fo fv to tv fi ti e9 k 1 hk (by omega)) (cwV 2 hts (gw_gv wd_787 wd_789 wd_29 wd_42 wd_790) rfl rfl rfl (by decide +kernel) ⟨Nat.le_of_ble_eq_true rfl, Nat.le_of_ble_eq_true rfl⟩) (rP_V 0 hPc hK rfl rfl) rfl rfl hl.1 rfl (lv_room (Nat.le_of_ble_eq_true rfl)) d_M_cross_204 ⟨Nat.le_of_ble_eq_true rfl, Nat.le_of_ble_eq_true rfl⟩) (fun r14 hr14 => ?_)
            obtain rfl : r14 = sy q := by rw [hr14, hq]; rfl
            refine lv_lload hx hb d_M_cross_207 (lv_at hl 4 rfl) ?_
            refine lv_lload hx hb d_M_cross_209 (lv_at hl 6 rfl) ?_
            refine lv_lload hx hb d_M_cross_211 (lv_at hl 5 rfl) ?_
            have hPc := hP.sub (ws' := []) [] rfl
            refine vp_callSl (W.runS (As := [.long (swy q), .long (mx_1 q o), .long (mx_u q o)]) (rest := [.long (sy q), .ref h0]) ⟨hx, hb, hml, hown, hts⟩ (g1.symm ▸ g2.symm ▸ k_M_rounded l D E (swy q) (mx_1 q o).toInt.toNat (mx_u q o).toInt.toNat ⟨by omega, by omega⟩ (by omega) (by omega) (by omega)) (va_cwS 3 hts (gw_gs wd_791 wd_792 wd_42 wd_793) rfl rfl rfl (by decide +kernel) ⟨Nat.le_of_ble_eq_true rfl, Nat.le_of_ble_eq_true rfl⟩) (rP_S hPc hK) rfl rfl hl.1 rfl (lv_room (Nat.le_of_ble_eq_true rfl)) d_M_cross_213 ⟨Nat.le_of_ble_eq_true rfl, Nat.le_of_ble_eq_true rfl⟩) (fun rr1 hrr1 => ?_)
            obtain rfl : rr1 = Int64.ofInt (mx_ry q o) := by rw [show mx_ry q o = rr1.toInt from hrr1.symm, Int64.ofInt_toInt]
            refine lv_ladd hx hb d_M_cross_216 ?_
            refine lv_l2i hx hb d_M_cross_217 rfl ?_
            rw [show (Int64.toInt32 ((sy q) + (Int64.ofInt (mx_ry q o)))) = (mx_y q o) from rfl]
            refine va_put (D := D) (ci := 3) (v := .int (mx_y q o)) (ty := .int) (C := K_M) (T := F_M) (N := 24) hx hb hG in_M t_M t_M_ok n_M hown hK.1 hP hD hS 0 rfl rfl 14 (by decide) (hG _ wd_662) (fun _ h9 => h9) rfl (by decide +kernel) rfl rfl (Nat.le_of_ble_eq_true rfl) d_M_cross_218 (fun H locs hP hD hS => ?_)
            have hP : va_P D vwC [(h0, .inr (3, mF ad th sg sn hot pc (mx_x q o) (mx_y q o) fo fv to tv fi ti)), ((ad 0), .inl (E.2.1, 8192, .inl e9))] H := hP
            have hD : va_D A [(h0, .inr (3, mF ad th sg sn hot pc (mx_x q o) (mx_y q o) fo fv to tv fi ti)), ((ad 0), .inl (E.2.1, 8192, .inl e9))] := hD
            refine lv_iconst (v := 1) hx hb d_M_cross_221 (by decide) ?_
            exact W.zret (v := 1) (ty := .boolean) hx hb hrt rfl (fun t ht hW => ⟨⟨1, (mx_x q o, mx_y q o), rfl, ⟨(b01_t ok).symm, fun _ => rfl⟩, ⟨by rw [ht]; exact hP, hD⟩⟩, hS.F ht⟩) hS.2.2 d_M_cross_222 hlocks
          · exact K ls (fun h => c4 (lg_lt.mpr h.2.2)) (lv_sub hl [0] rfl)
  refine lv_if_ge (tgt := 148) hx hb d_M_cross_130 (by decide) (fun c0 => ?_) (fun c0 => ?_)
  · have c0 := lg_ge.mp c0
    have e1 : mx_u0 q o = mx_u q o := (if_neg c0).symm
    have e2 : mx_10 q o = mx_1 q o := (if_neg c0).symm
    have e3 : mx_20 q o = mx_2 q o := (if_neg c0).symm
    rw [e1, e2, e3] at hl
    exact J ls (lv_sub hl [9, 10, 11, 8, 7, 2, 1, 0] rfl)
  · have c0 := lg_ge' c0
    refine lv_lload hx hb d_M_cross_133 (lv_at hl 2 rfl) ?_
    refine lv_lneg hx hb d_M_cross_135 ?_
    rw [show (-(mx_u0 q o)) = (mx_u q o) from (if_pos c0).symm]
    refine lv_lstore (lv' := [(15, .long (mx_u q o)), (19, .long (mx_20 q o)), (17, .long (mx_10 q o)), (13, .long (sy o - sy q)), (11, .long (sx o - sx q)), (9, .long (swy o)), (7, .long (swx o)), (5, .long (swy q)), (3, .long (swx q)), (0, .ref h0), (1, .int (nI k)), (2, .int (nI j))]) hx hb d_M_cross_136 hl (by decide) rfl (fun ls hl => ?_)
    refine lv_lload hx hb d_M_cross_138 (lv_at hl 2 rfl) ?_
    refine lv_lneg hx hb d_M_cross_140 ?_
    rw [show (-(mx_10 q o)) = (mx_1 q o) from (if_pos c0).symm]
    refine lv_lstore (lv' := [(17, .long (mx_1 q o)), (15, .long (mx_u q o)), (19, .long (mx_20 q o)), (13, .long (sy o - sy q)), (11, .long (sx o - sx q)), (9, .long (swy o)), (7, .long (swx o)), (5, .long (swy q)), (3, .long (swx q)), (0, .ref h0), (1, .int (nI k)), (2, .int (nI j))]) hx hb d_M_cross_141 hl (by decide) rfl (fun ls hl => ?_)
    refine lv_lload hx hb d_M_cross_143 (lv_at hl 2 rfl) ?_
    refine lv_lneg hx hb d_M_cross_145 ?_
    rw [show (-(mx_20 q o)) = (mx_2 q o) from (if_pos c0).symm]
    refine lv_lstore (lv' := [(19, .long (mx_2 q o)), (17, .long (mx_1 q o)), (15, .long (mx_u q o)), (13, .long (sy o - sy q)), (11, .long (sx o - sx q)), (9, .long (swy o)), (7, .long (swx o)), (5, .long (swy q)), (3, .long (swx q)), (0, .ref h0), (1, .int (nI k)), (2, .int (nI j))]) hx hb d_M_cross_146 hl (by decide) rfl (fun ls hl => ?_)
    exact J ls (lv_sub hl [9, 10, 11, 8, 7, 2, 1, 0] rfl)
end
