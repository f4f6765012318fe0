theorem d_M_along_0 : decode c_M_along 0 = .ok (.lload_n 3, 1) := by decide +kernel
theorem d_M_along_1 : decode c_M_along 1 = .ok (.lconst 0, 1) := by decide +kernel
theorem d_M_along_2 : decode c_M_along 2 = .ok (.lcmp, 1) := by decide +kernel
theorem d_M_along_3 : decode c_M_along 3 = .ok (.ifCond .ne 27, 3) := by decide +kernel
theorem d_M_along_6 : decode c_M_along 6 = .ok (.lload_n 1, 1) := by decide +kernel
theorem d_M_along_7 : decode c_M_along 7 = .ok (.lload 5, 2) := by decide +kernel
theorem d_M_along_9 : decode c_M_along 9 = .ok (.lcmp, 1) := by decide +kernel
theorem d_M_along_10 : decode c_M_along 10 = .ok (.ifCond .lt 18, 3) := by decide +kernel
theorem d_M_along_13 : decode c_M_along 13 = .ok (.lload_n 1, 1) := by decide +kernel
theorem d_M_along_14 : decode c_M_along 14 = .ok (.lload 5, 2) := by decide +kernel
theorem d_M_along_16 : decode c_M_along 16 = .ok (.ldc2_w 103, 3) := by decide +kernel
theorem d_M_along_19 : decode c_M_along 19 = .ok (.ladd, 1) := by decide +kernel
theorem d_M_along_20 : decode c_M_along 20 = .ok (.lcmp, 1) := by decide +kernel
theorem d_M_along_21 : decode c_M_along 21 = .ok (.ifCond .ge 7, 3) := by decide +kernel
theorem d_M_along_24 : decode c_M_along 24 = .ok (.iconst 1, 1) := by decide +kernel
theorem d_M_along_25 : decode c_M_along 25 = .ok (.goto 4, 3) := by decide +kernel
theorem d_M_along_28 : decode c_M_along 28 = .ok (.iconst 0, 1) := by decide +kernel
theorem d_M_along_29 : decode c_M_along 29 = .ok (.ireturn, 1) := by decide +kernel
theorem d_M_along_30 : decode c_M_along 30 = .ok (.lload_n 3, 1) := by decide +kernel
theorem d_M_along_31 : decode c_M_along 31 = .ok (.lconst 0, 1) := by decide +kernel
theorem d_M_along_32 : decode c_M_along 32 = .ok (.lcmp, 1) := by decide +kernel
theorem d_M_along_33 : decode c_M_along 33 = .ok (.ifCond .le 30, 3) := by decide +kernel
theorem d_M_along_36 : decode c_M_along 36 = .ok (.aload_n 0, 1) := by decide +kernel
theorem d_M_along_37 : decode c_M_along 37 = .ok (.lload 5, 2) := by decide +kernel
theorem d_M_along_39 : decode c_M_along 39 = .ok (.lload_n 1, 1) := by decide +kernel
theorem d_M_along_40 : decode c_M_along 40 = .ok (.lsub, 1) := by decide +kernel
theorem d_M_along_41 : decode c_M_along 41 = .ok (.lload_n 3, 1) := by decide +kernel
theorem d_M_along_42 : decode c_M_along 42 = .ok (.iconst 1, 1) := by decide +kernel
theorem d_M_along_43 : decode c_M_along 43 = .ok (.invokevirtual 105, 3) := by decide +kernel
theorem d_M_along_46 : decode c_M_along 46 = .ok (.aload_n 0, 1) := by decide +kernel
theorem d_M_along_47 : decode c_M_along 47 = .ok (.lload 5, 2) := by decide +kernel
theorem d_M_along_49 : decode c_M_along 49 = .ok (.ldc2_w 103, 3) := by decide +kernel
theorem d_M_along_52 : decode c_M_along 52 = .ok (.ladd, 1) := by decide +kernel
theorem d_M_along_53 : decode c_M_along 53 = .ok (.lload_n 1, 1) := by decide +kernel
theorem d_M_along_54 : decode c_M_along 54 = .ok (.lsub, 1) := by decide +kernel
theorem d_M_along_55 : decode c_M_along 55 = .ok (.lload_n 3, 1) := by decide +kernel
theorem d_M_along_56 : decode c_M_along 56 = .ok (.iconst 0, 1) := by decide +kernel
theorem d_M_along_57 : decode c_M_along 57 = .ok (.invokevirtual 109, 3) := by decide +kernel
theorem d_M_along_60 : decode c_M_along 60 = .ok (.goto 29, 3) := by decide +kernel
theorem d_M_along_63 : decode c_M_along 63 = .ok (.aload_n 0, 1) := by decide +kernel
theorem d_M_along_64 : decode c_M_along 64 = .ok (.lload_n 1, 1) := by decide +kernel
theorem d_M_along_65 : decode c_M_along 65 = .ok (.lload 5, 2) := by decide +kernel
theorem d_M_along_67 : decode c_M_along 67 = .ok (.lsub, 1) := by decide +kernel
theorem d_M_along_68 : decode c_M_along 68 = .ok (.ldc2_w 103, 3) := by decide +kernel
theorem d_M_along_71 : decode c_M_along 71 = .ok (.lsub, 1) := by decide +kernel
theorem d_M_along_72 : decode c_M_along 72 = .ok (.lload_n 3, 1) := by decide +kernel
theorem d_M_along_73 : decode c_M_along 73 = .ok (.lneg, 1) := by decide +kernel
theorem d_M_along_74 : decode c_M_along 74 = .ok (.iconst 0, 1) := by decide +kernel
theorem d_M_along_75 : decode c_M_along 75 = .ok (.invokevirtual 105, 3) := by decide +kernel
theorem d_M_along_78 : decode c_M_along 78 = .ok (.aload_n 0, 1) := by decide +kernel
theorem d_M_along_79 : decode c_M_along 79 = .ok (.lload_n 1, 1) := by decide +kernel
theorem d_M_along_80 : decode c_M_along 80 = .ok (.lload 5, 2) := by decide +kernel
theorem d_M_along_82 : decode c_M_along 82 = .ok (.lsub, 1) := by decide +kernel
theorem d_M_along_83 : decode c_M_along 83 = .ok (.lload_n 3, 1) := by decide +kernel
theorem d_M_along_84 : decode c_M_along 84 = .ok (.lneg, 1) := by decide +kernel
theorem d_M_along_85 : decode c_M_along 85 = .ok (.iconst 1, 1) := by decide +kernel
theorem d_M_along_86 : decode c_M_along 86 = .ok (.invokevirtual 109, 3) := by decide +kernel
theorem d_M_along_89 : decode c_M_along 89 = .ok (.iconst 1, 1) := by decide +kernel
theorem d_M_along_90 : decode c_M_along 90 = .ok (.ireturn, 1) := by decide +kernel
theorem d_M_isIn_0 : decode c_M_isIn 0 = .ok (.iconst 4, 1) := by decide +kernel
theorem d_M_isIn_1 : decode c_M_isIn 1 = .ok (.iload_n 1, 1) := by decide +kernel
theorem d_M_isIn_2 : decode c_M_isIn 2 = .ok (.imul, 1) := by decide +kernel
theorem d_M_isIn_3 : decode c_M_isIn 3 = .ok (.istore 4, 2) := by decide +kernel
theorem d_M_isIn_5 : decode c_M_isIn 5 = .ok (.aload_n 0, 1) := by decide +kernel
theorem d_M_isIn_6 : decode c_M_isIn 6 = .ok (.lconst 0, 1) := by decide +kernel
theorem d_M_isIn_7 : decode c_M_isIn 7 = .ok (.putfield 80, 3) := by decide +kernel
theorem d_M_isIn_10 : decode c_M_isIn 10 = .ok (.aload_n 0, 1) := by decide +kernel
theorem d_M_isIn_11 : decode c_M_isIn 11 = .ok (.lconst 1, 1) := by decide +kernel
theorem d_M_isIn_12 : decode c_M_isIn 12 = .ok (.putfield 84, 3) := by decide +kernel
theorem d_M_isIn_15 : decode c_M_isIn 15 = .ok (.aload_n 0, 1) := by decide +kernel
theorem d_M_isIn_16 : decode c_M_isIn 16 = .ok (.iconst 1, 1) := by decide +kernel
theorem d_M_isIn_17 : decode c_M_isIn 17 = .ok (.putfield 91, 3) := by decide +kernel
theorem d_M_isIn_20 : decode c_M_isIn 20 = .ok (.aload_n 0, 1) := by decide +kernel
theorem d_M_isIn_21 : decode c_M_isIn 21 = .ok (.lconst 1, 1) := by decide +kernel
theorem d_M_isIn_22 : decode c_M_isIn 22 = .ok (.putfield 94, 3) := by decide +kernel
theorem d_M_isIn_25 : decode c_M_isIn 25 = .ok (.aload_n 0, 1) := by decide +kernel
theorem d_M_isIn_26 : decode c_M_isIn 26 = .ok (.lconst 1, 1) := by decide +kernel
theorem d_M_isIn_27 : decode c_M_isIn 27 = .ok (.putfield 97, 3) := by decide +kernel
theorem d_M_isIn_30 : decode c_M_isIn 30 = .ok (.aload_n 0, 1) := by decide +kernel
theorem d_M_isIn_31 : decode c_M_isIn 31 = .ok (.iconst 1, 1) := by decide +kernel
theorem d_M_isIn_32 : decode c_M_isIn 32 = .ok (.putfield 100, 3) := by decide +kernel
theorem d_M_isIn_35 : decode c_M_isIn 35 = .ok (.aload_n 0, 1) := by decide +kernel
theorem d_M_isIn_36 : decode c_M_isIn 36 = .ok (.ldc2_w 103, 3) := by decide +kernel
theorem d_M_isIn_39 : decode c_M_isIn 39 = .ok (.aload_n 0, 1) := by decide +kernel
theorem d_M_isIn_40 : decode c_M_isIn 40 = .ok (.getfield 7, 3) := by decide +kernel
theorem d_M_isIn_43 : decode c_M_isIn 43 = .ok (.iload 4, 2) := by decide +kernel
theorem d_M_isIn_45 : decode c_M_isIn 45 = .ok (.iaload, 1) := by decide +kernel
theorem d_M_isIn_46 : decode c_M_isIn 46 = .ok (.i2l, 1) := by decide +kernel
theorem d_M_isIn_47 : decode c_M_isIn 47 = .ok (.lmul, 1) := by decide +kernel
theorem d_M_isIn_48 : decode c_M_isIn 48 = .ok (.ldc2_w 103, 3) := by decide +kernel
theorem d_M_isIn_51 : decode c_M_isIn 51 = .ok (.aload_n 0, 1) := by decide +kernel
theorem d_M_isIn_52 : decode c_M_isIn 52 = .ok (.getfield 7, 3) := by decide +kernel
theorem d_M_isIn_55 : decode c_M_isIn 55 = .ok (.iload 4, 2) := by decide +kernel
theorem d_M_isIn_57 : decode c_M_isIn 57 = .ok (.iconst 2, 1) := by decide +kernel
theorem d_M_isIn_58 : decode c_M_isIn 58 = .ok (.iadd, 1) := by decide +kernel
theorem d_M_isIn_59 : decode c_M_isIn 59 = .ok (.iaload, 1) := by decide +kernel
theorem d_M_isIn_60 : decode c_M_isIn 60 = .ok (.i2l, 1) := by decide +kernel
theorem d_M_isIn_61 : decode c_M_isIn 61 = .ok (.lmul, 1) := by decide +kernel
theorem d_M_isIn_62 : decode c_M_isIn 62 = .ok (.ldc2_w 103, 3) := by decide +kernel
theorem d_M_isIn_65 : decode c_M_isIn 65 = .ok (.aload_n 0, 1) := by decide +kernel
theorem d_M_isIn_66 : decode c_M_isIn 66 = .ok (.getfield 7, 3) := by decide +kernel
theorem d_M_isIn_69 : decode c_M_isIn 69 = .ok (.iload 4, 2) := by decide +kernel
theorem d_M_isIn_71 : decode c_M_isIn 71 = .ok (.iaload, 1) := by decide +kernel
theorem d_M_isIn_72 : decode c_M_isIn 72 = .ok (.i2l, 1) := by decide +kernel
theorem d_M_isIn_73 : decode c_M_isIn 73 = .ok (.lmul, 1) := by decide +kernel
theorem d_M_isIn_74 : decode c_M_isIn 74 = .ok (.lsub, 1) := by decide +kernel
theorem d_M_isIn_75 : decode c_M_isIn 75 = .ok (.ldc2_w 103, 3) := by decide +kernel
theorem d_M_isIn_78 : decode c_M_isIn 78 = .ok (.iload_n 2, 1) := by decide +kernel
theorem d_M_isIn_79 : decode c_M_isIn 79 = .ok (.i2l, 1) := by decide +kernel
theorem d_M_isIn_80 : decode c_M_isIn 80 = .ok (.lmul, 1) := by decide +kernel
theorem d_M_isIn_81 : decode c_M_isIn 81 = .ok (.lconst 1, 1) := by decide +kernel
theorem d_M_isIn_82 : decode c_M_isIn 82 = .ok (.lsub, 1) := by decide +kernel
theorem d_M_isIn_83 : decode c_M_isIn 83 = .ok (.invokevirtual 112, 3) := by decide +kernel
theorem d_M_isIn_86 : decode c_M_isIn 86 = .ok (.ifCond .eq 65, 3) := by decide +kernel
theorem d_M_isIn_89 : decode c_M_isIn 89 = .ok (.aload_n 0, 1) := by decide +kernel
theorem d_M_isIn_90 : decode c_M_isIn 90 = .ok (.ldc2_w 103, 3) := by decide +kernel
theorem d_M_isIn_93 : decode c_M_isIn 93 = .ok (.aload_n 0, 1) := by decide +kernel
theorem d_M_isIn_94 : decode c_M_isIn 94 = .ok (.getfield 7, 3) := by decide +kernel
theorem d_M_isIn_97 : decode c_M_isIn 97 = .ok (.iload 4, 2) := by decide +kernel
theorem d_M_isIn_99 : decode c_M_isIn 99 = .ok (.iconst 1, 1) := by decide +kernel
theorem d_M_isIn_100 : decode c_M_isIn 100 = .ok (.iadd, 1) := by decide +kernel
theorem d_M_isIn_101 : decode c_M_isIn 101 = .ok (.iaload, 1) := by decide +kernel
theorem d_M_isIn_102 : decode c_M_isIn 102 = .ok (.i2l, 1) := by decide +kernel
theorem d_M_isIn_103 : decode c_M_isIn 103 = .ok (.lmul, 1) := by decide +kernel
theorem d_M_isIn_104 : decode c_M_isIn 104 = .ok (.ldc2_w 103, 3) := by decide +kernel
theorem d_M_isIn_107 : decode c_M_isIn 107 = .ok (.aload_n 0, 1) := by decide +kernel
theorem d_M_isIn_108 : decode c_M_isIn 108 = .ok (.getfield 7, 3) := by decide +kernel
theorem d_M_isIn_111 : decode c_M_isIn 111 = .ok (.iload 4, 2) := by decide +kernel
theorem d_M_isIn_113 : decode c_M_isIn 113 = .ok (.iconst 3, 1) := by decide +kernel
theorem d_M_isIn_114 : decode c_M_isIn 114 = .ok (.iadd, 1) := by decide +kernel
theorem d_M_isIn_115 : decode c_M_isIn 115 = .ok (.iaload, 1) := by decide +kernel
theorem d_M_isIn_116 : decode c_M_isIn 116 = .ok (.i2l, 1) := by decide +kernel
theorem d_M_isIn_117 : decode c_M_isIn 117 = .ok (.lmul, 1) := by decide +kernel
theorem d_M_isIn_118 : decode c_M_isIn 118 = .ok (.ldc2_w 103, 3) := by decide +kernel
theorem d_M_isIn_121 : decode c_M_isIn 121 = .ok (.aload_n 0, 1) := by decide +kernel
theorem d_M_isIn_122 : decode c_M_isIn 122 = .ok (.getfield 7, 3) := by decide +kernel
theorem d_M_isIn_125 : decode c_M_isIn 125 = .ok (.iload 4, 2) := by decide +kernel
theorem d_M_isIn_127 : decode c_M_isIn 127 = .ok (.iconst 1, 1) := by decide +kernel
theorem d_M_isIn_128 : decode c_M_isIn 128 = .ok (.iadd, 1) := by decide +kernel
theorem d_M_isIn_129 : decode c_M_isIn 129 = .ok (.iaload, 1) := by decide +kernel
theorem d_M_isIn_130 : decode c_M_isIn 130 = .ok (.i2l, 1) := by decide +kernel
theorem d_M_isIn_131 : decode c_M_isIn 131 = .ok (.lmul, 1) := by decide +kernel
theorem d_M_isIn_132 : decode c_M_isIn 132 = .ok (.lsub, 1) := by decide +kernel
theorem d_M_isIn_133 : decode c_M_isIn 133 = .ok (.ldc2_w 103, 3) := by decide +kernel
theorem d_M_isIn_136 : decode c_M_isIn 136 = .ok (.iload_n 3, 1) := by decide +kernel
theorem d_M_isIn_137 : decode c_M_isIn 137 = .ok (.i2l, 1) := by decide +kernel
theorem d_M_isIn_138 : decode c_M_isIn 138 = .ok (.lmul, 1) := by decide +kernel
theorem d_M_isIn_139 : decode c_M_isIn 139 = .ok (.lconst 1, 1) := by decide +kernel
theorem d_M_isIn_140 : decode c_M_isIn 140 = .ok (.lsub, 1) := by decide +kernel
theorem d_M_isIn_141 : decode c_M_isIn 141 = .ok (.invokevirtual 112, 3) := by decide +kernel
theorem d_M_isIn_144 : decode c_M_isIn 144 = .ok (.ifCond .eq 7, 3) := by decide +kernel
theorem d_M_isIn_147 : decode c_M_isIn 147 = .ok (.iconst 1, 1) := by decide +kernel
theorem d_M_isIn_148 : decode c_M_isIn 148 = .ok (.goto 4, 3) := by decide +kernel
theorem d_M_isIn_151 : decode c_M_isIn 151 = .ok (.iconst 0, 1) := by decide +kernel
theorem d_M_isIn_152 : decode c_M_isIn 152 = .ok (.istore 5, 2) := by decide +kernel
theorem d_M_isIn_154 : decode c_M_isIn 154 = .ok (.aload_n 0, 1) := by decide +kernel
theorem d_M_isIn_155 : decode c_M_isIn 155 = .ok (.getfield 80, 3) := by decide +kernel
theorem d_M_isIn_158 : decode c_M_isIn 158 = .ok (.aload_n 0, 1) := by decide +kernel
theorem d_M_isIn_159 : decode c_M_isIn 159 = .ok (.getfield 84, 3) := by decide +kernel
theorem d_M_isIn_162 : decode c_M_isIn 162 = .ok (.aload_n 0, 1) := by decide +kernel
theorem d_M_isIn_163 : decode c_M_isIn 163 = .ok (.getfield 94, 3) := by decide +kernel
theorem d_M_isIn_166 : decode c_M_isIn 166 = .ok (.aload_n 0, 1) := by decide +kernel
theorem d_M_isIn_167 : decode c_M_isIn 167 = .ok (.getfield 97, 3) := by decide +kernel
theorem d_M_isIn_170 : decode c_M_isIn 170 = .ok (.invokestatic 87, 3) := by decide +kernel
theorem d_M_isIn_173 : decode c_M_isIn 173 = .ok (.istore 6, 2) := by decide +kernel
theorem d_M_isIn_175 : decode c_M_isIn 175 = .ok (.iload 5, 2) := by decide +kernel
theorem d_M_isIn_177 : decode c_M_isIn 177 = .ok (.ifCond .eq 31, 3) := by decide +kernel
theorem d_M_isIn_180 : decode c_M_isIn 180 = .ok (.iload 6, 2) := by decide +kernel
theorem d_M_isIn_182 : decode c_M_isIn 182 = .ok (.ifCond .lt 22, 3) := by decide +kernel
theorem d_M_isIn_185 : decode c_M_isIn 185 = .ok (.iload 6, 2) := by decide +kernel
theorem d_M_isIn_187 : decode c_M_isIn 187 = .ok (.ifCond .ne 21, 3) := by decide +kernel
theorem d_M_isIn_190 : decode c_M_isIn 190 = .ok (.aload_n 0, 1) := by decide +kernel
theorem d_M_isIn_191 : decode c_M_isIn 191 = .ok (.getfield 91, 3) := by decide +kernel
theorem d_M_isIn_194 : decode c_M_isIn 194 = .ok (.ifCond .eq 14, 3) := by decide +kernel
theorem d_M_isIn_197 : decode c_M_isIn 197 = .ok (.aload_n 0, 1) := by decide +kernel
theorem d_M_isIn_198 : decode c_M_isIn 198 = .ok (.getfield 100, 3) := by decide +kernel
theorem d_M_isIn_201 : decode c_M_isIn 201 = .ok (.ifCond .eq 7, 3) := by decide +kernel
theorem d_M_isIn_204 : decode c_M_isIn 204 = .ok (.iconst 1, 1) := by decide +kernel
theorem d_M_isIn_205 : decode c_M_isIn 205 = .ok (.goto 4, 3) := by decide +kernel
theorem d_M_isIn_208 : decode c_M_isIn 208 = .ok (.iconst 0, 1) := by decide +kernel
theorem d_M_isIn_209 : decode c_M_isIn 209 = .ok (.ireturn, 1) := by decide +kernel
abbrev IV : Type := (Int64 × Int64 × Int32) × (Int64 × Int64 × Int32)
noncomputable section
def ml_iv (a d low : Int64) (s : IV) : IV := if d = 0 then s else if 0 < d then (mr_up (low - a) d 1 s.1, mr_dn (low + 2 - a) d 0 s.2) else (mr_up (a - low - 2) (-d) 0 s.1, mr_dn (a - low) (-d) 1 s.2)
def ml_ok (a d low : Int64) : Prop := ¬ d = 0 ∨ (¬ a < low ∧ a < low + 2)
set_option maxHeartbeats 4000000 in
set_option maxRecDepth 100000 in
theorem k_M_along (l : Launch) (D : va_G) (E : ClassId × ClassId × ClassId × ClassId) (h0 sz : Nat) (ad : Nat → Nat) (th sg sn hot pc cx cy : Int32) (fo fv to tv : Int64) (fi ti : Int32) (a d low : Int64) : Met l y_M_along (.code y_M_along c_M_along 7 (some .boolean) :: gw) ({ frames := 2, cells := 0, slots := 0, locals := 90 } : Room) (wP D E [(h0, .inr (3, mF ad th sg sn hot pc cx cy fo fv to tv fi ti))] sz [.ref h0, .long a, .long d, .long low]) (va_Qi (fun (r : Int32) (u : Unit) => r = b01 (ml_ok a d low)) (wB D (fun _ => [(h0, .inr (3, mF ad th sg sn hot pc cx cy ((ml_iv a d low ((fo, fv, fi), (to, tv, ti))).1.1) ((ml_iv a d low ((fo, fv, fi), (to, tv, ti))).1.2.1) ((ml_iv a d low ((fo, fv, fi), (to, tv, ti))).2.1) ((ml_iv a d low ((fo, fv, fi), (to, tv, ti))).2.2.1) ((ml_iv a d low ((fo, fv, fi), (to, tv, ti))).1.2.2) ((ml_iv a d low ((fo, fv, fi), (to, tv, ti))).2.2.2)))]) (va_A [(h0, .inr (3, mF ad th sg sn hot pc cx cy fo fv to tv fi ti))] sz)) (va_A [(h0, .inr (3, mF ad th sg sn hot pc cx cy fo fv to tv fi ti))] sz)) 0 0 (va_A [(h0, .inr (3, mF ad th sg sn hot pc cx cy fo fv to tv fi ti))] sz) := by
  refine wr_ofW (Qc := fun A => (va_Qi (fun (r : Int32) (u : Unit) => r = b01 (ml_ok a d low)) (wB D (fun _ => [(h0, .inr (3, mF ad th sg sn hot pc cx cy ((ml_iv a d low ((fo, fv, fi), (to, tv, ti))).1.1) ((ml_iv a d low ((fo, fv, fi), (to, tv, ti))).1.2.1) ((ml_iv a d low ((fo, fv, fi), (to, tv, ti))).2.1) ((ml_iv a d low ((fo, fv, fi), (to, tv, ti))).2.2.1) ((ml_iv a d low ((fo, fv, fi), (to, tv, ti))).1.2.2) ((ml_iv a d low ((fo, fv, fi), (to, tv, ti))).2.2.2)))]) A) A)) (by decide) (Nat.le_of_ble_eq_true rfl) ?_
  intro p e s m below meth c B hP hK A hA hD hS ls hl
  obtain ⟨hx, hb, hrt, hml, hown, hts, hG, hlocks, hin⟩ := B
  have hl : lv_has ls 7 [(0, .ref h0), (1, .long a), (3, .long d), (5, .long low)] := hl
  refine lv_lload_n hx hb d_M_along_0 rfl (lv_at hl 2 rfl) ?_
  refine lv_lconst (v := 0) hx hb d_M_along_1 (by decide) ?_
  refine W.lcmp hx hb d_M_along_2 ?_
  refine lv_if_ne (tgt := 30) hx hb d_M_along_3 (by decide) (fun c1 => ?_) (fun c1 => ?_)
  · have d0 : ¬ d = 0 := fun h => c1 (lg_eq.mpr h)
    refine lv_lload_n hx hb d_M_along_30 rfl (lv_at hl 2 rfl) ?_
    refine lv_lconst (v := 0) hx hb d_M_along_31 (by decide) ?_
    refine W.lcmp hx hb d_M_along_32 ?_
    refine lv_if_le (tgt := 63) hx hb d_M_along_33 (by decide) (fun c2 => ?_) (fun c2 => ?_)
    · rw [show (ml_iv a d low ((fo, fv, fi), (to, tv, ti))) = (mr_up (a - low - 2) (-d) 0 (fo, fv, fi), mr_dn (a - low) (-d) 1 (to, tv, ti)) from by rw [ml_iv, if_neg d0, if_neg (lg_le.mp c2)]]
      refine lv_aload_n hx hb d_M_along_63 rfl (lv_at hl 0 rfl) ?_
      refine lv_lload_n hx hb d_M_along_64 rfl (lv_at hl 1 rfl) ?_
      refine lv_lload hx hb d_M_along_65 (lv_at hl 3 rfl) ?_
      refine lv_lsub hx hb d_M_along_67 ?_
      refine lv_ldc2 hx hb hown (hG _ wd_763) d_M_along_68 ?_
      refine lv_lsub hx hb d_M_along_71 ?_
      refine lv_lload_n hx hb d_M_along_72 rfl (lv_at hl 2 rfl) ?_
      refine lv_lneg hx hb d_M_along_73 ?_
      refine lv_iconst (v := 0) hx hb d_M_along_74 (by decide) ?_
      have hPc := hP.sub (ws' := [(h0, .inr (3, mF ad th sg sn hot pc cx cy fo fv to tv fi ti))]) [0] rfl
      have hDc := hD.sub (ws' := [(h0, .inr (3, mF ad th sg sn hot pc cx cy fo fv to tv fi ti))]) [0] (by decide) rfl
      have hFc := va_free (wc := [(h0, .inr (3, mF ad th sg sn hot pc cx cy fo fv to tv fi ti))]) hD hS hA [0] rfl
      refine va_callv (va_runV (As := [.long ((a - low) - 2), .long (-d), .int 0]) (rest := []) ⟨hx, hb, hml, hown, hts⟩ (k_M_raise l D E h0 s.heap.size ad th sg sn hot pc cx cy fo fv to tv fi ti (a - low - 2) (-d) 0) (cwV 3 hts (gw_gv wd_768 wd_770 wd_26 wd_42 wd_771) rfl rfl rfl (by decide +kernel) ⟨Nat.le_of_ble_eq_true rfl, Nat.le_of_ble_eq_true rfl⟩) (wP_V 0 hPc hK hDc rfl rfl) rfl rfl hl.1 rfl (lv_room (Nat.le_of_ble_eq_true rfl)) d_M_along_75 ⟨Nat.le_of_ble_eq_true rfl, Nat.le_of_ble_eq_true rfl⟩) hS (fun q _ h => hFc q h) hFc (fun u t H1 locs ht hvm hw hB hz1 hk1 hS => ?_)
      obtain ⟨hP1, hD1⟩ := hB
      rw [ht] at hP1
      obtain ⟨hP, hD⟩ := va_join (wr := []) (w1 := [(h0, .inr (3, mF ad th sg sn hot pc cx cy ((mr_up (a - low - 2) (-d) 0 (fo, fv, fi)).1) ((mr_up (a - low - 2) (-d) 0 (fo, fv, fi)).2.1) to tv ((mr_up (a - low - 2) (-d) 0 (fo, fv, fi)).2.2) ti))]) hP hD [0] [] rfl rfl (by decide) (by decide) hk1 hFc hP1 hD1
      generalize H1 = H at hP hS ⊢
      have hP : va_P D vwC [(h0, .inr (3, mF ad th sg sn hot pc cx cy ((mr_up (a - low - 2) (-d) 0 (fo, fv, fi)).1) ((mr_up (a - low - 2) (-d) 0 (fo, fv, fi)).2.1) to tv ((mr_up (a - low - 2) (-d) 0 (fo, fv, fi)).2.2) ti))] H := hP
      have hD : va_D A [(h0, .inr (3, mF ad th sg sn hot pc cx cy ((mr_up (a - low - 2) (-d) 0 (fo, fv, fi)).1) ((mr_up (a - low - 2) (-d) 0 (fo, fv, fi)).2.1) to tv ((mr_up (a - low - 2) (-d) 0 (fo, fv, fi)).2.2) ti))] := hD
      refine lv_aload_n hx hb d_M_along_78 rfl (lv_at hl 0 rfl) ?_
      refine lv_lload_n hx hb d_M_along_79 rfl (lv_at hl 1 rfl) ?_
      refine lv_lload hx hb d_M_along_80 (lv_at hl 3 rfl) ?_
      refine lv_lsub hx hb d_M_along_82 ?_
      refine lv_lload_n hx hb d_M_along_83 rfl (lv_at hl 2 rfl) ?_
      refine lv_lneg hx hb d_M_along_84 ?_
      refine lv_iconst (v := 1) hx hb d_M_along_85 (by decide) ?_
      have hPc := hP.sub (ws' := [(h0, .inr (3, mF ad th sg sn hot pc cx cy ((mr_up (a - low - 2) (-d) 0 (fo, fv, fi)).1) ((mr_up (a - low - 2) (-d) 0 (fo, fv, fi)).2.1) to tv ((mr_up (a - low - 2) (-d) 0 (fo, fv, fi)).2.2) ti))]) [0] rfl
      have hDc := hD.sub (ws' := [(h0, .inr (3, mF ad th sg sn hot pc cx cy ((mr_up (a - low - 2) (-d) 0 (fo, fv, fi)).1) ((mr_up (a - low - 2) (-d) 0 (fo, fv, fi)).2.1) to tv ((mr_up (a - low - 2) (-d) 0 (fo, fv, fi)).2.2) ti))]) [0] (by decide) rfl
      have hFc := va_free (wc := [(h0, .inr (3, mF ad th sg sn hot pc cx cy ((mr_up (a - low - 2) (-d) 0 (fo, fv, fi)).1) ((mr_up (a - low - 2) (-d) 0 (fo, fv, fi)).2.1) to tv ((mr_up (a - low - 2) (-d) 0 (fo, fv, fi)).2.2) ti))]) hD hS hA [0] rfl
      refine va_callv (va_runV (As := [.long (a - low), .long (-d), .int 1]) (rest := []) ⟨hx, hb, hml, hown, hts⟩ (k_M_reduce l D E h0 H.size ad th sg sn hot pc cx cy (mr_up (a - low - 2) (-d) 0 (fo, fv, fi)).1 (mr_up (a - low - 2) (-d) 0 (fo, fv, fi)).2.1 to tv (mr_up (a - low - 2) (-d) 0 (fo, fv, fi)).2.2 ti (a - low) (-d) 1) (cwV 3 hts (gw_gv wd_775 wd_777 wd_27 wd_42 wd_778) rfl rfl rfl (by decide +kernel) ⟨Nat.le_of_ble_eq_true rfl, Nat.le_of_ble_eq_true rfl⟩) (wP_V 0 hPc hK hDc rfl rfl) rfl rfl hl.1 rfl (lv_room (Nat.le_of_ble_eq_true rfl)) d_M_along_86 ⟨Nat.le_of_ble_eq_true rfl, Nat.le_of_ble_eq_true rfl⟩) hS (fun q _ h => hFc q h) hFc (fun u t H1 locs ht hvm hw hB hz1 hk1 hS => ?_)
      obtain ⟨hP1, hD1⟩ := hB
      rw [ht] at hP1
      obtain ⟨hP, hD⟩ := va_join (wr := []) (w1 := [(h0, .inr (3, mF ad th sg sn hot pc cx cy ((mr_up (a - low - 2) (-d) 0 (fo, fv, fi)).1) ((mr_up (a - low - 2) (-d) 0 (fo, fv, fi)).2.1) ((mr_dn (a - low) (-d) 1 (to, tv, ti)).1) ((mr_dn (a - low) (-d) 1 (to, tv, ti)).2.1) ((mr_up (a - low - 2) (-d) 0 (fo, fv, fi)).2.2) ((mr_dn (a - low) (-d) 1 (to, tv, ti)).2.2)))]) hP hD [0] [] rfl rfl (by decide) (by decide) hk1 hFc hP1 hD1
      generalize H1 = H at hP hS ⊢
      have hP : va_P D vwC [(h0, .inr (3, mF ad th sg sn hot pc cx cy ((mr_up (a - low - 2) (-d) 0 (fo, fv, fi)).1) ((mr_up (a - low - 2) (-d) 0 (fo, fv, fi)).2.1) ((mr_dn (a - low) (-d) 1 (to, tv, ti)).1) ((mr_dn (a - low) (-d) 1 (to, tv, ti)).2.1) ((mr_up (a - low - 2) (-d) 0 (fo, fv, fi)).2.2) ((mr_dn (a - low) (-d) 1 (to, tv, ti)).2.2)))] H := hP
      have hD : va_D A [(h0, .inr (3, mF ad th sg sn hot pc cx cy ((mr_up (a - low - 2) (-d) 0 (fo, fv, fi)).1) ((mr_up (a - low - 2) (-d) 0 (fo, fv, fi)).2.1) ((mr_dn (a - low) (-d) 1 (to, tv, ti)).1) ((mr_dn (a - low) (-d) 1 (to, tv, ti)).2.1) ((mr_up (a - low - 2) (-d) 0 (fo, fv, fi)).2.2) ((mr_dn (a - low) (-d) 1 (to, tv, ti)).2.2)))] := hD
      refine lv_iconst (v := 1) hx hb d_M_along_89 (by decide) ?_
      exact W.zret (v := 1) (ty := .boolean) hx hb hrt rfl (fun t ht hW => ⟨⟨1, (), rfl, (b01_t (p := ml_ok a d low) (Or.inl d0)).symm, ⟨by rw [ht]; exact hP, hD⟩⟩, hS.F ht⟩) hS.2.2 d_M_along_90 hlocks
    · rw [show (ml_iv a d low ((fo, fv, fi), (to, tv, ti))) = (mr_up (low - a) d 1 (fo, fv, fi), mr_dn (low + 2 - a) d 0 (to, tv, ti)) from by rw [ml_iv, if_neg d0, if_pos (lg_le' c2)]]
      refine lv_aload_n hx hb d_M_along_36 rfl (lv_at hl 0 rfl) ?_
      refine lv_lload hx hb d_M_along_37 (lv_at hl 3 rfl) ?_
      refine lv_lload_n hx hb d_M_along_39 rfl (lv_at hl 1 rfl) ?_
      refine lv_lsub hx hb d_M_along_40 ?_
      refine lv_lload_n hx hb d_M_along_41 rfl (lv_at hl 2 rfl) ?_
      refine lv_iconst (v := 1) hx hb d_M_along_42 (by decide) ?_
      have hPc := hP.sub (ws' := [(h0, .inr (3, mF ad th sg sn hot pc cx cy fo fv to tv fi ti))]) [0] rfl
      have hDc := hD.sub (ws' := [(h0, .inr (3, mF ad th sg sn hot pc cx cy fo fv to tv fi ti))]) [0] (by decide) rfl
      have hFc := va_free (wc := [(h0, .inr (3, mF ad th sg sn hot pc cx cy fo fv to tv fi ti))]) hD hS hA [0] rfl
      refine va_callv (va_runV (As := [.long (low - a), .long d, .int 1]) (rest := []) ⟨hx, hb, hml, hown, hts⟩ (k_M_raise l D E h0 s.heap.size ad th sg sn hot pc cx cy fo fv to tv fi ti (low - a) d 1) (cwV 3 hts (gw_gv wd_768 wd_770 wd_26 wd_42 wd_771) rfl rfl rfl (by decide +kernel) ⟨Nat.le_of_ble_eq_true rfl, Nat.le_of_ble_eq_true rfl⟩) (wP_V 0 hPc hK hDc rfl rfl) rfl rfl hl.1 rfl (lv_room (Nat.le_of_ble_eq_true rfl)) d_M_along_43 ⟨Nat.le_of_ble_eq_true rfl, Nat.le_of_ble_eq_true rfl⟩) hS (fun q _ h => hFc q h) hFc (fun u t H1 locs ht hvm hw hB hz1 hk1 hS => ?_)
      obtain ⟨hP1, hD1⟩ := hB
      rw [ht] at hP1
      obtain ⟨hP, hD⟩ := va_join (wr := []) (w1 := [(h0, .inr (3, mF ad th sg sn hot pc cx cy ((mr_up (low - a) d 1 (fo, fv, fi)).1) ((mr_up (low - a) d 1 (fo, fv, fi)).2.1) to tv ((mr_up (low - a) d 1 (fo, fv, fi)).2.2) ti))]) hP hD [0] [] rfl rfl (by decide) (by decide) hk1 hFc hP1 hD1
      generalize H1 = H at hP hS ⊢
      have hP : va_P D vwC [(h0, .inr (3, mF ad th sg sn hot pc cx cy ((mr_up (low - a) d 1 (fo, fv, fi)).1) ((mr_up (low - a) d 1 (fo, fv, fi)).2.1) to tv ((mr_up (low - a) d 1 (fo, fv, fi)).2.2) ti))] H := hP
      have hD : va_D A [(h0, .inr (3, mF ad th sg sn hot pc cx cy ((mr_up (low - a) d 1 (fo, fv, fi)).1) ((mr_up (low - a) d 1 (fo, fv, fi)).2.1) to tv ((mr_up (low - a) d 1 (fo, fv, fi)).2.2) ti))] := hD
      refine lv_aload_n hx hb d_M_along_46 rfl (lv_at hl 0 rfl) ?_
      refine lv_lload hx hb d_M_along_47 (lv_at hl 3 rfl) ?_
      refine lv_ldc2 hx hb hown (hG _ wd_763) d_M_along_49 ?_
      refine lv_ladd hx hb d_M_along_52 ?_
      refine lv_lload_n hx hb d_M_along_53 rfl (lv_at hl 1 rfl) ?_
      refine lv_lsub hx hb d_M_along_54 ?_
      refine lv_lload_n hx hb d_M_along_55 rfl (lv_at hl 2 rfl) ?_
      refine lv_iconst (v := 0) hx hb d_M_along_56 (by decide) ?_
      have hPc := hP.sub (ws' := [(h0, .inr (3, mF ad th sg sn hot pc cx cy ((mr_up (low - a) d 1 (fo, fv, fi)).1) ((mr_up (low - a) d 1 (fo, fv, fi)).2.1) to tv ((mr_up (low - a) d 1 (fo, fv, fi)).2.2) ti))]) [0] rfl
      have hDc := hD.sub (ws' := [(h0, .inr (3, mF ad th sg sn hot pc cx cy ((mr_up (low - a) d 1 (fo, fv, fi)).1) ((mr_up (low - a) d 1 (fo, fv, fi)).2.1) to tv ((mr_up (low - a) d 1 (fo, fv, fi)).2.2) ti))]) [0] (by decide) rfl
      have hFc := va_free (wc := [(h0, .inr (3, mF ad th sg sn hot pc cx cy ((mr_up (low - a) d 1 (fo, fv, fi)).1) ((mr_up (low - a) d 1 (fo, fv, fi)).2.1) to tv ((mr_up (low - a) d 1 (fo, fv, fi)).2.2) ti))]) hD hS hA [0] rfl
      refine va_callv (va_runV (As := [.long ((low + 2) - a), .long d, .int 0]) (rest := []) ⟨hx, hb, hml, hown, hts⟩ (k_M_reduce l D E h0 H.size ad th sg sn hot pc cx cy (mr_up (low - a) d 1 (fo, fv, fi)).1 (mr_up (low - a) d 1 (fo, fv, fi)).2.1 to tv (mr_up (low - a) d 1 (fo, fv, fi)).2.2 ti (low + 2 - a) d 0) (cwV 3 hts (gw_gv wd_775 wd_777 wd_27 wd_42 wd_778) rfl rfl rfl (by decide +kernel) ⟨Nat.le_of_ble_eq_true rfl, Nat.le_of_ble_eq_true rfl⟩) (wP_V 0 hPc hK hDc rfl rfl) rfl rfl hl.1 rfl (lv_room (Nat.le_of_ble_eq_true rfl)) d_M_along_57 ⟨Nat.le_of_ble_eq_true rfl, Nat.le_of_ble_eq_true rfl⟩) hS (fun q _ h => hFc q h) hFc (fun u t H1 locs ht hvm hw hB hz1 hk1 hS => ?_)
      obtain ⟨hP1, hD1⟩ := hB
      rw [ht] at hP1
      obtain ⟨hP, hD⟩ := va_join (wr := []) (w1 := [(h0, .inr (3, mF ad th sg sn hot pc cx cy ((mr_up (low - a) d 1 (fo, fv, fi)).1) ((mr_up (low - a) d 1 (fo, fv, fi)).2.1) ((mr_dn (low + 2 - a) d 0 (to, tv, ti)).1) ((mr_dn (low + 2 - a) d 0 (to, tv, ti)).2.1) ((mr_up (low - a) d 1 (fo, fv, fi)).2.2) ((mr_dn (low + 2 - a) d 0 (to, tv, ti)).2.2)))]) hP hD [0] [] rfl rfl (by decide) (by decide) hk1 hFc hP1 hD1
      generalize H1 = H at hP hS ⊢
      have hP : va_P D vwC [(h0, .inr (3, mF ad th sg sn hot pc cx cy ((mr_up (low - a) d 1 (fo, fv, fi)).1) ((mr_up (low - a) d 1 (fo, fv, fi)).2.1) ((mr_dn (low + 2 - a) d 0 (to, tv, ti)).1) ((mr_dn (low + 2 - a) d 0 (to, tv, ti)).2.1) ((mr_up (low - a) d 1 (fo, fv, fi)).2.2) ((mr_dn (low + 2 - a) d 0 (to, tv, ti)).2.2)))] H := hP
      have hD : va_D A [(h0, .inr (3, mF ad th sg sn hot pc cx cy ((mr_up (low - a) d 1 (fo, fv, fi)).1) ((mr_up (low - a) d 1 (fo, fv, fi)).2.1) ((mr_dn (low + 2 - a) d 0 (to, tv, ti)).1) ((mr_dn (low + 2 - a) d 0 (to, tv, ti)).2.1) ((mr_up (low - a) d 1 (fo, fv, fi)).2.2) ((mr_dn (low + 2 - a) d 0 (to, tv, ti)).2.2)))] := hD
      refine lv_goto (tgt := 89) hx hb d_M_along_60 (by decide) ?_
      refine lv_iconst (v := 1) hx hb d_M_along_89 (by decide) ?_
      exact W.zret (v := 1) (ty := .boolean) hx hb hrt rfl (fun t ht hW => ⟨⟨1, (), rfl, (b01_t (p := ml_ok a d low) (Or.inl d0)).symm, ⟨by rw [ht]; exact hP, hD⟩⟩, hS.F ht⟩) hS.2.2 d_M_along_90 hlocks
  · have d0 : d = 0 := lg_eq.mp c1
    rw [show (ml_iv a d low ((fo, fv, fi), (to, tv, ti))) = ((fo, fv, fi), (to, tv, ti)) from by rw [ml_iv, if_pos d0]]
    refine lv_lload_n hx hb d_M_along_6 rfl (lv_at hl 1 rfl) ?_
    refine lv_lload hx hb d_M_along_7 (lv_at hl 3 rfl) ?_
    refine W.lcmp hx hb d_M_along_9 ?_
    refine lv_if_lt (tgt := 28) hx hb d_M_along_10 (by decide) (fun c2 => ?_) (fun c2 => ?_)
    · refine lv_iconst (v := 0) hx hb d_M_along_28 (by decide) ?_
      exact W.zret (v := 0) (ty := .boolean) hx hb hrt rfl (fun t ht hW => ⟨⟨0, (), rfl, by rw [b01_f]; intro h; exact h.elim (fun g => g d0) (fun g => g.1 (lg_lt.mp c2)), ⟨by rw [ht]; exact hP, hD⟩⟩, hS.F ht⟩) hS.2.2 d_M_along_29 hlocks
    · refine lv_lload_n hx hb d_M_along_13 rfl (lv_at hl 1 rfl) ?_
      refine lv_lload hx hb d_M_along_14 (lv_at hl 3 rfl) ?_
      refine lv_ldc2 hx hb hown (hG _ wd_763) d_M_along_16 ?_
      refine lv_ladd hx hb d_M_along_19 ?_
      refine W.lcmp hx hb d_M_along_20 ?_
      refine lv_if_ge (tgt := 28) hx hb d_M_along_21 (by decide) (fun c3 => ?_) (fun c3 => ?_)
      · refine lv_iconst (v := 0) hx hb d_M_along_28 (by decide) ?_
        exact W.zret (v := 0) (ty := .boolean) hx hb hrt rfl (fun t ht hW => ⟨⟨0, (), rfl, by rw [b01_f]; intro h; exact h.elim (fun g => g d0) (fun g => lg_ge.mp c3 g.2), ⟨by rw [ht]; exact hP, hD⟩⟩, hS.F ht⟩) hS.2.2 d_M_along_29 hlocks
      · refine lv_iconst (v := 1) hx hb d_M_along_24 (by decide) ?_
        refine lv_goto (tgt := 29) hx hb d_M_along_25 (by decide) ?_
        exact W.zret (v := 1) (ty := .boolean) hx hb hrt rfl (fun t ht hW => ⟨⟨1, (), rfl, (b01_t (p := ml_ok a d low) (Or.inr ⟨fun h => c2 (lg_lt.mpr h), lg_ge' c3⟩)).symm, ⟨by rw [ht]; exact hP, hD⟩⟩, hS.F ht⟩) hS.2.2 d_M_along_29 hlocks
/-- the k-th segment of the reference -/
def mq (e : Nat → Int32) (k : Nat) : SQ := (e (4 * k), e (4 * k + 1), e (4 * k + 2), e (4 * k + 3))
def mi_1 (q : SQ) (x : Int32) : IV := ml_iv (2 * sx q) (2 * su q - 2 * sx q) (2 * Int32.toInt64 x - 1) ((0, 1, 1), (1, 1, 1))
def mi_ok1 (q : SQ) (x : Int32) : Prop := ml_ok (2 * sx q) (2 * su q - 2 * sx q) (2 * Int32.toInt64 x - 1)
def mi_ok2 (q : SQ) (y : Int32) : Prop := ml_ok (2 * sy q) (2 * sv q - 2 * sy q) (2 * Int32.toInt64 y - 1)
def mi_2 (q : SQ) (x y : Int32) : IV := ml_iv (2 * sy q) (2 * sv q - 2 * sy q) (2 * Int32.toInt64 y - 1) (mi_1 q x)
def mi_iv (q : SQ) (x y : Int32) : IV := @ite _ (mi_ok1 q x) (Classical.propDecidable _) (mi_2 q x y) (mi_1 q x)
def mv_c (v : IV) : Int32 := mr_cmp v.1.1 v.1.2.1 v.2.1 v.2.2.1
def mi_in (q : SQ) (x y : Int32) : Prop := (mi_ok1 q x ∧ mi_ok2 q y) ∧ (mv_c (mi_iv q x y) < 0 ∨ (mv_c (mi_iv q x y) = 0 ∧ ¬ (mi_iv q x y).1.2.2 = 0 ∧ ¬ (mi_iv q x y).2.2.2 = 0))
theorem mi_iv_t {q : SQ} {x y : Int32} (h : mi_ok1 q x) : mi_iv q x y = mi_2 q x y := @if_pos _ (Classical.propDecidable _) h _ _ _
theorem mi_iv_f {q : SQ} {x y : Int32} (h : ¬ mi_ok1 q x) : mi_iv q x y = mi_1 q x := @if_neg _ (Classical.propDecidable _) h _ _ _
set_option maxHeartbeats 4000000 in
set_option maxRecDepth 100000 in
theorem k_M_isIn (l : Launch) (D : va_G) (E : ClassId × ClassId × ClassId × ClassId) (h0 sz : Nat) (ad : Nat → Nat) (th sg sn hot pc cx cy : Int32) (fo fv to tv : Int64) (fi ti : Int32) (e9 : Nat → Int32) (k : Nat) (x y : Int32) (hk : 4 * k + 3 < 8192) : Met l y_M_isIn (.code y_M_isIn c_M_isIn 7 (some .boolean) :: gw) ({ frames := 3, cells := 0, slots := 0, locals := 130 } : Room) (wP D E [(h0, .inr (3, mF ad th sg sn hot pc cx cy fo fv to tv fi ti)), ((ad 0), .inl (E.2.1, 8192, .inl e9))] sz [.ref h0, .int (nI k), .int x, .int y]) (va_Qi (fun (r : Int32) (u : Unit) => r = b01 (mi_in (mq e9 k) x y)) (wB D (fun _ => [(h0, .inr (3, mF ad th sg sn hot pc cx cy ((mi_iv (mq e9 k) x y).1.1) ((mi_iv (mq e9 k) x y).1.2.1) ((mi_iv (mq e9 k) x y).2.1) ((mi_iv (mq e9 k) x y).2.2.1) ((mi_iv (mq e9 k) x y).1.2.2) ((mi_iv (mq e9 k) x y).2.2.2))), ((ad 0), .inl (E.2.1, 8192, .inl e9))]) (va_A [(h0, .inr (3, mF ad th sg sn hot pc cx cy fo fv to tv fi ti)), ((ad 0), .inl (E.2.1, 8192, .inl e9))] sz)) (va_A [(h0, .inr (3, mF ad th sg sn hot pc cx cy fo fv to tv fi ti)), ((ad 0), .inl (E.2.1, 8192, .inl e9))] sz)) 0 0 (va_A [(h0, .inr (3, mF ad th sg sn hot pc cx cy fo fv to tv fi ti)), ((ad 0), .inl (E.2.1, 8192, .inl e9))] sz) := by
  refine wr_ofW (Qc := fun A => (va_Qi (fun (r : Int32) (u : Unit) => r = b01 (mi_in (mq e9 k) x y)) (wB D (fun _ => [(h0, .inr (3, mF ad th sg sn hot pc cx cy ((mi_iv (mq e9 k) x y).1.1) ((mi_iv (mq e9 k) x y).1.2.1) ((mi_iv (mq e9 k) x y).2.1) ((mi_iv (mq e9 k) x y).2.2.1) ((mi_iv (mq e9 k) x y).1.2.2) ((mi_iv (mq e9 k) x y).2.2.2))), ((ad 0), .inl (E.2.1, 8192, .inl e9))]) A) A)) (by decide) (Nat.le_of_ble_eq_true rfl) ?_
  intro p e s m below meth c B hP hK A hA hD hS ls hl
  obtain ⟨hx, hb, hrt, hml, hown, hts, hG, hlocks, hin⟩ := B
  have hl : lv_has ls 7 [(0, .ref h0), (1, .int (nI k)), (2, .int x), (3, .int y)] := hl
  obtain ⟨q, hq⟩ : ∃ q, q = mq e9 k := ⟨_, rfl⟩
  rw [← hq]
  have g0 : e9 (4 * k) = q.1 := by rw [hq]; rfl
  have g1 : e9 (4 * k + 1) = q.2.1 := by rw [hq]; rfl
  have g2 : e9 (4 * k + 2) = q.2.2.1 := by rw [hq]; rfl
  have g3 : e9 (4 * k + 3) = q.2.2.2 := by rw [hq]; rfl
  refine lv_iconst (v := 4) hx hb d_M_isIn_0 (by decide) ?_
  refine lv_iload_n hx hb d_M_isIn_1 rfl (lv_at hl 1 rfl) ?_
  refine lv_imul hx hb d_M_isIn_2 ?_
  rw [show (4 * nI k) = nI (4 * k) from pk_mul 4 k]
  refine lv_istore (lv' := [(4, .int (nI (4 * k))), (0, .ref h0), (1, .int (nI k)), (2, .int x), (3, .int y)]) hx hb d_M_isIn_3 hl (by decide) rfl (fun ls hl => ?_)
  refine lv_aload_n hx hb d_M_isIn_5 rfl (lv_at hl 1 rfl) ?_
  refine lv_lconst (v := 0) hx hb d_M_isIn_6 (by decide) ?_
  refine va_put (D := D) (ci := 3) (v := .long 0) (ty := .long) (C := K_M) (T := F_M) (N := 24) hx hb hG in_M t_M t_M_ok n_M hown hK.1 hP hD hS 0 rfl rfl 15 (by decide) (hG _ wd_663) (fun _ h9 => h9) rfl (by decide +kernel) rfl rfl (Nat.le_of_ble_eq_true rfl) d_M_isIn_7 (fun H locs hP hD hS => ?_)
  have hP : va_P D vwC [(h0, .inr (3, mF ad th sg sn hot pc cx cy 0 fv to tv fi ti)), ((ad 0), .inl (E.2.1, 8192, .inl e9))] H := hP
  have hD : va_D A [(h0, .inr (3, mF ad th sg sn hot pc cx cy 0 fv to tv fi ti)), ((ad 0), .inl (E.2.1, 8192, .inl e9))] := hD
  refine lv_aload_n hx hb d_M_isIn_10 rfl (lv_at hl 1 rfl) ?_
  refine lv_lconst (v := 1) hx hb d_M_isIn_11 (by decide) ?_
  refine va_put (D := D) (ci := 3) (v := .long 1) (ty := .long) (C := K_M) (T := F_M) (N := 24) hx hb hG in_M t_M t_M_ok n_M hown hK.1 hP hD hS 0 rfl rfl 16 (by decide) (hG _ wd_664) (fun _ h9 => h9) rfl (by decide +kernel) rfl rfl (Nat.le_of_ble_eq_true rfl) d_M_isIn_12 (fun H locs hP hD hS => ?_)
  have hP : va_P D vwC [(h0, .inr (3, mF ad th sg sn hot pc cx cy 0 1 to tv fi ti)), ((ad 0), .inl (E.2.1, 8192, .inl e9))] H := hP
  have hD : va_D A [(h0, .inr (3, mF ad th sg sn hot pc cx cy 0 1 to tv fi ti)), ((ad 0), .inl (E.2.1, 8192, .inl e9))] := hD
  refine lv_aload_n hx hb d_M_isIn_15 rfl (lv_at hl 1 rfl) ?_
  refine lv_iconst (v := 1) hx hb d_M_isIn_16 (by decide) ?_
  refine va_put (D := D) (ci := 3) (v := .int 1) (ty := .boolean) (C := K_M) (T := F_M) (N := 24) hx hb hG in_M t_M t_M_ok n_M hown hK.1 hP hD hS 0 rfl rfl 19 (by decide) (hG _ wd_667) (fun _ h9 => h9) rfl (by decide +kernel) rfl rfl (Nat.le_of_ble_eq_true rfl) d_M_isIn_17 (fun H locs hP hD hS => ?_)
  have hP : va_P D vwC [(h0, .inr (3, mF ad th sg sn hot pc cx cy 0 1 to tv 1 ti)), ((ad 0), .inl (E.2.1, 8192, .inl e9))] H := hP
  have hD : va_D A [(h0, .inr (3, mF ad th sg sn hot pc cx cy 0 1 to tv 1 ti)), ((ad 0), .inl (E.2.1, 8192, .inl e9))] := hD
  refine lv_aload_n hx hb d_M_isIn_20 rfl (lv_at hl 1 rfl) ?_
  refine lv_lconst (v := 1) hx hb d_M_isIn_21 (by decide) ?_
  refine va_put (D := D) (ci := 3) (v := .long 1) (ty := .long) (C := K_M) (T := F_M) (N := 24) hx hb hG in_M t_M t_M_ok n_M hown hK.1 hP hD hS 0 rfl rfl 17 (by decide) (hG _ wd_665) (fun _ h9 => h9) rfl (by decide +kernel) rfl rfl (Nat.le_of_ble_eq_true rfl) d_M_isIn_22 (fun H locs hP hD hS => ?_)
  have hP : va_P D vwC [(h0, .inr (3, mF ad th sg sn hot pc cx cy 0 1 1 tv 1 ti)), ((ad 0), .inl (E.2.1, 8192, .inl e9))] H := hP
  have hD : va_D A [(h0, .inr (3, mF ad th sg sn hot pc cx cy 0 1 1 tv 1 ti)), ((ad 0), .inl (E.2.1, 8192, .inl e9))] := hD
  refine lv_aload_n hx hb d_M_isIn_25 rfl (lv_at hl 1 rfl) ?_
  refine lv_lconst (v := 1) hx hb d_M_isIn_26 (by decide) ?_
  refine va_put (D := D) (ci := 3) (v := .long 1) (ty := .long) (C := K_M) (T := F_M) (N := 24) hx hb hG in_M t_M t_M_ok n_M hown hK.1 hP hD hS 0 rfl rfl 18 (by decide) (hG _ wd_666) (fun _ h9 => h9) rfl (by decide +kernel) rfl rfl (Nat.le_of_ble_eq_true rfl) d_M_isIn_27 (fun H locs hP hD hS => ?_)
  have hP : va_P D vwC [(h0, .inr (3, mF ad th sg sn hot pc cx cy 0 1 1 1 1 ti)), ((ad 0), .inl (E.2.1, 8192, .inl e9))] H := hP
  have hD : va_D A [(h0, .inr (3, mF ad th sg sn hot pc cx cy 0 1 1 1 1 ti)), ((ad 0), .inl (E.2.1, 8192, .inl e9))] := hD
  refine lv_aload_n hx hb d_M_isIn_30 rfl (lv_at hl 1 rfl) ?_
  refine lv_iconst (v := 1) hx hb d_M_isIn_31 (by decide) ?_
  refine va_put (D := D) (ci := 3) (v := .int 1) (ty := .boolean) (C := K_M) (T := F_M) (N := 24) hx hb hG in_M t_M t_M_ok n_M hown hK.1 hP hD hS 0 rfl rfl 20 (by decide) (hG _ wd_668) (fun _ h9 => h9) rfl (by decide +kernel) rfl rfl (Nat.le_of_ble_eq_true rfl) d_M_isIn_32 (fun H locs hP hD hS => ?_)
  have hP : va_P D vwC [(h0, .inr (3, mF ad th sg sn hot pc cx cy 0 1 1 1 1 1)), ((ad 0), .inl (E.2.1, 8192, .inl e9))] H := hP
  have hD : va_D A [(h0, .inr (3, mF ad th sg sn hot pc cx cy 0 1 1 1 1 1)), ((ad 0), .inl (E.2.1, 8192, .inl e9))] := hD
  refine lv_aload_n hx hb d_M_isIn_35 rfl (lv_at hl 1 rfl) ?_
  refine lv_ldc2 hx hb hown (hG _ wd_763) d_M_isIn_36 ?_
  refine lv_aload_n hx hb d_M_isIn_39 rfl (lv_at hl 1 rfl) ?_
  refine va_get (D := D) (ci := 3) (v := .ref (ad 0)) (C := K_M) (T := F_M) (N := 24) hx hb hG in_M hown hK.1 hP 0 rfl rfl 2 (by decide) (hG _ wd_650) (fun _ h9 => h9) rfl d_M_isIn_40 ?_
  refine lv_iload hx hb d_M_isIn_43 (lv_at hl 0 rfl) ?_
  refine va_iald hx hb hK.1 hP 1 1 rfl rfl (vp_in_nI (by omega) (by omega)) d_M_isIn_45 ?_
  rw [show e9 (Int32.toNatClampNeg (nI (4 * k))) = q.1 from by rw [nI_clamp (by omega)]; exact g0]
  refine lv_i2l hx hb d_M_isIn_46 rfl ?_
  rw [show (Int32.toInt64 q.1) = (sx q) from rfl]
  refine lv_lmul hx hb d_M_isIn_47 ?_
  refine lv_ldc2 hx hb hown (hG _ wd_763) d_M_isIn_48 ?_
  refine lv_aload_n hx hb d_M_isIn_51 rfl (lv_at hl 1 rfl) ?_
  refine va_get (D := D) (ci := 3) (v := .ref (ad 0)) (C := K_M) (T := F_M) (N := 24) hx hb hG in_M hown hK.1 hP 0 rfl rfl 2 (by decide) (hG _ wd_650) (fun _ h9 => h9) rfl d_M_isIn_52 ?_
  refine lv_iload hx hb d_M_isIn_55 (lv_at hl 0 rfl) ?_
  refine lv_iconst (v := 2) hx hb d_M_isIn_57 (by decide) ?_
  refine lv_iadd hx hb d_M_isIn_58 ?_
  rw [show (nI (4 * k) + 2) = nI (4 * k + 2) from nI_add _ 2]
  refine va_iald hx hb hK.1 hP 1 1 rfl rfl (vp_in_nI (by omega) (by omega)) d_M_isIn_59 ?_
  rw [show e9 (Int32.toNatClampNeg (nI (4 * k + 2))) = q.2.2.1 from by rw [nI_clamp (by omega)]; exact g2]
  refine lv_i2l hx hb d_M_isIn_60 rfl ?_
  rw [show (Int32.toInt64 q.2.2.1) = (su q) from rfl]
  refine lv_lmul hx hb d_M_isIn_61 ?_
  refine lv_ldc2 hx hb hown (hG _ wd_763) d_M_isIn_62 ?_
  refine lv_aload_n hx hb d_M_isIn_65 rfl (lv_at hl 1 rfl) ?_
  refine va_get (D := D) (ci := 3) (v := .ref (ad 0)) (C := K_M) (T := F_M) (N := 24) hx hb hG in_M hown hK.1 hP 0 rfl rfl 2 (by decide) (hG _ wd_650) (fun _ h9 => h9) rfl d_M_isIn_66 ?_
  refine lv_iload hx hb d_M_isIn_69 (lv_at hl 0 rfl) ?_
  refine va_iald hx hb hK.1 hP 1 1 rfl rfl (vp_in_nI (by omega) (by omega)) d_M_isIn_71 ?_
  rw [show e9 (Int32.toNatClampNeg (nI (4 * k))) = q.1 from by rw [nI_clamp (by omega)]; exact g0]
  refine lv_i2l hx hb d_M_isIn_72 rfl ?_
  rw [show (Int32.toInt64 q.1) = (sx q) from rfl]
  refine lv_lmul hx hb d_M_isIn_73 ?_
  refine lv_lsub hx hb d_M_isIn_74 ?_
  refine lv_ldc2 hx hb hown (hG _ wd_763) d_M_isIn_75 ?_
  refine lv_iload_n hx hb d_M_isIn_78 rfl (lv_at hl 3 rfl) ?_
  refine lv_i2l hx hb d_M_isIn_79 rfl ?_
  refine lv_lmul hx hb d_M_isIn_80 ?_
  refine lv_lconst (v := 1) hx hb d_M_isIn_81 (by decide) ?_
  refine lv_lsub hx hb d_M_isIn_82 ?_
  obtain ⟨iv1, h1⟩ : ∃ v, v = mi_1 q x := ⟨_, rfl⟩
  have hPc := hP.sub (ws' := [(h0, .inr (3, mF ad th sg sn hot pc cx cy 0 1 1 1 1 1))]) [0] rfl
  have hDc := hD.sub (ws' := [(h0, .inr (3, mF ad th sg sn hot pc cx cy 0 1 1 1 1 1))]) [0] (by decide) rfl
  have hFc := va_free (wc := [(h0, .inr (3, mF ad th sg sn hot pc cx cy 0 1 1 1 1 1))]) hD hS hA [0] rfl
  refine va_calli (va_runV (As := [.long (2 * (sx q)), .long ((2 * (su q)) - (2 * (sx q))), .long ((2 * (Int32.toInt64 x)) - 1)]) (rest := []) ⟨hx, hb, hml, hown, hts⟩ (k_M_along l D E h0 H.size ad th sg sn hot pc cx cy 0 1 1 1 1 1 (2 * sx q) (2 * su q - 2 * sx q) (2 * Int32.toInt64 x - 1)) (cwV 3 hts (gw_gv wd_764 wd_766 wd_25 wd_42 wd_767) rfl rfl rfl (by decide +kernel) ⟨Nat.le_of_ble_eq_true rfl, Nat.le_of_ble_eq_true rfl⟩) (wP_V 0 hPc hK hDc rfl rfl) rfl rfl hl.1 rfl (lv_room (Nat.le_of_ble_eq_true rfl)) d_M_isIn_83 ⟨Nat.le_of_ble_eq_true rfl, Nat.le_of_ble_eq_true rfl⟩) hS (fun q _ h => hFc q h) hFc (fun r1 u t H1 locs ht hvm hw hB hz1 hk1 hS => ?_)
  obtain ⟨hP1, hD1⟩ := hB
  rw [ht] at hP1
  rw [show ml_iv (2 * sx q) (2 * su q - 2 * sx q) (2 * Int32.toInt64 x - 1) ((0, 1, 1), (1, 1, 1)) = iv1 from h1.symm] at hP1 hD1
  obtain ⟨hP, hD⟩ := va_join (wr := [((ad 0), .inl (E.2.1, 8192, .inl e9))]) (w1 := [(h0, .inr (3, mF ad th sg sn hot pc cx cy iv1.1.1 iv1.1.2.1 iv1.2.1 iv1.2.2.1 iv1.1.2.2 iv1.2.2.2))]) hP hD [0] [1] rfl rfl (by decide) (by decide) hk1 hFc hP1 hD1
  generalize H1 = H at hP hS ⊢
  have hP : va_P D vwC [((ad 0), .inl (E.2.1, 8192, .inl e9)), (h0, .inr (3, mF ad th sg sn hot pc cx cy iv1.1.1 iv1.1.2.1 iv1.2.1 iv1.2.2.1 iv1.1.2.2 iv1.2.2.2))] H := hP
  have hD : va_D A [((ad 0), .inl (E.2.1, 8192, .inl e9)), (h0, .inr (3, mF ad th sg sn hot pc cx cy iv1.1.1 iv1.1.2.1 iv1.2.1 iv1.2.2.1 iv1.1.2.2 iv1.2.2.2))] := hD
  have hw1 : r1 = b01 (mi_ok1 q x) := hw
  have J : ∀ (b : Int32) (iv : IV) (H : Heap) (locs : List Loc) (ls : Array Slot), (b = b01 (mi_ok1 q x ∧ mi_ok2 q y)) → (iv = mi_iv q x y) → va_P D vwC [((ad 0), .inl (E.2.1, 8192, .inl e9)), (h0, .inr (3, mF ad th sg sn hot pc cx cy iv.1.1 iv.1.2.1 iv.2.1 iv.2.2.1 iv.1.2.2 iv.2.2.2))] H → va_D A [((ad 0), .inl (E.2.1, 8192, .inl e9)), (h0, .inr (3, mF ad th sg sn hot pc cx cy iv.1.1 iv.1.2.1 iv.2.1 iv.2.2.1 iv.1.2.2 iv.2.2.2))] → va_S A s.heap H locs → lv_has ls 7 [(0, .ref h0)] → W p l e ({ frames := 3, cells := 0, slots := 0, locals := 130 } : Room) s m ([.ref h0, .int (nI k), .int x, .int y] : List Value).toArray below meth c H locs 0 0 (MQ below (va_Qi (fun (r : Int32) (u : Unit) => r = b01 (mi_in q x y)) (wB D (fun _ => [(h0, .inr (3, mF ad th sg sn hot pc cx cy ((mi_iv q x y).1.1) ((mi_iv q x y).1.2.1) ((mi_iv q x y).2.1) ((mi_iv q x y).2.2.1) ((mi_iv q x y).1.2.2) ((mi_iv q x y).2.2.2))), ((ad 0), .inl (E.2.1, 8192, .inl e9))]) A) A) ([.ref h0, .int (nI k), .int x, .int y] : List Value).toArray s 0 0 A) (F0 m 152 ls [.int b]) := by
    intro b iv H locs ls hbb hiv hP hD hS hl
    refine lv_istore (lv' := [(5, .int b), (0, .ref h0)]) hx hb d_M_isIn_152 hl (by decide) rfl (fun ls hl => ?_)
    refine lv_aload_n hx hb d_M_isIn_154 rfl (lv_at hl 1 rfl) ?_
    refine va_get (D := D) (ci := 3) (v := .long iv.1.1) (C := K_M) (T := F_M) (N := 24) hx hb hG in_M hown hK.1 hP 1 rfl rfl 15 (by decide) (hG _ wd_663) (fun _ h9 => h9) rfl d_M_isIn_155 ?_
    refine lv_aload_n hx hb d_M_isIn_158 rfl (lv_at hl 1 rfl) ?_
    refine va_get (D := D) (ci := 3) (v := .long iv.1.2.1) (C := K_M) (T := F_M) (N := 24) hx hb hG in_M hown hK.1 hP 1 rfl rfl 16 (by decide) (hG _ wd_664) (fun _ h9 => h9) rfl d_M_isIn_159 ?_
    refine lv_aload_n hx hb d_M_isIn_162 rfl (lv_at hl 1 rfl) ?_
    refine va_get (D := D) (ci := 3) (v := .long iv.2.1) (C := K_M) (T := F_M) (N := 24) hx hb hG in_M hown hK.1 hP 1 rfl rfl 17 (by decide) (hG _ wd_665) (fun _ h9 => h9) rfl d_M_isIn_163 ?_
    refine lv_aload_n hx hb d_M_isIn_166 rfl (lv_at hl 1 rfl) ?_
    refine va_get (D := D) (ci := 3) (v := .long iv.2.2.1) (C := K_M) (T := F_M) (N := 24) hx hb hG in_M hown hK.1 hP 1 rfl rfl 18 (by decide) (hG _ wd_666) (fun _ h9 => h9) rfl d_M_isIn_167 ?_
    have hPc := hP.sub (ws' := []) [] rfl
    refine vp_callSi (W.runS (As := [.long iv.1.1, .long iv.1.2.1, .long iv.2.1, .long iv.2.2.1]) (rest := []) ⟨hx, hb, hml, hown, hts⟩ (k_M_compare l D E iv.1.1 iv.1.2.1 iv.2.1 iv.2.2.1) (va_cwS 4 hts (gw_gs wd_772 wd_773 wd_42 wd_774) rfl rfl rfl (by decide +kernel) ⟨Nat.le_of_ble_eq_true rfl, Nat.le_of_ble_eq_true rfl⟩) (rP_S hPc hK) rfl rfl hl.1 rfl (lv_room (Nat.le_of_ble_eq_true rfl)) d_M_isIn_170 ⟨Nat.le_of_ble_eq_true rfl, Nat.le_of_ble_eq_true rfl⟩) (fun cc hcc => ?_)
    have hc : cc = mv_c (mi_iv q x y) := by rw [hcc, mv_c, hiv]
    refine lv_istore (lv' := [(6, .int cc), (5, .int b), (0, .ref h0)]) hx hb d_M_isIn_173 hl (by decide) rfl (fun ls hl => ?_)
    refine lv_iload hx hb d_M_isIn_175 (lv_at hl 1 rfl) ?_
    refine lv_if_eq (tgt := 208) hx hb d_M_isIn_177 (by decide) (fun d1 => ?_) (fun d1 => ?_)
    · rw [hbb] at d1
      have hw9 : (0 : Int32) = b01 (mi_in q x y) := by rw [b01_f]; intro h; exact b01_0 d1 h.1
      have hP := hP.sub (ws' := [(h0, .inr (3, mF ad th sg sn hot pc cx cy iv.1.1 iv.1.2.1 iv.2.1 iv.2.2.1 iv.1.2.2 iv.2.2.2)), ((ad 0), .inl (E.2.1, 8192, .inl e9))]) [1, 0] rfl
      have hD := hD.sub (ws' := [(h0, .inr (3, mF ad th sg sn hot pc cx cy iv.1.1 iv.1.2.1 iv.2.1 iv.2.2.1 iv.1.2.2 iv.2.2.2)), ((ad 0), .inl (E.2.1, 8192, .inl e9))]) [1, 0] (by decide) rfl
      rw [hiv] at hP hD
      refine lv_iconst (v := 0) hx hb d_M_isIn_208 (by decide) ?_
      exact W.zret (v := 0) (ty := .boolean) hx hb hrt rfl (fun t ht hW => ⟨⟨0, (), rfl, hw9, ⟨by rw [ht]; exact hP, hD⟩⟩, hS.F ht⟩) hS.2.2 d_M_isIn_209 hlocks
    · rw [hbb] at d1
      refine lv_iload hx hb d_M_isIn_180 (lv_at hl 0 rfl) ?_
      refine lv_if_lt (tgt := 204) hx hb d_M_isIn_182 (by decide) (fun d2 => ?_) (fun d2 => ?_)
      · rw [hc] at d2
        have hw9 : (1 : Int32) = b01 (mi_in q x y) := by rw [b01_t ⟨b01_1 d1, Or.inl d2⟩]
        have hP := hP.sub (ws' := [(h0, .inr (3, mF ad th sg sn hot pc cx cy iv.1.1 iv.1.2.1 iv.2.1 iv.2.2.1 iv.1.2.2 iv.2.2.2)), ((ad 0), .inl (E.2.1, 8192, .inl e9))]) [1, 0] rfl
        have hD := hD.sub (ws' := [(h0, .inr (3, mF ad th sg sn hot pc cx cy iv.1.1 iv.1.2.1 iv.2.1 iv.2.2.1 iv.1.2.2 iv.2.2.2)), ((ad 0), .inl (E.2.1, 8192, .inl e9))]) [1, 0] (by decide) rfl
        rw [hiv] at hP hD
        refine lv_iconst (v := 1) hx hb d_M_isIn_204 (by decide) ?_
        refine lv_goto (tgt := 209) hx hb d_M_isIn_205 (by decide) ?_
        exact W.zret (v := 1) (ty := .boolean) hx hb hrt rfl (fun t ht hW => ⟨⟨1, (), rfl, hw9, ⟨by rw [ht]; exact hP, hD⟩⟩, hS.F ht⟩) hS.2.2 d_M_isIn_209 hlocks
      · rw [hc] at d2
        refine lv_iload hx hb d_M_isIn_185 (lv_at hl 0 rfl) ?_
        refine lv_if_ne (tgt := 208) hx hb d_M_isIn_187 (by decide) (fun d3 => ?_) (fun d3 => ?_)
        · rw [hc] at d3
          have hw9 : (0 : Int32) = b01 (mi_in q x y) := by rw [b01_f]; intro h; exact h.2.elim d2 (fun g => d3 g.1)
          have hP := hP.sub (ws' := [(h0, .inr (3, mF ad th sg sn hot pc cx cy iv.1.1 iv.1.2.1 iv.2.1 iv.2.2.1 iv.1.2.2 iv.2.2.2)), ((ad 0), .inl (E.2.1, 8192, .inl e9))]) [1, 0] rfl
          have hD := hD.sub (ws' := [(h0, .inr (3, mF ad th sg sn hot pc cx cy iv.1.1 iv.1.2.1 iv.2.1 iv.2.2.1 iv.1.2.2 iv.2.2.2)), ((ad 0), .inl (E.2.1, 8192, .inl e9))]) [1, 0] (by decide) rfl
          rw [hiv] at hP hD
          refine lv_iconst (v := 0) hx hb d_M_isIn_208 (by decide) ?_
          exact W.zret (v := 0) (ty := .boolean) hx hb hrt rfl (fun t ht hW => ⟨⟨0, (), rfl, hw9, ⟨by rw [ht]; exact hP, hD⟩⟩, hS.F ht⟩) hS.2.2 d_M_isIn_209 hlocks
        · rw [hc] at d3
          refine lv_aload_n hx hb d_M_isIn_190 rfl (lv_at hl 2 rfl) ?_
          refine va_get (D := D) (ci := 3) (v := .int iv.1.2.2) (C := K_M) (T := F_M) (N := 24) hx hb hG in_M hown hK.1 hP 1 rfl rfl 19 (by decide) (hG _ wd_667) (fun _ h9 => h9) rfl d_M_isIn_191 ?_
          refine lv_if_eq (tgt := 208) hx hb d_M_isIn_194 (by decide) (fun d4 => ?_) (fun d4 => ?_)
          · have hw9 : (0 : Int32) = b01 (mi_in q x y) := by rw [b01_f]; intro h; rw [hiv] at d4; exact h.2.elim d2 (fun g => g.2.1 d4)
            have hP := hP.sub (ws' := [(h0, .inr (3, mF ad th sg sn hot pc cx cy iv.1.1 iv.1.2.1 iv.2.1 iv.2.2.1 iv.1.2.2 iv.2.2.2)), ((ad 0), .inl (E.2.1, 8192, .inl e9))]) [1, 0] rfl
            have hD := hD.sub (ws' := [(h0, .inr (3, mF ad th sg sn hot pc cx cy iv.1.1 iv.1.2.1 iv.2.1 iv.2.2.1 iv.1.2.2 iv.2.2.2)), ((ad 0), .inl (E.2.1, 8192, .inl e9))]) [1, 0] (by decide) rfl
            rw [hiv] at hP hD
            refine lv_iconst (v := 0) hx hb d_M_isIn_208 (by decide) ?_
            exact W.zret (v := 0) (ty := .boolean) hx hb hrt rfl (fun t ht hW => ⟨⟨0, (), rfl, hw9, ⟨by rw [ht]; exact hP, hD⟩⟩, hS.F ht⟩) hS.2.2 d_M_isIn_209 hlocks
          · refine lv_aload_n hx hb d_M_isIn_197 rfl (lv_at hl 2 rfl) ?_
            refine va_get (D := D) (ci := 3) (v := .int iv.2.2.2) (C := K_M) (T := F_M) (N := 24) hx hb hG in_M hown hK.1 hP 1 rfl rfl 20 (by decide) (hG _ wd_668) (fun _ h9 => h9) rfl d_M_isIn_198 ?_
            refine lv_if_eq (tgt := 208) hx hb d_M_isIn_201 (by decide) (fun d5 => ?_) (fun d5 => ?_)
            · have hw9 : (0 : Int32) = b01 (mi_in q x y) := by rw [b01_f]; intro h; rw [hiv] at d5; exact h.2.elim d2 (fun g => g.2.2 d5)
              have hP := hP.sub (ws' := [(h0, .inr (3, mF ad th sg sn hot pc cx cy iv.1.1 iv.1.2.1 iv.2.1 iv.2.2.1 iv.1.2.2 iv.2.2.2)), ((ad 0), .inl (E.2.1, 8192, .inl e9))]) [1, 0] rfl
              have hD := hD.sub (ws' := [(h0, .inr (3, mF ad th sg sn hot pc cx cy iv.1.1 iv.1.2.1 iv.2.1 iv.2.2.1 iv.1.2.2 iv.2.2.2)), ((ad 0), .inl (E.2.1, 8192, .inl e9))]) [1, 0] (by decide) rfl
              rw [hiv] at hP hD
              refine lv_iconst (v := 0) hx hb d_M_isIn_208 (by decide) ?_
              exact W.zret (v := 0) (ty := .boolean) hx hb hrt rfl (fun t ht hW => ⟨⟨0, (), rfl, hw9, ⟨by rw [ht]; exact hP, hD⟩⟩, hS.F ht⟩) hS.2.2 d_M_isIn_209 hlocks
            · have hw9 : (1 : Int32) = b01 (mi_in q x y) := by rw [b01_t]; rw [hiv] at d4 d5; exact ⟨b01_1 d1, Or.inr ⟨d3, d4, d5⟩⟩
              have hP := hP.sub (ws' := [(h0, .inr (3, mF ad th sg sn hot pc cx cy iv.1.1 iv.1.2.1 iv.2.1 iv.2.2.1 iv.1.2.2 iv.2.2.2)), ((ad 0), .inl (E.2.1, 8192, .inl e9))]) [1, 0] rfl
              have hD := hD.sub (ws' := [(h0, .inr (3, mF ad th sg sn hot pc cx cy iv.1.1 iv.1.2.1 iv.2.1 iv.2.2.1 iv.1.2.2 iv.2.2.2)), ((ad 0), .inl (E.2.1, 8192, .inl e9))]) [1, 0] (by decide) rfl
              rw [hiv] at hP hD
              refine lv_iconst (v := 1) hx hb d_M_isIn_204 (by decide) ?_
              refine lv_goto (tgt := 209) hx hb d_M_isIn_205 (by decide) ?_
              exact W.zret (v := 1) (ty := .boolean) hx hb hrt rfl (fun t ht hW => ⟨⟨1, (), rfl, hw9, ⟨by rw [ht]; exact hP, hD⟩⟩, hS.F ht⟩) hS.2.2 d_M_isIn_209 hlocks
  refine lv_if_eq (tgt := 151) hx hb d_M_isIn_86 (by decide) (fun c1 => ?_) (fun c1 => ?_)
  · rw [hw1] at c1
    refine lv_iconst (v := 0) hx hb d_M_isIn_151 (by decide) ?_
    exact J 0 iv1 H locs ls (b01_f (fun h => b01_0 c1 h.1)).symm (by rw [mi_iv_f (b01_0 c1), h1]) hP hD hS (lv_sub hl [1] rfl)
  · rw [hw1] at c1
    have ok1 := b01_1 c1
    refine lv_aload_n hx hb d_M_isIn_89 rfl (lv_at hl 1 rfl) ?_
    refine lv_ldc2 hx hb hown (hG _ wd_763) d_M_isIn_90 ?_
    refine lv_aload_n hx hb d_M_isIn_93 rfl (lv_at hl 1 rfl) ?_
    refine va_get (D := D) (ci := 3) (v := .ref (ad 0)) (C := K_M) (T := F_M) (N := 24) hx hb hG in_M hown hK.1 hP 1 rfl rfl 2 (by decide) (hG _ wd_650) (fun _ h9 => h9) rfl d_M_isIn_94 ?_
    refine lv_iload hx hb d_M_isIn_97 (lv_at hl 0 rfl) ?_
    refine lv_iconst (v := 1) hx hb d_M_isIn_99 (by decide) ?_
    refine lv_iadd hx hb d_M_isIn_100 ?_
    rw [show (nI (4 * k) + 1) = nI (4 * k + 1) from nI_1 _]
    refine va_iald hx hb hK.1 hP 0 1 rfl rfl (vp_in_nI (by omega) (by omega)) d_M_isIn_101 ?_
    rw [show e9 (Int32.toNatClampNeg (nI (4 * k + 1))) = q.2.1 from by rw [nI_clamp (by omega)]; exact g1]
    refine lv_i2l hx hb d_M_isIn_102 rfl ?_
    rw [show (Int32.toInt64 q.2.1) = (sy q) from rfl]
    refine lv_lmul hx hb d_M_isIn_103 ?_
    refine lv_ldc2 hx hb hown (hG _ wd_763) d_M_isIn_104 ?_
    refine lv_aload_n hx hb d_M_isIn_107 rfl (lv_at hl 1 rfl) ?_
    refine va_get (D := D) (ci := 3) (v := .ref (ad 0)) (C := K_M) (T := F_M) (N := 24) hx hb hG in_M hown hK.1 hP 1 rfl rfl 2 (by decide) (hG _ wd_650) (fun _ h9 => h9) rfl d_M_isIn_108 ?_
    refine lv_iload hx hb d_M_isIn_111 (lv_at hl 0 rfl) ?_
    refine lv_iconst (v := 3) hx hb d_M_isIn_113 (by decide) ?_
    refine lv_iadd hx hb d_M_isIn_114 ?_
    rw [show (nI (4 * k) + 3) = nI (4 * k + 3) from nI_add _ 3]
    refine va_iald hx hb hK.1 hP 0 1 rfl rfl (vp_in_nI (by omega) (by omega)) d_M_isIn_115 ?_
    rw [show e9 (Int32.toNatClampNeg (nI (4 * k + 3))) = q.2.2.2 from by rw [nI_clamp (by omega)]; exact g3]
    refine lv_i2l hx hb d_M_isIn_116 rfl ?_
    rw [show (Int32.toInt64 q.2.2.2) = (sv q) from rfl]
    refine lv_lmul hx hb d_M_isIn_117 ?_
    refine lv_ldc2 hx hb hown (hG _ wd_763) d_M_isIn_118 ?_
    refine lv_aload_n hx hb d_M_isIn_121 rfl (lv_at hl 1 rfl) ?_
    refine va_get (D := D) (ci := 3) (v := .ref (ad 0)) (C := K_M) (T := F_M) (N := 24) hx hb hG in_M hown hK.1 hP 1 rfl rfl 2 (by decide) (hG _ wd_650) (fun _ h9 => h9) rfl d_M_isIn_122 ?_
    refine lv_iload hx hb d_M_isIn_125 (lv_at hl 0 rfl) ?_
    refine lv_iconst (v := 1) hx hb d_M_isIn_127 (by decide) ?_
    refine lv_iadd hx hb d_M_isIn_128 ?_
    rw [show (nI (4 * k) + 1) = nI (4 * k + 1) from nI_1 _]
    refine va_iald hx hb hK.1 hP 0 1 rfl rfl (vp_in_nI (by omega) (by omega)) d_M_isIn_129 ?_
    rw [show e9 (Int32.toNatClampNeg (nI (4 * k + 1))) = q.2.1 from by rw [nI_clamp (by omega)]; exact g1]
    refine lv_i2l hx hb d_M_isIn_130 rfl ?_
    rw [show (Int32.toInt64 q.2.1) = (sy q) from rfl]
    refine lv_lmul hx hb d_M_isIn_131 ?_
    refine lv_lsub hx hb d_M_isIn_132 ?_
    refine lv_ldc2 hx hb hown (hG _ wd_763) d_M_isIn_133 ?_
    refine lv_iload_n hx hb d_M_isIn_136 rfl (lv_at hl 4 rfl) ?_
    refine lv_i2l hx hb d_M_isIn_137 rfl ?_
    refine lv_lmul hx hb d_M_isIn_138 ?_
    refine lv_lconst (v := 1) hx hb d_M_isIn_139 (by decide) ?_
    refine lv_lsub hx hb d_M_isIn_140 ?_
    obtain ⟨iv2, h2⟩ : ∃ v, v = mi_2 q x y := ⟨_, rfl⟩
    have hPc := hP.sub (ws' := [(h0, .inr (3, mF ad th sg sn hot pc cx cy iv1.1.1 iv1.1.2.1 iv1.2.1 iv1.2.2.1 iv1.1.2.2 iv1.2.2.2))]) [1] rfl
    have hDc := hD.sub (ws' := [(h0, .inr (3, mF ad th sg sn hot pc cx cy iv1.1.1 iv1.1.2.1 iv1.2.1 iv1.2.2.1 iv1.1.2.2 iv1.2.2.2))]) [1] (by decide) rfl
    have hFc := va_free (wc := [(h0, .inr (3, mF ad th sg sn hot pc cx cy iv1.1.1 iv1.1.2.1 iv1.2.1 iv1.2.2.1 iv1.1.2.2 iv1.2.2.2))]) hD hS hA [1] rfl
    refine va_calli (va_runV (As := [.long (2 * (sy q)), .long ((2 * (sv q)) - (2 * (sy q))), .long ((2 * (Int32.toInt64 y)) - 1)]) (rest := []) ⟨hx, hb, hml, hown, hts⟩ (k_M_along l D E h0 H.size ad th sg sn hot pc cx cy iv1.1.1 iv1.1.2.1 iv1.2.1 iv1.2.2.1 iv1.1.2.2 iv1.2.2.2 (2 * sy q) (2 * sv q - 2 * sy q) (2 * Int32.toInt64 y - 1)) (cwV 3 hts (gw_gv wd_764 wd_766 wd_25 wd_42 wd_767) rfl rfl rfl (by decide +kernel) ⟨Nat.le_of_ble_eq_true rfl, Nat.le_of_ble_eq_true rfl⟩) (wP_V 0 hPc hK hDc rfl rfl) rfl rfl hl.1 rfl (lv_room (Nat.le_of_ble_eq_true rfl)) d_M_isIn_141 ⟨Nat.le_of_ble_eq_true rfl, Nat.le_of_ble_eq_true rfl⟩) hS (fun q _ h => hFc q h) hFc (fun r2 u t H1 locs ht hvm hw hB hz1 hk1 hS => ?_)
    obtain ⟨hP1, hD1⟩ := hB
    rw [ht] at hP1
    rw [show ml_iv (2 * sy q) (2 * sv q - 2 * sy q) (2 * Int32.toInt64 y - 1) ((iv1.1.1, iv1.1.2.1, iv1.1.2.2), (iv1.2.1, iv1.2.2.1, iv1.2.2.2)) = iv2 from (by rw [h2, mi_2, h1])] at hP1 hD1
    obtain ⟨hP, hD⟩ := va_join (wr := [((ad 0), .inl (E.2.1, 8192, .inl e9))]) (w1 := [(h0, .inr (3, mF ad th sg sn hot pc cx cy iv2.1.1 iv2.1.2.1 iv2.2.1 iv2.2.2.1 iv2.1.2.2 iv2.2.2.2))]) hP hD [1] [0] rfl rfl (by decide) (by decide) hk1 hFc hP1 hD1
    generalize H1 = H at hP hS ⊢
    have hP : va_P D vwC [((ad 0), .inl (E.2.1, 8192, .inl e9)), (h0, .inr (3, mF ad th sg sn hot pc cx cy iv2.1.1 iv2.1.2.1 iv2.2.1 iv2.2.2.1 iv2.1.2.2 iv2.2.2.2))] H := hP
    have hD : va_D A [((ad 0), .inl (E.2.1, 8192, .inl e9)), (h0, .inr (3, mF ad th sg sn hot pc cx cy iv2.1.1 iv2.1.2.1 iv2.2.1 iv2.2.2.1 iv2.1.2.2 iv2.2.2.2))] := hD
    have hw2 : r2 = b01 (mi_ok2 q y) := hw
    refine lv_if_eq (tgt := 151) hx hb d_M_isIn_144 (by decide) (fun c2 => ?_) (fun c2 => ?_)
    · rw [hw2] at c2
      refine lv_iconst (v := 0) hx hb d_M_isIn_151 (by decide) ?_
      exact J 0 iv2 H locs ls (b01_f (fun h => b01_0 c2 h.2)).symm (by rw [mi_iv_t ok1, h2]) hP hD hS (lv_sub hl [1] rfl)
    · rw [hw2] at c2
      refine lv_iconst (v := 1) hx hb d_M_isIn_147 (by decide) ?_
      refine lv_goto (tgt := 152) hx hb d_M_isIn_148 (by decide) ?_
      exact J 1 iv2 H locs ls (b01_t ⟨ok1, b01_1 c2⟩).symm (by rw [mi_iv_t ok1, h2]) hP hD hS (lv_sub hl [1] rfl)
end
