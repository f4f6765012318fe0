theorem d_S_crosses_0 : decode c_S_crosses 0 = .ok (.aload_n 0, 1) := by decide +kernel
theorem d_S_crosses_1 : decode c_S_crosses 1 = .ok (.aload_n 1, 1) := by decide +kernel
theorem d_S_crosses_2 : decode c_S_crosses 2 = .ok (.invokevirtual 62, 3) := by decide +kernel
theorem d_S_crosses_5 : decode c_S_crosses 5 = .ok (.ifCond .eq 15, 3) := by decide +kernel
theorem d_S_crosses_8 : decode c_S_crosses 8 = .ok (.aload_n 1, 1) := by decide +kernel
theorem d_S_crosses_9 : decode c_S_crosses 9 = .ok (.aload_n 0, 1) := by decide +kernel
theorem d_S_crosses_10 : decode c_S_crosses 10 = .ok (.invokevirtual 62, 3) := by decide +kernel
theorem d_S_crosses_13 : decode c_S_crosses 13 = .ok (.ifCond .eq 7, 3) := by decide +kernel
theorem d_S_crosses_16 : decode c_S_crosses 16 = .ok (.iconst 1, 1) := by decide +kernel
theorem d_S_crosses_17 : decode c_S_crosses 17 = .ok (.goto 4, 3) := by decide +kernel
theorem d_S_crosses_20 : decode c_S_crosses 20 = .ok (.iconst 0, 1) := by decide +kernel
theorem d_S_crosses_21 : decode c_S_crosses 21 = .ok (.ireturn, 1) := by decide +kernel
theorem d_S_enters_0 : decode c_S_enters 0 = .ok (.lload_n 1, 1) := by decide +kernel
theorem d_S_enters_1 : decode c_S_enters 1 = .ok (.aload_n 0, 1) := by decide +kernel
theorem d_S_enters_2 : decode c_S_enters 2 = .ok (.getfield 36, 3) := by decide +kernel
theorem d_S_enters_5 : decode c_S_enters 5 = .ok (.lcmp, 1) := by decide +kernel
theorem d_S_enters_6 : decode c_S_enters 6 = .ok (.ifCond .lt 43, 3) := by decide +kernel
theorem d_S_enters_9 : decode c_S_enters 9 = .ok (.lload_n 1, 1) := by decide +kernel
theorem d_S_enters_10 : decode c_S_enters 10 = .ok (.aload_n 0, 1) := by decide +kernel
theorem d_S_enters_11 : decode c_S_enters 11 = .ok (.getfield 45, 3) := by decide +kernel
theorem d_S_enters_14 : decode c_S_enters 14 = .ok (.lcmp, 1) := by decide +kernel
theorem d_S_enters_15 : decode c_S_enters 15 = .ok (.ifCond .gt 34, 3) := by decide +kernel
theorem d_S_enters_18 : decode c_S_enters 18 = .ok (.lload_n 3, 1) := by decide +kernel
theorem d_S_enters_19 : decode c_S_enters 19 = .ok (.aload_n 0, 1) := by decide +kernel
theorem d_S_enters_20 : decode c_S_enters 20 = .ok (.getfield 39, 3) := by decide +kernel
theorem d_S_enters_23 : decode c_S_enters 23 = .ok (.lcmp, 1) := by decide +kernel
theorem d_S_enters_24 : decode c_S_enters 24 = .ok (.ifCond .lt 25, 3) := by decide +kernel
theorem d_S_enters_27 : decode c_S_enters 27 = .ok (.lload_n 3, 1) := by decide +kernel
theorem d_S_enters_28 : decode c_S_enters 28 = .ok (.aload_n 0, 1) := by decide +kernel
theorem d_S_enters_29 : decode c_S_enters 29 = .ok (.getfield 48, 3) := by decide +kernel
theorem d_S_enters_32 : decode c_S_enters 32 = .ok (.lcmp, 1) := by decide +kernel
theorem d_S_enters_33 : decode c_S_enters 33 = .ok (.ifCond .gt 16, 3) := by decide +kernel
theorem d_S_enters_36 : decode c_S_enters 36 = .ok (.aload_n 0, 1) := by decide +kernel
theorem d_S_enters_37 : decode c_S_enters 37 = .ok (.lload_n 1, 1) := by decide +kernel
theorem d_S_enters_38 : decode c_S_enters 38 = .ok (.lload_n 3, 1) := by decide +kernel
theorem d_S_enters_39 : decode c_S_enters 39 = .ok (.invokevirtual 54, 3) := by decide +kernel
theorem d_S_enters_42 : decode c_S_enters 42 = .ok (.ifCond .eq 7, 3) := by decide +kernel
theorem d_S_enters_45 : decode c_S_enters 45 = .ok (.iconst 1, 1) := by decide +kernel
theorem d_S_enters_46 : decode c_S_enters 46 = .ok (.goto 4, 3) := by decide +kernel
theorem d_S_enters_49 : decode c_S_enters 49 = .ok (.iconst 0, 1) := by decide +kernel
theorem d_S_enters_50 : decode c_S_enters 50 = .ok (.ireturn, 1) := by decide +kernel
theorem d_S_lineEnters_0 : decode c_S_lineEnters 0 = .ok (.ldc2_w 58, 3) := by decide +kernel
theorem d_S_lineEnters_3 : decode c_S_lineEnters 3 = .ok (.aload_n 0, 1) := by decide +kernel
theorem d_S_lineEnters_4 : decode c_S_lineEnters 4 = .ok (.getfield 27, 3) := by decide +kernel
theorem d_S_lineEnters_7 : decode c_S_lineEnters 7 = .ok (.lmul, 1) := by decide +kernel
theorem d_S_lineEnters_8 : decode c_S_lineEnters 8 = .ok (.lstore 5, 2) := by decide +kernel
theorem d_S_lineEnters_10 : decode c_S_lineEnters 10 = .ok (.ldc2_w 60, 3) := by decide +kernel
theorem d_S_lineEnters_13 : decode c_S_lineEnters 13 = .ok (.aload_n 0, 1) := by decide +kernel
theorem d_S_lineEnters_14 : decode c_S_lineEnters 14 = .ok (.getfield 24, 3) := by decide +kernel
theorem d_S_lineEnters_17 : decode c_S_lineEnters 17 = .ok (.lmul, 1) := by decide +kernel
theorem d_S_lineEnters_18 : decode c_S_lineEnters 18 = .ok (.lstore 7, 2) := by decide +kernel
theorem d_S_lineEnters_20 : decode c_S_lineEnters 20 = .ok (.aload_n 0, 1) := by decide +kernel
theorem d_S_lineEnters_21 : decode c_S_lineEnters 21 = .ok (.getfield 24, 3) := by decide +kernel
theorem d_S_lineEnters_24 : decode c_S_lineEnters 24 = .ok (.ldc2_w 60, 3) := by decide +kernel
theorem d_S_lineEnters_27 : decode c_S_lineEnters 27 = .ok (.lload_n 3, 1) := by decide +kernel
theorem d_S_lineEnters_28 : decode c_S_lineEnters 28 = .ok (.aload_n 0, 1) := by decide +kernel
theorem d_S_lineEnters_29 : decode c_S_lineEnters 29 = .ok (.getfield 15, 3) := by decide +kernel
theorem d_S_lineEnters_32 : decode c_S_lineEnters 32 = .ok (.lsub, 1) := by decide +kernel
theorem d_S_lineEnters_33 : decode c_S_lineEnters 33 = .ok (.lmul, 1) := by decide +kernel
theorem d_S_lineEnters_34 : decode c_S_lineEnters 34 = .ok (.lconst 1, 1) := by decide +kernel
theorem d_S_lineEnters_35 : decode c_S_lineEnters 35 = .ok (.lsub, 1) := by decide +kernel
theorem d_S_lineEnters_36 : decode c_S_lineEnters 36 = .ok (.lmul, 1) := by decide +kernel
theorem d_S_lineEnters_37 : decode c_S_lineEnters 37 = .ok (.aload_n 0, 1) := by decide +kernel
theorem d_S_lineEnters_38 : decode c_S_lineEnters 38 = .ok (.getfield 27, 3) := by decide +kernel
theorem d_S_lineEnters_41 : decode c_S_lineEnters 41 = .ok (.ldc2_w 60, 3) := by decide +kernel
theorem d_S_lineEnters_44 : decode c_S_lineEnters 44 = .ok (.lload_n 1, 1) := by decide +kernel
theorem d_S_lineEnters_45 : decode c_S_lineEnters 45 = .ok (.aload_n 0, 1) := by decide +kernel
theorem d_S_lineEnters_46 : decode c_S_lineEnters 46 = .ok (.getfield 9, 3) := by decide +kernel
theorem d_S_lineEnters_49 : decode c_S_lineEnters 49 = .ok (.lsub, 1) := by decide +kernel
theorem d_S_lineEnters_50 : decode c_S_lineEnters 50 = .ok (.lmul, 1) := by decide +kernel
theorem d_S_lineEnters_51 : decode c_S_lineEnters 51 = .ok (.lconst 1, 1) := by decide +kernel
theorem d_S_lineEnters_52 : decode c_S_lineEnters 52 = .ok (.lsub, 1) := by decide +kernel
theorem d_S_lineEnters_53 : decode c_S_lineEnters 53 = .ok (.lmul, 1) := by decide +kernel
theorem d_S_lineEnters_54 : decode c_S_lineEnters 54 = .ok (.lsub, 1) := by decide +kernel
theorem d_S_lineEnters_55 : decode c_S_lineEnters 55 = .ok (.lstore 9, 2) := by decide +kernel
theorem d_S_lineEnters_57 : decode c_S_lineEnters 57 = .ok (.lload 9, 2) := by decide +kernel
theorem d_S_lineEnters_59 : decode c_S_lineEnters 59 = .ok (.lload 5, 2) := by decide +kernel
theorem d_S_lineEnters_61 : decode c_S_lineEnters 61 = .ok (.lconst 0, 1) := by decide +kernel
theorem d_S_lineEnters_62 : decode c_S_lineEnters 62 = .ok (.invokestatic 30, 3) := by decide +kernel
theorem d_S_lineEnters_65 : decode c_S_lineEnters 65 = .ok (.ladd, 1) := by decide +kernel
theorem d_S_lineEnters_66 : decode c_S_lineEnters 66 = .ok (.lload 7, 2) := by decide +kernel
theorem d_S_lineEnters_68 : decode c_S_lineEnters 68 = .ok (.lconst 0, 1) := by decide +kernel
theorem d_S_lineEnters_69 : decode c_S_lineEnters 69 = .ok (.invokestatic 30, 3) := by decide +kernel
theorem d_S_lineEnters_72 : decode c_S_lineEnters 72 = .ok (.ladd, 1) := by decide +kernel
theorem d_S_lineEnters_73 : decode c_S_lineEnters 73 = .ok (.lstore 11, 2) := by decide +kernel
theorem d_S_lineEnters_75 : decode c_S_lineEnters 75 = .ok (.lload 9, 2) := by decide +kernel
theorem d_S_lineEnters_77 : decode c_S_lineEnters 77 = .ok (.lload 5, 2) := by decide +kernel
theorem d_S_lineEnters_79 : decode c_S_lineEnters 79 = .ok (.lconst 0, 1) := by decide +kernel
theorem d_S_lineEnters_80 : decode c_S_lineEnters 80 = .ok (.invokestatic 42, 3) := by decide +kernel
theorem d_S_lineEnters_83 : decode c_S_lineEnters 83 = .ok (.ladd, 1) := by decide +kernel
theorem d_S_lineEnters_84 : decode c_S_lineEnters 84 = .ok (.lload 7, 2) := by decide +kernel
theorem d_S_lineEnters_86 : decode c_S_lineEnters 86 = .ok (.lconst 0, 1) := by decide +kernel
theorem d_S_lineEnters_87 : decode c_S_lineEnters 87 = .ok (.invokestatic 42, 3) := by decide +kernel
theorem d_S_lineEnters_90 : decode c_S_lineEnters 90 = .ok (.ladd, 1) := by decide +kernel
theorem d_S_lineEnters_91 : decode c_S_lineEnters 91 = .ok (.lstore 13, 2) := by decide +kernel
theorem d_S_lineEnters_93 : decode c_S_lineEnters 93 = .ok (.lload 5, 2) := by decide +kernel
theorem d_S_lineEnters_95 : decode c_S_lineEnters 95 = .ok (.lconst 0, 1) := by decide +kernel
theorem d_S_lineEnters_96 : decode c_S_lineEnters 96 = .ok (.lcmp, 1) := by decide +kernel
theorem d_S_lineEnters_97 : decode c_S_lineEnters 97 = .ok (.ifCond .lt 14, 3) := by decide +kernel
theorem d_S_lineEnters_100 : decode c_S_lineEnters 100 = .ok (.lload 7, 2) := by decide +kernel
theorem d_S_lineEnters_102 : decode c_S_lineEnters 102 = .ok (.lconst 0, 1) := by decide +kernel
theorem d_S_lineEnters_103 : decode c_S_lineEnters 103 = .ok (.lcmp, 1) := by decide +kernel
theorem d_S_lineEnters_104 : decode c_S_lineEnters 104 = .ok (.ifCond .lt 7, 3) := by decide +kernel
theorem d_S_lineEnters_107 : decode c_S_lineEnters 107 = .ok (.iconst 1, 1) := by decide +kernel
theorem d_S_lineEnters_108 : decode c_S_lineEnters 108 = .ok (.goto 4, 3) := by decide +kernel
theorem d_S_lineEnters_111 : decode c_S_lineEnters 111 = .ok (.iconst 0, 1) := by decide +kernel
theorem d_S_lineEnters_112 : decode c_S_lineEnters 112 = .ok (.istore 15, 2) := by decide +kernel
theorem d_S_lineEnters_114 : decode c_S_lineEnters 114 = .ok (.lload 5, 2) := by decide +kernel
theorem d_S_lineEnters_116 : decode c_S_lineEnters 116 = .ok (.lconst 0, 1) := by decide +kernel
theorem d_S_lineEnters_117 : decode c_S_lineEnters 117 = .ok (.lcmp, 1) := by decide +kernel
theorem d_S_lineEnters_118 : decode c_S_lineEnters 118 = .ok (.ifCond .gt 14, 3) := by decide +kernel
theorem d_S_lineEnters_121 : decode c_S_lineEnters 121 = .ok (.lload 7, 2) := by decide +kernel
theorem d_S_lineEnters_123 : decode c_S_lineEnters 123 = .ok (.lconst 0, 1) := by decide +kernel
theorem d_S_lineEnters_124 : decode c_S_lineEnters 124 = .ok (.lcmp, 1) := by decide +kernel
theorem d_S_lineEnters_125 : decode c_S_lineEnters 125 = .ok (.ifCond .gt 7, 3) := by decide +kernel
theorem d_S_lineEnters_128 : decode c_S_lineEnters 128 = .ok (.iconst 1, 1) := by decide +kernel
theorem d_S_lineEnters_129 : decode c_S_lineEnters 129 = .ok (.goto 4, 3) := by decide +kernel
theorem d_S_lineEnters_132 : decode c_S_lineEnters 132 = .ok (.iconst 0, 1) := by decide +kernel
theorem d_S_lineEnters_133 : decode c_S_lineEnters 133 = .ok (.istore 16, 2) := by decide +kernel
theorem d_S_lineEnters_135 : decode c_S_lineEnters 135 = .ok (.lload 11, 2) := by decide +kernel
theorem d_S_lineEnters_137 : decode c_S_lineEnters 137 = .ok (.lconst 0, 1) := by decide +kernel
theorem d_S_lineEnters_138 : decode c_S_lineEnters 138 = .ok (.lcmp, 1) := by decide +kernel
theorem d_S_lineEnters_139 : decode c_S_lineEnters 139 = .ok (.ifCond .lt 15, 3) := by decide +kernel
theorem d_S_lineEnters_142 : decode c_S_lineEnters 142 = .ok (.lload 11, 2) := by decide +kernel
theorem d_S_lineEnters_144 : decode c_S_lineEnters 144 = .ok (.lconst 0, 1) := by decide +kernel
theorem d_S_lineEnters_145 : decode c_S_lineEnters 145 = .ok (.lcmp, 1) := by decide +kernel
theorem d_S_lineEnters_146 : decode c_S_lineEnters 146 = .ok (.ifCond .ne 31, 3) := by decide +kernel
theorem d_S_lineEnters_149 : decode c_S_lineEnters 149 = .ok (.iload 15, 2) := by decide +kernel
theorem d_S_lineEnters_151 : decode c_S_lineEnters 151 = .ok (.ifCond .eq 26, 3) := by decide +kernel
theorem d_S_lineEnters_154 : decode c_S_lineEnters 154 = .ok (.lload 13, 2) := by decide +kernel
theorem d_S_lineEnters_156 : decode c_S_lineEnters 156 = .ok (.lconst 0, 1) := by decide +kernel
theorem d_S_lineEnters_157 : decode c_S_lineEnters 157 = .ok (.lcmp, 1) := by decide +kernel
theorem d_S_lineEnters_158 : decode c_S_lineEnters 158 = .ok (.ifCond .gt 15, 3) := by decide +kernel
theorem d_S_lineEnters_161 : decode c_S_lineEnters 161 = .ok (.lload 13, 2) := by decide +kernel
theorem d_S_lineEnters_163 : decode c_S_lineEnters 163 = .ok (.lconst 0, 1) := by decide +kernel
theorem d_S_lineEnters_164 : decode c_S_lineEnters 164 = .ok (.lcmp, 1) := by decide +kernel
theorem d_S_lineEnters_165 : decode c_S_lineEnters 165 = .ok (.ifCond .ne 12, 3) := by decide +kernel
theorem d_S_lineEnters_168 : decode c_S_lineEnters 168 = .ok (.iload 16, 2) := by decide +kernel
theorem d_S_lineEnters_170 : decode c_S_lineEnters 170 = .ok (.ifCond .eq 7, 3) := by decide +kernel
theorem d_S_lineEnters_173 : decode c_S_lineEnters 173 = .ok (.iconst 1, 1) := by decide +kernel
theorem d_S_lineEnters_174 : decode c_S_lineEnters 174 = .ok (.goto 4, 3) := by decide +kernel
theorem d_S_lineEnters_177 : decode c_S_lineEnters 177 = .ok (.iconst 0, 1) := by decide +kernel
theorem d_S_lineEnters_178 : decode c_S_lineEnters 178 = .ok (.ireturn, 1) := by decide +kernel
theorem d_S_parts_0 : decode c_S_parts 0 = .ok (.aload_n 0, 1) := by decide +kernel
theorem d_S_parts_1 : decode c_S_parts 1 = .ok (.aload_n 1, 1) := by decide +kernel
theorem d_S_parts_2 : decode c_S_parts 2 = .ok (.getfield 9, 3) := by decide +kernel
theorem d_S_parts_5 : decode c_S_parts 5 = .ok (.aload_n 1, 1) := by decide +kernel
theorem d_S_parts_6 : decode c_S_parts 6 = .ok (.getfield 15, 3) := by decide +kernel
theorem d_S_parts_9 : decode c_S_parts 9 = .ok (.invokevirtual 66, 3) := by decide +kernel
theorem d_S_parts_12 : decode c_S_parts 12 = .ok (.lstore_n 2, 1) := by decide +kernel
theorem d_S_parts_13 : decode c_S_parts 13 = .ok (.lload_n 2, 1) := by decide +kernel
theorem d_S_parts_14 : decode c_S_parts 14 = .ok (.lconst 0, 1) := by decide +kernel
theorem d_S_parts_15 : decode c_S_parts 15 = .ok (.lcmp, 1) := by decide +kernel
theorem d_S_parts_16 : decode c_S_parts 16 = .ok (.ifCond .ne 5, 3) := by decide +kernel
theorem d_S_parts_19 : decode c_S_parts 19 = .ok (.iconst 0, 1) := by decide +kernel
theorem d_S_parts_20 : decode c_S_parts 20 = .ok (.ireturn, 1) := by decide +kernel
theorem d_S_parts_21 : decode c_S_parts 21 = .ok (.aload_n 0, 1) := by decide +kernel
theorem d_S_parts_22 : decode c_S_parts 22 = .ok (.aload_n 1, 1) := by decide +kernel
theorem d_S_parts_23 : decode c_S_parts 23 = .ok (.getfield 18, 3) := by decide +kernel
theorem d_S_parts_26 : decode c_S_parts 26 = .ok (.aload_n 1, 1) := by decide +kernel
theorem d_S_parts_27 : decode c_S_parts 27 = .ok (.getfield 21, 3) := by decide +kernel
theorem d_S_parts_30 : decode c_S_parts 30 = .ok (.invokevirtual 66, 3) := by decide +kernel
theorem d_S_parts_33 : decode c_S_parts 33 = .ok (.lstore 4, 2) := by decide +kernel
theorem d_S_parts_35 : decode c_S_parts 35 = .ok (.lload_n 2, 1) := by decide +kernel
theorem d_S_parts_36 : decode c_S_parts 36 = .ok (.lconst 0, 1) := by decide +kernel
theorem d_S_parts_37 : decode c_S_parts 37 = .ok (.lcmp, 1) := by decide +kernel
theorem d_S_parts_38 : decode c_S_parts 38 = .ok (.ifCond .ge 18, 3) := by decide +kernel
theorem d_S_parts_41 : decode c_S_parts 41 = .ok (.lload 4, 2) := by decide +kernel
theorem d_S_parts_43 : decode c_S_parts 43 = .ok (.lconst 0, 1) := by decide +kernel
theorem d_S_parts_44 : decode c_S_parts 44 = .ok (.lcmp, 1) := by decide +kernel
theorem d_S_parts_45 : decode c_S_parts 45 = .ok (.ifCond .le 7, 3) := by decide +kernel
theorem d_S_parts_48 : decode c_S_parts 48 = .ok (.iconst 1, 1) := by decide +kernel
theorem d_S_parts_49 : decode c_S_parts 49 = .ok (.goto 19, 3) := by decide +kernel
theorem d_S_parts_52 : decode c_S_parts 52 = .ok (.iconst 0, 1) := by decide +kernel
theorem d_S_parts_53 : decode c_S_parts 53 = .ok (.goto 15, 3) := by decide +kernel
theorem d_S_parts_56 : decode c_S_parts 56 = .ok (.lload 4, 2) := by decide +kernel
theorem d_S_parts_58 : decode c_S_parts 58 = .ok (.lconst 0, 1) := by decide +kernel
theorem d_S_parts_59 : decode c_S_parts 59 = .ok (.lcmp, 1) := by decide +kernel
theorem d_S_parts_60 : decode c_S_parts 60 = .ok (.ifCond .ge 7, 3) := by decide +kernel
theorem d_S_parts_63 : decode c_S_parts 63 = .ok (.iconst 1, 1) := by decide +kernel
theorem d_S_parts_64 : decode c_S_parts 64 = .ok (.goto 4, 3) := by decide +kernel
theorem d_S_parts_67 : decode c_S_parts 67 = .ok (.iconst 0, 1) := by decide +kernel
theorem d_S_parts_68 : decode c_S_parts 68 = .ok (.ireturn, 1) := by decide +kernel
def ln_least (ax ay c : Int64) : Int64 := c + (if 0 < ax then 0 else ax) + (if 0 < ay then 0 else ay)
def ln_most (ax ay c : Int64) : Int64 := c + (if 0 < ax then ax else 0) + (if 0 < ay then ay else 0)
def ln_in (ax ay c : Int64) : Prop := (ln_least ax ay c < 0 ∨ (ln_least ax ay c = 0 ∧ ¬ ax < 0 ∧ ¬ ay < 0)) ∧ (0 < ln_most ax ay c ∨ (ln_most ax ay c = 0 ∧ ¬ 0 < ax ∧ ¬ 0 < ay))
def sg_line (q : SQ) (x y : Int64) : Prop := ln_in (-2 * swy q) (2 * swx q) (swx q * (2 * (y - sy q) - 1) - swy q * (2 * (x - sx q) - 1))
noncomputable section
def b01 (p : Prop) : Int32 := @ite _ p (Classical.propDecidable p) 1 0
theorem b01_t {p : Prop} (h : p) : b01 p = 1 := @if_pos p (Classical.propDecidable p) h _ _ _
theorem b01_f {p : Prop} (h : ¬ p) : b01 p = 0 := @if_neg p (Classical.propDecidable p) h _ _ _
theorem b01_0 {p : Prop} (h : b01 p = 0) : ¬ p := fun q => by rw [b01_t q] at h; exact absurd h (by decide)
theorem b01_1 {p : Prop} (h : ¬ b01 p = 0) : p := Classical.byContradiction (fun q => h (b01_f q))
theorem b01_n (p : Prop) : narrow .boolean (.int (b01 p)) = .int (b01 p) := by
  by_cases h : p
  · rw [b01_t h]; rfl
  · rw [b01_f h]; rfl
theorem lg_ge' {x : Int64} {y : Int64} (h : ¬ 0 ≤ lg_cmp x y) : x < y := Classical.not_not.mp (fun z => h (lg_ge.mpr z))
theorem lg_le' {x : Int64} {y : Int64} (h : ¬ lg_cmp x y ≤ 0) : y < x := Classical.not_not.mp (fun z => h (lg_le.mpr z))
set_option maxHeartbeats 4000000 in
set_option maxRecDepth 100000 in
theorem k_S_lineEnters (l : Launch) (D : va_G) (E : ClassId × ClassId × ClassId × ClassId) (h0 : Nat) (q : SQ) (x y : Int64) : Met l y_S_lineEnters (.code y_S_lineEnters c_S_lineEnters 17 (some .boolean) :: gw) ({ frames := 1, cells := 0, slots := 0, locals := 19 } : Room) (rP D E [(h0, .inr (1, sgF q))] [.ref h0, .long x, .long y]) (vp_Si (fun r => r = b01 (sg_line q x y))) 0 0 (fun _ => False) := by
  refine rd_ofW (by decide) (Nat.le_of_ble_eq_true rfl) ?_
  intro p e s m below meth c B hP hK ls hl
  obtain ⟨hx, hb, hrt, hml, hown, hts, hG, hlocks, hin⟩ := B
  have hl : lv_has ls 17 [(0, .ref h0), (1, .long x), (3, .long y)] := hl
  refine lv_ldc2 hx hb hown (hG _ wd_507) d_S_lineEnters_0 ?_
  refine lv_aload_n hx hb d_S_lineEnters_3 rfl (lv_at hl 0 rfl) ?_
  refine va_get (D := D) (ci := 1) (v := .long (swy q)) (C := K_S) (T := F_S) (N := 10) hx hb hG in_S hown hK.1 hP 0 rfl rfl 5 (by decide) (hG _ wd_275) (fun _ h9 => h9) rfl d_S_lineEnters_4 ?_
  refine lv_lmul hx hb d_S_lineEnters_7 ?_
  refine lv_topl (fun ax eax => ?_)
  refine lv_lstore (lv' := [(5, .long ax), (0, .ref h0), (1, .long x), (3, .long y)]) hx hb d_S_lineEnters_8 hl (by decide) rfl (fun ls hl => ?_)
  refine lv_ldc2 hx hb hown (hG _ wd_462) d_S_lineEnters_10 ?_
  refine lv_aload_n hx hb d_S_lineEnters_13 rfl (lv_at hl 1 rfl) ?_
  refine va_get (D := D) (ci := 1) (v := .long (swx q)) (C := K_S) (T := F_S) (N := 10) hx hb hG in_S hown hK.1 hP 0 rfl rfl 4 (by decide) (hG _ wd_274) (fun _ h9 => h9) rfl d_S_lineEnters_14 ?_
  refine lv_lmul hx hb d_S_lineEnters_17 ?_
  refine lv_topl (fun ay eay => ?_)
  refine lv_lstore (lv' := [(7, .long ay), (5, .long ax), (0, .ref h0), (1, .long x), (3, .long y)]) hx hb d_S_lineEnters_18 hl (by decide) rfl (fun ls hl => ?_)
  refine lv_aload_n hx hb d_S_lineEnters_20 rfl (lv_at hl 2 rfl) ?_
  refine va_get (D := D) (ci := 1) (v := .long (swx q)) (C := K_S) (T := F_S) (N := 10) hx hb hG in_S hown hK.1 hP 0 rfl rfl 4 (by decide) (hG _ wd_274) (fun _ h9 => h9) rfl d_S_lineEnters_21 ?_
  refine lv_ldc2 hx hb hown (hG _ wd_462) d_S_lineEnters_24 ?_
  refine lv_lload_n hx hb d_S_lineEnters_27 rfl (lv_at hl 4 rfl) ?_
  refine lv_aload_n hx hb d_S_lineEnters_28 rfl (lv_at hl 2 rfl) ?_
  refine va_get (D := D) (ci := 1) (v := .long (sy q)) (C := K_S) (T := F_S) (N := 10) hx hb hG in_S hown hK.1 hP 0 rfl rfl 1 (by decide) (hG _ wd_271) (fun _ h9 => h9) rfl d_S_lineEnters_29 ?_
  refine lv_lsub hx hb d_S_lineEnters_32 ?_
  refine lv_lmul hx hb d_S_lineEnters_33 ?_
  refine lv_lconst (v := 1) hx hb d_S_lineEnters_34 (by decide) ?_
  refine lv_lsub hx hb d_S_lineEnters_35 ?_
  refine lv_lmul hx hb d_S_lineEnters_36 ?_
  refine lv_aload_n hx hb d_S_lineEnters_37 rfl (lv_at hl 2 rfl) ?_
  refine va_get (D := D) (ci := 1) (v := .long (swy q)) (C := K_S) (T := F_S) (N := 10) hx hb hG in_S hown hK.1 hP 0 rfl rfl 5 (by decide) (hG _ wd_275) (fun _ h9 => h9) rfl d_S_lineEnters_38 ?_
  refine lv_ldc2 hx hb hown (hG _ wd_462) d_S_lineEnters_41 ?_
  refine lv_lload_n hx hb d_S_lineEnters_44 rfl (lv_at hl 3 rfl) ?_
  refine lv_aload_n hx hb d_S_lineEnters_45 rfl (lv_at hl 2 rfl) ?_
  refine va_get (D := D) (ci := 1) (v := .long (sx q)) (C := K_S) (T := F_S) (N := 10) hx hb hG in_S hown hK.1 hP 0 rfl rfl 0 (by decide) (hG _ wd_270) (fun _ h9 => h9) rfl d_S_lineEnters_46 ?_
  refine lv_lsub hx hb d_S_lineEnters_49 ?_
  refine lv_lmul hx hb d_S_lineEnters_50 ?_
  refine lv_lconst (v := 1) hx hb d_S_lineEnters_51 (by decide) ?_
  refine lv_lsub hx hb d_S_lineEnters_52 ?_
  refine lv_lmul hx hb d_S_lineEnters_53 ?_
  refine lv_lsub hx hb d_S_lineEnters_54 ?_
  refine lv_topl (fun cc ecc => ?_)
  refine lv_lstore (lv' := [(9, .long cc), (7, .long ay), (5, .long ax), (0, .ref h0), (1, .long x), (3, .long y)]) hx hb d_S_lineEnters_55 hl (by decide) rfl (fun ls hl => ?_)
  refine lv_lload hx hb d_S_lineEnters_57 (lv_at hl 0 rfl) ?_
  refine lv_lload hx hb d_S_lineEnters_59 (lv_at hl 2 rfl) ?_
  refine lv_lconst (v := 0) hx hb d_S_lineEnters_61 (by decide) ?_
  refine va_mmin_long hx hb (hml.trans hl.1.symm) hown (hG _ wd_264) (hG _ wd_265) (hG _ wd_49) (hG _ wd_266) (Nat.le_of_ble_eq_true rfl) (Nat.le_of_ble_eq_true rfl) (Nat.le_of_ble_eq_true rfl) (Nat.le_of_ble_eq_true rfl) d_S_lineEnters_62 ?_
  refine lv_ladd hx hb d_S_lineEnters_65 ?_
  refine lv_lload hx hb d_S_lineEnters_66 (lv_at hl 1 rfl) ?_
  refine lv_lconst (v := 0) hx hb d_S_lineEnters_68 (by decide) ?_
  refine va_mmin_long hx hb (hml.trans hl.1.symm) hown (hG _ wd_264) (hG _ wd_265) (hG _ wd_49) (hG _ wd_266) (Nat.le_of_ble_eq_true rfl) (Nat.le_of_ble_eq_true rfl) (Nat.le_of_ble_eq_true rfl) (Nat.le_of_ble_eq_true rfl) d_S_lineEnters_69 ?_
  refine lv_ladd hx hb d_S_lineEnters_72 ?_
  refine lv_topl (fun le ele => ?_)
  refine lv_lstore (lv' := [(11, .long le), (9, .long cc), (7, .long ay), (5, .long ax), (0, .ref h0), (1, .long x), (3, .long y)]) hx hb d_S_lineEnters_73 hl (by decide) rfl (fun ls hl => ?_)
  refine lv_lload hx hb d_S_lineEnters_75 (lv_at hl 1 rfl) ?_
  refine lv_lload hx hb d_S_lineEnters_77 (lv_at hl 3 rfl) ?_
  refine lv_lconst (v := 0) hx hb d_S_lineEnters_79 (by decide) ?_
  refine va_mmax_long hx hb (hml.trans hl.1.symm) hown (hG _ wd_267) (hG _ wd_268) (hG _ wd_49) (hG _ wd_269) (Nat.le_of_ble_eq_true rfl) (Nat.le_of_ble_eq_true rfl) (Nat.le_of_ble_eq_true rfl) (Nat.le_of_ble_eq_true rfl) d_S_lineEnters_80 ?_
  refine lv_ladd hx hb d_S_lineEnters_83 ?_
  refine lv_lload hx hb d_S_lineEnters_84 (lv_at hl 2 rfl) ?_
  refine lv_lconst (v := 0) hx hb d_S_lineEnters_86 (by decide) ?_
  refine va_mmax_long hx hb (hml.trans hl.1.symm) hown (hG _ wd_267) (hG _ wd_268) (hG _ wd_49) (hG _ wd_269) (Nat.le_of_ble_eq_true rfl) (Nat.le_of_ble_eq_true rfl) (Nat.le_of_ble_eq_true rfl) (Nat.le_of_ble_eq_true rfl) d_S_lineEnters_87 ?_
  refine lv_ladd hx hb d_S_lineEnters_90 ?_
  refine lv_topl (fun mo emo => ?_)
  refine lv_lstore (lv' := [(13, .long mo), (11, .long le), (9, .long cc), (7, .long ay), (5, .long ax), (0, .ref h0), (1, .long x), (3, .long y)]) hx hb d_S_lineEnters_91 hl (by decide) rfl (fun ls hl => ?_)
  have hle : ln_least ax ay cc = le := ele.symm
  have hmo : ln_most ax ay cc = mo := emo.symm
  have hgoal : sg_line q x y = ((le < 0 ∨ (le = 0 ∧ ¬ ax < 0 ∧ ¬ ay < 0)) ∧ (0 < mo ∨ (mo = 0 ∧ ¬ 0 < ax ∧ ¬ 0 < ay))) := by rw [sg_line, ← eax, ← eay, ← ecc, ln_in, hle, hmo]
  rw [hgoal]
  have J1 : ∀ (b1 : Int32) (ls : Array Slot), (b1 = b01 (¬ ax < 0 ∧ ¬ ay < 0)) → lv_has ls 17 [(5, .long ax), (7, .long ay), (11, .long le), (13, .long mo)] → W p l e ({ frames := 1, cells := 0, slots := 0, locals := 19 } : Room) s m ([.ref h0, .long x, .long y] : List Value).toArray below meth c s.heap [] 0 0 (MQ below (vp_Si (fun r => r = b01 ((le < 0 ∨ (le = 0 ∧ ¬ ax < 0 ∧ ¬ ay < 0)) ∧ (0 < mo ∨ (mo = 0 ∧ ¬ 0 < ax ∧ ¬ 0 < ay))))) ([.ref h0, .long x, .long y] : List Value).toArray s 0 0 (fun _ => False)) (F0 m 112 ls [.int b1]) := by
    intro b1 ls hb1 hl
    refine lv_istore (lv' := [(15, .int b1), (5, .long ax), (7, .long ay), (11, .long le), (13, .long mo)]) hx hb d_S_lineEnters_112 hl (by decide) rfl (fun ls hl => ?_)
    have J2 : ∀ (b2 : Int32) (ls : Array Slot), (b2 = b01 (¬ 0 < ax ∧ ¬ 0 < ay)) → lv_has ls 17 [(15, .int b1), (5, .long ax), (7, .long ay), (11, .long le), (13, .long mo)] → W p l e ({ frames := 1, cells := 0, slots := 0, locals := 19 } : Room) s m ([.ref h0, .long x, .long y] : List Value).toArray below meth c s.heap [] 0 0 (MQ below (vp_Si (fun r => r = b01 ((le < 0 ∨ (le = 0 ∧ ¬ ax < 0 ∧ ¬ ay < 0)) ∧ (0 < mo ∨ (mo = 0 ∧ ¬ 0 < ax ∧ ¬ 0 < ay))))) ([.ref h0, .long x, .long y] : List Value).toArray s 0 0 (fun _ => False)) (F0 m 133 ls [.int b2]) := by
      intro b2 ls hb2 hl
      refine lv_istore (lv' := [(16, .int b2), (15, .int b1), (5, .long ax), (7, .long ay), (11, .long le), (13, .long mo)]) hx hb d_S_lineEnters_133 hl (by decide) rfl (fun ls hl => ?_)
      have J3 : ∀ (ls : Array Slot), (le < 0 ∨ (le = 0 ∧ ¬ ax < 0 ∧ ¬ ay < 0)) → lv_has ls 17 [(16, .int b2), (15, .int b1), (5, .long ax), (7, .long ay), (11, .long le), (13, .long mo)] → W p l e ({ frames := 1, cells := 0, slots := 0, locals := 19 } : Room) s m ([.ref h0, .long x, .long y] : List Value).toArray below meth c s.heap [] 0 0 (MQ below (vp_Si (fun r => r = b01 ((le < 0 ∨ (le = 0 ∧ ¬ ax < 0 ∧ ¬ ay < 0)) ∧ (0 < mo ∨ (mo = 0 ∧ ¬ 0 < ax ∧ ¬ 0 < ay))))) ([.ref h0, .long x, .long y] : List Value).toArray s 0 0 (fun _ => False)) (F0 m 154 ls []) := by
        intro ls hL hl
        refine lv_lload hx hb d_S_lineEnters_154 (lv_at hl 5 rfl) ?_
        refine lv_lconst (v := 0) hx hb d_S_lineEnters_156 (by decide) ?_
        refine W.lcmp hx hb d_S_lineEnters_157 ?_
        refine lv_if_gt (tgt := 173) hx hb d_S_lineEnters_158 (by decide) (fun c1 => ?_) (fun c1 => ?_)
        · refine lv_iconst (v := 1) hx hb d_S_lineEnters_173 (by decide) ?_
          refine lv_goto (tgt := 178) hx hb d_S_lineEnters_174 (by decide) ?_
          exact W.zret (v := 1) (ty := .boolean) hx hb hrt rfl (fun t ht hW => ⟨1, rfl, by rw [b01_t ⟨hL, Or.inl (lg_gt.mp c1)⟩], ht⟩) (fun q h => nomatch h) d_S_lineEnters_178 hlocks
        · refine lv_lload hx hb d_S_lineEnters_161 (lv_at hl 5 rfl) ?_
          refine lv_lconst (v := 0) hx hb d_S_lineEnters_163 (by decide) ?_
          refine W.lcmp hx hb d_S_lineEnters_164 ?_
          refine lv_if_ne (tgt := 177) hx hb d_S_lineEnters_165 (by decide) (fun c2 => ?_) (fun c2 => ?_)
          · refine lv_iconst (v := 0) hx hb d_S_lineEnters_177 (by decide) ?_
            exact W.zret (v := 0) (ty := .boolean) hx hb hrt rfl (fun t ht hW => ⟨0, rfl, by rw [b01_f]; rintro ⟨_, h | h⟩; exact c1 (lg_gt.mpr h); exact c2 (lg_eq.mpr h.1), ht⟩) (fun q h => nomatch h) d_S_lineEnters_178 hlocks
          · refine lv_iload hx hb d_S_lineEnters_168 (lv_at hl 0 rfl) ?_
            refine lv_if_eq (tgt := 177) hx hb d_S_lineEnters_170 (by decide) (fun c3 => ?_) (fun c3 => ?_)
            · rw [hb2] at c3
              refine lv_iconst (v := 0) hx hb d_S_lineEnters_177 (by decide) ?_
              exact W.zret (v := 0) (ty := .boolean) hx hb hrt rfl (fun t ht hW => ⟨0, rfl, by rw [b01_f]; rintro ⟨_, h | h⟩; exact c1 (lg_gt.mpr h); exact b01_0 c3 h.2, ht⟩) (fun q h => nomatch h) d_S_lineEnters_178 hlocks
            · rw [hb2] at c3
              refine lv_iconst (v := 1) hx hb d_S_lineEnters_173 (by decide) ?_
              refine lv_goto (tgt := 178) hx hb d_S_lineEnters_174 (by decide) ?_
              exact W.zret (v := 1) (ty := .boolean) hx hb hrt rfl (fun t ht hW => ⟨1, rfl, by rw [b01_t ⟨hL, Or.inr ⟨lg_eq.mp c2, b01_1 c3⟩⟩], ht⟩) (fun q h => nomatch h) d_S_lineEnters_178 hlocks
      refine lv_lload hx hb d_S_lineEnters_135 (lv_at hl 4 rfl) ?_
      refine lv_lconst (v := 0) hx hb d_S_lineEnters_137 (by decide) ?_
      refine W.lcmp hx hb d_S_lineEnters_138 ?_
      refine lv_if_lt (tgt := 154) hx hb d_S_lineEnters_139 (by decide) (fun c1 => ?_) (fun c1 => ?_)
      · exact J3 ls (Or.inl (lg_lt.mp c1)) (lv_sub hl [0, 1, 2, 3, 4, 5] rfl)
      · refine lv_lload hx hb d_S_lineEnters_142 (lv_at hl 4 rfl) ?_
        refine lv_lconst (v := 0) hx hb d_S_lineEnters_144 (by decide) ?_
        refine W.lcmp hx hb d_S_lineEnters_145 ?_
        refine lv_if_ne (tgt := 177) hx hb d_S_lineEnters_146 (by decide) (fun c2 => ?_) (fun c2 => ?_)
        · refine lv_iconst (v := 0) hx hb d_S_lineEnters_177 (by decide) ?_
          exact W.zret (v := 0) (ty := .boolean) hx hb hrt rfl (fun t ht hW => ⟨0, rfl, by rw [b01_f]; rintro ⟨h | h, _⟩; exact c1 (lg_lt.mpr h); exact c2 (lg_eq.mpr h.1), ht⟩) (fun q h => nomatch h) d_S_lineEnters_178 hlocks
        · refine lv_iload hx hb d_S_lineEnters_149 (lv_at hl 1 rfl) ?_
          refine lv_if_eq (tgt := 177) hx hb d_S_lineEnters_151 (by decide) (fun c3 => ?_) (fun c3 => ?_)
          · rw [hb1] at c3
            refine lv_iconst (v := 0) hx hb d_S_lineEnters_177 (by decide) ?_
            exact W.zret (v := 0) (ty := .boolean) hx hb hrt rfl (fun t ht hW => ⟨0, rfl, by rw [b01_f]; rintro ⟨h | h, _⟩; exact c1 (lg_lt.mpr h); exact b01_0 c3 h.2, ht⟩) (fun q h => nomatch h) d_S_lineEnters_178 hlocks
          · rw [hb1] at c3
            exact J3 ls (Or.inr ⟨lg_eq.mp c2, b01_1 c3⟩) (lv_sub hl [0, 1, 2, 3, 4, 5] rfl)
    refine lv_lload hx hb d_S_lineEnters_114 (lv_at hl 1 rfl) ?_
    refine lv_lconst (v := 0) hx hb d_S_lineEnters_116 (by decide) ?_
    refine W.lcmp hx hb d_S_lineEnters_117 ?_
    refine lv_if_gt (tgt := 132) hx hb d_S_lineEnters_118 (by decide) (fun c1 => ?_) (fun c1 => ?_)
    · refine lv_iconst (v := 0) hx hb d_S_lineEnters_132 (by decide) ?_
      exact J2 0 ls (b01_f (fun h => h.1 (lg_gt.mp c1))).symm (lv_sub hl [0, 1, 2, 3, 4] rfl)
    · refine lv_lload hx hb d_S_lineEnters_121 (lv_at hl 2 rfl) ?_
      refine lv_lconst (v := 0) hx hb d_S_lineEnters_123 (by decide) ?_
      refine W.lcmp hx hb d_S_lineEnters_124 ?_
      refine lv_if_gt (tgt := 132) hx hb d_S_lineEnters_125 (by decide) (fun c2 => ?_) (fun c2 => ?_)
      · refine lv_iconst (v := 0) hx hb d_S_lineEnters_132 (by decide) ?_
        exact J2 0 ls (b01_f (fun h => h.2 (lg_gt.mp c2))).symm (lv_sub hl [0, 1, 2, 3, 4] rfl)
      · refine lv_iconst (v := 1) hx hb d_S_lineEnters_128 (by decide) ?_
        refine lv_goto (tgt := 133) hx hb d_S_lineEnters_129 (by decide) ?_
        exact J2 1 ls (b01_t ⟨fun h => c1 (lg_gt.mpr h), fun h => c2 (lg_gt.mpr h)⟩).symm (lv_sub hl [0, 1, 2, 3, 4] rfl)
  refine lv_lload hx hb d_S_lineEnters_93 (lv_at hl 4 rfl) ?_
  refine lv_lconst (v := 0) hx hb d_S_lineEnters_95 (by decide) ?_
  refine W.lcmp hx hb d_S_lineEnters_96 ?_
  refine lv_if_lt (tgt := 111) hx hb d_S_lineEnters_97 (by decide) (fun c1 => ?_) (fun c1 => ?_)
  · refine lv_iconst (v := 0) hx hb d_S_lineEnters_111 (by decide) ?_
    exact J1 0 ls (b01_f (fun h => h.1 (lg_lt.mp c1))).symm (lv_sub hl [4, 3, 1, 0] rfl)
  · refine lv_lload hx hb d_S_lineEnters_100 (lv_at hl 3 rfl) ?_
    refine lv_lconst (v := 0) hx hb d_S_lineEnters_102 (by decide) ?_
    refine W.lcmp hx hb d_S_lineEnters_103 ?_
    refine lv_if_lt (tgt := 111) hx hb d_S_lineEnters_104 (by decide) (fun c2 => ?_) (fun c2 => ?_)
    · refine lv_iconst (v := 0) hx hb d_S_lineEnters_111 (by decide) ?_
      exact J1 0 ls (b01_f (fun h => h.2 (lg_lt.mp c2))).symm (lv_sub hl [4, 3, 1, 0] rfl)
    · refine lv_iconst (v := 1) hx hb d_S_lineEnters_107 (by decide) ?_
      refine lv_goto (tgt := 112) hx hb d_S_lineEnters_108 (by decide) ?_
      exact J1 1 ls (b01_t ⟨fun h => c1 (lg_lt.mpr h), fun h => c2 (lg_lt.mpr h)⟩).symm (lv_sub hl [4, 3, 1, 0] rfl)
def sg_enters (q : SQ) (x y : Int64) : Prop := ¬ x < slx q ∧ ¬ smx q < x ∧ ¬ y < sly q ∧ ¬ smy q < y ∧ sg_line q x y
set_option maxHeartbeats 4000000 in
set_option maxRecDepth 100000 in
theorem k_S_enters (l : Launch) (D : va_G) (E : ClassId × ClassId × ClassId × ClassId) (h0 : Nat) (q : SQ) (x y : Int64) : Met l y_S_enters (.code y_S_enters c_S_enters 5 (some .boolean) :: gw) ({ frames := 2, cells := 0, slots := 0, locals := 60 } : Room) (rP D E [(h0, .inr (1, sgF q))] [.ref h0, .long x, .long y]) (vp_Si (fun r => r = b01 (sg_enters q x y))) 0 0 (fun _ => False) := by
  refine rd_ofW (by decide) (Nat.le_of_ble_eq_true rfl) ?_
  intro p e s m below meth c B hP hK ls hl
  obtain ⟨hx, hb, hrt, hml, hown, hts, hG, hlocks, hin⟩ := B
  have hl : lv_has ls 5 [(0, .ref h0), (1, .long x), (3, .long y)] := hl
  refine lv_lload_n hx hb d_S_enters_0 rfl (lv_at hl 1 rfl) ?_
  refine lv_aload_n hx hb d_S_enters_1 rfl (lv_at hl 0 rfl) ?_
  refine va_get (D := D) (ci := 1) (v := .long (slx q)) (C := K_S) (T := F_S) (N := 10) hx hb hG in_S hown hK.1 hP 0 rfl rfl 6 (by decide) (hG _ wd_276) (fun _ h9 => h9) rfl d_S_enters_2 ?_
  refine W.lcmp hx hb d_S_enters_5 ?_
  refine lv_if_lt (tgt := 49) hx hb d_S_enters_6 (by decide) (fun c1 => ?_) (fun c1 => ?_)
  · refine lv_iconst (v := 0) hx hb d_S_enters_49 (by decide) ?_
    exact W.zret (v := 0) (ty := .boolean) hx hb hrt rfl (fun t ht hW => ⟨0, rfl, by rw [b01_f]; intro h; exact h.1 (lg_lt.mp c1), ht⟩) (fun q h => nomatch h) d_S_enters_50 hlocks
  · refine lv_lload_n hx hb d_S_enters_9 rfl (lv_at hl 1 rfl) ?_
    refine lv_aload_n hx hb d_S_enters_10 rfl (lv_at hl 0 rfl) ?_
    refine va_get (D := D) (ci := 1) (v := .long (smx q)) (C := K_S) (T := F_S) (N := 10) hx hb hG in_S hown hK.1 hP 0 rfl rfl 8 (by decide) (hG _ wd_278) (fun _ h9 => h9) rfl d_S_enters_11 ?_
    refine W.lcmp hx hb d_S_enters_14 ?_
    refine lv_if_gt (tgt := 49) hx hb d_S_enters_15 (by decide) (fun c2 => ?_) (fun c2 => ?_)
    · refine lv_iconst (v := 0) hx hb d_S_enters_49 (by decide) ?_
      exact W.zret (v := 0) (ty := .boolean) hx hb hrt rfl (fun t ht hW => ⟨0, rfl, by rw [b01_f]; intro h; exact h.2.1 (lg_gt.mp c2), ht⟩) (fun q h => nomatch h) d_S_enters_50 hlocks
    · refine lv_lload_n hx hb d_S_enters_18 rfl (lv_at hl 2 rfl) ?_
      refine lv_aload_n hx hb d_S_enters_19 rfl (lv_at hl 0 rfl) ?_
      refine va_get (D := D) (ci := 1) (v := .long (sly q)) (C := K_S) (T := F_S) (N := 10) hx hb hG in_S hown hK.1 hP 0 rfl rfl 7 (by decide) (hG _ wd_277) (fun _ h9 => h9) rfl d_S_enters_20 ?_
      refine W.lcmp hx hb d_S_enters_23 ?_
      refine lv_if_lt (tgt := 49) hx hb d_S_enters_24 (by decide) (fun c3 => ?_) (fun c3 => ?_)
      · refine lv_iconst (v := 0) hx hb d_S_enters_49 (by decide) ?_
        exact W.zret (v := 0) (ty := .boolean) hx hb hrt rfl (fun t ht hW => ⟨0, rfl, by rw [b01_f]; intro h; exact h.2.2.1 (lg_lt.mp c3), ht⟩) (fun q h => nomatch h) d_S_enters_50 hlocks
      · refine lv_lload_n hx hb d_S_enters_27 rfl (lv_at hl 2 rfl) ?_
        refine lv_aload_n hx hb d_S_enters_28 rfl (lv_at hl 0 rfl) ?_
        refine va_get (D := D) (ci := 1) (v := .long (smy q)) (C := K_S) (T := F_S) (N := 10) hx hb hG in_S hown hK.1 hP 0 rfl rfl 9 (by decide) (hG _ wd_279) (fun _ h9 => h9) rfl d_S_enters_29 ?_
        refine W.lcmp hx hb d_S_enters_32 ?_
        refine lv_if_gt (tgt := 49) hx hb d_S_enters_33 (by decide) (fun c4 => ?_) (fun c4 => ?_)
        · refine lv_iconst (v := 0) hx hb d_S_enters_49 (by decide) ?_
          exact W.zret (v := 0) (ty := .boolean) hx hb hrt rfl (fun t ht hW => ⟨0, rfl, by rw [b01_f]; intro h; exact h.2.2.2.1 (lg_gt.mp c4), ht⟩) (fun q h => nomatch h) d_S_enters_50 hlocks
        · refine lv_aload_n hx hb d_S_enters_36 rfl (lv_at hl 0 rfl) ?_
          refine lv_lload_n hx hb d_S_enters_37 rfl (lv_at hl 1 rfl) ?_
          refine lv_lload_n hx hb d_S_enters_38 rfl (lv_at hl 2 rfl) ?_
          have hPc := hP.sub (ws' := [(h0, .inr (1, sgF q))]) [0] rfl
          refine vp_callSi (W.runV (As := [.long x, .long y]) (rest := []) ⟨hx, hb, hml, hown, hts⟩ (k_S_lineEnters l D E h0 q x y) (cwV 2 hts (gw_gv wd_503 wd_505 wd_14 wd_48 wd_506) rfl rfl rfl (by decide +kernel) ⟨Nat.le_of_ble_eq_true rfl, Nat.le_of_ble_eq_true rfl⟩) (rP_V 0 hPc hK rfl rfl) rfl rfl hl.1 rfl (lv_room (Nat.le_of_ble_eq_true rfl)) d_S_enters_39 ⟨Nat.le_of_ble_eq_true rfl, Nat.le_of_ble_eq_true rfl⟩) (fun r1 hr1 => ?_)
          refine lv_if_eq (tgt := 49) hx hb d_S_enters_42 (by decide) (fun c5 => ?_) (fun c5 => ?_)
          · rw [hr1] at c5
            refine lv_iconst (v := 0) hx hb d_S_enters_49 (by decide) ?_
            exact W.zret (v := 0) (ty := .boolean) hx hb hrt rfl (fun t ht hW => ⟨0, rfl, by rw [b01_f]; intro h; exact b01_0 c5 h.2.2.2.2, ht⟩) (fun q h => nomatch h) d_S_enters_50 hlocks
          · rw [hr1] at c5
            refine lv_iconst (v := 1) hx hb d_S_enters_45 (by decide) ?_
            refine lv_goto (tgt := 50) hx hb d_S_enters_46 (by decide) ?_
            exact W.zret (v := 1) (ty := .boolean) hx hb hrt rfl (fun t ht hW => ⟨1, rfl, by rw [b01_t ⟨fun h => c1 (lg_lt.mpr h), fun h => c2 (lg_gt.mpr h), fun h => c3 (lg_lt.mpr h), fun h => c4 (lg_gt.mpr h), b01_1 c5⟩], ht⟩) (fun q h => nomatch h) d_S_enters_50 hlocks
def sg_parts (q o : SQ) : Prop := ¬ sg_side q (sx o) (sy o) = 0 ∧ ((sg_side q (sx o) (sy o) < 0 ∧ 0 < sg_side q (su o) (sv o)) ∨ (¬ sg_side q (sx o) (sy o) < 0 ∧ sg_side q (su o) (sv o) < 0))
def sg_cross (q o : SQ) : Prop := sg_parts q o ∧ sg_parts o q
set_option maxHeartbeats 4000000 in
set_option maxRecDepth 100000 in
theorem k_S_parts (l : Launch) (D : va_G) (E : ClassId × ClassId × ClassId × ClassId) (h0 h1 : Nat) (q o : SQ) : Met l y_S_parts (.code y_S_parts c_S_parts 6 (some .boolean) :: gw) ({ frames := 1, cells := 0, slots := 0, locals := 24 } : Room) (rP D E [(h0, .inr (1, sgF q)), (h1, .inr (1, sgF o))] [.ref h0, .ref h1]) (vp_Si (fun r => r = b01 (sg_parts q o))) 0 0 (fun _ => False) := by
  refine rd_ofW (by decide) (Nat.le_of_ble_eq_true rfl) ?_
  intro p e s m below meth c B hP hK ls hl
  obtain ⟨hx, hb, hrt, hml, hown, hts, hG, hlocks, hin⟩ := B
  have hl : lv_has ls 6 [(0, .ref h0), (1, .ref h1)] := hl
  refine lv_aload_n hx hb d_S_parts_0 rfl (lv_at hl 0 rfl) ?_
  refine lv_aload_n hx hb d_S_parts_1 rfl (lv_at hl 1 rfl) ?_
  refine va_get (D := D) (ci := 1) (v := .long (sx o)) (C := K_S) (T := F_S) (N := 10) hx hb hG in_S hown hK.1 hP 1 rfl rfl 0 (by decide) (hG _ wd_270) (fun _ h9 => h9) rfl d_S_parts_2 ?_
  refine lv_aload_n hx hb d_S_parts_5 rfl (lv_at hl 1 rfl) ?_
  refine va_get (D := D) (ci := 1) (v := .long (sy o)) (C := K_S) (T := F_S) (N := 10) hx hb hG in_S hown hK.1 hP 1 rfl rfl 1 (by decide) (hG _ wd_271) (fun _ h9 => h9) rfl d_S_parts_6 ?_
  have hPc := hP.sub (ws' := [(h0, .inr (1, sgF q))]) [0] rfl
  refine vp_callSl (W.runV (As := [.long (sx o), .long (sy o)]) (rest := []) ⟨hx, hb, hml, hown, hts⟩ (k_S_sideOf l D E h0 q (sx o) (sy o)) (cwV 2 hts (gw_gv wd_447 wd_449 wd_11 wd_48 wd_450) rfl rfl rfl (by decide +kernel) ⟨Nat.le_of_ble_eq_true rfl, Nat.le_of_ble_eq_true rfl⟩) (rP_V 0 hPc hK rfl rfl) rfl rfl hl.1 rfl (lv_room (Nat.le_of_ble_eq_true rfl)) d_S_parts_9 ⟨Nat.le_of_ble_eq_true rfl, Nat.le_of_ble_eq_true rfl⟩) (fun r1 hr1 => ?_)
  subst hr1
  refine lv_lstore_n (lv' := [(2, .long (sg_side q (sx o) (sy o))), (0, .ref h0), (1, .ref h1)]) hx hb d_S_parts_12 rfl hl (by decide) rfl (fun ls hl => ?_)
  refine lv_lload_n hx hb d_S_parts_13 rfl (lv_at hl 0 rfl) ?_
  refine lv_lconst (v := 0) hx hb d_S_parts_14 (by decide) ?_
  refine W.lcmp hx hb d_S_parts_15 ?_
  refine lv_if_ne (tgt := 21) hx hb d_S_parts_16 (by decide) (fun c1 => ?_) (fun c1 => ?_)
  · refine lv_aload_n hx hb d_S_parts_21 rfl (lv_at hl 1 rfl) ?_
    refine lv_aload_n hx hb d_S_parts_22 rfl (lv_at hl 2 rfl) ?_
    refine va_get (D := D) (ci := 1) (v := .long (su o)) (C := K_S) (T := F_S) (N := 10) hx hb hG in_S hown hK.1 hP 1 rfl rfl 2 (by decide) (hG _ wd_272) (fun _ h9 => h9) rfl d_S_parts_23 ?_
    refine lv_aload_n hx hb d_S_parts_26 rfl (lv_at hl 2 rfl) ?_
    refine va_get (D := D) (ci := 1) (v := .long (sv o)) (C := K_S) (T := F_S) (N := 10) hx hb hG in_S hown hK.1 hP 1 rfl rfl 3 (by decide) (hG _ wd_273) (fun _ h9 => h9) rfl d_S_parts_27 ?_
    have hPc := hP.sub (ws' := [(h0, .inr (1, sgF q))]) [0] rfl
    refine vp_callSl (W.runV (As := [.long (su o), .long (sv o)]) (rest := []) ⟨hx, hb, hml, hown, hts⟩ (k_S_sideOf l D E h0 q (su o) (sv o)) (cwV 2 hts (gw_gv wd_447 wd_449 wd_11 wd_48 wd_450) rfl rfl rfl (by decide +kernel) ⟨Nat.le_of_ble_eq_true rfl, Nat.le_of_ble_eq_true rfl⟩) (rP_V 0 hPc hK rfl rfl) rfl rfl hl.1 rfl (lv_room (Nat.le_of_ble_eq_true rfl)) d_S_parts_30 ⟨Nat.le_of_ble_eq_true rfl, Nat.le_of_ble_eq_true rfl⟩) (fun r2 hr2 => ?_)
    subst hr2
    refine lv_lstore (lv' := [(4, .long (sg_side q (su o) (sv o))), (2, .long (sg_side q (sx o) (sy o))), (0, .ref h0), (1, .ref h1)]) hx hb d_S_parts_33 hl (by decide) rfl (fun ls hl => ?_)
    refine lv_lload_n hx hb d_S_parts_35 rfl (lv_at hl 1 rfl) ?_
    refine lv_lconst (v := 0) hx hb d_S_parts_36 (by decide) ?_
    refine W.lcmp hx hb d_S_parts_37 ?_
    refine lv_if_ge (tgt := 56) hx hb d_S_parts_38 (by decide) (fun c2 => ?_) (fun c2 => ?_)
    · refine lv_lload hx hb d_S_parts_56 (lv_at hl 0 rfl) ?_
      refine lv_lconst (v := 0) hx hb d_S_parts_58 (by decide) ?_
      refine W.lcmp hx hb d_S_parts_59 ?_
      refine lv_if_ge (tgt := 67) hx hb d_S_parts_60 (by decide) (fun c3 => ?_) (fun c3 => ?_)
      · refine lv_iconst (v := 0) hx hb d_S_parts_67 (by decide) ?_
        exact W.zret (v := 0) (ty := .boolean) hx hb hrt rfl (fun t ht hW => ⟨0, rfl, by rw [b01_f]; rintro ⟨_, h | h⟩; exact lg_ge.mp c2 h.1; exact lg_ge.mp c3 h.2, ht⟩) (fun q h => nomatch h) d_S_parts_68 hlocks
      · refine lv_iconst (v := 1) hx hb d_S_parts_63 (by decide) ?_
        refine lv_goto (tgt := 68) hx hb d_S_parts_64 (by decide) ?_
        exact W.zret (v := 1) (ty := .boolean) hx hb hrt rfl (fun t ht hW => ⟨1, rfl, by rw [b01_t ⟨fun h => c1 (lg_eq.mpr h), Or.inr ⟨lg_ge.mp c2, lg_ge' c3⟩⟩], ht⟩) (fun q h => nomatch h) d_S_parts_68 hlocks
    · refine lv_lload hx hb d_S_parts_41 (lv_at hl 0 rfl) ?_
      refine lv_lconst (v := 0) hx hb d_S_parts_43 (by decide) ?_
      refine W.lcmp hx hb d_S_parts_44 ?_
      refine lv_if_le (tgt := 52) hx hb d_S_parts_45 (by decide) (fun c3 => ?_) (fun c3 => ?_)
      · refine lv_iconst (v := 0) hx hb d_S_parts_52 (by decide) ?_
        refine lv_goto (tgt := 68) hx hb d_S_parts_53 (by decide) ?_
        exact W.zret (v := 0) (ty := .boolean) hx hb hrt rfl (fun t ht hW => ⟨0, rfl, by rw [b01_f]; rintro ⟨_, h | h⟩; exact lg_le.mp c3 h.2; exact h.1 (lg_ge' c2), ht⟩) (fun q h => nomatch h) d_S_parts_68 hlocks
      · refine lv_iconst (v := 1) hx hb d_S_parts_48 (by decide) ?_
        refine lv_goto (tgt := 68) hx hb d_S_parts_49 (by decide) ?_
        exact W.zret (v := 1) (ty := .boolean) hx hb hrt rfl (fun t ht hW => ⟨1, rfl, by rw [b01_t ⟨fun h => c1 (lg_eq.mpr h), Or.inl ⟨lg_ge' c2, lg_le' c3⟩⟩], ht⟩) (fun q h => nomatch h) d_S_parts_68 hlocks
  · refine lv_iconst (v := 0) hx hb d_S_parts_19 (by decide) ?_
    exact W.zret (v := 0) (ty := .boolean) hx hb hrt rfl (fun t ht hW => ⟨0, rfl, by rw [b01_f]; intro h; exact h.1 (lg_eq.mp c1), ht⟩) (fun q h => nomatch h) d_S_parts_20 hlocks
set_option maxHeartbeats 4000000 in
set_option maxRecDepth 100000 in
theorem k_S_crosses (l : Launch) (D : va_G) (E : ClassId × ClassId × ClassId × ClassId) (h0 h1 : Nat) (q o : SQ) : Met l y_S_crosses (.code y_S_crosses c_S_crosses 2 (some .boolean) :: gw) ({ frames := 2, cells := 0, slots := 0, locals := 49 } : Room) (rP D E [(h0, .inr (1, sgF q)), (h1, .inr (1, sgF o))] [.ref h0, .ref h1]) (vp_Si (fun r => r = b01 (sg_cross q o))) 0 0 (fun _ => False) := by
  refine rd_ofW (by decide) (Nat.le_of_ble_eq_true rfl) ?_
  intro p e s m below meth c B hP hK ls hl
  obtain ⟨hx, hb, hrt, hml, hown, hts, hG, hlocks, hin⟩ := B
  have hl : lv_has ls 2 [(0, .ref h0), (1, .ref h1)] := hl
  refine lv_aload_n hx hb d_S_crosses_0 rfl (lv_at hl 0 rfl) ?_
  refine lv_aload_n hx hb d_S_crosses_1 rfl (lv_at hl 1 rfl) ?_
  have hPc := hP.sub (ws' := [(h0, .inr (1, sgF q)), (h1, .inr (1, sgF o))]) [0, 1] rfl
  refine vp_callSi (W.runV (As := [.ref h1]) (rest := []) ⟨hx, hb, hml, hown, hts⟩ (k_S_parts l D E h0 h1 q o) (cwV 1 hts (gw_gv wd_443 wd_445 wd_10 wd_48 wd_446) rfl rfl rfl (by decide +kernel) ⟨Nat.le_of_ble_eq_true rfl, Nat.le_of_ble_eq_true rfl⟩) (rP_V 0 hPc hK rfl rfl) rfl rfl hl.1 rfl (lv_room (Nat.le_of_ble_eq_true rfl)) d_S_crosses_2 ⟨Nat.le_of_ble_eq_true rfl, Nat.le_of_ble_eq_true rfl⟩) (fun r1 hr1 => ?_)
  refine lv_if_eq (tgt := 20) hx hb d_S_crosses_5 (by decide) (fun c1 => ?_) (fun c1 => ?_)
  · rw [hr1] at c1
    refine lv_iconst (v := 0) hx hb d_S_crosses_20 (by decide) ?_
    exact W.zret (v := 0) (ty := .boolean) hx hb hrt rfl (fun t ht hW => ⟨0, rfl, by rw [b01_f]; intro h; exact b01_0 c1 h.1, ht⟩) (fun q h => nomatch h) d_S_crosses_21 hlocks
  · rw [hr1] at c1
    refine lv_aload_n hx hb d_S_crosses_8 rfl (lv_at hl 1 rfl) ?_
    refine lv_aload_n hx hb d_S_crosses_9 rfl (lv_at hl 0 rfl) ?_
    have hPc := hP.sub (ws' := [(h1, .inr (1, sgF o)), (h0, .inr (1, sgF q))]) [1, 0] rfl
    refine vp_callSi (W.runV (As := [.ref h0]) (rest := []) ⟨hx, hb, hml, hown, hts⟩ (k_S_parts l D E h1 h0 o q) (cwV 1 hts (gw_gv wd_443 wd_445 wd_10 wd_48 wd_446) rfl rfl rfl (by decide +kernel) ⟨Nat.le_of_ble_eq_true rfl, Nat.le_of_ble_eq_true rfl⟩) (rP_V 0 hPc hK rfl rfl) rfl rfl hl.1 rfl (lv_room (Nat.le_of_ble_eq_true rfl)) d_S_crosses_10 ⟨Nat.le_of_ble_eq_true rfl, Nat.le_of_ble_eq_true rfl⟩) (fun r2 hr2 => ?_)
    refine lv_if_eq (tgt := 20) hx hb d_S_crosses_13 (by decide) (fun c2 => ?_) (fun c2 => ?_)
    · rw [hr2] at c2
      refine lv_iconst (v := 0) hx hb d_S_crosses_20 (by decide) ?_
      exact W.zret (v := 0) (ty := .boolean) hx hb hrt rfl (fun t ht hW => ⟨0, rfl, by rw [b01_f]; intro h; exact b01_0 c2 h.2, ht⟩) (fun q h => nomatch h) d_S_crosses_21 hlocks
    · rw [hr2] at c2
      refine lv_iconst (v := 1) hx hb d_S_crosses_16 (by decide) ?_
      refine lv_goto (tgt := 21) hx hb d_S_crosses_17 (by decide) ?_
      exact W.zret (v := 1) (ty := .boolean) hx hb hrt rfl (fun t ht hW => ⟨1, rfl, by rw [b01_t ⟨b01_1 c1, b01_1 c2⟩], ht⟩) (fun q h => nomatch h) d_S_crosses_21 hlocks
end
