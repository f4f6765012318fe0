/-! names: classes, fields in the order of the slots, methods (by program out of the claim) -/
def K_R : String := "PixelSnapper$Row"
def F_R : u_T := fun k => match k with
  | 0 => ("PixelSnapper$Row", "most", "I", true)
  | 1 => ("PixelSnapper$Row", "cells", "[J", false)
  | _ => ("PixelSnapper$Row", "size", "I", false)
def t_R : Nat → FieldType := fun k => match k with
  | 0 => .int
  | 1 => .array .long
  | _ => .int
theorem n_R : ∀ a, a < 3 → ∀ b, b < 3 → a ≠ b → (F_R a).2.1 ≠ (F_R b).2.1 := by decide +kernel
theorem t_R_ok : ∀ k, k < 3 → parseFieldDescriptor (F_R k).2.2.1 = some (t_R k) := by decide +kernel
def K_S : String := "PixelSnapper$Segment"
def F_S : u_T := fun k => match k with
  | 0 => ("PixelSnapper$Segment", "fromX", "J", true)
  | 1 => ("PixelSnapper$Segment", "fromY", "J", true)
  | 2 => ("PixelSnapper$Segment", "toX", "J", true)
  | 3 => ("PixelSnapper$Segment", "toY", "J", true)
  | 4 => ("PixelSnapper$Segment", "wayX", "J", true)
  | 5 => ("PixelSnapper$Segment", "wayY", "J", true)
  | 6 => ("PixelSnapper$Segment", "leastX", "J", true)
  | 7 => ("PixelSnapper$Segment", "leastY", "J", true)
  | 8 => ("PixelSnapper$Segment", "mostX", "J", true)
  | _ => ("PixelSnapper$Segment", "mostY", "J", true)
def t_S : Nat → FieldType := fun k => match k with
  | 0 => .long
  | 1 => .long
  | 2 => .long
  | 3 => .long
  | 4 => .long
  | 5 => .long
  | 6 => .long
  | 7 => .long
  | 8 => .long
  | _ => .long
theorem n_S : ∀ a, a < 10 → ∀ b, b < 10 → a ≠ b → (F_S a).2.1 ≠ (F_S b).2.1 := by decide +kernel
theorem t_S_ok : ∀ k, k < 10 → parseFieldDescriptor (F_S k).2.2.1 = some (t_S k) := by decide +kernel
def K_P : String := "PixelSnapper"
def F_P : u_T := fun k => match k with
  | 0 => ("PixelSnapper", "segments", "Ljava/util/ArrayList;", true)
  | 1 => ("PixelSnapper", "hot", "LPixelSnapper$Row;", true)
  | 2 => ("PixelSnapper", "chainStarts", "LPixelSnapper$Row;", true)
  | 3 => ("PixelSnapper", "places", "LPixelSnapper$Row;", true)
  | 4 => ("PixelSnapper", "pieceKeys", "LPixelSnapper$Row;", true)
  | 5 => ("PixelSnapper", "pieceUses", "LPixelSnapper$Row;", true)
  | _ => ("PixelSnapper", "snapped", "Z", false)
def t_P : Nat → FieldType := fun k => match k with
  | 0 => .object "java/util/ArrayList"
  | 1 => .object "PixelSnapper$Row"
  | 2 => .object "PixelSnapper$Row"
  | 3 => .object "PixelSnapper$Row"
  | 4 => .object "PixelSnapper$Row"
  | 5 => .object "PixelSnapper$Row"
  | _ => .boolean
theorem n_P : ∀ a, a < 7 → ∀ b, b < 7 → a ≠ b → (F_P a).2.1 ≠ (F_P b).2.1 := by decide +kernel
theorem t_P_ok : ∀ k, k < 7 → parseFieldDescriptor (F_P k).2.2.1 = some (t_P k) := by decide +kernel
def K_M : String := "PixelSnapperModel"
def F_M : u_T := fun k => match k with
  | 0 => ("PixelSnapperModel", "thrown", "I", false)
  | 1 => ("PixelSnapperModel", "segments", "I", false)
  | 2 => ("PixelSnapperModel", "ends", "[I", true)
  | 3 => ("PixelSnapperModel", "snapped", "Z", false)
  | 4 => ("PixelSnapperModel", "hot", "I", false)
  | 5 => ("PixelSnapperModel", "hotX", "[I", true)
  | 6 => ("PixelSnapperModel", "hotY", "[I", true)
  | 7 => ("PixelSnapperModel", "begins", "[I", true)
  | 8 => ("PixelSnapperModel", "places", "[I", true)
  | 9 => ("PixelSnapperModel", "pieces", "I", false)
  | 10 => ("PixelSnapperModel", "lows", "[I", true)
  | 11 => ("PixelSnapperModel", "highs", "[I", true)
  | 12 => ("PixelSnapperModel", "often", "[I", true)
  | 13 => ("PixelSnapperModel", "crossX", "I", false)
  | 14 => ("PixelSnapperModel", "crossY", "I", false)
  | 15 => ("PixelSnapperModel", "fromOver", "J", false)
  | 16 => ("PixelSnapperModel", "fromUnder", "J", false)
  | 17 => ("PixelSnapperModel", "toOver", "J", false)
  | 18 => ("PixelSnapperModel", "toUnder", "J", false)
  | 19 => ("PixelSnapperModel", "fromIn", "Z", false)
  | 20 => ("PixelSnapperModel", "toIn", "Z", false)
  | 21 => ("PixelSnapperModel", "overs", "[J", true)
  | 22 => ("PixelSnapperModel", "unders", "[J", true)
  | _ => ("PixelSnapperModel", "closed", "[Z", true)
def t_M : Nat → FieldType := fun k => match k with
  | 0 => .int
  | 1 => .int
  | 2 => .array .int
  | 3 => .boolean
  | 4 => .int
  | 5 => .array .int
  | 6 => .array .int
  | 7 => .array .int
  | 8 => .array .int
  | 9 => .int
  | 10 => .array .int
  | 11 => .array .int
  | 12 => .array .int
  | 13 => .int
  | 14 => .int
  | 15 => .long
  | 16 => .long
  | 17 => .long
  | 18 => .long
  | 19 => .boolean
  | 20 => .boolean
  | 21 => .array .long
  | 22 => .array .long
  | _ => .array .boolean
theorem n_M : ∀ a, a < 24 → ∀ b, b < 24 → a ≠ b → (F_M a).2.1 ≠ (F_M b).2.1 := by decide +kernel
theorem t_M_ok : ∀ k, k < 24 → parseFieldDescriptor (F_M k).2.2.1 = some (t_M k) := by decide +kernel
def K_A : String := "java/util/ArrayList"
def F_A : u_T := fun k => match k with
  | 0 => ("java/util/ArrayList", "elementData", "[Ljava/lang/Object;", false)
  | 1 => ("java/util/ArrayList", "size", "I", false)
  | _ => ("java/util/AbstractList", "modCount", "I", false)
def t_A : Nat → FieldType := fun k => match k with
  | 0 => .array (.object "java/lang/Object")
  | 1 => .int
  | _ => .int
theorem n_A : ∀ a, a < 3 → ∀ b, b < 3 → a ≠ b → (F_A a).2.1 ≠ (F_A b).2.1 := by decide +kernel
theorem t_A_ok : ∀ k, k < 3 → parseFieldDescriptor (F_A k).2.2.1 = some (t_A k) := by decide +kernel
abbrev vwC : List vw_C := [(K_R, F_R, 3), (K_S, F_S, 10), (K_P, F_P, 7), (K_M, F_M, 24), (K_A, F_A, 3)]
def y_A_add_Object : MethodName := ⟨"java/util/ArrayList", "add", "(Ljava/lang/Object;)Z"⟩
abbrev c_A_add_Object : ByteArray := prog_21_method_25_code
def y_A_add_ObjectaObjectI : MethodName := ⟨"java/util/ArrayList", "add", "(Ljava/lang/Object;[Ljava/lang/Object;I)V"⟩
abbrev c_A_add_ObjectaObjectI : ByteArray := prog_21_method_24_code
def y_A_clear : MethodName := ⟨"java/util/ArrayList", "clear", "()V"⟩
abbrev c_A_clear : ByteArray := prog_21_method_40_code
def y_A_elementData : MethodName := ⟨"java/util/ArrayList", "elementData", "(I)Ljava/lang/Object;"⟩
abbrev c_A_elementData : ByteArray := prog_21_method_18_code
def y_A_get : MethodName := ⟨"java/util/ArrayList", "get", "(I)Ljava/lang/Object;"⟩
abbrev c_A_get : ByteArray := prog_21_method_20_code
def y_A_grow_0 : MethodName := ⟨"java/util/ArrayList", "grow", "()[Ljava/lang/Object;"⟩
abbrev c_A_grow_0 : ByteArray := prog_21_method_7_code
def y_A_grow_I : MethodName := ⟨"java/util/ArrayList", "grow", "(I)[Ljava/lang/Object;"⟩
abbrev c_A_grow_I : ByteArray := prog_21_method_6_code
def y_A_init : MethodName := ⟨"java/util/ArrayList", "<init>", "()V"⟩
abbrev c_A_init : ByteArray := prog_21_method_2_code
def y_A_size : MethodName := ⟨"java/util/ArrayList", "size", "()I"⟩
abbrev c_A_size : ByteArray := prog_21_method_8_code
def y_B_init : MethodName := ⟨"java/util/AbstractList", "<init>", "()V"⟩
abbrev c_B_init : ByteArray := prog_20_method_1_code
def y_C_init : MethodName := ⟨"java/util/AbstractCollection", "<init>", "()V"⟩
abbrev c_C_init : ByteArray := prog_19_method_1_code
def y_EA_init : MethodName := ⟨"java/lang/IllegalArgumentException", "<init>", "(Ljava/lang/String;)V"⟩
abbrev c_EA_init : ByteArray := prog_9_method_2_code
def y_EI_init : MethodName := ⟨"java/lang/IndexOutOfBoundsException", "<init>", "(Ljava/lang/String;)V"⟩
abbrev c_EI_init : ByteArray := prog_11_method_2_code
def y_ES_init : MethodName := ⟨"java/lang/IllegalStateException", "<init>", "(Ljava/lang/String;)V"⟩
abbrev c_ES_init : ByteArray := prog_10_method_2_code
def y_EU_init : MethodName := ⟨"java/lang/UnsupportedOperationException", "<init>", "(Ljava/lang/String;)V"⟩
abbrev c_EU_init : ByteArray := prog_18_method_2_code
def y_E_init : MethodName := ⟨"java/lang/RuntimeException", "<init>", "(Ljava/lang/String;)V"⟩
abbrev c_E_init : ByteArray := prog_14_method_2_code
def y_H_abs : MethodName := ⟨"java/lang/Math", "abs", "(J)J"⟩
abbrev c_H_abs : ByteArray := prog_13_method_61_code
def y_H_max_II : MethodName := ⟨"java/lang/Math", "max", "(II)I"⟩
abbrev c_H_max_II : ByteArray := prog_13_method_65_code
def y_H_max_JJ : MethodName := ⟨"java/lang/Math", "max", "(JJ)J"⟩
abbrev c_H_max_JJ : ByteArray := prog_13_method_66_code
def y_H_min_II : MethodName := ⟨"java/lang/Math", "min", "(II)I"⟩
abbrev c_H_min_II : ByteArray := prog_13_method_69_code
def y_H_min_JJ : MethodName := ⟨"java/lang/Math", "min", "(JJ)J"⟩
abbrev c_H_min_JJ : ByteArray := prog_13_method_70_code
def y_J_clone : MethodName := ⟨"java/lang/Object", "clone", "()Ljava/lang/Object;"⟩
def y_J_getClass : MethodName := ⟨"java/lang/Object", "getClass", "()Ljava/lang/Class;"⟩
def y_J_init : MethodName := ⟨"java/lang/Object", "<init>", "()V"⟩
abbrev c_J_init : ByteArray := object_method_1_code
def y_L_chain : MethodName := ⟨"PixelSnapperLaw", "chain", "(LPixelSnapper;I[J)I"⟩
abbrev c_L_chain : ByteArray := method_8_code
def y_L_chainAt : MethodName := ⟨"PixelSnapperLaw", "chainAt", "(LPixelSnapper;II[J)I"⟩
abbrev c_L_chainAt : ByteArray := method_9_code
def y_L_crossing : MethodName := ⟨"PixelSnapperLaw", "crossing", "(LPixelSnapper;III[J)I"⟩
abbrev c_L_crossing : ByteArray := method_6_code
def y_L_meets : MethodName := ⟨"PixelSnapperLaw", "meets", "(LPixelSnapper;III[J)I"⟩
abbrev c_L_meets : ByteArray := method_5_code
def y_L_piece : MethodName := ⟨"PixelSnapperLaw", "piece", "(LPixelSnapper;II[J)I"⟩
abbrev c_L_piece : ByteArray := method_10_code
def y_L_pixel : MethodName := ⟨"PixelSnapperLaw", "pixel", "(LPixelSnapper;II[J)I"⟩
abbrev c_L_pixel : ByteArray := method_7_code
def y_L_segment : MethodName := ⟨"PixelSnapperLaw", "segment", "(LPixelSnapper;IIII[J)I"⟩
abbrev c_L_segment : ByteArray := method_3_code
def y_L_snap : MethodName := ⟨"PixelSnapperLaw", "snap", "(LPixelSnapper;[J)I"⟩
abbrev c_L_snap : ByteArray := method_4_code
def y_M_along : MethodName := ⟨"PixelSnapperModel", "along", "(JJJ)Z"⟩
abbrev c_M_along : ByteArray := prog_5_method_13_code
def y_M_chain : MethodName := ⟨"PixelSnapperModel", "chain", "(I)I"⟩
abbrev c_M_chain : ByteArray := prog_5_method_28_code
def y_M_chainAll : MethodName := ⟨"PixelSnapperModel", "chainAll", "()Z"⟩
abbrev c_M_chainAll : ByteArray := prog_5_method_24_code
def y_M_chainAt : MethodName := ⟨"PixelSnapperModel", "chainAt", "(II)I"⟩
abbrev c_M_chainAt : ByteArray := prog_5_method_29_code
def y_M_clear : MethodName := ⟨"PixelSnapperModel", "clear", "()I"⟩
abbrev c_M_clear : ByteArray := prog_5_method_9_code
def y_M_compare : MethodName := ⟨"PixelSnapperModel", "compare", "(JJJJ)I"⟩
abbrev c_M_compare : ByteArray := prog_5_method_10_code
def y_M_count : MethodName := ⟨"PixelSnapperModel", "count", "(I)I"⟩
abbrev c_M_count : ByteArray := prog_5_method_31_code
def y_M_cross : MethodName := ⟨"PixelSnapperModel", "cross", "(II)Z"⟩
abbrev c_M_cross : ByteArray := prog_5_method_18_code
def y_M_crossing : MethodName := ⟨"PixelSnapperModel", "crossing", "(III)I"⟩
abbrev c_M_crossing : ByteArray := prog_5_method_19_code
def y_M_end : MethodName := ⟨"PixelSnapperModel", "end", "(II)J"⟩
abbrev c_M_end : ByteArray := prog_5_method_16_code
def y_M_fail : MethodName := ⟨"PixelSnapperModel", "fail", "(I)I"⟩
abbrev c_M_fail : ByteArray := prog_5_method_3_code
def y_M_forget : MethodName := ⟨"PixelSnapperModel", "forget", "()V"⟩
abbrev c_M_forget : ByteArray := prog_5_method_7_code
def y_M_gather : MethodName := ⟨"PixelSnapperModel", "gather", "(II)V"⟩
abbrev c_M_gather : ByteArray := prog_5_method_25_code
def y_M_heat : MethodName := ⟨"PixelSnapperModel", "heat", "(II)Z"⟩
abbrev c_M_heat : ByteArray := prog_5_method_21_code
def y_M_heatAll : MethodName := ⟨"PixelSnapperModel", "heatAll", "()Z"⟩
abbrev c_M_heatAll : ByteArray := prog_5_method_22_code
def y_M_init : MethodName := ⟨"PixelSnapperModel", "<init>", "()V"⟩
abbrev c_M_init : ByteArray := prog_5_method_1_code
def y_M_insert : MethodName := ⟨"PixelSnapperModel", "insert", "(III)V"⟩
abbrev c_M_insert : ByteArray := prog_5_method_23_code
def y_M_isBefore : MethodName := ⟨"PixelSnapperModel", "isBefore", "(III)Z"⟩
abbrev c_M_isBefore : ByteArray := prog_5_method_20_code
def y_M_isFar : MethodName := ⟨"PixelSnapperModel", "isFar", "(I)Z"⟩
abbrev c_M_isFar : ByteArray := prog_5_method_5_code
def y_M_isIn : MethodName := ⟨"PixelSnapperModel", "isIn", "(III)Z"⟩
abbrev c_M_isIn : ByteArray := prog_5_method_14_code
def y_M_isSegment : MethodName := ⟨"PixelSnapperModel", "isSegment", "(I)Z"⟩
abbrev c_M_isSegment : ByteArray := prog_5_method_6_code
def y_M_meets : MethodName := ⟨"PixelSnapperModel", "meets", "(III)Z"⟩
abbrev c_M_meets : ByteArray := prog_5_method_15_code
def y_M_piece : MethodName := ⟨"PixelSnapperModel", "piece", "(II)I"⟩
abbrev c_M_piece : ByteArray := prog_5_method_30_code
def y_M_pixel : MethodName := ⟨"PixelSnapperModel", "pixel", "(II)I"⟩
abbrev c_M_pixel : ByteArray := prog_5_method_27_code
def y_M_raise : MethodName := ⟨"PixelSnapperModel", "raise", "(JJZ)V"⟩
abbrev c_M_raise : ByteArray := prog_5_method_11_code
def y_M_reduce : MethodName := ⟨"PixelSnapperModel", "reduce", "(JJZ)V"⟩
abbrev c_M_reduce : ByteArray := prog_5_method_12_code
def y_M_rounded : MethodName := ⟨"PixelSnapperModel", "rounded", "(JJJ)J"⟩
abbrev c_M_rounded : ByteArray := prog_5_method_17_code
def y_M_segment : MethodName := ⟨"PixelSnapperModel", "segment", "(IIII)I"⟩
abbrev c_M_segment : ByteArray := prog_5_method_8_code
def y_M_snap : MethodName := ⟨"PixelSnapperModel", "snap", "()I"⟩
abbrev c_M_snap : ByteArray := prog_5_method_26_code
def y_M_thrown : MethodName := ⟨"PixelSnapperModel", "thrown", "()I"⟩
abbrev c_M_thrown : ByteArray := prog_5_method_2_code
def y_M_within : MethodName := ⟨"PixelSnapperModel", "within", "(III)Z"⟩
abbrev c_M_within : ByteArray := prog_5_method_4_code
def y_O_checkIndex : MethodName := ⟨"java/util/Objects", "checkIndex", "(II)I"⟩
abbrev c_O_checkIndex : ByteArray := prog_25_method_17_code
def y_P_addPlaces : MethodName := ⟨"PixelSnapper", "addPlaces", "(LPixelSnapper$Segment;)Z"⟩
abbrev c_P_addPlaces : ByteArray := prog_1_method_26_code
def y_P_chain : MethodName := ⟨"PixelSnapper", "chain", "(I)I"⟩
abbrev c_P_chain : ByteArray := prog_1_method_8_code
def y_P_chainAt : MethodName := ⟨"PixelSnapper", "chainAt", "(II)I"⟩
abbrev c_P_chainAt : ByteArray := prog_1_method_9_code
def y_P_chainStart : MethodName := ⟨"PixelSnapper", "chainStart", "(I)I"⟩
abbrev c_P_chainStart : ByteArray := prog_1_method_19_code
def y_P_clear : MethodName := ⟨"PixelSnapper", "clear", "()I"⟩
abbrev c_P_clear : ByteArray := prog_1_method_3_code
def y_P_count : MethodName := ⟨"PixelSnapper", "count", "(I)I"⟩
abbrev c_P_count : ByteArray := prog_1_method_11_code
def y_P_crossing : MethodName := ⟨"PixelSnapper", "crossing", "(III)I"⟩
abbrev c_P_crossing : ByteArray := prog_1_method_6_code
def y_P_findChains : MethodName := ⟨"PixelSnapper", "findChains", "()Z"⟩
abbrev c_P_findChains : ByteArray := prog_1_method_25_code
def y_P_findHot : MethodName := ⟨"PixelSnapper", "findHot", "()Z"⟩
abbrev c_P_findHot : ByteArray := prog_1_method_21_code
def y_P_findPieces : MethodName := ⟨"PixelSnapper", "findPieces", "()V"⟩
abbrev c_P_findPieces : ByteArray := prog_1_method_30_code
def y_P_forgetSnap : MethodName := ⟨"PixelSnapper", "forgetSnap", "()V"⟩
abbrev c_P_forgetSnap : ByteArray := prog_1_method_20_code
def y_P_hasSegment : MethodName := ⟨"PixelSnapper", "hasSegment", "(I)Z"⟩
abbrev c_P_hasSegment : ByteArray := prog_1_method_18_code
def y_P_heat : MethodName := ⟨"PixelSnapper", "heat", "(J)Z"⟩
abbrev c_P_heat : ByteArray := prog_1_method_23_code
def y_P_heatCrossings : MethodName := ⟨"PixelSnapper", "heatCrossings", "(LPixelSnapper$Segment;I)Z"⟩
abbrev c_P_heatCrossings : ByteArray := prog_1_method_22_code
def y_P_inReach : MethodName := ⟨"PixelSnapper", "inReach", "(I)Z"⟩
abbrev c_P_inReach : ByteArray := prog_1_method_12_code
def y_P_init : MethodName := ⟨"PixelSnapper", "<init>", "()V"⟩
abbrev c_P_init : ByteArray := prog_1_method_1_code
def y_P_isXOrY : MethodName := ⟨"PixelSnapper", "isXOrY", "(I)Z"⟩
abbrev c_P_isXOrY : ByteArray := prog_1_method_13_code
def y_P_keyOf : MethodName := ⟨"PixelSnapper", "keyOf", "(JJ)J"⟩
abbrev c_P_keyOf : ByteArray := prog_1_method_14_code
def y_P_keyPart : MethodName := ⟨"PixelSnapper", "keyPart", "(JI)I"⟩
abbrev c_P_keyPart : ByteArray := prog_1_method_17_code
def y_P_keyX : MethodName := ⟨"PixelSnapper", "keyX", "(J)J"⟩
abbrev c_P_keyX : ByteArray := prog_1_method_15_code
def y_P_keyY : MethodName := ⟨"PixelSnapper", "keyY", "(J)J"⟩
abbrev c_P_keyY : ByteArray := prog_1_method_16_code
def y_P_meets : MethodName := ⟨"PixelSnapper", "meets", "(III)Z"⟩
abbrev c_P_meets : ByteArray := prog_1_method_5_code
def y_P_mergeHot : MethodName := ⟨"PixelSnapper", "mergeHot", "()Z"⟩
abbrev c_P_mergeHot : ByteArray := prog_1_method_24_code
def y_P_orderPlaces : MethodName := ⟨"PixelSnapper", "orderPlaces", "(LPixelSnapper$Segment;I)V"⟩
abbrev c_P_orderPlaces : ByteArray := prog_1_method_27_code
def y_P_piece : MethodName := ⟨"PixelSnapper", "piece", "(II)I"⟩
abbrev c_P_piece : ByteArray := prog_1_method_10_code
def y_P_pixel : MethodName := ⟨"PixelSnapper", "pixel", "(II)I"⟩
abbrev c_P_pixel : ByteArray := prog_1_method_7_code
def y_P_placeX : MethodName := ⟨"PixelSnapper", "placeX", "(I)J"⟩
abbrev c_P_placeX : ByteArray := prog_1_method_29_code
def y_P_segment : MethodName := ⟨"PixelSnapper", "segment", "(IIII)I"⟩
abbrev c_P_segment : ByteArray := prog_1_method_2_code
def y_P_snap : MethodName := ⟨"PixelSnapper", "snap", "()I"⟩
abbrev c_P_snap : ByteArray := prog_1_method_4_code
def y_P_turnColumnsRound : MethodName := ⟨"PixelSnapper", "turnColumnsRound", "(I)V"⟩
abbrev c_P_turnColumnsRound : ByteArray := prog_1_method_28_code
def y_Q_checkIndex : MethodName := ⟨"jdk/internal/util/Preconditions", "checkIndex", "(IILjava/util/function/BiFunction;)I"⟩
abbrev c_Q_checkIndex : ByteArray := prog_29_method_11_code
def y_R_add : MethodName := ⟨"PixelSnapper$Row", "add", "(J)Z"⟩
abbrev c_R_add : ByteArray := prog_2_method_7_code
def y_R_at : MethodName := ⟨"PixelSnapper$Row", "at", "(I)J"⟩
abbrev c_R_at : ByteArray := prog_2_method_5_code
def y_R_countEqual : MethodName := ⟨"PixelSnapper$Row", "countEqual", "(LPixelSnapper$Row;)V"⟩
abbrev c_R_countEqual : ByteArray := prog_2_method_12_code
def y_R_drop : MethodName := ⟨"PixelSnapper$Row", "drop", "()V"⟩
abbrev c_R_drop : ByteArray := prog_2_method_6_code
def y_R_firstFrom : MethodName := ⟨"PixelSnapper$Row", "firstFrom", "(J)I"⟩
abbrev c_R_firstFrom : ByteArray := prog_2_method_8_code
def y_R_has : MethodName := ⟨"PixelSnapper$Row", "has", "(I)Z"⟩
abbrev c_R_has : ByteArray := prog_2_method_3_code
def y_R_init : MethodName := ⟨"PixelSnapper$Row", "<init>", "(I)V"⟩
abbrev c_R_init : ByteArray := prog_2_method_1_code
def y_R_isFull : MethodName := ⟨"PixelSnapper$Row", "isFull", "()Z"⟩
abbrev c_R_isFull : ByteArray := prog_2_method_4_code
def y_R_keepDistinct : MethodName := ⟨"PixelSnapper$Row", "keepDistinct", "()V"⟩
abbrev c_R_keepDistinct : ByteArray := prog_2_method_13_code
def y_R_sink : MethodName := ⟨"PixelSnapper$Row", "sink", "(JII)V"⟩
abbrev c_R_sink : ByteArray := prog_2_method_11_code
def y_R_size : MethodName := ⟨"PixelSnapper$Row", "size", "()I"⟩
abbrev c_R_size : ByteArray := prog_2_method_2_code
def y_R_sort : MethodName := ⟨"PixelSnapper$Row", "sort", "()V"⟩
abbrev c_R_sort : ByteArray := prog_2_method_10_code
def y_R_turnRound : MethodName := ⟨"PixelSnapper$Row", "turnRound", "(II)V"⟩
abbrev c_R_turnRound : ByteArray := prog_2_method_9_code
def y_S_crosses : MethodName := ⟨"PixelSnapper$Segment", "crosses", "(LPixelSnapper$Segment;)Z"⟩
abbrev c_S_crosses : ByteArray := prog_3_method_11_code
def y_S_crossingKey : MethodName := ⟨"PixelSnapper$Segment", "crossingKey", "(LPixelSnapper$Segment;)J"⟩
abbrev c_S_crossingKey : ByteArray := prog_3_method_13_code
def y_S_enters : MethodName := ⟨"PixelSnapper$Segment", "enters", "(JJ)Z"⟩
abbrev c_S_enters : ByteArray := prog_3_method_8_code
def y_S_fromKey : MethodName := ⟨"PixelSnapper$Segment", "fromKey", "()J"⟩
abbrev c_S_fromKey : ByteArray := prog_3_method_2_code
def y_S_goesDown : MethodName := ⟨"PixelSnapper$Segment", "goesDown", "()Z"⟩
abbrev c_S_goesDown : ByteArray := prog_3_method_7_code
def y_S_goesLeft : MethodName := ⟨"PixelSnapper$Segment", "goesLeft", "()Z"⟩
abbrev c_S_goesLeft : ByteArray := prog_3_method_6_code
def y_S_init : MethodName := ⟨"PixelSnapper$Segment", "<init>", "(IIII)V"⟩
abbrev c_S_init : ByteArray := prog_3_method_1_code
def y_S_leastKey : MethodName := ⟨"PixelSnapper$Segment", "leastKey", "()J"⟩
abbrev c_S_leastKey : ByteArray := prog_3_method_4_code
def y_S_lineEnters : MethodName := ⟨"PixelSnapper$Segment", "lineEnters", "(JJ)Z"⟩
abbrev c_S_lineEnters : ByteArray := prog_3_method_9_code
def y_S_mostKey : MethodName := ⟨"PixelSnapper$Segment", "mostKey", "()J"⟩
abbrev c_S_mostKey : ByteArray := prog_3_method_5_code
def y_S_parts : MethodName := ⟨"PixelSnapper$Segment", "parts", "(LPixelSnapper$Segment;)Z"⟩
abbrev c_S_parts : ByteArray := prog_3_method_12_code
def y_S_roundedPart : MethodName := ⟨"PixelSnapper$Segment", "roundedPart", "(JJJ)J"⟩
abbrev c_S_roundedPart : ByteArray := prog_3_method_14_code
def y_S_sideOf : MethodName := ⟨"PixelSnapper$Segment", "sideOf", "(JJ)J"⟩
abbrev c_S_sideOf : ByteArray := prog_3_method_10_code
def y_S_toKey : MethodName := ⟨"PixelSnapper$Segment", "toKey", "()J"⟩
abbrev c_S_toKey : ByteArray := prog_3_method_3_code
def y_T_fillInStackTrace_0 : MethodName := ⟨"java/lang/Throwable", "fillInStackTrace", "()Ljava/lang/Throwable;"⟩
abbrev c_T_fillInStackTrace_0 : ByteArray := prog_17_method_18_code
def y_T_fillInStackTrace_I : MethodName := ⟨"java/lang/Throwable", "fillInStackTrace", "(I)Ljava/lang/Throwable;"⟩
def y_T_init_0 : MethodName := ⟨"java/lang/Throwable", "<init>", "()V"⟩
abbrev c_T_init_0 : ByteArray := prog_17_method_1_code
def y_T_init_String : MethodName := ⟨"java/lang/Throwable", "<init>", "(Ljava/lang/String;)V"⟩
abbrev c_T_init_String : ByteArray := prog_17_method_2_code
def y_U_hugeLength : MethodName := ⟨"jdk/internal/util/ArraysSupport", "hugeLength", "(II)I"⟩
abbrev c_U_hugeLength : ByteArray := prog_28_method_28_code
def y_U_newLength : MethodName := ⟨"jdk/internal/util/ArraysSupport", "newLength", "(III)I"⟩
abbrev c_U_newLength : ByteArray := prog_28_method_27_code
def y_X_init : MethodName := ⟨"java/lang/Exception", "<init>", "(Ljava/lang/String;)V"⟩
abbrev c_X_init : ByteArray := prog_8_method_2_code
def y_Y_copyOf_aJI : MethodName := ⟨"java/util/Arrays", "copyOf", "([JI)[J"⟩
abbrev c_Y_copyOf_aJI : ByteArray := prog_22_method_124_code
def y_Y_copyOf_aObjectI : MethodName := ⟨"java/util/Arrays", "copyOf", "([Ljava/lang/Object;I)[Ljava/lang/Object;"⟩
abbrev c_Y_copyOf_aObjectI : ByteArray := prog_22_method_119_code
def y_Y_copyOf_aObjectIClass : MethodName := ⟨"java/util/Arrays", "copyOf", "([Ljava/lang/Object;ILjava/lang/Class;)[Ljava/lang/Object;"⟩
abbrev c_Y_copyOf_aObjectIClass : ByteArray := prog_22_method_120_code
def y_Z_arraycopy : MethodName := ⟨"java/lang/System", "arraycopy", "(Ljava/lang/Object;ILjava/lang/Object;II)V"⟩
/-- the words that hold at every state of a launch, of all that the tables say -/
def gw : List Cond := lw_tbl.filter goodWord
theorem gw_in {w : Cond} (h : w ∈ lw_tbl) (hg : goodWord w = true) : w ∈ gw := List.mem_filter.mpr ⟨h, hg⟩
theorem gw_good {w : Cond} (h : w ∈ gw) : (w.onTables && w.keeps) = true ∨ ∃ ty, w = .arrayClass ty := good_of_word (List.mem_filter.mp h).2
theorem gw_gi {c1 c2 : Cond} (h : c2 ∈ gw) : GoodIn (c1 :: gw) (c2 :: gw) := by
  intro w hw
  rcases List.mem_cons.mp hw with rfl | hw
  · exact ⟨List.mem_cons_of_mem _ h, gw_good h⟩
  · exact ⟨List.mem_cons_of_mem _ hw, gw_good hw⟩
theorem gw_gp {c1 c2 : Cond} {pre : List Cond} (hp : ∀ w ∈ pre, w ∈ gw) (h : c2 ∈ gw) : GoodIn (c1 :: gw) (pre ++ c2 :: gw) := by
  intro w hw
  rcases List.mem_append.mp hw with hw | hw
  · exact ⟨List.mem_cons_of_mem _ (hp w hw), gw_good (hp w hw)⟩
  · exact gw_gi h w hw
theorem gw_gv {c1 : Cond} {own C : String} {idx n : Nat} {y : MethodName} {b : ByteArray} {r : Option FieldType} (h1 : Cond.methodLink own idx y ∈ gw) (h2 : Cond.instanceMethod y ∈ gw) (h3 : Cond.selects C y y ∈ gw) (h4 : Cond.initialized C ∈ gw) (h5 : Cond.code y b n r ∈ gw) : GoodIn (c1 :: gw) (wsV own idx C y (.code y b n r :: gw)) := by
  refine gw_gp (pre := [.methodLink own idx y, .instanceMethod y, .selects C y y, .initialized C]) ?_ h5
  intro w hw
  simp only [List.mem_cons, List.not_mem_nil, or_false] at hw
  rcases hw with rfl | rfl | rfl | rfl <;> assumption
theorem gw_gs {c1 : Cond} {own : String} {idx n : Nat} {y : MethodName} {b : ByteArray} {r : Option FieldType} (h1 : Cond.methodLink own idx y ∈ gw) (h2 : Cond.static y ∈ gw) (h4 : Cond.initialized y.cls ∈ gw) (h5 : Cond.code y b n r ∈ gw) : GoodIn (c1 :: gw) (va_wsS own idx y (.code y b n r :: gw)) := by
  refine gw_gp (pre := [.methodLink own idx y, .static y, .initialized y.cls]) ?_ h5
  intro w hw
  simp only [List.mem_cons, List.not_mem_nil, or_false] at hw
  rcases hw with rfl | rfl | rfl <;> assumption

theorem wd_0 : (.selects "PixelSnapper" y_P_forgetSnap y_P_forgetSnap : Cond) ∈ gw := gw_in (List.mem_of_getElem? (i := 0) (by decide +kernel)) (by decide +kernel)
theorem wd_1 : (.selects "java/lang/Throwable" y_T_fillInStackTrace_I y_T_fillInStackTrace_I : Cond) ∈ gw := gw_in (List.mem_of_getElem? (i := 1) (by decide +kernel)) (by decide +kernel)
theorem wd_2 : (.selects "java/util/ArrayList" y_A_add_ObjectaObjectI y_A_add_ObjectaObjectI : Cond) ∈ gw := gw_in (List.mem_of_getElem? (i := 2) (by decide +kernel)) (by decide +kernel)
theorem wd_3 : (.selects "java/util/ArrayList" y_A_grow_0 y_A_grow_0 : Cond) ∈ gw := gw_in (List.mem_of_getElem? (i := 3) (by decide +kernel)) (by decide +kernel)
theorem wd_4 : (.selects "java/util/ArrayList" y_A_grow_I y_A_grow_I : Cond) ∈ gw := gw_in (List.mem_of_getElem? (i := 4) (by decide +kernel)) (by decide +kernel)
theorem wd_5 : (.selects "PixelSnapper" y_P_findHot y_P_findHot : Cond) ∈ gw := gw_in (List.mem_of_getElem? (i := 5) (by decide +kernel)) (by decide +kernel)
theorem wd_6 : (.selects "PixelSnapper" y_P_heat y_P_heat : Cond) ∈ gw := gw_in (List.mem_of_getElem? (i := 6) (by decide +kernel)) (by decide +kernel)
theorem wd_7 : (.selects "PixelSnapper" y_P_mergeHot y_P_mergeHot : Cond) ∈ gw := gw_in (List.mem_of_getElem? (i := 7) (by decide +kernel)) (by decide +kernel)
theorem wd_8 : (.selects "PixelSnapper$Row" y_R_sink y_R_sink : Cond) ∈ gw := gw_in (List.mem_of_getElem? (i := 8) (by decide +kernel)) (by decide +kernel)
theorem wd_9 : (.selects "PixelSnapper" y_P_heatCrossings y_P_heatCrossings : Cond) ∈ gw := gw_in (List.mem_of_getElem? (i := 9) (by decide +kernel)) (by decide +kernel)
theorem wd_10 : (.selects "PixelSnapper$Segment" y_S_parts y_S_parts : Cond) ∈ gw := gw_in (List.mem_of_getElem? (i := 10) (by decide +kernel)) (by decide +kernel)
theorem wd_11 : (.selects "PixelSnapper$Segment" y_S_sideOf y_S_sideOf : Cond) ∈ gw := gw_in (List.mem_of_getElem? (i := 11) (by decide +kernel)) (by decide +kernel)
theorem wd_12 : (.selects "PixelSnapper" y_P_findChains y_P_findChains : Cond) ∈ gw := gw_in (List.mem_of_getElem? (i := 12) (by decide +kernel)) (by decide +kernel)
theorem wd_13 : (.selects "PixelSnapper" y_P_addPlaces y_P_addPlaces : Cond) ∈ gw := gw_in (List.mem_of_getElem? (i := 13) (by decide +kernel)) (by decide +kernel)
theorem wd_14 : (.selects "PixelSnapper$Segment" y_S_lineEnters y_S_lineEnters : Cond) ∈ gw := gw_in (List.mem_of_getElem? (i := 14) (by decide +kernel)) (by decide +kernel)
theorem wd_15 : (.selects "PixelSnapper" y_P_orderPlaces y_P_orderPlaces : Cond) ∈ gw := gw_in (List.mem_of_getElem? (i := 15) (by decide +kernel)) (by decide +kernel)
theorem wd_16 : (.selects "PixelSnapper" y_P_turnColumnsRound y_P_turnColumnsRound : Cond) ∈ gw := gw_in (List.mem_of_getElem? (i := 16) (by decide +kernel)) (by decide +kernel)
theorem wd_17 : (.selects "PixelSnapper" y_P_placeX y_P_placeX : Cond) ∈ gw := gw_in (List.mem_of_getElem? (i := 17) (by decide +kernel)) (by decide +kernel)
theorem wd_18 : (.selects "PixelSnapper" y_P_findPieces y_P_findPieces : Cond) ∈ gw := gw_in (List.mem_of_getElem? (i := 18) (by decide +kernel)) (by decide +kernel)
theorem wd_19 : (.selects "PixelSnapper" y_P_chainStart y_P_chainStart : Cond) ∈ gw := gw_in (List.mem_of_getElem? (i := 19) (by decide +kernel)) (by decide +kernel)
theorem wd_20 : (.selects "PixelSnapper" y_P_hasSegment y_P_hasSegment : Cond) ∈ gw := gw_in (List.mem_of_getElem? (i := 20) (by decide +kernel)) (by decide +kernel)
theorem wd_21 : (.selects "PixelSnapperModel" y_M_fail y_M_fail : Cond) ∈ gw := gw_in (List.mem_of_getElem? (i := 21) (by decide +kernel)) (by decide +kernel)
theorem wd_22 : (.selects "PixelSnapperModel" y_M_forget y_M_forget : Cond) ∈ gw := gw_in (List.mem_of_getElem? (i := 22) (by decide +kernel)) (by decide +kernel)
theorem wd_23 : (.selects "PixelSnapperModel" y_M_isSegment y_M_isSegment : Cond) ∈ gw := gw_in (List.mem_of_getElem? (i := 23) (by decide +kernel)) (by decide +kernel)
theorem wd_24 : (.selects "PixelSnapperModel" y_M_isIn y_M_isIn : Cond) ∈ gw := gw_in (List.mem_of_getElem? (i := 24) (by decide +kernel)) (by decide +kernel)
theorem wd_25 : (.selects "PixelSnapperModel" y_M_along y_M_along : Cond) ∈ gw := gw_in (List.mem_of_getElem? (i := 25) (by decide +kernel)) (by decide +kernel)
theorem wd_26 : (.selects "PixelSnapperModel" y_M_raise y_M_raise : Cond) ∈ gw := gw_in (List.mem_of_getElem? (i := 26) (by decide +kernel)) (by decide +kernel)
theorem wd_27 : (.selects "PixelSnapperModel" y_M_reduce y_M_reduce : Cond) ∈ gw := gw_in (List.mem_of_getElem? (i := 27) (by decide +kernel)) (by decide +kernel)
theorem wd_28 : (.selects "PixelSnapperModel" y_M_cross y_M_cross : Cond) ∈ gw := gw_in (List.mem_of_getElem? (i := 28) (by decide +kernel)) (by decide +kernel)
theorem wd_29 : (.selects "PixelSnapperModel" y_M_end y_M_end : Cond) ∈ gw := gw_in (List.mem_of_getElem? (i := 29) (by decide +kernel)) (by decide +kernel)
theorem wd_30 : (.selects "PixelSnapperModel" y_M_heatAll y_M_heatAll : Cond) ∈ gw := gw_in (List.mem_of_getElem? (i := 30) (by decide +kernel)) (by decide +kernel)
theorem wd_31 : (.selects "PixelSnapperModel" y_M_heat y_M_heat : Cond) ∈ gw := gw_in (List.mem_of_getElem? (i := 31) (by decide +kernel)) (by decide +kernel)
theorem wd_32 : (.selects "PixelSnapperModel" y_M_isBefore y_M_isBefore : Cond) ∈ gw := gw_in (List.mem_of_getElem? (i := 32) (by decide +kernel)) (by decide +kernel)
theorem wd_33 : (.selects "PixelSnapperModel" y_M_chainAll y_M_chainAll : Cond) ∈ gw := gw_in (List.mem_of_getElem? (i := 33) (by decide +kernel)) (by decide +kernel)
theorem wd_34 : (.selects "PixelSnapperModel" y_M_insert y_M_insert : Cond) ∈ gw := gw_in (List.mem_of_getElem? (i := 34) (by decide +kernel)) (by decide +kernel)
theorem wd_35 : (.selects "PixelSnapperModel" y_M_gather y_M_gather : Cond) ∈ gw := gw_in (List.mem_of_getElem? (i := 35) (by decide +kernel)) (by decide +kernel)
theorem wd_36 : (.initialized "PixelSnapperLaw" : Cond) ∈ gw := gw_in (List.mem_of_getElem? (i := 36) (by decide +kernel)) (by decide +kernel)
theorem wd_37 : (.initialized "PixelSnapper" : Cond) ∈ gw := gw_in (List.mem_of_getElem? (i := 37) (by decide +kernel)) (by decide +kernel)
theorem wd_38 : (.initialized "java/util/AbstractCollection" : Cond) ∈ gw := gw_in (List.mem_of_getElem? (i := 38) (by decide +kernel)) (by decide +kernel)
theorem wd_39 : (.initialized "java/util/AbstractList" : Cond) ∈ gw := gw_in (List.mem_of_getElem? (i := 39) (by decide +kernel)) (by decide +kernel)
theorem wd_40 : (.initialized "java/util/ArrayList" : Cond) ∈ gw := gw_in (List.mem_of_getElem? (i := 40) (by decide +kernel)) (by decide +kernel)
theorem wd_41 : (.initialized "PixelSnapper$Row" : Cond) ∈ gw := gw_in (List.mem_of_getElem? (i := 41) (by decide +kernel)) (by decide +kernel)
theorem wd_42 : (.initialized "PixelSnapperModel" : Cond) ∈ gw := gw_in (List.mem_of_getElem? (i := 42) (by decide +kernel)) (by decide +kernel)
theorem wd_43 : (.initialized "java/lang/Throwable" : Cond) ∈ gw := gw_in (List.mem_of_getElem? (i := 43) (by decide +kernel)) (by decide +kernel)
theorem wd_44 : (.initialized "java/lang/Exception" : Cond) ∈ gw := gw_in (List.mem_of_getElem? (i := 44) (by decide +kernel)) (by decide +kernel)
theorem wd_45 : (.initialized "java/lang/RuntimeException" : Cond) ∈ gw := gw_in (List.mem_of_getElem? (i := 45) (by decide +kernel)) (by decide +kernel)
theorem wd_46 : (.initialized "java/lang/IllegalArgumentException" : Cond) ∈ gw := gw_in (List.mem_of_getElem? (i := 46) (by decide +kernel)) (by decide +kernel)
theorem wd_47 : (.initialized "java/lang/IllegalStateException" : Cond) ∈ gw := gw_in (List.mem_of_getElem? (i := 47) (by decide +kernel)) (by decide +kernel)
theorem wd_48 : (.initialized "PixelSnapper$Segment" : Cond) ∈ gw := gw_in (List.mem_of_getElem? (i := 48) (by decide +kernel)) (by decide +kernel)
theorem wd_49 : (.initialized "java/lang/Math" : Cond) ∈ gw := gw_in (List.mem_of_getElem? (i := 49) (by decide +kernel)) (by decide +kernel)
theorem wd_50 : (.initialized "jdk/internal/util/ArraysSupport" : Cond) ∈ gw := gw_in (List.mem_of_getElem? (i := 50) (by decide +kernel)) (by decide +kernel)
theorem wd_51 : (.initialized "java/util/Arrays" : Cond) ∈ gw := gw_in (List.mem_of_getElem? (i := 51) (by decide +kernel)) (by decide +kernel)
theorem wd_52 : (.initialized "java/lang/System" : Cond) ∈ gw := gw_in (List.mem_of_getElem? (i := 52) (by decide +kernel)) (by decide +kernel)
theorem wd_53 : (.initialized "java/util/Objects" : Cond) ∈ gw := gw_in (List.mem_of_getElem? (i := 53) (by decide +kernel)) (by decide +kernel)
theorem wd_54 : (.initialized "jdk/internal/util/Preconditions" : Cond) ∈ gw := gw_in (List.mem_of_getElem? (i := 54) (by decide +kernel)) (by decide +kernel)
theorem wd_55 : (.initialized "java/lang/UnsupportedOperationException" : Cond) ∈ gw := gw_in (List.mem_of_getElem? (i := 55) (by decide +kernel)) (by decide +kernel)
theorem wd_56 : (.initialized "java/lang/IndexOutOfBoundsException" : Cond) ∈ gw := gw_in (List.mem_of_getElem? (i := 56) (by decide +kernel)) (by decide +kernel)
theorem wd_57 : (.classLink "PixelSnapperLaw" 8 "PixelSnapper" : Cond) ∈ gw := gw_in (List.mem_of_getElem? (i := 57) (by decide +kernel)) (by decide +kernel)
theorem wd_58 : (.instantiable "PixelSnapper" 7 : Cond) ∈ gw := gw_in (List.mem_of_getElem? (i := 58) (by decide +kernel)) (by decide +kernel)
theorem wd_59 : (.methodLink "PixelSnapperLaw" 47 y_P_init : Cond) ∈ gw := gw_in (List.mem_of_getElem? (i := 59) (by decide +kernel)) (by decide +kernel)
theorem wd_60 : (.instanceMethod y_P_init : Cond) ∈ gw := gw_in (List.mem_of_getElem? (i := 60) (by decide +kernel)) (by decide +kernel)
theorem wd_61 : (.code y_P_init c_P_init 1 none : Cond) ∈ gw := gw_in (List.mem_of_getElem? (i := 61) (by decide +kernel)) (by decide +kernel)
theorem wd_62 : (.methodLink "PixelSnapper" 3 y_J_init : Cond) ∈ gw := gw_in (List.mem_of_getElem? (i := 62) (by decide +kernel)) (by decide +kernel)
theorem wd_63 : (.instanceMethod y_J_init : Cond) ∈ gw := gw_in (List.mem_of_getElem? (i := 63) (by decide +kernel)) (by decide +kernel)
theorem wd_64 : (.code y_J_init c_J_init 1 none : Cond) ∈ gw := gw_in (List.mem_of_getElem? (i := 64) (by decide +kernel)) (by decide +kernel)
theorem wd_65 : (.classLink "PixelSnapper" 9 "java/util/ArrayList" : Cond) ∈ gw := gw_in (List.mem_of_getElem? (i := 65) (by decide +kernel)) (by decide +kernel)
theorem wd_66 : (.instantiable "java/util/ArrayList" 3 : Cond) ∈ gw := gw_in (List.mem_of_getElem? (i := 66) (by decide +kernel)) (by decide +kernel)
theorem wd_67 : (.methodLink "PixelSnapper" 11 y_A_init : Cond) ∈ gw := gw_in (List.mem_of_getElem? (i := 67) (by decide +kernel)) (by decide +kernel)
theorem wd_68 : (.instanceMethod y_A_init : Cond) ∈ gw := gw_in (List.mem_of_getElem? (i := 68) (by decide +kernel)) (by decide +kernel)
theorem wd_69 : (.code y_A_init c_A_init 1 none : Cond) ∈ gw := gw_in (List.mem_of_getElem? (i := 69) (by decide +kernel)) (by decide +kernel)
theorem wd_70 : (.methodLink "java/util/ArrayList" 1 y_B_init : Cond) ∈ gw := gw_in (List.mem_of_getElem? (i := 70) (by decide +kernel)) (by decide +kernel)
theorem wd_71 : (.instanceMethod y_B_init : Cond) ∈ gw := gw_in (List.mem_of_getElem? (i := 71) (by decide +kernel)) (by decide +kernel)
theorem wd_72 : (.code y_B_init c_B_init 1 none : Cond) ∈ gw := gw_in (List.mem_of_getElem? (i := 72) (by decide +kernel)) (by decide +kernel)
theorem wd_73 : (.methodLink "java/util/AbstractList" 1 y_C_init : Cond) ∈ gw := gw_in (List.mem_of_getElem? (i := 73) (by decide +kernel)) (by decide +kernel)
theorem wd_74 : (.instanceMethod y_C_init : Cond) ∈ gw := gw_in (List.mem_of_getElem? (i := 74) (by decide +kernel)) (by decide +kernel)
theorem wd_75 : (.code y_C_init c_C_init 1 none : Cond) ∈ gw := gw_in (List.mem_of_getElem? (i := 75) (by decide +kernel)) (by decide +kernel)
theorem wd_76 : (.methodLink "java/util/AbstractCollection" 1 y_J_init : Cond) ∈ gw := gw_in (List.mem_of_getElem? (i := 76) (by decide +kernel)) (by decide +kernel)
theorem wd_77 : (.fieldLink "java/util/ArrayList" 39 "java/util/ArrayList" "DEFAULTCAPACITY_EMPTY_ELEMENTDATA" "[Ljava/lang/Object;" : Cond) ∈ gw := gw_in (List.mem_of_getElem? (i := 77) (by decide +kernel)) (by decide +kernel)
theorem wd_79 : (.fieldLink "java/util/ArrayList" 9 "java/util/ArrayList" "elementData" "[Ljava/lang/Object;" : Cond) ∈ gw := gw_in (List.mem_of_getElem? (i := 79) (by decide +kernel)) (by decide +kernel)
theorem wd_80 : (.fieldLink "java/util/ArrayList" 48 "java/util/ArrayList" "size" "I" : Cond) ∈ gw := gw_in (List.mem_of_getElem? (i := 80) (by decide +kernel)) (by decide +kernel)
theorem wd_81 : (.fieldLink "java/util/AbstractList" 7 "java/util/AbstractList" "modCount" "I" : Cond) ∈ gw := gw_in (List.mem_of_getElem? (i := 81) (by decide +kernel)) (by decide +kernel)
theorem wd_82 : (.fieldLink "java/util/ArrayList" 63 "java/util/ArrayList" "modCount" "I" : Cond) ∈ gw := gw_in (List.mem_of_getElem? (i := 82) (by decide +kernel)) (by decide +kernel)
theorem wd_83 : (.sameField "java/util/ArrayList" "java/util/AbstractList" "modCount" "I" : Cond) ∈ gw := gw_in (List.mem_of_getElem? (i := 83) (by decide +kernel)) (by decide +kernel)
theorem wd_84 : (.lays "java/util/ArrayList" "java/util/ArrayList" "elementData" "[Ljava/lang/Object;" : Cond) ∈ gw := gw_in (List.mem_of_getElem? (i := 84) (by decide +kernel)) (by decide +kernel)
theorem wd_86 : (.lays "java/util/ArrayList" "java/util/ArrayList" "size" "I" : Cond) ∈ gw := gw_in (List.mem_of_getElem? (i := 86) (by decide +kernel)) (by decide +kernel)
theorem wd_88 : (.lays "java/util/ArrayList" "java/util/AbstractList" "modCount" "I" : Cond) ∈ gw := gw_in (List.mem_of_getElem? (i := 88) (by decide +kernel)) (by decide +kernel)
theorem wd_90 : (.superclass "java/util/ArrayList" "java/util/AbstractList" : Cond) ∈ gw := gw_in (List.mem_of_getElem? (i := 90) (by decide +kernel)) (by decide +kernel)
theorem wd_91 : (.classLink "PixelSnapper" 16 "PixelSnapper$Row" : Cond) ∈ gw := gw_in (List.mem_of_getElem? (i := 91) (by decide +kernel)) (by decide +kernel)
theorem wd_92 : (.instantiable "PixelSnapper$Row" 3 : Cond) ∈ gw := gw_in (List.mem_of_getElem? (i := 92) (by decide +kernel)) (by decide +kernel)
theorem wd_93 : (.methodLink "PixelSnapper" 18 y_R_init : Cond) ∈ gw := gw_in (List.mem_of_getElem? (i := 93) (by decide +kernel)) (by decide +kernel)
theorem wd_94 : (.instanceMethod y_R_init : Cond) ∈ gw := gw_in (List.mem_of_getElem? (i := 94) (by decide +kernel)) (by decide +kernel)
theorem wd_95 : (.code y_R_init c_R_init 2 none : Cond) ∈ gw := gw_in (List.mem_of_getElem? (i := 95) (by decide +kernel)) (by decide +kernel)
theorem wd_96 : (.methodLink "PixelSnapper$Row" 3 y_J_init : Cond) ∈ gw := gw_in (List.mem_of_getElem? (i := 96) (by decide +kernel)) (by decide +kernel)
theorem wd_97 : (.fieldLink "PixelSnapper$Row" 9 "PixelSnapper$Row" "most" "I" : Cond) ∈ gw := gw_in (List.mem_of_getElem? (i := 97) (by decide +kernel)) (by decide +kernel)
theorem wd_98 : (.fieldLink "PixelSnapper$Row" 15 "PixelSnapper$Row" "cells" "[J" : Cond) ∈ gw := gw_in (List.mem_of_getElem? (i := 98) (by decide +kernel)) (by decide +kernel)
theorem wd_99 : (.fieldLink "PixelSnapper$Row" 19 "PixelSnapper$Row" "size" "I" : Cond) ∈ gw := gw_in (List.mem_of_getElem? (i := 99) (by decide +kernel)) (by decide +kernel)
theorem wd_100 : (.laysFinal "PixelSnapper$Row" "PixelSnapper$Row" "most" "I" : Cond) ∈ gw := gw_in (List.mem_of_getElem? (i := 100) (by decide +kernel)) (by decide +kernel)
theorem wd_102 : (.lays "PixelSnapper$Row" "PixelSnapper$Row" "cells" "[J" : Cond) ∈ gw := gw_in (List.mem_of_getElem? (i := 102) (by decide +kernel)) (by decide +kernel)
theorem wd_104 : (.lays "PixelSnapper$Row" "PixelSnapper$Row" "size" "I" : Cond) ∈ gw := gw_in (List.mem_of_getElem? (i := 104) (by decide +kernel)) (by decide +kernel)
theorem wd_106 : (.superclass "PixelSnapper$Row" "java/lang/Object" : Cond) ∈ gw := gw_in (List.mem_of_getElem? (i := 106) (by decide +kernel)) (by decide +kernel)
theorem wd_107 : (.arrayClass .long : Cond) ∈ gw := gw_in (List.mem_of_getElem? (i := 107) (by decide +kernel)) (by decide +kernel)
theorem wd_108 : (.constant "PixelSnapper" 28 (65536 : Int32) : Cond) ∈ gw := gw_in (List.mem_of_getElem? (i := 108) (by decide +kernel)) (by decide +kernel)
theorem wd_109 : (.fieldLink "PixelSnapper" 12 "PixelSnapper" "segments" "Ljava/util/ArrayList;" : Cond) ∈ gw := gw_in (List.mem_of_getElem? (i := 109) (by decide +kernel)) (by decide +kernel)
theorem wd_110 : (.fieldLink "PixelSnapper" 21 "PixelSnapper" "hot" "LPixelSnapper$Row;" : Cond) ∈ gw := gw_in (List.mem_of_getElem? (i := 110) (by decide +kernel)) (by decide +kernel)
theorem wd_111 : (.fieldLink "PixelSnapper" 25 "PixelSnapper" "chainStarts" "LPixelSnapper$Row;" : Cond) ∈ gw := gw_in (List.mem_of_getElem? (i := 111) (by decide +kernel)) (by decide +kernel)
theorem wd_112 : (.fieldLink "PixelSnapper" 29 "PixelSnapper" "places" "LPixelSnapper$Row;" : Cond) ∈ gw := gw_in (List.mem_of_getElem? (i := 112) (by decide +kernel)) (by decide +kernel)
theorem wd_113 : (.fieldLink "PixelSnapper" 32 "PixelSnapper" "pieceKeys" "LPixelSnapper$Row;" : Cond) ∈ gw := gw_in (List.mem_of_getElem? (i := 113) (by decide +kernel)) (by decide +kernel)
theorem wd_114 : (.fieldLink "PixelSnapper" 35 "PixelSnapper" "pieceUses" "LPixelSnapper$Row;" : Cond) ∈ gw := gw_in (List.mem_of_getElem? (i := 114) (by decide +kernel)) (by decide +kernel)
theorem wd_115 : (.fieldLink "PixelSnapper" 38 "PixelSnapper" "snapped" "Z" : Cond) ∈ gw := gw_in (List.mem_of_getElem? (i := 115) (by decide +kernel)) (by decide +kernel)
theorem wd_116 : (.laysFinal "PixelSnapper" "PixelSnapper" "segments" "Ljava/util/ArrayList;" : Cond) ∈ gw := gw_in (List.mem_of_getElem? (i := 116) (by decide +kernel)) (by decide +kernel)
theorem wd_118 : (.laysFinal "PixelSnapper" "PixelSnapper" "hot" "LPixelSnapper$Row;" : Cond) ∈ gw := gw_in (List.mem_of_getElem? (i := 118) (by decide +kernel)) (by decide +kernel)
theorem wd_120 : (.laysFinal "PixelSnapper" "PixelSnapper" "chainStarts" "LPixelSnapper$Row;" : Cond) ∈ gw := gw_in (List.mem_of_getElem? (i := 120) (by decide +kernel)) (by decide +kernel)
theorem wd_122 : (.laysFinal "PixelSnapper" "PixelSnapper" "places" "LPixelSnapper$Row;" : Cond) ∈ gw := gw_in (List.mem_of_getElem? (i := 122) (by decide +kernel)) (by decide +kernel)
theorem wd_124 : (.laysFinal "PixelSnapper" "PixelSnapper" "pieceKeys" "LPixelSnapper$Row;" : Cond) ∈ gw := gw_in (List.mem_of_getElem? (i := 124) (by decide +kernel)) (by decide +kernel)
theorem wd_126 : (.laysFinal "PixelSnapper" "PixelSnapper" "pieceUses" "LPixelSnapper$Row;" : Cond) ∈ gw := gw_in (List.mem_of_getElem? (i := 126) (by decide +kernel)) (by decide +kernel)
theorem wd_128 : (.lays "PixelSnapper" "PixelSnapper" "snapped" "Z" : Cond) ∈ gw := gw_in (List.mem_of_getElem? (i := 128) (by decide +kernel)) (by decide +kernel)
theorem wd_130 : (.superclass "PixelSnapper" "java/lang/Object" : Cond) ∈ gw := gw_in (List.mem_of_getElem? (i := 130) (by decide +kernel)) (by decide +kernel)
theorem wd_131 : (.methodLink "PixelSnapperLaw" 60 y_P_clear : Cond) ∈ gw := gw_in (List.mem_of_getElem? (i := 131) (by decide +kernel)) (by decide +kernel)
theorem wd_132 : (.instanceMethod y_P_clear : Cond) ∈ gw := gw_in (List.mem_of_getElem? (i := 132) (by decide +kernel)) (by decide +kernel)
theorem wd_133 : (.selects "PixelSnapper" y_P_clear y_P_clear : Cond) ∈ gw := gw_in (List.mem_of_getElem? (i := 133) (by decide +kernel)) (by decide +kernel)
theorem wd_134 : (.code y_P_clear c_P_clear 2 (some .int) : Cond) ∈ gw := gw_in (List.mem_of_getElem? (i := 134) (by decide +kernel)) (by decide +kernel)
theorem wd_135 : (.methodLink "PixelSnapper" 53 y_A_size : Cond) ∈ gw := gw_in (List.mem_of_getElem? (i := 135) (by decide +kernel)) (by decide +kernel)
theorem wd_136 : (.instanceMethod y_A_size : Cond) ∈ gw := gw_in (List.mem_of_getElem? (i := 136) (by decide +kernel)) (by decide +kernel)
theorem wd_137 : (.selects "java/util/ArrayList" y_A_size y_A_size : Cond) ∈ gw := gw_in (List.mem_of_getElem? (i := 137) (by decide +kernel)) (by decide +kernel)
theorem wd_138 : (.code y_A_size c_A_size 1 (some .int) : Cond) ∈ gw := gw_in (List.mem_of_getElem? (i := 138) (by decide +kernel)) (by decide +kernel)
theorem wd_139 : (.methodLink "PixelSnapper" 74 y_A_clear : Cond) ∈ gw := gw_in (List.mem_of_getElem? (i := 139) (by decide +kernel)) (by decide +kernel)
theorem wd_140 : (.instanceMethod y_A_clear : Cond) ∈ gw := gw_in (List.mem_of_getElem? (i := 140) (by decide +kernel)) (by decide +kernel)
theorem wd_141 : (.selects "java/util/ArrayList" y_A_clear y_A_clear : Cond) ∈ gw := gw_in (List.mem_of_getElem? (i := 141) (by decide +kernel)) (by decide +kernel)
theorem wd_142 : (.code y_A_clear c_A_clear 4 none : Cond) ∈ gw := gw_in (List.mem_of_getElem? (i := 142) (by decide +kernel)) (by decide +kernel)
theorem wd_143 : (.methodLink "PixelSnapper" 71 y_P_forgetSnap : Cond) ∈ gw := gw_in (List.mem_of_getElem? (i := 143) (by decide +kernel)) (by decide +kernel)
theorem wd_145 : (.instanceMethod y_P_forgetSnap : Cond) ∈ gw := gw_in (List.mem_of_getElem? (i := 145) (by decide +kernel)) (by decide +kernel)
theorem wd_146 : (.code y_P_forgetSnap c_P_forgetSnap 1 none : Cond) ∈ gw := gw_in (List.mem_of_getElem? (i := 146) (by decide +kernel)) (by decide +kernel)
theorem wd_147 : (.methodLink "PixelSnapper" 164 y_R_drop : Cond) ∈ gw := gw_in (List.mem_of_getElem? (i := 147) (by decide +kernel)) (by decide +kernel)
theorem wd_148 : (.instanceMethod y_R_drop : Cond) ∈ gw := gw_in (List.mem_of_getElem? (i := 148) (by decide +kernel)) (by decide +kernel)
theorem wd_149 : (.selects "PixelSnapper$Row" y_R_drop y_R_drop : Cond) ∈ gw := gw_in (List.mem_of_getElem? (i := 149) (by decide +kernel)) (by decide +kernel)
theorem wd_150 : (.code y_R_drop c_R_drop 1 none : Cond) ∈ gw := gw_in (List.mem_of_getElem? (i := 150) (by decide +kernel)) (by decide +kernel)
theorem wd_151 : (.methodLink "PixelSnapperLaw" 89 y_P_count : Cond) ∈ gw := gw_in (List.mem_of_getElem? (i := 151) (by decide +kernel)) (by decide +kernel)
theorem wd_152 : (.instanceMethod y_P_count : Cond) ∈ gw := gw_in (List.mem_of_getElem? (i := 152) (by decide +kernel)) (by decide +kernel)
theorem wd_153 : (.selects "PixelSnapper" y_P_count y_P_count : Cond) ∈ gw := gw_in (List.mem_of_getElem? (i := 153) (by decide +kernel)) (by decide +kernel)
theorem wd_154 : (.code y_P_count c_P_count 2 (some .int) : Cond) ∈ gw := gw_in (List.mem_of_getElem? (i := 154) (by decide +kernel)) (by decide +kernel)
theorem wd_155 : (.methodLink "PixelSnapper" 92 y_R_size : Cond) ∈ gw := gw_in (List.mem_of_getElem? (i := 155) (by decide +kernel)) (by decide +kernel)
theorem wd_156 : (.instanceMethod y_R_size : Cond) ∈ gw := gw_in (List.mem_of_getElem? (i := 156) (by decide +kernel)) (by decide +kernel)
theorem wd_157 : (.selects "PixelSnapper$Row" y_R_size y_R_size : Cond) ∈ gw := gw_in (List.mem_of_getElem? (i := 157) (by decide +kernel)) (by decide +kernel)
theorem wd_158 : (.code y_R_size c_R_size 1 (some .int) : Cond) ∈ gw := gw_in (List.mem_of_getElem? (i := 158) (by decide +kernel)) (by decide +kernel)
theorem wd_159 : (.methodLink "PixelSnapperLaw" 51 y_L_segment : Cond) ∈ gw := gw_in (List.mem_of_getElem? (i := 159) (by decide +kernel)) (by decide +kernel)
theorem wd_160 : (.static y_L_segment : Cond) ∈ gw := gw_in (List.mem_of_getElem? (i := 160) (by decide +kernel)) (by decide +kernel)
theorem wd_161 : (.codeWith y_L_segment c_L_segment 7 (some .int) [(0, 14, 17, 13), (0, 14, 21, 15)] : Cond) ∈ gw := gw_in (List.mem_of_getElem? (i := 161) (by decide +kernel)) (by decide +kernel)
theorem wd_162 : (.classLink "PixelSnapperLaw" 13 "java/lang/IllegalArgumentException" : Cond) ∈ gw := gw_in (List.mem_of_getElem? (i := 162) (by decide +kernel)) (by decide +kernel)
theorem wd_163 : (.classLink "PixelSnapperLaw" 15 "java/lang/IllegalStateException" : Cond) ∈ gw := gw_in (List.mem_of_getElem? (i := 163) (by decide +kernel)) (by decide +kernel)
theorem wd_164 : (.methodLink "PixelSnapperLaw" 7 y_P_segment : Cond) ∈ gw := gw_in (List.mem_of_getElem? (i := 164) (by decide +kernel)) (by decide +kernel)
theorem wd_165 : (.instanceMethod y_P_segment : Cond) ∈ gw := gw_in (List.mem_of_getElem? (i := 165) (by decide +kernel)) (by decide +kernel)
theorem wd_166 : (.selects "PixelSnapper" y_P_segment y_P_segment : Cond) ∈ gw := gw_in (List.mem_of_getElem? (i := 166) (by decide +kernel)) (by decide +kernel)
theorem wd_167 : (.code y_P_segment c_P_segment 5 (some .int) : Cond) ∈ gw := gw_in (List.mem_of_getElem? (i := 167) (by decide +kernel)) (by decide +kernel)
theorem wd_168 : (.methodLink "PixelSnapper" 42 y_P_inReach : Cond) ∈ gw := gw_in (List.mem_of_getElem? (i := 168) (by decide +kernel)) (by decide +kernel)
theorem wd_169 : (.static y_P_inReach : Cond) ∈ gw := gw_in (List.mem_of_getElem? (i := 169) (by decide +kernel)) (by decide +kernel)
theorem wd_170 : (.code y_P_inReach c_P_inReach 1 (some .boolean) : Cond) ∈ gw := gw_in (List.mem_of_getElem? (i := 170) (by decide +kernel)) (by decide +kernel)
theorem wd_171 : (.constant "PixelSnapper" 151 (-500000000 : Int32) : Cond) ∈ gw := gw_in (List.mem_of_getElem? (i := 171) (by decide +kernel)) (by decide +kernel)
theorem wd_172 : (.constant "PixelSnapper" 152 (500000000 : Int32) : Cond) ∈ gw := gw_in (List.mem_of_getElem? (i := 172) (by decide +kernel)) (by decide +kernel)
theorem wd_173 : (.classLink "PixelSnapper" 46 "java/lang/IllegalArgumentException" : Cond) ∈ gw := gw_in (List.mem_of_getElem? (i := 173) (by decide +kernel)) (by decide +kernel)
theorem wd_174 : (.instantiable "java/lang/IllegalArgumentException" 6 : Cond) ∈ gw := gw_in (List.mem_of_getElem? (i := 174) (by decide +kernel)) (by decide +kernel)
theorem wd_182 : (.selects "java/lang/IllegalArgumentException" y_T_fillInStackTrace_I y_T_fillInStackTrace_I : Cond) ∈ gw := gw_in (List.mem_of_getElem? (i := 182) (by decide +kernel)) (by decide +kernel)
theorem wd_183 : (.selects "java/lang/IllegalArgumentException" y_T_fillInStackTrace_0 y_T_fillInStackTrace_0 : Cond) ∈ gw := gw_in (List.mem_of_getElem? (i := 183) (by decide +kernel)) (by decide +kernel)
theorem wd_184 : (.lays "java/lang/IllegalArgumentException" "java/lang/Throwable" "cause" "Ljava/lang/Throwable;" : Cond) ∈ gw := gw_in (List.mem_of_getElem? (i := 184) (by decide +kernel)) (by decide +kernel)
theorem wd_185 : (.lays "java/lang/Throwable" "java/lang/Throwable" "cause" "Ljava/lang/Throwable;" : Cond) ∈ gw := gw_in (List.mem_of_getElem? (i := 185) (by decide +kernel)) (by decide +kernel)
theorem wd_186 : (.lays "java/lang/IllegalArgumentException" "java/lang/Throwable" "stackTrace" "[Ljava/lang/StackTraceElement;" : Cond) ∈ gw := gw_in (List.mem_of_getElem? (i := 186) (by decide +kernel)) (by decide +kernel)
theorem wd_187 : (.lays "java/lang/Throwable" "java/lang/Throwable" "stackTrace" "[Ljava/lang/StackTraceElement;" : Cond) ∈ gw := gw_in (List.mem_of_getElem? (i := 187) (by decide +kernel)) (by decide +kernel)
theorem wd_188 : (.lays "java/lang/IllegalArgumentException" "java/lang/Throwable" "suppressedExceptions" "Ljava/util/List;" : Cond) ∈ gw := gw_in (List.mem_of_getElem? (i := 188) (by decide +kernel)) (by decide +kernel)
theorem wd_189 : (.lays "java/lang/Throwable" "java/lang/Throwable" "suppressedExceptions" "Ljava/util/List;" : Cond) ∈ gw := gw_in (List.mem_of_getElem? (i := 189) (by decide +kernel)) (by decide +kernel)
theorem wd_190 : (.lays "java/lang/IllegalArgumentException" "java/lang/Throwable" "detailMessage" "Ljava/lang/String;" : Cond) ∈ gw := gw_in (List.mem_of_getElem? (i := 190) (by decide +kernel)) (by decide +kernel)
theorem wd_191 : (.lays "java/lang/Throwable" "java/lang/Throwable" "detailMessage" "Ljava/lang/String;" : Cond) ∈ gw := gw_in (List.mem_of_getElem? (i := 191) (by decide +kernel)) (by decide +kernel)
theorem wd_192 : (.lays "java/lang/IllegalArgumentException" "java/lang/Throwable" "backtrace" "Ljava/lang/Object;" : Cond) ∈ gw := gw_in (List.mem_of_getElem? (i := 192) (by decide +kernel)) (by decide +kernel)
theorem wd_193 : (.lays "java/lang/Throwable" "java/lang/Throwable" "backtrace" "Ljava/lang/Object;" : Cond) ∈ gw := gw_in (List.mem_of_getElem? (i := 193) (by decide +kernel)) (by decide +kernel)
theorem wd_194 : (.fieldLink "java/lang/Throwable" 198 "java/lang/Throwable" "backtrace" "Ljava/lang/Object;" : Cond) ∈ gw := gw_in (List.mem_of_getElem? (i := 194) (by decide +kernel)) (by decide +kernel)
theorem wd_195 : (.superclass "java/lang/Throwable" "java/lang/Object" : Cond) ∈ gw := gw_in (List.mem_of_getElem? (i := 195) (by decide +kernel)) (by decide +kernel)
theorem wd_196 : (.instanceMethod y_T_init_0 : Cond) ∈ gw := gw_in (List.mem_of_getElem? (i := 196) (by decide +kernel)) (by decide +kernel)
theorem wd_197 : (.code y_T_init_0 c_T_init_0 1 none : Cond) ∈ gw := gw_in (List.mem_of_getElem? (i := 197) (by decide +kernel)) (by decide +kernel)
theorem wd_198 : (.methodLink "java/lang/Throwable" 1 y_J_init : Cond) ∈ gw := gw_in (List.mem_of_getElem? (i := 198) (by decide +kernel)) (by decide +kernel)
theorem wd_199 : (.fieldLink "java/lang/Throwable" 13 "java/lang/Throwable" "UNASSIGNED_STACK" "[Ljava/lang/StackTraceElement;" : Cond) ∈ gw := gw_in (List.mem_of_getElem? (i := 199) (by decide +kernel)) (by decide +kernel)
theorem wd_201 : (.fieldLink "java/lang/Throwable" 20 "java/lang/Throwable" "SUPPRESSED_SENTINEL" "Ljava/util/List;" : Cond) ∈ gw := gw_in (List.mem_of_getElem? (i := 201) (by decide +kernel)) (by decide +kernel)
theorem wd_203 : (.methodLink "java/lang/Throwable" 27 y_T_fillInStackTrace_0 : Cond) ∈ gw := gw_in (List.mem_of_getElem? (i := 203) (by decide +kernel)) (by decide +kernel)
theorem wd_204 : (.instanceMethod y_T_fillInStackTrace_0 : Cond) ∈ gw := gw_in (List.mem_of_getElem? (i := 204) (by decide +kernel)) (by decide +kernel)
theorem wd_205 : (.sameMethod "java/lang/Throwable" "java/lang/Throwable" "fillInStackTrace" "()Ljava/lang/Throwable;" : Cond) ∈ gw := gw_in (List.mem_of_getElem? (i := 205) (by decide +kernel)) (by decide +kernel)
theorem wd_206 : (.selects "java/lang/IllegalStateException" y_T_fillInStackTrace_0 y_T_fillInStackTrace_0 : Cond) ∈ gw := gw_in (List.mem_of_getElem? (i := 206) (by decide +kernel)) (by decide +kernel)
theorem wd_207 : (.selects "java/lang/IndexOutOfBoundsException" y_T_fillInStackTrace_0 y_T_fillInStackTrace_0 : Cond) ∈ gw := gw_in (List.mem_of_getElem? (i := 207) (by decide +kernel)) (by decide +kernel)
theorem wd_208 : (.selects "java/lang/UnsupportedOperationException" y_T_fillInStackTrace_0 y_T_fillInStackTrace_0 : Cond) ∈ gw := gw_in (List.mem_of_getElem? (i := 208) (by decide +kernel)) (by decide +kernel)
theorem wd_209 : (.codeSync y_T_fillInStackTrace_0 c_T_fillInStackTrace_0 1 (some (.object "java/lang/Throwable")) : Cond) ∈ gw := gw_in (List.mem_of_getElem? (i := 209) (by decide +kernel)) (by decide +kernel)
theorem wd_210 : (.methodLink "java/lang/Throwable" 202 y_T_fillInStackTrace_I : Cond) ∈ gw := gw_in (List.mem_of_getElem? (i := 210) (by decide +kernel)) (by decide +kernel)
theorem wd_212 : (.instanceMethod y_T_fillInStackTrace_I : Cond) ∈ gw := gw_in (List.mem_of_getElem? (i := 212) (by decide +kernel)) (by decide +kernel)
theorem wd_213 : (.instantiable "java/lang/Throwable" 6 : Cond) ∈ gw := gw_in (List.mem_of_getElem? (i := 213) (by decide +kernel)) (by decide +kernel)
theorem wd_214 : (.native y_T_fillInStackTrace_I : Cond) ∈ gw := gw_in (List.mem_of_getElem? (i := 214) (by decide +kernel)) (by decide +kernel)
theorem wd_216 : (.methodLink "PixelSnapper" 50 y_EA_init : Cond) ∈ gw := gw_in (List.mem_of_getElem? (i := 216) (by decide +kernel)) (by decide +kernel)
theorem wd_217 : (.instanceMethod y_EA_init : Cond) ∈ gw := gw_in (List.mem_of_getElem? (i := 217) (by decide +kernel)) (by decide +kernel)
theorem wd_218 : (.code y_EA_init c_EA_init 2 none : Cond) ∈ gw := gw_in (List.mem_of_getElem? (i := 218) (by decide +kernel)) (by decide +kernel)
theorem wd_219 : (.methodLink "java/lang/IllegalArgumentException" 7 y_E_init : Cond) ∈ gw := gw_in (List.mem_of_getElem? (i := 219) (by decide +kernel)) (by decide +kernel)
theorem wd_220 : (.instanceMethod y_E_init : Cond) ∈ gw := gw_in (List.mem_of_getElem? (i := 220) (by decide +kernel)) (by decide +kernel)
theorem wd_221 : (.code y_E_init c_E_init 2 none : Cond) ∈ gw := gw_in (List.mem_of_getElem? (i := 221) (by decide +kernel)) (by decide +kernel)
theorem wd_222 : (.methodLink "java/lang/RuntimeException" 7 y_X_init : Cond) ∈ gw := gw_in (List.mem_of_getElem? (i := 222) (by decide +kernel)) (by decide +kernel)
theorem wd_223 : (.instanceMethod y_X_init : Cond) ∈ gw := gw_in (List.mem_of_getElem? (i := 223) (by decide +kernel)) (by decide +kernel)
theorem wd_224 : (.code y_X_init c_X_init 2 none : Cond) ∈ gw := gw_in (List.mem_of_getElem? (i := 224) (by decide +kernel)) (by decide +kernel)
theorem wd_225 : (.methodLink "java/lang/Exception" 7 y_T_init_String : Cond) ∈ gw := gw_in (List.mem_of_getElem? (i := 225) (by decide +kernel)) (by decide +kernel)
theorem wd_226 : (.instanceMethod y_T_init_String : Cond) ∈ gw := gw_in (List.mem_of_getElem? (i := 226) (by decide +kernel)) (by decide +kernel)
theorem wd_227 : (.code y_T_init_String c_T_init_String 2 none : Cond) ∈ gw := gw_in (List.mem_of_getElem? (i := 227) (by decide +kernel)) (by decide +kernel)
theorem wd_229 : (.fieldLink "java/lang/Throwable" 31 "java/lang/Throwable" "detailMessage" "Ljava/lang/String;" : Cond) ∈ gw := gw_in (List.mem_of_getElem? (i := 229) (by decide +kernel)) (by decide +kernel)
theorem wd_230 : (.fieldLink "java/lang/Throwable" 7 "java/lang/Throwable" "cause" "Ljava/lang/Throwable;" : Cond) ∈ gw := gw_in (List.mem_of_getElem? (i := 230) (by decide +kernel)) (by decide +kernel)
theorem wd_231 : (.fieldLink "java/lang/Throwable" 17 "java/lang/Throwable" "stackTrace" "[Ljava/lang/StackTraceElement;" : Cond) ∈ gw := gw_in (List.mem_of_getElem? (i := 231) (by decide +kernel)) (by decide +kernel)
theorem wd_232 : (.fieldLink "java/lang/Throwable" 24 "java/lang/Throwable" "suppressedExceptions" "Ljava/util/List;" : Cond) ∈ gw := gw_in (List.mem_of_getElem? (i := 232) (by decide +kernel)) (by decide +kernel)
theorem wd_237 : (.lays "java/lang/IllegalArgumentException" "java/lang/Throwable" "depth" "I" : Cond) ∈ gw := gw_in (List.mem_of_getElem? (i := 237) (by decide +kernel)) (by decide +kernel)
theorem wd_240 : (.superclass "java/lang/IllegalArgumentException" "java/lang/RuntimeException" : Cond) ∈ gw := gw_in (List.mem_of_getElem? (i := 240) (by decide +kernel)) (by decide +kernel)
theorem wd_241 : (.arrayClass .byte : Cond) ∈ gw := gw_in (List.mem_of_getElem? (i := 241) (by decide +kernel)) (by decide +kernel)
theorem wd_242 : (.classLink "PixelSnapper" 57 "java/lang/IllegalStateException" : Cond) ∈ gw := gw_in (List.mem_of_getElem? (i := 242) (by decide +kernel)) (by decide +kernel)
theorem wd_243 : (.instantiable "java/lang/IllegalStateException" 6 : Cond) ∈ gw := gw_in (List.mem_of_getElem? (i := 243) (by decide +kernel)) (by decide +kernel)
theorem wd_245 : (.selects "java/lang/IllegalStateException" y_T_fillInStackTrace_I y_T_fillInStackTrace_I : Cond) ∈ gw := gw_in (List.mem_of_getElem? (i := 245) (by decide +kernel)) (by decide +kernel)
theorem wd_246 : (.lays "java/lang/IllegalStateException" "java/lang/Throwable" "cause" "Ljava/lang/Throwable;" : Cond) ∈ gw := gw_in (List.mem_of_getElem? (i := 246) (by decide +kernel)) (by decide +kernel)
theorem wd_247 : (.lays "java/lang/IllegalStateException" "java/lang/Throwable" "stackTrace" "[Ljava/lang/StackTraceElement;" : Cond) ∈ gw := gw_in (List.mem_of_getElem? (i := 247) (by decide +kernel)) (by decide +kernel)
theorem wd_248 : (.lays "java/lang/IllegalStateException" "java/lang/Throwable" "suppressedExceptions" "Ljava/util/List;" : Cond) ∈ gw := gw_in (List.mem_of_getElem? (i := 248) (by decide +kernel)) (by decide +kernel)
theorem wd_249 : (.lays "java/lang/IllegalStateException" "java/lang/Throwable" "detailMessage" "Ljava/lang/String;" : Cond) ∈ gw := gw_in (List.mem_of_getElem? (i := 249) (by decide +kernel)) (by decide +kernel)
theorem wd_250 : (.lays "java/lang/IllegalStateException" "java/lang/Throwable" "backtrace" "Ljava/lang/Object;" : Cond) ∈ gw := gw_in (List.mem_of_getElem? (i := 250) (by decide +kernel)) (by decide +kernel)
theorem wd_252 : (.methodLink "PixelSnapper" 61 y_ES_init : Cond) ∈ gw := gw_in (List.mem_of_getElem? (i := 252) (by decide +kernel)) (by decide +kernel)
theorem wd_253 : (.instanceMethod y_ES_init : Cond) ∈ gw := gw_in (List.mem_of_getElem? (i := 253) (by decide +kernel)) (by decide +kernel)
theorem wd_254 : (.code y_ES_init c_ES_init 2 none : Cond) ∈ gw := gw_in (List.mem_of_getElem? (i := 254) (by decide +kernel)) (by decide +kernel)
theorem wd_255 : (.methodLink "java/lang/IllegalStateException" 7 y_E_init : Cond) ∈ gw := gw_in (List.mem_of_getElem? (i := 255) (by decide +kernel)) (by decide +kernel)
theorem wd_256 : (.lays "java/lang/IllegalStateException" "java/lang/Throwable" "depth" "I" : Cond) ∈ gw := gw_in (List.mem_of_getElem? (i := 256) (by decide +kernel)) (by decide +kernel)
theorem wd_257 : (.superclass "java/lang/IllegalStateException" "java/lang/RuntimeException" : Cond) ∈ gw := gw_in (List.mem_of_getElem? (i := 257) (by decide +kernel)) (by decide +kernel)
theorem wd_258 : (.classLink "PixelSnapper" 62 "PixelSnapper$Segment" : Cond) ∈ gw := gw_in (List.mem_of_getElem? (i := 258) (by decide +kernel)) (by decide +kernel)
theorem wd_259 : (.instantiable "PixelSnapper$Segment" 10 : Cond) ∈ gw := gw_in (List.mem_of_getElem? (i := 259) (by decide +kernel)) (by decide +kernel)
theorem wd_260 : (.methodLink "PixelSnapper" 64 y_S_init : Cond) ∈ gw := gw_in (List.mem_of_getElem? (i := 260) (by decide +kernel)) (by decide +kernel)
theorem wd_261 : (.instanceMethod y_S_init : Cond) ∈ gw := gw_in (List.mem_of_getElem? (i := 261) (by decide +kernel)) (by decide +kernel)
theorem wd_262 : (.code y_S_init c_S_init 5 none : Cond) ∈ gw := gw_in (List.mem_of_getElem? (i := 262) (by decide +kernel)) (by decide +kernel)
theorem wd_263 : (.methodLink "PixelSnapper$Segment" 3 y_J_init : Cond) ∈ gw := gw_in (List.mem_of_getElem? (i := 263) (by decide +kernel)) (by decide +kernel)
theorem wd_264 : (.methodLink "PixelSnapper$Segment" 30 y_H_min_JJ : Cond) ∈ gw := gw_in (List.mem_of_getElem? (i := 264) (by decide +kernel)) (by decide +kernel)
theorem wd_265 : (.static y_H_min_JJ : Cond) ∈ gw := gw_in (List.mem_of_getElem? (i := 265) (by decide +kernel)) (by decide +kernel)
theorem wd_266 : (.code y_H_min_JJ c_H_min_JJ 4 (some .long) : Cond) ∈ gw := gw_in (List.mem_of_getElem? (i := 266) (by decide +kernel)) (by decide +kernel)
theorem wd_267 : (.methodLink "PixelSnapper$Segment" 42 y_H_max_JJ : Cond) ∈ gw := gw_in (List.mem_of_getElem? (i := 267) (by decide +kernel)) (by decide +kernel)
theorem wd_268 : (.static y_H_max_JJ : Cond) ∈ gw := gw_in (List.mem_of_getElem? (i := 268) (by decide +kernel)) (by decide +kernel)
theorem wd_269 : (.code y_H_max_JJ c_H_max_JJ 4 (some .long) : Cond) ∈ gw := gw_in (List.mem_of_getElem? (i := 269) (by decide +kernel)) (by decide +kernel)
theorem wd_270 : (.fieldLink "PixelSnapper$Segment" 9 "PixelSnapper$Segment" "fromX" "J" : Cond) ∈ gw := gw_in (List.mem_of_getElem? (i := 270) (by decide +kernel)) (by decide +kernel)
theorem wd_271 : (.fieldLink "PixelSnapper$Segment" 15 "PixelSnapper$Segment" "fromY" "J" : Cond) ∈ gw := gw_in (List.mem_of_getElem? (i := 271) (by decide +kernel)) (by decide +kernel)
theorem wd_272 : (.fieldLink "PixelSnapper$Segment" 18 "PixelSnapper$Segment" "toX" "J" : Cond) ∈ gw := gw_in (List.mem_of_getElem? (i := 272) (by decide +kernel)) (by decide +kernel)
theorem wd_273 : (.fieldLink "PixelSnapper$Segment" 21 "PixelSnapper$Segment" "toY" "J" : Cond) ∈ gw := gw_in (List.mem_of_getElem? (i := 273) (by decide +kernel)) (by decide +kernel)
theorem wd_274 : (.fieldLink "PixelSnapper$Segment" 24 "PixelSnapper$Segment" "wayX" "J" : Cond) ∈ gw := gw_in (List.mem_of_getElem? (i := 274) (by decide +kernel)) (by decide +kernel)
theorem wd_275 : (.fieldLink "PixelSnapper$Segment" 27 "PixelSnapper$Segment" "wayY" "J" : Cond) ∈ gw := gw_in (List.mem_of_getElem? (i := 275) (by decide +kernel)) (by decide +kernel)
theorem wd_276 : (.fieldLink "PixelSnapper$Segment" 36 "PixelSnapper$Segment" "leastX" "J" : Cond) ∈ gw := gw_in (List.mem_of_getElem? (i := 276) (by decide +kernel)) (by decide +kernel)
theorem wd_277 : (.fieldLink "PixelSnapper$Segment" 39 "PixelSnapper$Segment" "leastY" "J" : Cond) ∈ gw := gw_in (List.mem_of_getElem? (i := 277) (by decide +kernel)) (by decide +kernel)
theorem wd_278 : (.fieldLink "PixelSnapper$Segment" 45 "PixelSnapper$Segment" "mostX" "J" : Cond) ∈ gw := gw_in (List.mem_of_getElem? (i := 278) (by decide +kernel)) (by decide +kernel)
theorem wd_279 : (.fieldLink "PixelSnapper$Segment" 48 "PixelSnapper$Segment" "mostY" "J" : Cond) ∈ gw := gw_in (List.mem_of_getElem? (i := 279) (by decide +kernel)) (by decide +kernel)
theorem wd_280 : (.laysFinal "PixelSnapper$Segment" "PixelSnapper$Segment" "fromX" "J" : Cond) ∈ gw := gw_in (List.mem_of_getElem? (i := 280) (by decide +kernel)) (by decide +kernel)
theorem wd_282 : (.laysFinal "PixelSnapper$Segment" "PixelSnapper$Segment" "fromY" "J" : Cond) ∈ gw := gw_in (List.mem_of_getElem? (i := 282) (by decide +kernel)) (by decide +kernel)
theorem wd_284 : (.laysFinal "PixelSnapper$Segment" "PixelSnapper$Segment" "toX" "J" : Cond) ∈ gw := gw_in (List.mem_of_getElem? (i := 284) (by decide +kernel)) (by decide +kernel)
theorem wd_286 : (.laysFinal "PixelSnapper$Segment" "PixelSnapper$Segment" "toY" "J" : Cond) ∈ gw := gw_in (List.mem_of_getElem? (i := 286) (by decide +kernel)) (by decide +kernel)
theorem wd_288 : (.laysFinal "PixelSnapper$Segment" "PixelSnapper$Segment" "wayX" "J" : Cond) ∈ gw := gw_in (List.mem_of_getElem? (i := 288) (by decide +kernel)) (by decide +kernel)
theorem wd_290 : (.laysFinal "PixelSnapper$Segment" "PixelSnapper$Segment" "wayY" "J" : Cond) ∈ gw := gw_in (List.mem_of_getElem? (i := 290) (by decide +kernel)) (by decide +kernel)
theorem wd_292 : (.laysFinal "PixelSnapper$Segment" "PixelSnapper$Segment" "leastX" "J" : Cond) ∈ gw := gw_in (List.mem_of_getElem? (i := 292) (by decide +kernel)) (by decide +kernel)
theorem wd_294 : (.laysFinal "PixelSnapper$Segment" "PixelSnapper$Segment" "leastY" "J" : Cond) ∈ gw := gw_in (List.mem_of_getElem? (i := 294) (by decide +kernel)) (by decide +kernel)
theorem wd_296 : (.laysFinal "PixelSnapper$Segment" "PixelSnapper$Segment" "mostX" "J" : Cond) ∈ gw := gw_in (List.mem_of_getElem? (i := 296) (by decide +kernel)) (by decide +kernel)
theorem wd_298 : (.laysFinal "PixelSnapper$Segment" "PixelSnapper$Segment" "mostY" "J" : Cond) ∈ gw := gw_in (List.mem_of_getElem? (i := 298) (by decide +kernel)) (by decide +kernel)
theorem wd_300 : (.superclass "PixelSnapper$Segment" "java/lang/Object" : Cond) ∈ gw := gw_in (List.mem_of_getElem? (i := 300) (by decide +kernel)) (by decide +kernel)
theorem wd_301 : (.methodLink "PixelSnapper" 67 y_A_add_Object : Cond) ∈ gw := gw_in (List.mem_of_getElem? (i := 301) (by decide +kernel)) (by decide +kernel)
theorem wd_302 : (.instanceMethod y_A_add_Object : Cond) ∈ gw := gw_in (List.mem_of_getElem? (i := 302) (by decide +kernel)) (by decide +kernel)
theorem wd_303 : (.selects "java/util/ArrayList" y_A_add_Object y_A_add_Object : Cond) ∈ gw := gw_in (List.mem_of_getElem? (i := 303) (by decide +kernel)) (by decide +kernel)
theorem wd_304 : (.code y_A_add_Object c_A_add_Object 2 (some .boolean) : Cond) ∈ gw := gw_in (List.mem_of_getElem? (i := 304) (by decide +kernel)) (by decide +kernel)
theorem wd_305 : (.methodLink "java/util/ArrayList" 131 y_A_add_ObjectaObjectI : Cond) ∈ gw := gw_in (List.mem_of_getElem? (i := 305) (by decide +kernel)) (by decide +kernel)
theorem wd_307 : (.instanceMethod y_A_add_ObjectaObjectI : Cond) ∈ gw := gw_in (List.mem_of_getElem? (i := 307) (by decide +kernel)) (by decide +kernel)
theorem wd_308 : (.code y_A_add_ObjectaObjectI c_A_add_ObjectaObjectI 4 none : Cond) ∈ gw := gw_in (List.mem_of_getElem? (i := 308) (by decide +kernel)) (by decide +kernel)
theorem wd_309 : (.methodLink "java/util/ArrayList" 129 y_A_grow_0 : Cond) ∈ gw := gw_in (List.mem_of_getElem? (i := 309) (by decide +kernel)) (by decide +kernel)
theorem wd_311 : (.instanceMethod y_A_grow_0 : Cond) ∈ gw := gw_in (List.mem_of_getElem? (i := 311) (by decide +kernel)) (by decide +kernel)
theorem wd_312 : (.code y_A_grow_0 c_A_grow_0 1 (some (.array (.object "java/lang/Object"))) : Cond) ∈ gw := gw_in (List.mem_of_getElem? (i := 312) (by decide +kernel)) (by decide +kernel)
theorem wd_313 : (.methodLink "java/util/ArrayList" 69 y_A_grow_I : Cond) ∈ gw := gw_in (List.mem_of_getElem? (i := 313) (by decide +kernel)) (by decide +kernel)
theorem wd_315 : (.instanceMethod y_A_grow_I : Cond) ∈ gw := gw_in (List.mem_of_getElem? (i := 315) (by decide +kernel)) (by decide +kernel)
theorem wd_316 : (.code y_A_grow_I c_A_grow_I 4 (some (.array (.object "java/lang/Object"))) : Cond) ∈ gw := gw_in (List.mem_of_getElem? (i := 316) (by decide +kernel)) (by decide +kernel)
theorem wd_317 : (.methodLink "java/util/ArrayList" 73 y_U_newLength : Cond) ∈ gw := gw_in (List.mem_of_getElem? (i := 317) (by decide +kernel)) (by decide +kernel)
theorem wd_318 : (.static y_U_newLength : Cond) ∈ gw := gw_in (List.mem_of_getElem? (i := 318) (by decide +kernel)) (by decide +kernel)
theorem wd_319 : (.code y_U_newLength c_U_newLength 4 (some .int) : Cond) ∈ gw := gw_in (List.mem_of_getElem? (i := 319) (by decide +kernel)) (by decide +kernel)
theorem wd_320 : (.methodLink "jdk/internal/util/ArraysSupport" 194 y_H_max_II : Cond) ∈ gw := gw_in (List.mem_of_getElem? (i := 320) (by decide +kernel)) (by decide +kernel)
theorem wd_321 : (.static y_H_max_II : Cond) ∈ gw := gw_in (List.mem_of_getElem? (i := 321) (by decide +kernel)) (by decide +kernel)
theorem wd_322 : (.code y_H_max_II c_H_max_II 2 (some .int) : Cond) ∈ gw := gw_in (List.mem_of_getElem? (i := 322) (by decide +kernel)) (by decide +kernel)
theorem wd_323 : (.constant "jdk/internal/util/ArraysSupport" 200 (2147483639 : Int32) : Cond) ∈ gw := gw_in (List.mem_of_getElem? (i := 323) (by decide +kernel)) (by decide +kernel)
theorem wd_324 : (.methodLink "jdk/internal/util/ArraysSupport" 201 y_U_hugeLength : Cond) ∈ gw := gw_in (List.mem_of_getElem? (i := 324) (by decide +kernel)) (by decide +kernel)
theorem wd_325 : (.static y_U_hugeLength : Cond) ∈ gw := gw_in (List.mem_of_getElem? (i := 325) (by decide +kernel)) (by decide +kernel)
theorem wd_326 : (.code y_U_hugeLength c_U_hugeLength 3 (some .int) : Cond) ∈ gw := gw_in (List.mem_of_getElem? (i := 326) (by decide +kernel)) (by decide +kernel)
theorem wd_327 : (.methodLink "java/util/ArrayList" 66 y_Y_copyOf_aObjectI : Cond) ∈ gw := gw_in (List.mem_of_getElem? (i := 327) (by decide +kernel)) (by decide +kernel)
theorem wd_328 : (.static y_Y_copyOf_aObjectI : Cond) ∈ gw := gw_in (List.mem_of_getElem? (i := 328) (by decide +kernel)) (by decide +kernel)
theorem wd_329 : (.code y_Y_copyOf_aObjectI c_Y_copyOf_aObjectI 2 (some (.array (.object "java/lang/Object"))) : Cond) ∈ gw := gw_in (List.mem_of_getElem? (i := 329) (by decide +kernel)) (by decide +kernel)
theorem wd_330 : (.methodLink "java/util/Arrays" 86 y_J_getClass : Cond) ∈ gw := gw_in (List.mem_of_getElem? (i := 330) (by decide +kernel)) (by decide +kernel)
theorem wd_331 : (.instanceMethod y_J_getClass : Cond) ∈ gw := gw_in (List.mem_of_getElem? (i := 331) (by decide +kernel)) (by decide +kernel)
theorem wd_332 : (.sameMethod "java/lang/Object" "java/lang/Object" "getClass" "()Ljava/lang/Class;" : Cond) ∈ gw := gw_in (List.mem_of_getElem? (i := 332) (by decide +kernel)) (by decide +kernel)
theorem wd_333 : (.selects "PixelSnapper" y_J_getClass y_J_getClass : Cond) ∈ gw := gw_in (List.mem_of_getElem? (i := 333) (by decide +kernel)) (by decide +kernel)
theorem wd_334 : (.selects "PixelSnapper$Row" y_J_getClass y_J_getClass : Cond) ∈ gw := gw_in (List.mem_of_getElem? (i := 334) (by decide +kernel)) (by decide +kernel)
theorem wd_335 : (.selects "PixelSnapper$Segment" y_J_getClass y_J_getClass : Cond) ∈ gw := gw_in (List.mem_of_getElem? (i := 335) (by decide +kernel)) (by decide +kernel)
theorem wd_336 : (.selects "PixelSnapperModel" y_J_getClass y_J_getClass : Cond) ∈ gw := gw_in (List.mem_of_getElem? (i := 336) (by decide +kernel)) (by decide +kernel)
theorem wd_337 : (.selects "java/lang/IllegalArgumentException" y_J_getClass y_J_getClass : Cond) ∈ gw := gw_in (List.mem_of_getElem? (i := 337) (by decide +kernel)) (by decide +kernel)
theorem wd_338 : (.selects "java/lang/IllegalStateException" y_J_getClass y_J_getClass : Cond) ∈ gw := gw_in (List.mem_of_getElem? (i := 338) (by decide +kernel)) (by decide +kernel)
theorem wd_339 : (.selects "java/lang/IndexOutOfBoundsException" y_J_getClass y_J_getClass : Cond) ∈ gw := gw_in (List.mem_of_getElem? (i := 339) (by decide +kernel)) (by decide +kernel)
theorem wd_340 : (.selects "java/lang/UnsupportedOperationException" y_J_getClass y_J_getClass : Cond) ∈ gw := gw_in (List.mem_of_getElem? (i := 340) (by decide +kernel)) (by decide +kernel)
theorem wd_341 : (.selects "java/util/ArrayList" y_J_getClass y_J_getClass : Cond) ∈ gw := gw_in (List.mem_of_getElem? (i := 341) (by decide +kernel)) (by decide +kernel)
theorem wd_342 : (.native y_J_getClass : Cond) ∈ gw := gw_in (List.mem_of_getElem? (i := 342) (by decide +kernel)) (by decide +kernel)
theorem wd_343 : (.methodLink "java/util/Arrays" 300 y_Y_copyOf_aObjectIClass : Cond) ∈ gw := gw_in (List.mem_of_getElem? (i := 343) (by decide +kernel)) (by decide +kernel)
theorem wd_344 : (.static y_Y_copyOf_aObjectIClass : Cond) ∈ gw := gw_in (List.mem_of_getElem? (i := 344) (by decide +kernel)) (by decide +kernel)
theorem wd_345 : (.code y_Y_copyOf_aObjectIClass c_Y_copyOf_aObjectIClass 4 (some (.array (.object "java/lang/Object"))) : Cond) ∈ gw := gw_in (List.mem_of_getElem? (i := 345) (by decide +kernel)) (by decide +kernel)
theorem wd_346 : (.classLink "java/util/Arrays" 110 "[Ljava/lang/Object;" : Cond) ∈ gw := gw_in (List.mem_of_getElem? (i := 346) (by decide +kernel)) (by decide +kernel)
theorem wd_348 : (.classLink "java/util/Arrays" 2 "java/lang/Object" : Cond) ∈ gw := gw_in (List.mem_of_getElem? (i := 348) (by decide +kernel)) (by decide +kernel)
theorem wd_349 : (.methodLink "java/util/Arrays" 304 y_H_min_II : Cond) ∈ gw := gw_in (List.mem_of_getElem? (i := 349) (by decide +kernel)) (by decide +kernel)
theorem wd_350 : (.static y_H_min_II : Cond) ∈ gw := gw_in (List.mem_of_getElem? (i := 350) (by decide +kernel)) (by decide +kernel)
theorem wd_351 : (.code y_H_min_II c_H_min_II 2 (some .int) : Cond) ∈ gw := gw_in (List.mem_of_getElem? (i := 351) (by decide +kernel)) (by decide +kernel)
theorem wd_352 : (.methodLink "java/util/Arrays" 150 y_Z_arraycopy : Cond) ∈ gw := gw_in (List.mem_of_getElem? (i := 352) (by decide +kernel)) (by decide +kernel)
theorem wd_353 : (.static y_Z_arraycopy : Cond) ∈ gw := gw_in (List.mem_of_getElem? (i := 353) (by decide +kernel)) (by decide +kernel)
theorem wd_354 : (.native y_Z_arraycopy : Cond) ∈ gw := gw_in (List.mem_of_getElem? (i := 354) (by decide +kernel)) (by decide +kernel)
theorem wd_355 : (.methodLink "java/util/ArrayList" 79 y_H_max_II : Cond) ∈ gw := gw_in (List.mem_of_getElem? (i := 355) (by decide +kernel)) (by decide +kernel)
theorem wd_356 : (.classLink "java/util/ArrayList" 7 "java/lang/Object" : Cond) ∈ gw := gw_in (List.mem_of_getElem? (i := 356) (by decide +kernel)) (by decide +kernel)
theorem wd_357 : (.methodLink "PixelSnapperLaw" 64 y_L_snap : Cond) ∈ gw := gw_in (List.mem_of_getElem? (i := 357) (by decide +kernel)) (by decide +kernel)
theorem wd_358 : (.static y_L_snap : Cond) ∈ gw := gw_in (List.mem_of_getElem? (i := 358) (by decide +kernel)) (by decide +kernel)
theorem wd_359 : (.codeWith y_L_snap c_L_snap 3 (some .int) [(0, 8, 11, 21)] : Cond) ∈ gw := gw_in (List.mem_of_getElem? (i := 359) (by decide +kernel)) (by decide +kernel)
theorem wd_360 : (.classLink "PixelSnapperLaw" 21 "java/lang/UnsupportedOperationException" : Cond) ∈ gw := gw_in (List.mem_of_getElem? (i := 360) (by decide +kernel)) (by decide +kernel)
theorem wd_361 : (.methodLink "PixelSnapperLaw" 17 y_P_snap : Cond) ∈ gw := gw_in (List.mem_of_getElem? (i := 361) (by decide +kernel)) (by decide +kernel)
theorem wd_362 : (.instanceMethod y_P_snap : Cond) ∈ gw := gw_in (List.mem_of_getElem? (i := 362) (by decide +kernel)) (by decide +kernel)
theorem wd_363 : (.selects "PixelSnapper" y_P_snap y_P_snap : Cond) ∈ gw := gw_in (List.mem_of_getElem? (i := 363) (by decide +kernel)) (by decide +kernel)
theorem wd_364 : (.code y_P_snap c_P_snap 1 (some .int) : Cond) ∈ gw := gw_in (List.mem_of_getElem? (i := 364) (by decide +kernel)) (by decide +kernel)
theorem wd_365 : (.methodLink "PixelSnapper" 77 y_P_findHot : Cond) ∈ gw := gw_in (List.mem_of_getElem? (i := 365) (by decide +kernel)) (by decide +kernel)
theorem wd_367 : (.instanceMethod y_P_findHot : Cond) ∈ gw := gw_in (List.mem_of_getElem? (i := 367) (by decide +kernel)) (by decide +kernel)
theorem wd_368 : (.code y_P_findHot c_P_findHot 3 (some .boolean) : Cond) ∈ gw := gw_in (List.mem_of_getElem? (i := 368) (by decide +kernel)) (by decide +kernel)
theorem wd_369 : (.methodLink "PixelSnapper" 103 y_A_get : Cond) ∈ gw := gw_in (List.mem_of_getElem? (i := 369) (by decide +kernel)) (by decide +kernel)
theorem wd_370 : (.instanceMethod y_A_get : Cond) ∈ gw := gw_in (List.mem_of_getElem? (i := 370) (by decide +kernel)) (by decide +kernel)
theorem wd_371 : (.selects "java/util/ArrayList" y_A_get y_A_get : Cond) ∈ gw := gw_in (List.mem_of_getElem? (i := 371) (by decide +kernel)) (by decide +kernel)
theorem wd_372 : (.code y_A_get c_A_get 2 (some (.object "java/lang/Object")) : Cond) ∈ gw := gw_in (List.mem_of_getElem? (i := 372) (by decide +kernel)) (by decide +kernel)
theorem wd_373 : (.methodLink "java/util/ArrayList" 118 y_O_checkIndex : Cond) ∈ gw := gw_in (List.mem_of_getElem? (i := 373) (by decide +kernel)) (by decide +kernel)
theorem wd_374 : (.static y_O_checkIndex : Cond) ∈ gw := gw_in (List.mem_of_getElem? (i := 374) (by decide +kernel)) (by decide +kernel)
theorem wd_375 : (.code y_O_checkIndex c_O_checkIndex 2 (some .int) : Cond) ∈ gw := gw_in (List.mem_of_getElem? (i := 375) (by decide +kernel)) (by decide +kernel)
theorem wd_376 : (.methodLink "java/util/Objects" 105 y_Q_checkIndex : Cond) ∈ gw := gw_in (List.mem_of_getElem? (i := 376) (by decide +kernel)) (by decide +kernel)
theorem wd_377 : (.static y_Q_checkIndex : Cond) ∈ gw := gw_in (List.mem_of_getElem? (i := 377) (by decide +kernel)) (by decide +kernel)
theorem wd_378 : (.code y_Q_checkIndex c_Q_checkIndex 3 (some .int) : Cond) ∈ gw := gw_in (List.mem_of_getElem? (i := 378) (by decide +kernel)) (by decide +kernel)
theorem wd_379 : (.methodLink "java/util/ArrayList" 123 y_A_elementData : Cond) ∈ gw := gw_in (List.mem_of_getElem? (i := 379) (by decide +kernel)) (by decide +kernel)
theorem wd_380 : (.instanceMethod y_A_elementData : Cond) ∈ gw := gw_in (List.mem_of_getElem? (i := 380) (by decide +kernel)) (by decide +kernel)
theorem wd_381 : (.selects "java/util/ArrayList" y_A_elementData y_A_elementData : Cond) ∈ gw := gw_in (List.mem_of_getElem? (i := 381) (by decide +kernel)) (by decide +kernel)
theorem wd_382 : (.code y_A_elementData c_A_elementData 2 (some (.object "java/lang/Object")) : Cond) ∈ gw := gw_in (List.mem_of_getElem? (i := 382) (by decide +kernel)) (by decide +kernel)
theorem wd_383 : (.methodLink "PixelSnapper" 167 y_S_fromKey : Cond) ∈ gw := gw_in (List.mem_of_getElem? (i := 383) (by decide +kernel)) (by decide +kernel)
theorem wd_384 : (.instanceMethod y_S_fromKey : Cond) ∈ gw := gw_in (List.mem_of_getElem? (i := 384) (by decide +kernel)) (by decide +kernel)
theorem wd_385 : (.selects "PixelSnapper$Segment" y_S_fromKey y_S_fromKey : Cond) ∈ gw := gw_in (List.mem_of_getElem? (i := 385) (by decide +kernel)) (by decide +kernel)
theorem wd_386 : (.code y_S_fromKey c_S_fromKey 1 (some .long) : Cond) ∈ gw := gw_in (List.mem_of_getElem? (i := 386) (by decide +kernel)) (by decide +kernel)
theorem wd_388 : (.static y_P_keyOf : Cond) ∈ gw := gw_in (List.mem_of_getElem? (i := 388) (by decide +kernel)) (by decide +kernel)
theorem wd_389 : (.code y_P_keyOf c_P_keyOf 4 (some .long) : Cond) ∈ gw := gw_in (List.mem_of_getElem? (i := 389) (by decide +kernel)) (by decide +kernel)
theorem wd_390 : (.constantLong "PixelSnapper" 153 (500000000 : Int64) : Cond) ∈ gw := gw_in (List.mem_of_getElem? (i := 390) (by decide +kernel)) (by decide +kernel)
theorem wd_391 : (.methodLink "PixelSnapper" 171 y_P_heat : Cond) ∈ gw := gw_in (List.mem_of_getElem? (i := 391) (by decide +kernel)) (by decide +kernel)
theorem wd_393 : (.instanceMethod y_P_heat : Cond) ∈ gw := gw_in (List.mem_of_getElem? (i := 393) (by decide +kernel)) (by decide +kernel)
theorem wd_394 : (.code y_P_heat c_P_heat 3 (some .boolean) : Cond) ∈ gw := gw_in (List.mem_of_getElem? (i := 394) (by decide +kernel)) (by decide +kernel)
theorem wd_395 : (.methodLink "PixelSnapper" 185 y_R_isFull : Cond) ∈ gw := gw_in (List.mem_of_getElem? (i := 395) (by decide +kernel)) (by decide +kernel)
theorem wd_396 : (.instanceMethod y_R_isFull : Cond) ∈ gw := gw_in (List.mem_of_getElem? (i := 396) (by decide +kernel)) (by decide +kernel)
theorem wd_397 : (.selects "PixelSnapper$Row" y_R_isFull y_R_isFull : Cond) ∈ gw := gw_in (List.mem_of_getElem? (i := 397) (by decide +kernel)) (by decide +kernel)
theorem wd_398 : (.code y_R_isFull c_R_isFull 1 (some .boolean) : Cond) ∈ gw := gw_in (List.mem_of_getElem? (i := 398) (by decide +kernel)) (by decide +kernel)
theorem wd_399 : (.methodLink "PixelSnapper" 182 y_P_mergeHot : Cond) ∈ gw := gw_in (List.mem_of_getElem? (i := 399) (by decide +kernel)) (by decide +kernel)
theorem wd_401 : (.instanceMethod y_P_mergeHot : Cond) ∈ gw := gw_in (List.mem_of_getElem? (i := 401) (by decide +kernel)) (by decide +kernel)
theorem wd_402 : (.code y_P_mergeHot c_P_mergeHot 1 (some .boolean) : Cond) ∈ gw := gw_in (List.mem_of_getElem? (i := 402) (by decide +kernel)) (by decide +kernel)
theorem wd_403 : (.methodLink "PixelSnapper" 190 y_R_sort : Cond) ∈ gw := gw_in (List.mem_of_getElem? (i := 403) (by decide +kernel)) (by decide +kernel)
theorem wd_404 : (.instanceMethod y_R_sort : Cond) ∈ gw := gw_in (List.mem_of_getElem? (i := 404) (by decide +kernel)) (by decide +kernel)
theorem wd_405 : (.selects "PixelSnapper$Row" y_R_sort y_R_sort : Cond) ∈ gw := gw_in (List.mem_of_getElem? (i := 405) (by decide +kernel)) (by decide +kernel)
theorem wd_406 : (.code y_R_sort c_R_sort 4 none : Cond) ∈ gw := gw_in (List.mem_of_getElem? (i := 406) (by decide +kernel)) (by decide +kernel)
theorem wd_407 : (.methodLink "PixelSnapper$Row" 44 y_R_sink : Cond) ∈ gw := gw_in (List.mem_of_getElem? (i := 407) (by decide +kernel)) (by decide +kernel)
theorem wd_409 : (.instanceMethod y_R_sink : Cond) ∈ gw := gw_in (List.mem_of_getElem? (i := 409) (by decide +kernel)) (by decide +kernel)
theorem wd_410 : (.code y_R_sink c_R_sink 7 none : Cond) ∈ gw := gw_in (List.mem_of_getElem? (i := 410) (by decide +kernel)) (by decide +kernel)
theorem wd_411 : (.methodLink "PixelSnapper" 193 y_R_keepDistinct : Cond) ∈ gw := gw_in (List.mem_of_getElem? (i := 411) (by decide +kernel)) (by decide +kernel)
theorem wd_412 : (.instanceMethod y_R_keepDistinct : Cond) ∈ gw := gw_in (List.mem_of_getElem? (i := 412) (by decide +kernel)) (by decide +kernel)
theorem wd_413 : (.selects "PixelSnapper$Row" y_R_keepDistinct y_R_keepDistinct : Cond) ∈ gw := gw_in (List.mem_of_getElem? (i := 413) (by decide +kernel)) (by decide +kernel)
theorem wd_414 : (.code y_R_keepDistinct c_R_keepDistinct 3 none : Cond) ∈ gw := gw_in (List.mem_of_getElem? (i := 414) (by decide +kernel)) (by decide +kernel)
theorem wd_415 : (.methodLink "PixelSnapper" 188 y_R_add : Cond) ∈ gw := gw_in (List.mem_of_getElem? (i := 415) (by decide +kernel)) (by decide +kernel)
theorem wd_416 : (.instanceMethod y_R_add : Cond) ∈ gw := gw_in (List.mem_of_getElem? (i := 416) (by decide +kernel)) (by decide +kernel)
theorem wd_417 : (.selects "PixelSnapper$Row" y_R_add y_R_add : Cond) ∈ gw := gw_in (List.mem_of_getElem? (i := 417) (by decide +kernel)) (by decide +kernel)
theorem wd_418 : (.code y_R_add c_R_add 3 (some .boolean) : Cond) ∈ gw := gw_in (List.mem_of_getElem? (i := 418) (by decide +kernel)) (by decide +kernel)
theorem wd_419 : (.methodLink "PixelSnapper$Row" 28 y_R_isFull : Cond) ∈ gw := gw_in (List.mem_of_getElem? (i := 419) (by decide +kernel)) (by decide +kernel)
theorem wd_420 : (.methodLink "PixelSnapper$Row" 32 y_H_min_II : Cond) ∈ gw := gw_in (List.mem_of_getElem? (i := 420) (by decide +kernel)) (by decide +kernel)
theorem wd_421 : (.methodLink "PixelSnapper$Row" 38 y_Y_copyOf_aJI : Cond) ∈ gw := gw_in (List.mem_of_getElem? (i := 421) (by decide +kernel)) (by decide +kernel)
theorem wd_422 : (.static y_Y_copyOf_aJI : Cond) ∈ gw := gw_in (List.mem_of_getElem? (i := 422) (by decide +kernel)) (by decide +kernel)
theorem wd_423 : (.code y_Y_copyOf_aJI c_Y_copyOf_aJI 3 (some (.array .long)) : Cond) ∈ gw := gw_in (List.mem_of_getElem? (i := 423) (by decide +kernel)) (by decide +kernel)
theorem wd_424 : (.methodLink "java/util/Arrays" 319 ⟨"[J", "clone", "()Ljava/lang/Object;"⟩ : Cond) ∈ gw := gw_in (List.mem_of_getElem? (i := 424) (by decide +kernel)) (by decide +kernel)
theorem wd_425 : (.sameMethod "[J" "java/lang/Object" "clone" "()Ljava/lang/Object;" : Cond) ∈ gw := gw_in (List.mem_of_getElem? (i := 425) (by decide +kernel)) (by decide +kernel)
theorem wd_426 : (.native y_J_clone : Cond) ∈ gw := gw_in (List.mem_of_getElem? (i := 426) (by decide +kernel)) (by decide +kernel)
theorem wd_427 : (.instanceMethod y_J_clone : Cond) ∈ gw := gw_in (List.mem_of_getElem? (i := 427) (by decide +kernel)) (by decide +kernel)
theorem wd_428 : (.selects "[J" ⟨"[J", "clone", "()Ljava/lang/Object;"⟩ y_J_clone : Cond) ∈ gw := gw_in (List.mem_of_getElem? (i := 428) (by decide +kernel)) (by decide +kernel)
theorem wd_430 : (.classLink "java/util/Arrays" 320 "[J" : Cond) ∈ gw := gw_in (List.mem_of_getElem? (i := 430) (by decide +kernel)) (by decide +kernel)
theorem wd_431 : (.methodLink "PixelSnapper" 175 y_S_toKey : Cond) ∈ gw := gw_in (List.mem_of_getElem? (i := 431) (by decide +kernel)) (by decide +kernel)
theorem wd_432 : (.instanceMethod y_S_toKey : Cond) ∈ gw := gw_in (List.mem_of_getElem? (i := 432) (by decide +kernel)) (by decide +kernel)
theorem wd_433 : (.selects "PixelSnapper$Segment" y_S_toKey y_S_toKey : Cond) ∈ gw := gw_in (List.mem_of_getElem? (i := 433) (by decide +kernel)) (by decide +kernel)
theorem wd_434 : (.code y_S_toKey c_S_toKey 1 (some .long) : Cond) ∈ gw := gw_in (List.mem_of_getElem? (i := 434) (by decide +kernel)) (by decide +kernel)
theorem wd_435 : (.methodLink "PixelSnapper" 178 y_P_heatCrossings : Cond) ∈ gw := gw_in (List.mem_of_getElem? (i := 435) (by decide +kernel)) (by decide +kernel)
theorem wd_437 : (.instanceMethod y_P_heatCrossings : Cond) ∈ gw := gw_in (List.mem_of_getElem? (i := 437) (by decide +kernel)) (by decide +kernel)
theorem wd_438 : (.code y_P_heatCrossings c_P_heatCrossings 5 (some .boolean) : Cond) ∈ gw := gw_in (List.mem_of_getElem? (i := 438) (by decide +kernel)) (by decide +kernel)
theorem wd_439 : (.methodLink "PixelSnapper" 116 y_S_crosses : Cond) ∈ gw := gw_in (List.mem_of_getElem? (i := 439) (by decide +kernel)) (by decide +kernel)
theorem wd_440 : (.instanceMethod y_S_crosses : Cond) ∈ gw := gw_in (List.mem_of_getElem? (i := 440) (by decide +kernel)) (by decide +kernel)
theorem wd_441 : (.selects "PixelSnapper$Segment" y_S_crosses y_S_crosses : Cond) ∈ gw := gw_in (List.mem_of_getElem? (i := 441) (by decide +kernel)) (by decide +kernel)
theorem wd_442 : (.code y_S_crosses c_S_crosses 2 (some .boolean) : Cond) ∈ gw := gw_in (List.mem_of_getElem? (i := 442) (by decide +kernel)) (by decide +kernel)
theorem wd_443 : (.methodLink "PixelSnapper$Segment" 62 y_S_parts : Cond) ∈ gw := gw_in (List.mem_of_getElem? (i := 443) (by decide +kernel)) (by decide +kernel)
theorem wd_445 : (.instanceMethod y_S_parts : Cond) ∈ gw := gw_in (List.mem_of_getElem? (i := 445) (by decide +kernel)) (by decide +kernel)
theorem wd_446 : (.code y_S_parts c_S_parts 6 (some .boolean) : Cond) ∈ gw := gw_in (List.mem_of_getElem? (i := 446) (by decide +kernel)) (by decide +kernel)
theorem wd_447 : (.methodLink "PixelSnapper$Segment" 66 y_S_sideOf : Cond) ∈ gw := gw_in (List.mem_of_getElem? (i := 447) (by decide +kernel)) (by decide +kernel)
theorem wd_449 : (.instanceMethod y_S_sideOf : Cond) ∈ gw := gw_in (List.mem_of_getElem? (i := 449) (by decide +kernel)) (by decide +kernel)
theorem wd_450 : (.code y_S_sideOf c_S_sideOf 5 (some .long) : Cond) ∈ gw := gw_in (List.mem_of_getElem? (i := 450) (by decide +kernel)) (by decide +kernel)
theorem wd_451 : (.methodLink "PixelSnapper" 122 y_S_crossingKey : Cond) ∈ gw := gw_in (List.mem_of_getElem? (i := 451) (by decide +kernel)) (by decide +kernel)
theorem wd_452 : (.instanceMethod y_S_crossingKey : Cond) ∈ gw := gw_in (List.mem_of_getElem? (i := 452) (by decide +kernel)) (by decide +kernel)
theorem wd_453 : (.selects "PixelSnapper$Segment" y_S_crossingKey y_S_crossingKey : Cond) ∈ gw := gw_in (List.mem_of_getElem? (i := 453) (by decide +kernel)) (by decide +kernel)
theorem wd_454 : (.code y_S_crossingKey c_S_crossingKey 6 (some .long) : Cond) ∈ gw := gw_in (List.mem_of_getElem? (i := 454) (by decide +kernel)) (by decide +kernel)
theorem wd_455 : (.methodLink "PixelSnapper$Segment" 69 y_H_abs : Cond) ∈ gw := gw_in (List.mem_of_getElem? (i := 455) (by decide +kernel)) (by decide +kernel)
theorem wd_456 : (.static y_H_abs : Cond) ∈ gw := gw_in (List.mem_of_getElem? (i := 456) (by decide +kernel)) (by decide +kernel)
theorem wd_457 : (.code y_H_abs c_H_abs 2 (some .long) : Cond) ∈ gw := gw_in (List.mem_of_getElem? (i := 457) (by decide +kernel)) (by decide +kernel)
theorem wd_458 : (.methodLink "PixelSnapper$Segment" 73 y_S_roundedPart : Cond) ∈ gw := gw_in (List.mem_of_getElem? (i := 458) (by decide +kernel)) (by decide +kernel)
theorem wd_459 : (.static y_S_roundedPart : Cond) ∈ gw := gw_in (List.mem_of_getElem? (i := 459) (by decide +kernel)) (by decide +kernel)
theorem wd_460 : (.code y_S_roundedPart c_S_roundedPart 14 (some .long) : Cond) ∈ gw := gw_in (List.mem_of_getElem? (i := 460) (by decide +kernel)) (by decide +kernel)
theorem wd_461 : (.constantLong "PixelSnapper$Segment" 77 (536870912 : Int64) : Cond) ∈ gw := gw_in (List.mem_of_getElem? (i := 461) (by decide +kernel)) (by decide +kernel)
theorem wd_462 : (.constantLong "PixelSnapper$Segment" 60 (2 : Int64) : Cond) ∈ gw := gw_in (List.mem_of_getElem? (i := 462) (by decide +kernel)) (by decide +kernel)
theorem wd_463 : (.methodLink "PixelSnapper" 81 y_P_findChains : Cond) ∈ gw := gw_in (List.mem_of_getElem? (i := 463) (by decide +kernel)) (by decide +kernel)
theorem wd_465 : (.instanceMethod y_P_findChains : Cond) ∈ gw := gw_in (List.mem_of_getElem? (i := 465) (by decide +kernel)) (by decide +kernel)
theorem wd_466 : (.code y_P_findChains c_P_findChains 3 (some .boolean) : Cond) ∈ gw := gw_in (List.mem_of_getElem? (i := 466) (by decide +kernel)) (by decide +kernel)
theorem wd_467 : (.methodLink "PixelSnapper" 196 y_P_addPlaces : Cond) ∈ gw := gw_in (List.mem_of_getElem? (i := 467) (by decide +kernel)) (by decide +kernel)
theorem wd_469 : (.instanceMethod y_P_addPlaces : Cond) ∈ gw := gw_in (List.mem_of_getElem? (i := 469) (by decide +kernel)) (by decide +kernel)
theorem wd_470 : (.code y_P_addPlaces c_P_addPlaces 6 (some .boolean) : Cond) ∈ gw := gw_in (List.mem_of_getElem? (i := 470) (by decide +kernel)) (by decide +kernel)
theorem wd_471 : (.methodLink "PixelSnapper" 203 y_S_mostKey : Cond) ∈ gw := gw_in (List.mem_of_getElem? (i := 471) (by decide +kernel)) (by decide +kernel)
theorem wd_472 : (.instanceMethod y_S_mostKey : Cond) ∈ gw := gw_in (List.mem_of_getElem? (i := 472) (by decide +kernel)) (by decide +kernel)
theorem wd_473 : (.selects "PixelSnapper$Segment" y_S_mostKey y_S_mostKey : Cond) ∈ gw := gw_in (List.mem_of_getElem? (i := 473) (by decide +kernel)) (by decide +kernel)
theorem wd_474 : (.code y_S_mostKey c_S_mostKey 1 (some .long) : Cond) ∈ gw := gw_in (List.mem_of_getElem? (i := 474) (by decide +kernel)) (by decide +kernel)
theorem wd_475 : (.methodLink "PixelSnapper" 206 y_R_firstFrom : Cond) ∈ gw := gw_in (List.mem_of_getElem? (i := 475) (by decide +kernel)) (by decide +kernel)
theorem wd_476 : (.instanceMethod y_R_firstFrom : Cond) ∈ gw := gw_in (List.mem_of_getElem? (i := 476) (by decide +kernel)) (by decide +kernel)
theorem wd_477 : (.selects "PixelSnapper$Row" y_R_firstFrom y_R_firstFrom : Cond) ∈ gw := gw_in (List.mem_of_getElem? (i := 477) (by decide +kernel)) (by decide +kernel)
theorem wd_478 : (.code y_R_firstFrom c_R_firstFrom 6 (some .int) : Cond) ∈ gw := gw_in (List.mem_of_getElem? (i := 478) (by decide +kernel)) (by decide +kernel)
theorem wd_479 : (.methodLink "PixelSnapper" 210 y_S_leastKey : Cond) ∈ gw := gw_in (List.mem_of_getElem? (i := 479) (by decide +kernel)) (by decide +kernel)
theorem wd_480 : (.instanceMethod y_S_leastKey : Cond) ∈ gw := gw_in (List.mem_of_getElem? (i := 480) (by decide +kernel)) (by decide +kernel)
theorem wd_481 : (.selects "PixelSnapper$Segment" y_S_leastKey y_S_leastKey : Cond) ∈ gw := gw_in (List.mem_of_getElem? (i := 481) (by decide +kernel)) (by decide +kernel)
theorem wd_482 : (.code y_S_leastKey c_S_leastKey 1 (some .long) : Cond) ∈ gw := gw_in (List.mem_of_getElem? (i := 482) (by decide +kernel)) (by decide +kernel)
theorem wd_483 : (.methodLink "PixelSnapper" 135 y_R_at : Cond) ∈ gw := gw_in (List.mem_of_getElem? (i := 483) (by decide +kernel)) (by decide +kernel)
theorem wd_484 : (.instanceMethod y_R_at : Cond) ∈ gw := gw_in (List.mem_of_getElem? (i := 484) (by decide +kernel)) (by decide +kernel)
theorem wd_485 : (.selects "PixelSnapper$Row" y_R_at y_R_at : Cond) ∈ gw := gw_in (List.mem_of_getElem? (i := 485) (by decide +kernel)) (by decide +kernel)
theorem wd_486 : (.code y_R_at c_R_at 2 (some .long) : Cond) ∈ gw := gw_in (List.mem_of_getElem? (i := 486) (by decide +kernel)) (by decide +kernel)
theorem wd_487 : (.methodLink "PixelSnapper$Row" 22 y_R_has : Cond) ∈ gw := gw_in (List.mem_of_getElem? (i := 487) (by decide +kernel)) (by decide +kernel)
theorem wd_488 : (.instanceMethod y_R_has : Cond) ∈ gw := gw_in (List.mem_of_getElem? (i := 488) (by decide +kernel)) (by decide +kernel)
theorem wd_489 : (.selects "PixelSnapper$Row" y_R_has y_R_has : Cond) ∈ gw := gw_in (List.mem_of_getElem? (i := 489) (by decide +kernel)) (by decide +kernel)
theorem wd_490 : (.code y_R_has c_R_has 2 (some .boolean) : Cond) ∈ gw := gw_in (List.mem_of_getElem? (i := 490) (by decide +kernel)) (by decide +kernel)
theorem wd_491 : (.constantLong "PixelSnapper$Row" 26 (-1 : Int64) : Cond) ∈ gw := gw_in (List.mem_of_getElem? (i := 491) (by decide +kernel)) (by decide +kernel)
theorem wd_492 : (.methodLink "PixelSnapper" 157 y_P_keyX : Cond) ∈ gw := gw_in (List.mem_of_getElem? (i := 492) (by decide +kernel)) (by decide +kernel)
theorem wd_493 : (.static y_P_keyX : Cond) ∈ gw := gw_in (List.mem_of_getElem? (i := 493) (by decide +kernel)) (by decide +kernel)
theorem wd_494 : (.code y_P_keyX c_P_keyX 2 (some .long) : Cond) ∈ gw := gw_in (List.mem_of_getElem? (i := 494) (by decide +kernel)) (by decide +kernel)
theorem wd_495 : (.methodLink "PixelSnapper" 161 y_P_keyY : Cond) ∈ gw := gw_in (List.mem_of_getElem? (i := 495) (by decide +kernel)) (by decide +kernel)
theorem wd_496 : (.static y_P_keyY : Cond) ∈ gw := gw_in (List.mem_of_getElem? (i := 496) (by decide +kernel)) (by decide +kernel)
theorem wd_497 : (.code y_P_keyY c_P_keyY 2 (some .long) : Cond) ∈ gw := gw_in (List.mem_of_getElem? (i := 497) (by decide +kernel)) (by decide +kernel)
theorem wd_498 : (.constantLong "PixelSnapper" 155 (1073741823 : Int64) : Cond) ∈ gw := gw_in (List.mem_of_getElem? (i := 498) (by decide +kernel)) (by decide +kernel)
theorem wd_499 : (.methodLink "PixelSnapper" 107 y_S_enters : Cond) ∈ gw := gw_in (List.mem_of_getElem? (i := 499) (by decide +kernel)) (by decide +kernel)
theorem wd_500 : (.instanceMethod y_S_enters : Cond) ∈ gw := gw_in (List.mem_of_getElem? (i := 500) (by decide +kernel)) (by decide +kernel)
theorem wd_501 : (.selects "PixelSnapper$Segment" y_S_enters y_S_enters : Cond) ∈ gw := gw_in (List.mem_of_getElem? (i := 501) (by decide +kernel)) (by decide +kernel)
theorem wd_502 : (.code y_S_enters c_S_enters 5 (some .boolean) : Cond) ∈ gw := gw_in (List.mem_of_getElem? (i := 502) (by decide +kernel)) (by decide +kernel)
theorem wd_503 : (.methodLink "PixelSnapper$Segment" 54 y_S_lineEnters : Cond) ∈ gw := gw_in (List.mem_of_getElem? (i := 503) (by decide +kernel)) (by decide +kernel)
theorem wd_505 : (.instanceMethod y_S_lineEnters : Cond) ∈ gw := gw_in (List.mem_of_getElem? (i := 505) (by decide +kernel)) (by decide +kernel)
theorem wd_506 : (.code y_S_lineEnters c_S_lineEnters 17 (some .boolean) : Cond) ∈ gw := gw_in (List.mem_of_getElem? (i := 506) (by decide +kernel)) (by decide +kernel)
theorem wd_507 : (.constantLong "PixelSnapper$Segment" 58 (-2 : Int64) : Cond) ∈ gw := gw_in (List.mem_of_getElem? (i := 507) (by decide +kernel)) (by decide +kernel)
theorem wd_508 : (.methodLink "PixelSnapper" 199 y_P_orderPlaces : Cond) ∈ gw := gw_in (List.mem_of_getElem? (i := 508) (by decide +kernel)) (by decide +kernel)
theorem wd_510 : (.instanceMethod y_P_orderPlaces : Cond) ∈ gw := gw_in (List.mem_of_getElem? (i := 510) (by decide +kernel)) (by decide +kernel)
theorem wd_511 : (.code y_P_orderPlaces c_P_orderPlaces 3 none : Cond) ∈ gw := gw_in (List.mem_of_getElem? (i := 511) (by decide +kernel)) (by decide +kernel)
theorem wd_512 : (.methodLink "PixelSnapper" 213 y_S_goesLeft : Cond) ∈ gw := gw_in (List.mem_of_getElem? (i := 512) (by decide +kernel)) (by decide +kernel)
theorem wd_513 : (.instanceMethod y_S_goesLeft : Cond) ∈ gw := gw_in (List.mem_of_getElem? (i := 513) (by decide +kernel)) (by decide +kernel)
theorem wd_514 : (.selects "PixelSnapper$Segment" y_S_goesLeft y_S_goesLeft : Cond) ∈ gw := gw_in (List.mem_of_getElem? (i := 514) (by decide +kernel)) (by decide +kernel)
theorem wd_515 : (.code y_S_goesLeft c_S_goesLeft 1 (some .boolean) : Cond) ∈ gw := gw_in (List.mem_of_getElem? (i := 515) (by decide +kernel)) (by decide +kernel)
theorem wd_516 : (.methodLink "PixelSnapper" 216 y_R_turnRound : Cond) ∈ gw := gw_in (List.mem_of_getElem? (i := 516) (by decide +kernel)) (by decide +kernel)
theorem wd_517 : (.instanceMethod y_R_turnRound : Cond) ∈ gw := gw_in (List.mem_of_getElem? (i := 517) (by decide +kernel)) (by decide +kernel)
theorem wd_518 : (.selects "PixelSnapper$Row" y_R_turnRound y_R_turnRound : Cond) ∈ gw := gw_in (List.mem_of_getElem? (i := 518) (by decide +kernel)) (by decide +kernel)
theorem wd_519 : (.code y_R_turnRound c_R_turnRound 7 none : Cond) ∈ gw := gw_in (List.mem_of_getElem? (i := 519) (by decide +kernel)) (by decide +kernel)
theorem wd_520 : (.methodLink "PixelSnapper" 220 y_S_goesDown : Cond) ∈ gw := gw_in (List.mem_of_getElem? (i := 520) (by decide +kernel)) (by decide +kernel)
theorem wd_521 : (.instanceMethod y_S_goesDown : Cond) ∈ gw := gw_in (List.mem_of_getElem? (i := 521) (by decide +kernel)) (by decide +kernel)
theorem wd_522 : (.selects "PixelSnapper$Segment" y_S_goesDown y_S_goesDown : Cond) ∈ gw := gw_in (List.mem_of_getElem? (i := 522) (by decide +kernel)) (by decide +kernel)
theorem wd_523 : (.code y_S_goesDown c_S_goesDown 1 (some .boolean) : Cond) ∈ gw := gw_in (List.mem_of_getElem? (i := 523) (by decide +kernel)) (by decide +kernel)
theorem wd_524 : (.methodLink "PixelSnapper" 223 y_P_turnColumnsRound : Cond) ∈ gw := gw_in (List.mem_of_getElem? (i := 524) (by decide +kernel)) (by decide +kernel)
theorem wd_526 : (.instanceMethod y_P_turnColumnsRound : Cond) ∈ gw := gw_in (List.mem_of_getElem? (i := 526) (by decide +kernel)) (by decide +kernel)
theorem wd_527 : (.code y_P_turnColumnsRound c_P_turnColumnsRound 4 none : Cond) ∈ gw := gw_in (List.mem_of_getElem? (i := 527) (by decide +kernel)) (by decide +kernel)
theorem wd_528 : (.methodLink "PixelSnapper" 226 y_P_placeX : Cond) ∈ gw := gw_in (List.mem_of_getElem? (i := 528) (by decide +kernel)) (by decide +kernel)
theorem wd_530 : (.instanceMethod y_P_placeX : Cond) ∈ gw := gw_in (List.mem_of_getElem? (i := 530) (by decide +kernel)) (by decide +kernel)
theorem wd_531 : (.code y_P_placeX c_P_placeX 2 (some .long) : Cond) ∈ gw := gw_in (List.mem_of_getElem? (i := 531) (by decide +kernel)) (by decide +kernel)
theorem wd_532 : (.classLink "PixelSnapper" 84 "java/lang/UnsupportedOperationException" : Cond) ∈ gw := gw_in (List.mem_of_getElem? (i := 532) (by decide +kernel)) (by decide +kernel)
theorem wd_533 : (.instantiable "java/lang/UnsupportedOperationException" 6 : Cond) ∈ gw := gw_in (List.mem_of_getElem? (i := 533) (by decide +kernel)) (by decide +kernel)
theorem wd_535 : (.selects "java/lang/UnsupportedOperationException" y_T_fillInStackTrace_I y_T_fillInStackTrace_I : Cond) ∈ gw := gw_in (List.mem_of_getElem? (i := 535) (by decide +kernel)) (by decide +kernel)
theorem wd_536 : (.lays "java/lang/UnsupportedOperationException" "java/lang/Throwable" "cause" "Ljava/lang/Throwable;" : Cond) ∈ gw := gw_in (List.mem_of_getElem? (i := 536) (by decide +kernel)) (by decide +kernel)
theorem wd_537 : (.lays "java/lang/UnsupportedOperationException" "java/lang/Throwable" "stackTrace" "[Ljava/lang/StackTraceElement;" : Cond) ∈ gw := gw_in (List.mem_of_getElem? (i := 537) (by decide +kernel)) (by decide +kernel)
theorem wd_538 : (.lays "java/lang/UnsupportedOperationException" "java/lang/Throwable" "suppressedExceptions" "Ljava/util/List;" : Cond) ∈ gw := gw_in (List.mem_of_getElem? (i := 538) (by decide +kernel)) (by decide +kernel)
theorem wd_539 : (.lays "java/lang/UnsupportedOperationException" "java/lang/Throwable" "detailMessage" "Ljava/lang/String;" : Cond) ∈ gw := gw_in (List.mem_of_getElem? (i := 539) (by decide +kernel)) (by decide +kernel)
theorem wd_540 : (.lays "java/lang/UnsupportedOperationException" "java/lang/Throwable" "backtrace" "Ljava/lang/Object;" : Cond) ∈ gw := gw_in (List.mem_of_getElem? (i := 540) (by decide +kernel)) (by decide +kernel)
theorem wd_542 : (.methodLink "PixelSnapper" 88 y_EU_init : Cond) ∈ gw := gw_in (List.mem_of_getElem? (i := 542) (by decide +kernel)) (by decide +kernel)
theorem wd_543 : (.instanceMethod y_EU_init : Cond) ∈ gw := gw_in (List.mem_of_getElem? (i := 543) (by decide +kernel)) (by decide +kernel)
theorem wd_544 : (.code y_EU_init c_EU_init 2 none : Cond) ∈ gw := gw_in (List.mem_of_getElem? (i := 544) (by decide +kernel)) (by decide +kernel)
theorem wd_545 : (.methodLink "java/lang/UnsupportedOperationException" 7 y_E_init : Cond) ∈ gw := gw_in (List.mem_of_getElem? (i := 545) (by decide +kernel)) (by decide +kernel)
theorem wd_546 : (.lays "java/lang/UnsupportedOperationException" "java/lang/Throwable" "depth" "I" : Cond) ∈ gw := gw_in (List.mem_of_getElem? (i := 546) (by decide +kernel)) (by decide +kernel)
theorem wd_547 : (.superclass "java/lang/UnsupportedOperationException" "java/lang/RuntimeException" : Cond) ∈ gw := gw_in (List.mem_of_getElem? (i := 547) (by decide +kernel)) (by decide +kernel)
theorem wd_548 : (.methodLink "PixelSnapper" 89 y_P_findPieces : Cond) ∈ gw := gw_in (List.mem_of_getElem? (i := 548) (by decide +kernel)) (by decide +kernel)
theorem wd_550 : (.instanceMethod y_P_findPieces : Cond) ∈ gw := gw_in (List.mem_of_getElem? (i := 550) (by decide +kernel)) (by decide +kernel)
theorem wd_551 : (.code y_P_findPieces c_P_findPieces 7 none : Cond) ∈ gw := gw_in (List.mem_of_getElem? (i := 551) (by decide +kernel)) (by decide +kernel)
theorem wd_552 : (.methodLink "PixelSnapper" 141 y_P_chainStart : Cond) ∈ gw := gw_in (List.mem_of_getElem? (i := 552) (by decide +kernel)) (by decide +kernel)
theorem wd_554 : (.instanceMethod y_P_chainStart : Cond) ∈ gw := gw_in (List.mem_of_getElem? (i := 554) (by decide +kernel)) (by decide +kernel)
theorem wd_555 : (.code y_P_chainStart c_P_chainStart 2 (some .int) : Cond) ∈ gw := gw_in (List.mem_of_getElem? (i := 555) (by decide +kernel)) (by decide +kernel)
theorem wd_556 : (.methodLink "PixelSnapper" 229 y_H_min_JJ : Cond) ∈ gw := gw_in (List.mem_of_getElem? (i := 556) (by decide +kernel)) (by decide +kernel)
theorem wd_557 : (.methodLink "PixelSnapper" 235 y_H_max_JJ : Cond) ∈ gw := gw_in (List.mem_of_getElem? (i := 557) (by decide +kernel)) (by decide +kernel)
theorem wd_558 : (.methodLink "PixelSnapper" 238 y_R_countEqual : Cond) ∈ gw := gw_in (List.mem_of_getElem? (i := 558) (by decide +kernel)) (by decide +kernel)
theorem wd_559 : (.instanceMethod y_R_countEqual : Cond) ∈ gw := gw_in (List.mem_of_getElem? (i := 559) (by decide +kernel)) (by decide +kernel)
theorem wd_560 : (.selects "PixelSnapper$Row" y_R_countEqual y_R_countEqual : Cond) ∈ gw := gw_in (List.mem_of_getElem? (i := 560) (by decide +kernel)) (by decide +kernel)
theorem wd_561 : (.code y_R_countEqual c_R_countEqual 4 none : Cond) ∈ gw := gw_in (List.mem_of_getElem? (i := 561) (by decide +kernel)) (by decide +kernel)
theorem wd_562 : (.methodLink "PixelSnapper$Row" 48 y_R_add : Cond) ∈ gw := gw_in (List.mem_of_getElem? (i := 562) (by decide +kernel)) (by decide +kernel)
theorem wd_563 : (.methodLink "PixelSnapperLaw" 68 y_L_meets : Cond) ∈ gw := gw_in (List.mem_of_getElem? (i := 563) (by decide +kernel)) (by decide +kernel)
theorem wd_564 : (.static y_L_meets : Cond) ∈ gw := gw_in (List.mem_of_getElem? (i := 564) (by decide +kernel)) (by decide +kernel)
theorem wd_565 : (.codeWith y_L_meets c_L_meets 6 (some .int) [(0, 19, 22, 27), (0, 19, 26, 13)] : Cond) ∈ gw := gw_in (List.mem_of_getElem? (i := 565) (by decide +kernel)) (by decide +kernel)
theorem wd_566 : (.classLink "PixelSnapperLaw" 27 "java/lang/IndexOutOfBoundsException" : Cond) ∈ gw := gw_in (List.mem_of_getElem? (i := 566) (by decide +kernel)) (by decide +kernel)
theorem wd_567 : (.methodLink "PixelSnapperLaw" 23 y_P_meets : Cond) ∈ gw := gw_in (List.mem_of_getElem? (i := 567) (by decide +kernel)) (by decide +kernel)
theorem wd_568 : (.instanceMethod y_P_meets : Cond) ∈ gw := gw_in (List.mem_of_getElem? (i := 568) (by decide +kernel)) (by decide +kernel)
theorem wd_569 : (.selects "PixelSnapper" y_P_meets y_P_meets : Cond) ∈ gw := gw_in (List.mem_of_getElem? (i := 569) (by decide +kernel)) (by decide +kernel)
theorem wd_570 : (.code y_P_meets c_P_meets 4 (some .boolean) : Cond) ∈ gw := gw_in (List.mem_of_getElem? (i := 570) (by decide +kernel)) (by decide +kernel)
theorem wd_571 : (.methodLink "PixelSnapper" 93 y_P_hasSegment : Cond) ∈ gw := gw_in (List.mem_of_getElem? (i := 571) (by decide +kernel)) (by decide +kernel)
theorem wd_573 : (.instanceMethod y_P_hasSegment : Cond) ∈ gw := gw_in (List.mem_of_getElem? (i := 573) (by decide +kernel)) (by decide +kernel)
theorem wd_574 : (.code y_P_hasSegment c_P_hasSegment 2 (some .boolean) : Cond) ∈ gw := gw_in (List.mem_of_getElem? (i := 574) (by decide +kernel)) (by decide +kernel)
theorem wd_575 : (.classLink "PixelSnapper" 96 "java/lang/IndexOutOfBoundsException" : Cond) ∈ gw := gw_in (List.mem_of_getElem? (i := 575) (by decide +kernel)) (by decide +kernel)
theorem wd_576 : (.instantiable "java/lang/IndexOutOfBoundsException" 6 : Cond) ∈ gw := gw_in (List.mem_of_getElem? (i := 576) (by decide +kernel)) (by decide +kernel)
theorem wd_578 : (.selects "java/lang/IndexOutOfBoundsException" y_T_fillInStackTrace_I y_T_fillInStackTrace_I : Cond) ∈ gw := gw_in (List.mem_of_getElem? (i := 578) (by decide +kernel)) (by decide +kernel)
theorem wd_579 : (.lays "java/lang/IndexOutOfBoundsException" "java/lang/Throwable" "cause" "Ljava/lang/Throwable;" : Cond) ∈ gw := gw_in (List.mem_of_getElem? (i := 579) (by decide +kernel)) (by decide +kernel)
theorem wd_580 : (.lays "java/lang/IndexOutOfBoundsException" "java/lang/Throwable" "stackTrace" "[Ljava/lang/StackTraceElement;" : Cond) ∈ gw := gw_in (List.mem_of_getElem? (i := 580) (by decide +kernel)) (by decide +kernel)
theorem wd_581 : (.lays "java/lang/IndexOutOfBoundsException" "java/lang/Throwable" "suppressedExceptions" "Ljava/util/List;" : Cond) ∈ gw := gw_in (List.mem_of_getElem? (i := 581) (by decide +kernel)) (by decide +kernel)
theorem wd_582 : (.lays "java/lang/IndexOutOfBoundsException" "java/lang/Throwable" "detailMessage" "Ljava/lang/String;" : Cond) ∈ gw := gw_in (List.mem_of_getElem? (i := 582) (by decide +kernel)) (by decide +kernel)
theorem wd_583 : (.lays "java/lang/IndexOutOfBoundsException" "java/lang/Throwable" "backtrace" "Ljava/lang/Object;" : Cond) ∈ gw := gw_in (List.mem_of_getElem? (i := 583) (by decide +kernel)) (by decide +kernel)
theorem wd_585 : (.methodLink "PixelSnapper" 100 y_EI_init : Cond) ∈ gw := gw_in (List.mem_of_getElem? (i := 585) (by decide +kernel)) (by decide +kernel)
theorem wd_586 : (.instanceMethod y_EI_init : Cond) ∈ gw := gw_in (List.mem_of_getElem? (i := 586) (by decide +kernel)) (by decide +kernel)
theorem wd_587 : (.code y_EI_init c_EI_init 2 none : Cond) ∈ gw := gw_in (List.mem_of_getElem? (i := 587) (by decide +kernel)) (by decide +kernel)
theorem wd_588 : (.methodLink "java/lang/IndexOutOfBoundsException" 7 y_E_init : Cond) ∈ gw := gw_in (List.mem_of_getElem? (i := 588) (by decide +kernel)) (by decide +kernel)
theorem wd_589 : (.lays "java/lang/IndexOutOfBoundsException" "java/lang/Throwable" "depth" "I" : Cond) ∈ gw := gw_in (List.mem_of_getElem? (i := 589) (by decide +kernel)) (by decide +kernel)
theorem wd_590 : (.superclass "java/lang/IndexOutOfBoundsException" "java/lang/RuntimeException" : Cond) ∈ gw := gw_in (List.mem_of_getElem? (i := 590) (by decide +kernel)) (by decide +kernel)
theorem wd_592 : (.methodLink "PixelSnapperLaw" 72 y_L_crossing : Cond) ∈ gw := gw_in (List.mem_of_getElem? (i := 592) (by decide +kernel)) (by decide +kernel)
theorem wd_593 : (.static y_L_crossing : Cond) ∈ gw := gw_in (List.mem_of_getElem? (i := 593) (by decide +kernel)) (by decide +kernel)
theorem wd_594 : (.codeWith y_L_crossing c_L_crossing 6 (some .int) [(0, 12, 15, 27), (0, 12, 19, 15)] : Cond) ∈ gw := gw_in (List.mem_of_getElem? (i := 594) (by decide +kernel)) (by decide +kernel)
theorem wd_595 : (.methodLink "PixelSnapperLaw" 29 y_P_crossing : Cond) ∈ gw := gw_in (List.mem_of_getElem? (i := 595) (by decide +kernel)) (by decide +kernel)
theorem wd_596 : (.instanceMethod y_P_crossing : Cond) ∈ gw := gw_in (List.mem_of_getElem? (i := 596) (by decide +kernel)) (by decide +kernel)
theorem wd_597 : (.selects "PixelSnapper" y_P_crossing y_P_crossing : Cond) ∈ gw := gw_in (List.mem_of_getElem? (i := 597) (by decide +kernel)) (by decide +kernel)
theorem wd_598 : (.code y_P_crossing c_P_crossing 6 (some .int) : Cond) ∈ gw := gw_in (List.mem_of_getElem? (i := 598) (by decide +kernel)) (by decide +kernel)
theorem wd_599 : (.methodLink "PixelSnapper" 111 y_P_isXOrY : Cond) ∈ gw := gw_in (List.mem_of_getElem? (i := 599) (by decide +kernel)) (by decide +kernel)
theorem wd_600 : (.static y_P_isXOrY : Cond) ∈ gw := gw_in (List.mem_of_getElem? (i := 600) (by decide +kernel)) (by decide +kernel)
theorem wd_601 : (.code y_P_isXOrY c_P_isXOrY 1 (some .boolean) : Cond) ∈ gw := gw_in (List.mem_of_getElem? (i := 601) (by decide +kernel)) (by decide +kernel)
theorem wd_604 : (.methodLink "PixelSnapper" 126 y_P_keyPart : Cond) ∈ gw := gw_in (List.mem_of_getElem? (i := 604) (by decide +kernel)) (by decide +kernel)
theorem wd_605 : (.static y_P_keyPart : Cond) ∈ gw := gw_in (List.mem_of_getElem? (i := 605) (by decide +kernel)) (by decide +kernel)
theorem wd_606 : (.code y_P_keyPart c_P_keyPart 3 (some .int) : Cond) ∈ gw := gw_in (List.mem_of_getElem? (i := 606) (by decide +kernel)) (by decide +kernel)
theorem wd_607 : (.methodLink "PixelSnapperLaw" 75 y_L_pixel : Cond) ∈ gw := gw_in (List.mem_of_getElem? (i := 607) (by decide +kernel)) (by decide +kernel)
theorem wd_608 : (.static y_L_pixel : Cond) ∈ gw := gw_in (List.mem_of_getElem? (i := 608) (by decide +kernel)) (by decide +kernel)
theorem wd_609 : (.codeWith y_L_pixel c_L_pixel 5 (some .int) [(0, 10, 13, 27)] : Cond) ∈ gw := gw_in (List.mem_of_getElem? (i := 609) (by decide +kernel)) (by decide +kernel)
theorem wd_610 : (.methodLink "PixelSnapperLaw" 33 y_P_pixel : Cond) ∈ gw := gw_in (List.mem_of_getElem? (i := 610) (by decide +kernel)) (by decide +kernel)
theorem wd_611 : (.instanceMethod y_P_pixel : Cond) ∈ gw := gw_in (List.mem_of_getElem? (i := 611) (by decide +kernel)) (by decide +kernel)
theorem wd_612 : (.selects "PixelSnapper" y_P_pixel y_P_pixel : Cond) ∈ gw := gw_in (List.mem_of_getElem? (i := 612) (by decide +kernel)) (by decide +kernel)
theorem wd_613 : (.code y_P_pixel c_P_pixel 3 (some .int) : Cond) ∈ gw := gw_in (List.mem_of_getElem? (i := 613) (by decide +kernel)) (by decide +kernel)
theorem wd_614 : (.methodLink "PixelSnapper" 130 y_R_has : Cond) ∈ gw := gw_in (List.mem_of_getElem? (i := 614) (by decide +kernel)) (by decide +kernel)
theorem wd_616 : (.methodLink "PixelSnapperLaw" 79 y_L_chain : Cond) ∈ gw := gw_in (List.mem_of_getElem? (i := 616) (by decide +kernel)) (by decide +kernel)
theorem wd_617 : (.static y_L_chain : Cond) ∈ gw := gw_in (List.mem_of_getElem? (i := 617) (by decide +kernel)) (by decide +kernel)
theorem wd_618 : (.codeWith y_L_chain c_L_chain 4 (some .int) [(0, 9, 12, 27), (0, 9, 15, 15)] : Cond) ∈ gw := gw_in (List.mem_of_getElem? (i := 618) (by decide +kernel)) (by decide +kernel)
theorem wd_619 : (.methodLink "PixelSnapperLaw" 37 y_P_chain : Cond) ∈ gw := gw_in (List.mem_of_getElem? (i := 619) (by decide +kernel)) (by decide +kernel)
theorem wd_620 : (.instanceMethod y_P_chain : Cond) ∈ gw := gw_in (List.mem_of_getElem? (i := 620) (by decide +kernel)) (by decide +kernel)
theorem wd_621 : (.selects "PixelSnapper" y_P_chain y_P_chain : Cond) ∈ gw := gw_in (List.mem_of_getElem? (i := 621) (by decide +kernel)) (by decide +kernel)
theorem wd_622 : (.code y_P_chain c_P_chain 2 (some .int) : Cond) ∈ gw := gw_in (List.mem_of_getElem? (i := 622) (by decide +kernel)) (by decide +kernel)
theorem wd_624 : (.methodLink "PixelSnapperLaw" 83 y_L_chainAt : Cond) ∈ gw := gw_in (List.mem_of_getElem? (i := 624) (by decide +kernel)) (by decide +kernel)
theorem wd_625 : (.static y_L_chainAt : Cond) ∈ gw := gw_in (List.mem_of_getElem? (i := 625) (by decide +kernel)) (by decide +kernel)
theorem wd_626 : (.codeWith y_L_chainAt c_L_chainAt 5 (some .int) [(0, 10, 13, 27), (0, 10, 17, 15)] : Cond) ∈ gw := gw_in (List.mem_of_getElem? (i := 626) (by decide +kernel)) (by decide +kernel)
theorem wd_627 : (.methodLink "PixelSnapperLaw" 41 y_P_chainAt : Cond) ∈ gw := gw_in (List.mem_of_getElem? (i := 627) (by decide +kernel)) (by decide +kernel)
theorem wd_628 : (.instanceMethod y_P_chainAt : Cond) ∈ gw := gw_in (List.mem_of_getElem? (i := 628) (by decide +kernel)) (by decide +kernel)
theorem wd_629 : (.selects "PixelSnapper" y_P_chainAt y_P_chainAt : Cond) ∈ gw := gw_in (List.mem_of_getElem? (i := 629) (by decide +kernel)) (by decide +kernel)
theorem wd_630 : (.code y_P_chainAt c_P_chainAt 4 (some .int) : Cond) ∈ gw := gw_in (List.mem_of_getElem? (i := 630) (by decide +kernel)) (by decide +kernel)
theorem wd_632 : (.methodLink "PixelSnapperLaw" 86 y_L_piece : Cond) ∈ gw := gw_in (List.mem_of_getElem? (i := 632) (by decide +kernel)) (by decide +kernel)
theorem wd_633 : (.static y_L_piece : Cond) ∈ gw := gw_in (List.mem_of_getElem? (i := 633) (by decide +kernel)) (by decide +kernel)
theorem wd_634 : (.codeWith y_L_piece c_L_piece 5 (some .int) [(0, 10, 13, 27)] : Cond) ∈ gw := gw_in (List.mem_of_getElem? (i := 634) (by decide +kernel)) (by decide +kernel)
theorem wd_635 : (.methodLink "PixelSnapperLaw" 44 y_P_piece : Cond) ∈ gw := gw_in (List.mem_of_getElem? (i := 635) (by decide +kernel)) (by decide +kernel)
theorem wd_636 : (.instanceMethod y_P_piece : Cond) ∈ gw := gw_in (List.mem_of_getElem? (i := 636) (by decide +kernel)) (by decide +kernel)
theorem wd_637 : (.selects "PixelSnapper" y_P_piece y_P_piece : Cond) ∈ gw := gw_in (List.mem_of_getElem? (i := 637) (by decide +kernel)) (by decide +kernel)
theorem wd_638 : (.code y_P_piece c_P_piece 5 (some .int) : Cond) ∈ gw := gw_in (List.mem_of_getElem? (i := 638) (by decide +kernel)) (by decide +kernel)
theorem wd_640 : (.constantLong "PixelSnapper" 149 (8191 : Int64) : Cond) ∈ gw := gw_in (List.mem_of_getElem? (i := 640) (by decide +kernel)) (by decide +kernel)
theorem wd_641 : (.classLink "PixelSnapperLaw" 48 "PixelSnapperModel" : Cond) ∈ gw := gw_in (List.mem_of_getElem? (i := 641) (by decide +kernel)) (by decide +kernel)
theorem wd_642 : (.instantiable "PixelSnapperModel" 24 : Cond) ∈ gw := gw_in (List.mem_of_getElem? (i := 642) (by decide +kernel)) (by decide +kernel)
theorem wd_643 : (.methodLink "PixelSnapperLaw" 50 y_M_init : Cond) ∈ gw := gw_in (List.mem_of_getElem? (i := 643) (by decide +kernel)) (by decide +kernel)
theorem wd_644 : (.instanceMethod y_M_init : Cond) ∈ gw := gw_in (List.mem_of_getElem? (i := 644) (by decide +kernel)) (by decide +kernel)
theorem wd_645 : (.code y_M_init c_M_init 1 none : Cond) ∈ gw := gw_in (List.mem_of_getElem? (i := 645) (by decide +kernel)) (by decide +kernel)
theorem wd_646 : (.methodLink "PixelSnapperModel" 1 y_J_init : Cond) ∈ gw := gw_in (List.mem_of_getElem? (i := 646) (by decide +kernel)) (by decide +kernel)
theorem wd_647 : (.constant "PixelSnapperModel" 22 (65536 : Int32) : Cond) ∈ gw := gw_in (List.mem_of_getElem? (i := 647) (by decide +kernel)) (by decide +kernel)
theorem wd_648 : (.fieldLink "PixelSnapperModel" 46 "PixelSnapperModel" "thrown" "I" : Cond) ∈ gw := gw_in (List.mem_of_getElem? (i := 648) (by decide +kernel)) (by decide +kernel)
theorem wd_649 : (.fieldLink "PixelSnapperModel" 56 "PixelSnapperModel" "segments" "I" : Cond) ∈ gw := gw_in (List.mem_of_getElem? (i := 649) (by decide +kernel)) (by decide +kernel)
theorem wd_650 : (.fieldLink "PixelSnapperModel" 7 "PixelSnapperModel" "ends" "[I" : Cond) ∈ gw := gw_in (List.mem_of_getElem? (i := 650) (by decide +kernel)) (by decide +kernel)
theorem wd_651 : (.fieldLink "PixelSnapperModel" 59 "PixelSnapperModel" "snapped" "Z" : Cond) ∈ gw := gw_in (List.mem_of_getElem? (i := 651) (by decide +kernel)) (by decide +kernel)
theorem wd_652 : (.fieldLink "PixelSnapperModel" 63 "PixelSnapperModel" "hot" "I" : Cond) ∈ gw := gw_in (List.mem_of_getElem? (i := 652) (by decide +kernel)) (by decide +kernel)
theorem wd_653 : (.fieldLink "PixelSnapperModel" 13 "PixelSnapperModel" "hotX" "[I" : Cond) ∈ gw := gw_in (List.mem_of_getElem? (i := 653) (by decide +kernel)) (by decide +kernel)
theorem wd_654 : (.fieldLink "PixelSnapperModel" 16 "PixelSnapperModel" "hotY" "[I" : Cond) ∈ gw := gw_in (List.mem_of_getElem? (i := 654) (by decide +kernel)) (by decide +kernel)
theorem wd_655 : (.fieldLink "PixelSnapperModel" 19 "PixelSnapperModel" "begins" "[I" : Cond) ∈ gw := gw_in (List.mem_of_getElem? (i := 655) (by decide +kernel)) (by decide +kernel)
theorem wd_656 : (.fieldLink "PixelSnapperModel" 23 "PixelSnapperModel" "places" "[I" : Cond) ∈ gw := gw_in (List.mem_of_getElem? (i := 656) (by decide +kernel)) (by decide +kernel)
theorem wd_657 : (.fieldLink "PixelSnapperModel" 66 "PixelSnapperModel" "pieces" "I" : Cond) ∈ gw := gw_in (List.mem_of_getElem? (i := 657) (by decide +kernel)) (by decide +kernel)
theorem wd_658 : (.fieldLink "PixelSnapperModel" 26 "PixelSnapperModel" "lows" "[I" : Cond) ∈ gw := gw_in (List.mem_of_getElem? (i := 658) (by decide +kernel)) (by decide +kernel)
theorem wd_659 : (.fieldLink "PixelSnapperModel" 29 "PixelSnapperModel" "highs" "[I" : Cond) ∈ gw := gw_in (List.mem_of_getElem? (i := 659) (by decide +kernel)) (by decide +kernel)
theorem wd_660 : (.fieldLink "PixelSnapperModel" 32 "PixelSnapperModel" "often" "[I" : Cond) ∈ gw := gw_in (List.mem_of_getElem? (i := 660) (by decide +kernel)) (by decide +kernel)
theorem wd_661 : (.fieldLink "PixelSnapperModel" 130 "PixelSnapperModel" "crossX" "I" : Cond) ∈ gw := gw_in (List.mem_of_getElem? (i := 661) (by decide +kernel)) (by decide +kernel)
theorem wd_662 : (.fieldLink "PixelSnapperModel" 133 "PixelSnapperModel" "crossY" "I" : Cond) ∈ gw := gw_in (List.mem_of_getElem? (i := 662) (by decide +kernel)) (by decide +kernel)
theorem wd_663 : (.fieldLink "PixelSnapperModel" 80 "PixelSnapperModel" "fromOver" "J" : Cond) ∈ gw := gw_in (List.mem_of_getElem? (i := 663) (by decide +kernel)) (by decide +kernel)
theorem wd_664 : (.fieldLink "PixelSnapperModel" 84 "PixelSnapperModel" "fromUnder" "J" : Cond) ∈ gw := gw_in (List.mem_of_getElem? (i := 664) (by decide +kernel)) (by decide +kernel)
theorem wd_665 : (.fieldLink "PixelSnapperModel" 94 "PixelSnapperModel" "toOver" "J" : Cond) ∈ gw := gw_in (List.mem_of_getElem? (i := 665) (by decide +kernel)) (by decide +kernel)
theorem wd_666 : (.fieldLink "PixelSnapperModel" 97 "PixelSnapperModel" "toUnder" "J" : Cond) ∈ gw := gw_in (List.mem_of_getElem? (i := 666) (by decide +kernel)) (by decide +kernel)
theorem wd_667 : (.fieldLink "PixelSnapperModel" 91 "PixelSnapperModel" "fromIn" "Z" : Cond) ∈ gw := gw_in (List.mem_of_getElem? (i := 667) (by decide +kernel)) (by decide +kernel)
theorem wd_668 : (.fieldLink "PixelSnapperModel" 100 "PixelSnapperModel" "toIn" "Z" : Cond) ∈ gw := gw_in (List.mem_of_getElem? (i := 668) (by decide +kernel)) (by decide +kernel)
theorem wd_669 : (.fieldLink "PixelSnapperModel" 35 "PixelSnapperModel" "overs" "[J" : Cond) ∈ gw := gw_in (List.mem_of_getElem? (i := 669) (by decide +kernel)) (by decide +kernel)
theorem wd_670 : (.fieldLink "PixelSnapperModel" 39 "PixelSnapperModel" "unders" "[J" : Cond) ∈ gw := gw_in (List.mem_of_getElem? (i := 670) (by decide +kernel)) (by decide +kernel)
theorem wd_671 : (.fieldLink "PixelSnapperModel" 42 "PixelSnapperModel" "closed" "[Z" : Cond) ∈ gw := gw_in (List.mem_of_getElem? (i := 671) (by decide +kernel)) (by decide +kernel)
theorem wd_672 : (.lays "PixelSnapperModel" "PixelSnapperModel" "thrown" "I" : Cond) ∈ gw := gw_in (List.mem_of_getElem? (i := 672) (by decide +kernel)) (by decide +kernel)
theorem wd_674 : (.lays "PixelSnapperModel" "PixelSnapperModel" "segments" "I" : Cond) ∈ gw := gw_in (List.mem_of_getElem? (i := 674) (by decide +kernel)) (by decide +kernel)
theorem wd_676 : (.laysFinal "PixelSnapperModel" "PixelSnapperModel" "ends" "[I" : Cond) ∈ gw := gw_in (List.mem_of_getElem? (i := 676) (by decide +kernel)) (by decide +kernel)
theorem wd_678 : (.lays "PixelSnapperModel" "PixelSnapperModel" "snapped" "Z" : Cond) ∈ gw := gw_in (List.mem_of_getElem? (i := 678) (by decide +kernel)) (by decide +kernel)
theorem wd_680 : (.lays "PixelSnapperModel" "PixelSnapperModel" "hot" "I" : Cond) ∈ gw := gw_in (List.mem_of_getElem? (i := 680) (by decide +kernel)) (by decide +kernel)
theorem wd_682 : (.laysFinal "PixelSnapperModel" "PixelSnapperModel" "hotX" "[I" : Cond) ∈ gw := gw_in (List.mem_of_getElem? (i := 682) (by decide +kernel)) (by decide +kernel)
theorem wd_684 : (.laysFinal "PixelSnapperModel" "PixelSnapperModel" "hotY" "[I" : Cond) ∈ gw := gw_in (List.mem_of_getElem? (i := 684) (by decide +kernel)) (by decide +kernel)
theorem wd_686 : (.laysFinal "PixelSnapperModel" "PixelSnapperModel" "begins" "[I" : Cond) ∈ gw := gw_in (List.mem_of_getElem? (i := 686) (by decide +kernel)) (by decide +kernel)
theorem wd_688 : (.laysFinal "PixelSnapperModel" "PixelSnapperModel" "places" "[I" : Cond) ∈ gw := gw_in (List.mem_of_getElem? (i := 688) (by decide +kernel)) (by decide +kernel)
theorem wd_690 : (.lays "PixelSnapperModel" "PixelSnapperModel" "pieces" "I" : Cond) ∈ gw := gw_in (List.mem_of_getElem? (i := 690) (by decide +kernel)) (by decide +kernel)
theorem wd_692 : (.laysFinal "PixelSnapperModel" "PixelSnapperModel" "lows" "[I" : Cond) ∈ gw := gw_in (List.mem_of_getElem? (i := 692) (by decide +kernel)) (by decide +kernel)
theorem wd_694 : (.laysFinal "PixelSnapperModel" "PixelSnapperModel" "highs" "[I" : Cond) ∈ gw := gw_in (List.mem_of_getElem? (i := 694) (by decide +kernel)) (by decide +kernel)
theorem wd_696 : (.laysFinal "PixelSnapperModel" "PixelSnapperModel" "often" "[I" : Cond) ∈ gw := gw_in (List.mem_of_getElem? (i := 696) (by decide +kernel)) (by decide +kernel)
theorem wd_698 : (.lays "PixelSnapperModel" "PixelSnapperModel" "crossX" "I" : Cond) ∈ gw := gw_in (List.mem_of_getElem? (i := 698) (by decide +kernel)) (by decide +kernel)
theorem wd_700 : (.lays "PixelSnapperModel" "PixelSnapperModel" "crossY" "I" : Cond) ∈ gw := gw_in (List.mem_of_getElem? (i := 700) (by decide +kernel)) (by decide +kernel)
theorem wd_702 : (.lays "PixelSnapperModel" "PixelSnapperModel" "fromOver" "J" : Cond) ∈ gw := gw_in (List.mem_of_getElem? (i := 702) (by decide +kernel)) (by decide +kernel)
theorem wd_704 : (.lays "PixelSnapperModel" "PixelSnapperModel" "fromUnder" "J" : Cond) ∈ gw := gw_in (List.mem_of_getElem? (i := 704) (by decide +kernel)) (by decide +kernel)
theorem wd_706 : (.lays "PixelSnapperModel" "PixelSnapperModel" "toOver" "J" : Cond) ∈ gw := gw_in (List.mem_of_getElem? (i := 706) (by decide +kernel)) (by decide +kernel)
theorem wd_708 : (.lays "PixelSnapperModel" "PixelSnapperModel" "toUnder" "J" : Cond) ∈ gw := gw_in (List.mem_of_getElem? (i := 708) (by decide +kernel)) (by decide +kernel)
theorem wd_710 : (.lays "PixelSnapperModel" "PixelSnapperModel" "fromIn" "Z" : Cond) ∈ gw := gw_in (List.mem_of_getElem? (i := 710) (by decide +kernel)) (by decide +kernel)
theorem wd_712 : (.lays "PixelSnapperModel" "PixelSnapperModel" "toIn" "Z" : Cond) ∈ gw := gw_in (List.mem_of_getElem? (i := 712) (by decide +kernel)) (by decide +kernel)
theorem wd_714 : (.laysFinal "PixelSnapperModel" "PixelSnapperModel" "overs" "[J" : Cond) ∈ gw := gw_in (List.mem_of_getElem? (i := 714) (by decide +kernel)) (by decide +kernel)
theorem wd_716 : (.laysFinal "PixelSnapperModel" "PixelSnapperModel" "unders" "[J" : Cond) ∈ gw := gw_in (List.mem_of_getElem? (i := 716) (by decide +kernel)) (by decide +kernel)
theorem wd_718 : (.laysFinal "PixelSnapperModel" "PixelSnapperModel" "closed" "[Z" : Cond) ∈ gw := gw_in (List.mem_of_getElem? (i := 718) (by decide +kernel)) (by decide +kernel)
theorem wd_720 : (.superclass "PixelSnapperModel" "java/lang/Object" : Cond) ∈ gw := gw_in (List.mem_of_getElem? (i := 720) (by decide +kernel)) (by decide +kernel)
theorem wd_721 : (.arrayClass .int : Cond) ∈ gw := gw_in (List.mem_of_getElem? (i := 721) (by decide +kernel)) (by decide +kernel)
theorem wd_722 : (.arrayClass .boolean : Cond) ∈ gw := gw_in (List.mem_of_getElem? (i := 722) (by decide +kernel)) (by decide +kernel)
theorem wd_723 : (.methodLink "PixelSnapperLaw" 57 y_M_thrown : Cond) ∈ gw := gw_in (List.mem_of_getElem? (i := 723) (by decide +kernel)) (by decide +kernel)
theorem wd_724 : (.instanceMethod y_M_thrown : Cond) ∈ gw := gw_in (List.mem_of_getElem? (i := 724) (by decide +kernel)) (by decide +kernel)
theorem wd_725 : (.selects "PixelSnapperModel" y_M_thrown y_M_thrown : Cond) ∈ gw := gw_in (List.mem_of_getElem? (i := 725) (by decide +kernel)) (by decide +kernel)
theorem wd_726 : (.code y_M_thrown c_M_thrown 1 (some .int) : Cond) ∈ gw := gw_in (List.mem_of_getElem? (i := 726) (by decide +kernel)) (by decide +kernel)
theorem wd_727 : (.methodLink "PixelSnapperLaw" 56 y_M_segment : Cond) ∈ gw := gw_in (List.mem_of_getElem? (i := 727) (by decide +kernel)) (by decide +kernel)
theorem wd_728 : (.instanceMethod y_M_segment : Cond) ∈ gw := gw_in (List.mem_of_getElem? (i := 728) (by decide +kernel)) (by decide +kernel)
theorem wd_729 : (.selects "PixelSnapperModel" y_M_segment y_M_segment : Cond) ∈ gw := gw_in (List.mem_of_getElem? (i := 729) (by decide +kernel)) (by decide +kernel)
theorem wd_730 : (.code y_M_segment c_M_segment 6 (some .int) : Cond) ∈ gw := gw_in (List.mem_of_getElem? (i := 730) (by decide +kernel)) (by decide +kernel)
theorem wd_731 : (.methodLink "PixelSnapperModel" 69 y_M_isFar : Cond) ∈ gw := gw_in (List.mem_of_getElem? (i := 731) (by decide +kernel)) (by decide +kernel)
theorem wd_732 : (.static y_M_isFar : Cond) ∈ gw := gw_in (List.mem_of_getElem? (i := 732) (by decide +kernel)) (by decide +kernel)
theorem wd_733 : (.code y_M_isFar c_M_isFar 1 (some .boolean) : Cond) ∈ gw := gw_in (List.mem_of_getElem? (i := 733) (by decide +kernel)) (by decide +kernel)
theorem wd_734 : (.constant "PixelSnapperModel" 50 (-500000000 : Int32) : Cond) ∈ gw := gw_in (List.mem_of_getElem? (i := 734) (by decide +kernel)) (by decide +kernel)
theorem wd_735 : (.constant "PixelSnapperModel" 51 (500000000 : Int32) : Cond) ∈ gw := gw_in (List.mem_of_getElem? (i := 735) (by decide +kernel)) (by decide +kernel)
theorem wd_736 : (.methodLink "PixelSnapperModel" 52 y_M_within : Cond) ∈ gw := gw_in (List.mem_of_getElem? (i := 736) (by decide +kernel)) (by decide +kernel)
theorem wd_737 : (.static y_M_within : Cond) ∈ gw := gw_in (List.mem_of_getElem? (i := 737) (by decide +kernel)) (by decide +kernel)
theorem wd_738 : (.code y_M_within c_M_within 3 (some .boolean) : Cond) ∈ gw := gw_in (List.mem_of_getElem? (i := 738) (by decide +kernel)) (by decide +kernel)
theorem wd_739 : (.methodLink "PixelSnapperModel" 73 y_M_fail : Cond) ∈ gw := gw_in (List.mem_of_getElem? (i := 739) (by decide +kernel)) (by decide +kernel)
theorem wd_741 : (.instanceMethod y_M_fail : Cond) ∈ gw := gw_in (List.mem_of_getElem? (i := 741) (by decide +kernel)) (by decide +kernel)
theorem wd_742 : (.code y_M_fail c_M_fail 2 (some .int) : Cond) ∈ gw := gw_in (List.mem_of_getElem? (i := 742) (by decide +kernel)) (by decide +kernel)
theorem wd_743 : (.methodLink "PixelSnapperModel" 77 y_M_forget : Cond) ∈ gw := gw_in (List.mem_of_getElem? (i := 743) (by decide +kernel)) (by decide +kernel)
theorem wd_745 : (.instanceMethod y_M_forget : Cond) ∈ gw := gw_in (List.mem_of_getElem? (i := 745) (by decide +kernel)) (by decide +kernel)
theorem wd_746 : (.code y_M_forget c_M_forget 2 none : Cond) ∈ gw := gw_in (List.mem_of_getElem? (i := 746) (by decide +kernel)) (by decide +kernel)
theorem wd_747 : (.methodLink "PixelSnapperLaw" 63 y_M_clear : Cond) ∈ gw := gw_in (List.mem_of_getElem? (i := 747) (by decide +kernel)) (by decide +kernel)
theorem wd_748 : (.instanceMethod y_M_clear : Cond) ∈ gw := gw_in (List.mem_of_getElem? (i := 748) (by decide +kernel)) (by decide +kernel)
theorem wd_749 : (.selects "PixelSnapperModel" y_M_clear y_M_clear : Cond) ∈ gw := gw_in (List.mem_of_getElem? (i := 749) (by decide +kernel)) (by decide +kernel)
theorem wd_750 : (.code y_M_clear c_M_clear 2 (some .int) : Cond) ∈ gw := gw_in (List.mem_of_getElem? (i := 750) (by decide +kernel)) (by decide +kernel)
theorem wd_751 : (.methodLink "PixelSnapperLaw" 71 y_M_meets : Cond) ∈ gw := gw_in (List.mem_of_getElem? (i := 751) (by decide +kernel)) (by decide +kernel)
theorem wd_752 : (.instanceMethod y_M_meets : Cond) ∈ gw := gw_in (List.mem_of_getElem? (i := 752) (by decide +kernel)) (by decide +kernel)
theorem wd_753 : (.selects "PixelSnapperModel" y_M_meets y_M_meets : Cond) ∈ gw := gw_in (List.mem_of_getElem? (i := 753) (by decide +kernel)) (by decide +kernel)
theorem wd_754 : (.code y_M_meets c_M_meets 4 (some .boolean) : Cond) ∈ gw := gw_in (List.mem_of_getElem? (i := 754) (by decide +kernel)) (by decide +kernel)
theorem wd_755 : (.methodLink "PixelSnapperModel" 116 y_M_isSegment : Cond) ∈ gw := gw_in (List.mem_of_getElem? (i := 755) (by decide +kernel)) (by decide +kernel)
theorem wd_757 : (.instanceMethod y_M_isSegment : Cond) ∈ gw := gw_in (List.mem_of_getElem? (i := 757) (by decide +kernel)) (by decide +kernel)
theorem wd_758 : (.code y_M_isSegment c_M_isSegment 2 (some .boolean) : Cond) ∈ gw := gw_in (List.mem_of_getElem? (i := 758) (by decide +kernel)) (by decide +kernel)
theorem wd_759 : (.methodLink "PixelSnapperModel" 119 y_M_isIn : Cond) ∈ gw := gw_in (List.mem_of_getElem? (i := 759) (by decide +kernel)) (by decide +kernel)
theorem wd_761 : (.instanceMethod y_M_isIn : Cond) ∈ gw := gw_in (List.mem_of_getElem? (i := 761) (by decide +kernel)) (by decide +kernel)
theorem wd_762 : (.code y_M_isIn c_M_isIn 7 (some .boolean) : Cond) ∈ gw := gw_in (List.mem_of_getElem? (i := 762) (by decide +kernel)) (by decide +kernel)
theorem wd_763 : (.constantLong "PixelSnapperModel" 103 (2 : Int64) : Cond) ∈ gw := gw_in (List.mem_of_getElem? (i := 763) (by decide +kernel)) (by decide +kernel)
theorem wd_764 : (.methodLink "PixelSnapperModel" 112 y_M_along : Cond) ∈ gw := gw_in (List.mem_of_getElem? (i := 764) (by decide +kernel)) (by decide +kernel)
theorem wd_766 : (.instanceMethod y_M_along : Cond) ∈ gw := gw_in (List.mem_of_getElem? (i := 766) (by decide +kernel)) (by decide +kernel)
theorem wd_767 : (.code y_M_along c_M_along 7 (some .boolean) : Cond) ∈ gw := gw_in (List.mem_of_getElem? (i := 767) (by decide +kernel)) (by decide +kernel)
theorem wd_768 : (.methodLink "PixelSnapperModel" 105 y_M_raise : Cond) ∈ gw := gw_in (List.mem_of_getElem? (i := 768) (by decide +kernel)) (by decide +kernel)
theorem wd_770 : (.instanceMethod y_M_raise : Cond) ∈ gw := gw_in (List.mem_of_getElem? (i := 770) (by decide +kernel)) (by decide +kernel)
theorem wd_771 : (.code y_M_raise c_M_raise 7 none : Cond) ∈ gw := gw_in (List.mem_of_getElem? (i := 771) (by decide +kernel)) (by decide +kernel)
theorem wd_772 : (.methodLink "PixelSnapperModel" 87 y_M_compare : Cond) ∈ gw := gw_in (List.mem_of_getElem? (i := 772) (by decide +kernel)) (by decide +kernel)
theorem wd_773 : (.static y_M_compare : Cond) ∈ gw := gw_in (List.mem_of_getElem? (i := 773) (by decide +kernel)) (by decide +kernel)
theorem wd_774 : (.code y_M_compare c_M_compare 12 (some .int) : Cond) ∈ gw := gw_in (List.mem_of_getElem? (i := 774) (by decide +kernel)) (by decide +kernel)
theorem wd_775 : (.methodLink "PixelSnapperModel" 109 y_M_reduce : Cond) ∈ gw := gw_in (List.mem_of_getElem? (i := 775) (by decide +kernel)) (by decide +kernel)
theorem wd_777 : (.instanceMethod y_M_reduce : Cond) ∈ gw := gw_in (List.mem_of_getElem? (i := 777) (by decide +kernel)) (by decide +kernel)
theorem wd_778 : (.code y_M_reduce c_M_reduce 7 none : Cond) ∈ gw := gw_in (List.mem_of_getElem? (i := 778) (by decide +kernel)) (by decide +kernel)
theorem wd_779 : (.methodLink "PixelSnapperLaw" 74 y_M_crossing : Cond) ∈ gw := gw_in (List.mem_of_getElem? (i := 779) (by decide +kernel)) (by decide +kernel)
theorem wd_780 : (.instanceMethod y_M_crossing : Cond) ∈ gw := gw_in (List.mem_of_getElem? (i := 780) (by decide +kernel)) (by decide +kernel)
theorem wd_781 : (.selects "PixelSnapperModel" y_M_crossing y_M_crossing : Cond) ∈ gw := gw_in (List.mem_of_getElem? (i := 781) (by decide +kernel)) (by decide +kernel)
theorem wd_782 : (.code y_M_crossing c_M_crossing 4 (some .int) : Cond) ∈ gw := gw_in (List.mem_of_getElem? (i := 782) (by decide +kernel)) (by decide +kernel)
theorem wd_783 : (.methodLink "PixelSnapperModel" 136 y_M_cross : Cond) ∈ gw := gw_in (List.mem_of_getElem? (i := 783) (by decide +kernel)) (by decide +kernel)
theorem wd_785 : (.instanceMethod y_M_cross : Cond) ∈ gw := gw_in (List.mem_of_getElem? (i := 785) (by decide +kernel)) (by decide +kernel)
theorem wd_786 : (.code y_M_cross c_M_cross 21 (some .boolean) : Cond) ∈ gw := gw_in (List.mem_of_getElem? (i := 786) (by decide +kernel)) (by decide +kernel)
theorem wd_787 : (.methodLink "PixelSnapperModel" 122 y_M_end : Cond) ∈ gw := gw_in (List.mem_of_getElem? (i := 787) (by decide +kernel)) (by decide +kernel)
theorem wd_789 : (.instanceMethod y_M_end : Cond) ∈ gw := gw_in (List.mem_of_getElem? (i := 789) (by decide +kernel)) (by decide +kernel)
theorem wd_790 : (.code y_M_end c_M_end 3 (some .long) : Cond) ∈ gw := gw_in (List.mem_of_getElem? (i := 790) (by decide +kernel)) (by decide +kernel)
theorem wd_791 : (.methodLink "PixelSnapperModel" 126 y_M_rounded : Cond) ∈ gw := gw_in (List.mem_of_getElem? (i := 791) (by decide +kernel)) (by decide +kernel)
theorem wd_792 : (.static y_M_rounded : Cond) ∈ gw := gw_in (List.mem_of_getElem? (i := 792) (by decide +kernel)) (by decide +kernel)
theorem wd_793 : (.code y_M_rounded c_M_rounded 13 (some .long) : Cond) ∈ gw := gw_in (List.mem_of_getElem? (i := 793) (by decide +kernel)) (by decide +kernel)
theorem wd_794 : (.methodLink "PixelSnapperLaw" 67 y_M_snap : Cond) ∈ gw := gw_in (List.mem_of_getElem? (i := 794) (by decide +kernel)) (by decide +kernel)
theorem wd_795 : (.instanceMethod y_M_snap : Cond) ∈ gw := gw_in (List.mem_of_getElem? (i := 795) (by decide +kernel)) (by decide +kernel)
theorem wd_796 : (.selects "PixelSnapperModel" y_M_snap y_M_snap : Cond) ∈ gw := gw_in (List.mem_of_getElem? (i := 796) (by decide +kernel)) (by decide +kernel)
theorem wd_797 : (.code y_M_snap c_M_snap 5 (some .int) : Cond) ∈ gw := gw_in (List.mem_of_getElem? (i := 797) (by decide +kernel)) (by decide +kernel)
theorem wd_798 : (.methodLink "PixelSnapperModel" 150 y_M_heatAll : Cond) ∈ gw := gw_in (List.mem_of_getElem? (i := 798) (by decide +kernel)) (by decide +kernel)
theorem wd_800 : (.instanceMethod y_M_heatAll : Cond) ∈ gw := gw_in (List.mem_of_getElem? (i := 800) (by decide +kernel)) (by decide +kernel)
theorem wd_801 : (.code y_M_heatAll c_M_heatAll 4 (some .boolean) : Cond) ∈ gw := gw_in (List.mem_of_getElem? (i := 801) (by decide +kernel)) (by decide +kernel)
theorem wd_802 : (.methodLink "PixelSnapperModel" 143 y_M_heat : Cond) ∈ gw := gw_in (List.mem_of_getElem? (i := 802) (by decide +kernel)) (by decide +kernel)
theorem wd_804 : (.instanceMethod y_M_heat : Cond) ∈ gw := gw_in (List.mem_of_getElem? (i := 804) (by decide +kernel)) (by decide +kernel)
theorem wd_805 : (.code y_M_heat c_M_heat 6 (some .boolean) : Cond) ∈ gw := gw_in (List.mem_of_getElem? (i := 805) (by decide +kernel)) (by decide +kernel)
theorem wd_806 : (.methodLink "PixelSnapperModel" 140 y_M_isBefore : Cond) ∈ gw := gw_in (List.mem_of_getElem? (i := 806) (by decide +kernel)) (by decide +kernel)
theorem wd_808 : (.instanceMethod y_M_isBefore : Cond) ∈ gw := gw_in (List.mem_of_getElem? (i := 808) (by decide +kernel)) (by decide +kernel)
theorem wd_809 : (.code y_M_isBefore c_M_isBefore 4 (some .boolean) : Cond) ∈ gw := gw_in (List.mem_of_getElem? (i := 809) (by decide +kernel)) (by decide +kernel)
theorem wd_810 : (.methodLink "PixelSnapperModel" 154 y_M_chainAll : Cond) ∈ gw := gw_in (List.mem_of_getElem? (i := 810) (by decide +kernel)) (by decide +kernel)
theorem wd_812 : (.instanceMethod y_M_chainAll : Cond) ∈ gw := gw_in (List.mem_of_getElem? (i := 812) (by decide +kernel)) (by decide +kernel)
theorem wd_813 : (.code y_M_chainAll c_M_chainAll 5 (some .boolean) : Cond) ∈ gw := gw_in (List.mem_of_getElem? (i := 813) (by decide +kernel)) (by decide +kernel)
theorem wd_814 : (.methodLink "PixelSnapperModel" 146 y_M_insert : Cond) ∈ gw := gw_in (List.mem_of_getElem? (i := 814) (by decide +kernel)) (by decide +kernel)
theorem wd_816 : (.instanceMethod y_M_insert : Cond) ∈ gw := gw_in (List.mem_of_getElem? (i := 816) (by decide +kernel)) (by decide +kernel)
theorem wd_817 : (.code y_M_insert c_M_insert 7 none : Cond) ∈ gw := gw_in (List.mem_of_getElem? (i := 817) (by decide +kernel)) (by decide +kernel)
theorem wd_818 : (.methodLink "PixelSnapperModel" 157 y_M_gather : Cond) ∈ gw := gw_in (List.mem_of_getElem? (i := 818) (by decide +kernel)) (by decide +kernel)
theorem wd_820 : (.instanceMethod y_M_gather : Cond) ∈ gw := gw_in (List.mem_of_getElem? (i := 820) (by decide +kernel)) (by decide +kernel)
theorem wd_821 : (.code y_M_gather c_M_gather 6 none : Cond) ∈ gw := gw_in (List.mem_of_getElem? (i := 821) (by decide +kernel)) (by decide +kernel)
theorem wd_822 : (.methodLink "PixelSnapperLaw" 78 y_M_pixel : Cond) ∈ gw := gw_in (List.mem_of_getElem? (i := 822) (by decide +kernel)) (by decide +kernel)
theorem wd_823 : (.instanceMethod y_M_pixel : Cond) ∈ gw := gw_in (List.mem_of_getElem? (i := 823) (by decide +kernel)) (by decide +kernel)
theorem wd_824 : (.selects "PixelSnapperModel" y_M_pixel y_M_pixel : Cond) ∈ gw := gw_in (List.mem_of_getElem? (i := 824) (by decide +kernel)) (by decide +kernel)
theorem wd_825 : (.code y_M_pixel c_M_pixel 3 (some .int) : Cond) ∈ gw := gw_in (List.mem_of_getElem? (i := 825) (by decide +kernel)) (by decide +kernel)
theorem wd_826 : (.methodLink "PixelSnapperLaw" 82 y_M_chain : Cond) ∈ gw := gw_in (List.mem_of_getElem? (i := 826) (by decide +kernel)) (by decide +kernel)
theorem wd_827 : (.instanceMethod y_M_chain : Cond) ∈ gw := gw_in (List.mem_of_getElem? (i := 827) (by decide +kernel)) (by decide +kernel)
theorem wd_828 : (.selects "PixelSnapperModel" y_M_chain y_M_chain : Cond) ∈ gw := gw_in (List.mem_of_getElem? (i := 828) (by decide +kernel)) (by decide +kernel)
theorem wd_829 : (.code y_M_chain c_M_chain 2 (some .int) : Cond) ∈ gw := gw_in (List.mem_of_getElem? (i := 829) (by decide +kernel)) (by decide +kernel)
theorem wd_830 : (.methodLink "PixelSnapperLaw" 85 y_M_chainAt : Cond) ∈ gw := gw_in (List.mem_of_getElem? (i := 830) (by decide +kernel)) (by decide +kernel)
theorem wd_831 : (.instanceMethod y_M_chainAt : Cond) ∈ gw := gw_in (List.mem_of_getElem? (i := 831) (by decide +kernel)) (by decide +kernel)
theorem wd_832 : (.selects "PixelSnapperModel" y_M_chainAt y_M_chainAt : Cond) ∈ gw := gw_in (List.mem_of_getElem? (i := 832) (by decide +kernel)) (by decide +kernel)
theorem wd_833 : (.code y_M_chainAt c_M_chainAt 3 (some .int) : Cond) ∈ gw := gw_in (List.mem_of_getElem? (i := 833) (by decide +kernel)) (by decide +kernel)
theorem wd_834 : (.methodLink "PixelSnapperLaw" 88 y_M_piece : Cond) ∈ gw := gw_in (List.mem_of_getElem? (i := 834) (by decide +kernel)) (by decide +kernel)
theorem wd_835 : (.instanceMethod y_M_piece : Cond) ∈ gw := gw_in (List.mem_of_getElem? (i := 835) (by decide +kernel)) (by decide +kernel)
theorem wd_836 : (.selects "PixelSnapperModel" y_M_piece y_M_piece : Cond) ∈ gw := gw_in (List.mem_of_getElem? (i := 836) (by decide +kernel)) (by decide +kernel)
theorem wd_837 : (.code y_M_piece c_M_piece 3 (some .int) : Cond) ∈ gw := gw_in (List.mem_of_getElem? (i := 837) (by decide +kernel)) (by decide +kernel)
theorem wd_838 : (.methodLink "PixelSnapperLaw" 92 y_M_count : Cond) ∈ gw := gw_in (List.mem_of_getElem? (i := 838) (by decide +kernel)) (by decide +kernel)
theorem wd_839 : (.instanceMethod y_M_count : Cond) ∈ gw := gw_in (List.mem_of_getElem? (i := 839) (by decide +kernel)) (by decide +kernel)
theorem wd_840 : (.selects "PixelSnapperModel" y_M_count y_M_count : Cond) ∈ gw := gw_in (List.mem_of_getElem? (i := 840) (by decide +kernel)) (by decide +kernel)
theorem wd_841 : (.code y_M_count c_M_count 2 (some .int) : Cond) ∈ gw := gw_in (List.mem_of_getElem? (i := 841) (by decide +kernel)) (by decide +kernel)
theorem wd_842 : (.sameMethod "java/lang/Throwable" "java/lang/Throwable" "fillInStackTrace" "(I)Ljava/lang/Throwable;" : Cond) ∈ gw := gw_in (List.mem_of_getElem? (i := 842) (by decide +kernel)) (by decide +kernel)
theorem wd_844 : (.sameMethod "[Ljava/lang/Object;" "java/lang/Object" "getClass" "()Ljava/lang/Class;" : Cond) ∈ gw := gw_in (List.mem_of_getElem? (i := 844) (by decide +kernel)) (by decide +kernel)
theorem wd_845 : (.selects "[Ljava/lang/Object;" y_J_getClass y_J_getClass : Cond) ∈ gw := gw_in (List.mem_of_getElem? (i := 845) (by decide +kernel)) (by decide +kernel)
theorem in_R : ∀ w ∈ u_ws K_R F_R 3, w ∈ gw := by
  have h : ∀ k, k < 3 → u_lay K_R F_R k ∈ lw_tbl ∧ goodWord (u_lay K_R F_R k) = true := by decide +kernel
  intro w hw
  obtain ⟨k, hk, rfl⟩ := List.mem_map.mp hw
  exact gw_in (h k (List.mem_range.mp hk)).1 (h k (List.mem_range.mp hk)).2
theorem in_S : ∀ w ∈ u_ws K_S F_S 10, w ∈ gw := by
  have h : ∀ k, k < 10 → u_lay K_S F_S k ∈ lw_tbl ∧ goodWord (u_lay K_S F_S k) = true := by decide +kernel
  intro w hw
  obtain ⟨k, hk, rfl⟩ := List.mem_map.mp hw
  exact gw_in (h k (List.mem_range.mp hk)).1 (h k (List.mem_range.mp hk)).2
theorem in_P : ∀ w ∈ u_ws K_P F_P 7, w ∈ gw := by
  have h : ∀ k, k < 7 → u_lay K_P F_P k ∈ lw_tbl ∧ goodWord (u_lay K_P F_P k) = true := by decide +kernel
  intro w hw
  obtain ⟨k, hk, rfl⟩ := List.mem_map.mp hw
  exact gw_in (h k (List.mem_range.mp hk)).1 (h k (List.mem_range.mp hk)).2
theorem in_M : ∀ w ∈ u_ws K_M F_M 24, w ∈ gw := by
  have h : ∀ k, k < 24 → u_lay K_M F_M k ∈ lw_tbl ∧ goodWord (u_lay K_M F_M k) = true := by decide +kernel
  intro w hw
  obtain ⟨k, hk, rfl⟩ := List.mem_map.mp hw
  exact gw_in (h k (List.mem_range.mp hk)).1 (h k (List.mem_range.mp hk)).2
theorem in_A : ∀ w ∈ u_ws K_A F_A 3, w ∈ gw := by
  have h : ∀ k, k < 3 → u_lay K_A F_A k ∈ lw_tbl ∧ goodWord (u_lay K_A F_A k) = true := by decide +kernel
  intro w hw
  obtain ⟨k, hk, rfl⟩ := List.mem_map.mp hw
  exact gw_in (h k (List.mem_range.mp hk)).1 (h k (List.mem_range.mp hk)).2
