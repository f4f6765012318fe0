theorem d_P_keyOf_0 : decode c_P_keyOf 0 = .ok (.lload_n 0, 1) := by decide +kernel
theorem d_P_keyOf_1 : decode c_P_keyOf 1 = .ok (.ldc2_w 153, 3) := by decide +kernel
theorem d_P_keyOf_4 : decode c_P_keyOf 4 = .ok (.ladd, 1) := by decide +kernel
theorem d_P_keyOf_5 : decode c_P_keyOf 5 = .ok (.bipush 30, 2) := by decide +kernel
theorem d_P_keyOf_7 : decode c_P_keyOf 7 = .ok (.lshl, 1) := by decide +kernel
theorem d_P_keyOf_8 : decode c_P_keyOf 8 = .ok (.lload_n 2, 1) := by decide +kernel
theorem d_P_keyOf_9 : decode c_P_keyOf 9 = .ok (.ldc2_w 153, 3) := by decide +kernel
theorem d_P_keyOf_12 : decode c_P_keyOf 12 = .ok (.ladd, 1) := by decide +kernel
theorem d_P_keyOf_13 : decode c_P_keyOf 13 = .ok (.lor, 1) := by decide +kernel
theorem d_P_keyOf_14 : decode c_P_keyOf 14 = .ok (.lreturn, 1) := by decide +kernel
theorem d_P_keyPart_0 : decode c_P_keyPart 0 = .ok (.iload_n 2, 1) := by decide +kernel
theorem d_P_keyPart_1 : decode c_P_keyPart 1 = .ok (.ifCond .ne 10, 3) := by decide +kernel
theorem d_P_keyPart_4 : decode c_P_keyPart 4 = .ok (.lload_n 0, 1) := by decide +kernel
theorem d_P_keyPart_5 : decode c_P_keyPart 5 = .ok (.invokestatic 157, 3) := by decide +kernel
theorem d_P_keyPart_8 : decode c_P_keyPart 8 = .ok (.goto 7, 3) := by decide +kernel
theorem d_P_keyPart_11 : decode c_P_keyPart 11 = .ok (.lload_n 0, 1) := by decide +kernel
theorem d_P_keyPart_12 : decode c_P_keyPart 12 = .ok (.invokestatic 161, 3) := by decide +kernel
theorem d_P_keyPart_15 : decode c_P_keyPart 15 = .ok (.l2i, 1) := by decide +kernel
theorem d_P_keyPart_16 : decode c_P_keyPart 16 = .ok (.ireturn, 1) := by decide +kernel
theorem d_P_keyX_0 : decode c_P_keyX 0 = .ok (.lload_n 0, 1) := by decide +kernel
theorem d_P_keyX_1 : decode c_P_keyX 1 = .ok (.bipush 30, 2) := by decide +kernel
theorem d_P_keyX_3 : decode c_P_keyX 3 = .ok (.lshr, 1) := by decide +kernel
theorem d_P_keyX_4 : decode c_P_keyX 4 = .ok (.ldc2_w 153, 3) := by decide +kernel
theorem d_P_keyX_7 : decode c_P_keyX 7 = .ok (.lsub, 1) := by decide +kernel
theorem d_P_keyX_8 : decode c_P_keyX 8 = .ok (.lreturn, 1) := by decide +kernel
theorem d_P_keyY_0 : decode c_P_keyY 0 = .ok (.lload_n 0, 1) := by decide +kernel
theorem d_P_keyY_1 : decode c_P_keyY 1 = .ok (.ldc2_w 155, 3) := by decide +kernel
theorem d_P_keyY_4 : decode c_P_keyY 4 = .ok (.land, 1) := by decide +kernel
theorem d_P_keyY_5 : decode c_P_keyY 5 = .ok (.ldc2_w 153, 3) := by decide +kernel
theorem d_P_keyY_8 : decode c_P_keyY 8 = .ok (.lsub, 1) := by decide +kernel
theorem d_P_keyY_9 : decode c_P_keyY 9 = .ok (.lreturn, 1) := by decide +kernel
theorem d_S_fromKey_0 : decode c_S_fromKey 0 = .ok (.aload_n 0, 1) := by decide +kernel
theorem d_S_fromKey_1 : decode c_S_fromKey 1 = .ok (.getfield 9, 3) := by decide +kernel
theorem d_S_fromKey_4 : decode c_S_fromKey 4 = .ok (.aload_n 0, 1) := by decide +kernel
theorem d_S_fromKey_5 : decode c_S_fromKey 5 = .ok (.getfield 15, 3) := by decide +kernel
theorem d_S_fromKey_8 : decode c_S_fromKey 8 = .ok (.invokestatic 51, 3) := by decide +kernel
theorem d_S_fromKey_11 : decode c_S_fromKey 11 = .ok (.lreturn, 1) := by decide +kernel
theorem d_S_goesDown_0 : decode c_S_goesDown 0 = .ok (.aload_n 0, 1) := by decide +kernel
theorem d_S_goesDown_1 : decode c_S_goesDown 1 = .ok (.getfield 27, 3) := by decide +kernel
theorem d_S_goesDown_4 : decode c_S_goesDown 4 = .ok (.lconst 0, 1) := by decide +kernel
theorem d_S_goesDown_5 : decode c_S_goesDown 5 = .ok (.lcmp, 1) := by decide +kernel
theorem d_S_goesDown_6 : decode c_S_goesDown 6 = .ok (.ifCond .ge 7, 3) := by decide +kernel
theorem d_S_goesDown_9 : decode c_S_goesDown 9 = .ok (.iconst 1, 1) := by decide +kernel
theorem d_S_goesDown_10 : decode c_S_goesDown 10 = .ok (.goto 4, 3) := by decide +kernel
theorem d_S_goesDown_13 : decode c_S_goesDown 13 = .ok (.iconst 0, 1) := by decide +kernel
theorem d_S_goesDown_14 : decode c_S_goesDown 14 = .ok (.ireturn, 1) := by decide +kernel
theorem d_S_goesLeft_0 : decode c_S_goesLeft 0 = .ok (.aload_n 0, 1) := by decide +kernel
theorem d_S_goesLeft_1 : decode c_S_goesLeft 1 = .ok (.getfield 24, 3) := by decide +kernel
theorem d_S_goesLeft_4 : decode c_S_goesLeft 4 = .ok (.lconst 0, 1) := by decide +kernel
theorem d_S_goesLeft_5 : decode c_S_goesLeft 5 = .ok (.lcmp, 1) := by decide +kernel
theorem d_S_goesLeft_6 : decode c_S_goesLeft 6 = .ok (.ifCond .ge 7, 3) := by decide +kernel
theorem d_S_goesLeft_9 : decode c_S_goesLeft 9 = .ok (.iconst 1, 1) := by decide +kernel
theorem d_S_goesLeft_10 : decode c_S_goesLeft 10 = .ok (.goto 4, 3) := by decide +kernel
theorem d_S_goesLeft_13 : decode c_S_goesLeft 13 = .ok (.iconst 0, 1) := by decide +kernel
theorem d_S_goesLeft_14 : decode c_S_goesLeft 14 = .ok (.ireturn, 1) := by decide +kernel
theorem d_S_init_0 : decode c_S_init 0 = .ok (.aload_n 0, 1) := by decide +kernel
theorem d_S_init_1 : decode c_S_init 1 = .ok (.invokespecial 3, 3) := by decide +kernel
theorem d_S_init_4 : decode c_S_init 4 = .ok (.aload_n 0, 1) := by decide +kernel
theorem d_S_init_5 : decode c_S_init 5 = .ok (.iload_n 1, 1) := by decide +kernel
theorem d_S_init_6 : decode c_S_init 6 = .ok (.i2l, 1) := by decide +kernel
theorem d_S_init_7 : decode c_S_init 7 = .ok (.putfield 9, 3) := by decide +kernel
theorem d_S_init_10 : decode c_S_init 10 = .ok (.aload_n 0, 1) := by decide +kernel
theorem d_S_init_11 : decode c_S_init 11 = .ok (.iload_n 2, 1) := by decide +kernel
theorem d_S_init_12 : decode c_S_init 12 = .ok (.i2l, 1) := by decide +kernel
theorem d_S_init_13 : decode c_S_init 13 = .ok (.putfield 15, 3) := by decide +kernel
theorem d_S_init_16 : decode c_S_init 16 = .ok (.aload_n 0, 1) := by decide +kernel
theorem d_S_init_17 : decode c_S_init 17 = .ok (.iload_n 3, 1) := by decide +kernel
theorem d_S_init_18 : decode c_S_init 18 = .ok (.i2l, 1) := by decide +kernel
theorem d_S_init_19 : decode c_S_init 19 = .ok (.putfield 18, 3) := by decide +kernel
theorem d_S_init_22 : decode c_S_init 22 = .ok (.aload_n 0, 1) := by decide +kernel
theorem d_S_init_23 : decode c_S_init 23 = .ok (.iload 4, 2) := by decide +kernel
theorem d_S_init_25 : decode c_S_init 25 = .ok (.i2l, 1) := by decide +kernel
theorem d_S_init_26 : decode c_S_init 26 = .ok (.putfield 21, 3) := by decide +kernel
theorem d_S_init_29 : decode c_S_init 29 = .ok (.aload_n 0, 1) := by decide +kernel
theorem d_S_init_30 : decode c_S_init 30 = .ok (.aload_n 0, 1) := by decide +kernel
theorem d_S_init_31 : decode c_S_init 31 = .ok (.getfield 18, 3) := by decide +kernel
theorem d_S_init_34 : decode c_S_init 34 = .ok (.aload_n 0, 1) := by decide +kernel
theorem d_S_init_35 : decode c_S_init 35 = .ok (.getfield 9, 3) := by decide +kernel
theorem d_S_init_38 : decode c_S_init 38 = .ok (.lsub, 1) := by decide +kernel
theorem d_S_init_39 : decode c_S_init 39 = .ok (.putfield 24, 3) := by decide +kernel
theorem d_S_init_42 : decode c_S_init 42 = .ok (.aload_n 0, 1) := by decide +kernel
theorem d_S_init_43 : decode c_S_init 43 = .ok (.aload_n 0, 1) := by decide +kernel
theorem d_S_init_44 : decode c_S_init 44 = .ok (.getfield 21, 3) := by decide +kernel
theorem d_S_init_47 : decode c_S_init 47 = .ok (.aload_n 0, 1) := by decide +kernel
theorem d_S_init_48 : decode c_S_init 48 = .ok (.getfield 15, 3) := by decide +kernel
theorem d_S_init_51 : decode c_S_init 51 = .ok (.lsub, 1) := by decide +kernel
theorem d_S_init_52 : decode c_S_init 52 = .ok (.putfield 27, 3) := by decide +kernel
theorem d_S_init_55 : decode c_S_init 55 = .ok (.aload_n 0, 1) := by decide +kernel
theorem d_S_init_56 : decode c_S_init 56 = .ok (.aload_n 0, 1) := by decide +kernel
theorem d_S_init_57 : decode c_S_init 57 = .ok (.getfield 9, 3) := by decide +kernel
theorem d_S_init_60 : decode c_S_init 60 = .ok (.aload_n 0, 1) := by decide +kernel
theorem d_S_init_61 : decode c_S_init 61 = .ok (.getfield 18, 3) := by decide +kernel
theorem d_S_init_64 : decode c_S_init 64 = .ok (.invokestatic 30, 3) := by decide +kernel
theorem d_S_init_67 : decode c_S_init 67 = .ok (.putfield 36, 3) := by decide +kernel
theorem d_S_init_70 : decode c_S_init 70 = .ok (.aload_n 0, 1) := by decide +kernel
theorem d_S_init_71 : decode c_S_init 71 = .ok (.aload_n 0, 1) := by decide +kernel
theorem d_S_init_72 : decode c_S_init 72 = .ok (.getfield 15, 3) := by decide +kernel
theorem d_S_init_75 : decode c_S_init 75 = .ok (.aload_n 0, 1) := by decide +kernel
theorem d_S_init_76 : decode c_S_init 76 = .ok (.getfield 21, 3) := by decide +kernel
theorem d_S_init_79 : decode c_S_init 79 = .ok (.invokestatic 30, 3) := by decide +kernel
theorem d_S_init_82 : decode c_S_init 82 = .ok (.putfield 39, 3) := by decide +kernel
theorem d_S_init_85 : decode c_S_init 85 = .ok (.aload_n 0, 1) := by decide +kernel
theorem d_S_init_86 : decode c_S_init 86 = .ok (.aload_n 0, 1) := by decide +kernel
theorem d_S_init_87 : decode c_S_init 87 = .ok (.getfield 9, 3) := by decide +kernel
theorem d_S_init_90 : decode c_S_init 90 = .ok (.aload_n 0, 1) := by decide +kernel
theorem d_S_init_91 : decode c_S_init 91 = .ok (.getfield 18, 3) := by decide +kernel
theorem d_S_init_94 : decode c_S_init 94 = .ok (.invokestatic 42, 3) := by decide +kernel
theorem d_S_init_97 : decode c_S_init 97 = .ok (.putfield 45, 3) := by decide +kernel
theorem d_S_init_100 : decode c_S_init 100 = .ok (.aload_n 0, 1) := by decide +kernel
theorem d_S_init_101 : decode c_S_init 101 = .ok (.aload_n 0, 1) := by decide +kernel
theorem d_S_init_102 : decode c_S_init 102 = .ok (.getfield 15, 3) := by decide +kernel
theorem d_S_init_105 : decode c_S_init 105 = .ok (.aload_n 0, 1) := by decide +kernel
theorem d_S_init_106 : decode c_S_init 106 = .ok (.getfield 21, 3) := by decide +kernel
theorem d_S_init_109 : decode c_S_init 109 = .ok (.invokestatic 42, 3) := by decide +kernel
theorem d_S_init_112 : decode c_S_init 112 = .ok (.putfield 48, 3) := by decide +kernel
theorem d_S_init_115 : decode c_S_init 115 = .ok (.return_, 1) := by decide +kernel
theorem d_S_leastKey_0 : decode c_S_leastKey 0 = .ok (.aload_n 0, 1) := by decide +kernel
theorem d_S_leastKey_1 : decode c_S_leastKey 1 = .ok (.getfield 36, 3) := by decide +kernel
theorem d_S_leastKey_4 : decode c_S_leastKey 4 = .ok (.aload_n 0, 1) := by decide +kernel
theorem d_S_leastKey_5 : decode c_S_leastKey 5 = .ok (.getfield 39, 3) := by decide +kernel
theorem d_S_leastKey_8 : decode c_S_leastKey 8 = .ok (.invokestatic 51, 3) := by decide +kernel
theorem d_S_leastKey_11 : decode c_S_leastKey 11 = .ok (.lreturn, 1) := by decide +kernel
theorem d_S_mostKey_0 : decode c_S_mostKey 0 = .ok (.aload_n 0, 1) := by decide +kernel
theorem d_S_mostKey_1 : decode c_S_mostKey 1 = .ok (.getfield 45, 3) := by decide +kernel
theorem d_S_mostKey_4 : decode c_S_mostKey 4 = .ok (.aload_n 0, 1) := by decide +kernel
theorem d_S_mostKey_5 : decode c_S_mostKey 5 = .ok (.getfield 48, 3) := by decide +kernel
theorem d_S_mostKey_8 : decode c_S_mostKey 8 = .ok (.invokestatic 51, 3) := by decide +kernel
theorem d_S_mostKey_11 : decode c_S_mostKey 11 = .ok (.lreturn, 1) := by decide +kernel
theorem d_S_sideOf_0 : decode c_S_sideOf 0 = .ok (.aload_n 0, 1) := by decide +kernel
theorem d_S_sideOf_1 : decode c_S_sideOf 1 = .ok (.getfield 24, 3) := by decide +kernel
theorem d_S_sideOf_4 : decode c_S_sideOf 4 = .ok (.lload_n 3, 1) := by decide +kernel
theorem d_S_sideOf_5 : decode c_S_sideOf 5 = .ok (.aload_n 0, 1) := by decide +kernel
theorem d_S_sideOf_6 : decode c_S_sideOf 6 = .ok (.getfield 15, 3) := by decide +kernel
theorem d_S_sideOf_9 : decode c_S_sideOf 9 = .ok (.lsub, 1) := by decide +kernel
theorem d_S_sideOf_10 : decode c_S_sideOf 10 = .ok (.lmul, 1) := by decide +kernel
theorem d_S_sideOf_11 : decode c_S_sideOf 11 = .ok (.aload_n 0, 1) := by decide +kernel
theorem d_S_sideOf_12 : decode c_S_sideOf 12 = .ok (.getfield 27, 3) := by decide +kernel
theorem d_S_sideOf_15 : decode c_S_sideOf 15 = .ok (.lload_n 1, 1) := by decide +kernel
theorem d_S_sideOf_16 : decode c_S_sideOf 16 = .ok (.aload_n 0, 1) := by decide +kernel
theorem d_S_sideOf_17 : decode c_S_sideOf 17 = .ok (.getfield 9, 3) := by decide +kernel
theorem d_S_sideOf_20 : decode c_S_sideOf 20 = .ok (.lsub, 1) := by decide +kernel
theorem d_S_sideOf_21 : decode c_S_sideOf 21 = .ok (.lmul, 1) := by decide +kernel
theorem d_S_sideOf_22 : decode c_S_sideOf 22 = .ok (.lsub, 1) := by decide +kernel
theorem d_S_sideOf_23 : decode c_S_sideOf 23 = .ok (.lreturn, 1) := by decide +kernel
theorem d_S_toKey_0 : decode c_S_toKey 0 = .ok (.aload_n 0, 1) := by decide +kernel
theorem d_S_toKey_1 : decode c_S_toKey 1 = .ok (.getfield 18, 3) := by decide +kernel
theorem d_S_toKey_4 : decode c_S_toKey 4 = .ok (.aload_n 0, 1) := by decide +kernel
theorem d_S_toKey_5 : decode c_S_toKey 5 = .ok (.getfield 21, 3) := by decide +kernel
theorem d_S_toKey_8 : decode c_S_toKey 8 = .ok (.invokestatic 51, 3) := by decide +kernel
theorem d_S_toKey_11 : decode c_S_toKey 11 = .ok (.lreturn, 1) := by decide +kernel
theorem run_of {p : Program} {l : Launch} {e : Env} {R : Room} {s : State} {m : MethodId} {args : Array Value} {below : List Frame} {meth : Method} {c : Code} {H : Heap} {locs : List Loc} {cells slots mc ms : Nat} {g : JFrame} {rest : List Value} {Qa : State → Outcome → State → Prop} {free : Addr → Prop} (h : va_Run p l e R s m args below meth c H locs cells slots mc ms g rest Qa free) : CallRun p l e R s m args below meth c H locs cells slots mc ms g rest Qa free := by
  intro T hT X
  obtain ⟨v, st, t, T', L, h1, h2, h3, h4, _, h6, h7⟩ := h T hT X
  exact ⟨v, st, t, T', L, h1, h2, h3, h4, h6, h7⟩
/-- a segment: its two ends -/
abbrev SQ : Type := Int32 × Int32 × Int32 × Int32
def sx (q : SQ) : Int64 := Int32.toInt64 q.1
def sy (q : SQ) : Int64 := Int32.toInt64 q.2.1
def su (q : SQ) : Int64 := Int32.toInt64 q.2.2.1
def sv (q : SQ) : Int64 := Int32.toInt64 q.2.2.2
def swx (q : SQ) : Int64 := su q - sx q
def swy (q : SQ) : Int64 := sv q - sy q
def slx (q : SQ) : Int64 := if su q < sx q then su q else sx q
def sly (q : SQ) : Int64 := if sv q < sy q then sv q else sy q
def smx (q : SQ) : Int64 := if su q < sx q then sx q else su q
def smy (q : SQ) : Int64 := if sv q < sy q then sy q else sv q
def sgF (q : SQ) : List Value := [.long (sx q), .long (sy q), .long (su q), .long (sv q), .long (swx q), .long (swy q), .long (slx q), .long (sly q), .long (smx q), .long (smy q)]
def sg_key (x y : Int64) : Int64 := ((x + 500000000) <<< (Int32.toInt64 30 &&& 63)) ||| (y + 500000000)
def sg_kx (k : Int64) : Int64 := (k >>> (Int32.toInt64 30 &&& 63)) - 500000000
def sg_ky (k : Int64) : Int64 := (k &&& 1073741823) - 500000000
def sg_side (q : SQ) (x y : Int64) : Int64 := swx q * (y - sy q) - swy q * (x - sx q)
set_option maxHeartbeats 4000000 in
set_option maxRecDepth 100000 in
theorem k_P_keyOf (l : Launch) (D : va_G) (E : ClassId × ClassId × ClassId × ClassId) (x y : Int64) : Met l y_P_keyOf (.code y_P_keyOf c_P_keyOf 4 (some .long) :: gw) ({ frames := 0, cells := 0, slots := 0, locals := 0 } : Room) (rP D E [] [.long x, .long y]) (vp_Sl (fun r => r = sg_key x y)) 0 0 (fun _ => False) := by
  refine rd_ofW (by decide) (Nat.le_of_ble_eq_true rfl) ?_
  intro p e s m below meth c B hP hK ls hl
  obtain ⟨hx, hb, hrt, hml, hown, hts, hG, hlocks, hin⟩ := B
  have hl : lv_has ls 4 [(0, .long x), (2, .long y)] := hl
  refine lv_lload_n hx hb d_P_keyOf_0 rfl (lv_at hl 0 rfl) ?_
  refine lv_ldc2 hx hb hown (hG _ wd_390) d_P_keyOf_1 ?_
  refine lv_ladd hx hb d_P_keyOf_4 ?_
  refine lv_bipush (v := 30) hx hb d_P_keyOf_5 (by decide) ?_
  refine lv_lshl hx hb d_P_keyOf_7 rfl ?_
  refine lv_lload_n hx hb d_P_keyOf_8 rfl (lv_at hl 1 rfl) ?_
  refine lv_ldc2 hx hb hown (hG _ wd_390) d_P_keyOf_9 ?_
  refine lv_ladd hx hb d_P_keyOf_12 ?_
  refine lv_lor hx hb d_P_keyOf_13 ?_
  exact W.lret (v := (((x + 500000000) <<< (Int32.toInt64 30 &&& 63)) ||| (y + 500000000))) hx hb hrt (fun t ht hW => ⟨(((x + 500000000) <<< (Int32.toInt64 30 &&& 63)) ||| (y + 500000000)), rfl, rfl, ht⟩) (fun q h => nomatch h) d_P_keyOf_14 hlocks
set_option maxHeartbeats 4000000 in
set_option maxRecDepth 100000 in
theorem k_P_keyX (l : Launch) (D : va_G) (E : ClassId × ClassId × ClassId × ClassId) (x : Int64) : Met l y_P_keyX (.code y_P_keyX c_P_keyX 2 (some .long) :: gw) ({ frames := 0, cells := 0, slots := 0, locals := 0 } : Room) (rP D E [] [.long x]) (vp_Sl (fun r => r = sg_kx x)) 0 0 (fun _ => False) := by
  refine rd_ofW (by decide) (Nat.le_of_ble_eq_true rfl) ?_
  intro p e s m below meth c B hP hK ls hl
  obtain ⟨hx, hb, hrt, hml, hown, hts, hG, hlocks, hin⟩ := B
  have hl : lv_has ls 2 [(0, .long x)] := hl
  refine lv_lload_n hx hb d_P_keyX_0 rfl (lv_at hl 0 rfl) ?_
  refine lv_bipush (v := 30) hx hb d_P_keyX_1 (by decide) ?_
  refine lv_lshr hx hb d_P_keyX_3 rfl ?_
  refine lv_ldc2 hx hb hown (hG _ wd_390) d_P_keyX_4 ?_
  refine lv_lsub hx hb d_P_keyX_7 ?_
  exact W.lret (v := ((x >>> (Int32.toInt64 30 &&& 63)) - 500000000)) hx hb hrt (fun t ht hW => ⟨((x >>> (Int32.toInt64 30 &&& 63)) - 500000000), rfl, rfl, ht⟩) (fun q h => nomatch h) d_P_keyX_8 hlocks
set_option maxHeartbeats 4000000 in
set_option maxRecDepth 100000 in
theorem k_P_keyY (l : Launch) (D : va_G) (E : ClassId × ClassId × ClassId × ClassId) (x : Int64) : Met l y_P_keyY (.code y_P_keyY c_P_keyY 2 (some .long) :: gw) ({ frames := 0, cells := 0, slots := 0, locals := 0 } : Room) (rP D E [] [.long x]) (vp_Sl (fun r => r = sg_ky x)) 0 0 (fun _ => False) := by
  refine rd_ofW (by decide) (Nat.le_of_ble_eq_true rfl) ?_
  intro p e s m below meth c B hP hK ls hl
  obtain ⟨hx, hb, hrt, hml, hown, hts, hG, hlocks, hin⟩ := B
  have hl : lv_has ls 2 [(0, .long x)] := hl
  refine lv_lload_n hx hb d_P_keyY_0 rfl (lv_at hl 0 rfl) ?_
  refine lv_ldc2 hx hb hown (hG _ wd_498) d_P_keyY_1 ?_
  refine lv_land hx hb d_P_keyY_4 ?_
  refine lv_ldc2 hx hb hown (hG _ wd_390) d_P_keyY_5 ?_
  refine lv_lsub hx hb d_P_keyY_8 ?_
  exact W.lret (v := ((x &&& 1073741823) - 500000000)) hx hb hrt (fun t ht hW => ⟨((x &&& 1073741823) - 500000000), rfl, rfl, ht⟩) (fun q h => nomatch h) d_P_keyY_9 hlocks
def sg_kp (k : Int64) (w : Int32) : Int32 := if w = 0 then Int64.toInt32 (sg_kx k) else Int64.toInt32 (sg_ky k)
set_option maxHeartbeats 4000000 in
set_option maxRecDepth 100000 in
theorem k_P_keyPart (l : Launch) (D : va_G) (E : ClassId × ClassId × ClassId × ClassId) (x : Int64) (k : Int32) : Met l y_P_keyPart (.code y_P_keyPart c_P_keyPart 3 (some .int) :: gw) ({ frames := 1, cells := 0, slots := 0, locals := 21 } : Room) (rP D E [] [.long x, .int k]) (vp_Si (fun r => r = sg_kp x k)) 0 0 (fun _ => False) := by
  refine rd_ofW (by decide) (Nat.le_of_ble_eq_true rfl) ?_
  intro p e s m below meth c B hP hK ls hl
  obtain ⟨hx, hb, hrt, hml, hown, hts, hG, hlocks, hin⟩ := B
  have hl : lv_has ls 3 [(0, .long x), (2, .int k)] := hl
  refine lv_iload_n hx hb d_P_keyPart_0 rfl (lv_at hl 1 rfl) ?_
  refine lv_if_ne (tgt := 11) hx hb d_P_keyPart_1 (by decide) (fun c1 => ?_) (fun c1 => ?_)
  · refine lv_lload_n hx hb d_P_keyPart_11 rfl (lv_at hl 0 rfl) ?_
    have hPc := hP.sub (ws' := []) [] rfl
    refine vp_callSl (W.runS (As := [.long x]) (rest := []) ⟨hx, hb, hml, hown, hts⟩ (k_P_keyY l D E x) (va_cwS 1 hts (gw_gs wd_495 wd_496 wd_37 wd_497) rfl rfl rfl (by decide +kernel) ⟨Nat.le_of_ble_eq_true rfl, Nat.le_of_ble_eq_true rfl⟩) (rP_S hPc hK) rfl rfl hl.1 rfl (lv_room (Nat.le_of_ble_eq_true rfl)) d_P_keyPart_12 ⟨Nat.le_of_ble_eq_true rfl, Nat.le_of_ble_eq_true rfl⟩) (fun r1 hr1 => ?_)
    refine lv_l2i hx hb d_P_keyPart_15 rfl ?_
    exact W.iret (v := (Int64.toInt32 r1)) hx hb hrt (fun t ht hW => ⟨(Int64.toInt32 r1), rfl, by rw [hr1, sg_kp, if_neg c1], ht⟩) (fun q h => nomatch h) d_P_keyPart_16 hlocks
  · refine lv_lload_n hx hb d_P_keyPart_4 rfl (lv_at hl 0 rfl) ?_
    have hPc := hP.sub (ws' := []) [] rfl
    refine vp_callSl (W.runS (As := [.long x]) (rest := []) ⟨hx, hb, hml, hown, hts⟩ (k_P_keyX l D E x) (va_cwS 1 hts (gw_gs wd_492 wd_493 wd_37 wd_494) rfl rfl rfl (by decide +kernel) ⟨Nat.le_of_ble_eq_true rfl, Nat.le_of_ble_eq_true rfl⟩) (rP_S hPc hK) rfl rfl hl.1 rfl (lv_room (Nat.le_of_ble_eq_true rfl)) d_P_keyPart_5 ⟨Nat.le_of_ble_eq_true rfl, Nat.le_of_ble_eq_true rfl⟩) (fun r1 hr1 => ?_)
    refine lv_goto (tgt := 15) hx hb d_P_keyPart_8 (by decide) ?_
    refine lv_l2i hx hb d_P_keyPart_15 rfl ?_
    exact W.iret (v := (Int64.toInt32 r1)) hx hb hrt (fun t ht hW => ⟨(Int64.toInt32 r1), rfl, by rw [hr1, sg_kp, if_pos c1], ht⟩) (fun q h => nomatch h) d_P_keyPart_16 hlocks
set_option maxHeartbeats 4000000 in
set_option maxRecDepth 100000 in
theorem k_S_init (l : Launch) (D : va_G) (E : ClassId × ClassId × ClassId × ClassId) (h0 sz : Nat) (q : SQ) : Met l y_S_init (.code y_S_init c_S_init 5 none :: gw) ({ frames := 1, cells := 0, slots := 0, locals := 30 } : Room) (wP D E [(h0, .inr (1, [.long 0, .long 0, .long 0, .long 0, .long 0, .long 0, .long 0, .long 0, .long 0, .long 0]))] sz [.ref h0, .int q.1, .int q.2.1, .int q.2.2.1, .int q.2.2.2]) (va_Qv (fun (u : Unit) => True) (wB D (fun _ => [(h0, .inr (1, sgF q))]) (va_A [(h0, .inr (1, [.long 0, .long 0, .long 0, .long 0, .long 0, .long 0, .long 0, .long 0, .long 0, .long 0]))] sz)) (va_A [(h0, .inr (1, [.long 0, .long 0, .long 0, .long 0, .long 0, .long 0, .long 0, .long 0, .long 0, .long 0]))] sz)) 0 0 (va_A [(h0, .inr (1, [.long 0, .long 0, .long 0, .long 0, .long 0, .long 0, .long 0, .long 0, .long 0, .long 0]))] sz) := by
  refine wr_ofW (Qc := fun A => (va_Qv (fun (u : Unit) => True) (wB D (fun _ => [(h0, .inr (1, sgF q))]) A) A)) (by decide) (Nat.le_of_ble_eq_true rfl) ?_
  intro p e s m below meth c B hP hK A hA hD hS ls hl
  obtain ⟨hx, hb, hrt, hml, hown, hts, hG, hlocks, hin⟩ := B
  have hl : lv_has ls 5 [(0, .ref h0), (1, .int q.1), (2, .int q.2.1), (3, .int q.2.2.1), (4, .int q.2.2.2)] := hl
  refine lv_aload_n hx hb d_S_init_0 rfl (lv_at hl 0 rfl) ?_
  refine W.objInit hx hb hown (hG _ wd_263) (hG _ wd_63) (hG _ wd_64) rfl (by rw [hml]; exact hl.1) rfl d_S_init_1 (Nat.le_of_ble_eq_true rfl) (Nat.le_of_ble_eq_true rfl) ?_
  refine W.eq (g2 := F0 m 4 ls []) rfl ?_
  refine lv_aload_n hx hb d_S_init_4 rfl (lv_at hl 0 rfl) ?_
  refine lv_iload_n hx hb d_S_init_5 rfl (lv_at hl 1 rfl) ?_
  refine lv_i2l hx hb d_S_init_6 rfl ?_
  refine va_putF (D := D) (ci := 1) (v := .long (Int32.toInt64 q.1)) (ty := .long) (C := K_S) (T := F_S) (N := 10) hx hb hG in_S t_S t_S_ok n_S hown hK.1 hP hD hS 0 rfl rfl 0 (by decide) (hG _ wd_270) (fun _ h9 => h9) rfl hin rfl (by decide +kernel) rfl rfl (Nat.le_of_ble_eq_true rfl) d_S_init_7 (fun H locs hP hD hS => ?_)
  have hP : va_P D vwC [(h0, .inr (1, [.long (Int32.toInt64 q.1), .long 0, .long 0, .long 0, .long 0, .long 0, .long 0, .long 0, .long 0, .long 0]))] H := hP
  have hD : va_D A [(h0, .inr (1, [.long (Int32.toInt64 q.1), .long 0, .long 0, .long 0, .long 0, .long 0, .long 0, .long 0, .long 0, .long 0]))] := hD
  refine lv_aload_n hx hb d_S_init_10 rfl (lv_at hl 0 rfl) ?_
  refine lv_iload_n hx hb d_S_init_11 rfl (lv_at hl 2 rfl) ?_
  refine lv_i2l hx hb d_S_init_12 rfl ?_
  refine va_putF (D := D) (ci := 1) (v := .long (Int32.toInt64 q.2.1)) (ty := .long) (C := K_S) (T := F_S) (N := 10) hx hb hG in_S t_S t_S_ok n_S hown hK.1 hP hD hS 0 rfl rfl 1 (by decide) (hG _ wd_271) (fun _ h9 => h9) rfl hin rfl (by decide +kernel) rfl rfl (Nat.le_of_ble_eq_true rfl) d_S_init_13 (fun H locs hP hD hS => ?_)
  have hP : va_P D vwC [(h0, .inr (1, [.long (Int32.toInt64 q.1), .long (Int32.toInt64 q.2.1), .long 0, .long 0, .long 0, .long 0, .long 0, .long 0, .long 0, .long 0]))] H := hP
  have hD : va_D A [(h0, .inr (1, [.long (Int32.toInt64 q.1), .long (Int32.toInt64 q.2.1), .long 0, .long 0, .long 0, .long 0, .long 0, .long 0, .long 0, .long 0]))] := hD
  refine lv_aload_n hx hb d_S_init_16 rfl (lv_at hl 0 rfl) ?_
  refine lv_iload_n hx hb d_S_init_17 rfl (lv_at hl 3 rfl) ?_
  refine lv_i2l hx hb d_S_init_18 rfl ?_
  refine va_putF (D := D) (ci := 1) (v := .long (Int32.toInt64 q.2.2.1)) (ty := .long) (C := K_S) (T := F_S) (N := 10) hx hb hG in_S t_S t_S_ok n_S hown hK.1 hP hD hS 0 rfl rfl 2 (by decide) (hG _ wd_272) (fun _ h9 => h9) rfl hin rfl (by decide +kernel) rfl rfl (Nat.le_of_ble_eq_true rfl) d_S_init_19 (fun H locs hP hD hS => ?_)
  have hP : va_P D vwC [(h0, .inr (1, [.long (Int32.toInt64 q.1), .long (Int32.toInt64 q.2.1), .long (Int32.toInt64 q.2.2.1), .long 0, .long 0, .long 0, .long 0, .long 0, .long 0, .long 0]))] H := hP
  have hD : va_D A [(h0, .inr (1, [.long (Int32.toInt64 q.1), .long (Int32.toInt64 q.2.1), .long (Int32.toInt64 q.2.2.1), .long 0, .long 0, .long 0, .long 0, .long 0, .long 0, .long 0]))] := hD
  refine lv_aload_n hx hb d_S_init_22 rfl (lv_at hl 0 rfl) ?_
  refine lv_iload hx hb d_S_init_23 (lv_at hl 4 rfl) ?_
  refine lv_i2l hx hb d_S_init_25 rfl ?_
  refine va_putF (D := D) (ci := 1) (v := .long (Int32.toInt64 q.2.2.2)) (ty := .long) (C := K_S) (T := F_S) (N := 10) hx hb hG in_S t_S t_S_ok n_S hown hK.1 hP hD hS 0 rfl rfl 3 (by decide) (hG _ wd_273) (fun _ h9 => h9) rfl hin rfl (by decide +kernel) rfl rfl (Nat.le_of_ble_eq_true rfl) d_S_init_26 (fun H locs hP hD hS => ?_)
  have hP : va_P D vwC [(h0, .inr (1, [.long (Int32.toInt64 q.1), .long (Int32.toInt64 q.2.1), .long (Int32.toInt64 q.2.2.1), .long (Int32.toInt64 q.2.2.2), .long 0, .long 0, .long 0, .long 0, .long 0, .long 0]))] H := hP
  have hD : va_D A [(h0, .inr (1, [.long (Int32.toInt64 q.1), .long (Int32.toInt64 q.2.1), .long (Int32.toInt64 q.2.2.1), .long (Int32.toInt64 q.2.2.2), .long 0, .long 0, .long 0, .long 0, .long 0, .long 0]))] := hD
  refine lv_aload_n hx hb d_S_init_29 rfl (lv_at hl 0 rfl) ?_
  refine lv_aload_n hx hb d_S_init_30 rfl (lv_at hl 0 rfl) ?_
  refine va_get (D := D) (ci := 1) (v := .long (Int32.toInt64 q.2.2.1)) (C := K_S) (T := F_S) (N := 10) hx hb hG in_S hown hK.1 hP 0 rfl rfl 2 (by decide) (hG _ wd_272) (fun _ h9 => h9) rfl d_S_init_31 ?_
  refine lv_aload_n hx hb d_S_init_34 rfl (lv_at hl 0 rfl) ?_
  refine va_get (D := D) (ci := 1) (v := .long (Int32.toInt64 q.1)) (C := K_S) (T := F_S) (N := 10) hx hb hG in_S hown hK.1 hP 0 rfl rfl 0 (by decide) (hG _ wd_270) (fun _ h9 => h9) rfl d_S_init_35 ?_
  refine lv_lsub hx hb d_S_init_38 ?_
  refine va_putF (D := D) (ci := 1) (v := .long ((Int32.toInt64 q.2.2.1) - (Int32.toInt64 q.1))) (ty := .long) (C := K_S) (T := F_S) (N := 10) hx hb hG in_S t_S t_S_ok n_S hown hK.1 hP hD hS 0 rfl rfl 4 (by decide) (hG _ wd_274) (fun _ h9 => h9) rfl hin rfl (by decide +kernel) rfl rfl (Nat.le_of_ble_eq_true rfl) d_S_init_39 (fun H locs hP hD hS => ?_)
  have hP : va_P D vwC [(h0, .inr (1, [.long (Int32.toInt64 q.1), .long (Int32.toInt64 q.2.1), .long (Int32.toInt64 q.2.2.1), .long (Int32.toInt64 q.2.2.2), .long ((Int32.toInt64 q.2.2.1) - (Int32.toInt64 q.1)), .long 0, .long 0, .long 0, .long 0, .long 0]))] H := hP
  have hD : va_D A [(h0, .inr (1, [.long (Int32.toInt64 q.1), .long (Int32.toInt64 q.2.1), .long (Int32.toInt64 q.2.2.1), .long (Int32.toInt64 q.2.2.2), .long ((Int32.toInt64 q.2.2.1) - (Int32.toInt64 q.1)), .long 0, .long 0, .long 0, .long 0, .long 0]))] := hD
  refine lv_aload_n hx hb d_S_init_42 rfl (lv_at hl 0 rfl) ?_
  refine lv_aload_n hx hb d_S_init_43 rfl (lv_at hl 0 rfl) ?_
  refine va_get (D := D) (ci := 1) (v := .long (Int32.toInt64 q.2.2.2)) (C := K_S) (T := F_S) (N := 10) hx hb hG in_S hown hK.1 hP 0 rfl rfl 3 (by decide) (hG _ wd_273) (fun _ h9 => h9) rfl d_S_init_44 ?_
  refine lv_aload_n hx hb d_S_init_47 rfl (lv_at hl 0 rfl) ?_
  refine va_get (D := D) (ci := 1) (v := .long (Int32.toInt64 q.2.1)) (C := K_S) (T := F_S) (N := 10) hx hb hG in_S hown hK.1 hP 0 rfl rfl 1 (by decide) (hG _ wd_271) (fun _ h9 => h9) rfl d_S_init_48 ?_
  refine lv_lsub hx hb d_S_init_51 ?_
  refine va_putF (D := D) (ci := 1) (v := .long ((Int32.toInt64 q.2.2.2) - (Int32.toInt64 q.2.1))) (ty := .long) (C := K_S) (T := F_S) (N := 10) hx hb hG in_S t_S t_S_ok n_S hown hK.1 hP hD hS 0 rfl rfl 5 (by decide) (hG _ wd_275) (fun _ h9 => h9) rfl hin rfl (by decide +kernel) rfl rfl (Nat.le_of_ble_eq_true rfl) d_S_init_52 (fun H locs hP hD hS => ?_)
  have hP : va_P D vwC [(h0, .inr (1, [.long (Int32.toInt64 q.1), .long (Int32.toInt64 q.2.1), .long (Int32.toInt64 q.2.2.1), .long (Int32.toInt64 q.2.2.2), .long ((Int32.toInt64 q.2.2.1) - (Int32.toInt64 q.1)), .long ((Int32.toInt64 q.2.2.2) - (Int32.toInt64 q.2.1)), .long 0, .long 0, .long 0, .long 0]))] H := hP
  have hD : va_D A [(h0, .inr (1, [.long (Int32.toInt64 q.1), .long (Int32.toInt64 q.2.1), .long (Int32.toInt64 q.2.2.1), .long (Int32.toInt64 q.2.2.2), .long ((Int32.toInt64 q.2.2.1) - (Int32.toInt64 q.1)), .long ((Int32.toInt64 q.2.2.2) - (Int32.toInt64 q.2.1)), .long 0, .long 0, .long 0, .long 0]))] := hD
  refine lv_aload_n hx hb d_S_init_55 rfl (lv_at hl 0 rfl) ?_
  refine lv_aload_n hx hb d_S_init_56 rfl (lv_at hl 0 rfl) ?_
  refine va_get (D := D) (ci := 1) (v := .long (Int32.toInt64 q.1)) (C := K_S) (T := F_S) (N := 10) hx hb hG in_S hown hK.1 hP 0 rfl rfl 0 (by decide) (hG _ wd_270) (fun _ h9 => h9) rfl d_S_init_57 ?_
  refine lv_aload_n hx hb d_S_init_60 rfl (lv_at hl 0 rfl) ?_
  refine va_get (D := D) (ci := 1) (v := .long (Int32.toInt64 q.2.2.1)) (C := K_S) (T := F_S) (N := 10) hx hb hG in_S hown hK.1 hP 0 rfl rfl 2 (by decide) (hG _ wd_272) (fun _ h9 => h9) rfl d_S_init_61 ?_
  refine va_mmin_long hx hb (hml.trans hl.1.symm) hown (hG _ wd_264) (hG _ wd_265) (hG _ wd_49) (hG _ wd_266) (Nat.le_of_ble_eq_true rfl) (Nat.le_of_ble_eq_true rfl) (Nat.le_of_ble_eq_true rfl) (Nat.le_of_ble_eq_true rfl) d_S_init_64 ?_
  refine va_putF (D := D) (ci := 1) (v := .long (if (Int32.toInt64 q.2.2.1) < (Int32.toInt64 q.1) then (Int32.toInt64 q.2.2.1) else (Int32.toInt64 q.1))) (ty := .long) (C := K_S) (T := F_S) (N := 10) hx hb hG in_S t_S t_S_ok n_S hown hK.1 hP hD hS 0 rfl rfl 6 (by decide) (hG _ wd_276) (fun _ h9 => h9) rfl hin rfl (by decide +kernel) rfl rfl (Nat.le_of_ble_eq_true rfl) d_S_init_67 (fun H locs hP hD hS => ?_)
  have hP : va_P D vwC [(h0, .inr (1, [.long (Int32.toInt64 q.1), .long (Int32.toInt64 q.2.1), .long (Int32.toInt64 q.2.2.1), .long (Int32.toInt64 q.2.2.2), .long ((Int32.toInt64 q.2.2.1) - (Int32.toInt64 q.1)), .long ((Int32.toInt64 q.2.2.2) - (Int32.toInt64 q.2.1)), .long (if (Int32.toInt64 q.2.2.1) < (Int32.toInt64 q.1) then (Int32.toInt64 q.2.2.1) else (Int32.toInt64 q.1)), .long 0, .long 0, .long 0]))] H := hP
  have hD : va_D A [(h0, .inr (1, [.long (Int32.toInt64 q.1), .long (Int32.toInt64 q.2.1), .long (Int32.toInt64 q.2.2.1), .long (Int32.toInt64 q.2.2.2), .long ((Int32.toInt64 q.2.2.1) - (Int32.toInt64 q.1)), .long ((Int32.toInt64 q.2.2.2) - (Int32.toInt64 q.2.1)), .long (if (Int32.toInt64 q.2.2.1) < (Int32.toInt64 q.1) then (Int32.toInt64 q.2.2.1) else (Int32.toInt64 q.1)), .long 0, .long 0, .long 0]))] := hD
  refine lv_aload_n hx hb d_S_init_70 rfl (lv_at hl 0 rfl) ?_
  refine lv_aload_n hx hb d_S_init_71 rfl (lv_at hl 0 rfl) ?_
  refine va_get (D := D) (ci := 1) (v := .long (Int32.toInt64 q.2.1)) (C := K_S) (T := F_S) (N := 10) hx hb hG in_S hown hK.1 hP 0 rfl rfl 1 (by decide) (hG _ wd_271) (fun _ h9 => h9) rfl d_S_init_72 ?_
  refine lv_aload_n hx hb d_S_init_75 rfl (lv_at hl 0 rfl) ?_
  refine va_get (D := D) (ci := 1) (v := .long (Int32.toInt64 q.2.2.2)) (C := K_S) (T := F_S) (N := 10) hx hb hG in_S hown hK.1 hP 0 rfl rfl 3 (by decide) (hG _ wd_273) (fun _ h9 => h9) rfl d_S_init_76 ?_
  refine va_mmin_long hx hb (hml.trans hl.1.symm) hown (hG _ wd_264) (hG _ wd_265) (hG _ wd_49) (hG _ wd_266) (Nat.le_of_ble_eq_true rfl) (Nat.le_of_ble_eq_true rfl) (Nat.le_of_ble_eq_true rfl) (Nat.le_of_ble_eq_true rfl) d_S_init_79 ?_
  refine va_putF (D := D) (ci := 1) (v := .long (if (Int32.toInt64 q.2.2.2) < (Int32.toInt64 q.2.1) then (Int32.toInt64 q.2.2.2) else (Int32.toInt64 q.2.1))) (ty := .long) (C := K_S) (T := F_S) (N := 10) hx hb hG in_S t_S t_S_ok n_S hown hK.1 hP hD hS 0 rfl rfl 7 (by decide) (hG _ wd_277) (fun _ h9 => h9) rfl hin rfl (by decide +kernel) rfl rfl (Nat.le_of_ble_eq_true rfl) d_S_init_82 (fun H locs hP hD hS => ?_)
  have hP : va_P D vwC [(h0, .inr (1, [.long (Int32.toInt64 q.1), .long (Int32.toInt64 q.2.1), .long (Int32.toInt64 q.2.2.1), .long (Int32.toInt64 q.2.2.2), .long ((Int32.toInt64 q.2.2.1) - (Int32.toInt64 q.1)), .long ((Int32.toInt64 q.2.2.2) - (Int32.toInt64 q.2.1)), .long (if (Int32.toInt64 q.2.2.1) < (Int32.toInt64 q.1) then (Int32.toInt64 q.2.2.1) else (Int32.toInt64 q.1)), .long (if (Int32.toInt64 q.2.2.2) < (Int32.toInt64 q.2.1) then (Int32.toInt64 q.2.2.2) else (Int32.toInt64 q.2.1)), .long 0, .long 0]))] H := hP
  have hD : va_D A [(h0, .inr (1, [.long (Int32.toInt64 q.1), .long (Int32.toInt64 q.2.1), .long (Int32.toInt64 q.2.2.1), .long (Int32.toInt64 q.2.2.2), .long ((Int32.toInt64 q.2.2.1) - (Int32.toInt64 q.1)), .long ((Int32.toInt64 q.2.2.2) - (Int32.toInt64 q.2.1)), .long (if (Int32.toInt64 q.2.2.1) < (Int32.toInt64 q.1) then (Int32.toInt64 q.2.2.1) else (Int32.toInt64 q.1)), .long (if (Int32.toInt64 q.2.2.2) < (Int32.toInt64 q.2.1) then (Int32.toInt64 q.2.2.2) else (Int32.toInt64 q.2.1)), .long 0, .long 0]))] := hD
  refine lv_aload_n hx hb d_S_init_85 rfl (lv_at hl 0 rfl) ?_
  refine lv_aload_n hx hb d_S_init_86 rfl (lv_at hl 0 rfl) ?_
  refine va_get (D := D) (ci := 1) (v := .long (Int32.toInt64 q.1)) (C := K_S) (T := F_S) (N := 10) hx hb hG in_S hown hK.1 hP 0 rfl rfl 0 (by decide) (hG _ wd_270) (fun _ h9 => h9) rfl d_S_init_87 ?_
  refine lv_aload_n hx hb d_S_init_90 rfl (lv_at hl 0 rfl) ?_
  refine va_get (D := D) (ci := 1) (v := .long (Int32.toInt64 q.2.2.1)) (C := K_S) (T := F_S) (N := 10) hx hb hG in_S hown hK.1 hP 0 rfl rfl 2 (by decide) (hG _ wd_272) (fun _ h9 => h9) rfl d_S_init_91 ?_
  refine va_mmax_long hx hb (hml.trans hl.1.symm) hown (hG _ wd_267) (hG _ wd_268) (hG _ wd_49) (hG _ wd_269) (Nat.le_of_ble_eq_true rfl) (Nat.le_of_ble_eq_true rfl) (Nat.le_of_ble_eq_true rfl) (Nat.le_of_ble_eq_true rfl) d_S_init_94 ?_
  refine va_putF (D := D) (ci := 1) (v := .long (if (Int32.toInt64 q.2.2.1) < (Int32.toInt64 q.1) then (Int32.toInt64 q.1) else (Int32.toInt64 q.2.2.1))) (ty := .long) (C := K_S) (T := F_S) (N := 10) hx hb hG in_S t_S t_S_ok n_S hown hK.1 hP hD hS 0 rfl rfl 8 (by decide) (hG _ wd_278) (fun _ h9 => h9) rfl hin rfl (by decide +kernel) rfl rfl (Nat.le_of_ble_eq_true rfl) d_S_init_97 (fun H locs hP hD hS => ?_)
  have hP : va_P D vwC [(h0, .inr (1, [.long (Int32.toInt64 q.1), .long (Int32.toInt64 q.2.1), .long (Int32.toInt64 q.2.2.1), .long (Int32.toInt64 q.2.2.2), .long ((Int32.toInt64 q.2.2.1) - (Int32.toInt64 q.1)), .long ((Int32.toInt64 q.2.2.2) - (Int32.toInt64 q.2.1)), .long (if (Int32.toInt64 q.2.2.1) < (Int32.toInt64 q.1) then (Int32.toInt64 q.2.2.1) else (Int32.toInt64 q.1)), .long (if (Int32.toInt64 q.2.2.2) < (Int32.toInt64 q.2.1) then (Int32.toInt64 q.2.2.2) else (Int32.toInt64 q.2.1)), .long (if (Int32.toInt64 q.2.2.1) < (Int32.toInt64 q.1) then (Int32.toInt64 q.1) else (Int32.toInt64 q.2.2.1)), .long 0]))] H := hP
  have hD : va_D A [(h0, .inr (1, [.long (Int32.toInt64 q.1), .long (Int32.toInt64 q.2.1), .long (Int32.toInt64 q.2.2.1), .long (Int32.toInt64 q.2.2.2), .long ((Int32.toInt64 q.2.2.1) - (Int32.toInt64 q.1)), .long ((Int32.toInt64 q.2.2.2) - (Int32.toInt64 q.2.1)), .long (if (Int32.toInt64 q.2.2.1) < (Int32.toInt64 q.1) then (Int32.toInt64 q.2.2.1) else (Int32.toInt64 q.1)), .long (if (Int32.toInt64 q.2.2.2) < (Int32.toInt64 q.2.1) then (Int32.toInt64 q.2.2.2) else (Int32.toInt64 q.2.1)), .long (if (Int32.toInt64 q.2.2.1) < (Int32.toInt64 q.1) then (Int32.toInt64 q.1) else (Int32.toInt64 q.2.2.1)), .long 0]))] := hD
  refine lv_aload_n hx hb d_S_init_100 rfl (lv_at hl 0 rfl) ?_
  refine lv_aload_n hx hb d_S_init_101 rfl (lv_at hl 0 rfl) ?_
  refine va_get (D := D) (ci := 1) (v := .long (Int32.toInt64 q.2.1)) (C := K_S) (T := F_S) (N := 10) hx hb hG in_S hown hK.1 hP 0 rfl rfl 1 (by decide) (hG _ wd_271) (fun _ h9 => h9) rfl d_S_init_102 ?_
  refine lv_aload_n hx hb d_S_init_105 rfl (lv_at hl 0 rfl) ?_
  refine va_get (D := D) (ci := 1) (v := .long (Int32.toInt64 q.2.2.2)) (C := K_S) (T := F_S) (N := 10) hx hb hG in_S hown hK.1 hP 0 rfl rfl 3 (by decide) (hG _ wd_273) (fun _ h9 => h9) rfl d_S_init_106 ?_
  refine va_mmax_long hx hb (hml.trans hl.1.symm) hown (hG _ wd_267) (hG _ wd_268) (hG _ wd_49) (hG _ wd_269) (Nat.le_of_ble_eq_true rfl) (Nat.le_of_ble_eq_true rfl) (Nat.le_of_ble_eq_true rfl) (Nat.le_of_ble_eq_true rfl) d_S_init_109 ?_
  refine va_putF (D := D) (ci := 1) (v := .long (if (Int32.toInt64 q.2.2.2) < (Int32.toInt64 q.2.1) then (Int32.toInt64 q.2.1) else (Int32.toInt64 q.2.2.2))) (ty := .long) (C := K_S) (T := F_S) (N := 10) hx hb hG in_S t_S t_S_ok n_S hown hK.1 hP hD hS 0 rfl rfl 9 (by decide) (hG _ wd_279) (fun _ h9 => h9) rfl hin rfl (by decide +kernel) rfl rfl (Nat.le_of_ble_eq_true rfl) d_S_init_112 (fun H locs hP hD hS => ?_)
  have hP : va_P D vwC [(h0, .inr (1, [.long (Int32.toInt64 q.1), .long (Int32.toInt64 q.2.1), .long (Int32.toInt64 q.2.2.1), .long (Int32.toInt64 q.2.2.2), .long ((Int32.toInt64 q.2.2.1) - (Int32.toInt64 q.1)), .long ((Int32.toInt64 q.2.2.2) - (Int32.toInt64 q.2.1)), .long (if (Int32.toInt64 q.2.2.1) < (Int32.toInt64 q.1) then (Int32.toInt64 q.2.2.1) else (Int32.toInt64 q.1)), .long (if (Int32.toInt64 q.2.2.2) < (Int32.toInt64 q.2.1) then (Int32.toInt64 q.2.2.2) else (Int32.toInt64 q.2.1)), .long (if (Int32.toInt64 q.2.2.1) < (Int32.toInt64 q.1) then (Int32.toInt64 q.1) else (Int32.toInt64 q.2.2.1)), .long (if (Int32.toInt64 q.2.2.2) < (Int32.toInt64 q.2.1) then (Int32.toInt64 q.2.1) else (Int32.toInt64 q.2.2.2))]))] H := hP
  have hD : va_D A [(h0, .inr (1, [.long (Int32.toInt64 q.1), .long (Int32.toInt64 q.2.1), .long (Int32.toInt64 q.2.2.1), .long (Int32.toInt64 q.2.2.2), .long ((Int32.toInt64 q.2.2.1) - (Int32.toInt64 q.1)), .long ((Int32.toInt64 q.2.2.2) - (Int32.toInt64 q.2.1)), .long (if (Int32.toInt64 q.2.2.1) < (Int32.toInt64 q.1) then (Int32.toInt64 q.2.2.1) else (Int32.toInt64 q.1)), .long (if (Int32.toInt64 q.2.2.2) < (Int32.toInt64 q.2.1) then (Int32.toInt64 q.2.2.2) else (Int32.toInt64 q.2.1)), .long (if (Int32.toInt64 q.2.2.1) < (Int32.toInt64 q.1) then (Int32.toInt64 q.1) else (Int32.toInt64 q.2.2.1)), .long (if (Int32.toInt64 q.2.2.2) < (Int32.toInt64 q.2.1) then (Int32.toInt64 q.2.1) else (Int32.toInt64 q.2.2.2))]))] := hD
  exact W.vret hx hb hrt (fun t ht hW => ⟨⟨(), rfl, trivial, ⟨by rw [ht]; exact hP, hD⟩⟩, hS.F ht⟩) hS.2.2 d_S_init_115 hlocks
set_option maxHeartbeats 4000000 in
set_option maxRecDepth 100000 in
theorem k_S_fromKey (l : Launch) (D : va_G) (E : ClassId × ClassId × ClassId × ClassId) (h0 : Nat) (q : SQ) : Met l y_S_fromKey (.code y_S_fromKey c_S_fromKey 1 (some .long) :: gw) ({ frames := 1, cells := 0, slots := 0, locals := 23 } : Room) (rP D E [(h0, .inr (1, sgF q))] [.ref h0]) (vp_Sl (fun r => r = sg_key (sx q) (sy q))) 0 0 (fun _ => False) := by
  refine rd_ofW (by decide) (Nat.le_of_ble_eq_true rfl) ?_
  intro p e s m below meth c B hP hK ls hl
  obtain ⟨hx, hb, hrt, hml, hown, hts, hG, hlocks, hin⟩ := B
  have hl : lv_has ls 1 [(0, .ref h0)] := hl
  refine lv_aload_n hx hb d_S_fromKey_0 rfl (lv_at hl 0 rfl) ?_
  refine va_get (D := D) (ci := 1) (v := .long (sx q)) (C := K_S) (T := F_S) (N := 10) hx hb hG in_S hown hK.1 hP 0 rfl rfl 0 (by decide) (hG _ wd_270) (fun _ h9 => h9) rfl d_S_fromKey_1 ?_
  refine lv_aload_n hx hb d_S_fromKey_4 rfl (lv_at hl 0 rfl) ?_
  refine va_get (D := D) (ci := 1) (v := .long (sy q)) (C := K_S) (T := F_S) (N := 10) hx hb hG in_S hown hK.1 hP 0 rfl rfl 1 (by decide) (hG _ wd_271) (fun _ h9 => h9) rfl d_S_fromKey_5 ?_
  refine vp_callSl (run_of (va_runSN (host := "PixelSnapper") (As := [.long (sx q), .long (sy q)]) (rest := []) ⟨hx, hb, hml, hown, hts⟩ (k_P_keyOf l D E (sx q) (sy q)) ⟨va_cnB 2 hts (gw_gi wd_389) rfl rfl rfl (gf_nest hK.2) (hG _ wd_37) (by decide +kernel) ⟨Nat.le_of_ble_eq_true rfl, Nat.le_of_ble_eq_true rfl⟩, hG _ wd_388, trivial⟩ (rP_S (hP.sub (ws' := []) [] rfl) hK) rfl rfl hl.1 rfl (lv_room (Nat.le_of_ble_eq_true rfl)) d_S_fromKey_8 ⟨Nat.le_of_ble_eq_true rfl, Nat.le_of_ble_eq_true rfl⟩)) (fun r1 hr1 => ?_)
  exact W.lret (v := r1) hx hb hrt (fun t ht hW => ⟨r1, rfl, hr1, ht⟩) (fun q h => nomatch h) d_S_fromKey_11 hlocks
set_option maxHeartbeats 4000000 in
set_option maxRecDepth 100000 in
theorem k_S_toKey (l : Launch) (D : va_G) (E : ClassId × ClassId × ClassId × ClassId) (h0 : Nat) (q : SQ) : Met l y_S_toKey (.code y_S_toKey c_S_toKey 1 (some .long) :: gw) ({ frames := 1, cells := 0, slots := 0, locals := 23 } : Room) (rP D E [(h0, .inr (1, sgF q))] [.ref h0]) (vp_Sl (fun r => r = sg_key (su q) (sv q))) 0 0 (fun _ => False) := by
  refine rd_ofW (by decide) (Nat.le_of_ble_eq_true rfl) ?_
  intro p e s m below meth c B hP hK ls hl
  obtain ⟨hx, hb, hrt, hml, hown, hts, hG, hlocks, hin⟩ := B
  have hl : lv_has ls 1 [(0, .ref h0)] := hl
  refine lv_aload_n hx hb d_S_toKey_0 rfl (lv_at hl 0 rfl) ?_
  refine va_get (D := D) (ci := 1) (v := .long (su q)) (C := K_S) (T := F_S) (N := 10) hx hb hG in_S hown hK.1 hP 0 rfl rfl 2 (by decide) (hG _ wd_272) (fun _ h9 => h9) rfl d_S_toKey_1 ?_
  refine lv_aload_n hx hb d_S_toKey_4 rfl (lv_at hl 0 rfl) ?_
  refine va_get (D := D) (ci := 1) (v := .long (sv q)) (C := K_S) (T := F_S) (N := 10) hx hb hG in_S hown hK.1 hP 0 rfl rfl 3 (by decide) (hG _ wd_273) (fun _ h9 => h9) rfl d_S_toKey_5 ?_
  refine vp_callSl (run_of (va_runSN (host := "PixelSnapper") (As := [.long (su q), .long (sv q)]) (rest := []) ⟨hx, hb, hml, hown, hts⟩ (k_P_keyOf l D E (su q) (sv q)) ⟨va_cnB 2 hts (gw_gi wd_389) rfl rfl rfl (gf_nest hK.2) (hG _ wd_37) (by decide +kernel) ⟨Nat.le_of_ble_eq_true rfl, Nat.le_of_ble_eq_true rfl⟩, hG _ wd_388, trivial⟩ (rP_S (hP.sub (ws' := []) [] rfl) hK) rfl rfl hl.1 rfl (lv_room (Nat.le_of_ble_eq_true rfl)) d_S_toKey_8 ⟨Nat.le_of_ble_eq_true rfl, Nat.le_of_ble_eq_true rfl⟩)) (fun r1 hr1 => ?_)
  exact W.lret (v := r1) hx hb hrt (fun t ht hW => ⟨r1, rfl, hr1, ht⟩) (fun q h => nomatch h) d_S_toKey_11 hlocks
set_option maxHeartbeats 4000000 in
set_option maxRecDepth 100000 in
theorem k_S_leastKey (l : Launch) (D : va_G) (E : ClassId × ClassId × ClassId × ClassId) (h0 : Nat) (q : SQ) : Met l y_S_leastKey (.code y_S_leastKey c_S_leastKey 1 (some .long) :: gw) ({ frames := 1, cells := 0, slots := 0, locals := 23 } : Room) (rP D E [(h0, .inr (1, sgF q))] [.ref h0]) (vp_Sl (fun r => r = sg_key (slx q) (sly q))) 0 0 (fun _ => False) := by
  refine rd_ofW (by decide) (Nat.le_of_ble_eq_true rfl) ?_
  intro p e s m below meth c B hP hK ls hl
  obtain ⟨hx, hb, hrt, hml, hown, hts, hG, hlocks, hin⟩ := B
  have hl : lv_has ls 1 [(0, .ref h0)] := hl
  refine lv_aload_n hx hb d_S_leastKey_0 rfl (lv_at hl 0 rfl) ?_
  refine va_get (D := D) (ci := 1) (v := .long (slx q)) (C := K_S) (T := F_S) (N := 10) hx hb hG in_S hown hK.1 hP 0 rfl rfl 6 (by decide) (hG _ wd_276) (fun _ h9 => h9) rfl d_S_leastKey_1 ?_
  refine lv_aload_n hx hb d_S_leastKey_4 rfl (lv_at hl 0 rfl) ?_
  refine va_get (D := D) (ci := 1) (v := .long (sly q)) (C := K_S) (T := F_S) (N := 10) hx hb hG in_S hown hK.1 hP 0 rfl rfl 7 (by decide) (hG _ wd_277) (fun _ h9 => h9) rfl d_S_leastKey_5 ?_
  refine vp_callSl (run_of (va_runSN (host := "PixelSnapper") (As := [.long (slx q), .long (sly q)]) (rest := []) ⟨hx, hb, hml, hown, hts⟩ (k_P_keyOf l D E (slx q) (sly q)) ⟨va_cnB 2 hts (gw_gi wd_389) rfl rfl rfl (gf_nest hK.2) (hG _ wd_37) (by decide +kernel) ⟨Nat.le_of_ble_eq_true rfl, Nat.le_of_ble_eq_true rfl⟩, hG _ wd_388, trivial⟩ (rP_S (hP.sub (ws' := []) [] rfl) hK) rfl rfl hl.1 rfl (lv_room (Nat.le_of_ble_eq_true rfl)) d_S_leastKey_8 ⟨Nat.le_of_ble_eq_true rfl, Nat.le_of_ble_eq_true rfl⟩)) (fun r1 hr1 => ?_)
  exact W.lret (v := r1) hx hb hrt (fun t ht hW => ⟨r1, rfl, hr1, ht⟩) (fun q h => nomatch h) d_S_leastKey_11 hlocks
set_option maxHeartbeats 4000000 in
set_option maxRecDepth 100000 in
theorem k_S_mostKey (l : Launch) (D : va_G) (E : ClassId × ClassId × ClassId × ClassId) (h0 : Nat) (q : SQ) : Met l y_S_mostKey (.code y_S_mostKey c_S_mostKey 1 (some .long) :: gw) ({ frames := 1, cells := 0, slots := 0, locals := 23 } : Room) (rP D E [(h0, .inr (1, sgF q))] [.ref h0]) (vp_Sl (fun r => r = sg_key (smx q) (smy q))) 0 0 (fun _ => False) := by
  refine rd_ofW (by decide) (Nat.le_of_ble_eq_true rfl) ?_
  intro p e s m below meth c B hP hK ls hl
  obtain ⟨hx, hb, hrt, hml, hown, hts, hG, hlocks, hin⟩ := B
  have hl : lv_has ls 1 [(0, .ref h0)] := hl
  refine lv_aload_n hx hb d_S_mostKey_0 rfl (lv_at hl 0 rfl) ?_
  refine va_get (D := D) (ci := 1) (v := .long (smx q)) (C := K_S) (T := F_S) (N := 10) hx hb hG in_S hown hK.1 hP 0 rfl rfl 8 (by decide) (hG _ wd_278) (fun _ h9 => h9) rfl d_S_mostKey_1 ?_
  refine lv_aload_n hx hb d_S_mostKey_4 rfl (lv_at hl 0 rfl) ?_
  refine va_get (D := D) (ci := 1) (v := .long (smy q)) (C := K_S) (T := F_S) (N := 10) hx hb hG in_S hown hK.1 hP 0 rfl rfl 9 (by decide) (hG _ wd_279) (fun _ h9 => h9) rfl d_S_mostKey_5 ?_
  refine vp_callSl (run_of (va_runSN (host := "PixelSnapper") (As := [.long (smx q), .long (smy q)]) (rest := []) ⟨hx, hb, hml, hown, hts⟩ (k_P_keyOf l D E (smx q) (smy q)) ⟨va_cnB 2 hts (gw_gi wd_389) rfl rfl rfl (gf_nest hK.2) (hG _ wd_37) (by decide +kernel) ⟨Nat.le_of_ble_eq_true rfl, Nat.le_of_ble_eq_true rfl⟩, hG _ wd_388, trivial⟩ (rP_S (hP.sub (ws' := []) [] rfl) hK) rfl rfl hl.1 rfl (lv_room (Nat.le_of_ble_eq_true rfl)) d_S_mostKey_8 ⟨Nat.le_of_ble_eq_true rfl, Nat.le_of_ble_eq_true rfl⟩)) (fun r1 hr1 => ?_)
  exact W.lret (v := r1) hx hb hrt (fun t ht hW => ⟨r1, rfl, hr1, ht⟩) (fun q h => nomatch h) d_S_mostKey_11 hlocks
set_option maxHeartbeats 4000000 in
set_option maxRecDepth 100000 in
theorem k_S_goesLeft (l : Launch) (D : va_G) (E : ClassId × ClassId × ClassId × ClassId) (h0 : Nat) (q : SQ) : Met l y_S_goesLeft (.code y_S_goesLeft c_S_goesLeft 1 (some .boolean) :: gw) ({ frames := 0, cells := 0, slots := 0, locals := 0 } : Room) (rP D E [(h0, .inr (1, sgF q))] [.ref h0]) (vp_Si (fun r => r = if swx q < 0 then 1 else 0)) 0 0 (fun _ => False) := by
  refine rd_ofW (by decide) (Nat.le_of_ble_eq_true rfl) ?_
  intro p e s m below meth c B hP hK ls hl
  obtain ⟨hx, hb, hrt, hml, hown, hts, hG, hlocks, hin⟩ := B
  have hl : lv_has ls 1 [(0, .ref h0)] := hl
  refine lv_aload_n hx hb d_S_goesLeft_0 rfl (lv_at hl 0 rfl) ?_
  refine va_get (D := D) (ci := 1) (v := .long (swx q)) (C := K_S) (T := F_S) (N := 10) hx hb hG in_S hown hK.1 hP 0 rfl rfl 4 (by decide) (hG _ wd_274) (fun _ h9 => h9) rfl d_S_goesLeft_1 ?_
  refine lv_lconst (v := 0) hx hb d_S_goesLeft_4 (by decide) ?_
  refine W.lcmp hx hb d_S_goesLeft_5 ?_
  refine lv_if_ge (tgt := 13) hx hb d_S_goesLeft_6 (by decide) (fun c1 => ?_) (fun c1 => ?_)
  · refine lv_iconst (v := 0) hx hb d_S_goesLeft_13 (by decide) ?_
    exact W.zret (v := 0) (ty := .boolean) hx hb hrt rfl (fun t ht hW => ⟨0, rfl, by rw [if_neg (lg_ge.mp c1)], ht⟩) (fun q h => nomatch h) d_S_goesLeft_14 hlocks
  · refine lv_iconst (v := 1) hx hb d_S_goesLeft_9 (by decide) ?_
    refine lv_goto (tgt := 14) hx hb d_S_goesLeft_10 (by decide) ?_
    exact W.zret (v := 1) (ty := .boolean) hx hb hrt rfl (fun t ht hW => ⟨1, rfl, by rw [if_pos (Classical.not_not.mp (fun y => c1 (lg_ge.mpr y)))], ht⟩) (fun q h => nomatch h) d_S_goesLeft_14 hlocks
set_option maxHeartbeats 4000000 in
set_option maxRecDepth 100000 in
theorem k_S_goesDown (l : Launch) (D : va_G) (E : ClassId × ClassId × ClassId × ClassId) (h0 : Nat) (q : SQ) : Met l y_S_goesDown (.code y_S_goesDown c_S_goesDown 1 (some .boolean) :: gw) ({ frames := 0, cells := 0, slots := 0, locals := 0 } : Room) (rP D E [(h0, .inr (1, sgF q))] [.ref h0]) (vp_Si (fun r => r = if swy q < 0 then 1 else 0)) 0 0 (fun _ => False) := by
  refine rd_ofW (by decide) (Nat.le_of_ble_eq_true rfl) ?_
  intro p e s m below meth c B hP hK ls hl
  obtain ⟨hx, hb, hrt, hml, hown, hts, hG, hlocks, hin⟩ := B
  have hl : lv_has ls 1 [(0, .ref h0)] := hl
  refine lv_aload_n hx hb d_S_goesDown_0 rfl (lv_at hl 0 rfl) ?_
  refine va_get (D := D) (ci := 1) (v := .long (swy q)) (C := K_S) (T := F_S) (N := 10) hx hb hG in_S hown hK.1 hP 0 rfl rfl 5 (by decide) (hG _ wd_275) (fun _ h9 => h9) rfl d_S_goesDown_1 ?_
  refine lv_lconst (v := 0) hx hb d_S_goesDown_4 (by decide) ?_
  refine W.lcmp hx hb d_S_goesDown_5 ?_
  refine lv_if_ge (tgt := 13) hx hb d_S_goesDown_6 (by decide) (fun c1 => ?_) (fun c1 => ?_)
  · refine lv_iconst (v := 0) hx hb d_S_goesDown_13 (by decide) ?_
    exact W.zret (v := 0) (ty := .boolean) hx hb hrt rfl (fun t ht hW => ⟨0, rfl, by rw [if_neg (lg_ge.mp c1)], ht⟩) (fun q h => nomatch h) d_S_goesDown_14 hlocks
  · refine lv_iconst (v := 1) hx hb d_S_goesDown_9 (by decide) ?_
    refine lv_goto (tgt := 14) hx hb d_S_goesDown_10 (by decide) ?_
    exact W.zret (v := 1) (ty := .boolean) hx hb hrt rfl (fun t ht hW => ⟨1, rfl, by rw [if_pos (Classical.not_not.mp (fun y => c1 (lg_ge.mpr y)))], ht⟩) (fun q h => nomatch h) d_S_goesDown_14 hlocks
set_option maxHeartbeats 4000000 in
set_option maxRecDepth 100000 in
theorem k_S_sideOf (l : Launch) (D : va_G) (E : ClassId × ClassId × ClassId × ClassId) (h0 : Nat) (q : SQ) (x y : Int64) : Met l y_S_sideOf (.code y_S_sideOf c_S_sideOf 5 (some .long) :: gw) ({ frames := 0, cells := 0, slots := 0, locals := 0 } : Room) (rP D E [(h0, .inr (1, sgF q))] [.ref h0, .long x, .long y]) (vp_Sl (fun r => r = sg_side q x y)) 0 0 (fun _ => False) := by
  refine rd_ofW (by decide) (Nat.le_of_ble_eq_true rfl) ?_
  intro p e s m below meth c B hP hK ls hl
  obtain ⟨hx, hb, hrt, hml, hown, hts, hG, hlocks, hin⟩ := B
  have hl : lv_has ls 5 [(0, .ref h0), (1, .long x), (3, .long y)] := hl
  refine lv_aload_n hx hb d_S_sideOf_0 rfl (lv_at hl 0 rfl) ?_
  refine va_get (D := D) (ci := 1) (v := .long (swx q)) (C := K_S) (T := F_S) (N := 10) hx hb hG in_S hown hK.1 hP 0 rfl rfl 4 (by decide) (hG _ wd_274) (fun _ h9 => h9) rfl d_S_sideOf_1 ?_
  refine lv_lload_n hx hb d_S_sideOf_4 rfl (lv_at hl 2 rfl) ?_
  refine lv_aload_n hx hb d_S_sideOf_5 rfl (lv_at hl 0 rfl) ?_
  refine va_get (D := D) (ci := 1) (v := .long (sy q)) (C := K_S) (T := F_S) (N := 10) hx hb hG in_S hown hK.1 hP 0 rfl rfl 1 (by decide) (hG _ wd_271) (fun _ h9 => h9) rfl d_S_sideOf_6 ?_
  refine lv_lsub hx hb d_S_sideOf_9 ?_
  refine lv_lmul hx hb d_S_sideOf_10 ?_
  refine lv_aload_n hx hb d_S_sideOf_11 rfl (lv_at hl 0 rfl) ?_
  refine va_get (D := D) (ci := 1) (v := .long (swy q)) (C := K_S) (T := F_S) (N := 10) hx hb hG in_S hown hK.1 hP 0 rfl rfl 5 (by decide) (hG _ wd_275) (fun _ h9 => h9) rfl d_S_sideOf_12 ?_
  refine lv_lload_n hx hb d_S_sideOf_15 rfl (lv_at hl 1 rfl) ?_
  refine lv_aload_n hx hb d_S_sideOf_16 rfl (lv_at hl 0 rfl) ?_
  refine va_get (D := D) (ci := 1) (v := .long (sx q)) (C := K_S) (T := F_S) (N := 10) hx hb hG in_S hown hK.1 hP 0 rfl rfl 0 (by decide) (hG _ wd_270) (fun _ h9 => h9) rfl d_S_sideOf_17 ?_
  refine lv_lsub hx hb d_S_sideOf_20 ?_
  refine lv_lmul hx hb d_S_sideOf_21 ?_
  refine lv_lsub hx hb d_S_sideOf_22 ?_
  exact W.lret (v := (((swx q) * (y - (sy q))) - ((swy q) * (x - (sx q))))) hx hb hrt (fun t ht hW => ⟨(((swx q) * (y - (sy q))) - ((swy q) * (x - (sx q)))), rfl, rfl, ht⟩) (fun q h => nomatch h) d_S_sideOf_23 hlocks
