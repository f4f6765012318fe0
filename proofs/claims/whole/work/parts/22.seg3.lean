theorem d_S_crossingKey_0 : decode c_S_crossingKey 0 = .ok (.aload_n 1, 1) := by decide +kernel
theorem d_S_crossingKey_1 : decode c_S_crossingKey 1 = .ok (.aload_n 0, 1) := by decide +kernel
theorem d_S_crossingKey_2 : decode c_S_crossingKey 2 = .ok (.getfield 9, 3) := by decide +kernel
theorem d_S_crossingKey_5 : decode c_S_crossingKey 5 = .ok (.aload_n 0, 1) := by decide +kernel
theorem d_S_crossingKey_6 : decode c_S_crossingKey 6 = .ok (.getfield 15, 3) := by decide +kernel
theorem d_S_crossingKey_9 : decode c_S_crossingKey 9 = .ok (.invokevirtual 66, 3) := by decide +kernel
theorem d_S_crossingKey_12 : decode c_S_crossingKey 12 = .ok (.invokestatic 69, 3) := by decide +kernel
theorem d_S_crossingKey_15 : decode c_S_crossingKey 15 = .ok (.lstore_n 2, 1) := by decide +kernel
theorem d_S_crossingKey_16 : decode c_S_crossingKey 16 = .ok (.lload_n 2, 1) := by decide +kernel
theorem d_S_crossingKey_17 : decode c_S_crossingKey 17 = .ok (.aload_n 1, 1) := by decide +kernel
theorem d_S_crossingKey_18 : decode c_S_crossingKey 18 = .ok (.aload_n 0, 1) := by decide +kernel
theorem d_S_crossingKey_19 : decode c_S_crossingKey 19 = .ok (.getfield 18, 3) := by decide +kernel
theorem d_S_crossingKey_22 : decode c_S_crossingKey 22 = .ok (.aload_n 0, 1) := by decide +kernel
theorem d_S_crossingKey_23 : decode c_S_crossingKey 23 = .ok (.getfield 21, 3) := by decide +kernel
theorem d_S_crossingKey_26 : decode c_S_crossingKey 26 = .ok (.invokevirtual 66, 3) := by decide +kernel
theorem d_S_crossingKey_29 : decode c_S_crossingKey 29 = .ok (.invokestatic 69, 3) := by decide +kernel
theorem d_S_crossingKey_32 : decode c_S_crossingKey 32 = .ok (.ladd, 1) := by decide +kernel
theorem d_S_crossingKey_33 : decode c_S_crossingKey 33 = .ok (.lstore 4, 2) := by decide +kernel
theorem d_S_crossingKey_35 : decode c_S_crossingKey 35 = .ok (.aload_n 0, 1) := by decide +kernel
theorem d_S_crossingKey_36 : decode c_S_crossingKey 36 = .ok (.getfield 9, 3) := by decide +kernel
theorem d_S_crossingKey_39 : decode c_S_crossingKey 39 = .ok (.aload_n 0, 1) := by decide +kernel
theorem d_S_crossingKey_40 : decode c_S_crossingKey 40 = .ok (.getfield 24, 3) := by decide +kernel
theorem d_S_crossingKey_43 : decode c_S_crossingKey 43 = .ok (.lload_n 2, 1) := by decide +kernel
theorem d_S_crossingKey_44 : decode c_S_crossingKey 44 = .ok (.lload 4, 2) := by decide +kernel
theorem d_S_crossingKey_46 : decode c_S_crossingKey 46 = .ok (.invokestatic 73, 3) := by decide +kernel
theorem d_S_crossingKey_49 : decode c_S_crossingKey 49 = .ok (.ladd, 1) := by decide +kernel
theorem d_S_crossingKey_50 : decode c_S_crossingKey 50 = .ok (.aload_n 0, 1) := by decide +kernel
theorem d_S_crossingKey_51 : decode c_S_crossingKey 51 = .ok (.getfield 15, 3) := by decide +kernel
theorem d_S_crossingKey_54 : decode c_S_crossingKey 54 = .ok (.aload_n 0, 1) := by decide +kernel
theorem d_S_crossingKey_55 : decode c_S_crossingKey 55 = .ok (.getfield 27, 3) := by decide +kernel
theorem d_S_crossingKey_58 : decode c_S_crossingKey 58 = .ok (.lload_n 2, 1) := by decide +kernel
theorem d_S_crossingKey_59 : decode c_S_crossingKey 59 = .ok (.lload 4, 2) := by decide +kernel
theorem d_S_crossingKey_61 : decode c_S_crossingKey 61 = .ok (.invokestatic 73, 3) := by decide +kernel
theorem d_S_crossingKey_64 : decode c_S_crossingKey 64 = .ok (.ladd, 1) := by decide +kernel
theorem d_S_crossingKey_65 : decode c_S_crossingKey 65 = .ok (.invokestatic 51, 3) := by decide +kernel
theorem d_S_crossingKey_68 : decode c_S_crossingKey 68 = .ok (.lreturn, 1) := by decide +kernel
theorem d_S_roundedPart_0 : decode c_S_roundedPart 0 = .ok (.lload_n 0, 1) := by decide +kernel
theorem d_S_roundedPart_1 : decode c_S_roundedPart 1 = .ok (.invokestatic 69, 3) := by decide +kernel
theorem d_S_roundedPart_4 : decode c_S_roundedPart 4 = .ok (.lstore 6, 2) := by decide +kernel
theorem d_S_roundedPart_6 : decode c_S_roundedPart 6 = .ok (.lconst 0, 1) := by decide +kernel
theorem d_S_roundedPart_7 : decode c_S_roundedPart 7 = .ok (.lstore 8, 2) := by decide +kernel
theorem d_S_roundedPart_9 : decode c_S_roundedPart 9 = .ok (.lconst 0, 1) := by decide +kernel
theorem d_S_roundedPart_10 : decode c_S_roundedPart 10 = .ok (.lstore 10, 2) := by decide +kernel
theorem d_S_roundedPart_12 : decode c_S_roundedPart 12 = .ok (.ldc2_w 77, 3) := by decide +kernel
theorem d_S_roundedPart_15 : decode c_S_roundedPart 15 = .ok (.lstore 12, 2) := by decide +kernel
theorem d_S_roundedPart_17 : decode c_S_roundedPart 17 = .ok (.lload 12, 2) := by decide +kernel
theorem d_S_roundedPart_19 : decode c_S_roundedPart 19 = .ok (.lconst 0, 1) := by decide +kernel
theorem d_S_roundedPart_20 : decode c_S_roundedPart 20 = .ok (.lcmp, 1) := by decide +kernel
theorem d_S_roundedPart_21 : decode c_S_roundedPart 21 = .ok (.ifCond .le 86, 3) := by decide +kernel
theorem d_S_roundedPart_24 : decode c_S_roundedPart 24 = .ok (.ldc2_w 60, 3) := by decide +kernel
theorem d_S_roundedPart_27 : decode c_S_roundedPart 27 = .ok (.lload 8, 2) := by decide +kernel
theorem d_S_roundedPart_29 : decode c_S_roundedPart 29 = .ok (.lmul, 1) := by decide +kernel
theorem d_S_roundedPart_30 : decode c_S_roundedPart 30 = .ok (.lstore 8, 2) := by decide +kernel
theorem d_S_roundedPart_32 : decode c_S_roundedPart 32 = .ok (.ldc2_w 60, 3) := by decide +kernel
theorem d_S_roundedPart_35 : decode c_S_roundedPart 35 = .ok (.lload 10, 2) := by decide +kernel
theorem d_S_roundedPart_37 : decode c_S_roundedPart 37 = .ok (.lmul, 1) := by decide +kernel
theorem d_S_roundedPart_38 : decode c_S_roundedPart 38 = .ok (.lload 6, 2) := by decide +kernel
theorem d_S_roundedPart_40 : decode c_S_roundedPart 40 = .ok (.lload 12, 2) := by decide +kernel
theorem d_S_roundedPart_42 : decode c_S_roundedPart 42 = .ok (.land, 1) := by decide +kernel
theorem d_S_roundedPart_43 : decode c_S_roundedPart 43 = .ok (.lconst 0, 1) := by decide +kernel
theorem d_S_roundedPart_44 : decode c_S_roundedPart 44 = .ok (.lcmp, 1) := by decide +kernel
theorem d_S_roundedPart_45 : decode c_S_roundedPart 45 = .ok (.ifCond .eq 7, 3) := by decide +kernel
theorem d_S_roundedPart_48 : decode c_S_roundedPart 48 = .ok (.lload_n 2, 1) := by decide +kernel
theorem d_S_roundedPart_49 : decode c_S_roundedPart 49 = .ok (.goto 4, 3) := by decide +kernel
theorem d_S_roundedPart_52 : decode c_S_roundedPart 52 = .ok (.lconst 0, 1) := by decide +kernel
theorem d_S_roundedPart_53 : decode c_S_roundedPart 53 = .ok (.ladd, 1) := by decide +kernel
theorem d_S_roundedPart_54 : decode c_S_roundedPart 54 = .ok (.lstore 10, 2) := by decide +kernel
theorem d_S_roundedPart_56 : decode c_S_roundedPart 56 = .ok (.lload 10, 2) := by decide +kernel
theorem d_S_roundedPart_58 : decode c_S_roundedPart 58 = .ok (.lload 4, 2) := by decide +kernel
theorem d_S_roundedPart_60 : decode c_S_roundedPart 60 = .ok (.lcmp, 1) := by decide +kernel
theorem d_S_roundedPart_61 : decode c_S_roundedPart 61 = .ok (.ifCond .lt 16, 3) := by decide +kernel
theorem d_S_roundedPart_64 : decode c_S_roundedPart 64 = .ok (.lload 10, 2) := by decide +kernel
theorem d_S_roundedPart_66 : decode c_S_roundedPart 66 = .ok (.lload 4, 2) := by decide +kernel
theorem d_S_roundedPart_68 : decode c_S_roundedPart 68 = .ok (.lsub, 1) := by decide +kernel
theorem d_S_roundedPart_69 : decode c_S_roundedPart 69 = .ok (.lstore 10, 2) := by decide +kernel
theorem d_S_roundedPart_71 : decode c_S_roundedPart 71 = .ok (.lload 8, 2) := by decide +kernel
theorem d_S_roundedPart_73 : decode c_S_roundedPart 73 = .ok (.lconst 1, 1) := by decide +kernel
theorem d_S_roundedPart_74 : decode c_S_roundedPart 74 = .ok (.ladd, 1) := by decide +kernel
theorem d_S_roundedPart_75 : decode c_S_roundedPart 75 = .ok (.lstore 8, 2) := by decide +kernel
theorem d_S_roundedPart_77 : decode c_S_roundedPart 77 = .ok (.lload 10, 2) := by decide +kernel
theorem d_S_roundedPart_79 : decode c_S_roundedPart 79 = .ok (.lload 4, 2) := by decide +kernel
theorem d_S_roundedPart_81 : decode c_S_roundedPart 81 = .ok (.lcmp, 1) := by decide +kernel
theorem d_S_roundedPart_82 : decode c_S_roundedPart 82 = .ok (.ifCond .lt 16, 3) := by decide +kernel
theorem d_S_roundedPart_85 : decode c_S_roundedPart 85 = .ok (.lload 10, 2) := by decide +kernel
theorem d_S_roundedPart_87 : decode c_S_roundedPart 87 = .ok (.lload 4, 2) := by decide +kernel
theorem d_S_roundedPart_89 : decode c_S_roundedPart 89 = .ok (.lsub, 1) := by decide +kernel
theorem d_S_roundedPart_90 : decode c_S_roundedPart 90 = .ok (.lstore 10, 2) := by decide +kernel
theorem d_S_roundedPart_92 : decode c_S_roundedPart 92 = .ok (.lload 8, 2) := by decide +kernel
theorem d_S_roundedPart_94 : decode c_S_roundedPart 94 = .ok (.lconst 1, 1) := by decide +kernel
theorem d_S_roundedPart_95 : decode c_S_roundedPart 95 = .ok (.ladd, 1) := by decide +kernel
theorem d_S_roundedPart_96 : decode c_S_roundedPart 96 = .ok (.lstore 8, 2) := by decide +kernel
theorem d_S_roundedPart_98 : decode c_S_roundedPart 98 = .ok (.lload 12, 2) := by decide +kernel
theorem d_S_roundedPart_100 : decode c_S_roundedPart 100 = .ok (.iconst 1, 1) := by decide +kernel
theorem d_S_roundedPart_101 : decode c_S_roundedPart 101 = .ok (.lshr, 1) := by decide +kernel
theorem d_S_roundedPart_102 : decode c_S_roundedPart 102 = .ok (.lstore 12, 2) := by decide +kernel
theorem d_S_roundedPart_104 : decode c_S_roundedPart 104 = .ok (.goto (-87), 3) := by decide +kernel
theorem d_S_roundedPart_107 : decode c_S_roundedPart 107 = .ok (.lload_n 0, 1) := by decide +kernel
theorem d_S_roundedPart_108 : decode c_S_roundedPart 108 = .ok (.lconst 0, 1) := by decide +kernel
theorem d_S_roundedPart_109 : decode c_S_roundedPart 109 = .ok (.lcmp, 1) := by decide +kernel
theorem d_S_roundedPart_110 : decode c_S_roundedPart 110 = .ok (.ifCond .ge 26, 3) := by decide +kernel
theorem d_S_roundedPart_113 : decode c_S_roundedPart 113 = .ok (.ldc2_w 60, 3) := by decide +kernel
theorem d_S_roundedPart_116 : decode c_S_roundedPart 116 = .ok (.lload 10, 2) := by decide +kernel
theorem d_S_roundedPart_118 : decode c_S_roundedPart 118 = .ok (.lmul, 1) := by decide +kernel
theorem d_S_roundedPart_119 : decode c_S_roundedPart 119 = .ok (.lload 4, 2) := by decide +kernel
theorem d_S_roundedPart_121 : decode c_S_roundedPart 121 = .ok (.lcmp, 1) := by decide +kernel
theorem d_S_roundedPart_122 : decode c_S_roundedPart 122 = .ok (.ifCond .le 10, 3) := by decide +kernel
theorem d_S_roundedPart_125 : decode c_S_roundedPart 125 = .ok (.lload 8, 2) := by decide +kernel
theorem d_S_roundedPart_127 : decode c_S_roundedPart 127 = .ok (.lconst 1, 1) := by decide +kernel
theorem d_S_roundedPart_128 : decode c_S_roundedPart 128 = .ok (.ladd, 1) := by decide +kernel
theorem d_S_roundedPart_129 : decode c_S_roundedPart 129 = .ok (.goto 5, 3) := by decide +kernel
theorem d_S_roundedPart_132 : decode c_S_roundedPart 132 = .ok (.lload 8, 2) := by decide +kernel
theorem d_S_roundedPart_134 : decode c_S_roundedPart 134 = .ok (.lneg, 1) := by decide +kernel
theorem d_S_roundedPart_135 : decode c_S_roundedPart 135 = .ok (.lreturn, 1) := by decide +kernel
theorem d_S_roundedPart_136 : decode c_S_roundedPart 136 = .ok (.ldc2_w 60, 3) := by decide +kernel
theorem d_S_roundedPart_139 : decode c_S_roundedPart 139 = .ok (.lload 10, 2) := by decide +kernel
theorem d_S_roundedPart_141 : decode c_S_roundedPart 141 = .ok (.lmul, 1) := by decide +kernel
theorem d_S_roundedPart_142 : decode c_S_roundedPart 142 = .ok (.lload 4, 2) := by decide +kernel
theorem d_S_roundedPart_144 : decode c_S_roundedPart 144 = .ok (.lcmp, 1) := by decide +kernel
theorem d_S_roundedPart_145 : decode c_S_roundedPart 145 = .ok (.ifCond .lt 10, 3) := by decide +kernel
theorem d_S_roundedPart_148 : decode c_S_roundedPart 148 = .ok (.lload 8, 2) := by decide +kernel
theorem d_S_roundedPart_150 : decode c_S_roundedPart 150 = .ok (.lconst 1, 1) := by decide +kernel
theorem d_S_roundedPart_151 : decode c_S_roundedPart 151 = .ok (.ladd, 1) := by decide +kernel
theorem d_S_roundedPart_152 : decode c_S_roundedPart 152 = .ok (.goto 5, 3) := by decide +kernel
theorem d_S_roundedPart_155 : decode c_S_roundedPart 155 = .ok (.lload 8, 2) := by decide +kernel
theorem d_S_roundedPart_157 : decode c_S_roundedPart 157 = .ok (.lreturn, 1) := by decide +kernel
def ab64 (x : Int64) : Int64 := if 0 < x then x else -x
def rp_bit (k : Nat) : Int64 := if k = 0 then 0 else lN (2 ^ (k - 1))
def rp_sub (whole : Int64) (s : Int64 × Int64) : Int64 × Int64 := if s.2 < whole then s else (s.1 + 1, s.2 - whole)
/-- the bits that are left, from the highest: the part so far, what is left of it -/
def rp_go (len share whole : Int64) : Nat → Int64 × Int64 → Int64 × Int64
  | 0, s => s
  | k + 1, s => rp_go len share whole k (rp_sub whole (rp_sub whole (2 * s.1, 2 * s.2 + (if len &&& rp_bit (k + 1) = 0 then 0 else share))))
def rp_all (way share whole : Int64) : Int64 × Int64 := rp_go (ab64 way) share whole 30 (0, 0)
def sg_rp (way share whole : Int64) : Int64 :=
  if way < 0 then -(if whole < 2 * (rp_all way share whole).2 then (rp_all way share whole).1 + 1 else (rp_all way share whole).1)
  else (if 2 * (rp_all way share whole).2 < whole then (rp_all way share whole).1 else (rp_all way share whole).1 + 1)
theorem rp_bit_pos : ∀ k : Nat, k < 30 → 0 < rp_bit (k + 1) := by decide
theorem rp_bit_shr : ∀ k : Nat, k < 30 → rp_bit (k + 1) >>> (Int32.toInt64 1 &&& 63) = rp_bit k := by decide
set_option maxHeartbeats 4000000 in
set_option maxRecDepth 100000 in
theorem k_S_roundedPart (l : Launch) (D : va_G) (E : ClassId × ClassId × ClassId × ClassId) (wy sh wh : Int64) : Met l y_S_roundedPart (.code y_S_roundedPart c_S_roundedPart 14 (some .long) :: gw) ({ frames := 1, cells := 0, slots := 0, locals := 15 } : Room) (rP D E [] [.long wy, .long sh, .long wh]) (vp_Sl (fun r => r = sg_rp wy sh wh)) 0 0 (fun _ => False) := by
  refine rd_ofW (by decide) (Nat.le_of_ble_eq_true rfl) ?_
  intro p e s m below meth c B hP hK ls hl
  obtain ⟨hx, hb, hrt, hml, hown, hts, hG, hlocks, hin⟩ := B
  have hl : lv_has ls 14 [(0, .long wy), (2, .long sh), (4, .long wh)] := hl
  refine lv_lload_n hx hb d_S_roundedPart_0 rfl (lv_at hl 0 rfl) ?_
  refine va_mabs_long hx hb (hml.trans hl.1.symm) hown (hG _ wd_455) (hG _ wd_456) (hG _ wd_49) (hG _ wd_457) (Nat.le_of_ble_eq_true rfl) (Nat.le_of_ble_eq_true rfl) (Nat.le_of_ble_eq_true rfl) (Nat.le_of_ble_eq_true rfl) d_S_roundedPart_1 ?_
  change W _ _ _ _ _ _ _ _ _ _ _ _ _ _ _ (F0 m 4 ls [.long (ab64 wy)])
  refine lv_lstore (lv' := [(6, .long (ab64 wy)), (0, .long wy), (2, .long sh), (4, .long wh)]) hx hb d_S_roundedPart_4 hl (by decide) rfl (fun ls hl => ?_)
  refine lv_lconst (v := 0) hx hb d_S_roundedPart_6 (by decide) ?_
  refine lv_lstore (lv' := [(8, .long 0), (6, .long (ab64 wy)), (0, .long wy), (2, .long sh), (4, .long wh)]) hx hb d_S_roundedPart_7 hl (by decide) rfl (fun ls hl => ?_)
  refine lv_lconst (v := 0) hx hb d_S_roundedPart_9 (by decide) ?_
  refine lv_lstore (lv' := [(10, .long 0), (8, .long 0), (6, .long (ab64 wy)), (0, .long wy), (2, .long sh), (4, .long wh)]) hx hb d_S_roundedPart_10 hl (by decide) rfl (fun ls hl => ?_)
  refine lv_ldc2 hx hb hown (hG _ wd_461) d_S_roundedPart_12 ?_
  refine lv_lstore (lv' := [(12, .long 536870912), (10, .long 0), (8, .long 0), (6, .long (ab64 wy)), (0, .long wy), (2, .long sh), (4, .long wh)]) hx hb d_S_roundedPart_15 hl (by decide) rfl (fun ls hl => ?_)
  obtain ⟨pl, hpl⟩ : ∃ o, o = rp_all wy sh wh := ⟨_, rfl⟩
  have loop : ∀ (fu : Nat) (pa : Int64) (lf : Int64) (ls : Array Slot), (fu ≤ 30) → (rp_go (ab64 wy) sh wh fu (pa, lf) = pl) → lv_has ls 14 [(0, .long wy), (2, .long sh), (4, .long wh), (6, .long (ab64 wy)), (8, .long pa), (10, .long lf), (12, .long (rp_bit fu))] → W p l e ({ frames := 1, cells := 0, slots := 0, locals := 15 } : Room) s m ([.long wy, .long sh, .long wh] : List Value).toArray below meth c s.heap [] 0 0 (MQ below (vp_Sl (fun r => r = sg_rp wy sh wh)) ([.long wy, .long sh, .long wh] : List Value).toArray s 0 0 (fun _ => False)) (F0 m 17 ls []) := by
    intro fu
    induction fu with
    | zero =>
      intro pa lf ls h1 h2 hl
      have h2 : (pa, lf) = pl := h2
      have e1 : pl.1 = pa := by rw [← h2]
      have e2 : pl.2 = lf := by rw [← h2]
      refine lv_lload hx hb d_S_roundedPart_17 (lv_at hl 6 rfl) ?_
      refine lv_lconst (v := 0) hx hb d_S_roundedPart_19 (by decide) ?_
      refine W.lcmp hx hb d_S_roundedPart_20 ?_
      refine lv_if_le (tgt := 107) hx hb d_S_roundedPart_21 (by decide) (fun c0 => ?_) (fun c0 => ?_)
      · refine lv_lload_n hx hb d_S_roundedPart_107 rfl (lv_at hl 0 rfl) ?_
        refine lv_lconst (v := 0) hx hb d_S_roundedPart_108 (by decide) ?_
        refine W.lcmp hx hb d_S_roundedPart_109 ?_
        refine lv_if_ge (tgt := 136) hx hb d_S_roundedPart_110 (by decide) (fun c1 => ?_) (fun c1 => ?_)
        · refine lv_ldc2 hx hb hown (hG _ wd_462) d_S_roundedPart_136 ?_
          refine lv_lload hx hb d_S_roundedPart_139 (lv_at hl 5 rfl) ?_
          refine lv_lmul hx hb d_S_roundedPart_141 ?_
          refine lv_lload hx hb d_S_roundedPart_142 (lv_at hl 2 rfl) ?_
          refine W.lcmp hx hb d_S_roundedPart_144 ?_
          refine lv_if_lt (tgt := 155) hx hb d_S_roundedPart_145 (by decide) (fun c2 => ?_) (fun c2 => ?_)
          · refine lv_lload hx hb d_S_roundedPart_155 (lv_at hl 4 rfl) ?_
            exact W.lret (v := pa) hx hb hrt (fun t ht hW => ⟨pa, rfl, by rw [sg_rp, if_neg (lg_ge.mp c1), ← hpl, e1, e2, if_pos (lg_lt.mp c2)], ht⟩) (fun q h => nomatch h) d_S_roundedPart_157 hlocks
          · refine lv_lload hx hb d_S_roundedPart_148 (lv_at hl 4 rfl) ?_
            refine lv_lconst (v := 1) hx hb d_S_roundedPart_150 (by decide) ?_
            refine lv_ladd hx hb d_S_roundedPart_151 ?_
            refine lv_goto (tgt := 157) hx hb d_S_roundedPart_152 (by decide) ?_
            exact W.lret (v := (pa + 1)) hx hb hrt (fun t ht hW => ⟨(pa + 1), rfl, by rw [sg_rp, if_neg (lg_ge.mp c1), ← hpl, e1, e2, if_neg (fun h => c2 (lg_lt.mpr h))], ht⟩) (fun q h => nomatch h) d_S_roundedPart_157 hlocks
        · refine lv_ldc2 hx hb hown (hG _ wd_462) d_S_roundedPart_113 ?_
          refine lv_lload hx hb d_S_roundedPart_116 (lv_at hl 5 rfl) ?_
          refine lv_lmul hx hb d_S_roundedPart_118 ?_
          refine lv_lload hx hb d_S_roundedPart_119 (lv_at hl 2 rfl) ?_
          refine W.lcmp hx hb d_S_roundedPart_121 ?_
          refine lv_if_le (tgt := 132) hx hb d_S_roundedPart_122 (by decide) (fun c2 => ?_) (fun c2 => ?_)
          · refine lv_lload hx hb d_S_roundedPart_132 (lv_at hl 4 rfl) ?_
            refine lv_lneg hx hb d_S_roundedPart_134 ?_
            exact W.lret (v := (-pa)) hx hb hrt (fun t ht hW => ⟨(-pa), rfl, by rw [sg_rp, if_pos (lg_ge' c1), ← hpl, e1, e2, if_neg (lg_le.mp c2)], ht⟩) (fun q h => nomatch h) d_S_roundedPart_135 hlocks
          · refine lv_lload hx hb d_S_roundedPart_125 (lv_at hl 4 rfl) ?_
            refine lv_lconst (v := 1) hx hb d_S_roundedPart_127 (by decide) ?_
            refine lv_ladd hx hb d_S_roundedPart_128 ?_
            refine lv_goto (tgt := 134) hx hb d_S_roundedPart_129 (by decide) ?_
            refine lv_lneg hx hb d_S_roundedPart_134 ?_
            exact W.lret (v := (-(pa + 1))) hx hb hrt (fun t ht hW => ⟨(-(pa + 1)), rfl, by rw [sg_rp, if_pos (lg_ge' c1), ← hpl, e1, e2, if_pos (lg_le' c2)], ht⟩) (fun q h => nomatch h) d_S_roundedPart_135 hlocks
      · exact absurd (by decide) c0
    | succ fu ih =>
      intro pa lf ls h1 h2 hl
      rw [rp_go] at h2
      refine lv_lload hx hb d_S_roundedPart_17 (lv_at hl 6 rfl) ?_
      refine lv_lconst (v := 0) hx hb d_S_roundedPart_19 (by decide) ?_
      refine W.lcmp hx hb d_S_roundedPart_20 ?_
      refine lv_if_le (tgt := 107) hx hb d_S_roundedPart_21 (by decide) (fun c0 => ?_) (fun c0 => ?_)
      · exact absurd (lg_le.mp c0) (fun h => h (rp_bit_pos fu (by omega)))
      · refine lv_ldc2 hx hb hown (hG _ wd_462) d_S_roundedPart_24 ?_
        refine lv_lload hx hb d_S_roundedPart_27 (lv_at hl 4 rfl) ?_
        refine lv_lmul hx hb d_S_roundedPart_29 ?_
        refine lv_lstore (lv' := [(8, .long (2 * pa)), (0, .long wy), (2, .long sh), (4, .long wh), (6, .long (ab64 wy)), (10, .long lf), (12, .long (rp_bit (fu + 1)))]) hx hb d_S_roundedPart_30 hl (by decide) rfl (fun ls hl => ?_)
        refine lv_ldc2 hx hb hown (hG _ wd_462) d_S_roundedPart_32 ?_
        refine lv_lload hx hb d_S_roundedPart_35 (lv_at hl 5 rfl) ?_
        refine lv_lmul hx hb d_S_roundedPart_37 ?_
        refine lv_lload hx hb d_S_roundedPart_38 (lv_at hl 4 rfl) ?_
        refine lv_lload hx hb d_S_roundedPart_40 (lv_at hl 6 rfl) ?_
        refine lv_land hx hb d_S_roundedPart_42 ?_
        refine lv_lconst (v := 0) hx hb d_S_roundedPart_43 (by decide) ?_
        refine W.lcmp hx hb d_S_roundedPart_44 ?_
        have J3 : ∀ (p3 : Int64) (l3 : Int64) (ls : Array Slot), (rp_go (ab64 wy) sh wh fu (p3, l3) = pl) → lv_has ls 14 [(0, .long wy), (2, .long sh), (4, .long wh), (6, .long (ab64 wy)), (8, .long p3), (10, .long l3), (12, .long (rp_bit (fu + 1)))] → W p l e ({ frames := 1, cells := 0, slots := 0, locals := 15 } : Room) s m ([.long wy, .long sh, .long wh] : List Value).toArray below meth c s.heap [] 0 0 (MQ below (vp_Sl (fun r => r = sg_rp wy sh wh)) ([.long wy, .long sh, .long wh] : List Value).toArray s 0 0 (fun _ => False)) (F0 m 98 ls []) := by
          intro p3 l3 ls h3 hl
          refine lv_lload hx hb d_S_roundedPart_98 (lv_at hl 6 rfl) ?_
          refine lv_iconst (v := 1) hx hb d_S_roundedPart_100 (by decide) ?_
          refine lv_lshr hx hb d_S_roundedPart_101 rfl ?_
          rw [show ((rp_bit (fu + 1)) >>> (Int32.toInt64 1 &&& 63)) = (rp_bit fu) from rp_bit_shr fu (by omega)]
          refine lv_lstore (lv' := [(12, .long (rp_bit fu)), (0, .long wy), (2, .long sh), (4, .long wh), (6, .long (ab64 wy)), (8, .long p3), (10, .long l3)]) hx hb d_S_roundedPart_102 hl (by decide) rfl (fun ls hl => ?_)
          refine lv_goto (tgt := 17) hx hb d_S_roundedPart_104 (by decide) ?_
          exact ih p3 l3 ls (by omega) h3 (lv_sub hl [1, 2, 3, 4, 5, 6, 0] rfl)
        have J2 : ∀ (p2 : Int64) (l2 : Int64) (ls : Array Slot), (rp_go (ab64 wy) sh wh fu (rp_sub wh (p2, l2)) = pl) → lv_has ls 14 [(0, .long wy), (2, .long sh), (4, .long wh), (6, .long (ab64 wy)), (8, .long p2), (10, .long l2), (12, .long (rp_bit (fu + 1)))] → W p l e ({ frames := 1, cells := 0, slots := 0, locals := 15 } : Room) s m ([.long wy, .long sh, .long wh] : List Value).toArray below meth c s.heap [] 0 0 (MQ below (vp_Sl (fun r => r = sg_rp wy sh wh)) ([.long wy, .long sh, .long wh] : List Value).toArray s 0 0 (fun _ => False)) (F0 m 77 ls []) := by
          intro p2 l2 ls h3 hl
          refine lv_lload hx hb d_S_roundedPart_77 (lv_at hl 5 rfl) ?_
          refine lv_lload hx hb d_S_roundedPart_79 (lv_at hl 2 rfl) ?_
          refine W.lcmp hx hb d_S_roundedPart_81 ?_
          refine lv_if_lt (tgt := 98) hx hb d_S_roundedPart_82 (by decide) (fun c2 => ?_) (fun c2 => ?_)
          · rw [rp_sub, if_pos (lg_lt.mp c2)] at h3
            exact J3 p2 l2 ls h3 (lv_sub hl [0, 1, 2, 3, 4, 5, 6] rfl)
          · rw [rp_sub, if_neg (fun h => c2 (lg_lt.mpr h))] at h3
            refine lv_lload hx hb d_S_roundedPart_85 (lv_at hl 5 rfl) ?_
            refine lv_lload hx hb d_S_roundedPart_87 (lv_at hl 2 rfl) ?_
            refine lv_lsub hx hb d_S_roundedPart_89 ?_
            refine lv_lstore (lv' := [(10, .long (l2 - wh)), (0, .long wy), (2, .long sh), (4, .long wh), (6, .long (ab64 wy)), (8, .long p2), (12, .long (rp_bit (fu + 1)))]) hx hb d_S_roundedPart_90 hl (by decide) rfl (fun ls hl => ?_)
            refine lv_lload hx hb d_S_roundedPart_92 (lv_at hl 5 rfl) ?_
            refine lv_lconst (v := 1) hx hb d_S_roundedPart_94 (by decide) ?_
            refine lv_ladd hx hb d_S_roundedPart_95 ?_
            refine lv_lstore (lv' := [(8, .long (p2 + 1)), (10, .long (l2 - wh)), (0, .long wy), (2, .long sh), (4, .long wh), (6, .long (ab64 wy)), (12, .long (rp_bit (fu + 1)))]) hx hb d_S_roundedPart_96 hl (by decide) rfl (fun ls hl => ?_)
            exact J3 _ _ ls h3 (lv_sub hl [2, 3, 4, 5, 0, 1, 6] rfl)
        have J1 : ∀ (ad : Int64) (ls : Array Slot), ((if ab64 wy &&& rp_bit (fu + 1) = 0 then 0 else sh) = ad) → lv_has ls 14 [(0, .long wy), (2, .long sh), (4, .long wh), (6, .long (ab64 wy)), (8, .long (2 * pa)), (12, .long (rp_bit (fu + 1)))] → W p l e ({ frames := 1, cells := 0, slots := 0, locals := 15 } : Room) s m ([.long wy, .long sh, .long wh] : List Value).toArray below meth c s.heap [] 0 0 (MQ below (vp_Sl (fun r => r = sg_rp wy sh wh)) ([.long wy, .long sh, .long wh] : List Value).toArray s 0 0 (fun _ => False)) (F0 m 53 ls [.long ad, .long (2 * lf)]) := by
          intro ad ls h3 hl
          rw [h3] at h2
          refine lv_ladd hx hb d_S_roundedPart_53 ?_
          refine lv_lstore (lv' := [(10, .long ((2 * lf) + ad)), (0, .long wy), (2, .long sh), (4, .long wh), (6, .long (ab64 wy)), (8, .long (2 * pa)), (12, .long (rp_bit (fu + 1)))]) hx hb d_S_roundedPart_54 hl (by decide) rfl (fun ls hl => ?_)
          refine lv_lload hx hb d_S_roundedPart_56 (lv_at hl 0 rfl) ?_
          refine lv_lload hx hb d_S_roundedPart_58 (lv_at hl 3 rfl) ?_
          refine W.lcmp hx hb d_S_roundedPart_60 ?_
          refine lv_if_lt (tgt := 77) hx hb d_S_roundedPart_61 (by decide) (fun c1 => ?_) (fun c1 => ?_)
          · rw [show rp_sub wh (2 * pa, 2 * lf + ad) = (2 * pa, 2 * lf + ad) from if_pos (lg_lt.mp c1)] at h2
            exact J2 _ _ ls h2 (lv_sub hl [1, 2, 3, 4, 5, 0, 6] rfl)
          · rw [show rp_sub wh (2 * pa, 2 * lf + ad) = (2 * pa + 1, 2 * lf + ad - wh) from if_neg (fun h => c1 (lg_lt.mpr h))] at h2
            refine lv_lload hx hb d_S_roundedPart_64 (lv_at hl 0 rfl) ?_
            refine lv_lload hx hb d_S_roundedPart_66 (lv_at hl 3 rfl) ?_
            refine lv_lsub hx hb d_S_roundedPart_68 ?_
            refine lv_lstore (lv' := [(10, .long (((2 * lf) + ad) - wh)), (0, .long wy), (2, .long sh), (4, .long wh), (6, .long (ab64 wy)), (8, .long (2 * pa)), (12, .long (rp_bit (fu + 1)))]) hx hb d_S_roundedPart_69 hl (by decide) rfl (fun ls hl => ?_)
            refine lv_lload hx hb d_S_roundedPart_71 (lv_at hl 5 rfl) ?_
            refine lv_lconst (v := 1) hx hb d_S_roundedPart_73 (by decide) ?_
            refine lv_ladd hx hb d_S_roundedPart_74 ?_
            refine lv_lstore (lv' := [(8, .long ((2 * pa) + 1)), (10, .long (((2 * lf) + ad) - wh)), (0, .long wy), (2, .long sh), (4, .long wh), (6, .long (ab64 wy)), (12, .long (rp_bit (fu + 1)))]) hx hb d_S_roundedPart_75 hl (by decide) rfl (fun ls hl => ?_)
            exact J2 _ _ ls h2 (lv_sub hl [2, 3, 4, 5, 0, 1, 6] rfl)
        refine lv_if_eq (tgt := 52) hx hb d_S_roundedPart_45 (by decide) (fun c1 => ?_) (fun c1 => ?_)
        · refine lv_lconst (v := 0) hx hb d_S_roundedPart_52 (by decide) ?_
          exact J1 0 ls (if_pos (lg_eq.mp c1)) (lv_sub hl [1, 2, 3, 4, 0, 6] rfl)
        · refine lv_lload_n hx hb d_S_roundedPart_48 rfl (lv_at hl 2 rfl) ?_
          refine lv_goto (tgt := 53) hx hb d_S_roundedPart_49 (by decide) ?_
          exact J1 sh ls (if_neg (fun h => c1 (lg_eq.mpr h))) (lv_sub hl [1, 2, 3, 4, 0, 6] rfl)
  exact loop 30 0 0 ls (by omega) hpl.symm (lv_sub hl [4, 5, 6, 3, 2, 1, 0] rfl)
def sg_before (q o : SQ) : Int64 := ab64 (sg_side o (sx q) (sy q))
def sg_whole (q o : SQ) : Int64 := sg_before q o + ab64 (sg_side o (su q) (sv q))
def sg_ck (q o : SQ) : Int64 := sg_key (sx q + sg_rp (swx q) (sg_before q o) (sg_whole q o)) (sy q + sg_rp (swy q) (sg_before q o) (sg_whole q o))
set_option maxHeartbeats 4000000 in
set_option maxRecDepth 100000 in
theorem k_S_crossingKey (l : Launch) (D : va_G) (E : ClassId × ClassId × ClassId × ClassId) (h0 h1 : Nat) (q o : SQ) : Met l y_S_crossingKey (.code y_S_crossingKey c_S_crossingKey 6 (some .long) :: gw) ({ frames := 2, cells := 0, slots := 0, locals := 60 } : Room) (rP D E [(h0, .inr (1, sgF q)), (h1, .inr (1, sgF o))] [.ref h0, .ref h1]) (vp_Sl (fun r => r = sg_ck q o)) 0 0 (fun _ => False) := by
  refine rd_ofW (by decide) (Nat.le_of_ble_eq_true rfl) ?_
  intro p e s m below meth c B hP hK ls hl
  obtain ⟨hx, hb, hrt, hml, hown, hts, hG, hlocks, hin⟩ := B
  have hl : lv_has ls 6 [(0, .ref h0), (1, .ref h1)] := hl
  refine lv_aload_n hx hb d_S_crossingKey_0 rfl (lv_at hl 1 rfl) ?_
  refine lv_aload_n hx hb d_S_crossingKey_1 rfl (lv_at hl 0 rfl) ?_
  refine va_get (D := D) (ci := 1) (v := .long (sx q)) (C := K_S) (T := F_S) (N := 10) hx hb hG in_S hown hK.1 hP 0 rfl rfl 0 (by decide) (hG _ wd_270) (fun _ h9 => h9) rfl d_S_crossingKey_2 ?_
  refine lv_aload_n hx hb d_S_crossingKey_5 rfl (lv_at hl 0 rfl) ?_
  refine va_get (D := D) (ci := 1) (v := .long (sy q)) (C := K_S) (T := F_S) (N := 10) hx hb hG in_S hown hK.1 hP 0 rfl rfl 1 (by decide) (hG _ wd_271) (fun _ h9 => h9) rfl d_S_crossingKey_6 ?_
  have hPc := hP.sub (ws' := [(h1, .inr (1, sgF o))]) [1] rfl
  refine vp_callSl (W.runV (As := [.long (sx q), .long (sy q)]) (rest := []) ⟨hx, hb, hml, hown, hts⟩ (k_S_sideOf l D E h1 o (sx q) (sy q)) (cwV 2 hts (gw_gv wd_447 wd_449 wd_11 wd_48 wd_450) rfl rfl rfl (by decide +kernel) ⟨Nat.le_of_ble_eq_true rfl, Nat.le_of_ble_eq_true rfl⟩) (rP_V 0 hPc hK rfl rfl) rfl rfl hl.1 rfl (lv_room (Nat.le_of_ble_eq_true rfl)) d_S_crossingKey_9 ⟨Nat.le_of_ble_eq_true rfl, Nat.le_of_ble_eq_true rfl⟩) (fun r1 hr1 => ?_)
  subst hr1
  refine va_mabs_long hx hb (hml.trans hl.1.symm) hown (hG _ wd_455) (hG _ wd_456) (hG _ wd_49) (hG _ wd_457) (Nat.le_of_ble_eq_true rfl) (Nat.le_of_ble_eq_true rfl) (Nat.le_of_ble_eq_true rfl) (Nat.le_of_ble_eq_true rfl) d_S_crossingKey_12 ?_
  change W _ _ _ _ _ _ _ _ _ _ _ _ _ _ _ (F0 m 15 ls [.long (sg_before q o)])
  refine lv_lstore_n (lv' := [(2, .long (sg_before q o)), (0, .ref h0), (1, .ref h1)]) hx hb d_S_crossingKey_15 rfl hl (by decide) rfl (fun ls hl => ?_)
  refine lv_lload_n hx hb d_S_crossingKey_16 rfl (lv_at hl 0 rfl) ?_
  refine lv_aload_n hx hb d_S_crossingKey_17 rfl (lv_at hl 2 rfl) ?_
  refine lv_aload_n hx hb d_S_crossingKey_18 rfl (lv_at hl 1 rfl) ?_
  refine va_get (D := D) (ci := 1) (v := .long (su q)) (C := K_S) (T := F_S) (N := 10) hx hb hG in_S hown hK.1 hP 0 rfl rfl 2 (by decide) (hG _ wd_272) (fun _ h9 => h9) rfl d_S_crossingKey_19 ?_
  refine lv_aload_n hx hb d_S_crossingKey_22 rfl (lv_at hl 1 rfl) ?_
  refine va_get (D := D) (ci := 1) (v := .long (sv q)) (C := K_S) (T := F_S) (N := 10) hx hb hG in_S hown hK.1 hP 0 rfl rfl 3 (by decide) (hG _ wd_273) (fun _ h9 => h9) rfl d_S_crossingKey_23 ?_
  have hPc := hP.sub (ws' := [(h1, .inr (1, sgF o))]) [1] rfl
  refine vp_callSl (W.runV (As := [.long (su q), .long (sv q)]) (rest := [.long (sg_before q o)]) ⟨hx, hb, hml, hown, hts⟩ (k_S_sideOf l D E h1 o (su q) (sv q)) (cwV 2 hts (gw_gv wd_447 wd_449 wd_11 wd_48 wd_450) rfl rfl rfl (by decide +kernel) ⟨Nat.le_of_ble_eq_true rfl, Nat.le_of_ble_eq_true rfl⟩) (rP_V 0 hPc hK rfl rfl) rfl rfl hl.1 rfl (lv_room (Nat.le_of_ble_eq_true rfl)) d_S_crossingKey_26 ⟨Nat.le_of_ble_eq_true rfl, Nat.le_of_ble_eq_true rfl⟩) (fun r2 hr2 => ?_)
  subst hr2
  refine va_mabs_long hx hb (hml.trans hl.1.symm) hown (hG _ wd_455) (hG _ wd_456) (hG _ wd_49) (hG _ wd_457) (Nat.le_of_ble_eq_true rfl) (Nat.le_of_ble_eq_true rfl) (Nat.le_of_ble_eq_true rfl) (Nat.le_of_ble_eq_true rfl) d_S_crossingKey_29 ?_
  refine lv_ladd hx hb d_S_crossingKey_32 ?_
  change W _ _ _ _ _ _ _ _ _ _ _ _ _ _ _ (F0 m 33 ls [.long (sg_whole q o)])
  refine lv_lstore (lv' := [(4, .long (sg_whole q o)), (2, .long (sg_before q o)), (0, .ref h0), (1, .ref h1)]) hx hb d_S_crossingKey_33 hl (by decide) rfl (fun ls hl => ?_)
  refine lv_aload_n hx hb d_S_crossingKey_35 rfl (lv_at hl 2 rfl) ?_
  refine va_get (D := D) (ci := 1) (v := .long (sx q)) (C := K_S) (T := F_S) (N := 10) hx hb hG in_S hown hK.1 hP 0 rfl rfl 0 (by decide) (hG _ wd_270) (fun _ h9 => h9) rfl d_S_crossingKey_36 ?_
  refine lv_aload_n hx hb d_S_crossingKey_39 rfl (lv_at hl 2 rfl) ?_
  refine va_get (D := D) (ci := 1) (v := .long (swx q)) (C := K_S) (T := F_S) (N := 10) hx hb hG in_S hown hK.1 hP 0 rfl rfl 4 (by decide) (hG _ wd_274) (fun _ h9 => h9) rfl d_S_crossingKey_40 ?_
  refine lv_lload_n hx hb d_S_crossingKey_43 rfl (lv_at hl 1 rfl) ?_
  refine lv_lload hx hb d_S_crossingKey_44 (lv_at hl 0 rfl) ?_
  have hPc := hP.sub (ws' := []) [] rfl
  refine vp_callSl (W.runS (As := [.long (swx q), .long (sg_before q o), .long (sg_whole q o)]) (rest := [.long (sx q)]) ⟨hx, hb, hml, hown, hts⟩ (k_S_roundedPart l D E (swx q) (sg_before q o) (sg_whole q o)) (va_cwS 3 hts (gw_gs wd_458 wd_459 wd_48 wd_460) rfl rfl rfl (by decide +kernel) ⟨Nat.le_of_ble_eq_true rfl, Nat.le_of_ble_eq_true rfl⟩) (rP_S hPc hK) rfl rfl hl.1 rfl (lv_room (Nat.le_of_ble_eq_true rfl)) d_S_crossingKey_46 ⟨Nat.le_of_ble_eq_true rfl, Nat.le_of_ble_eq_true rfl⟩) (fun r3 hr3 => ?_)
  subst hr3
  refine lv_ladd hx hb d_S_crossingKey_49 ?_
  refine lv_aload_n hx hb d_S_crossingKey_50 rfl (lv_at hl 2 rfl) ?_
  refine va_get (D := D) (ci := 1) (v := .long (sy q)) (C := K_S) (T := F_S) (N := 10) hx hb hG in_S hown hK.1 hP 0 rfl rfl 1 (by decide) (hG _ wd_271) (fun _ h9 => h9) rfl d_S_crossingKey_51 ?_
  refine lv_aload_n hx hb d_S_crossingKey_54 rfl (lv_at hl 2 rfl) ?_
  refine va_get (D := D) (ci := 1) (v := .long (swy q)) (C := K_S) (T := F_S) (N := 10) hx hb hG in_S hown hK.1 hP 0 rfl rfl 5 (by decide) (hG _ wd_275) (fun _ h9 => h9) rfl d_S_crossingKey_55 ?_
  refine lv_lload_n hx hb d_S_crossingKey_58 rfl (lv_at hl 1 rfl) ?_
  refine lv_lload hx hb d_S_crossingKey_59 (lv_at hl 0 rfl) ?_
  have hPc := hP.sub (ws' := []) [] rfl
  refine vp_callSl (W.runS (As := [.long (swy q), .long (sg_before q o), .long (sg_whole q o)]) (rest := [.long (sy q), .long ((sx q) + (sg_rp (swx q) (sg_before q o) (sg_whole q o)))]) ⟨hx, hb, hml, hown, hts⟩ (k_S_roundedPart l D E (swy q) (sg_before q o) (sg_whole q o)) (va_cwS 3 hts (gw_gs wd_458 wd_459 wd_48 wd_460) rfl rfl rfl (by decide +kernel) ⟨Nat.le_of_ble_eq_true rfl, Nat.le_of_ble_eq_true rfl⟩) (rP_S hPc hK) rfl rfl hl.1 rfl (lv_room (Nat.le_of_ble_eq_true rfl)) d_S_crossingKey_61 ⟨Nat.le_of_ble_eq_true rfl, Nat.le_of_ble_eq_true rfl⟩) (fun r4 hr4 => ?_)
  subst hr4
  refine lv_ladd hx hb d_S_crossingKey_64 ?_
  refine vp_callSl (run_of (va_runSN (host := "PixelSnapper") (As := [.long ((sx q) + (sg_rp (swx q) (sg_before q o) (sg_whole q o))), .long ((sy q) + (sg_rp (swy q) (sg_before q o) (sg_whole q o)))]) (rest := []) ⟨hx, hb, hml, hown, hts⟩ (k_P_keyOf l D E (sx q + sg_rp (swx q) (sg_before q o) (sg_whole q o)) (sy q + sg_rp (swy q) (sg_before q o) (sg_whole q o))) ⟨va_cnB 2 hts (gw_gi wd_389) rfl rfl rfl (gf_nest hK.2) (hG _ wd_37) (by decide +kernel) ⟨Nat.le_of_ble_eq_true rfl, Nat.le_of_ble_eq_true rfl⟩, hG _ wd_388, trivial⟩ (rP_S (hP.sub (ws' := []) [] rfl) hK) rfl rfl hl.1 rfl (lv_room (Nat.le_of_ble_eq_true rfl)) d_S_crossingKey_65 ⟨Nat.le_of_ble_eq_true rfl, Nat.le_of_ble_eq_true rfl⟩)) (fun r5 hr5 => ?_)
  exact W.lret (v := r5) hx hb hrt (fun t ht hW => ⟨r5, rfl, hr5, ht⟩) (fun q h => nomatch h) d_S_crossingKey_68 hlocks
