theorem d_M_end_0 : decode c_M_end 0 = .ok (.aload_n 0, 1) := by decide +kernel
theorem d_M_end_1 : decode c_M_end 1 = .ok (.getfield 7, 3) := by decide +kernel
theorem d_M_end_4 : decode c_M_end 4 = .ok (.iconst 4, 1) := by decide +kernel
theorem d_M_end_5 : decode c_M_end 5 = .ok (.iload_n 1, 1) := by decide +kernel
theorem d_M_end_6 : decode c_M_end 6 = .ok (.imul, 1) := by decide +kernel
theorem d_M_end_7 : decode c_M_end 7 = .ok (.iload_n 2, 1) := by decide +kernel
theorem d_M_end_8 : decode c_M_end 8 = .ok (.iadd, 1) := by decide +kernel
theorem d_M_end_9 : decode c_M_end 9 = .ok (.iaload, 1) := by decide +kernel
theorem d_M_end_10 : decode c_M_end 10 = .ok (.i2l, 1) := by decide +kernel
theorem d_M_end_11 : decode c_M_end 11 = .ok (.lreturn, 1) := by decide +kernel
theorem d_M_rounded_0 : decode c_M_rounded 0 = .ok (.lload_n 0, 1) := by decide +kernel
theorem d_M_rounded_1 : decode c_M_rounded 1 = .ok (.lconst 0, 1) := by decide +kernel
theorem d_M_rounded_2 : decode c_M_rounded 2 = .ok (.lcmp, 1) := by decide +kernel
theorem d_M_rounded_3 : decode c_M_rounded 3 = .ok (.ifCond .ge 8, 3) := by decide +kernel
theorem d_M_rounded_6 : decode c_M_rounded 6 = .ok (.lload_n 0, 1) := by decide +kernel
theorem d_M_rounded_7 : decode c_M_rounded 7 = .ok (.lneg, 1) := by decide +kernel
theorem d_M_rounded_8 : decode c_M_rounded 8 = .ok (.goto 4, 3) := by decide +kernel
theorem d_M_rounded_11 : decode c_M_rounded 11 = .ok (.lload_n 0, 1) := by decide +kernel
theorem d_M_rounded_12 : decode c_M_rounded 12 = .ok (.lstore 6, 2) := by decide +kernel
theorem d_M_rounded_14 : decode c_M_rounded 14 = .ok (.lconst 0, 1) := by decide +kernel
theorem d_M_rounded_15 : decode c_M_rounded 15 = .ok (.lstore 8, 2) := by decide +kernel
theorem d_M_rounded_17 : decode c_M_rounded 17 = .ok (.lconst 0, 1) := by decide +kernel
theorem d_M_rounded_18 : decode c_M_rounded 18 = .ok (.lstore 10, 2) := by decide +kernel
theorem d_M_rounded_20 : decode c_M_rounded 20 = .ok (.bipush 30, 2) := by decide +kernel
theorem d_M_rounded_22 : decode c_M_rounded 22 = .ok (.istore 12, 2) := by decide +kernel
theorem d_M_rounded_24 : decode c_M_rounded 24 = .ok (.iload 12, 2) := by decide +kernel
theorem d_M_rounded_26 : decode c_M_rounded 26 = .ok (.ifCond .lt 59, 3) := by decide +kernel
theorem d_M_rounded_29 : decode c_M_rounded 29 = .ok (.ldc2_w 103, 3) := by decide +kernel
theorem d_M_rounded_32 : decode c_M_rounded 32 = .ok (.lload 8, 2) := by decide +kernel
theorem d_M_rounded_34 : decode c_M_rounded 34 = .ok (.lmul, 1) := by decide +kernel
theorem d_M_rounded_35 : decode c_M_rounded 35 = .ok (.lstore 8, 2) := by decide +kernel
theorem d_M_rounded_37 : decode c_M_rounded 37 = .ok (.ldc2_w 103, 3) := by decide +kernel
theorem d_M_rounded_40 : decode c_M_rounded 40 = .ok (.lload 10, 2) := by decide +kernel
theorem d_M_rounded_42 : decode c_M_rounded 42 = .ok (.lmul, 1) := by decide +kernel
theorem d_M_rounded_43 : decode c_M_rounded 43 = .ok (.lload 6, 2) := by decide +kernel
theorem d_M_rounded_45 : decode c_M_rounded 45 = .ok (.iload 12, 2) := by decide +kernel
theorem d_M_rounded_47 : decode c_M_rounded 47 = .ok (.lshr, 1) := by decide +kernel
theorem d_M_rounded_48 : decode c_M_rounded 48 = .ok (.lconst 1, 1) := by decide +kernel
theorem d_M_rounded_49 : decode c_M_rounded 49 = .ok (.land, 1) := by decide +kernel
theorem d_M_rounded_50 : decode c_M_rounded 50 = .ok (.lload_n 2, 1) := by decide +kernel
theorem d_M_rounded_51 : decode c_M_rounded 51 = .ok (.lmul, 1) := by decide +kernel
theorem d_M_rounded_52 : decode c_M_rounded 52 = .ok (.ladd, 1) := by decide +kernel
theorem d_M_rounded_53 : decode c_M_rounded 53 = .ok (.lstore 10, 2) := by decide +kernel
theorem d_M_rounded_55 : decode c_M_rounded 55 = .ok (.lload 10, 2) := by decide +kernel
theorem d_M_rounded_57 : decode c_M_rounded 57 = .ok (.lload 4, 2) := by decide +kernel
theorem d_M_rounded_59 : decode c_M_rounded 59 = .ok (.lcmp, 1) := by decide +kernel
theorem d_M_rounded_60 : decode c_M_rounded 60 = .ok (.ifCond .lt 19, 3) := by decide +kernel
theorem d_M_rounded_63 : decode c_M_rounded 63 = .ok (.lload 10, 2) := by decide +kernel
theorem d_M_rounded_65 : decode c_M_rounded 65 = .ok (.lload 4, 2) := by decide +kernel
theorem d_M_rounded_67 : decode c_M_rounded 67 = .ok (.lsub, 1) := by decide +kernel
theorem d_M_rounded_68 : decode c_M_rounded 68 = .ok (.lstore 10, 2) := by decide +kernel
theorem d_M_rounded_70 : decode c_M_rounded 70 = .ok (.lload 8, 2) := by decide +kernel
theorem d_M_rounded_72 : decode c_M_rounded 72 = .ok (.lconst 1, 1) := by decide +kernel
theorem d_M_rounded_73 : decode c_M_rounded 73 = .ok (.ladd, 1) := by decide +kernel
theorem d_M_rounded_74 : decode c_M_rounded 74 = .ok (.lstore 8, 2) := by decide +kernel
theorem d_M_rounded_76 : decode c_M_rounded 76 = .ok (.goto (-21), 3) := by decide +kernel
theorem d_M_rounded_79 : decode c_M_rounded 79 = .ok (.iinc 12 (-1), 3) := by decide +kernel
theorem d_M_rounded_82 : decode c_M_rounded 82 = .ok (.goto (-58), 3) := by decide +kernel
theorem d_M_rounded_85 : decode c_M_rounded 85 = .ok (.lload_n 0, 1) := by decide +kernel
theorem d_M_rounded_86 : decode c_M_rounded 86 = .ok (.lconst 0, 1) := by decide +kernel
theorem d_M_rounded_87 : decode c_M_rounded 87 = .ok (.lcmp, 1) := by decide +kernel
theorem d_M_rounded_88 : decode c_M_rounded 88 = .ok (.ifCond .ge 27, 3) := by decide +kernel
theorem d_M_rounded_91 : decode c_M_rounded 91 = .ok (.ldc2_w 103, 3) := by decide +kernel
theorem d_M_rounded_94 : decode c_M_rounded 94 = .ok (.lload 10, 2) := by decide +kernel
theorem d_M_rounded_96 : decode c_M_rounded 96 = .ok (.lmul, 1) := by decide +kernel
theorem d_M_rounded_97 : decode c_M_rounded 97 = .ok (.lload 4, 2) := by decide +kernel
theorem d_M_rounded_99 : decode c_M_rounded 99 = .ok (.lcmp, 1) := by decide +kernel
theorem d_M_rounded_100 : decode c_M_rounded 100 = .ok (.ifCond .le 11, 3) := by decide +kernel
theorem d_M_rounded_103 : decode c_M_rounded 103 = .ok (.lload 8, 2) := by decide +kernel
theorem d_M_rounded_105 : decode c_M_rounded 105 = .ok (.lneg, 1) := by decide +kernel
theorem d_M_rounded_106 : decode c_M_rounded 106 = .ok (.lconst 1, 1) := by decide +kernel
theorem d_M_rounded_107 : decode c_M_rounded 107 = .ok (.lsub, 1) := by decide +kernel
theorem d_M_rounded_108 : decode c_M_rounded 108 = .ok (.goto 6, 3) := by decide +kernel
theorem d_M_rounded_111 : decode c_M_rounded 111 = .ok (.lload 8, 2) := by decide +kernel
theorem d_M_rounded_113 : decode c_M_rounded 113 = .ok (.lneg, 1) := by decide +kernel
theorem d_M_rounded_114 : decode c_M_rounded 114 = .ok (.lreturn, 1) := by decide +kernel
theorem d_M_rounded_115 : decode c_M_rounded 115 = .ok (.ldc2_w 103, 3) := by decide +kernel
theorem d_M_rounded_118 : decode c_M_rounded 118 = .ok (.lload 10, 2) := by decide +kernel
theorem d_M_rounded_120 : decode c_M_rounded 120 = .ok (.lmul, 1) := by decide +kernel
theorem d_M_rounded_121 : decode c_M_rounded 121 = .ok (.lload 4, 2) := by decide +kernel
theorem d_M_rounded_123 : decode c_M_rounded 123 = .ok (.lcmp, 1) := by decide +kernel
theorem d_M_rounded_124 : decode c_M_rounded 124 = .ok (.ifCond .lt 10, 3) := by decide +kernel
theorem d_M_rounded_127 : decode c_M_rounded 127 = .ok (.lload 8, 2) := by decide +kernel
theorem d_M_rounded_129 : decode c_M_rounded 129 = .ok (.lconst 1, 1) := by decide +kernel
theorem d_M_rounded_130 : decode c_M_rounded 130 = .ok (.ladd, 1) := by decide +kernel
theorem d_M_rounded_131 : decode c_M_rounded 131 = .ok (.goto 5, 3) := by decide +kernel
theorem d_M_rounded_134 : decode c_M_rounded 134 = .ok (.lload 8, 2) := by decide +kernel
theorem d_M_rounded_136 : decode c_M_rounded 136 = .ok (.lreturn, 1) := by decide +kernel
noncomputable section
def mq_at (q : SQ) (k : Nat) : Int64 := if k = 0 then sx q else if k = 1 then sy q else if k = 2 then su q else sv q
set_option maxHeartbeats 4000000 in
set_option maxRecDepth 100000 in
theorem k_M_end (l : Launch) (D : va_G) (E : ClassId × ClassId × ClassId × ClassId) (h0 : Nat) (ad : Nat → Nat) (th sg sn hot pc cx cy : Int32) (fo fv to tv : Int64) (fi ti : Int32) (e9 : Nat → Int32) (k j : Nat) (hk : 4 * k + 3 < 8192) (hj : j < 4) : Met l y_M_end (.code y_M_end c_M_end 3 (some .long) :: gw) ({ frames := 0, cells := 0, slots := 0, locals := 0 } : Room) (rP D E [(h0, .inr (3, mF ad th sg sn hot pc cx cy fo fv to tv fi ti)), ((ad 0), .inl (E.2.1, 8192, .inl e9))] [.ref h0, .int (nI k), .int (nI j)]) (vp_Sl (fun r => r = Int32.toInt64 (e9 (4 * k + j)))) 0 0 (fun _ => False) := by
  refine rd_ofW (by decide) (Nat.le_of_ble_eq_true rfl) ?_
  intro p e s m below meth c B hP hK ls hl
  obtain ⟨hx, hb, hrt, hml, hown, hts, hG, hlocks, hin⟩ := B
  have hl : lv_has ls 3 [(0, .ref h0), (1, .int (nI k)), (2, .int (nI j))] := hl
  refine lv_aload_n hx hb d_M_end_0 rfl (lv_at hl 0 rfl) ?_
  refine va_get (D := D) (ci := 3) (v := .ref (ad 0)) (C := K_M) (T := F_M) (N := 24) hx hb hG in_M hown hK.1 hP 0 rfl rfl 2 (by decide) (hG _ wd_650) (fun _ h9 => h9) rfl d_M_end_1 ?_
  refine lv_iconst (v := 4) hx hb d_M_end_4 (by decide) ?_
  refine lv_iload_n hx hb d_M_end_5 rfl (lv_at hl 1 rfl) ?_
  refine lv_imul hx hb d_M_end_6 ?_
  rw [show (4 * nI k) = nI (4 * k) from pk_mul 4 k]
  refine lv_iload_n hx hb d_M_end_7 rfl (lv_at hl 2 rfl) ?_
  refine lv_iadd hx hb d_M_end_8 ?_
  rw [show (nI (4 * k) + nI j) = nI (4 * k + j) from nI_add _ _]
  refine va_iald hx hb hK.1 hP 1 1 rfl rfl (vp_in_nI (by omega) (by omega)) d_M_end_9 ?_
  rw [show e9 (Int32.toNatClampNeg (nI (4 * k + j))) = e9 (4 * k + j) from by rw [nI_clamp (by omega)]]
  refine lv_i2l hx hb d_M_end_10 rfl ?_
  exact W.lret (v := (Int32.toInt64 (e9 (4 * k + j)))) hx hb hrt (fun t ht hW => ⟨(Int32.toInt64 (e9 (4 * k + j))), rfl, rfl, ht⟩) (fun q h => nomatch h) d_M_end_11 hlocks
set_option maxHeartbeats 4000000 in
set_option maxRecDepth 100000 in
theorem k_M_rounded (l : Launch) (D : va_G) (E : ClassId × ClassId × ClassId × ClassId) (b : Int64) (o u : Nat) (hb9 : -1073741824 < b.toInt ∧ b.toInt < 1073741824) (ho : o ≤ u) (hu0 : 0 < u) (hu : u ≤ 2000000000000000000) : Met l y_M_rounded (.code y_M_rounded c_M_rounded 13 (some .long) :: gw) ({ frames := 0, cells := 0, slots := 0, locals := 0 } : Room) (rP D E [] [.long b, .long (lN o), .long (lN u)]) (vp_Sl (fun r => r.toInt = rd b.toInt o u)) 0 0 (fun _ => False) := by
  refine rd_ofW (by decide) (Nat.le_of_ble_eq_true rfl) ?_
  intro p e s m below meth c B hP hK ls hl
  obtain ⟨hx, hb, hrt, hml, hown, hts, hG, hlocks, hin⟩ := B
  have hl : lv_has ls 13 [(0, .long b), (2, .long (lN o)), (4, .long (lN u))] := hl
  obtain ⟨sz, hs⟩ : ∃ k, k = b.toInt.natAbs := ⟨_, rfl⟩
  have hs2 : sz < 1073741824 := by omega
  have habs := i64_abs (b := b) (by omega)
  rw [← hs] at habs
  have J0 : ∀ (ls : Array Slot), lv_has ls 13 [(0, .long b), (2, .long (lN o)), (4, .long (lN u))] → W p l e ({ frames := 0, cells := 0, slots := 0, locals := 0 } : Room) s m ([.long b, .long (lN o), .long (lN u)] : List Value).toArray below meth c s.heap [] 0 0 (MQ below (vp_Sl (fun r => r.toInt = rd b.toInt o u)) ([.long b, .long (lN o), .long (lN u)] : List Value).toArray s 0 0 (fun _ => False)) (F0 m 12 ls [.long (lN sz)]) := by
    intro ls hl
    refine lv_lstore (lv' := [(6, .long (lN sz)), (0, .long b), (2, .long (lN o)), (4, .long (lN u))]) hx hb d_M_rounded_12 hl (by decide) rfl (fun ls hl => ?_)
    refine lv_lconst (v := 0) hx hb d_M_rounded_14 (by decide) ?_
    refine lv_lstore (lv' := [(8, .long 0), (6, .long (lN sz)), (0, .long b), (2, .long (lN o)), (4, .long (lN u))]) hx hb d_M_rounded_15 hl (by decide) rfl (fun ls hl => ?_)
    refine lv_lconst (v := 0) hx hb d_M_rounded_17 (by decide) ?_
    refine lv_lstore (lv' := [(10, .long 0), (8, .long 0), (6, .long (lN sz)), (0, .long b), (2, .long (lN o)), (4, .long (lN u))]) hx hb d_M_rounded_18 hl (by decide) rfl (fun ls hl => ?_)
    refine lv_bipush (v := 30) hx hb d_M_rounded_20 (by decide) ?_
    refine lv_istore (lv' := [(12, .int 30), (10, .long 0), (8, .long 0), (6, .long (lN sz)), (0, .long b), (2, .long (lN o)), (4, .long (lN u))]) hx hb d_M_rounded_22 hl (by decide) rfl (fun ls hl => ?_)
    have loop : ∀ (fu : Nat) (q : Nat) (r : Nat) (y : Int32) (ls : Array Slot), (fu ≤ 31) → (y.toInt = (fu : Int) - 1) → (q = sz / 2 ^ fu * o / u) → (r = sz / 2 ^ fu * o % u) → lv_has ls 13 [(0, .long b), (2, .long (lN o)), (4, .long (lN u)), (6, .long (lN sz)), (8, .long (lN q)), (10, .long (lN r)), (12, .int y)] → W p l e ({ frames := 0, cells := 0, slots := 0, locals := 0 } : Room) s m ([.long b, .long (lN o), .long (lN u)] : List Value).toArray below meth c s.heap [] 0 0 (MQ below (vp_Sl (fun r => r.toInt = rd b.toInt o u)) ([.long b, .long (lN o), .long (lN u)] : List Value).toArray s 0 0 (fun _ => False)) (F0 m 24 ls []) := by
      intro fu
      induction fu with
      | zero =>
        intro q r y ls h1 h2 h3 h4 hl
        rw [Nat.pow_zero, Nat.div_one] at h3 h4
        have hr : r < u := by rw [h4]; exact Nat.mod_lt _ hu0
        have hq : q ≤ sz := by rw [h3]; exact Nat.div_le_of_le_mul (by rw [Nat.mul_comm u]; exact Nat.mul_le_mul_left _ ho)
        rw [hs] at h3 h4
        have z0 : (0 : Int64).toInt = 0 := by decide
        have z1 : (1 : Int64).toInt = 1 := by decide
        have zq : (lN q).toInt = (q : Int) := pf_lI (by omega)
        have zn : (-lN q).toInt = -(q : Int) := by rw [i64_neg (by omega), zq]
        refine lv_iload hx hb d_M_rounded_24 (lv_at hl 6 rfl) ?_
        refine lv_if_lt (tgt := 85) hx hb d_M_rounded_26 (by decide) (fun c0 => ?_) (fun c0 => ?_)
        · refine lv_lload_n hx hb d_M_rounded_85 rfl (lv_at hl 0 rfl) ?_
          refine lv_lconst (v := 0) hx hb d_M_rounded_86 (by decide) ?_
          refine W.lcmp hx hb d_M_rounded_87 ?_
          refine lv_if_ge (tgt := 115) hx hb d_M_rounded_88 (by decide) (fun c1 => ?_) (fun c1 => ?_)
          · have c1 : ¬ b.toInt < 0 := by have := lg_ge.mp c1; rw [Int64.lt_iff_toInt_lt, z0] at this; exact this
            refine lv_ldc2 hx hb hown (hG _ wd_763) d_M_rounded_115 ?_
            refine lv_lload hx hb d_M_rounded_118 (lv_at hl 5 rfl) ?_
            refine lv_lmul hx hb d_M_rounded_120 ?_
            rw [show (2 * (lN r)) = (lN (2 * r)) from lN_mul 2 r]
            refine lv_lload hx hb d_M_rounded_121 (lv_at hl 2 rfl) ?_
            refine W.lcmp hx hb d_M_rounded_123 ?_
            refine lv_if_lt (tgt := 134) hx hb d_M_rounded_124 (by decide) (fun c2 => ?_) (fun c2 => ?_)
            · have c2 : 2 * r < u := (pk_lLT (by omega) (by omega)).mp (lg_lt.mp c2)
              refine lv_lload hx hb d_M_rounded_134 (lv_at hl 4 rfl) ?_
              exact W.lret (v := (lN q)) hx hb hrt (fun t ht hW => ⟨(lN q), rfl, by show (lN q).toInt = _; rw [zq, rd, if_neg c1, ← h4, if_pos c2, ← h3], ht⟩) (fun q h => nomatch h) d_M_rounded_136 hlocks
            · have c2 : ¬ 2 * r < u := fun h => c2 (lg_lt.mpr ((pk_lLT (by omega) (by omega)).mpr h))
              refine lv_lload hx hb d_M_rounded_127 (lv_at hl 4 rfl) ?_
              refine lv_lconst (v := 1) hx hb d_M_rounded_129 (by decide) ?_
              refine lv_ladd hx hb d_M_rounded_130 ?_
              refine lv_goto (tgt := 136) hx hb d_M_rounded_131 (by decide) ?_
              exact W.lret (v := ((lN q) + 1)) hx hb hrt (fun t ht hW => ⟨((lN q) + 1), rfl, by show (lN q + 1).toInt = _; rw [i64_add (by rw [zq, z1]; omega) (by rw [zq, z1]; omega), zq, z1, rd, if_neg c1, ← h4, if_neg c2, ← h3], ht⟩) (fun q h => nomatch h) d_M_rounded_136 hlocks
          · have c1 : b.toInt < 0 := by have := lg_ge' c1; rw [Int64.lt_iff_toInt_lt, z0] at this; exact this
            refine lv_ldc2 hx hb hown (hG _ wd_763) d_M_rounded_91 ?_
            refine lv_lload hx hb d_M_rounded_94 (lv_at hl 5 rfl) ?_
            refine lv_lmul hx hb d_M_rounded_96 ?_
            rw [show (2 * (lN r)) = (lN (2 * r)) from lN_mul 2 r]
            refine lv_lload hx hb d_M_rounded_97 (lv_at hl 2 rfl) ?_
            refine W.lcmp hx hb d_M_rounded_99 ?_
            refine lv_if_le (tgt := 111) hx hb d_M_rounded_100 (by decide) (fun c2 => ?_) (fun c2 => ?_)
            · have c2 : ¬ u < 2 * r := fun h => lg_le.mp c2 ((pk_lLT (by omega) (by omega)).mpr h)
              refine lv_lload hx hb d_M_rounded_111 (lv_at hl 4 rfl) ?_
              refine lv_lneg hx hb d_M_rounded_113 ?_
              exact W.lret (v := (-(lN q))) hx hb hrt (fun t ht hW => ⟨(-(lN q)), rfl, by show (-lN q).toInt = _; rw [zn, rd, if_pos c1, ← h4, if_neg c2, ← h3], ht⟩) (fun q h => nomatch h) d_M_rounded_114 hlocks
            · have c2 : u < 2 * r := (pk_lLT (by omega) (by omega)).mp (lg_le' c2)
              refine lv_lload hx hb d_M_rounded_103 (lv_at hl 4 rfl) ?_
              refine lv_lneg hx hb d_M_rounded_105 ?_
              refine lv_lconst (v := 1) hx hb d_M_rounded_106 (by decide) ?_
              refine lv_lsub hx hb d_M_rounded_107 ?_
              refine lv_goto (tgt := 114) hx hb d_M_rounded_108 (by decide) ?_
              exact W.lret (v := ((-(lN q)) - 1)) hx hb hrt (fun t ht hW => ⟨((-(lN q)) - 1), rfl, by show (-lN q - 1).toInt = _; rw [i64_sub (by rw [zn, z1]; omega) (by rw [zn, z1]; omega), zn, z1, rd, if_pos c1, ← h4, if_pos c2, ← h3], ht⟩) (fun q h => nomatch h) d_M_rounded_114 hlocks
        · exact absurd (by rw [Int32.lt_iff_toInt_lt, h2]; decide) c0
      | succ fu ih =>
        intro q r y ls h1 h2 h3 h4 hl
        have hr : r < u := by rw [h4]; exact Nat.mod_lt _ hu0
        have hd : q * u + r = sz / 2 ^ (fu + 1) * o := by rw [h3, h4, Nat.mul_comm]; exact Nat.div_add_mod _ _
        have hb1 := dm_bit sz fu
        obtain ⟨bt, hbt⟩ : ∃ k, k = sz / 2 ^ fu % 2 := ⟨_, rfl⟩
        rw [← hbt] at hb1
        have hbt2 : bt = 0 ∨ bt = 1 := by omega
        have hbo : bt * o ≤ u := by rcases hbt2 with e | e <;> rw [e] <;> omega
        have hT : 2 * (q * u + r) + bt * o = sz / 2 ^ fu * o := by rw [hd, hb1, Nat.add_mul, Nat.mul_assoc]
        have hqz : q ≤ sz := by rw [h3]; exact Nat.le_trans (Nat.div_le_of_le_mul (by rw [Nat.mul_comm u]; exact Nat.mul_le_mul_left _ ho)) (Nat.div_le_self _ _)
        obtain rfl : y = nI fu := nI_toI (by omega)
        refine lv_iload hx hb d_M_rounded_24 (lv_at hl 6 rfl) ?_
        refine lv_if_lt (tgt := 85) hx hb d_M_rounded_26 (by decide) (fun c0 => ?_) (fun c0 => ?_)
        · exact absurd c0 (nI_pos (by omega))
        · refine lv_ldc2 hx hb hown (hG _ wd_763) d_M_rounded_29 ?_
          refine lv_lload hx hb d_M_rounded_32 (lv_at hl 4 rfl) ?_
          refine lv_lmul hx hb d_M_rounded_34 ?_
          rw [show (2 * (lN q)) = (lN (2 * q)) from lN_mul 2 q]
          refine lv_lstore (lv' := [(8, .long (lN (2 * q))), (0, .long b), (2, .long (lN o)), (4, .long (lN u)), (6, .long (lN sz)), (10, .long (lN r)), (12, .int (nI fu))]) hx hb d_M_rounded_35 hl (by decide) rfl (fun ls hl => ?_)
          refine lv_ldc2 hx hb hown (hG _ wd_763) d_M_rounded_37 ?_
          refine lv_lload hx hb d_M_rounded_40 (lv_at hl 5 rfl) ?_
          refine lv_lmul hx hb d_M_rounded_42 ?_
          rw [show (2 * (lN r)) = (lN (2 * r)) from lN_mul 2 r]
          refine lv_lload hx hb d_M_rounded_43 (lv_at hl 4 rfl) ?_
          refine lv_iload hx hb d_M_rounded_45 (lv_at hl 6 rfl) ?_
          refine lv_lshr hx hb d_M_rounded_47 rfl ?_
          refine lv_lconst (v := 1) hx hb d_M_rounded_48 (by decide) ?_
          refine lv_land hx hb d_M_rounded_49 ?_
          rw [show (((lN sz) >>> (Int32.toInt64 (nI fu) &&& 63)) &&& 1) = (lN bt) from by rw [hbt]; exact bit_lN (by omega) (by omega)]
          refine lv_lload_n hx hb d_M_rounded_50 rfl (lv_at hl 2 rfl) ?_
          refine lv_lmul hx hb d_M_rounded_51 ?_
          rw [show ((lN bt) * (lN o)) = (lN (bt * o)) from lN_mul _ _]
          refine lv_ladd hx hb d_M_rounded_52 ?_
          rw [show ((lN (2 * r)) + (lN (bt * o))) = (lN (2 * r + bt * o)) from lN_add _ _]
          refine lv_lstore (lv' := [(10, .long (lN (2 * r + bt * o))), (8, .long (lN (2 * q))), (0, .long b), (2, .long (lN o)), (4, .long (lN u)), (6, .long (lN sz)), (12, .int (nI fu))]) hx hb d_M_rounded_53 hl (by decide) rfl (fun ls hl => ?_)
          have J : ∀ (q2 : Nat) (r2 : Nat) (ls : Array Slot), (q2 * u + r2 = sz / 2 ^ fu * o) → (r2 < u) → lv_has ls 13 [(0, .long b), (2, .long (lN o)), (4, .long (lN u)), (6, .long (lN sz)), (8, .long (lN q2)), (10, .long (lN r2)), (12, .int (nI fu))] → W p l e ({ frames := 0, cells := 0, slots := 0, locals := 0 } : Room) s m ([.long b, .long (lN o), .long (lN u)] : List Value).toArray below meth c s.heap [] 0 0 (MQ below (vp_Sl (fun r => r.toInt = rd b.toInt o u)) ([.long b, .long (lN o), .long (lN u)] : List Value).toArray s 0 0 (fun _ => False)) (F0 m 79 ls []) := by
            intro q2 r2 ls e1 e2 hl
            obtain ⟨y2, hy2⟩ : ∃ y2, y2 = nI fu + Int32.ofInt (-1) := ⟨_, rfl⟩
            refine lv_iinc (v := y2) (lv' := [(12, .int y2), (0, .long b), (2, .long (lN o)), (4, .long (lN u)), (6, .long (lN sz)), (8, .long (lN q2)), (10, .long (lN r2))]) hx hb d_M_rounded_79 hl (k := 6) rfl hy2.symm (by decide) rfl (fun ls hl => ?_)
            refine lv_goto (tgt := 24) hx hb d_M_rounded_82 (by decide) ?_
            exact ih q2 r2 y2 ls (by omega) (by rw [hy2, iinc_toI (by omega)]) (dm_un e1 e2).1 (dm_un e1 e2).2 (lv_sub hl [1, 2, 3, 4, 5, 6, 0] rfl)
          refine lv_lload hx hb d_M_rounded_55 (lv_at hl 0 rfl) ?_
          refine lv_lload hx hb d_M_rounded_57 (lv_at hl 4 rfl) ?_
          refine W.lcmp hx hb d_M_rounded_59 ?_
          refine lv_if_lt (tgt := 79) hx hb d_M_rounded_60 (by decide) (fun c1 => ?_) (fun c1 => ?_)
          · exact J (2 * q) (2 * r + bt * o) ls (by rw [← hT]; simp only [Nat.add_mul, Nat.mul_assoc]; omega) ((pk_lLT (by omega) (by omega)).mp (lg_lt.mp c1)) (lv_sub hl [2, 3, 4, 5, 1, 0, 6] rfl)
          · have k1 : u ≤ 2 * r + bt * o := Nat.not_lt.mp (fun h => c1 (lg_lt.mpr ((pk_lLT (by omega) (by omega)).mpr h)))
            refine lv_lload hx hb d_M_rounded_63 (lv_at hl 0 rfl) ?_
            refine lv_lload hx hb d_M_rounded_65 (lv_at hl 4 rfl) ?_
            refine lv_lsub hx hb d_M_rounded_67 ?_
            rw [show ((lN (2 * r + bt * o)) - (lN u)) = (lN (2 * r + bt * o - u)) from lN_sub k1]
            refine lv_lstore (lv' := [(10, .long (lN (2 * r + bt * o - u))), (8, .long (lN (2 * q))), (0, .long b), (2, .long (lN o)), (4, .long (lN u)), (6, .long (lN sz)), (12, .int (nI fu))]) hx hb d_M_rounded_68 hl (by decide) rfl (fun ls hl => ?_)
            refine lv_lload hx hb d_M_rounded_70 (lv_at hl 1 rfl) ?_
            refine lv_lconst (v := 1) hx hb d_M_rounded_72 (by decide) ?_
            refine lv_ladd hx hb d_M_rounded_73 ?_
            rw [show ((lN (2 * q)) + 1) = (lN (2 * q + 1)) from lN_1 _]
            refine lv_lstore (lv' := [(8, .long (lN (2 * q + 1))), (10, .long (lN (2 * r + bt * o - u))), (0, .long b), (2, .long (lN o)), (4, .long (lN u)), (6, .long (lN sz)), (12, .int (nI fu))]) hx hb d_M_rounded_74 hl (by decide) rfl (fun ls hl => ?_)
            refine lv_goto (tgt := 55) hx hb d_M_rounded_76 (by decide) ?_
            refine lv_lload hx hb d_M_rounded_55 (lv_at hl 1 rfl) ?_
            refine lv_lload hx hb d_M_rounded_57 (lv_at hl 4 rfl) ?_
            refine W.lcmp hx hb d_M_rounded_59 ?_
            refine lv_if_lt (tgt := 79) hx hb d_M_rounded_60 (by decide) (fun c2 => ?_) (fun c2 => ?_)
            · exact J (2 * q + 1) (2 * r + bt * o - u) ls (by rw [← hT]; simp only [Nat.add_mul, Nat.mul_assoc]; omega) ((pk_lLT (by omega) (by omega)).mp (lg_lt.mp c2)) (lv_sub hl [2, 3, 4, 5, 0, 1, 6] rfl)
            · have k2 : u ≤ 2 * r + bt * o - u := Nat.not_lt.mp (fun h => c2 (lg_lt.mpr ((pk_lLT (by omega) (by omega)).mpr h)))
              refine lv_lload hx hb d_M_rounded_63 (lv_at hl 1 rfl) ?_
              refine lv_lload hx hb d_M_rounded_65 (lv_at hl 4 rfl) ?_
              refine lv_lsub hx hb d_M_rounded_67 ?_
              rw [show ((lN (2 * r + bt * o - u)) - (lN u)) = (lN (2 * r + bt * o - u - u)) from lN_sub k2]
              refine lv_lstore (lv' := [(10, .long (lN (2 * r + bt * o - u - u))), (8, .long (lN (2 * q + 1))), (0, .long b), (2, .long (lN o)), (4, .long (lN u)), (6, .long (lN sz)), (12, .int (nI fu))]) hx hb d_M_rounded_68 hl (by decide) rfl (fun ls hl => ?_)
              refine lv_lload hx hb d_M_rounded_70 (lv_at hl 1 rfl) ?_
              refine lv_lconst (v := 1) hx hb d_M_rounded_72 (by decide) ?_
              refine lv_ladd hx hb d_M_rounded_73 ?_
              rw [show ((lN (2 * q + 1)) + 1) = (lN (2 * q + 1 + 1)) from lN_1 _]
              refine lv_lstore (lv' := [(8, .long (lN (2 * q + 1 + 1))), (10, .long (lN (2 * r + bt * o - u - u))), (0, .long b), (2, .long (lN o)), (4, .long (lN u)), (6, .long (lN sz)), (12, .int (nI fu))]) hx hb d_M_rounded_74 hl (by decide) rfl (fun ls hl => ?_)
              refine lv_goto (tgt := 55) hx hb d_M_rounded_76 (by decide) ?_
              refine lv_lload hx hb d_M_rounded_55 (lv_at hl 1 rfl) ?_
              refine lv_lload hx hb d_M_rounded_57 (lv_at hl 4 rfl) ?_
              refine W.lcmp hx hb d_M_rounded_59 ?_
              refine lv_if_lt (tgt := 79) hx hb d_M_rounded_60 (by decide) (fun c3 => ?_) (fun c3 => ?_)
              · exact J (2 * q + 1 + 1) (2 * r + bt * o - u - u) ls (by rw [← hT]; simp only [Nat.add_mul, Nat.mul_assoc]; omega) ((pk_lLT (by omega) (by omega)).mp (lg_lt.mp c3)) (lv_sub hl [2, 3, 4, 5, 0, 1, 6] rfl)
              · have k3 : u ≤ 2 * r + bt * o - u - u := Nat.not_lt.mp (fun h => c3 (lg_lt.mpr ((pk_lLT (by omega) (by omega)).mpr h)))
                omega
    exact loop 31 0 0 _ ls (by omega) (by decide) (by rw [Nat.div_eq_of_lt (show sz < 2 ^ 31 by omega), Nat.zero_mul, Nat.zero_div]) (by rw [Nat.div_eq_of_lt (show sz < 2 ^ 31 by omega), Nat.zero_mul, Nat.zero_mod]) (lv_sub hl [4, 5, 6, 3, 2, 1, 0] rfl)
  refine lv_lload_n hx hb d_M_rounded_0 rfl (lv_at hl 0 rfl) ?_
  refine lv_lconst (v := 0) hx hb d_M_rounded_1 (by decide) ?_
  refine W.lcmp hx hb d_M_rounded_2 ?_
  refine lv_if_ge (tgt := 11) hx hb d_M_rounded_3 (by decide) (fun c1 => ?_) (fun c1 => ?_)
  · refine lv_lload_n hx hb d_M_rounded_11 rfl (lv_at hl 0 rfl) ?_
    refine lv_topl (fun bb ebb => ?_)
    obtain rfl : bb = lN sz := by rw [ebb, ← habs, if_neg (lg_ge.mp c1)]
    exact J0 ls (lv_sub hl [0, 1, 2] rfl)
  · refine lv_lload_n hx hb d_M_rounded_6 rfl (lv_at hl 0 rfl) ?_
    refine lv_lneg hx hb d_M_rounded_7 ?_
    refine lv_goto (tgt := 12) hx hb d_M_rounded_8 (by decide) ?_
    rw [show (-b) = (lN sz) from by rw [← habs, if_pos (lg_ge' c1)]]
    exact J0 ls (lv_sub hl [0, 1, 2] rfl)
end
