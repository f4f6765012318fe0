noncomputable section
theorem str9 {args : Array Value} {s : State} {k : Nat} {tx : String} (h1 : (Cond.stringRef "PixelSnapper" k tx).before args s = true) (h2 : (Cond.exactly (.string "PixelSnapper" k) "java/lang/String").before args s = true) : ∃ sa, vk_R "PixelSnapper" k tx sa s := by
  obtain ⟨a, c, cell, k9, h3, _⟩ := Cond.exactly_spec h2
  exact ⟨a, vk_R.of h1 h3⟩
theorem arr9 {args : Array Value} {s : State} {ty : FieldType} (h : (Cond.arrayClass ty).before args s = true) : ∃ c, ArrOfT s c ty ∧ s.vm.findClass ("[" ++ ty.toString) = some c := by
  obtain ⟨c, k, comp, h1, h2, h3⟩ := Cond.arrayClass_spec h
  exact ⟨c, fun N z => ⟨(fun k h => by cases h), k, h2, comp, h3⟩, h1⟩
theorem arrq9 {args : Array Value} {s : State} {C : String} (h : (Cond.arrayOver (.object C)).before args s = true) : ∃ c, ArrOfT s c (.object C) ∧ va_RA s c (.object C) := by
  obtain ⟨comp, c, k, h1, h2, h3, h4, h5⟩ := Cond.arrayOver_spec h
  exact ⟨c, fun N z => ⟨(fun k h => by cases h), k, h3, comp, h4⟩, k, comp, h3, h4, h1, h5⟩
set_option maxHeartbeats 4000000 in
set_option maxRecDepth 100000 in
/-- what is known where the law begins -/
theorem kk_start {p : Program} {s : State} {m : MethodId} {meth : Method} {c : Code} {b L : Nat} {xs : Nat → Int32} (C0 : lw_At p s m meth c b L xs) : ∃ (D : va_G) (E : ClassId × ClassId × ClassId × ClassId) (e0 : Nat), KK D E s ∧ SF e0 (lA s) s s.heap := by
  obtain ⟨hx, hb, hrt, hml, hown, hts9, hX, hbl, hlocks, hgv⟩ := C0
  have hs := flat_of_before _ hgv
  have hG : ∀ w ∈ gw, w.before #[Value.ref b] s = true := fun w h => hts9 w (List.mem_filter.mp h).1
  have hA : ∀ a : Nat, a < s.heap.size → ¬ lA s a := fun a h z => Nat.not_le.mpr h z
  obtain ⟨c0, i0, k0⟩ := u_known (C := K_R) (T := F_R) (N := 3) (n := 3) hG in_R (hG _ wd_92)
  obtain ⟨c1, i1, k1⟩ := u_known (C := K_S) (T := F_S) (N := 10) (n := 10) hG in_S (hG _ wd_259)
  obtain ⟨c2, i2, k2⟩ := u_known (C := K_P) (T := F_P) (N := 7) (n := 7) hG in_P (hG _ wd_58)
  obtain ⟨c3, i3, k3⟩ := u_known (C := K_M) (T := F_M) (N := 24) (n := 24) hG in_M (hG _ wd_642)
  obtain ⟨c4, i4, k4⟩ := u_known (C := K_A) (T := F_A) (N := 3) (n := 3) hG in_A (hG _ wd_66)
  obtain ⟨a0, q0, r0⟩ := arr9 (hG _ wd_107)
  obtain ⟨a1, q1, r1⟩ := arr9 (hG _ wd_721)
  obtain ⟨a2, q2, r2⟩ := arr9 (hG _ wd_722)
  obtain ⟨a3, q3, r3⟩ := arrq9 (hts9 (.arrayOver (.object "java/lang/Object")) (by decide +kernel))
  obtain ⟨e0, ev, hT⟩ := va_Tof (tm := .static "java/util/ArrayList" "DEFAULTCAPACITY_EMPTY_ELEMENTDATA" "[Ljava/lang/Object;") (ty := .object "java/lang/Object") (N := 0) (f := fun _ => .null) (A := lA s) (by decide) (hs _ (by decide +kernel)) (va_eqt (hs (.eq (.length (.static "java/util/ArrayList" "DEFAULTCAPACITY_EMPTY_ELEMENTDATA" "[Ljava/lang/Object;")) (.int 0)) (by decide +kernel))) (fun j hj => absurd hj (Nat.not_lt_zero _)) hA
  refine ⟨(fun k => if k = 0 then c0 else if k = 1 then c1 else if k = 2 then c2 else if k = 3 then c3 else c4, fun k => if k = 0 then i0 else if k = 1 then i1 else if k = 2 then i2 else if k = 3 then i3 else i4), (a0, a1, a2, a3), e0, ⟨⟨?_, ?_⟩, ?_, ?_, ?_, ?_, ?_⟩, ?_, hT, ?_, ?_⟩
  · intro k q hq
    match k, hq with
    | 0, hq => cases hq; exact k0
    | 1, hq => cases hq; exact k1
    | 2, hq => cases hq; exact k2
    | 3, hq => cases hq; exact k3
    | 4, hq => cases hq; exact k4
    | k + 5, hq => simp [vwC] at hq
  · intro k q hq
    match k, hq with
    | 0, hq => cases hq; exact ⟨q0, r0⟩
    | 1, hq => cases hq; exact ⟨q1, r1⟩
    | 2, hq => cases hq; exact ⟨q2, r2⟩
    | 3, hq => cases hq; exact ⟨q3, r3⟩
    | k + 4, hq => simp [tyG] at hq
  · exact fun w hw => va_Nw.of (gx_tab w hw).2 (hts9 w (gx_tab w hw).1)
  · intro q hq
    simp only [gsl, List.mem_cons, List.not_mem_nil, or_false] at hq
    rcases hq with rfl | rfl | rfl | rfl | rfl | rfl | rfl | rfl | rfl | rfl | rfl
    · exact str9 (hts9 _ (by decide +kernel)) (hs _ (by decide +kernel))
    · exact str9 (hts9 _ (by decide +kernel)) (hs _ (by decide +kernel))
    · exact str9 (hts9 _ (by decide +kernel)) (hs _ (by decide +kernel))
    · exact str9 (hts9 _ (by decide +kernel)) (hs _ (by decide +kernel))
    · exact str9 (hts9 _ (by decide +kernel)) (hs _ (by decide +kernel))
    · exact str9 (hts9 _ (by decide +kernel)) (hs _ (by decide +kernel))
    · exact str9 (hts9 _ (by decide +kernel)) (hs _ (by decide +kernel))
    · exact str9 (hts9 _ (by decide +kernel)) (hs _ (by decide +kernel))
    · exact str9 (hts9 _ (by decide +kernel)) (hs _ (by decide +kernel))
    · exact str9 (hts9 _ (by decide +kernel)) (hs _ (by decide +kernel))
    · exact str9 (hts9 _ (by decide +kernel)) (hs _ (by decide +kernel))
  · intro q hq
    simp only [gnl, List.mem_cons, List.not_mem_nil, or_false] at hq
    rcases hq with rfl | rfl | rfl
    · exact va_Nc.of (hs _ (by decide +kernel))
    · exact va_Nc.of (hs _ (by decide +kernel))
    · exact va_Nc.of (hs _ (by decide +kernel))
  · exact va_AO.of (hts9 (.arrayOver (.object "java/lang/Object")) (by decide +kernel))
  · exact va_Mi.of (hs (.isRef (.mirror "[Ljava/lang/Object;")) (by decide +kernel))
  · exact va_Zof (hts9 _ (by decide +kernel)) (hts9 _ (by decide +kernel)) ev hA
  · exact vx_Zqof (hts9 _ (by decide +kernel)) (hts9 _ (by decide +kernel)) (hs _ (by decide +kernel)) hA
  · exact vx_Zqof (hts9 _ (by decide +kernel)) (hts9 _ (by decide +kernel)) (hs _ (by decide +kernel)) hA
end
