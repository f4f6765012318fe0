/-! the forms of all contracts here: readers (nothing is written) and writers (a world before, a world behind) -/
/-- the classes of arrays: long[], int[], boolean[], Object[] -/
abbrev tyG (E : ClassId × ClassId × ClassId × ClassId) : List (ClassId × FieldType) := [(E.1, .long), (E.2.1, .int), (E.2.2.1, .boolean), (E.2.2.2, .object "java/lang/Object")]
/-- further words: links across the nest, casts, declarations -/
def gx : List Cond := [.methodLinkNest "PixelSnapper$Segment" 51 y_P_keyOf "PixelSnapper"] ++ ([.castable "PixelSnapper$Segment" "java/lang/Object", .castable "java/lang/IllegalArgumentException" "java/lang/IllegalArgumentException", .castable "java/lang/IllegalStateException" "java/lang/IllegalStateException", .castable "java/lang/UnsupportedOperationException" "java/lang/UnsupportedOperationException", .castable "java/lang/IndexOutOfBoundsException" "java/lang/IndexOutOfBoundsException"] ++ [.declares ⟨"java/lang/RuntimeException", "<init>", "()V"⟩, .declares y_E_init, .declares ⟨"java/lang/Exception", "<init>", "()V"⟩, .declares y_X_init, .declares y_T_init_0, .declares y_T_init_String, .declares y_J_getClass])
theorem gx_tab : ∀ w ∈ gx, w ∈ lw_tbl ∧ w.onTables = true := by decide +kernel
theorem gx_warm {s U : State} (hW : s.WarmedH U.vm) {w : Cond} (hw : w ∈ gx) (h : va_Nw w s) : va_Nw w U := by
  rcases List.mem_append.mp hw with hw | hw
  · rw [List.mem_singleton] at hw
    subst hw
    exact va_Nw.warmM hW h
  · rcases List.mem_append.mp hw with hw | hw
    · simp only [List.mem_cons, List.not_mem_nil, or_false] at hw
      rcases hw with rfl | rfl | rfl | rfl | rfl <;> exact va_Nw.warmC hW h
    · simp only [List.mem_cons, List.not_mem_nil, or_false] at hw
      rcases hw with rfl | rfl | rfl | rfl | rfl | rfl | rfl <;> exact va_Nw.warmD hW h
/-- the texts of the class -/
def gsl : List (Nat × String) := [(48, "an end lies out of reach"), (59, "there are as many segments as may be"), (86, "more hot pixels or places in chains than may be"), (98, "no such segment"), (101, "the pixel lies out of reach"), (114, "no such segment or what"), (120, "the segments do not cross"), (133, "no such pixel or what"), (139, "there are no chains"), (145, "no such pixel in the chain"), (147, "no such piece or what")]
/-- classes that are not castable to others -/
def gnl : List (String × String) := [("java/lang/IllegalStateException", "java/lang/IllegalArgumentException"), ("java/lang/IllegalArgumentException", "java/lang/IndexOutOfBoundsException"), ("java/lang/IllegalStateException", "java/lang/IndexOutOfBoundsException")]
/-- what is known of every state beside the words -/
def gf (U : State) : Prop := (∀ w ∈ gx, va_Nw w U) ∧ (∀ q ∈ gsl, ∃ sa, vk_R "PixelSnapper" q.1 q.2 sa U) ∧ (∀ q ∈ gnl, va_Nc q.1 q.2 U) ∧ va_AO "java/lang/Object" U ∧ ∃ mi, va_Mi "[Ljava/lang/Object;" mi U
theorem gf_nest {U : State} (h : gf U) : va_Nw (.methodLinkNest "PixelSnapper$Segment" 51 y_P_keyOf "PixelSnapper") U := h.1 _ (List.mem_append_left _ (List.mem_singleton.mpr rfl))
def KK (D : va_G) (E : ClassId × ClassId × ClassId × ClassId) (U : State) : Prop := va_K D vwC (tyG E) U ∧ gf U
theorem KK.call {D : va_G} {E : ClassId × ClassId × ClassId × ClassId} {U : State} {g : JFrame} {mk : MethodId} {a : Array Value} (h : KK D E U) : KK D E (U.calling g mk a) := by
  obtain ⟨h0, h1, h2, h3, h4, mi, h5⟩ := h
  have hv : U.vm.Alike (U.calling g mk a).vm := Vm.Alike.refl U.vm
  exact ⟨va_K.moved (u := U) (U := U.calling g mk a) hv h0, fun w hw => va_Nw.same (u := U) (U := U.calling g mk a) (gx_tab w hw).2 rfl (h1 w hw), fun q hq => (h2 q hq).imp fun sa h => vk_R.same (u := U) (U := U.calling g mk a) rfl h, fun q hq => va_Nc.moved hv (h3 q hq), va_AO.moved hv h4, mi, va_Mi.moved hv h5⟩
theorem KK.warm {D : va_G} {E : ClassId × ClassId × ClassId × ClassId} {s U : State} (hW : s.WarmedH U.vm) (h : KK D E s) : KK D E U := by
  obtain ⟨h0, h1, h2, h3, h4, mi, h5⟩ := h
  exact ⟨va_K.moved hW.alike h0, fun w hw => gx_warm hW hw (h1 w hw), fun q hq => (h2 q hq).imp fun sa h => vk_R.warm hW h, fun q hq => va_Nc.moved hW.alike (h3 q hq), va_AO.moved hW.alike h4, mi, va_Mi.moved hW.alike h5⟩
/-- a reader's start, a writer's start -/
def rP (D : va_G) (E : ClassId × ClassId × ClassId × ClassId) (ws : va_W) (av : List Value) : Array Value → State → Prop := va_Pc av (fun U => va_P D vwC ws U.heap ∧ KK D E U)
def wP (D : va_G) (E : ClassId × ClassId × ClassId × ClassId) (ws : va_W) (sz : Nat) (av : List Value) : Array Value → State → Prop := va_Pc av (fun U => U.heap.size = sz ∧ va_P D vwC ws U.heap ∧ KK D E U ∧ va_D (fun _ => True) ws)
theorem rP_b {D : va_G} {E : ClassId × ClassId × ClassId × ClassId} {ws : va_W} {av : List Value} : FrameBlind (rP D E ws av) := fun _ _ _ _ q => ⟨q.1, q.2.1, KK.call q.2.2⟩
theorem wP_b {D : va_G} {E : ClassId × ClassId × ClassId × ClassId} {ws : va_W} {sz : Nat} {av : List Value} : FrameBlind (wP D E ws sz av) := fun _ _ _ _ q => ⟨q.1, q.2.1, q.2.2.1, KK.call q.2.2.2.1, q.2.2.2.2⟩
theorem rP_S {D : va_G} {E : ClassId × ClassId × ClassId × ClassId} {ws : va_W} {As : List Value} {s : State} {H : Heap} (hP : va_P D vwC ws H) (hK : KK D E s) : PreS s H (rP D E ws As) As :=
  ⟨rP_b, fun U hU hW => ⟨rfl, by rw [hU]; exact hP, KK.warm hW hK⟩⟩
theorem rP_V {D : va_G} {E : ClassId × ClassId × ClassId × ClassId} {ws : va_W} {As : List Value} {s : State} {H : Heap} {b ci : Nat} {fs : List Value} {q : vw_C} (k : Nat) (hP : va_P D vwC ws H) (hK : KK D E s) (he : ws[k]? = some (b, .inr (ci, fs))) (hc : vwC[ci]? = some q) : PreV s H q.1 b (rP D E ws (.ref b :: As)) As :=
  ⟨rP_b, va_recv hK.1 hP hc he, fun U hU hW => ⟨rfl, by rw [hU]; exact hP, KK.warm hW hK⟩⟩
theorem wP_S {D : va_G} {E : ClassId × ClassId × ClassId × ClassId} {ws : va_W} {As : List Value} {s : State} {H : Heap} {A : Nat → Prop} (hP : va_P D vwC ws H) (hK : KK D E s) (hD : va_D A ws) : PreS s H (wP D E ws H.size As) As :=
  ⟨wP_b, fun U hU hW => ⟨rfl, by rw [hU], by rw [hU]; exact hP, KK.warm hW hK, hD.weaken (fun _ _ _ _ => trivial)⟩⟩
theorem wP_V {D : va_G} {E : ClassId × ClassId × ClassId × ClassId} {ws : va_W} {As : List Value} {s : State} {H : Heap} {A : Nat → Prop} {b ci : Nat} {fs : List Value} {q : vw_C} (k : Nat) (hP : va_P D vwC ws H) (hK : KK D E s) (hD : va_D A ws) (he : ws[k]? = some (b, .inr (ci, fs))) (hc : vwC[ci]? = some q) : PreV s H q.1 b (wP D E ws H.size (.ref b :: As)) As :=
  ⟨wP_b, va_recv hK.1 hP hc he, fun U hU hW => ⟨rfl, by rw [hU], by rw [hU]; exact hP, KK.warm hW hK, hD.weaken (fun _ _ _ _ => trivial)⟩⟩
/-- what a method's body has -/
def En (p : Program) (s : State) (m : MethodId) (args : Array Value) (meth : Method) (c : Code) (own : String) (cc : ByteArray) (maxL : Nat) (ret : Option FieldType) (y : MethodName) : Prop :=
  p.tables.exec = Jvm.exec ∧ c.code = cc ∧ meth.sig.returnType = ret ∧ c.maxLocals = maxL ∧ s.vm.findClass own = some m.cls ∧ (∀ w ∈ (Cond.code y cc maxL ret :: gw), w.before args s = true) ∧ (∀ w ∈ gw, w.before args s = true) ∧ meth.locks = false ∧ meth.name = y.name
/-- a reader's contract out of its walk -/
theorem rd_ofW {l : Launch} {y : MethodName} {cc : ByteArray} {maxL : Nat} {ret : Option FieldType} {D : va_G} {E : ClassId × ClassId × ClassId × ClassId} {ws : va_W} {av : List Value} {rm : Room} {Qc : Array Value → State → Outcome → State → Prop}
    (hy : plainName y.cls = true) (hlen : (lg_sl av).length ≤ maxL)
    (body : ∀ (p : Program) (e : Env) (s : State) (m : MethodId) (below : List Frame) (meth : Method) (c : Code), En p s m av.toArray meth c y.cls cc maxL ret y → va_P D vwC ws s.heap → KK D E s → ∀ ls : Array Slot, lv_has ls maxL (lv_args 0 av) →
      W p l e rm s m av.toArray below meth c s.heap [] 0 0 (MQ below Qc av.toArray s 0 0 (fun _ => False)) (F0 m 0 ls [])) : Met l y (.code y cc maxL ret :: gw) rm (rP D E ws av) Qc 0 0 (fun _ => False) := by
  refine Met.ofW (cc := cc) (maxL := maxL) (ret := ret) hy rfl ?_
  intro p e s m args below meth c s₁ B hml hv
  obtain ⟨rfl, hP, hK⟩ := hv
  have hts := atoms_spec (ws := Cond.code y cc maxL ret :: gw) B.pre
  have hl := lv_entry av (n := maxL) hlen
  rw [lg_entry_eq]
  exact body p e s m below meth c ⟨B.exec, B.bytes, B.returns, hml, findClass_of_methodNamed B.named, hts, fun w h => hts w (List.mem_cons_of_mem _ h), B.notSynchronized, (name_of_methodNamed B.named B.method).1⟩ hP hK _ hl
/-- a writer's contract out of its walk -/
theorem wr_ofW {l : Launch} {y : MethodName} {cc : ByteArray} {maxL : Nat} {ret : Option FieldType} {D : va_G} {E : ClassId × ClassId × ClassId × ClassId} {ws : va_W} {sz : Nat} {av : List Value} {rm : Room} {Qc : (Nat → Prop) → Array Value → State → Outcome → State → Prop} {mc ms : Nat}
    (hy : plainName y.cls = true) (hlen : (lg_sl av).length ≤ maxL)
    (body : ∀ (p : Program) (e : Env) (s : State) (m : MethodId) (below : List Frame) (meth : Method) (c : Code), En p s m av.toArray meth c y.cls cc maxL ret y → va_P D vwC ws s.heap → KK D E s → ∀ A : Nat → Prop, (∀ q : Nat, s.heap.size ≤ q → A q) → va_D A ws → va_S A s.heap s.heap [] → ∀ ls : Array Slot, lv_has ls maxL (lv_args 0 av) →
      W p l e rm s m av.toArray below meth c s.heap [] 0 0 (MQ below (Qc A) av.toArray s mc ms A) (F0 m 0 ls [])) : Met l y (.code y cc maxL ret :: gw) rm (wP D E ws sz av) (Qc (va_A ws sz)) mc ms (va_A ws sz) := by
  refine Met.ofW (cc := cc) (maxL := maxL) (ret := ret) hy rfl ?_
  intro p e s m args below meth c s₁ B hml hv
  obtain ⟨rfl, hsz, hP, hK, hD0⟩ := hv
  have hts := atoms_spec (ws := Cond.code y cc maxL ret :: gw) B.pre
  subst hsz
  have hD := hD0.self (sz := s.heap.size)
  have hl := lv_entry av (n := maxL) hlen
  rw [lg_entry_eq]
  exact body p e s m below meth c ⟨B.exec, B.bytes, B.returns, hml, findClass_of_methodNamed B.named, hts, fun w h => hts w (List.mem_cons_of_mem _ h), B.notSynchronized, (name_of_methodNamed B.named B.method).1⟩ hP hK _ (fun q h => Or.inr h) hD va_S.rf _ hl
/-- a writer's world behind it -/
def wB {S : Type} (D : va_G) (w : S → va_W) (A : Nat → Prop) : S → State → Prop := fun u t => va_P D vwC (w u) t.heap ∧ va_D A (w u)
/-- two array classes of one type are one -/
theorem ty_eq {D : va_G} {cl : List vw_C} {tys : List (ClassId × FieldType)} {U : State} {c1 c2 : ClassId} {ty : FieldType} (hK : va_K D cl tys U) (i j : Nat) (hi : tys[i]? = some (c1, ty)) (hj : tys[j]? = some (c2, ty)) : c1 = c2 := by
  have h1 := (hK.2 i _ hi).2
  have h2 := (hK.2 j _ hj).2
  cases ty with
  | object C =>
    obtain ⟨_, _, _, _, _, a⟩ := h1
    obtain ⟨_, _, _, _, _, b⟩ := h2
    exact Option.some.inj (a.symm.trans b)
  | _ => exact Option.some.inj (Eq.trans (Eq.symm h1) h2)
