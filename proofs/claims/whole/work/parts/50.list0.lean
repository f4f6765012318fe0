/-! statics that stay as they are; pools; a list's cells -/
/-- ArrayList's empty array at e0; the two references that a Throwable begins with -/
def SF (e0 : Nat) (A : Nat → Prop) (U : State) (H : Heap) : Prop := va_Z "java/util/ArrayList" "DEFAULTCAPACITY_EMPTY_ELEMENTDATA" "[Ljava/lang/Object;" (.ref e0) A U H ∧ va_T (.object "java/lang/Object") e0 0 (fun _ => .null) A U H ∧ vx_Zq Bundle.tN "UNASSIGNED_STACK" Bundle.steD A U H ∧ vx_Zq Bundle.tN "SUPPRESSED_SENTINEL" Bundle.listD A U H
theorem SF.moved {e0 : Nat} {A : Nat → Prop} {u U : State} {H : Heap} (hvm : u.vm.Alike U.vm) (h : SF e0 A u H) : SF e0 A U H := ⟨va_Z.moved hvm h.1, va_T.moved hvm h.2.1, vx_Zq.moved hvm h.2.2.1, vx_Zq.moved hvm h.2.2.2⟩
theorem SF.kept {e0 : Nat} {A : Nat → Prop} {U : State} {H H1 : Heap} (h : SF e0 A U H) (hq : ∀ a : Nat, a < H.size → ¬ A a → H1[a]? = H[a]?) : SF e0 A U H1 := ⟨va_Z.kept h.1 hq, va_T.kept h.2.1 hq, vx_Zq.kept h.2.2.1 hq, vx_Zq.kept h.2.2.2 hq⟩
theorem SF.narrow {e0 : Nat} {A B : Nat → Prop} {U : State} {H : Heap} (h : SF e0 A U H) (hAB : ∀ q, B q → A q) : SF e0 B U H := ⟨va_Z.narrow h.1 hAB, va_T.narrow h.2.1 hAB, vx_Zq.narrow h.2.2.1 hAB, vx_Zq.narrow h.2.2.2 hAB⟩
/-- the start of a writer that reads these statics -/
def wX (D : va_G) (E : ClassId × ClassId × ClassId × ClassId) (e0 : Nat) (ws : va_W) (sz : Nat) (av : List Value) : Array Value → State → Prop := va_Pc av (fun U => U.heap.size = sz ∧ va_P D vwC ws U.heap ∧ KK D E U ∧ va_D (fun _ => True) ws ∧ SF e0 (va_A ws sz) U U.heap)
theorem wX_b {D : va_G} {E : ClassId × ClassId × ClassId × ClassId} {e0 : Nat} {ws : va_W} {sz : Nat} {av : List Value} : FrameBlind (wX D E e0 ws sz av) := fun a U g mk q => ⟨q.1, q.2.1, q.2.2.1, KK.call q.2.2.2.1, q.2.2.2.2.1, SF.moved (u := U) (U := U.calling g mk a) (Vm.Alike.refl U.vm) q.2.2.2.2.2⟩
theorem SF.down {e0 : Nat} {A B : Nat → Prop} {s U : State} {H : Heap} {locs : List Loc} (hZ : SF e0 A s s.heap) (hS : va_S A s.heap H locs) (hF : ∀ q, B q → A q) (hU : U.heap = H) (hW : s.WarmedH U.vm) : SF e0 B U U.heap := by
  rw [hU]
  exact SF.moved hW.alike ((hZ.kept hS.2.1).narrow hF)
theorem wX_S {D : va_G} {E : ClassId × ClassId × ClassId × ClassId} {e0 : Nat} {ws : va_W} {As : List Value} {s : State} {H : Heap} {A : Nat → Prop} {locs : List Loc} (hP : va_P D vwC ws H) (hK : KK D E s) (hD : va_D A ws) (hZ : SF e0 A s s.heap) (hS : va_S A s.heap H locs) (hF : ∀ q, va_A ws H.size q → A q) : PreS s H (wX D E e0 ws H.size As) As :=
  ⟨wX_b, fun U hU hW => ⟨rfl, by rw [hU], by rw [hU]; exact hP, KK.warm hW hK, hD.weaken (fun _ _ _ _ => trivial), SF.down hZ hS hF hU hW⟩⟩
theorem wX_V {D : va_G} {E : ClassId × ClassId × ClassId × ClassId} {e0 : Nat} {ws : va_W} {As : List Value} {s : State} {H : Heap} {A : Nat → Prop} {locs : List Loc} {b ci : Nat} {fs : List Value} {q : vw_C} (k : Nat) (hP : va_P D vwC ws H) (hK : KK D E s) (hD : va_D A ws) (hZ : SF e0 A s s.heap) (hS : va_S A s.heap H locs) (hF : ∀ q, va_A ws H.size q → A q) (he : ws[k]? = some (b, .inr (ci, fs))) (hc : vwC[ci]? = some q) : PreV s H q.1 b (wX D E e0 ws H.size (.ref b :: As)) As :=
  ⟨wX_b, va_recv hK.1 hP hc he, fun U hU hW => ⟨rfl, by rw [hU], by rw [hU]; exact hP, KK.warm hW hK, hD.weaken (fun _ _ _ _ => trivial), SF.down hZ hS hF hU hW⟩⟩
theorem wx_ofF {l : Launch} {y : MethodName} {cc : ByteArray} {maxL : Nat} {ret : Option FieldType} {D : va_G} {E : ClassId × ClassId × ClassId × ClassId} {e0 : Nat} {ws : va_W} {sz : Nat} {av : List Value} {rm : Room} {Qc : (Nat → Prop) → Array Value → State → Outcome → State → Prop} {mc ms : Nat}
    (hy : plainFor y = true) (hlen : (lg_sl av).length ≤ maxL)
    (body : ∀ (p : Program) (e : Env) (s : State) (m : MethodId) (below : List Frame) (meth : Method) (c : Code), En p s m av.toArray meth c y.cls cc maxL ret y → va_P D vwC ws s.heap → KK D E s → ∀ A : Nat → Prop, (∀ q : Nat, s.heap.size ≤ q → A q) → va_D A ws → va_S A s.heap s.heap [] → SF e0 A s s.heap → ∀ ls : Array Slot, lv_has ls maxL (lv_args 0 av) →
      W p l e rm s m av.toArray below meth c s.heap [] 0 0 (MQ below (Qc A) av.toArray s mc ms A) (F0 m 0 ls [])) : Met l y (.code y cc maxL ret :: gw) rm (wX D E e0 ws sz av) (Qc (va_A ws sz)) mc ms (va_A ws sz) := by
  refine va_MetF (cc := cc) (maxL := maxL) (ret := ret) hy rfl ?_
  intro p e s m args below meth c s₁ B hml hv
  obtain ⟨rfl, hsz, hP, hK, hD0, hZ⟩ := hv
  have hts := atoms_spec (ws := Cond.code y cc maxL ret :: gw) B.pre
  subst hsz
  have hD := hD0.self (sz := s.heap.size)
  have hl := lv_entry av (n := maxL) hlen
  rw [lg_entry_eq]
  exact body p e s m below meth c ⟨B.exec, B.bytes, B.returns, hml, findClass_of_methodNamed B.named, hts, fun w h => hts w (List.mem_cons_of_mem _ h), B.notSynchronized, (name_of_methodNamed B.named B.method).1⟩ hP hK _ (fun q h => Or.inr h) hD va_S.rf hZ _ hl
/-- a cell out of a pool -/
theorem pl_one {D : va_G} {cl : List vw_C} {X : va_W} {LP : List Nat} {pf : Nat → va_E} {H : Heap} {a : Nat} {e : va_E} (hP : va_P D cl (X ++ va_pl LP pf) H) (ha : a ∈ LP) (hf : pf a = e) : va_P D cl [(a, e)] H := by
  obtain ⟨k, hk⟩ := va_pl_get (X := X) (f := pf) ha
  intro i q hi
  cases i with
  | zero => cases hi; rw [← hf]; exact hP k _ hk
  | succ i => simp at hi
theorem pl_cons {D : va_G} {cl : List vw_C} {x : Nat × va_E} {ys : va_W} {H : Heap} (h1 : va_P D cl [x] H) (h2 : va_P D cl ys H) : va_P D cl (x :: ys) H := va_P.app (w1 := [x]) (w2 := ys) h1 h2
/-- a list's array of n places, k of them taken by the segments sg -/
def LstO (E : ClassId × ClassId × ClassId × ClassId) (LP : List Nat) (pf : Nat → va_E) (ed n : Nat) (el : Nat → Option Nat) (k : Nat) (sg : Nat → SQ) : Prop :=
  ed ∈ LP ∧ pf ed = .inl (E.2.2.2, n, .inr (.inr (.inr (.inr el)))) ∧ k ≤ n ∧ 10 ≤ n ∧ n ≤ 4096 ∧ (∀ i, i < n → ∀ y, el i = some y → y ∈ LP ∧ ∃ q, pf y = .inr (1, sgF q)) ∧ ∀ i, i < k → ∃ y, el i = some y ∧ y ∈ LP ∧ pf y = .inr (1, sgF (sg i))
def Lst (E : ClassId × ClassId × ClassId × ClassId) (LP : List Nat) (pf : Nat → va_E) (e0 ed k : Nat) (sg : Nat → SQ) : Prop := (ed = e0 ∧ k = 0) ∨ ∃ (n : Nat) (el : Nat → Option Nat), LstO E LP pf ed n el k sg
/-- the i-th segment: its address, its cell -/
theorem Lst.get {E : ClassId × ClassId × ClassId × ClassId} {LP : List Nat} {pf : Nat → va_E} {e0 ed k i : Nat} {sg : Nat → SQ} (h : Lst E LP pf e0 ed k sg) (hi : i < k) : ∃ (n : Nat) (el : Nat → Option Nat) (a : Nat), ed ∈ LP ∧ pf ed = .inl (E.2.2.2, n, .inr (.inr (.inr (.inr el)))) ∧ k ≤ n ∧ n ≤ 4096 ∧ el i = some a ∧ a ∈ LP ∧ pf a = .inr (1, sgF (sg i)) := by
  rcases h with ⟨-, rfl⟩ | ⟨n, el, h1, h2, h3, h4, h5, h6, h7⟩
  · exact absurd hi (Nat.not_lt_zero _)
  · obtain ⟨y, y1, y2, y3⟩ := h7 i hi
    exact ⟨n, el, y, h1, h2, h3, h5, y1, y2, y3⟩
/-- a cell of its own goes to the pool -/
theorem pl_in {D : va_G} {cl : List vw_C} {A : Nat → Prop} {X : va_W} {LP : List Nat} {pf : Nat → va_E} {q : Nat} {e : va_E} {H : Heap} (hP : va_P D cl ((X ++ [(q, e)]) ++ va_pl LP pf) H) (hD : va_D A ((X ++ [(q, e)]) ++ va_pl LP pf)) :
    va_P D cl (X ++ va_pl (LP ++ [q]) (va_up pf q e)) H ∧ va_D A (X ++ va_pl (LP ++ [q]) (va_up pf q e)) ∧ q ∉ LP := by
  have h1 := hP.swap
  have h2 := hD.swap
  have h3 := va_pl_fresh2 h2
  rw [List.append_assoc, va_pl_push h3] at h1 h2
  exact ⟨h1, h2, h3⟩
/-- the array's place in the pool -/
theorem pl_at {LP : List Nat} {pf : Nat → va_E} {X : va_W} {a : Nat} {e : va_E} (ha : a ∈ LP) (hf : pf a = e) : ∃ k : Nat, (X ++ va_pl LP pf)[k]? = some (a, e) := by
  obtain ⟨k, hk⟩ := va_pl_get (X := X) (f := pf) ha
  exact ⟨k, by rw [hk, hf]⟩
/-- the start of a writer to whom a class object is given -/
def wM (D : va_G) (E : ClassId × ClassId × ClassId × ClassId) (mi : Nat) (ws : va_W) (sz : Nat) (av : List Value) : Array Value → State → Prop := va_Pc av (fun U => U.heap.size = sz ∧ va_P D vwC ws U.heap ∧ KK D E U ∧ va_D (fun _ => True) ws ∧ va_Mi "[Ljava/lang/Object;" mi U)
theorem wM_S {D : va_G} {E : ClassId × ClassId × ClassId × ClassId} {mi : Nat} {ws : va_W} {As : List Value} {s : State} {H : Heap} {A : Nat → Prop} (hP : va_P D vwC ws H) (hK : KK D E s) (hD : va_D A ws) (hM : va_Mi "[Ljava/lang/Object;" mi s) : PreS s H (wM D E mi ws H.size As) As :=
  ⟨fun a U g mk q => ⟨q.1, q.2.1, q.2.2.1, KK.call q.2.2.2.1, q.2.2.2.2.1, va_Mi.moved (u := U) (U := U.calling g mk a) (Vm.Alike.refl U.vm) q.2.2.2.2.2⟩, fun U hU hW => ⟨rfl, by rw [hU], by rw [hU]; exact hP, KK.warm hW hK, hD.weaken (fun _ _ _ _ => trivial), va_Mi.moved hW.alike hM⟩⟩
theorem wm_ofF {l : Launch} {y : MethodName} {cc : ByteArray} {maxL : Nat} {ret : Option FieldType} {D : va_G} {E : ClassId × ClassId × ClassId × ClassId} {mi : Nat} {ws : va_W} {sz : Nat} {av : List Value} {rm : Room} {Qc : (Nat → Prop) → Array Value → State → Outcome → State → Prop} {mc ms : Nat}
    (hy : plainFor y = true) (hlen : (lg_sl av).length ≤ maxL)
    (body : ∀ (p : Program) (e : Env) (s : State) (m : MethodId) (below : List Frame) (meth : Method) (c : Code), En p s m av.toArray meth c y.cls cc maxL ret y → va_P D vwC ws s.heap → KK D E s → ∀ A : Nat → Prop, (∀ q : Nat, s.heap.size ≤ q → A q) → va_D A ws → va_S A s.heap s.heap [] → va_Mi "[Ljava/lang/Object;" mi s → ∀ ls : Array Slot, lv_has ls maxL (lv_args 0 av) →
      W p l e rm s m av.toArray below meth c s.heap [] 0 0 (MQ below (Qc A) av.toArray s mc ms A) (F0 m 0 ls [])) : Met l y (.code y cc maxL ret :: gw) rm (wM D E mi ws sz av) (Qc (va_A ws sz)) mc ms (va_A ws sz) := by
  refine va_MetF (cc := cc) (maxL := maxL) (ret := ret) hy rfl ?_
  intro p e s m args below meth c s₁ B hml hv
  obtain ⟨rfl, hsz, hP, hK, hD0, hZ⟩ := hv
  have hts := atoms_spec (ws := Cond.code y cc maxL ret :: gw) B.pre
  subst hsz
  have hD := hD0.self (sz := s.heap.size)
  have hl := lv_entry av (n := maxL) hlen
  rw [lg_entry_eq]
  exact body p e s m below meth c ⟨B.exec, B.bytes, B.returns, hml, findClass_of_methodNamed B.named, hts, fun w h => hts w (List.mem_cons_of_mem _ h), B.notSynchronized, (name_of_methodNamed B.named B.method).1⟩ hP hK _ (fun q h => Or.inr h) hD va_S.rf hZ _ hl
