/-! throwing out of the class -/
def xB {S : Type} (D : va_G) (cls : String) (w : S → va_W) (A : Nat → Prop) : String → S → State → Prop := fun E9 u t => E9 = cls ∧ va_P D vwC (w u) t.heap ∧ va_D A (w u)
/-- the contract of a call that throws -/
def xQ : Array Value → State → Outcome → State → Prop := fun _ _ _ _ => False
abbrev xC {S : Type} (D : va_G) (cls : String) (px : S → Prop) (w : S → va_W) (A : Nat → Prop) : String → State → State → Prop := vx_X px (xB D cls w A) A
theorem th_of {l : Launch} {y : MethodName} {cc : ByteArray} {maxL : Nat} {ret : Option FieldType} {D : va_G} {E : ClassId × ClassId × ClassId × ClassId} {e0 : Nat} {ws : va_W} {sz : Nat} {av : List Value} {rm : Room} {XC : (Nat → Prop) → String → State → State → Prop} {mc ms : Nat}
    (hy : plainName y.cls = true) (hlen : (lg_sl av).length ≤ maxL)
    (body : ∀ (p : Program) (e : Env) (s : State) (m : MethodId) (below : List Frame) (meth : Method) (c : Code), En p s m av.toArray meth c y.cls cc maxL ret y → (∀ x ∈ c.exceptionTable.toList, False) → va_P D vwC ws s.heap → KK D E s → ∀ A : Nat → Prop, (∀ q : Nat, s.heap.size ≤ q → A q) → va_D A ws → va_S A s.heap s.heap [] → SF e0 A s s.heap → ∀ ls : Array Slot, lv_has ls maxL (lv_args 0 av) →
      W p l e rm s m av.toArray below meth c s.heap [] 0 0 (vx_MQ below xQ (XC A) av.toArray s mc ms A) (F0 m 0 ls [])) : vx_Met l y (.code y cc maxL ret :: gw) rm (wX D E e0 ws sz av) xQ (XC (va_A ws sz)) mc ms (va_A ws sz) := by
  refine vx_ofW (cc := cc) (maxL := maxL) (ret := ret) hy rfl ?_
  intro p e s m args below meth c s₁ B hml hT hv
  obtain ⟨rfl, hsz, hP, hK, hD0, hZ⟩ := hv
  have hts := atoms_spec (ws := Cond.code y cc maxL ret :: gw) B.pre
  subst hsz
  have hD := hD0.self (sz := s.heap.size)
  have hl := lv_entry av (n := maxL) hlen
  rw [lg_entry_eq]
  exact body p e s m below meth c ⟨B.exec, B.bytes, B.returns, hml, findClass_of_methodNamed B.named, hts, fun w h => hts w (List.mem_cons_of_mem _ h), B.notSynchronized, (name_of_methodNamed B.named B.method).1⟩ hT hP hK _ (fun q h => Or.inr h) hD va_S.rf hZ _ hl
def th_up : List String := ["java/lang/RuntimeException", "java/lang/Exception"]
theorem th_gx {args : Array Value} {U : State} {w : Cond} (hw : w ∈ gx) (h : gf U) : w.before args U = true := va_Nw.use (A := args) (gx_tab w hw).2 (h.1 w hw)
theorem th_at_IA : ∀ w ∈ vx_atS "PixelSnapper" 50 "java/lang/IllegalArgumentException" th_up, w ∈ gw ∨ w ∈ gx := by decide +kernel
theorem th_g_IA : ∀ w ∈ Cond.classLink "PixelSnapper" 46 "java/lang/IllegalArgumentException" :: Cond.initialized "java/lang/IllegalArgumentException" :: vx_atS "PixelSnapper" 50 "java/lang/IllegalArgumentException" th_up, vx_ot w = true := by decide +kernel
theorem th_at_IS : ∀ w ∈ vx_atS "PixelSnapper" 61 "java/lang/IllegalStateException" th_up, w ∈ gw ∨ w ∈ gx := by decide +kernel
theorem th_g_IS : ∀ w ∈ Cond.classLink "PixelSnapper" 57 "java/lang/IllegalStateException" :: Cond.initialized "java/lang/IllegalStateException" :: vx_atS "PixelSnapper" 61 "java/lang/IllegalStateException" th_up, vx_ot w = true := by decide +kernel
theorem th_at_UO : ∀ w ∈ vx_atS "PixelSnapper" 88 "java/lang/UnsupportedOperationException" th_up, w ∈ gw ∨ w ∈ gx := by decide +kernel
theorem th_g_UO : ∀ w ∈ Cond.classLink "PixelSnapper" 84 "java/lang/UnsupportedOperationException" :: Cond.initialized "java/lang/UnsupportedOperationException" :: vx_atS "PixelSnapper" 88 "java/lang/UnsupportedOperationException" th_up, vx_ot w = true := by decide +kernel
theorem th_at_IO : ∀ w ∈ vx_atS "PixelSnapper" 100 "java/lang/IndexOutOfBoundsException" th_up, w ∈ gw ∨ w ∈ gx := by decide +kernel
theorem th_g_IO : ∀ w ∈ Cond.classLink "PixelSnapper" 96 "java/lang/IndexOutOfBoundsException" :: Cond.initialized "java/lang/IndexOutOfBoundsException" :: vx_atS "PixelSnapper" 100 "java/lang/IndexOutOfBoundsException" th_up, vx_ot w = true := by decide +kernel
