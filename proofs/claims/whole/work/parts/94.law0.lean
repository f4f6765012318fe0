/-! the law: its two worlds; calls that throw and are caught -/
/-- PixelSnapper with all that is its own, and the law's long[1] -/
def cW (E : ClassId × ClassId × ClassId × ClassId) (h0 oA : Nat) (ad a : Nat → Nat) (sn : Int32) (ed k : Nat) (mo9 : Int32) (R1 R2 R3 R4 R5 : RS) (fo : Nat → Int64) (LP : List Nat) (pf : Nat → va_E) : va_W :=
  [(h0, .inr (2, [.ref (ad 0), .ref (ad 1), .ref (ad 2), .ref (ad 3), .ref (ad 4), .ref (ad 5), .int sn])), ((ad 0), .inr (4, [.ref ed, .int (nI k), .int mo9])),
   ((ad 1), .inr (0, [.int (nI 16384), .ref (a 1), .int (nI R1.2.2)])), ((a 1), .inl (E.1, R1.1, .inr (.inl R1.2.1))), ((ad 2), .inr (0, [.int (nI 2049), .ref (a 2), .int (nI R2.2.2)])), ((a 2), .inl (E.1, R2.1, .inr (.inl R2.2.1))),
   ((ad 3), .inr (0, [.int (nI 65536), .ref (a 3), .int (nI R3.2.2)])), ((a 3), .inl (E.1, R3.1, .inr (.inl R3.2.1))), ((ad 4), .inr (0, [.int (nI 65536), .ref (a 4), .int (nI R4.2.2)])), ((a 4), .inl (E.1, R4.1, .inr (.inl R4.2.1))),
   ((ad 5), .inr (0, [.int (nI 65536), .ref (a 5), .int (nI R5.2.2)])), ((a 5), .inl (E.1, R5.1, .inr (.inl R5.2.1))), (oA, .inl (E.1, 1, .inr (.inl fo)))] ++ va_pl LP pf
def rz (R : RS) : RS := (R.1, R.2.1, 0)
theorem rz_ok {m : Nat} {R : RS} (h : rs_ok m R) : rs_ok m (rz R) := ⟨h.1, Nat.zero_le _, h.2.2⟩
section
variable {p : Program} {l : Launch} {e : Env} {R : Room} {s : State} {m : MethodId} {args : Array Value} {below : List Frame} {meth : Method} {c : Code} {H : Heap} {locs : List Loc} {cells slots : Nat} {Q : State → Prop}
variable {mc ms pc : Nat} {free : Addr → Prop} {A0 : Nat → Prop} {H0 : Heap} {a : Array Value} {ls : Array Slot} {st0 rest : List Value}
/-- a call that can only throw -/
theorem vx_callx {SX : Type} {px : SX → Prop} {BX : String → SX → State → Prop} {AX : Nat → Prop} (hr : vx_Run p l e R s m args below meth c H locs cells slots mc ms (F0 m pc ls st0) rest (xQ a) (vx_X px BX AX) free) (hS : va_S A0 H0 H locs) (hf : ∀ q, free q → A0 q) (hAX : ∀ q, q < H.size → AX q → A0 q)
    (kx : ∀ (E : String) (ce : Cell) (q9 : Addr) (u : SX) (t : State) (H1 : Heap) (locs1 : List Loc), t.heap = H1 → s.vm.Alike t.vm → px u → BX E u t → H.size ≤ H1.size → (∀ q : Nat, q < H.size → ¬ AX q → H1[q]? = H[q]?) → va_S A0 H0 H1 locs1 → H1[q9]? = some ce → ce.vm = .none → s.vm.findClass E = some ce.cls → vx_W p l e R s m args below meth c H1 locs1 (cells + mc) (slots + ms) Q (F0 m pc ls rest) q9) : W p l e R s m args below meth c H locs cells slots Q (F0 m pc ls st0) := by
  intro T hT X
  rcases hr T hT X with ⟨v, st₀, t, T', L, h0, X', hL, e1, e2, hfalse, st⟩ | ⟨q, st₀, t, T', L, E, ce, h0, X', hL, e1, e2, ⟨u, hp, hb, hF⟩, hce, hcv, hcl, st⟩
  · exact hfalse.elim
  · obtain ⟨k1, k2, k3⟩ := vx_keep h0 e1 hS hAX hf hL hF
    obtain ⟨t2, a1, b1⟩ := kx E ce q u t T'.heap (locs ++ L) e1.symm (by rw [← e2]; exact X'.warmed.alike) hp hb k1 k2 k3 (by rw [e1]; exact hce) hcv hcl T' rfl X'
    exact ⟨t2, st.trans a1, b1⟩
end
/-- what a body with a table of catches has -/
def EnW (p : Program) (s : State) (m : MethodId) (args : Array Value) (meth : Method) (c : Code) (own : String) (cc : ByteArray) (maxL : Nat) (ret : Option FieldType) (hh : List (Nat × Nat × Nat × Nat)) (y : MethodName) : Prop :=
  p.tables.exec = Jvm.exec ∧ c.code = cc ∧ meth.sig.returnType = ret ∧ c.maxLocals = maxL ∧ s.vm.findClass own = some m.cls ∧ (∀ w ∈ (Cond.codeWith y cc maxL ret hh :: gw), w.before args s = true) ∧ (∀ w ∈ gw, w.before args s = true) ∧ meth.locks = false ∧ c.exceptionTable.toList = tableOf hh
theorem lw_of {l : Launch} {y : MethodName} {cc : ByteArray} {maxL : Nat} {ret : Option FieldType} {hh : List (Nat × Nat × Nat × Nat)} {D : va_G} {E : ClassId × ClassId × ClassId × ClassId} {e0 : Nat} {ws : va_W} {sz : Nat} {av : List Value} {rm : Room} {Qc : (Nat → Prop) → Array Value → State → Outcome → State → Prop} {mc ms : Nat}
    (hy : plainName y.cls = true) (hlen : (lg_sl av).length ≤ maxL)
    (body : ∀ (p : Program) (e : Env) (s : State) (m : MethodId) (below : List Frame) (meth : Method) (c : Code), EnW p s m av.toArray meth c y.cls cc maxL ret hh y → va_P D vwC ws s.heap → KK D E s → ∀ A : Nat → Prop, (∀ q : Nat, s.heap.size ≤ q → A q) → va_D A ws → va_S A s.heap s.heap [] → SF e0 A s s.heap → ∀ ls : Array Slot, lv_has ls maxL (lv_args 0 av) →
      W p l e rm s m av.toArray below meth c s.heap [] 0 0 (MQ below (Qc A) av.toArray s mc ms A) (F0 m 0 ls [])) : Met l y (.codeWith y cc maxL ret hh :: gw) rm (wX D E e0 ws sz av) (Qc (va_A ws sz)) mc ms (va_A ws sz) := by
  refine va_MetW (cc := cc) (maxL := maxL) (ret := ret) (hh := hh) hy rfl ?_
  intro p e s m args below meth c s₁ B hml hv
  obtain ⟨rfl, hsz, hP, hK, hD0, hZ⟩ := hv
  have hts := atoms_spec (ws := Cond.codeWith y cc maxL ret hh :: gw) B.pre
  subst hsz
  have hD := hD0.self (sz := s.heap.size)
  have hl := lv_entry av (n := maxL) hlen
  rw [lg_entry_eq]
  exact body p e s m below meth c ⟨B.exec, B.bytes, B.returns, hml, findClass_of_methodNamed B.named, hts, fun w h => hts w (List.mem_cons_of_mem _ h), B.notSynchronized, vx_table (x := y) B (hts _ List.mem_cons_self)⟩ hP hK _ (fun q h => Or.inr h) hD va_S.rf hZ _ hl
theorem gw_gw {c1 : Cond} {own : String} {idx n : Nat} {y : MethodName} {b : ByteArray} {r : Option FieldType} {hh : List (Nat × Nat × Nat × Nat)} (h1 : Cond.methodLink own idx y ∈ gw) (h2 : Cond.static y ∈ gw) (h4 : Cond.initialized y.cls ∈ gw) (h5 : Cond.codeWith y b n r hh ∈ gw) : GoodIn (c1 :: gw) (va_wsS own idx y (.codeWith y b n r hh :: gw)) := by
  refine gw_gp (pre := [.methodLink own idx y, .static y, .initialized y.cls]) ?_ h5
  intro w hw
  simp only [List.mem_cons, List.not_mem_nil, or_false] at hw
  rcases hw with rfl | rfl | rfl <;> assumption
