section
-- ===== PART A: goes FIRST, ahead of the names: the tables' words, and 'selects' of the private methods out of them =====
/-- a private method of a class that the tables say can be made, by its rows of tables_1 -/
def lw_okq (q : MethodName × Nat) : Prop := (q.1.cls ≠ "java/lang/invoke/MethodHandle" ∧ q.1.cls ≠ "java/lang/invoke/VarHandle") ∧ Cond.instantiable q.1.cls q.2 ∈ tables_1 ∧ Cond.privateMethod q.1 ∈ tables_1 ∧ Cond.instanceMethod q.1 ∈ tables_1
theorem lw_p0 : lw_okq (⟨"PixelSnapper", "forgetSnap", "()V"⟩, 7) := ⟨⟨by decide +kernel, by decide +kernel⟩, List.mem_of_getElem? (i := 22) (by decide +kernel), List.mem_of_getElem? (i := 108) (by decide +kernel), List.mem_of_getElem? (i := 109) (by decide +kernel)⟩
theorem lw_p1 : lw_okq (⟨"java/lang/Throwable", "fillInStackTrace", "(I)Ljava/lang/Throwable;"⟩, 6) := ⟨⟨by decide +kernel, by decide +kernel⟩, List.mem_of_getElem? (i := 177) (by decide +kernel), List.mem_of_getElem? (i := 175) (by decide +kernel), List.mem_of_getElem? (i := 176) (by decide +kernel)⟩
theorem lw_p2 : lw_okq (⟨"java/util/ArrayList", "add", "(Ljava/lang/Object;[Ljava/lang/Object;I)V"⟩, 3) := ⟨⟨by decide +kernel, by decide +kernel⟩, List.mem_of_getElem? (i := 30) (by decide +kernel), List.mem_of_getElem? (i := 270) (by decide +kernel), List.mem_of_getElem? (i := 271) (by decide +kernel)⟩
theorem lw_p3 : lw_okq (⟨"java/util/ArrayList", "grow", "()[Ljava/lang/Object;"⟩, 3) := ⟨⟨by decide +kernel, by decide +kernel⟩, List.mem_of_getElem? (i := 30) (by decide +kernel), List.mem_of_getElem? (i := 274) (by decide +kernel), List.mem_of_getElem? (i := 275) (by decide +kernel)⟩
theorem lw_p4 : lw_okq (⟨"java/util/ArrayList", "grow", "(I)[Ljava/lang/Object;"⟩, 3) := ⟨⟨by decide +kernel, by decide +kernel⟩, List.mem_of_getElem? (i := 30) (by decide +kernel), List.mem_of_getElem? (i := 278) (by decide +kernel), List.mem_of_getElem? (i := 279) (by decide +kernel)⟩
theorem lw_p5 : lw_okq (⟨"PixelSnapper", "findHot", "()Z"⟩, 7) := ⟨⟨by decide +kernel, by decide +kernel⟩, List.mem_of_getElem? (i := 22) (by decide +kernel), List.mem_of_getElem? (i := 330) (by decide +kernel), List.mem_of_getElem? (i := 331) (by decide +kernel)⟩
theorem lw_p6 : lw_okq (⟨"PixelSnapper", "heat", "(J)Z"⟩, 7) := ⟨⟨by decide +kernel, by decide +kernel⟩, List.mem_of_getElem? (i := 22) (by decide +kernel), List.mem_of_getElem? (i := 356) (by decide +kernel), List.mem_of_getElem? (i := 357) (by decide +kernel)⟩
theorem lw_p7 : lw_okq (⟨"PixelSnapper", "mergeHot", "()Z"⟩, 7) := ⟨⟨by decide +kernel, by decide +kernel⟩, List.mem_of_getElem? (i := 22) (by decide +kernel), List.mem_of_getElem? (i := 364) (by decide +kernel), List.mem_of_getElem? (i := 365) (by decide +kernel)⟩
theorem lw_p8 : lw_okq (⟨"PixelSnapper$Row", "sink", "(JII)V"⟩, 3) := ⟨⟨by decide +kernel, by decide +kernel⟩, List.mem_of_getElem? (i := 56) (by decide +kernel), List.mem_of_getElem? (i := 372) (by decide +kernel), List.mem_of_getElem? (i := 373) (by decide +kernel)⟩
theorem lw_p9 : lw_okq (⟨"PixelSnapper", "heatCrossings", "(LPixelSnapper$Segment;I)Z"⟩, 7) := ⟨⟨by decide +kernel, by decide +kernel⟩, List.mem_of_getElem? (i := 22) (by decide +kernel), List.mem_of_getElem? (i := 400) (by decide +kernel), List.mem_of_getElem? (i := 401) (by decide +kernel)⟩
theorem lw_p10 : lw_okq (⟨"PixelSnapper$Segment", "parts", "(LPixelSnapper$Segment;)Z"⟩, 10) := ⟨⟨by decide +kernel, by decide +kernel⟩, List.mem_of_getElem? (i := 223) (by decide +kernel), List.mem_of_getElem? (i := 408) (by decide +kernel), List.mem_of_getElem? (i := 409) (by decide +kernel)⟩
theorem lw_p11 : lw_okq (⟨"PixelSnapper$Segment", "sideOf", "(JJ)J"⟩, 10) := ⟨⟨by decide +kernel, by decide +kernel⟩, List.mem_of_getElem? (i := 223) (by decide +kernel), List.mem_of_getElem? (i := 412) (by decide +kernel), List.mem_of_getElem? (i := 413) (by decide +kernel)⟩
theorem lw_p12 : lw_okq (⟨"PixelSnapper", "findChains", "()Z"⟩, 7) := ⟨⟨by decide +kernel, by decide +kernel⟩, List.mem_of_getElem? (i := 22) (by decide +kernel), List.mem_of_getElem? (i := 428) (by decide +kernel), List.mem_of_getElem? (i := 429) (by decide +kernel)⟩
theorem lw_p13 : lw_okq (⟨"PixelSnapper", "addPlaces", "(LPixelSnapper$Segment;)Z"⟩, 7) := ⟨⟨by decide +kernel, by decide +kernel⟩, List.mem_of_getElem? (i := 22) (by decide +kernel), List.mem_of_getElem? (i := 432) (by decide +kernel), List.mem_of_getElem? (i := 433) (by decide +kernel)⟩
theorem lw_p14 : lw_okq (⟨"PixelSnapper$Segment", "lineEnters", "(JJ)Z"⟩, 10) := ⟨⟨by decide +kernel, by decide +kernel⟩, List.mem_of_getElem? (i := 223) (by decide +kernel), List.mem_of_getElem? (i := 468) (by decide +kernel), List.mem_of_getElem? (i := 469) (by decide +kernel)⟩
theorem lw_p15 : lw_okq (⟨"PixelSnapper", "orderPlaces", "(LPixelSnapper$Segment;I)V"⟩, 7) := ⟨⟨by decide +kernel, by decide +kernel⟩, List.mem_of_getElem? (i := 22) (by decide +kernel), List.mem_of_getElem? (i := 473) (by decide +kernel), List.mem_of_getElem? (i := 474) (by decide +kernel)⟩
def lw_privs_1 : List (MethodName × Nat) := [(⟨"PixelSnapper", "forgetSnap", "()V"⟩, 7), (⟨"java/lang/Throwable", "fillInStackTrace", "(I)Ljava/lang/Throwable;"⟩, 6), (⟨"java/util/ArrayList", "add", "(Ljava/lang/Object;[Ljava/lang/Object;I)V"⟩, 3), (⟨"java/util/ArrayList", "grow", "()[Ljava/lang/Object;"⟩, 3), (⟨"java/util/ArrayList", "grow", "(I)[Ljava/lang/Object;"⟩, 3), (⟨"PixelSnapper", "findHot", "()Z"⟩, 7), (⟨"PixelSnapper", "heat", "(J)Z"⟩, 7), (⟨"PixelSnapper", "mergeHot", "()Z"⟩, 7), (⟨"PixelSnapper$Row", "sink", "(JII)V"⟩, 3), (⟨"PixelSnapper", "heatCrossings", "(LPixelSnapper$Segment;I)Z"⟩, 7), (⟨"PixelSnapper$Segment", "parts", "(LPixelSnapper$Segment;)Z"⟩, 10), (⟨"PixelSnapper$Segment", "sideOf", "(JJ)J"⟩, 10), (⟨"PixelSnapper", "findChains", "()Z"⟩, 7), (⟨"PixelSnapper", "addPlaces", "(LPixelSnapper$Segment;)Z"⟩, 7), (⟨"PixelSnapper$Segment", "lineEnters", "(JJ)Z"⟩, 10), (⟨"PixelSnapper", "orderPlaces", "(LPixelSnapper$Segment;I)V"⟩, 7)]
theorem lw_r1 : ∀ q ∈ lw_privs_1, lw_okq q := List.forall_mem_cons.mpr ⟨lw_p0, List.forall_mem_cons.mpr ⟨lw_p1, List.forall_mem_cons.mpr ⟨lw_p2, List.forall_mem_cons.mpr ⟨lw_p3, List.forall_mem_cons.mpr ⟨lw_p4, List.forall_mem_cons.mpr ⟨lw_p5, List.forall_mem_cons.mpr ⟨lw_p6, List.forall_mem_cons.mpr ⟨lw_p7, List.forall_mem_cons.mpr ⟨lw_p8, List.forall_mem_cons.mpr ⟨lw_p9, List.forall_mem_cons.mpr ⟨lw_p10, List.forall_mem_cons.mpr ⟨lw_p11, List.forall_mem_cons.mpr ⟨lw_p12, List.forall_mem_cons.mpr ⟨lw_p13, List.forall_mem_cons.mpr ⟨lw_p14, List.forall_mem_cons.mpr ⟨lw_p15, fun _ h => absurd h List.not_mem_nil⟩⟩⟩⟩⟩⟩⟩⟩⟩⟩⟩⟩⟩⟩⟩⟩
theorem lw_p16 : lw_okq (⟨"PixelSnapper", "turnColumnsRound", "(I)V"⟩, 7) := ⟨⟨by decide +kernel, by decide +kernel⟩, List.mem_of_getElem? (i := 22) (by decide +kernel), List.mem_of_getElem? (i := 489) (by decide +kernel), List.mem_of_getElem? (i := 490) (by decide +kernel)⟩
theorem lw_p17 : lw_okq (⟨"PixelSnapper", "placeX", "(I)J"⟩, 7) := ⟨⟨by decide +kernel, by decide +kernel⟩, List.mem_of_getElem? (i := 22) (by decide +kernel), List.mem_of_getElem? (i := 493) (by decide +kernel), List.mem_of_getElem? (i := 494) (by decide +kernel)⟩
theorem lw_p18 : lw_okq (⟨"PixelSnapper", "findPieces", "()V"⟩, 7) := ⟨⟨by decide +kernel, by decide +kernel⟩, List.mem_of_getElem? (i := 22) (by decide +kernel), List.mem_of_getElem? (i := 513) (by decide +kernel), List.mem_of_getElem? (i := 514) (by decide +kernel)⟩
theorem lw_p19 : lw_okq (⟨"PixelSnapper", "chainStart", "(I)I"⟩, 7) := ⟨⟨by decide +kernel, by decide +kernel⟩, List.mem_of_getElem? (i := 22) (by decide +kernel), List.mem_of_getElem? (i := 517) (by decide +kernel), List.mem_of_getElem? (i := 518) (by decide +kernel)⟩
theorem lw_p20 : lw_okq (⟨"PixelSnapper", "hasSegment", "(I)Z"⟩, 7) := ⟨⟨by decide +kernel, by decide +kernel⟩, List.mem_of_getElem? (i := 22) (by decide +kernel), List.mem_of_getElem? (i := 536) (by decide +kernel), List.mem_of_getElem? (i := 537) (by decide +kernel)⟩
theorem lw_p21 : lw_okq (⟨"PixelSnapperModel", "fail", "(I)I"⟩, 24) := ⟨⟨by decide +kernel, by decide +kernel⟩, List.mem_of_getElem? (i := 606) (by decide +kernel), List.mem_of_getElem? (i := 704) (by decide +kernel), List.mem_of_getElem? (i := 705) (by decide +kernel)⟩
theorem lw_p22 : lw_okq (⟨"PixelSnapperModel", "forget", "()V"⟩, 24) := ⟨⟨by decide +kernel, by decide +kernel⟩, List.mem_of_getElem? (i := 606) (by decide +kernel), List.mem_of_getElem? (i := 708) (by decide +kernel), List.mem_of_getElem? (i := 709) (by decide +kernel)⟩
theorem lw_p23 : lw_okq (⟨"PixelSnapperModel", "isSegment", "(I)Z"⟩, 24) := ⟨⟨by decide +kernel, by decide +kernel⟩, List.mem_of_getElem? (i := 606) (by decide +kernel), List.mem_of_getElem? (i := 720) (by decide +kernel), List.mem_of_getElem? (i := 721) (by decide +kernel)⟩
theorem lw_p24 : lw_okq (⟨"PixelSnapperModel", "isIn", "(III)Z"⟩, 24) := ⟨⟨by decide +kernel, by decide +kernel⟩, List.mem_of_getElem? (i := 606) (by decide +kernel), List.mem_of_getElem? (i := 724) (by decide +kernel), List.mem_of_getElem? (i := 725) (by decide +kernel)⟩
theorem lw_p25 : lw_okq (⟨"PixelSnapperModel", "along", "(JJJ)Z"⟩, 24) := ⟨⟨by decide +kernel, by decide +kernel⟩, List.mem_of_getElem? (i := 606) (by decide +kernel), List.mem_of_getElem? (i := 729) (by decide +kernel), List.mem_of_getElem? (i := 730) (by decide +kernel)⟩
theorem lw_p26 : lw_okq (⟨"PixelSnapperModel", "raise", "(JJZ)V"⟩, 24) := ⟨⟨by decide +kernel, by decide +kernel⟩, List.mem_of_getElem? (i := 606) (by decide +kernel), List.mem_of_getElem? (i := 733) (by decide +kernel), List.mem_of_getElem? (i := 734) (by decide +kernel)⟩
theorem lw_p27 : lw_okq (⟨"PixelSnapperModel", "reduce", "(JJZ)V"⟩, 24) := ⟨⟨by decide +kernel, by decide +kernel⟩, List.mem_of_getElem? (i := 606) (by decide +kernel), List.mem_of_getElem? (i := 740) (by decide +kernel), List.mem_of_getElem? (i := 741) (by decide +kernel)⟩
theorem lw_p28 : lw_okq (⟨"PixelSnapperModel", "cross", "(II)Z"⟩, 24) := ⟨⟨by decide +kernel, by decide +kernel⟩, List.mem_of_getElem? (i := 606) (by decide +kernel), List.mem_of_getElem? (i := 748) (by decide +kernel), List.mem_of_getElem? (i := 749) (by decide +kernel)⟩
theorem lw_p29 : lw_okq (⟨"PixelSnapperModel", "end", "(II)J"⟩, 24) := ⟨⟨by decide +kernel, by decide +kernel⟩, List.mem_of_getElem? (i := 606) (by decide +kernel), List.mem_of_getElem? (i := 752) (by decide +kernel), List.mem_of_getElem? (i := 753) (by decide +kernel)⟩
theorem lw_p30 : lw_okq (⟨"PixelSnapperModel", "heatAll", "()Z"⟩, 24) := ⟨⟨by decide +kernel, by decide +kernel⟩, List.mem_of_getElem? (i := 606) (by decide +kernel), List.mem_of_getElem? (i := 763) (by decide +kernel), List.mem_of_getElem? (i := 764) (by decide +kernel)⟩
theorem lw_p31 : lw_okq (⟨"PixelSnapperModel", "heat", "(II)Z"⟩, 24) := ⟨⟨by decide +kernel, by decide +kernel⟩, List.mem_of_getElem? (i := 606) (by decide +kernel), List.mem_of_getElem? (i := 767) (by decide +kernel), List.mem_of_getElem? (i := 768) (by decide +kernel)⟩
def lw_privs_2 : List (MethodName × Nat) := [(⟨"PixelSnapper", "turnColumnsRound", "(I)V"⟩, 7), (⟨"PixelSnapper", "placeX", "(I)J"⟩, 7), (⟨"PixelSnapper", "findPieces", "()V"⟩, 7), (⟨"PixelSnapper", "chainStart", "(I)I"⟩, 7), (⟨"PixelSnapper", "hasSegment", "(I)Z"⟩, 7), (⟨"PixelSnapperModel", "fail", "(I)I"⟩, 24), (⟨"PixelSnapperModel", "forget", "()V"⟩, 24), (⟨"PixelSnapperModel", "isSegment", "(I)Z"⟩, 24), (⟨"PixelSnapperModel", "isIn", "(III)Z"⟩, 24), (⟨"PixelSnapperModel", "along", "(JJJ)Z"⟩, 24), (⟨"PixelSnapperModel", "raise", "(JJZ)V"⟩, 24), (⟨"PixelSnapperModel", "reduce", "(JJZ)V"⟩, 24), (⟨"PixelSnapperModel", "cross", "(II)Z"⟩, 24), (⟨"PixelSnapperModel", "end", "(II)J"⟩, 24), (⟨"PixelSnapperModel", "heatAll", "()Z"⟩, 24), (⟨"PixelSnapperModel", "heat", "(II)Z"⟩, 24)]
theorem lw_r2 : ∀ q ∈ lw_privs_2, lw_okq q := List.forall_mem_cons.mpr ⟨lw_p16, List.forall_mem_cons.mpr ⟨lw_p17, List.forall_mem_cons.mpr ⟨lw_p18, List.forall_mem_cons.mpr ⟨lw_p19, List.forall_mem_cons.mpr ⟨lw_p20, List.forall_mem_cons.mpr ⟨lw_p21, List.forall_mem_cons.mpr ⟨lw_p22, List.forall_mem_cons.mpr ⟨lw_p23, List.forall_mem_cons.mpr ⟨lw_p24, List.forall_mem_cons.mpr ⟨lw_p25, List.forall_mem_cons.mpr ⟨lw_p26, List.forall_mem_cons.mpr ⟨lw_p27, List.forall_mem_cons.mpr ⟨lw_p28, List.forall_mem_cons.mpr ⟨lw_p29, List.forall_mem_cons.mpr ⟨lw_p30, List.forall_mem_cons.mpr ⟨lw_p31, fun _ h => absurd h List.not_mem_nil⟩⟩⟩⟩⟩⟩⟩⟩⟩⟩⟩⟩⟩⟩⟩⟩
theorem lw_p32 : lw_okq (⟨"PixelSnapperModel", "isBefore", "(III)Z"⟩, 24) := ⟨⟨by decide +kernel, by decide +kernel⟩, List.mem_of_getElem? (i := 606) (by decide +kernel), List.mem_of_getElem? (i := 771) (by decide +kernel), List.mem_of_getElem? (i := 772) (by decide +kernel)⟩
theorem lw_p33 : lw_okq (⟨"PixelSnapperModel", "chainAll", "()Z"⟩, 24) := ⟨⟨by decide +kernel, by decide +kernel⟩, List.mem_of_getElem? (i := 606) (by decide +kernel), List.mem_of_getElem? (i := 775) (by decide +kernel), List.mem_of_getElem? (i := 776) (by decide +kernel)⟩
theorem lw_p34 : lw_okq (⟨"PixelSnapperModel", "insert", "(III)V"⟩, 24) := ⟨⟨by decide +kernel, by decide +kernel⟩, List.mem_of_getElem? (i := 606) (by decide +kernel), List.mem_of_getElem? (i := 779) (by decide +kernel), List.mem_of_getElem? (i := 780) (by decide +kernel)⟩
theorem lw_p35 : lw_okq (⟨"PixelSnapperModel", "gather", "(II)V"⟩, 24) := ⟨⟨by decide +kernel, by decide +kernel⟩, List.mem_of_getElem? (i := 606) (by decide +kernel), List.mem_of_getElem? (i := 783) (by decide +kernel), List.mem_of_getElem? (i := 784) (by decide +kernel)⟩
def lw_privs_3 : List (MethodName × Nat) := [(⟨"PixelSnapperModel", "isBefore", "(III)Z"⟩, 24), (⟨"PixelSnapperModel", "chainAll", "()Z"⟩, 24), (⟨"PixelSnapperModel", "insert", "(III)V"⟩, 24), (⟨"PixelSnapperModel", "gather", "(II)V"⟩, 24)]
theorem lw_r3 : ∀ q ∈ lw_privs_3, lw_okq q := List.forall_mem_cons.mpr ⟨lw_p32, List.forall_mem_cons.mpr ⟨lw_p33, List.forall_mem_cons.mpr ⟨lw_p34, List.forall_mem_cons.mpr ⟨lw_p35, fun _ h => absurd h List.not_mem_nil⟩⟩⟩⟩
def lw_privs : List (MethodName × Nat) := lw_privs_1 ++ (lw_privs_2 ++ (lw_privs_3))
def lw_tbl : List Cond := k2_sels lw_privs ++ tables_1
theorem lw_privs_ok : ∀ q ∈ lw_privs, lw_okq q := by
  show ∀ q ∈ lw_privs_1 ++ (lw_privs_2 ++ (lw_privs_3)), lw_okq q
  exact List.forall_mem_append.mpr ⟨lw_r1, List.forall_mem_append.mpr ⟨lw_r2, lw_r3⟩⟩
end
section
/-! ===== BEGIN words of one list among another's, by their places ===== -/
theorem goodIn_r {big : List Cond} (ws : List Cond) (ps : List Nat) (hp : ws = ps.filterMap (fun i => big[i]?)) (h : ws.all goodWord = true) : GoodIn big ws := by
  intro w hw
  have h1 := List.all_eq_true.mp h w hw
  rw [hp] at hw
  obtain ⟨i, -, hi⟩ := List.mem_filterMap.mp hw
  have hm : w ∈ big := by first | exact List.mem_of_getElem? hi | exact List.getElem?_mem hi
  exact ⟨hm, good_of_word h1⟩
theorem goodIn_app {big a b : List Cond} (ha : GoodIn big a) (hb : GoodIn big b) : GoodIn big (a ++ b) := fun w h => (List.mem_append.mp h).elim (ha w) (hb w)
theorem goodIn_ca {big a b : List Cond} {c : Cond} (ha : GoodIn big (c :: a)) (hb : GoodIn big b) : GoodIn big (c :: (a ++ b)) := fun w h => (List.mem_cons.mp h).elim (fun e => ha w (List.mem_cons.mpr (Or.inl e))) (fun h => (List.mem_append.mp h).elim (fun h => ha w (List.mem_cons.mpr (Or.inr h))) (hb w))
theorem goodIn_sub {big ws : List Cond} (hm : ∀ w ∈ ws, w ∈ big) (h : ws.all goodWord = true) : GoodIn big ws := fun w hw => ⟨hm w hw, good_of_word (List.all_eq_true.mp h w hw)⟩
/-! ===== END ===== -/

/-! ===== BEGIN exceptions that leave a method, and their catching by the caller (launches without stack traces) ===== -/
section VXA
/-! The laws vx_back, vx_callV, vx_callS, vx_callSW, vx_throw0, vx_throwS follow proofs of the library, with one case more: JvmDerived/Free/Laws.lean (Back.of_free), Shelf42/LK1.lean (callV, callS), Shelf/KitTraced.lean (throwNew0V, throwNewS). -/
/-- where a method has thrown q: the class by its name, the cell, what was written, the world -/
def vx_T (XC : String → State → State → Prop) (st : State) (q : Addr) (t : State) (mc ms : Nat) (free : Addr → Prop) : Prop :=
  ∃ (E : String) (ce : Cell) (L : List Loc), XC E st t ∧ t.heap[q]? = some ce ∧ ce.vm = .none ∧ st.vm.findClass E = some ce.cls ∧ st.WarmedH t.vm ∧ st.sameButNew ({ t with vm := st.vm } : State) L mc ms ∧ ∀ z ∈ L, free z.base
def vx_Q (Qc : Array Value → State → Outcome → State → Prop) (XC : String → State → State → Prop) (mc ms : Nat) (free : Addr → Prop) : Array Value → State → Outcome → State → Prop := fun a st o t =>
  (Qc a st o t ∧ ∃ L, FrameEnd st o t L mc ms ∧ ∀ q ∈ L, free q.base) ∨ ∃ q, o = .threw q ∧ vx_T XC st q t mc ms free
/-- a callee that returns or throws -/
def vx_Met (l : Launch) (y : MethodName) (ws : List Cond) (rm : Room) (Pc : Array Value → State → Prop) (Qc : Array Value → State → Outcome → State → Prop) (XC : String → State → State → Prop) (mc ms : Nat) (free : Addr → Prop) : Prop :=
  MetFree l y (headSpec ws rm) Pc (fun _ _ _ _ _ => True) (vx_Q Qc XC mc ms free)
def vx_Post (XC : String → State → State → Prop) (mc ms : Nat) (free : Addr → Prop) : Pt → Array Value → Addr → Pt → Prop := fun A a q B =>
  ∃ (g : JFrame) (mk : MethodId) (t : State) (L : List Loc) (E : String) (ce : Cell), B.U.heap = t.heap ∧ B.U.vm = t.vm ∧ XC E (A.U.calling g mk a) t ∧ t.heap[q]? = some ce ∧ ce.vm = .none ∧ A.U.vm.findClass E = some ce.cls ∧ B.locs = A.locs ++ L ∧ (∀ z ∈ L, free z.base) ∧ B.cells = A.cells + mc ∧ B.slots = A.slots + ms
def vx_Back (l : Launch) (R : Room) (p : Program) (e : Env) (below : List Frame) (s : State) (sargs : Array Value) (y : MethodName) (len W9 : Nat)
    (Pre : Pt → Array Value → Prop) (Post : Pt → Array Value → Option Value → Pt → Prop) (PostX : Pt → Array Value → Addr → Pt → Prop) : Prop :=
  ∀ (m : MethodId) (meth : Method) (c : Code) (A : Pt) (g : JFrame) (ig : Instr) (mk : MethodId) (a : Array Value),
    Stand p l e R s m sargs below meth c A.U A.locs A.cells A.slots → g.method = m → g.locals.size = c.maxLocals → decode c.code g.pc = .ok (ig, len) →
    2 * g.monitorRoom + (g.stack.map fun v => v.category).sum ≤ W9 → A.U.methodNamed? y = some mk → Pre A a →
    (∃ (v : Option Value) (B : Pt), Stand p l e R s m sargs below meth c B.U B.locs B.cells B.slots ∧ Post A a v B ∧
      Steps p.tables e below (doInvoke e (A.U.setTop g) [] mk a).1 (B.U.setTop { g with pc := g.pc + len, stack := v.toList ++ g.stack })) ∨
    (∃ (q : Addr) (B : Pt), Stand p l e R s m sargs below meth c B.U B.locs B.cells B.slots ∧ PostX A a q B ∧
      Steps p.tables e below (doInvoke e (A.U.setTop g) [] mk a).1 ((B.U.setTop g).pushFrame (.throwing q)))
section Payer
variable {l : Launch} {R : Room} {p : Program} {e : Env} {below : List Frame} {s : State} {sargs : Array Value} {y : MethodName} {len W9 : Nat}
theorem vx_back {ws : List Cond} {rm : Room} {Pc : Array Value → State → Prop} {Qc : Array Value → State → Outcome → State → Prop} {XC : String → State → State → Prop} {mc ms : Nat} {free : Addr → Prop} {bytes : ByteArray} {maxL : Nat} {ret : Option FieldType}
    (hM : vx_Met l y ws rm Pc Qc XC mc ms free) (hblind : FrameBlind Pc) (hrc : rm.cells = mc) (hrs : rm.slots = ms)
    (hframes : rm.frames + 1 ≤ R.frames) (hlocals : W9 + (maxL + 11) + rm.locals ≤ R.locals)
    (hws : ∀ w ∈ ws, ∀ a' U, s.WarmedH U.vm → w.before a' U = true) (hcode : Cond.code y bytes maxL ret ∈ ws) (hinit : ∀ a' U, s.WarmedH U.vm → (Cond.initialized y.cls).before a' U = true) :
    vx_Back l R p e below s sargs y len W9 (PreOf R mc ms Pc) (PostOf Qc mc ms free) (vx_Post XC mc ms free) := by
  intro m meth c A g ig mk a X hg hsize hdg hW hn hp
  have h1 : (headSpec ws rm).pre.before a A.U = true := atoms_intro fun w hw => hws w hw _ _ X.warmed
  have h2 : (Cond.code y bytes maxL ret).before a A.U = true := hws _ hcode _ _ X.warmed
  have h3 : (Cond.initialized y.cls).before a A.U = true := hinit _ _ X.warmed
  have h4 : A.cells + (headSpec ws rm).room.cells ≤ R.cells := by rw [show (headSpec ws rm).room.cells = mc from hrc]; exact hp.1
  have h5 : A.slots + (headSpec ws rm).room.slots ≤ R.slots := by rw [show (headSpec ws rm).room.slots = ms from hrs]; exact hp.2.1
  have hPc : Pc a (A.U.calling g mk a) := hblind _ _ _ _ hp.2.2
  obtain ⟨U, Ls, c0, s0⟩ := A
  dsimp only [Pt.U, Pt.locs, Pt.cells, Pt.slots] at h1 h2 h3 h4 h5 X hn hPc ⊢
  obtain ⟨methY, cY, hmY, hcY, -, hlY, -, -, -, -⟩ := Cond.code_spec hn h2
  obtain ⟨kY, hkY, -⟩ := className_of_methodNamed hn
  have hinitY : kY.init = .initialized := Cond.initialized_spec (findClass_of_methodNamed hn) hkY h3
  have h : At U g.method c below := by rw [hg]; exact X.here
  have hlocals9 : W9 + (maxL + 11) + (headSpec ws rm).room.locals ≤ R.locals := hlocals
  have happ : (headSpec ws rm).appliesLoose y e.platform (U.calling g mk a) = true :=
    Spec.appliesLoose_calling (g := g) h hdg hn hkY hinitY
      (X.room_calling (g := g) (R' := (headSpec ws rm).room) hsize hmY hcY hframes (by rw [hlY]; omega) h4 h5) h1
  obtain ⟨mid, hmid⟩ := h.above
  have hfr : (U.setTop g).frames = (.java g :: mid) ++ below := by rw [State.frames_setTop' g h.top, hmid]; rfl
  obtain ⟨o, s₂, hsteps, -, hend, hq⟩ := Steps.callFree hM p X.admits X.cas X.clock (acts := []) hfr happ hPc trivial
  have hq' : vx_Q Qc XC mc ms free a (U.calling g mk a) o s₂ := hq
  rw [State.frames_setTop' g h.top] at hend
  obtain ⟨g₀, hg0⟩ := Option.isSome_iff_exists.mp h.top
  obtain ⟨r, hr⟩ := State.topJava?_eq_some.mp hg0
  have hr' : (({ U with heap := s₂.heap, slotsUsed := s₂.slotsUsed } : State).setVm s₂.vm).frames = .java g₀ :: r := hr
  rcases hq' with ⟨hqc, L, hfe, hL⟩ | ⟨q, rfl, E, ce, L, hx, hce, hcv, hcl, hW₂, hsm, hL⟩
  · obtain ⟨⟨v, rfl⟩, hW₂, e2, q2, q3, q4, q5, q6⟩ := id hfe
    have e3 : s₂ = ({ (U.calling g mk a).setFrames s₂.frames with heap := s₂.heap, slotsUsed := s₂.slotsUsed } : State).setVm s₂.vm := by
      have : s₂ = ({ s₂ with vm := (U.calling g mk a).vm } : State).setVm s₂.vm := rfl
      rw [e2] at this
      exact this
    obtain ⟨c₂, i₂, len₂, hc₂, hd₂, hf₂⟩ := hend
    have hW' : U.WarmedH s₂.vm := hW₂
    have hcc : c₂ = c := by
      have h1 : s₂.code? g.method = U.code? g.method := by
        rw [State.code?_eq, State.code?_eq, hW'.alike.method?]
      exact Option.some.inj (hc₂.symm.trans (h1.trans h.code))
    subst hcc
    have hlen : len₂ = len := by rw [hdg] at hd₂; cases hd₂; rfl
    subst hlen
    have hs₂ : s₂ = (({ U with heap := s₂.heap, slotsUsed := s₂.slotsUsed } : State).setVm s₂.vm).setTop { g with pc := g.pc + len₂, stack := v.toList ++ g.stack } := by
      refine e3.trans ?_
      rw [hf₂, State.calling_eq h.top, State.setFrames_setFrames, State.setTop_of_frames _ hr', hr]
      rfl
    have hsame : U.sameButNew ({ U with heap := s₂.heap, slotsUsed := s₂.slotsUsed } : State) L mc ms := by
      refine ⟨?_, q2, q3, q4, q5, q6⟩
      obtain ⟨t, ht, -⟩ := State.frames_cons hr
      show ({ U with heap := s₂.heap, slotsUsed := s₂.slotsUsed } : State) = { U.setFrames U.frames with heap := s₂.heap, slotsUsed := s₂.slotsUsed }
      rw [State.setFrames_self ht]
    subst hg
    refine Or.inl ⟨v, ⟨(({ U with heap := s₂.heap, slotsUsed := s₂.slotsUsed } : State).setVm s₂.vm), Ls ++ L, c0 + mc, s0 + ms⟩,
      ⟨X.admits, X.cas, X.clock, X.frames, X.room, X.hears, X.method, X.code, (X.here.setHeapUsed s₂.heap s₂.slotsUsed).setVm hW'.alike, X.tail, State.WarmedH.trans X.warmed hW', X.limits, X.bytes, X.same.trans (hsame.setVm s.vm)⟩,
      ⟨g, mk, s₂, L, rfl, rfl, hqc, rfl, hL, rfl, rfl⟩, ?_⟩
    show Steps p.tables e below _ ((({ U with heap := s₂.heap, slotsUsed := s₂.slotsUsed } : State).setVm s₂.vm).setTop { g with pc := g.pc + len₂, stack := v.toList ++ g.stack })
    rw [← hs₂]
    exact hsteps
  · obtain ⟨e2, q2, q3, q4, q5, q6⟩ := id hsm
    have e3 : s₂ = ({ (U.calling g mk a).setFrames s₂.frames with heap := s₂.heap, slotsUsed := s₂.slotsUsed } : State).setVm s₂.vm := by
      have : s₂ = ({ s₂ with vm := (U.calling g mk a).vm } : State).setVm s₂.vm := rfl
      rw [e2] at this
      exact this
    have hf₂ : s₂.frames = .throwing q :: .java g :: U.frames.tail := hend
    have hW' : U.WarmedH s₂.vm := hW₂
    have hs₂ : s₂ = ((({ U with heap := s₂.heap, slotsUsed := s₂.slotsUsed } : State).setVm s₂.vm).setTop g).pushFrame (.throwing q) := by
      refine e3.trans ?_
      rw [hf₂, State.calling_eq h.top, State.setFrames_setFrames, State.pushFrame, State.frames_setTop _ hr', State.setTop_of_frames _ hr', State.setFrames_setFrames, hr]
      rfl
    have hsame : U.sameButNew ({ U with heap := s₂.heap, slotsUsed := s₂.slotsUsed } : State) L mc ms := by
      refine ⟨?_, q2, q3, q4, q5, q6⟩
      obtain ⟨t, ht, -⟩ := State.frames_cons hr
      show ({ U with heap := s₂.heap, slotsUsed := s₂.slotsUsed } : State) = { U.setFrames U.frames with heap := s₂.heap, slotsUsed := s₂.slotsUsed }
      rw [State.setFrames_self ht]
    subst hg
    refine Or.inr ⟨q, ⟨(({ U with heap := s₂.heap, slotsUsed := s₂.slotsUsed } : State).setVm s₂.vm), Ls ++ L, c0 + mc, s0 + ms⟩,
      ⟨X.admits, X.cas, X.clock, X.frames, X.room, X.hears, X.method, X.code, (X.here.setHeapUsed s₂.heap s₂.slotsUsed).setVm hW'.alike, X.tail, State.WarmedH.trans X.warmed hW', X.limits, X.bytes, X.same.trans (hsame.setVm s.vm)⟩,
      ⟨g, mk, s₂, L, E, ce, rfl, rfl, hx, hce, hcv, hcl, rfl, hL, rfl, rfl⟩, ?_⟩
    show Steps p.tables e below _ (((({ U with heap := s₂.heap, slotsUsed := s₂.slotsUsed } : State).setVm s₂.vm).setTop g).pushFrame (.throwing q))
    rw [← hs₂]
    exact hsteps
end Payer
section Calls
variable {p : Program} {l : Launch} {e : Env} {R : Room} {s : State} {m : MethodId} {args : Array Value} {below : List Frame} {meth : Method} {c : Code} {T : State} {locs : List Loc} {cells slots : Nat}
theorem vx_callV (X : Stand p l e R s m args below meth c T locs cells slots) (hexec : p.tables.exec = Jvm.exec) {own C : String} {index : Nat} {y : MethodName} {bytes : ByteArray} {maxL : Nat} {ret : Option FieldType}
    (hown : s.vm.findClass own = some m.cls) (hlink : (Cond.methodLink own index y).before args s = true) (hinst : (Cond.instanceMethod y).before args s = true) (hsel : (Cond.selects C y y).before args s = true)
    (hcode : (Cond.code y bytes maxL ret).before args s = true) (hy : y.cls ≠ "java/lang/invoke/MethodHandle" ∧ y.cls ≠ "java/lang/invoke/VarHandle")
    {W9 : Nat} {Pre : Pt → Array Value → Prop} {Post : Pt → Array Value → Option Value → Pt → Prop} {PostX : Pt → Array Value → Addr → Pt → Prop} (hK : vx_Back l R p e below s args y 3 W9 Pre Post PostX)
    {b : Addr} {cellB : Cell} (hcell : T.heap[b]? = some cellB) (hobj : cellB.vm.isStatics = false) (hcls : s.vm.findClass C = some cellB.cls)
    {g : JFrame} (hg : g.method = m) (hsize : g.locals.size = c.maxLocals) {argsL rest : List Value} (hlen : ∀ sig, parseMethodDescriptor y.desc = some sig → argsL.length = sig.parameters.length)
    (hstack : g.stack = argsL.reverse ++ .ref b :: rest) (hW : 2 * g.monitorRoom + (rest.map fun v => v.category).sum ≤ W9) (hdg : decode c.code g.pc = .ok (.invokevirtual index, 3))
    (hpre : ∀ vm₁, s.WarmedH vm₁ → Pre ⟨T.setVm vm₁, locs, cells, slots⟩ (Value.ref b :: argsL).toArray) :
    (∃ (v : Option Value) (vm₁ : Vm) (B : Pt), s.WarmedH vm₁ ∧ Stand p l e R s m args below meth c B.U B.locs B.cells B.slots ∧ Post ⟨T.setVm vm₁, locs, cells, slots⟩ (Value.ref b :: argsL).toArray v B ∧
      ∀ target, Steps p.tables e below (B.U.setTop { g with pc := g.pc + 3, stack := v.toList ++ rest }) target → Steps p.tables e below (T.setTop g) target) ∨
    (∃ (q : Addr) (vm₁ : Vm) (B : Pt), s.WarmedH vm₁ ∧ Stand p l e R s m args below meth c B.U B.locs B.cells B.slots ∧ PostX ⟨T.setVm vm₁, locs, cells, slots⟩ (Value.ref b :: argsL).toArray q B ∧
      Steps p.tables e below (T.setTop g) ((B.U.setTop { g with stack := rest }).pushFrame (.throwing q))) := by
  obtain ⟨mk, methM, hnamed, hmethM, hstM, habM⟩ := Cond.instanceMethod_spec hinst
  obtain ⟨methM', cM, hmethM', -, -, -, -, -, -, hsigM⟩ := Cond.code_spec hnamed hcode
  cases hmethM.symm.trans hmethM'
  obtain ⟨c2, r2, m2, q1, q2, q3, q4, kP, hkP, hkPi⟩ := Cond.selects_spec hsel
  cases hcls.symm.trans q1
  cases (State.methodFound?_of_named hnamed hy).symm.trans q2
  cases hnamed.symm.trans q3
  have hselP : selectMethod e.platform s.vm cellB.cls mk = .method mk := by rw [Launch.admits_selectMethod X.admits]; exact q4
  obtain ⟨vm₁, X₁, hstep₁⟩ := X.invokevirtual hexec hown hlink hnamed hmethM hstM hkP hkPi hy (a := b) (cell := cellB) hcell
    (fun z h => by rw [h] at hobj; cases hobj) hselP hmethM habM hkP hkPi (g := g) hg (argsL := argsL) (rest := rest) (hlen _ hsigM) hstack hdg
  rcases hK m meth c ⟨T.setVm vm₁, locs, cells, slots⟩ { g with stack := rest } (.invokevirtual index) mk (Value.ref b :: argsL).toArray X₁ hg hsize hdg hW (X₁.named hnamed) (hpre vm₁ X₁.warmed) with ⟨v, B, X', hpost, hsteps⟩ | ⟨q, B, X', hpost, hsteps⟩
  · exact Or.inl ⟨v, vm₁, B, X₁.warmed, X', hpost, fun target h => hstep₁ _ fun acts => by rw [doInvoke_state]; exact hsteps.trans h⟩
  · exact Or.inr ⟨q, vm₁, B, X₁.warmed, X', hpost, hstep₁ _ fun acts => by rw [doInvoke_state]; exact hsteps⟩
theorem vx_callS (X : Stand p l e R s m args below meth c T locs cells slots) (hexec : p.tables.exec = Jvm.exec) {own : String} {index : Nat} {y : MethodName} {bytes : ByteArray} {maxL : Nat} {ret : Option FieldType}
    (hown : s.vm.findClass own = some m.cls) (hlink : (Cond.methodLink own index y).before args s = true) (hstat : (Cond.static y).before args s = true) (hinit : (Cond.initialized y.cls).before args s = true)
    (hcode : (Cond.code y bytes maxL ret).before args s = true) (hy : y.cls ≠ "java/lang/invoke/MethodHandle" ∧ y.cls ≠ "java/lang/invoke/VarHandle")
    {W9 : Nat} {Pre : Pt → Array Value → Prop} {Post : Pt → Array Value → Option Value → Pt → Prop} {PostX : Pt → Array Value → Addr → Pt → Prop} (hK : vx_Back l R p e below s args y 3 W9 Pre Post PostX)
    {g : JFrame} (hg : g.method = m) (hsize : g.locals.size = c.maxLocals) {argsL rest : List Value} (hlen : ∀ sig, parseMethodDescriptor y.desc = some sig → argsL.length = sig.parameters.length)
    (hstack : g.stack = argsL.reverse ++ rest) (hW : 2 * g.monitorRoom + (rest.map fun v => v.category).sum ≤ W9) (hdg : decode c.code g.pc = .ok (.invokestatic index, 3))
    (hpre : ∀ vm₁, s.WarmedH vm₁ → Pre ⟨T.setVm vm₁, locs, cells, slots⟩ argsL.toArray) :
    (∃ (v : Option Value) (vm₁ : Vm) (B : Pt), s.WarmedH vm₁ ∧ Stand p l e R s m args below meth c B.U B.locs B.cells B.slots ∧ Post ⟨T.setVm vm₁, locs, cells, slots⟩ argsL.toArray v B ∧
      ∀ target, Steps p.tables e below (B.U.setTop { g with pc := g.pc + 3, stack := v.toList ++ rest }) target → Steps p.tables e below (T.setTop g) target) ∨
    (∃ (q : Addr) (vm₁ : Vm) (B : Pt), s.WarmedH vm₁ ∧ Stand p l e R s m args below meth c B.U B.locs B.cells B.slots ∧ PostX ⟨T.setVm vm₁, locs, cells, slots⟩ argsL.toArray q B ∧
      Steps p.tables e below (T.setTop g) ((B.U.setTop { g with stack := rest }).pushFrame (.throwing q))) := by
  obtain ⟨mk, hnamed⟩ := Cond.code_named hcode
  obtain ⟨methM, cM, hmethM, -, -, -, -, -, -, hsigM⟩ := Cond.code_spec hnamed hcode
  have hstatic : methM.isStatic = true := Cond.static_spec hnamed hmethM hstat
  obtain ⟨kP, hkP, -⟩ := className_of_methodNamed hnamed
  have hinitP : kP.init = .initialized := Cond.initialized_spec (findClass_of_methodNamed hnamed) hkP hinit
  obtain ⟨vm₁, X₁, hstep₁⟩ := X.invokestatic hexec hown hlink hnamed hmethM hstatic hkP hinitP hy (g := g) hg (argsL := argsL) (rest := rest) (hlen _ hsigM) hstack hdg
  rcases hK m meth c ⟨T.setVm vm₁, locs, cells, slots⟩ { g with stack := rest } (.invokestatic index) mk argsL.toArray X₁ hg hsize hdg hW (X₁.named hnamed) (hpre vm₁ X₁.warmed) with ⟨v, B, X', hpost, hsteps⟩ | ⟨q, B, X', hpost, hsteps⟩
  · exact Or.inl ⟨v, vm₁, B, X₁.warmed, X', hpost, fun target h => hstep₁ _ fun acts => by rw [doInvoke_state]; exact hsteps.trans h⟩
  · exact Or.inr ⟨q, vm₁, B, X₁.warmed, X', hpost, hstep₁ _ fun acts => by rw [doInvoke_state]; exact hsteps⟩
end Calls
theorem vx_cls {s : State} {T : State} {vm₁ : Vm} {E : String} {k : ClassId} (hW : s.WarmedH vm₁) (h : (T.setVm vm₁).vm.findClass E = some k) : s.vm.findClass E = some k := by
  have h1 : vm₁.findClass E = some k := h
  rw [hW.alike.findClass] at h1
  exact h1
/-- the method's frame g, with q thrown over it -/
def vx_W (p : Program) (l : Launch) (e : Env) (R : Room) (s : State) (m : MethodId) (args : Array Value) (below : List Frame) (meth : Method) (c : Code) (H : Heap) (locs : List Loc) (cells slots : Nat) (Q : State → Prop) (g : JFrame) (q : Addr) : Prop :=
  ∀ T : State, T.heap = H → Stand p l e R s m args below meth c T locs cells slots → ∃ t, Steps p.tables e below ((T.setTop g).pushFrame (.throwing q)) t ∧ Q t
def vx_Run (p : Program) (l : Launch) (e : Env) (R : Room) (s : State) (m : MethodId) (args : Array Value) (below : List Frame) (meth : Method) (c : Code) (H : Heap) (locs : List Loc) (cells slots mc ms : Nat) (g : JFrame) (rest : List Value) (Qa : State → Outcome → State → Prop) (XC : String → State → State → Prop) (free : Addr → Prop) : Prop :=
  ∀ T : State, T.heap = H → Stand p l e R s m args below meth c T locs cells slots →
    (∃ (v : Option Value) (st₀ t T' : State) (L : List Loc), st₀.heap = H ∧ Stand p l e R s m args below meth c T' (locs ++ L) (cells + mc) (slots + ms) ∧ (∀ q ∈ L, free q.base) ∧ T'.heap = t.heap ∧ T'.vm = t.vm ∧ Qa st₀ (.returned v) t ∧
      Goes p e below T g T' { g with pc := g.pc + 3, stack := v.toList ++ rest }) ∨
    (∃ (q : Addr) (st₀ t T' : State) (L : List Loc) (E : String) (ce : Cell), st₀.heap = H ∧ Stand p l e R s m args below meth c T' (locs ++ L) (cells + mc) (slots + ms) ∧ (∀ z ∈ L, free z.base) ∧ T'.heap = t.heap ∧ T'.vm = t.vm ∧ XC E st₀ t ∧ t.heap[q]? = some ce ∧ ce.vm = .none ∧ s.vm.findClass E = some ce.cls ∧
      Steps p.tables e below (T.setTop g) ((T'.setTop { g with stack := rest }).pushFrame (.throwing q)))
def vx_X {S : Type} (px : S → Prop) (B : String → S → State → Prop) (A : Nat → Prop) : String → State → State → Prop := fun E st t => ∃ u : S, px u ∧ B E u t ∧ va_F A st t
section Runs
variable {p : Program} {l : Launch} {e : Env} {R : Room} {s : State} {m : MethodId} {args : Array Value} {below : List Frame} {meth : Method} {c : Code} {H : Heap} {locs : List Loc} {cells slots : Nat}
variable {y : MethodName} {bytes cc : ByteArray} {maxL nL mc ms n index : Nat} {ret : Option FieldType} {ws : List Cond} {rm : Room} {Pc : Array Value → State → Prop} {Qc : Array Value → State → Outcome → State → Prop} {XC : String → State → State → Prop} {free : Addr → Prop} {Ts : List Cond} {own C : String} {b : Addr} {As rest : List Value} {g : JFrame}
theorem vx_callBack (cb : CallB R s args own index y bytes maxL ret ws rm mc ms n) (hM : vx_Met l y ws rm Pc Qc XC mc ms free) (hbl : FrameBlind Pc) : vx_Back l R p e below s args y 3 8 (PreOf R mc ms Pc) (PostOf Qc mc ms free) (vx_Post XC mc ms free) := by
  obtain ⟨hrc, hrs, hfr, hlo, hws, hcw, -, hini, -⟩ := cb
  exact vx_back (bytes := bytes) (maxL := maxL) (ret := ret) hM hbl hrc hrs hfr hlo hws hcw (fun a' U hW => word_at hW (Or.inl (by first | rfl | simp [Cond.onTables, Cond.keeps, Cond.steady])) hini)
theorem vx_runV (S : CallFix p m c cc nL s args Ts own) (hM : vx_Met l y ws rm Pc Qc XC mc ms free) (cw : CallW R s args own C index y bytes maxL ret ws rm mc ms n) (hp : PreV s H C b Pc As)
    (hg : g.method = m) (hn : As.length = n) (hsize : g.locals.size = nL) (hstack : g.stack = As.reverse ++ .ref b :: rest) (hW : 2 * g.monitorRoom + (rest.map fun v => v.category).sum ≤ 8) (hdg : decode cc g.pc = .ok (.invokevirtual index, 3)) (hf : cells + mc ≤ R.cells ∧ slots + ms ≤ R.slots) :
    vx_Run p l e R s m args below meth c H locs cells slots mc ms g rest (Qc (Value.ref b :: As).toArray) XC free := by
  have hK : vx_Back l R p e below s args y 3 8 (PreOf R mc ms Pc) (PostOf Qc mc ms free) (vx_Post XC mc ms free) := vx_callBack cw.1 hM hp.1
  obtain ⟨⟨-, -, -, -, -, -, hcode, -, hy, hlen, hl⟩, hin, hse⟩ := cw
  obtain ⟨hx, hb, hml, ho, -⟩ := S
  obtain ⟨-, ⟨cellB, hcB, hoB, hclB⟩, hPc⟩ := hp
  intro T hT X
  rcases vx_callV X hx (C := C) (bytes := bytes) (maxL := maxL) (ret := ret) ho hl hin hse hcode hy hK (by rw [hT]; exact hcB) hoB hclB hg (hsize.trans hml.symm) (argsL := As) (rest := rest) (fun sig h => hn.trans (hlen sig h)) hstack hW (by rw [hb]; exact hdg)
    (fun vm₁ hW₁ => ⟨hf.1, hf.2, hPc (T.setVm vm₁) hT hW₁⟩) with ⟨v, vm₁, ⟨U', l2, c2, s2⟩, hW₁, X', ⟨g', mk, t, L, e1, e2, hq, h1, hL, h2, h3⟩, st⟩ | ⟨q, vm₁, ⟨U', l2, c2, s2⟩, hW₁, X', ⟨g', mk, t, L, E, ce, e1, e2, hq, hce, hcv, hcl, h1, hL, h2, h3⟩, st⟩
  · dsimp only [Pt.U, Pt.locs, Pt.cells, Pt.slots] at X' e1 e2 h1 h2 h3 st
    subst h1; subst h2; subst h3
    exact Or.inl ⟨v, (T.setVm vm₁).calling g' mk (Value.ref b :: As).toArray, t, U', L, hT, X', hL, e1, e2, hq, st⟩
  · dsimp only [Pt.U, Pt.locs, Pt.cells, Pt.slots] at X' e1 e2 h1 h2 h3 st hcl
    subst h1; subst h2; subst h3
    exact Or.inr ⟨q, (T.setVm vm₁).calling g' mk (Value.ref b :: As).toArray, t, U', L, E, ce, hT, X', hL, e1, e2, hq, hce, hcv, vx_cls hW₁ hcl, st⟩
theorem vx_runS (S : CallFix p m c cc nL s args Ts own) (hM : vx_Met l y ws rm Pc Qc XC mc ms free) (cw : CallB R s args own index y bytes maxL ret ws rm mc ms n ∧ (Cond.static y).before args s = true) (hp : PreS s H Pc As)
    (hg : g.method = m) (hn : As.length = n) (hsize : g.locals.size = nL) (hstack : g.stack = As.reverse ++ rest) (hW : 2 * g.monitorRoom + (rest.map fun v => v.category).sum ≤ 8) (hdg : decode cc g.pc = .ok (.invokestatic index, 3)) (hf : cells + mc ≤ R.cells ∧ slots + ms ≤ R.slots) :
    vx_Run p l e R s m args below meth c H locs cells slots mc ms g rest (Qc As.toArray) XC free := by
  have hK : vx_Back l R p e below s args y 3 8 (PreOf R mc ms Pc) (PostOf Qc mc ms free) (vx_Post XC mc ms free) := vx_callBack cw.1 hM hp.1
  obtain ⟨⟨-, -, -, -, -, -, hcode, hini, hy, hlen, hl⟩, hstt⟩ := cw
  obtain ⟨hx, hb, hml, ho, -⟩ := S
  intro T hT X
  rcases vx_callS X hx (bytes := bytes) (maxL := maxL) (ret := ret) ho hl hstt hini hcode hy hK hg (hsize.trans hml.symm) (argsL := As) (rest := rest) (fun sig h => hn.trans (hlen sig h)) hstack hW (by rw [hb]; exact hdg)
    (fun vm₁ hW₁ => ⟨hf.1, hf.2, hp.2 (T.setVm vm₁) hT hW₁⟩) with ⟨v, vm₁, ⟨U', l2, c2, s2⟩, hW₁, X', ⟨g', mk, t, L, e1, e2, hq, h1, hL, h2, h3⟩, st⟩ | ⟨q, vm₁, ⟨U', l2, c2, s2⟩, hW₁, X', ⟨g', mk, t, L, E, ce, e1, e2, hq, hce, hcv, hcl, h1, hL, h2, h3⟩, st⟩
  · dsimp only [Pt.U, Pt.locs, Pt.cells, Pt.slots] at X' e1 e2 h1 h2 h3 st
    subst h1; subst h2; subst h3
    exact Or.inl ⟨v, (T.setVm vm₁).calling g' mk As.toArray, t, U', L, hT, X', hL, e1, e2, hq, st⟩
  · dsimp only [Pt.U, Pt.locs, Pt.cells, Pt.slots] at X' e1 e2 h1 h2 h3 st hcl
    subst h1; subst h2; subst h3
    exact Or.inr ⟨q, (T.setVm vm₁).calling g' mk As.toArray, t, U', L, E, ce, hT, X', hL, e1, e2, hq, hce, hcv, vx_cls hW₁ hcl, st⟩
end Runs
section Rows
variable {p : Program} {l : Launch} {e : Env} {R : Room} {s : State} {m : MethodId} {args : Array Value} {below : List Frame} {meth : Method} {c : Code} {H : Heap} {locs : List Loc} {cells slots : Nat} {Q : State → Prop}
variable {mc ms : Nat} {free : Addr → Prop} {A0 A1 : Nat → Prop} {H0 : Heap} {a : Array Value} {pc : Nat} {ls : Array Slot} {st0 rest : List Value}
theorem vx_keep {st₀ t T' : State} {L : List Loc} (h0 : st₀.heap = H) (e1 : T'.heap = t.heap) (hS : va_S A0 H0 H locs) (hA : ∀ q, q < H.size → A1 q → A0 q) (hf : ∀ q, free q → A0 q) (hL : ∀ q ∈ L, free q.base) (hF : va_F A1 st₀ t) :
    H.size ≤ T'.heap.size ∧ (∀ q : Nat, q < H.size → ¬ A1 q → T'.heap[q]? = H[q]?) ∧ va_S A0 H0 T'.heap (locs ++ L) := by
  obtain ⟨hz, hk⟩ := hF
  rw [h0] at hz hk
  exact ⟨by rw [e1]; exact hz, fun q h1 h2 => by rw [e1]; exact hk q h1 h2,
    ⟨Nat.le_trans hS.1 (by rw [e1]; exact hz), fun q h1 h2 => by rw [e1, hk q (Nat.lt_of_lt_of_le h1 hS.1) (fun z => h2 (hA q (Nat.lt_of_lt_of_le h1 hS.1) z))]; exact hS.2.1 q h1 h2, fun q hq => by
      rcases List.mem_append.mp hq with h | h
      · exact hS.2.2 q h
      · exact hf _ (hL q h)⟩⟩
theorem vx_calli {S SX : Type} {post : Int32 → S → Prop} {px : SX → Prop} {B : S → State → Prop} {BX : String → SX → State → Prop} {AX : Nat → Prop} (hr : vx_Run p l e R s m args below meth c H locs cells slots mc ms (F0 m pc ls st0) rest (va_Qi post B A1 a) (vx_X px BX AX) free) (hS : va_S A0 H0 H locs) (hA : ∀ q, q < H.size → A1 q → A0 q) (hf : ∀ q, free q → A0 q) (hAX : ∀ q, q < H.size → AX q → A0 q)
    (kx : ∀ (E : String) (ce : Cell) (q9 : Addr) (u : SX) (t : State) (H1 : Heap) (locs1 : List Loc), t.heap = H1 → s.vm.Alike t.vm → px u → BX E u t → H.size ≤ H1.size → (∀ q : Nat, q < H.size → ¬ AX q → H1[q]? = H[q]?) → va_S A0 H0 H1 locs1 → H1[q9]? = some ce → ce.vm = .none → s.vm.findClass E = some ce.cls → vx_W p l e R s m args below meth c H1 locs1 (cells + mc) (slots + ms) Q (F0 m pc ls rest) q9)
    (kk : ∀ (r : Int32) (u : S) (t : State) (H1 : Heap) (locs1 : List Loc), t.heap = H1 → s.vm.Alike t.vm → post r u → B u t → H.size ≤ H1.size → (∀ q : Nat, q < H.size → ¬ A1 q → H1[q]? = H[q]?) → va_S A0 H0 H1 locs1 → W p l e R s m args below meth c H1 locs1 (cells + mc) (slots + ms) Q (F0 m (pc + 3) ls (.int r :: rest))) : W p l e R s m args below meth c H locs cells slots Q (F0 m pc ls st0) := by
  intro T hT X
  rcases hr T hT X with ⟨v, st₀, t, T', L, h0, X', hL, e1, e2, ⟨⟨r, u, hv, hp, hb⟩, hF⟩, st⟩ | ⟨q, st₀, t, T', L, E, ce, h0, X', hL, e1, e2, ⟨u, hp, hb, hF⟩, hce, hcv, hcl, st⟩
  · cases hv
    obtain ⟨k1, k2, k3⟩ := vx_keep h0 e1 hS hA hf hL hF
    obtain ⟨t2, a1, b1⟩ := kk r u t T'.heap (locs ++ L) e1.symm (by rw [← e2]; exact X'.warmed.alike) hp hb k1 k2 k3 T' rfl X'
    exact ⟨t2, st t2 a1, b1⟩
  · obtain ⟨k1, k2, k3⟩ := vx_keep h0 e1 hS hAX hf hL hF
    obtain ⟨t2, a1, b1⟩ := kx E ce q u t T'.heap (locs ++ L) e1.symm (by rw [← e2]; exact X'.warmed.alike) hp hb k1 k2 k3 (by rw [e1]; exact hce) hcv hcl T' rfl X'
    exact ⟨t2, st.trans a1, b1⟩
theorem vx_calll {S SX : Type} {post : Int64 → S → Prop} {px : SX → Prop} {B : S → State → Prop} {BX : String → SX → State → Prop} {AX : Nat → Prop} (hr : vx_Run p l e R s m args below meth c H locs cells slots mc ms (F0 m pc ls st0) rest (va_Ql post B A1 a) (vx_X px BX AX) free) (hS : va_S A0 H0 H locs) (hA : ∀ q, q < H.size → A1 q → A0 q) (hf : ∀ q, free q → A0 q) (hAX : ∀ q, q < H.size → AX q → A0 q)
    (kx : ∀ (E : String) (ce : Cell) (q9 : Addr) (u : SX) (t : State) (H1 : Heap) (locs1 : List Loc), t.heap = H1 → s.vm.Alike t.vm → px u → BX E u t → H.size ≤ H1.size → (∀ q : Nat, q < H.size → ¬ AX q → H1[q]? = H[q]?) → va_S A0 H0 H1 locs1 → H1[q9]? = some ce → ce.vm = .none → s.vm.findClass E = some ce.cls → vx_W p l e R s m args below meth c H1 locs1 (cells + mc) (slots + ms) Q (F0 m pc ls rest) q9)
    (kk : ∀ (r : Int64) (u : S) (t : State) (H1 : Heap) (locs1 : List Loc), t.heap = H1 → s.vm.Alike t.vm → post r u → B u t → H.size ≤ H1.size → (∀ q : Nat, q < H.size → ¬ A1 q → H1[q]? = H[q]?) → va_S A0 H0 H1 locs1 → W p l e R s m args below meth c H1 locs1 (cells + mc) (slots + ms) Q (F0 m (pc + 3) ls (.long r :: rest))) : W p l e R s m args below meth c H locs cells slots Q (F0 m pc ls st0) := by
  intro T hT X
  rcases hr T hT X with ⟨v, st₀, t, T', L, h0, X', hL, e1, e2, ⟨⟨r, u, hv, hp, hb⟩, hF⟩, st⟩ | ⟨q, st₀, t, T', L, E, ce, h0, X', hL, e1, e2, ⟨u, hp, hb, hF⟩, hce, hcv, hcl, st⟩
  · cases hv
    obtain ⟨k1, k2, k3⟩ := vx_keep h0 e1 hS hA hf hL hF
    obtain ⟨t2, a1, b1⟩ := kk r u t T'.heap (locs ++ L) e1.symm (by rw [← e2]; exact X'.warmed.alike) hp hb k1 k2 k3 T' rfl X'
    exact ⟨t2, st t2 a1, b1⟩
  · obtain ⟨k1, k2, k3⟩ := vx_keep h0 e1 hS hAX hf hL hF
    obtain ⟨t2, a1, b1⟩ := kx E ce q u t T'.heap (locs ++ L) e1.symm (by rw [← e2]; exact X'.warmed.alike) hp hb k1 k2 k3 (by rw [e1]; exact hce) hcv hcl T' rfl X'
    exact ⟨t2, st.trans a1, b1⟩
theorem vx_callf {S SX : Type} {post : UInt32 → S → Prop} {px : SX → Prop} {B : S → State → Prop} {BX : String → SX → State → Prop} {AX : Nat → Prop} (hr : vx_Run p l e R s m args below meth c H locs cells slots mc ms (F0 m pc ls st0) rest (va_Qf post B A1 a) (vx_X px BX AX) free) (hS : va_S A0 H0 H locs) (hA : ∀ q, q < H.size → A1 q → A0 q) (hf : ∀ q, free q → A0 q) (hAX : ∀ q, q < H.size → AX q → A0 q)
    (kx : ∀ (E : String) (ce : Cell) (q9 : Addr) (u : SX) (t : State) (H1 : Heap) (locs1 : List Loc), t.heap = H1 → s.vm.Alike t.vm → px u → BX E u t → H.size ≤ H1.size → (∀ q : Nat, q < H.size → ¬ AX q → H1[q]? = H[q]?) → va_S A0 H0 H1 locs1 → H1[q9]? = some ce → ce.vm = .none → s.vm.findClass E = some ce.cls → vx_W p l e R s m args below meth c H1 locs1 (cells + mc) (slots + ms) Q (F0 m pc ls rest) q9)
    (kk : ∀ (r : UInt32) (u : S) (t : State) (H1 : Heap) (locs1 : List Loc), t.heap = H1 → s.vm.Alike t.vm → post r u → B u t → H.size ≤ H1.size → (∀ q : Nat, q < H.size → ¬ A1 q → H1[q]? = H[q]?) → va_S A0 H0 H1 locs1 → W p l e R s m args below meth c H1 locs1 (cells + mc) (slots + ms) Q (F0 m (pc + 3) ls (.float r :: rest))) : W p l e R s m args below meth c H locs cells slots Q (F0 m pc ls st0) := by
  intro T hT X
  rcases hr T hT X with ⟨v, st₀, t, T', L, h0, X', hL, e1, e2, ⟨⟨r, u, hv, hp, hb⟩, hF⟩, st⟩ | ⟨q, st₀, t, T', L, E, ce, h0, X', hL, e1, e2, ⟨u, hp, hb, hF⟩, hce, hcv, hcl, st⟩
  · cases hv
    obtain ⟨k1, k2, k3⟩ := vx_keep h0 e1 hS hA hf hL hF
    obtain ⟨t2, a1, b1⟩ := kk r u t T'.heap (locs ++ L) e1.symm (by rw [← e2]; exact X'.warmed.alike) hp hb k1 k2 k3 T' rfl X'
    exact ⟨t2, st t2 a1, b1⟩
  · obtain ⟨k1, k2, k3⟩ := vx_keep h0 e1 hS hAX hf hL hF
    obtain ⟨t2, a1, b1⟩ := kx E ce q u t T'.heap (locs ++ L) e1.symm (by rw [← e2]; exact X'.warmed.alike) hp hb k1 k2 k3 (by rw [e1]; exact hce) hcv hcl T' rfl X'
    exact ⟨t2, st.trans a1, b1⟩
theorem vx_calld {S SX : Type} {post : UInt64 → S → Prop} {px : SX → Prop} {B : S → State → Prop} {BX : String → SX → State → Prop} {AX : Nat → Prop} (hr : vx_Run p l e R s m args below meth c H locs cells slots mc ms (F0 m pc ls st0) rest (va_Qd post B A1 a) (vx_X px BX AX) free) (hS : va_S A0 H0 H locs) (hA : ∀ q, q < H.size → A1 q → A0 q) (hf : ∀ q, free q → A0 q) (hAX : ∀ q, q < H.size → AX q → A0 q)
    (kx : ∀ (E : String) (ce : Cell) (q9 : Addr) (u : SX) (t : State) (H1 : Heap) (locs1 : List Loc), t.heap = H1 → s.vm.Alike t.vm → px u → BX E u t → H.size ≤ H1.size → (∀ q : Nat, q < H.size → ¬ AX q → H1[q]? = H[q]?) → va_S A0 H0 H1 locs1 → H1[q9]? = some ce → ce.vm = .none → s.vm.findClass E = some ce.cls → vx_W p l e R s m args below meth c H1 locs1 (cells + mc) (slots + ms) Q (F0 m pc ls rest) q9)
    (kk : ∀ (r : UInt64) (u : S) (t : State) (H1 : Heap) (locs1 : List Loc), t.heap = H1 → s.vm.Alike t.vm → post r u → B u t → H.size ≤ H1.size → (∀ q : Nat, q < H.size → ¬ A1 q → H1[q]? = H[q]?) → va_S A0 H0 H1 locs1 → W p l e R s m args below meth c H1 locs1 (cells + mc) (slots + ms) Q (F0 m (pc + 3) ls (.double r :: rest))) : W p l e R s m args below meth c H locs cells slots Q (F0 m pc ls st0) := by
  intro T hT X
  rcases hr T hT X with ⟨v, st₀, t, T', L, h0, X', hL, e1, e2, ⟨⟨r, u, hv, hp, hb⟩, hF⟩, st⟩ | ⟨q, st₀, t, T', L, E, ce, h0, X', hL, e1, e2, ⟨u, hp, hb, hF⟩, hce, hcv, hcl, st⟩
  · cases hv
    obtain ⟨k1, k2, k3⟩ := vx_keep h0 e1 hS hA hf hL hF
    obtain ⟨t2, a1, b1⟩ := kk r u t T'.heap (locs ++ L) e1.symm (by rw [← e2]; exact X'.warmed.alike) hp hb k1 k2 k3 T' rfl X'
    exact ⟨t2, st t2 a1, b1⟩
  · obtain ⟨k1, k2, k3⟩ := vx_keep h0 e1 hS hAX hf hL hF
    obtain ⟨t2, a1, b1⟩ := kx E ce q u t T'.heap (locs ++ L) e1.symm (by rw [← e2]; exact X'.warmed.alike) hp hb k1 k2 k3 (by rw [e1]; exact hce) hcv hcl T' rfl X'
    exact ⟨t2, st.trans a1, b1⟩
theorem vx_callv {S SX : Type} {post : S → Prop} {px : SX → Prop} {B : S → State → Prop} {BX : String → SX → State → Prop} {AX : Nat → Prop} (hr : vx_Run p l e R s m args below meth c H locs cells slots mc ms (F0 m pc ls st0) rest (va_Qv post B A1 a) (vx_X px BX AX) free) (hS : va_S A0 H0 H locs) (hA : ∀ q, q < H.size → A1 q → A0 q) (hf : ∀ q, free q → A0 q) (hAX : ∀ q, q < H.size → AX q → A0 q)
    (kx : ∀ (E : String) (ce : Cell) (q9 : Addr) (u : SX) (t : State) (H1 : Heap) (locs1 : List Loc), t.heap = H1 → s.vm.Alike t.vm → px u → BX E u t → H.size ≤ H1.size → (∀ q : Nat, q < H.size → ¬ AX q → H1[q]? = H[q]?) → va_S A0 H0 H1 locs1 → H1[q9]? = some ce → ce.vm = .none → s.vm.findClass E = some ce.cls → vx_W p l e R s m args below meth c H1 locs1 (cells + mc) (slots + ms) Q (F0 m pc ls rest) q9)
    (kk : ∀ (u : S) (t : State) (H1 : Heap) (locs1 : List Loc), t.heap = H1 → s.vm.Alike t.vm → post u → B u t → H.size ≤ H1.size → (∀ q : Nat, q < H.size → ¬ A1 q → H1[q]? = H[q]?) → va_S A0 H0 H1 locs1 → W p l e R s m args below meth c H1 locs1 (cells + mc) (slots + ms) Q (F0 m (pc + 3) ls (rest))) : W p l e R s m args below meth c H locs cells slots Q (F0 m pc ls st0) := by
  intro T hT X
  rcases hr T hT X with ⟨v, st₀, t, T', L, h0, X', hL, e1, e2, ⟨⟨u, hv, hp, hb⟩, hF⟩, st⟩ | ⟨q, st₀, t, T', L, E, ce, h0, X', hL, e1, e2, ⟨u, hp, hb, hF⟩, hce, hcv, hcl, st⟩
  · cases hv
    obtain ⟨k1, k2, k3⟩ := vx_keep h0 e1 hS hA hf hL hF
    obtain ⟨t2, a1, b1⟩ := kk u t T'.heap (locs ++ L) e1.symm (by rw [← e2]; exact X'.warmed.alike) hp hb k1 k2 k3 T' rfl X'
    exact ⟨t2, st t2 a1, b1⟩
  · obtain ⟨k1, k2, k3⟩ := vx_keep h0 e1 hS hAX hf hL hF
    obtain ⟨t2, a1, b1⟩ := kx E ce q u t T'.heap (locs ++ L) e1.symm (by rw [← e2]; exact X'.warmed.alike) hp hb k1 k2 k3 (by rw [e1]; exact hce) hcv hcl T' rfl X'
    exact ⟨t2, st.trans a1, b1⟩
/-- caught by the row x of this method's table; the rows ahead don't take it -/
theorem vx_catch {own name : String} {E : String} {ce : Cell} {q : Addr} (hown : s.vm.findClass own = some m.cls) (pre : List ExceptionTableEntry) (x : ExceptionTableEntry) (suf : List ExceptionTableEntry) (hsplit : c.exceptionTable.toList = pre ++ x :: suf)
    (hpass : ∀ z ∈ pre, covers z pc = false ∨ (z.catchType ≠ 0 ∧ ∃ nm : String, (Cond.classLink own z.catchType nm).before args s = true ∧ va_Nc E nm s)) (hx : covers x pc = true) (h0 : x.catchType ≠ 0)
    (hlink : (Cond.classLink own x.catchType name).before args s = true) (hcast : (Cond.castable E name).before args s = true) (hcell : H[q]? = some ce) (hv : ce.vm = .none) (hcl : s.vm.findClass E = some ce.cls)
    (kk : W p l e R s m args below meth c H locs cells slots Q (F0 m x.handlerPc ls [.ref q])) : vx_W p l e R s m args below meth c H locs cells slots Q (F0 m pc ls rest) q := by
  intro T hT X
  have hpl : e.platform.magicAccessors = ({} : Platform).magicAccessors := by rw [X.admits.platform]
  obtain ⟨c3, c4, hc3, hc4, hasg⟩ := Cond.castable_spec hcast
  cases Option.some.inj (hc3.symm.trans hcl)
  obtain ⟨c5, hc5, hcl5⟩ := Cond.classLink_spec hown hlink e.platform hpl
  cases Option.some.inj (hc4.symm.trans hc5)
  obtain ⟨vm', X', st⟩ := X.thenCaughtThrough q (g := F0 m pc ls rest) rfl (Steps.refl _) (by rw [hT]; exact hcell) (by rw [hv]; rfl) (by obtain ⟨k9, h9, -⟩ := Vm.findClass_spec hcl; exact ⟨k9, h9⟩) pre x suf hsplit
    (fun z hz => by
      rcases hpass z hz with h | ⟨hz0, nm, hl1, hn1⟩
      · exact Or.inl h
      · obtain ⟨c6, hc6, hcl6⟩ := Cond.classLink_spec hown hl1 e.platform hpl
        obtain ⟨a8, b8, h1, h2, h3⟩ := hn1
        cases Option.some.inj (h1.symm.trans hcl)
        cases Option.some.inj (h2.symm.trans hc6)
        exact Or.inr ⟨hz0, _, hcl6, h3⟩) hx (Or.inr ⟨h0, c4, hcl5, hasg⟩)
  obtain ⟨t, a1, b1⟩ := kk (T.setVm vm') hT X'
  exact ⟨t, st.trans a1, b1⟩
end Rows
section Ends
variable {p : Program} {l : Launch} {e : Env} {R : Room} {s : State} {m : MethodId} {args : Array Value} {below : List Frame} {meth : Method} {c : Code} {H : Heap} {locs : List Loc} {cells slots : Nat} {Q : State → Prop}
variable {mc ms : Nat} {free : Addr → Prop} {A0 A1 : Nat → Prop} {H0 : Heap} {a : Array Value} {ls : Array Slot} {st0 rest : List Value}
variable {Qc : Array Value → State → Outcome → State → Prop} {XC : String → State → State → Prop}
/-- what a body that may throw owes at its end -/
def vx_MQ (below : List Frame) (Qc : Array Value → State → Outcome → State → Prop) (XC : String → State → State → Prop) (a : Array Value) (s : State) (mc ms : Nat) (free : Addr → Prop) : State → Prop := fun t =>
  ∃ o, t.status = .running ∧ Ended t below o ∧ vx_Q Qc XC mc ms free a s o t
theorem vx_ret {g : JFrame} {mc ms : Nat} (k : W p l e R s m args below meth c H locs cells slots (MQ below Qc args s mc ms free) g) : W p l e R s m args below meth c H locs cells slots (vx_MQ below Qc XC args s mc ms free) g := by
  intro T hT X
  obtain ⟨t, a1, o, b1, b2, b3, b4⟩ := k T hT X
  exact ⟨t, a1, o, b1, b2, Or.inl ⟨b3, b4⟩⟩
/-- not caught here: it goes on to the caller -/
theorem vx_widen {g : JFrame} {q : Addr} {k n : Nat} (h1 : cells ≤ k) (h2 : slots ≤ n) (kk : vx_W p l e R s m args below meth c H locs k n Q g q) : vx_W p l e R s m args below meth c H locs cells slots Q g q := fun T hT X => kk T hT (stand_widen X h1 h2)
theorem vx_out {pc : Nat} {E : String} {ce : Cell} {q : Addr} {mc ms : Nat} (hout : ∀ x ∈ c.exceptionTable.toList, covers x pc = false) (hlocks : meth.locks = false) (hcell : H[q]? = some ce) (hv : ce.vm = .none) (hcl : s.vm.findClass E = some ce.cls)
    (hx : ∀ t : State, t.heap = H → s.vm.Alike t.vm → XC E s t) (hf : ∀ z ∈ locs, free z.base) (hc : cells ≤ mc) (hs : slots ≤ ms) :
    vx_W p l e R s m args below meth c H locs cells slots (vx_MQ below Qc XC args s mc ms free) (F0 m pc ls rest) q := by
  intro T hT X
  obtain ⟨st1, hrun, hend, hW, hsm⟩ := X.leaveThrown q (g := F0 m pc ls rest) rfl rfl rfl hout hlocks
  have hcell9 : (T.setFrames (.throwing q :: below)).heap[q]? = some ce := by
    show T.heap[q]? = some ce
    rw [hT]; exact hcell
  exact ⟨_, st1, .threw q, hrun, hend, Or.inr ⟨q, rfl, E, ce, locs, hx _ hT hW.alike, hcell9, hv, hcl, hW, hsm.mono hc hs, hf⟩⟩
theorem vx_frame {U : State} {k n : Nat} (h : s.sameButNew ({ U with vm := s.vm } : State) locs k n) : s.heap.size ≤ U.heap.size ∧ ∀ q : Nat, q < s.heap.size → (∀ z ∈ locs, z.base ≠ q) → U.heap[q]? = s.heap[q]? := by
  obtain ⟨-, h2, -, -, -, h6⟩ := h
  refine ⟨h2, fun q hq hz => ?_⟩
  obtain ⟨c9, e1, e2, e3, e4⟩ := h6 q _ (Array.getElem?_eq_getElem hq)
  have hs : c9.slots = (s.heap[q]).slots := Array.ext_getElem? fun i => e4 i fun hm => hz _ hm rfl
  have h9 : c9 = s.heap[q] := by
    rw [hs] at e2
    exact e2
  have e5 : U.heap[q]? = some c9 := e1
  rw [e5, h9, Array.getElem?_eq_getElem hq]
/-- the words of a throw but the four that speak of the heap -/
def vx_no (w : Cond) : Bool := decide (w ≠ .isRef (.static Bundle.tN "UNASSIGNED_STACK" Bundle.steD)) && decide (w ≠ .isRef (.static Bundle.tN "SUPPRESSED_SENTINEL" Bundle.listD)) && decide (w ≠ .laysStatic Bundle.tN "UNASSIGNED_STACK" Bundle.steD) && decide (w ≠ .laysStatic Bundle.tN "SUPPRESSED_SENTINEL" Bundle.listD)
def vx_at0 (own : String) (ic : Nat) (X : String) (names : List String) : List Cond := (Bundle.ownAtoms0 own ic X names).filter vx_no
def vx_atS (own : String) (ic : Nat) (X : String) (names : List String) : List Cond := (Bundle.ownAtoms own ic X names).filter vx_no
/-- a word that the tables alone decide, or a good one -/
def vx_ot (w : Cond) : Bool := w.onTables || goodWord w
theorem vx_ot_at {args a' : Array Value} {s U : State} {w : Cond} (hW : s.WarmedH U.vm) (hvm : s.vm = U.vm) (hg : vx_ot w = true) (h : w.before args s = true) : w.before a' U = true := by
  simp only [vx_ot, Bool.or_eq_true] at hg
  rcases hg with hg | hg
  · exact va_tabs hg hvm h
  · exact word_at hW (good_of_word hg) h
/-- a list's words: the good ones out of the method's own list, the others by premises of their own -/
theorem vx_hat {args : Array Value} {s : State} {L B : List Cond} (h1 : ∀ w ∈ L.filter goodWord, w.before args s = true) (h2 : ∀ w ∈ L.filter (fun w => !goodWord w), w ∈ B) (h3 : ∀ w ∈ B, w.before args s = true) : ∀ w ∈ L, w.before args s = true := by
  intro w hw
  by_cases g : goodWord w = true
  · exact h1 w (List.mem_filter.mpr ⟨hw, g⟩)
  · refine h3 w (h2 w (List.mem_filter.mpr ⟨hw, ?_⟩))
    show (!goodWord w) = true
    cases hgw : goodWord w
    · rfl
    · exact absurd hgw g
theorem vx_c {args : Array Value} {s : State} {w : Cond} {B : List Cond} (h : w.before args s = true) (t : ∀ w ∈ B, w.before args s = true) : ∀ w' ∈ w :: B, w'.before args s = true := fun w' h' => (List.mem_cons.mp h').elim (fun e => by rw [e]; exact h) (t w')
theorem vx_n {args : Array Value} {s : State} : ∀ w ∈ ([] : List Cond), w.before args s = true := fun _ h => nomatch h
theorem vx_own {args : Array Value} {s : State} {L : List Cond} (h1 : ∀ w ∈ L.filter vx_no, w.before args s = true)
    (hU : (Cond.isRef (.static Bundle.tN "UNASSIGNED_STACK" Bundle.steD)).before args s = true) (hN : (Cond.isRef (.static Bundle.tN "SUPPRESSED_SENTINEL" Bundle.listD)).before args s = true)
    (lU : (Cond.laysStatic Bundle.tN "UNASSIGNED_STACK" Bundle.steD).before args s = true) (lN : (Cond.laysStatic Bundle.tN "SUPPRESSED_SENTINEL" Bundle.listD).before args s = true) : ∀ w ∈ L, w.before args s = true := by
  intro w hw
  by_cases e1 : w = .isRef (.static Bundle.tN "UNASSIGNED_STACK" Bundle.steD)
  · rw [e1]; exact hU
  · by_cases e2 : w = .isRef (.static Bundle.tN "SUPPRESSED_SENTINEL" Bundle.listD)
    · rw [e2]; exact hN
    · by_cases e3 : w = .laysStatic Bundle.tN "UNASSIGNED_STACK" Bundle.steD
      · rw [e3]; exact lU
      · by_cases e4 : w = .laysStatic Bundle.tN "SUPPRESSED_SENTINEL" Bundle.listD
        · rw [e4]; exact lN
        · exact h1 w (List.mem_filter.mpr ⟨hw, by unfold vx_no; rw [decide_eq_true e1, decide_eq_true e2, decide_eq_true e3, decide_eq_true e4]; rfl⟩)
/-- where a static field lies, its class's statics cell in H -/
def vx_L (C n d : String) (A : Nat → Prop) (U : State) (H : Heap) : Prop := ∃ (c : ClassId) (k : Class) (i : Nat) (f : Field) (a : Nat) (cell : Cell), U.vm.findClass C = some c ∧ U.fieldFound? C n d = some (c, k, i, f) ∧ f.isStatic = true ∧ k.statics = some a ∧ H[a]? = some cell ∧ cell.vm.isStatics = true ∧ cell.cls = c ∧ f.slot < cell.slots.size ∧ k.staticTypes[f.slot]? = some f.type ∧ ¬ A a
theorem vx_L.moved {C n d : String} {A : Nat → Prop} {u U : State} {H : Heap} (hvm : u.vm.Alike U.vm) (h : vx_L C n d A u H) : vx_L C n d A U H := by
  obtain ⟨c, k, i, f, a, cell, h1, h2, h3, h4, h5, h6, h7, h8, h9, h10⟩ := h
  obtain ⟨k', hi', he⟩ := State.fieldFound?_setVm hvm h2
  exact ⟨c, k', i, f, a, cell, by rw [hvm.findClass]; exact h1, hi', h3, by rw [he]; exact h4, h5, h6, h7, h8, by rw [he]; exact h9, h10⟩
theorem vx_L.kept {C n d : String} {A : Nat → Prop} {U : State} {H H1 : Heap} (h : vx_L C n d A U H) (hq : ∀ a : Nat, a < H.size → ¬ A a → H1[a]? = H[a]?) : vx_L C n d A U H1 := by
  obtain ⟨c, k, i, f, a, cell, h1, h2, h3, h4, h5, h6, h7, h8, h9, h10⟩ := h
  exact ⟨c, k, i, f, a, cell, h1, h2, h3, h4, by rw [hq a (Array.getElem?_eq_some_iff.mp h5).1 h10]; exact h5, h6, h7, h8, h9, h10⟩
theorem vx_L.narrow {C n d : String} {A B : Nat → Prop} {U : State} {H : Heap} (h : vx_L C n d A U H) (hAB : ∀ q, B q → A q) : vx_L C n d B U H := by
  obtain ⟨c, k, i, f, a, cell, h1, h2, h3, h4, h5, h6, h7, h8, h9, h10⟩ := h
  exact ⟨c, k, i, f, a, cell, h1, h2, h3, h4, h5, h6, h7, h8, h9, fun z => h10 (hAB _ z)⟩
theorem vx_L.word {C n d : String} {A : Nat → Prop} {s : State} {args : Array Value} (h : vx_L C n d A s s.heap) : (Cond.laysStatic C n d).before args s = true := by
  obtain ⟨c, k, i, f, a, cell, h1, h2, h3, h4, h5, h6, h7, h8, h9, -⟩ := h
  show (Cond.laysStatic C n d).holds args s none s [] = true
  exact Cond.laysStatic_of h1 h2 h3 h4 h5 h6 h7 h8 h9
/-- .. and what it holds: null or some reference -/
def vx_Zq (C n d : String) (A : Nat → Prop) (U : State) (H : Heap) : Prop := va_Zq C n d A U H ∧ vx_L C n d A U H
theorem vx_Zq.moved {C n d : String} {A : Nat → Prop} {u U : State} {H : Heap} (hvm : u.vm.Alike U.vm) (h : vx_Zq C n d A u H) : vx_Zq C n d A U H := ⟨va_Zq.moved hvm h.1, vx_L.moved hvm h.2⟩
theorem vx_Zq.kept {C n d : String} {A : Nat → Prop} {U : State} {H H1 : Heap} (h : vx_Zq C n d A U H) (hq : ∀ a : Nat, a < H.size → ¬ A a → H1[a]? = H[a]?) : vx_Zq C n d A U H1 := ⟨va_Zq.kept h.1 hq, vx_L.kept h.2 hq⟩
theorem vx_Zq.narrow {C n d : String} {A B : Nat → Prop} {U : State} {H : Heap} (h : vx_Zq C n d A U H) (hAB : ∀ q, B q → A q) : vx_Zq C n d B U H := ⟨va_Zq.narrow h.1 hAB, vx_L.narrow h.2 hAB⟩
theorem vx_Zqof {args : Array Value} {s : State} {C n d : String} {A : Nat → Prop} (hl : (Cond.laysStatic C n d).before args s = true) (hini : (Cond.initialized C).before args s = true) (h : (Cond.isRef (.static C n d)).before args s = true) (hA : ∀ a : Nat, a < s.heap.size → ¬ A a) : vx_Zq C n d A s s.heap := by
  refine ⟨va_Zqof hl hini h hA, ?_⟩
  obtain ⟨c, k, i, f, a, cell, h1, h2, h3, h4, h5, h6, h7, h8, h9⟩ := Cond.laysStatic_spec hl
  exact ⟨c, k, i, f, a, cell, h1, h2, h3, h4, h5, h6, h7, h8, h9, hA a (Array.getElem?_eq_some_iff.mp h5).1⟩
theorem vx_isRef {C n d : String} {v : Value} {A : Nat → Prop} {s : State} {args : Array Value} (h : va_Z C n d v A s s.heap) (hv : v.isRef = true) : (Cond.isRef (.static C n d)).before args s = true := by
  obtain ⟨cf, kf, fi, f, a, cell, h1, h2, h3, h4, h5, h6, h7, -⟩ := h
  have he : (Term.static C n d).eval args s none [] s = some v := by
    simp [Term.eval, State.fieldNamed?, h1, h2, h4, h5, h6, h7]
  simp only [Cond.before, Cond.holds, Cond.value, he]
  cases v <;> simp_all [Value.isRef]
theorem vx_isRefq {C n d : String} {A : Nat → Prop} {s : State} {args : Array Value} (h : va_Zq C n d A s s.heap) : (Cond.isRef (.static C n d)).before args s = true := by
  rcases h with h | ⟨t, h⟩
  · exact vx_isRef h rfl
  · exact vx_isRef h rfl
/-- the same frame, seen from here: as if the method were called anew in this heap -/
theorem vx_rebase {T : State} (X : Stand p l e R s m args below meth c T locs cells slots) {R' : Room} (hf : R'.frames ≤ R.frames) (hl : R'.locals ≤ R.locals) (hc : cells + R'.cells ≤ R.cells) (hs : slots + R'.slots ≤ R.slots) :
    Stand p l e R' ((T.setVm s.vm).setFrames (.invoking m args :: below)) m args below meth c T [] 0 0 := by
  have htop : (T.setVm s.vm).topJava?.isSome := X.here.top
  have hF : ((T.setVm s.vm).setFrames (.invoking m args :: below)).frames = .invoking m args :: below := State.frames_setFrames _ (State.cur_lt_of_top htop)
  obtain ⟨g₀, hg0⟩ := Option.isSome_iff_exists.mp htop
  obtain ⟨r, hr⟩ := State.topJava?_eq_some.mp hg0
  have hl9 : e.platform.stackLimits (T.setVm s.vm).me = e.platform.stackLimits s.me := X.limits
  have hb9 : (T.setVm s.vm).me.stackBytes = s.me.stackBytes := X.bytes
  refine ⟨X.admits, X.cas, X.clock, hF, ?_, X.hears, X.method, X.code, X.here, X.tail, X.warmed, ?_, ?_, ?_⟩
  · have h := X.room
    have hU : ((T.setVm s.vm).setFrames (.invoking m args :: below)).localsInUse = s.localsInUse := by
      rw [State.localsInUse_invoking hF (meth := meth) (c := c) X.method X.code, State.localsInUse_invoking X.frames X.method X.code]
    simp only [State.hasRoom, Bool.and_eq_true, decide_eq_true_eq] at h ⊢
    obtain ⟨⟨⟨⟨h1, h2, h3, h4, h5, h6⟩, h7⟩, h8⟩, h9⟩ := h
    rw [X.frames, List.length_cons] at h2 h3
    have q1 := X.heapSize
    have q2 := X.used
    simp only [hF, hU, List.length_cons, State.stackLimits_setFrames, State.stackBytes_setFrames, hl9, hb9]
    refine ⟨⟨⟨⟨by omega, by omega, by omega, by omega, by omega, h6⟩, ?_⟩, ?_⟩, X.book⟩
    · show T.heap.size + R'.cells ≤ e.platform.maxCells
      omega
    · show T.slotsUsed + R'.slots ≤ e.platform.maxSlots
      omega
  · rw [State.stackLimits_setFrames]; rfl
  · rw [State.stackBytes_setFrames]; rfl
  · refine ⟨?_, Nat.le_refl _, Nat.le_refl _, ?_, ?_, fun a c9 h9 => ⟨c9, h9, rfl, rfl, fun _ _ => rfl⟩⟩
    · obtain ⟨t, ht, -⟩ := State.frames_cons hr
      show T.setVm s.vm = { ((T.setVm s.vm).setFrames (.invoking m args :: below)).setFrames (T.setVm s.vm).frames with heap := T.heap, slotsUsed := T.slotsUsed }
      rw [State.setFrames_setFrames, State.setFrames_self ht]
      rfl
    · show T.slotsUsed = T.slotsUsed + ((T.heap.toList.drop T.heap.size).map (·.slots.size)).sum
      rw [List.drop_eq_nil_of_le (Nat.le_of_eq Array.length_toList)]
      rfl
    · show ((T.heap.toList.drop T.heap.size).map (·.slots.size)).sum ≤ 0
      rw [List.drop_eq_nil_of_le (Nat.le_of_eq Array.length_toList)]
      exact Nat.le_refl _
/-- 'throw new E()': new; dup; invokespecial; athrow -/
theorem vx_throw0 {cc : ByteArray} {pc : Nat} (hexec : p.tables.exec = Jvm.exec) (hb : c.code = cc) (hl : l.stackTraces = false) {own cls : String} {names : List String} {ik ic mc ms : Nat} {A : Nat → Prop}
    (hown : s.vm.findClass own = some m.cls) (hcls : Bundle.fit cls = true) (hnames : ∀ n ∈ names, Bundle.fit n = true)
    (hk : (Cond.classLink own ik cls).before args s = true) (hini : (Cond.initialized cls).before args s = true) (hat : ∀ w ∈ vx_at0 own ic cls names, w.before args s = true)
    (hgood : ∀ w ∈ Cond.classLink own ik cls :: Cond.initialized cls :: vx_at0 own ic cls names, vx_ot w = true)
    (hU : vx_Zq Bundle.tN "UNASSIGNED_STACK" Bundle.steD A s s.heap) (hN : vx_Zq Bundle.tN "SUPPRESSED_SENTINEL" Bundle.listD A s s.heap) (hS : va_S A s.heap H locs) (hsize : ls.size = c.maxLocals)
    (d0 : decode cc pc = .ok (.new ik, 3)) (d3 : decode cc (pc + 3) = .ok (.dup, 1)) (d4 : decode cc (pc + 4) = .ok (.invokespecial ic, 3)) (d7 : decode cc (pc + 7) = .ok (.athrow, 1))
    (hout : ∀ x ∈ c.exceptionTable.toList, covers x (pc + 7) = false)
    (hRframes : names.length + 3 < R.frames) (hRlocals : (rest.map fun v => v.category).sum + (13 * (names.length + 1) + 42) ≤ R.locals) (hRcells : cells + 1 ≤ R.cells) (hRslots : slots + 6 ≤ R.slots) (hlocks : meth.locks = false)
    (hx : ∀ t : State, s.vm.Alike t.vm → H.size ≤ t.heap.size → (∀ q : Nat, q < H.size → t.heap[q]? = H[q]?) → XC cls s t)
    (hf : ∀ z ∈ locs, free z.base) (hc : cells + 1 ≤ mc) (hs : slots + 6 ≤ ms) :
    W p l e R s m args below meth c H locs cells slots (vx_MQ below Qc XC args s mc ms free) (F0 m pc ls rest) := by
  intro T hT X
  have htr : e.platform.stackTraces = false := (show e.platform.stackTraces = l.stackTraces by rw [X.admits.platform]).trans hl
  have Y := vx_rebase X (R' := { frames := R.frames, locals := R.locals, cells := 1, slots := 6 }) (Nat.le_refl _) (Nat.le_refl _) hRcells hRslots
  obtain ⟨s', hA⟩ : ∃ z, z = (T.setVm s.vm).setFrames (.invoking m args :: below) := ⟨_, rfl⟩
  rw [← hA] at Y
  have hvm : s'.vm = s.vm := by rw [hA]; rfl
  have hhp : s'.heap = H := by rw [hA]; exact hT
  have hW0 : s.WarmedH s'.vm := by rw [hvm]; exact State.WarmedH.refl s
  have hat' : ∀ w ∈ vx_at0 own ic cls names, w.before args s' = true := fun w hw => vx_ot_at hW0 hvm.symm (hgood w (List.mem_cons_of_mem _ (List.mem_cons_of_mem _ hw))) (hat w hw)
  have hk' : (Cond.classLink own ik cls).before args s' = true := vx_ot_at hW0 hvm.symm (hgood _ List.mem_cons_self) hk
  have hini' : (Cond.initialized cls).before args s' = true := vx_ot_at hW0 hvm.symm (hgood _ (List.mem_cons_of_mem _ List.mem_cons_self)) hini
  have hU' : vx_Zq Bundle.tN "UNASSIGNED_STACK" Bundle.steD A s' s'.heap := by rw [hhp]; exact vx_Zq.moved hW0.alike (hU.kept hS.2.1)
  have hN' : vx_Zq Bundle.tN "SUPPRESSED_SENTINEL" Bundle.listD A s' s'.heap := by rw [hhp]; exact vx_Zq.moved hW0.alike (hN.kept hS.2.1)
  have h : ∀ w ∈ Bundle.ownAtoms0 own ic cls names, w.before args s' = true := vx_own hat' (vx_isRefq hU'.1) (vx_isRefq hN'.1) hU'.2.word hN'.2.word
  have hown' : s'.vm.findClass own = some m.cls := by rw [hvm]; exact hown
  have hins : (Cond.instantiable cls 6).before args s' = true := h _ (by simp [Bundle.ownAtoms0])
  obtain ⟨vm₁, cX, kX, hfX, hkX, -, -, X₁, st1⟩ := Y.newCold hexec (own := own) (C := cls) (index := ik) (n := 6) hown' hk' hins hini'
    (g := F0 m pc ls rest) rfl (by rw [hb]; exact d0) (Nat.le_refl _) (Nat.le_refl _)
  generalize hT1 : (T.setVm vm₁).pushCell { cls := cX, slots := kX.instanceTypes.map defaultValue, vm := .none } = T1 at X₁ st1
  have hcat : (Value.ref T.heap.size).category = 1 := rfl
  have hcellA : T1.heap[T.heap.size]? = some (freshCell cX kX) := by rw [← hT1]; exact State.heap_pushCell_size _ _
  have d3' : decode c.code (pc + 3) = .ok (.dup, 1) := by rw [hb]; exact d3
  obtain ⟨U, hsteps, hrun, hend, hW, hsame, ce, hce, hO⟩ := X₁.ctorThrow0 hexec htr (own := own) (cls := cls) (names := names) (ic := ic) hown' hcls hnames h (fun x hx => nomatch hx) hfX hkX hcellA (by rw [hhp, hT]; exact Nat.le_refl _)
    (g := { method := m, pc := pc + 4, locals := ls, stack := .ref T.heap.size :: .ref T.heap.size :: rest, locked := none }) rfl hsize rfl rfl (rest := rest) rfl
    (by rw [hb]; exact d4) (by rw [hb]; exact d7) hout hRframes (by simp only [List.map_cons, List.sum_cons, hcat]; omega) hlocks
  obtain ⟨f1, f2⟩ := vx_frame hsame
  rw [hhp] at f1 f2
  have hWs : s.WarmedH U.vm := State.WarmedH.trans hW0 hW
  have hcl : s.vm.findClass cls = some ce.cls := by
    have h9 := hO.cls
    rw [hvm] at h9
    exact h9
  have hall : s.sameButNew ({ U with vm := s.vm } : State) locs mc ms := by
    subst hA
    obtain ⟨e1, e2⟩ := hsame
    rw [State.setFrames_setFrames] at e1
    have h2 : (T.setVm s.vm).sameButNew ({ U with vm := s.vm } : State) [] (0 + 1) (0 + 6) := ⟨e1, e2⟩
    have h3 := X.same.trans h2
    rw [List.append_nil] at h3
    exact h3.mono hc hs
  refine ⟨U, ?_, .threw T.heap.size, hrun, hend, Or.inr ⟨T.heap.size, rfl, cls, ce, locs, hx U hWs.alike f1 (fun q hq => f2 q hq (fun z hz => nomatch hz)), hce, hO.vm, hcl, hWs, hall, hf⟩⟩
  refine st1 _ ?_
  show Steps p.tables e below (T1.setTop { method := m, pc := pc + 3, locals := ls, stack := .ref T.heap.size :: rest, locked := none }) _
  jvm_step X₁.here [X₁.here.top, hexec, d3', Value.category]
  exact hsteps
/-- 'throw new E("text")': new; dup; ldc; invokespecial; athrow -/
theorem vx_throwS {cc : ByteArray} {pc : Nat} (hexec : p.tables.exec = Jvm.exec) (hb : c.code = cc) (hl : l.stackTraces = false) {own cls text : String} {names : List String} {ik is ic mc ms sa : Nat} {A : Nat → Prop}
    (hown : s.vm.findClass own = some m.cls) (hcls : Bundle.fit cls = true) (hnames : ∀ n ∈ names, Bundle.fit n = true)
    (hk : (Cond.classLink own ik cls).before args s = true) (hini : (Cond.initialized cls).before args s = true) (hstr : vk_R own is text sa s) (hat : ∀ w ∈ vx_atS own ic cls names, w.before args s = true)
    (hgood : ∀ w ∈ Cond.classLink own ik cls :: Cond.initialized cls :: vx_atS own ic cls names, vx_ot w = true)
    (hU : vx_Zq Bundle.tN "UNASSIGNED_STACK" Bundle.steD A s s.heap) (hN : vx_Zq Bundle.tN "SUPPRESSED_SENTINEL" Bundle.listD A s s.heap) (hS : va_S A s.heap H locs) (hsize : ls.size = c.maxLocals)
    (d0 : decode cc pc = .ok (.new ik, 3)) (d3 : decode cc (pc + 3) = .ok (.dup, 1)) (d4 : decode cc (pc + 4) = .ok (.ldc is, 2)) (d6 : decode cc (pc + 6) = .ok (.invokespecial ic, 3)) (d9 : decode cc (pc + 9) = .ok (.athrow, 1))
    (hout : ∀ x ∈ c.exceptionTable.toList, covers x (pc + 9) = false)
    (hRframes : names.length + 3 < R.frames) (hRlocals : (rest.map fun v => v.category).sum + (13 * (names.length + 1) + 43) ≤ R.locals) (hRcells : cells + 1 ≤ R.cells) (hRslots : slots + 6 ≤ R.slots) (hlocks : meth.locks = false)
    (hx : ∀ t : State, s.vm.Alike t.vm → H.size ≤ t.heap.size → (∀ q : Nat, q < H.size → t.heap[q]? = H[q]?) → XC cls s t)
    (hf : ∀ z ∈ locs, free z.base) (hc : cells + 1 ≤ mc) (hs : slots + 6 ≤ ms) :
    W p l e R s m args below meth c H locs cells slots (vx_MQ below Qc XC args s mc ms free) (F0 m pc ls rest) := by
  intro T hT X
  have htr : e.platform.stackTraces = false := (show e.platform.stackTraces = l.stackTraces by rw [X.admits.platform]).trans hl
  have Y := vx_rebase X (R' := { frames := R.frames, locals := R.locals, cells := 1, slots := 6 }) (Nat.le_refl _) (Nat.le_refl _) hRcells hRslots
  obtain ⟨s', hA⟩ : ∃ z, z = (T.setVm s.vm).setFrames (.invoking m args :: below) := ⟨_, rfl⟩
  rw [← hA] at Y
  have hvm : s'.vm = s.vm := by rw [hA]; rfl
  have hhp : s'.heap = H := by rw [hA]; exact hT
  have hW0 : s.WarmedH s'.vm := by rw [hvm]; exact State.WarmedH.refl s
  have hat' : ∀ w ∈ vx_atS own ic cls names, w.before args s' = true := fun w hw => vx_ot_at hW0 hvm.symm (hgood w (List.mem_cons_of_mem _ (List.mem_cons_of_mem _ hw))) (hat w hw)
  have hk' : (Cond.classLink own ik cls).before args s' = true := vx_ot_at hW0 hvm.symm (hgood _ List.mem_cons_self) hk
  have hini' : (Cond.initialized cls).before args s' = true := vx_ot_at hW0 hvm.symm (hgood _ (List.mem_cons_of_mem _ List.mem_cons_self)) hini
  have hU' : vx_Zq Bundle.tN "UNASSIGNED_STACK" Bundle.steD A s' s'.heap := by rw [hhp]; exact vx_Zq.moved hW0.alike (hU.kept hS.2.1)
  have hN' : vx_Zq Bundle.tN "SUPPRESSED_SENTINEL" Bundle.listD A s' s'.heap := by rw [hhp]; exact vx_Zq.moved hW0.alike (hN.kept hS.2.1)
  have h : ∀ w ∈ Bundle.ownAtoms own ic cls names, w.before args s' = true := vx_own hat' (vx_isRefq hU'.1) (vx_isRefq hN'.1) hU'.2.word hN'.2.word
  have hown' : s'.vm.findClass own = some m.cls := by rw [hvm]; exact hown
  have hins : (Cond.instantiable cls 6).before args s' = true := h _ (by simp [Bundle.ownAtoms])
  obtain ⟨vm₁, cX, kX, hfX, hkX, -, -, X₁, st1⟩ := Y.newCold hexec (own := own) (C := cls) (index := ik) (n := 6) hown' hk' hins hini'
    (g := F0 m pc ls rest) rfl (by rw [hb]; exact d0) (Nat.le_refl _) (Nat.le_refl _)
  generalize hT1 : (T.setVm vm₁).pushCell { cls := cX, slots := kX.instanceTypes.map defaultValue, vm := .none } = T1 at X₁ st1
  have hcat : (Value.ref T.heap.size).category = 1 := rfl
  have hcellA : T1.heap[T.heap.size]? = some (freshCell cX kX) := by rw [← hT1]; exact State.heap_pushCell_size _ _
  have d3' : decode c.code (pc + 3) = .ok (.dup, 1) := by rw [hb]; exact d3
  have d4' : decode c.code (pc + 4) = .ok (.ldc is, 2) := by rw [hb]; exact d4
  have hstr' : vk_R own is text sa s' := vk_R.warm hW0 hstr
  obtain ⟨U, hsteps, hrun, hend, hW, hsame, ce, hce, hO⟩ := X₁.ctorThrowS hexec htr (own := own) (cls := cls) (names := names) (ic := ic) hown' hcls hnames h (fun x hx => nomatch hx) hfX hkX hcellA (by rw [hhp, hT]; exact Nat.le_refl _) (msg := .ref sa) rfl
    (g := { method := m, pc := pc + 6, locals := ls, stack := .ref sa :: .ref T.heap.size :: .ref T.heap.size :: rest, locked := none }) rfl hsize rfl rfl (rest := rest) rfl
    (by rw [hb]; exact d6) (by rw [hb]; exact d9) hout hRframes (by simp only [List.map_cons, List.sum_cons, hcat]; omega) hlocks
  obtain ⟨f1, f2⟩ := vx_frame hsame
  rw [hhp] at f1 f2
  have hWs : s.WarmedH U.vm := State.WarmedH.trans hW0 hW
  have hcl : s.vm.findClass cls = some ce.cls := by
    have h9 := hO.cls
    rw [hvm] at h9
    exact h9
  have hall : s.sameButNew ({ U with vm := s.vm } : State) locs mc ms := by
    subst hA
    obtain ⟨e1, e2⟩ := hsame
    rw [State.setFrames_setFrames] at e1
    have h2 : (T.setVm s.vm).sameButNew ({ U with vm := s.vm } : State) [] (0 + 1) (0 + 6) := ⟨e1, e2⟩
    have h3 := X.same.trans h2
    rw [List.append_nil] at h3
    exact h3.mono hc hs
  refine ⟨U, ?_, .threw T.heap.size, hrun, hend, Or.inr ⟨T.heap.size, rfl, cls, ce, locs, hx U hWs.alike f1 (fun q hq => f2 q hq (fun z hz => nomatch hz)), hce, hO.vm, hcl, hWs, hall, hf⟩⟩
  refine st1 _ ?_
  show Steps p.tables e below (T1.setTop { method := m, pc := pc + 3, locals := ls, stack := .ref T.heap.size :: rest, locked := none }) _
  jvm_step X₁.here [X₁.here.top, hexec, d3', Value.category]
  exact X₁.ldcString hexec (own := own) (text := text) (index := is) (a := sa) hown' hstr'.1 hstr'.2
    (g := { method := m, pc := pc + 4, locals := ls, stack := .ref T.heap.size :: .ref T.heap.size :: rest, locked := none }) rfl d4' _ hsteps
/-- 'throw new E("text")', the text by a wide index -/
theorem vx_throwSW {cc : ByteArray} {pc : Nat} (hexec : p.tables.exec = Jvm.exec) (hb : c.code = cc) (hl : l.stackTraces = false) {own cls text : String} {names : List String} {ik is ic mc ms sa : Nat} {A : Nat → Prop}
    (hown : s.vm.findClass own = some m.cls) (hcls : Bundle.fit cls = true) (hnames : ∀ n ∈ names, Bundle.fit n = true)
    (hk : (Cond.classLink own ik cls).before args s = true) (hini : (Cond.initialized cls).before args s = true) (hstr : vk_R own is text sa s) (hat : ∀ w ∈ vx_atS own ic cls names, w.before args s = true)
    (hgood : ∀ w ∈ Cond.classLink own ik cls :: Cond.initialized cls :: vx_atS own ic cls names, vx_ot w = true)
    (hU : vx_Zq Bundle.tN "UNASSIGNED_STACK" Bundle.steD A s s.heap) (hN : vx_Zq Bundle.tN "SUPPRESSED_SENTINEL" Bundle.listD A s s.heap) (hS : va_S A s.heap H locs) (hsize : ls.size = c.maxLocals)
    (d0 : decode cc pc = .ok (.new ik, 3)) (d3 : decode cc (pc + 3) = .ok (.dup, 1)) (d4 : decode cc (pc + 4) = .ok (.ldc_w is, 3)) (d7 : decode cc (pc + 7) = .ok (.invokespecial ic, 3)) (d10 : decode cc (pc + 10) = .ok (.athrow, 1))
    (hout : ∀ x ∈ c.exceptionTable.toList, covers x (pc + 10) = false)
    (hRframes : names.length + 3 < R.frames) (hRlocals : (rest.map fun v => v.category).sum + (13 * (names.length + 1) + 43) ≤ R.locals) (hRcells : cells + 1 ≤ R.cells) (hRslots : slots + 6 ≤ R.slots) (hlocks : meth.locks = false)
    (hx : ∀ t : State, s.vm.Alike t.vm → H.size ≤ t.heap.size → (∀ q : Nat, q < H.size → t.heap[q]? = H[q]?) → XC cls s t)
    (hf : ∀ z ∈ locs, free z.base) (hc : cells + 1 ≤ mc) (hs : slots + 6 ≤ ms) :
    W p l e R s m args below meth c H locs cells slots (vx_MQ below Qc XC args s mc ms free) (F0 m pc ls rest) := by
  intro T hT X
  have htr : e.platform.stackTraces = false := (show e.platform.stackTraces = l.stackTraces by rw [X.admits.platform]).trans hl
  have Y := vx_rebase X (R' := { frames := R.frames, locals := R.locals, cells := 1, slots := 6 }) (Nat.le_refl _) (Nat.le_refl _) hRcells hRslots
  obtain ⟨s', hA⟩ : ∃ z, z = (T.setVm s.vm).setFrames (.invoking m args :: below) := ⟨_, rfl⟩
  rw [← hA] at Y
  have hvm : s'.vm = s.vm := by rw [hA]; rfl
  have hhp : s'.heap = H := by rw [hA]; exact hT
  have hW0 : s.WarmedH s'.vm := by rw [hvm]; exact State.WarmedH.refl s
  have hat' : ∀ w ∈ vx_atS own ic cls names, w.before args s' = true := fun w hw => vx_ot_at hW0 hvm.symm (hgood w (List.mem_cons_of_mem _ (List.mem_cons_of_mem _ hw))) (hat w hw)
  have hk' : (Cond.classLink own ik cls).before args s' = true := vx_ot_at hW0 hvm.symm (hgood _ List.mem_cons_self) hk
  have hini' : (Cond.initialized cls).before args s' = true := vx_ot_at hW0 hvm.symm (hgood _ (List.mem_cons_of_mem _ List.mem_cons_self)) hini
  have hU' : vx_Zq Bundle.tN "UNASSIGNED_STACK" Bundle.steD A s' s'.heap := by rw [hhp]; exact vx_Zq.moved hW0.alike (hU.kept hS.2.1)
  have hN' : vx_Zq Bundle.tN "SUPPRESSED_SENTINEL" Bundle.listD A s' s'.heap := by rw [hhp]; exact vx_Zq.moved hW0.alike (hN.kept hS.2.1)
  have h : ∀ w ∈ Bundle.ownAtoms own ic cls names, w.before args s' = true := vx_own hat' (vx_isRefq hU'.1) (vx_isRefq hN'.1) hU'.2.word hN'.2.word
  have hown' : s'.vm.findClass own = some m.cls := by rw [hvm]; exact hown
  have hins : (Cond.instantiable cls 6).before args s' = true := h _ (by simp [Bundle.ownAtoms])
  obtain ⟨vm₁, cX, kX, hfX, hkX, -, -, X₁, st1⟩ := Y.newCold hexec (own := own) (C := cls) (index := ik) (n := 6) hown' hk' hins hini'
    (g := F0 m pc ls rest) rfl (by rw [hb]; exact d0) (Nat.le_refl _) (Nat.le_refl _)
  generalize hT1 : (T.setVm vm₁).pushCell { cls := cX, slots := kX.instanceTypes.map defaultValue, vm := .none } = T1 at X₁ st1
  have hcat : (Value.ref T.heap.size).category = 1 := rfl
  have hcellA : T1.heap[T.heap.size]? = some (freshCell cX kX) := by rw [← hT1]; exact State.heap_pushCell_size _ _
  have d3' : decode c.code (pc + 3) = .ok (.dup, 1) := by rw [hb]; exact d3
  have d4' : decode c.code (pc + 4) = .ok (.ldc_w is, 3) := by rw [hb]; exact d4
  have hstr' : vk_R own is text sa s' := vk_R.warm hW0 hstr
  obtain ⟨U, hsteps, hrun, hend, hW, hsame, ce, hce, hO⟩ := X₁.ctorThrowS hexec htr (own := own) (cls := cls) (names := names) (ic := ic) hown' hcls hnames h (fun x hx => nomatch hx) hfX hkX hcellA (by rw [hhp, hT]; exact Nat.le_refl _) (msg := .ref sa) rfl
    (g := { method := m, pc := pc + 7, locals := ls, stack := .ref sa :: .ref T.heap.size :: .ref T.heap.size :: rest, locked := none }) rfl hsize rfl rfl (rest := rest) rfl
    (by rw [hb]; exact d7) (by rw [hb]; exact d10) hout hRframes (by simp only [List.map_cons, List.sum_cons, hcat]; omega) hlocks
  obtain ⟨f1, f2⟩ := vx_frame hsame
  rw [hhp] at f1 f2
  have hWs : s.WarmedH U.vm := State.WarmedH.trans hW0 hW
  have hcl : s.vm.findClass cls = some ce.cls := by
    have h9 := hO.cls
    rw [hvm] at h9
    exact h9
  have hall : s.sameButNew ({ U with vm := s.vm } : State) locs mc ms := by
    subst hA
    obtain ⟨e1, e2⟩ := hsame
    rw [State.setFrames_setFrames] at e1
    have h2 : (T.setVm s.vm).sameButNew ({ U with vm := s.vm } : State) [] (0 + 1) (0 + 6) := ⟨e1, e2⟩
    have h3 := X.same.trans h2
    rw [List.append_nil] at h3
    exact h3.mono hc hs
  refine ⟨U, ?_, .threw T.heap.size, hrun, hend, Or.inr ⟨T.heap.size, rfl, cls, ce, locs, hx U hWs.alike f1 (fun q hq => f2 q hq (fun z hz => nomatch hz)), hce, hO.vm, hcl, hWs, hall, hf⟩⟩
  refine st1 _ ?_
  show Steps p.tables e below (T1.setTop { method := m, pc := pc + 3, locals := ls, stack := .ref T.heap.size :: rest, locked := none }) _
  jvm_step X₁.here [X₁.here.top, hexec, d3', Value.category]
  exact X₁.ldcStringW hexec (own := own) (text := text) (index := is) (a := sa) hown' hstr'.1 hstr'.2
    (g := { method := m, pc := pc + 4, locals := ls, stack := .ref T.heap.size :: .ref T.heap.size :: rest, locked := none }) rfl d4' _ hsteps
end Ends
section Bodies
variable {l : Launch}
theorem vx_ofW {y : MethodName} {ws ws' : List Cond} {rm : Room} {Pc : Array Value → State → Prop} {Qc : Array Value → State → Outcome → State → Prop} {XC : String → State → State → Prop} {mc ms : Nat} {free : Addr → Prop} {cc : ByteArray} {maxL : Nat} {ret : Option FieldType}
    (hy : plainName y.cls = true) (hw : ws = Cond.code y cc maxL ret :: ws')
    (body : ∀ p e s m args below meth c s₁, BodyLoose p l y (headSpec ws rm) cc maxL ret e s m args below meth c s₁ → c.maxLocals = maxL → (∀ x ∈ c.exceptionTable.toList, False) → Pc args s →
      W p l e (headSpec ws rm).room s m args below meth c s.heap [] 0 0 (vx_MQ below Qc XC args s mc ms free) (entryFrame m args maxL)) : vx_Met l y ws rm Pc Qc XC mc ms free := by
  refine MetFree.of_bodyS (code := cc) (maxLocals := maxL) (ret := ret) hy ?_ ?_
  · intro args s m h hn
    obtain ⟨meth, c, h1, h2, h3, h4, h5, h6, -, -⟩ := Cond.code_spec hn (atoms_spec (ws := ws) h _ (by rw [hw]; exact List.mem_cons_self))
    exact ⟨meth, c, h1, h2, h3, h4, h5, h6⟩
  · intro p e s m args below meth c s₁ B hml hP _
    have hh0 : s₁.heap = s.heap := by rw [B.state]; rfl
    have ht : ∀ x ∈ c.exceptionTable.toList, False := by
      obtain ⟨meth9, c9, h1, h2, -, -, -, -, h7, -⟩ := Cond.code_spec B.named (atoms_spec (ws := ws) B.pre _ (by rw [hw]; exact List.mem_cons_self))
      cases Option.some.inj (h1.symm.trans B.method)
      cases Option.some.inj (h2.symm.trans (Stand.of_body B).code)
      intro x hx
      rw [Array.isEmpty_iff.mp h7] at hx
      cases hx
    obtain ⟨t, a1, o, b1, b2, b3⟩ := body p e s m args below meth c s₁ B hml ht hP s₁ hh0 (Stand.of_body B)
    exact ⟨t, o, a1, b1, b2, b3⟩
/-- the table of a body with handlers -/
theorem vx_table {p : Program} {x y : MethodName} {S : Spec} {cc bytes : ByteArray} {maxL maxL' : Nat} {ret ret' : Option FieldType} {e : Env} {s s₁ : State} {m : MethodId} {args : Array Value} {below : List Frame} {meth : Method} {c : Code} {hh : List (Nat × Nat × Nat × Nat)}
    (B : BodyLoose p l y S cc maxL ret e s m args below meth c s₁) (h : (Cond.codeWith y bytes maxL' ret' hh).before args s = true) : c.exceptionTable.toList = tableOf hh := by
  obtain ⟨m9, meth9, c9, hn9, h1, h2, -, -, h6, -⟩ := Cond.codeWith_spec h
  cases Option.some.inj (hn9.symm.trans B.named)
  cases Option.some.inj (h1.symm.trans B.method)
  cases Option.some.inj (h2.symm.trans (Stand.of_body B).code)
  rw [← h6, table_eq]
end Bodies
end VXA
/-! ===== END ===== -/
/-! ===== BEGIN a static call of a method with an exception table ===== -/
section VXS
variable {p : Program} {l : Launch} {e : Env} {R : Room} {s : State} {m : MethodId} {args : Array Value} {below : List Frame} {meth : Method} {c : Code} {T : State} {H : Heap} {locs : List Loc} {cells slots : Nat}
abbrev vx_CSW (R : Room) (s : State) (args : Array Value) (own : String) (index : Nat) (y : MethodName) (bytes : ByteArray) (maxL : Nat) (ret : Option FieldType) (hh : List (Nat × Nat × Nat × Nat)) (ws : List Cond) (rm : Room) (mc ms n : Nat) : Prop :=
  (rm.cells = mc ∧ rm.slots = ms ∧ rm.frames + 1 ≤ R.frames ∧ 8 + (maxL + 11) + rm.locals ≤ R.locals ∧ (∀ w ∈ ws, ∀ (a' : Array Value) (U : State), s.WarmedH U.vm → w.before a' U = true) ∧ Cond.codeWith y bytes maxL ret hh ∈ ws) ∧
  (Cond.codeWith y bytes maxL ret hh).before args s = true ∧ (Cond.initialized y.cls).before args s = true ∧ (y.cls ≠ "java/lang/invoke/MethodHandle" ∧ y.cls ≠ "java/lang/invoke/VarHandle") ∧
  (∀ sig, parseMethodDescriptor y.desc = some sig → n = sig.parameters.length) ∧ (Cond.methodLink own index y).before args s = true ∧ (Cond.static y).before args s = true
theorem vx_cwSW {own : String} {index maxL mc ms : Nat} {y : MethodName} {bytes : ByteArray} {ret : Option FieldType} {hh : List (Nat × Nat × Nat × Nat)} {Ts ws ws' : List Cond} {rm : Room} (n : Nat) (ht : ∀ w ∈ Ts, w.before args s = true) (hT : GoodIn Ts (va_wsS own index y ws)) (hw : ws = Cond.codeWith y bytes maxL ret hh :: ws') (hrc : rm.cells = mc) (hrs : rm.slots = ms)
    (hd : y.cls ≠ "java/lang/invoke/MethodHandle" ∧ y.cls ≠ "java/lang/invoke/VarHandle" ∧ (parseMethodDescriptor y.desc).map (fun d => d.parameters.length) = some n) (hR : rm.frames + 1 ≤ R.frames ∧ 8 + (maxL + 11) + rm.locals ≤ R.locals) :
    vx_CSW R s args own index y bytes maxL ret hh ws rm mc ms n := by
  have ok : ∀ w ∈ va_wsS own index y ws, w.before args s = true := fun w h => ht w (hT w h).1
  have hG : GoodIn Ts ws := fun w h => hT w (by unfold va_wsS; exact List.mem_append_right _ h)
  have hc : Cond.codeWith y bytes maxL ret hh ∈ ws := by rw [hw]; exact List.mem_cons_self
  refine ⟨⟨hrc, hrs, hR.1, hR.2, pay_in ht hG, hc⟩, ht _ (hG _ hc).1, ok _ (by simp [va_wsS]), ⟨hd.1, hd.2.1⟩, fun sig h => ?_, ok _ (by simp [va_wsS]), ok _ (by simp [va_wsS])⟩
  have h2 := hd.2.2
  rw [h] at h2
  exact (Option.some.inj h2).symm
theorem vx_callSW (X : Stand p l e R s m args below meth c T locs cells slots) (hexec : p.tables.exec = Jvm.exec) {own : String} {index : Nat} {y : MethodName} {bytes : ByteArray} {maxL : Nat} {ret : Option FieldType} {hh : List (Nat × Nat × Nat × Nat)}
    (hown : s.vm.findClass own = some m.cls) (hlink : (Cond.methodLink own index y).before args s = true) (hstat : (Cond.static y).before args s = true) (hinit : (Cond.initialized y.cls).before args s = true)
    (hcode : (Cond.codeWith y bytes maxL ret hh).before args s = true) (hy : y.cls ≠ "java/lang/invoke/MethodHandle" ∧ y.cls ≠ "java/lang/invoke/VarHandle")
    {W9 : Nat} {Pre : Pt → Array Value → Prop} {Post : Pt → Array Value → Option Value → Pt → Prop} (hK : Back l R p e below s args y 3 W9 Pre Post)
    {g : JFrame} (hg : g.method = m) (hsize : g.locals.size = c.maxLocals) {argsL rest : List Value} (hlen : ∀ sig, parseMethodDescriptor y.desc = some sig → argsL.length = sig.parameters.length)
    (hstack : g.stack = argsL.reverse ++ rest) (hW : 2 * g.monitorRoom + (rest.map fun v => v.category).sum ≤ W9) (hdg : decode c.code g.pc = .ok (.invokestatic index, 3))
    (hpre : ∀ vm₁, s.WarmedH vm₁ → Pre ⟨T.setVm vm₁, locs, cells, slots⟩ argsL.toArray) :
    ∃ (v : Option Value) (vm₁ : Vm) (B : Pt), s.WarmedH vm₁ ∧ Stand p l e R s m args below meth c B.U B.locs B.cells B.slots ∧ Post ⟨T.setVm vm₁, locs, cells, slots⟩ argsL.toArray v B ∧
      ∀ target, Steps p.tables e below (B.U.setTop { g with pc := g.pc + 3, stack := v.toList ++ rest }) target → Steps p.tables e below (T.setTop g) target := by
  obtain ⟨mk, methM, cM, hnamed, hmethM, -, -, -, -, -, -, hsigM⟩ := Cond.codeWith_spec hcode
  have hstatic : methM.isStatic = true := Cond.static_spec hnamed hmethM hstat
  obtain ⟨kP, hkP, -⟩ := className_of_methodNamed hnamed
  have hinitP : kP.init = .initialized := Cond.initialized_spec (findClass_of_methodNamed hnamed) hkP hinit
  obtain ⟨vm₁, X₁, hstep₁⟩ := X.invokestatic hexec hown hlink hnamed hmethM hstatic hkP hinitP hy (g := g) hg (argsL := argsL) (rest := rest) (hlen _ hsigM) hstack hdg
  obtain ⟨v, B, X', hpost, hsteps⟩ := hK m meth c ⟨T.setVm vm₁, locs, cells, slots⟩ { g with stack := rest } (.invokestatic index) mk argsL.toArray X₁ hg hsize hdg hW (X₁.named hnamed) (hpre vm₁ X₁.warmed)
  exact ⟨v, vm₁, B, X₁.warmed, X', hpost, fun target h => hstep₁ _ fun acts => by rw [doInvoke_state]; exact hsteps.trans h⟩
theorem vx_runSW {y : MethodName} {bytes cc : ByteArray} {maxL nL mc ms n index : Nat} {ret : Option FieldType} {hh : List (Nat × Nat × Nat × Nat)} {ws : List Cond} {rm : Room} {Pc : Array Value → State → Prop} {Qc : Array Value → State → Outcome → State → Prop} {free : Addr → Prop} {Ts : List Cond} {own : String} {As rest : List Value} {g : JFrame}
    (S : CallFix p m c cc nL s args Ts own) (hM : Met l y ws rm Pc Qc mc ms free) (cw : vx_CSW R s args own index y bytes maxL ret hh ws rm mc ms n) (hp : PreS s H Pc As)
    (hg : g.method = m) (hn : As.length = n) (hsize : g.locals.size = nL) (hstack : g.stack = As.reverse ++ rest) (hW : 2 * g.monitorRoom + (rest.map fun v => v.category).sum ≤ 8) (hdg : decode cc g.pc = .ok (.invokestatic index, 3)) (hf : cells + mc ≤ R.cells ∧ slots + ms ≤ R.slots) :
    va_Run p l e R s m args below meth c H locs cells slots mc ms g rest (Qc As.toArray) (free) := by
  obtain ⟨⟨hrc, hrs, hfr, hlo, hws, hcw⟩, hcode, hini, hy, hlen, hl, hstt⟩ := cw
  have hK : Back l R p e below s args y 3 8 (PreOf R mc ms Pc) (PostOf Qc mc ms free) := va_backW (hh := hh) (bytes := bytes) (maxL := maxL) (ret := ret) hM hp.1 hrc hrs hfr hlo hws hcw (fun a' U hW => word_at hW (Or.inl (by first | rfl | simp [Cond.onTables, Cond.keeps, Cond.steady])) hini)
  obtain ⟨hx, hb, hml, ho, -⟩ := S
  intro T hT X
  obtain ⟨v, vm₁, ⟨U', l2, c2, s2⟩, hW₁, X', ⟨g', mk, t, L, e1, e2, hq, h1, hL, h2, h3⟩, st⟩ := vx_callSW X hx (hh := hh) (bytes := bytes) (maxL := maxL) (ret := ret) ho hl hstt hini hcode hy hK hg (hsize.trans hml.symm) (argsL := As) (rest := rest) (fun sig h => hn.trans (hlen sig h)) hstack hW (by rw [hb]; exact hdg)
    (fun vm₁ hW₁ => ⟨hf.1, hf.2, hp.2 (T.setVm vm₁) hT hW₁⟩)
  dsimp only [Pt.U, Pt.locs, Pt.cells, Pt.slots] at X' e1 e2 h1 h2 h3 st
  subst h1; subst h2; subst h3
  exact ⟨v, (T.setVm vm₁).calling g' mk As.toArray, t, U', L, hT, X', hL, e1, e2, hq, st⟩
/-- not caught here, past rows that name other classes: it goes on to the caller -/
theorem vx_outP {p : Program} {l : Launch} {e : Env} {R : Room} {s : State} {m : MethodId} {args : Array Value} {below : List Frame} {meth : Method} {c : Code} {H : Heap} {locs : List Loc} {cells slots : Nat} {free : Addr → Prop} {ls : Array Slot} {rest : List Value} {Qc : Array Value → State → Outcome → State → Prop} {XC : String → State → State → Prop}
    {pc : Nat} {own E : String} {ce : Cell} {q : Addr} {mc ms : Nat} (hown : s.vm.findClass own = some m.cls) (hlocks : meth.locks = false)
    (hpass : ∀ z ∈ c.exceptionTable.toList, covers z pc = false ∨ (z.catchType ≠ 0 ∧ ∃ nm : String, (Cond.classLink own z.catchType nm).before args s = true ∧ va_Nc E nm s)) (hcell : H[q]? = some ce) (hv : ce.vm = .none) (hcl : s.vm.findClass E = some ce.cls)
    (hx : ∀ t : State, t.heap = H → s.vm.Alike t.vm → XC E s t) (hf : ∀ z ∈ locs, free z.base) (hc : cells ≤ mc) (hs : slots ≤ ms) :
    vx_W p l e R s m args below meth c H locs cells slots (vx_MQ below Qc XC args s mc ms free) (F0 m pc ls rest) q := by
  intro T hT X
  have hpl : e.platform.magicAccessors = ({} : Platform).magicAccessors := by rw [X.admits.platform]
  obtain ⟨vm', hW', X', st⟩ := X.outThrough hlocks q (g := F0 m pc ls rest) rfl rfl rfl (cell := ce) (by rw [hT]; exact hcell) (by rw [hv]; rfl)
    (by obtain ⟨k9, h9, -⟩ := Vm.findClass_spec hcl; exact ⟨k9, h9⟩) (fun z hz => by
      rcases hpass z hz with h | ⟨hz0, nm, hl1, hn1⟩
      · exact Or.inl h
      · obtain ⟨c6, hc6, hcl6⟩ := Cond.classLink_spec hown hl1 e.platform hpl
        obtain ⟨a8, b8, h1, h2, h3⟩ := hn1
        cases Option.some.inj (h1.symm.trans hcl)
        cases Option.some.inj (h2.symm.trans hc6)
        exact Or.inr ⟨hz0, _, hcl6, h3⟩)
  obtain ⟨g₀, hfr⟩ := X'.frames_eq
  have hcell9 : ((T.setVm vm').setFrames (.throwing q :: below)).heap[q]? = some ce := by
    show T.heap[q]? = some ce
    rw [hT]; exact hcell
  have hend : Ended ((T.setVm vm').setFrames (.throwing q :: below)) below (.threw q) := State.frames_setFrames _ (State.cur_lt_of_frames hfr)
  refine ⟨(T.setVm vm').setFrames (.throwing q :: below), ?_, .threw q, X'.here.running, hend, Or.inr ⟨q, rfl, E, ce, locs, hx _ hT (X'.ends _).1.alike, hcell9, hv, hcl, (X'.ends _).1, (X'.ends _).2.mono hc hs, hf⟩⟩
  rw [X.pushThrowing_eq]
  exact st
/-- a thing of a world lies in the heap -/
theorem vx_lt {D : va_G} {cl : List vw_C} {ws : va_W} {H1 : Heap} (h : va_P D cl ws H1) {k : Nat} {q : Nat × va_E} (hk : ws[k]? = some q) : q.1 < H1.size := (h k q hk).lt
end VXS
/-! ===== END ===== -/
/-! ===== BEGIN methods with a table of their own: called by a name, returning or throwing ===== -/
section VXH
/-! vx_backW, vx_callVX, vx_callSX, vx_callVW, vx_runVW, vx_runVX, vx_runSX, vx_ofWH follow the same proofs as their sisters above (Free/Laws.lean, Shelf42/LK1.lean); vx_outP calls Shelf42/NT130.lean (outThrough). -/
section
variable {l : Launch} {R : Room} {p : Program} {e : Env} {below : List Frame} {s : State} {sargs : Array Value} {y : MethodName} {len W9 : Nat}
theorem vx_backW {ws : List Cond} {rm : Room} {Pc : Array Value → State → Prop} {Qc : Array Value → State → Outcome → State → Prop} {XC : String → State → State → Prop} {mc ms : Nat} {free : Addr → Prop} {bytes : ByteArray} {maxL : Nat} {ret : Option FieldType} {hh : List (Nat × Nat × Nat × Nat)}
    (hM : vx_Met l y ws rm Pc Qc XC mc ms free) (hblind : FrameBlind Pc) (hrc : rm.cells = mc) (hrs : rm.slots = ms)
    (hframes : rm.frames + 1 ≤ R.frames) (hlocals : W9 + (maxL + 11) + rm.locals ≤ R.locals)
    (hws : ∀ w ∈ ws, ∀ a' U, s.WarmedH U.vm → w.before a' U = true) (hcode : Cond.codeWith y bytes maxL ret hh ∈ ws) (hinit : ∀ a' U, s.WarmedH U.vm → (Cond.initialized y.cls).before a' U = true) :
    vx_Back l R p e below s sargs y len W9 (PreOf R mc ms Pc) (PostOf Qc mc ms free) (vx_Post XC mc ms free) := by
  intro m meth c A g ig mk a X hg hsize hdg hW hn hp
  have h1 : (headSpec ws rm).pre.before a A.U = true := atoms_intro fun w hw => hws w hw _ _ X.warmed
  have h2 : (Cond.codeWith y bytes maxL ret hh).before a A.U = true := hws _ hcode _ _ X.warmed
  have h3 : (Cond.initialized y.cls).before a A.U = true := hinit _ _ X.warmed
  have h4 : A.cells + (headSpec ws rm).room.cells ≤ R.cells := by rw [show (headSpec ws rm).room.cells = mc from hrc]; exact hp.1
  have h5 : A.slots + (headSpec ws rm).room.slots ≤ R.slots := by rw [show (headSpec ws rm).room.slots = ms from hrs]; exact hp.2.1
  have hPc : Pc a (A.U.calling g mk a) := hblind _ _ _ _ hp.2.2
  obtain ⟨U, Ls, c0, s0⟩ := A
  dsimp only [Pt.U, Pt.locs, Pt.cells, Pt.slots] at h1 h2 h3 h4 h5 X hn hPc ⊢
  obtain ⟨m9, methY, cY, hn9, hmY, hcY, -, hlY, -⟩ := Cond.codeWith_spec h2
  cases Option.some.inj (hn9.symm.trans hn)
  obtain ⟨kY, hkY, -⟩ := className_of_methodNamed hn
  have hinitY : kY.init = .initialized := Cond.initialized_spec (findClass_of_methodNamed hn) hkY h3
  have h : At U g.method c below := by rw [hg]; exact X.here
  have hlocals9 : W9 + (maxL + 11) + (headSpec ws rm).room.locals ≤ R.locals := hlocals
  have happ : (headSpec ws rm).appliesLoose y e.platform (U.calling g mk a) = true :=
    Spec.appliesLoose_calling (g := g) h hdg hn hkY hinitY
      (X.room_calling (g := g) (R' := (headSpec ws rm).room) hsize hmY hcY hframes (by rw [hlY]; omega) h4 h5) h1
  obtain ⟨mid, hmid⟩ := h.above
  have hfr : (U.setTop g).frames = (.java g :: mid) ++ below := by rw [State.frames_setTop' g h.top, hmid]; rfl
  obtain ⟨o, s₂, hsteps, -, hend, hq⟩ := Steps.callFree hM p X.admits X.cas X.clock (acts := []) hfr happ hPc trivial
  have hq' : vx_Q Qc XC mc ms free a (U.calling g mk a) o s₂ := hq
  rw [State.frames_setTop' g h.top] at hend
  obtain ⟨g₀, hg0⟩ := Option.isSome_iff_exists.mp h.top
  obtain ⟨r, hr⟩ := State.topJava?_eq_some.mp hg0
  have hr' : (({ U with heap := s₂.heap, slotsUsed := s₂.slotsUsed } : State).setVm s₂.vm).frames = .java g₀ :: r := hr
  rcases hq' with ⟨hqc, L, hfe, hL⟩ | ⟨q, rfl, E, ce, L, hx, hce, hcv, hcl, hW₂, hsm, hL⟩
  · obtain ⟨⟨v, rfl⟩, hW₂, e2, q2, q3, q4, q5, q6⟩ := id hfe
    have e3 : s₂ = ({ (U.calling g mk a).setFrames s₂.frames with heap := s₂.heap, slotsUsed := s₂.slotsUsed } : State).setVm s₂.vm := by
      have : s₂ = ({ s₂ with vm := (U.calling g mk a).vm } : State).setVm s₂.vm := rfl
      rw [e2] at this
      exact this
    obtain ⟨c₂, i₂, len₂, hc₂, hd₂, hf₂⟩ := hend
    have hW' : U.WarmedH s₂.vm := hW₂
    have hcc : c₂ = c := by
      have h1 : s₂.code? g.method = U.code? g.method := by
        rw [State.code?_eq, State.code?_eq, hW'.alike.method?]
      exact Option.some.inj (hc₂.symm.trans (h1.trans h.code))
    subst hcc
    have hlen : len₂ = len := by rw [hdg] at hd₂; cases hd₂; rfl
    subst hlen
    have hs₂ : s₂ = (({ U with heap := s₂.heap, slotsUsed := s₂.slotsUsed } : State).setVm s₂.vm).setTop { g with pc := g.pc + len₂, stack := v.toList ++ g.stack } := by
      refine e3.trans ?_
      rw [hf₂, State.calling_eq h.top, State.setFrames_setFrames, State.setTop_of_frames _ hr', hr]
      rfl
    have hsame : U.sameButNew ({ U with heap := s₂.heap, slotsUsed := s₂.slotsUsed } : State) L mc ms := by
      refine ⟨?_, q2, q3, q4, q5, q6⟩
      obtain ⟨t, ht, -⟩ := State.frames_cons hr
      show ({ U with heap := s₂.heap, slotsUsed := s₂.slotsUsed } : State) = { U.setFrames U.frames with heap := s₂.heap, slotsUsed := s₂.slotsUsed }
      rw [State.setFrames_self ht]
    subst hg
    refine Or.inl ⟨v, ⟨(({ U with heap := s₂.heap, slotsUsed := s₂.slotsUsed } : State).setVm s₂.vm), Ls ++ L, c0 + mc, s0 + ms⟩,
      ⟨X.admits, X.cas, X.clock, X.frames, X.room, X.hears, X.method, X.code, (X.here.setHeapUsed s₂.heap s₂.slotsUsed).setVm hW'.alike, X.tail, State.WarmedH.trans X.warmed hW', X.limits, X.bytes, X.same.trans (hsame.setVm s.vm)⟩,
      ⟨g, mk, s₂, L, rfl, rfl, hqc, rfl, hL, rfl, rfl⟩, ?_⟩
    show Steps p.tables e below _ ((({ U with heap := s₂.heap, slotsUsed := s₂.slotsUsed } : State).setVm s₂.vm).setTop { g with pc := g.pc + len₂, stack := v.toList ++ g.stack })
    rw [← hs₂]
    exact hsteps
  · obtain ⟨e2, q2, q3, q4, q5, q6⟩ := id hsm
    have e3 : s₂ = ({ (U.calling g mk a).setFrames s₂.frames with heap := s₂.heap, slotsUsed := s₂.slotsUsed } : State).setVm s₂.vm := by
      have : s₂ = ({ s₂ with vm := (U.calling g mk a).vm } : State).setVm s₂.vm := rfl
      rw [e2] at this
      exact this
    have hf₂ : s₂.frames = .throwing q :: .java g :: U.frames.tail := hend
    have hW' : U.WarmedH s₂.vm := hW₂
    have hs₂ : s₂ = ((({ U with heap := s₂.heap, slotsUsed := s₂.slotsUsed } : State).setVm s₂.vm).setTop g).pushFrame (.throwing q) := by
      refine e3.trans ?_
      rw [hf₂, State.calling_eq h.top, State.setFrames_setFrames, State.pushFrame, State.frames_setTop _ hr', State.setTop_of_frames _ hr', State.setFrames_setFrames, hr]
      rfl
    have hsame : U.sameButNew ({ U with heap := s₂.heap, slotsUsed := s₂.slotsUsed } : State) L mc ms := by
      refine ⟨?_, q2, q3, q4, q5, q6⟩
      obtain ⟨t, ht, -⟩ := State.frames_cons hr
      show ({ U with heap := s₂.heap, slotsUsed := s₂.slotsUsed } : State) = { U.setFrames U.frames with heap := s₂.heap, slotsUsed := s₂.slotsUsed }
      rw [State.setFrames_self ht]
    subst hg
    refine Or.inr ⟨q, ⟨(({ U with heap := s₂.heap, slotsUsed := s₂.slotsUsed } : State).setVm s₂.vm), Ls ++ L, c0 + mc, s0 + ms⟩,
      ⟨X.admits, X.cas, X.clock, X.frames, X.room, X.hears, X.method, X.code, (X.here.setHeapUsed s₂.heap s₂.slotsUsed).setVm hW'.alike, X.tail, State.WarmedH.trans X.warmed hW', X.limits, X.bytes, X.same.trans (hsame.setVm s.vm)⟩,
      ⟨g, mk, s₂, L, E, ce, rfl, rfl, hx, hce, hcv, hcl, rfl, hL, rfl, rfl⟩, ?_⟩
    show Steps p.tables e below _ (((({ U with heap := s₂.heap, slotsUsed := s₂.slotsUsed } : State).setVm s₂.vm).setTop g).pushFrame (.throwing q))
    rw [← hs₂]
    exact hsteps
end
variable {p : Program} {l : Launch} {e : Env} {R : Room} {s : State} {m : MethodId} {args : Array Value} {below : List Frame} {meth : Method} {c : Code} {T : State} {H : Heap} {locs : List Loc} {cells slots : Nat}
theorem vx_callVX (X : Stand p l e R s m args below meth c T locs cells slots) (hexec : p.tables.exec = Jvm.exec) {own C : String} {index : Nat} {y : MethodName} {bytes : ByteArray} {maxL : Nat} {ret : Option FieldType} {hh : List (Nat × Nat × Nat × Nat)}
    (hown : s.vm.findClass own = some m.cls) (hlink : (Cond.methodLink own index y).before args s = true) (hinst : (Cond.instanceMethod y).before args s = true) (hsel : (Cond.selects C y y).before args s = true)
    (hcode : (Cond.codeWith y bytes maxL ret hh).before args s = true) (hy : y.cls ≠ "java/lang/invoke/MethodHandle" ∧ y.cls ≠ "java/lang/invoke/VarHandle")
    {W9 : Nat} {Pre : Pt → Array Value → Prop} {Post : Pt → Array Value → Option Value → Pt → Prop} {PostX : Pt → Array Value → Addr → Pt → Prop} (hK : vx_Back l R p e below s args y 3 W9 Pre Post PostX)
    {b : Addr} {cellB : Cell} (hcell : T.heap[b]? = some cellB) (hobj : cellB.vm.isStatics = false) (hcls : s.vm.findClass C = some cellB.cls)
    {g : JFrame} (hg : g.method = m) (hsize : g.locals.size = c.maxLocals) {argsL rest : List Value} (hlen : ∀ sig, parseMethodDescriptor y.desc = some sig → argsL.length = sig.parameters.length)
    (hstack : g.stack = argsL.reverse ++ .ref b :: rest) (hW : 2 * g.monitorRoom + (rest.map fun v => v.category).sum ≤ W9) (hdg : decode c.code g.pc = .ok (.invokevirtual index, 3))
    (hpre : ∀ vm₁, s.WarmedH vm₁ → Pre ⟨T.setVm vm₁, locs, cells, slots⟩ (Value.ref b :: argsL).toArray) :
    (∃ (v : Option Value) (vm₁ : Vm) (B : Pt), s.WarmedH vm₁ ∧ Stand p l e R s m args below meth c B.U B.locs B.cells B.slots ∧ Post ⟨T.setVm vm₁, locs, cells, slots⟩ (Value.ref b :: argsL).toArray v B ∧
      ∀ target, Steps p.tables e below (B.U.setTop { g with pc := g.pc + 3, stack := v.toList ++ rest }) target → Steps p.tables e below (T.setTop g) target) ∨
    (∃ (q : Addr) (vm₁ : Vm) (B : Pt), s.WarmedH vm₁ ∧ Stand p l e R s m args below meth c B.U B.locs B.cells B.slots ∧ PostX ⟨T.setVm vm₁, locs, cells, slots⟩ (Value.ref b :: argsL).toArray q B ∧
      Steps p.tables e below (T.setTop g) ((B.U.setTop { g with stack := rest }).pushFrame (.throwing q))) := by
  obtain ⟨mk, methM, hnamed, hmethM, hstM, habM⟩ := Cond.instanceMethod_spec hinst
  obtain ⟨m8, methM', cM, hn8, hmethM', -, -, -, -, -, -, hsigM⟩ := Cond.codeWith_spec hcode
  cases Option.some.inj (hn8.symm.trans hnamed)
  cases hmethM.symm.trans hmethM'
  obtain ⟨c2, r2, m2, q1, q2, q3, q4, kP, hkP, hkPi⟩ := Cond.selects_spec hsel
  cases hcls.symm.trans q1
  cases (State.methodFound?_of_named hnamed hy).symm.trans q2
  cases hnamed.symm.trans q3
  have hselP : selectMethod e.platform s.vm cellB.cls mk = .method mk := by rw [Launch.admits_selectMethod X.admits]; exact q4
  obtain ⟨vm₁, X₁, hstep₁⟩ := X.invokevirtual hexec hown hlink hnamed hmethM hstM hkP hkPi hy (a := b) (cell := cellB) hcell
    (fun z h => by rw [h] at hobj; cases hobj) hselP hmethM habM hkP hkPi (g := g) hg (argsL := argsL) (rest := rest) (hlen _ hsigM) hstack hdg
  rcases hK m meth c ⟨T.setVm vm₁, locs, cells, slots⟩ { g with stack := rest } (.invokevirtual index) mk (Value.ref b :: argsL).toArray X₁ hg hsize hdg hW (X₁.named hnamed) (hpre vm₁ X₁.warmed) with ⟨v, B, X', hpost, hsteps⟩ | ⟨q, B, X', hpost, hsteps⟩
  · exact Or.inl ⟨v, vm₁, B, X₁.warmed, X', hpost, fun target h => hstep₁ _ fun acts => by rw [doInvoke_state]; exact hsteps.trans h⟩
  · exact Or.inr ⟨q, vm₁, B, X₁.warmed, X', hpost, hstep₁ _ fun acts => by rw [doInvoke_state]; exact hsteps⟩
theorem vx_callSX (X : Stand p l e R s m args below meth c T locs cells slots) (hexec : p.tables.exec = Jvm.exec) {own : String} {index : Nat} {y : MethodName} {bytes : ByteArray} {maxL : Nat} {ret : Option FieldType} {hh : List (Nat × Nat × Nat × Nat)}
    (hown : s.vm.findClass own = some m.cls) (hlink : (Cond.methodLink own index y).before args s = true) (hstat : (Cond.static y).before args s = true) (hinit : (Cond.initialized y.cls).before args s = true)
    (hcode : (Cond.codeWith y bytes maxL ret hh).before args s = true) (hy : y.cls ≠ "java/lang/invoke/MethodHandle" ∧ y.cls ≠ "java/lang/invoke/VarHandle")
    {W9 : Nat} {Pre : Pt → Array Value → Prop} {Post : Pt → Array Value → Option Value → Pt → Prop} {PostX : Pt → Array Value → Addr → Pt → Prop} (hK : vx_Back l R p e below s args y 3 W9 Pre Post PostX)
    {g : JFrame} (hg : g.method = m) (hsize : g.locals.size = c.maxLocals) {argsL rest : List Value} (hlen : ∀ sig, parseMethodDescriptor y.desc = some sig → argsL.length = sig.parameters.length)
    (hstack : g.stack = argsL.reverse ++ rest) (hW : 2 * g.monitorRoom + (rest.map fun v => v.category).sum ≤ W9) (hdg : decode c.code g.pc = .ok (.invokestatic index, 3))
    (hpre : ∀ vm₁, s.WarmedH vm₁ → Pre ⟨T.setVm vm₁, locs, cells, slots⟩ argsL.toArray) :
    (∃ (v : Option Value) (vm₁ : Vm) (B : Pt), s.WarmedH vm₁ ∧ Stand p l e R s m args below meth c B.U B.locs B.cells B.slots ∧ Post ⟨T.setVm vm₁, locs, cells, slots⟩ argsL.toArray v B ∧
      ∀ target, Steps p.tables e below (B.U.setTop { g with pc := g.pc + 3, stack := v.toList ++ rest }) target → Steps p.tables e below (T.setTop g) target) ∨
    (∃ (q : Addr) (vm₁ : Vm) (B : Pt), s.WarmedH vm₁ ∧ Stand p l e R s m args below meth c B.U B.locs B.cells B.slots ∧ PostX ⟨T.setVm vm₁, locs, cells, slots⟩ argsL.toArray q B ∧
      Steps p.tables e below (T.setTop g) ((B.U.setTop { g with stack := rest }).pushFrame (.throwing q))) := by
  obtain ⟨mk, methM, cM, hnamed, hmethM, -, -, -, -, -, -, hsigM⟩ := Cond.codeWith_spec hcode
  have hstatic : methM.isStatic = true := Cond.static_spec hnamed hmethM hstat
  obtain ⟨kP, hkP, -⟩ := className_of_methodNamed hnamed
  have hinitP : kP.init = .initialized := Cond.initialized_spec (findClass_of_methodNamed hnamed) hkP hinit
  obtain ⟨vm₁, X₁, hstep₁⟩ := X.invokestatic hexec hown hlink hnamed hmethM hstatic hkP hinitP hy (g := g) hg (argsL := argsL) (rest := rest) (hlen _ hsigM) hstack hdg
  rcases hK m meth c ⟨T.setVm vm₁, locs, cells, slots⟩ { g with stack := rest } (.invokestatic index) mk argsL.toArray X₁ hg hsize hdg hW (X₁.named hnamed) (hpre vm₁ X₁.warmed) with ⟨v, B, X', hpost, hsteps⟩ | ⟨q, B, X', hpost, hsteps⟩
  · exact Or.inl ⟨v, vm₁, B, X₁.warmed, X', hpost, fun target h => hstep₁ _ fun acts => by rw [doInvoke_state]; exact hsteps.trans h⟩
  · exact Or.inr ⟨q, vm₁, B, X₁.warmed, X', hpost, hstep₁ _ fun acts => by rw [doInvoke_state]; exact hsteps⟩
theorem vx_callVW (X : Stand p l e R s m args below meth c T locs cells slots) (hexec : p.tables.exec = Jvm.exec) {own C : String} {index : Nat} {y : MethodName} {bytes : ByteArray} {maxL : Nat} {ret : Option FieldType} {hh : List (Nat × Nat × Nat × Nat)}
    (hown : s.vm.findClass own = some m.cls) (hlink : (Cond.methodLink own index y).before args s = true) (hinst : (Cond.instanceMethod y).before args s = true) (hsel : (Cond.selects C y y).before args s = true)
    (hcode : (Cond.codeWith y bytes maxL ret hh).before args s = true) (hy : y.cls ≠ "java/lang/invoke/MethodHandle" ∧ y.cls ≠ "java/lang/invoke/VarHandle")
    {W9 : Nat} {Pre : Pt → Array Value → Prop} {Post : Pt → Array Value → Option Value → Pt → Prop} (hK : Back l R p e below s args y 3 W9 Pre Post)
    {b : Addr} {cellB : Cell} (hcell : T.heap[b]? = some cellB) (hobj : cellB.vm.isStatics = false) (hcls : s.vm.findClass C = some cellB.cls)
    {g : JFrame} (hg : g.method = m) (hsize : g.locals.size = c.maxLocals) {argsL rest : List Value} (hlen : ∀ sig, parseMethodDescriptor y.desc = some sig → argsL.length = sig.parameters.length)
    (hstack : g.stack = argsL.reverse ++ .ref b :: rest) (hW : 2 * g.monitorRoom + (rest.map fun v => v.category).sum ≤ W9) (hdg : decode c.code g.pc = .ok (.invokevirtual index, 3))
    (hpre : ∀ vm₁, s.WarmedH vm₁ → Pre ⟨T.setVm vm₁, locs, cells, slots⟩ (Value.ref b :: argsL).toArray) :
    ∃ (v : Option Value) (vm₁ : Vm) (B : Pt), s.WarmedH vm₁ ∧ Stand p l e R s m args below meth c B.U B.locs B.cells B.slots ∧ Post ⟨T.setVm vm₁, locs, cells, slots⟩ (Value.ref b :: argsL).toArray v B ∧
      ∀ target, Steps p.tables e below (B.U.setTop { g with pc := g.pc + 3, stack := v.toList ++ rest }) target → Steps p.tables e below (T.setTop g) target := by
  obtain ⟨mk, methM, hnamed, hmethM, hstM, habM⟩ := Cond.instanceMethod_spec hinst
  obtain ⟨m8, methM', cM, hn8, hmethM', -, -, -, -, -, -, hsigM⟩ := Cond.codeWith_spec hcode
  cases Option.some.inj (hn8.symm.trans hnamed)
  cases hmethM.symm.trans hmethM'
  obtain ⟨c2, r2, m2, q1, q2, q3, q4, kP, hkP, hkPi⟩ := Cond.selects_spec hsel
  cases hcls.symm.trans q1
  cases (State.methodFound?_of_named hnamed hy).symm.trans q2
  cases hnamed.symm.trans q3
  have hselP : selectMethod e.platform s.vm cellB.cls mk = .method mk := by rw [Launch.admits_selectMethod X.admits]; exact q4
  obtain ⟨vm₁, X₁, hstep₁⟩ := X.invokevirtual hexec hown hlink hnamed hmethM hstM hkP hkPi hy (a := b) (cell := cellB) hcell
    (fun z h => by rw [h] at hobj; cases hobj) hselP hmethM habM hkP hkPi (g := g) hg (argsL := argsL) (rest := rest) (hlen _ hsigM) hstack hdg
  obtain ⟨v, B, X', hpost, hsteps⟩ := hK m meth c ⟨T.setVm vm₁, locs, cells, slots⟩ { g with stack := rest } (.invokevirtual index) mk (Value.ref b :: argsL).toArray X₁ hg hsize hdg hW (X₁.named hnamed) (hpre vm₁ X₁.warmed)
  exact ⟨v, vm₁, B, X₁.warmed, X', hpost, fun target h => hstep₁ _ fun acts => by rw [doInvoke_state]; exact hsteps.trans h⟩
abbrev vx_CVW (R : Room) (s : State) (args : Array Value) (own C : String) (index : Nat) (y : MethodName) (bytes : ByteArray) (maxL : Nat) (ret : Option FieldType) (hh : List (Nat × Nat × Nat × Nat)) (ws : List Cond) (rm : Room) (mc ms n : Nat) : Prop :=
  (rm.cells = mc ∧ rm.slots = ms ∧ rm.frames + 1 ≤ R.frames ∧ 8 + (maxL + 11) + rm.locals ≤ R.locals ∧ (∀ w ∈ ws, ∀ (a' : Array Value) (U : State), s.WarmedH U.vm → w.before a' U = true) ∧ Cond.codeWith y bytes maxL ret hh ∈ ws) ∧
  (Cond.codeWith y bytes maxL ret hh).before args s = true ∧ (Cond.initialized y.cls).before args s = true ∧ (y.cls ≠ "java/lang/invoke/MethodHandle" ∧ y.cls ≠ "java/lang/invoke/VarHandle") ∧
  (∀ sig, parseMethodDescriptor y.desc = some sig → n = sig.parameters.length) ∧ (Cond.methodLink own index y).before args s = true ∧ (Cond.instanceMethod y).before args s = true ∧ (Cond.selects C y y).before args s = true
theorem vx_cwVW {own C : String} {index maxL mc ms : Nat} {y : MethodName} {bytes : ByteArray} {ret : Option FieldType} {hh : List (Nat × Nat × Nat × Nat)} {Ts ws ws' : List Cond} {rm : Room} (n : Nat) (ht : ∀ w ∈ Ts, w.before args s = true) (hT : GoodIn Ts (wsV own index C y ws)) (hw : ws = Cond.codeWith y bytes maxL ret hh :: ws') (hrc : rm.cells = mc) (hrs : rm.slots = ms)
    (hd : y.cls = C ∧ y.cls ≠ "java/lang/invoke/MethodHandle" ∧ y.cls ≠ "java/lang/invoke/VarHandle" ∧ (parseMethodDescriptor y.desc).map (fun d => d.parameters.length) = some n) (hR : rm.frames + 1 ≤ R.frames ∧ 8 + (maxL + 11) + rm.locals ≤ R.locals) :
    vx_CVW R s args own C index y bytes maxL ret hh ws rm mc ms n := by
  obtain ⟨hC, hd⟩ := hd
  subst hC
  have ok : ∀ w ∈ wsV own index y.cls y ws, w.before args s = true := fun w h => ht w (hT w h).1
  have hG : GoodIn Ts ws := fun w h => hT w (by unfold wsV; exact List.mem_append_right _ h)
  have hc : Cond.codeWith y bytes maxL ret hh ∈ ws := by rw [hw]; exact List.mem_cons_self
  refine ⟨⟨hrc, hrs, hR.1, hR.2, pay_in ht hG, hc⟩, ht _ (hG _ hc).1, ok _ (by simp [wsV]), ⟨hd.1, hd.2.1⟩, fun sig h => ?_, ok _ (by simp [wsV]), ok _ (by simp [wsV]), ok _ (by simp [wsV])⟩
  have h2 := hd.2.2
  rw [h] at h2
  exact (Option.some.inj h2).symm
theorem vx_runVW {y : MethodName} {bytes cc : ByteArray} {maxL nL mc ms n index : Nat} {ret : Option FieldType} {hh : List (Nat × Nat × Nat × Nat)} {ws : List Cond} {rm : Room} {Pc : Array Value → State → Prop} {Qc : Array Value → State → Outcome → State → Prop} {free : Addr → Prop} {Ts : List Cond} {own C : String} {b : Addr} {As rest : List Value} {g : JFrame}
    (S : CallFix p m c cc nL s args Ts own) (hM : Met l y ws rm Pc Qc mc ms free) (cw : vx_CVW R s args own C index y bytes maxL ret hh ws rm mc ms n) (hp : PreV s H C b Pc As)
    (hg : g.method = m) (hn : As.length = n) (hsize : g.locals.size = nL) (hstack : g.stack = As.reverse ++ .ref b :: rest) (hW : 2 * g.monitorRoom + (rest.map fun v => v.category).sum ≤ 8) (hdg : decode cc g.pc = .ok (.invokevirtual index, 3)) (hf : cells + mc ≤ R.cells ∧ slots + ms ≤ R.slots) :
    va_Run p l e R s m args below meth c H locs cells slots mc ms g rest (Qc (Value.ref b :: As).toArray) free := by
  obtain ⟨⟨hrc, hrs, hfr, hlo, hws, hcw⟩, hcode, hini, hy, hlen, hl, hin, hse⟩ := cw
  have hK : Back l R p e below s args y 3 8 (PreOf R mc ms Pc) (PostOf Qc mc ms free) := va_backW (hh := hh) (bytes := bytes) (maxL := maxL) (ret := ret) hM hp.1 hrc hrs hfr hlo hws hcw (fun a' U hW => word_at hW (Or.inl (by first | rfl | simp [Cond.onTables, Cond.keeps, Cond.steady])) hini)
  obtain ⟨hx, hb, hml, ho, -⟩ := S
  obtain ⟨-, ⟨cellB, hcB, hoB, hclB⟩, hPc⟩ := hp
  intro T hT X
  obtain ⟨v, vm₁, ⟨U', l2, c2, s2⟩, hW₁, X', ⟨g', mk, t, L, e1, e2, hq, h1, hL, h2, h3⟩, st⟩ := vx_callVW X hx (C := C) (hh := hh) (bytes := bytes) (maxL := maxL) (ret := ret) ho hl hin hse hcode hy hK (by rw [hT]; exact hcB) hoB hclB hg (hsize.trans hml.symm) (argsL := As) (rest := rest) (fun sig h => hn.trans (hlen sig h)) hstack hW (by rw [hb]; exact hdg)
    (fun vm₁ hW₁ => ⟨hf.1, hf.2, hPc (T.setVm vm₁) hT hW₁⟩)
  dsimp only [Pt.U, Pt.locs, Pt.cells, Pt.slots] at X' e1 e2 h1 h2 h3 st
  subst h1; subst h2; subst h3
  exact ⟨v, (T.setVm vm₁).calling g' mk (Value.ref b :: As).toArray, t, U', L, hT, X', hL, e1, e2, hq, st⟩
section
variable {y : MethodName} {bytes cc : ByteArray} {maxL nL mc ms n index : Nat} {ret : Option FieldType} {ws : List Cond} {rm : Room} {Pc : Array Value → State → Prop} {Qc : Array Value → State → Outcome → State → Prop} {XC : String → State → State → Prop} {free : Addr → Prop} {Ts : List Cond} {own C : String} {b : Addr} {As rest : List Value} {g : JFrame}
theorem vx_runVX {hh : List (Nat × Nat × Nat × Nat)} (S : CallFix p m c cc nL s args Ts own) (hM : vx_Met l y ws rm Pc Qc XC mc ms free) (cw : vx_CVW R s args own C index y bytes maxL ret hh ws rm mc ms n) (hp : PreV s H C b Pc As)
    (hg : g.method = m) (hn : As.length = n) (hsize : g.locals.size = nL) (hstack : g.stack = As.reverse ++ .ref b :: rest) (hW : 2 * g.monitorRoom + (rest.map fun v => v.category).sum ≤ 8) (hdg : decode cc g.pc = .ok (.invokevirtual index, 3)) (hf : cells + mc ≤ R.cells ∧ slots + ms ≤ R.slots) :
    vx_Run p l e R s m args below meth c H locs cells slots mc ms g rest (Qc (Value.ref b :: As).toArray) XC free := by
  obtain ⟨⟨hrc, hrs, hfr, hlo, hws, hcw⟩, hcode, hini, hy, hlen, hl, hin, hse⟩ := cw
  have hK : vx_Back l R p e below s args y 3 8 (PreOf R mc ms Pc) (PostOf Qc mc ms free) (vx_Post XC mc ms free) := vx_backW (hh := hh) (bytes := bytes) (maxL := maxL) (ret := ret) hM hp.1 hrc hrs hfr hlo hws hcw (fun a' U hW => word_at hW (Or.inl (by first | rfl | simp [Cond.onTables, Cond.keeps, Cond.steady])) hini)
  obtain ⟨hx, hb, hml, ho, -⟩ := S
  obtain ⟨-, ⟨cellB, hcB, hoB, hclB⟩, hPc⟩ := hp
  intro T hT X
  rcases vx_callVX X hx (C := C) (hh := hh) (bytes := bytes) (maxL := maxL) (ret := ret) ho hl hin hse hcode hy hK (by rw [hT]; exact hcB) hoB hclB hg (hsize.trans hml.symm) (argsL := As) (rest := rest) (fun sig h => hn.trans (hlen sig h)) hstack hW (by rw [hb]; exact hdg)
    (fun vm₁ hW₁ => ⟨hf.1, hf.2, hPc (T.setVm vm₁) hT hW₁⟩) with ⟨v, vm₁, ⟨U', l2, c2, s2⟩, hW₁, X', ⟨g', mk, t, L, e1, e2, hq, h1, hL, h2, h3⟩, st⟩ | ⟨q, vm₁, ⟨U', l2, c2, s2⟩, hW₁, X', ⟨g', mk, t, L, E, ce, e1, e2, hq, hce, hcv, hcl, h1, hL, h2, h3⟩, st⟩
  · dsimp only [Pt.U, Pt.locs, Pt.cells, Pt.slots] at X' e1 e2 h1 h2 h3 st
    subst h1; subst h2; subst h3
    exact Or.inl ⟨v, (T.setVm vm₁).calling g' mk (Value.ref b :: As).toArray, t, U', L, hT, X', hL, e1, e2, hq, st⟩
  · dsimp only [Pt.U, Pt.locs, Pt.cells, Pt.slots] at X' e1 e2 h1 h2 h3 st hcl
    subst h1; subst h2; subst h3
    exact Or.inr ⟨q, (T.setVm vm₁).calling g' mk (Value.ref b :: As).toArray, t, U', L, E, ce, hT, X', hL, e1, e2, hq, hce, hcv, vx_cls hW₁ hcl, st⟩
theorem vx_runSX {hh : List (Nat × Nat × Nat × Nat)} (S : CallFix p m c cc nL s args Ts own) (hM : vx_Met l y ws rm Pc Qc XC mc ms free) (cw : vx_CSW R s args own index y bytes maxL ret hh ws rm mc ms n) (hp : PreS s H Pc As)
    (hg : g.method = m) (hn : As.length = n) (hsize : g.locals.size = nL) (hstack : g.stack = As.reverse ++ rest) (hW : 2 * g.monitorRoom + (rest.map fun v => v.category).sum ≤ 8) (hdg : decode cc g.pc = .ok (.invokestatic index, 3)) (hf : cells + mc ≤ R.cells ∧ slots + ms ≤ R.slots) :
    vx_Run p l e R s m args below meth c H locs cells slots mc ms g rest (Qc As.toArray) XC free := by
  obtain ⟨⟨hrc, hrs, hfr, hlo, hws, hcw⟩, hcode, hini, hy, hlen, hl, hstt⟩ := cw
  have hK : vx_Back l R p e below s args y 3 8 (PreOf R mc ms Pc) (PostOf Qc mc ms free) (vx_Post XC mc ms free) := vx_backW (hh := hh) (bytes := bytes) (maxL := maxL) (ret := ret) hM hp.1 hrc hrs hfr hlo hws hcw (fun a' U hW => word_at hW (Or.inl (by first | rfl | simp [Cond.onTables, Cond.keeps, Cond.steady])) hini)
  obtain ⟨hx, hb, hml, ho, -⟩ := S
  intro T hT X
  rcases vx_callSX X hx (hh := hh) (bytes := bytes) (maxL := maxL) (ret := ret) ho hl hstt hini hcode hy hK hg (hsize.trans hml.symm) (argsL := As) (rest := rest) (fun sig h => hn.trans (hlen sig h)) hstack hW (by rw [hb]; exact hdg)
    (fun vm₁ hW₁ => ⟨hf.1, hf.2, hp.2 (T.setVm vm₁) hT hW₁⟩) with ⟨v, vm₁, ⟨U', l2, c2, s2⟩, hW₁, X', ⟨g', mk, t, L, e1, e2, hq, h1, hL, h2, h3⟩, st⟩ | ⟨q, vm₁, ⟨U', l2, c2, s2⟩, hW₁, X', ⟨g', mk, t, L, E, ce, e1, e2, hq, hce, hcv, hcl, h1, hL, h2, h3⟩, st⟩
  · dsimp only [Pt.U, Pt.locs, Pt.cells, Pt.slots] at X' e1 e2 h1 h2 h3 st
    subst h1; subst h2; subst h3
    exact Or.inl ⟨v, (T.setVm vm₁).calling g' mk As.toArray, t, U', L, hT, X', hL, e1, e2, hq, st⟩
  · dsimp only [Pt.U, Pt.locs, Pt.cells, Pt.slots] at X' e1 e2 h1 h2 h3 st hcl
    subst h1; subst h2; subst h3
    exact Or.inr ⟨q, (T.setVm vm₁).calling g' mk As.toArray, t, U', L, E, ce, hT, X', hL, e1, e2, hq, hce, hcv, vx_cls hW₁ hcl, st⟩
end
end VXH
theorem vx_ofWH {l : Launch} {y : MethodName} {ws ws' : List Cond} {rm : Room} {Pc : Array Value → State → Prop} {Qc : Array Value → State → Outcome → State → Prop} {XC : String → State → State → Prop} {mc ms : Nat} {free : Addr → Prop} {cc : ByteArray} {maxL : Nat} {ret : Option FieldType} {hh : List (Nat × Nat × Nat × Nat)}
    (hy : plainName y.cls = true) (hw : ws = Cond.codeWith y cc maxL ret hh :: ws')
    (body : ∀ p e s m args below meth c s₁, BodyLoose p l y (headSpec ws rm) cc maxL ret e s m args below meth c s₁ → c.maxLocals = maxL → Pc args s →
      W p l e (headSpec ws rm).room s m args below meth c s.heap [] 0 0 (vx_MQ below Qc XC args s mc ms free) (entryFrame m args maxL)) : vx_Met l y ws rm Pc Qc XC mc ms free := by
  refine MetFree.of_bodyS (code := cc) (maxLocals := maxL) (ret := ret) hy ?_ ?_
  · intro args s m h hn
    obtain ⟨m9, meth, c, hn9, h1, h2, h3, h4, -, h5, h6, -⟩ := Cond.codeWith_spec (atoms_spec (ws := ws) h _ (by rw [hw]; exact List.mem_cons_self))
    cases hn.symm.trans hn9
    exact ⟨meth, c, h1, h2, h3, h4, h5, h6⟩
  · intro p e s m args below meth c s₁ B hml hP _
    have hh0 : s₁.heap = s.heap := by rw [B.state]; rfl
    obtain ⟨t, a1, o, b1, b2, b3⟩ := body p e s m args below meth c s₁ B hml hP s₁ hh0 (Stand.of_body B)
    exact ⟨t, o, a1, b1, b2, b3⟩
/-! ===== END ===== -/
end
section
/-! names: classes, fields in the order of the slots, methods (by program out of the claim) -/
def K_R : String := "PixelSnapper$Row"
def F_R : u_T := fun k => match k with
  | 0 => ("PixelSnapper$Row", "most", "I", true)
  | 1 => ("PixelSnapper$Row", "cells", "[J", false)
  | _ => ("PixelSnapper$Row", "size", "I", false)
def t_R : Nat → FieldType := fun k => match k with
  | 0 => .int
  | 1 => .array .long
  | _ => .int
theorem n_R : ∀ a, a < 3 → ∀ b, b < 3 → a ≠ b → (F_R a).2.1 ≠ (F_R b).2.1 := by decide +kernel
theorem t_R_ok : ∀ k, k < 3 → parseFieldDescriptor (F_R k).2.2.1 = some (t_R k) := by decide +kernel
def K_S : String := "PixelSnapper$Segment"
def F_S : u_T := fun k => match k with
  | 0 => ("PixelSnapper$Segment", "fromX", "J", true)
  | 1 => ("PixelSnapper$Segment", "fromY", "J", true)
  | 2 => ("PixelSnapper$Segment", "toX", "J", true)
  | 3 => ("PixelSnapper$Segment", "toY", "J", true)
  | 4 => ("PixelSnapper$Segment", "wayX", "J", true)
  | 5 => ("PixelSnapper$Segment", "wayY", "J", true)
  | 6 => ("PixelSnapper$Segment", "leastX", "J", true)
  | 7 => ("PixelSnapper$Segment", "leastY", "J", true)
  | 8 => ("PixelSnapper$Segment", "mostX", "J", true)
  | _ => ("PixelSnapper$Segment", "mostY", "J", true)
def t_S : Nat → FieldType := fun k => match k with
  | 0 => .long
  | 1 => .long
  | 2 => .long
  | 3 => .long
  | 4 => .long
  | 5 => .long
  | 6 => .long
  | 7 => .long
  | 8 => .long
  | _ => .long
theorem n_S : ∀ a, a < 10 → ∀ b, b < 10 → a ≠ b → (F_S a).2.1 ≠ (F_S b).2.1 := by decide +kernel
theorem t_S_ok : ∀ k, k < 10 → parseFieldDescriptor (F_S k).2.2.1 = some (t_S k) := by decide +kernel
def K_P : String := "PixelSnapper"
def F_P : u_T := fun k => match k with
  | 0 => ("PixelSnapper", "segments", "Ljava/util/ArrayList;", true)
  | 1 => ("PixelSnapper", "hot", "LPixelSnapper$Row;", true)
  | 2 => ("PixelSnapper", "chainStarts", "LPixelSnapper$Row;", true)
  | 3 => ("PixelSnapper", "places", "LPixelSnapper$Row;", true)
  | 4 => ("PixelSnapper", "pieceKeys", "LPixelSnapper$Row;", true)
  | 5 => ("PixelSnapper", "pieceUses", "LPixelSnapper$Row;", true)
  | _ => ("PixelSnapper", "snapped", "Z", false)
def t_P : Nat → FieldType := fun k => match k with
  | 0 => .object "java/util/ArrayList"
  | 1 => .object "PixelSnapper$Row"
  | 2 => .object "PixelSnapper$Row"
  | 3 => .object "PixelSnapper$Row"
  | 4 => .object "PixelSnapper$Row"
  | 5 => .object "PixelSnapper$Row"
  | _ => .boolean
theorem n_P : ∀ a, a < 7 → ∀ b, b < 7 → a ≠ b → (F_P a).2.1 ≠ (F_P b).2.1 := by decide +kernel
theorem t_P_ok : ∀ k, k < 7 → parseFieldDescriptor (F_P k).2.2.1 = some (t_P k) := by decide +kernel
def K_M : String := "PixelSnapperModel"
def F_M : u_T := fun k => match k with
  | 0 => ("PixelSnapperModel", "thrown", "I", false)
  | 1 => ("PixelSnapperModel", "segments", "I", false)
  | 2 => ("PixelSnapperModel", "ends", "[I", true)
  | 3 => ("PixelSnapperModel", "snapped", "Z", false)
  | 4 => ("PixelSnapperModel", "hot", "I", false)
  | 5 => ("PixelSnapperModel", "hotX", "[I", true)
  | 6 => ("PixelSnapperModel", "hotY", "[I", true)
  | 7 => ("PixelSnapperModel", "begins", "[I", true)
  | 8 => ("PixelSnapperModel", "places", "[I", true)
  | 9 => ("PixelSnapperModel", "pieces", "I", false)
  | 10 => ("PixelSnapperModel", "lows", "[I", true)
  | 11 => ("PixelSnapperModel", "highs", "[I", true)
  | 12 => ("PixelSnapperModel", "often", "[I", true)
  | 13 => ("PixelSnapperModel", "crossX", "I", false)
  | 14 => ("PixelSnapperModel", "crossY", "I", false)
  | 15 => ("PixelSnapperModel", "fromOver", "J", false)
  | 16 => ("PixelSnapperModel", "fromUnder", "J", false)
  | 17 => ("PixelSnapperModel", "toOver", "J", false)
  | 18 => ("PixelSnapperModel", "toUnder", "J", false)
  | 19 => ("PixelSnapperModel", "fromIn", "Z", false)
  | 20 => ("PixelSnapperModel", "toIn", "Z", false)
  | 21 => ("PixelSnapperModel", "overs", "[J", true)
  | 22 => ("PixelSnapperModel", "unders", "[J", true)
  | _ => ("PixelSnapperModel", "closed", "[Z", true)
def t_M : Nat → FieldType := fun k => match k with
  | 0 => .int
  | 1 => .int
  | 2 => .array .int
  | 3 => .boolean
  | 4 => .int
  | 5 => .array .int
  | 6 => .array .int
  | 7 => .array .int
  | 8 => .array .int
  | 9 => .int
  | 10 => .array .int
  | 11 => .array .int
  | 12 => .array .int
  | 13 => .int
  | 14 => .int
  | 15 => .long
  | 16 => .long
  | 17 => .long
  | 18 => .long
  | 19 => .boolean
  | 20 => .boolean
  | 21 => .array .long
  | 22 => .array .long
  | _ => .array .boolean
theorem n_M : ∀ a, a < 24 → ∀ b, b < 24 → a ≠ b → (F_M a).2.1 ≠ (F_M b).2.1 := by decide +kernel
theorem t_M_ok : ∀ k, k < 24 → parseFieldDescriptor (F_M k).2.2.1 = some (t_M k) := by decide +kernel
def K_A : String := "java/util/ArrayList"
def F_A : u_T := fun k => match k with
  | 0 => ("java/util/ArrayList", "elementData", "[Ljava/lang/Object;", false)
  | 1 => ("java/util/ArrayList", "size", "I", false)
  | _ => ("java/util/AbstractList", "modCount", "I", false)
def t_A : Nat → FieldType := fun k => match k with
  | 0 => .array (.object "java/lang/Object")
  | 1 => .int
  | _ => .int
theorem n_A : ∀ a, a < 3 → ∀ b, b < 3 → a ≠ b → (F_A a).2.1 ≠ (F_A b).2.1 := by decide +kernel
theorem t_A_ok : ∀ k, k < 3 → parseFieldDescriptor (F_A k).2.2.1 = some (t_A k) := by decide +kernel
abbrev vwC : List vw_C := [(K_R, F_R, 3), (K_S, F_S, 10), (K_P, F_P, 7), (K_M, F_M, 24), (K_A, F_A, 3)]
def y_A_add_Object : MethodName := ⟨"java/util/ArrayList", "add", "(Ljava/lang/Object;)Z"⟩
abbrev c_A_add_Object : ByteArray := prog_21_method_25_code
def y_A_add_ObjectaObjectI : MethodName := ⟨"java/util/ArrayList", "add", "(Ljava/lang/Object;[Ljava/lang/Object;I)V"⟩
abbrev c_A_add_ObjectaObjectI : ByteArray := prog_21_method_24_code
def y_A_clear : MethodName := ⟨"java/util/ArrayList", "clear", "()V"⟩
abbrev c_A_clear : ByteArray := prog_21_method_40_code
def y_A_elementData : MethodName := ⟨"java/util/ArrayList", "elementData", "(I)Ljava/lang/Object;"⟩
abbrev c_A_elementData : ByteArray := prog_21_method_18_code
def y_A_get : MethodName := ⟨"java/util/ArrayList", "get", "(I)Ljava/lang/Object;"⟩
abbrev c_A_get : ByteArray := prog_21_method_20_code
def y_A_grow_0 : MethodName := ⟨"java/util/ArrayList", "grow", "()[Ljava/lang/Object;"⟩
abbrev c_A_grow_0 : ByteArray := prog_21_method_7_code
def y_A_grow_I : MethodName := ⟨"java/util/ArrayList", "grow", "(I)[Ljava/lang/Object;"⟩
abbrev c_A_grow_I : ByteArray := prog_21_method_6_code
def y_A_init : MethodName := ⟨"java/util/ArrayList", "<init>", "()V"⟩
abbrev c_A_init : ByteArray := prog_21_method_2_code
def y_A_size : MethodName := ⟨"java/util/ArrayList", "size", "()I"⟩
abbrev c_A_size : ByteArray := prog_21_method_8_code
def y_B_init : MethodName := ⟨"java/util/AbstractList", "<init>", "()V"⟩
abbrev c_B_init : ByteArray := prog_20_method_1_code
def y_C_init : MethodName := ⟨"java/util/AbstractCollection", "<init>", "()V"⟩
abbrev c_C_init : ByteArray := prog_19_method_1_code
def y_EA_init : MethodName := ⟨"java/lang/IllegalArgumentException", "<init>", "(Ljava/lang/String;)V"⟩
abbrev c_EA_init : ByteArray := prog_9_method_2_code
def y_EI_init : MethodName := ⟨"java/lang/IndexOutOfBoundsException", "<init>", "(Ljava/lang/String;)V"⟩
abbrev c_EI_init : ByteArray := prog_11_method_2_code
def y_ES_init : MethodName := ⟨"java/lang/IllegalStateException", "<init>", "(Ljava/lang/String;)V"⟩
abbrev c_ES_init : ByteArray := prog_10_method_2_code
def y_EU_init : MethodName := ⟨"java/lang/UnsupportedOperationException", "<init>", "(Ljava/lang/String;)V"⟩
abbrev c_EU_init : ByteArray := prog_18_method_2_code
def y_E_init : MethodName := ⟨"java/lang/RuntimeException", "<init>", "(Ljava/lang/String;)V"⟩
abbrev c_E_init : ByteArray := prog_14_method_2_code
def y_H_abs : MethodName := ⟨"java/lang/Math", "abs", "(J)J"⟩
abbrev c_H_abs : ByteArray := prog_13_method_61_code
def y_H_max_II : MethodName := ⟨"java/lang/Math", "max", "(II)I"⟩
abbrev c_H_max_II : ByteArray := prog_13_method_65_code
def y_H_max_JJ : MethodName := ⟨"java/lang/Math", "max", "(JJ)J"⟩
abbrev c_H_max_JJ : ByteArray := prog_13_method_66_code
def y_H_min_II : MethodName := ⟨"java/lang/Math", "min", "(II)I"⟩
abbrev c_H_min_II : ByteArray := prog_13_method_69_code
def y_H_min_JJ : MethodName := ⟨"java/lang/Math", "min", "(JJ)J"⟩
abbrev c_H_min_JJ : ByteArray := prog_13_method_70_code
def y_J_clone : MethodName := ⟨"java/lang/Object", "clone", "()Ljava/lang/Object;"⟩
def y_J_getClass : MethodName := ⟨"java/lang/Object", "getClass", "()Ljava/lang/Class;"⟩
def y_J_init : MethodName := ⟨"java/lang/Object", "<init>", "()V"⟩
abbrev c_J_init : ByteArray := object_method_1_code
def y_L_chain : MethodName := ⟨"PixelSnapperLaw", "chain", "(LPixelSnapper;I[J)I"⟩
abbrev c_L_chain : ByteArray := method_8_code
def y_L_chainAt : MethodName := ⟨"PixelSnapperLaw", "chainAt", "(LPixelSnapper;II[J)I"⟩
abbrev c_L_chainAt : ByteArray := method_9_code
def y_L_crossing : MethodName := ⟨"PixelSnapperLaw", "crossing", "(LPixelSnapper;III[J)I"⟩
abbrev c_L_crossing : ByteArray := method_6_code
def y_L_meets : MethodName := ⟨"PixelSnapperLaw", "meets", "(LPixelSnapper;III[J)I"⟩
abbrev c_L_meets : ByteArray := method_5_code
def y_L_piece : MethodName := ⟨"PixelSnapperLaw", "piece", "(LPixelSnapper;II[J)I"⟩
abbrev c_L_piece : ByteArray := method_10_code
def y_L_pixel : MethodName := ⟨"PixelSnapperLaw", "pixel", "(LPixelSnapper;II[J)I"⟩
abbrev c_L_pixel : ByteArray := method_7_code
def y_L_segment : MethodName := ⟨"PixelSnapperLaw", "segment", "(LPixelSnapper;IIII[J)I"⟩
abbrev c_L_segment : ByteArray := method_3_code
def y_L_snap : MethodName := ⟨"PixelSnapperLaw", "snap", "(LPixelSnapper;[J)I"⟩
abbrev c_L_snap : ByteArray := method_4_code
def y_M_along : MethodName := ⟨"PixelSnapperModel", "along", "(JJJ)Z"⟩
abbrev c_M_along : ByteArray := prog_5_method_13_code
def y_M_chain : MethodName := ⟨"PixelSnapperModel", "chain", "(I)I"⟩
abbrev c_M_chain : ByteArray := prog_5_method_28_code
def y_M_chainAll : MethodName := ⟨"PixelSnapperModel", "chainAll", "()Z"⟩
abbrev c_M_chainAll : ByteArray := prog_5_method_24_code
def y_M_chainAt : MethodName := ⟨"PixelSnapperModel", "chainAt", "(II)I"⟩
abbrev c_M_chainAt : ByteArray := prog_5_method_29_code
def y_M_clear : MethodName := ⟨"PixelSnapperModel", "clear", "()I"⟩
abbrev c_M_clear : ByteArray := prog_5_method_9_code
def y_M_compare : MethodName := ⟨"PixelSnapperModel", "compare", "(JJJJ)I"⟩
abbrev c_M_compare : ByteArray := prog_5_method_10_code
def y_M_count : MethodName := ⟨"PixelSnapperModel", "count", "(I)I"⟩
abbrev c_M_count : ByteArray := prog_5_method_31_code
def y_M_cross : MethodName := ⟨"PixelSnapperModel", "cross", "(II)Z"⟩
abbrev c_M_cross : ByteArray := prog_5_method_18_code
def y_M_crossing : MethodName := ⟨"PixelSnapperModel", "crossing", "(III)I"⟩
abbrev c_M_crossing : ByteArray := prog_5_method_19_code
def y_M_end : MethodName := ⟨"PixelSnapperModel", "end", "(II)J"⟩
abbrev c_M_end : ByteArray := prog_5_method_16_code
def y_M_fail : MethodName := ⟨"PixelSnapperModel", "fail", "(I)I"⟩
abbrev c_M_fail : ByteArray := prog_5_method_3_code
def y_M_forget : MethodName := ⟨"PixelSnapperModel", "forget", "()V"⟩
abbrev c_M_forget : ByteArray := prog_5_method_7_code
def y_M_gather : MethodName := ⟨"PixelSnapperModel", "gather", "(II)V"⟩
abbrev c_M_gather : ByteArray := prog_5_method_25_code
def y_M_heat : MethodName := ⟨"PixelSnapperModel", "heat", "(II)Z"⟩
abbrev c_M_heat : ByteArray := prog_5_method_21_code
def y_M_heatAll : MethodName := ⟨"PixelSnapperModel", "heatAll", "()Z"⟩
abbrev c_M_heatAll : ByteArray := prog_5_method_22_code
def y_M_init : MethodName := ⟨"PixelSnapperModel", "<init>", "()V"⟩
abbrev c_M_init : ByteArray := prog_5_method_1_code
def y_M_insert : MethodName := ⟨"PixelSnapperModel", "insert", "(III)V"⟩
abbrev c_M_insert : ByteArray := prog_5_method_23_code
def y_M_isBefore : MethodName := ⟨"PixelSnapperModel", "isBefore", "(III)Z"⟩
abbrev c_M_isBefore : ByteArray := prog_5_method_20_code
def y_M_isFar : MethodName := ⟨"PixelSnapperModel", "isFar", "(I)Z"⟩
abbrev c_M_isFar : ByteArray := prog_5_method_5_code
def y_M_isIn : MethodName := ⟨"PixelSnapperModel", "isIn", "(III)Z"⟩
abbrev c_M_isIn : ByteArray := prog_5_method_14_code
def y_M_isSegment : MethodName := ⟨"PixelSnapperModel", "isSegment", "(I)Z"⟩
abbrev c_M_isSegment : ByteArray := prog_5_method_6_code
def y_M_meets : MethodName := ⟨"PixelSnapperModel", "meets", "(III)Z"⟩
abbrev c_M_meets : ByteArray := prog_5_method_15_code
def y_M_piece : MethodName := ⟨"PixelSnapperModel", "piece", "(II)I"⟩
abbrev c_M_piece : ByteArray := prog_5_method_30_code
def y_M_pixel : MethodName := ⟨"PixelSnapperModel", "pixel", "(II)I"⟩
abbrev c_M_pixel : ByteArray := prog_5_method_27_code
def y_M_raise : MethodName := ⟨"PixelSnapperModel", "raise", "(JJZ)V"⟩
abbrev c_M_raise : ByteArray := prog_5_method_11_code
def y_M_reduce : MethodName := ⟨"PixelSnapperModel", "reduce", "(JJZ)V"⟩
abbrev c_M_reduce : ByteArray := prog_5_method_12_code
def y_M_rounded : MethodName := ⟨"PixelSnapperModel", "rounded", "(JJJ)J"⟩
abbrev c_M_rounded : ByteArray := prog_5_method_17_code
def y_M_segment : MethodName := ⟨"PixelSnapperModel", "segment", "(IIII)I"⟩
abbrev c_M_segment : ByteArray := prog_5_method_8_code
def y_M_snap : MethodName := ⟨"PixelSnapperModel", "snap", "()I"⟩
abbrev c_M_snap : ByteArray := prog_5_method_26_code
def y_M_thrown : MethodName := ⟨"PixelSnapperModel", "thrown", "()I"⟩
abbrev c_M_thrown : ByteArray := prog_5_method_2_code
def y_M_within : MethodName := ⟨"PixelSnapperModel", "within", "(III)Z"⟩
abbrev c_M_within : ByteArray := prog_5_method_4_code
def y_O_checkIndex : MethodName := ⟨"java/util/Objects", "checkIndex", "(II)I"⟩
abbrev c_O_checkIndex : ByteArray := prog_25_method_17_code
def y_P_addPlaces : MethodName := ⟨"PixelSnapper", "addPlaces", "(LPixelSnapper$Segment;)Z"⟩
abbrev c_P_addPlaces : ByteArray := prog_1_method_26_code
def y_P_chain : MethodName := ⟨"PixelSnapper", "chain", "(I)I"⟩
abbrev c_P_chain : ByteArray := prog_1_method_8_code
def y_P_chainAt : MethodName := ⟨"PixelSnapper", "chainAt", "(II)I"⟩
abbrev c_P_chainAt : ByteArray := prog_1_method_9_code
def y_P_chainStart : MethodName := ⟨"PixelSnapper", "chainStart", "(I)I"⟩
abbrev c_P_chainStart : ByteArray := prog_1_method_19_code
def y_P_clear : MethodName := ⟨"PixelSnapper", "clear", "()I"⟩
abbrev c_P_clear : ByteArray := prog_1_method_3_code
def y_P_count : MethodName := ⟨"PixelSnapper", "count", "(I)I"⟩
abbrev c_P_count : ByteArray := prog_1_method_11_code
def y_P_crossing : MethodName := ⟨"PixelSnapper", "crossing", "(III)I"⟩
abbrev c_P_crossing : ByteArray := prog_1_method_6_code
def y_P_findChains : MethodName := ⟨"PixelSnapper", "findChains", "()Z"⟩
abbrev c_P_findChains : ByteArray := prog_1_method_25_code
def y_P_findHot : MethodName := ⟨"PixelSnapper", "findHot", "()Z"⟩
abbrev c_P_findHot : ByteArray := prog_1_method_21_code
def y_P_findPieces : MethodName := ⟨"PixelSnapper", "findPieces", "()V"⟩
abbrev c_P_findPieces : ByteArray := prog_1_method_30_code
def y_P_forgetSnap : MethodName := ⟨"PixelSnapper", "forgetSnap", "()V"⟩
abbrev c_P_forgetSnap : ByteArray := prog_1_method_20_code
def y_P_hasSegment : MethodName := ⟨"PixelSnapper", "hasSegment", "(I)Z"⟩
abbrev c_P_hasSegment : ByteArray := prog_1_method_18_code
def y_P_heat : MethodName := ⟨"PixelSnapper", "heat", "(J)Z"⟩
abbrev c_P_heat : ByteArray := prog_1_method_23_code
def y_P_heatCrossings : MethodName := ⟨"PixelSnapper", "heatCrossings", "(LPixelSnapper$Segment;I)Z"⟩
abbrev c_P_heatCrossings : ByteArray := prog_1_method_22_code
def y_P_inReach : MethodName := ⟨"PixelSnapper", "inReach", "(I)Z"⟩
abbrev c_P_inReach : ByteArray := prog_1_method_12_code
def y_P_init : MethodName := ⟨"PixelSnapper", "<init>", "()V"⟩
abbrev c_P_init : ByteArray := prog_1_method_1_code
def y_P_isXOrY : MethodName := ⟨"PixelSnapper", "isXOrY", "(I)Z"⟩
abbrev c_P_isXOrY : ByteArray := prog_1_method_13_code
def y_P_keyOf : MethodName := ⟨"PixelSnapper", "keyOf", "(JJ)J"⟩
abbrev c_P_keyOf : ByteArray := prog_1_method_14_code
def y_P_keyPart : MethodName := ⟨"PixelSnapper", "keyPart", "(JI)I"⟩
abbrev c_P_keyPart : ByteArray := prog_1_method_17_code
def y_P_keyX : MethodName := ⟨"PixelSnapper", "keyX", "(J)J"⟩
abbrev c_P_keyX : ByteArray := prog_1_method_15_code
def y_P_keyY : MethodName := ⟨"PixelSnapper", "keyY", "(J)J"⟩
abbrev c_P_keyY : ByteArray := prog_1_method_16_code
def y_P_meets : MethodName := ⟨"PixelSnapper", "meets", "(III)Z"⟩
abbrev c_P_meets : ByteArray := prog_1_method_5_code
def y_P_mergeHot : MethodName := ⟨"PixelSnapper", "mergeHot", "()Z"⟩
abbrev c_P_mergeHot : ByteArray := prog_1_method_24_code
def y_P_orderPlaces : MethodName := ⟨"PixelSnapper", "orderPlaces", "(LPixelSnapper$Segment;I)V"⟩
abbrev c_P_orderPlaces : ByteArray := prog_1_method_27_code
def y_P_piece : MethodName := ⟨"PixelSnapper", "piece", "(II)I"⟩
abbrev c_P_piece : ByteArray := prog_1_method_10_code
def y_P_pixel : MethodName := ⟨"PixelSnapper", "pixel", "(II)I"⟩
abbrev c_P_pixel : ByteArray := prog_1_method_7_code
def y_P_placeX : MethodName := ⟨"PixelSnapper", "placeX", "(I)J"⟩
abbrev c_P_placeX : ByteArray := prog_1_method_29_code
def y_P_segment : MethodName := ⟨"PixelSnapper", "segment", "(IIII)I"⟩
abbrev c_P_segment : ByteArray := prog_1_method_2_code
def y_P_snap : MethodName := ⟨"PixelSnapper", "snap", "()I"⟩
abbrev c_P_snap : ByteArray := prog_1_method_4_code
def y_P_turnColumnsRound : MethodName := ⟨"PixelSnapper", "turnColumnsRound", "(I)V"⟩
abbrev c_P_turnColumnsRound : ByteArray := prog_1_method_28_code
def y_Q_checkIndex : MethodName := ⟨"jdk/internal/util/Preconditions", "checkIndex", "(IILjava/util/function/BiFunction;)I"⟩
abbrev c_Q_checkIndex : ByteArray := prog_29_method_11_code
def y_R_add : MethodName := ⟨"PixelSnapper$Row", "add", "(J)Z"⟩
abbrev c_R_add : ByteArray := prog_2_method_7_code
def y_R_at : MethodName := ⟨"PixelSnapper$Row", "at", "(I)J"⟩
abbrev c_R_at : ByteArray := prog_2_method_5_code
def y_R_countEqual : MethodName := ⟨"PixelSnapper$Row", "countEqual", "(LPixelSnapper$Row;)V"⟩
abbrev c_R_countEqual : ByteArray := prog_2_method_12_code
def y_R_drop : MethodName := ⟨"PixelSnapper$Row", "drop", "()V"⟩
abbrev c_R_drop : ByteArray := prog_2_method_6_code
def y_R_firstFrom : MethodName := ⟨"PixelSnapper$Row", "firstFrom", "(J)I"⟩
abbrev c_R_firstFrom : ByteArray := prog_2_method_8_code
def y_R_has : MethodName := ⟨"PixelSnapper$Row", "has", "(I)Z"⟩
abbrev c_R_has : ByteArray := prog_2_method_3_code
def y_R_init : MethodName := ⟨"PixelSnapper$Row", "<init>", "(I)V"⟩
abbrev c_R_init : ByteArray := prog_2_method_1_code
def y_R_isFull : MethodName := ⟨"PixelSnapper$Row", "isFull", "()Z"⟩
abbrev c_R_isFull : ByteArray := prog_2_method_4_code
def y_R_keepDistinct : MethodName := ⟨"PixelSnapper$Row", "keepDistinct", "()V"⟩
abbrev c_R_keepDistinct : ByteArray := prog_2_method_13_code
def y_R_sink : MethodName := ⟨"PixelSnapper$Row", "sink", "(JII)V"⟩
abbrev c_R_sink : ByteArray := prog_2_method_11_code
def y_R_size : MethodName := ⟨"PixelSnapper$Row", "size", "()I"⟩
abbrev c_R_size : ByteArray := prog_2_method_2_code
def y_R_sort : MethodName := ⟨"PixelSnapper$Row", "sort", "()V"⟩
abbrev c_R_sort : ByteArray := prog_2_method_10_code
def y_R_turnRound : MethodName := ⟨"PixelSnapper$Row", "turnRound", "(II)V"⟩
abbrev c_R_turnRound : ByteArray := prog_2_method_9_code
def y_S_crosses : MethodName := ⟨"PixelSnapper$Segment", "crosses", "(LPixelSnapper$Segment;)Z"⟩
abbrev c_S_crosses : ByteArray := prog_3_method_11_code
def y_S_crossingKey : MethodName := ⟨"PixelSnapper$Segment", "crossingKey", "(LPixelSnapper$Segment;)J"⟩
abbrev c_S_crossingKey : ByteArray := prog_3_method_13_code
def y_S_enters : MethodName := ⟨"PixelSnapper$Segment", "enters", "(JJ)Z"⟩
abbrev c_S_enters : ByteArray := prog_3_method_8_code
def y_S_fromKey : MethodName := ⟨"PixelSnapper$Segment", "fromKey", "()J"⟩
abbrev c_S_fromKey : ByteArray := prog_3_method_2_code
def y_S_goesDown : MethodName := ⟨"PixelSnapper$Segment", "goesDown", "()Z"⟩
abbrev c_S_goesDown : ByteArray := prog_3_method_7_code
def y_S_goesLeft : MethodName := ⟨"PixelSnapper$Segment", "goesLeft", "()Z"⟩
abbrev c_S_goesLeft : ByteArray := prog_3_method_6_code
def y_S_init : MethodName := ⟨"PixelSnapper$Segment", "<init>", "(IIII)V"⟩
abbrev c_S_init : ByteArray := prog_3_method_1_code
def y_S_leastKey : MethodName := ⟨"PixelSnapper$Segment", "leastKey", "()J"⟩
abbrev c_S_leastKey : ByteArray := prog_3_method_4_code
def y_S_lineEnters : MethodName := ⟨"PixelSnapper$Segment", "lineEnters", "(JJ)Z"⟩
abbrev c_S_lineEnters : ByteArray := prog_3_method_9_code
def y_S_mostKey : MethodName := ⟨"PixelSnapper$Segment", "mostKey", "()J"⟩
abbrev c_S_mostKey : ByteArray := prog_3_method_5_code
def y_S_parts : MethodName := ⟨"PixelSnapper$Segment", "parts", "(LPixelSnapper$Segment;)Z"⟩
abbrev c_S_parts : ByteArray := prog_3_method_12_code
def y_S_roundedPart : MethodName := ⟨"PixelSnapper$Segment", "roundedPart", "(JJJ)J"⟩
abbrev c_S_roundedPart : ByteArray := prog_3_method_14_code
def y_S_sideOf : MethodName := ⟨"PixelSnapper$Segment", "sideOf", "(JJ)J"⟩
abbrev c_S_sideOf : ByteArray := prog_3_method_10_code
def y_S_toKey : MethodName := ⟨"PixelSnapper$Segment", "toKey", "()J"⟩
abbrev c_S_toKey : ByteArray := prog_3_method_3_code
def y_T_fillInStackTrace_0 : MethodName := ⟨"java/lang/Throwable", "fillInStackTrace", "()Ljava/lang/Throwable;"⟩
abbrev c_T_fillInStackTrace_0 : ByteArray := prog_17_method_18_code
def y_T_fillInStackTrace_I : MethodName := ⟨"java/lang/Throwable", "fillInStackTrace", "(I)Ljava/lang/Throwable;"⟩
def y_T_init_0 : MethodName := ⟨"java/lang/Throwable", "<init>", "()V"⟩
abbrev c_T_init_0 : ByteArray := prog_17_method_1_code
def y_T_init_String : MethodName := ⟨"java/lang/Throwable", "<init>", "(Ljava/lang/String;)V"⟩
abbrev c_T_init_String : ByteArray := prog_17_method_2_code
def y_U_hugeLength : MethodName := ⟨"jdk/internal/util/ArraysSupport", "hugeLength", "(II)I"⟩
abbrev c_U_hugeLength : ByteArray := prog_28_method_28_code
def y_U_newLength : MethodName := ⟨"jdk/internal/util/ArraysSupport", "newLength", "(III)I"⟩
abbrev c_U_newLength : ByteArray := prog_28_method_27_code
def y_X_init : MethodName := ⟨"java/lang/Exception", "<init>", "(Ljava/lang/String;)V"⟩
abbrev c_X_init : ByteArray := prog_8_method_2_code
def y_Y_copyOf_aJI : MethodName := ⟨"java/util/Arrays", "copyOf", "([JI)[J"⟩
abbrev c_Y_copyOf_aJI : ByteArray := prog_22_method_124_code
def y_Y_copyOf_aObjectI : MethodName := ⟨"java/util/Arrays", "copyOf", "([Ljava/lang/Object;I)[Ljava/lang/Object;"⟩
abbrev c_Y_copyOf_aObjectI : ByteArray := prog_22_method_119_code
def y_Y_copyOf_aObjectIClass : MethodName := ⟨"java/util/Arrays", "copyOf", "([Ljava/lang/Object;ILjava/lang/Class;)[Ljava/lang/Object;"⟩
abbrev c_Y_copyOf_aObjectIClass : ByteArray := prog_22_method_120_code
def y_Z_arraycopy : MethodName := ⟨"java/lang/System", "arraycopy", "(Ljava/lang/Object;ILjava/lang/Object;II)V"⟩
/-- the words that hold at every state of a launch, of all that the tables say -/
def gw : List Cond := lw_tbl.filter goodWord
theorem gw_in {w : Cond} (h : w ∈ lw_tbl) (hg : goodWord w = true) : w ∈ gw := List.mem_filter.mpr ⟨h, hg⟩
theorem gw_good {w : Cond} (h : w ∈ gw) : (w.onTables && w.keeps) = true ∨ ∃ ty, w = .arrayClass ty := good_of_word (List.mem_filter.mp h).2
theorem gw_gi {c1 c2 : Cond} (h : c2 ∈ gw) : GoodIn (c1 :: gw) (c2 :: gw) := by
  intro w hw
  rcases List.mem_cons.mp hw with rfl | hw
  · exact ⟨List.mem_cons_of_mem _ h, gw_good h⟩
  · exact ⟨List.mem_cons_of_mem _ hw, gw_good hw⟩
theorem gw_gp {c1 c2 : Cond} {pre : List Cond} (hp : ∀ w ∈ pre, w ∈ gw) (h : c2 ∈ gw) : GoodIn (c1 :: gw) (pre ++ c2 :: gw) := by
  intro w hw
  rcases List.mem_append.mp hw with hw | hw
  · exact ⟨List.mem_cons_of_mem _ (hp w hw), gw_good (hp w hw)⟩
  · exact gw_gi h w hw
theorem gw_gv {c1 : Cond} {own C : String} {idx n : Nat} {y : MethodName} {b : ByteArray} {r : Option FieldType} (h1 : Cond.methodLink own idx y ∈ gw) (h2 : Cond.instanceMethod y ∈ gw) (h3 : Cond.selects C y y ∈ gw) (h4 : Cond.initialized C ∈ gw) (h5 : Cond.code y b n r ∈ gw) : GoodIn (c1 :: gw) (wsV own idx C y (.code y b n r :: gw)) := by
  refine gw_gp (pre := [.methodLink own idx y, .instanceMethod y, .selects C y y, .initialized C]) ?_ h5
  intro w hw
  simp only [List.mem_cons, List.not_mem_nil, or_false] at hw
  rcases hw with rfl | rfl | rfl | rfl <;> assumption
theorem gw_gs {c1 : Cond} {own : String} {idx n : Nat} {y : MethodName} {b : ByteArray} {r : Option FieldType} (h1 : Cond.methodLink own idx y ∈ gw) (h2 : Cond.static y ∈ gw) (h4 : Cond.initialized y.cls ∈ gw) (h5 : Cond.code y b n r ∈ gw) : GoodIn (c1 :: gw) (va_wsS own idx y (.code y b n r :: gw)) := by
  refine gw_gp (pre := [.methodLink own idx y, .static y, .initialized y.cls]) ?_ h5
  intro w hw
  simp only [List.mem_cons, List.not_mem_nil, or_false] at hw
  rcases hw with rfl | rfl | rfl <;> assumption

theorem wd_0 : (.selects "PixelSnapper" y_P_forgetSnap y_P_forgetSnap : Cond) ∈ gw := gw_in (List.mem_of_getElem? (i := 0) (by decide +kernel)) (by decide +kernel)
theorem wd_1 : (.selects "java/lang/Throwable" y_T_fillInStackTrace_I y_T_fillInStackTrace_I : Cond) ∈ gw := gw_in (List.mem_of_getElem? (i := 1) (by decide +kernel)) (by decide +kernel)
theorem wd_2 : (.selects "java/util/ArrayList" y_A_add_ObjectaObjectI y_A_add_ObjectaObjectI : Cond) ∈ gw := gw_in (List.mem_of_getElem? (i := 2) (by decide +kernel)) (by decide +kernel)
theorem wd_3 : (.selects "java/util/ArrayList" y_A_grow_0 y_A_grow_0 : Cond) ∈ gw := gw_in (List.mem_of_getElem? (i := 3) (by decide +kernel)) (by decide +kernel)
theorem wd_4 : (.selects "java/util/ArrayList" y_A_grow_I y_A_grow_I : Cond) ∈ gw := gw_in (List.mem_of_getElem? (i := 4) (by decide +kernel)) (by decide +kernel)
theorem wd_5 : (.selects "PixelSnapper" y_P_findHot y_P_findHot : Cond) ∈ gw := gw_in (List.mem_of_getElem? (i := 5) (by decide +kernel)) (by decide +kernel)
theorem wd_6 : (.selects "PixelSnapper" y_P_heat y_P_heat : Cond) ∈ gw := gw_in (List.mem_of_getElem? (i := 6) (by decide +kernel)) (by decide +kernel)
theorem wd_7 : (.selects "PixelSnapper" y_P_mergeHot y_P_mergeHot : Cond) ∈ gw := gw_in (List.mem_of_getElem? (i := 7) (by decide +kernel)) (by decide +kernel)
theorem wd_8 : (.selects "PixelSnapper$Row" y_R_sink y_R_sink : Cond) ∈ gw := gw_in (List.mem_of_getElem? (i := 8) (by decide +kernel)) (by decide +kernel)
theorem wd_9 : (.selects "PixelSnapper" y_P_heatCrossings y_P_heatCrossings : Cond) ∈ gw := gw_in (List.mem_of_getElem? (i := 9) (by decide +kernel)) (by decide +kernel)
theorem wd_10 : (.selects "PixelSnapper$Segment" y_S_parts y_S_parts : Cond) ∈ gw := gw_in (List.mem_of_getElem? (i := 10) (by decide +kernel)) (by decide +kernel)
theorem wd_11 : (.selects "PixelSnapper$Segment" y_S_sideOf y_S_sideOf : Cond) ∈ gw := gw_in (List.mem_of_getElem? (i := 11) (by decide +kernel)) (by decide +kernel)
theorem wd_12 : (.selects "PixelSnapper" y_P_findChains y_P_findChains : Cond) ∈ gw := gw_in (List.mem_of_getElem? (i := 12) (by decide +kernel)) (by decide +kernel)
theorem wd_13 : (.selects "PixelSnapper" y_P_addPlaces y_P_addPlaces : Cond) ∈ gw := gw_in (List.mem_of_getElem? (i := 13) (by decide +kernel)) (by decide +kernel)
theorem wd_14 : (.selects "PixelSnapper$Segment" y_S_lineEnters y_S_lineEnters : Cond) ∈ gw := gw_in (List.mem_of_getElem? (i := 14) (by decide +kernel)) (by decide +kernel)
theorem wd_15 : (.selects "PixelSnapper" y_P_orderPlaces y_P_orderPlaces : Cond) ∈ gw := gw_in (List.mem_of_getElem? (i := 15) (by decide +kernel)) (by decide +kernel)
theorem wd_16 : (.selects "PixelSnapper" y_P_turnColumnsRound y_P_turnColumnsRound : Cond) ∈ gw := gw_in (List.mem_of_getElem? (i := 16) (by decide +kernel)) (by decide +kernel)
theorem wd_17 : (.selects "PixelSnapper" y_P_placeX y_P_placeX : Cond) ∈ gw := gw_in (List.mem_of_getElem? (i := 17) (by decide +kernel)) (by decide +kernel)
theorem wd_18 : (.selects "PixelSnapper" y_P_findPieces y_P_findPieces : Cond) ∈ gw := gw_in (List.mem_of_getElem? (i := 18) (by decide +kernel)) (by decide +kernel)
theorem wd_19 : (.selects "PixelSnapper" y_P_chainStart y_P_chainStart : Cond) ∈ gw := gw_in (List.mem_of_getElem? (i := 19) (by decide +kernel)) (by decide +kernel)
theorem wd_20 : (.selects "PixelSnapper" y_P_hasSegment y_P_hasSegment : Cond) ∈ gw := gw_in (List.mem_of_getElem? (i := 20) (by decide +kernel)) (by decide +kernel)
theorem wd_21 : (.selects "PixelSnapperModel" y_M_fail y_M_fail : Cond) ∈ gw := gw_in (List.mem_of_getElem? (i := 21) (by decide +kernel)) (by decide +kernel)
theorem wd_22 : (.selects "PixelSnapperModel" y_M_forget y_M_forget : Cond) ∈ gw := gw_in (List.mem_of_getElem? (i := 22) (by decide +kernel)) (by decide +kernel)
theorem wd_23 : (.selects "PixelSnapperModel" y_M_isSegment y_M_isSegment : Cond) ∈ gw := gw_in (List.mem_of_getElem? (i := 23) (by decide +kernel)) (by decide +kernel)
theorem wd_24 : (.selects "PixelSnapperModel" y_M_isIn y_M_isIn : Cond) ∈ gw := gw_in (List.mem_of_getElem? (i := 24) (by decide +kernel)) (by decide +kernel)
theorem wd_25 : (.selects "PixelSnapperModel" y_M_along y_M_along : Cond) ∈ gw := gw_in (List.mem_of_getElem? (i := 25) (by decide +kernel)) (by decide +kernel)
theorem wd_26 : (.selects "PixelSnapperModel" y_M_raise y_M_raise : Cond) ∈ gw := gw_in (List.mem_of_getElem? (i := 26) (by decide +kernel)) (by decide +kernel)
theorem wd_27 : (.selects "PixelSnapperModel" y_M_reduce y_M_reduce : Cond) ∈ gw := gw_in (List.mem_of_getElem? (i := 27) (by decide +kernel)) (by decide +kernel)
theorem wd_28 : (.selects "PixelSnapperModel" y_M_cross y_M_cross : Cond) ∈ gw := gw_in (List.mem_of_getElem? (i := 28) (by decide +kernel)) (by decide +kernel)
theorem wd_29 : (.selects "PixelSnapperModel" y_M_end y_M_end : Cond) ∈ gw := gw_in (List.mem_of_getElem? (i := 29) (by decide +kernel)) (by decide +kernel)
theorem wd_30 : (.selects "PixelSnapperModel" y_M_heatAll y_M_heatAll : Cond) ∈ gw := gw_in (List.mem_of_getElem? (i := 30) (by decide +kernel)) (by decide +kernel)
theorem wd_31 : (.selects "PixelSnapperModel" y_M_heat y_M_heat : Cond) ∈ gw := gw_in (List.mem_of_getElem? (i := 31) (by decide +kernel)) (by decide +kernel)
theorem wd_32 : (.selects "PixelSnapperModel" y_M_isBefore y_M_isBefore : Cond) ∈ gw := gw_in (List.mem_of_getElem? (i := 32) (by decide +kernel)) (by decide +kernel)
theorem wd_33 : (.selects "PixelSnapperModel" y_M_chainAll y_M_chainAll : Cond) ∈ gw := gw_in (List.mem_of_getElem? (i := 33) (by decide +kernel)) (by decide +kernel)
theorem wd_34 : (.selects "PixelSnapperModel" y_M_insert y_M_insert : Cond) ∈ gw := gw_in (List.mem_of_getElem? (i := 34) (by decide +kernel)) (by decide +kernel)
theorem wd_35 : (.selects "PixelSnapperModel" y_M_gather y_M_gather : Cond) ∈ gw := gw_in (List.mem_of_getElem? (i := 35) (by decide +kernel)) (by decide +kernel)
theorem wd_36 : (.initialized "PixelSnapperLaw" : Cond) ∈ gw := gw_in (List.mem_of_getElem? (i := 36) (by decide +kernel)) (by decide +kernel)
theorem wd_37 : (.initialized "PixelSnapper" : Cond) ∈ gw := gw_in (List.mem_of_getElem? (i := 37) (by decide +kernel)) (by decide +kernel)
theorem wd_38 : (.initialized "java/util/AbstractCollection" : Cond) ∈ gw := gw_in (List.mem_of_getElem? (i := 38) (by decide +kernel)) (by decide +kernel)
theorem wd_39 : (.initialized "java/util/AbstractList" : Cond) ∈ gw := gw_in (List.mem_of_getElem? (i := 39) (by decide +kernel)) (by decide +kernel)
theorem wd_40 : (.initialized "java/util/ArrayList" : Cond) ∈ gw := gw_in (List.mem_of_getElem? (i := 40) (by decide +kernel)) (by decide +kernel)
theorem wd_41 : (.initialized "PixelSnapper$Row" : Cond) ∈ gw := gw_in (List.mem_of_getElem? (i := 41) (by decide +kernel)) (by decide +kernel)
theorem wd_42 : (.initialized "PixelSnapperModel" : Cond) ∈ gw := gw_in (List.mem_of_getElem? (i := 42) (by decide +kernel)) (by decide +kernel)
theorem wd_43 : (.initialized "java/lang/Throwable" : Cond) ∈ gw := gw_in (List.mem_of_getElem? (i := 43) (by decide +kernel)) (by decide +kernel)
theorem wd_44 : (.initialized "java/lang/Exception" : Cond) ∈ gw := gw_in (List.mem_of_getElem? (i := 44) (by decide +kernel)) (by decide +kernel)
theorem wd_45 : (.initialized "java/lang/RuntimeException" : Cond) ∈ gw := gw_in (List.mem_of_getElem? (i := 45) (by decide +kernel)) (by decide +kernel)
theorem wd_46 : (.initialized "java/lang/IllegalArgumentException" : Cond) ∈ gw := gw_in (List.mem_of_getElem? (i := 46) (by decide +kernel)) (by decide +kernel)
theorem wd_47 : (.initialized "java/lang/IllegalStateException" : Cond) ∈ gw := gw_in (List.mem_of_getElem? (i := 47) (by decide +kernel)) (by decide +kernel)
theorem wd_48 : (.initialized "PixelSnapper$Segment" : Cond) ∈ gw := gw_in (List.mem_of_getElem? (i := 48) (by decide +kernel)) (by decide +kernel)
theorem wd_49 : (.initialized "java/lang/Math" : Cond) ∈ gw := gw_in (List.mem_of_getElem? (i := 49) (by decide +kernel)) (by decide +kernel)
theorem wd_50 : (.initialized "jdk/internal/util/ArraysSupport" : Cond) ∈ gw := gw_in (List.mem_of_getElem? (i := 50) (by decide +kernel)) (by decide +kernel)
theorem wd_51 : (.initialized "java/util/Arrays" : Cond) ∈ gw := gw_in (List.mem_of_getElem? (i := 51) (by decide +kernel)) (by decide +kernel)
theorem wd_52 : (.initialized "java/lang/System" : Cond) ∈ gw := gw_in (List.mem_of_getElem? (i := 52) (by decide +kernel)) (by decide +kernel)
theorem wd_53 : (.initialized "java/util/Objects" : Cond) ∈ gw := gw_in (List.mem_of_getElem? (i := 53) (by decide +kernel)) (by decide +kernel)
theorem wd_54 : (.initialized "jdk/internal/util/Preconditions" : Cond) ∈ gw := gw_in (List.mem_of_getElem? (i := 54) (by decide +kernel)) (by decide +kernel)
theorem wd_55 : (.initialized "java/lang/UnsupportedOperationException" : Cond) ∈ gw := gw_in (List.mem_of_getElem? (i := 55) (by decide +kernel)) (by decide +kernel)
theorem wd_56 : (.initialized "java/lang/IndexOutOfBoundsException" : Cond) ∈ gw := gw_in (List.mem_of_getElem? (i := 56) (by decide +kernel)) (by decide +kernel)
theorem wd_57 : (.classLink "PixelSnapperLaw" 8 "PixelSnapper" : Cond) ∈ gw := gw_in (List.mem_of_getElem? (i := 57) (by decide +kernel)) (by decide +kernel)
theorem wd_58 : (.instantiable "PixelSnapper" 7 : Cond) ∈ gw := gw_in (List.mem_of_getElem? (i := 58) (by decide +kernel)) (by decide +kernel)
theorem wd_59 : (.methodLink "PixelSnapperLaw" 47 y_P_init : Cond) ∈ gw := gw_in (List.mem_of_getElem? (i := 59) (by decide +kernel)) (by decide +kernel)
theorem wd_60 : (.instanceMethod y_P_init : Cond) ∈ gw := gw_in (List.mem_of_getElem? (i := 60) (by decide +kernel)) (by decide +kernel)
theorem wd_61 : (.code y_P_init c_P_init 1 none : Cond) ∈ gw := gw_in (List.mem_of_getElem? (i := 61) (by decide +kernel)) (by decide +kernel)
theorem wd_62 : (.methodLink "PixelSnapper" 3 y_J_init : Cond) ∈ gw := gw_in (List.mem_of_getElem? (i := 62) (by decide +kernel)) (by decide +kernel)
theorem wd_63 : (.instanceMethod y_J_init : Cond) ∈ gw := gw_in (List.mem_of_getElem? (i := 63) (by decide +kernel)) (by decide +kernel)
theorem wd_64 : (.code y_J_init c_J_init 1 none : Cond) ∈ gw := gw_in (List.mem_of_getElem? (i := 64) (by decide +kernel)) (by decide +kernel)
theorem wd_65 : (.classLink "PixelSnapper" 9 "java/util/ArrayList" : Cond) ∈ gw := gw_in (List.mem_of_getElem? (i := 65) (by decide +kernel)) (by decide +kernel)
theorem wd_66 : (.instantiable "java/util/ArrayList" 3 : Cond) ∈ gw := gw_in (List.mem_of_getElem? (i := 66) (by decide +kernel)) (by decide +kernel)
theorem wd_67 : (.methodLink "PixelSnapper" 11 y_A_init : Cond) ∈ gw := gw_in (List.mem_of_getElem? (i := 67) (by decide +kernel)) (by decide +kernel)
theorem wd_68 : (.instanceMethod y_A_init : Cond) ∈ gw := gw_in (List.mem_of_getElem? (i := 68) (by decide +kernel)) (by decide +kernel)
theorem wd_69 : (.code y_A_init c_A_init 1 none : Cond) ∈ gw := gw_in (List.mem_of_getElem? (i := 69) (by decide +kernel)) (by decide +kernel)
theorem wd_70 : (.methodLink "java/util/ArrayList" 1 y_B_init : Cond) ∈ gw := gw_in (List.mem_of_getElem? (i := 70) (by decide +kernel)) (by decide +kernel)
theorem wd_71 : (.instanceMethod y_B_init : Cond) ∈ gw := gw_in (List.mem_of_getElem? (i := 71) (by decide +kernel)) (by decide +kernel)
theorem wd_72 : (.code y_B_init c_B_init 1 none : Cond) ∈ gw := gw_in (List.mem_of_getElem? (i := 72) (by decide +kernel)) (by decide +kernel)
theorem wd_73 : (.methodLink "java/util/AbstractList" 1 y_C_init : Cond) ∈ gw := gw_in (List.mem_of_getElem? (i := 73) (by decide +kernel)) (by decide +kernel)
theorem wd_74 : (.instanceMethod y_C_init : Cond) ∈ gw := gw_in (List.mem_of_getElem? (i := 74) (by decide +kernel)) (by decide +kernel)
theorem wd_75 : (.code y_C_init c_C_init 1 none : Cond) ∈ gw := gw_in (List.mem_of_getElem? (i := 75) (by decide +kernel)) (by decide +kernel)
theorem wd_76 : (.methodLink "java/util/AbstractCollection" 1 y_J_init : Cond) ∈ gw := gw_in (List.mem_of_getElem? (i := 76) (by decide +kernel)) (by decide +kernel)
theorem wd_77 : (.fieldLink "java/util/ArrayList" 39 "java/util/ArrayList" "DEFAULTCAPACITY_EMPTY_ELEMENTDATA" "[Ljava/lang/Object;" : Cond) ∈ gw := gw_in (List.mem_of_getElem? (i := 77) (by decide +kernel)) (by decide +kernel)
theorem wd_79 : (.fieldLink "java/util/ArrayList" 9 "java/util/ArrayList" "elementData" "[Ljava/lang/Object;" : Cond) ∈ gw := gw_in (List.mem_of_getElem? (i := 79) (by decide +kernel)) (by decide +kernel)
theorem wd_80 : (.fieldLink "java/util/ArrayList" 48 "java/util/ArrayList" "size" "I" : Cond) ∈ gw := gw_in (List.mem_of_getElem? (i := 80) (by decide +kernel)) (by decide +kernel)
theorem wd_81 : (.fieldLink "java/util/AbstractList" 7 "java/util/AbstractList" "modCount" "I" : Cond) ∈ gw := gw_in (List.mem_of_getElem? (i := 81) (by decide +kernel)) (by decide +kernel)
theorem wd_82 : (.fieldLink "java/util/ArrayList" 63 "java/util/ArrayList" "modCount" "I" : Cond) ∈ gw := gw_in (List.mem_of_getElem? (i := 82) (by decide +kernel)) (by decide +kernel)
theorem wd_83 : (.sameField "java/util/ArrayList" "java/util/AbstractList" "modCount" "I" : Cond) ∈ gw := gw_in (List.mem_of_getElem? (i := 83) (by decide +kernel)) (by decide +kernel)
theorem wd_84 : (.lays "java/util/ArrayList" "java/util/ArrayList" "elementData" "[Ljava/lang/Object;" : Cond) ∈ gw := gw_in (List.mem_of_getElem? (i := 84) (by decide +kernel)) (by decide +kernel)
theorem wd_86 : (.lays "java/util/ArrayList" "java/util/ArrayList" "size" "I" : Cond) ∈ gw := gw_in (List.mem_of_getElem? (i := 86) (by decide +kernel)) (by decide +kernel)
theorem wd_88 : (.lays "java/util/ArrayList" "java/util/AbstractList" "modCount" "I" : Cond) ∈ gw := gw_in (List.mem_of_getElem? (i := 88) (by decide +kernel)) (by decide +kernel)
theorem wd_90 : (.superclass "java/util/ArrayList" "java/util/AbstractList" : Cond) ∈ gw := gw_in (List.mem_of_getElem? (i := 90) (by decide +kernel)) (by decide +kernel)
theorem wd_91 : (.classLink "PixelSnapper" 16 "PixelSnapper$Row" : Cond) ∈ gw := gw_in (List.mem_of_getElem? (i := 91) (by decide +kernel)) (by decide +kernel)
theorem wd_92 : (.instantiable "PixelSnapper$Row" 3 : Cond) ∈ gw := gw_in (List.mem_of_getElem? (i := 92) (by decide +kernel)) (by decide +kernel)
theorem wd_93 : (.methodLink "PixelSnapper" 18 y_R_init : Cond) ∈ gw := gw_in (List.mem_of_getElem? (i := 93) (by decide +kernel)) (by decide +kernel)
theorem wd_94 : (.instanceMethod y_R_init : Cond) ∈ gw := gw_in (List.mem_of_getElem? (i := 94) (by decide +kernel)) (by decide +kernel)
theorem wd_95 : (.code y_R_init c_R_init 2 none : Cond) ∈ gw := gw_in (List.mem_of_getElem? (i := 95) (by decide +kernel)) (by decide +kernel)
theorem wd_96 : (.methodLink "PixelSnapper$Row" 3 y_J_init : Cond) ∈ gw := gw_in (List.mem_of_getElem? (i := 96) (by decide +kernel)) (by decide +kernel)
theorem wd_97 : (.fieldLink "PixelSnapper$Row" 9 "PixelSnapper$Row" "most" "I" : Cond) ∈ gw := gw_in (List.mem_of_getElem? (i := 97) (by decide +kernel)) (by decide +kernel)
theorem wd_98 : (.fieldLink "PixelSnapper$Row" 15 "PixelSnapper$Row" "cells" "[J" : Cond) ∈ gw := gw_in (List.mem_of_getElem? (i := 98) (by decide +kernel)) (by decide +kernel)
theorem wd_99 : (.fieldLink "PixelSnapper$Row" 19 "PixelSnapper$Row" "size" "I" : Cond) ∈ gw := gw_in (List.mem_of_getElem? (i := 99) (by decide +kernel)) (by decide +kernel)
theorem wd_100 : (.laysFinal "PixelSnapper$Row" "PixelSnapper$Row" "most" "I" : Cond) ∈ gw := gw_in (List.mem_of_getElem? (i := 100) (by decide +kernel)) (by decide +kernel)
theorem wd_102 : (.lays "PixelSnapper$Row" "PixelSnapper$Row" "cells" "[J" : Cond) ∈ gw := gw_in (List.mem_of_getElem? (i := 102) (by decide +kernel)) (by decide +kernel)
theorem wd_104 : (.lays "PixelSnapper$Row" "PixelSnapper$Row" "size" "I" : Cond) ∈ gw := gw_in (List.mem_of_getElem? (i := 104) (by decide +kernel)) (by decide +kernel)
theorem wd_106 : (.superclass "PixelSnapper$Row" "java/lang/Object" : Cond) ∈ gw := gw_in (List.mem_of_getElem? (i := 106) (by decide +kernel)) (by decide +kernel)
theorem wd_107 : (.arrayClass .long : Cond) ∈ gw := gw_in (List.mem_of_getElem? (i := 107) (by decide +kernel)) (by decide +kernel)
theorem wd_108 : (.constant "PixelSnapper" 28 (65536 : Int32) : Cond) ∈ gw := gw_in (List.mem_of_getElem? (i := 108) (by decide +kernel)) (by decide +kernel)
theorem wd_109 : (.fieldLink "PixelSnapper" 12 "PixelSnapper" "segments" "Ljava/util/ArrayList;" : Cond) ∈ gw := gw_in (List.mem_of_getElem? (i := 109) (by decide +kernel)) (by decide +kernel)
theorem wd_110 : (.fieldLink "PixelSnapper" 21 "PixelSnapper" "hot" "LPixelSnapper$Row;" : Cond) ∈ gw := gw_in (List.mem_of_getElem? (i := 110) (by decide +kernel)) (by decide +kernel)
theorem wd_111 : (.fieldLink "PixelSnapper" 25 "PixelSnapper" "chainStarts" "LPixelSnapper$Row;" : Cond) ∈ gw := gw_in (List.mem_of_getElem? (i := 111) (by decide +kernel)) (by decide +kernel)
theorem wd_112 : (.fieldLink "PixelSnapper" 29 "PixelSnapper" "places" "LPixelSnapper$Row;" : Cond) ∈ gw := gw_in (List.mem_of_getElem? (i := 112) (by decide +kernel)) (by decide +kernel)
theorem wd_113 : (.fieldLink "PixelSnapper" 32 "PixelSnapper" "pieceKeys" "LPixelSnapper$Row;" : Cond) ∈ gw := gw_in (List.mem_of_getElem? (i := 113) (by decide +kernel)) (by decide +kernel)
theorem wd_114 : (.fieldLink "PixelSnapper" 35 "PixelSnapper" "pieceUses" "LPixelSnapper$Row;" : Cond) ∈ gw := gw_in (List.mem_of_getElem? (i := 114) (by decide +kernel)) (by decide +kernel)
theorem wd_115 : (.fieldLink "PixelSnapper" 38 "PixelSnapper" "snapped" "Z" : Cond) ∈ gw := gw_in (List.mem_of_getElem? (i := 115) (by decide +kernel)) (by decide +kernel)
theorem wd_116 : (.laysFinal "PixelSnapper" "PixelSnapper" "segments" "Ljava/util/ArrayList;" : Cond) ∈ gw := gw_in (List.mem_of_getElem? (i := 116) (by decide +kernel)) (by decide +kernel)
theorem wd_118 : (.laysFinal "PixelSnapper" "PixelSnapper" "hot" "LPixelSnapper$Row;" : Cond) ∈ gw := gw_in (List.mem_of_getElem? (i := 118) (by decide +kernel)) (by decide +kernel)
theorem wd_120 : (.laysFinal "PixelSnapper" "PixelSnapper" "chainStarts" "LPixelSnapper$Row;" : Cond) ∈ gw := gw_in (List.mem_of_getElem? (i := 120) (by decide +kernel)) (by decide +kernel)
theorem wd_122 : (.laysFinal "PixelSnapper" "PixelSnapper" "places" "LPixelSnapper$Row;" : Cond) ∈ gw := gw_in (List.mem_of_getElem? (i := 122) (by decide +kernel)) (by decide +kernel)
theorem wd_124 : (.laysFinal "PixelSnapper" "PixelSnapper" "pieceKeys" "LPixelSnapper$Row;" : Cond) ∈ gw := gw_in (List.mem_of_getElem? (i := 124) (by decide +kernel)) (by decide +kernel)
theorem wd_126 : (.laysFinal "PixelSnapper" "PixelSnapper" "pieceUses" "LPixelSnapper$Row;" : Cond) ∈ gw := gw_in (List.mem_of_getElem? (i := 126) (by decide +kernel)) (by decide +kernel)
theorem wd_128 : (.lays "PixelSnapper" "PixelSnapper" "snapped" "Z" : Cond) ∈ gw := gw_in (List.mem_of_getElem? (i := 128) (by decide +kernel)) (by decide +kernel)
theorem wd_130 : (.superclass "PixelSnapper" "java/lang/Object" : Cond) ∈ gw := gw_in (List.mem_of_getElem? (i := 130) (by decide +kernel)) (by decide +kernel)
theorem wd_131 : (.methodLink "PixelSnapperLaw" 60 y_P_clear : Cond) ∈ gw := gw_in (List.mem_of_getElem? (i := 131) (by decide +kernel)) (by decide +kernel)
theorem wd_132 : (.instanceMethod y_P_clear : Cond) ∈ gw := gw_in (List.mem_of_getElem? (i := 132) (by decide +kernel)) (by decide +kernel)
theorem wd_133 : (.selects "PixelSnapper" y_P_clear y_P_clear : Cond) ∈ gw := gw_in (List.mem_of_getElem? (i := 133) (by decide +kernel)) (by decide +kernel)
theorem wd_134 : (.code y_P_clear c_P_clear 2 (some .int) : Cond) ∈ gw := gw_in (List.mem_of_getElem? (i := 134) (by decide +kernel)) (by decide +kernel)
theorem wd_135 : (.methodLink "PixelSnapper" 53 y_A_size : Cond) ∈ gw := gw_in (List.mem_of_getElem? (i := 135) (by decide +kernel)) (by decide +kernel)
theorem wd_136 : (.instanceMethod y_A_size : Cond) ∈ gw := gw_in (List.mem_of_getElem? (i := 136) (by decide +kernel)) (by decide +kernel)
theorem wd_137 : (.selects "java/util/ArrayList" y_A_size y_A_size : Cond) ∈ gw := gw_in (List.mem_of_getElem? (i := 137) (by decide +kernel)) (by decide +kernel)
theorem wd_138 : (.code y_A_size c_A_size 1 (some .int) : Cond) ∈ gw := gw_in (List.mem_of_getElem? (i := 138) (by decide +kernel)) (by decide +kernel)
theorem wd_139 : (.methodLink "PixelSnapper" 74 y_A_clear : Cond) ∈ gw := gw_in (List.mem_of_getElem? (i := 139) (by decide +kernel)) (by decide +kernel)
theorem wd_140 : (.instanceMethod y_A_clear : Cond) ∈ gw := gw_in (List.mem_of_getElem? (i := 140) (by decide +kernel)) (by decide +kernel)
theorem wd_141 : (.selects "java/util/ArrayList" y_A_clear y_A_clear : Cond) ∈ gw := gw_in (List.mem_of_getElem? (i := 141) (by decide +kernel)) (by decide +kernel)
theorem wd_142 : (.code y_A_clear c_A_clear 4 none : Cond) ∈ gw := gw_in (List.mem_of_getElem? (i := 142) (by decide +kernel)) (by decide +kernel)
theorem wd_143 : (.methodLink "PixelSnapper" 71 y_P_forgetSnap : Cond) ∈ gw := gw_in (List.mem_of_getElem? (i := 143) (by decide +kernel)) (by decide +kernel)
theorem wd_145 : (.instanceMethod y_P_forgetSnap : Cond) ∈ gw := gw_in (List.mem_of_getElem? (i := 145) (by decide +kernel)) (by decide +kernel)
theorem wd_146 : (.code y_P_forgetSnap c_P_forgetSnap 1 none : Cond) ∈ gw := gw_in (List.mem_of_getElem? (i := 146) (by decide +kernel)) (by decide +kernel)
theorem wd_147 : (.methodLink "PixelSnapper" 164 y_R_drop : Cond) ∈ gw := gw_in (List.mem_of_getElem? (i := 147) (by decide +kernel)) (by decide +kernel)
theorem wd_148 : (.instanceMethod y_R_drop : Cond) ∈ gw := gw_in (List.mem_of_getElem? (i := 148) (by decide +kernel)) (by decide +kernel)
theorem wd_149 : (.selects "PixelSnapper$Row" y_R_drop y_R_drop : Cond) ∈ gw := gw_in (List.mem_of_getElem? (i := 149) (by decide +kernel)) (by decide +kernel)
theorem wd_150 : (.code y_R_drop c_R_drop 1 none : Cond) ∈ gw := gw_in (List.mem_of_getElem? (i := 150) (by decide +kernel)) (by decide +kernel)
theorem wd_151 : (.methodLink "PixelSnapperLaw" 89 y_P_count : Cond) ∈ gw := gw_in (List.mem_of_getElem? (i := 151) (by decide +kernel)) (by decide +kernel)
theorem wd_152 : (.instanceMethod y_P_count : Cond) ∈ gw := gw_in (List.mem_of_getElem? (i := 152) (by decide +kernel)) (by decide +kernel)
theorem wd_153 : (.selects "PixelSnapper" y_P_count y_P_count : Cond) ∈ gw := gw_in (List.mem_of_getElem? (i := 153) (by decide +kernel)) (by decide +kernel)
theorem wd_154 : (.code y_P_count c_P_count 2 (some .int) : Cond) ∈ gw := gw_in (List.mem_of_getElem? (i := 154) (by decide +kernel)) (by decide +kernel)
theorem wd_155 : (.methodLink "PixelSnapper" 92 y_R_size : Cond) ∈ gw := gw_in (List.mem_of_getElem? (i := 155) (by decide +kernel)) (by decide +kernel)
theorem wd_156 : (.instanceMethod y_R_size : Cond) ∈ gw := gw_in (List.mem_of_getElem? (i := 156) (by decide +kernel)) (by decide +kernel)
theorem wd_157 : (.selects "PixelSnapper$Row" y_R_size y_R_size : Cond) ∈ gw := gw_in (List.mem_of_getElem? (i := 157) (by decide +kernel)) (by decide +kernel)
theorem wd_158 : (.code y_R_size c_R_size 1 (some .int) : Cond) ∈ gw := gw_in (List.mem_of_getElem? (i := 158) (by decide +kernel)) (by decide +kernel)
theorem wd_159 : (.methodLink "PixelSnapperLaw" 51 y_L_segment : Cond) ∈ gw := gw_in (List.mem_of_getElem? (i := 159) (by decide +kernel)) (by decide +kernel)
theorem wd_160 : (.static y_L_segment : Cond) ∈ gw := gw_in (List.mem_of_getElem? (i := 160) (by decide +kernel)) (by decide +kernel)
theorem wd_161 : (.codeWith y_L_segment c_L_segment 7 (some .int) [(0, 14, 17, 13), (0, 14, 21, 15)] : Cond) ∈ gw := gw_in (List.mem_of_getElem? (i := 161) (by decide +kernel)) (by decide +kernel)
theorem wd_162 : (.classLink "PixelSnapperLaw" 13 "java/lang/IllegalArgumentException" : Cond) ∈ gw := gw_in (List.mem_of_getElem? (i := 162) (by decide +kernel)) (by decide +kernel)
theorem wd_163 : (.classLink "PixelSnapperLaw" 15 "java/lang/IllegalStateException" : Cond) ∈ gw := gw_in (List.mem_of_getElem? (i := 163) (by decide +kernel)) (by decide +kernel)
theorem wd_164 : (.methodLink "PixelSnapperLaw" 7 y_P_segment : Cond) ∈ gw := gw_in (List.mem_of_getElem? (i := 164) (by decide +kernel)) (by decide +kernel)
theorem wd_165 : (.instanceMethod y_P_segment : Cond) ∈ gw := gw_in (List.mem_of_getElem? (i := 165) (by decide +kernel)) (by decide +kernel)
theorem wd_166 : (.selects "PixelSnapper" y_P_segment y_P_segment : Cond) ∈ gw := gw_in (List.mem_of_getElem? (i := 166) (by decide +kernel)) (by decide +kernel)
theorem wd_167 : (.code y_P_segment c_P_segment 5 (some .int) : Cond) ∈ gw := gw_in (List.mem_of_getElem? (i := 167) (by decide +kernel)) (by decide +kernel)
theorem wd_168 : (.methodLink "PixelSnapper" 42 y_P_inReach : Cond) ∈ gw := gw_in (List.mem_of_getElem? (i := 168) (by decide +kernel)) (by decide +kernel)
theorem wd_169 : (.static y_P_inReach : Cond) ∈ gw := gw_in (List.mem_of_getElem? (i := 169) (by decide +kernel)) (by decide +kernel)
theorem wd_170 : (.code y_P_inReach c_P_inReach 1 (some .boolean) : Cond) ∈ gw := gw_in (List.mem_of_getElem? (i := 170) (by decide +kernel)) (by decide +kernel)
theorem wd_171 : (.constant "PixelSnapper" 151 (-500000000 : Int32) : Cond) ∈ gw := gw_in (List.mem_of_getElem? (i := 171) (by decide +kernel)) (by decide +kernel)
theorem wd_172 : (.constant "PixelSnapper" 152 (500000000 : Int32) : Cond) ∈ gw := gw_in (List.mem_of_getElem? (i := 172) (by decide +kernel)) (by decide +kernel)
theorem wd_173 : (.classLink "PixelSnapper" 46 "java/lang/IllegalArgumentException" : Cond) ∈ gw := gw_in (List.mem_of_getElem? (i := 173) (by decide +kernel)) (by decide +kernel)
theorem wd_174 : (.instantiable "java/lang/IllegalArgumentException" 6 : Cond) ∈ gw := gw_in (List.mem_of_getElem? (i := 174) (by decide +kernel)) (by decide +kernel)
theorem wd_182 : (.selects "java/lang/IllegalArgumentException" y_T_fillInStackTrace_I y_T_fillInStackTrace_I : Cond) ∈ gw := gw_in (List.mem_of_getElem? (i := 182) (by decide +kernel)) (by decide +kernel)
theorem wd_183 : (.selects "java/lang/IllegalArgumentException" y_T_fillInStackTrace_0 y_T_fillInStackTrace_0 : Cond) ∈ gw := gw_in (List.mem_of_getElem? (i := 183) (by decide +kernel)) (by decide +kernel)
theorem wd_184 : (.lays "java/lang/IllegalArgumentException" "java/lang/Throwable" "cause" "Ljava/lang/Throwable;" : Cond) ∈ gw := gw_in (List.mem_of_getElem? (i := 184) (by decide +kernel)) (by decide +kernel)
theorem wd_185 : (.lays "java/lang/Throwable" "java/lang/Throwable" "cause" "Ljava/lang/Throwable;" : Cond) ∈ gw := gw_in (List.mem_of_getElem? (i := 185) (by decide +kernel)) (by decide +kernel)
theorem wd_186 : (.lays "java/lang/IllegalArgumentException" "java/lang/Throwable" "stackTrace" "[Ljava/lang/StackTraceElement;" : Cond) ∈ gw := gw_in (List.mem_of_getElem? (i := 186) (by decide +kernel)) (by decide +kernel)
theorem wd_187 : (.lays "java/lang/Throwable" "java/lang/Throwable" "stackTrace" "[Ljava/lang/StackTraceElement;" : Cond) ∈ gw := gw_in (List.mem_of_getElem? (i := 187) (by decide +kernel)) (by decide +kernel)
theorem wd_188 : (.lays "java/lang/IllegalArgumentException" "java/lang/Throwable" "suppressedExceptions" "Ljava/util/List;" : Cond) ∈ gw := gw_in (List.mem_of_getElem? (i := 188) (by decide +kernel)) (by decide +kernel)
theorem wd_189 : (.lays "java/lang/Throwable" "java/lang/Throwable" "suppressedExceptions" "Ljava/util/List;" : Cond) ∈ gw := gw_in (List.mem_of_getElem? (i := 189) (by decide +kernel)) (by decide +kernel)
theorem wd_190 : (.lays "java/lang/IllegalArgumentException" "java/lang/Throwable" "detailMessage" "Ljava/lang/String;" : Cond) ∈ gw := gw_in (List.mem_of_getElem? (i := 190) (by decide +kernel)) (by decide +kernel)
theorem wd_191 : (.lays "java/lang/Throwable" "java/lang/Throwable" "detailMessage" "Ljava/lang/String;" : Cond) ∈ gw := gw_in (List.mem_of_getElem? (i := 191) (by decide +kernel)) (by decide +kernel)
theorem wd_192 : (.lays "java/lang/IllegalArgumentException" "java/lang/Throwable" "backtrace" "Ljava/lang/Object;" : Cond) ∈ gw := gw_in (List.mem_of_getElem? (i := 192) (by decide +kernel)) (by decide +kernel)
theorem wd_193 : (.lays "java/lang/Throwable" "java/lang/Throwable" "backtrace" "Ljava/lang/Object;" : Cond) ∈ gw := gw_in (List.mem_of_getElem? (i := 193) (by decide +kernel)) (by decide +kernel)
theorem wd_194 : (.fieldLink "java/lang/Throwable" 198 "java/lang/Throwable" "backtrace" "Ljava/lang/Object;" : Cond) ∈ gw := gw_in (List.mem_of_getElem? (i := 194) (by decide +kernel)) (by decide +kernel)
theorem wd_195 : (.superclass "java/lang/Throwable" "java/lang/Object" : Cond) ∈ gw := gw_in (List.mem_of_getElem? (i := 195) (by decide +kernel)) (by decide +kernel)
theorem wd_196 : (.instanceMethod y_T_init_0 : Cond) ∈ gw := gw_in (List.mem_of_getElem? (i := 196) (by decide +kernel)) (by decide +kernel)
theorem wd_197 : (.code y_T_init_0 c_T_init_0 1 none : Cond) ∈ gw := gw_in (List.mem_of_getElem? (i := 197) (by decide +kernel)) (by decide +kernel)
theorem wd_198 : (.methodLink "java/lang/Throwable" 1 y_J_init : Cond) ∈ gw := gw_in (List.mem_of_getElem? (i := 198) (by decide +kernel)) (by decide +kernel)
theorem wd_199 : (.fieldLink "java/lang/Throwable" 13 "java/lang/Throwable" "UNASSIGNED_STACK" "[Ljava/lang/StackTraceElement;" : Cond) ∈ gw := gw_in (List.mem_of_getElem? (i := 199) (by decide +kernel)) (by decide +kernel)
theorem wd_201 : (.fieldLink "java/lang/Throwable" 20 "java/lang/Throwable" "SUPPRESSED_SENTINEL" "Ljava/util/List;" : Cond) ∈ gw := gw_in (List.mem_of_getElem? (i := 201) (by decide +kernel)) (by decide +kernel)
theorem wd_203 : (.methodLink "java/lang/Throwable" 27 y_T_fillInStackTrace_0 : Cond) ∈ gw := gw_in (List.mem_of_getElem? (i := 203) (by decide +kernel)) (by decide +kernel)
theorem wd_204 : (.instanceMethod y_T_fillInStackTrace_0 : Cond) ∈ gw := gw_in (List.mem_of_getElem? (i := 204) (by decide +kernel)) (by decide +kernel)
theorem wd_205 : (.sameMethod "java/lang/Throwable" "java/lang/Throwable" "fillInStackTrace" "()Ljava/lang/Throwable;" : Cond) ∈ gw := gw_in (List.mem_of_getElem? (i := 205) (by decide +kernel)) (by decide +kernel)
theorem wd_206 : (.selects "java/lang/IllegalStateException" y_T_fillInStackTrace_0 y_T_fillInStackTrace_0 : Cond) ∈ gw := gw_in (List.mem_of_getElem? (i := 206) (by decide +kernel)) (by decide +kernel)
theorem wd_207 : (.selects "java/lang/IndexOutOfBoundsException" y_T_fillInStackTrace_0 y_T_fillInStackTrace_0 : Cond) ∈ gw := gw_in (List.mem_of_getElem? (i := 207) (by decide +kernel)) (by decide +kernel)
theorem wd_208 : (.selects "java/lang/UnsupportedOperationException" y_T_fillInStackTrace_0 y_T_fillInStackTrace_0 : Cond) ∈ gw := gw_in (List.mem_of_getElem? (i := 208) (by decide +kernel)) (by decide +kernel)
theorem wd_209 : (.codeSync y_T_fillInStackTrace_0 c_T_fillInStackTrace_0 1 (some (.object "java/lang/Throwable")) : Cond) ∈ gw := gw_in (List.mem_of_getElem? (i := 209) (by decide +kernel)) (by decide +kernel)
theorem wd_210 : (.methodLink "java/lang/Throwable" 202 y_T_fillInStackTrace_I : Cond) ∈ gw := gw_in (List.mem_of_getElem? (i := 210) (by decide +kernel)) (by decide +kernel)
theorem wd_212 : (.instanceMethod y_T_fillInStackTrace_I : Cond) ∈ gw := gw_in (List.mem_of_getElem? (i := 212) (by decide +kernel)) (by decide +kernel)
theorem wd_213 : (.instantiable "java/lang/Throwable" 6 : Cond) ∈ gw := gw_in (List.mem_of_getElem? (i := 213) (by decide +kernel)) (by decide +kernel)
theorem wd_214 : (.native y_T_fillInStackTrace_I : Cond) ∈ gw := gw_in (List.mem_of_getElem? (i := 214) (by decide +kernel)) (by decide +kernel)
theorem wd_216 : (.methodLink "PixelSnapper" 50 y_EA_init : Cond) ∈ gw := gw_in (List.mem_of_getElem? (i := 216) (by decide +kernel)) (by decide +kernel)
theorem wd_217 : (.instanceMethod y_EA_init : Cond) ∈ gw := gw_in (List.mem_of_getElem? (i := 217) (by decide +kernel)) (by decide +kernel)
theorem wd_218 : (.code y_EA_init c_EA_init 2 none : Cond) ∈ gw := gw_in (List.mem_of_getElem? (i := 218) (by decide +kernel)) (by decide +kernel)
theorem wd_219 : (.methodLink "java/lang/IllegalArgumentException" 7 y_E_init : Cond) ∈ gw := gw_in (List.mem_of_getElem? (i := 219) (by decide +kernel)) (by decide +kernel)
theorem wd_220 : (.instanceMethod y_E_init : Cond) ∈ gw := gw_in (List.mem_of_getElem? (i := 220) (by decide +kernel)) (by decide +kernel)
theorem wd_221 : (.code y_E_init c_E_init 2 none : Cond) ∈ gw := gw_in (List.mem_of_getElem? (i := 221) (by decide +kernel)) (by decide +kernel)
theorem wd_222 : (.methodLink "java/lang/RuntimeException" 7 y_X_init : Cond) ∈ gw := gw_in (List.mem_of_getElem? (i := 222) (by decide +kernel)) (by decide +kernel)
theorem wd_223 : (.instanceMethod y_X_init : Cond) ∈ gw := gw_in (List.mem_of_getElem? (i := 223) (by decide +kernel)) (by decide +kernel)
theorem wd_224 : (.code y_X_init c_X_init 2 none : Cond) ∈ gw := gw_in (List.mem_of_getElem? (i := 224) (by decide +kernel)) (by decide +kernel)
theorem wd_225 : (.methodLink "java/lang/Exception" 7 y_T_init_String : Cond) ∈ gw := gw_in (List.mem_of_getElem? (i := 225) (by decide +kernel)) (by decide +kernel)
theorem wd_226 : (.instanceMethod y_T_init_String : Cond) ∈ gw := gw_in (List.mem_of_getElem? (i := 226) (by decide +kernel)) (by decide +kernel)
theorem wd_227 : (.code y_T_init_String c_T_init_String 2 none : Cond) ∈ gw := gw_in (List.mem_of_getElem? (i := 227) (by decide +kernel)) (by decide +kernel)
theorem wd_229 : (.fieldLink "java/lang/Throwable" 31 "java/lang/Throwable" "detailMessage" "Ljava/lang/String;" : Cond) ∈ gw := gw_in (List.mem_of_getElem? (i := 229) (by decide +kernel)) (by decide +kernel)
theorem wd_230 : (.fieldLink "java/lang/Throwable" 7 "java/lang/Throwable" "cause" "Ljava/lang/Throwable;" : Cond) ∈ gw := gw_in (List.mem_of_getElem? (i := 230) (by decide +kernel)) (by decide +kernel)
theorem wd_231 : (.fieldLink "java/lang/Throwable" 17 "java/lang/Throwable" "stackTrace" "[Ljava/lang/StackTraceElement;" : Cond) ∈ gw := gw_in (List.mem_of_getElem? (i := 231) (by decide +kernel)) (by decide +kernel)
theorem wd_232 : (.fieldLink "java/lang/Throwable" 24 "java/lang/Throwable" "suppressedExceptions" "Ljava/util/List;" : Cond) ∈ gw := gw_in (List.mem_of_getElem? (i := 232) (by decide +kernel)) (by decide +kernel)
theorem wd_237 : (.lays "java/lang/IllegalArgumentException" "java/lang/Throwable" "depth" "I" : Cond) ∈ gw := gw_in (List.mem_of_getElem? (i := 237) (by decide +kernel)) (by decide +kernel)
theorem wd_240 : (.superclass "java/lang/IllegalArgumentException" "java/lang/RuntimeException" : Cond) ∈ gw := gw_in (List.mem_of_getElem? (i := 240) (by decide +kernel)) (by decide +kernel)
theorem wd_241 : (.arrayClass .byte : Cond) ∈ gw := gw_in (List.mem_of_getElem? (i := 241) (by decide +kernel)) (by decide +kernel)
theorem wd_242 : (.classLink "PixelSnapper" 57 "java/lang/IllegalStateException" : Cond) ∈ gw := gw_in (List.mem_of_getElem? (i := 242) (by decide +kernel)) (by decide +kernel)
theorem wd_243 : (.instantiable "java/lang/IllegalStateException" 6 : Cond) ∈ gw := gw_in (List.mem_of_getElem? (i := 243) (by decide +kernel)) (by decide +kernel)
theorem wd_245 : (.selects "java/lang/IllegalStateException" y_T_fillInStackTrace_I y_T_fillInStackTrace_I : Cond) ∈ gw := gw_in (List.mem_of_getElem? (i := 245) (by decide +kernel)) (by decide +kernel)
theorem wd_246 : (.lays "java/lang/IllegalStateException" "java/lang/Throwable" "cause" "Ljava/lang/Throwable;" : Cond) ∈ gw := gw_in (List.mem_of_getElem? (i := 246) (by decide +kernel)) (by decide +kernel)
theorem wd_247 : (.lays "java/lang/IllegalStateException" "java/lang/Throwable" "stackTrace" "[Ljava/lang/StackTraceElement;" : Cond) ∈ gw := gw_in (List.mem_of_getElem? (i := 247) (by decide +kernel)) (by decide +kernel)
theorem wd_248 : (.lays "java/lang/IllegalStateException" "java/lang/Throwable" "suppressedExceptions" "Ljava/util/List;" : Cond) ∈ gw := gw_in (List.mem_of_getElem? (i := 248) (by decide +kernel)) (by decide +kernel)
theorem wd_249 : (.lays "java/lang/IllegalStateException" "java/lang/Throwable" "detailMessage" "Ljava/lang/String;" : Cond) ∈ gw := gw_in (List.mem_of_getElem? (i := 249) (by decide +kernel)) (by decide +kernel)
theorem wd_250 : (.lays "java/lang/IllegalStateException" "java/lang/Throwable" "backtrace" "Ljava/lang/Object;" : Cond) ∈ gw := gw_in (List.mem_of_getElem? (i := 250) (by decide +kernel)) (by decide +kernel)
theorem wd_252 : (.methodLink "PixelSnapper" 61 y_ES_init : Cond) ∈ gw := gw_in (List.mem_of_getElem? (i := 252) (by decide +kernel)) (by decide +kernel)
theorem wd_253 : (.instanceMethod y_ES_init : Cond) ∈ gw := gw_in (List.mem_of_getElem? (i := 253) (by decide +kernel)) (by decide +kernel)
theorem wd_254 : (.code y_ES_init c_ES_init 2 none : Cond) ∈ gw := gw_in (List.mem_of_getElem? (i := 254) (by decide +kernel)) (by decide +kernel)
theorem wd_255 : (.methodLink "java/lang/IllegalStateException" 7 y_E_init : Cond) ∈ gw := gw_in (List.mem_of_getElem? (i := 255) (by decide +kernel)) (by decide +kernel)
theorem wd_256 : (.lays "java/lang/IllegalStateException" "java/lang/Throwable" "depth" "I" : Cond) ∈ gw := gw_in (List.mem_of_getElem? (i := 256) (by decide +kernel)) (by decide +kernel)
theorem wd_257 : (.superclass "java/lang/IllegalStateException" "java/lang/RuntimeException" : Cond) ∈ gw := gw_in (List.mem_of_getElem? (i := 257) (by decide +kernel)) (by decide +kernel)
theorem wd_258 : (.classLink "PixelSnapper" 62 "PixelSnapper$Segment" : Cond) ∈ gw := gw_in (List.mem_of_getElem? (i := 258) (by decide +kernel)) (by decide +kernel)
theorem wd_259 : (.instantiable "PixelSnapper$Segment" 10 : Cond) ∈ gw := gw_in (List.mem_of_getElem? (i := 259) (by decide +kernel)) (by decide +kernel)
theorem wd_260 : (.methodLink "PixelSnapper" 64 y_S_init : Cond) ∈ gw := gw_in (List.mem_of_getElem? (i := 260) (by decide +kernel)) (by decide +kernel)
theorem wd_261 : (.instanceMethod y_S_init : Cond) ∈ gw := gw_in (List.mem_of_getElem? (i := 261) (by decide +kernel)) (by decide +kernel)
theorem wd_262 : (.code y_S_init c_S_init 5 none : Cond) ∈ gw := gw_in (List.mem_of_getElem? (i := 262) (by decide +kernel)) (by decide +kernel)
theorem wd_263 : (.methodLink "PixelSnapper$Segment" 3 y_J_init : Cond) ∈ gw := gw_in (List.mem_of_getElem? (i := 263) (by decide +kernel)) (by decide +kernel)
theorem wd_264 : (.methodLink "PixelSnapper$Segment" 30 y_H_min_JJ : Cond) ∈ gw := gw_in (List.mem_of_getElem? (i := 264) (by decide +kernel)) (by decide +kernel)
theorem wd_265 : (.static y_H_min_JJ : Cond) ∈ gw := gw_in (List.mem_of_getElem? (i := 265) (by decide +kernel)) (by decide +kernel)
theorem wd_266 : (.code y_H_min_JJ c_H_min_JJ 4 (some .long) : Cond) ∈ gw := gw_in (List.mem_of_getElem? (i := 266) (by decide +kernel)) (by decide +kernel)
theorem wd_267 : (.methodLink "PixelSnapper$Segment" 42 y_H_max_JJ : Cond) ∈ gw := gw_in (List.mem_of_getElem? (i := 267) (by decide +kernel)) (by decide +kernel)
theorem wd_268 : (.static y_H_max_JJ : Cond) ∈ gw := gw_in (List.mem_of_getElem? (i := 268) (by decide +kernel)) (by decide +kernel)
theorem wd_269 : (.code y_H_max_JJ c_H_max_JJ 4 (some .long) : Cond) ∈ gw := gw_in (List.mem_of_getElem? (i := 269) (by decide +kernel)) (by decide +kernel)
theorem wd_270 : (.fieldLink "PixelSnapper$Segment" 9 "PixelSnapper$Segment" "fromX" "J" : Cond) ∈ gw := gw_in (List.mem_of_getElem? (i := 270) (by decide +kernel)) (by decide +kernel)
theorem wd_271 : (.fieldLink "PixelSnapper$Segment" 15 "PixelSnapper$Segment" "fromY" "J" : Cond) ∈ gw := gw_in (List.mem_of_getElem? (i := 271) (by decide +kernel)) (by decide +kernel)
theorem wd_272 : (.fieldLink "PixelSnapper$Segment" 18 "PixelSnapper$Segment" "toX" "J" : Cond) ∈ gw := gw_in (List.mem_of_getElem? (i := 272) (by decide +kernel)) (by decide +kernel)
theorem wd_273 : (.fieldLink "PixelSnapper$Segment" 21 "PixelSnapper$Segment" "toY" "J" : Cond) ∈ gw := gw_in (List.mem_of_getElem? (i := 273) (by decide +kernel)) (by decide +kernel)
theorem wd_274 : (.fieldLink "PixelSnapper$Segment" 24 "PixelSnapper$Segment" "wayX" "J" : Cond) ∈ gw := gw_in (List.mem_of_getElem? (i := 274) (by decide +kernel)) (by decide +kernel)
theorem wd_275 : (.fieldLink "PixelSnapper$Segment" 27 "PixelSnapper$Segment" "wayY" "J" : Cond) ∈ gw := gw_in (List.mem_of_getElem? (i := 275) (by decide +kernel)) (by decide +kernel)
theorem wd_276 : (.fieldLink "PixelSnapper$Segment" 36 "PixelSnapper$Segment" "leastX" "J" : Cond) ∈ gw := gw_in (List.mem_of_getElem? (i := 276) (by decide +kernel)) (by decide +kernel)
theorem wd_277 : (.fieldLink "PixelSnapper$Segment" 39 "PixelSnapper$Segment" "leastY" "J" : Cond) ∈ gw := gw_in (List.mem_of_getElem? (i := 277) (by decide +kernel)) (by decide +kernel)
theorem wd_278 : (.fieldLink "PixelSnapper$Segment" 45 "PixelSnapper$Segment" "mostX" "J" : Cond) ∈ gw := gw_in (List.mem_of_getElem? (i := 278) (by decide +kernel)) (by decide +kernel)
theorem wd_279 : (.fieldLink "PixelSnapper$Segment" 48 "PixelSnapper$Segment" "mostY" "J" : Cond) ∈ gw := gw_in (List.mem_of_getElem? (i := 279) (by decide +kernel)) (by decide +kernel)
theorem wd_280 : (.laysFinal "PixelSnapper$Segment" "PixelSnapper$Segment" "fromX" "J" : Cond) ∈ gw := gw_in (List.mem_of_getElem? (i := 280) (by decide +kernel)) (by decide +kernel)
theorem wd_282 : (.laysFinal "PixelSnapper$Segment" "PixelSnapper$Segment" "fromY" "J" : Cond) ∈ gw := gw_in (List.mem_of_getElem? (i := 282) (by decide +kernel)) (by decide +kernel)
theorem wd_284 : (.laysFinal "PixelSnapper$Segment" "PixelSnapper$Segment" "toX" "J" : Cond) ∈ gw := gw_in (List.mem_of_getElem? (i := 284) (by decide +kernel)) (by decide +kernel)
theorem wd_286 : (.laysFinal "PixelSnapper$Segment" "PixelSnapper$Segment" "toY" "J" : Cond) ∈ gw := gw_in (List.mem_of_getElem? (i := 286) (by decide +kernel)) (by decide +kernel)
theorem wd_288 : (.laysFinal "PixelSnapper$Segment" "PixelSnapper$Segment" "wayX" "J" : Cond) ∈ gw := gw_in (List.mem_of_getElem? (i := 288) (by decide +kernel)) (by decide +kernel)
theorem wd_290 : (.laysFinal "PixelSnapper$Segment" "PixelSnapper$Segment" "wayY" "J" : Cond) ∈ gw := gw_in (List.mem_of_getElem? (i := 290) (by decide +kernel)) (by decide +kernel)
theorem wd_292 : (.laysFinal "PixelSnapper$Segment" "PixelSnapper$Segment" "leastX" "J" : Cond) ∈ gw := gw_in (List.mem_of_getElem? (i := 292) (by decide +kernel)) (by decide +kernel)
theorem wd_294 : (.laysFinal "PixelSnapper$Segment" "PixelSnapper$Segment" "leastY" "J" : Cond) ∈ gw := gw_in (List.mem_of_getElem? (i := 294) (by decide +kernel)) (by decide +kernel)
theorem wd_296 : (.laysFinal "PixelSnapper$Segment" "PixelSnapper$Segment" "mostX" "J" : Cond) ∈ gw := gw_in (List.mem_of_getElem? (i := 296) (by decide +kernel)) (by decide +kernel)
theorem wd_298 : (.laysFinal "PixelSnapper$Segment" "PixelSnapper$Segment" "mostY" "J" : Cond) ∈ gw := gw_in (List.mem_of_getElem? (i := 298) (by decide +kernel)) (by decide +kernel)
theorem wd_300 : (.superclass "PixelSnapper$Segment" "java/lang/Object" : Cond) ∈ gw := gw_in (List.mem_of_getElem? (i := 300) (by decide +kernel)) (by decide +kernel)
theorem wd_301 : (.methodLink "PixelSnapper" 67 y_A_add_Object : Cond) ∈ gw := gw_in (List.mem_of_getElem? (i := 301) (by decide +kernel)) (by decide +kernel)
theorem wd_302 : (.instanceMethod y_A_add_Object : Cond) ∈ gw := gw_in (List.mem_of_getElem? (i := 302) (by decide +kernel)) (by decide +kernel)
theorem wd_303 : (.selects "java/util/ArrayList" y_A_add_Object y_A_add_Object : Cond) ∈ gw := gw_in (List.mem_of_getElem? (i := 303) (by decide +kernel)) (by decide +kernel)
theorem wd_304 : (.code y_A_add_Object c_A_add_Object 2 (some .boolean) : Cond) ∈ gw := gw_in (List.mem_of_getElem? (i := 304) (by decide +kernel)) (by decide +kernel)
theorem wd_305 : (.methodLink "java/util/ArrayList" 131 y_A_add_ObjectaObjectI : Cond) ∈ gw := gw_in (List.mem_of_getElem? (i := 305) (by decide +kernel)) (by decide +kernel)
theorem wd_307 : (.instanceMethod y_A_add_ObjectaObjectI : Cond) ∈ gw := gw_in (List.mem_of_getElem? (i := 307) (by decide +kernel)) (by decide +kernel)
theorem wd_308 : (.code y_A_add_ObjectaObjectI c_A_add_ObjectaObjectI 4 none : Cond) ∈ gw := gw_in (List.mem_of_getElem? (i := 308) (by decide +kernel)) (by decide +kernel)
theorem wd_309 : (.methodLink "java/util/ArrayList" 129 y_A_grow_0 : Cond) ∈ gw := gw_in (List.mem_of_getElem? (i := 309) (by decide +kernel)) (by decide +kernel)
theorem wd_311 : (.instanceMethod y_A_grow_0 : Cond) ∈ gw := gw_in (List.mem_of_getElem? (i := 311) (by decide +kernel)) (by decide +kernel)
theorem wd_312 : (.code y_A_grow_0 c_A_grow_0 1 (some (.array (.object "java/lang/Object"))) : Cond) ∈ gw := gw_in (List.mem_of_getElem? (i := 312) (by decide +kernel)) (by decide +kernel)
theorem wd_313 : (.methodLink "java/util/ArrayList" 69 y_A_grow_I : Cond) ∈ gw := gw_in (List.mem_of_getElem? (i := 313) (by decide +kernel)) (by decide +kernel)
theorem wd_315 : (.instanceMethod y_A_grow_I : Cond) ∈ gw := gw_in (List.mem_of_getElem? (i := 315) (by decide +kernel)) (by decide +kernel)
theorem wd_316 : (.code y_A_grow_I c_A_grow_I 4 (some (.array (.object "java/lang/Object"))) : Cond) ∈ gw := gw_in (List.mem_of_getElem? (i := 316) (by decide +kernel)) (by decide +kernel)
theorem wd_317 : (.methodLink "java/util/ArrayList" 73 y_U_newLength : Cond) ∈ gw := gw_in (List.mem_of_getElem? (i := 317) (by decide +kernel)) (by decide +kernel)
theorem wd_318 : (.static y_U_newLength : Cond) ∈ gw := gw_in (List.mem_of_getElem? (i := 318) (by decide +kernel)) (by decide +kernel)
theorem wd_319 : (.code y_U_newLength c_U_newLength 4 (some .int) : Cond) ∈ gw := gw_in (List.mem_of_getElem? (i := 319) (by decide +kernel)) (by decide +kernel)
theorem wd_320 : (.methodLink "jdk/internal/util/ArraysSupport" 194 y_H_max_II : Cond) ∈ gw := gw_in (List.mem_of_getElem? (i := 320) (by decide +kernel)) (by decide +kernel)
theorem wd_321 : (.static y_H_max_II : Cond) ∈ gw := gw_in (List.mem_of_getElem? (i := 321) (by decide +kernel)) (by decide +kernel)
theorem wd_322 : (.code y_H_max_II c_H_max_II 2 (some .int) : Cond) ∈ gw := gw_in (List.mem_of_getElem? (i := 322) (by decide +kernel)) (by decide +kernel)
theorem wd_323 : (.constant "jdk/internal/util/ArraysSupport" 200 (2147483639 : Int32) : Cond) ∈ gw := gw_in (List.mem_of_getElem? (i := 323) (by decide +kernel)) (by decide +kernel)
theorem wd_324 : (.methodLink "jdk/internal/util/ArraysSupport" 201 y_U_hugeLength : Cond) ∈ gw := gw_in (List.mem_of_getElem? (i := 324) (by decide +kernel)) (by decide +kernel)
theorem wd_325 : (.static y_U_hugeLength : Cond) ∈ gw := gw_in (List.mem_of_getElem? (i := 325) (by decide +kernel)) (by decide +kernel)
theorem wd_326 : (.code y_U_hugeLength c_U_hugeLength 3 (some .int) : Cond) ∈ gw := gw_in (List.mem_of_getElem? (i := 326) (by decide +kernel)) (by decide +kernel)
theorem wd_327 : (.methodLink "java/util/ArrayList" 66 y_Y_copyOf_aObjectI : Cond) ∈ gw := gw_in (List.mem_of_getElem? (i := 327) (by decide +kernel)) (by decide +kernel)
theorem wd_328 : (.static y_Y_copyOf_aObjectI : Cond) ∈ gw := gw_in (List.mem_of_getElem? (i := 328) (by decide +kernel)) (by decide +kernel)
theorem wd_329 : (.code y_Y_copyOf_aObjectI c_Y_copyOf_aObjectI 2 (some (.array (.object "java/lang/Object"))) : Cond) ∈ gw := gw_in (List.mem_of_getElem? (i := 329) (by decide +kernel)) (by decide +kernel)
theorem wd_330 : (.methodLink "java/util/Arrays" 86 y_J_getClass : Cond) ∈ gw := gw_in (List.mem_of_getElem? (i := 330) (by decide +kernel)) (by decide +kernel)
theorem wd_331 : (.instanceMethod y_J_getClass : Cond) ∈ gw := gw_in (List.mem_of_getElem? (i := 331) (by decide +kernel)) (by decide +kernel)
theorem wd_332 : (.sameMethod "java/lang/Object" "java/lang/Object" "getClass" "()Ljava/lang/Class;" : Cond) ∈ gw := gw_in (List.mem_of_getElem? (i := 332) (by decide +kernel)) (by decide +kernel)
theorem wd_333 : (.selects "PixelSnapper" y_J_getClass y_J_getClass : Cond) ∈ gw := gw_in (List.mem_of_getElem? (i := 333) (by decide +kernel)) (by decide +kernel)
theorem wd_334 : (.selects "PixelSnapper$Row" y_J_getClass y_J_getClass : Cond) ∈ gw := gw_in (List.mem_of_getElem? (i := 334) (by decide +kernel)) (by decide +kernel)
theorem wd_335 : (.selects "PixelSnapper$Segment" y_J_getClass y_J_getClass : Cond) ∈ gw := gw_in (List.mem_of_getElem? (i := 335) (by decide +kernel)) (by decide +kernel)
theorem wd_336 : (.selects "PixelSnapperModel" y_J_getClass y_J_getClass : Cond) ∈ gw := gw_in (List.mem_of_getElem? (i := 336) (by decide +kernel)) (by decide +kernel)
theorem wd_337 : (.selects "java/lang/IllegalArgumentException" y_J_getClass y_J_getClass : Cond) ∈ gw := gw_in (List.mem_of_getElem? (i := 337) (by decide +kernel)) (by decide +kernel)
theorem wd_338 : (.selects "java/lang/IllegalStateException" y_J_getClass y_J_getClass : Cond) ∈ gw := gw_in (List.mem_of_getElem? (i := 338) (by decide +kernel)) (by decide +kernel)
theorem wd_339 : (.selects "java/lang/IndexOutOfBoundsException" y_J_getClass y_J_getClass : Cond) ∈ gw := gw_in (List.mem_of_getElem? (i := 339) (by decide +kernel)) (by decide +kernel)
theorem wd_340 : (.selects "java/lang/UnsupportedOperationException" y_J_getClass y_J_getClass : Cond) ∈ gw := gw_in (List.mem_of_getElem? (i := 340) (by decide +kernel)) (by decide +kernel)
theorem wd_341 : (.selects "java/util/ArrayList" y_J_getClass y_J_getClass : Cond) ∈ gw := gw_in (List.mem_of_getElem? (i := 341) (by decide +kernel)) (by decide +kernel)
theorem wd_342 : (.native y_J_getClass : Cond) ∈ gw := gw_in (List.mem_of_getElem? (i := 342) (by decide +kernel)) (by decide +kernel)
theorem wd_343 : (.methodLink "java/util/Arrays" 300 y_Y_copyOf_aObjectIClass : Cond) ∈ gw := gw_in (List.mem_of_getElem? (i := 343) (by decide +kernel)) (by decide +kernel)
theorem wd_344 : (.static y_Y_copyOf_aObjectIClass : Cond) ∈ gw := gw_in (List.mem_of_getElem? (i := 344) (by decide +kernel)) (by decide +kernel)
theorem wd_345 : (.code y_Y_copyOf_aObjectIClass c_Y_copyOf_aObjectIClass 4 (some (.array (.object "java/lang/Object"))) : Cond) ∈ gw := gw_in (List.mem_of_getElem? (i := 345) (by decide +kernel)) (by decide +kernel)
theorem wd_346 : (.classLink "java/util/Arrays" 110 "[Ljava/lang/Object;" : Cond) ∈ gw := gw_in (List.mem_of_getElem? (i := 346) (by decide +kernel)) (by decide +kernel)
theorem wd_348 : (.classLink "java/util/Arrays" 2 "java/lang/Object" : Cond) ∈ gw := gw_in (List.mem_of_getElem? (i := 348) (by decide +kernel)) (by decide +kernel)
theorem wd_349 : (.methodLink "java/util/Arrays" 304 y_H_min_II : Cond) ∈ gw := gw_in (List.mem_of_getElem? (i := 349) (by decide +kernel)) (by decide +kernel)
theorem wd_350 : (.static y_H_min_II : Cond) ∈ gw := gw_in (List.mem_of_getElem? (i := 350) (by decide +kernel)) (by decide +kernel)
theorem wd_351 : (.code y_H_min_II c_H_min_II 2 (some .int) : Cond) ∈ gw := gw_in (List.mem_of_getElem? (i := 351) (by decide +kernel)) (by decide +kernel)
theorem wd_352 : (.methodLink "java/util/Arrays" 150 y_Z_arraycopy : Cond) ∈ gw := gw_in (List.mem_of_getElem? (i := 352) (by decide +kernel)) (by decide +kernel)
theorem wd_353 : (.static y_Z_arraycopy : Cond) ∈ gw := gw_in (List.mem_of_getElem? (i := 353) (by decide +kernel)) (by decide +kernel)
theorem wd_354 : (.native y_Z_arraycopy : Cond) ∈ gw := gw_in (List.mem_of_getElem? (i := 354) (by decide +kernel)) (by decide +kernel)
theorem wd_355 : (.methodLink "java/util/ArrayList" 79 y_H_max_II : Cond) ∈ gw := gw_in (List.mem_of_getElem? (i := 355) (by decide +kernel)) (by decide +kernel)
theorem wd_356 : (.classLink "java/util/ArrayList" 7 "java/lang/Object" : Cond) ∈ gw := gw_in (List.mem_of_getElem? (i := 356) (by decide +kernel)) (by decide +kernel)
theorem wd_357 : (.methodLink "PixelSnapperLaw" 64 y_L_snap : Cond) ∈ gw := gw_in (List.mem_of_getElem? (i := 357) (by decide +kernel)) (by decide +kernel)
theorem wd_358 : (.static y_L_snap : Cond) ∈ gw := gw_in (List.mem_of_getElem? (i := 358) (by decide +kernel)) (by decide +kernel)
theorem wd_359 : (.codeWith y_L_snap c_L_snap 3 (some .int) [(0, 8, 11, 21)] : Cond) ∈ gw := gw_in (List.mem_of_getElem? (i := 359) (by decide +kernel)) (by decide +kernel)
theorem wd_360 : (.classLink "PixelSnapperLaw" 21 "java/lang/UnsupportedOperationException" : Cond) ∈ gw := gw_in (List.mem_of_getElem? (i := 360) (by decide +kernel)) (by decide +kernel)
theorem wd_361 : (.methodLink "PixelSnapperLaw" 17 y_P_snap : Cond) ∈ gw := gw_in (List.mem_of_getElem? (i := 361) (by decide +kernel)) (by decide +kernel)
theorem wd_362 : (.instanceMethod y_P_snap : Cond) ∈ gw := gw_in (List.mem_of_getElem? (i := 362) (by decide +kernel)) (by decide +kernel)
theorem wd_363 : (.selects "PixelSnapper" y_P_snap y_P_snap : Cond) ∈ gw := gw_in (List.mem_of_getElem? (i := 363) (by decide +kernel)) (by decide +kernel)
theorem wd_364 : (.code y_P_snap c_P_snap 1 (some .int) : Cond) ∈ gw := gw_in (List.mem_of_getElem? (i := 364) (by decide +kernel)) (by decide +kernel)
theorem wd_365 : (.methodLink "PixelSnapper" 77 y_P_findHot : Cond) ∈ gw := gw_in (List.mem_of_getElem? (i := 365) (by decide +kernel)) (by decide +kernel)
theorem wd_367 : (.instanceMethod y_P_findHot : Cond) ∈ gw := gw_in (List.mem_of_getElem? (i := 367) (by decide +kernel)) (by decide +kernel)
theorem wd_368 : (.code y_P_findHot c_P_findHot 3 (some .boolean) : Cond) ∈ gw := gw_in (List.mem_of_getElem? (i := 368) (by decide +kernel)) (by decide +kernel)
theorem wd_369 : (.methodLink "PixelSnapper" 103 y_A_get : Cond) ∈ gw := gw_in (List.mem_of_getElem? (i := 369) (by decide +kernel)) (by decide +kernel)
theorem wd_370 : (.instanceMethod y_A_get : Cond) ∈ gw := gw_in (List.mem_of_getElem? (i := 370) (by decide +kernel)) (by decide +kernel)
theorem wd_371 : (.selects "java/util/ArrayList" y_A_get y_A_get : Cond) ∈ gw := gw_in (List.mem_of_getElem? (i := 371) (by decide +kernel)) (by decide +kernel)
theorem wd_372 : (.code y_A_get c_A_get 2 (some (.object "java/lang/Object")) : Cond) ∈ gw := gw_in (List.mem_of_getElem? (i := 372) (by decide +kernel)) (by decide +kernel)
theorem wd_373 : (.methodLink "java/util/ArrayList" 118 y_O_checkIndex : Cond) ∈ gw := gw_in (List.mem_of_getElem? (i := 373) (by decide +kernel)) (by decide +kernel)
theorem wd_374 : (.static y_O_checkIndex : Cond) ∈ gw := gw_in (List.mem_of_getElem? (i := 374) (by decide +kernel)) (by decide +kernel)
theorem wd_375 : (.code y_O_checkIndex c_O_checkIndex 2 (some .int) : Cond) ∈ gw := gw_in (List.mem_of_getElem? (i := 375) (by decide +kernel)) (by decide +kernel)
theorem wd_376 : (.methodLink "java/util/Objects" 105 y_Q_checkIndex : Cond) ∈ gw := gw_in (List.mem_of_getElem? (i := 376) (by decide +kernel)) (by decide +kernel)
theorem wd_377 : (.static y_Q_checkIndex : Cond) ∈ gw := gw_in (List.mem_of_getElem? (i := 377) (by decide +kernel)) (by decide +kernel)
theorem wd_378 : (.code y_Q_checkIndex c_Q_checkIndex 3 (some .int) : Cond) ∈ gw := gw_in (List.mem_of_getElem? (i := 378) (by decide +kernel)) (by decide +kernel)
theorem wd_379 : (.methodLink "java/util/ArrayList" 123 y_A_elementData : Cond) ∈ gw := gw_in (List.mem_of_getElem? (i := 379) (by decide +kernel)) (by decide +kernel)
theorem wd_380 : (.instanceMethod y_A_elementData : Cond) ∈ gw := gw_in (List.mem_of_getElem? (i := 380) (by decide +kernel)) (by decide +kernel)
theorem wd_381 : (.selects "java/util/ArrayList" y_A_elementData y_A_elementData : Cond) ∈ gw := gw_in (List.mem_of_getElem? (i := 381) (by decide +kernel)) (by decide +kernel)
theorem wd_382 : (.code y_A_elementData c_A_elementData 2 (some (.object "java/lang/Object")) : Cond) ∈ gw := gw_in (List.mem_of_getElem? (i := 382) (by decide +kernel)) (by decide +kernel)
theorem wd_383 : (.methodLink "PixelSnapper" 167 y_S_fromKey : Cond) ∈ gw := gw_in (List.mem_of_getElem? (i := 383) (by decide +kernel)) (by decide +kernel)
theorem wd_384 : (.instanceMethod y_S_fromKey : Cond) ∈ gw := gw_in (List.mem_of_getElem? (i := 384) (by decide +kernel)) (by decide +kernel)
theorem wd_385 : (.selects "PixelSnapper$Segment" y_S_fromKey y_S_fromKey : Cond) ∈ gw := gw_in (List.mem_of_getElem? (i := 385) (by decide +kernel)) (by decide +kernel)
theorem wd_386 : (.code y_S_fromKey c_S_fromKey 1 (some .long) : Cond) ∈ gw := gw_in (List.mem_of_getElem? (i := 386) (by decide +kernel)) (by decide +kernel)
theorem wd_388 : (.static y_P_keyOf : Cond) ∈ gw := gw_in (List.mem_of_getElem? (i := 388) (by decide +kernel)) (by decide +kernel)
theorem wd_389 : (.code y_P_keyOf c_P_keyOf 4 (some .long) : Cond) ∈ gw := gw_in (List.mem_of_getElem? (i := 389) (by decide +kernel)) (by decide +kernel)
theorem wd_390 : (.constantLong "PixelSnapper" 153 (500000000 : Int64) : Cond) ∈ gw := gw_in (List.mem_of_getElem? (i := 390) (by decide +kernel)) (by decide +kernel)
theorem wd_391 : (.methodLink "PixelSnapper" 171 y_P_heat : Cond) ∈ gw := gw_in (List.mem_of_getElem? (i := 391) (by decide +kernel)) (by decide +kernel)
theorem wd_393 : (.instanceMethod y_P_heat : Cond) ∈ gw := gw_in (List.mem_of_getElem? (i := 393) (by decide +kernel)) (by decide +kernel)
theorem wd_394 : (.code y_P_heat c_P_heat 3 (some .boolean) : Cond) ∈ gw := gw_in (List.mem_of_getElem? (i := 394) (by decide +kernel)) (by decide +kernel)
theorem wd_395 : (.methodLink "PixelSnapper" 185 y_R_isFull : Cond) ∈ gw := gw_in (List.mem_of_getElem? (i := 395) (by decide +kernel)) (by decide +kernel)
theorem wd_396 : (.instanceMethod y_R_isFull : Cond) ∈ gw := gw_in (List.mem_of_getElem? (i := 396) (by decide +kernel)) (by decide +kernel)
theorem wd_397 : (.selects "PixelSnapper$Row" y_R_isFull y_R_isFull : Cond) ∈ gw := gw_in (List.mem_of_getElem? (i := 397) (by decide +kernel)) (by decide +kernel)
theorem wd_398 : (.code y_R_isFull c_R_isFull 1 (some .boolean) : Cond) ∈ gw := gw_in (List.mem_of_getElem? (i := 398) (by decide +kernel)) (by decide +kernel)
theorem wd_399 : (.methodLink "PixelSnapper" 182 y_P_mergeHot : Cond) ∈ gw := gw_in (List.mem_of_getElem? (i := 399) (by decide +kernel)) (by decide +kernel)
theorem wd_401 : (.instanceMethod y_P_mergeHot : Cond) ∈ gw := gw_in (List.mem_of_getElem? (i := 401) (by decide +kernel)) (by decide +kernel)
theorem wd_402 : (.code y_P_mergeHot c_P_mergeHot 1 (some .boolean) : Cond) ∈ gw := gw_in (List.mem_of_getElem? (i := 402) (by decide +kernel)) (by decide +kernel)
theorem wd_403 : (.methodLink "PixelSnapper" 190 y_R_sort : Cond) ∈ gw := gw_in (List.mem_of_getElem? (i := 403) (by decide +kernel)) (by decide +kernel)
theorem wd_404 : (.instanceMethod y_R_sort : Cond) ∈ gw := gw_in (List.mem_of_getElem? (i := 404) (by decide +kernel)) (by decide +kernel)
theorem wd_405 : (.selects "PixelSnapper$Row" y_R_sort y_R_sort : Cond) ∈ gw := gw_in (List.mem_of_getElem? (i := 405) (by decide +kernel)) (by decide +kernel)
theorem wd_406 : (.code y_R_sort c_R_sort 4 none : Cond) ∈ gw := gw_in (List.mem_of_getElem? (i := 406) (by decide +kernel)) (by decide +kernel)
theorem wd_407 : (.methodLink "PixelSnapper$Row" 44 y_R_sink : Cond) ∈ gw := gw_in (List.mem_of_getElem? (i := 407) (by decide +kernel)) (by decide +kernel)
theorem wd_409 : (.instanceMethod y_R_sink : Cond) ∈ gw := gw_in (List.mem_of_getElem? (i := 409) (by decide +kernel)) (by decide +kernel)
theorem wd_410 : (.code y_R_sink c_R_sink 7 none : Cond) ∈ gw := gw_in (List.mem_of_getElem? (i := 410) (by decide +kernel)) (by decide +kernel)
theorem wd_411 : (.methodLink "PixelSnapper" 193 y_R_keepDistinct : Cond) ∈ gw := gw_in (List.mem_of_getElem? (i := 411) (by decide +kernel)) (by decide +kernel)
theorem wd_412 : (.instanceMethod y_R_keepDistinct : Cond) ∈ gw := gw_in (List.mem_of_getElem? (i := 412) (by decide +kernel)) (by decide +kernel)
theorem wd_413 : (.selects "PixelSnapper$Row" y_R_keepDistinct y_R_keepDistinct : Cond) ∈ gw := gw_in (List.mem_of_getElem? (i := 413) (by decide +kernel)) (by decide +kernel)
theorem wd_414 : (.code y_R_keepDistinct c_R_keepDistinct 3 none : Cond) ∈ gw := gw_in (List.mem_of_getElem? (i := 414) (by decide +kernel)) (by decide +kernel)
theorem wd_415 : (.methodLink "PixelSnapper" 188 y_R_add : Cond) ∈ gw := gw_in (List.mem_of_getElem? (i := 415) (by decide +kernel)) (by decide +kernel)
theorem wd_416 : (.instanceMethod y_R_add : Cond) ∈ gw := gw_in (List.mem_of_getElem? (i := 416) (by decide +kernel)) (by decide +kernel)
theorem wd_417 : (.selects "PixelSnapper$Row" y_R_add y_R_add : Cond) ∈ gw := gw_in (List.mem_of_getElem? (i := 417) (by decide +kernel)) (by decide +kernel)
theorem wd_418 : (.code y_R_add c_R_add 3 (some .boolean) : Cond) ∈ gw := gw_in (List.mem_of_getElem? (i := 418) (by decide +kernel)) (by decide +kernel)
theorem wd_419 : (.methodLink "PixelSnapper$Row" 28 y_R_isFull : Cond) ∈ gw := gw_in (List.mem_of_getElem? (i := 419) (by decide +kernel)) (by decide +kernel)
theorem wd_420 : (.methodLink "PixelSnapper$Row" 32 y_H_min_II : Cond) ∈ gw := gw_in (List.mem_of_getElem? (i := 420) (by decide +kernel)) (by decide +kernel)
theorem wd_421 : (.methodLink "PixelSnapper$Row" 38 y_Y_copyOf_aJI : Cond) ∈ gw := gw_in (List.mem_of_getElem? (i := 421) (by decide +kernel)) (by decide +kernel)
theorem wd_422 : (.static y_Y_copyOf_aJI : Cond) ∈ gw := gw_in (List.mem_of_getElem? (i := 422) (by decide +kernel)) (by decide +kernel)
theorem wd_423 : (.code y_Y_copyOf_aJI c_Y_copyOf_aJI 3 (some (.array .long)) : Cond) ∈ gw := gw_in (List.mem_of_getElem? (i := 423) (by decide +kernel)) (by decide +kernel)
theorem wd_424 : (.methodLink "java/util/Arrays" 319 ⟨"[J", "clone", "()Ljava/lang/Object;"⟩ : Cond) ∈ gw := gw_in (List.mem_of_getElem? (i := 424) (by decide +kernel)) (by decide +kernel)
theorem wd_425 : (.sameMethod "[J" "java/lang/Object" "clone" "()Ljava/lang/Object;" : Cond) ∈ gw := gw_in (List.mem_of_getElem? (i := 425) (by decide +kernel)) (by decide +kernel)
theorem wd_426 : (.native y_J_clone : Cond) ∈ gw := gw_in (List.mem_of_getElem? (i := 426) (by decide +kernel)) (by decide +kernel)
theorem wd_427 : (.instanceMethod y_J_clone : Cond) ∈ gw := gw_in (List.mem_of_getElem? (i := 427) (by decide +kernel)) (by decide +kernel)
theorem wd_428 : (.selects "[J" ⟨"[J", "clone", "()Ljava/lang/Object;"⟩ y_J_clone : Cond) ∈ gw := gw_in (List.mem_of_getElem? (i := 428) (by decide +kernel)) (by decide +kernel)
theorem wd_430 : (.classLink "java/util/Arrays" 320 "[J" : Cond) ∈ gw := gw_in (List.mem_of_getElem? (i := 430) (by decide +kernel)) (by decide +kernel)
theorem wd_431 : (.methodLink "PixelSnapper" 175 y_S_toKey : Cond) ∈ gw := gw_in (List.mem_of_getElem? (i := 431) (by decide +kernel)) (by decide +kernel)
theorem wd_432 : (.instanceMethod y_S_toKey : Cond) ∈ gw := gw_in (List.mem_of_getElem? (i := 432) (by decide +kernel)) (by decide +kernel)
theorem wd_433 : (.selects "PixelSnapper$Segment" y_S_toKey y_S_toKey : Cond) ∈ gw := gw_in (List.mem_of_getElem? (i := 433) (by decide +kernel)) (by decide +kernel)
theorem wd_434 : (.code y_S_toKey c_S_toKey 1 (some .long) : Cond) ∈ gw := gw_in (List.mem_of_getElem? (i := 434) (by decide +kernel)) (by decide +kernel)
theorem wd_435 : (.methodLink "PixelSnapper" 178 y_P_heatCrossings : Cond) ∈ gw := gw_in (List.mem_of_getElem? (i := 435) (by decide +kernel)) (by decide +kernel)
theorem wd_437 : (.instanceMethod y_P_heatCrossings : Cond) ∈ gw := gw_in (List.mem_of_getElem? (i := 437) (by decide +kernel)) (by decide +kernel)
theorem wd_438 : (.code y_P_heatCrossings c_P_heatCrossings 5 (some .boolean) : Cond) ∈ gw := gw_in (List.mem_of_getElem? (i := 438) (by decide +kernel)) (by decide +kernel)
theorem wd_439 : (.methodLink "PixelSnapper" 116 y_S_crosses : Cond) ∈ gw := gw_in (List.mem_of_getElem? (i := 439) (by decide +kernel)) (by decide +kernel)
theorem wd_440 : (.instanceMethod y_S_crosses : Cond) ∈ gw := gw_in (List.mem_of_getElem? (i := 440) (by decide +kernel)) (by decide +kernel)
theorem wd_441 : (.selects "PixelSnapper$Segment" y_S_crosses y_S_crosses : Cond) ∈ gw := gw_in (List.mem_of_getElem? (i := 441) (by decide +kernel)) (by decide +kernel)
theorem wd_442 : (.code y_S_crosses c_S_crosses 2 (some .boolean) : Cond) ∈ gw := gw_in (List.mem_of_getElem? (i := 442) (by decide +kernel)) (by decide +kernel)
theorem wd_443 : (.methodLink "PixelSnapper$Segment" 62 y_S_parts : Cond) ∈ gw := gw_in (List.mem_of_getElem? (i := 443) (by decide +kernel)) (by decide +kernel)
theorem wd_445 : (.instanceMethod y_S_parts : Cond) ∈ gw := gw_in (List.mem_of_getElem? (i := 445) (by decide +kernel)) (by decide +kernel)
theorem wd_446 : (.code y_S_parts c_S_parts 6 (some .boolean) : Cond) ∈ gw := gw_in (List.mem_of_getElem? (i := 446) (by decide +kernel)) (by decide +kernel)
theorem wd_447 : (.methodLink "PixelSnapper$Segment" 66 y_S_sideOf : Cond) ∈ gw := gw_in (List.mem_of_getElem? (i := 447) (by decide +kernel)) (by decide +kernel)
theorem wd_449 : (.instanceMethod y_S_sideOf : Cond) ∈ gw := gw_in (List.mem_of_getElem? (i := 449) (by decide +kernel)) (by decide +kernel)
theorem wd_450 : (.code y_S_sideOf c_S_sideOf 5 (some .long) : Cond) ∈ gw := gw_in (List.mem_of_getElem? (i := 450) (by decide +kernel)) (by decide +kernel)
theorem wd_451 : (.methodLink "PixelSnapper" 122 y_S_crossingKey : Cond) ∈ gw := gw_in (List.mem_of_getElem? (i := 451) (by decide +kernel)) (by decide +kernel)
theorem wd_452 : (.instanceMethod y_S_crossingKey : Cond) ∈ gw := gw_in (List.mem_of_getElem? (i := 452) (by decide +kernel)) (by decide +kernel)
theorem wd_453 : (.selects "PixelSnapper$Segment" y_S_crossingKey y_S_crossingKey : Cond) ∈ gw := gw_in (List.mem_of_getElem? (i := 453) (by decide +kernel)) (by decide +kernel)
theorem wd_454 : (.code y_S_crossingKey c_S_crossingKey 6 (some .long) : Cond) ∈ gw := gw_in (List.mem_of_getElem? (i := 454) (by decide +kernel)) (by decide +kernel)
theorem wd_455 : (.methodLink "PixelSnapper$Segment" 69 y_H_abs : Cond) ∈ gw := gw_in (List.mem_of_getElem? (i := 455) (by decide +kernel)) (by decide +kernel)
theorem wd_456 : (.static y_H_abs : Cond) ∈ gw := gw_in (List.mem_of_getElem? (i := 456) (by decide +kernel)) (by decide +kernel)
theorem wd_457 : (.code y_H_abs c_H_abs 2 (some .long) : Cond) ∈ gw := gw_in (List.mem_of_getElem? (i := 457) (by decide +kernel)) (by decide +kernel)
theorem wd_458 : (.methodLink "PixelSnapper$Segment" 73 y_S_roundedPart : Cond) ∈ gw := gw_in (List.mem_of_getElem? (i := 458) (by decide +kernel)) (by decide +kernel)
theorem wd_459 : (.static y_S_roundedPart : Cond) ∈ gw := gw_in (List.mem_of_getElem? (i := 459) (by decide +kernel)) (by decide +kernel)
theorem wd_460 : (.code y_S_roundedPart c_S_roundedPart 14 (some .long) : Cond) ∈ gw := gw_in (List.mem_of_getElem? (i := 460) (by decide +kernel)) (by decide +kernel)
theorem wd_461 : (.constantLong "PixelSnapper$Segment" 77 (536870912 : Int64) : Cond) ∈ gw := gw_in (List.mem_of_getElem? (i := 461) (by decide +kernel)) (by decide +kernel)
theorem wd_462 : (.constantLong "PixelSnapper$Segment" 60 (2 : Int64) : Cond) ∈ gw := gw_in (List.mem_of_getElem? (i := 462) (by decide +kernel)) (by decide +kernel)
theorem wd_463 : (.methodLink "PixelSnapper" 81 y_P_findChains : Cond) ∈ gw := gw_in (List.mem_of_getElem? (i := 463) (by decide +kernel)) (by decide +kernel)
theorem wd_465 : (.instanceMethod y_P_findChains : Cond) ∈ gw := gw_in (List.mem_of_getElem? (i := 465) (by decide +kernel)) (by decide +kernel)
theorem wd_466 : (.code y_P_findChains c_P_findChains 3 (some .boolean) : Cond) ∈ gw := gw_in (List.mem_of_getElem? (i := 466) (by decide +kernel)) (by decide +kernel)
theorem wd_467 : (.methodLink "PixelSnapper" 196 y_P_addPlaces : Cond) ∈ gw := gw_in (List.mem_of_getElem? (i := 467) (by decide +kernel)) (by decide +kernel)
theorem wd_469 : (.instanceMethod y_P_addPlaces : Cond) ∈ gw := gw_in (List.mem_of_getElem? (i := 469) (by decide +kernel)) (by decide +kernel)
theorem wd_470 : (.code y_P_addPlaces c_P_addPlaces 6 (some .boolean) : Cond) ∈ gw := gw_in (List.mem_of_getElem? (i := 470) (by decide +kernel)) (by decide +kernel)
theorem wd_471 : (.methodLink "PixelSnapper" 203 y_S_mostKey : Cond) ∈ gw := gw_in (List.mem_of_getElem? (i := 471) (by decide +kernel)) (by decide +kernel)
theorem wd_472 : (.instanceMethod y_S_mostKey : Cond) ∈ gw := gw_in (List.mem_of_getElem? (i := 472) (by decide +kernel)) (by decide +kernel)
theorem wd_473 : (.selects "PixelSnapper$Segment" y_S_mostKey y_S_mostKey : Cond) ∈ gw := gw_in (List.mem_of_getElem? (i := 473) (by decide +kernel)) (by decide +kernel)
theorem wd_474 : (.code y_S_mostKey c_S_mostKey 1 (some .long) : Cond) ∈ gw := gw_in (List.mem_of_getElem? (i := 474) (by decide +kernel)) (by decide +kernel)
theorem wd_475 : (.methodLink "PixelSnapper" 206 y_R_firstFrom : Cond) ∈ gw := gw_in (List.mem_of_getElem? (i := 475) (by decide +kernel)) (by decide +kernel)
theorem wd_476 : (.instanceMethod y_R_firstFrom : Cond) ∈ gw := gw_in (List.mem_of_getElem? (i := 476) (by decide +kernel)) (by decide +kernel)
theorem wd_477 : (.selects "PixelSnapper$Row" y_R_firstFrom y_R_firstFrom : Cond) ∈ gw := gw_in (List.mem_of_getElem? (i := 477) (by decide +kernel)) (by decide +kernel)
theorem wd_478 : (.code y_R_firstFrom c_R_firstFrom 6 (some .int) : Cond) ∈ gw := gw_in (List.mem_of_getElem? (i := 478) (by decide +kernel)) (by decide +kernel)
theorem wd_479 : (.methodLink "PixelSnapper" 210 y_S_leastKey : Cond) ∈ gw := gw_in (List.mem_of_getElem? (i := 479) (by decide +kernel)) (by decide +kernel)
theorem wd_480 : (.instanceMethod y_S_leastKey : Cond) ∈ gw := gw_in (List.mem_of_getElem? (i := 480) (by decide +kernel)) (by decide +kernel)
theorem wd_481 : (.selects "PixelSnapper$Segment" y_S_leastKey y_S_leastKey : Cond) ∈ gw := gw_in (List.mem_of_getElem? (i := 481) (by decide +kernel)) (by decide +kernel)
theorem wd_482 : (.code y_S_leastKey c_S_leastKey 1 (some .long) : Cond) ∈ gw := gw_in (List.mem_of_getElem? (i := 482) (by decide +kernel)) (by decide +kernel)
theorem wd_483 : (.methodLink "PixelSnapper" 135 y_R_at : Cond) ∈ gw := gw_in (List.mem_of_getElem? (i := 483) (by decide +kernel)) (by decide +kernel)
theorem wd_484 : (.instanceMethod y_R_at : Cond) ∈ gw := gw_in (List.mem_of_getElem? (i := 484) (by decide +kernel)) (by decide +kernel)
theorem wd_485 : (.selects "PixelSnapper$Row" y_R_at y_R_at : Cond) ∈ gw := gw_in (List.mem_of_getElem? (i := 485) (by decide +kernel)) (by decide +kernel)
theorem wd_486 : (.code y_R_at c_R_at 2 (some .long) : Cond) ∈ gw := gw_in (List.mem_of_getElem? (i := 486) (by decide +kernel)) (by decide +kernel)
theorem wd_487 : (.methodLink "PixelSnapper$Row" 22 y_R_has : Cond) ∈ gw := gw_in (List.mem_of_getElem? (i := 487) (by decide +kernel)) (by decide +kernel)
theorem wd_488 : (.instanceMethod y_R_has : Cond) ∈ gw := gw_in (List.mem_of_getElem? (i := 488) (by decide +kernel)) (by decide +kernel)
theorem wd_489 : (.selects "PixelSnapper$Row" y_R_has y_R_has : Cond) ∈ gw := gw_in (List.mem_of_getElem? (i := 489) (by decide +kernel)) (by decide +kernel)
theorem wd_490 : (.code y_R_has c_R_has 2 (some .boolean) : Cond) ∈ gw := gw_in (List.mem_of_getElem? (i := 490) (by decide +kernel)) (by decide +kernel)
theorem wd_491 : (.constantLong "PixelSnapper$Row" 26 (-1 : Int64) : Cond) ∈ gw := gw_in (List.mem_of_getElem? (i := 491) (by decide +kernel)) (by decide +kernel)
theorem wd_492 : (.methodLink "PixelSnapper" 157 y_P_keyX : Cond) ∈ gw := gw_in (List.mem_of_getElem? (i := 492) (by decide +kernel)) (by decide +kernel)
theorem wd_493 : (.static y_P_keyX : Cond) ∈ gw := gw_in (List.mem_of_getElem? (i := 493) (by decide +kernel)) (by decide +kernel)
theorem wd_494 : (.code y_P_keyX c_P_keyX 2 (some .long) : Cond) ∈ gw := gw_in (List.mem_of_getElem? (i := 494) (by decide +kernel)) (by decide +kernel)
theorem wd_495 : (.methodLink "PixelSnapper" 161 y_P_keyY : Cond) ∈ gw := gw_in (List.mem_of_getElem? (i := 495) (by decide +kernel)) (by decide +kernel)
theorem wd_496 : (.static y_P_keyY : Cond) ∈ gw := gw_in (List.mem_of_getElem? (i := 496) (by decide +kernel)) (by decide +kernel)
theorem wd_497 : (.code y_P_keyY c_P_keyY 2 (some .long) : Cond) ∈ gw := gw_in (List.mem_of_getElem? (i := 497) (by decide +kernel)) (by decide +kernel)
theorem wd_498 : (.constantLong "PixelSnapper" 155 (1073741823 : Int64) : Cond) ∈ gw := gw_in (List.mem_of_getElem? (i := 498) (by decide +kernel)) (by decide +kernel)
theorem wd_499 : (.methodLink "PixelSnapper" 107 y_S_enters : Cond) ∈ gw := gw_in (List.mem_of_getElem? (i := 499) (by decide +kernel)) (by decide +kernel)
theorem wd_500 : (.instanceMethod y_S_enters : Cond) ∈ gw := gw_in (List.mem_of_getElem? (i := 500) (by decide +kernel)) (by decide +kernel)
theorem wd_501 : (.selects "PixelSnapper$Segment" y_S_enters y_S_enters : Cond) ∈ gw := gw_in (List.mem_of_getElem? (i := 501) (by decide +kernel)) (by decide +kernel)
theorem wd_502 : (.code y_S_enters c_S_enters 5 (some .boolean) : Cond) ∈ gw := gw_in (List.mem_of_getElem? (i := 502) (by decide +kernel)) (by decide +kernel)
theorem wd_503 : (.methodLink "PixelSnapper$Segment" 54 y_S_lineEnters : Cond) ∈ gw := gw_in (List.mem_of_getElem? (i := 503) (by decide +kernel)) (by decide +kernel)
theorem wd_505 : (.instanceMethod y_S_lineEnters : Cond) ∈ gw := gw_in (List.mem_of_getElem? (i := 505) (by decide +kernel)) (by decide +kernel)
theorem wd_506 : (.code y_S_lineEnters c_S_lineEnters 17 (some .boolean) : Cond) ∈ gw := gw_in (List.mem_of_getElem? (i := 506) (by decide +kernel)) (by decide +kernel)
theorem wd_507 : (.constantLong "PixelSnapper$Segment" 58 (-2 : Int64) : Cond) ∈ gw := gw_in (List.mem_of_getElem? (i := 507) (by decide +kernel)) (by decide +kernel)
theorem wd_508 : (.methodLink "PixelSnapper" 199 y_P_orderPlaces : Cond) ∈ gw := gw_in (List.mem_of_getElem? (i := 508) (by decide +kernel)) (by decide +kernel)
theorem wd_510 : (.instanceMethod y_P_orderPlaces : Cond) ∈ gw := gw_in (List.mem_of_getElem? (i := 510) (by decide +kernel)) (by decide +kernel)
theorem wd_511 : (.code y_P_orderPlaces c_P_orderPlaces 3 none : Cond) ∈ gw := gw_in (List.mem_of_getElem? (i := 511) (by decide +kernel)) (by decide +kernel)
theorem wd_512 : (.methodLink "PixelSnapper" 213 y_S_goesLeft : Cond) ∈ gw := gw_in (List.mem_of_getElem? (i := 512) (by decide +kernel)) (by decide +kernel)
theorem wd_513 : (.instanceMethod y_S_goesLeft : Cond) ∈ gw := gw_in (List.mem_of_getElem? (i := 513) (by decide +kernel)) (by decide +kernel)
theorem wd_514 : (.selects "PixelSnapper$Segment" y_S_goesLeft y_S_goesLeft : Cond) ∈ gw := gw_in (List.mem_of_getElem? (i := 514) (by decide +kernel)) (by decide +kernel)
theorem wd_515 : (.code y_S_goesLeft c_S_goesLeft 1 (some .boolean) : Cond) ∈ gw := gw_in (List.mem_of_getElem? (i := 515) (by decide +kernel)) (by decide +kernel)
theorem wd_516 : (.methodLink "PixelSnapper" 216 y_R_turnRound : Cond) ∈ gw := gw_in (List.mem_of_getElem? (i := 516) (by decide +kernel)) (by decide +kernel)
theorem wd_517 : (.instanceMethod y_R_turnRound : Cond) ∈ gw := gw_in (List.mem_of_getElem? (i := 517) (by decide +kernel)) (by decide +kernel)
theorem wd_518 : (.selects "PixelSnapper$Row" y_R_turnRound y_R_turnRound : Cond) ∈ gw := gw_in (List.mem_of_getElem? (i := 518) (by decide +kernel)) (by decide +kernel)
theorem wd_519 : (.code y_R_turnRound c_R_turnRound 7 none : Cond) ∈ gw := gw_in (List.mem_of_getElem? (i := 519) (by decide +kernel)) (by decide +kernel)
theorem wd_520 : (.methodLink "PixelSnapper" 220 y_S_goesDown : Cond) ∈ gw := gw_in (List.mem_of_getElem? (i := 520) (by decide +kernel)) (by decide +kernel)
theorem wd_521 : (.instanceMethod y_S_goesDown : Cond) ∈ gw := gw_in (List.mem_of_getElem? (i := 521) (by decide +kernel)) (by decide +kernel)
theorem wd_522 : (.selects "PixelSnapper$Segment" y_S_goesDown y_S_goesDown : Cond) ∈ gw := gw_in (List.mem_of_getElem? (i := 522) (by decide +kernel)) (by decide +kernel)
theorem wd_523 : (.code y_S_goesDown c_S_goesDown 1 (some .boolean) : Cond) ∈ gw := gw_in (List.mem_of_getElem? (i := 523) (by decide +kernel)) (by decide +kernel)
theorem wd_524 : (.methodLink "PixelSnapper" 223 y_P_turnColumnsRound : Cond) ∈ gw := gw_in (List.mem_of_getElem? (i := 524) (by decide +kernel)) (by decide +kernel)
theorem wd_526 : (.instanceMethod y_P_turnColumnsRound : Cond) ∈ gw := gw_in (List.mem_of_getElem? (i := 526) (by decide +kernel)) (by decide +kernel)
theorem wd_527 : (.code y_P_turnColumnsRound c_P_turnColumnsRound 4 none : Cond) ∈ gw := gw_in (List.mem_of_getElem? (i := 527) (by decide +kernel)) (by decide +kernel)
theorem wd_528 : (.methodLink "PixelSnapper" 226 y_P_placeX : Cond) ∈ gw := gw_in (List.mem_of_getElem? (i := 528) (by decide +kernel)) (by decide +kernel)
theorem wd_530 : (.instanceMethod y_P_placeX : Cond) ∈ gw := gw_in (List.mem_of_getElem? (i := 530) (by decide +kernel)) (by decide +kernel)
theorem wd_531 : (.code y_P_placeX c_P_placeX 2 (some .long) : Cond) ∈ gw := gw_in (List.mem_of_getElem? (i := 531) (by decide +kernel)) (by decide +kernel)
theorem wd_532 : (.classLink "PixelSnapper" 84 "java/lang/UnsupportedOperationException" : Cond) ∈ gw := gw_in (List.mem_of_getElem? (i := 532) (by decide +kernel)) (by decide +kernel)
theorem wd_533 : (.instantiable "java/lang/UnsupportedOperationException" 6 : Cond) ∈ gw := gw_in (List.mem_of_getElem? (i := 533) (by decide +kernel)) (by decide +kernel)
theorem wd_535 : (.selects "java/lang/UnsupportedOperationException" y_T_fillInStackTrace_I y_T_fillInStackTrace_I : Cond) ∈ gw := gw_in (List.mem_of_getElem? (i := 535) (by decide +kernel)) (by decide +kernel)
theorem wd_536 : (.lays "java/lang/UnsupportedOperationException" "java/lang/Throwable" "cause" "Ljava/lang/Throwable;" : Cond) ∈ gw := gw_in (List.mem_of_getElem? (i := 536) (by decide +kernel)) (by decide +kernel)
theorem wd_537 : (.lays "java/lang/UnsupportedOperationException" "java/lang/Throwable" "stackTrace" "[Ljava/lang/StackTraceElement;" : Cond) ∈ gw := gw_in (List.mem_of_getElem? (i := 537) (by decide +kernel)) (by decide +kernel)
theorem wd_538 : (.lays "java/lang/UnsupportedOperationException" "java/lang/Throwable" "suppressedExceptions" "Ljava/util/List;" : Cond) ∈ gw := gw_in (List.mem_of_getElem? (i := 538) (by decide +kernel)) (by decide +kernel)
theorem wd_539 : (.lays "java/lang/UnsupportedOperationException" "java/lang/Throwable" "detailMessage" "Ljava/lang/String;" : Cond) ∈ gw := gw_in (List.mem_of_getElem? (i := 539) (by decide +kernel)) (by decide +kernel)
theorem wd_540 : (.lays "java/lang/UnsupportedOperationException" "java/lang/Throwable" "backtrace" "Ljava/lang/Object;" : Cond) ∈ gw := gw_in (List.mem_of_getElem? (i := 540) (by decide +kernel)) (by decide +kernel)
theorem wd_542 : (.methodLink "PixelSnapper" 88 y_EU_init : Cond) ∈ gw := gw_in (List.mem_of_getElem? (i := 542) (by decide +kernel)) (by decide +kernel)
theorem wd_543 : (.instanceMethod y_EU_init : Cond) ∈ gw := gw_in (List.mem_of_getElem? (i := 543) (by decide +kernel)) (by decide +kernel)
theorem wd_544 : (.code y_EU_init c_EU_init 2 none : Cond) ∈ gw := gw_in (List.mem_of_getElem? (i := 544) (by decide +kernel)) (by decide +kernel)
theorem wd_545 : (.methodLink "java/lang/UnsupportedOperationException" 7 y_E_init : Cond) ∈ gw := gw_in (List.mem_of_getElem? (i := 545) (by decide +kernel)) (by decide +kernel)
theorem wd_546 : (.lays "java/lang/UnsupportedOperationException" "java/lang/Throwable" "depth" "I" : Cond) ∈ gw := gw_in (List.mem_of_getElem? (i := 546) (by decide +kernel)) (by decide +kernel)
theorem wd_547 : (.superclass "java/lang/UnsupportedOperationException" "java/lang/RuntimeException" : Cond) ∈ gw := gw_in (List.mem_of_getElem? (i := 547) (by decide +kernel)) (by decide +kernel)
theorem wd_548 : (.methodLink "PixelSnapper" 89 y_P_findPieces : Cond) ∈ gw := gw_in (List.mem_of_getElem? (i := 548) (by decide +kernel)) (by decide +kernel)
theorem wd_550 : (.instanceMethod y_P_findPieces : Cond) ∈ gw := gw_in (List.mem_of_getElem? (i := 550) (by decide +kernel)) (by decide +kernel)
theorem wd_551 : (.code y_P_findPieces c_P_findPieces 7 none : Cond) ∈ gw := gw_in (List.mem_of_getElem? (i := 551) (by decide +kernel)) (by decide +kernel)
theorem wd_552 : (.methodLink "PixelSnapper" 141 y_P_chainStart : Cond) ∈ gw := gw_in (List.mem_of_getElem? (i := 552) (by decide +kernel)) (by decide +kernel)
theorem wd_554 : (.instanceMethod y_P_chainStart : Cond) ∈ gw := gw_in (List.mem_of_getElem? (i := 554) (by decide +kernel)) (by decide +kernel)
theorem wd_555 : (.code y_P_chainStart c_P_chainStart 2 (some .int) : Cond) ∈ gw := gw_in (List.mem_of_getElem? (i := 555) (by decide +kernel)) (by decide +kernel)
theorem wd_556 : (.methodLink "PixelSnapper" 229 y_H_min_JJ : Cond) ∈ gw := gw_in (List.mem_of_getElem? (i := 556) (by decide +kernel)) (by decide +kernel)
theorem wd_557 : (.methodLink "PixelSnapper" 235 y_H_max_JJ : Cond) ∈ gw := gw_in (List.mem_of_getElem? (i := 557) (by decide +kernel)) (by decide +kernel)
theorem wd_558 : (.methodLink "PixelSnapper" 238 y_R_countEqual : Cond) ∈ gw := gw_in (List.mem_of_getElem? (i := 558) (by decide +kernel)) (by decide +kernel)
theorem wd_559 : (.instanceMethod y_R_countEqual : Cond) ∈ gw := gw_in (List.mem_of_getElem? (i := 559) (by decide +kernel)) (by decide +kernel)
theorem wd_560 : (.selects "PixelSnapper$Row" y_R_countEqual y_R_countEqual : Cond) ∈ gw := gw_in (List.mem_of_getElem? (i := 560) (by decide +kernel)) (by decide +kernel)
theorem wd_561 : (.code y_R_countEqual c_R_countEqual 4 none : Cond) ∈ gw := gw_in (List.mem_of_getElem? (i := 561) (by decide +kernel)) (by decide +kernel)
theorem wd_562 : (.methodLink "PixelSnapper$Row" 48 y_R_add : Cond) ∈ gw := gw_in (List.mem_of_getElem? (i := 562) (by decide +kernel)) (by decide +kernel)
theorem wd_563 : (.methodLink "PixelSnapperLaw" 68 y_L_meets : Cond) ∈ gw := gw_in (List.mem_of_getElem? (i := 563) (by decide +kernel)) (by decide +kernel)
theorem wd_564 : (.static y_L_meets : Cond) ∈ gw := gw_in (List.mem_of_getElem? (i := 564) (by decide +kernel)) (by decide +kernel)
theorem wd_565 : (.codeWith y_L_meets c_L_meets 6 (some .int) [(0, 19, 22, 27), (0, 19, 26, 13)] : Cond) ∈ gw := gw_in (List.mem_of_getElem? (i := 565) (by decide +kernel)) (by decide +kernel)
theorem wd_566 : (.classLink "PixelSnapperLaw" 27 "java/lang/IndexOutOfBoundsException" : Cond) ∈ gw := gw_in (List.mem_of_getElem? (i := 566) (by decide +kernel)) (by decide +kernel)
theorem wd_567 : (.methodLink "PixelSnapperLaw" 23 y_P_meets : Cond) ∈ gw := gw_in (List.mem_of_getElem? (i := 567) (by decide +kernel)) (by decide +kernel)
theorem wd_568 : (.instanceMethod y_P_meets : Cond) ∈ gw := gw_in (List.mem_of_getElem? (i := 568) (by decide +kernel)) (by decide +kernel)
theorem wd_569 : (.selects "PixelSnapper" y_P_meets y_P_meets : Cond) ∈ gw := gw_in (List.mem_of_getElem? (i := 569) (by decide +kernel)) (by decide +kernel)
theorem wd_570 : (.code y_P_meets c_P_meets 4 (some .boolean) : Cond) ∈ gw := gw_in (List.mem_of_getElem? (i := 570) (by decide +kernel)) (by decide +kernel)
theorem wd_571 : (.methodLink "PixelSnapper" 93 y_P_hasSegment : Cond) ∈ gw := gw_in (List.mem_of_getElem? (i := 571) (by decide +kernel)) (by decide +kernel)
theorem wd_573 : (.instanceMethod y_P_hasSegment : Cond) ∈ gw := gw_in (List.mem_of_getElem? (i := 573) (by decide +kernel)) (by decide +kernel)
theorem wd_574 : (.code y_P_hasSegment c_P_hasSegment 2 (some .boolean) : Cond) ∈ gw := gw_in (List.mem_of_getElem? (i := 574) (by decide +kernel)) (by decide +kernel)
theorem wd_575 : (.classLink "PixelSnapper" 96 "java/lang/IndexOutOfBoundsException" : Cond) ∈ gw := gw_in (List.mem_of_getElem? (i := 575) (by decide +kernel)) (by decide +kernel)
theorem wd_576 : (.instantiable "java/lang/IndexOutOfBoundsException" 6 : Cond) ∈ gw := gw_in (List.mem_of_getElem? (i := 576) (by decide +kernel)) (by decide +kernel)
theorem wd_578 : (.selects "java/lang/IndexOutOfBoundsException" y_T_fillInStackTrace_I y_T_fillInStackTrace_I : Cond) ∈ gw := gw_in (List.mem_of_getElem? (i := 578) (by decide +kernel)) (by decide +kernel)
theorem wd_579 : (.lays "java/lang/IndexOutOfBoundsException" "java/lang/Throwable" "cause" "Ljava/lang/Throwable;" : Cond) ∈ gw := gw_in (List.mem_of_getElem? (i := 579) (by decide +kernel)) (by decide +kernel)
theorem wd_580 : (.lays "java/lang/IndexOutOfBoundsException" "java/lang/Throwable" "stackTrace" "[Ljava/lang/StackTraceElement;" : Cond) ∈ gw := gw_in (List.mem_of_getElem? (i := 580) (by decide +kernel)) (by decide +kernel)
theorem wd_581 : (.lays "java/lang/IndexOutOfBoundsException" "java/lang/Throwable" "suppressedExceptions" "Ljava/util/List;" : Cond) ∈ gw := gw_in (List.mem_of_getElem? (i := 581) (by decide +kernel)) (by decide +kernel)
theorem wd_582 : (.lays "java/lang/IndexOutOfBoundsException" "java/lang/Throwable" "detailMessage" "Ljava/lang/String;" : Cond) ∈ gw := gw_in (List.mem_of_getElem? (i := 582) (by decide +kernel)) (by decide +kernel)
theorem wd_583 : (.lays "java/lang/IndexOutOfBoundsException" "java/lang/Throwable" "backtrace" "Ljava/lang/Object;" : Cond) ∈ gw := gw_in (List.mem_of_getElem? (i := 583) (by decide +kernel)) (by decide +kernel)
theorem wd_585 : (.methodLink "PixelSnapper" 100 y_EI_init : Cond) ∈ gw := gw_in (List.mem_of_getElem? (i := 585) (by decide +kernel)) (by decide +kernel)
theorem wd_586 : (.instanceMethod y_EI_init : Cond) ∈ gw := gw_in (List.mem_of_getElem? (i := 586) (by decide +kernel)) (by decide +kernel)
theorem wd_587 : (.code y_EI_init c_EI_init 2 none : Cond) ∈ gw := gw_in (List.mem_of_getElem? (i := 587) (by decide +kernel)) (by decide +kernel)
theorem wd_588 : (.methodLink "java/lang/IndexOutOfBoundsException" 7 y_E_init : Cond) ∈ gw := gw_in (List.mem_of_getElem? (i := 588) (by decide +kernel)) (by decide +kernel)
theorem wd_589 : (.lays "java/lang/IndexOutOfBoundsException" "java/lang/Throwable" "depth" "I" : Cond) ∈ gw := gw_in (List.mem_of_getElem? (i := 589) (by decide +kernel)) (by decide +kernel)
theorem wd_590 : (.superclass "java/lang/IndexOutOfBoundsException" "java/lang/RuntimeException" : Cond) ∈ gw := gw_in (List.mem_of_getElem? (i := 590) (by decide +kernel)) (by decide +kernel)
theorem wd_592 : (.methodLink "PixelSnapperLaw" 72 y_L_crossing : Cond) ∈ gw := gw_in (List.mem_of_getElem? (i := 592) (by decide +kernel)) (by decide +kernel)
theorem wd_593 : (.static y_L_crossing : Cond) ∈ gw := gw_in (List.mem_of_getElem? (i := 593) (by decide +kernel)) (by decide +kernel)
theorem wd_594 : (.codeWith y_L_crossing c_L_crossing 6 (some .int) [(0, 12, 15, 27), (0, 12, 19, 15)] : Cond) ∈ gw := gw_in (List.mem_of_getElem? (i := 594) (by decide +kernel)) (by decide +kernel)
theorem wd_595 : (.methodLink "PixelSnapperLaw" 29 y_P_crossing : Cond) ∈ gw := gw_in (List.mem_of_getElem? (i := 595) (by decide +kernel)) (by decide +kernel)
theorem wd_596 : (.instanceMethod y_P_crossing : Cond) ∈ gw := gw_in (List.mem_of_getElem? (i := 596) (by decide +kernel)) (by decide +kernel)
theorem wd_597 : (.selects "PixelSnapper" y_P_crossing y_P_crossing : Cond) ∈ gw := gw_in (List.mem_of_getElem? (i := 597) (by decide +kernel)) (by decide +kernel)
theorem wd_598 : (.code y_P_crossing c_P_crossing 6 (some .int) : Cond) ∈ gw := gw_in (List.mem_of_getElem? (i := 598) (by decide +kernel)) (by decide +kernel)
theorem wd_599 : (.methodLink "PixelSnapper" 111 y_P_isXOrY : Cond) ∈ gw := gw_in (List.mem_of_getElem? (i := 599) (by decide +kernel)) (by decide +kernel)
theorem wd_600 : (.static y_P_isXOrY : Cond) ∈ gw := gw_in (List.mem_of_getElem? (i := 600) (by decide +kernel)) (by decide +kernel)
theorem wd_601 : (.code y_P_isXOrY c_P_isXOrY 1 (some .boolean) : Cond) ∈ gw := gw_in (List.mem_of_getElem? (i := 601) (by decide +kernel)) (by decide +kernel)
theorem wd_604 : (.methodLink "PixelSnapper" 126 y_P_keyPart : Cond) ∈ gw := gw_in (List.mem_of_getElem? (i := 604) (by decide +kernel)) (by decide +kernel)
theorem wd_605 : (.static y_P_keyPart : Cond) ∈ gw := gw_in (List.mem_of_getElem? (i := 605) (by decide +kernel)) (by decide +kernel)
theorem wd_606 : (.code y_P_keyPart c_P_keyPart 3 (some .int) : Cond) ∈ gw := gw_in (List.mem_of_getElem? (i := 606) (by decide +kernel)) (by decide +kernel)
theorem wd_607 : (.methodLink "PixelSnapperLaw" 75 y_L_pixel : Cond) ∈ gw := gw_in (List.mem_of_getElem? (i := 607) (by decide +kernel)) (by decide +kernel)
theorem wd_608 : (.static y_L_pixel : Cond) ∈ gw := gw_in (List.mem_of_getElem? (i := 608) (by decide +kernel)) (by decide +kernel)
theorem wd_609 : (.codeWith y_L_pixel c_L_pixel 5 (some .int) [(0, 10, 13, 27)] : Cond) ∈ gw := gw_in (List.mem_of_getElem? (i := 609) (by decide +kernel)) (by decide +kernel)
theorem wd_610 : (.methodLink "PixelSnapperLaw" 33 y_P_pixel : Cond) ∈ gw := gw_in (List.mem_of_getElem? (i := 610) (by decide +kernel)) (by decide +kernel)
theorem wd_611 : (.instanceMethod y_P_pixel : Cond) ∈ gw := gw_in (List.mem_of_getElem? (i := 611) (by decide +kernel)) (by decide +kernel)
theorem wd_612 : (.selects "PixelSnapper" y_P_pixel y_P_pixel : Cond) ∈ gw := gw_in (List.mem_of_getElem? (i := 612) (by decide +kernel)) (by decide +kernel)
theorem wd_613 : (.code y_P_pixel c_P_pixel 3 (some .int) : Cond) ∈ gw := gw_in (List.mem_of_getElem? (i := 613) (by decide +kernel)) (by decide +kernel)
theorem wd_614 : (.methodLink "PixelSnapper" 130 y_R_has : Cond) ∈ gw := gw_in (List.mem_of_getElem? (i := 614) (by decide +kernel)) (by decide +kernel)
theorem wd_616 : (.methodLink "PixelSnapperLaw" 79 y_L_chain : Cond) ∈ gw := gw_in (List.mem_of_getElem? (i := 616) (by decide +kernel)) (by decide +kernel)
theorem wd_617 : (.static y_L_chain : Cond) ∈ gw := gw_in (List.mem_of_getElem? (i := 617) (by decide +kernel)) (by decide +kernel)
theorem wd_618 : (.codeWith y_L_chain c_L_chain 4 (some .int) [(0, 9, 12, 27), (0, 9, 15, 15)] : Cond) ∈ gw := gw_in (List.mem_of_getElem? (i := 618) (by decide +kernel)) (by decide +kernel)
theorem wd_619 : (.methodLink "PixelSnapperLaw" 37 y_P_chain : Cond) ∈ gw := gw_in (List.mem_of_getElem? (i := 619) (by decide +kernel)) (by decide +kernel)
theorem wd_620 : (.instanceMethod y_P_chain : Cond) ∈ gw := gw_in (List.mem_of_getElem? (i := 620) (by decide +kernel)) (by decide +kernel)
theorem wd_621 : (.selects "PixelSnapper" y_P_chain y_P_chain : Cond) ∈ gw := gw_in (List.mem_of_getElem? (i := 621) (by decide +kernel)) (by decide +kernel)
theorem wd_622 : (.code y_P_chain c_P_chain 2 (some .int) : Cond) ∈ gw := gw_in (List.mem_of_getElem? (i := 622) (by decide +kernel)) (by decide +kernel)
theorem wd_624 : (.methodLink "PixelSnapperLaw" 83 y_L_chainAt : Cond) ∈ gw := gw_in (List.mem_of_getElem? (i := 624) (by decide +kernel)) (by decide +kernel)
theorem wd_625 : (.static y_L_chainAt : Cond) ∈ gw := gw_in (List.mem_of_getElem? (i := 625) (by decide +kernel)) (by decide +kernel)
theorem wd_626 : (.codeWith y_L_chainAt c_L_chainAt 5 (some .int) [(0, 10, 13, 27), (0, 10, 17, 15)] : Cond) ∈ gw := gw_in (List.mem_of_getElem? (i := 626) (by decide +kernel)) (by decide +kernel)
theorem wd_627 : (.methodLink "PixelSnapperLaw" 41 y_P_chainAt : Cond) ∈ gw := gw_in (List.mem_of_getElem? (i := 627) (by decide +kernel)) (by decide +kernel)
theorem wd_628 : (.instanceMethod y_P_chainAt : Cond) ∈ gw := gw_in (List.mem_of_getElem? (i := 628) (by decide +kernel)) (by decide +kernel)
theorem wd_629 : (.selects "PixelSnapper" y_P_chainAt y_P_chainAt : Cond) ∈ gw := gw_in (List.mem_of_getElem? (i := 629) (by decide +kernel)) (by decide +kernel)
theorem wd_630 : (.code y_P_chainAt c_P_chainAt 4 (some .int) : Cond) ∈ gw := gw_in (List.mem_of_getElem? (i := 630) (by decide +kernel)) (by decide +kernel)
theorem wd_632 : (.methodLink "PixelSnapperLaw" 86 y_L_piece : Cond) ∈ gw := gw_in (List.mem_of_getElem? (i := 632) (by decide +kernel)) (by decide +kernel)
theorem wd_633 : (.static y_L_piece : Cond) ∈ gw := gw_in (List.mem_of_getElem? (i := 633) (by decide +kernel)) (by decide +kernel)
theorem wd_634 : (.codeWith y_L_piece c_L_piece 5 (some .int) [(0, 10, 13, 27)] : Cond) ∈ gw := gw_in (List.mem_of_getElem? (i := 634) (by decide +kernel)) (by decide +kernel)
theorem wd_635 : (.methodLink "PixelSnapperLaw" 44 y_P_piece : Cond) ∈ gw := gw_in (List.mem_of_getElem? (i := 635) (by decide +kernel)) (by decide +kernel)
theorem wd_636 : (.instanceMethod y_P_piece : Cond) ∈ gw := gw_in (List.mem_of_getElem? (i := 636) (by decide +kernel)) (by decide +kernel)
theorem wd_637 : (.selects "PixelSnapper" y_P_piece y_P_piece : Cond) ∈ gw := gw_in (List.mem_of_getElem? (i := 637) (by decide +kernel)) (by decide +kernel)
theorem wd_638 : (.code y_P_piece c_P_piece 5 (some .int) : Cond) ∈ gw := gw_in (List.mem_of_getElem? (i := 638) (by decide +kernel)) (by decide +kernel)
theorem wd_640 : (.constantLong "PixelSnapper" 149 (8191 : Int64) : Cond) ∈ gw := gw_in (List.mem_of_getElem? (i := 640) (by decide +kernel)) (by decide +kernel)
theorem wd_641 : (.classLink "PixelSnapperLaw" 48 "PixelSnapperModel" : Cond) ∈ gw := gw_in (List.mem_of_getElem? (i := 641) (by decide +kernel)) (by decide +kernel)
theorem wd_642 : (.instantiable "PixelSnapperModel" 24 : Cond) ∈ gw := gw_in (List.mem_of_getElem? (i := 642) (by decide +kernel)) (by decide +kernel)
theorem wd_643 : (.methodLink "PixelSnapperLaw" 50 y_M_init : Cond) ∈ gw := gw_in (List.mem_of_getElem? (i := 643) (by decide +kernel)) (by decide +kernel)
theorem wd_644 : (.instanceMethod y_M_init : Cond) ∈ gw := gw_in (List.mem_of_getElem? (i := 644) (by decide +kernel)) (by decide +kernel)
theorem wd_645 : (.code y_M_init c_M_init 1 none : Cond) ∈ gw := gw_in (List.mem_of_getElem? (i := 645) (by decide +kernel)) (by decide +kernel)
theorem wd_646 : (.methodLink "PixelSnapperModel" 1 y_J_init : Cond) ∈ gw := gw_in (List.mem_of_getElem? (i := 646) (by decide +kernel)) (by decide +kernel)
theorem wd_647 : (.constant "PixelSnapperModel" 22 (65536 : Int32) : Cond) ∈ gw := gw_in (List.mem_of_getElem? (i := 647) (by decide +kernel)) (by decide +kernel)
theorem wd_648 : (.fieldLink "PixelSnapperModel" 46 "PixelSnapperModel" "thrown" "I" : Cond) ∈ gw := gw_in (List.mem_of_getElem? (i := 648) (by decide +kernel)) (by decide +kernel)
theorem wd_649 : (.fieldLink "PixelSnapperModel" 56 "PixelSnapperModel" "segments" "I" : Cond) ∈ gw := gw_in (List.mem_of_getElem? (i := 649) (by decide +kernel)) (by decide +kernel)
theorem wd_650 : (.fieldLink "PixelSnapperModel" 7 "PixelSnapperModel" "ends" "[I" : Cond) ∈ gw := gw_in (List.mem_of_getElem? (i := 650) (by decide +kernel)) (by decide +kernel)
theorem wd_651 : (.fieldLink "PixelSnapperModel" 59 "PixelSnapperModel" "snapped" "Z" : Cond) ∈ gw := gw_in (List.mem_of_getElem? (i := 651) (by decide +kernel)) (by decide +kernel)
theorem wd_652 : (.fieldLink "PixelSnapperModel" 63 "PixelSnapperModel" "hot" "I" : Cond) ∈ gw := gw_in (List.mem_of_getElem? (i := 652) (by decide +kernel)) (by decide +kernel)
theorem wd_653 : (.fieldLink "PixelSnapperModel" 13 "PixelSnapperModel" "hotX" "[I" : Cond) ∈ gw := gw_in (List.mem_of_getElem? (i := 653) (by decide +kernel)) (by decide +kernel)
theorem wd_654 : (.fieldLink "PixelSnapperModel" 16 "PixelSnapperModel" "hotY" "[I" : Cond) ∈ gw := gw_in (List.mem_of_getElem? (i := 654) (by decide +kernel)) (by decide +kernel)
theorem wd_655 : (.fieldLink "PixelSnapperModel" 19 "PixelSnapperModel" "begins" "[I" : Cond) ∈ gw := gw_in (List.mem_of_getElem? (i := 655) (by decide +kernel)) (by decide +kernel)
theorem wd_656 : (.fieldLink "PixelSnapperModel" 23 "PixelSnapperModel" "places" "[I" : Cond) ∈ gw := gw_in (List.mem_of_getElem? (i := 656) (by decide +kernel)) (by decide +kernel)
theorem wd_657 : (.fieldLink "PixelSnapperModel" 66 "PixelSnapperModel" "pieces" "I" : Cond) ∈ gw := gw_in (List.mem_of_getElem? (i := 657) (by decide +kernel)) (by decide +kernel)
theorem wd_658 : (.fieldLink "PixelSnapperModel" 26 "PixelSnapperModel" "lows" "[I" : Cond) ∈ gw := gw_in (List.mem_of_getElem? (i := 658) (by decide +kernel)) (by decide +kernel)
theorem wd_659 : (.fieldLink "PixelSnapperModel" 29 "PixelSnapperModel" "highs" "[I" : Cond) ∈ gw := gw_in (List.mem_of_getElem? (i := 659) (by decide +kernel)) (by decide +kernel)
theorem wd_660 : (.fieldLink "PixelSnapperModel" 32 "PixelSnapperModel" "often" "[I" : Cond) ∈ gw := gw_in (List.mem_of_getElem? (i := 660) (by decide +kernel)) (by decide +kernel)
theorem wd_661 : (.fieldLink "PixelSnapperModel" 130 "PixelSnapperModel" "crossX" "I" : Cond) ∈ gw := gw_in (List.mem_of_getElem? (i := 661) (by decide +kernel)) (by decide +kernel)
theorem wd_662 : (.fieldLink "PixelSnapperModel" 133 "PixelSnapperModel" "crossY" "I" : Cond) ∈ gw := gw_in (List.mem_of_getElem? (i := 662) (by decide +kernel)) (by decide +kernel)
theorem wd_663 : (.fieldLink "PixelSnapperModel" 80 "PixelSnapperModel" "fromOver" "J" : Cond) ∈ gw := gw_in (List.mem_of_getElem? (i := 663) (by decide +kernel)) (by decide +kernel)
theorem wd_664 : (.fieldLink "PixelSnapperModel" 84 "PixelSnapperModel" "fromUnder" "J" : Cond) ∈ gw := gw_in (List.mem_of_getElem? (i := 664) (by decide +kernel)) (by decide +kernel)
theorem wd_665 : (.fieldLink "PixelSnapperModel" 94 "PixelSnapperModel" "toOver" "J" : Cond) ∈ gw := gw_in (List.mem_of_getElem? (i := 665) (by decide +kernel)) (by decide +kernel)
theorem wd_666 : (.fieldLink "PixelSnapperModel" 97 "PixelSnapperModel" "toUnder" "J" : Cond) ∈ gw := gw_in (List.mem_of_getElem? (i := 666) (by decide +kernel)) (by decide +kernel)
theorem wd_667 : (.fieldLink "PixelSnapperModel" 91 "PixelSnapperModel" "fromIn" "Z" : Cond) ∈ gw := gw_in (List.mem_of_getElem? (i := 667) (by decide +kernel)) (by decide +kernel)
theorem wd_668 : (.fieldLink "PixelSnapperModel" 100 "PixelSnapperModel" "toIn" "Z" : Cond) ∈ gw := gw_in (List.mem_of_getElem? (i := 668) (by decide +kernel)) (by decide +kernel)
theorem wd_669 : (.fieldLink "PixelSnapperModel" 35 "PixelSnapperModel" "overs" "[J" : Cond) ∈ gw := gw_in (List.mem_of_getElem? (i := 669) (by decide +kernel)) (by decide +kernel)
theorem wd_670 : (.fieldLink "PixelSnapperModel" 39 "PixelSnapperModel" "unders" "[J" : Cond) ∈ gw := gw_in (List.mem_of_getElem? (i := 670) (by decide +kernel)) (by decide +kernel)
theorem wd_671 : (.fieldLink "PixelSnapperModel" 42 "PixelSnapperModel" "closed" "[Z" : Cond) ∈ gw := gw_in (List.mem_of_getElem? (i := 671) (by decide +kernel)) (by decide +kernel)
theorem wd_672 : (.lays "PixelSnapperModel" "PixelSnapperModel" "thrown" "I" : Cond) ∈ gw := gw_in (List.mem_of_getElem? (i := 672) (by decide +kernel)) (by decide +kernel)
theorem wd_674 : (.lays "PixelSnapperModel" "PixelSnapperModel" "segments" "I" : Cond) ∈ gw := gw_in (List.mem_of_getElem? (i := 674) (by decide +kernel)) (by decide +kernel)
theorem wd_676 : (.laysFinal "PixelSnapperModel" "PixelSnapperModel" "ends" "[I" : Cond) ∈ gw := gw_in (List.mem_of_getElem? (i := 676) (by decide +kernel)) (by decide +kernel)
theorem wd_678 : (.lays "PixelSnapperModel" "PixelSnapperModel" "snapped" "Z" : Cond) ∈ gw := gw_in (List.mem_of_getElem? (i := 678) (by decide +kernel)) (by decide +kernel)
theorem wd_680 : (.lays "PixelSnapperModel" "PixelSnapperModel" "hot" "I" : Cond) ∈ gw := gw_in (List.mem_of_getElem? (i := 680) (by decide +kernel)) (by decide +kernel)
theorem wd_682 : (.laysFinal "PixelSnapperModel" "PixelSnapperModel" "hotX" "[I" : Cond) ∈ gw := gw_in (List.mem_of_getElem? (i := 682) (by decide +kernel)) (by decide +kernel)
theorem wd_684 : (.laysFinal "PixelSnapperModel" "PixelSnapperModel" "hotY" "[I" : Cond) ∈ gw := gw_in (List.mem_of_getElem? (i := 684) (by decide +kernel)) (by decide +kernel)
theorem wd_686 : (.laysFinal "PixelSnapperModel" "PixelSnapperModel" "begins" "[I" : Cond) ∈ gw := gw_in (List.mem_of_getElem? (i := 686) (by decide +kernel)) (by decide +kernel)
theorem wd_688 : (.laysFinal "PixelSnapperModel" "PixelSnapperModel" "places" "[I" : Cond) ∈ gw := gw_in (List.mem_of_getElem? (i := 688) (by decide +kernel)) (by decide +kernel)
theorem wd_690 : (.lays "PixelSnapperModel" "PixelSnapperModel" "pieces" "I" : Cond) ∈ gw := gw_in (List.mem_of_getElem? (i := 690) (by decide +kernel)) (by decide +kernel)
theorem wd_692 : (.laysFinal "PixelSnapperModel" "PixelSnapperModel" "lows" "[I" : Cond) ∈ gw := gw_in (List.mem_of_getElem? (i := 692) (by decide +kernel)) (by decide +kernel)
theorem wd_694 : (.laysFinal "PixelSnapperModel" "PixelSnapperModel" "highs" "[I" : Cond) ∈ gw := gw_in (List.mem_of_getElem? (i := 694) (by decide +kernel)) (by decide +kernel)
theorem wd_696 : (.laysFinal "PixelSnapperModel" "PixelSnapperModel" "often" "[I" : Cond) ∈ gw := gw_in (List.mem_of_getElem? (i := 696) (by decide +kernel)) (by decide +kernel)
theorem wd_698 : (.lays "PixelSnapperModel" "PixelSnapperModel" "crossX" "I" : Cond) ∈ gw := gw_in (List.mem_of_getElem? (i := 698) (by decide +kernel)) (by decide +kernel)
theorem wd_700 : (.lays "PixelSnapperModel" "PixelSnapperModel" "crossY" "I" : Cond) ∈ gw := gw_in (List.mem_of_getElem? (i := 700) (by decide +kernel)) (by decide +kernel)
theorem wd_702 : (.lays "PixelSnapperModel" "PixelSnapperModel" "fromOver" "J" : Cond) ∈ gw := gw_in (List.mem_of_getElem? (i := 702) (by decide +kernel)) (by decide +kernel)
theorem wd_704 : (.lays "PixelSnapperModel" "PixelSnapperModel" "fromUnder" "J" : Cond) ∈ gw := gw_in (List.mem_of_getElem? (i := 704) (by decide +kernel)) (by decide +kernel)
theorem wd_706 : (.lays "PixelSnapperModel" "PixelSnapperModel" "toOver" "J" : Cond) ∈ gw := gw_in (List.mem_of_getElem? (i := 706) (by decide +kernel)) (by decide +kernel)
theorem wd_708 : (.lays "PixelSnapperModel" "PixelSnapperModel" "toUnder" "J" : Cond) ∈ gw := gw_in (List.mem_of_getElem? (i := 708) (by decide +kernel)) (by decide +kernel)
theorem wd_710 : (.lays "PixelSnapperModel" "PixelSnapperModel" "fromIn" "Z" : Cond) ∈ gw := gw_in (List.mem_of_getElem? (i := 710) (by decide +kernel)) (by decide +kernel)
theorem wd_712 : (.lays "PixelSnapperModel" "PixelSnapperModel" "toIn" "Z" : Cond) ∈ gw := gw_in (List.mem_of_getElem? (i := 712) (by decide +kernel)) (by decide +kernel)
theorem wd_714 : (.laysFinal "PixelSnapperModel" "PixelSnapperModel" "overs" "[J" : Cond) ∈ gw := gw_in (List.mem_of_getElem? (i := 714) (by decide +kernel)) (by decide +kernel)
theorem wd_716 : (.laysFinal "PixelSnapperModel" "PixelSnapperModel" "unders" "[J" : Cond) ∈ gw := gw_in (List.mem_of_getElem? (i := 716) (by decide +kernel)) (by decide +kernel)
theorem wd_718 : (.laysFinal "PixelSnapperModel" "PixelSnapperModel" "closed" "[Z" : Cond) ∈ gw := gw_in (List.mem_of_getElem? (i := 718) (by decide +kernel)) (by decide +kernel)
theorem wd_720 : (.superclass "PixelSnapperModel" "java/lang/Object" : Cond) ∈ gw := gw_in (List.mem_of_getElem? (i := 720) (by decide +kernel)) (by decide +kernel)
theorem wd_721 : (.arrayClass .int : Cond) ∈ gw := gw_in (List.mem_of_getElem? (i := 721) (by decide +kernel)) (by decide +kernel)
theorem wd_722 : (.arrayClass .boolean : Cond) ∈ gw := gw_in (List.mem_of_getElem? (i := 722) (by decide +kernel)) (by decide +kernel)
theorem wd_723 : (.methodLink "PixelSnapperLaw" 57 y_M_thrown : Cond) ∈ gw := gw_in (List.mem_of_getElem? (i := 723) (by decide +kernel)) (by decide +kernel)
theorem wd_724 : (.instanceMethod y_M_thrown : Cond) ∈ gw := gw_in (List.mem_of_getElem? (i := 724) (by decide +kernel)) (by decide +kernel)
theorem wd_725 : (.selects "PixelSnapperModel" y_M_thrown y_M_thrown : Cond) ∈ gw := gw_in (List.mem_of_getElem? (i := 725) (by decide +kernel)) (by decide +kernel)
theorem wd_726 : (.code y_M_thrown c_M_thrown 1 (some .int) : Cond) ∈ gw := gw_in (List.mem_of_getElem? (i := 726) (by decide +kernel)) (by decide +kernel)
theorem wd_727 : (.methodLink "PixelSnapperLaw" 56 y_M_segment : Cond) ∈ gw := gw_in (List.mem_of_getElem? (i := 727) (by decide +kernel)) (by decide +kernel)
theorem wd_728 : (.instanceMethod y_M_segment : Cond) ∈ gw := gw_in (List.mem_of_getElem? (i := 728) (by decide +kernel)) (by decide +kernel)
theorem wd_729 : (.selects "PixelSnapperModel" y_M_segment y_M_segment : Cond) ∈ gw := gw_in (List.mem_of_getElem? (i := 729) (by decide +kernel)) (by decide +kernel)
theorem wd_730 : (.code y_M_segment c_M_segment 6 (some .int) : Cond) ∈ gw := gw_in (List.mem_of_getElem? (i := 730) (by decide +kernel)) (by decide +kernel)
theorem wd_731 : (.methodLink "PixelSnapperModel" 69 y_M_isFar : Cond) ∈ gw := gw_in (List.mem_of_getElem? (i := 731) (by decide +kernel)) (by decide +kernel)
theorem wd_732 : (.static y_M_isFar : Cond) ∈ gw := gw_in (List.mem_of_getElem? (i := 732) (by decide +kernel)) (by decide +kernel)
theorem wd_733 : (.code y_M_isFar c_M_isFar 1 (some .boolean) : Cond) ∈ gw := gw_in (List.mem_of_getElem? (i := 733) (by decide +kernel)) (by decide +kernel)
theorem wd_734 : (.constant "PixelSnapperModel" 50 (-500000000 : Int32) : Cond) ∈ gw := gw_in (List.mem_of_getElem? (i := 734) (by decide +kernel)) (by decide +kernel)
theorem wd_735 : (.constant "PixelSnapperModel" 51 (500000000 : Int32) : Cond) ∈ gw := gw_in (List.mem_of_getElem? (i := 735) (by decide +kernel)) (by decide +kernel)
theorem wd_736 : (.methodLink "PixelSnapperModel" 52 y_M_within : Cond) ∈ gw := gw_in (List.mem_of_getElem? (i := 736) (by decide +kernel)) (by decide +kernel)
theorem wd_737 : (.static y_M_within : Cond) ∈ gw := gw_in (List.mem_of_getElem? (i := 737) (by decide +kernel)) (by decide +kernel)
theorem wd_738 : (.code y_M_within c_M_within 3 (some .boolean) : Cond) ∈ gw := gw_in (List.mem_of_getElem? (i := 738) (by decide +kernel)) (by decide +kernel)
theorem wd_739 : (.methodLink "PixelSnapperModel" 73 y_M_fail : Cond) ∈ gw := gw_in (List.mem_of_getElem? (i := 739) (by decide +kernel)) (by decide +kernel)
theorem wd_741 : (.instanceMethod y_M_fail : Cond) ∈ gw := gw_in (List.mem_of_getElem? (i := 741) (by decide +kernel)) (by decide +kernel)
theorem wd_742 : (.code y_M_fail c_M_fail 2 (some .int) : Cond) ∈ gw := gw_in (List.mem_of_getElem? (i := 742) (by decide +kernel)) (by decide +kernel)
theorem wd_743 : (.methodLink "PixelSnapperModel" 77 y_M_forget : Cond) ∈ gw := gw_in (List.mem_of_getElem? (i := 743) (by decide +kernel)) (by decide +kernel)
theorem wd_745 : (.instanceMethod y_M_forget : Cond) ∈ gw := gw_in (List.mem_of_getElem? (i := 745) (by decide +kernel)) (by decide +kernel)
theorem wd_746 : (.code y_M_forget c_M_forget 2 none : Cond) ∈ gw := gw_in (List.mem_of_getElem? (i := 746) (by decide +kernel)) (by decide +kernel)
theorem wd_747 : (.methodLink "PixelSnapperLaw" 63 y_M_clear : Cond) ∈ gw := gw_in (List.mem_of_getElem? (i := 747) (by decide +kernel)) (by decide +kernel)
theorem wd_748 : (.instanceMethod y_M_clear : Cond) ∈ gw := gw_in (List.mem_of_getElem? (i := 748) (by decide +kernel)) (by decide +kernel)
theorem wd_749 : (.selects "PixelSnapperModel" y_M_clear y_M_clear : Cond) ∈ gw := gw_in (List.mem_of_getElem? (i := 749) (by decide +kernel)) (by decide +kernel)
theorem wd_750 : (.code y_M_clear c_M_clear 2 (some .int) : Cond) ∈ gw := gw_in (List.mem_of_getElem? (i := 750) (by decide +kernel)) (by decide +kernel)
theorem wd_751 : (.methodLink "PixelSnapperLaw" 71 y_M_meets : Cond) ∈ gw := gw_in (List.mem_of_getElem? (i := 751) (by decide +kernel)) (by decide +kernel)
theorem wd_752 : (.instanceMethod y_M_meets : Cond) ∈ gw := gw_in (List.mem_of_getElem? (i := 752) (by decide +kernel)) (by decide +kernel)
theorem wd_753 : (.selects "PixelSnapperModel" y_M_meets y_M_meets : Cond) ∈ gw := gw_in (List.mem_of_getElem? (i := 753) (by decide +kernel)) (by decide +kernel)
theorem wd_754 : (.code y_M_meets c_M_meets 4 (some .boolean) : Cond) ∈ gw := gw_in (List.mem_of_getElem? (i := 754) (by decide +kernel)) (by decide +kernel)
theorem wd_755 : (.methodLink "PixelSnapperModel" 116 y_M_isSegment : Cond) ∈ gw := gw_in (List.mem_of_getElem? (i := 755) (by decide +kernel)) (by decide +kernel)
theorem wd_757 : (.instanceMethod y_M_isSegment : Cond) ∈ gw := gw_in (List.mem_of_getElem? (i := 757) (by decide +kernel)) (by decide +kernel)
theorem wd_758 : (.code y_M_isSegment c_M_isSegment 2 (some .boolean) : Cond) ∈ gw := gw_in (List.mem_of_getElem? (i := 758) (by decide +kernel)) (by decide +kernel)
theorem wd_759 : (.methodLink "PixelSnapperModel" 119 y_M_isIn : Cond) ∈ gw := gw_in (List.mem_of_getElem? (i := 759) (by decide +kernel)) (by decide +kernel)
theorem wd_761 : (.instanceMethod y_M_isIn : Cond) ∈ gw := gw_in (List.mem_of_getElem? (i := 761) (by decide +kernel)) (by decide +kernel)
theorem wd_762 : (.code y_M_isIn c_M_isIn 7 (some .boolean) : Cond) ∈ gw := gw_in (List.mem_of_getElem? (i := 762) (by decide +kernel)) (by decide +kernel)
theorem wd_763 : (.constantLong "PixelSnapperModel" 103 (2 : Int64) : Cond) ∈ gw := gw_in (List.mem_of_getElem? (i := 763) (by decide +kernel)) (by decide +kernel)
theorem wd_764 : (.methodLink "PixelSnapperModel" 112 y_M_along : Cond) ∈ gw := gw_in (List.mem_of_getElem? (i := 764) (by decide +kernel)) (by decide +kernel)
theorem wd_766 : (.instanceMethod y_M_along : Cond) ∈ gw := gw_in (List.mem_of_getElem? (i := 766) (by decide +kernel)) (by decide +kernel)
theorem wd_767 : (.code y_M_along c_M_along 7 (some .boolean) : Cond) ∈ gw := gw_in (List.mem_of_getElem? (i := 767) (by decide +kernel)) (by decide +kernel)
theorem wd_768 : (.methodLink "PixelSnapperModel" 105 y_M_raise : Cond) ∈ gw := gw_in (List.mem_of_getElem? (i := 768) (by decide +kernel)) (by decide +kernel)
theorem wd_770 : (.instanceMethod y_M_raise : Cond) ∈ gw := gw_in (List.mem_of_getElem? (i := 770) (by decide +kernel)) (by decide +kernel)
theorem wd_771 : (.code y_M_raise c_M_raise 7 none : Cond) ∈ gw := gw_in (List.mem_of_getElem? (i := 771) (by decide +kernel)) (by decide +kernel)
theorem wd_772 : (.methodLink "PixelSnapperModel" 87 y_M_compare : Cond) ∈ gw := gw_in (List.mem_of_getElem? (i := 772) (by decide +kernel)) (by decide +kernel)
theorem wd_773 : (.static y_M_compare : Cond) ∈ gw := gw_in (List.mem_of_getElem? (i := 773) (by decide +kernel)) (by decide +kernel)
theorem wd_774 : (.code y_M_compare c_M_compare 12 (some .int) : Cond) ∈ gw := gw_in (List.mem_of_getElem? (i := 774) (by decide +kernel)) (by decide +kernel)
theorem wd_775 : (.methodLink "PixelSnapperModel" 109 y_M_reduce : Cond) ∈ gw := gw_in (List.mem_of_getElem? (i := 775) (by decide +kernel)) (by decide +kernel)
theorem wd_777 : (.instanceMethod y_M_reduce : Cond) ∈ gw := gw_in (List.mem_of_getElem? (i := 777) (by decide +kernel)) (by decide +kernel)
theorem wd_778 : (.code y_M_reduce c_M_reduce 7 none : Cond) ∈ gw := gw_in (List.mem_of_getElem? (i := 778) (by decide +kernel)) (by decide +kernel)
theorem wd_779 : (.methodLink "PixelSnapperLaw" 74 y_M_crossing : Cond) ∈ gw := gw_in (List.mem_of_getElem? (i := 779) (by decide +kernel)) (by decide +kernel)
theorem wd_780 : (.instanceMethod y_M_crossing : Cond) ∈ gw := gw_in (List.mem_of_getElem? (i := 780) (by decide +kernel)) (by decide +kernel)
theorem wd_781 : (.selects "PixelSnapperModel" y_M_crossing y_M_crossing : Cond) ∈ gw := gw_in (List.mem_of_getElem? (i := 781) (by decide +kernel)) (by decide +kernel)
theorem wd_782 : (.code y_M_crossing c_M_crossing 4 (some .int) : Cond) ∈ gw := gw_in (List.mem_of_getElem? (i := 782) (by decide +kernel)) (by decide +kernel)
theorem wd_783 : (.methodLink "PixelSnapperModel" 136 y_M_cross : Cond) ∈ gw := gw_in (List.mem_of_getElem? (i := 783) (by decide +kernel)) (by decide +kernel)
theorem wd_785 : (.instanceMethod y_M_cross : Cond) ∈ gw := gw_in (List.mem_of_getElem? (i := 785) (by decide +kernel)) (by decide +kernel)
theorem wd_786 : (.code y_M_cross c_M_cross 21 (some .boolean) : Cond) ∈ gw := gw_in (List.mem_of_getElem? (i := 786) (by decide +kernel)) (by decide +kernel)
theorem wd_787 : (.methodLink "PixelSnapperModel" 122 y_M_end : Cond) ∈ gw := gw_in (List.mem_of_getElem? (i := 787) (by decide +kernel)) (by decide +kernel)
theorem wd_789 : (.instanceMethod y_M_end : Cond) ∈ gw := gw_in (List.mem_of_getElem? (i := 789) (by decide +kernel)) (by decide +kernel)
theorem wd_790 : (.code y_M_end c_M_end 3 (some .long) : Cond) ∈ gw := gw_in (List.mem_of_getElem? (i := 790) (by decide +kernel)) (by decide +kernel)
theorem wd_791 : (.methodLink "PixelSnapperModel" 126 y_M_rounded : Cond) ∈ gw := gw_in (List.mem_of_getElem? (i := 791) (by decide +kernel)) (by decide +kernel)
theorem wd_792 : (.static y_M_rounded : Cond) ∈ gw := gw_in (List.mem_of_getElem? (i := 792) (by decide +kernel)) (by decide +kernel)
theorem wd_793 : (.code y_M_rounded c_M_rounded 13 (some .long) : Cond) ∈ gw := gw_in (List.mem_of_getElem? (i := 793) (by decide +kernel)) (by decide +kernel)
theorem wd_794 : (.methodLink "PixelSnapperLaw" 67 y_M_snap : Cond) ∈ gw := gw_in (List.mem_of_getElem? (i := 794) (by decide +kernel)) (by decide +kernel)
theorem wd_795 : (.instanceMethod y_M_snap : Cond) ∈ gw := gw_in (List.mem_of_getElem? (i := 795) (by decide +kernel)) (by decide +kernel)
theorem wd_796 : (.selects "PixelSnapperModel" y_M_snap y_M_snap : Cond) ∈ gw := gw_in (List.mem_of_getElem? (i := 796) (by decide +kernel)) (by decide +kernel)
theorem wd_797 : (.code y_M_snap c_M_snap 5 (some .int) : Cond) ∈ gw := gw_in (List.mem_of_getElem? (i := 797) (by decide +kernel)) (by decide +kernel)
theorem wd_798 : (.methodLink "PixelSnapperModel" 150 y_M_heatAll : Cond) ∈ gw := gw_in (List.mem_of_getElem? (i := 798) (by decide +kernel)) (by decide +kernel)
theorem wd_800 : (.instanceMethod y_M_heatAll : Cond) ∈ gw := gw_in (List.mem_of_getElem? (i := 800) (by decide +kernel)) (by decide +kernel)
theorem wd_801 : (.code y_M_heatAll c_M_heatAll 4 (some .boolean) : Cond) ∈ gw := gw_in (List.mem_of_getElem? (i := 801) (by decide +kernel)) (by decide +kernel)
theorem wd_802 : (.methodLink "PixelSnapperModel" 143 y_M_heat : Cond) ∈ gw := gw_in (List.mem_of_getElem? (i := 802) (by decide +kernel)) (by decide +kernel)
theorem wd_804 : (.instanceMethod y_M_heat : Cond) ∈ gw := gw_in (List.mem_of_getElem? (i := 804) (by decide +kernel)) (by decide +kernel)
theorem wd_805 : (.code y_M_heat c_M_heat 6 (some .boolean) : Cond) ∈ gw := gw_in (List.mem_of_getElem? (i := 805) (by decide +kernel)) (by decide +kernel)
theorem wd_806 : (.methodLink "PixelSnapperModel" 140 y_M_isBefore : Cond) ∈ gw := gw_in (List.mem_of_getElem? (i := 806) (by decide +kernel)) (by decide +kernel)
theorem wd_808 : (.instanceMethod y_M_isBefore : Cond) ∈ gw := gw_in (List.mem_of_getElem? (i := 808) (by decide +kernel)) (by decide +kernel)
theorem wd_809 : (.code y_M_isBefore c_M_isBefore 4 (some .boolean) : Cond) ∈ gw := gw_in (List.mem_of_getElem? (i := 809) (by decide +kernel)) (by decide +kernel)
theorem wd_810 : (.methodLink "PixelSnapperModel" 154 y_M_chainAll : Cond) ∈ gw := gw_in (List.mem_of_getElem? (i := 810) (by decide +kernel)) (by decide +kernel)
theorem wd_812 : (.instanceMethod y_M_chainAll : Cond) ∈ gw := gw_in (List.mem_of_getElem? (i := 812) (by decide +kernel)) (by decide +kernel)
theorem wd_813 : (.code y_M_chainAll c_M_chainAll 5 (some .boolean) : Cond) ∈ gw := gw_in (List.mem_of_getElem? (i := 813) (by decide +kernel)) (by decide +kernel)
theorem wd_814 : (.methodLink "PixelSnapperModel" 146 y_M_insert : Cond) ∈ gw := gw_in (List.mem_of_getElem? (i := 814) (by decide +kernel)) (by decide +kernel)
theorem wd_816 : (.instanceMethod y_M_insert : Cond) ∈ gw := gw_in (List.mem_of_getElem? (i := 816) (by decide +kernel)) (by decide +kernel)
theorem wd_817 : (.code y_M_insert c_M_insert 7 none : Cond) ∈ gw := gw_in (List.mem_of_getElem? (i := 817) (by decide +kernel)) (by decide +kernel)
theorem wd_818 : (.methodLink "PixelSnapperModel" 157 y_M_gather : Cond) ∈ gw := gw_in (List.mem_of_getElem? (i := 818) (by decide +kernel)) (by decide +kernel)
theorem wd_820 : (.instanceMethod y_M_gather : Cond) ∈ gw := gw_in (List.mem_of_getElem? (i := 820) (by decide +kernel)) (by decide +kernel)
theorem wd_821 : (.code y_M_gather c_M_gather 6 none : Cond) ∈ gw := gw_in (List.mem_of_getElem? (i := 821) (by decide +kernel)) (by decide +kernel)
theorem wd_822 : (.methodLink "PixelSnapperLaw" 78 y_M_pixel : Cond) ∈ gw := gw_in (List.mem_of_getElem? (i := 822) (by decide +kernel)) (by decide +kernel)
theorem wd_823 : (.instanceMethod y_M_pixel : Cond) ∈ gw := gw_in (List.mem_of_getElem? (i := 823) (by decide +kernel)) (by decide +kernel)
theorem wd_824 : (.selects "PixelSnapperModel" y_M_pixel y_M_pixel : Cond) ∈ gw := gw_in (List.mem_of_getElem? (i := 824) (by decide +kernel)) (by decide +kernel)
theorem wd_825 : (.code y_M_pixel c_M_pixel 3 (some .int) : Cond) ∈ gw := gw_in (List.mem_of_getElem? (i := 825) (by decide +kernel)) (by decide +kernel)
theorem wd_826 : (.methodLink "PixelSnapperLaw" 82 y_M_chain : Cond) ∈ gw := gw_in (List.mem_of_getElem? (i := 826) (by decide +kernel)) (by decide +kernel)
theorem wd_827 : (.instanceMethod y_M_chain : Cond) ∈ gw := gw_in (List.mem_of_getElem? (i := 827) (by decide +kernel)) (by decide +kernel)
theorem wd_828 : (.selects "PixelSnapperModel" y_M_chain y_M_chain : Cond) ∈ gw := gw_in (List.mem_of_getElem? (i := 828) (by decide +kernel)) (by decide +kernel)
theorem wd_829 : (.code y_M_chain c_M_chain 2 (some .int) : Cond) ∈ gw := gw_in (List.mem_of_getElem? (i := 829) (by decide +kernel)) (by decide +kernel)
theorem wd_830 : (.methodLink "PixelSnapperLaw" 85 y_M_chainAt : Cond) ∈ gw := gw_in (List.mem_of_getElem? (i := 830) (by decide +kernel)) (by decide +kernel)
theorem wd_831 : (.instanceMethod y_M_chainAt : Cond) ∈ gw := gw_in (List.mem_of_getElem? (i := 831) (by decide +kernel)) (by decide +kernel)
theorem wd_832 : (.selects "PixelSnapperModel" y_M_chainAt y_M_chainAt : Cond) ∈ gw := gw_in (List.mem_of_getElem? (i := 832) (by decide +kernel)) (by decide +kernel)
theorem wd_833 : (.code y_M_chainAt c_M_chainAt 3 (some .int) : Cond) ∈ gw := gw_in (List.mem_of_getElem? (i := 833) (by decide +kernel)) (by decide +kernel)
theorem wd_834 : (.methodLink "PixelSnapperLaw" 88 y_M_piece : Cond) ∈ gw := gw_in (List.mem_of_getElem? (i := 834) (by decide +kernel)) (by decide +kernel)
theorem wd_835 : (.instanceMethod y_M_piece : Cond) ∈ gw := gw_in (List.mem_of_getElem? (i := 835) (by decide +kernel)) (by decide +kernel)
theorem wd_836 : (.selects "PixelSnapperModel" y_M_piece y_M_piece : Cond) ∈ gw := gw_in (List.mem_of_getElem? (i := 836) (by decide +kernel)) (by decide +kernel)
theorem wd_837 : (.code y_M_piece c_M_piece 3 (some .int) : Cond) ∈ gw := gw_in (List.mem_of_getElem? (i := 837) (by decide +kernel)) (by decide +kernel)
theorem wd_838 : (.methodLink "PixelSnapperLaw" 92 y_M_count : Cond) ∈ gw := gw_in (List.mem_of_getElem? (i := 838) (by decide +kernel)) (by decide +kernel)
theorem wd_839 : (.instanceMethod y_M_count : Cond) ∈ gw := gw_in (List.mem_of_getElem? (i := 839) (by decide +kernel)) (by decide +kernel)
theorem wd_840 : (.selects "PixelSnapperModel" y_M_count y_M_count : Cond) ∈ gw := gw_in (List.mem_of_getElem? (i := 840) (by decide +kernel)) (by decide +kernel)
theorem wd_841 : (.code y_M_count c_M_count 2 (some .int) : Cond) ∈ gw := gw_in (List.mem_of_getElem? (i := 841) (by decide +kernel)) (by decide +kernel)
theorem wd_842 : (.sameMethod "java/lang/Throwable" "java/lang/Throwable" "fillInStackTrace" "(I)Ljava/lang/Throwable;" : Cond) ∈ gw := gw_in (List.mem_of_getElem? (i := 842) (by decide +kernel)) (by decide +kernel)
theorem wd_844 : (.sameMethod "[Ljava/lang/Object;" "java/lang/Object" "getClass" "()Ljava/lang/Class;" : Cond) ∈ gw := gw_in (List.mem_of_getElem? (i := 844) (by decide +kernel)) (by decide +kernel)
theorem wd_845 : (.selects "[Ljava/lang/Object;" y_J_getClass y_J_getClass : Cond) ∈ gw := gw_in (List.mem_of_getElem? (i := 845) (by decide +kernel)) (by decide +kernel)
theorem in_R : ∀ w ∈ u_ws K_R F_R 3, w ∈ gw := by
  have h : ∀ k, k < 3 → u_lay K_R F_R k ∈ lw_tbl ∧ goodWord (u_lay K_R F_R k) = true := by decide +kernel
  intro w hw
  obtain ⟨k, hk, rfl⟩ := List.mem_map.mp hw
  exact gw_in (h k (List.mem_range.mp hk)).1 (h k (List.mem_range.mp hk)).2
theorem in_S : ∀ w ∈ u_ws K_S F_S 10, w ∈ gw := by
  have h : ∀ k, k < 10 → u_lay K_S F_S k ∈ lw_tbl ∧ goodWord (u_lay K_S F_S k) = true := by decide +kernel
  intro w hw
  obtain ⟨k, hk, rfl⟩ := List.mem_map.mp hw
  exact gw_in (h k (List.mem_range.mp hk)).1 (h k (List.mem_range.mp hk)).2
theorem in_P : ∀ w ∈ u_ws K_P F_P 7, w ∈ gw := by
  have h : ∀ k, k < 7 → u_lay K_P F_P k ∈ lw_tbl ∧ goodWord (u_lay K_P F_P k) = true := by decide +kernel
  intro w hw
  obtain ⟨k, hk, rfl⟩ := List.mem_map.mp hw
  exact gw_in (h k (List.mem_range.mp hk)).1 (h k (List.mem_range.mp hk)).2
theorem in_M : ∀ w ∈ u_ws K_M F_M 24, w ∈ gw := by
  have h : ∀ k, k < 24 → u_lay K_M F_M k ∈ lw_tbl ∧ goodWord (u_lay K_M F_M k) = true := by decide +kernel
  intro w hw
  obtain ⟨k, hk, rfl⟩ := List.mem_map.mp hw
  exact gw_in (h k (List.mem_range.mp hk)).1 (h k (List.mem_range.mp hk)).2
theorem in_A : ∀ w ∈ u_ws K_A F_A 3, w ∈ gw := by
  have h : ∀ k, k < 3 → u_lay K_A F_A k ∈ lw_tbl ∧ goodWord (u_lay K_A F_A k) = true := by decide +kernel
  intro w hw
  obtain ⟨k, hk, rfl⟩ := List.mem_map.mp hw
  exact gw_in (h k (List.mem_range.mp hk)).1 (h k (List.mem_range.mp hk)).2
end
section
/-! the forms of all contracts here: readers (nothing is written) and writers (a world before, a world behind) -/
/-- the classes of arrays: long[], int[], boolean[], Object[] -/
abbrev tyG (E : ClassId × ClassId × ClassId × ClassId) : List (ClassId × FieldType) := [(E.1, .long), (E.2.1, .int), (E.2.2.1, .boolean), (E.2.2.2, .object "java/lang/Object")]
/-- further words: links across the nest, casts, declarations -/
def gx : List Cond := [.methodLinkNest "PixelSnapper$Segment" 51 y_P_keyOf "PixelSnapper"] ++ ([.castable "PixelSnapper$Segment" "java/lang/Object", .castable "java/lang/IllegalArgumentException" "java/lang/IllegalArgumentException", .castable "java/lang/IllegalStateException" "java/lang/IllegalStateException", .castable "java/lang/UnsupportedOperationException" "java/lang/UnsupportedOperationException", .castable "java/lang/IndexOutOfBoundsException" "java/lang/IndexOutOfBoundsException"] ++ [.declares ⟨"java/lang/RuntimeException", "<init>", "()V"⟩, .declares y_E_init, .declares ⟨"java/lang/Exception", "<init>", "()V"⟩, .declares y_X_init, .declares y_T_init_0, .declares y_T_init_String, .declares y_J_getClass])
theorem gx_tab : ∀ w ∈ gx, w ∈ lw_tbl ∧ w.onTables = true := by decide +kernel
theorem gx_warm {s U : State} (hW : s.WarmedH U.vm) {w : Cond} (hw : w ∈ gx) (h : va_Nw w s) : va_Nw w U := by
  rcases List.mem_append.mp hw with hw | hw
  · rw [List.mem_singleton] at hw
    subst hw
    exact va_Nw.warmM hW h
  · rcases List.mem_append.mp hw with hw | hw
    · simp only [List.mem_cons, List.not_mem_nil, or_false] at hw
      rcases hw with rfl | rfl | rfl | rfl | rfl <;> exact va_Nw.warmC hW h
    · simp only [List.mem_cons, List.not_mem_nil, or_false] at hw
      rcases hw with rfl | rfl | rfl | rfl | rfl | rfl | rfl <;> exact va_Nw.warmD hW h
/-- the texts of the class -/
def gsl : List (Nat × String) := [(48, "an end lies out of reach"), (59, "there are as many segments as may be"), (86, "more hot pixels or places in chains than may be"), (98, "no such segment"), (101, "the pixel lies out of reach"), (114, "no such segment or what"), (120, "the segments do not cross"), (133, "no such pixel or what"), (139, "there are no chains"), (145, "no such pixel in the chain"), (147, "no such piece or what")]
/-- classes that are not castable to others -/
def gnl : List (String × String) := [("java/lang/IllegalStateException", "java/lang/IllegalArgumentException"), ("java/lang/IllegalArgumentException", "java/lang/IndexOutOfBoundsException"), ("java/lang/IllegalStateException", "java/lang/IndexOutOfBoundsException")]
/-- what is known of every state beside the words -/
def gf (U : State) : Prop := (∀ w ∈ gx, va_Nw w U) ∧ (∀ q ∈ gsl, ∃ sa, vk_R "PixelSnapper" q.1 q.2 sa U) ∧ (∀ q ∈ gnl, va_Nc q.1 q.2 U) ∧ va_AO "java/lang/Object" U ∧ ∃ mi, va_Mi "[Ljava/lang/Object;" mi U
theorem gf_nest {U : State} (h : gf U) : va_Nw (.methodLinkNest "PixelSnapper$Segment" 51 y_P_keyOf "PixelSnapper") U := h.1 _ (List.mem_append_left _ (List.mem_singleton.mpr rfl))
def KK (D : va_G) (E : ClassId × ClassId × ClassId × ClassId) (U : State) : Prop := va_K D vwC (tyG E) U ∧ gf U
theorem KK.call {D : va_G} {E : ClassId × ClassId × ClassId × ClassId} {U : State} {g : JFrame} {mk : MethodId} {a : Array Value} (h : KK D E U) : KK D E (U.calling g mk a) := by
  obtain ⟨h0, h1, h2, h3, h4, mi, h5⟩ := h
  have hv : U.vm.Alike (U.calling g mk a).vm := Vm.Alike.refl U.vm
  exact ⟨va_K.moved (u := U) (U := U.calling g mk a) hv h0, fun w hw => va_Nw.same (u := U) (U := U.calling g mk a) (gx_tab w hw).2 rfl (h1 w hw), fun q hq => (h2 q hq).imp fun sa h => vk_R.same (u := U) (U := U.calling g mk a) rfl h, fun q hq => va_Nc.moved hv (h3 q hq), va_AO.moved hv h4, mi, va_Mi.moved hv h5⟩
theorem KK.warm {D : va_G} {E : ClassId × ClassId × ClassId × ClassId} {s U : State} (hW : s.WarmedH U.vm) (h : KK D E s) : KK D E U := by
  obtain ⟨h0, h1, h2, h3, h4, mi, h5⟩ := h
  exact ⟨va_K.moved hW.alike h0, fun w hw => gx_warm hW hw (h1 w hw), fun q hq => (h2 q hq).imp fun sa h => vk_R.warm hW h, fun q hq => va_Nc.moved hW.alike (h3 q hq), va_AO.moved hW.alike h4, mi, va_Mi.moved hW.alike h5⟩
/-- a reader's start, a writer's start -/
def rP (D : va_G) (E : ClassId × ClassId × ClassId × ClassId) (ws : va_W) (av : List Value) : Array Value → State → Prop := va_Pc av (fun U => va_P D vwC ws U.heap ∧ KK D E U)
def wP (D : va_G) (E : ClassId × ClassId × ClassId × ClassId) (ws : va_W) (sz : Nat) (av : List Value) : Array Value → State → Prop := va_Pc av (fun U => U.heap.size = sz ∧ va_P D vwC ws U.heap ∧ KK D E U ∧ va_D (fun _ => True) ws)
theorem rP_b {D : va_G} {E : ClassId × ClassId × ClassId × ClassId} {ws : va_W} {av : List Value} : FrameBlind (rP D E ws av) := fun _ _ _ _ q => ⟨q.1, q.2.1, KK.call q.2.2⟩
theorem wP_b {D : va_G} {E : ClassId × ClassId × ClassId × ClassId} {ws : va_W} {sz : Nat} {av : List Value} : FrameBlind (wP D E ws sz av) := fun _ _ _ _ q => ⟨q.1, q.2.1, q.2.2.1, KK.call q.2.2.2.1, q.2.2.2.2⟩
theorem rP_S {D : va_G} {E : ClassId × ClassId × ClassId × ClassId} {ws : va_W} {As : List Value} {s : State} {H : Heap} (hP : va_P D vwC ws H) (hK : KK D E s) : PreS s H (rP D E ws As) As :=
  ⟨rP_b, fun U hU hW => ⟨rfl, by rw [hU]; exact hP, KK.warm hW hK⟩⟩
theorem rP_V {D : va_G} {E : ClassId × ClassId × ClassId × ClassId} {ws : va_W} {As : List Value} {s : State} {H : Heap} {b ci : Nat} {fs : List Value} {q : vw_C} (k : Nat) (hP : va_P D vwC ws H) (hK : KK D E s) (he : ws[k]? = some (b, .inr (ci, fs))) (hc : vwC[ci]? = some q) : PreV s H q.1 b (rP D E ws (.ref b :: As)) As :=
  ⟨rP_b, va_recv hK.1 hP hc he, fun U hU hW => ⟨rfl, by rw [hU]; exact hP, KK.warm hW hK⟩⟩
theorem wP_S {D : va_G} {E : ClassId × ClassId × ClassId × ClassId} {ws : va_W} {As : List Value} {s : State} {H : Heap} {A : Nat → Prop} (hP : va_P D vwC ws H) (hK : KK D E s) (hD : va_D A ws) : PreS s H (wP D E ws H.size As) As :=
  ⟨wP_b, fun U hU hW => ⟨rfl, by rw [hU], by rw [hU]; exact hP, KK.warm hW hK, hD.weaken (fun _ _ _ _ => trivial)⟩⟩
theorem wP_V {D : va_G} {E : ClassId × ClassId × ClassId × ClassId} {ws : va_W} {As : List Value} {s : State} {H : Heap} {A : Nat → Prop} {b ci : Nat} {fs : List Value} {q : vw_C} (k : Nat) (hP : va_P D vwC ws H) (hK : KK D E s) (hD : va_D A ws) (he : ws[k]? = some (b, .inr (ci, fs))) (hc : vwC[ci]? = some q) : PreV s H q.1 b (wP D E ws H.size (.ref b :: As)) As :=
  ⟨wP_b, va_recv hK.1 hP hc he, fun U hU hW => ⟨rfl, by rw [hU], by rw [hU]; exact hP, KK.warm hW hK, hD.weaken (fun _ _ _ _ => trivial)⟩⟩
/-- what a method's body has -/
def En (p : Program) (s : State) (m : MethodId) (args : Array Value) (meth : Method) (c : Code) (own : String) (cc : ByteArray) (maxL : Nat) (ret : Option FieldType) (y : MethodName) : Prop :=
  p.tables.exec = Jvm.exec ∧ c.code = cc ∧ meth.sig.returnType = ret ∧ c.maxLocals = maxL ∧ s.vm.findClass own = some m.cls ∧ (∀ w ∈ (Cond.code y cc maxL ret :: gw), w.before args s = true) ∧ (∀ w ∈ gw, w.before args s = true) ∧ meth.locks = false ∧ meth.name = y.name
/-- a reader's contract out of its walk -/
theorem rd_ofW {l : Launch} {y : MethodName} {cc : ByteArray} {maxL : Nat} {ret : Option FieldType} {D : va_G} {E : ClassId × ClassId × ClassId × ClassId} {ws : va_W} {av : List Value} {rm : Room} {Qc : Array Value → State → Outcome → State → Prop}
    (hy : plainName y.cls = true) (hlen : (lg_sl av).length ≤ maxL)
    (body : ∀ (p : Program) (e : Env) (s : State) (m : MethodId) (below : List Frame) (meth : Method) (c : Code), En p s m av.toArray meth c y.cls cc maxL ret y → va_P D vwC ws s.heap → KK D E s → ∀ ls : Array Slot, lv_has ls maxL (lv_args 0 av) →
      W p l e rm s m av.toArray below meth c s.heap [] 0 0 (MQ below Qc av.toArray s 0 0 (fun _ => False)) (F0 m 0 ls [])) : Met l y (.code y cc maxL ret :: gw) rm (rP D E ws av) Qc 0 0 (fun _ => False) := by
  refine Met.ofW (cc := cc) (maxL := maxL) (ret := ret) hy rfl ?_
  intro p e s m args below meth c s₁ B hml hv
  obtain ⟨rfl, hP, hK⟩ := hv
  have hts := atoms_spec (ws := Cond.code y cc maxL ret :: gw) B.pre
  have hl := lv_entry av (n := maxL) hlen
  rw [lg_entry_eq]
  exact body p e s m below meth c ⟨B.exec, B.bytes, B.returns, hml, findClass_of_methodNamed B.named, hts, fun w h => hts w (List.mem_cons_of_mem _ h), B.notSynchronized, (name_of_methodNamed B.named B.method).1⟩ hP hK _ hl
/-- a writer's contract out of its walk -/
theorem wr_ofW {l : Launch} {y : MethodName} {cc : ByteArray} {maxL : Nat} {ret : Option FieldType} {D : va_G} {E : ClassId × ClassId × ClassId × ClassId} {ws : va_W} {sz : Nat} {av : List Value} {rm : Room} {Qc : (Nat → Prop) → Array Value → State → Outcome → State → Prop} {mc ms : Nat}
    (hy : plainName y.cls = true) (hlen : (lg_sl av).length ≤ maxL)
    (body : ∀ (p : Program) (e : Env) (s : State) (m : MethodId) (below : List Frame) (meth : Method) (c : Code), En p s m av.toArray meth c y.cls cc maxL ret y → va_P D vwC ws s.heap → KK D E s → ∀ A : Nat → Prop, (∀ q : Nat, s.heap.size ≤ q → A q) → va_D A ws → va_S A s.heap s.heap [] → ∀ ls : Array Slot, lv_has ls maxL (lv_args 0 av) →
      W p l e rm s m av.toArray below meth c s.heap [] 0 0 (MQ below (Qc A) av.toArray s mc ms A) (F0 m 0 ls [])) : Met l y (.code y cc maxL ret :: gw) rm (wP D E ws sz av) (Qc (va_A ws sz)) mc ms (va_A ws sz) := by
  refine Met.ofW (cc := cc) (maxL := maxL) (ret := ret) hy rfl ?_
  intro p e s m args below meth c s₁ B hml hv
  obtain ⟨rfl, hsz, hP, hK, hD0⟩ := hv
  have hts := atoms_spec (ws := Cond.code y cc maxL ret :: gw) B.pre
  subst hsz
  have hD := hD0.self (sz := s.heap.size)
  have hl := lv_entry av (n := maxL) hlen
  rw [lg_entry_eq]
  exact body p e s m below meth c ⟨B.exec, B.bytes, B.returns, hml, findClass_of_methodNamed B.named, hts, fun w h => hts w (List.mem_cons_of_mem _ h), B.notSynchronized, (name_of_methodNamed B.named B.method).1⟩ hP hK _ (fun q h => Or.inr h) hD va_S.rf _ hl
/-- a writer's world behind it -/
def wB {S : Type} (D : va_G) (w : S → va_W) (A : Nat → Prop) : S → State → Prop := fun u t => va_P D vwC (w u) t.heap ∧ va_D A (w u)
/-- two array classes of one type are one -/
theorem ty_eq {D : va_G} {cl : List vw_C} {tys : List (ClassId × FieldType)} {U : State} {c1 c2 : ClassId} {ty : FieldType} (hK : va_K D cl tys U) (i j : Nat) (hi : tys[i]? = some (c1, ty)) (hj : tys[j]? = some (c2, ty)) : c1 = c2 := by
  have h1 := (hK.2 i _ hi).2
  have h2 := (hK.2 j _ hj).2
  cases ty with
  | object C =>
    obtain ⟨_, _, _, _, _, a⟩ := h1
    obtain ⟨_, _, _, _, _, b⟩ := h2
    exact Option.some.inj (a.symm.trans b)
  | _ => exact Option.some.inj (Eq.trans (Eq.symm h1) h2)
end
section
/-! Pure rows: a heap sort of a row of longs, by counts and order -/
/-- how often v stands among the first n -/
def ps_cnt (f : Nat → Int64) (v : Int64) : Nat → Nat
  | 0 => 0
  | n + 1 => ps_cnt f v n + (if f n = v then 1 else 0)
theorem ps_cnt_succ (f : Nat → Int64) (v : Int64) (n : Nat) : ps_cnt f v (n + 1) = ps_cnt f v n + (if f n = v then 1 else 0) := rfl
theorem ps_cnt_out {f : Nat → Int64} {v x : Int64} {i : Nat} (n : Nat) (h : n ≤ i) : ps_cnt (vp_updL f i x) v n = ps_cnt f v n := by
  induction n with
  | zero => rfl
  | succ n ih =>
    have e : vp_updL f i x n = f n := pk_uLn (by omega)
    simp only [ps_cnt, e, ih (by omega)]
theorem ps_cnt_upd {f : Nat → Int64} {v x : Int64} {i : Nat} (n : Nat) (h : i < n) : ps_cnt (vp_updL f i x) v n + (if f i = v then 1 else 0) = ps_cnt f v n + (if x = v then 1 else 0) := by
  induction n with
  | zero => exact absurd h (Nat.not_lt_zero _)
  | succ n ih =>
    by_cases e : i = n
    · subst e
      have e1 : vp_updL f i x i = x := pk_uLs
      simp only [ps_cnt, e1, ps_cnt_out i (Nat.le_refl _)]
      omega
    · have e1 : vp_updL f i x n = f n := pk_uLn (fun z => e z.symm)
      have := ih (by omega)
      simp only [ps_cnt, e1]
      omega
theorem ps_cnt_congr {f g : Nat → Int64} {v : Int64} (n : Nat) (h : ∀ i, i < n → f i = g i) : ps_cnt f v n = ps_cnt g v n := by
  induction n with
  | zero => rfl
  | succ n ih => simp only [ps_cnt, ih (fun i hi => h i (by omega)), h n (by omega)]
theorem ps_cnt_pos {f : Nat → Int64} {v : Int64} (n : Nat) : 0 < ps_cnt f v n ↔ ∃ i, i < n ∧ f i = v := by
  induction n with
  | zero => simp [ps_cnt]
  | succ n ih =>
    simp only [ps_cnt]
    constructor
    · intro h
      by_cases e : f n = v
      · exact ⟨n, by omega, e⟩
      · rw [if_neg e] at h
        obtain ⟨i, h1, h2⟩ := ih.mp (by omega)
        exact ⟨i, by omega, h2⟩
    · rintro ⟨i, h1, h2⟩
      by_cases e : i = n
      · subst e
        rw [if_pos h2]; omega
      · have := ih.mpr ⟨i, by omega, h2⟩
        omega
/-- the sinking of x from the hole h, among the first e -/
def ps_sink (x : Int64) (e : Nat) : Nat → (Nat → Int64) → Nat → (Nat → Int64)
  | 0, f, h => vp_updL f h x
  | n + 1, f, h =>
    if 2 * h + 1 < e then
      if f (if 2 * h + 2 < e ∧ f (2 * h + 1) < f (2 * h + 2) then 2 * h + 2 else 2 * h + 1) ≤ x then vp_updL f h x
      else ps_sink x e n (vp_updL f h (f (if 2 * h + 2 < e ∧ f (2 * h + 1) < f (2 * h + 2) then 2 * h + 2 else 2 * h + 1))) (if 2 * h + 2 < e ∧ f (2 * h + 1) < f (2 * h + 2) then 2 * h + 2 else 2 * h + 1)
    else vp_updL f h x
/-- order from r on among the first e: no child above its parent -/
def ps_hp (f : Nat → Int64) (r e : Nat) : Prop := ∀ k c, r ≤ k → c < e → (c = 2 * k + 1 ∨ c = 2 * k + 2) → (f c).toInt ≤ (f k).toInt
/-- the same but at the hole h, where x is to go -/
def ps_hh (f : Nat → Int64) (r e h : Nat) (x : Int64) : Prop :=
  (∀ k c, r ≤ k → c < e → k ≠ h → c ≠ h → (c = 2 * k + 1 ∨ c = 2 * k + 2) → (f c).toInt ≤ (f k).toInt) ∧
  (∀ k, r ≤ k → (h = 2 * k + 1 ∨ h = 2 * k + 2) → x.toInt ≤ (f k).toInt ∧ ∀ c, c < e → (c = 2 * h + 1 ∨ c = 2 * h + 2) → (f c).toInt ≤ (f k).toInt)
theorem ps_sink_spec (x : Int64) (r e : Nat) : ∀ (n : Nat) (f : Nat → Int64) (h : Nat), e ≤ h + n → r ≤ h → h < e → ps_hh f r e h x →
    ps_hp (ps_sink x e n f h) r e ∧ (∀ v, ps_cnt (ps_sink x e n f h) v e = ps_cnt (vp_updL f h x) v e) ∧ ∀ i, e ≤ i ∨ i < h → ps_sink x e n f h i = f i := by
  intro n
  induction n with
  | zero => intro f h h1 h2 h3; omega
  | succ n ih =>
    intro f h hn hr he hh
    have base : (∀ c, c < e → (c = 2 * h + 1 ∨ c = 2 * h + 2) → (f c).toInt ≤ x.toInt) → ps_hp (vp_updL f h x) r e ∧ (∀ v, ps_cnt (vp_updL f h x) v e = ps_cnt (vp_updL f h x) v e) ∧ ∀ i, e ≤ i ∨ i < h → vp_updL f h x i = f i := by
      intro hc
      refine ⟨?_, fun _ => rfl, fun i hi => pk_uLn (by omega)⟩
      intro k c hk hce hkc
      by_cases e1 : k = h
      · subst e1
        rw [pk_uLs, pk_uLn (show c ≠ k by omega)]
        exact hc c hce hkc
      · rw [pk_uLn e1]
        by_cases e2 : c = h
        · subst e2
          rw [pk_uLs]
          exact (hh.2 k hk hkc).1
        · rw [pk_uLn e2]
          exact hh.1 k c hk hce e1 e2 hkc
    unfold ps_sink
    by_cases h1 : 2 * h + 1 < e
    · rw [if_pos h1]
      generalize hc : (if 2 * h + 2 < e ∧ f (2 * h + 1) < f (2 * h + 2) then 2 * h + 2 else 2 * h + 1) = c
      have hcb : c < e ∧ (c = 2 * h + 1 ∨ c = 2 * h + 2) ∧ ∀ c', c' < e → (c' = 2 * h + 1 ∨ c' = 2 * h + 2) → (f c').toInt ≤ (f c).toInt := by
        by_cases q : 2 * h + 2 < e ∧ f (2 * h + 1) < f (2 * h + 2)
        · rw [if_pos q] at hc
          have q2 := Int64.lt_iff_toInt_lt.mp q.2
          subst hc
          refine ⟨q.1, Or.inr rfl, ?_⟩
          rintro c' h3 (rfl | rfl) <;> omega
        · rw [if_neg q] at hc
          subst hc
          refine ⟨h1, Or.inl rfl, ?_⟩
          rintro c' h3 (rfl | rfl)
          · omega
          · have : ¬ f (2 * h + 1) < f (2 * h + 2) := fun z => q ⟨h3, z⟩
            rw [Int64.lt_iff_toInt_lt] at this
            omega
      obtain ⟨c1, c2, c3⟩ := hcb
      by_cases h2 : f c ≤ x
      · rw [if_pos h2]
        have h2' := Int64.le_iff_toInt_le.mp h2
        refine base fun c' h3 h4 => ?_
        have := c3 c' h3 h4
        omega
      · rw [if_neg h2]
        rw [Int64.le_iff_toInt_le] at h2
        have hh' : ps_hh (vp_updL f h (f c)) r e c x := by
          constructor
          · intro k c' hk hce e1 e2 hkc
            by_cases e3 : k = h
            · subst e3
              rw [pk_uLs, pk_uLn (show c' ≠ k by omega)]
              exact c3 c' hce hkc
            · rw [pk_uLn e3]
              by_cases e4 : c' = h
              · subst e4
                rw [pk_uLs]
                exact (hh.2 k hk hkc).2 c c1 c2
              · rw [pk_uLn e4]
                exact hh.1 k c' hk hce e3 e4 hkc
          · intro k hk hkc
            have e3 : k = h := by omega
            subst e3
            rw [pk_uLs]
            refine ⟨by omega, fun c' h3 h4 => ?_⟩
            rw [pk_uLn (show c' ≠ k by omega)]
            exact hh.1 c c' (by omega) h3 (by omega) (by omega) h4
        obtain ⟨a1, a2, a3⟩ := ih (vp_updL f h (f c)) c (by omega) (by omega) c1 hh'
        refine ⟨a1, fun v => ?_, fun i hi => ?_⟩
        · rw [a2 v]
          have b1 := ps_cnt_upd (f := f) (v := v) (x := x) (i := h) e he
          have b2 := ps_cnt_upd (f := f) (v := v) (x := f c) (i := h) e he
          have b3 := ps_cnt_upd (f := vp_updL f h (f c)) (v := v) (x := x) (i := c) e c1
          rw [pk_uLn (show c ≠ h by omega)] at b3
          omega
        · rw [a3 i (by omega)]
          exact pk_uLn (by omega)
    · rw [if_neg h1]
      exact base fun c h3 h4 => by omega
/-- the roots below r, from the last to the first -/
def ps_heap (n : Nat) : Nat → (Nat → Int64) → (Nat → Int64)
  | 0, f => f
  | r + 1, f => ps_heap n r (ps_sink (f r) n n f r)
theorem ps_upd_self {f : Nat → Int64} {i : Nat} : vp_updL f i (f i) = f := by
  funext j
  by_cases e : j = i
  · subst e; exact pk_uLs
  · exact pk_uLn e
theorem ps_heap_spec (n : Nat) : ∀ (r : Nat) (f : Nat → Int64), r ≤ n → ps_hp f r n → ps_hp (ps_heap n r f) 0 n ∧ (∀ v, ps_cnt (ps_heap n r f) v n = ps_cnt f v n) ∧ ∀ i, n ≤ i → ps_heap n r f i = f i := by
  intro r
  induction r with
  | zero => intro f _ h; exact ⟨h, fun _ => rfl, fun _ _ => rfl⟩
  | succ r ih =>
    intro f hr hp
    have hh : ps_hh f r n r (f r) := by
      constructor
      · intro k c hk hc e1 e2 hkc
        exact hp k c (by omega) hc hkc
      · intro k hk hkc
        omega
    obtain ⟨a1, a2, a3⟩ := ps_sink_spec (f r) r n n f r (by omega) (Nat.le_refl _) (by omega) hh
    obtain ⟨b1, b2, b3⟩ := ih (ps_sink (f r) n n f r) (by omega) a1
    refine ⟨b1, fun v => ?_, fun i hi => ?_⟩
    · show ps_cnt (ps_heap n r _) v n = _
      rw [b2, a2, ps_upd_self]
    · show ps_heap n r _ i = _
      rw [b3 i hi, a3 i (by omega)]
/-- the greatest goes to the end, e times -/
def ps_drain : Nat → (Nat → Int64) → (Nat → Int64)
  | 0, f => f
  | e + 1, f => ps_drain e (ps_sink (f (e + 1)) (e + 1) (e + 1) (vp_updL f (e + 1) (f 0)) 0)
theorem ps_top {f : Nat → Int64} {e : Nat} (h : ps_hp f 0 e) : ∀ i, i < e → (f i).toInt ≤ (f 0).toInt := by
  intro i
  induction i using Nat.strongRecOn with
  | ind i ih =>
    intro hi
    by_cases e0 : i = 0
    · subst e0; omega
    · have h1 := h ((i - 1) / 2) i (Nat.zero_le _) hi (by omega)
      have h2 := ih ((i - 1) / 2) (by omega) (by omega)
      omega
def ps_sorted (f : Nat → Int64) (n : Nat) : Prop := ∀ i j, i ≤ j → j < n → (f i).toInt ≤ (f j).toInt
theorem ps_drain_spec (n : Nat) : ∀ (e : Nat) (f : Nat → Int64), e < n → ps_hp f 0 (e + 1) → (∀ i j, e < j → i ≤ j → j < n → (f i).toInt ≤ (f j).toInt) →
    ps_sorted (ps_drain e f) n ∧ (∀ v, ps_cnt (ps_drain e f) v n = ps_cnt f v n) ∧ ∀ i, n ≤ i → ps_drain e f i = f i := by
  intro e
  induction e with
  | zero =>
    intro f he hp hs
    refine ⟨fun i j hij hj => ?_, fun _ => rfl, fun _ _ => rfl⟩
    show (f i).toInt ≤ (f j).toInt
    by_cases e0 : j = 0
    · have : i = 0 := by omega
      rw [e0, this]; omega
    · exact hs i j (by omega) hij hj
  | succ e ih =>
    intro f he hp hs
    have htop := ps_top hp
    generalize hg : vp_updL f (e + 1) (f 0) = g
    have ge : g (e + 1) = f 0 := by rw [← hg]; exact pk_uLs
    have gn : ∀ i, i ≠ e + 1 → g i = f i := fun i hi => by rw [← hg]; exact pk_uLn hi
    have hh : ps_hh g 0 (e + 1) 0 (f (e + 1)) := by
      constructor
      · intro k c hk hc e1 e2 hkc
        rw [gn c (by omega), gn k (by omega)]
        exact hp k c hk (by omega) hkc
      · intro k hk hkc
        omega
    obtain ⟨a1, a2, a3⟩ := ps_sink_spec (f (e + 1)) 0 (e + 1) (e + 1) g 0 (by omega) (Nat.le_refl _) (by omega) hh
    -- all of the sunk ones are below f 0
    have hbelow : ∀ i, i ≤ e → (ps_sink (f (e + 1)) (e + 1) (e + 1) g 0 i).toInt ≤ (f 0).toInt := by
      intro i hi
      have h1 : 0 < ps_cnt (ps_sink (f (e + 1)) (e + 1) (e + 1) g 0) (ps_sink (f (e + 1)) (e + 1) (e + 1) g 0 i) (e + 1) := (ps_cnt_pos _).mpr ⟨i, by omega, rfl⟩
      rw [a2] at h1
      obtain ⟨j, hj, ej⟩ := (ps_cnt_pos _).mp h1
      rw [← ej]
      by_cases e0 : j = 0
      · subst e0
        rw [pk_uLs]
        exact htop (e + 1) (by omega)
      · rw [pk_uLn e0, gn j (by omega)]
        exact htop j (by omega)
    obtain ⟨b1, b2, b3⟩ := ih (ps_sink (f (e + 1)) (e + 1) (e + 1) g 0) (by omega) a1 (by
      intro i j h1 h2 h3
      rw [a3 j (by omega)]
      by_cases e1 : j = e + 1
      · subst e1
        rw [ge]
        by_cases e2 : i = e + 1
        · rw [e2, a3 (e + 1) (by omega), ge]; omega
        · exact hbelow i (by omega)
      · rw [gn j e1]
        by_cases e2 : i ≤ e
        · have q1 := hbelow i e2
          have q2 := hs 0 j (by omega) (by omega) h3
          omega
        · rw [a3 i (by omega)]
          by_cases e3 : i = e + 1
          · rw [e3, ge]
            exact hs 0 j (by omega) (by omega) h3
          · rw [gn i e3]
            exact hs i j (by omega) h2 h3)
    refine ⟨?_, fun v => ?_, fun i hi => ?_⟩
    · show ps_sorted (ps_drain e (ps_sink (f (e + 1)) (e + 1) (e + 1) (vp_updL f (e + 1) (f 0)) 0)) n
      rw [hg]; exact b1
    · show ps_cnt (ps_drain e (ps_sink (f (e + 1)) (e + 1) (e + 1) (vp_updL f (e + 1) (f 0)) 0)) v n = _
      rw [hg, b2]
      -- counts over n from those over e + 1
      have k1 : ∀ m, e + 1 ≤ m → ps_cnt (ps_sink (f (e + 1)) (e + 1) (e + 1) g 0) v m + ps_cnt (vp_updL g 0 (f (e + 1))) v (e + 1) = ps_cnt (vp_updL g 0 (f (e + 1))) v m + ps_cnt (ps_sink (f (e + 1)) (e + 1) (e + 1) g 0) v (e + 1) := by
        intro m hm
        induction m with
        | zero => omega
        | succ m ih2 =>
          by_cases q : m + 1 = e + 1
          · rw [q]; omega
          · have e5 : ps_sink (f (e + 1)) (e + 1) (e + 1) g 0 m = vp_updL g 0 (f (e + 1)) m := by
              rw [a3 m (by omega), pk_uLn (show m ≠ 0 by omega)]
            have := ih2 (by omega)
            rw [ps_cnt_succ _ v m, ps_cnt_succ _ v m, e5]
            omega
      have k2 := k1 n (by omega)
      rw [a2 v] at k2
      have k3 := ps_cnt_upd (f := g) (v := v) (x := f (e + 1)) (i := 0) n (by omega)
      have k4 := ps_cnt_upd (f := f) (v := v) (x := f 0) (i := e + 1) n (by omega)
      rw [hg] at k4
      rw [gn 0 (by omega)] at k3
      omega
    · show ps_drain e (ps_sink (f (e + 1)) (e + 1) (e + 1) (vp_updL f (e + 1) (f 0)) 0) i = _
      rw [hg, b3 i hi, a3 i (by omega), gn i (by omega)]
/-- the whole sort -/
def ps_sort (n : Nat) (f : Nat → Int64) : Nat → Int64 := ps_drain (n - 1) (ps_heap n (n / 2) f)
theorem ps_sort_spec (n : Nat) (f : Nat → Int64) : ps_sorted (ps_sort n f) n ∧ (∀ v, ps_cnt (ps_sort n f) v n = ps_cnt f v n) ∧ ∀ i, n ≤ i → ps_sort n f i = f i := by
  by_cases h0 : n = 0
  · subst h0
    exact ⟨fun i j _ h => absurd h (Nat.not_lt_zero _), fun _ => rfl, fun _ _ => rfl⟩
  · obtain ⟨a1, a2, a3⟩ := ps_heap_spec n (n / 2) f (by omega) (fun k c h1 h2 h3 => by omega)
    have e1 : n - 1 + 1 = n := by omega
    obtain ⟨b1, b2, b3⟩ := ps_drain_spec n (n - 1) (ps_heap n (n / 2) f) (by omega) (by rw [e1]; exact a1) (fun i j h1 h2 h3 => by omega)
    exact ⟨b1, fun v => (b2 v).trans (a2 v), fun i hi => (b3 i hi).trans (a3 i hi)⟩
end
section
/-! Pure rows: each number once; how often each; the first that is not below; turning round -/
/-- each number of a sorted row once, as the row's loop does it: what stands after k steps, and how many are kept -/
def ps_kd (f : Nat → Int64) : Nat → (Nat → Int64) × Nat
  | 0 => (f, 0)
  | k + 1 => if (ps_kd f k).2 = 0 ∨ (ps_kd f k).1 k ≠ (ps_kd f k).1 ((ps_kd f k).2 - 1) then (vp_updL (ps_kd f k).1 (ps_kd f k).2 ((ps_kd f k).1 k), (ps_kd f k).2 + 1) else ps_kd f k
theorem ps_kd_spec {f : Nat → Int64} {n : Nat} (hs : ps_sorted f n) : ∀ k, k ≤ n →
    (ps_kd f k).2 ≤ k ∧ (0 < k → 0 < (ps_kd f k).2) ∧ (∀ i, k ≤ i → (ps_kd f k).1 i = f i) ∧ (∀ i j, i < j → j < (ps_kd f k).2 → ((ps_kd f k).1 i).toInt < ((ps_kd f k).1 j).toInt) ∧
    (∀ v, (∃ i, i < (ps_kd f k).2 ∧ (ps_kd f k).1 i = v) ↔ ∃ i, i < k ∧ f i = v) ∧ (0 < k → (ps_kd f k).1 ((ps_kd f k).2 - 1) = f (k - 1)) := by
  intro k
  induction k with
  | zero =>
    intro _
    exact ⟨Nat.le_refl _, fun h => h, fun _ _ => rfl, fun i j h1 h2 => absurd h2 (Nat.not_lt_zero _), fun v => ⟨fun ⟨i, h, _⟩ => absurd h (Nat.not_lt_zero _), fun ⟨i, h, _⟩ => absurd h (Nat.not_lt_zero _)⟩, fun h => absurd h (Nat.lt_irrefl _)⟩
  | succ k ih =>
    intro hk
    obtain ⟨a1, a2, a3, a4, a5, a6⟩ := ih (by omega)
    unfold ps_kd
    generalize ps_kd f k = gc at a1 a2 a3 a4 a5 a6 ⊢
    obtain ⟨g, c⟩ := gc
    dsimp only at a1 a2 a3 a4 a5 a6 ⊢
    by_cases q : c = 0 ∨ g k ≠ g (c - 1)
    · rw [if_pos q]
      have gk : g k = f k := a3 k (Nat.le_refl _)
      have hlt : ∀ i, i < c → (g i).toInt < (f k).toInt := by
        intro i hi
        have h0 : c ≠ 0 := by omega
        have hk0 : 0 < k := by omega
        rcases q with q | q
        · omega
        · rw [gk, a6 hk0] at q
          have h1 := hs (k - 1) k (by omega) (by omega)
          have h2 : (f (k - 1)).toInt ≠ (f k).toInt := fun z => q (Int64.toInt.inj z).symm
          have h3 : (g i).toInt ≤ (g (c - 1)).toInt := by
            by_cases e : i = c - 1
            · rw [e]; omega
            · have := a4 i (c - 1) (by omega) (by omega); omega
          rw [a6 hk0] at h3
          omega
      refine ⟨by omega, fun _ => by omega, fun i hi => ?_, fun i j h1 h2 => ?_, fun v => ⟨?_, ?_⟩, fun _ => ?_⟩
      · show vp_updL g c (g k) i = f i
        rw [pk_uLn (by omega)]
        exact a3 i (by omega)
      · show (vp_updL g c (g k) i).toInt < (vp_updL g c (g k) j).toInt
        have h2 : j < c + 1 := h2
        rw [pk_uLn (show i ≠ c by omega)]
        by_cases e : j = c
        · rw [e, pk_uLs, gk]
          exact hlt i (by omega)
        · rw [pk_uLn e]
          exact a4 i j h1 (by omega)
      · rintro ⟨i, h1, h2⟩
        have h1 : i < c + 1 := h1
        have h2 : vp_updL g c (g k) i = v := h2
        by_cases e : i = c
        · rw [e, pk_uLs, gk] at h2
          exact ⟨k, by omega, h2⟩
        · rw [pk_uLn e] at h2
          obtain ⟨j, h3, h4⟩ := (a5 v).mp ⟨i, by omega, h2⟩
          exact ⟨j, by omega, h4⟩
      · rintro ⟨i, h1, h2⟩
        by_cases e : i = k
        · refine ⟨c, Nat.lt_succ_self c, ?_⟩
          show vp_updL g c (g k) c = v
          rw [pk_uLs, gk, ← e, h2]
        · obtain ⟨j, h3, h4⟩ := (a5 v).mpr ⟨i, by omega, h2⟩
          refine ⟨j, Nat.lt_succ_of_lt h3, ?_⟩
          show vp_updL g c (g k) j = v
          rw [pk_uLn (by omega), h4]
      · show vp_updL g c (g k) (c + 1 - 1) = f (k + 1 - 1)
        rw [Nat.add_sub_cancel, Nat.add_sub_cancel, pk_uLs, gk]
    · rw [if_neg q]
      have h0 : c ≠ 0 := fun z => q (Or.inl z)
      have hk0 : 0 < k := by omega
      have he : g k = g (c - 1) := Classical.not_not.mp (fun z => q (Or.inr z))
      have gk : g k = f k := a3 k (Nat.le_refl _)
      refine ⟨by omega, fun _ => by omega, fun i hi => a3 i (by omega), a4, fun v => ⟨?_, ?_⟩, fun _ => ?_⟩
      · intro h
        obtain ⟨j, h3, h4⟩ := (a5 v).mp h
        exact ⟨j, by omega, h4⟩
      · rintro ⟨i, h1, h2⟩
        by_cases e : i = k
        · refine ⟨c - 1, by omega, ?_⟩
          show g (c - 1) = v
          rw [← he, gk, ← e, h2]
        · exact (a5 v).mpr ⟨i, by omega, h2⟩
      · show g (c - 1) = f (k + 1 - 1)
        rw [Nat.add_sub_cancel, ← he, gk]
/-- how often each stands: after the step k (from 1 on): what is told, how many, where the last run begins -/
def ps_ce (f : Nat → Int64) (n : Nat) : Nat → (Nat → Int64) × Nat × Nat
  | 0 => (fun _ => 0, 0, 0)
  | k + 1 => if k + 1 = n ∨ f (k + 1) ≠ f (ps_ce f n k).2.2 then (vp_updL (ps_ce f n k).1 (ps_ce f n k).2.1 (lN (k + 1 - (ps_ce f n k).2.2)), (ps_ce f n k).2.1 + 1, k + 1) else ps_ce f n k
/-- binary search's answer -/
def ps_ff (f : Nat → Int64) (x : Int64) : Nat → Nat → Nat → Nat
  | 0, lo, _ => lo
  | n + 1, lo, hi => if lo < hi then (if f ((lo + hi) / 2) < x then ps_ff f x n ((lo + hi) / 2 + 1) hi else ps_ff f x n lo ((lo + hi) / 2)) else lo
theorem ps_ff_spec {f : Nat → Int64} {x : Int64} {sz : Nat} (hs : ps_sorted f sz) : ∀ (n lo hi : Nat), hi ≤ lo + n → lo ≤ hi → hi ≤ sz → (∀ i, i < lo → (f i).toInt < x.toInt) → (∀ i, hi ≤ i → i < sz → x.toInt ≤ (f i).toInt) →
    lo ≤ ps_ff f x n lo hi ∧ ps_ff f x n lo hi ≤ hi ∧ (∀ i, i < ps_ff f x n lo hi → (f i).toInt < x.toInt) ∧ (∀ i, ps_ff f x n lo hi ≤ i → i < sz → x.toInt ≤ (f i).toInt) := by
  intro n
  induction n with
  | zero =>
    intro lo hi h1 h2 h3 h4 h5
    have : hi = lo := by omega
    subst this
    exact ⟨Nat.le_refl _, Nat.le_refl _, h4, h5⟩
  | succ n ih =>
    intro lo hi h1 h2 h3 h4 h5
    unfold ps_ff
    by_cases q : lo < hi
    · rw [if_pos q]
      by_cases q2 : f ((lo + hi) / 2) < x
      · rw [if_pos q2]
        rw [Int64.lt_iff_toInt_lt] at q2
        obtain ⟨b1, b2, b3, b4⟩ := ih ((lo + hi) / 2 + 1) hi (by omega) (by omega) h3 (fun i hi2 => by
          have := hs i ((lo + hi) / 2) (by omega) (by omega); omega) h5
        exact ⟨by omega, b2, b3, b4⟩
      · rw [if_neg q2]
        rw [Int64.lt_iff_toInt_lt] at q2
        obtain ⟨b1, b2, b3, b4⟩ := ih lo ((lo + hi) / 2) (by omega) (by omega) (by omega) h4 (fun i h6 h7 => by
          have := hs ((lo + hi) / 2) i h6 h7; omega)
        exact ⟨b1, by omega, b3, b4⟩
    · rw [if_neg q]
      have : hi = lo := by omega
      subst this
      exact ⟨Nat.le_refl _, Nat.le_refl _, h4, h5⟩
/-- the places a .. e - 1 turned round -/
def ps_turn (f : Nat → Int64) (a e : Nat) : Nat → Int64 := fun j => if a ≤ j ∧ j < e then f (a + e - 1 - j) else f j
theorem ps_turn_step {f : Nat → Int64} {a e : Nat} (h : a + 1 < e) : ps_turn (vp_updL (vp_updL f a (f (e - 1))) (e - 1) (f a)) (a + 1) (e - 1) = ps_turn f a e := by
  funext j
  unfold ps_turn
  by_cases q1 : j = a
  · subst q1
    rw [if_neg (by omega), if_pos (by omega), pk_uLn (by omega), pk_uLs]
    congr 1; omega
  · by_cases q2 : j = e - 1
    · subst q2
      rw [if_neg (by omega), if_pos (by omega), pk_uLs]
      congr 1; omega
    · by_cases q3 : a ≤ j ∧ j < e
      · rw [if_pos q3, if_pos (by omega), pk_uLn (by omega), pk_uLn (by omega)]
        congr 1; omega
      · rw [if_neg q3, if_neg (by omega), pk_uLn q2, pk_uLn q1]
theorem ps_turn_end {f : Nat → Int64} {a e : Nat} (h : e ≤ a + 1) : ps_turn f a e = f := by
  funext j
  unfold ps_turn
  by_cases q : a ≤ j ∧ j < e
  · rw [if_pos q]; congr 1; omega
  · rw [if_neg q]
end
section
/-- the same for a method of the JDK -/
theorem rd_ofF {l : Launch} {y : MethodName} {cc : ByteArray} {maxL : Nat} {ret : Option FieldType} {D : va_G} {E : ClassId × ClassId × ClassId × ClassId} {ws : va_W} {av : List Value} {rm : Room} {Qc : Array Value → State → Outcome → State → Prop}
    (hy : plainFor y = true) (hlen : (lg_sl av).length ≤ maxL)
    (body : ∀ (p : Program) (e : Env) (s : State) (m : MethodId) (below : List Frame) (meth : Method) (c : Code), En p s m av.toArray meth c y.cls cc maxL ret y → va_P D vwC ws s.heap → KK D E s → ∀ ls : Array Slot, lv_has ls maxL (lv_args 0 av) →
      W p l e rm s m av.toArray below meth c s.heap [] 0 0 (MQ below Qc av.toArray s 0 0 (fun _ => False)) (F0 m 0 ls [])) : Met l y (.code y cc maxL ret :: gw) rm (rP D E ws av) Qc 0 0 (fun _ => False) := by
  refine va_MetF (cc := cc) (maxL := maxL) (ret := ret) hy rfl ?_
  intro p e s m args below meth c s₁ B hml hv
  obtain ⟨rfl, hP, hK⟩ := hv
  have hts := atoms_spec (ws := Cond.code y cc maxL ret :: gw) B.pre
  have hl := lv_entry av (n := maxL) hlen
  rw [lg_entry_eq]
  exact body p e s m below meth c ⟨B.exec, B.bytes, B.returns, hml, findClass_of_methodNamed B.named, hts, fun w h => hts w (List.mem_cons_of_mem _ h), B.notSynchronized, (name_of_methodNamed B.named B.method).1⟩ hP hK _ hl

theorem wr_ofF {l : Launch} {y : MethodName} {cc : ByteArray} {maxL : Nat} {ret : Option FieldType} {D : va_G} {E : ClassId × ClassId × ClassId × ClassId} {ws : va_W} {sz : Nat} {av : List Value} {rm : Room} {Qc : (Nat → Prop) → Array Value → State → Outcome → State → Prop} {mc ms : Nat}
    (hy : plainFor y = true) (hlen : (lg_sl av).length ≤ maxL)
    (body : ∀ (p : Program) (e : Env) (s : State) (m : MethodId) (below : List Frame) (meth : Method) (c : Code), En p s m av.toArray meth c y.cls cc maxL ret y → va_P D vwC ws s.heap → KK D E s → ∀ A : Nat → Prop, (∀ q : Nat, s.heap.size ≤ q → A q) → va_D A ws → va_S A s.heap s.heap [] → ∀ ls : Array Slot, lv_has ls maxL (lv_args 0 av) →
      W p l e rm s m av.toArray below meth c s.heap [] 0 0 (MQ below (Qc A) av.toArray s mc ms A) (F0 m 0 ls [])) : Met l y (.code y cc maxL ret :: gw) rm (wP D E ws sz av) (Qc (va_A ws sz)) mc ms (va_A ws sz) := by
  refine va_MetF (cc := cc) (maxL := maxL) (ret := ret) hy rfl ?_
  intro p e s m args below meth c s₁ B hml hv
  obtain ⟨rfl, hsz, hP, hK, hD0⟩ := hv
  have hts := atoms_spec (ws := Cond.code y cc maxL ret :: gw) B.pre
  subst hsz
  have hD := hD0.self (sz := s.heap.size)
  have hl := lv_entry av (n := maxL) hlen
  rw [lg_entry_eq]
  exact body p e s m below meth c ⟨B.exec, B.bytes, B.returns, hml, findClass_of_methodNamed B.named, hts, fun w h => hts w (List.mem_cons_of_mem _ h), B.notSynchronized, (name_of_methodNamed B.named B.method).1⟩ hP hK _ (fun q h => Or.inr h) hD va_S.rf _ hl
/-- a writer that answers a reference: the world behind it -/
def wBr {S : Type} (D : va_G) (w : S → Nat → va_W) (A : Nat → Prop) : S → Nat → State → Prop := fun u q t => va_P D vwC (w u q) t.heap ∧ va_D A (w u q)
end
section
theorem d_R_at_0 : decode c_R_at 0 = .ok (.aload_n 0, 1) := by decide +kernel
theorem d_R_at_1 : decode c_R_at 1 = .ok (.iload_n 1, 1) := by decide +kernel
theorem d_R_at_2 : decode c_R_at 2 = .ok (.invokevirtual 22, 3) := by decide +kernel
theorem d_R_at_5 : decode c_R_at 5 = .ok (.ifCond .eq 12, 3) := by decide +kernel
theorem d_R_at_8 : decode c_R_at 8 = .ok (.aload_n 0, 1) := by decide +kernel
theorem d_R_at_9 : decode c_R_at 9 = .ok (.getfield 15, 3) := by decide +kernel
theorem d_R_at_12 : decode c_R_at 12 = .ok (.iload_n 1, 1) := by decide +kernel
theorem d_R_at_13 : decode c_R_at 13 = .ok (.laload, 1) := by decide +kernel
theorem d_R_at_14 : decode c_R_at 14 = .ok (.goto 6, 3) := by decide +kernel
theorem d_R_at_17 : decode c_R_at 17 = .ok (.ldc2_w 26, 3) := by decide +kernel
theorem d_R_at_20 : decode c_R_at 20 = .ok (.lreturn, 1) := by decide +kernel
theorem d_R_has_0 : decode c_R_has 0 = .ok (.iload_n 1, 1) := by decide +kernel
theorem d_R_has_1 : decode c_R_has 1 = .ok (.ifCond .lt 15, 3) := by decide +kernel
theorem d_R_has_4 : decode c_R_has 4 = .ok (.iload_n 1, 1) := by decide +kernel
theorem d_R_has_5 : decode c_R_has 5 = .ok (.aload_n 0, 1) := by decide +kernel
theorem d_R_has_6 : decode c_R_has 6 = .ok (.getfield 19, 3) := by decide +kernel
theorem d_R_has_9 : decode c_R_has 9 = .ok (.if_icmp .ge 7, 3) := by decide +kernel
theorem d_R_has_12 : decode c_R_has 12 = .ok (.iconst 1, 1) := by decide +kernel
theorem d_R_has_13 : decode c_R_has 13 = .ok (.goto 4, 3) := by decide +kernel
theorem d_R_has_16 : decode c_R_has 16 = .ok (.iconst 0, 1) := by decide +kernel
theorem d_R_has_17 : decode c_R_has 17 = .ok (.ireturn, 1) := by decide +kernel
theorem d_R_isFull_0 : decode c_R_isFull 0 = .ok (.aload_n 0, 1) := by decide +kernel
theorem d_R_isFull_1 : decode c_R_isFull 1 = .ok (.getfield 19, 3) := by decide +kernel
theorem d_R_isFull_4 : decode c_R_isFull 4 = .ok (.aload_n 0, 1) := by decide +kernel
theorem d_R_isFull_5 : decode c_R_isFull 5 = .ok (.getfield 9, 3) := by decide +kernel
theorem d_R_isFull_8 : decode c_R_isFull 8 = .ok (.if_icmp .lt 7, 3) := by decide +kernel
theorem d_R_isFull_11 : decode c_R_isFull 11 = .ok (.iconst 1, 1) := by decide +kernel
theorem d_R_isFull_12 : decode c_R_isFull 12 = .ok (.goto 4, 3) := by decide +kernel
theorem d_R_isFull_15 : decode c_R_isFull 15 = .ok (.iconst 0, 1) := by decide +kernel
theorem d_R_isFull_16 : decode c_R_isFull 16 = .ok (.ireturn, 1) := by decide +kernel
theorem d_R_size_0 : decode c_R_size 0 = .ok (.aload_n 0, 1) := by decide +kernel
theorem d_R_size_1 : decode c_R_size 1 = .ok (.getfield 19, 3) := by decide +kernel
theorem d_R_size_4 : decode c_R_size 4 = .ok (.ireturn, 1) := by decide +kernel
set_option maxHeartbeats 4000000 in
set_option maxRecDepth 100000 in
theorem k_R_size (l : Launch) (D : va_G) (E : ClassId × ClassId × ClassId × ClassId) (h0 a : Nat) (most z : Int32) : Met l y_R_size (.code y_R_size c_R_size 1 (some .int) :: gw) ({ frames := 0, cells := 0, slots := 0, locals := 0 } : Room) (rP D E [(h0, .inr (0, [.int most, .ref a, .int z]))] [.ref h0]) (vp_Si (fun r => r = z)) 0 0 (fun _ => False) := by
  refine rd_ofW (by decide) (Nat.le_of_ble_eq_true rfl) ?_
  intro p e s m below meth c B hP hK ls hl
  obtain ⟨hx, hb, hrt, hml, hown, hts, hG, hlocks, hin⟩ := B
  have hl : lv_has ls 1 [(0, .ref h0)] := hl
  refine lv_aload_n hx hb d_R_size_0 rfl (lv_at hl 0 rfl) ?_
  refine va_get (D := D) (ci := 0) (v := .int z) (C := K_R) (T := F_R) (N := 3) hx hb hG in_R hown hK.1 hP 0 rfl rfl 2 (by decide) (hG _ wd_99) (fun _ h9 => h9) rfl d_R_size_1 ?_
  exact W.iret (v := z) hx hb hrt (fun t ht hW => ⟨z, rfl, rfl, ht⟩) (fun q h => nomatch h) d_R_size_4 hlocks
/-- whether an index is one of z -/
def rw_has (z i : Int32) : Int32 := if i < 0 then 0 else if z ≤ i then 0 else 1
set_option maxHeartbeats 4000000 in
set_option maxRecDepth 100000 in
theorem k_R_has (l : Launch) (D : va_G) (E : ClassId × ClassId × ClassId × ClassId) (h0 a : Nat) (most z i : Int32) : Met l y_R_has (.code y_R_has c_R_has 2 (some .boolean) :: gw) ({ frames := 0, cells := 0, slots := 0, locals := 0 } : Room) (rP D E [(h0, .inr (0, [.int most, .ref a, .int z]))] [.ref h0, .int i]) (vp_Si (fun r => r = rw_has z i)) 0 0 (fun _ => False) := by
  refine rd_ofW (by decide) (Nat.le_of_ble_eq_true rfl) ?_
  intro p e s m below meth c B hP hK ls hl
  obtain ⟨hx, hb, hrt, hml, hown, hts, hG, hlocks, hin⟩ := B
  have hl : lv_has ls 2 [(0, .ref h0), (1, .int i)] := hl
  refine lv_iload_n hx hb d_R_has_0 rfl (lv_at hl 1 rfl) ?_
  refine lv_if_lt (tgt := 16) hx hb d_R_has_1 (by decide) (fun c1 => ?_) (fun c1 => ?_)
  · refine lv_iconst (v := 0) hx hb d_R_has_16 (by decide) ?_
    exact W.zret (v := 0) (ty := .boolean) hx hb hrt rfl (fun t ht hW => ⟨0, rfl, by rw [rw_has, if_pos c1], ht⟩) (fun q h => nomatch h) d_R_has_17 hlocks
  · refine lv_iload_n hx hb d_R_has_4 rfl (lv_at hl 1 rfl) ?_
    refine lv_aload_n hx hb d_R_has_5 rfl (lv_at hl 0 rfl) ?_
    refine va_get (D := D) (ci := 0) (v := .int z) (C := K_R) (T := F_R) (N := 3) hx hb hG in_R hown hK.1 hP 0 rfl rfl 2 (by decide) (hG _ wd_99) (fun _ h9 => h9) rfl d_R_has_6 ?_
    refine lv_icmp_ge (tgt := 16) hx hb d_R_has_9 (by decide) (fun c2 => ?_) (fun c2 => ?_)
    · refine lv_iconst (v := 0) hx hb d_R_has_16 (by decide) ?_
      exact W.zret (v := 0) (ty := .boolean) hx hb hrt rfl (fun t ht hW => ⟨0, rfl, by rw [rw_has, if_neg c1, if_pos c2], ht⟩) (fun q h => nomatch h) d_R_has_17 hlocks
    · refine lv_iconst (v := 1) hx hb d_R_has_12 (by decide) ?_
      refine lv_goto (tgt := 17) hx hb d_R_has_13 (by decide) ?_
      exact W.zret (v := 1) (ty := .boolean) hx hb hrt rfl (fun t ht hW => ⟨1, rfl, by rw [rw_has, if_neg c1, if_neg c2], ht⟩) (fun q h => nomatch h) d_R_has_17 hlocks
set_option maxHeartbeats 4000000 in
set_option maxRecDepth 100000 in
theorem k_R_isFull (l : Launch) (D : va_G) (E : ClassId × ClassId × ClassId × ClassId) (h0 a : Nat) (most z : Int32) : Met l y_R_isFull (.code y_R_isFull c_R_isFull 1 (some .boolean) :: gw) ({ frames := 0, cells := 0, slots := 0, locals := 0 } : Room) (rP D E [(h0, .inr (0, [.int most, .ref a, .int z]))] [.ref h0]) (vp_Si (fun r => r = if z < most then 0 else 1)) 0 0 (fun _ => False) := by
  refine rd_ofW (by decide) (Nat.le_of_ble_eq_true rfl) ?_
  intro p e s m below meth c B hP hK ls hl
  obtain ⟨hx, hb, hrt, hml, hown, hts, hG, hlocks, hin⟩ := B
  have hl : lv_has ls 1 [(0, .ref h0)] := hl
  refine lv_aload_n hx hb d_R_isFull_0 rfl (lv_at hl 0 rfl) ?_
  refine va_get (D := D) (ci := 0) (v := .int z) (C := K_R) (T := F_R) (N := 3) hx hb hG in_R hown hK.1 hP 0 rfl rfl 2 (by decide) (hG _ wd_99) (fun _ h9 => h9) rfl d_R_isFull_1 ?_
  refine lv_aload_n hx hb d_R_isFull_4 rfl (lv_at hl 0 rfl) ?_
  refine va_get (D := D) (ci := 0) (v := .int most) (C := K_R) (T := F_R) (N := 3) hx hb hG in_R hown hK.1 hP 0 rfl rfl 0 (by decide) (hG _ wd_97) (fun _ h9 => h9) rfl d_R_isFull_5 ?_
  refine lv_icmp_lt (tgt := 15) hx hb d_R_isFull_8 (by decide) (fun c1 => ?_) (fun c1 => ?_)
  · refine lv_iconst (v := 0) hx hb d_R_isFull_15 (by decide) ?_
    exact W.zret (v := 0) (ty := .boolean) hx hb hrt rfl (fun t ht hW => ⟨0, rfl, by rw [if_pos c1], ht⟩) (fun q h => nomatch h) d_R_isFull_16 hlocks
  · refine lv_iconst (v := 1) hx hb d_R_isFull_11 (by decide) ?_
    refine lv_goto (tgt := 16) hx hb d_R_isFull_12 (by decide) ?_
    exact W.zret (v := 1) (ty := .boolean) hx hb hrt rfl (fun t ht hW => ⟨1, rfl, by rw [if_neg c1], ht⟩) (fun q h => nomatch h) d_R_isFull_16 hlocks
theorem rw_has_1 {z i : Int32} (h : ¬ rw_has z i = 0) : ¬ i < 0 ∧ ¬ z ≤ i := by
  unfold rw_has at h
  by_cases c1 : i < 0
  · rw [if_pos c1] at h; exact absurd rfl h
  · rw [if_neg c1] at h
    by_cases c2 : z ≤ i
    · rw [if_pos c2] at h; exact absurd rfl h
    · exact ⟨c1, c2⟩
theorem vp_in_z {sz n : Nat} {i : Int32} (h1 : ¬ i < 0) (h2 : ¬ nI sz ≤ i) (h : sz ≤ n) (hn : n < 2 ^ 31) : vp_in i n := by
  rw [vp_in_iff]
  rw [Int32.lt_iff_toInt_lt] at h1
  rw [Int32.le_iff_toInt_le, nI_toInt (by omega)] at h2
  have h0 : (0 : Int32).toInt = 0 := by decide
  omega
def rw_at (f : Nat → Int64) (z i : Int32) : Int64 := if rw_has z i = 0 then -1 else f i.toNatClampNeg
set_option maxHeartbeats 4000000 in
set_option maxRecDepth 100000 in
theorem k_R_at (l : Launch) (D : va_G) (E : ClassId × ClassId × ClassId × ClassId) (h0 a : Nat) (most i : Int32) (sz n : Nat) (f : Nat → Int64) (hsz : sz ≤ n) (hn : n < 2 ^ 31) : Met l y_R_at (.code y_R_at c_R_at 2 (some .long) :: gw) ({ frames := 1, cells := 0, slots := 0, locals := 21 } : Room) (rP D E [(h0, .inr (0, [.int most, .ref a, .int (nI sz)])), (a, .inl (E.1, n, .inr (.inl f)))] [.ref h0, .int i]) (vp_Sl (fun r => r = rw_at f (nI sz) i)) 0 0 (fun _ => False) := by
  refine rd_ofW (by decide) (Nat.le_of_ble_eq_true rfl) ?_
  intro p e s m below meth c B hP hK ls hl
  obtain ⟨hx, hb, hrt, hml, hown, hts, hG, hlocks, hin⟩ := B
  have hl : lv_has ls 2 [(0, .ref h0), (1, .int i)] := hl
  refine lv_aload_n hx hb d_R_at_0 rfl (lv_at hl 0 rfl) ?_
  refine lv_iload_n hx hb d_R_at_1 rfl (lv_at hl 1 rfl) ?_
  have hPc := hP.sub (ws' := [(h0, .inr (0, [.int most, .ref a, .int (nI sz)]))]) [0] rfl
  refine vp_callSi (W.runV (As := [.int i]) (rest := []) ⟨hx, hb, hml, hown, hts⟩ (k_R_has l D E h0 a most (nI sz) i) (cwV 1 hts (gw_gv wd_487 wd_488 wd_489 wd_41 wd_490) rfl rfl rfl (by decide +kernel) ⟨Nat.le_of_ble_eq_true rfl, Nat.le_of_ble_eq_true rfl⟩) (rP_V 0 hPc hK rfl rfl) rfl rfl hl.1 rfl (lv_room (Nat.le_of_ble_eq_true rfl)) d_R_at_2 ⟨Nat.le_of_ble_eq_true rfl, Nat.le_of_ble_eq_true rfl⟩) (fun r hr => ?_)
  refine lv_if_eq (tgt := 17) hx hb d_R_at_5 (by decide) (fun c1 => ?_) (fun c1 => ?_)
  · refine lv_ldc2 hx hb hown (hG _ wd_491) d_R_at_17 ?_
    exact W.lret (v := (-1)) hx hb hrt (fun t ht hW => ⟨(-1), rfl, by rw [hr] at c1; rw [rw_at, if_pos c1], ht⟩) (fun q h => nomatch h) d_R_at_20 hlocks
  · rw [hr] at c1
    have c2 := rw_has_1 c1
    refine lv_aload_n hx hb d_R_at_8 rfl (lv_at hl 0 rfl) ?_
    refine va_get (D := D) (ci := 0) (v := .ref a) (C := K_R) (T := F_R) (N := 3) hx hb hG in_R hown hK.1 hP 0 rfl rfl 1 (by decide) (hG _ wd_98) (fun _ h9 => h9) rfl d_R_at_9 ?_
    refine lv_iload_n hx hb d_R_at_12 rfl (lv_at hl 1 rfl) ?_
    refine va_lald hx hb hK.1 hP 1 0 rfl rfl (vp_in_z c2.1 c2.2 hsz hn) d_R_at_13 ?_
    refine lv_goto (tgt := 20) hx hb d_R_at_14 (by decide) ?_
    exact W.lret (v := (f (Int32.toNatClampNeg i))) hx hb hrt (fun t ht hW => ⟨(f (Int32.toNatClampNeg i)), rfl, by rw [rw_at, if_neg c1], ht⟩) (fun q h => nomatch h) d_R_at_20 hlocks
end
section
theorem d_R_drop_0 : decode c_R_drop 0 = .ok (.aload_n 0, 1) := by decide +kernel
theorem d_R_drop_1 : decode c_R_drop 1 = .ok (.iconst 0, 1) := by decide +kernel
theorem d_R_drop_2 : decode c_R_drop 2 = .ok (.putfield 19, 3) := by decide +kernel
theorem d_R_drop_5 : decode c_R_drop 5 = .ok (.return_, 1) := by decide +kernel
theorem d_R_firstFrom_0 : decode c_R_firstFrom 0 = .ok (.iconst 0, 1) := by decide +kernel
theorem d_R_firstFrom_1 : decode c_R_firstFrom 1 = .ok (.istore_n 3, 1) := by decide +kernel
theorem d_R_firstFrom_2 : decode c_R_firstFrom 2 = .ok (.aload_n 0, 1) := by decide +kernel
theorem d_R_firstFrom_3 : decode c_R_firstFrom 3 = .ok (.getfield 19, 3) := by decide +kernel
theorem d_R_firstFrom_6 : decode c_R_firstFrom 6 = .ok (.istore 4, 2) := by decide +kernel
theorem d_R_firstFrom_8 : decode c_R_firstFrom 8 = .ok (.iload_n 3, 1) := by decide +kernel
theorem d_R_firstFrom_9 : decode c_R_firstFrom 9 = .ok (.iload 4, 2) := by decide +kernel
theorem d_R_firstFrom_11 : decode c_R_firstFrom 11 = .ok (.if_icmp .ge 38, 3) := by decide +kernel
theorem d_R_firstFrom_14 : decode c_R_firstFrom 14 = .ok (.iload_n 3, 1) := by decide +kernel
theorem d_R_firstFrom_15 : decode c_R_firstFrom 15 = .ok (.iload 4, 2) := by decide +kernel
theorem d_R_firstFrom_17 : decode c_R_firstFrom 17 = .ok (.iadd, 1) := by decide +kernel
theorem d_R_firstFrom_18 : decode c_R_firstFrom 18 = .ok (.iconst 2, 1) := by decide +kernel
theorem d_R_firstFrom_19 : decode c_R_firstFrom 19 = .ok (.idiv, 1) := by decide +kernel
theorem d_R_firstFrom_20 : decode c_R_firstFrom 20 = .ok (.istore 5, 2) := by decide +kernel
theorem d_R_firstFrom_22 : decode c_R_firstFrom 22 = .ok (.aload_n 0, 1) := by decide +kernel
theorem d_R_firstFrom_23 : decode c_R_firstFrom 23 = .ok (.getfield 15, 3) := by decide +kernel
theorem d_R_firstFrom_26 : decode c_R_firstFrom 26 = .ok (.iload 5, 2) := by decide +kernel
theorem d_R_firstFrom_28 : decode c_R_firstFrom 28 = .ok (.laload, 1) := by decide +kernel
theorem d_R_firstFrom_29 : decode c_R_firstFrom 29 = .ok (.lload_n 1, 1) := by decide +kernel
theorem d_R_firstFrom_30 : decode c_R_firstFrom 30 = .ok (.lcmp, 1) := by decide +kernel
theorem d_R_firstFrom_31 : decode c_R_firstFrom 31 = .ok (.ifCond .ge 11, 3) := by decide +kernel
theorem d_R_firstFrom_34 : decode c_R_firstFrom 34 = .ok (.iload 5, 2) := by decide +kernel
theorem d_R_firstFrom_36 : decode c_R_firstFrom 36 = .ok (.iconst 1, 1) := by decide +kernel
theorem d_R_firstFrom_37 : decode c_R_firstFrom 37 = .ok (.iadd, 1) := by decide +kernel
theorem d_R_firstFrom_38 : decode c_R_firstFrom 38 = .ok (.istore_n 3, 1) := by decide +kernel
theorem d_R_firstFrom_39 : decode c_R_firstFrom 39 = .ok (.goto 7, 3) := by decide +kernel
theorem d_R_firstFrom_42 : decode c_R_firstFrom 42 = .ok (.iload 5, 2) := by decide +kernel
theorem d_R_firstFrom_44 : decode c_R_firstFrom 44 = .ok (.istore 4, 2) := by decide +kernel
theorem d_R_firstFrom_46 : decode c_R_firstFrom 46 = .ok (.goto (-38), 3) := by decide +kernel
theorem d_R_firstFrom_49 : decode c_R_firstFrom 49 = .ok (.iload_n 3, 1) := by decide +kernel
theorem d_R_firstFrom_50 : decode c_R_firstFrom 50 = .ok (.ireturn, 1) := by decide +kernel
theorem nI_half {a b : Nat} (h : a + b < 2 ^ 31) : (nI a + nI b) / 2 = nI ((a + b) / 2) := by
  rw [nI_add]
  exact pk_div (d := 2) h (by decide) (by decide)
theorem lg_lt {x y : Int64} : lg_cmp x y < 0 ↔ x < y := by
  unfold lg_cmp
  by_cases h1 : y < x
  · rw [if_pos h1]
    refine ⟨fun h => absurd h (by decide), fun h => ?_⟩
    rw [Int64.lt_iff_toInt_lt] at h h1
    omega
  · rw [if_neg h1]
    by_cases h2 : x = y
    · rw [if_pos h2]
      refine ⟨fun h => absurd h (by decide), fun h => ?_⟩
      rw [h2] at h
      rw [Int64.lt_iff_toInt_lt] at h
      omega
    · rw [if_neg h2]
      refine ⟨fun _ => ?_, fun _ => by decide⟩
      rw [Int64.lt_iff_toInt_lt] at h1 ⊢
      have : x.toInt ≠ y.toInt := fun z => h2 (Int64.toInt.inj z)
      omega
theorem lg_gt {x y : Int64} : 0 < lg_cmp x y ↔ y < x := by
  unfold lg_cmp
  by_cases h1 : y < x
  · rw [if_pos h1]
    exact ⟨fun _ => h1, fun _ => by decide⟩
  · rw [if_neg h1]
    by_cases h2 : x = y
    · rw [if_pos h2]
      exact ⟨fun h => absurd h (by decide), fun h => absurd h h1⟩
    · rw [if_neg h2]
      exact ⟨fun h => absurd h (by decide), fun h => absurd h h1⟩
theorem lg_eq {x y : Int64} : lg_cmp x y = 0 ↔ x = y := by
  unfold lg_cmp
  by_cases h1 : y < x
  · rw [if_pos h1]
    refine ⟨fun h => absurd h (by decide), fun h => ?_⟩
    rw [h, Int64.lt_iff_toInt_lt] at h1
    omega
  · rw [if_neg h1]
    by_cases h2 : x = y
    · rw [if_pos h2]
      exact ⟨fun _ => h2, fun _ => rfl⟩
    · rw [if_neg h2]
      exact ⟨fun h => absurd h (by decide), fun h => absurd h h2⟩
theorem lg_ge {x y : Int64} : 0 ≤ lg_cmp x y ↔ ¬ x < y := by
  rw [← lg_lt, Int32.le_iff_toInt_le, Int32.lt_iff_toInt_lt]
  omega
theorem lg_le {x y : Int64} : lg_cmp x y ≤ 0 ↔ ¬ y < x := by
  rw [← lg_gt, Int32.le_iff_toInt_le, Int32.lt_iff_toInt_lt]
  omega
set_option maxHeartbeats 4000000 in
set_option maxRecDepth 100000 in
theorem k_R_firstFrom (l : Launch) (D : va_G) (E : ClassId × ClassId × ClassId × ClassId) (h0 a : Nat) (most : Int32) (x : Int64) (z n : Nat) (f : Nat → Int64) (hz : z ≤ n) (hn : n < 2 ^ 29) : Met l y_R_firstFrom (.code y_R_firstFrom c_R_firstFrom 6 (some .int) :: gw) ({ frames := 0, cells := 0, slots := 0, locals := 0 } : Room) (rP D E [(h0, .inr (0, [.int most, .ref a, .int (nI z)])), (a, .inl (E.1, n, .inr (.inl f)))] [.ref h0, .long x]) (vp_Si (fun r => r = nI (ps_ff f x (z + 1) 0 z))) 0 0 (fun _ => False) := by
  refine rd_ofW (by decide) (Nat.le_of_ble_eq_true rfl) ?_
  intro p e s m below meth c B hP hK ls hl
  obtain ⟨hx, hb, hrt, hml, hown, hts, hG, hlocks, hin⟩ := B
  have hl : lv_has ls 6 [(0, .ref h0), (1, .long x)] := hl
  refine lv_iconst (v := 0) hx hb d_R_firstFrom_0 (by decide) ?_
  refine lv_istore_n (lv' := [(3, .int 0), (0, .ref h0), (1, .long x)]) hx hb d_R_firstFrom_1 rfl hl (by decide) rfl (fun ls hl => ?_)
  refine lv_aload_n hx hb d_R_firstFrom_2 rfl (lv_at hl 1 rfl) ?_
  refine va_get (D := D) (ci := 0) (v := .int (nI z)) (C := K_R) (T := F_R) (N := 3) hx hb hG in_R hown hK.1 hP 0 rfl rfl 2 (by decide) (hG _ wd_99) (fun _ h9 => h9) rfl d_R_firstFrom_3 ?_
  refine lv_istore (lv' := [(4, .int (nI z)), (3, .int 0), (0, .ref h0), (1, .long x)]) hx hb d_R_firstFrom_6 hl (by decide) rfl (fun ls hl => ?_)
  have loop : ∀ (fu : Nat) (lo : Nat) (hi : Nat) (ls : Array Slot), (lo ≤ hi) → (hi ≤ z) → (hi < lo + fu) → (ps_ff f x fu lo hi = ps_ff f x (z + 1) 0 z) → lv_has ls 6 [(0, .ref h0), (1, .long x), (3, .int (nI lo)), (4, .int (nI hi))] → W p l e ({ frames := 0, cells := 0, slots := 0, locals := 0 } : Room) s m ([.ref h0, .long x] : List Value).toArray below meth c s.heap [] 0 0 (MQ below (vp_Si (fun r => r = nI (ps_ff f x (z + 1) 0 z))) ([.ref h0, .long x] : List Value).toArray s 0 0 (fun _ => False)) (F0 m 8 ls []) := by
    intro fu
    induction fu with
    | zero =>
      intro lo hi ls h1 h2 h3 h4 hl
      omega
    | succ fu ih =>
      intro lo hi ls h1 h2 h3 h4 hl
      rw [ps_ff] at h4
      refine lv_iload_n hx hb d_R_firstFrom_8 rfl (lv_at hl 2 rfl) ?_
      refine lv_iload hx hb d_R_firstFrom_9 (lv_at hl 3 rfl) ?_
      refine lv_icmp_ge (tgt := 49) hx hb d_R_firstFrom_11 (by decide) (fun c1 => ?_) (fun c1 => ?_)
      · have q : ¬ lo < hi := by have := (nI_leI (by omega) (by omega)).mp c1; omega
        rw [if_neg q] at h4
        refine lv_iload_n hx hb d_R_firstFrom_49 rfl (lv_at hl 2 rfl) ?_
        exact W.iret (v := nI lo) hx hb hrt (fun t ht hW => ⟨nI lo, rfl, by rw [h4], ht⟩) (fun q h => nomatch h) d_R_firstFrom_50 hlocks
      · have q : lo < hi := by rw [nI_leI (by omega) (by omega)] at c1; omega
        rw [if_pos q] at h4
        refine lv_iload_n hx hb d_R_firstFrom_14 rfl (lv_at hl 2 rfl) ?_
        refine lv_iload hx hb d_R_firstFrom_15 (lv_at hl 3 rfl) ?_
        refine lv_iadd hx hb d_R_firstFrom_17 ?_
        refine lv_iconst (v := 2) hx hb d_R_firstFrom_18 (by decide) ?_
        refine lv_idiv hx hb d_R_firstFrom_19 (by decide) ?_
        rw [nI_half (by omega)]
        refine lv_istore (lv' := [(5, .int (nI ((lo + hi) / 2))), (0, .ref h0), (1, .long x), (3, .int (nI lo)), (4, .int (nI hi))]) hx hb d_R_firstFrom_20 hl (by decide) rfl (fun ls hl => ?_)
        refine lv_aload_n hx hb d_R_firstFrom_22 rfl (lv_at hl 1 rfl) ?_
        refine va_get (D := D) (ci := 0) (v := .ref a) (C := K_R) (T := F_R) (N := 3) hx hb hG in_R hown hK.1 hP 0 rfl rfl 1 (by decide) (hG _ wd_98) (fun _ h9 => h9) rfl d_R_firstFrom_23 ?_
        refine lv_iload hx hb d_R_firstFrom_26 (lv_at hl 0 rfl) ?_
        refine va_lald hx hb hK.1 hP 1 0 rfl rfl (vp_in_nI (by omega) (by omega)) d_R_firstFrom_28 ?_
        rw [show f (Int32.toNatClampNeg (nI ((lo + hi) / 2))) = f ((lo + hi) / 2) from by rw [nI_clamp (by omega)]]
        refine lv_lload_n hx hb d_R_firstFrom_29 rfl (lv_at hl 2 rfl) ?_
        refine W.lcmp hx hb d_R_firstFrom_30 ?_
        refine lv_if_ge (tgt := 42) hx hb d_R_firstFrom_31 (by decide) (fun c2 => ?_) (fun c2 => ?_)
        · rw [if_neg (lg_ge.mp c2)] at h4
          refine lv_iload hx hb d_R_firstFrom_42 (lv_at hl 0 rfl) ?_
          refine lv_istore (lv' := [(4, .int (nI ((lo + hi) / 2))), (5, .int (nI ((lo + hi) / 2))), (0, .ref h0), (1, .long x), (3, .int (nI lo))]) hx hb d_R_firstFrom_44 hl (by decide) rfl (fun ls hl => ?_)
          refine lv_goto (tgt := 8) hx hb d_R_firstFrom_46 (by decide) ?_
          exact ih lo ((lo + hi) / 2) ls (by omega) (by omega) (by omega) h4 (lv_sub hl [2, 3, 4, 0] rfl)
        · have c2 : f ((lo + hi) / 2) < x := by rw [lg_ge] at c2; exact Classical.not_not.mp c2
          rw [if_pos c2] at h4
          refine lv_iload hx hb d_R_firstFrom_34 (lv_at hl 0 rfl) ?_
          refine lv_iconst (v := 1) hx hb d_R_firstFrom_36 (by decide) ?_
          refine lv_iadd hx hb d_R_firstFrom_37 ?_
          rw [nI_1]
          refine lv_istore_n (lv' := [(3, .int (nI ((lo + hi) / 2 + 1))), (5, .int (nI ((lo + hi) / 2))), (0, .ref h0), (1, .long x), (4, .int (nI hi))]) hx hb d_R_firstFrom_38 rfl hl (by decide) rfl (fun ls hl => ?_)
          refine lv_goto (tgt := 46) hx hb d_R_firstFrom_39 (by decide) ?_
          refine lv_goto (tgt := 8) hx hb d_R_firstFrom_46 (by decide) ?_
          exact ih ((lo + hi) / 2 + 1) hi ls (by omega) (by omega) (by omega) h4 (lv_sub hl [2, 3, 0, 4] rfl)
  exact loop (z + 1) 0 z ls (by omega) (by omega) (by omega) rfl (lv_sub hl [2, 3, 1, 0] rfl)
set_option maxHeartbeats 4000000 in
set_option maxRecDepth 100000 in
theorem k_R_drop (l : Launch) (D : va_G) (E : ClassId × ClassId × ClassId × ClassId) (h0 a sz : Nat) (most z : Int32) : Met l y_R_drop (.code y_R_drop c_R_drop 1 none :: gw) ({ frames := 0, cells := 0, slots := 0, locals := 0 } : Room) (wP D E [(h0, .inr (0, [.int most, .ref a, .int z]))] sz [.ref h0]) (va_Qv (fun (u : Unit) => True) (wB D (fun _ => [(h0, .inr (0, [.int most, .ref a, .int 0]))]) (va_A [(h0, .inr (0, [.int most, .ref a, .int z]))] sz)) (va_A [(h0, .inr (0, [.int most, .ref a, .int z]))] sz)) 0 0 (va_A [(h0, .inr (0, [.int most, .ref a, .int z]))] sz) := by
  refine wr_ofW (Qc := fun A => (va_Qv (fun (u : Unit) => True) (wB D (fun _ => [(h0, .inr (0, [.int most, .ref a, .int 0]))]) A) A)) (by decide) (Nat.le_of_ble_eq_true rfl) ?_
  intro p e s m below meth c B hP hK A hA hD hS ls hl
  obtain ⟨hx, hb, hrt, hml, hown, hts, hG, hlocks, hin⟩ := B
  have hl : lv_has ls 1 [(0, .ref h0)] := hl
  refine lv_aload_n hx hb d_R_drop_0 rfl (lv_at hl 0 rfl) ?_
  refine lv_iconst (v := 0) hx hb d_R_drop_1 (by decide) ?_
  refine va_put (D := D) (ci := 0) (v := .int 0) (ty := .int) (C := K_R) (T := F_R) (N := 3) hx hb hG in_R t_R t_R_ok n_R hown hK.1 hP hD hS 0 rfl rfl 2 (by decide) (hG _ wd_99) (fun _ h9 => h9) rfl (by decide +kernel) rfl rfl (Nat.le_of_ble_eq_true rfl) d_R_drop_2 (fun H locs hP hD hS => ?_)
  have hP : va_P D vwC [(h0, .inr (0, [.int most, .ref a, .int 0]))] H := hP
  have hD : va_D A [(h0, .inr (0, [.int most, .ref a, .int 0]))] := hD
  exact W.vret hx hb hrt (fun t ht hW => ⟨⟨(), rfl, trivial, ⟨by rw [ht]; exact hP, hD⟩⟩, hS.F ht⟩) hS.2.2 d_R_drop_5 hlocks
end
section
theorem d_R_sink_0 : decode c_R_sink 0 = .ok (.iload_n 3, 1) := by decide +kernel
theorem d_R_sink_1 : decode c_R_sink 1 = .ok (.istore 5, 2) := by decide +kernel
theorem d_R_sink_3 : decode c_R_sink 3 = .ok (.iconst 2, 1) := by decide +kernel
theorem d_R_sink_4 : decode c_R_sink 4 = .ok (.iload 5, 2) := by decide +kernel
theorem d_R_sink_6 : decode c_R_sink 6 = .ok (.imul, 1) := by decide +kernel
theorem d_R_sink_7 : decode c_R_sink 7 = .ok (.iconst 1, 1) := by decide +kernel
theorem d_R_sink_8 : decode c_R_sink 8 = .ok (.iadd, 1) := by decide +kernel
theorem d_R_sink_9 : decode c_R_sink 9 = .ok (.iload 4, 2) := by decide +kernel
theorem d_R_sink_11 : decode c_R_sink 11 = .ok (.if_icmp .ge 79, 3) := by decide +kernel
theorem d_R_sink_14 : decode c_R_sink 14 = .ok (.iconst 2, 1) := by decide +kernel
theorem d_R_sink_15 : decode c_R_sink 15 = .ok (.iload 5, 2) := by decide +kernel
theorem d_R_sink_17 : decode c_R_sink 17 = .ok (.imul, 1) := by decide +kernel
theorem d_R_sink_18 : decode c_R_sink 18 = .ok (.iconst 1, 1) := by decide +kernel
theorem d_R_sink_19 : decode c_R_sink 19 = .ok (.iadd, 1) := by decide +kernel
theorem d_R_sink_20 : decode c_R_sink 20 = .ok (.istore 6, 2) := by decide +kernel
theorem d_R_sink_22 : decode c_R_sink 22 = .ok (.iload 6, 2) := by decide +kernel
theorem d_R_sink_24 : decode c_R_sink 24 = .ok (.iconst 1, 1) := by decide +kernel
theorem d_R_sink_25 : decode c_R_sink 25 = .ok (.iadd, 1) := by decide +kernel
theorem d_R_sink_26 : decode c_R_sink 26 = .ok (.iload 4, 2) := by decide +kernel
theorem d_R_sink_28 : decode c_R_sink 28 = .ok (.if_icmp .ge 26, 3) := by decide +kernel
theorem d_R_sink_31 : decode c_R_sink 31 = .ok (.aload_n 0, 1) := by decide +kernel
theorem d_R_sink_32 : decode c_R_sink 32 = .ok (.getfield 15, 3) := by decide +kernel
theorem d_R_sink_35 : decode c_R_sink 35 = .ok (.iload 6, 2) := by decide +kernel
theorem d_R_sink_37 : decode c_R_sink 37 = .ok (.iconst 1, 1) := by decide +kernel
theorem d_R_sink_38 : decode c_R_sink 38 = .ok (.iadd, 1) := by decide +kernel
theorem d_R_sink_39 : decode c_R_sink 39 = .ok (.laload, 1) := by decide +kernel
theorem d_R_sink_40 : decode c_R_sink 40 = .ok (.aload_n 0, 1) := by decide +kernel
theorem d_R_sink_41 : decode c_R_sink 41 = .ok (.getfield 15, 3) := by decide +kernel
theorem d_R_sink_44 : decode c_R_sink 44 = .ok (.iload 6, 2) := by decide +kernel
theorem d_R_sink_46 : decode c_R_sink 46 = .ok (.laload, 1) := by decide +kernel
theorem d_R_sink_47 : decode c_R_sink 47 = .ok (.lcmp, 1) := by decide +kernel
theorem d_R_sink_48 : decode c_R_sink 48 = .ok (.ifCond .le 6, 3) := by decide +kernel
theorem d_R_sink_51 : decode c_R_sink 51 = .ok (.iinc 6 1, 3) := by decide +kernel
theorem d_R_sink_54 : decode c_R_sink 54 = .ok (.aload_n 0, 1) := by decide +kernel
theorem d_R_sink_55 : decode c_R_sink 55 = .ok (.getfield 15, 3) := by decide +kernel
theorem d_R_sink_58 : decode c_R_sink 58 = .ok (.iload 6, 2) := by decide +kernel
theorem d_R_sink_60 : decode c_R_sink 60 = .ok (.laload, 1) := by decide +kernel
theorem d_R_sink_61 : decode c_R_sink 61 = .ok (.lload_n 1, 1) := by decide +kernel
theorem d_R_sink_62 : decode c_R_sink 62 = .ok (.lcmp, 1) := by decide +kernel
theorem d_R_sink_63 : decode c_R_sink 63 = .ok (.ifCond .gt 6, 3) := by decide +kernel
theorem d_R_sink_66 : decode c_R_sink 66 = .ok (.goto 24, 3) := by decide +kernel
theorem d_R_sink_69 : decode c_R_sink 69 = .ok (.aload_n 0, 1) := by decide +kernel
theorem d_R_sink_70 : decode c_R_sink 70 = .ok (.getfield 15, 3) := by decide +kernel
theorem d_R_sink_73 : decode c_R_sink 73 = .ok (.iload 5, 2) := by decide +kernel
theorem d_R_sink_75 : decode c_R_sink 75 = .ok (.aload_n 0, 1) := by decide +kernel
theorem d_R_sink_76 : decode c_R_sink 76 = .ok (.getfield 15, 3) := by decide +kernel
theorem d_R_sink_79 : decode c_R_sink 79 = .ok (.iload 6, 2) := by decide +kernel
theorem d_R_sink_81 : decode c_R_sink 81 = .ok (.laload, 1) := by decide +kernel
theorem d_R_sink_82 : decode c_R_sink 82 = .ok (.lastore, 1) := by decide +kernel
theorem d_R_sink_83 : decode c_R_sink 83 = .ok (.iload 6, 2) := by decide +kernel
theorem d_R_sink_85 : decode c_R_sink 85 = .ok (.istore 5, 2) := by decide +kernel
theorem d_R_sink_87 : decode c_R_sink 87 = .ok (.goto (-84), 3) := by decide +kernel
theorem d_R_sink_90 : decode c_R_sink 90 = .ok (.aload_n 0, 1) := by decide +kernel
theorem d_R_sink_91 : decode c_R_sink 91 = .ok (.getfield 15, 3) := by decide +kernel
theorem d_R_sink_94 : decode c_R_sink 94 = .ok (.iload 5, 2) := by decide +kernel
theorem d_R_sink_96 : decode c_R_sink 96 = .ok (.lload_n 1, 1) := by decide +kernel
theorem d_R_sink_97 : decode c_R_sink 97 = .ok (.lastore, 1) := by decide +kernel
theorem d_R_sink_98 : decode c_R_sink 98 = .ok (.return_, 1) := by decide +kernel
theorem d_R_turnRound_0 : decode c_R_turnRound 0 = .ok (.iload_n 1, 1) := by decide +kernel
theorem d_R_turnRound_1 : decode c_R_turnRound 1 = .ok (.istore_n 3, 1) := by decide +kernel
theorem d_R_turnRound_2 : decode c_R_turnRound 2 = .ok (.iload_n 2, 1) := by decide +kernel
theorem d_R_turnRound_3 : decode c_R_turnRound 3 = .ok (.iconst 1, 1) := by decide +kernel
theorem d_R_turnRound_4 : decode c_R_turnRound 4 = .ok (.isub, 1) := by decide +kernel
theorem d_R_turnRound_5 : decode c_R_turnRound 5 = .ok (.istore 4, 2) := by decide +kernel
theorem d_R_turnRound_7 : decode c_R_turnRound 7 = .ok (.iload_n 3, 1) := by decide +kernel
theorem d_R_turnRound_8 : decode c_R_turnRound 8 = .ok (.iload 4, 2) := by decide +kernel
theorem d_R_turnRound_10 : decode c_R_turnRound 10 = .ok (.if_icmp .ge 59, 3) := by decide +kernel
theorem d_R_turnRound_13 : decode c_R_turnRound 13 = .ok (.aload_n 0, 1) := by decide +kernel
theorem d_R_turnRound_14 : decode c_R_turnRound 14 = .ok (.iload_n 3, 1) := by decide +kernel
theorem d_R_turnRound_15 : decode c_R_turnRound 15 = .ok (.invokevirtual 22, 3) := by decide +kernel
theorem d_R_turnRound_18 : decode c_R_turnRound 18 = .ok (.ifCond .eq 51, 3) := by decide +kernel
theorem d_R_turnRound_21 : decode c_R_turnRound 21 = .ok (.aload_n 0, 1) := by decide +kernel
theorem d_R_turnRound_22 : decode c_R_turnRound 22 = .ok (.iload 4, 2) := by decide +kernel
theorem d_R_turnRound_24 : decode c_R_turnRound 24 = .ok (.invokevirtual 22, 3) := by decide +kernel
theorem d_R_turnRound_27 : decode c_R_turnRound 27 = .ok (.ifCond .eq 42, 3) := by decide +kernel
theorem d_R_turnRound_30 : decode c_R_turnRound 30 = .ok (.aload_n 0, 1) := by decide +kernel
theorem d_R_turnRound_31 : decode c_R_turnRound 31 = .ok (.getfield 15, 3) := by decide +kernel
theorem d_R_turnRound_34 : decode c_R_turnRound 34 = .ok (.iload_n 3, 1) := by decide +kernel
theorem d_R_turnRound_35 : decode c_R_turnRound 35 = .ok (.laload, 1) := by decide +kernel
theorem d_R_turnRound_36 : decode c_R_turnRound 36 = .ok (.lstore 5, 2) := by decide +kernel
theorem d_R_turnRound_38 : decode c_R_turnRound 38 = .ok (.aload_n 0, 1) := by decide +kernel
theorem d_R_turnRound_39 : decode c_R_turnRound 39 = .ok (.getfield 15, 3) := by decide +kernel
theorem d_R_turnRound_42 : decode c_R_turnRound 42 = .ok (.iload_n 3, 1) := by decide +kernel
theorem d_R_turnRound_43 : decode c_R_turnRound 43 = .ok (.aload_n 0, 1) := by decide +kernel
theorem d_R_turnRound_44 : decode c_R_turnRound 44 = .ok (.getfield 15, 3) := by decide +kernel
theorem d_R_turnRound_47 : decode c_R_turnRound 47 = .ok (.iload 4, 2) := by decide +kernel
theorem d_R_turnRound_49 : decode c_R_turnRound 49 = .ok (.laload, 1) := by decide +kernel
theorem d_R_turnRound_50 : decode c_R_turnRound 50 = .ok (.lastore, 1) := by decide +kernel
theorem d_R_turnRound_51 : decode c_R_turnRound 51 = .ok (.aload_n 0, 1) := by decide +kernel
theorem d_R_turnRound_52 : decode c_R_turnRound 52 = .ok (.getfield 15, 3) := by decide +kernel
theorem d_R_turnRound_55 : decode c_R_turnRound 55 = .ok (.iload 4, 2) := by decide +kernel
theorem d_R_turnRound_57 : decode c_R_turnRound 57 = .ok (.lload 5, 2) := by decide +kernel
theorem d_R_turnRound_59 : decode c_R_turnRound 59 = .ok (.lastore, 1) := by decide +kernel
theorem d_R_turnRound_60 : decode c_R_turnRound 60 = .ok (.iinc 3 1, 3) := by decide +kernel
theorem d_R_turnRound_63 : decode c_R_turnRound 63 = .ok (.iinc 4 (-1), 3) := by decide +kernel
theorem d_R_turnRound_66 : decode c_R_turnRound 66 = .ok (.goto (-59), 3) := by decide +kernel
theorem d_R_turnRound_69 : decode c_R_turnRound 69 = .ok (.return_, 1) := by decide +kernel
theorem rw_has_in {i z : Nat} (h : i < z) (hz : z < 2 ^ 31) : rw_has (nI z) (nI i) = 1 := by
  unfold rw_has
  rw [if_neg (nI_pos (by omega)), if_neg (by rw [nI_leI (by omega) (by omega)]; omega)]
theorem iinc_p (a : Nat) : nI a + Int32.ofInt 1 = nI (a + 1) := nI_1 a
theorem iinc_m (a : Nat) : nI (a + 1) + Int32.ofInt (-1) = nI a := pk_m1 a
theorem nI_toI {y : Int32} {k : Nat} (h : y.toInt = (k : Int)) : y = nI k := by
  have hk := y.toInt_lt
  apply Int32.toInt.inj
  rw [h, nI_toInt (by omega)]
theorem dec_toI {k : Nat} (h : k < 2 ^ 31) : (nI k - 1).toInt = (k : Int) - 1 := by
  cases k with
  | zero => decide
  | succ k => rw [nI_pred, nI_toInt (by omega)]; omega
theorem iinc_toI {k : Nat} (h : k < 2 ^ 31) : (nI k + Int32.ofInt (-1)).toInt = (k : Int) - 1 := by
  cases k with
  | zero => decide
  | succ k => rw [iinc_m, nI_toInt (by omega)]; omega
theorem i2h (h : Nat) : (2 : Int32) * nI h + 1 = nI (2 * h + 1) := by
  rw [show (2 : Int32) = nI 2 from rfl, pk_mul, nI_1]
theorem nI_d1 {k : Nat} (h : 0 < k) : nI k - 1 = nI (k - 1) := by
  cases k with
  | zero => omega
  | succ k => exact nI_pred k
set_option maxHeartbeats 4000000 in
set_option maxRecDepth 100000 in
theorem k_R_turnRound (l : Launch) (D : va_G) (E : ClassId × ClassId × ClassId × ClassId) (h0 a sz : Nat) (most : Int32) (z n b e0 : Nat) (f : Nat → Int64) (hz : z ≤ n) (hn : n < 2 ^ 29) (he : e0 ≤ z) (hbe : b ≤ e0) : Met l y_R_turnRound (.code y_R_turnRound c_R_turnRound 7 none :: gw) ({ frames := 1, cells := 0, slots := 0, locals := 21 } : Room) (wP D E [(h0, .inr (0, [.int most, .ref a, .int (nI z)])), (a, .inl (E.1, n, .inr (.inl f)))] sz [.ref h0, .int (nI b), .int (nI e0)]) (va_Qv (fun (u : Unit) => True) (wB D (fun _ => [(h0, .inr (0, [.int most, .ref a, .int (nI z)])), (a, .inl (E.1, n, .inr (.inl (ps_turn f b e0))))]) (va_A [(h0, .inr (0, [.int most, .ref a, .int (nI z)])), (a, .inl (E.1, n, .inr (.inl f)))] sz)) (va_A [(h0, .inr (0, [.int most, .ref a, .int (nI z)])), (a, .inl (E.1, n, .inr (.inl f)))] sz)) 0 0 (va_A [(h0, .inr (0, [.int most, .ref a, .int (nI z)])), (a, .inl (E.1, n, .inr (.inl f)))] sz) := by
  refine wr_ofW (Qc := fun A => (va_Qv (fun (u : Unit) => True) (wB D (fun _ => [(h0, .inr (0, [.int most, .ref a, .int (nI z)])), (a, .inl (E.1, n, .inr (.inl (ps_turn f b e0))))]) A) A)) (by decide) (Nat.le_of_ble_eq_true rfl) ?_
  intro p e s m below meth c B hP hK A hA hD hS ls hl
  obtain ⟨hx, hb, hrt, hml, hown, hts, hG, hlocks, hin⟩ := B
  have hl : lv_has ls 7 [(0, .ref h0), (1, .int (nI b)), (2, .int (nI e0))] := hl
  refine lv_iload_n hx hb d_R_turnRound_0 rfl (lv_at hl 1 rfl) ?_
  refine lv_istore_n (lv' := [(3, .int (nI b)), (0, .ref h0), (1, .int (nI b)), (2, .int (nI e0))]) hx hb d_R_turnRound_1 rfl hl (by decide) rfl (fun ls hl => ?_)
  refine lv_iload_n hx hb d_R_turnRound_2 rfl (lv_at hl 3 rfl) ?_
  refine lv_iconst (v := 1) hx hb d_R_turnRound_3 (by decide) ?_
  refine lv_isub hx hb d_R_turnRound_4 ?_
  refine lv_istore (lv' := [(4, .int (nI e0 - 1)), (3, .int (nI b)), (0, .ref h0), (1, .int (nI b)), (2, .int (nI e0))]) hx hb d_R_turnRound_5 hl (by decide) rfl (fun ls hl => ?_)
  have loop : ∀ (fu : Nat) (lo : Nat) (eh : Nat) (y : Int32) (g : Nat → Int64) (H : Heap) (locs : List Loc) (ls : Array Slot), (eh ≤ z) → (y.toInt = (eh : Int) - 1) → (eh < lo + fu) → (ps_turn g lo eh = ps_turn f b e0) → (lo ≤ eh) → va_P D vwC [(h0, .inr (0, [.int most, .ref a, .int (nI z)])), (a, .inl (E.1, n, .inr (.inl g)))] H → va_D A [(h0, .inr (0, [.int most, .ref a, .int (nI z)])), (a, .inl (E.1, n, .inr (.inl g)))] → va_S A s.heap H locs → lv_has ls 7 [(0, .ref h0), (3, .int (nI lo)), (4, .int y)] → W p l e ({ frames := 1, cells := 0, slots := 0, locals := 21 } : Room) s m ([.ref h0, .int (nI b), .int (nI e0)] : List Value).toArray below meth c H locs 0 0 (MQ below (va_Qv (fun (u : Unit) => True) (wB D (fun _ => [(h0, .inr (0, [.int most, .ref a, .int (nI z)])), (a, .inl (E.1, n, .inr (.inl (ps_turn f b e0))))]) A) A) ([.ref h0, .int (nI b), .int (nI e0)] : List Value).toArray s 0 0 A) (F0 m 7 ls []) := by
    intro fu
    induction fu with
    | zero =>
      intro lo eh y g H locs ls h1 h2 h3 h4 h5 hP hD hS hl
      omega
    | succ fu ih =>
      intro lo eh y g H locs ls h1 h2 h3 h4 h5 hP hD hS hl
      refine lv_iload_n hx hb d_R_turnRound_7 rfl (lv_at hl 1 rfl) ?_
      refine lv_iload hx hb d_R_turnRound_8 (lv_at hl 2 rfl) ?_
      refine lv_icmp_ge (tgt := 69) hx hb d_R_turnRound_10 (by decide) (fun c1 => ?_) (fun c1 => ?_)
      · have q : eh ≤ lo + 1 := by rw [Int32.le_iff_toInt_le, h2, nI_toInt (by omega)] at c1; omega
        rw [ps_turn_end q] at h4
        subst h4
        exact W.vret hx hb hrt (fun t ht hW => ⟨⟨(), rfl, trivial, ⟨by rw [ht]; exact hP, hD⟩⟩, hS.F ht⟩) hS.2.2 d_R_turnRound_69 hlocks
      · have q : lo + 1 < eh := by rw [Int32.le_iff_toInt_le, h2, nI_toInt (by omega)] at c1; omega
        obtain ⟨hi, rfl⟩ : ∃ k, eh = k + 1 := ⟨eh - 1, by omega⟩
        obtain rfl : y = nI hi := nI_toI (by omega)
        refine lv_aload_n hx hb d_R_turnRound_13 rfl (lv_at hl 0 rfl) ?_
        refine lv_iload_n hx hb d_R_turnRound_14 rfl (lv_at hl 1 rfl) ?_
        have hPc := hP.sub (ws' := [(h0, .inr (0, [.int most, .ref a, .int (nI z)]))]) [0] rfl
        refine vp_callSi (W.runV (As := [.int (nI lo)]) (rest := []) ⟨hx, hb, hml, hown, hts⟩ (k_R_has l D E h0 a most (nI z) (nI lo)) (cwV 1 hts (gw_gv wd_487 wd_488 wd_489 wd_41 wd_490) rfl rfl rfl (by decide +kernel) ⟨Nat.le_of_ble_eq_true rfl, Nat.le_of_ble_eq_true rfl⟩) (rP_V 0 hPc hK rfl rfl) rfl rfl hl.1 rfl (lv_room (Nat.le_of_ble_eq_true rfl)) d_R_turnRound_15 ⟨Nat.le_of_ble_eq_true rfl, Nat.le_of_ble_eq_true rfl⟩) (fun r1 hr1 => ?_)
        rw [rw_has_in (by omega) (by omega)] at hr1
        subst hr1
        refine lv_if_eq (tgt := 69) hx hb d_R_turnRound_18 (by decide) (fun c2 => ?_) (fun c2 => ?_)
        · exact absurd c2 (by decide)
        · refine lv_aload_n hx hb d_R_turnRound_21 rfl (lv_at hl 0 rfl) ?_
          refine lv_iload hx hb d_R_turnRound_22 (lv_at hl 2 rfl) ?_
          have hPc := hP.sub (ws' := [(h0, .inr (0, [.int most, .ref a, .int (nI z)]))]) [0] rfl
          refine vp_callSi (W.runV (As := [.int (nI hi)]) (rest := []) ⟨hx, hb, hml, hown, hts⟩ (k_R_has l D E h0 a most (nI z) (nI hi)) (cwV 1 hts (gw_gv wd_487 wd_488 wd_489 wd_41 wd_490) rfl rfl rfl (by decide +kernel) ⟨Nat.le_of_ble_eq_true rfl, Nat.le_of_ble_eq_true rfl⟩) (rP_V 0 hPc hK rfl rfl) rfl rfl hl.1 rfl (lv_room (Nat.le_of_ble_eq_true rfl)) d_R_turnRound_24 ⟨Nat.le_of_ble_eq_true rfl, Nat.le_of_ble_eq_true rfl⟩) (fun r2 hr2 => ?_)
          rw [rw_has_in (by omega) (by omega)] at hr2
          subst hr2
          refine lv_if_eq (tgt := 69) hx hb d_R_turnRound_27 (by decide) (fun c3 => ?_) (fun c3 => ?_)
          · exact absurd c3 (by decide)
          · refine lv_aload_n hx hb d_R_turnRound_30 rfl (lv_at hl 0 rfl) ?_
            refine va_get (D := D) (ci := 0) (v := .ref a) (C := K_R) (T := F_R) (N := 3) hx hb hG in_R hown hK.1 hP 0 rfl rfl 1 (by decide) (hG _ wd_98) (fun _ h9 => h9) rfl d_R_turnRound_31 ?_
            refine lv_iload_n hx hb d_R_turnRound_34 rfl (lv_at hl 1 rfl) ?_
            refine va_lald hx hb hK.1 hP 1 0 rfl rfl (vp_in_nI (by omega) (by omega)) d_R_turnRound_35 ?_
            rw [show g (Int32.toNatClampNeg (nI lo)) = g lo from by rw [nI_clamp (by omega)]]
            refine lv_lstore (lv' := [(5, .long (g lo)), (0, .ref h0), (3, .int (nI lo)), (4, .int (nI hi))]) hx hb d_R_turnRound_36 hl (by decide) rfl (fun ls hl => ?_)
            refine lv_aload_n hx hb d_R_turnRound_38 rfl (lv_at hl 1 rfl) ?_
            refine va_get (D := D) (ci := 0) (v := .ref a) (C := K_R) (T := F_R) (N := 3) hx hb hG in_R hown hK.1 hP 0 rfl rfl 1 (by decide) (hG _ wd_98) (fun _ h9 => h9) rfl d_R_turnRound_39 ?_
            refine lv_iload_n hx hb d_R_turnRound_42 rfl (lv_at hl 2 rfl) ?_
            refine lv_aload_n hx hb d_R_turnRound_43 rfl (lv_at hl 1 rfl) ?_
            refine va_get (D := D) (ci := 0) (v := .ref a) (C := K_R) (T := F_R) (N := 3) hx hb hG in_R hown hK.1 hP 0 rfl rfl 1 (by decide) (hG _ wd_98) (fun _ h9 => h9) rfl d_R_turnRound_44 ?_
            refine lv_iload hx hb d_R_turnRound_47 (lv_at hl 3 rfl) ?_
            refine va_lald hx hb hK.1 hP 1 0 rfl rfl (vp_in_nI (by omega) (by omega)) d_R_turnRound_49 ?_
            rw [show g (Int32.toNatClampNeg (nI hi)) = g hi from by rw [nI_clamp (by omega)]]
            refine va_last hx hb hK.1 hP hD hS 1 0 rfl rfl (vp_in_nI (by omega) (by omega)) d_R_turnRound_50 (fun H locs hP hD hS => ?_)
            rw [show vp_updL g (Int32.toNatClampNeg (nI lo)) (g hi) = (vp_updL g lo (g hi)) from by rw [nI_clamp (by omega)]] at hP hD
            have hP : va_P D vwC [(h0, .inr (0, [.int most, .ref a, .int (nI z)])), (a, .inl (E.1, n, .inr (.inl (vp_updL g lo (g hi)))))] H := hP
            have hD : va_D A [(h0, .inr (0, [.int most, .ref a, .int (nI z)])), (a, .inl (E.1, n, .inr (.inl (vp_updL g lo (g hi)))))] := hD
            refine lv_aload_n hx hb d_R_turnRound_51 rfl (lv_at hl 1 rfl) ?_
            refine va_get (D := D) (ci := 0) (v := .ref a) (C := K_R) (T := F_R) (N := 3) hx hb hG in_R hown hK.1 hP 0 rfl rfl 1 (by decide) (hG _ wd_98) (fun _ h9 => h9) rfl d_R_turnRound_52 ?_
            refine lv_iload hx hb d_R_turnRound_55 (lv_at hl 3 rfl) ?_
            refine lv_lload hx hb d_R_turnRound_57 (lv_at hl 0 rfl) ?_
            refine va_last hx hb hK.1 hP hD hS 1 0 rfl rfl (vp_in_nI (by omega) (by omega)) d_R_turnRound_59 (fun H locs hP hD hS => ?_)
            rw [show vp_updL (vp_updL g lo (g hi)) (Int32.toNatClampNeg (nI hi)) (g lo) = (vp_updL (vp_updL g lo (g hi)) hi (g lo)) from by rw [nI_clamp (by omega)]] at hP hD
            have hP : va_P D vwC [(h0, .inr (0, [.int most, .ref a, .int (nI z)])), (a, .inl (E.1, n, .inr (.inl (vp_updL (vp_updL g lo (g hi)) hi (g lo)))))] H := hP
            have hD : va_D A [(h0, .inr (0, [.int most, .ref a, .int (nI z)])), (a, .inl (E.1, n, .inr (.inl (vp_updL (vp_updL g lo (g hi)) hi (g lo)))))] := hD
            refine lv_iinc (v := nI (lo + 1)) (lv' := [(3, .int (nI (lo + 1))), (5, .long (g lo)), (0, .ref h0), (4, .int (nI hi))]) hx hb d_R_turnRound_60 hl (k := 2) rfl (iinc_p lo) (by decide) rfl (fun ls hl => ?_)
            obtain ⟨y2, hy2⟩ : ∃ y2, y2 = nI hi + Int32.ofInt (-1) := ⟨_, rfl⟩
            refine lv_iinc (v := y2) (lv' := [(4, .int y2), (3, .int (nI (lo + 1))), (5, .long (g lo)), (0, .ref h0)]) hx hb d_R_turnRound_63 hl (k := 3) rfl hy2.symm (by decide) rfl (fun ls hl => ?_)
            refine lv_goto (tgt := 7) hx hb d_R_turnRound_66 (by decide) ?_
            exact ih (lo + 1) hi y2 _ H locs ls (by omega) (by rw [hy2, iinc_toI (by omega)]) (by omega) (by rw [← h4]; exact ps_turn_step (e := hi + 1) q) (by omega) hP hD hS (lv_sub hl [3, 1, 0] rfl)
  exact loop (z + 2) b e0 _ f _ _ ls he (dec_toI (by omega)) (by omega) rfl hbe hP hD hS (lv_sub hl [2, 1, 0] rfl)
set_option maxHeartbeats 4000000 in
set_option maxRecDepth 100000 in
theorem k_R_sink (l : Launch) (D : va_G) (E : ClassId × ClassId × ClassId × ClassId) (h0 a sz : Nat) (most z : Int32) (x : Int64) (n h e0 : Nat) (f : Nat → Int64) (hn : n < 2 ^ 29) (he : e0 ≤ n) (hh : h < e0) : Met l y_R_sink (.code y_R_sink c_R_sink 7 none :: gw) ({ frames := 0, cells := 0, slots := 0, locals := 0 } : Room) (wP D E [(h0, .inr (0, [.int most, .ref a, .int z])), (a, .inl (E.1, n, .inr (.inl f)))] sz [.ref h0, .long x, .int (nI h), .int (nI e0)]) (va_Qv (fun (u : Unit) => True) (wB D (fun _ => [(h0, .inr (0, [.int most, .ref a, .int z])), (a, .inl (E.1, n, .inr (.inl (ps_sink x e0 e0 f h))))]) (va_A [(h0, .inr (0, [.int most, .ref a, .int z])), (a, .inl (E.1, n, .inr (.inl f)))] sz)) (va_A [(h0, .inr (0, [.int most, .ref a, .int z])), (a, .inl (E.1, n, .inr (.inl f)))] sz)) 0 0 (va_A [(h0, .inr (0, [.int most, .ref a, .int z])), (a, .inl (E.1, n, .inr (.inl f)))] sz) := by
  refine wr_ofW (Qc := fun A => (va_Qv (fun (u : Unit) => True) (wB D (fun _ => [(h0, .inr (0, [.int most, .ref a, .int z])), (a, .inl (E.1, n, .inr (.inl (ps_sink x e0 e0 f h))))]) A) A)) (by decide) (Nat.le_of_ble_eq_true rfl) ?_
  intro p e s m below meth c B hP hK A hA hD hS ls hl
  obtain ⟨hx, hb, hrt, hml, hown, hts, hG, hlocks, hin⟩ := B
  have hl : lv_has ls 7 [(0, .ref h0), (1, .long x), (3, .int (nI h)), (4, .int (nI e0))] := hl
  refine lv_iload_n hx hb d_R_sink_0 rfl (lv_at hl 2 rfl) ?_
  refine lv_istore (lv' := [(5, .int (nI h)), (0, .ref h0), (1, .long x), (3, .int (nI h)), (4, .int (nI e0))]) hx hb d_R_sink_1 hl (by decide) rfl (fun ls hl => ?_)
  have loop : ∀ (fu : Nat) (k : Nat) (g : Nat → Int64) (H : Heap) (locs : List Loc) (ls : Array Slot), (k < e0) → (e0 ≤ k + fu) → (ps_sink x e0 fu g k = ps_sink x e0 e0 f h) → va_P D vwC [(h0, .inr (0, [.int most, .ref a, .int z])), (a, .inl (E.1, n, .inr (.inl g)))] H → va_D A [(h0, .inr (0, [.int most, .ref a, .int z])), (a, .inl (E.1, n, .inr (.inl g)))] → va_S A s.heap H locs → lv_has ls 7 [(0, .ref h0), (1, .long x), (4, .int (nI e0)), (5, .int (nI k))] → W p l e ({ frames := 0, cells := 0, slots := 0, locals := 0 } : Room) s m ([.ref h0, .long x, .int (nI h), .int (nI e0)] : List Value).toArray below meth c H locs 0 0 (MQ below (va_Qv (fun (u : Unit) => True) (wB D (fun _ => [(h0, .inr (0, [.int most, .ref a, .int z])), (a, .inl (E.1, n, .inr (.inl (ps_sink x e0 e0 f h))))]) A) A) ([.ref h0, .long x, .int (nI h), .int (nI e0)] : List Value).toArray s 0 0 A) (F0 m 3 ls []) := by
    intro fu
    induction fu with
    | zero =>
      intro k g H locs ls h1 h2 h4 hP hD hS hl
      omega
    | succ fu ih =>
      intro k g H locs ls h1 h2 h4 hP hD hS hl
      rw [ps_sink] at h4
      refine lv_iconst (v := 2) hx hb d_R_sink_3 (by decide) ?_
      refine lv_iload hx hb d_R_sink_4 (lv_at hl 3 rfl) ?_
      refine lv_imul hx hb d_R_sink_6 ?_
      refine lv_iconst (v := 1) hx hb d_R_sink_7 (by decide) ?_
      refine lv_iadd hx hb d_R_sink_8 ?_
      rw [i2h]
      refine lv_iload hx hb d_R_sink_9 (lv_at hl 2 rfl) ?_
      refine lv_icmp_ge (tgt := 90) hx hb d_R_sink_11 (by decide) (fun c1 => ?_) (fun c1 => ?_)
      · have q : ¬ 2 * k + 1 < e0 := by have := (nI_leI (by omega) (by omega)).mp c1; omega
        rw [if_neg q] at h4
        refine lv_aload_n hx hb d_R_sink_90 rfl (lv_at hl 0 rfl) ?_
        refine va_get (D := D) (ci := 0) (v := .ref a) (C := K_R) (T := F_R) (N := 3) hx hb hG in_R hown hK.1 hP 0 rfl rfl 1 (by decide) (hG _ wd_98) (fun _ h9 => h9) rfl d_R_sink_91 ?_
        refine lv_iload hx hb d_R_sink_94 (lv_at hl 3 rfl) ?_
        refine lv_lload_n hx hb d_R_sink_96 rfl (lv_at hl 1 rfl) ?_
        refine va_last hx hb hK.1 hP hD hS 1 0 rfl rfl (vp_in_nI (by omega) (by omega)) d_R_sink_97 (fun H locs hP hD hS => ?_)
        rw [show vp_updL g (Int32.toNatClampNeg (nI k)) x = (vp_updL g k x) from by rw [nI_clamp (by omega)]] at hP hD
        have hP : va_P D vwC [(h0, .inr (0, [.int most, .ref a, .int z])), (a, .inl (E.1, n, .inr (.inl (vp_updL g k x))))] H := hP
        have hD : va_D A [(h0, .inr (0, [.int most, .ref a, .int z])), (a, .inl (E.1, n, .inr (.inl (vp_updL g k x))))] := hD
        rw [h4] at hP hD
        exact W.vret hx hb hrt (fun t ht hW => ⟨⟨(), rfl, trivial, ⟨by rw [ht]; exact hP, hD⟩⟩, hS.F ht⟩) hS.2.2 d_R_sink_98 hlocks
      · have q : 2 * k + 1 < e0 := by rw [nI_leI (by omega) (by omega)] at c1; omega
        rw [if_pos q] at h4
        refine lv_iconst (v := 2) hx hb d_R_sink_14 (by decide) ?_
        refine lv_iload hx hb d_R_sink_15 (lv_at hl 3 rfl) ?_
        refine lv_imul hx hb d_R_sink_17 ?_
        refine lv_iconst (v := 1) hx hb d_R_sink_18 (by decide) ?_
        refine lv_iadd hx hb d_R_sink_19 ?_
        rw [i2h]
        refine lv_istore (lv' := [(6, .int (nI (2 * k + 1))), (0, .ref h0), (1, .long x), (4, .int (nI e0)), (5, .int (nI k))]) hx hb d_R_sink_20 hl (by decide) rfl (fun ls hl => ?_)
        have J : ∀ (ch : Nat) (ls : Array Slot), (ch = if 2 * k + 2 < e0 ∧ g (2 * k + 1) < g (2 * k + 2) then 2 * k + 2 else 2 * k + 1) → (ch < e0) → lv_has ls 7 [(0, .ref h0), (1, .long x), (4, .int (nI e0)), (5, .int (nI k)), (6, .int (nI ch))] → W p l e ({ frames := 0, cells := 0, slots := 0, locals := 0 } : Room) s m ([.ref h0, .long x, .int (nI h), .int (nI e0)] : List Value).toArray below meth c H locs 0 0 (MQ below (va_Qv (fun (u : Unit) => True) (wB D (fun _ => [(h0, .inr (0, [.int most, .ref a, .int z])), (a, .inl (E.1, n, .inr (.inl (ps_sink x e0 e0 f h))))]) A) A) ([.ref h0, .long x, .int (nI h), .int (nI e0)] : List Value).toArray s 0 0 A) (F0 m 54 ls []) := by
          intro ch ls hc hc1 hl
          rw [← hc] at h4
          refine lv_aload_n hx hb d_R_sink_54 rfl (lv_at hl 0 rfl) ?_
          refine va_get (D := D) (ci := 0) (v := .ref a) (C := K_R) (T := F_R) (N := 3) hx hb hG in_R hown hK.1 hP 0 rfl rfl 1 (by decide) (hG _ wd_98) (fun _ h9 => h9) rfl d_R_sink_55 ?_
          refine lv_iload hx hb d_R_sink_58 (lv_at hl 4 rfl) ?_
          refine va_lald hx hb hK.1 hP 1 0 rfl rfl (vp_in_nI (by omega) (by omega)) d_R_sink_60 ?_
          rw [show g (Int32.toNatClampNeg (nI ch)) = g ch from by rw [nI_clamp (by omega)]]
          refine lv_lload_n hx hb d_R_sink_61 rfl (lv_at hl 1 rfl) ?_
          refine W.lcmp hx hb d_R_sink_62 ?_
          refine lv_if_gt (tgt := 69) hx hb d_R_sink_63 (by decide) (fun c2 => ?_) (fun c2 => ?_)
          · have c2 : ¬ g ch ≤ x := by rw [lg_gt, Int64.lt_iff_toInt_lt] at c2; rw [Int64.le_iff_toInt_le]; omega
            rw [if_neg c2] at h4
            refine lv_aload_n hx hb d_R_sink_69 rfl (lv_at hl 0 rfl) ?_
            refine va_get (D := D) (ci := 0) (v := .ref a) (C := K_R) (T := F_R) (N := 3) hx hb hG in_R hown hK.1 hP 0 rfl rfl 1 (by decide) (hG _ wd_98) (fun _ h9 => h9) rfl d_R_sink_70 ?_
            refine lv_iload hx hb d_R_sink_73 (lv_at hl 3 rfl) ?_
            refine lv_aload_n hx hb d_R_sink_75 rfl (lv_at hl 0 rfl) ?_
            refine va_get (D := D) (ci := 0) (v := .ref a) (C := K_R) (T := F_R) (N := 3) hx hb hG in_R hown hK.1 hP 0 rfl rfl 1 (by decide) (hG _ wd_98) (fun _ h9 => h9) rfl d_R_sink_76 ?_
            refine lv_iload hx hb d_R_sink_79 (lv_at hl 4 rfl) ?_
            refine va_lald hx hb hK.1 hP 1 0 rfl rfl (vp_in_nI (by omega) (by omega)) d_R_sink_81 ?_
            rw [show g (Int32.toNatClampNeg (nI ch)) = g ch from by rw [nI_clamp (by omega)]]
            refine va_last hx hb hK.1 hP hD hS 1 0 rfl rfl (vp_in_nI (by omega) (by omega)) d_R_sink_82 (fun H locs hP hD hS => ?_)
            rw [show vp_updL g (Int32.toNatClampNeg (nI k)) (g ch) = (vp_updL g k (g ch)) from by rw [nI_clamp (by omega)]] at hP hD
            have hP : va_P D vwC [(h0, .inr (0, [.int most, .ref a, .int z])), (a, .inl (E.1, n, .inr (.inl (vp_updL g k (g ch)))))] H := hP
            have hD : va_D A [(h0, .inr (0, [.int most, .ref a, .int z])), (a, .inl (E.1, n, .inr (.inl (vp_updL g k (g ch)))))] := hD
            refine lv_iload hx hb d_R_sink_83 (lv_at hl 4 rfl) ?_
            refine lv_istore (lv' := [(5, .int (nI ch)), (0, .ref h0), (1, .long x), (4, .int (nI e0)), (6, .int (nI ch))]) hx hb d_R_sink_85 hl (by decide) rfl (fun ls hl => ?_)
            refine lv_goto (tgt := 3) hx hb d_R_sink_87 (by decide) ?_
            exact ih ch _ H locs ls hc1 (by split at hc <;> omega) h4 hP hD hS (lv_sub hl [1, 2, 3, 0] rfl)
          · have c2 : g ch ≤ x := by rw [lg_gt, Int64.lt_iff_toInt_lt] at c2; rw [Int64.le_iff_toInt_le]; omega
            rw [if_pos c2] at h4
            refine lv_goto (tgt := 90) hx hb d_R_sink_66 (by decide) ?_
            refine lv_aload_n hx hb d_R_sink_90 rfl (lv_at hl 0 rfl) ?_
            refine va_get (D := D) (ci := 0) (v := .ref a) (C := K_R) (T := F_R) (N := 3) hx hb hG in_R hown hK.1 hP 0 rfl rfl 1 (by decide) (hG _ wd_98) (fun _ h9 => h9) rfl d_R_sink_91 ?_
            refine lv_iload hx hb d_R_sink_94 (lv_at hl 3 rfl) ?_
            refine lv_lload_n hx hb d_R_sink_96 rfl (lv_at hl 1 rfl) ?_
            refine va_last hx hb hK.1 hP hD hS 1 0 rfl rfl (vp_in_nI (by omega) (by omega)) d_R_sink_97 (fun H locs hP hD hS => ?_)
            rw [show vp_updL g (Int32.toNatClampNeg (nI k)) x = (vp_updL g k x) from by rw [nI_clamp (by omega)]] at hP hD
            have hP : va_P D vwC [(h0, .inr (0, [.int most, .ref a, .int z])), (a, .inl (E.1, n, .inr (.inl (vp_updL g k x))))] H := hP
            have hD : va_D A [(h0, .inr (0, [.int most, .ref a, .int z])), (a, .inl (E.1, n, .inr (.inl (vp_updL g k x))))] := hD
            rw [h4] at hP hD
            exact W.vret hx hb hrt (fun t ht hW => ⟨⟨(), rfl, trivial, ⟨by rw [ht]; exact hP, hD⟩⟩, hS.F ht⟩) hS.2.2 d_R_sink_98 hlocks
        refine lv_iload hx hb d_R_sink_22 (lv_at hl 0 rfl) ?_
        refine lv_iconst (v := 1) hx hb d_R_sink_24 (by decide) ?_
        refine lv_iadd hx hb d_R_sink_25 ?_
        rw [show ((nI (2 * k + 1)) + 1) = nI (2 * k + 2) from nI_1 _]
        refine lv_iload hx hb d_R_sink_26 (lv_at hl 3 rfl) ?_
        refine lv_icmp_ge (tgt := 54) hx hb d_R_sink_28 (by decide) (fun c2 => ?_) (fun c2 => ?_)
        · exact J (2 * k + 1) ls (by rw [if_neg]; intro z; have := (nI_leI (by omega) (by omega)).mp c2; omega) q (lv_sub hl [1, 2, 3, 4, 0] rfl)
        · have q2 : 2 * k + 2 < e0 := by rw [nI_leI (by omega) (by omega)] at c2; omega
          refine lv_aload_n hx hb d_R_sink_31 rfl (lv_at hl 1 rfl) ?_
          refine va_get (D := D) (ci := 0) (v := .ref a) (C := K_R) (T := F_R) (N := 3) hx hb hG in_R hown hK.1 hP 0 rfl rfl 1 (by decide) (hG _ wd_98) (fun _ h9 => h9) rfl d_R_sink_32 ?_
          refine lv_iload hx hb d_R_sink_35 (lv_at hl 0 rfl) ?_
          refine lv_iconst (v := 1) hx hb d_R_sink_37 (by decide) ?_
          refine lv_iadd hx hb d_R_sink_38 ?_
          rw [show ((nI (2 * k + 1)) + 1) = nI (2 * k + 2) from nI_1 _]
          refine va_lald hx hb hK.1 hP 1 0 rfl rfl (vp_in_nI (by omega) (by omega)) d_R_sink_39 ?_
          rw [show g (Int32.toNatClampNeg (nI (2 * k + 2))) = g (2 * k + 2) from by rw [nI_clamp (by omega)]]
          refine lv_aload_n hx hb d_R_sink_40 rfl (lv_at hl 1 rfl) ?_
          refine va_get (D := D) (ci := 0) (v := .ref a) (C := K_R) (T := F_R) (N := 3) hx hb hG in_R hown hK.1 hP 0 rfl rfl 1 (by decide) (hG _ wd_98) (fun _ h9 => h9) rfl d_R_sink_41 ?_
          refine lv_iload hx hb d_R_sink_44 (lv_at hl 0 rfl) ?_
          refine va_lald hx hb hK.1 hP 1 0 rfl rfl (vp_in_nI (by omega) (by omega)) d_R_sink_46 ?_
          rw [show g (Int32.toNatClampNeg (nI (2 * k + 1))) = g (2 * k + 1) from by rw [nI_clamp (by omega)]]
          refine W.lcmp hx hb d_R_sink_47 ?_
          refine lv_if_le (tgt := 54) hx hb d_R_sink_48 (by decide) (fun c3 => ?_) (fun c3 => ?_)
          · exact J (2 * k + 1) ls (by rw [if_neg]; intro z; exact lg_le.mp c3 z.2) q (lv_sub hl [1, 2, 3, 4, 0] rfl)
          · refine lv_iinc (v := nI (2 * k + 2)) (lv' := [(6, .int (nI (2 * k + 2))), (0, .ref h0), (1, .long x), (4, .int (nI e0)), (5, .int (nI k))]) hx hb d_R_sink_51 hl (k := 0) rfl (iinc_p _) (by decide) rfl (fun ls hl => ?_)
            exact J (2 * k + 2) ls (by rw [if_pos]; exact ⟨q2, Classical.not_not.mp (fun z => c3 (lg_le.mpr z))⟩) q2 (lv_sub hl [1, 2, 3, 4, 0] rfl)
  exact loop e0 h f _ _ ls hh (by omega) rfl hP hD hS (lv_sub hl [1, 2, 4, 0] rfl)
end
section
theorem d_R_keepDistinct_0 : decode c_R_keepDistinct 0 = .ok (.iconst 0, 1) := by decide +kernel
theorem d_R_keepDistinct_1 : decode c_R_keepDistinct 1 = .ok (.istore_n 1, 1) := by decide +kernel
theorem d_R_keepDistinct_2 : decode c_R_keepDistinct 2 = .ok (.iconst 0, 1) := by decide +kernel
theorem d_R_keepDistinct_3 : decode c_R_keepDistinct 3 = .ok (.istore_n 2, 1) := by decide +kernel
theorem d_R_keepDistinct_4 : decode c_R_keepDistinct 4 = .ok (.iload_n 2, 1) := by decide +kernel
theorem d_R_keepDistinct_5 : decode c_R_keepDistinct 5 = .ok (.aload_n 0, 1) := by decide +kernel
theorem d_R_keepDistinct_6 : decode c_R_keepDistinct 6 = .ok (.getfield 19, 3) := by decide +kernel
theorem d_R_keepDistinct_9 : decode c_R_keepDistinct 9 = .ok (.if_icmp .ge 46, 3) := by decide +kernel
theorem d_R_keepDistinct_12 : decode c_R_keepDistinct 12 = .ok (.iload_n 1, 1) := by decide +kernel
theorem d_R_keepDistinct_13 : decode c_R_keepDistinct 13 = .ok (.ifCond .eq 21, 3) := by decide +kernel
theorem d_R_keepDistinct_16 : decode c_R_keepDistinct 16 = .ok (.aload_n 0, 1) := by decide +kernel
theorem d_R_keepDistinct_17 : decode c_R_keepDistinct 17 = .ok (.getfield 15, 3) := by decide +kernel
theorem d_R_keepDistinct_20 : decode c_R_keepDistinct 20 = .ok (.iload_n 2, 1) := by decide +kernel
theorem d_R_keepDistinct_21 : decode c_R_keepDistinct 21 = .ok (.laload, 1) := by decide +kernel
theorem d_R_keepDistinct_22 : decode c_R_keepDistinct 22 = .ok (.aload_n 0, 1) := by decide +kernel
theorem d_R_keepDistinct_23 : decode c_R_keepDistinct 23 = .ok (.getfield 15, 3) := by decide +kernel
theorem d_R_keepDistinct_26 : decode c_R_keepDistinct 26 = .ok (.iload_n 1, 1) := by decide +kernel
theorem d_R_keepDistinct_27 : decode c_R_keepDistinct 27 = .ok (.iconst 1, 1) := by decide +kernel
theorem d_R_keepDistinct_28 : decode c_R_keepDistinct 28 = .ok (.isub, 1) := by decide +kernel
theorem d_R_keepDistinct_29 : decode c_R_keepDistinct 29 = .ok (.laload, 1) := by decide +kernel
theorem d_R_keepDistinct_30 : decode c_R_keepDistinct 30 = .ok (.lcmp, 1) := by decide +kernel
theorem d_R_keepDistinct_31 : decode c_R_keepDistinct 31 = .ok (.ifCond .eq 18, 3) := by decide +kernel
theorem d_R_keepDistinct_34 : decode c_R_keepDistinct 34 = .ok (.aload_n 0, 1) := by decide +kernel
theorem d_R_keepDistinct_35 : decode c_R_keepDistinct 35 = .ok (.getfield 15, 3) := by decide +kernel
theorem d_R_keepDistinct_38 : decode c_R_keepDistinct 38 = .ok (.iload_n 1, 1) := by decide +kernel
theorem d_R_keepDistinct_39 : decode c_R_keepDistinct 39 = .ok (.aload_n 0, 1) := by decide +kernel
theorem d_R_keepDistinct_40 : decode c_R_keepDistinct 40 = .ok (.getfield 15, 3) := by decide +kernel
theorem d_R_keepDistinct_43 : decode c_R_keepDistinct 43 = .ok (.iload_n 2, 1) := by decide +kernel
theorem d_R_keepDistinct_44 : decode c_R_keepDistinct 44 = .ok (.laload, 1) := by decide +kernel
theorem d_R_keepDistinct_45 : decode c_R_keepDistinct 45 = .ok (.lastore, 1) := by decide +kernel
theorem d_R_keepDistinct_46 : decode c_R_keepDistinct 46 = .ok (.iinc 1 1, 3) := by decide +kernel
theorem d_R_keepDistinct_49 : decode c_R_keepDistinct 49 = .ok (.iinc 2 1, 3) := by decide +kernel
theorem d_R_keepDistinct_52 : decode c_R_keepDistinct 52 = .ok (.goto (-48), 3) := by decide +kernel
theorem d_R_keepDistinct_55 : decode c_R_keepDistinct 55 = .ok (.aload_n 0, 1) := by decide +kernel
theorem d_R_keepDistinct_56 : decode c_R_keepDistinct 56 = .ok (.iload_n 1, 1) := by decide +kernel
theorem d_R_keepDistinct_57 : decode c_R_keepDistinct 57 = .ok (.putfield 19, 3) := by decide +kernel
theorem d_R_keepDistinct_60 : decode c_R_keepDistinct 60 = .ok (.return_, 1) := by decide +kernel
theorem d_R_sort_0 : decode c_R_sort 0 = .ok (.aload_n 0, 1) := by decide +kernel
theorem d_R_sort_1 : decode c_R_sort 1 = .ok (.getfield 19, 3) := by decide +kernel
theorem d_R_sort_4 : decode c_R_sort 4 = .ok (.iconst 2, 1) := by decide +kernel
theorem d_R_sort_5 : decode c_R_sort 5 = .ok (.idiv, 1) := by decide +kernel
theorem d_R_sort_6 : decode c_R_sort 6 = .ok (.iconst 1, 1) := by decide +kernel
theorem d_R_sort_7 : decode c_R_sort 7 = .ok (.isub, 1) := by decide +kernel
theorem d_R_sort_8 : decode c_R_sort 8 = .ok (.istore_n 1, 1) := by decide +kernel
theorem d_R_sort_9 : decode c_R_sort 9 = .ok (.iload_n 1, 1) := by decide +kernel
theorem d_R_sort_10 : decode c_R_sort 10 = .ok (.ifCond .lt 24, 3) := by decide +kernel
theorem d_R_sort_13 : decode c_R_sort 13 = .ok (.aload_n 0, 1) := by decide +kernel
theorem d_R_sort_14 : decode c_R_sort 14 = .ok (.aload_n 0, 1) := by decide +kernel
theorem d_R_sort_15 : decode c_R_sort 15 = .ok (.getfield 15, 3) := by decide +kernel
theorem d_R_sort_18 : decode c_R_sort 18 = .ok (.iload_n 1, 1) := by decide +kernel
theorem d_R_sort_19 : decode c_R_sort 19 = .ok (.laload, 1) := by decide +kernel
theorem d_R_sort_20 : decode c_R_sort 20 = .ok (.iload_n 1, 1) := by decide +kernel
theorem d_R_sort_21 : decode c_R_sort 21 = .ok (.aload_n 0, 1) := by decide +kernel
theorem d_R_sort_22 : decode c_R_sort 22 = .ok (.getfield 19, 3) := by decide +kernel
theorem d_R_sort_25 : decode c_R_sort 25 = .ok (.invokevirtual 44, 3) := by decide +kernel
theorem d_R_sort_28 : decode c_R_sort 28 = .ok (.iinc 1 (-1), 3) := by decide +kernel
theorem d_R_sort_31 : decode c_R_sort 31 = .ok (.goto (-22), 3) := by decide +kernel
theorem d_R_sort_34 : decode c_R_sort 34 = .ok (.aload_n 0, 1) := by decide +kernel
theorem d_R_sort_35 : decode c_R_sort 35 = .ok (.getfield 19, 3) := by decide +kernel
theorem d_R_sort_38 : decode c_R_sort 38 = .ok (.iconst 1, 1) := by decide +kernel
theorem d_R_sort_39 : decode c_R_sort 39 = .ok (.isub, 1) := by decide +kernel
theorem d_R_sort_40 : decode c_R_sort 40 = .ok (.istore_n 1, 1) := by decide +kernel
theorem d_R_sort_41 : decode c_R_sort 41 = .ok (.iload_n 1, 1) := by decide +kernel
theorem d_R_sort_42 : decode c_R_sort 42 = .ok (.ifCond .le 35, 3) := by decide +kernel
theorem d_R_sort_45 : decode c_R_sort 45 = .ok (.aload_n 0, 1) := by decide +kernel
theorem d_R_sort_46 : decode c_R_sort 46 = .ok (.getfield 15, 3) := by decide +kernel
theorem d_R_sort_49 : decode c_R_sort 49 = .ok (.iload_n 1, 1) := by decide +kernel
theorem d_R_sort_50 : decode c_R_sort 50 = .ok (.laload, 1) := by decide +kernel
theorem d_R_sort_51 : decode c_R_sort 51 = .ok (.lstore_n 2, 1) := by decide +kernel
theorem d_R_sort_52 : decode c_R_sort 52 = .ok (.aload_n 0, 1) := by decide +kernel
theorem d_R_sort_53 : decode c_R_sort 53 = .ok (.getfield 15, 3) := by decide +kernel
theorem d_R_sort_56 : decode c_R_sort 56 = .ok (.iload_n 1, 1) := by decide +kernel
theorem d_R_sort_57 : decode c_R_sort 57 = .ok (.aload_n 0, 1) := by decide +kernel
theorem d_R_sort_58 : decode c_R_sort 58 = .ok (.getfield 15, 3) := by decide +kernel
theorem d_R_sort_61 : decode c_R_sort 61 = .ok (.iconst 0, 1) := by decide +kernel
theorem d_R_sort_62 : decode c_R_sort 62 = .ok (.laload, 1) := by decide +kernel
theorem d_R_sort_63 : decode c_R_sort 63 = .ok (.lastore, 1) := by decide +kernel
theorem d_R_sort_64 : decode c_R_sort 64 = .ok (.aload_n 0, 1) := by decide +kernel
theorem d_R_sort_65 : decode c_R_sort 65 = .ok (.lload_n 2, 1) := by decide +kernel
theorem d_R_sort_66 : decode c_R_sort 66 = .ok (.iconst 0, 1) := by decide +kernel
theorem d_R_sort_67 : decode c_R_sort 67 = .ok (.iload_n 1, 1) := by decide +kernel
theorem d_R_sort_68 : decode c_R_sort 68 = .ok (.invokevirtual 44, 3) := by decide +kernel
theorem d_R_sort_71 : decode c_R_sort 71 = .ok (.iinc 1 (-1), 3) := by decide +kernel
theorem d_R_sort_74 : decode c_R_sort 74 = .ok (.goto (-33), 3) := by decide +kernel
theorem d_R_sort_77 : decode c_R_sort 77 = .ok (.return_, 1) := by decide +kernel
set_option maxHeartbeats 4000000 in
set_option maxRecDepth 100000 in
theorem k_R_sort (l : Launch) (D : va_G) (E : ClassId × ClassId × ClassId × ClassId) (h0 a sz : Nat) (most : Int32) (z n : Nat) (f : Nat → Int64) (hz : z ≤ n) (hn : n < 2 ^ 29) : Met l y_R_sort (.code y_R_sort c_R_sort 4 none :: gw) ({ frames := 1, cells := 0, slots := 0, locals := 26 } : Room) (wP D E [(h0, .inr (0, [.int most, .ref a, .int (nI z)])), (a, .inl (E.1, n, .inr (.inl f)))] sz [.ref h0]) (va_Qv (fun (u : Unit) => True) (wB D (fun _ => [(h0, .inr (0, [.int most, .ref a, .int (nI z)])), (a, .inl (E.1, n, .inr (.inl (ps_sort z f))))]) (va_A [(h0, .inr (0, [.int most, .ref a, .int (nI z)])), (a, .inl (E.1, n, .inr (.inl f)))] sz)) (va_A [(h0, .inr (0, [.int most, .ref a, .int (nI z)])), (a, .inl (E.1, n, .inr (.inl f)))] sz)) 0 0 (va_A [(h0, .inr (0, [.int most, .ref a, .int (nI z)])), (a, .inl (E.1, n, .inr (.inl f)))] sz) := by
  refine wr_ofW (Qc := fun A => (va_Qv (fun (u : Unit) => True) (wB D (fun _ => [(h0, .inr (0, [.int most, .ref a, .int (nI z)])), (a, .inl (E.1, n, .inr (.inl (ps_sort z f))))]) A) A)) (by decide) (Nat.le_of_ble_eq_true rfl) ?_
  intro p e s m below meth c B hP hK A hA hD hS ls hl
  obtain ⟨hx, hb, hrt, hml, hown, hts, hG, hlocks, hin⟩ := B
  have hl : lv_has ls 4 [(0, .ref h0)] := hl
  refine lv_aload_n hx hb d_R_sort_0 rfl (lv_at hl 0 rfl) ?_
  refine va_get (D := D) (ci := 0) (v := .int (nI z)) (C := K_R) (T := F_R) (N := 3) hx hb hG in_R hown hK.1 hP 0 rfl rfl 2 (by decide) (hG _ wd_99) (fun _ h9 => h9) rfl d_R_sort_1 ?_
  refine lv_iconst (v := 2) hx hb d_R_sort_4 (by decide) ?_
  refine lv_idiv hx hb d_R_sort_5 (by decide) ?_
  rw [show (nI z / 2) = nI (z / 2) from pk_div (d := 2) (by omega) (by decide) (by decide)]
  refine lv_iconst (v := 1) hx hb d_R_sort_6 (by decide) ?_
  refine lv_isub hx hb d_R_sort_7 ?_
  refine lv_istore_n (lv' := [(1, .int (nI (z / 2) - 1)), (0, .ref h0)]) hx hb d_R_sort_8 rfl hl (by decide) rfl (fun ls hl => ?_)
  have drain : ∀ (fu : Nat) (ee : Nat) (y : Int32) (g : Nat → Int64) (H : Heap) (locs : List Loc) (ls : Array Slot), (ee ≤ z) → (y.toInt = (ee : Int) - 1) → (ee < fu) → (ps_drain (ee - 1) g = ps_sort z f) → va_P D vwC [(h0, .inr (0, [.int most, .ref a, .int (nI z)])), (a, .inl (E.1, n, .inr (.inl g)))] H → va_D A [(h0, .inr (0, [.int most, .ref a, .int (nI z)])), (a, .inl (E.1, n, .inr (.inl g)))] → va_S A s.heap H locs → lv_has ls 4 [(0, .ref h0), (1, .int y)] → W p l e ({ frames := 1, cells := 0, slots := 0, locals := 26 } : Room) s m ([.ref h0] : List Value).toArray below meth c H locs 0 0 (MQ below (va_Qv (fun (u : Unit) => True) (wB D (fun _ => [(h0, .inr (0, [.int most, .ref a, .int (nI z)])), (a, .inl (E.1, n, .inr (.inl (ps_sort z f))))]) A) A) ([.ref h0] : List Value).toArray s 0 0 A) (F0 m 41 ls []) := by
    intro fu
    induction fu with
    | zero =>
      intro ee y g H locs ls h1 h2 h3 h4 hP hD hS hl
      omega
    | succ fu ih =>
      intro ee y g H locs ls h1 h2 h3 h4 hP hD hS hl
      refine lv_iload_n hx hb d_R_sort_41 rfl (lv_at hl 1 rfl) ?_
      refine lv_if_le (tgt := 77) hx hb d_R_sort_42 (by decide) (fun c1 => ?_) (fun c1 => ?_)
      · have q : ee ≤ 1 := by rw [Int32.le_iff_toInt_le, h2, show (0 : Int32).toInt = 0 from rfl] at c1; omega
        rw [show ee - 1 = 0 by omega] at h4
        have h4 : g = ps_sort z f := h4
        rw [h4] at hP hD
        exact W.vret hx hb hrt (fun t ht hW => ⟨⟨(), rfl, trivial, ⟨by rw [ht]; exact hP, hD⟩⟩, hS.F ht⟩) hS.2.2 d_R_sort_77 hlocks
      · have q : 1 < ee := by rw [Int32.le_iff_toInt_le, h2, show (0 : Int32).toInt = 0 from rfl] at c1; omega
        obtain ⟨d, rfl⟩ : ∃ d, ee = d + 2 := ⟨ee - 2, by omega⟩
        obtain rfl : y = nI (d + 1) := nI_toI (by omega)
        refine lv_aload_n hx hb d_R_sort_45 rfl (lv_at hl 0 rfl) ?_
        refine va_get (D := D) (ci := 0) (v := .ref a) (C := K_R) (T := F_R) (N := 3) hx hb hG in_R hown hK.1 hP 0 rfl rfl 1 (by decide) (hG _ wd_98) (fun _ h9 => h9) rfl d_R_sort_46 ?_
        refine lv_iload_n hx hb d_R_sort_49 rfl (lv_at hl 1 rfl) ?_
        refine va_lald hx hb hK.1 hP 1 0 rfl rfl (vp_in_nI (by omega) (by omega)) d_R_sort_50 ?_
        rw [show g (Int32.toNatClampNeg (nI (d + 1))) = g (d + 1) from by rw [nI_clamp (by omega)]]
        refine lv_lstore_n (lv' := [(2, .long (g (d + 1))), (0, .ref h0), (1, .int (nI (d + 1)))]) hx hb d_R_sort_51 rfl hl (by decide) rfl (fun ls hl => ?_)
        refine lv_aload_n hx hb d_R_sort_52 rfl (lv_at hl 1 rfl) ?_
        refine va_get (D := D) (ci := 0) (v := .ref a) (C := K_R) (T := F_R) (N := 3) hx hb hG in_R hown hK.1 hP 0 rfl rfl 1 (by decide) (hG _ wd_98) (fun _ h9 => h9) rfl d_R_sort_53 ?_
        refine lv_iload_n hx hb d_R_sort_56 rfl (lv_at hl 2 rfl) ?_
        refine lv_aload_n hx hb d_R_sort_57 rfl (lv_at hl 1 rfl) ?_
        refine va_get (D := D) (ci := 0) (v := .ref a) (C := K_R) (T := F_R) (N := 3) hx hb hG in_R hown hK.1 hP 0 rfl rfl 1 (by decide) (hG _ wd_98) (fun _ h9 => h9) rfl d_R_sort_58 ?_
        refine lv_iconst (v := 0) hx hb d_R_sort_61 (by decide) ?_
        refine va_lald hx hb hK.1 hP 1 0 rfl rfl (vp_in_nI (n := 0) (by omega) (by omega)) d_R_sort_62 ?_
        rw [show g (Int32.toNatClampNeg 0) = g 0 from rfl]
        refine va_last hx hb hK.1 hP hD hS 1 0 rfl rfl (vp_in_nI (by omega) (by omega)) d_R_sort_63 (fun H locs hP hD hS => ?_)
        rw [show vp_updL g (Int32.toNatClampNeg (nI (d + 1))) (g 0) = (vp_updL g (d + 1) (g 0)) from by rw [nI_clamp (by omega)]] at hP hD
        have hP : va_P D vwC [(h0, .inr (0, [.int most, .ref a, .int (nI z)])), (a, .inl (E.1, n, .inr (.inl (vp_updL g (d + 1) (g 0)))))] H := hP
        have hD : va_D A [(h0, .inr (0, [.int most, .ref a, .int (nI z)])), (a, .inl (E.1, n, .inr (.inl (vp_updL g (d + 1) (g 0)))))] := hD
        refine lv_aload_n hx hb d_R_sort_64 rfl (lv_at hl 1 rfl) ?_
        refine lv_lload_n hx hb d_R_sort_65 rfl (lv_at hl 0 rfl) ?_
        refine lv_iconst (v := 0) hx hb d_R_sort_66 (by decide) ?_
        refine lv_iload_n hx hb d_R_sort_67 rfl (lv_at hl 2 rfl) ?_
        have hPc := hP.sub (ws' := [(h0, .inr (0, [.int most, .ref a, .int (nI z)])), (a, .inl (E.1, n, .inr (.inl (vp_updL g (d + 1) (g 0)))))]) [0, 1] rfl
        have hDc := hD.sub (ws' := [(h0, .inr (0, [.int most, .ref a, .int (nI z)])), (a, .inl (E.1, n, .inr (.inl (vp_updL g (d + 1) (g 0)))))]) [0, 1] (by decide) rfl
        have hFc := va_free (wc := [(h0, .inr (0, [.int most, .ref a, .int (nI z)])), (a, .inl (E.1, n, .inr (.inl (vp_updL g (d + 1) (g 0)))))]) hD hS hA [0, 1] rfl
        refine va_callv (va_runV (As := [.long (g (d + 1)), .int 0, .int (nI (d + 1))]) (rest := []) ⟨hx, hb, hml, hown, hts⟩ (k_R_sink l D E h0 a H.size most (nI z) (g (d + 1)) n 0 (d + 1) (vp_updL g (d + 1) (g 0)) hn (by omega) (by omega)) (cwV 3 hts (gw_gv wd_407 wd_409 wd_8 wd_41 wd_410) rfl rfl rfl (by decide +kernel) ⟨Nat.le_of_ble_eq_true rfl, Nat.le_of_ble_eq_true rfl⟩) (wP_V 0 hPc hK hDc rfl rfl) rfl rfl hl.1 rfl (lv_room (Nat.le_of_ble_eq_true rfl)) d_R_sort_68 ⟨Nat.le_of_ble_eq_true rfl, Nat.le_of_ble_eq_true rfl⟩) hS (fun q _ h => hFc q h) hFc (fun u t H1 locs ht hvm hw hB hz1 hk1 hS => ?_)
        obtain ⟨hP1, hD1⟩ := hB
        rw [ht] at hP1
        obtain ⟨hP, hD⟩ := va_join (wr := []) (w1 := [(h0, .inr (0, [.int most, .ref a, .int (nI z)])), (a, .inl (E.1, n, .inr (.inl (ps_sink (g (d + 1)) (d + 1) (d + 1) (vp_updL g (d + 1) (g 0)) 0))))]) hP hD [0, 1] [] rfl rfl (by decide) (by decide) hk1 hFc hP1 hD1
        generalize H1 = H at hP hS ⊢
        have hP : va_P D vwC [(h0, .inr (0, [.int most, .ref a, .int (nI z)])), (a, .inl (E.1, n, .inr (.inl (ps_sink (g (d + 1)) (d + 1) (d + 1) (vp_updL g (d + 1) (g 0)) 0))))] H := hP
        have hD : va_D A [(h0, .inr (0, [.int most, .ref a, .int (nI z)])), (a, .inl (E.1, n, .inr (.inl (ps_sink (g (d + 1)) (d + 1) (d + 1) (vp_updL g (d + 1) (g 0)) 0))))] := hD
        obtain ⟨y2, hy2⟩ : ∃ y2, y2 = nI (d + 1) + Int32.ofInt (-1) := ⟨_, rfl⟩
        refine lv_iinc (v := y2) (lv' := [(1, .int y2), (2, .long (g (d + 1))), (0, .ref h0)]) hx hb d_R_sort_71 hl (k := 2) rfl hy2.symm (by decide) rfl (fun ls hl => ?_)
        refine lv_goto (tgt := 41) hx hb d_R_sort_74 (by decide) ?_
        exact ih (d + 1) y2 _ H locs ls (by omega) (by rw [hy2, iinc_toI (by omega)]) (by omega) h4 hP hD hS (lv_sub hl [2, 0] rfl)
  have loop : ∀ (fu : Nat) (r : Nat) (y : Int32) (g : Nat → Int64) (H : Heap) (locs : List Loc) (ls : Array Slot), (r ≤ z / 2) → (y.toInt = (r : Int) - 1) → (r < fu) → (ps_heap z r g = ps_heap z (z / 2) f) → va_P D vwC [(h0, .inr (0, [.int most, .ref a, .int (nI z)])), (a, .inl (E.1, n, .inr (.inl g)))] H → va_D A [(h0, .inr (0, [.int most, .ref a, .int (nI z)])), (a, .inl (E.1, n, .inr (.inl g)))] → va_S A s.heap H locs → lv_has ls 4 [(0, .ref h0), (1, .int y)] → W p l e ({ frames := 1, cells := 0, slots := 0, locals := 26 } : Room) s m ([.ref h0] : List Value).toArray below meth c H locs 0 0 (MQ below (va_Qv (fun (u : Unit) => True) (wB D (fun _ => [(h0, .inr (0, [.int most, .ref a, .int (nI z)])), (a, .inl (E.1, n, .inr (.inl (ps_sort z f))))]) A) A) ([.ref h0] : List Value).toArray s 0 0 A) (F0 m 9 ls []) := by
    intro fu
    induction fu with
    | zero =>
      intro r y g H locs ls h1 h2 h3 h4 hP hD hS hl
      omega
    | succ fu ih =>
      intro r y g H locs ls h1 h2 h3 h4 hP hD hS hl
      refine lv_iload_n hx hb d_R_sort_9 rfl (lv_at hl 1 rfl) ?_
      refine lv_if_lt (tgt := 34) hx hb d_R_sort_10 (by decide) (fun c1 => ?_) (fun c1 => ?_)
      · have q : r = 0 := by rw [Int32.lt_iff_toInt_lt, h2, show (0 : Int32).toInt = 0 from rfl] at c1; omega
        subst q
        have h4 : g = ps_heap z (z / 2) f := h4
        refine lv_aload_n hx hb d_R_sort_34 rfl (lv_at hl 0 rfl) ?_
        refine va_get (D := D) (ci := 0) (v := .int (nI z)) (C := K_R) (T := F_R) (N := 3) hx hb hG in_R hown hK.1 hP 0 rfl rfl 2 (by decide) (hG _ wd_99) (fun _ h9 => h9) rfl d_R_sort_35 ?_
        refine lv_iconst (v := 1) hx hb d_R_sort_38 (by decide) ?_
        refine lv_isub hx hb d_R_sort_39 ?_
        refine lv_istore_n (lv' := [(1, .int (nI z - 1)), (0, .ref h0)]) hx hb d_R_sort_40 rfl hl (by decide) rfl (fun ls hl => ?_)
        exact drain (z + 1) z _ g H locs ls (Nat.le_refl _) (dec_toI (by omega)) (by omega) (by rw [h4]; rfl) hP hD hS (lv_sub hl [1, 0] rfl)
      · have q : 0 < r := by rw [Int32.lt_iff_toInt_lt, h2, show (0 : Int32).toInt = 0 from rfl] at c1; omega
        obtain ⟨d, rfl⟩ : ∃ d, r = d + 1 := ⟨r - 1, by omega⟩
        obtain rfl : y = nI d := nI_toI (by omega)
        refine lv_aload_n hx hb d_R_sort_13 rfl (lv_at hl 0 rfl) ?_
        refine lv_aload_n hx hb d_R_sort_14 rfl (lv_at hl 0 rfl) ?_
        refine va_get (D := D) (ci := 0) (v := .ref a) (C := K_R) (T := F_R) (N := 3) hx hb hG in_R hown hK.1 hP 0 rfl rfl 1 (by decide) (hG _ wd_98) (fun _ h9 => h9) rfl d_R_sort_15 ?_
        refine lv_iload_n hx hb d_R_sort_18 rfl (lv_at hl 1 rfl) ?_
        refine va_lald hx hb hK.1 hP 1 0 rfl rfl (vp_in_nI (by omega) (by omega)) d_R_sort_19 ?_
        rw [show g (Int32.toNatClampNeg (nI d)) = g d from by rw [nI_clamp (by omega)]]
        refine lv_iload_n hx hb d_R_sort_20 rfl (lv_at hl 1 rfl) ?_
        refine lv_aload_n hx hb d_R_sort_21 rfl (lv_at hl 0 rfl) ?_
        refine va_get (D := D) (ci := 0) (v := .int (nI z)) (C := K_R) (T := F_R) (N := 3) hx hb hG in_R hown hK.1 hP 0 rfl rfl 2 (by decide) (hG _ wd_99) (fun _ h9 => h9) rfl d_R_sort_22 ?_
        have hPc := hP.sub (ws' := [(h0, .inr (0, [.int most, .ref a, .int (nI z)])), (a, .inl (E.1, n, .inr (.inl g)))]) [0, 1] rfl
        have hDc := hD.sub (ws' := [(h0, .inr (0, [.int most, .ref a, .int (nI z)])), (a, .inl (E.1, n, .inr (.inl g)))]) [0, 1] (by decide) rfl
        have hFc := va_free (wc := [(h0, .inr (0, [.int most, .ref a, .int (nI z)])), (a, .inl (E.1, n, .inr (.inl g)))]) hD hS hA [0, 1] rfl
        refine va_callv (va_runV (As := [.long (g d), .int (nI d), .int (nI z)]) (rest := []) ⟨hx, hb, hml, hown, hts⟩ (k_R_sink l D E h0 a H.size most (nI z) (g d) n d z g hn hz (by omega)) (cwV 3 hts (gw_gv wd_407 wd_409 wd_8 wd_41 wd_410) rfl rfl rfl (by decide +kernel) ⟨Nat.le_of_ble_eq_true rfl, Nat.le_of_ble_eq_true rfl⟩) (wP_V 0 hPc hK hDc rfl rfl) rfl rfl hl.1 rfl (lv_room (Nat.le_of_ble_eq_true rfl)) d_R_sort_25 ⟨Nat.le_of_ble_eq_true rfl, Nat.le_of_ble_eq_true rfl⟩) hS (fun q _ h => hFc q h) hFc (fun u t H1 locs ht hvm hw hB hz1 hk1 hS => ?_)
        obtain ⟨hP1, hD1⟩ := hB
        rw [ht] at hP1
        obtain ⟨hP, hD⟩ := va_join (wr := []) (w1 := [(h0, .inr (0, [.int most, .ref a, .int (nI z)])), (a, .inl (E.1, n, .inr (.inl (ps_sink (g d) z z g d))))]) hP hD [0, 1] [] rfl rfl (by decide) (by decide) hk1 hFc hP1 hD1
        generalize H1 = H at hP hS ⊢
        have hP : va_P D vwC [(h0, .inr (0, [.int most, .ref a, .int (nI z)])), (a, .inl (E.1, n, .inr (.inl (ps_sink (g d) z z g d))))] H := hP
        have hD : va_D A [(h0, .inr (0, [.int most, .ref a, .int (nI z)])), (a, .inl (E.1, n, .inr (.inl (ps_sink (g d) z z g d))))] := hD
        obtain ⟨y2, hy2⟩ : ∃ y2, y2 = nI d + Int32.ofInt (-1) := ⟨_, rfl⟩
        refine lv_iinc (v := y2) (lv' := [(1, .int y2), (0, .ref h0)]) hx hb d_R_sort_28 hl (k := 1) rfl hy2.symm (by decide) rfl (fun ls hl => ?_)
        refine lv_goto (tgt := 9) hx hb d_R_sort_31 (by decide) ?_
        exact ih d y2 _ H locs ls (by omega) (by rw [hy2, iinc_toI (by omega)]) (by omega) h4 hP hD hS (lv_sub hl [1, 0] rfl)
  exact loop (z + 1) (z / 2) _ f _ _ ls (Nat.le_refl _) (dec_toI (by omega)) (by omega) rfl hP hD hS (lv_sub hl [1, 0] rfl)
theorem ps_kd_step (f : Nat → Int64) (k : Nat) (g : Nat → Int64) (c : Nat) (h : ps_kd f k = (g, c)) : ((c = 0 ∨ g k ≠ g (c - 1)) → ps_kd f (k + 1) = (vp_updL g c (g k), c + 1)) ∧ (¬ (c = 0 ∨ g k ≠ g (c - 1)) → ps_kd f (k + 1) = (g, c)) := by
  constructor
  · intro q
    rw [ps_kd, h]
    exact if_pos q
  · intro q
    rw [ps_kd, h]
    exact if_neg q
set_option maxHeartbeats 4000000 in
set_option maxRecDepth 100000 in
theorem k_R_keepDistinct (l : Launch) (D : va_G) (E : ClassId × ClassId × ClassId × ClassId) (h0 a sz : Nat) (most : Int32) (z n : Nat) (f : Nat → Int64) (hz : z ≤ n) (hn : n < 2 ^ 29) : Met l y_R_keepDistinct (.code y_R_keepDistinct c_R_keepDistinct 3 none :: gw) ({ frames := 0, cells := 0, slots := 0, locals := 0 } : Room) (wP D E [(h0, .inr (0, [.int most, .ref a, .int (nI z)])), (a, .inl (E.1, n, .inr (.inl f)))] sz [.ref h0]) (va_Qv (fun (u : Unit) => True) (wB D (fun _ => [(h0, .inr (0, [.int most, .ref a, .int (nI (ps_kd f z).2)])), (a, .inl (E.1, n, .inr (.inl ((ps_kd f z).1))))]) (va_A [(h0, .inr (0, [.int most, .ref a, .int (nI z)])), (a, .inl (E.1, n, .inr (.inl f)))] sz)) (va_A [(h0, .inr (0, [.int most, .ref a, .int (nI z)])), (a, .inl (E.1, n, .inr (.inl f)))] sz)) 0 0 (va_A [(h0, .inr (0, [.int most, .ref a, .int (nI z)])), (a, .inl (E.1, n, .inr (.inl f)))] sz) := by
  refine wr_ofW (Qc := fun A => (va_Qv (fun (u : Unit) => True) (wB D (fun _ => [(h0, .inr (0, [.int most, .ref a, .int (nI (ps_kd f z).2)])), (a, .inl (E.1, n, .inr (.inl ((ps_kd f z).1))))]) A) A)) (by decide) (Nat.le_of_ble_eq_true rfl) ?_
  intro p e s m below meth c B hP hK A hA hD hS ls hl
  obtain ⟨hx, hb, hrt, hml, hown, hts, hG, hlocks, hin⟩ := B
  have hl : lv_has ls 3 [(0, .ref h0)] := hl
  refine lv_iconst (v := 0) hx hb d_R_keepDistinct_0 (by decide) ?_
  refine lv_istore_n (lv' := [(1, .int 0), (0, .ref h0)]) hx hb d_R_keepDistinct_1 rfl hl (by decide) rfl (fun ls hl => ?_)
  refine lv_iconst (v := 0) hx hb d_R_keepDistinct_2 (by decide) ?_
  refine lv_istore_n (lv' := [(2, .int 0), (1, .int 0), (0, .ref h0)]) hx hb d_R_keepDistinct_3 rfl hl (by decide) rfl (fun ls hl => ?_)
  have loop : ∀ (fu : Nat) (k : Nat) (kc : Nat) (g : Nat → Int64) (H : Heap) (locs : List Loc) (ls : Array Slot), (k ≤ z) → (kc ≤ k) → (z < k + fu) → (ps_kd f k = (g, kc)) → va_P D vwC [(h0, .inr (0, [.int most, .ref a, .int (nI z)])), (a, .inl (E.1, n, .inr (.inl g)))] H → va_D A [(h0, .inr (0, [.int most, .ref a, .int (nI z)])), (a, .inl (E.1, n, .inr (.inl g)))] → va_S A s.heap H locs → lv_has ls 3 [(0, .ref h0), (1, .int (nI kc)), (2, .int (nI k))] → W p l e ({ frames := 0, cells := 0, slots := 0, locals := 0 } : Room) s m ([.ref h0] : List Value).toArray below meth c H locs 0 0 (MQ below (va_Qv (fun (u : Unit) => True) (wB D (fun _ => [(h0, .inr (0, [.int most, .ref a, .int (nI (ps_kd f z).2)])), (a, .inl (E.1, n, .inr (.inl ((ps_kd f z).1))))]) A) A) ([.ref h0] : List Value).toArray s 0 0 A) (F0 m 4 ls []) := by
    intro fu
    induction fu with
    | zero =>
      intro k kc g H locs ls h1 h2 h3 h4 hP hD hS hl
      omega
    | succ fu ih =>
      intro k kc g H locs ls h1 h2 h3 h4 hP hD hS hl
      have hk := ps_kd_step f k g kc h4
      refine lv_iload_n hx hb d_R_keepDistinct_4 rfl (lv_at hl 2 rfl) ?_
      refine lv_aload_n hx hb d_R_keepDistinct_5 rfl (lv_at hl 0 rfl) ?_
      refine va_get (D := D) (ci := 0) (v := .int (nI z)) (C := K_R) (T := F_R) (N := 3) hx hb hG in_R hown hK.1 hP 0 rfl rfl 2 (by decide) (hG _ wd_99) (fun _ h9 => h9) rfl d_R_keepDistinct_6 ?_
      refine lv_icmp_ge (tgt := 55) hx hb d_R_keepDistinct_9 (by decide) (fun c1 => ?_) (fun c1 => ?_)
      · have q : k = z := by have := (nI_leI (by omega) (by omega)).mp c1; omega
        subst q
        refine lv_aload_n hx hb d_R_keepDistinct_55 rfl (lv_at hl 0 rfl) ?_
        refine lv_iload_n hx hb d_R_keepDistinct_56 rfl (lv_at hl 1 rfl) ?_
        refine va_put (D := D) (ci := 0) (v := .int (nI kc)) (ty := .int) (C := K_R) (T := F_R) (N := 3) hx hb hG in_R t_R t_R_ok n_R hown hK.1 hP hD hS 0 rfl rfl 2 (by decide) (hG _ wd_99) (fun _ h9 => h9) rfl (by decide +kernel) rfl rfl (Nat.le_of_ble_eq_true rfl) d_R_keepDistinct_57 (fun H locs hP hD hS => ?_)
        have hP : va_P D vwC [(h0, .inr (0, [.int most, .ref a, .int (nI kc)])), (a, .inl (E.1, n, .inr (.inl g)))] H := hP
        have hD : va_D A [(h0, .inr (0, [.int most, .ref a, .int (nI kc)])), (a, .inl (E.1, n, .inr (.inl g)))] := hD
        rw [show g = (ps_kd f k).1 by rw [h4], show kc = (ps_kd f k).2 by rw [h4]] at hP hD
        exact W.vret hx hb hrt (fun t ht hW => ⟨⟨(), rfl, trivial, ⟨by rw [ht]; exact hP, hD⟩⟩, hS.F ht⟩) hS.2.2 d_R_keepDistinct_60 hlocks
      · have q : k < z := by rw [nI_leI (by omega) (by omega)] at c1; omega
        refine lv_iload_n hx hb d_R_keepDistinct_12 rfl (lv_at hl 1 rfl) ?_
        refine lv_if_eq (tgt := 34) hx hb d_R_keepDistinct_13 (by decide) (fun c2 => ?_) (fun c2 => ?_)
        · have q2 : kc = 0 := (nI_eq (b := 0) (by omega) (by omega)).mp c2
          have hk := hk.1 (Or.inl q2)
          refine lv_aload_n hx hb d_R_keepDistinct_34 rfl (lv_at hl 0 rfl) ?_
          refine va_get (D := D) (ci := 0) (v := .ref a) (C := K_R) (T := F_R) (N := 3) hx hb hG in_R hown hK.1 hP 0 rfl rfl 1 (by decide) (hG _ wd_98) (fun _ h9 => h9) rfl d_R_keepDistinct_35 ?_
          refine lv_iload_n hx hb d_R_keepDistinct_38 rfl (lv_at hl 1 rfl) ?_
          refine lv_aload_n hx hb d_R_keepDistinct_39 rfl (lv_at hl 0 rfl) ?_
          refine va_get (D := D) (ci := 0) (v := .ref a) (C := K_R) (T := F_R) (N := 3) hx hb hG in_R hown hK.1 hP 0 rfl rfl 1 (by decide) (hG _ wd_98) (fun _ h9 => h9) rfl d_R_keepDistinct_40 ?_
          refine lv_iload_n hx hb d_R_keepDistinct_43 rfl (lv_at hl 2 rfl) ?_
          refine va_lald hx hb hK.1 hP 1 0 rfl rfl (vp_in_nI (by omega) (by omega)) d_R_keepDistinct_44 ?_
          rw [show g (Int32.toNatClampNeg (nI k)) = g k from by rw [nI_clamp (by omega)]]
          refine va_last hx hb hK.1 hP hD hS 1 0 rfl rfl (vp_in_nI (by omega) (by omega)) d_R_keepDistinct_45 (fun H locs hP hD hS => ?_)
          rw [show vp_updL g (Int32.toNatClampNeg (nI kc)) (g k) = (vp_updL g kc (g k)) from by rw [nI_clamp (by omega)]] at hP hD
          have hP : va_P D vwC [(h0, .inr (0, [.int most, .ref a, .int (nI z)])), (a, .inl (E.1, n, .inr (.inl (vp_updL g kc (g k)))))] H := hP
          have hD : va_D A [(h0, .inr (0, [.int most, .ref a, .int (nI z)])), (a, .inl (E.1, n, .inr (.inl (vp_updL g kc (g k)))))] := hD
          refine lv_iinc (v := nI (kc + 1)) (lv' := [(1, .int (nI (kc + 1))), (0, .ref h0), (2, .int (nI k))]) hx hb d_R_keepDistinct_46 hl (k := 1) rfl (iinc_p _) (by decide) rfl (fun ls hl => ?_)
          refine lv_iinc (v := nI (k + 1)) (lv' := [(2, .int (nI (k + 1))), (1, .int (nI (kc + 1))), (0, .ref h0)]) hx hb d_R_keepDistinct_49 hl (k := 2) rfl (iinc_p _) (by decide) rfl (fun ls hl => ?_)
          refine lv_goto (tgt := 4) hx hb d_R_keepDistinct_52 (by decide) ?_
          exact ih (k + 1) (kc + 1) _ H locs ls (by omega) (by omega) (by omega) hk hP hD hS (lv_sub hl [2, 1, 0] rfl)
        · have q2 : ¬ kc = 0 := fun z => c2 (by rw [z]; rfl)
          refine lv_aload_n hx hb d_R_keepDistinct_16 rfl (lv_at hl 0 rfl) ?_
          refine va_get (D := D) (ci := 0) (v := .ref a) (C := K_R) (T := F_R) (N := 3) hx hb hG in_R hown hK.1 hP 0 rfl rfl 1 (by decide) (hG _ wd_98) (fun _ h9 => h9) rfl d_R_keepDistinct_17 ?_
          refine lv_iload_n hx hb d_R_keepDistinct_20 rfl (lv_at hl 2 rfl) ?_
          refine va_lald hx hb hK.1 hP 1 0 rfl rfl (vp_in_nI (by omega) (by omega)) d_R_keepDistinct_21 ?_
          rw [show g (Int32.toNatClampNeg (nI k)) = g k from by rw [nI_clamp (by omega)]]
          refine lv_aload_n hx hb d_R_keepDistinct_22 rfl (lv_at hl 0 rfl) ?_
          refine va_get (D := D) (ci := 0) (v := .ref a) (C := K_R) (T := F_R) (N := 3) hx hb hG in_R hown hK.1 hP 0 rfl rfl 1 (by decide) (hG _ wd_98) (fun _ h9 => h9) rfl d_R_keepDistinct_23 ?_
          refine lv_iload_n hx hb d_R_keepDistinct_26 rfl (lv_at hl 1 rfl) ?_
          refine lv_iconst (v := 1) hx hb d_R_keepDistinct_27 (by decide) ?_
          refine lv_isub hx hb d_R_keepDistinct_28 ?_
          rw [show (nI kc - 1) = nI (kc - 1) from nI_d1 (by omega)]
          refine va_lald hx hb hK.1 hP 1 0 rfl rfl (vp_in_nI (by omega) (by omega)) d_R_keepDistinct_29 ?_
          rw [show g (Int32.toNatClampNeg (nI (kc - 1))) = g (kc - 1) from by rw [nI_clamp (by omega)]]
          refine W.lcmp hx hb d_R_keepDistinct_30 ?_
          refine lv_if_eq (tgt := 49) hx hb d_R_keepDistinct_31 (by decide) (fun c3 => ?_) (fun c3 => ?_)
          · have hk := hk.2 (fun z => z.elim q2 (fun y => y (lg_eq.mp c3)))
            refine lv_iinc (v := nI (k + 1)) (lv' := [(2, .int (nI (k + 1))), (0, .ref h0), (1, .int (nI kc))]) hx hb d_R_keepDistinct_49 hl (k := 2) rfl (iinc_p _) (by decide) rfl (fun ls hl => ?_)
            refine lv_goto (tgt := 4) hx hb d_R_keepDistinct_52 (by decide) ?_
            exact ih (k + 1) kc _ H locs ls (by omega) (by omega) (by omega) hk hP hD hS (lv_sub hl [1, 2, 0] rfl)
          · have hk := hk.1 (Or.inr (fun z => c3 (lg_eq.mpr z)))
            refine lv_aload_n hx hb d_R_keepDistinct_34 rfl (lv_at hl 0 rfl) ?_
            refine va_get (D := D) (ci := 0) (v := .ref a) (C := K_R) (T := F_R) (N := 3) hx hb hG in_R hown hK.1 hP 0 rfl rfl 1 (by decide) (hG _ wd_98) (fun _ h9 => h9) rfl d_R_keepDistinct_35 ?_
            refine lv_iload_n hx hb d_R_keepDistinct_38 rfl (lv_at hl 1 rfl) ?_
            refine lv_aload_n hx hb d_R_keepDistinct_39 rfl (lv_at hl 0 rfl) ?_
            refine va_get (D := D) (ci := 0) (v := .ref a) (C := K_R) (T := F_R) (N := 3) hx hb hG in_R hown hK.1 hP 0 rfl rfl 1 (by decide) (hG _ wd_98) (fun _ h9 => h9) rfl d_R_keepDistinct_40 ?_
            refine lv_iload_n hx hb d_R_keepDistinct_43 rfl (lv_at hl 2 rfl) ?_
            refine va_lald hx hb hK.1 hP 1 0 rfl rfl (vp_in_nI (by omega) (by omega)) d_R_keepDistinct_44 ?_
            rw [show g (Int32.toNatClampNeg (nI k)) = g k from by rw [nI_clamp (by omega)]]
            refine va_last hx hb hK.1 hP hD hS 1 0 rfl rfl (vp_in_nI (by omega) (by omega)) d_R_keepDistinct_45 (fun H locs hP hD hS => ?_)
            rw [show vp_updL g (Int32.toNatClampNeg (nI kc)) (g k) = (vp_updL g kc (g k)) from by rw [nI_clamp (by omega)]] at hP hD
            have hP : va_P D vwC [(h0, .inr (0, [.int most, .ref a, .int (nI z)])), (a, .inl (E.1, n, .inr (.inl (vp_updL g kc (g k)))))] H := hP
            have hD : va_D A [(h0, .inr (0, [.int most, .ref a, .int (nI z)])), (a, .inl (E.1, n, .inr (.inl (vp_updL g kc (g k)))))] := hD
            refine lv_iinc (v := nI (kc + 1)) (lv' := [(1, .int (nI (kc + 1))), (0, .ref h0), (2, .int (nI k))]) hx hb d_R_keepDistinct_46 hl (k := 1) rfl (iinc_p _) (by decide) rfl (fun ls hl => ?_)
            refine lv_iinc (v := nI (k + 1)) (lv' := [(2, .int (nI (k + 1))), (1, .int (nI (kc + 1))), (0, .ref h0)]) hx hb d_R_keepDistinct_49 hl (k := 2) rfl (iinc_p _) (by decide) rfl (fun ls hl => ?_)
            refine lv_goto (tgt := 4) hx hb d_R_keepDistinct_52 (by decide) ?_
            exact ih (k + 1) (kc + 1) _ H locs ls (by omega) (by omega) (by omega) hk hP hD hS (lv_sub hl [2, 1, 0] rfl)
  exact loop (z + 1) 0 0 f _ _ ls (by omega) (by omega) (by omega) rfl hP hD hS (lv_sub hl [2, 1, 0] rfl)
end
section
theorem d_R_add_0 : decode c_R_add 0 = .ok (.aload_n 0, 1) := by decide +kernel
theorem d_R_add_1 : decode c_R_add 1 = .ok (.invokevirtual 28, 3) := by decide +kernel
theorem d_R_add_4 : decode c_R_add 4 = .ok (.ifCond .eq 5, 3) := by decide +kernel
theorem d_R_add_7 : decode c_R_add 7 = .ok (.iconst 0, 1) := by decide +kernel
theorem d_R_add_8 : decode c_R_add 8 = .ok (.ireturn, 1) := by decide +kernel
theorem d_R_add_9 : decode c_R_add 9 = .ok (.aload_n 0, 1) := by decide +kernel
theorem d_R_add_10 : decode c_R_add 10 = .ok (.getfield 19, 3) := by decide +kernel
theorem d_R_add_13 : decode c_R_add 13 = .ok (.aload_n 0, 1) := by decide +kernel
theorem d_R_add_14 : decode c_R_add 14 = .ok (.getfield 15, 3) := by decide +kernel
theorem d_R_add_17 : decode c_R_add 17 = .ok (.arraylength, 1) := by decide +kernel
theorem d_R_add_18 : decode c_R_add 18 = .ok (.if_icmp .lt 28, 3) := by decide +kernel
theorem d_R_add_21 : decode c_R_add 21 = .ok (.aload_n 0, 1) := by decide +kernel
theorem d_R_add_22 : decode c_R_add 22 = .ok (.aload_n 0, 1) := by decide +kernel
theorem d_R_add_23 : decode c_R_add 23 = .ok (.getfield 15, 3) := by decide +kernel
theorem d_R_add_26 : decode c_R_add 26 = .ok (.aload_n 0, 1) := by decide +kernel
theorem d_R_add_27 : decode c_R_add 27 = .ok (.getfield 9, 3) := by decide +kernel
theorem d_R_add_30 : decode c_R_add 30 = .ok (.iconst 2, 1) := by decide +kernel
theorem d_R_add_31 : decode c_R_add 31 = .ok (.aload_n 0, 1) := by decide +kernel
theorem d_R_add_32 : decode c_R_add 32 = .ok (.getfield 15, 3) := by decide +kernel
theorem d_R_add_35 : decode c_R_add 35 = .ok (.arraylength, 1) := by decide +kernel
theorem d_R_add_36 : decode c_R_add 36 = .ok (.imul, 1) := by decide +kernel
theorem d_R_add_37 : decode c_R_add 37 = .ok (.invokestatic 32, 3) := by decide +kernel
theorem d_R_add_40 : decode c_R_add 40 = .ok (.invokestatic 38, 3) := by decide +kernel
theorem d_R_add_43 : decode c_R_add 43 = .ok (.putfield 15, 3) := by decide +kernel
theorem d_R_add_46 : decode c_R_add 46 = .ok (.aload_n 0, 1) := by decide +kernel
theorem d_R_add_47 : decode c_R_add 47 = .ok (.getfield 15, 3) := by decide +kernel
theorem d_R_add_50 : decode c_R_add 50 = .ok (.aload_n 0, 1) := by decide +kernel
theorem d_R_add_51 : decode c_R_add 51 = .ok (.getfield 19, 3) := by decide +kernel
theorem d_R_add_54 : decode c_R_add 54 = .ok (.lload_n 1, 1) := by decide +kernel
theorem d_R_add_55 : decode c_R_add 55 = .ok (.lastore, 1) := by decide +kernel
theorem d_R_add_56 : decode c_R_add 56 = .ok (.aload_n 0, 1) := by decide +kernel
theorem d_R_add_57 : decode c_R_add 57 = .ok (.dup, 1) := by decide +kernel
theorem d_R_add_58 : decode c_R_add 58 = .ok (.getfield 19, 3) := by decide +kernel
theorem d_R_add_61 : decode c_R_add 61 = .ok (.iconst 1, 1) := by decide +kernel
theorem d_R_add_62 : decode c_R_add 62 = .ok (.iadd, 1) := by decide +kernel
theorem d_R_add_63 : decode c_R_add 63 = .ok (.putfield 19, 3) := by decide +kernel
theorem d_R_add_66 : decode c_R_add 66 = .ok (.iconst 1, 1) := by decide +kernel
theorem d_R_add_67 : decode c_R_add 67 = .ok (.ireturn, 1) := by decide +kernel
theorem d_R_init_0 : decode c_R_init 0 = .ok (.aload_n 0, 1) := by decide +kernel
theorem d_R_init_1 : decode c_R_init 1 = .ok (.invokespecial 3, 3) := by decide +kernel
theorem d_R_init_4 : decode c_R_init 4 = .ok (.aload_n 0, 1) := by decide +kernel
theorem d_R_init_5 : decode c_R_init 5 = .ok (.iload_n 1, 1) := by decide +kernel
theorem d_R_init_6 : decode c_R_init 6 = .ok (.putfield 9, 3) := by decide +kernel
theorem d_R_init_9 : decode c_R_init 9 = .ok (.aload_n 0, 1) := by decide +kernel
theorem d_R_init_10 : decode c_R_init 10 = .ok (.bipush 16, 2) := by decide +kernel
theorem d_R_init_12 : decode c_R_init 12 = .ok (.newarray .long, 2) := by decide +kernel
theorem d_R_init_14 : decode c_R_init 14 = .ok (.putfield 15, 3) := by decide +kernel
theorem d_R_init_17 : decode c_R_init 17 = .ok (.aload_n 0, 1) := by decide +kernel
theorem d_R_init_18 : decode c_R_init 18 = .ok (.iconst 0, 1) := by decide +kernel
theorem d_R_init_19 : decode c_R_init 19 = .ok (.putfield 19, 3) := by decide +kernel
theorem d_R_init_22 : decode c_R_init 22 = .ok (.return_, 1) := by decide +kernel
theorem d_Y_copyOf_aJI_0 : decode c_Y_copyOf_aJI 0 = .ok (.iload_n 1, 1) := by decide +kernel
theorem d_Y_copyOf_aJI_1 : decode c_Y_copyOf_aJI 1 = .ok (.aload_n 0, 1) := by decide +kernel
theorem d_Y_copyOf_aJI_2 : decode c_Y_copyOf_aJI 2 = .ok (.arraylength, 1) := by decide +kernel
theorem d_Y_copyOf_aJI_3 : decode c_Y_copyOf_aJI 3 = .ok (.if_icmp .ne 11, 3) := by decide +kernel
theorem d_Y_copyOf_aJI_14 : decode c_Y_copyOf_aJI 14 = .ok (.iload_n 1, 1) := by decide +kernel
theorem d_Y_copyOf_aJI_15 : decode c_Y_copyOf_aJI 15 = .ok (.newarray .long, 2) := by decide +kernel
theorem d_Y_copyOf_aJI_17 : decode c_Y_copyOf_aJI 17 = .ok (.astore_n 2, 1) := by decide +kernel
theorem d_Y_copyOf_aJI_18 : decode c_Y_copyOf_aJI 18 = .ok (.aload_n 0, 1) := by decide +kernel
theorem d_Y_copyOf_aJI_19 : decode c_Y_copyOf_aJI 19 = .ok (.iconst 0, 1) := by decide +kernel
theorem d_Y_copyOf_aJI_20 : decode c_Y_copyOf_aJI 20 = .ok (.aload_n 2, 1) := by decide +kernel
theorem d_Y_copyOf_aJI_21 : decode c_Y_copyOf_aJI 21 = .ok (.iconst 0, 1) := by decide +kernel
theorem d_Y_copyOf_aJI_22 : decode c_Y_copyOf_aJI 22 = .ok (.aload_n 0, 1) := by decide +kernel
theorem d_Y_copyOf_aJI_23 : decode c_Y_copyOf_aJI 23 = .ok (.arraylength, 1) := by decide +kernel
theorem d_Y_copyOf_aJI_24 : decode c_Y_copyOf_aJI 24 = .ok (.iload_n 1, 1) := by decide +kernel
theorem d_Y_copyOf_aJI_25 : decode c_Y_copyOf_aJI 25 = .ok (.invokestatic 304, 3) := by decide +kernel
theorem d_Y_copyOf_aJI_28 : decode c_Y_copyOf_aJI 28 = .ok (.invokestatic 150, 3) := by decide +kernel
theorem d_Y_copyOf_aJI_31 : decode c_Y_copyOf_aJI 31 = .ok (.aload_n 2, 1) := by decide +kernel
theorem d_Y_copyOf_aJI_32 : decode c_Y_copyOf_aJI 32 = .ok (.areturn, 1) := by decide +kernel
theorem nI_min {a b : Nat} (ha : a < 2 ^ 31) (hb : b < 2 ^ 31) : (if nI b < nI a then nI b else nI a) = nI (min a b) := by
  by_cases h : b < a
  · rw [if_pos (nI_lt h ha), Nat.min_eq_right (by omega)]
  · rw [if_neg (by rw [nI_ltI hb ha]; exact h), Nat.min_eq_left (by omega)]
set_option maxHeartbeats 4000000 in
set_option maxRecDepth 100000 in
theorem k_Y_copyOf_aJI (l : Launch) (D : va_G) (E : ClassId × ClassId × ClassId × ClassId) (a sz n n2 : Nat) (f : Nat → Int64) (h1 : n < n2) (hn : n2 < 2 ^ 26) : Met l y_Y_copyOf_aJI (.code y_Y_copyOf_aJI c_Y_copyOf_aJI 3 (some (.array .long)) :: gw) ({ frames := 1, cells := 1, slots := n2, locals := 40 } : Room) (wP D E [(a, .inl (E.1, n, .inr (.inl f)))] sz [.ref a, .int (nI n2)]) (va_Qr (fun (u : Unit) => True) (wBr D (fun _ q => [(a, .inl (E.1, n, .inr (.inl f))), (q, .inl (E.1, n2, .inr (.inl (va_cpy f (fun _ => 0) 0 0 n))))]) (va_A [(a, .inl (E.1, n, .inr (.inl f)))] sz)) (va_A [(a, .inl (E.1, n, .inr (.inl f)))] sz)) 1 n2 (va_A [(a, .inl (E.1, n, .inr (.inl f)))] sz) := by
  refine wr_ofF (Qc := fun A => (va_Qr (fun (u : Unit) => True) (wBr D (fun _ q => [(a, .inl (E.1, n, .inr (.inl f))), (q, .inl (E.1, n2, .inr (.inl (va_cpy f (fun _ => 0) 0 0 n))))]) A) A)) (by decide) (Nat.le_of_ble_eq_true rfl) ?_
  intro p e s m below meth c B hP hK A hA hD hS ls hl
  obtain ⟨hx, hb, hrt, hml, hown, hts, hG, hlocks, hin⟩ := B
  have hl : lv_has ls 3 [(0, .ref a), (1, .int (nI n2))] := hl
  refine lv_iload_n hx hb d_Y_copyOf_aJI_0 rfl (lv_at hl 1 rfl) ?_
  refine lv_aload_n hx hb d_Y_copyOf_aJI_1 rfl (lv_at hl 0 rfl) ?_
  refine va_alen (v := nI n) hx hb hK.1 hP 0 0 rfl rfl rfl d_Y_copyOf_aJI_2 ?_
  refine lv_icmp_ne (tgt := 14) hx hb d_Y_copyOf_aJI_3 (by decide) (fun c1 => ?_) (fun c1 => ?_)
  · refine lv_iload_n hx hb d_Y_copyOf_aJI_14 rfl (lv_at hl 1 rfl) ?_
    refine va_newa (atype := .long) (a0 := (n2, .inr (.inl (fun _ => 0)))) (ty := .long) hx hb (hG _ wd_107) rfl hK.1 hP hD hS hA (fun _ => rfl) (nI_pos (by omega)) (nI_clamp (by omega)) (by show n2 * 8 ≤ _; omega) (Nat.le_of_ble_eq_true rfl) (by show 0 + n2 ≤ n2; omega) d_Y_copyOf_aJI_15 (fun q cA H hK2 hP hD hS => ?_)
    obtain rfl : E.1 = cA := ty_eq hK2 0 4 rfl rfl
    have hP : va_P D vwC [(a, .inl (E.1, n, .inr (.inl f))), (q, .inl (E.1, n2, .inr (.inl (fun _ => 0))))] H := hP
    have hD : va_D A [(a, .inl (E.1, n, .inr (.inl f))), (q, .inl (E.1, n2, .inr (.inl (fun _ => 0))))] := hD
    refine W.widen (k := 1) (n := n2) (by omega) (by omega) ?_
    refine lv_astore_n (lv' := [(2, .ref q), (0, .ref a), (1, .int (nI n2))]) hx hb d_Y_copyOf_aJI_17 rfl hl (by decide) rfl (fun ls hl => ?_)
    refine lv_aload_n hx hb d_Y_copyOf_aJI_18 rfl (lv_at hl 1 rfl) ?_
    refine lv_iconst (v := 0) hx hb d_Y_copyOf_aJI_19 (by decide) ?_
    refine lv_aload_n hx hb d_Y_copyOf_aJI_20 rfl (lv_at hl 0 rfl) ?_
    refine lv_iconst (v := 0) hx hb d_Y_copyOf_aJI_21 (by decide) ?_
    refine lv_aload_n hx hb d_Y_copyOf_aJI_22 rfl (lv_at hl 1 rfl) ?_
    refine va_alen (v := nI n) hx hb hK.1 hP 0 0 rfl rfl rfl d_Y_copyOf_aJI_23 ?_
    refine lv_iload_n hx hb d_Y_copyOf_aJI_24 rfl (lv_at hl 2 rfl) ?_
    refine va_mmin hx hb (hml.trans hl.1.symm) hown (hG _ wd_349) (hG _ wd_350) (hG _ wd_49) (hG _ wd_351) (Nat.le_of_ble_eq_true rfl) (Nat.le_of_ble_eq_true rfl) (Nat.le_of_ble_eq_true rfl) (Nat.le_refl n2) d_Y_copyOf_aJI_25 ?_
    rw [show (if nI n2 < (nI n) then nI n2 else (nI n)) = nI n from (nI_min (by omega) (by omega)).trans (by rw [Nat.min_eq_left (by omega)])]
    refine va_copyl hx hb (hml.trans hl.1.symm) hown (hG _ wd_352) (hG _ wd_354) (hG _ wd_353) (hG _ wd_52) hK.1 hP hD hS 0 1 0 0 rfl rfl rfl rfl rfl (by decide) (by decide) (nI_pos (by omega)) (by rw [nI_clamp (by omega)]; exact Nat.le_of_eq (Nat.zero_add n)) (by rw [nI_clamp (by omega)]; exact (Nat.zero_add n).symm ▸ (Nat.le_of_lt h1)) (fun _ _ => rfl) (Nat.le_of_ble_eq_true rfl) (Nat.le_of_ble_eq_true rfl) d_Y_copyOf_aJI_28 (fun H locs hP hD hS => ?_)
    rw [nI_clamp (by omega)] at hP hD
    have hP : va_P D vwC [(a, .inl (E.1, n, .inr (.inl f))), (q, .inl (E.1, n2, .inr (.inl (va_cpy f (fun _ => 0) 0 0 n))))] H := hP
    have hD : va_D A [(a, .inl (E.1, n, .inr (.inl f))), (q, .inl (E.1, n2, .inr (.inl (va_cpy f (fun _ => 0) 0 0 n))))] := hD
    refine lv_aload_n hx hb d_Y_copyOf_aJI_31 rfl (lv_at hl 0 rfl) ?_
    exact W.aret (v := .ref q) hx hb hrt (Or.inr ⟨_, rfl⟩) (Or.inr ⟨_, rfl⟩) (fun t ht hW => ⟨⟨(), q, rfl, trivial, ⟨by rw [ht]; exact hP, hD⟩⟩, hS.F ht⟩) hS.2.2 d_Y_copyOf_aJI_32 hlocks
  · exact absurd ((nI_eq (by omega) (by omega)).mp c1) (by omega)
set_option maxHeartbeats 4000000 in
set_option maxRecDepth 100000 in
theorem k_R_init (l : Launch) (D : va_G) (E : ClassId × ClassId × ClassId × ClassId) (h0 sz : Nat) (most : Int32) : Met l y_R_init (.code y_R_init c_R_init 2 none :: gw) ({ frames := 1, cells := 1, slots := 16, locals := 12 } : Room) (wP D E [(h0, .inr (0, [.int 0, .null, .int 0]))] sz [.ref h0, .int most]) (va_Qv (fun (u : Nat) => True) (wB D (fun q => [(h0, .inr (0, [.int most, .ref q, .int 0])), (q, .inl (E.1, 16, .inr (.inl (fun _ => 0))))]) (va_A [(h0, .inr (0, [.int 0, .null, .int 0]))] sz)) (va_A [(h0, .inr (0, [.int 0, .null, .int 0]))] sz)) 1 16 (va_A [(h0, .inr (0, [.int 0, .null, .int 0]))] sz) := by
  refine wr_ofW (Qc := fun A => (va_Qv (fun (u : Nat) => True) (wB D (fun q => [(h0, .inr (0, [.int most, .ref q, .int 0])), (q, .inl (E.1, 16, .inr (.inl (fun _ => 0))))]) A) A)) (by decide) (Nat.le_of_ble_eq_true rfl) ?_
  intro p e s m below meth c B hP hK A hA hD hS ls hl
  obtain ⟨hx, hb, hrt, hml, hown, hts, hG, hlocks, hin⟩ := B
  have hl : lv_has ls 2 [(0, .ref h0), (1, .int most)] := hl
  refine lv_aload_n hx hb d_R_init_0 rfl (lv_at hl 0 rfl) ?_
  refine W.objInit hx hb hown (hG _ wd_96) (hG _ wd_63) (hG _ wd_64) rfl (by rw [hml]; exact hl.1) rfl d_R_init_1 (Nat.le_of_ble_eq_true rfl) (Nat.le_of_ble_eq_true rfl) ?_
  refine W.eq (g2 := F0 m 4 ls []) rfl ?_
  refine lv_aload_n hx hb d_R_init_4 rfl (lv_at hl 0 rfl) ?_
  refine lv_iload_n hx hb d_R_init_5 rfl (lv_at hl 1 rfl) ?_
  refine va_putF (D := D) (ci := 0) (v := .int most) (ty := .int) (C := K_R) (T := F_R) (N := 3) hx hb hG in_R t_R t_R_ok n_R hown hK.1 hP hD hS 0 rfl rfl 0 (by decide) (hG _ wd_97) (fun _ h9 => h9) rfl hin rfl (by decide +kernel) rfl rfl (Nat.le_of_ble_eq_true rfl) d_R_init_6 (fun H locs hP hD hS => ?_)
  have hP : va_P D vwC [(h0, .inr (0, [.int most, .null, .int 0]))] H := hP
  have hD : va_D A [(h0, .inr (0, [.int most, .null, .int 0]))] := hD
  refine lv_aload_n hx hb d_R_init_9 rfl (lv_at hl 0 rfl) ?_
  refine lv_bipush (v := 16) hx hb d_R_init_10 (by decide) ?_
  refine va_newa (atype := .long) (a0 := (16, .inr (.inl (fun _ => 0)))) (ty := .long) hx hb (hG _ wd_107) rfl hK.1 hP hD hS hA (fun _ => rfl) (by decide) (by decide) (by decide) (Nat.le_of_ble_eq_true rfl) (Nat.le_of_ble_eq_true rfl) d_R_init_12 (fun q cA H hK2 hP hD hS => ?_)
  obtain rfl : E.1 = cA := ty_eq hK2 0 4 rfl rfl
  have hP : va_P D vwC [(h0, .inr (0, [.int most, .null, .int 0])), (q, .inl (E.1, 16, .inr (.inl (fun _ => 0))))] H := hP
  have hD : va_D A [(h0, .inr (0, [.int most, .null, .int 0])), (q, .inl (E.1, 16, .inr (.inl (fun _ => 0))))] := hD
  refine W.widen (k := 1) (n := 16) (by decide) (by decide) ?_
  refine va_put (D := D) (ci := 0) (v := .ref q) (ty := .array .long) (C := K_R) (T := F_R) (N := 3) hx hb hG in_R t_R t_R_ok n_R hown hK.1 hP hD hS 0 rfl rfl 1 (by decide) (hG _ wd_98) (fun _ h9 => h9) rfl (by decide +kernel) rfl rfl (Nat.le_of_ble_eq_true rfl) d_R_init_14 (fun H locs hP hD hS => ?_)
  have hP : va_P D vwC [(h0, .inr (0, [.int most, .ref q, .int 0])), (q, .inl (E.1, 16, .inr (.inl (fun _ => 0))))] H := hP
  have hD : va_D A [(h0, .inr (0, [.int most, .ref q, .int 0])), (q, .inl (E.1, 16, .inr (.inl (fun _ => 0))))] := hD
  refine lv_aload_n hx hb d_R_init_17 rfl (lv_at hl 0 rfl) ?_
  refine lv_iconst (v := 0) hx hb d_R_init_18 (by decide) ?_
  refine va_put (D := D) (ci := 0) (v := .int 0) (ty := .int) (C := K_R) (T := F_R) (N := 3) hx hb hG in_R t_R t_R_ok n_R hown hK.1 hP hD hS 0 rfl rfl 2 (by decide) (hG _ wd_99) (fun _ h9 => h9) rfl (by decide +kernel) rfl rfl (Nat.le_of_ble_eq_true rfl) d_R_init_19 (fun H locs hP hD hS => ?_)
  have hP : va_P D vwC [(h0, .inr (0, [.int most, .ref q, .int 0])), (q, .inl (E.1, 16, .inr (.inl (fun _ => 0))))] H := hP
  have hD : va_D A [(h0, .inr (0, [.int most, .ref q, .int 0])), (q, .inl (E.1, 16, .inr (.inl (fun _ => 0))))] := hD
  exact W.vret hx hb hrt (fun t ht hW => ⟨⟨q, rfl, trivial, ⟨by rw [ht]; exact hP, hD⟩⟩, hS.F ht⟩) hS.2.2 d_R_init_22 hlocks
/-- a row's room: its length, its numbers, how many -/
abbrev RS : Type := Nat × (Nat → Int64) × Nat
def ra_c (z n : Nat) : Nat := if z < n then 0 else 1
def ra_s (z n m : Nat) : Nat := if z < n then 0 else min m (2 * n)
def ra_n (z n m : Nat) : Nat := if z < n then n else min m (2 * n)
def ra_f (f : Nat → Int64) (z n : Nat) (x : Int64) : Nat → Int64 := vp_updL (if z < n then f else va_cpy f (fun _ => 0) 0 0 n) z x
def rs_add (m : Nat) (s : RS) (x : Int64) : RS := if m ≤ s.2.2 then s else (ra_n s.2.2 s.1 m, ra_f s.2.1 s.2.2 s.1 x, s.2.2 + 1)
set_option maxHeartbeats 4000000 in
set_option maxRecDepth 100000 in
theorem k_R_add1 (l : Launch) (D : va_G) (E : ClassId × ClassId × ClassId × ClassId) (h0 a sz m0 z n : Nat) (f : Nat → Int64) (x : Int64) (hz : z < n) (hn : n ≤ m0) (hm : m0 < 2 ^ 26) : Met l y_R_add (.code y_R_add c_R_add 3 (some .boolean) :: gw) ({ frames := 2, cells := 0, slots := 0, locals := 80 } : Room) (wP D E [(h0, .inr (0, [.int (nI m0), .ref a, .int (nI z)])), (a, .inl (E.1, n, .inr (.inl f)))] sz [.ref h0, .long x]) (va_Qi (fun (r : Int32) (u : Nat) => r = 1) (wB D (fun u => [(h0, .inr (0, [.int (nI m0), .ref u, .int (nI (z + 1))])), (u, .inl (E.1, n, .inr (.inl (vp_updL f z x))))]) (va_A [(h0, .inr (0, [.int (nI m0), .ref a, .int (nI z)])), (a, .inl (E.1, n, .inr (.inl f)))] sz)) (va_A [(h0, .inr (0, [.int (nI m0), .ref a, .int (nI z)])), (a, .inl (E.1, n, .inr (.inl f)))] sz)) 0 0 (va_A [(h0, .inr (0, [.int (nI m0), .ref a, .int (nI z)])), (a, .inl (E.1, n, .inr (.inl f)))] sz) := by
  refine wr_ofW (Qc := fun A => (va_Qi (fun (r : Int32) (u : Nat) => r = 1) (wB D (fun u => [(h0, .inr (0, [.int (nI m0), .ref u, .int (nI (z + 1))])), (u, .inl (E.1, n, .inr (.inl (vp_updL f z x))))]) A) A)) (by decide) (Nat.le_of_ble_eq_true rfl) ?_
  intro p e s m below meth c B hP hK A hA hD hS ls hl
  obtain ⟨hx, hb, hrt, hml, hown, hts, hG, hlocks, hin⟩ := B
  have hl : lv_has ls 3 [(0, .ref h0), (1, .long x)] := hl
  refine lv_aload_n hx hb d_R_add_0 rfl (lv_at hl 0 rfl) ?_
  have hPc := hP.sub (ws' := [(h0, .inr (0, [.int (nI m0), .ref a, .int (nI z)]))]) [0] rfl
  refine vp_callSi (W.runV (As := []) (rest := []) ⟨hx, hb, hml, hown, hts⟩ (k_R_isFull l D E h0 a (nI m0) (nI z)) (cwV 0 hts (gw_gv wd_419 wd_396 wd_397 wd_41 wd_398) rfl rfl rfl (by decide +kernel) ⟨Nat.le_of_ble_eq_true rfl, Nat.le_of_ble_eq_true rfl⟩) (rP_V 0 hPc hK rfl rfl) rfl rfl hl.1 rfl (lv_room (Nat.le_of_ble_eq_true rfl)) d_R_add_1 ⟨Nat.le_of_ble_eq_true rfl, Nat.le_of_ble_eq_true rfl⟩) (fun r1 hr1 => ?_)
  rw [if_pos (nI_lt (by omega) (by omega))] at hr1
  subst hr1
  refine lv_if_eq (tgt := 9) hx hb d_R_add_4 (by decide) (fun c1 => ?_) (fun c1 => ?_)
  · refine lv_aload_n hx hb d_R_add_9 rfl (lv_at hl 0 rfl) ?_
    refine va_get (D := D) (ci := 0) (v := .int (nI z)) (C := K_R) (T := F_R) (N := 3) hx hb hG in_R hown hK.1 hP 0 rfl rfl 2 (by decide) (hG _ wd_99) (fun _ h9 => h9) rfl d_R_add_10 ?_
    refine lv_aload_n hx hb d_R_add_13 rfl (lv_at hl 0 rfl) ?_
    refine va_get (D := D) (ci := 0) (v := .ref a) (C := K_R) (T := F_R) (N := 3) hx hb hG in_R hown hK.1 hP 0 rfl rfl 1 (by decide) (hG _ wd_98) (fun _ h9 => h9) rfl d_R_add_14 ?_
    refine va_alen (v := nI n) hx hb hK.1 hP 1 0 rfl rfl rfl d_R_add_17 ?_
    refine lv_icmp_lt (tgt := 46) hx hb d_R_add_18 (by decide) (fun c2 => ?_) (fun c2 => ?_)
    · refine lv_aload_n hx hb d_R_add_46 rfl (lv_at hl 0 rfl) ?_
      refine va_get (D := D) (ci := 0) (v := .ref a) (C := K_R) (T := F_R) (N := 3) hx hb hG in_R hown hK.1 hP 0 rfl rfl 1 (by decide) (hG _ wd_98) (fun _ h9 => h9) rfl d_R_add_47 ?_
      refine lv_aload_n hx hb d_R_add_50 rfl (lv_at hl 0 rfl) ?_
      refine va_get (D := D) (ci := 0) (v := .int (nI z)) (C := K_R) (T := F_R) (N := 3) hx hb hG in_R hown hK.1 hP 0 rfl rfl 2 (by decide) (hG _ wd_99) (fun _ h9 => h9) rfl d_R_add_51 ?_
      refine lv_lload_n hx hb d_R_add_54 rfl (lv_at hl 1 rfl) ?_
      refine va_last hx hb hK.1 hP hD hS 1 0 rfl rfl (vp_in_nI (by omega) (by omega)) d_R_add_55 (fun H locs hP hD hS => ?_)
      rw [show vp_updL f (Int32.toNatClampNeg (nI z)) x = (vp_updL f z x) from by rw [nI_clamp (by omega)]] at hP hD
      have hP : va_P D vwC [(h0, .inr (0, [.int (nI m0), .ref a, .int (nI z)])), (a, .inl (E.1, n, .inr (.inl (vp_updL f z x))))] H := hP
      have hD : va_D A [(h0, .inr (0, [.int (nI m0), .ref a, .int (nI z)])), (a, .inl (E.1, n, .inr (.inl (vp_updL f z x))))] := hD
      refine lv_aload_n hx hb d_R_add_56 rfl (lv_at hl 0 rfl) ?_
      refine lv_dup hx hb d_R_add_57 rfl ?_
      refine va_get (D := D) (ci := 0) (v := .int (nI z)) (C := K_R) (T := F_R) (N := 3) hx hb hG in_R hown hK.1 hP 0 rfl rfl 2 (by decide) (hG _ wd_99) (fun _ h9 => h9) rfl d_R_add_58 ?_
      refine lv_iconst (v := 1) hx hb d_R_add_61 (by decide) ?_
      refine lv_iadd hx hb d_R_add_62 ?_
      rw [show (nI z + 1) = nI (z + 1) from nI_1 _]
      refine va_put (D := D) (ci := 0) (v := .int (nI (z + 1))) (ty := .int) (C := K_R) (T := F_R) (N := 3) hx hb hG in_R t_R t_R_ok n_R hown hK.1 hP hD hS 0 rfl rfl 2 (by decide) (hG _ wd_99) (fun _ h9 => h9) rfl (by decide +kernel) rfl rfl (Nat.le_of_ble_eq_true rfl) d_R_add_63 (fun H locs hP hD hS => ?_)
      have hP : va_P D vwC [(h0, .inr (0, [.int (nI m0), .ref a, .int (nI (z + 1))])), (a, .inl (E.1, n, .inr (.inl (vp_updL f z x))))] H := hP
      have hD : va_D A [(h0, .inr (0, [.int (nI m0), .ref a, .int (nI (z + 1))])), (a, .inl (E.1, n, .inr (.inl (vp_updL f z x))))] := hD
      refine lv_iconst (v := 1) hx hb d_R_add_66 (by decide) ?_
      exact W.zret (v := 1) (ty := .boolean) hx hb hrt rfl (fun t ht hW => ⟨⟨1, a, rfl, rfl, ⟨by rw [ht]; exact hP, hD⟩⟩, hS.F ht⟩) hS.2.2 d_R_add_67 hlocks
    · exact absurd (nI_lt hz (by omega)) c2
  · exact absurd rfl c1
set_option maxHeartbeats 4000000 in
set_option maxRecDepth 100000 in
theorem k_R_add2 (l : Launch) (D : va_G) (E : ClassId × ClassId × ClassId × ClassId) (h0 a sz m0 n : Nat) (f : Nat → Int64) (x : Int64) (h0n : 0 < n) (hn : n < m0) (hm : m0 < 2 ^ 26) : Met l y_R_add (.code y_R_add c_R_add 3 (some .boolean) :: gw) ({ frames := 2, cells := 1, slots := (min m0 (2 * n)), locals := 80 } : Room) (wP D E [(h0, .inr (0, [.int (nI m0), .ref a, .int (nI n)])), (a, .inl (E.1, n, .inr (.inl f)))] sz [.ref h0, .long x]) (va_Qi (fun (r : Int32) (u : Nat) => r = 1) (wB D (fun u => [(h0, .inr (0, [.int (nI m0), .ref u, .int (nI (n + 1))])), (u, .inl (E.1, (min m0 (2 * n)), .inr (.inl (vp_updL (va_cpy f (fun _ => 0) 0 0 n) n x))))]) (va_A [(h0, .inr (0, [.int (nI m0), .ref a, .int (nI n)])), (a, .inl (E.1, n, .inr (.inl f)))] sz)) (va_A [(h0, .inr (0, [.int (nI m0), .ref a, .int (nI n)])), (a, .inl (E.1, n, .inr (.inl f)))] sz)) 1 (min m0 (2 * n)) (va_A [(h0, .inr (0, [.int (nI m0), .ref a, .int (nI n)])), (a, .inl (E.1, n, .inr (.inl f)))] sz) := by
  refine wr_ofW (Qc := fun A => (va_Qi (fun (r : Int32) (u : Nat) => r = 1) (wB D (fun u => [(h0, .inr (0, [.int (nI m0), .ref u, .int (nI (n + 1))])), (u, .inl (E.1, (min m0 (2 * n)), .inr (.inl (vp_updL (va_cpy f (fun _ => 0) 0 0 n) n x))))]) A) A)) (by decide) (Nat.le_of_ble_eq_true rfl) ?_
  intro p e s m below meth c B hP hK A hA hD hS ls hl
  obtain ⟨hx, hb, hrt, hml, hown, hts, hG, hlocks, hin⟩ := B
  have hl : lv_has ls 3 [(0, .ref h0), (1, .long x)] := hl
  refine lv_aload_n hx hb d_R_add_0 rfl (lv_at hl 0 rfl) ?_
  have hPc := hP.sub (ws' := [(h0, .inr (0, [.int (nI m0), .ref a, .int (nI n)]))]) [0] rfl
  refine vp_callSi (W.runV (As := []) (rest := []) ⟨hx, hb, hml, hown, hts⟩ (k_R_isFull l D E h0 a (nI m0) (nI n)) (cwV 0 hts (gw_gv wd_419 wd_396 wd_397 wd_41 wd_398) rfl rfl rfl (by decide +kernel) ⟨Nat.le_of_ble_eq_true rfl, Nat.le_of_ble_eq_true rfl⟩) (rP_V 0 hPc hK rfl rfl) rfl rfl hl.1 rfl (lv_room (Nat.le_of_ble_eq_true rfl)) d_R_add_1 ⟨Nat.le_of_ble_eq_true rfl, Nat.le_of_ble_eq_true rfl⟩) (fun r1 hr1 => ?_)
  rw [if_pos (nI_lt (by omega) (by omega))] at hr1
  subst hr1
  refine lv_if_eq (tgt := 9) hx hb d_R_add_4 (by decide) (fun c1 => ?_) (fun c1 => ?_)
  · refine lv_aload_n hx hb d_R_add_9 rfl (lv_at hl 0 rfl) ?_
    refine va_get (D := D) (ci := 0) (v := .int (nI n)) (C := K_R) (T := F_R) (N := 3) hx hb hG in_R hown hK.1 hP 0 rfl rfl 2 (by decide) (hG _ wd_99) (fun _ h9 => h9) rfl d_R_add_10 ?_
    refine lv_aload_n hx hb d_R_add_13 rfl (lv_at hl 0 rfl) ?_
    refine va_get (D := D) (ci := 0) (v := .ref a) (C := K_R) (T := F_R) (N := 3) hx hb hG in_R hown hK.1 hP 0 rfl rfl 1 (by decide) (hG _ wd_98) (fun _ h9 => h9) rfl d_R_add_14 ?_
    refine va_alen (v := nI n) hx hb hK.1 hP 1 0 rfl rfl rfl d_R_add_17 ?_
    refine lv_icmp_lt (tgt := 46) hx hb d_R_add_18 (by decide) (fun c2 => ?_) (fun c2 => ?_)
    · exact absurd c2 (nI_nlt (Nat.le_refl n) (by omega))
    · refine lv_aload_n hx hb d_R_add_21 rfl (lv_at hl 0 rfl) ?_
      refine lv_aload_n hx hb d_R_add_22 rfl (lv_at hl 0 rfl) ?_
      refine va_get (D := D) (ci := 0) (v := .ref a) (C := K_R) (T := F_R) (N := 3) hx hb hG in_R hown hK.1 hP 0 rfl rfl 1 (by decide) (hG _ wd_98) (fun _ h9 => h9) rfl d_R_add_23 ?_
      refine lv_aload_n hx hb d_R_add_26 rfl (lv_at hl 0 rfl) ?_
      refine va_get (D := D) (ci := 0) (v := .int (nI m0)) (C := K_R) (T := F_R) (N := 3) hx hb hG in_R hown hK.1 hP 0 rfl rfl 0 (by decide) (hG _ wd_97) (fun _ h9 => h9) rfl d_R_add_27 ?_
      refine lv_iconst (v := 2) hx hb d_R_add_30 (by decide) ?_
      refine lv_aload_n hx hb d_R_add_31 rfl (lv_at hl 0 rfl) ?_
      refine va_get (D := D) (ci := 0) (v := .ref a) (C := K_R) (T := F_R) (N := 3) hx hb hG in_R hown hK.1 hP 0 rfl rfl 1 (by decide) (hG _ wd_98) (fun _ h9 => h9) rfl d_R_add_32 ?_
      refine va_alen (v := nI n) hx hb hK.1 hP 1 0 rfl rfl rfl d_R_add_35 ?_
      refine lv_imul hx hb d_R_add_36 ?_
      rw [show (2 * (nI n)) = nI (2 * n) from pk_mul 2 n]
      refine va_mmin hx hb (hml.trans hl.1.symm) hown (hG _ wd_420) (hG _ wd_350) (hG _ wd_49) (hG _ wd_351) (Nat.le_of_ble_eq_true rfl) (Nat.le_of_ble_eq_true rfl) (Nat.zero_le _) (Nat.zero_le _) d_R_add_37 ?_
      rw [show (if nI (2 * n) < nI m0 then nI (2 * n) else nI m0) = nI (min m0 (2 * n)) from nI_min (by omega) (by omega)]
      have hPc := hP.sub (ws' := [(a, .inl (E.1, n, .inr (.inl f)))]) [1] rfl
      have hDc := hD.sub (ws' := [(a, .inl (E.1, n, .inr (.inl f)))]) [1] (by decide) rfl
      have hFc := va_free (wc := [(a, .inl (E.1, n, .inr (.inl f)))]) hD hS hA [1] rfl
      refine va_callr (va_runS (As := [.ref a, .int (nI (min m0 (2 * n)))]) (rest := [.ref h0]) ⟨hx, hb, hml, hown, hts⟩ (k_Y_copyOf_aJI l D E a s.heap.size n (min m0 (2 * n)) f (by omega) (by omega)) (va_cwS 2 hts (gw_gs wd_421 wd_422 wd_51 wd_423) rfl rfl rfl (by decide +kernel) ⟨Nat.le_of_ble_eq_true rfl, Nat.le_of_ble_eq_true rfl⟩) (wP_S hPc hK hDc) rfl rfl hl.1 rfl (lv_room (Nat.le_of_ble_eq_true rfl)) d_R_add_40 ⟨Nat.le_of_ble_eq_true rfl, Nat.le_of_eq (Nat.zero_add _)⟩) hS (fun q _ h => hFc q h) hFc (fun u q t H1 locs ht hvm hw hB hz1 hk1 hS => ?_)
      obtain ⟨hP1, hD1⟩ := hB
      rw [ht] at hP1
      obtain ⟨hP, hD⟩ := va_join (wr := [(h0, .inr (0, [.int (nI m0), .ref a, .int (nI n)]))]) (w1 := [(a, .inl (E.1, n, .inr (.inl f))), (q, .inl (E.1, (min m0 (2 * n)), .inr (.inl (va_cpy f (fun _ => 0) 0 0 n))))]) hP hD [1] [0] rfl rfl (by decide) (by decide) hk1 hFc hP1 hD1
      generalize H1 = H at hP hS ⊢
      have hP : va_P D vwC [(h0, .inr (0, [.int (nI m0), .ref a, .int (nI n)])), (a, .inl (E.1, n, .inr (.inl f))), (q, .inl (E.1, (min m0 (2 * n)), .inr (.inl (va_cpy f (fun _ => 0) 0 0 n))))] H := hP
      have hD : va_D A [(h0, .inr (0, [.int (nI m0), .ref a, .int (nI n)])), (a, .inl (E.1, n, .inr (.inl f))), (q, .inl (E.1, (min m0 (2 * n)), .inr (.inl (va_cpy f (fun _ => 0) 0 0 n))))] := hD
      refine W.widen (k := 1) (n := (min m0 (2 * n))) (by omega) (by omega) ?_
      refine va_put (D := D) (ci := 0) (v := .ref q) (ty := .array .long) (C := K_R) (T := F_R) (N := 3) hx hb hG in_R t_R t_R_ok n_R hown hK.1 hP hD hS 0 rfl rfl 1 (by decide) (hG _ wd_98) (fun _ h9 => h9) rfl (by decide +kernel) rfl rfl (Nat.le_of_ble_eq_true rfl) d_R_add_43 (fun H locs hP hD hS => ?_)
      have hP : va_P D vwC [(h0, .inr (0, [.int (nI m0), .ref q, .int (nI n)])), (a, .inl (E.1, n, .inr (.inl f))), (q, .inl (E.1, (min m0 (2 * n)), .inr (.inl (va_cpy f (fun _ => 0) 0 0 n))))] H := hP
      have hD : va_D A [(h0, .inr (0, [.int (nI m0), .ref q, .int (nI n)])), (a, .inl (E.1, n, .inr (.inl f))), (q, .inl (E.1, (min m0 (2 * n)), .inr (.inl (va_cpy f (fun _ => 0) 0 0 n))))] := hD
      refine lv_aload_n hx hb d_R_add_46 rfl (lv_at hl 0 rfl) ?_
      refine va_get (D := D) (ci := 0) (v := .ref q) (C := K_R) (T := F_R) (N := 3) hx hb hG in_R hown hK.1 hP 0 rfl rfl 1 (by decide) (hG _ wd_98) (fun _ h9 => h9) rfl d_R_add_47 ?_
      refine lv_aload_n hx hb d_R_add_50 rfl (lv_at hl 0 rfl) ?_
      refine va_get (D := D) (ci := 0) (v := .int (nI n)) (C := K_R) (T := F_R) (N := 3) hx hb hG in_R hown hK.1 hP 0 rfl rfl 2 (by decide) (hG _ wd_99) (fun _ h9 => h9) rfl d_R_add_51 ?_
      refine lv_lload_n hx hb d_R_add_54 rfl (lv_at hl 1 rfl) ?_
      have hP := hP.sub (ws' := [(h0, .inr (0, [.int (nI m0), .ref q, .int (nI n)])), (q, .inl (E.1, (min m0 (2 * n)), .inr (.inl (va_cpy f (fun _ => 0) 0 0 n))))]) [0, 2] rfl
      have hD := hD.sub (ws' := [(h0, .inr (0, [.int (nI m0), .ref q, .int (nI n)])), (q, .inl (E.1, (min m0 (2 * n)), .inr (.inl (va_cpy f (fun _ => 0) 0 0 n))))]) [0, 2] (by decide) rfl
      refine va_last hx hb hK.1 hP hD hS 1 0 rfl rfl (vp_in_nI (by omega) (by omega)) d_R_add_55 (fun H locs hP hD hS => ?_)
      rw [show vp_updL (va_cpy f (fun _ => 0) 0 0 n) (Int32.toNatClampNeg (nI n)) x = (vp_updL (va_cpy f (fun _ => 0) 0 0 n) n x) from by rw [nI_clamp (by omega)]] at hP hD
      have hP : va_P D vwC [(h0, .inr (0, [.int (nI m0), .ref q, .int (nI n)])), (q, .inl (E.1, (min m0 (2 * n)), .inr (.inl (vp_updL (va_cpy f (fun _ => 0) 0 0 n) n x))))] H := hP
      have hD : va_D A [(h0, .inr (0, [.int (nI m0), .ref q, .int (nI n)])), (q, .inl (E.1, (min m0 (2 * n)), .inr (.inl (vp_updL (va_cpy f (fun _ => 0) 0 0 n) n x))))] := hD
      refine lv_aload_n hx hb d_R_add_56 rfl (lv_at hl 0 rfl) ?_
      refine lv_dup hx hb d_R_add_57 rfl ?_
      refine va_get (D := D) (ci := 0) (v := .int (nI n)) (C := K_R) (T := F_R) (N := 3) hx hb hG in_R hown hK.1 hP 0 rfl rfl 2 (by decide) (hG _ wd_99) (fun _ h9 => h9) rfl d_R_add_58 ?_
      refine lv_iconst (v := 1) hx hb d_R_add_61 (by decide) ?_
      refine lv_iadd hx hb d_R_add_62 ?_
      rw [show (nI n + 1) = nI (n + 1) from nI_1 _]
      refine va_put (D := D) (ci := 0) (v := .int (nI (n + 1))) (ty := .int) (C := K_R) (T := F_R) (N := 3) hx hb hG in_R t_R t_R_ok n_R hown hK.1 hP hD hS 0 rfl rfl 2 (by decide) (hG _ wd_99) (fun _ h9 => h9) rfl (by decide +kernel) rfl rfl (Nat.le_of_ble_eq_true rfl) d_R_add_63 (fun H locs hP hD hS => ?_)
      have hP : va_P D vwC [(h0, .inr (0, [.int (nI m0), .ref q, .int (nI (n + 1))])), (q, .inl (E.1, (min m0 (2 * n)), .inr (.inl (vp_updL (va_cpy f (fun _ => 0) 0 0 n) n x))))] H := hP
      have hD : va_D A [(h0, .inr (0, [.int (nI m0), .ref q, .int (nI (n + 1))])), (q, .inl (E.1, (min m0 (2 * n)), .inr (.inl (vp_updL (va_cpy f (fun _ => 0) 0 0 n) n x))))] := hD
      refine lv_iconst (v := 1) hx hb d_R_add_66 (by decide) ?_
      exact W.zret (v := 1) (ty := .boolean) hx hb hrt rfl (fun t ht hW => ⟨⟨1, q, rfl, rfl, ⟨by rw [ht]; exact hP, hD⟩⟩, hS.F ht⟩) hS.2.2 d_R_add_67 hlocks
  · exact absurd rfl c1
set_option maxHeartbeats 4000000 in
set_option maxRecDepth 100000 in
theorem k_R_add3 (l : Launch) (D : va_G) (E : ClassId × ClassId × ClassId × ClassId) (h0 a sz m0 z : Nat) (x : Int64) (hz : m0 ≤ z) (hm : z < 2 ^ 26) : Met l y_R_add (.code y_R_add c_R_add 3 (some .boolean) :: gw) ({ frames := 2, cells := 0, slots := 0, locals := 80 } : Room) (wP D E [(h0, .inr (0, [.int (nI m0), .ref a, .int (nI z)]))] sz [.ref h0, .long x]) (va_Qi (fun (r : Int32) (u : Unit) => r = 0) (wB D (fun _ => [(h0, .inr (0, [.int (nI m0), .ref a, .int (nI z)]))]) (va_A [(h0, .inr (0, [.int (nI m0), .ref a, .int (nI z)]))] sz)) (va_A [(h0, .inr (0, [.int (nI m0), .ref a, .int (nI z)]))] sz)) 0 0 (va_A [(h0, .inr (0, [.int (nI m0), .ref a, .int (nI z)]))] sz) := by
  refine wr_ofW (Qc := fun A => (va_Qi (fun (r : Int32) (u : Unit) => r = 0) (wB D (fun _ => [(h0, .inr (0, [.int (nI m0), .ref a, .int (nI z)]))]) A) A)) (by decide) (Nat.le_of_ble_eq_true rfl) ?_
  intro p e s m below meth c B hP hK A hA hD hS ls hl
  obtain ⟨hx, hb, hrt, hml, hown, hts, hG, hlocks, hin⟩ := B
  have hl : lv_has ls 3 [(0, .ref h0), (1, .long x)] := hl
  refine lv_aload_n hx hb d_R_add_0 rfl (lv_at hl 0 rfl) ?_
  have hPc := hP.sub (ws' := [(h0, .inr (0, [.int (nI m0), .ref a, .int (nI z)]))]) [0] rfl
  refine vp_callSi (W.runV (As := []) (rest := []) ⟨hx, hb, hml, hown, hts⟩ (k_R_isFull l D E h0 a (nI m0) (nI z)) (cwV 0 hts (gw_gv wd_419 wd_396 wd_397 wd_41 wd_398) rfl rfl rfl (by decide +kernel) ⟨Nat.le_of_ble_eq_true rfl, Nat.le_of_ble_eq_true rfl⟩) (rP_V 0 hPc hK rfl rfl) rfl rfl hl.1 rfl (lv_room (Nat.le_of_ble_eq_true rfl)) d_R_add_1 ⟨Nat.le_of_ble_eq_true rfl, Nat.le_of_ble_eq_true rfl⟩) (fun r1 hr1 => ?_)
  rw [if_neg (nI_nlt (by omega) (by omega))] at hr1
  subst hr1
  refine lv_if_eq (tgt := 9) hx hb d_R_add_4 (by decide) (fun c1 => ?_) (fun c1 => ?_)
  · exact absurd c1 (by decide)
  · refine lv_iconst (v := 0) hx hb d_R_add_7 (by decide) ?_
    exact W.zret (v := 0) (ty := .boolean) hx hb hrt rfl (fun t ht hW => ⟨⟨0, (), rfl, rfl, ⟨by rw [ht]; exact hP, hD⟩⟩, hS.F ht⟩) hS.2.2 d_R_add_8 hlocks
theorem k_R_add (l : Launch) (D : va_G) (E : ClassId × ClassId × ClassId × ClassId) (h0 a sz m0 z n : Nat) (f : Nat → Int64) (x : Int64) (h0n : 0 < n) (hz : z ≤ n) (hzm : z < m0) (hn : n ≤ m0) (hm : m0 < 2 ^ 26) : Met l y_R_add (.code y_R_add c_R_add 3 (some .boolean) :: gw) ({ frames := 2, cells := (ra_c z n), slots := (ra_s z n m0), locals := 80 } : Room) (wP D E [(h0, .inr (0, [.int (nI m0), .ref a, .int (nI z)])), (a, .inl (E.1, n, .inr (.inl f)))] sz [.ref h0, .long x]) (va_Qi (fun (r : Int32) (u : Nat) => r = 1) (wB D (fun u => [(h0, .inr (0, [.int (nI m0), .ref u, .int (nI (z + 1))])), (u, .inl (E.1, (ra_n z n m0), .inr (.inl (ra_f f z n x))))]) (va_A [(h0, .inr (0, [.int (nI m0), .ref a, .int (nI z)])), (a, .inl (E.1, n, .inr (.inl f)))] sz)) (va_A [(h0, .inr (0, [.int (nI m0), .ref a, .int (nI z)])), (a, .inl (E.1, n, .inr (.inl f)))] sz)) (ra_c z n) (ra_s z n m0) (va_A [(h0, .inr (0, [.int (nI m0), .ref a, .int (nI z)])), (a, .inl (E.1, n, .inr (.inl f)))] sz) := by
  by_cases hc : z < n
  · simp only [ra_c, ra_s, ra_n, ra_f, if_pos hc]
    exact k_R_add1 l D E h0 a sz m0 z n f x hc hn hm
  · obtain rfl : z = n := by omega
    simp only [ra_c, ra_s, ra_n, ra_f, if_neg hc]
    exact k_R_add2 l D E h0 a sz m0 z f x h0n hzm hm
end
section
theorem d_R_countEqual_0 : decode c_R_countEqual 0 = .ok (.iconst 0, 1) := by decide +kernel
theorem d_R_countEqual_1 : decode c_R_countEqual 1 = .ok (.istore_n 2, 1) := by decide +kernel
theorem d_R_countEqual_2 : decode c_R_countEqual 2 = .ok (.iconst 1, 1) := by decide +kernel
theorem d_R_countEqual_3 : decode c_R_countEqual 3 = .ok (.istore_n 3, 1) := by decide +kernel
theorem d_R_countEqual_4 : decode c_R_countEqual 4 = .ok (.iload_n 3, 1) := by decide +kernel
theorem d_R_countEqual_5 : decode c_R_countEqual 5 = .ok (.aload_n 0, 1) := by decide +kernel
theorem d_R_countEqual_6 : decode c_R_countEqual 6 = .ok (.getfield 19, 3) := by decide +kernel
theorem d_R_countEqual_9 : decode c_R_countEqual 9 = .ok (.if_icmp .gt 44, 3) := by decide +kernel
theorem d_R_countEqual_12 : decode c_R_countEqual 12 = .ok (.iload_n 3, 1) := by decide +kernel
theorem d_R_countEqual_13 : decode c_R_countEqual 13 = .ok (.aload_n 0, 1) := by decide +kernel
theorem d_R_countEqual_14 : decode c_R_countEqual 14 = .ok (.getfield 19, 3) := by decide +kernel
theorem d_R_countEqual_17 : decode c_R_countEqual 17 = .ok (.if_icmp .eq 19, 3) := by decide +kernel
theorem d_R_countEqual_20 : decode c_R_countEqual 20 = .ok (.aload_n 0, 1) := by decide +kernel
theorem d_R_countEqual_21 : decode c_R_countEqual 21 = .ok (.getfield 15, 3) := by decide +kernel
theorem d_R_countEqual_24 : decode c_R_countEqual 24 = .ok (.iload_n 3, 1) := by decide +kernel
theorem d_R_countEqual_25 : decode c_R_countEqual 25 = .ok (.laload, 1) := by decide +kernel
theorem d_R_countEqual_26 : decode c_R_countEqual 26 = .ok (.aload_n 0, 1) := by decide +kernel
theorem d_R_countEqual_27 : decode c_R_countEqual 27 = .ok (.getfield 15, 3) := by decide +kernel
theorem d_R_countEqual_30 : decode c_R_countEqual 30 = .ok (.iload_n 2, 1) := by decide +kernel
theorem d_R_countEqual_31 : decode c_R_countEqual 31 = .ok (.laload, 1) := by decide +kernel
theorem d_R_countEqual_32 : decode c_R_countEqual 32 = .ok (.lcmp, 1) := by decide +kernel
theorem d_R_countEqual_33 : decode c_R_countEqual 33 = .ok (.ifCond .eq 14, 3) := by decide +kernel
theorem d_R_countEqual_36 : decode c_R_countEqual 36 = .ok (.aload_n 1, 1) := by decide +kernel
theorem d_R_countEqual_37 : decode c_R_countEqual 37 = .ok (.iload_n 3, 1) := by decide +kernel
theorem d_R_countEqual_38 : decode c_R_countEqual 38 = .ok (.iload_n 2, 1) := by decide +kernel
theorem d_R_countEqual_39 : decode c_R_countEqual 39 = .ok (.isub, 1) := by decide +kernel
theorem d_R_countEqual_40 : decode c_R_countEqual 40 = .ok (.i2l, 1) := by decide +kernel
theorem d_R_countEqual_41 : decode c_R_countEqual 41 = .ok (.invokevirtual 48, 3) := by decide +kernel
theorem d_R_countEqual_44 : decode c_R_countEqual 44 = .ok (.pop, 1) := by decide +kernel
theorem d_R_countEqual_45 : decode c_R_countEqual 45 = .ok (.iload_n 3, 1) := by decide +kernel
theorem d_R_countEqual_46 : decode c_R_countEqual 46 = .ok (.istore_n 2, 1) := by decide +kernel
theorem d_R_countEqual_47 : decode c_R_countEqual 47 = .ok (.iinc 3 1, 3) := by decide +kernel
theorem d_R_countEqual_50 : decode c_R_countEqual 50 = .ok (.goto (-46), 3) := by decide +kernel
theorem d_R_countEqual_53 : decode c_R_countEqual 53 = .ok (.return_, 1) := by decide +kernel
/-- what a row may still cost -/
def pot (m n : Nat) : Nat := if n < m then 3 * m - 2 * n else 0
def rs_ok (m : Nat) (s : RS) : Prop := 0 < s.1 ∧ s.2.2 ≤ s.1 ∧ s.1 ≤ m
theorem ra_n_le {z n m : Nat} (hz : z ≤ n) (h0 : 0 < n) (hzm : z < m) (hn : n ≤ m) : n ≤ ra_n z n m ∧ ra_n z n m ≤ m ∧ z + 1 ≤ ra_n z n m := by
  unfold ra_n
  split <;> omega
theorem ra_c_le {z n m : Nat} (hz : z ≤ n) (h0 : 0 < n) (hzm : z < m) (hn : n ≤ m) : ra_c z n + n ≤ ra_n z n m := by
  unfold ra_n ra_c
  split <;> omega
theorem ra_s_le {z n m : Nat} (hz : z ≤ n) (h0 : 0 < n) (hzm : z < m) (hn : n ≤ m) : ra_s z n m + pot m (ra_n z n m) ≤ pot m n := by
  unfold ra_n ra_s pot
  split <;> (repeat' split) <;> omega
theorem pot_anti {m n n2 : Nat} (h : n ≤ n2) : pot m n2 ≤ pot m n := by
  unfold pot
  split <;> split <;> omega
theorem rs_add_ok {m : Nat} {s : RS} {x : Int64} (h : rs_ok m s) : rs_ok m (rs_add m s x) ∧ s.1 ≤ (rs_add m s x).1 := by
  obtain ⟨h1, h2, h3⟩ := h
  unfold rs_add
  by_cases c : m ≤ s.2.2
  · rw [if_pos c]
    exact ⟨⟨h1, h2, h3⟩, Nat.le_refl _⟩
  · rw [if_neg c]
    have := ra_n_le h2 h1 (by omega) h3
    exact ⟨⟨by show 0 < ra_n _ _ _; omega, this.2.2, this.2.1⟩, this.1⟩
/-- how often each number of a sorted row is in it, told to another row, as the loop does it -/
def ce_go (m : Nat) (f : Nat → Int64) (z : Nat) : Nat → Nat → Nat → RS → RS
  | 0, _, _, s => s
  | fu + 1, k, b, s => if k ≤ z then (if k = z ∨ f k ≠ f b then ce_go m f z fu (k + 1) k (rs_add m s (lN (k - b))) else ce_go m f z fu (k + 1) b s) else s
theorem ce_go_ok {m : Nat} {f : Nat → Int64} {z : Nat} : ∀ (fu k b : Nat) (s : RS), rs_ok m s → rs_ok m (ce_go m f z fu k b s) ∧ s.1 ≤ (ce_go m f z fu k b s).1 := by
  intro fu
  induction fu with
  | zero => intro k b s h; exact ⟨h, Nat.le_refl _⟩
  | succ fu ih =>
    intro k b s h
    unfold ce_go
    split
    · split
      · have h1 := rs_add_ok (x := lN (k - b)) h
        have h2 := ih (k + 1) k _ h1.1
        exact ⟨h2.1, Nat.le_trans h1.2 h2.2⟩
      · exact ih (k + 1) b s h
    · exact ⟨h, Nat.le_refl _⟩
set_option maxHeartbeats 4000000 in
set_option maxRecDepth 100000 in
theorem k_R_countEqual (l : Launch) (D : va_G) (E : ClassId × ClassId × ClassId × ClassId) (h0 a h1 b sz m0 : Nat) (most : Int32) (z n : Nat) (f : Nat → Int64) (z1 n1 : Nat) (f1 : Nat → Int64) (hz : z ≤ n) (hn : n < 2 ^ 26) (hok : rs_ok m0 (n1, f1, z1)) (hm : m0 < 2 ^ 26) (hzz : z1 + z ≤ m0) : Met l y_R_countEqual (.code y_R_countEqual c_R_countEqual 4 none :: gw) ({ frames := 3, cells := ((ce_go m0 f z (z + 1) 1 0 (n1, f1, z1)).1 - n1), slots := (pot m0 n1 - pot m0 (ce_go m0 f z (z + 1) 1 0 (n1, f1, z1)).1), locals := 110 } : Room) (wP D E [(h0, .inr (0, [.int most, .ref a, .int (nI z)])), (a, .inl (E.1, n, .inr (.inl f))), (h1, .inr (0, [.int (nI m0), .ref b, .int (nI z1)])), (b, .inl (E.1, n1, .inr (.inl f1)))] sz [.ref h0, .ref h1]) (va_Qv (fun (u : Nat) => True) (wB D (fun u => [(h0, .inr (0, [.int most, .ref a, .int (nI z)])), (a, .inl (E.1, n, .inr (.inl f))), (h1, .inr (0, [.int (nI m0), .ref u, .int (nI (ce_go m0 f z (z + 1) 1 0 (n1, f1, z1)).2.2)])), (u, .inl (E.1, (ce_go m0 f z (z + 1) 1 0 (n1, f1, z1)).1, .inr (.inl ((ce_go m0 f z (z + 1) 1 0 (n1, f1, z1)).2.1))))]) (va_A [(h0, .inr (0, [.int most, .ref a, .int (nI z)])), (a, .inl (E.1, n, .inr (.inl f))), (h1, .inr (0, [.int (nI m0), .ref b, .int (nI z1)])), (b, .inl (E.1, n1, .inr (.inl f1)))] sz)) (va_A [(h0, .inr (0, [.int most, .ref a, .int (nI z)])), (a, .inl (E.1, n, .inr (.inl f))), (h1, .inr (0, [.int (nI m0), .ref b, .int (nI z1)])), (b, .inl (E.1, n1, .inr (.inl f1)))] sz)) ((ce_go m0 f z (z + 1) 1 0 (n1, f1, z1)).1 - n1) (pot m0 n1 - pot m0 (ce_go m0 f z (z + 1) 1 0 (n1, f1, z1)).1) (va_A [(h0, .inr (0, [.int most, .ref a, .int (nI z)])), (a, .inl (E.1, n, .inr (.inl f))), (h1, .inr (0, [.int (nI m0), .ref b, .int (nI z1)])), (b, .inl (E.1, n1, .inr (.inl f1)))] sz) := by
  refine wr_ofW (Qc := fun A => (va_Qv (fun (u : Nat) => True) (wB D (fun u => [(h0, .inr (0, [.int most, .ref a, .int (nI z)])), (a, .inl (E.1, n, .inr (.inl f))), (h1, .inr (0, [.int (nI m0), .ref u, .int (nI (ce_go m0 f z (z + 1) 1 0 (n1, f1, z1)).2.2)])), (u, .inl (E.1, (ce_go m0 f z (z + 1) 1 0 (n1, f1, z1)).1, .inr (.inl ((ce_go m0 f z (z + 1) 1 0 (n1, f1, z1)).2.1))))]) A) A)) (by decide) (Nat.le_of_ble_eq_true rfl) ?_
  intro p e s m below meth c B hP hK A hA hD hS ls hl
  obtain ⟨hx, hb, hrt, hml, hown, hts, hG, hlocks, hin⟩ := B
  have hl : lv_has ls 4 [(0, .ref h0), (1, .ref h1)] := hl
  obtain ⟨out, ho⟩ : ∃ o, o = (ce_go m0 f z (z + 1) 1 0 (n1, f1, z1)) := ⟨_, rfl⟩
  rw [← ho]
  refine lv_iconst (v := 0) hx hb d_R_countEqual_0 (by decide) ?_
  refine lv_istore_n (lv' := [(2, .int 0), (0, .ref h0), (1, .ref h1)]) hx hb d_R_countEqual_1 rfl hl (by decide) rfl (fun ls hl => ?_)
  refine lv_iconst (v := 1) hx hb d_R_countEqual_2 (by decide) ?_
  refine lv_istore_n (lv' := [(3, .int 1), (2, .int 0), (0, .ref h0), (1, .ref h1)]) hx hb d_R_countEqual_3 rfl hl (by decide) rfl (fun ls hl => ?_)
  have loop : ∀ (fu : Nat) (k : Nat) (fr : Nat) (zc : Nat) (nc : Nat) (g : Nat → Int64) (bb : Nat) (H : Heap) (locs : List Loc) (ls : Array Slot), (fr < k) → (k ≤ z + 1) → (z + 1 < k + fu) → (ce_go m0 f z fu k fr (nc, g, zc) = out) → (rs_ok m0 (nc, g, zc)) → (n1 ≤ nc) → (zc + 1 ≤ z1 + k) → va_P D vwC [(h0, .inr (0, [.int most, .ref a, .int (nI z)])), (a, .inl (E.1, n, .inr (.inl f))), (h1, .inr (0, [.int (nI m0), .ref bb, .int (nI zc)])), (bb, .inl (E.1, nc, .inr (.inl g)))] H → va_D A [(h0, .inr (0, [.int most, .ref a, .int (nI z)])), (a, .inl (E.1, n, .inr (.inl f))), (h1, .inr (0, [.int (nI m0), .ref bb, .int (nI zc)])), (bb, .inl (E.1, nc, .inr (.inl g)))] → va_S A s.heap H locs → lv_has ls 4 [(0, .ref h0), (1, .ref h1), (2, .int (nI fr)), (3, .int (nI k))] → W p l e ({ frames := 3, cells := (out.1 - n1), slots := (pot m0 n1 - pot m0 out.1), locals := 110 } : Room) s m ([.ref h0, .ref h1] : List Value).toArray below meth c H locs (nc - n1) (pot m0 n1 - pot m0 nc) (MQ below (va_Qv (fun (u : Nat) => True) (wB D (fun u => [(h0, .inr (0, [.int most, .ref a, .int (nI z)])), (a, .inl (E.1, n, .inr (.inl f))), (h1, .inr (0, [.int (nI m0), .ref u, .int (nI out.2.2)])), (u, .inl (E.1, out.1, .inr (.inl out.2.1)))]) A) A) ([.ref h0, .ref h1] : List Value).toArray s (out.1 - n1) (pot m0 n1 - pot m0 out.1) A) (F0 m 4 ls []) := by
    intro fu
    induction fu with
    | zero =>
      intro k fr zc nc g bb H locs ls q1 q2 q3 q4 q5 q6 q7 hP hD hS hl
      omega
    | succ fu ih =>
      intro k fr zc nc g bb H locs ls q1 q2 q3 q4 q5 q6 q7 hP hD hS hl
      have qo := ce_go_ok (f := f) (z := z) (fu + 1) k fr _ q5
      rw [q4] at qo
      have qo1 : nc ≤ out.1 := qo.2
      rw [ce_go] at q4
      refine lv_iload_n hx hb d_R_countEqual_4 rfl (lv_at hl 3 rfl) ?_
      refine lv_aload_n hx hb d_R_countEqual_5 rfl (lv_at hl 0 rfl) ?_
      refine va_get (D := D) (ci := 0) (v := .int (nI z)) (C := K_R) (T := F_R) (N := 3) hx hb hG in_R hown hK.1 hP 0 rfl rfl 2 (by decide) (hG _ wd_99) (fun _ h9 => h9) rfl d_R_countEqual_6 ?_
      refine lv_icmp_gt (tgt := 53) hx hb d_R_countEqual_9 (by decide) (fun c1 => ?_) (fun c1 => ?_)
      · have q : ¬ k ≤ z := by have := (nI_ltI (by omega) (by omega)).mp c1; omega
        rw [if_neg q] at q4
        subst q4
        exact W.vret hx hb hrt (fun t ht hW => ⟨⟨bb, rfl, trivial, ⟨by rw [ht]; exact hP, hD⟩⟩, hS.F ht⟩) hS.2.2 d_R_countEqual_53 hlocks
      · have q : k ≤ z := by rw [nI_ltI (by omega) (by omega)] at c1; omega
        rw [if_pos q] at q4
        refine lv_iload_n hx hb d_R_countEqual_12 rfl (lv_at hl 3 rfl) ?_
        refine lv_aload_n hx hb d_R_countEqual_13 rfl (lv_at hl 0 rfl) ?_
        refine va_get (D := D) (ci := 0) (v := .int (nI z)) (C := K_R) (T := F_R) (N := 3) hx hb hG in_R hown hK.1 hP 0 rfl rfl 2 (by decide) (hG _ wd_99) (fun _ h9 => h9) rfl d_R_countEqual_14 ?_
        refine lv_icmp_eq (tgt := 36) hx hb d_R_countEqual_17 (by decide) (fun c2 => ?_) (fun c2 => ?_)
        · have q8 : k = z := (nI_eq (by omega) (by omega)).mp c2
          rw [if_pos (Or.inl q8)] at q4
          have qz : ¬ m0 ≤ zc := by omega
          obtain ⟨qa, qb, qc⟩ := q5
          dsimp only at qa qb qc
          have e1 : rs_add m0 (nc, g, zc) (lN (k - fr)) = (ra_n zc nc m0, ra_f g zc nc (lN (k - fr)), zc + 1) := if_neg qz
          rw [e1] at q4
          have r1 := ra_n_le (z := zc) (n := nc) (m := m0) qb qa (by omega) qc
          have r2 := ra_c_le (z := zc) (n := nc) (m := m0) qb qa (by omega) qc
          have r3 := ra_s_le (z := zc) (n := nc) (m := m0) qb qa (by omega) qc
          have r4 : ra_n zc nc m0 ≤ out.1 := by have := (ce_go_ok (f := f) (z := z) fu (k + 1) k _ (show rs_ok m0 (ra_n zc nc m0, ra_f g zc nc (lN (k - fr)), zc + 1) from ⟨by show 0 < ra_n _ _ _; omega, r1.2.2, r1.2.1⟩)).2; rw [q4] at this; exact this
          have r5 := pot_anti (m := m0) r4
          have r6 := pot_anti (m := m0) q6
          refine lv_aload_n hx hb d_R_countEqual_36 rfl (lv_at hl 1 rfl) ?_
          refine lv_iload_n hx hb d_R_countEqual_37 rfl (lv_at hl 3 rfl) ?_
          refine lv_iload_n hx hb d_R_countEqual_38 rfl (lv_at hl 2 rfl) ?_
          refine lv_isub hx hb d_R_countEqual_39 ?_
          rw [show (nI k - nI fr) = nI (k - fr) from pk_sub (by omega)]
          refine lv_i2l hx hb d_R_countEqual_40 rfl ?_
          rw [show (Int32.toInt64 (nI (k - fr))) = lN (k - fr) from nI_l (by omega)]
          have hPc := hP.sub (ws' := [(h1, .inr (0, [.int (nI m0), .ref bb, .int (nI zc)])), (bb, .inl (E.1, nc, .inr (.inl g)))]) [2, 3] rfl
          have hDc := hD.sub (ws' := [(h1, .inr (0, [.int (nI m0), .ref bb, .int (nI zc)])), (bb, .inl (E.1, nc, .inr (.inl g)))]) [2, 3] (by decide) rfl
          have hFc := va_free (wc := [(h1, .inr (0, [.int (nI m0), .ref bb, .int (nI zc)])), (bb, .inl (E.1, nc, .inr (.inl g)))]) hD hS hA [2, 3] rfl
          refine va_calli (va_runV (As := [.long (lN (k - fr))]) (rest := []) ⟨hx, hb, hml, hown, hts⟩ (k_R_add l D E h1 bb H.size m0 zc nc g (lN (k - fr)) qa qb (by omega) qc hm) (cwV 1 hts (gw_gv wd_562 wd_416 wd_417 wd_41 wd_418) rfl rfl rfl (by decide +kernel) ⟨Nat.le_of_ble_eq_true rfl, Nat.le_of_ble_eq_true rfl⟩) (wP_V 0 hPc hK hDc rfl rfl) rfl rfl hl.1 rfl (lv_room (Nat.le_of_ble_eq_true rfl)) d_R_countEqual_41 ⟨by show nc - n1 + ra_c zc nc ≤ out.1 - n1; omega, by show pot m0 n1 - pot m0 nc + ra_s zc nc m0 ≤ pot m0 n1 - pot m0 out.1; omega⟩) hS (fun q _ h => hFc q h) hFc (fun r9 u t H1 locs ht hvm hw hB hz1 hk1 hS => ?_)
          obtain ⟨hP1, hD1⟩ := hB
          rw [ht] at hP1
          obtain ⟨hP, hD⟩ := va_join (wr := [(h0, .inr (0, [.int most, .ref a, .int (nI z)])), (a, .inl (E.1, n, .inr (.inl f)))]) (w1 := [(h1, .inr (0, [.int (nI m0), .ref u, .int (nI (zc + 1))])), (u, .inl (E.1, (ra_n zc nc m0), .inr (.inl (ra_f g zc nc (lN (k - fr))))))]) hP hD [2, 3] [0, 1] rfl rfl (by decide) (by decide) hk1 hFc hP1 hD1
          generalize H1 = H at hP hS ⊢
          have hP : va_P D vwC [(h0, .inr (0, [.int most, .ref a, .int (nI z)])), (a, .inl (E.1, n, .inr (.inl f))), (h1, .inr (0, [.int (nI m0), .ref u, .int (nI (zc + 1))])), (u, .inl (E.1, (ra_n zc nc m0), .inr (.inl (ra_f g zc nc (lN (k - fr))))))] H := hP
          have hD : va_D A [(h0, .inr (0, [.int most, .ref a, .int (nI z)])), (a, .inl (E.1, n, .inr (.inl f))), (h1, .inr (0, [.int (nI m0), .ref u, .int (nI (zc + 1))])), (u, .inl (E.1, (ra_n zc nc m0), .inr (.inl (ra_f g zc nc (lN (k - fr))))))] := hD
          refine W.widen (k := (ra_n zc nc m0 - n1)) (n := (pot m0 n1 - pot m0 (ra_n zc nc m0))) (by omega) (by omega) ?_
          refine lv_pop hx hb d_R_countEqual_44 rfl ?_
          refine lv_iload_n hx hb d_R_countEqual_45 rfl (lv_at hl 3 rfl) ?_
          refine lv_istore_n (lv' := [(2, .int (nI k)), (0, .ref h0), (1, .ref h1), (3, .int (nI k))]) hx hb d_R_countEqual_46 rfl hl (by decide) rfl (fun ls hl => ?_)
          refine lv_iinc (v := nI (k + 1)) (lv' := [(3, .int (nI (k + 1))), (2, .int (nI k)), (0, .ref h0), (1, .ref h1)]) hx hb d_R_countEqual_47 hl (k := 3) rfl (iinc_p _) (by decide) rfl (fun ls hl => ?_)
          refine lv_goto (tgt := 4) hx hb d_R_countEqual_50 (by decide) ?_
          exact ih (k + 1) k (zc + 1) (ra_n zc nc m0) _ u H locs ls (by omega) (by omega) (by omega) q4 ⟨by show 0 < ra_n _ _ _; omega, r1.2.2, r1.2.1⟩ (by omega) (by omega) hP hD hS (lv_sub hl [2, 3, 1, 0] rfl)
        · have q8 : ¬ k = z := fun y => c2 (by rw [y])
          refine lv_aload_n hx hb d_R_countEqual_20 rfl (lv_at hl 0 rfl) ?_
          refine va_get (D := D) (ci := 0) (v := .ref a) (C := K_R) (T := F_R) (N := 3) hx hb hG in_R hown hK.1 hP 0 rfl rfl 1 (by decide) (hG _ wd_98) (fun _ h9 => h9) rfl d_R_countEqual_21 ?_
          refine lv_iload_n hx hb d_R_countEqual_24 rfl (lv_at hl 3 rfl) ?_
          refine va_lald hx hb hK.1 hP 1 0 rfl rfl (vp_in_nI (by omega) (by omega)) d_R_countEqual_25 ?_
          rw [show f (Int32.toNatClampNeg (nI k)) = f k from by rw [nI_clamp (by omega)]]
          refine lv_aload_n hx hb d_R_countEqual_26 rfl (lv_at hl 0 rfl) ?_
          refine va_get (D := D) (ci := 0) (v := .ref a) (C := K_R) (T := F_R) (N := 3) hx hb hG in_R hown hK.1 hP 0 rfl rfl 1 (by decide) (hG _ wd_98) (fun _ h9 => h9) rfl d_R_countEqual_27 ?_
          refine lv_iload_n hx hb d_R_countEqual_30 rfl (lv_at hl 2 rfl) ?_
          refine va_lald hx hb hK.1 hP 1 0 rfl rfl (vp_in_nI (by omega) (by omega)) d_R_countEqual_31 ?_
          rw [show f (Int32.toNatClampNeg (nI fr)) = f fr from by rw [nI_clamp (by omega)]]
          refine W.lcmp hx hb d_R_countEqual_32 ?_
          refine lv_if_eq (tgt := 47) hx hb d_R_countEqual_33 (by decide) (fun c3 => ?_) (fun c3 => ?_)
          · rw [if_neg (fun y => y.elim q8 (fun w => w (lg_eq.mp c3)))] at q4
            refine lv_iinc (v := nI (k + 1)) (lv' := [(3, .int (nI (k + 1))), (0, .ref h0), (1, .ref h1), (2, .int (nI fr))]) hx hb d_R_countEqual_47 hl (k := 3) rfl (iinc_p _) (by decide) rfl (fun ls hl => ?_)
            refine lv_goto (tgt := 4) hx hb d_R_countEqual_50 (by decide) ?_
            exact ih (k + 1) fr zc nc g bb H locs ls (by omega) (by omega) (by omega) q4 q5 q6 (by omega) hP hD hS (lv_sub hl [1, 2, 3, 0] rfl)
          · rw [if_pos (Or.inr (fun y => c3 (lg_eq.mpr y)))] at q4
            have qz : ¬ m0 ≤ zc := by omega
            obtain ⟨qa, qb, qc⟩ := q5
            dsimp only at qa qb qc
            have e1 : rs_add m0 (nc, g, zc) (lN (k - fr)) = (ra_n zc nc m0, ra_f g zc nc (lN (k - fr)), zc + 1) := if_neg qz
            rw [e1] at q4
            have r1 := ra_n_le (z := zc) (n := nc) (m := m0) qb qa (by omega) qc
            have r2 := ra_c_le (z := zc) (n := nc) (m := m0) qb qa (by omega) qc
            have r3 := ra_s_le (z := zc) (n := nc) (m := m0) qb qa (by omega) qc
            have r4 : ra_n zc nc m0 ≤ out.1 := by have := (ce_go_ok (f := f) (z := z) fu (k + 1) k _ (show rs_ok m0 (ra_n zc nc m0, ra_f g zc nc (lN (k - fr)), zc + 1) from ⟨by show 0 < ra_n _ _ _; omega, r1.2.2, r1.2.1⟩)).2; rw [q4] at this; exact this
            have r5 := pot_anti (m := m0) r4
            have r6 := pot_anti (m := m0) q6
            refine lv_aload_n hx hb d_R_countEqual_36 rfl (lv_at hl 1 rfl) ?_
            refine lv_iload_n hx hb d_R_countEqual_37 rfl (lv_at hl 3 rfl) ?_
            refine lv_iload_n hx hb d_R_countEqual_38 rfl (lv_at hl 2 rfl) ?_
            refine lv_isub hx hb d_R_countEqual_39 ?_
            rw [show (nI k - nI fr) = nI (k - fr) from pk_sub (by omega)]
            refine lv_i2l hx hb d_R_countEqual_40 rfl ?_
            rw [show (Int32.toInt64 (nI (k - fr))) = lN (k - fr) from nI_l (by omega)]
            have hPc := hP.sub (ws' := [(h1, .inr (0, [.int (nI m0), .ref bb, .int (nI zc)])), (bb, .inl (E.1, nc, .inr (.inl g)))]) [2, 3] rfl
            have hDc := hD.sub (ws' := [(h1, .inr (0, [.int (nI m0), .ref bb, .int (nI zc)])), (bb, .inl (E.1, nc, .inr (.inl g)))]) [2, 3] (by decide) rfl
            have hFc := va_free (wc := [(h1, .inr (0, [.int (nI m0), .ref bb, .int (nI zc)])), (bb, .inl (E.1, nc, .inr (.inl g)))]) hD hS hA [2, 3] rfl
            refine va_calli (va_runV (As := [.long (lN (k - fr))]) (rest := []) ⟨hx, hb, hml, hown, hts⟩ (k_R_add l D E h1 bb H.size m0 zc nc g (lN (k - fr)) qa qb (by omega) qc hm) (cwV 1 hts (gw_gv wd_562 wd_416 wd_417 wd_41 wd_418) rfl rfl rfl (by decide +kernel) ⟨Nat.le_of_ble_eq_true rfl, Nat.le_of_ble_eq_true rfl⟩) (wP_V 0 hPc hK hDc rfl rfl) rfl rfl hl.1 rfl (lv_room (Nat.le_of_ble_eq_true rfl)) d_R_countEqual_41 ⟨by show nc - n1 + ra_c zc nc ≤ out.1 - n1; omega, by show pot m0 n1 - pot m0 nc + ra_s zc nc m0 ≤ pot m0 n1 - pot m0 out.1; omega⟩) hS (fun q _ h => hFc q h) hFc (fun r9 u t H1 locs ht hvm hw hB hz1 hk1 hS => ?_)
            obtain ⟨hP1, hD1⟩ := hB
            rw [ht] at hP1
            obtain ⟨hP, hD⟩ := va_join (wr := [(h0, .inr (0, [.int most, .ref a, .int (nI z)])), (a, .inl (E.1, n, .inr (.inl f)))]) (w1 := [(h1, .inr (0, [.int (nI m0), .ref u, .int (nI (zc + 1))])), (u, .inl (E.1, (ra_n zc nc m0), .inr (.inl (ra_f g zc nc (lN (k - fr))))))]) hP hD [2, 3] [0, 1] rfl rfl (by decide) (by decide) hk1 hFc hP1 hD1
            generalize H1 = H at hP hS ⊢
            have hP : va_P D vwC [(h0, .inr (0, [.int most, .ref a, .int (nI z)])), (a, .inl (E.1, n, .inr (.inl f))), (h1, .inr (0, [.int (nI m0), .ref u, .int (nI (zc + 1))])), (u, .inl (E.1, (ra_n zc nc m0), .inr (.inl (ra_f g zc nc (lN (k - fr))))))] H := hP
            have hD : va_D A [(h0, .inr (0, [.int most, .ref a, .int (nI z)])), (a, .inl (E.1, n, .inr (.inl f))), (h1, .inr (0, [.int (nI m0), .ref u, .int (nI (zc + 1))])), (u, .inl (E.1, (ra_n zc nc m0), .inr (.inl (ra_f g zc nc (lN (k - fr))))))] := hD
            refine W.widen (k := (ra_n zc nc m0 - n1)) (n := (pot m0 n1 - pot m0 (ra_n zc nc m0))) (by omega) (by omega) ?_
            refine lv_pop hx hb d_R_countEqual_44 rfl ?_
            refine lv_iload_n hx hb d_R_countEqual_45 rfl (lv_at hl 3 rfl) ?_
            refine lv_istore_n (lv' := [(2, .int (nI k)), (0, .ref h0), (1, .ref h1), (3, .int (nI k))]) hx hb d_R_countEqual_46 rfl hl (by decide) rfl (fun ls hl => ?_)
            refine lv_iinc (v := nI (k + 1)) (lv' := [(3, .int (nI (k + 1))), (2, .int (nI k)), (0, .ref h0), (1, .ref h1)]) hx hb d_R_countEqual_47 hl (k := 3) rfl (iinc_p _) (by decide) rfl (fun ls hl => ?_)
            refine lv_goto (tgt := 4) hx hb d_R_countEqual_50 (by decide) ?_
            exact ih (k + 1) k (zc + 1) (ra_n zc nc m0) _ u H locs ls (by omega) (by omega) (by omega) q4 ⟨by show 0 < ra_n _ _ _; omega, r1.2.2, r1.2.1⟩ (by omega) (by omega) hP hD hS (lv_sub hl [2, 3, 1, 0] rfl)
  refine W.widen (k := n1 - n1) (n := pot m0 n1 - pot m0 n1) (by omega) (by omega) ?_
  exact loop (z + 1) 1 0 z1 n1 f1 b _ _ ls (by omega) (by omega) (by omega) ho.symm hok (Nat.le_refl _) (by omega) hP hD hS (lv_sub hl [2, 3, 1, 0] rfl)
end
section
theorem d_P_keyOf_0 : decode c_P_keyOf 0 = .ok (.lload_n 0, 1) := by decide +kernel
theorem d_P_keyOf_1 : decode c_P_keyOf 1 = .ok (.ldc2_w 153, 3) := by decide +kernel
theorem d_P_keyOf_4 : decode c_P_keyOf 4 = .ok (.ladd, 1) := by decide +kernel
theorem d_P_keyOf_5 : decode c_P_keyOf 5 = .ok (.bipush 30, 2) := by decide +kernel
theorem d_P_keyOf_7 : decode c_P_keyOf 7 = .ok (.lshl, 1) := by decide +kernel
theorem d_P_keyOf_8 : decode c_P_keyOf 8 = .ok (.lload_n 2, 1) := by decide +kernel
theorem d_P_keyOf_9 : decode c_P_keyOf 9 = .ok (.ldc2_w 153, 3) := by decide +kernel
theorem d_P_keyOf_12 : decode c_P_keyOf 12 = .ok (.ladd, 1) := by decide +kernel
theorem d_P_keyOf_13 : decode c_P_keyOf 13 = .ok (.lor, 1) := by decide +kernel
theorem d_P_keyOf_14 : decode c_P_keyOf 14 = .ok (.lreturn, 1) := by decide +kernel
theorem d_P_keyPart_0 : decode c_P_keyPart 0 = .ok (.iload_n 2, 1) := by decide +kernel
theorem d_P_keyPart_1 : decode c_P_keyPart 1 = .ok (.ifCond .ne 10, 3) := by decide +kernel
theorem d_P_keyPart_4 : decode c_P_keyPart 4 = .ok (.lload_n 0, 1) := by decide +kernel
theorem d_P_keyPart_5 : decode c_P_keyPart 5 = .ok (.invokestatic 157, 3) := by decide +kernel
theorem d_P_keyPart_8 : decode c_P_keyPart 8 = .ok (.goto 7, 3) := by decide +kernel
theorem d_P_keyPart_11 : decode c_P_keyPart 11 = .ok (.lload_n 0, 1) := by decide +kernel
theorem d_P_keyPart_12 : decode c_P_keyPart 12 = .ok (.invokestatic 161, 3) := by decide +kernel
theorem d_P_keyPart_15 : decode c_P_keyPart 15 = .ok (.l2i, 1) := by decide +kernel
theorem d_P_keyPart_16 : decode c_P_keyPart 16 = .ok (.ireturn, 1) := by decide +kernel
theorem d_P_keyX_0 : decode c_P_keyX 0 = .ok (.lload_n 0, 1) := by decide +kernel
theorem d_P_keyX_1 : decode c_P_keyX 1 = .ok (.bipush 30, 2) := by decide +kernel
theorem d_P_keyX_3 : decode c_P_keyX 3 = .ok (.lshr, 1) := by decide +kernel
theorem d_P_keyX_4 : decode c_P_keyX 4 = .ok (.ldc2_w 153, 3) := by decide +kernel
theorem d_P_keyX_7 : decode c_P_keyX 7 = .ok (.lsub, 1) := by decide +kernel
theorem d_P_keyX_8 : decode c_P_keyX 8 = .ok (.lreturn, 1) := by decide +kernel
theorem d_P_keyY_0 : decode c_P_keyY 0 = .ok (.lload_n 0, 1) := by decide +kernel
theorem d_P_keyY_1 : decode c_P_keyY 1 = .ok (.ldc2_w 155, 3) := by decide +kernel
theorem d_P_keyY_4 : decode c_P_keyY 4 = .ok (.land, 1) := by decide +kernel
theorem d_P_keyY_5 : decode c_P_keyY 5 = .ok (.ldc2_w 153, 3) := by decide +kernel
theorem d_P_keyY_8 : decode c_P_keyY 8 = .ok (.lsub, 1) := by decide +kernel
theorem d_P_keyY_9 : decode c_P_keyY 9 = .ok (.lreturn, 1) := by decide +kernel
theorem d_S_fromKey_0 : decode c_S_fromKey 0 = .ok (.aload_n 0, 1) := by decide +kernel
theorem d_S_fromKey_1 : decode c_S_fromKey 1 = .ok (.getfield 9, 3) := by decide +kernel
theorem d_S_fromKey_4 : decode c_S_fromKey 4 = .ok (.aload_n 0, 1) := by decide +kernel
theorem d_S_fromKey_5 : decode c_S_fromKey 5 = .ok (.getfield 15, 3) := by decide +kernel
theorem d_S_fromKey_8 : decode c_S_fromKey 8 = .ok (.invokestatic 51, 3) := by decide +kernel
theorem d_S_fromKey_11 : decode c_S_fromKey 11 = .ok (.lreturn, 1) := by decide +kernel
theorem d_S_goesDown_0 : decode c_S_goesDown 0 = .ok (.aload_n 0, 1) := by decide +kernel
theorem d_S_goesDown_1 : decode c_S_goesDown 1 = .ok (.getfield 27, 3) := by decide +kernel
theorem d_S_goesDown_4 : decode c_S_goesDown 4 = .ok (.lconst 0, 1) := by decide +kernel
theorem d_S_goesDown_5 : decode c_S_goesDown 5 = .ok (.lcmp, 1) := by decide +kernel
theorem d_S_goesDown_6 : decode c_S_goesDown 6 = .ok (.ifCond .ge 7, 3) := by decide +kernel
theorem d_S_goesDown_9 : decode c_S_goesDown 9 = .ok (.iconst 1, 1) := by decide +kernel
theorem d_S_goesDown_10 : decode c_S_goesDown 10 = .ok (.goto 4, 3) := by decide +kernel
theorem d_S_goesDown_13 : decode c_S_goesDown 13 = .ok (.iconst 0, 1) := by decide +kernel
theorem d_S_goesDown_14 : decode c_S_goesDown 14 = .ok (.ireturn, 1) := by decide +kernel
theorem d_S_goesLeft_0 : decode c_S_goesLeft 0 = .ok (.aload_n 0, 1) := by decide +kernel
theorem d_S_goesLeft_1 : decode c_S_goesLeft 1 = .ok (.getfield 24, 3) := by decide +kernel
theorem d_S_goesLeft_4 : decode c_S_goesLeft 4 = .ok (.lconst 0, 1) := by decide +kernel
theorem d_S_goesLeft_5 : decode c_S_goesLeft 5 = .ok (.lcmp, 1) := by decide +kernel
theorem d_S_goesLeft_6 : decode c_S_goesLeft 6 = .ok (.ifCond .ge 7, 3) := by decide +kernel
theorem d_S_goesLeft_9 : decode c_S_goesLeft 9 = .ok (.iconst 1, 1) := by decide +kernel
theorem d_S_goesLeft_10 : decode c_S_goesLeft 10 = .ok (.goto 4, 3) := by decide +kernel
theorem d_S_goesLeft_13 : decode c_S_goesLeft 13 = .ok (.iconst 0, 1) := by decide +kernel
theorem d_S_goesLeft_14 : decode c_S_goesLeft 14 = .ok (.ireturn, 1) := by decide +kernel
theorem d_S_init_0 : decode c_S_init 0 = .ok (.aload_n 0, 1) := by decide +kernel
theorem d_S_init_1 : decode c_S_init 1 = .ok (.invokespecial 3, 3) := by decide +kernel
theorem d_S_init_4 : decode c_S_init 4 = .ok (.aload_n 0, 1) := by decide +kernel
theorem d_S_init_5 : decode c_S_init 5 = .ok (.iload_n 1, 1) := by decide +kernel
theorem d_S_init_6 : decode c_S_init 6 = .ok (.i2l, 1) := by decide +kernel
theorem d_S_init_7 : decode c_S_init 7 = .ok (.putfield 9, 3) := by decide +kernel
theorem d_S_init_10 : decode c_S_init 10 = .ok (.aload_n 0, 1) := by decide +kernel
theorem d_S_init_11 : decode c_S_init 11 = .ok (.iload_n 2, 1) := by decide +kernel
theorem d_S_init_12 : decode c_S_init 12 = .ok (.i2l, 1) := by decide +kernel
theorem d_S_init_13 : decode c_S_init 13 = .ok (.putfield 15, 3) := by decide +kernel
theorem d_S_init_16 : decode c_S_init 16 = .ok (.aload_n 0, 1) := by decide +kernel
theorem d_S_init_17 : decode c_S_init 17 = .ok (.iload_n 3, 1) := by decide +kernel
theorem d_S_init_18 : decode c_S_init 18 = .ok (.i2l, 1) := by decide +kernel
theorem d_S_init_19 : decode c_S_init 19 = .ok (.putfield 18, 3) := by decide +kernel
theorem d_S_init_22 : decode c_S_init 22 = .ok (.aload_n 0, 1) := by decide +kernel
theorem d_S_init_23 : decode c_S_init 23 = .ok (.iload 4, 2) := by decide +kernel
theorem d_S_init_25 : decode c_S_init 25 = .ok (.i2l, 1) := by decide +kernel
theorem d_S_init_26 : decode c_S_init 26 = .ok (.putfield 21, 3) := by decide +kernel
theorem d_S_init_29 : decode c_S_init 29 = .ok (.aload_n 0, 1) := by decide +kernel
theorem d_S_init_30 : decode c_S_init 30 = .ok (.aload_n 0, 1) := by decide +kernel
theorem d_S_init_31 : decode c_S_init 31 = .ok (.getfield 18, 3) := by decide +kernel
theorem d_S_init_34 : decode c_S_init 34 = .ok (.aload_n 0, 1) := by decide +kernel
theorem d_S_init_35 : decode c_S_init 35 = .ok (.getfield 9, 3) := by decide +kernel
theorem d_S_init_38 : decode c_S_init 38 = .ok (.lsub, 1) := by decide +kernel
theorem d_S_init_39 : decode c_S_init 39 = .ok (.putfield 24, 3) := by decide +kernel
theorem d_S_init_42 : decode c_S_init 42 = .ok (.aload_n 0, 1) := by decide +kernel
theorem d_S_init_43 : decode c_S_init 43 = .ok (.aload_n 0, 1) := by decide +kernel
theorem d_S_init_44 : decode c_S_init 44 = .ok (.getfield 21, 3) := by decide +kernel
theorem d_S_init_47 : decode c_S_init 47 = .ok (.aload_n 0, 1) := by decide +kernel
theorem d_S_init_48 : decode c_S_init 48 = .ok (.getfield 15, 3) := by decide +kernel
theorem d_S_init_51 : decode c_S_init 51 = .ok (.lsub, 1) := by decide +kernel
theorem d_S_init_52 : decode c_S_init 52 = .ok (.putfield 27, 3) := by decide +kernel
theorem d_S_init_55 : decode c_S_init 55 = .ok (.aload_n 0, 1) := by decide +kernel
theorem d_S_init_56 : decode c_S_init 56 = .ok (.aload_n 0, 1) := by decide +kernel
theorem d_S_init_57 : decode c_S_init 57 = .ok (.getfield 9, 3) := by decide +kernel
theorem d_S_init_60 : decode c_S_init 60 = .ok (.aload_n 0, 1) := by decide +kernel
theorem d_S_init_61 : decode c_S_init 61 = .ok (.getfield 18, 3) := by decide +kernel
theorem d_S_init_64 : decode c_S_init 64 = .ok (.invokestatic 30, 3) := by decide +kernel
theorem d_S_init_67 : decode c_S_init 67 = .ok (.putfield 36, 3) := by decide +kernel
theorem d_S_init_70 : decode c_S_init 70 = .ok (.aload_n 0, 1) := by decide +kernel
theorem d_S_init_71 : decode c_S_init 71 = .ok (.aload_n 0, 1) := by decide +kernel
theorem d_S_init_72 : decode c_S_init 72 = .ok (.getfield 15, 3) := by decide +kernel
theorem d_S_init_75 : decode c_S_init 75 = .ok (.aload_n 0, 1) := by decide +kernel
theorem d_S_init_76 : decode c_S_init 76 = .ok (.getfield 21, 3) := by decide +kernel
theorem d_S_init_79 : decode c_S_init 79 = .ok (.invokestatic 30, 3) := by decide +kernel
theorem d_S_init_82 : decode c_S_init 82 = .ok (.putfield 39, 3) := by decide +kernel
theorem d_S_init_85 : decode c_S_init 85 = .ok (.aload_n 0, 1) := by decide +kernel
theorem d_S_init_86 : decode c_S_init 86 = .ok (.aload_n 0, 1) := by decide +kernel
theorem d_S_init_87 : decode c_S_init 87 = .ok (.getfield 9, 3) := by decide +kernel
theorem d_S_init_90 : decode c_S_init 90 = .ok (.aload_n 0, 1) := by decide +kernel
theorem d_S_init_91 : decode c_S_init 91 = .ok (.getfield 18, 3) := by decide +kernel
theorem d_S_init_94 : decode c_S_init 94 = .ok (.invokestatic 42, 3) := by decide +kernel
theorem d_S_init_97 : decode c_S_init 97 = .ok (.putfield 45, 3) := by decide +kernel
theorem d_S_init_100 : decode c_S_init 100 = .ok (.aload_n 0, 1) := by decide +kernel
theorem d_S_init_101 : decode c_S_init 101 = .ok (.aload_n 0, 1) := by decide +kernel
theorem d_S_init_102 : decode c_S_init 102 = .ok (.getfield 15, 3) := by decide +kernel
theorem d_S_init_105 : decode c_S_init 105 = .ok (.aload_n 0, 1) := by decide +kernel
theorem d_S_init_106 : decode c_S_init 106 = .ok (.getfield 21, 3) := by decide +kernel
theorem d_S_init_109 : decode c_S_init 109 = .ok (.invokestatic 42, 3) := by decide +kernel
theorem d_S_init_112 : decode c_S_init 112 = .ok (.putfield 48, 3) := by decide +kernel
theorem d_S_init_115 : decode c_S_init 115 = .ok (.return_, 1) := by decide +kernel
theorem d_S_leastKey_0 : decode c_S_leastKey 0 = .ok (.aload_n 0, 1) := by decide +kernel
theorem d_S_leastKey_1 : decode c_S_leastKey 1 = .ok (.getfield 36, 3) := by decide +kernel
theorem d_S_leastKey_4 : decode c_S_leastKey 4 = .ok (.aload_n 0, 1) := by decide +kernel
theorem d_S_leastKey_5 : decode c_S_leastKey 5 = .ok (.getfield 39, 3) := by decide +kernel
theorem d_S_leastKey_8 : decode c_S_leastKey 8 = .ok (.invokestatic 51, 3) := by decide +kernel
theorem d_S_leastKey_11 : decode c_S_leastKey 11 = .ok (.lreturn, 1) := by decide +kernel
theorem d_S_mostKey_0 : decode c_S_mostKey 0 = .ok (.aload_n 0, 1) := by decide +kernel
theorem d_S_mostKey_1 : decode c_S_mostKey 1 = .ok (.getfield 45, 3) := by decide +kernel
theorem d_S_mostKey_4 : decode c_S_mostKey 4 = .ok (.aload_n 0, 1) := by decide +kernel
theorem d_S_mostKey_5 : decode c_S_mostKey 5 = .ok (.getfield 48, 3) := by decide +kernel
theorem d_S_mostKey_8 : decode c_S_mostKey 8 = .ok (.invokestatic 51, 3) := by decide +kernel
theorem d_S_mostKey_11 : decode c_S_mostKey 11 = .ok (.lreturn, 1) := by decide +kernel
theorem d_S_sideOf_0 : decode c_S_sideOf 0 = .ok (.aload_n 0, 1) := by decide +kernel
theorem d_S_sideOf_1 : decode c_S_sideOf 1 = .ok (.getfield 24, 3) := by decide +kernel
theorem d_S_sideOf_4 : decode c_S_sideOf 4 = .ok (.lload_n 3, 1) := by decide +kernel
theorem d_S_sideOf_5 : decode c_S_sideOf 5 = .ok (.aload_n 0, 1) := by decide +kernel
theorem d_S_sideOf_6 : decode c_S_sideOf 6 = .ok (.getfield 15, 3) := by decide +kernel
theorem d_S_sideOf_9 : decode c_S_sideOf 9 = .ok (.lsub, 1) := by decide +kernel
theorem d_S_sideOf_10 : decode c_S_sideOf 10 = .ok (.lmul, 1) := by decide +kernel
theorem d_S_sideOf_11 : decode c_S_sideOf 11 = .ok (.aload_n 0, 1) := by decide +kernel
theorem d_S_sideOf_12 : decode c_S_sideOf 12 = .ok (.getfield 27, 3) := by decide +kernel
theorem d_S_sideOf_15 : decode c_S_sideOf 15 = .ok (.lload_n 1, 1) := by decide +kernel
theorem d_S_sideOf_16 : decode c_S_sideOf 16 = .ok (.aload_n 0, 1) := by decide +kernel
theorem d_S_sideOf_17 : decode c_S_sideOf 17 = .ok (.getfield 9, 3) := by decide +kernel
theorem d_S_sideOf_20 : decode c_S_sideOf 20 = .ok (.lsub, 1) := by decide +kernel
theorem d_S_sideOf_21 : decode c_S_sideOf 21 = .ok (.lmul, 1) := by decide +kernel
theorem d_S_sideOf_22 : decode c_S_sideOf 22 = .ok (.lsub, 1) := by decide +kernel
theorem d_S_sideOf_23 : decode c_S_sideOf 23 = .ok (.lreturn, 1) := by decide +kernel
theorem d_S_toKey_0 : decode c_S_toKey 0 = .ok (.aload_n 0, 1) := by decide +kernel
theorem d_S_toKey_1 : decode c_S_toKey 1 = .ok (.getfield 18, 3) := by decide +kernel
theorem d_S_toKey_4 : decode c_S_toKey 4 = .ok (.aload_n 0, 1) := by decide +kernel
theorem d_S_toKey_5 : decode c_S_toKey 5 = .ok (.getfield 21, 3) := by decide +kernel
theorem d_S_toKey_8 : decode c_S_toKey 8 = .ok (.invokestatic 51, 3) := by decide +kernel
theorem d_S_toKey_11 : decode c_S_toKey 11 = .ok (.lreturn, 1) := by decide +kernel
theorem run_of {p : Program} {l : Launch} {e : Env} {R : Room} {s : State} {m : MethodId} {args : Array Value} {below : List Frame} {meth : Method} {c : Code} {H : Heap} {locs : List Loc} {cells slots mc ms : Nat} {g : JFrame} {rest : List Value} {Qa : State → Outcome → State → Prop} {free : Addr → Prop} (h : va_Run p l e R s m args below meth c H locs cells slots mc ms g rest Qa free) : CallRun p l e R s m args below meth c H locs cells slots mc ms g rest Qa free := by
  intro T hT X
  obtain ⟨v, st, t, T', L, h1, h2, h3, h4, _, h6, h7⟩ := h T hT X
  exact ⟨v, st, t, T', L, h1, h2, h3, h4, h6, h7⟩
/-- a segment: its two ends -/
abbrev SQ : Type := Int32 × Int32 × Int32 × Int32
def sx (q : SQ) : Int64 := Int32.toInt64 q.1
def sy (q : SQ) : Int64 := Int32.toInt64 q.2.1
def su (q : SQ) : Int64 := Int32.toInt64 q.2.2.1
def sv (q : SQ) : Int64 := Int32.toInt64 q.2.2.2
def swx (q : SQ) : Int64 := su q - sx q
def swy (q : SQ) : Int64 := sv q - sy q
def slx (q : SQ) : Int64 := if su q < sx q then su q else sx q
def sly (q : SQ) : Int64 := if sv q < sy q then sv q else sy q
def smx (q : SQ) : Int64 := if su q < sx q then sx q else su q
def smy (q : SQ) : Int64 := if sv q < sy q then sy q else sv q
def sgF (q : SQ) : List Value := [.long (sx q), .long (sy q), .long (su q), .long (sv q), .long (swx q), .long (swy q), .long (slx q), .long (sly q), .long (smx q), .long (smy q)]
def sg_key (x y : Int64) : Int64 := ((x + 500000000) <<< (Int32.toInt64 30 &&& 63)) ||| (y + 500000000)
def sg_kx (k : Int64) : Int64 := (k >>> (Int32.toInt64 30 &&& 63)) - 500000000
def sg_ky (k : Int64) : Int64 := (k &&& 1073741823) - 500000000
def sg_side (q : SQ) (x y : Int64) : Int64 := swx q * (y - sy q) - swy q * (x - sx q)
set_option maxHeartbeats 4000000 in
set_option maxRecDepth 100000 in
theorem k_P_keyOf (l : Launch) (D : va_G) (E : ClassId × ClassId × ClassId × ClassId) (x y : Int64) : Met l y_P_keyOf (.code y_P_keyOf c_P_keyOf 4 (some .long) :: gw) ({ frames := 0, cells := 0, slots := 0, locals := 0 } : Room) (rP D E [] [.long x, .long y]) (vp_Sl (fun r => r = sg_key x y)) 0 0 (fun _ => False) := by
  refine rd_ofW (by decide) (Nat.le_of_ble_eq_true rfl) ?_
  intro p e s m below meth c B hP hK ls hl
  obtain ⟨hx, hb, hrt, hml, hown, hts, hG, hlocks, hin⟩ := B
  have hl : lv_has ls 4 [(0, .long x), (2, .long y)] := hl
  refine lv_lload_n hx hb d_P_keyOf_0 rfl (lv_at hl 0 rfl) ?_
  refine lv_ldc2 hx hb hown (hG _ wd_390) d_P_keyOf_1 ?_
  refine lv_ladd hx hb d_P_keyOf_4 ?_
  refine lv_bipush (v := 30) hx hb d_P_keyOf_5 (by decide) ?_
  refine lv_lshl hx hb d_P_keyOf_7 rfl ?_
  refine lv_lload_n hx hb d_P_keyOf_8 rfl (lv_at hl 1 rfl) ?_
  refine lv_ldc2 hx hb hown (hG _ wd_390) d_P_keyOf_9 ?_
  refine lv_ladd hx hb d_P_keyOf_12 ?_
  refine lv_lor hx hb d_P_keyOf_13 ?_
  exact W.lret (v := (((x + 500000000) <<< (Int32.toInt64 30 &&& 63)) ||| (y + 500000000))) hx hb hrt (fun t ht hW => ⟨(((x + 500000000) <<< (Int32.toInt64 30 &&& 63)) ||| (y + 500000000)), rfl, rfl, ht⟩) (fun q h => nomatch h) d_P_keyOf_14 hlocks
set_option maxHeartbeats 4000000 in
set_option maxRecDepth 100000 in
theorem k_P_keyX (l : Launch) (D : va_G) (E : ClassId × ClassId × ClassId × ClassId) (x : Int64) : Met l y_P_keyX (.code y_P_keyX c_P_keyX 2 (some .long) :: gw) ({ frames := 0, cells := 0, slots := 0, locals := 0 } : Room) (rP D E [] [.long x]) (vp_Sl (fun r => r = sg_kx x)) 0 0 (fun _ => False) := by
  refine rd_ofW (by decide) (Nat.le_of_ble_eq_true rfl) ?_
  intro p e s m below meth c B hP hK ls hl
  obtain ⟨hx, hb, hrt, hml, hown, hts, hG, hlocks, hin⟩ := B
  have hl : lv_has ls 2 [(0, .long x)] := hl
  refine lv_lload_n hx hb d_P_keyX_0 rfl (lv_at hl 0 rfl) ?_
  refine lv_bipush (v := 30) hx hb d_P_keyX_1 (by decide) ?_
  refine lv_lshr hx hb d_P_keyX_3 rfl ?_
  refine lv_ldc2 hx hb hown (hG _ wd_390) d_P_keyX_4 ?_
  refine lv_lsub hx hb d_P_keyX_7 ?_
  exact W.lret (v := ((x >>> (Int32.toInt64 30 &&& 63)) - 500000000)) hx hb hrt (fun t ht hW => ⟨((x >>> (Int32.toInt64 30 &&& 63)) - 500000000), rfl, rfl, ht⟩) (fun q h => nomatch h) d_P_keyX_8 hlocks
set_option maxHeartbeats 4000000 in
set_option maxRecDepth 100000 in
theorem k_P_keyY (l : Launch) (D : va_G) (E : ClassId × ClassId × ClassId × ClassId) (x : Int64) : Met l y_P_keyY (.code y_P_keyY c_P_keyY 2 (some .long) :: gw) ({ frames := 0, cells := 0, slots := 0, locals := 0 } : Room) (rP D E [] [.long x]) (vp_Sl (fun r => r = sg_ky x)) 0 0 (fun _ => False) := by
  refine rd_ofW (by decide) (Nat.le_of_ble_eq_true rfl) ?_
  intro p e s m below meth c B hP hK ls hl
  obtain ⟨hx, hb, hrt, hml, hown, hts, hG, hlocks, hin⟩ := B
  have hl : lv_has ls 2 [(0, .long x)] := hl
  refine lv_lload_n hx hb d_P_keyY_0 rfl (lv_at hl 0 rfl) ?_
  refine lv_ldc2 hx hb hown (hG _ wd_498) d_P_keyY_1 ?_
  refine lv_land hx hb d_P_keyY_4 ?_
  refine lv_ldc2 hx hb hown (hG _ wd_390) d_P_keyY_5 ?_
  refine lv_lsub hx hb d_P_keyY_8 ?_
  exact W.lret (v := ((x &&& 1073741823) - 500000000)) hx hb hrt (fun t ht hW => ⟨((x &&& 1073741823) - 500000000), rfl, rfl, ht⟩) (fun q h => nomatch h) d_P_keyY_9 hlocks
def sg_kp (k : Int64) (w : Int32) : Int32 := if w = 0 then Int64.toInt32 (sg_kx k) else Int64.toInt32 (sg_ky k)
set_option maxHeartbeats 4000000 in
set_option maxRecDepth 100000 in
theorem k_P_keyPart (l : Launch) (D : va_G) (E : ClassId × ClassId × ClassId × ClassId) (x : Int64) (k : Int32) : Met l y_P_keyPart (.code y_P_keyPart c_P_keyPart 3 (some .int) :: gw) ({ frames := 1, cells := 0, slots := 0, locals := 21 } : Room) (rP D E [] [.long x, .int k]) (vp_Si (fun r => r = sg_kp x k)) 0 0 (fun _ => False) := by
  refine rd_ofW (by decide) (Nat.le_of_ble_eq_true rfl) ?_
  intro p e s m below meth c B hP hK ls hl
  obtain ⟨hx, hb, hrt, hml, hown, hts, hG, hlocks, hin⟩ := B
  have hl : lv_has ls 3 [(0, .long x), (2, .int k)] := hl
  refine lv_iload_n hx hb d_P_keyPart_0 rfl (lv_at hl 1 rfl) ?_
  refine lv_if_ne (tgt := 11) hx hb d_P_keyPart_1 (by decide) (fun c1 => ?_) (fun c1 => ?_)
  · refine lv_lload_n hx hb d_P_keyPart_11 rfl (lv_at hl 0 rfl) ?_
    have hPc := hP.sub (ws' := []) [] rfl
    refine vp_callSl (W.runS (As := [.long x]) (rest := []) ⟨hx, hb, hml, hown, hts⟩ (k_P_keyY l D E x) (va_cwS 1 hts (gw_gs wd_495 wd_496 wd_37 wd_497) rfl rfl rfl (by decide +kernel) ⟨Nat.le_of_ble_eq_true rfl, Nat.le_of_ble_eq_true rfl⟩) (rP_S hPc hK) rfl rfl hl.1 rfl (lv_room (Nat.le_of_ble_eq_true rfl)) d_P_keyPart_12 ⟨Nat.le_of_ble_eq_true rfl, Nat.le_of_ble_eq_true rfl⟩) (fun r1 hr1 => ?_)
    refine lv_l2i hx hb d_P_keyPart_15 rfl ?_
    exact W.iret (v := (Int64.toInt32 r1)) hx hb hrt (fun t ht hW => ⟨(Int64.toInt32 r1), rfl, by rw [hr1, sg_kp, if_neg c1], ht⟩) (fun q h => nomatch h) d_P_keyPart_16 hlocks
  · refine lv_lload_n hx hb d_P_keyPart_4 rfl (lv_at hl 0 rfl) ?_
    have hPc := hP.sub (ws' := []) [] rfl
    refine vp_callSl (W.runS (As := [.long x]) (rest := []) ⟨hx, hb, hml, hown, hts⟩ (k_P_keyX l D E x) (va_cwS 1 hts (gw_gs wd_492 wd_493 wd_37 wd_494) rfl rfl rfl (by decide +kernel) ⟨Nat.le_of_ble_eq_true rfl, Nat.le_of_ble_eq_true rfl⟩) (rP_S hPc hK) rfl rfl hl.1 rfl (lv_room (Nat.le_of_ble_eq_true rfl)) d_P_keyPart_5 ⟨Nat.le_of_ble_eq_true rfl, Nat.le_of_ble_eq_true rfl⟩) (fun r1 hr1 => ?_)
    refine lv_goto (tgt := 15) hx hb d_P_keyPart_8 (by decide) ?_
    refine lv_l2i hx hb d_P_keyPart_15 rfl ?_
    exact W.iret (v := (Int64.toInt32 r1)) hx hb hrt (fun t ht hW => ⟨(Int64.toInt32 r1), rfl, by rw [hr1, sg_kp, if_pos c1], ht⟩) (fun q h => nomatch h) d_P_keyPart_16 hlocks
set_option maxHeartbeats 4000000 in
set_option maxRecDepth 100000 in
theorem k_S_init (l : Launch) (D : va_G) (E : ClassId × ClassId × ClassId × ClassId) (h0 sz : Nat) (q : SQ) : Met l y_S_init (.code y_S_init c_S_init 5 none :: gw) ({ frames := 1, cells := 0, slots := 0, locals := 30 } : Room) (wP D E [(h0, .inr (1, [.long 0, .long 0, .long 0, .long 0, .long 0, .long 0, .long 0, .long 0, .long 0, .long 0]))] sz [.ref h0, .int q.1, .int q.2.1, .int q.2.2.1, .int q.2.2.2]) (va_Qv (fun (u : Unit) => True) (wB D (fun _ => [(h0, .inr (1, sgF q))]) (va_A [(h0, .inr (1, [.long 0, .long 0, .long 0, .long 0, .long 0, .long 0, .long 0, .long 0, .long 0, .long 0]))] sz)) (va_A [(h0, .inr (1, [.long 0, .long 0, .long 0, .long 0, .long 0, .long 0, .long 0, .long 0, .long 0, .long 0]))] sz)) 0 0 (va_A [(h0, .inr (1, [.long 0, .long 0, .long 0, .long 0, .long 0, .long 0, .long 0, .long 0, .long 0, .long 0]))] sz) := by
  refine wr_ofW (Qc := fun A => (va_Qv (fun (u : Unit) => True) (wB D (fun _ => [(h0, .inr (1, sgF q))]) A) A)) (by decide) (Nat.le_of_ble_eq_true rfl) ?_
  intro p e s m below meth c B hP hK A hA hD hS ls hl
  obtain ⟨hx, hb, hrt, hml, hown, hts, hG, hlocks, hin⟩ := B
  have hl : lv_has ls 5 [(0, .ref h0), (1, .int q.1), (2, .int q.2.1), (3, .int q.2.2.1), (4, .int q.2.2.2)] := hl
  refine lv_aload_n hx hb d_S_init_0 rfl (lv_at hl 0 rfl) ?_
  refine W.objInit hx hb hown (hG _ wd_263) (hG _ wd_63) (hG _ wd_64) rfl (by rw [hml]; exact hl.1) rfl d_S_init_1 (Nat.le_of_ble_eq_true rfl) (Nat.le_of_ble_eq_true rfl) ?_
  refine W.eq (g2 := F0 m 4 ls []) rfl ?_
  refine lv_aload_n hx hb d_S_init_4 rfl (lv_at hl 0 rfl) ?_
  refine lv_iload_n hx hb d_S_init_5 rfl (lv_at hl 1 rfl) ?_
  refine lv_i2l hx hb d_S_init_6 rfl ?_
  refine va_putF (D := D) (ci := 1) (v := .long (Int32.toInt64 q.1)) (ty := .long) (C := K_S) (T := F_S) (N := 10) hx hb hG in_S t_S t_S_ok n_S hown hK.1 hP hD hS 0 rfl rfl 0 (by decide) (hG _ wd_270) (fun _ h9 => h9) rfl hin rfl (by decide +kernel) rfl rfl (Nat.le_of_ble_eq_true rfl) d_S_init_7 (fun H locs hP hD hS => ?_)
  have hP : va_P D vwC [(h0, .inr (1, [.long (Int32.toInt64 q.1), .long 0, .long 0, .long 0, .long 0, .long 0, .long 0, .long 0, .long 0, .long 0]))] H := hP
  have hD : va_D A [(h0, .inr (1, [.long (Int32.toInt64 q.1), .long 0, .long 0, .long 0, .long 0, .long 0, .long 0, .long 0, .long 0, .long 0]))] := hD
  refine lv_aload_n hx hb d_S_init_10 rfl (lv_at hl 0 rfl) ?_
  refine lv_iload_n hx hb d_S_init_11 rfl (lv_at hl 2 rfl) ?_
  refine lv_i2l hx hb d_S_init_12 rfl ?_
  refine va_putF (D := D) (ci := 1) (v := .long (Int32.toInt64 q.2.1)) (ty := .long) (C := K_S) (T := F_S) (N := 10) hx hb hG in_S t_S t_S_ok n_S hown hK.1 hP hD hS 0 rfl rfl 1 (by decide) (hG _ wd_271) (fun _ h9 => h9) rfl hin rfl (by decide +kernel) rfl rfl (Nat.le_of_ble_eq_true rfl) d_S_init_13 (fun H locs hP hD hS => ?_)
  have hP : va_P D vwC [(h0, .inr (1, [.long (Int32.toInt64 q.1), .long (Int32.toInt64 q.2.1), .long 0, .long 0, .long 0, .long 0, .long 0, .long 0, .long 0, .long 0]))] H := hP
  have hD : va_D A [(h0, .inr (1, [.long (Int32.toInt64 q.1), .long (Int32.toInt64 q.2.1), .long 0, .long 0, .long 0, .long 0, .long 0, .long 0, .long 0, .long 0]))] := hD
  refine lv_aload_n hx hb d_S_init_16 rfl (lv_at hl 0 rfl) ?_
  refine lv_iload_n hx hb d_S_init_17 rfl (lv_at hl 3 rfl) ?_
  refine lv_i2l hx hb d_S_init_18 rfl ?_
  refine va_putF (D := D) (ci := 1) (v := .long (Int32.toInt64 q.2.2.1)) (ty := .long) (C := K_S) (T := F_S) (N := 10) hx hb hG in_S t_S t_S_ok n_S hown hK.1 hP hD hS 0 rfl rfl 2 (by decide) (hG _ wd_272) (fun _ h9 => h9) rfl hin rfl (by decide +kernel) rfl rfl (Nat.le_of_ble_eq_true rfl) d_S_init_19 (fun H locs hP hD hS => ?_)
  have hP : va_P D vwC [(h0, .inr (1, [.long (Int32.toInt64 q.1), .long (Int32.toInt64 q.2.1), .long (Int32.toInt64 q.2.2.1), .long 0, .long 0, .long 0, .long 0, .long 0, .long 0, .long 0]))] H := hP
  have hD : va_D A [(h0, .inr (1, [.long (Int32.toInt64 q.1), .long (Int32.toInt64 q.2.1), .long (Int32.toInt64 q.2.2.1), .long 0, .long 0, .long 0, .long 0, .long 0, .long 0, .long 0]))] := hD
  refine lv_aload_n hx hb d_S_init_22 rfl (lv_at hl 0 rfl) ?_
  refine lv_iload hx hb d_S_init_23 (lv_at hl 4 rfl) ?_
  refine lv_i2l hx hb d_S_init_25 rfl ?_
  refine va_putF (D := D) (ci := 1) (v := .long (Int32.toInt64 q.2.2.2)) (ty := .long) (C := K_S) (T := F_S) (N := 10) hx hb hG in_S t_S t_S_ok n_S hown hK.1 hP hD hS 0 rfl rfl 3 (by decide) (hG _ wd_273) (fun _ h9 => h9) rfl hin rfl (by decide +kernel) rfl rfl (Nat.le_of_ble_eq_true rfl) d_S_init_26 (fun H locs hP hD hS => ?_)
  have hP : va_P D vwC [(h0, .inr (1, [.long (Int32.toInt64 q.1), .long (Int32.toInt64 q.2.1), .long (Int32.toInt64 q.2.2.1), .long (Int32.toInt64 q.2.2.2), .long 0, .long 0, .long 0, .long 0, .long 0, .long 0]))] H := hP
  have hD : va_D A [(h0, .inr (1, [.long (Int32.toInt64 q.1), .long (Int32.toInt64 q.2.1), .long (Int32.toInt64 q.2.2.1), .long (Int32.toInt64 q.2.2.2), .long 0, .long 0, .long 0, .long 0, .long 0, .long 0]))] := hD
  refine lv_aload_n hx hb d_S_init_29 rfl (lv_at hl 0 rfl) ?_
  refine lv_aload_n hx hb d_S_init_30 rfl (lv_at hl 0 rfl) ?_
  refine va_get (D := D) (ci := 1) (v := .long (Int32.toInt64 q.2.2.1)) (C := K_S) (T := F_S) (N := 10) hx hb hG in_S hown hK.1 hP 0 rfl rfl 2 (by decide) (hG _ wd_272) (fun _ h9 => h9) rfl d_S_init_31 ?_
  refine lv_aload_n hx hb d_S_init_34 rfl (lv_at hl 0 rfl) ?_
  refine va_get (D := D) (ci := 1) (v := .long (Int32.toInt64 q.1)) (C := K_S) (T := F_S) (N := 10) hx hb hG in_S hown hK.1 hP 0 rfl rfl 0 (by decide) (hG _ wd_270) (fun _ h9 => h9) rfl d_S_init_35 ?_
  refine lv_lsub hx hb d_S_init_38 ?_
  refine va_putF (D := D) (ci := 1) (v := .long ((Int32.toInt64 q.2.2.1) - (Int32.toInt64 q.1))) (ty := .long) (C := K_S) (T := F_S) (N := 10) hx hb hG in_S t_S t_S_ok n_S hown hK.1 hP hD hS 0 rfl rfl 4 (by decide) (hG _ wd_274) (fun _ h9 => h9) rfl hin rfl (by decide +kernel) rfl rfl (Nat.le_of_ble_eq_true rfl) d_S_init_39 (fun H locs hP hD hS => ?_)
  have hP : va_P D vwC [(h0, .inr (1, [.long (Int32.toInt64 q.1), .long (Int32.toInt64 q.2.1), .long (Int32.toInt64 q.2.2.1), .long (Int32.toInt64 q.2.2.2), .long ((Int32.toInt64 q.2.2.1) - (Int32.toInt64 q.1)), .long 0, .long 0, .long 0, .long 0, .long 0]))] H := hP
  have hD : va_D A [(h0, .inr (1, [.long (Int32.toInt64 q.1), .long (Int32.toInt64 q.2.1), .long (Int32.toInt64 q.2.2.1), .long (Int32.toInt64 q.2.2.2), .long ((Int32.toInt64 q.2.2.1) - (Int32.toInt64 q.1)), .long 0, .long 0, .long 0, .long 0, .long 0]))] := hD
  refine lv_aload_n hx hb d_S_init_42 rfl (lv_at hl 0 rfl) ?_
  refine lv_aload_n hx hb d_S_init_43 rfl (lv_at hl 0 rfl) ?_
  refine va_get (D := D) (ci := 1) (v := .long (Int32.toInt64 q.2.2.2)) (C := K_S) (T := F_S) (N := 10) hx hb hG in_S hown hK.1 hP 0 rfl rfl 3 (by decide) (hG _ wd_273) (fun _ h9 => h9) rfl d_S_init_44 ?_
  refine lv_aload_n hx hb d_S_init_47 rfl (lv_at hl 0 rfl) ?_
  refine va_get (D := D) (ci := 1) (v := .long (Int32.toInt64 q.2.1)) (C := K_S) (T := F_S) (N := 10) hx hb hG in_S hown hK.1 hP 0 rfl rfl 1 (by decide) (hG _ wd_271) (fun _ h9 => h9) rfl d_S_init_48 ?_
  refine lv_lsub hx hb d_S_init_51 ?_
  refine va_putF (D := D) (ci := 1) (v := .long ((Int32.toInt64 q.2.2.2) - (Int32.toInt64 q.2.1))) (ty := .long) (C := K_S) (T := F_S) (N := 10) hx hb hG in_S t_S t_S_ok n_S hown hK.1 hP hD hS 0 rfl rfl 5 (by decide) (hG _ wd_275) (fun _ h9 => h9) rfl hin rfl (by decide +kernel) rfl rfl (Nat.le_of_ble_eq_true rfl) d_S_init_52 (fun H locs hP hD hS => ?_)
  have hP : va_P D vwC [(h0, .inr (1, [.long (Int32.toInt64 q.1), .long (Int32.toInt64 q.2.1), .long (Int32.toInt64 q.2.2.1), .long (Int32.toInt64 q.2.2.2), .long ((Int32.toInt64 q.2.2.1) - (Int32.toInt64 q.1)), .long ((Int32.toInt64 q.2.2.2) - (Int32.toInt64 q.2.1)), .long 0, .long 0, .long 0, .long 0]))] H := hP
  have hD : va_D A [(h0, .inr (1, [.long (Int32.toInt64 q.1), .long (Int32.toInt64 q.2.1), .long (Int32.toInt64 q.2.2.1), .long (Int32.toInt64 q.2.2.2), .long ((Int32.toInt64 q.2.2.1) - (Int32.toInt64 q.1)), .long ((Int32.toInt64 q.2.2.2) - (Int32.toInt64 q.2.1)), .long 0, .long 0, .long 0, .long 0]))] := hD
  refine lv_aload_n hx hb d_S_init_55 rfl (lv_at hl 0 rfl) ?_
  refine lv_aload_n hx hb d_S_init_56 rfl (lv_at hl 0 rfl) ?_
  refine va_get (D := D) (ci := 1) (v := .long (Int32.toInt64 q.1)) (C := K_S) (T := F_S) (N := 10) hx hb hG in_S hown hK.1 hP 0 rfl rfl 0 (by decide) (hG _ wd_270) (fun _ h9 => h9) rfl d_S_init_57 ?_
  refine lv_aload_n hx hb d_S_init_60 rfl (lv_at hl 0 rfl) ?_
  refine va_get (D := D) (ci := 1) (v := .long (Int32.toInt64 q.2.2.1)) (C := K_S) (T := F_S) (N := 10) hx hb hG in_S hown hK.1 hP 0 rfl rfl 2 (by decide) (hG _ wd_272) (fun _ h9 => h9) rfl d_S_init_61 ?_
  refine va_mmin_long hx hb (hml.trans hl.1.symm) hown (hG _ wd_264) (hG _ wd_265) (hG _ wd_49) (hG _ wd_266) (Nat.le_of_ble_eq_true rfl) (Nat.le_of_ble_eq_true rfl) (Nat.le_of_ble_eq_true rfl) (Nat.le_of_ble_eq_true rfl) d_S_init_64 ?_
  refine va_putF (D := D) (ci := 1) (v := .long (if (Int32.toInt64 q.2.2.1) < (Int32.toInt64 q.1) then (Int32.toInt64 q.2.2.1) else (Int32.toInt64 q.1))) (ty := .long) (C := K_S) (T := F_S) (N := 10) hx hb hG in_S t_S t_S_ok n_S hown hK.1 hP hD hS 0 rfl rfl 6 (by decide) (hG _ wd_276) (fun _ h9 => h9) rfl hin rfl (by decide +kernel) rfl rfl (Nat.le_of_ble_eq_true rfl) d_S_init_67 (fun H locs hP hD hS => ?_)
  have hP : va_P D vwC [(h0, .inr (1, [.long (Int32.toInt64 q.1), .long (Int32.toInt64 q.2.1), .long (Int32.toInt64 q.2.2.1), .long (Int32.toInt64 q.2.2.2), .long ((Int32.toInt64 q.2.2.1) - (Int32.toInt64 q.1)), .long ((Int32.toInt64 q.2.2.2) - (Int32.toInt64 q.2.1)), .long (if (Int32.toInt64 q.2.2.1) < (Int32.toInt64 q.1) then (Int32.toInt64 q.2.2.1) else (Int32.toInt64 q.1)), .long 0, .long 0, .long 0]))] H := hP
  have hD : va_D A [(h0, .inr (1, [.long (Int32.toInt64 q.1), .long (Int32.toInt64 q.2.1), .long (Int32.toInt64 q.2.2.1), .long (Int32.toInt64 q.2.2.2), .long ((Int32.toInt64 q.2.2.1) - (Int32.toInt64 q.1)), .long ((Int32.toInt64 q.2.2.2) - (Int32.toInt64 q.2.1)), .long (if (Int32.toInt64 q.2.2.1) < (Int32.toInt64 q.1) then (Int32.toInt64 q.2.2.1) else (Int32.toInt64 q.1)), .long 0, .long 0, .long 0]))] := hD
  refine lv_aload_n hx hb d_S_init_70 rfl (lv_at hl 0 rfl) ?_
  refine lv_aload_n hx hb d_S_init_71 rfl (lv_at hl 0 rfl) ?_
  refine va_get (D := D) (ci := 1) (v := .long (Int32.toInt64 q.2.1)) (C := K_S) (T := F_S) (N := 10) hx hb hG in_S hown hK.1 hP 0 rfl rfl 1 (by decide) (hG _ wd_271) (fun _ h9 => h9) rfl d_S_init_72 ?_
  refine lv_aload_n hx hb d_S_init_75 rfl (lv_at hl 0 rfl) ?_
  refine va_get (D := D) (ci := 1) (v := .long (Int32.toInt64 q.2.2.2)) (C := K_S) (T := F_S) (N := 10) hx hb hG in_S hown hK.1 hP 0 rfl rfl 3 (by decide) (hG _ wd_273) (fun _ h9 => h9) rfl d_S_init_76 ?_
  refine va_mmin_long hx hb (hml.trans hl.1.symm) hown (hG _ wd_264) (hG _ wd_265) (hG _ wd_49) (hG _ wd_266) (Nat.le_of_ble_eq_true rfl) (Nat.le_of_ble_eq_true rfl) (Nat.le_of_ble_eq_true rfl) (Nat.le_of_ble_eq_true rfl) d_S_init_79 ?_
  refine va_putF (D := D) (ci := 1) (v := .long (if (Int32.toInt64 q.2.2.2) < (Int32.toInt64 q.2.1) then (Int32.toInt64 q.2.2.2) else (Int32.toInt64 q.2.1))) (ty := .long) (C := K_S) (T := F_S) (N := 10) hx hb hG in_S t_S t_S_ok n_S hown hK.1 hP hD hS 0 rfl rfl 7 (by decide) (hG _ wd_277) (fun _ h9 => h9) rfl hin rfl (by decide +kernel) rfl rfl (Nat.le_of_ble_eq_true rfl) d_S_init_82 (fun H locs hP hD hS => ?_)
  have hP : va_P D vwC [(h0, .inr (1, [.long (Int32.toInt64 q.1), .long (Int32.toInt64 q.2.1), .long (Int32.toInt64 q.2.2.1), .long (Int32.toInt64 q.2.2.2), .long ((Int32.toInt64 q.2.2.1) - (Int32.toInt64 q.1)), .long ((Int32.toInt64 q.2.2.2) - (Int32.toInt64 q.2.1)), .long (if (Int32.toInt64 q.2.2.1) < (Int32.toInt64 q.1) then (Int32.toInt64 q.2.2.1) else (Int32.toInt64 q.1)), .long (if (Int32.toInt64 q.2.2.2) < (Int32.toInt64 q.2.1) then (Int32.toInt64 q.2.2.2) else (Int32.toInt64 q.2.1)), .long 0, .long 0]))] H := hP
  have hD : va_D A [(h0, .inr (1, [.long (Int32.toInt64 q.1), .long (Int32.toInt64 q.2.1), .long (Int32.toInt64 q.2.2.1), .long (Int32.toInt64 q.2.2.2), .long ((Int32.toInt64 q.2.2.1) - (Int32.toInt64 q.1)), .long ((Int32.toInt64 q.2.2.2) - (Int32.toInt64 q.2.1)), .long (if (Int32.toInt64 q.2.2.1) < (Int32.toInt64 q.1) then (Int32.toInt64 q.2.2.1) else (Int32.toInt64 q.1)), .long (if (Int32.toInt64 q.2.2.2) < (Int32.toInt64 q.2.1) then (Int32.toInt64 q.2.2.2) else (Int32.toInt64 q.2.1)), .long 0, .long 0]))] := hD
  refine lv_aload_n hx hb d_S_init_85 rfl (lv_at hl 0 rfl) ?_
  refine lv_aload_n hx hb d_S_init_86 rfl (lv_at hl 0 rfl) ?_
  refine va_get (D := D) (ci := 1) (v := .long (Int32.toInt64 q.1)) (C := K_S) (T := F_S) (N := 10) hx hb hG in_S hown hK.1 hP 0 rfl rfl 0 (by decide) (hG _ wd_270) (fun _ h9 => h9) rfl d_S_init_87 ?_
  refine lv_aload_n hx hb d_S_init_90 rfl (lv_at hl 0 rfl) ?_
  refine va_get (D := D) (ci := 1) (v := .long (Int32.toInt64 q.2.2.1)) (C := K_S) (T := F_S) (N := 10) hx hb hG in_S hown hK.1 hP 0 rfl rfl 2 (by decide) (hG _ wd_272) (fun _ h9 => h9) rfl d_S_init_91 ?_
  refine va_mmax_long hx hb (hml.trans hl.1.symm) hown (hG _ wd_267) (hG _ wd_268) (hG _ wd_49) (hG _ wd_269) (Nat.le_of_ble_eq_true rfl) (Nat.le_of_ble_eq_true rfl) (Nat.le_of_ble_eq_true rfl) (Nat.le_of_ble_eq_true rfl) d_S_init_94 ?_
  refine va_putF (D := D) (ci := 1) (v := .long (if (Int32.toInt64 q.2.2.1) < (Int32.toInt64 q.1) then (Int32.toInt64 q.1) else (Int32.toInt64 q.2.2.1))) (ty := .long) (C := K_S) (T := F_S) (N := 10) hx hb hG in_S t_S t_S_ok n_S hown hK.1 hP hD hS 0 rfl rfl 8 (by decide) (hG _ wd_278) (fun _ h9 => h9) rfl hin rfl (by decide +kernel) rfl rfl (Nat.le_of_ble_eq_true rfl) d_S_init_97 (fun H locs hP hD hS => ?_)
  have hP : va_P D vwC [(h0, .inr (1, [.long (Int32.toInt64 q.1), .long (Int32.toInt64 q.2.1), .long (Int32.toInt64 q.2.2.1), .long (Int32.toInt64 q.2.2.2), .long ((Int32.toInt64 q.2.2.1) - (Int32.toInt64 q.1)), .long ((Int32.toInt64 q.2.2.2) - (Int32.toInt64 q.2.1)), .long (if (Int32.toInt64 q.2.2.1) < (Int32.toInt64 q.1) then (Int32.toInt64 q.2.2.1) else (Int32.toInt64 q.1)), .long (if (Int32.toInt64 q.2.2.2) < (Int32.toInt64 q.2.1) then (Int32.toInt64 q.2.2.2) else (Int32.toInt64 q.2.1)), .long (if (Int32.toInt64 q.2.2.1) < (Int32.toInt64 q.1) then (Int32.toInt64 q.1) else (Int32.toInt64 q.2.2.1)), .long 0]))] H := hP
  have hD : va_D A [(h0, .inr (1, [.long (Int32.toInt64 q.1), .long (Int32.toInt64 q.2.1), .long (Int32.toInt64 q.2.2.1), .long (Int32.toInt64 q.2.2.2), .long ((Int32.toInt64 q.2.2.1) - (Int32.toInt64 q.1)), .long ((Int32.toInt64 q.2.2.2) - (Int32.toInt64 q.2.1)), .long (if (Int32.toInt64 q.2.2.1) < (Int32.toInt64 q.1) then (Int32.toInt64 q.2.2.1) else (Int32.toInt64 q.1)), .long (if (Int32.toInt64 q.2.2.2) < (Int32.toInt64 q.2.1) then (Int32.toInt64 q.2.2.2) else (Int32.toInt64 q.2.1)), .long (if (Int32.toInt64 q.2.2.1) < (Int32.toInt64 q.1) then (Int32.toInt64 q.1) else (Int32.toInt64 q.2.2.1)), .long 0]))] := hD
  refine lv_aload_n hx hb d_S_init_100 rfl (lv_at hl 0 rfl) ?_
  refine lv_aload_n hx hb d_S_init_101 rfl (lv_at hl 0 rfl) ?_
  refine va_get (D := D) (ci := 1) (v := .long (Int32.toInt64 q.2.1)) (C := K_S) (T := F_S) (N := 10) hx hb hG in_S hown hK.1 hP 0 rfl rfl 1 (by decide) (hG _ wd_271) (fun _ h9 => h9) rfl d_S_init_102 ?_
  refine lv_aload_n hx hb d_S_init_105 rfl (lv_at hl 0 rfl) ?_
  refine va_get (D := D) (ci := 1) (v := .long (Int32.toInt64 q.2.2.2)) (C := K_S) (T := F_S) (N := 10) hx hb hG in_S hown hK.1 hP 0 rfl rfl 3 (by decide) (hG _ wd_273) (fun _ h9 => h9) rfl d_S_init_106 ?_
  refine va_mmax_long hx hb (hml.trans hl.1.symm) hown (hG _ wd_267) (hG _ wd_268) (hG _ wd_49) (hG _ wd_269) (Nat.le_of_ble_eq_true rfl) (Nat.le_of_ble_eq_true rfl) (Nat.le_of_ble_eq_true rfl) (Nat.le_of_ble_eq_true rfl) d_S_init_109 ?_
  refine va_putF (D := D) (ci := 1) (v := .long (if (Int32.toInt64 q.2.2.2) < (Int32.toInt64 q.2.1) then (Int32.toInt64 q.2.1) else (Int32.toInt64 q.2.2.2))) (ty := .long) (C := K_S) (T := F_S) (N := 10) hx hb hG in_S t_S t_S_ok n_S hown hK.1 hP hD hS 0 rfl rfl 9 (by decide) (hG _ wd_279) (fun _ h9 => h9) rfl hin rfl (by decide +kernel) rfl rfl (Nat.le_of_ble_eq_true rfl) d_S_init_112 (fun H locs hP hD hS => ?_)
  have hP : va_P D vwC [(h0, .inr (1, [.long (Int32.toInt64 q.1), .long (Int32.toInt64 q.2.1), .long (Int32.toInt64 q.2.2.1), .long (Int32.toInt64 q.2.2.2), .long ((Int32.toInt64 q.2.2.1) - (Int32.toInt64 q.1)), .long ((Int32.toInt64 q.2.2.2) - (Int32.toInt64 q.2.1)), .long (if (Int32.toInt64 q.2.2.1) < (Int32.toInt64 q.1) then (Int32.toInt64 q.2.2.1) else (Int32.toInt64 q.1)), .long (if (Int32.toInt64 q.2.2.2) < (Int32.toInt64 q.2.1) then (Int32.toInt64 q.2.2.2) else (Int32.toInt64 q.2.1)), .long (if (Int32.toInt64 q.2.2.1) < (Int32.toInt64 q.1) then (Int32.toInt64 q.1) else (Int32.toInt64 q.2.2.1)), .long (if (Int32.toInt64 q.2.2.2) < (Int32.toInt64 q.2.1) then (Int32.toInt64 q.2.1) else (Int32.toInt64 q.2.2.2))]))] H := hP
  have hD : va_D A [(h0, .inr (1, [.long (Int32.toInt64 q.1), .long (Int32.toInt64 q.2.1), .long (Int32.toInt64 q.2.2.1), .long (Int32.toInt64 q.2.2.2), .long ((Int32.toInt64 q.2.2.1) - (Int32.toInt64 q.1)), .long ((Int32.toInt64 q.2.2.2) - (Int32.toInt64 q.2.1)), .long (if (Int32.toInt64 q.2.2.1) < (Int32.toInt64 q.1) then (Int32.toInt64 q.2.2.1) else (Int32.toInt64 q.1)), .long (if (Int32.toInt64 q.2.2.2) < (Int32.toInt64 q.2.1) then (Int32.toInt64 q.2.2.2) else (Int32.toInt64 q.2.1)), .long (if (Int32.toInt64 q.2.2.1) < (Int32.toInt64 q.1) then (Int32.toInt64 q.1) else (Int32.toInt64 q.2.2.1)), .long (if (Int32.toInt64 q.2.2.2) < (Int32.toInt64 q.2.1) then (Int32.toInt64 q.2.1) else (Int32.toInt64 q.2.2.2))]))] := hD
  exact W.vret hx hb hrt (fun t ht hW => ⟨⟨(), rfl, trivial, ⟨by rw [ht]; exact hP, hD⟩⟩, hS.F ht⟩) hS.2.2 d_S_init_115 hlocks
set_option maxHeartbeats 4000000 in
set_option maxRecDepth 100000 in
theorem k_S_fromKey (l : Launch) (D : va_G) (E : ClassId × ClassId × ClassId × ClassId) (h0 : Nat) (q : SQ) : Met l y_S_fromKey (.code y_S_fromKey c_S_fromKey 1 (some .long) :: gw) ({ frames := 1, cells := 0, slots := 0, locals := 23 } : Room) (rP D E [(h0, .inr (1, sgF q))] [.ref h0]) (vp_Sl (fun r => r = sg_key (sx q) (sy q))) 0 0 (fun _ => False) := by
  refine rd_ofW (by decide) (Nat.le_of_ble_eq_true rfl) ?_
  intro p e s m below meth c B hP hK ls hl
  obtain ⟨hx, hb, hrt, hml, hown, hts, hG, hlocks, hin⟩ := B
  have hl : lv_has ls 1 [(0, .ref h0)] := hl
  refine lv_aload_n hx hb d_S_fromKey_0 rfl (lv_at hl 0 rfl) ?_
  refine va_get (D := D) (ci := 1) (v := .long (sx q)) (C := K_S) (T := F_S) (N := 10) hx hb hG in_S hown hK.1 hP 0 rfl rfl 0 (by decide) (hG _ wd_270) (fun _ h9 => h9) rfl d_S_fromKey_1 ?_
  refine lv_aload_n hx hb d_S_fromKey_4 rfl (lv_at hl 0 rfl) ?_
  refine va_get (D := D) (ci := 1) (v := .long (sy q)) (C := K_S) (T := F_S) (N := 10) hx hb hG in_S hown hK.1 hP 0 rfl rfl 1 (by decide) (hG _ wd_271) (fun _ h9 => h9) rfl d_S_fromKey_5 ?_
  refine vp_callSl (run_of (va_runSN (host := "PixelSnapper") (As := [.long (sx q), .long (sy q)]) (rest := []) ⟨hx, hb, hml, hown, hts⟩ (k_P_keyOf l D E (sx q) (sy q)) ⟨va_cnB 2 hts (gw_gi wd_389) rfl rfl rfl (gf_nest hK.2) (hG _ wd_37) (by decide +kernel) ⟨Nat.le_of_ble_eq_true rfl, Nat.le_of_ble_eq_true rfl⟩, hG _ wd_388, trivial⟩ (rP_S (hP.sub (ws' := []) [] rfl) hK) rfl rfl hl.1 rfl (lv_room (Nat.le_of_ble_eq_true rfl)) d_S_fromKey_8 ⟨Nat.le_of_ble_eq_true rfl, Nat.le_of_ble_eq_true rfl⟩)) (fun r1 hr1 => ?_)
  exact W.lret (v := r1) hx hb hrt (fun t ht hW => ⟨r1, rfl, hr1, ht⟩) (fun q h => nomatch h) d_S_fromKey_11 hlocks
set_option maxHeartbeats 4000000 in
set_option maxRecDepth 100000 in
theorem k_S_toKey (l : Launch) (D : va_G) (E : ClassId × ClassId × ClassId × ClassId) (h0 : Nat) (q : SQ) : Met l y_S_toKey (.code y_S_toKey c_S_toKey 1 (some .long) :: gw) ({ frames := 1, cells := 0, slots := 0, locals := 23 } : Room) (rP D E [(h0, .inr (1, sgF q))] [.ref h0]) (vp_Sl (fun r => r = sg_key (su q) (sv q))) 0 0 (fun _ => False) := by
  refine rd_ofW (by decide) (Nat.le_of_ble_eq_true rfl) ?_
  intro p e s m below meth c B hP hK ls hl
  obtain ⟨hx, hb, hrt, hml, hown, hts, hG, hlocks, hin⟩ := B
  have hl : lv_has ls 1 [(0, .ref h0)] := hl
  refine lv_aload_n hx hb d_S_toKey_0 rfl (lv_at hl 0 rfl) ?_
  refine va_get (D := D) (ci := 1) (v := .long (su q)) (C := K_S) (T := F_S) (N := 10) hx hb hG in_S hown hK.1 hP 0 rfl rfl 2 (by decide) (hG _ wd_272) (fun _ h9 => h9) rfl d_S_toKey_1 ?_
  refine lv_aload_n hx hb d_S_toKey_4 rfl (lv_at hl 0 rfl) ?_
  refine va_get (D := D) (ci := 1) (v := .long (sv q)) (C := K_S) (T := F_S) (N := 10) hx hb hG in_S hown hK.1 hP 0 rfl rfl 3 (by decide) (hG _ wd_273) (fun _ h9 => h9) rfl d_S_toKey_5 ?_
  refine vp_callSl (run_of (va_runSN (host := "PixelSnapper") (As := [.long (su q), .long (sv q)]) (rest := []) ⟨hx, hb, hml, hown, hts⟩ (k_P_keyOf l D E (su q) (sv q)) ⟨va_cnB 2 hts (gw_gi wd_389) rfl rfl rfl (gf_nest hK.2) (hG _ wd_37) (by decide +kernel) ⟨Nat.le_of_ble_eq_true rfl, Nat.le_of_ble_eq_true rfl⟩, hG _ wd_388, trivial⟩ (rP_S (hP.sub (ws' := []) [] rfl) hK) rfl rfl hl.1 rfl (lv_room (Nat.le_of_ble_eq_true rfl)) d_S_toKey_8 ⟨Nat.le_of_ble_eq_true rfl, Nat.le_of_ble_eq_true rfl⟩)) (fun r1 hr1 => ?_)
  exact W.lret (v := r1) hx hb hrt (fun t ht hW => ⟨r1, rfl, hr1, ht⟩) (fun q h => nomatch h) d_S_toKey_11 hlocks
set_option maxHeartbeats 4000000 in
set_option maxRecDepth 100000 in
theorem k_S_leastKey (l : Launch) (D : va_G) (E : ClassId × ClassId × ClassId × ClassId) (h0 : Nat) (q : SQ) : Met l y_S_leastKey (.code y_S_leastKey c_S_leastKey 1 (some .long) :: gw) ({ frames := 1, cells := 0, slots := 0, locals := 23 } : Room) (rP D E [(h0, .inr (1, sgF q))] [.ref h0]) (vp_Sl (fun r => r = sg_key (slx q) (sly q))) 0 0 (fun _ => False) := by
  refine rd_ofW (by decide) (Nat.le_of_ble_eq_true rfl) ?_
  intro p e s m below meth c B hP hK ls hl
  obtain ⟨hx, hb, hrt, hml, hown, hts, hG, hlocks, hin⟩ := B
  have hl : lv_has ls 1 [(0, .ref h0)] := hl
  refine lv_aload_n hx hb d_S_leastKey_0 rfl (lv_at hl 0 rfl) ?_
  refine va_get (D := D) (ci := 1) (v := .long (slx q)) (C := K_S) (T := F_S) (N := 10) hx hb hG in_S hown hK.1 hP 0 rfl rfl 6 (by decide) (hG _ wd_276) (fun _ h9 => h9) rfl d_S_leastKey_1 ?_
  refine lv_aload_n hx hb d_S_leastKey_4 rfl (lv_at hl 0 rfl) ?_
  refine va_get (D := D) (ci := 1) (v := .long (sly q)) (C := K_S) (T := F_S) (N := 10) hx hb hG in_S hown hK.1 hP 0 rfl rfl 7 (by decide) (hG _ wd_277) (fun _ h9 => h9) rfl d_S_leastKey_5 ?_
  refine vp_callSl (run_of (va_runSN (host := "PixelSnapper") (As := [.long (slx q), .long (sly q)]) (rest := []) ⟨hx, hb, hml, hown, hts⟩ (k_P_keyOf l D E (slx q) (sly q)) ⟨va_cnB 2 hts (gw_gi wd_389) rfl rfl rfl (gf_nest hK.2) (hG _ wd_37) (by decide +kernel) ⟨Nat.le_of_ble_eq_true rfl, Nat.le_of_ble_eq_true rfl⟩, hG _ wd_388, trivial⟩ (rP_S (hP.sub (ws' := []) [] rfl) hK) rfl rfl hl.1 rfl (lv_room (Nat.le_of_ble_eq_true rfl)) d_S_leastKey_8 ⟨Nat.le_of_ble_eq_true rfl, Nat.le_of_ble_eq_true rfl⟩)) (fun r1 hr1 => ?_)
  exact W.lret (v := r1) hx hb hrt (fun t ht hW => ⟨r1, rfl, hr1, ht⟩) (fun q h => nomatch h) d_S_leastKey_11 hlocks
set_option maxHeartbeats 4000000 in
set_option maxRecDepth 100000 in
theorem k_S_mostKey (l : Launch) (D : va_G) (E : ClassId × ClassId × ClassId × ClassId) (h0 : Nat) (q : SQ) : Met l y_S_mostKey (.code y_S_mostKey c_S_mostKey 1 (some .long) :: gw) ({ frames := 1, cells := 0, slots := 0, locals := 23 } : Room) (rP D E [(h0, .inr (1, sgF q))] [.ref h0]) (vp_Sl (fun r => r = sg_key (smx q) (smy q))) 0 0 (fun _ => False) := by
  refine rd_ofW (by decide) (Nat.le_of_ble_eq_true rfl) ?_
  intro p e s m below meth c B hP hK ls hl
  obtain ⟨hx, hb, hrt, hml, hown, hts, hG, hlocks, hin⟩ := B
  have hl : lv_has ls 1 [(0, .ref h0)] := hl
  refine lv_aload_n hx hb d_S_mostKey_0 rfl (lv_at hl 0 rfl) ?_
  refine va_get (D := D) (ci := 1) (v := .long (smx q)) (C := K_S) (T := F_S) (N := 10) hx hb hG in_S hown hK.1 hP 0 rfl rfl 8 (by decide) (hG _ wd_278) (fun _ h9 => h9) rfl d_S_mostKey_1 ?_
  refine lv_aload_n hx hb d_S_mostKey_4 rfl (lv_at hl 0 rfl) ?_
  refine va_get (D := D) (ci := 1) (v := .long (smy q)) (C := K_S) (T := F_S) (N := 10) hx hb hG in_S hown hK.1 hP 0 rfl rfl 9 (by decide) (hG _ wd_279) (fun _ h9 => h9) rfl d_S_mostKey_5 ?_
  refine vp_callSl (run_of (va_runSN (host := "PixelSnapper") (As := [.long (smx q), .long (smy q)]) (rest := []) ⟨hx, hb, hml, hown, hts⟩ (k_P_keyOf l D E (smx q) (smy q)) ⟨va_cnB 2 hts (gw_gi wd_389) rfl rfl rfl (gf_nest hK.2) (hG _ wd_37) (by decide +kernel) ⟨Nat.le_of_ble_eq_true rfl, Nat.le_of_ble_eq_true rfl⟩, hG _ wd_388, trivial⟩ (rP_S (hP.sub (ws' := []) [] rfl) hK) rfl rfl hl.1 rfl (lv_room (Nat.le_of_ble_eq_true rfl)) d_S_mostKey_8 ⟨Nat.le_of_ble_eq_true rfl, Nat.le_of_ble_eq_true rfl⟩)) (fun r1 hr1 => ?_)
  exact W.lret (v := r1) hx hb hrt (fun t ht hW => ⟨r1, rfl, hr1, ht⟩) (fun q h => nomatch h) d_S_mostKey_11 hlocks
set_option maxHeartbeats 4000000 in
set_option maxRecDepth 100000 in
theorem k_S_goesLeft (l : Launch) (D : va_G) (E : ClassId × ClassId × ClassId × ClassId) (h0 : Nat) (q : SQ) : Met l y_S_goesLeft (.code y_S_goesLeft c_S_goesLeft 1 (some .boolean) :: gw) ({ frames := 0, cells := 0, slots := 0, locals := 0 } : Room) (rP D E [(h0, .inr (1, sgF q))] [.ref h0]) (vp_Si (fun r => r = if swx q < 0 then 1 else 0)) 0 0 (fun _ => False) := by
  refine rd_ofW (by decide) (Nat.le_of_ble_eq_true rfl) ?_
  intro p e s m below meth c B hP hK ls hl
  obtain ⟨hx, hb, hrt, hml, hown, hts, hG, hlocks, hin⟩ := B
  have hl : lv_has ls 1 [(0, .ref h0)] := hl
  refine lv_aload_n hx hb d_S_goesLeft_0 rfl (lv_at hl 0 rfl) ?_
  refine va_get (D := D) (ci := 1) (v := .long (swx q)) (C := K_S) (T := F_S) (N := 10) hx hb hG in_S hown hK.1 hP 0 rfl rfl 4 (by decide) (hG _ wd_274) (fun _ h9 => h9) rfl d_S_goesLeft_1 ?_
  refine lv_lconst (v := 0) hx hb d_S_goesLeft_4 (by decide) ?_
  refine W.lcmp hx hb d_S_goesLeft_5 ?_
  refine lv_if_ge (tgt := 13) hx hb d_S_goesLeft_6 (by decide) (fun c1 => ?_) (fun c1 => ?_)
  · refine lv_iconst (v := 0) hx hb d_S_goesLeft_13 (by decide) ?_
    exact W.zret (v := 0) (ty := .boolean) hx hb hrt rfl (fun t ht hW => ⟨0, rfl, by rw [if_neg (lg_ge.mp c1)], ht⟩) (fun q h => nomatch h) d_S_goesLeft_14 hlocks
  · refine lv_iconst (v := 1) hx hb d_S_goesLeft_9 (by decide) ?_
    refine lv_goto (tgt := 14) hx hb d_S_goesLeft_10 (by decide) ?_
    exact W.zret (v := 1) (ty := .boolean) hx hb hrt rfl (fun t ht hW => ⟨1, rfl, by rw [if_pos (Classical.not_not.mp (fun y => c1 (lg_ge.mpr y)))], ht⟩) (fun q h => nomatch h) d_S_goesLeft_14 hlocks
set_option maxHeartbeats 4000000 in
set_option maxRecDepth 100000 in
theorem k_S_goesDown (l : Launch) (D : va_G) (E : ClassId × ClassId × ClassId × ClassId) (h0 : Nat) (q : SQ) : Met l y_S_goesDown (.code y_S_goesDown c_S_goesDown 1 (some .boolean) :: gw) ({ frames := 0, cells := 0, slots := 0, locals := 0 } : Room) (rP D E [(h0, .inr (1, sgF q))] [.ref h0]) (vp_Si (fun r => r = if swy q < 0 then 1 else 0)) 0 0 (fun _ => False) := by
  refine rd_ofW (by decide) (Nat.le_of_ble_eq_true rfl) ?_
  intro p e s m below meth c B hP hK ls hl
  obtain ⟨hx, hb, hrt, hml, hown, hts, hG, hlocks, hin⟩ := B
  have hl : lv_has ls 1 [(0, .ref h0)] := hl
  refine lv_aload_n hx hb d_S_goesDown_0 rfl (lv_at hl 0 rfl) ?_
  refine va_get (D := D) (ci := 1) (v := .long (swy q)) (C := K_S) (T := F_S) (N := 10) hx hb hG in_S hown hK.1 hP 0 rfl rfl 5 (by decide) (hG _ wd_275) (fun _ h9 => h9) rfl d_S_goesDown_1 ?_
  refine lv_lconst (v := 0) hx hb d_S_goesDown_4 (by decide) ?_
  refine W.lcmp hx hb d_S_goesDown_5 ?_
  refine lv_if_ge (tgt := 13) hx hb d_S_goesDown_6 (by decide) (fun c1 => ?_) (fun c1 => ?_)
  · refine lv_iconst (v := 0) hx hb d_S_goesDown_13 (by decide) ?_
    exact W.zret (v := 0) (ty := .boolean) hx hb hrt rfl (fun t ht hW => ⟨0, rfl, by rw [if_neg (lg_ge.mp c1)], ht⟩) (fun q h => nomatch h) d_S_goesDown_14 hlocks
  · refine lv_iconst (v := 1) hx hb d_S_goesDown_9 (by decide) ?_
    refine lv_goto (tgt := 14) hx hb d_S_goesDown_10 (by decide) ?_
    exact W.zret (v := 1) (ty := .boolean) hx hb hrt rfl (fun t ht hW => ⟨1, rfl, by rw [if_pos (Classical.not_not.mp (fun y => c1 (lg_ge.mpr y)))], ht⟩) (fun q h => nomatch h) d_S_goesDown_14 hlocks
set_option maxHeartbeats 4000000 in
set_option maxRecDepth 100000 in
theorem k_S_sideOf (l : Launch) (D : va_G) (E : ClassId × ClassId × ClassId × ClassId) (h0 : Nat) (q : SQ) (x y : Int64) : Met l y_S_sideOf (.code y_S_sideOf c_S_sideOf 5 (some .long) :: gw) ({ frames := 0, cells := 0, slots := 0, locals := 0 } : Room) (rP D E [(h0, .inr (1, sgF q))] [.ref h0, .long x, .long y]) (vp_Sl (fun r => r = sg_side q x y)) 0 0 (fun _ => False) := by
  refine rd_ofW (by decide) (Nat.le_of_ble_eq_true rfl) ?_
  intro p e s m below meth c B hP hK ls hl
  obtain ⟨hx, hb, hrt, hml, hown, hts, hG, hlocks, hin⟩ := B
  have hl : lv_has ls 5 [(0, .ref h0), (1, .long x), (3, .long y)] := hl
  refine lv_aload_n hx hb d_S_sideOf_0 rfl (lv_at hl 0 rfl) ?_
  refine va_get (D := D) (ci := 1) (v := .long (swx q)) (C := K_S) (T := F_S) (N := 10) hx hb hG in_S hown hK.1 hP 0 rfl rfl 4 (by decide) (hG _ wd_274) (fun _ h9 => h9) rfl d_S_sideOf_1 ?_
  refine lv_lload_n hx hb d_S_sideOf_4 rfl (lv_at hl 2 rfl) ?_
  refine lv_aload_n hx hb d_S_sideOf_5 rfl (lv_at hl 0 rfl) ?_
  refine va_get (D := D) (ci := 1) (v := .long (sy q)) (C := K_S) (T := F_S) (N := 10) hx hb hG in_S hown hK.1 hP 0 rfl rfl 1 (by decide) (hG _ wd_271) (fun _ h9 => h9) rfl d_S_sideOf_6 ?_
  refine lv_lsub hx hb d_S_sideOf_9 ?_
  refine lv_lmul hx hb d_S_sideOf_10 ?_
  refine lv_aload_n hx hb d_S_sideOf_11 rfl (lv_at hl 0 rfl) ?_
  refine va_get (D := D) (ci := 1) (v := .long (swy q)) (C := K_S) (T := F_S) (N := 10) hx hb hG in_S hown hK.1 hP 0 rfl rfl 5 (by decide) (hG _ wd_275) (fun _ h9 => h9) rfl d_S_sideOf_12 ?_
  refine lv_lload_n hx hb d_S_sideOf_15 rfl (lv_at hl 1 rfl) ?_
  refine lv_aload_n hx hb d_S_sideOf_16 rfl (lv_at hl 0 rfl) ?_
  refine va_get (D := D) (ci := 1) (v := .long (sx q)) (C := K_S) (T := F_S) (N := 10) hx hb hG in_S hown hK.1 hP 0 rfl rfl 0 (by decide) (hG _ wd_270) (fun _ h9 => h9) rfl d_S_sideOf_17 ?_
  refine lv_lsub hx hb d_S_sideOf_20 ?_
  refine lv_lmul hx hb d_S_sideOf_21 ?_
  refine lv_lsub hx hb d_S_sideOf_22 ?_
  exact W.lret (v := (((swx q) * (y - (sy q))) - ((swy q) * (x - (sx q))))) hx hb hrt (fun t ht hW => ⟨(((swx q) * (y - (sy q))) - ((swy q) * (x - (sx q)))), rfl, rfl, ht⟩) (fun q h => nomatch h) d_S_sideOf_23 hlocks
end
section
theorem d_S_crosses_0 : decode c_S_crosses 0 = .ok (.aload_n 0, 1) := by decide +kernel
theorem d_S_crosses_1 : decode c_S_crosses 1 = .ok (.aload_n 1, 1) := by decide +kernel
theorem d_S_crosses_2 : decode c_S_crosses 2 = .ok (.invokevirtual 62, 3) := by decide +kernel
theorem d_S_crosses_5 : decode c_S_crosses 5 = .ok (.ifCond .eq 15, 3) := by decide +kernel
theorem d_S_crosses_8 : decode c_S_crosses 8 = .ok (.aload_n 1, 1) := by decide +kernel
theorem d_S_crosses_9 : decode c_S_crosses 9 = .ok (.aload_n 0, 1) := by decide +kernel
theorem d_S_crosses_10 : decode c_S_crosses 10 = .ok (.invokevirtual 62, 3) := by decide +kernel
theorem d_S_crosses_13 : decode c_S_crosses 13 = .ok (.ifCond .eq 7, 3) := by decide +kernel
theorem d_S_crosses_16 : decode c_S_crosses 16 = .ok (.iconst 1, 1) := by decide +kernel
theorem d_S_crosses_17 : decode c_S_crosses 17 = .ok (.goto 4, 3) := by decide +kernel
theorem d_S_crosses_20 : decode c_S_crosses 20 = .ok (.iconst 0, 1) := by decide +kernel
theorem d_S_crosses_21 : decode c_S_crosses 21 = .ok (.ireturn, 1) := by decide +kernel
theorem d_S_enters_0 : decode c_S_enters 0 = .ok (.lload_n 1, 1) := by decide +kernel
theorem d_S_enters_1 : decode c_S_enters 1 = .ok (.aload_n 0, 1) := by decide +kernel
theorem d_S_enters_2 : decode c_S_enters 2 = .ok (.getfield 36, 3) := by decide +kernel
theorem d_S_enters_5 : decode c_S_enters 5 = .ok (.lcmp, 1) := by decide +kernel
theorem d_S_enters_6 : decode c_S_enters 6 = .ok (.ifCond .lt 43, 3) := by decide +kernel
theorem d_S_enters_9 : decode c_S_enters 9 = .ok (.lload_n 1, 1) := by decide +kernel
theorem d_S_enters_10 : decode c_S_enters 10 = .ok (.aload_n 0, 1) := by decide +kernel
theorem d_S_enters_11 : decode c_S_enters 11 = .ok (.getfield 45, 3) := by decide +kernel
theorem d_S_enters_14 : decode c_S_enters 14 = .ok (.lcmp, 1) := by decide +kernel
theorem d_S_enters_15 : decode c_S_enters 15 = .ok (.ifCond .gt 34, 3) := by decide +kernel
theorem d_S_enters_18 : decode c_S_enters 18 = .ok (.lload_n 3, 1) := by decide +kernel
theorem d_S_enters_19 : decode c_S_enters 19 = .ok (.aload_n 0, 1) := by decide +kernel
theorem d_S_enters_20 : decode c_S_enters 20 = .ok (.getfield 39, 3) := by decide +kernel
theorem d_S_enters_23 : decode c_S_enters 23 = .ok (.lcmp, 1) := by decide +kernel
theorem d_S_enters_24 : decode c_S_enters 24 = .ok (.ifCond .lt 25, 3) := by decide +kernel
theorem d_S_enters_27 : decode c_S_enters 27 = .ok (.lload_n 3, 1) := by decide +kernel
theorem d_S_enters_28 : decode c_S_enters 28 = .ok (.aload_n 0, 1) := by decide +kernel
theorem d_S_enters_29 : decode c_S_enters 29 = .ok (.getfield 48, 3) := by decide +kernel
theorem d_S_enters_32 : decode c_S_enters 32 = .ok (.lcmp, 1) := by decide +kernel
theorem d_S_enters_33 : decode c_S_enters 33 = .ok (.ifCond .gt 16, 3) := by decide +kernel
theorem d_S_enters_36 : decode c_S_enters 36 = .ok (.aload_n 0, 1) := by decide +kernel
theorem d_S_enters_37 : decode c_S_enters 37 = .ok (.lload_n 1, 1) := by decide +kernel
theorem d_S_enters_38 : decode c_S_enters 38 = .ok (.lload_n 3, 1) := by decide +kernel
theorem d_S_enters_39 : decode c_S_enters 39 = .ok (.invokevirtual 54, 3) := by decide +kernel
theorem d_S_enters_42 : decode c_S_enters 42 = .ok (.ifCond .eq 7, 3) := by decide +kernel
theorem d_S_enters_45 : decode c_S_enters 45 = .ok (.iconst 1, 1) := by decide +kernel
theorem d_S_enters_46 : decode c_S_enters 46 = .ok (.goto 4, 3) := by decide +kernel
theorem d_S_enters_49 : decode c_S_enters 49 = .ok (.iconst 0, 1) := by decide +kernel
theorem d_S_enters_50 : decode c_S_enters 50 = .ok (.ireturn, 1) := by decide +kernel
theorem d_S_lineEnters_0 : decode c_S_lineEnters 0 = .ok (.ldc2_w 58, 3) := by decide +kernel
theorem d_S_lineEnters_3 : decode c_S_lineEnters 3 = .ok (.aload_n 0, 1) := by decide +kernel
theorem d_S_lineEnters_4 : decode c_S_lineEnters 4 = .ok (.getfield 27, 3) := by decide +kernel
theorem d_S_lineEnters_7 : decode c_S_lineEnters 7 = .ok (.lmul, 1) := by decide +kernel
theorem d_S_lineEnters_8 : decode c_S_lineEnters 8 = .ok (.lstore 5, 2) := by decide +kernel
theorem d_S_lineEnters_10 : decode c_S_lineEnters 10 = .ok (.ldc2_w 60, 3) := by decide +kernel
theorem d_S_lineEnters_13 : decode c_S_lineEnters 13 = .ok (.aload_n 0, 1) := by decide +kernel
theorem d_S_lineEnters_14 : decode c_S_lineEnters 14 = .ok (.getfield 24, 3) := by decide +kernel
theorem d_S_lineEnters_17 : decode c_S_lineEnters 17 = .ok (.lmul, 1) := by decide +kernel
theorem d_S_lineEnters_18 : decode c_S_lineEnters 18 = .ok (.lstore 7, 2) := by decide +kernel
theorem d_S_lineEnters_20 : decode c_S_lineEnters 20 = .ok (.aload_n 0, 1) := by decide +kernel
theorem d_S_lineEnters_21 : decode c_S_lineEnters 21 = .ok (.getfield 24, 3) := by decide +kernel
theorem d_S_lineEnters_24 : decode c_S_lineEnters 24 = .ok (.ldc2_w 60, 3) := by decide +kernel
theorem d_S_lineEnters_27 : decode c_S_lineEnters 27 = .ok (.lload_n 3, 1) := by decide +kernel
theorem d_S_lineEnters_28 : decode c_S_lineEnters 28 = .ok (.aload_n 0, 1) := by decide +kernel
theorem d_S_lineEnters_29 : decode c_S_lineEnters 29 = .ok (.getfield 15, 3) := by decide +kernel
theorem d_S_lineEnters_32 : decode c_S_lineEnters 32 = .ok (.lsub, 1) := by decide +kernel
theorem d_S_lineEnters_33 : decode c_S_lineEnters 33 = .ok (.lmul, 1) := by decide +kernel
theorem d_S_lineEnters_34 : decode c_S_lineEnters 34 = .ok (.lconst 1, 1) := by decide +kernel
theorem d_S_lineEnters_35 : decode c_S_lineEnters 35 = .ok (.lsub, 1) := by decide +kernel
theorem d_S_lineEnters_36 : decode c_S_lineEnters 36 = .ok (.lmul, 1) := by decide +kernel
theorem d_S_lineEnters_37 : decode c_S_lineEnters 37 = .ok (.aload_n 0, 1) := by decide +kernel
theorem d_S_lineEnters_38 : decode c_S_lineEnters 38 = .ok (.getfield 27, 3) := by decide +kernel
theorem d_S_lineEnters_41 : decode c_S_lineEnters 41 = .ok (.ldc2_w 60, 3) := by decide +kernel
theorem d_S_lineEnters_44 : decode c_S_lineEnters 44 = .ok (.lload_n 1, 1) := by decide +kernel
theorem d_S_lineEnters_45 : decode c_S_lineEnters 45 = .ok (.aload_n 0, 1) := by decide +kernel
theorem d_S_lineEnters_46 : decode c_S_lineEnters 46 = .ok (.getfield 9, 3) := by decide +kernel
theorem d_S_lineEnters_49 : decode c_S_lineEnters 49 = .ok (.lsub, 1) := by decide +kernel
theorem d_S_lineEnters_50 : decode c_S_lineEnters 50 = .ok (.lmul, 1) := by decide +kernel
theorem d_S_lineEnters_51 : decode c_S_lineEnters 51 = .ok (.lconst 1, 1) := by decide +kernel
theorem d_S_lineEnters_52 : decode c_S_lineEnters 52 = .ok (.lsub, 1) := by decide +kernel
theorem d_S_lineEnters_53 : decode c_S_lineEnters 53 = .ok (.lmul, 1) := by decide +kernel
theorem d_S_lineEnters_54 : decode c_S_lineEnters 54 = .ok (.lsub, 1) := by decide +kernel
theorem d_S_lineEnters_55 : decode c_S_lineEnters 55 = .ok (.lstore 9, 2) := by decide +kernel
theorem d_S_lineEnters_57 : decode c_S_lineEnters 57 = .ok (.lload 9, 2) := by decide +kernel
theorem d_S_lineEnters_59 : decode c_S_lineEnters 59 = .ok (.lload 5, 2) := by decide +kernel
theorem d_S_lineEnters_61 : decode c_S_lineEnters 61 = .ok (.lconst 0, 1) := by decide +kernel
theorem d_S_lineEnters_62 : decode c_S_lineEnters 62 = .ok (.invokestatic 30, 3) := by decide +kernel
theorem d_S_lineEnters_65 : decode c_S_lineEnters 65 = .ok (.ladd, 1) := by decide +kernel
theorem d_S_lineEnters_66 : decode c_S_lineEnters 66 = .ok (.lload 7, 2) := by decide +kernel
theorem d_S_lineEnters_68 : decode c_S_lineEnters 68 = .ok (.lconst 0, 1) := by decide +kernel
theorem d_S_lineEnters_69 : decode c_S_lineEnters 69 = .ok (.invokestatic 30, 3) := by decide +kernel
theorem d_S_lineEnters_72 : decode c_S_lineEnters 72 = .ok (.ladd, 1) := by decide +kernel
theorem d_S_lineEnters_73 : decode c_S_lineEnters 73 = .ok (.lstore 11, 2) := by decide +kernel
theorem d_S_lineEnters_75 : decode c_S_lineEnters 75 = .ok (.lload 9, 2) := by decide +kernel
theorem d_S_lineEnters_77 : decode c_S_lineEnters 77 = .ok (.lload 5, 2) := by decide +kernel
theorem d_S_lineEnters_79 : decode c_S_lineEnters 79 = .ok (.lconst 0, 1) := by decide +kernel
theorem d_S_lineEnters_80 : decode c_S_lineEnters 80 = .ok (.invokestatic 42, 3) := by decide +kernel
theorem d_S_lineEnters_83 : decode c_S_lineEnters 83 = .ok (.ladd, 1) := by decide +kernel
theorem d_S_lineEnters_84 : decode c_S_lineEnters 84 = .ok (.lload 7, 2) := by decide +kernel
theorem d_S_lineEnters_86 : decode c_S_lineEnters 86 = .ok (.lconst 0, 1) := by decide +kernel
theorem d_S_lineEnters_87 : decode c_S_lineEnters 87 = .ok (.invokestatic 42, 3) := by decide +kernel
theorem d_S_lineEnters_90 : decode c_S_lineEnters 90 = .ok (.ladd, 1) := by decide +kernel
theorem d_S_lineEnters_91 : decode c_S_lineEnters 91 = .ok (.lstore 13, 2) := by decide +kernel
theorem d_S_lineEnters_93 : decode c_S_lineEnters 93 = .ok (.lload 5, 2) := by decide +kernel
theorem d_S_lineEnters_95 : decode c_S_lineEnters 95 = .ok (.lconst 0, 1) := by decide +kernel
theorem d_S_lineEnters_96 : decode c_S_lineEnters 96 = .ok (.lcmp, 1) := by decide +kernel
theorem d_S_lineEnters_97 : decode c_S_lineEnters 97 = .ok (.ifCond .lt 14, 3) := by decide +kernel
theorem d_S_lineEnters_100 : decode c_S_lineEnters 100 = .ok (.lload 7, 2) := by decide +kernel
theorem d_S_lineEnters_102 : decode c_S_lineEnters 102 = .ok (.lconst 0, 1) := by decide +kernel
theorem d_S_lineEnters_103 : decode c_S_lineEnters 103 = .ok (.lcmp, 1) := by decide +kernel
theorem d_S_lineEnters_104 : decode c_S_lineEnters 104 = .ok (.ifCond .lt 7, 3) := by decide +kernel
theorem d_S_lineEnters_107 : decode c_S_lineEnters 107 = .ok (.iconst 1, 1) := by decide +kernel
theorem d_S_lineEnters_108 : decode c_S_lineEnters 108 = .ok (.goto 4, 3) := by decide +kernel
theorem d_S_lineEnters_111 : decode c_S_lineEnters 111 = .ok (.iconst 0, 1) := by decide +kernel
theorem d_S_lineEnters_112 : decode c_S_lineEnters 112 = .ok (.istore 15, 2) := by decide +kernel
theorem d_S_lineEnters_114 : decode c_S_lineEnters 114 = .ok (.lload 5, 2) := by decide +kernel
theorem d_S_lineEnters_116 : decode c_S_lineEnters 116 = .ok (.lconst 0, 1) := by decide +kernel
theorem d_S_lineEnters_117 : decode c_S_lineEnters 117 = .ok (.lcmp, 1) := by decide +kernel
theorem d_S_lineEnters_118 : decode c_S_lineEnters 118 = .ok (.ifCond .gt 14, 3) := by decide +kernel
theorem d_S_lineEnters_121 : decode c_S_lineEnters 121 = .ok (.lload 7, 2) := by decide +kernel
theorem d_S_lineEnters_123 : decode c_S_lineEnters 123 = .ok (.lconst 0, 1) := by decide +kernel
theorem d_S_lineEnters_124 : decode c_S_lineEnters 124 = .ok (.lcmp, 1) := by decide +kernel
theorem d_S_lineEnters_125 : decode c_S_lineEnters 125 = .ok (.ifCond .gt 7, 3) := by decide +kernel
theorem d_S_lineEnters_128 : decode c_S_lineEnters 128 = .ok (.iconst 1, 1) := by decide +kernel
theorem d_S_lineEnters_129 : decode c_S_lineEnters 129 = .ok (.goto 4, 3) := by decide +kernel
theorem d_S_lineEnters_132 : decode c_S_lineEnters 132 = .ok (.iconst 0, 1) := by decide +kernel
theorem d_S_lineEnters_133 : decode c_S_lineEnters 133 = .ok (.istore 16, 2) := by decide +kernel
theorem d_S_lineEnters_135 : decode c_S_lineEnters 135 = .ok (.lload 11, 2) := by decide +kernel
theorem d_S_lineEnters_137 : decode c_S_lineEnters 137 = .ok (.lconst 0, 1) := by decide +kernel
theorem d_S_lineEnters_138 : decode c_S_lineEnters 138 = .ok (.lcmp, 1) := by decide +kernel
theorem d_S_lineEnters_139 : decode c_S_lineEnters 139 = .ok (.ifCond .lt 15, 3) := by decide +kernel
theorem d_S_lineEnters_142 : decode c_S_lineEnters 142 = .ok (.lload 11, 2) := by decide +kernel
theorem d_S_lineEnters_144 : decode c_S_lineEnters 144 = .ok (.lconst 0, 1) := by decide +kernel
theorem d_S_lineEnters_145 : decode c_S_lineEnters 145 = .ok (.lcmp, 1) := by decide +kernel
theorem d_S_lineEnters_146 : decode c_S_lineEnters 146 = .ok (.ifCond .ne 31, 3) := by decide +kernel
theorem d_S_lineEnters_149 : decode c_S_lineEnters 149 = .ok (.iload 15, 2) := by decide +kernel
theorem d_S_lineEnters_151 : decode c_S_lineEnters 151 = .ok (.ifCond .eq 26, 3) := by decide +kernel
theorem d_S_lineEnters_154 : decode c_S_lineEnters 154 = .ok (.lload 13, 2) := by decide +kernel
theorem d_S_lineEnters_156 : decode c_S_lineEnters 156 = .ok (.lconst 0, 1) := by decide +kernel
theorem d_S_lineEnters_157 : decode c_S_lineEnters 157 = .ok (.lcmp, 1) := by decide +kernel
theorem d_S_lineEnters_158 : decode c_S_lineEnters 158 = .ok (.ifCond .gt 15, 3) := by decide +kernel
theorem d_S_lineEnters_161 : decode c_S_lineEnters 161 = .ok (.lload 13, 2) := by decide +kernel
theorem d_S_lineEnters_163 : decode c_S_lineEnters 163 = .ok (.lconst 0, 1) := by decide +kernel
theorem d_S_lineEnters_164 : decode c_S_lineEnters 164 = .ok (.lcmp, 1) := by decide +kernel
theorem d_S_lineEnters_165 : decode c_S_lineEnters 165 = .ok (.ifCond .ne 12, 3) := by decide +kernel
theorem d_S_lineEnters_168 : decode c_S_lineEnters 168 = .ok (.iload 16, 2) := by decide +kernel
theorem d_S_lineEnters_170 : decode c_S_lineEnters 170 = .ok (.ifCond .eq 7, 3) := by decide +kernel
theorem d_S_lineEnters_173 : decode c_S_lineEnters 173 = .ok (.iconst 1, 1) := by decide +kernel
theorem d_S_lineEnters_174 : decode c_S_lineEnters 174 = .ok (.goto 4, 3) := by decide +kernel
theorem d_S_lineEnters_177 : decode c_S_lineEnters 177 = .ok (.iconst 0, 1) := by decide +kernel
theorem d_S_lineEnters_178 : decode c_S_lineEnters 178 = .ok (.ireturn, 1) := by decide +kernel
theorem d_S_parts_0 : decode c_S_parts 0 = .ok (.aload_n 0, 1) := by decide +kernel
theorem d_S_parts_1 : decode c_S_parts 1 = .ok (.aload_n 1, 1) := by decide +kernel
theorem d_S_parts_2 : decode c_S_parts 2 = .ok (.getfield 9, 3) := by decide +kernel
theorem d_S_parts_5 : decode c_S_parts 5 = .ok (.aload_n 1, 1) := by decide +kernel
theorem d_S_parts_6 : decode c_S_parts 6 = .ok (.getfield 15, 3) := by decide +kernel
theorem d_S_parts_9 : decode c_S_parts 9 = .ok (.invokevirtual 66, 3) := by decide +kernel
theorem d_S_parts_12 : decode c_S_parts 12 = .ok (.lstore_n 2, 1) := by decide +kernel
theorem d_S_parts_13 : decode c_S_parts 13 = .ok (.lload_n 2, 1) := by decide +kernel
theorem d_S_parts_14 : decode c_S_parts 14 = .ok (.lconst 0, 1) := by decide +kernel
theorem d_S_parts_15 : decode c_S_parts 15 = .ok (.lcmp, 1) := by decide +kernel
theorem d_S_parts_16 : decode c_S_parts 16 = .ok (.ifCond .ne 5, 3) := by decide +kernel
theorem d_S_parts_19 : decode c_S_parts 19 = .ok (.iconst 0, 1) := by decide +kernel
theorem d_S_parts_20 : decode c_S_parts 20 = .ok (.ireturn, 1) := by decide +kernel
theorem d_S_parts_21 : decode c_S_parts 21 = .ok (.aload_n 0, 1) := by decide +kernel
theorem d_S_parts_22 : decode c_S_parts 22 = .ok (.aload_n 1, 1) := by decide +kernel
theorem d_S_parts_23 : decode c_S_parts 23 = .ok (.getfield 18, 3) := by decide +kernel
theorem d_S_parts_26 : decode c_S_parts 26 = .ok (.aload_n 1, 1) := by decide +kernel
theorem d_S_parts_27 : decode c_S_parts 27 = .ok (.getfield 21, 3) := by decide +kernel
theorem d_S_parts_30 : decode c_S_parts 30 = .ok (.invokevirtual 66, 3) := by decide +kernel
theorem d_S_parts_33 : decode c_S_parts 33 = .ok (.lstore 4, 2) := by decide +kernel
theorem d_S_parts_35 : decode c_S_parts 35 = .ok (.lload_n 2, 1) := by decide +kernel
theorem d_S_parts_36 : decode c_S_parts 36 = .ok (.lconst 0, 1) := by decide +kernel
theorem d_S_parts_37 : decode c_S_parts 37 = .ok (.lcmp, 1) := by decide +kernel
theorem d_S_parts_38 : decode c_S_parts 38 = .ok (.ifCond .ge 18, 3) := by decide +kernel
theorem d_S_parts_41 : decode c_S_parts 41 = .ok (.lload 4, 2) := by decide +kernel
theorem d_S_parts_43 : decode c_S_parts 43 = .ok (.lconst 0, 1) := by decide +kernel
theorem d_S_parts_44 : decode c_S_parts 44 = .ok (.lcmp, 1) := by decide +kernel
theorem d_S_parts_45 : decode c_S_parts 45 = .ok (.ifCond .le 7, 3) := by decide +kernel
theorem d_S_parts_48 : decode c_S_parts 48 = .ok (.iconst 1, 1) := by decide +kernel
theorem d_S_parts_49 : decode c_S_parts 49 = .ok (.goto 19, 3) := by decide +kernel
theorem d_S_parts_52 : decode c_S_parts 52 = .ok (.iconst 0, 1) := by decide +kernel
theorem d_S_parts_53 : decode c_S_parts 53 = .ok (.goto 15, 3) := by decide +kernel
theorem d_S_parts_56 : decode c_S_parts 56 = .ok (.lload 4, 2) := by decide +kernel
theorem d_S_parts_58 : decode c_S_parts 58 = .ok (.lconst 0, 1) := by decide +kernel
theorem d_S_parts_59 : decode c_S_parts 59 = .ok (.lcmp, 1) := by decide +kernel
theorem d_S_parts_60 : decode c_S_parts 60 = .ok (.ifCond .ge 7, 3) := by decide +kernel
theorem d_S_parts_63 : decode c_S_parts 63 = .ok (.iconst 1, 1) := by decide +kernel
theorem d_S_parts_64 : decode c_S_parts 64 = .ok (.goto 4, 3) := by decide +kernel
theorem d_S_parts_67 : decode c_S_parts 67 = .ok (.iconst 0, 1) := by decide +kernel
theorem d_S_parts_68 : decode c_S_parts 68 = .ok (.ireturn, 1) := by decide +kernel
def ln_least (ax ay c : Int64) : Int64 := c + (if 0 < ax then 0 else ax) + (if 0 < ay then 0 else ay)
def ln_most (ax ay c : Int64) : Int64 := c + (if 0 < ax then ax else 0) + (if 0 < ay then ay else 0)
def ln_in (ax ay c : Int64) : Prop := (ln_least ax ay c < 0 ∨ (ln_least ax ay c = 0 ∧ ¬ ax < 0 ∧ ¬ ay < 0)) ∧ (0 < ln_most ax ay c ∨ (ln_most ax ay c = 0 ∧ ¬ 0 < ax ∧ ¬ 0 < ay))
def sg_line (q : SQ) (x y : Int64) : Prop := ln_in (-2 * swy q) (2 * swx q) (swx q * (2 * (y - sy q) - 1) - swy q * (2 * (x - sx q) - 1))
noncomputable section
def b01 (p : Prop) : Int32 := @ite _ p (Classical.propDecidable p) 1 0
theorem b01_t {p : Prop} (h : p) : b01 p = 1 := @if_pos p (Classical.propDecidable p) h _ _ _
theorem b01_f {p : Prop} (h : ¬ p) : b01 p = 0 := @if_neg p (Classical.propDecidable p) h _ _ _
theorem b01_0 {p : Prop} (h : b01 p = 0) : ¬ p := fun q => by rw [b01_t q] at h; exact absurd h (by decide)
theorem b01_1 {p : Prop} (h : ¬ b01 p = 0) : p := Classical.byContradiction (fun q => h (b01_f q))
theorem b01_n (p : Prop) : narrow .boolean (.int (b01 p)) = .int (b01 p) := by
  by_cases h : p
  · rw [b01_t h]; rfl
  · rw [b01_f h]; rfl
theorem lg_ge' {x : Int64} {y : Int64} (h : ¬ 0 ≤ lg_cmp x y) : x < y := Classical.not_not.mp (fun z => h (lg_ge.mpr z))
theorem lg_le' {x : Int64} {y : Int64} (h : ¬ lg_cmp x y ≤ 0) : y < x := Classical.not_not.mp (fun z => h (lg_le.mpr z))
set_option maxHeartbeats 4000000 in
set_option maxRecDepth 100000 in
theorem k_S_lineEnters (l : Launch) (D : va_G) (E : ClassId × ClassId × ClassId × ClassId) (h0 : Nat) (q : SQ) (x y : Int64) : Met l y_S_lineEnters (.code y_S_lineEnters c_S_lineEnters 17 (some .boolean) :: gw) ({ frames := 1, cells := 0, slots := 0, locals := 19 } : Room) (rP D E [(h0, .inr (1, sgF q))] [.ref h0, .long x, .long y]) (vp_Si (fun r => r = b01 (sg_line q x y))) 0 0 (fun _ => False) := by
  refine rd_ofW (by decide) (Nat.le_of_ble_eq_true rfl) ?_
  intro p e s m below meth c B hP hK ls hl
  obtain ⟨hx, hb, hrt, hml, hown, hts, hG, hlocks, hin⟩ := B
  have hl : lv_has ls 17 [(0, .ref h0), (1, .long x), (3, .long y)] := hl
  refine lv_ldc2 hx hb hown (hG _ wd_507) d_S_lineEnters_0 ?_
  refine lv_aload_n hx hb d_S_lineEnters_3 rfl (lv_at hl 0 rfl) ?_
  refine va_get (D := D) (ci := 1) (v := .long (swy q)) (C := K_S) (T := F_S) (N := 10) hx hb hG in_S hown hK.1 hP 0 rfl rfl 5 (by decide) (hG _ wd_275) (fun _ h9 => h9) rfl d_S_lineEnters_4 ?_
  refine lv_lmul hx hb d_S_lineEnters_7 ?_
  refine lv_topl (fun ax eax => ?_)
  refine lv_lstore (lv' := [(5, .long ax), (0, .ref h0), (1, .long x), (3, .long y)]) hx hb d_S_lineEnters_8 hl (by decide) rfl (fun ls hl => ?_)
  refine lv_ldc2 hx hb hown (hG _ wd_462) d_S_lineEnters_10 ?_
  refine lv_aload_n hx hb d_S_lineEnters_13 rfl (lv_at hl 1 rfl) ?_
  refine va_get (D := D) (ci := 1) (v := .long (swx q)) (C := K_S) (T := F_S) (N := 10) hx hb hG in_S hown hK.1 hP 0 rfl rfl 4 (by decide) (hG _ wd_274) (fun _ h9 => h9) rfl d_S_lineEnters_14 ?_
  refine lv_lmul hx hb d_S_lineEnters_17 ?_
  refine lv_topl (fun ay eay => ?_)
  refine lv_lstore (lv' := [(7, .long ay), (5, .long ax), (0, .ref h0), (1, .long x), (3, .long y)]) hx hb d_S_lineEnters_18 hl (by decide) rfl (fun ls hl => ?_)
  refine lv_aload_n hx hb d_S_lineEnters_20 rfl (lv_at hl 2 rfl) ?_
  refine va_get (D := D) (ci := 1) (v := .long (swx q)) (C := K_S) (T := F_S) (N := 10) hx hb hG in_S hown hK.1 hP 0 rfl rfl 4 (by decide) (hG _ wd_274) (fun _ h9 => h9) rfl d_S_lineEnters_21 ?_
  refine lv_ldc2 hx hb hown (hG _ wd_462) d_S_lineEnters_24 ?_
  refine lv_lload_n hx hb d_S_lineEnters_27 rfl (lv_at hl 4 rfl) ?_
  refine lv_aload_n hx hb d_S_lineEnters_28 rfl (lv_at hl 2 rfl) ?_
  refine va_get (D := D) (ci := 1) (v := .long (sy q)) (C := K_S) (T := F_S) (N := 10) hx hb hG in_S hown hK.1 hP 0 rfl rfl 1 (by decide) (hG _ wd_271) (fun _ h9 => h9) rfl d_S_lineEnters_29 ?_
  refine lv_lsub hx hb d_S_lineEnters_32 ?_
  refine lv_lmul hx hb d_S_lineEnters_33 ?_
  refine lv_lconst (v := 1) hx hb d_S_lineEnters_34 (by decide) ?_
  refine lv_lsub hx hb d_S_lineEnters_35 ?_
  refine lv_lmul hx hb d_S_lineEnters_36 ?_
  refine lv_aload_n hx hb d_S_lineEnters_37 rfl (lv_at hl 2 rfl) ?_
  refine va_get (D := D) (ci := 1) (v := .long (swy q)) (C := K_S) (T := F_S) (N := 10) hx hb hG in_S hown hK.1 hP 0 rfl rfl 5 (by decide) (hG _ wd_275) (fun _ h9 => h9) rfl d_S_lineEnters_38 ?_
  refine lv_ldc2 hx hb hown (hG _ wd_462) d_S_lineEnters_41 ?_
  refine lv_lload_n hx hb d_S_lineEnters_44 rfl (lv_at hl 3 rfl) ?_
  refine lv_aload_n hx hb d_S_lineEnters_45 rfl (lv_at hl 2 rfl) ?_
  refine va_get (D := D) (ci := 1) (v := .long (sx q)) (C := K_S) (T := F_S) (N := 10) hx hb hG in_S hown hK.1 hP 0 rfl rfl 0 (by decide) (hG _ wd_270) (fun _ h9 => h9) rfl d_S_lineEnters_46 ?_
  refine lv_lsub hx hb d_S_lineEnters_49 ?_
  refine lv_lmul hx hb d_S_lineEnters_50 ?_
  refine lv_lconst (v := 1) hx hb d_S_lineEnters_51 (by decide) ?_
  refine lv_lsub hx hb d_S_lineEnters_52 ?_
  refine lv_lmul hx hb d_S_lineEnters_53 ?_
  refine lv_lsub hx hb d_S_lineEnters_54 ?_
  refine lv_topl (fun cc ecc => ?_)
  refine lv_lstore (lv' := [(9, .long cc), (7, .long ay), (5, .long ax), (0, .ref h0), (1, .long x), (3, .long y)]) hx hb d_S_lineEnters_55 hl (by decide) rfl (fun ls hl => ?_)
  refine lv_lload hx hb d_S_lineEnters_57 (lv_at hl 0 rfl) ?_
  refine lv_lload hx hb d_S_lineEnters_59 (lv_at hl 2 rfl) ?_
  refine lv_lconst (v := 0) hx hb d_S_lineEnters_61 (by decide) ?_
  refine va_mmin_long hx hb (hml.trans hl.1.symm) hown (hG _ wd_264) (hG _ wd_265) (hG _ wd_49) (hG _ wd_266) (Nat.le_of_ble_eq_true rfl) (Nat.le_of_ble_eq_true rfl) (Nat.le_of_ble_eq_true rfl) (Nat.le_of_ble_eq_true rfl) d_S_lineEnters_62 ?_
  refine lv_ladd hx hb d_S_lineEnters_65 ?_
  refine lv_lload hx hb d_S_lineEnters_66 (lv_at hl 1 rfl) ?_
  refine lv_lconst (v := 0) hx hb d_S_lineEnters_68 (by decide) ?_
  refine va_mmin_long hx hb (hml.trans hl.1.symm) hown (hG _ wd_264) (hG _ wd_265) (hG _ wd_49) (hG _ wd_266) (Nat.le_of_ble_eq_true rfl) (Nat.le_of_ble_eq_true rfl) (Nat.le_of_ble_eq_true rfl) (Nat.le_of_ble_eq_true rfl) d_S_lineEnters_69 ?_
  refine lv_ladd hx hb d_S_lineEnters_72 ?_
  refine lv_topl (fun le ele => ?_)
  refine lv_lstore (lv' := [(11, .long le), (9, .long cc), (7, .long ay), (5, .long ax), (0, .ref h0), (1, .long x), (3, .long y)]) hx hb d_S_lineEnters_73 hl (by decide) rfl (fun ls hl => ?_)
  refine lv_lload hx hb d_S_lineEnters_75 (lv_at hl 1 rfl) ?_
  refine lv_lload hx hb d_S_lineEnters_77 (lv_at hl 3 rfl) ?_
  refine lv_lconst (v := 0) hx hb d_S_lineEnters_79 (by decide) ?_
  refine va_mmax_long hx hb (hml.trans hl.1.symm) hown (hG _ wd_267) (hG _ wd_268) (hG _ wd_49) (hG _ wd_269) (Nat.le_of_ble_eq_true rfl) (Nat.le_of_ble_eq_true rfl) (Nat.le_of_ble_eq_true rfl) (Nat.le_of_ble_eq_true rfl) d_S_lineEnters_80 ?_
  refine lv_ladd hx hb d_S_lineEnters_83 ?_
  refine lv_lload hx hb d_S_lineEnters_84 (lv_at hl 2 rfl) ?_
  refine lv_lconst (v := 0) hx hb d_S_lineEnters_86 (by decide) ?_
  refine va_mmax_long hx hb (hml.trans hl.1.symm) hown (hG _ wd_267) (hG _ wd_268) (hG _ wd_49) (hG _ wd_269) (Nat.le_of_ble_eq_true rfl) (Nat.le_of_ble_eq_true rfl) (Nat.le_of_ble_eq_true rfl) (Nat.le_of_ble_eq_true rfl) d_S_lineEnters_87 ?_
  refine lv_ladd hx hb d_S_lineEnters_90 ?_
  refine lv_topl (fun mo emo => ?_)
  refine lv_lstore (lv' := [(13, .long mo), (11, .long le), (9, .long cc), (7, .long ay), (5, .long ax), (0, .ref h0), (1, .long x), (3, .long y)]) hx hb d_S_lineEnters_91 hl (by decide) rfl (fun ls hl => ?_)
  have hle : ln_least ax ay cc = le := ele.symm
  have hmo : ln_most ax ay cc = mo := emo.symm
  have hgoal : sg_line q x y = ((le < 0 ∨ (le = 0 ∧ ¬ ax < 0 ∧ ¬ ay < 0)) ∧ (0 < mo ∨ (mo = 0 ∧ ¬ 0 < ax ∧ ¬ 0 < ay))) := by rw [sg_line, ← eax, ← eay, ← ecc, ln_in, hle, hmo]
  rw [hgoal]
  have J1 : ∀ (b1 : Int32) (ls : Array Slot), (b1 = b01 (¬ ax < 0 ∧ ¬ ay < 0)) → lv_has ls 17 [(5, .long ax), (7, .long ay), (11, .long le), (13, .long mo)] → W p l e ({ frames := 1, cells := 0, slots := 0, locals := 19 } : Room) s m ([.ref h0, .long x, .long y] : List Value).toArray below meth c s.heap [] 0 0 (MQ below (vp_Si (fun r => r = b01 ((le < 0 ∨ (le = 0 ∧ ¬ ax < 0 ∧ ¬ ay < 0)) ∧ (0 < mo ∨ (mo = 0 ∧ ¬ 0 < ax ∧ ¬ 0 < ay))))) ([.ref h0, .long x, .long y] : List Value).toArray s 0 0 (fun _ => False)) (F0 m 112 ls [.int b1]) := by
    intro b1 ls hb1 hl
    refine lv_istore (lv' := [(15, .int b1), (5, .long ax), (7, .long ay), (11, .long le), (13, .long mo)]) hx hb d_S_lineEnters_112 hl (by decide) rfl (fun ls hl => ?_)
    have J2 : ∀ (b2 : Int32) (ls : Array Slot), (b2 = b01 (¬ 0 < ax ∧ ¬ 0 < ay)) → lv_has ls 17 [(15, .int b1), (5, .long ax), (7, .long ay), (11, .long le), (13, .long mo)] → W p l e ({ frames := 1, cells := 0, slots := 0, locals := 19 } : Room) s m ([.ref h0, .long x, .long y] : List Value).toArray below meth c s.heap [] 0 0 (MQ below (vp_Si (fun r => r = b01 ((le < 0 ∨ (le = 0 ∧ ¬ ax < 0 ∧ ¬ ay < 0)) ∧ (0 < mo ∨ (mo = 0 ∧ ¬ 0 < ax ∧ ¬ 0 < ay))))) ([.ref h0, .long x, .long y] : List Value).toArray s 0 0 (fun _ => False)) (F0 m 133 ls [.int b2]) := by
      intro b2 ls hb2 hl
      refine lv_istore (lv' := [(16, .int b2), (15, .int b1), (5, .long ax), (7, .long ay), (11, .long le), (13, .long mo)]) hx hb d_S_lineEnters_133 hl (by decide) rfl (fun ls hl => ?_)
      have J3 : ∀ (ls : Array Slot), (le < 0 ∨ (le = 0 ∧ ¬ ax < 0 ∧ ¬ ay < 0)) → lv_has ls 17 [(16, .int b2), (15, .int b1), (5, .long ax), (7, .long ay), (11, .long le), (13, .long mo)] → W p l e ({ frames := 1, cells := 0, slots := 0, locals := 19 } : Room) s m ([.ref h0, .long x, .long y] : List Value).toArray below meth c s.heap [] 0 0 (MQ below (vp_Si (fun r => r = b01 ((le < 0 ∨ (le = 0 ∧ ¬ ax < 0 ∧ ¬ ay < 0)) ∧ (0 < mo ∨ (mo = 0 ∧ ¬ 0 < ax ∧ ¬ 0 < ay))))) ([.ref h0, .long x, .long y] : List Value).toArray s 0 0 (fun _ => False)) (F0 m 154 ls []) := by
        intro ls hL hl
        refine lv_lload hx hb d_S_lineEnters_154 (lv_at hl 5 rfl) ?_
        refine lv_lconst (v := 0) hx hb d_S_lineEnters_156 (by decide) ?_
        refine W.lcmp hx hb d_S_lineEnters_157 ?_
        refine lv_if_gt (tgt := 173) hx hb d_S_lineEnters_158 (by decide) (fun c1 => ?_) (fun c1 => ?_)
        · refine lv_iconst (v := 1) hx hb d_S_lineEnters_173 (by decide) ?_
          refine lv_goto (tgt := 178) hx hb d_S_lineEnters_174 (by decide) ?_
          exact W.zret (v := 1) (ty := .boolean) hx hb hrt rfl (fun t ht hW => ⟨1, rfl, by rw [b01_t ⟨hL, Or.inl (lg_gt.mp c1)⟩], ht⟩) (fun q h => nomatch h) d_S_lineEnters_178 hlocks
        · refine lv_lload hx hb d_S_lineEnters_161 (lv_at hl 5 rfl) ?_
          refine lv_lconst (v := 0) hx hb d_S_lineEnters_163 (by decide) ?_
          refine W.lcmp hx hb d_S_lineEnters_164 ?_
          refine lv_if_ne (tgt := 177) hx hb d_S_lineEnters_165 (by decide) (fun c2 => ?_) (fun c2 => ?_)
          · refine lv_iconst (v := 0) hx hb d_S_lineEnters_177 (by decide) ?_
            exact W.zret (v := 0) (ty := .boolean) hx hb hrt rfl (fun t ht hW => ⟨0, rfl, by rw [b01_f]; rintro ⟨_, h | h⟩; exact c1 (lg_gt.mpr h); exact c2 (lg_eq.mpr h.1), ht⟩) (fun q h => nomatch h) d_S_lineEnters_178 hlocks
          · refine lv_iload hx hb d_S_lineEnters_168 (lv_at hl 0 rfl) ?_
            refine lv_if_eq (tgt := 177) hx hb d_S_lineEnters_170 (by decide) (fun c3 => ?_) (fun c3 => ?_)
            · rw [hb2] at c3
              refine lv_iconst (v := 0) hx hb d_S_lineEnters_177 (by decide) ?_
              exact W.zret (v := 0) (ty := .boolean) hx hb hrt rfl (fun t ht hW => ⟨0, rfl, by rw [b01_f]; rintro ⟨_, h | h⟩; exact c1 (lg_gt.mpr h); exact b01_0 c3 h.2, ht⟩) (fun q h => nomatch h) d_S_lineEnters_178 hlocks
            · rw [hb2] at c3
              refine lv_iconst (v := 1) hx hb d_S_lineEnters_173 (by decide) ?_
              refine lv_goto (tgt := 178) hx hb d_S_lineEnters_174 (by decide) ?_
              exact W.zret (v := 1) (ty := .boolean) hx hb hrt rfl (fun t ht hW => ⟨1, rfl, by rw [b01_t ⟨hL, Or.inr ⟨lg_eq.mp c2, b01_1 c3⟩⟩], ht⟩) (fun q h => nomatch h) d_S_lineEnters_178 hlocks
      refine lv_lload hx hb d_S_lineEnters_135 (lv_at hl 4 rfl) ?_
      refine lv_lconst (v := 0) hx hb d_S_lineEnters_137 (by decide) ?_
      refine W.lcmp hx hb d_S_lineEnters_138 ?_
      refine lv_if_lt (tgt := 154) hx hb d_S_lineEnters_139 (by decide) (fun c1 => ?_) (fun c1 => ?_)
      · exact J3 ls (Or.inl (lg_lt.mp c1)) (lv_sub hl [0, 1, 2, 3, 4, 5] rfl)
      · refine lv_lload hx hb d_S_lineEnters_142 (lv_at hl 4 rfl) ?_
        refine lv_lconst (v := 0) hx hb d_S_lineEnters_144 (by decide) ?_
        refine W.lcmp hx hb d_S_lineEnters_145 ?_
        refine lv_if_ne (tgt := 177) hx hb d_S_lineEnters_146 (by decide) (fun c2 => ?_) (fun c2 => ?_)
        · refine lv_iconst (v := 0) hx hb d_S_lineEnters_177 (by decide) ?_
          exact W.zret (v := 0) (ty := .boolean) hx hb hrt rfl (fun t ht hW => ⟨0, rfl, by rw [b01_f]; rintro ⟨h | h, _⟩; exact c1 (lg_lt.mpr h); exact c2 (lg_eq.mpr h.1), ht⟩) (fun q h => nomatch h) d_S_lineEnters_178 hlocks
        · refine lv_iload hx hb d_S_lineEnters_149 (lv_at hl 1 rfl) ?_
          refine lv_if_eq (tgt := 177) hx hb d_S_lineEnters_151 (by decide) (fun c3 => ?_) (fun c3 => ?_)
          · rw [hb1] at c3
            refine lv_iconst (v := 0) hx hb d_S_lineEnters_177 (by decide) ?_
            exact W.zret (v := 0) (ty := .boolean) hx hb hrt rfl (fun t ht hW => ⟨0, rfl, by rw [b01_f]; rintro ⟨h | h, _⟩; exact c1 (lg_lt.mpr h); exact b01_0 c3 h.2, ht⟩) (fun q h => nomatch h) d_S_lineEnters_178 hlocks
          · rw [hb1] at c3
            exact J3 ls (Or.inr ⟨lg_eq.mp c2, b01_1 c3⟩) (lv_sub hl [0, 1, 2, 3, 4, 5] rfl)
    refine lv_lload hx hb d_S_lineEnters_114 (lv_at hl 1 rfl) ?_
    refine lv_lconst (v := 0) hx hb d_S_lineEnters_116 (by decide) ?_
    refine W.lcmp hx hb d_S_lineEnters_117 ?_
    refine lv_if_gt (tgt := 132) hx hb d_S_lineEnters_118 (by decide) (fun c1 => ?_) (fun c1 => ?_)
    · refine lv_iconst (v := 0) hx hb d_S_lineEnters_132 (by decide) ?_
      exact J2 0 ls (b01_f (fun h => h.1 (lg_gt.mp c1))).symm (lv_sub hl [0, 1, 2, 3, 4] rfl)
    · refine lv_lload hx hb d_S_lineEnters_121 (lv_at hl 2 rfl) ?_
      refine lv_lconst (v := 0) hx hb d_S_lineEnters_123 (by decide) ?_
      refine W.lcmp hx hb d_S_lineEnters_124 ?_
      refine lv_if_gt (tgt := 132) hx hb d_S_lineEnters_125 (by decide) (fun c2 => ?_) (fun c2 => ?_)
      · refine lv_iconst (v := 0) hx hb d_S_lineEnters_132 (by decide) ?_
        exact J2 0 ls (b01_f (fun h => h.2 (lg_gt.mp c2))).symm (lv_sub hl [0, 1, 2, 3, 4] rfl)
      · refine lv_iconst (v := 1) hx hb d_S_lineEnters_128 (by decide) ?_
        refine lv_goto (tgt := 133) hx hb d_S_lineEnters_129 (by decide) ?_
        exact J2 1 ls (b01_t ⟨fun h => c1 (lg_gt.mpr h), fun h => c2 (lg_gt.mpr h)⟩).symm (lv_sub hl [0, 1, 2, 3, 4] rfl)
  refine lv_lload hx hb d_S_lineEnters_93 (lv_at hl 4 rfl) ?_
  refine lv_lconst (v := 0) hx hb d_S_lineEnters_95 (by decide) ?_
  refine W.lcmp hx hb d_S_lineEnters_96 ?_
  refine lv_if_lt (tgt := 111) hx hb d_S_lineEnters_97 (by decide) (fun c1 => ?_) (fun c1 => ?_)
  · refine lv_iconst (v := 0) hx hb d_S_lineEnters_111 (by decide) ?_
    exact J1 0 ls (b01_f (fun h => h.1 (lg_lt.mp c1))).symm (lv_sub hl [4, 3, 1, 0] rfl)
  · refine lv_lload hx hb d_S_lineEnters_100 (lv_at hl 3 rfl) ?_
    refine lv_lconst (v := 0) hx hb d_S_lineEnters_102 (by decide) ?_
    refine W.lcmp hx hb d_S_lineEnters_103 ?_
    refine lv_if_lt (tgt := 111) hx hb d_S_lineEnters_104 (by decide) (fun c2 => ?_) (fun c2 => ?_)
    · refine lv_iconst (v := 0) hx hb d_S_lineEnters_111 (by decide) ?_
      exact J1 0 ls (b01_f (fun h => h.2 (lg_lt.mp c2))).symm (lv_sub hl [4, 3, 1, 0] rfl)
    · refine lv_iconst (v := 1) hx hb d_S_lineEnters_107 (by decide) ?_
      refine lv_goto (tgt := 112) hx hb d_S_lineEnters_108 (by decide) ?_
      exact J1 1 ls (b01_t ⟨fun h => c1 (lg_lt.mpr h), fun h => c2 (lg_lt.mpr h)⟩).symm (lv_sub hl [4, 3, 1, 0] rfl)
def sg_enters (q : SQ) (x y : Int64) : Prop := ¬ x < slx q ∧ ¬ smx q < x ∧ ¬ y < sly q ∧ ¬ smy q < y ∧ sg_line q x y
set_option maxHeartbeats 4000000 in
set_option maxRecDepth 100000 in
theorem k_S_enters (l : Launch) (D : va_G) (E : ClassId × ClassId × ClassId × ClassId) (h0 : Nat) (q : SQ) (x y : Int64) : Met l y_S_enters (.code y_S_enters c_S_enters 5 (some .boolean) :: gw) ({ frames := 2, cells := 0, slots := 0, locals := 60 } : Room) (rP D E [(h0, .inr (1, sgF q))] [.ref h0, .long x, .long y]) (vp_Si (fun r => r = b01 (sg_enters q x y))) 0 0 (fun _ => False) := by
  refine rd_ofW (by decide) (Nat.le_of_ble_eq_true rfl) ?_
  intro p e s m below meth c B hP hK ls hl
  obtain ⟨hx, hb, hrt, hml, hown, hts, hG, hlocks, hin⟩ := B
  have hl : lv_has ls 5 [(0, .ref h0), (1, .long x), (3, .long y)] := hl
  refine lv_lload_n hx hb d_S_enters_0 rfl (lv_at hl 1 rfl) ?_
  refine lv_aload_n hx hb d_S_enters_1 rfl (lv_at hl 0 rfl) ?_
  refine va_get (D := D) (ci := 1) (v := .long (slx q)) (C := K_S) (T := F_S) (N := 10) hx hb hG in_S hown hK.1 hP 0 rfl rfl 6 (by decide) (hG _ wd_276) (fun _ h9 => h9) rfl d_S_enters_2 ?_
  refine W.lcmp hx hb d_S_enters_5 ?_
  refine lv_if_lt (tgt := 49) hx hb d_S_enters_6 (by decide) (fun c1 => ?_) (fun c1 => ?_)
  · refine lv_iconst (v := 0) hx hb d_S_enters_49 (by decide) ?_
    exact W.zret (v := 0) (ty := .boolean) hx hb hrt rfl (fun t ht hW => ⟨0, rfl, by rw [b01_f]; intro h; exact h.1 (lg_lt.mp c1), ht⟩) (fun q h => nomatch h) d_S_enters_50 hlocks
  · refine lv_lload_n hx hb d_S_enters_9 rfl (lv_at hl 1 rfl) ?_
    refine lv_aload_n hx hb d_S_enters_10 rfl (lv_at hl 0 rfl) ?_
    refine va_get (D := D) (ci := 1) (v := .long (smx q)) (C := K_S) (T := F_S) (N := 10) hx hb hG in_S hown hK.1 hP 0 rfl rfl 8 (by decide) (hG _ wd_278) (fun _ h9 => h9) rfl d_S_enters_11 ?_
    refine W.lcmp hx hb d_S_enters_14 ?_
    refine lv_if_gt (tgt := 49) hx hb d_S_enters_15 (by decide) (fun c2 => ?_) (fun c2 => ?_)
    · refine lv_iconst (v := 0) hx hb d_S_enters_49 (by decide) ?_
      exact W.zret (v := 0) (ty := .boolean) hx hb hrt rfl (fun t ht hW => ⟨0, rfl, by rw [b01_f]; intro h; exact h.2.1 (lg_gt.mp c2), ht⟩) (fun q h => nomatch h) d_S_enters_50 hlocks
    · refine lv_lload_n hx hb d_S_enters_18 rfl (lv_at hl 2 rfl) ?_
      refine lv_aload_n hx hb d_S_enters_19 rfl (lv_at hl 0 rfl) ?_
      refine va_get (D := D) (ci := 1) (v := .long (sly q)) (C := K_S) (T := F_S) (N := 10) hx hb hG in_S hown hK.1 hP 0 rfl rfl 7 (by decide) (hG _ wd_277) (fun _ h9 => h9) rfl d_S_enters_20 ?_
      refine W.lcmp hx hb d_S_enters_23 ?_
      refine lv_if_lt (tgt := 49) hx hb d_S_enters_24 (by decide) (fun c3 => ?_) (fun c3 => ?_)
      · refine lv_iconst (v := 0) hx hb d_S_enters_49 (by decide) ?_
        exact W.zret (v := 0) (ty := .boolean) hx hb hrt rfl (fun t ht hW => ⟨0, rfl, by rw [b01_f]; intro h; exact h.2.2.1 (lg_lt.mp c3), ht⟩) (fun q h => nomatch h) d_S_enters_50 hlocks
      · refine lv_lload_n hx hb d_S_enters_27 rfl (lv_at hl 2 rfl) ?_
        refine lv_aload_n hx hb d_S_enters_28 rfl (lv_at hl 0 rfl) ?_
        refine va_get (D := D) (ci := 1) (v := .long (smy q)) (C := K_S) (T := F_S) (N := 10) hx hb hG in_S hown hK.1 hP 0 rfl rfl 9 (by decide) (hG _ wd_279) (fun _ h9 => h9) rfl d_S_enters_29 ?_
        refine W.lcmp hx hb d_S_enters_32 ?_
        refine lv_if_gt (tgt := 49) hx hb d_S_enters_33 (by decide) (fun c4 => ?_) (fun c4 => ?_)
        · refine lv_iconst (v := 0) hx hb d_S_enters_49 (by decide) ?_
          exact W.zret (v := 0) (ty := .boolean) hx hb hrt rfl (fun t ht hW => ⟨0, rfl, by rw [b01_f]; intro h; exact h.2.2.2.1 (lg_gt.mp c4), ht⟩) (fun q h => nomatch h) d_S_enters_50 hlocks
        · refine lv_aload_n hx hb d_S_enters_36 rfl (lv_at hl 0 rfl) ?_
          refine lv_lload_n hx hb d_S_enters_37 rfl (lv_at hl 1 rfl) ?_
          refine lv_lload_n hx hb d_S_enters_38 rfl (lv_at hl 2 rfl) ?_
          have hPc := hP.sub (ws' := [(h0, .inr (1, sgF q))]) [0] rfl
          refine vp_callSi (W.runV (As := [.long x, .long y]) (rest := []) ⟨hx, hb, hml, hown, hts⟩ (k_S_lineEnters l D E h0 q x y) (cwV 2 hts (gw_gv wd_503 wd_505 wd_14 wd_48 wd_506) rfl rfl rfl (by decide +kernel) ⟨Nat.le_of_ble_eq_true rfl, Nat.le_of_ble_eq_true rfl⟩) (rP_V 0 hPc hK rfl rfl) rfl rfl hl.1 rfl (lv_room (Nat.le_of_ble_eq_true rfl)) d_S_enters_39 ⟨Nat.le_of_ble_eq_true rfl, Nat.le_of_ble_eq_true rfl⟩) (fun r1 hr1 => ?_)
          refine lv_if_eq (tgt := 49) hx hb d_S_enters_42 (by decide) (fun c5 => ?_) (fun c5 => ?_)
          · rw [hr1] at c5
            refine lv_iconst (v := 0) hx hb d_S_enters_49 (by decide) ?_
            exact W.zret (v := 0) (ty := .boolean) hx hb hrt rfl (fun t ht hW => ⟨0, rfl, by rw [b01_f]; intro h; exact b01_0 c5 h.2.2.2.2, ht⟩) (fun q h => nomatch h) d_S_enters_50 hlocks
          · rw [hr1] at c5
            refine lv_iconst (v := 1) hx hb d_S_enters_45 (by decide) ?_
            refine lv_goto (tgt := 50) hx hb d_S_enters_46 (by decide) ?_
            exact W.zret (v := 1) (ty := .boolean) hx hb hrt rfl (fun t ht hW => ⟨1, rfl, by rw [b01_t ⟨fun h => c1 (lg_lt.mpr h), fun h => c2 (lg_gt.mpr h), fun h => c3 (lg_lt.mpr h), fun h => c4 (lg_gt.mpr h), b01_1 c5⟩], ht⟩) (fun q h => nomatch h) d_S_enters_50 hlocks
def sg_parts (q o : SQ) : Prop := ¬ sg_side q (sx o) (sy o) = 0 ∧ ((sg_side q (sx o) (sy o) < 0 ∧ 0 < sg_side q (su o) (sv o)) ∨ (¬ sg_side q (sx o) (sy o) < 0 ∧ sg_side q (su o) (sv o) < 0))
def sg_cross (q o : SQ) : Prop := sg_parts q o ∧ sg_parts o q
set_option maxHeartbeats 4000000 in
set_option maxRecDepth 100000 in
theorem k_S_parts (l : Launch) (D : va_G) (E : ClassId × ClassId × ClassId × ClassId) (h0 h1 : Nat) (q o : SQ) : Met l y_S_parts (.code y_S_parts c_S_parts 6 (some .boolean) :: gw) ({ frames := 1, cells := 0, slots := 0, locals := 24 } : Room) (rP D E [(h0, .inr (1, sgF q)), (h1, .inr (1, sgF o))] [.ref h0, .ref h1]) (vp_Si (fun r => r = b01 (sg_parts q o))) 0 0 (fun _ => False) := by
  refine rd_ofW (by decide) (Nat.le_of_ble_eq_true rfl) ?_
  intro p e s m below meth c B hP hK ls hl
  obtain ⟨hx, hb, hrt, hml, hown, hts, hG, hlocks, hin⟩ := B
  have hl : lv_has ls 6 [(0, .ref h0), (1, .ref h1)] := hl
  refine lv_aload_n hx hb d_S_parts_0 rfl (lv_at hl 0 rfl) ?_
  refine lv_aload_n hx hb d_S_parts_1 rfl (lv_at hl 1 rfl) ?_
  refine va_get (D := D) (ci := 1) (v := .long (sx o)) (C := K_S) (T := F_S) (N := 10) hx hb hG in_S hown hK.1 hP 1 rfl rfl 0 (by decide) (hG _ wd_270) (fun _ h9 => h9) rfl d_S_parts_2 ?_
  refine lv_aload_n hx hb d_S_parts_5 rfl (lv_at hl 1 rfl) ?_
  refine va_get (D := D) (ci := 1) (v := .long (sy o)) (C := K_S) (T := F_S) (N := 10) hx hb hG in_S hown hK.1 hP 1 rfl rfl 1 (by decide) (hG _ wd_271) (fun _ h9 => h9) rfl d_S_parts_6 ?_
  have hPc := hP.sub (ws' := [(h0, .inr (1, sgF q))]) [0] rfl
  refine vp_callSl (W.runV (As := [.long (sx o), .long (sy o)]) (rest := []) ⟨hx, hb, hml, hown, hts⟩ (k_S_sideOf l D E h0 q (sx o) (sy o)) (cwV 2 hts (gw_gv wd_447 wd_449 wd_11 wd_48 wd_450) rfl rfl rfl (by decide +kernel) ⟨Nat.le_of_ble_eq_true rfl, Nat.le_of_ble_eq_true rfl⟩) (rP_V 0 hPc hK rfl rfl) rfl rfl hl.1 rfl (lv_room (Nat.le_of_ble_eq_true rfl)) d_S_parts_9 ⟨Nat.le_of_ble_eq_true rfl, Nat.le_of_ble_eq_true rfl⟩) (fun r1 hr1 => ?_)
  subst hr1
  refine lv_lstore_n (lv' := [(2, .long (sg_side q (sx o) (sy o))), (0, .ref h0), (1, .ref h1)]) hx hb d_S_parts_12 rfl hl (by decide) rfl (fun ls hl => ?_)
  refine lv_lload_n hx hb d_S_parts_13 rfl (lv_at hl 0 rfl) ?_
  refine lv_lconst (v := 0) hx hb d_S_parts_14 (by decide) ?_
  refine W.lcmp hx hb d_S_parts_15 ?_
  refine lv_if_ne (tgt := 21) hx hb d_S_parts_16 (by decide) (fun c1 => ?_) (fun c1 => ?_)
  · refine lv_aload_n hx hb d_S_parts_21 rfl (lv_at hl 1 rfl) ?_
    refine lv_aload_n hx hb d_S_parts_22 rfl (lv_at hl 2 rfl) ?_
    refine va_get (D := D) (ci := 1) (v := .long (su o)) (C := K_S) (T := F_S) (N := 10) hx hb hG in_S hown hK.1 hP 1 rfl rfl 2 (by decide) (hG _ wd_272) (fun _ h9 => h9) rfl d_S_parts_23 ?_
    refine lv_aload_n hx hb d_S_parts_26 rfl (lv_at hl 2 rfl) ?_
    refine va_get (D := D) (ci := 1) (v := .long (sv o)) (C := K_S) (T := F_S) (N := 10) hx hb hG in_S hown hK.1 hP 1 rfl rfl 3 (by decide) (hG _ wd_273) (fun _ h9 => h9) rfl d_S_parts_27 ?_
    have hPc := hP.sub (ws' := [(h0, .inr (1, sgF q))]) [0] rfl
    refine vp_callSl (W.runV (As := [.long (su o), .long (sv o)]) (rest := []) ⟨hx, hb, hml, hown, hts⟩ (k_S_sideOf l D E h0 q (su o) (sv o)) (cwV 2 hts (gw_gv wd_447 wd_449 wd_11 wd_48 wd_450) rfl rfl rfl (by decide +kernel) ⟨Nat.le_of_ble_eq_true rfl, Nat.le_of_ble_eq_true rfl⟩) (rP_V 0 hPc hK rfl rfl) rfl rfl hl.1 rfl (lv_room (Nat.le_of_ble_eq_true rfl)) d_S_parts_30 ⟨Nat.le_of_ble_eq_true rfl, Nat.le_of_ble_eq_true rfl⟩) (fun r2 hr2 => ?_)
    subst hr2
    refine lv_lstore (lv' := [(4, .long (sg_side q (su o) (sv o))), (2, .long (sg_side q (sx o) (sy o))), (0, .ref h0), (1, .ref h1)]) hx hb d_S_parts_33 hl (by decide) rfl (fun ls hl => ?_)
    refine lv_lload_n hx hb d_S_parts_35 rfl (lv_at hl 1 rfl) ?_
    refine lv_lconst (v := 0) hx hb d_S_parts_36 (by decide) ?_
    refine W.lcmp hx hb d_S_parts_37 ?_
    refine lv_if_ge (tgt := 56) hx hb d_S_parts_38 (by decide) (fun c2 => ?_) (fun c2 => ?_)
    · refine lv_lload hx hb d_S_parts_56 (lv_at hl 0 rfl) ?_
      refine lv_lconst (v := 0) hx hb d_S_parts_58 (by decide) ?_
      refine W.lcmp hx hb d_S_parts_59 ?_
      refine lv_if_ge (tgt := 67) hx hb d_S_parts_60 (by decide) (fun c3 => ?_) (fun c3 => ?_)
      · refine lv_iconst (v := 0) hx hb d_S_parts_67 (by decide) ?_
        exact W.zret (v := 0) (ty := .boolean) hx hb hrt rfl (fun t ht hW => ⟨0, rfl, by rw [b01_f]; rintro ⟨_, h | h⟩; exact lg_ge.mp c2 h.1; exact lg_ge.mp c3 h.2, ht⟩) (fun q h => nomatch h) d_S_parts_68 hlocks
      · refine lv_iconst (v := 1) hx hb d_S_parts_63 (by decide) ?_
        refine lv_goto (tgt := 68) hx hb d_S_parts_64 (by decide) ?_
        exact W.zret (v := 1) (ty := .boolean) hx hb hrt rfl (fun t ht hW => ⟨1, rfl, by rw [b01_t ⟨fun h => c1 (lg_eq.mpr h), Or.inr ⟨lg_ge.mp c2, lg_ge' c3⟩⟩], ht⟩) (fun q h => nomatch h) d_S_parts_68 hlocks
    · refine lv_lload hx hb d_S_parts_41 (lv_at hl 0 rfl) ?_
      refine lv_lconst (v := 0) hx hb d_S_parts_43 (by decide) ?_
      refine W.lcmp hx hb d_S_parts_44 ?_
      refine lv_if_le (tgt := 52) hx hb d_S_parts_45 (by decide) (fun c3 => ?_) (fun c3 => ?_)
      · refine lv_iconst (v := 0) hx hb d_S_parts_52 (by decide) ?_
        refine lv_goto (tgt := 68) hx hb d_S_parts_53 (by decide) ?_
        exact W.zret (v := 0) (ty := .boolean) hx hb hrt rfl (fun t ht hW => ⟨0, rfl, by rw [b01_f]; rintro ⟨_, h | h⟩; exact lg_le.mp c3 h.2; exact h.1 (lg_ge' c2), ht⟩) (fun q h => nomatch h) d_S_parts_68 hlocks
      · refine lv_iconst (v := 1) hx hb d_S_parts_48 (by decide) ?_
        refine lv_goto (tgt := 68) hx hb d_S_parts_49 (by decide) ?_
        exact W.zret (v := 1) (ty := .boolean) hx hb hrt rfl (fun t ht hW => ⟨1, rfl, by rw [b01_t ⟨fun h => c1 (lg_eq.mpr h), Or.inl ⟨lg_ge' c2, lg_le' c3⟩⟩], ht⟩) (fun q h => nomatch h) d_S_parts_68 hlocks
  · refine lv_iconst (v := 0) hx hb d_S_parts_19 (by decide) ?_
    exact W.zret (v := 0) (ty := .boolean) hx hb hrt rfl (fun t ht hW => ⟨0, rfl, by rw [b01_f]; intro h; exact h.1 (lg_eq.mp c1), ht⟩) (fun q h => nomatch h) d_S_parts_20 hlocks
set_option maxHeartbeats 4000000 in
set_option maxRecDepth 100000 in
theorem k_S_crosses (l : Launch) (D : va_G) (E : ClassId × ClassId × ClassId × ClassId) (h0 h1 : Nat) (q o : SQ) : Met l y_S_crosses (.code y_S_crosses c_S_crosses 2 (some .boolean) :: gw) ({ frames := 2, cells := 0, slots := 0, locals := 49 } : Room) (rP D E [(h0, .inr (1, sgF q)), (h1, .inr (1, sgF o))] [.ref h0, .ref h1]) (vp_Si (fun r => r = b01 (sg_cross q o))) 0 0 (fun _ => False) := by
  refine rd_ofW (by decide) (Nat.le_of_ble_eq_true rfl) ?_
  intro p e s m below meth c B hP hK ls hl
  obtain ⟨hx, hb, hrt, hml, hown, hts, hG, hlocks, hin⟩ := B
  have hl : lv_has ls 2 [(0, .ref h0), (1, .ref h1)] := hl
  refine lv_aload_n hx hb d_S_crosses_0 rfl (lv_at hl 0 rfl) ?_
  refine lv_aload_n hx hb d_S_crosses_1 rfl (lv_at hl 1 rfl) ?_
  have hPc := hP.sub (ws' := [(h0, .inr (1, sgF q)), (h1, .inr (1, sgF o))]) [0, 1] rfl
  refine vp_callSi (W.runV (As := [.ref h1]) (rest := []) ⟨hx, hb, hml, hown, hts⟩ (k_S_parts l D E h0 h1 q o) (cwV 1 hts (gw_gv wd_443 wd_445 wd_10 wd_48 wd_446) rfl rfl rfl (by decide +kernel) ⟨Nat.le_of_ble_eq_true rfl, Nat.le_of_ble_eq_true rfl⟩) (rP_V 0 hPc hK rfl rfl) rfl rfl hl.1 rfl (lv_room (Nat.le_of_ble_eq_true rfl)) d_S_crosses_2 ⟨Nat.le_of_ble_eq_true rfl, Nat.le_of_ble_eq_true rfl⟩) (fun r1 hr1 => ?_)
  refine lv_if_eq (tgt := 20) hx hb d_S_crosses_5 (by decide) (fun c1 => ?_) (fun c1 => ?_)
  · rw [hr1] at c1
    refine lv_iconst (v := 0) hx hb d_S_crosses_20 (by decide) ?_
    exact W.zret (v := 0) (ty := .boolean) hx hb hrt rfl (fun t ht hW => ⟨0, rfl, by rw [b01_f]; intro h; exact b01_0 c1 h.1, ht⟩) (fun q h => nomatch h) d_S_crosses_21 hlocks
  · rw [hr1] at c1
    refine lv_aload_n hx hb d_S_crosses_8 rfl (lv_at hl 1 rfl) ?_
    refine lv_aload_n hx hb d_S_crosses_9 rfl (lv_at hl 0 rfl) ?_
    have hPc := hP.sub (ws' := [(h1, .inr (1, sgF o)), (h0, .inr (1, sgF q))]) [1, 0] rfl
    refine vp_callSi (W.runV (As := [.ref h0]) (rest := []) ⟨hx, hb, hml, hown, hts⟩ (k_S_parts l D E h1 h0 o q) (cwV 1 hts (gw_gv wd_443 wd_445 wd_10 wd_48 wd_446) rfl rfl rfl (by decide +kernel) ⟨Nat.le_of_ble_eq_true rfl, Nat.le_of_ble_eq_true rfl⟩) (rP_V 0 hPc hK rfl rfl) rfl rfl hl.1 rfl (lv_room (Nat.le_of_ble_eq_true rfl)) d_S_crosses_10 ⟨Nat.le_of_ble_eq_true rfl, Nat.le_of_ble_eq_true rfl⟩) (fun r2 hr2 => ?_)
    refine lv_if_eq (tgt := 20) hx hb d_S_crosses_13 (by decide) (fun c2 => ?_) (fun c2 => ?_)
    · rw [hr2] at c2
      refine lv_iconst (v := 0) hx hb d_S_crosses_20 (by decide) ?_
      exact W.zret (v := 0) (ty := .boolean) hx hb hrt rfl (fun t ht hW => ⟨0, rfl, by rw [b01_f]; intro h; exact b01_0 c2 h.2, ht⟩) (fun q h => nomatch h) d_S_crosses_21 hlocks
    · rw [hr2] at c2
      refine lv_iconst (v := 1) hx hb d_S_crosses_16 (by decide) ?_
      refine lv_goto (tgt := 21) hx hb d_S_crosses_17 (by decide) ?_
      exact W.zret (v := 1) (ty := .boolean) hx hb hrt rfl (fun t ht hW => ⟨1, rfl, by rw [b01_t ⟨b01_1 c1, b01_1 c2⟩], ht⟩) (fun q h => nomatch h) d_S_crosses_21 hlocks
end
end
section
theorem d_S_crossingKey_0 : decode c_S_crossingKey 0 = .ok (.aload_n 1, 1) := by decide +kernel
theorem d_S_crossingKey_1 : decode c_S_crossingKey 1 = .ok (.aload_n 0, 1) := by decide +kernel
theorem d_S_crossingKey_2 : decode c_S_crossingKey 2 = .ok (.getfield 9, 3) := by decide +kernel
theorem d_S_crossingKey_5 : decode c_S_crossingKey 5 = .ok (.aload_n 0, 1) := by decide +kernel
theorem d_S_crossingKey_6 : decode c_S_crossingKey 6 = .ok (.getfield 15, 3) := by decide +kernel
theorem d_S_crossingKey_9 : decode c_S_crossingKey 9 = .ok (.invokevirtual 66, 3) := by decide +kernel
theorem d_S_crossingKey_12 : decode c_S_crossingKey 12 = .ok (.invokestatic 69, 3) := by decide +kernel
theorem d_S_crossingKey_15 : decode c_S_crossingKey 15 = .ok (.lstore_n 2, 1) := by decide +kernel
theorem d_S_crossingKey_16 : decode c_S_crossingKey 16 = .ok (.lload_n 2, 1) := by decide +kernel
theorem d_S_crossingKey_17 : decode c_S_crossingKey 17 = .ok (.aload_n 1, 1) := by decide +kernel
theorem d_S_crossingKey_18 : decode c_S_crossingKey 18 = .ok (.aload_n 0, 1) := by decide +kernel
theorem d_S_crossingKey_19 : decode c_S_crossingKey 19 = .ok (.getfield 18, 3) := by decide +kernel
theorem d_S_crossingKey_22 : decode c_S_crossingKey 22 = .ok (.aload_n 0, 1) := by decide +kernel
theorem d_S_crossingKey_23 : decode c_S_crossingKey 23 = .ok (.getfield 21, 3) := by decide +kernel
theorem d_S_crossingKey_26 : decode c_S_crossingKey 26 = .ok (.invokevirtual 66, 3) := by decide +kernel
theorem d_S_crossingKey_29 : decode c_S_crossingKey 29 = .ok (.invokestatic 69, 3) := by decide +kernel
theorem d_S_crossingKey_32 : decode c_S_crossingKey 32 = .ok (.ladd, 1) := by decide +kernel
theorem d_S_crossingKey_33 : decode c_S_crossingKey 33 = .ok (.lstore 4, 2) := by decide +kernel
theorem d_S_crossingKey_35 : decode c_S_crossingKey 35 = .ok (.aload_n 0, 1) := by decide +kernel
theorem d_S_crossingKey_36 : decode c_S_crossingKey 36 = .ok (.getfield 9, 3) := by decide +kernel
theorem d_S_crossingKey_39 : decode c_S_crossingKey 39 = .ok (.aload_n 0, 1) := by decide +kernel
theorem d_S_crossingKey_40 : decode c_S_crossingKey 40 = .ok (.getfield 24, 3) := by decide +kernel
theorem d_S_crossingKey_43 : decode c_S_crossingKey 43 = .ok (.lload_n 2, 1) := by decide +kernel
theorem d_S_crossingKey_44 : decode c_S_crossingKey 44 = .ok (.lload 4, 2) := by decide +kernel
theorem d_S_crossingKey_46 : decode c_S_crossingKey 46 = .ok (.invokestatic 73, 3) := by decide +kernel
theorem d_S_crossingKey_49 : decode c_S_crossingKey 49 = .ok (.ladd, 1) := by decide +kernel
theorem d_S_crossingKey_50 : decode c_S_crossingKey 50 = .ok (.aload_n 0, 1) := by decide +kernel
theorem d_S_crossingKey_51 : decode c_S_crossingKey 51 = .ok (.getfield 15, 3) := by decide +kernel
theorem d_S_crossingKey_54 : decode c_S_crossingKey 54 = .ok (.aload_n 0, 1) := by decide +kernel
theorem d_S_crossingKey_55 : decode c_S_crossingKey 55 = .ok (.getfield 27, 3) := by decide +kernel
theorem d_S_crossingKey_58 : decode c_S_crossingKey 58 = .ok (.lload_n 2, 1) := by decide +kernel
theorem d_S_crossingKey_59 : decode c_S_crossingKey 59 = .ok (.lload 4, 2) := by decide +kernel
theorem d_S_crossingKey_61 : decode c_S_crossingKey 61 = .ok (.invokestatic 73, 3) := by decide +kernel
theorem d_S_crossingKey_64 : decode c_S_crossingKey 64 = .ok (.ladd, 1) := by decide +kernel
theorem d_S_crossingKey_65 : decode c_S_crossingKey 65 = .ok (.invokestatic 51, 3) := by decide +kernel
theorem d_S_crossingKey_68 : decode c_S_crossingKey 68 = .ok (.lreturn, 1) := by decide +kernel
theorem d_S_roundedPart_0 : decode c_S_roundedPart 0 = .ok (.lload_n 0, 1) := by decide +kernel
theorem d_S_roundedPart_1 : decode c_S_roundedPart 1 = .ok (.invokestatic 69, 3) := by decide +kernel
theorem d_S_roundedPart_4 : decode c_S_roundedPart 4 = .ok (.lstore 6, 2) := by decide +kernel
theorem d_S_roundedPart_6 : decode c_S_roundedPart 6 = .ok (.lconst 0, 1) := by decide +kernel
theorem d_S_roundedPart_7 : decode c_S_roundedPart 7 = .ok (.lstore 8, 2) := by decide +kernel
theorem d_S_roundedPart_9 : decode c_S_roundedPart 9 = .ok (.lconst 0, 1) := by decide +kernel
theorem d_S_roundedPart_10 : decode c_S_roundedPart 10 = .ok (.lstore 10, 2) := by decide +kernel
theorem d_S_roundedPart_12 : decode c_S_roundedPart 12 = .ok (.ldc2_w 77, 3) := by decide +kernel
theorem d_S_roundedPart_15 : decode c_S_roundedPart 15 = .ok (.lstore 12, 2) := by decide +kernel
theorem d_S_roundedPart_17 : decode c_S_roundedPart 17 = .ok (.lload 12, 2) := by decide +kernel
theorem d_S_roundedPart_19 : decode c_S_roundedPart 19 = .ok (.lconst 0, 1) := by decide +kernel
theorem d_S_roundedPart_20 : decode c_S_roundedPart 20 = .ok (.lcmp, 1) := by decide +kernel
theorem d_S_roundedPart_21 : decode c_S_roundedPart 21 = .ok (.ifCond .le 86, 3) := by decide +kernel
theorem d_S_roundedPart_24 : decode c_S_roundedPart 24 = .ok (.ldc2_w 60, 3) := by decide +kernel
theorem d_S_roundedPart_27 : decode c_S_roundedPart 27 = .ok (.lload 8, 2) := by decide +kernel
theorem d_S_roundedPart_29 : decode c_S_roundedPart 29 = .ok (.lmul, 1) := by decide +kernel
theorem d_S_roundedPart_30 : decode c_S_roundedPart 30 = .ok (.lstore 8, 2) := by decide +kernel
theorem d_S_roundedPart_32 : decode c_S_roundedPart 32 = .ok (.ldc2_w 60, 3) := by decide +kernel
theorem d_S_roundedPart_35 : decode c_S_roundedPart 35 = .ok (.lload 10, 2) := by decide +kernel
theorem d_S_roundedPart_37 : decode c_S_roundedPart 37 = .ok (.lmul, 1) := by decide +kernel
theorem d_S_roundedPart_38 : decode c_S_roundedPart 38 = .ok (.lload 6, 2) := by decide +kernel
theorem d_S_roundedPart_40 : decode c_S_roundedPart 40 = .ok (.lload 12, 2) := by decide +kernel
theorem d_S_roundedPart_42 : decode c_S_roundedPart 42 = .ok (.land, 1) := by decide +kernel
theorem d_S_roundedPart_43 : decode c_S_roundedPart 43 = .ok (.lconst 0, 1) := by decide +kernel
theorem d_S_roundedPart_44 : decode c_S_roundedPart 44 = .ok (.lcmp, 1) := by decide +kernel
theorem d_S_roundedPart_45 : decode c_S_roundedPart 45 = .ok (.ifCond .eq 7, 3) := by decide +kernel
theorem d_S_roundedPart_48 : decode c_S_roundedPart 48 = .ok (.lload_n 2, 1) := by decide +kernel
theorem d_S_roundedPart_49 : decode c_S_roundedPart 49 = .ok (.goto 4, 3) := by decide +kernel
theorem d_S_roundedPart_52 : decode c_S_roundedPart 52 = .ok (.lconst 0, 1) := by decide +kernel
theorem d_S_roundedPart_53 : decode c_S_roundedPart 53 = .ok (.ladd, 1) := by decide +kernel
theorem d_S_roundedPart_54 : decode c_S_roundedPart 54 = .ok (.lstore 10, 2) := by decide +kernel
theorem d_S_roundedPart_56 : decode c_S_roundedPart 56 = .ok (.lload 10, 2) := by decide +kernel
theorem d_S_roundedPart_58 : decode c_S_roundedPart 58 = .ok (.lload 4, 2) := by decide +kernel
theorem d_S_roundedPart_60 : decode c_S_roundedPart 60 = .ok (.lcmp, 1) := by decide +kernel
theorem d_S_roundedPart_61 : decode c_S_roundedPart 61 = .ok (.ifCond .lt 16, 3) := by decide +kernel
theorem d_S_roundedPart_64 : decode c_S_roundedPart 64 = .ok (.lload 10, 2) := by decide +kernel
theorem d_S_roundedPart_66 : decode c_S_roundedPart 66 = .ok (.lload 4, 2) := by decide +kernel
theorem d_S_roundedPart_68 : decode c_S_roundedPart 68 = .ok (.lsub, 1) := by decide +kernel
theorem d_S_roundedPart_69 : decode c_S_roundedPart 69 = .ok (.lstore 10, 2) := by decide +kernel
theorem d_S_roundedPart_71 : decode c_S_roundedPart 71 = .ok (.lload 8, 2) := by decide +kernel
theorem d_S_roundedPart_73 : decode c_S_roundedPart 73 = .ok (.lconst 1, 1) := by decide +kernel
theorem d_S_roundedPart_74 : decode c_S_roundedPart 74 = .ok (.ladd, 1) := by decide +kernel
theorem d_S_roundedPart_75 : decode c_S_roundedPart 75 = .ok (.lstore 8, 2) := by decide +kernel
theorem d_S_roundedPart_77 : decode c_S_roundedPart 77 = .ok (.lload 10, 2) := by decide +kernel
theorem d_S_roundedPart_79 : decode c_S_roundedPart 79 = .ok (.lload 4, 2) := by decide +kernel
theorem d_S_roundedPart_81 : decode c_S_roundedPart 81 = .ok (.lcmp, 1) := by decide +kernel
theorem d_S_roundedPart_82 : decode c_S_roundedPart 82 = .ok (.ifCond .lt 16, 3) := by decide +kernel
theorem d_S_roundedPart_85 : decode c_S_roundedPart 85 = .ok (.lload 10, 2) := by decide +kernel
theorem d_S_roundedPart_87 : decode c_S_roundedPart 87 = .ok (.lload 4, 2) := by decide +kernel
theorem d_S_roundedPart_89 : decode c_S_roundedPart 89 = .ok (.lsub, 1) := by decide +kernel
theorem d_S_roundedPart_90 : decode c_S_roundedPart 90 = .ok (.lstore 10, 2) := by decide +kernel
theorem d_S_roundedPart_92 : decode c_S_roundedPart 92 = .ok (.lload 8, 2) := by decide +kernel
theorem d_S_roundedPart_94 : decode c_S_roundedPart 94 = .ok (.lconst 1, 1) := by decide +kernel
theorem d_S_roundedPart_95 : decode c_S_roundedPart 95 = .ok (.ladd, 1) := by decide +kernel
theorem d_S_roundedPart_96 : decode c_S_roundedPart 96 = .ok (.lstore 8, 2) := by decide +kernel
theorem d_S_roundedPart_98 : decode c_S_roundedPart 98 = .ok (.lload 12, 2) := by decide +kernel
theorem d_S_roundedPart_100 : decode c_S_roundedPart 100 = .ok (.iconst 1, 1) := by decide +kernel
theorem d_S_roundedPart_101 : decode c_S_roundedPart 101 = .ok (.lshr, 1) := by decide +kernel
theorem d_S_roundedPart_102 : decode c_S_roundedPart 102 = .ok (.lstore 12, 2) := by decide +kernel
theorem d_S_roundedPart_104 : decode c_S_roundedPart 104 = .ok (.goto (-87), 3) := by decide +kernel
theorem d_S_roundedPart_107 : decode c_S_roundedPart 107 = .ok (.lload_n 0, 1) := by decide +kernel
theorem d_S_roundedPart_108 : decode c_S_roundedPart 108 = .ok (.lconst 0, 1) := by decide +kernel
theorem d_S_roundedPart_109 : decode c_S_roundedPart 109 = .ok (.lcmp, 1) := by decide +kernel
theorem d_S_roundedPart_110 : decode c_S_roundedPart 110 = .ok (.ifCond .ge 26, 3) := by decide +kernel
theorem d_S_roundedPart_113 : decode c_S_roundedPart 113 = .ok (.ldc2_w 60, 3) := by decide +kernel
theorem d_S_roundedPart_116 : decode c_S_roundedPart 116 = .ok (.lload 10, 2) := by decide +kernel
theorem d_S_roundedPart_118 : decode c_S_roundedPart 118 = .ok (.lmul, 1) := by decide +kernel
theorem d_S_roundedPart_119 : decode c_S_roundedPart 119 = .ok (.lload 4, 2) := by decide +kernel
theorem d_S_roundedPart_121 : decode c_S_roundedPart 121 = .ok (.lcmp, 1) := by decide +kernel
theorem d_S_roundedPart_122 : decode c_S_roundedPart 122 = .ok (.ifCond .le 10, 3) := by decide +kernel
theorem d_S_roundedPart_125 : decode c_S_roundedPart 125 = .ok (.lload 8, 2) := by decide +kernel
theorem d_S_roundedPart_127 : decode c_S_roundedPart 127 = .ok (.lconst 1, 1) := by decide +kernel
theorem d_S_roundedPart_128 : decode c_S_roundedPart 128 = .ok (.ladd, 1) := by decide +kernel
theorem d_S_roundedPart_129 : decode c_S_roundedPart 129 = .ok (.goto 5, 3) := by decide +kernel
theorem d_S_roundedPart_132 : decode c_S_roundedPart 132 = .ok (.lload 8, 2) := by decide +kernel
theorem d_S_roundedPart_134 : decode c_S_roundedPart 134 = .ok (.lneg, 1) := by decide +kernel
theorem d_S_roundedPart_135 : decode c_S_roundedPart 135 = .ok (.lreturn, 1) := by decide +kernel
theorem d_S_roundedPart_136 : decode c_S_roundedPart 136 = .ok (.ldc2_w 60, 3) := by decide +kernel
theorem d_S_roundedPart_139 : decode c_S_roundedPart 139 = .ok (.lload 10, 2) := by decide +kernel
theorem d_S_roundedPart_141 : decode c_S_roundedPart 141 = .ok (.lmul, 1) := by decide +kernel
theorem d_S_roundedPart_142 : decode c_S_roundedPart 142 = .ok (.lload 4, 2) := by decide +kernel
theorem d_S_roundedPart_144 : decode c_S_roundedPart 144 = .ok (.lcmp, 1) := by decide +kernel
theorem d_S_roundedPart_145 : decode c_S_roundedPart 145 = .ok (.ifCond .lt 10, 3) := by decide +kernel
theorem d_S_roundedPart_148 : decode c_S_roundedPart 148 = .ok (.lload 8, 2) := by decide +kernel
theorem d_S_roundedPart_150 : decode c_S_roundedPart 150 = .ok (.lconst 1, 1) := by decide +kernel
theorem d_S_roundedPart_151 : decode c_S_roundedPart 151 = .ok (.ladd, 1) := by decide +kernel
theorem d_S_roundedPart_152 : decode c_S_roundedPart 152 = .ok (.goto 5, 3) := by decide +kernel
theorem d_S_roundedPart_155 : decode c_S_roundedPart 155 = .ok (.lload 8, 2) := by decide +kernel
theorem d_S_roundedPart_157 : decode c_S_roundedPart 157 = .ok (.lreturn, 1) := by decide +kernel
def ab64 (x : Int64) : Int64 := if 0 < x then x else -x
def rp_bit (k : Nat) : Int64 := if k = 0 then 0 else lN (2 ^ (k - 1))
def rp_sub (whole : Int64) (s : Int64 × Int64) : Int64 × Int64 := if s.2 < whole then s else (s.1 + 1, s.2 - whole)
/-- the bits that are left, from the highest: the part so far, what is left of it -/
def rp_go (len share whole : Int64) : Nat → Int64 × Int64 → Int64 × Int64
  | 0, s => s
  | k + 1, s => rp_go len share whole k (rp_sub whole (rp_sub whole (2 * s.1, 2 * s.2 + (if len &&& rp_bit (k + 1) = 0 then 0 else share))))
def rp_all (way share whole : Int64) : Int64 × Int64 := rp_go (ab64 way) share whole 30 (0, 0)
def sg_rp (way share whole : Int64) : Int64 :=
  if way < 0 then -(if whole < 2 * (rp_all way share whole).2 then (rp_all way share whole).1 + 1 else (rp_all way share whole).1)
  else (if 2 * (rp_all way share whole).2 < whole then (rp_all way share whole).1 else (rp_all way share whole).1 + 1)
theorem rp_bit_pos : ∀ k : Nat, k < 30 → 0 < rp_bit (k + 1) := by decide
theorem rp_bit_shr : ∀ k : Nat, k < 30 → rp_bit (k + 1) >>> (Int32.toInt64 1 &&& 63) = rp_bit k := by decide
set_option maxHeartbeats 4000000 in
set_option maxRecDepth 100000 in
theorem k_S_roundedPart (l : Launch) (D : va_G) (E : ClassId × ClassId × ClassId × ClassId) (wy sh wh : Int64) : Met l y_S_roundedPart (.code y_S_roundedPart c_S_roundedPart 14 (some .long) :: gw) ({ frames := 1, cells := 0, slots := 0, locals := 15 } : Room) (rP D E [] [.long wy, .long sh, .long wh]) (vp_Sl (fun r => r = sg_rp wy sh wh)) 0 0 (fun _ => False) := by
  refine rd_ofW (by decide) (Nat.le_of_ble_eq_true rfl) ?_
  intro p e s m below meth c B hP hK ls hl
  obtain ⟨hx, hb, hrt, hml, hown, hts, hG, hlocks, hin⟩ := B
  have hl : lv_has ls 14 [(0, .long wy), (2, .long sh), (4, .long wh)] := hl
  refine lv_lload_n hx hb d_S_roundedPart_0 rfl (lv_at hl 0 rfl) ?_
  refine va_mabs_long hx hb (hml.trans hl.1.symm) hown (hG _ wd_455) (hG _ wd_456) (hG _ wd_49) (hG _ wd_457) (Nat.le_of_ble_eq_true rfl) (Nat.le_of_ble_eq_true rfl) (Nat.le_of_ble_eq_true rfl) (Nat.le_of_ble_eq_true rfl) d_S_roundedPart_1 ?_
  change W _ _ _ _ _ _ _ _ _ _ _ _ _ _ _ (F0 m 4 ls [.long (ab64 wy)])
  refine lv_lstore (lv' := [(6, .long (ab64 wy)), (0, .long wy), (2, .long sh), (4, .long wh)]) hx hb d_S_roundedPart_4 hl (by decide) rfl (fun ls hl => ?_)
  refine lv_lconst (v := 0) hx hb d_S_roundedPart_6 (by decide) ?_
  refine lv_lstore (lv' := [(8, .long 0), (6, .long (ab64 wy)), (0, .long wy), (2, .long sh), (4, .long wh)]) hx hb d_S_roundedPart_7 hl (by decide) rfl (fun ls hl => ?_)
  refine lv_lconst (v := 0) hx hb d_S_roundedPart_9 (by decide) ?_
  refine lv_lstore (lv' := [(10, .long 0), (8, .long 0), (6, .long (ab64 wy)), (0, .long wy), (2, .long sh), (4, .long wh)]) hx hb d_S_roundedPart_10 hl (by decide) rfl (fun ls hl => ?_)
  refine lv_ldc2 hx hb hown (hG _ wd_461) d_S_roundedPart_12 ?_
  refine lv_lstore (lv' := [(12, .long 536870912), (10, .long 0), (8, .long 0), (6, .long (ab64 wy)), (0, .long wy), (2, .long sh), (4, .long wh)]) hx hb d_S_roundedPart_15 hl (by decide) rfl (fun ls hl => ?_)
  obtain ⟨pl, hpl⟩ : ∃ o, o = rp_all wy sh wh := ⟨_, rfl⟩
  have loop : ∀ (fu : Nat) (pa : Int64) (lf : Int64) (ls : Array Slot), (fu ≤ 30) → (rp_go (ab64 wy) sh wh fu (pa, lf) = pl) → lv_has ls 14 [(0, .long wy), (2, .long sh), (4, .long wh), (6, .long (ab64 wy)), (8, .long pa), (10, .long lf), (12, .long (rp_bit fu))] → W p l e ({ frames := 1, cells := 0, slots := 0, locals := 15 } : Room) s m ([.long wy, .long sh, .long wh] : List Value).toArray below meth c s.heap [] 0 0 (MQ below (vp_Sl (fun r => r = sg_rp wy sh wh)) ([.long wy, .long sh, .long wh] : List Value).toArray s 0 0 (fun _ => False)) (F0 m 17 ls []) := by
    intro fu
    induction fu with
    | zero =>
      intro pa lf ls h1 h2 hl
      have h2 : (pa, lf) = pl := h2
      have e1 : pl.1 = pa := by rw [← h2]
      have e2 : pl.2 = lf := by rw [← h2]
      refine lv_lload hx hb d_S_roundedPart_17 (lv_at hl 6 rfl) ?_
      refine lv_lconst (v := 0) hx hb d_S_roundedPart_19 (by decide) ?_
      refine W.lcmp hx hb d_S_roundedPart_20 ?_
      refine lv_if_le (tgt := 107) hx hb d_S_roundedPart_21 (by decide) (fun c0 => ?_) (fun c0 => ?_)
      · refine lv_lload_n hx hb d_S_roundedPart_107 rfl (lv_at hl 0 rfl) ?_
        refine lv_lconst (v := 0) hx hb d_S_roundedPart_108 (by decide) ?_
        refine W.lcmp hx hb d_S_roundedPart_109 ?_
        refine lv_if_ge (tgt := 136) hx hb d_S_roundedPart_110 (by decide) (fun c1 => ?_) (fun c1 => ?_)
        · refine lv_ldc2 hx hb hown (hG _ wd_462) d_S_roundedPart_136 ?_
          refine lv_lload hx hb d_S_roundedPart_139 (lv_at hl 5 rfl) ?_
          refine lv_lmul hx hb d_S_roundedPart_141 ?_
          refine lv_lload hx hb d_S_roundedPart_142 (lv_at hl 2 rfl) ?_
          refine W.lcmp hx hb d_S_roundedPart_144 ?_
          refine lv_if_lt (tgt := 155) hx hb d_S_roundedPart_145 (by decide) (fun c2 => ?_) (fun c2 => ?_)
          · refine lv_lload hx hb d_S_roundedPart_155 (lv_at hl 4 rfl) ?_
            exact W.lret (v := pa) hx hb hrt (fun t ht hW => ⟨pa, rfl, by rw [sg_rp, if_neg (lg_ge.mp c1), ← hpl, e1, e2, if_pos (lg_lt.mp c2)], ht⟩) (fun q h => nomatch h) d_S_roundedPart_157 hlocks
          · refine lv_lload hx hb d_S_roundedPart_148 (lv_at hl 4 rfl) ?_
            refine lv_lconst (v := 1) hx hb d_S_roundedPart_150 (by decide) ?_
            refine lv_ladd hx hb d_S_roundedPart_151 ?_
            refine lv_goto (tgt := 157) hx hb d_S_roundedPart_152 (by decide) ?_
            exact W.lret (v := (pa + 1)) hx hb hrt (fun t ht hW => ⟨(pa + 1), rfl, by rw [sg_rp, if_neg (lg_ge.mp c1), ← hpl, e1, e2, if_neg (fun h => c2 (lg_lt.mpr h))], ht⟩) (fun q h => nomatch h) d_S_roundedPart_157 hlocks
        · refine lv_ldc2 hx hb hown (hG _ wd_462) d_S_roundedPart_113 ?_
          refine lv_lload hx hb d_S_roundedPart_116 (lv_at hl 5 rfl) ?_
          refine lv_lmul hx hb d_S_roundedPart_118 ?_
          refine lv_lload hx hb d_S_roundedPart_119 (lv_at hl 2 rfl) ?_
          refine W.lcmp hx hb d_S_roundedPart_121 ?_
          refine lv_if_le (tgt := 132) hx hb d_S_roundedPart_122 (by decide) (fun c2 => ?_) (fun c2 => ?_)
          · refine lv_lload hx hb d_S_roundedPart_132 (lv_at hl 4 rfl) ?_
            refine lv_lneg hx hb d_S_roundedPart_134 ?_
            exact W.lret (v := (-pa)) hx hb hrt (fun t ht hW => ⟨(-pa), rfl, by rw [sg_rp, if_pos (lg_ge' c1), ← hpl, e1, e2, if_neg (lg_le.mp c2)], ht⟩) (fun q h => nomatch h) d_S_roundedPart_135 hlocks
          · refine lv_lload hx hb d_S_roundedPart_125 (lv_at hl 4 rfl) ?_
            refine lv_lconst (v := 1) hx hb d_S_roundedPart_127 (by decide) ?_
            refine lv_ladd hx hb d_S_roundedPart_128 ?_
            refine lv_goto (tgt := 134) hx hb d_S_roundedPart_129 (by decide) ?_
            refine lv_lneg hx hb d_S_roundedPart_134 ?_
            exact W.lret (v := (-(pa + 1))) hx hb hrt (fun t ht hW => ⟨(-(pa + 1)), rfl, by rw [sg_rp, if_pos (lg_ge' c1), ← hpl, e1, e2, if_pos (lg_le' c2)], ht⟩) (fun q h => nomatch h) d_S_roundedPart_135 hlocks
      · exact absurd (by decide) c0
    | succ fu ih =>
      intro pa lf ls h1 h2 hl
      rw [rp_go] at h2
      refine lv_lload hx hb d_S_roundedPart_17 (lv_at hl 6 rfl) ?_
      refine lv_lconst (v := 0) hx hb d_S_roundedPart_19 (by decide) ?_
      refine W.lcmp hx hb d_S_roundedPart_20 ?_
      refine lv_if_le (tgt := 107) hx hb d_S_roundedPart_21 (by decide) (fun c0 => ?_) (fun c0 => ?_)
      · exact absurd (lg_le.mp c0) (fun h => h (rp_bit_pos fu (by omega)))
      · refine lv_ldc2 hx hb hown (hG _ wd_462) d_S_roundedPart_24 ?_
        refine lv_lload hx hb d_S_roundedPart_27 (lv_at hl 4 rfl) ?_
        refine lv_lmul hx hb d_S_roundedPart_29 ?_
        refine lv_lstore (lv' := [(8, .long (2 * pa)), (0, .long wy), (2, .long sh), (4, .long wh), (6, .long (ab64 wy)), (10, .long lf), (12, .long (rp_bit (fu + 1)))]) hx hb d_S_roundedPart_30 hl (by decide) rfl (fun ls hl => ?_)
        refine lv_ldc2 hx hb hown (hG _ wd_462) d_S_roundedPart_32 ?_
        refine lv_lload hx hb d_S_roundedPart_35 (lv_at hl 5 rfl) ?_
        refine lv_lmul hx hb d_S_roundedPart_37 ?_
        refine lv_lload hx hb d_S_roundedPart_38 (lv_at hl 4 rfl) ?_
        refine lv_lload hx hb d_S_roundedPart_40 (lv_at hl 6 rfl) ?_
        refine lv_land hx hb d_S_roundedPart_42 ?_
        refine lv_lconst (v := 0) hx hb d_S_roundedPart_43 (by decide) ?_
        refine W.lcmp hx hb d_S_roundedPart_44 ?_
        have J3 : ∀ (p3 : Int64) (l3 : Int64) (ls : Array Slot), (rp_go (ab64 wy) sh wh fu (p3, l3) = pl) → lv_has ls 14 [(0, .long wy), (2, .long sh), (4, .long wh), (6, .long (ab64 wy)), (8, .long p3), (10, .long l3), (12, .long (rp_bit (fu + 1)))] → W p l e ({ frames := 1, cells := 0, slots := 0, locals := 15 } : Room) s m ([.long wy, .long sh, .long wh] : List Value).toArray below meth c s.heap [] 0 0 (MQ below (vp_Sl (fun r => r = sg_rp wy sh wh)) ([.long wy, .long sh, .long wh] : List Value).toArray s 0 0 (fun _ => False)) (F0 m 98 ls []) := by
          intro p3 l3 ls h3 hl
          refine lv_lload hx hb d_S_roundedPart_98 (lv_at hl 6 rfl) ?_
          refine lv_iconst (v := 1) hx hb d_S_roundedPart_100 (by decide) ?_
          refine lv_lshr hx hb d_S_roundedPart_101 rfl ?_
          rw [show ((rp_bit (fu + 1)) >>> (Int32.toInt64 1 &&& 63)) = (rp_bit fu) from rp_bit_shr fu (by omega)]
          refine lv_lstore (lv' := [(12, .long (rp_bit fu)), (0, .long wy), (2, .long sh), (4, .long wh), (6, .long (ab64 wy)), (8, .long p3), (10, .long l3)]) hx hb d_S_roundedPart_102 hl (by decide) rfl (fun ls hl => ?_)
          refine lv_goto (tgt := 17) hx hb d_S_roundedPart_104 (by decide) ?_
          exact ih p3 l3 ls (by omega) h3 (lv_sub hl [1, 2, 3, 4, 5, 6, 0] rfl)
        have J2 : ∀ (p2 : Int64) (l2 : Int64) (ls : Array Slot), (rp_go (ab64 wy) sh wh fu (rp_sub wh (p2, l2)) = pl) → lv_has ls 14 [(0, .long wy), (2, .long sh), (4, .long wh), (6, .long (ab64 wy)), (8, .long p2), (10, .long l2), (12, .long (rp_bit (fu + 1)))] → W p l e ({ frames := 1, cells := 0, slots := 0, locals := 15 } : Room) s m ([.long wy, .long sh, .long wh] : List Value).toArray below meth c s.heap [] 0 0 (MQ below (vp_Sl (fun r => r = sg_rp wy sh wh)) ([.long wy, .long sh, .long wh] : List Value).toArray s 0 0 (fun _ => False)) (F0 m 77 ls []) := by
          intro p2 l2 ls h3 hl
          refine lv_lload hx hb d_S_roundedPart_77 (lv_at hl 5 rfl) ?_
          refine lv_lload hx hb d_S_roundedPart_79 (lv_at hl 2 rfl) ?_
          refine W.lcmp hx hb d_S_roundedPart_81 ?_
          refine lv_if_lt (tgt := 98) hx hb d_S_roundedPart_82 (by decide) (fun c2 => ?_) (fun c2 => ?_)
          · rw [rp_sub, if_pos (lg_lt.mp c2)] at h3
            exact J3 p2 l2 ls h3 (lv_sub hl [0, 1, 2, 3, 4, 5, 6] rfl)
          · rw [rp_sub, if_neg (fun h => c2 (lg_lt.mpr h))] at h3
            refine lv_lload hx hb d_S_roundedPart_85 (lv_at hl 5 rfl) ?_
            refine lv_lload hx hb d_S_roundedPart_87 (lv_at hl 2 rfl) ?_
            refine lv_lsub hx hb d_S_roundedPart_89 ?_
            refine lv_lstore (lv' := [(10, .long (l2 - wh)), (0, .long wy), (2, .long sh), (4, .long wh), (6, .long (ab64 wy)), (8, .long p2), (12, .long (rp_bit (fu + 1)))]) hx hb d_S_roundedPart_90 hl (by decide) rfl (fun ls hl => ?_)
            refine lv_lload hx hb d_S_roundedPart_92 (lv_at hl 5 rfl) ?_
            refine lv_lconst (v := 1) hx hb d_S_roundedPart_94 (by decide) ?_
            refine lv_ladd hx hb d_S_roundedPart_95 ?_
            refine lv_lstore (lv' := [(8, .long (p2 + 1)), (10, .long (l2 - wh)), (0, .long wy), (2, .long sh), (4, .long wh), (6, .long (ab64 wy)), (12, .long (rp_bit (fu + 1)))]) hx hb d_S_roundedPart_96 hl (by decide) rfl (fun ls hl => ?_)
            exact J3 _ _ ls h3 (lv_sub hl [2, 3, 4, 5, 0, 1, 6] rfl)
        have J1 : ∀ (ad : Int64) (ls : Array Slot), ((if ab64 wy &&& rp_bit (fu + 1) = 0 then 0 else sh) = ad) → lv_has ls 14 [(0, .long wy), (2, .long sh), (4, .long wh), (6, .long (ab64 wy)), (8, .long (2 * pa)), (12, .long (rp_bit (fu + 1)))] → W p l e ({ frames := 1, cells := 0, slots := 0, locals := 15 } : Room) s m ([.long wy, .long sh, .long wh] : List Value).toArray below meth c s.heap [] 0 0 (MQ below (vp_Sl (fun r => r = sg_rp wy sh wh)) ([.long wy, .long sh, .long wh] : List Value).toArray s 0 0 (fun _ => False)) (F0 m 53 ls [.long ad, .long (2 * lf)]) := by
          intro ad ls h3 hl
          rw [h3] at h2
          refine lv_ladd hx hb d_S_roundedPart_53 ?_
          refine lv_lstore (lv' := [(10, .long ((2 * lf) + ad)), (0, .long wy), (2, .long sh), (4, .long wh), (6, .long (ab64 wy)), (8, .long (2 * pa)), (12, .long (rp_bit (fu + 1)))]) hx hb d_S_roundedPart_54 hl (by decide) rfl (fun ls hl => ?_)
          refine lv_lload hx hb d_S_roundedPart_56 (lv_at hl 0 rfl) ?_
          refine lv_lload hx hb d_S_roundedPart_58 (lv_at hl 3 rfl) ?_
          refine W.lcmp hx hb d_S_roundedPart_60 ?_
          refine lv_if_lt (tgt := 77) hx hb d_S_roundedPart_61 (by decide) (fun c1 => ?_) (fun c1 => ?_)
          · rw [show rp_sub wh (2 * pa, 2 * lf + ad) = (2 * pa, 2 * lf + ad) from if_pos (lg_lt.mp c1)] at h2
            exact J2 _ _ ls h2 (lv_sub hl [1, 2, 3, 4, 5, 0, 6] rfl)
          · rw [show rp_sub wh (2 * pa, 2 * lf + ad) = (2 * pa + 1, 2 * lf + ad - wh) from if_neg (fun h => c1 (lg_lt.mpr h))] at h2
            refine lv_lload hx hb d_S_roundedPart_64 (lv_at hl 0 rfl) ?_
            refine lv_lload hx hb d_S_roundedPart_66 (lv_at hl 3 rfl) ?_
            refine lv_lsub hx hb d_S_roundedPart_68 ?_
            refine lv_lstore (lv' := [(10, .long (((2 * lf) + ad) - wh)), (0, .long wy), (2, .long sh), (4, .long wh), (6, .long (ab64 wy)), (8, .long (2 * pa)), (12, .long (rp_bit (fu + 1)))]) hx hb d_S_roundedPart_69 hl (by decide) rfl (fun ls hl => ?_)
            refine lv_lload hx hb d_S_roundedPart_71 (lv_at hl 5 rfl) ?_
            refine lv_lconst (v := 1) hx hb d_S_roundedPart_73 (by decide) ?_
            refine lv_ladd hx hb d_S_roundedPart_74 ?_
            refine lv_lstore (lv' := [(8, .long ((2 * pa) + 1)), (10, .long (((2 * lf) + ad) - wh)), (0, .long wy), (2, .long sh), (4, .long wh), (6, .long (ab64 wy)), (12, .long (rp_bit (fu + 1)))]) hx hb d_S_roundedPart_75 hl (by decide) rfl (fun ls hl => ?_)
            exact J2 _ _ ls h2 (lv_sub hl [2, 3, 4, 5, 0, 1, 6] rfl)
        refine lv_if_eq (tgt := 52) hx hb d_S_roundedPart_45 (by decide) (fun c1 => ?_) (fun c1 => ?_)
        · refine lv_lconst (v := 0) hx hb d_S_roundedPart_52 (by decide) ?_
          exact J1 0 ls (if_pos (lg_eq.mp c1)) (lv_sub hl [1, 2, 3, 4, 0, 6] rfl)
        · refine lv_lload_n hx hb d_S_roundedPart_48 rfl (lv_at hl 2 rfl) ?_
          refine lv_goto (tgt := 53) hx hb d_S_roundedPart_49 (by decide) ?_
          exact J1 sh ls (if_neg (fun h => c1 (lg_eq.mpr h))) (lv_sub hl [1, 2, 3, 4, 0, 6] rfl)
  exact loop 30 0 0 ls (by omega) hpl.symm (lv_sub hl [4, 5, 6, 3, 2, 1, 0] rfl)
def sg_before (q o : SQ) : Int64 := ab64 (sg_side o (sx q) (sy q))
def sg_whole (q o : SQ) : Int64 := sg_before q o + ab64 (sg_side o (su q) (sv q))
def sg_ck (q o : SQ) : Int64 := sg_key (sx q + sg_rp (swx q) (sg_before q o) (sg_whole q o)) (sy q + sg_rp (swy q) (sg_before q o) (sg_whole q o))
set_option maxHeartbeats 4000000 in
set_option maxRecDepth 100000 in
theorem k_S_crossingKey (l : Launch) (D : va_G) (E : ClassId × ClassId × ClassId × ClassId) (h0 h1 : Nat) (q o : SQ) : Met l y_S_crossingKey (.code y_S_crossingKey c_S_crossingKey 6 (some .long) :: gw) ({ frames := 2, cells := 0, slots := 0, locals := 60 } : Room) (rP D E [(h0, .inr (1, sgF q)), (h1, .inr (1, sgF o))] [.ref h0, .ref h1]) (vp_Sl (fun r => r = sg_ck q o)) 0 0 (fun _ => False) := by
  refine rd_ofW (by decide) (Nat.le_of_ble_eq_true rfl) ?_
  intro p e s m below meth c B hP hK ls hl
  obtain ⟨hx, hb, hrt, hml, hown, hts, hG, hlocks, hin⟩ := B
  have hl : lv_has ls 6 [(0, .ref h0), (1, .ref h1)] := hl
  refine lv_aload_n hx hb d_S_crossingKey_0 rfl (lv_at hl 1 rfl) ?_
  refine lv_aload_n hx hb d_S_crossingKey_1 rfl (lv_at hl 0 rfl) ?_
  refine va_get (D := D) (ci := 1) (v := .long (sx q)) (C := K_S) (T := F_S) (N := 10) hx hb hG in_S hown hK.1 hP 0 rfl rfl 0 (by decide) (hG _ wd_270) (fun _ h9 => h9) rfl d_S_crossingKey_2 ?_
  refine lv_aload_n hx hb d_S_crossingKey_5 rfl (lv_at hl 0 rfl) ?_
  refine va_get (D := D) (ci := 1) (v := .long (sy q)) (C := K_S) (T := F_S) (N := 10) hx hb hG in_S hown hK.1 hP 0 rfl rfl 1 (by decide) (hG _ wd_271) (fun _ h9 => h9) rfl d_S_crossingKey_6 ?_
  have hPc := hP.sub (ws' := [(h1, .inr (1, sgF o))]) [1] rfl
  refine vp_callSl (W.runV (As := [.long (sx q), .long (sy q)]) (rest := []) ⟨hx, hb, hml, hown, hts⟩ (k_S_sideOf l D E h1 o (sx q) (sy q)) (cwV 2 hts (gw_gv wd_447 wd_449 wd_11 wd_48 wd_450) rfl rfl rfl (by decide +kernel) ⟨Nat.le_of_ble_eq_true rfl, Nat.le_of_ble_eq_true rfl⟩) (rP_V 0 hPc hK rfl rfl) rfl rfl hl.1 rfl (lv_room (Nat.le_of_ble_eq_true rfl)) d_S_crossingKey_9 ⟨Nat.le_of_ble_eq_true rfl, Nat.le_of_ble_eq_true rfl⟩) (fun r1 hr1 => ?_)
  subst hr1
  refine va_mabs_long hx hb (hml.trans hl.1.symm) hown (hG _ wd_455) (hG _ wd_456) (hG _ wd_49) (hG _ wd_457) (Nat.le_of_ble_eq_true rfl) (Nat.le_of_ble_eq_true rfl) (Nat.le_of_ble_eq_true rfl) (Nat.le_of_ble_eq_true rfl) d_S_crossingKey_12 ?_
  change W _ _ _ _ _ _ _ _ _ _ _ _ _ _ _ (F0 m 15 ls [.long (sg_before q o)])
  refine lv_lstore_n (lv' := [(2, .long (sg_before q o)), (0, .ref h0), (1, .ref h1)]) hx hb d_S_crossingKey_15 rfl hl (by decide) rfl (fun ls hl => ?_)
  refine lv_lload_n hx hb d_S_crossingKey_16 rfl (lv_at hl 0 rfl) ?_
  refine lv_aload_n hx hb d_S_crossingKey_17 rfl (lv_at hl 2 rfl) ?_
  refine lv_aload_n hx hb d_S_crossingKey_18 rfl (lv_at hl 1 rfl) ?_
  refine va_get (D := D) (ci := 1) (v := .long (su q)) (C := K_S) (T := F_S) (N := 10) hx hb hG in_S hown hK.1 hP 0 rfl rfl 2 (by decide) (hG _ wd_272) (fun _ h9 => h9) rfl d_S_crossingKey_19 ?_
  refine lv_aload_n hx hb d_S_crossingKey_22 rfl (lv_at hl 1 rfl) ?_
  refine va_get (D := D) (ci := 1) (v := .long (sv q)) (C := K_S) (T := F_S) (N := 10) hx hb hG in_S hown hK.1 hP 0 rfl rfl 3 (by decide) (hG _ wd_273) (fun _ h9 => h9) rfl d_S_crossingKey_23 ?_
  have hPc := hP.sub (ws' := [(h1, .inr (1, sgF o))]) [1] rfl
  refine vp_callSl (W.runV (As := [.long (su q), .long (sv q)]) (rest := [.long (sg_before q o)]) ⟨hx, hb, hml, hown, hts⟩ (k_S_sideOf l D E h1 o (su q) (sv q)) (cwV 2 hts (gw_gv wd_447 wd_449 wd_11 wd_48 wd_450) rfl rfl rfl (by decide +kernel) ⟨Nat.le_of_ble_eq_true rfl, Nat.le_of_ble_eq_true rfl⟩) (rP_V 0 hPc hK rfl rfl) rfl rfl hl.1 rfl (lv_room (Nat.le_of_ble_eq_true rfl)) d_S_crossingKey_26 ⟨Nat.le_of_ble_eq_true rfl, Nat.le_of_ble_eq_true rfl⟩) (fun r2 hr2 => ?_)
  subst hr2
  refine va_mabs_long hx hb (hml.trans hl.1.symm) hown (hG _ wd_455) (hG _ wd_456) (hG _ wd_49) (hG _ wd_457) (Nat.le_of_ble_eq_true rfl) (Nat.le_of_ble_eq_true rfl) (Nat.le_of_ble_eq_true rfl) (Nat.le_of_ble_eq_true rfl) d_S_crossingKey_29 ?_
  refine lv_ladd hx hb d_S_crossingKey_32 ?_
  change W _ _ _ _ _ _ _ _ _ _ _ _ _ _ _ (F0 m 33 ls [.long (sg_whole q o)])
  refine lv_lstore (lv' := [(4, .long (sg_whole q o)), (2, .long (sg_before q o)), (0, .ref h0), (1, .ref h1)]) hx hb d_S_crossingKey_33 hl (by decide) rfl (fun ls hl => ?_)
  refine lv_aload_n hx hb d_S_crossingKey_35 rfl (lv_at hl 2 rfl) ?_
  refine va_get (D := D) (ci := 1) (v := .long (sx q)) (C := K_S) (T := F_S) (N := 10) hx hb hG in_S hown hK.1 hP 0 rfl rfl 0 (by decide) (hG _ wd_270) (fun _ h9 => h9) rfl d_S_crossingKey_36 ?_
  refine lv_aload_n hx hb d_S_crossingKey_39 rfl (lv_at hl 2 rfl) ?_
  refine va_get (D := D) (ci := 1) (v := .long (swx q)) (C := K_S) (T := F_S) (N := 10) hx hb hG in_S hown hK.1 hP 0 rfl rfl 4 (by decide) (hG _ wd_274) (fun _ h9 => h9) rfl d_S_crossingKey_40 ?_
  refine lv_lload_n hx hb d_S_crossingKey_43 rfl (lv_at hl 1 rfl) ?_
  refine lv_lload hx hb d_S_crossingKey_44 (lv_at hl 0 rfl) ?_
  have hPc := hP.sub (ws' := []) [] rfl
  refine vp_callSl (W.runS (As := [.long (swx q), .long (sg_before q o), .long (sg_whole q o)]) (rest := [.long (sx q)]) ⟨hx, hb, hml, hown, hts⟩ (k_S_roundedPart l D E (swx q) (sg_before q o) (sg_whole q o)) (va_cwS 3 hts (gw_gs wd_458 wd_459 wd_48 wd_460) rfl rfl rfl (by decide +kernel) ⟨Nat.le_of_ble_eq_true rfl, Nat.le_of_ble_eq_true rfl⟩) (rP_S hPc hK) rfl rfl hl.1 rfl (lv_room (Nat.le_of_ble_eq_true rfl)) d_S_crossingKey_46 ⟨Nat.le_of_ble_eq_true rfl, Nat.le_of_ble_eq_true rfl⟩) (fun r3 hr3 => ?_)
  subst hr3
  refine lv_ladd hx hb d_S_crossingKey_49 ?_
  refine lv_aload_n hx hb d_S_crossingKey_50 rfl (lv_at hl 2 rfl) ?_
  refine va_get (D := D) (ci := 1) (v := .long (sy q)) (C := K_S) (T := F_S) (N := 10) hx hb hG in_S hown hK.1 hP 0 rfl rfl 1 (by decide) (hG _ wd_271) (fun _ h9 => h9) rfl d_S_crossingKey_51 ?_
  refine lv_aload_n hx hb d_S_crossingKey_54 rfl (lv_at hl 2 rfl) ?_
  refine va_get (D := D) (ci := 1) (v := .long (swy q)) (C := K_S) (T := F_S) (N := 10) hx hb hG in_S hown hK.1 hP 0 rfl rfl 5 (by decide) (hG _ wd_275) (fun _ h9 => h9) rfl d_S_crossingKey_55 ?_
  refine lv_lload_n hx hb d_S_crossingKey_58 rfl (lv_at hl 1 rfl) ?_
  refine lv_lload hx hb d_S_crossingKey_59 (lv_at hl 0 rfl) ?_
  have hPc := hP.sub (ws' := []) [] rfl
  refine vp_callSl (W.runS (As := [.long (swy q), .long (sg_before q o), .long (sg_whole q o)]) (rest := [.long (sy q), .long ((sx q) + (sg_rp (swx q) (sg_before q o) (sg_whole q o)))]) ⟨hx, hb, hml, hown, hts⟩ (k_S_roundedPart l D E (swy q) (sg_before q o) (sg_whole q o)) (va_cwS 3 hts (gw_gs wd_458 wd_459 wd_48 wd_460) rfl rfl rfl (by decide +kernel) ⟨Nat.le_of_ble_eq_true rfl, Nat.le_of_ble_eq_true rfl⟩) (rP_S hPc hK) rfl rfl hl.1 rfl (lv_room (Nat.le_of_ble_eq_true rfl)) d_S_crossingKey_61 ⟨Nat.le_of_ble_eq_true rfl, Nat.le_of_ble_eq_true rfl⟩) (fun r4 hr4 => ?_)
  subst hr4
  refine lv_ladd hx hb d_S_crossingKey_64 ?_
  refine vp_callSl (run_of (va_runSN (host := "PixelSnapper") (As := [.long ((sx q) + (sg_rp (swx q) (sg_before q o) (sg_whole q o))), .long ((sy q) + (sg_rp (swy q) (sg_before q o) (sg_whole q o)))]) (rest := []) ⟨hx, hb, hml, hown, hts⟩ (k_P_keyOf l D E (sx q + sg_rp (swx q) (sg_before q o) (sg_whole q o)) (sy q + sg_rp (swy q) (sg_before q o) (sg_whole q o))) ⟨va_cnB 2 hts (gw_gi wd_389) rfl rfl rfl (gf_nest hK.2) (hG _ wd_37) (by decide +kernel) ⟨Nat.le_of_ble_eq_true rfl, Nat.le_of_ble_eq_true rfl⟩, hG _ wd_388, trivial⟩ (rP_S (hP.sub (ws' := []) [] rfl) hK) rfl rfl hl.1 rfl (lv_room (Nat.le_of_ble_eq_true rfl)) d_S_crossingKey_65 ⟨Nat.le_of_ble_eq_true rfl, Nat.le_of_ble_eq_true rfl⟩)) (fun r5 hr5 => ?_)
  exact W.lret (v := r5) hx hb hrt (fun t ht hW => ⟨r5, rfl, hr5, ht⟩) (fun q h => nomatch h) d_S_crossingKey_68 hlocks
end
section
/-! numbers of 64 bits: the families wb_, g_, pf_ of the kit's own rows for pasting; then rows on toInt -/
theorem wb_tb (n : Nat) : (lN n).toBitVec = BitVec.ofNat 64 n := rfl
theorem wb_inj {a b : Int64} (h : a.toBitVec = b.toBitVec) : a = b := Int64.toBitVec_inj.mp h
theorem wb_tn {n : Nat} (h : n < 2 ^ 64) : (lN n).toBitVec.toNat = n := by rw [wb_tb, BitVec.toNat_ofNat, Nat.mod_eq_of_lt h]
theorem wb_of (x : Int64) : ∃ n, n < 2 ^ 64 ∧ x = lN n := ⟨x.toBitVec.toNat, x.toBitVec.isLt, wb_inj (by rw [wb_tb]; simp)⟩
theorem wb_of32 (x : Int32) : ∃ n, n < 2 ^ 32 ∧ x = nI n := ⟨x.toBitVec.toNat, x.toBitVec.isLt, Int32.toBitVec_inj.mp (by show _ = BitVec.ofNat 32 _; simp)⟩
theorem wb_c : ∀ k, k < 64 → ((nI k).toInt64 &&& 63) = lN k := by decide +kernel
theorem wb_cu : ∀ k, k < 64 → ((nI k).toInt64.toUInt64 &&& Int64.toUInt64 63) = UInt64.ofNat k := by decide +kernel
theorem wb_sm : ∀ k, k < 64 → (BitVec.ofNat 64 k).smod 64 = BitVec.ofNat 64 k := by decide +kernel
theorem wb_pw {a b : Nat} (h : a ≤ b) : 2 ^ b = 2 ^ a * 2 ^ (b - a) := by rw [← Nat.pow_add]; congr 1; omega
theorem wb_lt2 {a b : Nat} (h : a < b) : 2 ^ a < 2 ^ b := Nat.pow_lt_pow_right (by decide) h
theorem wb_mod (n : Nat) : lN n = lN (n % 2 ^ 64) := wb_inj (by rw [wb_tb, wb_tb]; apply BitVec.eq_of_toNat_eq; rw [BitVec.toNat_ofNat, BitVec.toNat_ofNat, Nat.mod_mod])
theorem wb_shr {n k : Nat} (hn : n < 2 ^ 64) (hk : k < 64) : ((lN n).toUInt64 >>> ((nI k).toInt64.toUInt64 &&& Int64.toUInt64 63)).toInt64 = lN (n / 2 ^ k) := by
  rw [wb_cu k hk]
  apply wb_inj
  apply BitVec.eq_of_toNat_eq
  show ((lN n).toUInt64 >>> UInt64.ofNat k).toNat = (BitVec.ofNat 64 _).toNat
  have h1 : (UInt64.ofNat k).toNat = k := by
    show (BitVec.ofNat 64 k).toNat = k
    rw [BitVec.toNat_ofNat, Nat.mod_eq_of_lt (by omega)]
  have h2 : (lN n).toUInt64.toNat = n := wb_tn hn
  rw [UInt64.toNat_shiftRight, h1, h2, Nat.mod_eq_of_lt hk, Nat.shiftRight_eq_div_pow, BitVec.toNat_ofNat, Nat.mod_eq_of_lt (Nat.lt_of_le_of_lt (Nat.div_le_self _ _) hn)]
theorem wb_shl (n : Nat) {k : Nat} (hk : k < 64) : lN n <<< ((nI k).toInt64 &&& 63) = lN (n * 2 ^ k) := by
  rw [wb_c k hk]
  apply wb_inj
  rw [Int64.toBitVec_shiftLeft, wb_tb, wb_tb, wb_tb, wb_sm k hk]
  apply BitVec.eq_of_toNat_eq
  rw [BitVec.shiftLeft_eq', BitVec.toNat_shiftLeft, BitVec.toNat_ofNat, BitVec.toNat_ofNat, BitVec.toNat_ofNat, Nat.mod_eq_of_lt (show k < 2 ^ 64 by omega), Nat.shiftLeft_eq, Nat.mul_mod, Nat.mod_mod, ← Nat.mul_mod]
theorem wb_and {a b : Nat} (ha : a < 2 ^ 64) (hb : b < 2 ^ 64) : lN a &&& lN b = lN (a &&& b) := by
  apply wb_inj
  rw [Int64.toBitVec_and, wb_tb, wb_tb, wb_tb]
  apply BitVec.eq_of_toNat_eq
  rw [BitVec.toNat_and, BitVec.toNat_ofNat, BitVec.toNat_ofNat, BitVec.toNat_ofNat, Nat.mod_eq_of_lt ha, Nat.mod_eq_of_lt hb, Nat.mod_eq_of_lt (Nat.and_lt_two_pow _ hb)]
theorem wb_or {a b : Nat} (ha : a < 2 ^ 64) (hb : b < 2 ^ 64) : lN a ||| lN b = lN (a ||| b) := by
  apply wb_inj
  rw [Int64.toBitVec_or, wb_tb, wb_tb, wb_tb]
  apply BitVec.eq_of_toNat_eq
  rw [BitVec.toNat_or, BitVec.toNat_ofNat, BitVec.toNat_ofNat, BitVec.toNat_ofNat, Nat.mod_eq_of_lt ha, Nat.mod_eq_of_lt hb, Nat.mod_eq_of_lt (Nat.or_lt_two_pow ha hb)]
theorem wb_mask {n k : Nat} (hn : n < 2 ^ 64) (hk : k < 64) : lN n &&& lN (2 ^ k - 1) = lN (n % 2 ^ k) := by
  rw [wb_and hn (by have := wb_lt2 hk; omega), Nat.and_two_pow_sub_one_eq_mod]
theorem wb_a1 {n : Nat} (hn : n < 2 ^ 64) : lN n &&& 1 = lN (n % 2) := wb_mask (k := 1) hn (by decide)
theorem wb_bit {n k : Nat} (hn : n < 2 ^ 64) (hk : k < 64) : ((lN n).toUInt64 >>> ((nI k).toInt64.toUInt64 &&& Int64.toUInt64 63)).toInt64 &&& 1 = lN (n / 2 ^ k % 2) := by
  rw [wb_shr hn hk, wb_a1 (Nat.lt_of_le_of_lt (Nat.div_le_self _ _) hn)]
theorem wb_xor {q k : Nat} (hk : k < 63) (h : 2 ^ k ≤ q) (h2 : q < 2 ^ (k + 1)) : lN q ^^^ lN (2 ^ k) = lN (q - 2 ^ k) := by
  obtain ⟨r, rfl⟩ : ∃ r, q = 2 ^ k + r := ⟨q - 2 ^ k, by omega⟩
  have hr : r < 2 ^ k := by rw [Nat.pow_succ] at h2; omega
  have hx : (2 ^ k + r) ^^^ 2 ^ k = r := by
    apply Nat.eq_of_testBit_eq
    intro i
    rw [Nat.testBit_xor, Nat.testBit_two_pow]
    rcases Nat.lt_trichotomy i k with h | h | h
    · rw [Nat.testBit_two_pow_add_gt h]
      simp [show ¬ k = i by omega]
    · subst h
      rw [Nat.testBit_two_pow_add_eq]
      simp
    · have a1 : 2 ^ (k + 1) ≤ 2 ^ i := Nat.pow_le_pow_right (by decide) h
      rw [Nat.testBit_lt_two_pow (show 2 ^ k + r < 2 ^ i by omega), Nat.testBit_lt_two_pow (show r < 2 ^ i by omega)]
      simp [show ¬ k = i by omega]
  have b1 := wb_lt2 (show k + 1 < 64 by omega)
  have b2 := wb_lt2 (show k < 64 by omega)
  apply wb_inj
  rw [Int64.toBitVec_xor, wb_tb, wb_tb, wb_tb]
  apply BitVec.eq_of_toNat_eq
  rw [BitVec.toNat_xor, BitVec.toNat_ofNat, BitVec.toNat_ofNat, BitVec.toNat_ofNat, Nat.mod_eq_of_lt (by omega : 2 ^ k + r < 2 ^ 64), Nat.mod_eq_of_lt b2, hx, Nat.add_sub_cancel_left, Nat.mod_eq_of_lt (by omega)]
/-! ===== lN: masks, 'or' of parts that don't overlap is a sum ===== -/
theorem u_tn {n : Nat} (h : n < 2 ^ 64) : (UInt64.ofNat n).toNat = n := Nat.mod_eq_of_lt h
theorem g_and {a b c : Nat} (ha : a < 2 ^ 64) (hb : b < 2 ^ 64) (hc : a &&& b = c) : lN a &&& lN b = lN c := by
  subst hc
  have h : UInt64.ofNat a &&& UInt64.ofNat b = UInt64.ofNat (a &&& b) := UInt64.toNat_inj.mp (by rw [UInt64.toNat_and, u_tn ha, u_tn hb, u_tn (Nat.and_lt_two_pow a hb)])
  have h2 := congrArg UInt64.toInt64 h
  exact h2
theorem g_and1 {a : Nat} (ha : a < 2 ^ 64) : lN a &&& 1 = lN (a % 2) := g_and (b := 1) ha (by decide) (Nat.and_two_pow_sub_one_eq_mod a 1)
theorem g_mask {a s p : Nat} (hp : 2 ^ s = p) (hs : s < 64) (ha : a < 2 ^ 64) : lN a &&& lN (p - 1) = lN (a % p) := by
  subst hp
  have := Nat.pow_lt_pow_right (show 1 < 2 by decide) hs
  exact g_and ha (by omega) (Nat.and_two_pow_sub_one_eq_mod a s)
theorem g_or {k p a b : Nat} (hp : 2 ^ k = p) (ha : a < p) (h : b * p + a < 2 ^ 64) : lN (b * p) ||| lN a = lN (b * p + a) := by
  subst hp
  have h1 : b * 2 ^ k ||| a = b * 2 ^ k + a := by rw [← Nat.shiftLeft_eq, Nat.shiftLeft_add_eq_or_of_lt ha]
  have h3 : UInt64.ofNat (b * 2 ^ k) ||| UInt64.ofNat a = UInt64.ofNat (b * 2 ^ k + a) := UInt64.toNat_inj.mp (by rw [UInt64.toNat_or, u_tn (by omega), u_tn (by omega), u_tn h, h1])
  have h2 := congrArg UInt64.toInt64 h3
  exact h2
theorem g_or' {k p a b : Nat} (hp : 2 ^ k = p) (ha : a < p) (h : a + b * p < 2 ^ 64) : lN a ||| lN (b * p) = lN (a + b * p) := by
  rw [Int64.or_comm, g_or hp ha (by omega), Nat.add_comm]
theorem g_ushr {a k p : Nat} {y : UInt64} (hy : y = UInt64.ofNat k) (hk : k < 64) (hp : 2 ^ k = p) (ha : a < 2 ^ 64) : ((lN a).toUInt64 >>> y).toInt64 = lN (a / p) := by
  subst hy hp
  have h : UInt64.ofNat a >>> UInt64.ofNat k = UInt64.ofNat (a / 2 ^ k) := UInt64.toNat_inj.mp (by rw [UInt64.toNat_shiftRight, u_tn ha, u_tn (by omega), u_tn (Nat.lt_of_le_of_lt (Nat.div_le_self _ _) ha), Nat.mod_eq_of_lt hk, Nat.shiftRight_eq_div_pow])
  have h2 := congrArg UInt64.toInt64 h
  exact h2
theorem g_shl {a k p : Nat} {y : Int64} (hy : y.toBitVec.smod 64 = BitVec.ofNat 64 k) (hk : k < 64) (hp : 2 ^ k = p) (ha : a < 2 ^ 64) : lN a <<< y = lN (a * p) := by
  subst hp
  apply Int64.toBitVec_inj.mp
  rw [Int64.toBitVec_shiftLeft, hy]
  apply BitVec.eq_of_toNat_eq
  have hb : (lN a).toBitVec.toNat = a := Nat.mod_eq_of_lt ha
  have hk' : (BitVec.ofNat 64 k).toNat = k := Nat.mod_eq_of_lt (by omega)
  have h : ((lN a).toBitVec <<< BitVec.ofNat 64 k).toNat = (a * 2 ^ k) % 2 ^ 64 := by simp only [BitVec.shiftLeft_eq', BitVec.toNat_shiftLeft, hb, hk', Nat.shiftLeft_eq]
  exact h
/-! ===== lN to 2^62 under >> and >>> ===== -/
theorem pf_lI {a : Nat} (h : a < 2 ^ 63) : (lN a).toInt = (a : Int) := lg_ofNat_toInt h
theorem pf_shr {a d : Nat} {D : Int64} (hD : (D.toBitVec.smod 64).toNat = d) (h : a < 2 ^ 62) : lN a >>> D = lN (a / 2 ^ d) := by
  have hd : a / 2 ^ d ≤ a := Nat.div_le_self _ _
  apply Int64.toInt_inj.mp
  have e : (lN a >>> D).toInt = (lN a).toInt >>> d := by
    rw [← hD]
    exact BitVec.toInt_sshiftRight ..
  rw [e, Int.shiftRight_eq_div_pow, pf_lI (by omega), pf_lI (by omega)]
  rfl
theorem i64_b {x : Int} (h1 : -9223372036854775808 ≤ x) (h2 : x < 9223372036854775808) : x.bmod (2 ^ 64) = x := Int.bmod_eq_of_le h1 h2
theorem i64_add {a b : Int64} (h1 : -9223372036854775808 ≤ a.toInt + b.toInt) (h2 : a.toInt + b.toInt < 9223372036854775808) : (a + b).toInt = a.toInt + b.toInt := by
  rw [Int64.toInt_add, i64_b h1 h2]
theorem i64_sub {a b : Int64} (h1 : -9223372036854775808 ≤ a.toInt - b.toInt) (h2 : a.toInt - b.toInt < 9223372036854775808) : (a - b).toInt = a.toInt - b.toInt := by
  rw [Int64.toInt_sub, i64_b h1 h2]
theorem i64_mul {a b : Int64} (h1 : -9223372036854775808 ≤ a.toInt * b.toInt) (h2 : a.toInt * b.toInt < 9223372036854775808) : (a * b).toInt = a.toInt * b.toInt := by
  rw [Int64.toInt_mul, i64_b h1 h2]
theorem i64_neg {a : Int64} (h1 : -9223372036854775808 < a.toInt) : (-a).toInt = -a.toInt := by
  have := a.toInt_lt
  rw [Int64.toInt_neg, i64_b (by omega) (by omega)]
theorem i64_lN {a : Int64} (h : 0 ≤ a.toInt) : a = lN a.toInt.toNat := by
  apply Int64.toInt.inj
  have := a.toInt_lt
  rw [pf_lI (by omega)]
  omega
theorem i64_abs {b : Int64} (h : -4611686018427387904 < b.toInt) : (if b < 0 then -b else b) = lN b.toInt.natAbs := by
  have h0 : (0 : Int64).toInt = 0 := by decide
  have hl := b.toInt_lt
  by_cases c : b < 0
  · rw [if_pos c]
    rw [Int64.lt_iff_toInt_lt, h0] at c
    apply Int64.toInt.inj
    rw [i64_neg (by omega), pf_lI (by omega)]
    omega
  · rw [if_neg c]
    rw [Int64.lt_iff_toInt_lt, h0] at c
    apply Int64.toInt.inj
    rw [pf_lI (by omega)]
    omega
/-- a part of a way: by * o / u, a half up -/
def rd (b : Int) (o u : Nat) : Int :=
  if b < 0 then (if u < 2 * (b.natAbs * o % u) then -((b.natAbs * o / u : Nat) : Int) - 1 else -((b.natAbs * o / u : Nat) : Int))
  else (if 2 * (b.natAbs * o % u) < u then ((b.natAbs * o / u : Nat) : Int) else ((b.natAbs * o / u : Nat) : Int) + 1)
theorem dm_un {t u q r : Nat} (h : q * u + r = t) (hr : r < u) : q = t / u ∧ r = t % u := by
  subst h
  constructor
  · rw [Nat.mul_comm, Nat.mul_add_div (by omega), Nat.div_eq_of_lt hr]; rfl
  · rw [Nat.mul_comm, Nat.mul_add_mod, Nat.mod_eq_of_lt hr]
theorem dm_bit (s k : Nat) : s / 2 ^ k = 2 * (s / 2 ^ (k + 1)) + s / 2 ^ k % 2 := by
  rw [Nat.pow_succ, ← Nat.div_div_eq_div_mul]
  omega
theorem bit_lN {s k : Nat} (hs : s < 2 ^ 62) (hk : k < 64) : (lN s >>> (Int32.toInt64 (nI k) &&& 63)) &&& 1 = lN (s / 2 ^ k % 2) := by
  rw [wb_c k hk, pf_shr (d := k) (by rw [wb_tb, wb_sm k hk, BitVec.toNat_ofNat, Nat.mod_eq_of_lt (by omega)]) hs]
  exact wb_a1 (Nat.lt_of_le_of_lt (Nat.div_le_self _ _) (by omega))
end
section
theorem d_M_compare_0 : decode c_M_compare 0 = .ok (.lload_n 0, 1) := by decide +kernel
theorem d_M_compare_1 : decode c_M_compare 1 = .ok (.lload 6, 2) := by decide +kernel
theorem d_M_compare_3 : decode c_M_compare 3 = .ok (.lmul, 1) := by decide +kernel
theorem d_M_compare_4 : decode c_M_compare 4 = .ok (.lstore 8, 2) := by decide +kernel
theorem d_M_compare_6 : decode c_M_compare 6 = .ok (.lload 4, 2) := by decide +kernel
theorem d_M_compare_8 : decode c_M_compare 8 = .ok (.lload_n 2, 1) := by decide +kernel
theorem d_M_compare_9 : decode c_M_compare 9 = .ok (.lmul, 1) := by decide +kernel
theorem d_M_compare_10 : decode c_M_compare 10 = .ok (.lstore 10, 2) := by decide +kernel
theorem d_M_compare_12 : decode c_M_compare 12 = .ok (.lload 8, 2) := by decide +kernel
theorem d_M_compare_14 : decode c_M_compare 14 = .ok (.lload 10, 2) := by decide +kernel
theorem d_M_compare_16 : decode c_M_compare 16 = .ok (.lcmp, 1) := by decide +kernel
theorem d_M_compare_17 : decode c_M_compare 17 = .ok (.ifCond .ge 7, 3) := by decide +kernel
theorem d_M_compare_20 : decode c_M_compare 20 = .ok (.iconst (-1), 1) := by decide +kernel
theorem d_M_compare_21 : decode c_M_compare 21 = .ok (.goto 16, 3) := by decide +kernel
theorem d_M_compare_24 : decode c_M_compare 24 = .ok (.lload 8, 2) := by decide +kernel
theorem d_M_compare_26 : decode c_M_compare 26 = .ok (.lload 10, 2) := by decide +kernel
theorem d_M_compare_28 : decode c_M_compare 28 = .ok (.lcmp, 1) := by decide +kernel
theorem d_M_compare_29 : decode c_M_compare 29 = .ok (.ifCond .le 7, 3) := by decide +kernel
theorem d_M_compare_32 : decode c_M_compare 32 = .ok (.iconst 1, 1) := by decide +kernel
theorem d_M_compare_33 : decode c_M_compare 33 = .ok (.goto 4, 3) := by decide +kernel
theorem d_M_compare_36 : decode c_M_compare 36 = .ok (.iconst 0, 1) := by decide +kernel
theorem d_M_compare_37 : decode c_M_compare 37 = .ok (.ireturn, 1) := by decide +kernel
theorem d_M_fail_0 : decode c_M_fail 0 = .ok (.aload_n 0, 1) := by decide +kernel
theorem d_M_fail_1 : decode c_M_fail 1 = .ok (.iload_n 1, 1) := by decide +kernel
theorem d_M_fail_2 : decode c_M_fail 2 = .ok (.putfield 46, 3) := by decide +kernel
theorem d_M_fail_5 : decode c_M_fail 5 = .ok (.iconst 0, 1) := by decide +kernel
theorem d_M_fail_6 : decode c_M_fail 6 = .ok (.ireturn, 1) := by decide +kernel
theorem d_M_isFar_0 : decode c_M_isFar 0 = .ok (.iload_n 0, 1) := by decide +kernel
theorem d_M_isFar_1 : decode c_M_isFar 1 = .ok (.ldc 50, 2) := by decide +kernel
theorem d_M_isFar_3 : decode c_M_isFar 3 = .ok (.ldc 51, 2) := by decide +kernel
theorem d_M_isFar_5 : decode c_M_isFar 5 = .ok (.invokestatic 52, 3) := by decide +kernel
theorem d_M_isFar_8 : decode c_M_isFar 8 = .ok (.ifCond .ne 7, 3) := by decide +kernel
theorem d_M_isFar_11 : decode c_M_isFar 11 = .ok (.iconst 1, 1) := by decide +kernel
theorem d_M_isFar_12 : decode c_M_isFar 12 = .ok (.goto 4, 3) := by decide +kernel
theorem d_M_isFar_15 : decode c_M_isFar 15 = .ok (.iconst 0, 1) := by decide +kernel
theorem d_M_isFar_16 : decode c_M_isFar 16 = .ok (.ireturn, 1) := by decide +kernel
theorem d_M_isSegment_0 : decode c_M_isSegment 0 = .ok (.iload_n 1, 1) := by decide +kernel
theorem d_M_isSegment_1 : decode c_M_isSegment 1 = .ok (.iconst 0, 1) := by decide +kernel
theorem d_M_isSegment_2 : decode c_M_isSegment 2 = .ok (.aload_n 0, 1) := by decide +kernel
theorem d_M_isSegment_3 : decode c_M_isSegment 3 = .ok (.getfield 56, 3) := by decide +kernel
theorem d_M_isSegment_6 : decode c_M_isSegment 6 = .ok (.iconst 1, 1) := by decide +kernel
theorem d_M_isSegment_7 : decode c_M_isSegment 7 = .ok (.isub, 1) := by decide +kernel
theorem d_M_isSegment_8 : decode c_M_isSegment 8 = .ok (.invokestatic 52, 3) := by decide +kernel
theorem d_M_isSegment_11 : decode c_M_isSegment 11 = .ok (.ireturn, 1) := by decide +kernel
theorem d_M_raise_0 : decode c_M_raise 0 = .ok (.lload_n 1, 1) := by decide +kernel
theorem d_M_raise_1 : decode c_M_raise 1 = .ok (.lload_n 3, 1) := by decide +kernel
theorem d_M_raise_2 : decode c_M_raise 2 = .ok (.aload_n 0, 1) := by decide +kernel
theorem d_M_raise_3 : decode c_M_raise 3 = .ok (.getfield 80, 3) := by decide +kernel
theorem d_M_raise_6 : decode c_M_raise 6 = .ok (.aload_n 0, 1) := by decide +kernel
theorem d_M_raise_7 : decode c_M_raise 7 = .ok (.getfield 84, 3) := by decide +kernel
theorem d_M_raise_10 : decode c_M_raise 10 = .ok (.invokestatic 87, 3) := by decide +kernel
theorem d_M_raise_13 : decode c_M_raise 13 = .ok (.istore 6, 2) := by decide +kernel
theorem d_M_raise_15 : decode c_M_raise 15 = .ok (.iload 6, 2) := by decide +kernel
theorem d_M_raise_17 : decode c_M_raise 17 = .ok (.ifCond .gt 15, 3) := by decide +kernel
theorem d_M_raise_20 : decode c_M_raise 20 = .ok (.iload 6, 2) := by decide +kernel
theorem d_M_raise_22 : decode c_M_raise 22 = .ok (.ifCond .ne 46, 3) := by decide +kernel
theorem d_M_raise_25 : decode c_M_raise 25 = .ok (.aload_n 0, 1) := by decide +kernel
theorem d_M_raise_26 : decode c_M_raise 26 = .ok (.getfield 91, 3) := by decide +kernel
theorem d_M_raise_29 : decode c_M_raise 29 = .ok (.ifCond .eq 39, 3) := by decide +kernel
theorem d_M_raise_32 : decode c_M_raise 32 = .ok (.aload_n 0, 1) := by decide +kernel
theorem d_M_raise_33 : decode c_M_raise 33 = .ok (.iload 5, 2) := by decide +kernel
theorem d_M_raise_35 : decode c_M_raise 35 = .ok (.ifCond .eq 19, 3) := by decide +kernel
theorem d_M_raise_38 : decode c_M_raise 38 = .ok (.iload 6, 2) := by decide +kernel
theorem d_M_raise_40 : decode c_M_raise 40 = .ok (.ifCond .gt 10, 3) := by decide +kernel
theorem d_M_raise_43 : decode c_M_raise 43 = .ok (.aload_n 0, 1) := by decide +kernel
theorem d_M_raise_44 : decode c_M_raise 44 = .ok (.getfield 91, 3) := by decide +kernel
theorem d_M_raise_47 : decode c_M_raise 47 = .ok (.ifCond .eq 7, 3) := by decide +kernel
theorem d_M_raise_50 : decode c_M_raise 50 = .ok (.iconst 1, 1) := by decide +kernel
theorem d_M_raise_51 : decode c_M_raise 51 = .ok (.goto 4, 3) := by decide +kernel
theorem d_M_raise_54 : decode c_M_raise 54 = .ok (.iconst 0, 1) := by decide +kernel
theorem d_M_raise_55 : decode c_M_raise 55 = .ok (.putfield 91, 3) := by decide +kernel
theorem d_M_raise_58 : decode c_M_raise 58 = .ok (.aload_n 0, 1) := by decide +kernel
theorem d_M_raise_59 : decode c_M_raise 59 = .ok (.lload_n 1, 1) := by decide +kernel
theorem d_M_raise_60 : decode c_M_raise 60 = .ok (.putfield 80, 3) := by decide +kernel
theorem d_M_raise_63 : decode c_M_raise 63 = .ok (.aload_n 0, 1) := by decide +kernel
theorem d_M_raise_64 : decode c_M_raise 64 = .ok (.lload_n 3, 1) := by decide +kernel
theorem d_M_raise_65 : decode c_M_raise 65 = .ok (.putfield 84, 3) := by decide +kernel
theorem d_M_raise_68 : decode c_M_raise 68 = .ok (.return_, 1) := by decide +kernel
theorem d_M_reduce_0 : decode c_M_reduce 0 = .ok (.lload_n 1, 1) := by decide +kernel
theorem d_M_reduce_1 : decode c_M_reduce 1 = .ok (.lload_n 3, 1) := by decide +kernel
theorem d_M_reduce_2 : decode c_M_reduce 2 = .ok (.aload_n 0, 1) := by decide +kernel
theorem d_M_reduce_3 : decode c_M_reduce 3 = .ok (.getfield 94, 3) := by decide +kernel
theorem d_M_reduce_6 : decode c_M_reduce 6 = .ok (.aload_n 0, 1) := by decide +kernel
theorem d_M_reduce_7 : decode c_M_reduce 7 = .ok (.getfield 97, 3) := by decide +kernel
theorem d_M_reduce_10 : decode c_M_reduce 10 = .ok (.invokestatic 87, 3) := by decide +kernel
theorem d_M_reduce_13 : decode c_M_reduce 13 = .ok (.istore 6, 2) := by decide +kernel
theorem d_M_reduce_15 : decode c_M_reduce 15 = .ok (.iload 6, 2) := by decide +kernel
theorem d_M_reduce_17 : decode c_M_reduce 17 = .ok (.ifCond .lt 15, 3) := by decide +kernel
theorem d_M_reduce_20 : decode c_M_reduce 20 = .ok (.iload 6, 2) := by decide +kernel
theorem d_M_reduce_22 : decode c_M_reduce 22 = .ok (.ifCond .ne 46, 3) := by decide +kernel
theorem d_M_reduce_25 : decode c_M_reduce 25 = .ok (.aload_n 0, 1) := by decide +kernel
theorem d_M_reduce_26 : decode c_M_reduce 26 = .ok (.getfield 100, 3) := by decide +kernel
theorem d_M_reduce_29 : decode c_M_reduce 29 = .ok (.ifCond .eq 39, 3) := by decide +kernel
theorem d_M_reduce_32 : decode c_M_reduce 32 = .ok (.aload_n 0, 1) := by decide +kernel
theorem d_M_reduce_33 : decode c_M_reduce 33 = .ok (.iload 5, 2) := by decide +kernel
theorem d_M_reduce_35 : decode c_M_reduce 35 = .ok (.ifCond .eq 19, 3) := by decide +kernel
theorem d_M_reduce_38 : decode c_M_reduce 38 = .ok (.iload 6, 2) := by decide +kernel
theorem d_M_reduce_40 : decode c_M_reduce 40 = .ok (.ifCond .lt 10, 3) := by decide +kernel
theorem d_M_reduce_43 : decode c_M_reduce 43 = .ok (.aload_n 0, 1) := by decide +kernel
theorem d_M_reduce_44 : decode c_M_reduce 44 = .ok (.getfield 100, 3) := by decide +kernel
theorem d_M_reduce_47 : decode c_M_reduce 47 = .ok (.ifCond .eq 7, 3) := by decide +kernel
theorem d_M_reduce_50 : decode c_M_reduce 50 = .ok (.iconst 1, 1) := by decide +kernel
theorem d_M_reduce_51 : decode c_M_reduce 51 = .ok (.goto 4, 3) := by decide +kernel
theorem d_M_reduce_54 : decode c_M_reduce 54 = .ok (.iconst 0, 1) := by decide +kernel
theorem d_M_reduce_55 : decode c_M_reduce 55 = .ok (.putfield 100, 3) := by decide +kernel
theorem d_M_reduce_58 : decode c_M_reduce 58 = .ok (.aload_n 0, 1) := by decide +kernel
theorem d_M_reduce_59 : decode c_M_reduce 59 = .ok (.lload_n 1, 1) := by decide +kernel
theorem d_M_reduce_60 : decode c_M_reduce 60 = .ok (.putfield 94, 3) := by decide +kernel
theorem d_M_reduce_63 : decode c_M_reduce 63 = .ok (.aload_n 0, 1) := by decide +kernel
theorem d_M_reduce_64 : decode c_M_reduce 64 = .ok (.lload_n 3, 1) := by decide +kernel
theorem d_M_reduce_65 : decode c_M_reduce 65 = .ok (.putfield 97, 3) := by decide +kernel
theorem d_M_reduce_68 : decode c_M_reduce 68 = .ok (.return_, 1) := by decide +kernel
theorem d_M_thrown_0 : decode c_M_thrown 0 = .ok (.aload_n 0, 1) := by decide +kernel
theorem d_M_thrown_1 : decode c_M_thrown 1 = .ok (.getfield 46, 3) := by decide +kernel
theorem d_M_thrown_4 : decode c_M_thrown 4 = .ok (.ireturn, 1) := by decide +kernel
theorem d_M_within_0 : decode c_M_within 0 = .ok (.iload_n 0, 1) := by decide +kernel
theorem d_M_within_1 : decode c_M_within 1 = .ok (.iload_n 1, 1) := by decide +kernel
theorem d_M_within_2 : decode c_M_within 2 = .ok (.if_icmp .lt 12, 3) := by decide +kernel
theorem d_M_within_5 : decode c_M_within 5 = .ok (.iload_n 0, 1) := by decide +kernel
theorem d_M_within_6 : decode c_M_within 6 = .ok (.iload_n 2, 1) := by decide +kernel
theorem d_M_within_7 : decode c_M_within 7 = .ok (.if_icmp .gt 7, 3) := by decide +kernel
theorem d_M_within_10 : decode c_M_within 10 = .ok (.iconst 1, 1) := by decide +kernel
theorem d_M_within_11 : decode c_M_within 11 = .ok (.goto 4, 3) := by decide +kernel
theorem d_M_within_14 : decode c_M_within 14 = .ok (.iconst 0, 1) := by decide +kernel
theorem d_M_within_15 : decode c_M_within 15 = .ok (.ireturn, 1) := by decide +kernel
/-- the reference's fields: the addresses of its arrays, its numbers -/
def mF (ad : Nat → Nat) (th sg sn hot pc cx cy : Int32) (fo fv to tv : Int64) (fi ti : Int32) : List Value := [.int th, .int sg, .ref (ad 0), .int sn, .int hot, .ref (ad 1), .ref (ad 2), .ref (ad 3), .ref (ad 4), .int pc, .ref (ad 5), .ref (ad 6), .ref (ad 7), .int cx, .int cy, .long fo, .long fv, .long to, .long tv, .int fi, .int ti, .ref (ad 8), .ref (ad 9), .ref (ad 10)]
def mw_in (v a b : Int32) : Prop := ¬ v < a ∧ ¬ b < v
def mw_far (v : Int32) : Prop := ¬ mw_in v (-500000000) 500000000
def mr_cmp (a b c d : Int64) : Int32 := if a * d < c * b then -1 else if c * b < a * d then 1 else 0
theorem z_n {b : Int32} (h : b = 0 ∨ b = 1) : narrow .boolean (.int b) = .int b := by rcases h with rfl | rfl <;> rfl
theorem z_f {b : Int32} (h : b = 0 ∨ b = 1) : fits .boolean (.int b) = true := by rcases h with rfl | rfl <;> rfl
theorem b01_z (p : Prop) : b01 p = 0 ∨ b01 p = 1 := by
  by_cases h : p
  · exact Or.inr (b01_t h)
  · exact Or.inl (b01_f h)
noncomputable section
set_option maxHeartbeats 4000000 in
set_option maxRecDepth 100000 in
theorem k_M_within (l : Launch) (D : va_G) (E : ClassId × ClassId × ClassId × ClassId) (v a b : Int32) : Met l y_M_within (.code y_M_within c_M_within 3 (some .boolean) :: gw) ({ frames := 0, cells := 0, slots := 0, locals := 0 } : Room) (rP D E [] [.int v, .int a, .int b]) (vp_Si (fun r => r = b01 (mw_in v a b))) 0 0 (fun _ => False) := by
  refine rd_ofW (by decide) (Nat.le_of_ble_eq_true rfl) ?_
  intro p e s m below meth c B hP hK ls hl
  obtain ⟨hx, hb, hrt, hml, hown, hts, hG, hlocks, hin⟩ := B
  have hl : lv_has ls 3 [(0, .int v), (1, .int a), (2, .int b)] := hl
  refine lv_iload_n hx hb d_M_within_0 rfl (lv_at hl 0 rfl) ?_
  refine lv_iload_n hx hb d_M_within_1 rfl (lv_at hl 1 rfl) ?_
  refine lv_icmp_lt (tgt := 14) hx hb d_M_within_2 (by decide) (fun c1 => ?_) (fun c1 => ?_)
  · refine lv_iconst (v := 0) hx hb d_M_within_14 (by decide) ?_
    exact W.zret (v := 0) (ty := .boolean) hx hb hrt rfl (fun t ht hW => ⟨0, rfl, by rw [b01_f]; intro h; exact h.1 c1, ht⟩) (fun q h => nomatch h) d_M_within_15 hlocks
  · refine lv_iload_n hx hb d_M_within_5 rfl (lv_at hl 0 rfl) ?_
    refine lv_iload_n hx hb d_M_within_6 rfl (lv_at hl 2 rfl) ?_
    refine lv_icmp_gt (tgt := 14) hx hb d_M_within_7 (by decide) (fun c2 => ?_) (fun c2 => ?_)
    · refine lv_iconst (v := 0) hx hb d_M_within_14 (by decide) ?_
      exact W.zret (v := 0) (ty := .boolean) hx hb hrt rfl (fun t ht hW => ⟨0, rfl, by rw [b01_f]; intro h; exact h.2 c2, ht⟩) (fun q h => nomatch h) d_M_within_15 hlocks
    · refine lv_iconst (v := 1) hx hb d_M_within_10 (by decide) ?_
      refine lv_goto (tgt := 15) hx hb d_M_within_11 (by decide) ?_
      exact W.zret (v := 1) (ty := .boolean) hx hb hrt rfl (fun t ht hW => ⟨1, rfl, by rw [b01_t ⟨c1, c2⟩], ht⟩) (fun q h => nomatch h) d_M_within_15 hlocks
set_option maxHeartbeats 4000000 in
set_option maxRecDepth 100000 in
theorem k_M_isFar (l : Launch) (D : va_G) (E : ClassId × ClassId × ClassId × ClassId) (v : Int32) : Met l y_M_isFar (.code y_M_isFar c_M_isFar 1 (some .boolean) :: gw) ({ frames := 1, cells := 0, slots := 0, locals := 22 } : Room) (rP D E [] [.int v]) (vp_Si (fun r => r = b01 (mw_far v))) 0 0 (fun _ => False) := by
  refine rd_ofW (by decide) (Nat.le_of_ble_eq_true rfl) ?_
  intro p e s m below meth c B hP hK ls hl
  obtain ⟨hx, hb, hrt, hml, hown, hts, hG, hlocks, hin⟩ := B
  have hl : lv_has ls 1 [(0, .int v)] := hl
  refine lv_iload_n hx hb d_M_isFar_0 rfl (lv_at hl 0 rfl) ?_
  refine lv_ldc hx hb hown (hG _ wd_734) d_M_isFar_1 ?_
  refine lv_ldc hx hb hown (hG _ wd_735) d_M_isFar_3 ?_
  have hPc := hP.sub (ws' := []) [] rfl
  refine vp_callSi (W.runS (As := [.int v, .int (-500000000), .int 500000000]) (rest := []) ⟨hx, hb, hml, hown, hts⟩ (k_M_within l D E v (-500000000) 500000000) (va_cwS 3 hts (gw_gs wd_736 wd_737 wd_42 wd_738) rfl rfl rfl (by decide +kernel) ⟨Nat.le_of_ble_eq_true rfl, Nat.le_of_ble_eq_true rfl⟩) (rP_S hPc hK) rfl rfl hl.1 rfl (lv_room (Nat.le_of_ble_eq_true rfl)) d_M_isFar_5 ⟨Nat.le_of_ble_eq_true rfl, Nat.le_of_ble_eq_true rfl⟩) (fun r1 hr1 => ?_)
  refine lv_if_ne (tgt := 15) hx hb d_M_isFar_8 (by decide) (fun c1 => ?_) (fun c1 => ?_)
  · rw [hr1] at c1
    refine lv_iconst (v := 0) hx hb d_M_isFar_15 (by decide) ?_
    exact W.zret (v := 0) (ty := .boolean) hx hb hrt rfl (fun t ht hW => ⟨0, rfl, by rw [b01_f]; intro h; exact h (b01_1 c1), ht⟩) (fun q h => nomatch h) d_M_isFar_16 hlocks
  · rw [hr1] at c1
    refine lv_iconst (v := 1) hx hb d_M_isFar_11 (by decide) ?_
    refine lv_goto (tgt := 16) hx hb d_M_isFar_12 (by decide) ?_
    exact W.zret (v := 1) (ty := .boolean) hx hb hrt rfl (fun t ht hW => ⟨1, rfl, by rw [b01_t]; exact fun h => absurd c1 (by rw [b01_t h]; decide), ht⟩) (fun q h => nomatch h) d_M_isFar_16 hlocks
set_option maxHeartbeats 4000000 in
set_option maxRecDepth 100000 in
theorem k_M_isSegment (l : Launch) (D : va_G) (E : ClassId × ClassId × ClassId × ClassId) (h0 : Nat) (ad : Nat → Nat) (th sg sn hot pc cx cy : Int32) (fo fv to tv : Int64) (fi ti : Int32) (v : Int32) : Met l y_M_isSegment (.code y_M_isSegment c_M_isSegment 2 (some .boolean) :: gw) ({ frames := 1, cells := 0, slots := 0, locals := 22 } : Room) (rP D E [(h0, .inr (3, mF ad th sg sn hot pc cx cy fo fv to tv fi ti))] [.ref h0, .int v]) (vp_Si (fun r => r = b01 (mw_in v 0 (sg - 1)))) 0 0 (fun _ => False) := by
  refine rd_ofW (by decide) (Nat.le_of_ble_eq_true rfl) ?_
  intro p e s m below meth c B hP hK ls hl
  obtain ⟨hx, hb, hrt, hml, hown, hts, hG, hlocks, hin⟩ := B
  have hl : lv_has ls 2 [(0, .ref h0), (1, .int v)] := hl
  refine lv_iload_n hx hb d_M_isSegment_0 rfl (lv_at hl 1 rfl) ?_
  refine lv_iconst (v := 0) hx hb d_M_isSegment_1 (by decide) ?_
  refine lv_aload_n hx hb d_M_isSegment_2 rfl (lv_at hl 0 rfl) ?_
  refine va_get (D := D) (ci := 3) (v := .int sg) (C := K_M) (T := F_M) (N := 24) hx hb hG in_M hown hK.1 hP 0 rfl rfl 1 (by decide) (hG _ wd_649) (fun _ h9 => h9) rfl d_M_isSegment_3 ?_
  refine lv_iconst (v := 1) hx hb d_M_isSegment_6 (by decide) ?_
  refine lv_isub hx hb d_M_isSegment_7 ?_
  have hPc := hP.sub (ws' := []) [] rfl
  refine vp_callSi (W.runS (As := [.int v, .int 0, .int (sg - 1)]) (rest := []) ⟨hx, hb, hml, hown, hts⟩ (k_M_within l D E v 0 (sg - 1)) (va_cwS 3 hts (gw_gs wd_736 wd_737 wd_42 wd_738) rfl rfl rfl (by decide +kernel) ⟨Nat.le_of_ble_eq_true rfl, Nat.le_of_ble_eq_true rfl⟩) (rP_S hPc hK) rfl rfl hl.1 rfl (lv_room (Nat.le_of_ble_eq_true rfl)) d_M_isSegment_8 ⟨Nat.le_of_ble_eq_true rfl, Nat.le_of_ble_eq_true rfl⟩) (fun r1 hr1 => ?_)
  subst hr1
  exact W.zret (v := (b01 (mw_in v 0 (sg - 1)))) (ty := .boolean) hx hb hrt (b01_n _) (fun t ht hW => ⟨(b01 (mw_in v 0 (sg - 1))), rfl, rfl, ht⟩) (fun q h => nomatch h) d_M_isSegment_11 hlocks
set_option maxHeartbeats 4000000 in
set_option maxRecDepth 100000 in
theorem k_M_thrown (l : Launch) (D : va_G) (E : ClassId × ClassId × ClassId × ClassId) (h0 : Nat) (ad : Nat → Nat) (th sg sn hot pc cx cy : Int32) (fo fv to tv : Int64) (fi ti : Int32) : Met l y_M_thrown (.code y_M_thrown c_M_thrown 1 (some .int) :: gw) ({ frames := 0, cells := 0, slots := 0, locals := 0 } : Room) (rP D E [(h0, .inr (3, mF ad th sg sn hot pc cx cy fo fv to tv fi ti))] [.ref h0]) (vp_Si (fun r => r = th)) 0 0 (fun _ => False) := by
  refine rd_ofW (by decide) (Nat.le_of_ble_eq_true rfl) ?_
  intro p e s m below meth c B hP hK ls hl
  obtain ⟨hx, hb, hrt, hml, hown, hts, hG, hlocks, hin⟩ := B
  have hl : lv_has ls 1 [(0, .ref h0)] := hl
  refine lv_aload_n hx hb d_M_thrown_0 rfl (lv_at hl 0 rfl) ?_
  refine va_get (D := D) (ci := 3) (v := .int th) (C := K_M) (T := F_M) (N := 24) hx hb hG in_M hown hK.1 hP 0 rfl rfl 0 (by decide) (hG _ wd_648) (fun _ h9 => h9) rfl d_M_thrown_1 ?_
  exact W.iret (v := th) hx hb hrt (fun t ht hW => ⟨th, rfl, rfl, ht⟩) (fun q h => nomatch h) d_M_thrown_4 hlocks
set_option maxHeartbeats 4000000 in
set_option maxRecDepth 100000 in
theorem k_M_fail (l : Launch) (D : va_G) (E : ClassId × ClassId × ClassId × ClassId) (h0 sz : Nat) (ad : Nat → Nat) (th sg sn hot pc cx cy : Int32) (fo fv to tv : Int64) (fi ti : Int32) (k : Int32) : Met l y_M_fail (.code y_M_fail c_M_fail 2 (some .int) :: gw) ({ frames := 0, cells := 0, slots := 0, locals := 0 } : Room) (wP D E [(h0, .inr (3, mF ad th sg sn hot pc cx cy fo fv to tv fi ti))] sz [.ref h0, .int k]) (va_Qi (fun (r : Int32) (u : Unit) => r = 0) (wB D (fun _ => [(h0, .inr (3, mF ad k sg sn hot pc cx cy fo fv to tv fi ti))]) (va_A [(h0, .inr (3, mF ad th sg sn hot pc cx cy fo fv to tv fi ti))] sz)) (va_A [(h0, .inr (3, mF ad th sg sn hot pc cx cy fo fv to tv fi ti))] sz)) 0 0 (va_A [(h0, .inr (3, mF ad th sg sn hot pc cx cy fo fv to tv fi ti))] sz) := by
  refine wr_ofW (Qc := fun A => (va_Qi (fun (r : Int32) (u : Unit) => r = 0) (wB D (fun _ => [(h0, .inr (3, mF ad k sg sn hot pc cx cy fo fv to tv fi ti))]) A) A)) (by decide) (Nat.le_of_ble_eq_true rfl) ?_
  intro p e s m below meth c B hP hK A hA hD hS ls hl
  obtain ⟨hx, hb, hrt, hml, hown, hts, hG, hlocks, hin⟩ := B
  have hl : lv_has ls 2 [(0, .ref h0), (1, .int k)] := hl
  refine lv_aload_n hx hb d_M_fail_0 rfl (lv_at hl 0 rfl) ?_
  refine lv_iload_n hx hb d_M_fail_1 rfl (lv_at hl 1 rfl) ?_
  refine va_put (D := D) (ci := 3) (v := .int k) (ty := .int) (C := K_M) (T := F_M) (N := 24) hx hb hG in_M t_M t_M_ok n_M hown hK.1 hP hD hS 0 rfl rfl 0 (by decide) (hG _ wd_648) (fun _ h9 => h9) rfl (by decide +kernel) rfl rfl (Nat.le_of_ble_eq_true rfl) d_M_fail_2 (fun H locs hP hD hS => ?_)
  have hP : va_P D vwC [(h0, .inr (3, mF ad k sg sn hot pc cx cy fo fv to tv fi ti))] H := hP
  have hD : va_D A [(h0, .inr (3, mF ad k sg sn hot pc cx cy fo fv to tv fi ti))] := hD
  refine lv_iconst (v := 0) hx hb d_M_fail_5 (by decide) ?_
  exact W.iret (v := 0) hx hb hrt (fun t ht hW => ⟨⟨0, (), rfl, rfl, ⟨by rw [ht]; exact hP, hD⟩⟩, hS.F ht⟩) hS.2.2 d_M_fail_6 hlocks
set_option maxHeartbeats 4000000 in
set_option maxRecDepth 100000 in
theorem k_M_compare (l : Launch) (D : va_G) (E : ClassId × ClassId × ClassId × ClassId) (a b x d : Int64) : Met l y_M_compare (.code y_M_compare c_M_compare 12 (some .int) :: gw) ({ frames := 0, cells := 0, slots := 0, locals := 0 } : Room) (rP D E [] [.long a, .long b, .long x, .long d]) (vp_Si (fun r => r = mr_cmp a b x d)) 0 0 (fun _ => False) := by
  refine rd_ofW (by decide) (Nat.le_of_ble_eq_true rfl) ?_
  intro p e s m below meth c B hP hK ls hl
  obtain ⟨hx, hb, hrt, hml, hown, hts, hG, hlocks, hin⟩ := B
  have hl : lv_has ls 12 [(0, .long a), (2, .long b), (4, .long x), (6, .long d)] := hl
  refine lv_lload_n hx hb d_M_compare_0 rfl (lv_at hl 0 rfl) ?_
  refine lv_lload hx hb d_M_compare_1 (lv_at hl 3 rfl) ?_
  refine lv_lmul hx hb d_M_compare_3 ?_
  refine lv_lstore (lv' := [(8, .long (a * d)), (0, .long a), (2, .long b), (4, .long x), (6, .long d)]) hx hb d_M_compare_4 hl (by decide) rfl (fun ls hl => ?_)
  refine lv_lload hx hb d_M_compare_6 (lv_at hl 3 rfl) ?_
  refine lv_lload_n hx hb d_M_compare_8 rfl (lv_at hl 2 rfl) ?_
  refine lv_lmul hx hb d_M_compare_9 ?_
  refine lv_lstore (lv' := [(10, .long (x * b)), (8, .long (a * d)), (0, .long a), (2, .long b), (4, .long x), (6, .long d)]) hx hb d_M_compare_10 hl (by decide) rfl (fun ls hl => ?_)
  refine lv_lload hx hb d_M_compare_12 (lv_at hl 1 rfl) ?_
  refine lv_lload hx hb d_M_compare_14 (lv_at hl 0 rfl) ?_
  refine W.lcmp hx hb d_M_compare_16 ?_
  refine lv_if_ge (tgt := 24) hx hb d_M_compare_17 (by decide) (fun c1 => ?_) (fun c1 => ?_)
  · refine lv_lload hx hb d_M_compare_24 (lv_at hl 1 rfl) ?_
    refine lv_lload hx hb d_M_compare_26 (lv_at hl 0 rfl) ?_
    refine W.lcmp hx hb d_M_compare_28 ?_
    refine lv_if_le (tgt := 36) hx hb d_M_compare_29 (by decide) (fun c2 => ?_) (fun c2 => ?_)
    · refine lv_iconst (v := 0) hx hb d_M_compare_36 (by decide) ?_
      exact W.iret (v := 0) hx hb hrt (fun t ht hW => ⟨0, rfl, by rw [mr_cmp, if_neg (lg_ge.mp c1), if_neg (lg_le.mp c2)], ht⟩) (fun q h => nomatch h) d_M_compare_37 hlocks
    · refine lv_iconst (v := 1) hx hb d_M_compare_32 (by decide) ?_
      refine lv_goto (tgt := 37) hx hb d_M_compare_33 (by decide) ?_
      exact W.iret (v := 1) hx hb hrt (fun t ht hW => ⟨1, rfl, by rw [mr_cmp, if_neg (lg_ge.mp c1), if_pos (lg_le' c2)], ht⟩) (fun q h => nomatch h) d_M_compare_37 hlocks
  · refine lv_iconst (v := (-1)) hx hb d_M_compare_20 (by decide) ?_
    refine lv_goto (tgt := 37) hx hb d_M_compare_21 (by decide) ?_
    exact W.iret (v := (-1)) hx hb hrt (fun t ht hW => ⟨(-1), rfl, by rw [mr_cmp, if_pos (lg_ge' c1)], ht⟩) (fun q h => nomatch h) d_M_compare_37 hlocks
/-- the interval's begin raised to o / u, its end reduced to it -/
def mr_up (o u : Int64) (i : Int32) (s : Int64 × Int64 × Int32) : Int64 × Int64 × Int32 :=
  if 0 < mr_cmp o u s.1 s.2.1 ∨ (mr_cmp o u s.1 s.2.1 = 0 ∧ ¬ s.2.2 = 0) then (o, u, b01 (¬ i = 0 ∧ (0 < mr_cmp o u s.1 s.2.1 ∨ ¬ s.2.2 = 0))) else s
def mr_dn (o u : Int64) (i : Int32) (s : Int64 × Int64 × Int32) : Int64 × Int64 × Int32 :=
  if mr_cmp o u s.1 s.2.1 < 0 ∨ (mr_cmp o u s.1 s.2.1 = 0 ∧ ¬ s.2.2 = 0) then (o, u, b01 (¬ i = 0 ∧ (mr_cmp o u s.1 s.2.1 < 0 ∨ ¬ s.2.2 = 0))) else s
set_option maxHeartbeats 4000000 in
set_option maxRecDepth 100000 in
theorem k_M_raise (l : Launch) (D : va_G) (E : ClassId × ClassId × ClassId × ClassId) (h0 sz : Nat) (ad : Nat → Nat) (th sg sn hot pc cx cy : Int32) (fo fv to tv : Int64) (fi ti : Int32) (o u : Int64) (i : Int32) : Met l y_M_raise (.code y_M_raise c_M_raise 7 none :: gw) ({ frames := 1, cells := 0, slots := 0, locals := 40 } : Room) (wP D E [(h0, .inr (3, mF ad th sg sn hot pc cx cy fo fv to tv fi ti))] sz [.ref h0, .long o, .long u, .int i]) (va_Qv (fun (u : Unit) => True) (wB D (fun _ => [(h0, .inr (3, mF ad th sg sn hot pc cx cy ((mr_up o u i (fo, fv, fi)).1) ((mr_up o u i (fo, fv, fi)).2.1) to tv ((mr_up o u i (fo, fv, fi)).2.2) ti))]) (va_A [(h0, .inr (3, mF ad th sg sn hot pc cx cy fo fv to tv fi ti))] sz)) (va_A [(h0, .inr (3, mF ad th sg sn hot pc cx cy fo fv to tv fi ti))] sz)) 0 0 (va_A [(h0, .inr (3, mF ad th sg sn hot pc cx cy fo fv to tv fi ti))] sz) := by
  refine wr_ofW (Qc := fun A => (va_Qv (fun (u : Unit) => True) (wB D (fun _ => [(h0, .inr (3, mF ad th sg sn hot pc cx cy ((mr_up o u i (fo, fv, fi)).1) ((mr_up o u i (fo, fv, fi)).2.1) to tv ((mr_up o u i (fo, fv, fi)).2.2) ti))]) A) A)) (by decide) (Nat.le_of_ble_eq_true rfl) ?_
  intro p e s m below meth c B hP hK A hA hD hS ls hl
  obtain ⟨hx, hb, hrt, hml, hown, hts, hG, hlocks, hin⟩ := B
  have hl : lv_has ls 7 [(0, .ref h0), (1, .long o), (3, .long u), (5, .int i)] := hl
  refine lv_lload_n hx hb d_M_raise_0 rfl (lv_at hl 1 rfl) ?_
  refine lv_lload_n hx hb d_M_raise_1 rfl (lv_at hl 2 rfl) ?_
  refine lv_aload_n hx hb d_M_raise_2 rfl (lv_at hl 0 rfl) ?_
  refine va_get (D := D) (ci := 3) (v := .long fo) (C := K_M) (T := F_M) (N := 24) hx hb hG in_M hown hK.1 hP 0 rfl rfl 15 (by decide) (hG _ wd_663) (fun _ h9 => h9) rfl d_M_raise_3 ?_
  refine lv_aload_n hx hb d_M_raise_6 rfl (lv_at hl 0 rfl) ?_
  refine va_get (D := D) (ci := 3) (v := .long fv) (C := K_M) (T := F_M) (N := 24) hx hb hG in_M hown hK.1 hP 0 rfl rfl 16 (by decide) (hG _ wd_664) (fun _ h9 => h9) rfl d_M_raise_7 ?_
  have hPc := hP.sub (ws' := []) [] rfl
  refine vp_callSi (W.runS (As := [.long o, .long u, .long fo, .long fv]) (rest := []) ⟨hx, hb, hml, hown, hts⟩ (k_M_compare l D E o u fo fv) (va_cwS 4 hts (gw_gs wd_772 wd_773 wd_42 wd_774) rfl rfl rfl (by decide +kernel) ⟨Nat.le_of_ble_eq_true rfl, Nat.le_of_ble_eq_true rfl⟩) (rP_S hPc hK) rfl rfl hl.1 rfl (lv_room (Nat.le_of_ble_eq_true rfl)) d_M_raise_10 ⟨Nat.le_of_ble_eq_true rfl, Nat.le_of_ble_eq_true rfl⟩) (fun cc hcc => ?_)
  refine lv_istore (lv' := [(6, .int cc), (0, .ref h0), (1, .long o), (3, .long u), (5, .int i)]) hx hb d_M_raise_13 hl (by decide) rfl (fun ls hl => ?_)
  have hU : (mr_up o u i (fo, fv, fi)) = if 0 < cc ∨ (cc = 0 ∧ ¬ fi = 0) then (o, u, b01 (¬ i = 0 ∧ (0 < cc ∨ ¬ fi = 0))) else (fo, fv, fi) := by rw [mr_up, hcc]
  have J : ∀ (b : Int32) (ls : Array Slot), (0 < cc ∨ (cc = 0 ∧ ¬ fi = 0)) → (b = b01 (¬ i = 0 ∧ (0 < cc ∨ ¬ fi = 0))) → lv_has ls 7 [(0, .ref h0), (1, .long o), (3, .long u), (5, .int i), (6, .int cc)] → W p l e ({ frames := 1, cells := 0, slots := 0, locals := 40 } : Room) s m ([.ref h0, .long o, .long u, .int i] : List Value).toArray below meth c s.heap [] 0 0 (MQ below (va_Qv (fun (u : Unit) => True) (wB D (fun _ => [(h0, .inr (3, mF ad th sg sn hot pc cx cy ((mr_up o u i (fo, fv, fi)).1) ((mr_up o u i (fo, fv, fi)).2.1) to tv ((mr_up o u i (fo, fv, fi)).2.2) ti))]) A) A) ([.ref h0, .long o, .long u, .int i] : List Value).toArray s 0 0 A) (F0 m 55 ls [.int b, .ref h0]) := by
    intro b ls hc hbb hl
    rw [if_pos hc, ← hbb] at hU
    refine va_put (D := D) (ci := 3) (v := .int b) (ty := .boolean) (C := K_M) (T := F_M) (N := 24) hx hb hG in_M t_M t_M_ok n_M hown hK.1 hP hD hS 0 rfl rfl 19 (by decide) (hG _ wd_667) (fun _ h9 => h9) rfl (by decide +kernel) (z_n (hbb ▸ b01_z _)) (z_f (hbb ▸ b01_z _)) (Nat.le_of_ble_eq_true rfl) d_M_raise_55 (fun H locs hP hD hS => ?_)
    have hP : va_P D vwC [(h0, .inr (3, mF ad th sg sn hot pc cx cy fo fv to tv b ti))] H := hP
    have hD : va_D A [(h0, .inr (3, mF ad th sg sn hot pc cx cy fo fv to tv b ti))] := hD
    refine lv_aload_n hx hb d_M_raise_58 rfl (lv_at hl 0 rfl) ?_
    refine lv_lload_n hx hb d_M_raise_59 rfl (lv_at hl 1 rfl) ?_
    refine va_put (D := D) (ci := 3) (v := .long o) (ty := .long) (C := K_M) (T := F_M) (N := 24) hx hb hG in_M t_M t_M_ok n_M hown hK.1 hP hD hS 0 rfl rfl 15 (by decide) (hG _ wd_663) (fun _ h9 => h9) rfl (by decide +kernel) rfl rfl (Nat.le_of_ble_eq_true rfl) d_M_raise_60 (fun H locs hP hD hS => ?_)
    have hP : va_P D vwC [(h0, .inr (3, mF ad th sg sn hot pc cx cy o fv to tv b ti))] H := hP
    have hD : va_D A [(h0, .inr (3, mF ad th sg sn hot pc cx cy o fv to tv b ti))] := hD
    refine lv_aload_n hx hb d_M_raise_63 rfl (lv_at hl 0 rfl) ?_
    refine lv_lload_n hx hb d_M_raise_64 rfl (lv_at hl 2 rfl) ?_
    refine va_put (D := D) (ci := 3) (v := .long u) (ty := .long) (C := K_M) (T := F_M) (N := 24) hx hb hG in_M t_M t_M_ok n_M hown hK.1 hP hD hS 0 rfl rfl 16 (by decide) (hG _ wd_664) (fun _ h9 => h9) rfl (by decide +kernel) rfl rfl (Nat.le_of_ble_eq_true rfl) d_M_raise_65 (fun H locs hP hD hS => ?_)
    have hP : va_P D vwC [(h0, .inr (3, mF ad th sg sn hot pc cx cy o u to tv b ti))] H := hP
    have hD : va_D A [(h0, .inr (3, mF ad th sg sn hot pc cx cy o u to tv b ti))] := hD
    rw [hU]
    exact W.vret hx hb hrt (fun t ht hW => ⟨⟨(), rfl, trivial, ⟨by rw [ht]; exact hP, hD⟩⟩, hS.F ht⟩) hS.2.2 d_M_raise_68 hlocks
  have J2 : ∀ (ls : Array Slot), (0 < cc ∨ (cc = 0 ∧ ¬ fi = 0)) → lv_has ls 7 [(0, .ref h0), (1, .long o), (3, .long u), (5, .int i), (6, .int cc)] → W p l e ({ frames := 1, cells := 0, slots := 0, locals := 40 } : Room) s m ([.ref h0, .long o, .long u, .int i] : List Value).toArray below meth c s.heap [] 0 0 (MQ below (va_Qv (fun (u : Unit) => True) (wB D (fun _ => [(h0, .inr (3, mF ad th sg sn hot pc cx cy ((mr_up o u i (fo, fv, fi)).1) ((mr_up o u i (fo, fv, fi)).2.1) to tv ((mr_up o u i (fo, fv, fi)).2.2) ti))]) A) A) ([.ref h0, .long o, .long u, .int i] : List Value).toArray s 0 0 A) (F0 m 32 ls []) := by
    intro ls hc hl
    refine lv_aload_n hx hb d_M_raise_32 rfl (lv_at hl 0 rfl) ?_
    refine lv_iload hx hb d_M_raise_33 (lv_at hl 3 rfl) ?_
    refine lv_if_eq (tgt := 54) hx hb d_M_raise_35 (by decide) (fun d1 => ?_) (fun d1 => ?_)
    · refine lv_iconst (v := 0) hx hb d_M_raise_54 (by decide) ?_
      exact J 0 ls hc (b01_f (fun h => h.1 d1)).symm (lv_sub hl [0, 1, 2, 3, 4] rfl)
    · refine lv_iload hx hb d_M_raise_38 (lv_at hl 4 rfl) ?_
      refine lv_if_gt (tgt := 50) hx hb d_M_raise_40 (by decide) (fun d2 => ?_) (fun d2 => ?_)
      · refine lv_iconst (v := 1) hx hb d_M_raise_50 (by decide) ?_
        refine lv_goto (tgt := 55) hx hb d_M_raise_51 (by decide) ?_
        exact J 1 ls hc (b01_t ⟨d1, Or.inl d2⟩).symm (lv_sub hl [0, 1, 2, 3, 4] rfl)
      · refine lv_aload_n hx hb d_M_raise_43 rfl (lv_at hl 0 rfl) ?_
        refine va_get (D := D) (ci := 3) (v := .int fi) (C := K_M) (T := F_M) (N := 24) hx hb hG in_M hown hK.1 hP 0 rfl rfl 19 (by decide) (hG _ wd_667) (fun _ h9 => h9) rfl d_M_raise_44 ?_
        refine lv_if_eq (tgt := 54) hx hb d_M_raise_47 (by decide) (fun d3 => ?_) (fun d3 => ?_)
        · refine lv_iconst (v := 0) hx hb d_M_raise_54 (by decide) ?_
          exact J 0 ls hc (b01_f (fun h => h.2.elim d2 (fun g => g d3))).symm (lv_sub hl [0, 1, 2, 3, 4] rfl)
        · refine lv_iconst (v := 1) hx hb d_M_raise_50 (by decide) ?_
          refine lv_goto (tgt := 55) hx hb d_M_raise_51 (by decide) ?_
          exact J 1 ls hc (b01_t ⟨d1, Or.inr d3⟩).symm (lv_sub hl [0, 1, 2, 3, 4] rfl)
  refine lv_iload hx hb d_M_raise_15 (lv_at hl 0 rfl) ?_
  refine lv_if_gt (tgt := 32) hx hb d_M_raise_17 (by decide) (fun c1 => ?_) (fun c1 => ?_)
  · exact J2 ls (Or.inl c1) (lv_sub hl [1, 2, 3, 4, 0] rfl)
  · refine lv_iload hx hb d_M_raise_20 (lv_at hl 0 rfl) ?_
    refine lv_if_ne (tgt := 68) hx hb d_M_raise_22 (by decide) (fun c2 => ?_) (fun c2 => ?_)
    · rw [if_neg (fun h => h.elim c1 (fun g => c2 g.1))] at hU
      rw [hU]
      exact W.vret hx hb hrt (fun t ht hW => ⟨⟨(), rfl, trivial, ⟨by rw [ht]; exact hP, hD⟩⟩, hS.F ht⟩) hS.2.2 d_M_raise_68 hlocks
    · refine lv_aload_n hx hb d_M_raise_25 rfl (lv_at hl 1 rfl) ?_
      refine va_get (D := D) (ci := 3) (v := .int fi) (C := K_M) (T := F_M) (N := 24) hx hb hG in_M hown hK.1 hP 0 rfl rfl 19 (by decide) (hG _ wd_667) (fun _ h9 => h9) rfl d_M_raise_26 ?_
      refine lv_if_eq (tgt := 68) hx hb d_M_raise_29 (by decide) (fun c3 => ?_) (fun c3 => ?_)
      · rw [if_neg (fun h => h.elim c1 (fun g => g.2 c3))] at hU
        rw [hU]
        exact W.vret hx hb hrt (fun t ht hW => ⟨⟨(), rfl, trivial, ⟨by rw [ht]; exact hP, hD⟩⟩, hS.F ht⟩) hS.2.2 d_M_raise_68 hlocks
      · exact J2 ls (Or.inr ⟨c2, c3⟩) (lv_sub hl [1, 2, 3, 4, 0] rfl)
set_option maxHeartbeats 4000000 in
set_option maxRecDepth 100000 in
theorem k_M_reduce (l : Launch) (D : va_G) (E : ClassId × ClassId × ClassId × ClassId) (h0 sz : Nat) (ad : Nat → Nat) (th sg sn hot pc cx cy : Int32) (fo fv to tv : Int64) (fi ti : Int32) (o u : Int64) (i : Int32) : Met l y_M_reduce (.code y_M_reduce c_M_reduce 7 none :: gw) ({ frames := 1, cells := 0, slots := 0, locals := 40 } : Room) (wP D E [(h0, .inr (3, mF ad th sg sn hot pc cx cy fo fv to tv fi ti))] sz [.ref h0, .long o, .long u, .int i]) (va_Qv (fun (u : Unit) => True) (wB D (fun _ => [(h0, .inr (3, mF ad th sg sn hot pc cx cy fo fv ((mr_dn o u i (to, tv, ti)).1) ((mr_dn o u i (to, tv, ti)).2.1) fi ((mr_dn o u i (to, tv, ti)).2.2)))]) (va_A [(h0, .inr (3, mF ad th sg sn hot pc cx cy fo fv to tv fi ti))] sz)) (va_A [(h0, .inr (3, mF ad th sg sn hot pc cx cy fo fv to tv fi ti))] sz)) 0 0 (va_A [(h0, .inr (3, mF ad th sg sn hot pc cx cy fo fv to tv fi ti))] sz) := by
  refine wr_ofW (Qc := fun A => (va_Qv (fun (u : Unit) => True) (wB D (fun _ => [(h0, .inr (3, mF ad th sg sn hot pc cx cy fo fv ((mr_dn o u i (to, tv, ti)).1) ((mr_dn o u i (to, tv, ti)).2.1) fi ((mr_dn o u i (to, tv, ti)).2.2)))]) A) A)) (by decide) (Nat.le_of_ble_eq_true rfl) ?_
  intro p e s m below meth c B hP hK A hA hD hS ls hl
  obtain ⟨hx, hb, hrt, hml, hown, hts, hG, hlocks, hin⟩ := B
  have hl : lv_has ls 7 [(0, .ref h0), (1, .long o), (3, .long u), (5, .int i)] := hl
  refine lv_lload_n hx hb d_M_reduce_0 rfl (lv_at hl 1 rfl) ?_
  refine lv_lload_n hx hb d_M_reduce_1 rfl (lv_at hl 2 rfl) ?_
  refine lv_aload_n hx hb d_M_reduce_2 rfl (lv_at hl 0 rfl) ?_
  refine va_get (D := D) (ci := 3) (v := .long to) (C := K_M) (T := F_M) (N := 24) hx hb hG in_M hown hK.1 hP 0 rfl rfl 17 (by decide) (hG _ wd_665) (fun _ h9 => h9) rfl d_M_reduce_3 ?_
  refine lv_aload_n hx hb d_M_reduce_6 rfl (lv_at hl 0 rfl) ?_
  refine va_get (D := D) (ci := 3) (v := .long tv) (C := K_M) (T := F_M) (N := 24) hx hb hG in_M hown hK.1 hP 0 rfl rfl 18 (by decide) (hG _ wd_666) (fun _ h9 => h9) rfl d_M_reduce_7 ?_
  have hPc := hP.sub (ws' := []) [] rfl
  refine vp_callSi (W.runS (As := [.long o, .long u, .long to, .long tv]) (rest := []) ⟨hx, hb, hml, hown, hts⟩ (k_M_compare l D E o u to tv) (va_cwS 4 hts (gw_gs wd_772 wd_773 wd_42 wd_774) rfl rfl rfl (by decide +kernel) ⟨Nat.le_of_ble_eq_true rfl, Nat.le_of_ble_eq_true rfl⟩) (rP_S hPc hK) rfl rfl hl.1 rfl (lv_room (Nat.le_of_ble_eq_true rfl)) d_M_reduce_10 ⟨Nat.le_of_ble_eq_true rfl, Nat.le_of_ble_eq_true rfl⟩) (fun cc hcc => ?_)
  refine lv_istore (lv' := [(6, .int cc), (0, .ref h0), (1, .long o), (3, .long u), (5, .int i)]) hx hb d_M_reduce_13 hl (by decide) rfl (fun ls hl => ?_)
  have hU : (mr_dn o u i (to, tv, ti)) = if cc < 0 ∨ (cc = 0 ∧ ¬ ti = 0) then (o, u, b01 (¬ i = 0 ∧ (cc < 0 ∨ ¬ ti = 0))) else (to, tv, ti) := by rw [mr_dn, hcc]
  have J : ∀ (b : Int32) (ls : Array Slot), (cc < 0 ∨ (cc = 0 ∧ ¬ ti = 0)) → (b = b01 (¬ i = 0 ∧ (cc < 0 ∨ ¬ ti = 0))) → lv_has ls 7 [(0, .ref h0), (1, .long o), (3, .long u), (5, .int i), (6, .int cc)] → W p l e ({ frames := 1, cells := 0, slots := 0, locals := 40 } : Room) s m ([.ref h0, .long o, .long u, .int i] : List Value).toArray below meth c s.heap [] 0 0 (MQ below (va_Qv (fun (u : Unit) => True) (wB D (fun _ => [(h0, .inr (3, mF ad th sg sn hot pc cx cy fo fv ((mr_dn o u i (to, tv, ti)).1) ((mr_dn o u i (to, tv, ti)).2.1) fi ((mr_dn o u i (to, tv, ti)).2.2)))]) A) A) ([.ref h0, .long o, .long u, .int i] : List Value).toArray s 0 0 A) (F0 m 55 ls [.int b, .ref h0]) := by
    intro b ls hc hbb hl
    rw [if_pos hc, ← hbb] at hU
    refine va_put (D := D) (ci := 3) (v := .int b) (ty := .boolean) (C := K_M) (T := F_M) (N := 24) hx hb hG in_M t_M t_M_ok n_M hown hK.1 hP hD hS 0 rfl rfl 20 (by decide) (hG _ wd_668) (fun _ h9 => h9) rfl (by decide +kernel) (z_n (hbb ▸ b01_z _)) (z_f (hbb ▸ b01_z _)) (Nat.le_of_ble_eq_true rfl) d_M_reduce_55 (fun H locs hP hD hS => ?_)
    have hP : va_P D vwC [(h0, .inr (3, mF ad th sg sn hot pc cx cy fo fv to tv fi b))] H := hP
    have hD : va_D A [(h0, .inr (3, mF ad th sg sn hot pc cx cy fo fv to tv fi b))] := hD
    refine lv_aload_n hx hb d_M_reduce_58 rfl (lv_at hl 0 rfl) ?_
    refine lv_lload_n hx hb d_M_reduce_59 rfl (lv_at hl 1 rfl) ?_
    refine va_put (D := D) (ci := 3) (v := .long o) (ty := .long) (C := K_M) (T := F_M) (N := 24) hx hb hG in_M t_M t_M_ok n_M hown hK.1 hP hD hS 0 rfl rfl 17 (by decide) (hG _ wd_665) (fun _ h9 => h9) rfl (by decide +kernel) rfl rfl (Nat.le_of_ble_eq_true rfl) d_M_reduce_60 (fun H locs hP hD hS => ?_)
    have hP : va_P D vwC [(h0, .inr (3, mF ad th sg sn hot pc cx cy fo fv o tv fi b))] H := hP
    have hD : va_D A [(h0, .inr (3, mF ad th sg sn hot pc cx cy fo fv o tv fi b))] := hD
    refine lv_aload_n hx hb d_M_reduce_63 rfl (lv_at hl 0 rfl) ?_
    refine lv_lload_n hx hb d_M_reduce_64 rfl (lv_at hl 2 rfl) ?_
    refine va_put (D := D) (ci := 3) (v := .long u) (ty := .long) (C := K_M) (T := F_M) (N := 24) hx hb hG in_M t_M t_M_ok n_M hown hK.1 hP hD hS 0 rfl rfl 18 (by decide) (hG _ wd_666) (fun _ h9 => h9) rfl (by decide +kernel) rfl rfl (Nat.le_of_ble_eq_true rfl) d_M_reduce_65 (fun H locs hP hD hS => ?_)
    have hP : va_P D vwC [(h0, .inr (3, mF ad th sg sn hot pc cx cy fo fv o u fi b))] H := hP
    have hD : va_D A [(h0, .inr (3, mF ad th sg sn hot pc cx cy fo fv o u fi b))] := hD
    rw [hU]
    exact W.vret hx hb hrt (fun t ht hW => ⟨⟨(), rfl, trivial, ⟨by rw [ht]; exact hP, hD⟩⟩, hS.F ht⟩) hS.2.2 d_M_reduce_68 hlocks
  have J2 : ∀ (ls : Array Slot), (cc < 0 ∨ (cc = 0 ∧ ¬ ti = 0)) → lv_has ls 7 [(0, .ref h0), (1, .long o), (3, .long u), (5, .int i), (6, .int cc)] → W p l e ({ frames := 1, cells := 0, slots := 0, locals := 40 } : Room) s m ([.ref h0, .long o, .long u, .int i] : List Value).toArray below meth c s.heap [] 0 0 (MQ below (va_Qv (fun (u : Unit) => True) (wB D (fun _ => [(h0, .inr (3, mF ad th sg sn hot pc cx cy fo fv ((mr_dn o u i (to, tv, ti)).1) ((mr_dn o u i (to, tv, ti)).2.1) fi ((mr_dn o u i (to, tv, ti)).2.2)))]) A) A) ([.ref h0, .long o, .long u, .int i] : List Value).toArray s 0 0 A) (F0 m 32 ls []) := by
    intro ls hc hl
    refine lv_aload_n hx hb d_M_reduce_32 rfl (lv_at hl 0 rfl) ?_
    refine lv_iload hx hb d_M_reduce_33 (lv_at hl 3 rfl) ?_
    refine lv_if_eq (tgt := 54) hx hb d_M_reduce_35 (by decide) (fun d1 => ?_) (fun d1 => ?_)
    · refine lv_iconst (v := 0) hx hb d_M_reduce_54 (by decide) ?_
      exact J 0 ls hc (b01_f (fun h => h.1 d1)).symm (lv_sub hl [0, 1, 2, 3, 4] rfl)
    · refine lv_iload hx hb d_M_reduce_38 (lv_at hl 4 rfl) ?_
      refine lv_if_lt (tgt := 50) hx hb d_M_reduce_40 (by decide) (fun d2 => ?_) (fun d2 => ?_)
      · refine lv_iconst (v := 1) hx hb d_M_reduce_50 (by decide) ?_
        refine lv_goto (tgt := 55) hx hb d_M_reduce_51 (by decide) ?_
        exact J 1 ls hc (b01_t ⟨d1, Or.inl d2⟩).symm (lv_sub hl [0, 1, 2, 3, 4] rfl)
      · refine lv_aload_n hx hb d_M_reduce_43 rfl (lv_at hl 0 rfl) ?_
        refine va_get (D := D) (ci := 3) (v := .int ti) (C := K_M) (T := F_M) (N := 24) hx hb hG in_M hown hK.1 hP 0 rfl rfl 20 (by decide) (hG _ wd_668) (fun _ h9 => h9) rfl d_M_reduce_44 ?_
        refine lv_if_eq (tgt := 54) hx hb d_M_reduce_47 (by decide) (fun d3 => ?_) (fun d3 => ?_)
        · refine lv_iconst (v := 0) hx hb d_M_reduce_54 (by decide) ?_
          exact J 0 ls hc (b01_f (fun h => h.2.elim d2 (fun g => g d3))).symm (lv_sub hl [0, 1, 2, 3, 4] rfl)
        · refine lv_iconst (v := 1) hx hb d_M_reduce_50 (by decide) ?_
          refine lv_goto (tgt := 55) hx hb d_M_reduce_51 (by decide) ?_
          exact J 1 ls hc (b01_t ⟨d1, Or.inr d3⟩).symm (lv_sub hl [0, 1, 2, 3, 4] rfl)
  refine lv_iload hx hb d_M_reduce_15 (lv_at hl 0 rfl) ?_
  refine lv_if_lt (tgt := 32) hx hb d_M_reduce_17 (by decide) (fun c1 => ?_) (fun c1 => ?_)
  · exact J2 ls (Or.inl c1) (lv_sub hl [1, 2, 3, 4, 0] rfl)
  · refine lv_iload hx hb d_M_reduce_20 (lv_at hl 0 rfl) ?_
    refine lv_if_ne (tgt := 68) hx hb d_M_reduce_22 (by decide) (fun c2 => ?_) (fun c2 => ?_)
    · rw [if_neg (fun h => h.elim c1 (fun g => c2 g.1))] at hU
      rw [hU]
      exact W.vret hx hb hrt (fun t ht hW => ⟨⟨(), rfl, trivial, ⟨by rw [ht]; exact hP, hD⟩⟩, hS.F ht⟩) hS.2.2 d_M_reduce_68 hlocks
    · refine lv_aload_n hx hb d_M_reduce_25 rfl (lv_at hl 1 rfl) ?_
      refine va_get (D := D) (ci := 3) (v := .int ti) (C := K_M) (T := F_M) (N := 24) hx hb hG in_M hown hK.1 hP 0 rfl rfl 20 (by decide) (hG _ wd_668) (fun _ h9 => h9) rfl d_M_reduce_26 ?_
      refine lv_if_eq (tgt := 68) hx hb d_M_reduce_29 (by decide) (fun c3 => ?_) (fun c3 => ?_)
      · rw [if_neg (fun h => h.elim c1 (fun g => g.2 c3))] at hU
        rw [hU]
        exact W.vret hx hb hrt (fun t ht hW => ⟨⟨(), rfl, trivial, ⟨by rw [ht]; exact hP, hD⟩⟩, hS.F ht⟩) hS.2.2 d_M_reduce_68 hlocks
      · exact J2 ls (Or.inr ⟨c2, c3⟩) (lv_sub hl [1, 2, 3, 4, 0] rfl)
end
end
section
theorem d_M_along_0 : decode c_M_along 0 = .ok (.lload_n 3, 1) := by decide +kernel
theorem d_M_along_1 : decode c_M_along 1 = .ok (.lconst 0, 1) := by decide +kernel
theorem d_M_along_2 : decode c_M_along 2 = .ok (.lcmp, 1) := by decide +kernel
theorem d_M_along_3 : decode c_M_along 3 = .ok (.ifCond .ne 27, 3) := by decide +kernel
theorem d_M_along_6 : decode c_M_along 6 = .ok (.lload_n 1, 1) := by decide +kernel
theorem d_M_along_7 : decode c_M_along 7 = .ok (.lload 5, 2) := by decide +kernel
theorem d_M_along_9 : decode c_M_along 9 = .ok (.lcmp, 1) := by decide +kernel
theorem d_M_along_10 : decode c_M_along 10 = .ok (.ifCond .lt 18, 3) := by decide +kernel
theorem d_M_along_13 : decode c_M_along 13 = .ok (.lload_n 1, 1) := by decide +kernel
theorem d_M_along_14 : decode c_M_along 14 = .ok (.lload 5, 2) := by decide +kernel
theorem d_M_along_16 : decode c_M_along 16 = .ok (.ldc2_w 103, 3) := by decide +kernel
theorem d_M_along_19 : decode c_M_along 19 = .ok (.ladd, 1) := by decide +kernel
theorem d_M_along_20 : decode c_M_along 20 = .ok (.lcmp, 1) := by decide +kernel
theorem d_M_along_21 : decode c_M_along 21 = .ok (.ifCond .ge 7, 3) := by decide +kernel
theorem d_M_along_24 : decode c_M_along 24 = .ok (.iconst 1, 1) := by decide +kernel
theorem d_M_along_25 : decode c_M_along 25 = .ok (.goto 4, 3) := by decide +kernel
theorem d_M_along_28 : decode c_M_along 28 = .ok (.iconst 0, 1) := by decide +kernel
theorem d_M_along_29 : decode c_M_along 29 = .ok (.ireturn, 1) := by decide +kernel
theorem d_M_along_30 : decode c_M_along 30 = .ok (.lload_n 3, 1) := by decide +kernel
theorem d_M_along_31 : decode c_M_along 31 = .ok (.lconst 0, 1) := by decide +kernel
theorem d_M_along_32 : decode c_M_along 32 = .ok (.lcmp, 1) := by decide +kernel
theorem d_M_along_33 : decode c_M_along 33 = .ok (.ifCond .le 30, 3) := by decide +kernel
theorem d_M_along_36 : decode c_M_along 36 = .ok (.aload_n 0, 1) := by decide +kernel
theorem d_M_along_37 : decode c_M_along 37 = .ok (.lload 5, 2) := by decide +kernel
theorem d_M_along_39 : decode c_M_along 39 = .ok (.lload_n 1, 1) := by decide +kernel
theorem d_M_along_40 : decode c_M_along 40 = .ok (.lsub, 1) := by decide +kernel
theorem d_M_along_41 : decode c_M_along 41 = .ok (.lload_n 3, 1) := by decide +kernel
theorem d_M_along_42 : decode c_M_along 42 = .ok (.iconst 1, 1) := by decide +kernel
theorem d_M_along_43 : decode c_M_along 43 = .ok (.invokevirtual 105, 3) := by decide +kernel
theorem d_M_along_46 : decode c_M_along 46 = .ok (.aload_n 0, 1) := by decide +kernel
theorem d_M_along_47 : decode c_M_along 47 = .ok (.lload 5, 2) := by decide +kernel
theorem d_M_along_49 : decode c_M_along 49 = .ok (.ldc2_w 103, 3) := by decide +kernel
theorem d_M_along_52 : decode c_M_along 52 = .ok (.ladd, 1) := by decide +kernel
theorem d_M_along_53 : decode c_M_along 53 = .ok (.lload_n 1, 1) := by decide +kernel
theorem d_M_along_54 : decode c_M_along 54 = .ok (.lsub, 1) := by decide +kernel
theorem d_M_along_55 : decode c_M_along 55 = .ok (.lload_n 3, 1) := by decide +kernel
theorem d_M_along_56 : decode c_M_along 56 = .ok (.iconst 0, 1) := by decide +kernel
theorem d_M_along_57 : decode c_M_along 57 = .ok (.invokevirtual 109, 3) := by decide +kernel
theorem d_M_along_60 : decode c_M_along 60 = .ok (.goto 29, 3) := by decide +kernel
theorem d_M_along_63 : decode c_M_along 63 = .ok (.aload_n 0, 1) := by decide +kernel
theorem d_M_along_64 : decode c_M_along 64 = .ok (.lload_n 1, 1) := by decide +kernel
theorem d_M_along_65 : decode c_M_along 65 = .ok (.lload 5, 2) := by decide +kernel
theorem d_M_along_67 : decode c_M_along 67 = .ok (.lsub, 1) := by decide +kernel
theorem d_M_along_68 : decode c_M_along 68 = .ok (.ldc2_w 103, 3) := by decide +kernel
theorem d_M_along_71 : decode c_M_along 71 = .ok (.lsub, 1) := by decide +kernel
theorem d_M_along_72 : decode c_M_along 72 = .ok (.lload_n 3, 1) := by decide +kernel
theorem d_M_along_73 : decode c_M_along 73 = .ok (.lneg, 1) := by decide +kernel
theorem d_M_along_74 : decode c_M_along 74 = .ok (.iconst 0, 1) := by decide +kernel
theorem d_M_along_75 : decode c_M_along 75 = .ok (.invokevirtual 105, 3) := by decide +kernel
theorem d_M_along_78 : decode c_M_along 78 = .ok (.aload_n 0, 1) := by decide +kernel
theorem d_M_along_79 : decode c_M_along 79 = .ok (.lload_n 1, 1) := by decide +kernel
theorem d_M_along_80 : decode c_M_along 80 = .ok (.lload 5, 2) := by decide +kernel
theorem d_M_along_82 : decode c_M_along 82 = .ok (.lsub, 1) := by decide +kernel
theorem d_M_along_83 : decode c_M_along 83 = .ok (.lload_n 3, 1) := by decide +kernel
theorem d_M_along_84 : decode c_M_along 84 = .ok (.lneg, 1) := by decide +kernel
theorem d_M_along_85 : decode c_M_along 85 = .ok (.iconst 1, 1) := by decide +kernel
theorem d_M_along_86 : decode c_M_along 86 = .ok (.invokevirtual 109, 3) := by decide +kernel
theorem d_M_along_89 : decode c_M_along 89 = .ok (.iconst 1, 1) := by decide +kernel
theorem d_M_along_90 : decode c_M_along 90 = .ok (.ireturn, 1) := by decide +kernel
theorem d_M_isIn_0 : decode c_M_isIn 0 = .ok (.iconst 4, 1) := by decide +kernel
theorem d_M_isIn_1 : decode c_M_isIn 1 = .ok (.iload_n 1, 1) := by decide +kernel
theorem d_M_isIn_2 : decode c_M_isIn 2 = .ok (.imul, 1) := by decide +kernel
theorem d_M_isIn_3 : decode c_M_isIn 3 = .ok (.istore 4, 2) := by decide +kernel
theorem d_M_isIn_5 : decode c_M_isIn 5 = .ok (.aload_n 0, 1) := by decide +kernel
theorem d_M_isIn_6 : decode c_M_isIn 6 = .ok (.lconst 0, 1) := by decide +kernel
theorem d_M_isIn_7 : decode c_M_isIn 7 = .ok (.putfield 80, 3) := by decide +kernel
theorem d_M_isIn_10 : decode c_M_isIn 10 = .ok (.aload_n 0, 1) := by decide +kernel
theorem d_M_isIn_11 : decode c_M_isIn 11 = .ok (.lconst 1, 1) := by decide +kernel
theorem d_M_isIn_12 : decode c_M_isIn 12 = .ok (.putfield 84, 3) := by decide +kernel
theorem d_M_isIn_15 : decode c_M_isIn 15 = .ok (.aload_n 0, 1) := by decide +kernel
theorem d_M_isIn_16 : decode c_M_isIn 16 = .ok (.iconst 1, 1) := by decide +kernel
theorem d_M_isIn_17 : decode c_M_isIn 17 = .ok (.putfield 91, 3) := by decide +kernel
theorem d_M_isIn_20 : decode c_M_isIn 20 = .ok (.aload_n 0, 1) := by decide +kernel
theorem d_M_isIn_21 : decode c_M_isIn 21 = .ok (.lconst 1, 1) := by decide +kernel
theorem d_M_isIn_22 : decode c_M_isIn 22 = .ok (.putfield 94, 3) := by decide +kernel
theorem d_M_isIn_25 : decode c_M_isIn 25 = .ok (.aload_n 0, 1) := by decide +kernel
theorem d_M_isIn_26 : decode c_M_isIn 26 = .ok (.lconst 1, 1) := by decide +kernel
theorem d_M_isIn_27 : decode c_M_isIn 27 = .ok (.putfield 97, 3) := by decide +kernel
theorem d_M_isIn_30 : decode c_M_isIn 30 = .ok (.aload_n 0, 1) := by decide +kernel
theorem d_M_isIn_31 : decode c_M_isIn 31 = .ok (.iconst 1, 1) := by decide +kernel
theorem d_M_isIn_32 : decode c_M_isIn 32 = .ok (.putfield 100, 3) := by decide +kernel
theorem d_M_isIn_35 : decode c_M_isIn 35 = .ok (.aload_n 0, 1) := by decide +kernel
theorem d_M_isIn_36 : decode c_M_isIn 36 = .ok (.ldc2_w 103, 3) := by decide +kernel
theorem d_M_isIn_39 : decode c_M_isIn 39 = .ok (.aload_n 0, 1) := by decide +kernel
theorem d_M_isIn_40 : decode c_M_isIn 40 = .ok (.getfield 7, 3) := by decide +kernel
theorem d_M_isIn_43 : decode c_M_isIn 43 = .ok (.iload 4, 2) := by decide +kernel
theorem d_M_isIn_45 : decode c_M_isIn 45 = .ok (.iaload, 1) := by decide +kernel
theorem d_M_isIn_46 : decode c_M_isIn 46 = .ok (.i2l, 1) := by decide +kernel
theorem d_M_isIn_47 : decode c_M_isIn 47 = .ok (.lmul, 1) := by decide +kernel
theorem d_M_isIn_48 : decode c_M_isIn 48 = .ok (.ldc2_w 103, 3) := by decide +kernel
theorem d_M_isIn_51 : decode c_M_isIn 51 = .ok (.aload_n 0, 1) := by decide +kernel
theorem d_M_isIn_52 : decode c_M_isIn 52 = .ok (.getfield 7, 3) := by decide +kernel
theorem d_M_isIn_55 : decode c_M_isIn 55 = .ok (.iload 4, 2) := by decide +kernel
theorem d_M_isIn_57 : decode c_M_isIn 57 = .ok (.iconst 2, 1) := by decide +kernel
theorem d_M_isIn_58 : decode c_M_isIn 58 = .ok (.iadd, 1) := by decide +kernel
theorem d_M_isIn_59 : decode c_M_isIn 59 = .ok (.iaload, 1) := by decide +kernel
theorem d_M_isIn_60 : decode c_M_isIn 60 = .ok (.i2l, 1) := by decide +kernel
theorem d_M_isIn_61 : decode c_M_isIn 61 = .ok (.lmul, 1) := by decide +kernel
theorem d_M_isIn_62 : decode c_M_isIn 62 = .ok (.ldc2_w 103, 3) := by decide +kernel
theorem d_M_isIn_65 : decode c_M_isIn 65 = .ok (.aload_n 0, 1) := by decide +kernel
theorem d_M_isIn_66 : decode c_M_isIn 66 = .ok (.getfield 7, 3) := by decide +kernel
theorem d_M_isIn_69 : decode c_M_isIn 69 = .ok (.iload 4, 2) := by decide +kernel
theorem d_M_isIn_71 : decode c_M_isIn 71 = .ok (.iaload, 1) := by decide +kernel
theorem d_M_isIn_72 : decode c_M_isIn 72 = .ok (.i2l, 1) := by decide +kernel
theorem d_M_isIn_73 : decode c_M_isIn 73 = .ok (.lmul, 1) := by decide +kernel
theorem d_M_isIn_74 : decode c_M_isIn 74 = .ok (.lsub, 1) := by decide +kernel
theorem d_M_isIn_75 : decode c_M_isIn 75 = .ok (.ldc2_w 103, 3) := by decide +kernel
theorem d_M_isIn_78 : decode c_M_isIn 78 = .ok (.iload_n 2, 1) := by decide +kernel
theorem d_M_isIn_79 : decode c_M_isIn 79 = .ok (.i2l, 1) := by decide +kernel
theorem d_M_isIn_80 : decode c_M_isIn 80 = .ok (.lmul, 1) := by decide +kernel
theorem d_M_isIn_81 : decode c_M_isIn 81 = .ok (.lconst 1, 1) := by decide +kernel
theorem d_M_isIn_82 : decode c_M_isIn 82 = .ok (.lsub, 1) := by decide +kernel
theorem d_M_isIn_83 : decode c_M_isIn 83 = .ok (.invokevirtual 112, 3) := by decide +kernel
theorem d_M_isIn_86 : decode c_M_isIn 86 = .ok (.ifCond .eq 65, 3) := by decide +kernel
theorem d_M_isIn_89 : decode c_M_isIn 89 = .ok (.aload_n 0, 1) := by decide +kernel
theorem d_M_isIn_90 : decode c_M_isIn 90 = .ok (.ldc2_w 103, 3) := by decide +kernel
theorem d_M_isIn_93 : decode c_M_isIn 93 = .ok (.aload_n 0, 1) := by decide +kernel
theorem d_M_isIn_94 : decode c_M_isIn 94 = .ok (.getfield 7, 3) := by decide +kernel
theorem d_M_isIn_97 : decode c_M_isIn 97 = .ok (.iload 4, 2) := by decide +kernel
theorem d_M_isIn_99 : decode c_M_isIn 99 = .ok (.iconst 1, 1) := by decide +kernel
theorem d_M_isIn_100 : decode c_M_isIn 100 = .ok (.iadd, 1) := by decide +kernel
theorem d_M_isIn_101 : decode c_M_isIn 101 = .ok (.iaload, 1) := by decide +kernel
theorem d_M_isIn_102 : decode c_M_isIn 102 = .ok (.i2l, 1) := by decide +kernel
theorem d_M_isIn_103 : decode c_M_isIn 103 = .ok (.lmul, 1) := by decide +kernel
theorem d_M_isIn_104 : decode c_M_isIn 104 = .ok (.ldc2_w 103, 3) := by decide +kernel
theorem d_M_isIn_107 : decode c_M_isIn 107 = .ok (.aload_n 0, 1) := by decide +kernel
theorem d_M_isIn_108 : decode c_M_isIn 108 = .ok (.getfield 7, 3) := by decide +kernel
theorem d_M_isIn_111 : decode c_M_isIn 111 = .ok (.iload 4, 2) := by decide +kernel
theorem d_M_isIn_113 : decode c_M_isIn 113 = .ok (.iconst 3, 1) := by decide +kernel
theorem d_M_isIn_114 : decode c_M_isIn 114 = .ok (.iadd, 1) := by decide +kernel
theorem d_M_isIn_115 : decode c_M_isIn 115 = .ok (.iaload, 1) := by decide +kernel
theorem d_M_isIn_116 : decode c_M_isIn 116 = .ok (.i2l, 1) := by decide +kernel
theorem d_M_isIn_117 : decode c_M_isIn 117 = .ok (.lmul, 1) := by decide +kernel
theorem d_M_isIn_118 : decode c_M_isIn 118 = .ok (.ldc2_w 103, 3) := by decide +kernel
theorem d_M_isIn_121 : decode c_M_isIn 121 = .ok (.aload_n 0, 1) := by decide +kernel
theorem d_M_isIn_122 : decode c_M_isIn 122 = .ok (.getfield 7, 3) := by decide +kernel
theorem d_M_isIn_125 : decode c_M_isIn 125 = .ok (.iload 4, 2) := by decide +kernel
theorem d_M_isIn_127 : decode c_M_isIn 127 = .ok (.iconst 1, 1) := by decide +kernel
theorem d_M_isIn_128 : decode c_M_isIn 128 = .ok (.iadd, 1) := by decide +kernel
theorem d_M_isIn_129 : decode c_M_isIn 129 = .ok (.iaload, 1) := by decide +kernel
theorem d_M_isIn_130 : decode c_M_isIn 130 = .ok (.i2l, 1) := by decide +kernel
theorem d_M_isIn_131 : decode c_M_isIn 131 = .ok (.lmul, 1) := by decide +kernel
theorem d_M_isIn_132 : decode c_M_isIn 132 = .ok (.lsub, 1) := by decide +kernel
theorem d_M_isIn_133 : decode c_M_isIn 133 = .ok (.ldc2_w 103, 3) := by decide +kernel
theorem d_M_isIn_136 : decode c_M_isIn 136 = .ok (.iload_n 3, 1) := by decide +kernel
theorem d_M_isIn_137 : decode c_M_isIn 137 = .ok (.i2l, 1) := by decide +kernel
theorem d_M_isIn_138 : decode c_M_isIn 138 = .ok (.lmul, 1) := by decide +kernel
theorem d_M_isIn_139 : decode c_M_isIn 139 = .ok (.lconst 1, 1) := by decide +kernel
theorem d_M_isIn_140 : decode c_M_isIn 140 = .ok (.lsub, 1) := by decide +kernel
theorem d_M_isIn_141 : decode c_M_isIn 141 = .ok (.invokevirtual 112, 3) := by decide +kernel
theorem d_M_isIn_144 : decode c_M_isIn 144 = .ok (.ifCond .eq 7, 3) := by decide +kernel
theorem d_M_isIn_147 : decode c_M_isIn 147 = .ok (.iconst 1, 1) := by decide +kernel
theorem d_M_isIn_148 : decode c_M_isIn 148 = .ok (.goto 4, 3) := by decide +kernel
theorem d_M_isIn_151 : decode c_M_isIn 151 = .ok (.iconst 0, 1) := by decide +kernel
theorem d_M_isIn_152 : decode c_M_isIn 152 = .ok (.istore 5, 2) := by decide +kernel
theorem d_M_isIn_154 : decode c_M_isIn 154 = .ok (.aload_n 0, 1) := by decide +kernel
theorem d_M_isIn_155 : decode c_M_isIn 155 = .ok (.getfield 80, 3) := by decide +kernel
theorem d_M_isIn_158 : decode c_M_isIn 158 = .ok (.aload_n 0, 1) := by decide +kernel
theorem d_M_isIn_159 : decode c_M_isIn 159 = .ok (.getfield 84, 3) := by decide +kernel
theorem d_M_isIn_162 : decode c_M_isIn 162 = .ok (.aload_n 0, 1) := by decide +kernel
theorem d_M_isIn_163 : decode c_M_isIn 163 = .ok (.getfield 94, 3) := by decide +kernel
theorem d_M_isIn_166 : decode c_M_isIn 166 = .ok (.aload_n 0, 1) := by decide +kernel
theorem d_M_isIn_167 : decode c_M_isIn 167 = .ok (.getfield 97, 3) := by decide +kernel
theorem d_M_isIn_170 : decode c_M_isIn 170 = .ok (.invokestatic 87, 3) := by decide +kernel
theorem d_M_isIn_173 : decode c_M_isIn 173 = .ok (.istore 6, 2) := by decide +kernel
theorem d_M_isIn_175 : decode c_M_isIn 175 = .ok (.iload 5, 2) := by decide +kernel
theorem d_M_isIn_177 : decode c_M_isIn 177 = .ok (.ifCond .eq 31, 3) := by decide +kernel
theorem d_M_isIn_180 : decode c_M_isIn 180 = .ok (.iload 6, 2) := by decide +kernel
theorem d_M_isIn_182 : decode c_M_isIn 182 = .ok (.ifCond .lt 22, 3) := by decide +kernel
theorem d_M_isIn_185 : decode c_M_isIn 185 = .ok (.iload 6, 2) := by decide +kernel
theorem d_M_isIn_187 : decode c_M_isIn 187 = .ok (.ifCond .ne 21, 3) := by decide +kernel
theorem d_M_isIn_190 : decode c_M_isIn 190 = .ok (.aload_n 0, 1) := by decide +kernel
theorem d_M_isIn_191 : decode c_M_isIn 191 = .ok (.getfield 91, 3) := by decide +kernel
theorem d_M_isIn_194 : decode c_M_isIn 194 = .ok (.ifCond .eq 14, 3) := by decide +kernel
theorem d_M_isIn_197 : decode c_M_isIn 197 = .ok (.aload_n 0, 1) := by decide +kernel
theorem d_M_isIn_198 : decode c_M_isIn 198 = .ok (.getfield 100, 3) := by decide +kernel
theorem d_M_isIn_201 : decode c_M_isIn 201 = .ok (.ifCond .eq 7, 3) := by decide +kernel
theorem d_M_isIn_204 : decode c_M_isIn 204 = .ok (.iconst 1, 1) := by decide +kernel
theorem d_M_isIn_205 : decode c_M_isIn 205 = .ok (.goto 4, 3) := by decide +kernel
theorem d_M_isIn_208 : decode c_M_isIn 208 = .ok (.iconst 0, 1) := by decide +kernel
theorem d_M_isIn_209 : decode c_M_isIn 209 = .ok (.ireturn, 1) := by decide +kernel
abbrev IV : Type := (Int64 × Int64 × Int32) × (Int64 × Int64 × Int32)
noncomputable section
def ml_iv (a d low : Int64) (s : IV) : IV := if d = 0 then s else if 0 < d then (mr_up (low - a) d 1 s.1, mr_dn (low + 2 - a) d 0 s.2) else (mr_up (a - low - 2) (-d) 0 s.1, mr_dn (a - low) (-d) 1 s.2)
def ml_ok (a d low : Int64) : Prop := ¬ d = 0 ∨ (¬ a < low ∧ a < low + 2)
set_option maxHeartbeats 4000000 in
set_option maxRecDepth 100000 in
theorem k_M_along (l : Launch) (D : va_G) (E : ClassId × ClassId × ClassId × ClassId) (h0 sz : Nat) (ad : Nat → Nat) (th sg sn hot pc cx cy : Int32) (fo fv to tv : Int64) (fi ti : Int32) (a d low : Int64) : Met l y_M_along (.code y_M_along c_M_along 7 (some .boolean) :: gw) ({ frames := 2, cells := 0, slots := 0, locals := 90 } : Room) (wP D E [(h0, .inr (3, mF ad th sg sn hot pc cx cy fo fv to tv fi ti))] sz [.ref h0, .long a, .long d, .long low]) (va_Qi (fun (r : Int32) (u : Unit) => r = b01 (ml_ok a d low)) (wB D (fun _ => [(h0, .inr (3, mF ad th sg sn hot pc cx cy ((ml_iv a d low ((fo, fv, fi), (to, tv, ti))).1.1) ((ml_iv a d low ((fo, fv, fi), (to, tv, ti))).1.2.1) ((ml_iv a d low ((fo, fv, fi), (to, tv, ti))).2.1) ((ml_iv a d low ((fo, fv, fi), (to, tv, ti))).2.2.1) ((ml_iv a d low ((fo, fv, fi), (to, tv, ti))).1.2.2) ((ml_iv a d low ((fo, fv, fi), (to, tv, ti))).2.2.2)))]) (va_A [(h0, .inr (3, mF ad th sg sn hot pc cx cy fo fv to tv fi ti))] sz)) (va_A [(h0, .inr (3, mF ad th sg sn hot pc cx cy fo fv to tv fi ti))] sz)) 0 0 (va_A [(h0, .inr (3, mF ad th sg sn hot pc cx cy fo fv to tv fi ti))] sz) := by
  refine wr_ofW (Qc := fun A => (va_Qi (fun (r : Int32) (u : Unit) => r = b01 (ml_ok a d low)) (wB D (fun _ => [(h0, .inr (3, mF ad th sg sn hot pc cx cy ((ml_iv a d low ((fo, fv, fi), (to, tv, ti))).1.1) ((ml_iv a d low ((fo, fv, fi), (to, tv, ti))).1.2.1) ((ml_iv a d low ((fo, fv, fi), (to, tv, ti))).2.1) ((ml_iv a d low ((fo, fv, fi), (to, tv, ti))).2.2.1) ((ml_iv a d low ((fo, fv, fi), (to, tv, ti))).1.2.2) ((ml_iv a d low ((fo, fv, fi), (to, tv, ti))).2.2.2)))]) A) A)) (by decide) (Nat.le_of_ble_eq_true rfl) ?_
  intro p e s m below meth c B hP hK A hA hD hS ls hl
  obtain ⟨hx, hb, hrt, hml, hown, hts, hG, hlocks, hin⟩ := B
  have hl : lv_has ls 7 [(0, .ref h0), (1, .long a), (3, .long d), (5, .long low)] := hl
  refine lv_lload_n hx hb d_M_along_0 rfl (lv_at hl 2 rfl) ?_
  refine lv_lconst (v := 0) hx hb d_M_along_1 (by decide) ?_
  refine W.lcmp hx hb d_M_along_2 ?_
  refine lv_if_ne (tgt := 30) hx hb d_M_along_3 (by decide) (fun c1 => ?_) (fun c1 => ?_)
  · have d0 : ¬ d = 0 := fun h => c1 (lg_eq.mpr h)
    refine lv_lload_n hx hb d_M_along_30 rfl (lv_at hl 2 rfl) ?_
    refine lv_lconst (v := 0) hx hb d_M_along_31 (by decide) ?_
    refine W.lcmp hx hb d_M_along_32 ?_
    refine lv_if_le (tgt := 63) hx hb d_M_along_33 (by decide) (fun c2 => ?_) (fun c2 => ?_)
    · rw [show (ml_iv a d low ((fo, fv, fi), (to, tv, ti))) = (mr_up (a - low - 2) (-d) 0 (fo, fv, fi), mr_dn (a - low) (-d) 1 (to, tv, ti)) from by rw [ml_iv, if_neg d0, if_neg (lg_le.mp c2)]]
      refine lv_aload_n hx hb d_M_along_63 rfl (lv_at hl 0 rfl) ?_
      refine lv_lload_n hx hb d_M_along_64 rfl (lv_at hl 1 rfl) ?_
      refine lv_lload hx hb d_M_along_65 (lv_at hl 3 rfl) ?_
      refine lv_lsub hx hb d_M_along_67 ?_
      refine lv_ldc2 hx hb hown (hG _ wd_763) d_M_along_68 ?_
      refine lv_lsub hx hb d_M_along_71 ?_
      refine lv_lload_n hx hb d_M_along_72 rfl (lv_at hl 2 rfl) ?_
      refine lv_lneg hx hb d_M_along_73 ?_
      refine lv_iconst (v := 0) hx hb d_M_along_74 (by decide) ?_
      have hPc := hP.sub (ws' := [(h0, .inr (3, mF ad th sg sn hot pc cx cy fo fv to tv fi ti))]) [0] rfl
      have hDc := hD.sub (ws' := [(h0, .inr (3, mF ad th sg sn hot pc cx cy fo fv to tv fi ti))]) [0] (by decide) rfl
      have hFc := va_free (wc := [(h0, .inr (3, mF ad th sg sn hot pc cx cy fo fv to tv fi ti))]) hD hS hA [0] rfl
      refine va_callv (va_runV (As := [.long ((a - low) - 2), .long (-d), .int 0]) (rest := []) ⟨hx, hb, hml, hown, hts⟩ (k_M_raise l D E h0 s.heap.size ad th sg sn hot pc cx cy fo fv to tv fi ti (a - low - 2) (-d) 0) (cwV 3 hts (gw_gv wd_768 wd_770 wd_26 wd_42 wd_771) rfl rfl rfl (by decide +kernel) ⟨Nat.le_of_ble_eq_true rfl, Nat.le_of_ble_eq_true rfl⟩) (wP_V 0 hPc hK hDc rfl rfl) rfl rfl hl.1 rfl (lv_room (Nat.le_of_ble_eq_true rfl)) d_M_along_75 ⟨Nat.le_of_ble_eq_true rfl, Nat.le_of_ble_eq_true rfl⟩) hS (fun q _ h => hFc q h) hFc (fun u t H1 locs ht hvm hw hB hz1 hk1 hS => ?_)
      obtain ⟨hP1, hD1⟩ := hB
      rw [ht] at hP1
      obtain ⟨hP, hD⟩ := va_join (wr := []) (w1 := [(h0, .inr (3, mF ad th sg sn hot pc cx cy ((mr_up (a - low - 2) (-d) 0 (fo, fv, fi)).1) ((mr_up (a - low - 2) (-d) 0 (fo, fv, fi)).2.1) to tv ((mr_up (a - low - 2) (-d) 0 (fo, fv, fi)).2.2) ti))]) hP hD [0] [] rfl rfl (by decide) (by decide) hk1 hFc hP1 hD1
      generalize H1 = H at hP hS ⊢
      have hP : va_P D vwC [(h0, .inr (3, mF ad th sg sn hot pc cx cy ((mr_up (a - low - 2) (-d) 0 (fo, fv, fi)).1) ((mr_up (a - low - 2) (-d) 0 (fo, fv, fi)).2.1) to tv ((mr_up (a - low - 2) (-d) 0 (fo, fv, fi)).2.2) ti))] H := hP
      have hD : va_D A [(h0, .inr (3, mF ad th sg sn hot pc cx cy ((mr_up (a - low - 2) (-d) 0 (fo, fv, fi)).1) ((mr_up (a - low - 2) (-d) 0 (fo, fv, fi)).2.1) to tv ((mr_up (a - low - 2) (-d) 0 (fo, fv, fi)).2.2) ti))] := hD
      refine lv_aload_n hx hb d_M_along_78 rfl (lv_at hl 0 rfl) ?_
      refine lv_lload_n hx hb d_M_along_79 rfl (lv_at hl 1 rfl) ?_
      refine lv_lload hx hb d_M_along_80 (lv_at hl 3 rfl) ?_
      refine lv_lsub hx hb d_M_along_82 ?_
      refine lv_lload_n hx hb d_M_along_83 rfl (lv_at hl 2 rfl) ?_
      refine lv_lneg hx hb d_M_along_84 ?_
      refine lv_iconst (v := 1) hx hb d_M_along_85 (by decide) ?_
      have hPc := hP.sub (ws' := [(h0, .inr (3, mF ad th sg sn hot pc cx cy ((mr_up (a - low - 2) (-d) 0 (fo, fv, fi)).1) ((mr_up (a - low - 2) (-d) 0 (fo, fv, fi)).2.1) to tv ((mr_up (a - low - 2) (-d) 0 (fo, fv, fi)).2.2) ti))]) [0] rfl
      have hDc := hD.sub (ws' := [(h0, .inr (3, mF ad th sg sn hot pc cx cy ((mr_up (a - low - 2) (-d) 0 (fo, fv, fi)).1) ((mr_up (a - low - 2) (-d) 0 (fo, fv, fi)).2.1) to tv ((mr_up (a - low - 2) (-d) 0 (fo, fv, fi)).2.2) ti))]) [0] (by decide) rfl
      have hFc := va_free (wc := [(h0, .inr (3, mF ad th sg sn hot pc cx cy ((mr_up (a - low - 2) (-d) 0 (fo, fv, fi)).1) ((mr_up (a - low - 2) (-d) 0 (fo, fv, fi)).2.1) to tv ((mr_up (a - low - 2) (-d) 0 (fo, fv, fi)).2.2) ti))]) hD hS hA [0] rfl
      refine va_callv (va_runV (As := [.long (a - low), .long (-d), .int 1]) (rest := []) ⟨hx, hb, hml, hown, hts⟩ (k_M_reduce l D E h0 H.size ad th sg sn hot pc cx cy (mr_up (a - low - 2) (-d) 0 (fo, fv, fi)).1 (mr_up (a - low - 2) (-d) 0 (fo, fv, fi)).2.1 to tv (mr_up (a - low - 2) (-d) 0 (fo, fv, fi)).2.2 ti (a - low) (-d) 1) (cwV 3 hts (gw_gv wd_775 wd_777 wd_27 wd_42 wd_778) rfl rfl rfl (by decide +kernel) ⟨Nat.le_of_ble_eq_true rfl, Nat.le_of_ble_eq_true rfl⟩) (wP_V 0 hPc hK hDc rfl rfl) rfl rfl hl.1 rfl (lv_room (Nat.le_of_ble_eq_true rfl)) d_M_along_86 ⟨Nat.le_of_ble_eq_true rfl, Nat.le_of_ble_eq_true rfl⟩) hS (fun q _ h => hFc q h) hFc (fun u t H1 locs ht hvm hw hB hz1 hk1 hS => ?_)
      obtain ⟨hP1, hD1⟩ := hB
      rw [ht] at hP1
      obtain ⟨hP, hD⟩ := va_join (wr := []) (w1 := [(h0, .inr (3, mF ad th sg sn hot pc cx cy ((mr_up (a - low - 2) (-d) 0 (fo, fv, fi)).1) ((mr_up (a - low - 2) (-d) 0 (fo, fv, fi)).2.1) ((mr_dn (a - low) (-d) 1 (to, tv, ti)).1) ((mr_dn (a - low) (-d) 1 (to, tv, ti)).2.1) ((mr_up (a - low - 2) (-d) 0 (fo, fv, fi)).2.2) ((mr_dn (a - low) (-d) 1 (to, tv, ti)).2.2)))]) hP hD [0] [] rfl rfl (by decide) (by decide) hk1 hFc hP1 hD1
      generalize H1 = H at hP hS ⊢
      have hP : va_P D vwC [(h0, .inr (3, mF ad th sg sn hot pc cx cy ((mr_up (a - low - 2) (-d) 0 (fo, fv, fi)).1) ((mr_up (a - low - 2) (-d) 0 (fo, fv, fi)).2.1) ((mr_dn (a - low) (-d) 1 (to, tv, ti)).1) ((mr_dn (a - low) (-d) 1 (to, tv, ti)).2.1) ((mr_up (a - low - 2) (-d) 0 (fo, fv, fi)).2.2) ((mr_dn (a - low) (-d) 1 (to, tv, ti)).2.2)))] H := hP
      have hD : va_D A [(h0, .inr (3, mF ad th sg sn hot pc cx cy ((mr_up (a - low - 2) (-d) 0 (fo, fv, fi)).1) ((mr_up (a - low - 2) (-d) 0 (fo, fv, fi)).2.1) ((mr_dn (a - low) (-d) 1 (to, tv, ti)).1) ((mr_dn (a - low) (-d) 1 (to, tv, ti)).2.1) ((mr_up (a - low - 2) (-d) 0 (fo, fv, fi)).2.2) ((mr_dn (a - low) (-d) 1 (to, tv, ti)).2.2)))] := hD
      refine lv_iconst (v := 1) hx hb d_M_along_89 (by decide) ?_
      exact W.zret (v := 1) (ty := .boolean) hx hb hrt rfl (fun t ht hW => ⟨⟨1, (), rfl, (b01_t (p := ml_ok a d low) (Or.inl d0)).symm, ⟨by rw [ht]; exact hP, hD⟩⟩, hS.F ht⟩) hS.2.2 d_M_along_90 hlocks
    · rw [show (ml_iv a d low ((fo, fv, fi), (to, tv, ti))) = (mr_up (low - a) d 1 (fo, fv, fi), mr_dn (low + 2 - a) d 0 (to, tv, ti)) from by rw [ml_iv, if_neg d0, if_pos (lg_le' c2)]]
      refine lv_aload_n hx hb d_M_along_36 rfl (lv_at hl 0 rfl) ?_
      refine lv_lload hx hb d_M_along_37 (lv_at hl 3 rfl) ?_
      refine lv_lload_n hx hb d_M_along_39 rfl (lv_at hl 1 rfl) ?_
      refine lv_lsub hx hb d_M_along_40 ?_
      refine lv_lload_n hx hb d_M_along_41 rfl (lv_at hl 2 rfl) ?_
      refine lv_iconst (v := 1) hx hb d_M_along_42 (by decide) ?_
      have hPc := hP.sub (ws' := [(h0, .inr (3, mF ad th sg sn hot pc cx cy fo fv to tv fi ti))]) [0] rfl
      have hDc := hD.sub (ws' := [(h0, .inr (3, mF ad th sg sn hot pc cx cy fo fv to tv fi ti))]) [0] (by decide) rfl
      have hFc := va_free (wc := [(h0, .inr (3, mF ad th sg sn hot pc cx cy fo fv to tv fi ti))]) hD hS hA [0] rfl
      refine va_callv (va_runV (As := [.long (low - a), .long d, .int 1]) (rest := []) ⟨hx, hb, hml, hown, hts⟩ (k_M_raise l D E h0 s.heap.size ad th sg sn hot pc cx cy fo fv to tv fi ti (low - a) d 1) (cwV 3 hts (gw_gv wd_768 wd_770 wd_26 wd_42 wd_771) rfl rfl rfl (by decide +kernel) ⟨Nat.le_of_ble_eq_true rfl, Nat.le_of_ble_eq_true rfl⟩) (wP_V 0 hPc hK hDc rfl rfl) rfl rfl hl.1 rfl (lv_room (Nat.le_of_ble_eq_true rfl)) d_M_along_43 ⟨Nat.le_of_ble_eq_true rfl, Nat.le_of_ble_eq_true rfl⟩) hS (fun q _ h => hFc q h) hFc (fun u t H1 locs ht hvm hw hB hz1 hk1 hS => ?_)
      obtain ⟨hP1, hD1⟩ := hB
      rw [ht] at hP1
      obtain ⟨hP, hD⟩ := va_join (wr := []) (w1 := [(h0, .inr (3, mF ad th sg sn hot pc cx cy ((mr_up (low - a) d 1 (fo, fv, fi)).1) ((mr_up (low - a) d 1 (fo, fv, fi)).2.1) to tv ((mr_up (low - a) d 1 (fo, fv, fi)).2.2) ti))]) hP hD [0] [] rfl rfl (by decide) (by decide) hk1 hFc hP1 hD1
      generalize H1 = H at hP hS ⊢
      have hP : va_P D vwC [(h0, .inr (3, mF ad th sg sn hot pc cx cy ((mr_up (low - a) d 1 (fo, fv, fi)).1) ((mr_up (low - a) d 1 (fo, fv, fi)).2.1) to tv ((mr_up (low - a) d 1 (fo, fv, fi)).2.2) ti))] H := hP
      have hD : va_D A [(h0, .inr (3, mF ad th sg sn hot pc cx cy ((mr_up (low - a) d 1 (fo, fv, fi)).1) ((mr_up (low - a) d 1 (fo, fv, fi)).2.1) to tv ((mr_up (low - a) d 1 (fo, fv, fi)).2.2) ti))] := hD
      refine lv_aload_n hx hb d_M_along_46 rfl (lv_at hl 0 rfl) ?_
      refine lv_lload hx hb d_M_along_47 (lv_at hl 3 rfl) ?_
      refine lv_ldc2 hx hb hown (hG _ wd_763) d_M_along_49 ?_
      refine lv_ladd hx hb d_M_along_52 ?_
      refine lv_lload_n hx hb d_M_along_53 rfl (lv_at hl 1 rfl) ?_
      refine lv_lsub hx hb d_M_along_54 ?_
      refine lv_lload_n hx hb d_M_along_55 rfl (lv_at hl 2 rfl) ?_
      refine lv_iconst (v := 0) hx hb d_M_along_56 (by decide) ?_
      have hPc := hP.sub (ws' := [(h0, .inr (3, mF ad th sg sn hot pc cx cy ((mr_up (low - a) d 1 (fo, fv, fi)).1) ((mr_up (low - a) d 1 (fo, fv, fi)).2.1) to tv ((mr_up (low - a) d 1 (fo, fv, fi)).2.2) ti))]) [0] rfl
      have hDc := hD.sub (ws' := [(h0, .inr (3, mF ad th sg sn hot pc cx cy ((mr_up (low - a) d 1 (fo, fv, fi)).1) ((mr_up (low - a) d 1 (fo, fv, fi)).2.1) to tv ((mr_up (low - a) d 1 (fo, fv, fi)).2.2) ti))]) [0] (by decide) rfl
      have hFc := va_free (wc := [(h0, .inr (3, mF ad th sg sn hot pc cx cy ((mr_up (low - a) d 1 (fo, fv, fi)).1) ((mr_up (low - a) d 1 (fo, fv, fi)).2.1) to tv ((mr_up (low - a) d 1 (fo, fv, fi)).2.2) ti))]) hD hS hA [0] rfl
      refine va_callv (va_runV (As := [.long ((low + 2) - a), .long d, .int 0]) (rest := []) ⟨hx, hb, hml, hown, hts⟩ (k_M_reduce l D E h0 H.size ad th sg sn hot pc cx cy (mr_up (low - a) d 1 (fo, fv, fi)).1 (mr_up (low - a) d 1 (fo, fv, fi)).2.1 to tv (mr_up (low - a) d 1 (fo, fv, fi)).2.2 ti (low + 2 - a) d 0) (cwV 3 hts (gw_gv wd_775 wd_777 wd_27 wd_42 wd_778) rfl rfl rfl (by decide +kernel) ⟨Nat.le_of_ble_eq_true rfl, Nat.le_of_ble_eq_true rfl⟩) (wP_V 0 hPc hK hDc rfl rfl) rfl rfl hl.1 rfl (lv_room (Nat.le_of_ble_eq_true rfl)) d_M_along_57 ⟨Nat.le_of_ble_eq_true rfl, Nat.le_of_ble_eq_true rfl⟩) hS (fun q _ h => hFc q h) hFc (fun u t H1 locs ht hvm hw hB hz1 hk1 hS => ?_)
      obtain ⟨hP1, hD1⟩ := hB
      rw [ht] at hP1
      obtain ⟨hP, hD⟩ := va_join (wr := []) (w1 := [(h0, .inr (3, mF ad th sg sn hot pc cx cy ((mr_up (low - a) d 1 (fo, fv, fi)).1) ((mr_up (low - a) d 1 (fo, fv, fi)).2.1) ((mr_dn (low + 2 - a) d 0 (to, tv, ti)).1) ((mr_dn (low + 2 - a) d 0 (to, tv, ti)).2.1) ((mr_up (low - a) d 1 (fo, fv, fi)).2.2) ((mr_dn (low + 2 - a) d 0 (to, tv, ti)).2.2)))]) hP hD [0] [] rfl rfl (by decide) (by decide) hk1 hFc hP1 hD1
      generalize H1 = H at hP hS ⊢
      have hP : va_P D vwC [(h0, .inr (3, mF ad th sg sn hot pc cx cy ((mr_up (low - a) d 1 (fo, fv, fi)).1) ((mr_up (low - a) d 1 (fo, fv, fi)).2.1) ((mr_dn (low + 2 - a) d 0 (to, tv, ti)).1) ((mr_dn (low + 2 - a) d 0 (to, tv, ti)).2.1) ((mr_up (low - a) d 1 (fo, fv, fi)).2.2) ((mr_dn (low + 2 - a) d 0 (to, tv, ti)).2.2)))] H := hP
      have hD : va_D A [(h0, .inr (3, mF ad th sg sn hot pc cx cy ((mr_up (low - a) d 1 (fo, fv, fi)).1) ((mr_up (low - a) d 1 (fo, fv, fi)).2.1) ((mr_dn (low + 2 - a) d 0 (to, tv, ti)).1) ((mr_dn (low + 2 - a) d 0 (to, tv, ti)).2.1) ((mr_up (low - a) d 1 (fo, fv, fi)).2.2) ((mr_dn (low + 2 - a) d 0 (to, tv, ti)).2.2)))] := hD
      refine lv_goto (tgt := 89) hx hb d_M_along_60 (by decide) ?_
      refine lv_iconst (v := 1) hx hb d_M_along_89 (by decide) ?_
      exact W.zret (v := 1) (ty := .boolean) hx hb hrt rfl (fun t ht hW => ⟨⟨1, (), rfl, (b01_t (p := ml_ok a d low) (Or.inl d0)).symm, ⟨by rw [ht]; exact hP, hD⟩⟩, hS.F ht⟩) hS.2.2 d_M_along_90 hlocks
  · have d0 : d = 0 := lg_eq.mp c1
    rw [show (ml_iv a d low ((fo, fv, fi), (to, tv, ti))) = ((fo, fv, fi), (to, tv, ti)) from by rw [ml_iv, if_pos d0]]
    refine lv_lload_n hx hb d_M_along_6 rfl (lv_at hl 1 rfl) ?_
    refine lv_lload hx hb d_M_along_7 (lv_at hl 3 rfl) ?_
    refine W.lcmp hx hb d_M_along_9 ?_
    refine lv_if_lt (tgt := 28) hx hb d_M_along_10 (by decide) (fun c2 => ?_) (fun c2 => ?_)
    · refine lv_iconst (v := 0) hx hb d_M_along_28 (by decide) ?_
      exact W.zret (v := 0) (ty := .boolean) hx hb hrt rfl (fun t ht hW => ⟨⟨0, (), rfl, by rw [b01_f]; intro h; exact h.elim (fun g => g d0) (fun g => g.1 (lg_lt.mp c2)), ⟨by rw [ht]; exact hP, hD⟩⟩, hS.F ht⟩) hS.2.2 d_M_along_29 hlocks
    · refine lv_lload_n hx hb d_M_along_13 rfl (lv_at hl 1 rfl) ?_
      refine lv_lload hx hb d_M_along_14 (lv_at hl 3 rfl) ?_
      refine lv_ldc2 hx hb hown (hG _ wd_763) d_M_along_16 ?_
      refine lv_ladd hx hb d_M_along_19 ?_
      refine W.lcmp hx hb d_M_along_20 ?_
      refine lv_if_ge (tgt := 28) hx hb d_M_along_21 (by decide) (fun c3 => ?_) (fun c3 => ?_)
      · refine lv_iconst (v := 0) hx hb d_M_along_28 (by decide) ?_
        exact W.zret (v := 0) (ty := .boolean) hx hb hrt rfl (fun t ht hW => ⟨⟨0, (), rfl, by rw [b01_f]; intro h; exact h.elim (fun g => g d0) (fun g => lg_ge.mp c3 g.2), ⟨by rw [ht]; exact hP, hD⟩⟩, hS.F ht⟩) hS.2.2 d_M_along_29 hlocks
      · refine lv_iconst (v := 1) hx hb d_M_along_24 (by decide) ?_
        refine lv_goto (tgt := 29) hx hb d_M_along_25 (by decide) ?_
        exact W.zret (v := 1) (ty := .boolean) hx hb hrt rfl (fun t ht hW => ⟨⟨1, (), rfl, (b01_t (p := ml_ok a d low) (Or.inr ⟨fun h => c2 (lg_lt.mpr h), lg_ge' c3⟩)).symm, ⟨by rw [ht]; exact hP, hD⟩⟩, hS.F ht⟩) hS.2.2 d_M_along_29 hlocks
/-- the k-th segment of the reference -/
def mq (e : Nat → Int32) (k : Nat) : SQ := (e (4 * k), e (4 * k + 1), e (4 * k + 2), e (4 * k + 3))
def mi_1 (q : SQ) (x : Int32) : IV := ml_iv (2 * sx q) (2 * su q - 2 * sx q) (2 * Int32.toInt64 x - 1) ((0, 1, 1), (1, 1, 1))
def mi_ok1 (q : SQ) (x : Int32) : Prop := ml_ok (2 * sx q) (2 * su q - 2 * sx q) (2 * Int32.toInt64 x - 1)
def mi_ok2 (q : SQ) (y : Int32) : Prop := ml_ok (2 * sy q) (2 * sv q - 2 * sy q) (2 * Int32.toInt64 y - 1)
def mi_2 (q : SQ) (x y : Int32) : IV := ml_iv (2 * sy q) (2 * sv q - 2 * sy q) (2 * Int32.toInt64 y - 1) (mi_1 q x)
def mi_iv (q : SQ) (x y : Int32) : IV := @ite _ (mi_ok1 q x) (Classical.propDecidable _) (mi_2 q x y) (mi_1 q x)
def mv_c (v : IV) : Int32 := mr_cmp v.1.1 v.1.2.1 v.2.1 v.2.2.1
def mi_in (q : SQ) (x y : Int32) : Prop := (mi_ok1 q x ∧ mi_ok2 q y) ∧ (mv_c (mi_iv q x y) < 0 ∨ (mv_c (mi_iv q x y) = 0 ∧ ¬ (mi_iv q x y).1.2.2 = 0 ∧ ¬ (mi_iv q x y).2.2.2 = 0))
theorem mi_iv_t {q : SQ} {x y : Int32} (h : mi_ok1 q x) : mi_iv q x y = mi_2 q x y := @if_pos _ (Classical.propDecidable _) h _ _ _
theorem mi_iv_f {q : SQ} {x y : Int32} (h : ¬ mi_ok1 q x) : mi_iv q x y = mi_1 q x := @if_neg _ (Classical.propDecidable _) h _ _ _
set_option maxHeartbeats 4000000 in
set_option maxRecDepth 100000 in
theorem k_M_isIn (l : Launch) (D : va_G) (E : ClassId × ClassId × ClassId × ClassId) (h0 sz : Nat) (ad : Nat → Nat) (th sg sn hot pc cx cy : Int32) (fo fv to tv : Int64) (fi ti : Int32) (e9 : Nat → Int32) (k : Nat) (x y : Int32) (hk : 4 * k + 3 < 8192) : Met l y_M_isIn (.code y_M_isIn c_M_isIn 7 (some .boolean) :: gw) ({ frames := 3, cells := 0, slots := 0, locals := 130 } : Room) (wP D E [(h0, .inr (3, mF ad th sg sn hot pc cx cy fo fv to tv fi ti)), ((ad 0), .inl (E.2.1, 8192, .inl e9))] sz [.ref h0, .int (nI k), .int x, .int y]) (va_Qi (fun (r : Int32) (u : Unit) => r = b01 (mi_in (mq e9 k) x y)) (wB D (fun _ => [(h0, .inr (3, mF ad th sg sn hot pc cx cy ((mi_iv (mq e9 k) x y).1.1) ((mi_iv (mq e9 k) x y).1.2.1) ((mi_iv (mq e9 k) x y).2.1) ((mi_iv (mq e9 k) x y).2.2.1) ((mi_iv (mq e9 k) x y).1.2.2) ((mi_iv (mq e9 k) x y).2.2.2))), ((ad 0), .inl (E.2.1, 8192, .inl e9))]) (va_A [(h0, .inr (3, mF ad th sg sn hot pc cx cy fo fv to tv fi ti)), ((ad 0), .inl (E.2.1, 8192, .inl e9))] sz)) (va_A [(h0, .inr (3, mF ad th sg sn hot pc cx cy fo fv to tv fi ti)), ((ad 0), .inl (E.2.1, 8192, .inl e9))] sz)) 0 0 (va_A [(h0, .inr (3, mF ad th sg sn hot pc cx cy fo fv to tv fi ti)), ((ad 0), .inl (E.2.1, 8192, .inl e9))] sz) := by
  refine wr_ofW (Qc := fun A => (va_Qi (fun (r : Int32) (u : Unit) => r = b01 (mi_in (mq e9 k) x y)) (wB D (fun _ => [(h0, .inr (3, mF ad th sg sn hot pc cx cy ((mi_iv (mq e9 k) x y).1.1) ((mi_iv (mq e9 k) x y).1.2.1) ((mi_iv (mq e9 k) x y).2.1) ((mi_iv (mq e9 k) x y).2.2.1) ((mi_iv (mq e9 k) x y).1.2.2) ((mi_iv (mq e9 k) x y).2.2.2))), ((ad 0), .inl (E.2.1, 8192, .inl e9))]) A) A)) (by decide) (Nat.le_of_ble_eq_true rfl) ?_
  intro p e s m below meth c B hP hK A hA hD hS ls hl
  obtain ⟨hx, hb, hrt, hml, hown, hts, hG, hlocks, hin⟩ := B
  have hl : lv_has ls 7 [(0, .ref h0), (1, .int (nI k)), (2, .int x), (3, .int y)] := hl
  obtain ⟨q, hq⟩ : ∃ q, q = mq e9 k := ⟨_, rfl⟩
  rw [← hq]
  have g0 : e9 (4 * k) = q.1 := by rw [hq]; rfl
  have g1 : e9 (4 * k + 1) = q.2.1 := by rw [hq]; rfl
  have g2 : e9 (4 * k + 2) = q.2.2.1 := by rw [hq]; rfl
  have g3 : e9 (4 * k + 3) = q.2.2.2 := by rw [hq]; rfl
  refine lv_iconst (v := 4) hx hb d_M_isIn_0 (by decide) ?_
  refine lv_iload_n hx hb d_M_isIn_1 rfl (lv_at hl 1 rfl) ?_
  refine lv_imul hx hb d_M_isIn_2 ?_
  rw [show (4 * nI k) = nI (4 * k) from pk_mul 4 k]
  refine lv_istore (lv' := [(4, .int (nI (4 * k))), (0, .ref h0), (1, .int (nI k)), (2, .int x), (3, .int y)]) hx hb d_M_isIn_3 hl (by decide) rfl (fun ls hl => ?_)
  refine lv_aload_n hx hb d_M_isIn_5 rfl (lv_at hl 1 rfl) ?_
  refine lv_lconst (v := 0) hx hb d_M_isIn_6 (by decide) ?_
  refine va_put (D := D) (ci := 3) (v := .long 0) (ty := .long) (C := K_M) (T := F_M) (N := 24) hx hb hG in_M t_M t_M_ok n_M hown hK.1 hP hD hS 0 rfl rfl 15 (by decide) (hG _ wd_663) (fun _ h9 => h9) rfl (by decide +kernel) rfl rfl (Nat.le_of_ble_eq_true rfl) d_M_isIn_7 (fun H locs hP hD hS => ?_)
  have hP : va_P D vwC [(h0, .inr (3, mF ad th sg sn hot pc cx cy 0 fv to tv fi ti)), ((ad 0), .inl (E.2.1, 8192, .inl e9))] H := hP
  have hD : va_D A [(h0, .inr (3, mF ad th sg sn hot pc cx cy 0 fv to tv fi ti)), ((ad 0), .inl (E.2.1, 8192, .inl e9))] := hD
  refine lv_aload_n hx hb d_M_isIn_10 rfl (lv_at hl 1 rfl) ?_
  refine lv_lconst (v := 1) hx hb d_M_isIn_11 (by decide) ?_
  refine va_put (D := D) (ci := 3) (v := .long 1) (ty := .long) (C := K_M) (T := F_M) (N := 24) hx hb hG in_M t_M t_M_ok n_M hown hK.1 hP hD hS 0 rfl rfl 16 (by decide) (hG _ wd_664) (fun _ h9 => h9) rfl (by decide +kernel) rfl rfl (Nat.le_of_ble_eq_true rfl) d_M_isIn_12 (fun H locs hP hD hS => ?_)
  have hP : va_P D vwC [(h0, .inr (3, mF ad th sg sn hot pc cx cy 0 1 to tv fi ti)), ((ad 0), .inl (E.2.1, 8192, .inl e9))] H := hP
  have hD : va_D A [(h0, .inr (3, mF ad th sg sn hot pc cx cy 0 1 to tv fi ti)), ((ad 0), .inl (E.2.1, 8192, .inl e9))] := hD
  refine lv_aload_n hx hb d_M_isIn_15 rfl (lv_at hl 1 rfl) ?_
  refine lv_iconst (v := 1) hx hb d_M_isIn_16 (by decide) ?_
  refine va_put (D := D) (ci := 3) (v := .int 1) (ty := .boolean) (C := K_M) (T := F_M) (N := 24) hx hb hG in_M t_M t_M_ok n_M hown hK.1 hP hD hS 0 rfl rfl 19 (by decide) (hG _ wd_667) (fun _ h9 => h9) rfl (by decide +kernel) rfl rfl (Nat.le_of_ble_eq_true rfl) d_M_isIn_17 (fun H locs hP hD hS => ?_)
  have hP : va_P D vwC [(h0, .inr (3, mF ad th sg sn hot pc cx cy 0 1 to tv 1 ti)), ((ad 0), .inl (E.2.1, 8192, .inl e9))] H := hP
  have hD : va_D A [(h0, .inr (3, mF ad th sg sn hot pc cx cy 0 1 to tv 1 ti)), ((ad 0), .inl (E.2.1, 8192, .inl e9))] := hD
  refine lv_aload_n hx hb d_M_isIn_20 rfl (lv_at hl 1 rfl) ?_
  refine lv_lconst (v := 1) hx hb d_M_isIn_21 (by decide) ?_
  refine va_put (D := D) (ci := 3) (v := .long 1) (ty := .long) (C := K_M) (T := F_M) (N := 24) hx hb hG in_M t_M t_M_ok n_M hown hK.1 hP hD hS 0 rfl rfl 17 (by decide) (hG _ wd_665) (fun _ h9 => h9) rfl (by decide +kernel) rfl rfl (Nat.le_of_ble_eq_true rfl) d_M_isIn_22 (fun H locs hP hD hS => ?_)
  have hP : va_P D vwC [(h0, .inr (3, mF ad th sg sn hot pc cx cy 0 1 1 tv 1 ti)), ((ad 0), .inl (E.2.1, 8192, .inl e9))] H := hP
  have hD : va_D A [(h0, .inr (3, mF ad th sg sn hot pc cx cy 0 1 1 tv 1 ti)), ((ad 0), .inl (E.2.1, 8192, .inl e9))] := hD
  refine lv_aload_n hx hb d_M_isIn_25 rfl (lv_at hl 1 rfl) ?_
  refine lv_lconst (v := 1) hx hb d_M_isIn_26 (by decide) ?_
  refine va_put (D := D) (ci := 3) (v := .long 1) (ty := .long) (C := K_M) (T := F_M) (N := 24) hx hb hG in_M t_M t_M_ok n_M hown hK.1 hP hD hS 0 rfl rfl 18 (by decide) (hG _ wd_666) (fun _ h9 => h9) rfl (by decide +kernel) rfl rfl (Nat.le_of_ble_eq_true rfl) d_M_isIn_27 (fun H locs hP hD hS => ?_)
  have hP : va_P D vwC [(h0, .inr (3, mF ad th sg sn hot pc cx cy 0 1 1 1 1 ti)), ((ad 0), .inl (E.2.1, 8192, .inl e9))] H := hP
  have hD : va_D A [(h0, .inr (3, mF ad th sg sn hot pc cx cy 0 1 1 1 1 ti)), ((ad 0), .inl (E.2.1, 8192, .inl e9))] := hD
  refine lv_aload_n hx hb d_M_isIn_30 rfl (lv_at hl 1 rfl) ?_
  refine lv_iconst (v := 1) hx hb d_M_isIn_31 (by decide) ?_
  refine va_put (D := D) (ci := 3) (v := .int 1) (ty := .boolean) (C := K_M) (T := F_M) (N := 24) hx hb hG in_M t_M t_M_ok n_M hown hK.1 hP hD hS 0 rfl rfl 20 (by decide) (hG _ wd_668) (fun _ h9 => h9) rfl (by decide +kernel) rfl rfl (Nat.le_of_ble_eq_true rfl) d_M_isIn_32 (fun H locs hP hD hS => ?_)
  have hP : va_P D vwC [(h0, .inr (3, mF ad th sg sn hot pc cx cy 0 1 1 1 1 1)), ((ad 0), .inl (E.2.1, 8192, .inl e9))] H := hP
  have hD : va_D A [(h0, .inr (3, mF ad th sg sn hot pc cx cy 0 1 1 1 1 1)), ((ad 0), .inl (E.2.1, 8192, .inl e9))] := hD
  refine lv_aload_n hx hb d_M_isIn_35 rfl (lv_at hl 1 rfl) ?_
  refine lv_ldc2 hx hb hown (hG _ wd_763) d_M_isIn_36 ?_
  refine lv_aload_n hx hb d_M_isIn_39 rfl (lv_at hl 1 rfl) ?_
  refine va_get (D := D) (ci := 3) (v := .ref (ad 0)) (C := K_M) (T := F_M) (N := 24) hx hb hG in_M hown hK.1 hP 0 rfl rfl 2 (by decide) (hG _ wd_650) (fun _ h9 => h9) rfl d_M_isIn_40 ?_
  refine lv_iload hx hb d_M_isIn_43 (lv_at hl 0 rfl) ?_
  refine va_iald hx hb hK.1 hP 1 1 rfl rfl (vp_in_nI (by omega) (by omega)) d_M_isIn_45 ?_
  rw [show e9 (Int32.toNatClampNeg (nI (4 * k))) = q.1 from by rw [nI_clamp (by omega)]; exact g0]
  refine lv_i2l hx hb d_M_isIn_46 rfl ?_
  rw [show (Int32.toInt64 q.1) = (sx q) from rfl]
  refine lv_lmul hx hb d_M_isIn_47 ?_
  refine lv_ldc2 hx hb hown (hG _ wd_763) d_M_isIn_48 ?_
  refine lv_aload_n hx hb d_M_isIn_51 rfl (lv_at hl 1 rfl) ?_
  refine va_get (D := D) (ci := 3) (v := .ref (ad 0)) (C := K_M) (T := F_M) (N := 24) hx hb hG in_M hown hK.1 hP 0 rfl rfl 2 (by decide) (hG _ wd_650) (fun _ h9 => h9) rfl d_M_isIn_52 ?_
  refine lv_iload hx hb d_M_isIn_55 (lv_at hl 0 rfl) ?_
  refine lv_iconst (v := 2) hx hb d_M_isIn_57 (by decide) ?_
  refine lv_iadd hx hb d_M_isIn_58 ?_
  rw [show (nI (4 * k) + 2) = nI (4 * k + 2) from nI_add _ 2]
  refine va_iald hx hb hK.1 hP 1 1 rfl rfl (vp_in_nI (by omega) (by omega)) d_M_isIn_59 ?_
  rw [show e9 (Int32.toNatClampNeg (nI (4 * k + 2))) = q.2.2.1 from by rw [nI_clamp (by omega)]; exact g2]
  refine lv_i2l hx hb d_M_isIn_60 rfl ?_
  rw [show (Int32.toInt64 q.2.2.1) = (su q) from rfl]
  refine lv_lmul hx hb d_M_isIn_61 ?_
  refine lv_ldc2 hx hb hown (hG _ wd_763) d_M_isIn_62 ?_
  refine lv_aload_n hx hb d_M_isIn_65 rfl (lv_at hl 1 rfl) ?_
  refine va_get (D := D) (ci := 3) (v := .ref (ad 0)) (C := K_M) (T := F_M) (N := 24) hx hb hG in_M hown hK.1 hP 0 rfl rfl 2 (by decide) (hG _ wd_650) (fun _ h9 => h9) rfl d_M_isIn_66 ?_
  refine lv_iload hx hb d_M_isIn_69 (lv_at hl 0 rfl) ?_
  refine va_iald hx hb hK.1 hP 1 1 rfl rfl (vp_in_nI (by omega) (by omega)) d_M_isIn_71 ?_
  rw [show e9 (Int32.toNatClampNeg (nI (4 * k))) = q.1 from by rw [nI_clamp (by omega)]; exact g0]
  refine lv_i2l hx hb d_M_isIn_72 rfl ?_
  rw [show (Int32.toInt64 q.1) = (sx q) from rfl]
  refine lv_lmul hx hb d_M_isIn_73 ?_
  refine lv_lsub hx hb d_M_isIn_74 ?_
  refine lv_ldc2 hx hb hown (hG _ wd_763) d_M_isIn_75 ?_
  refine lv_iload_n hx hb d_M_isIn_78 rfl (lv_at hl 3 rfl) ?_
  refine lv_i2l hx hb d_M_isIn_79 rfl ?_
  refine lv_lmul hx hb d_M_isIn_80 ?_
  refine lv_lconst (v := 1) hx hb d_M_isIn_81 (by decide) ?_
  refine lv_lsub hx hb d_M_isIn_82 ?_
  obtain ⟨iv1, h1⟩ : ∃ v, v = mi_1 q x := ⟨_, rfl⟩
  have hPc := hP.sub (ws' := [(h0, .inr (3, mF ad th sg sn hot pc cx cy 0 1 1 1 1 1))]) [0] rfl
  have hDc := hD.sub (ws' := [(h0, .inr (3, mF ad th sg sn hot pc cx cy 0 1 1 1 1 1))]) [0] (by decide) rfl
  have hFc := va_free (wc := [(h0, .inr (3, mF ad th sg sn hot pc cx cy 0 1 1 1 1 1))]) hD hS hA [0] rfl
  refine va_calli (va_runV (As := [.long (2 * (sx q)), .long ((2 * (su q)) - (2 * (sx q))), .long ((2 * (Int32.toInt64 x)) - 1)]) (rest := []) ⟨hx, hb, hml, hown, hts⟩ (k_M_along l D E h0 H.size ad th sg sn hot pc cx cy 0 1 1 1 1 1 (2 * sx q) (2 * su q - 2 * sx q) (2 * Int32.toInt64 x - 1)) (cwV 3 hts (gw_gv wd_764 wd_766 wd_25 wd_42 wd_767) rfl rfl rfl (by decide +kernel) ⟨Nat.le_of_ble_eq_true rfl, Nat.le_of_ble_eq_true rfl⟩) (wP_V 0 hPc hK hDc rfl rfl) rfl rfl hl.1 rfl (lv_room (Nat.le_of_ble_eq_true rfl)) d_M_isIn_83 ⟨Nat.le_of_ble_eq_true rfl, Nat.le_of_ble_eq_true rfl⟩) hS (fun q _ h => hFc q h) hFc (fun r1 u t H1 locs ht hvm hw hB hz1 hk1 hS => ?_)
  obtain ⟨hP1, hD1⟩ := hB
  rw [ht] at hP1
  rw [show ml_iv (2 * sx q) (2 * su q - 2 * sx q) (2 * Int32.toInt64 x - 1) ((0, 1, 1), (1, 1, 1)) = iv1 from h1.symm] at hP1 hD1
  obtain ⟨hP, hD⟩ := va_join (wr := [((ad 0), .inl (E.2.1, 8192, .inl e9))]) (w1 := [(h0, .inr (3, mF ad th sg sn hot pc cx cy iv1.1.1 iv1.1.2.1 iv1.2.1 iv1.2.2.1 iv1.1.2.2 iv1.2.2.2))]) hP hD [0] [1] rfl rfl (by decide) (by decide) hk1 hFc hP1 hD1
  generalize H1 = H at hP hS ⊢
  have hP : va_P D vwC [((ad 0), .inl (E.2.1, 8192, .inl e9)), (h0, .inr (3, mF ad th sg sn hot pc cx cy iv1.1.1 iv1.1.2.1 iv1.2.1 iv1.2.2.1 iv1.1.2.2 iv1.2.2.2))] H := hP
  have hD : va_D A [((ad 0), .inl (E.2.1, 8192, .inl e9)), (h0, .inr (3, mF ad th sg sn hot pc cx cy iv1.1.1 iv1.1.2.1 iv1.2.1 iv1.2.2.1 iv1.1.2.2 iv1.2.2.2))] := hD
  have hw1 : r1 = b01 (mi_ok1 q x) := hw
  have J : ∀ (b : Int32) (iv : IV) (H : Heap) (locs : List Loc) (ls : Array Slot), (b = b01 (mi_ok1 q x ∧ mi_ok2 q y)) → (iv = mi_iv q x y) → va_P D vwC [((ad 0), .inl (E.2.1, 8192, .inl e9)), (h0, .inr (3, mF ad th sg sn hot pc cx cy iv.1.1 iv.1.2.1 iv.2.1 iv.2.2.1 iv.1.2.2 iv.2.2.2))] H → va_D A [((ad 0), .inl (E.2.1, 8192, .inl e9)), (h0, .inr (3, mF ad th sg sn hot pc cx cy iv.1.1 iv.1.2.1 iv.2.1 iv.2.2.1 iv.1.2.2 iv.2.2.2))] → va_S A s.heap H locs → lv_has ls 7 [(0, .ref h0)] → W p l e ({ frames := 3, cells := 0, slots := 0, locals := 130 } : Room) s m ([.ref h0, .int (nI k), .int x, .int y] : List Value).toArray below meth c H locs 0 0 (MQ below (va_Qi (fun (r : Int32) (u : Unit) => r = b01 (mi_in q x y)) (wB D (fun _ => [(h0, .inr (3, mF ad th sg sn hot pc cx cy ((mi_iv q x y).1.1) ((mi_iv q x y).1.2.1) ((mi_iv q x y).2.1) ((mi_iv q x y).2.2.1) ((mi_iv q x y).1.2.2) ((mi_iv q x y).2.2.2))), ((ad 0), .inl (E.2.1, 8192, .inl e9))]) A) A) ([.ref h0, .int (nI k), .int x, .int y] : List Value).toArray s 0 0 A) (F0 m 152 ls [.int b]) := by
    intro b iv H locs ls hbb hiv hP hD hS hl
    refine lv_istore (lv' := [(5, .int b), (0, .ref h0)]) hx hb d_M_isIn_152 hl (by decide) rfl (fun ls hl => ?_)
    refine lv_aload_n hx hb d_M_isIn_154 rfl (lv_at hl 1 rfl) ?_
    refine va_get (D := D) (ci := 3) (v := .long iv.1.1) (C := K_M) (T := F_M) (N := 24) hx hb hG in_M hown hK.1 hP 1 rfl rfl 15 (by decide) (hG _ wd_663) (fun _ h9 => h9) rfl d_M_isIn_155 ?_
    refine lv_aload_n hx hb d_M_isIn_158 rfl (lv_at hl 1 rfl) ?_
    refine va_get (D := D) (ci := 3) (v := .long iv.1.2.1) (C := K_M) (T := F_M) (N := 24) hx hb hG in_M hown hK.1 hP 1 rfl rfl 16 (by decide) (hG _ wd_664) (fun _ h9 => h9) rfl d_M_isIn_159 ?_
    refine lv_aload_n hx hb d_M_isIn_162 rfl (lv_at hl 1 rfl) ?_
    refine va_get (D := D) (ci := 3) (v := .long iv.2.1) (C := K_M) (T := F_M) (N := 24) hx hb hG in_M hown hK.1 hP 1 rfl rfl 17 (by decide) (hG _ wd_665) (fun _ h9 => h9) rfl d_M_isIn_163 ?_
    refine lv_aload_n hx hb d_M_isIn_166 rfl (lv_at hl 1 rfl) ?_
    refine va_get (D := D) (ci := 3) (v := .long iv.2.2.1) (C := K_M) (T := F_M) (N := 24) hx hb hG in_M hown hK.1 hP 1 rfl rfl 18 (by decide) (hG _ wd_666) (fun _ h9 => h9) rfl d_M_isIn_167 ?_
    have hPc := hP.sub (ws' := []) [] rfl
    refine vp_callSi (W.runS (As := [.long iv.1.1, .long iv.1.2.1, .long iv.2.1, .long iv.2.2.1]) (rest := []) ⟨hx, hb, hml, hown, hts⟩ (k_M_compare l D E iv.1.1 iv.1.2.1 iv.2.1 iv.2.2.1) (va_cwS 4 hts (gw_gs wd_772 wd_773 wd_42 wd_774) rfl rfl rfl (by decide +kernel) ⟨Nat.le_of_ble_eq_true rfl, Nat.le_of_ble_eq_true rfl⟩) (rP_S hPc hK) rfl rfl hl.1 rfl (lv_room (Nat.le_of_ble_eq_true rfl)) d_M_isIn_170 ⟨Nat.le_of_ble_eq_true rfl, Nat.le_of_ble_eq_true rfl⟩) (fun cc hcc => ?_)
    have hc : cc = mv_c (mi_iv q x y) := by rw [hcc, mv_c, hiv]
    refine lv_istore (lv' := [(6, .int cc), (5, .int b), (0, .ref h0)]) hx hb d_M_isIn_173 hl (by decide) rfl (fun ls hl => ?_)
    refine lv_iload hx hb d_M_isIn_175 (lv_at hl 1 rfl) ?_
    refine lv_if_eq (tgt := 208) hx hb d_M_isIn_177 (by decide) (fun d1 => ?_) (fun d1 => ?_)
    · rw [hbb] at d1
      have hw9 : (0 : Int32) = b01 (mi_in q x y) := by rw [b01_f]; intro h; exact b01_0 d1 h.1
      have hP := hP.sub (ws' := [(h0, .inr (3, mF ad th sg sn hot pc cx cy iv.1.1 iv.1.2.1 iv.2.1 iv.2.2.1 iv.1.2.2 iv.2.2.2)), ((ad 0), .inl (E.2.1, 8192, .inl e9))]) [1, 0] rfl
      have hD := hD.sub (ws' := [(h0, .inr (3, mF ad th sg sn hot pc cx cy iv.1.1 iv.1.2.1 iv.2.1 iv.2.2.1 iv.1.2.2 iv.2.2.2)), ((ad 0), .inl (E.2.1, 8192, .inl e9))]) [1, 0] (by decide) rfl
      rw [hiv] at hP hD
      refine lv_iconst (v := 0) hx hb d_M_isIn_208 (by decide) ?_
      exact W.zret (v := 0) (ty := .boolean) hx hb hrt rfl (fun t ht hW => ⟨⟨0, (), rfl, hw9, ⟨by rw [ht]; exact hP, hD⟩⟩, hS.F ht⟩) hS.2.2 d_M_isIn_209 hlocks
    · rw [hbb] at d1
      refine lv_iload hx hb d_M_isIn_180 (lv_at hl 0 rfl) ?_
      refine lv_if_lt (tgt := 204) hx hb d_M_isIn_182 (by decide) (fun d2 => ?_) (fun d2 => ?_)
      · rw [hc] at d2
        have hw9 : (1 : Int32) = b01 (mi_in q x y) := by rw [b01_t ⟨b01_1 d1, Or.inl d2⟩]
        have hP := hP.sub (ws' := [(h0, .inr (3, mF ad th sg sn hot pc cx cy iv.1.1 iv.1.2.1 iv.2.1 iv.2.2.1 iv.1.2.2 iv.2.2.2)), ((ad 0), .inl (E.2.1, 8192, .inl e9))]) [1, 0] rfl
        have hD := hD.sub (ws' := [(h0, .inr (3, mF ad th sg sn hot pc cx cy iv.1.1 iv.1.2.1 iv.2.1 iv.2.2.1 iv.1.2.2 iv.2.2.2)), ((ad 0), .inl (E.2.1, 8192, .inl e9))]) [1, 0] (by decide) rfl
        rw [hiv] at hP hD
        refine lv_iconst (v := 1) hx hb d_M_isIn_204 (by decide) ?_
        refine lv_goto (tgt := 209) hx hb d_M_isIn_205 (by decide) ?_
        exact W.zret (v := 1) (ty := .boolean) hx hb hrt rfl (fun t ht hW => ⟨⟨1, (), rfl, hw9, ⟨by rw [ht]; exact hP, hD⟩⟩, hS.F ht⟩) hS.2.2 d_M_isIn_209 hlocks
      · rw [hc] at d2
        refine lv_iload hx hb d_M_isIn_185 (lv_at hl 0 rfl) ?_
        refine lv_if_ne (tgt := 208) hx hb d_M_isIn_187 (by decide) (fun d3 => ?_) (fun d3 => ?_)
        · rw [hc] at d3
          have hw9 : (0 : Int32) = b01 (mi_in q x y) := by rw [b01_f]; intro h; exact h.2.elim d2 (fun g => d3 g.1)
          have hP := hP.sub (ws' := [(h0, .inr (3, mF ad th sg sn hot pc cx cy iv.1.1 iv.1.2.1 iv.2.1 iv.2.2.1 iv.1.2.2 iv.2.2.2)), ((ad 0), .inl (E.2.1, 8192, .inl e9))]) [1, 0] rfl
          have hD := hD.sub (ws' := [(h0, .inr (3, mF ad th sg sn hot pc cx cy iv.1.1 iv.1.2.1 iv.2.1 iv.2.2.1 iv.1.2.2 iv.2.2.2)), ((ad 0), .inl (E.2.1, 8192, .inl e9))]) [1, 0] (by decide) rfl
          rw [hiv] at hP hD
          refine lv_iconst (v := 0) hx hb d_M_isIn_208 (by decide) ?_
          exact W.zret (v := 0) (ty := .boolean) hx hb hrt rfl (fun t ht hW => ⟨⟨0, (), rfl, hw9, ⟨by rw [ht]; exact hP, hD⟩⟩, hS.F ht⟩) hS.2.2 d_M_isIn_209 hlocks
        · rw [hc] at d3
          refine lv_aload_n hx hb d_M_isIn_190 rfl (lv_at hl 2 rfl) ?_
          refine va_get (D := D) (ci := 3) (v := .int iv.1.2.2) (C := K_M) (T := F_M) (N := 24) hx hb hG in_M hown hK.1 hP 1 rfl rfl 19 (by decide) (hG _ wd_667) (fun _ h9 => h9) rfl d_M_isIn_191 ?_
          refine lv_if_eq (tgt := 208) hx hb d_M_isIn_194 (by decide) (fun d4 => ?_) (fun d4 => ?_)
          · have hw9 : (0 : Int32) = b01 (mi_in q x y) := by rw [b01_f]; intro h; rw [hiv] at d4; exact h.2.elim d2 (fun g => g.2.1 d4)
            have hP := hP.sub (ws' := [(h0, .inr (3, mF ad th sg sn hot pc cx cy iv.1.1 iv.1.2.1 iv.2.1 iv.2.2.1 iv.1.2.2 iv.2.2.2)), ((ad 0), .inl (E.2.1, 8192, .inl e9))]) [1, 0] rfl
            have hD := hD.sub (ws' := [(h0, .inr (3, mF ad th sg sn hot pc cx cy iv.1.1 iv.1.2.1 iv.2.1 iv.2.2.1 iv.1.2.2 iv.2.2.2)), ((ad 0), .inl (E.2.1, 8192, .inl e9))]) [1, 0] (by decide) rfl
            rw [hiv] at hP hD
            refine lv_iconst (v := 0) hx hb d_M_isIn_208 (by decide) ?_
            exact W.zret (v := 0) (ty := .boolean) hx hb hrt rfl (fun t ht hW => ⟨⟨0, (), rfl, hw9, ⟨by rw [ht]; exact hP, hD⟩⟩, hS.F ht⟩) hS.2.2 d_M_isIn_209 hlocks
          · refine lv_aload_n hx hb d_M_isIn_197 rfl (lv_at hl 2 rfl) ?_
            refine va_get (D := D) (ci := 3) (v := .int iv.2.2.2) (C := K_M) (T := F_M) (N := 24) hx hb hG in_M hown hK.1 hP 1 rfl rfl 20 (by decide) (hG _ wd_668) (fun _ h9 => h9) rfl d_M_isIn_198 ?_
            refine lv_if_eq (tgt := 208) hx hb d_M_isIn_201 (by decide) (fun d5 => ?_) (fun d5 => ?_)
            · have hw9 : (0 : Int32) = b01 (mi_in q x y) := by rw [b01_f]; intro h; rw [hiv] at d5; exact h.2.elim d2 (fun g => g.2.2 d5)
              have hP := hP.sub (ws' := [(h0, .inr (3, mF ad th sg sn hot pc cx cy iv.1.1 iv.1.2.1 iv.2.1 iv.2.2.1 iv.1.2.2 iv.2.2.2)), ((ad 0), .inl (E.2.1, 8192, .inl e9))]) [1, 0] rfl
              have hD := hD.sub (ws' := [(h0, .inr (3, mF ad th sg sn hot pc cx cy iv.1.1 iv.1.2.1 iv.2.1 iv.2.2.1 iv.1.2.2 iv.2.2.2)), ((ad 0), .inl (E.2.1, 8192, .inl e9))]) [1, 0] (by decide) rfl
              rw [hiv] at hP hD
              refine lv_iconst (v := 0) hx hb d_M_isIn_208 (by decide) ?_
              exact W.zret (v := 0) (ty := .boolean) hx hb hrt rfl (fun t ht hW => ⟨⟨0, (), rfl, hw9, ⟨by rw [ht]; exact hP, hD⟩⟩, hS.F ht⟩) hS.2.2 d_M_isIn_209 hlocks
            · have hw9 : (1 : Int32) = b01 (mi_in q x y) := by rw [b01_t]; rw [hiv] at d4 d5; exact ⟨b01_1 d1, Or.inr ⟨d3, d4, d5⟩⟩
              have hP := hP.sub (ws' := [(h0, .inr (3, mF ad th sg sn hot pc cx cy iv.1.1 iv.1.2.1 iv.2.1 iv.2.2.1 iv.1.2.2 iv.2.2.2)), ((ad 0), .inl (E.2.1, 8192, .inl e9))]) [1, 0] rfl
              have hD := hD.sub (ws' := [(h0, .inr (3, mF ad th sg sn hot pc cx cy iv.1.1 iv.1.2.1 iv.2.1 iv.2.2.1 iv.1.2.2 iv.2.2.2)), ((ad 0), .inl (E.2.1, 8192, .inl e9))]) [1, 0] (by decide) rfl
              rw [hiv] at hP hD
              refine lv_iconst (v := 1) hx hb d_M_isIn_204 (by decide) ?_
              refine lv_goto (tgt := 209) hx hb d_M_isIn_205 (by decide) ?_
              exact W.zret (v := 1) (ty := .boolean) hx hb hrt rfl (fun t ht hW => ⟨⟨1, (), rfl, hw9, ⟨by rw [ht]; exact hP, hD⟩⟩, hS.F ht⟩) hS.2.2 d_M_isIn_209 hlocks
  refine lv_if_eq (tgt := 151) hx hb d_M_isIn_86 (by decide) (fun c1 => ?_) (fun c1 => ?_)
  · rw [hw1] at c1
    refine lv_iconst (v := 0) hx hb d_M_isIn_151 (by decide) ?_
    exact J 0 iv1 H locs ls (b01_f (fun h => b01_0 c1 h.1)).symm (by rw [mi_iv_f (b01_0 c1), h1]) hP hD hS (lv_sub hl [1] rfl)
  · rw [hw1] at c1
    have ok1 := b01_1 c1
    refine lv_aload_n hx hb d_M_isIn_89 rfl (lv_at hl 1 rfl) ?_
    refine lv_ldc2 hx hb hown (hG _ wd_763) d_M_isIn_90 ?_
    refine lv_aload_n hx hb d_M_isIn_93 rfl (lv_at hl 1 rfl) ?_
    refine va_get (D := D) (ci := 3) (v := .ref (ad 0)) (C := K_M) (T := F_M) (N := 24) hx hb hG in_M hown hK.1 hP 1 rfl rfl 2 (by decide) (hG _ wd_650) (fun _ h9 => h9) rfl d_M_isIn_94 ?_
    refine lv_iload hx hb d_M_isIn_97 (lv_at hl 0 rfl) ?_
    refine lv_iconst (v := 1) hx hb d_M_isIn_99 (by decide) ?_
    refine lv_iadd hx hb d_M_isIn_100 ?_
    rw [show (nI (4 * k) + 1) = nI (4 * k + 1) from nI_1 _]
    refine va_iald hx hb hK.1 hP 0 1 rfl rfl (vp_in_nI (by omega) (by omega)) d_M_isIn_101 ?_
    rw [show e9 (Int32.toNatClampNeg (nI (4 * k + 1))) = q.2.1 from by rw [nI_clamp (by omega)]; exact g1]
    refine lv_i2l hx hb d_M_isIn_102 rfl ?_
    rw [show (Int32.toInt64 q.2.1) = (sy q) from rfl]
    refine lv_lmul hx hb d_M_isIn_103 ?_
    refine lv_ldc2 hx hb hown (hG _ wd_763) d_M_isIn_104 ?_
    refine lv_aload_n hx hb d_M_isIn_107 rfl (lv_at hl 1 rfl) ?_
    refine va_get (D := D) (ci := 3) (v := .ref (ad 0)) (C := K_M) (T := F_M) (N := 24) hx hb hG in_M hown hK.1 hP 1 rfl rfl 2 (by decide) (hG _ wd_650) (fun _ h9 => h9) rfl d_M_isIn_108 ?_
    refine lv_iload hx hb d_M_isIn_111 (lv_at hl 0 rfl) ?_
    refine lv_iconst (v := 3) hx hb d_M_isIn_113 (by decide) ?_
    refine lv_iadd hx hb d_M_isIn_114 ?_
    rw [show (nI (4 * k) + 3) = nI (4 * k + 3) from nI_add _ 3]
    refine va_iald hx hb hK.1 hP 0 1 rfl rfl (vp_in_nI (by omega) (by omega)) d_M_isIn_115 ?_
    rw [show e9 (Int32.toNatClampNeg (nI (4 * k + 3))) = q.2.2.2 from by rw [nI_clamp (by omega)]; exact g3]
    refine lv_i2l hx hb d_M_isIn_116 rfl ?_
    rw [show (Int32.toInt64 q.2.2.2) = (sv q) from rfl]
    refine lv_lmul hx hb d_M_isIn_117 ?_
    refine lv_ldc2 hx hb hown (hG _ wd_763) d_M_isIn_118 ?_
    refine lv_aload_n hx hb d_M_isIn_121 rfl (lv_at hl 1 rfl) ?_
    refine va_get (D := D) (ci := 3) (v := .ref (ad 0)) (C := K_M) (T := F_M) (N := 24) hx hb hG in_M hown hK.1 hP 1 rfl rfl 2 (by decide) (hG _ wd_650) (fun _ h9 => h9) rfl d_M_isIn_122 ?_
    refine lv_iload hx hb d_M_isIn_125 (lv_at hl 0 rfl) ?_
    refine lv_iconst (v := 1) hx hb d_M_isIn_127 (by decide) ?_
    refine lv_iadd hx hb d_M_isIn_128 ?_
    rw [show (nI (4 * k) + 1) = nI (4 * k + 1) from nI_1 _]
    refine va_iald hx hb hK.1 hP 0 1 rfl rfl (vp_in_nI (by omega) (by omega)) d_M_isIn_129 ?_
    rw [show e9 (Int32.toNatClampNeg (nI (4 * k + 1))) = q.2.1 from by rw [nI_clamp (by omega)]; exact g1]
    refine lv_i2l hx hb d_M_isIn_130 rfl ?_
    rw [show (Int32.toInt64 q.2.1) = (sy q) from rfl]
    refine lv_lmul hx hb d_M_isIn_131 ?_
    refine lv_lsub hx hb d_M_isIn_132 ?_
    refine lv_ldc2 hx hb hown (hG _ wd_763) d_M_isIn_133 ?_
    refine lv_iload_n hx hb d_M_isIn_136 rfl (lv_at hl 4 rfl) ?_
    refine lv_i2l hx hb d_M_isIn_137 rfl ?_
    refine lv_lmul hx hb d_M_isIn_138 ?_
    refine lv_lconst (v := 1) hx hb d_M_isIn_139 (by decide) ?_
    refine lv_lsub hx hb d_M_isIn_140 ?_
    obtain ⟨iv2, h2⟩ : ∃ v, v = mi_2 q x y := ⟨_, rfl⟩
    have hPc := hP.sub (ws' := [(h0, .inr (3, mF ad th sg sn hot pc cx cy iv1.1.1 iv1.1.2.1 iv1.2.1 iv1.2.2.1 iv1.1.2.2 iv1.2.2.2))]) [1] rfl
    have hDc := hD.sub (ws' := [(h0, .inr (3, mF ad th sg sn hot pc cx cy iv1.1.1 iv1.1.2.1 iv1.2.1 iv1.2.2.1 iv1.1.2.2 iv1.2.2.2))]) [1] (by decide) rfl
    have hFc := va_free (wc := [(h0, .inr (3, mF ad th sg sn hot pc cx cy iv1.1.1 iv1.1.2.1 iv1.2.1 iv1.2.2.1 iv1.1.2.2 iv1.2.2.2))]) hD hS hA [1] rfl
    refine va_calli (va_runV (As := [.long (2 * (sy q)), .long ((2 * (sv q)) - (2 * (sy q))), .long ((2 * (Int32.toInt64 y)) - 1)]) (rest := []) ⟨hx, hb, hml, hown, hts⟩ (k_M_along l D E h0 H.size ad th sg sn hot pc cx cy iv1.1.1 iv1.1.2.1 iv1.2.1 iv1.2.2.1 iv1.1.2.2 iv1.2.2.2 (2 * sy q) (2 * sv q - 2 * sy q) (2 * Int32.toInt64 y - 1)) (cwV 3 hts (gw_gv wd_764 wd_766 wd_25 wd_42 wd_767) rfl rfl rfl (by decide +kernel) ⟨Nat.le_of_ble_eq_true rfl, Nat.le_of_ble_eq_true rfl⟩) (wP_V 0 hPc hK hDc rfl rfl) rfl rfl hl.1 rfl (lv_room (Nat.le_of_ble_eq_true rfl)) d_M_isIn_141 ⟨Nat.le_of_ble_eq_true rfl, Nat.le_of_ble_eq_true rfl⟩) hS (fun q _ h => hFc q h) hFc (fun r2 u t H1 locs ht hvm hw hB hz1 hk1 hS => ?_)
    obtain ⟨hP1, hD1⟩ := hB
    rw [ht] at hP1
    rw [show ml_iv (2 * sy q) (2 * sv q - 2 * sy q) (2 * Int32.toInt64 y - 1) ((iv1.1.1, iv1.1.2.1, iv1.1.2.2), (iv1.2.1, iv1.2.2.1, iv1.2.2.2)) = iv2 from (by rw [h2, mi_2, h1])] at hP1 hD1
    obtain ⟨hP, hD⟩ := va_join (wr := [((ad 0), .inl (E.2.1, 8192, .inl e9))]) (w1 := [(h0, .inr (3, mF ad th sg sn hot pc cx cy iv2.1.1 iv2.1.2.1 iv2.2.1 iv2.2.2.1 iv2.1.2.2 iv2.2.2.2))]) hP hD [1] [0] rfl rfl (by decide) (by decide) hk1 hFc hP1 hD1
    generalize H1 = H at hP hS ⊢
    have hP : va_P D vwC [((ad 0), .inl (E.2.1, 8192, .inl e9)), (h0, .inr (3, mF ad th sg sn hot pc cx cy iv2.1.1 iv2.1.2.1 iv2.2.1 iv2.2.2.1 iv2.1.2.2 iv2.2.2.2))] H := hP
    have hD : va_D A [((ad 0), .inl (E.2.1, 8192, .inl e9)), (h0, .inr (3, mF ad th sg sn hot pc cx cy iv2.1.1 iv2.1.2.1 iv2.2.1 iv2.2.2.1 iv2.1.2.2 iv2.2.2.2))] := hD
    have hw2 : r2 = b01 (mi_ok2 q y) := hw
    refine lv_if_eq (tgt := 151) hx hb d_M_isIn_144 (by decide) (fun c2 => ?_) (fun c2 => ?_)
    · rw [hw2] at c2
      refine lv_iconst (v := 0) hx hb d_M_isIn_151 (by decide) ?_
      exact J 0 iv2 H locs ls (b01_f (fun h => b01_0 c2 h.2)).symm (by rw [mi_iv_t ok1, h2]) hP hD hS (lv_sub hl [1] rfl)
    · rw [hw2] at c2
      refine lv_iconst (v := 1) hx hb d_M_isIn_147 (by decide) ?_
      refine lv_goto (tgt := 152) hx hb d_M_isIn_148 (by decide) ?_
      exact J 1 iv2 H locs ls (b01_t ⟨ok1, b01_1 c2⟩).symm (by rw [mi_iv_t ok1, h2]) hP hD hS (lv_sub hl [1] rfl)
end
end
section
theorem d_M_end_0 : decode c_M_end 0 = .ok (.aload_n 0, 1) := by decide +kernel
theorem d_M_end_1 : decode c_M_end 1 = .ok (.getfield 7, 3) := by decide +kernel
theorem d_M_end_4 : decode c_M_end 4 = .ok (.iconst 4, 1) := by decide +kernel
theorem d_M_end_5 : decode c_M_end 5 = .ok (.iload_n 1, 1) := by decide +kernel
theorem d_M_end_6 : decode c_M_end 6 = .ok (.imul, 1) := by decide +kernel
theorem d_M_end_7 : decode c_M_end 7 = .ok (.iload_n 2, 1) := by decide +kernel
theorem d_M_end_8 : decode c_M_end 8 = .ok (.iadd, 1) := by decide +kernel
theorem d_M_end_9 : decode c_M_end 9 = .ok (.iaload, 1) := by decide +kernel
theorem d_M_end_10 : decode c_M_end 10 = .ok (.i2l, 1) := by decide +kernel
theorem d_M_end_11 : decode c_M_end 11 = .ok (.lreturn, 1) := by decide +kernel
theorem d_M_rounded_0 : decode c_M_rounded 0 = .ok (.lload_n 0, 1) := by decide +kernel
theorem d_M_rounded_1 : decode c_M_rounded 1 = .ok (.lconst 0, 1) := by decide +kernel
theorem d_M_rounded_2 : decode c_M_rounded 2 = .ok (.lcmp, 1) := by decide +kernel
theorem d_M_rounded_3 : decode c_M_rounded 3 = .ok (.ifCond .ge 8, 3) := by decide +kernel
theorem d_M_rounded_6 : decode c_M_rounded 6 = .ok (.lload_n 0, 1) := by decide +kernel
theorem d_M_rounded_7 : decode c_M_rounded 7 = .ok (.lneg, 1) := by decide +kernel
theorem d_M_rounded_8 : decode c_M_rounded 8 = .ok (.goto 4, 3) := by decide +kernel
theorem d_M_rounded_11 : decode c_M_rounded 11 = .ok (.lload_n 0, 1) := by decide +kernel
theorem d_M_rounded_12 : decode c_M_rounded 12 = .ok (.lstore 6, 2) := by decide +kernel
theorem d_M_rounded_14 : decode c_M_rounded 14 = .ok (.lconst 0, 1) := by decide +kernel
theorem d_M_rounded_15 : decode c_M_rounded 15 = .ok (.lstore 8, 2) := by decide +kernel
theorem d_M_rounded_17 : decode c_M_rounded 17 = .ok (.lconst 0, 1) := by decide +kernel
theorem d_M_rounded_18 : decode c_M_rounded 18 = .ok (.lstore 10, 2) := by decide +kernel
theorem d_M_rounded_20 : decode c_M_rounded 20 = .ok (.bipush 30, 2) := by decide +kernel
theorem d_M_rounded_22 : decode c_M_rounded 22 = .ok (.istore 12, 2) := by decide +kernel
theorem d_M_rounded_24 : decode c_M_rounded 24 = .ok (.iload 12, 2) := by decide +kernel
theorem d_M_rounded_26 : decode c_M_rounded 26 = .ok (.ifCond .lt 59, 3) := by decide +kernel
theorem d_M_rounded_29 : decode c_M_rounded 29 = .ok (.ldc2_w 103, 3) := by decide +kernel
theorem d_M_rounded_32 : decode c_M_rounded 32 = .ok (.lload 8, 2) := by decide +kernel
theorem d_M_rounded_34 : decode c_M_rounded 34 = .ok (.lmul, 1) := by decide +kernel
theorem d_M_rounded_35 : decode c_M_rounded 35 = .ok (.lstore 8, 2) := by decide +kernel
theorem d_M_rounded_37 : decode c_M_rounded 37 = .ok (.ldc2_w 103, 3) := by decide +kernel
theorem d_M_rounded_40 : decode c_M_rounded 40 = .ok (.lload 10, 2) := by decide +kernel
theorem d_M_rounded_42 : decode c_M_rounded 42 = .ok (.lmul, 1) := by decide +kernel
theorem d_M_rounded_43 : decode c_M_rounded 43 = .ok (.lload 6, 2) := by decide +kernel
theorem d_M_rounded_45 : decode c_M_rounded 45 = .ok (.iload 12, 2) := by decide +kernel
theorem d_M_rounded_47 : decode c_M_rounded 47 = .ok (.lshr, 1) := by decide +kernel
theorem d_M_rounded_48 : decode c_M_rounded 48 = .ok (.lconst 1, 1) := by decide +kernel
theorem d_M_rounded_49 : decode c_M_rounded 49 = .ok (.land, 1) := by decide +kernel
theorem d_M_rounded_50 : decode c_M_rounded 50 = .ok (.lload_n 2, 1) := by decide +kernel
theorem d_M_rounded_51 : decode c_M_rounded 51 = .ok (.lmul, 1) := by decide +kernel
theorem d_M_rounded_52 : decode c_M_rounded 52 = .ok (.ladd, 1) := by decide +kernel
theorem d_M_rounded_53 : decode c_M_rounded 53 = .ok (.lstore 10, 2) := by decide +kernel
theorem d_M_rounded_55 : decode c_M_rounded 55 = .ok (.lload 10, 2) := by decide +kernel
theorem d_M_rounded_57 : decode c_M_rounded 57 = .ok (.lload 4, 2) := by decide +kernel
theorem d_M_rounded_59 : decode c_M_rounded 59 = .ok (.lcmp, 1) := by decide +kernel
theorem d_M_rounded_60 : decode c_M_rounded 60 = .ok (.ifCond .lt 19, 3) := by decide +kernel
theorem d_M_rounded_63 : decode c_M_rounded 63 = .ok (.lload 10, 2) := by decide +kernel
theorem d_M_rounded_65 : decode c_M_rounded 65 = .ok (.lload 4, 2) := by decide +kernel
theorem d_M_rounded_67 : decode c_M_rounded 67 = .ok (.lsub, 1) := by decide +kernel
theorem d_M_rounded_68 : decode c_M_rounded 68 = .ok (.lstore 10, 2) := by decide +kernel
theorem d_M_rounded_70 : decode c_M_rounded 70 = .ok (.lload 8, 2) := by decide +kernel
theorem d_M_rounded_72 : decode c_M_rounded 72 = .ok (.lconst 1, 1) := by decide +kernel
theorem d_M_rounded_73 : decode c_M_rounded 73 = .ok (.ladd, 1) := by decide +kernel
theorem d_M_rounded_74 : decode c_M_rounded 74 = .ok (.lstore 8, 2) := by decide +kernel
theorem d_M_rounded_76 : decode c_M_rounded 76 = .ok (.goto (-21), 3) := by decide +kernel
theorem d_M_rounded_79 : decode c_M_rounded 79 = .ok (.iinc 12 (-1), 3) := by decide +kernel
theorem d_M_rounded_82 : decode c_M_rounded 82 = .ok (.goto (-58), 3) := by decide +kernel
theorem d_M_rounded_85 : decode c_M_rounded 85 = .ok (.lload_n 0, 1) := by decide +kernel
theorem d_M_rounded_86 : decode c_M_rounded 86 = .ok (.lconst 0, 1) := by decide +kernel
theorem d_M_rounded_87 : decode c_M_rounded 87 = .ok (.lcmp, 1) := by decide +kernel
theorem d_M_rounded_88 : decode c_M_rounded 88 = .ok (.ifCond .ge 27, 3) := by decide +kernel
theorem d_M_rounded_91 : decode c_M_rounded 91 = .ok (.ldc2_w 103, 3) := by decide +kernel
theorem d_M_rounded_94 : decode c_M_rounded 94 = .ok (.lload 10, 2) := by decide +kernel
theorem d_M_rounded_96 : decode c_M_rounded 96 = .ok (.lmul, 1) := by decide +kernel
theorem d_M_rounded_97 : decode c_M_rounded 97 = .ok (.lload 4, 2) := by decide +kernel
theorem d_M_rounded_99 : decode c_M_rounded 99 = .ok (.lcmp, 1) := by decide +kernel
theorem d_M_rounded_100 : decode c_M_rounded 100 = .ok (.ifCond .le 11, 3) := by decide +kernel
theorem d_M_rounded_103 : decode c_M_rounded 103 = .ok (.lload 8, 2) := by decide +kernel
theorem d_M_rounded_105 : decode c_M_rounded 105 = .ok (.lneg, 1) := by decide +kernel
theorem d_M_rounded_106 : decode c_M_rounded 106 = .ok (.lconst 1, 1) := by decide +kernel
theorem d_M_rounded_107 : decode c_M_rounded 107 = .ok (.lsub, 1) := by decide +kernel
theorem d_M_rounded_108 : decode c_M_rounded 108 = .ok (.goto 6, 3) := by decide +kernel
theorem d_M_rounded_111 : decode c_M_rounded 111 = .ok (.lload 8, 2) := by decide +kernel
theorem d_M_rounded_113 : decode c_M_rounded 113 = .ok (.lneg, 1) := by decide +kernel
theorem d_M_rounded_114 : decode c_M_rounded 114 = .ok (.lreturn, 1) := by decide +kernel
theorem d_M_rounded_115 : decode c_M_rounded 115 = .ok (.ldc2_w 103, 3) := by decide +kernel
theorem d_M_rounded_118 : decode c_M_rounded 118 = .ok (.lload 10, 2) := by decide +kernel
theorem d_M_rounded_120 : decode c_M_rounded 120 = .ok (.lmul, 1) := by decide +kernel
theorem d_M_rounded_121 : decode c_M_rounded 121 = .ok (.lload 4, 2) := by decide +kernel
theorem d_M_rounded_123 : decode c_M_rounded 123 = .ok (.lcmp, 1) := by decide +kernel
theorem d_M_rounded_124 : decode c_M_rounded 124 = .ok (.ifCond .lt 10, 3) := by decide +kernel
theorem d_M_rounded_127 : decode c_M_rounded 127 = .ok (.lload 8, 2) := by decide +kernel
theorem d_M_rounded_129 : decode c_M_rounded 129 = .ok (.lconst 1, 1) := by decide +kernel
theorem d_M_rounded_130 : decode c_M_rounded 130 = .ok (.ladd, 1) := by decide +kernel
theorem d_M_rounded_131 : decode c_M_rounded 131 = .ok (.goto 5, 3) := by decide +kernel
theorem d_M_rounded_134 : decode c_M_rounded 134 = .ok (.lload 8, 2) := by decide +kernel
theorem d_M_rounded_136 : decode c_M_rounded 136 = .ok (.lreturn, 1) := by decide +kernel
noncomputable section
def mq_at (q : SQ) (k : Nat) : Int64 := if k = 0 then sx q else if k = 1 then sy q else if k = 2 then su q else sv q
set_option maxHeartbeats 4000000 in
set_option maxRecDepth 100000 in
theorem k_M_end (l : Launch) (D : va_G) (E : ClassId × ClassId × ClassId × ClassId) (h0 : Nat) (ad : Nat → Nat) (th sg sn hot pc cx cy : Int32) (fo fv to tv : Int64) (fi ti : Int32) (e9 : Nat → Int32) (k j : Nat) (hk : 4 * k + 3 < 8192) (hj : j < 4) : Met l y_M_end (.code y_M_end c_M_end 3 (some .long) :: gw) ({ frames := 0, cells := 0, slots := 0, locals := 0 } : Room) (rP D E [(h0, .inr (3, mF ad th sg sn hot pc cx cy fo fv to tv fi ti)), ((ad 0), .inl (E.2.1, 8192, .inl e9))] [.ref h0, .int (nI k), .int (nI j)]) (vp_Sl (fun r => r = Int32.toInt64 (e9 (4 * k + j)))) 0 0 (fun _ => False) := by
  refine rd_ofW (by decide) (Nat.le_of_ble_eq_true rfl) ?_
  intro p e s m below meth c B hP hK ls hl
  obtain ⟨hx, hb, hrt, hml, hown, hts, hG, hlocks, hin⟩ := B
  have hl : lv_has ls 3 [(0, .ref h0), (1, .int (nI k)), (2, .int (nI j))] := hl
  refine lv_aload_n hx hb d_M_end_0 rfl (lv_at hl 0 rfl) ?_
  refine va_get (D := D) (ci := 3) (v := .ref (ad 0)) (C := K_M) (T := F_M) (N := 24) hx hb hG in_M hown hK.1 hP 0 rfl rfl 2 (by decide) (hG _ wd_650) (fun _ h9 => h9) rfl d_M_end_1 ?_
  refine lv_iconst (v := 4) hx hb d_M_end_4 (by decide) ?_
  refine lv_iload_n hx hb d_M_end_5 rfl (lv_at hl 1 rfl) ?_
  refine lv_imul hx hb d_M_end_6 ?_
  rw [show (4 * nI k) = nI (4 * k) from pk_mul 4 k]
  refine lv_iload_n hx hb d_M_end_7 rfl (lv_at hl 2 rfl) ?_
  refine lv_iadd hx hb d_M_end_8 ?_
  rw [show (nI (4 * k) + nI j) = nI (4 * k + j) from nI_add _ _]
  refine va_iald hx hb hK.1 hP 1 1 rfl rfl (vp_in_nI (by omega) (by omega)) d_M_end_9 ?_
  rw [show e9 (Int32.toNatClampNeg (nI (4 * k + j))) = e9 (4 * k + j) from by rw [nI_clamp (by omega)]]
  refine lv_i2l hx hb d_M_end_10 rfl ?_
  exact W.lret (v := (Int32.toInt64 (e9 (4 * k + j)))) hx hb hrt (fun t ht hW => ⟨(Int32.toInt64 (e9 (4 * k + j))), rfl, rfl, ht⟩) (fun q h => nomatch h) d_M_end_11 hlocks
set_option maxHeartbeats 4000000 in
set_option maxRecDepth 100000 in
theorem k_M_rounded (l : Launch) (D : va_G) (E : ClassId × ClassId × ClassId × ClassId) (b : Int64) (o u : Nat) (hb9 : -1073741824 < b.toInt ∧ b.toInt < 1073741824) (ho : o ≤ u) (hu0 : 0 < u) (hu : u ≤ 2000000000000000000) : Met l y_M_rounded (.code y_M_rounded c_M_rounded 13 (some .long) :: gw) ({ frames := 0, cells := 0, slots := 0, locals := 0 } : Room) (rP D E [] [.long b, .long (lN o), .long (lN u)]) (vp_Sl (fun r => r.toInt = rd b.toInt o u)) 0 0 (fun _ => False) := by
  refine rd_ofW (by decide) (Nat.le_of_ble_eq_true rfl) ?_
  intro p e s m below meth c B hP hK ls hl
  obtain ⟨hx, hb, hrt, hml, hown, hts, hG, hlocks, hin⟩ := B
  have hl : lv_has ls 13 [(0, .long b), (2, .long (lN o)), (4, .long (lN u))] := hl
  obtain ⟨sz, hs⟩ : ∃ k, k = b.toInt.natAbs := ⟨_, rfl⟩
  have hs2 : sz < 1073741824 := by omega
  have habs := i64_abs (b := b) (by omega)
  rw [← hs] at habs
  have J0 : ∀ (ls : Array Slot), lv_has ls 13 [(0, .long b), (2, .long (lN o)), (4, .long (lN u))] → W p l e ({ frames := 0, cells := 0, slots := 0, locals := 0 } : Room) s m ([.long b, .long (lN o), .long (lN u)] : List Value).toArray below meth c s.heap [] 0 0 (MQ below (vp_Sl (fun r => r.toInt = rd b.toInt o u)) ([.long b, .long (lN o), .long (lN u)] : List Value).toArray s 0 0 (fun _ => False)) (F0 m 12 ls [.long (lN sz)]) := by
    intro ls hl
    refine lv_lstore (lv' := [(6, .long (lN sz)), (0, .long b), (2, .long (lN o)), (4, .long (lN u))]) hx hb d_M_rounded_12 hl (by decide) rfl (fun ls hl => ?_)
    refine lv_lconst (v := 0) hx hb d_M_rounded_14 (by decide) ?_
    refine lv_lstore (lv' := [(8, .long 0), (6, .long (lN sz)), (0, .long b), (2, .long (lN o)), (4, .long (lN u))]) hx hb d_M_rounded_15 hl (by decide) rfl (fun ls hl => ?_)
    refine lv_lconst (v := 0) hx hb d_M_rounded_17 (by decide) ?_
    refine lv_lstore (lv' := [(10, .long 0), (8, .long 0), (6, .long (lN sz)), (0, .long b), (2, .long (lN o)), (4, .long (lN u))]) hx hb d_M_rounded_18 hl (by decide) rfl (fun ls hl => ?_)
    refine lv_bipush (v := 30) hx hb d_M_rounded_20 (by decide) ?_
    refine lv_istore (lv' := [(12, .int 30), (10, .long 0), (8, .long 0), (6, .long (lN sz)), (0, .long b), (2, .long (lN o)), (4, .long (lN u))]) hx hb d_M_rounded_22 hl (by decide) rfl (fun ls hl => ?_)
    have loop : ∀ (fu : Nat) (q : Nat) (r : Nat) (y : Int32) (ls : Array Slot), (fu ≤ 31) → (y.toInt = (fu : Int) - 1) → (q = sz / 2 ^ fu * o / u) → (r = sz / 2 ^ fu * o % u) → lv_has ls 13 [(0, .long b), (2, .long (lN o)), (4, .long (lN u)), (6, .long (lN sz)), (8, .long (lN q)), (10, .long (lN r)), (12, .int y)] → W p l e ({ frames := 0, cells := 0, slots := 0, locals := 0 } : Room) s m ([.long b, .long (lN o), .long (lN u)] : List Value).toArray below meth c s.heap [] 0 0 (MQ below (vp_Sl (fun r => r.toInt = rd b.toInt o u)) ([.long b, .long (lN o), .long (lN u)] : List Value).toArray s 0 0 (fun _ => False)) (F0 m 24 ls []) := by
      intro fu
      induction fu with
      | zero =>
        intro q r y ls h1 h2 h3 h4 hl
        rw [Nat.pow_zero, Nat.div_one] at h3 h4
        have hr : r < u := by rw [h4]; exact Nat.mod_lt _ hu0
        have hq : q ≤ sz := by rw [h3]; exact Nat.div_le_of_le_mul (by rw [Nat.mul_comm u]; exact Nat.mul_le_mul_left _ ho)
        rw [hs] at h3 h4
        have z0 : (0 : Int64).toInt = 0 := by decide
        have z1 : (1 : Int64).toInt = 1 := by decide
        have zq : (lN q).toInt = (q : Int) := pf_lI (by omega)
        have zn : (-lN q).toInt = -(q : Int) := by rw [i64_neg (by omega), zq]
        refine lv_iload hx hb d_M_rounded_24 (lv_at hl 6 rfl) ?_
        refine lv_if_lt (tgt := 85) hx hb d_M_rounded_26 (by decide) (fun c0 => ?_) (fun c0 => ?_)
        · refine lv_lload_n hx hb d_M_rounded_85 rfl (lv_at hl 0 rfl) ?_
          refine lv_lconst (v := 0) hx hb d_M_rounded_86 (by decide) ?_
          refine W.lcmp hx hb d_M_rounded_87 ?_
          refine lv_if_ge (tgt := 115) hx hb d_M_rounded_88 (by decide) (fun c1 => ?_) (fun c1 => ?_)
          · have c1 : ¬ b.toInt < 0 := by have := lg_ge.mp c1; rw [Int64.lt_iff_toInt_lt, z0] at this; exact this
            refine lv_ldc2 hx hb hown (hG _ wd_763) d_M_rounded_115 ?_
            refine lv_lload hx hb d_M_rounded_118 (lv_at hl 5 rfl) ?_
            refine lv_lmul hx hb d_M_rounded_120 ?_
            rw [show (2 * (lN r)) = (lN (2 * r)) from lN_mul 2 r]
            refine lv_lload hx hb d_M_rounded_121 (lv_at hl 2 rfl) ?_
            refine W.lcmp hx hb d_M_rounded_123 ?_
            refine lv_if_lt (tgt := 134) hx hb d_M_rounded_124 (by decide) (fun c2 => ?_) (fun c2 => ?_)
            · have c2 : 2 * r < u := (pk_lLT (by omega) (by omega)).mp (lg_lt.mp c2)
              refine lv_lload hx hb d_M_rounded_134 (lv_at hl 4 rfl) ?_
              exact W.lret (v := (lN q)) hx hb hrt (fun t ht hW => ⟨(lN q), rfl, by show (lN q).toInt = _; rw [zq, rd, if_neg c1, ← h4, if_pos c2, ← h3], ht⟩) (fun q h => nomatch h) d_M_rounded_136 hlocks
            · have c2 : ¬ 2 * r < u := fun h => c2 (lg_lt.mpr ((pk_lLT (by omega) (by omega)).mpr h))
              refine lv_lload hx hb d_M_rounded_127 (lv_at hl 4 rfl) ?_
              refine lv_lconst (v := 1) hx hb d_M_rounded_129 (by decide) ?_
              refine lv_ladd hx hb d_M_rounded_130 ?_
              refine lv_goto (tgt := 136) hx hb d_M_rounded_131 (by decide) ?_
              exact W.lret (v := ((lN q) + 1)) hx hb hrt (fun t ht hW => ⟨((lN q) + 1), rfl, by show (lN q + 1).toInt = _; rw [i64_add (by rw [zq, z1]; omega) (by rw [zq, z1]; omega), zq, z1, rd, if_neg c1, ← h4, if_neg c2, ← h3], ht⟩) (fun q h => nomatch h) d_M_rounded_136 hlocks
          · have c1 : b.toInt < 0 := by have := lg_ge' c1; rw [Int64.lt_iff_toInt_lt, z0] at this; exact this
            refine lv_ldc2 hx hb hown (hG _ wd_763) d_M_rounded_91 ?_
            refine lv_lload hx hb d_M_rounded_94 (lv_at hl 5 rfl) ?_
            refine lv_lmul hx hb d_M_rounded_96 ?_
            rw [show (2 * (lN r)) = (lN (2 * r)) from lN_mul 2 r]
            refine lv_lload hx hb d_M_rounded_97 (lv_at hl 2 rfl) ?_
            refine W.lcmp hx hb d_M_rounded_99 ?_
            refine lv_if_le (tgt := 111) hx hb d_M_rounded_100 (by decide) (fun c2 => ?_) (fun c2 => ?_)
            · have c2 : ¬ u < 2 * r := fun h => lg_le.mp c2 ((pk_lLT (by omega) (by omega)).mpr h)
              refine lv_lload hx hb d_M_rounded_111 (lv_at hl 4 rfl) ?_
              refine lv_lneg hx hb d_M_rounded_113 ?_
              exact W.lret (v := (-(lN q))) hx hb hrt (fun t ht hW => ⟨(-(lN q)), rfl, by show (-lN q).toInt = _; rw [zn, rd, if_pos c1, ← h4, if_neg c2, ← h3], ht⟩) (fun q h => nomatch h) d_M_rounded_114 hlocks
            · have c2 : u < 2 * r := (pk_lLT (by omega) (by omega)).mp (lg_le' c2)
              refine lv_lload hx hb d_M_rounded_103 (lv_at hl 4 rfl) ?_
              refine lv_lneg hx hb d_M_rounded_105 ?_
              refine lv_lconst (v := 1) hx hb d_M_rounded_106 (by decide) ?_
              refine lv_lsub hx hb d_M_rounded_107 ?_
              refine lv_goto (tgt := 114) hx hb d_M_rounded_108 (by decide) ?_
              exact W.lret (v := ((-(lN q)) - 1)) hx hb hrt (fun t ht hW => ⟨((-(lN q)) - 1), rfl, by show (-lN q - 1).toInt = _; rw [i64_sub (by rw [zn, z1]; omega) (by rw [zn, z1]; omega), zn, z1, rd, if_pos c1, ← h4, if_pos c2, ← h3], ht⟩) (fun q h => nomatch h) d_M_rounded_114 hlocks
        · exact absurd (by rw [Int32.lt_iff_toInt_lt, h2]; decide) c0
      | succ fu ih =>
        intro q r y ls h1 h2 h3 h4 hl
        have hr : r < u := by rw [h4]; exact Nat.mod_lt _ hu0
        have hd : q * u + r = sz / 2 ^ (fu + 1) * o := by rw [h3, h4, Nat.mul_comm]; exact Nat.div_add_mod _ _
        have hb1 := dm_bit sz fu
        obtain ⟨bt, hbt⟩ : ∃ k, k = sz / 2 ^ fu % 2 := ⟨_, rfl⟩
        rw [← hbt] at hb1
        have hbt2 : bt = 0 ∨ bt = 1 := by omega
        have hbo : bt * o ≤ u := by rcases hbt2 with e | e <;> rw [e] <;> omega
        have hT : 2 * (q * u + r) + bt * o = sz / 2 ^ fu * o := by rw [hd, hb1, Nat.add_mul, Nat.mul_assoc]
        have hqz : q ≤ sz := by rw [h3]; exact Nat.le_trans (Nat.div_le_of_le_mul (by rw [Nat.mul_comm u]; exact Nat.mul_le_mul_left _ ho)) (Nat.div_le_self _ _)
        obtain rfl : y = nI fu := nI_toI (by omega)
        refine lv_iload hx hb d_M_rounded_24 (lv_at hl 6 rfl) ?_
        refine lv_if_lt (tgt := 85) hx hb d_M_rounded_26 (by decide) (fun c0 => ?_) (fun c0 => ?_)
        · exact absurd c0 (nI_pos (by omega))
        · refine lv_ldc2 hx hb hown (hG _ wd_763) d_M_rounded_29 ?_
          refine lv_lload hx hb d_M_rounded_32 (lv_at hl 4 rfl) ?_
          refine lv_lmul hx hb d_M_rounded_34 ?_
          rw [show (2 * (lN q)) = (lN (2 * q)) from lN_mul 2 q]
          refine lv_lstore (lv' := [(8, .long (lN (2 * q))), (0, .long b), (2, .long (lN o)), (4, .long (lN u)), (6, .long (lN sz)), (10, .long (lN r)), (12, .int (nI fu))]) hx hb d_M_rounded_35 hl (by decide) rfl (fun ls hl => ?_)
          refine lv_ldc2 hx hb hown (hG _ wd_763) d_M_rounded_37 ?_
          refine lv_lload hx hb d_M_rounded_40 (lv_at hl 5 rfl) ?_
          refine lv_lmul hx hb d_M_rounded_42 ?_
          rw [show (2 * (lN r)) = (lN (2 * r)) from lN_mul 2 r]
          refine lv_lload hx hb d_M_rounded_43 (lv_at hl 4 rfl) ?_
          refine lv_iload hx hb d_M_rounded_45 (lv_at hl 6 rfl) ?_
          refine lv_lshr hx hb d_M_rounded_47 rfl ?_
          refine lv_lconst (v := 1) hx hb d_M_rounded_48 (by decide) ?_
          refine lv_land hx hb d_M_rounded_49 ?_
          rw [show (((lN sz) >>> (Int32.toInt64 (nI fu) &&& 63)) &&& 1) = (lN bt) from by rw [hbt]; exact bit_lN (by omega) (by omega)]
          refine lv_lload_n hx hb d_M_rounded_50 rfl (lv_at hl 2 rfl) ?_
          refine lv_lmul hx hb d_M_rounded_51 ?_
          rw [show ((lN bt) * (lN o)) = (lN (bt * o)) from lN_mul _ _]
          refine lv_ladd hx hb d_M_rounded_52 ?_
          rw [show ((lN (2 * r)) + (lN (bt * o))) = (lN (2 * r + bt * o)) from lN_add _ _]
          refine lv_lstore (lv' := [(10, .long (lN (2 * r + bt * o))), (8, .long (lN (2 * q))), (0, .long b), (2, .long (lN o)), (4, .long (lN u)), (6, .long (lN sz)), (12, .int (nI fu))]) hx hb d_M_rounded_53 hl (by decide) rfl (fun ls hl => ?_)
          have J : ∀ (q2 : Nat) (r2 : Nat) (ls : Array Slot), (q2 * u + r2 = sz / 2 ^ fu * o) → (r2 < u) → lv_has ls 13 [(0, .long b), (2, .long (lN o)), (4, .long (lN u)), (6, .long (lN sz)), (8, .long (lN q2)), (10, .long (lN r2)), (12, .int (nI fu))] → W p l e ({ frames := 0, cells := 0, slots := 0, locals := 0 } : Room) s m ([.long b, .long (lN o), .long (lN u)] : List Value).toArray below meth c s.heap [] 0 0 (MQ below (vp_Sl (fun r => r.toInt = rd b.toInt o u)) ([.long b, .long (lN o), .long (lN u)] : List Value).toArray s 0 0 (fun _ => False)) (F0 m 79 ls []) := by
            intro q2 r2 ls e1 e2 hl
            obtain ⟨y2, hy2⟩ : ∃ y2, y2 = nI fu + Int32.ofInt (-1) := ⟨_, rfl⟩
            refine lv_iinc (v := y2) (lv' := [(12, .int y2), (0, .long b), (2, .long (lN o)), (4, .long (lN u)), (6, .long (lN sz)), (8, .long (lN q2)), (10, .long (lN r2))]) hx hb d_M_rounded_79 hl (k := 6) rfl hy2.symm (by decide) rfl (fun ls hl => ?_)
            refine lv_goto (tgt := 24) hx hb d_M_rounded_82 (by decide) ?_
            exact ih q2 r2 y2 ls (by omega) (by rw [hy2, iinc_toI (by omega)]) (dm_un e1 e2).1 (dm_un e1 e2).2 (lv_sub hl [1, 2, 3, 4, 5, 6, 0] rfl)
          refine lv_lload hx hb d_M_rounded_55 (lv_at hl 0 rfl) ?_
          refine lv_lload hx hb d_M_rounded_57 (lv_at hl 4 rfl) ?_
          refine W.lcmp hx hb d_M_rounded_59 ?_
          refine lv_if_lt (tgt := 79) hx hb d_M_rounded_60 (by decide) (fun c1 => ?_) (fun c1 => ?_)
          · exact J (2 * q) (2 * r + bt * o) ls (by rw [← hT]; simp only [Nat.add_mul, Nat.mul_assoc]; omega) ((pk_lLT (by omega) (by omega)).mp (lg_lt.mp c1)) (lv_sub hl [2, 3, 4, 5, 1, 0, 6] rfl)
          · have k1 : u ≤ 2 * r + bt * o := Nat.not_lt.mp (fun h => c1 (lg_lt.mpr ((pk_lLT (by omega) (by omega)).mpr h)))
            refine lv_lload hx hb d_M_rounded_63 (lv_at hl 0 rfl) ?_
            refine lv_lload hx hb d_M_rounded_65 (lv_at hl 4 rfl) ?_
            refine lv_lsub hx hb d_M_rounded_67 ?_
            rw [show ((lN (2 * r + bt * o)) - (lN u)) = (lN (2 * r + bt * o - u)) from lN_sub k1]
            refine lv_lstore (lv' := [(10, .long (lN (2 * r + bt * o - u))), (8, .long (lN (2 * q))), (0, .long b), (2, .long (lN o)), (4, .long (lN u)), (6, .long (lN sz)), (12, .int (nI fu))]) hx hb d_M_rounded_68 hl (by decide) rfl (fun ls hl => ?_)
            refine lv_lload hx hb d_M_rounded_70 (lv_at hl 1 rfl) ?_
            refine lv_lconst (v := 1) hx hb d_M_rounded_72 (by decide) ?_
            refine lv_ladd hx hb d_M_rounded_73 ?_
            rw [show ((lN (2 * q)) + 1) = (lN (2 * q + 1)) from lN_1 _]
            refine lv_lstore (lv' := [(8, .long (lN (2 * q + 1))), (10, .long (lN (2 * r + bt * o - u))), (0, .long b), (2, .long (lN o)), (4, .long (lN u)), (6, .long (lN sz)), (12, .int (nI fu))]) hx hb d_M_rounded_74 hl (by decide) rfl (fun ls hl => ?_)
            refine lv_goto (tgt := 55) hx hb d_M_rounded_76 (by decide) ?_
            refine lv_lload hx hb d_M_rounded_55 (lv_at hl 1 rfl) ?_
            refine lv_lload hx hb d_M_rounded_57 (lv_at hl 4 rfl) ?_
            refine W.lcmp hx hb d_M_rounded_59 ?_
            refine lv_if_lt (tgt := 79) hx hb d_M_rounded_60 (by decide) (fun c2 => ?_) (fun c2 => ?_)
            · exact J (2 * q + 1) (2 * r + bt * o - u) ls (by rw [← hT]; simp only [Nat.add_mul, Nat.mul_assoc]; omega) ((pk_lLT (by omega) (by omega)).mp (lg_lt.mp c2)) (lv_sub hl [2, 3, 4, 5, 0, 1, 6] rfl)
            · have k2 : u ≤ 2 * r + bt * o - u := Nat.not_lt.mp (fun h => c2 (lg_lt.mpr ((pk_lLT (by omega) (by omega)).mpr h)))
              refine lv_lload hx hb d_M_rounded_63 (lv_at hl 1 rfl) ?_
              refine lv_lload hx hb d_M_rounded_65 (lv_at hl 4 rfl) ?_
              refine lv_lsub hx hb d_M_rounded_67 ?_
              rw [show ((lN (2 * r + bt * o - u)) - (lN u)) = (lN (2 * r + bt * o - u - u)) from lN_sub k2]
              refine lv_lstore (lv' := [(10, .long (lN (2 * r + bt * o - u - u))), (8, .long (lN (2 * q + 1))), (0, .long b), (2, .long (lN o)), (4, .long (lN u)), (6, .long (lN sz)), (12, .int (nI fu))]) hx hb d_M_rounded_68 hl (by decide) rfl (fun ls hl => ?_)
              refine lv_lload hx hb d_M_rounded_70 (lv_at hl 1 rfl) ?_
              refine lv_lconst (v := 1) hx hb d_M_rounded_72 (by decide) ?_
              refine lv_ladd hx hb d_M_rounded_73 ?_
              rw [show ((lN (2 * q + 1)) + 1) = (lN (2 * q + 1 + 1)) from lN_1 _]
              refine lv_lstore (lv' := [(8, .long (lN (2 * q + 1 + 1))), (10, .long (lN (2 * r + bt * o - u - u))), (0, .long b), (2, .long (lN o)), (4, .long (lN u)), (6, .long (lN sz)), (12, .int (nI fu))]) hx hb d_M_rounded_74 hl (by decide) rfl (fun ls hl => ?_)
              refine lv_goto (tgt := 55) hx hb d_M_rounded_76 (by decide) ?_
              refine lv_lload hx hb d_M_rounded_55 (lv_at hl 1 rfl) ?_
              refine lv_lload hx hb d_M_rounded_57 (lv_at hl 4 rfl) ?_
              refine W.lcmp hx hb d_M_rounded_59 ?_
              refine lv_if_lt (tgt := 79) hx hb d_M_rounded_60 (by decide) (fun c3 => ?_) (fun c3 => ?_)
              · exact J (2 * q + 1 + 1) (2 * r + bt * o - u - u) ls (by rw [← hT]; simp only [Nat.add_mul, Nat.mul_assoc]; omega) ((pk_lLT (by omega) (by omega)).mp (lg_lt.mp c3)) (lv_sub hl [2, 3, 4, 5, 0, 1, 6] rfl)
              · have k3 : u ≤ 2 * r + bt * o - u - u := Nat.not_lt.mp (fun h => c3 (lg_lt.mpr ((pk_lLT (by omega) (by omega)).mpr h)))
                omega
    exact loop 31 0 0 _ ls (by omega) (by decide) (by rw [Nat.div_eq_of_lt (show sz < 2 ^ 31 by omega), Nat.zero_mul, Nat.zero_div]) (by rw [Nat.div_eq_of_lt (show sz < 2 ^ 31 by omega), Nat.zero_mul, Nat.zero_mod]) (lv_sub hl [4, 5, 6, 3, 2, 1, 0] rfl)
  refine lv_lload_n hx hb d_M_rounded_0 rfl (lv_at hl 0 rfl) ?_
  refine lv_lconst (v := 0) hx hb d_M_rounded_1 (by decide) ?_
  refine W.lcmp hx hb d_M_rounded_2 ?_
  refine lv_if_ge (tgt := 11) hx hb d_M_rounded_3 (by decide) (fun c1 => ?_) (fun c1 => ?_)
  · refine lv_lload_n hx hb d_M_rounded_11 rfl (lv_at hl 0 rfl) ?_
    refine lv_topl (fun bb ebb => ?_)
    obtain rfl : bb = lN sz := by rw [ebb, ← habs, if_neg (lg_ge.mp c1)]
    exact J0 ls (lv_sub hl [0, 1, 2] rfl)
  · refine lv_lload_n hx hb d_M_rounded_6 rfl (lv_at hl 0 rfl) ?_
    refine lv_lneg hx hb d_M_rounded_7 ?_
    refine lv_goto (tgt := 12) hx hb d_M_rounded_8 (by decide) ?_
    rw [show (-b) = (lN sz) from by rw [← habs, if_pos (lg_ge' c1)]]
    exact J0 ls (lv_sub hl [0, 1, 2] rfl)
end
end
section
/-! the ends' reach, and what follows of it -/
def bnd (q : SQ) : Prop := q.1.toInt.natAbs ≤ 500000000 ∧ q.2.1.toInt.natAbs ≤ 500000000 ∧ q.2.2.1.toInt.natAbs ≤ 500000000 ∧ q.2.2.2.toInt.natAbs ≤ 500000000
theorem sx_i (q : SQ) : (sx q).toInt = q.1.toInt := Int32.toInt_toInt64 _
theorem sy_i (q : SQ) : (sy q).toInt = q.2.1.toInt := Int32.toInt_toInt64 _
theorem su_i (q : SQ) : (su q).toInt = q.2.2.1.toInt := Int32.toInt_toInt64 _
theorem sv_i (q : SQ) : (sv q).toInt = q.2.2.2.toInt := Int32.toInt_toInt64 _
theorem swx_i {q : SQ} (h : bnd q) : (swx q).toInt = q.2.2.1.toInt - q.1.toInt := by
  obtain ⟨h1, h2, h3, h4⟩ := h
  unfold swx
  rw [i64_sub] <;> rw [su_i, sx_i] <;> omega
theorem swy_i {q : SQ} (h : bnd q) : (swy q).toInt = q.2.2.2.toInt - q.2.1.toInt := by
  obtain ⟨h1, h2, h3, h4⟩ := h
  unfold swy
  rw [i64_sub] <;> rw [sv_i, sy_i] <;> omega
theorem swx_b {q : SQ} (h : bnd q) : (swx q).toInt.natAbs ≤ 1000000000 := by
  rw [swx_i h]
  obtain ⟨h1, h2, h3, h4⟩ := h
  omega
theorem swy_b {q : SQ} (h : bnd q) : (swy q).toInt.natAbs ≤ 1000000000 := by
  rw [swy_i h]
  obtain ⟨h1, h2, h3, h4⟩ := h
  omega
theorem mul9 {a b : Int} (ha : a.natAbs ≤ 1000000000) (hb : b.natAbs ≤ 1000000000) : (a * b).natAbs ≤ 1000000000000000000 := by
  rw [Int.natAbs_mul]
  exact Nat.le_trans (Nat.mul_le_mul ha hb) (by decide)
/-- the difference of two products -/
theorem det9 {a b c d : Int64} (ha : a.toInt.natAbs ≤ 1000000000) (hb : b.toInt.natAbs ≤ 1000000000) (hc : c.toInt.natAbs ≤ 1000000000) (hd : d.toInt.natAbs ≤ 1000000000) :
    (a * b - c * d).toInt = a.toInt * b.toInt - c.toInt * d.toInt ∧ (a * b - c * d).toInt.natAbs ≤ 2000000000000000000 := by
  have h1 := mul9 ha hb
  have h2 := mul9 hc hd
  have e1 : (a * b).toInt = a.toInt * b.toInt := i64_mul (by omega) (by omega)
  have e2 : (c * d).toInt = c.toInt * d.toInt := i64_mul (by omega) (by omega)
  have e3 : (a * b - c * d).toInt = a.toInt * b.toInt - c.toInt * d.toInt := by
    rw [i64_sub] <;> rw [e1, e2] <;> omega
  exact ⟨e3, by rw [e3]; omega⟩
theorem dx_i {q o : SQ} (h : bnd q) (g : bnd o) : (sx o - sx q).toInt = o.1.toInt - q.1.toInt ∧ (sx o - sx q).toInt.natAbs ≤ 1000000000 := by
  obtain ⟨h1, h2, h3, h4⟩ := h
  obtain ⟨g1, g2, g3, g4⟩ := g
  have e : (sx o - sx q).toInt = o.1.toInt - q.1.toInt := by
    rw [i64_sub] <;> rw [sx_i, sx_i] <;> omega
  exact ⟨e, by rw [e]; omega⟩
theorem dy_i {q o : SQ} (h : bnd q) (g : bnd o) : (sy o - sy q).toInt = o.2.1.toInt - q.2.1.toInt ∧ (sy o - sy q).toInt.natAbs ≤ 1000000000 := by
  obtain ⟨h1, h2, h3, h4⟩ := h
  obtain ⟨g1, g2, g3, g4⟩ := g
  have e : (sy o - sy q).toInt = o.2.1.toInt - q.2.1.toInt := by
    rw [i64_sub] <;> rw [sy_i, sy_i] <;> omega
  exact ⟨e, by rw [e]; omega⟩
/-- the reference's numbers for two segments -/
def mx_u0 (q o : SQ) : Int64 := swx q * swy o - swy q * swx o
def mx_10 (q o : SQ) : Int64 := (sx o - sx q) * swy o - (sy o - sy q) * swx o
def mx_20 (q o : SQ) : Int64 := (sx o - sx q) * swy q - (sy o - sy q) * swx q
def mx_n (q o : SQ) (v : Int64) : Int64 := if mx_u0 q o < 0 then -v else v
def mx_u (q o : SQ) : Int64 := mx_n q o (mx_u0 q o)
def mx_1 (q o : SQ) : Int64 := mx_n q o (mx_10 q o)
def mx_2 (q o : SQ) : Int64 := mx_n q o (mx_20 q o)
def mx_ok (q o : SQ) : Prop := (0 < mx_1 q o ∧ mx_1 q o < mx_u q o) ∧ 0 < mx_2 q o ∧ mx_2 q o < mx_u q o
def mx_rx (q o : SQ) : Int := rd (swx q).toInt (mx_1 q o).toInt.toNat (mx_u q o).toInt.toNat
def mx_ry (q o : SQ) : Int := rd (swy q).toInt (mx_1 q o).toInt.toNat (mx_u q o).toInt.toNat
def mx_x (q o : SQ) : Int32 := Int64.toInt32 (sx q + Int64.ofInt (mx_rx q o))
def mx_y (q o : SQ) : Int32 := Int64.toInt32 (sy q + Int64.ofInt (mx_ry q o))
theorem mx_u0_b {q o : SQ} (h : bnd q) (g : bnd o) : (mx_u0 q o).toInt.natAbs ≤ 2000000000000000000 := (det9 (swx_b h) (swy_b g) (swy_b h) (swx_b g)).2
theorem mx_u_b {q o : SQ} (h : bnd q) (g : bnd o) : 0 ≤ (mx_u q o).toInt ∧ (mx_u q o).toInt ≤ 2000000000000000000 := by
  have hb := mx_u0_b h g
  have h0 : (0 : Int64).toInt = 0 := by decide
  unfold mx_u mx_n
  by_cases c : mx_u0 q o < 0
  · rw [if_pos c]
    rw [Int64.lt_iff_toInt_lt, h0] at c
    rw [i64_neg (by omega)]
    omega
  · rw [if_neg c]
    rw [Int64.lt_iff_toInt_lt, h0] at c
    omega
end
section
theorem d_M_cross_0 : decode c_M_cross 0 = .ok (.aload_n 0, 1) := by decide +kernel
theorem d_M_cross_1 : decode c_M_cross 1 = .ok (.iload_n 1, 1) := by decide +kernel
theorem d_M_cross_2 : decode c_M_cross 2 = .ok (.iconst 2, 1) := by decide +kernel
theorem d_M_cross_3 : decode c_M_cross 3 = .ok (.invokevirtual 122, 3) := by decide +kernel
theorem d_M_cross_6 : decode c_M_cross 6 = .ok (.aload_n 0, 1) := by decide +kernel
theorem d_M_cross_7 : decode c_M_cross 7 = .ok (.iload_n 1, 1) := by decide +kernel
theorem d_M_cross_8 : decode c_M_cross 8 = .ok (.iconst 0, 1) := by decide +kernel
theorem d_M_cross_9 : decode c_M_cross 9 = .ok (.invokevirtual 122, 3) := by decide +kernel
theorem d_M_cross_12 : decode c_M_cross 12 = .ok (.lsub, 1) := by decide +kernel
theorem d_M_cross_13 : decode c_M_cross 13 = .ok (.lstore_n 3, 1) := by decide +kernel
theorem d_M_cross_14 : decode c_M_cross 14 = .ok (.aload_n 0, 1) := by decide +kernel
theorem d_M_cross_15 : decode c_M_cross 15 = .ok (.iload_n 1, 1) := by decide +kernel
theorem d_M_cross_16 : decode c_M_cross 16 = .ok (.iconst 3, 1) := by decide +kernel
theorem d_M_cross_17 : decode c_M_cross 17 = .ok (.invokevirtual 122, 3) := by decide +kernel
theorem d_M_cross_20 : decode c_M_cross 20 = .ok (.aload_n 0, 1) := by decide +kernel
theorem d_M_cross_21 : decode c_M_cross 21 = .ok (.iload_n 1, 1) := by decide +kernel
theorem d_M_cross_22 : decode c_M_cross 22 = .ok (.iconst 1, 1) := by decide +kernel
theorem d_M_cross_23 : decode c_M_cross 23 = .ok (.invokevirtual 122, 3) := by decide +kernel
theorem d_M_cross_26 : decode c_M_cross 26 = .ok (.lsub, 1) := by decide +kernel
theorem d_M_cross_27 : decode c_M_cross 27 = .ok (.lstore 5, 2) := by decide +kernel
theorem d_M_cross_29 : decode c_M_cross 29 = .ok (.aload_n 0, 1) := by decide +kernel
theorem d_M_cross_30 : decode c_M_cross 30 = .ok (.iload_n 2, 1) := by decide +kernel
theorem d_M_cross_31 : decode c_M_cross 31 = .ok (.iconst 2, 1) := by decide +kernel
theorem d_M_cross_32 : decode c_M_cross 32 = .ok (.invokevirtual 122, 3) := by decide +kernel
theorem d_M_cross_35 : decode c_M_cross 35 = .ok (.aload_n 0, 1) := by decide +kernel
theorem d_M_cross_36 : decode c_M_cross 36 = .ok (.iload_n 2, 1) := by decide +kernel
theorem d_M_cross_37 : decode c_M_cross 37 = .ok (.iconst 0, 1) := by decide +kernel
theorem d_M_cross_38 : decode c_M_cross 38 = .ok (.invokevirtual 122, 3) := by decide +kernel
theorem d_M_cross_41 : decode c_M_cross 41 = .ok (.lsub, 1) := by decide +kernel
theorem d_M_cross_42 : decode c_M_cross 42 = .ok (.lstore 7, 2) := by decide +kernel
theorem d_M_cross_44 : decode c_M_cross 44 = .ok (.aload_n 0, 1) := by decide +kernel
theorem d_M_cross_45 : decode c_M_cross 45 = .ok (.iload_n 2, 1) := by decide +kernel
theorem d_M_cross_46 : decode c_M_cross 46 = .ok (.iconst 3, 1) := by decide +kernel
theorem d_M_cross_47 : decode c_M_cross 47 = .ok (.invokevirtual 122, 3) := by decide +kernel
theorem d_M_cross_50 : decode c_M_cross 50 = .ok (.aload_n 0, 1) := by decide +kernel
theorem d_M_cross_51 : decode c_M_cross 51 = .ok (.iload_n 2, 1) := by decide +kernel
theorem d_M_cross_52 : decode c_M_cross 52 = .ok (.iconst 1, 1) := by decide +kernel
theorem d_M_cross_53 : decode c_M_cross 53 = .ok (.invokevirtual 122, 3) := by decide +kernel
theorem d_M_cross_56 : decode c_M_cross 56 = .ok (.lsub, 1) := by decide +kernel
theorem d_M_cross_57 : decode c_M_cross 57 = .ok (.lstore 9, 2) := by decide +kernel
theorem d_M_cross_59 : decode c_M_cross 59 = .ok (.aload_n 0, 1) := by decide +kernel
theorem d_M_cross_60 : decode c_M_cross 60 = .ok (.iload_n 2, 1) := by decide +kernel
theorem d_M_cross_61 : decode c_M_cross 61 = .ok (.iconst 0, 1) := by decide +kernel
theorem d_M_cross_62 : decode c_M_cross 62 = .ok (.invokevirtual 122, 3) := by decide +kernel
theorem d_M_cross_65 : decode c_M_cross 65 = .ok (.aload_n 0, 1) := by decide +kernel
theorem d_M_cross_66 : decode c_M_cross 66 = .ok (.iload_n 1, 1) := by decide +kernel
theorem d_M_cross_67 : decode c_M_cross 67 = .ok (.iconst 0, 1) := by decide +kernel
theorem d_M_cross_68 : decode c_M_cross 68 = .ok (.invokevirtual 122, 3) := by decide +kernel
theorem d_M_cross_71 : decode c_M_cross 71 = .ok (.lsub, 1) := by decide +kernel
theorem d_M_cross_72 : decode c_M_cross 72 = .ok (.lstore 11, 2) := by decide +kernel
theorem d_M_cross_74 : decode c_M_cross 74 = .ok (.aload_n 0, 1) := by decide +kernel
theorem d_M_cross_75 : decode c_M_cross 75 = .ok (.iload_n 2, 1) := by decide +kernel
theorem d_M_cross_76 : decode c_M_cross 76 = .ok (.iconst 1, 1) := by decide +kernel
theorem d_M_cross_77 : decode c_M_cross 77 = .ok (.invokevirtual 122, 3) := by decide +kernel
theorem d_M_cross_80 : decode c_M_cross 80 = .ok (.aload_n 0, 1) := by decide +kernel
theorem d_M_cross_81 : decode c_M_cross 81 = .ok (.iload_n 1, 1) := by decide +kernel
theorem d_M_cross_82 : decode c_M_cross 82 = .ok (.iconst 1, 1) := by decide +kernel
theorem d_M_cross_83 : decode c_M_cross 83 = .ok (.invokevirtual 122, 3) := by decide +kernel
theorem d_M_cross_86 : decode c_M_cross 86 = .ok (.lsub, 1) := by decide +kernel
theorem d_M_cross_87 : decode c_M_cross 87 = .ok (.lstore 13, 2) := by decide +kernel
theorem d_M_cross_89 : decode c_M_cross 89 = .ok (.lload_n 3, 1) := by decide +kernel
theorem d_M_cross_90 : decode c_M_cross 90 = .ok (.lload 9, 2) := by decide +kernel
theorem d_M_cross_92 : decode c_M_cross 92 = .ok (.lmul, 1) := by decide +kernel
theorem d_M_cross_93 : decode c_M_cross 93 = .ok (.lload 5, 2) := by decide +kernel
theorem d_M_cross_95 : decode c_M_cross 95 = .ok (.lload 7, 2) := by decide +kernel
theorem d_M_cross_97 : decode c_M_cross 97 = .ok (.lmul, 1) := by decide +kernel
theorem d_M_cross_98 : decode c_M_cross 98 = .ok (.lsub, 1) := by decide +kernel
theorem d_M_cross_99 : decode c_M_cross 99 = .ok (.lstore 15, 2) := by decide +kernel
theorem d_M_cross_101 : decode c_M_cross 101 = .ok (.lload 11, 2) := by decide +kernel
theorem d_M_cross_103 : decode c_M_cross 103 = .ok (.lload 9, 2) := by decide +kernel
theorem d_M_cross_105 : decode c_M_cross 105 = .ok (.lmul, 1) := by decide +kernel
theorem d_M_cross_106 : decode c_M_cross 106 = .ok (.lload 13, 2) := by decide +kernel
theorem d_M_cross_108 : decode c_M_cross 108 = .ok (.lload 7, 2) := by decide +kernel
theorem d_M_cross_110 : decode c_M_cross 110 = .ok (.lmul, 1) := by decide +kernel
theorem d_M_cross_111 : decode c_M_cross 111 = .ok (.lsub, 1) := by decide +kernel
theorem d_M_cross_112 : decode c_M_cross 112 = .ok (.lstore 17, 2) := by decide +kernel
theorem d_M_cross_114 : decode c_M_cross 114 = .ok (.lload 11, 2) := by decide +kernel
theorem d_M_cross_116 : decode c_M_cross 116 = .ok (.lload 5, 2) := by decide +kernel
theorem d_M_cross_118 : decode c_M_cross 118 = .ok (.lmul, 1) := by decide +kernel
theorem d_M_cross_119 : decode c_M_cross 119 = .ok (.lload 13, 2) := by decide +kernel
theorem d_M_cross_121 : decode c_M_cross 121 = .ok (.lload_n 3, 1) := by decide +kernel
theorem d_M_cross_122 : decode c_M_cross 122 = .ok (.lmul, 1) := by decide +kernel
theorem d_M_cross_123 : decode c_M_cross 123 = .ok (.lsub, 1) := by decide +kernel
theorem d_M_cross_124 : decode c_M_cross 124 = .ok (.lstore 19, 2) := by decide +kernel
theorem d_M_cross_126 : decode c_M_cross 126 = .ok (.lload 15, 2) := by decide +kernel
theorem d_M_cross_128 : decode c_M_cross 128 = .ok (.lconst 0, 1) := by decide +kernel
theorem d_M_cross_129 : decode c_M_cross 129 = .ok (.lcmp, 1) := by decide +kernel
theorem d_M_cross_130 : decode c_M_cross 130 = .ok (.ifCond .ge 18, 3) := by decide +kernel
theorem d_M_cross_133 : decode c_M_cross 133 = .ok (.lload 15, 2) := by decide +kernel
theorem d_M_cross_135 : decode c_M_cross 135 = .ok (.lneg, 1) := by decide +kernel
theorem d_M_cross_136 : decode c_M_cross 136 = .ok (.lstore 15, 2) := by decide +kernel
theorem d_M_cross_138 : decode c_M_cross 138 = .ok (.lload 17, 2) := by decide +kernel
theorem d_M_cross_140 : decode c_M_cross 140 = .ok (.lneg, 1) := by decide +kernel
theorem d_M_cross_141 : decode c_M_cross 141 = .ok (.lstore 17, 2) := by decide +kernel
theorem d_M_cross_143 : decode c_M_cross 143 = .ok (.lload 19, 2) := by decide +kernel
theorem d_M_cross_145 : decode c_M_cross 145 = .ok (.lneg, 1) := by decide +kernel
theorem d_M_cross_146 : decode c_M_cross 146 = .ok (.lstore 19, 2) := by decide +kernel
theorem d_M_cross_148 : decode c_M_cross 148 = .ok (.lload 17, 2) := by decide +kernel
theorem d_M_cross_150 : decode c_M_cross 150 = .ok (.lconst 0, 1) := by decide +kernel
theorem d_M_cross_151 : decode c_M_cross 151 = .ok (.lcmp, 1) := by decide +kernel
theorem d_M_cross_152 : decode c_M_cross 152 = .ok (.ifCond .le 26, 3) := by decide +kernel
theorem d_M_cross_155 : decode c_M_cross 155 = .ok (.lload 17, 2) := by decide +kernel
theorem d_M_cross_157 : decode c_M_cross 157 = .ok (.lload 15, 2) := by decide +kernel
theorem d_M_cross_159 : decode c_M_cross 159 = .ok (.lcmp, 1) := by decide +kernel
theorem d_M_cross_160 : decode c_M_cross 160 = .ok (.ifCond .ge 18, 3) := by decide +kernel
theorem d_M_cross_163 : decode c_M_cross 163 = .ok (.lload 19, 2) := by decide +kernel
theorem d_M_cross_165 : decode c_M_cross 165 = .ok (.lconst 0, 1) := by decide +kernel
theorem d_M_cross_166 : decode c_M_cross 166 = .ok (.lcmp, 1) := by decide +kernel
theorem d_M_cross_167 : decode c_M_cross 167 = .ok (.ifCond .le 11, 3) := by decide +kernel
theorem d_M_cross_170 : decode c_M_cross 170 = .ok (.lload 19, 2) := by decide +kernel
theorem d_M_cross_172 : decode c_M_cross 172 = .ok (.lload 15, 2) := by decide +kernel
theorem d_M_cross_174 : decode c_M_cross 174 = .ok (.lcmp, 1) := by decide +kernel
theorem d_M_cross_175 : decode c_M_cross 175 = .ok (.ifCond .lt 5, 3) := by decide +kernel
theorem d_M_cross_178 : decode c_M_cross 178 = .ok (.iconst 0, 1) := by decide +kernel
theorem d_M_cross_179 : decode c_M_cross 179 = .ok (.ireturn, 1) := by decide +kernel
theorem d_M_cross_180 : decode c_M_cross 180 = .ok (.aload_n 0, 1) := by decide +kernel
theorem d_M_cross_181 : decode c_M_cross 181 = .ok (.aload_n 0, 1) := by decide +kernel
theorem d_M_cross_182 : decode c_M_cross 182 = .ok (.iload_n 1, 1) := by decide +kernel
theorem d_M_cross_183 : decode c_M_cross 183 = .ok (.iconst 0, 1) := by decide +kernel
theorem d_M_cross_184 : decode c_M_cross 184 = .ok (.invokevirtual 122, 3) := by decide +kernel
theorem d_M_cross_187 : decode c_M_cross 187 = .ok (.lload_n 3, 1) := by decide +kernel
theorem d_M_cross_188 : decode c_M_cross 188 = .ok (.lload 17, 2) := by decide +kernel
theorem d_M_cross_190 : decode c_M_cross 190 = .ok (.lload 15, 2) := by decide +kernel
theorem d_M_cross_192 : decode c_M_cross 192 = .ok (.invokestatic 126, 3) := by decide +kernel
theorem d_M_cross_195 : decode c_M_cross 195 = .ok (.ladd, 1) := by decide +kernel
theorem d_M_cross_196 : decode c_M_cross 196 = .ok (.l2i, 1) := by decide +kernel
theorem d_M_cross_197 : decode c_M_cross 197 = .ok (.putfield 130, 3) := by decide +kernel
theorem d_M_cross_200 : decode c_M_cross 200 = .ok (.aload_n 0, 1) := by decide +kernel
theorem d_M_cross_201 : decode c_M_cross 201 = .ok (.aload_n 0, 1) := by decide +kernel
theorem d_M_cross_202 : decode c_M_cross 202 = .ok (.iload_n 1, 1) := by decide +kernel
theorem d_M_cross_203 : decode c_M_cross 203 = .ok (.iconst 1, 1) := by decide +kernel
theorem d_M_cross_204 : decode c_M_cross 204 = .ok (.invokevirtual 122, 3) := by decide +kernel
theorem d_M_cross_207 : decode c_M_cross 207 = .ok (.lload 5, 2) := by decide +kernel
theorem d_M_cross_209 : decode c_M_cross 209 = .ok (.lload 17, 2) := by decide +kernel
theorem d_M_cross_211 : decode c_M_cross 211 = .ok (.lload 15, 2) := by decide +kernel
theorem d_M_cross_213 : decode c_M_cross 213 = .ok (.invokestatic 126, 3) := by decide +kernel
theorem d_M_cross_216 : decode c_M_cross 216 = .ok (.ladd, 1) := by decide +kernel
theorem d_M_cross_217 : decode c_M_cross 217 = .ok (.l2i, 1) := by decide +kernel
theorem d_M_cross_218 : decode c_M_cross 218 = .ok (.putfield 133, 3) := by decide +kernel
theorem d_M_cross_221 : decode c_M_cross 221 = .ok (.iconst 1, 1) := by decide +kernel
theorem d_M_cross_222 : decode c_M_cross 222 = .ok (.ireturn, 1) := by decide +kernel
noncomputable section
set_option maxHeartbeats 4000000 in
set_option maxRecDepth 100000 in
theorem k_M_cross (l : Launch) (D : va_G) (E : ClassId × ClassId × ClassId × ClassId) (h0 sz : Nat) (ad : Nat → Nat) (th sg sn hot pc cx cy : Int32) (fo fv to tv : Int64) (fi ti : Int32) (e9 : Nat → Int32) (k j : Nat) (hk : 4 * k + 3 < 8192) (hj : 4 * j + 3 < 8192) (bk : bnd (mq e9 k)) (bj : bnd (mq e9 j)) : Met l y_M_cross (.code y_M_cross c_M_cross 21 (some .boolean) :: gw) ({ frames := 1, cells := 0, slots := 0, locals := 36 } : Room) (wP D E [(h0, .inr (3, mF ad th sg sn hot pc cx cy fo fv to tv fi ti)), ((ad 0), .inl (E.2.1, 8192, .inl e9))] sz [.ref h0, .int (nI k), .int (nI j)]) (va_Qi (fun (r : Int32) (u : Int32 × Int32) => r = b01 (mx_ok (mq e9 k) (mq e9 j)) ∧ (mx_ok (mq e9 k) (mq e9 j) → u = (mx_x (mq e9 k) (mq e9 j), mx_y (mq e9 k) (mq e9 j)))) (wB D (fun u => [(h0, .inr (3, mF ad th sg sn hot pc u.1 u.2 fo fv to tv fi ti)), ((ad 0), .inl (E.2.1, 8192, .inl e9))]) (va_A [(h0, .inr (3, mF ad th sg sn hot pc cx cy fo fv to tv fi ti)), ((ad 0), .inl (E.2.1, 8192, .inl e9))] sz)) (va_A [(h0, .inr (3, mF ad th sg sn hot pc cx cy fo fv to tv fi ti)), ((ad 0), .inl (E.2.1, 8192, .inl e9))] sz)) 0 0 (va_A [(h0, .inr (3, mF ad th sg sn hot pc cx cy fo fv to tv fi ti)), ((ad 0), .inl (E.2.1, 8192, .inl e9))] sz) := by
  refine wr_ofW (Qc := fun A => (va_Qi (fun (r : Int32) (u : Int32 × Int32) => r = b01 (mx_ok (mq e9 k) (mq e9 j)) ∧ (mx_ok (mq e9 k) (mq e9 j) → u = (mx_x (mq e9 k) (mq e9 j), mx_y (mq e9 k) (mq e9 j)))) (wB D (fun u => [(h0, .inr (3, mF ad th sg sn hot pc u.1 u.2 fo fv to tv fi ti)), ((ad 0), .inl (E.2.1, 8192, .inl e9))]) A) A)) (by decide) (Nat.le_of_ble_eq_true rfl) ?_
  intro p e s m below meth c B hP hK A hA hD hS ls hl
  obtain ⟨hx, hb, hrt, hml, hown, hts, hG, hlocks, hin⟩ := B
  have hl : lv_has ls 21 [(0, .ref h0), (1, .int (nI k)), (2, .int (nI j))] := hl
  obtain ⟨q, hq⟩ : ∃ q, q = mq e9 k := ⟨_, rfl⟩
  obtain ⟨o, ho⟩ : ∃ q, q = mq e9 j := ⟨_, rfl⟩
  rw [← hq] at bk
  rw [← ho] at bj
  rw [← hq, ← ho]
  refine lv_aload_n hx hb d_M_cross_0 rfl (lv_at hl 0 rfl) ?_
  refine lv_iload_n hx hb d_M_cross_1 rfl (lv_at hl 1 rfl) ?_
  refine lv_iconst (v := 2) hx hb d_M_cross_2 (by decide) ?_
  have hPc := hP.sub (ws' := [(h0, .inr (3, mF ad th sg sn hot pc cx cy fo fv to tv fi ti)), ((ad 0), .inl (E.2.1, 8192, .inl e9))]) [0, 1] rfl
  refine vp_callSl (W.runV (As := [.int (nI k), .int 2]) (rest := []) ⟨hx, hb, hml, hown, hts⟩ (k_M_end l D E h0 ad th sg sn hot pc cx cy fo fv to tv fi ti e9 k 2 hk (by omega)) (cwV 2 hts (gw_gv wd_787 wd_789 wd_29 wd_42 wd_790) rfl rfl rfl (by decide +kernel) ⟨Nat.le_of_ble_eq_true rfl, Nat.le_of_ble_eq_true rfl⟩) (rP_V 0 hPc hK rfl rfl) rfl rfl hl.1 rfl (lv_room (Nat.le_of_ble_eq_true rfl)) d_M_cross_3 ⟨Nat.le_of_ble_eq_true rfl, Nat.le_of_ble_eq_true rfl⟩) (fun r1 hr1 => ?_)
  obtain rfl : r1 = su q := by rw [hr1, hq]; rfl
  refine lv_aload_n hx hb d_M_cross_6 rfl (lv_at hl 0 rfl) ?_
  refine lv_iload_n hx hb d_M_cross_7 rfl (lv_at hl 1 rfl) ?_
  refine lv_iconst (v := 0) hx hb d_M_cross_8 (by decide) ?_
  have hPc := hP.sub (ws' := [(h0, .inr (3, mF ad th sg sn hot pc cx cy fo fv to tv fi ti)), ((ad 0), .inl (E.2.1, 8192, .inl e9))]) [0, 1] rfl
  refine vp_callSl (W.runV (As := [.int (nI k), .int 0]) (rest := [.long (su q)]) ⟨hx, hb, hml, hown, hts⟩ (k_M_end l D E h0 ad th sg sn hot pc cx cy fo fv to tv fi ti e9 k 0 hk (by omega)) (cwV 2 hts (gw_gv wd_787 wd_789 wd_29 wd_42 wd_790) rfl rfl rfl (by decide +kernel) ⟨Nat.le_of_ble_eq_true rfl, Nat.le_of_ble_eq_true rfl⟩) (rP_V 0 hPc hK rfl rfl) rfl rfl hl.1 rfl (lv_room (Nat.le_of_ble_eq_true rfl)) d_M_cross_9 ⟨Nat.le_of_ble_eq_true rfl, Nat.le_of_ble_eq_true rfl⟩) (fun r2 hr2 => ?_)
  obtain rfl : r2 = sx q := by rw [hr2, hq]; rfl
  refine lv_lsub hx hb d_M_cross_12 ?_
  rw [show ((su q) - (sx q)) = (swx q) from rfl]
  refine lv_lstore_n (lv' := [(3, .long (swx q)), (0, .ref h0), (1, .int (nI k)), (2, .int (nI j))]) hx hb d_M_cross_13 rfl hl (by decide) rfl (fun ls hl => ?_)
  refine lv_aload_n hx hb d_M_cross_14 rfl (lv_at hl 1 rfl) ?_
  refine lv_iload_n hx hb d_M_cross_15 rfl (lv_at hl 2 rfl) ?_
  refine lv_iconst (v := 3) hx hb d_M_cross_16 (by decide) ?_
  have hPc := hP.sub (ws' := [(h0, .inr (3, mF ad th sg sn hot pc cx cy fo fv to tv fi ti)), ((ad 0), .inl (E.2.1, 8192, .inl e9))]) [0, 1] rfl
  refine vp_callSl (W.runV (As := [.int (nI k), .int 3]) (rest := []) ⟨hx, hb, hml, hown, hts⟩ (k_M_end l D E h0 ad th sg sn hot pc cx cy fo fv to tv fi ti e9 k 3 hk (by omega)) (cwV 2 hts (gw_gv wd_787 wd_789 wd_29 wd_42 wd_790) rfl rfl rfl (by decide +kernel) ⟨Nat.le_of_ble_eq_true rfl, Nat.le_of_ble_eq_true rfl⟩) (rP_V 0 hPc hK rfl rfl) rfl rfl hl.1 rfl (lv_room (Nat.le_of_ble_eq_true rfl)) d_M_cross_17 ⟨Nat.le_of_ble_eq_true rfl, Nat.le_of_ble_eq_true rfl⟩) (fun r3 hr3 => ?_)
  obtain rfl : r3 = sv q := by rw [hr3, hq]; rfl
  refine lv_aload_n hx hb d_M_cross_20 rfl (lv_at hl 1 rfl) ?_
  refine lv_iload_n hx hb d_M_cross_21 rfl (lv_at hl 2 rfl) ?_
  refine lv_iconst (v := 1) hx hb d_M_cross_22 (by decide) ?_
  have hPc := hP.sub (ws' := [(h0, .inr (3, mF ad th sg sn hot pc cx cy fo fv to tv fi ti)), ((ad 0), .inl (E.2.1, 8192, .inl e9))]) [0, 1] rfl
  refine vp_callSl (W.runV (As := [.int (nI k), .int 1]) (rest := [.long (sv q)]) ⟨hx, hb, hml, hown, hts⟩ (k_M_end l D E h0 ad th sg sn hot pc cx cy fo fv to tv fi ti e9 k 1 hk (by omega)) (cwV 2 hts (gw_gv wd_787 wd_789 wd_29 wd_42 wd_790) rfl rfl rfl (by decide +kernel) ⟨Nat.le_of_ble_eq_true rfl, Nat.le_of_ble_eq_true rfl⟩) (rP_V 0 hPc hK rfl rfl) rfl rfl hl.1 rfl (lv_room (Nat.le_of_ble_eq_true rfl)) d_M_cross_23 ⟨Nat.le_of_ble_eq_true rfl, Nat.le_of_ble_eq_true rfl⟩) (fun r4 hr4 => ?_)
  obtain rfl : r4 = sy q := by rw [hr4, hq]; rfl
  refine lv_lsub hx hb d_M_cross_26 ?_
  rw [show ((sv q) - (sy q)) = (swy q) from rfl]
  refine lv_lstore (lv' := [(5, .long (swy q)), (3, .long (swx q)), (0, .ref h0), (1, .int (nI k)), (2, .int (nI j))]) hx hb d_M_cross_27 hl (by decide) rfl (fun ls hl => ?_)
  refine lv_aload_n hx hb d_M_cross_29 rfl (lv_at hl 2 rfl) ?_
  refine lv_iload_n hx hb d_M_cross_30 rfl (lv_at hl 4 rfl) ?_
  refine lv_iconst (v := 2) hx hb d_M_cross_31 (by decide) ?_
  have hPc := hP.sub (ws' := [(h0, .inr (3, mF ad th sg sn hot pc cx cy fo fv to tv fi ti)), ((ad 0), .inl (E.2.1, 8192, .inl e9))]) [0, 1] rfl
  refine vp_callSl (W.runV (As := [.int (nI j), .int 2]) (rest := []) ⟨hx, hb, hml, hown, hts⟩ (k_M_end l D E h0 ad th sg sn hot pc cx cy fo fv to tv fi ti e9 j 2 hj (by omega)) (cwV 2 hts (gw_gv wd_787 wd_789 wd_29 wd_42 wd_790) rfl rfl rfl (by decide +kernel) ⟨Nat.le_of_ble_eq_true rfl, Nat.le_of_ble_eq_true rfl⟩) (rP_V 0 hPc hK rfl rfl) rfl rfl hl.1 rfl (lv_room (Nat.le_of_ble_eq_true rfl)) d_M_cross_32 ⟨Nat.le_of_ble_eq_true rfl, Nat.le_of_ble_eq_true rfl⟩) (fun r5 hr5 => ?_)
  obtain rfl : r5 = su o := by rw [hr5, ho]; rfl
  refine lv_aload_n hx hb d_M_cross_35 rfl (lv_at hl 2 rfl) ?_
  refine lv_iload_n hx hb d_M_cross_36 rfl (lv_at hl 4 rfl) ?_
  refine lv_iconst (v := 0) hx hb d_M_cross_37 (by decide) ?_
  have hPc := hP.sub (ws' := [(h0, .inr (3, mF ad th sg sn hot pc cx cy fo fv to tv fi ti)), ((ad 0), .inl (E.2.1, 8192, .inl e9))]) [0, 1] rfl
  refine vp_callSl (W.runV (As := [.int (nI j), .int 0]) (rest := [.long (su o)]) ⟨hx, hb, hml, hown, hts⟩ (k_M_end l D E h0 ad th sg sn hot pc cx cy fo fv to tv fi ti e9 j 0 hj (by omega)) (cwV 2 hts (gw_gv wd_787 wd_789 wd_29 wd_42 wd_790) rfl rfl rfl (by decide +kernel) ⟨Nat.le_of_ble_eq_true rfl, Nat.le_of_ble_eq_true rfl⟩) (rP_V 0 hPc hK rfl rfl) rfl rfl hl.1 rfl (lv_room (Nat.le_of_ble_eq_true rfl)) d_M_cross_38 ⟨Nat.le_of_ble_eq_true rfl, Nat.le_of_ble_eq_true rfl⟩) (fun r6 hr6 => ?_)
  obtain rfl : r6 = sx o := by rw [hr6, ho]; rfl
  refine lv_lsub hx hb d_M_cross_41 ?_
  rw [show ((su o) - (sx o)) = (swx o) from rfl]
  refine lv_lstore (lv' := [(7, .long (swx o)), (5, .long (swy q)), (3, .long (swx q)), (0, .ref h0), (1, .int (nI k)), (2, .int (nI j))]) hx hb d_M_cross_42 hl (by decide) rfl (fun ls hl => ?_)
  refine lv_aload_n hx hb d_M_cross_44 rfl (lv_at hl 3 rfl) ?_
  refine lv_iload_n hx hb d_M_cross_45 rfl (lv_at hl 5 rfl) ?_
  refine lv_iconst (v := 3) hx hb d_M_cross_46 (by decide) ?_
  have hPc := hP.sub (ws' := [(h0, .inr (3, mF ad th sg sn hot pc cx cy fo fv to tv fi ti)), ((ad 0), .inl (E.2.1, 8192, .inl e9))]) [0, 1] rfl
  refine vp_callSl (W.runV (As := [.int (nI j), .int 3]) (rest := []) ⟨hx, hb, hml, hown, hts⟩ (k_M_end l D E h0 ad th sg sn hot pc cx cy fo fv to tv fi ti e9 j 3 hj (by omega)) (cwV 2 hts (gw_gv wd_787 wd_789 wd_29 wd_42 wd_790) rfl rfl rfl (by decide +kernel) ⟨Nat.le_of_ble_eq_true rfl, Nat.le_of_ble_eq_true rfl⟩) (rP_V 0 hPc hK rfl rfl) rfl rfl hl.1 rfl (lv_room (Nat.le_of_ble_eq_true rfl)) d_M_cross_47 ⟨Nat.le_of_ble_eq_true rfl, Nat.le_of_ble_eq_true rfl⟩) (fun r7 hr7 => ?_)
  obtain rfl : r7 = sv o := by rw [hr7, ho]; rfl
  refine lv_aload_n hx hb d_M_cross_50 rfl (lv_at hl 3 rfl) ?_
  refine lv_iload_n hx hb d_M_cross_51 rfl (lv_at hl 5 rfl) ?_
  refine lv_iconst (v := 1) hx hb d_M_cross_52 (by decide) ?_
  have hPc := hP.sub (ws' := [(h0, .inr (3, mF ad th sg sn hot pc cx cy fo fv to tv fi ti)), ((ad 0), .inl (E.2.1, 8192, .inl e9))]) [0, 1] rfl
  refine vp_callSl (W.runV (As := [.int (nI j), .int 1]) (rest := [.long (sv o)]) ⟨hx, hb, hml, hown, hts⟩ (k_M_end l D E h0 ad th sg sn hot pc cx cy fo fv to tv fi ti e9 j 1 hj (by omega)) (cwV 2 hts (gw_gv wd_787 wd_789 wd_29 wd_42 wd_790) rfl rfl rfl (by decide +kernel) ⟨Nat.le_of_ble_eq_true rfl, Nat.le_of_ble_eq_true rfl⟩) (rP_V 0 hPc hK rfl rfl) rfl rfl hl.1 rfl (lv_room (Nat.le_of_ble_eq_true rfl)) d_M_cross_53 ⟨Nat.le_of_ble_eq_true rfl, Nat.le_of_ble_eq_true rfl⟩) (fun r8 hr8 => ?_)
  obtain rfl : r8 = sy o := by rw [hr8, ho]; rfl
  refine lv_lsub hx hb d_M_cross_56 ?_
  rw [show ((sv o) - (sy o)) = (swy o) from rfl]
  refine lv_lstore (lv' := [(9, .long (swy o)), (7, .long (swx o)), (5, .long (swy q)), (3, .long (swx q)), (0, .ref h0), (1, .int (nI k)), (2, .int (nI j))]) hx hb d_M_cross_57 hl (by decide) rfl (fun ls hl => ?_)
  refine lv_aload_n hx hb d_M_cross_59 rfl (lv_at hl 4 rfl) ?_
  refine lv_iload_n hx hb d_M_cross_60 rfl (lv_at hl 6 rfl) ?_
  refine lv_iconst (v := 0) hx hb d_M_cross_61 (by decide) ?_
  have hPc := hP.sub (ws' := [(h0, .inr (3, mF ad th sg sn hot pc cx cy fo fv to tv fi ti)), ((ad 0), .inl (E.2.1, 8192, .inl e9))]) [0, 1] rfl
  refine vp_callSl (W.runV (As := [.int (nI j), .int 0]) (rest := []) ⟨hx, hb, hml, hown, hts⟩ (k_M_end l D E h0 ad th sg sn hot pc cx cy fo fv to tv fi ti e9 j 0 hj (by omega)) (cwV 2 hts (gw_gv wd_787 wd_789 wd_29 wd_42 wd_790) rfl rfl rfl (by decide +kernel) ⟨Nat.le_of_ble_eq_true rfl, Nat.le_of_ble_eq_true rfl⟩) (rP_V 0 hPc hK rfl rfl) rfl rfl hl.1 rfl (lv_room (Nat.le_of_ble_eq_true rfl)) d_M_cross_62 ⟨Nat.le_of_ble_eq_true rfl, Nat.le_of_ble_eq_true rfl⟩) (fun r9 hr9 => ?_)
  obtain rfl : r9 = sx o := by rw [hr9, ho]; rfl
  refine lv_aload_n hx hb d_M_cross_65 rfl (lv_at hl 4 rfl) ?_
  refine lv_iload_n hx hb d_M_cross_66 rfl (lv_at hl 5 rfl) ?_
  refine lv_iconst (v := 0) hx hb d_M_cross_67 (by decide) ?_
  have hPc := hP.sub (ws' := [(h0, .inr (3, mF ad th sg sn hot pc cx cy fo fv to tv fi ti)), ((ad 0), .inl (E.2.1, 8192, .inl e9))]) [0, 1] rfl
  refine vp_callSl (W.runV (As := [.int (nI k), .int 0]) (rest := [.long (sx o)]) ⟨hx, hb, hml, hown, hts⟩ (k_M_end l D E h0 ad th sg sn hot pc cx cy fo fv to tv fi ti e9 k 0 hk (by omega)) (cwV 2 hts (gw_gv wd_787 wd_789 wd_29 wd_42 wd_790) rfl rfl rfl (by decide +kernel) ⟨Nat.le_of_ble_eq_true rfl, Nat.le_of_ble_eq_true rfl⟩) (rP_V 0 hPc hK rfl rfl) rfl rfl hl.1 rfl (lv_room (Nat.le_of_ble_eq_true rfl)) d_M_cross_68 ⟨Nat.le_of_ble_eq_true rfl, Nat.le_of_ble_eq_true rfl⟩) (fun r10 hr10 => ?_)
  obtain rfl : r10 = sx q := by rw [hr10, hq]; rfl
  refine lv_lsub hx hb d_M_cross_71 ?_
  rw [show ((sx o) - (sx q)) = (sx o - sx q) from rfl]
  refine lv_lstore (lv' := [(11, .long (sx o - sx q)), (9, .long (swy o)), (7, .long (swx o)), (5, .long (swy q)), (3, .long (swx q)), (0, .ref h0), (1, .int (nI k)), (2, .int (nI j))]) hx hb d_M_cross_72 hl (by decide) rfl (fun ls hl => ?_)
  refine lv_aload_n hx hb d_M_cross_74 rfl (lv_at hl 5 rfl) ?_
  refine lv_iload_n hx hb d_M_cross_75 rfl (lv_at hl 7 rfl) ?_
  refine lv_iconst (v := 1) hx hb d_M_cross_76 (by decide) ?_
  have hPc := hP.sub (ws' := [(h0, .inr (3, mF ad th sg sn hot pc cx cy fo fv to tv fi ti)), ((ad 0), .inl (E.2.1, 8192, .inl e9))]) [0, 1] rfl
  refine vp_callSl (W.runV (As := [.int (nI j), .int 1]) (rest := []) ⟨hx, hb, hml, hown, hts⟩ (k_M_end l D E h0 ad th sg sn hot pc cx cy fo fv to tv fi ti e9 j 1 hj (by omega)) (cwV 2 hts (gw_gv wd_787 wd_789 wd_29 wd_42 wd_790) rfl rfl rfl (by decide +kernel) ⟨Nat.le_of_ble_eq_true rfl, Nat.le_of_ble_eq_true rfl⟩) (rP_V 0 hPc hK rfl rfl) rfl rfl hl.1 rfl (lv_room (Nat.le_of_ble_eq_true rfl)) d_M_cross_77 ⟨Nat.le_of_ble_eq_true rfl, Nat.le_of_ble_eq_true rfl⟩) (fun r11 hr11 => ?_)
  obtain rfl : r11 = sy o := by rw [hr11, ho]; rfl
  refine lv_aload_n hx hb d_M_cross_80 rfl (lv_at hl 5 rfl) ?_
  refine lv_iload_n hx hb d_M_cross_81 rfl (lv_at hl 6 rfl) ?_
  refine lv_iconst (v := 1) hx hb d_M_cross_82 (by decide) ?_
  have hPc := hP.sub (ws' := [(h0, .inr (3, mF ad th sg sn hot pc cx cy fo fv to tv fi ti)), ((ad 0), .inl (E.2.1, 8192, .inl e9))]) [0, 1] rfl
  refine vp_callSl (W.runV (As := [.int (nI k), .int 1]) (rest := [.long (sy o)]) ⟨hx, hb, hml, hown, hts⟩ (k_M_end l D E h0 ad th sg sn hot pc cx cy fo fv to tv fi ti e9 k 1 hk (by omega)) (cwV 2 hts (gw_gv wd_787 wd_789 wd_29 wd_42 wd_790) rfl rfl rfl (by decide +kernel) ⟨Nat.le_of_ble_eq_true rfl, Nat.le_of_ble_eq_true rfl⟩) (rP_V 0 hPc hK rfl rfl) rfl rfl hl.1 rfl (lv_room (Nat.le_of_ble_eq_true rfl)) d_M_cross_83 ⟨Nat.le_of_ble_eq_true rfl, Nat.le_of_ble_eq_true rfl⟩) (fun r12 hr12 => ?_)
  obtain rfl : r12 = sy q := by rw [hr12, hq]; rfl
  refine lv_lsub hx hb d_M_cross_86 ?_
  rw [show ((sy o) - (sy q)) = (sy o - sy q) from rfl]
  refine lv_lstore (lv' := [(13, .long (sy o - sy q)), (11, .long (sx o - sx q)), (9, .long (swy o)), (7, .long (swx o)), (5, .long (swy q)), (3, .long (swx q)), (0, .ref h0), (1, .int (nI k)), (2, .int (nI j))]) hx hb d_M_cross_87 hl (by decide) rfl (fun ls hl => ?_)
  refine lv_lload_n hx hb d_M_cross_89 rfl (lv_at hl 5 rfl) ?_
  refine lv_lload hx hb d_M_cross_90 (lv_at hl 2 rfl) ?_
  refine lv_lmul hx hb d_M_cross_92 ?_
  refine lv_lload hx hb d_M_cross_93 (lv_at hl 4 rfl) ?_
  refine lv_lload hx hb d_M_cross_95 (lv_at hl 3 rfl) ?_
  refine lv_lmul hx hb d_M_cross_97 ?_
  refine lv_lsub hx hb d_M_cross_98 ?_
  rw [show (((swx q) * (swy o)) - ((swy q) * (swx o))) = (mx_u0 q o) from rfl]
  refine lv_lstore (lv' := [(15, .long (mx_u0 q o)), (13, .long (sy o - sy q)), (11, .long (sx o - sx q)), (9, .long (swy o)), (7, .long (swx o)), (5, .long (swy q)), (3, .long (swx q)), (0, .ref h0), (1, .int (nI k)), (2, .int (nI j))]) hx hb d_M_cross_99 hl (by decide) rfl (fun ls hl => ?_)
  refine lv_lload hx hb d_M_cross_101 (lv_at hl 2 rfl) ?_
  refine lv_lload hx hb d_M_cross_103 (lv_at hl 3 rfl) ?_
  refine lv_lmul hx hb d_M_cross_105 ?_
  refine lv_lload hx hb d_M_cross_106 (lv_at hl 1 rfl) ?_
  refine lv_lload hx hb d_M_cross_108 (lv_at hl 4 rfl) ?_
  refine lv_lmul hx hb d_M_cross_110 ?_
  refine lv_lsub hx hb d_M_cross_111 ?_
  rw [show (((sx o - sx q) * (swy o)) - ((sy o - sy q) * (swx o))) = (mx_10 q o) from rfl]
  refine lv_lstore (lv' := [(17, .long (mx_10 q o)), (15, .long (mx_u0 q o)), (13, .long (sy o - sy q)), (11, .long (sx o - sx q)), (9, .long (swy o)), (7, .long (swx o)), (5, .long (swy q)), (3, .long (swx q)), (0, .ref h0), (1, .int (nI k)), (2, .int (nI j))]) hx hb d_M_cross_112 hl (by decide) rfl (fun ls hl => ?_)
  refine lv_lload hx hb d_M_cross_114 (lv_at hl 3 rfl) ?_
  refine lv_lload hx hb d_M_cross_116 (lv_at hl 6 rfl) ?_
  refine lv_lmul hx hb d_M_cross_118 ?_
  refine lv_lload hx hb d_M_cross_119 (lv_at hl 2 rfl) ?_
  refine lv_lload_n hx hb d_M_cross_121 rfl (lv_at hl 7 rfl) ?_
  refine lv_lmul hx hb d_M_cross_122 ?_
  refine lv_lsub hx hb d_M_cross_123 ?_
  rw [show (((sx o - sx q) * (swy q)) - ((sy o - sy q) * (swx q))) = (mx_20 q o) from rfl]
  refine lv_lstore (lv' := [(19, .long (mx_20 q o)), (17, .long (mx_10 q o)), (15, .long (mx_u0 q o)), (13, .long (sy o - sy q)), (11, .long (sx o - sx q)), (9, .long (swy o)), (7, .long (swx o)), (5, .long (swy q)), (3, .long (swx q)), (0, .ref h0), (1, .int (nI k)), (2, .int (nI j))]) hx hb d_M_cross_124 hl (by decide) rfl (fun ls hl => ?_)
  refine lv_lload hx hb d_M_cross_126 (lv_at hl 2 rfl) ?_
  refine lv_lconst (v := 0) hx hb d_M_cross_128 (by decide) ?_
  refine W.lcmp hx hb d_M_cross_129 ?_
  have J : ∀ (ls : Array Slot), lv_has ls 21 [(0, .ref h0), (1, .int (nI k)), (2, .int (nI j)), (3, .long (swx q)), (5, .long (swy q)), (15, .long (mx_u q o)), (17, .long (mx_1 q o)), (19, .long (mx_2 q o))] → W p l e ({ frames := 1, cells := 0, slots := 0, locals := 36 } : Room) s m ([.ref h0, .int (nI k), .int (nI j)] : List Value).toArray below meth c s.heap [] 0 0 (MQ below (va_Qi (fun (r : Int32) (u : Int32 × Int32) => r = b01 (mx_ok q o) ∧ (mx_ok q o → u = (mx_x q o, mx_y q o))) (wB D (fun u => [(h0, .inr (3, mF ad th sg sn hot pc u.1 u.2 fo fv to tv fi ti)), ((ad 0), .inl (E.2.1, 8192, .inl e9))]) A) A) ([.ref h0, .int (nI k), .int (nI j)] : List Value).toArray s 0 0 A) (F0 m 148 ls []) := by
    intro ls hl
    have K : ∀ (ls : Array Slot), (¬ mx_ok q o) → lv_has ls 21 [(0, .ref h0)] → W p l e ({ frames := 1, cells := 0, slots := 0, locals := 36 } : Room) s m ([.ref h0, .int (nI k), .int (nI j)] : List Value).toArray below meth c s.heap [] 0 0 (MQ below (va_Qi (fun (r : Int32) (u : Int32 × Int32) => r = b01 (mx_ok q o) ∧ (mx_ok q o → u = (mx_x q o, mx_y q o))) (wB D (fun u => [(h0, .inr (3, mF ad th sg sn hot pc u.1 u.2 fo fv to tv fi ti)), ((ad 0), .inl (E.2.1, 8192, .inl e9))]) A) A) ([.ref h0, .int (nI k), .int (nI j)] : List Value).toArray s 0 0 A) (F0 m 178 ls []) := by
      intro ls hn hl
      refine lv_iconst (v := 0) hx hb d_M_cross_178 (by decide) ?_
      exact W.zret (v := 0) (ty := .boolean) hx hb hrt rfl (fun t ht hW => ⟨⟨0, (cx, cy), rfl, ⟨(b01_f hn).symm, fun h => absurd h hn⟩, ⟨by rw [ht]; exact hP, hD⟩⟩, hS.F ht⟩) hS.2.2 d_M_cross_179 hlocks
    refine lv_lload hx hb d_M_cross_148 (lv_at hl 6 rfl) ?_
    refine lv_lconst (v := 0) hx hb d_M_cross_150 (by decide) ?_
    refine W.lcmp hx hb d_M_cross_151 ?_
    refine lv_if_le (tgt := 178) hx hb d_M_cross_152 (by decide) (fun c1 => ?_) (fun c1 => ?_)
    · exact K ls (fun h => lg_le.mp c1 h.1.1) (lv_sub hl [0] rfl)
    · refine lv_lload hx hb d_M_cross_155 (lv_at hl 6 rfl) ?_
      refine lv_lload hx hb d_M_cross_157 (lv_at hl 5 rfl) ?_
      refine W.lcmp hx hb d_M_cross_159 ?_
      refine lv_if_ge (tgt := 178) hx hb d_M_cross_160 (by decide) (fun c2 => ?_) (fun c2 => ?_)
      · exact K ls (fun h => lg_ge.mp c2 h.1.2) (lv_sub hl [0] rfl)
      · refine lv_lload hx hb d_M_cross_163 (lv_at hl 7 rfl) ?_
        refine lv_lconst (v := 0) hx hb d_M_cross_165 (by decide) ?_
        refine W.lcmp hx hb d_M_cross_166 ?_
        refine lv_if_le (tgt := 178) hx hb d_M_cross_167 (by decide) (fun c3 => ?_) (fun c3 => ?_)
        · exact K ls (fun h => lg_le.mp c3 h.2.1) (lv_sub hl [0] rfl)
        · refine lv_lload hx hb d_M_cross_170 (lv_at hl 7 rfl) ?_
          refine lv_lload hx hb d_M_cross_172 (lv_at hl 5 rfl) ?_
          refine W.lcmp hx hb d_M_cross_174 ?_
          refine lv_if_lt (tgt := 180) hx hb d_M_cross_175 (by decide) (fun c4 => ?_) (fun c4 => ?_)
          · have ok : mx_ok q o := ⟨⟨lg_le' c1, lg_ge' c2⟩, lg_le' c3, lg_lt.mp c4⟩
            have hU := mx_u_b bk bj
            have k1 := ok.1.1
            have k2 := ok.1.2
            rw [Int64.lt_iff_toInt_lt] at k1 k2
            rw [show (0 : Int64).toInt = 0 from by decide] at k1
            have hsx := swx_b bk
            have hsy := swy_b bk
            have g1 : mx_1 q o = lN (mx_1 q o).toInt.toNat := i64_lN (by omega)
            have g2 : mx_u q o = lN (mx_u q o).toInt.toNat := i64_lN (by omega)
            refine lv_aload_n hx hb d_M_cross_180 rfl (lv_at hl 0 rfl) ?_
            refine lv_aload_n hx hb d_M_cross_181 rfl (lv_at hl 0 rfl) ?_
            refine lv_iload_n hx hb d_M_cross_182 rfl (lv_at hl 1 rfl) ?_
            refine lv_iconst (v := 0) hx hb d_M_cross_183 (by decide) ?_
            have hPc := hP.sub (ws' := [(h0, .inr (3, mF ad th sg sn hot pc cx cy fo fv to tv fi ti)), ((ad 0), .inl (E.2.1, 8192, .inl e9))]) [0, 1] rfl
            refine vp_callSl (W.runV (As := [.int (nI k), .int 0]) (rest := [.ref h0]) ⟨hx, hb, hml, hown, hts⟩ (k_M_end l D E h0 ad th sg sn hot pc cx cy fo fv to tv fi ti e9 k 0 hk (by omega)) (cwV 2 hts (gw_gv wd_787 wd_789 wd_29 wd_42 wd_790) rfl rfl rfl (by decide +kernel) ⟨Nat.le_of_ble_eq_true rfl, Nat.le_of_ble_eq_true rfl⟩) (rP_V 0 hPc hK rfl rfl) rfl rfl hl.1 rfl (lv_room (Nat.le_of_ble_eq_true rfl)) d_M_cross_184 ⟨Nat.le_of_ble_eq_true rfl, Nat.le_of_ble_eq_true rfl⟩) (fun r13 hr13 => ?_)
            obtain rfl : r13 = sx q := by rw [hr13, hq]; rfl
            refine lv_lload_n hx hb d_M_cross_187 rfl (lv_at hl 3 rfl) ?_
            refine lv_lload hx hb d_M_cross_188 (lv_at hl 6 rfl) ?_
            refine lv_lload hx hb d_M_cross_190 (lv_at hl 5 rfl) ?_
            have hPc := hP.sub (ws' := []) [] rfl
            refine vp_callSl (W.runS (As := [.long (swx q), .long (mx_1 q o), .long (mx_u q o)]) (rest := [.long (sx q), .ref h0]) ⟨hx, hb, hml, hown, hts⟩ (g1.symm ▸ g2.symm ▸ k_M_rounded l D E (swx q) (mx_1 q o).toInt.toNat (mx_u q o).toInt.toNat ⟨by omega, by omega⟩ (by omega) (by omega) (by omega)) (va_cwS 3 hts (gw_gs wd_791 wd_792 wd_42 wd_793) rfl rfl rfl (by decide +kernel) ⟨Nat.le_of_ble_eq_true rfl, Nat.le_of_ble_eq_true rfl⟩) (rP_S hPc hK) rfl rfl hl.1 rfl (lv_room (Nat.le_of_ble_eq_true rfl)) d_M_cross_192 ⟨Nat.le_of_ble_eq_true rfl, Nat.le_of_ble_eq_true rfl⟩) (fun rr0 hrr0 => ?_)
            obtain rfl : rr0 = Int64.ofInt (mx_rx q o) := by rw [show mx_rx q o = rr0.toInt from hrr0.symm, Int64.ofInt_toInt]
            refine lv_ladd hx hb d_M_cross_195 ?_
            refine lv_l2i hx hb d_M_cross_196 rfl ?_
            rw [show (Int64.toInt32 ((sx q) + (Int64.ofInt (mx_rx q o)))) = (mx_x q o) from rfl]
            refine va_put (D := D) (ci := 3) (v := .int (mx_x q o)) (ty := .int) (C := K_M) (T := F_M) (N := 24) hx hb hG in_M t_M t_M_ok n_M hown hK.1 hP hD hS 0 rfl rfl 13 (by decide) (hG _ wd_661) (fun _ h9 => h9) rfl (by decide +kernel) rfl rfl (Nat.le_of_ble_eq_true rfl) d_M_cross_197 (fun H locs hP hD hS => ?_)
            have hP : va_P D vwC [(h0, .inr (3, mF ad th sg sn hot pc (mx_x q o) cy fo fv to tv fi ti)), ((ad 0), .inl (E.2.1, 8192, .inl e9))] H := hP
            have hD : va_D A [(h0, .inr (3, mF ad th sg sn hot pc (mx_x q o) cy fo fv to tv fi ti)), ((ad 0), .inl (E.2.1, 8192, .inl e9))] := hD
            refine lv_aload_n hx hb d_M_cross_200 rfl (lv_at hl 0 rfl) ?_
            refine lv_aload_n hx hb d_M_cross_201 rfl (lv_at hl 0 rfl) ?_
            refine lv_iload_n hx hb d_M_cross_202 rfl (lv_at hl 1 rfl) ?_
            refine lv_iconst (v := 1) hx hb d_M_cross_203 (by decide) ?_
            have hPc := hP.sub (ws' := [(h0, .inr (3, mF ad th sg sn hot pc (mx_x q o) cy fo fv to tv fi ti)), ((ad 0), .inl (E.2.1, 8192, .inl e9))]) [0, 1] rfl
            refine vp_callSl (W.runV (As := [.int (nI k), .int 1]) (rest := [.ref h0]) ⟨hx, hb, hml, hown, hts⟩ (k_M_end l D E h0 ad th sg sn hot pc (mx_x q o) cy fo fv to tv fi ti e9 k 1 hk (by omega)) (cwV 2 hts (gw_gv wd_787 wd_789 wd_29 wd_42 wd_790) rfl rfl rfl (by decide +kernel) ⟨Nat.le_of_ble_eq_true rfl, Nat.le_of_ble_eq_true rfl⟩) (rP_V 0 hPc hK rfl rfl) rfl rfl hl.1 rfl (lv_room (Nat.le_of_ble_eq_true rfl)) d_M_cross_204 ⟨Nat.le_of_ble_eq_true rfl, Nat.le_of_ble_eq_true rfl⟩) (fun r14 hr14 => ?_)
            obtain rfl : r14 = sy q := by rw [hr14, hq]; rfl
            refine lv_lload hx hb d_M_cross_207 (lv_at hl 4 rfl) ?_
            refine lv_lload hx hb d_M_cross_209 (lv_at hl 6 rfl) ?_
            refine lv_lload hx hb d_M_cross_211 (lv_at hl 5 rfl) ?_
            have hPc := hP.sub (ws' := []) [] rfl
            refine vp_callSl (W.runS (As := [.long (swy q), .long (mx_1 q o), .long (mx_u q o)]) (rest := [.long (sy q), .ref h0]) ⟨hx, hb, hml, hown, hts⟩ (g1.symm ▸ g2.symm ▸ k_M_rounded l D E (swy q) (mx_1 q o).toInt.toNat (mx_u q o).toInt.toNat ⟨by omega, by omega⟩ (by omega) (by omega) (by omega)) (va_cwS 3 hts (gw_gs wd_791 wd_792 wd_42 wd_793) rfl rfl rfl (by decide +kernel) ⟨Nat.le_of_ble_eq_true rfl, Nat.le_of_ble_eq_true rfl⟩) (rP_S hPc hK) rfl rfl hl.1 rfl (lv_room (Nat.le_of_ble_eq_true rfl)) d_M_cross_213 ⟨Nat.le_of_ble_eq_true rfl, Nat.le_of_ble_eq_true rfl⟩) (fun rr1 hrr1 => ?_)
            obtain rfl : rr1 = Int64.ofInt (mx_ry q o) := by rw [show mx_ry q o = rr1.toInt from hrr1.symm, Int64.ofInt_toInt]
            refine lv_ladd hx hb d_M_cross_216 ?_
            refine lv_l2i hx hb d_M_cross_217 rfl ?_
            rw [show (Int64.toInt32 ((sy q) + (Int64.ofInt (mx_ry q o)))) = (mx_y q o) from rfl]
            refine va_put (D := D) (ci := 3) (v := .int (mx_y q o)) (ty := .int) (C := K_M) (T := F_M) (N := 24) hx hb hG in_M t_M t_M_ok n_M hown hK.1 hP hD hS 0 rfl rfl 14 (by decide) (hG _ wd_662) (fun _ h9 => h9) rfl (by decide +kernel) rfl rfl (Nat.le_of_ble_eq_true rfl) d_M_cross_218 (fun H locs hP hD hS => ?_)
            have hP : va_P D vwC [(h0, .inr (3, mF ad th sg sn hot pc (mx_x q o) (mx_y q o) fo fv to tv fi ti)), ((ad 0), .inl (E.2.1, 8192, .inl e9))] H := hP
            have hD : va_D A [(h0, .inr (3, mF ad th sg sn hot pc (mx_x q o) (mx_y q o) fo fv to tv fi ti)), ((ad 0), .inl (E.2.1, 8192, .inl e9))] := hD
            refine lv_iconst (v := 1) hx hb d_M_cross_221 (by decide) ?_
            exact W.zret (v := 1) (ty := .boolean) hx hb hrt rfl (fun t ht hW => ⟨⟨1, (mx_x q o, mx_y q o), rfl, ⟨(b01_t ok).symm, fun _ => rfl⟩, ⟨by rw [ht]; exact hP, hD⟩⟩, hS.F ht⟩) hS.2.2 d_M_cross_222 hlocks
          · exact K ls (fun h => c4 (lg_lt.mpr h.2.2)) (lv_sub hl [0] rfl)
  refine lv_if_ge (tgt := 148) hx hb d_M_cross_130 (by decide) (fun c0 => ?_) (fun c0 => ?_)
  · have c0 := lg_ge.mp c0
    have e1 : mx_u0 q o = mx_u q o := (if_neg c0).symm
    have e2 : mx_10 q o = mx_1 q o := (if_neg c0).symm
    have e3 : mx_20 q o = mx_2 q o := (if_neg c0).symm
    rw [e1, e2, e3] at hl
    exact J ls (lv_sub hl [9, 10, 11, 8, 7, 2, 1, 0] rfl)
  · have c0 := lg_ge' c0
    refine lv_lload hx hb d_M_cross_133 (lv_at hl 2 rfl) ?_
    refine lv_lneg hx hb d_M_cross_135 ?_
    rw [show (-(mx_u0 q o)) = (mx_u q o) from (if_pos c0).symm]
    refine lv_lstore (lv' := [(15, .long (mx_u q o)), (19, .long (mx_20 q o)), (17, .long (mx_10 q o)), (13, .long (sy o - sy q)), (11, .long (sx o - sx q)), (9, .long (swy o)), (7, .long (swx o)), (5, .long (swy q)), (3, .long (swx q)), (0, .ref h0), (1, .int (nI k)), (2, .int (nI j))]) hx hb d_M_cross_136 hl (by decide) rfl (fun ls hl => ?_)
    refine lv_lload hx hb d_M_cross_138 (lv_at hl 2 rfl) ?_
    refine lv_lneg hx hb d_M_cross_140 ?_
    rw [show (-(mx_10 q o)) = (mx_1 q o) from (if_pos c0).symm]
    refine lv_lstore (lv' := [(17, .long (mx_1 q o)), (15, .long (mx_u q o)), (19, .long (mx_20 q o)), (13, .long (sy o - sy q)), (11, .long (sx o - sx q)), (9, .long (swy o)), (7, .long (swx o)), (5, .long (swy q)), (3, .long (swx q)), (0, .ref h0), (1, .int (nI k)), (2, .int (nI j))]) hx hb d_M_cross_141 hl (by decide) rfl (fun ls hl => ?_)
    refine lv_lload hx hb d_M_cross_143 (lv_at hl 2 rfl) ?_
    refine lv_lneg hx hb d_M_cross_145 ?_
    rw [show (-(mx_20 q o)) = (mx_2 q o) from (if_pos c0).symm]
    refine lv_lstore (lv' := [(19, .long (mx_2 q o)), (17, .long (mx_1 q o)), (15, .long (mx_u q o)), (13, .long (sy o - sy q)), (11, .long (sx o - sx q)), (9, .long (swy o)), (7, .long (swx o)), (5, .long (swy q)), (3, .long (swx q)), (0, .ref h0), (1, .int (nI k)), (2, .int (nI j))]) hx hb d_M_cross_146 hl (by decide) rfl (fun ls hl => ?_)
    exact J ls (lv_sub hl [9, 10, 11, 8, 7, 2, 1, 0] rfl)
end
end
section
theorem d_M_clear_0 : decode c_M_clear 0 = .ok (.aload_n 0, 1) := by decide +kernel
theorem d_M_clear_1 : decode c_M_clear 1 = .ok (.iconst 0, 1) := by decide +kernel
theorem d_M_clear_2 : decode c_M_clear 2 = .ok (.putfield 46, 3) := by decide +kernel
theorem d_M_clear_5 : decode c_M_clear 5 = .ok (.aload_n 0, 1) := by decide +kernel
theorem d_M_clear_6 : decode c_M_clear 6 = .ok (.getfield 56, 3) := by decide +kernel
theorem d_M_clear_9 : decode c_M_clear 9 = .ok (.istore_n 1, 1) := by decide +kernel
theorem d_M_clear_10 : decode c_M_clear 10 = .ok (.aload_n 0, 1) := by decide +kernel
theorem d_M_clear_11 : decode c_M_clear 11 = .ok (.iconst 0, 1) := by decide +kernel
theorem d_M_clear_12 : decode c_M_clear 12 = .ok (.putfield 56, 3) := by decide +kernel
theorem d_M_clear_15 : decode c_M_clear 15 = .ok (.aload_n 0, 1) := by decide +kernel
theorem d_M_clear_16 : decode c_M_clear 16 = .ok (.invokevirtual 77, 3) := by decide +kernel
theorem d_M_clear_19 : decode c_M_clear 19 = .ok (.iload_n 1, 1) := by decide +kernel
theorem d_M_clear_20 : decode c_M_clear 20 = .ok (.ireturn, 1) := by decide +kernel
theorem d_M_forget_0 : decode c_M_forget 0 = .ok (.aload_n 0, 1) := by decide +kernel
theorem d_M_forget_1 : decode c_M_forget 1 = .ok (.iconst 0, 1) := by decide +kernel
theorem d_M_forget_2 : decode c_M_forget 2 = .ok (.putfield 59, 3) := by decide +kernel
theorem d_M_forget_5 : decode c_M_forget 5 = .ok (.aload_n 0, 1) := by decide +kernel
theorem d_M_forget_6 : decode c_M_forget 6 = .ok (.iconst 0, 1) := by decide +kernel
theorem d_M_forget_7 : decode c_M_forget 7 = .ok (.putfield 63, 3) := by decide +kernel
theorem d_M_forget_10 : decode c_M_forget 10 = .ok (.aload_n 0, 1) := by decide +kernel
theorem d_M_forget_11 : decode c_M_forget 11 = .ok (.iconst 0, 1) := by decide +kernel
theorem d_M_forget_12 : decode c_M_forget 12 = .ok (.putfield 66, 3) := by decide +kernel
theorem d_M_forget_15 : decode c_M_forget 15 = .ok (.iconst 0, 1) := by decide +kernel
theorem d_M_forget_16 : decode c_M_forget 16 = .ok (.istore_n 1, 1) := by decide +kernel
theorem d_M_forget_17 : decode c_M_forget 17 = .ok (.iload_n 1, 1) := by decide +kernel
theorem d_M_forget_18 : decode c_M_forget 18 = .ok (.sipush 2048, 3) := by decide +kernel
theorem d_M_forget_21 : decode c_M_forget 21 = .ok (.if_icmp .gt 16, 3) := by decide +kernel
theorem d_M_forget_24 : decode c_M_forget 24 = .ok (.aload_n 0, 1) := by decide +kernel
theorem d_M_forget_25 : decode c_M_forget 25 = .ok (.getfield 19, 3) := by decide +kernel
theorem d_M_forget_28 : decode c_M_forget 28 = .ok (.iload_n 1, 1) := by decide +kernel
theorem d_M_forget_29 : decode c_M_forget 29 = .ok (.iconst 0, 1) := by decide +kernel
theorem d_M_forget_30 : decode c_M_forget 30 = .ok (.iastore, 1) := by decide +kernel
theorem d_M_forget_31 : decode c_M_forget 31 = .ok (.iinc 1 1, 3) := by decide +kernel
theorem d_M_forget_34 : decode c_M_forget 34 = .ok (.goto (-17), 3) := by decide +kernel
theorem d_M_forget_37 : decode c_M_forget 37 = .ok (.return_, 1) := by decide +kernel
theorem d_M_meets_0 : decode c_M_meets 0 = .ok (.aload_n 0, 1) := by decide +kernel
theorem d_M_meets_1 : decode c_M_meets 1 = .ok (.iconst 0, 1) := by decide +kernel
theorem d_M_meets_2 : decode c_M_meets 2 = .ok (.putfield 46, 3) := by decide +kernel
theorem d_M_meets_5 : decode c_M_meets 5 = .ok (.aload_n 0, 1) := by decide +kernel
theorem d_M_meets_6 : decode c_M_meets 6 = .ok (.iload_n 1, 1) := by decide +kernel
theorem d_M_meets_7 : decode c_M_meets 7 = .ok (.invokevirtual 116, 3) := by decide +kernel
theorem d_M_meets_10 : decode c_M_meets 10 = .ok (.ifCond .ne 17, 3) := by decide +kernel
theorem d_M_meets_13 : decode c_M_meets 13 = .ok (.aload_n 0, 1) := by decide +kernel
theorem d_M_meets_14 : decode c_M_meets 14 = .ok (.iconst 1, 1) := by decide +kernel
theorem d_M_meets_15 : decode c_M_meets 15 = .ok (.invokevirtual 73, 3) := by decide +kernel
theorem d_M_meets_18 : decode c_M_meets 18 = .ok (.ifCond .le 7, 3) := by decide +kernel
theorem d_M_meets_25 : decode c_M_meets 25 = .ok (.iconst 0, 1) := by decide +kernel
theorem d_M_meets_26 : decode c_M_meets 26 = .ok (.ireturn, 1) := by decide +kernel
theorem d_M_meets_27 : decode c_M_meets 27 = .ok (.iload_n 2, 1) := by decide +kernel
theorem d_M_meets_28 : decode c_M_meets 28 = .ok (.invokestatic 69, 3) := by decide +kernel
theorem d_M_meets_31 : decode c_M_meets 31 = .ok (.ifCond .ne 10, 3) := by decide +kernel
theorem d_M_meets_34 : decode c_M_meets 34 = .ok (.iload_n 3, 1) := by decide +kernel
theorem d_M_meets_35 : decode c_M_meets 35 = .ok (.invokestatic 69, 3) := by decide +kernel
theorem d_M_meets_38 : decode c_M_meets 38 = .ok (.ifCond .eq 17, 3) := by decide +kernel
theorem d_M_meets_41 : decode c_M_meets 41 = .ok (.aload_n 0, 1) := by decide +kernel
theorem d_M_meets_42 : decode c_M_meets 42 = .ok (.iconst 2, 1) := by decide +kernel
theorem d_M_meets_43 : decode c_M_meets 43 = .ok (.invokevirtual 73, 3) := by decide +kernel
theorem d_M_meets_46 : decode c_M_meets 46 = .ok (.ifCond .le 7, 3) := by decide +kernel
theorem d_M_meets_53 : decode c_M_meets 53 = .ok (.iconst 0, 1) := by decide +kernel
theorem d_M_meets_54 : decode c_M_meets 54 = .ok (.ireturn, 1) := by decide +kernel
theorem d_M_meets_55 : decode c_M_meets 55 = .ok (.aload_n 0, 1) := by decide +kernel
theorem d_M_meets_56 : decode c_M_meets 56 = .ok (.iload_n 1, 1) := by decide +kernel
theorem d_M_meets_57 : decode c_M_meets 57 = .ok (.iload_n 2, 1) := by decide +kernel
theorem d_M_meets_58 : decode c_M_meets 58 = .ok (.iload_n 3, 1) := by decide +kernel
theorem d_M_meets_59 : decode c_M_meets 59 = .ok (.invokevirtual 119, 3) := by decide +kernel
theorem d_M_meets_62 : decode c_M_meets 62 = .ok (.ireturn, 1) := by decide +kernel
theorem d_M_segment_0 : decode c_M_segment 0 = .ok (.aload_n 0, 1) := by decide +kernel
theorem d_M_segment_1 : decode c_M_segment 1 = .ok (.iconst 0, 1) := by decide +kernel
theorem d_M_segment_2 : decode c_M_segment 2 = .ok (.putfield 46, 3) := by decide +kernel
theorem d_M_segment_5 : decode c_M_segment 5 = .ok (.iload_n 1, 1) := by decide +kernel
theorem d_M_segment_6 : decode c_M_segment 6 = .ok (.invokestatic 69, 3) := by decide +kernel
theorem d_M_segment_9 : decode c_M_segment 9 = .ok (.ifCond .ne 25, 3) := by decide +kernel
theorem d_M_segment_12 : decode c_M_segment 12 = .ok (.iload_n 2, 1) := by decide +kernel
theorem d_M_segment_13 : decode c_M_segment 13 = .ok (.invokestatic 69, 3) := by decide +kernel
theorem d_M_segment_16 : decode c_M_segment 16 = .ok (.ifCond .ne 18, 3) := by decide +kernel
theorem d_M_segment_19 : decode c_M_segment 19 = .ok (.iload_n 3, 1) := by decide +kernel
theorem d_M_segment_20 : decode c_M_segment 20 = .ok (.invokestatic 69, 3) := by decide +kernel
theorem d_M_segment_23 : decode c_M_segment 23 = .ok (.ifCond .ne 11, 3) := by decide +kernel
theorem d_M_segment_26 : decode c_M_segment 26 = .ok (.iload 4, 2) := by decide +kernel
theorem d_M_segment_28 : decode c_M_segment 28 = .ok (.invokestatic 69, 3) := by decide +kernel
theorem d_M_segment_31 : decode c_M_segment 31 = .ok (.ifCond .eq 9, 3) := by decide +kernel
theorem d_M_segment_34 : decode c_M_segment 34 = .ok (.aload_n 0, 1) := by decide +kernel
theorem d_M_segment_35 : decode c_M_segment 35 = .ok (.iconst 1, 1) := by decide +kernel
theorem d_M_segment_36 : decode c_M_segment 36 = .ok (.invokevirtual 73, 3) := by decide +kernel
theorem d_M_segment_39 : decode c_M_segment 39 = .ok (.ireturn, 1) := by decide +kernel
theorem d_M_segment_40 : decode c_M_segment 40 = .ok (.aload_n 0, 1) := by decide +kernel
theorem d_M_segment_41 : decode c_M_segment 41 = .ok (.getfield 56, 3) := by decide +kernel
theorem d_M_segment_44 : decode c_M_segment 44 = .ok (.sipush 2048, 3) := by decide +kernel
theorem d_M_segment_47 : decode c_M_segment 47 = .ok (.if_icmp .ne 9, 3) := by decide +kernel
theorem d_M_segment_50 : decode c_M_segment 50 = .ok (.aload_n 0, 1) := by decide +kernel
theorem d_M_segment_51 : decode c_M_segment 51 = .ok (.iconst 2, 1) := by decide +kernel
theorem d_M_segment_52 : decode c_M_segment 52 = .ok (.invokevirtual 73, 3) := by decide +kernel
theorem d_M_segment_55 : decode c_M_segment 55 = .ok (.ireturn, 1) := by decide +kernel
theorem d_M_segment_56 : decode c_M_segment 56 = .ok (.aload_n 0, 1) := by decide +kernel
theorem d_M_segment_57 : decode c_M_segment 57 = .ok (.invokevirtual 77, 3) := by decide +kernel
theorem d_M_segment_60 : decode c_M_segment 60 = .ok (.iconst 4, 1) := by decide +kernel
theorem d_M_segment_61 : decode c_M_segment 61 = .ok (.aload_n 0, 1) := by decide +kernel
theorem d_M_segment_62 : decode c_M_segment 62 = .ok (.getfield 56, 3) := by decide +kernel
theorem d_M_segment_65 : decode c_M_segment 65 = .ok (.imul, 1) := by decide +kernel
theorem d_M_segment_66 : decode c_M_segment 66 = .ok (.istore 5, 2) := by decide +kernel
theorem d_M_segment_68 : decode c_M_segment 68 = .ok (.aload_n 0, 1) := by decide +kernel
theorem d_M_segment_69 : decode c_M_segment 69 = .ok (.getfield 7, 3) := by decide +kernel
theorem d_M_segment_72 : decode c_M_segment 72 = .ok (.iload 5, 2) := by decide +kernel
theorem d_M_segment_74 : decode c_M_segment 74 = .ok (.iload_n 1, 1) := by decide +kernel
theorem d_M_segment_75 : decode c_M_segment 75 = .ok (.iastore, 1) := by decide +kernel
theorem d_M_segment_76 : decode c_M_segment 76 = .ok (.aload_n 0, 1) := by decide +kernel
theorem d_M_segment_77 : decode c_M_segment 77 = .ok (.getfield 7, 3) := by decide +kernel
theorem d_M_segment_80 : decode c_M_segment 80 = .ok (.iload 5, 2) := by decide +kernel
theorem d_M_segment_82 : decode c_M_segment 82 = .ok (.iconst 1, 1) := by decide +kernel
theorem d_M_segment_83 : decode c_M_segment 83 = .ok (.iadd, 1) := by decide +kernel
theorem d_M_segment_84 : decode c_M_segment 84 = .ok (.iload_n 2, 1) := by decide +kernel
theorem d_M_segment_85 : decode c_M_segment 85 = .ok (.iastore, 1) := by decide +kernel
theorem d_M_segment_86 : decode c_M_segment 86 = .ok (.aload_n 0, 1) := by decide +kernel
theorem d_M_segment_87 : decode c_M_segment 87 = .ok (.getfield 7, 3) := by decide +kernel
theorem d_M_segment_90 : decode c_M_segment 90 = .ok (.iload 5, 2) := by decide +kernel
theorem d_M_segment_92 : decode c_M_segment 92 = .ok (.iconst 2, 1) := by decide +kernel
theorem d_M_segment_93 : decode c_M_segment 93 = .ok (.iadd, 1) := by decide +kernel
theorem d_M_segment_94 : decode c_M_segment 94 = .ok (.iload_n 3, 1) := by decide +kernel
theorem d_M_segment_95 : decode c_M_segment 95 = .ok (.iastore, 1) := by decide +kernel
theorem d_M_segment_96 : decode c_M_segment 96 = .ok (.aload_n 0, 1) := by decide +kernel
theorem d_M_segment_97 : decode c_M_segment 97 = .ok (.getfield 7, 3) := by decide +kernel
theorem d_M_segment_100 : decode c_M_segment 100 = .ok (.iload 5, 2) := by decide +kernel
theorem d_M_segment_102 : decode c_M_segment 102 = .ok (.iconst 3, 1) := by decide +kernel
theorem d_M_segment_103 : decode c_M_segment 103 = .ok (.iadd, 1) := by decide +kernel
theorem d_M_segment_104 : decode c_M_segment 104 = .ok (.iload 4, 2) := by decide +kernel
theorem d_M_segment_106 : decode c_M_segment 106 = .ok (.iastore, 1) := by decide +kernel
theorem d_M_segment_107 : decode c_M_segment 107 = .ok (.aload_n 0, 1) := by decide +kernel
theorem d_M_segment_108 : decode c_M_segment 108 = .ok (.dup, 1) := by decide +kernel
theorem d_M_segment_109 : decode c_M_segment 109 = .ok (.getfield 56, 3) := by decide +kernel
theorem d_M_segment_112 : decode c_M_segment 112 = .ok (.iconst 1, 1) := by decide +kernel
theorem d_M_segment_113 : decode c_M_segment 113 = .ok (.iadd, 1) := by decide +kernel
theorem d_M_segment_114 : decode c_M_segment 114 = .ok (.putfield 56, 3) := by decide +kernel
theorem d_M_segment_117 : decode c_M_segment 117 = .ok (.aload_n 0, 1) := by decide +kernel
theorem d_M_segment_118 : decode c_M_segment 118 = .ok (.getfield 56, 3) := by decide +kernel
theorem d_M_segment_121 : decode c_M_segment 121 = .ok (.iconst 1, 1) := by decide +kernel
theorem d_M_segment_122 : decode c_M_segment 122 = .ok (.isub, 1) := by decide +kernel
theorem d_M_segment_123 : decode c_M_segment 123 = .ok (.ireturn, 1) := by decide +kernel
noncomputable section
def mg_z (bg : Nat → Int32) (k : Nat) : Nat → Int32 := fun j => if j < k then 0 else bg j
theorem mg_z_s (bg : Nat → Int32) (k : Nat) : upd (mg_z bg k) k 0 = mg_z bg (k + 1) := by
  funext j
  by_cases e : j = k
  · subst e
    rw [pk_us, mg_z, if_pos (by omega)]
  · rw [pk_un e, mg_z, mg_z]
    by_cases c : j < k
    · rw [if_pos c, if_pos (by omega)]
    · rw [if_neg c, if_neg (by omega)]
theorem mg_z_0 (bg : Nat → Int32) : mg_z bg 0 = bg := by
  funext j
  exact if_neg (by omega)
set_option maxHeartbeats 4000000 in
set_option maxRecDepth 100000 in
theorem k_M_forget (l : Launch) (D : va_G) (E : ClassId × ClassId × ClassId × ClassId) (h0 sz : Nat) (ad : Nat → Nat) (th sg sn hot pc cx cy : Int32) (fo fv to tv : Int64) (fi ti : Int32) (bg : Nat → Int32) : Met l y_M_forget (.code y_M_forget c_M_forget 2 none :: gw) ({ frames := 0, cells := 0, slots := 0, locals := 0 } : Room) (wP D E [(h0, .inr (3, mF ad th sg sn hot pc cx cy fo fv to tv fi ti)), ((ad 3), .inl (E.2.1, 2049, .inl bg))] sz [.ref h0]) (va_Qv (fun (u : Unit) => True) (wB D (fun _ => [(h0, .inr (3, mF ad th sg 0 0 0 cx cy fo fv to tv fi ti)), ((ad 3), .inl (E.2.1, 2049, .inl (mg_z bg 2049)))]) (va_A [(h0, .inr (3, mF ad th sg sn hot pc cx cy fo fv to tv fi ti)), ((ad 3), .inl (E.2.1, 2049, .inl bg))] sz)) (va_A [(h0, .inr (3, mF ad th sg sn hot pc cx cy fo fv to tv fi ti)), ((ad 3), .inl (E.2.1, 2049, .inl bg))] sz)) 0 0 (va_A [(h0, .inr (3, mF ad th sg sn hot pc cx cy fo fv to tv fi ti)), ((ad 3), .inl (E.2.1, 2049, .inl bg))] sz) := by
  refine wr_ofW (Qc := fun A => (va_Qv (fun (u : Unit) => True) (wB D (fun _ => [(h0, .inr (3, mF ad th sg 0 0 0 cx cy fo fv to tv fi ti)), ((ad 3), .inl (E.2.1, 2049, .inl (mg_z bg 2049)))]) A) A)) (by decide) (Nat.le_of_ble_eq_true rfl) ?_
  intro p e s m below meth c B hP hK A hA hD hS ls hl
  obtain ⟨hx, hb, hrt, hml, hown, hts, hG, hlocks, hin⟩ := B
  have hl : lv_has ls 2 [(0, .ref h0)] := hl
  refine lv_aload_n hx hb d_M_forget_0 rfl (lv_at hl 0 rfl) ?_
  refine lv_iconst (v := 0) hx hb d_M_forget_1 (by decide) ?_
  refine va_put (D := D) (ci := 3) (v := .int 0) (ty := .boolean) (C := K_M) (T := F_M) (N := 24) hx hb hG in_M t_M t_M_ok n_M hown hK.1 hP hD hS 0 rfl rfl 3 (by decide) (hG _ wd_651) (fun _ h9 => h9) rfl (by decide +kernel) rfl rfl (Nat.le_of_ble_eq_true rfl) d_M_forget_2 (fun H locs hP hD hS => ?_)
  have hP : va_P D vwC [(h0, .inr (3, mF ad th sg 0 hot pc cx cy fo fv to tv fi ti)), ((ad 3), .inl (E.2.1, 2049, .inl bg))] H := hP
  have hD : va_D A [(h0, .inr (3, mF ad th sg 0 hot pc cx cy fo fv to tv fi ti)), ((ad 3), .inl (E.2.1, 2049, .inl bg))] := hD
  refine lv_aload_n hx hb d_M_forget_5 rfl (lv_at hl 0 rfl) ?_
  refine lv_iconst (v := 0) hx hb d_M_forget_6 (by decide) ?_
  refine va_put (D := D) (ci := 3) (v := .int 0) (ty := .int) (C := K_M) (T := F_M) (N := 24) hx hb hG in_M t_M t_M_ok n_M hown hK.1 hP hD hS 0 rfl rfl 4 (by decide) (hG _ wd_652) (fun _ h9 => h9) rfl (by decide +kernel) rfl rfl (Nat.le_of_ble_eq_true rfl) d_M_forget_7 (fun H locs hP hD hS => ?_)
  have hP : va_P D vwC [(h0, .inr (3, mF ad th sg 0 0 pc cx cy fo fv to tv fi ti)), ((ad 3), .inl (E.2.1, 2049, .inl bg))] H := hP
  have hD : va_D A [(h0, .inr (3, mF ad th sg 0 0 pc cx cy fo fv to tv fi ti)), ((ad 3), .inl (E.2.1, 2049, .inl bg))] := hD
  refine lv_aload_n hx hb d_M_forget_10 rfl (lv_at hl 0 rfl) ?_
  refine lv_iconst (v := 0) hx hb d_M_forget_11 (by decide) ?_
  refine va_put (D := D) (ci := 3) (v := .int 0) (ty := .int) (C := K_M) (T := F_M) (N := 24) hx hb hG in_M t_M t_M_ok n_M hown hK.1 hP hD hS 0 rfl rfl 9 (by decide) (hG _ wd_657) (fun _ h9 => h9) rfl (by decide +kernel) rfl rfl (Nat.le_of_ble_eq_true rfl) d_M_forget_12 (fun H locs hP hD hS => ?_)
  have hP : va_P D vwC [(h0, .inr (3, mF ad th sg 0 0 0 cx cy fo fv to tv fi ti)), ((ad 3), .inl (E.2.1, 2049, .inl bg))] H := hP
  have hD : va_D A [(h0, .inr (3, mF ad th sg 0 0 0 cx cy fo fv to tv fi ti)), ((ad 3), .inl (E.2.1, 2049, .inl bg))] := hD
  refine lv_iconst (v := 0) hx hb d_M_forget_15 (by decide) ?_
  refine lv_istore_n (lv' := [(1, .int 0), (0, .ref h0)]) hx hb d_M_forget_16 rfl hl (by decide) rfl (fun ls hl => ?_)
  have loop : ∀ (fu : Nat) (k : Nat) (H : Heap) (locs : List Loc) (ls : Array Slot), (k ≤ 2049) → (2049 < k + fu) → va_P D vwC [(h0, .inr (3, mF ad th sg 0 0 0 cx cy fo fv to tv fi ti)), ((ad 3), .inl (E.2.1, 2049, .inl (mg_z bg k)))] H → va_D A [(h0, .inr (3, mF ad th sg 0 0 0 cx cy fo fv to tv fi ti)), ((ad 3), .inl (E.2.1, 2049, .inl (mg_z bg k)))] → va_S A s.heap H locs → lv_has ls 2 [(0, .ref h0), (1, .int (nI k))] → W p l e ({ frames := 0, cells := 0, slots := 0, locals := 0 } : Room) s m ([.ref h0] : List Value).toArray below meth c H locs 0 0 (MQ below (va_Qv (fun (u : Unit) => True) (wB D (fun _ => [(h0, .inr (3, mF ad th sg 0 0 0 cx cy fo fv to tv fi ti)), ((ad 3), .inl (E.2.1, 2049, .inl (mg_z bg 2049)))]) A) A) ([.ref h0] : List Value).toArray s 0 0 A) (F0 m 17 ls []) := by
    intro fu
    induction fu with
    | zero =>
      intro k H locs ls h1 h2 hP hD hS hl
      omega
    | succ fu ih =>
      intro k H locs ls h1 h2 hP hD hS hl
      refine lv_iload_n hx hb d_M_forget_17 rfl (lv_at hl 1 rfl) ?_
      refine lv_sipush (v := 2048) hx hb d_M_forget_18 (by decide) ?_
      refine lv_icmp_gt (tgt := 37) hx hb d_M_forget_21 (by decide) (fun c1 => ?_) (fun c1 => ?_)
      · have q : 2048 < k := (nI_ltI (a := 2048) (by omega) (by omega)).mp c1
        obtain rfl : k = 2049 := by omega
        exact W.vret hx hb hrt (fun t ht hW => ⟨⟨(), rfl, trivial, ⟨by rw [ht]; exact hP, hD⟩⟩, hS.F ht⟩) hS.2.2 d_M_forget_37 hlocks
      · have q : k < 2049 := Nat.not_le.mp (fun h => c1 ((nI_ltI (a := 2048) (b := k) (by omega) (by omega)).mpr h))
        refine lv_aload_n hx hb d_M_forget_24 rfl (lv_at hl 0 rfl) ?_
        refine va_get (D := D) (ci := 3) (v := .ref (ad 3)) (C := K_M) (T := F_M) (N := 24) hx hb hG in_M hown hK.1 hP 0 rfl rfl 7 (by decide) (hG _ wd_655) (fun _ h9 => h9) rfl d_M_forget_25 ?_
        refine lv_iload_n hx hb d_M_forget_28 rfl (lv_at hl 1 rfl) ?_
        refine lv_iconst (v := 0) hx hb d_M_forget_29 (by decide) ?_
        refine va_iast hx hb hK.1 hP hD hS 1 1 rfl rfl (vp_in_nI (by omega) (by omega)) d_M_forget_30 (fun H locs hP hD hS => ?_)
        rw [show upd (mg_z bg k) (Int32.toNatClampNeg (nI k)) 0 = (mg_z bg (k + 1)) from by rw [nI_clamp (by omega)]; exact mg_z_s bg k] at hP hD
        have hP : va_P D vwC [(h0, .inr (3, mF ad th sg 0 0 0 cx cy fo fv to tv fi ti)), ((ad 3), .inl (E.2.1, 2049, .inl (mg_z bg (k + 1))))] H := hP
        have hD : va_D A [(h0, .inr (3, mF ad th sg 0 0 0 cx cy fo fv to tv fi ti)), ((ad 3), .inl (E.2.1, 2049, .inl (mg_z bg (k + 1))))] := hD
        refine lv_iinc (v := nI (k + 1)) (lv' := [(1, .int (nI (k + 1))), (0, .ref h0)]) hx hb d_M_forget_31 hl (k := 1) rfl (iinc_p _) (by decide) rfl (fun ls hl => ?_)
        refine lv_goto (tgt := 17) hx hb d_M_forget_34 (by decide) ?_
        exact ih (k + 1) H locs ls (by omega) (by omega) hP hD hS (lv_sub hl [1, 0] rfl)
  have hP : va_P D vwC [(h0, .inr (3, mF ad th sg 0 0 0 cx cy fo fv to tv fi ti)), ((ad 3), .inl (E.2.1, 2049, .inl (mg_z bg 0)))] H := by rw [mg_z_0]; exact hP
  have hD : va_D A [(h0, .inr (3, mF ad th sg 0 0 0 cx cy fo fv to tv fi ti)), ((ad 3), .inl (E.2.1, 2049, .inl (mg_z bg 0)))] := by rw [mg_z_0]; exact hD
  exact loop 2050 0 _ _ ls (by omega) (by omega) hP hD hS (lv_sub hl [1, 0] rfl)
set_option maxHeartbeats 4000000 in
set_option maxRecDepth 100000 in
theorem k_M_segment_f (l : Launch) (D : va_G) (E : ClassId × ClassId × ClassId × ClassId) (h0 sz : Nat) (ad : Nat → Nat) (th sg sn hot pc cx cy : Int32) (fo fv to tv : Int64) (fi ti : Int32) (x y x2 y2 : Int32) (hf : mw_far x ∨ mw_far y ∨ mw_far x2 ∨ mw_far y2) : Met l y_M_segment (.code y_M_segment c_M_segment 6 (some .int) :: gw) ({ frames := 2, cells := 0, slots := 0, locals := 60 } : Room) (wP D E [(h0, .inr (3, mF ad th sg sn hot pc cx cy fo fv to tv fi ti))] sz [.ref h0, .int x, .int y, .int x2, .int y2]) (va_Qi (fun (r : Int32) (u : Unit) => r = 0) (wB D (fun _ => [(h0, .inr (3, mF ad 1 sg sn hot pc cx cy fo fv to tv fi ti))]) (va_A [(h0, .inr (3, mF ad th sg sn hot pc cx cy fo fv to tv fi ti))] sz)) (va_A [(h0, .inr (3, mF ad th sg sn hot pc cx cy fo fv to tv fi ti))] sz)) 0 0 (va_A [(h0, .inr (3, mF ad th sg sn hot pc cx cy fo fv to tv fi ti))] sz) := by
  refine wr_ofW (Qc := fun A => (va_Qi (fun (r : Int32) (u : Unit) => r = 0) (wB D (fun _ => [(h0, .inr (3, mF ad 1 sg sn hot pc cx cy fo fv to tv fi ti))]) A) A)) (by decide) (Nat.le_of_ble_eq_true rfl) ?_
  intro p e s m below meth c B hP hK A hA hD hS ls hl
  obtain ⟨hx, hb, hrt, hml, hown, hts, hG, hlocks, hin⟩ := B
  have hl : lv_has ls 6 [(0, .ref h0), (1, .int x), (2, .int y), (3, .int x2), (4, .int y2)] := hl
  refine lv_aload_n hx hb d_M_segment_0 rfl (lv_at hl 0 rfl) ?_
  refine lv_iconst (v := 0) hx hb d_M_segment_1 (by decide) ?_
  refine va_put (D := D) (ci := 3) (v := .int 0) (ty := .int) (C := K_M) (T := F_M) (N := 24) hx hb hG in_M t_M t_M_ok n_M hown hK.1 hP hD hS 0 rfl rfl 0 (by decide) (hG _ wd_648) (fun _ h9 => h9) rfl (by decide +kernel) rfl rfl (Nat.le_of_ble_eq_true rfl) d_M_segment_2 (fun H locs hP hD hS => ?_)
  have hP : va_P D vwC [(h0, .inr (3, mF ad 0 sg sn hot pc cx cy fo fv to tv fi ti))] H := hP
  have hD : va_D A [(h0, .inr (3, mF ad 0 sg sn hot pc cx cy fo fv to tv fi ti))] := hD
  refine lv_iload_n hx hb d_M_segment_5 rfl (lv_at hl 1 rfl) ?_
  have hPc := hP.sub (ws' := []) [] rfl
  refine vp_callSi (W.runS (As := [.int x]) (rest := []) ⟨hx, hb, hml, hown, hts⟩ (k_M_isFar l D E x) (va_cwS 1 hts (gw_gs wd_731 wd_732 wd_42 wd_733) rfl rfl rfl (by decide +kernel) ⟨Nat.le_of_ble_eq_true rfl, Nat.le_of_ble_eq_true rfl⟩) (rP_S hPc hK) rfl rfl hl.1 rfl (lv_room (Nat.le_of_ble_eq_true rfl)) d_M_segment_6 ⟨Nat.le_of_ble_eq_true rfl, Nat.le_of_ble_eq_true rfl⟩) (fun f0 hf0 => ?_)
  refine lv_if_ne (tgt := 34) hx hb d_M_segment_9 (by decide) (fun c0 => ?_) (fun c0 => ?_)
  · rw [hf0] at c0
    refine lv_aload_n hx hb d_M_segment_34 rfl (lv_at hl 0 rfl) ?_
    refine lv_iconst (v := 1) hx hb d_M_segment_35 (by decide) ?_
    have hPc := hP.sub (ws' := [(h0, .inr (3, mF ad 0 sg sn hot pc cx cy fo fv to tv fi ti))]) [0] rfl
    have hDc := hD.sub (ws' := [(h0, .inr (3, mF ad 0 sg sn hot pc cx cy fo fv to tv fi ti))]) [0] (by decide) rfl
    have hFc := va_free (wc := [(h0, .inr (3, mF ad 0 sg sn hot pc cx cy fo fv to tv fi ti))]) hD hS hA [0] rfl
    refine va_calli (va_runV (As := [.int 1]) (rest := []) ⟨hx, hb, hml, hown, hts⟩ (k_M_fail l D E h0 H.size ad 0 sg sn hot pc cx cy fo fv to tv fi ti 1) (cwV 1 hts (gw_gv wd_739 wd_741 wd_21 wd_42 wd_742) rfl rfl rfl (by decide +kernel) ⟨Nat.le_of_ble_eq_true rfl, Nat.le_of_ble_eq_true rfl⟩) (wP_V 0 hPc hK hDc rfl rfl) rfl rfl hl.1 rfl (lv_room (Nat.le_of_ble_eq_true rfl)) d_M_segment_36 ⟨Nat.le_of_ble_eq_true rfl, Nat.le_of_ble_eq_true rfl⟩) hS (fun q _ h => hFc q h) hFc (fun rf1 u9 t H1 locs ht hvm hw hB hz1 hk1 hS => ?_)
    obtain ⟨hP1, hD1⟩ := hB
    rw [ht] at hP1
    obtain ⟨hP, hD⟩ := va_join (wr := []) (w1 := [(h0, .inr (3, mF ad 1 sg sn hot pc cx cy fo fv to tv fi ti))]) hP hD [0] [] rfl rfl (by decide) (by decide) hk1 hFc hP1 hD1
    generalize H1 = H at hP hS ⊢
    have hP : va_P D vwC [(h0, .inr (3, mF ad 1 sg sn hot pc cx cy fo fv to tv fi ti))] H := hP
    have hD : va_D A [(h0, .inr (3, mF ad 1 sg sn hot pc cx cy fo fv to tv fi ti))] := hD
    obtain rfl : rf1 = 0 := hw
    exact W.iret (v := 0) hx hb hrt (fun t ht hW => ⟨⟨0, (), rfl, rfl, ⟨by rw [ht]; exact hP, hD⟩⟩, hS.F ht⟩) hS.2.2 d_M_segment_39 hlocks
  · rw [hf0] at c0
    refine lv_iload_n hx hb d_M_segment_12 rfl (lv_at hl 2 rfl) ?_
    have hPc := hP.sub (ws' := []) [] rfl
    refine vp_callSi (W.runS (As := [.int y]) (rest := []) ⟨hx, hb, hml, hown, hts⟩ (k_M_isFar l D E y) (va_cwS 1 hts (gw_gs wd_731 wd_732 wd_42 wd_733) rfl rfl rfl (by decide +kernel) ⟨Nat.le_of_ble_eq_true rfl, Nat.le_of_ble_eq_true rfl⟩) (rP_S hPc hK) rfl rfl hl.1 rfl (lv_room (Nat.le_of_ble_eq_true rfl)) d_M_segment_13 ⟨Nat.le_of_ble_eq_true rfl, Nat.le_of_ble_eq_true rfl⟩) (fun f1 hf1 => ?_)
    refine lv_if_ne (tgt := 34) hx hb d_M_segment_16 (by decide) (fun c1 => ?_) (fun c1 => ?_)
    · rw [hf1] at c1
      refine lv_aload_n hx hb d_M_segment_34 rfl (lv_at hl 0 rfl) ?_
      refine lv_iconst (v := 1) hx hb d_M_segment_35 (by decide) ?_
      have hPc := hP.sub (ws' := [(h0, .inr (3, mF ad 0 sg sn hot pc cx cy fo fv to tv fi ti))]) [0] rfl
      have hDc := hD.sub (ws' := [(h0, .inr (3, mF ad 0 sg sn hot pc cx cy fo fv to tv fi ti))]) [0] (by decide) rfl
      have hFc := va_free (wc := [(h0, .inr (3, mF ad 0 sg sn hot pc cx cy fo fv to tv fi ti))]) hD hS hA [0] rfl
      refine va_calli (va_runV (As := [.int 1]) (rest := []) ⟨hx, hb, hml, hown, hts⟩ (k_M_fail l D E h0 H.size ad 0 sg sn hot pc cx cy fo fv to tv fi ti 1) (cwV 1 hts (gw_gv wd_739 wd_741 wd_21 wd_42 wd_742) rfl rfl rfl (by decide +kernel) ⟨Nat.le_of_ble_eq_true rfl, Nat.le_of_ble_eq_true rfl⟩) (wP_V 0 hPc hK hDc rfl rfl) rfl rfl hl.1 rfl (lv_room (Nat.le_of_ble_eq_true rfl)) d_M_segment_36 ⟨Nat.le_of_ble_eq_true rfl, Nat.le_of_ble_eq_true rfl⟩) hS (fun q _ h => hFc q h) hFc (fun rf2 u9 t H1 locs ht hvm hw hB hz1 hk1 hS => ?_)
      obtain ⟨hP1, hD1⟩ := hB
      rw [ht] at hP1
      obtain ⟨hP, hD⟩ := va_join (wr := []) (w1 := [(h0, .inr (3, mF ad 1 sg sn hot pc cx cy fo fv to tv fi ti))]) hP hD [0] [] rfl rfl (by decide) (by decide) hk1 hFc hP1 hD1
      generalize H1 = H at hP hS ⊢
      have hP : va_P D vwC [(h0, .inr (3, mF ad 1 sg sn hot pc cx cy fo fv to tv fi ti))] H := hP
      have hD : va_D A [(h0, .inr (3, mF ad 1 sg sn hot pc cx cy fo fv to tv fi ti))] := hD
      obtain rfl : rf2 = 0 := hw
      exact W.iret (v := 0) hx hb hrt (fun t ht hW => ⟨⟨0, (), rfl, rfl, ⟨by rw [ht]; exact hP, hD⟩⟩, hS.F ht⟩) hS.2.2 d_M_segment_39 hlocks
    · rw [hf1] at c1
      refine lv_iload_n hx hb d_M_segment_19 rfl (lv_at hl 3 rfl) ?_
      have hPc := hP.sub (ws' := []) [] rfl
      refine vp_callSi (W.runS (As := [.int x2]) (rest := []) ⟨hx, hb, hml, hown, hts⟩ (k_M_isFar l D E x2) (va_cwS 1 hts (gw_gs wd_731 wd_732 wd_42 wd_733) rfl rfl rfl (by decide +kernel) ⟨Nat.le_of_ble_eq_true rfl, Nat.le_of_ble_eq_true rfl⟩) (rP_S hPc hK) rfl rfl hl.1 rfl (lv_room (Nat.le_of_ble_eq_true rfl)) d_M_segment_20 ⟨Nat.le_of_ble_eq_true rfl, Nat.le_of_ble_eq_true rfl⟩) (fun f2 hf2 => ?_)
      refine lv_if_ne (tgt := 34) hx hb d_M_segment_23 (by decide) (fun c2 => ?_) (fun c2 => ?_)
      · rw [hf2] at c2
        refine lv_aload_n hx hb d_M_segment_34 rfl (lv_at hl 0 rfl) ?_
        refine lv_iconst (v := 1) hx hb d_M_segment_35 (by decide) ?_
        have hPc := hP.sub (ws' := [(h0, .inr (3, mF ad 0 sg sn hot pc cx cy fo fv to tv fi ti))]) [0] rfl
        have hDc := hD.sub (ws' := [(h0, .inr (3, mF ad 0 sg sn hot pc cx cy fo fv to tv fi ti))]) [0] (by decide) rfl
        have hFc := va_free (wc := [(h0, .inr (3, mF ad 0 sg sn hot pc cx cy fo fv to tv fi ti))]) hD hS hA [0] rfl
        refine va_calli (va_runV (As := [.int 1]) (rest := []) ⟨hx, hb, hml, hown, hts⟩ (k_M_fail l D E h0 H.size ad 0 sg sn hot pc cx cy fo fv to tv fi ti 1) (cwV 1 hts (gw_gv wd_739 wd_741 wd_21 wd_42 wd_742) rfl rfl rfl (by decide +kernel) ⟨Nat.le_of_ble_eq_true rfl, Nat.le_of_ble_eq_true rfl⟩) (wP_V 0 hPc hK hDc rfl rfl) rfl rfl hl.1 rfl (lv_room (Nat.le_of_ble_eq_true rfl)) d_M_segment_36 ⟨Nat.le_of_ble_eq_true rfl, Nat.le_of_ble_eq_true rfl⟩) hS (fun q _ h => hFc q h) hFc (fun rf3 u9 t H1 locs ht hvm hw hB hz1 hk1 hS => ?_)
        obtain ⟨hP1, hD1⟩ := hB
        rw [ht] at hP1
        obtain ⟨hP, hD⟩ := va_join (wr := []) (w1 := [(h0, .inr (3, mF ad 1 sg sn hot pc cx cy fo fv to tv fi ti))]) hP hD [0] [] rfl rfl (by decide) (by decide) hk1 hFc hP1 hD1
        generalize H1 = H at hP hS ⊢
        have hP : va_P D vwC [(h0, .inr (3, mF ad 1 sg sn hot pc cx cy fo fv to tv fi ti))] H := hP
        have hD : va_D A [(h0, .inr (3, mF ad 1 sg sn hot pc cx cy fo fv to tv fi ti))] := hD
        obtain rfl : rf3 = 0 := hw
        exact W.iret (v := 0) hx hb hrt (fun t ht hW => ⟨⟨0, (), rfl, rfl, ⟨by rw [ht]; exact hP, hD⟩⟩, hS.F ht⟩) hS.2.2 d_M_segment_39 hlocks
      · rw [hf2] at c2
        refine lv_iload hx hb d_M_segment_26 (lv_at hl 4 rfl) ?_
        have hPc := hP.sub (ws' := []) [] rfl
        refine vp_callSi (W.runS (As := [.int y2]) (rest := []) ⟨hx, hb, hml, hown, hts⟩ (k_M_isFar l D E y2) (va_cwS 1 hts (gw_gs wd_731 wd_732 wd_42 wd_733) rfl rfl rfl (by decide +kernel) ⟨Nat.le_of_ble_eq_true rfl, Nat.le_of_ble_eq_true rfl⟩) (rP_S hPc hK) rfl rfl hl.1 rfl (lv_room (Nat.le_of_ble_eq_true rfl)) d_M_segment_28 ⟨Nat.le_of_ble_eq_true rfl, Nat.le_of_ble_eq_true rfl⟩) (fun f3 hf3 => ?_)
        refine lv_if_eq (tgt := 40) hx hb d_M_segment_31 (by decide) (fun c3 => ?_) (fun c3 => ?_)
        · rw [hf3] at c3
          exact absurd hf (by
            rintro (h | h | h | h)
            · rw [b01_t h] at c0; exact absurd c0 (by decide)
            · rw [b01_t h] at c1; exact absurd c1 (by decide)
            · rw [b01_t h] at c2; exact absurd c2 (by decide)
            · rw [b01_t h] at c3; exact absurd c3 (by decide))
        · rw [hf3] at c3
          refine lv_aload_n hx hb d_M_segment_34 rfl (lv_at hl 0 rfl) ?_
          refine lv_iconst (v := 1) hx hb d_M_segment_35 (by decide) ?_
          have hPc := hP.sub (ws' := [(h0, .inr (3, mF ad 0 sg sn hot pc cx cy fo fv to tv fi ti))]) [0] rfl
          have hDc := hD.sub (ws' := [(h0, .inr (3, mF ad 0 sg sn hot pc cx cy fo fv to tv fi ti))]) [0] (by decide) rfl
          have hFc := va_free (wc := [(h0, .inr (3, mF ad 0 sg sn hot pc cx cy fo fv to tv fi ti))]) hD hS hA [0] rfl
          refine va_calli (va_runV (As := [.int 1]) (rest := []) ⟨hx, hb, hml, hown, hts⟩ (k_M_fail l D E h0 H.size ad 0 sg sn hot pc cx cy fo fv to tv fi ti 1) (cwV 1 hts (gw_gv wd_739 wd_741 wd_21 wd_42 wd_742) rfl rfl rfl (by decide +kernel) ⟨Nat.le_of_ble_eq_true rfl, Nat.le_of_ble_eq_true rfl⟩) (wP_V 0 hPc hK hDc rfl rfl) rfl rfl hl.1 rfl (lv_room (Nat.le_of_ble_eq_true rfl)) d_M_segment_36 ⟨Nat.le_of_ble_eq_true rfl, Nat.le_of_ble_eq_true rfl⟩) hS (fun q _ h => hFc q h) hFc (fun rf4 u9 t H1 locs ht hvm hw hB hz1 hk1 hS => ?_)
          obtain ⟨hP1, hD1⟩ := hB
          rw [ht] at hP1
          obtain ⟨hP, hD⟩ := va_join (wr := []) (w1 := [(h0, .inr (3, mF ad 1 sg sn hot pc cx cy fo fv to tv fi ti))]) hP hD [0] [] rfl rfl (by decide) (by decide) hk1 hFc hP1 hD1
          generalize H1 = H at hP hS ⊢
          have hP : va_P D vwC [(h0, .inr (3, mF ad 1 sg sn hot pc cx cy fo fv to tv fi ti))] H := hP
          have hD : va_D A [(h0, .inr (3, mF ad 1 sg sn hot pc cx cy fo fv to tv fi ti))] := hD
          obtain rfl : rf4 = 0 := hw
          exact W.iret (v := 0) hx hb hrt (fun t ht hW => ⟨⟨0, (), rfl, rfl, ⟨by rw [ht]; exact hP, hD⟩⟩, hS.F ht⟩) hS.2.2 d_M_segment_39 hlocks
set_option maxHeartbeats 4000000 in
set_option maxRecDepth 100000 in
theorem k_M_segment_n (l : Launch) (D : va_G) (E : ClassId × ClassId × ClassId × ClassId) (h0 sz : Nat) (ad : Nat → Nat) (th sg sn hot pc cx cy : Int32) (fo fv to tv : Int64) (fi ti : Int32) (x y x2 y2 : Int32) (hf : ¬ mw_far x ∧ ¬ mw_far y ∧ ¬ mw_far x2 ∧ ¬ mw_far y2) : Met l y_M_segment (.code y_M_segment c_M_segment 6 (some .int) :: gw) ({ frames := 2, cells := 0, slots := 0, locals := 60 } : Room) (wP D E [(h0, .inr (3, mF ad th 2048 sn hot pc cx cy fo fv to tv fi ti))] sz [.ref h0, .int x, .int y, .int x2, .int y2]) (va_Qi (fun (r : Int32) (u : Unit) => r = 0) (wB D (fun _ => [(h0, .inr (3, mF ad 2 2048 sn hot pc cx cy fo fv to tv fi ti))]) (va_A [(h0, .inr (3, mF ad th 2048 sn hot pc cx cy fo fv to tv fi ti))] sz)) (va_A [(h0, .inr (3, mF ad th 2048 sn hot pc cx cy fo fv to tv fi ti))] sz)) 0 0 (va_A [(h0, .inr (3, mF ad th 2048 sn hot pc cx cy fo fv to tv fi ti))] sz) := by
  refine wr_ofW (Qc := fun A => (va_Qi (fun (r : Int32) (u : Unit) => r = 0) (wB D (fun _ => [(h0, .inr (3, mF ad 2 2048 sn hot pc cx cy fo fv to tv fi ti))]) A) A)) (by decide) (Nat.le_of_ble_eq_true rfl) ?_
  intro p e s m below meth c B hP hK A hA hD hS ls hl
  obtain ⟨hx, hb, hrt, hml, hown, hts, hG, hlocks, hin⟩ := B
  have hl : lv_has ls 6 [(0, .ref h0), (1, .int x), (2, .int y), (3, .int x2), (4, .int y2)] := hl
  refine lv_aload_n hx hb d_M_segment_0 rfl (lv_at hl 0 rfl) ?_
  refine lv_iconst (v := 0) hx hb d_M_segment_1 (by decide) ?_
  refine va_put (D := D) (ci := 3) (v := .int 0) (ty := .int) (C := K_M) (T := F_M) (N := 24) hx hb hG in_M t_M t_M_ok n_M hown hK.1 hP hD hS 0 rfl rfl 0 (by decide) (hG _ wd_648) (fun _ h9 => h9) rfl (by decide +kernel) rfl rfl (Nat.le_of_ble_eq_true rfl) d_M_segment_2 (fun H locs hP hD hS => ?_)
  have hP : va_P D vwC [(h0, .inr (3, mF ad 0 2048 sn hot pc cx cy fo fv to tv fi ti))] H := hP
  have hD : va_D A [(h0, .inr (3, mF ad 0 2048 sn hot pc cx cy fo fv to tv fi ti))] := hD
  refine lv_iload_n hx hb d_M_segment_5 rfl (lv_at hl 1 rfl) ?_
  have hPc := hP.sub (ws' := []) [] rfl
  refine vp_callSi (W.runS (As := [.int x]) (rest := []) ⟨hx, hb, hml, hown, hts⟩ (k_M_isFar l D E x) (va_cwS 1 hts (gw_gs wd_731 wd_732 wd_42 wd_733) rfl rfl rfl (by decide +kernel) ⟨Nat.le_of_ble_eq_true rfl, Nat.le_of_ble_eq_true rfl⟩) (rP_S hPc hK) rfl rfl hl.1 rfl (lv_room (Nat.le_of_ble_eq_true rfl)) d_M_segment_6 ⟨Nat.le_of_ble_eq_true rfl, Nat.le_of_ble_eq_true rfl⟩) (fun f0 hf0 => ?_)
  refine lv_if_ne (tgt := 34) hx hb d_M_segment_9 (by decide) (fun c0 => ?_) (fun c0 => ?_)
  · rw [hf0] at c0
    exact absurd (b01_1 c0) hf.1
  · rw [hf0] at c0
    refine lv_iload_n hx hb d_M_segment_12 rfl (lv_at hl 2 rfl) ?_
    have hPc := hP.sub (ws' := []) [] rfl
    refine vp_callSi (W.runS (As := [.int y]) (rest := []) ⟨hx, hb, hml, hown, hts⟩ (k_M_isFar l D E y) (va_cwS 1 hts (gw_gs wd_731 wd_732 wd_42 wd_733) rfl rfl rfl (by decide +kernel) ⟨Nat.le_of_ble_eq_true rfl, Nat.le_of_ble_eq_true rfl⟩) (rP_S hPc hK) rfl rfl hl.1 rfl (lv_room (Nat.le_of_ble_eq_true rfl)) d_M_segment_13 ⟨Nat.le_of_ble_eq_true rfl, Nat.le_of_ble_eq_true rfl⟩) (fun f1 hf1 => ?_)
    refine lv_if_ne (tgt := 34) hx hb d_M_segment_16 (by decide) (fun c1 => ?_) (fun c1 => ?_)
    · rw [hf1] at c1
      exact absurd (b01_1 c1) hf.2.1
    · rw [hf1] at c1
      refine lv_iload_n hx hb d_M_segment_19 rfl (lv_at hl 3 rfl) ?_
      have hPc := hP.sub (ws' := []) [] rfl
      refine vp_callSi (W.runS (As := [.int x2]) (rest := []) ⟨hx, hb, hml, hown, hts⟩ (k_M_isFar l D E x2) (va_cwS 1 hts (gw_gs wd_731 wd_732 wd_42 wd_733) rfl rfl rfl (by decide +kernel) ⟨Nat.le_of_ble_eq_true rfl, Nat.le_of_ble_eq_true rfl⟩) (rP_S hPc hK) rfl rfl hl.1 rfl (lv_room (Nat.le_of_ble_eq_true rfl)) d_M_segment_20 ⟨Nat.le_of_ble_eq_true rfl, Nat.le_of_ble_eq_true rfl⟩) (fun f2 hf2 => ?_)
      refine lv_if_ne (tgt := 34) hx hb d_M_segment_23 (by decide) (fun c2 => ?_) (fun c2 => ?_)
      · rw [hf2] at c2
        exact absurd (b01_1 c2) hf.2.2.1
      · rw [hf2] at c2
        refine lv_iload hx hb d_M_segment_26 (lv_at hl 4 rfl) ?_
        have hPc := hP.sub (ws' := []) [] rfl
        refine vp_callSi (W.runS (As := [.int y2]) (rest := []) ⟨hx, hb, hml, hown, hts⟩ (k_M_isFar l D E y2) (va_cwS 1 hts (gw_gs wd_731 wd_732 wd_42 wd_733) rfl rfl rfl (by decide +kernel) ⟨Nat.le_of_ble_eq_true rfl, Nat.le_of_ble_eq_true rfl⟩) (rP_S hPc hK) rfl rfl hl.1 rfl (lv_room (Nat.le_of_ble_eq_true rfl)) d_M_segment_28 ⟨Nat.le_of_ble_eq_true rfl, Nat.le_of_ble_eq_true rfl⟩) (fun f3 hf3 => ?_)
        refine lv_if_eq (tgt := 40) hx hb d_M_segment_31 (by decide) (fun c3 => ?_) (fun c3 => ?_)
        · rw [hf3] at c3
          refine lv_aload_n hx hb d_M_segment_40 rfl (lv_at hl 0 rfl) ?_
          refine va_get (D := D) (ci := 3) (v := .int 2048) (C := K_M) (T := F_M) (N := 24) hx hb hG in_M hown hK.1 hP 0 rfl rfl 1 (by decide) (hG _ wd_649) (fun _ h9 => h9) rfl d_M_segment_41 ?_
          refine lv_sipush (v := 2048) hx hb d_M_segment_44 (by decide) ?_
          refine lv_icmp_ne (tgt := 56) hx hb d_M_segment_47 (by decide) (fun d1 => ?_) (fun d1 => ?_)
          · exact absurd rfl d1
          · refine lv_aload_n hx hb d_M_segment_50 rfl (lv_at hl 0 rfl) ?_
            refine lv_iconst (v := 2) hx hb d_M_segment_51 (by decide) ?_
            have hPc := hP.sub (ws' := [(h0, .inr (3, mF ad 0 2048 sn hot pc cx cy fo fv to tv fi ti))]) [0] rfl
            have hDc := hD.sub (ws' := [(h0, .inr (3, mF ad 0 2048 sn hot pc cx cy fo fv to tv fi ti))]) [0] (by decide) rfl
            have hFc := va_free (wc := [(h0, .inr (3, mF ad 0 2048 sn hot pc cx cy fo fv to tv fi ti))]) hD hS hA [0] rfl
            refine va_calli (va_runV (As := [.int 2]) (rest := []) ⟨hx, hb, hml, hown, hts⟩ (k_M_fail l D E h0 H.size ad 0 2048 sn hot pc cx cy fo fv to tv fi ti 2) (cwV 1 hts (gw_gv wd_739 wd_741 wd_21 wd_42 wd_742) rfl rfl rfl (by decide +kernel) ⟨Nat.le_of_ble_eq_true rfl, Nat.le_of_ble_eq_true rfl⟩) (wP_V 0 hPc hK hDc rfl rfl) rfl rfl hl.1 rfl (lv_room (Nat.le_of_ble_eq_true rfl)) d_M_segment_52 ⟨Nat.le_of_ble_eq_true rfl, Nat.le_of_ble_eq_true rfl⟩) hS (fun q _ h => hFc q h) hFc (fun rf1 u9 t H1 locs ht hvm hw hB hz1 hk1 hS => ?_)
            obtain ⟨hP1, hD1⟩ := hB
            rw [ht] at hP1
            obtain ⟨hP, hD⟩ := va_join (wr := []) (w1 := [(h0, .inr (3, mF ad 2 2048 sn hot pc cx cy fo fv to tv fi ti))]) hP hD [0] [] rfl rfl (by decide) (by decide) hk1 hFc hP1 hD1
            generalize H1 = H at hP hS ⊢
            have hP : va_P D vwC [(h0, .inr (3, mF ad 2 2048 sn hot pc cx cy fo fv to tv fi ti))] H := hP
            have hD : va_D A [(h0, .inr (3, mF ad 2 2048 sn hot pc cx cy fo fv to tv fi ti))] := hD
            obtain rfl : rf1 = 0 := hw
            exact W.iret (v := 0) hx hb hrt (fun t ht hW => ⟨⟨0, (), rfl, rfl, ⟨by rw [ht]; exact hP, hD⟩⟩, hS.F ht⟩) hS.2.2 d_M_segment_55 hlocks
        · rw [hf3] at c3
          exact absurd (b01_1 c3) hf.2.2.2
def mg_put (e : Nat → Int32) (k : Nat) (q : SQ) : Nat → Int32 := upd (upd (upd (upd e (4 * k) q.1) (4 * k + 1) q.2.1) (4 * k + 2) q.2.2.1) (4 * k + 3) q.2.2.2
theorem mg_put_k (e : Nat → Int32) (k : Nat) (q : SQ) : mq (mg_put e k q) k = q := by
  unfold mq mg_put
  rw [pk_us, pk_un (show 4 * k ≠ 4 * k + 3 by omega), pk_un (show 4 * k ≠ 4 * k + 2 by omega), pk_un (show 4 * k ≠ 4 * k + 1 by omega), pk_us,
    pk_un (show 4 * k + 1 ≠ 4 * k + 3 by omega), pk_un (show 4 * k + 1 ≠ 4 * k + 2 by omega), pk_us, pk_un (show 4 * k + 2 ≠ 4 * k + 3 by omega), pk_us]
theorem mg_put_j (e : Nat → Int32) (k j : Nat) (q : SQ) (h : j < k) : mq (mg_put e k q) j = mq e j := by
  unfold mq mg_put
  have g : ∀ i, i < 4 * k → upd (upd (upd (upd e (4 * k) q.1) (4 * k + 1) q.2.1) (4 * k + 2) q.2.2.1) (4 * k + 3) q.2.2.2 i = e i := by
    intro i hi
    rw [pk_un (by omega), pk_un (by omega), pk_un (by omega), pk_un (by omega)]
  rw [g _ (by omega), g _ (by omega), g _ (by omega), g _ (by omega)]
set_option maxHeartbeats 4000000 in
set_option maxRecDepth 100000 in
theorem k_M_segment (l : Launch) (D : va_G) (E : ClassId × ClassId × ClassId × ClassId) (h0 sz : Nat) (ad : Nat → Nat) (th sg sn hot pc cx cy : Int32) (fo fv to tv : Int64) (fi ti : Int32) (x y x2 y2 : Int32) (e9 bg : Nat → Int32) (k : Nat) (hk : k < 2048) (hf : ¬ mw_far x ∧ ¬ mw_far y ∧ ¬ mw_far x2 ∧ ¬ mw_far y2) : Met l y_M_segment (.code y_M_segment c_M_segment 6 (some .int) :: gw) ({ frames := 2, cells := 0, slots := 0, locals := 60 } : Room) (wP D E [(h0, .inr (3, mF ad th (nI k) sn hot pc cx cy fo fv to tv fi ti)), ((ad 0), .inl (E.2.1, 8192, .inl e9)), ((ad 3), .inl (E.2.1, 2049, .inl bg))] sz [.ref h0, .int x, .int y, .int x2, .int y2]) (va_Qi (fun (r : Int32) (u : Unit) => r = nI k) (wB D (fun _ => [(h0, .inr (3, mF ad 0 (nI (k + 1)) 0 0 0 cx cy fo fv to tv fi ti)), ((ad 0), .inl (E.2.1, 8192, .inl (mg_put e9 k (x, y, x2, y2)))), ((ad 3), .inl (E.2.1, 2049, .inl (mg_z bg 2049)))]) (va_A [(h0, .inr (3, mF ad th (nI k) sn hot pc cx cy fo fv to tv fi ti)), ((ad 0), .inl (E.2.1, 8192, .inl e9)), ((ad 3), .inl (E.2.1, 2049, .inl bg))] sz)) (va_A [(h0, .inr (3, mF ad th (nI k) sn hot pc cx cy fo fv to tv fi ti)), ((ad 0), .inl (E.2.1, 8192, .inl e9)), ((ad 3), .inl (E.2.1, 2049, .inl bg))] sz)) 0 0 (va_A [(h0, .inr (3, mF ad th (nI k) sn hot pc cx cy fo fv to tv fi ti)), ((ad 0), .inl (E.2.1, 8192, .inl e9)), ((ad 3), .inl (E.2.1, 2049, .inl bg))] sz) := by
  refine wr_ofW (Qc := fun A => (va_Qi (fun (r : Int32) (u : Unit) => r = nI k) (wB D (fun _ => [(h0, .inr (3, mF ad 0 (nI (k + 1)) 0 0 0 cx cy fo fv to tv fi ti)), ((ad 0), .inl (E.2.1, 8192, .inl (mg_put e9 k (x, y, x2, y2)))), ((ad 3), .inl (E.2.1, 2049, .inl (mg_z bg 2049)))]) A) A)) (by decide) (Nat.le_of_ble_eq_true rfl) ?_
  intro p e s m below meth c B hP hK A hA hD hS ls hl
  obtain ⟨hx, hb, hrt, hml, hown, hts, hG, hlocks, hin⟩ := B
  have hl : lv_has ls 6 [(0, .ref h0), (1, .int x), (2, .int y), (3, .int x2), (4, .int y2)] := hl
  refine lv_aload_n hx hb d_M_segment_0 rfl (lv_at hl 0 rfl) ?_
  refine lv_iconst (v := 0) hx hb d_M_segment_1 (by decide) ?_
  refine va_put (D := D) (ci := 3) (v := .int 0) (ty := .int) (C := K_M) (T := F_M) (N := 24) hx hb hG in_M t_M t_M_ok n_M hown hK.1 hP hD hS 0 rfl rfl 0 (by decide) (hG _ wd_648) (fun _ h9 => h9) rfl (by decide +kernel) rfl rfl (Nat.le_of_ble_eq_true rfl) d_M_segment_2 (fun H locs hP hD hS => ?_)
  have hP : va_P D vwC [(h0, .inr (3, mF ad 0 (nI k) sn hot pc cx cy fo fv to tv fi ti)), ((ad 0), .inl (E.2.1, 8192, .inl e9)), ((ad 3), .inl (E.2.1, 2049, .inl bg))] H := hP
  have hD : va_D A [(h0, .inr (3, mF ad 0 (nI k) sn hot pc cx cy fo fv to tv fi ti)), ((ad 0), .inl (E.2.1, 8192, .inl e9)), ((ad 3), .inl (E.2.1, 2049, .inl bg))] := hD
  refine lv_iload_n hx hb d_M_segment_5 rfl (lv_at hl 1 rfl) ?_
  have hPc := hP.sub (ws' := []) [] rfl
  refine vp_callSi (W.runS (As := [.int x]) (rest := []) ⟨hx, hb, hml, hown, hts⟩ (k_M_isFar l D E x) (va_cwS 1 hts (gw_gs wd_731 wd_732 wd_42 wd_733) rfl rfl rfl (by decide +kernel) ⟨Nat.le_of_ble_eq_true rfl, Nat.le_of_ble_eq_true rfl⟩) (rP_S hPc hK) rfl rfl hl.1 rfl (lv_room (Nat.le_of_ble_eq_true rfl)) d_M_segment_6 ⟨Nat.le_of_ble_eq_true rfl, Nat.le_of_ble_eq_true rfl⟩) (fun f0 hf0 => ?_)
  refine lv_if_ne (tgt := 34) hx hb d_M_segment_9 (by decide) (fun c0 => ?_) (fun c0 => ?_)
  · rw [hf0] at c0
    exact absurd (b01_1 c0) hf.1
  · rw [hf0] at c0
    refine lv_iload_n hx hb d_M_segment_12 rfl (lv_at hl 2 rfl) ?_
    have hPc := hP.sub (ws' := []) [] rfl
    refine vp_callSi (W.runS (As := [.int y]) (rest := []) ⟨hx, hb, hml, hown, hts⟩ (k_M_isFar l D E y) (va_cwS 1 hts (gw_gs wd_731 wd_732 wd_42 wd_733) rfl rfl rfl (by decide +kernel) ⟨Nat.le_of_ble_eq_true rfl, Nat.le_of_ble_eq_true rfl⟩) (rP_S hPc hK) rfl rfl hl.1 rfl (lv_room (Nat.le_of_ble_eq_true rfl)) d_M_segment_13 ⟨Nat.le_of_ble_eq_true rfl, Nat.le_of_ble_eq_true rfl⟩) (fun f1 hf1 => ?_)
    refine lv_if_ne (tgt := 34) hx hb d_M_segment_16 (by decide) (fun c1 => ?_) (fun c1 => ?_)
    · rw [hf1] at c1
      exact absurd (b01_1 c1) hf.2.1
    · rw [hf1] at c1
      refine lv_iload_n hx hb d_M_segment_19 rfl (lv_at hl 3 rfl) ?_
      have hPc := hP.sub (ws' := []) [] rfl
      refine vp_callSi (W.runS (As := [.int x2]) (rest := []) ⟨hx, hb, hml, hown, hts⟩ (k_M_isFar l D E x2) (va_cwS 1 hts (gw_gs wd_731 wd_732 wd_42 wd_733) rfl rfl rfl (by decide +kernel) ⟨Nat.le_of_ble_eq_true rfl, Nat.le_of_ble_eq_true rfl⟩) (rP_S hPc hK) rfl rfl hl.1 rfl (lv_room (Nat.le_of_ble_eq_true rfl)) d_M_segment_20 ⟨Nat.le_of_ble_eq_true rfl, Nat.le_of_ble_eq_true rfl⟩) (fun f2 hf2 => ?_)
      refine lv_if_ne (tgt := 34) hx hb d_M_segment_23 (by decide) (fun c2 => ?_) (fun c2 => ?_)
      · rw [hf2] at c2
        exact absurd (b01_1 c2) hf.2.2.1
      · rw [hf2] at c2
        refine lv_iload hx hb d_M_segment_26 (lv_at hl 4 rfl) ?_
        have hPc := hP.sub (ws' := []) [] rfl
        refine vp_callSi (W.runS (As := [.int y2]) (rest := []) ⟨hx, hb, hml, hown, hts⟩ (k_M_isFar l D E y2) (va_cwS 1 hts (gw_gs wd_731 wd_732 wd_42 wd_733) rfl rfl rfl (by decide +kernel) ⟨Nat.le_of_ble_eq_true rfl, Nat.le_of_ble_eq_true rfl⟩) (rP_S hPc hK) rfl rfl hl.1 rfl (lv_room (Nat.le_of_ble_eq_true rfl)) d_M_segment_28 ⟨Nat.le_of_ble_eq_true rfl, Nat.le_of_ble_eq_true rfl⟩) (fun f3 hf3 => ?_)
        refine lv_if_eq (tgt := 40) hx hb d_M_segment_31 (by decide) (fun c3 => ?_) (fun c3 => ?_)
        · rw [hf3] at c3
          refine lv_aload_n hx hb d_M_segment_40 rfl (lv_at hl 0 rfl) ?_
          refine va_get (D := D) (ci := 3) (v := .int (nI k)) (C := K_M) (T := F_M) (N := 24) hx hb hG in_M hown hK.1 hP 0 rfl rfl 1 (by decide) (hG _ wd_649) (fun _ h9 => h9) rfl d_M_segment_41 ?_
          refine lv_sipush (v := 2048) hx hb d_M_segment_44 (by decide) ?_
          refine lv_icmp_ne (tgt := 56) hx hb d_M_segment_47 (by decide) (fun d1 => ?_) (fun d1 => ?_)
          · refine lv_aload_n hx hb d_M_segment_56 rfl (lv_at hl 0 rfl) ?_
            have hPc := hP.sub (ws' := [(h0, .inr (3, mF ad 0 (nI k) sn hot pc cx cy fo fv to tv fi ti)), ((ad 3), .inl (E.2.1, 2049, .inl bg))]) [0, 2] rfl
            have hDc := hD.sub (ws' := [(h0, .inr (3, mF ad 0 (nI k) sn hot pc cx cy fo fv to tv fi ti)), ((ad 3), .inl (E.2.1, 2049, .inl bg))]) [0, 2] (by decide) rfl
            have hFc := va_free (wc := [(h0, .inr (3, mF ad 0 (nI k) sn hot pc cx cy fo fv to tv fi ti)), ((ad 3), .inl (E.2.1, 2049, .inl bg))]) hD hS hA [0, 2] rfl
            refine va_callv (va_runV (As := []) (rest := []) ⟨hx, hb, hml, hown, hts⟩ (k_M_forget l D E h0 H.size ad 0 (nI k) sn hot pc cx cy fo fv to tv fi ti bg) (cwV 0 hts (gw_gv wd_743 wd_745 wd_22 wd_42 wd_746) rfl rfl rfl (by decide +kernel) ⟨Nat.le_of_ble_eq_true rfl, Nat.le_of_ble_eq_true rfl⟩) (wP_V 0 hPc hK hDc rfl rfl) rfl rfl hl.1 rfl (lv_room (Nat.le_of_ble_eq_true rfl)) d_M_segment_57 ⟨Nat.le_of_ble_eq_true rfl, Nat.le_of_ble_eq_true rfl⟩) hS (fun q _ h => hFc q h) hFc (fun u t H1 locs ht hvm hw hB hz1 hk1 hS => ?_)
            obtain ⟨hP1, hD1⟩ := hB
            rw [ht] at hP1
            obtain ⟨hP, hD⟩ := va_join (wr := [((ad 0), .inl (E.2.1, 8192, .inl e9))]) (w1 := [(h0, .inr (3, mF ad 0 (nI k) 0 0 0 cx cy fo fv to tv fi ti)), ((ad 3), .inl (E.2.1, 2049, .inl (mg_z bg 2049)))]) hP hD [0, 2] [1] rfl rfl (by decide) (by decide) hk1 hFc hP1 hD1
            generalize H1 = H at hP hS ⊢
            have hP : va_P D vwC [((ad 0), .inl (E.2.1, 8192, .inl e9)), (h0, .inr (3, mF ad 0 (nI k) 0 0 0 cx cy fo fv to tv fi ti)), ((ad 3), .inl (E.2.1, 2049, .inl (mg_z bg 2049)))] H := hP
            have hD : va_D A [((ad 0), .inl (E.2.1, 8192, .inl e9)), (h0, .inr (3, mF ad 0 (nI k) 0 0 0 cx cy fo fv to tv fi ti)), ((ad 3), .inl (E.2.1, 2049, .inl (mg_z bg 2049)))] := hD
            refine lv_iconst (v := 4) hx hb d_M_segment_60 (by decide) ?_
            refine lv_aload_n hx hb d_M_segment_61 rfl (lv_at hl 0 rfl) ?_
            refine va_get (D := D) (ci := 3) (v := .int (nI k)) (C := K_M) (T := F_M) (N := 24) hx hb hG in_M hown hK.1 hP 1 rfl rfl 1 (by decide) (hG _ wd_649) (fun _ h9 => h9) rfl d_M_segment_62 ?_
            refine lv_imul hx hb d_M_segment_65 ?_
            rw [show (4 * nI k) = nI (4 * k) from pk_mul 4 k]
            refine lv_istore (lv' := [(5, .int (nI (4 * k))), (0, .ref h0), (1, .int x), (2, .int y), (3, .int x2), (4, .int y2)]) hx hb d_M_segment_66 hl (by decide) rfl (fun ls hl => ?_)
            refine lv_aload_n hx hb d_M_segment_68 rfl (lv_at hl 1 rfl) ?_
            refine va_get (D := D) (ci := 3) (v := .ref (ad 0)) (C := K_M) (T := F_M) (N := 24) hx hb hG in_M hown hK.1 hP 1 rfl rfl 2 (by decide) (hG _ wd_650) (fun _ h9 => h9) rfl d_M_segment_69 ?_
            refine lv_iload hx hb d_M_segment_72 (lv_at hl 0 rfl) ?_
            refine lv_iload_n hx hb d_M_segment_74 rfl (lv_at hl 2 rfl) ?_
            refine va_iast hx hb hK.1 hP hD hS 0 1 rfl rfl (vp_in_nI (by omega) (by omega)) d_M_segment_75 (fun H locs hP hD hS => ?_)
            rw [show upd e9 (Int32.toNatClampNeg (nI (4 * k))) x = (upd e9 (4 * k) x) from by rw [nI_clamp (by omega)]] at hP hD
            have hP : va_P D vwC [((ad 0), .inl (E.2.1, 8192, .inl (upd e9 (4 * k) x))), (h0, .inr (3, mF ad 0 (nI k) 0 0 0 cx cy fo fv to tv fi ti)), ((ad 3), .inl (E.2.1, 2049, .inl (mg_z bg 2049)))] H := hP
            have hD : va_D A [((ad 0), .inl (E.2.1, 8192, .inl (upd e9 (4 * k) x))), (h0, .inr (3, mF ad 0 (nI k) 0 0 0 cx cy fo fv to tv fi ti)), ((ad 3), .inl (E.2.1, 2049, .inl (mg_z bg 2049)))] := hD
            refine lv_aload_n hx hb d_M_segment_76 rfl (lv_at hl 1 rfl) ?_
            refine va_get (D := D) (ci := 3) (v := .ref (ad 0)) (C := K_M) (T := F_M) (N := 24) hx hb hG in_M hown hK.1 hP 1 rfl rfl 2 (by decide) (hG _ wd_650) (fun _ h9 => h9) rfl d_M_segment_77 ?_
            refine lv_iload hx hb d_M_segment_80 (lv_at hl 0 rfl) ?_
            refine lv_iconst (v := 1) hx hb d_M_segment_82 (by decide) ?_
            refine lv_iadd hx hb d_M_segment_83 ?_
            rw [show (nI (4 * k) + 1) = nI (4 * k + 1) from nI_1 _]
            refine lv_iload_n hx hb d_M_segment_84 rfl (lv_at hl 3 rfl) ?_
            refine va_iast hx hb hK.1 hP hD hS 0 1 rfl rfl (vp_in_nI (by omega) (by omega)) d_M_segment_85 (fun H locs hP hD hS => ?_)
            rw [show upd (upd e9 (4 * k) x) (Int32.toNatClampNeg (nI (4 * k + 1))) y = (upd (upd e9 (4 * k) x) (4 * k + 1) y) from by rw [nI_clamp (by omega)]] at hP hD
            have hP : va_P D vwC [((ad 0), .inl (E.2.1, 8192, .inl (upd (upd e9 (4 * k) x) (4 * k + 1) y))), (h0, .inr (3, mF ad 0 (nI k) 0 0 0 cx cy fo fv to tv fi ti)), ((ad 3), .inl (E.2.1, 2049, .inl (mg_z bg 2049)))] H := hP
            have hD : va_D A [((ad 0), .inl (E.2.1, 8192, .inl (upd (upd e9 (4 * k) x) (4 * k + 1) y))), (h0, .inr (3, mF ad 0 (nI k) 0 0 0 cx cy fo fv to tv fi ti)), ((ad 3), .inl (E.2.1, 2049, .inl (mg_z bg 2049)))] := hD
            refine lv_aload_n hx hb d_M_segment_86 rfl (lv_at hl 1 rfl) ?_
            refine va_get (D := D) (ci := 3) (v := .ref (ad 0)) (C := K_M) (T := F_M) (N := 24) hx hb hG in_M hown hK.1 hP 1 rfl rfl 2 (by decide) (hG _ wd_650) (fun _ h9 => h9) rfl d_M_segment_87 ?_
            refine lv_iload hx hb d_M_segment_90 (lv_at hl 0 rfl) ?_
            refine lv_iconst (v := 2) hx hb d_M_segment_92 (by decide) ?_
            refine lv_iadd hx hb d_M_segment_93 ?_
            rw [show (nI (4 * k) + 2) = nI (4 * k + 2) from nI_add _ 2]
            refine lv_iload_n hx hb d_M_segment_94 rfl (lv_at hl 4 rfl) ?_
            refine va_iast hx hb hK.1 hP hD hS 0 1 rfl rfl (vp_in_nI (by omega) (by omega)) d_M_segment_95 (fun H locs hP hD hS => ?_)
            rw [show upd (upd (upd e9 (4 * k) x) (4 * k + 1) y) (Int32.toNatClampNeg (nI (4 * k + 2))) x2 = (upd (upd (upd e9 (4 * k) x) (4 * k + 1) y) (4 * k + 2) x2) from by rw [nI_clamp (by omega)]] at hP hD
            have hP : va_P D vwC [((ad 0), .inl (E.2.1, 8192, .inl (upd (upd (upd e9 (4 * k) x) (4 * k + 1) y) (4 * k + 2) x2))), (h0, .inr (3, mF ad 0 (nI k) 0 0 0 cx cy fo fv to tv fi ti)), ((ad 3), .inl (E.2.1, 2049, .inl (mg_z bg 2049)))] H := hP
            have hD : va_D A [((ad 0), .inl (E.2.1, 8192, .inl (upd (upd (upd e9 (4 * k) x) (4 * k + 1) y) (4 * k + 2) x2))), (h0, .inr (3, mF ad 0 (nI k) 0 0 0 cx cy fo fv to tv fi ti)), ((ad 3), .inl (E.2.1, 2049, .inl (mg_z bg 2049)))] := hD
            refine lv_aload_n hx hb d_M_segment_96 rfl (lv_at hl 1 rfl) ?_
            refine va_get (D := D) (ci := 3) (v := .ref (ad 0)) (C := K_M) (T := F_M) (N := 24) hx hb hG in_M hown hK.1 hP 1 rfl rfl 2 (by decide) (hG _ wd_650) (fun _ h9 => h9) rfl d_M_segment_97 ?_
            refine lv_iload hx hb d_M_segment_100 (lv_at hl 0 rfl) ?_
            refine lv_iconst (v := 3) hx hb d_M_segment_102 (by decide) ?_
            refine lv_iadd hx hb d_M_segment_103 ?_
            rw [show (nI (4 * k) + 3) = nI (4 * k + 3) from nI_add _ 3]
            refine lv_iload hx hb d_M_segment_104 (lv_at hl 5 rfl) ?_
            refine va_iast hx hb hK.1 hP hD hS 0 1 rfl rfl (vp_in_nI (by omega) (by omega)) d_M_segment_106 (fun H locs hP hD hS => ?_)
            rw [show upd (upd (upd (upd e9 (4 * k) x) (4 * k + 1) y) (4 * k + 2) x2) (Int32.toNatClampNeg (nI (4 * k + 3))) y2 = (upd (upd (upd (upd e9 (4 * k) x) (4 * k + 1) y) (4 * k + 2) x2) (4 * k + 3) y2) from by rw [nI_clamp (by omega)]] at hP hD
            have hP : va_P D vwC [((ad 0), .inl (E.2.1, 8192, .inl (upd (upd (upd (upd e9 (4 * k) x) (4 * k + 1) y) (4 * k + 2) x2) (4 * k + 3) y2))), (h0, .inr (3, mF ad 0 (nI k) 0 0 0 cx cy fo fv to tv fi ti)), ((ad 3), .inl (E.2.1, 2049, .inl (mg_z bg 2049)))] H := hP
            have hD : va_D A [((ad 0), .inl (E.2.1, 8192, .inl (upd (upd (upd (upd e9 (4 * k) x) (4 * k + 1) y) (4 * k + 2) x2) (4 * k + 3) y2))), (h0, .inr (3, mF ad 0 (nI k) 0 0 0 cx cy fo fv to tv fi ti)), ((ad 3), .inl (E.2.1, 2049, .inl (mg_z bg 2049)))] := hD
            refine lv_aload_n hx hb d_M_segment_107 rfl (lv_at hl 1 rfl) ?_
            refine lv_dup hx hb d_M_segment_108 rfl ?_
            refine va_get (D := D) (ci := 3) (v := .int (nI k)) (C := K_M) (T := F_M) (N := 24) hx hb hG in_M hown hK.1 hP 1 rfl rfl 1 (by decide) (hG _ wd_649) (fun _ h9 => h9) rfl d_M_segment_109 ?_
            refine lv_iconst (v := 1) hx hb d_M_segment_112 (by decide) ?_
            refine lv_iadd hx hb d_M_segment_113 ?_
            rw [show (nI k + 1) = nI (k + 1) from nI_1 _]
            refine va_put (D := D) (ci := 3) (v := .int (nI (k + 1))) (ty := .int) (C := K_M) (T := F_M) (N := 24) hx hb hG in_M t_M t_M_ok n_M hown hK.1 hP hD hS 1 rfl rfl 1 (by decide) (hG _ wd_649) (fun _ h9 => h9) rfl (by decide +kernel) rfl rfl (Nat.le_of_ble_eq_true rfl) d_M_segment_114 (fun H locs hP hD hS => ?_)
            have hP : va_P D vwC [((ad 0), .inl (E.2.1, 8192, .inl (upd (upd (upd (upd e9 (4 * k) x) (4 * k + 1) y) (4 * k + 2) x2) (4 * k + 3) y2))), (h0, .inr (3, mF ad 0 (nI (k + 1)) 0 0 0 cx cy fo fv to tv fi ti)), ((ad 3), .inl (E.2.1, 2049, .inl (mg_z bg 2049)))] H := hP
            have hD : va_D A [((ad 0), .inl (E.2.1, 8192, .inl (upd (upd (upd (upd e9 (4 * k) x) (4 * k + 1) y) (4 * k + 2) x2) (4 * k + 3) y2))), (h0, .inr (3, mF ad 0 (nI (k + 1)) 0 0 0 cx cy fo fv to tv fi ti)), ((ad 3), .inl (E.2.1, 2049, .inl (mg_z bg 2049)))] := hD
            refine lv_aload_n hx hb d_M_segment_117 rfl (lv_at hl 1 rfl) ?_
            refine va_get (D := D) (ci := 3) (v := .int (nI (k + 1))) (C := K_M) (T := F_M) (N := 24) hx hb hG in_M hown hK.1 hP 1 rfl rfl 1 (by decide) (hG _ wd_649) (fun _ h9 => h9) rfl d_M_segment_118 ?_
            refine lv_iconst (v := 1) hx hb d_M_segment_121 (by decide) ?_
            refine lv_isub hx hb d_M_segment_122 ?_
            rw [show (nI (k + 1) - 1) = nI k from nI_pred k]
            have hP := hP
            have hP := hP.sub (ws' := [(h0, .inr (3, mF ad 0 (nI (k + 1)) 0 0 0 cx cy fo fv to tv fi ti)), ((ad 0), .inl (E.2.1, 8192, .inl (upd (upd (upd (upd e9 (4 * k) x) (4 * k + 1) y) (4 * k + 2) x2) (4 * k + 3) y2))), ((ad 3), .inl (E.2.1, 2049, .inl (mg_z bg 2049)))]) [1, 0, 2] rfl
            have hD := hD.sub (ws' := [(h0, .inr (3, mF ad 0 (nI (k + 1)) 0 0 0 cx cy fo fv to tv fi ti)), ((ad 0), .inl (E.2.1, 8192, .inl (upd (upd (upd (upd e9 (4 * k) x) (4 * k + 1) y) (4 * k + 2) x2) (4 * k + 3) y2))), ((ad 3), .inl (E.2.1, 2049, .inl (mg_z bg 2049)))]) [1, 0, 2] (by decide) rfl
            exact W.iret (v := nI k) hx hb hrt (fun t ht hW => ⟨⟨nI k, (), rfl, rfl, ⟨by rw [ht]; exact hP, hD⟩⟩, hS.F ht⟩) hS.2.2 d_M_segment_123 hlocks
          · exact absurd ((nI_eq (b := 2048) (by omega) (by omega)).mp d1) (by omega)
        · rw [hf3] at c3
          exact absurd (b01_1 c3) hf.2.2.2
set_option maxHeartbeats 4000000 in
set_option maxRecDepth 100000 in
theorem k_M_clear (l : Launch) (D : va_G) (E : ClassId × ClassId × ClassId × ClassId) (h0 sz : Nat) (ad : Nat → Nat) (th sg sn hot pc cx cy : Int32) (fo fv to tv : Int64) (fi ti : Int32) (bg : Nat → Int32) : Met l y_M_clear (.code y_M_clear c_M_clear 2 (some .int) :: gw) ({ frames := 1, cells := 0, slots := 0, locals := 24 } : Room) (wP D E [(h0, .inr (3, mF ad th sg sn hot pc cx cy fo fv to tv fi ti)), ((ad 3), .inl (E.2.1, 2049, .inl bg))] sz [.ref h0]) (va_Qi (fun (r : Int32) (u : Unit) => r = sg) (wB D (fun _ => [(h0, .inr (3, mF ad 0 0 0 0 0 cx cy fo fv to tv fi ti)), ((ad 3), .inl (E.2.1, 2049, .inl (mg_z bg 2049)))]) (va_A [(h0, .inr (3, mF ad th sg sn hot pc cx cy fo fv to tv fi ti)), ((ad 3), .inl (E.2.1, 2049, .inl bg))] sz)) (va_A [(h0, .inr (3, mF ad th sg sn hot pc cx cy fo fv to tv fi ti)), ((ad 3), .inl (E.2.1, 2049, .inl bg))] sz)) 0 0 (va_A [(h0, .inr (3, mF ad th sg sn hot pc cx cy fo fv to tv fi ti)), ((ad 3), .inl (E.2.1, 2049, .inl bg))] sz) := by
  refine wr_ofW (Qc := fun A => (va_Qi (fun (r : Int32) (u : Unit) => r = sg) (wB D (fun _ => [(h0, .inr (3, mF ad 0 0 0 0 0 cx cy fo fv to tv fi ti)), ((ad 3), .inl (E.2.1, 2049, .inl (mg_z bg 2049)))]) A) A)) (by decide) (Nat.le_of_ble_eq_true rfl) ?_
  intro p e s m below meth c B hP hK A hA hD hS ls hl
  obtain ⟨hx, hb, hrt, hml, hown, hts, hG, hlocks, hin⟩ := B
  have hl : lv_has ls 2 [(0, .ref h0)] := hl
  refine lv_aload_n hx hb d_M_clear_0 rfl (lv_at hl 0 rfl) ?_
  refine lv_iconst (v := 0) hx hb d_M_clear_1 (by decide) ?_
  refine va_put (D := D) (ci := 3) (v := .int 0) (ty := .int) (C := K_M) (T := F_M) (N := 24) hx hb hG in_M t_M t_M_ok n_M hown hK.1 hP hD hS 0 rfl rfl 0 (by decide) (hG _ wd_648) (fun _ h9 => h9) rfl (by decide +kernel) rfl rfl (Nat.le_of_ble_eq_true rfl) d_M_clear_2 (fun H locs hP hD hS => ?_)
  have hP : va_P D vwC [(h0, .inr (3, mF ad 0 sg sn hot pc cx cy fo fv to tv fi ti)), ((ad 3), .inl (E.2.1, 2049, .inl bg))] H := hP
  have hD : va_D A [(h0, .inr (3, mF ad 0 sg sn hot pc cx cy fo fv to tv fi ti)), ((ad 3), .inl (E.2.1, 2049, .inl bg))] := hD
  refine lv_aload_n hx hb d_M_clear_5 rfl (lv_at hl 0 rfl) ?_
  refine va_get (D := D) (ci := 3) (v := .int sg) (C := K_M) (T := F_M) (N := 24) hx hb hG in_M hown hK.1 hP 0 rfl rfl 1 (by decide) (hG _ wd_649) (fun _ h9 => h9) rfl d_M_clear_6 ?_
  refine lv_istore_n (lv' := [(1, .int sg), (0, .ref h0)]) hx hb d_M_clear_9 rfl hl (by decide) rfl (fun ls hl => ?_)
  refine lv_aload_n hx hb d_M_clear_10 rfl (lv_at hl 1 rfl) ?_
  refine lv_iconst (v := 0) hx hb d_M_clear_11 (by decide) ?_
  refine va_put (D := D) (ci := 3) (v := .int 0) (ty := .int) (C := K_M) (T := F_M) (N := 24) hx hb hG in_M t_M t_M_ok n_M hown hK.1 hP hD hS 0 rfl rfl 1 (by decide) (hG _ wd_649) (fun _ h9 => h9) rfl (by decide +kernel) rfl rfl (Nat.le_of_ble_eq_true rfl) d_M_clear_12 (fun H locs hP hD hS => ?_)
  have hP : va_P D vwC [(h0, .inr (3, mF ad 0 0 sn hot pc cx cy fo fv to tv fi ti)), ((ad 3), .inl (E.2.1, 2049, .inl bg))] H := hP
  have hD : va_D A [(h0, .inr (3, mF ad 0 0 sn hot pc cx cy fo fv to tv fi ti)), ((ad 3), .inl (E.2.1, 2049, .inl bg))] := hD
  refine lv_aload_n hx hb d_M_clear_15 rfl (lv_at hl 1 rfl) ?_
  have hPc := hP.sub (ws' := [(h0, .inr (3, mF ad 0 0 sn hot pc cx cy fo fv to tv fi ti)), ((ad 3), .inl (E.2.1, 2049, .inl bg))]) [0, 1] rfl
  have hDc := hD.sub (ws' := [(h0, .inr (3, mF ad 0 0 sn hot pc cx cy fo fv to tv fi ti)), ((ad 3), .inl (E.2.1, 2049, .inl bg))]) [0, 1] (by decide) rfl
  have hFc := va_free (wc := [(h0, .inr (3, mF ad 0 0 sn hot pc cx cy fo fv to tv fi ti)), ((ad 3), .inl (E.2.1, 2049, .inl bg))]) hD hS hA [0, 1] rfl
  refine va_callv (va_runV (As := []) (rest := []) ⟨hx, hb, hml, hown, hts⟩ (k_M_forget l D E h0 H.size ad 0 0 sn hot pc cx cy fo fv to tv fi ti bg) (cwV 0 hts (gw_gv wd_743 wd_745 wd_22 wd_42 wd_746) rfl rfl rfl (by decide +kernel) ⟨Nat.le_of_ble_eq_true rfl, Nat.le_of_ble_eq_true rfl⟩) (wP_V 0 hPc hK hDc rfl rfl) rfl rfl hl.1 rfl (lv_room (Nat.le_of_ble_eq_true rfl)) d_M_clear_16 ⟨Nat.le_of_ble_eq_true rfl, Nat.le_of_ble_eq_true rfl⟩) hS (fun q _ h => hFc q h) hFc (fun u t H1 locs ht hvm hw hB hz1 hk1 hS => ?_)
  obtain ⟨hP1, hD1⟩ := hB
  rw [ht] at hP1
  obtain ⟨hP, hD⟩ := va_join (wr := []) (w1 := [(h0, .inr (3, mF ad 0 0 0 0 0 cx cy fo fv to tv fi ti)), ((ad 3), .inl (E.2.1, 2049, .inl (mg_z bg 2049)))]) hP hD [0, 1] [] rfl rfl (by decide) (by decide) hk1 hFc hP1 hD1
  generalize H1 = H at hP hS ⊢
  have hP : va_P D vwC [(h0, .inr (3, mF ad 0 0 0 0 0 cx cy fo fv to tv fi ti)), ((ad 3), .inl (E.2.1, 2049, .inl (mg_z bg 2049)))] H := hP
  have hD : va_D A [(h0, .inr (3, mF ad 0 0 0 0 0 cx cy fo fv to tv fi ti)), ((ad 3), .inl (E.2.1, 2049, .inl (mg_z bg 2049)))] := hD
  refine lv_iload_n hx hb d_M_clear_19 rfl (lv_at hl 0 rfl) ?_
  exact W.iret (v := sg) hx hb hrt (fun t ht hW => ⟨⟨sg, (), rfl, rfl, ⟨by rw [ht]; exact hP, hD⟩⟩, hS.F ht⟩) hS.2.2 d_M_clear_20 hlocks
set_option maxHeartbeats 4000000 in
set_option maxRecDepth 100000 in
theorem k_M_meets_s (l : Launch) (D : va_G) (E : ClassId × ClassId × ClassId × ClassId) (h0 sz : Nat) (ad : Nat → Nat) (th sg sn hot pc cx cy : Int32) (fo fv to tv : Int64) (fi ti : Int32) (k9 x y : Int32) (hn : ¬ mw_in k9 0 (sg - 1)) : Met l y_M_meets (.code y_M_meets c_M_meets 4 (some .boolean) :: gw) ({ frames := 4, cells := 0, slots := 0, locals := 160 } : Room) (wP D E [(h0, .inr (3, mF ad th sg sn hot pc cx cy fo fv to tv fi ti))] sz [.ref h0, .int k9, .int x, .int y]) (va_Qi (fun (r : Int32) (u : Unit) => r = 0) (wB D (fun _ => [(h0, .inr (3, mF ad 1 sg sn hot pc cx cy fo fv to tv fi ti))]) (va_A [(h0, .inr (3, mF ad th sg sn hot pc cx cy fo fv to tv fi ti))] sz)) (va_A [(h0, .inr (3, mF ad th sg sn hot pc cx cy fo fv to tv fi ti))] sz)) 0 0 (va_A [(h0, .inr (3, mF ad th sg sn hot pc cx cy fo fv to tv fi ti))] sz) := by
  refine wr_ofW (Qc := fun A => (va_Qi (fun (r : Int32) (u : Unit) => r = 0) (wB D (fun _ => [(h0, .inr (3, mF ad 1 sg sn hot pc cx cy fo fv to tv fi ti))]) A) A)) (by decide) (Nat.le_of_ble_eq_true rfl) ?_
  intro p e s m below meth c B hP hK A hA hD hS ls hl
  obtain ⟨hx, hb, hrt, hml, hown, hts, hG, hlocks, hin⟩ := B
  have hl : lv_has ls 4 [(0, .ref h0), (1, .int k9), (2, .int x), (3, .int y)] := hl
  refine lv_aload_n hx hb d_M_meets_0 rfl (lv_at hl 0 rfl) ?_
  refine lv_iconst (v := 0) hx hb d_M_meets_1 (by decide) ?_
  refine va_put (D := D) (ci := 3) (v := .int 0) (ty := .int) (C := K_M) (T := F_M) (N := 24) hx hb hG in_M t_M t_M_ok n_M hown hK.1 hP hD hS 0 rfl rfl 0 (by decide) (hG _ wd_648) (fun _ h9 => h9) rfl (by decide +kernel) rfl rfl (Nat.le_of_ble_eq_true rfl) d_M_meets_2 (fun H locs hP hD hS => ?_)
  have hP : va_P D vwC [(h0, .inr (3, mF ad 0 sg sn hot pc cx cy fo fv to tv fi ti))] H := hP
  have hD : va_D A [(h0, .inr (3, mF ad 0 sg sn hot pc cx cy fo fv to tv fi ti))] := hD
  refine lv_aload_n hx hb d_M_meets_5 rfl (lv_at hl 0 rfl) ?_
  refine lv_iload_n hx hb d_M_meets_6 rfl (lv_at hl 1 rfl) ?_
  have hPc := hP.sub (ws' := [(h0, .inr (3, mF ad 0 sg sn hot pc cx cy fo fv to tv fi ti))]) [0] rfl
  refine vp_callSi (W.runV (As := [.int k9]) (rest := []) ⟨hx, hb, hml, hown, hts⟩ (k_M_isSegment l D E h0 ad 0 sg sn hot pc cx cy fo fv to tv fi ti k9) (cwV 1 hts (gw_gv wd_755 wd_757 wd_23 wd_42 wd_758) rfl rfl rfl (by decide +kernel) ⟨Nat.le_of_ble_eq_true rfl, Nat.le_of_ble_eq_true rfl⟩) (rP_V 0 hPc hK rfl rfl) rfl rfl hl.1 rfl (lv_room (Nat.le_of_ble_eq_true rfl)) d_M_meets_7 ⟨Nat.le_of_ble_eq_true rfl, Nat.le_of_ble_eq_true rfl⟩) (fun is1 his1 => ?_)
  refine lv_if_ne (tgt := 27) hx hb d_M_meets_10 (by decide) (fun c1 => ?_) (fun c1 => ?_)
  · rw [his1] at c1
    exact absurd (b01_1 c1) hn
  · refine lv_aload_n hx hb d_M_meets_13 rfl (lv_at hl 0 rfl) ?_
    refine lv_iconst (v := 1) hx hb d_M_meets_14 (by decide) ?_
    have hPc := hP.sub (ws' := [(h0, .inr (3, mF ad 0 sg sn hot pc cx cy fo fv to tv fi ti))]) [0] rfl
    have hDc := hD.sub (ws' := [(h0, .inr (3, mF ad 0 sg sn hot pc cx cy fo fv to tv fi ti))]) [0] (by decide) rfl
    have hFc := va_free (wc := [(h0, .inr (3, mF ad 0 sg sn hot pc cx cy fo fv to tv fi ti))]) hD hS hA [0] rfl
    refine va_calli (va_runV (As := [.int 1]) (rest := []) ⟨hx, hb, hml, hown, hts⟩ (k_M_fail l D E h0 H.size ad 0 sg sn hot pc cx cy fo fv to tv fi ti 1) (cwV 1 hts (gw_gv wd_739 wd_741 wd_21 wd_42 wd_742) rfl rfl rfl (by decide +kernel) ⟨Nat.le_of_ble_eq_true rfl, Nat.le_of_ble_eq_true rfl⟩) (wP_V 0 hPc hK hDc rfl rfl) rfl rfl hl.1 rfl (lv_room (Nat.le_of_ble_eq_true rfl)) d_M_meets_15 ⟨Nat.le_of_ble_eq_true rfl, Nat.le_of_ble_eq_true rfl⟩) hS (fun q _ h => hFc q h) hFc (fun rf2 u9 t H1 locs ht hvm hw hB hz1 hk1 hS => ?_)
    obtain ⟨hP1, hD1⟩ := hB
    rw [ht] at hP1
    obtain ⟨hP, hD⟩ := va_join (wr := []) (w1 := [(h0, .inr (3, mF ad 1 sg sn hot pc cx cy fo fv to tv fi ti))]) hP hD [0] [] rfl rfl (by decide) (by decide) hk1 hFc hP1 hD1
    generalize H1 = H at hP hS ⊢
    have hP : va_P D vwC [(h0, .inr (3, mF ad 1 sg sn hot pc cx cy fo fv to tv fi ti))] H := hP
    have hD : va_D A [(h0, .inr (3, mF ad 1 sg sn hot pc cx cy fo fv to tv fi ti))] := hD
    obtain rfl : rf2 = 0 := hw
    refine lv_if_le (tgt := 25) hx hb d_M_meets_18 (by decide) (fun c2 => ?_) (fun c2 => ?_)
    · refine lv_iconst (v := 0) hx hb d_M_meets_25 (by decide) ?_
      exact W.zret (v := 0) (ty := .boolean) hx hb hrt rfl (fun t ht hW => ⟨⟨0, (), rfl, rfl, ⟨by rw [ht]; exact hP, hD⟩⟩, hS.F ht⟩) hS.2.2 d_M_meets_26 hlocks
    · exact absurd (by decide) c2
set_option maxHeartbeats 4000000 in
set_option maxRecDepth 100000 in
theorem k_M_meets_f (l : Launch) (D : va_G) (E : ClassId × ClassId × ClassId × ClassId) (h0 sz : Nat) (ad : Nat → Nat) (th sg sn hot pc cx cy : Int32) (fo fv to tv : Int64) (fi ti : Int32) (k9 x y : Int32) (hs : mw_in k9 0 (sg - 1)) (hf : mw_far x ∨ mw_far y) : Met l y_M_meets (.code y_M_meets c_M_meets 4 (some .boolean) :: gw) ({ frames := 4, cells := 0, slots := 0, locals := 160 } : Room) (wP D E [(h0, .inr (3, mF ad th sg sn hot pc cx cy fo fv to tv fi ti))] sz [.ref h0, .int k9, .int x, .int y]) (va_Qi (fun (r : Int32) (u : Unit) => r = 0) (wB D (fun _ => [(h0, .inr (3, mF ad 2 sg sn hot pc cx cy fo fv to tv fi ti))]) (va_A [(h0, .inr (3, mF ad th sg sn hot pc cx cy fo fv to tv fi ti))] sz)) (va_A [(h0, .inr (3, mF ad th sg sn hot pc cx cy fo fv to tv fi ti))] sz)) 0 0 (va_A [(h0, .inr (3, mF ad th sg sn hot pc cx cy fo fv to tv fi ti))] sz) := by
  refine wr_ofW (Qc := fun A => (va_Qi (fun (r : Int32) (u : Unit) => r = 0) (wB D (fun _ => [(h0, .inr (3, mF ad 2 sg sn hot pc cx cy fo fv to tv fi ti))]) A) A)) (by decide) (Nat.le_of_ble_eq_true rfl) ?_
  intro p e s m below meth c B hP hK A hA hD hS ls hl
  obtain ⟨hx, hb, hrt, hml, hown, hts, hG, hlocks, hin⟩ := B
  have hl : lv_has ls 4 [(0, .ref h0), (1, .int k9), (2, .int x), (3, .int y)] := hl
  refine lv_aload_n hx hb d_M_meets_0 rfl (lv_at hl 0 rfl) ?_
  refine lv_iconst (v := 0) hx hb d_M_meets_1 (by decide) ?_
  refine va_put (D := D) (ci := 3) (v := .int 0) (ty := .int) (C := K_M) (T := F_M) (N := 24) hx hb hG in_M t_M t_M_ok n_M hown hK.1 hP hD hS 0 rfl rfl 0 (by decide) (hG _ wd_648) (fun _ h9 => h9) rfl (by decide +kernel) rfl rfl (Nat.le_of_ble_eq_true rfl) d_M_meets_2 (fun H locs hP hD hS => ?_)
  have hP : va_P D vwC [(h0, .inr (3, mF ad 0 sg sn hot pc cx cy fo fv to tv fi ti))] H := hP
  have hD : va_D A [(h0, .inr (3, mF ad 0 sg sn hot pc cx cy fo fv to tv fi ti))] := hD
  refine lv_aload_n hx hb d_M_meets_5 rfl (lv_at hl 0 rfl) ?_
  refine lv_iload_n hx hb d_M_meets_6 rfl (lv_at hl 1 rfl) ?_
  have hPc := hP.sub (ws' := [(h0, .inr (3, mF ad 0 sg sn hot pc cx cy fo fv to tv fi ti))]) [0] rfl
  refine vp_callSi (W.runV (As := [.int k9]) (rest := []) ⟨hx, hb, hml, hown, hts⟩ (k_M_isSegment l D E h0 ad 0 sg sn hot pc cx cy fo fv to tv fi ti k9) (cwV 1 hts (gw_gv wd_755 wd_757 wd_23 wd_42 wd_758) rfl rfl rfl (by decide +kernel) ⟨Nat.le_of_ble_eq_true rfl, Nat.le_of_ble_eq_true rfl⟩) (rP_V 0 hPc hK rfl rfl) rfl rfl hl.1 rfl (lv_room (Nat.le_of_ble_eq_true rfl)) d_M_meets_7 ⟨Nat.le_of_ble_eq_true rfl, Nat.le_of_ble_eq_true rfl⟩) (fun is1 his1 => ?_)
  refine lv_if_ne (tgt := 27) hx hb d_M_meets_10 (by decide) (fun c9 => ?_) (fun c9 => ?_)
  · refine lv_iload_n hx hb d_M_meets_27 rfl (lv_at hl 2 rfl) ?_
    have hPc := hP.sub (ws' := []) [] rfl
    refine vp_callSi (W.runS (As := [.int x]) (rest := []) ⟨hx, hb, hml, hown, hts⟩ (k_M_isFar l D E x) (va_cwS 1 hts (gw_gs wd_731 wd_732 wd_42 wd_733) rfl rfl rfl (by decide +kernel) ⟨Nat.le_of_ble_eq_true rfl, Nat.le_of_ble_eq_true rfl⟩) (rP_S hPc hK) rfl rfl hl.1 rfl (lv_room (Nat.le_of_ble_eq_true rfl)) d_M_meets_28 ⟨Nat.le_of_ble_eq_true rfl, Nat.le_of_ble_eq_true rfl⟩) (fun f0 hf0 => ?_)
    refine lv_if_ne (tgt := 41) hx hb d_M_meets_31 (by decide) (fun c0 => ?_) (fun c0 => ?_)
    · rw [hf0] at c0
      refine lv_aload_n hx hb d_M_meets_41 rfl (lv_at hl 0 rfl) ?_
      refine lv_iconst (v := 2) hx hb d_M_meets_42 (by decide) ?_
      have hPc := hP.sub (ws' := [(h0, .inr (3, mF ad 0 sg sn hot pc cx cy fo fv to tv fi ti))]) [0] rfl
      have hDc := hD.sub (ws' := [(h0, .inr (3, mF ad 0 sg sn hot pc cx cy fo fv to tv fi ti))]) [0] (by decide) rfl
      have hFc := va_free (wc := [(h0, .inr (3, mF ad 0 sg sn hot pc cx cy fo fv to tv fi ti))]) hD hS hA [0] rfl
      refine va_calli (va_runV (As := [.int 2]) (rest := []) ⟨hx, hb, hml, hown, hts⟩ (k_M_fail l D E h0 H.size ad 0 sg sn hot pc cx cy fo fv to tv fi ti 2) (cwV 1 hts (gw_gv wd_739 wd_741 wd_21 wd_42 wd_742) rfl rfl rfl (by decide +kernel) ⟨Nat.le_of_ble_eq_true rfl, Nat.le_of_ble_eq_true rfl⟩) (wP_V 0 hPc hK hDc rfl rfl) rfl rfl hl.1 rfl (lv_room (Nat.le_of_ble_eq_true rfl)) d_M_meets_43 ⟨Nat.le_of_ble_eq_true rfl, Nat.le_of_ble_eq_true rfl⟩) hS (fun q _ h => hFc q h) hFc (fun rf2 u9 t H1 locs ht hvm hw hB hz1 hk1 hS => ?_)
      obtain ⟨hP1, hD1⟩ := hB
      rw [ht] at hP1
      obtain ⟨hP, hD⟩ := va_join (wr := []) (w1 := [(h0, .inr (3, mF ad 2 sg sn hot pc cx cy fo fv to tv fi ti))]) hP hD [0] [] rfl rfl (by decide) (by decide) hk1 hFc hP1 hD1
      generalize H1 = H at hP hS ⊢
      have hP : va_P D vwC [(h0, .inr (3, mF ad 2 sg sn hot pc cx cy fo fv to tv fi ti))] H := hP
      have hD : va_D A [(h0, .inr (3, mF ad 2 sg sn hot pc cx cy fo fv to tv fi ti))] := hD
      obtain rfl : rf2 = 0 := hw
      refine lv_if_le (tgt := 53) hx hb d_M_meets_46 (by decide) (fun d1 => ?_) (fun d1 => ?_)
      · refine lv_iconst (v := 0) hx hb d_M_meets_53 (by decide) ?_
        exact W.zret (v := 0) (ty := .boolean) hx hb hrt rfl (fun t ht hW => ⟨⟨0, (), rfl, rfl, ⟨by rw [ht]; exact hP, hD⟩⟩, hS.F ht⟩) hS.2.2 d_M_meets_54 hlocks
      · exact absurd (by decide) d1
    · rw [hf0] at c0
      refine lv_iload_n hx hb d_M_meets_34 rfl (lv_at hl 3 rfl) ?_
      have hPc := hP.sub (ws' := []) [] rfl
      refine vp_callSi (W.runS (As := [.int y]) (rest := []) ⟨hx, hb, hml, hown, hts⟩ (k_M_isFar l D E y) (va_cwS 1 hts (gw_gs wd_731 wd_732 wd_42 wd_733) rfl rfl rfl (by decide +kernel) ⟨Nat.le_of_ble_eq_true rfl, Nat.le_of_ble_eq_true rfl⟩) (rP_S hPc hK) rfl rfl hl.1 rfl (lv_room (Nat.le_of_ble_eq_true rfl)) d_M_meets_35 ⟨Nat.le_of_ble_eq_true rfl, Nat.le_of_ble_eq_true rfl⟩) (fun f1 hf1 => ?_)
      refine lv_if_eq (tgt := 55) hx hb d_M_meets_38 (by decide) (fun c1 => ?_) (fun c1 => ?_)
      · rw [hf1] at c1
        exact absurd hf (by
          rintro (h | h)
          · rw [b01_t h] at c0; exact absurd c0 (by decide)
          · rw [b01_t h] at c1; exact absurd c1 (by decide))
      · rw [hf1] at c1
        refine lv_aload_n hx hb d_M_meets_41 rfl (lv_at hl 0 rfl) ?_
        refine lv_iconst (v := 2) hx hb d_M_meets_42 (by decide) ?_
        have hPc := hP.sub (ws' := [(h0, .inr (3, mF ad 0 sg sn hot pc cx cy fo fv to tv fi ti))]) [0] rfl
        have hDc := hD.sub (ws' := [(h0, .inr (3, mF ad 0 sg sn hot pc cx cy fo fv to tv fi ti))]) [0] (by decide) rfl
        have hFc := va_free (wc := [(h0, .inr (3, mF ad 0 sg sn hot pc cx cy fo fv to tv fi ti))]) hD hS hA [0] rfl
        refine va_calli (va_runV (As := [.int 2]) (rest := []) ⟨hx, hb, hml, hown, hts⟩ (k_M_fail l D E h0 H.size ad 0 sg sn hot pc cx cy fo fv to tv fi ti 2) (cwV 1 hts (gw_gv wd_739 wd_741 wd_21 wd_42 wd_742) rfl rfl rfl (by decide +kernel) ⟨Nat.le_of_ble_eq_true rfl, Nat.le_of_ble_eq_true rfl⟩) (wP_V 0 hPc hK hDc rfl rfl) rfl rfl hl.1 rfl (lv_room (Nat.le_of_ble_eq_true rfl)) d_M_meets_43 ⟨Nat.le_of_ble_eq_true rfl, Nat.le_of_ble_eq_true rfl⟩) hS (fun q _ h => hFc q h) hFc (fun rf3 u9 t H1 locs ht hvm hw hB hz1 hk1 hS => ?_)
        obtain ⟨hP1, hD1⟩ := hB
        rw [ht] at hP1
        obtain ⟨hP, hD⟩ := va_join (wr := []) (w1 := [(h0, .inr (3, mF ad 2 sg sn hot pc cx cy fo fv to tv fi ti))]) hP hD [0] [] rfl rfl (by decide) (by decide) hk1 hFc hP1 hD1
        generalize H1 = H at hP hS ⊢
        have hP : va_P D vwC [(h0, .inr (3, mF ad 2 sg sn hot pc cx cy fo fv to tv fi ti))] H := hP
        have hD : va_D A [(h0, .inr (3, mF ad 2 sg sn hot pc cx cy fo fv to tv fi ti))] := hD
        obtain rfl : rf3 = 0 := hw
        refine lv_if_le (tgt := 53) hx hb d_M_meets_46 (by decide) (fun d1 => ?_) (fun d1 => ?_)
        · refine lv_iconst (v := 0) hx hb d_M_meets_53 (by decide) ?_
          exact W.zret (v := 0) (ty := .boolean) hx hb hrt rfl (fun t ht hW => ⟨⟨0, (), rfl, rfl, ⟨by rw [ht]; exact hP, hD⟩⟩, hS.F ht⟩) hS.2.2 d_M_meets_54 hlocks
        · exact absurd (by decide) d1
  · rw [his1, b01_t hs] at c9
    exact absurd c9 (by decide)
set_option maxHeartbeats 4000000 in
set_option maxRecDepth 100000 in
theorem k_M_meets (l : Launch) (D : va_G) (E : ClassId × ClassId × ClassId × ClassId) (h0 sz : Nat) (ad : Nat → Nat) (th sg sn hot pc cx cy : Int32) (fo fv to tv : Int64) (fi ti : Int32) (e9 : Nat → Int32) (k : Nat) (x y : Int32) (hk : 4 * k + 3 < 8192) (hs : mw_in (nI k) 0 (sg - 1)) (hf : ¬ mw_far x ∧ ¬ mw_far y) : Met l y_M_meets (.code y_M_meets c_M_meets 4 (some .boolean) :: gw) ({ frames := 4, cells := 0, slots := 0, locals := 160 } : Room) (wP D E [(h0, .inr (3, mF ad th sg sn hot pc cx cy fo fv to tv fi ti)), ((ad 0), .inl (E.2.1, 8192, .inl e9))] sz [.ref h0, .int (nI k), .int x, .int y]) (va_Qi (fun (r : Int32) (u : Unit) => r = b01 (mi_in (mq e9 k) x y)) (wB D (fun _ => [(h0, .inr (3, mF ad 0 sg sn hot pc cx cy ((mi_iv (mq e9 k) x y).1.1) ((mi_iv (mq e9 k) x y).1.2.1) ((mi_iv (mq e9 k) x y).2.1) ((mi_iv (mq e9 k) x y).2.2.1) ((mi_iv (mq e9 k) x y).1.2.2) ((mi_iv (mq e9 k) x y).2.2.2))), ((ad 0), .inl (E.2.1, 8192, .inl e9))]) (va_A [(h0, .inr (3, mF ad th sg sn hot pc cx cy fo fv to tv fi ti)), ((ad 0), .inl (E.2.1, 8192, .inl e9))] sz)) (va_A [(h0, .inr (3, mF ad th sg sn hot pc cx cy fo fv to tv fi ti)), ((ad 0), .inl (E.2.1, 8192, .inl e9))] sz)) 0 0 (va_A [(h0, .inr (3, mF ad th sg sn hot pc cx cy fo fv to tv fi ti)), ((ad 0), .inl (E.2.1, 8192, .inl e9))] sz) := by
  refine wr_ofW (Qc := fun A => (va_Qi (fun (r : Int32) (u : Unit) => r = b01 (mi_in (mq e9 k) x y)) (wB D (fun _ => [(h0, .inr (3, mF ad 0 sg sn hot pc cx cy ((mi_iv (mq e9 k) x y).1.1) ((mi_iv (mq e9 k) x y).1.2.1) ((mi_iv (mq e9 k) x y).2.1) ((mi_iv (mq e9 k) x y).2.2.1) ((mi_iv (mq e9 k) x y).1.2.2) ((mi_iv (mq e9 k) x y).2.2.2))), ((ad 0), .inl (E.2.1, 8192, .inl e9))]) A) A)) (by decide) (Nat.le_of_ble_eq_true rfl) ?_
  intro p e s m below meth c B hP hK A hA hD hS ls hl
  obtain ⟨hx, hb, hrt, hml, hown, hts, hG, hlocks, hin⟩ := B
  have hl : lv_has ls 4 [(0, .ref h0), (1, .int (nI k)), (2, .int x), (3, .int y)] := hl
  refine lv_aload_n hx hb d_M_meets_0 rfl (lv_at hl 0 rfl) ?_
  refine lv_iconst (v := 0) hx hb d_M_meets_1 (by decide) ?_
  refine va_put (D := D) (ci := 3) (v := .int 0) (ty := .int) (C := K_M) (T := F_M) (N := 24) hx hb hG in_M t_M t_M_ok n_M hown hK.1 hP hD hS 0 rfl rfl 0 (by decide) (hG _ wd_648) (fun _ h9 => h9) rfl (by decide +kernel) rfl rfl (Nat.le_of_ble_eq_true rfl) d_M_meets_2 (fun H locs hP hD hS => ?_)
  have hP : va_P D vwC [(h0, .inr (3, mF ad 0 sg sn hot pc cx cy fo fv to tv fi ti)), ((ad 0), .inl (E.2.1, 8192, .inl e9))] H := hP
  have hD : va_D A [(h0, .inr (3, mF ad 0 sg sn hot pc cx cy fo fv to tv fi ti)), ((ad 0), .inl (E.2.1, 8192, .inl e9))] := hD
  refine lv_aload_n hx hb d_M_meets_5 rfl (lv_at hl 0 rfl) ?_
  refine lv_iload_n hx hb d_M_meets_6 rfl (lv_at hl 1 rfl) ?_
  have hPc := hP.sub (ws' := [(h0, .inr (3, mF ad 0 sg sn hot pc cx cy fo fv to tv fi ti))]) [0] rfl
  refine vp_callSi (W.runV (As := [.int (nI k)]) (rest := []) ⟨hx, hb, hml, hown, hts⟩ (k_M_isSegment l D E h0 ad 0 sg sn hot pc cx cy fo fv to tv fi ti (nI k)) (cwV 1 hts (gw_gv wd_755 wd_757 wd_23 wd_42 wd_758) rfl rfl rfl (by decide +kernel) ⟨Nat.le_of_ble_eq_true rfl, Nat.le_of_ble_eq_true rfl⟩) (rP_V 0 hPc hK rfl rfl) rfl rfl hl.1 rfl (lv_room (Nat.le_of_ble_eq_true rfl)) d_M_meets_7 ⟨Nat.le_of_ble_eq_true rfl, Nat.le_of_ble_eq_true rfl⟩) (fun is1 his1 => ?_)
  refine lv_if_ne (tgt := 27) hx hb d_M_meets_10 (by decide) (fun c9 => ?_) (fun c9 => ?_)
  · refine lv_iload_n hx hb d_M_meets_27 rfl (lv_at hl 2 rfl) ?_
    have hPc := hP.sub (ws' := []) [] rfl
    refine vp_callSi (W.runS (As := [.int x]) (rest := []) ⟨hx, hb, hml, hown, hts⟩ (k_M_isFar l D E x) (va_cwS 1 hts (gw_gs wd_731 wd_732 wd_42 wd_733) rfl rfl rfl (by decide +kernel) ⟨Nat.le_of_ble_eq_true rfl, Nat.le_of_ble_eq_true rfl⟩) (rP_S hPc hK) rfl rfl hl.1 rfl (lv_room (Nat.le_of_ble_eq_true rfl)) d_M_meets_28 ⟨Nat.le_of_ble_eq_true rfl, Nat.le_of_ble_eq_true rfl⟩) (fun f0 hf0 => ?_)
    refine lv_if_ne (tgt := 41) hx hb d_M_meets_31 (by decide) (fun c0 => ?_) (fun c0 => ?_)
    · rw [hf0] at c0
      exact absurd (b01_1 c0) hf.1
    · rw [hf0] at c0
      refine lv_iload_n hx hb d_M_meets_34 rfl (lv_at hl 3 rfl) ?_
      have hPc := hP.sub (ws' := []) [] rfl
      refine vp_callSi (W.runS (As := [.int y]) (rest := []) ⟨hx, hb, hml, hown, hts⟩ (k_M_isFar l D E y) (va_cwS 1 hts (gw_gs wd_731 wd_732 wd_42 wd_733) rfl rfl rfl (by decide +kernel) ⟨Nat.le_of_ble_eq_true rfl, Nat.le_of_ble_eq_true rfl⟩) (rP_S hPc hK) rfl rfl hl.1 rfl (lv_room (Nat.le_of_ble_eq_true rfl)) d_M_meets_35 ⟨Nat.le_of_ble_eq_true rfl, Nat.le_of_ble_eq_true rfl⟩) (fun f1 hf1 => ?_)
      refine lv_if_eq (tgt := 55) hx hb d_M_meets_38 (by decide) (fun c1 => ?_) (fun c1 => ?_)
      · rw [hf1] at c1
        refine lv_aload_n hx hb d_M_meets_55 rfl (lv_at hl 0 rfl) ?_
        refine lv_iload_n hx hb d_M_meets_56 rfl (lv_at hl 1 rfl) ?_
        refine lv_iload_n hx hb d_M_meets_57 rfl (lv_at hl 2 rfl) ?_
        refine lv_iload_n hx hb d_M_meets_58 rfl (lv_at hl 3 rfl) ?_
        have hPc := hP.sub (ws' := [(h0, .inr (3, mF ad 0 sg sn hot pc cx cy fo fv to tv fi ti)), ((ad 0), .inl (E.2.1, 8192, .inl e9))]) [0, 1] rfl
        have hDc := hD.sub (ws' := [(h0, .inr (3, mF ad 0 sg sn hot pc cx cy fo fv to tv fi ti)), ((ad 0), .inl (E.2.1, 8192, .inl e9))]) [0, 1] (by decide) rfl
        have hFc := va_free (wc := [(h0, .inr (3, mF ad 0 sg sn hot pc cx cy fo fv to tv fi ti)), ((ad 0), .inl (E.2.1, 8192, .inl e9))]) hD hS hA [0, 1] rfl
        refine va_calli (va_runV (As := [.int (nI k), .int x, .int y]) (rest := []) ⟨hx, hb, hml, hown, hts⟩ (k_M_isIn l D E h0 H.size ad 0 sg sn hot pc cx cy fo fv to tv fi ti e9 k x y hk) (cwV 3 hts (gw_gv wd_759 wd_761 wd_24 wd_42 wd_762) rfl rfl rfl (by decide +kernel) ⟨Nat.le_of_ble_eq_true rfl, Nat.le_of_ble_eq_true rfl⟩) (wP_V 0 hPc hK hDc rfl rfl) rfl rfl hl.1 rfl (lv_room (Nat.le_of_ble_eq_true rfl)) d_M_meets_59 ⟨Nat.le_of_ble_eq_true rfl, Nat.le_of_ble_eq_true rfl⟩) hS (fun q _ h => hFc q h) hFc (fun ri u t H1 locs ht hvm hw hB hz1 hk1 hS => ?_)
        obtain ⟨hP1, hD1⟩ := hB
        rw [ht] at hP1
        obtain ⟨hP, hD⟩ := va_join (wr := []) (w1 := [(h0, .inr (3, mF ad 0 sg sn hot pc cx cy ((mi_iv (mq e9 k) x y).1.1) ((mi_iv (mq e9 k) x y).1.2.1) ((mi_iv (mq e9 k) x y).2.1) ((mi_iv (mq e9 k) x y).2.2.1) ((mi_iv (mq e9 k) x y).1.2.2) ((mi_iv (mq e9 k) x y).2.2.2))), ((ad 0), .inl (E.2.1, 8192, .inl e9))]) hP hD [0, 1] [] rfl rfl (by decide) (by decide) hk1 hFc hP1 hD1
        generalize H1 = H at hP hS ⊢
        have hP : va_P D vwC [(h0, .inr (3, mF ad 0 sg sn hot pc cx cy ((mi_iv (mq e9 k) x y).1.1) ((mi_iv (mq e9 k) x y).1.2.1) ((mi_iv (mq e9 k) x y).2.1) ((mi_iv (mq e9 k) x y).2.2.1) ((mi_iv (mq e9 k) x y).1.2.2) ((mi_iv (mq e9 k) x y).2.2.2))), ((ad 0), .inl (E.2.1, 8192, .inl e9))] H := hP
        have hD : va_D A [(h0, .inr (3, mF ad 0 sg sn hot pc cx cy ((mi_iv (mq e9 k) x y).1.1) ((mi_iv (mq e9 k) x y).1.2.1) ((mi_iv (mq e9 k) x y).2.1) ((mi_iv (mq e9 k) x y).2.2.1) ((mi_iv (mq e9 k) x y).1.2.2) ((mi_iv (mq e9 k) x y).2.2.2))), ((ad 0), .inl (E.2.1, 8192, .inl e9))] := hD
        obtain rfl : ri = _ := hw
        exact W.zret (v := (b01 (mi_in (mq e9 k) x y))) (ty := .boolean) hx hb hrt (b01_n _) (fun t ht hW => ⟨⟨(b01 (mi_in (mq e9 k) x y)), (), rfl, rfl, ⟨by rw [ht]; exact hP, hD⟩⟩, hS.F ht⟩) hS.2.2 d_M_meets_62 hlocks
      · rw [hf1] at c1
        exact absurd (b01_1 c1) hf.2
  · rw [his1, b01_t hs] at c9
    exact absurd c9 (by decide)
end
end
section
theorem d_M_crossing_0 : decode c_M_crossing 0 = .ok (.aload_n 0, 1) := by decide +kernel
theorem d_M_crossing_1 : decode c_M_crossing 1 = .ok (.iconst 0, 1) := by decide +kernel
theorem d_M_crossing_2 : decode c_M_crossing 2 = .ok (.putfield 46, 3) := by decide +kernel
theorem d_M_crossing_5 : decode c_M_crossing 5 = .ok (.aload_n 0, 1) := by decide +kernel
theorem d_M_crossing_6 : decode c_M_crossing 6 = .ok (.iload_n 1, 1) := by decide +kernel
theorem d_M_crossing_7 : decode c_M_crossing 7 = .ok (.invokevirtual 116, 3) := by decide +kernel
theorem d_M_crossing_10 : decode c_M_crossing 10 = .ok (.ifCond .eq 20, 3) := by decide +kernel
theorem d_M_crossing_13 : decode c_M_crossing 13 = .ok (.aload_n 0, 1) := by decide +kernel
theorem d_M_crossing_14 : decode c_M_crossing 14 = .ok (.iload_n 2, 1) := by decide +kernel
theorem d_M_crossing_15 : decode c_M_crossing 15 = .ok (.invokevirtual 116, 3) := by decide +kernel
theorem d_M_crossing_18 : decode c_M_crossing 18 = .ok (.ifCond .eq 12, 3) := by decide +kernel
theorem d_M_crossing_21 : decode c_M_crossing 21 = .ok (.iload_n 3, 1) := by decide +kernel
theorem d_M_crossing_22 : decode c_M_crossing 22 = .ok (.iconst 0, 1) := by decide +kernel
theorem d_M_crossing_23 : decode c_M_crossing 23 = .ok (.iconst 1, 1) := by decide +kernel
theorem d_M_crossing_24 : decode c_M_crossing 24 = .ok (.invokestatic 52, 3) := by decide +kernel
theorem d_M_crossing_27 : decode c_M_crossing 27 = .ok (.ifCond .ne 9, 3) := by decide +kernel
theorem d_M_crossing_30 : decode c_M_crossing 30 = .ok (.aload_n 0, 1) := by decide +kernel
theorem d_M_crossing_31 : decode c_M_crossing 31 = .ok (.iconst 1, 1) := by decide +kernel
theorem d_M_crossing_32 : decode c_M_crossing 32 = .ok (.invokevirtual 73, 3) := by decide +kernel
theorem d_M_crossing_35 : decode c_M_crossing 35 = .ok (.ireturn, 1) := by decide +kernel
theorem d_M_crossing_36 : decode c_M_crossing 36 = .ok (.aload_n 0, 1) := by decide +kernel
theorem d_M_crossing_37 : decode c_M_crossing 37 = .ok (.iload_n 1, 1) := by decide +kernel
theorem d_M_crossing_38 : decode c_M_crossing 38 = .ok (.iload_n 2, 1) := by decide +kernel
theorem d_M_crossing_39 : decode c_M_crossing 39 = .ok (.invokevirtual 136, 3) := by decide +kernel
theorem d_M_crossing_42 : decode c_M_crossing 42 = .ok (.ifCond .ne 9, 3) := by decide +kernel
theorem d_M_crossing_45 : decode c_M_crossing 45 = .ok (.aload_n 0, 1) := by decide +kernel
theorem d_M_crossing_46 : decode c_M_crossing 46 = .ok (.iconst 2, 1) := by decide +kernel
theorem d_M_crossing_47 : decode c_M_crossing 47 = .ok (.invokevirtual 73, 3) := by decide +kernel
theorem d_M_crossing_50 : decode c_M_crossing 50 = .ok (.ireturn, 1) := by decide +kernel
theorem d_M_crossing_51 : decode c_M_crossing 51 = .ok (.iload_n 3, 1) := by decide +kernel
theorem d_M_crossing_52 : decode c_M_crossing 52 = .ok (.ifCond .ne 10, 3) := by decide +kernel
theorem d_M_crossing_55 : decode c_M_crossing 55 = .ok (.aload_n 0, 1) := by decide +kernel
theorem d_M_crossing_56 : decode c_M_crossing 56 = .ok (.getfield 130, 3) := by decide +kernel
theorem d_M_crossing_59 : decode c_M_crossing 59 = .ok (.goto 7, 3) := by decide +kernel
theorem d_M_crossing_62 : decode c_M_crossing 62 = .ok (.aload_n 0, 1) := by decide +kernel
theorem d_M_crossing_63 : decode c_M_crossing 63 = .ok (.getfield 133, 3) := by decide +kernel
theorem d_M_crossing_66 : decode c_M_crossing 66 = .ok (.ireturn, 1) := by decide +kernel
theorem d_M_piece_0 : decode c_M_piece 0 = .ok (.aload_n 0, 1) := by decide +kernel
theorem d_M_piece_1 : decode c_M_piece 1 = .ok (.iconst 0, 1) := by decide +kernel
theorem d_M_piece_2 : decode c_M_piece 2 = .ok (.putfield 46, 3) := by decide +kernel
theorem d_M_piece_5 : decode c_M_piece 5 = .ok (.iload_n 1, 1) := by decide +kernel
theorem d_M_piece_6 : decode c_M_piece 6 = .ok (.iconst 0, 1) := by decide +kernel
theorem d_M_piece_7 : decode c_M_piece 7 = .ok (.aload_n 0, 1) := by decide +kernel
theorem d_M_piece_8 : decode c_M_piece 8 = .ok (.getfield 66, 3) := by decide +kernel
theorem d_M_piece_11 : decode c_M_piece 11 = .ok (.iconst 1, 1) := by decide +kernel
theorem d_M_piece_12 : decode c_M_piece 12 = .ok (.isub, 1) := by decide +kernel
theorem d_M_piece_13 : decode c_M_piece 13 = .ok (.invokestatic 52, 3) := by decide +kernel
theorem d_M_piece_16 : decode c_M_piece 16 = .ok (.ifCond .eq 12, 3) := by decide +kernel
theorem d_M_piece_19 : decode c_M_piece 19 = .ok (.iload_n 2, 1) := by decide +kernel
theorem d_M_piece_20 : decode c_M_piece 20 = .ok (.iconst 0, 1) := by decide +kernel
theorem d_M_piece_21 : decode c_M_piece 21 = .ok (.iconst 2, 1) := by decide +kernel
theorem d_M_piece_22 : decode c_M_piece 22 = .ok (.invokestatic 52, 3) := by decide +kernel
theorem d_M_piece_25 : decode c_M_piece 25 = .ok (.ifCond .ne 9, 3) := by decide +kernel
theorem d_M_piece_28 : decode c_M_piece 28 = .ok (.aload_n 0, 1) := by decide +kernel
theorem d_M_piece_29 : decode c_M_piece 29 = .ok (.iconst 1, 1) := by decide +kernel
theorem d_M_piece_30 : decode c_M_piece 30 = .ok (.invokevirtual 73, 3) := by decide +kernel
theorem d_M_piece_33 : decode c_M_piece 33 = .ok (.ireturn, 1) := by decide +kernel
theorem d_M_piece_34 : decode c_M_piece 34 = .ok (.iload_n 2, 1) := by decide +kernel
theorem d_M_piece_35 : decode c_M_piece 35 = .ok (.ifCond .ne 12, 3) := by decide +kernel
theorem d_M_piece_38 : decode c_M_piece 38 = .ok (.aload_n 0, 1) := by decide +kernel
theorem d_M_piece_39 : decode c_M_piece 39 = .ok (.getfield 26, 3) := by decide +kernel
theorem d_M_piece_42 : decode c_M_piece 42 = .ok (.iload_n 1, 1) := by decide +kernel
theorem d_M_piece_43 : decode c_M_piece 43 = .ok (.iaload, 1) := by decide +kernel
theorem d_M_piece_44 : decode c_M_piece 44 = .ok (.goto 23, 3) := by decide +kernel
theorem d_M_piece_47 : decode c_M_piece 47 = .ok (.iload_n 2, 1) := by decide +kernel
theorem d_M_piece_48 : decode c_M_piece 48 = .ok (.iconst 1, 1) := by decide +kernel
theorem d_M_piece_49 : decode c_M_piece 49 = .ok (.if_icmp .ne 12, 3) := by decide +kernel
theorem d_M_piece_52 : decode c_M_piece 52 = .ok (.aload_n 0, 1) := by decide +kernel
theorem d_M_piece_53 : decode c_M_piece 53 = .ok (.getfield 29, 3) := by decide +kernel
theorem d_M_piece_56 : decode c_M_piece 56 = .ok (.iload_n 1, 1) := by decide +kernel
theorem d_M_piece_57 : decode c_M_piece 57 = .ok (.iaload, 1) := by decide +kernel
theorem d_M_piece_58 : decode c_M_piece 58 = .ok (.goto 9, 3) := by decide +kernel
theorem d_M_piece_61 : decode c_M_piece 61 = .ok (.aload_n 0, 1) := by decide +kernel
theorem d_M_piece_62 : decode c_M_piece 62 = .ok (.getfield 32, 3) := by decide +kernel
theorem d_M_piece_65 : decode c_M_piece 65 = .ok (.iload_n 1, 1) := by decide +kernel
theorem d_M_piece_66 : decode c_M_piece 66 = .ok (.iaload, 1) := by decide +kernel
theorem d_M_piece_67 : decode c_M_piece 67 = .ok (.ireturn, 1) := by decide +kernel
theorem d_M_pixel_0 : decode c_M_pixel 0 = .ok (.aload_n 0, 1) := by decide +kernel
theorem d_M_pixel_1 : decode c_M_pixel 1 = .ok (.iconst 0, 1) := by decide +kernel
theorem d_M_pixel_2 : decode c_M_pixel 2 = .ok (.putfield 46, 3) := by decide +kernel
theorem d_M_pixel_5 : decode c_M_pixel 5 = .ok (.iload_n 1, 1) := by decide +kernel
theorem d_M_pixel_6 : decode c_M_pixel 6 = .ok (.iconst 0, 1) := by decide +kernel
theorem d_M_pixel_7 : decode c_M_pixel 7 = .ok (.aload_n 0, 1) := by decide +kernel
theorem d_M_pixel_8 : decode c_M_pixel 8 = .ok (.getfield 63, 3) := by decide +kernel
theorem d_M_pixel_11 : decode c_M_pixel 11 = .ok (.iconst 1, 1) := by decide +kernel
theorem d_M_pixel_12 : decode c_M_pixel 12 = .ok (.isub, 1) := by decide +kernel
theorem d_M_pixel_13 : decode c_M_pixel 13 = .ok (.invokestatic 52, 3) := by decide +kernel
theorem d_M_pixel_16 : decode c_M_pixel 16 = .ok (.ifCond .eq 12, 3) := by decide +kernel
theorem d_M_pixel_19 : decode c_M_pixel 19 = .ok (.iload_n 2, 1) := by decide +kernel
theorem d_M_pixel_20 : decode c_M_pixel 20 = .ok (.iconst 0, 1) := by decide +kernel
theorem d_M_pixel_21 : decode c_M_pixel 21 = .ok (.iconst 1, 1) := by decide +kernel
theorem d_M_pixel_22 : decode c_M_pixel 22 = .ok (.invokestatic 52, 3) := by decide +kernel
theorem d_M_pixel_25 : decode c_M_pixel 25 = .ok (.ifCond .ne 9, 3) := by decide +kernel
theorem d_M_pixel_28 : decode c_M_pixel 28 = .ok (.aload_n 0, 1) := by decide +kernel
theorem d_M_pixel_29 : decode c_M_pixel 29 = .ok (.iconst 1, 1) := by decide +kernel
theorem d_M_pixel_30 : decode c_M_pixel 30 = .ok (.invokevirtual 73, 3) := by decide +kernel
theorem d_M_pixel_33 : decode c_M_pixel 33 = .ok (.ireturn, 1) := by decide +kernel
theorem d_M_pixel_34 : decode c_M_pixel 34 = .ok (.iload_n 2, 1) := by decide +kernel
theorem d_M_pixel_35 : decode c_M_pixel 35 = .ok (.ifCond .ne 12, 3) := by decide +kernel
theorem d_M_pixel_38 : decode c_M_pixel 38 = .ok (.aload_n 0, 1) := by decide +kernel
theorem d_M_pixel_39 : decode c_M_pixel 39 = .ok (.getfield 13, 3) := by decide +kernel
theorem d_M_pixel_42 : decode c_M_pixel 42 = .ok (.iload_n 1, 1) := by decide +kernel
theorem d_M_pixel_43 : decode c_M_pixel 43 = .ok (.iaload, 1) := by decide +kernel
theorem d_M_pixel_44 : decode c_M_pixel 44 = .ok (.goto 9, 3) := by decide +kernel
theorem d_M_pixel_47 : decode c_M_pixel 47 = .ok (.aload_n 0, 1) := by decide +kernel
theorem d_M_pixel_48 : decode c_M_pixel 48 = .ok (.getfield 16, 3) := by decide +kernel
theorem d_M_pixel_51 : decode c_M_pixel 51 = .ok (.iload_n 1, 1) := by decide +kernel
theorem d_M_pixel_52 : decode c_M_pixel 52 = .ok (.iaload, 1) := by decide +kernel
theorem d_M_pixel_53 : decode c_M_pixel 53 = .ok (.ireturn, 1) := by decide +kernel
noncomputable section
theorem mw_nat {p : Int32} {h : Nat} (hh : h < 2 ^ 30) (hp : mw_in p 0 (nI h - 1)) : ∃ i, i < h ∧ p = nI i := by
  obtain ⟨h1, h2⟩ := hp
  obtain ⟨i, hi, rfl⟩ := nI_of h1
  refine ⟨i, ?_, rfl⟩
  rw [Int32.lt_iff_toInt_lt, dec_toI (by omega), nI_toInt hi] at h2
  omega
theorem mw_nat' {h i : Nat} (hh : h < 2 ^ 30) (hi : i < h) : mw_in (nI i) 0 (nI h - 1) := by
  refine ⟨nI_pos (by omega), ?_⟩
  rw [Int32.lt_iff_toInt_lt, dec_toI (by omega), nI_toInt (by omega)]
  omega
set_option maxHeartbeats 4000000 in
set_option maxRecDepth 100000 in
theorem k_M_crossing_n (l : Launch) (D : va_G) (E : ClassId × ClassId × ClassId × ClassId) (h0 sz : Nat) (ad : Nat → Nat) (th sg sn hot pc cx cy : Int32) (fo fv to tv : Int64) (fi ti : Int32) (k1 k2 w : Int32) (hn : ¬ (mw_in k1 0 (sg - 1) ∧ mw_in k2 0 (sg - 1) ∧ mw_in w 0 1)) : Met l y_M_crossing (.code y_M_crossing c_M_crossing 4 (some .int) :: gw) ({ frames := 2, cells := 0, slots := 0, locals := 80 } : Room) (wP D E [(h0, .inr (3, mF ad th sg sn hot pc cx cy fo fv to tv fi ti))] sz [.ref h0, .int k1, .int k2, .int w]) (va_Qi (fun (r : Int32) (u : Unit) => r = 0) (wB D (fun _ => [(h0, .inr (3, mF ad 1 sg sn hot pc cx cy fo fv to tv fi ti))]) (va_A [(h0, .inr (3, mF ad th sg sn hot pc cx cy fo fv to tv fi ti))] sz)) (va_A [(h0, .inr (3, mF ad th sg sn hot pc cx cy fo fv to tv fi ti))] sz)) 0 0 (va_A [(h0, .inr (3, mF ad th sg sn hot pc cx cy fo fv to tv fi ti))] sz) := by
  refine wr_ofW (Qc := fun A => (va_Qi (fun (r : Int32) (u : Unit) => r = 0) (wB D (fun _ => [(h0, .inr (3, mF ad 1 sg sn hot pc cx cy fo fv to tv fi ti))]) A) A)) (by decide) (Nat.le_of_ble_eq_true rfl) ?_
  intro p e s m below meth c B hP hK A hA hD hS ls hl
  obtain ⟨hx, hb, hrt, hml, hown, hts, hG, hlocks, hin⟩ := B
  have hl : lv_has ls 4 [(0, .ref h0), (1, .int k1), (2, .int k2), (3, .int w)] := hl
  refine lv_aload_n hx hb d_M_crossing_0 rfl (lv_at hl 0 rfl) ?_
  refine lv_iconst (v := 0) hx hb d_M_crossing_1 (by decide) ?_
  refine va_put (D := D) (ci := 3) (v := .int 0) (ty := .int) (C := K_M) (T := F_M) (N := 24) hx hb hG in_M t_M t_M_ok n_M hown hK.1 hP hD hS 0 rfl rfl 0 (by decide) (hG _ wd_648) (fun _ h9 => h9) rfl (by decide +kernel) rfl rfl (Nat.le_of_ble_eq_true rfl) d_M_crossing_2 (fun H locs hP hD hS => ?_)
  have hP : va_P D vwC [(h0, .inr (3, mF ad 0 sg sn hot pc cx cy fo fv to tv fi ti))] H := hP
  have hD : va_D A [(h0, .inr (3, mF ad 0 sg sn hot pc cx cy fo fv to tv fi ti))] := hD
  refine lv_aload_n hx hb d_M_crossing_5 rfl (lv_at hl 0 rfl) ?_
  refine lv_iload_n hx hb d_M_crossing_6 rfl (lv_at hl 1 rfl) ?_
  have hPc := hP.sub (ws' := [(h0, .inr (3, mF ad 0 sg sn hot pc cx cy fo fv to tv fi ti))]) [0] rfl
  refine vp_callSi (W.runV (As := [.int k1]) (rest := []) ⟨hx, hb, hml, hown, hts⟩ (k_M_isSegment l D E h0 ad 0 sg sn hot pc cx cy fo fv to tv fi ti k1) (cwV 1 hts (gw_gv wd_755 wd_757 wd_23 wd_42 wd_758) rfl rfl rfl (by decide +kernel) ⟨Nat.le_of_ble_eq_true rfl, Nat.le_of_ble_eq_true rfl⟩) (rP_V 0 hPc hK rfl rfl) rfl rfl hl.1 rfl (lv_room (Nat.le_of_ble_eq_true rfl)) d_M_crossing_7 ⟨Nat.le_of_ble_eq_true rfl, Nat.le_of_ble_eq_true rfl⟩) (fun is1 his1 => ?_)
  refine lv_if_eq (tgt := 30) hx hb d_M_crossing_10 (by decide) (fun c1 => ?_) (fun c1 => ?_)
  · refine lv_aload_n hx hb d_M_crossing_30 rfl (lv_at hl 0 rfl) ?_
    refine lv_iconst (v := 1) hx hb d_M_crossing_31 (by decide) ?_
    have hPc := hP.sub (ws' := [(h0, .inr (3, mF ad 0 sg sn hot pc cx cy fo fv to tv fi ti))]) [0] rfl
    have hDc := hD.sub (ws' := [(h0, .inr (3, mF ad 0 sg sn hot pc cx cy fo fv to tv fi ti))]) [0] (by decide) rfl
    have hFc := va_free (wc := [(h0, .inr (3, mF ad 0 sg sn hot pc cx cy fo fv to tv fi ti))]) hD hS hA [0] rfl
    refine va_calli (va_runV (As := [.int 1]) (rest := []) ⟨hx, hb, hml, hown, hts⟩ (k_M_fail l D E h0 H.size ad 0 sg sn hot pc cx cy fo fv to tv fi ti 1) (cwV 1 hts (gw_gv wd_739 wd_741 wd_21 wd_42 wd_742) rfl rfl rfl (by decide +kernel) ⟨Nat.le_of_ble_eq_true rfl, Nat.le_of_ble_eq_true rfl⟩) (wP_V 0 hPc hK hDc rfl rfl) rfl rfl hl.1 rfl (lv_room (Nat.le_of_ble_eq_true rfl)) d_M_crossing_32 ⟨Nat.le_of_ble_eq_true rfl, Nat.le_of_ble_eq_true rfl⟩) hS (fun q _ h => hFc q h) hFc (fun rf2 u9 t H1 locs ht hvm hw hB hz1 hk1 hS => ?_)
    obtain ⟨hP1, hD1⟩ := hB
    rw [ht] at hP1
    obtain ⟨hP, hD⟩ := va_join (wr := []) (w1 := [(h0, .inr (3, mF ad 1 sg sn hot pc cx cy fo fv to tv fi ti))]) hP hD [0] [] rfl rfl (by decide) (by decide) hk1 hFc hP1 hD1
    generalize H1 = H at hP hS ⊢
    have hP : va_P D vwC [(h0, .inr (3, mF ad 1 sg sn hot pc cx cy fo fv to tv fi ti))] H := hP
    have hD : va_D A [(h0, .inr (3, mF ad 1 sg sn hot pc cx cy fo fv to tv fi ti))] := hD
    obtain rfl : rf2 = 0 := hw
    exact W.iret (v := 0) hx hb hrt (fun t ht hW => ⟨⟨0, (), rfl, rfl, ⟨by rw [ht]; exact hP, hD⟩⟩, hS.F ht⟩) hS.2.2 d_M_crossing_35 hlocks
  · rw [his1] at c1
    refine lv_aload_n hx hb d_M_crossing_13 rfl (lv_at hl 0 rfl) ?_
    refine lv_iload_n hx hb d_M_crossing_14 rfl (lv_at hl 2 rfl) ?_
    have hPc := hP.sub (ws' := [(h0, .inr (3, mF ad 0 sg sn hot pc cx cy fo fv to tv fi ti))]) [0] rfl
    refine vp_callSi (W.runV (As := [.int k2]) (rest := []) ⟨hx, hb, hml, hown, hts⟩ (k_M_isSegment l D E h0 ad 0 sg sn hot pc cx cy fo fv to tv fi ti k2) (cwV 1 hts (gw_gv wd_755 wd_757 wd_23 wd_42 wd_758) rfl rfl rfl (by decide +kernel) ⟨Nat.le_of_ble_eq_true rfl, Nat.le_of_ble_eq_true rfl⟩) (rP_V 0 hPc hK rfl rfl) rfl rfl hl.1 rfl (lv_room (Nat.le_of_ble_eq_true rfl)) d_M_crossing_15 ⟨Nat.le_of_ble_eq_true rfl, Nat.le_of_ble_eq_true rfl⟩) (fun is3 his3 => ?_)
    refine lv_if_eq (tgt := 30) hx hb d_M_crossing_18 (by decide) (fun c2 => ?_) (fun c2 => ?_)
    · refine lv_aload_n hx hb d_M_crossing_30 rfl (lv_at hl 0 rfl) ?_
      refine lv_iconst (v := 1) hx hb d_M_crossing_31 (by decide) ?_
      have hPc := hP.sub (ws' := [(h0, .inr (3, mF ad 0 sg sn hot pc cx cy fo fv to tv fi ti))]) [0] rfl
      have hDc := hD.sub (ws' := [(h0, .inr (3, mF ad 0 sg sn hot pc cx cy fo fv to tv fi ti))]) [0] (by decide) rfl
      have hFc := va_free (wc := [(h0, .inr (3, mF ad 0 sg sn hot pc cx cy fo fv to tv fi ti))]) hD hS hA [0] rfl
      refine va_calli (va_runV (As := [.int 1]) (rest := []) ⟨hx, hb, hml, hown, hts⟩ (k_M_fail l D E h0 H.size ad 0 sg sn hot pc cx cy fo fv to tv fi ti 1) (cwV 1 hts (gw_gv wd_739 wd_741 wd_21 wd_42 wd_742) rfl rfl rfl (by decide +kernel) ⟨Nat.le_of_ble_eq_true rfl, Nat.le_of_ble_eq_true rfl⟩) (wP_V 0 hPc hK hDc rfl rfl) rfl rfl hl.1 rfl (lv_room (Nat.le_of_ble_eq_true rfl)) d_M_crossing_32 ⟨Nat.le_of_ble_eq_true rfl, Nat.le_of_ble_eq_true rfl⟩) hS (fun q _ h => hFc q h) hFc (fun rf4 u9 t H1 locs ht hvm hw hB hz1 hk1 hS => ?_)
      obtain ⟨hP1, hD1⟩ := hB
      rw [ht] at hP1
      obtain ⟨hP, hD⟩ := va_join (wr := []) (w1 := [(h0, .inr (3, mF ad 1 sg sn hot pc cx cy fo fv to tv fi ti))]) hP hD [0] [] rfl rfl (by decide) (by decide) hk1 hFc hP1 hD1
      generalize H1 = H at hP hS ⊢
      have hP : va_P D vwC [(h0, .inr (3, mF ad 1 sg sn hot pc cx cy fo fv to tv fi ti))] H := hP
      have hD : va_D A [(h0, .inr (3, mF ad 1 sg sn hot pc cx cy fo fv to tv fi ti))] := hD
      obtain rfl : rf4 = 0 := hw
      exact W.iret (v := 0) hx hb hrt (fun t ht hW => ⟨⟨0, (), rfl, rfl, ⟨by rw [ht]; exact hP, hD⟩⟩, hS.F ht⟩) hS.2.2 d_M_crossing_35 hlocks
    · rw [his3] at c2
      refine lv_iload_n hx hb d_M_crossing_21 rfl (lv_at hl 3 rfl) ?_
      refine lv_iconst (v := 0) hx hb d_M_crossing_22 (by decide) ?_
      refine lv_iconst (v := 1) hx hb d_M_crossing_23 (by decide) ?_
      have hPc := hP.sub (ws' := []) [] rfl
      refine vp_callSi (W.runS (As := [.int w, .int 0, .int 1]) (rest := []) ⟨hx, hb, hml, hown, hts⟩ (k_M_within l D E w 0 1) (va_cwS 3 hts (gw_gs wd_736 wd_737 wd_42 wd_738) rfl rfl rfl (by decide +kernel) ⟨Nat.le_of_ble_eq_true rfl, Nat.le_of_ble_eq_true rfl⟩) (rP_S hPc hK) rfl rfl hl.1 rfl (lv_room (Nat.le_of_ble_eq_true rfl)) d_M_crossing_24 ⟨Nat.le_of_ble_eq_true rfl, Nat.le_of_ble_eq_true rfl⟩) (fun r3 hr3 => ?_)
      refine lv_if_ne (tgt := 36) hx hb d_M_crossing_27 (by decide) (fun c3 => ?_) (fun c3 => ?_)
      · rw [hr3] at c3
        exact absurd ⟨b01_1 c1, b01_1 c2, b01_1 c3⟩ hn
      · refine lv_aload_n hx hb d_M_crossing_30 rfl (lv_at hl 0 rfl) ?_
        refine lv_iconst (v := 1) hx hb d_M_crossing_31 (by decide) ?_
        have hPc := hP.sub (ws' := [(h0, .inr (3, mF ad 0 sg sn hot pc cx cy fo fv to tv fi ti))]) [0] rfl
        have hDc := hD.sub (ws' := [(h0, .inr (3, mF ad 0 sg sn hot pc cx cy fo fv to tv fi ti))]) [0] (by decide) rfl
        have hFc := va_free (wc := [(h0, .inr (3, mF ad 0 sg sn hot pc cx cy fo fv to tv fi ti))]) hD hS hA [0] rfl
        refine va_calli (va_runV (As := [.int 1]) (rest := []) ⟨hx, hb, hml, hown, hts⟩ (k_M_fail l D E h0 H.size ad 0 sg sn hot pc cx cy fo fv to tv fi ti 1) (cwV 1 hts (gw_gv wd_739 wd_741 wd_21 wd_42 wd_742) rfl rfl rfl (by decide +kernel) ⟨Nat.le_of_ble_eq_true rfl, Nat.le_of_ble_eq_true rfl⟩) (wP_V 0 hPc hK hDc rfl rfl) rfl rfl hl.1 rfl (lv_room (Nat.le_of_ble_eq_true rfl)) d_M_crossing_32 ⟨Nat.le_of_ble_eq_true rfl, Nat.le_of_ble_eq_true rfl⟩) hS (fun q _ h => hFc q h) hFc (fun rf5 u9 t H1 locs ht hvm hw hB hz1 hk1 hS => ?_)
        obtain ⟨hP1, hD1⟩ := hB
        rw [ht] at hP1
        obtain ⟨hP, hD⟩ := va_join (wr := []) (w1 := [(h0, .inr (3, mF ad 1 sg sn hot pc cx cy fo fv to tv fi ti))]) hP hD [0] [] rfl rfl (by decide) (by decide) hk1 hFc hP1 hD1
        generalize H1 = H at hP hS ⊢
        have hP : va_P D vwC [(h0, .inr (3, mF ad 1 sg sn hot pc cx cy fo fv to tv fi ti))] H := hP
        have hD : va_D A [(h0, .inr (3, mF ad 1 sg sn hot pc cx cy fo fv to tv fi ti))] := hD
        obtain rfl : rf5 = 0 := hw
        exact W.iret (v := 0) hx hb hrt (fun t ht hW => ⟨⟨0, (), rfl, rfl, ⟨by rw [ht]; exact hP, hD⟩⟩, hS.F ht⟩) hS.2.2 d_M_crossing_35 hlocks
set_option maxHeartbeats 4000000 in
set_option maxRecDepth 100000 in
theorem k_M_crossing_x (l : Launch) (D : va_G) (E : ClassId × ClassId × ClassId × ClassId) (h0 sz : Nat) (ad : Nat → Nat) (th sg sn hot pc cx cy : Int32) (fo fv to tv : Int64) (fi ti : Int32) (e9 : Nat → Int32) (k j : Nat) (w : Int32) (hk : 4 * k + 3 < 8192) (hj : 4 * j + 3 < 8192) (bk : bnd (mq e9 k)) (bj : bnd (mq e9 j)) (hi : mw_in (nI k) 0 (sg - 1) ∧ mw_in (nI j) 0 (sg - 1) ∧ mw_in w 0 1) (ok : ¬ mx_ok (mq e9 k) (mq e9 j)) : Met l y_M_crossing (.code y_M_crossing c_M_crossing 4 (some .int) :: gw) ({ frames := 2, cells := 0, slots := 0, locals := 80 } : Room) (wP D E [(h0, .inr (3, mF ad th sg sn hot pc cx cy fo fv to tv fi ti)), ((ad 0), .inl (E.2.1, 8192, .inl e9))] sz [.ref h0, .int (nI k), .int (nI j), .int w]) (va_Qi (fun (r : Int32) (u : Int32 × Int32) => r = 0) (wB D (fun u => [(h0, .inr (3, mF ad 2 sg sn hot pc u.1 u.2 fo fv to tv fi ti)), ((ad 0), .inl (E.2.1, 8192, .inl e9))]) (va_A [(h0, .inr (3, mF ad th sg sn hot pc cx cy fo fv to tv fi ti)), ((ad 0), .inl (E.2.1, 8192, .inl e9))] sz)) (va_A [(h0, .inr (3, mF ad th sg sn hot pc cx cy fo fv to tv fi ti)), ((ad 0), .inl (E.2.1, 8192, .inl e9))] sz)) 0 0 (va_A [(h0, .inr (3, mF ad th sg sn hot pc cx cy fo fv to tv fi ti)), ((ad 0), .inl (E.2.1, 8192, .inl e9))] sz) := by
  refine wr_ofW (Qc := fun A => (va_Qi (fun (r : Int32) (u : Int32 × Int32) => r = 0) (wB D (fun u => [(h0, .inr (3, mF ad 2 sg sn hot pc u.1 u.2 fo fv to tv fi ti)), ((ad 0), .inl (E.2.1, 8192, .inl e9))]) A) A)) (by decide) (Nat.le_of_ble_eq_true rfl) ?_
  intro p e s m below meth c B hP hK A hA hD hS ls hl
  obtain ⟨hx, hb, hrt, hml, hown, hts, hG, hlocks, hin⟩ := B
  have hl : lv_has ls 4 [(0, .ref h0), (1, .int (nI k)), (2, .int (nI j)), (3, .int w)] := hl
  refine lv_aload_n hx hb d_M_crossing_0 rfl (lv_at hl 0 rfl) ?_
  refine lv_iconst (v := 0) hx hb d_M_crossing_1 (by decide) ?_
  refine va_put (D := D) (ci := 3) (v := .int 0) (ty := .int) (C := K_M) (T := F_M) (N := 24) hx hb hG in_M t_M t_M_ok n_M hown hK.1 hP hD hS 0 rfl rfl 0 (by decide) (hG _ wd_648) (fun _ h9 => h9) rfl (by decide +kernel) rfl rfl (Nat.le_of_ble_eq_true rfl) d_M_crossing_2 (fun H locs hP hD hS => ?_)
  have hP : va_P D vwC [(h0, .inr (3, mF ad 0 sg sn hot pc cx cy fo fv to tv fi ti)), ((ad 0), .inl (E.2.1, 8192, .inl e9))] H := hP
  have hD : va_D A [(h0, .inr (3, mF ad 0 sg sn hot pc cx cy fo fv to tv fi ti)), ((ad 0), .inl (E.2.1, 8192, .inl e9))] := hD
  refine lv_aload_n hx hb d_M_crossing_5 rfl (lv_at hl 0 rfl) ?_
  refine lv_iload_n hx hb d_M_crossing_6 rfl (lv_at hl 1 rfl) ?_
  have hPc := hP.sub (ws' := [(h0, .inr (3, mF ad 0 sg sn hot pc cx cy fo fv to tv fi ti))]) [0] rfl
  refine vp_callSi (W.runV (As := [.int (nI k)]) (rest := []) ⟨hx, hb, hml, hown, hts⟩ (k_M_isSegment l D E h0 ad 0 sg sn hot pc cx cy fo fv to tv fi ti (nI k)) (cwV 1 hts (gw_gv wd_755 wd_757 wd_23 wd_42 wd_758) rfl rfl rfl (by decide +kernel) ⟨Nat.le_of_ble_eq_true rfl, Nat.le_of_ble_eq_true rfl⟩) (rP_V 0 hPc hK rfl rfl) rfl rfl hl.1 rfl (lv_room (Nat.le_of_ble_eq_true rfl)) d_M_crossing_7 ⟨Nat.le_of_ble_eq_true rfl, Nat.le_of_ble_eq_true rfl⟩) (fun is1 his1 => ?_)
  refine lv_if_eq (tgt := 30) hx hb d_M_crossing_10 (by decide) (fun c1 => ?_) (fun c1 => ?_)
  · rw [his1, b01_t hi.1] at c1
    exact absurd c1 (by decide)
  · refine lv_aload_n hx hb d_M_crossing_13 rfl (lv_at hl 0 rfl) ?_
    refine lv_iload_n hx hb d_M_crossing_14 rfl (lv_at hl 2 rfl) ?_
    have hPc := hP.sub (ws' := [(h0, .inr (3, mF ad 0 sg sn hot pc cx cy fo fv to tv fi ti))]) [0] rfl
    refine vp_callSi (W.runV (As := [.int (nI j)]) (rest := []) ⟨hx, hb, hml, hown, hts⟩ (k_M_isSegment l D E h0 ad 0 sg sn hot pc cx cy fo fv to tv fi ti (nI j)) (cwV 1 hts (gw_gv wd_755 wd_757 wd_23 wd_42 wd_758) rfl rfl rfl (by decide +kernel) ⟨Nat.le_of_ble_eq_true rfl, Nat.le_of_ble_eq_true rfl⟩) (rP_V 0 hPc hK rfl rfl) rfl rfl hl.1 rfl (lv_room (Nat.le_of_ble_eq_true rfl)) d_M_crossing_15 ⟨Nat.le_of_ble_eq_true rfl, Nat.le_of_ble_eq_true rfl⟩) (fun is2 his2 => ?_)
    refine lv_if_eq (tgt := 30) hx hb d_M_crossing_18 (by decide) (fun c2 => ?_) (fun c2 => ?_)
    · rw [his2, b01_t hi.2.1] at c2
      exact absurd c2 (by decide)
    · refine lv_iload_n hx hb d_M_crossing_21 rfl (lv_at hl 3 rfl) ?_
      refine lv_iconst (v := 0) hx hb d_M_crossing_22 (by decide) ?_
      refine lv_iconst (v := 1) hx hb d_M_crossing_23 (by decide) ?_
      have hPc := hP.sub (ws' := []) [] rfl
      refine vp_callSi (W.runS (As := [.int w, .int 0, .int 1]) (rest := []) ⟨hx, hb, hml, hown, hts⟩ (k_M_within l D E w 0 1) (va_cwS 3 hts (gw_gs wd_736 wd_737 wd_42 wd_738) rfl rfl rfl (by decide +kernel) ⟨Nat.le_of_ble_eq_true rfl, Nat.le_of_ble_eq_true rfl⟩) (rP_S hPc hK) rfl rfl hl.1 rfl (lv_room (Nat.le_of_ble_eq_true rfl)) d_M_crossing_24 ⟨Nat.le_of_ble_eq_true rfl, Nat.le_of_ble_eq_true rfl⟩) (fun r3 hr3 => ?_)
      refine lv_if_ne (tgt := 36) hx hb d_M_crossing_27 (by decide) (fun c3 => ?_) (fun c3 => ?_)
      · refine lv_aload_n hx hb d_M_crossing_36 rfl (lv_at hl 0 rfl) ?_
        refine lv_iload_n hx hb d_M_crossing_37 rfl (lv_at hl 1 rfl) ?_
        refine lv_iload_n hx hb d_M_crossing_38 rfl (lv_at hl 2 rfl) ?_
        have hPc := hP.sub (ws' := [(h0, .inr (3, mF ad 0 sg sn hot pc cx cy fo fv to tv fi ti)), ((ad 0), .inl (E.2.1, 8192, .inl e9))]) [0, 1] rfl
        have hDc := hD.sub (ws' := [(h0, .inr (3, mF ad 0 sg sn hot pc cx cy fo fv to tv fi ti)), ((ad 0), .inl (E.2.1, 8192, .inl e9))]) [0, 1] (by decide) rfl
        have hFc := va_free (wc := [(h0, .inr (3, mF ad 0 sg sn hot pc cx cy fo fv to tv fi ti)), ((ad 0), .inl (E.2.1, 8192, .inl e9))]) hD hS hA [0, 1] rfl
        refine va_calli (va_runV (As := [.int (nI k), .int (nI j)]) (rest := []) ⟨hx, hb, hml, hown, hts⟩ (k_M_cross l D E h0 H.size ad 0 sg sn hot pc cx cy fo fv to tv fi ti e9 k j hk hj bk bj) (cwV 2 hts (gw_gv wd_783 wd_785 wd_28 wd_42 wd_786) rfl rfl rfl (by decide +kernel) ⟨Nat.le_of_ble_eq_true rfl, Nat.le_of_ble_eq_true rfl⟩) (wP_V 0 hPc hK hDc rfl rfl) rfl rfl hl.1 rfl (lv_room (Nat.le_of_ble_eq_true rfl)) d_M_crossing_39 ⟨Nat.le_of_ble_eq_true rfl, Nat.le_of_ble_eq_true rfl⟩) hS (fun q _ h => hFc q h) hFc (fun rc u t H1 locs ht hvm hw hB hz1 hk1 hS => ?_)
        obtain ⟨hP1, hD1⟩ := hB
        rw [ht] at hP1
        obtain ⟨hP, hD⟩ := va_join (wr := []) (w1 := [(h0, .inr (3, mF ad 0 sg sn hot pc u.1 u.2 fo fv to tv fi ti)), ((ad 0), .inl (E.2.1, 8192, .inl e9))]) hP hD [0, 1] [] rfl rfl (by decide) (by decide) hk1 hFc hP1 hD1
        generalize H1 = H at hP hS ⊢
        have hP : va_P D vwC [(h0, .inr (3, mF ad 0 sg sn hot pc u.1 u.2 fo fv to tv fi ti)), ((ad 0), .inl (E.2.1, 8192, .inl e9))] H := hP
        have hD : va_D A [(h0, .inr (3, mF ad 0 sg sn hot pc u.1 u.2 fo fv to tv fi ti)), ((ad 0), .inl (E.2.1, 8192, .inl e9))] := hD
        obtain ⟨hw1, hw2⟩ := hw
        refine lv_if_ne (tgt := 51) hx hb d_M_crossing_42 (by decide) (fun c4 => ?_) (fun c4 => ?_)
        · rw [hw1, b01_f ok] at c4
          exact absurd rfl c4
        · refine lv_aload_n hx hb d_M_crossing_45 rfl (lv_at hl 0 rfl) ?_
          refine lv_iconst (v := 2) hx hb d_M_crossing_46 (by decide) ?_
          have hPc := hP.sub (ws' := [(h0, .inr (3, mF ad 0 sg sn hot pc u.1 u.2 fo fv to tv fi ti))]) [0] rfl
          have hDc := hD.sub (ws' := [(h0, .inr (3, mF ad 0 sg sn hot pc u.1 u.2 fo fv to tv fi ti))]) [0] (by decide) rfl
          have hFc := va_free (wc := [(h0, .inr (3, mF ad 0 sg sn hot pc u.1 u.2 fo fv to tv fi ti))]) hD hS hA [0] rfl
          refine va_calli (va_runV (As := [.int 2]) (rest := []) ⟨hx, hb, hml, hown, hts⟩ (k_M_fail l D E h0 H.size ad 0 sg sn hot pc u.1 u.2 fo fv to tv fi ti 2) (cwV 1 hts (gw_gv wd_739 wd_741 wd_21 wd_42 wd_742) rfl rfl rfl (by decide +kernel) ⟨Nat.le_of_ble_eq_true rfl, Nat.le_of_ble_eq_true rfl⟩) (wP_V 0 hPc hK hDc rfl rfl) rfl rfl hl.1 rfl (lv_room (Nat.le_of_ble_eq_true rfl)) d_M_crossing_47 ⟨Nat.le_of_ble_eq_true rfl, Nat.le_of_ble_eq_true rfl⟩) hS (fun q _ h => hFc q h) hFc (fun rf3 u9 t H1 locs ht hvm hw hB hz1 hk1 hS => ?_)
          obtain ⟨hP1, hD1⟩ := hB
          rw [ht] at hP1
          obtain ⟨hP, hD⟩ := va_join (wr := [((ad 0), .inl (E.2.1, 8192, .inl e9))]) (w1 := [(h0, .inr (3, mF ad 2 sg sn hot pc u.1 u.2 fo fv to tv fi ti))]) hP hD [0] [1] rfl rfl (by decide) (by decide) hk1 hFc hP1 hD1
          generalize H1 = H at hP hS ⊢
          have hP : va_P D vwC [((ad 0), .inl (E.2.1, 8192, .inl e9)), (h0, .inr (3, mF ad 2 sg sn hot pc u.1 u.2 fo fv to tv fi ti))] H := hP
          have hD : va_D A [((ad 0), .inl (E.2.1, 8192, .inl e9)), (h0, .inr (3, mF ad 2 sg sn hot pc u.1 u.2 fo fv to tv fi ti))] := hD
          obtain rfl : rf3 = 0 := hw
          have hP := hP.sub (ws' := [(h0, .inr (3, mF ad 2 sg sn hot pc u.1 u.2 fo fv to tv fi ti)), ((ad 0), .inl (E.2.1, 8192, .inl e9))]) [1, 0] rfl
          have hD := hD.sub (ws' := [(h0, .inr (3, mF ad 2 sg sn hot pc u.1 u.2 fo fv to tv fi ti)), ((ad 0), .inl (E.2.1, 8192, .inl e9))]) [1, 0] (by decide) rfl
          exact W.iret (v := 0) hx hb hrt (fun t ht hW => ⟨⟨0, u, rfl, rfl, ⟨by rw [ht]; exact hP, hD⟩⟩, hS.F ht⟩) hS.2.2 d_M_crossing_50 hlocks
      · rw [hr3, b01_t hi.2.2] at c3
        exact absurd c3 (by decide)
set_option maxHeartbeats 4000000 in
set_option maxRecDepth 100000 in
theorem k_M_crossing (l : Launch) (D : va_G) (E : ClassId × ClassId × ClassId × ClassId) (h0 sz : Nat) (ad : Nat → Nat) (th sg sn hot pc cx cy : Int32) (fo fv to tv : Int64) (fi ti : Int32) (e9 : Nat → Int32) (k j : Nat) (w : Int32) (hk : 4 * k + 3 < 8192) (hj : 4 * j + 3 < 8192) (bk : bnd (mq e9 k)) (bj : bnd (mq e9 j)) (hi : mw_in (nI k) 0 (sg - 1) ∧ mw_in (nI j) 0 (sg - 1) ∧ mw_in w 0 1) (ok : mx_ok (mq e9 k) (mq e9 j)) : Met l y_M_crossing (.code y_M_crossing c_M_crossing 4 (some .int) :: gw) ({ frames := 2, cells := 0, slots := 0, locals := 80 } : Room) (wP D E [(h0, .inr (3, mF ad th sg sn hot pc cx cy fo fv to tv fi ti)), ((ad 0), .inl (E.2.1, 8192, .inl e9))] sz [.ref h0, .int (nI k), .int (nI j), .int w]) (va_Qi (fun (r : Int32) (u : Unit) => r = if w = 0 then mx_x (mq e9 k) (mq e9 j) else mx_y (mq e9 k) (mq e9 j)) (wB D (fun _ => [(h0, .inr (3, mF ad 0 sg sn hot pc (mx_x (mq e9 k) (mq e9 j)) (mx_y (mq e9 k) (mq e9 j)) fo fv to tv fi ti)), ((ad 0), .inl (E.2.1, 8192, .inl e9))]) (va_A [(h0, .inr (3, mF ad th sg sn hot pc cx cy fo fv to tv fi ti)), ((ad 0), .inl (E.2.1, 8192, .inl e9))] sz)) (va_A [(h0, .inr (3, mF ad th sg sn hot pc cx cy fo fv to tv fi ti)), ((ad 0), .inl (E.2.1, 8192, .inl e9))] sz)) 0 0 (va_A [(h0, .inr (3, mF ad th sg sn hot pc cx cy fo fv to tv fi ti)), ((ad 0), .inl (E.2.1, 8192, .inl e9))] sz) := by
  refine wr_ofW (Qc := fun A => (va_Qi (fun (r : Int32) (u : Unit) => r = if w = 0 then mx_x (mq e9 k) (mq e9 j) else mx_y (mq e9 k) (mq e9 j)) (wB D (fun _ => [(h0, .inr (3, mF ad 0 sg sn hot pc (mx_x (mq e9 k) (mq e9 j)) (mx_y (mq e9 k) (mq e9 j)) fo fv to tv fi ti)), ((ad 0), .inl (E.2.1, 8192, .inl e9))]) A) A)) (by decide) (Nat.le_of_ble_eq_true rfl) ?_
  intro p e s m below meth c B hP hK A hA hD hS ls hl
  obtain ⟨hx, hb, hrt, hml, hown, hts, hG, hlocks, hin⟩ := B
  have hl : lv_has ls 4 [(0, .ref h0), (1, .int (nI k)), (2, .int (nI j)), (3, .int w)] := hl
  refine lv_aload_n hx hb d_M_crossing_0 rfl (lv_at hl 0 rfl) ?_
  refine lv_iconst (v := 0) hx hb d_M_crossing_1 (by decide) ?_
  refine va_put (D := D) (ci := 3) (v := .int 0) (ty := .int) (C := K_M) (T := F_M) (N := 24) hx hb hG in_M t_M t_M_ok n_M hown hK.1 hP hD hS 0 rfl rfl 0 (by decide) (hG _ wd_648) (fun _ h9 => h9) rfl (by decide +kernel) rfl rfl (Nat.le_of_ble_eq_true rfl) d_M_crossing_2 (fun H locs hP hD hS => ?_)
  have hP : va_P D vwC [(h0, .inr (3, mF ad 0 sg sn hot pc cx cy fo fv to tv fi ti)), ((ad 0), .inl (E.2.1, 8192, .inl e9))] H := hP
  have hD : va_D A [(h0, .inr (3, mF ad 0 sg sn hot pc cx cy fo fv to tv fi ti)), ((ad 0), .inl (E.2.1, 8192, .inl e9))] := hD
  refine lv_aload_n hx hb d_M_crossing_5 rfl (lv_at hl 0 rfl) ?_
  refine lv_iload_n hx hb d_M_crossing_6 rfl (lv_at hl 1 rfl) ?_
  have hPc := hP.sub (ws' := [(h0, .inr (3, mF ad 0 sg sn hot pc cx cy fo fv to tv fi ti))]) [0] rfl
  refine vp_callSi (W.runV (As := [.int (nI k)]) (rest := []) ⟨hx, hb, hml, hown, hts⟩ (k_M_isSegment l D E h0 ad 0 sg sn hot pc cx cy fo fv to tv fi ti (nI k)) (cwV 1 hts (gw_gv wd_755 wd_757 wd_23 wd_42 wd_758) rfl rfl rfl (by decide +kernel) ⟨Nat.le_of_ble_eq_true rfl, Nat.le_of_ble_eq_true rfl⟩) (rP_V 0 hPc hK rfl rfl) rfl rfl hl.1 rfl (lv_room (Nat.le_of_ble_eq_true rfl)) d_M_crossing_7 ⟨Nat.le_of_ble_eq_true rfl, Nat.le_of_ble_eq_true rfl⟩) (fun is1 his1 => ?_)
  refine lv_if_eq (tgt := 30) hx hb d_M_crossing_10 (by decide) (fun c1 => ?_) (fun c1 => ?_)
  · rw [his1, b01_t hi.1] at c1
    exact absurd c1 (by decide)
  · refine lv_aload_n hx hb d_M_crossing_13 rfl (lv_at hl 0 rfl) ?_
    refine lv_iload_n hx hb d_M_crossing_14 rfl (lv_at hl 2 rfl) ?_
    have hPc := hP.sub (ws' := [(h0, .inr (3, mF ad 0 sg sn hot pc cx cy fo fv to tv fi ti))]) [0] rfl
    refine vp_callSi (W.runV (As := [.int (nI j)]) (rest := []) ⟨hx, hb, hml, hown, hts⟩ (k_M_isSegment l D E h0 ad 0 sg sn hot pc cx cy fo fv to tv fi ti (nI j)) (cwV 1 hts (gw_gv wd_755 wd_757 wd_23 wd_42 wd_758) rfl rfl rfl (by decide +kernel) ⟨Nat.le_of_ble_eq_true rfl, Nat.le_of_ble_eq_true rfl⟩) (rP_V 0 hPc hK rfl rfl) rfl rfl hl.1 rfl (lv_room (Nat.le_of_ble_eq_true rfl)) d_M_crossing_15 ⟨Nat.le_of_ble_eq_true rfl, Nat.le_of_ble_eq_true rfl⟩) (fun is2 his2 => ?_)
    refine lv_if_eq (tgt := 30) hx hb d_M_crossing_18 (by decide) (fun c2 => ?_) (fun c2 => ?_)
    · rw [his2, b01_t hi.2.1] at c2
      exact absurd c2 (by decide)
    · refine lv_iload_n hx hb d_M_crossing_21 rfl (lv_at hl 3 rfl) ?_
      refine lv_iconst (v := 0) hx hb d_M_crossing_22 (by decide) ?_
      refine lv_iconst (v := 1) hx hb d_M_crossing_23 (by decide) ?_
      have hPc := hP.sub (ws' := []) [] rfl
      refine vp_callSi (W.runS (As := [.int w, .int 0, .int 1]) (rest := []) ⟨hx, hb, hml, hown, hts⟩ (k_M_within l D E w 0 1) (va_cwS 3 hts (gw_gs wd_736 wd_737 wd_42 wd_738) rfl rfl rfl (by decide +kernel) ⟨Nat.le_of_ble_eq_true rfl, Nat.le_of_ble_eq_true rfl⟩) (rP_S hPc hK) rfl rfl hl.1 rfl (lv_room (Nat.le_of_ble_eq_true rfl)) d_M_crossing_24 ⟨Nat.le_of_ble_eq_true rfl, Nat.le_of_ble_eq_true rfl⟩) (fun r3 hr3 => ?_)
      refine lv_if_ne (tgt := 36) hx hb d_M_crossing_27 (by decide) (fun c3 => ?_) (fun c3 => ?_)
      · refine lv_aload_n hx hb d_M_crossing_36 rfl (lv_at hl 0 rfl) ?_
        refine lv_iload_n hx hb d_M_crossing_37 rfl (lv_at hl 1 rfl) ?_
        refine lv_iload_n hx hb d_M_crossing_38 rfl (lv_at hl 2 rfl) ?_
        have hPc := hP.sub (ws' := [(h0, .inr (3, mF ad 0 sg sn hot pc cx cy fo fv to tv fi ti)), ((ad 0), .inl (E.2.1, 8192, .inl e9))]) [0, 1] rfl
        have hDc := hD.sub (ws' := [(h0, .inr (3, mF ad 0 sg sn hot pc cx cy fo fv to tv fi ti)), ((ad 0), .inl (E.2.1, 8192, .inl e9))]) [0, 1] (by decide) rfl
        have hFc := va_free (wc := [(h0, .inr (3, mF ad 0 sg sn hot pc cx cy fo fv to tv fi ti)), ((ad 0), .inl (E.2.1, 8192, .inl e9))]) hD hS hA [0, 1] rfl
        refine va_calli (va_runV (As := [.int (nI k), .int (nI j)]) (rest := []) ⟨hx, hb, hml, hown, hts⟩ (k_M_cross l D E h0 H.size ad 0 sg sn hot pc cx cy fo fv to tv fi ti e9 k j hk hj bk bj) (cwV 2 hts (gw_gv wd_783 wd_785 wd_28 wd_42 wd_786) rfl rfl rfl (by decide +kernel) ⟨Nat.le_of_ble_eq_true rfl, Nat.le_of_ble_eq_true rfl⟩) (wP_V 0 hPc hK hDc rfl rfl) rfl rfl hl.1 rfl (lv_room (Nat.le_of_ble_eq_true rfl)) d_M_crossing_39 ⟨Nat.le_of_ble_eq_true rfl, Nat.le_of_ble_eq_true rfl⟩) hS (fun q _ h => hFc q h) hFc (fun rc u t H1 locs ht hvm hw hB hz1 hk1 hS => ?_)
        obtain ⟨hP1, hD1⟩ := hB
        rw [ht] at hP1
        obtain ⟨hP, hD⟩ := va_join (wr := []) (w1 := [(h0, .inr (3, mF ad 0 sg sn hot pc u.1 u.2 fo fv to tv fi ti)), ((ad 0), .inl (E.2.1, 8192, .inl e9))]) hP hD [0, 1] [] rfl rfl (by decide) (by decide) hk1 hFc hP1 hD1
        generalize H1 = H at hP hS ⊢
        have hP : va_P D vwC [(h0, .inr (3, mF ad 0 sg sn hot pc u.1 u.2 fo fv to tv fi ti)), ((ad 0), .inl (E.2.1, 8192, .inl e9))] H := hP
        have hD : va_D A [(h0, .inr (3, mF ad 0 sg sn hot pc u.1 u.2 fo fv to tv fi ti)), ((ad 0), .inl (E.2.1, 8192, .inl e9))] := hD
        obtain ⟨hw1, hw2⟩ := hw
        refine lv_if_ne (tgt := 51) hx hb d_M_crossing_42 (by decide) (fun c4 => ?_) (fun c4 => ?_)
        · obtain rfl := hw2 ok
          have hP : va_P D vwC [(h0, .inr (3, mF ad 0 sg sn hot pc (mx_x (mq e9 k) (mq e9 j)) (mx_y (mq e9 k) (mq e9 j)) fo fv to tv fi ti)), ((ad 0), .inl (E.2.1, 8192, .inl e9))] H := hP
          have hD : va_D A [(h0, .inr (3, mF ad 0 sg sn hot pc (mx_x (mq e9 k) (mq e9 j)) (mx_y (mq e9 k) (mq e9 j)) fo fv to tv fi ti)), ((ad 0), .inl (E.2.1, 8192, .inl e9))] := hD
          refine lv_iload_n hx hb d_M_crossing_51 rfl (lv_at hl 3 rfl) ?_
          refine lv_if_ne (tgt := 62) hx hb d_M_crossing_52 (by decide) (fun c5 => ?_) (fun c5 => ?_)
          · refine lv_aload_n hx hb d_M_crossing_62 rfl (lv_at hl 0 rfl) ?_
            refine va_get (D := D) (ci := 3) (v := .int (mx_y (mq e9 k) (mq e9 j))) (C := K_M) (T := F_M) (N := 24) hx hb hG in_M hown hK.1 hP 0 rfl rfl 14 (by decide) (hG _ wd_662) (fun _ h9 => h9) rfl d_M_crossing_63 ?_
            exact W.iret (v := mx_y (mq e9 k) (mq e9 j)) hx hb hrt (fun t ht hW => ⟨⟨mx_y (mq e9 k) (mq e9 j), (), rfl, (if_neg c5).symm, ⟨by rw [ht]; exact hP, hD⟩⟩, hS.F ht⟩) hS.2.2 d_M_crossing_66 hlocks
          · refine lv_aload_n hx hb d_M_crossing_55 rfl (lv_at hl 0 rfl) ?_
            refine va_get (D := D) (ci := 3) (v := .int (mx_x (mq e9 k) (mq e9 j))) (C := K_M) (T := F_M) (N := 24) hx hb hG in_M hown hK.1 hP 0 rfl rfl 13 (by decide) (hG _ wd_661) (fun _ h9 => h9) rfl d_M_crossing_56 ?_
            refine lv_goto (tgt := 66) hx hb d_M_crossing_59 (by decide) ?_
            exact W.iret (v := mx_x (mq e9 k) (mq e9 j)) hx hb hrt (fun t ht hW => ⟨⟨mx_x (mq e9 k) (mq e9 j), (), rfl, (if_pos c5).symm, ⟨by rw [ht]; exact hP, hD⟩⟩, hS.F ht⟩) hS.2.2 d_M_crossing_66 hlocks
        · rw [hw1, b01_t ok] at c4
          exact absurd c4 (by decide)
      · rw [hr3, b01_t hi.2.2] at c3
        exact absurd c3 (by decide)
set_option maxHeartbeats 4000000 in
set_option maxRecDepth 100000 in
theorem k_M_pixel_n (l : Launch) (D : va_G) (E : ClassId × ClassId × ClassId × ClassId) (h0 sz : Nat) (ad : Nat → Nat) (th sg sn hot pc cx cy : Int32) (fo fv to tv : Int64) (fi ti : Int32) (k w : Int32) (hn : ¬ (mw_in k 0 (hot - 1) ∧ mw_in w 0 1)) : Met l y_M_pixel (.code y_M_pixel c_M_pixel 3 (some .int) :: gw) ({ frames := 1, cells := 0, slots := 0, locals := 40 } : Room) (wP D E [(h0, .inr (3, mF ad th sg sn hot pc cx cy fo fv to tv fi ti))] sz [.ref h0, .int k, .int w]) (va_Qi (fun (r : Int32) (u : Unit) => r = 0) (wB D (fun _ => [(h0, .inr (3, mF ad 1 sg sn hot pc cx cy fo fv to tv fi ti))]) (va_A [(h0, .inr (3, mF ad th sg sn hot pc cx cy fo fv to tv fi ti))] sz)) (va_A [(h0, .inr (3, mF ad th sg sn hot pc cx cy fo fv to tv fi ti))] sz)) 0 0 (va_A [(h0, .inr (3, mF ad th sg sn hot pc cx cy fo fv to tv fi ti))] sz) := by
  refine wr_ofW (Qc := fun A => (va_Qi (fun (r : Int32) (u : Unit) => r = 0) (wB D (fun _ => [(h0, .inr (3, mF ad 1 sg sn hot pc cx cy fo fv to tv fi ti))]) A) A)) (by decide) (Nat.le_of_ble_eq_true rfl) ?_
  intro p e s m below meth c B hP hK A hA hD hS ls hl
  obtain ⟨hx, hb, hrt, hml, hown, hts, hG, hlocks, hin⟩ := B
  have hl : lv_has ls 3 [(0, .ref h0), (1, .int k), (2, .int w)] := hl
  refine lv_aload_n hx hb d_M_pixel_0 rfl (lv_at hl 0 rfl) ?_
  refine lv_iconst (v := 0) hx hb d_M_pixel_1 (by decide) ?_
  refine va_put (D := D) (ci := 3) (v := .int 0) (ty := .int) (C := K_M) (T := F_M) (N := 24) hx hb hG in_M t_M t_M_ok n_M hown hK.1 hP hD hS 0 rfl rfl 0 (by decide) (hG _ wd_648) (fun _ h9 => h9) rfl (by decide +kernel) rfl rfl (Nat.le_of_ble_eq_true rfl) d_M_pixel_2 (fun H locs hP hD hS => ?_)
  have hP : va_P D vwC [(h0, .inr (3, mF ad 0 sg sn hot pc cx cy fo fv to tv fi ti))] H := hP
  have hD : va_D A [(h0, .inr (3, mF ad 0 sg sn hot pc cx cy fo fv to tv fi ti))] := hD
  refine lv_iload_n hx hb d_M_pixel_5 rfl (lv_at hl 1 rfl) ?_
  refine lv_iconst (v := 0) hx hb d_M_pixel_6 (by decide) ?_
  refine lv_aload_n hx hb d_M_pixel_7 rfl (lv_at hl 0 rfl) ?_
  refine va_get (D := D) (ci := 3) (v := .int hot) (C := K_M) (T := F_M) (N := 24) hx hb hG in_M hown hK.1 hP 0 rfl rfl 4 (by decide) (hG _ wd_652) (fun _ h9 => h9) rfl d_M_pixel_8 ?_
  refine lv_iconst (v := 1) hx hb d_M_pixel_11 (by decide) ?_
  refine lv_isub hx hb d_M_pixel_12 ?_
  have hPc := hP.sub (ws' := []) [] rfl
  refine vp_callSi (W.runS (As := [.int k, .int 0, .int (hot - 1)]) (rest := []) ⟨hx, hb, hml, hown, hts⟩ (k_M_within l D E k 0 (hot - 1)) (va_cwS 3 hts (gw_gs wd_736 wd_737 wd_42 wd_738) rfl rfl rfl (by decide +kernel) ⟨Nat.le_of_ble_eq_true rfl, Nat.le_of_ble_eq_true rfl⟩) (rP_S hPc hK) rfl rfl hl.1 rfl (lv_room (Nat.le_of_ble_eq_true rfl)) d_M_pixel_13 ⟨Nat.le_of_ble_eq_true rfl, Nat.le_of_ble_eq_true rfl⟩) (fun r1 hr1 => ?_)
  refine lv_if_eq (tgt := 28) hx hb d_M_pixel_16 (by decide) (fun c1 => ?_) (fun c1 => ?_)
  · refine lv_aload_n hx hb d_M_pixel_28 rfl (lv_at hl 0 rfl) ?_
    refine lv_iconst (v := 1) hx hb d_M_pixel_29 (by decide) ?_
    have hPc := hP.sub (ws' := [(h0, .inr (3, mF ad 0 sg sn hot pc cx cy fo fv to tv fi ti))]) [0] rfl
    have hDc := hD.sub (ws' := [(h0, .inr (3, mF ad 0 sg sn hot pc cx cy fo fv to tv fi ti))]) [0] (by decide) rfl
    have hFc := va_free (wc := [(h0, .inr (3, mF ad 0 sg sn hot pc cx cy fo fv to tv fi ti))]) hD hS hA [0] rfl
    refine va_calli (va_runV (As := [.int 1]) (rest := []) ⟨hx, hb, hml, hown, hts⟩ (k_M_fail l D E h0 H.size ad 0 sg sn hot pc cx cy fo fv to tv fi ti 1) (cwV 1 hts (gw_gv wd_739 wd_741 wd_21 wd_42 wd_742) rfl rfl rfl (by decide +kernel) ⟨Nat.le_of_ble_eq_true rfl, Nat.le_of_ble_eq_true rfl⟩) (wP_V 0 hPc hK hDc rfl rfl) rfl rfl hl.1 rfl (lv_room (Nat.le_of_ble_eq_true rfl)) d_M_pixel_30 ⟨Nat.le_of_ble_eq_true rfl, Nat.le_of_ble_eq_true rfl⟩) hS (fun q _ h => hFc q h) hFc (fun rf1 u9 t H1 locs ht hvm hw hB hz1 hk1 hS => ?_)
    obtain ⟨hP1, hD1⟩ := hB
    rw [ht] at hP1
    obtain ⟨hP, hD⟩ := va_join (wr := []) (w1 := [(h0, .inr (3, mF ad 1 sg sn hot pc cx cy fo fv to tv fi ti))]) hP hD [0] [] rfl rfl (by decide) (by decide) hk1 hFc hP1 hD1
    generalize H1 = H at hP hS ⊢
    have hP : va_P D vwC [(h0, .inr (3, mF ad 1 sg sn hot pc cx cy fo fv to tv fi ti))] H := hP
    have hD : va_D A [(h0, .inr (3, mF ad 1 sg sn hot pc cx cy fo fv to tv fi ti))] := hD
    obtain rfl : rf1 = 0 := hw
    exact W.iret (v := 0) hx hb hrt (fun t ht hW => ⟨⟨0, (), rfl, rfl, ⟨by rw [ht]; exact hP, hD⟩⟩, hS.F ht⟩) hS.2.2 d_M_pixel_33 hlocks
  · rw [hr1] at c1
    refine lv_iload_n hx hb d_M_pixel_19 rfl (lv_at hl 2 rfl) ?_
    refine lv_iconst (v := 0) hx hb d_M_pixel_20 (by decide) ?_
    refine lv_iconst (v := 1) hx hb d_M_pixel_21 (by decide) ?_
    have hPc := hP.sub (ws' := []) [] rfl
    refine vp_callSi (W.runS (As := [.int w, .int 0, .int 1]) (rest := []) ⟨hx, hb, hml, hown, hts⟩ (k_M_within l D E w 0 1) (va_cwS 3 hts (gw_gs wd_736 wd_737 wd_42 wd_738) rfl rfl rfl (by decide +kernel) ⟨Nat.le_of_ble_eq_true rfl, Nat.le_of_ble_eq_true rfl⟩) (rP_S hPc hK) rfl rfl hl.1 rfl (lv_room (Nat.le_of_ble_eq_true rfl)) d_M_pixel_22 ⟨Nat.le_of_ble_eq_true rfl, Nat.le_of_ble_eq_true rfl⟩) (fun r2 hr2 => ?_)
    refine lv_if_ne (tgt := 34) hx hb d_M_pixel_25 (by decide) (fun c2 => ?_) (fun c2 => ?_)
    · rw [hr2] at c2
      exact absurd ⟨b01_1 c1, b01_1 c2⟩ hn
    · refine lv_aload_n hx hb d_M_pixel_28 rfl (lv_at hl 0 rfl) ?_
      refine lv_iconst (v := 1) hx hb d_M_pixel_29 (by decide) ?_
      have hPc := hP.sub (ws' := [(h0, .inr (3, mF ad 0 sg sn hot pc cx cy fo fv to tv fi ti))]) [0] rfl
      have hDc := hD.sub (ws' := [(h0, .inr (3, mF ad 0 sg sn hot pc cx cy fo fv to tv fi ti))]) [0] (by decide) rfl
      have hFc := va_free (wc := [(h0, .inr (3, mF ad 0 sg sn hot pc cx cy fo fv to tv fi ti))]) hD hS hA [0] rfl
      refine va_calli (va_runV (As := [.int 1]) (rest := []) ⟨hx, hb, hml, hown, hts⟩ (k_M_fail l D E h0 H.size ad 0 sg sn hot pc cx cy fo fv to tv fi ti 1) (cwV 1 hts (gw_gv wd_739 wd_741 wd_21 wd_42 wd_742) rfl rfl rfl (by decide +kernel) ⟨Nat.le_of_ble_eq_true rfl, Nat.le_of_ble_eq_true rfl⟩) (wP_V 0 hPc hK hDc rfl rfl) rfl rfl hl.1 rfl (lv_room (Nat.le_of_ble_eq_true rfl)) d_M_pixel_30 ⟨Nat.le_of_ble_eq_true rfl, Nat.le_of_ble_eq_true rfl⟩) hS (fun q _ h => hFc q h) hFc (fun rf2 u9 t H1 locs ht hvm hw hB hz1 hk1 hS => ?_)
      obtain ⟨hP1, hD1⟩ := hB
      rw [ht] at hP1
      obtain ⟨hP, hD⟩ := va_join (wr := []) (w1 := [(h0, .inr (3, mF ad 1 sg sn hot pc cx cy fo fv to tv fi ti))]) hP hD [0] [] rfl rfl (by decide) (by decide) hk1 hFc hP1 hD1
      generalize H1 = H at hP hS ⊢
      have hP : va_P D vwC [(h0, .inr (3, mF ad 1 sg sn hot pc cx cy fo fv to tv fi ti))] H := hP
      have hD : va_D A [(h0, .inr (3, mF ad 1 sg sn hot pc cx cy fo fv to tv fi ti))] := hD
      obtain rfl : rf2 = 0 := hw
      exact W.iret (v := 0) hx hb hrt (fun t ht hW => ⟨⟨0, (), rfl, rfl, ⟨by rw [ht]; exact hP, hD⟩⟩, hS.F ht⟩) hS.2.2 d_M_pixel_33 hlocks
set_option maxHeartbeats 4000000 in
set_option maxRecDepth 100000 in
theorem k_M_pixel (l : Launch) (D : va_G) (E : ClassId × ClassId × ClassId × ClassId) (h0 sz : Nat) (ad : Nat → Nat) (th sg sn hot pc cx cy : Int32) (fo fv to tv : Int64) (fi ti : Int32) (gx gy : Nat → Int32) (k : Nat) (w : Int32) (hk : k < 8192) (hi : mw_in (nI k) 0 (hot - 1) ∧ mw_in w 0 1) : Met l y_M_pixel (.code y_M_pixel c_M_pixel 3 (some .int) :: gw) ({ frames := 1, cells := 0, slots := 0, locals := 40 } : Room) (wP D E [(h0, .inr (3, mF ad th sg sn hot pc cx cy fo fv to tv fi ti)), ((ad 1), .inl (E.2.1, 8193, .inl gx)), ((ad 2), .inl (E.2.1, 8193, .inl gy))] sz [.ref h0, .int (nI k), .int w]) (va_Qi (fun (r : Int32) (u : Unit) => r = if w = 0 then gx k else gy k) (wB D (fun _ => [(h0, .inr (3, mF ad 0 sg sn hot pc cx cy fo fv to tv fi ti)), ((ad 1), .inl (E.2.1, 8193, .inl gx)), ((ad 2), .inl (E.2.1, 8193, .inl gy))]) (va_A [(h0, .inr (3, mF ad th sg sn hot pc cx cy fo fv to tv fi ti)), ((ad 1), .inl (E.2.1, 8193, .inl gx)), ((ad 2), .inl (E.2.1, 8193, .inl gy))] sz)) (va_A [(h0, .inr (3, mF ad th sg sn hot pc cx cy fo fv to tv fi ti)), ((ad 1), .inl (E.2.1, 8193, .inl gx)), ((ad 2), .inl (E.2.1, 8193, .inl gy))] sz)) 0 0 (va_A [(h0, .inr (3, mF ad th sg sn hot pc cx cy fo fv to tv fi ti)), ((ad 1), .inl (E.2.1, 8193, .inl gx)), ((ad 2), .inl (E.2.1, 8193, .inl gy))] sz) := by
  refine wr_ofW (Qc := fun A => (va_Qi (fun (r : Int32) (u : Unit) => r = if w = 0 then gx k else gy k) (wB D (fun _ => [(h0, .inr (3, mF ad 0 sg sn hot pc cx cy fo fv to tv fi ti)), ((ad 1), .inl (E.2.1, 8193, .inl gx)), ((ad 2), .inl (E.2.1, 8193, .inl gy))]) A) A)) (by decide) (Nat.le_of_ble_eq_true rfl) ?_
  intro p e s m below meth c B hP hK A hA hD hS ls hl
  obtain ⟨hx, hb, hrt, hml, hown, hts, hG, hlocks, hin⟩ := B
  have hl : lv_has ls 3 [(0, .ref h0), (1, .int (nI k)), (2, .int w)] := hl
  refine lv_aload_n hx hb d_M_pixel_0 rfl (lv_at hl 0 rfl) ?_
  refine lv_iconst (v := 0) hx hb d_M_pixel_1 (by decide) ?_
  refine va_put (D := D) (ci := 3) (v := .int 0) (ty := .int) (C := K_M) (T := F_M) (N := 24) hx hb hG in_M t_M t_M_ok n_M hown hK.1 hP hD hS 0 rfl rfl 0 (by decide) (hG _ wd_648) (fun _ h9 => h9) rfl (by decide +kernel) rfl rfl (Nat.le_of_ble_eq_true rfl) d_M_pixel_2 (fun H locs hP hD hS => ?_)
  have hP : va_P D vwC [(h0, .inr (3, mF ad 0 sg sn hot pc cx cy fo fv to tv fi ti)), ((ad 1), .inl (E.2.1, 8193, .inl gx)), ((ad 2), .inl (E.2.1, 8193, .inl gy))] H := hP
  have hD : va_D A [(h0, .inr (3, mF ad 0 sg sn hot pc cx cy fo fv to tv fi ti)), ((ad 1), .inl (E.2.1, 8193, .inl gx)), ((ad 2), .inl (E.2.1, 8193, .inl gy))] := hD
  refine lv_iload_n hx hb d_M_pixel_5 rfl (lv_at hl 1 rfl) ?_
  refine lv_iconst (v := 0) hx hb d_M_pixel_6 (by decide) ?_
  refine lv_aload_n hx hb d_M_pixel_7 rfl (lv_at hl 0 rfl) ?_
  refine va_get (D := D) (ci := 3) (v := .int hot) (C := K_M) (T := F_M) (N := 24) hx hb hG in_M hown hK.1 hP 0 rfl rfl 4 (by decide) (hG _ wd_652) (fun _ h9 => h9) rfl d_M_pixel_8 ?_
  refine lv_iconst (v := 1) hx hb d_M_pixel_11 (by decide) ?_
  refine lv_isub hx hb d_M_pixel_12 ?_
  have hPc := hP.sub (ws' := []) [] rfl
  refine vp_callSi (W.runS (As := [.int (nI k), .int 0, .int (hot - 1)]) (rest := []) ⟨hx, hb, hml, hown, hts⟩ (k_M_within l D E (nI k) 0 (hot - 1)) (va_cwS 3 hts (gw_gs wd_736 wd_737 wd_42 wd_738) rfl rfl rfl (by decide +kernel) ⟨Nat.le_of_ble_eq_true rfl, Nat.le_of_ble_eq_true rfl⟩) (rP_S hPc hK) rfl rfl hl.1 rfl (lv_room (Nat.le_of_ble_eq_true rfl)) d_M_pixel_13 ⟨Nat.le_of_ble_eq_true rfl, Nat.le_of_ble_eq_true rfl⟩) (fun r1 hr1 => ?_)
  refine lv_if_eq (tgt := 28) hx hb d_M_pixel_16 (by decide) (fun c1 => ?_) (fun c1 => ?_)
  · rw [hr1, b01_t hi.1] at c1
    exact absurd c1 (by decide)
  · refine lv_iload_n hx hb d_M_pixel_19 rfl (lv_at hl 2 rfl) ?_
    refine lv_iconst (v := 0) hx hb d_M_pixel_20 (by decide) ?_
    refine lv_iconst (v := 1) hx hb d_M_pixel_21 (by decide) ?_
    have hPc := hP.sub (ws' := []) [] rfl
    refine vp_callSi (W.runS (As := [.int w, .int 0, .int 1]) (rest := []) ⟨hx, hb, hml, hown, hts⟩ (k_M_within l D E w 0 1) (va_cwS 3 hts (gw_gs wd_736 wd_737 wd_42 wd_738) rfl rfl rfl (by decide +kernel) ⟨Nat.le_of_ble_eq_true rfl, Nat.le_of_ble_eq_true rfl⟩) (rP_S hPc hK) rfl rfl hl.1 rfl (lv_room (Nat.le_of_ble_eq_true rfl)) d_M_pixel_22 ⟨Nat.le_of_ble_eq_true rfl, Nat.le_of_ble_eq_true rfl⟩) (fun r2 hr2 => ?_)
    refine lv_if_ne (tgt := 34) hx hb d_M_pixel_25 (by decide) (fun c2 => ?_) (fun c2 => ?_)
    · refine lv_iload_n hx hb d_M_pixel_34 rfl (lv_at hl 2 rfl) ?_
      refine lv_if_ne (tgt := 47) hx hb d_M_pixel_35 (by decide) (fun c3 => ?_) (fun c3 => ?_)
      · refine lv_aload_n hx hb d_M_pixel_47 rfl (lv_at hl 0 rfl) ?_
        refine va_get (D := D) (ci := 3) (v := .ref (ad 2)) (C := K_M) (T := F_M) (N := 24) hx hb hG in_M hown hK.1 hP 0 rfl rfl 6 (by decide) (hG _ wd_654) (fun _ h9 => h9) rfl d_M_pixel_48 ?_
        refine lv_iload_n hx hb d_M_pixel_51 rfl (lv_at hl 1 rfl) ?_
        refine va_iald hx hb hK.1 hP 2 1 rfl rfl (vp_in_nI (by omega) (by omega)) d_M_pixel_52 ?_
        rw [show gy (Int32.toNatClampNeg (nI k)) = gy k from by rw [nI_clamp (by omega)]]
        exact W.iret (v := gy k) hx hb hrt (fun t ht hW => ⟨⟨gy k, (), rfl, (if_neg c3).symm, ⟨by rw [ht]; exact hP, hD⟩⟩, hS.F ht⟩) hS.2.2 d_M_pixel_53 hlocks
      · refine lv_aload_n hx hb d_M_pixel_38 rfl (lv_at hl 0 rfl) ?_
        refine va_get (D := D) (ci := 3) (v := .ref (ad 1)) (C := K_M) (T := F_M) (N := 24) hx hb hG in_M hown hK.1 hP 0 rfl rfl 5 (by decide) (hG _ wd_653) (fun _ h9 => h9) rfl d_M_pixel_39 ?_
        refine lv_iload_n hx hb d_M_pixel_42 rfl (lv_at hl 1 rfl) ?_
        refine va_iald hx hb hK.1 hP 1 1 rfl rfl (vp_in_nI (by omega) (by omega)) d_M_pixel_43 ?_
        rw [show gx (Int32.toNatClampNeg (nI k)) = gx k from by rw [nI_clamp (by omega)]]
        refine lv_goto (tgt := 53) hx hb d_M_pixel_44 (by decide) ?_
        exact W.iret (v := gx k) hx hb hrt (fun t ht hW => ⟨⟨gx k, (), rfl, (if_pos c3).symm, ⟨by rw [ht]; exact hP, hD⟩⟩, hS.F ht⟩) hS.2.2 d_M_pixel_53 hlocks
    · rw [hr2, b01_t hi.2] at c2
      exact absurd c2 (by decide)
set_option maxHeartbeats 4000000 in
set_option maxRecDepth 100000 in
theorem k_M_piece_n (l : Launch) (D : va_G) (E : ClassId × ClassId × ClassId × ClassId) (h0 sz : Nat) (ad : Nat → Nat) (th sg sn hot pc cx cy : Int32) (fo fv to tv : Int64) (fi ti : Int32) (k w : Int32) (hn : ¬ (mw_in k 0 (pc - 1) ∧ mw_in w 0 2)) : Met l y_M_piece (.code y_M_piece c_M_piece 3 (some .int) :: gw) ({ frames := 1, cells := 0, slots := 0, locals := 40 } : Room) (wP D E [(h0, .inr (3, mF ad th sg sn hot pc cx cy fo fv to tv fi ti))] sz [.ref h0, .int k, .int w]) (va_Qi (fun (r : Int32) (u : Unit) => r = 0) (wB D (fun _ => [(h0, .inr (3, mF ad 1 sg sn hot pc cx cy fo fv to tv fi ti))]) (va_A [(h0, .inr (3, mF ad th sg sn hot pc cx cy fo fv to tv fi ti))] sz)) (va_A [(h0, .inr (3, mF ad th sg sn hot pc cx cy fo fv to tv fi ti))] sz)) 0 0 (va_A [(h0, .inr (3, mF ad th sg sn hot pc cx cy fo fv to tv fi ti))] sz) := by
  refine wr_ofW (Qc := fun A => (va_Qi (fun (r : Int32) (u : Unit) => r = 0) (wB D (fun _ => [(h0, .inr (3, mF ad 1 sg sn hot pc cx cy fo fv to tv fi ti))]) A) A)) (by decide) (Nat.le_of_ble_eq_true rfl) ?_
  intro p e s m below meth c B hP hK A hA hD hS ls hl
  obtain ⟨hx, hb, hrt, hml, hown, hts, hG, hlocks, hin⟩ := B
  have hl : lv_has ls 3 [(0, .ref h0), (1, .int k), (2, .int w)] := hl
  refine lv_aload_n hx hb d_M_piece_0 rfl (lv_at hl 0 rfl) ?_
  refine lv_iconst (v := 0) hx hb d_M_piece_1 (by decide) ?_
  refine va_put (D := D) (ci := 3) (v := .int 0) (ty := .int) (C := K_M) (T := F_M) (N := 24) hx hb hG in_M t_M t_M_ok n_M hown hK.1 hP hD hS 0 rfl rfl 0 (by decide) (hG _ wd_648) (fun _ h9 => h9) rfl (by decide +kernel) rfl rfl (Nat.le_of_ble_eq_true rfl) d_M_piece_2 (fun H locs hP hD hS => ?_)
  have hP : va_P D vwC [(h0, .inr (3, mF ad 0 sg sn hot pc cx cy fo fv to tv fi ti))] H := hP
  have hD : va_D A [(h0, .inr (3, mF ad 0 sg sn hot pc cx cy fo fv to tv fi ti))] := hD
  refine lv_iload_n hx hb d_M_piece_5 rfl (lv_at hl 1 rfl) ?_
  refine lv_iconst (v := 0) hx hb d_M_piece_6 (by decide) ?_
  refine lv_aload_n hx hb d_M_piece_7 rfl (lv_at hl 0 rfl) ?_
  refine va_get (D := D) (ci := 3) (v := .int pc) (C := K_M) (T := F_M) (N := 24) hx hb hG in_M hown hK.1 hP 0 rfl rfl 9 (by decide) (hG _ wd_657) (fun _ h9 => h9) rfl d_M_piece_8 ?_
  refine lv_iconst (v := 1) hx hb d_M_piece_11 (by decide) ?_
  refine lv_isub hx hb d_M_piece_12 ?_
  have hPc := hP.sub (ws' := []) [] rfl
  refine vp_callSi (W.runS (As := [.int k, .int 0, .int (pc - 1)]) (rest := []) ⟨hx, hb, hml, hown, hts⟩ (k_M_within l D E k 0 (pc - 1)) (va_cwS 3 hts (gw_gs wd_736 wd_737 wd_42 wd_738) rfl rfl rfl (by decide +kernel) ⟨Nat.le_of_ble_eq_true rfl, Nat.le_of_ble_eq_true rfl⟩) (rP_S hPc hK) rfl rfl hl.1 rfl (lv_room (Nat.le_of_ble_eq_true rfl)) d_M_piece_13 ⟨Nat.le_of_ble_eq_true rfl, Nat.le_of_ble_eq_true rfl⟩) (fun r1 hr1 => ?_)
  refine lv_if_eq (tgt := 28) hx hb d_M_piece_16 (by decide) (fun c1 => ?_) (fun c1 => ?_)
  · refine lv_aload_n hx hb d_M_piece_28 rfl (lv_at hl 0 rfl) ?_
    refine lv_iconst (v := 1) hx hb d_M_piece_29 (by decide) ?_
    have hPc := hP.sub (ws' := [(h0, .inr (3, mF ad 0 sg sn hot pc cx cy fo fv to tv fi ti))]) [0] rfl
    have hDc := hD.sub (ws' := [(h0, .inr (3, mF ad 0 sg sn hot pc cx cy fo fv to tv fi ti))]) [0] (by decide) rfl
    have hFc := va_free (wc := [(h0, .inr (3, mF ad 0 sg sn hot pc cx cy fo fv to tv fi ti))]) hD hS hA [0] rfl
    refine va_calli (va_runV (As := [.int 1]) (rest := []) ⟨hx, hb, hml, hown, hts⟩ (k_M_fail l D E h0 H.size ad 0 sg sn hot pc cx cy fo fv to tv fi ti 1) (cwV 1 hts (gw_gv wd_739 wd_741 wd_21 wd_42 wd_742) rfl rfl rfl (by decide +kernel) ⟨Nat.le_of_ble_eq_true rfl, Nat.le_of_ble_eq_true rfl⟩) (wP_V 0 hPc hK hDc rfl rfl) rfl rfl hl.1 rfl (lv_room (Nat.le_of_ble_eq_true rfl)) d_M_piece_30 ⟨Nat.le_of_ble_eq_true rfl, Nat.le_of_ble_eq_true rfl⟩) hS (fun q _ h => hFc q h) hFc (fun rf1 u9 t H1 locs ht hvm hw hB hz1 hk1 hS => ?_)
    obtain ⟨hP1, hD1⟩ := hB
    rw [ht] at hP1
    obtain ⟨hP, hD⟩ := va_join (wr := []) (w1 := [(h0, .inr (3, mF ad 1 sg sn hot pc cx cy fo fv to tv fi ti))]) hP hD [0] [] rfl rfl (by decide) (by decide) hk1 hFc hP1 hD1
    generalize H1 = H at hP hS ⊢
    have hP : va_P D vwC [(h0, .inr (3, mF ad 1 sg sn hot pc cx cy fo fv to tv fi ti))] H := hP
    have hD : va_D A [(h0, .inr (3, mF ad 1 sg sn hot pc cx cy fo fv to tv fi ti))] := hD
    obtain rfl : rf1 = 0 := hw
    exact W.iret (v := 0) hx hb hrt (fun t ht hW => ⟨⟨0, (), rfl, rfl, ⟨by rw [ht]; exact hP, hD⟩⟩, hS.F ht⟩) hS.2.2 d_M_piece_33 hlocks
  · rw [hr1] at c1
    refine lv_iload_n hx hb d_M_piece_19 rfl (lv_at hl 2 rfl) ?_
    refine lv_iconst (v := 0) hx hb d_M_piece_20 (by decide) ?_
    refine lv_iconst (v := 2) hx hb d_M_piece_21 (by decide) ?_
    have hPc := hP.sub (ws' := []) [] rfl
    refine vp_callSi (W.runS (As := [.int w, .int 0, .int 2]) (rest := []) ⟨hx, hb, hml, hown, hts⟩ (k_M_within l D E w 0 2) (va_cwS 3 hts (gw_gs wd_736 wd_737 wd_42 wd_738) rfl rfl rfl (by decide +kernel) ⟨Nat.le_of_ble_eq_true rfl, Nat.le_of_ble_eq_true rfl⟩) (rP_S hPc hK) rfl rfl hl.1 rfl (lv_room (Nat.le_of_ble_eq_true rfl)) d_M_piece_22 ⟨Nat.le_of_ble_eq_true rfl, Nat.le_of_ble_eq_true rfl⟩) (fun r2 hr2 => ?_)
    refine lv_if_ne (tgt := 34) hx hb d_M_piece_25 (by decide) (fun c2 => ?_) (fun c2 => ?_)
    · rw [hr2] at c2
      exact absurd ⟨b01_1 c1, b01_1 c2⟩ hn
    · refine lv_aload_n hx hb d_M_piece_28 rfl (lv_at hl 0 rfl) ?_
      refine lv_iconst (v := 1) hx hb d_M_piece_29 (by decide) ?_
      have hPc := hP.sub (ws' := [(h0, .inr (3, mF ad 0 sg sn hot pc cx cy fo fv to tv fi ti))]) [0] rfl
      have hDc := hD.sub (ws' := [(h0, .inr (3, mF ad 0 sg sn hot pc cx cy fo fv to tv fi ti))]) [0] (by decide) rfl
      have hFc := va_free (wc := [(h0, .inr (3, mF ad 0 sg sn hot pc cx cy fo fv to tv fi ti))]) hD hS hA [0] rfl
      refine va_calli (va_runV (As := [.int 1]) (rest := []) ⟨hx, hb, hml, hown, hts⟩ (k_M_fail l D E h0 H.size ad 0 sg sn hot pc cx cy fo fv to tv fi ti 1) (cwV 1 hts (gw_gv wd_739 wd_741 wd_21 wd_42 wd_742) rfl rfl rfl (by decide +kernel) ⟨Nat.le_of_ble_eq_true rfl, Nat.le_of_ble_eq_true rfl⟩) (wP_V 0 hPc hK hDc rfl rfl) rfl rfl hl.1 rfl (lv_room (Nat.le_of_ble_eq_true rfl)) d_M_piece_30 ⟨Nat.le_of_ble_eq_true rfl, Nat.le_of_ble_eq_true rfl⟩) hS (fun q _ h => hFc q h) hFc (fun rf2 u9 t H1 locs ht hvm hw hB hz1 hk1 hS => ?_)
      obtain ⟨hP1, hD1⟩ := hB
      rw [ht] at hP1
      obtain ⟨hP, hD⟩ := va_join (wr := []) (w1 := [(h0, .inr (3, mF ad 1 sg sn hot pc cx cy fo fv to tv fi ti))]) hP hD [0] [] rfl rfl (by decide) (by decide) hk1 hFc hP1 hD1
      generalize H1 = H at hP hS ⊢
      have hP : va_P D vwC [(h0, .inr (3, mF ad 1 sg sn hot pc cx cy fo fv to tv fi ti))] H := hP
      have hD : va_D A [(h0, .inr (3, mF ad 1 sg sn hot pc cx cy fo fv to tv fi ti))] := hD
      obtain rfl : rf2 = 0 := hw
      exact W.iret (v := 0) hx hb hrt (fun t ht hW => ⟨⟨0, (), rfl, rfl, ⟨by rw [ht]; exact hP, hD⟩⟩, hS.F ht⟩) hS.2.2 d_M_piece_33 hlocks
set_option maxHeartbeats 4000000 in
set_option maxRecDepth 100000 in
theorem k_M_piece (l : Launch) (D : va_G) (E : ClassId × ClassId × ClassId × ClassId) (h0 sz : Nat) (ad : Nat → Nat) (th sg sn hot pc cx cy : Int32) (fo fv to tv : Int64) (fi ti : Int32) (gl gh go : Nat → Int32) (k : Nat) (w : Int32) (hk : k < 65536) (hi : mw_in (nI k) 0 (pc - 1) ∧ mw_in w 0 2) : Met l y_M_piece (.code y_M_piece c_M_piece 3 (some .int) :: gw) ({ frames := 1, cells := 0, slots := 0, locals := 40 } : Room) (wP D E [(h0, .inr (3, mF ad th sg sn hot pc cx cy fo fv to tv fi ti)), ((ad 5), .inl (E.2.1, 65536, .inl gl)), ((ad 6), .inl (E.2.1, 65536, .inl gh)), ((ad 7), .inl (E.2.1, 65536, .inl go))] sz [.ref h0, .int (nI k), .int w]) (va_Qi (fun (r : Int32) (u : Unit) => r = if w = 0 then gl k else if w = 1 then gh k else go k) (wB D (fun _ => [(h0, .inr (3, mF ad 0 sg sn hot pc cx cy fo fv to tv fi ti)), ((ad 5), .inl (E.2.1, 65536, .inl gl)), ((ad 6), .inl (E.2.1, 65536, .inl gh)), ((ad 7), .inl (E.2.1, 65536, .inl go))]) (va_A [(h0, .inr (3, mF ad th sg sn hot pc cx cy fo fv to tv fi ti)), ((ad 5), .inl (E.2.1, 65536, .inl gl)), ((ad 6), .inl (E.2.1, 65536, .inl gh)), ((ad 7), .inl (E.2.1, 65536, .inl go))] sz)) (va_A [(h0, .inr (3, mF ad th sg sn hot pc cx cy fo fv to tv fi ti)), ((ad 5), .inl (E.2.1, 65536, .inl gl)), ((ad 6), .inl (E.2.1, 65536, .inl gh)), ((ad 7), .inl (E.2.1, 65536, .inl go))] sz)) 0 0 (va_A [(h0, .inr (3, mF ad th sg sn hot pc cx cy fo fv to tv fi ti)), ((ad 5), .inl (E.2.1, 65536, .inl gl)), ((ad 6), .inl (E.2.1, 65536, .inl gh)), ((ad 7), .inl (E.2.1, 65536, .inl go))] sz) := by
  refine wr_ofW (Qc := fun A => (va_Qi (fun (r : Int32) (u : Unit) => r = if w = 0 then gl k else if w = 1 then gh k else go k) (wB D (fun _ => [(h0, .inr (3, mF ad 0 sg sn hot pc cx cy fo fv to tv fi ti)), ((ad 5), .inl (E.2.1, 65536, .inl gl)), ((ad 6), .inl (E.2.1, 65536, .inl gh)), ((ad 7), .inl (E.2.1, 65536, .inl go))]) A) A)) (by decide) (Nat.le_of_ble_eq_true rfl) ?_
  intro p e s m below meth c B hP hK A hA hD hS ls hl
  obtain ⟨hx, hb, hrt, hml, hown, hts, hG, hlocks, hin⟩ := B
  have hl : lv_has ls 3 [(0, .ref h0), (1, .int (nI k)), (2, .int w)] := hl
  refine lv_aload_n hx hb d_M_piece_0 rfl (lv_at hl 0 rfl) ?_
  refine lv_iconst (v := 0) hx hb d_M_piece_1 (by decide) ?_
  refine va_put (D := D) (ci := 3) (v := .int 0) (ty := .int) (C := K_M) (T := F_M) (N := 24) hx hb hG in_M t_M t_M_ok n_M hown hK.1 hP hD hS 0 rfl rfl 0 (by decide) (hG _ wd_648) (fun _ h9 => h9) rfl (by decide +kernel) rfl rfl (Nat.le_of_ble_eq_true rfl) d_M_piece_2 (fun H locs hP hD hS => ?_)
  have hP : va_P D vwC [(h0, .inr (3, mF ad 0 sg sn hot pc cx cy fo fv to tv fi ti)), ((ad 5), .inl (E.2.1, 65536, .inl gl)), ((ad 6), .inl (E.2.1, 65536, .inl gh)), ((ad 7), .inl (E.2.1, 65536, .inl go))] H := hP
  have hD : va_D A [(h0, .inr (3, mF ad 0 sg sn hot pc cx cy fo fv to tv fi ti)), ((ad 5), .inl (E.2.1, 65536, .inl gl)), ((ad 6), .inl (E.2.1, 65536, .inl gh)), ((ad 7), .inl (E.2.1, 65536, .inl go))] := hD
  refine lv_iload_n hx hb d_M_piece_5 rfl (lv_at hl 1 rfl) ?_
  refine lv_iconst (v := 0) hx hb d_M_piece_6 (by decide) ?_
  refine lv_aload_n hx hb d_M_piece_7 rfl (lv_at hl 0 rfl) ?_
  refine va_get (D := D) (ci := 3) (v := .int pc) (C := K_M) (T := F_M) (N := 24) hx hb hG in_M hown hK.1 hP 0 rfl rfl 9 (by decide) (hG _ wd_657) (fun _ h9 => h9) rfl d_M_piece_8 ?_
  refine lv_iconst (v := 1) hx hb d_M_piece_11 (by decide) ?_
  refine lv_isub hx hb d_M_piece_12 ?_
  have hPc := hP.sub (ws' := []) [] rfl
  refine vp_callSi (W.runS (As := [.int (nI k), .int 0, .int (pc - 1)]) (rest := []) ⟨hx, hb, hml, hown, hts⟩ (k_M_within l D E (nI k) 0 (pc - 1)) (va_cwS 3 hts (gw_gs wd_736 wd_737 wd_42 wd_738) rfl rfl rfl (by decide +kernel) ⟨Nat.le_of_ble_eq_true rfl, Nat.le_of_ble_eq_true rfl⟩) (rP_S hPc hK) rfl rfl hl.1 rfl (lv_room (Nat.le_of_ble_eq_true rfl)) d_M_piece_13 ⟨Nat.le_of_ble_eq_true rfl, Nat.le_of_ble_eq_true rfl⟩) (fun r1 hr1 => ?_)
  refine lv_if_eq (tgt := 28) hx hb d_M_piece_16 (by decide) (fun c1 => ?_) (fun c1 => ?_)
  · rw [hr1, b01_t hi.1] at c1
    exact absurd c1 (by decide)
  · refine lv_iload_n hx hb d_M_piece_19 rfl (lv_at hl 2 rfl) ?_
    refine lv_iconst (v := 0) hx hb d_M_piece_20 (by decide) ?_
    refine lv_iconst (v := 2) hx hb d_M_piece_21 (by decide) ?_
    have hPc := hP.sub (ws' := []) [] rfl
    refine vp_callSi (W.runS (As := [.int w, .int 0, .int 2]) (rest := []) ⟨hx, hb, hml, hown, hts⟩ (k_M_within l D E w 0 2) (va_cwS 3 hts (gw_gs wd_736 wd_737 wd_42 wd_738) rfl rfl rfl (by decide +kernel) ⟨Nat.le_of_ble_eq_true rfl, Nat.le_of_ble_eq_true rfl⟩) (rP_S hPc hK) rfl rfl hl.1 rfl (lv_room (Nat.le_of_ble_eq_true rfl)) d_M_piece_22 ⟨Nat.le_of_ble_eq_true rfl, Nat.le_of_ble_eq_true rfl⟩) (fun r2 hr2 => ?_)
    refine lv_if_ne (tgt := 34) hx hb d_M_piece_25 (by decide) (fun c2 => ?_) (fun c2 => ?_)
    · refine lv_iload_n hx hb d_M_piece_34 rfl (lv_at hl 2 rfl) ?_
      refine lv_if_ne (tgt := 47) hx hb d_M_piece_35 (by decide) (fun c3 => ?_) (fun c3 => ?_)
      · refine lv_iload_n hx hb d_M_piece_47 rfl (lv_at hl 2 rfl) ?_
        refine lv_iconst (v := 1) hx hb d_M_piece_48 (by decide) ?_
        refine lv_icmp_ne (tgt := 61) hx hb d_M_piece_49 (by decide) (fun c4 => ?_) (fun c4 => ?_)
        · refine lv_aload_n hx hb d_M_piece_61 rfl (lv_at hl 0 rfl) ?_
          refine va_get (D := D) (ci := 3) (v := .ref (ad 7)) (C := K_M) (T := F_M) (N := 24) hx hb hG in_M hown hK.1 hP 0 rfl rfl 12 (by decide) (hG _ wd_660) (fun _ h9 => h9) rfl d_M_piece_62 ?_
          refine lv_iload_n hx hb d_M_piece_65 rfl (lv_at hl 1 rfl) ?_
          refine va_iald hx hb hK.1 hP 3 1 rfl rfl (vp_in_nI (by omega) (by omega)) d_M_piece_66 ?_
          rw [show go (Int32.toNatClampNeg (nI k)) = go k from by rw [nI_clamp (by omega)]]
          exact W.iret (v := go k) hx hb hrt (fun t ht hW => ⟨⟨go k, (), rfl, by rw [if_neg c3, if_neg c4], ⟨by rw [ht]; exact hP, hD⟩⟩, hS.F ht⟩) hS.2.2 d_M_piece_67 hlocks
        · refine lv_aload_n hx hb d_M_piece_52 rfl (lv_at hl 0 rfl) ?_
          refine va_get (D := D) (ci := 3) (v := .ref (ad 6)) (C := K_M) (T := F_M) (N := 24) hx hb hG in_M hown hK.1 hP 0 rfl rfl 11 (by decide) (hG _ wd_659) (fun _ h9 => h9) rfl d_M_piece_53 ?_
          refine lv_iload_n hx hb d_M_piece_56 rfl (lv_at hl 1 rfl) ?_
          refine va_iald hx hb hK.1 hP 2 1 rfl rfl (vp_in_nI (by omega) (by omega)) d_M_piece_57 ?_
          rw [show gh (Int32.toNatClampNeg (nI k)) = gh k from by rw [nI_clamp (by omega)]]
          refine lv_goto (tgt := 67) hx hb d_M_piece_58 (by decide) ?_
          exact W.iret (v := gh k) hx hb hrt (fun t ht hW => ⟨⟨gh k, (), rfl, by rw [if_neg c3, if_pos c4], ⟨by rw [ht]; exact hP, hD⟩⟩, hS.F ht⟩) hS.2.2 d_M_piece_67 hlocks
      · refine lv_aload_n hx hb d_M_piece_38 rfl (lv_at hl 0 rfl) ?_
        refine va_get (D := D) (ci := 3) (v := .ref (ad 5)) (C := K_M) (T := F_M) (N := 24) hx hb hG in_M hown hK.1 hP 0 rfl rfl 10 (by decide) (hG _ wd_658) (fun _ h9 => h9) rfl d_M_piece_39 ?_
        refine lv_iload_n hx hb d_M_piece_42 rfl (lv_at hl 1 rfl) ?_
        refine va_iald hx hb hK.1 hP 1 1 rfl rfl (vp_in_nI (by omega) (by omega)) d_M_piece_43 ?_
        rw [show gl (Int32.toNatClampNeg (nI k)) = gl k from by rw [nI_clamp (by omega)]]
        refine lv_goto (tgt := 67) hx hb d_M_piece_44 (by decide) ?_
        exact W.iret (v := gl k) hx hb hrt (fun t ht hW => ⟨⟨gl k, (), rfl, by rw [if_pos c3], ⟨by rw [ht]; exact hP, hD⟩⟩, hS.F ht⟩) hS.2.2 d_M_piece_67 hlocks
    · rw [hr2, b01_t hi.2] at c2
      exact absurd c2 (by decide)
end
end
