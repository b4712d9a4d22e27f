section
-- ===== PART A: goes FIRST, ahead of the names: the tables' words, and 'selects' of the private methods out of them =====
/-- a private method of a class that the tables say can be made, by its rows of tables_1 -/
def lw_okq (q : MethodName × Nat) : Prop := (q.1.cls ≠ "java/lang/invoke/MethodHandle" ∧ q.1.cls ≠ "java/lang/invoke/VarHandle") ∧ Cond.instantiable q.1.cls q.2 ∈ tables_1 ∧ Cond.privateMethod q.1 ∈ tables_1 ∧ Cond.instanceMethod q.1 ∈ tables_1
theorem lw_p0 : lw_okq (⟨"java/lang/Throwable", "fillInStackTrace", "(I)Ljava/lang/Throwable;"⟩, 6) := ⟨⟨by decide +kernel, by decide +kernel⟩, List.mem_of_getElem? (i := 320) (by decide +kernel), List.mem_of_getElem? (i := 318) (by decide +kernel), List.mem_of_getElem? (i := 319) (by decide +kernel)⟩
theorem lw_p1 : lw_okq (⟨"LeastEdits$Net", "addAnd", "(III)I"⟩, 10) := ⟨⟨by decide +kernel, by decide +kernel⟩, List.mem_of_getElem? (i := 27) (by decide +kernel), List.mem_of_getElem? (i := 414) (by decide +kernel), List.mem_of_getElem? (i := 415) (by decide +kernel)⟩
theorem lw_p2 : lw_okq (⟨"LeastEdits$Search", "showAsItIs", "()V"⟩, 5) := ⟨⟨by decide +kernel, by decide +kernel⟩, List.mem_of_getElem? (i := 123) (by decide +kernel), List.mem_of_getElem? (i := 531) (by decide +kernel), List.mem_of_getElem? (i := 532) (by decide +kernel)⟩
theorem lw_p3 : lw_okq (⟨"LeastEdits$Search", "show", "(II)V"⟩, 5) := ⟨⟨by decide +kernel, by decide +kernel⟩, List.mem_of_getElem? (i := 123) (by decide +kernel), List.mem_of_getElem? (i := 539) (by decide +kernel), List.mem_of_getElem? (i := 540) (by decide +kernel)⟩
theorem lw_p4 : lw_okq (⟨"LeastEdits$Search", "findOne", "()Z"⟩, 5) := ⟨⟨by decide +kernel, by decide +kernel⟩, List.mem_of_getElem? (i := 123) (by decide +kernel), List.mem_of_getElem? (i := 548) (by decide +kernel), List.mem_of_getElem? (i := 549) (by decide +kernel)⟩
theorem lw_p5 : lw_okq (⟨"LeastEdits$Search", "agreementWith", "(IIII)I"⟩, 5) := ⟨⟨by decide +kernel, by decide +kernel⟩, List.mem_of_getElem? (i := 123) (by decide +kernel), List.mem_of_getElem? (i := 553) (by decide +kernel), List.mem_of_getElem? (i := 554) (by decide +kernel)⟩
theorem lw_p6 : lw_okq (⟨"LeastEdits$Search", "setAndSpread", "(IIII)V"⟩, 5) := ⟨⟨by decide +kernel, by decide +kernel⟩, List.mem_of_getElem? (i := 123) (by decide +kernel), List.mem_of_getElem? (i := 557) (by decide +kernel), List.mem_of_getElem? (i := 558) (by decide +kernel)⟩
theorem lw_p7 : lw_okq (⟨"LeastEdits$Search", "findLiterals", "(IIILLeastEdits$Edit;)Z"⟩, 5) := ⟨⟨by decide +kernel, by decide +kernel⟩, List.mem_of_getElem? (i := 123) (by decide +kernel), List.mem_of_getElem? (i := 562) (by decide +kernel), List.mem_of_getElem? (i := 563) (by decide +kernel)⟩
theorem lw_p8 : lw_okq (⟨"LeastEdits$Search", "findPartner", "(IIII)I"⟩, 5) := ⟨⟨by decide +kernel, by decide +kernel⟩, List.mem_of_getElem? (i := 123) (by decide +kernel), List.mem_of_getElem? (i := 566) (by decide +kernel), List.mem_of_getElem? (i := 567) (by decide +kernel)⟩
theorem lw_p9 : lw_okq (⟨"LeastEdits$Search", "findTwo", "()Z"⟩, 5) := ⟨⟨by decide +kernel, by decide +kernel⟩, List.mem_of_getElem? (i := 123) (by decide +kernel), List.mem_of_getElem? (i := 575) (by decide +kernel), List.mem_of_getElem? (i := 576) (by decide +kernel)⟩
theorem lw_p10 : lw_okq (⟨"LeastEdits$Search", "findPair", "(II)Z"⟩, 5) := ⟨⟨by decide +kernel, by decide +kernel⟩, List.mem_of_getElem? (i := 123) (by decide +kernel), List.mem_of_getElem? (i := 579) (by decide +kernel), List.mem_of_getElem? (i := 580) (by decide +kernel)⟩
theorem lw_p11 : lw_okq (⟨"LeastEdits$Taking", "takeForOne", "(I)V"⟩, 3) := ⟨⟨by decide +kernel, by decide +kernel⟩, List.mem_of_getElem? (i := 171) (by decide +kernel), List.mem_of_getElem? (i := 587) (by decide +kernel), List.mem_of_getElem? (i := 588) (by decide +kernel)⟩
theorem lw_p12 : lw_okq (⟨"LeastEdits$Taking", "offer", "(III)V"⟩, 3) := ⟨⟨by decide +kernel, by decide +kernel⟩, List.mem_of_getElem? (i := 171) (by decide +kernel), List.mem_of_getElem? (i := 598) (by decide +kernel), List.mem_of_getElem? (i := 599) (by decide +kernel)⟩
theorem lw_p13 : lw_okq (⟨"LeastEdits$Taking", "takeForTwo", "(II)V"⟩, 3) := ⟨⟨by decide +kernel, by decide +kernel⟩, List.mem_of_getElem? (i := 171) (by decide +kernel), List.mem_of_getElem? (i := 602) (by decide +kernel), List.mem_of_getElem? (i := 603) (by decide +kernel)⟩
theorem lw_p14 : lw_okq (⟨"LeastEditsModel", "put", "(III)I"⟩, 31) := ⟨⟨by decide +kernel, by decide +kernel⟩, List.mem_of_getElem? (i := 663) (by decide +kernel), List.mem_of_getElem? (i := 776) (by decide +kernel), List.mem_of_getElem? (i := 777) (by decide +kernel)⟩
theorem lw_p15 : lw_okq (⟨"LeastEditsModel", "work", "(I)V"⟩, 31) := ⟨⟨by decide +kernel, by decide +kernel⟩, List.mem_of_getElem? (i := 663) (by decide +kernel), List.mem_of_getElem? (i := 780) (by decide +kernel), List.mem_of_getElem? (i := 781) (by decide +kernel)⟩
def lw_privs_1 : List (MethodName × Nat) := [(⟨"java/lang/Throwable", "fillInStackTrace", "(I)Ljava/lang/Throwable;"⟩, 6), (⟨"LeastEdits$Net", "addAnd", "(III)I"⟩, 10), (⟨"LeastEdits$Search", "showAsItIs", "()V"⟩, 5), (⟨"LeastEdits$Search", "show", "(II)V"⟩, 5), (⟨"LeastEdits$Search", "findOne", "()Z"⟩, 5), (⟨"LeastEdits$Search", "agreementWith", "(IIII)I"⟩, 5), (⟨"LeastEdits$Search", "setAndSpread", "(IIII)V"⟩, 5), (⟨"LeastEdits$Search", "findLiterals", "(IIILLeastEdits$Edit;)Z"⟩, 5), (⟨"LeastEdits$Search", "findPartner", "(IIII)I"⟩, 5), (⟨"LeastEdits$Search", "findTwo", "()Z"⟩, 5), (⟨"LeastEdits$Search", "findPair", "(II)Z"⟩, 5), (⟨"LeastEdits$Taking", "takeForOne", "(I)V"⟩, 3), (⟨"LeastEdits$Taking", "offer", "(III)V"⟩, 3), (⟨"LeastEdits$Taking", "takeForTwo", "(II)V"⟩, 3), (⟨"LeastEditsModel", "put", "(III)I"⟩, 31), (⟨"LeastEditsModel", "work", "(I)V"⟩, 31)]
theorem lw_r1 : ∀ q ∈ lw_privs_1, lw_okq q := List.forall_mem_cons.mpr ⟨lw_p0, List.forall_mem_cons.mpr ⟨lw_p1, List.forall_mem_cons.mpr ⟨lw_p2, List.forall_mem_cons.mpr ⟨lw_p3, List.forall_mem_cons.mpr ⟨lw_p4, List.forall_mem_cons.mpr ⟨lw_p5, List.forall_mem_cons.mpr ⟨lw_p6, List.forall_mem_cons.mpr ⟨lw_p7, List.forall_mem_cons.mpr ⟨lw_p8, List.forall_mem_cons.mpr ⟨lw_p9, List.forall_mem_cons.mpr ⟨lw_p10, List.forall_mem_cons.mpr ⟨lw_p11, List.forall_mem_cons.mpr ⟨lw_p12, List.forall_mem_cons.mpr ⟨lw_p13, List.forall_mem_cons.mpr ⟨lw_p14, List.forall_mem_cons.mpr ⟨lw_p15, fun _ h => absurd h List.not_mem_nil⟩⟩⟩⟩⟩⟩⟩⟩⟩⟩⟩⟩⟩⟩⟩⟩
theorem lw_p16 : lw_okq (⟨"LeastEditsModel", "table", "(I)I"⟩, 31) := ⟨⟨by decide +kernel, by decide +kernel⟩, List.mem_of_getElem? (i := 663) (by decide +kernel), List.mem_of_getElem? (i := 784) (by decide +kernel), List.mem_of_getElem? (i := 785) (by decide +kernel)⟩
theorem lw_p17 : lw_okq (⟨"LeastEditsModel", "isLiteral", "(I)Z"⟩, 31) := ⟨⟨by decide +kernel, by decide +kernel⟩, List.mem_of_getElem? (i := 663) (by decide +kernel), List.mem_of_getElem? (i := 792) (by decide +kernel), List.mem_of_getElem? (i := 793) (by decide +kernel)⟩
theorem lw_p18 : lw_okq (⟨"LeastEditsModel", "isOf", "(II)Z"⟩, 31) := ⟨⟨by decide +kernel, by decide +kernel⟩, List.mem_of_getElem? (i := 663) (by decide +kernel), List.mem_of_getElem? (i := 799) (by decide +kernel), List.mem_of_getElem? (i := 800) (by decide +kernel)⟩
theorem lw_p19 : lw_okq (⟨"LeastEditsModel", "apart", "()I"⟩, 31) := ⟨⟨by decide +kernel, by decide +kernel⟩, List.mem_of_getElem? (i := 663) (by decide +kernel), List.mem_of_getElem? (i := 819) (by decide +kernel), List.mem_of_getElem? (i := 820) (by decide +kernel)⟩
theorem lw_p20 : lw_okq (⟨"LeastEditsModel", "isApart", "(I)Z"⟩, 31) := ⟨⟨by decide +kernel, by decide +kernel⟩, List.mem_of_getElem? (i := 663) (by decide +kernel), List.mem_of_getElem? (i := 823) (by decide +kernel), List.mem_of_getElem? (i := 824) (by decide +kernel)⟩
theorem lw_p21 : lw_okq (⟨"LeastEditsModel", "isOld", "(I)Z"⟩, 31) := ⟨⟨by decide +kernel, by decide +kernel⟩, List.mem_of_getElem? (i := 663) (by decide +kernel), List.mem_of_getElem? (i := 839) (by decide +kernel), List.mem_of_getElem? (i := 840) (by decide +kernel)⟩
theorem lw_p22 : lw_okq (⟨"LeastEditsModel", "search", "(I)Z"⟩, 31) := ⟨⟨by decide +kernel, by decide +kernel⟩, List.mem_of_getElem? (i := 663) (by decide +kernel), List.mem_of_getElem? (i := 860) (by decide +kernel), List.mem_of_getElem? (i := 861) (by decide +kernel)⟩
theorem lw_p23 : lw_okq (⟨"LeastEditsModel", "isFree", "(I)Z"⟩, 31) := ⟨⟨by decide +kernel, by decide +kernel⟩, List.mem_of_getElem? (i := 663) (by decide +kernel), List.mem_of_getElem? (i := 864) (by decide +kernel), List.mem_of_getElem? (i := 865) (by decide +kernel)⟩
theorem lw_p24 : lw_okq (⟨"LeastEditsModel", "tryAt", "(II)Z"⟩, 31) := ⟨⟨by decide +kernel, by decide +kernel⟩, List.mem_of_getElem? (i := 663) (by decide +kernel), List.mem_of_getElem? (i := 868) (by decide +kernel), List.mem_of_getElem? (i := 869) (by decide +kernel)⟩
theorem lw_p25 : lw_okq (⟨"LeastEditsModel", "mayBe", "(I)Z"⟩, 31) := ⟨⟨by decide +kernel, by decide +kernel⟩, List.mem_of_getElem? (i := 663) (by decide +kernel), List.mem_of_getElem? (i := 872) (by decide +kernel), List.mem_of_getElem? (i := 873) (by decide +kernel)⟩
theorem lw_p26 : lw_okq (⟨"LeastEditsModel", "workOlds", "(I)V"⟩, 31) := ⟨⟨by decide +kernel, by decide +kernel⟩, List.mem_of_getElem? (i := 663) (by decide +kernel), List.mem_of_getElem? (i := 876) (by decide +kernel), List.mem_of_getElem? (i := 877) (by decide +kernel)⟩
theorem lw_p27 : lw_okq (⟨"LeastEditsModel", "trySecond", "(I)Z"⟩, 31) := ⟨⟨by decide +kernel, by decide +kernel⟩, List.mem_of_getElem? (i := 663) (by decide +kernel), List.mem_of_getElem? (i := 880) (by decide +kernel), List.mem_of_getElem? (i := 881) (by decide +kernel)⟩
theorem lw_p28 : lw_okq (⟨"LeastEditsModel", "take", "()V"⟩, 31) := ⟨⟨by decide +kernel, by decide +kernel⟩, List.mem_of_getElem? (i := 663) (by decide +kernel), List.mem_of_getElem? (i := 884) (by decide +kernel), List.mem_of_getElem? (i := 885) (by decide +kernel)⟩
theorem lw_p29 : lw_okq (⟨"LeastEditsModel", "far", "(II)J"⟩, 31) := ⟨⟨by decide +kernel, by decide +kernel⟩, List.mem_of_getElem? (i := 663) (by decide +kernel), List.mem_of_getElem? (i := 888) (by decide +kernel), List.mem_of_getElem? (i := 889) (by decide +kernel)⟩
def lw_privs_2 : List (MethodName × Nat) := [(⟨"LeastEditsModel", "table", "(I)I"⟩, 31), (⟨"LeastEditsModel", "isLiteral", "(I)Z"⟩, 31), (⟨"LeastEditsModel", "isOf", "(II)Z"⟩, 31), (⟨"LeastEditsModel", "apart", "()I"⟩, 31), (⟨"LeastEditsModel", "isApart", "(I)Z"⟩, 31), (⟨"LeastEditsModel", "isOld", "(I)Z"⟩, 31), (⟨"LeastEditsModel", "search", "(I)Z"⟩, 31), (⟨"LeastEditsModel", "isFree", "(I)Z"⟩, 31), (⟨"LeastEditsModel", "tryAt", "(II)Z"⟩, 31), (⟨"LeastEditsModel", "mayBe", "(I)Z"⟩, 31), (⟨"LeastEditsModel", "workOlds", "(I)V"⟩, 31), (⟨"LeastEditsModel", "trySecond", "(I)Z"⟩, 31), (⟨"LeastEditsModel", "take", "()V"⟩, 31), (⟨"LeastEditsModel", "far", "(II)J"⟩, 31)]
theorem lw_r2 : ∀ q ∈ lw_privs_2, lw_okq q := List.forall_mem_cons.mpr ⟨lw_p16, List.forall_mem_cons.mpr ⟨lw_p17, List.forall_mem_cons.mpr ⟨lw_p18, List.forall_mem_cons.mpr ⟨lw_p19, List.forall_mem_cons.mpr ⟨lw_p20, List.forall_mem_cons.mpr ⟨lw_p21, List.forall_mem_cons.mpr ⟨lw_p22, List.forall_mem_cons.mpr ⟨lw_p23, List.forall_mem_cons.mpr ⟨lw_p24, List.forall_mem_cons.mpr ⟨lw_p25, List.forall_mem_cons.mpr ⟨lw_p26, List.forall_mem_cons.mpr ⟨lw_p27, List.forall_mem_cons.mpr ⟨lw_p28, List.forall_mem_cons.mpr ⟨lw_p29, fun _ h => absurd h List.not_mem_nil⟩⟩⟩⟩⟩⟩⟩⟩⟩⟩⟩⟩⟩⟩
def lw_privs : List (MethodName × Nat) := lw_privs_1 ++ (lw_privs_2)
def lw_tbl : List Cond := k2_sels lw_privs ++ tables_1
theorem lw_privs_ok : ∀ q ∈ lw_privs, lw_okq q := by
  show ∀ q ∈ lw_privs_1 ++ (lw_privs_2), lw_okq q
  exact List.forall_mem_append.mpr ⟨lw_r1, lw_r2⟩
end
section
/-! ===== BEGIN words of one list among another's, by their places ===== -/
theorem goodIn_r {big : List Cond} (ws : List Cond) (ps : List Nat) (hp : ws = ps.filterMap (fun i => big[i]?)) (h : ws.all goodWord = true) : GoodIn big ws := by
  intro w hw
  have h1 := List.all_eq_true.mp h w hw
  rw [hp] at hw
  obtain ⟨i, -, hi⟩ := List.mem_filterMap.mp hw
  have hm : w ∈ big := by first | exact List.mem_of_getElem? hi | exact List.getElem?_mem hi
  exact ⟨hm, good_of_word h1⟩
theorem goodIn_app {big a b : List Cond} (ha : GoodIn big a) (hb : GoodIn big b) : GoodIn big (a ++ b) := fun w h => (List.mem_append.mp h).elim (ha w) (hb w)
theorem goodIn_ca {big a b : List Cond} {c : Cond} (ha : GoodIn big (c :: a)) (hb : GoodIn big b) : GoodIn big (c :: (a ++ b)) := fun w h => (List.mem_cons.mp h).elim (fun e => ha w (List.mem_cons.mpr (Or.inl e))) (fun h => (List.mem_append.mp h).elim (fun h => ha w (List.mem_cons.mpr (Or.inr h))) (hb w))
theorem goodIn_sub {big ws : List Cond} (hm : ∀ w ∈ ws, w ∈ big) (h : ws.all goodWord = true) : GoodIn big ws := fun w hw => ⟨hm w hw, good_of_word (List.all_eq_true.mp h w hw)⟩
/-! ===== END ===== -/

/-! ===== BEGIN exceptions that leave a method, and their catching by the caller (launches without stack traces) ===== -/
section VXA
/-! The laws vx_back, vx_callV, vx_callS, vx_callSW, vx_throw0, vx_throwS follow proofs of the library, with one case more: JvmDerived/Free/Laws.lean (Back.of_free), Shelf42/LK1.lean (callV, callS), Shelf/KitTraced.lean (throwNew0V, throwNewS). -/
/-- where a method has thrown q: the class by its name, the cell, what was written, the world -/
def vx_T (XC : String → State → State → Prop) (st : State) (q : Addr) (t : State) (mc ms : Nat) (free : Addr → Prop) : Prop :=
  ∃ (E : String) (ce : Cell) (L : List Loc), XC E st t ∧ t.heap[q]? = some ce ∧ ce.vm = .none ∧ st.vm.findClass E = some ce.cls ∧ st.WarmedH t.vm ∧ st.sameButNew ({ t with vm := st.vm } : State) L mc ms ∧ ∀ z ∈ L, free z.base
def vx_Q (Qc : Array Value → State → Outcome → State → Prop) (XC : String → State → State → Prop) (mc ms : Nat) (free : Addr → Prop) : Array Value → State → Outcome → State → Prop := fun a st o t =>
  (Qc a st o t ∧ ∃ L, FrameEnd st o t L mc ms ∧ ∀ q ∈ L, free q.base) ∨ ∃ q, o = .threw q ∧ vx_T XC st q t mc ms free
/-- a callee that returns or throws -/
def vx_Met (l : Launch) (y : MethodName) (ws : List Cond) (rm : Room) (Pc : Array Value → State → Prop) (Qc : Array Value → State → Outcome → State → Prop) (XC : String → State → State → Prop) (mc ms : Nat) (free : Addr → Prop) : Prop :=
  MetFree l y (headSpec ws rm) Pc (fun _ _ _ _ _ => True) (vx_Q Qc XC mc ms free)
def vx_Post (XC : String → State → State → Prop) (mc ms : Nat) (free : Addr → Prop) : Pt → Array Value → Addr → Pt → Prop := fun A a q B =>
  ∃ (g : JFrame) (mk : MethodId) (t : State) (L : List Loc) (E : String) (ce : Cell), B.U.heap = t.heap ∧ B.U.vm = t.vm ∧ XC E (A.U.calling g mk a) t ∧ t.heap[q]? = some ce ∧ ce.vm = .none ∧ A.U.vm.findClass E = some ce.cls ∧ B.locs = A.locs ++ L ∧ (∀ z ∈ L, free z.base) ∧ B.cells = A.cells + mc ∧ B.slots = A.slots + ms
def vx_Back (l : Launch) (R : Room) (p : Program) (e : Env) (below : List Frame) (s : State) (sargs : Array Value) (y : MethodName) (len W9 : Nat)
    (Pre : Pt → Array Value → Prop) (Post : Pt → Array Value → Option Value → Pt → Prop) (PostX : Pt → Array Value → Addr → Pt → Prop) : Prop :=
  ∀ (m : MethodId) (meth : Method) (c : Code) (A : Pt) (g : JFrame) (ig : Instr) (mk : MethodId) (a : Array Value),
    Stand p l e R s m sargs below meth c A.U A.locs A.cells A.slots → g.method = m → g.locals.size = c.maxLocals → decode c.code g.pc = .ok (ig, len) →
    2 * g.monitorRoom + (g.stack.map fun v => v.category).sum ≤ W9 → A.U.methodNamed? y = some mk → Pre A a →
    (∃ (v : Option Value) (B : Pt), Stand p l e R s m sargs below meth c B.U B.locs B.cells B.slots ∧ Post A a v B ∧
      Steps p.tables e below (doInvoke e (A.U.setTop g) [] mk a).1 (B.U.setTop { g with pc := g.pc + len, stack := v.toList ++ g.stack })) ∨
    (∃ (q : Addr) (B : Pt), Stand p l e R s m sargs below meth c B.U B.locs B.cells B.slots ∧ PostX A a q B ∧
      Steps p.tables e below (doInvoke e (A.U.setTop g) [] mk a).1 ((B.U.setTop g).pushFrame (.throwing q)))
section Payer
variable {l : Launch} {R : Room} {p : Program} {e : Env} {below : List Frame} {s : State} {sargs : Array Value} {y : MethodName} {len W9 : Nat}
theorem vx_back {ws : List Cond} {rm : Room} {Pc : Array Value → State → Prop} {Qc : Array Value → State → Outcome → State → Prop} {XC : String → State → State → Prop} {mc ms : Nat} {free : Addr → Prop} {bytes : ByteArray} {maxL : Nat} {ret : Option FieldType}
    (hM : vx_Met l y ws rm Pc Qc XC mc ms free) (hblind : FrameBlind Pc) (hrc : rm.cells = mc) (hrs : rm.slots = ms)
    (hframes : rm.frames + 1 ≤ R.frames) (hlocals : W9 + (maxL + 11) + rm.locals ≤ R.locals)
    (hws : ∀ w ∈ ws, ∀ a' U, s.WarmedH U.vm → w.before a' U = true) (hcode : Cond.code y bytes maxL ret ∈ ws) (hinit : ∀ a' U, s.WarmedH U.vm → (Cond.initialized y.cls).before a' U = true) :
    vx_Back l R p e below s sargs y len W9 (PreOf R mc ms Pc) (PostOf Qc mc ms free) (vx_Post XC mc ms free) := by
  intro m meth c A g ig mk a X hg hsize hdg hW hn hp
  have h1 : (headSpec ws rm).pre.before a A.U = true := atoms_intro fun w hw => hws w hw _ _ X.warmed
  have h2 : (Cond.code y bytes maxL ret).before a A.U = true := hws _ hcode _ _ X.warmed
  have h3 : (Cond.initialized y.cls).before a A.U = true := hinit _ _ X.warmed
  have h4 : A.cells + (headSpec ws rm).room.cells ≤ R.cells := by rw [show (headSpec ws rm).room.cells = mc from hrc]; exact hp.1
  have h5 : A.slots + (headSpec ws rm).room.slots ≤ R.slots := by rw [show (headSpec ws rm).room.slots = ms from hrs]; exact hp.2.1
  have hPc : Pc a (A.U.calling g mk a) := hblind _ _ _ _ hp.2.2
  obtain ⟨U, Ls, c0, s0⟩ := A
  dsimp only [Pt.U, Pt.locs, Pt.cells, Pt.slots] at h1 h2 h3 h4 h5 X hn hPc ⊢
  obtain ⟨methY, cY, hmY, hcY, -, hlY, -, -, -, -⟩ := Cond.code_spec hn h2
  obtain ⟨kY, hkY, -⟩ := className_of_methodNamed hn
  have hinitY : kY.init = .initialized := Cond.initialized_spec (findClass_of_methodNamed hn) hkY h3
  have h : At U g.method c below := by rw [hg]; exact X.here
  have hlocals9 : W9 + (maxL + 11) + (headSpec ws rm).room.locals ≤ R.locals := hlocals
  have happ : (headSpec ws rm).appliesLoose y e.platform (U.calling g mk a) = true :=
    Spec.appliesLoose_calling (g := g) h hdg hn hkY hinitY
      (X.room_calling (g := g) (R' := (headSpec ws rm).room) hsize hmY hcY hframes (by rw [hlY]; omega) h4 h5) h1
  obtain ⟨mid, hmid⟩ := h.above
  have hfr : (U.setTop g).frames = (.java g :: mid) ++ below := by rw [State.frames_setTop' g h.top, hmid]; rfl
  obtain ⟨o, s₂, hsteps, -, hend, hq⟩ := Steps.callFree hM p X.admits X.cas X.clock (acts := []) hfr happ hPc trivial
  have hq' : vx_Q Qc XC mc ms free a (U.calling g mk a) o s₂ := hq
  rw [State.frames_setTop' g h.top] at hend
  obtain ⟨g₀, hg0⟩ := Option.isSome_iff_exists.mp h.top
  obtain ⟨r, hr⟩ := State.topJava?_eq_some.mp hg0
  have hr' : (({ U with heap := s₂.heap, slotsUsed := s₂.slotsUsed } : State).setVm s₂.vm).frames = .java g₀ :: r := hr
  rcases hq' with ⟨hqc, L, hfe, hL⟩ | ⟨q, rfl, E, ce, L, hx, hce, hcv, hcl, hW₂, hsm, hL⟩
  · obtain ⟨⟨v, rfl⟩, hW₂, e2, q2, q3, q4, q5, q6⟩ := id hfe
    have e3 : s₂ = ({ (U.calling g mk a).setFrames s₂.frames with heap := s₂.heap, slotsUsed := s₂.slotsUsed } : State).setVm s₂.vm := by
      have : s₂ = ({ s₂ with vm := (U.calling g mk a).vm } : State).setVm s₂.vm := rfl
      rw [e2] at this
      exact this
    obtain ⟨c₂, i₂, len₂, hc₂, hd₂, hf₂⟩ := hend
    have hW' : U.WarmedH s₂.vm := hW₂
    have hcc : c₂ = c := by
      have h1 : s₂.code? g.method = U.code? g.method := by
        rw [State.code?_eq, State.code?_eq, hW'.alike.method?]
      exact Option.some.inj (hc₂.symm.trans (h1.trans h.code))
    subst hcc
    have hlen : len₂ = len := by rw [hdg] at hd₂; cases hd₂; rfl
    subst hlen
    have hs₂ : s₂ = (({ U with heap := s₂.heap, slotsUsed := s₂.slotsUsed } : State).setVm s₂.vm).setTop { g with pc := g.pc + len₂, stack := v.toList ++ g.stack } := by
      refine e3.trans ?_
      rw [hf₂, State.calling_eq h.top, State.setFrames_setFrames, State.setTop_of_frames _ hr', hr]
      rfl
    have hsame : U.sameButNew ({ U with heap := s₂.heap, slotsUsed := s₂.slotsUsed } : State) L mc ms := by
      refine ⟨?_, q2, q3, q4, q5, q6⟩
      obtain ⟨t, ht, -⟩ := State.frames_cons hr
      show ({ U with heap := s₂.heap, slotsUsed := s₂.slotsUsed } : State) = { U.setFrames U.frames with heap := s₂.heap, slotsUsed := s₂.slotsUsed }
      rw [State.setFrames_self ht]
    subst hg
    refine Or.inl ⟨v, ⟨(({ U with heap := s₂.heap, slotsUsed := s₂.slotsUsed } : State).setVm s₂.vm), Ls ++ L, c0 + mc, s0 + ms⟩,
      ⟨X.admits, X.cas, X.clock, X.frames, X.room, X.hears, X.method, X.code, (X.here.setHeapUsed s₂.heap s₂.slotsUsed).setVm hW'.alike, X.tail, State.WarmedH.trans X.warmed hW', X.limits, X.bytes, X.same.trans (hsame.setVm s.vm)⟩,
      ⟨g, mk, s₂, L, rfl, rfl, hqc, rfl, hL, rfl, rfl⟩, ?_⟩
    show Steps p.tables e below _ ((({ U with heap := s₂.heap, slotsUsed := s₂.slotsUsed } : State).setVm s₂.vm).setTop { g with pc := g.pc + len₂, stack := v.toList ++ g.stack })
    rw [← hs₂]
    exact hsteps
  · obtain ⟨e2, q2, q3, q4, q5, q6⟩ := id hsm
    have e3 : s₂ = ({ (U.calling g mk a).setFrames s₂.frames with heap := s₂.heap, slotsUsed := s₂.slotsUsed } : State).setVm s₂.vm := by
      have : s₂ = ({ s₂ with vm := (U.calling g mk a).vm } : State).setVm s₂.vm := rfl
      rw [e2] at this
      exact this
    have hf₂ : s₂.frames = .throwing q :: .java g :: U.frames.tail := hend
    have hW' : U.WarmedH s₂.vm := hW₂
    have hs₂ : s₂ = ((({ U with heap := s₂.heap, slotsUsed := s₂.slotsUsed } : State).setVm s₂.vm).setTop g).pushFrame (.throwing q) := by
      refine e3.trans ?_
      rw [hf₂, State.calling_eq h.top, State.setFrames_setFrames, State.pushFrame, State.frames_setTop _ hr', State.setTop_of_frames _ hr', State.setFrames_setFrames, hr]
      rfl
    have hsame : U.sameButNew ({ U with heap := s₂.heap, slotsUsed := s₂.slotsUsed } : State) L mc ms := by
      refine ⟨?_, q2, q3, q4, q5, q6⟩
      obtain ⟨t, ht, -⟩ := State.frames_cons hr
      show ({ U with heap := s₂.heap, slotsUsed := s₂.slotsUsed } : State) = { U.setFrames U.frames with heap := s₂.heap, slotsUsed := s₂.slotsUsed }
      rw [State.setFrames_self ht]
    subst hg
    refine Or.inr ⟨q, ⟨(({ U with heap := s₂.heap, slotsUsed := s₂.slotsUsed } : State).setVm s₂.vm), Ls ++ L, c0 + mc, s0 + ms⟩,
      ⟨X.admits, X.cas, X.clock, X.frames, X.room, X.hears, X.method, X.code, (X.here.setHeapUsed s₂.heap s₂.slotsUsed).setVm hW'.alike, X.tail, State.WarmedH.trans X.warmed hW', X.limits, X.bytes, X.same.trans (hsame.setVm s.vm)⟩,
      ⟨g, mk, s₂, L, E, ce, rfl, rfl, hx, hce, hcv, hcl, rfl, hL, rfl, rfl⟩, ?_⟩
    show Steps p.tables e below _ (((({ U with heap := s₂.heap, slotsUsed := s₂.slotsUsed } : State).setVm s₂.vm).setTop g).pushFrame (.throwing q))
    rw [← hs₂]
    exact hsteps
end Payer
section Calls
variable {p : Program} {l : Launch} {e : Env} {R : Room} {s : State} {m : MethodId} {args : Array Value} {below : List Frame} {meth : Method} {c : Code} {T : State} {locs : List Loc} {cells slots : Nat}
theorem vx_callV (X : Stand p l e R s m args below meth c T locs cells slots) (hexec : p.tables.exec = Jvm.exec) {own C : String} {index : Nat} {y : MethodName} {bytes : ByteArray} {maxL : Nat} {ret : Option FieldType}
    (hown : s.vm.findClass own = some m.cls) (hlink : (Cond.methodLink own index y).before args s = true) (hinst : (Cond.instanceMethod y).before args s = true) (hsel : (Cond.selects C y y).before args s = true)
    (hcode : (Cond.code y bytes maxL ret).before args s = true) (hy : y.cls ≠ "java/lang/invoke/MethodHandle" ∧ y.cls ≠ "java/lang/invoke/VarHandle")
    {W9 : Nat} {Pre : Pt → Array Value → Prop} {Post : Pt → Array Value → Option Value → Pt → Prop} {PostX : Pt → Array Value → Addr → Pt → Prop} (hK : vx_Back l R p e below s args y 3 W9 Pre Post PostX)
    {b : Addr} {cellB : Cell} (hcell : T.heap[b]? = some cellB) (hobj : cellB.vm.isStatics = false) (hcls : s.vm.findClass C = some cellB.cls)
    {g : JFrame} (hg : g.method = m) (hsize : g.locals.size = c.maxLocals) {argsL rest : List Value} (hlen : ∀ sig, parseMethodDescriptor y.desc = some sig → argsL.length = sig.parameters.length)
    (hstack : g.stack = argsL.reverse ++ .ref b :: rest) (hW : 2 * g.monitorRoom + (rest.map fun v => v.category).sum ≤ W9) (hdg : decode c.code g.pc = .ok (.invokevirtual index, 3))
    (hpre : ∀ vm₁, s.WarmedH vm₁ → Pre ⟨T.setVm vm₁, locs, cells, slots⟩ (Value.ref b :: argsL).toArray) :
    (∃ (v : Option Value) (vm₁ : Vm) (B : Pt), s.WarmedH vm₁ ∧ Stand p l e R s m args below meth c B.U B.locs B.cells B.slots ∧ Post ⟨T.setVm vm₁, locs, cells, slots⟩ (Value.ref b :: argsL).toArray v B ∧
      ∀ target, Steps p.tables e below (B.U.setTop { g with pc := g.pc + 3, stack := v.toList ++ rest }) target → Steps p.tables e below (T.setTop g) target) ∨
    (∃ (q : Addr) (vm₁ : Vm) (B : Pt), s.WarmedH vm₁ ∧ Stand p l e R s m args below meth c B.U B.locs B.cells B.slots ∧ PostX ⟨T.setVm vm₁, locs, cells, slots⟩ (Value.ref b :: argsL).toArray q B ∧
      Steps p.tables e below (T.setTop g) ((B.U.setTop { g with stack := rest }).pushFrame (.throwing q))) := by
  obtain ⟨mk, methM, hnamed, hmethM, hstM, habM⟩ := Cond.instanceMethod_spec hinst
  obtain ⟨methM', cM, hmethM', -, -, -, -, -, -, hsigM⟩ := Cond.code_spec hnamed hcode
  cases hmethM.symm.trans hmethM'
  obtain ⟨c2, r2, m2, q1, q2, q3, q4, kP, hkP, hkPi⟩ := Cond.selects_spec hsel
  cases hcls.symm.trans q1
  cases (State.methodFound?_of_named hnamed hy).symm.trans q2
  cases hnamed.symm.trans q3
  have hselP : selectMethod e.platform s.vm cellB.cls mk = .method mk := by rw [Launch.admits_selectMethod X.admits]; exact q4
  obtain ⟨vm₁, X₁, hstep₁⟩ := X.invokevirtual hexec hown hlink hnamed hmethM hstM hkP hkPi hy (a := b) (cell := cellB) hcell
    (fun z h => by rw [h] at hobj; cases hobj) hselP hmethM habM hkP hkPi (g := g) hg (argsL := argsL) (rest := rest) (hlen _ hsigM) hstack hdg
  rcases hK m meth c ⟨T.setVm vm₁, locs, cells, slots⟩ { g with stack := rest } (.invokevirtual index) mk (Value.ref b :: argsL).toArray X₁ hg hsize hdg hW (X₁.named hnamed) (hpre vm₁ X₁.warmed) with ⟨v, B, X', hpost, hsteps⟩ | ⟨q, B, X', hpost, hsteps⟩
  · exact Or.inl ⟨v, vm₁, B, X₁.warmed, X', hpost, fun target h => hstep₁ _ fun acts => by rw [doInvoke_state]; exact hsteps.trans h⟩
  · exact Or.inr ⟨q, vm₁, B, X₁.warmed, X', hpost, hstep₁ _ fun acts => by rw [doInvoke_state]; exact hsteps⟩
theorem vx_callS (X : Stand p l e R s m args below meth c T locs cells slots) (hexec : p.tables.exec = Jvm.exec) {own : String} {index : Nat} {y : MethodName} {bytes : ByteArray} {maxL : Nat} {ret : Option FieldType}
    (hown : s.vm.findClass own = some m.cls) (hlink : (Cond.methodLink own index y).before args s = true) (hstat : (Cond.static y).before args s = true) (hinit : (Cond.initialized y.cls).before args s = true)
    (hcode : (Cond.code y bytes maxL ret).before args s = true) (hy : y.cls ≠ "java/lang/invoke/MethodHandle" ∧ y.cls ≠ "java/lang/invoke/VarHandle")
    {W9 : Nat} {Pre : Pt → Array Value → Prop} {Post : Pt → Array Value → Option Value → Pt → Prop} {PostX : Pt → Array Value → Addr → Pt → Prop} (hK : vx_Back l R p e below s args y 3 W9 Pre Post PostX)
    {g : JFrame} (hg : g.method = m) (hsize : g.locals.size = c.maxLocals) {argsL rest : List Value} (hlen : ∀ sig, parseMethodDescriptor y.desc = some sig → argsL.length = sig.parameters.length)
    (hstack : g.stack = argsL.reverse ++ rest) (hW : 2 * g.monitorRoom + (rest.map fun v => v.category).sum ≤ W9) (hdg : decode c.code g.pc = .ok (.invokestatic index, 3))
    (hpre : ∀ vm₁, s.WarmedH vm₁ → Pre ⟨T.setVm vm₁, locs, cells, slots⟩ argsL.toArray) :
    (∃ (v : Option Value) (vm₁ : Vm) (B : Pt), s.WarmedH vm₁ ∧ Stand p l e R s m args below meth c B.U B.locs B.cells B.slots ∧ Post ⟨T.setVm vm₁, locs, cells, slots⟩ argsL.toArray v B ∧
      ∀ target, Steps p.tables e below (B.U.setTop { g with pc := g.pc + 3, stack := v.toList ++ rest }) target → Steps p.tables e below (T.setTop g) target) ∨
    (∃ (q : Addr) (vm₁ : Vm) (B : Pt), s.WarmedH vm₁ ∧ Stand p l e R s m args below meth c B.U B.locs B.cells B.slots ∧ PostX ⟨T.setVm vm₁, locs, cells, slots⟩ argsL.toArray q B ∧
      Steps p.tables e below (T.setTop g) ((B.U.setTop { g with stack := rest }).pushFrame (.throwing q))) := by
  obtain ⟨mk, hnamed⟩ := Cond.code_named hcode
  obtain ⟨methM, cM, hmethM, -, -, -, -, -, -, hsigM⟩ := Cond.code_spec hnamed hcode
  have hstatic : methM.isStatic = true := Cond.static_spec hnamed hmethM hstat
  obtain ⟨kP, hkP, -⟩ := className_of_methodNamed hnamed
  have hinitP : kP.init = .initialized := Cond.initialized_spec (findClass_of_methodNamed hnamed) hkP hinit
  obtain ⟨vm₁, X₁, hstep₁⟩ := X.invokestatic hexec hown hlink hnamed hmethM hstatic hkP hinitP hy (g := g) hg (argsL := argsL) (rest := rest) (hlen _ hsigM) hstack hdg
  rcases hK m meth c ⟨T.setVm vm₁, locs, cells, slots⟩ { g with stack := rest } (.invokestatic index) mk argsL.toArray X₁ hg hsize hdg hW (X₁.named hnamed) (hpre vm₁ X₁.warmed) with ⟨v, B, X', hpost, hsteps⟩ | ⟨q, B, X', hpost, hsteps⟩
  · exact Or.inl ⟨v, vm₁, B, X₁.warmed, X', hpost, fun target h => hstep₁ _ fun acts => by rw [doInvoke_state]; exact hsteps.trans h⟩
  · exact Or.inr ⟨q, vm₁, B, X₁.warmed, X', hpost, hstep₁ _ fun acts => by rw [doInvoke_state]; exact hsteps⟩
end Calls
theorem vx_cls {s : State} {T : State} {vm₁ : Vm} {E : String} {k : ClassId} (hW : s.WarmedH vm₁) (h : (T.setVm vm₁).vm.findClass E = some k) : s.vm.findClass E = some k := by
  have h1 : vm₁.findClass E = some k := h
  rw [hW.alike.findClass] at h1
  exact h1
/-- the method's frame g, with q thrown over it -/
def vx_W (p : Program) (l : Launch) (e : Env) (R : Room) (s : State) (m : MethodId) (args : Array Value) (below : List Frame) (meth : Method) (c : Code) (H : Heap) (locs : List Loc) (cells slots : Nat) (Q : State → Prop) (g : JFrame) (q : Addr) : Prop :=
  ∀ T : State, T.heap = H → Stand p l e R s m args below meth c T locs cells slots → ∃ t, Steps p.tables e below ((T.setTop g).pushFrame (.throwing q)) t ∧ Q t
def vx_Run (p : Program) (l : Launch) (e : Env) (R : Room) (s : State) (m : MethodId) (args : Array Value) (below : List Frame) (meth : Method) (c : Code) (H : Heap) (locs : List Loc) (cells slots mc ms : Nat) (g : JFrame) (rest : List Value) (Qa : State → Outcome → State → Prop) (XC : String → State → State → Prop) (free : Addr → Prop) : Prop :=
  ∀ T : State, T.heap = H → Stand p l e R s m args below meth c T locs cells slots →
    (∃ (v : Option Value) (st₀ t T' : State) (L : List Loc), st₀.heap = H ∧ Stand p l e R s m args below meth c T' (locs ++ L) (cells + mc) (slots + ms) ∧ (∀ q ∈ L, free q.base) ∧ T'.heap = t.heap ∧ T'.vm = t.vm ∧ Qa st₀ (.returned v) t ∧
      Goes p e below T g T' { g with pc := g.pc + 3, stack := v.toList ++ rest }) ∨
    (∃ (q : Addr) (st₀ t T' : State) (L : List Loc) (E : String) (ce : Cell), st₀.heap = H ∧ Stand p l e R s m args below meth c T' (locs ++ L) (cells + mc) (slots + ms) ∧ (∀ z ∈ L, free z.base) ∧ T'.heap = t.heap ∧ T'.vm = t.vm ∧ XC E st₀ t ∧ t.heap[q]? = some ce ∧ ce.vm = .none ∧ s.vm.findClass E = some ce.cls ∧
      Steps p.tables e below (T.setTop g) ((T'.setTop { g with stack := rest }).pushFrame (.throwing q)))
def vx_X {S : Type} (px : S → Prop) (B : String → S → State → Prop) (A : Nat → Prop) : String → State → State → Prop := fun E st t => ∃ u : S, px u ∧ B E u t ∧ va_F A st t
section Runs
variable {p : Program} {l : Launch} {e : Env} {R : Room} {s : State} {m : MethodId} {args : Array Value} {below : List Frame} {meth : Method} {c : Code} {H : Heap} {locs : List Loc} {cells slots : Nat}
variable {y : MethodName} {bytes cc : ByteArray} {maxL nL mc ms n index : Nat} {ret : Option FieldType} {ws : List Cond} {rm : Room} {Pc : Array Value → State → Prop} {Qc : Array Value → State → Outcome → State → Prop} {XC : String → State → State → Prop} {free : Addr → Prop} {Ts : List Cond} {own C : String} {b : Addr} {As rest : List Value} {g : JFrame}
theorem vx_callBack (cb : CallB R s args own index y bytes maxL ret ws rm mc ms n) (hM : vx_Met l y ws rm Pc Qc XC mc ms free) (hbl : FrameBlind Pc) : vx_Back l R p e below s args y 3 8 (PreOf R mc ms Pc) (PostOf Qc mc ms free) (vx_Post XC mc ms free) := by
  obtain ⟨hrc, hrs, hfr, hlo, hws, hcw, -, hini, -⟩ := cb
  exact vx_back (bytes := bytes) (maxL := maxL) (ret := ret) hM hbl hrc hrs hfr hlo hws hcw (fun a' U hW => word_at hW (Or.inl (by first | rfl | simp [Cond.onTables, Cond.keeps, Cond.steady])) hini)
theorem vx_runV (S : CallFix p m c cc nL s args Ts own) (hM : vx_Met l y ws rm Pc Qc XC mc ms free) (cw : CallW R s args own C index y bytes maxL ret ws rm mc ms n) (hp : PreV s H C b Pc As)
    (hg : g.method = m) (hn : As.length = n) (hsize : g.locals.size = nL) (hstack : g.stack = As.reverse ++ .ref b :: rest) (hW : 2 * g.monitorRoom + (rest.map fun v => v.category).sum ≤ 8) (hdg : decode cc g.pc = .ok (.invokevirtual index, 3)) (hf : cells + mc ≤ R.cells ∧ slots + ms ≤ R.slots) :
    vx_Run p l e R s m args below meth c H locs cells slots mc ms g rest (Qc (Value.ref b :: As).toArray) XC free := by
  have hK : vx_Back l R p e below s args y 3 8 (PreOf R mc ms Pc) (PostOf Qc mc ms free) (vx_Post XC mc ms free) := vx_callBack cw.1 hM hp.1
  obtain ⟨⟨-, -, -, -, -, -, hcode, -, hy, hlen, hl⟩, hin, hse⟩ := cw
  obtain ⟨hx, hb, hml, ho, -⟩ := S
  obtain ⟨-, ⟨cellB, hcB, hoB, hclB⟩, hPc⟩ := hp
  intro T hT X
  rcases vx_callV X hx (C := C) (bytes := bytes) (maxL := maxL) (ret := ret) ho hl hin hse hcode hy hK (by rw [hT]; exact hcB) hoB hclB hg (hsize.trans hml.symm) (argsL := As) (rest := rest) (fun sig h => hn.trans (hlen sig h)) hstack hW (by rw [hb]; exact hdg)
    (fun vm₁ hW₁ => ⟨hf.1, hf.2, hPc (T.setVm vm₁) hT hW₁⟩) with ⟨v, vm₁, ⟨U', l2, c2, s2⟩, hW₁, X', ⟨g', mk, t, L, e1, e2, hq, h1, hL, h2, h3⟩, st⟩ | ⟨q, vm₁, ⟨U', l2, c2, s2⟩, hW₁, X', ⟨g', mk, t, L, E, ce, e1, e2, hq, hce, hcv, hcl, h1, hL, h2, h3⟩, st⟩
  · dsimp only [Pt.U, Pt.locs, Pt.cells, Pt.slots] at X' e1 e2 h1 h2 h3 st
    subst h1; subst h2; subst h3
    exact Or.inl ⟨v, (T.setVm vm₁).calling g' mk (Value.ref b :: As).toArray, t, U', L, hT, X', hL, e1, e2, hq, st⟩
  · dsimp only [Pt.U, Pt.locs, Pt.cells, Pt.slots] at X' e1 e2 h1 h2 h3 st hcl
    subst h1; subst h2; subst h3
    exact Or.inr ⟨q, (T.setVm vm₁).calling g' mk (Value.ref b :: As).toArray, t, U', L, E, ce, hT, X', hL, e1, e2, hq, hce, hcv, vx_cls hW₁ hcl, st⟩
theorem vx_runS (S : CallFix p m c cc nL s args Ts own) (hM : vx_Met l y ws rm Pc Qc XC mc ms free) (cw : CallB R s args own index y bytes maxL ret ws rm mc ms n ∧ (Cond.static y).before args s = true) (hp : PreS s H Pc As)
    (hg : g.method = m) (hn : As.length = n) (hsize : g.locals.size = nL) (hstack : g.stack = As.reverse ++ rest) (hW : 2 * g.monitorRoom + (rest.map fun v => v.category).sum ≤ 8) (hdg : decode cc g.pc = .ok (.invokestatic index, 3)) (hf : cells + mc ≤ R.cells ∧ slots + ms ≤ R.slots) :
    vx_Run p l e R s m args below meth c H locs cells slots mc ms g rest (Qc As.toArray) XC free := by
  have hK : vx_Back l R p e below s args y 3 8 (PreOf R mc ms Pc) (PostOf Qc mc ms free) (vx_Post XC mc ms free) := vx_callBack cw.1 hM hp.1
  obtain ⟨⟨-, -, -, -, -, -, hcode, hini, hy, hlen, hl⟩, hstt⟩ := cw
  obtain ⟨hx, hb, hml, ho, -⟩ := S
  intro T hT X
  rcases vx_callS X hx (bytes := bytes) (maxL := maxL) (ret := ret) ho hl hstt hini hcode hy hK hg (hsize.trans hml.symm) (argsL := As) (rest := rest) (fun sig h => hn.trans (hlen sig h)) hstack hW (by rw [hb]; exact hdg)
    (fun vm₁ hW₁ => ⟨hf.1, hf.2, hp.2 (T.setVm vm₁) hT hW₁⟩) with ⟨v, vm₁, ⟨U', l2, c2, s2⟩, hW₁, X', ⟨g', mk, t, L, e1, e2, hq, h1, hL, h2, h3⟩, st⟩ | ⟨q, vm₁, ⟨U', l2, c2, s2⟩, hW₁, X', ⟨g', mk, t, L, E, ce, e1, e2, hq, hce, hcv, hcl, h1, hL, h2, h3⟩, st⟩
  · dsimp only [Pt.U, Pt.locs, Pt.cells, Pt.slots] at X' e1 e2 h1 h2 h3 st
    subst h1; subst h2; subst h3
    exact Or.inl ⟨v, (T.setVm vm₁).calling g' mk As.toArray, t, U', L, hT, X', hL, e1, e2, hq, st⟩
  · dsimp only [Pt.U, Pt.locs, Pt.cells, Pt.slots] at X' e1 e2 h1 h2 h3 st hcl
    subst h1; subst h2; subst h3
    exact Or.inr ⟨q, (T.setVm vm₁).calling g' mk As.toArray, t, U', L, E, ce, hT, X', hL, e1, e2, hq, hce, hcv, vx_cls hW₁ hcl, st⟩
end Runs
section Rows
variable {p : Program} {l : Launch} {e : Env} {R : Room} {s : State} {m : MethodId} {args : Array Value} {below : List Frame} {meth : Method} {c : Code} {H : Heap} {locs : List Loc} {cells slots : Nat} {Q : State → Prop}
variable {mc ms : Nat} {free : Addr → Prop} {A0 A1 : Nat → Prop} {H0 : Heap} {a : Array Value} {pc : Nat} {ls : Array Slot} {st0 rest : List Value}
theorem vx_keep {st₀ t T' : State} {L : List Loc} (h0 : st₀.heap = H) (e1 : T'.heap = t.heap) (hS : va_S A0 H0 H locs) (hA : ∀ q, q < H.size → A1 q → A0 q) (hf : ∀ q, free q → A0 q) (hL : ∀ q ∈ L, free q.base) (hF : va_F A1 st₀ t) :
    H.size ≤ T'.heap.size ∧ (∀ q : Nat, q < H.size → ¬ A1 q → T'.heap[q]? = H[q]?) ∧ va_S A0 H0 T'.heap (locs ++ L) := by
  obtain ⟨hz, hk⟩ := hF
  rw [h0] at hz hk
  exact ⟨by rw [e1]; exact hz, fun q h1 h2 => by rw [e1]; exact hk q h1 h2,
    ⟨Nat.le_trans hS.1 (by rw [e1]; exact hz), fun q h1 h2 => by rw [e1, hk q (Nat.lt_of_lt_of_le h1 hS.1) (fun z => h2 (hA q (Nat.lt_of_lt_of_le h1 hS.1) z))]; exact hS.2.1 q h1 h2, fun q hq => by
      rcases List.mem_append.mp hq with h | h
      · exact hS.2.2 q h
      · exact hf _ (hL q h)⟩⟩
theorem vx_calli {S SX : Type} {post : Int32 → S → Prop} {px : SX → Prop} {B : S → State → Prop} {BX : String → SX → State → Prop} {AX : Nat → Prop} (hr : vx_Run p l e R s m args below meth c H locs cells slots mc ms (F0 m pc ls st0) rest (va_Qi post B A1 a) (vx_X px BX AX) free) (hS : va_S A0 H0 H locs) (hA : ∀ q, q < H.size → A1 q → A0 q) (hf : ∀ q, free q → A0 q) (hAX : ∀ q, q < H.size → AX q → A0 q)
    (kx : ∀ (E : String) (ce : Cell) (q9 : Addr) (u : SX) (t : State) (H1 : Heap) (locs1 : List Loc), t.heap = H1 → s.vm.Alike t.vm → px u → BX E u t → H.size ≤ H1.size → (∀ q : Nat, q < H.size → ¬ AX q → H1[q]? = H[q]?) → va_S A0 H0 H1 locs1 → H1[q9]? = some ce → ce.vm = .none → s.vm.findClass E = some ce.cls → vx_W p l e R s m args below meth c H1 locs1 (cells + mc) (slots + ms) Q (F0 m pc ls rest) q9)
    (kk : ∀ (r : Int32) (u : S) (t : State) (H1 : Heap) (locs1 : List Loc), t.heap = H1 → s.vm.Alike t.vm → post r u → B u t → H.size ≤ H1.size → (∀ q : Nat, q < H.size → ¬ A1 q → H1[q]? = H[q]?) → va_S A0 H0 H1 locs1 → W p l e R s m args below meth c H1 locs1 (cells + mc) (slots + ms) Q (F0 m (pc + 3) ls (.int r :: rest))) : W p l e R s m args below meth c H locs cells slots Q (F0 m pc ls st0) := by
  intro T hT X
  rcases hr T hT X with ⟨v, st₀, t, T', L, h0, X', hL, e1, e2, ⟨⟨r, u, hv, hp, hb⟩, hF⟩, st⟩ | ⟨q, st₀, t, T', L, E, ce, h0, X', hL, e1, e2, ⟨u, hp, hb, hF⟩, hce, hcv, hcl, st⟩
  · cases hv
    obtain ⟨k1, k2, k3⟩ := vx_keep h0 e1 hS hA hf hL hF
    obtain ⟨t2, a1, b1⟩ := kk r u t T'.heap (locs ++ L) e1.symm (by rw [← e2]; exact X'.warmed.alike) hp hb k1 k2 k3 T' rfl X'
    exact ⟨t2, st t2 a1, b1⟩
  · obtain ⟨k1, k2, k3⟩ := vx_keep h0 e1 hS hAX hf hL hF
    obtain ⟨t2, a1, b1⟩ := kx E ce q u t T'.heap (locs ++ L) e1.symm (by rw [← e2]; exact X'.warmed.alike) hp hb k1 k2 k3 (by rw [e1]; exact hce) hcv hcl T' rfl X'
    exact ⟨t2, st.trans a1, b1⟩
theorem vx_calll {S SX : Type} {post : Int64 → S → Prop} {px : SX → Prop} {B : S → State → Prop} {BX : String → SX → State → Prop} {AX : Nat → Prop} (hr : vx_Run p l e R s m args below meth c H locs cells slots mc ms (F0 m pc ls st0) rest (va_Ql post B A1 a) (vx_X px BX AX) free) (hS : va_S A0 H0 H locs) (hA : ∀ q, q < H.size → A1 q → A0 q) (hf : ∀ q, free q → A0 q) (hAX : ∀ q, q < H.size → AX q → A0 q)
    (kx : ∀ (E : String) (ce : Cell) (q9 : Addr) (u : SX) (t : State) (H1 : Heap) (locs1 : List Loc), t.heap = H1 → s.vm.Alike t.vm → px u → BX E u t → H.size ≤ H1.size → (∀ q : Nat, q < H.size → ¬ AX q → H1[q]? = H[q]?) → va_S A0 H0 H1 locs1 → H1[q9]? = some ce → ce.vm = .none → s.vm.findClass E = some ce.cls → vx_W p l e R s m args below meth c H1 locs1 (cells + mc) (slots + ms) Q (F0 m pc ls rest) q9)
    (kk : ∀ (r : Int64) (u : S) (t : State) (H1 : Heap) (locs1 : List Loc), t.heap = H1 → s.vm.Alike t.vm → post r u → B u t → H.size ≤ H1.size → (∀ q : Nat, q < H.size → ¬ A1 q → H1[q]? = H[q]?) → va_S A0 H0 H1 locs1 → W p l e R s m args below meth c H1 locs1 (cells + mc) (slots + ms) Q (F0 m (pc + 3) ls (.long r :: rest))) : W p l e R s m args below meth c H locs cells slots Q (F0 m pc ls st0) := by
  intro T hT X
  rcases hr T hT X with ⟨v, st₀, t, T', L, h0, X', hL, e1, e2, ⟨⟨r, u, hv, hp, hb⟩, hF⟩, st⟩ | ⟨q, st₀, t, T', L, E, ce, h0, X', hL, e1, e2, ⟨u, hp, hb, hF⟩, hce, hcv, hcl, st⟩
  · cases hv
    obtain ⟨k1, k2, k3⟩ := vx_keep h0 e1 hS hA hf hL hF
    obtain ⟨t2, a1, b1⟩ := kk r u t T'.heap (locs ++ L) e1.symm (by rw [← e2]; exact X'.warmed.alike) hp hb k1 k2 k3 T' rfl X'
    exact ⟨t2, st t2 a1, b1⟩
  · obtain ⟨k1, k2, k3⟩ := vx_keep h0 e1 hS hAX hf hL hF
    obtain ⟨t2, a1, b1⟩ := kx E ce q u t T'.heap (locs ++ L) e1.symm (by rw [← e2]; exact X'.warmed.alike) hp hb k1 k2 k3 (by rw [e1]; exact hce) hcv hcl T' rfl X'
    exact ⟨t2, st.trans a1, b1⟩
theorem vx_callf {S SX : Type} {post : UInt32 → S → Prop} {px : SX → Prop} {B : S → State → Prop} {BX : String → SX → State → Prop} {AX : Nat → Prop} (hr : vx_Run p l e R s m args below meth c H locs cells slots mc ms (F0 m pc ls st0) rest (va_Qf post B A1 a) (vx_X px BX AX) free) (hS : va_S A0 H0 H locs) (hA : ∀ q, q < H.size → A1 q → A0 q) (hf : ∀ q, free q → A0 q) (hAX : ∀ q, q < H.size → AX q → A0 q)
    (kx : ∀ (E : String) (ce : Cell) (q9 : Addr) (u : SX) (t : State) (H1 : Heap) (locs1 : List Loc), t.heap = H1 → s.vm.Alike t.vm → px u → BX E u t → H.size ≤ H1.size → (∀ q : Nat, q < H.size → ¬ AX q → H1[q]? = H[q]?) → va_S A0 H0 H1 locs1 → H1[q9]? = some ce → ce.vm = .none → s.vm.findClass E = some ce.cls → vx_W p l e R s m args below meth c H1 locs1 (cells + mc) (slots + ms) Q (F0 m pc ls rest) q9)
    (kk : ∀ (r : UInt32) (u : S) (t : State) (H1 : Heap) (locs1 : List Loc), t.heap = H1 → s.vm.Alike t.vm → post r u → B u t → H.size ≤ H1.size → (∀ q : Nat, q < H.size → ¬ A1 q → H1[q]? = H[q]?) → va_S A0 H0 H1 locs1 → W p l e R s m args below meth c H1 locs1 (cells + mc) (slots + ms) Q (F0 m (pc + 3) ls (.float r :: rest))) : W p l e R s m args below meth c H locs cells slots Q (F0 m pc ls st0) := by
  intro T hT X
  rcases hr T hT X with ⟨v, st₀, t, T', L, h0, X', hL, e1, e2, ⟨⟨r, u, hv, hp, hb⟩, hF⟩, st⟩ | ⟨q, st₀, t, T', L, E, ce, h0, X', hL, e1, e2, ⟨u, hp, hb, hF⟩, hce, hcv, hcl, st⟩
  · cases hv
    obtain ⟨k1, k2, k3⟩ := vx_keep h0 e1 hS hA hf hL hF
    obtain ⟨t2, a1, b1⟩ := kk r u t T'.heap (locs ++ L) e1.symm (by rw [← e2]; exact X'.warmed.alike) hp hb k1 k2 k3 T' rfl X'
    exact ⟨t2, st t2 a1, b1⟩
  · obtain ⟨k1, k2, k3⟩ := vx_keep h0 e1 hS hAX hf hL hF
    obtain ⟨t2, a1, b1⟩ := kx E ce q u t T'.heap (locs ++ L) e1.symm (by rw [← e2]; exact X'.warmed.alike) hp hb k1 k2 k3 (by rw [e1]; exact hce) hcv hcl T' rfl X'
    exact ⟨t2, st.trans a1, b1⟩
theorem vx_calld {S SX : Type} {post : UInt64 → S → Prop} {px : SX → Prop} {B : S → State → Prop} {BX : String → SX → State → Prop} {AX : Nat → Prop} (hr : vx_Run p l e R s m args below meth c H locs cells slots mc ms (F0 m pc ls st0) rest (va_Qd post B A1 a) (vx_X px BX AX) free) (hS : va_S A0 H0 H locs) (hA : ∀ q, q < H.size → A1 q → A0 q) (hf : ∀ q, free q → A0 q) (hAX : ∀ q, q < H.size → AX q → A0 q)
    (kx : ∀ (E : String) (ce : Cell) (q9 : Addr) (u : SX) (t : State) (H1 : Heap) (locs1 : List Loc), t.heap = H1 → s.vm.Alike t.vm → px u → BX E u t → H.size ≤ H1.size → (∀ q : Nat, q < H.size → ¬ AX q → H1[q]? = H[q]?) → va_S A0 H0 H1 locs1 → H1[q9]? = some ce → ce.vm = .none → s.vm.findClass E = some ce.cls → vx_W p l e R s m args below meth c H1 locs1 (cells + mc) (slots + ms) Q (F0 m pc ls rest) q9)
    (kk : ∀ (r : UInt64) (u : S) (t : State) (H1 : Heap) (locs1 : List Loc), t.heap = H1 → s.vm.Alike t.vm → post r u → B u t → H.size ≤ H1.size → (∀ q : Nat, q < H.size → ¬ A1 q → H1[q]? = H[q]?) → va_S A0 H0 H1 locs1 → W p l e R s m args below meth c H1 locs1 (cells + mc) (slots + ms) Q (F0 m (pc + 3) ls (.double r :: rest))) : W p l e R s m args below meth c H locs cells slots Q (F0 m pc ls st0) := by
  intro T hT X
  rcases hr T hT X with ⟨v, st₀, t, T', L, h0, X', hL, e1, e2, ⟨⟨r, u, hv, hp, hb⟩, hF⟩, st⟩ | ⟨q, st₀, t, T', L, E, ce, h0, X', hL, e1, e2, ⟨u, hp, hb, hF⟩, hce, hcv, hcl, st⟩
  · cases hv
    obtain ⟨k1, k2, k3⟩ := vx_keep h0 e1 hS hA hf hL hF
    obtain ⟨t2, a1, b1⟩ := kk r u t T'.heap (locs ++ L) e1.symm (by rw [← e2]; exact X'.warmed.alike) hp hb k1 k2 k3 T' rfl X'
    exact ⟨t2, st t2 a1, b1⟩
  · obtain ⟨k1, k2, k3⟩ := vx_keep h0 e1 hS hAX hf hL hF
    obtain ⟨t2, a1, b1⟩ := kx E ce q u t T'.heap (locs ++ L) e1.symm (by rw [← e2]; exact X'.warmed.alike) hp hb k1 k2 k3 (by rw [e1]; exact hce) hcv hcl T' rfl X'
    exact ⟨t2, st.trans a1, b1⟩
theorem vx_callv {S SX : Type} {post : S → Prop} {px : SX → Prop} {B : S → State → Prop} {BX : String → SX → State → Prop} {AX : Nat → Prop} (hr : vx_Run p l e R s m args below meth c H locs cells slots mc ms (F0 m pc ls st0) rest (va_Qv post B A1 a) (vx_X px BX AX) free) (hS : va_S A0 H0 H locs) (hA : ∀ q, q < H.size → A1 q → A0 q) (hf : ∀ q, free q → A0 q) (hAX : ∀ q, q < H.size → AX q → A0 q)
    (kx : ∀ (E : String) (ce : Cell) (q9 : Addr) (u : SX) (t : State) (H1 : Heap) (locs1 : List Loc), t.heap = H1 → s.vm.Alike t.vm → px u → BX E u t → H.size ≤ H1.size → (∀ q : Nat, q < H.size → ¬ AX q → H1[q]? = H[q]?) → va_S A0 H0 H1 locs1 → H1[q9]? = some ce → ce.vm = .none → s.vm.findClass E = some ce.cls → vx_W p l e R s m args below meth c H1 locs1 (cells + mc) (slots + ms) Q (F0 m pc ls rest) q9)
    (kk : ∀ (u : S) (t : State) (H1 : Heap) (locs1 : List Loc), t.heap = H1 → s.vm.Alike t.vm → post u → B u t → H.size ≤ H1.size → (∀ q : Nat, q < H.size → ¬ A1 q → H1[q]? = H[q]?) → va_S A0 H0 H1 locs1 → W p l e R s m args below meth c H1 locs1 (cells + mc) (slots + ms) Q (F0 m (pc + 3) ls (rest))) : W p l e R s m args below meth c H locs cells slots Q (F0 m pc ls st0) := by
  intro T hT X
  rcases hr T hT X with ⟨v, st₀, t, T', L, h0, X', hL, e1, e2, ⟨⟨u, hv, hp, hb⟩, hF⟩, st⟩ | ⟨q, st₀, t, T', L, E, ce, h0, X', hL, e1, e2, ⟨u, hp, hb, hF⟩, hce, hcv, hcl, st⟩
  · cases hv
    obtain ⟨k1, k2, k3⟩ := vx_keep h0 e1 hS hA hf hL hF
    obtain ⟨t2, a1, b1⟩ := kk u t T'.heap (locs ++ L) e1.symm (by rw [← e2]; exact X'.warmed.alike) hp hb k1 k2 k3 T' rfl X'
    exact ⟨t2, st t2 a1, b1⟩
  · obtain ⟨k1, k2, k3⟩ := vx_keep h0 e1 hS hAX hf hL hF
    obtain ⟨t2, a1, b1⟩ := kx E ce q u t T'.heap (locs ++ L) e1.symm (by rw [← e2]; exact X'.warmed.alike) hp hb k1 k2 k3 (by rw [e1]; exact hce) hcv hcl T' rfl X'
    exact ⟨t2, st.trans a1, b1⟩
/-- caught by the row x of this method's table; the rows ahead don't take it -/
theorem vx_catch {own name : String} {E : String} {ce : Cell} {q : Addr} (hown : s.vm.findClass own = some m.cls) (pre : List ExceptionTableEntry) (x : ExceptionTableEntry) (suf : List ExceptionTableEntry) (hsplit : c.exceptionTable.toList = pre ++ x :: suf)
    (hpass : ∀ z ∈ pre, covers z pc = false ∨ (z.catchType ≠ 0 ∧ ∃ nm : String, (Cond.classLink own z.catchType nm).before args s = true ∧ va_Nc E nm s)) (hx : covers x pc = true) (h0 : x.catchType ≠ 0)
    (hlink : (Cond.classLink own x.catchType name).before args s = true) (hcast : (Cond.castable E name).before args s = true) (hcell : H[q]? = some ce) (hv : ce.vm = .none) (hcl : s.vm.findClass E = some ce.cls)
    (kk : W p l e R s m args below meth c H locs cells slots Q (F0 m x.handlerPc ls [.ref q])) : vx_W p l e R s m args below meth c H locs cells slots Q (F0 m pc ls rest) q := by
  intro T hT X
  have hpl : e.platform.magicAccessors = ({} : Platform).magicAccessors := by rw [X.admits.platform]
  obtain ⟨c3, c4, hc3, hc4, hasg⟩ := Cond.castable_spec hcast
  cases Option.some.inj (hc3.symm.trans hcl)
  obtain ⟨c5, hc5, hcl5⟩ := Cond.classLink_spec hown hlink e.platform hpl
  cases Option.some.inj (hc4.symm.trans hc5)
  obtain ⟨vm', X', st⟩ := X.thenCaughtThrough q (g := F0 m pc ls rest) rfl (Steps.refl _) (by rw [hT]; exact hcell) (by rw [hv]; rfl) (by obtain ⟨k9, h9, -⟩ := Vm.findClass_spec hcl; exact ⟨k9, h9⟩) pre x suf hsplit
    (fun z hz => by
      rcases hpass z hz with h | ⟨hz0, nm, hl1, hn1⟩
      · exact Or.inl h
      · obtain ⟨c6, hc6, hcl6⟩ := Cond.classLink_spec hown hl1 e.platform hpl
        obtain ⟨a8, b8, h1, h2, h3⟩ := hn1
        cases Option.some.inj (h1.symm.trans hcl)
        cases Option.some.inj (h2.symm.trans hc6)
        exact Or.inr ⟨hz0, _, hcl6, h3⟩) hx (Or.inr ⟨h0, c4, hcl5, hasg⟩)
  obtain ⟨t, a1, b1⟩ := kk (T.setVm vm') hT X'
  exact ⟨t, st.trans a1, b1⟩
end Rows
section Ends
variable {p : Program} {l : Launch} {e : Env} {R : Room} {s : State} {m : MethodId} {args : Array Value} {below : List Frame} {meth : Method} {c : Code} {H : Heap} {locs : List Loc} {cells slots : Nat} {Q : State → Prop}
variable {mc ms : Nat} {free : Addr → Prop} {A0 A1 : Nat → Prop} {H0 : Heap} {a : Array Value} {ls : Array Slot} {st0 rest : List Value}
variable {Qc : Array Value → State → Outcome → State → Prop} {XC : String → State → State → Prop}
/-- what a body that may throw owes at its end -/
def vx_MQ (below : List Frame) (Qc : Array Value → State → Outcome → State → Prop) (XC : String → State → State → Prop) (a : Array Value) (s : State) (mc ms : Nat) (free : Addr → Prop) : State → Prop := fun t =>
  ∃ o, t.status = .running ∧ Ended t below o ∧ vx_Q Qc XC mc ms free a s o t
theorem vx_ret {g : JFrame} {mc ms : Nat} (k : W p l e R s m args below meth c H locs cells slots (MQ below Qc args s mc ms free) g) : W p l e R s m args below meth c H locs cells slots (vx_MQ below Qc XC args s mc ms free) g := by
  intro T hT X
  obtain ⟨t, a1, o, b1, b2, b3, b4⟩ := k T hT X
  exact ⟨t, a1, o, b1, b2, Or.inl ⟨b3, b4⟩⟩
/-- not caught here: it goes on to the caller -/
theorem vx_widen {g : JFrame} {q : Addr} {k n : Nat} (h1 : cells ≤ k) (h2 : slots ≤ n) (kk : vx_W p l e R s m args below meth c H locs k n Q g q) : vx_W p l e R s m args below meth c H locs cells slots Q g q := fun T hT X => kk T hT (stand_widen X h1 h2)
theorem vx_out {pc : Nat} {E : String} {ce : Cell} {q : Addr} {mc ms : Nat} (hout : ∀ x ∈ c.exceptionTable.toList, covers x pc = false) (hlocks : meth.locks = false) (hcell : H[q]? = some ce) (hv : ce.vm = .none) (hcl : s.vm.findClass E = some ce.cls)
    (hx : ∀ t : State, t.heap = H → s.vm.Alike t.vm → XC E s t) (hf : ∀ z ∈ locs, free z.base) (hc : cells ≤ mc) (hs : slots ≤ ms) :
    vx_W p l e R s m args below meth c H locs cells slots (vx_MQ below Qc XC args s mc ms free) (F0 m pc ls rest) q := by
  intro T hT X
  obtain ⟨st1, hrun, hend, hW, hsm⟩ := X.leaveThrown q (g := F0 m pc ls rest) rfl rfl rfl hout hlocks
  have hcell9 : (T.setFrames (.throwing q :: below)).heap[q]? = some ce := by
    show T.heap[q]? = some ce
    rw [hT]; exact hcell
  exact ⟨_, st1, .threw q, hrun, hend, Or.inr ⟨q, rfl, E, ce, locs, hx _ hT hW.alike, hcell9, hv, hcl, hW, hsm.mono hc hs, hf⟩⟩
theorem vx_frame {U : State} {k n : Nat} (h : s.sameButNew ({ U with vm := s.vm } : State) locs k n) : s.heap.size ≤ U.heap.size ∧ ∀ q : Nat, q < s.heap.size → (∀ z ∈ locs, z.base ≠ q) → U.heap[q]? = s.heap[q]? := by
  obtain ⟨-, h2, -, -, -, h6⟩ := h
  refine ⟨h2, fun q hq hz => ?_⟩
  obtain ⟨c9, e1, e2, e3, e4⟩ := h6 q _ (Array.getElem?_eq_getElem hq)
  have hs : c9.slots = (s.heap[q]).slots := Array.ext_getElem? fun i => e4 i fun hm => hz _ hm rfl
  have h9 : c9 = s.heap[q] := by
    rw [hs] at e2
    exact e2
  have e5 : U.heap[q]? = some c9 := e1
  rw [e5, h9, Array.getElem?_eq_getElem hq]
/-- the words of a throw but the four that speak of the heap -/
def vx_no (w : Cond) : Bool := decide (w ≠ .isRef (.static Bundle.tN "UNASSIGNED_STACK" Bundle.steD)) && decide (w ≠ .isRef (.static Bundle.tN "SUPPRESSED_SENTINEL" Bundle.listD)) && decide (w ≠ .laysStatic Bundle.tN "UNASSIGNED_STACK" Bundle.steD) && decide (w ≠ .laysStatic Bundle.tN "SUPPRESSED_SENTINEL" Bundle.listD)
def vx_at0 (own : String) (ic : Nat) (X : String) (names : List String) : List Cond := (Bundle.ownAtoms0 own ic X names).filter vx_no
def vx_atS (own : String) (ic : Nat) (X : String) (names : List String) : List Cond := (Bundle.ownAtoms own ic X names).filter vx_no
/-- a word that the tables alone decide, or a good one -/
def vx_ot (w : Cond) : Bool := w.onTables || goodWord w
theorem vx_ot_at {args a' : Array Value} {s U : State} {w : Cond} (hW : s.WarmedH U.vm) (hvm : s.vm = U.vm) (hg : vx_ot w = true) (h : w.before args s = true) : w.before a' U = true := by
  simp only [vx_ot, Bool.or_eq_true] at hg
  rcases hg with hg | hg
  · exact va_tabs hg hvm h
  · exact word_at hW (good_of_word hg) h
/-- a list's words: the good ones out of the method's own list, the others by premises of their own -/
theorem vx_hat {args : Array Value} {s : State} {L B : List Cond} (h1 : ∀ w ∈ L.filter goodWord, w.before args s = true) (h2 : ∀ w ∈ L.filter (fun w => !goodWord w), w ∈ B) (h3 : ∀ w ∈ B, w.before args s = true) : ∀ w ∈ L, w.before args s = true := by
  intro w hw
  by_cases g : goodWord w = true
  · exact h1 w (List.mem_filter.mpr ⟨hw, g⟩)
  · refine h3 w (h2 w (List.mem_filter.mpr ⟨hw, ?_⟩))
    show (!goodWord w) = true
    cases hgw : goodWord w
    · rfl
    · exact absurd hgw g
theorem vx_c {args : Array Value} {s : State} {w : Cond} {B : List Cond} (h : w.before args s = true) (t : ∀ w ∈ B, w.before args s = true) : ∀ w' ∈ w :: B, w'.before args s = true := fun w' h' => (List.mem_cons.mp h').elim (fun e => by rw [e]; exact h) (t w')
theorem vx_n {args : Array Value} {s : State} : ∀ w ∈ ([] : List Cond), w.before args s = true := fun _ h => nomatch h
theorem vx_own {args : Array Value} {s : State} {L : List Cond} (h1 : ∀ w ∈ L.filter vx_no, w.before args s = true)
    (hU : (Cond.isRef (.static Bundle.tN "UNASSIGNED_STACK" Bundle.steD)).before args s = true) (hN : (Cond.isRef (.static Bundle.tN "SUPPRESSED_SENTINEL" Bundle.listD)).before args s = true)
    (lU : (Cond.laysStatic Bundle.tN "UNASSIGNED_STACK" Bundle.steD).before args s = true) (lN : (Cond.laysStatic Bundle.tN "SUPPRESSED_SENTINEL" Bundle.listD).before args s = true) : ∀ w ∈ L, w.before args s = true := by
  intro w hw
  by_cases e1 : w = .isRef (.static Bundle.tN "UNASSIGNED_STACK" Bundle.steD)
  · rw [e1]; exact hU
  · by_cases e2 : w = .isRef (.static Bundle.tN "SUPPRESSED_SENTINEL" Bundle.listD)
    · rw [e2]; exact hN
    · by_cases e3 : w = .laysStatic Bundle.tN "UNASSIGNED_STACK" Bundle.steD
      · rw [e3]; exact lU
      · by_cases e4 : w = .laysStatic Bundle.tN "SUPPRESSED_SENTINEL" Bundle.listD
        · rw [e4]; exact lN
        · exact h1 w (List.mem_filter.mpr ⟨hw, by unfold vx_no; rw [decide_eq_true e1, decide_eq_true e2, decide_eq_true e3, decide_eq_true e4]; rfl⟩)
/-- where a static field lies, its class's statics cell in H -/
def vx_L (C n d : String) (A : Nat → Prop) (U : State) (H : Heap) : Prop := ∃ (c : ClassId) (k : Class) (i : Nat) (f : Field) (a : Nat) (cell : Cell), U.vm.findClass C = some c ∧ U.fieldFound? C n d = some (c, k, i, f) ∧ f.isStatic = true ∧ k.statics = some a ∧ H[a]? = some cell ∧ cell.vm.isStatics = true ∧ cell.cls = c ∧ f.slot < cell.slots.size ∧ k.staticTypes[f.slot]? = some f.type ∧ ¬ A a
theorem vx_L.moved {C n d : String} {A : Nat → Prop} {u U : State} {H : Heap} (hvm : u.vm.Alike U.vm) (h : vx_L C n d A u H) : vx_L C n d A U H := by
  obtain ⟨c, k, i, f, a, cell, h1, h2, h3, h4, h5, h6, h7, h8, h9, h10⟩ := h
  obtain ⟨k', hi', he⟩ := State.fieldFound?_setVm hvm h2
  exact ⟨c, k', i, f, a, cell, by rw [hvm.findClass]; exact h1, hi', h3, by rw [he]; exact h4, h5, h6, h7, h8, by rw [he]; exact h9, h10⟩
theorem vx_L.kept {C n d : String} {A : Nat → Prop} {U : State} {H H1 : Heap} (h : vx_L C n d A U H) (hq : ∀ a : Nat, a < H.size → ¬ A a → H1[a]? = H[a]?) : vx_L C n d A U H1 := by
  obtain ⟨c, k, i, f, a, cell, h1, h2, h3, h4, h5, h6, h7, h8, h9, h10⟩ := h
  exact ⟨c, k, i, f, a, cell, h1, h2, h3, h4, by rw [hq a (Array.getElem?_eq_some_iff.mp h5).1 h10]; exact h5, h6, h7, h8, h9, h10⟩
theorem vx_L.narrow {C n d : String} {A B : Nat → Prop} {U : State} {H : Heap} (h : vx_L C n d A U H) (hAB : ∀ q, B q → A q) : vx_L C n d B U H := by
  obtain ⟨c, k, i, f, a, cell, h1, h2, h3, h4, h5, h6, h7, h8, h9, h10⟩ := h
  exact ⟨c, k, i, f, a, cell, h1, h2, h3, h4, h5, h6, h7, h8, h9, fun z => h10 (hAB _ z)⟩
theorem vx_L.word {C n d : String} {A : Nat → Prop} {s : State} {args : Array Value} (h : vx_L C n d A s s.heap) : (Cond.laysStatic C n d).before args s = true := by
  obtain ⟨c, k, i, f, a, cell, h1, h2, h3, h4, h5, h6, h7, h8, h9, -⟩ := h
  show (Cond.laysStatic C n d).holds args s none s [] = true
  exact Cond.laysStatic_of h1 h2 h3 h4 h5 h6 h7 h8 h9
/-- .. and what it holds: null or some reference -/
def vx_Zq (C n d : String) (A : Nat → Prop) (U : State) (H : Heap) : Prop := va_Zq C n d A U H ∧ vx_L C n d A U H
theorem vx_Zq.moved {C n d : String} {A : Nat → Prop} {u U : State} {H : Heap} (hvm : u.vm.Alike U.vm) (h : vx_Zq C n d A u H) : vx_Zq C n d A U H := ⟨va_Zq.moved hvm h.1, vx_L.moved hvm h.2⟩
theorem vx_Zq.kept {C n d : String} {A : Nat → Prop} {U : State} {H H1 : Heap} (h : vx_Zq C n d A U H) (hq : ∀ a : Nat, a < H.size → ¬ A a → H1[a]? = H[a]?) : vx_Zq C n d A U H1 := ⟨va_Zq.kept h.1 hq, vx_L.kept h.2 hq⟩
theorem vx_Zq.narrow {C n d : String} {A B : Nat → Prop} {U : State} {H : Heap} (h : vx_Zq C n d A U H) (hAB : ∀ q, B q → A q) : vx_Zq C n d B U H := ⟨va_Zq.narrow h.1 hAB, vx_L.narrow h.2 hAB⟩
theorem vx_Zqof {args : Array Value} {s : State} {C n d : String} {A : Nat → Prop} (hl : (Cond.laysStatic C n d).before args s = true) (hini : (Cond.initialized C).before args s = true) (h : (Cond.isRef (.static C n d)).before args s = true) (hA : ∀ a : Nat, a < s.heap.size → ¬ A a) : vx_Zq C n d A s s.heap := by
  refine ⟨va_Zqof hl hini h hA, ?_⟩
  obtain ⟨c, k, i, f, a, cell, h1, h2, h3, h4, h5, h6, h7, h8, h9⟩ := Cond.laysStatic_spec hl
  exact ⟨c, k, i, f, a, cell, h1, h2, h3, h4, h5, h6, h7, h8, h9, hA a (Array.getElem?_eq_some_iff.mp h5).1⟩
theorem vx_isRef {C n d : String} {v : Value} {A : Nat → Prop} {s : State} {args : Array Value} (h : va_Z C n d v A s s.heap) (hv : v.isRef = true) : (Cond.isRef (.static C n d)).before args s = true := by
  obtain ⟨cf, kf, fi, f, a, cell, h1, h2, h3, h4, h5, h6, h7, -⟩ := h
  have he : (Term.static C n d).eval args s none [] s = some v := by
    simp [Term.eval, State.fieldNamed?, h1, h2, h4, h5, h6, h7]
  simp only [Cond.before, Cond.holds, Cond.value, he]
  cases v <;> simp_all [Value.isRef]
theorem vx_isRefq {C n d : String} {A : Nat → Prop} {s : State} {args : Array Value} (h : va_Zq C n d A s s.heap) : (Cond.isRef (.static C n d)).before args s = true := by
  rcases h with h | ⟨t, h⟩
  · exact vx_isRef h rfl
  · exact vx_isRef h rfl
/-- the same frame, seen from here: as if the method were called anew in this heap -/
theorem vx_rebase {T : State} (X : Stand p l e R s m args below meth c T locs cells slots) {R' : Room} (hf : R'.frames ≤ R.frames) (hl : R'.locals ≤ R.locals) (hc : cells + R'.cells ≤ R.cells) (hs : slots + R'.slots ≤ R.slots) :
    Stand p l e R' ((T.setVm s.vm).setFrames (.invoking m args :: below)) m args below meth c T [] 0 0 := by
  have htop : (T.setVm s.vm).topJava?.isSome := X.here.top
  have hF : ((T.setVm s.vm).setFrames (.invoking m args :: below)).frames = .invoking m args :: below := State.frames_setFrames _ (State.cur_lt_of_top htop)
  obtain ⟨g₀, hg0⟩ := Option.isSome_iff_exists.mp htop
  obtain ⟨r, hr⟩ := State.topJava?_eq_some.mp hg0
  have hl9 : e.platform.stackLimits (T.setVm s.vm).me = e.platform.stackLimits s.me := X.limits
  have hb9 : (T.setVm s.vm).me.stackBytes = s.me.stackBytes := X.bytes
  refine ⟨X.admits, X.cas, X.clock, hF, ?_, X.hears, X.method, X.code, X.here, X.tail, X.warmed, ?_, ?_, ?_⟩
  · have h := X.room
    have hU : ((T.setVm s.vm).setFrames (.invoking m args :: below)).localsInUse = s.localsInUse := by
      rw [State.localsInUse_invoking hF (meth := meth) (c := c) X.method X.code, State.localsInUse_invoking X.frames X.method X.code]
    simp only [State.hasRoom, Bool.and_eq_true, decide_eq_true_eq] at h ⊢
    obtain ⟨⟨⟨⟨h1, h2, h3, h4, h5, h6⟩, h7⟩, h8⟩, h9⟩ := h
    rw [X.frames, List.length_cons] at h2 h3
    have q1 := X.heapSize
    have q2 := X.used
    simp only [hF, hU, List.length_cons, State.stackLimits_setFrames, State.stackBytes_setFrames, hl9, hb9]
    refine ⟨⟨⟨⟨by omega, by omega, by omega, by omega, by omega, h6⟩, ?_⟩, ?_⟩, X.book⟩
    · show T.heap.size + R'.cells ≤ e.platform.maxCells
      omega
    · show T.slotsUsed + R'.slots ≤ e.platform.maxSlots
      omega
  · rw [State.stackLimits_setFrames]; rfl
  · rw [State.stackBytes_setFrames]; rfl
  · refine ⟨?_, Nat.le_refl _, Nat.le_refl _, ?_, ?_, fun a c9 h9 => ⟨c9, h9, rfl, rfl, fun _ _ => rfl⟩⟩
    · obtain ⟨t, ht, -⟩ := State.frames_cons hr
      show T.setVm s.vm = { ((T.setVm s.vm).setFrames (.invoking m args :: below)).setFrames (T.setVm s.vm).frames with heap := T.heap, slotsUsed := T.slotsUsed }
      rw [State.setFrames_setFrames, State.setFrames_self ht]
      rfl
    · show T.slotsUsed = T.slotsUsed + ((T.heap.toList.drop T.heap.size).map (·.slots.size)).sum
      rw [List.drop_eq_nil_of_le (Nat.le_of_eq Array.length_toList)]
      rfl
    · show ((T.heap.toList.drop T.heap.size).map (·.slots.size)).sum ≤ 0
      rw [List.drop_eq_nil_of_le (Nat.le_of_eq Array.length_toList)]
      exact Nat.le_refl _
/-- 'throw new E()': new; dup; invokespecial; athrow -/
theorem vx_throw0 {cc : ByteArray} {pc : Nat} (hexec : p.tables.exec = Jvm.exec) (hb : c.code = cc) (hl : l.stackTraces = false) {own cls : String} {names : List String} {ik ic mc ms : Nat} {A : Nat → Prop}
    (hown : s.vm.findClass own = some m.cls) (hcls : Bundle.fit cls = true) (hnames : ∀ n ∈ names, Bundle.fit n = true)
    (hk : (Cond.classLink own ik cls).before args s = true) (hini : (Cond.initialized cls).before args s = true) (hat : ∀ w ∈ vx_at0 own ic cls names, w.before args s = true)
    (hgood : ∀ w ∈ Cond.classLink own ik cls :: Cond.initialized cls :: vx_at0 own ic cls names, vx_ot w = true)
    (hU : vx_Zq Bundle.tN "UNASSIGNED_STACK" Bundle.steD A s s.heap) (hN : vx_Zq Bundle.tN "SUPPRESSED_SENTINEL" Bundle.listD A s s.heap) (hS : va_S A s.heap H locs) (hsize : ls.size = c.maxLocals)
    (d0 : decode cc pc = .ok (.new ik, 3)) (d3 : decode cc (pc + 3) = .ok (.dup, 1)) (d4 : decode cc (pc + 4) = .ok (.invokespecial ic, 3)) (d7 : decode cc (pc + 7) = .ok (.athrow, 1))
    (hout : ∀ x ∈ c.exceptionTable.toList, covers x (pc + 7) = false)
    (hRframes : names.length + 3 < R.frames) (hRlocals : (rest.map fun v => v.category).sum + (13 * (names.length + 1) + 42) ≤ R.locals) (hRcells : cells + 1 ≤ R.cells) (hRslots : slots + 6 ≤ R.slots) (hlocks : meth.locks = false)
    (hx : ∀ t : State, s.vm.Alike t.vm → H.size ≤ t.heap.size → (∀ q : Nat, q < H.size → t.heap[q]? = H[q]?) → XC cls s t)
    (hf : ∀ z ∈ locs, free z.base) (hc : cells + 1 ≤ mc) (hs : slots + 6 ≤ ms) :
    W p l e R s m args below meth c H locs cells slots (vx_MQ below Qc XC args s mc ms free) (F0 m pc ls rest) := by
  intro T hT X
  have htr : e.platform.stackTraces = false := (show e.platform.stackTraces = l.stackTraces by rw [X.admits.platform]).trans hl
  have Y := vx_rebase X (R' := { frames := R.frames, locals := R.locals, cells := 1, slots := 6 }) (Nat.le_refl _) (Nat.le_refl _) hRcells hRslots
  obtain ⟨s', hA⟩ : ∃ z, z = (T.setVm s.vm).setFrames (.invoking m args :: below) := ⟨_, rfl⟩
  rw [← hA] at Y
  have hvm : s'.vm = s.vm := by rw [hA]; rfl
  have hhp : s'.heap = H := by rw [hA]; exact hT
  have hW0 : s.WarmedH s'.vm := by rw [hvm]; exact State.WarmedH.refl s
  have hat' : ∀ w ∈ vx_at0 own ic cls names, w.before args s' = true := fun w hw => vx_ot_at hW0 hvm.symm (hgood w (List.mem_cons_of_mem _ (List.mem_cons_of_mem _ hw))) (hat w hw)
  have hk' : (Cond.classLink own ik cls).before args s' = true := vx_ot_at hW0 hvm.symm (hgood _ List.mem_cons_self) hk
  have hini' : (Cond.initialized cls).before args s' = true := vx_ot_at hW0 hvm.symm (hgood _ (List.mem_cons_of_mem _ List.mem_cons_self)) hini
  have hU' : vx_Zq Bundle.tN "UNASSIGNED_STACK" Bundle.steD A s' s'.heap := by rw [hhp]; exact vx_Zq.moved hW0.alike (hU.kept hS.2.1)
  have hN' : vx_Zq Bundle.tN "SUPPRESSED_SENTINEL" Bundle.listD A s' s'.heap := by rw [hhp]; exact vx_Zq.moved hW0.alike (hN.kept hS.2.1)
  have h : ∀ w ∈ Bundle.ownAtoms0 own ic cls names, w.before args s' = true := vx_own hat' (vx_isRefq hU'.1) (vx_isRefq hN'.1) hU'.2.word hN'.2.word
  have hown' : s'.vm.findClass own = some m.cls := by rw [hvm]; exact hown
  have hins : (Cond.instantiable cls 6).before args s' = true := h _ (by simp [Bundle.ownAtoms0])
  obtain ⟨vm₁, cX, kX, hfX, hkX, -, -, X₁, st1⟩ := Y.newCold hexec (own := own) (C := cls) (index := ik) (n := 6) hown' hk' hins hini'
    (g := F0 m pc ls rest) rfl (by rw [hb]; exact d0) (Nat.le_refl _) (Nat.le_refl _)
  generalize hT1 : (T.setVm vm₁).pushCell { cls := cX, slots := kX.instanceTypes.map defaultValue, vm := .none } = T1 at X₁ st1
  have hcat : (Value.ref T.heap.size).category = 1 := rfl
  have hcellA : T1.heap[T.heap.size]? = some (freshCell cX kX) := by rw [← hT1]; exact State.heap_pushCell_size _ _
  have d3' : decode c.code (pc + 3) = .ok (.dup, 1) := by rw [hb]; exact d3
  obtain ⟨U, hsteps, hrun, hend, hW, hsame, ce, hce, hO⟩ := X₁.ctorThrow0 hexec htr (own := own) (cls := cls) (names := names) (ic := ic) hown' hcls hnames h (fun x hx => nomatch hx) hfX hkX hcellA (by rw [hhp, hT]; exact Nat.le_refl _)
    (g := { method := m, pc := pc + 4, locals := ls, stack := .ref T.heap.size :: .ref T.heap.size :: rest, locked := none }) rfl hsize rfl rfl (rest := rest) rfl
    (by rw [hb]; exact d4) (by rw [hb]; exact d7) hout hRframes (by simp only [List.map_cons, List.sum_cons, hcat]; omega) hlocks
  obtain ⟨f1, f2⟩ := vx_frame hsame
  rw [hhp] at f1 f2
  have hWs : s.WarmedH U.vm := State.WarmedH.trans hW0 hW
  have hcl : s.vm.findClass cls = some ce.cls := by
    have h9 := hO.cls
    rw [hvm] at h9
    exact h9
  have hall : s.sameButNew ({ U with vm := s.vm } : State) locs mc ms := by
    subst hA
    obtain ⟨e1, e2⟩ := hsame
    rw [State.setFrames_setFrames] at e1
    have h2 : (T.setVm s.vm).sameButNew ({ U with vm := s.vm } : State) [] (0 + 1) (0 + 6) := ⟨e1, e2⟩
    have h3 := X.same.trans h2
    rw [List.append_nil] at h3
    exact h3.mono hc hs
  refine ⟨U, ?_, .threw T.heap.size, hrun, hend, Or.inr ⟨T.heap.size, rfl, cls, ce, locs, hx U hWs.alike f1 (fun q hq => f2 q hq (fun z hz => nomatch hz)), hce, hO.vm, hcl, hWs, hall, hf⟩⟩
  refine st1 _ ?_
  show Steps p.tables e below (T1.setTop { method := m, pc := pc + 3, locals := ls, stack := .ref T.heap.size :: rest, locked := none }) _
  jvm_step X₁.here [X₁.here.top, hexec, d3', Value.category]
  exact hsteps
/-- 'throw new E("text")': new; dup; ldc; invokespecial; athrow -/
theorem vx_throwS {cc : ByteArray} {pc : Nat} (hexec : p.tables.exec = Jvm.exec) (hb : c.code = cc) (hl : l.stackTraces = false) {own cls text : String} {names : List String} {ik is ic mc ms sa : Nat} {A : Nat → Prop}
    (hown : s.vm.findClass own = some m.cls) (hcls : Bundle.fit cls = true) (hnames : ∀ n ∈ names, Bundle.fit n = true)
    (hk : (Cond.classLink own ik cls).before args s = true) (hini : (Cond.initialized cls).before args s = true) (hstr : vk_R own is text sa s) (hat : ∀ w ∈ vx_atS own ic cls names, w.before args s = true)
    (hgood : ∀ w ∈ Cond.classLink own ik cls :: Cond.initialized cls :: vx_atS own ic cls names, vx_ot w = true)
    (hU : vx_Zq Bundle.tN "UNASSIGNED_STACK" Bundle.steD A s s.heap) (hN : vx_Zq Bundle.tN "SUPPRESSED_SENTINEL" Bundle.listD A s s.heap) (hS : va_S A s.heap H locs) (hsize : ls.size = c.maxLocals)
    (d0 : decode cc pc = .ok (.new ik, 3)) (d3 : decode cc (pc + 3) = .ok (.dup, 1)) (d4 : decode cc (pc + 4) = .ok (.ldc is, 2)) (d6 : decode cc (pc + 6) = .ok (.invokespecial ic, 3)) (d9 : decode cc (pc + 9) = .ok (.athrow, 1))
    (hout : ∀ x ∈ c.exceptionTable.toList, covers x (pc + 9) = false)
    (hRframes : names.length + 3 < R.frames) (hRlocals : (rest.map fun v => v.category).sum + (13 * (names.length + 1) + 43) ≤ R.locals) (hRcells : cells + 1 ≤ R.cells) (hRslots : slots + 6 ≤ R.slots) (hlocks : meth.locks = false)
    (hx : ∀ t : State, s.vm.Alike t.vm → H.size ≤ t.heap.size → (∀ q : Nat, q < H.size → t.heap[q]? = H[q]?) → XC cls s t)
    (hf : ∀ z ∈ locs, free z.base) (hc : cells + 1 ≤ mc) (hs : slots + 6 ≤ ms) :
    W p l e R s m args below meth c H locs cells slots (vx_MQ below Qc XC args s mc ms free) (F0 m pc ls rest) := by
  intro T hT X
  have htr : e.platform.stackTraces = false := (show e.platform.stackTraces = l.stackTraces by rw [X.admits.platform]).trans hl
  have Y := vx_rebase X (R' := { frames := R.frames, locals := R.locals, cells := 1, slots := 6 }) (Nat.le_refl _) (Nat.le_refl _) hRcells hRslots
  obtain ⟨s', hA⟩ : ∃ z, z = (T.setVm s.vm).setFrames (.invoking m args :: below) := ⟨_, rfl⟩
  rw [← hA] at Y
  have hvm : s'.vm = s.vm := by rw [hA]; rfl
  have hhp : s'.heap = H := by rw [hA]; exact hT
  have hW0 : s.WarmedH s'.vm := by rw [hvm]; exact State.WarmedH.refl s
  have hat' : ∀ w ∈ vx_atS own ic cls names, w.before args s' = true := fun w hw => vx_ot_at hW0 hvm.symm (hgood w (List.mem_cons_of_mem _ (List.mem_cons_of_mem _ hw))) (hat w hw)
  have hk' : (Cond.classLink own ik cls).before args s' = true := vx_ot_at hW0 hvm.symm (hgood _ List.mem_cons_self) hk
  have hini' : (Cond.initialized cls).before args s' = true := vx_ot_at hW0 hvm.symm (hgood _ (List.mem_cons_of_mem _ List.mem_cons_self)) hini
  have hU' : vx_Zq Bundle.tN "UNASSIGNED_STACK" Bundle.steD A s' s'.heap := by rw [hhp]; exact vx_Zq.moved hW0.alike (hU.kept hS.2.1)
  have hN' : vx_Zq Bundle.tN "SUPPRESSED_SENTINEL" Bundle.listD A s' s'.heap := by rw [hhp]; exact vx_Zq.moved hW0.alike (hN.kept hS.2.1)
  have h : ∀ w ∈ Bundle.ownAtoms own ic cls names, w.before args s' = true := vx_own hat' (vx_isRefq hU'.1) (vx_isRefq hN'.1) hU'.2.word hN'.2.word
  have hown' : s'.vm.findClass own = some m.cls := by rw [hvm]; exact hown
  have hins : (Cond.instantiable cls 6).before args s' = true := h _ (by simp [Bundle.ownAtoms])
  obtain ⟨vm₁, cX, kX, hfX, hkX, -, -, X₁, st1⟩ := Y.newCold hexec (own := own) (C := cls) (index := ik) (n := 6) hown' hk' hins hini'
    (g := F0 m pc ls rest) rfl (by rw [hb]; exact d0) (Nat.le_refl _) (Nat.le_refl _)
  generalize hT1 : (T.setVm vm₁).pushCell { cls := cX, slots := kX.instanceTypes.map defaultValue, vm := .none } = T1 at X₁ st1
  have hcat : (Value.ref T.heap.size).category = 1 := rfl
  have hcellA : T1.heap[T.heap.size]? = some (freshCell cX kX) := by rw [← hT1]; exact State.heap_pushCell_size _ _
  have d3' : decode c.code (pc + 3) = .ok (.dup, 1) := by rw [hb]; exact d3
  have d4' : decode c.code (pc + 4) = .ok (.ldc is, 2) := by rw [hb]; exact d4
  have hstr' : vk_R own is text sa s' := vk_R.warm hW0 hstr
  obtain ⟨U, hsteps, hrun, hend, hW, hsame, ce, hce, hO⟩ := X₁.ctorThrowS hexec htr (own := own) (cls := cls) (names := names) (ic := ic) hown' hcls hnames h (fun x hx => nomatch hx) hfX hkX hcellA (by rw [hhp, hT]; exact Nat.le_refl _) (msg := .ref sa) rfl
    (g := { method := m, pc := pc + 6, locals := ls, stack := .ref sa :: .ref T.heap.size :: .ref T.heap.size :: rest, locked := none }) rfl hsize rfl rfl (rest := rest) rfl
    (by rw [hb]; exact d6) (by rw [hb]; exact d9) hout hRframes (by simp only [List.map_cons, List.sum_cons, hcat]; omega) hlocks
  obtain ⟨f1, f2⟩ := vx_frame hsame
  rw [hhp] at f1 f2
  have hWs : s.WarmedH U.vm := State.WarmedH.trans hW0 hW
  have hcl : s.vm.findClass cls = some ce.cls := by
    have h9 := hO.cls
    rw [hvm] at h9
    exact h9
  have hall : s.sameButNew ({ U with vm := s.vm } : State) locs mc ms := by
    subst hA
    obtain ⟨e1, e2⟩ := hsame
    rw [State.setFrames_setFrames] at e1
    have h2 : (T.setVm s.vm).sameButNew ({ U with vm := s.vm } : State) [] (0 + 1) (0 + 6) := ⟨e1, e2⟩
    have h3 := X.same.trans h2
    rw [List.append_nil] at h3
    exact h3.mono hc hs
  refine ⟨U, ?_, .threw T.heap.size, hrun, hend, Or.inr ⟨T.heap.size, rfl, cls, ce, locs, hx U hWs.alike f1 (fun q hq => f2 q hq (fun z hz => nomatch hz)), hce, hO.vm, hcl, hWs, hall, hf⟩⟩
  refine st1 _ ?_
  show Steps p.tables e below (T1.setTop { method := m, pc := pc + 3, locals := ls, stack := .ref T.heap.size :: rest, locked := none }) _
  jvm_step X₁.here [X₁.here.top, hexec, d3', Value.category]
  exact X₁.ldcString hexec (own := own) (text := text) (index := is) (a := sa) hown' hstr'.1 hstr'.2
    (g := { method := m, pc := pc + 4, locals := ls, stack := .ref T.heap.size :: .ref T.heap.size :: rest, locked := none }) rfl d4' _ hsteps
/-- 'throw new E("text")', the text by a wide index -/
theorem vx_throwSW {cc : ByteArray} {pc : Nat} (hexec : p.tables.exec = Jvm.exec) (hb : c.code = cc) (hl : l.stackTraces = false) {own cls text : String} {names : List String} {ik is ic mc ms sa : Nat} {A : Nat → Prop}
    (hown : s.vm.findClass own = some m.cls) (hcls : Bundle.fit cls = true) (hnames : ∀ n ∈ names, Bundle.fit n = true)
    (hk : (Cond.classLink own ik cls).before args s = true) (hini : (Cond.initialized cls).before args s = true) (hstr : vk_R own is text sa s) (hat : ∀ w ∈ vx_atS own ic cls names, w.before args s = true)
    (hgood : ∀ w ∈ Cond.classLink own ik cls :: Cond.initialized cls :: vx_atS own ic cls names, vx_ot w = true)
    (hU : vx_Zq Bundle.tN "UNASSIGNED_STACK" Bundle.steD A s s.heap) (hN : vx_Zq Bundle.tN "SUPPRESSED_SENTINEL" Bundle.listD A s s.heap) (hS : va_S A s.heap H locs) (hsize : ls.size = c.maxLocals)
    (d0 : decode cc pc = .ok (.new ik, 3)) (d3 : decode cc (pc + 3) = .ok (.dup, 1)) (d4 : decode cc (pc + 4) = .ok (.ldc_w is, 3)) (d7 : decode cc (pc + 7) = .ok (.invokespecial ic, 3)) (d10 : decode cc (pc + 10) = .ok (.athrow, 1))
    (hout : ∀ x ∈ c.exceptionTable.toList, covers x (pc + 10) = false)
    (hRframes : names.length + 3 < R.frames) (hRlocals : (rest.map fun v => v.category).sum + (13 * (names.length + 1) + 43) ≤ R.locals) (hRcells : cells + 1 ≤ R.cells) (hRslots : slots + 6 ≤ R.slots) (hlocks : meth.locks = false)
    (hx : ∀ t : State, s.vm.Alike t.vm → H.size ≤ t.heap.size → (∀ q : Nat, q < H.size → t.heap[q]? = H[q]?) → XC cls s t)
    (hf : ∀ z ∈ locs, free z.base) (hc : cells + 1 ≤ mc) (hs : slots + 6 ≤ ms) :
    W p l e R s m args below meth c H locs cells slots (vx_MQ below Qc XC args s mc ms free) (F0 m pc ls rest) := by
  intro T hT X
  have htr : e.platform.stackTraces = false := (show e.platform.stackTraces = l.stackTraces by rw [X.admits.platform]).trans hl
  have Y := vx_rebase X (R' := { frames := R.frames, locals := R.locals, cells := 1, slots := 6 }) (Nat.le_refl _) (Nat.le_refl _) hRcells hRslots
  obtain ⟨s', hA⟩ : ∃ z, z = (T.setVm s.vm).setFrames (.invoking m args :: below) := ⟨_, rfl⟩
  rw [← hA] at Y
  have hvm : s'.vm = s.vm := by rw [hA]; rfl
  have hhp : s'.heap = H := by rw [hA]; exact hT
  have hW0 : s.WarmedH s'.vm := by rw [hvm]; exact State.WarmedH.refl s
  have hat' : ∀ w ∈ vx_atS own ic cls names, w.before args s' = true := fun w hw => vx_ot_at hW0 hvm.symm (hgood w (List.mem_cons_of_mem _ (List.mem_cons_of_mem _ hw))) (hat w hw)
  have hk' : (Cond.classLink own ik cls).before args s' = true := vx_ot_at hW0 hvm.symm (hgood _ List.mem_cons_self) hk
  have hini' : (Cond.initialized cls).before args s' = true := vx_ot_at hW0 hvm.symm (hgood _ (List.mem_cons_of_mem _ List.mem_cons_self)) hini
  have hU' : vx_Zq Bundle.tN "UNASSIGNED_STACK" Bundle.steD A s' s'.heap := by rw [hhp]; exact vx_Zq.moved hW0.alike (hU.kept hS.2.1)
  have hN' : vx_Zq Bundle.tN "SUPPRESSED_SENTINEL" Bundle.listD A s' s'.heap := by rw [hhp]; exact vx_Zq.moved hW0.alike (hN.kept hS.2.1)
  have h : ∀ w ∈ Bundle.ownAtoms own ic cls names, w.before args s' = true := vx_own hat' (vx_isRefq hU'.1) (vx_isRefq hN'.1) hU'.2.word hN'.2.word
  have hown' : s'.vm.findClass own = some m.cls := by rw [hvm]; exact hown
  have hins : (Cond.instantiable cls 6).before args s' = true := h _ (by simp [Bundle.ownAtoms])
  obtain ⟨vm₁, cX, kX, hfX, hkX, -, -, X₁, st1⟩ := Y.newCold hexec (own := own) (C := cls) (index := ik) (n := 6) hown' hk' hins hini'
    (g := F0 m pc ls rest) rfl (by rw [hb]; exact d0) (Nat.le_refl _) (Nat.le_refl _)
  generalize hT1 : (T.setVm vm₁).pushCell { cls := cX, slots := kX.instanceTypes.map defaultValue, vm := .none } = T1 at X₁ st1
  have hcat : (Value.ref T.heap.size).category = 1 := rfl
  have hcellA : T1.heap[T.heap.size]? = some (freshCell cX kX) := by rw [← hT1]; exact State.heap_pushCell_size _ _
  have d3' : decode c.code (pc + 3) = .ok (.dup, 1) := by rw [hb]; exact d3
  have d4' : decode c.code (pc + 4) = .ok (.ldc_w is, 3) := by rw [hb]; exact d4
  have hstr' : vk_R own is text sa s' := vk_R.warm hW0 hstr
  obtain ⟨U, hsteps, hrun, hend, hW, hsame, ce, hce, hO⟩ := X₁.ctorThrowS hexec htr (own := own) (cls := cls) (names := names) (ic := ic) hown' hcls hnames h (fun x hx => nomatch hx) hfX hkX hcellA (by rw [hhp, hT]; exact Nat.le_refl _) (msg := .ref sa) rfl
    (g := { method := m, pc := pc + 7, locals := ls, stack := .ref sa :: .ref T.heap.size :: .ref T.heap.size :: rest, locked := none }) rfl hsize rfl rfl (rest := rest) rfl
    (by rw [hb]; exact d7) (by rw [hb]; exact d10) hout hRframes (by simp only [List.map_cons, List.sum_cons, hcat]; omega) hlocks
  obtain ⟨f1, f2⟩ := vx_frame hsame
  rw [hhp] at f1 f2
  have hWs : s.WarmedH U.vm := State.WarmedH.trans hW0 hW
  have hcl : s.vm.findClass cls = some ce.cls := by
    have h9 := hO.cls
    rw [hvm] at h9
    exact h9
  have hall : s.sameButNew ({ U with vm := s.vm } : State) locs mc ms := by
    subst hA
    obtain ⟨e1, e2⟩ := hsame
    rw [State.setFrames_setFrames] at e1
    have h2 : (T.setVm s.vm).sameButNew ({ U with vm := s.vm } : State) [] (0 + 1) (0 + 6) := ⟨e1, e2⟩
    have h3 := X.same.trans h2
    rw [List.append_nil] at h3
    exact h3.mono hc hs
  refine ⟨U, ?_, .threw T.heap.size, hrun, hend, Or.inr ⟨T.heap.size, rfl, cls, ce, locs, hx U hWs.alike f1 (fun q hq => f2 q hq (fun z hz => nomatch hz)), hce, hO.vm, hcl, hWs, hall, hf⟩⟩
  refine st1 _ ?_
  show Steps p.tables e below (T1.setTop { method := m, pc := pc + 3, locals := ls, stack := .ref T.heap.size :: rest, locked := none }) _
  jvm_step X₁.here [X₁.here.top, hexec, d3', Value.category]
  exact X₁.ldcStringW hexec (own := own) (text := text) (index := is) (a := sa) hown' hstr'.1 hstr'.2
    (g := { method := m, pc := pc + 4, locals := ls, stack := .ref T.heap.size :: .ref T.heap.size :: rest, locked := none }) rfl d4' _ hsteps
end Ends
section Bodies
variable {l : Launch}
theorem vx_ofW {y : MethodName} {ws ws' : List Cond} {rm : Room} {Pc : Array Value → State → Prop} {Qc : Array Value → State → Outcome → State → Prop} {XC : String → State → State → Prop} {mc ms : Nat} {free : Addr → Prop} {cc : ByteArray} {maxL : Nat} {ret : Option FieldType}
    (hy : plainName y.cls = true) (hw : ws = Cond.code y cc maxL ret :: ws')
    (body : ∀ p e s m args below meth c s₁, BodyLoose p l y (headSpec ws rm) cc maxL ret e s m args below meth c s₁ → c.maxLocals = maxL → (∀ x ∈ c.exceptionTable.toList, False) → Pc args s →
      W p l e (headSpec ws rm).room s m args below meth c s.heap [] 0 0 (vx_MQ below Qc XC args s mc ms free) (entryFrame m args maxL)) : vx_Met l y ws rm Pc Qc XC mc ms free := by
  refine MetFree.of_bodyS (code := cc) (maxLocals := maxL) (ret := ret) hy ?_ ?_
  · intro args s m h hn
    obtain ⟨meth, c, h1, h2, h3, h4, h5, h6, -, -⟩ := Cond.code_spec hn (atoms_spec (ws := ws) h _ (by rw [hw]; exact List.mem_cons_self))
    exact ⟨meth, c, h1, h2, h3, h4, h5, h6⟩
  · intro p e s m args below meth c s₁ B hml hP _
    have hh0 : s₁.heap = s.heap := by rw [B.state]; rfl
    have ht : ∀ x ∈ c.exceptionTable.toList, False := by
      obtain ⟨meth9, c9, h1, h2, -, -, -, -, h7, -⟩ := Cond.code_spec B.named (atoms_spec (ws := ws) B.pre _ (by rw [hw]; exact List.mem_cons_self))
      cases Option.some.inj (h1.symm.trans B.method)
      cases Option.some.inj (h2.symm.trans (Stand.of_body B).code)
      intro x hx
      rw [Array.isEmpty_iff.mp h7] at hx
      cases hx
    obtain ⟨t, a1, o, b1, b2, b3⟩ := body p e s m args below meth c s₁ B hml ht hP s₁ hh0 (Stand.of_body B)
    exact ⟨t, o, a1, b1, b2, b3⟩
/-- the table of a body with handlers -/
theorem vx_table {p : Program} {x y : MethodName} {S : Spec} {cc bytes : ByteArray} {maxL maxL' : Nat} {ret ret' : Option FieldType} {e : Env} {s s₁ : State} {m : MethodId} {args : Array Value} {below : List Frame} {meth : Method} {c : Code} {hh : List (Nat × Nat × Nat × Nat)}
    (B : BodyLoose p l y S cc maxL ret e s m args below meth c s₁) (h : (Cond.codeWith y bytes maxL' ret' hh).before args s = true) : c.exceptionTable.toList = tableOf hh := by
  obtain ⟨m9, meth9, c9, hn9, h1, h2, -, -, h6, -⟩ := Cond.codeWith_spec h
  cases Option.some.inj (hn9.symm.trans B.named)
  cases Option.some.inj (h1.symm.trans B.method)
  cases Option.some.inj (h2.symm.trans (Stand.of_body B).code)
  rw [← h6, table_eq]
end Bodies
end VXA
/-! ===== END ===== -/
/-! ===== BEGIN a static call of a method with an exception table ===== -/
section VXS
variable {p : Program} {l : Launch} {e : Env} {R : Room} {s : State} {m : MethodId} {args : Array Value} {below : List Frame} {meth : Method} {c : Code} {T : State} {H : Heap} {locs : List Loc} {cells slots : Nat}
abbrev vx_CSW (R : Room) (s : State) (args : Array Value) (own : String) (index : Nat) (y : MethodName) (bytes : ByteArray) (maxL : Nat) (ret : Option FieldType) (hh : List (Nat × Nat × Nat × Nat)) (ws : List Cond) (rm : Room) (mc ms n : Nat) : Prop :=
  (rm.cells = mc ∧ rm.slots = ms ∧ rm.frames + 1 ≤ R.frames ∧ 8 + (maxL + 11) + rm.locals ≤ R.locals ∧ (∀ w ∈ ws, ∀ (a' : Array Value) (U : State), s.WarmedH U.vm → w.before a' U = true) ∧ Cond.codeWith y bytes maxL ret hh ∈ ws) ∧
  (Cond.codeWith y bytes maxL ret hh).before args s = true ∧ (Cond.initialized y.cls).before args s = true ∧ (y.cls ≠ "java/lang/invoke/MethodHandle" ∧ y.cls ≠ "java/lang/invoke/VarHandle") ∧
  (∀ sig, parseMethodDescriptor y.desc = some sig → n = sig.parameters.length) ∧ (Cond.methodLink own index y).before args s = true ∧ (Cond.static y).before args s = true
theorem vx_cwSW {own : String} {index maxL mc ms : Nat} {y : MethodName} {bytes : ByteArray} {ret : Option FieldType} {hh : List (Nat × Nat × Nat × Nat)} {Ts ws ws' : List Cond} {rm : Room} (n : Nat) (ht : ∀ w ∈ Ts, w.before args s = true) (hT : GoodIn Ts (va_wsS own index y ws)) (hw : ws = Cond.codeWith y bytes maxL ret hh :: ws') (hrc : rm.cells = mc) (hrs : rm.slots = ms)
    (hd : y.cls ≠ "java/lang/invoke/MethodHandle" ∧ y.cls ≠ "java/lang/invoke/VarHandle" ∧ (parseMethodDescriptor y.desc).map (fun d => d.parameters.length) = some n) (hR : rm.frames + 1 ≤ R.frames ∧ 8 + (maxL + 11) + rm.locals ≤ R.locals) :
    vx_CSW R s args own index y bytes maxL ret hh ws rm mc ms n := by
  have ok : ∀ w ∈ va_wsS own index y ws, w.before args s = true := fun w h => ht w (hT w h).1
  have hG : GoodIn Ts ws := fun w h => hT w (by unfold va_wsS; exact List.mem_append_right _ h)
  have hc : Cond.codeWith y bytes maxL ret hh ∈ ws := by rw [hw]; exact List.mem_cons_self
  refine ⟨⟨hrc, hrs, hR.1, hR.2, pay_in ht hG, hc⟩, ht _ (hG _ hc).1, ok _ (by simp [va_wsS]), ⟨hd.1, hd.2.1⟩, fun sig h => ?_, ok _ (by simp [va_wsS]), ok _ (by simp [va_wsS])⟩
  have h2 := hd.2.2
  rw [h] at h2
  exact (Option.some.inj h2).symm
theorem vx_callSW (X : Stand p l e R s m args below meth c T locs cells slots) (hexec : p.tables.exec = Jvm.exec) {own : String} {index : Nat} {y : MethodName} {bytes : ByteArray} {maxL : Nat} {ret : Option FieldType} {hh : List (Nat × Nat × Nat × Nat)}
    (hown : s.vm.findClass own = some m.cls) (hlink : (Cond.methodLink own index y).before args s = true) (hstat : (Cond.static y).before args s = true) (hinit : (Cond.initialized y.cls).before args s = true)
    (hcode : (Cond.codeWith y bytes maxL ret hh).before args s = true) (hy : y.cls ≠ "java/lang/invoke/MethodHandle" ∧ y.cls ≠ "java/lang/invoke/VarHandle")
    {W9 : Nat} {Pre : Pt → Array Value → Prop} {Post : Pt → Array Value → Option Value → Pt → Prop} (hK : Back l R p e below s args y 3 W9 Pre Post)
    {g : JFrame} (hg : g.method = m) (hsize : g.locals.size = c.maxLocals) {argsL rest : List Value} (hlen : ∀ sig, parseMethodDescriptor y.desc = some sig → argsL.length = sig.parameters.length)
    (hstack : g.stack = argsL.reverse ++ rest) (hW : 2 * g.monitorRoom + (rest.map fun v => v.category).sum ≤ W9) (hdg : decode c.code g.pc = .ok (.invokestatic index, 3))
    (hpre : ∀ vm₁, s.WarmedH vm₁ → Pre ⟨T.setVm vm₁, locs, cells, slots⟩ argsL.toArray) :
    ∃ (v : Option Value) (vm₁ : Vm) (B : Pt), s.WarmedH vm₁ ∧ Stand p l e R s m args below meth c B.U B.locs B.cells B.slots ∧ Post ⟨T.setVm vm₁, locs, cells, slots⟩ argsL.toArray v B ∧
      ∀ target, Steps p.tables e below (B.U.setTop { g with pc := g.pc + 3, stack := v.toList ++ rest }) target → Steps p.tables e below (T.setTop g) target := by
  obtain ⟨mk, methM, cM, hnamed, hmethM, -, -, -, -, -, -, hsigM⟩ := Cond.codeWith_spec hcode
  have hstatic : methM.isStatic = true := Cond.static_spec hnamed hmethM hstat
  obtain ⟨kP, hkP, -⟩ := className_of_methodNamed hnamed
  have hinitP : kP.init = .initialized := Cond.initialized_spec (findClass_of_methodNamed hnamed) hkP hinit
  obtain ⟨vm₁, X₁, hstep₁⟩ := X.invokestatic hexec hown hlink hnamed hmethM hstatic hkP hinitP hy (g := g) hg (argsL := argsL) (rest := rest) (hlen _ hsigM) hstack hdg
  obtain ⟨v, B, X', hpost, hsteps⟩ := hK m meth c ⟨T.setVm vm₁, locs, cells, slots⟩ { g with stack := rest } (.invokestatic index) mk argsL.toArray X₁ hg hsize hdg hW (X₁.named hnamed) (hpre vm₁ X₁.warmed)
  exact ⟨v, vm₁, B, X₁.warmed, X', hpost, fun target h => hstep₁ _ fun acts => by rw [doInvoke_state]; exact hsteps.trans h⟩
theorem vx_runSW {y : MethodName} {bytes cc : ByteArray} {maxL nL mc ms n index : Nat} {ret : Option FieldType} {hh : List (Nat × Nat × Nat × Nat)} {ws : List Cond} {rm : Room} {Pc : Array Value → State → Prop} {Qc : Array Value → State → Outcome → State → Prop} {free : Addr → Prop} {Ts : List Cond} {own : String} {As rest : List Value} {g : JFrame}
    (S : CallFix p m c cc nL s args Ts own) (hM : Met l y ws rm Pc Qc mc ms free) (cw : vx_CSW R s args own index y bytes maxL ret hh ws rm mc ms n) (hp : PreS s H Pc As)
    (hg : g.method = m) (hn : As.length = n) (hsize : g.locals.size = nL) (hstack : g.stack = As.reverse ++ rest) (hW : 2 * g.monitorRoom + (rest.map fun v => v.category).sum ≤ 8) (hdg : decode cc g.pc = .ok (.invokestatic index, 3)) (hf : cells + mc ≤ R.cells ∧ slots + ms ≤ R.slots) :
    va_Run p l e R s m args below meth c H locs cells slots mc ms g rest (Qc As.toArray) (free) := by
  obtain ⟨⟨hrc, hrs, hfr, hlo, hws, hcw⟩, hcode, hini, hy, hlen, hl, hstt⟩ := cw
  have hK : Back l R p e below s args y 3 8 (PreOf R mc ms Pc) (PostOf Qc mc ms free) := va_backW (hh := hh) (bytes := bytes) (maxL := maxL) (ret := ret) hM hp.1 hrc hrs hfr hlo hws hcw (fun a' U hW => word_at hW (Or.inl (by first | rfl | simp [Cond.onTables, Cond.keeps, Cond.steady])) hini)
  obtain ⟨hx, hb, hml, ho, -⟩ := S
  intro T hT X
  obtain ⟨v, vm₁, ⟨U', l2, c2, s2⟩, hW₁, X', ⟨g', mk, t, L, e1, e2, hq, h1, hL, h2, h3⟩, st⟩ := vx_callSW X hx (hh := hh) (bytes := bytes) (maxL := maxL) (ret := ret) ho hl hstt hini hcode hy hK hg (hsize.trans hml.symm) (argsL := As) (rest := rest) (fun sig h => hn.trans (hlen sig h)) hstack hW (by rw [hb]; exact hdg)
    (fun vm₁ hW₁ => ⟨hf.1, hf.2, hp.2 (T.setVm vm₁) hT hW₁⟩)
  dsimp only [Pt.U, Pt.locs, Pt.cells, Pt.slots] at X' e1 e2 h1 h2 h3 st
  subst h1; subst h2; subst h3
  exact ⟨v, (T.setVm vm₁).calling g' mk As.toArray, t, U', L, hT, X', hL, e1, e2, hq, st⟩
/-- not caught here, past rows that name other classes: it goes on to the caller -/
theorem vx_outP {p : Program} {l : Launch} {e : Env} {R : Room} {s : State} {m : MethodId} {args : Array Value} {below : List Frame} {meth : Method} {c : Code} {H : Heap} {locs : List Loc} {cells slots : Nat} {free : Addr → Prop} {ls : Array Slot} {rest : List Value} {Qc : Array Value → State → Outcome → State → Prop} {XC : String → State → State → Prop}
    {pc : Nat} {own E : String} {ce : Cell} {q : Addr} {mc ms : Nat} (hown : s.vm.findClass own = some m.cls) (hlocks : meth.locks = false)
    (hpass : ∀ z ∈ c.exceptionTable.toList, covers z pc = false ∨ (z.catchType ≠ 0 ∧ ∃ nm : String, (Cond.classLink own z.catchType nm).before args s = true ∧ va_Nc E nm s)) (hcell : H[q]? = some ce) (hv : ce.vm = .none) (hcl : s.vm.findClass E = some ce.cls)
    (hx : ∀ t : State, t.heap = H → s.vm.Alike t.vm → XC E s t) (hf : ∀ z ∈ locs, free z.base) (hc : cells ≤ mc) (hs : slots ≤ ms) :
    vx_W p l e R s m args below meth c H locs cells slots (vx_MQ below Qc XC args s mc ms free) (F0 m pc ls rest) q := by
  intro T hT X
  have hpl : e.platform.magicAccessors = ({} : Platform).magicAccessors := by rw [X.admits.platform]
  obtain ⟨vm', hW', X', st⟩ := X.outThrough hlocks q (g := F0 m pc ls rest) rfl rfl rfl (cell := ce) (by rw [hT]; exact hcell) (by rw [hv]; rfl)
    (by obtain ⟨k9, h9, -⟩ := Vm.findClass_spec hcl; exact ⟨k9, h9⟩) (fun z hz => by
      rcases hpass z hz with h | ⟨hz0, nm, hl1, hn1⟩
      · exact Or.inl h
      · obtain ⟨c6, hc6, hcl6⟩ := Cond.classLink_spec hown hl1 e.platform hpl
        obtain ⟨a8, b8, h1, h2, h3⟩ := hn1
        cases Option.some.inj (h1.symm.trans hcl)
        cases Option.some.inj (h2.symm.trans hc6)
        exact Or.inr ⟨hz0, _, hcl6, h3⟩)
  obtain ⟨g₀, hfr⟩ := X'.frames_eq
  have hcell9 : ((T.setVm vm').setFrames (.throwing q :: below)).heap[q]? = some ce := by
    show T.heap[q]? = some ce
    rw [hT]; exact hcell
  have hend : Ended ((T.setVm vm').setFrames (.throwing q :: below)) below (.threw q) := State.frames_setFrames _ (State.cur_lt_of_frames hfr)
  refine ⟨(T.setVm vm').setFrames (.throwing q :: below), ?_, .threw q, X'.here.running, hend, Or.inr ⟨q, rfl, E, ce, locs, hx _ hT (X'.ends _).1.alike, hcell9, hv, hcl, (X'.ends _).1, (X'.ends _).2.mono hc hs, hf⟩⟩
  rw [X.pushThrowing_eq]
  exact st
/-- a thing of a world lies in the heap -/
theorem vx_lt {D : va_G} {cl : List vw_C} {ws : va_W} {H1 : Heap} (h : va_P D cl ws H1) {k : Nat} {q : Nat × va_E} (hk : ws[k]? = some q) : q.1 < H1.size := (h k q hk).lt
end VXS
/-! ===== END ===== -/
/-! ===== BEGIN methods with a table of their own: called by a name, returning or throwing ===== -/
section VXH
/-! vx_backW, vx_callVX, vx_callSX, vx_callVW, vx_runVW, vx_runVX, vx_runSX, vx_ofWH follow the same proofs as their sisters above (Free/Laws.lean, Shelf42/LK1.lean); vx_outP calls Shelf42/NT130.lean (outThrough). -/
section
variable {l : Launch} {R : Room} {p : Program} {e : Env} {below : List Frame} {s : State} {sargs : Array Value} {y : MethodName} {len W9 : Nat}
theorem vx_backW {ws : List Cond} {rm : Room} {Pc : Array Value → State → Prop} {Qc : Array Value → State → Outcome → State → Prop} {XC : String → State → State → Prop} {mc ms : Nat} {free : Addr → Prop} {bytes : ByteArray} {maxL : Nat} {ret : Option FieldType} {hh : List (Nat × Nat × Nat × Nat)}
    (hM : vx_Met l y ws rm Pc Qc XC mc ms free) (hblind : FrameBlind Pc) (hrc : rm.cells = mc) (hrs : rm.slots = ms)
    (hframes : rm.frames + 1 ≤ R.frames) (hlocals : W9 + (maxL + 11) + rm.locals ≤ R.locals)
    (hws : ∀ w ∈ ws, ∀ a' U, s.WarmedH U.vm → w.before a' U = true) (hcode : Cond.codeWith y bytes maxL ret hh ∈ ws) (hinit : ∀ a' U, s.WarmedH U.vm → (Cond.initialized y.cls).before a' U = true) :
    vx_Back l R p e below s sargs y len W9 (PreOf R mc ms Pc) (PostOf Qc mc ms free) (vx_Post XC mc ms free) := by
  intro m meth c A g ig mk a X hg hsize hdg hW hn hp
  have h1 : (headSpec ws rm).pre.before a A.U = true := atoms_intro fun w hw => hws w hw _ _ X.warmed
  have h2 : (Cond.codeWith y bytes maxL ret hh).before a A.U = true := hws _ hcode _ _ X.warmed
  have h3 : (Cond.initialized y.cls).before a A.U = true := hinit _ _ X.warmed
  have h4 : A.cells + (headSpec ws rm).room.cells ≤ R.cells := by rw [show (headSpec ws rm).room.cells = mc from hrc]; exact hp.1
  have h5 : A.slots + (headSpec ws rm).room.slots ≤ R.slots := by rw [show (headSpec ws rm).room.slots = ms from hrs]; exact hp.2.1
  have hPc : Pc a (A.U.calling g mk a) := hblind _ _ _ _ hp.2.2
  obtain ⟨U, Ls, c0, s0⟩ := A
  dsimp only [Pt.U, Pt.locs, Pt.cells, Pt.slots] at h1 h2 h3 h4 h5 X hn hPc ⊢
  obtain ⟨m9, methY, cY, hn9, hmY, hcY, -, hlY, -⟩ := Cond.codeWith_spec h2
  cases Option.some.inj (hn9.symm.trans hn)
  obtain ⟨kY, hkY, -⟩ := className_of_methodNamed hn
  have hinitY : kY.init = .initialized := Cond.initialized_spec (findClass_of_methodNamed hn) hkY h3
  have h : At U g.method c below := by rw [hg]; exact X.here
  have hlocals9 : W9 + (maxL + 11) + (headSpec ws rm).room.locals ≤ R.locals := hlocals
  have happ : (headSpec ws rm).appliesLoose y e.platform (U.calling g mk a) = true :=
    Spec.appliesLoose_calling (g := g) h hdg hn hkY hinitY
      (X.room_calling (g := g) (R' := (headSpec ws rm).room) hsize hmY hcY hframes (by rw [hlY]; omega) h4 h5) h1
  obtain ⟨mid, hmid⟩ := h.above
  have hfr : (U.setTop g).frames = (.java g :: mid) ++ below := by rw [State.frames_setTop' g h.top, hmid]; rfl
  obtain ⟨o, s₂, hsteps, -, hend, hq⟩ := Steps.callFree hM p X.admits X.cas X.clock (acts := []) hfr happ hPc trivial
  have hq' : vx_Q Qc XC mc ms free a (U.calling g mk a) o s₂ := hq
  rw [State.frames_setTop' g h.top] at hend
  obtain ⟨g₀, hg0⟩ := Option.isSome_iff_exists.mp h.top
  obtain ⟨r, hr⟩ := State.topJava?_eq_some.mp hg0
  have hr' : (({ U with heap := s₂.heap, slotsUsed := s₂.slotsUsed } : State).setVm s₂.vm).frames = .java g₀ :: r := hr
  rcases hq' with ⟨hqc, L, hfe, hL⟩ | ⟨q, rfl, E, ce, L, hx, hce, hcv, hcl, hW₂, hsm, hL⟩
  · obtain ⟨⟨v, rfl⟩, hW₂, e2, q2, q3, q4, q5, q6⟩ := id hfe
    have e3 : s₂ = ({ (U.calling g mk a).setFrames s₂.frames with heap := s₂.heap, slotsUsed := s₂.slotsUsed } : State).setVm s₂.vm := by
      have : s₂ = ({ s₂ with vm := (U.calling g mk a).vm } : State).setVm s₂.vm := rfl
      rw [e2] at this
      exact this
    obtain ⟨c₂, i₂, len₂, hc₂, hd₂, hf₂⟩ := hend
    have hW' : U.WarmedH s₂.vm := hW₂
    have hcc : c₂ = c := by
      have h1 : s₂.code? g.method = U.code? g.method := by
        rw [State.code?_eq, State.code?_eq, hW'.alike.method?]
      exact Option.some.inj (hc₂.symm.trans (h1.trans h.code))
    subst hcc
    have hlen : len₂ = len := by rw [hdg] at hd₂; cases hd₂; rfl
    subst hlen
    have hs₂ : s₂ = (({ U with heap := s₂.heap, slotsUsed := s₂.slotsUsed } : State).setVm s₂.vm).setTop { g with pc := g.pc + len₂, stack := v.toList ++ g.stack } := by
      refine e3.trans ?_
      rw [hf₂, State.calling_eq h.top, State.setFrames_setFrames, State.setTop_of_frames _ hr', hr]
      rfl
    have hsame : U.sameButNew ({ U with heap := s₂.heap, slotsUsed := s₂.slotsUsed } : State) L mc ms := by
      refine ⟨?_, q2, q3, q4, q5, q6⟩
      obtain ⟨t, ht, -⟩ := State.frames_cons hr
      show ({ U with heap := s₂.heap, slotsUsed := s₂.slotsUsed } : State) = { U.setFrames U.frames with heap := s₂.heap, slotsUsed := s₂.slotsUsed }
      rw [State.setFrames_self ht]
    subst hg
    refine Or.inl ⟨v, ⟨(({ U with heap := s₂.heap, slotsUsed := s₂.slotsUsed } : State).setVm s₂.vm), Ls ++ L, c0 + mc, s0 + ms⟩,
      ⟨X.admits, X.cas, X.clock, X.frames, X.room, X.hears, X.method, X.code, (X.here.setHeapUsed s₂.heap s₂.slotsUsed).setVm hW'.alike, X.tail, State.WarmedH.trans X.warmed hW', X.limits, X.bytes, X.same.trans (hsame.setVm s.vm)⟩,
      ⟨g, mk, s₂, L, rfl, rfl, hqc, rfl, hL, rfl, rfl⟩, ?_⟩
    show Steps p.tables e below _ ((({ U with heap := s₂.heap, slotsUsed := s₂.slotsUsed } : State).setVm s₂.vm).setTop { g with pc := g.pc + len₂, stack := v.toList ++ g.stack })
    rw [← hs₂]
    exact hsteps
  · obtain ⟨e2, q2, q3, q4, q5, q6⟩ := id hsm
    have e3 : s₂ = ({ (U.calling g mk a).setFrames s₂.frames with heap := s₂.heap, slotsUsed := s₂.slotsUsed } : State).setVm s₂.vm := by
      have : s₂ = ({ s₂ with vm := (U.calling g mk a).vm } : State).setVm s₂.vm := rfl
      rw [e2] at this
      exact this
    have hf₂ : s₂.frames = .throwing q :: .java g :: U.frames.tail := hend
    have hW' : U.WarmedH s₂.vm := hW₂
    have hs₂ : s₂ = ((({ U with heap := s₂.heap, slotsUsed := s₂.slotsUsed } : State).setVm s₂.vm).setTop g).pushFrame (.throwing q) := by
      refine e3.trans ?_
      rw [hf₂, State.calling_eq h.top, State.setFrames_setFrames, State.pushFrame, State.frames_setTop _ hr', State.setTop_of_frames _ hr', State.setFrames_setFrames, hr]
      rfl
    have hsame : U.sameButNew ({ U with heap := s₂.heap, slotsUsed := s₂.slotsUsed } : State) L mc ms := by
      refine ⟨?_, q2, q3, q4, q5, q6⟩
      obtain ⟨t, ht, -⟩ := State.frames_cons hr
      show ({ U with heap := s₂.heap, slotsUsed := s₂.slotsUsed } : State) = { U.setFrames U.frames with heap := s₂.heap, slotsUsed := s₂.slotsUsed }
      rw [State.setFrames_self ht]
    subst hg
    refine Or.inr ⟨q, ⟨(({ U with heap := s₂.heap, slotsUsed := s₂.slotsUsed } : State).setVm s₂.vm), Ls ++ L, c0 + mc, s0 + ms⟩,
      ⟨X.admits, X.cas, X.clock, X.frames, X.room, X.hears, X.method, X.code, (X.here.setHeapUsed s₂.heap s₂.slotsUsed).setVm hW'.alike, X.tail, State.WarmedH.trans X.warmed hW', X.limits, X.bytes, X.same.trans (hsame.setVm s.vm)⟩,
      ⟨g, mk, s₂, L, E, ce, rfl, rfl, hx, hce, hcv, hcl, rfl, hL, rfl, rfl⟩, ?_⟩
    show Steps p.tables e below _ (((({ U with heap := s₂.heap, slotsUsed := s₂.slotsUsed } : State).setVm s₂.vm).setTop g).pushFrame (.throwing q))
    rw [← hs₂]
    exact hsteps
end
variable {p : Program} {l : Launch} {e : Env} {R : Room} {s : State} {m : MethodId} {args : Array Value} {below : List Frame} {meth : Method} {c : Code} {T : State} {H : Heap} {locs : List Loc} {cells slots : Nat}
theorem vx_callVX (X : Stand p l e R s m args below meth c T locs cells slots) (hexec : p.tables.exec = Jvm.exec) {own C : String} {index : Nat} {y : MethodName} {bytes : ByteArray} {maxL : Nat} {ret : Option FieldType} {hh : List (Nat × Nat × Nat × Nat)}
    (hown : s.vm.findClass own = some m.cls) (hlink : (Cond.methodLink own index y).before args s = true) (hinst : (Cond.instanceMethod y).before args s = true) (hsel : (Cond.selects C y y).before args s = true)
    (hcode : (Cond.codeWith y bytes maxL ret hh).before args s = true) (hy : y.cls ≠ "java/lang/invoke/MethodHandle" ∧ y.cls ≠ "java/lang/invoke/VarHandle")
    {W9 : Nat} {Pre : Pt → Array Value → Prop} {Post : Pt → Array Value → Option Value → Pt → Prop} {PostX : Pt → Array Value → Addr → Pt → Prop} (hK : vx_Back l R p e below s args y 3 W9 Pre Post PostX)
    {b : Addr} {cellB : Cell} (hcell : T.heap[b]? = some cellB) (hobj : cellB.vm.isStatics = false) (hcls : s.vm.findClass C = some cellB.cls)
    {g : JFrame} (hg : g.method = m) (hsize : g.locals.size = c.maxLocals) {argsL rest : List Value} (hlen : ∀ sig, parseMethodDescriptor y.desc = some sig → argsL.length = sig.parameters.length)
    (hstack : g.stack = argsL.reverse ++ .ref b :: rest) (hW : 2 * g.monitorRoom + (rest.map fun v => v.category).sum ≤ W9) (hdg : decode c.code g.pc = .ok (.invokevirtual index, 3))
    (hpre : ∀ vm₁, s.WarmedH vm₁ → Pre ⟨T.setVm vm₁, locs, cells, slots⟩ (Value.ref b :: argsL).toArray) :
    (∃ (v : Option Value) (vm₁ : Vm) (B : Pt), s.WarmedH vm₁ ∧ Stand p l e R s m args below meth c B.U B.locs B.cells B.slots ∧ Post ⟨T.setVm vm₁, locs, cells, slots⟩ (Value.ref b :: argsL).toArray v B ∧
      ∀ target, Steps p.tables e below (B.U.setTop { g with pc := g.pc + 3, stack := v.toList ++ rest }) target → Steps p.tables e below (T.setTop g) target) ∨
    (∃ (q : Addr) (vm₁ : Vm) (B : Pt), s.WarmedH vm₁ ∧ Stand p l e R s m args below meth c B.U B.locs B.cells B.slots ∧ PostX ⟨T.setVm vm₁, locs, cells, slots⟩ (Value.ref b :: argsL).toArray q B ∧
      Steps p.tables e below (T.setTop g) ((B.U.setTop { g with stack := rest }).pushFrame (.throwing q))) := by
  obtain ⟨mk, methM, hnamed, hmethM, hstM, habM⟩ := Cond.instanceMethod_spec hinst
  obtain ⟨m8, methM', cM, hn8, hmethM', -, -, -, -, -, -, hsigM⟩ := Cond.codeWith_spec hcode
  cases Option.some.inj (hn8.symm.trans hnamed)
  cases hmethM.symm.trans hmethM'
  obtain ⟨c2, r2, m2, q1, q2, q3, q4, kP, hkP, hkPi⟩ := Cond.selects_spec hsel
  cases hcls.symm.trans q1
  cases (State.methodFound?_of_named hnamed hy).symm.trans q2
  cases hnamed.symm.trans q3
  have hselP : selectMethod e.platform s.vm cellB.cls mk = .method mk := by rw [Launch.admits_selectMethod X.admits]; exact q4
  obtain ⟨vm₁, X₁, hstep₁⟩ := X.invokevirtual hexec hown hlink hnamed hmethM hstM hkP hkPi hy (a := b) (cell := cellB) hcell
    (fun z h => by rw [h] at hobj; cases hobj) hselP hmethM habM hkP hkPi (g := g) hg (argsL := argsL) (rest := rest) (hlen _ hsigM) hstack hdg
  rcases hK m meth c ⟨T.setVm vm₁, locs, cells, slots⟩ { g with stack := rest } (.invokevirtual index) mk (Value.ref b :: argsL).toArray X₁ hg hsize hdg hW (X₁.named hnamed) (hpre vm₁ X₁.warmed) with ⟨v, B, X', hpost, hsteps⟩ | ⟨q, B, X', hpost, hsteps⟩
  · exact Or.inl ⟨v, vm₁, B, X₁.warmed, X', hpost, fun target h => hstep₁ _ fun acts => by rw [doInvoke_state]; exact hsteps.trans h⟩
  · exact Or.inr ⟨q, vm₁, B, X₁.warmed, X', hpost, hstep₁ _ fun acts => by rw [doInvoke_state]; exact hsteps⟩
theorem vx_callSX (X : Stand p l e R s m args below meth c T locs cells slots) (hexec : p.tables.exec = Jvm.exec) {own : String} {index : Nat} {y : MethodName} {bytes : ByteArray} {maxL : Nat} {ret : Option FieldType} {hh : List (Nat × Nat × Nat × Nat)}
    (hown : s.vm.findClass own = some m.cls) (hlink : (Cond.methodLink own index y).before args s = true) (hstat : (Cond.static y).before args s = true) (hinit : (Cond.initialized y.cls).before args s = true)
    (hcode : (Cond.codeWith y bytes maxL ret hh).before args s = true) (hy : y.cls ≠ "java/lang/invoke/MethodHandle" ∧ y.cls ≠ "java/lang/invoke/VarHandle")
    {W9 : Nat} {Pre : Pt → Array Value → Prop} {Post : Pt → Array Value → Option Value → Pt → Prop} {PostX : Pt → Array Value → Addr → Pt → Prop} (hK : vx_Back l R p e below s args y 3 W9 Pre Post PostX)
    {g : JFrame} (hg : g.method = m) (hsize : g.locals.size = c.maxLocals) {argsL rest : List Value} (hlen : ∀ sig, parseMethodDescriptor y.desc = some sig → argsL.length = sig.parameters.length)
    (hstack : g.stack = argsL.reverse ++ rest) (hW : 2 * g.monitorRoom + (rest.map fun v => v.category).sum ≤ W9) (hdg : decode c.code g.pc = .ok (.invokestatic index, 3))
    (hpre : ∀ vm₁, s.WarmedH vm₁ → Pre ⟨T.setVm vm₁, locs, cells, slots⟩ argsL.toArray) :
    (∃ (v : Option Value) (vm₁ : Vm) (B : Pt), s.WarmedH vm₁ ∧ Stand p l e R s m args below meth c B.U B.locs B.cells B.slots ∧ Post ⟨T.setVm vm₁, locs, cells, slots⟩ argsL.toArray v B ∧
      ∀ target, Steps p.tables e below (B.U.setTop { g with pc := g.pc + 3, stack := v.toList ++ rest }) target → Steps p.tables e below (T.setTop g) target) ∨
    (∃ (q : Addr) (vm₁ : Vm) (B : Pt), s.WarmedH vm₁ ∧ Stand p l e R s m args below meth c B.U B.locs B.cells B.slots ∧ PostX ⟨T.setVm vm₁, locs, cells, slots⟩ argsL.toArray q B ∧
      Steps p.tables e below (T.setTop g) ((B.U.setTop { g with stack := rest }).pushFrame (.throwing q))) := by
  obtain ⟨mk, methM, cM, hnamed, hmethM, -, -, -, -, -, -, hsigM⟩ := Cond.codeWith_spec hcode
  have hstatic : methM.isStatic = true := Cond.static_spec hnamed hmethM hstat
  obtain ⟨kP, hkP, -⟩ := className_of_methodNamed hnamed
  have hinitP : kP.init = .initialized := Cond.initialized_spec (findClass_of_methodNamed hnamed) hkP hinit
  obtain ⟨vm₁, X₁, hstep₁⟩ := X.invokestatic hexec hown hlink hnamed hmethM hstatic hkP hinitP hy (g := g) hg (argsL := argsL) (rest := rest) (hlen _ hsigM) hstack hdg
  rcases hK m meth c ⟨T.setVm vm₁, locs, cells, slots⟩ { g with stack := rest } (.invokestatic index) mk argsL.toArray X₁ hg hsize hdg hW (X₁.named hnamed) (hpre vm₁ X₁.warmed) with ⟨v, B, X', hpost, hsteps⟩ | ⟨q, B, X', hpost, hsteps⟩
  · exact Or.inl ⟨v, vm₁, B, X₁.warmed, X', hpost, fun target h => hstep₁ _ fun acts => by rw [doInvoke_state]; exact hsteps.trans h⟩
  · exact Or.inr ⟨q, vm₁, B, X₁.warmed, X', hpost, hstep₁ _ fun acts => by rw [doInvoke_state]; exact hsteps⟩
theorem vx_callVW (X : Stand p l e R s m args below meth c T locs cells slots) (hexec : p.tables.exec = Jvm.exec) {own C : String} {index : Nat} {y : MethodName} {bytes : ByteArray} {maxL : Nat} {ret : Option FieldType} {hh : List (Nat × Nat × Nat × Nat)}
    (hown : s.vm.findClass own = some m.cls) (hlink : (Cond.methodLink own index y).before args s = true) (hinst : (Cond.instanceMethod y).before args s = true) (hsel : (Cond.selects C y y).before args s = true)
    (hcode : (Cond.codeWith y bytes maxL ret hh).before args s = true) (hy : y.cls ≠ "java/lang/invoke/MethodHandle" ∧ y.cls ≠ "java/lang/invoke/VarHandle")
    {W9 : Nat} {Pre : Pt → Array Value → Prop} {Post : Pt → Array Value → Option Value → Pt → Prop} (hK : Back l R p e below s args y 3 W9 Pre Post)
    {b : Addr} {cellB : Cell} (hcell : T.heap[b]? = some cellB) (hobj : cellB.vm.isStatics = false) (hcls : s.vm.findClass C = some cellB.cls)
    {g : JFrame} (hg : g.method = m) (hsize : g.locals.size = c.maxLocals) {argsL rest : List Value} (hlen : ∀ sig, parseMethodDescriptor y.desc = some sig → argsL.length = sig.parameters.length)
    (hstack : g.stack = argsL.reverse ++ .ref b :: rest) (hW : 2 * g.monitorRoom + (rest.map fun v => v.category).sum ≤ W9) (hdg : decode c.code g.pc = .ok (.invokevirtual index, 3))
    (hpre : ∀ vm₁, s.WarmedH vm₁ → Pre ⟨T.setVm vm₁, locs, cells, slots⟩ (Value.ref b :: argsL).toArray) :
    ∃ (v : Option Value) (vm₁ : Vm) (B : Pt), s.WarmedH vm₁ ∧ Stand p l e R s m args below meth c B.U B.locs B.cells B.slots ∧ Post ⟨T.setVm vm₁, locs, cells, slots⟩ (Value.ref b :: argsL).toArray v B ∧
      ∀ target, Steps p.tables e below (B.U.setTop { g with pc := g.pc + 3, stack := v.toList ++ rest }) target → Steps p.tables e below (T.setTop g) target := by
  obtain ⟨mk, methM, hnamed, hmethM, hstM, habM⟩ := Cond.instanceMethod_spec hinst
  obtain ⟨m8, methM', cM, hn8, hmethM', -, -, -, -, -, -, hsigM⟩ := Cond.codeWith_spec hcode
  cases Option.some.inj (hn8.symm.trans hnamed)
  cases hmethM.symm.trans hmethM'
  obtain ⟨c2, r2, m2, q1, q2, q3, q4, kP, hkP, hkPi⟩ := Cond.selects_spec hsel
  cases hcls.symm.trans q1
  cases (State.methodFound?_of_named hnamed hy).symm.trans q2
  cases hnamed.symm.trans q3
  have hselP : selectMethod e.platform s.vm cellB.cls mk = .method mk := by rw [Launch.admits_selectMethod X.admits]; exact q4
  obtain ⟨vm₁, X₁, hstep₁⟩ := X.invokevirtual hexec hown hlink hnamed hmethM hstM hkP hkPi hy (a := b) (cell := cellB) hcell
    (fun z h => by rw [h] at hobj; cases hobj) hselP hmethM habM hkP hkPi (g := g) hg (argsL := argsL) (rest := rest) (hlen _ hsigM) hstack hdg
  obtain ⟨v, B, X', hpost, hsteps⟩ := hK m meth c ⟨T.setVm vm₁, locs, cells, slots⟩ { g with stack := rest } (.invokevirtual index) mk (Value.ref b :: argsL).toArray X₁ hg hsize hdg hW (X₁.named hnamed) (hpre vm₁ X₁.warmed)
  exact ⟨v, vm₁, B, X₁.warmed, X', hpost, fun target h => hstep₁ _ fun acts => by rw [doInvoke_state]; exact hsteps.trans h⟩
abbrev vx_CVW (R : Room) (s : State) (args : Array Value) (own C : String) (index : Nat) (y : MethodName) (bytes : ByteArray) (maxL : Nat) (ret : Option FieldType) (hh : List (Nat × Nat × Nat × Nat)) (ws : List Cond) (rm : Room) (mc ms n : Nat) : Prop :=
  (rm.cells = mc ∧ rm.slots = ms ∧ rm.frames + 1 ≤ R.frames ∧ 8 + (maxL + 11) + rm.locals ≤ R.locals ∧ (∀ w ∈ ws, ∀ (a' : Array Value) (U : State), s.WarmedH U.vm → w.before a' U = true) ∧ Cond.codeWith y bytes maxL ret hh ∈ ws) ∧
  (Cond.codeWith y bytes maxL ret hh).before args s = true ∧ (Cond.initialized y.cls).before args s = true ∧ (y.cls ≠ "java/lang/invoke/MethodHandle" ∧ y.cls ≠ "java/lang/invoke/VarHandle") ∧
  (∀ sig, parseMethodDescriptor y.desc = some sig → n = sig.parameters.length) ∧ (Cond.methodLink own index y).before args s = true ∧ (Cond.instanceMethod y).before args s = true ∧ (Cond.selects C y y).before args s = true
theorem vx_cwVW {own C : String} {index maxL mc ms : Nat} {y : MethodName} {bytes : ByteArray} {ret : Option FieldType} {hh : List (Nat × Nat × Nat × Nat)} {Ts ws ws' : List Cond} {rm : Room} (n : Nat) (ht : ∀ w ∈ Ts, w.before args s = true) (hT : GoodIn Ts (wsV own index C y ws)) (hw : ws = Cond.codeWith y bytes maxL ret hh :: ws') (hrc : rm.cells = mc) (hrs : rm.slots = ms)
    (hd : y.cls = C ∧ y.cls ≠ "java/lang/invoke/MethodHandle" ∧ y.cls ≠ "java/lang/invoke/VarHandle" ∧ (parseMethodDescriptor y.desc).map (fun d => d.parameters.length) = some n) (hR : rm.frames + 1 ≤ R.frames ∧ 8 + (maxL + 11) + rm.locals ≤ R.locals) :
    vx_CVW R s args own C index y bytes maxL ret hh ws rm mc ms n := by
  obtain ⟨hC, hd⟩ := hd
  subst hC
  have ok : ∀ w ∈ wsV own index y.cls y ws, w.before args s = true := fun w h => ht w (hT w h).1
  have hG : GoodIn Ts ws := fun w h => hT w (by unfold wsV; exact List.mem_append_right _ h)
  have hc : Cond.codeWith y bytes maxL ret hh ∈ ws := by rw [hw]; exact List.mem_cons_self
  refine ⟨⟨hrc, hrs, hR.1, hR.2, pay_in ht hG, hc⟩, ht _ (hG _ hc).1, ok _ (by simp [wsV]), ⟨hd.1, hd.2.1⟩, fun sig h => ?_, ok _ (by simp [wsV]), ok _ (by simp [wsV]), ok _ (by simp [wsV])⟩
  have h2 := hd.2.2
  rw [h] at h2
  exact (Option.some.inj h2).symm
theorem vx_runVW {y : MethodName} {bytes cc : ByteArray} {maxL nL mc ms n index : Nat} {ret : Option FieldType} {hh : List (Nat × Nat × Nat × Nat)} {ws : List Cond} {rm : Room} {Pc : Array Value → State → Prop} {Qc : Array Value → State → Outcome → State → Prop} {free : Addr → Prop} {Ts : List Cond} {own C : String} {b : Addr} {As rest : List Value} {g : JFrame}
    (S : CallFix p m c cc nL s args Ts own) (hM : Met l y ws rm Pc Qc mc ms free) (cw : vx_CVW R s args own C index y bytes maxL ret hh ws rm mc ms n) (hp : PreV s H C b Pc As)
    (hg : g.method = m) (hn : As.length = n) (hsize : g.locals.size = nL) (hstack : g.stack = As.reverse ++ .ref b :: rest) (hW : 2 * g.monitorRoom + (rest.map fun v => v.category).sum ≤ 8) (hdg : decode cc g.pc = .ok (.invokevirtual index, 3)) (hf : cells + mc ≤ R.cells ∧ slots + ms ≤ R.slots) :
    va_Run p l e R s m args below meth c H locs cells slots mc ms g rest (Qc (Value.ref b :: As).toArray) free := by
  obtain ⟨⟨hrc, hrs, hfr, hlo, hws, hcw⟩, hcode, hini, hy, hlen, hl, hin, hse⟩ := cw
  have hK : Back l R p e below s args y 3 8 (PreOf R mc ms Pc) (PostOf Qc mc ms free) := va_backW (hh := hh) (bytes := bytes) (maxL := maxL) (ret := ret) hM hp.1 hrc hrs hfr hlo hws hcw (fun a' U hW => word_at hW (Or.inl (by first | rfl | simp [Cond.onTables, Cond.keeps, Cond.steady])) hini)
  obtain ⟨hx, hb, hml, ho, -⟩ := S
  obtain ⟨-, ⟨cellB, hcB, hoB, hclB⟩, hPc⟩ := hp
  intro T hT X
  obtain ⟨v, vm₁, ⟨U', l2, c2, s2⟩, hW₁, X', ⟨g', mk, t, L, e1, e2, hq, h1, hL, h2, h3⟩, st⟩ := vx_callVW X hx (C := C) (hh := hh) (bytes := bytes) (maxL := maxL) (ret := ret) ho hl hin hse hcode hy hK (by rw [hT]; exact hcB) hoB hclB hg (hsize.trans hml.symm) (argsL := As) (rest := rest) (fun sig h => hn.trans (hlen sig h)) hstack hW (by rw [hb]; exact hdg)
    (fun vm₁ hW₁ => ⟨hf.1, hf.2, hPc (T.setVm vm₁) hT hW₁⟩)
  dsimp only [Pt.U, Pt.locs, Pt.cells, Pt.slots] at X' e1 e2 h1 h2 h3 st
  subst h1; subst h2; subst h3
  exact ⟨v, (T.setVm vm₁).calling g' mk (Value.ref b :: As).toArray, t, U', L, hT, X', hL, e1, e2, hq, st⟩
section
variable {y : MethodName} {bytes cc : ByteArray} {maxL nL mc ms n index : Nat} {ret : Option FieldType} {ws : List Cond} {rm : Room} {Pc : Array Value → State → Prop} {Qc : Array Value → State → Outcome → State → Prop} {XC : String → State → State → Prop} {free : Addr → Prop} {Ts : List Cond} {own C : String} {b : Addr} {As rest : List Value} {g : JFrame}
theorem vx_runVX {hh : List (Nat × Nat × Nat × Nat)} (S : CallFix p m c cc nL s args Ts own) (hM : vx_Met l y ws rm Pc Qc XC mc ms free) (cw : vx_CVW R s args own C index y bytes maxL ret hh ws rm mc ms n) (hp : PreV s H C b Pc As)
    (hg : g.method = m) (hn : As.length = n) (hsize : g.locals.size = nL) (hstack : g.stack = As.reverse ++ .ref b :: rest) (hW : 2 * g.monitorRoom + (rest.map fun v => v.category).sum ≤ 8) (hdg : decode cc g.pc = .ok (.invokevirtual index, 3)) (hf : cells + mc ≤ R.cells ∧ slots + ms ≤ R.slots) :
    vx_Run p l e R s m args below meth c H locs cells slots mc ms g rest (Qc (Value.ref b :: As).toArray) XC free := by
  obtain ⟨⟨hrc, hrs, hfr, hlo, hws, hcw⟩, hcode, hini, hy, hlen, hl, hin, hse⟩ := cw
  have hK : vx_Back l R p e below s args y 3 8 (PreOf R mc ms Pc) (PostOf Qc mc ms free) (vx_Post XC mc ms free) := vx_backW (hh := hh) (bytes := bytes) (maxL := maxL) (ret := ret) hM hp.1 hrc hrs hfr hlo hws hcw (fun a' U hW => word_at hW (Or.inl (by first | rfl | simp [Cond.onTables, Cond.keeps, Cond.steady])) hini)
  obtain ⟨hx, hb, hml, ho, -⟩ := S
  obtain ⟨-, ⟨cellB, hcB, hoB, hclB⟩, hPc⟩ := hp
  intro T hT X
  rcases vx_callVX X hx (C := C) (hh := hh) (bytes := bytes) (maxL := maxL) (ret := ret) ho hl hin hse hcode hy hK (by rw [hT]; exact hcB) hoB hclB hg (hsize.trans hml.symm) (argsL := As) (rest := rest) (fun sig h => hn.trans (hlen sig h)) hstack hW (by rw [hb]; exact hdg)
    (fun vm₁ hW₁ => ⟨hf.1, hf.2, hPc (T.setVm vm₁) hT hW₁⟩) with ⟨v, vm₁, ⟨U', l2, c2, s2⟩, hW₁, X', ⟨g', mk, t, L, e1, e2, hq, h1, hL, h2, h3⟩, st⟩ | ⟨q, vm₁, ⟨U', l2, c2, s2⟩, hW₁, X', ⟨g', mk, t, L, E, ce, e1, e2, hq, hce, hcv, hcl, h1, hL, h2, h3⟩, st⟩
  · dsimp only [Pt.U, Pt.locs, Pt.cells, Pt.slots] at X' e1 e2 h1 h2 h3 st
    subst h1; subst h2; subst h3
    exact Or.inl ⟨v, (T.setVm vm₁).calling g' mk (Value.ref b :: As).toArray, t, U', L, hT, X', hL, e1, e2, hq, st⟩
  · dsimp only [Pt.U, Pt.locs, Pt.cells, Pt.slots] at X' e1 e2 h1 h2 h3 st hcl
    subst h1; subst h2; subst h3
    exact Or.inr ⟨q, (T.setVm vm₁).calling g' mk (Value.ref b :: As).toArray, t, U', L, E, ce, hT, X', hL, e1, e2, hq, hce, hcv, vx_cls hW₁ hcl, st⟩
theorem vx_runSX {hh : List (Nat × Nat × Nat × Nat)} (S : CallFix p m c cc nL s args Ts own) (hM : vx_Met l y ws rm Pc Qc XC mc ms free) (cw : vx_CSW R s args own index y bytes maxL ret hh ws rm mc ms n) (hp : PreS s H Pc As)
    (hg : g.method = m) (hn : As.length = n) (hsize : g.locals.size = nL) (hstack : g.stack = As.reverse ++ rest) (hW : 2 * g.monitorRoom + (rest.map fun v => v.category).sum ≤ 8) (hdg : decode cc g.pc = .ok (.invokestatic index, 3)) (hf : cells + mc ≤ R.cells ∧ slots + ms ≤ R.slots) :
    vx_Run p l e R s m args below meth c H locs cells slots mc ms g rest (Qc As.toArray) XC free := by
  obtain ⟨⟨hrc, hrs, hfr, hlo, hws, hcw⟩, hcode, hini, hy, hlen, hl, hstt⟩ := cw
  have hK : vx_Back l R p e below s args y 3 8 (PreOf R mc ms Pc) (PostOf Qc mc ms free) (vx_Post XC mc ms free) := vx_backW (hh := hh) (bytes := bytes) (maxL := maxL) (ret := ret) hM hp.1 hrc hrs hfr hlo hws hcw (fun a' U hW => word_at hW (Or.inl (by first | rfl | simp [Cond.onTables, Cond.keeps, Cond.steady])) hini)
  obtain ⟨hx, hb, hml, ho, -⟩ := S
  intro T hT X
  rcases vx_callSX X hx (hh := hh) (bytes := bytes) (maxL := maxL) (ret := ret) ho hl hstt hini hcode hy hK hg (hsize.trans hml.symm) (argsL := As) (rest := rest) (fun sig h => hn.trans (hlen sig h)) hstack hW (by rw [hb]; exact hdg)
    (fun vm₁ hW₁ => ⟨hf.1, hf.2, hp.2 (T.setVm vm₁) hT hW₁⟩) with ⟨v, vm₁, ⟨U', l2, c2, s2⟩, hW₁, X', ⟨g', mk, t, L, e1, e2, hq, h1, hL, h2, h3⟩, st⟩ | ⟨q, vm₁, ⟨U', l2, c2, s2⟩, hW₁, X', ⟨g', mk, t, L, E, ce, e1, e2, hq, hce, hcv, hcl, h1, hL, h2, h3⟩, st⟩
  · dsimp only [Pt.U, Pt.locs, Pt.cells, Pt.slots] at X' e1 e2 h1 h2 h3 st
    subst h1; subst h2; subst h3
    exact Or.inl ⟨v, (T.setVm vm₁).calling g' mk As.toArray, t, U', L, hT, X', hL, e1, e2, hq, st⟩
  · dsimp only [Pt.U, Pt.locs, Pt.cells, Pt.slots] at X' e1 e2 h1 h2 h3 st hcl
    subst h1; subst h2; subst h3
    exact Or.inr ⟨q, (T.setVm vm₁).calling g' mk As.toArray, t, U', L, E, ce, hT, X', hL, e1, e2, hq, hce, hcv, vx_cls hW₁ hcl, st⟩
end
end VXH
theorem vx_ofWH {l : Launch} {y : MethodName} {ws ws' : List Cond} {rm : Room} {Pc : Array Value → State → Prop} {Qc : Array Value → State → Outcome → State → Prop} {XC : String → State → State → Prop} {mc ms : Nat} {free : Addr → Prop} {cc : ByteArray} {maxL : Nat} {ret : Option FieldType} {hh : List (Nat × Nat × Nat × Nat)}
    (hy : plainName y.cls = true) (hw : ws = Cond.codeWith y cc maxL ret hh :: ws')
    (body : ∀ p e s m args below meth c s₁, BodyLoose p l y (headSpec ws rm) cc maxL ret e s m args below meth c s₁ → c.maxLocals = maxL → Pc args s →
      W p l e (headSpec ws rm).room s m args below meth c s.heap [] 0 0 (vx_MQ below Qc XC args s mc ms free) (entryFrame m args maxL)) : vx_Met l y ws rm Pc Qc XC mc ms free := by
  refine MetFree.of_bodyS (code := cc) (maxLocals := maxL) (ret := ret) hy ?_ ?_
  · intro args s m h hn
    obtain ⟨m9, meth, c, hn9, h1, h2, h3, h4, -, h5, h6, -⟩ := Cond.codeWith_spec (atoms_spec (ws := ws) h _ (by rw [hw]; exact List.mem_cons_self))
    cases hn.symm.trans hn9
    exact ⟨meth, c, h1, h2, h3, h4, h5, h6⟩
  · intro p e s m args below meth c s₁ B hml hP _
    have hh0 : s₁.heap = s.heap := by rw [B.state]; rfl
    obtain ⟨t, a1, o, b1, b2, b3⟩ := body p e s m args below meth c s₁ B hml hP s₁ hh0 (Stand.of_body B)
    exact ⟨t, o, a1, b1, b2, b3⟩
/-! ===== END ===== -/
end
section
def RX0 : String := "LeastEdits$Board"
def TX0 : u_T := fun k => match k with
  | 0 => ("LeastEdits$Board", "nodeX", "[I", true)
  | 1 => ("LeastEdits$Board", "nodeY", "[I", true)
  | 2 => ("LeastEdits$Board", "spareX", "[I", true)
  | 3 => ("LeastEdits$Board", "spareY", "[I", true)
  | _ => ("LeastEdits$Board", "spares", "I", false)
def tyX0 : Nat → FieldType := fun k => match k with
  | 0 => .array .int
  | 1 => .array .int
  | 2 => .array .int
  | 3 => .array .int
  | _ => .int
abbrev wsX00 : List Cond := u_ws RX0 TX0 5
theorem nmX0 : ∀ a, a < 5 → ∀ b, b < 5 → a ≠ b → (TX0 a).2.1 ≠ (TX0 b).2.1 := by decide +kernel
theorem tyX0_ok : ∀ k, k < 5 → parseFieldDescriptor (TX0 k).2.2.1 = some (tyX0 k) := by decide +kernel
abbrev cX0_init : ByteArray := prog_2_method_1_code
def yX0_init : MethodName := ⟨RX0, "<init>", "()V"⟩
abbrev cX0_putAtOrigin : ByteArray := prog_2_method_2_code
def yX0_putAtOrigin : MethodName := ⟨RX0, "putAtOrigin", "(I)V"⟩
abbrev cX0_moveNode : ByteArray := prog_2_method_3_code
def yX0_moveNode : MethodName := ⟨RX0, "moveNode", "(III)Z"⟩
abbrev cX0_addSpare : ByteArray := prog_2_method_4_code
def yX0_addSpare : MethodName := ⟨RX0, "addSpare", "(II)I"⟩
abbrev cX0_distance : ByteArray := prog_2_method_5_code
def yX0_distance : MethodName := ⟨RX0, "distance", "(II)I"⟩
def RX1 : String := "LeastEdits$Edit"
def TX1 : u_T := fun k => match k with
  | 0 => ("LeastEdits$Edit", "node", "I", false)
  | 1 => ("LeastEdits$Edit", "first", "I", false)
  | _ => ("LeastEdits$Edit", "second", "I", false)
def tyX1 : Nat → FieldType := fun k => match k with
  | 0 => .int
  | 1 => .int
  | _ => .int
abbrev wsX10 : List Cond := u_ws RX1 TX1 3
theorem nmX1 : ∀ a, a < 3 → ∀ b, b < 3 → a ≠ b → (TX1 a).2.1 ≠ (TX1 b).2.1 := by decide +kernel
theorem tyX1_ok : ∀ k, k < 3 → parseFieldDescriptor (TX1 k).2.2.1 = some (tyX1 k) := by decide +kernel
abbrev cX1_init : ByteArray := prog_3_method_1_code
def yX1_init : MethodName := ⟨RX1, "<init>", "()V"⟩
abbrev cX1_put : ByteArray := prog_3_method_2_code
def yX1_put : MethodName := ⟨RX1, "put", "(III)V"⟩
def RX2 : String := "LeastEdits$Goals"
def TX2 : u_T := fun k => match k with
  | 0 => ("LeastEdits$Goals", "mine", "[I", true)
  | 1 => ("LeastEdits$Goals", "due", "[I", true)
  | _ => ("LeastEdits$Goals", "size", "I", false)
def tyX2 : Nat → FieldType := fun k => match k with
  | 0 => .array .int
  | 1 => .array .int
  | _ => .int
abbrev wsX20 : List Cond := u_ws RX2 TX2 3
theorem nmX2 : ∀ a, a < 3 → ∀ b, b < 3 → a ≠ b → (TX2 a).2.1 ≠ (TX2 b).2.1 := by decide +kernel
theorem tyX2_ok : ∀ k, k < 3 → parseFieldDescriptor (TX2 k).2.2.1 = some (tyX2 k) := by decide +kernel
abbrev cX2_init : ByteArray := prog_4_method_1_code
def yX2_init : MethodName := ⟨RX2, "<init>", "()V"⟩
abbrev cX2_add : ByteArray := prog_4_method_2_code
def yX2_add : MethodName := ⟨RX2, "add", "(II)I"⟩
abbrev cX2_difference : ByteArray := prog_4_method_3_code
def yX2_difference : MethodName := ⟨RX2, "difference", "([II)I"⟩
abbrev cX2_agreement : ByteArray := prog_4_method_4_code
def yX2_agreement : MethodName := ⟨RX2, "agreement", "([I)I"⟩
def RX3 : String := "LeastEdits$Net"
def TX3 : u_T := fun k => match k with
  | 0 => ("LeastEdits$Net", "kind", "[I", true)
  | 1 => ("LeastEdits$Net", "first", "[I", true)
  | 2 => ("LeastEdits$Net", "second", "[I", true)
  | 3 => ("LeastEdits$Net", "columns", "[I", true)
  | 4 => ("LeastEdits$Net", "kept", "[Z", true)
  | 5 => ("LeastEdits$Net", "own", "[I", true)
  | 6 => ("LeastEdits$Net", "nodes", "I", false)
  | 7 => ("LeastEdits$Net", "inputs", "I", false)
  | 8 => ("LeastEdits$Net", "olds", "I", false)
  | _ => ("LeastEdits$Net", "askeds", "I", false)
def tyX3 : Nat → FieldType := fun k => match k with
  | 0 => .array .int
  | 1 => .array .int
  | 2 => .array .int
  | 3 => .array .int
  | 4 => .array .boolean
  | 5 => .array .int
  | 6 => .int
  | 7 => .int
  | 8 => .int
  | _ => .int
abbrev wsX30 : List Cond := u_ws RX3 TX3 10
theorem nmX3 : ∀ a, a < 10 → ∀ b, b < 10 → a ≠ b → (TX3 a).2.1 ≠ (TX3 b).2.1 := by decide +kernel
theorem tyX3_ok : ∀ k, k < 10 → parseFieldDescriptor (TX3 k).2.2.1 = some (tyX3 k) := by decide +kernel
abbrev cX3_init : ByteArray := prog_5_method_1_code
def yX3_init : MethodName := ⟨RX3, "<init>", "()V"⟩
abbrev cX3_reset : ByteArray := prog_5_method_2_code
def yX3_reset : MethodName := ⟨RX3, "reset", "()V"⟩
abbrev cX3_hasLiteral : ByteArray := prog_5_method_3_code
def yX3_hasLiteral : MethodName := ⟨RX3, "hasLiteral", "(I)Z"⟩
abbrev cX3_isOf : ByteArray := prog_5_method_4_code
def yX3_isOf : MethodName := ⟨RX3, "isOf", "(II)Z"⟩
abbrev cX3_isOldNode : ByteArray := prog_5_method_5_code
def yX3_isOldNode : MethodName := ⟨RX3, "isOldNode", "(I)Z"⟩
abbrev cX3_firstOld : ByteArray := prog_5_method_6_code
def yX3_firstOld : MethodName := ⟨RX3, "firstOld", "()I"⟩
abbrev cX3_owned : ByteArray := prog_5_method_7_code
def yX3_owned : MethodName := ⟨RX3, "owned", "()I"⟩
abbrev cX3_ownLiteral : ByteArray := prog_5_method_8_code
def yX3_ownLiteral : MethodName := ⟨RX3, "ownLiteral", "(I)I"⟩
abbrev cX3_addInput : ByteArray := prog_5_method_9_code
def yX3_addInput : MethodName := ⟨RX3, "addInput", "()I"⟩
abbrev cX3_addOld : ByteArray := prog_5_method_10_code
def yX3_addOld : MethodName := ⟨RX3, "addOld", "(II)I"⟩
abbrev cX3_addAsked : ByteArray := prog_5_method_11_code
def yX3_addAsked : MethodName := ⟨RX3, "addAsked", "(II)I"⟩
abbrev cX3_addAnd : ByteArray := prog_5_method_12_code
def yX3_addAnd : MethodName := ⟨RX3, "addAnd", "(III)I"⟩
abbrev cX3_rewire : ByteArray := prog_5_method_13_code
def yX3_rewire : MethodName := ⟨RX3, "rewire", "(LLeastEdits$Edit;)V"⟩
abbrev cX3_refreshOldColumns : ByteArray := prog_5_method_14_code
def yX3_refreshOldColumns : MethodName := ⟨RX3, "refreshOldColumns", "()V"⟩
abbrev cX3_keptNodes : ByteArray := prog_5_method_15_code
def yX3_keptNodes : MethodName := ⟨RX3, "keptNodes", "()I"⟩
abbrev cX3_leastOwnLiteralOf : ByteArray := prog_5_method_16_code
def yX3_leastOwnLiteralOf : MethodName := ⟨RX3, "leastOwnLiteralOf", "(I)I"⟩
def RX4 : String := "LeastEdits$Past"
def TX4 : u_T := fun k => match k with
  | 0 => ("LeastEdits$Past", "before", "[LLeastEdits$Edit;", true)
  | 1 => ("LeastEdits$Past", "sizes", "[I", true)
  | _ => ("LeastEdits$Past", "made", "I", false)
def tyX4 : Nat → FieldType := fun k => match k with
  | 0 => .array (.object "LeastEdits$Edit")
  | 1 => .array .int
  | _ => .int
abbrev wsX40 : List Cond := u_ws RX4 TX4 3
theorem nmX4 : ∀ a, a < 3 → ∀ b, b < 3 → a ≠ b → (TX4 a).2.1 ≠ (TX4 b).2.1 := by decide +kernel
theorem tyX4_ok : ∀ k, k < 3 → parseFieldDescriptor (TX4 k).2.2.1 = some (tyX4 k) := by decide +kernel
abbrev cX4_init : ByteArray := prog_6_method_1_code
def yX4_init : MethodName := ⟨RX4, "<init>", "()V"⟩
abbrev cX4_remember : ByteArray := prog_6_method_2_code
def yX4_remember : MethodName := ⟨RX4, "remember", "(LLeastEdits$Net;[LLeastEdits$Edit;I)V"⟩
abbrev cX4_takeBackLast : ByteArray := prog_6_method_3_code
def yX4_takeBackLast : MethodName := ⟨RX4, "takeBackLast", "(LLeastEdits$Net;)V"⟩
def RX5 : String := "LeastEdits$Search"
def TX5 : u_T := fun k => match k with
  | 0 => ("LeastEdits$Search", "net", "LLeastEdits$Net;", true)
  | 1 => ("LeastEdits$Search", "goals", "LLeastEdits$Goals;", true)
  | 2 => ("LeastEdits$Search", "edits", "[LLeastEdits$Edit;", true)
  | 3 => ("LeastEdits$Search", "trial", "[I", true)
  | _ => ("LeastEdits$Search", "shown", "[I", true)
def tyX5 : Nat → FieldType := fun k => match k with
  | 0 => .object "LeastEdits$Net"
  | 1 => .object "LeastEdits$Goals"
  | 2 => .array (.object "LeastEdits$Edit")
  | 3 => .array .int
  | _ => .array .int
abbrev wsX50 : List Cond := u_ws RX5 TX5 5
theorem nmX5 : ∀ a, a < 5 → ∀ b, b < 5 → a ≠ b → (TX5 a).2.1 ≠ (TX5 b).2.1 := by decide +kernel
theorem tyX5_ok : ∀ k, k < 5 → parseFieldDescriptor (TX5 k).2.2.1 = some (tyX5 k) := by decide +kernel
abbrev cX5_init : ByteArray := prog_7_method_1_code
def yX5_init : MethodName := ⟨RX5, "<init>", "(LLeastEdits$Net;LLeastEdits$Goals;)V"⟩
abbrev cX5_fewestEdits : ByteArray := prog_7_method_2_code
def yX5_fewestEdits : MethodName := ⟨RX5, "fewestEdits", "(I)I"⟩
abbrev cX5_showAsItIs : ByteArray := prog_7_method_3_code
def yX5_showAsItIs : MethodName := ⟨RX5, "showAsItIs", "()V"⟩
abbrev cX5_show : ByteArray := prog_7_method_4_code
def yX5_show : MethodName := ⟨RX5, "show", "(II)V"⟩
abbrev cX5_findOne : ByteArray := prog_7_method_5_code
def yX5_findOne : MethodName := ⟨RX5, "findOne", "()Z"⟩
abbrev cX5_findTwo : ByteArray := prog_7_method_6_code
def yX5_findTwo : MethodName := ⟨RX5, "findTwo", "()Z"⟩
abbrev cX5_findPair : ByteArray := prog_7_method_7_code
def yX5_findPair : MethodName := ⟨RX5, "findPair", "(II)Z"⟩
abbrev cX5_findLiterals : ByteArray := prog_7_method_8_code
def yX5_findLiterals : MethodName := ⟨RX5, "findLiterals", "(IIILLeastEdits$Edit;)Z"⟩
abbrev cX5_findPartner : ByteArray := prog_7_method_9_code
def yX5_findPartner : MethodName := ⟨RX5, "findPartner", "(IIII)I"⟩
abbrev cX5_agreementWith : ByteArray := prog_7_method_10_code
def yX5_agreementWith : MethodName := ⟨RX5, "agreementWith", "(IIII)I"⟩
abbrev cX5_setAndSpread : ByteArray := prog_7_method_11_code
def yX5_setAndSpread : MethodName := ⟨RX5, "setAndSpread", "(IIII)V"⟩
def RX6 : String := "LeastEdits$Taking"
def TX6 : u_T := fun k => match k with
  | 0 => ("LeastEdits$Taking", "board", "LLeastEdits$Board;", true)
  | 1 => ("LeastEdits$Taking", "spareOf", "[I", true)
  | _ => ("LeastEdits$Taking", "sum", "I", false)
def tyX6 : Nat → FieldType := fun k => match k with
  | 0 => .object "LeastEdits$Board"
  | 1 => .array .int
  | _ => .int
abbrev wsX60 : List Cond := u_ws RX6 TX6 3
theorem nmX6 : ∀ a, a < 3 → ∀ b, b < 3 → a ≠ b → (TX6 a).2.1 ≠ (TX6 b).2.1 := by decide +kernel
theorem tyX6_ok : ∀ k, k < 3 → parseFieldDescriptor (TX6 k).2.2.1 = some (tyX6 k) := by decide +kernel
abbrev cX6_init : ByteArray := prog_8_method_1_code
def yX6_init : MethodName := ⟨RX6, "<init>", "(LLeastEdits$Board;)V"⟩
abbrev cX6_take : ByteArray := prog_8_method_2_code
def yX6_take : MethodName := ⟨RX6, "take", "([LLeastEdits$Edit;I)V"⟩
abbrev cX6_takeForOne : ByteArray := prog_8_method_3_code
def yX6_takeForOne : MethodName := ⟨RX6, "takeForOne", "(I)V"⟩
abbrev cX6_takeForTwo : ByteArray := prog_8_method_4_code
def yX6_takeForTwo : MethodName := ⟨RX6, "takeForTwo", "(II)V"⟩
abbrev cX6_offer : ByteArray := prog_8_method_5_code
def yX6_offer : MethodName := ⟨RX6, "offer", "(III)V"⟩
def RX7 : String := "LeastEdits"
def TX7 : u_T := fun k => match k with
  | 0 => ("LeastEdits", "net", "LLeastEdits$Net;", true)
  | 1 => ("LeastEdits", "goals", "LLeastEdits$Goals;", true)
  | 2 => ("LeastEdits", "board", "LLeastEdits$Board;", true)
  | 3 => ("LeastEdits", "search", "LLeastEdits$Search;", true)
  | 4 => ("LeastEdits", "taking", "LLeastEdits$Taking;", true)
  | 5 => ("LeastEdits", "past", "LLeastEdits$Past;", true)
  | _ => ("LeastEdits", "ran", "I", false)
def tyX7 : Nat → FieldType := fun k => match k with
  | 0 => .object "LeastEdits$Net"
  | 1 => .object "LeastEdits$Goals"
  | 2 => .object "LeastEdits$Board"
  | 3 => .object "LeastEdits$Search"
  | 4 => .object "LeastEdits$Taking"
  | 5 => .object "LeastEdits$Past"
  | _ => .int
abbrev wsX70 : List Cond := u_ws RX7 TX7 7
theorem nmX7 : ∀ a, a < 7 → ∀ b, b < 7 → a ≠ b → (TX7 a).2.1 ≠ (TX7 b).2.1 := by decide +kernel
theorem tyX7_ok : ∀ k, k < 7 → parseFieldDescriptor (TX7 k).2.2.1 = some (tyX7 k) := by decide +kernel
abbrev cX7_init : ByteArray := prog_1_method_1_code
def yX7_init : MethodName := ⟨RX7, "<init>", "()V"⟩
abbrev cX7_input : ByteArray := prog_1_method_2_code
def yX7_input : MethodName := ⟨RX7, "input", "()I"⟩
abbrev cX7_old : ByteArray := prog_1_method_3_code
def yX7_old : MethodName := ⟨RX7, "old", "(II)I"⟩
abbrev cX7_asked : ByteArray := prog_1_method_4_code
def yX7_asked : MethodName := ⟨RX7, "asked", "(II)I"⟩
abbrev cX7_output : ByteArray := prog_1_method_5_code
def yX7_output : MethodName := ⟨RX7, "output", "(II)I"⟩
abbrev cX7_value : ByteArray := prog_1_method_6_code
def yX7_value : MethodName := ⟨RX7, "value", "(II)I"⟩
abbrev cX7_differing : ByteArray := prog_1_method_7_code
def yX7_differing : MethodName := ⟨RX7, "differing", "()I"⟩
abbrev cX7_witness : ByteArray := prog_1_method_8_code
def yX7_witness : MethodName := ⟨RX7, "witness", "(I)I"⟩
abbrev cX7_matched : ByteArray := prog_1_method_9_code
def yX7_matched : MethodName := ⟨RX7, "matched", "(I)I"⟩
abbrev cX7_keep : ByteArray := prog_1_method_10_code
def yX7_keep : MethodName := ⟨RX7, "keep", "(IZ)Z"⟩
abbrev cX7_place : ByteArray := prog_1_method_11_code
def yX7_place : MethodName := ⟨RX7, "place", "(IJJ)Z"⟩
abbrev cX7_spare : ByteArray := prog_1_method_12_code
def yX7_spare : MethodName := ⟨RX7, "spare", "(JJ)I"⟩
abbrev cX7_run : ByteArray := prog_1_method_13_code
def yX7_run : MethodName := ⟨RX7, "run", "(I)I"⟩
abbrev cX7_edit : ByteArray := prog_1_method_14_code
def yX7_edit : MethodName := ⟨RX7, "edit", "(II)I"⟩
abbrev cX7_used : ByteArray := prog_1_method_15_code
def yX7_used : MethodName := ⟨RX7, "used", "(I)I"⟩
abbrev cX7_length : ByteArray := prog_1_method_16_code
def yX7_length : MethodName := ⟨RX7, "length", "()I"⟩
abbrev cX7_make : ByteArray := prog_1_method_17_code
def yX7_make : MethodName := ⟨RX7, "make", "()I"⟩
abbrev cX7_undo : ByteArray := prog_1_method_18_code
def yX7_undo : MethodName := ⟨RX7, "undo", "()Z"⟩
abbrev cX7_literal : ByteArray := prog_1_method_19_code
def yX7_literal : MethodName := ⟨RX7, "literal", "(II)I"⟩
abbrev cX7_count : ByteArray := prog_1_method_20_code
def yX7_count : MethodName := ⟨RX7, "count", "(I)I"⟩
abbrev cX7_clear : ByteArray := prog_1_method_21_code
def yX7_clear : MethodName := ⟨RX7, "clear", "()V"⟩
abbrev cX7_isTooFar : ByteArray := prog_1_method_22_code
def yX7_isTooFar : MethodName := ⟨RX7, "isTooFar", "(J)Z"⟩
abbrev cX7_column : ByteArray := prog_1_method_23_code
def yX7_column : MethodName := ⟨RX7, "column", "([II)I"⟩
abbrev cX7_leastBit : ByteArray := prog_1_method_24_code
def yX7_leastBit : MethodName := ⟨RX7, "leastBit", "(I)I"⟩
def RX8 : String := "LeastEditsModel"
def TX8 : u_T := fun k => match k with
  | 0 => ("LeastEditsModel", "thrown", "I", false)
  | 1 => ("LeastEditsModel", "nodes", "I", false)
  | 2 => ("LeastEditsModel", "sorts", "[I", true)
  | 3 => ("LeastEditsModel", "ones", "[I", true)
  | 4 => ("LeastEditsModel", "twos", "[I", true)
  | 5 => ("LeastEditsModel", "tables", "[I", true)
  | 6 => ("LeastEditsModel", "kept", "[Z", true)
  | 7 => ("LeastEditsModel", "xs", "[J", true)
  | 8 => ("LeastEditsModel", "ys", "[J", true)
  | 9 => ("LeastEditsModel", "inputs", "I", false)
  | 10 => ("LeastEditsModel", "olds", "I", false)
  | 11 => ("LeastEditsModel", "askeds", "I", false)
  | 12 => ("LeastEditsModel", "outputs", "I", false)
  | 13 => ("LeastEditsModel", "mine", "[I", true)
  | 14 => ("LeastEditsModel", "due", "[I", true)
  | 15 => ("LeastEditsModel", "spares", "I", false)
  | 16 => ("LeastEditsModel", "spareX", "[J", true)
  | 17 => ("LeastEditsModel", "spareY", "[J", true)
  | 18 => ("LeastEditsModel", "found", "Z", false)
  | 19 => ("LeastEditsModel", "edits", "I", false)
  | 20 => ("LeastEditsModel", "editNode", "[I", true)
  | 21 => ("LeastEditsModel", "editOne", "[I", true)
  | 22 => ("LeastEditsModel", "editTwo", "[I", true)
  | 23 => ("LeastEditsModel", "takes", "Z", false)
  | 24 => ("LeastEditsModel", "spareOf", "[I", true)
  | 25 => ("LeastEditsModel", "sum", "J", false)
  | 26 => ("LeastEditsModel", "made", "I", false)
  | 27 => ("LeastEditsModel", "madeCount", "[I", true)
  | 28 => ("LeastEditsModel", "madeNode", "[I", true)
  | 29 => ("LeastEditsModel", "madeOne", "[I", true)
  | _ => ("LeastEditsModel", "madeTwo", "[I", true)
def tyX8 : Nat → FieldType := fun k => match k with
  | 0 => .int
  | 1 => .int
  | 2 => .array .int
  | 3 => .array .int
  | 4 => .array .int
  | 5 => .array .int
  | 6 => .array .boolean
  | 7 => .array .long
  | 8 => .array .long
  | 9 => .int
  | 10 => .int
  | 11 => .int
  | 12 => .int
  | 13 => .array .int
  | 14 => .array .int
  | 15 => .int
  | 16 => .array .long
  | 17 => .array .long
  | 18 => .boolean
  | 19 => .int
  | 20 => .array .int
  | 21 => .array .int
  | 22 => .array .int
  | 23 => .boolean
  | 24 => .array .int
  | 25 => .long
  | 26 => .int
  | 27 => .array .int
  | 28 => .array .int
  | 29 => .array .int
  | _ => .array .int
abbrev wsX80 : List Cond := u_ws RX8 TX8 31
theorem nmX8 : ∀ a, a < 31 → ∀ b, b < 31 → a ≠ b → (TX8 a).2.1 ≠ (TX8 b).2.1 := by decide +kernel
theorem tyX8_ok : ∀ k, k < 31 → parseFieldDescriptor (TX8 k).2.2.1 = some (tyX8 k) := by decide +kernel
abbrev cX8_init : ByteArray := prog_10_method_1_code
def yX8_init : MethodName := ⟨RX8, "<init>", "()V"⟩
abbrev cX8_thrown : ByteArray := prog_10_method_2_code
def yX8_thrown : MethodName := ⟨RX8, "thrown", "()I"⟩
abbrev cX8_isIn : ByteArray := prog_10_method_3_code
def yX8_isIn : MethodName := ⟨RX8, "isIn", "(II)Z"⟩
abbrev cX8_isLiteral : ByteArray := prog_10_method_4_code
def yX8_isLiteral : MethodName := ⟨RX8, "isLiteral", "(I)Z"⟩
abbrev cX8_isOf : ByteArray := prog_10_method_5_code
def yX8_isOf : MethodName := ⟨RX8, "isOf", "(II)Z"⟩
abbrev cX8_table : ByteArray := prog_10_method_6_code
def yX8_table : MethodName := ⟨RX8, "table", "(I)I"⟩
abbrev cX8_work : ByteArray := prog_10_method_7_code
def yX8_work : MethodName := ⟨RX8, "work", "(I)V"⟩
abbrev cX8_workOlds : ByteArray := prog_10_method_8_code
def yX8_workOlds : MethodName := ⟨RX8, "workOlds", "(I)V"⟩
abbrev cX8_isApart : ByteArray := prog_10_method_9_code
def yX8_isApart : MethodName := ⟨RX8, "isApart", "(I)Z"⟩
abbrev cX8_apart : ByteArray := prog_10_method_10_code
def yX8_apart : MethodName := ⟨RX8, "apart", "()I"⟩
abbrev cX8_put : ByteArray := prog_10_method_11_code
def yX8_put : MethodName := ⟨RX8, "put", "(III)I"⟩
abbrev cX8_input : ByteArray := prog_10_method_12_code
def yX8_input : MethodName := ⟨RX8, "input", "()I"⟩
abbrev cX8_old : ByteArray := prog_10_method_13_code
def yX8_old : MethodName := ⟨RX8, "old", "(II)I"⟩
abbrev cX8_asked : ByteArray := prog_10_method_14_code
def yX8_asked : MethodName := ⟨RX8, "asked", "(II)I"⟩
abbrev cX8_output : ByteArray := prog_10_method_15_code
def yX8_output : MethodName := ⟨RX8, "output", "(II)I"⟩
abbrev cX8_value : ByteArray := prog_10_method_16_code
def yX8_value : MethodName := ⟨RX8, "value", "(II)I"⟩
abbrev cX8_differing : ByteArray := prog_10_method_17_code
def yX8_differing : MethodName := ⟨RX8, "differing", "()I"⟩
abbrev cX8_witness : ByteArray := prog_10_method_18_code
def yX8_witness : MethodName := ⟨RX8, "witness", "(I)I"⟩
abbrev cX8_matched : ByteArray := prog_10_method_19_code
def yX8_matched : MethodName := ⟨RX8, "matched", "(I)I"⟩
abbrev cX8_isOld : ByteArray := prog_10_method_20_code
def yX8_isOld : MethodName := ⟨RX8, "isOld", "(I)Z"⟩
abbrev cX8_keep : ByteArray := prog_10_method_21_code
def yX8_keep : MethodName := ⟨RX8, "keep", "(IZ)Z"⟩
abbrev cX8_isNear : ByteArray := prog_10_method_22_code
def yX8_isNear : MethodName := ⟨RX8, "isNear", "(J)Z"⟩
abbrev cX8_place : ByteArray := prog_10_method_23_code
def yX8_place : MethodName := ⟨RX8, "place", "(IJJ)Z"⟩
abbrev cX8_spare : ByteArray := prog_10_method_24_code
def yX8_spare : MethodName := ⟨RX8, "spare", "(JJ)I"⟩
abbrev cX8_isFree : ByteArray := prog_10_method_25_code
def yX8_isFree : MethodName := ⟨RX8, "isFree", "(I)Z"⟩
abbrev cX8_mayBe : ByteArray := prog_10_method_26_code
def yX8_mayBe : MethodName := ⟨RX8, "mayBe", "(I)Z"⟩
abbrev cX8_tryAt : ByteArray := prog_10_method_27_code
def yX8_tryAt : MethodName := ⟨RX8, "tryAt", "(II)Z"⟩
abbrev cX8_trySecond : ByteArray := prog_10_method_28_code
def yX8_trySecond : MethodName := ⟨RX8, "trySecond", "(I)Z"⟩
abbrev cX8_search : ByteArray := prog_10_method_29_code
def yX8_search : MethodName := ⟨RX8, "search", "(I)Z"⟩
abbrev cX8_run : ByteArray := prog_10_method_30_code
def yX8_run : MethodName := ⟨RX8, "run", "(I)I"⟩
abbrev cX8_size : ByteArray := prog_10_method_31_code
def yX8_size : MethodName := ⟨RX8, "size", "(J)J"⟩
abbrev cX8_far : ByteArray := prog_10_method_32_code
def yX8_far : MethodName := ⟨RX8, "far", "(II)J"⟩
abbrev cX8_take : ByteArray := prog_10_method_33_code
def yX8_take : MethodName := ⟨RX8, "take", "()V"⟩
abbrev cX8_edit : ByteArray := prog_10_method_34_code
def yX8_edit : MethodName := ⟨RX8, "edit", "(II)I"⟩
abbrev cX8_used : ByteArray := prog_10_method_35_code
def yX8_used : MethodName := ⟨RX8, "used", "(I)I"⟩
abbrev cX8_length : ByteArray := prog_10_method_36_code
def yX8_length : MethodName := ⟨RX8, "length", "()I"⟩
abbrev cX8_make : ByteArray := prog_10_method_37_code
def yX8_make : MethodName := ⟨RX8, "make", "()I"⟩
abbrev cX8_undo : ByteArray := prog_10_method_38_code
def yX8_undo : MethodName := ⟨RX8, "undo", "()Z"⟩
abbrev cX8_literal : ByteArray := prog_10_method_39_code
def yX8_literal : MethodName := ⟨RX8, "literal", "(II)I"⟩
abbrev cX8_count : ByteArray := prog_10_method_40_code
def yX8_count : MethodName := ⟨RX8, "count", "(I)I"⟩
abbrev cX8_clear : ByteArray := prog_10_method_41_code
def yX8_clear : MethodName := ⟨RX8, "clear", "()V"⟩
def RJ9 : String := "java/lang/Math"
def TJ9 : u_T := fun k => match k with
  | _ => ("", "", "", false)
def tyJ9 : Nat → FieldType := fun k => match k with
  | _ => .int
abbrev wsJ90 : List Cond := u_ws RJ9 TJ9 0
theorem nmJ9 : ∀ a, a < 0 → ∀ b, b < 0 → a ≠ b → (TJ9 a).2.1 ≠ (TJ9 b).2.1 := by decide +kernel
theorem tyJ9_ok : ∀ k, k < 0 → parseFieldDescriptor (TJ9 k).2.2.1 = some (tyJ9 k) := by decide +kernel
abbrev cJ9_abs_0f7a4 : ByteArray := prog_15_method_59_code
def yJ9_abs_0f7a4 : MethodName := ⟨RJ9, "abs", "(I)I"⟩
def RJ0 : String := "java/lang/String"
def TJ0 : u_T := fun k => match k with
  | _ => ("", "", "", false)
def tyJ0 : Nat → FieldType := fun k => match k with
  | _ => .int
abbrev wsJ00 : List Cond := u_ws RJ0 TJ0 0
theorem nmJ0 : ∀ a, a < 0 → ∀ b, b < 0 → a ≠ b → (TJ0 a).2.1 ≠ (TJ0 b).2.1 := by decide +kernel
theorem tyJ0_ok : ∀ k, k < 0 → parseFieldDescriptor (TJ0 k).2.2.1 = some (tyJ0 k) := by decide +kernel
def RJ10 : String := "java/lang/System"
def TJ10 : u_T := fun k => match k with
  | _ => ("", "", "", false)
def tyJ10 : Nat → FieldType := fun k => match k with
  | _ => .int
abbrev wsJ100 : List Cond := u_ws RJ10 TJ10 0
theorem nmJ10 : ∀ a, a < 0 → ∀ b, b < 0 → a ≠ b → (TJ10 a).2.1 ≠ (TJ10 b).2.1 := by decide +kernel
theorem tyJ10_ok : ∀ k, k < 0 → parseFieldDescriptor (TJ10 k).2.2.1 = some (tyJ10 k) := by decide +kernel
def RL : String := "LeastEditsLaw"
abbrev cL_input : ByteArray := method_3_code
def yL_input : MethodName := ⟨RL, "input", "(LLeastEdits;[J)I"⟩
abbrev cL_old : ByteArray := method_4_code
def yL_old : MethodName := ⟨RL, "old", "(LLeastEdits;II[J)I"⟩
abbrev cL_asked : ByteArray := method_5_code
def yL_asked : MethodName := ⟨RL, "asked", "(LLeastEdits;II[J)I"⟩
abbrev cL_output : ByteArray := method_6_code
def yL_output : MethodName := ⟨RL, "output", "(LLeastEdits;II[J)I"⟩
abbrev cL_value : ByteArray := method_7_code
def yL_value : MethodName := ⟨RL, "value", "(LLeastEdits;II[J)I"⟩
abbrev cL_witness : ByteArray := method_8_code
def yL_witness : MethodName := ⟨RL, "witness", "(LLeastEdits;I[J)I"⟩
abbrev cL_matched : ByteArray := method_9_code
def yL_matched : MethodName := ⟨RL, "matched", "(LLeastEdits;I[J)I"⟩
abbrev cL_keep : ByteArray := method_10_code
def yL_keep : MethodName := ⟨RL, "keep", "(LLeastEdits;IZ[J)I"⟩
abbrev cL_place : ByteArray := method_11_code
def yL_place : MethodName := ⟨RL, "place", "(LLeastEdits;IJJ[J)I"⟩
abbrev cL_spare : ByteArray := method_12_code
def yL_spare : MethodName := ⟨RL, "spare", "(LLeastEdits;JJ[J)I"⟩
abbrev cL_run : ByteArray := method_13_code
def yL_run : MethodName := ⟨RL, "run", "(LLeastEdits;I[J)I"⟩
abbrev cL_edit : ByteArray := method_14_code
def yL_edit : MethodName := ⟨RL, "edit", "(LLeastEdits;II[J)I"⟩
abbrev cL_used : ByteArray := method_15_code
def yL_used : MethodName := ⟨RL, "used", "(LLeastEdits;I[J)I"⟩
abbrev cL_length : ByteArray := method_16_code
def yL_length : MethodName := ⟨RL, "length", "(LLeastEdits;[J)I"⟩
abbrev cL_make : ByteArray := method_17_code
def yL_make : MethodName := ⟨RL, "make", "(LLeastEdits;[J)I"⟩
abbrev cL_literal : ByteArray := method_18_code
def yL_literal : MethodName := ⟨RL, "literal", "(LLeastEdits;II[J)I"⟩
abbrev cL_count : ByteArray := method_19_code
def yL_count : MethodName := ⟨RL, "count", "(LLeastEdits;I[J)I"⟩
abbrev cL_law : ByteArray := code
def yL_law : MethodName := ⟨RL, "law", "([I)Z"⟩
theorem dX0_init_0 : decode cX0_init 0 = .ok (.aload_n 0, 1) := by decide +kernel
theorem dX0_init_1 : decode cX0_init 1 = .ok (.invokespecial 3, 3) := by decide +kernel
theorem dX0_init_4 : decode cX0_init 4 = .ok (.aload_n 0, 1) := by decide +kernel
theorem dX0_init_5 : decode cX0_init 5 = .ok (.bipush 38, 2) := by decide +kernel
theorem dX0_init_7 : decode cX0_init 7 = .ok (.newarray .int, 2) := by decide +kernel
theorem dX0_init_9 : decode cX0_init 9 = .ok (.putfield 9, 3) := by decide +kernel
theorem dX0_init_12 : decode cX0_init 12 = .ok (.aload_n 0, 1) := by decide +kernel
theorem dX0_init_13 : decode cX0_init 13 = .ok (.bipush 38, 2) := by decide +kernel
theorem dX0_init_15 : decode cX0_init 15 = .ok (.newarray .int, 2) := by decide +kernel
theorem dX0_init_17 : decode cX0_init 17 = .ok (.putfield 15, 3) := by decide +kernel
theorem dX0_init_20 : decode cX0_init 20 = .ok (.aload_n 0, 1) := by decide +kernel
theorem dX0_init_21 : decode cX0_init 21 = .ok (.bipush 6, 2) := by decide +kernel
theorem dX0_init_23 : decode cX0_init 23 = .ok (.newarray .int, 2) := by decide +kernel
theorem dX0_init_25 : decode cX0_init 25 = .ok (.putfield 18, 3) := by decide +kernel
theorem dX0_init_28 : decode cX0_init 28 = .ok (.aload_n 0, 1) := by decide +kernel
theorem dX0_init_29 : decode cX0_init 29 = .ok (.bipush 6, 2) := by decide +kernel
theorem dX0_init_31 : decode cX0_init 31 = .ok (.newarray .int, 2) := by decide +kernel
theorem dX0_init_33 : decode cX0_init 33 = .ok (.putfield 21, 3) := by decide +kernel
theorem dX0_init_36 : decode cX0_init 36 = .ok (.return_, 1) := by decide +kernel
theorem dX0_putAtOrigin_0 : decode cX0_putAtOrigin 0 = .ok (.aload_n 0, 1) := by decide +kernel
theorem dX0_putAtOrigin_1 : decode cX0_putAtOrigin 1 = .ok (.getfield 9, 3) := by decide +kernel
theorem dX0_putAtOrigin_4 : decode cX0_putAtOrigin 4 = .ok (.iload_n 1, 1) := by decide +kernel
theorem dX0_putAtOrigin_5 : decode cX0_putAtOrigin 5 = .ok (.iconst 0, 1) := by decide +kernel
theorem dX0_putAtOrigin_6 : decode cX0_putAtOrigin 6 = .ok (.iastore, 1) := by decide +kernel
theorem dX0_putAtOrigin_7 : decode cX0_putAtOrigin 7 = .ok (.aload_n 0, 1) := by decide +kernel
theorem dX0_putAtOrigin_8 : decode cX0_putAtOrigin 8 = .ok (.getfield 15, 3) := by decide +kernel
theorem dX0_putAtOrigin_11 : decode cX0_putAtOrigin 11 = .ok (.iload_n 1, 1) := by decide +kernel
theorem dX0_putAtOrigin_12 : decode cX0_putAtOrigin 12 = .ok (.iconst 0, 1) := by decide +kernel
theorem dX0_putAtOrigin_13 : decode cX0_putAtOrigin 13 = .ok (.iastore, 1) := by decide +kernel
theorem dX0_putAtOrigin_14 : decode cX0_putAtOrigin 14 = .ok (.return_, 1) := by decide +kernel
theorem dX0_moveNode_0 : decode cX0_moveNode 0 = .ok (.aload_n 0, 1) := by decide +kernel
theorem dX0_moveNode_1 : decode cX0_moveNode 1 = .ok (.getfield 9, 3) := by decide +kernel
theorem dX0_moveNode_4 : decode cX0_moveNode 4 = .ok (.iload_n 1, 1) := by decide +kernel
theorem dX0_moveNode_5 : decode cX0_moveNode 5 = .ok (.iaload, 1) := by decide +kernel
theorem dX0_moveNode_6 : decode cX0_moveNode 6 = .ok (.iload_n 2, 1) := by decide +kernel
theorem dX0_moveNode_7 : decode cX0_moveNode 7 = .ok (.if_icmp .ne 13, 3) := by decide +kernel
theorem dX0_moveNode_10 : decode cX0_moveNode 10 = .ok (.aload_n 0, 1) := by decide +kernel
theorem dX0_moveNode_11 : decode cX0_moveNode 11 = .ok (.getfield 15, 3) := by decide +kernel
theorem dX0_moveNode_14 : decode cX0_moveNode 14 = .ok (.iload_n 1, 1) := by decide +kernel
theorem dX0_moveNode_15 : decode cX0_moveNode 15 = .ok (.iaload, 1) := by decide +kernel
theorem dX0_moveNode_16 : decode cX0_moveNode 16 = .ok (.iload_n 3, 1) := by decide +kernel
theorem dX0_moveNode_17 : decode cX0_moveNode 17 = .ok (.if_icmp .eq 7, 3) := by decide +kernel
theorem dX0_moveNode_20 : decode cX0_moveNode 20 = .ok (.iconst 1, 1) := by decide +kernel
theorem dX0_moveNode_21 : decode cX0_moveNode 21 = .ok (.goto 4, 3) := by decide +kernel
theorem dX0_moveNode_24 : decode cX0_moveNode 24 = .ok (.iconst 0, 1) := by decide +kernel
theorem dX0_moveNode_25 : decode cX0_moveNode 25 = .ok (.istore 4, 2) := by decide +kernel
theorem dX0_moveNode_27 : decode cX0_moveNode 27 = .ok (.aload_n 0, 1) := by decide +kernel
theorem dX0_moveNode_28 : decode cX0_moveNode 28 = .ok (.getfield 9, 3) := by decide +kernel
theorem dX0_moveNode_31 : decode cX0_moveNode 31 = .ok (.iload_n 1, 1) := by decide +kernel
theorem dX0_moveNode_32 : decode cX0_moveNode 32 = .ok (.iload_n 2, 1) := by decide +kernel
theorem dX0_moveNode_33 : decode cX0_moveNode 33 = .ok (.iastore, 1) := by decide +kernel
theorem dX0_moveNode_34 : decode cX0_moveNode 34 = .ok (.aload_n 0, 1) := by decide +kernel
theorem dX0_moveNode_35 : decode cX0_moveNode 35 = .ok (.getfield 15, 3) := by decide +kernel
theorem dX0_moveNode_38 : decode cX0_moveNode 38 = .ok (.iload_n 1, 1) := by decide +kernel
theorem dX0_moveNode_39 : decode cX0_moveNode 39 = .ok (.iload_n 3, 1) := by decide +kernel
theorem dX0_moveNode_40 : decode cX0_moveNode 40 = .ok (.iastore, 1) := by decide +kernel
theorem dX0_moveNode_41 : decode cX0_moveNode 41 = .ok (.iload 4, 2) := by decide +kernel
theorem dX0_moveNode_43 : decode cX0_moveNode 43 = .ok (.ireturn, 1) := by decide +kernel
theorem dX0_addSpare_0 : decode cX0_addSpare 0 = .ok (.aload_n 0, 1) := by decide +kernel
theorem dX0_addSpare_1 : decode cX0_addSpare 1 = .ok (.getfield 18, 3) := by decide +kernel
theorem dX0_addSpare_4 : decode cX0_addSpare 4 = .ok (.aload_n 0, 1) := by decide +kernel
theorem dX0_addSpare_5 : decode cX0_addSpare 5 = .ok (.getfield 24, 3) := by decide +kernel
theorem dX0_addSpare_8 : decode cX0_addSpare 8 = .ok (.iload_n 1, 1) := by decide +kernel
theorem dX0_addSpare_9 : decode cX0_addSpare 9 = .ok (.iastore, 1) := by decide +kernel
theorem dX0_addSpare_10 : decode cX0_addSpare 10 = .ok (.aload_n 0, 1) := by decide +kernel
theorem dX0_addSpare_11 : decode cX0_addSpare 11 = .ok (.getfield 21, 3) := by decide +kernel
theorem dX0_addSpare_14 : decode cX0_addSpare 14 = .ok (.aload_n 0, 1) := by decide +kernel
theorem dX0_addSpare_15 : decode cX0_addSpare 15 = .ok (.getfield 24, 3) := by decide +kernel
theorem dX0_addSpare_18 : decode cX0_addSpare 18 = .ok (.iload_n 2, 1) := by decide +kernel
theorem dX0_addSpare_19 : decode cX0_addSpare 19 = .ok (.iastore, 1) := by decide +kernel
theorem dX0_addSpare_20 : decode cX0_addSpare 20 = .ok (.aload_n 0, 1) := by decide +kernel
theorem dX0_addSpare_21 : decode cX0_addSpare 21 = .ok (.dup, 1) := by decide +kernel
theorem dX0_addSpare_22 : decode cX0_addSpare 22 = .ok (.getfield 24, 3) := by decide +kernel
theorem dX0_addSpare_25 : decode cX0_addSpare 25 = .ok (.iconst 1, 1) := by decide +kernel
theorem dX0_addSpare_26 : decode cX0_addSpare 26 = .ok (.iadd, 1) := by decide +kernel
theorem dX0_addSpare_27 : decode cX0_addSpare 27 = .ok (.putfield 24, 3) := by decide +kernel
theorem dX0_addSpare_30 : decode cX0_addSpare 30 = .ok (.aload_n 0, 1) := by decide +kernel
theorem dX0_addSpare_31 : decode cX0_addSpare 31 = .ok (.getfield 24, 3) := by decide +kernel
theorem dX0_addSpare_34 : decode cX0_addSpare 34 = .ok (.iconst 1, 1) := by decide +kernel
theorem dX0_addSpare_35 : decode cX0_addSpare 35 = .ok (.isub, 1) := by decide +kernel
theorem dX0_addSpare_36 : decode cX0_addSpare 36 = .ok (.ireturn, 1) := by decide +kernel
theorem dX0_distance_0 : decode cX0_distance 0 = .ok (.aload_n 0, 1) := by decide +kernel
theorem dX0_distance_1 : decode cX0_distance 1 = .ok (.getfield 9, 3) := by decide +kernel
theorem dX0_distance_4 : decode cX0_distance 4 = .ok (.iload_n 1, 1) := by decide +kernel
theorem dX0_distance_5 : decode cX0_distance 5 = .ok (.iaload, 1) := by decide +kernel
theorem dX0_distance_6 : decode cX0_distance 6 = .ok (.aload_n 0, 1) := by decide +kernel
theorem dX0_distance_7 : decode cX0_distance 7 = .ok (.getfield 18, 3) := by decide +kernel
theorem dX0_distance_10 : decode cX0_distance 10 = .ok (.iload_n 2, 1) := by decide +kernel
theorem dX0_distance_11 : decode cX0_distance 11 = .ok (.iaload, 1) := by decide +kernel
theorem dX0_distance_12 : decode cX0_distance 12 = .ok (.isub, 1) := by decide +kernel
theorem dX0_distance_13 : decode cX0_distance 13 = .ok (.invokestatic 28, 3) := by decide +kernel
theorem dX0_distance_16 : decode cX0_distance 16 = .ok (.aload_n 0, 1) := by decide +kernel
theorem dX0_distance_17 : decode cX0_distance 17 = .ok (.getfield 15, 3) := by decide +kernel
theorem dX0_distance_20 : decode cX0_distance 20 = .ok (.iload_n 1, 1) := by decide +kernel
theorem dX0_distance_21 : decode cX0_distance 21 = .ok (.iaload, 1) := by decide +kernel
theorem dX0_distance_22 : decode cX0_distance 22 = .ok (.aload_n 0, 1) := by decide +kernel
theorem dX0_distance_23 : decode cX0_distance 23 = .ok (.getfield 21, 3) := by decide +kernel
theorem dX0_distance_26 : decode cX0_distance 26 = .ok (.iload_n 2, 1) := by decide +kernel
theorem dX0_distance_27 : decode cX0_distance 27 = .ok (.iaload, 1) := by decide +kernel
theorem dX0_distance_28 : decode cX0_distance 28 = .ok (.isub, 1) := by decide +kernel
theorem dX0_distance_29 : decode cX0_distance 29 = .ok (.invokestatic 28, 3) := by decide +kernel
theorem dX0_distance_32 : decode cX0_distance 32 = .ok (.iadd, 1) := by decide +kernel
theorem dX0_distance_33 : decode cX0_distance 33 = .ok (.ireturn, 1) := by decide +kernel
theorem dX1_init_0 : decode cX1_init 0 = .ok (.aload_n 0, 1) := by decide +kernel
theorem dX1_init_1 : decode cX1_init 1 = .ok (.invokespecial 1, 3) := by decide +kernel
theorem dX1_init_4 : decode cX1_init 4 = .ok (.return_, 1) := by decide +kernel
theorem dX1_put_0 : decode cX1_put 0 = .ok (.aload_n 0, 1) := by decide +kernel
theorem dX1_put_1 : decode cX1_put 1 = .ok (.iload_n 1, 1) := by decide +kernel
theorem dX1_put_2 : decode cX1_put 2 = .ok (.putfield 7, 3) := by decide +kernel
theorem dX1_put_5 : decode cX1_put 5 = .ok (.aload_n 0, 1) := by decide +kernel
theorem dX1_put_6 : decode cX1_put 6 = .ok (.iload_n 2, 1) := by decide +kernel
theorem dX1_put_7 : decode cX1_put 7 = .ok (.putfield 13, 3) := by decide +kernel
theorem dX1_put_10 : decode cX1_put 10 = .ok (.aload_n 0, 1) := by decide +kernel
theorem dX1_put_11 : decode cX1_put 11 = .ok (.iload_n 3, 1) := by decide +kernel
theorem dX1_put_12 : decode cX1_put 12 = .ok (.putfield 16, 3) := by decide +kernel
theorem dX1_put_15 : decode cX1_put 15 = .ok (.return_, 1) := by decide +kernel
theorem dX2_init_0 : decode cX2_init 0 = .ok (.aload_n 0, 1) := by decide +kernel
theorem dX2_init_1 : decode cX2_init 1 = .ok (.invokespecial 3, 3) := by decide +kernel
theorem dX2_init_4 : decode cX2_init 4 = .ok (.aload_n 0, 1) := by decide +kernel
theorem dX2_init_5 : decode cX2_init 5 = .ok (.iconst 4, 1) := by decide +kernel
theorem dX2_init_6 : decode cX2_init 6 = .ok (.newarray .int, 2) := by decide +kernel
theorem dX2_init_8 : decode cX2_init 8 = .ok (.putfield 9, 3) := by decide +kernel
theorem dX2_init_11 : decode cX2_init 11 = .ok (.aload_n 0, 1) := by decide +kernel
theorem dX2_init_12 : decode cX2_init 12 = .ok (.iconst 4, 1) := by decide +kernel
theorem dX2_init_13 : decode cX2_init 13 = .ok (.newarray .int, 2) := by decide +kernel
theorem dX2_init_15 : decode cX2_init 15 = .ok (.putfield 15, 3) := by decide +kernel
theorem dX2_init_18 : decode cX2_init 18 = .ok (.return_, 1) := by decide +kernel
theorem dX2_add_0 : decode cX2_add 0 = .ok (.aload_n 0, 1) := by decide +kernel
theorem dX2_add_1 : decode cX2_add 1 = .ok (.getfield 9, 3) := by decide +kernel
theorem dX2_add_4 : decode cX2_add 4 = .ok (.aload_n 0, 1) := by decide +kernel
theorem dX2_add_5 : decode cX2_add 5 = .ok (.getfield 18, 3) := by decide +kernel
theorem dX2_add_8 : decode cX2_add 8 = .ok (.iload_n 1, 1) := by decide +kernel
theorem dX2_add_9 : decode cX2_add 9 = .ok (.iastore, 1) := by decide +kernel
theorem dX2_add_10 : decode cX2_add 10 = .ok (.aload_n 0, 1) := by decide +kernel
theorem dX2_add_11 : decode cX2_add 11 = .ok (.getfield 15, 3) := by decide +kernel
theorem dX2_add_14 : decode cX2_add 14 = .ok (.aload_n 0, 1) := by decide +kernel
theorem dX2_add_15 : decode cX2_add 15 = .ok (.getfield 18, 3) := by decide +kernel
theorem dX2_add_18 : decode cX2_add 18 = .ok (.iload_n 2, 1) := by decide +kernel
theorem dX2_add_19 : decode cX2_add 19 = .ok (.iastore, 1) := by decide +kernel
theorem dX2_add_20 : decode cX2_add 20 = .ok (.aload_n 0, 1) := by decide +kernel
theorem dX2_add_21 : decode cX2_add 21 = .ok (.dup, 1) := by decide +kernel
theorem dX2_add_22 : decode cX2_add 22 = .ok (.getfield 18, 3) := by decide +kernel
theorem dX2_add_25 : decode cX2_add 25 = .ok (.iconst 1, 1) := by decide +kernel
theorem dX2_add_26 : decode cX2_add 26 = .ok (.iadd, 1) := by decide +kernel
theorem dX2_add_27 : decode cX2_add 27 = .ok (.putfield 18, 3) := by decide +kernel
theorem dX2_add_30 : decode cX2_add 30 = .ok (.aload_n 0, 1) := by decide +kernel
theorem dX2_add_31 : decode cX2_add 31 = .ok (.getfield 18, 3) := by decide +kernel
theorem dX2_add_34 : decode cX2_add 34 = .ok (.iconst 1, 1) := by decide +kernel
theorem dX2_add_35 : decode cX2_add 35 = .ok (.isub, 1) := by decide +kernel
theorem dX2_add_36 : decode cX2_add 36 = .ok (.ireturn, 1) := by decide +kernel
theorem dX2_difference_0 : decode cX2_difference 0 = .ok (.aload_n 1, 1) := by decide +kernel
theorem dX2_difference_1 : decode cX2_difference 1 = .ok (.aload_n 0, 1) := by decide +kernel
theorem dX2_difference_2 : decode cX2_difference 2 = .ok (.getfield 9, 3) := by decide +kernel
theorem dX2_difference_5 : decode cX2_difference 5 = .ok (.iload_n 2, 1) := by decide +kernel
theorem dX2_difference_6 : decode cX2_difference 6 = .ok (.iaload, 1) := by decide +kernel
theorem dX2_difference_7 : decode cX2_difference 7 = .ok (.invokestatic 22, 3) := by decide +kernel
theorem dX2_difference_10 : decode cX2_difference 10 = .ok (.aload_n 1, 1) := by decide +kernel
theorem dX2_difference_11 : decode cX2_difference 11 = .ok (.aload_n 0, 1) := by decide +kernel
theorem dX2_difference_12 : decode cX2_difference 12 = .ok (.getfield 15, 3) := by decide +kernel
theorem dX2_difference_15 : decode cX2_difference 15 = .ok (.iload_n 2, 1) := by decide +kernel
theorem dX2_difference_16 : decode cX2_difference 16 = .ok (.iaload, 1) := by decide +kernel
theorem dX2_difference_17 : decode cX2_difference 17 = .ok (.invokestatic 22, 3) := by decide +kernel
theorem dX2_difference_20 : decode cX2_difference 20 = .ok (.ixor, 1) := by decide +kernel
theorem dX2_difference_21 : decode cX2_difference 21 = .ok (.ireturn, 1) := by decide +kernel
theorem dX2_agreement_0 : decode cX2_agreement 0 = .ok (.iconst 0, 1) := by decide +kernel
theorem dX2_agreement_1 : decode cX2_agreement 1 = .ok (.istore_n 2, 1) := by decide +kernel
theorem dX2_agreement_2 : decode cX2_agreement 2 = .ok (.iconst 0, 1) := by decide +kernel
theorem dX2_agreement_3 : decode cX2_agreement 3 = .ok (.istore_n 3, 1) := by decide +kernel
theorem dX2_agreement_4 : decode cX2_agreement 4 = .ok (.iload_n 3, 1) := by decide +kernel
theorem dX2_agreement_5 : decode cX2_agreement 5 = .ok (.aload_n 0, 1) := by decide +kernel
theorem dX2_agreement_6 : decode cX2_agreement 6 = .ok (.getfield 18, 3) := by decide +kernel
theorem dX2_agreement_9 : decode cX2_agreement 9 = .ok (.if_icmp .ge 18, 3) := by decide +kernel
theorem dX2_agreement_12 : decode cX2_agreement 12 = .ok (.iload_n 2, 1) := by decide +kernel
theorem dX2_agreement_13 : decode cX2_agreement 13 = .ok (.aload_n 0, 1) := by decide +kernel
theorem dX2_agreement_14 : decode cX2_agreement 14 = .ok (.aload_n 1, 1) := by decide +kernel
theorem dX2_agreement_15 : decode cX2_agreement 15 = .ok (.iload_n 3, 1) := by decide +kernel
theorem dX2_agreement_16 : decode cX2_agreement 16 = .ok (.invokevirtual 26, 3) := by decide +kernel
theorem dX2_agreement_19 : decode cX2_agreement 19 = .ok (.ior, 1) := by decide +kernel
theorem dX2_agreement_20 : decode cX2_agreement 20 = .ok (.istore_n 2, 1) := by decide +kernel
theorem dX2_agreement_21 : decode cX2_agreement 21 = .ok (.iinc 3 1, 3) := by decide +kernel
theorem dX2_agreement_24 : decode cX2_agreement 24 = .ok (.goto (-20), 3) := by decide +kernel
theorem dX2_agreement_27 : decode cX2_agreement 27 = .ok (.iload_n 2, 1) := by decide +kernel
theorem dX2_agreement_28 : decode cX2_agreement 28 = .ok (.iconst (-1), 1) := by decide +kernel
theorem dX2_agreement_29 : decode cX2_agreement 29 = .ok (.ixor, 1) := by decide +kernel
theorem dX2_agreement_30 : decode cX2_agreement 30 = .ok (.ireturn, 1) := by decide +kernel
theorem dX3_init_0 : decode cX3_init 0 = .ok (.aload_n 0, 1) := by decide +kernel
theorem dX3_init_1 : decode cX3_init 1 = .ok (.invokespecial 3, 3) := by decide +kernel
theorem dX3_init_4 : decode cX3_init 4 = .ok (.aload_n 0, 1) := by decide +kernel
theorem dX3_init_5 : decode cX3_init 5 = .ok (.bipush 38, 2) := by decide +kernel
theorem dX3_init_7 : decode cX3_init 7 = .ok (.newarray .int, 2) := by decide +kernel
theorem dX3_init_9 : decode cX3_init 9 = .ok (.putfield 9, 3) := by decide +kernel
theorem dX3_init_12 : decode cX3_init 12 = .ok (.aload_n 0, 1) := by decide +kernel
theorem dX3_init_13 : decode cX3_init 13 = .ok (.bipush 38, 2) := by decide +kernel
theorem dX3_init_15 : decode cX3_init 15 = .ok (.newarray .int, 2) := by decide +kernel
theorem dX3_init_17 : decode cX3_init 17 = .ok (.putfield 15, 3) := by decide +kernel
theorem dX3_init_20 : decode cX3_init 20 = .ok (.aload_n 0, 1) := by decide +kernel
theorem dX3_init_21 : decode cX3_init 21 = .ok (.bipush 38, 2) := by decide +kernel
theorem dX3_init_23 : decode cX3_init 23 = .ok (.newarray .int, 2) := by decide +kernel
theorem dX3_init_25 : decode cX3_init 25 = .ok (.putfield 18, 3) := by decide +kernel
theorem dX3_init_28 : decode cX3_init 28 = .ok (.aload_n 0, 1) := by decide +kernel
theorem dX3_init_29 : decode cX3_init 29 = .ok (.bipush 38, 2) := by decide +kernel
theorem dX3_init_31 : decode cX3_init 31 = .ok (.newarray .int, 2) := by decide +kernel
theorem dX3_init_33 : decode cX3_init 33 = .ok (.putfield 21, 3) := by decide +kernel
theorem dX3_init_36 : decode cX3_init 36 = .ok (.aload_n 0, 1) := by decide +kernel
theorem dX3_init_37 : decode cX3_init 37 = .ok (.bipush 38, 2) := by decide +kernel
theorem dX3_init_39 : decode cX3_init 39 = .ok (.newarray .boolean, 2) := by decide +kernel
theorem dX3_init_41 : decode cX3_init 41 = .ok (.putfield 24, 3) := by decide +kernel
theorem dX3_init_44 : decode cX3_init 44 = .ok (.aload_n 0, 1) := by decide +kernel
theorem dX3_init_45 : decode cX3_init 45 = .ok (.bipush 14, 2) := by decide +kernel
theorem dX3_init_47 : decode cX3_init 47 = .ok (.newarray .int, 2) := by decide +kernel
theorem dX3_init_49 : decode cX3_init 49 = .ok (.putfield 28, 3) := by decide +kernel
theorem dX3_init_52 : decode cX3_init 52 = .ok (.aload_n 0, 1) := by decide +kernel
theorem dX3_init_53 : decode cX3_init 53 = .ok (.iconst 1, 1) := by decide +kernel
theorem dX3_init_54 : decode cX3_init 54 = .ok (.putfield 31, 3) := by decide +kernel
theorem dX3_init_57 : decode cX3_init 57 = .ok (.return_, 1) := by decide +kernel
theorem dX3_reset_0 : decode cX3_reset 0 = .ok (.aload_n 0, 1) := by decide +kernel
theorem dX3_reset_1 : decode cX3_reset 1 = .ok (.iconst 1, 1) := by decide +kernel
theorem dX3_reset_2 : decode cX3_reset 2 = .ok (.putfield 31, 3) := by decide +kernel
theorem dX3_reset_5 : decode cX3_reset 5 = .ok (.aload_n 0, 1) := by decide +kernel
theorem dX3_reset_6 : decode cX3_reset 6 = .ok (.iconst 0, 1) := by decide +kernel
theorem dX3_reset_7 : decode cX3_reset 7 = .ok (.putfield 35, 3) := by decide +kernel
theorem dX3_reset_10 : decode cX3_reset 10 = .ok (.aload_n 0, 1) := by decide +kernel
theorem dX3_reset_11 : decode cX3_reset 11 = .ok (.iconst 0, 1) := by decide +kernel
theorem dX3_reset_12 : decode cX3_reset 12 = .ok (.putfield 38, 3) := by decide +kernel
theorem dX3_reset_15 : decode cX3_reset 15 = .ok (.aload_n 0, 1) := by decide +kernel
theorem dX3_reset_16 : decode cX3_reset 16 = .ok (.iconst 0, 1) := by decide +kernel
theorem dX3_reset_17 : decode cX3_reset 17 = .ok (.putfield 41, 3) := by decide +kernel
theorem dX3_reset_20 : decode cX3_reset 20 = .ok (.return_, 1) := by decide +kernel
theorem dX3_hasLiteral_0 : decode cX3_hasLiteral 0 = .ok (.iload_n 1, 1) := by decide +kernel
theorem dX3_hasLiteral_1 : decode cX3_hasLiteral 1 = .ok (.ifCond .lt 17, 3) := by decide +kernel
theorem dX3_hasLiteral_4 : decode cX3_hasLiteral 4 = .ok (.iload_n 1, 1) := by decide +kernel
theorem dX3_hasLiteral_5 : decode cX3_hasLiteral 5 = .ok (.iconst 2, 1) := by decide +kernel
theorem dX3_hasLiteral_6 : decode cX3_hasLiteral 6 = .ok (.aload_n 0, 1) := by decide +kernel
theorem dX3_hasLiteral_7 : decode cX3_hasLiteral 7 = .ok (.getfield 31, 3) := by decide +kernel
theorem dX3_hasLiteral_10 : decode cX3_hasLiteral 10 = .ok (.imul, 1) := by decide +kernel
theorem dX3_hasLiteral_11 : decode cX3_hasLiteral 11 = .ok (.if_icmp .ge 7, 3) := by decide +kernel
theorem dX3_hasLiteral_14 : decode cX3_hasLiteral 14 = .ok (.iconst 1, 1) := by decide +kernel
theorem dX3_hasLiteral_15 : decode cX3_hasLiteral 15 = .ok (.goto 4, 3) := by decide +kernel
theorem dX3_hasLiteral_18 : decode cX3_hasLiteral 18 = .ok (.iconst 0, 1) := by decide +kernel
theorem dX3_hasLiteral_19 : decode cX3_hasLiteral 19 = .ok (.ireturn, 1) := by decide +kernel
theorem dX3_isOf_0 : decode cX3_isOf 0 = .ok (.aload_n 0, 1) := by decide +kernel
theorem dX3_isOf_1 : decode cX3_isOf 1 = .ok (.getfield 9, 3) := by decide +kernel
theorem dX3_isOf_4 : decode cX3_isOf 4 = .ok (.iload_n 2, 1) := by decide +kernel
theorem dX3_isOf_5 : decode cX3_isOf 5 = .ok (.iconst 1, 1) := by decide +kernel
theorem dX3_isOf_6 : decode cX3_isOf 6 = .ok (.ishr, 1) := by decide +kernel
theorem dX3_isOf_7 : decode cX3_isOf 7 = .ok (.iaload, 1) := by decide +kernel
theorem dX3_isOf_8 : decode cX3_isOf 8 = .ok (.iload_n 1, 1) := by decide +kernel
theorem dX3_isOf_9 : decode cX3_isOf 9 = .ok (.if_icmp .ne 7, 3) := by decide +kernel
theorem dX3_isOf_12 : decode cX3_isOf 12 = .ok (.iconst 1, 1) := by decide +kernel
theorem dX3_isOf_13 : decode cX3_isOf 13 = .ok (.goto 4, 3) := by decide +kernel
theorem dX3_isOf_16 : decode cX3_isOf 16 = .ok (.iconst 0, 1) := by decide +kernel
theorem dX3_isOf_17 : decode cX3_isOf 17 = .ok (.ireturn, 1) := by decide +kernel
theorem dX3_isOldNode_0 : decode cX3_isOldNode 0 = .ok (.iload_n 1, 1) := by decide +kernel
theorem dX3_isOldNode_1 : decode cX3_isOldNode 1 = .ok (.ifCond .lt 25, 3) := by decide +kernel
theorem dX3_isOldNode_4 : decode cX3_isOldNode 4 = .ok (.iload_n 1, 1) := by decide +kernel
theorem dX3_isOldNode_5 : decode cX3_isOldNode 5 = .ok (.aload_n 0, 1) := by decide +kernel
theorem dX3_isOldNode_6 : decode cX3_isOldNode 6 = .ok (.getfield 31, 3) := by decide +kernel
theorem dX3_isOldNode_9 : decode cX3_isOldNode 9 = .ok (.if_icmp .ge 17, 3) := by decide +kernel
theorem dX3_isOldNode_12 : decode cX3_isOldNode 12 = .ok (.aload_n 0, 1) := by decide +kernel
theorem dX3_isOldNode_13 : decode cX3_isOldNode 13 = .ok (.getfield 9, 3) := by decide +kernel
theorem dX3_isOldNode_16 : decode cX3_isOldNode 16 = .ok (.iload_n 1, 1) := by decide +kernel
theorem dX3_isOldNode_17 : decode cX3_isOldNode 17 = .ok (.iaload, 1) := by decide +kernel
theorem dX3_isOldNode_18 : decode cX3_isOldNode 18 = .ok (.iconst 1, 1) := by decide +kernel
theorem dX3_isOldNode_19 : decode cX3_isOldNode 19 = .ok (.if_icmp .ne 7, 3) := by decide +kernel
theorem dX3_isOldNode_22 : decode cX3_isOldNode 22 = .ok (.iconst 1, 1) := by decide +kernel
theorem dX3_isOldNode_23 : decode cX3_isOldNode 23 = .ok (.goto 4, 3) := by decide +kernel
theorem dX3_isOldNode_26 : decode cX3_isOldNode 26 = .ok (.iconst 0, 1) := by decide +kernel
theorem dX3_isOldNode_27 : decode cX3_isOldNode 27 = .ok (.ireturn, 1) := by decide +kernel
theorem dX3_firstOld_0 : decode cX3_firstOld 0 = .ok (.iconst 1, 1) := by decide +kernel
theorem dX3_firstOld_1 : decode cX3_firstOld 1 = .ok (.aload_n 0, 1) := by decide +kernel
theorem dX3_firstOld_2 : decode cX3_firstOld 2 = .ok (.getfield 35, 3) := by decide +kernel
theorem dX3_firstOld_5 : decode cX3_firstOld 5 = .ok (.iadd, 1) := by decide +kernel
theorem dX3_firstOld_6 : decode cX3_firstOld 6 = .ok (.ireturn, 1) := by decide +kernel
theorem dX3_owned_0 : decode cX3_owned 0 = .ok (.iconst 1, 1) := by decide +kernel
theorem dX3_owned_1 : decode cX3_owned 1 = .ok (.aload_n 0, 1) := by decide +kernel
theorem dX3_owned_2 : decode cX3_owned 2 = .ok (.getfield 35, 3) := by decide +kernel
theorem dX3_owned_5 : decode cX3_owned 5 = .ok (.iadd, 1) := by decide +kernel
theorem dX3_owned_6 : decode cX3_owned 6 = .ok (.aload_n 0, 1) := by decide +kernel
theorem dX3_owned_7 : decode cX3_owned 7 = .ok (.getfield 38, 3) := by decide +kernel
theorem dX3_owned_10 : decode cX3_owned 10 = .ok (.iadd, 1) := by decide +kernel
theorem dX3_owned_11 : decode cX3_owned 11 = .ok (.ireturn, 1) := by decide +kernel
theorem dX3_ownLiteral_0 : decode cX3_ownLiteral 0 = .ok (.iconst 2, 1) := by decide +kernel
theorem dX3_ownLiteral_1 : decode cX3_ownLiteral 1 = .ok (.aload_n 0, 1) := by decide +kernel
theorem dX3_ownLiteral_2 : decode cX3_ownLiteral 2 = .ok (.getfield 28, 3) := by decide +kernel
theorem dX3_ownLiteral_5 : decode cX3_ownLiteral 5 = .ok (.iload_n 1, 1) := by decide +kernel
theorem dX3_ownLiteral_6 : decode cX3_ownLiteral 6 = .ok (.iconst 1, 1) := by decide +kernel
theorem dX3_ownLiteral_7 : decode cX3_ownLiteral 7 = .ok (.ishr, 1) := by decide +kernel
theorem dX3_ownLiteral_8 : decode cX3_ownLiteral 8 = .ok (.iaload, 1) := by decide +kernel
theorem dX3_ownLiteral_9 : decode cX3_ownLiteral 9 = .ok (.imul, 1) := by decide +kernel
theorem dX3_ownLiteral_10 : decode cX3_ownLiteral 10 = .ok (.iload_n 1, 1) := by decide +kernel
theorem dX3_ownLiteral_11 : decode cX3_ownLiteral 11 = .ok (.iconst 1, 1) := by decide +kernel
theorem dX3_ownLiteral_12 : decode cX3_ownLiteral 12 = .ok (.iand, 1) := by decide +kernel
theorem dX3_ownLiteral_13 : decode cX3_ownLiteral 13 = .ok (.iadd, 1) := by decide +kernel
theorem dX3_ownLiteral_14 : decode cX3_ownLiteral 14 = .ok (.ireturn, 1) := by decide +kernel
theorem dX3_addInput_0 : decode cX3_addInput 0 = .ok (.aload_n 0, 1) := by decide +kernel
theorem dX3_addInput_1 : decode cX3_addInput 1 = .ok (.getfield 31, 3) := by decide +kernel
theorem dX3_addInput_4 : decode cX3_addInput 4 = .ok (.istore_n 1, 1) := by decide +kernel
theorem dX3_addInput_5 : decode cX3_addInput 5 = .ok (.aload_n 0, 1) := by decide +kernel
theorem dX3_addInput_6 : decode cX3_addInput 6 = .ok (.getfield 28, 3) := by decide +kernel
theorem dX3_addInput_9 : decode cX3_addInput 9 = .ok (.aload_n 0, 1) := by decide +kernel
theorem dX3_addInput_10 : decode cX3_addInput 10 = .ok (.invokevirtual 44, 3) := by decide +kernel
theorem dX3_addInput_13 : decode cX3_addInput 13 = .ok (.iload_n 1, 1) := by decide +kernel
theorem dX3_addInput_14 : decode cX3_addInput 14 = .ok (.iastore, 1) := by decide +kernel
theorem dX3_addInput_15 : decode cX3_addInput 15 = .ok (.aload_n 0, 1) := by decide +kernel
theorem dX3_addInput_16 : decode cX3_addInput 16 = .ok (.getfield 9, 3) := by decide +kernel
theorem dX3_addInput_19 : decode cX3_addInput 19 = .ok (.iload_n 1, 1) := by decide +kernel
theorem dX3_addInput_20 : decode cX3_addInput 20 = .ok (.iconst 0, 1) := by decide +kernel
theorem dX3_addInput_21 : decode cX3_addInput 21 = .ok (.iastore, 1) := by decide +kernel
theorem dX3_addInput_22 : decode cX3_addInput 22 = .ok (.aload_n 0, 1) := by decide +kernel
theorem dX3_addInput_23 : decode cX3_addInput 23 = .ok (.getfield 21, 3) := by decide +kernel
theorem dX3_addInput_26 : decode cX3_addInput 26 = .ok (.iload_n 1, 1) := by decide +kernel
theorem dX3_addInput_27 : decode cX3_addInput 27 = .ok (.getstatic 48, 3) := by decide +kernel
theorem dX3_addInput_30 : decode cX3_addInput 30 = .ok (.aload_n 0, 1) := by decide +kernel
theorem dX3_addInput_31 : decode cX3_addInput 31 = .ok (.getfield 35, 3) := by decide +kernel
theorem dX3_addInput_34 : decode cX3_addInput 34 = .ok (.iaload, 1) := by decide +kernel
theorem dX3_addInput_35 : decode cX3_addInput 35 = .ok (.iastore, 1) := by decide +kernel
theorem dX3_addInput_36 : decode cX3_addInput 36 = .ok (.aload_n 0, 1) := by decide +kernel
theorem dX3_addInput_37 : decode cX3_addInput 37 = .ok (.dup, 1) := by decide +kernel
theorem dX3_addInput_38 : decode cX3_addInput 38 = .ok (.getfield 35, 3) := by decide +kernel
theorem dX3_addInput_41 : decode cX3_addInput 41 = .ok (.iconst 1, 1) := by decide +kernel
theorem dX3_addInput_42 : decode cX3_addInput 42 = .ok (.iadd, 1) := by decide +kernel
theorem dX3_addInput_43 : decode cX3_addInput 43 = .ok (.putfield 35, 3) := by decide +kernel
theorem dX3_addInput_46 : decode cX3_addInput 46 = .ok (.aload_n 0, 1) := by decide +kernel
theorem dX3_addInput_47 : decode cX3_addInput 47 = .ok (.dup, 1) := by decide +kernel
theorem dX3_addInput_48 : decode cX3_addInput 48 = .ok (.getfield 31, 3) := by decide +kernel
theorem dX3_addInput_51 : decode cX3_addInput 51 = .ok (.iconst 1, 1) := by decide +kernel
theorem dX3_addInput_52 : decode cX3_addInput 52 = .ok (.iadd, 1) := by decide +kernel
theorem dX3_addInput_53 : decode cX3_addInput 53 = .ok (.putfield 31, 3) := by decide +kernel
theorem dX3_addInput_56 : decode cX3_addInput 56 = .ok (.iconst 2, 1) := by decide +kernel
theorem dX3_addInput_57 : decode cX3_addInput 57 = .ok (.iload_n 1, 1) := by decide +kernel
theorem dX3_addInput_58 : decode cX3_addInput 58 = .ok (.imul, 1) := by decide +kernel
theorem dX3_addInput_59 : decode cX3_addInput 59 = .ok (.ireturn, 1) := by decide +kernel
theorem dX3_addOld_0 : decode cX3_addOld 0 = .ok (.aload_n 0, 1) := by decide +kernel
theorem dX3_addOld_1 : decode cX3_addOld 1 = .ok (.getfield 28, 3) := by decide +kernel
theorem dX3_addOld_4 : decode cX3_addOld 4 = .ok (.aload_n 0, 1) := by decide +kernel
theorem dX3_addOld_5 : decode cX3_addOld 5 = .ok (.invokevirtual 44, 3) := by decide +kernel
theorem dX3_addOld_8 : decode cX3_addOld 8 = .ok (.aload_n 0, 1) := by decide +kernel
theorem dX3_addOld_9 : decode cX3_addOld 9 = .ok (.getfield 31, 3) := by decide +kernel
theorem dX3_addOld_12 : decode cX3_addOld 12 = .ok (.iastore, 1) := by decide +kernel
theorem dX3_addOld_13 : decode cX3_addOld 13 = .ok (.aload_n 0, 1) := by decide +kernel
theorem dX3_addOld_14 : decode cX3_addOld 14 = .ok (.getfield 24, 3) := by decide +kernel
theorem dX3_addOld_17 : decode cX3_addOld 17 = .ok (.aload_n 0, 1) := by decide +kernel
theorem dX3_addOld_18 : decode cX3_addOld 18 = .ok (.getfield 31, 3) := by decide +kernel
theorem dX3_addOld_21 : decode cX3_addOld 21 = .ok (.iconst 0, 1) := by decide +kernel
theorem dX3_addOld_22 : decode cX3_addOld 22 = .ok (.bastore, 1) := by decide +kernel
theorem dX3_addOld_23 : decode cX3_addOld 23 = .ok (.aload_n 0, 1) := by decide +kernel
theorem dX3_addOld_24 : decode cX3_addOld 24 = .ok (.dup, 1) := by decide +kernel
theorem dX3_addOld_25 : decode cX3_addOld 25 = .ok (.getfield 38, 3) := by decide +kernel
theorem dX3_addOld_28 : decode cX3_addOld 28 = .ok (.iconst 1, 1) := by decide +kernel
theorem dX3_addOld_29 : decode cX3_addOld 29 = .ok (.iadd, 1) := by decide +kernel
theorem dX3_addOld_30 : decode cX3_addOld 30 = .ok (.putfield 38, 3) := by decide +kernel
theorem dX3_addOld_33 : decode cX3_addOld 33 = .ok (.aload_n 0, 1) := by decide +kernel
theorem dX3_addOld_34 : decode cX3_addOld 34 = .ok (.iconst 1, 1) := by decide +kernel
theorem dX3_addOld_35 : decode cX3_addOld 35 = .ok (.iload_n 1, 1) := by decide +kernel
theorem dX3_addOld_36 : decode cX3_addOld 36 = .ok (.iload_n 2, 1) := by decide +kernel
theorem dX3_addOld_37 : decode cX3_addOld 37 = .ok (.invokevirtual 51, 3) := by decide +kernel
theorem dX3_addOld_40 : decode cX3_addOld 40 = .ok (.ireturn, 1) := by decide +kernel
theorem dX3_addAsked_0 : decode cX3_addAsked 0 = .ok (.aload_n 0, 1) := by decide +kernel
theorem dX3_addAsked_1 : decode cX3_addAsked 1 = .ok (.dup, 1) := by decide +kernel
theorem dX3_addAsked_2 : decode cX3_addAsked 2 = .ok (.getfield 41, 3) := by decide +kernel
theorem dX3_addAsked_5 : decode cX3_addAsked 5 = .ok (.iconst 1, 1) := by decide +kernel
theorem dX3_addAsked_6 : decode cX3_addAsked 6 = .ok (.iadd, 1) := by decide +kernel
theorem dX3_addAsked_7 : decode cX3_addAsked 7 = .ok (.putfield 41, 3) := by decide +kernel
theorem dX3_addAsked_10 : decode cX3_addAsked 10 = .ok (.aload_n 0, 1) := by decide +kernel
theorem dX3_addAsked_11 : decode cX3_addAsked 11 = .ok (.iconst 2, 1) := by decide +kernel
theorem dX3_addAsked_12 : decode cX3_addAsked 12 = .ok (.iload_n 1, 1) := by decide +kernel
theorem dX3_addAsked_13 : decode cX3_addAsked 13 = .ok (.iload_n 2, 1) := by decide +kernel
theorem dX3_addAsked_14 : decode cX3_addAsked 14 = .ok (.invokevirtual 51, 3) := by decide +kernel
theorem dX3_addAsked_17 : decode cX3_addAsked 17 = .ok (.ireturn, 1) := by decide +kernel
theorem dX3_addAnd_0 : decode cX3_addAnd 0 = .ok (.aload_n 0, 1) := by decide +kernel
theorem dX3_addAnd_1 : decode cX3_addAnd 1 = .ok (.getfield 31, 3) := by decide +kernel
theorem dX3_addAnd_4 : decode cX3_addAnd 4 = .ok (.istore 4, 2) := by decide +kernel
theorem dX3_addAnd_6 : decode cX3_addAnd 6 = .ok (.aload_n 0, 1) := by decide +kernel
theorem dX3_addAnd_7 : decode cX3_addAnd 7 = .ok (.getfield 9, 3) := by decide +kernel
theorem dX3_addAnd_10 : decode cX3_addAnd 10 = .ok (.iload 4, 2) := by decide +kernel
theorem dX3_addAnd_12 : decode cX3_addAnd 12 = .ok (.iload_n 1, 1) := by decide +kernel
theorem dX3_addAnd_13 : decode cX3_addAnd 13 = .ok (.iastore, 1) := by decide +kernel
theorem dX3_addAnd_14 : decode cX3_addAnd 14 = .ok (.aload_n 0, 1) := by decide +kernel
theorem dX3_addAnd_15 : decode cX3_addAnd 15 = .ok (.getfield 15, 3) := by decide +kernel
theorem dX3_addAnd_18 : decode cX3_addAnd 18 = .ok (.iload 4, 2) := by decide +kernel
theorem dX3_addAnd_20 : decode cX3_addAnd 20 = .ok (.iload_n 2, 1) := by decide +kernel
theorem dX3_addAnd_21 : decode cX3_addAnd 21 = .ok (.iastore, 1) := by decide +kernel
theorem dX3_addAnd_22 : decode cX3_addAnd 22 = .ok (.aload_n 0, 1) := by decide +kernel
theorem dX3_addAnd_23 : decode cX3_addAnd 23 = .ok (.getfield 18, 3) := by decide +kernel
theorem dX3_addAnd_26 : decode cX3_addAnd 26 = .ok (.iload 4, 2) := by decide +kernel
theorem dX3_addAnd_28 : decode cX3_addAnd 28 = .ok (.iload_n 3, 1) := by decide +kernel
theorem dX3_addAnd_29 : decode cX3_addAnd 29 = .ok (.iastore, 1) := by decide +kernel
theorem dX3_addAnd_30 : decode cX3_addAnd 30 = .ok (.aload_n 0, 1) := by decide +kernel
theorem dX3_addAnd_31 : decode cX3_addAnd 31 = .ok (.getfield 21, 3) := by decide +kernel
theorem dX3_addAnd_34 : decode cX3_addAnd 34 = .ok (.iload 4, 2) := by decide +kernel
theorem dX3_addAnd_36 : decode cX3_addAnd 36 = .ok (.aload_n 0, 1) := by decide +kernel
theorem dX3_addAnd_37 : decode cX3_addAnd 37 = .ok (.getfield 21, 3) := by decide +kernel
theorem dX3_addAnd_40 : decode cX3_addAnd 40 = .ok (.iload_n 2, 1) := by decide +kernel
theorem dX3_addAnd_41 : decode cX3_addAnd 41 = .ok (.invokestatic 55, 3) := by decide +kernel
theorem dX3_addAnd_44 : decode cX3_addAnd 44 = .ok (.aload_n 0, 1) := by decide +kernel
theorem dX3_addAnd_45 : decode cX3_addAnd 45 = .ok (.getfield 21, 3) := by decide +kernel
theorem dX3_addAnd_48 : decode cX3_addAnd 48 = .ok (.iload_n 3, 1) := by decide +kernel
theorem dX3_addAnd_49 : decode cX3_addAnd 49 = .ok (.invokestatic 55, 3) := by decide +kernel
theorem dX3_addAnd_52 : decode cX3_addAnd 52 = .ok (.iand, 1) := by decide +kernel
theorem dX3_addAnd_53 : decode cX3_addAnd 53 = .ok (.iastore, 1) := by decide +kernel
theorem dX3_addAnd_54 : decode cX3_addAnd 54 = .ok (.aload_n 0, 1) := by decide +kernel
theorem dX3_addAnd_55 : decode cX3_addAnd 55 = .ok (.dup, 1) := by decide +kernel
theorem dX3_addAnd_56 : decode cX3_addAnd 56 = .ok (.getfield 31, 3) := by decide +kernel
theorem dX3_addAnd_59 : decode cX3_addAnd 59 = .ok (.iconst 1, 1) := by decide +kernel
theorem dX3_addAnd_60 : decode cX3_addAnd 60 = .ok (.iadd, 1) := by decide +kernel
theorem dX3_addAnd_61 : decode cX3_addAnd 61 = .ok (.putfield 31, 3) := by decide +kernel
theorem dX3_addAnd_64 : decode cX3_addAnd 64 = .ok (.iconst 2, 1) := by decide +kernel
theorem dX3_addAnd_65 : decode cX3_addAnd 65 = .ok (.iload 4, 2) := by decide +kernel
theorem dX3_addAnd_67 : decode cX3_addAnd 67 = .ok (.imul, 1) := by decide +kernel
theorem dX3_addAnd_68 : decode cX3_addAnd 68 = .ok (.ireturn, 1) := by decide +kernel
theorem dX3_rewire_0 : decode cX3_rewire 0 = .ok (.aload_n 0, 1) := by decide +kernel
theorem dX3_rewire_1 : decode cX3_rewire 1 = .ok (.getfield 15, 3) := by decide +kernel
theorem dX3_rewire_4 : decode cX3_rewire 4 = .ok (.aload_n 1, 1) := by decide +kernel
theorem dX3_rewire_5 : decode cX3_rewire 5 = .ok (.getfield 59, 3) := by decide +kernel
theorem dX3_rewire_8 : decode cX3_rewire 8 = .ok (.aload_n 1, 1) := by decide +kernel
theorem dX3_rewire_9 : decode cX3_rewire 9 = .ok (.getfield 64, 3) := by decide +kernel
theorem dX3_rewire_12 : decode cX3_rewire 12 = .ok (.iastore, 1) := by decide +kernel
theorem dX3_rewire_13 : decode cX3_rewire 13 = .ok (.aload_n 0, 1) := by decide +kernel
theorem dX3_rewire_14 : decode cX3_rewire 14 = .ok (.getfield 18, 3) := by decide +kernel
theorem dX3_rewire_17 : decode cX3_rewire 17 = .ok (.aload_n 1, 1) := by decide +kernel
theorem dX3_rewire_18 : decode cX3_rewire 18 = .ok (.getfield 59, 3) := by decide +kernel
theorem dX3_rewire_21 : decode cX3_rewire 21 = .ok (.aload_n 1, 1) := by decide +kernel
theorem dX3_rewire_22 : decode cX3_rewire 22 = .ok (.getfield 66, 3) := by decide +kernel
theorem dX3_rewire_25 : decode cX3_rewire 25 = .ok (.iastore, 1) := by decide +kernel
theorem dX3_rewire_26 : decode cX3_rewire 26 = .ok (.return_, 1) := by decide +kernel
theorem dX3_refreshOldColumns_0 : decode cX3_refreshOldColumns 0 = .ok (.aload_n 0, 1) := by decide +kernel
theorem dX3_refreshOldColumns_1 : decode cX3_refreshOldColumns 1 = .ok (.invokevirtual 68, 3) := by decide +kernel
theorem dX3_refreshOldColumns_4 : decode cX3_refreshOldColumns 4 = .ok (.istore_n 1, 1) := by decide +kernel
theorem dX3_refreshOldColumns_5 : decode cX3_refreshOldColumns 5 = .ok (.iload_n 1, 1) := by decide +kernel
theorem dX3_refreshOldColumns_6 : decode cX3_refreshOldColumns 6 = .ok (.aload_n 0, 1) := by decide +kernel
theorem dX3_refreshOldColumns_7 : decode cX3_refreshOldColumns 7 = .ok (.invokevirtual 44, 3) := by decide +kernel
theorem dX3_refreshOldColumns_10 : decode cX3_refreshOldColumns 10 = .ok (.if_icmp .ge 49, 3) := by decide +kernel
theorem dX3_refreshOldColumns_13 : decode cX3_refreshOldColumns 13 = .ok (.aload_n 0, 1) := by decide +kernel
theorem dX3_refreshOldColumns_14 : decode cX3_refreshOldColumns 14 = .ok (.getfield 28, 3) := by decide +kernel
theorem dX3_refreshOldColumns_17 : decode cX3_refreshOldColumns 17 = .ok (.iload_n 1, 1) := by decide +kernel
theorem dX3_refreshOldColumns_18 : decode cX3_refreshOldColumns 18 = .ok (.iaload, 1) := by decide +kernel
theorem dX3_refreshOldColumns_19 : decode cX3_refreshOldColumns 19 = .ok (.istore_n 2, 1) := by decide +kernel
theorem dX3_refreshOldColumns_20 : decode cX3_refreshOldColumns 20 = .ok (.aload_n 0, 1) := by decide +kernel
theorem dX3_refreshOldColumns_21 : decode cX3_refreshOldColumns 21 = .ok (.getfield 21, 3) := by decide +kernel
theorem dX3_refreshOldColumns_24 : decode cX3_refreshOldColumns 24 = .ok (.iload_n 2, 1) := by decide +kernel
theorem dX3_refreshOldColumns_25 : decode cX3_refreshOldColumns 25 = .ok (.aload_n 0, 1) := by decide +kernel
theorem dX3_refreshOldColumns_26 : decode cX3_refreshOldColumns 26 = .ok (.getfield 21, 3) := by decide +kernel
theorem dX3_refreshOldColumns_29 : decode cX3_refreshOldColumns 29 = .ok (.aload_n 0, 1) := by decide +kernel
theorem dX3_refreshOldColumns_30 : decode cX3_refreshOldColumns 30 = .ok (.getfield 15, 3) := by decide +kernel
theorem dX3_refreshOldColumns_33 : decode cX3_refreshOldColumns 33 = .ok (.iload_n 2, 1) := by decide +kernel
theorem dX3_refreshOldColumns_34 : decode cX3_refreshOldColumns 34 = .ok (.iaload, 1) := by decide +kernel
theorem dX3_refreshOldColumns_35 : decode cX3_refreshOldColumns 35 = .ok (.invokestatic 55, 3) := by decide +kernel
theorem dX3_refreshOldColumns_38 : decode cX3_refreshOldColumns 38 = .ok (.aload_n 0, 1) := by decide +kernel
theorem dX3_refreshOldColumns_39 : decode cX3_refreshOldColumns 39 = .ok (.getfield 21, 3) := by decide +kernel
theorem dX3_refreshOldColumns_42 : decode cX3_refreshOldColumns 42 = .ok (.aload_n 0, 1) := by decide +kernel
theorem dX3_refreshOldColumns_43 : decode cX3_refreshOldColumns 43 = .ok (.getfield 18, 3) := by decide +kernel
theorem dX3_refreshOldColumns_46 : decode cX3_refreshOldColumns 46 = .ok (.iload_n 2, 1) := by decide +kernel
theorem dX3_refreshOldColumns_47 : decode cX3_refreshOldColumns 47 = .ok (.iaload, 1) := by decide +kernel
theorem dX3_refreshOldColumns_48 : decode cX3_refreshOldColumns 48 = .ok (.invokestatic 55, 3) := by decide +kernel
theorem dX3_refreshOldColumns_51 : decode cX3_refreshOldColumns 51 = .ok (.iand, 1) := by decide +kernel
theorem dX3_refreshOldColumns_52 : decode cX3_refreshOldColumns 52 = .ok (.iastore, 1) := by decide +kernel
theorem dX3_refreshOldColumns_53 : decode cX3_refreshOldColumns 53 = .ok (.iinc 1 1, 3) := by decide +kernel
theorem dX3_refreshOldColumns_56 : decode cX3_refreshOldColumns 56 = .ok (.goto (-51), 3) := by decide +kernel
theorem dX3_refreshOldColumns_59 : decode cX3_refreshOldColumns 59 = .ok (.return_, 1) := by decide +kernel
theorem dX3_keptNodes_0 : decode cX3_keptNodes 0 = .ok (.iconst 0, 1) := by decide +kernel
theorem dX3_keptNodes_1 : decode cX3_keptNodes 1 = .ok (.istore_n 1, 1) := by decide +kernel
theorem dX3_keptNodes_2 : decode cX3_keptNodes 2 = .ok (.aload_n 0, 1) := by decide +kernel
theorem dX3_keptNodes_3 : decode cX3_keptNodes 3 = .ok (.invokevirtual 68, 3) := by decide +kernel
theorem dX3_keptNodes_6 : decode cX3_keptNodes 6 = .ok (.istore_n 2, 1) := by decide +kernel
theorem dX3_keptNodes_7 : decode cX3_keptNodes 7 = .ok (.iload_n 2, 1) := by decide +kernel
theorem dX3_keptNodes_8 : decode cX3_keptNodes 8 = .ok (.aload_n 0, 1) := by decide +kernel
theorem dX3_keptNodes_9 : decode cX3_keptNodes 9 = .ok (.invokevirtual 44, 3) := by decide +kernel
theorem dX3_keptNodes_12 : decode cX3_keptNodes 12 = .ok (.if_icmp .ge 26, 3) := by decide +kernel
theorem dX3_keptNodes_15 : decode cX3_keptNodes 15 = .ok (.aload_n 0, 1) := by decide +kernel
theorem dX3_keptNodes_16 : decode cX3_keptNodes 16 = .ok (.getfield 24, 3) := by decide +kernel
theorem dX3_keptNodes_19 : decode cX3_keptNodes 19 = .ok (.aload_n 0, 1) := by decide +kernel
theorem dX3_keptNodes_20 : decode cX3_keptNodes 20 = .ok (.getfield 28, 3) := by decide +kernel
theorem dX3_keptNodes_23 : decode cX3_keptNodes 23 = .ok (.iload_n 2, 1) := by decide +kernel
theorem dX3_keptNodes_24 : decode cX3_keptNodes 24 = .ok (.iaload, 1) := by decide +kernel
theorem dX3_keptNodes_25 : decode cX3_keptNodes 25 = .ok (.baload, 1) := by decide +kernel
theorem dX3_keptNodes_26 : decode cX3_keptNodes 26 = .ok (.ifCond .eq 6, 3) := by decide +kernel
theorem dX3_keptNodes_29 : decode cX3_keptNodes 29 = .ok (.iinc 1 1, 3) := by decide +kernel
theorem dX3_keptNodes_32 : decode cX3_keptNodes 32 = .ok (.iinc 2 1, 3) := by decide +kernel
theorem dX3_keptNodes_35 : decode cX3_keptNodes 35 = .ok (.goto (-28), 3) := by decide +kernel
theorem dX3_keptNodes_38 : decode cX3_keptNodes 38 = .ok (.iload_n 1, 1) := by decide +kernel
theorem dX3_keptNodes_39 : decode cX3_keptNodes 39 = .ok (.ireturn, 1) := by decide +kernel
theorem dX3_leastOwnLiteralOf_0 : decode cX3_leastOwnLiteralOf 0 = .ok (.iconst 0, 1) := by decide +kernel
theorem dX3_leastOwnLiteralOf_1 : decode cX3_leastOwnLiteralOf 1 = .ok (.istore_n 2, 1) := by decide +kernel
theorem dX3_leastOwnLiteralOf_2 : decode cX3_leastOwnLiteralOf 2 = .ok (.iload_n 2, 1) := by decide +kernel
theorem dX3_leastOwnLiteralOf_3 : decode cX3_leastOwnLiteralOf 3 = .ok (.iconst 2, 1) := by decide +kernel
theorem dX3_leastOwnLiteralOf_4 : decode cX3_leastOwnLiteralOf 4 = .ok (.aload_n 0, 1) := by decide +kernel
theorem dX3_leastOwnLiteralOf_5 : decode cX3_leastOwnLiteralOf 5 = .ok (.invokevirtual 44, 3) := by decide +kernel
theorem dX3_leastOwnLiteralOf_8 : decode cX3_leastOwnLiteralOf 8 = .ok (.imul, 1) := by decide +kernel
theorem dX3_leastOwnLiteralOf_9 : decode cX3_leastOwnLiteralOf 9 = .ok (.if_icmp .ge 31, 3) := by decide +kernel
theorem dX3_leastOwnLiteralOf_12 : decode cX3_leastOwnLiteralOf 12 = .ok (.aload_n 0, 1) := by decide +kernel
theorem dX3_leastOwnLiteralOf_13 : decode cX3_leastOwnLiteralOf 13 = .ok (.getfield 21, 3) := by decide +kernel
theorem dX3_leastOwnLiteralOf_16 : decode cX3_leastOwnLiteralOf 16 = .ok (.aload_n 0, 1) := by decide +kernel
theorem dX3_leastOwnLiteralOf_17 : decode cX3_leastOwnLiteralOf 17 = .ok (.iload_n 2, 1) := by decide +kernel
theorem dX3_leastOwnLiteralOf_18 : decode cX3_leastOwnLiteralOf 18 = .ok (.invokevirtual 71, 3) := by decide +kernel
theorem dX3_leastOwnLiteralOf_21 : decode cX3_leastOwnLiteralOf 21 = .ok (.invokestatic 55, 3) := by decide +kernel
theorem dX3_leastOwnLiteralOf_24 : decode cX3_leastOwnLiteralOf 24 = .ok (.iload_n 1, 1) := by decide +kernel
theorem dX3_leastOwnLiteralOf_25 : decode cX3_leastOwnLiteralOf 25 = .ok (.if_icmp .ne 9, 3) := by decide +kernel
theorem dX3_leastOwnLiteralOf_28 : decode cX3_leastOwnLiteralOf 28 = .ok (.aload_n 0, 1) := by decide +kernel
theorem dX3_leastOwnLiteralOf_29 : decode cX3_leastOwnLiteralOf 29 = .ok (.iload_n 2, 1) := by decide +kernel
theorem dX3_leastOwnLiteralOf_30 : decode cX3_leastOwnLiteralOf 30 = .ok (.invokevirtual 71, 3) := by decide +kernel
theorem dX3_leastOwnLiteralOf_33 : decode cX3_leastOwnLiteralOf 33 = .ok (.ireturn, 1) := by decide +kernel
theorem dX3_leastOwnLiteralOf_34 : decode cX3_leastOwnLiteralOf 34 = .ok (.iinc 2 1, 3) := by decide +kernel
theorem dX3_leastOwnLiteralOf_37 : decode cX3_leastOwnLiteralOf 37 = .ok (.goto (-35), 3) := by decide +kernel
theorem dX3_leastOwnLiteralOf_40 : decode cX3_leastOwnLiteralOf 40 = .ok (.iconst (-1), 1) := by decide +kernel
theorem dX3_leastOwnLiteralOf_41 : decode cX3_leastOwnLiteralOf 41 = .ok (.ireturn, 1) := by decide +kernel
theorem dX4_init_0 : decode cX4_init 0 = .ok (.aload_n 0, 1) := by decide +kernel
theorem dX4_init_1 : decode cX4_init 1 = .ok (.invokespecial 3, 3) := by decide +kernel
theorem dX4_init_4 : decode cX4_init 4 = .ok (.aload_n 0, 1) := by decide +kernel
theorem dX4_init_5 : decode cX4_init 5 = .ok (.bipush 40, 2) := by decide +kernel
theorem dX4_init_7 : decode cX4_init 7 = .ok (.anewarray 9, 3) := by decide +kernel
theorem dX4_init_10 : decode cX4_init 10 = .ok (.putfield 11, 3) := by decide +kernel
theorem dX4_init_13 : decode cX4_init 13 = .ok (.iconst 0, 1) := by decide +kernel
theorem dX4_init_14 : decode cX4_init 14 = .ok (.istore_n 1, 1) := by decide +kernel
theorem dX4_init_15 : decode cX4_init 15 = .ok (.iload_n 1, 1) := by decide +kernel
theorem dX4_init_16 : decode cX4_init 16 = .ok (.bipush 40, 2) := by decide +kernel
theorem dX4_init_18 : decode cX4_init 18 = .ok (.if_icmp .ge 22, 3) := by decide +kernel
theorem dX4_init_21 : decode cX4_init 21 = .ok (.aload_n 0, 1) := by decide +kernel
theorem dX4_init_22 : decode cX4_init 22 = .ok (.getfield 11, 3) := by decide +kernel
theorem dX4_init_25 : decode cX4_init 25 = .ok (.iload_n 1, 1) := by decide +kernel
theorem dX4_init_26 : decode cX4_init 26 = .ok (.new 9, 3) := by decide +kernel
theorem dX4_init_29 : decode cX4_init 29 = .ok (.dup, 1) := by decide +kernel
theorem dX4_init_30 : decode cX4_init 30 = .ok (.invokespecial 17, 3) := by decide +kernel
theorem dX4_init_33 : decode cX4_init 33 = .ok (.aastore, 1) := by decide +kernel
theorem dX4_init_34 : decode cX4_init 34 = .ok (.iinc 1 1, 3) := by decide +kernel
theorem dX4_init_37 : decode cX4_init 37 = .ok (.goto (-22), 3) := by decide +kernel
theorem dX4_init_40 : decode cX4_init 40 = .ok (.aload_n 0, 1) := by decide +kernel
theorem dX4_init_41 : decode cX4_init 41 = .ok (.bipush 20, 2) := by decide +kernel
theorem dX4_init_43 : decode cX4_init 43 = .ok (.newarray .int, 2) := by decide +kernel
theorem dX4_init_45 : decode cX4_init 45 = .ok (.putfield 18, 3) := by decide +kernel
theorem dX4_init_48 : decode cX4_init 48 = .ok (.return_, 1) := by decide +kernel
theorem dX4_remember_0 : decode cX4_remember 0 = .ok (.iconst 0, 1) := by decide +kernel
theorem dX4_remember_1 : decode cX4_remember 1 = .ok (.istore 4, 2) := by decide +kernel
theorem dX4_remember_3 : decode cX4_remember 3 = .ok (.iload 4, 2) := by decide +kernel
theorem dX4_remember_5 : decode cX4_remember 5 = .ok (.iload_n 3, 1) := by decide +kernel
theorem dX4_remember_6 : decode cX4_remember 6 = .ok (.if_icmp .ge 51, 3) := by decide +kernel
theorem dX4_remember_9 : decode cX4_remember 9 = .ok (.aload_n 2, 1) := by decide +kernel
theorem dX4_remember_10 : decode cX4_remember 10 = .ok (.iload 4, 2) := by decide +kernel
theorem dX4_remember_12 : decode cX4_remember 12 = .ok (.aaload, 1) := by decide +kernel
theorem dX4_remember_13 : decode cX4_remember 13 = .ok (.getfield 22, 3) := by decide +kernel
theorem dX4_remember_16 : decode cX4_remember 16 = .ok (.istore 5, 2) := by decide +kernel
theorem dX4_remember_18 : decode cX4_remember 18 = .ok (.aload_n 0, 1) := by decide +kernel
theorem dX4_remember_19 : decode cX4_remember 19 = .ok (.getfield 11, 3) := by decide +kernel
theorem dX4_remember_22 : decode cX4_remember 22 = .ok (.aload_n 0, 1) := by decide +kernel
theorem dX4_remember_23 : decode cX4_remember 23 = .ok (.getfield 26, 3) := by decide +kernel
theorem dX4_remember_26 : decode cX4_remember 26 = .ok (.iconst 2, 1) := by decide +kernel
theorem dX4_remember_27 : decode cX4_remember 27 = .ok (.imul, 1) := by decide +kernel
theorem dX4_remember_28 : decode cX4_remember 28 = .ok (.iload 4, 2) := by decide +kernel
theorem dX4_remember_30 : decode cX4_remember 30 = .ok (.iadd, 1) := by decide +kernel
theorem dX4_remember_31 : decode cX4_remember 31 = .ok (.aaload, 1) := by decide +kernel
theorem dX4_remember_32 : decode cX4_remember 32 = .ok (.iload 5, 2) := by decide +kernel
theorem dX4_remember_34 : decode cX4_remember 34 = .ok (.aload_n 1, 1) := by decide +kernel
theorem dX4_remember_35 : decode cX4_remember 35 = .ok (.getfield 29, 3) := by decide +kernel
theorem dX4_remember_38 : decode cX4_remember 38 = .ok (.iload 5, 2) := by decide +kernel
theorem dX4_remember_40 : decode cX4_remember 40 = .ok (.iaload, 1) := by decide +kernel
theorem dX4_remember_41 : decode cX4_remember 41 = .ok (.aload_n 1, 1) := by decide +kernel
theorem dX4_remember_42 : decode cX4_remember 42 = .ok (.getfield 34, 3) := by decide +kernel
theorem dX4_remember_45 : decode cX4_remember 45 = .ok (.iload 5, 2) := by decide +kernel
theorem dX4_remember_47 : decode cX4_remember 47 = .ok (.iaload, 1) := by decide +kernel
theorem dX4_remember_48 : decode cX4_remember 48 = .ok (.invokevirtual 37, 3) := by decide +kernel
theorem dX4_remember_51 : decode cX4_remember 51 = .ok (.iinc 4 1, 3) := by decide +kernel
theorem dX4_remember_54 : decode cX4_remember 54 = .ok (.goto (-51), 3) := by decide +kernel
theorem dX4_remember_57 : decode cX4_remember 57 = .ok (.aload_n 0, 1) := by decide +kernel
theorem dX4_remember_58 : decode cX4_remember 58 = .ok (.getfield 18, 3) := by decide +kernel
theorem dX4_remember_61 : decode cX4_remember 61 = .ok (.aload_n 0, 1) := by decide +kernel
theorem dX4_remember_62 : decode cX4_remember 62 = .ok (.getfield 26, 3) := by decide +kernel
theorem dX4_remember_65 : decode cX4_remember 65 = .ok (.iload_n 3, 1) := by decide +kernel
theorem dX4_remember_66 : decode cX4_remember 66 = .ok (.iastore, 1) := by decide +kernel
theorem dX4_remember_67 : decode cX4_remember 67 = .ok (.aload_n 0, 1) := by decide +kernel
theorem dX4_remember_68 : decode cX4_remember 68 = .ok (.dup, 1) := by decide +kernel
theorem dX4_remember_69 : decode cX4_remember 69 = .ok (.getfield 26, 3) := by decide +kernel
theorem dX4_remember_72 : decode cX4_remember 72 = .ok (.iconst 1, 1) := by decide +kernel
theorem dX4_remember_73 : decode cX4_remember 73 = .ok (.iadd, 1) := by decide +kernel
theorem dX4_remember_74 : decode cX4_remember 74 = .ok (.putfield 26, 3) := by decide +kernel
theorem dX4_remember_77 : decode cX4_remember 77 = .ok (.return_, 1) := by decide +kernel
theorem dX4_takeBackLast_0 : decode cX4_takeBackLast 0 = .ok (.aload_n 0, 1) := by decide +kernel
theorem dX4_takeBackLast_1 : decode cX4_takeBackLast 1 = .ok (.dup, 1) := by decide +kernel
theorem dX4_takeBackLast_2 : decode cX4_takeBackLast 2 = .ok (.getfield 26, 3) := by decide +kernel
theorem dX4_takeBackLast_5 : decode cX4_takeBackLast 5 = .ok (.iconst 1, 1) := by decide +kernel
theorem dX4_takeBackLast_6 : decode cX4_takeBackLast 6 = .ok (.isub, 1) := by decide +kernel
theorem dX4_takeBackLast_7 : decode cX4_takeBackLast 7 = .ok (.putfield 26, 3) := by decide +kernel
theorem dX4_takeBackLast_10 : decode cX4_takeBackLast 10 = .ok (.iconst 0, 1) := by decide +kernel
theorem dX4_takeBackLast_11 : decode cX4_takeBackLast 11 = .ok (.istore_n 2, 1) := by decide +kernel
theorem dX4_takeBackLast_12 : decode cX4_takeBackLast 12 = .ok (.iload_n 2, 1) := by decide +kernel
theorem dX4_takeBackLast_13 : decode cX4_takeBackLast 13 = .ok (.aload_n 0, 1) := by decide +kernel
theorem dX4_takeBackLast_14 : decode cX4_takeBackLast 14 = .ok (.getfield 18, 3) := by decide +kernel
theorem dX4_takeBackLast_17 : decode cX4_takeBackLast 17 = .ok (.aload_n 0, 1) := by decide +kernel
theorem dX4_takeBackLast_18 : decode cX4_takeBackLast 18 = .ok (.getfield 26, 3) := by decide +kernel
theorem dX4_takeBackLast_21 : decode cX4_takeBackLast 21 = .ok (.iaload, 1) := by decide +kernel
theorem dX4_takeBackLast_22 : decode cX4_takeBackLast 22 = .ok (.if_icmp .ge 26, 3) := by decide +kernel
theorem dX4_takeBackLast_25 : decode cX4_takeBackLast 25 = .ok (.aload_n 1, 1) := by decide +kernel
theorem dX4_takeBackLast_26 : decode cX4_takeBackLast 26 = .ok (.aload_n 0, 1) := by decide +kernel
theorem dX4_takeBackLast_27 : decode cX4_takeBackLast 27 = .ok (.getfield 11, 3) := by decide +kernel
theorem dX4_takeBackLast_30 : decode cX4_takeBackLast 30 = .ok (.aload_n 0, 1) := by decide +kernel
theorem dX4_takeBackLast_31 : decode cX4_takeBackLast 31 = .ok (.getfield 26, 3) := by decide +kernel
theorem dX4_takeBackLast_34 : decode cX4_takeBackLast 34 = .ok (.iconst 2, 1) := by decide +kernel
theorem dX4_takeBackLast_35 : decode cX4_takeBackLast 35 = .ok (.imul, 1) := by decide +kernel
theorem dX4_takeBackLast_36 : decode cX4_takeBackLast 36 = .ok (.iload_n 2, 1) := by decide +kernel
theorem dX4_takeBackLast_37 : decode cX4_takeBackLast 37 = .ok (.iadd, 1) := by decide +kernel
theorem dX4_takeBackLast_38 : decode cX4_takeBackLast 38 = .ok (.aaload, 1) := by decide +kernel
theorem dX4_takeBackLast_39 : decode cX4_takeBackLast 39 = .ok (.invokevirtual 41, 3) := by decide +kernel
theorem dX4_takeBackLast_42 : decode cX4_takeBackLast 42 = .ok (.iinc 2 1, 3) := by decide +kernel
theorem dX4_takeBackLast_45 : decode cX4_takeBackLast 45 = .ok (.goto (-33), 3) := by decide +kernel
theorem dX4_takeBackLast_48 : decode cX4_takeBackLast 48 = .ok (.return_, 1) := by decide +kernel
theorem dX5_init_0 : decode cX5_init 0 = .ok (.aload_n 0, 1) := by decide +kernel
theorem dX5_init_1 : decode cX5_init 1 = .ok (.invokespecial 3, 3) := by decide +kernel
theorem dX5_init_4 : decode cX5_init 4 = .ok (.aload_n 0, 1) := by decide +kernel
theorem dX5_init_5 : decode cX5_init 5 = .ok (.aload_n 1, 1) := by decide +kernel
theorem dX5_init_6 : decode cX5_init 6 = .ok (.putfield 9, 3) := by decide +kernel
theorem dX5_init_9 : decode cX5_init 9 = .ok (.aload_n 0, 1) := by decide +kernel
theorem dX5_init_10 : decode cX5_init 10 = .ok (.aload_n 2, 1) := by decide +kernel
theorem dX5_init_11 : decode cX5_init 11 = .ok (.putfield 15, 3) := by decide +kernel
theorem dX5_init_14 : decode cX5_init 14 = .ok (.aload_n 0, 1) := by decide +kernel
theorem dX5_init_15 : decode cX5_init 15 = .ok (.iconst 2, 1) := by decide +kernel
theorem dX5_init_16 : decode cX5_init 16 = .ok (.anewarray 19, 3) := by decide +kernel
theorem dX5_init_19 : decode cX5_init 19 = .ok (.putfield 21, 3) := by decide +kernel
theorem dX5_init_22 : decode cX5_init 22 = .ok (.iconst 0, 1) := by decide +kernel
theorem dX5_init_23 : decode cX5_init 23 = .ok (.istore_n 3, 1) := by decide +kernel
theorem dX5_init_24 : decode cX5_init 24 = .ok (.iload_n 3, 1) := by decide +kernel
theorem dX5_init_25 : decode cX5_init 25 = .ok (.iconst 2, 1) := by decide +kernel
theorem dX5_init_26 : decode cX5_init 26 = .ok (.if_icmp .ge 22, 3) := by decide +kernel
theorem dX5_init_29 : decode cX5_init 29 = .ok (.aload_n 0, 1) := by decide +kernel
theorem dX5_init_30 : decode cX5_init 30 = .ok (.getfield 21, 3) := by decide +kernel
theorem dX5_init_33 : decode cX5_init 33 = .ok (.iload_n 3, 1) := by decide +kernel
theorem dX5_init_34 : decode cX5_init 34 = .ok (.new 19, 3) := by decide +kernel
theorem dX5_init_37 : decode cX5_init 37 = .ok (.dup, 1) := by decide +kernel
theorem dX5_init_38 : decode cX5_init 38 = .ok (.invokespecial 25, 3) := by decide +kernel
theorem dX5_init_41 : decode cX5_init 41 = .ok (.aastore, 1) := by decide +kernel
theorem dX5_init_42 : decode cX5_init 42 = .ok (.iinc 3 1, 3) := by decide +kernel
theorem dX5_init_45 : decode cX5_init 45 = .ok (.goto (-21), 3) := by decide +kernel
theorem dX5_init_48 : decode cX5_init 48 = .ok (.aload_n 0, 1) := by decide +kernel
theorem dX5_init_49 : decode cX5_init 49 = .ok (.bipush 38, 2) := by decide +kernel
theorem dX5_init_51 : decode cX5_init 51 = .ok (.newarray .int, 2) := by decide +kernel
theorem dX5_init_53 : decode cX5_init 53 = .ok (.putfield 26, 3) := by decide +kernel
theorem dX5_init_56 : decode cX5_init 56 = .ok (.aload_n 0, 1) := by decide +kernel
theorem dX5_init_57 : decode cX5_init 57 = .ok (.bipush 28, 2) := by decide +kernel
theorem dX5_init_59 : decode cX5_init 59 = .ok (.newarray .int, 2) := by decide +kernel
theorem dX5_init_61 : decode cX5_init 61 = .ok (.putfield 30, 3) := by decide +kernel
theorem dX5_init_64 : decode cX5_init 64 = .ok (.return_, 1) := by decide +kernel
theorem dX5_fewestEdits_0 : decode cX5_fewestEdits 0 = .ok (.aload_n 0, 1) := by decide +kernel
theorem dX5_fewestEdits_1 : decode cX5_fewestEdits 1 = .ok (.invokevirtual 33, 3) := by decide +kernel
theorem dX5_fewestEdits_4 : decode cX5_fewestEdits 4 = .ok (.aload_n 0, 1) := by decide +kernel
theorem dX5_fewestEdits_5 : decode cX5_fewestEdits 5 = .ok (.getfield 15, 3) := by decide +kernel
theorem dX5_fewestEdits_8 : decode cX5_fewestEdits 8 = .ok (.aload_n 0, 1) := by decide +kernel
theorem dX5_fewestEdits_9 : decode cX5_fewestEdits 9 = .ok (.getfield 26, 3) := by decide +kernel
theorem dX5_fewestEdits_12 : decode cX5_fewestEdits 12 = .ok (.invokevirtual 36, 3) := by decide +kernel
theorem dX5_fewestEdits_15 : decode cX5_fewestEdits 15 = .ok (.iconst (-1), 1) := by decide +kernel
theorem dX5_fewestEdits_16 : decode cX5_fewestEdits 16 = .ok (.if_icmp .ne 5, 3) := by decide +kernel
theorem dX5_fewestEdits_19 : decode cX5_fewestEdits 19 = .ok (.iconst 0, 1) := by decide +kernel
theorem dX5_fewestEdits_20 : decode cX5_fewestEdits 20 = .ok (.ireturn, 1) := by decide +kernel
theorem dX5_fewestEdits_21 : decode cX5_fewestEdits 21 = .ok (.iload_n 1, 1) := by decide +kernel
theorem dX5_fewestEdits_22 : decode cX5_fewestEdits 22 = .ok (.iconst 1, 1) := by decide +kernel
theorem dX5_fewestEdits_23 : decode cX5_fewestEdits 23 = .ok (.if_icmp .lt 12, 3) := by decide +kernel
theorem dX5_fewestEdits_26 : decode cX5_fewestEdits 26 = .ok (.aload_n 0, 1) := by decide +kernel
theorem dX5_fewestEdits_27 : decode cX5_fewestEdits 27 = .ok (.invokevirtual 42, 3) := by decide +kernel
theorem dX5_fewestEdits_30 : decode cX5_fewestEdits 30 = .ok (.ifCond .eq 5, 3) := by decide +kernel
theorem dX5_fewestEdits_33 : decode cX5_fewestEdits 33 = .ok (.iconst 1, 1) := by decide +kernel
theorem dX5_fewestEdits_34 : decode cX5_fewestEdits 34 = .ok (.ireturn, 1) := by decide +kernel
theorem dX5_fewestEdits_35 : decode cX5_fewestEdits 35 = .ok (.iload_n 1, 1) := by decide +kernel
theorem dX5_fewestEdits_36 : decode cX5_fewestEdits 36 = .ok (.iconst 2, 1) := by decide +kernel
theorem dX5_fewestEdits_37 : decode cX5_fewestEdits 37 = .ok (.if_icmp .lt 12, 3) := by decide +kernel
theorem dX5_fewestEdits_40 : decode cX5_fewestEdits 40 = .ok (.aload_n 0, 1) := by decide +kernel
theorem dX5_fewestEdits_41 : decode cX5_fewestEdits 41 = .ok (.invokevirtual 46, 3) := by decide +kernel
theorem dX5_fewestEdits_44 : decode cX5_fewestEdits 44 = .ok (.ifCond .eq 5, 3) := by decide +kernel
theorem dX5_fewestEdits_47 : decode cX5_fewestEdits 47 = .ok (.iconst 2, 1) := by decide +kernel
theorem dX5_fewestEdits_48 : decode cX5_fewestEdits 48 = .ok (.ireturn, 1) := by decide +kernel
theorem dX5_fewestEdits_49 : decode cX5_fewestEdits 49 = .ok (.iconst (-1), 1) := by decide +kernel
theorem dX5_fewestEdits_50 : decode cX5_fewestEdits 50 = .ok (.ireturn, 1) := by decide +kernel
theorem dX5_showAsItIs_0 : decode cX5_showAsItIs 0 = .ok (.aload_n 0, 1) := by decide +kernel
theorem dX5_showAsItIs_1 : decode cX5_showAsItIs 1 = .ok (.getfield 9, 3) := by decide +kernel
theorem dX5_showAsItIs_4 : decode cX5_showAsItIs 4 = .ok (.getfield 49, 3) := by decide +kernel
theorem dX5_showAsItIs_7 : decode cX5_showAsItIs 7 = .ok (.iconst 0, 1) := by decide +kernel
theorem dX5_showAsItIs_8 : decode cX5_showAsItIs 8 = .ok (.aload_n 0, 1) := by decide +kernel
theorem dX5_showAsItIs_9 : decode cX5_showAsItIs 9 = .ok (.getfield 26, 3) := by decide +kernel
theorem dX5_showAsItIs_12 : decode cX5_showAsItIs 12 = .ok (.iconst 0, 1) := by decide +kernel
theorem dX5_showAsItIs_13 : decode cX5_showAsItIs 13 = .ok (.aload_n 0, 1) := by decide +kernel
theorem dX5_showAsItIs_14 : decode cX5_showAsItIs 14 = .ok (.getfield 9, 3) := by decide +kernel
theorem dX5_showAsItIs_17 : decode cX5_showAsItIs 17 = .ok (.getfield 54, 3) := by decide +kernel
theorem dX5_showAsItIs_20 : decode cX5_showAsItIs 20 = .ok (.invokestatic 58, 3) := by decide +kernel
theorem dX5_showAsItIs_23 : decode cX5_showAsItIs 23 = .ok (.iconst 0, 1) := by decide +kernel
theorem dX5_showAsItIs_24 : decode cX5_showAsItIs 24 = .ok (.istore_n 1, 1) := by decide +kernel
theorem dX5_showAsItIs_25 : decode cX5_showAsItIs 25 = .ok (.iload_n 1, 1) := by decide +kernel
theorem dX5_showAsItIs_26 : decode cX5_showAsItIs 26 = .ok (.aload_n 0, 1) := by decide +kernel
theorem dX5_showAsItIs_27 : decode cX5_showAsItIs 27 = .ok (.getfield 9, 3) := by decide +kernel
theorem dX5_showAsItIs_30 : decode cX5_showAsItIs 30 = .ok (.invokevirtual 64, 3) := by decide +kernel
theorem dX5_showAsItIs_33 : decode cX5_showAsItIs 33 = .ok (.if_icmp .ge 31, 3) := by decide +kernel
theorem dX5_showAsItIs_36 : decode cX5_showAsItIs 36 = .ok (.aload_n 0, 1) := by decide +kernel
theorem dX5_showAsItIs_37 : decode cX5_showAsItIs 37 = .ok (.iload_n 1, 1) := by decide +kernel
theorem dX5_showAsItIs_38 : decode cX5_showAsItIs 38 = .ok (.aload_n 0, 1) := by decide +kernel
theorem dX5_showAsItIs_39 : decode cX5_showAsItIs 39 = .ok (.getfield 9, 3) := by decide +kernel
theorem dX5_showAsItIs_42 : decode cX5_showAsItIs 42 = .ok (.getfield 49, 3) := by decide +kernel
theorem dX5_showAsItIs_45 : decode cX5_showAsItIs 45 = .ok (.aload_n 0, 1) := by decide +kernel
theorem dX5_showAsItIs_46 : decode cX5_showAsItIs 46 = .ok (.getfield 9, 3) := by decide +kernel
theorem dX5_showAsItIs_49 : decode cX5_showAsItIs 49 = .ok (.getfield 68, 3) := by decide +kernel
theorem dX5_showAsItIs_52 : decode cX5_showAsItIs 52 = .ok (.iload_n 1, 1) := by decide +kernel
theorem dX5_showAsItIs_53 : decode cX5_showAsItIs 53 = .ok (.iaload, 1) := by decide +kernel
theorem dX5_showAsItIs_54 : decode cX5_showAsItIs 54 = .ok (.iaload, 1) := by decide +kernel
theorem dX5_showAsItIs_55 : decode cX5_showAsItIs 55 = .ok (.invokevirtual 71, 3) := by decide +kernel
theorem dX5_showAsItIs_58 : decode cX5_showAsItIs 58 = .ok (.iinc 1 1, 3) := by decide +kernel
theorem dX5_showAsItIs_61 : decode cX5_showAsItIs 61 = .ok (.goto (-36), 3) := by decide +kernel
theorem dX5_showAsItIs_64 : decode cX5_showAsItIs 64 = .ok (.return_, 1) := by decide +kernel
theorem dX5_show_0 : decode cX5_show 0 = .ok (.aload_n 0, 1) := by decide +kernel
theorem dX5_show_1 : decode cX5_show 1 = .ok (.getfield 26, 3) := by decide +kernel
theorem dX5_show_4 : decode cX5_show 4 = .ok (.aload_n 0, 1) := by decide +kernel
theorem dX5_show_5 : decode cX5_show 5 = .ok (.getfield 9, 3) := by decide +kernel
theorem dX5_show_8 : decode cX5_show 8 = .ok (.getfield 68, 3) := by decide +kernel
theorem dX5_show_11 : decode cX5_show 11 = .ok (.iload_n 1, 1) := by decide +kernel
theorem dX5_show_12 : decode cX5_show 12 = .ok (.iaload, 1) := by decide +kernel
theorem dX5_show_13 : decode cX5_show 13 = .ok (.iload_n 2, 1) := by decide +kernel
theorem dX5_show_14 : decode cX5_show 14 = .ok (.iastore, 1) := by decide +kernel
theorem dX5_show_15 : decode cX5_show 15 = .ok (.aload_n 0, 1) := by decide +kernel
theorem dX5_show_16 : decode cX5_show 16 = .ok (.getfield 30, 3) := by decide +kernel
theorem dX5_show_19 : decode cX5_show 19 = .ok (.iconst 2, 1) := by decide +kernel
theorem dX5_show_20 : decode cX5_show 20 = .ok (.iload_n 1, 1) := by decide +kernel
theorem dX5_show_21 : decode cX5_show 21 = .ok (.imul, 1) := by decide +kernel
theorem dX5_show_22 : decode cX5_show 22 = .ok (.iload_n 2, 1) := by decide +kernel
theorem dX5_show_23 : decode cX5_show 23 = .ok (.iastore, 1) := by decide +kernel
theorem dX5_show_24 : decode cX5_show 24 = .ok (.aload_n 0, 1) := by decide +kernel
theorem dX5_show_25 : decode cX5_show 25 = .ok (.getfield 30, 3) := by decide +kernel
theorem dX5_show_28 : decode cX5_show 28 = .ok (.iconst 2, 1) := by decide +kernel
theorem dX5_show_29 : decode cX5_show 29 = .ok (.iload_n 1, 1) := by decide +kernel
theorem dX5_show_30 : decode cX5_show 30 = .ok (.imul, 1) := by decide +kernel
theorem dX5_show_31 : decode cX5_show 31 = .ok (.iconst 1, 1) := by decide +kernel
theorem dX5_show_32 : decode cX5_show 32 = .ok (.iadd, 1) := by decide +kernel
theorem dX5_show_33 : decode cX5_show 33 = .ok (.iload_n 2, 1) := by decide +kernel
theorem dX5_show_34 : decode cX5_show 34 = .ok (.iconst (-1), 1) := by decide +kernel
theorem dX5_show_35 : decode cX5_show 35 = .ok (.ixor, 1) := by decide +kernel
theorem dX5_show_36 : decode cX5_show 36 = .ok (.iastore, 1) := by decide +kernel
theorem dX5_show_37 : decode cX5_show 37 = .ok (.return_, 1) := by decide +kernel
theorem dX5_findOne_0 : decode cX5_findOne 0 = .ok (.aload_n 0, 1) := by decide +kernel
theorem dX5_findOne_1 : decode cX5_findOne 1 = .ok (.getfield 9, 3) := by decide +kernel
theorem dX5_findOne_4 : decode cX5_findOne 4 = .ok (.invokevirtual 75, 3) := by decide +kernel
theorem dX5_findOne_7 : decode cX5_findOne 7 = .ok (.istore_n 1, 1) := by decide +kernel
theorem dX5_findOne_8 : decode cX5_findOne 8 = .ok (.iload_n 1, 1) := by decide +kernel
theorem dX5_findOne_9 : decode cX5_findOne 9 = .ok (.aload_n 0, 1) := by decide +kernel
theorem dX5_findOne_10 : decode cX5_findOne 10 = .ok (.getfield 9, 3) := by decide +kernel
theorem dX5_findOne_13 : decode cX5_findOne 13 = .ok (.invokevirtual 64, 3) := by decide +kernel
theorem dX5_findOne_16 : decode cX5_findOne 16 = .ok (.if_icmp .ge 65, 3) := by decide +kernel
theorem dX5_findOne_19 : decode cX5_findOne 19 = .ok (.aload_n 0, 1) := by decide +kernel
theorem dX5_findOne_20 : decode cX5_findOne 20 = .ok (.getfield 9, 3) := by decide +kernel
theorem dX5_findOne_23 : decode cX5_findOne 23 = .ok (.getfield 78, 3) := by decide +kernel
theorem dX5_findOne_26 : decode cX5_findOne 26 = .ok (.aload_n 0, 1) := by decide +kernel
theorem dX5_findOne_27 : decode cX5_findOne 27 = .ok (.getfield 9, 3) := by decide +kernel
theorem dX5_findOne_30 : decode cX5_findOne 30 = .ok (.getfield 68, 3) := by decide +kernel
theorem dX5_findOne_33 : decode cX5_findOne 33 = .ok (.iload_n 1, 1) := by decide +kernel
theorem dX5_findOne_34 : decode cX5_findOne 34 = .ok (.iaload, 1) := by decide +kernel
theorem dX5_findOne_35 : decode cX5_findOne 35 = .ok (.baload, 1) := by decide +kernel
theorem dX5_findOne_36 : decode cX5_findOne 36 = .ok (.ifCond .ne 39, 3) := by decide +kernel
theorem dX5_findOne_39 : decode cX5_findOne 39 = .ok (.aload_n 0, 1) := by decide +kernel
theorem dX5_findOne_40 : decode cX5_findOne 40 = .ok (.iload_n 1, 1) := by decide +kernel
theorem dX5_findOne_41 : decode cX5_findOne 41 = .ok (.iconst 0, 1) := by decide +kernel
theorem dX5_findOne_42 : decode cX5_findOne 42 = .ok (.iload_n 1, 1) := by decide +kernel
theorem dX5_findOne_43 : decode cX5_findOne 43 = .ok (.iconst 0, 1) := by decide +kernel
theorem dX5_findOne_44 : decode cX5_findOne 44 = .ok (.invokevirtual 82, 3) := by decide +kernel
theorem dX5_findOne_47 : decode cX5_findOne 47 = .ok (.istore_n 2, 1) := by decide +kernel
theorem dX5_findOne_48 : decode cX5_findOne 48 = .ok (.aload_n 0, 1) := by decide +kernel
theorem dX5_findOne_49 : decode cX5_findOne 49 = .ok (.iload_n 1, 1) := by decide +kernel
theorem dX5_findOne_50 : decode cX5_findOne 50 = .ok (.iconst (-1), 1) := by decide +kernel
theorem dX5_findOne_51 : decode cX5_findOne 51 = .ok (.iload_n 1, 1) := by decide +kernel
theorem dX5_findOne_52 : decode cX5_findOne 52 = .ok (.iconst (-1), 1) := by decide +kernel
theorem dX5_findOne_53 : decode cX5_findOne 53 = .ok (.invokevirtual 82, 3) := by decide +kernel
theorem dX5_findOne_56 : decode cX5_findOne 56 = .ok (.istore_n 3, 1) := by decide +kernel
theorem dX5_findOne_57 : decode cX5_findOne 57 = .ok (.aload_n 0, 1) := by decide +kernel
theorem dX5_findOne_58 : decode cX5_findOne 58 = .ok (.iload_n 1, 1) := by decide +kernel
theorem dX5_findOne_59 : decode cX5_findOne 59 = .ok (.iload_n 2, 1) := by decide +kernel
theorem dX5_findOne_60 : decode cX5_findOne 60 = .ok (.iload_n 3, 1) := by decide +kernel
theorem dX5_findOne_61 : decode cX5_findOne 61 = .ok (.aload_n 0, 1) := by decide +kernel
theorem dX5_findOne_62 : decode cX5_findOne 62 = .ok (.getfield 21, 3) := by decide +kernel
theorem dX5_findOne_65 : decode cX5_findOne 65 = .ok (.iconst 0, 1) := by decide +kernel
theorem dX5_findOne_66 : decode cX5_findOne 66 = .ok (.aaload, 1) := by decide +kernel
theorem dX5_findOne_67 : decode cX5_findOne 67 = .ok (.invokevirtual 86, 3) := by decide +kernel
theorem dX5_findOne_70 : decode cX5_findOne 70 = .ok (.ifCond .eq 5, 3) := by decide +kernel
theorem dX5_findOne_73 : decode cX5_findOne 73 = .ok (.iconst 1, 1) := by decide +kernel
theorem dX5_findOne_74 : decode cX5_findOne 74 = .ok (.ireturn, 1) := by decide +kernel
theorem dX5_findOne_75 : decode cX5_findOne 75 = .ok (.iinc 1 1, 3) := by decide +kernel
theorem dX5_findOne_78 : decode cX5_findOne 78 = .ok (.goto (-70), 3) := by decide +kernel
theorem dX5_findOne_81 : decode cX5_findOne 81 = .ok (.iconst 0, 1) := by decide +kernel
theorem dX5_findOne_82 : decode cX5_findOne 82 = .ok (.ireturn, 1) := by decide +kernel
theorem dX5_findTwo_0 : decode cX5_findTwo 0 = .ok (.aload_n 0, 1) := by decide +kernel
theorem dX5_findTwo_1 : decode cX5_findTwo 1 = .ok (.getfield 9, 3) := by decide +kernel
theorem dX5_findTwo_4 : decode cX5_findTwo 4 = .ok (.invokevirtual 75, 3) := by decide +kernel
theorem dX5_findTwo_7 : decode cX5_findTwo 7 = .ok (.istore_n 1, 1) := by decide +kernel
theorem dX5_findTwo_8 : decode cX5_findTwo 8 = .ok (.iload_n 1, 1) := by decide +kernel
theorem dX5_findTwo_9 : decode cX5_findTwo 9 = .ok (.aload_n 0, 1) := by decide +kernel
theorem dX5_findTwo_10 : decode cX5_findTwo 10 = .ok (.getfield 9, 3) := by decide +kernel
theorem dX5_findTwo_13 : decode cX5_findTwo 13 = .ok (.invokevirtual 64, 3) := by decide +kernel
theorem dX5_findTwo_16 : decode cX5_findTwo 16 = .ok (.if_icmp .ge 81, 3) := by decide +kernel
theorem dX5_findTwo_19 : decode cX5_findTwo 19 = .ok (.iload_n 1, 1) := by decide +kernel
theorem dX5_findTwo_20 : decode cX5_findTwo 20 = .ok (.iconst 1, 1) := by decide +kernel
theorem dX5_findTwo_21 : decode cX5_findTwo 21 = .ok (.iadd, 1) := by decide +kernel
theorem dX5_findTwo_22 : decode cX5_findTwo 22 = .ok (.istore_n 2, 1) := by decide +kernel
theorem dX5_findTwo_23 : decode cX5_findTwo 23 = .ok (.iload_n 2, 1) := by decide +kernel
theorem dX5_findTwo_24 : decode cX5_findTwo 24 = .ok (.aload_n 0, 1) := by decide +kernel
theorem dX5_findTwo_25 : decode cX5_findTwo 25 = .ok (.getfield 9, 3) := by decide +kernel
theorem dX5_findTwo_28 : decode cX5_findTwo 28 = .ok (.invokevirtual 64, 3) := by decide +kernel
theorem dX5_findTwo_31 : decode cX5_findTwo 31 = .ok (.if_icmp .ge 60, 3) := by decide +kernel
theorem dX5_findTwo_34 : decode cX5_findTwo 34 = .ok (.aload_n 0, 1) := by decide +kernel
theorem dX5_findTwo_35 : decode cX5_findTwo 35 = .ok (.getfield 9, 3) := by decide +kernel
theorem dX5_findTwo_38 : decode cX5_findTwo 38 = .ok (.getfield 78, 3) := by decide +kernel
theorem dX5_findTwo_41 : decode cX5_findTwo 41 = .ok (.aload_n 0, 1) := by decide +kernel
theorem dX5_findTwo_42 : decode cX5_findTwo 42 = .ok (.getfield 9, 3) := by decide +kernel
theorem dX5_findTwo_45 : decode cX5_findTwo 45 = .ok (.getfield 68, 3) := by decide +kernel
theorem dX5_findTwo_48 : decode cX5_findTwo 48 = .ok (.iload_n 1, 1) := by decide +kernel
theorem dX5_findTwo_49 : decode cX5_findTwo 49 = .ok (.iaload, 1) := by decide +kernel
theorem dX5_findTwo_50 : decode cX5_findTwo 50 = .ok (.baload, 1) := by decide +kernel
theorem dX5_findTwo_51 : decode cX5_findTwo 51 = .ok (.ifCond .ne 34, 3) := by decide +kernel
theorem dX5_findTwo_54 : decode cX5_findTwo 54 = .ok (.aload_n 0, 1) := by decide +kernel
theorem dX5_findTwo_55 : decode cX5_findTwo 55 = .ok (.getfield 9, 3) := by decide +kernel
theorem dX5_findTwo_58 : decode cX5_findTwo 58 = .ok (.getfield 78, 3) := by decide +kernel
theorem dX5_findTwo_61 : decode cX5_findTwo 61 = .ok (.aload_n 0, 1) := by decide +kernel
theorem dX5_findTwo_62 : decode cX5_findTwo 62 = .ok (.getfield 9, 3) := by decide +kernel
theorem dX5_findTwo_65 : decode cX5_findTwo 65 = .ok (.getfield 68, 3) := by decide +kernel
theorem dX5_findTwo_68 : decode cX5_findTwo 68 = .ok (.iload_n 2, 1) := by decide +kernel
theorem dX5_findTwo_69 : decode cX5_findTwo 69 = .ok (.iaload, 1) := by decide +kernel
theorem dX5_findTwo_70 : decode cX5_findTwo 70 = .ok (.baload, 1) := by decide +kernel
theorem dX5_findTwo_71 : decode cX5_findTwo 71 = .ok (.ifCond .ne 14, 3) := by decide +kernel
theorem dX5_findTwo_74 : decode cX5_findTwo 74 = .ok (.aload_n 0, 1) := by decide +kernel
theorem dX5_findTwo_75 : decode cX5_findTwo 75 = .ok (.iload_n 1, 1) := by decide +kernel
theorem dX5_findTwo_76 : decode cX5_findTwo 76 = .ok (.iload_n 2, 1) := by decide +kernel
theorem dX5_findTwo_77 : decode cX5_findTwo 77 = .ok (.invokevirtual 90, 3) := by decide +kernel
theorem dX5_findTwo_80 : decode cX5_findTwo 80 = .ok (.ifCond .eq 5, 3) := by decide +kernel
theorem dX5_findTwo_83 : decode cX5_findTwo 83 = .ok (.iconst 1, 1) := by decide +kernel
theorem dX5_findTwo_84 : decode cX5_findTwo 84 = .ok (.ireturn, 1) := by decide +kernel
theorem dX5_findTwo_85 : decode cX5_findTwo 85 = .ok (.iinc 2 1, 3) := by decide +kernel
theorem dX5_findTwo_88 : decode cX5_findTwo 88 = .ok (.goto (-65), 3) := by decide +kernel
theorem dX5_findTwo_91 : decode cX5_findTwo 91 = .ok (.iinc 1 1, 3) := by decide +kernel
theorem dX5_findTwo_94 : decode cX5_findTwo 94 = .ok (.goto (-86), 3) := by decide +kernel
theorem dX5_findTwo_97 : decode cX5_findTwo 97 = .ok (.iconst 0, 1) := by decide +kernel
theorem dX5_findTwo_98 : decode cX5_findTwo 98 = .ok (.ireturn, 1) := by decide +kernel
theorem dX5_findPair_0 : decode cX5_findPair 0 = .ok (.aload_n 0, 1) := by decide +kernel
theorem dX5_findPair_1 : decode cX5_findPair 1 = .ok (.iload_n 1, 1) := by decide +kernel
theorem dX5_findPair_2 : decode cX5_findPair 2 = .ok (.iconst 0, 1) := by decide +kernel
theorem dX5_findPair_3 : decode cX5_findPair 3 = .ok (.iload_n 2, 1) := by decide +kernel
theorem dX5_findPair_4 : decode cX5_findPair 4 = .ok (.iconst 0, 1) := by decide +kernel
theorem dX5_findPair_5 : decode cX5_findPair 5 = .ok (.invokevirtual 82, 3) := by decide +kernel
theorem dX5_findPair_8 : decode cX5_findPair 8 = .ok (.istore_n 3, 1) := by decide +kernel
theorem dX5_findPair_9 : decode cX5_findPair 9 = .ok (.aload_n 0, 1) := by decide +kernel
theorem dX5_findPair_10 : decode cX5_findPair 10 = .ok (.iload_n 1, 1) := by decide +kernel
theorem dX5_findPair_11 : decode cX5_findPair 11 = .ok (.iconst 0, 1) := by decide +kernel
theorem dX5_findPair_12 : decode cX5_findPair 12 = .ok (.iload_n 2, 1) := by decide +kernel
theorem dX5_findPair_13 : decode cX5_findPair 13 = .ok (.iconst (-1), 1) := by decide +kernel
theorem dX5_findPair_14 : decode cX5_findPair 14 = .ok (.invokevirtual 82, 3) := by decide +kernel
theorem dX5_findPair_17 : decode cX5_findPair 17 = .ok (.istore 4, 2) := by decide +kernel
theorem dX5_findPair_19 : decode cX5_findPair 19 = .ok (.aload_n 0, 1) := by decide +kernel
theorem dX5_findPair_20 : decode cX5_findPair 20 = .ok (.iload_n 1, 1) := by decide +kernel
theorem dX5_findPair_21 : decode cX5_findPair 21 = .ok (.iconst (-1), 1) := by decide +kernel
theorem dX5_findPair_22 : decode cX5_findPair 22 = .ok (.iload_n 2, 1) := by decide +kernel
theorem dX5_findPair_23 : decode cX5_findPair 23 = .ok (.iconst 0, 1) := by decide +kernel
theorem dX5_findPair_24 : decode cX5_findPair 24 = .ok (.invokevirtual 82, 3) := by decide +kernel
theorem dX5_findPair_27 : decode cX5_findPair 27 = .ok (.istore 5, 2) := by decide +kernel
theorem dX5_findPair_29 : decode cX5_findPair 29 = .ok (.aload_n 0, 1) := by decide +kernel
theorem dX5_findPair_30 : decode cX5_findPair 30 = .ok (.iload_n 1, 1) := by decide +kernel
theorem dX5_findPair_31 : decode cX5_findPair 31 = .ok (.iconst (-1), 1) := by decide +kernel
theorem dX5_findPair_32 : decode cX5_findPair 32 = .ok (.iload_n 2, 1) := by decide +kernel
theorem dX5_findPair_33 : decode cX5_findPair 33 = .ok (.iconst (-1), 1) := by decide +kernel
theorem dX5_findPair_34 : decode cX5_findPair 34 = .ok (.invokevirtual 82, 3) := by decide +kernel
theorem dX5_findPair_37 : decode cX5_findPair 37 = .ok (.istore 6, 2) := by decide +kernel
theorem dX5_findPair_39 : decode cX5_findPair 39 = .ok (.iload_n 3, 1) := by decide +kernel
theorem dX5_findPair_40 : decode cX5_findPair 40 = .ok (.iload 4, 2) := by decide +kernel
theorem dX5_findPair_42 : decode cX5_findPair 42 = .ok (.ior, 1) := by decide +kernel
theorem dX5_findPair_43 : decode cX5_findPair 43 = .ok (.iload 5, 2) := by decide +kernel
theorem dX5_findPair_45 : decode cX5_findPair 45 = .ok (.ior, 1) := by decide +kernel
theorem dX5_findPair_46 : decode cX5_findPair 46 = .ok (.iload 6, 2) := by decide +kernel
theorem dX5_findPair_48 : decode cX5_findPair 48 = .ok (.ior, 1) := by decide +kernel
theorem dX5_findPair_49 : decode cX5_findPair 49 = .ok (.iconst (-1), 1) := by decide +kernel
theorem dX5_findPair_50 : decode cX5_findPair 50 = .ok (.if_icmp .eq 5, 3) := by decide +kernel
theorem dX5_findPair_53 : decode cX5_findPair 53 = .ok (.iconst 0, 1) := by decide +kernel
theorem dX5_findPair_54 : decode cX5_findPair 54 = .ok (.ireturn, 1) := by decide +kernel
theorem dX5_findPair_55 : decode cX5_findPair 55 = .ok (.iconst 0, 1) := by decide +kernel
theorem dX5_findPair_56 : decode cX5_findPair 56 = .ok (.istore 7, 2) := by decide +kernel
theorem dX5_findPair_58 : decode cX5_findPair 58 = .ok (.iload 7, 2) := by decide +kernel
theorem dX5_findPair_60 : decode cX5_findPair 60 = .ok (.iconst 2, 1) := by decide +kernel
theorem dX5_findPair_61 : decode cX5_findPair 61 = .ok (.iload_n 1, 1) := by decide +kernel
theorem dX5_findPair_62 : decode cX5_findPair 62 = .ok (.imul, 1) := by decide +kernel
theorem dX5_findPair_63 : decode cX5_findPair 63 = .ok (.if_icmp .ge 148, 3) := by decide +kernel
theorem dX5_findPair_66 : decode cX5_findPair 66 = .ok (.iload 7, 2) := by decide +kernel
theorem dX5_findPair_68 : decode cX5_findPair 68 = .ok (.istore 8, 2) := by decide +kernel
theorem dX5_findPair_70 : decode cX5_findPair 70 = .ok (.iload 8, 2) := by decide +kernel
theorem dX5_findPair_72 : decode cX5_findPair 72 = .ok (.iconst 2, 1) := by decide +kernel
theorem dX5_findPair_73 : decode cX5_findPair 73 = .ok (.iload_n 1, 1) := by decide +kernel
theorem dX5_findPair_74 : decode cX5_findPair 74 = .ok (.imul, 1) := by decide +kernel
theorem dX5_findPair_75 : decode cX5_findPair 75 = .ok (.if_icmp .ge 130, 3) := by decide +kernel
theorem dX5_findPair_78 : decode cX5_findPair 78 = .ok (.aload_n 0, 1) := by decide +kernel
theorem dX5_findPair_79 : decode cX5_findPair 79 = .ok (.getfield 30, 3) := by decide +kernel
theorem dX5_findPair_82 : decode cX5_findPair 82 = .ok (.iload 7, 2) := by decide +kernel
theorem dX5_findPair_84 : decode cX5_findPair 84 = .ok (.iaload, 1) := by decide +kernel
theorem dX5_findPair_85 : decode cX5_findPair 85 = .ok (.aload_n 0, 1) := by decide +kernel
theorem dX5_findPair_86 : decode cX5_findPair 86 = .ok (.getfield 30, 3) := by decide +kernel
theorem dX5_findPair_89 : decode cX5_findPair 89 = .ok (.iload 8, 2) := by decide +kernel
theorem dX5_findPair_91 : decode cX5_findPair 91 = .ok (.iaload, 1) := by decide +kernel
theorem dX5_findPair_92 : decode cX5_findPair 92 = .ok (.iand, 1) := by decide +kernel
theorem dX5_findPair_93 : decode cX5_findPair 93 = .ok (.istore 9, 2) := by decide +kernel
theorem dX5_findPair_95 : decode cX5_findPair 95 = .ok (.iload 9, 2) := by decide +kernel
theorem dX5_findPair_97 : decode cX5_findPair 97 = .ok (.iload 5, 2) := by decide +kernel
theorem dX5_findPair_99 : decode cX5_findPair 99 = .ok (.iand, 1) := by decide +kernel
theorem dX5_findPair_100 : decode cX5_findPair 100 = .ok (.iload 9, 2) := by decide +kernel
theorem dX5_findPair_102 : decode cX5_findPair 102 = .ok (.iconst (-1), 1) := by decide +kernel
theorem dX5_findPair_103 : decode cX5_findPair 103 = .ok (.ixor, 1) := by decide +kernel
theorem dX5_findPair_104 : decode cX5_findPair 104 = .ok (.iload_n 3, 1) := by decide +kernel
theorem dX5_findPair_105 : decode cX5_findPair 105 = .ok (.iand, 1) := by decide +kernel
theorem dX5_findPair_106 : decode cX5_findPair 106 = .ok (.ior, 1) := by decide +kernel
theorem dX5_findPair_107 : decode cX5_findPair 107 = .ok (.istore 10, 2) := by decide +kernel
theorem dX5_findPair_109 : decode cX5_findPair 109 = .ok (.iload 9, 2) := by decide +kernel
theorem dX5_findPair_111 : decode cX5_findPair 111 = .ok (.iload 6, 2) := by decide +kernel
theorem dX5_findPair_113 : decode cX5_findPair 113 = .ok (.iand, 1) := by decide +kernel
theorem dX5_findPair_114 : decode cX5_findPair 114 = .ok (.iload 9, 2) := by decide +kernel
theorem dX5_findPair_116 : decode cX5_findPair 116 = .ok (.iconst (-1), 1) := by decide +kernel
theorem dX5_findPair_117 : decode cX5_findPair 117 = .ok (.ixor, 1) := by decide +kernel
theorem dX5_findPair_118 : decode cX5_findPair 118 = .ok (.iload 4, 2) := by decide +kernel
theorem dX5_findPair_120 : decode cX5_findPair 120 = .ok (.iand, 1) := by decide +kernel
theorem dX5_findPair_121 : decode cX5_findPair 121 = .ok (.ior, 1) := by decide +kernel
theorem dX5_findPair_122 : decode cX5_findPair 122 = .ok (.istore 11, 2) := by decide +kernel
theorem dX5_findPair_124 : decode cX5_findPair 124 = .ok (.iload 10, 2) := by decide +kernel
theorem dX5_findPair_126 : decode cX5_findPair 126 = .ok (.iload 11, 2) := by decide +kernel
theorem dX5_findPair_128 : decode cX5_findPair 128 = .ok (.ior, 1) := by decide +kernel
theorem dX5_findPair_129 : decode cX5_findPair 129 = .ok (.iconst (-1), 1) := by decide +kernel
theorem dX5_findPair_130 : decode cX5_findPair 130 = .ok (.if_icmp .ne 69, 3) := by decide +kernel
theorem dX5_findPair_133 : decode cX5_findPair 133 = .ok (.aload_n 0, 1) := by decide +kernel
theorem dX5_findPair_134 : decode cX5_findPair 134 = .ok (.iload_n 1, 1) := by decide +kernel
theorem dX5_findPair_135 : decode cX5_findPair 135 = .ok (.iload 9, 2) := by decide +kernel
theorem dX5_findPair_137 : decode cX5_findPair 137 = .ok (.iload_n 1, 1) := by decide +kernel
theorem dX5_findPair_138 : decode cX5_findPair 138 = .ok (.iload 9, 2) := by decide +kernel
theorem dX5_findPair_140 : decode cX5_findPair 140 = .ok (.invokevirtual 94, 3) := by decide +kernel
theorem dX5_findPair_143 : decode cX5_findPair 143 = .ok (.aload_n 0, 1) := by decide +kernel
theorem dX5_findPair_144 : decode cX5_findPair 144 = .ok (.iload_n 2, 1) := by decide +kernel
theorem dX5_findPair_145 : decode cX5_findPair 145 = .ok (.iload 10, 2) := by decide +kernel
theorem dX5_findPair_147 : decode cX5_findPair 147 = .ok (.iload 11, 2) := by decide +kernel
theorem dX5_findPair_149 : decode cX5_findPair 149 = .ok (.aload_n 0, 1) := by decide +kernel
theorem dX5_findPair_150 : decode cX5_findPair 150 = .ok (.getfield 21, 3) := by decide +kernel
theorem dX5_findPair_153 : decode cX5_findPair 153 = .ok (.iconst 1, 1) := by decide +kernel
theorem dX5_findPair_154 : decode cX5_findPair 154 = .ok (.aaload, 1) := by decide +kernel
theorem dX5_findPair_155 : decode cX5_findPair 155 = .ok (.invokevirtual 86, 3) := by decide +kernel
theorem dX5_findPair_158 : decode cX5_findPair 158 = .ok (.ifCond .eq 41, 3) := by decide +kernel
theorem dX5_findPair_161 : decode cX5_findPair 161 = .ok (.aload_n 0, 1) := by decide +kernel
theorem dX5_findPair_162 : decode cX5_findPair 162 = .ok (.getfield 21, 3) := by decide +kernel
theorem dX5_findPair_165 : decode cX5_findPair 165 = .ok (.iconst 0, 1) := by decide +kernel
theorem dX5_findPair_166 : decode cX5_findPair 166 = .ok (.aaload, 1) := by decide +kernel
theorem dX5_findPair_167 : decode cX5_findPair 167 = .ok (.aload_n 0, 1) := by decide +kernel
theorem dX5_findPair_168 : decode cX5_findPair 168 = .ok (.getfield 9, 3) := by decide +kernel
theorem dX5_findPair_171 : decode cX5_findPair 171 = .ok (.getfield 68, 3) := by decide +kernel
theorem dX5_findPair_174 : decode cX5_findPair 174 = .ok (.iload_n 1, 1) := by decide +kernel
theorem dX5_findPair_175 : decode cX5_findPair 175 = .ok (.iaload, 1) := by decide +kernel
theorem dX5_findPair_176 : decode cX5_findPair 176 = .ok (.aload_n 0, 1) := by decide +kernel
theorem dX5_findPair_177 : decode cX5_findPair 177 = .ok (.getfield 9, 3) := by decide +kernel
theorem dX5_findPair_180 : decode cX5_findPair 180 = .ok (.iload 7, 2) := by decide +kernel
theorem dX5_findPair_182 : decode cX5_findPair 182 = .ok (.invokevirtual 98, 3) := by decide +kernel
theorem dX5_findPair_185 : decode cX5_findPair 185 = .ok (.aload_n 0, 1) := by decide +kernel
theorem dX5_findPair_186 : decode cX5_findPair 186 = .ok (.getfield 9, 3) := by decide +kernel
theorem dX5_findPair_189 : decode cX5_findPair 189 = .ok (.iload 8, 2) := by decide +kernel
theorem dX5_findPair_191 : decode cX5_findPair 191 = .ok (.invokevirtual 98, 3) := by decide +kernel
theorem dX5_findPair_194 : decode cX5_findPair 194 = .ok (.invokevirtual 102, 3) := by decide +kernel
theorem dX5_findPair_197 : decode cX5_findPair 197 = .ok (.iconst 1, 1) := by decide +kernel
theorem dX5_findPair_198 : decode cX5_findPair 198 = .ok (.ireturn, 1) := by decide +kernel
theorem dX5_findPair_199 : decode cX5_findPair 199 = .ok (.iinc 8 1, 3) := by decide +kernel
theorem dX5_findPair_202 : decode cX5_findPair 202 = .ok (.goto (-132), 3) := by decide +kernel
theorem dX5_findPair_205 : decode cX5_findPair 205 = .ok (.iinc 7 1, 3) := by decide +kernel
theorem dX5_findPair_208 : decode cX5_findPair 208 = .ok (.goto (-150), 3) := by decide +kernel
theorem dX5_findPair_211 : decode cX5_findPair 211 = .ok (.iconst 0, 1) := by decide +kernel
theorem dX5_findPair_212 : decode cX5_findPair 212 = .ok (.ireturn, 1) := by decide +kernel
theorem dX5_findLiterals_0 : decode cX5_findLiterals 0 = .ok (.iload_n 2, 1) := by decide +kernel
theorem dX5_findLiterals_1 : decode cX5_findLiterals 1 = .ok (.iload_n 3, 1) := by decide +kernel
theorem dX5_findLiterals_2 : decode cX5_findLiterals 2 = .ok (.ior, 1) := by decide +kernel
theorem dX5_findLiterals_3 : decode cX5_findLiterals 3 = .ok (.iconst (-1), 1) := by decide +kernel
theorem dX5_findLiterals_4 : decode cX5_findLiterals 4 = .ok (.if_icmp .eq 5, 3) := by decide +kernel
theorem dX5_findLiterals_7 : decode cX5_findLiterals 7 = .ok (.iconst 0, 1) := by decide +kernel
theorem dX5_findLiterals_8 : decode cX5_findLiterals 8 = .ok (.ireturn, 1) := by decide +kernel
theorem dX5_findLiterals_9 : decode cX5_findLiterals 9 = .ok (.iconst 0, 1) := by decide +kernel
theorem dX5_findLiterals_10 : decode cX5_findLiterals 10 = .ok (.istore 5, 2) := by decide +kernel
theorem dX5_findLiterals_12 : decode cX5_findLiterals 12 = .ok (.iload 5, 2) := by decide +kernel
theorem dX5_findLiterals_14 : decode cX5_findLiterals 14 = .ok (.iconst 2, 1) := by decide +kernel
theorem dX5_findLiterals_15 : decode cX5_findLiterals 15 = .ok (.iload_n 1, 1) := by decide +kernel
theorem dX5_findLiterals_16 : decode cX5_findLiterals 16 = .ok (.imul, 1) := by decide +kernel
theorem dX5_findLiterals_17 : decode cX5_findLiterals 17 = .ok (.if_icmp .ge 76, 3) := by decide +kernel
theorem dX5_findLiterals_20 : decode cX5_findLiterals 20 = .ok (.aload_n 0, 1) := by decide +kernel
theorem dX5_findLiterals_21 : decode cX5_findLiterals 21 = .ok (.getfield 30, 3) := by decide +kernel
theorem dX5_findLiterals_24 : decode cX5_findLiterals 24 = .ok (.iload 5, 2) := by decide +kernel
theorem dX5_findLiterals_26 : decode cX5_findLiterals 26 = .ok (.iaload, 1) := by decide +kernel
theorem dX5_findLiterals_27 : decode cX5_findLiterals 27 = .ok (.iconst (-1), 1) := by decide +kernel
theorem dX5_findLiterals_28 : decode cX5_findLiterals 28 = .ok (.ixor, 1) := by decide +kernel
theorem dX5_findLiterals_29 : decode cX5_findLiterals 29 = .ok (.iload_n 2, 1) := by decide +kernel
theorem dX5_findLiterals_30 : decode cX5_findLiterals 30 = .ok (.iconst (-1), 1) := by decide +kernel
theorem dX5_findLiterals_31 : decode cX5_findLiterals 31 = .ok (.ixor, 1) := by decide +kernel
theorem dX5_findLiterals_32 : decode cX5_findLiterals 32 = .ok (.iand, 1) := by decide +kernel
theorem dX5_findLiterals_33 : decode cX5_findLiterals 33 = .ok (.ifCond .ne 54, 3) := by decide +kernel
theorem dX5_findLiterals_36 : decode cX5_findLiterals 36 = .ok (.aload_n 0, 1) := by decide +kernel
theorem dX5_findLiterals_37 : decode cX5_findLiterals 37 = .ok (.iload_n 1, 1) := by decide +kernel
theorem dX5_findLiterals_38 : decode cX5_findLiterals 38 = .ok (.iload 5, 2) := by decide +kernel
theorem dX5_findLiterals_40 : decode cX5_findLiterals 40 = .ok (.iload_n 2, 1) := by decide +kernel
theorem dX5_findLiterals_41 : decode cX5_findLiterals 41 = .ok (.iload_n 3, 1) := by decide +kernel
theorem dX5_findLiterals_42 : decode cX5_findLiterals 42 = .ok (.invokevirtual 106, 3) := by decide +kernel
theorem dX5_findLiterals_45 : decode cX5_findLiterals 45 = .ok (.istore 6, 2) := by decide +kernel
theorem dX5_findLiterals_47 : decode cX5_findLiterals 47 = .ok (.iload 6, 2) := by decide +kernel
theorem dX5_findLiterals_49 : decode cX5_findLiterals 49 = .ok (.iconst (-1), 1) := by decide +kernel
theorem dX5_findLiterals_50 : decode cX5_findLiterals 50 = .ok (.if_icmp .eq 37, 3) := by decide +kernel
theorem dX5_findLiterals_53 : decode cX5_findLiterals 53 = .ok (.aload 4, 2) := by decide +kernel
theorem dX5_findLiterals_55 : decode cX5_findLiterals 55 = .ok (.aload_n 0, 1) := by decide +kernel
theorem dX5_findLiterals_56 : decode cX5_findLiterals 56 = .ok (.getfield 9, 3) := by decide +kernel
theorem dX5_findLiterals_59 : decode cX5_findLiterals 59 = .ok (.getfield 68, 3) := by decide +kernel
theorem dX5_findLiterals_62 : decode cX5_findLiterals 62 = .ok (.iload_n 1, 1) := by decide +kernel
theorem dX5_findLiterals_63 : decode cX5_findLiterals 63 = .ok (.iaload, 1) := by decide +kernel
theorem dX5_findLiterals_64 : decode cX5_findLiterals 64 = .ok (.aload_n 0, 1) := by decide +kernel
theorem dX5_findLiterals_65 : decode cX5_findLiterals 65 = .ok (.getfield 9, 3) := by decide +kernel
theorem dX5_findLiterals_68 : decode cX5_findLiterals 68 = .ok (.iload 5, 2) := by decide +kernel
theorem dX5_findLiterals_70 : decode cX5_findLiterals 70 = .ok (.invokevirtual 98, 3) := by decide +kernel
theorem dX5_findLiterals_73 : decode cX5_findLiterals 73 = .ok (.aload_n 0, 1) := by decide +kernel
theorem dX5_findLiterals_74 : decode cX5_findLiterals 74 = .ok (.getfield 9, 3) := by decide +kernel
theorem dX5_findLiterals_77 : decode cX5_findLiterals 77 = .ok (.iload 6, 2) := by decide +kernel
theorem dX5_findLiterals_79 : decode cX5_findLiterals 79 = .ok (.invokevirtual 98, 3) := by decide +kernel
theorem dX5_findLiterals_82 : decode cX5_findLiterals 82 = .ok (.invokevirtual 102, 3) := by decide +kernel
theorem dX5_findLiterals_85 : decode cX5_findLiterals 85 = .ok (.iconst 1, 1) := by decide +kernel
theorem dX5_findLiterals_86 : decode cX5_findLiterals 86 = .ok (.ireturn, 1) := by decide +kernel
theorem dX5_findLiterals_87 : decode cX5_findLiterals 87 = .ok (.iinc 5 1, 3) := by decide +kernel
theorem dX5_findLiterals_90 : decode cX5_findLiterals 90 = .ok (.goto (-78), 3) := by decide +kernel
theorem dX5_findLiterals_93 : decode cX5_findLiterals 93 = .ok (.iconst 0, 1) := by decide +kernel
theorem dX5_findLiterals_94 : decode cX5_findLiterals 94 = .ok (.ireturn, 1) := by decide +kernel
theorem dX5_findPartner_0 : decode cX5_findPartner 0 = .ok (.iload_n 2, 1) := by decide +kernel
theorem dX5_findPartner_1 : decode cX5_findPartner 1 = .ok (.istore 5, 2) := by decide +kernel
theorem dX5_findPartner_3 : decode cX5_findPartner 3 = .ok (.iload 5, 2) := by decide +kernel
theorem dX5_findPartner_5 : decode cX5_findPartner 5 = .ok (.iconst 2, 1) := by decide +kernel
theorem dX5_findPartner_6 : decode cX5_findPartner 6 = .ok (.iload_n 1, 1) := by decide +kernel
theorem dX5_findPartner_7 : decode cX5_findPartner 7 = .ok (.imul, 1) := by decide +kernel
theorem dX5_findPartner_8 : decode cX5_findPartner 8 = .ok (.if_icmp .ge 47, 3) := by decide +kernel
theorem dX5_findPartner_11 : decode cX5_findPartner 11 = .ok (.aload_n 0, 1) := by decide +kernel
theorem dX5_findPartner_12 : decode cX5_findPartner 12 = .ok (.getfield 30, 3) := by decide +kernel
theorem dX5_findPartner_15 : decode cX5_findPartner 15 = .ok (.iload_n 2, 1) := by decide +kernel
theorem dX5_findPartner_16 : decode cX5_findPartner 16 = .ok (.iaload, 1) := by decide +kernel
theorem dX5_findPartner_17 : decode cX5_findPartner 17 = .ok (.aload_n 0, 1) := by decide +kernel
theorem dX5_findPartner_18 : decode cX5_findPartner 18 = .ok (.getfield 30, 3) := by decide +kernel
theorem dX5_findPartner_21 : decode cX5_findPartner 21 = .ok (.iload 5, 2) := by decide +kernel
theorem dX5_findPartner_23 : decode cX5_findPartner 23 = .ok (.iaload, 1) := by decide +kernel
theorem dX5_findPartner_24 : decode cX5_findPartner 24 = .ok (.iand, 1) := by decide +kernel
theorem dX5_findPartner_25 : decode cX5_findPartner 25 = .ok (.istore 6, 2) := by decide +kernel
theorem dX5_findPartner_27 : decode cX5_findPartner 27 = .ok (.iload 6, 2) := by decide +kernel
theorem dX5_findPartner_29 : decode cX5_findPartner 29 = .ok (.iload 4, 2) := by decide +kernel
theorem dX5_findPartner_31 : decode cX5_findPartner 31 = .ok (.iconst (-1), 1) := by decide +kernel
theorem dX5_findPartner_32 : decode cX5_findPartner 32 = .ok (.ixor, 1) := by decide +kernel
theorem dX5_findPartner_33 : decode cX5_findPartner 33 = .ok (.iand, 1) := by decide +kernel
theorem dX5_findPartner_34 : decode cX5_findPartner 34 = .ok (.iload 6, 2) := by decide +kernel
theorem dX5_findPartner_36 : decode cX5_findPartner 36 = .ok (.iconst (-1), 1) := by decide +kernel
theorem dX5_findPartner_37 : decode cX5_findPartner 37 = .ok (.ixor, 1) := by decide +kernel
theorem dX5_findPartner_38 : decode cX5_findPartner 38 = .ok (.iload_n 3, 1) := by decide +kernel
theorem dX5_findPartner_39 : decode cX5_findPartner 39 = .ok (.iconst (-1), 1) := by decide +kernel
theorem dX5_findPartner_40 : decode cX5_findPartner 40 = .ok (.ixor, 1) := by decide +kernel
theorem dX5_findPartner_41 : decode cX5_findPartner 41 = .ok (.iand, 1) := by decide +kernel
theorem dX5_findPartner_42 : decode cX5_findPartner 42 = .ok (.ior, 1) := by decide +kernel
theorem dX5_findPartner_43 : decode cX5_findPartner 43 = .ok (.ifCond .ne 6, 3) := by decide +kernel
theorem dX5_findPartner_46 : decode cX5_findPartner 46 = .ok (.iload 5, 2) := by decide +kernel
theorem dX5_findPartner_48 : decode cX5_findPartner 48 = .ok (.ireturn, 1) := by decide +kernel
theorem dX5_findPartner_49 : decode cX5_findPartner 49 = .ok (.iinc 5 1, 3) := by decide +kernel
theorem dX5_findPartner_52 : decode cX5_findPartner 52 = .ok (.goto (-49), 3) := by decide +kernel
theorem dX5_findPartner_55 : decode cX5_findPartner 55 = .ok (.iconst (-1), 1) := by decide +kernel
theorem dX5_findPartner_56 : decode cX5_findPartner 56 = .ok (.ireturn, 1) := by decide +kernel
theorem dX5_agreementWith_0 : decode cX5_agreementWith 0 = .ok (.aload_n 0, 1) := by decide +kernel
theorem dX5_agreementWith_1 : decode cX5_agreementWith 1 = .ok (.iload_n 1, 1) := by decide +kernel
theorem dX5_agreementWith_2 : decode cX5_agreementWith 2 = .ok (.iload_n 2, 1) := by decide +kernel
theorem dX5_agreementWith_3 : decode cX5_agreementWith 3 = .ok (.iload_n 3, 1) := by decide +kernel
theorem dX5_agreementWith_4 : decode cX5_agreementWith 4 = .ok (.iload 4, 2) := by decide +kernel
theorem dX5_agreementWith_6 : decode cX5_agreementWith 6 = .ok (.invokevirtual 94, 3) := by decide +kernel
theorem dX5_agreementWith_9 : decode cX5_agreementWith 9 = .ok (.aload_n 0, 1) := by decide +kernel
theorem dX5_agreementWith_10 : decode cX5_agreementWith 10 = .ok (.getfield 15, 3) := by decide +kernel
theorem dX5_agreementWith_13 : decode cX5_agreementWith 13 = .ok (.aload_n 0, 1) := by decide +kernel
theorem dX5_agreementWith_14 : decode cX5_agreementWith 14 = .ok (.getfield 26, 3) := by decide +kernel
theorem dX5_agreementWith_17 : decode cX5_agreementWith 17 = .ok (.invokevirtual 36, 3) := by decide +kernel
theorem dX5_agreementWith_20 : decode cX5_agreementWith 20 = .ok (.ireturn, 1) := by decide +kernel
theorem dX5_setAndSpread_0 : decode cX5_setAndSpread 0 = .ok (.aload_n 0, 1) := by decide +kernel
theorem dX5_setAndSpread_1 : decode cX5_setAndSpread 1 = .ok (.getfield 9, 3) := by decide +kernel
theorem dX5_setAndSpread_4 : decode cX5_setAndSpread 4 = .ok (.invokevirtual 75, 3) := by decide +kernel
theorem dX5_setAndSpread_7 : decode cX5_setAndSpread 7 = .ok (.istore 5, 2) := by decide +kernel
theorem dX5_setAndSpread_9 : decode cX5_setAndSpread 9 = .ok (.iload 5, 2) := by decide +kernel
theorem dX5_setAndSpread_11 : decode cX5_setAndSpread 11 = .ok (.aload_n 0, 1) := by decide +kernel
theorem dX5_setAndSpread_12 : decode cX5_setAndSpread 12 = .ok (.getfield 9, 3) := by decide +kernel
theorem dX5_setAndSpread_15 : decode cX5_setAndSpread 15 = .ok (.invokevirtual 64, 3) := by decide +kernel
theorem dX5_setAndSpread_18 : decode cX5_setAndSpread 18 = .ok (.if_icmp .ge 95, 3) := by decide +kernel
theorem dX5_setAndSpread_21 : decode cX5_setAndSpread 21 = .ok (.iload 5, 2) := by decide +kernel
theorem dX5_setAndSpread_23 : decode cX5_setAndSpread 23 = .ok (.iload_n 1, 1) := by decide +kernel
theorem dX5_setAndSpread_24 : decode cX5_setAndSpread 24 = .ok (.if_icmp .ne 13, 3) := by decide +kernel
theorem dX5_setAndSpread_27 : decode cX5_setAndSpread 27 = .ok (.aload_n 0, 1) := by decide +kernel
theorem dX5_setAndSpread_28 : decode cX5_setAndSpread 28 = .ok (.iload 5, 2) := by decide +kernel
theorem dX5_setAndSpread_30 : decode cX5_setAndSpread 30 = .ok (.iload_n 2, 1) := by decide +kernel
theorem dX5_setAndSpread_31 : decode cX5_setAndSpread 31 = .ok (.invokevirtual 71, 3) := by decide +kernel
theorem dX5_setAndSpread_34 : decode cX5_setAndSpread 34 = .ok (.goto 73, 3) := by decide +kernel
theorem dX5_setAndSpread_37 : decode cX5_setAndSpread 37 = .ok (.iload 5, 2) := by decide +kernel
theorem dX5_setAndSpread_39 : decode cX5_setAndSpread 39 = .ok (.iload_n 3, 1) := by decide +kernel
theorem dX5_setAndSpread_40 : decode cX5_setAndSpread 40 = .ok (.if_icmp .ne 14, 3) := by decide +kernel
theorem dX5_setAndSpread_43 : decode cX5_setAndSpread 43 = .ok (.aload_n 0, 1) := by decide +kernel
theorem dX5_setAndSpread_44 : decode cX5_setAndSpread 44 = .ok (.iload 5, 2) := by decide +kernel
theorem dX5_setAndSpread_46 : decode cX5_setAndSpread 46 = .ok (.iload 4, 2) := by decide +kernel
theorem dX5_setAndSpread_48 : decode cX5_setAndSpread 48 = .ok (.invokevirtual 71, 3) := by decide +kernel
theorem dX5_setAndSpread_51 : decode cX5_setAndSpread 51 = .ok (.goto 56, 3) := by decide +kernel
theorem dX5_setAndSpread_54 : decode cX5_setAndSpread 54 = .ok (.aload_n 0, 1) := by decide +kernel
theorem dX5_setAndSpread_55 : decode cX5_setAndSpread 55 = .ok (.getfield 9, 3) := by decide +kernel
theorem dX5_setAndSpread_58 : decode cX5_setAndSpread 58 = .ok (.getfield 68, 3) := by decide +kernel
theorem dX5_setAndSpread_61 : decode cX5_setAndSpread 61 = .ok (.iload 5, 2) := by decide +kernel
theorem dX5_setAndSpread_63 : decode cX5_setAndSpread 63 = .ok (.iaload, 1) := by decide +kernel
theorem dX5_setAndSpread_64 : decode cX5_setAndSpread 64 = .ok (.istore 6, 2) := by decide +kernel
theorem dX5_setAndSpread_66 : decode cX5_setAndSpread 66 = .ok (.aload_n 0, 1) := by decide +kernel
theorem dX5_setAndSpread_67 : decode cX5_setAndSpread 67 = .ok (.iload 5, 2) := by decide +kernel
theorem dX5_setAndSpread_69 : decode cX5_setAndSpread 69 = .ok (.aload_n 0, 1) := by decide +kernel
theorem dX5_setAndSpread_70 : decode cX5_setAndSpread 70 = .ok (.getfield 26, 3) := by decide +kernel
theorem dX5_setAndSpread_73 : decode cX5_setAndSpread 73 = .ok (.aload_n 0, 1) := by decide +kernel
theorem dX5_setAndSpread_74 : decode cX5_setAndSpread 74 = .ok (.getfield 9, 3) := by decide +kernel
theorem dX5_setAndSpread_77 : decode cX5_setAndSpread 77 = .ok (.getfield 109, 3) := by decide +kernel
theorem dX5_setAndSpread_80 : decode cX5_setAndSpread 80 = .ok (.iload 6, 2) := by decide +kernel
theorem dX5_setAndSpread_82 : decode cX5_setAndSpread 82 = .ok (.iaload, 1) := by decide +kernel
theorem dX5_setAndSpread_83 : decode cX5_setAndSpread 83 = .ok (.invokestatic 112, 3) := by decide +kernel
theorem dX5_setAndSpread_86 : decode cX5_setAndSpread 86 = .ok (.aload_n 0, 1) := by decide +kernel
theorem dX5_setAndSpread_87 : decode cX5_setAndSpread 87 = .ok (.getfield 26, 3) := by decide +kernel
theorem dX5_setAndSpread_90 : decode cX5_setAndSpread 90 = .ok (.aload_n 0, 1) := by decide +kernel
theorem dX5_setAndSpread_91 : decode cX5_setAndSpread 91 = .ok (.getfield 9, 3) := by decide +kernel
theorem dX5_setAndSpread_94 : decode cX5_setAndSpread 94 = .ok (.getfield 116, 3) := by decide +kernel
theorem dX5_setAndSpread_97 : decode cX5_setAndSpread 97 = .ok (.iload 6, 2) := by decide +kernel
theorem dX5_setAndSpread_99 : decode cX5_setAndSpread 99 = .ok (.iaload, 1) := by decide +kernel
theorem dX5_setAndSpread_100 : decode cX5_setAndSpread 100 = .ok (.invokestatic 112, 3) := by decide +kernel
theorem dX5_setAndSpread_103 : decode cX5_setAndSpread 103 = .ok (.iand, 1) := by decide +kernel
theorem dX5_setAndSpread_104 : decode cX5_setAndSpread 104 = .ok (.invokevirtual 71, 3) := by decide +kernel
theorem dX5_setAndSpread_107 : decode cX5_setAndSpread 107 = .ok (.iinc 5 1, 3) := by decide +kernel
theorem dX5_setAndSpread_110 : decode cX5_setAndSpread 110 = .ok (.goto (-101), 3) := by decide +kernel
theorem dX5_setAndSpread_113 : decode cX5_setAndSpread 113 = .ok (.return_, 1) := by decide +kernel
theorem dX6_init_0 : decode cX6_init 0 = .ok (.aload_n 0, 1) := by decide +kernel
theorem dX6_init_1 : decode cX6_init 1 = .ok (.invokespecial 3, 3) := by decide +kernel
theorem dX6_init_4 : decode cX6_init 4 = .ok (.aload_n 0, 1) := by decide +kernel
theorem dX6_init_5 : decode cX6_init 5 = .ok (.aload_n 1, 1) := by decide +kernel
theorem dX6_init_6 : decode cX6_init 6 = .ok (.putfield 9, 3) := by decide +kernel
theorem dX6_init_9 : decode cX6_init 9 = .ok (.aload_n 0, 1) := by decide +kernel
theorem dX6_init_10 : decode cX6_init 10 = .ok (.iconst 2, 1) := by decide +kernel
theorem dX6_init_11 : decode cX6_init 11 = .ok (.newarray .int, 2) := by decide +kernel
theorem dX6_init_13 : decode cX6_init 13 = .ok (.putfield 15, 3) := by decide +kernel
theorem dX6_init_16 : decode cX6_init 16 = .ok (.return_, 1) := by decide +kernel
theorem dX6_take_0 : decode cX6_take 0 = .ok (.aload_n 0, 1) := by decide +kernel
theorem dX6_take_1 : decode cX6_take 1 = .ok (.getfield 15, 3) := by decide +kernel
theorem dX6_take_4 : decode cX6_take 4 = .ok (.iconst 0, 1) := by decide +kernel
theorem dX6_take_5 : decode cX6_take 5 = .ok (.iconst (-1), 1) := by decide +kernel
theorem dX6_take_6 : decode cX6_take 6 = .ok (.iastore, 1) := by decide +kernel
theorem dX6_take_7 : decode cX6_take 7 = .ok (.aload_n 0, 1) := by decide +kernel
theorem dX6_take_8 : decode cX6_take 8 = .ok (.getfield 15, 3) := by decide +kernel
theorem dX6_take_11 : decode cX6_take 11 = .ok (.iconst 1, 1) := by decide +kernel
theorem dX6_take_12 : decode cX6_take 12 = .ok (.iconst (-1), 1) := by decide +kernel
theorem dX6_take_13 : decode cX6_take 13 = .ok (.iastore, 1) := by decide +kernel
theorem dX6_take_14 : decode cX6_take 14 = .ok (.aload_n 0, 1) := by decide +kernel
theorem dX6_take_15 : decode cX6_take 15 = .ok (.iload_n 2, 1) := by decide +kernel
theorem dX6_take_16 : decode cX6_take 16 = .ok (.ifCond .ne 7, 3) := by decide +kernel
theorem dX6_take_19 : decode cX6_take 19 = .ok (.iconst 0, 1) := by decide +kernel
theorem dX6_take_20 : decode cX6_take 20 = .ok (.goto 4, 3) := by decide +kernel
theorem dX6_take_23 : decode cX6_take 23 = .ok (.iconst (-1), 1) := by decide +kernel
theorem dX6_take_24 : decode cX6_take 24 = .ok (.putfield 19, 3) := by decide +kernel
theorem dX6_take_27 : decode cX6_take 27 = .ok (.iload_n 2, 1) := by decide +kernel
theorem dX6_take_28 : decode cX6_take 28 = .ok (.iconst 1, 1) := by decide +kernel
theorem dX6_take_29 : decode cX6_take 29 = .ok (.if_icmp .ne 16, 3) := by decide +kernel
theorem dX6_take_32 : decode cX6_take 32 = .ok (.aload_n 0, 1) := by decide +kernel
theorem dX6_take_33 : decode cX6_take 33 = .ok (.aload_n 1, 1) := by decide +kernel
theorem dX6_take_34 : decode cX6_take 34 = .ok (.iconst 0, 1) := by decide +kernel
theorem dX6_take_35 : decode cX6_take 35 = .ok (.aaload, 1) := by decide +kernel
theorem dX6_take_36 : decode cX6_take 36 = .ok (.getfield 23, 3) := by decide +kernel
theorem dX6_take_39 : decode cX6_take 39 = .ok (.invokevirtual 28, 3) := by decide +kernel
theorem dX6_take_42 : decode cX6_take 42 = .ok (.goto 24, 3) := by decide +kernel
theorem dX6_take_45 : decode cX6_take 45 = .ok (.iload_n 2, 1) := by decide +kernel
theorem dX6_take_46 : decode cX6_take 46 = .ok (.iconst 2, 1) := by decide +kernel
theorem dX6_take_47 : decode cX6_take 47 = .ok (.if_icmp .ne 19, 3) := by decide +kernel
theorem dX6_take_50 : decode cX6_take 50 = .ok (.aload_n 0, 1) := by decide +kernel
theorem dX6_take_51 : decode cX6_take 51 = .ok (.aload_n 1, 1) := by decide +kernel
theorem dX6_take_52 : decode cX6_take 52 = .ok (.iconst 0, 1) := by decide +kernel
theorem dX6_take_53 : decode cX6_take 53 = .ok (.aaload, 1) := by decide +kernel
theorem dX6_take_54 : decode cX6_take 54 = .ok (.getfield 23, 3) := by decide +kernel
theorem dX6_take_57 : decode cX6_take 57 = .ok (.aload_n 1, 1) := by decide +kernel
theorem dX6_take_58 : decode cX6_take 58 = .ok (.iconst 1, 1) := by decide +kernel
theorem dX6_take_59 : decode cX6_take 59 = .ok (.aaload, 1) := by decide +kernel
theorem dX6_take_60 : decode cX6_take 60 = .ok (.getfield 23, 3) := by decide +kernel
theorem dX6_take_63 : decode cX6_take 63 = .ok (.invokevirtual 32, 3) := by decide +kernel
theorem dX6_take_66 : decode cX6_take 66 = .ok (.return_, 1) := by decide +kernel
theorem dX6_takeForOne_0 : decode cX6_takeForOne 0 = .ok (.iconst 0, 1) := by decide +kernel
theorem dX6_takeForOne_1 : decode cX6_takeForOne 1 = .ok (.istore_n 2, 1) := by decide +kernel
theorem dX6_takeForOne_2 : decode cX6_takeForOne 2 = .ok (.iload_n 2, 1) := by decide +kernel
theorem dX6_takeForOne_3 : decode cX6_takeForOne 3 = .ok (.aload_n 0, 1) := by decide +kernel
theorem dX6_takeForOne_4 : decode cX6_takeForOne 4 = .ok (.getfield 9, 3) := by decide +kernel
theorem dX6_takeForOne_7 : decode cX6_takeForOne 7 = .ok (.getfield 36, 3) := by decide +kernel
theorem dX6_takeForOne_10 : decode cX6_takeForOne 10 = .ok (.if_icmp .ge 24, 3) := by decide +kernel
theorem dX6_takeForOne_13 : decode cX6_takeForOne 13 = .ok (.aload_n 0, 1) := by decide +kernel
theorem dX6_takeForOne_14 : decode cX6_takeForOne 14 = .ok (.aload_n 0, 1) := by decide +kernel
theorem dX6_takeForOne_15 : decode cX6_takeForOne 15 = .ok (.getfield 9, 3) := by decide +kernel
theorem dX6_takeForOne_18 : decode cX6_takeForOne 18 = .ok (.iload_n 1, 1) := by decide +kernel
theorem dX6_takeForOne_19 : decode cX6_takeForOne 19 = .ok (.iload_n 2, 1) := by decide +kernel
theorem dX6_takeForOne_20 : decode cX6_takeForOne 20 = .ok (.invokevirtual 41, 3) := by decide +kernel
theorem dX6_takeForOne_23 : decode cX6_takeForOne 23 = .ok (.iload_n 2, 1) := by decide +kernel
theorem dX6_takeForOne_24 : decode cX6_takeForOne 24 = .ok (.iconst (-1), 1) := by decide +kernel
theorem dX6_takeForOne_25 : decode cX6_takeForOne 25 = .ok (.invokevirtual 45, 3) := by decide +kernel
theorem dX6_takeForOne_28 : decode cX6_takeForOne 28 = .ok (.iinc 2 1, 3) := by decide +kernel
theorem dX6_takeForOne_31 : decode cX6_takeForOne 31 = .ok (.goto (-29), 3) := by decide +kernel
theorem dX6_takeForOne_34 : decode cX6_takeForOne 34 = .ok (.return_, 1) := by decide +kernel
theorem dX6_takeForTwo_0 : decode cX6_takeForTwo 0 = .ok (.iconst 0, 1) := by decide +kernel
theorem dX6_takeForTwo_1 : decode cX6_takeForTwo 1 = .ok (.istore_n 3, 1) := by decide +kernel
theorem dX6_takeForTwo_2 : decode cX6_takeForTwo 2 = .ok (.iload_n 3, 1) := by decide +kernel
theorem dX6_takeForTwo_3 : decode cX6_takeForTwo 3 = .ok (.aload_n 0, 1) := by decide +kernel
theorem dX6_takeForTwo_4 : decode cX6_takeForTwo 4 = .ok (.getfield 9, 3) := by decide +kernel
theorem dX6_takeForTwo_7 : decode cX6_takeForTwo 7 = .ok (.getfield 36, 3) := by decide +kernel
theorem dX6_takeForTwo_10 : decode cX6_takeForTwo 10 = .ok (.if_icmp .ge 63, 3) := by decide +kernel
theorem dX6_takeForTwo_13 : decode cX6_takeForTwo 13 = .ok (.iconst 0, 1) := by decide +kernel
theorem dX6_takeForTwo_14 : decode cX6_takeForTwo 14 = .ok (.istore 4, 2) := by decide +kernel
theorem dX6_takeForTwo_16 : decode cX6_takeForTwo 16 = .ok (.iload 4, 2) := by decide +kernel
theorem dX6_takeForTwo_18 : decode cX6_takeForTwo 18 = .ok (.aload_n 0, 1) := by decide +kernel
theorem dX6_takeForTwo_19 : decode cX6_takeForTwo 19 = .ok (.getfield 9, 3) := by decide +kernel
theorem dX6_takeForTwo_22 : decode cX6_takeForTwo 22 = .ok (.getfield 36, 3) := by decide +kernel
theorem dX6_takeForTwo_25 : decode cX6_takeForTwo 25 = .ok (.if_icmp .ge 42, 3) := by decide +kernel
theorem dX6_takeForTwo_28 : decode cX6_takeForTwo 28 = .ok (.iload_n 3, 1) := by decide +kernel
theorem dX6_takeForTwo_29 : decode cX6_takeForTwo 29 = .ok (.iload 4, 2) := by decide +kernel
theorem dX6_takeForTwo_31 : decode cX6_takeForTwo 31 = .ok (.if_icmp .eq 30, 3) := by decide +kernel
theorem dX6_takeForTwo_34 : decode cX6_takeForTwo 34 = .ok (.aload_n 0, 1) := by decide +kernel
theorem dX6_takeForTwo_35 : decode cX6_takeForTwo 35 = .ok (.aload_n 0, 1) := by decide +kernel
theorem dX6_takeForTwo_36 : decode cX6_takeForTwo 36 = .ok (.getfield 9, 3) := by decide +kernel
theorem dX6_takeForTwo_39 : decode cX6_takeForTwo 39 = .ok (.iload_n 1, 1) := by decide +kernel
theorem dX6_takeForTwo_40 : decode cX6_takeForTwo 40 = .ok (.iload_n 3, 1) := by decide +kernel
theorem dX6_takeForTwo_41 : decode cX6_takeForTwo 41 = .ok (.invokevirtual 41, 3) := by decide +kernel
theorem dX6_takeForTwo_44 : decode cX6_takeForTwo 44 = .ok (.aload_n 0, 1) := by decide +kernel
theorem dX6_takeForTwo_45 : decode cX6_takeForTwo 45 = .ok (.getfield 9, 3) := by decide +kernel
theorem dX6_takeForTwo_48 : decode cX6_takeForTwo 48 = .ok (.iload_n 2, 1) := by decide +kernel
theorem dX6_takeForTwo_49 : decode cX6_takeForTwo 49 = .ok (.iload 4, 2) := by decide +kernel
theorem dX6_takeForTwo_51 : decode cX6_takeForTwo 51 = .ok (.invokevirtual 41, 3) := by decide +kernel
theorem dX6_takeForTwo_54 : decode cX6_takeForTwo 54 = .ok (.iadd, 1) := by decide +kernel
theorem dX6_takeForTwo_55 : decode cX6_takeForTwo 55 = .ok (.iload_n 3, 1) := by decide +kernel
theorem dX6_takeForTwo_56 : decode cX6_takeForTwo 56 = .ok (.iload 4, 2) := by decide +kernel
theorem dX6_takeForTwo_58 : decode cX6_takeForTwo 58 = .ok (.invokevirtual 45, 3) := by decide +kernel
theorem dX6_takeForTwo_61 : decode cX6_takeForTwo 61 = .ok (.iinc 4 1, 3) := by decide +kernel
theorem dX6_takeForTwo_64 : decode cX6_takeForTwo 64 = .ok (.goto (-48), 3) := by decide +kernel
theorem dX6_takeForTwo_67 : decode cX6_takeForTwo 67 = .ok (.iinc 3 1, 3) := by decide +kernel
theorem dX6_takeForTwo_70 : decode cX6_takeForTwo 70 = .ok (.goto (-68), 3) := by decide +kernel
theorem dX6_takeForTwo_73 : decode cX6_takeForTwo 73 = .ok (.return_, 1) := by decide +kernel
theorem dX6_offer_0 : decode cX6_offer 0 = .ok (.aload_n 0, 1) := by decide +kernel
theorem dX6_offer_1 : decode cX6_offer 1 = .ok (.getfield 19, 3) := by decide +kernel
theorem dX6_offer_4 : decode cX6_offer 4 = .ok (.iconst (-1), 1) := by decide +kernel
theorem dX6_offer_5 : decode cX6_offer 5 = .ok (.if_icmp .eq 11, 3) := by decide +kernel
theorem dX6_offer_8 : decode cX6_offer 8 = .ok (.iload_n 1, 1) := by decide +kernel
theorem dX6_offer_9 : decode cX6_offer 9 = .ok (.aload_n 0, 1) := by decide +kernel
theorem dX6_offer_10 : decode cX6_offer 10 = .ok (.getfield 19, 3) := by decide +kernel
theorem dX6_offer_13 : decode cX6_offer 13 = .ok (.if_icmp .ge 22, 3) := by decide +kernel
theorem dX6_offer_16 : decode cX6_offer 16 = .ok (.aload_n 0, 1) := by decide +kernel
theorem dX6_offer_17 : decode cX6_offer 17 = .ok (.iload_n 1, 1) := by decide +kernel
theorem dX6_offer_18 : decode cX6_offer 18 = .ok (.putfield 19, 3) := by decide +kernel
theorem dX6_offer_21 : decode cX6_offer 21 = .ok (.aload_n 0, 1) := by decide +kernel
theorem dX6_offer_22 : decode cX6_offer 22 = .ok (.getfield 15, 3) := by decide +kernel
theorem dX6_offer_25 : decode cX6_offer 25 = .ok (.iconst 0, 1) := by decide +kernel
theorem dX6_offer_26 : decode cX6_offer 26 = .ok (.iload_n 2, 1) := by decide +kernel
theorem dX6_offer_27 : decode cX6_offer 27 = .ok (.iastore, 1) := by decide +kernel
theorem dX6_offer_28 : decode cX6_offer 28 = .ok (.aload_n 0, 1) := by decide +kernel
theorem dX6_offer_29 : decode cX6_offer 29 = .ok (.getfield 15, 3) := by decide +kernel
theorem dX6_offer_32 : decode cX6_offer 32 = .ok (.iconst 1, 1) := by decide +kernel
theorem dX6_offer_33 : decode cX6_offer 33 = .ok (.iload_n 3, 1) := by decide +kernel
theorem dX6_offer_34 : decode cX6_offer 34 = .ok (.iastore, 1) := by decide +kernel
theorem dX6_offer_35 : decode cX6_offer 35 = .ok (.return_, 1) := by decide +kernel
theorem dX7_init_0 : decode cX7_init 0 = .ok (.aload_n 0, 1) := by decide +kernel
theorem dX7_init_1 : decode cX7_init 1 = .ok (.invokespecial 3, 3) := by decide +kernel
theorem dX7_init_4 : decode cX7_init 4 = .ok (.aload_n 0, 1) := by decide +kernel
theorem dX7_init_5 : decode cX7_init 5 = .ok (.new 9, 3) := by decide +kernel
theorem dX7_init_8 : decode cX7_init 8 = .ok (.dup, 1) := by decide +kernel
theorem dX7_init_9 : decode cX7_init 9 = .ok (.invokespecial 11, 3) := by decide +kernel
theorem dX7_init_12 : decode cX7_init 12 = .ok (.putfield 12, 3) := by decide +kernel
theorem dX7_init_15 : decode cX7_init 15 = .ok (.aload_n 0, 1) := by decide +kernel
theorem dX7_init_16 : decode cX7_init 16 = .ok (.new 16, 3) := by decide +kernel
theorem dX7_init_19 : decode cX7_init 19 = .ok (.dup, 1) := by decide +kernel
theorem dX7_init_20 : decode cX7_init 20 = .ok (.invokespecial 18, 3) := by decide +kernel
theorem dX7_init_23 : decode cX7_init 23 = .ok (.putfield 19, 3) := by decide +kernel
theorem dX7_init_26 : decode cX7_init 26 = .ok (.aload_n 0, 1) := by decide +kernel
theorem dX7_init_27 : decode cX7_init 27 = .ok (.new 23, 3) := by decide +kernel
theorem dX7_init_30 : decode cX7_init 30 = .ok (.dup, 1) := by decide +kernel
theorem dX7_init_31 : decode cX7_init 31 = .ok (.invokespecial 25, 3) := by decide +kernel
theorem dX7_init_34 : decode cX7_init 34 = .ok (.putfield 26, 3) := by decide +kernel
theorem dX7_init_37 : decode cX7_init 37 = .ok (.aload_n 0, 1) := by decide +kernel
theorem dX7_init_38 : decode cX7_init 38 = .ok (.new 30, 3) := by decide +kernel
theorem dX7_init_41 : decode cX7_init 41 = .ok (.dup, 1) := by decide +kernel
theorem dX7_init_42 : decode cX7_init 42 = .ok (.aload_n 0, 1) := by decide +kernel
theorem dX7_init_43 : decode cX7_init 43 = .ok (.getfield 12, 3) := by decide +kernel
theorem dX7_init_46 : decode cX7_init 46 = .ok (.aload_n 0, 1) := by decide +kernel
theorem dX7_init_47 : decode cX7_init 47 = .ok (.getfield 19, 3) := by decide +kernel
theorem dX7_init_50 : decode cX7_init 50 = .ok (.invokespecial 32, 3) := by decide +kernel
theorem dX7_init_53 : decode cX7_init 53 = .ok (.putfield 35, 3) := by decide +kernel
theorem dX7_init_56 : decode cX7_init 56 = .ok (.aload_n 0, 1) := by decide +kernel
theorem dX7_init_57 : decode cX7_init 57 = .ok (.new 39, 3) := by decide +kernel
theorem dX7_init_60 : decode cX7_init 60 = .ok (.dup, 1) := by decide +kernel
theorem dX7_init_61 : decode cX7_init 61 = .ok (.aload_n 0, 1) := by decide +kernel
theorem dX7_init_62 : decode cX7_init 62 = .ok (.getfield 26, 3) := by decide +kernel
theorem dX7_init_65 : decode cX7_init 65 = .ok (.invokespecial 41, 3) := by decide +kernel
theorem dX7_init_68 : decode cX7_init 68 = .ok (.putfield 44, 3) := by decide +kernel
theorem dX7_init_71 : decode cX7_init 71 = .ok (.aload_n 0, 1) := by decide +kernel
theorem dX7_init_72 : decode cX7_init 72 = .ok (.new 48, 3) := by decide +kernel
theorem dX7_init_75 : decode cX7_init 75 = .ok (.dup, 1) := by decide +kernel
theorem dX7_init_76 : decode cX7_init 76 = .ok (.invokespecial 50, 3) := by decide +kernel
theorem dX7_init_79 : decode cX7_init 79 = .ok (.putfield 51, 3) := by decide +kernel
theorem dX7_init_82 : decode cX7_init 82 = .ok (.aload_n 0, 1) := by decide +kernel
theorem dX7_init_83 : decode cX7_init 83 = .ok (.iconst (-1), 1) := by decide +kernel
theorem dX7_init_84 : decode cX7_init 84 = .ok (.putfield 55, 3) := by decide +kernel
theorem dX7_init_87 : decode cX7_init 87 = .ok (.return_, 1) := by decide +kernel
theorem dX7_input_0 : decode cX7_input 0 = .ok (.aload_n 0, 1) := by decide +kernel
theorem dX7_input_1 : decode cX7_input 1 = .ok (.getfield 12, 3) := by decide +kernel
theorem dX7_input_4 : decode cX7_input 4 = .ok (.getfield 59, 3) := by decide +kernel
theorem dX7_input_7 : decode cX7_input 7 = .ok (.iconst 5, 1) := by decide +kernel
theorem dX7_input_8 : decode cX7_input 8 = .ok (.if_icmp .ge 21, 3) := by decide +kernel
theorem dX7_input_11 : decode cX7_input 11 = .ok (.aload_n 0, 1) := by decide +kernel
theorem dX7_input_12 : decode cX7_input 12 = .ok (.getfield 12, 3) := by decide +kernel
theorem dX7_input_15 : decode cX7_input 15 = .ok (.getfield 62, 3) := by decide +kernel
theorem dX7_input_18 : decode cX7_input 18 = .ok (.aload_n 0, 1) := by decide +kernel
theorem dX7_input_19 : decode cX7_input 19 = .ok (.getfield 12, 3) := by decide +kernel
theorem dX7_input_22 : decode cX7_input 22 = .ok (.getfield 65, 3) := by decide +kernel
theorem dX7_input_25 : decode cX7_input 25 = .ok (.iadd, 1) := by decide +kernel
theorem dX7_input_26 : decode cX7_input 26 = .ok (.ifCond .le 13, 3) := by decide +kernel
theorem dX7_input_29 : decode cX7_input 29 = .ok (.new 68, 3) := by decide +kernel
theorem dX7_input_32 : decode cX7_input 32 = .ok (.dup, 1) := by decide +kernel
theorem dX7_input_33 : decode cX7_input 33 = .ok (.ldc 70, 2) := by decide +kernel
theorem dX7_input_35 : decode cX7_input 35 = .ok (.invokespecial 72, 3) := by decide +kernel
theorem dX7_input_38 : decode cX7_input 38 = .ok (.athrow, 1) := by decide +kernel
theorem dX7_input_39 : decode cX7_input 39 = .ok (.aload_n 0, 1) := by decide +kernel
theorem dX7_input_40 : decode cX7_input 40 = .ok (.iconst (-1), 1) := by decide +kernel
theorem dX7_input_41 : decode cX7_input 41 = .ok (.putfield 55, 3) := by decide +kernel
theorem dX7_input_44 : decode cX7_input 44 = .ok (.aload_n 0, 1) := by decide +kernel
theorem dX7_input_45 : decode cX7_input 45 = .ok (.getfield 12, 3) := by decide +kernel
theorem dX7_input_48 : decode cX7_input 48 = .ok (.invokevirtual 75, 3) := by decide +kernel
theorem dX7_input_51 : decode cX7_input 51 = .ok (.ireturn, 1) := by decide +kernel
theorem dX7_old_0 : decode cX7_old 0 = .ok (.aload_n 0, 1) := by decide +kernel
theorem dX7_old_1 : decode cX7_old 1 = .ok (.getfield 12, 3) := by decide +kernel
theorem dX7_old_4 : decode cX7_old 4 = .ok (.iload_n 1, 1) := by decide +kernel
theorem dX7_old_5 : decode cX7_old 5 = .ok (.invokevirtual 79, 3) := by decide +kernel
theorem dX7_old_8 : decode cX7_old 8 = .ok (.ifCond .eq 14, 3) := by decide +kernel
theorem dX7_old_11 : decode cX7_old 11 = .ok (.aload_n 0, 1) := by decide +kernel
theorem dX7_old_12 : decode cX7_old 12 = .ok (.getfield 12, 3) := by decide +kernel
theorem dX7_old_15 : decode cX7_old 15 = .ok (.iload_n 2, 1) := by decide +kernel
theorem dX7_old_16 : decode cX7_old 16 = .ok (.invokevirtual 79, 3) := by decide +kernel
theorem dX7_old_19 : decode cX7_old 19 = .ok (.ifCond .ne 13, 3) := by decide +kernel
theorem dX7_old_22 : decode cX7_old 22 = .ok (.new 83, 3) := by decide +kernel
theorem dX7_old_25 : decode cX7_old 25 = .ok (.dup, 1) := by decide +kernel
theorem dX7_old_26 : decode cX7_old 26 = .ok (.ldc 85, 2) := by decide +kernel
theorem dX7_old_28 : decode cX7_old 28 = .ok (.invokespecial 87, 3) := by decide +kernel
theorem dX7_old_31 : decode cX7_old 31 = .ok (.athrow, 1) := by decide +kernel
theorem dX7_old_32 : decode cX7_old 32 = .ok (.aload_n 0, 1) := by decide +kernel
theorem dX7_old_33 : decode cX7_old 33 = .ok (.getfield 12, 3) := by decide +kernel
theorem dX7_old_36 : decode cX7_old 36 = .ok (.getfield 62, 3) := by decide +kernel
theorem dX7_old_39 : decode cX7_old 39 = .ok (.bipush 8, 2) := by decide +kernel
theorem dX7_old_41 : decode cX7_old 41 = .ok (.if_icmp .lt 13, 3) := by decide +kernel
theorem dX7_old_44 : decode cX7_old 44 = .ok (.new 68, 3) := by decide +kernel
theorem dX7_old_47 : decode cX7_old 47 = .ok (.dup, 1) := by decide +kernel
theorem dX7_old_48 : decode cX7_old 48 = .ok (.ldc 88, 2) := by decide +kernel
theorem dX7_old_50 : decode cX7_old 50 = .ok (.invokespecial 72, 3) := by decide +kernel
theorem dX7_old_53 : decode cX7_old 53 = .ok (.athrow, 1) := by decide +kernel
theorem dX7_old_54 : decode cX7_old 54 = .ok (.aload_n 0, 1) := by decide +kernel
theorem dX7_old_55 : decode cX7_old 55 = .ok (.getfield 12, 3) := by decide +kernel
theorem dX7_old_58 : decode cX7_old 58 = .ok (.iconst 2, 1) := by decide +kernel
theorem dX7_old_59 : decode cX7_old 59 = .ok (.iload_n 1, 1) := by decide +kernel
theorem dX7_old_60 : decode cX7_old 60 = .ok (.invokevirtual 90, 3) := by decide +kernel
theorem dX7_old_63 : decode cX7_old 63 = .ok (.ifCond .ne 15, 3) := by decide +kernel
theorem dX7_old_66 : decode cX7_old 66 = .ok (.aload_n 0, 1) := by decide +kernel
theorem dX7_old_67 : decode cX7_old 67 = .ok (.getfield 12, 3) := by decide +kernel
theorem dX7_old_70 : decode cX7_old 70 = .ok (.iconst 2, 1) := by decide +kernel
theorem dX7_old_71 : decode cX7_old 71 = .ok (.iload_n 2, 1) := by decide +kernel
theorem dX7_old_72 : decode cX7_old 72 = .ok (.invokevirtual 90, 3) := by decide +kernel
theorem dX7_old_75 : decode cX7_old 75 = .ok (.ifCond .eq 13, 3) := by decide +kernel
theorem dX7_old_78 : decode cX7_old 78 = .ok (.new 94, 3) := by decide +kernel
theorem dX7_old_81 : decode cX7_old 81 = .ok (.dup, 1) := by decide +kernel
theorem dX7_old_82 : decode cX7_old 82 = .ok (.ldc 96, 2) := by decide +kernel
theorem dX7_old_84 : decode cX7_old 84 = .ok (.invokespecial 98, 3) := by decide +kernel
theorem dX7_old_87 : decode cX7_old 87 = .ok (.athrow, 1) := by decide +kernel
theorem dX7_old_88 : decode cX7_old 88 = .ok (.aload_n 0, 1) := by decide +kernel
theorem dX7_old_89 : decode cX7_old 89 = .ok (.iconst (-1), 1) := by decide +kernel
theorem dX7_old_90 : decode cX7_old 90 = .ok (.putfield 55, 3) := by decide +kernel
theorem dX7_old_93 : decode cX7_old 93 = .ok (.aload_n 0, 1) := by decide +kernel
theorem dX7_old_94 : decode cX7_old 94 = .ok (.getfield 26, 3) := by decide +kernel
theorem dX7_old_97 : decode cX7_old 97 = .ok (.aload_n 0, 1) := by decide +kernel
theorem dX7_old_98 : decode cX7_old 98 = .ok (.getfield 12, 3) := by decide +kernel
theorem dX7_old_101 : decode cX7_old 101 = .ok (.getfield 99, 3) := by decide +kernel
theorem dX7_old_104 : decode cX7_old 104 = .ok (.invokevirtual 102, 3) := by decide +kernel
theorem dX7_old_107 : decode cX7_old 107 = .ok (.aload_n 0, 1) := by decide +kernel
theorem dX7_old_108 : decode cX7_old 108 = .ok (.getfield 12, 3) := by decide +kernel
theorem dX7_old_111 : decode cX7_old 111 = .ok (.iload_n 1, 1) := by decide +kernel
theorem dX7_old_112 : decode cX7_old 112 = .ok (.iload_n 2, 1) := by decide +kernel
theorem dX7_old_113 : decode cX7_old 113 = .ok (.invokevirtual 106, 3) := by decide +kernel
theorem dX7_old_116 : decode cX7_old 116 = .ok (.ireturn, 1) := by decide +kernel
theorem dX7_asked_0 : decode cX7_asked 0 = .ok (.aload_n 0, 1) := by decide +kernel
theorem dX7_asked_1 : decode cX7_asked 1 = .ok (.getfield 12, 3) := by decide +kernel
theorem dX7_asked_4 : decode cX7_asked 4 = .ok (.iload_n 1, 1) := by decide +kernel
theorem dX7_asked_5 : decode cX7_asked 5 = .ok (.invokevirtual 79, 3) := by decide +kernel
theorem dX7_asked_8 : decode cX7_asked 8 = .ok (.ifCond .eq 14, 3) := by decide +kernel
theorem dX7_asked_11 : decode cX7_asked 11 = .ok (.aload_n 0, 1) := by decide +kernel
theorem dX7_asked_12 : decode cX7_asked 12 = .ok (.getfield 12, 3) := by decide +kernel
theorem dX7_asked_15 : decode cX7_asked 15 = .ok (.iload_n 2, 1) := by decide +kernel
theorem dX7_asked_16 : decode cX7_asked 16 = .ok (.invokevirtual 79, 3) := by decide +kernel
theorem dX7_asked_19 : decode cX7_asked 19 = .ok (.ifCond .ne 13, 3) := by decide +kernel
theorem dX7_asked_22 : decode cX7_asked 22 = .ok (.new 83, 3) := by decide +kernel
theorem dX7_asked_25 : decode cX7_asked 25 = .ok (.dup, 1) := by decide +kernel
theorem dX7_asked_26 : decode cX7_asked 26 = .ok (.ldc 85, 2) := by decide +kernel
theorem dX7_asked_28 : decode cX7_asked 28 = .ok (.invokespecial 87, 3) := by decide +kernel
theorem dX7_asked_31 : decode cX7_asked 31 = .ok (.athrow, 1) := by decide +kernel
theorem dX7_asked_32 : decode cX7_asked 32 = .ok (.aload_n 0, 1) := by decide +kernel
theorem dX7_asked_33 : decode cX7_asked 33 = .ok (.getfield 12, 3) := by decide +kernel
theorem dX7_asked_36 : decode cX7_asked 36 = .ok (.getfield 65, 3) := by decide +kernel
theorem dX7_asked_39 : decode cX7_asked 39 = .ok (.bipush 24, 2) := by decide +kernel
theorem dX7_asked_41 : decode cX7_asked 41 = .ok (.if_icmp .lt 13, 3) := by decide +kernel
theorem dX7_asked_44 : decode cX7_asked 44 = .ok (.new 68, 3) := by decide +kernel
theorem dX7_asked_47 : decode cX7_asked 47 = .ok (.dup, 1) := by decide +kernel
theorem dX7_asked_48 : decode cX7_asked 48 = .ok (.ldc 110, 2) := by decide +kernel
theorem dX7_asked_50 : decode cX7_asked 50 = .ok (.invokespecial 72, 3) := by decide +kernel
theorem dX7_asked_53 : decode cX7_asked 53 = .ok (.athrow, 1) := by decide +kernel
theorem dX7_asked_54 : decode cX7_asked 54 = .ok (.aload_n 0, 1) := by decide +kernel
theorem dX7_asked_55 : decode cX7_asked 55 = .ok (.getfield 12, 3) := by decide +kernel
theorem dX7_asked_58 : decode cX7_asked 58 = .ok (.iconst 1, 1) := by decide +kernel
theorem dX7_asked_59 : decode cX7_asked 59 = .ok (.iload_n 1, 1) := by decide +kernel
theorem dX7_asked_60 : decode cX7_asked 60 = .ok (.invokevirtual 90, 3) := by decide +kernel
theorem dX7_asked_63 : decode cX7_asked 63 = .ok (.ifCond .ne 15, 3) := by decide +kernel
theorem dX7_asked_66 : decode cX7_asked 66 = .ok (.aload_n 0, 1) := by decide +kernel
theorem dX7_asked_67 : decode cX7_asked 67 = .ok (.getfield 12, 3) := by decide +kernel
theorem dX7_asked_70 : decode cX7_asked 70 = .ok (.iconst 1, 1) := by decide +kernel
theorem dX7_asked_71 : decode cX7_asked 71 = .ok (.iload_n 2, 1) := by decide +kernel
theorem dX7_asked_72 : decode cX7_asked 72 = .ok (.invokevirtual 90, 3) := by decide +kernel
theorem dX7_asked_75 : decode cX7_asked 75 = .ok (.ifCond .eq 13, 3) := by decide +kernel
theorem dX7_asked_78 : decode cX7_asked 78 = .ok (.new 94, 3) := by decide +kernel
theorem dX7_asked_81 : decode cX7_asked 81 = .ok (.dup, 1) := by decide +kernel
theorem dX7_asked_82 : decode cX7_asked 82 = .ok (.ldc 112, 2) := by decide +kernel
theorem dX7_asked_84 : decode cX7_asked 84 = .ok (.invokespecial 98, 3) := by decide +kernel
theorem dX7_asked_87 : decode cX7_asked 87 = .ok (.athrow, 1) := by decide +kernel
theorem dX7_asked_88 : decode cX7_asked 88 = .ok (.aload_n 0, 1) := by decide +kernel
theorem dX7_asked_89 : decode cX7_asked 89 = .ok (.iconst (-1), 1) := by decide +kernel
theorem dX7_asked_90 : decode cX7_asked 90 = .ok (.putfield 55, 3) := by decide +kernel
theorem dX7_asked_93 : decode cX7_asked 93 = .ok (.aload_n 0, 1) := by decide +kernel
theorem dX7_asked_94 : decode cX7_asked 94 = .ok (.getfield 12, 3) := by decide +kernel
theorem dX7_asked_97 : decode cX7_asked 97 = .ok (.iload_n 1, 1) := by decide +kernel
theorem dX7_asked_98 : decode cX7_asked 98 = .ok (.iload_n 2, 1) := by decide +kernel
theorem dX7_asked_99 : decode cX7_asked 99 = .ok (.invokevirtual 114, 3) := by decide +kernel
theorem dX7_asked_102 : decode cX7_asked 102 = .ok (.ireturn, 1) := by decide +kernel
theorem dX7_output_0 : decode cX7_output 0 = .ok (.aload_n 0, 1) := by decide +kernel
theorem dX7_output_1 : decode cX7_output 1 = .ok (.getfield 12, 3) := by decide +kernel
theorem dX7_output_4 : decode cX7_output 4 = .ok (.iload_n 1, 1) := by decide +kernel
theorem dX7_output_5 : decode cX7_output 5 = .ok (.invokevirtual 79, 3) := by decide +kernel
theorem dX7_output_8 : decode cX7_output 8 = .ok (.ifCond .eq 14, 3) := by decide +kernel
theorem dX7_output_11 : decode cX7_output 11 = .ok (.aload_n 0, 1) := by decide +kernel
theorem dX7_output_12 : decode cX7_output 12 = .ok (.getfield 12, 3) := by decide +kernel
theorem dX7_output_15 : decode cX7_output 15 = .ok (.iload_n 2, 1) := by decide +kernel
theorem dX7_output_16 : decode cX7_output 16 = .ok (.invokevirtual 79, 3) := by decide +kernel
theorem dX7_output_19 : decode cX7_output 19 = .ok (.ifCond .ne 13, 3) := by decide +kernel
theorem dX7_output_22 : decode cX7_output 22 = .ok (.new 83, 3) := by decide +kernel
theorem dX7_output_25 : decode cX7_output 25 = .ok (.dup, 1) := by decide +kernel
theorem dX7_output_26 : decode cX7_output 26 = .ok (.ldc 85, 2) := by decide +kernel
theorem dX7_output_28 : decode cX7_output 28 = .ok (.invokespecial 87, 3) := by decide +kernel
theorem dX7_output_31 : decode cX7_output 31 = .ok (.athrow, 1) := by decide +kernel
theorem dX7_output_32 : decode cX7_output 32 = .ok (.aload_n 0, 1) := by decide +kernel
theorem dX7_output_33 : decode cX7_output 33 = .ok (.getfield 19, 3) := by decide +kernel
theorem dX7_output_36 : decode cX7_output 36 = .ok (.getfield 117, 3) := by decide +kernel
theorem dX7_output_39 : decode cX7_output 39 = .ok (.iconst 4, 1) := by decide +kernel
theorem dX7_output_40 : decode cX7_output 40 = .ok (.if_icmp .lt 13, 3) := by decide +kernel
theorem dX7_output_43 : decode cX7_output 43 = .ok (.new 68, 3) := by decide +kernel
theorem dX7_output_46 : decode cX7_output 46 = .ok (.dup, 1) := by decide +kernel
theorem dX7_output_47 : decode cX7_output 47 = .ok (.ldc 120, 2) := by decide +kernel
theorem dX7_output_49 : decode cX7_output 49 = .ok (.invokespecial 72, 3) := by decide +kernel
theorem dX7_output_52 : decode cX7_output 52 = .ok (.athrow, 1) := by decide +kernel
theorem dX7_output_53 : decode cX7_output 53 = .ok (.aload_n 0, 1) := by decide +kernel
theorem dX7_output_54 : decode cX7_output 54 = .ok (.getfield 12, 3) := by decide +kernel
theorem dX7_output_57 : decode cX7_output 57 = .ok (.iconst 2, 1) := by decide +kernel
theorem dX7_output_58 : decode cX7_output 58 = .ok (.iload_n 1, 1) := by decide +kernel
theorem dX7_output_59 : decode cX7_output 59 = .ok (.invokevirtual 90, 3) := by decide +kernel
theorem dX7_output_62 : decode cX7_output 62 = .ok (.ifCond .ne 15, 3) := by decide +kernel
theorem dX7_output_65 : decode cX7_output 65 = .ok (.aload_n 0, 1) := by decide +kernel
theorem dX7_output_66 : decode cX7_output 66 = .ok (.getfield 12, 3) := by decide +kernel
theorem dX7_output_69 : decode cX7_output 69 = .ok (.iconst 1, 1) := by decide +kernel
theorem dX7_output_70 : decode cX7_output 70 = .ok (.iload_n 2, 1) := by decide +kernel
theorem dX7_output_71 : decode cX7_output 71 = .ok (.invokevirtual 90, 3) := by decide +kernel
theorem dX7_output_74 : decode cX7_output 74 = .ok (.ifCond .eq 13, 3) := by decide +kernel
theorem dX7_output_77 : decode cX7_output 77 = .ok (.new 94, 3) := by decide +kernel
theorem dX7_output_80 : decode cX7_output 80 = .ok (.dup, 1) := by decide +kernel
theorem dX7_output_81 : decode cX7_output 81 = .ok (.ldc 122, 2) := by decide +kernel
theorem dX7_output_83 : decode cX7_output 83 = .ok (.invokespecial 98, 3) := by decide +kernel
theorem dX7_output_86 : decode cX7_output 86 = .ok (.athrow, 1) := by decide +kernel
theorem dX7_output_87 : decode cX7_output 87 = .ok (.aload_n 0, 1) := by decide +kernel
theorem dX7_output_88 : decode cX7_output 88 = .ok (.iconst (-1), 1) := by decide +kernel
theorem dX7_output_89 : decode cX7_output 89 = .ok (.putfield 55, 3) := by decide +kernel
theorem dX7_output_92 : decode cX7_output 92 = .ok (.aload_n 0, 1) := by decide +kernel
theorem dX7_output_93 : decode cX7_output 93 = .ok (.getfield 19, 3) := by decide +kernel
theorem dX7_output_96 : decode cX7_output 96 = .ok (.iload_n 1, 1) := by decide +kernel
theorem dX7_output_97 : decode cX7_output 97 = .ok (.iload_n 2, 1) := by decide +kernel
theorem dX7_output_98 : decode cX7_output 98 = .ok (.invokevirtual 124, 3) := by decide +kernel
theorem dX7_output_101 : decode cX7_output 101 = .ok (.ireturn, 1) := by decide +kernel
theorem dX7_value_0 : decode cX7_value 0 = .ok (.aload_n 0, 1) := by decide +kernel
theorem dX7_value_1 : decode cX7_value 1 = .ok (.getfield 12, 3) := by decide +kernel
theorem dX7_value_4 : decode cX7_value 4 = .ok (.iload_n 1, 1) := by decide +kernel
theorem dX7_value_5 : decode cX7_value 5 = .ok (.invokevirtual 79, 3) := by decide +kernel
theorem dX7_value_8 : decode cX7_value 8 = .ok (.ifCond .ne 13, 3) := by decide +kernel
theorem dX7_value_11 : decode cX7_value 11 = .ok (.new 83, 3) := by decide +kernel
theorem dX7_value_14 : decode cX7_value 14 = .ok (.dup, 1) := by decide +kernel
theorem dX7_value_15 : decode cX7_value 15 = .ok (.ldc 85, 2) := by decide +kernel
theorem dX7_value_17 : decode cX7_value 17 = .ok (.invokespecial 87, 3) := by decide +kernel
theorem dX7_value_20 : decode cX7_value 20 = .ok (.athrow, 1) := by decide +kernel
theorem dX7_value_21 : decode cX7_value 21 = .ok (.iload_n 2, 1) := by decide +kernel
theorem dX7_value_22 : decode cX7_value 22 = .ok (.bipush 31, 2) := by decide +kernel
theorem dX7_value_24 : decode cX7_value 24 = .ok (.iand, 1) := by decide +kernel
theorem dX7_value_25 : decode cX7_value 25 = .ok (.istore_n 3, 1) := by decide +kernel
theorem dX7_value_26 : decode cX7_value 26 = .ok (.aload_n 0, 1) := by decide +kernel
theorem dX7_value_27 : decode cX7_value 27 = .ok (.getfield 12, 3) := by decide +kernel
theorem dX7_value_30 : decode cX7_value 30 = .ok (.getfield 127, 3) := by decide +kernel
theorem dX7_value_33 : decode cX7_value 33 = .ok (.iload_n 1, 1) := by decide +kernel
theorem dX7_value_34 : decode cX7_value 34 = .ok (.invokestatic 131, 3) := by decide +kernel
theorem dX7_value_37 : decode cX7_value 37 = .ok (.iload_n 3, 1) := by decide +kernel
theorem dX7_value_38 : decode cX7_value 38 = .ok (.iushr, 1) := by decide +kernel
theorem dX7_value_39 : decode cX7_value 39 = .ok (.iconst 1, 1) := by decide +kernel
theorem dX7_value_40 : decode cX7_value 40 = .ok (.iand, 1) := by decide +kernel
theorem dX7_value_41 : decode cX7_value 41 = .ok (.ireturn, 1) := by decide +kernel
theorem dX7_differing_0 : decode cX7_differing 0 = .ok (.iconst 0, 1) := by decide +kernel
theorem dX7_differing_1 : decode cX7_differing 1 = .ok (.istore_n 1, 1) := by decide +kernel
theorem dX7_differing_2 : decode cX7_differing 2 = .ok (.iconst 0, 1) := by decide +kernel
theorem dX7_differing_3 : decode cX7_differing 3 = .ok (.istore_n 2, 1) := by decide +kernel
theorem dX7_differing_4 : decode cX7_differing 4 = .ok (.iload_n 2, 1) := by decide +kernel
theorem dX7_differing_5 : decode cX7_differing 5 = .ok (.aload_n 0, 1) := by decide +kernel
theorem dX7_differing_6 : decode cX7_differing 6 = .ok (.getfield 19, 3) := by decide +kernel
theorem dX7_differing_9 : decode cX7_differing 9 = .ok (.getfield 117, 3) := by decide +kernel
theorem dX7_differing_12 : decode cX7_differing 12 = .ok (.if_icmp .ge 30, 3) := by decide +kernel
theorem dX7_differing_15 : decode cX7_differing 15 = .ok (.aload_n 0, 1) := by decide +kernel
theorem dX7_differing_16 : decode cX7_differing 16 = .ok (.getfield 19, 3) := by decide +kernel
theorem dX7_differing_19 : decode cX7_differing 19 = .ok (.aload_n 0, 1) := by decide +kernel
theorem dX7_differing_20 : decode cX7_differing 20 = .ok (.getfield 12, 3) := by decide +kernel
theorem dX7_differing_23 : decode cX7_differing 23 = .ok (.getfield 127, 3) := by decide +kernel
theorem dX7_differing_26 : decode cX7_differing 26 = .ok (.iload_n 2, 1) := by decide +kernel
theorem dX7_differing_27 : decode cX7_differing 27 = .ok (.invokevirtual 135, 3) := by decide +kernel
theorem dX7_differing_30 : decode cX7_differing 30 = .ok (.ifCond .eq 6, 3) := by decide +kernel
theorem dX7_differing_33 : decode cX7_differing 33 = .ok (.iinc 1 1, 3) := by decide +kernel
theorem dX7_differing_36 : decode cX7_differing 36 = .ok (.iinc 2 1, 3) := by decide +kernel
theorem dX7_differing_39 : decode cX7_differing 39 = .ok (.goto (-35), 3) := by decide +kernel
theorem dX7_differing_42 : decode cX7_differing 42 = .ok (.iload_n 1, 1) := by decide +kernel
theorem dX7_differing_43 : decode cX7_differing 43 = .ok (.ireturn, 1) := by decide +kernel
theorem dX7_witness_0 : decode cX7_witness 0 = .ok (.iload_n 1, 1) := by decide +kernel
theorem dX7_witness_1 : decode cX7_witness 1 = .ok (.ifCond .lt 14, 3) := by decide +kernel
theorem dX7_witness_4 : decode cX7_witness 4 = .ok (.iload_n 1, 1) := by decide +kernel
theorem dX7_witness_5 : decode cX7_witness 5 = .ok (.aload_n 0, 1) := by decide +kernel
theorem dX7_witness_6 : decode cX7_witness 6 = .ok (.getfield 19, 3) := by decide +kernel
theorem dX7_witness_9 : decode cX7_witness 9 = .ok (.getfield 117, 3) := by decide +kernel
theorem dX7_witness_12 : decode cX7_witness 12 = .ok (.if_icmp .lt 13, 3) := by decide +kernel
theorem dX7_witness_15 : decode cX7_witness 15 = .ok (.new 83, 3) := by decide +kernel
theorem dX7_witness_18 : decode cX7_witness 18 = .ok (.dup, 1) := by decide +kernel
theorem dX7_witness_19 : decode cX7_witness 19 = .ok (.ldc 138, 2) := by decide +kernel
theorem dX7_witness_21 : decode cX7_witness 21 = .ok (.invokespecial 87, 3) := by decide +kernel
theorem dX7_witness_24 : decode cX7_witness 24 = .ok (.athrow, 1) := by decide +kernel
theorem dX7_witness_25 : decode cX7_witness 25 = .ok (.aload_n 0, 1) := by decide +kernel
theorem dX7_witness_26 : decode cX7_witness 26 = .ok (.getfield 19, 3) := by decide +kernel
theorem dX7_witness_29 : decode cX7_witness 29 = .ok (.aload_n 0, 1) := by decide +kernel
theorem dX7_witness_30 : decode cX7_witness 30 = .ok (.getfield 12, 3) := by decide +kernel
theorem dX7_witness_33 : decode cX7_witness 33 = .ok (.getfield 127, 3) := by decide +kernel
theorem dX7_witness_36 : decode cX7_witness 36 = .ok (.iload_n 1, 1) := by decide +kernel
theorem dX7_witness_37 : decode cX7_witness 37 = .ok (.invokevirtual 135, 3) := by decide +kernel
theorem dX7_witness_40 : decode cX7_witness 40 = .ok (.invokestatic 140, 3) := by decide +kernel
theorem dX7_witness_43 : decode cX7_witness 43 = .ok (.ireturn, 1) := by decide +kernel
theorem dX7_matched_0 : decode cX7_matched 0 = .ok (.aload_n 0, 1) := by decide +kernel
theorem dX7_matched_1 : decode cX7_matched 1 = .ok (.getfield 12, 3) := by decide +kernel
theorem dX7_matched_4 : decode cX7_matched 4 = .ok (.iload_n 1, 1) := by decide +kernel
theorem dX7_matched_5 : decode cX7_matched 5 = .ok (.invokevirtual 79, 3) := by decide +kernel
theorem dX7_matched_8 : decode cX7_matched 8 = .ok (.ifCond .ne 13, 3) := by decide +kernel
theorem dX7_matched_11 : decode cX7_matched 11 = .ok (.new 83, 3) := by decide +kernel
theorem dX7_matched_14 : decode cX7_matched 14 = .ok (.dup, 1) := by decide +kernel
theorem dX7_matched_15 : decode cX7_matched 15 = .ok (.ldc 85, 2) := by decide +kernel
theorem dX7_matched_17 : decode cX7_matched 17 = .ok (.invokespecial 87, 3) := by decide +kernel
theorem dX7_matched_20 : decode cX7_matched 20 = .ok (.athrow, 1) := by decide +kernel
theorem dX7_matched_21 : decode cX7_matched 21 = .ok (.aload_n 0, 1) := by decide +kernel
theorem dX7_matched_22 : decode cX7_matched 22 = .ok (.getfield 12, 3) := by decide +kernel
theorem dX7_matched_25 : decode cX7_matched 25 = .ok (.aload_n 0, 1) := by decide +kernel
theorem dX7_matched_26 : decode cX7_matched 26 = .ok (.getfield 12, 3) := by decide +kernel
theorem dX7_matched_29 : decode cX7_matched 29 = .ok (.getfield 127, 3) := by decide +kernel
theorem dX7_matched_32 : decode cX7_matched 32 = .ok (.iload_n 1, 1) := by decide +kernel
theorem dX7_matched_33 : decode cX7_matched 33 = .ok (.invokestatic 131, 3) := by decide +kernel
theorem dX7_matched_36 : decode cX7_matched 36 = .ok (.invokevirtual 144, 3) := by decide +kernel
theorem dX7_matched_39 : decode cX7_matched 39 = .ok (.ireturn, 1) := by decide +kernel
theorem dX7_keep_0 : decode cX7_keep 0 = .ok (.aload_n 0, 1) := by decide +kernel
theorem dX7_keep_1 : decode cX7_keep 1 = .ok (.getfield 12, 3) := by decide +kernel
theorem dX7_keep_4 : decode cX7_keep 4 = .ok (.iload_n 1, 1) := by decide +kernel
theorem dX7_keep_5 : decode cX7_keep 5 = .ok (.invokevirtual 147, 3) := by decide +kernel
theorem dX7_keep_8 : decode cX7_keep 8 = .ok (.ifCond .ne 13, 3) := by decide +kernel
theorem dX7_keep_11 : decode cX7_keep 11 = .ok (.new 83, 3) := by decide +kernel
theorem dX7_keep_14 : decode cX7_keep 14 = .ok (.dup, 1) := by decide +kernel
theorem dX7_keep_15 : decode cX7_keep 15 = .ok (.ldc 150, 2) := by decide +kernel
theorem dX7_keep_17 : decode cX7_keep 17 = .ok (.invokespecial 87, 3) := by decide +kernel
theorem dX7_keep_20 : decode cX7_keep 20 = .ok (.athrow, 1) := by decide +kernel
theorem dX7_keep_21 : decode cX7_keep 21 = .ok (.aload_n 0, 1) := by decide +kernel
theorem dX7_keep_22 : decode cX7_keep 22 = .ok (.getfield 12, 3) := by decide +kernel
theorem dX7_keep_25 : decode cX7_keep 25 = .ok (.getfield 152, 3) := by decide +kernel
theorem dX7_keep_28 : decode cX7_keep 28 = .ok (.iload_n 1, 1) := by decide +kernel
theorem dX7_keep_29 : decode cX7_keep 29 = .ok (.baload, 1) := by decide +kernel
theorem dX7_keep_30 : decode cX7_keep 30 = .ok (.iload_n 2, 1) := by decide +kernel
theorem dX7_keep_31 : decode cX7_keep 31 = .ok (.if_icmp .ne 5, 3) := by decide +kernel
theorem dX7_keep_34 : decode cX7_keep 34 = .ok (.iconst 0, 1) := by decide +kernel
theorem dX7_keep_35 : decode cX7_keep 35 = .ok (.ireturn, 1) := by decide +kernel
theorem dX7_keep_36 : decode cX7_keep 36 = .ok (.aload_n 0, 1) := by decide +kernel
theorem dX7_keep_37 : decode cX7_keep 37 = .ok (.getfield 12, 3) := by decide +kernel
theorem dX7_keep_40 : decode cX7_keep 40 = .ok (.getfield 152, 3) := by decide +kernel
theorem dX7_keep_43 : decode cX7_keep 43 = .ok (.iload_n 1, 1) := by decide +kernel
theorem dX7_keep_44 : decode cX7_keep 44 = .ok (.iload_n 2, 1) := by decide +kernel
theorem dX7_keep_45 : decode cX7_keep 45 = .ok (.bastore, 1) := by decide +kernel
theorem dX7_keep_46 : decode cX7_keep 46 = .ok (.aload_n 0, 1) := by decide +kernel
theorem dX7_keep_47 : decode cX7_keep 47 = .ok (.iconst (-1), 1) := by decide +kernel
theorem dX7_keep_48 : decode cX7_keep 48 = .ok (.putfield 55, 3) := by decide +kernel
theorem dX7_keep_51 : decode cX7_keep 51 = .ok (.iconst 1, 1) := by decide +kernel
theorem dX7_keep_52 : decode cX7_keep 52 = .ok (.ireturn, 1) := by decide +kernel
theorem dX7_place_0 : decode cX7_place 0 = .ok (.aload_n 0, 1) := by decide +kernel
theorem dX7_place_1 : decode cX7_place 1 = .ok (.getfield 12, 3) := by decide +kernel
theorem dX7_place_4 : decode cX7_place 4 = .ok (.iload_n 1, 1) := by decide +kernel
theorem dX7_place_5 : decode cX7_place 5 = .ok (.invokevirtual 147, 3) := by decide +kernel
theorem dX7_place_8 : decode cX7_place 8 = .ok (.ifCond .ne 13, 3) := by decide +kernel
theorem dX7_place_11 : decode cX7_place 11 = .ok (.new 83, 3) := by decide +kernel
theorem dX7_place_14 : decode cX7_place 14 = .ok (.dup, 1) := by decide +kernel
theorem dX7_place_15 : decode cX7_place 15 = .ok (.ldc 150, 2) := by decide +kernel
theorem dX7_place_17 : decode cX7_place 17 = .ok (.invokespecial 87, 3) := by decide +kernel
theorem dX7_place_20 : decode cX7_place 20 = .ok (.athrow, 1) := by decide +kernel
theorem dX7_place_21 : decode cX7_place 21 = .ok (.lload_n 2, 1) := by decide +kernel
theorem dX7_place_22 : decode cX7_place 22 = .ok (.invokestatic 156, 3) := by decide +kernel
theorem dX7_place_25 : decode cX7_place 25 = .ok (.ifCond .ne 11, 3) := by decide +kernel
theorem dX7_place_28 : decode cX7_place 28 = .ok (.lload 4, 2) := by decide +kernel
theorem dX7_place_30 : decode cX7_place 30 = .ok (.invokestatic 156, 3) := by decide +kernel
theorem dX7_place_33 : decode cX7_place 33 = .ok (.ifCond .eq 13, 3) := by decide +kernel
theorem dX7_place_36 : decode cX7_place 36 = .ok (.new 94, 3) := by decide +kernel
theorem dX7_place_39 : decode cX7_place 39 = .ok (.dup, 1) := by decide +kernel
theorem dX7_place_40 : decode cX7_place 40 = .ok (.ldc 160, 2) := by decide +kernel
theorem dX7_place_42 : decode cX7_place 42 = .ok (.invokespecial 98, 3) := by decide +kernel
theorem dX7_place_45 : decode cX7_place 45 = .ok (.athrow, 1) := by decide +kernel
theorem dX7_place_46 : decode cX7_place 46 = .ok (.aload_n 0, 1) := by decide +kernel
theorem dX7_place_47 : decode cX7_place 47 = .ok (.getfield 26, 3) := by decide +kernel
theorem dX7_place_50 : decode cX7_place 50 = .ok (.iload_n 1, 1) := by decide +kernel
theorem dX7_place_51 : decode cX7_place 51 = .ok (.lload_n 2, 1) := by decide +kernel
theorem dX7_place_52 : decode cX7_place 52 = .ok (.l2i, 1) := by decide +kernel
theorem dX7_place_53 : decode cX7_place 53 = .ok (.lload 4, 2) := by decide +kernel
theorem dX7_place_55 : decode cX7_place 55 = .ok (.l2i, 1) := by decide +kernel
theorem dX7_place_56 : decode cX7_place 56 = .ok (.invokevirtual 162, 3) := by decide +kernel
theorem dX7_place_59 : decode cX7_place 59 = .ok (.ifCond .ne 5, 3) := by decide +kernel
theorem dX7_place_62 : decode cX7_place 62 = .ok (.iconst 0, 1) := by decide +kernel
theorem dX7_place_63 : decode cX7_place 63 = .ok (.ireturn, 1) := by decide +kernel
theorem dX7_place_64 : decode cX7_place 64 = .ok (.aload_n 0, 1) := by decide +kernel
theorem dX7_place_65 : decode cX7_place 65 = .ok (.iconst (-1), 1) := by decide +kernel
theorem dX7_place_66 : decode cX7_place 66 = .ok (.putfield 55, 3) := by decide +kernel
theorem dX7_place_69 : decode cX7_place 69 = .ok (.iconst 1, 1) := by decide +kernel
theorem dX7_place_70 : decode cX7_place 70 = .ok (.ireturn, 1) := by decide +kernel
theorem dX7_spare_0 : decode cX7_spare 0 = .ok (.aload_n 0, 1) := by decide +kernel
theorem dX7_spare_1 : decode cX7_spare 1 = .ok (.getfield 26, 3) := by decide +kernel
theorem dX7_spare_4 : decode cX7_spare 4 = .ok (.getfield 166, 3) := by decide +kernel
theorem dX7_spare_7 : decode cX7_spare 7 = .ok (.bipush 6, 2) := by decide +kernel
theorem dX7_spare_9 : decode cX7_spare 9 = .ok (.if_icmp .lt 13, 3) := by decide +kernel
theorem dX7_spare_12 : decode cX7_spare 12 = .ok (.new 68, 3) := by decide +kernel
theorem dX7_spare_15 : decode cX7_spare 15 = .ok (.dup, 1) := by decide +kernel
theorem dX7_spare_16 : decode cX7_spare 16 = .ok (.ldc 169, 2) := by decide +kernel
theorem dX7_spare_18 : decode cX7_spare 18 = .ok (.invokespecial 72, 3) := by decide +kernel
theorem dX7_spare_21 : decode cX7_spare 21 = .ok (.athrow, 1) := by decide +kernel
theorem dX7_spare_22 : decode cX7_spare 22 = .ok (.lload_n 1, 1) := by decide +kernel
theorem dX7_spare_23 : decode cX7_spare 23 = .ok (.invokestatic 156, 3) := by decide +kernel
theorem dX7_spare_26 : decode cX7_spare 26 = .ok (.ifCond .ne 10, 3) := by decide +kernel
theorem dX7_spare_29 : decode cX7_spare 29 = .ok (.lload_n 3, 1) := by decide +kernel
theorem dX7_spare_30 : decode cX7_spare 30 = .ok (.invokestatic 156, 3) := by decide +kernel
theorem dX7_spare_33 : decode cX7_spare 33 = .ok (.ifCond .eq 13, 3) := by decide +kernel
theorem dX7_spare_36 : decode cX7_spare 36 = .ok (.new 94, 3) := by decide +kernel
theorem dX7_spare_39 : decode cX7_spare 39 = .ok (.dup, 1) := by decide +kernel
theorem dX7_spare_40 : decode cX7_spare 40 = .ok (.ldc 160, 2) := by decide +kernel
theorem dX7_spare_42 : decode cX7_spare 42 = .ok (.invokespecial 98, 3) := by decide +kernel
theorem dX7_spare_45 : decode cX7_spare 45 = .ok (.athrow, 1) := by decide +kernel
theorem dX7_spare_46 : decode cX7_spare 46 = .ok (.aload_n 0, 1) := by decide +kernel
theorem dX7_spare_47 : decode cX7_spare 47 = .ok (.iconst (-1), 1) := by decide +kernel
theorem dX7_spare_48 : decode cX7_spare 48 = .ok (.putfield 55, 3) := by decide +kernel
theorem dX7_spare_51 : decode cX7_spare 51 = .ok (.aload_n 0, 1) := by decide +kernel
theorem dX7_spare_52 : decode cX7_spare 52 = .ok (.getfield 26, 3) := by decide +kernel
theorem dX7_spare_55 : decode cX7_spare 55 = .ok (.lload_n 1, 1) := by decide +kernel
theorem dX7_spare_56 : decode cX7_spare 56 = .ok (.l2i, 1) := by decide +kernel
theorem dX7_spare_57 : decode cX7_spare 57 = .ok (.lload_n 3, 1) := by decide +kernel
theorem dX7_spare_58 : decode cX7_spare 58 = .ok (.l2i, 1) := by decide +kernel
theorem dX7_spare_59 : decode cX7_spare 59 = .ok (.invokevirtual 171, 3) := by decide +kernel
theorem dX7_spare_62 : decode cX7_spare 62 = .ok (.ireturn, 1) := by decide +kernel
theorem dX7_run_0 : decode cX7_run 0 = .ok (.iload_n 1, 1) := by decide +kernel
theorem dX7_run_1 : decode cX7_run 1 = .ok (.ifCond .lt 8, 3) := by decide +kernel
theorem dX7_run_4 : decode cX7_run 4 = .ok (.iload_n 1, 1) := by decide +kernel
theorem dX7_run_5 : decode cX7_run 5 = .ok (.iconst 2, 1) := by decide +kernel
theorem dX7_run_6 : decode cX7_run 6 = .ok (.if_icmp .le 13, 3) := by decide +kernel
theorem dX7_run_9 : decode cX7_run 9 = .ok (.new 94, 3) := by decide +kernel
theorem dX7_run_12 : decode cX7_run 12 = .ok (.dup, 1) := by decide +kernel
theorem dX7_run_13 : decode cX7_run 13 = .ok (.ldc 174, 2) := by decide +kernel
theorem dX7_run_15 : decode cX7_run 15 = .ok (.invokespecial 98, 3) := by decide +kernel
theorem dX7_run_18 : decode cX7_run 18 = .ok (.athrow, 1) := by decide +kernel
theorem dX7_run_19 : decode cX7_run 19 = .ok (.aload_n 0, 1) := by decide +kernel
theorem dX7_run_20 : decode cX7_run 20 = .ok (.aload_n 0, 1) := by decide +kernel
theorem dX7_run_21 : decode cX7_run 21 = .ok (.getfield 35, 3) := by decide +kernel
theorem dX7_run_24 : decode cX7_run 24 = .ok (.iload_n 1, 1) := by decide +kernel
theorem dX7_run_25 : decode cX7_run 25 = .ok (.invokevirtual 176, 3) := by decide +kernel
theorem dX7_run_28 : decode cX7_run 28 = .ok (.putfield 55, 3) := by decide +kernel
theorem dX7_run_31 : decode cX7_run 31 = .ok (.aload_n 0, 1) := by decide +kernel
theorem dX7_run_32 : decode cX7_run 32 = .ok (.getfield 55, 3) := by decide +kernel
theorem dX7_run_35 : decode cX7_run 35 = .ok (.iconst (-1), 1) := by decide +kernel
theorem dX7_run_36 : decode cX7_run 36 = .ok (.if_icmp .eq 21, 3) := by decide +kernel
theorem dX7_run_39 : decode cX7_run 39 = .ok (.aload_n 0, 1) := by decide +kernel
theorem dX7_run_40 : decode cX7_run 40 = .ok (.getfield 44, 3) := by decide +kernel
theorem dX7_run_43 : decode cX7_run 43 = .ok (.aload_n 0, 1) := by decide +kernel
theorem dX7_run_44 : decode cX7_run 44 = .ok (.getfield 35, 3) := by decide +kernel
theorem dX7_run_47 : decode cX7_run 47 = .ok (.getfield 179, 3) := by decide +kernel
theorem dX7_run_50 : decode cX7_run 50 = .ok (.aload_n 0, 1) := by decide +kernel
theorem dX7_run_51 : decode cX7_run 51 = .ok (.getfield 55, 3) := by decide +kernel
theorem dX7_run_54 : decode cX7_run 54 = .ok (.invokevirtual 183, 3) := by decide +kernel
theorem dX7_run_57 : decode cX7_run 57 = .ok (.aload_n 0, 1) := by decide +kernel
theorem dX7_run_58 : decode cX7_run 58 = .ok (.getfield 55, 3) := by decide +kernel
theorem dX7_run_61 : decode cX7_run 61 = .ok (.ireturn, 1) := by decide +kernel
theorem dX7_edit_0 : decode cX7_edit 0 = .ok (.iload_n 2, 1) := by decide +kernel
theorem dX7_edit_1 : decode cX7_edit 1 = .ok (.ifCond .lt 8, 3) := by decide +kernel
theorem dX7_edit_4 : decode cX7_edit 4 = .ok (.iload_n 2, 1) := by decide +kernel
theorem dX7_edit_5 : decode cX7_edit 5 = .ok (.iconst 2, 1) := by decide +kernel
theorem dX7_edit_6 : decode cX7_edit 6 = .ok (.if_icmp .le 13, 3) := by decide +kernel
theorem dX7_edit_9 : decode cX7_edit 9 = .ok (.new 83, 3) := by decide +kernel
theorem dX7_edit_12 : decode cX7_edit 12 = .ok (.dup, 1) := by decide +kernel
theorem dX7_edit_13 : decode cX7_edit 13 = .ok (.ldc 187, 2) := by decide +kernel
theorem dX7_edit_15 : decode cX7_edit 15 = .ok (.invokespecial 87, 3) := by decide +kernel
theorem dX7_edit_18 : decode cX7_edit 18 = .ok (.athrow, 1) := by decide +kernel
theorem dX7_edit_19 : decode cX7_edit 19 = .ok (.aload_n 0, 1) := by decide +kernel
theorem dX7_edit_20 : decode cX7_edit 20 = .ok (.getfield 55, 3) := by decide +kernel
theorem dX7_edit_23 : decode cX7_edit 23 = .ok (.iconst (-1), 1) := by decide +kernel
theorem dX7_edit_24 : decode cX7_edit 24 = .ok (.if_icmp .ne 13, 3) := by decide +kernel
theorem dX7_edit_27 : decode cX7_edit 27 = .ok (.new 68, 3) := by decide +kernel
theorem dX7_edit_30 : decode cX7_edit 30 = .ok (.dup, 1) := by decide +kernel
theorem dX7_edit_31 : decode cX7_edit 31 = .ok (.ldc 189, 2) := by decide +kernel
theorem dX7_edit_33 : decode cX7_edit 33 = .ok (.invokespecial 72, 3) := by decide +kernel
theorem dX7_edit_36 : decode cX7_edit 36 = .ok (.athrow, 1) := by decide +kernel
theorem dX7_edit_37 : decode cX7_edit 37 = .ok (.iload_n 1, 1) := by decide +kernel
theorem dX7_edit_38 : decode cX7_edit 38 = .ok (.ifCond .lt 11, 3) := by decide +kernel
theorem dX7_edit_41 : decode cX7_edit 41 = .ok (.iload_n 1, 1) := by decide +kernel
theorem dX7_edit_42 : decode cX7_edit 42 = .ok (.aload_n 0, 1) := by decide +kernel
theorem dX7_edit_43 : decode cX7_edit 43 = .ok (.getfield 55, 3) := by decide +kernel
theorem dX7_edit_46 : decode cX7_edit 46 = .ok (.if_icmp .lt 13, 3) := by decide +kernel
theorem dX7_edit_49 : decode cX7_edit 49 = .ok (.new 83, 3) := by decide +kernel
theorem dX7_edit_52 : decode cX7_edit 52 = .ok (.dup, 1) := by decide +kernel
theorem dX7_edit_53 : decode cX7_edit 53 = .ok (.ldc 191, 2) := by decide +kernel
theorem dX7_edit_55 : decode cX7_edit 55 = .ok (.invokespecial 87, 3) := by decide +kernel
theorem dX7_edit_58 : decode cX7_edit 58 = .ok (.athrow, 1) := by decide +kernel
theorem dX7_edit_59 : decode cX7_edit 59 = .ok (.aload_n 0, 1) := by decide +kernel
theorem dX7_edit_60 : decode cX7_edit 60 = .ok (.getfield 35, 3) := by decide +kernel
theorem dX7_edit_63 : decode cX7_edit 63 = .ok (.getfield 179, 3) := by decide +kernel
theorem dX7_edit_66 : decode cX7_edit 66 = .ok (.iload_n 1, 1) := by decide +kernel
theorem dX7_edit_67 : decode cX7_edit 67 = .ok (.aaload, 1) := by decide +kernel
theorem dX7_edit_68 : decode cX7_edit 68 = .ok (.astore_n 3, 1) := by decide +kernel
theorem dX7_edit_69 : decode cX7_edit 69 = .ok (.iload_n 2, 1) := by decide +kernel
theorem dX7_edit_70 : decode cX7_edit 70 = .ok (.ifCond .ne 10, 3) := by decide +kernel
theorem dX7_edit_73 : decode cX7_edit 73 = .ok (.aload_n 3, 1) := by decide +kernel
theorem dX7_edit_74 : decode cX7_edit 74 = .ok (.getfield 193, 3) := by decide +kernel
theorem dX7_edit_77 : decode cX7_edit 77 = .ok (.goto 19, 3) := by decide +kernel
theorem dX7_edit_80 : decode cX7_edit 80 = .ok (.iload_n 2, 1) := by decide +kernel
theorem dX7_edit_81 : decode cX7_edit 81 = .ok (.iconst 1, 1) := by decide +kernel
theorem dX7_edit_82 : decode cX7_edit 82 = .ok (.if_icmp .ne 10, 3) := by decide +kernel
theorem dX7_edit_85 : decode cX7_edit 85 = .ok (.aload_n 3, 1) := by decide +kernel
theorem dX7_edit_86 : decode cX7_edit 86 = .ok (.getfield 198, 3) := by decide +kernel
theorem dX7_edit_89 : decode cX7_edit 89 = .ok (.goto 7, 3) := by decide +kernel
theorem dX7_edit_92 : decode cX7_edit 92 = .ok (.aload_n 3, 1) := by decide +kernel
theorem dX7_edit_93 : decode cX7_edit 93 = .ok (.getfield 201, 3) := by decide +kernel
theorem dX7_edit_96 : decode cX7_edit 96 = .ok (.ireturn, 1) := by decide +kernel
theorem dX7_used_0 : decode cX7_used 0 = .ok (.aload_n 0, 1) := by decide +kernel
theorem dX7_used_1 : decode cX7_used 1 = .ok (.getfield 55, 3) := by decide +kernel
theorem dX7_used_4 : decode cX7_used 4 = .ok (.iconst (-1), 1) := by decide +kernel
theorem dX7_used_5 : decode cX7_used 5 = .ok (.if_icmp .ne 13, 3) := by decide +kernel
theorem dX7_used_8 : decode cX7_used 8 = .ok (.new 68, 3) := by decide +kernel
theorem dX7_used_11 : decode cX7_used 11 = .ok (.dup, 1) := by decide +kernel
theorem dX7_used_12 : decode cX7_used 12 = .ok (.ldc 189, 2) := by decide +kernel
theorem dX7_used_14 : decode cX7_used 14 = .ok (.invokespecial 72, 3) := by decide +kernel
theorem dX7_used_17 : decode cX7_used 17 = .ok (.athrow, 1) := by decide +kernel
theorem dX7_used_18 : decode cX7_used 18 = .ok (.iload_n 1, 1) := by decide +kernel
theorem dX7_used_19 : decode cX7_used 19 = .ok (.ifCond .lt 11, 3) := by decide +kernel
theorem dX7_used_22 : decode cX7_used 22 = .ok (.iload_n 1, 1) := by decide +kernel
theorem dX7_used_23 : decode cX7_used 23 = .ok (.aload_n 0, 1) := by decide +kernel
theorem dX7_used_24 : decode cX7_used 24 = .ok (.getfield 55, 3) := by decide +kernel
theorem dX7_used_27 : decode cX7_used 27 = .ok (.if_icmp .lt 13, 3) := by decide +kernel
theorem dX7_used_30 : decode cX7_used 30 = .ok (.new 83, 3) := by decide +kernel
theorem dX7_used_33 : decode cX7_used 33 = .ok (.dup, 1) := by decide +kernel
theorem dX7_used_34 : decode cX7_used 34 = .ok (.ldc 191, 2) := by decide +kernel
theorem dX7_used_36 : decode cX7_used 36 = .ok (.invokespecial 87, 3) := by decide +kernel
theorem dX7_used_39 : decode cX7_used 39 = .ok (.athrow, 1) := by decide +kernel
theorem dX7_used_40 : decode cX7_used 40 = .ok (.aload_n 0, 1) := by decide +kernel
theorem dX7_used_41 : decode cX7_used 41 = .ok (.getfield 44, 3) := by decide +kernel
theorem dX7_used_44 : decode cX7_used 44 = .ok (.getfield 204, 3) := by decide +kernel
theorem dX7_used_47 : decode cX7_used 47 = .ok (.iload_n 1, 1) := by decide +kernel
theorem dX7_used_48 : decode cX7_used 48 = .ok (.iaload, 1) := by decide +kernel
theorem dX7_used_49 : decode cX7_used 49 = .ok (.ireturn, 1) := by decide +kernel
theorem dX7_length_0 : decode cX7_length 0 = .ok (.aload_n 0, 1) := by decide +kernel
theorem dX7_length_1 : decode cX7_length 1 = .ok (.getfield 55, 3) := by decide +kernel
theorem dX7_length_4 : decode cX7_length 4 = .ok (.iconst (-1), 1) := by decide +kernel
theorem dX7_length_5 : decode cX7_length 5 = .ok (.if_icmp .ne 13, 3) := by decide +kernel
theorem dX7_length_8 : decode cX7_length 8 = .ok (.new 68, 3) := by decide +kernel
theorem dX7_length_11 : decode cX7_length 11 = .ok (.dup, 1) := by decide +kernel
theorem dX7_length_12 : decode cX7_length 12 = .ok (.ldc 189, 2) := by decide +kernel
theorem dX7_length_14 : decode cX7_length 14 = .ok (.invokespecial 72, 3) := by decide +kernel
theorem dX7_length_17 : decode cX7_length 17 = .ok (.athrow, 1) := by decide +kernel
theorem dX7_length_18 : decode cX7_length 18 = .ok (.aload_n 0, 1) := by decide +kernel
theorem dX7_length_19 : decode cX7_length 19 = .ok (.getfield 44, 3) := by decide +kernel
theorem dX7_length_22 : decode cX7_length 22 = .ok (.getfield 207, 3) := by decide +kernel
theorem dX7_length_25 : decode cX7_length 25 = .ok (.ireturn, 1) := by decide +kernel
theorem dX7_make_0 : decode cX7_make 0 = .ok (.aload_n 0, 1) := by decide +kernel
theorem dX7_make_1 : decode cX7_make 1 = .ok (.getfield 55, 3) := by decide +kernel
theorem dX7_make_4 : decode cX7_make 4 = .ok (.iconst (-1), 1) := by decide +kernel
theorem dX7_make_5 : decode cX7_make 5 = .ok (.if_icmp .eq 15, 3) := by decide +kernel
theorem dX7_make_8 : decode cX7_make 8 = .ok (.aload_n 0, 1) := by decide +kernel
theorem dX7_make_9 : decode cX7_make 9 = .ok (.getfield 51, 3) := by decide +kernel
theorem dX7_make_12 : decode cX7_make 12 = .ok (.getfield 210, 3) := by decide +kernel
theorem dX7_make_15 : decode cX7_make 15 = .ok (.bipush 20, 2) := by decide +kernel
theorem dX7_make_17 : decode cX7_make 17 = .ok (.if_icmp .lt 13, 3) := by decide +kernel
theorem dX7_make_20 : decode cX7_make 20 = .ok (.new 68, 3) := by decide +kernel
theorem dX7_make_23 : decode cX7_make 23 = .ok (.dup, 1) := by decide +kernel
theorem dX7_make_24 : decode cX7_make 24 = .ok (.ldc 213, 2) := by decide +kernel
theorem dX7_make_26 : decode cX7_make 26 = .ok (.invokespecial 72, 3) := by decide +kernel
theorem dX7_make_29 : decode cX7_make 29 = .ok (.athrow, 1) := by decide +kernel
theorem dX7_make_30 : decode cX7_make 30 = .ok (.aload_n 0, 1) := by decide +kernel
theorem dX7_make_31 : decode cX7_make 31 = .ok (.getfield 55, 3) := by decide +kernel
theorem dX7_make_34 : decode cX7_make 34 = .ok (.istore_n 1, 1) := by decide +kernel
theorem dX7_make_35 : decode cX7_make 35 = .ok (.aload_n 0, 1) := by decide +kernel
theorem dX7_make_36 : decode cX7_make 36 = .ok (.getfield 51, 3) := by decide +kernel
theorem dX7_make_39 : decode cX7_make 39 = .ok (.aload_n 0, 1) := by decide +kernel
theorem dX7_make_40 : decode cX7_make 40 = .ok (.getfield 12, 3) := by decide +kernel
theorem dX7_make_43 : decode cX7_make 43 = .ok (.aload_n 0, 1) := by decide +kernel
theorem dX7_make_44 : decode cX7_make 44 = .ok (.getfield 35, 3) := by decide +kernel
theorem dX7_make_47 : decode cX7_make 47 = .ok (.getfield 179, 3) := by decide +kernel
theorem dX7_make_50 : decode cX7_make 50 = .ok (.iload_n 1, 1) := by decide +kernel
theorem dX7_make_51 : decode cX7_make 51 = .ok (.invokevirtual 215, 3) := by decide +kernel
theorem dX7_make_54 : decode cX7_make 54 = .ok (.iconst 0, 1) := by decide +kernel
theorem dX7_make_55 : decode cX7_make 55 = .ok (.istore_n 2, 1) := by decide +kernel
theorem dX7_make_56 : decode cX7_make 56 = .ok (.iload_n 2, 1) := by decide +kernel
theorem dX7_make_57 : decode cX7_make 57 = .ok (.iload_n 1, 1) := by decide +kernel
theorem dX7_make_58 : decode cX7_make 58 = .ok (.if_icmp .ge 25, 3) := by decide +kernel
theorem dX7_make_61 : decode cX7_make 61 = .ok (.aload_n 0, 1) := by decide +kernel
theorem dX7_make_62 : decode cX7_make 62 = .ok (.getfield 12, 3) := by decide +kernel
theorem dX7_make_65 : decode cX7_make 65 = .ok (.aload_n 0, 1) := by decide +kernel
theorem dX7_make_66 : decode cX7_make 66 = .ok (.getfield 35, 3) := by decide +kernel
theorem dX7_make_69 : decode cX7_make 69 = .ok (.getfield 179, 3) := by decide +kernel
theorem dX7_make_72 : decode cX7_make 72 = .ok (.iload_n 2, 1) := by decide +kernel
theorem dX7_make_73 : decode cX7_make 73 = .ok (.aaload, 1) := by decide +kernel
theorem dX7_make_74 : decode cX7_make 74 = .ok (.invokevirtual 219, 3) := by decide +kernel
theorem dX7_make_77 : decode cX7_make 77 = .ok (.iinc 2 1, 3) := by decide +kernel
theorem dX7_make_80 : decode cX7_make 80 = .ok (.goto (-24), 3) := by decide +kernel
theorem dX7_make_83 : decode cX7_make 83 = .ok (.aload_n 0, 1) := by decide +kernel
theorem dX7_make_84 : decode cX7_make 84 = .ok (.getfield 12, 3) := by decide +kernel
theorem dX7_make_87 : decode cX7_make 87 = .ok (.invokevirtual 223, 3) := by decide +kernel
theorem dX7_make_90 : decode cX7_make 90 = .ok (.aload_n 0, 1) := by decide +kernel
theorem dX7_make_91 : decode cX7_make 91 = .ok (.iconst (-1), 1) := by decide +kernel
theorem dX7_make_92 : decode cX7_make 92 = .ok (.putfield 55, 3) := by decide +kernel
theorem dX7_make_95 : decode cX7_make 95 = .ok (.iload_n 1, 1) := by decide +kernel
theorem dX7_make_96 : decode cX7_make 96 = .ok (.ireturn, 1) := by decide +kernel
theorem dX7_undo_0 : decode cX7_undo 0 = .ok (.aload_n 0, 1) := by decide +kernel
theorem dX7_undo_1 : decode cX7_undo 1 = .ok (.getfield 51, 3) := by decide +kernel
theorem dX7_undo_4 : decode cX7_undo 4 = .ok (.getfield 210, 3) := by decide +kernel
theorem dX7_undo_7 : decode cX7_undo 7 = .ok (.ifCond .ne 5, 3) := by decide +kernel
theorem dX7_undo_10 : decode cX7_undo 10 = .ok (.iconst 0, 1) := by decide +kernel
theorem dX7_undo_11 : decode cX7_undo 11 = .ok (.ireturn, 1) := by decide +kernel
theorem dX7_undo_12 : decode cX7_undo 12 = .ok (.aload_n 0, 1) := by decide +kernel
theorem dX7_undo_13 : decode cX7_undo 13 = .ok (.getfield 51, 3) := by decide +kernel
theorem dX7_undo_16 : decode cX7_undo 16 = .ok (.aload_n 0, 1) := by decide +kernel
theorem dX7_undo_17 : decode cX7_undo 17 = .ok (.getfield 12, 3) := by decide +kernel
theorem dX7_undo_20 : decode cX7_undo 20 = .ok (.invokevirtual 226, 3) := by decide +kernel
theorem dX7_undo_23 : decode cX7_undo 23 = .ok (.aload_n 0, 1) := by decide +kernel
theorem dX7_undo_24 : decode cX7_undo 24 = .ok (.getfield 12, 3) := by decide +kernel
theorem dX7_undo_27 : decode cX7_undo 27 = .ok (.invokevirtual 223, 3) := by decide +kernel
theorem dX7_undo_30 : decode cX7_undo 30 = .ok (.aload_n 0, 1) := by decide +kernel
theorem dX7_undo_31 : decode cX7_undo 31 = .ok (.iconst (-1), 1) := by decide +kernel
theorem dX7_undo_32 : decode cX7_undo 32 = .ok (.putfield 55, 3) := by decide +kernel
theorem dX7_undo_35 : decode cX7_undo 35 = .ok (.iconst 1, 1) := by decide +kernel
theorem dX7_undo_36 : decode cX7_undo 36 = .ok (.ireturn, 1) := by decide +kernel
theorem dX7_literal_0 : decode cX7_literal 0 = .ok (.aload_n 0, 1) := by decide +kernel
theorem dX7_literal_1 : decode cX7_literal 1 = .ok (.getfield 12, 3) := by decide +kernel
theorem dX7_literal_4 : decode cX7_literal 4 = .ok (.iload_n 1, 1) := by decide +kernel
theorem dX7_literal_5 : decode cX7_literal 5 = .ok (.invokevirtual 147, 3) := by decide +kernel
theorem dX7_literal_8 : decode cX7_literal 8 = .ok (.ifCond .eq 12, 3) := by decide +kernel
theorem dX7_literal_11 : decode cX7_literal 11 = .ok (.iload_n 2, 1) := by decide +kernel
theorem dX7_literal_12 : decode cX7_literal 12 = .ok (.ifCond .lt 8, 3) := by decide +kernel
theorem dX7_literal_15 : decode cX7_literal 15 = .ok (.iload_n 2, 1) := by decide +kernel
theorem dX7_literal_16 : decode cX7_literal 16 = .ok (.iconst 1, 1) := by decide +kernel
theorem dX7_literal_17 : decode cX7_literal 17 = .ok (.if_icmp .le 13, 3) := by decide +kernel
theorem dX7_literal_20 : decode cX7_literal 20 = .ok (.new 83, 3) := by decide +kernel
theorem dX7_literal_23 : decode cX7_literal 23 = .ok (.dup, 1) := by decide +kernel
theorem dX7_literal_24 : decode cX7_literal 24 = .ok (.ldc 230, 2) := by decide +kernel
theorem dX7_literal_26 : decode cX7_literal 26 = .ok (.invokespecial 87, 3) := by decide +kernel
theorem dX7_literal_29 : decode cX7_literal 29 = .ok (.athrow, 1) := by decide +kernel
theorem dX7_literal_30 : decode cX7_literal 30 = .ok (.iload_n 2, 1) := by decide +kernel
theorem dX7_literal_31 : decode cX7_literal 31 = .ok (.ifCond .ne 15, 3) := by decide +kernel
theorem dX7_literal_34 : decode cX7_literal 34 = .ok (.aload_n 0, 1) := by decide +kernel
theorem dX7_literal_35 : decode cX7_literal 35 = .ok (.getfield 12, 3) := by decide +kernel
theorem dX7_literal_38 : decode cX7_literal 38 = .ok (.getfield 232, 3) := by decide +kernel
theorem dX7_literal_41 : decode cX7_literal 41 = .ok (.iload_n 1, 1) := by decide +kernel
theorem dX7_literal_42 : decode cX7_literal 42 = .ok (.iaload, 1) := by decide +kernel
theorem dX7_literal_43 : decode cX7_literal 43 = .ok (.goto 12, 3) := by decide +kernel
theorem dX7_literal_46 : decode cX7_literal 46 = .ok (.aload_n 0, 1) := by decide +kernel
theorem dX7_literal_47 : decode cX7_literal 47 = .ok (.getfield 12, 3) := by decide +kernel
theorem dX7_literal_50 : decode cX7_literal 50 = .ok (.getfield 234, 3) := by decide +kernel
theorem dX7_literal_53 : decode cX7_literal 53 = .ok (.iload_n 1, 1) := by decide +kernel
theorem dX7_literal_54 : decode cX7_literal 54 = .ok (.iaload, 1) := by decide +kernel
theorem dX7_literal_55 : decode cX7_literal 55 = .ok (.ireturn, 1) := by decide +kernel
theorem dX7_count_0 : decode cX7_count 0 = .ok (.iload_n 1, 1) := by decide +kernel
theorem dX7_count_1 : decode cX7_count 1 = .ok (.tableswitch 111 0 7 #[47, 55, 63, 71, 79, 87, 95, 103], 47) := by decide +kernel
theorem dX7_count_48 : decode cX7_count 48 = .ok (.aload_n 0, 1) := by decide +kernel
theorem dX7_count_49 : decode cX7_count 49 = .ok (.getfield 12, 3) := by decide +kernel
theorem dX7_count_52 : decode cX7_count 52 = .ok (.getfield 99, 3) := by decide +kernel
theorem dX7_count_55 : decode cX7_count 55 = .ok (.ireturn, 1) := by decide +kernel
theorem dX7_count_56 : decode cX7_count 56 = .ok (.aload_n 0, 1) := by decide +kernel
theorem dX7_count_57 : decode cX7_count 57 = .ok (.getfield 12, 3) := by decide +kernel
theorem dX7_count_60 : decode cX7_count 60 = .ok (.getfield 59, 3) := by decide +kernel
theorem dX7_count_63 : decode cX7_count 63 = .ok (.ireturn, 1) := by decide +kernel
theorem dX7_count_64 : decode cX7_count 64 = .ok (.aload_n 0, 1) := by decide +kernel
theorem dX7_count_65 : decode cX7_count 65 = .ok (.getfield 12, 3) := by decide +kernel
theorem dX7_count_68 : decode cX7_count 68 = .ok (.getfield 62, 3) := by decide +kernel
theorem dX7_count_71 : decode cX7_count 71 = .ok (.ireturn, 1) := by decide +kernel
theorem dX7_count_72 : decode cX7_count 72 = .ok (.aload_n 0, 1) := by decide +kernel
theorem dX7_count_73 : decode cX7_count 73 = .ok (.getfield 12, 3) := by decide +kernel
theorem dX7_count_76 : decode cX7_count 76 = .ok (.getfield 65, 3) := by decide +kernel
theorem dX7_count_79 : decode cX7_count 79 = .ok (.ireturn, 1) := by decide +kernel
theorem dX7_count_80 : decode cX7_count 80 = .ok (.aload_n 0, 1) := by decide +kernel
theorem dX7_count_81 : decode cX7_count 81 = .ok (.getfield 19, 3) := by decide +kernel
theorem dX7_count_84 : decode cX7_count 84 = .ok (.getfield 117, 3) := by decide +kernel
theorem dX7_count_87 : decode cX7_count 87 = .ok (.ireturn, 1) := by decide +kernel
theorem dX7_count_88 : decode cX7_count 88 = .ok (.aload_n 0, 1) := by decide +kernel
theorem dX7_count_89 : decode cX7_count 89 = .ok (.getfield 26, 3) := by decide +kernel
theorem dX7_count_92 : decode cX7_count 92 = .ok (.getfield 166, 3) := by decide +kernel
theorem dX7_count_95 : decode cX7_count 95 = .ok (.ireturn, 1) := by decide +kernel
theorem dX7_count_96 : decode cX7_count 96 = .ok (.aload_n 0, 1) := by decide +kernel
theorem dX7_count_97 : decode cX7_count 97 = .ok (.getfield 12, 3) := by decide +kernel
theorem dX7_count_100 : decode cX7_count 100 = .ok (.invokevirtual 236, 3) := by decide +kernel
theorem dX7_count_103 : decode cX7_count 103 = .ok (.ireturn, 1) := by decide +kernel
theorem dX7_count_104 : decode cX7_count 104 = .ok (.aload_n 0, 1) := by decide +kernel
theorem dX7_count_105 : decode cX7_count 105 = .ok (.getfield 51, 3) := by decide +kernel
theorem dX7_count_108 : decode cX7_count 108 = .ok (.getfield 210, 3) := by decide +kernel
theorem dX7_count_111 : decode cX7_count 111 = .ok (.ireturn, 1) := by decide +kernel
theorem dX7_count_112 : decode cX7_count 112 = .ok (.new 83, 3) := by decide +kernel
theorem dX7_count_115 : decode cX7_count 115 = .ok (.dup, 1) := by decide +kernel
theorem dX7_count_116 : decode cX7_count 116 = .ok (.ldc 187, 2) := by decide +kernel
theorem dX7_count_118 : decode cX7_count 118 = .ok (.invokespecial 87, 3) := by decide +kernel
theorem dX7_count_121 : decode cX7_count 121 = .ok (.athrow, 1) := by decide +kernel
theorem dX7_clear_0 : decode cX7_clear 0 = .ok (.aload_n 0, 1) := by decide +kernel
theorem dX7_clear_1 : decode cX7_clear 1 = .ok (.getfield 12, 3) := by decide +kernel
theorem dX7_clear_4 : decode cX7_clear 4 = .ok (.invokevirtual 239, 3) := by decide +kernel
theorem dX7_clear_7 : decode cX7_clear 7 = .ok (.aload_n 0, 1) := by decide +kernel
theorem dX7_clear_8 : decode cX7_clear 8 = .ok (.getfield 19, 3) := by decide +kernel
theorem dX7_clear_11 : decode cX7_clear 11 = .ok (.iconst 0, 1) := by decide +kernel
theorem dX7_clear_12 : decode cX7_clear 12 = .ok (.putfield 117, 3) := by decide +kernel
theorem dX7_clear_15 : decode cX7_clear 15 = .ok (.aload_n 0, 1) := by decide +kernel
theorem dX7_clear_16 : decode cX7_clear 16 = .ok (.getfield 26, 3) := by decide +kernel
theorem dX7_clear_19 : decode cX7_clear 19 = .ok (.iconst 0, 1) := by decide +kernel
theorem dX7_clear_20 : decode cX7_clear 20 = .ok (.putfield 166, 3) := by decide +kernel
theorem dX7_clear_23 : decode cX7_clear 23 = .ok (.aload_n 0, 1) := by decide +kernel
theorem dX7_clear_24 : decode cX7_clear 24 = .ok (.getfield 51, 3) := by decide +kernel
theorem dX7_clear_27 : decode cX7_clear 27 = .ok (.iconst 0, 1) := by decide +kernel
theorem dX7_clear_28 : decode cX7_clear 28 = .ok (.putfield 210, 3) := by decide +kernel
theorem dX7_clear_31 : decode cX7_clear 31 = .ok (.aload_n 0, 1) := by decide +kernel
theorem dX7_clear_32 : decode cX7_clear 32 = .ok (.iconst (-1), 1) := by decide +kernel
theorem dX7_clear_33 : decode cX7_clear 33 = .ok (.putfield 55, 3) := by decide +kernel
theorem dX7_clear_36 : decode cX7_clear 36 = .ok (.return_, 1) := by decide +kernel
theorem dX7_isTooFar_0 : decode cX7_isTooFar 0 = .ok (.lload_n 0, 1) := by decide +kernel
theorem dX7_isTooFar_1 : decode cX7_isTooFar 1 = .ok (.ldc2_w 242, 3) := by decide +kernel
theorem dX7_isTooFar_4 : decode cX7_isTooFar 4 = .ok (.lcmp, 1) := by decide +kernel
theorem dX7_isTooFar_5 : decode cX7_isTooFar 5 = .ok (.ifCond .lt 11, 3) := by decide +kernel
theorem dX7_isTooFar_8 : decode cX7_isTooFar 8 = .ok (.lload_n 0, 1) := by decide +kernel
theorem dX7_isTooFar_9 : decode cX7_isTooFar 9 = .ok (.ldc2_w 244, 3) := by decide +kernel
theorem dX7_isTooFar_12 : decode cX7_isTooFar 12 = .ok (.lcmp, 1) := by decide +kernel
theorem dX7_isTooFar_13 : decode cX7_isTooFar 13 = .ok (.ifCond .le 7, 3) := by decide +kernel
theorem dX7_isTooFar_16 : decode cX7_isTooFar 16 = .ok (.iconst 1, 1) := by decide +kernel
theorem dX7_isTooFar_17 : decode cX7_isTooFar 17 = .ok (.goto 4, 3) := by decide +kernel
theorem dX7_isTooFar_20 : decode cX7_isTooFar 20 = .ok (.iconst 0, 1) := by decide +kernel
theorem dX7_isTooFar_21 : decode cX7_isTooFar 21 = .ok (.ireturn, 1) := by decide +kernel
theorem dX7_column_0 : decode cX7_column 0 = .ok (.aload_n 0, 1) := by decide +kernel
theorem dX7_column_1 : decode cX7_column 1 = .ok (.iload_n 1, 1) := by decide +kernel
theorem dX7_column_2 : decode cX7_column 2 = .ok (.iconst 1, 1) := by decide +kernel
theorem dX7_column_3 : decode cX7_column 3 = .ok (.ishr, 1) := by decide +kernel
theorem dX7_column_4 : decode cX7_column 4 = .ok (.iaload, 1) := by decide +kernel
theorem dX7_column_5 : decode cX7_column 5 = .ok (.iload_n 1, 1) := by decide +kernel
theorem dX7_column_6 : decode cX7_column 6 = .ok (.iconst 1, 1) := by decide +kernel
theorem dX7_column_7 : decode cX7_column 7 = .ok (.iand, 1) := by decide +kernel
theorem dX7_column_8 : decode cX7_column 8 = .ok (.ineg, 1) := by decide +kernel
theorem dX7_column_9 : decode cX7_column 9 = .ok (.ixor, 1) := by decide +kernel
theorem dX7_column_10 : decode cX7_column 10 = .ok (.ireturn, 1) := by decide +kernel
theorem dX7_leastBit_0 : decode cX7_leastBit 0 = .ok (.iconst 0, 1) := by decide +kernel
theorem dX7_leastBit_1 : decode cX7_leastBit 1 = .ok (.istore_n 1, 1) := by decide +kernel
theorem dX7_leastBit_2 : decode cX7_leastBit 2 = .ok (.iload_n 1, 1) := by decide +kernel
theorem dX7_leastBit_3 : decode cX7_leastBit 3 = .ok (.bipush 32, 2) := by decide +kernel
theorem dX7_leastBit_5 : decode cX7_leastBit 5 = .ok (.if_icmp .ge 20, 3) := by decide +kernel
theorem dX7_leastBit_8 : decode cX7_leastBit 8 = .ok (.iload_n 0, 1) := by decide +kernel
theorem dX7_leastBit_9 : decode cX7_leastBit 9 = .ok (.iload_n 1, 1) := by decide +kernel
theorem dX7_leastBit_10 : decode cX7_leastBit 10 = .ok (.iushr, 1) := by decide +kernel
theorem dX7_leastBit_11 : decode cX7_leastBit 11 = .ok (.iconst 1, 1) := by decide +kernel
theorem dX7_leastBit_12 : decode cX7_leastBit 12 = .ok (.iand, 1) := by decide +kernel
theorem dX7_leastBit_13 : decode cX7_leastBit 13 = .ok (.iconst 1, 1) := by decide +kernel
theorem dX7_leastBit_14 : decode cX7_leastBit 14 = .ok (.if_icmp .ne 5, 3) := by decide +kernel
theorem dX7_leastBit_17 : decode cX7_leastBit 17 = .ok (.iload_n 1, 1) := by decide +kernel
theorem dX7_leastBit_18 : decode cX7_leastBit 18 = .ok (.ireturn, 1) := by decide +kernel
theorem dX7_leastBit_19 : decode cX7_leastBit 19 = .ok (.iinc 1 1, 3) := by decide +kernel
theorem dX7_leastBit_22 : decode cX7_leastBit 22 = .ok (.goto (-20), 3) := by decide +kernel
theorem dX7_leastBit_25 : decode cX7_leastBit 25 = .ok (.iconst (-1), 1) := by decide +kernel
theorem dX7_leastBit_26 : decode cX7_leastBit 26 = .ok (.ireturn, 1) := by decide +kernel
theorem dX8_init_0 : decode cX8_init 0 = .ok (.aload_n 0, 1) := by decide +kernel
theorem dX8_init_1 : decode cX8_init 1 = .ok (.invokespecial 1, 3) := by decide +kernel
theorem dX8_init_4 : decode cX8_init 4 = .ok (.aload_n 0, 1) := by decide +kernel
theorem dX8_init_5 : decode cX8_init 5 = .ok (.bipush 40, 2) := by decide +kernel
theorem dX8_init_7 : decode cX8_init 7 = .ok (.newarray .int, 2) := by decide +kernel
theorem dX8_init_9 : decode cX8_init 9 = .ok (.putfield 7, 3) := by decide +kernel
theorem dX8_init_12 : decode cX8_init 12 = .ok (.aload_n 0, 1) := by decide +kernel
theorem dX8_init_13 : decode cX8_init 13 = .ok (.bipush 40, 2) := by decide +kernel
theorem dX8_init_15 : decode cX8_init 15 = .ok (.newarray .int, 2) := by decide +kernel
theorem dX8_init_17 : decode cX8_init 17 = .ok (.putfield 13, 3) := by decide +kernel
theorem dX8_init_20 : decode cX8_init 20 = .ok (.aload_n 0, 1) := by decide +kernel
theorem dX8_init_21 : decode cX8_init 21 = .ok (.bipush 40, 2) := by decide +kernel
theorem dX8_init_23 : decode cX8_init 23 = .ok (.newarray .int, 2) := by decide +kernel
theorem dX8_init_25 : decode cX8_init 25 = .ok (.putfield 16, 3) := by decide +kernel
theorem dX8_init_28 : decode cX8_init 28 = .ok (.aload_n 0, 1) := by decide +kernel
theorem dX8_init_29 : decode cX8_init 29 = .ok (.bipush 40, 2) := by decide +kernel
theorem dX8_init_31 : decode cX8_init 31 = .ok (.newarray .int, 2) := by decide +kernel
theorem dX8_init_33 : decode cX8_init 33 = .ok (.putfield 19, 3) := by decide +kernel
theorem dX8_init_36 : decode cX8_init 36 = .ok (.aload_n 0, 1) := by decide +kernel
theorem dX8_init_37 : decode cX8_init 37 = .ok (.bipush 40, 2) := by decide +kernel
theorem dX8_init_39 : decode cX8_init 39 = .ok (.newarray .boolean, 2) := by decide +kernel
theorem dX8_init_41 : decode cX8_init 41 = .ok (.putfield 22, 3) := by decide +kernel
theorem dX8_init_44 : decode cX8_init 44 = .ok (.aload_n 0, 1) := by decide +kernel
theorem dX8_init_45 : decode cX8_init 45 = .ok (.bipush 40, 2) := by decide +kernel
theorem dX8_init_47 : decode cX8_init 47 = .ok (.newarray .long, 2) := by decide +kernel
theorem dX8_init_49 : decode cX8_init 49 = .ok (.putfield 26, 3) := by decide +kernel
theorem dX8_init_52 : decode cX8_init 52 = .ok (.aload_n 0, 1) := by decide +kernel
theorem dX8_init_53 : decode cX8_init 53 = .ok (.bipush 40, 2) := by decide +kernel
theorem dX8_init_55 : decode cX8_init 55 = .ok (.newarray .long, 2) := by decide +kernel
theorem dX8_init_57 : decode cX8_init 57 = .ok (.putfield 30, 3) := by decide +kernel
theorem dX8_init_60 : decode cX8_init 60 = .ok (.aload_n 0, 1) := by decide +kernel
theorem dX8_init_61 : decode cX8_init 61 = .ok (.iconst 4, 1) := by decide +kernel
theorem dX8_init_62 : decode cX8_init 62 = .ok (.newarray .int, 2) := by decide +kernel
theorem dX8_init_64 : decode cX8_init 64 = .ok (.putfield 33, 3) := by decide +kernel
theorem dX8_init_67 : decode cX8_init 67 = .ok (.aload_n 0, 1) := by decide +kernel
theorem dX8_init_68 : decode cX8_init 68 = .ok (.iconst 4, 1) := by decide +kernel
theorem dX8_init_69 : decode cX8_init 69 = .ok (.newarray .int, 2) := by decide +kernel
theorem dX8_init_71 : decode cX8_init 71 = .ok (.putfield 36, 3) := by decide +kernel
theorem dX8_init_74 : decode cX8_init 74 = .ok (.aload_n 0, 1) := by decide +kernel
theorem dX8_init_75 : decode cX8_init 75 = .ok (.bipush 6, 2) := by decide +kernel
theorem dX8_init_77 : decode cX8_init 77 = .ok (.newarray .long, 2) := by decide +kernel
theorem dX8_init_79 : decode cX8_init 79 = .ok (.putfield 39, 3) := by decide +kernel
theorem dX8_init_82 : decode cX8_init 82 = .ok (.aload_n 0, 1) := by decide +kernel
theorem dX8_init_83 : decode cX8_init 83 = .ok (.bipush 6, 2) := by decide +kernel
theorem dX8_init_85 : decode cX8_init 85 = .ok (.newarray .long, 2) := by decide +kernel
theorem dX8_init_87 : decode cX8_init 87 = .ok (.putfield 42, 3) := by decide +kernel
theorem dX8_init_90 : decode cX8_init 90 = .ok (.aload_n 0, 1) := by decide +kernel
theorem dX8_init_91 : decode cX8_init 91 = .ok (.iconst 2, 1) := by decide +kernel
theorem dX8_init_92 : decode cX8_init 92 = .ok (.newarray .int, 2) := by decide +kernel
theorem dX8_init_94 : decode cX8_init 94 = .ok (.putfield 45, 3) := by decide +kernel
theorem dX8_init_97 : decode cX8_init 97 = .ok (.aload_n 0, 1) := by decide +kernel
theorem dX8_init_98 : decode cX8_init 98 = .ok (.iconst 2, 1) := by decide +kernel
theorem dX8_init_99 : decode cX8_init 99 = .ok (.newarray .int, 2) := by decide +kernel
theorem dX8_init_101 : decode cX8_init 101 = .ok (.putfield 48, 3) := by decide +kernel
theorem dX8_init_104 : decode cX8_init 104 = .ok (.aload_n 0, 1) := by decide +kernel
theorem dX8_init_105 : decode cX8_init 105 = .ok (.iconst 2, 1) := by decide +kernel
theorem dX8_init_106 : decode cX8_init 106 = .ok (.newarray .int, 2) := by decide +kernel
theorem dX8_init_108 : decode cX8_init 108 = .ok (.putfield 51, 3) := by decide +kernel
theorem dX8_init_111 : decode cX8_init 111 = .ok (.aload_n 0, 1) := by decide +kernel
theorem dX8_init_112 : decode cX8_init 112 = .ok (.iconst 2, 1) := by decide +kernel
theorem dX8_init_113 : decode cX8_init 113 = .ok (.newarray .int, 2) := by decide +kernel
theorem dX8_init_115 : decode cX8_init 115 = .ok (.putfield 54, 3) := by decide +kernel
theorem dX8_init_118 : decode cX8_init 118 = .ok (.aload_n 0, 1) := by decide +kernel
theorem dX8_init_119 : decode cX8_init 119 = .ok (.bipush 20, 2) := by decide +kernel
theorem dX8_init_121 : decode cX8_init 121 = .ok (.newarray .int, 2) := by decide +kernel
theorem dX8_init_123 : decode cX8_init 123 = .ok (.putfield 57, 3) := by decide +kernel
theorem dX8_init_126 : decode cX8_init 126 = .ok (.aload_n 0, 1) := by decide +kernel
theorem dX8_init_127 : decode cX8_init 127 = .ok (.bipush 40, 2) := by decide +kernel
theorem dX8_init_129 : decode cX8_init 129 = .ok (.newarray .int, 2) := by decide +kernel
theorem dX8_init_131 : decode cX8_init 131 = .ok (.putfield 60, 3) := by decide +kernel
theorem dX8_init_134 : decode cX8_init 134 = .ok (.aload_n 0, 1) := by decide +kernel
theorem dX8_init_135 : decode cX8_init 135 = .ok (.bipush 40, 2) := by decide +kernel
theorem dX8_init_137 : decode cX8_init 137 = .ok (.newarray .int, 2) := by decide +kernel
theorem dX8_init_139 : decode cX8_init 139 = .ok (.putfield 63, 3) := by decide +kernel
theorem dX8_init_142 : decode cX8_init 142 = .ok (.aload_n 0, 1) := by decide +kernel
theorem dX8_init_143 : decode cX8_init 143 = .ok (.bipush 40, 2) := by decide +kernel
theorem dX8_init_145 : decode cX8_init 145 = .ok (.newarray .int, 2) := by decide +kernel
theorem dX8_init_147 : decode cX8_init 147 = .ok (.putfield 66, 3) := by decide +kernel
theorem dX8_init_150 : decode cX8_init 150 = .ok (.aload_n 0, 1) := by decide +kernel
theorem dX8_init_151 : decode cX8_init 151 = .ok (.invokevirtual 69, 3) := by decide +kernel
theorem dX8_init_154 : decode cX8_init 154 = .ok (.return_, 1) := by decide +kernel
theorem dX8_thrown_0 : decode cX8_thrown 0 = .ok (.aload_n 0, 1) := by decide +kernel
theorem dX8_thrown_1 : decode cX8_thrown 1 = .ok (.getfield 72, 3) := by decide +kernel
theorem dX8_thrown_4 : decode cX8_thrown 4 = .ok (.ireturn, 1) := by decide +kernel
theorem dX8_isIn_0 : decode cX8_isIn 0 = .ok (.iload_n 0, 1) := by decide +kernel
theorem dX8_isIn_1 : decode cX8_isIn 1 = .ok (.ifCond .lt 12, 3) := by decide +kernel
theorem dX8_isIn_4 : decode cX8_isIn 4 = .ok (.iload_n 0, 1) := by decide +kernel
theorem dX8_isIn_5 : decode cX8_isIn 5 = .ok (.iload_n 1, 1) := by decide +kernel
theorem dX8_isIn_6 : decode cX8_isIn 6 = .ok (.if_icmp .ge 7, 3) := by decide +kernel
theorem dX8_isIn_9 : decode cX8_isIn 9 = .ok (.iconst 1, 1) := by decide +kernel
theorem dX8_isIn_10 : decode cX8_isIn 10 = .ok (.goto 4, 3) := by decide +kernel
theorem dX8_isIn_13 : decode cX8_isIn 13 = .ok (.iconst 0, 1) := by decide +kernel
theorem dX8_isIn_14 : decode cX8_isIn 14 = .ok (.ireturn, 1) := by decide +kernel
theorem dX8_isLiteral_0 : decode cX8_isLiteral 0 = .ok (.iload_n 1, 1) := by decide +kernel
theorem dX8_isLiteral_1 : decode cX8_isLiteral 1 = .ok (.iconst 2, 1) := by decide +kernel
theorem dX8_isLiteral_2 : decode cX8_isLiteral 2 = .ok (.aload_n 0, 1) := by decide +kernel
theorem dX8_isLiteral_3 : decode cX8_isLiteral 3 = .ok (.getfield 76, 3) := by decide +kernel
theorem dX8_isLiteral_6 : decode cX8_isLiteral 6 = .ok (.imul, 1) := by decide +kernel
theorem dX8_isLiteral_7 : decode cX8_isLiteral 7 = .ok (.invokestatic 79, 3) := by decide +kernel
theorem dX8_isLiteral_10 : decode cX8_isLiteral 10 = .ok (.ireturn, 1) := by decide +kernel
theorem dX8_isOf_0 : decode cX8_isOf 0 = .ok (.aload_n 0, 1) := by decide +kernel
theorem dX8_isOf_1 : decode cX8_isOf 1 = .ok (.getfield 7, 3) := by decide +kernel
theorem dX8_isOf_4 : decode cX8_isOf 4 = .ok (.iload_n 1, 1) := by decide +kernel
theorem dX8_isOf_5 : decode cX8_isOf 5 = .ok (.iconst 2, 1) := by decide +kernel
theorem dX8_isOf_6 : decode cX8_isOf 6 = .ok (.idiv, 1) := by decide +kernel
theorem dX8_isOf_7 : decode cX8_isOf 7 = .ok (.iaload, 1) := by decide +kernel
theorem dX8_isOf_8 : decode cX8_isOf 8 = .ok (.iload_n 2, 1) := by decide +kernel
theorem dX8_isOf_9 : decode cX8_isOf 9 = .ok (.if_icmp .ne 7, 3) := by decide +kernel
theorem dX8_isOf_12 : decode cX8_isOf 12 = .ok (.iconst 1, 1) := by decide +kernel
theorem dX8_isOf_13 : decode cX8_isOf 13 = .ok (.goto 4, 3) := by decide +kernel
theorem dX8_isOf_16 : decode cX8_isOf 16 = .ok (.iconst 0, 1) := by decide +kernel
theorem dX8_isOf_17 : decode cX8_isOf 17 = .ok (.ireturn, 1) := by decide +kernel
theorem dX8_table_0 : decode cX8_table 0 = .ok (.aload_n 0, 1) := by decide +kernel
theorem dX8_table_1 : decode cX8_table 1 = .ok (.getfield 19, 3) := by decide +kernel
theorem dX8_table_4 : decode cX8_table 4 = .ok (.iload_n 1, 1) := by decide +kernel
theorem dX8_table_5 : decode cX8_table 5 = .ok (.iconst 2, 1) := by decide +kernel
theorem dX8_table_6 : decode cX8_table 6 = .ok (.idiv, 1) := by decide +kernel
theorem dX8_table_7 : decode cX8_table 7 = .ok (.iaload, 1) := by decide +kernel
theorem dX8_table_8 : decode cX8_table 8 = .ok (.istore_n 2, 1) := by decide +kernel
theorem dX8_table_9 : decode cX8_table 9 = .ok (.iload_n 1, 1) := by decide +kernel
theorem dX8_table_10 : decode cX8_table 10 = .ok (.iconst 1, 1) := by decide +kernel
theorem dX8_table_11 : decode cX8_table 11 = .ok (.iand, 1) := by decide +kernel
theorem dX8_table_12 : decode cX8_table 12 = .ok (.iconst 1, 1) := by decide +kernel
theorem dX8_table_13 : decode cX8_table 13 = .ok (.if_icmp .ne 9, 3) := by decide +kernel
theorem dX8_table_16 : decode cX8_table 16 = .ok (.iload_n 2, 1) := by decide +kernel
theorem dX8_table_17 : decode cX8_table 17 = .ok (.iconst (-1), 1) := by decide +kernel
theorem dX8_table_18 : decode cX8_table 18 = .ok (.ixor, 1) := by decide +kernel
theorem dX8_table_19 : decode cX8_table 19 = .ok (.goto 4, 3) := by decide +kernel
theorem dX8_table_22 : decode cX8_table 22 = .ok (.iload_n 2, 1) := by decide +kernel
theorem dX8_table_23 : decode cX8_table 23 = .ok (.ireturn, 1) := by decide +kernel
theorem dX8_work_0 : decode cX8_work 0 = .ok (.aload_n 0, 1) := by decide +kernel
theorem dX8_work_1 : decode cX8_work 1 = .ok (.getfield 7, 3) := by decide +kernel
theorem dX8_work_4 : decode cX8_work 4 = .ok (.iload_n 1, 1) := by decide +kernel
theorem dX8_work_5 : decode cX8_work 5 = .ok (.iaload, 1) := by decide +kernel
theorem dX8_work_6 : decode cX8_work 6 = .ok (.iconst 2, 1) := by decide +kernel
theorem dX8_work_7 : decode cX8_work 7 = .ok (.if_icmp .eq 13, 3) := by decide +kernel
theorem dX8_work_10 : decode cX8_work 10 = .ok (.aload_n 0, 1) := by decide +kernel
theorem dX8_work_11 : decode cX8_work 11 = .ok (.getfield 7, 3) := by decide +kernel
theorem dX8_work_14 : decode cX8_work 14 = .ok (.iload_n 1, 1) := by decide +kernel
theorem dX8_work_15 : decode cX8_work 15 = .ok (.iaload, 1) := by decide +kernel
theorem dX8_work_16 : decode cX8_work 16 = .ok (.iconst 3, 1) := by decide +kernel
theorem dX8_work_17 : decode cX8_work 17 = .ok (.if_icmp .ne 30, 3) := by decide +kernel
theorem dX8_work_20 : decode cX8_work 20 = .ok (.aload_n 0, 1) := by decide +kernel
theorem dX8_work_21 : decode cX8_work 21 = .ok (.getfield 19, 3) := by decide +kernel
theorem dX8_work_24 : decode cX8_work 24 = .ok (.iload_n 1, 1) := by decide +kernel
theorem dX8_work_25 : decode cX8_work 25 = .ok (.aload_n 0, 1) := by decide +kernel
theorem dX8_work_26 : decode cX8_work 26 = .ok (.aload_n 0, 1) := by decide +kernel
theorem dX8_work_27 : decode cX8_work 27 = .ok (.getfield 13, 3) := by decide +kernel
theorem dX8_work_30 : decode cX8_work 30 = .ok (.iload_n 1, 1) := by decide +kernel
theorem dX8_work_31 : decode cX8_work 31 = .ok (.iaload, 1) := by decide +kernel
theorem dX8_work_32 : decode cX8_work 32 = .ok (.invokevirtual 83, 3) := by decide +kernel
theorem dX8_work_35 : decode cX8_work 35 = .ok (.aload_n 0, 1) := by decide +kernel
theorem dX8_work_36 : decode cX8_work 36 = .ok (.aload_n 0, 1) := by decide +kernel
theorem dX8_work_37 : decode cX8_work 37 = .ok (.getfield 16, 3) := by decide +kernel
theorem dX8_work_40 : decode cX8_work 40 = .ok (.iload_n 1, 1) := by decide +kernel
theorem dX8_work_41 : decode cX8_work 41 = .ok (.iaload, 1) := by decide +kernel
theorem dX8_work_42 : decode cX8_work 42 = .ok (.invokevirtual 83, 3) := by decide +kernel
theorem dX8_work_45 : decode cX8_work 45 = .ok (.iand, 1) := by decide +kernel
theorem dX8_work_46 : decode cX8_work 46 = .ok (.iastore, 1) := by decide +kernel
theorem dX8_work_47 : decode cX8_work 47 = .ok (.return_, 1) := by decide +kernel
theorem dX8_workOlds_0 : decode cX8_workOlds 0 = .ok (.iload_n 1, 1) := by decide +kernel
theorem dX8_workOlds_1 : decode cX8_workOlds 1 = .ok (.istore_n 2, 1) := by decide +kernel
theorem dX8_workOlds_2 : decode cX8_workOlds 2 = .ok (.iload_n 2, 1) := by decide +kernel
theorem dX8_workOlds_3 : decode cX8_workOlds 3 = .ok (.aload_n 0, 1) := by decide +kernel
theorem dX8_workOlds_4 : decode cX8_workOlds 4 = .ok (.getfield 76, 3) := by decide +kernel
theorem dX8_workOlds_7 : decode cX8_workOlds 7 = .ok (.if_icmp .ge 24, 3) := by decide +kernel
theorem dX8_workOlds_10 : decode cX8_workOlds 10 = .ok (.aload_n 0, 1) := by decide +kernel
theorem dX8_workOlds_11 : decode cX8_workOlds 11 = .ok (.getfield 7, 3) := by decide +kernel
theorem dX8_workOlds_14 : decode cX8_workOlds 14 = .ok (.iload_n 2, 1) := by decide +kernel
theorem dX8_workOlds_15 : decode cX8_workOlds 15 = .ok (.iaload, 1) := by decide +kernel
theorem dX8_workOlds_16 : decode cX8_workOlds 16 = .ok (.iconst 2, 1) := by decide +kernel
theorem dX8_workOlds_17 : decode cX8_workOlds 17 = .ok (.if_icmp .ne 8, 3) := by decide +kernel
theorem dX8_workOlds_20 : decode cX8_workOlds 20 = .ok (.aload_n 0, 1) := by decide +kernel
theorem dX8_workOlds_21 : decode cX8_workOlds 21 = .ok (.iload_n 2, 1) := by decide +kernel
theorem dX8_workOlds_22 : decode cX8_workOlds 22 = .ok (.invokevirtual 87, 3) := by decide +kernel
theorem dX8_workOlds_25 : decode cX8_workOlds 25 = .ok (.iinc 2 1, 3) := by decide +kernel
theorem dX8_workOlds_28 : decode cX8_workOlds 28 = .ok (.goto (-26), 3) := by decide +kernel
theorem dX8_workOlds_31 : decode cX8_workOlds 31 = .ok (.return_, 1) := by decide +kernel
theorem dX8_isApart_0 : decode cX8_isApart 0 = .ok (.aload_n 0, 1) := by decide +kernel
theorem dX8_isApart_1 : decode cX8_isApart 1 = .ok (.aload_n 0, 1) := by decide +kernel
theorem dX8_isApart_2 : decode cX8_isApart 2 = .ok (.getfield 33, 3) := by decide +kernel
theorem dX8_isApart_5 : decode cX8_isApart 5 = .ok (.iload_n 1, 1) := by decide +kernel
theorem dX8_isApart_6 : decode cX8_isApart 6 = .ok (.iaload, 1) := by decide +kernel
theorem dX8_isApart_7 : decode cX8_isApart 7 = .ok (.invokevirtual 83, 3) := by decide +kernel
theorem dX8_isApart_10 : decode cX8_isApart 10 = .ok (.aload_n 0, 1) := by decide +kernel
theorem dX8_isApart_11 : decode cX8_isApart 11 = .ok (.aload_n 0, 1) := by decide +kernel
theorem dX8_isApart_12 : decode cX8_isApart 12 = .ok (.getfield 36, 3) := by decide +kernel
theorem dX8_isApart_15 : decode cX8_isApart 15 = .ok (.iload_n 1, 1) := by decide +kernel
theorem dX8_isApart_16 : decode cX8_isApart 16 = .ok (.iaload, 1) := by decide +kernel
theorem dX8_isApart_17 : decode cX8_isApart 17 = .ok (.invokevirtual 83, 3) := by decide +kernel
theorem dX8_isApart_20 : decode cX8_isApart 20 = .ok (.if_icmp .eq 7, 3) := by decide +kernel
theorem dX8_isApart_23 : decode cX8_isApart 23 = .ok (.iconst 1, 1) := by decide +kernel
theorem dX8_isApart_24 : decode cX8_isApart 24 = .ok (.goto 4, 3) := by decide +kernel
theorem dX8_isApart_27 : decode cX8_isApart 27 = .ok (.iconst 0, 1) := by decide +kernel
theorem dX8_isApart_28 : decode cX8_isApart 28 = .ok (.ireturn, 1) := by decide +kernel
theorem dX8_apart_0 : decode cX8_apart 0 = .ok (.iconst 0, 1) := by decide +kernel
theorem dX8_apart_1 : decode cX8_apart 1 = .ok (.istore_n 1, 1) := by decide +kernel
theorem dX8_apart_2 : decode cX8_apart 2 = .ok (.iconst 0, 1) := by decide +kernel
theorem dX8_apart_3 : decode cX8_apart 3 = .ok (.istore_n 2, 1) := by decide +kernel
theorem dX8_apart_4 : decode cX8_apart 4 = .ok (.iload_n 2, 1) := by decide +kernel
theorem dX8_apart_5 : decode cX8_apart 5 = .ok (.aload_n 0, 1) := by decide +kernel
theorem dX8_apart_6 : decode cX8_apart 6 = .ok (.getfield 91, 3) := by decide +kernel
theorem dX8_apart_9 : decode cX8_apart 9 = .ok (.if_icmp .ge 25, 3) := by decide +kernel
theorem dX8_apart_12 : decode cX8_apart 12 = .ok (.aload_n 0, 1) := by decide +kernel
theorem dX8_apart_13 : decode cX8_apart 13 = .ok (.iload_n 2, 1) := by decide +kernel
theorem dX8_apart_14 : decode cX8_apart 14 = .ok (.invokevirtual 94, 3) := by decide +kernel
theorem dX8_apart_17 : decode cX8_apart 17 = .ok (.ifCond .eq 9, 3) := by decide +kernel
theorem dX8_apart_20 : decode cX8_apart 20 = .ok (.iload_n 1, 1) := by decide +kernel
theorem dX8_apart_21 : decode cX8_apart 21 = .ok (.iconst 1, 1) := by decide +kernel
theorem dX8_apart_22 : decode cX8_apart 22 = .ok (.iadd, 1) := by decide +kernel
theorem dX8_apart_23 : decode cX8_apart 23 = .ok (.goto 4, 3) := by decide +kernel
theorem dX8_apart_26 : decode cX8_apart 26 = .ok (.iload_n 1, 1) := by decide +kernel
theorem dX8_apart_27 : decode cX8_apart 27 = .ok (.istore_n 1, 1) := by decide +kernel
theorem dX8_apart_28 : decode cX8_apart 28 = .ok (.iinc 2 1, 3) := by decide +kernel
theorem dX8_apart_31 : decode cX8_apart 31 = .ok (.goto (-27), 3) := by decide +kernel
theorem dX8_apart_34 : decode cX8_apart 34 = .ok (.iload_n 1, 1) := by decide +kernel
theorem dX8_apart_35 : decode cX8_apart 35 = .ok (.ireturn, 1) := by decide +kernel
theorem dX8_put_0 : decode cX8_put 0 = .ok (.aload_n 0, 1) := by decide +kernel
theorem dX8_put_1 : decode cX8_put 1 = .ok (.getfield 7, 3) := by decide +kernel
theorem dX8_put_4 : decode cX8_put 4 = .ok (.aload_n 0, 1) := by decide +kernel
theorem dX8_put_5 : decode cX8_put 5 = .ok (.getfield 76, 3) := by decide +kernel
theorem dX8_put_8 : decode cX8_put 8 = .ok (.iload_n 1, 1) := by decide +kernel
theorem dX8_put_9 : decode cX8_put 9 = .ok (.iastore, 1) := by decide +kernel
theorem dX8_put_10 : decode cX8_put 10 = .ok (.aload_n 0, 1) := by decide +kernel
theorem dX8_put_11 : decode cX8_put 11 = .ok (.getfield 13, 3) := by decide +kernel
theorem dX8_put_14 : decode cX8_put 14 = .ok (.aload_n 0, 1) := by decide +kernel
theorem dX8_put_15 : decode cX8_put 15 = .ok (.getfield 76, 3) := by decide +kernel
theorem dX8_put_18 : decode cX8_put 18 = .ok (.iload_n 2, 1) := by decide +kernel
theorem dX8_put_19 : decode cX8_put 19 = .ok (.iastore, 1) := by decide +kernel
theorem dX8_put_20 : decode cX8_put 20 = .ok (.aload_n 0, 1) := by decide +kernel
theorem dX8_put_21 : decode cX8_put 21 = .ok (.getfield 16, 3) := by decide +kernel
theorem dX8_put_24 : decode cX8_put 24 = .ok (.aload_n 0, 1) := by decide +kernel
theorem dX8_put_25 : decode cX8_put 25 = .ok (.getfield 76, 3) := by decide +kernel
theorem dX8_put_28 : decode cX8_put 28 = .ok (.iload_n 3, 1) := by decide +kernel
theorem dX8_put_29 : decode cX8_put 29 = .ok (.iastore, 1) := by decide +kernel
theorem dX8_put_30 : decode cX8_put 30 = .ok (.aload_n 0, 1) := by decide +kernel
theorem dX8_put_31 : decode cX8_put 31 = .ok (.getfield 22, 3) := by decide +kernel
theorem dX8_put_34 : decode cX8_put 34 = .ok (.aload_n 0, 1) := by decide +kernel
theorem dX8_put_35 : decode cX8_put 35 = .ok (.getfield 76, 3) := by decide +kernel
theorem dX8_put_38 : decode cX8_put 38 = .ok (.iconst 0, 1) := by decide +kernel
theorem dX8_put_39 : decode cX8_put 39 = .ok (.bastore, 1) := by decide +kernel
theorem dX8_put_40 : decode cX8_put 40 = .ok (.aload_n 0, 1) := by decide +kernel
theorem dX8_put_41 : decode cX8_put 41 = .ok (.getfield 26, 3) := by decide +kernel
theorem dX8_put_44 : decode cX8_put 44 = .ok (.aload_n 0, 1) := by decide +kernel
theorem dX8_put_45 : decode cX8_put 45 = .ok (.getfield 76, 3) := by decide +kernel
theorem dX8_put_48 : decode cX8_put 48 = .ok (.lconst 0, 1) := by decide +kernel
theorem dX8_put_49 : decode cX8_put 49 = .ok (.lastore, 1) := by decide +kernel
theorem dX8_put_50 : decode cX8_put 50 = .ok (.aload_n 0, 1) := by decide +kernel
theorem dX8_put_51 : decode cX8_put 51 = .ok (.getfield 30, 3) := by decide +kernel
theorem dX8_put_54 : decode cX8_put 54 = .ok (.aload_n 0, 1) := by decide +kernel
theorem dX8_put_55 : decode cX8_put 55 = .ok (.getfield 76, 3) := by decide +kernel
theorem dX8_put_58 : decode cX8_put 58 = .ok (.lconst 0, 1) := by decide +kernel
theorem dX8_put_59 : decode cX8_put 59 = .ok (.lastore, 1) := by decide +kernel
theorem dX8_put_60 : decode cX8_put 60 = .ok (.aload_n 0, 1) := by decide +kernel
theorem dX8_put_61 : decode cX8_put 61 = .ok (.aload_n 0, 1) := by decide +kernel
theorem dX8_put_62 : decode cX8_put 62 = .ok (.getfield 76, 3) := by decide +kernel
theorem dX8_put_65 : decode cX8_put 65 = .ok (.invokevirtual 87, 3) := by decide +kernel
theorem dX8_put_68 : decode cX8_put 68 = .ok (.aload_n 0, 1) := by decide +kernel
theorem dX8_put_69 : decode cX8_put 69 = .ok (.dup, 1) := by decide +kernel
theorem dX8_put_70 : decode cX8_put 70 = .ok (.getfield 76, 3) := by decide +kernel
theorem dX8_put_73 : decode cX8_put 73 = .ok (.iconst 1, 1) := by decide +kernel
theorem dX8_put_74 : decode cX8_put 74 = .ok (.iadd, 1) := by decide +kernel
theorem dX8_put_75 : decode cX8_put 75 = .ok (.putfield 76, 3) := by decide +kernel
theorem dX8_put_78 : decode cX8_put 78 = .ok (.aload_n 0, 1) := by decide +kernel
theorem dX8_put_79 : decode cX8_put 79 = .ok (.iconst 0, 1) := by decide +kernel
theorem dX8_put_80 : decode cX8_put 80 = .ok (.putfield 98, 3) := by decide +kernel
theorem dX8_put_83 : decode cX8_put 83 = .ok (.iconst 2, 1) := by decide +kernel
theorem dX8_put_84 : decode cX8_put 84 = .ok (.aload_n 0, 1) := by decide +kernel
theorem dX8_put_85 : decode cX8_put 85 = .ok (.getfield 76, 3) := by decide +kernel
theorem dX8_put_88 : decode cX8_put 88 = .ok (.imul, 1) := by decide +kernel
theorem dX8_put_89 : decode cX8_put 89 = .ok (.iconst 2, 1) := by decide +kernel
theorem dX8_put_90 : decode cX8_put 90 = .ok (.isub, 1) := by decide +kernel
theorem dX8_put_91 : decode cX8_put 91 = .ok (.ireturn, 1) := by decide +kernel
theorem dX8_input_0 : decode cX8_input 0 = .ok (.aload_n 0, 1) := by decide +kernel
theorem dX8_input_1 : decode cX8_input 1 = .ok (.aload_n 0, 1) := by decide +kernel
theorem dX8_input_2 : decode cX8_input 2 = .ok (.getfield 102, 3) := by decide +kernel
theorem dX8_input_5 : decode cX8_input 5 = .ok (.iconst 5, 1) := by decide +kernel
theorem dX8_input_6 : decode cX8_input 6 = .ok (.if_icmp .eq 15, 3) := by decide +kernel
theorem dX8_input_9 : decode cX8_input 9 = .ok (.aload_n 0, 1) := by decide +kernel
theorem dX8_input_10 : decode cX8_input 10 = .ok (.getfield 105, 3) := by decide +kernel
theorem dX8_input_13 : decode cX8_input 13 = .ok (.aload_n 0, 1) := by decide +kernel
theorem dX8_input_14 : decode cX8_input 14 = .ok (.getfield 108, 3) := by decide +kernel
theorem dX8_input_17 : decode cX8_input 17 = .ok (.iadd, 1) := by decide +kernel
theorem dX8_input_18 : decode cX8_input 18 = .ok (.ifCond .le 7, 3) := by decide +kernel
theorem dX8_input_21 : decode cX8_input 21 = .ok (.iconst 1, 1) := by decide +kernel
theorem dX8_input_22 : decode cX8_input 22 = .ok (.goto 4, 3) := by decide +kernel
theorem dX8_input_25 : decode cX8_input 25 = .ok (.iconst 0, 1) := by decide +kernel
theorem dX8_input_26 : decode cX8_input 26 = .ok (.putfield 72, 3) := by decide +kernel
theorem dX8_input_29 : decode cX8_input 29 = .ok (.aload_n 0, 1) := by decide +kernel
theorem dX8_input_30 : decode cX8_input 30 = .ok (.getfield 72, 3) := by decide +kernel
theorem dX8_input_33 : decode cX8_input 33 = .ok (.ifCond .le 5, 3) := by decide +kernel
theorem dX8_input_36 : decode cX8_input 36 = .ok (.iconst 0, 1) := by decide +kernel
theorem dX8_input_37 : decode cX8_input 37 = .ok (.ireturn, 1) := by decide +kernel
theorem dX8_input_38 : decode cX8_input 38 = .ok (.iconst 0, 1) := by decide +kernel
theorem dX8_input_39 : decode cX8_input 39 = .ok (.istore_n 1, 1) := by decide +kernel
theorem dX8_input_40 : decode cX8_input 40 = .ok (.iconst 0, 1) := by decide +kernel
theorem dX8_input_41 : decode cX8_input 41 = .ok (.istore_n 2, 1) := by decide +kernel
theorem dX8_input_42 : decode cX8_input 42 = .ok (.iload_n 2, 1) := by decide +kernel
theorem dX8_input_43 : decode cX8_input 43 = .ok (.bipush 32, 2) := by decide +kernel
theorem dX8_input_45 : decode cX8_input 45 = .ok (.if_icmp .ge 31, 3) := by decide +kernel
theorem dX8_input_48 : decode cX8_input 48 = .ok (.iload_n 2, 1) := by decide +kernel
theorem dX8_input_49 : decode cX8_input 49 = .ok (.aload_n 0, 1) := by decide +kernel
theorem dX8_input_50 : decode cX8_input 50 = .ok (.getfield 102, 3) := by decide +kernel
theorem dX8_input_53 : decode cX8_input 53 = .ok (.ishr, 1) := by decide +kernel
theorem dX8_input_54 : decode cX8_input 54 = .ok (.iconst 1, 1) := by decide +kernel
theorem dX8_input_55 : decode cX8_input 55 = .ok (.iand, 1) := by decide +kernel
theorem dX8_input_56 : decode cX8_input 56 = .ok (.iconst 1, 1) := by decide +kernel
theorem dX8_input_57 : decode cX8_input 57 = .ok (.if_icmp .ne 11, 3) := by decide +kernel
theorem dX8_input_60 : decode cX8_input 60 = .ok (.iload_n 1, 1) := by decide +kernel
theorem dX8_input_61 : decode cX8_input 61 = .ok (.iconst 1, 1) := by decide +kernel
theorem dX8_input_62 : decode cX8_input 62 = .ok (.iload_n 2, 1) := by decide +kernel
theorem dX8_input_63 : decode cX8_input 63 = .ok (.ishl, 1) := by decide +kernel
theorem dX8_input_64 : decode cX8_input 64 = .ok (.ior, 1) := by decide +kernel
theorem dX8_input_65 : decode cX8_input 65 = .ok (.goto 4, 3) := by decide +kernel
theorem dX8_input_68 : decode cX8_input 68 = .ok (.iload_n 1, 1) := by decide +kernel
theorem dX8_input_69 : decode cX8_input 69 = .ok (.istore_n 1, 1) := by decide +kernel
theorem dX8_input_70 : decode cX8_input 70 = .ok (.iinc 2 1, 3) := by decide +kernel
theorem dX8_input_73 : decode cX8_input 73 = .ok (.goto (-31), 3) := by decide +kernel
theorem dX8_input_76 : decode cX8_input 76 = .ok (.aload_n 0, 1) := by decide +kernel
theorem dX8_input_77 : decode cX8_input 77 = .ok (.getfield 19, 3) := by decide +kernel
theorem dX8_input_80 : decode cX8_input 80 = .ok (.aload_n 0, 1) := by decide +kernel
theorem dX8_input_81 : decode cX8_input 81 = .ok (.getfield 76, 3) := by decide +kernel
theorem dX8_input_84 : decode cX8_input 84 = .ok (.iload_n 1, 1) := by decide +kernel
theorem dX8_input_85 : decode cX8_input 85 = .ok (.iastore, 1) := by decide +kernel
theorem dX8_input_86 : decode cX8_input 86 = .ok (.aload_n 0, 1) := by decide +kernel
theorem dX8_input_87 : decode cX8_input 87 = .ok (.dup, 1) := by decide +kernel
theorem dX8_input_88 : decode cX8_input 88 = .ok (.getfield 102, 3) := by decide +kernel
theorem dX8_input_91 : decode cX8_input 91 = .ok (.iconst 1, 1) := by decide +kernel
theorem dX8_input_92 : decode cX8_input 92 = .ok (.iadd, 1) := by decide +kernel
theorem dX8_input_93 : decode cX8_input 93 = .ok (.putfield 102, 3) := by decide +kernel
theorem dX8_input_96 : decode cX8_input 96 = .ok (.aload_n 0, 1) := by decide +kernel
theorem dX8_input_97 : decode cX8_input 97 = .ok (.iconst 1, 1) := by decide +kernel
theorem dX8_input_98 : decode cX8_input 98 = .ok (.iconst 0, 1) := by decide +kernel
theorem dX8_input_99 : decode cX8_input 99 = .ok (.iconst 0, 1) := by decide +kernel
theorem dX8_input_100 : decode cX8_input 100 = .ok (.invokevirtual 111, 3) := by decide +kernel
theorem dX8_input_103 : decode cX8_input 103 = .ok (.ireturn, 1) := by decide +kernel
theorem dX8_old_0 : decode cX8_old 0 = .ok (.aload_n 0, 1) := by decide +kernel
theorem dX8_old_1 : decode cX8_old 1 = .ok (.iload_n 1, 1) := by decide +kernel
theorem dX8_old_2 : decode cX8_old 2 = .ok (.invokevirtual 115, 3) := by decide +kernel
theorem dX8_old_5 : decode cX8_old 5 = .ok (.ifCond .eq 15, 3) := by decide +kernel
theorem dX8_old_8 : decode cX8_old 8 = .ok (.aload_n 0, 1) := by decide +kernel
theorem dX8_old_9 : decode cX8_old 9 = .ok (.iload_n 2, 1) := by decide +kernel
theorem dX8_old_10 : decode cX8_old 10 = .ok (.invokevirtual 115, 3) := by decide +kernel
theorem dX8_old_13 : decode cX8_old 13 = .ok (.ifCond .eq 7, 3) := by decide +kernel
theorem dX8_old_16 : decode cX8_old 16 = .ok (.iconst 1, 1) := by decide +kernel
theorem dX8_old_17 : decode cX8_old 17 = .ok (.goto 4, 3) := by decide +kernel
theorem dX8_old_20 : decode cX8_old 20 = .ok (.iconst 0, 1) := by decide +kernel
theorem dX8_old_21 : decode cX8_old 21 = .ok (.istore_n 3, 1) := by decide +kernel
theorem dX8_old_22 : decode cX8_old 22 = .ok (.aload_n 0, 1) := by decide +kernel
theorem dX8_old_23 : decode cX8_old 23 = .ok (.iload_n 3, 1) := by decide +kernel
theorem dX8_old_24 : decode cX8_old 24 = .ok (.ifCond .ne 7, 3) := by decide +kernel
theorem dX8_old_27 : decode cX8_old 27 = .ok (.iconst 1, 1) := by decide +kernel
theorem dX8_old_28 : decode cX8_old 28 = .ok (.goto 39, 3) := by decide +kernel
theorem dX8_old_31 : decode cX8_old 31 = .ok (.aload_n 0, 1) := by decide +kernel
theorem dX8_old_32 : decode cX8_old 32 = .ok (.getfield 105, 3) := by decide +kernel
theorem dX8_old_35 : decode cX8_old 35 = .ok (.bipush 8, 2) := by decide +kernel
theorem dX8_old_37 : decode cX8_old 37 = .ok (.if_icmp .ne 7, 3) := by decide +kernel
theorem dX8_old_40 : decode cX8_old 40 = .ok (.iconst 2, 1) := by decide +kernel
theorem dX8_old_41 : decode cX8_old 41 = .ok (.goto 26, 3) := by decide +kernel
theorem dX8_old_44 : decode cX8_old 44 = .ok (.aload_n 0, 1) := by decide +kernel
theorem dX8_old_45 : decode cX8_old 45 = .ok (.iload_n 1, 1) := by decide +kernel
theorem dX8_old_46 : decode cX8_old 46 = .ok (.iconst 3, 1) := by decide +kernel
theorem dX8_old_47 : decode cX8_old 47 = .ok (.invokevirtual 118, 3) := by decide +kernel
theorem dX8_old_50 : decode cX8_old 50 = .ok (.ifCond .ne 12, 3) := by decide +kernel
theorem dX8_old_53 : decode cX8_old 53 = .ok (.aload_n 0, 1) := by decide +kernel
theorem dX8_old_54 : decode cX8_old 54 = .ok (.iload_n 2, 1) := by decide +kernel
theorem dX8_old_55 : decode cX8_old 55 = .ok (.iconst 3, 1) := by decide +kernel
theorem dX8_old_56 : decode cX8_old 56 = .ok (.invokevirtual 118, 3) := by decide +kernel
theorem dX8_old_59 : decode cX8_old 59 = .ok (.ifCond .eq 7, 3) := by decide +kernel
theorem dX8_old_62 : decode cX8_old 62 = .ok (.iconst 3, 1) := by decide +kernel
theorem dX8_old_63 : decode cX8_old 63 = .ok (.goto 4, 3) := by decide +kernel
theorem dX8_old_66 : decode cX8_old 66 = .ok (.iconst 0, 1) := by decide +kernel
theorem dX8_old_67 : decode cX8_old 67 = .ok (.putfield 72, 3) := by decide +kernel
theorem dX8_old_70 : decode cX8_old 70 = .ok (.aload_n 0, 1) := by decide +kernel
theorem dX8_old_71 : decode cX8_old 71 = .ok (.getfield 72, 3) := by decide +kernel
theorem dX8_old_74 : decode cX8_old 74 = .ok (.ifCond .le 5, 3) := by decide +kernel
theorem dX8_old_77 : decode cX8_old 77 = .ok (.iconst 0, 1) := by decide +kernel
theorem dX8_old_78 : decode cX8_old 78 = .ok (.ireturn, 1) := by decide +kernel
theorem dX8_old_79 : decode cX8_old 79 = .ok (.aload_n 0, 1) := by decide +kernel
theorem dX8_old_80 : decode cX8_old 80 = .ok (.dup, 1) := by decide +kernel
theorem dX8_old_81 : decode cX8_old 81 = .ok (.getfield 105, 3) := by decide +kernel
theorem dX8_old_84 : decode cX8_old 84 = .ok (.iconst 1, 1) := by decide +kernel
theorem dX8_old_85 : decode cX8_old 85 = .ok (.iadd, 1) := by decide +kernel
theorem dX8_old_86 : decode cX8_old 86 = .ok (.putfield 105, 3) := by decide +kernel
theorem dX8_old_89 : decode cX8_old 89 = .ok (.aload_n 0, 1) := by decide +kernel
theorem dX8_old_90 : decode cX8_old 90 = .ok (.iconst 2, 1) := by decide +kernel
theorem dX8_old_91 : decode cX8_old 91 = .ok (.iload_n 1, 1) := by decide +kernel
theorem dX8_old_92 : decode cX8_old 92 = .ok (.iload_n 2, 1) := by decide +kernel
theorem dX8_old_93 : decode cX8_old 93 = .ok (.invokevirtual 111, 3) := by decide +kernel
theorem dX8_old_96 : decode cX8_old 96 = .ok (.ireturn, 1) := by decide +kernel
theorem dX8_asked_0 : decode cX8_asked 0 = .ok (.aload_n 0, 1) := by decide +kernel
theorem dX8_asked_1 : decode cX8_asked 1 = .ok (.iload_n 1, 1) := by decide +kernel
theorem dX8_asked_2 : decode cX8_asked 2 = .ok (.invokevirtual 115, 3) := by decide +kernel
theorem dX8_asked_5 : decode cX8_asked 5 = .ok (.ifCond .eq 15, 3) := by decide +kernel
theorem dX8_asked_8 : decode cX8_asked 8 = .ok (.aload_n 0, 1) := by decide +kernel
theorem dX8_asked_9 : decode cX8_asked 9 = .ok (.iload_n 2, 1) := by decide +kernel
theorem dX8_asked_10 : decode cX8_asked 10 = .ok (.invokevirtual 115, 3) := by decide +kernel
theorem dX8_asked_13 : decode cX8_asked 13 = .ok (.ifCond .eq 7, 3) := by decide +kernel
theorem dX8_asked_16 : decode cX8_asked 16 = .ok (.iconst 1, 1) := by decide +kernel
theorem dX8_asked_17 : decode cX8_asked 17 = .ok (.goto 4, 3) := by decide +kernel
theorem dX8_asked_20 : decode cX8_asked 20 = .ok (.iconst 0, 1) := by decide +kernel
theorem dX8_asked_21 : decode cX8_asked 21 = .ok (.istore_n 3, 1) := by decide +kernel
theorem dX8_asked_22 : decode cX8_asked 22 = .ok (.aload_n 0, 1) := by decide +kernel
theorem dX8_asked_23 : decode cX8_asked 23 = .ok (.iload_n 3, 1) := by decide +kernel
theorem dX8_asked_24 : decode cX8_asked 24 = .ok (.ifCond .ne 7, 3) := by decide +kernel
theorem dX8_asked_27 : decode cX8_asked 27 = .ok (.iconst 1, 1) := by decide +kernel
theorem dX8_asked_28 : decode cX8_asked 28 = .ok (.goto 39, 3) := by decide +kernel
theorem dX8_asked_31 : decode cX8_asked 31 = .ok (.aload_n 0, 1) := by decide +kernel
theorem dX8_asked_32 : decode cX8_asked 32 = .ok (.getfield 108, 3) := by decide +kernel
theorem dX8_asked_35 : decode cX8_asked 35 = .ok (.bipush 24, 2) := by decide +kernel
theorem dX8_asked_37 : decode cX8_asked 37 = .ok (.if_icmp .ne 7, 3) := by decide +kernel
theorem dX8_asked_40 : decode cX8_asked 40 = .ok (.iconst 2, 1) := by decide +kernel
theorem dX8_asked_41 : decode cX8_asked 41 = .ok (.goto 26, 3) := by decide +kernel
theorem dX8_asked_44 : decode cX8_asked 44 = .ok (.aload_n 0, 1) := by decide +kernel
theorem dX8_asked_45 : decode cX8_asked 45 = .ok (.iload_n 1, 1) := by decide +kernel
theorem dX8_asked_46 : decode cX8_asked 46 = .ok (.iconst 2, 1) := by decide +kernel
theorem dX8_asked_47 : decode cX8_asked 47 = .ok (.invokevirtual 118, 3) := by decide +kernel
theorem dX8_asked_50 : decode cX8_asked 50 = .ok (.ifCond .ne 12, 3) := by decide +kernel
theorem dX8_asked_53 : decode cX8_asked 53 = .ok (.aload_n 0, 1) := by decide +kernel
theorem dX8_asked_54 : decode cX8_asked 54 = .ok (.iload_n 2, 1) := by decide +kernel
theorem dX8_asked_55 : decode cX8_asked 55 = .ok (.iconst 2, 1) := by decide +kernel
theorem dX8_asked_56 : decode cX8_asked 56 = .ok (.invokevirtual 118, 3) := by decide +kernel
theorem dX8_asked_59 : decode cX8_asked 59 = .ok (.ifCond .eq 7, 3) := by decide +kernel
theorem dX8_asked_62 : decode cX8_asked 62 = .ok (.iconst 3, 1) := by decide +kernel
theorem dX8_asked_63 : decode cX8_asked 63 = .ok (.goto 4, 3) := by decide +kernel
theorem dX8_asked_66 : decode cX8_asked 66 = .ok (.iconst 0, 1) := by decide +kernel
theorem dX8_asked_67 : decode cX8_asked 67 = .ok (.putfield 72, 3) := by decide +kernel
theorem dX8_asked_70 : decode cX8_asked 70 = .ok (.aload_n 0, 1) := by decide +kernel
theorem dX8_asked_71 : decode cX8_asked 71 = .ok (.getfield 72, 3) := by decide +kernel
theorem dX8_asked_74 : decode cX8_asked 74 = .ok (.ifCond .le 5, 3) := by decide +kernel
theorem dX8_asked_77 : decode cX8_asked 77 = .ok (.iconst 0, 1) := by decide +kernel
theorem dX8_asked_78 : decode cX8_asked 78 = .ok (.ireturn, 1) := by decide +kernel
theorem dX8_asked_79 : decode cX8_asked 79 = .ok (.aload_n 0, 1) := by decide +kernel
theorem dX8_asked_80 : decode cX8_asked 80 = .ok (.dup, 1) := by decide +kernel
theorem dX8_asked_81 : decode cX8_asked 81 = .ok (.getfield 108, 3) := by decide +kernel
theorem dX8_asked_84 : decode cX8_asked 84 = .ok (.iconst 1, 1) := by decide +kernel
theorem dX8_asked_85 : decode cX8_asked 85 = .ok (.iadd, 1) := by decide +kernel
theorem dX8_asked_86 : decode cX8_asked 86 = .ok (.putfield 108, 3) := by decide +kernel
theorem dX8_asked_89 : decode cX8_asked 89 = .ok (.aload_n 0, 1) := by decide +kernel
theorem dX8_asked_90 : decode cX8_asked 90 = .ok (.iconst 3, 1) := by decide +kernel
theorem dX8_asked_91 : decode cX8_asked 91 = .ok (.iload_n 1, 1) := by decide +kernel
theorem dX8_asked_92 : decode cX8_asked 92 = .ok (.iload_n 2, 1) := by decide +kernel
theorem dX8_asked_93 : decode cX8_asked 93 = .ok (.invokevirtual 111, 3) := by decide +kernel
theorem dX8_asked_96 : decode cX8_asked 96 = .ok (.ireturn, 1) := by decide +kernel
theorem dX8_output_0 : decode cX8_output 0 = .ok (.aload_n 0, 1) := by decide +kernel
theorem dX8_output_1 : decode cX8_output 1 = .ok (.iload_n 1, 1) := by decide +kernel
theorem dX8_output_2 : decode cX8_output 2 = .ok (.invokevirtual 115, 3) := by decide +kernel
theorem dX8_output_5 : decode cX8_output 5 = .ok (.ifCond .eq 15, 3) := by decide +kernel
theorem dX8_output_8 : decode cX8_output 8 = .ok (.aload_n 0, 1) := by decide +kernel
theorem dX8_output_9 : decode cX8_output 9 = .ok (.iload_n 2, 1) := by decide +kernel
theorem dX8_output_10 : decode cX8_output 10 = .ok (.invokevirtual 115, 3) := by decide +kernel
theorem dX8_output_13 : decode cX8_output 13 = .ok (.ifCond .eq 7, 3) := by decide +kernel
theorem dX8_output_16 : decode cX8_output 16 = .ok (.iconst 1, 1) := by decide +kernel
theorem dX8_output_17 : decode cX8_output 17 = .ok (.goto 4, 3) := by decide +kernel
theorem dX8_output_20 : decode cX8_output 20 = .ok (.iconst 0, 1) := by decide +kernel
theorem dX8_output_21 : decode cX8_output 21 = .ok (.istore_n 3, 1) := by decide +kernel
theorem dX8_output_22 : decode cX8_output 22 = .ok (.aload_n 0, 1) := by decide +kernel
theorem dX8_output_23 : decode cX8_output 23 = .ok (.iload_n 3, 1) := by decide +kernel
theorem dX8_output_24 : decode cX8_output 24 = .ok (.ifCond .ne 7, 3) := by decide +kernel
theorem dX8_output_27 : decode cX8_output 27 = .ok (.iconst 1, 1) := by decide +kernel
theorem dX8_output_28 : decode cX8_output 28 = .ok (.goto 38, 3) := by decide +kernel
theorem dX8_output_31 : decode cX8_output 31 = .ok (.aload_n 0, 1) := by decide +kernel
theorem dX8_output_32 : decode cX8_output 32 = .ok (.getfield 91, 3) := by decide +kernel
theorem dX8_output_35 : decode cX8_output 35 = .ok (.iconst 4, 1) := by decide +kernel
theorem dX8_output_36 : decode cX8_output 36 = .ok (.if_icmp .ne 7, 3) := by decide +kernel
theorem dX8_output_39 : decode cX8_output 39 = .ok (.iconst 2, 1) := by decide +kernel
theorem dX8_output_40 : decode cX8_output 40 = .ok (.goto 26, 3) := by decide +kernel
theorem dX8_output_43 : decode cX8_output 43 = .ok (.aload_n 0, 1) := by decide +kernel
theorem dX8_output_44 : decode cX8_output 44 = .ok (.iload_n 1, 1) := by decide +kernel
theorem dX8_output_45 : decode cX8_output 45 = .ok (.iconst 3, 1) := by decide +kernel
theorem dX8_output_46 : decode cX8_output 46 = .ok (.invokevirtual 118, 3) := by decide +kernel
theorem dX8_output_49 : decode cX8_output 49 = .ok (.ifCond .ne 12, 3) := by decide +kernel
theorem dX8_output_52 : decode cX8_output 52 = .ok (.aload_n 0, 1) := by decide +kernel
theorem dX8_output_53 : decode cX8_output 53 = .ok (.iload_n 2, 1) := by decide +kernel
theorem dX8_output_54 : decode cX8_output 54 = .ok (.iconst 2, 1) := by decide +kernel
theorem dX8_output_55 : decode cX8_output 55 = .ok (.invokevirtual 118, 3) := by decide +kernel
theorem dX8_output_58 : decode cX8_output 58 = .ok (.ifCond .eq 7, 3) := by decide +kernel
theorem dX8_output_61 : decode cX8_output 61 = .ok (.iconst 3, 1) := by decide +kernel
theorem dX8_output_62 : decode cX8_output 62 = .ok (.goto 4, 3) := by decide +kernel
theorem dX8_output_65 : decode cX8_output 65 = .ok (.iconst 0, 1) := by decide +kernel
theorem dX8_output_66 : decode cX8_output 66 = .ok (.putfield 72, 3) := by decide +kernel
theorem dX8_output_69 : decode cX8_output 69 = .ok (.aload_n 0, 1) := by decide +kernel
theorem dX8_output_70 : decode cX8_output 70 = .ok (.getfield 72, 3) := by decide +kernel
theorem dX8_output_73 : decode cX8_output 73 = .ok (.ifCond .le 5, 3) := by decide +kernel
theorem dX8_output_76 : decode cX8_output 76 = .ok (.iconst 0, 1) := by decide +kernel
theorem dX8_output_77 : decode cX8_output 77 = .ok (.ireturn, 1) := by decide +kernel
theorem dX8_output_78 : decode cX8_output 78 = .ok (.aload_n 0, 1) := by decide +kernel
theorem dX8_output_79 : decode cX8_output 79 = .ok (.getfield 33, 3) := by decide +kernel
theorem dX8_output_82 : decode cX8_output 82 = .ok (.aload_n 0, 1) := by decide +kernel
theorem dX8_output_83 : decode cX8_output 83 = .ok (.getfield 91, 3) := by decide +kernel
theorem dX8_output_86 : decode cX8_output 86 = .ok (.iload_n 1, 1) := by decide +kernel
theorem dX8_output_87 : decode cX8_output 87 = .ok (.iastore, 1) := by decide +kernel
theorem dX8_output_88 : decode cX8_output 88 = .ok (.aload_n 0, 1) := by decide +kernel
theorem dX8_output_89 : decode cX8_output 89 = .ok (.getfield 36, 3) := by decide +kernel
theorem dX8_output_92 : decode cX8_output 92 = .ok (.aload_n 0, 1) := by decide +kernel
theorem dX8_output_93 : decode cX8_output 93 = .ok (.getfield 91, 3) := by decide +kernel
theorem dX8_output_96 : decode cX8_output 96 = .ok (.iload_n 2, 1) := by decide +kernel
theorem dX8_output_97 : decode cX8_output 97 = .ok (.iastore, 1) := by decide +kernel
theorem dX8_output_98 : decode cX8_output 98 = .ok (.aload_n 0, 1) := by decide +kernel
theorem dX8_output_99 : decode cX8_output 99 = .ok (.dup, 1) := by decide +kernel
theorem dX8_output_100 : decode cX8_output 100 = .ok (.getfield 91, 3) := by decide +kernel
theorem dX8_output_103 : decode cX8_output 103 = .ok (.iconst 1, 1) := by decide +kernel
theorem dX8_output_104 : decode cX8_output 104 = .ok (.iadd, 1) := by decide +kernel
theorem dX8_output_105 : decode cX8_output 105 = .ok (.putfield 91, 3) := by decide +kernel
theorem dX8_output_108 : decode cX8_output 108 = .ok (.aload_n 0, 1) := by decide +kernel
theorem dX8_output_109 : decode cX8_output 109 = .ok (.iconst 0, 1) := by decide +kernel
theorem dX8_output_110 : decode cX8_output 110 = .ok (.putfield 98, 3) := by decide +kernel
theorem dX8_output_113 : decode cX8_output 113 = .ok (.aload_n 0, 1) := by decide +kernel
theorem dX8_output_114 : decode cX8_output 114 = .ok (.getfield 91, 3) := by decide +kernel
theorem dX8_output_117 : decode cX8_output 117 = .ok (.iconst 1, 1) := by decide +kernel
theorem dX8_output_118 : decode cX8_output 118 = .ok (.isub, 1) := by decide +kernel
theorem dX8_output_119 : decode cX8_output 119 = .ok (.ireturn, 1) := by decide +kernel
theorem dX8_value_0 : decode cX8_value 0 = .ok (.aload_n 0, 1) := by decide +kernel
theorem dX8_value_1 : decode cX8_value 1 = .ok (.aload_n 0, 1) := by decide +kernel
theorem dX8_value_2 : decode cX8_value 2 = .ok (.iload_n 1, 1) := by decide +kernel
theorem dX8_value_3 : decode cX8_value 3 = .ok (.invokevirtual 115, 3) := by decide +kernel
theorem dX8_value_6 : decode cX8_value 6 = .ok (.ifCond .eq 7, 3) := by decide +kernel
theorem dX8_value_9 : decode cX8_value 9 = .ok (.iconst 0, 1) := by decide +kernel
theorem dX8_value_10 : decode cX8_value 10 = .ok (.goto 4, 3) := by decide +kernel
theorem dX8_value_13 : decode cX8_value 13 = .ok (.iconst 1, 1) := by decide +kernel
theorem dX8_value_14 : decode cX8_value 14 = .ok (.putfield 72, 3) := by decide +kernel
theorem dX8_value_17 : decode cX8_value 17 = .ok (.aload_n 0, 1) := by decide +kernel
theorem dX8_value_18 : decode cX8_value 18 = .ok (.getfield 72, 3) := by decide +kernel
theorem dX8_value_21 : decode cX8_value 21 = .ok (.ifCond .le 5, 3) := by decide +kernel
theorem dX8_value_24 : decode cX8_value 24 = .ok (.iconst 0, 1) := by decide +kernel
theorem dX8_value_25 : decode cX8_value 25 = .ok (.ireturn, 1) := by decide +kernel
theorem dX8_value_26 : decode cX8_value 26 = .ok (.iload_n 2, 1) := by decide +kernel
theorem dX8_value_27 : decode cX8_value 27 = .ok (.iconst 1, 1) := by decide +kernel
theorem dX8_value_28 : decode cX8_value 28 = .ok (.aload_n 0, 1) := by decide +kernel
theorem dX8_value_29 : decode cX8_value 29 = .ok (.getfield 102, 3) := by decide +kernel
theorem dX8_value_32 : decode cX8_value 32 = .ok (.ishl, 1) := by decide +kernel
theorem dX8_value_33 : decode cX8_value 33 = .ok (.iconst 1, 1) := by decide +kernel
theorem dX8_value_34 : decode cX8_value 34 = .ok (.isub, 1) := by decide +kernel
theorem dX8_value_35 : decode cX8_value 35 = .ok (.iand, 1) := by decide +kernel
theorem dX8_value_36 : decode cX8_value 36 = .ok (.istore_n 3, 1) := by decide +kernel
theorem dX8_value_37 : decode cX8_value 37 = .ok (.aload_n 0, 1) := by decide +kernel
theorem dX8_value_38 : decode cX8_value 38 = .ok (.iload_n 1, 1) := by decide +kernel
theorem dX8_value_39 : decode cX8_value 39 = .ok (.invokevirtual 83, 3) := by decide +kernel
theorem dX8_value_42 : decode cX8_value 42 = .ok (.iload_n 3, 1) := by decide +kernel
theorem dX8_value_43 : decode cX8_value 43 = .ok (.iushr, 1) := by decide +kernel
theorem dX8_value_44 : decode cX8_value 44 = .ok (.iconst 1, 1) := by decide +kernel
theorem dX8_value_45 : decode cX8_value 45 = .ok (.iand, 1) := by decide +kernel
theorem dX8_value_46 : decode cX8_value 46 = .ok (.ireturn, 1) := by decide +kernel
theorem dX8_differing_0 : decode cX8_differing 0 = .ok (.aload_n 0, 1) := by decide +kernel
theorem dX8_differing_1 : decode cX8_differing 1 = .ok (.iconst 0, 1) := by decide +kernel
theorem dX8_differing_2 : decode cX8_differing 2 = .ok (.putfield 72, 3) := by decide +kernel
theorem dX8_differing_5 : decode cX8_differing 5 = .ok (.aload_n 0, 1) := by decide +kernel
theorem dX8_differing_6 : decode cX8_differing 6 = .ok (.invokevirtual 121, 3) := by decide +kernel
theorem dX8_differing_9 : decode cX8_differing 9 = .ok (.ireturn, 1) := by decide +kernel
theorem dX8_witness_0 : decode cX8_witness 0 = .ok (.aload_n 0, 1) := by decide +kernel
theorem dX8_witness_1 : decode cX8_witness 1 = .ok (.iload_n 1, 1) := by decide +kernel
theorem dX8_witness_2 : decode cX8_witness 2 = .ok (.aload_n 0, 1) := by decide +kernel
theorem dX8_witness_3 : decode cX8_witness 3 = .ok (.getfield 91, 3) := by decide +kernel
theorem dX8_witness_6 : decode cX8_witness 6 = .ok (.invokestatic 79, 3) := by decide +kernel
theorem dX8_witness_9 : decode cX8_witness 9 = .ok (.ifCond .eq 7, 3) := by decide +kernel
theorem dX8_witness_12 : decode cX8_witness 12 = .ok (.iconst 0, 1) := by decide +kernel
theorem dX8_witness_13 : decode cX8_witness 13 = .ok (.goto 4, 3) := by decide +kernel
theorem dX8_witness_16 : decode cX8_witness 16 = .ok (.iconst 1, 1) := by decide +kernel
theorem dX8_witness_17 : decode cX8_witness 17 = .ok (.putfield 72, 3) := by decide +kernel
theorem dX8_witness_20 : decode cX8_witness 20 = .ok (.aload_n 0, 1) := by decide +kernel
theorem dX8_witness_21 : decode cX8_witness 21 = .ok (.getfield 72, 3) := by decide +kernel
theorem dX8_witness_24 : decode cX8_witness 24 = .ok (.ifCond .le 5, 3) := by decide +kernel
theorem dX8_witness_27 : decode cX8_witness 27 = .ok (.iconst 0, 1) := by decide +kernel
theorem dX8_witness_28 : decode cX8_witness 28 = .ok (.ireturn, 1) := by decide +kernel
theorem dX8_witness_29 : decode cX8_witness 29 = .ok (.aload_n 0, 1) := by decide +kernel
theorem dX8_witness_30 : decode cX8_witness 30 = .ok (.aload_n 0, 1) := by decide +kernel
theorem dX8_witness_31 : decode cX8_witness 31 = .ok (.getfield 33, 3) := by decide +kernel
theorem dX8_witness_34 : decode cX8_witness 34 = .ok (.iload_n 1, 1) := by decide +kernel
theorem dX8_witness_35 : decode cX8_witness 35 = .ok (.iaload, 1) := by decide +kernel
theorem dX8_witness_36 : decode cX8_witness 36 = .ok (.invokevirtual 83, 3) := by decide +kernel
theorem dX8_witness_39 : decode cX8_witness 39 = .ok (.aload_n 0, 1) := by decide +kernel
theorem dX8_witness_40 : decode cX8_witness 40 = .ok (.aload_n 0, 1) := by decide +kernel
theorem dX8_witness_41 : decode cX8_witness 41 = .ok (.getfield 36, 3) := by decide +kernel
theorem dX8_witness_44 : decode cX8_witness 44 = .ok (.iload_n 1, 1) := by decide +kernel
theorem dX8_witness_45 : decode cX8_witness 45 = .ok (.iaload, 1) := by decide +kernel
theorem dX8_witness_46 : decode cX8_witness 46 = .ok (.invokevirtual 83, 3) := by decide +kernel
theorem dX8_witness_49 : decode cX8_witness 49 = .ok (.ixor, 1) := by decide +kernel
theorem dX8_witness_50 : decode cX8_witness 50 = .ok (.istore_n 2, 1) := by decide +kernel
theorem dX8_witness_51 : decode cX8_witness 51 = .ok (.iconst 0, 1) := by decide +kernel
theorem dX8_witness_52 : decode cX8_witness 52 = .ok (.istore_n 3, 1) := by decide +kernel
theorem dX8_witness_53 : decode cX8_witness 53 = .ok (.iload_n 3, 1) := by decide +kernel
theorem dX8_witness_54 : decode cX8_witness 54 = .ok (.bipush 32, 2) := by decide +kernel
theorem dX8_witness_56 : decode cX8_witness 56 = .ok (.if_icmp .ge 20, 3) := by decide +kernel
theorem dX8_witness_59 : decode cX8_witness 59 = .ok (.iload_n 2, 1) := by decide +kernel
theorem dX8_witness_60 : decode cX8_witness 60 = .ok (.iload_n 3, 1) := by decide +kernel
theorem dX8_witness_61 : decode cX8_witness 61 = .ok (.iushr, 1) := by decide +kernel
theorem dX8_witness_62 : decode cX8_witness 62 = .ok (.iconst 1, 1) := by decide +kernel
theorem dX8_witness_63 : decode cX8_witness 63 = .ok (.iand, 1) := by decide +kernel
theorem dX8_witness_64 : decode cX8_witness 64 = .ok (.iconst 1, 1) := by decide +kernel
theorem dX8_witness_65 : decode cX8_witness 65 = .ok (.if_icmp .ne 5, 3) := by decide +kernel
theorem dX8_witness_68 : decode cX8_witness 68 = .ok (.iload_n 3, 1) := by decide +kernel
theorem dX8_witness_69 : decode cX8_witness 69 = .ok (.ireturn, 1) := by decide +kernel
theorem dX8_witness_70 : decode cX8_witness 70 = .ok (.iinc 3 1, 3) := by decide +kernel
theorem dX8_witness_73 : decode cX8_witness 73 = .ok (.goto (-20), 3) := by decide +kernel
theorem dX8_witness_76 : decode cX8_witness 76 = .ok (.iconst (-1), 1) := by decide +kernel
theorem dX8_witness_77 : decode cX8_witness 77 = .ok (.ireturn, 1) := by decide +kernel
theorem dX8_matched_0 : decode cX8_matched 0 = .ok (.aload_n 0, 1) := by decide +kernel
theorem dX8_matched_1 : decode cX8_matched 1 = .ok (.aload_n 0, 1) := by decide +kernel
theorem dX8_matched_2 : decode cX8_matched 2 = .ok (.iload_n 1, 1) := by decide +kernel
theorem dX8_matched_3 : decode cX8_matched 3 = .ok (.invokevirtual 115, 3) := by decide +kernel
theorem dX8_matched_6 : decode cX8_matched 6 = .ok (.ifCond .eq 7, 3) := by decide +kernel
theorem dX8_matched_9 : decode cX8_matched 9 = .ok (.iconst 0, 1) := by decide +kernel
theorem dX8_matched_10 : decode cX8_matched 10 = .ok (.goto 4, 3) := by decide +kernel
theorem dX8_matched_13 : decode cX8_matched 13 = .ok (.iconst 1, 1) := by decide +kernel
theorem dX8_matched_14 : decode cX8_matched 14 = .ok (.putfield 72, 3) := by decide +kernel
theorem dX8_matched_17 : decode cX8_matched 17 = .ok (.iconst 0, 1) := by decide +kernel
theorem dX8_matched_18 : decode cX8_matched 18 = .ok (.istore_n 2, 1) := by decide +kernel
theorem dX8_matched_19 : decode cX8_matched 19 = .ok (.iload_n 2, 1) := by decide +kernel
theorem dX8_matched_20 : decode cX8_matched 20 = .ok (.iconst 2, 1) := by decide +kernel
theorem dX8_matched_21 : decode cX8_matched 21 = .ok (.aload_n 0, 1) := by decide +kernel
theorem dX8_matched_22 : decode cX8_matched 22 = .ok (.getfield 76, 3) := by decide +kernel
theorem dX8_matched_25 : decode cX8_matched 25 = .ok (.imul, 1) := by decide +kernel
theorem dX8_matched_26 : decode cX8_matched 26 = .ok (.if_icmp .ge 43, 3) := by decide +kernel
theorem dX8_matched_29 : decode cX8_matched 29 = .ok (.aload_n 0, 1) := by decide +kernel
theorem dX8_matched_30 : decode cX8_matched 30 = .ok (.getfield 72, 3) := by decide +kernel
theorem dX8_matched_33 : decode cX8_matched 33 = .ok (.ifCond .ne 36, 3) := by decide +kernel
theorem dX8_matched_36 : decode cX8_matched 36 = .ok (.aload_n 0, 1) := by decide +kernel
theorem dX8_matched_37 : decode cX8_matched 37 = .ok (.getfield 7, 3) := by decide +kernel
theorem dX8_matched_40 : decode cX8_matched 40 = .ok (.iload_n 2, 1) := by decide +kernel
theorem dX8_matched_41 : decode cX8_matched 41 = .ok (.iconst 2, 1) := by decide +kernel
theorem dX8_matched_42 : decode cX8_matched 42 = .ok (.idiv, 1) := by decide +kernel
theorem dX8_matched_43 : decode cX8_matched 43 = .ok (.iaload, 1) := by decide +kernel
theorem dX8_matched_44 : decode cX8_matched 44 = .ok (.iconst 3, 1) := by decide +kernel
theorem dX8_matched_45 : decode cX8_matched 45 = .ok (.if_icmp .eq 18, 3) := by decide +kernel
theorem dX8_matched_48 : decode cX8_matched 48 = .ok (.aload_n 0, 1) := by decide +kernel
theorem dX8_matched_49 : decode cX8_matched 49 = .ok (.iload_n 2, 1) := by decide +kernel
theorem dX8_matched_50 : decode cX8_matched 50 = .ok (.invokevirtual 83, 3) := by decide +kernel
theorem dX8_matched_53 : decode cX8_matched 53 = .ok (.aload_n 0, 1) := by decide +kernel
theorem dX8_matched_54 : decode cX8_matched 54 = .ok (.iload_n 1, 1) := by decide +kernel
theorem dX8_matched_55 : decode cX8_matched 55 = .ok (.invokevirtual 83, 3) := by decide +kernel
theorem dX8_matched_58 : decode cX8_matched 58 = .ok (.if_icmp .ne 5, 3) := by decide +kernel
theorem dX8_matched_61 : decode cX8_matched 61 = .ok (.iload_n 2, 1) := by decide +kernel
theorem dX8_matched_62 : decode cX8_matched 62 = .ok (.ireturn, 1) := by decide +kernel
theorem dX8_matched_63 : decode cX8_matched 63 = .ok (.iinc 2 1, 3) := by decide +kernel
theorem dX8_matched_66 : decode cX8_matched 66 = .ok (.goto (-47), 3) := by decide +kernel
theorem dX8_matched_69 : decode cX8_matched 69 = .ok (.aload_n 0, 1) := by decide +kernel
theorem dX8_matched_70 : decode cX8_matched 70 = .ok (.getfield 72, 3) := by decide +kernel
theorem dX8_matched_73 : decode cX8_matched 73 = .ok (.ifCond .le 7, 3) := by decide +kernel
theorem dX8_matched_76 : decode cX8_matched 76 = .ok (.iconst 0, 1) := by decide +kernel
theorem dX8_matched_77 : decode cX8_matched 77 = .ok (.goto 4, 3) := by decide +kernel
theorem dX8_matched_80 : decode cX8_matched 80 = .ok (.iconst (-1), 1) := by decide +kernel
theorem dX8_matched_81 : decode cX8_matched 81 = .ok (.ireturn, 1) := by decide +kernel
theorem dX8_isOld_0 : decode cX8_isOld 0 = .ok (.iload_n 1, 1) := by decide +kernel
theorem dX8_isOld_1 : decode cX8_isOld 1 = .ok (.aload_n 0, 1) := by decide +kernel
theorem dX8_isOld_2 : decode cX8_isOld 2 = .ok (.getfield 76, 3) := by decide +kernel
theorem dX8_isOld_5 : decode cX8_isOld 5 = .ok (.invokestatic 79, 3) := by decide +kernel
theorem dX8_isOld_8 : decode cX8_isOld 8 = .ok (.ifCond .eq 17, 3) := by decide +kernel
theorem dX8_isOld_11 : decode cX8_isOld 11 = .ok (.aload_n 0, 1) := by decide +kernel
theorem dX8_isOld_12 : decode cX8_isOld 12 = .ok (.getfield 7, 3) := by decide +kernel
theorem dX8_isOld_15 : decode cX8_isOld 15 = .ok (.iload_n 1, 1) := by decide +kernel
theorem dX8_isOld_16 : decode cX8_isOld 16 = .ok (.iaload, 1) := by decide +kernel
theorem dX8_isOld_17 : decode cX8_isOld 17 = .ok (.iconst 2, 1) := by decide +kernel
theorem dX8_isOld_18 : decode cX8_isOld 18 = .ok (.if_icmp .ne 7, 3) := by decide +kernel
theorem dX8_isOld_21 : decode cX8_isOld 21 = .ok (.iconst 1, 1) := by decide +kernel
theorem dX8_isOld_22 : decode cX8_isOld 22 = .ok (.goto 4, 3) := by decide +kernel
theorem dX8_isOld_25 : decode cX8_isOld 25 = .ok (.iconst 0, 1) := by decide +kernel
theorem dX8_isOld_26 : decode cX8_isOld 26 = .ok (.ireturn, 1) := by decide +kernel
theorem dX8_keep_0 : decode cX8_keep 0 = .ok (.aload_n 0, 1) := by decide +kernel
theorem dX8_keep_1 : decode cX8_keep 1 = .ok (.aload_n 0, 1) := by decide +kernel
theorem dX8_keep_2 : decode cX8_keep 2 = .ok (.iload_n 1, 1) := by decide +kernel
theorem dX8_keep_3 : decode cX8_keep 3 = .ok (.invokevirtual 125, 3) := by decide +kernel
theorem dX8_keep_6 : decode cX8_keep 6 = .ok (.ifCond .eq 7, 3) := by decide +kernel
theorem dX8_keep_9 : decode cX8_keep 9 = .ok (.iconst 0, 1) := by decide +kernel
theorem dX8_keep_10 : decode cX8_keep 10 = .ok (.goto 4, 3) := by decide +kernel
theorem dX8_keep_13 : decode cX8_keep 13 = .ok (.iconst 1, 1) := by decide +kernel
theorem dX8_keep_14 : decode cX8_keep 14 = .ok (.putfield 72, 3) := by decide +kernel
theorem dX8_keep_17 : decode cX8_keep 17 = .ok (.aload_n 0, 1) := by decide +kernel
theorem dX8_keep_18 : decode cX8_keep 18 = .ok (.getfield 72, 3) := by decide +kernel
theorem dX8_keep_21 : decode cX8_keep 21 = .ok (.ifCond .gt 13, 3) := by decide +kernel
theorem dX8_keep_24 : decode cX8_keep 24 = .ok (.aload_n 0, 1) := by decide +kernel
theorem dX8_keep_25 : decode cX8_keep 25 = .ok (.getfield 22, 3) := by decide +kernel
theorem dX8_keep_28 : decode cX8_keep 28 = .ok (.iload_n 1, 1) := by decide +kernel
theorem dX8_keep_29 : decode cX8_keep 29 = .ok (.baload, 1) := by decide +kernel
theorem dX8_keep_30 : decode cX8_keep 30 = .ok (.iload_n 2, 1) := by decide +kernel
theorem dX8_keep_31 : decode cX8_keep 31 = .ok (.if_icmp .ne 5, 3) := by decide +kernel
theorem dX8_keep_34 : decode cX8_keep 34 = .ok (.iconst 0, 1) := by decide +kernel
theorem dX8_keep_35 : decode cX8_keep 35 = .ok (.ireturn, 1) := by decide +kernel
theorem dX8_keep_36 : decode cX8_keep 36 = .ok (.aload_n 0, 1) := by decide +kernel
theorem dX8_keep_37 : decode cX8_keep 37 = .ok (.getfield 22, 3) := by decide +kernel
theorem dX8_keep_40 : decode cX8_keep 40 = .ok (.iload_n 1, 1) := by decide +kernel
theorem dX8_keep_41 : decode cX8_keep 41 = .ok (.iload_n 2, 1) := by decide +kernel
theorem dX8_keep_42 : decode cX8_keep 42 = .ok (.bastore, 1) := by decide +kernel
theorem dX8_keep_43 : decode cX8_keep 43 = .ok (.aload_n 0, 1) := by decide +kernel
theorem dX8_keep_44 : decode cX8_keep 44 = .ok (.iconst 0, 1) := by decide +kernel
theorem dX8_keep_45 : decode cX8_keep 45 = .ok (.putfield 98, 3) := by decide +kernel
theorem dX8_keep_48 : decode cX8_keep 48 = .ok (.iconst 1, 1) := by decide +kernel
theorem dX8_keep_49 : decode cX8_keep 49 = .ok (.ireturn, 1) := by decide +kernel
theorem dX8_isNear_0 : decode cX8_isNear 0 = .ok (.lload_n 0, 1) := by decide +kernel
theorem dX8_isNear_1 : decode cX8_isNear 1 = .ok (.ldc2_w 128, 3) := by decide +kernel
theorem dX8_isNear_4 : decode cX8_isNear 4 = .ok (.lcmp, 1) := by decide +kernel
theorem dX8_isNear_5 : decode cX8_isNear 5 = .ok (.ifCond .lt 15, 3) := by decide +kernel
theorem dX8_isNear_8 : decode cX8_isNear 8 = .ok (.lload_n 0, 1) := by decide +kernel
theorem dX8_isNear_9 : decode cX8_isNear 9 = .ok (.ldc2_w 130, 3) := by decide +kernel
theorem dX8_isNear_12 : decode cX8_isNear 12 = .ok (.lcmp, 1) := by decide +kernel
theorem dX8_isNear_13 : decode cX8_isNear 13 = .ok (.ifCond .gt 7, 3) := by decide +kernel
theorem dX8_isNear_16 : decode cX8_isNear 16 = .ok (.iconst 1, 1) := by decide +kernel
theorem dX8_isNear_17 : decode cX8_isNear 17 = .ok (.goto 4, 3) := by decide +kernel
theorem dX8_isNear_20 : decode cX8_isNear 20 = .ok (.iconst 0, 1) := by decide +kernel
theorem dX8_isNear_21 : decode cX8_isNear 21 = .ok (.ireturn, 1) := by decide +kernel
theorem dX8_place_0 : decode cX8_place 0 = .ok (.aload_n 0, 1) := by decide +kernel
theorem dX8_place_1 : decode cX8_place 1 = .ok (.aload_n 0, 1) := by decide +kernel
theorem dX8_place_2 : decode cX8_place 2 = .ok (.iload_n 1, 1) := by decide +kernel
theorem dX8_place_3 : decode cX8_place 3 = .ok (.invokevirtual 125, 3) := by decide +kernel
theorem dX8_place_6 : decode cX8_place 6 = .ok (.ifCond .ne 7, 3) := by decide +kernel
theorem dX8_place_9 : decode cX8_place 9 = .ok (.iconst 1, 1) := by decide +kernel
theorem dX8_place_10 : decode cX8_place 10 = .ok (.goto 23, 3) := by decide +kernel
theorem dX8_place_13 : decode cX8_place 13 = .ok (.lload_n 2, 1) := by decide +kernel
theorem dX8_place_14 : decode cX8_place 14 = .ok (.invokestatic 132, 3) := by decide +kernel
theorem dX8_place_17 : decode cX8_place 17 = .ok (.ifCond .eq 15, 3) := by decide +kernel
theorem dX8_place_20 : decode cX8_place 20 = .ok (.lload 4, 2) := by decide +kernel
theorem dX8_place_22 : decode cX8_place 22 = .ok (.invokestatic 132, 3) := by decide +kernel
theorem dX8_place_25 : decode cX8_place 25 = .ok (.ifCond .eq 7, 3) := by decide +kernel
theorem dX8_place_28 : decode cX8_place 28 = .ok (.iconst 0, 1) := by decide +kernel
theorem dX8_place_29 : decode cX8_place 29 = .ok (.goto 4, 3) := by decide +kernel
theorem dX8_place_32 : decode cX8_place 32 = .ok (.iconst 2, 1) := by decide +kernel
theorem dX8_place_33 : decode cX8_place 33 = .ok (.putfield 72, 3) := by decide +kernel
theorem dX8_place_36 : decode cX8_place 36 = .ok (.aload_n 0, 1) := by decide +kernel
theorem dX8_place_37 : decode cX8_place 37 = .ok (.getfield 72, 3) := by decide +kernel
theorem dX8_place_40 : decode cX8_place 40 = .ok (.ifCond .gt 26, 3) := by decide +kernel
theorem dX8_place_43 : decode cX8_place 43 = .ok (.aload_n 0, 1) := by decide +kernel
theorem dX8_place_44 : decode cX8_place 44 = .ok (.getfield 26, 3) := by decide +kernel
theorem dX8_place_47 : decode cX8_place 47 = .ok (.iload_n 1, 1) := by decide +kernel
theorem dX8_place_48 : decode cX8_place 48 = .ok (.laload, 1) := by decide +kernel
theorem dX8_place_49 : decode cX8_place 49 = .ok (.lload_n 2, 1) := by decide +kernel
theorem dX8_place_50 : decode cX8_place 50 = .ok (.lcmp, 1) := by decide +kernel
theorem dX8_place_51 : decode cX8_place 51 = .ok (.ifCond .ne 17, 3) := by decide +kernel
theorem dX8_place_54 : decode cX8_place 54 = .ok (.aload_n 0, 1) := by decide +kernel
theorem dX8_place_55 : decode cX8_place 55 = .ok (.getfield 30, 3) := by decide +kernel
theorem dX8_place_58 : decode cX8_place 58 = .ok (.iload_n 1, 1) := by decide +kernel
theorem dX8_place_59 : decode cX8_place 59 = .ok (.laload, 1) := by decide +kernel
theorem dX8_place_60 : decode cX8_place 60 = .ok (.lload 4, 2) := by decide +kernel
theorem dX8_place_62 : decode cX8_place 62 = .ok (.lcmp, 1) := by decide +kernel
theorem dX8_place_63 : decode cX8_place 63 = .ok (.ifCond .ne 5, 3) := by decide +kernel
theorem dX8_place_66 : decode cX8_place 66 = .ok (.iconst 0, 1) := by decide +kernel
theorem dX8_place_67 : decode cX8_place 67 = .ok (.ireturn, 1) := by decide +kernel
theorem dX8_place_68 : decode cX8_place 68 = .ok (.aload_n 0, 1) := by decide +kernel
theorem dX8_place_69 : decode cX8_place 69 = .ok (.getfield 26, 3) := by decide +kernel
theorem dX8_place_72 : decode cX8_place 72 = .ok (.iload_n 1, 1) := by decide +kernel
theorem dX8_place_73 : decode cX8_place 73 = .ok (.lload_n 2, 1) := by decide +kernel
theorem dX8_place_74 : decode cX8_place 74 = .ok (.lastore, 1) := by decide +kernel
theorem dX8_place_75 : decode cX8_place 75 = .ok (.aload_n 0, 1) := by decide +kernel
theorem dX8_place_76 : decode cX8_place 76 = .ok (.getfield 30, 3) := by decide +kernel
theorem dX8_place_79 : decode cX8_place 79 = .ok (.iload_n 1, 1) := by decide +kernel
theorem dX8_place_80 : decode cX8_place 80 = .ok (.lload 4, 2) := by decide +kernel
theorem dX8_place_82 : decode cX8_place 82 = .ok (.lastore, 1) := by decide +kernel
theorem dX8_place_83 : decode cX8_place 83 = .ok (.aload_n 0, 1) := by decide +kernel
theorem dX8_place_84 : decode cX8_place 84 = .ok (.iconst 0, 1) := by decide +kernel
theorem dX8_place_85 : decode cX8_place 85 = .ok (.putfield 98, 3) := by decide +kernel
theorem dX8_place_88 : decode cX8_place 88 = .ok (.iconst 1, 1) := by decide +kernel
theorem dX8_place_89 : decode cX8_place 89 = .ok (.ireturn, 1) := by decide +kernel
theorem dX8_spare_0 : decode cX8_spare 0 = .ok (.aload_n 0, 1) := by decide +kernel
theorem dX8_spare_1 : decode cX8_spare 1 = .ok (.aload_n 0, 1) := by decide +kernel
theorem dX8_spare_2 : decode cX8_spare 2 = .ok (.getfield 136, 3) := by decide +kernel
theorem dX8_spare_5 : decode cX8_spare 5 = .ok (.bipush 6, 2) := by decide +kernel
theorem dX8_spare_7 : decode cX8_spare 7 = .ok (.if_icmp .ne 7, 3) := by decide +kernel
theorem dX8_spare_10 : decode cX8_spare 10 = .ok (.iconst 1, 1) := by decide +kernel
theorem dX8_spare_11 : decode cX8_spare 11 = .ok (.goto 22, 3) := by decide +kernel
theorem dX8_spare_14 : decode cX8_spare 14 = .ok (.lload_n 1, 1) := by decide +kernel
theorem dX8_spare_15 : decode cX8_spare 15 = .ok (.invokestatic 132, 3) := by decide +kernel
theorem dX8_spare_18 : decode cX8_spare 18 = .ok (.ifCond .eq 14, 3) := by decide +kernel
theorem dX8_spare_21 : decode cX8_spare 21 = .ok (.lload_n 3, 1) := by decide +kernel
theorem dX8_spare_22 : decode cX8_spare 22 = .ok (.invokestatic 132, 3) := by decide +kernel
theorem dX8_spare_25 : decode cX8_spare 25 = .ok (.ifCond .eq 7, 3) := by decide +kernel
theorem dX8_spare_28 : decode cX8_spare 28 = .ok (.iconst 0, 1) := by decide +kernel
theorem dX8_spare_29 : decode cX8_spare 29 = .ok (.goto 4, 3) := by decide +kernel
theorem dX8_spare_32 : decode cX8_spare 32 = .ok (.iconst 2, 1) := by decide +kernel
theorem dX8_spare_33 : decode cX8_spare 33 = .ok (.putfield 72, 3) := by decide +kernel
theorem dX8_spare_36 : decode cX8_spare 36 = .ok (.aload_n 0, 1) := by decide +kernel
theorem dX8_spare_37 : decode cX8_spare 37 = .ok (.getfield 72, 3) := by decide +kernel
theorem dX8_spare_40 : decode cX8_spare 40 = .ok (.ifCond .le 5, 3) := by decide +kernel
theorem dX8_spare_43 : decode cX8_spare 43 = .ok (.iconst 0, 1) := by decide +kernel
theorem dX8_spare_44 : decode cX8_spare 44 = .ok (.ireturn, 1) := by decide +kernel
theorem dX8_spare_45 : decode cX8_spare 45 = .ok (.aload_n 0, 1) := by decide +kernel
theorem dX8_spare_46 : decode cX8_spare 46 = .ok (.getfield 39, 3) := by decide +kernel
theorem dX8_spare_49 : decode cX8_spare 49 = .ok (.aload_n 0, 1) := by decide +kernel
theorem dX8_spare_50 : decode cX8_spare 50 = .ok (.getfield 136, 3) := by decide +kernel
theorem dX8_spare_53 : decode cX8_spare 53 = .ok (.lload_n 1, 1) := by decide +kernel
theorem dX8_spare_54 : decode cX8_spare 54 = .ok (.lastore, 1) := by decide +kernel
theorem dX8_spare_55 : decode cX8_spare 55 = .ok (.aload_n 0, 1) := by decide +kernel
theorem dX8_spare_56 : decode cX8_spare 56 = .ok (.getfield 42, 3) := by decide +kernel
theorem dX8_spare_59 : decode cX8_spare 59 = .ok (.aload_n 0, 1) := by decide +kernel
theorem dX8_spare_60 : decode cX8_spare 60 = .ok (.getfield 136, 3) := by decide +kernel
theorem dX8_spare_63 : decode cX8_spare 63 = .ok (.lload_n 3, 1) := by decide +kernel
theorem dX8_spare_64 : decode cX8_spare 64 = .ok (.lastore, 1) := by decide +kernel
theorem dX8_spare_65 : decode cX8_spare 65 = .ok (.aload_n 0, 1) := by decide +kernel
theorem dX8_spare_66 : decode cX8_spare 66 = .ok (.dup, 1) := by decide +kernel
theorem dX8_spare_67 : decode cX8_spare 67 = .ok (.getfield 136, 3) := by decide +kernel
theorem dX8_spare_70 : decode cX8_spare 70 = .ok (.iconst 1, 1) := by decide +kernel
theorem dX8_spare_71 : decode cX8_spare 71 = .ok (.iadd, 1) := by decide +kernel
theorem dX8_spare_72 : decode cX8_spare 72 = .ok (.putfield 136, 3) := by decide +kernel
theorem dX8_spare_75 : decode cX8_spare 75 = .ok (.aload_n 0, 1) := by decide +kernel
theorem dX8_spare_76 : decode cX8_spare 76 = .ok (.iconst 0, 1) := by decide +kernel
theorem dX8_spare_77 : decode cX8_spare 77 = .ok (.putfield 98, 3) := by decide +kernel
theorem dX8_spare_80 : decode cX8_spare 80 = .ok (.aload_n 0, 1) := by decide +kernel
theorem dX8_spare_81 : decode cX8_spare 81 = .ok (.getfield 136, 3) := by decide +kernel
theorem dX8_spare_84 : decode cX8_spare 84 = .ok (.iconst 1, 1) := by decide +kernel
theorem dX8_spare_85 : decode cX8_spare 85 = .ok (.isub, 1) := by decide +kernel
theorem dX8_spare_86 : decode cX8_spare 86 = .ok (.ireturn, 1) := by decide +kernel
theorem dX8_isFree_0 : decode cX8_isFree 0 = .ok (.aload_n 0, 1) := by decide +kernel
theorem dX8_isFree_1 : decode cX8_isFree 1 = .ok (.getfield 7, 3) := by decide +kernel
theorem dX8_isFree_4 : decode cX8_isFree 4 = .ok (.iload_n 1, 1) := by decide +kernel
theorem dX8_isFree_5 : decode cX8_isFree 5 = .ok (.iaload, 1) := by decide +kernel
theorem dX8_isFree_6 : decode cX8_isFree 6 = .ok (.iconst 2, 1) := by decide +kernel
theorem dX8_isFree_7 : decode cX8_isFree 7 = .ok (.if_icmp .ne 16, 3) := by decide +kernel
theorem dX8_isFree_10 : decode cX8_isFree 10 = .ok (.aload_n 0, 1) := by decide +kernel
theorem dX8_isFree_11 : decode cX8_isFree 11 = .ok (.getfield 22, 3) := by decide +kernel
theorem dX8_isFree_14 : decode cX8_isFree 14 = .ok (.iload_n 1, 1) := by decide +kernel
theorem dX8_isFree_15 : decode cX8_isFree 15 = .ok (.baload, 1) := by decide +kernel
theorem dX8_isFree_16 : decode cX8_isFree 16 = .ok (.ifCond .ne 7, 3) := by decide +kernel
theorem dX8_isFree_19 : decode cX8_isFree 19 = .ok (.iconst 1, 1) := by decide +kernel
theorem dX8_isFree_20 : decode cX8_isFree 20 = .ok (.goto 4, 3) := by decide +kernel
theorem dX8_isFree_23 : decode cX8_isFree 23 = .ok (.iconst 0, 1) := by decide +kernel
theorem dX8_isFree_24 : decode cX8_isFree 24 = .ok (.ireturn, 1) := by decide +kernel
theorem dX8_mayBe_0 : decode cX8_mayBe 0 = .ok (.aload_n 0, 1) := by decide +kernel
theorem dX8_mayBe_1 : decode cX8_mayBe 1 = .ok (.getfield 7, 3) := by decide +kernel
theorem dX8_mayBe_4 : decode cX8_mayBe 4 = .ok (.iload_n 1, 1) := by decide +kernel
theorem dX8_mayBe_5 : decode cX8_mayBe 5 = .ok (.iconst 2, 1) := by decide +kernel
theorem dX8_mayBe_6 : decode cX8_mayBe 6 = .ok (.idiv, 1) := by decide +kernel
theorem dX8_mayBe_7 : decode cX8_mayBe 7 = .ok (.iaload, 1) := by decide +kernel
theorem dX8_mayBe_8 : decode cX8_mayBe 8 = .ok (.iconst 3, 1) := by decide +kernel
theorem dX8_mayBe_9 : decode cX8_mayBe 9 = .ok (.if_icmp .eq 7, 3) := by decide +kernel
theorem dX8_mayBe_12 : decode cX8_mayBe 12 = .ok (.iconst 1, 1) := by decide +kernel
theorem dX8_mayBe_13 : decode cX8_mayBe 13 = .ok (.goto 4, 3) := by decide +kernel
theorem dX8_mayBe_16 : decode cX8_mayBe 16 = .ok (.iconst 0, 1) := by decide +kernel
theorem dX8_mayBe_17 : decode cX8_mayBe 17 = .ok (.ireturn, 1) := by decide +kernel
theorem dX8_tryAt_0 : decode cX8_tryAt 0 = .ok (.aload_n 0, 1) := by decide +kernel
theorem dX8_tryAt_1 : decode cX8_tryAt 1 = .ok (.getfield 13, 3) := by decide +kernel
theorem dX8_tryAt_4 : decode cX8_tryAt 4 = .ok (.iload_n 1, 1) := by decide +kernel
theorem dX8_tryAt_5 : decode cX8_tryAt 5 = .ok (.iaload, 1) := by decide +kernel
theorem dX8_tryAt_6 : decode cX8_tryAt 6 = .ok (.istore_n 3, 1) := by decide +kernel
theorem dX8_tryAt_7 : decode cX8_tryAt 7 = .ok (.aload_n 0, 1) := by decide +kernel
theorem dX8_tryAt_8 : decode cX8_tryAt 8 = .ok (.getfield 16, 3) := by decide +kernel
theorem dX8_tryAt_11 : decode cX8_tryAt 11 = .ok (.iload_n 1, 1) := by decide +kernel
theorem dX8_tryAt_12 : decode cX8_tryAt 12 = .ok (.iaload, 1) := by decide +kernel
theorem dX8_tryAt_13 : decode cX8_tryAt 13 = .ok (.istore 4, 2) := by decide +kernel
theorem dX8_tryAt_15 : decode cX8_tryAt 15 = .ok (.iconst 0, 1) := by decide +kernel
theorem dX8_tryAt_16 : decode cX8_tryAt 16 = .ok (.istore 5, 2) := by decide +kernel
theorem dX8_tryAt_18 : decode cX8_tryAt 18 = .ok (.iconst 0, 1) := by decide +kernel
theorem dX8_tryAt_19 : decode cX8_tryAt 19 = .ok (.istore 6, 2) := by decide +kernel
theorem dX8_tryAt_21 : decode cX8_tryAt 21 = .ok (.iload 6, 2) := by decide +kernel
theorem dX8_tryAt_23 : decode cX8_tryAt 23 = .ok (.iconst 2, 1) := by decide +kernel
theorem dX8_tryAt_24 : decode cX8_tryAt 24 = .ok (.iload_n 1, 1) := by decide +kernel
theorem dX8_tryAt_25 : decode cX8_tryAt 25 = .ok (.imul, 1) := by decide +kernel
theorem dX8_tryAt_26 : decode cX8_tryAt 26 = .ok (.if_icmp .ge 134, 3) := by decide +kernel
theorem dX8_tryAt_29 : decode cX8_tryAt 29 = .ok (.iload 5, 2) := by decide +kernel
theorem dX8_tryAt_31 : decode cX8_tryAt 31 = .ok (.ifCond .ne 129, 3) := by decide +kernel
theorem dX8_tryAt_34 : decode cX8_tryAt 34 = .ok (.iload 6, 2) := by decide +kernel
theorem dX8_tryAt_36 : decode cX8_tryAt 36 = .ok (.istore 7, 2) := by decide +kernel
theorem dX8_tryAt_38 : decode cX8_tryAt 38 = .ok (.iload 7, 2) := by decide +kernel
theorem dX8_tryAt_40 : decode cX8_tryAt 40 = .ok (.iconst 2, 1) := by decide +kernel
theorem dX8_tryAt_41 : decode cX8_tryAt 41 = .ok (.iload_n 1, 1) := by decide +kernel
theorem dX8_tryAt_42 : decode cX8_tryAt 42 = .ok (.imul, 1) := by decide +kernel
theorem dX8_tryAt_43 : decode cX8_tryAt 43 = .ok (.if_icmp .ge 111, 3) := by decide +kernel
theorem dX8_tryAt_46 : decode cX8_tryAt 46 = .ok (.iload 5, 2) := by decide +kernel
theorem dX8_tryAt_48 : decode cX8_tryAt 48 = .ok (.ifCond .ne 106, 3) := by decide +kernel
theorem dX8_tryAt_51 : decode cX8_tryAt 51 = .ok (.aload_n 0, 1) := by decide +kernel
theorem dX8_tryAt_52 : decode cX8_tryAt 52 = .ok (.iload 6, 2) := by decide +kernel
theorem dX8_tryAt_54 : decode cX8_tryAt 54 = .ok (.invokevirtual 139, 3) := by decide +kernel
theorem dX8_tryAt_57 : decode cX8_tryAt 57 = .ok (.ifCond .eq 91, 3) := by decide +kernel
theorem dX8_tryAt_60 : decode cX8_tryAt 60 = .ok (.aload_n 0, 1) := by decide +kernel
theorem dX8_tryAt_61 : decode cX8_tryAt 61 = .ok (.iload 7, 2) := by decide +kernel
theorem dX8_tryAt_63 : decode cX8_tryAt 63 = .ok (.invokevirtual 139, 3) := by decide +kernel
theorem dX8_tryAt_66 : decode cX8_tryAt 66 = .ok (.ifCond .ne 6, 3) := by decide +kernel
theorem dX8_tryAt_69 : decode cX8_tryAt 69 = .ok (.goto 79, 3) := by decide +kernel
theorem dX8_tryAt_72 : decode cX8_tryAt 72 = .ok (.aload_n 0, 1) := by decide +kernel
theorem dX8_tryAt_73 : decode cX8_tryAt 73 = .ok (.getfield 13, 3) := by decide +kernel
theorem dX8_tryAt_76 : decode cX8_tryAt 76 = .ok (.iload_n 1, 1) := by decide +kernel
theorem dX8_tryAt_77 : decode cX8_tryAt 77 = .ok (.iload 6, 2) := by decide +kernel
theorem dX8_tryAt_79 : decode cX8_tryAt 79 = .ok (.iastore, 1) := by decide +kernel
theorem dX8_tryAt_80 : decode cX8_tryAt 80 = .ok (.aload_n 0, 1) := by decide +kernel
theorem dX8_tryAt_81 : decode cX8_tryAt 81 = .ok (.getfield 16, 3) := by decide +kernel
theorem dX8_tryAt_84 : decode cX8_tryAt 84 = .ok (.iload_n 1, 1) := by decide +kernel
theorem dX8_tryAt_85 : decode cX8_tryAt 85 = .ok (.iload 7, 2) := by decide +kernel
theorem dX8_tryAt_87 : decode cX8_tryAt 87 = .ok (.iastore, 1) := by decide +kernel
theorem dX8_tryAt_88 : decode cX8_tryAt 88 = .ok (.aload_n 0, 1) := by decide +kernel
theorem dX8_tryAt_89 : decode cX8_tryAt 89 = .ok (.iload_n 1, 1) := by decide +kernel
theorem dX8_tryAt_90 : decode cX8_tryAt 90 = .ok (.invokevirtual 142, 3) := by decide +kernel
theorem dX8_tryAt_93 : decode cX8_tryAt 93 = .ok (.iload_n 2, 1) := by decide +kernel
theorem dX8_tryAt_94 : decode cX8_tryAt 94 = .ok (.iconst (-1), 1) := by decide +kernel
theorem dX8_tryAt_95 : decode cX8_tryAt 95 = .ok (.if_icmp .ne 18, 3) := by decide +kernel
theorem dX8_tryAt_98 : decode cX8_tryAt 98 = .ok (.aload_n 0, 1) := by decide +kernel
theorem dX8_tryAt_99 : decode cX8_tryAt 99 = .ok (.invokevirtual 121, 3) := by decide +kernel
theorem dX8_tryAt_102 : decode cX8_tryAt 102 = .ok (.ifCond .ne 7, 3) := by decide +kernel
theorem dX8_tryAt_105 : decode cX8_tryAt 105 = .ok (.iconst 1, 1) := by decide +kernel
theorem dX8_tryAt_106 : decode cX8_tryAt 106 = .ok (.goto 12, 3) := by decide +kernel
theorem dX8_tryAt_109 : decode cX8_tryAt 109 = .ok (.iconst 0, 1) := by decide +kernel
theorem dX8_tryAt_110 : decode cX8_tryAt 110 = .ok (.goto 8, 3) := by decide +kernel
theorem dX8_tryAt_113 : decode cX8_tryAt 113 = .ok (.aload_n 0, 1) := by decide +kernel
theorem dX8_tryAt_114 : decode cX8_tryAt 114 = .ok (.iload_n 2, 1) := by decide +kernel
theorem dX8_tryAt_115 : decode cX8_tryAt 115 = .ok (.invokevirtual 145, 3) := by decide +kernel
theorem dX8_tryAt_118 : decode cX8_tryAt 118 = .ok (.istore 5, 2) := by decide +kernel
theorem dX8_tryAt_120 : decode cX8_tryAt 120 = .ok (.iload 5, 2) := by decide +kernel
theorem dX8_tryAt_122 : decode cX8_tryAt 122 = .ok (.ifCond .eq 26, 3) := by decide +kernel
theorem dX8_tryAt_125 : decode cX8_tryAt 125 = .ok (.aload_n 0, 1) := by decide +kernel
theorem dX8_tryAt_126 : decode cX8_tryAt 126 = .ok (.getfield 45, 3) := by decide +kernel
theorem dX8_tryAt_129 : decode cX8_tryAt 129 = .ok (.iconst 0, 1) := by decide +kernel
theorem dX8_tryAt_130 : decode cX8_tryAt 130 = .ok (.iload_n 1, 1) := by decide +kernel
theorem dX8_tryAt_131 : decode cX8_tryAt 131 = .ok (.iastore, 1) := by decide +kernel
theorem dX8_tryAt_132 : decode cX8_tryAt 132 = .ok (.aload_n 0, 1) := by decide +kernel
theorem dX8_tryAt_133 : decode cX8_tryAt 133 = .ok (.getfield 48, 3) := by decide +kernel
theorem dX8_tryAt_136 : decode cX8_tryAt 136 = .ok (.iconst 0, 1) := by decide +kernel
theorem dX8_tryAt_137 : decode cX8_tryAt 137 = .ok (.iload 6, 2) := by decide +kernel
theorem dX8_tryAt_139 : decode cX8_tryAt 139 = .ok (.iastore, 1) := by decide +kernel
theorem dX8_tryAt_140 : decode cX8_tryAt 140 = .ok (.aload_n 0, 1) := by decide +kernel
theorem dX8_tryAt_141 : decode cX8_tryAt 141 = .ok (.getfield 51, 3) := by decide +kernel
theorem dX8_tryAt_144 : decode cX8_tryAt 144 = .ok (.iconst 0, 1) := by decide +kernel
theorem dX8_tryAt_145 : decode cX8_tryAt 145 = .ok (.iload 7, 2) := by decide +kernel
theorem dX8_tryAt_147 : decode cX8_tryAt 147 = .ok (.iastore, 1) := by decide +kernel
theorem dX8_tryAt_148 : decode cX8_tryAt 148 = .ok (.iinc 7 1, 3) := by decide +kernel
theorem dX8_tryAt_151 : decode cX8_tryAt 151 = .ok (.goto (-113), 3) := by decide +kernel
theorem dX8_tryAt_154 : decode cX8_tryAt 154 = .ok (.iinc 6 1, 3) := by decide +kernel
theorem dX8_tryAt_157 : decode cX8_tryAt 157 = .ok (.goto (-136), 3) := by decide +kernel
theorem dX8_tryAt_160 : decode cX8_tryAt 160 = .ok (.aload_n 0, 1) := by decide +kernel
theorem dX8_tryAt_161 : decode cX8_tryAt 161 = .ok (.getfield 13, 3) := by decide +kernel
theorem dX8_tryAt_164 : decode cX8_tryAt 164 = .ok (.iload_n 1, 1) := by decide +kernel
theorem dX8_tryAt_165 : decode cX8_tryAt 165 = .ok (.iload_n 3, 1) := by decide +kernel
theorem dX8_tryAt_166 : decode cX8_tryAt 166 = .ok (.iastore, 1) := by decide +kernel
theorem dX8_tryAt_167 : decode cX8_tryAt 167 = .ok (.aload_n 0, 1) := by decide +kernel
theorem dX8_tryAt_168 : decode cX8_tryAt 168 = .ok (.getfield 16, 3) := by decide +kernel
theorem dX8_tryAt_171 : decode cX8_tryAt 171 = .ok (.iload_n 1, 1) := by decide +kernel
theorem dX8_tryAt_172 : decode cX8_tryAt 172 = .ok (.iload 4, 2) := by decide +kernel
theorem dX8_tryAt_174 : decode cX8_tryAt 174 = .ok (.iastore, 1) := by decide +kernel
theorem dX8_tryAt_175 : decode cX8_tryAt 175 = .ok (.aload_n 0, 1) := by decide +kernel
theorem dX8_tryAt_176 : decode cX8_tryAt 176 = .ok (.iload_n 1, 1) := by decide +kernel
theorem dX8_tryAt_177 : decode cX8_tryAt 177 = .ok (.invokevirtual 142, 3) := by decide +kernel
theorem dX8_tryAt_180 : decode cX8_tryAt 180 = .ok (.iload 5, 2) := by decide +kernel
theorem dX8_tryAt_182 : decode cX8_tryAt 182 = .ok (.ireturn, 1) := by decide +kernel
theorem dX8_trySecond_0 : decode cX8_trySecond 0 = .ok (.aload_n 0, 1) := by decide +kernel
theorem dX8_trySecond_1 : decode cX8_trySecond 1 = .ok (.getfield 13, 3) := by decide +kernel
theorem dX8_trySecond_4 : decode cX8_trySecond 4 = .ok (.iload_n 1, 1) := by decide +kernel
theorem dX8_trySecond_5 : decode cX8_trySecond 5 = .ok (.iaload, 1) := by decide +kernel
theorem dX8_trySecond_6 : decode cX8_trySecond 6 = .ok (.istore_n 2, 1) := by decide +kernel
theorem dX8_trySecond_7 : decode cX8_trySecond 7 = .ok (.aload_n 0, 1) := by decide +kernel
theorem dX8_trySecond_8 : decode cX8_trySecond 8 = .ok (.getfield 16, 3) := by decide +kernel
theorem dX8_trySecond_11 : decode cX8_trySecond 11 = .ok (.iload_n 1, 1) := by decide +kernel
theorem dX8_trySecond_12 : decode cX8_trySecond 12 = .ok (.iaload, 1) := by decide +kernel
theorem dX8_trySecond_13 : decode cX8_trySecond 13 = .ok (.istore_n 3, 1) := by decide +kernel
theorem dX8_trySecond_14 : decode cX8_trySecond 14 = .ok (.iconst 0, 1) := by decide +kernel
theorem dX8_trySecond_15 : decode cX8_trySecond 15 = .ok (.istore 4, 2) := by decide +kernel
theorem dX8_trySecond_17 : decode cX8_trySecond 17 = .ok (.iconst 0, 1) := by decide +kernel
theorem dX8_trySecond_18 : decode cX8_trySecond 18 = .ok (.istore 5, 2) := by decide +kernel
theorem dX8_trySecond_20 : decode cX8_trySecond 20 = .ok (.iload 5, 2) := by decide +kernel
theorem dX8_trySecond_22 : decode cX8_trySecond 22 = .ok (.iconst 2, 1) := by decide +kernel
theorem dX8_trySecond_23 : decode cX8_trySecond 23 = .ok (.iload_n 1, 1) := by decide +kernel
theorem dX8_trySecond_24 : decode cX8_trySecond 24 = .ok (.imul, 1) := by decide +kernel
theorem dX8_trySecond_25 : decode cX8_trySecond 25 = .ok (.if_icmp .ge 121, 3) := by decide +kernel
theorem dX8_trySecond_28 : decode cX8_trySecond 28 = .ok (.iload 4, 2) := by decide +kernel
theorem dX8_trySecond_30 : decode cX8_trySecond 30 = .ok (.ifCond .ne 116, 3) := by decide +kernel
theorem dX8_trySecond_33 : decode cX8_trySecond 33 = .ok (.iload 5, 2) := by decide +kernel
theorem dX8_trySecond_35 : decode cX8_trySecond 35 = .ok (.istore 6, 2) := by decide +kernel
theorem dX8_trySecond_37 : decode cX8_trySecond 37 = .ok (.iload 6, 2) := by decide +kernel
theorem dX8_trySecond_39 : decode cX8_trySecond 39 = .ok (.iconst 2, 1) := by decide +kernel
theorem dX8_trySecond_40 : decode cX8_trySecond 40 = .ok (.iload_n 1, 1) := by decide +kernel
theorem dX8_trySecond_41 : decode cX8_trySecond 41 = .ok (.imul, 1) := by decide +kernel
theorem dX8_trySecond_42 : decode cX8_trySecond 42 = .ok (.if_icmp .ge 98, 3) := by decide +kernel
theorem dX8_trySecond_45 : decode cX8_trySecond 45 = .ok (.iload 4, 2) := by decide +kernel
theorem dX8_trySecond_47 : decode cX8_trySecond 47 = .ok (.ifCond .ne 93, 3) := by decide +kernel
theorem dX8_trySecond_50 : decode cX8_trySecond 50 = .ok (.aload_n 0, 1) := by decide +kernel
theorem dX8_trySecond_51 : decode cX8_trySecond 51 = .ok (.iload 5, 2) := by decide +kernel
theorem dX8_trySecond_53 : decode cX8_trySecond 53 = .ok (.invokevirtual 139, 3) := by decide +kernel
theorem dX8_trySecond_56 : decode cX8_trySecond 56 = .ok (.ifCond .eq 78, 3) := by decide +kernel
theorem dX8_trySecond_59 : decode cX8_trySecond 59 = .ok (.aload_n 0, 1) := by decide +kernel
theorem dX8_trySecond_60 : decode cX8_trySecond 60 = .ok (.iload 6, 2) := by decide +kernel
theorem dX8_trySecond_62 : decode cX8_trySecond 62 = .ok (.invokevirtual 139, 3) := by decide +kernel
theorem dX8_trySecond_65 : decode cX8_trySecond 65 = .ok (.ifCond .ne 6, 3) := by decide +kernel
theorem dX8_trySecond_68 : decode cX8_trySecond 68 = .ok (.goto 66, 3) := by decide +kernel
theorem dX8_trySecond_71 : decode cX8_trySecond 71 = .ok (.aload_n 0, 1) := by decide +kernel
theorem dX8_trySecond_72 : decode cX8_trySecond 72 = .ok (.getfield 13, 3) := by decide +kernel
theorem dX8_trySecond_75 : decode cX8_trySecond 75 = .ok (.iload_n 1, 1) := by decide +kernel
theorem dX8_trySecond_76 : decode cX8_trySecond 76 = .ok (.iload 5, 2) := by decide +kernel
theorem dX8_trySecond_78 : decode cX8_trySecond 78 = .ok (.iastore, 1) := by decide +kernel
theorem dX8_trySecond_79 : decode cX8_trySecond 79 = .ok (.aload_n 0, 1) := by decide +kernel
theorem dX8_trySecond_80 : decode cX8_trySecond 80 = .ok (.getfield 16, 3) := by decide +kernel
theorem dX8_trySecond_83 : decode cX8_trySecond 83 = .ok (.iload_n 1, 1) := by decide +kernel
theorem dX8_trySecond_84 : decode cX8_trySecond 84 = .ok (.iload 6, 2) := by decide +kernel
theorem dX8_trySecond_86 : decode cX8_trySecond 86 = .ok (.iastore, 1) := by decide +kernel
theorem dX8_trySecond_87 : decode cX8_trySecond 87 = .ok (.aload_n 0, 1) := by decide +kernel
theorem dX8_trySecond_88 : decode cX8_trySecond 88 = .ok (.iload_n 1, 1) := by decide +kernel
theorem dX8_trySecond_89 : decode cX8_trySecond 89 = .ok (.invokevirtual 142, 3) := by decide +kernel
theorem dX8_trySecond_92 : decode cX8_trySecond 92 = .ok (.aload_n 0, 1) := by decide +kernel
theorem dX8_trySecond_93 : decode cX8_trySecond 93 = .ok (.invokevirtual 121, 3) := by decide +kernel
theorem dX8_trySecond_96 : decode cX8_trySecond 96 = .ok (.ifCond .ne 7, 3) := by decide +kernel
theorem dX8_trySecond_99 : decode cX8_trySecond 99 = .ok (.iconst 1, 1) := by decide +kernel
theorem dX8_trySecond_100 : decode cX8_trySecond 100 = .ok (.goto 4, 3) := by decide +kernel
theorem dX8_trySecond_103 : decode cX8_trySecond 103 = .ok (.iconst 0, 1) := by decide +kernel
theorem dX8_trySecond_104 : decode cX8_trySecond 104 = .ok (.istore 4, 2) := by decide +kernel
theorem dX8_trySecond_106 : decode cX8_trySecond 106 = .ok (.iload 4, 2) := by decide +kernel
theorem dX8_trySecond_108 : decode cX8_trySecond 108 = .ok (.ifCond .eq 26, 3) := by decide +kernel
theorem dX8_trySecond_111 : decode cX8_trySecond 111 = .ok (.aload_n 0, 1) := by decide +kernel
theorem dX8_trySecond_112 : decode cX8_trySecond 112 = .ok (.getfield 45, 3) := by decide +kernel
theorem dX8_trySecond_115 : decode cX8_trySecond 115 = .ok (.iconst 1, 1) := by decide +kernel
theorem dX8_trySecond_116 : decode cX8_trySecond 116 = .ok (.iload_n 1, 1) := by decide +kernel
theorem dX8_trySecond_117 : decode cX8_trySecond 117 = .ok (.iastore, 1) := by decide +kernel
theorem dX8_trySecond_118 : decode cX8_trySecond 118 = .ok (.aload_n 0, 1) := by decide +kernel
theorem dX8_trySecond_119 : decode cX8_trySecond 119 = .ok (.getfield 48, 3) := by decide +kernel
theorem dX8_trySecond_122 : decode cX8_trySecond 122 = .ok (.iconst 1, 1) := by decide +kernel
theorem dX8_trySecond_123 : decode cX8_trySecond 123 = .ok (.iload 5, 2) := by decide +kernel
theorem dX8_trySecond_125 : decode cX8_trySecond 125 = .ok (.iastore, 1) := by decide +kernel
theorem dX8_trySecond_126 : decode cX8_trySecond 126 = .ok (.aload_n 0, 1) := by decide +kernel
theorem dX8_trySecond_127 : decode cX8_trySecond 127 = .ok (.getfield 51, 3) := by decide +kernel
theorem dX8_trySecond_130 : decode cX8_trySecond 130 = .ok (.iconst 1, 1) := by decide +kernel
theorem dX8_trySecond_131 : decode cX8_trySecond 131 = .ok (.iload 6, 2) := by decide +kernel
theorem dX8_trySecond_133 : decode cX8_trySecond 133 = .ok (.iastore, 1) := by decide +kernel
theorem dX8_trySecond_134 : decode cX8_trySecond 134 = .ok (.iinc 6 1, 3) := by decide +kernel
theorem dX8_trySecond_137 : decode cX8_trySecond 137 = .ok (.goto (-100), 3) := by decide +kernel
theorem dX8_trySecond_140 : decode cX8_trySecond 140 = .ok (.iinc 5 1, 3) := by decide +kernel
theorem dX8_trySecond_143 : decode cX8_trySecond 143 = .ok (.goto (-123), 3) := by decide +kernel
theorem dX8_trySecond_146 : decode cX8_trySecond 146 = .ok (.aload_n 0, 1) := by decide +kernel
theorem dX8_trySecond_147 : decode cX8_trySecond 147 = .ok (.getfield 13, 3) := by decide +kernel
theorem dX8_trySecond_150 : decode cX8_trySecond 150 = .ok (.iload_n 1, 1) := by decide +kernel
theorem dX8_trySecond_151 : decode cX8_trySecond 151 = .ok (.iload_n 2, 1) := by decide +kernel
theorem dX8_trySecond_152 : decode cX8_trySecond 152 = .ok (.iastore, 1) := by decide +kernel
theorem dX8_trySecond_153 : decode cX8_trySecond 153 = .ok (.aload_n 0, 1) := by decide +kernel
theorem dX8_trySecond_154 : decode cX8_trySecond 154 = .ok (.getfield 16, 3) := by decide +kernel
theorem dX8_trySecond_157 : decode cX8_trySecond 157 = .ok (.iload_n 1, 1) := by decide +kernel
theorem dX8_trySecond_158 : decode cX8_trySecond 158 = .ok (.iload_n 3, 1) := by decide +kernel
theorem dX8_trySecond_159 : decode cX8_trySecond 159 = .ok (.iastore, 1) := by decide +kernel
theorem dX8_trySecond_160 : decode cX8_trySecond 160 = .ok (.aload_n 0, 1) := by decide +kernel
theorem dX8_trySecond_161 : decode cX8_trySecond 161 = .ok (.iload_n 1, 1) := by decide +kernel
theorem dX8_trySecond_162 : decode cX8_trySecond 162 = .ok (.invokevirtual 142, 3) := by decide +kernel
theorem dX8_trySecond_165 : decode cX8_trySecond 165 = .ok (.iload 4, 2) := by decide +kernel
theorem dX8_trySecond_167 : decode cX8_trySecond 167 = .ok (.ireturn, 1) := by decide +kernel
theorem dX8_search_0 : decode cX8_search 0 = .ok (.iload_n 1, 1) := by decide +kernel
theorem dX8_search_1 : decode cX8_search 1 = .ok (.ifCond .ne 16, 3) := by decide +kernel
theorem dX8_search_4 : decode cX8_search 4 = .ok (.aload_n 0, 1) := by decide +kernel
theorem dX8_search_5 : decode cX8_search 5 = .ok (.invokevirtual 121, 3) := by decide +kernel
theorem dX8_search_8 : decode cX8_search 8 = .ok (.ifCond .ne 7, 3) := by decide +kernel
theorem dX8_search_11 : decode cX8_search 11 = .ok (.iconst 1, 1) := by decide +kernel
theorem dX8_search_12 : decode cX8_search 12 = .ok (.goto 4, 3) := by decide +kernel
theorem dX8_search_15 : decode cX8_search 15 = .ok (.iconst 0, 1) := by decide +kernel
theorem dX8_search_16 : decode cX8_search 16 = .ok (.ireturn, 1) := by decide +kernel
theorem dX8_search_17 : decode cX8_search 17 = .ok (.iconst 0, 1) := by decide +kernel
theorem dX8_search_18 : decode cX8_search 18 = .ok (.istore_n 2, 1) := by decide +kernel
theorem dX8_search_19 : decode cX8_search 19 = .ok (.iload_n 2, 1) := by decide +kernel
theorem dX8_search_20 : decode cX8_search 20 = .ok (.aload_n 0, 1) := by decide +kernel
theorem dX8_search_21 : decode cX8_search 21 = .ok (.getfield 76, 3) := by decide +kernel
theorem dX8_search_24 : decode cX8_search 24 = .ok (.if_icmp .ge 78, 3) := by decide +kernel
theorem dX8_search_27 : decode cX8_search 27 = .ok (.aload_n 0, 1) := by decide +kernel
theorem dX8_search_28 : decode cX8_search 28 = .ok (.iload_n 2, 1) := by decide +kernel
theorem dX8_search_29 : decode cX8_search 29 = .ok (.invokevirtual 148, 3) := by decide +kernel
theorem dX8_search_32 : decode cX8_search 32 = .ok (.ifCond .ne 6, 3) := by decide +kernel
theorem dX8_search_35 : decode cX8_search 35 = .ok (.goto 61, 3) := by decide +kernel
theorem dX8_search_38 : decode cX8_search 38 = .ok (.iload_n 1, 1) := by decide +kernel
theorem dX8_search_39 : decode cX8_search 39 = .ok (.iconst 1, 1) := by decide +kernel
theorem dX8_search_40 : decode cX8_search 40 = .ok (.if_icmp .ne 14, 3) := by decide +kernel
theorem dX8_search_43 : decode cX8_search 43 = .ok (.aload_n 0, 1) := by decide +kernel
theorem dX8_search_44 : decode cX8_search 44 = .ok (.iload_n 2, 1) := by decide +kernel
theorem dX8_search_45 : decode cX8_search 45 = .ok (.iconst (-1), 1) := by decide +kernel
theorem dX8_search_46 : decode cX8_search 46 = .ok (.invokevirtual 151, 3) := by decide +kernel
theorem dX8_search_49 : decode cX8_search 49 = .ok (.ifCond .eq 5, 3) := by decide +kernel
theorem dX8_search_52 : decode cX8_search 52 = .ok (.iconst 1, 1) := by decide +kernel
theorem dX8_search_53 : decode cX8_search 53 = .ok (.ireturn, 1) := by decide +kernel
theorem dX8_search_54 : decode cX8_search 54 = .ok (.iload_n 2, 1) := by decide +kernel
theorem dX8_search_55 : decode cX8_search 55 = .ok (.iconst 1, 1) := by decide +kernel
theorem dX8_search_56 : decode cX8_search 56 = .ok (.iadd, 1) := by decide +kernel
theorem dX8_search_57 : decode cX8_search 57 = .ok (.istore_n 3, 1) := by decide +kernel
theorem dX8_search_58 : decode cX8_search 58 = .ok (.iload_n 3, 1) := by decide +kernel
theorem dX8_search_59 : decode cX8_search 59 = .ok (.aload_n 0, 1) := by decide +kernel
theorem dX8_search_60 : decode cX8_search 60 = .ok (.getfield 76, 3) := by decide +kernel
theorem dX8_search_63 : decode cX8_search 63 = .ok (.if_icmp .ge 33, 3) := by decide +kernel
theorem dX8_search_66 : decode cX8_search 66 = .ok (.iload_n 1, 1) := by decide +kernel
theorem dX8_search_67 : decode cX8_search 67 = .ok (.iconst 2, 1) := by decide +kernel
theorem dX8_search_68 : decode cX8_search 68 = .ok (.if_icmp .ne 28, 3) := by decide +kernel
theorem dX8_search_71 : decode cX8_search 71 = .ok (.aload_n 0, 1) := by decide +kernel
theorem dX8_search_72 : decode cX8_search 72 = .ok (.iload_n 3, 1) := by decide +kernel
theorem dX8_search_73 : decode cX8_search 73 = .ok (.invokevirtual 148, 3) := by decide +kernel
theorem dX8_search_76 : decode cX8_search 76 = .ok (.ifCond .eq 14, 3) := by decide +kernel
theorem dX8_search_79 : decode cX8_search 79 = .ok (.aload_n 0, 1) := by decide +kernel
theorem dX8_search_80 : decode cX8_search 80 = .ok (.iload_n 2, 1) := by decide +kernel
theorem dX8_search_81 : decode cX8_search 81 = .ok (.iload_n 3, 1) := by decide +kernel
theorem dX8_search_82 : decode cX8_search 82 = .ok (.invokevirtual 151, 3) := by decide +kernel
theorem dX8_search_85 : decode cX8_search 85 = .ok (.ifCond .eq 5, 3) := by decide +kernel
theorem dX8_search_88 : decode cX8_search 88 = .ok (.iconst 1, 1) := by decide +kernel
theorem dX8_search_89 : decode cX8_search 89 = .ok (.ireturn, 1) := by decide +kernel
theorem dX8_search_90 : decode cX8_search 90 = .ok (.iinc 3 1, 3) := by decide +kernel
theorem dX8_search_93 : decode cX8_search 93 = .ok (.goto (-35), 3) := by decide +kernel
theorem dX8_search_96 : decode cX8_search 96 = .ok (.iinc 2 1, 3) := by decide +kernel
theorem dX8_search_99 : decode cX8_search 99 = .ok (.goto (-80), 3) := by decide +kernel
theorem dX8_search_102 : decode cX8_search 102 = .ok (.iconst 0, 1) := by decide +kernel
theorem dX8_search_103 : decode cX8_search 103 = .ok (.ireturn, 1) := by decide +kernel
theorem dX8_run_0 : decode cX8_run 0 = .ok (.aload_n 0, 1) := by decide +kernel
theorem dX8_run_1 : decode cX8_run 1 = .ok (.iload_n 1, 1) := by decide +kernel
theorem dX8_run_2 : decode cX8_run 2 = .ok (.ifCond .lt 12, 3) := by decide +kernel
theorem dX8_run_5 : decode cX8_run 5 = .ok (.iload_n 1, 1) := by decide +kernel
theorem dX8_run_6 : decode cX8_run 6 = .ok (.iconst 2, 1) := by decide +kernel
theorem dX8_run_7 : decode cX8_run 7 = .ok (.if_icmp .gt 7, 3) := by decide +kernel
theorem dX8_run_10 : decode cX8_run 10 = .ok (.iconst 0, 1) := by decide +kernel
theorem dX8_run_11 : decode cX8_run 11 = .ok (.goto 4, 3) := by decide +kernel
theorem dX8_run_14 : decode cX8_run 14 = .ok (.iconst 1, 1) := by decide +kernel
theorem dX8_run_15 : decode cX8_run 15 = .ok (.putfield 72, 3) := by decide +kernel
theorem dX8_run_18 : decode cX8_run 18 = .ok (.aload_n 0, 1) := by decide +kernel
theorem dX8_run_19 : decode cX8_run 19 = .ok (.getfield 72, 3) := by decide +kernel
theorem dX8_run_22 : decode cX8_run 22 = .ok (.ifCond .le 5, 3) := by decide +kernel
theorem dX8_run_25 : decode cX8_run 25 = .ok (.iconst 0, 1) := by decide +kernel
theorem dX8_run_26 : decode cX8_run 26 = .ok (.ireturn, 1) := by decide +kernel
theorem dX8_run_27 : decode cX8_run 27 = .ok (.aload_n 0, 1) := by decide +kernel
theorem dX8_run_28 : decode cX8_run 28 = .ok (.iconst 0, 1) := by decide +kernel
theorem dX8_run_29 : decode cX8_run 29 = .ok (.putfield 98, 3) := by decide +kernel
theorem dX8_run_32 : decode cX8_run 32 = .ok (.iconst 0, 1) := by decide +kernel
theorem dX8_run_33 : decode cX8_run 33 = .ok (.istore_n 2, 1) := by decide +kernel
theorem dX8_run_34 : decode cX8_run 34 = .ok (.iload_n 2, 1) := by decide +kernel
theorem dX8_run_35 : decode cX8_run 35 = .ok (.iload_n 1, 1) := by decide +kernel
theorem dX8_run_36 : decode cX8_run 36 = .ok (.if_icmp .gt 30, 3) := by decide +kernel
theorem dX8_run_39 : decode cX8_run 39 = .ok (.aload_n 0, 1) := by decide +kernel
theorem dX8_run_40 : decode cX8_run 40 = .ok (.getfield 98, 3) := by decide +kernel
theorem dX8_run_43 : decode cX8_run 43 = .ok (.ifCond .ne 23, 3) := by decide +kernel
theorem dX8_run_46 : decode cX8_run 46 = .ok (.aload_n 0, 1) := by decide +kernel
theorem dX8_run_47 : decode cX8_run 47 = .ok (.aload_n 0, 1) := by decide +kernel
theorem dX8_run_48 : decode cX8_run 48 = .ok (.iload_n 2, 1) := by decide +kernel
theorem dX8_run_49 : decode cX8_run 49 = .ok (.invokevirtual 154, 3) := by decide +kernel
theorem dX8_run_52 : decode cX8_run 52 = .ok (.putfield 98, 3) := by decide +kernel
theorem dX8_run_55 : decode cX8_run 55 = .ok (.aload_n 0, 1) := by decide +kernel
theorem dX8_run_56 : decode cX8_run 56 = .ok (.iload_n 2, 1) := by decide +kernel
theorem dX8_run_57 : decode cX8_run 57 = .ok (.putfield 157, 3) := by decide +kernel
theorem dX8_run_60 : decode cX8_run 60 = .ok (.iinc 2 1, 3) := by decide +kernel
theorem dX8_run_63 : decode cX8_run 63 = .ok (.goto (-29), 3) := by decide +kernel
theorem dX8_run_66 : decode cX8_run 66 = .ok (.aload_n 0, 1) := by decide +kernel
theorem dX8_run_67 : decode cX8_run 67 = .ok (.getfield 98, 3) := by decide +kernel
theorem dX8_run_70 : decode cX8_run 70 = .ok (.ifCond .ne 5, 3) := by decide +kernel
theorem dX8_run_73 : decode cX8_run 73 = .ok (.iconst (-1), 1) := by decide +kernel
theorem dX8_run_74 : decode cX8_run 74 = .ok (.ireturn, 1) := by decide +kernel
theorem dX8_run_75 : decode cX8_run 75 = .ok (.aload_n 0, 1) := by decide +kernel
theorem dX8_run_76 : decode cX8_run 76 = .ok (.invokevirtual 160, 3) := by decide +kernel
theorem dX8_run_79 : decode cX8_run 79 = .ok (.aload_n 0, 1) := by decide +kernel
theorem dX8_run_80 : decode cX8_run 80 = .ok (.getfield 157, 3) := by decide +kernel
theorem dX8_run_83 : decode cX8_run 83 = .ok (.ireturn, 1) := by decide +kernel
theorem dX8_size_0 : decode cX8_size 0 = .ok (.lload_n 0, 1) := by decide +kernel
theorem dX8_size_1 : decode cX8_size 1 = .ok (.lconst 0, 1) := by decide +kernel
theorem dX8_size_2 : decode cX8_size 2 = .ok (.lcmp, 1) := by decide +kernel
theorem dX8_size_3 : decode cX8_size 3 = .ok (.ifCond .ge 8, 3) := by decide +kernel
theorem dX8_size_6 : decode cX8_size 6 = .ok (.lload_n 0, 1) := by decide +kernel
theorem dX8_size_7 : decode cX8_size 7 = .ok (.lneg, 1) := by decide +kernel
theorem dX8_size_8 : decode cX8_size 8 = .ok (.goto 4, 3) := by decide +kernel
theorem dX8_size_11 : decode cX8_size 11 = .ok (.lload_n 0, 1) := by decide +kernel
theorem dX8_size_12 : decode cX8_size 12 = .ok (.lreturn, 1) := by decide +kernel
theorem dX8_far_0 : decode cX8_far 0 = .ok (.aload_n 0, 1) := by decide +kernel
theorem dX8_far_1 : decode cX8_far 1 = .ok (.getfield 45, 3) := by decide +kernel
theorem dX8_far_4 : decode cX8_far 4 = .ok (.iload_n 1, 1) := by decide +kernel
theorem dX8_far_5 : decode cX8_far 5 = .ok (.iaload, 1) := by decide +kernel
theorem dX8_far_6 : decode cX8_far 6 = .ok (.istore_n 3, 1) := by decide +kernel
theorem dX8_far_7 : decode cX8_far 7 = .ok (.aload_n 0, 1) := by decide +kernel
theorem dX8_far_8 : decode cX8_far 8 = .ok (.getfield 26, 3) := by decide +kernel
theorem dX8_far_11 : decode cX8_far 11 = .ok (.iload_n 3, 1) := by decide +kernel
theorem dX8_far_12 : decode cX8_far 12 = .ok (.laload, 1) := by decide +kernel
theorem dX8_far_13 : decode cX8_far 13 = .ok (.aload_n 0, 1) := by decide +kernel
theorem dX8_far_14 : decode cX8_far 14 = .ok (.getfield 39, 3) := by decide +kernel
theorem dX8_far_17 : decode cX8_far 17 = .ok (.iload_n 2, 1) := by decide +kernel
theorem dX8_far_18 : decode cX8_far 18 = .ok (.laload, 1) := by decide +kernel
theorem dX8_far_19 : decode cX8_far 19 = .ok (.lsub, 1) := by decide +kernel
theorem dX8_far_20 : decode cX8_far 20 = .ok (.invokestatic 163, 3) := by decide +kernel
theorem dX8_far_23 : decode cX8_far 23 = .ok (.aload_n 0, 1) := by decide +kernel
theorem dX8_far_24 : decode cX8_far 24 = .ok (.getfield 30, 3) := by decide +kernel
theorem dX8_far_27 : decode cX8_far 27 = .ok (.iload_n 3, 1) := by decide +kernel
theorem dX8_far_28 : decode cX8_far 28 = .ok (.laload, 1) := by decide +kernel
theorem dX8_far_29 : decode cX8_far 29 = .ok (.aload_n 0, 1) := by decide +kernel
theorem dX8_far_30 : decode cX8_far 30 = .ok (.getfield 42, 3) := by decide +kernel
theorem dX8_far_33 : decode cX8_far 33 = .ok (.iload_n 2, 1) := by decide +kernel
theorem dX8_far_34 : decode cX8_far 34 = .ok (.laload, 1) := by decide +kernel
theorem dX8_far_35 : decode cX8_far 35 = .ok (.lsub, 1) := by decide +kernel
theorem dX8_far_36 : decode cX8_far 36 = .ok (.invokestatic 163, 3) := by decide +kernel
theorem dX8_far_39 : decode cX8_far 39 = .ok (.ladd, 1) := by decide +kernel
theorem dX8_far_40 : decode cX8_far 40 = .ok (.lreturn, 1) := by decide +kernel
theorem dX8_take_0 : decode cX8_take 0 = .ok (.aload_n 0, 1) := by decide +kernel
theorem dX8_take_1 : decode cX8_take 1 = .ok (.aload_n 0, 1) := by decide +kernel
theorem dX8_take_2 : decode cX8_take 2 = .ok (.getfield 136, 3) := by decide +kernel
theorem dX8_take_5 : decode cX8_take 5 = .ok (.aload_n 0, 1) := by decide +kernel
theorem dX8_take_6 : decode cX8_take 6 = .ok (.getfield 157, 3) := by decide +kernel
theorem dX8_take_9 : decode cX8_take 9 = .ok (.if_icmp .lt 7, 3) := by decide +kernel
theorem dX8_take_12 : decode cX8_take 12 = .ok (.iconst 1, 1) := by decide +kernel
theorem dX8_take_13 : decode cX8_take 13 = .ok (.goto 4, 3) := by decide +kernel
theorem dX8_take_16 : decode cX8_take 16 = .ok (.iconst 0, 1) := by decide +kernel
theorem dX8_take_17 : decode cX8_take 17 = .ok (.putfield 167, 3) := by decide +kernel
theorem dX8_take_20 : decode cX8_take 20 = .ok (.aload_n 0, 1) := by decide +kernel
theorem dX8_take_21 : decode cX8_take 21 = .ok (.lconst 0, 1) := by decide +kernel
theorem dX8_take_22 : decode cX8_take 22 = .ok (.putfield 170, 3) := by decide +kernel
theorem dX8_take_25 : decode cX8_take 25 = .ok (.iconst 0, 1) := by decide +kernel
theorem dX8_take_26 : decode cX8_take 26 = .ok (.istore_n 1, 1) := by decide +kernel
theorem dX8_take_27 : decode cX8_take 27 = .ok (.iconst 0, 1) := by decide +kernel
theorem dX8_take_28 : decode cX8_take 28 = .ok (.istore_n 2, 1) := by decide +kernel
theorem dX8_take_29 : decode cX8_take 29 = .ok (.iload_n 2, 1) := by decide +kernel
theorem dX8_take_30 : decode cX8_take 30 = .ok (.aload_n 0, 1) := by decide +kernel
theorem dX8_take_31 : decode cX8_take 31 = .ok (.getfield 136, 3) := by decide +kernel
theorem dX8_take_34 : decode cX8_take 34 = .ok (.if_icmp .ge 130, 3) := by decide +kernel
theorem dX8_take_37 : decode cX8_take 37 = .ok (.aload_n 0, 1) := by decide +kernel
theorem dX8_take_38 : decode cX8_take 38 = .ok (.getfield 157, 3) := by decide +kernel
theorem dX8_take_41 : decode cX8_take 41 = .ok (.ifCond .le 123, 3) := by decide +kernel
theorem dX8_take_44 : decode cX8_take 44 = .ok (.aload_n 0, 1) := by decide +kernel
theorem dX8_take_45 : decode cX8_take 45 = .ok (.getfield 167, 3) := by decide +kernel
theorem dX8_take_48 : decode cX8_take 48 = .ok (.ifCond .eq 116, 3) := by decide +kernel
theorem dX8_take_51 : decode cX8_take 51 = .ok (.iconst 0, 1) := by decide +kernel
theorem dX8_take_52 : decode cX8_take 52 = .ok (.istore_n 3, 1) := by decide +kernel
theorem dX8_take_53 : decode cX8_take 53 = .ok (.iload_n 3, 1) := by decide +kernel
theorem dX8_take_54 : decode cX8_take 54 = .ok (.aload_n 0, 1) := by decide +kernel
theorem dX8_take_55 : decode cX8_take 55 = .ok (.getfield 157, 3) := by decide +kernel
theorem dX8_take_58 : decode cX8_take 58 = .ok (.iconst 2, 1) := by decide +kernel
theorem dX8_take_59 : decode cX8_take 59 = .ok (.if_icmp .ne 10, 3) := by decide +kernel
theorem dX8_take_62 : decode cX8_take 62 = .ok (.aload_n 0, 1) := by decide +kernel
theorem dX8_take_63 : decode cX8_take 63 = .ok (.getfield 136, 3) := by decide +kernel
theorem dX8_take_66 : decode cX8_take 66 = .ok (.goto 4, 3) := by decide +kernel
theorem dX8_take_69 : decode cX8_take 69 = .ok (.iconst 1, 1) := by decide +kernel
theorem dX8_take_70 : decode cX8_take 70 = .ok (.if_icmp .ge 88, 3) := by decide +kernel
theorem dX8_take_73 : decode cX8_take 73 = .ok (.aload_n 0, 1) := by decide +kernel
theorem dX8_take_74 : decode cX8_take 74 = .ok (.getfield 157, 3) := by decide +kernel
theorem dX8_take_77 : decode cX8_take 77 = .ok (.iconst 2, 1) := by decide +kernel
theorem dX8_take_78 : decode cX8_take 78 = .ok (.if_icmp .ne 11, 3) := by decide +kernel
theorem dX8_take_81 : decode cX8_take 81 = .ok (.iload_n 2, 1) := by decide +kernel
theorem dX8_take_82 : decode cX8_take 82 = .ok (.iload_n 3, 1) := by decide +kernel
theorem dX8_take_83 : decode cX8_take 83 = .ok (.if_icmp .ne 6, 3) := by decide +kernel
theorem dX8_take_86 : decode cX8_take 86 = .ok (.goto 66, 3) := by decide +kernel
theorem dX8_take_89 : decode cX8_take 89 = .ok (.aload_n 0, 1) := by decide +kernel
theorem dX8_take_90 : decode cX8_take 90 = .ok (.iconst 0, 1) := by decide +kernel
theorem dX8_take_91 : decode cX8_take 91 = .ok (.iload_n 2, 1) := by decide +kernel
theorem dX8_take_92 : decode cX8_take 92 = .ok (.invokevirtual 174, 3) := by decide +kernel
theorem dX8_take_95 : decode cX8_take 95 = .ok (.aload_n 0, 1) := by decide +kernel
theorem dX8_take_96 : decode cX8_take 96 = .ok (.getfield 157, 3) := by decide +kernel
theorem dX8_take_99 : decode cX8_take 99 = .ok (.iconst 2, 1) := by decide +kernel
theorem dX8_take_100 : decode cX8_take 100 = .ok (.if_icmp .ne 12, 3) := by decide +kernel
theorem dX8_take_103 : decode cX8_take 103 = .ok (.aload_n 0, 1) := by decide +kernel
theorem dX8_take_104 : decode cX8_take 104 = .ok (.iconst 1, 1) := by decide +kernel
theorem dX8_take_105 : decode cX8_take 105 = .ok (.iload_n 3, 1) := by decide +kernel
theorem dX8_take_106 : decode cX8_take 106 = .ok (.invokevirtual 174, 3) := by decide +kernel
theorem dX8_take_109 : decode cX8_take 109 = .ok (.goto 4, 3) := by decide +kernel
theorem dX8_take_112 : decode cX8_take 112 = .ok (.lconst 0, 1) := by decide +kernel
theorem dX8_take_113 : decode cX8_take 113 = .ok (.ladd, 1) := by decide +kernel
theorem dX8_take_114 : decode cX8_take 114 = .ok (.lstore 4, 2) := by decide +kernel
theorem dX8_take_116 : decode cX8_take 116 = .ok (.iload_n 1, 1) := by decide +kernel
theorem dX8_take_117 : decode cX8_take 117 = .ok (.ifCond .eq 13, 3) := by decide +kernel
theorem dX8_take_120 : decode cX8_take 120 = .ok (.lload 4, 2) := by decide +kernel
theorem dX8_take_122 : decode cX8_take 122 = .ok (.aload_n 0, 1) := by decide +kernel
theorem dX8_take_123 : decode cX8_take 123 = .ok (.getfield 170, 3) := by decide +kernel
theorem dX8_take_126 : decode cX8_take 126 = .ok (.lcmp, 1) := by decide +kernel
theorem dX8_take_127 : decode cX8_take 127 = .ok (.ifCond .ge 25, 3) := by decide +kernel
theorem dX8_take_130 : decode cX8_take 130 = .ok (.iconst 1, 1) := by decide +kernel
theorem dX8_take_131 : decode cX8_take 131 = .ok (.istore_n 1, 1) := by decide +kernel
theorem dX8_take_132 : decode cX8_take 132 = .ok (.aload_n 0, 1) := by decide +kernel
theorem dX8_take_133 : decode cX8_take 133 = .ok (.lload 4, 2) := by decide +kernel
theorem dX8_take_135 : decode cX8_take 135 = .ok (.putfield 170, 3) := by decide +kernel
theorem dX8_take_138 : decode cX8_take 138 = .ok (.aload_n 0, 1) := by decide +kernel
theorem dX8_take_139 : decode cX8_take 139 = .ok (.getfield 54, 3) := by decide +kernel
theorem dX8_take_142 : decode cX8_take 142 = .ok (.iconst 0, 1) := by decide +kernel
theorem dX8_take_143 : decode cX8_take 143 = .ok (.iload_n 2, 1) := by decide +kernel
theorem dX8_take_144 : decode cX8_take 144 = .ok (.iastore, 1) := by decide +kernel
theorem dX8_take_145 : decode cX8_take 145 = .ok (.aload_n 0, 1) := by decide +kernel
theorem dX8_take_146 : decode cX8_take 146 = .ok (.getfield 54, 3) := by decide +kernel
theorem dX8_take_149 : decode cX8_take 149 = .ok (.iconst 1, 1) := by decide +kernel
theorem dX8_take_150 : decode cX8_take 150 = .ok (.iload_n 3, 1) := by decide +kernel
theorem dX8_take_151 : decode cX8_take 151 = .ok (.iastore, 1) := by decide +kernel
theorem dX8_take_152 : decode cX8_take 152 = .ok (.iinc 3 1, 3) := by decide +kernel
theorem dX8_take_155 : decode cX8_take 155 = .ok (.goto (-102), 3) := by decide +kernel
theorem dX8_take_158 : decode cX8_take 158 = .ok (.iinc 2 1, 3) := by decide +kernel
theorem dX8_take_161 : decode cX8_take 161 = .ok (.goto (-132), 3) := by decide +kernel
theorem dX8_take_164 : decode cX8_take 164 = .ok (.return_, 1) := by decide +kernel
theorem dX8_edit_0 : decode cX8_edit 0 = .ok (.aload_n 0, 1) := by decide +kernel
theorem dX8_edit_1 : decode cX8_edit 1 = .ok (.iload_n 2, 1) := by decide +kernel
theorem dX8_edit_2 : decode cX8_edit 2 = .ok (.iconst 3, 1) := by decide +kernel
theorem dX8_edit_3 : decode cX8_edit 3 = .ok (.invokestatic 79, 3) := by decide +kernel
theorem dX8_edit_6 : decode cX8_edit 6 = .ok (.ifCond .ne 7, 3) := by decide +kernel
theorem dX8_edit_9 : decode cX8_edit 9 = .ok (.iconst 1, 1) := by decide +kernel
theorem dX8_edit_10 : decode cX8_edit 10 = .ok (.goto 30, 3) := by decide +kernel
theorem dX8_edit_13 : decode cX8_edit 13 = .ok (.aload_n 0, 1) := by decide +kernel
theorem dX8_edit_14 : decode cX8_edit 14 = .ok (.getfield 98, 3) := by decide +kernel
theorem dX8_edit_17 : decode cX8_edit 17 = .ok (.ifCond .ne 7, 3) := by decide +kernel
theorem dX8_edit_20 : decode cX8_edit 20 = .ok (.iconst 2, 1) := by decide +kernel
theorem dX8_edit_21 : decode cX8_edit 21 = .ok (.goto 19, 3) := by decide +kernel
theorem dX8_edit_24 : decode cX8_edit 24 = .ok (.iload_n 1, 1) := by decide +kernel
theorem dX8_edit_25 : decode cX8_edit 25 = .ok (.aload_n 0, 1) := by decide +kernel
theorem dX8_edit_26 : decode cX8_edit 26 = .ok (.getfield 157, 3) := by decide +kernel
theorem dX8_edit_29 : decode cX8_edit 29 = .ok (.invokestatic 79, 3) := by decide +kernel
theorem dX8_edit_32 : decode cX8_edit 32 = .ok (.ifCond .eq 7, 3) := by decide +kernel
theorem dX8_edit_35 : decode cX8_edit 35 = .ok (.iconst 0, 1) := by decide +kernel
theorem dX8_edit_36 : decode cX8_edit 36 = .ok (.goto 4, 3) := by decide +kernel
theorem dX8_edit_39 : decode cX8_edit 39 = .ok (.iconst 1, 1) := by decide +kernel
theorem dX8_edit_40 : decode cX8_edit 40 = .ok (.putfield 72, 3) := by decide +kernel
theorem dX8_edit_43 : decode cX8_edit 43 = .ok (.aload_n 0, 1) := by decide +kernel
theorem dX8_edit_44 : decode cX8_edit 44 = .ok (.getfield 72, 3) := by decide +kernel
theorem dX8_edit_47 : decode cX8_edit 47 = .ok (.ifCond .le 7, 3) := by decide +kernel
theorem dX8_edit_50 : decode cX8_edit 50 = .ok (.iconst 0, 1) := by decide +kernel
theorem dX8_edit_51 : decode cX8_edit 51 = .ok (.goto 36, 3) := by decide +kernel
theorem dX8_edit_54 : decode cX8_edit 54 = .ok (.iload_n 2, 1) := by decide +kernel
theorem dX8_edit_55 : decode cX8_edit 55 = .ok (.ifCond .ne 12, 3) := by decide +kernel
theorem dX8_edit_58 : decode cX8_edit 58 = .ok (.aload_n 0, 1) := by decide +kernel
theorem dX8_edit_59 : decode cX8_edit 59 = .ok (.getfield 45, 3) := by decide +kernel
theorem dX8_edit_62 : decode cX8_edit 62 = .ok (.iload_n 1, 1) := by decide +kernel
theorem dX8_edit_63 : decode cX8_edit 63 = .ok (.iaload, 1) := by decide +kernel
theorem dX8_edit_64 : decode cX8_edit 64 = .ok (.goto 23, 3) := by decide +kernel
theorem dX8_edit_67 : decode cX8_edit 67 = .ok (.iload_n 2, 1) := by decide +kernel
theorem dX8_edit_68 : decode cX8_edit 68 = .ok (.iconst 1, 1) := by decide +kernel
theorem dX8_edit_69 : decode cX8_edit 69 = .ok (.if_icmp .ne 12, 3) := by decide +kernel
theorem dX8_edit_72 : decode cX8_edit 72 = .ok (.aload_n 0, 1) := by decide +kernel
theorem dX8_edit_73 : decode cX8_edit 73 = .ok (.getfield 48, 3) := by decide +kernel
theorem dX8_edit_76 : decode cX8_edit 76 = .ok (.iload_n 1, 1) := by decide +kernel
theorem dX8_edit_77 : decode cX8_edit 77 = .ok (.iaload, 1) := by decide +kernel
theorem dX8_edit_78 : decode cX8_edit 78 = .ok (.goto 9, 3) := by decide +kernel
theorem dX8_edit_81 : decode cX8_edit 81 = .ok (.aload_n 0, 1) := by decide +kernel
theorem dX8_edit_82 : decode cX8_edit 82 = .ok (.getfield 51, 3) := by decide +kernel
theorem dX8_edit_85 : decode cX8_edit 85 = .ok (.iload_n 1, 1) := by decide +kernel
theorem dX8_edit_86 : decode cX8_edit 86 = .ok (.iaload, 1) := by decide +kernel
theorem dX8_edit_87 : decode cX8_edit 87 = .ok (.ireturn, 1) := by decide +kernel
theorem dX8_used_0 : decode cX8_used 0 = .ok (.aload_n 0, 1) := by decide +kernel
theorem dX8_used_1 : decode cX8_used 1 = .ok (.aload_n 0, 1) := by decide +kernel
theorem dX8_used_2 : decode cX8_used 2 = .ok (.getfield 98, 3) := by decide +kernel
theorem dX8_used_5 : decode cX8_used 5 = .ok (.ifCond .ne 7, 3) := by decide +kernel
theorem dX8_used_8 : decode cX8_used 8 = .ok (.iconst 1, 1) := by decide +kernel
theorem dX8_used_9 : decode cX8_used 9 = .ok (.goto 19, 3) := by decide +kernel
theorem dX8_used_12 : decode cX8_used 12 = .ok (.iload_n 1, 1) := by decide +kernel
theorem dX8_used_13 : decode cX8_used 13 = .ok (.aload_n 0, 1) := by decide +kernel
theorem dX8_used_14 : decode cX8_used 14 = .ok (.getfield 157, 3) := by decide +kernel
theorem dX8_used_17 : decode cX8_used 17 = .ok (.invokestatic 79, 3) := by decide +kernel
theorem dX8_used_20 : decode cX8_used 20 = .ok (.ifCond .eq 7, 3) := by decide +kernel
theorem dX8_used_23 : decode cX8_used 23 = .ok (.iconst 0, 1) := by decide +kernel
theorem dX8_used_24 : decode cX8_used 24 = .ok (.goto 4, 3) := by decide +kernel
theorem dX8_used_27 : decode cX8_used 27 = .ok (.iconst 2, 1) := by decide +kernel
theorem dX8_used_28 : decode cX8_used 28 = .ok (.putfield 72, 3) := by decide +kernel
theorem dX8_used_31 : decode cX8_used 31 = .ok (.aload_n 0, 1) := by decide +kernel
theorem dX8_used_32 : decode cX8_used 32 = .ok (.getfield 72, 3) := by decide +kernel
theorem dX8_used_35 : decode cX8_used 35 = .ok (.ifCond .le 7, 3) := by decide +kernel
theorem dX8_used_38 : decode cX8_used 38 = .ok (.iconst 0, 1) := by decide +kernel
theorem dX8_used_39 : decode cX8_used 39 = .ok (.goto 20, 3) := by decide +kernel
theorem dX8_used_42 : decode cX8_used 42 = .ok (.aload_n 0, 1) := by decide +kernel
theorem dX8_used_43 : decode cX8_used 43 = .ok (.getfield 167, 3) := by decide +kernel
theorem dX8_used_46 : decode cX8_used 46 = .ok (.ifCond .eq 12, 3) := by decide +kernel
theorem dX8_used_49 : decode cX8_used 49 = .ok (.aload_n 0, 1) := by decide +kernel
theorem dX8_used_50 : decode cX8_used 50 = .ok (.getfield 54, 3) := by decide +kernel
theorem dX8_used_53 : decode cX8_used 53 = .ok (.iload_n 1, 1) := by decide +kernel
theorem dX8_used_54 : decode cX8_used 54 = .ok (.iaload, 1) := by decide +kernel
theorem dX8_used_55 : decode cX8_used 55 = .ok (.goto 4, 3) := by decide +kernel
theorem dX8_used_58 : decode cX8_used 58 = .ok (.iconst (-1), 1) := by decide +kernel
theorem dX8_used_59 : decode cX8_used 59 = .ok (.ireturn, 1) := by decide +kernel
theorem dX8_length_0 : decode cX8_length 0 = .ok (.aload_n 0, 1) := by decide +kernel
theorem dX8_length_1 : decode cX8_length 1 = .ok (.aload_n 0, 1) := by decide +kernel
theorem dX8_length_2 : decode cX8_length 2 = .ok (.getfield 98, 3) := by decide +kernel
theorem dX8_length_5 : decode cX8_length 5 = .ok (.ifCond .eq 7, 3) := by decide +kernel
theorem dX8_length_8 : decode cX8_length 8 = .ok (.iconst 0, 1) := by decide +kernel
theorem dX8_length_9 : decode cX8_length 9 = .ok (.goto 4, 3) := by decide +kernel
theorem dX8_length_12 : decode cX8_length 12 = .ok (.iconst 1, 1) := by decide +kernel
theorem dX8_length_13 : decode cX8_length 13 = .ok (.putfield 72, 3) := by decide +kernel
theorem dX8_length_16 : decode cX8_length 16 = .ok (.aload_n 0, 1) := by decide +kernel
theorem dX8_length_17 : decode cX8_length 17 = .ok (.getfield 72, 3) := by decide +kernel
theorem dX8_length_20 : decode cX8_length 20 = .ok (.ifCond .le 7, 3) := by decide +kernel
theorem dX8_length_23 : decode cX8_length 23 = .ok (.iconst 0, 1) := by decide +kernel
theorem dX8_length_24 : decode cX8_length 24 = .ok (.goto 19, 3) := by decide +kernel
theorem dX8_length_27 : decode cX8_length 27 = .ok (.aload_n 0, 1) := by decide +kernel
theorem dX8_length_28 : decode cX8_length 28 = .ok (.getfield 167, 3) := by decide +kernel
theorem dX8_length_31 : decode cX8_length 31 = .ok (.ifCond .eq 11, 3) := by decide +kernel
theorem dX8_length_34 : decode cX8_length 34 = .ok (.aload_n 0, 1) := by decide +kernel
theorem dX8_length_35 : decode cX8_length 35 = .ok (.getfield 170, 3) := by decide +kernel
theorem dX8_length_38 : decode cX8_length 38 = .ok (.l2i, 1) := by decide +kernel
theorem dX8_length_39 : decode cX8_length 39 = .ok (.goto 4, 3) := by decide +kernel
theorem dX8_length_42 : decode cX8_length 42 = .ok (.iconst (-1), 1) := by decide +kernel
theorem dX8_length_43 : decode cX8_length 43 = .ok (.ireturn, 1) := by decide +kernel
theorem dX8_make_0 : decode cX8_make 0 = .ok (.aload_n 0, 1) := by decide +kernel
theorem dX8_make_1 : decode cX8_make 1 = .ok (.aload_n 0, 1) := by decide +kernel
theorem dX8_make_2 : decode cX8_make 2 = .ok (.getfield 98, 3) := by decide +kernel
theorem dX8_make_5 : decode cX8_make 5 = .ok (.ifCond .eq 12, 3) := by decide +kernel
theorem dX8_make_8 : decode cX8_make 8 = .ok (.aload_n 0, 1) := by decide +kernel
theorem dX8_make_9 : decode cX8_make 9 = .ok (.getfield 178, 3) := by decide +kernel
theorem dX8_make_12 : decode cX8_make 12 = .ok (.bipush 20, 2) := by decide +kernel
theorem dX8_make_14 : decode cX8_make 14 = .ok (.if_icmp .ne 7, 3) := by decide +kernel
theorem dX8_make_17 : decode cX8_make 17 = .ok (.iconst 1, 1) := by decide +kernel
theorem dX8_make_18 : decode cX8_make 18 = .ok (.goto 4, 3) := by decide +kernel
theorem dX8_make_21 : decode cX8_make 21 = .ok (.iconst 0, 1) := by decide +kernel
theorem dX8_make_22 : decode cX8_make 22 = .ok (.putfield 72, 3) := by decide +kernel
theorem dX8_make_25 : decode cX8_make 25 = .ok (.aload_n 0, 1) := by decide +kernel
theorem dX8_make_26 : decode cX8_make 26 = .ok (.getfield 72, 3) := by decide +kernel
theorem dX8_make_29 : decode cX8_make 29 = .ok (.ifCond .le 5, 3) := by decide +kernel
theorem dX8_make_32 : decode cX8_make 32 = .ok (.iconst 0, 1) := by decide +kernel
theorem dX8_make_33 : decode cX8_make 33 = .ok (.ireturn, 1) := by decide +kernel
theorem dX8_make_34 : decode cX8_make 34 = .ok (.iconst 0, 1) := by decide +kernel
theorem dX8_make_35 : decode cX8_make 35 = .ok (.istore_n 1, 1) := by decide +kernel
theorem dX8_make_36 : decode cX8_make 36 = .ok (.iload_n 1, 1) := by decide +kernel
theorem dX8_make_37 : decode cX8_make 37 = .ok (.aload_n 0, 1) := by decide +kernel
theorem dX8_make_38 : decode cX8_make 38 = .ok (.getfield 157, 3) := by decide +kernel
theorem dX8_make_41 : decode cX8_make 41 = .ok (.if_icmp .ge 92, 3) := by decide +kernel
theorem dX8_make_44 : decode cX8_make 44 = .ok (.aload_n 0, 1) := by decide +kernel
theorem dX8_make_45 : decode cX8_make 45 = .ok (.getfield 45, 3) := by decide +kernel
theorem dX8_make_48 : decode cX8_make 48 = .ok (.iload_n 1, 1) := by decide +kernel
theorem dX8_make_49 : decode cX8_make 49 = .ok (.iaload, 1) := by decide +kernel
theorem dX8_make_50 : decode cX8_make 50 = .ok (.istore_n 2, 1) := by decide +kernel
theorem dX8_make_51 : decode cX8_make 51 = .ok (.aload_n 0, 1) := by decide +kernel
theorem dX8_make_52 : decode cX8_make 52 = .ok (.getfield 60, 3) := by decide +kernel
theorem dX8_make_55 : decode cX8_make 55 = .ok (.iconst 2, 1) := by decide +kernel
theorem dX8_make_56 : decode cX8_make 56 = .ok (.aload_n 0, 1) := by decide +kernel
theorem dX8_make_57 : decode cX8_make 57 = .ok (.getfield 178, 3) := by decide +kernel
theorem dX8_make_60 : decode cX8_make 60 = .ok (.imul, 1) := by decide +kernel
theorem dX8_make_61 : decode cX8_make 61 = .ok (.iload_n 1, 1) := by decide +kernel
theorem dX8_make_62 : decode cX8_make 62 = .ok (.iadd, 1) := by decide +kernel
theorem dX8_make_63 : decode cX8_make 63 = .ok (.iload_n 2, 1) := by decide +kernel
theorem dX8_make_64 : decode cX8_make 64 = .ok (.iastore, 1) := by decide +kernel
theorem dX8_make_65 : decode cX8_make 65 = .ok (.aload_n 0, 1) := by decide +kernel
theorem dX8_make_66 : decode cX8_make 66 = .ok (.getfield 63, 3) := by decide +kernel
theorem dX8_make_69 : decode cX8_make 69 = .ok (.iconst 2, 1) := by decide +kernel
theorem dX8_make_70 : decode cX8_make 70 = .ok (.aload_n 0, 1) := by decide +kernel
theorem dX8_make_71 : decode cX8_make 71 = .ok (.getfield 178, 3) := by decide +kernel
theorem dX8_make_74 : decode cX8_make 74 = .ok (.imul, 1) := by decide +kernel
theorem dX8_make_75 : decode cX8_make 75 = .ok (.iload_n 1, 1) := by decide +kernel
theorem dX8_make_76 : decode cX8_make 76 = .ok (.iadd, 1) := by decide +kernel
theorem dX8_make_77 : decode cX8_make 77 = .ok (.aload_n 0, 1) := by decide +kernel
theorem dX8_make_78 : decode cX8_make 78 = .ok (.getfield 13, 3) := by decide +kernel
theorem dX8_make_81 : decode cX8_make 81 = .ok (.iload_n 2, 1) := by decide +kernel
theorem dX8_make_82 : decode cX8_make 82 = .ok (.iaload, 1) := by decide +kernel
theorem dX8_make_83 : decode cX8_make 83 = .ok (.iastore, 1) := by decide +kernel
theorem dX8_make_84 : decode cX8_make 84 = .ok (.aload_n 0, 1) := by decide +kernel
theorem dX8_make_85 : decode cX8_make 85 = .ok (.getfield 66, 3) := by decide +kernel
theorem dX8_make_88 : decode cX8_make 88 = .ok (.iconst 2, 1) := by decide +kernel
theorem dX8_make_89 : decode cX8_make 89 = .ok (.aload_n 0, 1) := by decide +kernel
theorem dX8_make_90 : decode cX8_make 90 = .ok (.getfield 178, 3) := by decide +kernel
theorem dX8_make_93 : decode cX8_make 93 = .ok (.imul, 1) := by decide +kernel
theorem dX8_make_94 : decode cX8_make 94 = .ok (.iload_n 1, 1) := by decide +kernel
theorem dX8_make_95 : decode cX8_make 95 = .ok (.iadd, 1) := by decide +kernel
theorem dX8_make_96 : decode cX8_make 96 = .ok (.aload_n 0, 1) := by decide +kernel
theorem dX8_make_97 : decode cX8_make 97 = .ok (.getfield 16, 3) := by decide +kernel
theorem dX8_make_100 : decode cX8_make 100 = .ok (.iload_n 2, 1) := by decide +kernel
theorem dX8_make_101 : decode cX8_make 101 = .ok (.iaload, 1) := by decide +kernel
theorem dX8_make_102 : decode cX8_make 102 = .ok (.iastore, 1) := by decide +kernel
theorem dX8_make_103 : decode cX8_make 103 = .ok (.aload_n 0, 1) := by decide +kernel
theorem dX8_make_104 : decode cX8_make 104 = .ok (.getfield 13, 3) := by decide +kernel
theorem dX8_make_107 : decode cX8_make 107 = .ok (.iload_n 2, 1) := by decide +kernel
theorem dX8_make_108 : decode cX8_make 108 = .ok (.aload_n 0, 1) := by decide +kernel
theorem dX8_make_109 : decode cX8_make 109 = .ok (.getfield 48, 3) := by decide +kernel
theorem dX8_make_112 : decode cX8_make 112 = .ok (.iload_n 1, 1) := by decide +kernel
theorem dX8_make_113 : decode cX8_make 113 = .ok (.iaload, 1) := by decide +kernel
theorem dX8_make_114 : decode cX8_make 114 = .ok (.iastore, 1) := by decide +kernel
theorem dX8_make_115 : decode cX8_make 115 = .ok (.aload_n 0, 1) := by decide +kernel
theorem dX8_make_116 : decode cX8_make 116 = .ok (.getfield 16, 3) := by decide +kernel
theorem dX8_make_119 : decode cX8_make 119 = .ok (.iload_n 2, 1) := by decide +kernel
theorem dX8_make_120 : decode cX8_make 120 = .ok (.aload_n 0, 1) := by decide +kernel
theorem dX8_make_121 : decode cX8_make 121 = .ok (.getfield 51, 3) := by decide +kernel
theorem dX8_make_124 : decode cX8_make 124 = .ok (.iload_n 1, 1) := by decide +kernel
theorem dX8_make_125 : decode cX8_make 125 = .ok (.iaload, 1) := by decide +kernel
theorem dX8_make_126 : decode cX8_make 126 = .ok (.iastore, 1) := by decide +kernel
theorem dX8_make_127 : decode cX8_make 127 = .ok (.iinc 1 1, 3) := by decide +kernel
theorem dX8_make_130 : decode cX8_make 130 = .ok (.goto (-94), 3) := by decide +kernel
theorem dX8_make_133 : decode cX8_make 133 = .ok (.aload_n 0, 1) := by decide +kernel
theorem dX8_make_134 : decode cX8_make 134 = .ok (.getfield 57, 3) := by decide +kernel
theorem dX8_make_137 : decode cX8_make 137 = .ok (.aload_n 0, 1) := by decide +kernel
theorem dX8_make_138 : decode cX8_make 138 = .ok (.getfield 178, 3) := by decide +kernel
theorem dX8_make_141 : decode cX8_make 141 = .ok (.aload_n 0, 1) := by decide +kernel
theorem dX8_make_142 : decode cX8_make 142 = .ok (.getfield 157, 3) := by decide +kernel
theorem dX8_make_145 : decode cX8_make 145 = .ok (.iastore, 1) := by decide +kernel
theorem dX8_make_146 : decode cX8_make 146 = .ok (.aload_n 0, 1) := by decide +kernel
theorem dX8_make_147 : decode cX8_make 147 = .ok (.dup, 1) := by decide +kernel
theorem dX8_make_148 : decode cX8_make 148 = .ok (.getfield 178, 3) := by decide +kernel
theorem dX8_make_151 : decode cX8_make 151 = .ok (.iconst 1, 1) := by decide +kernel
theorem dX8_make_152 : decode cX8_make 152 = .ok (.iadd, 1) := by decide +kernel
theorem dX8_make_153 : decode cX8_make 153 = .ok (.putfield 178, 3) := by decide +kernel
theorem dX8_make_156 : decode cX8_make 156 = .ok (.aload_n 0, 1) := by decide +kernel
theorem dX8_make_157 : decode cX8_make 157 = .ok (.iconst 0, 1) := by decide +kernel
theorem dX8_make_158 : decode cX8_make 158 = .ok (.invokevirtual 142, 3) := by decide +kernel
theorem dX8_make_161 : decode cX8_make 161 = .ok (.aload_n 0, 1) := by decide +kernel
theorem dX8_make_162 : decode cX8_make 162 = .ok (.iconst 0, 1) := by decide +kernel
theorem dX8_make_163 : decode cX8_make 163 = .ok (.putfield 98, 3) := by decide +kernel
theorem dX8_make_166 : decode cX8_make 166 = .ok (.aload_n 0, 1) := by decide +kernel
theorem dX8_make_167 : decode cX8_make 167 = .ok (.getfield 157, 3) := by decide +kernel
theorem dX8_make_170 : decode cX8_make 170 = .ok (.ireturn, 1) := by decide +kernel
theorem dX8_undo_0 : decode cX8_undo 0 = .ok (.aload_n 0, 1) := by decide +kernel
theorem dX8_undo_1 : decode cX8_undo 1 = .ok (.iconst 0, 1) := by decide +kernel
theorem dX8_undo_2 : decode cX8_undo 2 = .ok (.putfield 72, 3) := by decide +kernel
theorem dX8_undo_5 : decode cX8_undo 5 = .ok (.aload_n 0, 1) := by decide +kernel
theorem dX8_undo_6 : decode cX8_undo 6 = .ok (.getfield 178, 3) := by decide +kernel
theorem dX8_undo_9 : decode cX8_undo 9 = .ok (.ifCond .ne 5, 3) := by decide +kernel
theorem dX8_undo_12 : decode cX8_undo 12 = .ok (.iconst 0, 1) := by decide +kernel
theorem dX8_undo_13 : decode cX8_undo 13 = .ok (.ireturn, 1) := by decide +kernel
theorem dX8_undo_14 : decode cX8_undo 14 = .ok (.aload_n 0, 1) := by decide +kernel
theorem dX8_undo_15 : decode cX8_undo 15 = .ok (.dup, 1) := by decide +kernel
theorem dX8_undo_16 : decode cX8_undo 16 = .ok (.getfield 178, 3) := by decide +kernel
theorem dX8_undo_19 : decode cX8_undo 19 = .ok (.iconst 1, 1) := by decide +kernel
theorem dX8_undo_20 : decode cX8_undo 20 = .ok (.isub, 1) := by decide +kernel
theorem dX8_undo_21 : decode cX8_undo 21 = .ok (.putfield 178, 3) := by decide +kernel
theorem dX8_undo_24 : decode cX8_undo 24 = .ok (.iconst 0, 1) := by decide +kernel
theorem dX8_undo_25 : decode cX8_undo 25 = .ok (.istore_n 1, 1) := by decide +kernel
theorem dX8_undo_26 : decode cX8_undo 26 = .ok (.iload_n 1, 1) := by decide +kernel
theorem dX8_undo_27 : decode cX8_undo 27 = .ok (.aload_n 0, 1) := by decide +kernel
theorem dX8_undo_28 : decode cX8_undo 28 = .ok (.getfield 57, 3) := by decide +kernel
theorem dX8_undo_31 : decode cX8_undo 31 = .ok (.aload_n 0, 1) := by decide +kernel
theorem dX8_undo_32 : decode cX8_undo 32 = .ok (.getfield 178, 3) := by decide +kernel
theorem dX8_undo_35 : decode cX8_undo 35 = .ok (.iaload, 1) := by decide +kernel
theorem dX8_undo_36 : decode cX8_undo 36 = .ok (.if_icmp .ge 61, 3) := by decide +kernel
theorem dX8_undo_39 : decode cX8_undo 39 = .ok (.aload_n 0, 1) := by decide +kernel
theorem dX8_undo_40 : decode cX8_undo 40 = .ok (.getfield 60, 3) := by decide +kernel
theorem dX8_undo_43 : decode cX8_undo 43 = .ok (.iconst 2, 1) := by decide +kernel
theorem dX8_undo_44 : decode cX8_undo 44 = .ok (.aload_n 0, 1) := by decide +kernel
theorem dX8_undo_45 : decode cX8_undo 45 = .ok (.getfield 178, 3) := by decide +kernel
theorem dX8_undo_48 : decode cX8_undo 48 = .ok (.imul, 1) := by decide +kernel
theorem dX8_undo_49 : decode cX8_undo 49 = .ok (.iload_n 1, 1) := by decide +kernel
theorem dX8_undo_50 : decode cX8_undo 50 = .ok (.iadd, 1) := by decide +kernel
theorem dX8_undo_51 : decode cX8_undo 51 = .ok (.iaload, 1) := by decide +kernel
theorem dX8_undo_52 : decode cX8_undo 52 = .ok (.istore_n 2, 1) := by decide +kernel
theorem dX8_undo_53 : decode cX8_undo 53 = .ok (.aload_n 0, 1) := by decide +kernel
theorem dX8_undo_54 : decode cX8_undo 54 = .ok (.getfield 13, 3) := by decide +kernel
theorem dX8_undo_57 : decode cX8_undo 57 = .ok (.iload_n 2, 1) := by decide +kernel
theorem dX8_undo_58 : decode cX8_undo 58 = .ok (.aload_n 0, 1) := by decide +kernel
theorem dX8_undo_59 : decode cX8_undo 59 = .ok (.getfield 63, 3) := by decide +kernel
theorem dX8_undo_62 : decode cX8_undo 62 = .ok (.iconst 2, 1) := by decide +kernel
theorem dX8_undo_63 : decode cX8_undo 63 = .ok (.aload_n 0, 1) := by decide +kernel
theorem dX8_undo_64 : decode cX8_undo 64 = .ok (.getfield 178, 3) := by decide +kernel
theorem dX8_undo_67 : decode cX8_undo 67 = .ok (.imul, 1) := by decide +kernel
theorem dX8_undo_68 : decode cX8_undo 68 = .ok (.iload_n 1, 1) := by decide +kernel
theorem dX8_undo_69 : decode cX8_undo 69 = .ok (.iadd, 1) := by decide +kernel
theorem dX8_undo_70 : decode cX8_undo 70 = .ok (.iaload, 1) := by decide +kernel
theorem dX8_undo_71 : decode cX8_undo 71 = .ok (.iastore, 1) := by decide +kernel
theorem dX8_undo_72 : decode cX8_undo 72 = .ok (.aload_n 0, 1) := by decide +kernel
theorem dX8_undo_73 : decode cX8_undo 73 = .ok (.getfield 16, 3) := by decide +kernel
theorem dX8_undo_76 : decode cX8_undo 76 = .ok (.iload_n 2, 1) := by decide +kernel
theorem dX8_undo_77 : decode cX8_undo 77 = .ok (.aload_n 0, 1) := by decide +kernel
theorem dX8_undo_78 : decode cX8_undo 78 = .ok (.getfield 66, 3) := by decide +kernel
theorem dX8_undo_81 : decode cX8_undo 81 = .ok (.iconst 2, 1) := by decide +kernel
theorem dX8_undo_82 : decode cX8_undo 82 = .ok (.aload_n 0, 1) := by decide +kernel
theorem dX8_undo_83 : decode cX8_undo 83 = .ok (.getfield 178, 3) := by decide +kernel
theorem dX8_undo_86 : decode cX8_undo 86 = .ok (.imul, 1) := by decide +kernel
theorem dX8_undo_87 : decode cX8_undo 87 = .ok (.iload_n 1, 1) := by decide +kernel
theorem dX8_undo_88 : decode cX8_undo 88 = .ok (.iadd, 1) := by decide +kernel
theorem dX8_undo_89 : decode cX8_undo 89 = .ok (.iaload, 1) := by decide +kernel
theorem dX8_undo_90 : decode cX8_undo 90 = .ok (.iastore, 1) := by decide +kernel
theorem dX8_undo_91 : decode cX8_undo 91 = .ok (.iinc 1 1, 3) := by decide +kernel
theorem dX8_undo_94 : decode cX8_undo 94 = .ok (.goto (-68), 3) := by decide +kernel
theorem dX8_undo_97 : decode cX8_undo 97 = .ok (.aload_n 0, 1) := by decide +kernel
theorem dX8_undo_98 : decode cX8_undo 98 = .ok (.iconst 0, 1) := by decide +kernel
theorem dX8_undo_99 : decode cX8_undo 99 = .ok (.invokevirtual 142, 3) := by decide +kernel
theorem dX8_undo_102 : decode cX8_undo 102 = .ok (.aload_n 0, 1) := by decide +kernel
theorem dX8_undo_103 : decode cX8_undo 103 = .ok (.iconst 0, 1) := by decide +kernel
theorem dX8_undo_104 : decode cX8_undo 104 = .ok (.putfield 98, 3) := by decide +kernel
theorem dX8_undo_107 : decode cX8_undo 107 = .ok (.iconst 1, 1) := by decide +kernel
theorem dX8_undo_108 : decode cX8_undo 108 = .ok (.ireturn, 1) := by decide +kernel
theorem dX8_literal_0 : decode cX8_literal 0 = .ok (.aload_n 0, 1) := by decide +kernel
theorem dX8_literal_1 : decode cX8_literal 1 = .ok (.aload_n 0, 1) := by decide +kernel
theorem dX8_literal_2 : decode cX8_literal 2 = .ok (.iload_n 1, 1) := by decide +kernel
theorem dX8_literal_3 : decode cX8_literal 3 = .ok (.invokevirtual 125, 3) := by decide +kernel
theorem dX8_literal_6 : decode cX8_literal 6 = .ok (.ifCond .eq 15, 3) := by decide +kernel
theorem dX8_literal_9 : decode cX8_literal 9 = .ok (.iload_n 2, 1) := by decide +kernel
theorem dX8_literal_10 : decode cX8_literal 10 = .ok (.iconst 2, 1) := by decide +kernel
theorem dX8_literal_11 : decode cX8_literal 11 = .ok (.invokestatic 79, 3) := by decide +kernel
theorem dX8_literal_14 : decode cX8_literal 14 = .ok (.ifCond .eq 7, 3) := by decide +kernel
theorem dX8_literal_17 : decode cX8_literal 17 = .ok (.iconst 0, 1) := by decide +kernel
theorem dX8_literal_18 : decode cX8_literal 18 = .ok (.goto 4, 3) := by decide +kernel
theorem dX8_literal_21 : decode cX8_literal 21 = .ok (.iconst 1, 1) := by decide +kernel
theorem dX8_literal_22 : decode cX8_literal 22 = .ok (.putfield 72, 3) := by decide +kernel
theorem dX8_literal_25 : decode cX8_literal 25 = .ok (.aload_n 0, 1) := by decide +kernel
theorem dX8_literal_26 : decode cX8_literal 26 = .ok (.getfield 72, 3) := by decide +kernel
theorem dX8_literal_29 : decode cX8_literal 29 = .ok (.ifCond .le 7, 3) := by decide +kernel
theorem dX8_literal_32 : decode cX8_literal 32 = .ok (.iconst 0, 1) := by decide +kernel
theorem dX8_literal_33 : decode cX8_literal 33 = .ok (.goto 22, 3) := by decide +kernel
theorem dX8_literal_36 : decode cX8_literal 36 = .ok (.iload_n 2, 1) := by decide +kernel
theorem dX8_literal_37 : decode cX8_literal 37 = .ok (.ifCond .ne 12, 3) := by decide +kernel
theorem dX8_literal_40 : decode cX8_literal 40 = .ok (.aload_n 0, 1) := by decide +kernel
theorem dX8_literal_41 : decode cX8_literal 41 = .ok (.getfield 13, 3) := by decide +kernel
theorem dX8_literal_44 : decode cX8_literal 44 = .ok (.iload_n 1, 1) := by decide +kernel
theorem dX8_literal_45 : decode cX8_literal 45 = .ok (.iaload, 1) := by decide +kernel
theorem dX8_literal_46 : decode cX8_literal 46 = .ok (.goto 9, 3) := by decide +kernel
theorem dX8_literal_49 : decode cX8_literal 49 = .ok (.aload_n 0, 1) := by decide +kernel
theorem dX8_literal_50 : decode cX8_literal 50 = .ok (.getfield 16, 3) := by decide +kernel
theorem dX8_literal_53 : decode cX8_literal 53 = .ok (.iload_n 1, 1) := by decide +kernel
theorem dX8_literal_54 : decode cX8_literal 54 = .ok (.iaload, 1) := by decide +kernel
theorem dX8_literal_55 : decode cX8_literal 55 = .ok (.ireturn, 1) := by decide +kernel
theorem dX8_count_0 : decode cX8_count 0 = .ok (.aload_n 0, 1) := by decide +kernel
theorem dX8_count_1 : decode cX8_count 1 = .ok (.iload_n 1, 1) := by decide +kernel
theorem dX8_count_2 : decode cX8_count 2 = .ok (.bipush 8, 2) := by decide +kernel
theorem dX8_count_4 : decode cX8_count 4 = .ok (.invokestatic 79, 3) := by decide +kernel
theorem dX8_count_7 : decode cX8_count 7 = .ok (.ifCond .eq 7, 3) := by decide +kernel
theorem dX8_count_10 : decode cX8_count 10 = .ok (.iconst 0, 1) := by decide +kernel
theorem dX8_count_11 : decode cX8_count 11 = .ok (.goto 4, 3) := by decide +kernel
theorem dX8_count_14 : decode cX8_count 14 = .ok (.iconst 1, 1) := by decide +kernel
theorem dX8_count_15 : decode cX8_count 15 = .ok (.putfield 72, 3) := by decide +kernel
theorem dX8_count_18 : decode cX8_count 18 = .ok (.iconst 0, 1) := by decide +kernel
theorem dX8_count_19 : decode cX8_count 19 = .ok (.istore_n 2, 1) := by decide +kernel
theorem dX8_count_20 : decode cX8_count 20 = .ok (.iconst 0, 1) := by decide +kernel
theorem dX8_count_21 : decode cX8_count 21 = .ok (.istore_n 3, 1) := by decide +kernel
theorem dX8_count_22 : decode cX8_count 22 = .ok (.iload_n 3, 1) := by decide +kernel
theorem dX8_count_23 : decode cX8_count 23 = .ok (.aload_n 0, 1) := by decide +kernel
theorem dX8_count_24 : decode cX8_count 24 = .ok (.getfield 76, 3) := by decide +kernel
theorem dX8_count_27 : decode cX8_count 27 = .ok (.if_icmp .ge 36, 3) := by decide +kernel
theorem dX8_count_30 : decode cX8_count 30 = .ok (.aload_n 0, 1) := by decide +kernel
theorem dX8_count_31 : decode cX8_count 31 = .ok (.getfield 7, 3) := by decide +kernel
theorem dX8_count_34 : decode cX8_count 34 = .ok (.iload_n 3, 1) := by decide +kernel
theorem dX8_count_35 : decode cX8_count 35 = .ok (.iaload, 1) := by decide +kernel
theorem dX8_count_36 : decode cX8_count 36 = .ok (.iconst 2, 1) := by decide +kernel
theorem dX8_count_37 : decode cX8_count 37 = .ok (.if_icmp .ne 18, 3) := by decide +kernel
theorem dX8_count_40 : decode cX8_count 40 = .ok (.aload_n 0, 1) := by decide +kernel
theorem dX8_count_41 : decode cX8_count 41 = .ok (.getfield 22, 3) := by decide +kernel
theorem dX8_count_44 : decode cX8_count 44 = .ok (.iload_n 3, 1) := by decide +kernel
theorem dX8_count_45 : decode cX8_count 45 = .ok (.baload, 1) := by decide +kernel
theorem dX8_count_46 : decode cX8_count 46 = .ok (.ifCond .eq 9, 3) := by decide +kernel
theorem dX8_count_49 : decode cX8_count 49 = .ok (.iload_n 2, 1) := by decide +kernel
theorem dX8_count_50 : decode cX8_count 50 = .ok (.iconst 1, 1) := by decide +kernel
theorem dX8_count_51 : decode cX8_count 51 = .ok (.iadd, 1) := by decide +kernel
theorem dX8_count_52 : decode cX8_count 52 = .ok (.goto 4, 3) := by decide +kernel
theorem dX8_count_55 : decode cX8_count 55 = .ok (.iload_n 2, 1) := by decide +kernel
theorem dX8_count_56 : decode cX8_count 56 = .ok (.istore_n 2, 1) := by decide +kernel
theorem dX8_count_57 : decode cX8_count 57 = .ok (.iinc 3 1, 3) := by decide +kernel
theorem dX8_count_60 : decode cX8_count 60 = .ok (.goto (-38), 3) := by decide +kernel
theorem dX8_count_63 : decode cX8_count 63 = .ok (.iload_n 1, 1) := by decide +kernel
theorem dX8_count_64 : decode cX8_count 64 = .ok (.tableswitch 85 0 7 #[48, 53, 58, 63, 68, 73, 78, 80], 48) := by decide +kernel
theorem dX8_count_112 : decode cX8_count 112 = .ok (.aload_n 0, 1) := by decide +kernel
theorem dX8_count_113 : decode cX8_count 113 = .ok (.getfield 76, 3) := by decide +kernel
theorem dX8_count_116 : decode cX8_count 116 = .ok (.ireturn, 1) := by decide +kernel
theorem dX8_count_117 : decode cX8_count 117 = .ok (.aload_n 0, 1) := by decide +kernel
theorem dX8_count_118 : decode cX8_count 118 = .ok (.getfield 102, 3) := by decide +kernel
theorem dX8_count_121 : decode cX8_count 121 = .ok (.ireturn, 1) := by decide +kernel
theorem dX8_count_122 : decode cX8_count 122 = .ok (.aload_n 0, 1) := by decide +kernel
theorem dX8_count_123 : decode cX8_count 123 = .ok (.getfield 105, 3) := by decide +kernel
theorem dX8_count_126 : decode cX8_count 126 = .ok (.ireturn, 1) := by decide +kernel
theorem dX8_count_127 : decode cX8_count 127 = .ok (.aload_n 0, 1) := by decide +kernel
theorem dX8_count_128 : decode cX8_count 128 = .ok (.getfield 108, 3) := by decide +kernel
theorem dX8_count_131 : decode cX8_count 131 = .ok (.ireturn, 1) := by decide +kernel
theorem dX8_count_132 : decode cX8_count 132 = .ok (.aload_n 0, 1) := by decide +kernel
theorem dX8_count_133 : decode cX8_count 133 = .ok (.getfield 91, 3) := by decide +kernel
theorem dX8_count_136 : decode cX8_count 136 = .ok (.ireturn, 1) := by decide +kernel
theorem dX8_count_137 : decode cX8_count 137 = .ok (.aload_n 0, 1) := by decide +kernel
theorem dX8_count_138 : decode cX8_count 138 = .ok (.getfield 136, 3) := by decide +kernel
theorem dX8_count_141 : decode cX8_count 141 = .ok (.ireturn, 1) := by decide +kernel
theorem dX8_count_142 : decode cX8_count 142 = .ok (.iload_n 2, 1) := by decide +kernel
theorem dX8_count_143 : decode cX8_count 143 = .ok (.ireturn, 1) := by decide +kernel
theorem dX8_count_144 : decode cX8_count 144 = .ok (.aload_n 0, 1) := by decide +kernel
theorem dX8_count_145 : decode cX8_count 145 = .ok (.getfield 178, 3) := by decide +kernel
theorem dX8_count_148 : decode cX8_count 148 = .ok (.ireturn, 1) := by decide +kernel
theorem dX8_count_149 : decode cX8_count 149 = .ok (.iconst 0, 1) := by decide +kernel
theorem dX8_count_150 : decode cX8_count 150 = .ok (.ireturn, 1) := by decide +kernel
theorem dX8_clear_0 : decode cX8_clear 0 = .ok (.aload_n 0, 1) := by decide +kernel
theorem dX8_clear_1 : decode cX8_clear 1 = .ok (.iconst 0, 1) := by decide +kernel
theorem dX8_clear_2 : decode cX8_clear 2 = .ok (.putfield 72, 3) := by decide +kernel
theorem dX8_clear_5 : decode cX8_clear 5 = .ok (.aload_n 0, 1) := by decide +kernel
theorem dX8_clear_6 : decode cX8_clear 6 = .ok (.iconst 1, 1) := by decide +kernel
theorem dX8_clear_7 : decode cX8_clear 7 = .ok (.putfield 76, 3) := by decide +kernel
theorem dX8_clear_10 : decode cX8_clear 10 = .ok (.aload_n 0, 1) := by decide +kernel
theorem dX8_clear_11 : decode cX8_clear 11 = .ok (.getfield 7, 3) := by decide +kernel
theorem dX8_clear_14 : decode cX8_clear 14 = .ok (.iconst 0, 1) := by decide +kernel
theorem dX8_clear_15 : decode cX8_clear 15 = .ok (.iconst 0, 1) := by decide +kernel
theorem dX8_clear_16 : decode cX8_clear 16 = .ok (.iastore, 1) := by decide +kernel
theorem dX8_clear_17 : decode cX8_clear 17 = .ok (.aload_n 0, 1) := by decide +kernel
theorem dX8_clear_18 : decode cX8_clear 18 = .ok (.getfield 19, 3) := by decide +kernel
theorem dX8_clear_21 : decode cX8_clear 21 = .ok (.iconst 0, 1) := by decide +kernel
theorem dX8_clear_22 : decode cX8_clear 22 = .ok (.iconst 0, 1) := by decide +kernel
theorem dX8_clear_23 : decode cX8_clear 23 = .ok (.iastore, 1) := by decide +kernel
theorem dX8_clear_24 : decode cX8_clear 24 = .ok (.aload_n 0, 1) := by decide +kernel
theorem dX8_clear_25 : decode cX8_clear 25 = .ok (.iconst 0, 1) := by decide +kernel
theorem dX8_clear_26 : decode cX8_clear 26 = .ok (.putfield 102, 3) := by decide +kernel
theorem dX8_clear_29 : decode cX8_clear 29 = .ok (.aload_n 0, 1) := by decide +kernel
theorem dX8_clear_30 : decode cX8_clear 30 = .ok (.iconst 0, 1) := by decide +kernel
theorem dX8_clear_31 : decode cX8_clear 31 = .ok (.putfield 105, 3) := by decide +kernel
theorem dX8_clear_34 : decode cX8_clear 34 = .ok (.aload_n 0, 1) := by decide +kernel
theorem dX8_clear_35 : decode cX8_clear 35 = .ok (.iconst 0, 1) := by decide +kernel
theorem dX8_clear_36 : decode cX8_clear 36 = .ok (.putfield 108, 3) := by decide +kernel
theorem dX8_clear_39 : decode cX8_clear 39 = .ok (.aload_n 0, 1) := by decide +kernel
theorem dX8_clear_40 : decode cX8_clear 40 = .ok (.iconst 0, 1) := by decide +kernel
theorem dX8_clear_41 : decode cX8_clear 41 = .ok (.putfield 91, 3) := by decide +kernel
theorem dX8_clear_44 : decode cX8_clear 44 = .ok (.aload_n 0, 1) := by decide +kernel
theorem dX8_clear_45 : decode cX8_clear 45 = .ok (.iconst 0, 1) := by decide +kernel
theorem dX8_clear_46 : decode cX8_clear 46 = .ok (.putfield 136, 3) := by decide +kernel
theorem dX8_clear_49 : decode cX8_clear 49 = .ok (.aload_n 0, 1) := by decide +kernel
theorem dX8_clear_50 : decode cX8_clear 50 = .ok (.iconst 0, 1) := by decide +kernel
theorem dX8_clear_51 : decode cX8_clear 51 = .ok (.putfield 178, 3) := by decide +kernel
theorem dX8_clear_54 : decode cX8_clear 54 = .ok (.aload_n 0, 1) := by decide +kernel
theorem dX8_clear_55 : decode cX8_clear 55 = .ok (.iconst 0, 1) := by decide +kernel
theorem dX8_clear_56 : decode cX8_clear 56 = .ok (.putfield 98, 3) := by decide +kernel
theorem dX8_clear_59 : decode cX8_clear 59 = .ok (.return_, 1) := by decide +kernel
theorem dJ9_abs_0f7a4_0 : decode cJ9_abs_0f7a4 0 = .ok (.iload_n 0, 1) := by decide +kernel
theorem dJ9_abs_0f7a4_1 : decode cJ9_abs_0f7a4 1 = .ok (.ifCond .ge 8, 3) := by decide +kernel
theorem dJ9_abs_0f7a4_4 : decode cJ9_abs_0f7a4 4 = .ok (.iload_n 0, 1) := by decide +kernel
theorem dJ9_abs_0f7a4_5 : decode cJ9_abs_0f7a4 5 = .ok (.ineg, 1) := by decide +kernel
theorem dJ9_abs_0f7a4_6 : decode cJ9_abs_0f7a4 6 = .ok (.goto 4, 3) := by decide +kernel
theorem dJ9_abs_0f7a4_9 : decode cJ9_abs_0f7a4 9 = .ok (.iload_n 0, 1) := by decide +kernel
theorem dJ9_abs_0f7a4_10 : decode cJ9_abs_0f7a4 10 = .ok (.ireturn, 1) := by decide +kernel
theorem dL_input_0 : decode cL_input 0 = .ok (.aload_n 1, 1) := by decide +kernel
theorem dL_input_1 : decode cL_input 1 = .ok (.iconst 0, 1) := by decide +kernel
theorem dL_input_2 : decode cL_input 2 = .ok (.aload_n 0, 1) := by decide +kernel
theorem dL_input_3 : decode cL_input 3 = .ok (.invokevirtual 7, 3) := by decide +kernel
theorem dL_input_6 : decode cL_input 6 = .ok (.i2l, 1) := by decide +kernel
theorem dL_input_7 : decode cL_input 7 = .ok (.lastore, 1) := by decide +kernel
theorem dL_input_8 : decode cL_input 8 = .ok (.goto 6, 3) := by decide +kernel
theorem dL_input_11 : decode cL_input 11 = .ok (.astore_n 2, 1) := by decide +kernel
theorem dL_input_12 : decode cL_input 12 = .ok (.iconst 1, 1) := by decide +kernel
theorem dL_input_13 : decode cL_input 13 = .ok (.ireturn, 1) := by decide +kernel
theorem dL_input_14 : decode cL_input 14 = .ok (.iconst 0, 1) := by decide +kernel
theorem dL_input_15 : decode cL_input 15 = .ok (.ireturn, 1) := by decide +kernel
theorem dL_old_0 : decode cL_old 0 = .ok (.aload_n 3, 1) := by decide +kernel
theorem dL_old_1 : decode cL_old 1 = .ok (.iconst 0, 1) := by decide +kernel
theorem dL_old_2 : decode cL_old 2 = .ok (.aload_n 0, 1) := by decide +kernel
theorem dL_old_3 : decode cL_old 3 = .ok (.iload_n 1, 1) := by decide +kernel
theorem dL_old_4 : decode cL_old 4 = .ok (.iload_n 2, 1) := by decide +kernel
theorem dL_old_5 : decode cL_old 5 = .ok (.invokevirtual 15, 3) := by decide +kernel
theorem dL_old_8 : decode cL_old 8 = .ok (.i2l, 1) := by decide +kernel
theorem dL_old_9 : decode cL_old 9 = .ok (.lastore, 1) := by decide +kernel
theorem dL_old_10 : decode cL_old 10 = .ok (.goto 15, 3) := by decide +kernel
theorem dL_old_13 : decode cL_old 13 = .ok (.astore 4, 2) := by decide +kernel
theorem dL_old_15 : decode cL_old 15 = .ok (.iconst 1, 1) := by decide +kernel
theorem dL_old_16 : decode cL_old 16 = .ok (.ireturn, 1) := by decide +kernel
theorem dL_old_17 : decode cL_old 17 = .ok (.astore 4, 2) := by decide +kernel
theorem dL_old_19 : decode cL_old 19 = .ok (.iconst 2, 1) := by decide +kernel
theorem dL_old_20 : decode cL_old 20 = .ok (.ireturn, 1) := by decide +kernel
theorem dL_old_21 : decode cL_old 21 = .ok (.astore 4, 2) := by decide +kernel
theorem dL_old_23 : decode cL_old 23 = .ok (.iconst 3, 1) := by decide +kernel
theorem dL_old_24 : decode cL_old 24 = .ok (.ireturn, 1) := by decide +kernel
theorem dL_old_25 : decode cL_old 25 = .ok (.iconst 0, 1) := by decide +kernel
theorem dL_old_26 : decode cL_old 26 = .ok (.ireturn, 1) := by decide +kernel
theorem dL_asked_0 : decode cL_asked 0 = .ok (.aload_n 3, 1) := by decide +kernel
theorem dL_asked_1 : decode cL_asked 1 = .ok (.iconst 0, 1) := by decide +kernel
theorem dL_asked_2 : decode cL_asked 2 = .ok (.aload_n 0, 1) := by decide +kernel
theorem dL_asked_3 : decode cL_asked 3 = .ok (.iload_n 1, 1) := by decide +kernel
theorem dL_asked_4 : decode cL_asked 4 = .ok (.iload_n 2, 1) := by decide +kernel
theorem dL_asked_5 : decode cL_asked 5 = .ok (.invokevirtual 23, 3) := by decide +kernel
theorem dL_asked_8 : decode cL_asked 8 = .ok (.i2l, 1) := by decide +kernel
theorem dL_asked_9 : decode cL_asked 9 = .ok (.lastore, 1) := by decide +kernel
theorem dL_asked_10 : decode cL_asked 10 = .ok (.goto 15, 3) := by decide +kernel
theorem dL_asked_13 : decode cL_asked 13 = .ok (.astore 4, 2) := by decide +kernel
theorem dL_asked_15 : decode cL_asked 15 = .ok (.iconst 1, 1) := by decide +kernel
theorem dL_asked_16 : decode cL_asked 16 = .ok (.ireturn, 1) := by decide +kernel
theorem dL_asked_17 : decode cL_asked 17 = .ok (.astore 4, 2) := by decide +kernel
theorem dL_asked_19 : decode cL_asked 19 = .ok (.iconst 2, 1) := by decide +kernel
theorem dL_asked_20 : decode cL_asked 20 = .ok (.ireturn, 1) := by decide +kernel
theorem dL_asked_21 : decode cL_asked 21 = .ok (.astore 4, 2) := by decide +kernel
theorem dL_asked_23 : decode cL_asked 23 = .ok (.iconst 3, 1) := by decide +kernel
theorem dL_asked_24 : decode cL_asked 24 = .ok (.ireturn, 1) := by decide +kernel
theorem dL_asked_25 : decode cL_asked 25 = .ok (.iconst 0, 1) := by decide +kernel
theorem dL_asked_26 : decode cL_asked 26 = .ok (.ireturn, 1) := by decide +kernel
theorem dL_output_0 : decode cL_output 0 = .ok (.aload_n 3, 1) := by decide +kernel
theorem dL_output_1 : decode cL_output 1 = .ok (.iconst 0, 1) := by decide +kernel
theorem dL_output_2 : decode cL_output 2 = .ok (.aload_n 0, 1) := by decide +kernel
theorem dL_output_3 : decode cL_output 3 = .ok (.iload_n 1, 1) := by decide +kernel
theorem dL_output_4 : decode cL_output 4 = .ok (.iload_n 2, 1) := by decide +kernel
theorem dL_output_5 : decode cL_output 5 = .ok (.invokevirtual 26, 3) := by decide +kernel
theorem dL_output_8 : decode cL_output 8 = .ok (.i2l, 1) := by decide +kernel
theorem dL_output_9 : decode cL_output 9 = .ok (.lastore, 1) := by decide +kernel
theorem dL_output_10 : decode cL_output 10 = .ok (.goto 15, 3) := by decide +kernel
theorem dL_output_13 : decode cL_output 13 = .ok (.astore 4, 2) := by decide +kernel
theorem dL_output_15 : decode cL_output 15 = .ok (.iconst 1, 1) := by decide +kernel
theorem dL_output_16 : decode cL_output 16 = .ok (.ireturn, 1) := by decide +kernel
theorem dL_output_17 : decode cL_output 17 = .ok (.astore 4, 2) := by decide +kernel
theorem dL_output_19 : decode cL_output 19 = .ok (.iconst 2, 1) := by decide +kernel
theorem dL_output_20 : decode cL_output 20 = .ok (.ireturn, 1) := by decide +kernel
theorem dL_output_21 : decode cL_output 21 = .ok (.astore 4, 2) := by decide +kernel
theorem dL_output_23 : decode cL_output 23 = .ok (.iconst 3, 1) := by decide +kernel
theorem dL_output_24 : decode cL_output 24 = .ok (.ireturn, 1) := by decide +kernel
theorem dL_output_25 : decode cL_output 25 = .ok (.iconst 0, 1) := by decide +kernel
theorem dL_output_26 : decode cL_output 26 = .ok (.ireturn, 1) := by decide +kernel
theorem dL_value_0 : decode cL_value 0 = .ok (.aload_n 3, 1) := by decide +kernel
theorem dL_value_1 : decode cL_value 1 = .ok (.iconst 0, 1) := by decide +kernel
theorem dL_value_2 : decode cL_value 2 = .ok (.aload_n 0, 1) := by decide +kernel
theorem dL_value_3 : decode cL_value 3 = .ok (.iload_n 1, 1) := by decide +kernel
theorem dL_value_4 : decode cL_value 4 = .ok (.iload_n 2, 1) := by decide +kernel
theorem dL_value_5 : decode cL_value 5 = .ok (.invokevirtual 29, 3) := by decide +kernel
theorem dL_value_8 : decode cL_value 8 = .ok (.i2l, 1) := by decide +kernel
theorem dL_value_9 : decode cL_value 9 = .ok (.lastore, 1) := by decide +kernel
theorem dL_value_10 : decode cL_value 10 = .ok (.goto 7, 3) := by decide +kernel
theorem dL_value_13 : decode cL_value 13 = .ok (.astore 4, 2) := by decide +kernel
theorem dL_value_15 : decode cL_value 15 = .ok (.iconst 1, 1) := by decide +kernel
theorem dL_value_16 : decode cL_value 16 = .ok (.ireturn, 1) := by decide +kernel
theorem dL_value_17 : decode cL_value 17 = .ok (.iconst 0, 1) := by decide +kernel
theorem dL_value_18 : decode cL_value 18 = .ok (.ireturn, 1) := by decide +kernel
theorem dL_witness_0 : decode cL_witness 0 = .ok (.aload_n 2, 1) := by decide +kernel
theorem dL_witness_1 : decode cL_witness 1 = .ok (.iconst 0, 1) := by decide +kernel
theorem dL_witness_2 : decode cL_witness 2 = .ok (.aload_n 0, 1) := by decide +kernel
theorem dL_witness_3 : decode cL_witness 3 = .ok (.iload_n 1, 1) := by decide +kernel
theorem dL_witness_4 : decode cL_witness 4 = .ok (.invokevirtual 32, 3) := by decide +kernel
theorem dL_witness_7 : decode cL_witness 7 = .ok (.i2l, 1) := by decide +kernel
theorem dL_witness_8 : decode cL_witness 8 = .ok (.lastore, 1) := by decide +kernel
theorem dL_witness_9 : decode cL_witness 9 = .ok (.goto 6, 3) := by decide +kernel
theorem dL_witness_12 : decode cL_witness 12 = .ok (.astore_n 3, 1) := by decide +kernel
theorem dL_witness_13 : decode cL_witness 13 = .ok (.iconst 1, 1) := by decide +kernel
theorem dL_witness_14 : decode cL_witness 14 = .ok (.ireturn, 1) := by decide +kernel
theorem dL_witness_15 : decode cL_witness 15 = .ok (.iconst 0, 1) := by decide +kernel
theorem dL_witness_16 : decode cL_witness 16 = .ok (.ireturn, 1) := by decide +kernel
theorem dL_matched_0 : decode cL_matched 0 = .ok (.aload_n 2, 1) := by decide +kernel
theorem dL_matched_1 : decode cL_matched 1 = .ok (.iconst 0, 1) := by decide +kernel
theorem dL_matched_2 : decode cL_matched 2 = .ok (.aload_n 0, 1) := by decide +kernel
theorem dL_matched_3 : decode cL_matched 3 = .ok (.iload_n 1, 1) := by decide +kernel
theorem dL_matched_4 : decode cL_matched 4 = .ok (.invokevirtual 36, 3) := by decide +kernel
theorem dL_matched_7 : decode cL_matched 7 = .ok (.i2l, 1) := by decide +kernel
theorem dL_matched_8 : decode cL_matched 8 = .ok (.lastore, 1) := by decide +kernel
theorem dL_matched_9 : decode cL_matched 9 = .ok (.goto 6, 3) := by decide +kernel
theorem dL_matched_12 : decode cL_matched 12 = .ok (.astore_n 3, 1) := by decide +kernel
theorem dL_matched_13 : decode cL_matched 13 = .ok (.iconst 1, 1) := by decide +kernel
theorem dL_matched_14 : decode cL_matched 14 = .ok (.ireturn, 1) := by decide +kernel
theorem dL_matched_15 : decode cL_matched 15 = .ok (.iconst 0, 1) := by decide +kernel
theorem dL_matched_16 : decode cL_matched 16 = .ok (.ireturn, 1) := by decide +kernel
theorem dL_keep_0 : decode cL_keep 0 = .ok (.aload_n 3, 1) := by decide +kernel
theorem dL_keep_1 : decode cL_keep 1 = .ok (.iconst 0, 1) := by decide +kernel
theorem dL_keep_2 : decode cL_keep 2 = .ok (.aload_n 0, 1) := by decide +kernel
theorem dL_keep_3 : decode cL_keep 3 = .ok (.iload_n 1, 1) := by decide +kernel
theorem dL_keep_4 : decode cL_keep 4 = .ok (.iload_n 2, 1) := by decide +kernel
theorem dL_keep_5 : decode cL_keep 5 = .ok (.invokevirtual 39, 3) := by decide +kernel
theorem dL_keep_8 : decode cL_keep 8 = .ok (.ifCond .eq 7, 3) := by decide +kernel
theorem dL_keep_11 : decode cL_keep 11 = .ok (.lconst 1, 1) := by decide +kernel
theorem dL_keep_12 : decode cL_keep 12 = .ok (.goto 4, 3) := by decide +kernel
theorem dL_keep_15 : decode cL_keep 15 = .ok (.lconst 0, 1) := by decide +kernel
theorem dL_keep_16 : decode cL_keep 16 = .ok (.lastore, 1) := by decide +kernel
theorem dL_keep_17 : decode cL_keep 17 = .ok (.goto 7, 3) := by decide +kernel
theorem dL_keep_20 : decode cL_keep 20 = .ok (.astore 4, 2) := by decide +kernel
theorem dL_keep_22 : decode cL_keep 22 = .ok (.iconst 1, 1) := by decide +kernel
theorem dL_keep_23 : decode cL_keep 23 = .ok (.ireturn, 1) := by decide +kernel
theorem dL_keep_24 : decode cL_keep 24 = .ok (.iconst 0, 1) := by decide +kernel
theorem dL_keep_25 : decode cL_keep 25 = .ok (.ireturn, 1) := by decide +kernel
theorem dL_place_0 : decode cL_place 0 = .ok (.aload 6, 2) := by decide +kernel
theorem dL_place_2 : decode cL_place 2 = .ok (.iconst 0, 1) := by decide +kernel
theorem dL_place_3 : decode cL_place 3 = .ok (.aload_n 0, 1) := by decide +kernel
theorem dL_place_4 : decode cL_place 4 = .ok (.iload_n 1, 1) := by decide +kernel
theorem dL_place_5 : decode cL_place 5 = .ok (.lload_n 2, 1) := by decide +kernel
theorem dL_place_6 : decode cL_place 6 = .ok (.lload 4, 2) := by decide +kernel
theorem dL_place_8 : decode cL_place 8 = .ok (.invokevirtual 43, 3) := by decide +kernel
theorem dL_place_11 : decode cL_place 11 = .ok (.ifCond .eq 7, 3) := by decide +kernel
theorem dL_place_14 : decode cL_place 14 = .ok (.lconst 1, 1) := by decide +kernel
theorem dL_place_15 : decode cL_place 15 = .ok (.goto 4, 3) := by decide +kernel
theorem dL_place_18 : decode cL_place 18 = .ok (.lconst 0, 1) := by decide +kernel
theorem dL_place_19 : decode cL_place 19 = .ok (.lastore, 1) := by decide +kernel
theorem dL_place_20 : decode cL_place 20 = .ok (.goto 11, 3) := by decide +kernel
theorem dL_place_23 : decode cL_place 23 = .ok (.astore 7, 2) := by decide +kernel
theorem dL_place_25 : decode cL_place 25 = .ok (.iconst 1, 1) := by decide +kernel
theorem dL_place_26 : decode cL_place 26 = .ok (.ireturn, 1) := by decide +kernel
theorem dL_place_27 : decode cL_place 27 = .ok (.astore 7, 2) := by decide +kernel
theorem dL_place_29 : decode cL_place 29 = .ok (.iconst 2, 1) := by decide +kernel
theorem dL_place_30 : decode cL_place 30 = .ok (.ireturn, 1) := by decide +kernel
theorem dL_place_31 : decode cL_place 31 = .ok (.iconst 0, 1) := by decide +kernel
theorem dL_place_32 : decode cL_place 32 = .ok (.ireturn, 1) := by decide +kernel
theorem dL_spare_0 : decode cL_spare 0 = .ok (.aload 5, 2) := by decide +kernel
theorem dL_spare_2 : decode cL_spare 2 = .ok (.iconst 0, 1) := by decide +kernel
theorem dL_spare_3 : decode cL_spare 3 = .ok (.aload_n 0, 1) := by decide +kernel
theorem dL_spare_4 : decode cL_spare 4 = .ok (.lload_n 1, 1) := by decide +kernel
theorem dL_spare_5 : decode cL_spare 5 = .ok (.lload_n 3, 1) := by decide +kernel
theorem dL_spare_6 : decode cL_spare 6 = .ok (.invokevirtual 47, 3) := by decide +kernel
theorem dL_spare_9 : decode cL_spare 9 = .ok (.i2l, 1) := by decide +kernel
theorem dL_spare_10 : decode cL_spare 10 = .ok (.lastore, 1) := by decide +kernel
theorem dL_spare_11 : decode cL_spare 11 = .ok (.goto 11, 3) := by decide +kernel
theorem dL_spare_14 : decode cL_spare 14 = .ok (.astore 6, 2) := by decide +kernel
theorem dL_spare_16 : decode cL_spare 16 = .ok (.iconst 1, 1) := by decide +kernel
theorem dL_spare_17 : decode cL_spare 17 = .ok (.ireturn, 1) := by decide +kernel
theorem dL_spare_18 : decode cL_spare 18 = .ok (.astore 6, 2) := by decide +kernel
theorem dL_spare_20 : decode cL_spare 20 = .ok (.iconst 2, 1) := by decide +kernel
theorem dL_spare_21 : decode cL_spare 21 = .ok (.ireturn, 1) := by decide +kernel
theorem dL_spare_22 : decode cL_spare 22 = .ok (.iconst 0, 1) := by decide +kernel
theorem dL_spare_23 : decode cL_spare 23 = .ok (.ireturn, 1) := by decide +kernel
theorem dL_run_0 : decode cL_run 0 = .ok (.aload_n 2, 1) := by decide +kernel
theorem dL_run_1 : decode cL_run 1 = .ok (.iconst 0, 1) := by decide +kernel
theorem dL_run_2 : decode cL_run 2 = .ok (.aload_n 0, 1) := by decide +kernel
theorem dL_run_3 : decode cL_run 3 = .ok (.iload_n 1, 1) := by decide +kernel
theorem dL_run_4 : decode cL_run 4 = .ok (.invokevirtual 51, 3) := by decide +kernel
theorem dL_run_7 : decode cL_run 7 = .ok (.i2l, 1) := by decide +kernel
theorem dL_run_8 : decode cL_run 8 = .ok (.lastore, 1) := by decide +kernel
theorem dL_run_9 : decode cL_run 9 = .ok (.goto 6, 3) := by decide +kernel
theorem dL_run_12 : decode cL_run 12 = .ok (.astore_n 3, 1) := by decide +kernel
theorem dL_run_13 : decode cL_run 13 = .ok (.iconst 1, 1) := by decide +kernel
theorem dL_run_14 : decode cL_run 14 = .ok (.ireturn, 1) := by decide +kernel
theorem dL_run_15 : decode cL_run 15 = .ok (.iconst 0, 1) := by decide +kernel
theorem dL_run_16 : decode cL_run 16 = .ok (.ireturn, 1) := by decide +kernel
theorem dL_edit_0 : decode cL_edit 0 = .ok (.aload_n 3, 1) := by decide +kernel
theorem dL_edit_1 : decode cL_edit 1 = .ok (.iconst 0, 1) := by decide +kernel
theorem dL_edit_2 : decode cL_edit 2 = .ok (.aload_n 0, 1) := by decide +kernel
theorem dL_edit_3 : decode cL_edit 3 = .ok (.iload_n 1, 1) := by decide +kernel
theorem dL_edit_4 : decode cL_edit 4 = .ok (.iload_n 2, 1) := by decide +kernel
theorem dL_edit_5 : decode cL_edit 5 = .ok (.invokevirtual 54, 3) := by decide +kernel
theorem dL_edit_8 : decode cL_edit 8 = .ok (.i2l, 1) := by decide +kernel
theorem dL_edit_9 : decode cL_edit 9 = .ok (.lastore, 1) := by decide +kernel
theorem dL_edit_10 : decode cL_edit 10 = .ok (.goto 11, 3) := by decide +kernel
theorem dL_edit_13 : decode cL_edit 13 = .ok (.astore 4, 2) := by decide +kernel
theorem dL_edit_15 : decode cL_edit 15 = .ok (.iconst 1, 1) := by decide +kernel
theorem dL_edit_16 : decode cL_edit 16 = .ok (.ireturn, 1) := by decide +kernel
theorem dL_edit_17 : decode cL_edit 17 = .ok (.astore 4, 2) := by decide +kernel
theorem dL_edit_19 : decode cL_edit 19 = .ok (.iconst 2, 1) := by decide +kernel
theorem dL_edit_20 : decode cL_edit 20 = .ok (.ireturn, 1) := by decide +kernel
theorem dL_edit_21 : decode cL_edit 21 = .ok (.iconst 0, 1) := by decide +kernel
theorem dL_edit_22 : decode cL_edit 22 = .ok (.ireturn, 1) := by decide +kernel
theorem dL_used_0 : decode cL_used 0 = .ok (.aload_n 2, 1) := by decide +kernel
theorem dL_used_1 : decode cL_used 1 = .ok (.iconst 0, 1) := by decide +kernel
theorem dL_used_2 : decode cL_used 2 = .ok (.aload_n 0, 1) := by decide +kernel
theorem dL_used_3 : decode cL_used 3 = .ok (.iload_n 1, 1) := by decide +kernel
theorem dL_used_4 : decode cL_used 4 = .ok (.invokevirtual 57, 3) := by decide +kernel
theorem dL_used_7 : decode cL_used 7 = .ok (.i2l, 1) := by decide +kernel
theorem dL_used_8 : decode cL_used 8 = .ok (.lastore, 1) := by decide +kernel
theorem dL_used_9 : decode cL_used 9 = .ok (.goto 9, 3) := by decide +kernel
theorem dL_used_12 : decode cL_used 12 = .ok (.astore_n 3, 1) := by decide +kernel
theorem dL_used_13 : decode cL_used 13 = .ok (.iconst 1, 1) := by decide +kernel
theorem dL_used_14 : decode cL_used 14 = .ok (.ireturn, 1) := by decide +kernel
theorem dL_used_15 : decode cL_used 15 = .ok (.astore_n 3, 1) := by decide +kernel
theorem dL_used_16 : decode cL_used 16 = .ok (.iconst 2, 1) := by decide +kernel
theorem dL_used_17 : decode cL_used 17 = .ok (.ireturn, 1) := by decide +kernel
theorem dL_used_18 : decode cL_used 18 = .ok (.iconst 0, 1) := by decide +kernel
theorem dL_used_19 : decode cL_used 19 = .ok (.ireturn, 1) := by decide +kernel
theorem dL_length_0 : decode cL_length 0 = .ok (.aload_n 1, 1) := by decide +kernel
theorem dL_length_1 : decode cL_length 1 = .ok (.iconst 0, 1) := by decide +kernel
theorem dL_length_2 : decode cL_length 2 = .ok (.aload_n 0, 1) := by decide +kernel
theorem dL_length_3 : decode cL_length 3 = .ok (.invokevirtual 60, 3) := by decide +kernel
theorem dL_length_6 : decode cL_length 6 = .ok (.i2l, 1) := by decide +kernel
theorem dL_length_7 : decode cL_length 7 = .ok (.lastore, 1) := by decide +kernel
theorem dL_length_8 : decode cL_length 8 = .ok (.goto 6, 3) := by decide +kernel
theorem dL_length_11 : decode cL_length 11 = .ok (.astore_n 2, 1) := by decide +kernel
theorem dL_length_12 : decode cL_length 12 = .ok (.iconst 1, 1) := by decide +kernel
theorem dL_length_13 : decode cL_length 13 = .ok (.ireturn, 1) := by decide +kernel
theorem dL_length_14 : decode cL_length 14 = .ok (.iconst 0, 1) := by decide +kernel
theorem dL_length_15 : decode cL_length 15 = .ok (.ireturn, 1) := by decide +kernel
theorem dL_make_0 : decode cL_make 0 = .ok (.aload_n 1, 1) := by decide +kernel
theorem dL_make_1 : decode cL_make 1 = .ok (.iconst 0, 1) := by decide +kernel
theorem dL_make_2 : decode cL_make 2 = .ok (.aload_n 0, 1) := by decide +kernel
theorem dL_make_3 : decode cL_make 3 = .ok (.invokevirtual 63, 3) := by decide +kernel
theorem dL_make_6 : decode cL_make 6 = .ok (.i2l, 1) := by decide +kernel
theorem dL_make_7 : decode cL_make 7 = .ok (.lastore, 1) := by decide +kernel
theorem dL_make_8 : decode cL_make 8 = .ok (.goto 6, 3) := by decide +kernel
theorem dL_make_11 : decode cL_make 11 = .ok (.astore_n 2, 1) := by decide +kernel
theorem dL_make_12 : decode cL_make 12 = .ok (.iconst 1, 1) := by decide +kernel
theorem dL_make_13 : decode cL_make 13 = .ok (.ireturn, 1) := by decide +kernel
theorem dL_make_14 : decode cL_make 14 = .ok (.iconst 0, 1) := by decide +kernel
theorem dL_make_15 : decode cL_make 15 = .ok (.ireturn, 1) := by decide +kernel
theorem dL_literal_0 : decode cL_literal 0 = .ok (.aload_n 3, 1) := by decide +kernel
theorem dL_literal_1 : decode cL_literal 1 = .ok (.iconst 0, 1) := by decide +kernel
theorem dL_literal_2 : decode cL_literal 2 = .ok (.aload_n 0, 1) := by decide +kernel
theorem dL_literal_3 : decode cL_literal 3 = .ok (.iload_n 1, 1) := by decide +kernel
theorem dL_literal_4 : decode cL_literal 4 = .ok (.iload_n 2, 1) := by decide +kernel
theorem dL_literal_5 : decode cL_literal 5 = .ok (.invokevirtual 66, 3) := by decide +kernel
theorem dL_literal_8 : decode cL_literal 8 = .ok (.i2l, 1) := by decide +kernel
theorem dL_literal_9 : decode cL_literal 9 = .ok (.lastore, 1) := by decide +kernel
theorem dL_literal_10 : decode cL_literal 10 = .ok (.goto 7, 3) := by decide +kernel
theorem dL_literal_13 : decode cL_literal 13 = .ok (.astore 4, 2) := by decide +kernel
theorem dL_literal_15 : decode cL_literal 15 = .ok (.iconst 1, 1) := by decide +kernel
theorem dL_literal_16 : decode cL_literal 16 = .ok (.ireturn, 1) := by decide +kernel
theorem dL_literal_17 : decode cL_literal 17 = .ok (.iconst 0, 1) := by decide +kernel
theorem dL_literal_18 : decode cL_literal 18 = .ok (.ireturn, 1) := by decide +kernel
theorem dL_count_0 : decode cL_count 0 = .ok (.aload_n 2, 1) := by decide +kernel
theorem dL_count_1 : decode cL_count 1 = .ok (.iconst 0, 1) := by decide +kernel
theorem dL_count_2 : decode cL_count 2 = .ok (.aload_n 0, 1) := by decide +kernel
theorem dL_count_3 : decode cL_count 3 = .ok (.iload_n 1, 1) := by decide +kernel
theorem dL_count_4 : decode cL_count 4 = .ok (.invokevirtual 69, 3) := by decide +kernel
theorem dL_count_7 : decode cL_count 7 = .ok (.i2l, 1) := by decide +kernel
theorem dL_count_8 : decode cL_count 8 = .ok (.lastore, 1) := by decide +kernel
theorem dL_count_9 : decode cL_count 9 = .ok (.goto 6, 3) := by decide +kernel
theorem dL_count_12 : decode cL_count 12 = .ok (.astore_n 3, 1) := by decide +kernel
theorem dL_count_13 : decode cL_count 13 = .ok (.iconst 1, 1) := by decide +kernel
theorem dL_count_14 : decode cL_count 14 = .ok (.ireturn, 1) := by decide +kernel
theorem dL_count_15 : decode cL_count 15 = .ok (.iconst 0, 1) := by decide +kernel
theorem dL_count_16 : decode cL_count 16 = .ok (.ireturn, 1) := by decide +kernel
theorem dL_law_0 : decode cL_law 0 = .ok (.new 8, 3) := by decide +kernel
theorem dL_law_3 : decode cL_law 3 = .ok (.dup, 1) := by decide +kernel
theorem dL_law_4 : decode cL_law 4 = .ok (.invokespecial 72, 3) := by decide +kernel
theorem dL_law_7 : decode cL_law 7 = .ok (.astore_n 1, 1) := by decide +kernel
theorem dL_law_8 : decode cL_law 8 = .ok (.new 73, 3) := by decide +kernel
theorem dL_law_11 : decode cL_law 11 = .ok (.dup, 1) := by decide +kernel
theorem dL_law_12 : decode cL_law 12 = .ok (.invokespecial 75, 3) := by decide +kernel
theorem dL_law_15 : decode cL_law 15 = .ok (.astore_n 2, 1) := by decide +kernel
theorem dL_law_16 : decode cL_law 16 = .ok (.iconst 1, 1) := by decide +kernel
theorem dL_law_17 : decode cL_law 17 = .ok (.newarray .long, 2) := by decide +kernel
theorem dL_law_19 : decode cL_law 19 = .ok (.astore_n 3, 1) := by decide +kernel
theorem dL_law_20 : decode cL_law 20 = .ok (.iconst 0, 1) := by decide +kernel
theorem dL_law_21 : decode cL_law 21 = .ok (.istore 4, 2) := by decide +kernel
theorem dL_law_23 : decode cL_law 23 = .ok (.iload 4, 2) := by decide +kernel
theorem dL_law_25 : decode cL_law 25 = .ok (.aload_n 0, 1) := by decide +kernel
theorem dL_law_26 : decode cL_law 26 = .ok (.arraylength, 1) := by decide +kernel
theorem dL_law_27 : decode cL_law 27 = .ok (.bipush 6, 2) := by decide +kernel
theorem dL_law_29 : decode cL_law 29 = .ok (.isub, 1) := by decide +kernel
theorem dL_law_30 : decode cL_law 30 = .ok (.if_icmp .gt 1343, 3) := by decide +kernel
theorem dL_law_33 : decode cL_law 33 = .ok (.aload_n 0, 1) := by decide +kernel
theorem dL_law_34 : decode cL_law 34 = .ok (.iload 4, 2) := by decide +kernel
theorem dL_law_36 : decode cL_law 36 = .ok (.iaload, 1) := by decide +kernel
theorem dL_law_37 : decode cL_law 37 = .ok (.bipush 31, 2) := by decide +kernel
theorem dL_law_39 : decode cL_law 39 = .ok (.iand, 1) := by decide +kernel
theorem dL_law_40 : decode cL_law 40 = .ok (.tableswitch 1327 0 19 #[96, 140, 208, 276, 344, 412, 425, 481, 537, 628, 779, 911, 967, 1035, 1091, 1135, 1179, 1192, 1260, 1316], 96) := by decide +kernel
theorem dL_law_136 : decode cL_law 136 = .ok (.aload_n 1, 1) := by decide +kernel
theorem dL_law_137 : decode cL_law 137 = .ok (.aload_n 3, 1) := by decide +kernel
theorem dL_law_138 : decode cL_law 138 = .ok (.invokestatic 76, 3) := by decide +kernel
theorem dL_law_141 : decode cL_law 141 = .ok (.istore 5, 2) := by decide +kernel
theorem dL_law_143 : decode cL_law 143 = .ok (.aload_n 2, 1) := by decide +kernel
theorem dL_law_144 : decode cL_law 144 = .ok (.invokevirtual 81, 3) := by decide +kernel
theorem dL_law_147 : decode cL_law 147 = .ok (.istore 6, 2) := by decide +kernel
theorem dL_law_149 : decode cL_law 149 = .ok (.aload_n 2, 1) := by decide +kernel
theorem dL_law_150 : decode cL_law 150 = .ok (.invokevirtual 82, 3) := by decide +kernel
theorem dL_law_153 : decode cL_law 153 = .ok (.iload 5, 2) := by decide +kernel
theorem dL_law_155 : decode cL_law 155 = .ok (.if_icmp .eq 5, 3) := by decide +kernel
theorem dL_law_158 : decode cL_law 158 = .ok (.iconst 0, 1) := by decide +kernel
theorem dL_law_159 : decode cL_law 159 = .ok (.ireturn, 1) := by decide +kernel
theorem dL_law_160 : decode cL_law 160 = .ok (.iload 5, 2) := by decide +kernel
theorem dL_law_162 : decode cL_law 162 = .ok (.ifCond .ne 15, 3) := by decide +kernel
theorem dL_law_165 : decode cL_law 165 = .ok (.aload_n 3, 1) := by decide +kernel
theorem dL_law_166 : decode cL_law 166 = .ok (.iconst 0, 1) := by decide +kernel
theorem dL_law_167 : decode cL_law 167 = .ok (.laload, 1) := by decide +kernel
theorem dL_law_168 : decode cL_law 168 = .ok (.iload 6, 2) := by decide +kernel
theorem dL_law_170 : decode cL_law 170 = .ok (.i2l, 1) := by decide +kernel
theorem dL_law_171 : decode cL_law 171 = .ok (.lcmp, 1) := by decide +kernel
theorem dL_law_172 : decode cL_law 172 = .ok (.ifCond .eq 5, 3) := by decide +kernel
theorem dL_law_175 : decode cL_law 175 = .ok (.iconst 0, 1) := by decide +kernel
theorem dL_law_176 : decode cL_law 176 = .ok (.ireturn, 1) := by decide +kernel
theorem dL_law_177 : decode cL_law 177 = .ok (.goto 1190, 3) := by decide +kernel
theorem dL_law_180 : decode cL_law 180 = .ok (.aload_n 1, 1) := by decide +kernel
theorem dL_law_181 : decode cL_law 181 = .ok (.aload_n 0, 1) := by decide +kernel
theorem dL_law_182 : decode cL_law 182 = .ok (.iload 4, 2) := by decide +kernel
theorem dL_law_184 : decode cL_law 184 = .ok (.iconst 1, 1) := by decide +kernel
theorem dL_law_185 : decode cL_law 185 = .ok (.iadd, 1) := by decide +kernel
theorem dL_law_186 : decode cL_law 186 = .ok (.iaload, 1) := by decide +kernel
theorem dL_law_187 : decode cL_law 187 = .ok (.aload_n 0, 1) := by decide +kernel
theorem dL_law_188 : decode cL_law 188 = .ok (.iload 4, 2) := by decide +kernel
theorem dL_law_190 : decode cL_law 190 = .ok (.iconst 2, 1) := by decide +kernel
theorem dL_law_191 : decode cL_law 191 = .ok (.iadd, 1) := by decide +kernel
theorem dL_law_192 : decode cL_law 192 = .ok (.iaload, 1) := by decide +kernel
theorem dL_law_193 : decode cL_law 193 = .ok (.aload_n 3, 1) := by decide +kernel
theorem dL_law_194 : decode cL_law 194 = .ok (.invokestatic 85, 3) := by decide +kernel
theorem dL_law_197 : decode cL_law 197 = .ok (.istore 5, 2) := by decide +kernel
theorem dL_law_199 : decode cL_law 199 = .ok (.aload_n 2, 1) := by decide +kernel
theorem dL_law_200 : decode cL_law 200 = .ok (.aload_n 0, 1) := by decide +kernel
theorem dL_law_201 : decode cL_law 201 = .ok (.iload 4, 2) := by decide +kernel
theorem dL_law_203 : decode cL_law 203 = .ok (.iconst 1, 1) := by decide +kernel
theorem dL_law_204 : decode cL_law 204 = .ok (.iadd, 1) := by decide +kernel
theorem dL_law_205 : decode cL_law 205 = .ok (.iaload, 1) := by decide +kernel
theorem dL_law_206 : decode cL_law 206 = .ok (.aload_n 0, 1) := by decide +kernel
theorem dL_law_207 : decode cL_law 207 = .ok (.iload 4, 2) := by decide +kernel
theorem dL_law_209 : decode cL_law 209 = .ok (.iconst 2, 1) := by decide +kernel
theorem dL_law_210 : decode cL_law 210 = .ok (.iadd, 1) := by decide +kernel
theorem dL_law_211 : decode cL_law 211 = .ok (.iaload, 1) := by decide +kernel
theorem dL_law_212 : decode cL_law 212 = .ok (.invokevirtual 88, 3) := by decide +kernel
theorem dL_law_215 : decode cL_law 215 = .ok (.istore 6, 2) := by decide +kernel
theorem dL_law_217 : decode cL_law 217 = .ok (.aload_n 2, 1) := by decide +kernel
theorem dL_law_218 : decode cL_law 218 = .ok (.invokevirtual 82, 3) := by decide +kernel
theorem dL_law_221 : decode cL_law 221 = .ok (.iload 5, 2) := by decide +kernel
theorem dL_law_223 : decode cL_law 223 = .ok (.if_icmp .eq 5, 3) := by decide +kernel
theorem dL_law_226 : decode cL_law 226 = .ok (.iconst 0, 1) := by decide +kernel
theorem dL_law_227 : decode cL_law 227 = .ok (.ireturn, 1) := by decide +kernel
theorem dL_law_228 : decode cL_law 228 = .ok (.iload 5, 2) := by decide +kernel
theorem dL_law_230 : decode cL_law 230 = .ok (.ifCond .ne 15, 3) := by decide +kernel
theorem dL_law_233 : decode cL_law 233 = .ok (.aload_n 3, 1) := by decide +kernel
theorem dL_law_234 : decode cL_law 234 = .ok (.iconst 0, 1) := by decide +kernel
theorem dL_law_235 : decode cL_law 235 = .ok (.laload, 1) := by decide +kernel
theorem dL_law_236 : decode cL_law 236 = .ok (.iload 6, 2) := by decide +kernel
theorem dL_law_238 : decode cL_law 238 = .ok (.i2l, 1) := by decide +kernel
theorem dL_law_239 : decode cL_law 239 = .ok (.lcmp, 1) := by decide +kernel
theorem dL_law_240 : decode cL_law 240 = .ok (.ifCond .eq 5, 3) := by decide +kernel
theorem dL_law_243 : decode cL_law 243 = .ok (.iconst 0, 1) := by decide +kernel
theorem dL_law_244 : decode cL_law 244 = .ok (.ireturn, 1) := by decide +kernel
theorem dL_law_245 : decode cL_law 245 = .ok (.goto 1122, 3) := by decide +kernel
theorem dL_law_248 : decode cL_law 248 = .ok (.aload_n 1, 1) := by decide +kernel
theorem dL_law_249 : decode cL_law 249 = .ok (.aload_n 0, 1) := by decide +kernel
theorem dL_law_250 : decode cL_law 250 = .ok (.iload 4, 2) := by decide +kernel
theorem dL_law_252 : decode cL_law 252 = .ok (.iconst 1, 1) := by decide +kernel
theorem dL_law_253 : decode cL_law 253 = .ok (.iadd, 1) := by decide +kernel
theorem dL_law_254 : decode cL_law 254 = .ok (.iaload, 1) := by decide +kernel
theorem dL_law_255 : decode cL_law 255 = .ok (.aload_n 0, 1) := by decide +kernel
theorem dL_law_256 : decode cL_law 256 = .ok (.iload 4, 2) := by decide +kernel
theorem dL_law_258 : decode cL_law 258 = .ok (.iconst 2, 1) := by decide +kernel
theorem dL_law_259 : decode cL_law 259 = .ok (.iadd, 1) := by decide +kernel
theorem dL_law_260 : decode cL_law 260 = .ok (.iaload, 1) := by decide +kernel
theorem dL_law_261 : decode cL_law 261 = .ok (.aload_n 3, 1) := by decide +kernel
theorem dL_law_262 : decode cL_law 262 = .ok (.invokestatic 89, 3) := by decide +kernel
theorem dL_law_265 : decode cL_law 265 = .ok (.istore 5, 2) := by decide +kernel
theorem dL_law_267 : decode cL_law 267 = .ok (.aload_n 2, 1) := by decide +kernel
theorem dL_law_268 : decode cL_law 268 = .ok (.aload_n 0, 1) := by decide +kernel
theorem dL_law_269 : decode cL_law 269 = .ok (.iload 4, 2) := by decide +kernel
theorem dL_law_271 : decode cL_law 271 = .ok (.iconst 1, 1) := by decide +kernel
theorem dL_law_272 : decode cL_law 272 = .ok (.iadd, 1) := by decide +kernel
theorem dL_law_273 : decode cL_law 273 = .ok (.iaload, 1) := by decide +kernel
theorem dL_law_274 : decode cL_law 274 = .ok (.aload_n 0, 1) := by decide +kernel
theorem dL_law_275 : decode cL_law 275 = .ok (.iload 4, 2) := by decide +kernel
theorem dL_law_277 : decode cL_law 277 = .ok (.iconst 2, 1) := by decide +kernel
theorem dL_law_278 : decode cL_law 278 = .ok (.iadd, 1) := by decide +kernel
theorem dL_law_279 : decode cL_law 279 = .ok (.iaload, 1) := by decide +kernel
theorem dL_law_280 : decode cL_law 280 = .ok (.invokevirtual 91, 3) := by decide +kernel
theorem dL_law_283 : decode cL_law 283 = .ok (.istore 6, 2) := by decide +kernel
theorem dL_law_285 : decode cL_law 285 = .ok (.aload_n 2, 1) := by decide +kernel
theorem dL_law_286 : decode cL_law 286 = .ok (.invokevirtual 82, 3) := by decide +kernel
theorem dL_law_289 : decode cL_law 289 = .ok (.iload 5, 2) := by decide +kernel
theorem dL_law_291 : decode cL_law 291 = .ok (.if_icmp .eq 5, 3) := by decide +kernel
theorem dL_law_294 : decode cL_law 294 = .ok (.iconst 0, 1) := by decide +kernel
theorem dL_law_295 : decode cL_law 295 = .ok (.ireturn, 1) := by decide +kernel
theorem dL_law_296 : decode cL_law 296 = .ok (.iload 5, 2) := by decide +kernel
theorem dL_law_298 : decode cL_law 298 = .ok (.ifCond .ne 15, 3) := by decide +kernel
theorem dL_law_301 : decode cL_law 301 = .ok (.aload_n 3, 1) := by decide +kernel
theorem dL_law_302 : decode cL_law 302 = .ok (.iconst 0, 1) := by decide +kernel
theorem dL_law_303 : decode cL_law 303 = .ok (.laload, 1) := by decide +kernel
theorem dL_law_304 : decode cL_law 304 = .ok (.iload 6, 2) := by decide +kernel
theorem dL_law_306 : decode cL_law 306 = .ok (.i2l, 1) := by decide +kernel
theorem dL_law_307 : decode cL_law 307 = .ok (.lcmp, 1) := by decide +kernel
theorem dL_law_308 : decode cL_law 308 = .ok (.ifCond .eq 5, 3) := by decide +kernel
theorem dL_law_311 : decode cL_law 311 = .ok (.iconst 0, 1) := by decide +kernel
theorem dL_law_312 : decode cL_law 312 = .ok (.ireturn, 1) := by decide +kernel
theorem dL_law_313 : decode cL_law 313 = .ok (.goto 1054, 3) := by decide +kernel
theorem dL_law_316 : decode cL_law 316 = .ok (.aload_n 1, 1) := by decide +kernel
theorem dL_law_317 : decode cL_law 317 = .ok (.aload_n 0, 1) := by decide +kernel
theorem dL_law_318 : decode cL_law 318 = .ok (.iload 4, 2) := by decide +kernel
theorem dL_law_320 : decode cL_law 320 = .ok (.iconst 1, 1) := by decide +kernel
theorem dL_law_321 : decode cL_law 321 = .ok (.iadd, 1) := by decide +kernel
theorem dL_law_322 : decode cL_law 322 = .ok (.iaload, 1) := by decide +kernel
theorem dL_law_323 : decode cL_law 323 = .ok (.aload_n 0, 1) := by decide +kernel
theorem dL_law_324 : decode cL_law 324 = .ok (.iload 4, 2) := by decide +kernel
theorem dL_law_326 : decode cL_law 326 = .ok (.iconst 2, 1) := by decide +kernel
theorem dL_law_327 : decode cL_law 327 = .ok (.iadd, 1) := by decide +kernel
theorem dL_law_328 : decode cL_law 328 = .ok (.iaload, 1) := by decide +kernel
theorem dL_law_329 : decode cL_law 329 = .ok (.aload_n 3, 1) := by decide +kernel
theorem dL_law_330 : decode cL_law 330 = .ok (.invokestatic 92, 3) := by decide +kernel
theorem dL_law_333 : decode cL_law 333 = .ok (.istore 5, 2) := by decide +kernel
theorem dL_law_335 : decode cL_law 335 = .ok (.aload_n 2, 1) := by decide +kernel
theorem dL_law_336 : decode cL_law 336 = .ok (.aload_n 0, 1) := by decide +kernel
theorem dL_law_337 : decode cL_law 337 = .ok (.iload 4, 2) := by decide +kernel
theorem dL_law_339 : decode cL_law 339 = .ok (.iconst 1, 1) := by decide +kernel
theorem dL_law_340 : decode cL_law 340 = .ok (.iadd, 1) := by decide +kernel
theorem dL_law_341 : decode cL_law 341 = .ok (.iaload, 1) := by decide +kernel
theorem dL_law_342 : decode cL_law 342 = .ok (.aload_n 0, 1) := by decide +kernel
theorem dL_law_343 : decode cL_law 343 = .ok (.iload 4, 2) := by decide +kernel
theorem dL_law_345 : decode cL_law 345 = .ok (.iconst 2, 1) := by decide +kernel
theorem dL_law_346 : decode cL_law 346 = .ok (.iadd, 1) := by decide +kernel
theorem dL_law_347 : decode cL_law 347 = .ok (.iaload, 1) := by decide +kernel
theorem dL_law_348 : decode cL_law 348 = .ok (.invokevirtual 94, 3) := by decide +kernel
theorem dL_law_351 : decode cL_law 351 = .ok (.istore 6, 2) := by decide +kernel
theorem dL_law_353 : decode cL_law 353 = .ok (.aload_n 2, 1) := by decide +kernel
theorem dL_law_354 : decode cL_law 354 = .ok (.invokevirtual 82, 3) := by decide +kernel
theorem dL_law_357 : decode cL_law 357 = .ok (.iload 5, 2) := by decide +kernel
theorem dL_law_359 : decode cL_law 359 = .ok (.if_icmp .eq 5, 3) := by decide +kernel
theorem dL_law_362 : decode cL_law 362 = .ok (.iconst 0, 1) := by decide +kernel
theorem dL_law_363 : decode cL_law 363 = .ok (.ireturn, 1) := by decide +kernel
theorem dL_law_364 : decode cL_law 364 = .ok (.iload 5, 2) := by decide +kernel
theorem dL_law_366 : decode cL_law 366 = .ok (.ifCond .ne 15, 3) := by decide +kernel
theorem dL_law_369 : decode cL_law 369 = .ok (.aload_n 3, 1) := by decide +kernel
theorem dL_law_370 : decode cL_law 370 = .ok (.iconst 0, 1) := by decide +kernel
theorem dL_law_371 : decode cL_law 371 = .ok (.laload, 1) := by decide +kernel
theorem dL_law_372 : decode cL_law 372 = .ok (.iload 6, 2) := by decide +kernel
theorem dL_law_374 : decode cL_law 374 = .ok (.i2l, 1) := by decide +kernel
theorem dL_law_375 : decode cL_law 375 = .ok (.lcmp, 1) := by decide +kernel
theorem dL_law_376 : decode cL_law 376 = .ok (.ifCond .eq 5, 3) := by decide +kernel
theorem dL_law_379 : decode cL_law 379 = .ok (.iconst 0, 1) := by decide +kernel
theorem dL_law_380 : decode cL_law 380 = .ok (.ireturn, 1) := by decide +kernel
theorem dL_law_381 : decode cL_law 381 = .ok (.goto 986, 3) := by decide +kernel
theorem dL_law_384 : decode cL_law 384 = .ok (.aload_n 1, 1) := by decide +kernel
theorem dL_law_385 : decode cL_law 385 = .ok (.aload_n 0, 1) := by decide +kernel
theorem dL_law_386 : decode cL_law 386 = .ok (.iload 4, 2) := by decide +kernel
theorem dL_law_388 : decode cL_law 388 = .ok (.iconst 1, 1) := by decide +kernel
theorem dL_law_389 : decode cL_law 389 = .ok (.iadd, 1) := by decide +kernel
theorem dL_law_390 : decode cL_law 390 = .ok (.iaload, 1) := by decide +kernel
theorem dL_law_391 : decode cL_law 391 = .ok (.aload_n 0, 1) := by decide +kernel
theorem dL_law_392 : decode cL_law 392 = .ok (.iload 4, 2) := by decide +kernel
theorem dL_law_394 : decode cL_law 394 = .ok (.iconst 2, 1) := by decide +kernel
theorem dL_law_395 : decode cL_law 395 = .ok (.iadd, 1) := by decide +kernel
theorem dL_law_396 : decode cL_law 396 = .ok (.iaload, 1) := by decide +kernel
theorem dL_law_397 : decode cL_law 397 = .ok (.aload_n 3, 1) := by decide +kernel
theorem dL_law_398 : decode cL_law 398 = .ok (.invokestatic 95, 3) := by decide +kernel
theorem dL_law_401 : decode cL_law 401 = .ok (.istore 5, 2) := by decide +kernel
theorem dL_law_403 : decode cL_law 403 = .ok (.aload_n 2, 1) := by decide +kernel
theorem dL_law_404 : decode cL_law 404 = .ok (.aload_n 0, 1) := by decide +kernel
theorem dL_law_405 : decode cL_law 405 = .ok (.iload 4, 2) := by decide +kernel
theorem dL_law_407 : decode cL_law 407 = .ok (.iconst 1, 1) := by decide +kernel
theorem dL_law_408 : decode cL_law 408 = .ok (.iadd, 1) := by decide +kernel
theorem dL_law_409 : decode cL_law 409 = .ok (.iaload, 1) := by decide +kernel
theorem dL_law_410 : decode cL_law 410 = .ok (.aload_n 0, 1) := by decide +kernel
theorem dL_law_411 : decode cL_law 411 = .ok (.iload 4, 2) := by decide +kernel
theorem dL_law_413 : decode cL_law 413 = .ok (.iconst 2, 1) := by decide +kernel
theorem dL_law_414 : decode cL_law 414 = .ok (.iadd, 1) := by decide +kernel
theorem dL_law_415 : decode cL_law 415 = .ok (.iaload, 1) := by decide +kernel
theorem dL_law_416 : decode cL_law 416 = .ok (.invokevirtual 97, 3) := by decide +kernel
theorem dL_law_419 : decode cL_law 419 = .ok (.istore 6, 2) := by decide +kernel
theorem dL_law_421 : decode cL_law 421 = .ok (.aload_n 2, 1) := by decide +kernel
theorem dL_law_422 : decode cL_law 422 = .ok (.invokevirtual 82, 3) := by decide +kernel
theorem dL_law_425 : decode cL_law 425 = .ok (.iload 5, 2) := by decide +kernel
theorem dL_law_427 : decode cL_law 427 = .ok (.if_icmp .eq 5, 3) := by decide +kernel
theorem dL_law_430 : decode cL_law 430 = .ok (.iconst 0, 1) := by decide +kernel
theorem dL_law_431 : decode cL_law 431 = .ok (.ireturn, 1) := by decide +kernel
theorem dL_law_432 : decode cL_law 432 = .ok (.iload 5, 2) := by decide +kernel
theorem dL_law_434 : decode cL_law 434 = .ok (.ifCond .ne 15, 3) := by decide +kernel
theorem dL_law_437 : decode cL_law 437 = .ok (.aload_n 3, 1) := by decide +kernel
theorem dL_law_438 : decode cL_law 438 = .ok (.iconst 0, 1) := by decide +kernel
theorem dL_law_439 : decode cL_law 439 = .ok (.laload, 1) := by decide +kernel
theorem dL_law_440 : decode cL_law 440 = .ok (.iload 6, 2) := by decide +kernel
theorem dL_law_442 : decode cL_law 442 = .ok (.i2l, 1) := by decide +kernel
theorem dL_law_443 : decode cL_law 443 = .ok (.lcmp, 1) := by decide +kernel
theorem dL_law_444 : decode cL_law 444 = .ok (.ifCond .eq 5, 3) := by decide +kernel
theorem dL_law_447 : decode cL_law 447 = .ok (.iconst 0, 1) := by decide +kernel
theorem dL_law_448 : decode cL_law 448 = .ok (.ireturn, 1) := by decide +kernel
theorem dL_law_449 : decode cL_law 449 = .ok (.goto 918, 3) := by decide +kernel
theorem dL_law_452 : decode cL_law 452 = .ok (.aload_n 1, 1) := by decide +kernel
theorem dL_law_453 : decode cL_law 453 = .ok (.invokevirtual 98, 3) := by decide +kernel
theorem dL_law_456 : decode cL_law 456 = .ok (.aload_n 2, 1) := by decide +kernel
theorem dL_law_457 : decode cL_law 457 = .ok (.invokevirtual 101, 3) := by decide +kernel
theorem dL_law_460 : decode cL_law 460 = .ok (.if_icmp .eq 907, 3) := by decide +kernel
theorem dL_law_463 : decode cL_law 463 = .ok (.iconst 0, 1) := by decide +kernel
theorem dL_law_464 : decode cL_law 464 = .ok (.ireturn, 1) := by decide +kernel
theorem dL_law_465 : decode cL_law 465 = .ok (.aload_n 1, 1) := by decide +kernel
theorem dL_law_466 : decode cL_law 466 = .ok (.aload_n 0, 1) := by decide +kernel
theorem dL_law_467 : decode cL_law 467 = .ok (.iload 4, 2) := by decide +kernel
theorem dL_law_469 : decode cL_law 469 = .ok (.iconst 1, 1) := by decide +kernel
theorem dL_law_470 : decode cL_law 470 = .ok (.iadd, 1) := by decide +kernel
theorem dL_law_471 : decode cL_law 471 = .ok (.iaload, 1) := by decide +kernel
theorem dL_law_472 : decode cL_law 472 = .ok (.aload_n 3, 1) := by decide +kernel
theorem dL_law_473 : decode cL_law 473 = .ok (.invokestatic 102, 3) := by decide +kernel
theorem dL_law_476 : decode cL_law 476 = .ok (.istore 5, 2) := by decide +kernel
theorem dL_law_478 : decode cL_law 478 = .ok (.aload_n 2, 1) := by decide +kernel
theorem dL_law_479 : decode cL_law 479 = .ok (.aload_n 0, 1) := by decide +kernel
theorem dL_law_480 : decode cL_law 480 = .ok (.iload 4, 2) := by decide +kernel
theorem dL_law_482 : decode cL_law 482 = .ok (.iconst 1, 1) := by decide +kernel
theorem dL_law_483 : decode cL_law 483 = .ok (.iadd, 1) := by decide +kernel
theorem dL_law_484 : decode cL_law 484 = .ok (.iaload, 1) := by decide +kernel
theorem dL_law_485 : decode cL_law 485 = .ok (.invokevirtual 105, 3) := by decide +kernel
theorem dL_law_488 : decode cL_law 488 = .ok (.istore 6, 2) := by decide +kernel
theorem dL_law_490 : decode cL_law 490 = .ok (.aload_n 2, 1) := by decide +kernel
theorem dL_law_491 : decode cL_law 491 = .ok (.invokevirtual 82, 3) := by decide +kernel
theorem dL_law_494 : decode cL_law 494 = .ok (.iload 5, 2) := by decide +kernel
theorem dL_law_496 : decode cL_law 496 = .ok (.if_icmp .eq 5, 3) := by decide +kernel
theorem dL_law_499 : decode cL_law 499 = .ok (.iconst 0, 1) := by decide +kernel
theorem dL_law_500 : decode cL_law 500 = .ok (.ireturn, 1) := by decide +kernel
theorem dL_law_501 : decode cL_law 501 = .ok (.iload 5, 2) := by decide +kernel
theorem dL_law_503 : decode cL_law 503 = .ok (.ifCond .ne 15, 3) := by decide +kernel
theorem dL_law_506 : decode cL_law 506 = .ok (.aload_n 3, 1) := by decide +kernel
theorem dL_law_507 : decode cL_law 507 = .ok (.iconst 0, 1) := by decide +kernel
theorem dL_law_508 : decode cL_law 508 = .ok (.laload, 1) := by decide +kernel
theorem dL_law_509 : decode cL_law 509 = .ok (.iload 6, 2) := by decide +kernel
theorem dL_law_511 : decode cL_law 511 = .ok (.i2l, 1) := by decide +kernel
theorem dL_law_512 : decode cL_law 512 = .ok (.lcmp, 1) := by decide +kernel
theorem dL_law_513 : decode cL_law 513 = .ok (.ifCond .eq 5, 3) := by decide +kernel
theorem dL_law_516 : decode cL_law 516 = .ok (.iconst 0, 1) := by decide +kernel
theorem dL_law_517 : decode cL_law 517 = .ok (.ireturn, 1) := by decide +kernel
theorem dL_law_518 : decode cL_law 518 = .ok (.goto 849, 3) := by decide +kernel
theorem dL_law_521 : decode cL_law 521 = .ok (.aload_n 1, 1) := by decide +kernel
theorem dL_law_522 : decode cL_law 522 = .ok (.aload_n 0, 1) := by decide +kernel
theorem dL_law_523 : decode cL_law 523 = .ok (.iload 4, 2) := by decide +kernel
theorem dL_law_525 : decode cL_law 525 = .ok (.iconst 1, 1) := by decide +kernel
theorem dL_law_526 : decode cL_law 526 = .ok (.iadd, 1) := by decide +kernel
theorem dL_law_527 : decode cL_law 527 = .ok (.iaload, 1) := by decide +kernel
theorem dL_law_528 : decode cL_law 528 = .ok (.aload_n 3, 1) := by decide +kernel
theorem dL_law_529 : decode cL_law 529 = .ok (.invokestatic 106, 3) := by decide +kernel
theorem dL_law_532 : decode cL_law 532 = .ok (.istore 5, 2) := by decide +kernel
theorem dL_law_534 : decode cL_law 534 = .ok (.aload_n 2, 1) := by decide +kernel
theorem dL_law_535 : decode cL_law 535 = .ok (.aload_n 0, 1) := by decide +kernel
theorem dL_law_536 : decode cL_law 536 = .ok (.iload 4, 2) := by decide +kernel
theorem dL_law_538 : decode cL_law 538 = .ok (.iconst 1, 1) := by decide +kernel
theorem dL_law_539 : decode cL_law 539 = .ok (.iadd, 1) := by decide +kernel
theorem dL_law_540 : decode cL_law 540 = .ok (.iaload, 1) := by decide +kernel
theorem dL_law_541 : decode cL_law 541 = .ok (.invokevirtual 108, 3) := by decide +kernel
theorem dL_law_544 : decode cL_law 544 = .ok (.istore 6, 2) := by decide +kernel
theorem dL_law_546 : decode cL_law 546 = .ok (.aload_n 2, 1) := by decide +kernel
theorem dL_law_547 : decode cL_law 547 = .ok (.invokevirtual 82, 3) := by decide +kernel
theorem dL_law_550 : decode cL_law 550 = .ok (.iload 5, 2) := by decide +kernel
theorem dL_law_552 : decode cL_law 552 = .ok (.if_icmp .eq 5, 3) := by decide +kernel
theorem dL_law_555 : decode cL_law 555 = .ok (.iconst 0, 1) := by decide +kernel
theorem dL_law_556 : decode cL_law 556 = .ok (.ireturn, 1) := by decide +kernel
theorem dL_law_557 : decode cL_law 557 = .ok (.iload 5, 2) := by decide +kernel
theorem dL_law_559 : decode cL_law 559 = .ok (.ifCond .ne 15, 3) := by decide +kernel
theorem dL_law_562 : decode cL_law 562 = .ok (.aload_n 3, 1) := by decide +kernel
theorem dL_law_563 : decode cL_law 563 = .ok (.iconst 0, 1) := by decide +kernel
theorem dL_law_564 : decode cL_law 564 = .ok (.laload, 1) := by decide +kernel
theorem dL_law_565 : decode cL_law 565 = .ok (.iload 6, 2) := by decide +kernel
theorem dL_law_567 : decode cL_law 567 = .ok (.i2l, 1) := by decide +kernel
theorem dL_law_568 : decode cL_law 568 = .ok (.lcmp, 1) := by decide +kernel
theorem dL_law_569 : decode cL_law 569 = .ok (.ifCond .eq 5, 3) := by decide +kernel
theorem dL_law_572 : decode cL_law 572 = .ok (.iconst 0, 1) := by decide +kernel
theorem dL_law_573 : decode cL_law 573 = .ok (.ireturn, 1) := by decide +kernel
theorem dL_law_574 : decode cL_law 574 = .ok (.goto 793, 3) := by decide +kernel
theorem dL_law_577 : decode cL_law 577 = .ok (.aload_n 1, 1) := by decide +kernel
theorem dL_law_578 : decode cL_law 578 = .ok (.aload_n 0, 1) := by decide +kernel
theorem dL_law_579 : decode cL_law 579 = .ok (.iload 4, 2) := by decide +kernel
theorem dL_law_581 : decode cL_law 581 = .ok (.iconst 1, 1) := by decide +kernel
theorem dL_law_582 : decode cL_law 582 = .ok (.iadd, 1) := by decide +kernel
theorem dL_law_583 : decode cL_law 583 = .ok (.iaload, 1) := by decide +kernel
theorem dL_law_584 : decode cL_law 584 = .ok (.aload_n 0, 1) := by decide +kernel
theorem dL_law_585 : decode cL_law 585 = .ok (.iload 4, 2) := by decide +kernel
theorem dL_law_587 : decode cL_law 587 = .ok (.iconst 2, 1) := by decide +kernel
theorem dL_law_588 : decode cL_law 588 = .ok (.iadd, 1) := by decide +kernel
theorem dL_law_589 : decode cL_law 589 = .ok (.iaload, 1) := by decide +kernel
theorem dL_law_590 : decode cL_law 590 = .ok (.ifCond .eq 7, 3) := by decide +kernel
theorem dL_law_593 : decode cL_law 593 = .ok (.iconst 1, 1) := by decide +kernel
theorem dL_law_594 : decode cL_law 594 = .ok (.goto 4, 3) := by decide +kernel
theorem dL_law_597 : decode cL_law 597 = .ok (.iconst 0, 1) := by decide +kernel
theorem dL_law_598 : decode cL_law 598 = .ok (.aload_n 3, 1) := by decide +kernel
theorem dL_law_599 : decode cL_law 599 = .ok (.invokestatic 109, 3) := by decide +kernel
theorem dL_law_602 : decode cL_law 602 = .ok (.istore 5, 2) := by decide +kernel
theorem dL_law_604 : decode cL_law 604 = .ok (.aload_n 2, 1) := by decide +kernel
theorem dL_law_605 : decode cL_law 605 = .ok (.aload_n 0, 1) := by decide +kernel
theorem dL_law_606 : decode cL_law 606 = .ok (.iload 4, 2) := by decide +kernel
theorem dL_law_608 : decode cL_law 608 = .ok (.iconst 1, 1) := by decide +kernel
theorem dL_law_609 : decode cL_law 609 = .ok (.iadd, 1) := by decide +kernel
theorem dL_law_610 : decode cL_law 610 = .ok (.iaload, 1) := by decide +kernel
theorem dL_law_611 : decode cL_law 611 = .ok (.aload_n 0, 1) := by decide +kernel
theorem dL_law_612 : decode cL_law 612 = .ok (.iload 4, 2) := by decide +kernel
theorem dL_law_614 : decode cL_law 614 = .ok (.iconst 2, 1) := by decide +kernel
theorem dL_law_615 : decode cL_law 615 = .ok (.iadd, 1) := by decide +kernel
theorem dL_law_616 : decode cL_law 616 = .ok (.iaload, 1) := by decide +kernel
theorem dL_law_617 : decode cL_law 617 = .ok (.ifCond .eq 7, 3) := by decide +kernel
theorem dL_law_620 : decode cL_law 620 = .ok (.iconst 1, 1) := by decide +kernel
theorem dL_law_621 : decode cL_law 621 = .ok (.goto 4, 3) := by decide +kernel
theorem dL_law_624 : decode cL_law 624 = .ok (.iconst 0, 1) := by decide +kernel
theorem dL_law_625 : decode cL_law 625 = .ok (.invokevirtual 112, 3) := by decide +kernel
theorem dL_law_628 : decode cL_law 628 = .ok (.istore 6, 2) := by decide +kernel
theorem dL_law_630 : decode cL_law 630 = .ok (.aload_n 2, 1) := by decide +kernel
theorem dL_law_631 : decode cL_law 631 = .ok (.invokevirtual 82, 3) := by decide +kernel
theorem dL_law_634 : decode cL_law 634 = .ok (.iload 5, 2) := by decide +kernel
theorem dL_law_636 : decode cL_law 636 = .ok (.if_icmp .eq 5, 3) := by decide +kernel
theorem dL_law_639 : decode cL_law 639 = .ok (.iconst 0, 1) := by decide +kernel
theorem dL_law_640 : decode cL_law 640 = .ok (.ireturn, 1) := by decide +kernel
theorem dL_law_641 : decode cL_law 641 = .ok (.iload 5, 2) := by decide +kernel
theorem dL_law_643 : decode cL_law 643 = .ok (.ifCond .ne 22, 3) := by decide +kernel
theorem dL_law_646 : decode cL_law 646 = .ok (.aload_n 3, 1) := by decide +kernel
theorem dL_law_647 : decode cL_law 647 = .ok (.iconst 0, 1) := by decide +kernel
theorem dL_law_648 : decode cL_law 648 = .ok (.laload, 1) := by decide +kernel
theorem dL_law_649 : decode cL_law 649 = .ok (.iload 6, 2) := by decide +kernel
theorem dL_law_651 : decode cL_law 651 = .ok (.ifCond .eq 7, 3) := by decide +kernel
theorem dL_law_654 : decode cL_law 654 = .ok (.lconst 1, 1) := by decide +kernel
theorem dL_law_655 : decode cL_law 655 = .ok (.goto 4, 3) := by decide +kernel
theorem dL_law_658 : decode cL_law 658 = .ok (.lconst 0, 1) := by decide +kernel
theorem dL_law_659 : decode cL_law 659 = .ok (.lcmp, 1) := by decide +kernel
theorem dL_law_660 : decode cL_law 660 = .ok (.ifCond .eq 5, 3) := by decide +kernel
theorem dL_law_663 : decode cL_law 663 = .ok (.iconst 0, 1) := by decide +kernel
theorem dL_law_664 : decode cL_law 664 = .ok (.ireturn, 1) := by decide +kernel
theorem dL_law_665 : decode cL_law 665 = .ok (.goto 702, 3) := by decide +kernel
theorem dL_law_668 : decode cL_law 668 = .ok (.aload_n 1, 1) := by decide +kernel
theorem dL_law_669 : decode cL_law 669 = .ok (.aload_n 0, 1) := by decide +kernel
theorem dL_law_670 : decode cL_law 670 = .ok (.iload 4, 2) := by decide +kernel
theorem dL_law_672 : decode cL_law 672 = .ok (.iconst 1, 1) := by decide +kernel
theorem dL_law_673 : decode cL_law 673 = .ok (.iadd, 1) := by decide +kernel
theorem dL_law_674 : decode cL_law 674 = .ok (.iaload, 1) := by decide +kernel
theorem dL_law_675 : decode cL_law 675 = .ok (.aload_n 0, 1) := by decide +kernel
theorem dL_law_676 : decode cL_law 676 = .ok (.iload 4, 2) := by decide +kernel
theorem dL_law_678 : decode cL_law 678 = .ok (.iconst 2, 1) := by decide +kernel
theorem dL_law_679 : decode cL_law 679 = .ok (.iadd, 1) := by decide +kernel
theorem dL_law_680 : decode cL_law 680 = .ok (.iaload, 1) := by decide +kernel
theorem dL_law_681 : decode cL_law 681 = .ok (.i2l, 1) := by decide +kernel
theorem dL_law_682 : decode cL_law 682 = .ok (.bipush 32, 2) := by decide +kernel
theorem dL_law_684 : decode cL_law 684 = .ok (.lshl, 1) := by decide +kernel
theorem dL_law_685 : decode cL_law 685 = .ok (.aload_n 0, 1) := by decide +kernel
theorem dL_law_686 : decode cL_law 686 = .ok (.iload 4, 2) := by decide +kernel
theorem dL_law_688 : decode cL_law 688 = .ok (.iconst 3, 1) := by decide +kernel
theorem dL_law_689 : decode cL_law 689 = .ok (.iadd, 1) := by decide +kernel
theorem dL_law_690 : decode cL_law 690 = .ok (.iaload, 1) := by decide +kernel
theorem dL_law_691 : decode cL_law 691 = .ok (.i2l, 1) := by decide +kernel
theorem dL_law_692 : decode cL_law 692 = .ok (.ldc2_w 113, 3) := by decide +kernel
theorem dL_law_695 : decode cL_law 695 = .ok (.land, 1) := by decide +kernel
theorem dL_law_696 : decode cL_law 696 = .ok (.lor, 1) := by decide +kernel
theorem dL_law_697 : decode cL_law 697 = .ok (.aload_n 0, 1) := by decide +kernel
theorem dL_law_698 : decode cL_law 698 = .ok (.iload 4, 2) := by decide +kernel
theorem dL_law_700 : decode cL_law 700 = .ok (.iconst 4, 1) := by decide +kernel
theorem dL_law_701 : decode cL_law 701 = .ok (.iadd, 1) := by decide +kernel
theorem dL_law_702 : decode cL_law 702 = .ok (.iaload, 1) := by decide +kernel
theorem dL_law_703 : decode cL_law 703 = .ok (.i2l, 1) := by decide +kernel
theorem dL_law_704 : decode cL_law 704 = .ok (.bipush 32, 2) := by decide +kernel
theorem dL_law_706 : decode cL_law 706 = .ok (.lshl, 1) := by decide +kernel
theorem dL_law_707 : decode cL_law 707 = .ok (.aload_n 0, 1) := by decide +kernel
theorem dL_law_708 : decode cL_law 708 = .ok (.iload 4, 2) := by decide +kernel
theorem dL_law_710 : decode cL_law 710 = .ok (.iconst 5, 1) := by decide +kernel
theorem dL_law_711 : decode cL_law 711 = .ok (.iadd, 1) := by decide +kernel
theorem dL_law_712 : decode cL_law 712 = .ok (.iaload, 1) := by decide +kernel
theorem dL_law_713 : decode cL_law 713 = .ok (.i2l, 1) := by decide +kernel
theorem dL_law_714 : decode cL_law 714 = .ok (.ldc2_w 113, 3) := by decide +kernel
theorem dL_law_717 : decode cL_law 717 = .ok (.land, 1) := by decide +kernel
theorem dL_law_718 : decode cL_law 718 = .ok (.lor, 1) := by decide +kernel
theorem dL_law_719 : decode cL_law 719 = .ok (.aload_n 3, 1) := by decide +kernel
theorem dL_law_720 : decode cL_law 720 = .ok (.invokestatic 115, 3) := by decide +kernel
theorem dL_law_723 : decode cL_law 723 = .ok (.istore 5, 2) := by decide +kernel
theorem dL_law_725 : decode cL_law 725 = .ok (.aload_n 2, 1) := by decide +kernel
theorem dL_law_726 : decode cL_law 726 = .ok (.aload_n 0, 1) := by decide +kernel
theorem dL_law_727 : decode cL_law 727 = .ok (.iload 4, 2) := by decide +kernel
theorem dL_law_729 : decode cL_law 729 = .ok (.iconst 1, 1) := by decide +kernel
theorem dL_law_730 : decode cL_law 730 = .ok (.iadd, 1) := by decide +kernel
theorem dL_law_731 : decode cL_law 731 = .ok (.iaload, 1) := by decide +kernel
theorem dL_law_732 : decode cL_law 732 = .ok (.aload_n 0, 1) := by decide +kernel
theorem dL_law_733 : decode cL_law 733 = .ok (.iload 4, 2) := by decide +kernel
theorem dL_law_735 : decode cL_law 735 = .ok (.iconst 2, 1) := by decide +kernel
theorem dL_law_736 : decode cL_law 736 = .ok (.iadd, 1) := by decide +kernel
theorem dL_law_737 : decode cL_law 737 = .ok (.iaload, 1) := by decide +kernel
theorem dL_law_738 : decode cL_law 738 = .ok (.i2l, 1) := by decide +kernel
theorem dL_law_739 : decode cL_law 739 = .ok (.bipush 32, 2) := by decide +kernel
theorem dL_law_741 : decode cL_law 741 = .ok (.lshl, 1) := by decide +kernel
theorem dL_law_742 : decode cL_law 742 = .ok (.aload_n 0, 1) := by decide +kernel
theorem dL_law_743 : decode cL_law 743 = .ok (.iload 4, 2) := by decide +kernel
theorem dL_law_745 : decode cL_law 745 = .ok (.iconst 3, 1) := by decide +kernel
theorem dL_law_746 : decode cL_law 746 = .ok (.iadd, 1) := by decide +kernel
theorem dL_law_747 : decode cL_law 747 = .ok (.iaload, 1) := by decide +kernel
theorem dL_law_748 : decode cL_law 748 = .ok (.i2l, 1) := by decide +kernel
theorem dL_law_749 : decode cL_law 749 = .ok (.ldc2_w 113, 3) := by decide +kernel
theorem dL_law_752 : decode cL_law 752 = .ok (.land, 1) := by decide +kernel
theorem dL_law_753 : decode cL_law 753 = .ok (.lor, 1) := by decide +kernel
theorem dL_law_754 : decode cL_law 754 = .ok (.aload_n 0, 1) := by decide +kernel
theorem dL_law_755 : decode cL_law 755 = .ok (.iload 4, 2) := by decide +kernel
theorem dL_law_757 : decode cL_law 757 = .ok (.iconst 4, 1) := by decide +kernel
theorem dL_law_758 : decode cL_law 758 = .ok (.iadd, 1) := by decide +kernel
theorem dL_law_759 : decode cL_law 759 = .ok (.iaload, 1) := by decide +kernel
theorem dL_law_760 : decode cL_law 760 = .ok (.i2l, 1) := by decide +kernel
theorem dL_law_761 : decode cL_law 761 = .ok (.bipush 32, 2) := by decide +kernel
theorem dL_law_763 : decode cL_law 763 = .ok (.lshl, 1) := by decide +kernel
theorem dL_law_764 : decode cL_law 764 = .ok (.aload_n 0, 1) := by decide +kernel
theorem dL_law_765 : decode cL_law 765 = .ok (.iload 4, 2) := by decide +kernel
theorem dL_law_767 : decode cL_law 767 = .ok (.iconst 5, 1) := by decide +kernel
theorem dL_law_768 : decode cL_law 768 = .ok (.iadd, 1) := by decide +kernel
theorem dL_law_769 : decode cL_law 769 = .ok (.iaload, 1) := by decide +kernel
theorem dL_law_770 : decode cL_law 770 = .ok (.i2l, 1) := by decide +kernel
theorem dL_law_771 : decode cL_law 771 = .ok (.ldc2_w 113, 3) := by decide +kernel
theorem dL_law_774 : decode cL_law 774 = .ok (.land, 1) := by decide +kernel
theorem dL_law_775 : decode cL_law 775 = .ok (.lor, 1) := by decide +kernel
theorem dL_law_776 : decode cL_law 776 = .ok (.invokevirtual 118, 3) := by decide +kernel
theorem dL_law_779 : decode cL_law 779 = .ok (.istore 6, 2) := by decide +kernel
theorem dL_law_781 : decode cL_law 781 = .ok (.aload_n 2, 1) := by decide +kernel
theorem dL_law_782 : decode cL_law 782 = .ok (.invokevirtual 82, 3) := by decide +kernel
theorem dL_law_785 : decode cL_law 785 = .ok (.iload 5, 2) := by decide +kernel
theorem dL_law_787 : decode cL_law 787 = .ok (.if_icmp .eq 5, 3) := by decide +kernel
theorem dL_law_790 : decode cL_law 790 = .ok (.iconst 0, 1) := by decide +kernel
theorem dL_law_791 : decode cL_law 791 = .ok (.ireturn, 1) := by decide +kernel
theorem dL_law_792 : decode cL_law 792 = .ok (.iload 5, 2) := by decide +kernel
theorem dL_law_794 : decode cL_law 794 = .ok (.ifCond .ne 22, 3) := by decide +kernel
theorem dL_law_797 : decode cL_law 797 = .ok (.aload_n 3, 1) := by decide +kernel
theorem dL_law_798 : decode cL_law 798 = .ok (.iconst 0, 1) := by decide +kernel
theorem dL_law_799 : decode cL_law 799 = .ok (.laload, 1) := by decide +kernel
theorem dL_law_800 : decode cL_law 800 = .ok (.iload 6, 2) := by decide +kernel
theorem dL_law_802 : decode cL_law 802 = .ok (.ifCond .eq 7, 3) := by decide +kernel
theorem dL_law_805 : decode cL_law 805 = .ok (.lconst 1, 1) := by decide +kernel
theorem dL_law_806 : decode cL_law 806 = .ok (.goto 4, 3) := by decide +kernel
theorem dL_law_809 : decode cL_law 809 = .ok (.lconst 0, 1) := by decide +kernel
theorem dL_law_810 : decode cL_law 810 = .ok (.lcmp, 1) := by decide +kernel
theorem dL_law_811 : decode cL_law 811 = .ok (.ifCond .eq 5, 3) := by decide +kernel
theorem dL_law_814 : decode cL_law 814 = .ok (.iconst 0, 1) := by decide +kernel
theorem dL_law_815 : decode cL_law 815 = .ok (.ireturn, 1) := by decide +kernel
theorem dL_law_816 : decode cL_law 816 = .ok (.goto 551, 3) := by decide +kernel
theorem dL_law_819 : decode cL_law 819 = .ok (.aload_n 1, 1) := by decide +kernel
theorem dL_law_820 : decode cL_law 820 = .ok (.aload_n 0, 1) := by decide +kernel
theorem dL_law_821 : decode cL_law 821 = .ok (.iload 4, 2) := by decide +kernel
theorem dL_law_823 : decode cL_law 823 = .ok (.iconst 1, 1) := by decide +kernel
theorem dL_law_824 : decode cL_law 824 = .ok (.iadd, 1) := by decide +kernel
theorem dL_law_825 : decode cL_law 825 = .ok (.iaload, 1) := by decide +kernel
theorem dL_law_826 : decode cL_law 826 = .ok (.i2l, 1) := by decide +kernel
theorem dL_law_827 : decode cL_law 827 = .ok (.bipush 32, 2) := by decide +kernel
theorem dL_law_829 : decode cL_law 829 = .ok (.lshl, 1) := by decide +kernel
theorem dL_law_830 : decode cL_law 830 = .ok (.aload_n 0, 1) := by decide +kernel
theorem dL_law_831 : decode cL_law 831 = .ok (.iload 4, 2) := by decide +kernel
theorem dL_law_833 : decode cL_law 833 = .ok (.iconst 2, 1) := by decide +kernel
theorem dL_law_834 : decode cL_law 834 = .ok (.iadd, 1) := by decide +kernel
theorem dL_law_835 : decode cL_law 835 = .ok (.iaload, 1) := by decide +kernel
theorem dL_law_836 : decode cL_law 836 = .ok (.i2l, 1) := by decide +kernel
theorem dL_law_837 : decode cL_law 837 = .ok (.ldc2_w 113, 3) := by decide +kernel
theorem dL_law_840 : decode cL_law 840 = .ok (.land, 1) := by decide +kernel
theorem dL_law_841 : decode cL_law 841 = .ok (.lor, 1) := by decide +kernel
theorem dL_law_842 : decode cL_law 842 = .ok (.aload_n 0, 1) := by decide +kernel
theorem dL_law_843 : decode cL_law 843 = .ok (.iload 4, 2) := by decide +kernel
theorem dL_law_845 : decode cL_law 845 = .ok (.iconst 3, 1) := by decide +kernel
theorem dL_law_846 : decode cL_law 846 = .ok (.iadd, 1) := by decide +kernel
theorem dL_law_847 : decode cL_law 847 = .ok (.iaload, 1) := by decide +kernel
theorem dL_law_848 : decode cL_law 848 = .ok (.i2l, 1) := by decide +kernel
theorem dL_law_849 : decode cL_law 849 = .ok (.bipush 32, 2) := by decide +kernel
theorem dL_law_851 : decode cL_law 851 = .ok (.lshl, 1) := by decide +kernel
theorem dL_law_852 : decode cL_law 852 = .ok (.aload_n 0, 1) := by decide +kernel
theorem dL_law_853 : decode cL_law 853 = .ok (.iload 4, 2) := by decide +kernel
theorem dL_law_855 : decode cL_law 855 = .ok (.iconst 4, 1) := by decide +kernel
theorem dL_law_856 : decode cL_law 856 = .ok (.iadd, 1) := by decide +kernel
theorem dL_law_857 : decode cL_law 857 = .ok (.iaload, 1) := by decide +kernel
theorem dL_law_858 : decode cL_law 858 = .ok (.i2l, 1) := by decide +kernel
theorem dL_law_859 : decode cL_law 859 = .ok (.ldc2_w 113, 3) := by decide +kernel
theorem dL_law_862 : decode cL_law 862 = .ok (.land, 1) := by decide +kernel
theorem dL_law_863 : decode cL_law 863 = .ok (.lor, 1) := by decide +kernel
theorem dL_law_864 : decode cL_law 864 = .ok (.aload_n 3, 1) := by decide +kernel
theorem dL_law_865 : decode cL_law 865 = .ok (.invokestatic 119, 3) := by decide +kernel
theorem dL_law_868 : decode cL_law 868 = .ok (.istore 5, 2) := by decide +kernel
theorem dL_law_870 : decode cL_law 870 = .ok (.aload_n 2, 1) := by decide +kernel
theorem dL_law_871 : decode cL_law 871 = .ok (.aload_n 0, 1) := by decide +kernel
theorem dL_law_872 : decode cL_law 872 = .ok (.iload 4, 2) := by decide +kernel
theorem dL_law_874 : decode cL_law 874 = .ok (.iconst 1, 1) := by decide +kernel
theorem dL_law_875 : decode cL_law 875 = .ok (.iadd, 1) := by decide +kernel
theorem dL_law_876 : decode cL_law 876 = .ok (.iaload, 1) := by decide +kernel
theorem dL_law_877 : decode cL_law 877 = .ok (.i2l, 1) := by decide +kernel
theorem dL_law_878 : decode cL_law 878 = .ok (.bipush 32, 2) := by decide +kernel
theorem dL_law_880 : decode cL_law 880 = .ok (.lshl, 1) := by decide +kernel
theorem dL_law_881 : decode cL_law 881 = .ok (.aload_n 0, 1) := by decide +kernel
theorem dL_law_882 : decode cL_law 882 = .ok (.iload 4, 2) := by decide +kernel
theorem dL_law_884 : decode cL_law 884 = .ok (.iconst 2, 1) := by decide +kernel
theorem dL_law_885 : decode cL_law 885 = .ok (.iadd, 1) := by decide +kernel
theorem dL_law_886 : decode cL_law 886 = .ok (.iaload, 1) := by decide +kernel
theorem dL_law_887 : decode cL_law 887 = .ok (.i2l, 1) := by decide +kernel
theorem dL_law_888 : decode cL_law 888 = .ok (.ldc2_w 113, 3) := by decide +kernel
theorem dL_law_891 : decode cL_law 891 = .ok (.land, 1) := by decide +kernel
theorem dL_law_892 : decode cL_law 892 = .ok (.lor, 1) := by decide +kernel
theorem dL_law_893 : decode cL_law 893 = .ok (.aload_n 0, 1) := by decide +kernel
theorem dL_law_894 : decode cL_law 894 = .ok (.iload 4, 2) := by decide +kernel
theorem dL_law_896 : decode cL_law 896 = .ok (.iconst 3, 1) := by decide +kernel
theorem dL_law_897 : decode cL_law 897 = .ok (.iadd, 1) := by decide +kernel
theorem dL_law_898 : decode cL_law 898 = .ok (.iaload, 1) := by decide +kernel
theorem dL_law_899 : decode cL_law 899 = .ok (.i2l, 1) := by decide +kernel
theorem dL_law_900 : decode cL_law 900 = .ok (.bipush 32, 2) := by decide +kernel
theorem dL_law_902 : decode cL_law 902 = .ok (.lshl, 1) := by decide +kernel
theorem dL_law_903 : decode cL_law 903 = .ok (.aload_n 0, 1) := by decide +kernel
theorem dL_law_904 : decode cL_law 904 = .ok (.iload 4, 2) := by decide +kernel
theorem dL_law_906 : decode cL_law 906 = .ok (.iconst 4, 1) := by decide +kernel
theorem dL_law_907 : decode cL_law 907 = .ok (.iadd, 1) := by decide +kernel
theorem dL_law_908 : decode cL_law 908 = .ok (.iaload, 1) := by decide +kernel
theorem dL_law_909 : decode cL_law 909 = .ok (.i2l, 1) := by decide +kernel
theorem dL_law_910 : decode cL_law 910 = .ok (.ldc2_w 113, 3) := by decide +kernel
theorem dL_law_913 : decode cL_law 913 = .ok (.land, 1) := by decide +kernel
theorem dL_law_914 : decode cL_law 914 = .ok (.lor, 1) := by decide +kernel
theorem dL_law_915 : decode cL_law 915 = .ok (.invokevirtual 122, 3) := by decide +kernel
theorem dL_law_918 : decode cL_law 918 = .ok (.istore 6, 2) := by decide +kernel
theorem dL_law_920 : decode cL_law 920 = .ok (.aload_n 2, 1) := by decide +kernel
theorem dL_law_921 : decode cL_law 921 = .ok (.invokevirtual 82, 3) := by decide +kernel
theorem dL_law_924 : decode cL_law 924 = .ok (.iload 5, 2) := by decide +kernel
theorem dL_law_926 : decode cL_law 926 = .ok (.if_icmp .eq 5, 3) := by decide +kernel
theorem dL_law_929 : decode cL_law 929 = .ok (.iconst 0, 1) := by decide +kernel
theorem dL_law_930 : decode cL_law 930 = .ok (.ireturn, 1) := by decide +kernel
theorem dL_law_931 : decode cL_law 931 = .ok (.iload 5, 2) := by decide +kernel
theorem dL_law_933 : decode cL_law 933 = .ok (.ifCond .ne 15, 3) := by decide +kernel
theorem dL_law_936 : decode cL_law 936 = .ok (.aload_n 3, 1) := by decide +kernel
theorem dL_law_937 : decode cL_law 937 = .ok (.iconst 0, 1) := by decide +kernel
theorem dL_law_938 : decode cL_law 938 = .ok (.laload, 1) := by decide +kernel
theorem dL_law_939 : decode cL_law 939 = .ok (.iload 6, 2) := by decide +kernel
theorem dL_law_941 : decode cL_law 941 = .ok (.i2l, 1) := by decide +kernel
theorem dL_law_942 : decode cL_law 942 = .ok (.lcmp, 1) := by decide +kernel
theorem dL_law_943 : decode cL_law 943 = .ok (.ifCond .eq 5, 3) := by decide +kernel
theorem dL_law_946 : decode cL_law 946 = .ok (.iconst 0, 1) := by decide +kernel
theorem dL_law_947 : decode cL_law 947 = .ok (.ireturn, 1) := by decide +kernel
theorem dL_law_948 : decode cL_law 948 = .ok (.goto 419, 3) := by decide +kernel
theorem dL_law_951 : decode cL_law 951 = .ok (.aload_n 1, 1) := by decide +kernel
theorem dL_law_952 : decode cL_law 952 = .ok (.aload_n 0, 1) := by decide +kernel
theorem dL_law_953 : decode cL_law 953 = .ok (.iload 4, 2) := by decide +kernel
theorem dL_law_955 : decode cL_law 955 = .ok (.iconst 1, 1) := by decide +kernel
theorem dL_law_956 : decode cL_law 956 = .ok (.iadd, 1) := by decide +kernel
theorem dL_law_957 : decode cL_law 957 = .ok (.iaload, 1) := by decide +kernel
theorem dL_law_958 : decode cL_law 958 = .ok (.aload_n 3, 1) := by decide +kernel
theorem dL_law_959 : decode cL_law 959 = .ok (.invokestatic 123, 3) := by decide +kernel
theorem dL_law_962 : decode cL_law 962 = .ok (.istore 5, 2) := by decide +kernel
theorem dL_law_964 : decode cL_law 964 = .ok (.aload_n 2, 1) := by decide +kernel
theorem dL_law_965 : decode cL_law 965 = .ok (.aload_n 0, 1) := by decide +kernel
theorem dL_law_966 : decode cL_law 966 = .ok (.iload 4, 2) := by decide +kernel
theorem dL_law_968 : decode cL_law 968 = .ok (.iconst 1, 1) := by decide +kernel
theorem dL_law_969 : decode cL_law 969 = .ok (.iadd, 1) := by decide +kernel
theorem dL_law_970 : decode cL_law 970 = .ok (.iaload, 1) := by decide +kernel
theorem dL_law_971 : decode cL_law 971 = .ok (.invokevirtual 125, 3) := by decide +kernel
theorem dL_law_974 : decode cL_law 974 = .ok (.istore 6, 2) := by decide +kernel
theorem dL_law_976 : decode cL_law 976 = .ok (.aload_n 2, 1) := by decide +kernel
theorem dL_law_977 : decode cL_law 977 = .ok (.invokevirtual 82, 3) := by decide +kernel
theorem dL_law_980 : decode cL_law 980 = .ok (.iload 5, 2) := by decide +kernel
theorem dL_law_982 : decode cL_law 982 = .ok (.if_icmp .eq 5, 3) := by decide +kernel
theorem dL_law_985 : decode cL_law 985 = .ok (.iconst 0, 1) := by decide +kernel
theorem dL_law_986 : decode cL_law 986 = .ok (.ireturn, 1) := by decide +kernel
theorem dL_law_987 : decode cL_law 987 = .ok (.iload 5, 2) := by decide +kernel
theorem dL_law_989 : decode cL_law 989 = .ok (.ifCond .ne 15, 3) := by decide +kernel
theorem dL_law_992 : decode cL_law 992 = .ok (.aload_n 3, 1) := by decide +kernel
theorem dL_law_993 : decode cL_law 993 = .ok (.iconst 0, 1) := by decide +kernel
theorem dL_law_994 : decode cL_law 994 = .ok (.laload, 1) := by decide +kernel
theorem dL_law_995 : decode cL_law 995 = .ok (.iload 6, 2) := by decide +kernel
theorem dL_law_997 : decode cL_law 997 = .ok (.i2l, 1) := by decide +kernel
theorem dL_law_998 : decode cL_law 998 = .ok (.lcmp, 1) := by decide +kernel
theorem dL_law_999 : decode cL_law 999 = .ok (.ifCond .eq 5, 3) := by decide +kernel
theorem dL_law_1002 : decode cL_law 1002 = .ok (.iconst 0, 1) := by decide +kernel
theorem dL_law_1003 : decode cL_law 1003 = .ok (.ireturn, 1) := by decide +kernel
theorem dL_law_1004 : decode cL_law 1004 = .ok (.goto 363, 3) := by decide +kernel
theorem dL_law_1007 : decode cL_law 1007 = .ok (.aload_n 1, 1) := by decide +kernel
theorem dL_law_1008 : decode cL_law 1008 = .ok (.aload_n 0, 1) := by decide +kernel
theorem dL_law_1009 : decode cL_law 1009 = .ok (.iload 4, 2) := by decide +kernel
theorem dL_law_1011 : decode cL_law 1011 = .ok (.iconst 1, 1) := by decide +kernel
theorem dL_law_1012 : decode cL_law 1012 = .ok (.iadd, 1) := by decide +kernel
theorem dL_law_1013 : decode cL_law 1013 = .ok (.iaload, 1) := by decide +kernel
theorem dL_law_1014 : decode cL_law 1014 = .ok (.aload_n 0, 1) := by decide +kernel
theorem dL_law_1015 : decode cL_law 1015 = .ok (.iload 4, 2) := by decide +kernel
theorem dL_law_1017 : decode cL_law 1017 = .ok (.iconst 2, 1) := by decide +kernel
theorem dL_law_1018 : decode cL_law 1018 = .ok (.iadd, 1) := by decide +kernel
theorem dL_law_1019 : decode cL_law 1019 = .ok (.iaload, 1) := by decide +kernel
theorem dL_law_1020 : decode cL_law 1020 = .ok (.aload_n 3, 1) := by decide +kernel
theorem dL_law_1021 : decode cL_law 1021 = .ok (.invokestatic 126, 3) := by decide +kernel
theorem dL_law_1024 : decode cL_law 1024 = .ok (.istore 5, 2) := by decide +kernel
theorem dL_law_1026 : decode cL_law 1026 = .ok (.aload_n 2, 1) := by decide +kernel
theorem dL_law_1027 : decode cL_law 1027 = .ok (.aload_n 0, 1) := by decide +kernel
theorem dL_law_1028 : decode cL_law 1028 = .ok (.iload 4, 2) := by decide +kernel
theorem dL_law_1030 : decode cL_law 1030 = .ok (.iconst 1, 1) := by decide +kernel
theorem dL_law_1031 : decode cL_law 1031 = .ok (.iadd, 1) := by decide +kernel
theorem dL_law_1032 : decode cL_law 1032 = .ok (.iaload, 1) := by decide +kernel
theorem dL_law_1033 : decode cL_law 1033 = .ok (.aload_n 0, 1) := by decide +kernel
theorem dL_law_1034 : decode cL_law 1034 = .ok (.iload 4, 2) := by decide +kernel
theorem dL_law_1036 : decode cL_law 1036 = .ok (.iconst 2, 1) := by decide +kernel
theorem dL_law_1037 : decode cL_law 1037 = .ok (.iadd, 1) := by decide +kernel
theorem dL_law_1038 : decode cL_law 1038 = .ok (.iaload, 1) := by decide +kernel
theorem dL_law_1039 : decode cL_law 1039 = .ok (.invokevirtual 128, 3) := by decide +kernel
theorem dL_law_1042 : decode cL_law 1042 = .ok (.istore 6, 2) := by decide +kernel
theorem dL_law_1044 : decode cL_law 1044 = .ok (.aload_n 2, 1) := by decide +kernel
theorem dL_law_1045 : decode cL_law 1045 = .ok (.invokevirtual 82, 3) := by decide +kernel
theorem dL_law_1048 : decode cL_law 1048 = .ok (.iload 5, 2) := by decide +kernel
theorem dL_law_1050 : decode cL_law 1050 = .ok (.if_icmp .eq 5, 3) := by decide +kernel
theorem dL_law_1053 : decode cL_law 1053 = .ok (.iconst 0, 1) := by decide +kernel
theorem dL_law_1054 : decode cL_law 1054 = .ok (.ireturn, 1) := by decide +kernel
theorem dL_law_1055 : decode cL_law 1055 = .ok (.iload 5, 2) := by decide +kernel
theorem dL_law_1057 : decode cL_law 1057 = .ok (.ifCond .ne 15, 3) := by decide +kernel
theorem dL_law_1060 : decode cL_law 1060 = .ok (.aload_n 3, 1) := by decide +kernel
theorem dL_law_1061 : decode cL_law 1061 = .ok (.iconst 0, 1) := by decide +kernel
theorem dL_law_1062 : decode cL_law 1062 = .ok (.laload, 1) := by decide +kernel
theorem dL_law_1063 : decode cL_law 1063 = .ok (.iload 6, 2) := by decide +kernel
theorem dL_law_1065 : decode cL_law 1065 = .ok (.i2l, 1) := by decide +kernel
theorem dL_law_1066 : decode cL_law 1066 = .ok (.lcmp, 1) := by decide +kernel
theorem dL_law_1067 : decode cL_law 1067 = .ok (.ifCond .eq 5, 3) := by decide +kernel
theorem dL_law_1070 : decode cL_law 1070 = .ok (.iconst 0, 1) := by decide +kernel
theorem dL_law_1071 : decode cL_law 1071 = .ok (.ireturn, 1) := by decide +kernel
theorem dL_law_1072 : decode cL_law 1072 = .ok (.goto 295, 3) := by decide +kernel
theorem dL_law_1075 : decode cL_law 1075 = .ok (.aload_n 1, 1) := by decide +kernel
theorem dL_law_1076 : decode cL_law 1076 = .ok (.aload_n 0, 1) := by decide +kernel
theorem dL_law_1077 : decode cL_law 1077 = .ok (.iload 4, 2) := by decide +kernel
theorem dL_law_1079 : decode cL_law 1079 = .ok (.iconst 1, 1) := by decide +kernel
theorem dL_law_1080 : decode cL_law 1080 = .ok (.iadd, 1) := by decide +kernel
theorem dL_law_1081 : decode cL_law 1081 = .ok (.iaload, 1) := by decide +kernel
theorem dL_law_1082 : decode cL_law 1082 = .ok (.aload_n 3, 1) := by decide +kernel
theorem dL_law_1083 : decode cL_law 1083 = .ok (.invokestatic 129, 3) := by decide +kernel
theorem dL_law_1086 : decode cL_law 1086 = .ok (.istore 5, 2) := by decide +kernel
theorem dL_law_1088 : decode cL_law 1088 = .ok (.aload_n 2, 1) := by decide +kernel
theorem dL_law_1089 : decode cL_law 1089 = .ok (.aload_n 0, 1) := by decide +kernel
theorem dL_law_1090 : decode cL_law 1090 = .ok (.iload 4, 2) := by decide +kernel
theorem dL_law_1092 : decode cL_law 1092 = .ok (.iconst 1, 1) := by decide +kernel
theorem dL_law_1093 : decode cL_law 1093 = .ok (.iadd, 1) := by decide +kernel
theorem dL_law_1094 : decode cL_law 1094 = .ok (.iaload, 1) := by decide +kernel
theorem dL_law_1095 : decode cL_law 1095 = .ok (.invokevirtual 131, 3) := by decide +kernel
theorem dL_law_1098 : decode cL_law 1098 = .ok (.istore 6, 2) := by decide +kernel
theorem dL_law_1100 : decode cL_law 1100 = .ok (.aload_n 2, 1) := by decide +kernel
theorem dL_law_1101 : decode cL_law 1101 = .ok (.invokevirtual 82, 3) := by decide +kernel
theorem dL_law_1104 : decode cL_law 1104 = .ok (.iload 5, 2) := by decide +kernel
theorem dL_law_1106 : decode cL_law 1106 = .ok (.if_icmp .eq 5, 3) := by decide +kernel
theorem dL_law_1109 : decode cL_law 1109 = .ok (.iconst 0, 1) := by decide +kernel
theorem dL_law_1110 : decode cL_law 1110 = .ok (.ireturn, 1) := by decide +kernel
theorem dL_law_1111 : decode cL_law 1111 = .ok (.iload 5, 2) := by decide +kernel
theorem dL_law_1113 : decode cL_law 1113 = .ok (.ifCond .ne 15, 3) := by decide +kernel
theorem dL_law_1116 : decode cL_law 1116 = .ok (.aload_n 3, 1) := by decide +kernel
theorem dL_law_1117 : decode cL_law 1117 = .ok (.iconst 0, 1) := by decide +kernel
theorem dL_law_1118 : decode cL_law 1118 = .ok (.laload, 1) := by decide +kernel
theorem dL_law_1119 : decode cL_law 1119 = .ok (.iload 6, 2) := by decide +kernel
theorem dL_law_1121 : decode cL_law 1121 = .ok (.i2l, 1) := by decide +kernel
theorem dL_law_1122 : decode cL_law 1122 = .ok (.lcmp, 1) := by decide +kernel
theorem dL_law_1123 : decode cL_law 1123 = .ok (.ifCond .eq 5, 3) := by decide +kernel
theorem dL_law_1126 : decode cL_law 1126 = .ok (.iconst 0, 1) := by decide +kernel
theorem dL_law_1127 : decode cL_law 1127 = .ok (.ireturn, 1) := by decide +kernel
theorem dL_law_1128 : decode cL_law 1128 = .ok (.goto 239, 3) := by decide +kernel
theorem dL_law_1131 : decode cL_law 1131 = .ok (.aload_n 1, 1) := by decide +kernel
theorem dL_law_1132 : decode cL_law 1132 = .ok (.aload_n 3, 1) := by decide +kernel
theorem dL_law_1133 : decode cL_law 1133 = .ok (.invokestatic 132, 3) := by decide +kernel
theorem dL_law_1136 : decode cL_law 1136 = .ok (.istore 5, 2) := by decide +kernel
theorem dL_law_1138 : decode cL_law 1138 = .ok (.aload_n 2, 1) := by decide +kernel
theorem dL_law_1139 : decode cL_law 1139 = .ok (.invokevirtual 134, 3) := by decide +kernel
theorem dL_law_1142 : decode cL_law 1142 = .ok (.istore 6, 2) := by decide +kernel
theorem dL_law_1144 : decode cL_law 1144 = .ok (.aload_n 2, 1) := by decide +kernel
theorem dL_law_1145 : decode cL_law 1145 = .ok (.invokevirtual 82, 3) := by decide +kernel
theorem dL_law_1148 : decode cL_law 1148 = .ok (.iload 5, 2) := by decide +kernel
theorem dL_law_1150 : decode cL_law 1150 = .ok (.if_icmp .eq 5, 3) := by decide +kernel
theorem dL_law_1153 : decode cL_law 1153 = .ok (.iconst 0, 1) := by decide +kernel
theorem dL_law_1154 : decode cL_law 1154 = .ok (.ireturn, 1) := by decide +kernel
theorem dL_law_1155 : decode cL_law 1155 = .ok (.iload 5, 2) := by decide +kernel
theorem dL_law_1157 : decode cL_law 1157 = .ok (.ifCond .ne 15, 3) := by decide +kernel
theorem dL_law_1160 : decode cL_law 1160 = .ok (.aload_n 3, 1) := by decide +kernel
theorem dL_law_1161 : decode cL_law 1161 = .ok (.iconst 0, 1) := by decide +kernel
theorem dL_law_1162 : decode cL_law 1162 = .ok (.laload, 1) := by decide +kernel
theorem dL_law_1163 : decode cL_law 1163 = .ok (.iload 6, 2) := by decide +kernel
theorem dL_law_1165 : decode cL_law 1165 = .ok (.i2l, 1) := by decide +kernel
theorem dL_law_1166 : decode cL_law 1166 = .ok (.lcmp, 1) := by decide +kernel
theorem dL_law_1167 : decode cL_law 1167 = .ok (.ifCond .eq 5, 3) := by decide +kernel
theorem dL_law_1170 : decode cL_law 1170 = .ok (.iconst 0, 1) := by decide +kernel
theorem dL_law_1171 : decode cL_law 1171 = .ok (.ireturn, 1) := by decide +kernel
theorem dL_law_1172 : decode cL_law 1172 = .ok (.goto 195, 3) := by decide +kernel
theorem dL_law_1175 : decode cL_law 1175 = .ok (.aload_n 1, 1) := by decide +kernel
theorem dL_law_1176 : decode cL_law 1176 = .ok (.aload_n 3, 1) := by decide +kernel
theorem dL_law_1177 : decode cL_law 1177 = .ok (.invokestatic 135, 3) := by decide +kernel
theorem dL_law_1180 : decode cL_law 1180 = .ok (.istore 5, 2) := by decide +kernel
theorem dL_law_1182 : decode cL_law 1182 = .ok (.aload_n 2, 1) := by decide +kernel
theorem dL_law_1183 : decode cL_law 1183 = .ok (.invokevirtual 137, 3) := by decide +kernel
theorem dL_law_1186 : decode cL_law 1186 = .ok (.istore 6, 2) := by decide +kernel
theorem dL_law_1188 : decode cL_law 1188 = .ok (.aload_n 2, 1) := by decide +kernel
theorem dL_law_1189 : decode cL_law 1189 = .ok (.invokevirtual 82, 3) := by decide +kernel
theorem dL_law_1192 : decode cL_law 1192 = .ok (.iload 5, 2) := by decide +kernel
theorem dL_law_1194 : decode cL_law 1194 = .ok (.if_icmp .eq 5, 3) := by decide +kernel
theorem dL_law_1197 : decode cL_law 1197 = .ok (.iconst 0, 1) := by decide +kernel
theorem dL_law_1198 : decode cL_law 1198 = .ok (.ireturn, 1) := by decide +kernel
theorem dL_law_1199 : decode cL_law 1199 = .ok (.iload 5, 2) := by decide +kernel
theorem dL_law_1201 : decode cL_law 1201 = .ok (.ifCond .ne 15, 3) := by decide +kernel
theorem dL_law_1204 : decode cL_law 1204 = .ok (.aload_n 3, 1) := by decide +kernel
theorem dL_law_1205 : decode cL_law 1205 = .ok (.iconst 0, 1) := by decide +kernel
theorem dL_law_1206 : decode cL_law 1206 = .ok (.laload, 1) := by decide +kernel
theorem dL_law_1207 : decode cL_law 1207 = .ok (.iload 6, 2) := by decide +kernel
theorem dL_law_1209 : decode cL_law 1209 = .ok (.i2l, 1) := by decide +kernel
theorem dL_law_1210 : decode cL_law 1210 = .ok (.lcmp, 1) := by decide +kernel
theorem dL_law_1211 : decode cL_law 1211 = .ok (.ifCond .eq 5, 3) := by decide +kernel
theorem dL_law_1214 : decode cL_law 1214 = .ok (.iconst 0, 1) := by decide +kernel
theorem dL_law_1215 : decode cL_law 1215 = .ok (.ireturn, 1) := by decide +kernel
theorem dL_law_1216 : decode cL_law 1216 = .ok (.goto 151, 3) := by decide +kernel
theorem dL_law_1219 : decode cL_law 1219 = .ok (.aload_n 1, 1) := by decide +kernel
theorem dL_law_1220 : decode cL_law 1220 = .ok (.invokevirtual 138, 3) := by decide +kernel
theorem dL_law_1223 : decode cL_law 1223 = .ok (.aload_n 2, 1) := by decide +kernel
theorem dL_law_1224 : decode cL_law 1224 = .ok (.invokevirtual 142, 3) := by decide +kernel
theorem dL_law_1227 : decode cL_law 1227 = .ok (.if_icmp .eq 140, 3) := by decide +kernel
theorem dL_law_1230 : decode cL_law 1230 = .ok (.iconst 0, 1) := by decide +kernel
theorem dL_law_1231 : decode cL_law 1231 = .ok (.ireturn, 1) := by decide +kernel
theorem dL_law_1232 : decode cL_law 1232 = .ok (.aload_n 1, 1) := by decide +kernel
theorem dL_law_1233 : decode cL_law 1233 = .ok (.aload_n 0, 1) := by decide +kernel
theorem dL_law_1234 : decode cL_law 1234 = .ok (.iload 4, 2) := by decide +kernel
theorem dL_law_1236 : decode cL_law 1236 = .ok (.iconst 1, 1) := by decide +kernel
theorem dL_law_1237 : decode cL_law 1237 = .ok (.iadd, 1) := by decide +kernel
theorem dL_law_1238 : decode cL_law 1238 = .ok (.iaload, 1) := by decide +kernel
theorem dL_law_1239 : decode cL_law 1239 = .ok (.aload_n 0, 1) := by decide +kernel
theorem dL_law_1240 : decode cL_law 1240 = .ok (.iload 4, 2) := by decide +kernel
theorem dL_law_1242 : decode cL_law 1242 = .ok (.iconst 2, 1) := by decide +kernel
theorem dL_law_1243 : decode cL_law 1243 = .ok (.iadd, 1) := by decide +kernel
theorem dL_law_1244 : decode cL_law 1244 = .ok (.iaload, 1) := by decide +kernel
theorem dL_law_1245 : decode cL_law 1245 = .ok (.aload_n 3, 1) := by decide +kernel
theorem dL_law_1246 : decode cL_law 1246 = .ok (.invokestatic 143, 3) := by decide +kernel
theorem dL_law_1249 : decode cL_law 1249 = .ok (.istore 5, 2) := by decide +kernel
theorem dL_law_1251 : decode cL_law 1251 = .ok (.aload_n 2, 1) := by decide +kernel
theorem dL_law_1252 : decode cL_law 1252 = .ok (.aload_n 0, 1) := by decide +kernel
theorem dL_law_1253 : decode cL_law 1253 = .ok (.iload 4, 2) := by decide +kernel
theorem dL_law_1255 : decode cL_law 1255 = .ok (.iconst 1, 1) := by decide +kernel
theorem dL_law_1256 : decode cL_law 1256 = .ok (.iadd, 1) := by decide +kernel
theorem dL_law_1257 : decode cL_law 1257 = .ok (.iaload, 1) := by decide +kernel
theorem dL_law_1258 : decode cL_law 1258 = .ok (.aload_n 0, 1) := by decide +kernel
theorem dL_law_1259 : decode cL_law 1259 = .ok (.iload 4, 2) := by decide +kernel
theorem dL_law_1261 : decode cL_law 1261 = .ok (.iconst 2, 1) := by decide +kernel
theorem dL_law_1262 : decode cL_law 1262 = .ok (.iadd, 1) := by decide +kernel
theorem dL_law_1263 : decode cL_law 1263 = .ok (.iaload, 1) := by decide +kernel
theorem dL_law_1264 : decode cL_law 1264 = .ok (.invokevirtual 145, 3) := by decide +kernel
theorem dL_law_1267 : decode cL_law 1267 = .ok (.istore 6, 2) := by decide +kernel
theorem dL_law_1269 : decode cL_law 1269 = .ok (.aload_n 2, 1) := by decide +kernel
theorem dL_law_1270 : decode cL_law 1270 = .ok (.invokevirtual 82, 3) := by decide +kernel
theorem dL_law_1273 : decode cL_law 1273 = .ok (.iload 5, 2) := by decide +kernel
theorem dL_law_1275 : decode cL_law 1275 = .ok (.if_icmp .eq 5, 3) := by decide +kernel
theorem dL_law_1278 : decode cL_law 1278 = .ok (.iconst 0, 1) := by decide +kernel
theorem dL_law_1279 : decode cL_law 1279 = .ok (.ireturn, 1) := by decide +kernel
theorem dL_law_1280 : decode cL_law 1280 = .ok (.iload 5, 2) := by decide +kernel
theorem dL_law_1282 : decode cL_law 1282 = .ok (.ifCond .ne 15, 3) := by decide +kernel
theorem dL_law_1285 : decode cL_law 1285 = .ok (.aload_n 3, 1) := by decide +kernel
theorem dL_law_1286 : decode cL_law 1286 = .ok (.iconst 0, 1) := by decide +kernel
theorem dL_law_1287 : decode cL_law 1287 = .ok (.laload, 1) := by decide +kernel
theorem dL_law_1288 : decode cL_law 1288 = .ok (.iload 6, 2) := by decide +kernel
theorem dL_law_1290 : decode cL_law 1290 = .ok (.i2l, 1) := by decide +kernel
theorem dL_law_1291 : decode cL_law 1291 = .ok (.lcmp, 1) := by decide +kernel
theorem dL_law_1292 : decode cL_law 1292 = .ok (.ifCond .eq 5, 3) := by decide +kernel
theorem dL_law_1295 : decode cL_law 1295 = .ok (.iconst 0, 1) := by decide +kernel
theorem dL_law_1296 : decode cL_law 1296 = .ok (.ireturn, 1) := by decide +kernel
theorem dL_law_1297 : decode cL_law 1297 = .ok (.goto 70, 3) := by decide +kernel
theorem dL_law_1300 : decode cL_law 1300 = .ok (.aload_n 1, 1) := by decide +kernel
theorem dL_law_1301 : decode cL_law 1301 = .ok (.aload_n 0, 1) := by decide +kernel
theorem dL_law_1302 : decode cL_law 1302 = .ok (.iload 4, 2) := by decide +kernel
theorem dL_law_1304 : decode cL_law 1304 = .ok (.iconst 1, 1) := by decide +kernel
theorem dL_law_1305 : decode cL_law 1305 = .ok (.iadd, 1) := by decide +kernel
theorem dL_law_1306 : decode cL_law 1306 = .ok (.iaload, 1) := by decide +kernel
theorem dL_law_1307 : decode cL_law 1307 = .ok (.aload_n 3, 1) := by decide +kernel
theorem dL_law_1308 : decode cL_law 1308 = .ok (.invokestatic 146, 3) := by decide +kernel
theorem dL_law_1311 : decode cL_law 1311 = .ok (.istore 5, 2) := by decide +kernel
theorem dL_law_1313 : decode cL_law 1313 = .ok (.aload_n 2, 1) := by decide +kernel
theorem dL_law_1314 : decode cL_law 1314 = .ok (.aload_n 0, 1) := by decide +kernel
theorem dL_law_1315 : decode cL_law 1315 = .ok (.iload 4, 2) := by decide +kernel
theorem dL_law_1317 : decode cL_law 1317 = .ok (.iconst 1, 1) := by decide +kernel
theorem dL_law_1318 : decode cL_law 1318 = .ok (.iadd, 1) := by decide +kernel
theorem dL_law_1319 : decode cL_law 1319 = .ok (.iaload, 1) := by decide +kernel
theorem dL_law_1320 : decode cL_law 1320 = .ok (.invokevirtual 148, 3) := by decide +kernel
theorem dL_law_1323 : decode cL_law 1323 = .ok (.istore 6, 2) := by decide +kernel
theorem dL_law_1325 : decode cL_law 1325 = .ok (.aload_n 2, 1) := by decide +kernel
theorem dL_law_1326 : decode cL_law 1326 = .ok (.invokevirtual 82, 3) := by decide +kernel
theorem dL_law_1329 : decode cL_law 1329 = .ok (.iload 5, 2) := by decide +kernel
theorem dL_law_1331 : decode cL_law 1331 = .ok (.if_icmp .eq 5, 3) := by decide +kernel
theorem dL_law_1334 : decode cL_law 1334 = .ok (.iconst 0, 1) := by decide +kernel
theorem dL_law_1335 : decode cL_law 1335 = .ok (.ireturn, 1) := by decide +kernel
theorem dL_law_1336 : decode cL_law 1336 = .ok (.iload 5, 2) := by decide +kernel
theorem dL_law_1338 : decode cL_law 1338 = .ok (.ifCond .ne 15, 3) := by decide +kernel
theorem dL_law_1341 : decode cL_law 1341 = .ok (.aload_n 3, 1) := by decide +kernel
theorem dL_law_1342 : decode cL_law 1342 = .ok (.iconst 0, 1) := by decide +kernel
theorem dL_law_1343 : decode cL_law 1343 = .ok (.laload, 1) := by decide +kernel
theorem dL_law_1344 : decode cL_law 1344 = .ok (.iload 6, 2) := by decide +kernel
theorem dL_law_1346 : decode cL_law 1346 = .ok (.i2l, 1) := by decide +kernel
theorem dL_law_1347 : decode cL_law 1347 = .ok (.lcmp, 1) := by decide +kernel
theorem dL_law_1348 : decode cL_law 1348 = .ok (.ifCond .eq 5, 3) := by decide +kernel
theorem dL_law_1351 : decode cL_law 1351 = .ok (.iconst 0, 1) := by decide +kernel
theorem dL_law_1352 : decode cL_law 1352 = .ok (.ireturn, 1) := by decide +kernel
theorem dL_law_1353 : decode cL_law 1353 = .ok (.goto 14, 3) := by decide +kernel
theorem dL_law_1356 : decode cL_law 1356 = .ok (.aload_n 1, 1) := by decide +kernel
theorem dL_law_1357 : decode cL_law 1357 = .ok (.invokevirtual 149, 3) := by decide +kernel
theorem dL_law_1360 : decode cL_law 1360 = .ok (.aload_n 2, 1) := by decide +kernel
theorem dL_law_1361 : decode cL_law 1361 = .ok (.invokevirtual 152, 3) := by decide +kernel
theorem dL_law_1364 : decode cL_law 1364 = .ok (.goto 3, 3) := by decide +kernel
theorem dL_law_1367 : decode cL_law 1367 = .ok (.iinc 4 6, 3) := by decide +kernel
theorem dL_law_1370 : decode cL_law 1370 = .ok (.goto (-1347), 3) := by decide +kernel
theorem dL_law_1373 : decode cL_law 1373 = .ok (.iconst 1, 1) := by decide +kernel
theorem dL_law_1374 : decode cL_law 1374 = .ok (.ireturn, 1) := by decide +kernel
end
section
def UW : List Cond := lw_tbl.filter goodWord
theorem uw_at (i : Nat) {w : Cond} (h : tables_1[i]? = some w) (g : goodWord w = true) : w ∈ UW := List.mem_filter.mpr ⟨List.mem_append_right _ (List.mem_of_getElem? h), g⟩
theorem uw_sel (i : Nat) {w : Cond} (h : (k2_sels lw_privs)[i]? = some w) (g : goodWord w = true) : w ∈ UW := List.mem_filter.mpr ⟨List.mem_append_left _ (List.mem_of_getElem? h), g⟩
theorem uw_tb {w : Cond} (h : w ∈ UW) : w ∈ lw_tbl := (List.mem_filter.mp h).1
theorem uw_gd {w : Cond} (h : w ∈ UW) : goodWord w = true := (List.mem_filter.mp h).2
theorem uw_in {w : Cond} (h : w ∈ UW) : GoodIn UW [w] := fun v hv => by rw [List.mem_singleton.mp hv]; exact ⟨h, good_of_word (uw_gd h)⟩
theorem uw_self : GoodIn UW UW := fun _ h => ⟨h, good_of_word (uw_gd h)⟩
theorem uw_cons {w : Cond} {ws : List Cond} (h : w ∈ UW) (g : GoodIn UW ws) : GoodIn UW (w :: ws) := fun v hv => (List.mem_cons.mp hv).elim (fun e => by rw [e]; exact ⟨h, good_of_word (uw_gd h)⟩) (g v)
def w_MV (yN : MethodName) (cc : ByteArray) (mL : Nat) (ret : Option FieldType) (n : Nat) : Prop := Cond.instanceMethod yN ∈ UW ∧ Cond.selects yN.cls yN yN ∈ UW ∧ Cond.initialized yN.cls ∈ UW ∧ Cond.code yN cc mL ret ∈ UW ∧ (yN.cls ≠ "java/lang/invoke/MethodHandle" ∧ yN.cls ≠ "java/lang/invoke/VarHandle" ∧ (parseMethodDescriptor yN.desc).map (fun d => d.parameters.length) = some n)
def w_MS (yN : MethodName) (cc : ByteArray) (mL : Nat) (ret : Option FieldType) (n : Nat) : Prop := Cond.static yN ∈ UW ∧ Cond.initialized yN.cls ∈ UW ∧ Cond.code yN cc mL ret ∈ UW ∧ (yN.cls ≠ "java/lang/invoke/MethodHandle" ∧ yN.cls ≠ "java/lang/invoke/VarHandle" ∧ (parseMethodDescriptor yN.desc).map (fun d => d.parameters.length) = some n)
def w_MI (yN : MethodName) (cc : ByteArray) (mL : Nat) (n : Nat) : Prop := Cond.instanceMethod yN ∈ UW ∧ Cond.initialized yN.cls ∈ UW ∧ Cond.code yN cc mL none ∈ UW ∧ (yN.name = "<init>" ∧ yN.cls ≠ "java/lang/invoke/MethodHandle" ∧ yN.cls ≠ "java/lang/invoke/VarHandle" ∧ (parseMethodDescriptor yN.desc).map (fun d => d.parameters.length) = some n)
theorem wF_X3_9 : Cond.fieldLink RX3 9 "LeastEdits$Net" "kind" "[I" ∈ UW := uw_at 32 (by decide +kernel) rfl
theorem wF_X3_15 : Cond.fieldLink RX3 15 "LeastEdits$Net" "first" "[I" ∈ UW := uw_at 33 (by decide +kernel) rfl
theorem wF_X4_29 : Cond.fieldLink RX4 29 "LeastEdits$Net" "first" "[I" ∈ UW := uw_at 34 (by decide +kernel) rfl
theorem wF_X5_109 : Cond.fieldLink RX5 109 "LeastEdits$Net" "first" "[I" ∈ UW := uw_at 35 (by decide +kernel) rfl
theorem wF_X7_232 : Cond.fieldLink RX7 232 "LeastEdits$Net" "first" "[I" ∈ UW := uw_at 36 (by decide +kernel) rfl
theorem wF_X3_18 : Cond.fieldLink RX3 18 "LeastEdits$Net" "second" "[I" ∈ UW := uw_at 37 (by decide +kernel) rfl
theorem wF_X4_34 : Cond.fieldLink RX4 34 "LeastEdits$Net" "second" "[I" ∈ UW := uw_at 38 (by decide +kernel) rfl
theorem wF_X5_116 : Cond.fieldLink RX5 116 "LeastEdits$Net" "second" "[I" ∈ UW := uw_at 39 (by decide +kernel) rfl
theorem wF_X7_234 : Cond.fieldLink RX7 234 "LeastEdits$Net" "second" "[I" ∈ UW := uw_at 40 (by decide +kernel) rfl
theorem wF_X3_21 : Cond.fieldLink RX3 21 "LeastEdits$Net" "columns" "[I" ∈ UW := uw_at 41 (by decide +kernel) rfl
theorem wF_X5_49 : Cond.fieldLink RX5 49 "LeastEdits$Net" "columns" "[I" ∈ UW := uw_at 42 (by decide +kernel) rfl
theorem wF_X7_127 : Cond.fieldLink RX7 127 "LeastEdits$Net" "columns" "[I" ∈ UW := uw_at 43 (by decide +kernel) rfl
theorem wF_X3_24 : Cond.fieldLink RX3 24 "LeastEdits$Net" "kept" "[Z" ∈ UW := uw_at 44 (by decide +kernel) rfl
theorem wF_X5_78 : Cond.fieldLink RX5 78 "LeastEdits$Net" "kept" "[Z" ∈ UW := uw_at 45 (by decide +kernel) rfl
theorem wF_X7_152 : Cond.fieldLink RX7 152 "LeastEdits$Net" "kept" "[Z" ∈ UW := uw_at 46 (by decide +kernel) rfl
theorem wF_X3_28 : Cond.fieldLink RX3 28 "LeastEdits$Net" "own" "[I" ∈ UW := uw_at 47 (by decide +kernel) rfl
theorem wF_X5_68 : Cond.fieldLink RX5 68 "LeastEdits$Net" "own" "[I" ∈ UW := uw_at 48 (by decide +kernel) rfl
theorem wF_X3_31 : Cond.fieldLink RX3 31 "LeastEdits$Net" "nodes" "I" ∈ UW := uw_at 49 (by decide +kernel) rfl
theorem wF_X5_54 : Cond.fieldLink RX5 54 "LeastEdits$Net" "nodes" "I" ∈ UW := uw_at 50 (by decide +kernel) rfl
theorem wF_X7_99 : Cond.fieldLink RX7 99 "LeastEdits$Net" "nodes" "I" ∈ UW := uw_at 51 (by decide +kernel) rfl
theorem wF_X7_59 : Cond.fieldLink RX7 59 "LeastEdits$Net" "inputs" "I" ∈ UW := uw_at 52 (by decide +kernel) rfl
theorem wF_X3_35 : Cond.fieldLink RX3 35 "LeastEdits$Net" "inputs" "I" ∈ UW := uw_at 53 (by decide +kernel) rfl
theorem wF_X3_38 : Cond.fieldLink RX3 38 "LeastEdits$Net" "olds" "I" ∈ UW := uw_at 54 (by decide +kernel) rfl
theorem wF_X7_62 : Cond.fieldLink RX7 62 "LeastEdits$Net" "olds" "I" ∈ UW := uw_at 55 (by decide +kernel) rfl
theorem wF_X3_41 : Cond.fieldLink RX3 41 "LeastEdits$Net" "askeds" "I" ∈ UW := uw_at 56 (by decide +kernel) rfl
theorem wF_X7_65 : Cond.fieldLink RX7 65 "LeastEdits$Net" "askeds" "I" ∈ UW := uw_at 57 (by decide +kernel) rfl
theorem wF_X2_9 : Cond.fieldLink RX2 9 "LeastEdits$Goals" "mine" "[I" ∈ UW := uw_at 87 (by decide +kernel) rfl
theorem wF_X2_15 : Cond.fieldLink RX2 15 "LeastEdits$Goals" "due" "[I" ∈ UW := uw_at 88 (by decide +kernel) rfl
theorem wF_X2_18 : Cond.fieldLink RX2 18 "LeastEdits$Goals" "size" "I" ∈ UW := uw_at 89 (by decide +kernel) rfl
theorem wF_X7_117 : Cond.fieldLink RX7 117 "LeastEdits$Goals" "size" "I" ∈ UW := uw_at 90 (by decide +kernel) rfl
theorem wF_X0_9 : Cond.fieldLink RX0 9 "LeastEdits$Board" "nodeX" "[I" ∈ UW := uw_at 104 (by decide +kernel) rfl
theorem wF_X0_15 : Cond.fieldLink RX0 15 "LeastEdits$Board" "nodeY" "[I" ∈ UW := uw_at 105 (by decide +kernel) rfl
theorem wF_X0_18 : Cond.fieldLink RX0 18 "LeastEdits$Board" "spareX" "[I" ∈ UW := uw_at 106 (by decide +kernel) rfl
theorem wF_X0_21 : Cond.fieldLink RX0 21 "LeastEdits$Board" "spareY" "[I" ∈ UW := uw_at 107 (by decide +kernel) rfl
theorem wF_X6_36 : Cond.fieldLink RX6 36 "LeastEdits$Board" "spares" "I" ∈ UW := uw_at 108 (by decide +kernel) rfl
theorem wF_X0_24 : Cond.fieldLink RX0 24 "LeastEdits$Board" "spares" "I" ∈ UW := uw_at 109 (by decide +kernel) rfl
theorem wF_X7_166 : Cond.fieldLink RX7 166 "LeastEdits$Board" "spares" "I" ∈ UW := uw_at 110 (by decide +kernel) rfl
theorem wF_X1_7 : Cond.fieldLink RX1 7 "LeastEdits$Edit" "node" "I" ∈ UW := uw_at 135 (by decide +kernel) rfl
theorem wF_X4_22 : Cond.fieldLink RX4 22 "LeastEdits$Edit" "node" "I" ∈ UW := uw_at 136 (by decide +kernel) rfl
theorem wF_X6_23 : Cond.fieldLink RX6 23 "LeastEdits$Edit" "node" "I" ∈ UW := uw_at 137 (by decide +kernel) rfl
theorem wF_X3_59 : Cond.fieldLink RX3 59 "LeastEdits$Edit" "node" "I" ∈ UW := uw_at 138 (by decide +kernel) rfl
theorem wF_X7_193 : Cond.fieldLink RX7 193 "LeastEdits$Edit" "node" "I" ∈ UW := uw_at 139 (by decide +kernel) rfl
theorem wF_X1_13 : Cond.fieldLink RX1 13 "LeastEdits$Edit" "first" "I" ∈ UW := uw_at 140 (by decide +kernel) rfl
theorem wF_X3_64 : Cond.fieldLink RX3 64 "LeastEdits$Edit" "first" "I" ∈ UW := uw_at 141 (by decide +kernel) rfl
theorem wF_X7_198 : Cond.fieldLink RX7 198 "LeastEdits$Edit" "first" "I" ∈ UW := uw_at 142 (by decide +kernel) rfl
theorem wF_X1_16 : Cond.fieldLink RX1 16 "LeastEdits$Edit" "second" "I" ∈ UW := uw_at 143 (by decide +kernel) rfl
theorem wF_X3_66 : Cond.fieldLink RX3 66 "LeastEdits$Edit" "second" "I" ∈ UW := uw_at 144 (by decide +kernel) rfl
theorem wF_X7_201 : Cond.fieldLink RX7 201 "LeastEdits$Edit" "second" "I" ∈ UW := uw_at 145 (by decide +kernel) rfl
theorem wF_X5_9 : Cond.fieldLink RX5 9 "LeastEdits$Search" "net" "LLeastEdits$Net;" ∈ UW := uw_at 153 (by decide +kernel) rfl
theorem wF_X5_15 : Cond.fieldLink RX5 15 "LeastEdits$Search" "goals" "LLeastEdits$Goals;" ∈ UW := uw_at 154 (by decide +kernel) rfl
theorem wF_X5_21 : Cond.fieldLink RX5 21 "LeastEdits$Search" "edits" "[LLeastEdits$Edit;" ∈ UW := uw_at 155 (by decide +kernel) rfl
theorem wF_X7_179 : Cond.fieldLink RX7 179 "LeastEdits$Search" "edits" "[LLeastEdits$Edit;" ∈ UW := uw_at 156 (by decide +kernel) rfl
theorem wF_X5_26 : Cond.fieldLink RX5 26 "LeastEdits$Search" "trial" "[I" ∈ UW := uw_at 157 (by decide +kernel) rfl
theorem wF_X5_30 : Cond.fieldLink RX5 30 "LeastEdits$Search" "shown" "[I" ∈ UW := uw_at 158 (by decide +kernel) rfl
theorem wF_X6_9 : Cond.fieldLink RX6 9 "LeastEdits$Taking" "board" "LLeastEdits$Board;" ∈ UW := uw_at 176 (by decide +kernel) rfl
theorem wF_X6_15 : Cond.fieldLink RX6 15 "LeastEdits$Taking" "spareOf" "[I" ∈ UW := uw_at 177 (by decide +kernel) rfl
theorem wF_X7_204 : Cond.fieldLink RX7 204 "LeastEdits$Taking" "spareOf" "[I" ∈ UW := uw_at 178 (by decide +kernel) rfl
theorem wF_X6_19 : Cond.fieldLink RX6 19 "LeastEdits$Taking" "sum" "I" ∈ UW := uw_at 179 (by decide +kernel) rfl
theorem wF_X7_207 : Cond.fieldLink RX7 207 "LeastEdits$Taking" "sum" "I" ∈ UW := uw_at 180 (by decide +kernel) rfl
theorem wF_X4_11 : Cond.fieldLink RX4 11 "LeastEdits$Past" "before" "[LLeastEdits$Edit;" ∈ UW := uw_at 196 (by decide +kernel) rfl
theorem wF_X4_18 : Cond.fieldLink RX4 18 "LeastEdits$Past" "sizes" "[I" ∈ UW := uw_at 197 (by decide +kernel) rfl
theorem wF_X4_26 : Cond.fieldLink RX4 26 "LeastEdits$Past" "made" "I" ∈ UW := uw_at 198 (by decide +kernel) rfl
theorem wF_X7_210 : Cond.fieldLink RX7 210 "LeastEdits$Past" "made" "I" ∈ UW := uw_at 199 (by decide +kernel) rfl
theorem wF_X7_12 : Cond.fieldLink RX7 12 "LeastEdits" "net" "LLeastEdits$Net;" ∈ UW := uw_at 207 (by decide +kernel) rfl
theorem wF_X7_19 : Cond.fieldLink RX7 19 "LeastEdits" "goals" "LLeastEdits$Goals;" ∈ UW := uw_at 208 (by decide +kernel) rfl
theorem wF_X7_26 : Cond.fieldLink RX7 26 "LeastEdits" "board" "LLeastEdits$Board;" ∈ UW := uw_at 209 (by decide +kernel) rfl
theorem wF_X7_35 : Cond.fieldLink RX7 35 "LeastEdits" "search" "LLeastEdits$Search;" ∈ UW := uw_at 210 (by decide +kernel) rfl
theorem wF_X7_44 : Cond.fieldLink RX7 44 "LeastEdits" "taking" "LLeastEdits$Taking;" ∈ UW := uw_at 211 (by decide +kernel) rfl
theorem wF_X7_51 : Cond.fieldLink RX7 51 "LeastEdits" "past" "LLeastEdits$Past;" ∈ UW := uw_at 212 (by decide +kernel) rfl
theorem wF_X7_55 : Cond.fieldLink RX7 55 "LeastEdits" "ran" "I" ∈ UW := uw_at 213 (by decide +kernel) rfl
theorem wF_X8_72 : Cond.fieldLink RX8 72 "LeastEditsModel" "thrown" "I" ∈ UW := uw_at 672 (by decide +kernel) rfl
theorem wF_X8_76 : Cond.fieldLink RX8 76 "LeastEditsModel" "nodes" "I" ∈ UW := uw_at 673 (by decide +kernel) rfl
theorem wF_X8_7 : Cond.fieldLink RX8 7 "LeastEditsModel" "sorts" "[I" ∈ UW := uw_at 674 (by decide +kernel) rfl
theorem wF_X8_13 : Cond.fieldLink RX8 13 "LeastEditsModel" "ones" "[I" ∈ UW := uw_at 675 (by decide +kernel) rfl
theorem wF_X8_16 : Cond.fieldLink RX8 16 "LeastEditsModel" "twos" "[I" ∈ UW := uw_at 676 (by decide +kernel) rfl
theorem wF_X8_19 : Cond.fieldLink RX8 19 "LeastEditsModel" "tables" "[I" ∈ UW := uw_at 677 (by decide +kernel) rfl
theorem wF_X8_22 : Cond.fieldLink RX8 22 "LeastEditsModel" "kept" "[Z" ∈ UW := uw_at 678 (by decide +kernel) rfl
theorem wF_X8_26 : Cond.fieldLink RX8 26 "LeastEditsModel" "xs" "[J" ∈ UW := uw_at 679 (by decide +kernel) rfl
theorem wF_X8_30 : Cond.fieldLink RX8 30 "LeastEditsModel" "ys" "[J" ∈ UW := uw_at 680 (by decide +kernel) rfl
theorem wF_X8_102 : Cond.fieldLink RX8 102 "LeastEditsModel" "inputs" "I" ∈ UW := uw_at 681 (by decide +kernel) rfl
theorem wF_X8_105 : Cond.fieldLink RX8 105 "LeastEditsModel" "olds" "I" ∈ UW := uw_at 682 (by decide +kernel) rfl
theorem wF_X8_108 : Cond.fieldLink RX8 108 "LeastEditsModel" "askeds" "I" ∈ UW := uw_at 683 (by decide +kernel) rfl
theorem wF_X8_91 : Cond.fieldLink RX8 91 "LeastEditsModel" "outputs" "I" ∈ UW := uw_at 684 (by decide +kernel) rfl
theorem wF_X8_33 : Cond.fieldLink RX8 33 "LeastEditsModel" "mine" "[I" ∈ UW := uw_at 685 (by decide +kernel) rfl
theorem wF_X8_36 : Cond.fieldLink RX8 36 "LeastEditsModel" "due" "[I" ∈ UW := uw_at 686 (by decide +kernel) rfl
theorem wF_X8_136 : Cond.fieldLink RX8 136 "LeastEditsModel" "spares" "I" ∈ UW := uw_at 687 (by decide +kernel) rfl
theorem wF_X8_39 : Cond.fieldLink RX8 39 "LeastEditsModel" "spareX" "[J" ∈ UW := uw_at 688 (by decide +kernel) rfl
theorem wF_X8_42 : Cond.fieldLink RX8 42 "LeastEditsModel" "spareY" "[J" ∈ UW := uw_at 689 (by decide +kernel) rfl
theorem wF_X8_98 : Cond.fieldLink RX8 98 "LeastEditsModel" "found" "Z" ∈ UW := uw_at 690 (by decide +kernel) rfl
theorem wF_X8_157 : Cond.fieldLink RX8 157 "LeastEditsModel" "edits" "I" ∈ UW := uw_at 691 (by decide +kernel) rfl
theorem wF_X8_45 : Cond.fieldLink RX8 45 "LeastEditsModel" "editNode" "[I" ∈ UW := uw_at 692 (by decide +kernel) rfl
theorem wF_X8_48 : Cond.fieldLink RX8 48 "LeastEditsModel" "editOne" "[I" ∈ UW := uw_at 693 (by decide +kernel) rfl
theorem wF_X8_51 : Cond.fieldLink RX8 51 "LeastEditsModel" "editTwo" "[I" ∈ UW := uw_at 694 (by decide +kernel) rfl
theorem wF_X8_167 : Cond.fieldLink RX8 167 "LeastEditsModel" "takes" "Z" ∈ UW := uw_at 695 (by decide +kernel) rfl
theorem wF_X8_54 : Cond.fieldLink RX8 54 "LeastEditsModel" "spareOf" "[I" ∈ UW := uw_at 696 (by decide +kernel) rfl
theorem wF_X8_170 : Cond.fieldLink RX8 170 "LeastEditsModel" "sum" "J" ∈ UW := uw_at 697 (by decide +kernel) rfl
theorem wF_X8_178 : Cond.fieldLink RX8 178 "LeastEditsModel" "made" "I" ∈ UW := uw_at 698 (by decide +kernel) rfl
theorem wF_X8_57 : Cond.fieldLink RX8 57 "LeastEditsModel" "madeCount" "[I" ∈ UW := uw_at 699 (by decide +kernel) rfl
theorem wF_X8_60 : Cond.fieldLink RX8 60 "LeastEditsModel" "madeNode" "[I" ∈ UW := uw_at 700 (by decide +kernel) rfl
theorem wF_X8_63 : Cond.fieldLink RX8 63 "LeastEditsModel" "madeOne" "[I" ∈ UW := uw_at 701 (by decide +kernel) rfl
theorem wF_X8_66 : Cond.fieldLink RX8 66 "LeastEditsModel" "madeTwo" "[I" ∈ UW := uw_at 702 (by decide +kernel) rfl
theorem wL_L_72 : Cond.methodLink RL 72 yX7_init ∈ UW := uw_at 20 (by decide +kernel) rfl
theorem wL_X7_3 : Cond.methodLink RX7 3 objectInit ∈ UW := uw_at 23 (by decide +kernel) rfl
theorem wL_X7_11 : Cond.methodLink RX7 11 yX3_init ∈ UW := uw_at 28 (by decide +kernel) rfl
theorem wL_X3_3 : Cond.methodLink RX3 3 objectInit ∈ UW := uw_at 31 (by decide +kernel) rfl
theorem wL_X7_18 : Cond.methodLink RX7 18 yX2_init ∈ UW := uw_at 83 (by decide +kernel) rfl
theorem wL_X2_3 : Cond.methodLink RX2 3 objectInit ∈ UW := uw_at 86 (by decide +kernel) rfl
theorem wL_X7_25 : Cond.methodLink RX7 25 yX0_init ∈ UW := uw_at 100 (by decide +kernel) rfl
theorem wL_X0_3 : Cond.methodLink RX0 3 objectInit ∈ UW := uw_at 103 (by decide +kernel) rfl
theorem wL_X7_32 : Cond.methodLink RX7 32 yX5_init ∈ UW := uw_at 124 (by decide +kernel) rfl
theorem wL_X5_3 : Cond.methodLink RX5 3 objectInit ∈ UW := uw_at 127 (by decide +kernel) rfl
theorem wL_X1_1 : Cond.methodLink RX1 1 objectInit ∈ UW := uw_at 134 (by decide +kernel) rfl
theorem wL_X7_41 : Cond.methodLink RX7 41 yX6_init ∈ UW := uw_at 172 (by decide +kernel) rfl
theorem wL_X6_3 : Cond.methodLink RX6 3 objectInit ∈ UW := uw_at 175 (by decide +kernel) rfl
theorem wL_X7_50 : Cond.methodLink RX7 50 yX4_init ∈ UW := uw_at 190 (by decide +kernel) rfl
theorem wL_X4_3 : Cond.methodLink RX4 3 objectInit ∈ UW := uw_at 193 (by decide +kernel) rfl
theorem wL_L_98 : Cond.methodLink RL 98 yX7_differing ∈ UW := uw_at 229 (by decide +kernel) rfl
theorem wL_X7_135 : Cond.methodLink RX7 135 yX2_difference ∈ UW := uw_at 233 (by decide +kernel) rfl
theorem wL_L_138 : Cond.methodLink RL 138 yX7_undo ∈ UW := uw_at 240 (by decide +kernel) rfl
theorem wL_X7_226 : Cond.methodLink RX7 226 yX4_takeBackLast ∈ UW := uw_at 244 (by decide +kernel) rfl
theorem wL_X4_41 : Cond.methodLink RX4 41 yX3_rewire ∈ UW := uw_at 248 (by decide +kernel) rfl
theorem wL_X7_223 : Cond.methodLink RX7 223 yX3_refreshOldColumns ∈ UW := uw_at 252 (by decide +kernel) rfl
theorem wL_X3_68 : Cond.methodLink RX3 68 yX3_firstOld ∈ UW := uw_at 256 (by decide +kernel) rfl
theorem wL_X3_44 : Cond.methodLink RX3 44 yX3_owned ∈ UW := uw_at 260 (by decide +kernel) rfl
theorem wL_L_149 : Cond.methodLink RL 149 yX7_clear ∈ UW := uw_at 265 (by decide +kernel) rfl
theorem wL_X7_239 : Cond.methodLink RX7 239 yX3_reset ∈ UW := uw_at 269 (by decide +kernel) rfl
theorem wL_L_76 : Cond.methodLink RL 76 yL_input ∈ UW := uw_at 273 (by decide +kernel) rfl
theorem wL_L_7 : Cond.methodLink RL 7 yX7_input ∈ UW := uw_at 277 (by decide +kernel) rfl
theorem wL_X7_75 : Cond.methodLink RX7 75 yX3_addInput ∈ UW := uw_at 349 (by decide +kernel) rfl
theorem wL_L_85 : Cond.methodLink RL 85 yL_old ∈ UW := uw_at 355 (by decide +kernel) rfl
theorem wL_L_15 : Cond.methodLink RL 15 yX7_old ∈ UW := uw_at 360 (by decide +kernel) rfl
theorem wL_X7_79 : Cond.methodLink RX7 79 yX3_hasLiteral ∈ UW := uw_at 364 (by decide +kernel) rfl
theorem wL_X7_90 : Cond.methodLink RX7 90 yX3_isOf ∈ UW := uw_at 385 (by decide +kernel) rfl
theorem wL_X7_102 : Cond.methodLink RX7 102 yX0_putAtOrigin ∈ UW := uw_at 405 (by decide +kernel) rfl
theorem wL_X7_106 : Cond.methodLink RX7 106 yX3_addOld ∈ UW := uw_at 409 (by decide +kernel) rfl
theorem wL_X3_51 : Cond.methodLink RX3 51 yX3_addAnd ∈ UW := uw_at 413 (by decide +kernel) rfl
theorem wL_L_89 : Cond.methodLink RL 89 yL_asked ∈ UW := uw_at 417 (by decide +kernel) rfl
theorem wL_L_23 : Cond.methodLink RL 23 yX7_asked ∈ UW := uw_at 420 (by decide +kernel) rfl
theorem wL_X7_114 : Cond.methodLink RX7 114 yX3_addAsked ∈ UW := uw_at 426 (by decide +kernel) rfl
theorem wL_L_92 : Cond.methodLink RL 92 yL_output ∈ UW := uw_at 430 (by decide +kernel) rfl
theorem wL_L_26 : Cond.methodLink RL 26 yX7_output ∈ UW := uw_at 433 (by decide +kernel) rfl
theorem wL_X7_124 : Cond.methodLink RX7 124 yX2_add ∈ UW := uw_at 439 (by decide +kernel) rfl
theorem wL_L_95 : Cond.methodLink RL 95 yL_value ∈ UW := uw_at 443 (by decide +kernel) rfl
theorem wL_L_29 : Cond.methodLink RL 29 yX7_value ∈ UW := uw_at 446 (by decide +kernel) rfl
theorem wL_X7_131 : Cond.methodLink RX7 131 yX7_column ∈ UW := uw_at 450 (by decide +kernel) rfl
theorem wL_L_102 : Cond.methodLink RL 102 yL_witness ∈ UW := uw_at 451 (by decide +kernel) rfl
theorem wL_L_32 : Cond.methodLink RL 32 yX7_witness ∈ UW := uw_at 454 (by decide +kernel) rfl
theorem wL_X7_140 : Cond.methodLink RX7 140 yX7_leastBit ∈ UW := uw_at 459 (by decide +kernel) rfl
theorem wL_L_106 : Cond.methodLink RL 106 yL_matched ∈ UW := uw_at 462 (by decide +kernel) rfl
theorem wL_L_36 : Cond.methodLink RL 36 yX7_matched ∈ UW := uw_at 465 (by decide +kernel) rfl
theorem wL_X7_144 : Cond.methodLink RX7 144 yX3_leastOwnLiteralOf ∈ UW := uw_at 469 (by decide +kernel) rfl
theorem wL_X3_71 : Cond.methodLink RX3 71 yX3_ownLiteral ∈ UW := uw_at 473 (by decide +kernel) rfl
theorem wL_L_109 : Cond.methodLink RL 109 yL_keep ∈ UW := uw_at 477 (by decide +kernel) rfl
theorem wL_L_39 : Cond.methodLink RL 39 yX7_keep ∈ UW := uw_at 480 (by decide +kernel) rfl
theorem wL_X7_147 : Cond.methodLink RX7 147 yX3_isOldNode ∈ UW := uw_at 484 (by decide +kernel) rfl
theorem wL_L_115 : Cond.methodLink RL 115 yL_place ∈ UW := uw_at 489 (by decide +kernel) rfl
theorem wL_L_43 : Cond.methodLink RL 43 yX7_place ∈ UW := uw_at 492 (by decide +kernel) rfl
theorem wL_X7_156 : Cond.methodLink RX7 156 yX7_isTooFar ∈ UW := uw_at 496 (by decide +kernel) rfl
theorem wL_X7_162 : Cond.methodLink RX7 162 yX0_moveNode ∈ UW := uw_at 502 (by decide +kernel) rfl
theorem wL_L_119 : Cond.methodLink RL 119 yL_spare ∈ UW := uw_at 506 (by decide +kernel) rfl
theorem wL_L_47 : Cond.methodLink RL 47 yX7_spare ∈ UW := uw_at 509 (by decide +kernel) rfl
theorem wL_X7_171 : Cond.methodLink RX7 171 yX0_addSpare ∈ UW := uw_at 514 (by decide +kernel) rfl
theorem wL_L_123 : Cond.methodLink RL 123 yL_run ∈ UW := uw_at 518 (by decide +kernel) rfl
theorem wL_L_51 : Cond.methodLink RL 51 yX7_run ∈ UW := uw_at 521 (by decide +kernel) rfl
theorem wL_X7_176 : Cond.methodLink RX7 176 yX5_fewestEdits ∈ UW := uw_at 526 (by decide +kernel) rfl
theorem wL_X5_33 : Cond.methodLink RX5 33 yX5_showAsItIs ∈ UW := uw_at 530 (by decide +kernel) rfl
theorem wL_X5_64 : Cond.methodLink RX5 64 yX3_owned ∈ UW := uw_at 537 (by decide +kernel) rfl
theorem wL_X5_71 : Cond.methodLink RX5 71 yX5_show ∈ UW := uw_at 538 (by decide +kernel) rfl
theorem wL_X5_36 : Cond.methodLink RX5 36 yX2_agreement ∈ UW := uw_at 542 (by decide +kernel) rfl
theorem wL_X2_26 : Cond.methodLink RX2 26 yX2_difference ∈ UW := uw_at 546 (by decide +kernel) rfl
theorem wL_X5_42 : Cond.methodLink RX5 42 yX5_findOne ∈ UW := uw_at 547 (by decide +kernel) rfl
theorem wL_X5_75 : Cond.methodLink RX5 75 yX3_firstOld ∈ UW := uw_at 551 (by decide +kernel) rfl
theorem wL_X5_82 : Cond.methodLink RX5 82 yX5_agreementWith ∈ UW := uw_at 552 (by decide +kernel) rfl
theorem wL_X5_94 : Cond.methodLink RX5 94 yX5_setAndSpread ∈ UW := uw_at 556 (by decide +kernel) rfl
theorem wL_X5_86 : Cond.methodLink RX5 86 yX5_findLiterals ∈ UW := uw_at 561 (by decide +kernel) rfl
theorem wL_X5_106 : Cond.methodLink RX5 106 yX5_findPartner ∈ UW := uw_at 565 (by decide +kernel) rfl
theorem wL_X5_98 : Cond.methodLink RX5 98 yX3_ownLiteral ∈ UW := uw_at 569 (by decide +kernel) rfl
theorem wL_X5_102 : Cond.methodLink RX5 102 yX1_put ∈ UW := uw_at 570 (by decide +kernel) rfl
theorem wL_X5_46 : Cond.methodLink RX5 46 yX5_findTwo ∈ UW := uw_at 574 (by decide +kernel) rfl
theorem wL_X5_90 : Cond.methodLink RX5 90 yX5_findPair ∈ UW := uw_at 578 (by decide +kernel) rfl
theorem wL_X7_183 : Cond.methodLink RX7 183 yX6_take ∈ UW := uw_at 582 (by decide +kernel) rfl
theorem wL_X6_28 : Cond.methodLink RX6 28 yX6_takeForOne ∈ UW := uw_at 586 (by decide +kernel) rfl
theorem wL_X6_41 : Cond.methodLink RX6 41 yX0_distance ∈ UW := uw_at 590 (by decide +kernel) rfl
theorem wL_X0_28 : Cond.methodLink RX0 28 yJ9_abs_0f7a4 ∈ UW := uw_at 594 (by decide +kernel) rfl
theorem wL_X6_45 : Cond.methodLink RX6 45 yX6_offer ∈ UW := uw_at 597 (by decide +kernel) rfl
theorem wL_X6_32 : Cond.methodLink RX6 32 yX6_takeForTwo ∈ UW := uw_at 601 (by decide +kernel) rfl
theorem wL_L_126 : Cond.methodLink RL 126 yL_edit ∈ UW := uw_at 605 (by decide +kernel) rfl
theorem wL_L_54 : Cond.methodLink RL 54 yX7_edit ∈ UW := uw_at 608 (by decide +kernel) rfl
theorem wL_L_129 : Cond.methodLink RL 129 yL_used ∈ UW := uw_at 615 (by decide +kernel) rfl
theorem wL_L_57 : Cond.methodLink RL 57 yX7_used ∈ UW := uw_at 618 (by decide +kernel) rfl
theorem wL_L_132 : Cond.methodLink RL 132 yL_length ∈ UW := uw_at 622 (by decide +kernel) rfl
theorem wL_L_60 : Cond.methodLink RL 60 yX7_length ∈ UW := uw_at 625 (by decide +kernel) rfl
theorem wL_L_135 : Cond.methodLink RL 135 yL_make ∈ UW := uw_at 629 (by decide +kernel) rfl
theorem wL_L_63 : Cond.methodLink RL 63 yX7_make ∈ UW := uw_at 632 (by decide +kernel) rfl
theorem wL_X7_215 : Cond.methodLink RX7 215 yX4_remember ∈ UW := uw_at 637 (by decide +kernel) rfl
theorem wL_X4_37 : Cond.methodLink RX4 37 yX1_put ∈ UW := uw_at 641 (by decide +kernel) rfl
theorem wL_X7_219 : Cond.methodLink RX7 219 yX3_rewire ∈ UW := uw_at 642 (by decide +kernel) rfl
theorem wL_L_143 : Cond.methodLink RL 143 yL_literal ∈ UW := uw_at 643 (by decide +kernel) rfl
theorem wL_L_66 : Cond.methodLink RL 66 yX7_literal ∈ UW := uw_at 646 (by decide +kernel) rfl
theorem wL_L_146 : Cond.methodLink RL 146 yL_count ∈ UW := uw_at 651 (by decide +kernel) rfl
theorem wL_L_69 : Cond.methodLink RL 69 yX7_count ∈ UW := uw_at 654 (by decide +kernel) rfl
theorem wL_X7_236 : Cond.methodLink RX7 236 yX3_keptNodes ∈ UW := uw_at 658 (by decide +kernel) rfl
theorem wL_L_75 : Cond.methodLink RL 75 yX8_init ∈ UW := uw_at 664 (by decide +kernel) rfl
theorem wL_X8_1 : Cond.methodLink RX8 1 objectInit ∈ UW := uw_at 667 (by decide +kernel) rfl
theorem wL_X8_69 : Cond.methodLink RX8 69 yX8_clear ∈ UW := uw_at 668 (by decide +kernel) rfl
theorem wL_L_82 : Cond.methodLink RL 82 yX8_thrown ∈ UW := uw_at 767 (by decide +kernel) rfl
theorem wL_L_81 : Cond.methodLink RL 81 yX8_input ∈ UW := uw_at 771 (by decide +kernel) rfl
theorem wL_X8_111 : Cond.methodLink RX8 111 yX8_put ∈ UW := uw_at 775 (by decide +kernel) rfl
theorem wL_X8_87 : Cond.methodLink RX8 87 yX8_work ∈ UW := uw_at 779 (by decide +kernel) rfl
theorem wL_X8_83 : Cond.methodLink RX8 83 yX8_table ∈ UW := uw_at 783 (by decide +kernel) rfl
theorem wL_L_88 : Cond.methodLink RL 88 yX8_old ∈ UW := uw_at 787 (by decide +kernel) rfl
theorem wL_X8_115 : Cond.methodLink RX8 115 yX8_isLiteral ∈ UW := uw_at 791 (by decide +kernel) rfl
theorem wL_X8_79 : Cond.methodLink RX8 79 yX8_isIn ∈ UW := uw_at 795 (by decide +kernel) rfl
theorem wL_X8_118 : Cond.methodLink RX8 118 yX8_isOf ∈ UW := uw_at 798 (by decide +kernel) rfl
theorem wL_L_91 : Cond.methodLink RL 91 yX8_asked ∈ UW := uw_at 802 (by decide +kernel) rfl
theorem wL_L_94 : Cond.methodLink RL 94 yX8_output ∈ UW := uw_at 806 (by decide +kernel) rfl
theorem wL_L_97 : Cond.methodLink RL 97 yX8_value ∈ UW := uw_at 810 (by decide +kernel) rfl
theorem wL_L_101 : Cond.methodLink RL 101 yX8_differing ∈ UW := uw_at 814 (by decide +kernel) rfl
theorem wL_X8_121 : Cond.methodLink RX8 121 yX8_apart ∈ UW := uw_at 818 (by decide +kernel) rfl
theorem wL_X8_94 : Cond.methodLink RX8 94 yX8_isApart ∈ UW := uw_at 822 (by decide +kernel) rfl
theorem wL_L_105 : Cond.methodLink RL 105 yX8_witness ∈ UW := uw_at 826 (by decide +kernel) rfl
theorem wL_L_108 : Cond.methodLink RL 108 yX8_matched ∈ UW := uw_at 830 (by decide +kernel) rfl
theorem wL_L_112 : Cond.methodLink RL 112 yX8_keep ∈ UW := uw_at 834 (by decide +kernel) rfl
theorem wL_X8_125 : Cond.methodLink RX8 125 yX8_isOld ∈ UW := uw_at 838 (by decide +kernel) rfl
theorem wL_L_118 : Cond.methodLink RL 118 yX8_place ∈ UW := uw_at 842 (by decide +kernel) rfl
theorem wL_X8_132 : Cond.methodLink RX8 132 yX8_isNear ∈ UW := uw_at 846 (by decide +kernel) rfl
theorem wL_L_122 : Cond.methodLink RL 122 yX8_spare ∈ UW := uw_at 851 (by decide +kernel) rfl
theorem wL_L_125 : Cond.methodLink RL 125 yX8_run ∈ UW := uw_at 855 (by decide +kernel) rfl
theorem wL_X8_154 : Cond.methodLink RX8 154 yX8_search ∈ UW := uw_at 859 (by decide +kernel) rfl
theorem wL_X8_148 : Cond.methodLink RX8 148 yX8_isFree ∈ UW := uw_at 863 (by decide +kernel) rfl
theorem wL_X8_151 : Cond.methodLink RX8 151 yX8_tryAt ∈ UW := uw_at 867 (by decide +kernel) rfl
theorem wL_X8_139 : Cond.methodLink RX8 139 yX8_mayBe ∈ UW := uw_at 871 (by decide +kernel) rfl
theorem wL_X8_142 : Cond.methodLink RX8 142 yX8_workOlds ∈ UW := uw_at 875 (by decide +kernel) rfl
theorem wL_X8_145 : Cond.methodLink RX8 145 yX8_trySecond ∈ UW := uw_at 879 (by decide +kernel) rfl
theorem wL_X8_160 : Cond.methodLink RX8 160 yX8_take ∈ UW := uw_at 883 (by decide +kernel) rfl
theorem wL_X8_174 : Cond.methodLink RX8 174 yX8_far ∈ UW := uw_at 887 (by decide +kernel) rfl
theorem wL_X8_163 : Cond.methodLink RX8 163 yX8_size ∈ UW := uw_at 891 (by decide +kernel) rfl
theorem wL_L_128 : Cond.methodLink RL 128 yX8_edit ∈ UW := uw_at 894 (by decide +kernel) rfl
theorem wL_L_131 : Cond.methodLink RL 131 yX8_used ∈ UW := uw_at 898 (by decide +kernel) rfl
theorem wL_L_134 : Cond.methodLink RL 134 yX8_length ∈ UW := uw_at 902 (by decide +kernel) rfl
theorem wL_L_137 : Cond.methodLink RL 137 yX8_make ∈ UW := uw_at 906 (by decide +kernel) rfl
theorem wL_L_142 : Cond.methodLink RL 142 yX8_undo ∈ UW := uw_at 910 (by decide +kernel) rfl
theorem wL_L_145 : Cond.methodLink RL 145 yX8_literal ∈ UW := uw_at 914 (by decide +kernel) rfl
theorem wL_L_148 : Cond.methodLink RL 148 yX8_count ∈ UW := uw_at 918 (by decide +kernel) rfl
theorem wL_L_152 : Cond.methodLink RL 152 yX8_clear ∈ UW := uw_at 922 (by decide +kernel) rfl
theorem wC_L_8 : Cond.classLink RL 8 "LeastEdits" ∈ UW := uw_at 18 (by decide +kernel) rfl
theorem wC_X7_9 : Cond.classLink RX7 9 "LeastEdits$Net" ∈ UW := uw_at 26 (by decide +kernel) rfl
theorem wC_X7_16 : Cond.classLink RX7 16 "LeastEdits$Goals" ∈ UW := uw_at 81 (by decide +kernel) rfl
theorem wC_X7_23 : Cond.classLink RX7 23 "LeastEdits$Board" ∈ UW := uw_at 98 (by decide +kernel) rfl
theorem wC_X7_30 : Cond.classLink RX7 30 "LeastEdits$Search" ∈ UW := uw_at 122 (by decide +kernel) rfl
theorem wC_X5_19 : Cond.classLink RX5 19 "LeastEdits$Edit" ∈ UW := uw_at 128 (by decide +kernel) rfl
theorem wC_X7_39 : Cond.classLink RX7 39 "LeastEdits$Taking" ∈ UW := uw_at 170 (by decide +kernel) rfl
theorem wC_X7_48 : Cond.classLink RX7 48 "LeastEdits$Past" ∈ UW := uw_at 188 (by decide +kernel) rfl
theorem wC_X4_9 : Cond.classLink RX4 9 "LeastEdits$Edit" ∈ UW := uw_at 194 (by decide +kernel) rfl
theorem wC_L_13 : Cond.classLink RL 13 "java/lang/IllegalStateException" ∈ UW := uw_at 276 (by decide +kernel) rfl
theorem wC_X7_68 : Cond.classLink RX7 68 "java/lang/IllegalStateException" ∈ UW := uw_at 281 (by decide +kernel) rfl
theorem wC_L_19 : Cond.classLink RL 19 "java/lang/IndexOutOfBoundsException" ∈ UW := uw_at 358 (by decide +kernel) rfl
theorem wC_L_21 : Cond.classLink RL 21 "java/lang/IllegalArgumentException" ∈ UW := uw_at 359 (by decide +kernel) rfl
theorem wC_X7_83 : Cond.classLink RX7 83 "java/lang/IndexOutOfBoundsException" ∈ UW := uw_at 368 (by decide +kernel) rfl
theorem wC_X7_94 : Cond.classLink RX7 94 "java/lang/IllegalArgumentException" ∈ UW := uw_at 389 (by decide +kernel) rfl
theorem wC_L_73 : Cond.classLink RL 73 "LeastEditsModel" ∈ UW := uw_at 662 (by decide +kernel) rfl
theorem wK_X7_242 : Cond.constantLong RX7 242 (-1000) ∈ UW := uw_at 499 (by decide +kernel) rfl
theorem wK_X7_244 : Cond.constantLong RX7 244 (1000) ∈ UW := uw_at 500 (by decide +kernel) rfl
theorem wK_X8_128 : Cond.constantLong RX8 128 (-1000) ∈ UW := uw_at 849 (by decide +kernel) rfl
theorem wK_X8_130 : Cond.constantLong RX8 130 (1000) ∈ UW := uw_at 850 (by decide +kernel) rfl
theorem wK_L_113 : Cond.constantLong RL 113 (4294967295) ∈ UW := uw_at 923 (by decide +kernel) rfl
theorem wI_L : Cond.initialized "LeastEditsLaw" ∈ UW := uw_at 0 (by decide +kernel) rfl
theorem wI_X7 : Cond.initialized "LeastEdits" ∈ UW := uw_at 1 (by decide +kernel) rfl
theorem wI_X3 : Cond.initialized "LeastEdits$Net" ∈ UW := uw_at 2 (by decide +kernel) rfl
theorem wI_X2 : Cond.initialized "LeastEdits$Goals" ∈ UW := uw_at 3 (by decide +kernel) rfl
theorem wI_X0 : Cond.initialized "LeastEdits$Board" ∈ UW := uw_at 4 (by decide +kernel) rfl
theorem wI_X5 : Cond.initialized "LeastEdits$Search" ∈ UW := uw_at 5 (by decide +kernel) rfl
theorem wI_X1 : Cond.initialized "LeastEdits$Edit" ∈ UW := uw_at 6 (by decide +kernel) rfl
theorem wI_X6 : Cond.initialized "LeastEdits$Taking" ∈ UW := uw_at 7 (by decide +kernel) rfl
theorem wI_X4 : Cond.initialized "LeastEdits$Past" ∈ UW := uw_at 8 (by decide +kernel) rfl
theorem wI_X8 : Cond.initialized "LeastEditsModel" ∈ UW := uw_at 9 (by decide +kernel) rfl
theorem wI_Throwable : Cond.initialized "java/lang/Throwable" ∈ UW := uw_at 10 (by decide +kernel) rfl
theorem wI_Exception : Cond.initialized "java/lang/Exception" ∈ UW := uw_at 11 (by decide +kernel) rfl
theorem wI_RuntimeException : Cond.initialized "java/lang/RuntimeException" ∈ UW := uw_at 12 (by decide +kernel) rfl
theorem wI_IllegalStateException : Cond.initialized "java/lang/IllegalStateException" ∈ UW := uw_at 13 (by decide +kernel) rfl
theorem wI_IndexOutOfBoundsException : Cond.initialized "java/lang/IndexOutOfBoundsException" ∈ UW := uw_at 14 (by decide +kernel) rfl
theorem wI_IllegalArgumentException : Cond.initialized "java/lang/IllegalArgumentException" ∈ UW := uw_at 15 (by decide +kernel) rfl
theorem wI_J10 : Cond.initialized "java/lang/System" ∈ UW := uw_at 16 (by decide +kernel) rfl
theorem wI_J9 : Cond.initialized "java/lang/Math" ∈ UW := uw_at 17 (by decide +kernel) rfl
theorem wN_X7 : Cond.instantiable "LeastEdits" 7 ∈ UW := uw_at 19 (by decide +kernel) rfl
theorem wO_inst : Cond.instanceMethod objectInit ∈ UW := uw_at 24 (by decide +kernel) rfl
theorem wO_code : Cond.code objectInit ⟨#[0xb1]⟩ 1 none ∈ UW := uw_at 25 (by decide +kernel) rfl
theorem wN_X3 : Cond.instantiable "LeastEdits$Net" 10 ∈ UW := uw_at 27 (by decide +kernel) rfl
theorem wA_int : Cond.arrayClass .int ∈ UW := uw_at 79 (by decide +kernel) rfl
theorem wA_boolean : Cond.arrayClass .boolean ∈ UW := uw_at 80 (by decide +kernel) rfl
theorem wN_X2 : Cond.instantiable "LeastEdits$Goals" 3 ∈ UW := uw_at 82 (by decide +kernel) rfl
theorem wN_X0 : Cond.instantiable "LeastEdits$Board" 5 ∈ UW := uw_at 99 (by decide +kernel) rfl
theorem wN_X5 : Cond.instantiable "LeastEdits$Search" 5 ∈ UW := uw_at 123 (by decide +kernel) rfl
theorem wN_X1 : Cond.instantiable "LeastEdits$Edit" 3 ∈ UW := uw_at 130 (by decide +kernel) rfl
theorem wN_X6 : Cond.instantiable "LeastEdits$Taking" 3 ∈ UW := uw_at 171 (by decide +kernel) rfl
theorem wN_X4 : Cond.instantiable "LeastEdits$Past" 3 ∈ UW := uw_at 189 (by decide +kernel) rfl
theorem wN_IllegalStateException : Cond.instantiable "java/lang/IllegalStateException" 6 ∈ UW := uw_at 282 (by decide +kernel) rfl
theorem wN_Throwable : Cond.instantiable "java/lang/Throwable" 6 ∈ UW := uw_at 320 (by decide +kernel) rfl
theorem wA_byte : Cond.arrayClass .byte ∈ UW := uw_at 348 (by decide +kernel) rfl
theorem wN_IndexOutOfBoundsException : Cond.instantiable "java/lang/IndexOutOfBoundsException" 6 ∈ UW := uw_at 369 (by decide +kernel) rfl
theorem wN_IllegalArgumentException : Cond.instantiable "java/lang/IllegalArgumentException" 6 ∈ UW := uw_at 390 (by decide +kernel) rfl
theorem wN_X8 : Cond.instantiable "LeastEditsModel" 31 ∈ UW := uw_at 663 (by decide +kernel) rfl
theorem wA_long : Cond.arrayClass .long ∈ UW := uw_at 766 (by decide +kernel) rfl
theorem inX_X0 : ∀ w ∈ u_ws RX0 TX0 5, w ∈ UW := by
  intro w hw
  obtain ⟨k, hk, rfl⟩ := List.mem_map.mp hw
  have hk := List.mem_range.mp hk
  match k, hk with
  | 0, _ => exact (uw_at (w := Cond.laysFinal "LeastEdits$Board" "LeastEdits$Board" "nodeX" "[I") 111 (by decide +kernel) rfl)
  | 1, _ => exact (uw_at (w := Cond.laysFinal "LeastEdits$Board" "LeastEdits$Board" "nodeY" "[I") 113 (by decide +kernel) rfl)
  | 2, _ => exact (uw_at (w := Cond.laysFinal "LeastEdits$Board" "LeastEdits$Board" "spareX" "[I") 115 (by decide +kernel) rfl)
  | 3, _ => exact (uw_at (w := Cond.laysFinal "LeastEdits$Board" "LeastEdits$Board" "spareY" "[I") 117 (by decide +kernel) rfl)
  | 4, _ => exact (uw_at (w := Cond.lays "LeastEdits$Board" "LeastEdits$Board" "spares" "I") 119 (by decide +kernel) rfl)
  | k + 5, h => exact absurd h (by omega)
theorem inX_X1 : ∀ w ∈ u_ws RX1 TX1 3, w ∈ UW := by
  intro w hw
  obtain ⟨k, hk, rfl⟩ := List.mem_map.mp hw
  have hk := List.mem_range.mp hk
  match k, hk with
  | 0, _ => exact (uw_at (w := Cond.lays "LeastEdits$Edit" "LeastEdits$Edit" "node" "I") 146 (by decide +kernel) rfl)
  | 1, _ => exact (uw_at (w := Cond.lays "LeastEdits$Edit" "LeastEdits$Edit" "first" "I") 148 (by decide +kernel) rfl)
  | 2, _ => exact (uw_at (w := Cond.lays "LeastEdits$Edit" "LeastEdits$Edit" "second" "I") 150 (by decide +kernel) rfl)
  | k + 3, h => exact absurd h (by omega)
theorem inX_X2 : ∀ w ∈ u_ws RX2 TX2 3, w ∈ UW := by
  intro w hw
  obtain ⟨k, hk, rfl⟩ := List.mem_map.mp hw
  have hk := List.mem_range.mp hk
  match k, hk with
  | 0, _ => exact (uw_at (w := Cond.laysFinal "LeastEdits$Goals" "LeastEdits$Goals" "mine" "[I") 91 (by decide +kernel) rfl)
  | 1, _ => exact (uw_at (w := Cond.laysFinal "LeastEdits$Goals" "LeastEdits$Goals" "due" "[I") 93 (by decide +kernel) rfl)
  | 2, _ => exact (uw_at (w := Cond.lays "LeastEdits$Goals" "LeastEdits$Goals" "size" "I") 95 (by decide +kernel) rfl)
  | k + 3, h => exact absurd h (by omega)
theorem inX_X3 : ∀ w ∈ u_ws RX3 TX3 10, w ∈ UW := by
  intro w hw
  obtain ⟨k, hk, rfl⟩ := List.mem_map.mp hw
  have hk := List.mem_range.mp hk
  match k, hk with
  | 0, _ => exact (uw_at (w := Cond.laysFinal "LeastEdits$Net" "LeastEdits$Net" "kind" "[I") 58 (by decide +kernel) rfl)
  | 1, _ => exact (uw_at (w := Cond.laysFinal "LeastEdits$Net" "LeastEdits$Net" "first" "[I") 60 (by decide +kernel) rfl)
  | 2, _ => exact (uw_at (w := Cond.laysFinal "LeastEdits$Net" "LeastEdits$Net" "second" "[I") 62 (by decide +kernel) rfl)
  | 3, _ => exact (uw_at (w := Cond.laysFinal "LeastEdits$Net" "LeastEdits$Net" "columns" "[I") 64 (by decide +kernel) rfl)
  | 4, _ => exact (uw_at (w := Cond.laysFinal "LeastEdits$Net" "LeastEdits$Net" "kept" "[Z") 66 (by decide +kernel) rfl)
  | 5, _ => exact (uw_at (w := Cond.laysFinal "LeastEdits$Net" "LeastEdits$Net" "own" "[I") 68 (by decide +kernel) rfl)
  | 6, _ => exact (uw_at (w := Cond.lays "LeastEdits$Net" "LeastEdits$Net" "nodes" "I") 70 (by decide +kernel) rfl)
  | 7, _ => exact (uw_at (w := Cond.lays "LeastEdits$Net" "LeastEdits$Net" "inputs" "I") 72 (by decide +kernel) rfl)
  | 8, _ => exact (uw_at (w := Cond.lays "LeastEdits$Net" "LeastEdits$Net" "olds" "I") 74 (by decide +kernel) rfl)
  | 9, _ => exact (uw_at (w := Cond.lays "LeastEdits$Net" "LeastEdits$Net" "askeds" "I") 76 (by decide +kernel) rfl)
  | k + 10, h => exact absurd h (by omega)
theorem inX_X4 : ∀ w ∈ u_ws RX4 TX4 3, w ∈ UW := by
  intro w hw
  obtain ⟨k, hk, rfl⟩ := List.mem_map.mp hw
  have hk := List.mem_range.mp hk
  match k, hk with
  | 0, _ => exact (uw_at (w := Cond.laysFinal "LeastEdits$Past" "LeastEdits$Past" "before" "[LLeastEdits$Edit;") 200 (by decide +kernel) rfl)
  | 1, _ => exact (uw_at (w := Cond.laysFinal "LeastEdits$Past" "LeastEdits$Past" "sizes" "[I") 202 (by decide +kernel) rfl)
  | 2, _ => exact (uw_at (w := Cond.lays "LeastEdits$Past" "LeastEdits$Past" "made" "I") 204 (by decide +kernel) rfl)
  | k + 3, h => exact absurd h (by omega)
theorem inX_X5 : ∀ w ∈ u_ws RX5 TX5 5, w ∈ UW := by
  intro w hw
  obtain ⟨k, hk, rfl⟩ := List.mem_map.mp hw
  have hk := List.mem_range.mp hk
  match k, hk with
  | 0, _ => exact (uw_at (w := Cond.laysFinal "LeastEdits$Search" "LeastEdits$Search" "net" "LLeastEdits$Net;") 159 (by decide +kernel) rfl)
  | 1, _ => exact (uw_at (w := Cond.laysFinal "LeastEdits$Search" "LeastEdits$Search" "goals" "LLeastEdits$Goals;") 161 (by decide +kernel) rfl)
  | 2, _ => exact (uw_at (w := Cond.laysFinal "LeastEdits$Search" "LeastEdits$Search" "edits" "[LLeastEdits$Edit;") 163 (by decide +kernel) rfl)
  | 3, _ => exact (uw_at (w := Cond.laysFinal "LeastEdits$Search" "LeastEdits$Search" "trial" "[I") 165 (by decide +kernel) rfl)
  | 4, _ => exact (uw_at (w := Cond.laysFinal "LeastEdits$Search" "LeastEdits$Search" "shown" "[I") 167 (by decide +kernel) rfl)
  | k + 5, h => exact absurd h (by omega)
theorem inX_X6 : ∀ w ∈ u_ws RX6 TX6 3, w ∈ UW := by
  intro w hw
  obtain ⟨k, hk, rfl⟩ := List.mem_map.mp hw
  have hk := List.mem_range.mp hk
  match k, hk with
  | 0, _ => exact (uw_at (w := Cond.laysFinal "LeastEdits$Taking" "LeastEdits$Taking" "board" "LLeastEdits$Board;") 181 (by decide +kernel) rfl)
  | 1, _ => exact (uw_at (w := Cond.laysFinal "LeastEdits$Taking" "LeastEdits$Taking" "spareOf" "[I") 183 (by decide +kernel) rfl)
  | 2, _ => exact (uw_at (w := Cond.lays "LeastEdits$Taking" "LeastEdits$Taking" "sum" "I") 185 (by decide +kernel) rfl)
  | k + 3, h => exact absurd h (by omega)
theorem inX_X7 : ∀ w ∈ u_ws RX7 TX7 7, w ∈ UW := by
  intro w hw
  obtain ⟨k, hk, rfl⟩ := List.mem_map.mp hw
  have hk := List.mem_range.mp hk
  match k, hk with
  | 0, _ => exact (uw_at (w := Cond.laysFinal "LeastEdits" "LeastEdits" "net" "LLeastEdits$Net;") 214 (by decide +kernel) rfl)
  | 1, _ => exact (uw_at (w := Cond.laysFinal "LeastEdits" "LeastEdits" "goals" "LLeastEdits$Goals;") 216 (by decide +kernel) rfl)
  | 2, _ => exact (uw_at (w := Cond.laysFinal "LeastEdits" "LeastEdits" "board" "LLeastEdits$Board;") 218 (by decide +kernel) rfl)
  | 3, _ => exact (uw_at (w := Cond.laysFinal "LeastEdits" "LeastEdits" "search" "LLeastEdits$Search;") 220 (by decide +kernel) rfl)
  | 4, _ => exact (uw_at (w := Cond.laysFinal "LeastEdits" "LeastEdits" "taking" "LLeastEdits$Taking;") 222 (by decide +kernel) rfl)
  | 5, _ => exact (uw_at (w := Cond.laysFinal "LeastEdits" "LeastEdits" "past" "LLeastEdits$Past;") 224 (by decide +kernel) rfl)
  | 6, _ => exact (uw_at (w := Cond.lays "LeastEdits" "LeastEdits" "ran" "I") 226 (by decide +kernel) rfl)
  | k + 7, h => exact absurd h (by omega)
theorem inX_X8 : ∀ w ∈ u_ws RX8 TX8 31, w ∈ UW := by
  intro w hw
  obtain ⟨k, hk, rfl⟩ := List.mem_map.mp hw
  have hk := List.mem_range.mp hk
  match k, hk with
  | 0, _ => exact (uw_at (w := Cond.lays "LeastEditsModel" "LeastEditsModel" "thrown" "I") 703 (by decide +kernel) rfl)
  | 1, _ => exact (uw_at (w := Cond.lays "LeastEditsModel" "LeastEditsModel" "nodes" "I") 705 (by decide +kernel) rfl)
  | 2, _ => exact (uw_at (w := Cond.laysFinal "LeastEditsModel" "LeastEditsModel" "sorts" "[I") 707 (by decide +kernel) rfl)
  | 3, _ => exact (uw_at (w := Cond.laysFinal "LeastEditsModel" "LeastEditsModel" "ones" "[I") 709 (by decide +kernel) rfl)
  | 4, _ => exact (uw_at (w := Cond.laysFinal "LeastEditsModel" "LeastEditsModel" "twos" "[I") 711 (by decide +kernel) rfl)
  | 5, _ => exact (uw_at (w := Cond.laysFinal "LeastEditsModel" "LeastEditsModel" "tables" "[I") 713 (by decide +kernel) rfl)
  | 6, _ => exact (uw_at (w := Cond.laysFinal "LeastEditsModel" "LeastEditsModel" "kept" "[Z") 715 (by decide +kernel) rfl)
  | 7, _ => exact (uw_at (w := Cond.laysFinal "LeastEditsModel" "LeastEditsModel" "xs" "[J") 717 (by decide +kernel) rfl)
  | 8, _ => exact (uw_at (w := Cond.laysFinal "LeastEditsModel" "LeastEditsModel" "ys" "[J") 719 (by decide +kernel) rfl)
  | 9, _ => exact (uw_at (w := Cond.lays "LeastEditsModel" "LeastEditsModel" "inputs" "I") 721 (by decide +kernel) rfl)
  | 10, _ => exact (uw_at (w := Cond.lays "LeastEditsModel" "LeastEditsModel" "olds" "I") 723 (by decide +kernel) rfl)
  | 11, _ => exact (uw_at (w := Cond.lays "LeastEditsModel" "LeastEditsModel" "askeds" "I") 725 (by decide +kernel) rfl)
  | 12, _ => exact (uw_at (w := Cond.lays "LeastEditsModel" "LeastEditsModel" "outputs" "I") 727 (by decide +kernel) rfl)
  | 13, _ => exact (uw_at (w := Cond.laysFinal "LeastEditsModel" "LeastEditsModel" "mine" "[I") 729 (by decide +kernel) rfl)
  | 14, _ => exact (uw_at (w := Cond.laysFinal "LeastEditsModel" "LeastEditsModel" "due" "[I") 731 (by decide +kernel) rfl)
  | 15, _ => exact (uw_at (w := Cond.lays "LeastEditsModel" "LeastEditsModel" "spares" "I") 733 (by decide +kernel) rfl)
  | 16, _ => exact (uw_at (w := Cond.laysFinal "LeastEditsModel" "LeastEditsModel" "spareX" "[J") 735 (by decide +kernel) rfl)
  | 17, _ => exact (uw_at (w := Cond.laysFinal "LeastEditsModel" "LeastEditsModel" "spareY" "[J") 737 (by decide +kernel) rfl)
  | 18, _ => exact (uw_at (w := Cond.lays "LeastEditsModel" "LeastEditsModel" "found" "Z") 739 (by decide +kernel) rfl)
  | 19, _ => exact (uw_at (w := Cond.lays "LeastEditsModel" "LeastEditsModel" "edits" "I") 741 (by decide +kernel) rfl)
  | 20, _ => exact (uw_at (w := Cond.laysFinal "LeastEditsModel" "LeastEditsModel" "editNode" "[I") 743 (by decide +kernel) rfl)
  | 21, _ => exact (uw_at (w := Cond.laysFinal "LeastEditsModel" "LeastEditsModel" "editOne" "[I") 745 (by decide +kernel) rfl)
  | 22, _ => exact (uw_at (w := Cond.laysFinal "LeastEditsModel" "LeastEditsModel" "editTwo" "[I") 747 (by decide +kernel) rfl)
  | 23, _ => exact (uw_at (w := Cond.lays "LeastEditsModel" "LeastEditsModel" "takes" "Z") 749 (by decide +kernel) rfl)
  | 24, _ => exact (uw_at (w := Cond.laysFinal "LeastEditsModel" "LeastEditsModel" "spareOf" "[I") 751 (by decide +kernel) rfl)
  | 25, _ => exact (uw_at (w := Cond.lays "LeastEditsModel" "LeastEditsModel" "sum" "J") 753 (by decide +kernel) rfl)
  | 26, _ => exact (uw_at (w := Cond.lays "LeastEditsModel" "LeastEditsModel" "made" "I") 755 (by decide +kernel) rfl)
  | 27, _ => exact (uw_at (w := Cond.laysFinal "LeastEditsModel" "LeastEditsModel" "madeCount" "[I") 757 (by decide +kernel) rfl)
  | 28, _ => exact (uw_at (w := Cond.laysFinal "LeastEditsModel" "LeastEditsModel" "madeNode" "[I") 759 (by decide +kernel) rfl)
  | 29, _ => exact (uw_at (w := Cond.laysFinal "LeastEditsModel" "LeastEditsModel" "madeOne" "[I") 761 (by decide +kernel) rfl)
  | 30, _ => exact (uw_at (w := Cond.laysFinal "LeastEditsModel" "LeastEditsModel" "madeTwo" "[I") 763 (by decide +kernel) rfl)
  | k + 31, h => exact absurd h (by omega)
theorem wM_X7_init : w_MI yX7_init cX7_init 1 0 := ⟨(uw_at 21 (by decide +kernel) rfl), (uw_at 1 (by decide +kernel) rfl), (uw_at 22 (by decide +kernel) rfl), ⟨rfl, by decide +kernel, by decide +kernel, by decide +kernel⟩⟩
theorem wM_X3_init : w_MI yX3_init cX3_init 1 0 := ⟨(uw_at 29 (by decide +kernel) rfl), (uw_at 2 (by decide +kernel) rfl), (uw_at 30 (by decide +kernel) rfl), ⟨rfl, by decide +kernel, by decide +kernel, by decide +kernel⟩⟩
theorem wM_X2_init : w_MI yX2_init cX2_init 1 0 := ⟨(uw_at 84 (by decide +kernel) rfl), (uw_at 3 (by decide +kernel) rfl), (uw_at 85 (by decide +kernel) rfl), ⟨rfl, by decide +kernel, by decide +kernel, by decide +kernel⟩⟩
theorem wM_X0_init : w_MI yX0_init cX0_init 1 0 := ⟨(uw_at 101 (by decide +kernel) rfl), (uw_at 4 (by decide +kernel) rfl), (uw_at 102 (by decide +kernel) rfl), ⟨rfl, by decide +kernel, by decide +kernel, by decide +kernel⟩⟩
theorem wM_X5_init : w_MI yX5_init cX5_init 4 2 := ⟨(uw_at 125 (by decide +kernel) rfl), (uw_at 5 (by decide +kernel) rfl), (uw_at 126 (by decide +kernel) rfl), ⟨rfl, by decide +kernel, by decide +kernel, by decide +kernel⟩⟩
theorem wM_X1_init : w_MI yX1_init cX1_init 1 0 := ⟨(uw_at 132 (by decide +kernel) rfl), (uw_at 6 (by decide +kernel) rfl), (uw_at 133 (by decide +kernel) rfl), ⟨rfl, by decide +kernel, by decide +kernel, by decide +kernel⟩⟩
theorem wM_X6_init : w_MI yX6_init cX6_init 2 1 := ⟨(uw_at 173 (by decide +kernel) rfl), (uw_at 7 (by decide +kernel) rfl), (uw_at 174 (by decide +kernel) rfl), ⟨rfl, by decide +kernel, by decide +kernel, by decide +kernel⟩⟩
theorem wM_X4_init : w_MI yX4_init cX4_init 2 0 := ⟨(uw_at 191 (by decide +kernel) rfl), (uw_at 8 (by decide +kernel) rfl), (uw_at 192 (by decide +kernel) rfl), ⟨rfl, by decide +kernel, by decide +kernel, by decide +kernel⟩⟩
theorem wM_X7_differing : w_MV yX7_differing cX7_differing 3 (some .int) 0 := ⟨(uw_at 230 (by decide +kernel) rfl), (uw_at 231 (by decide +kernel) rfl), (uw_at 1 (by decide +kernel) rfl), (uw_at 232 (by decide +kernel) rfl), ⟨by decide +kernel, by decide +kernel, by decide +kernel⟩⟩
theorem wM_X2_difference : w_MV yX2_difference cX2_difference 3 (some .int) 2 := ⟨(uw_at 234 (by decide +kernel) rfl), (uw_at 235 (by decide +kernel) rfl), (uw_at 3 (by decide +kernel) rfl), (uw_at 236 (by decide +kernel) rfl), ⟨by decide +kernel, by decide +kernel, by decide +kernel⟩⟩
theorem wM_X7_column : w_MS yX7_column cX7_column 2 (some .int) 2 := ⟨(uw_at 238 (by decide +kernel) rfl), (uw_at 1 (by decide +kernel) rfl), (uw_at 239 (by decide +kernel) rfl), ⟨by decide +kernel, by decide +kernel, by decide +kernel⟩⟩
theorem wM_X7_undo : w_MV yX7_undo cX7_undo 1 (some .boolean) 0 := ⟨(uw_at 241 (by decide +kernel) rfl), (uw_at 242 (by decide +kernel) rfl), (uw_at 1 (by decide +kernel) rfl), (uw_at 243 (by decide +kernel) rfl), ⟨by decide +kernel, by decide +kernel, by decide +kernel⟩⟩
theorem wM_X4_takeBackLast : w_MV yX4_takeBackLast cX4_takeBackLast 3 none 1 := ⟨(uw_at 245 (by decide +kernel) rfl), (uw_at 246 (by decide +kernel) rfl), (uw_at 8 (by decide +kernel) rfl), (uw_at 247 (by decide +kernel) rfl), ⟨by decide +kernel, by decide +kernel, by decide +kernel⟩⟩
theorem wM_X3_rewire : w_MV yX3_rewire cX3_rewire 2 none 1 := ⟨(uw_at 249 (by decide +kernel) rfl), (uw_at 250 (by decide +kernel) rfl), (uw_at 2 (by decide +kernel) rfl), (uw_at 251 (by decide +kernel) rfl), ⟨by decide +kernel, by decide +kernel, by decide +kernel⟩⟩
theorem wM_X3_refreshOldColumns : w_MV yX3_refreshOldColumns cX3_refreshOldColumns 3 none 0 := ⟨(uw_at 253 (by decide +kernel) rfl), (uw_at 254 (by decide +kernel) rfl), (uw_at 2 (by decide +kernel) rfl), (uw_at 255 (by decide +kernel) rfl), ⟨by decide +kernel, by decide +kernel, by decide +kernel⟩⟩
theorem wM_X3_firstOld : w_MV yX3_firstOld cX3_firstOld 1 (some .int) 0 := ⟨(uw_at 257 (by decide +kernel) rfl), (uw_at 258 (by decide +kernel) rfl), (uw_at 2 (by decide +kernel) rfl), (uw_at 259 (by decide +kernel) rfl), ⟨by decide +kernel, by decide +kernel, by decide +kernel⟩⟩
theorem wM_X3_owned : w_MV yX3_owned cX3_owned 1 (some .int) 0 := ⟨(uw_at 261 (by decide +kernel) rfl), (uw_at 262 (by decide +kernel) rfl), (uw_at 2 (by decide +kernel) rfl), (uw_at 263 (by decide +kernel) rfl), ⟨by decide +kernel, by decide +kernel, by decide +kernel⟩⟩
theorem wM_X7_clear : w_MV yX7_clear cX7_clear 1 none 0 := ⟨(uw_at 266 (by decide +kernel) rfl), (uw_at 267 (by decide +kernel) rfl), (uw_at 1 (by decide +kernel) rfl), (uw_at 268 (by decide +kernel) rfl), ⟨by decide +kernel, by decide +kernel, by decide +kernel⟩⟩
theorem wM_X3_reset : w_MV yX3_reset cX3_reset 1 none 0 := ⟨(uw_at 270 (by decide +kernel) rfl), (uw_at 271 (by decide +kernel) rfl), (uw_at 2 (by decide +kernel) rfl), (uw_at 272 (by decide +kernel) rfl), ⟨by decide +kernel, by decide +kernel, by decide +kernel⟩⟩
theorem wM_X7_input : w_MV yX7_input cX7_input 1 (some .int) 0 := ⟨(uw_at 278 (by decide +kernel) rfl), (uw_at 279 (by decide +kernel) rfl), (uw_at 1 (by decide +kernel) rfl), (uw_at 280 (by decide +kernel) rfl), ⟨by decide +kernel, by decide +kernel, by decide +kernel⟩⟩
theorem wM_X3_addInput : w_MV yX3_addInput cX3_addInput 2 (some .int) 0 := ⟨(uw_at 350 (by decide +kernel) rfl), (uw_at 351 (by decide +kernel) rfl), (uw_at 2 (by decide +kernel) rfl), (uw_at 352 (by decide +kernel) rfl), ⟨by decide +kernel, by decide +kernel, by decide +kernel⟩⟩
theorem wM_X7_old : w_MV yX7_old cX7_old 3 (some .int) 2 := ⟨(uw_at 361 (by decide +kernel) rfl), (uw_at 362 (by decide +kernel) rfl), (uw_at 1 (by decide +kernel) rfl), (uw_at 363 (by decide +kernel) rfl), ⟨by decide +kernel, by decide +kernel, by decide +kernel⟩⟩
theorem wM_X3_hasLiteral : w_MV yX3_hasLiteral cX3_hasLiteral 2 (some .boolean) 1 := ⟨(uw_at 365 (by decide +kernel) rfl), (uw_at 366 (by decide +kernel) rfl), (uw_at 2 (by decide +kernel) rfl), (uw_at 367 (by decide +kernel) rfl), ⟨by decide +kernel, by decide +kernel, by decide +kernel⟩⟩
theorem wM_X3_isOf : w_MV yX3_isOf cX3_isOf 3 (some .boolean) 2 := ⟨(uw_at 386 (by decide +kernel) rfl), (uw_at 387 (by decide +kernel) rfl), (uw_at 2 (by decide +kernel) rfl), (uw_at 388 (by decide +kernel) rfl), ⟨by decide +kernel, by decide +kernel, by decide +kernel⟩⟩
theorem wM_X0_putAtOrigin : w_MV yX0_putAtOrigin cX0_putAtOrigin 2 none 1 := ⟨(uw_at 406 (by decide +kernel) rfl), (uw_at 407 (by decide +kernel) rfl), (uw_at 4 (by decide +kernel) rfl), (uw_at 408 (by decide +kernel) rfl), ⟨by decide +kernel, by decide +kernel, by decide +kernel⟩⟩
theorem wM_X3_addOld : w_MV yX3_addOld cX3_addOld 3 (some .int) 2 := ⟨(uw_at 410 (by decide +kernel) rfl), (uw_at 411 (by decide +kernel) rfl), (uw_at 2 (by decide +kernel) rfl), (uw_at 412 (by decide +kernel) rfl), ⟨by decide +kernel, by decide +kernel, by decide +kernel⟩⟩
theorem wM_X3_addAnd : w_MV yX3_addAnd cX3_addAnd 5 (some .int) 3 := ⟨(uw_at 415 (by decide +kernel) rfl), (uw_sel 1 (by decide +kernel) rfl), (uw_at 2 (by decide +kernel) rfl), (uw_at 416 (by decide +kernel) rfl), ⟨by decide +kernel, by decide +kernel, by decide +kernel⟩⟩
theorem wM_X7_asked : w_MV yX7_asked cX7_asked 3 (some .int) 2 := ⟨(uw_at 421 (by decide +kernel) rfl), (uw_at 422 (by decide +kernel) rfl), (uw_at 1 (by decide +kernel) rfl), (uw_at 423 (by decide +kernel) rfl), ⟨by decide +kernel, by decide +kernel, by decide +kernel⟩⟩
theorem wM_X3_addAsked : w_MV yX3_addAsked cX3_addAsked 3 (some .int) 2 := ⟨(uw_at 427 (by decide +kernel) rfl), (uw_at 428 (by decide +kernel) rfl), (uw_at 2 (by decide +kernel) rfl), (uw_at 429 (by decide +kernel) rfl), ⟨by decide +kernel, by decide +kernel, by decide +kernel⟩⟩
theorem wM_X7_output : w_MV yX7_output cX7_output 3 (some .int) 2 := ⟨(uw_at 434 (by decide +kernel) rfl), (uw_at 435 (by decide +kernel) rfl), (uw_at 1 (by decide +kernel) rfl), (uw_at 436 (by decide +kernel) rfl), ⟨by decide +kernel, by decide +kernel, by decide +kernel⟩⟩
theorem wM_X2_add : w_MV yX2_add cX2_add 3 (some .int) 2 := ⟨(uw_at 440 (by decide +kernel) rfl), (uw_at 441 (by decide +kernel) rfl), (uw_at 3 (by decide +kernel) rfl), (uw_at 442 (by decide +kernel) rfl), ⟨by decide +kernel, by decide +kernel, by decide +kernel⟩⟩
theorem wM_X7_value : w_MV yX7_value cX7_value 4 (some .int) 2 := ⟨(uw_at 447 (by decide +kernel) rfl), (uw_at 448 (by decide +kernel) rfl), (uw_at 1 (by decide +kernel) rfl), (uw_at 449 (by decide +kernel) rfl), ⟨by decide +kernel, by decide +kernel, by decide +kernel⟩⟩
theorem wM_X7_witness : w_MV yX7_witness cX7_witness 2 (some .int) 1 := ⟨(uw_at 455 (by decide +kernel) rfl), (uw_at 456 (by decide +kernel) rfl), (uw_at 1 (by decide +kernel) rfl), (uw_at 457 (by decide +kernel) rfl), ⟨by decide +kernel, by decide +kernel, by decide +kernel⟩⟩
theorem wM_X7_leastBit : w_MS yX7_leastBit cX7_leastBit 2 (some .int) 1 := ⟨(uw_at 460 (by decide +kernel) rfl), (uw_at 1 (by decide +kernel) rfl), (uw_at 461 (by decide +kernel) rfl), ⟨by decide +kernel, by decide +kernel, by decide +kernel⟩⟩
theorem wM_X7_matched : w_MV yX7_matched cX7_matched 2 (some .int) 1 := ⟨(uw_at 466 (by decide +kernel) rfl), (uw_at 467 (by decide +kernel) rfl), (uw_at 1 (by decide +kernel) rfl), (uw_at 468 (by decide +kernel) rfl), ⟨by decide +kernel, by decide +kernel, by decide +kernel⟩⟩
theorem wM_X3_leastOwnLiteralOf : w_MV yX3_leastOwnLiteralOf cX3_leastOwnLiteralOf 3 (some .int) 1 := ⟨(uw_at 470 (by decide +kernel) rfl), (uw_at 471 (by decide +kernel) rfl), (uw_at 2 (by decide +kernel) rfl), (uw_at 472 (by decide +kernel) rfl), ⟨by decide +kernel, by decide +kernel, by decide +kernel⟩⟩
theorem wM_X3_ownLiteral : w_MV yX3_ownLiteral cX3_ownLiteral 2 (some .int) 1 := ⟨(uw_at 474 (by decide +kernel) rfl), (uw_at 475 (by decide +kernel) rfl), (uw_at 2 (by decide +kernel) rfl), (uw_at 476 (by decide +kernel) rfl), ⟨by decide +kernel, by decide +kernel, by decide +kernel⟩⟩
theorem wM_X7_keep : w_MV yX7_keep cX7_keep 3 (some .boolean) 2 := ⟨(uw_at 481 (by decide +kernel) rfl), (uw_at 482 (by decide +kernel) rfl), (uw_at 1 (by decide +kernel) rfl), (uw_at 483 (by decide +kernel) rfl), ⟨by decide +kernel, by decide +kernel, by decide +kernel⟩⟩
theorem wM_X3_isOldNode : w_MV yX3_isOldNode cX3_isOldNode 2 (some .boolean) 1 := ⟨(uw_at 485 (by decide +kernel) rfl), (uw_at 486 (by decide +kernel) rfl), (uw_at 2 (by decide +kernel) rfl), (uw_at 487 (by decide +kernel) rfl), ⟨by decide +kernel, by decide +kernel, by decide +kernel⟩⟩
theorem wM_X7_place : w_MV yX7_place cX7_place 6 (some .boolean) 3 := ⟨(uw_at 493 (by decide +kernel) rfl), (uw_at 494 (by decide +kernel) rfl), (uw_at 1 (by decide +kernel) rfl), (uw_at 495 (by decide +kernel) rfl), ⟨by decide +kernel, by decide +kernel, by decide +kernel⟩⟩
theorem wM_X7_isTooFar : w_MS yX7_isTooFar cX7_isTooFar 2 (some .boolean) 1 := ⟨(uw_at 497 (by decide +kernel) rfl), (uw_at 1 (by decide +kernel) rfl), (uw_at 498 (by decide +kernel) rfl), ⟨by decide +kernel, by decide +kernel, by decide +kernel⟩⟩
theorem wM_X0_moveNode : w_MV yX0_moveNode cX0_moveNode 5 (some .boolean) 3 := ⟨(uw_at 503 (by decide +kernel) rfl), (uw_at 504 (by decide +kernel) rfl), (uw_at 4 (by decide +kernel) rfl), (uw_at 505 (by decide +kernel) rfl), ⟨by decide +kernel, by decide +kernel, by decide +kernel⟩⟩
theorem wM_X7_spare : w_MV yX7_spare cX7_spare 5 (some .int) 2 := ⟨(uw_at 510 (by decide +kernel) rfl), (uw_at 511 (by decide +kernel) rfl), (uw_at 1 (by decide +kernel) rfl), (uw_at 512 (by decide +kernel) rfl), ⟨by decide +kernel, by decide +kernel, by decide +kernel⟩⟩
theorem wM_X0_addSpare : w_MV yX0_addSpare cX0_addSpare 3 (some .int) 2 := ⟨(uw_at 515 (by decide +kernel) rfl), (uw_at 516 (by decide +kernel) rfl), (uw_at 4 (by decide +kernel) rfl), (uw_at 517 (by decide +kernel) rfl), ⟨by decide +kernel, by decide +kernel, by decide +kernel⟩⟩
theorem wM_X7_run : w_MV yX7_run cX7_run 2 (some .int) 1 := ⟨(uw_at 522 (by decide +kernel) rfl), (uw_at 523 (by decide +kernel) rfl), (uw_at 1 (by decide +kernel) rfl), (uw_at 524 (by decide +kernel) rfl), ⟨by decide +kernel, by decide +kernel, by decide +kernel⟩⟩
theorem wM_X5_fewestEdits : w_MV yX5_fewestEdits cX5_fewestEdits 2 (some .int) 1 := ⟨(uw_at 527 (by decide +kernel) rfl), (uw_at 528 (by decide +kernel) rfl), (uw_at 5 (by decide +kernel) rfl), (uw_at 529 (by decide +kernel) rfl), ⟨by decide +kernel, by decide +kernel, by decide +kernel⟩⟩
theorem wM_X5_showAsItIs : w_MV yX5_showAsItIs cX5_showAsItIs 2 none 0 := ⟨(uw_at 532 (by decide +kernel) rfl), (uw_sel 2 (by decide +kernel) rfl), (uw_at 5 (by decide +kernel) rfl), (uw_at 533 (by decide +kernel) rfl), ⟨by decide +kernel, by decide +kernel, by decide +kernel⟩⟩
theorem wM_X5_show : w_MV yX5_show cX5_show 3 none 2 := ⟨(uw_at 540 (by decide +kernel) rfl), (uw_sel 3 (by decide +kernel) rfl), (uw_at 5 (by decide +kernel) rfl), (uw_at 541 (by decide +kernel) rfl), ⟨by decide +kernel, by decide +kernel, by decide +kernel⟩⟩
theorem wM_X2_agreement : w_MV yX2_agreement cX2_agreement 4 (some .int) 1 := ⟨(uw_at 543 (by decide +kernel) rfl), (uw_at 544 (by decide +kernel) rfl), (uw_at 3 (by decide +kernel) rfl), (uw_at 545 (by decide +kernel) rfl), ⟨by decide +kernel, by decide +kernel, by decide +kernel⟩⟩
theorem wM_X5_findOne : w_MV yX5_findOne cX5_findOne 4 (some .boolean) 0 := ⟨(uw_at 549 (by decide +kernel) rfl), (uw_sel 4 (by decide +kernel) rfl), (uw_at 5 (by decide +kernel) rfl), (uw_at 550 (by decide +kernel) rfl), ⟨by decide +kernel, by decide +kernel, by decide +kernel⟩⟩
theorem wM_X5_agreementWith : w_MV yX5_agreementWith cX5_agreementWith 5 (some .int) 4 := ⟨(uw_at 554 (by decide +kernel) rfl), (uw_sel 5 (by decide +kernel) rfl), (uw_at 5 (by decide +kernel) rfl), (uw_at 555 (by decide +kernel) rfl), ⟨by decide +kernel, by decide +kernel, by decide +kernel⟩⟩
theorem wM_X5_setAndSpread : w_MV yX5_setAndSpread cX5_setAndSpread 7 none 4 := ⟨(uw_at 558 (by decide +kernel) rfl), (uw_sel 6 (by decide +kernel) rfl), (uw_at 5 (by decide +kernel) rfl), (uw_at 559 (by decide +kernel) rfl), ⟨by decide +kernel, by decide +kernel, by decide +kernel⟩⟩
theorem wM_X5_findLiterals : w_MV yX5_findLiterals cX5_findLiterals 7 (some .boolean) 4 := ⟨(uw_at 563 (by decide +kernel) rfl), (uw_sel 7 (by decide +kernel) rfl), (uw_at 5 (by decide +kernel) rfl), (uw_at 564 (by decide +kernel) rfl), ⟨by decide +kernel, by decide +kernel, by decide +kernel⟩⟩
theorem wM_X5_findPartner : w_MV yX5_findPartner cX5_findPartner 7 (some .int) 4 := ⟨(uw_at 567 (by decide +kernel) rfl), (uw_sel 8 (by decide +kernel) rfl), (uw_at 5 (by decide +kernel) rfl), (uw_at 568 (by decide +kernel) rfl), ⟨by decide +kernel, by decide +kernel, by decide +kernel⟩⟩
theorem wM_X1_put : w_MV yX1_put cX1_put 4 none 3 := ⟨(uw_at 571 (by decide +kernel) rfl), (uw_at 572 (by decide +kernel) rfl), (uw_at 6 (by decide +kernel) rfl), (uw_at 573 (by decide +kernel) rfl), ⟨by decide +kernel, by decide +kernel, by decide +kernel⟩⟩
theorem wM_X5_findTwo : w_MV yX5_findTwo cX5_findTwo 3 (some .boolean) 0 := ⟨(uw_at 576 (by decide +kernel) rfl), (uw_sel 9 (by decide +kernel) rfl), (uw_at 5 (by decide +kernel) rfl), (uw_at 577 (by decide +kernel) rfl), ⟨by decide +kernel, by decide +kernel, by decide +kernel⟩⟩
theorem wM_X5_findPair : w_MV yX5_findPair cX5_findPair 12 (some .boolean) 2 := ⟨(uw_at 580 (by decide +kernel) rfl), (uw_sel 10 (by decide +kernel) rfl), (uw_at 5 (by decide +kernel) rfl), (uw_at 581 (by decide +kernel) rfl), ⟨by decide +kernel, by decide +kernel, by decide +kernel⟩⟩
theorem wM_X6_take : w_MV yX6_take cX6_take 3 none 2 := ⟨(uw_at 583 (by decide +kernel) rfl), (uw_at 584 (by decide +kernel) rfl), (uw_at 7 (by decide +kernel) rfl), (uw_at 585 (by decide +kernel) rfl), ⟨by decide +kernel, by decide +kernel, by decide +kernel⟩⟩
theorem wM_X6_takeForOne : w_MV yX6_takeForOne cX6_takeForOne 3 none 1 := ⟨(uw_at 588 (by decide +kernel) rfl), (uw_sel 11 (by decide +kernel) rfl), (uw_at 7 (by decide +kernel) rfl), (uw_at 589 (by decide +kernel) rfl), ⟨by decide +kernel, by decide +kernel, by decide +kernel⟩⟩
theorem wM_X0_distance : w_MV yX0_distance cX0_distance 3 (some .int) 2 := ⟨(uw_at 591 (by decide +kernel) rfl), (uw_at 592 (by decide +kernel) rfl), (uw_at 4 (by decide +kernel) rfl), (uw_at 593 (by decide +kernel) rfl), ⟨by decide +kernel, by decide +kernel, by decide +kernel⟩⟩
theorem wM_J9_abs_0f7a4 : w_MS yJ9_abs_0f7a4 cJ9_abs_0f7a4 1 (some .int) 1 := ⟨(uw_at 595 (by decide +kernel) rfl), (uw_at 17 (by decide +kernel) rfl), (uw_at 596 (by decide +kernel) rfl), ⟨by decide +kernel, by decide +kernel, by decide +kernel⟩⟩
theorem wM_X6_offer : w_MV yX6_offer cX6_offer 4 none 3 := ⟨(uw_at 599 (by decide +kernel) rfl), (uw_sel 12 (by decide +kernel) rfl), (uw_at 7 (by decide +kernel) rfl), (uw_at 600 (by decide +kernel) rfl), ⟨by decide +kernel, by decide +kernel, by decide +kernel⟩⟩
theorem wM_X6_takeForTwo : w_MV yX6_takeForTwo cX6_takeForTwo 5 none 2 := ⟨(uw_at 603 (by decide +kernel) rfl), (uw_sel 13 (by decide +kernel) rfl), (uw_at 7 (by decide +kernel) rfl), (uw_at 604 (by decide +kernel) rfl), ⟨by decide +kernel, by decide +kernel, by decide +kernel⟩⟩
theorem wM_X7_edit : w_MV yX7_edit cX7_edit 4 (some .int) 2 := ⟨(uw_at 609 (by decide +kernel) rfl), (uw_at 610 (by decide +kernel) rfl), (uw_at 1 (by decide +kernel) rfl), (uw_at 611 (by decide +kernel) rfl), ⟨by decide +kernel, by decide +kernel, by decide +kernel⟩⟩
theorem wM_X7_used : w_MV yX7_used cX7_used 2 (some .int) 1 := ⟨(uw_at 619 (by decide +kernel) rfl), (uw_at 620 (by decide +kernel) rfl), (uw_at 1 (by decide +kernel) rfl), (uw_at 621 (by decide +kernel) rfl), ⟨by decide +kernel, by decide +kernel, by decide +kernel⟩⟩
theorem wM_X7_length : w_MV yX7_length cX7_length 1 (some .int) 0 := ⟨(uw_at 626 (by decide +kernel) rfl), (uw_at 627 (by decide +kernel) rfl), (uw_at 1 (by decide +kernel) rfl), (uw_at 628 (by decide +kernel) rfl), ⟨by decide +kernel, by decide +kernel, by decide +kernel⟩⟩
theorem wM_X7_make : w_MV yX7_make cX7_make 3 (some .int) 0 := ⟨(uw_at 633 (by decide +kernel) rfl), (uw_at 634 (by decide +kernel) rfl), (uw_at 1 (by decide +kernel) rfl), (uw_at 635 (by decide +kernel) rfl), ⟨by decide +kernel, by decide +kernel, by decide +kernel⟩⟩
theorem wM_X4_remember : w_MV yX4_remember cX4_remember 6 none 3 := ⟨(uw_at 638 (by decide +kernel) rfl), (uw_at 639 (by decide +kernel) rfl), (uw_at 8 (by decide +kernel) rfl), (uw_at 640 (by decide +kernel) rfl), ⟨by decide +kernel, by decide +kernel, by decide +kernel⟩⟩
theorem wM_X7_literal : w_MV yX7_literal cX7_literal 3 (some .int) 2 := ⟨(uw_at 647 (by decide +kernel) rfl), (uw_at 648 (by decide +kernel) rfl), (uw_at 1 (by decide +kernel) rfl), (uw_at 649 (by decide +kernel) rfl), ⟨by decide +kernel, by decide +kernel, by decide +kernel⟩⟩
theorem wM_X7_count : w_MV yX7_count cX7_count 2 (some .int) 1 := ⟨(uw_at 655 (by decide +kernel) rfl), (uw_at 656 (by decide +kernel) rfl), (uw_at 1 (by decide +kernel) rfl), (uw_at 657 (by decide +kernel) rfl), ⟨by decide +kernel, by decide +kernel, by decide +kernel⟩⟩
theorem wM_X3_keptNodes : w_MV yX3_keptNodes cX3_keptNodes 3 (some .int) 0 := ⟨(uw_at 659 (by decide +kernel) rfl), (uw_at 660 (by decide +kernel) rfl), (uw_at 2 (by decide +kernel) rfl), (uw_at 661 (by decide +kernel) rfl), ⟨by decide +kernel, by decide +kernel, by decide +kernel⟩⟩
theorem wM_X8_init : w_MI yX8_init cX8_init 1 0 := ⟨(uw_at 665 (by decide +kernel) rfl), (uw_at 9 (by decide +kernel) rfl), (uw_at 666 (by decide +kernel) rfl), ⟨rfl, by decide +kernel, by decide +kernel, by decide +kernel⟩⟩
theorem wM_X8_clear : w_MV yX8_clear cX8_clear 1 none 0 := ⟨(uw_at 669 (by decide +kernel) rfl), (uw_at 670 (by decide +kernel) rfl), (uw_at 9 (by decide +kernel) rfl), (uw_at 671 (by decide +kernel) rfl), ⟨by decide +kernel, by decide +kernel, by decide +kernel⟩⟩
theorem wM_X8_thrown : w_MV yX8_thrown cX8_thrown 1 (some .int) 0 := ⟨(uw_at 768 (by decide +kernel) rfl), (uw_at 769 (by decide +kernel) rfl), (uw_at 9 (by decide +kernel) rfl), (uw_at 770 (by decide +kernel) rfl), ⟨by decide +kernel, by decide +kernel, by decide +kernel⟩⟩
theorem wM_X8_input : w_MV yX8_input cX8_input 3 (some .int) 0 := ⟨(uw_at 772 (by decide +kernel) rfl), (uw_at 773 (by decide +kernel) rfl), (uw_at 9 (by decide +kernel) rfl), (uw_at 774 (by decide +kernel) rfl), ⟨by decide +kernel, by decide +kernel, by decide +kernel⟩⟩
theorem wM_X8_put : w_MV yX8_put cX8_put 4 (some .int) 3 := ⟨(uw_at 777 (by decide +kernel) rfl), (uw_sel 14 (by decide +kernel) rfl), (uw_at 9 (by decide +kernel) rfl), (uw_at 778 (by decide +kernel) rfl), ⟨by decide +kernel, by decide +kernel, by decide +kernel⟩⟩
theorem wM_X8_work : w_MV yX8_work cX8_work 2 none 1 := ⟨(uw_at 781 (by decide +kernel) rfl), (uw_sel 15 (by decide +kernel) rfl), (uw_at 9 (by decide +kernel) rfl), (uw_at 782 (by decide +kernel) rfl), ⟨by decide +kernel, by decide +kernel, by decide +kernel⟩⟩
theorem wM_X8_table : w_MV yX8_table cX8_table 3 (some .int) 1 := ⟨(uw_at 785 (by decide +kernel) rfl), (uw_sel 16 (by decide +kernel) rfl), (uw_at 9 (by decide +kernel) rfl), (uw_at 786 (by decide +kernel) rfl), ⟨by decide +kernel, by decide +kernel, by decide +kernel⟩⟩
theorem wM_X8_old : w_MV yX8_old cX8_old 4 (some .int) 2 := ⟨(uw_at 788 (by decide +kernel) rfl), (uw_at 789 (by decide +kernel) rfl), (uw_at 9 (by decide +kernel) rfl), (uw_at 790 (by decide +kernel) rfl), ⟨by decide +kernel, by decide +kernel, by decide +kernel⟩⟩
theorem wM_X8_isLiteral : w_MV yX8_isLiteral cX8_isLiteral 2 (some .boolean) 1 := ⟨(uw_at 793 (by decide +kernel) rfl), (uw_sel 17 (by decide +kernel) rfl), (uw_at 9 (by decide +kernel) rfl), (uw_at 794 (by decide +kernel) rfl), ⟨by decide +kernel, by decide +kernel, by decide +kernel⟩⟩
theorem wM_X8_isIn : w_MS yX8_isIn cX8_isIn 2 (some .boolean) 2 := ⟨(uw_at 796 (by decide +kernel) rfl), (uw_at 9 (by decide +kernel) rfl), (uw_at 797 (by decide +kernel) rfl), ⟨by decide +kernel, by decide +kernel, by decide +kernel⟩⟩
theorem wM_X8_isOf : w_MV yX8_isOf cX8_isOf 3 (some .boolean) 2 := ⟨(uw_at 800 (by decide +kernel) rfl), (uw_sel 18 (by decide +kernel) rfl), (uw_at 9 (by decide +kernel) rfl), (uw_at 801 (by decide +kernel) rfl), ⟨by decide +kernel, by decide +kernel, by decide +kernel⟩⟩
theorem wM_X8_asked : w_MV yX8_asked cX8_asked 4 (some .int) 2 := ⟨(uw_at 803 (by decide +kernel) rfl), (uw_at 804 (by decide +kernel) rfl), (uw_at 9 (by decide +kernel) rfl), (uw_at 805 (by decide +kernel) rfl), ⟨by decide +kernel, by decide +kernel, by decide +kernel⟩⟩
theorem wM_X8_output : w_MV yX8_output cX8_output 4 (some .int) 2 := ⟨(uw_at 807 (by decide +kernel) rfl), (uw_at 808 (by decide +kernel) rfl), (uw_at 9 (by decide +kernel) rfl), (uw_at 809 (by decide +kernel) rfl), ⟨by decide +kernel, by decide +kernel, by decide +kernel⟩⟩
theorem wM_X8_value : w_MV yX8_value cX8_value 4 (some .int) 2 := ⟨(uw_at 811 (by decide +kernel) rfl), (uw_at 812 (by decide +kernel) rfl), (uw_at 9 (by decide +kernel) rfl), (uw_at 813 (by decide +kernel) rfl), ⟨by decide +kernel, by decide +kernel, by decide +kernel⟩⟩
theorem wM_X8_differing : w_MV yX8_differing cX8_differing 1 (some .int) 0 := ⟨(uw_at 815 (by decide +kernel) rfl), (uw_at 816 (by decide +kernel) rfl), (uw_at 9 (by decide +kernel) rfl), (uw_at 817 (by decide +kernel) rfl), ⟨by decide +kernel, by decide +kernel, by decide +kernel⟩⟩
theorem wM_X8_apart : w_MV yX8_apart cX8_apart 3 (some .int) 0 := ⟨(uw_at 820 (by decide +kernel) rfl), (uw_sel 19 (by decide +kernel) rfl), (uw_at 9 (by decide +kernel) rfl), (uw_at 821 (by decide +kernel) rfl), ⟨by decide +kernel, by decide +kernel, by decide +kernel⟩⟩
theorem wM_X8_isApart : w_MV yX8_isApart cX8_isApart 2 (some .boolean) 1 := ⟨(uw_at 824 (by decide +kernel) rfl), (uw_sel 20 (by decide +kernel) rfl), (uw_at 9 (by decide +kernel) rfl), (uw_at 825 (by decide +kernel) rfl), ⟨by decide +kernel, by decide +kernel, by decide +kernel⟩⟩
theorem wM_X8_witness : w_MV yX8_witness cX8_witness 4 (some .int) 1 := ⟨(uw_at 827 (by decide +kernel) rfl), (uw_at 828 (by decide +kernel) rfl), (uw_at 9 (by decide +kernel) rfl), (uw_at 829 (by decide +kernel) rfl), ⟨by decide +kernel, by decide +kernel, by decide +kernel⟩⟩
theorem wM_X8_matched : w_MV yX8_matched cX8_matched 3 (some .int) 1 := ⟨(uw_at 831 (by decide +kernel) rfl), (uw_at 832 (by decide +kernel) rfl), (uw_at 9 (by decide +kernel) rfl), (uw_at 833 (by decide +kernel) rfl), ⟨by decide +kernel, by decide +kernel, by decide +kernel⟩⟩
theorem wM_X8_keep : w_MV yX8_keep cX8_keep 3 (some .boolean) 2 := ⟨(uw_at 835 (by decide +kernel) rfl), (uw_at 836 (by decide +kernel) rfl), (uw_at 9 (by decide +kernel) rfl), (uw_at 837 (by decide +kernel) rfl), ⟨by decide +kernel, by decide +kernel, by decide +kernel⟩⟩
theorem wM_X8_isOld : w_MV yX8_isOld cX8_isOld 2 (some .boolean) 1 := ⟨(uw_at 840 (by decide +kernel) rfl), (uw_sel 21 (by decide +kernel) rfl), (uw_at 9 (by decide +kernel) rfl), (uw_at 841 (by decide +kernel) rfl), ⟨by decide +kernel, by decide +kernel, by decide +kernel⟩⟩
theorem wM_X8_place : w_MV yX8_place cX8_place 6 (some .boolean) 3 := ⟨(uw_at 843 (by decide +kernel) rfl), (uw_at 844 (by decide +kernel) rfl), (uw_at 9 (by decide +kernel) rfl), (uw_at 845 (by decide +kernel) rfl), ⟨by decide +kernel, by decide +kernel, by decide +kernel⟩⟩
theorem wM_X8_isNear : w_MS yX8_isNear cX8_isNear 2 (some .boolean) 1 := ⟨(uw_at 847 (by decide +kernel) rfl), (uw_at 9 (by decide +kernel) rfl), (uw_at 848 (by decide +kernel) rfl), ⟨by decide +kernel, by decide +kernel, by decide +kernel⟩⟩
theorem wM_X8_spare : w_MV yX8_spare cX8_spare 5 (some .int) 2 := ⟨(uw_at 852 (by decide +kernel) rfl), (uw_at 853 (by decide +kernel) rfl), (uw_at 9 (by decide +kernel) rfl), (uw_at 854 (by decide +kernel) rfl), ⟨by decide +kernel, by decide +kernel, by decide +kernel⟩⟩
theorem wM_X8_run : w_MV yX8_run cX8_run 3 (some .int) 1 := ⟨(uw_at 856 (by decide +kernel) rfl), (uw_at 857 (by decide +kernel) rfl), (uw_at 9 (by decide +kernel) rfl), (uw_at 858 (by decide +kernel) rfl), ⟨by decide +kernel, by decide +kernel, by decide +kernel⟩⟩
theorem wM_X8_search : w_MV yX8_search cX8_search 4 (some .boolean) 1 := ⟨(uw_at 861 (by decide +kernel) rfl), (uw_sel 22 (by decide +kernel) rfl), (uw_at 9 (by decide +kernel) rfl), (uw_at 862 (by decide +kernel) rfl), ⟨by decide +kernel, by decide +kernel, by decide +kernel⟩⟩
theorem wM_X8_isFree : w_MV yX8_isFree cX8_isFree 2 (some .boolean) 1 := ⟨(uw_at 865 (by decide +kernel) rfl), (uw_sel 23 (by decide +kernel) rfl), (uw_at 9 (by decide +kernel) rfl), (uw_at 866 (by decide +kernel) rfl), ⟨by decide +kernel, by decide +kernel, by decide +kernel⟩⟩
theorem wM_X8_tryAt : w_MV yX8_tryAt cX8_tryAt 8 (some .boolean) 2 := ⟨(uw_at 869 (by decide +kernel) rfl), (uw_sel 24 (by decide +kernel) rfl), (uw_at 9 (by decide +kernel) rfl), (uw_at 870 (by decide +kernel) rfl), ⟨by decide +kernel, by decide +kernel, by decide +kernel⟩⟩
theorem wM_X8_mayBe : w_MV yX8_mayBe cX8_mayBe 2 (some .boolean) 1 := ⟨(uw_at 873 (by decide +kernel) rfl), (uw_sel 25 (by decide +kernel) rfl), (uw_at 9 (by decide +kernel) rfl), (uw_at 874 (by decide +kernel) rfl), ⟨by decide +kernel, by decide +kernel, by decide +kernel⟩⟩
theorem wM_X8_workOlds : w_MV yX8_workOlds cX8_workOlds 3 none 1 := ⟨(uw_at 877 (by decide +kernel) rfl), (uw_sel 26 (by decide +kernel) rfl), (uw_at 9 (by decide +kernel) rfl), (uw_at 878 (by decide +kernel) rfl), ⟨by decide +kernel, by decide +kernel, by decide +kernel⟩⟩
theorem wM_X8_trySecond : w_MV yX8_trySecond cX8_trySecond 7 (some .boolean) 1 := ⟨(uw_at 881 (by decide +kernel) rfl), (uw_sel 27 (by decide +kernel) rfl), (uw_at 9 (by decide +kernel) rfl), (uw_at 882 (by decide +kernel) rfl), ⟨by decide +kernel, by decide +kernel, by decide +kernel⟩⟩
theorem wM_X8_take : w_MV yX8_take cX8_take 6 none 0 := ⟨(uw_at 885 (by decide +kernel) rfl), (uw_sel 28 (by decide +kernel) rfl), (uw_at 9 (by decide +kernel) rfl), (uw_at 886 (by decide +kernel) rfl), ⟨by decide +kernel, by decide +kernel, by decide +kernel⟩⟩
theorem wM_X8_far : w_MV yX8_far cX8_far 4 (some .long) 2 := ⟨(uw_at 889 (by decide +kernel) rfl), (uw_sel 29 (by decide +kernel) rfl), (uw_at 9 (by decide +kernel) rfl), (uw_at 890 (by decide +kernel) rfl), ⟨by decide +kernel, by decide +kernel, by decide +kernel⟩⟩
theorem wM_X8_size : w_MS yX8_size cX8_size 2 (some .long) 1 := ⟨(uw_at 892 (by decide +kernel) rfl), (uw_at 9 (by decide +kernel) rfl), (uw_at 893 (by decide +kernel) rfl), ⟨by decide +kernel, by decide +kernel, by decide +kernel⟩⟩
theorem wM_X8_edit : w_MV yX8_edit cX8_edit 3 (some .int) 2 := ⟨(uw_at 895 (by decide +kernel) rfl), (uw_at 896 (by decide +kernel) rfl), (uw_at 9 (by decide +kernel) rfl), (uw_at 897 (by decide +kernel) rfl), ⟨by decide +kernel, by decide +kernel, by decide +kernel⟩⟩
theorem wM_X8_used : w_MV yX8_used cX8_used 2 (some .int) 1 := ⟨(uw_at 899 (by decide +kernel) rfl), (uw_at 900 (by decide +kernel) rfl), (uw_at 9 (by decide +kernel) rfl), (uw_at 901 (by decide +kernel) rfl), ⟨by decide +kernel, by decide +kernel, by decide +kernel⟩⟩
theorem wM_X8_length : w_MV yX8_length cX8_length 1 (some .int) 0 := ⟨(uw_at 903 (by decide +kernel) rfl), (uw_at 904 (by decide +kernel) rfl), (uw_at 9 (by decide +kernel) rfl), (uw_at 905 (by decide +kernel) rfl), ⟨by decide +kernel, by decide +kernel, by decide +kernel⟩⟩
theorem wM_X8_make : w_MV yX8_make cX8_make 3 (some .int) 0 := ⟨(uw_at 907 (by decide +kernel) rfl), (uw_at 908 (by decide +kernel) rfl), (uw_at 9 (by decide +kernel) rfl), (uw_at 909 (by decide +kernel) rfl), ⟨by decide +kernel, by decide +kernel, by decide +kernel⟩⟩
theorem wM_X8_undo : w_MV yX8_undo cX8_undo 3 (some .boolean) 0 := ⟨(uw_at 911 (by decide +kernel) rfl), (uw_at 912 (by decide +kernel) rfl), (uw_at 9 (by decide +kernel) rfl), (uw_at 913 (by decide +kernel) rfl), ⟨by decide +kernel, by decide +kernel, by decide +kernel⟩⟩
theorem wM_X8_literal : w_MV yX8_literal cX8_literal 3 (some .int) 2 := ⟨(uw_at 915 (by decide +kernel) rfl), (uw_at 916 (by decide +kernel) rfl), (uw_at 9 (by decide +kernel) rfl), (uw_at 917 (by decide +kernel) rfl), ⟨by decide +kernel, by decide +kernel, by decide +kernel⟩⟩
theorem wM_X8_count : w_MV yX8_count cX8_count 4 (some .int) 1 := ⟨(uw_at 919 (by decide +kernel) rfl), (uw_at 920 (by decide +kernel) rfl), (uw_at 9 (by decide +kernel) rfl), (uw_at 921 (by decide +kernel) rfl), ⟨by decide +kernel, by decide +kernel, by decide +kernel⟩⟩
end
section
abbrev vwCl : List vw_C := [(RX0, TX0, 5), (RX1, TX1, 3), (RX2, TX2, 3), (RX3, TX3, 10), (RX4, TX4, 3), (RX5, TX5, 5), (RX6, TX6, 3), (RX7, TX7, 7), (RX8, TX8, 31)]
/-! the array classes of the worlds -/
abbrev w_ty (y : Nat → ClassId) : List (ClassId × FieldType) := [(y 0, .int), (y 1, .boolean), (y 2, .object "LeastEdits$Edit"), (y 3, .long)]
abbrev w_rm (d : Nat) : Room := { frames := d, cells := 0, slots := 0, locals := 34 * d }
def w_NW (s : State) : Prop := va_Nw (.methodLinkNest RX5 25 yX1_init "LeastEdits") s ∧ va_Nw (.methodLinkNest RX4 17 yX1_init "LeastEdits") s ∧ va_Nw (.methodLinkNest RX2 22 yX7_column "LeastEdits") s ∧ va_Nw (.methodLinkNest RX3 55 yX7_column "LeastEdits") s ∧ va_Nw (.fieldLinkNest RX3 48 "LeastEdits" "INPUT_COLUMNS" "[I" "LeastEdits") s ∧ va_Nw (.methodLinkNest RX5 112 yX7_column "LeastEdits") s
theorem w_nw_X5_25 : ∀ s, w_NW s → va_Nw (.methodLinkNest RX5 25 yX1_init "LeastEdits") s := fun _ h => h.1
theorem w_nw_X4_17 : ∀ s, w_NW s → va_Nw (.methodLinkNest RX4 17 yX1_init "LeastEdits") s := fun _ h => h.2.1
theorem w_nw_X2_22 : ∀ s, w_NW s → va_Nw (.methodLinkNest RX2 22 yX7_column "LeastEdits") s := fun _ h => h.2.2.1
theorem w_nw_X3_55 : ∀ s, w_NW s → va_Nw (.methodLinkNest RX3 55 yX7_column "LeastEdits") s := fun _ h => h.2.2.2.1
theorem w_nw_X3_48 : ∀ s, w_NW s → va_Nw (.fieldLinkNest RX3 48 "LeastEdits" "INPUT_COLUMNS" "[I" "LeastEdits") s := fun _ h => h.2.2.2.2.1
theorem w_nw_X5_112 : ∀ s, w_NW s → va_Nw (.methodLinkNest RX5 112 yX7_column "LeastEdits") s := fun _ h => h.2.2.2.2.2
/-- Z is the judgement 'the machine, at this place of the method's body, in this world, comes to the method's end' -/
def w_Is (l : Launch) (g : va_G) (y : Nat → ClassId) (R : Room) (cc : ByteArray) (own : String) (nL : Nat) (Z : Nat → Nat → va_W → Nat → List (Nat × Value) → List Value → Prop) : Prop :=
  ∃ (p : Program) (e : Env) (s : State) (m : MethodId) (args : Array Value) (below : List Frame) (meth : Method) (c : Code) (A : Nat → Prop) (Q : State → Prop),
    (p.tables.exec = Jvm.exec ∧ c.code = cc ∧ c.maxLocals = nL ∧ s.vm.findClass own = some m.cls ∧ (∀ w ∈ UW, w.before args s = true) ∧ va_K g vwCl (w_ty y) s ∧ (∀ q, s.heap.size ≤ q → A q) ∧ w_NW s) ∧
    ∀ k n ws pc lv st, (Z k n ws pc lv st ↔ (k ≤ R.cells → n ≤ R.slots → ∀ (H : Heap) (locs : List Loc) (ls : Array Slot), va_P g vwCl ws H → va_D A ws → va_S A s.heap H locs → lv_has ls nL lv → W p l e R s m args below meth c H locs k n Q (F0 m pc ls st)))
def w_Q (g : va_G) (y : Nat → ClassId) (ws : va_W) (sz : Nat) (ov : Option Value) (ws' : va_W) : Array Value → State → Outcome → State → Prop := fun _ st oc t =>
  (oc = .returned ov ∧ va_P g vwCl ws' t.heap ∧ va_K g vwCl (w_ty y) t ∧ va_D (va_A ws sz) ws') ∧ va_F (va_A ws sz) st t
def w_Pc (g : va_G) (y : Nat → ClassId) (sz : Nat) (av : List Value) (ws : va_W) : Array Value → State → Prop := va_Pc av (fun U => U.heap.size = sz ∧ va_P g vwCl ws U.heap ∧ va_K g vwCl (w_ty y) U ∧ va_D (fun _ => True) ws ∧ w_NW U)
/-- a method's contract: from the world ws with these arguments it returns ov, in the world ws' -/
def w_C (l : Launch) (g : va_G) (y : Nat → ClassId) (yN : MethodName) (cc : ByteArray) (mL : Nat) (ret : Option FieldType) (d : Nat) (av : List Value) (ws : va_W) (ov : Option Value) (ws' : va_W) : Prop :=
  ∀ sz, Met l yN (.code yN cc mL ret :: UW) (w_rm d) (w_Pc g y sz av ws) (w_Q g y ws sz ov ws') 0 0 (va_A ws sz)
theorem w_NW.same {u U : State} (h : u.vm = U.vm) (hn : w_NW u) : w_NW U := ⟨va_Nw.same rfl h hn.1, va_Nw.same rfl h hn.2.1, va_Nw.same rfl h hn.2.2.1, va_Nw.same rfl h hn.2.2.2.1, va_Nw.same rfl h hn.2.2.2.2.1, va_Nw.same rfl h hn.2.2.2.2.2⟩
theorem w_NW.warm {s U : State} (hW : s.WarmedH U.vm) (hn : w_NW s) : w_NW U := ⟨va_Nw.warmM hW hn.1, va_Nw.warmM hW hn.2.1, va_Nw.warmM hW hn.2.2.1, va_Nw.warmM hW hn.2.2.2.1, va_Nw.warmF hW hn.2.2.2.2.1, va_Nw.warmM hW hn.2.2.2.2.2⟩
theorem w_Pc.blind {g : va_G} {y : Nat → ClassId} {sz : Nat} {av : List Value} {ws : va_W} : FrameBlind (w_Pc g y sz av ws) := by
  intro a U gg mk q
  obtain ⟨q0, q1, qP, qK, qD, qN⟩ := q
  exact ⟨q0, q1, qP, va_K.moved (u := U) (U := U.calling gg mk a) (Vm.Alike.refl U.vm) qK, qD, w_NW.same rfl qN⟩
section WC
variable {l : Launch} {g : va_G} {y : Nat → ClassId} {R : Room} {cc : ByteArray} {own : String} {nL : Nat} {Z : Nat → Nat → va_W → Nat → List (Nat × Value) → List Value → Prop} {k n pc : Nat} {ws ws' : va_W} {lv : List (Nat × Value)} {st rest : List Value}
theorem w_call {p : Program} {e : Env} {s : State} {m : MethodId} {args : Array Value} {below : List Frame} {meth : Method} {c : Code} {A : Nat → Prop} {Q : State → Prop} {H : Heap} {locs : List Loc} {ls : Array Slot} {a : Array Value} {ov : Option Value}
    (hr : va_Run p l e R s m args below meth c H locs k n 0 0 (F0 m pc ls st) rest (w_Q g y ws H.size ov ws' a) (va_A ws H.size)) (hP : va_P g vwCl ws H) (hD : va_D A ws) (hS : va_S A s.heap H locs) (hA : ∀ q, s.heap.size ≤ q → A q)
    (kk : ∀ (H1 : Heap) (locs1 : List Loc), va_P g vwCl ws' H1 → va_D A ws' → va_S A s.heap H1 locs1 → W p l e R s m args below meth c H1 locs1 k n Q (F0 m (pc + 3) ls (ov.toList ++ rest))) : W p l e R s m args below meth c H locs k n Q (F0 m pc ls st) := by
  have hF : ∀ q, va_A ws H.size q → A q := fun q h => h.elim (fun ⟨k, e, h⟩ => hD.2 k (q, e) h) (fun h => hA q (Nat.le_trans hS.1 h))
  intro T hT X
  obtain ⟨v, st₀, t, T', L, h0, X', hL, e1, e2, ⟨⟨hv, hP1, hK1, hD1⟩, hz, hk⟩, stp⟩ := hr T hT X
  cases hv
  rw [h0] at hz hk
  obtain ⟨t2, a1, b1⟩ := kk T'.heap (locs ++ L) (by rw [e1]; exact hP1) (hD1.weaken (fun _ _ _ h => hF _ h))
    ⟨Nat.le_trans hS.1 (by rw [e1]; exact hz), fun q h1 h2 => by rw [e1, hk q (Nat.lt_of_lt_of_le h1 hS.1) (fun z => h2 (hF q z))]; exact hS.2.1 q h1 h2, fun q hq => by
      rcases List.mem_append.mp hq with h | h
      · exact hS.2.2 q h
      · exact hF _ (hL q h)⟩ T' rfl X'
  exact ⟨t2, stp t2 a1, b1⟩
theorem w_uw (yN : MethodName) (c1 : ByteArray) (mL : Nat) (ret : Option FieldType) (h : Cond.code yN c1 mL ret ∈ UW) : GoodIn UW (.code yN c1 mL ret :: UW) := uw_cons h uw_self
variable {yN : MethodName} {c1 : ByteArray} {mL d na : Nat} {ret : Option FieldType} {av : List Value} {ov : Option Value} {b idx : Nat}
theorem r_callV (hC : w_C l g y yN c1 mL ret d (.ref b :: av) ws ov ws') (hM : w_MV yN c1 mL ret na) (wl : Cond.methodLink own idx yN ∈ UW) (hZ : w_Is l g y R cc own nL Z) (hna : av.length = na) (hR : d + 1 ≤ R.frames ∧ 8 + (mL + 11) + 34 * d ≤ R.locals) (q0 ci : Nat) {fs : List Value} {T : u_T} {N : Nat} (he : ws[q0]? = some (b, .inr (ci, fs))) (hcl : vwCl[ci]? = some (yN.cls, T, N)) (hst : st = av.reverse ++ .ref b :: rest) (hW : (rest.map fun v => v.category).sum ≤ 8) (dd : decode cc pc = .ok (.invokevirtual idx, 3)) (k1 : Z k n ws' (pc + 3) lv (ov.toList ++ rest)) : Z k n ws pc lv st := by
  obtain ⟨p, e, s, m, args, below, meth, c, A, Q, ⟨hx, hb, hml, hown, hts, hK, hA, hN⟩, hi⟩ := hZ
  rw [hi] at k1 ⊢
  obtain ⟨wi, wsel, wini, wc, hdd⟩ := hM
  intro h1 h2 H locs ls hP hD hS hl
  refine w_call (va_runV (As := av) (rest := rest) ⟨hx, hb, hml, hown, hts⟩ (hC H.size) (cwV na hts (show GoodIn UW (wsV own idx yN.cls yN (.code yN c1 mL ret :: UW)) from uw_cons wl (uw_cons wi (uw_cons wsel (uw_cons wini (w_uw yN c1 mL ret wc))))) rfl rfl rfl ⟨rfl, hdd⟩ hR) ⟨w_Pc.blind, va_recv hK hP hcl he, fun U hU hW => ⟨rfl, by rw [hU], by rw [hU]; exact hP, va_K.moved hW.alike hK, hD.weaken (fun _ _ _ _ => trivial), w_NW.warm hW hN⟩⟩ rfl hna hl.1 hst (lv_room hW) dd ⟨h1, h2⟩) hP hD hS hA (fun H1 locs1 hP1 hD1 hS1 => k1 h1 h2 H1 locs1 ls hP1 hD1 hS1 hl)
theorem r_callS (hC : w_C l g y yN c1 mL ret d av ws ov ws') (hM : w_MS yN c1 mL ret na) (wl : Cond.methodLink own idx yN ∈ UW) (hZ : w_Is l g y R cc own nL Z) (hna : av.length = na) (hR : d + 1 ≤ R.frames ∧ 8 + (mL + 11) + 34 * d ≤ R.locals) (hst : st = av.reverse ++ rest) (hW : (rest.map fun v => v.category).sum ≤ 8) (dd : decode cc pc = .ok (.invokestatic idx, 3)) (k1 : Z k n ws' (pc + 3) lv (ov.toList ++ rest)) : Z k n ws pc lv st := by
  obtain ⟨p, e, s, m, args, below, meth, c, A, Q, ⟨hx, hb, hml, hown, hts, hK, hA, hN⟩, hi⟩ := hZ
  rw [hi] at k1 ⊢
  obtain ⟨wi, wini, wc, hdd⟩ := hM
  intro h1 h2 H locs ls hP hD hS hl
  refine w_call (va_runS (As := av) (rest := rest) ⟨hx, hb, hml, hown, hts⟩ (hC H.size) (va_cwS na hts (show GoodIn UW (va_wsS own idx yN (.code yN c1 mL ret :: UW)) from uw_cons wl (uw_cons wi (uw_cons wini (w_uw yN c1 mL ret wc)))) rfl rfl rfl hdd hR) ⟨w_Pc.blind, fun U hU hW => ⟨rfl, by rw [hU], by rw [hU]; exact hP, va_K.moved hW.alike hK, hD.weaken (fun _ _ _ _ => trivial), w_NW.warm hW hN⟩⟩ rfl hna hl.1 hst (lv_room hW) dd ⟨h1, h2⟩) hP hD hS hA (fun H1 locs1 hP1 hD1 hS1 => k1 h1 h2 H1 locs1 ls hP1 hD1 hS1 hl)
theorem r_callSN {host : String} (hC : w_C l g y yN c1 mL ret d av ws ov ws') (hM : w_MS yN c1 mL ret na) (wl : ∀ s, w_NW s → va_Nw (.methodLinkNest own idx yN host) s) (hZ : w_Is l g y R cc own nL Z) (hna : av.length = na) (hR : d + 1 ≤ R.frames ∧ 8 + (mL + 11) + 34 * d ≤ R.locals) (hst : st = av.reverse ++ rest) (hW : (rest.map fun v => v.category).sum ≤ 8) (dd : decode cc pc = .ok (.invokestatic idx, 3)) (k1 : Z k n ws' (pc + 3) lv (ov.toList ++ rest)) : Z k n ws pc lv st := by
  obtain ⟨p, e, s, m, args, below, meth, c, A, Q, ⟨hx, hb, hml, hown, hts, hK, hA, hN⟩, hi⟩ := hZ
  rw [hi] at k1 ⊢
  obtain ⟨wi, wini, wc, hdd⟩ := hM
  intro h1 h2 H locs ls hP hD hS hl
  refine w_call (va_runSN (As := av) (rest := rest) ⟨hx, hb, hml, hown, hts⟩ (hC H.size) ⟨va_cnB na hts (w_uw yN c1 mL ret wc) rfl rfl rfl (wl s hN) (hts _ wini) hdd hR, hts _ wi, trivial⟩ ⟨w_Pc.blind, fun U hU hW => ⟨rfl, by rw [hU], by rw [hU]; exact hP, va_K.moved hW.alike hK, hD.weaken (fun _ _ _ _ => trivial), w_NW.warm hW hN⟩⟩ rfl hna hl.1 hst (lv_room hW) dd ⟨h1, h2⟩) hP hD hS hA (fun H1 locs1 hP1 hD1 hS1 => k1 h1 h2 H1 locs1 ls hP1 hD1 hS1 hl)
theorem w_body {lv0 : List (Nat × Value)} {Qr : (Nat → Nat → va_W → Nat → List (Nat × Value) → List Value → Prop) → Prop} (hpl : plainName yN.cls = true) (hsl : (lg_sl av).length ≤ mL) (hlv : lv_args 0 av = lv0)
    (hret : ∀ (p : Program) (e : Env) (s : State) (m : MethodId) (args : Array Value) (below : List Frame) (meth : Method) (c : Code), p.tables.exec = Jvm.exec → c.code = c1 → meth.sig.returnType = ret → meth.locks = false → ∀ Z, (∀ k n ws2 pc lv st, (Z k n ws2 pc lv st ↔ (k ≤ (w_rm d).cells → n ≤ (w_rm d).slots → ∀ (H : Heap) (locs : List Loc) (ls : Array Slot), va_P g vwCl ws2 H → va_D (va_A ws s.heap.size) ws2 → va_S (va_A ws s.heap.size) s.heap H locs → lv_has ls mL lv → W p l e (w_rm d) s m args below meth c H locs k n (MQ below (w_Q g y ws s.heap.size ov ws') args s 0 0 (va_A ws s.heap.size)) (F0 m pc ls st)))) → va_K g vwCl (w_ty y) s → Qr Z)
    (body : ∀ Z, w_Is l g y (w_rm d) c1 yN.cls mL Z → Qr Z → Z 0 0 ws 0 lv0 []) : w_C l g y yN c1 mL ret d av ws ov ws' := by
  intro sz
  refine Met.ofW (cc := c1) (maxL := mL) (ret := ret) hpl rfl ?_
  intro p e s m args below meth c s₁ B hml hv
  obtain ⟨rfl, hsz, hP, hK, hD0, hN⟩ := hv
  subst hsz
  have hts := atoms_spec (ws := .code yN c1 mL ret :: UW) B.pre
  have h := body (fun k n ws2 pc lv st => (k ≤ (w_rm d).cells → n ≤ (w_rm d).slots → ∀ (H : Heap) (locs : List Loc) (ls : Array Slot), va_P g vwCl ws2 H → va_D (va_A ws s.heap.size) ws2 → va_S (va_A ws s.heap.size) s.heap H locs → lv_has ls mL lv → W p l e (w_rm d) s m av.toArray below meth c H locs k n (MQ below (w_Q g y ws s.heap.size ov ws') av.toArray s 0 0 (va_A ws s.heap.size)) (F0 m pc ls st)))
    ⟨p, e, s, m, av.toArray, below, meth, c, _, _, ⟨B.exec, B.bytes, hml, findClass_of_methodNamed B.named, fun w hw => hts w (List.mem_cons_of_mem _ hw), hK, fun q h => Or.inr h, hN⟩, fun _ _ _ _ _ _ => Iff.rfl⟩
    (hret p e s m av.toArray below meth c B.exec B.bytes B.returns B.notSynchronized _ (fun _ _ _ _ _ _ => Iff.rfl) hK)
  have hl := lv_entry av (n := mL) hsl
  rw [lg_entry_eq]
  rw [hlv] at hl
  exact h (Nat.zero_le _) (Nat.zero_le _) s.heap [] _ hP (hD0.self) va_S.rf hl
theorem w_ofI {r : Int32} {ty : FieldType} {lv0 : List (Nat × Value)} (hpl : plainName yN.cls = true) (hsl : (lg_sl av).length ≤ mL) (hlv : lv_args 0 av = lv0) (hn : narrow ty (.int r) = .int r)
    (body : ∀ Z, w_Is l g y (w_rm d) c1 yN.cls mL Z → (∀ ws2 r2 pc lv, decode c1 pc = .ok (.ireturn, 1) → r2 = r → ws2 = ws' → Z 0 0 ws2 pc lv [.int r2]) → Z 0 0 ws 0 lv0 []) : w_C l g y yN c1 mL (some ty) d av ws (some (.int r)) ws' := by
  refine w_body (Qr := fun Z => ∀ ws2 r2 pc lv, decode c1 pc = .ok (.ireturn, 1) → r2 = r → ws2 = ws' → Z 0 0 ws2 pc lv [.int r2]) hpl hsl hlv ?_ body
  intro p e s m args below meth c hx hb hr hlo Z hi hK ws2 r2 pc lv dd e1 e2
  subst e1; subst e2
  rw [hi]
  intro _ _ H locs ls hP hD hS hl
  exact W.zret hx hb hr hn (fun t ht hW => ⟨⟨rfl, by rw [ht]; exact hP, va_K.moved hW.alike hK, hD⟩, hS.F ht⟩) hS.2.2 dd hlo
theorem w_ofV {lv0 : List (Nat × Value)} (hpl : plainName yN.cls = true) (hsl : (lg_sl av).length ≤ mL) (hlv : lv_args 0 av = lv0)
    (body : ∀ Z, w_Is l g y (w_rm d) c1 yN.cls mL Z → (∀ ws2 pc lv, decode c1 pc = .ok (.return_, 1) → ws2 = ws' → Z 0 0 ws2 pc lv []) → Z 0 0 ws 0 lv0 []) : w_C l g y yN c1 mL none d av ws none ws' := by
  refine w_body (Qr := fun Z => ∀ ws2 pc lv, decode c1 pc = .ok (.return_, 1) → ws2 = ws' → Z 0 0 ws2 pc lv []) hpl hsl hlv ?_ body
  intro p e s m args below meth c hx hb hr hlo Z hi hK ws2 pc lv dd e2
  subst e2
  rw [hi]
  intro _ _ H locs ls hP hD hS hl
  exact W.vret hx hb hr (fun t ht hW => ⟨⟨rfl, by rw [ht]; exact hP, va_K.moved hW.alike hK, hD⟩, hS.F ht⟩) hS.2.2 dd hlo
theorem w_ofL {r : Int64} {lv0 : List (Nat × Value)} (hpl : plainName yN.cls = true) (hsl : (lg_sl av).length ≤ mL) (hlv : lv_args 0 av = lv0)
    (body : ∀ Z, w_Is l g y (w_rm d) c1 yN.cls mL Z → (∀ ws2 r2 pc lv, decode c1 pc = .ok (.lreturn, 1) → r2 = r → ws2 = ws' → Z 0 0 ws2 pc lv [.long r2]) → Z 0 0 ws 0 lv0 []) : w_C l g y yN c1 mL (some .long) d av ws (some (.long r)) ws' := by
  refine w_body (Qr := fun Z => ∀ ws2 r2 pc lv, decode c1 pc = .ok (.lreturn, 1) → r2 = r → ws2 = ws' → Z 0 0 ws2 pc lv [.long r2]) hpl hsl hlv ?_ body
  intro p e s m args below meth c hx hb hr hlo Z hi hK ws2 r2 pc lv dd e1 e2
  subst e1; subst e2
  rw [hi]
  intro _ _ H locs ls hP hD hS hl
  exact W.lret hx hb hr (fun t ht hW => ⟨⟨rfl, by rw [ht]; exact hP, va_K.moved hW.alike hK, hD⟩, hS.F ht⟩) hS.2.2 dd hlo
end WC
section WR
variable {l : Launch} {g : va_G} {y : Nat → ClassId} {R : Room} {cc : ByteArray} {own : String} {nL : Nat} {Z : Nat → Nat → va_W → Nat → List (Nat × Value) → List Value → Prop} {k n pc : Nat} {ws : va_W} {lv : List (Nat × Value)} {st : List Value}
theorem r_iconst (pc2 : Nat) (hZ : w_Is l g y R cc own nL Z) {z : Int} {v : Int32} (dd : decode cc pc = .ok (.iconst z, 1)) (hp : pc + 1 = pc2) (hv : Int32.ofInt z = v) (k1 : Z k n ws pc2 lv (.int v :: st)) : Z k n ws pc lv (st) := by
  obtain ⟨p, e, s, m, args, below, meth, c, A, Q, ⟨hx, hb, hml, hown, hts, hK, hA, hN⟩, hi⟩ := hZ
  subst hp
  rw [hi] at k1 ⊢
  exact fun h1 h2 H locs ls hP hD hS hl => lv_iconst hx hb dd hv (k1 h1 h2 H locs ls hP hD hS hl)
theorem r_bipush (pc2 : Nat) (hZ : w_Is l g y R cc own nL Z) {z : Int} {v : Int32} (dd : decode cc pc = .ok (.bipush z, 2)) (hp : pc + 2 = pc2) (hv : (Int8.ofInt z).toInt32 = v) (k1 : Z k n ws pc2 lv (.int v :: st)) : Z k n ws pc lv (st) := by
  obtain ⟨p, e, s, m, args, below, meth, c, A, Q, ⟨hx, hb, hml, hown, hts, hK, hA, hN⟩, hi⟩ := hZ
  subst hp
  rw [hi] at k1 ⊢
  exact fun h1 h2 H locs ls hP hD hS hl => lv_bipush hx hb dd hv (k1 h1 h2 H locs ls hP hD hS hl)
theorem r_sipush (pc2 : Nat) (hZ : w_Is l g y R cc own nL Z) {z : Int} {v : Int32} (dd : decode cc pc = .ok (.sipush z, 3)) (hp : pc + 3 = pc2) (hv : (Int16.ofInt z).toInt32 = v) (k1 : Z k n ws pc2 lv (.int v :: st)) : Z k n ws pc lv (st) := by
  obtain ⟨p, e, s, m, args, below, meth, c, A, Q, ⟨hx, hb, hml, hown, hts, hK, hA, hN⟩, hi⟩ := hZ
  subst hp
  rw [hi] at k1 ⊢
  exact fun h1 h2 H locs ls hP hD hS hl => lv_sipush hx hb dd hv (k1 h1 h2 H locs ls hP hD hS hl)
theorem r_lconst (pc2 : Nat) (hZ : w_Is l g y R cc own nL Z) {z : Fin 2} {v : Int64} (dd : decode cc pc = .ok (.lconst z, 1)) (hp : pc + 1 = pc2) (hv : Int64.ofNat (z : Nat) = v) (k1 : Z k n ws pc2 lv (.long v :: st)) : Z k n ws pc lv (st) := by
  obtain ⟨p, e, s, m, args, below, meth, c, A, Q, ⟨hx, hb, hml, hown, hts, hK, hA, hN⟩, hi⟩ := hZ
  subst hp
  rw [hi] at k1 ⊢
  exact fun h1 h2 H locs ls hP hD hS hl => lv_lconst hx hb dd hv (k1 h1 h2 H locs ls hP hD hS hl)
theorem r_ldc2 (pc2 : Nat) (hZ : w_Is l g y R cc own nL Z) {ix : Nat} {v : Int64} (dd : decode cc pc = .ok (.ldc2_w ix, 3)) (hp : pc + 3 = pc2) (wk : Cond.constantLong own ix v ∈ UW) (k1 : Z k n ws pc2 lv (.long v :: st)) : Z k n ws pc lv (st) := by
  obtain ⟨p, e, s, m, args, below, meth, c, A, Q, ⟨hx, hb, hml, hown, hts, hK, hA, hN⟩, hi⟩ := hZ
  subst hp
  rw [hi] at k1 ⊢
  exact fun h1 h2 H locs ls hP hD hS hl => lv_ldc2 hx hb hown (hts _ wk) dd  (k1 h1 h2 H locs ls hP hD hS hl)
theorem r_iload_n (pc2 : Nat) (hZ : w_Is l g y R cc own nL Z) (j : Nat) {q : Fin 4} {i : Nat} {x : Int32} (dd : decode cc pc = .ok (.iload_n q, 1)) (hp : pc + 1 = pc2) (hq : (q : Nat) = i) (hj : lv[j]? = some (i, .int x)) (k1 : Z k n ws pc2 lv (.int x :: st)) : Z k n ws pc lv (st) := by
  obtain ⟨p, e, s, m, args, below, meth, c, A, Q, ⟨hx, hb, hml, hown, hts, hK, hA, hN⟩, hi⟩ := hZ
  subst hp
  rw [hi] at k1 ⊢
  exact fun h1 h2 H locs ls hP hD hS hl => lv_iload_n hx hb dd hq (lv_at hl j hj) (k1 h1 h2 H locs ls hP hD hS hl)
theorem r_iload (pc2 : Nat) (hZ : w_Is l g y R cc own nL Z) (j : Nat) {i : Nat} {x : Int32} (dd : decode cc pc = .ok (.iload i, 2)) (hp : pc + 2 = pc2) (hj : lv[j]? = some (i, .int x)) (k1 : Z k n ws pc2 lv (.int x :: st)) : Z k n ws pc lv (st) := by
  obtain ⟨p, e, s, m, args, below, meth, c, A, Q, ⟨hx, hb, hml, hown, hts, hK, hA, hN⟩, hi⟩ := hZ
  subst hp
  rw [hi] at k1 ⊢
  exact fun h1 h2 H locs ls hP hD hS hl => lv_iload hx hb dd (lv_at hl j hj) (k1 h1 h2 H locs ls hP hD hS hl)
theorem r_lload_n (pc2 : Nat) (hZ : w_Is l g y R cc own nL Z) (j : Nat) {q : Fin 4} {i : Nat} {x : Int64} (dd : decode cc pc = .ok (.lload_n q, 1)) (hp : pc + 1 = pc2) (hq : (q : Nat) = i) (hj : lv[j]? = some (i, .long x)) (k1 : Z k n ws pc2 lv (.long x :: st)) : Z k n ws pc lv (st) := by
  obtain ⟨p, e, s, m, args, below, meth, c, A, Q, ⟨hx, hb, hml, hown, hts, hK, hA, hN⟩, hi⟩ := hZ
  subst hp
  rw [hi] at k1 ⊢
  exact fun h1 h2 H locs ls hP hD hS hl => lv_lload_n hx hb dd hq (lv_at hl j hj) (k1 h1 h2 H locs ls hP hD hS hl)
theorem r_lload (pc2 : Nat) (hZ : w_Is l g y R cc own nL Z) (j : Nat) {i : Nat} {x : Int64} (dd : decode cc pc = .ok (.lload i, 2)) (hp : pc + 2 = pc2) (hj : lv[j]? = some (i, .long x)) (k1 : Z k n ws pc2 lv (.long x :: st)) : Z k n ws pc lv (st) := by
  obtain ⟨p, e, s, m, args, below, meth, c, A, Q, ⟨hx, hb, hml, hown, hts, hK, hA, hN⟩, hi⟩ := hZ
  subst hp
  rw [hi] at k1 ⊢
  exact fun h1 h2 H locs ls hP hD hS hl => lv_lload hx hb dd (lv_at hl j hj) (k1 h1 h2 H locs ls hP hD hS hl)
theorem r_aload_n (pc2 : Nat) (hZ : w_Is l g y R cc own nL Z) (j : Nat) {q : Fin 4} {i : Nat} {x : Nat} (dd : decode cc pc = .ok (.aload_n q, 1)) (hp : pc + 1 = pc2) (hq : (q : Nat) = i) (hj : lv[j]? = some (i, .ref x)) (k1 : Z k n ws pc2 lv (.ref x :: st)) : Z k n ws pc lv (st) := by
  obtain ⟨p, e, s, m, args, below, meth, c, A, Q, ⟨hx, hb, hml, hown, hts, hK, hA, hN⟩, hi⟩ := hZ
  subst hp
  rw [hi] at k1 ⊢
  exact fun h1 h2 H locs ls hP hD hS hl => lv_aload_n hx hb dd hq (lv_at hl j hj) (k1 h1 h2 H locs ls hP hD hS hl)
theorem r_aload (pc2 : Nat) (hZ : w_Is l g y R cc own nL Z) (j : Nat) {i : Nat} {x : Nat} (dd : decode cc pc = .ok (.aload i, 2)) (hp : pc + 2 = pc2) (hj : lv[j]? = some (i, .ref x)) (k1 : Z k n ws pc2 lv (.ref x :: st)) : Z k n ws pc lv (st) := by
  obtain ⟨p, e, s, m, args, below, meth, c, A, Q, ⟨hx, hb, hml, hown, hts, hK, hA, hN⟩, hi⟩ := hZ
  subst hp
  rw [hi] at k1 ⊢
  exact fun h1 h2 H locs ls hP hD hS hl => lv_aload hx hb dd (lv_at hl j hj) (k1 h1 h2 H locs ls hP hD hS hl)
theorem r_iadd (pc2 : Nat) (hZ : w_Is l g y R cc own nL Z) {a b : Int32} (dd : decode cc pc = .ok (.iadd, 1)) (hp : pc + 1 = pc2)  (k1 : Z k n ws pc2 lv (.int (a + b) :: st)) : Z k n ws pc lv (.int b :: .int a :: st) := by
  obtain ⟨p, e, s, m, args, below, meth, c, A, Q, ⟨hx, hb, hml, hown, hts, hK, hA, hN⟩, hi⟩ := hZ
  subst hp
  rw [hi] at k1 ⊢
  exact fun h1 h2 H locs ls hP hD hS hl => lv_iadd hx hb dd  (k1 h1 h2 H locs ls hP hD hS hl)
theorem r_isub (pc2 : Nat) (hZ : w_Is l g y R cc own nL Z) {a b : Int32} (dd : decode cc pc = .ok (.isub, 1)) (hp : pc + 1 = pc2)  (k1 : Z k n ws pc2 lv (.int (a - b) :: st)) : Z k n ws pc lv (.int b :: .int a :: st) := by
  obtain ⟨p, e, s, m, args, below, meth, c, A, Q, ⟨hx, hb, hml, hown, hts, hK, hA, hN⟩, hi⟩ := hZ
  subst hp
  rw [hi] at k1 ⊢
  exact fun h1 h2 H locs ls hP hD hS hl => lv_isub hx hb dd  (k1 h1 h2 H locs ls hP hD hS hl)
theorem r_imul (pc2 : Nat) (hZ : w_Is l g y R cc own nL Z) {a b : Int32} (dd : decode cc pc = .ok (.imul, 1)) (hp : pc + 1 = pc2)  (k1 : Z k n ws pc2 lv (.int (a * b) :: st)) : Z k n ws pc lv (.int b :: .int a :: st) := by
  obtain ⟨p, e, s, m, args, below, meth, c, A, Q, ⟨hx, hb, hml, hown, hts, hK, hA, hN⟩, hi⟩ := hZ
  subst hp
  rw [hi] at k1 ⊢
  exact fun h1 h2 H locs ls hP hD hS hl => lv_imul hx hb dd  (k1 h1 h2 H locs ls hP hD hS hl)
theorem r_iand (pc2 : Nat) (hZ : w_Is l g y R cc own nL Z) {a b : Int32} (dd : decode cc pc = .ok (.iand, 1)) (hp : pc + 1 = pc2)  (k1 : Z k n ws pc2 lv (.int (a &&& b) :: st)) : Z k n ws pc lv (.int b :: .int a :: st) := by
  obtain ⟨p, e, s, m, args, below, meth, c, A, Q, ⟨hx, hb, hml, hown, hts, hK, hA, hN⟩, hi⟩ := hZ
  subst hp
  rw [hi] at k1 ⊢
  exact fun h1 h2 H locs ls hP hD hS hl => lv_iand hx hb dd  (k1 h1 h2 H locs ls hP hD hS hl)
theorem r_ior (pc2 : Nat) (hZ : w_Is l g y R cc own nL Z) {a b : Int32} (dd : decode cc pc = .ok (.ior, 1)) (hp : pc + 1 = pc2)  (k1 : Z k n ws pc2 lv (.int (a ||| b) :: st)) : Z k n ws pc lv (.int b :: .int a :: st) := by
  obtain ⟨p, e, s, m, args, below, meth, c, A, Q, ⟨hx, hb, hml, hown, hts, hK, hA, hN⟩, hi⟩ := hZ
  subst hp
  rw [hi] at k1 ⊢
  exact fun h1 h2 H locs ls hP hD hS hl => lv_ior hx hb dd  (k1 h1 h2 H locs ls hP hD hS hl)
theorem r_ixor (pc2 : Nat) (hZ : w_Is l g y R cc own nL Z) {a b : Int32} (dd : decode cc pc = .ok (.ixor, 1)) (hp : pc + 1 = pc2)  (k1 : Z k n ws pc2 lv (.int (a ^^^ b) :: st)) : Z k n ws pc lv (.int b :: .int a :: st) := by
  obtain ⟨p, e, s, m, args, below, meth, c, A, Q, ⟨hx, hb, hml, hown, hts, hK, hA, hN⟩, hi⟩ := hZ
  subst hp
  rw [hi] at k1 ⊢
  exact fun h1 h2 H locs ls hP hD hS hl => lv_ixor hx hb dd  (k1 h1 h2 H locs ls hP hD hS hl)
theorem r_ineg (pc2 : Nat) (hZ : w_Is l g y R cc own nL Z) {a : Int32} (dd : decode cc pc = .ok (.ineg, 1)) (hp : pc + 1 = pc2)  (k1 : Z k n ws pc2 lv (.int (-a) :: st)) : Z k n ws pc lv (.int a :: st) := by
  obtain ⟨p, e, s, m, args, below, meth, c, A, Q, ⟨hx, hb, hml, hown, hts, hK, hA, hN⟩, hi⟩ := hZ
  subst hp
  rw [hi] at k1 ⊢
  exact fun h1 h2 H locs ls hP hD hS hl => lv_ineg hx hb dd  (k1 h1 h2 H locs ls hP hD hS hl)
theorem r_ladd (pc2 : Nat) (hZ : w_Is l g y R cc own nL Z) {a b : Int64} (dd : decode cc pc = .ok (.ladd, 1)) (hp : pc + 1 = pc2)  (k1 : Z k n ws pc2 lv (.long (a + b) :: st)) : Z k n ws pc lv (.long b :: .long a :: st) := by
  obtain ⟨p, e, s, m, args, below, meth, c, A, Q, ⟨hx, hb, hml, hown, hts, hK, hA, hN⟩, hi⟩ := hZ
  subst hp
  rw [hi] at k1 ⊢
  exact fun h1 h2 H locs ls hP hD hS hl => lv_ladd hx hb dd  (k1 h1 h2 H locs ls hP hD hS hl)
theorem r_lsub (pc2 : Nat) (hZ : w_Is l g y R cc own nL Z) {a b : Int64} (dd : decode cc pc = .ok (.lsub, 1)) (hp : pc + 1 = pc2)  (k1 : Z k n ws pc2 lv (.long (a - b) :: st)) : Z k n ws pc lv (.long b :: .long a :: st) := by
  obtain ⟨p, e, s, m, args, below, meth, c, A, Q, ⟨hx, hb, hml, hown, hts, hK, hA, hN⟩, hi⟩ := hZ
  subst hp
  rw [hi] at k1 ⊢
  exact fun h1 h2 H locs ls hP hD hS hl => lv_lsub hx hb dd  (k1 h1 h2 H locs ls hP hD hS hl)
theorem r_land (pc2 : Nat) (hZ : w_Is l g y R cc own nL Z) {a b : Int64} (dd : decode cc pc = .ok (.land, 1)) (hp : pc + 1 = pc2)  (k1 : Z k n ws pc2 lv (.long (a &&& b) :: st)) : Z k n ws pc lv (.long b :: .long a :: st) := by
  obtain ⟨p, e, s, m, args, below, meth, c, A, Q, ⟨hx, hb, hml, hown, hts, hK, hA, hN⟩, hi⟩ := hZ
  subst hp
  rw [hi] at k1 ⊢
  exact fun h1 h2 H locs ls hP hD hS hl => lv_land hx hb dd  (k1 h1 h2 H locs ls hP hD hS hl)
theorem r_lor (pc2 : Nat) (hZ : w_Is l g y R cc own nL Z) {a b : Int64} (dd : decode cc pc = .ok (.lor, 1)) (hp : pc + 1 = pc2)  (k1 : Z k n ws pc2 lv (.long (a ||| b) :: st)) : Z k n ws pc lv (.long b :: .long a :: st) := by
  obtain ⟨p, e, s, m, args, below, meth, c, A, Q, ⟨hx, hb, hml, hown, hts, hK, hA, hN⟩, hi⟩ := hZ
  subst hp
  rw [hi] at k1 ⊢
  exact fun h1 h2 H locs ls hP hD hS hl => lv_lor hx hb dd  (k1 h1 h2 H locs ls hP hD hS hl)
theorem r_lneg (pc2 : Nat) (hZ : w_Is l g y R cc own nL Z) {a : Int64} (dd : decode cc pc = .ok (.lneg, 1)) (hp : pc + 1 = pc2)  (k1 : Z k n ws pc2 lv (.long (-a) :: st)) : Z k n ws pc lv (.long a :: st) := by
  obtain ⟨p, e, s, m, args, below, meth, c, A, Q, ⟨hx, hb, hml, hown, hts, hK, hA, hN⟩, hi⟩ := hZ
  subst hp
  rw [hi] at k1 ⊢
  exact fun h1 h2 H locs ls hP hD hS hl => lv_lneg hx hb dd  (k1 h1 h2 H locs ls hP hD hS hl)
theorem r_ishl (pc2 : Nat) (hZ : w_Is l g y R cc own nL Z) {a b : Int32} (dd : decode cc pc = .ok (.ishl, 1)) (hp : pc + 1 = pc2)  (k1 : Z k n ws pc2 lv (.int (a <<< (b &&& 31)) :: st)) : Z k n ws pc lv (.int b :: .int a :: st) := by
  obtain ⟨p, e, s, m, args, below, meth, c, A, Q, ⟨hx, hb, hml, hown, hts, hK, hA, hN⟩, hi⟩ := hZ
  subst hp
  rw [hi] at k1 ⊢
  exact fun h1 h2 H locs ls hP hD hS hl => lv_ishl hx hb dd  (k1 h1 h2 H locs ls hP hD hS hl)
theorem r_ishr (pc2 : Nat) (hZ : w_Is l g y R cc own nL Z) {a b : Int32} (dd : decode cc pc = .ok (.ishr, 1)) (hp : pc + 1 = pc2)  (k1 : Z k n ws pc2 lv (.int (a >>> (b &&& 31)) :: st)) : Z k n ws pc lv (.int b :: .int a :: st) := by
  obtain ⟨p, e, s, m, args, below, meth, c, A, Q, ⟨hx, hb, hml, hown, hts, hK, hA, hN⟩, hi⟩ := hZ
  subst hp
  rw [hi] at k1 ⊢
  exact fun h1 h2 H locs ls hP hD hS hl => lv_ishr hx hb dd  (k1 h1 h2 H locs ls hP hD hS hl)
theorem r_iushr (pc2 : Nat) (hZ : w_Is l g y R cc own nL Z) {a b : Int32} (dd : decode cc pc = .ok (.iushr, 1)) (hp : pc + 1 = pc2)  (k1 : Z k n ws pc2 lv (.int ((a.toUInt32 >>> (b.toUInt32 &&& Int32.toUInt32 31)).toInt32) :: st)) : Z k n ws pc lv (.int b :: .int a :: st) := by
  obtain ⟨p, e, s, m, args, below, meth, c, A, Q, ⟨hx, hb, hml, hown, hts, hK, hA, hN⟩, hi⟩ := hZ
  subst hp
  rw [hi] at k1 ⊢
  exact fun h1 h2 H locs ls hP hD hS hl => lv_iushr hx hb dd rfl (k1 h1 h2 H locs ls hP hD hS hl)
theorem r_lshl (pc2 : Nat) (hZ : w_Is l g y R cc own nL Z) {a : Int64} {b : Int32} (dd : decode cc pc = .ok (.lshl, 1)) (hp : pc + 1 = pc2)  (k1 : Z k n ws pc2 lv (.long (a <<< (b.toInt64 &&& 63)) :: st)) : Z k n ws pc lv (.int b :: .long a :: st) := by
  obtain ⟨p, e, s, m, args, below, meth, c, A, Q, ⟨hx, hb, hml, hown, hts, hK, hA, hN⟩, hi⟩ := hZ
  subst hp
  rw [hi] at k1 ⊢
  exact fun h1 h2 H locs ls hP hD hS hl => lv_lshl hx hb dd rfl (k1 h1 h2 H locs ls hP hD hS hl)
theorem r_idiv (pc2 : Nat) (hZ : w_Is l g y R cc own nL Z) {a b : Int32} (dd : decode cc pc = .ok (.idiv, 1)) (hp : pc + 1 = pc2) (hne : ¬ b = 0) (k1 : Z k n ws pc2 lv (.int (a / b) :: st)) : Z k n ws pc lv (.int b :: .int a :: st) := by
  obtain ⟨p, e, s, m, args, below, meth, c, A, Q, ⟨hx, hb, hml, hown, hts, hK, hA, hN⟩, hi⟩ := hZ
  subst hp
  rw [hi] at k1 ⊢
  exact fun h1 h2 H locs ls hP hD hS hl => lv_idiv hx hb dd hne (k1 h1 h2 H locs ls hP hD hS hl)
theorem r_i2l (pc2 : Nat) (hZ : w_Is l g y R cc own nL Z) {a : Int32} (dd : decode cc pc = .ok (.i2l, 1)) (hp : pc + 1 = pc2)  (k1 : Z k n ws pc2 lv (.long a.toInt64 :: st)) : Z k n ws pc lv (.int a :: st) := by
  obtain ⟨p, e, s, m, args, below, meth, c, A, Q, ⟨hx, hb, hml, hown, hts, hK, hA, hN⟩, hi⟩ := hZ
  subst hp
  rw [hi] at k1 ⊢
  exact fun h1 h2 H locs ls hP hD hS hl => lv_i2l hx hb dd rfl (k1 h1 h2 H locs ls hP hD hS hl)
theorem r_l2i (pc2 : Nat) (hZ : w_Is l g y R cc own nL Z) {a : Int64} (dd : decode cc pc = .ok (.l2i, 1)) (hp : pc + 1 = pc2)  (k1 : Z k n ws pc2 lv (.int a.toInt32 :: st)) : Z k n ws pc lv (.long a :: st) := by
  obtain ⟨p, e, s, m, args, below, meth, c, A, Q, ⟨hx, hb, hml, hown, hts, hK, hA, hN⟩, hi⟩ := hZ
  subst hp
  rw [hi] at k1 ⊢
  exact fun h1 h2 H locs ls hP hD hS hl => lv_l2i hx hb dd rfl (k1 h1 h2 H locs ls hP hD hS hl)
theorem r_lcmp (pc2 : Nat) (hZ : w_Is l g y R cc own nL Z) {a b : Int64} (dd : decode cc pc = .ok (.lcmp, 1)) (hp : pc + 1 = pc2)  (k1 : Z k n ws pc2 lv (.int (lg_cmp a b) :: st)) : Z k n ws pc lv (.long b :: .long a :: st) := by
  obtain ⟨p, e, s, m, args, below, meth, c, A, Q, ⟨hx, hb, hml, hown, hts, hK, hA, hN⟩, hi⟩ := hZ
  subst hp
  rw [hi] at k1 ⊢
  exact fun h1 h2 H locs ls hP hD hS hl => W.lcmp hx hb dd  (k1 h1 h2 H locs ls hP hD hS hl)
theorem r_dup (pc2 : Nat) (hZ : w_Is l g y R cc own nL Z) {v : Value} (dd : decode cc pc = .ok (.dup, 1)) (hp : pc + 1 = pc2) (hv : v.category = 1) (k1 : Z k n ws pc2 lv (v :: v :: st)) : Z k n ws pc lv (v :: st) := by
  obtain ⟨p, e, s, m, args, below, meth, c, A, Q, ⟨hx, hb, hml, hown, hts, hK, hA, hN⟩, hi⟩ := hZ
  subst hp
  rw [hi] at k1 ⊢
  exact fun h1 h2 H locs ls hP hD hS hl => lv_dup hx hb dd hv (k1 h1 h2 H locs ls hP hD hS hl)
theorem r_pop (pc2 : Nat) (hZ : w_Is l g y R cc own nL Z) {v : Value} (dd : decode cc pc = .ok (.pop, 1)) (hp : pc + 1 = pc2) (hv : v.category = 1) (k1 : Z k n ws pc2 lv (st)) : Z k n ws pc lv (v :: st) := by
  obtain ⟨p, e, s, m, args, below, meth, c, A, Q, ⟨hx, hb, hml, hown, hts, hK, hA, hN⟩, hi⟩ := hZ
  subst hp
  rw [hi] at k1 ⊢
  exact fun h1 h2 H locs ls hP hD hS hl => lv_pop hx hb dd hv (k1 h1 h2 H locs ls hP hD hS hl)
theorem r_if_eq (tgt pc2 : Nat) (hZ : w_Is l g y R cc own nL Z) {x : Int32} {off : Int} (dd : decode cc pc = .ok (.ifCond .eq off, 3)) (ht : (pc : Int) + off = (tgt : Int)) (hp : pc + 3 = pc2) (kt : x = 0 → Z k n ws tgt lv st) (kf : ¬ (x = 0) → Z k n ws pc2 lv st) : Z k n ws pc lv (.int x :: st) := by
  obtain ⟨p, e, s, m, args, below, meth, c, A, Q, ⟨hx, hb, hml, hown, hts, hK, hA, hN⟩, hi⟩ := hZ
  subst hp
  rw [hi] at kt kf ⊢
  exact fun h1 h2 H locs ls hP hD hS hl => lv_if_eq hx hb dd ht (fun c => kt c h1 h2 H locs ls hP hD hS hl) (fun c => kf c h1 h2 H locs ls hP hD hS hl)
theorem r_icmp_eq (tgt pc2 : Nat) (hZ : w_Is l g y R cc own nL Z) {x yy : Int32} {off : Int} (dd : decode cc pc = .ok (.if_icmp .eq off, 3)) (ht : (pc : Int) + off = (tgt : Int)) (hp : pc + 3 = pc2) (kt : x = yy → Z k n ws tgt lv st) (kf : ¬ (x = yy) → Z k n ws pc2 lv st) : Z k n ws pc lv (.int yy :: .int x :: st) := by
  obtain ⟨p, e, s, m, args, below, meth, c, A, Q, ⟨hx, hb, hml, hown, hts, hK, hA, hN⟩, hi⟩ := hZ
  subst hp
  rw [hi] at kt kf ⊢
  exact fun h1 h2 H locs ls hP hD hS hl => lv_icmp_eq hx hb dd ht (fun c => kt c h1 h2 H locs ls hP hD hS hl) (fun c => kf c h1 h2 H locs ls hP hD hS hl)
theorem r_if_ne (tgt pc2 : Nat) (hZ : w_Is l g y R cc own nL Z) {x : Int32} {off : Int} (dd : decode cc pc = .ok (.ifCond .ne off, 3)) (ht : (pc : Int) + off = (tgt : Int)) (hp : pc + 3 = pc2) (kt : ¬ x = 0 → Z k n ws tgt lv st) (kf : x = 0 → Z k n ws pc2 lv st) : Z k n ws pc lv (.int x :: st) := by
  obtain ⟨p, e, s, m, args, below, meth, c, A, Q, ⟨hx, hb, hml, hown, hts, hK, hA, hN⟩, hi⟩ := hZ
  subst hp
  rw [hi] at kt kf ⊢
  exact fun h1 h2 H locs ls hP hD hS hl => lv_if_ne hx hb dd ht (fun c => kt c h1 h2 H locs ls hP hD hS hl) (fun c => kf c h1 h2 H locs ls hP hD hS hl)
theorem r_icmp_ne (tgt pc2 : Nat) (hZ : w_Is l g y R cc own nL Z) {x yy : Int32} {off : Int} (dd : decode cc pc = .ok (.if_icmp .ne off, 3)) (ht : (pc : Int) + off = (tgt : Int)) (hp : pc + 3 = pc2) (kt : ¬ x = yy → Z k n ws tgt lv st) (kf : x = yy → Z k n ws pc2 lv st) : Z k n ws pc lv (.int yy :: .int x :: st) := by
  obtain ⟨p, e, s, m, args, below, meth, c, A, Q, ⟨hx, hb, hml, hown, hts, hK, hA, hN⟩, hi⟩ := hZ
  subst hp
  rw [hi] at kt kf ⊢
  exact fun h1 h2 H locs ls hP hD hS hl => lv_icmp_ne hx hb dd ht (fun c => kt c h1 h2 H locs ls hP hD hS hl) (fun c => kf c h1 h2 H locs ls hP hD hS hl)
theorem r_if_lt (tgt pc2 : Nat) (hZ : w_Is l g y R cc own nL Z) {x : Int32} {off : Int} (dd : decode cc pc = .ok (.ifCond .lt off, 3)) (ht : (pc : Int) + off = (tgt : Int)) (hp : pc + 3 = pc2) (kt : x < 0 → Z k n ws tgt lv st) (kf : ¬ (x < 0) → Z k n ws pc2 lv st) : Z k n ws pc lv (.int x :: st) := by
  obtain ⟨p, e, s, m, args, below, meth, c, A, Q, ⟨hx, hb, hml, hown, hts, hK, hA, hN⟩, hi⟩ := hZ
  subst hp
  rw [hi] at kt kf ⊢
  exact fun h1 h2 H locs ls hP hD hS hl => lv_if_lt hx hb dd ht (fun c => kt c h1 h2 H locs ls hP hD hS hl) (fun c => kf c h1 h2 H locs ls hP hD hS hl)
theorem r_icmp_lt (tgt pc2 : Nat) (hZ : w_Is l g y R cc own nL Z) {x yy : Int32} {off : Int} (dd : decode cc pc = .ok (.if_icmp .lt off, 3)) (ht : (pc : Int) + off = (tgt : Int)) (hp : pc + 3 = pc2) (kt : x < yy → Z k n ws tgt lv st) (kf : ¬ (x < yy) → Z k n ws pc2 lv st) : Z k n ws pc lv (.int yy :: .int x :: st) := by
  obtain ⟨p, e, s, m, args, below, meth, c, A, Q, ⟨hx, hb, hml, hown, hts, hK, hA, hN⟩, hi⟩ := hZ
  subst hp
  rw [hi] at kt kf ⊢
  exact fun h1 h2 H locs ls hP hD hS hl => lv_icmp_lt hx hb dd ht (fun c => kt c h1 h2 H locs ls hP hD hS hl) (fun c => kf c h1 h2 H locs ls hP hD hS hl)
theorem r_if_ge (tgt pc2 : Nat) (hZ : w_Is l g y R cc own nL Z) {x : Int32} {off : Int} (dd : decode cc pc = .ok (.ifCond .ge off, 3)) (ht : (pc : Int) + off = (tgt : Int)) (hp : pc + 3 = pc2) (kt : 0 ≤ x → Z k n ws tgt lv st) (kf : ¬ (0 ≤ x) → Z k n ws pc2 lv st) : Z k n ws pc lv (.int x :: st) := by
  obtain ⟨p, e, s, m, args, below, meth, c, A, Q, ⟨hx, hb, hml, hown, hts, hK, hA, hN⟩, hi⟩ := hZ
  subst hp
  rw [hi] at kt kf ⊢
  exact fun h1 h2 H locs ls hP hD hS hl => lv_if_ge hx hb dd ht (fun c => kt c h1 h2 H locs ls hP hD hS hl) (fun c => kf c h1 h2 H locs ls hP hD hS hl)
theorem r_icmp_ge (tgt pc2 : Nat) (hZ : w_Is l g y R cc own nL Z) {x yy : Int32} {off : Int} (dd : decode cc pc = .ok (.if_icmp .ge off, 3)) (ht : (pc : Int) + off = (tgt : Int)) (hp : pc + 3 = pc2) (kt : yy ≤ x → Z k n ws tgt lv st) (kf : ¬ (yy ≤ x) → Z k n ws pc2 lv st) : Z k n ws pc lv (.int yy :: .int x :: st) := by
  obtain ⟨p, e, s, m, args, below, meth, c, A, Q, ⟨hx, hb, hml, hown, hts, hK, hA, hN⟩, hi⟩ := hZ
  subst hp
  rw [hi] at kt kf ⊢
  exact fun h1 h2 H locs ls hP hD hS hl => lv_icmp_ge hx hb dd ht (fun c => kt c h1 h2 H locs ls hP hD hS hl) (fun c => kf c h1 h2 H locs ls hP hD hS hl)
theorem r_if_gt (tgt pc2 : Nat) (hZ : w_Is l g y R cc own nL Z) {x : Int32} {off : Int} (dd : decode cc pc = .ok (.ifCond .gt off, 3)) (ht : (pc : Int) + off = (tgt : Int)) (hp : pc + 3 = pc2) (kt : 0 < x → Z k n ws tgt lv st) (kf : ¬ (0 < x) → Z k n ws pc2 lv st) : Z k n ws pc lv (.int x :: st) := by
  obtain ⟨p, e, s, m, args, below, meth, c, A, Q, ⟨hx, hb, hml, hown, hts, hK, hA, hN⟩, hi⟩ := hZ
  subst hp
  rw [hi] at kt kf ⊢
  exact fun h1 h2 H locs ls hP hD hS hl => lv_if_gt hx hb dd ht (fun c => kt c h1 h2 H locs ls hP hD hS hl) (fun c => kf c h1 h2 H locs ls hP hD hS hl)
theorem r_icmp_gt (tgt pc2 : Nat) (hZ : w_Is l g y R cc own nL Z) {x yy : Int32} {off : Int} (dd : decode cc pc = .ok (.if_icmp .gt off, 3)) (ht : (pc : Int) + off = (tgt : Int)) (hp : pc + 3 = pc2) (kt : yy < x → Z k n ws tgt lv st) (kf : ¬ (yy < x) → Z k n ws pc2 lv st) : Z k n ws pc lv (.int yy :: .int x :: st) := by
  obtain ⟨p, e, s, m, args, below, meth, c, A, Q, ⟨hx, hb, hml, hown, hts, hK, hA, hN⟩, hi⟩ := hZ
  subst hp
  rw [hi] at kt kf ⊢
  exact fun h1 h2 H locs ls hP hD hS hl => lv_icmp_gt hx hb dd ht (fun c => kt c h1 h2 H locs ls hP hD hS hl) (fun c => kf c h1 h2 H locs ls hP hD hS hl)
theorem r_if_le (tgt pc2 : Nat) (hZ : w_Is l g y R cc own nL Z) {x : Int32} {off : Int} (dd : decode cc pc = .ok (.ifCond .le off, 3)) (ht : (pc : Int) + off = (tgt : Int)) (hp : pc + 3 = pc2) (kt : x ≤ 0 → Z k n ws tgt lv st) (kf : ¬ (x ≤ 0) → Z k n ws pc2 lv st) : Z k n ws pc lv (.int x :: st) := by
  obtain ⟨p, e, s, m, args, below, meth, c, A, Q, ⟨hx, hb, hml, hown, hts, hK, hA, hN⟩, hi⟩ := hZ
  subst hp
  rw [hi] at kt kf ⊢
  exact fun h1 h2 H locs ls hP hD hS hl => lv_if_le hx hb dd ht (fun c => kt c h1 h2 H locs ls hP hD hS hl) (fun c => kf c h1 h2 H locs ls hP hD hS hl)
theorem r_icmp_le (tgt pc2 : Nat) (hZ : w_Is l g y R cc own nL Z) {x yy : Int32} {off : Int} (dd : decode cc pc = .ok (.if_icmp .le off, 3)) (ht : (pc : Int) + off = (tgt : Int)) (hp : pc + 3 = pc2) (kt : x ≤ yy → Z k n ws tgt lv st) (kf : ¬ (x ≤ yy) → Z k n ws pc2 lv st) : Z k n ws pc lv (.int yy :: .int x :: st) := by
  obtain ⟨p, e, s, m, args, below, meth, c, A, Q, ⟨hx, hb, hml, hown, hts, hK, hA, hN⟩, hi⟩ := hZ
  subst hp
  rw [hi] at kt kf ⊢
  exact fun h1 h2 H locs ls hP hD hS hl => lv_icmp_le hx hb dd ht (fun c => kt c h1 h2 H locs ls hP hD hS hl) (fun c => kf c h1 h2 H locs ls hP hD hS hl)
theorem r_goto (tgt : Nat) (hZ : w_Is l g y R cc own nL Z) {off : Int} (dd : decode cc pc = .ok (.goto off, 3)) (ht : (pc : Int) + off = (tgt : Int)) (k1 : Z k n ws tgt lv st) : Z k n ws pc lv st := by
  obtain ⟨p, e, s, m, args, below, meth, c, A, Q, ⟨hx, hb, hml, hown, hts, hK, hA, hN⟩, hi⟩ := hZ
  rw [hi] at k1 ⊢
  exact fun h1 h2 H locs ls hP hD hS hl => lv_goto hx hb dd ht (k1 h1 h2 H locs ls hP hD hS hl)
def w_ck (lv : List (Nat × Value)) (i j sz : Nat) : Prop := ∀ (j2 : Nat) (q : Nat × Value), lv[j2]? = some q → j2 ≠ j → q.1 ≠ i ∧ ¬ (q.1 + 1 = i ∧ q.2.category = 2) ∧ (sz = 2 → q.1 ≠ i + 1)
def w_ckB : List (Nat × Value) → Nat → Nat → Nat → Bool
  | [], _, _, _ => true
  | q :: l, i, 0, sz => w_ckB l i (l.length + 1) sz
  | q :: l, i, j + 1, sz => (!(q.1 == i) && !(q.1 + 1 == i && q.2.category == 2) && !(sz == 2 && q.1 == i + 1)) && w_ckB l i j sz
theorem w_ckB_all : ∀ (lv : List (Nat × Value)) (i j sz : Nat), w_ckB lv i j sz = true → w_ck lv i j sz
  | [], i, j, sz, _ => fun j2 q h => by simp at h
  | q :: l, i, 0, sz, h => fun j2 q2 h2 hj => by
    cases j2 with
    | zero => exact absurd rfl hj
    | succ j2 =>
      rw [List.getElem?_cons_succ] at h2
      exact w_ckB_all l i (l.length + 1) sz h j2 q2 h2 (by have := (List.getElem?_eq_some_iff.mp h2).1; omega)
  | q :: l, i, j + 1, sz, h => fun j2 q2 h2 hj => by
    simp only [w_ckB, Bool.and_eq_true] at h
    cases j2 with
    | zero =>
      rw [List.getElem?_cons_zero] at h2
      cases h2
      obtain ⟨⟨⟨a1, a2⟩, a3⟩, -⟩ := h
      refine ⟨by simpa using a1, fun ⟨b1, b2⟩ => ?_, fun b1 b2 => ?_⟩
      · simp [b1, b2] at a2
      · simp [b1, b2] at a3
    | succ j2 =>
      rw [List.getElem?_cons_succ] at h2
      exact w_ckB_all l i j sz h.2 j2 q2 h2 (by omega)
theorem w_set {ls : Array Slot} {nL i j sz : Nat} {v : Value} {lv lv1 : List (Nat × Value)} (h : lv_has ls nL lv1) (hin : ∀ q ∈ lv, q.1 ≠ i → ¬ (q.1 + 1 = i ∧ q.2.category = 2) → (sz = 2 → q.1 ≠ i + 1) → q ∈ lv1) (hv : (i, v) ∈ lv1) (hck : w_ckB lv i j sz = true) : lv_has ls nL (lv.set j (i, v)) := by
  refine ⟨h.1, h.2.1, fun q hq => ?_⟩
  obtain ⟨j2, hj2⟩ := List.getElem?_of_mem hq
  have hl : j2 < (lv.set j (i, v)).length := (List.getElem?_eq_some_iff.mp hj2).1
  by_cases e : j = j2
  · subst e
    rw [List.length_set] at hl
    rw [List.getElem?_set_self hl] at hj2
    cases hj2
    exact h.2.2 _ hv
  · rw [List.getElem?_set_ne e] at hj2
    obtain ⟨a1, a2, a3⟩ := w_ckB_all lv i j sz hck j2 q hj2 (fun h => e h.symm)
    exact h.2.2 _ (hin q (List.mem_of_getElem? hj2) a1 a2 a3)
theorem w_add {ls : Array Slot} {nL i sz : Nat} {v : Value} {lv lv1 : List (Nat × Value)} (h : lv_has ls nL lv1) (hin : ∀ q ∈ lv, q.1 ≠ i → ¬ (q.1 + 1 = i ∧ q.2.category = 2) → (sz = 2 → q.1 ≠ i + 1) → q ∈ lv1) (hv : (i, v) ∈ lv1) (hck : w_ckB lv i lv.length sz = true) : lv_has ls nL (lv ++ [(i, v)]) := by
  refine ⟨h.1, h.2.1, fun q hq => ?_⟩
  rcases List.mem_append.mp hq with hq | hq
  · obtain ⟨j2, hj2⟩ := List.getElem?_of_mem hq
    obtain ⟨a1, a2, a3⟩ := w_ckB_all lv i lv.length sz hck j2 q hj2 (Nat.ne_of_lt (List.getElem?_eq_some_iff.mp hj2).1)
    exact h.2.2 _ (hin q hq a1 a2 a3)
  · rw [List.mem_singleton.mp hq]; exact h.2.2 _ hv
theorem w_f1 {lv : List (Nat × Value)} {i : Nat} {v : Value} : ∀ q ∈ lv, q.1 ≠ i → ¬ (q.1 + 1 = i ∧ q.2.category = 2) → (1 = 2 → q.1 ≠ i + 1) → q ∈ (i, v) :: lv.filter (fun q => !(q.1 == i) && !(q.1 + 1 == i && q.2.category == 2)) := fun q hq h1 h2 _ => List.mem_cons_of_mem _ (List.mem_filter.mpr ⟨hq, by
  simp only [Bool.and_eq_true, Bool.not_eq_true', beq_eq_false_iff_ne, ne_eq]
  refine ⟨h1, ?_⟩
  by_cases a : q.1 + 1 = i <;> by_cases b : q.2.category = 2 <;> simp [a, b] <;> exact h2 ⟨a, b⟩⟩)
theorem w_f2 {lv : List (Nat × Value)} {i : Nat} {v : Value} : ∀ q ∈ lv, q.1 ≠ i → ¬ (q.1 + 1 = i ∧ q.2.category = 2) → (2 = 2 → q.1 ≠ i + 1) → q ∈ (i, v) :: lv.filter (fun q => !(q.1 == i) && (!(q.1 == i + 1) && !(q.1 + 1 == i && q.2.category == 2))) := fun q hq h1 h2 h3 => List.mem_cons_of_mem _ (List.mem_filter.mpr ⟨hq, by
  simp only [Bool.and_eq_true, Bool.not_eq_true', beq_eq_false_iff_ne, ne_eq]
  refine ⟨h1, h3 rfl, ?_⟩
  by_cases a : q.1 + 1 = i <;> by_cases b : q.2.category = 2 <;> simp [a, b] <;> exact h2 ⟨a, b⟩⟩)
theorem r_istn (pc2 j : Nat) (lv2 : List (Nat × Value)) (hZ : w_Is l g y R cc own nL Z) {q : Fin 4} {i : Nat} {x : Int32} (dd : decode cc pc = .ok (.istore_n q, 1)) (hq : (q : Nat) = i) (hp : pc + 1 = pc2) (hn : i + 0 < nL) (hck : w_ckB lv i j 1 = true) (hl2 : lv.set j (i, .int x) = lv2) (k1 : Z k n ws pc2 lv2 st) : Z k n ws pc lv (.int x :: st) := by
  obtain ⟨p, e, s, m, args, below, meth, c, A, Q, ⟨hx, hb, hml, hown, hts, hK, hA, hN⟩, hi⟩ := hZ
  subst hp
  subst hl2
  rw [hi] at k1 ⊢
  exact fun h1 h2 H locs ls hP hD hS hl => lv_istore_n hx hb dd hq hl hn rfl (fun ls2 hl2 => k1 h1 h2 H locs ls2 hP hD hS (w_set hl2 w_f1 (List.mem_cons_self) hck))
theorem r_istnN (pc2 : Nat) (lv2 : List (Nat × Value)) (hZ : w_Is l g y R cc own nL Z) {q : Fin 4} {i : Nat} {x : Int32} (dd : decode cc pc = .ok (.istore_n q, 1)) (hq : (q : Nat) = i) (hp : pc + 1 = pc2) (hn : i + 0 < nL) (hck : w_ckB lv i lv.length 1 = true) (hl2 : lv ++ [(i, .int x)] = lv2) (k1 : Z k n ws pc2 lv2 st) : Z k n ws pc lv (.int x :: st) := by
  obtain ⟨p, e, s, m, args, below, meth, c, A, Q, ⟨hx, hb, hml, hown, hts, hK, hA, hN⟩, hi⟩ := hZ
  subst hp
  subst hl2
  rw [hi] at k1 ⊢
  exact fun h1 h2 H locs ls hP hD hS hl => lv_istore_n hx hb dd hq hl hn rfl (fun ls2 hl2 => k1 h1 h2 H locs ls2 hP hD hS (w_add hl2 w_f1 (List.mem_cons_self) hck))
theorem r_ist (pc2 j : Nat) (lv2 : List (Nat × Value)) (hZ : w_Is l g y R cc own nL Z) {q : Fin 4} {i : Nat} {x : Int32} (dd : decode cc pc = .ok (.istore i, 2)) (hp : pc + 2 = pc2) (hn : i + 0 < nL) (hck : w_ckB lv i j 1 = true) (hl2 : lv.set j (i, .int x) = lv2) (k1 : Z k n ws pc2 lv2 st) : Z k n ws pc lv (.int x :: st) := by
  obtain ⟨p, e, s, m, args, below, meth, c, A, Q, ⟨hx, hb, hml, hown, hts, hK, hA, hN⟩, hi⟩ := hZ
  subst hp
  subst hl2
  rw [hi] at k1 ⊢
  exact fun h1 h2 H locs ls hP hD hS hl => lv_istore hx hb dd hl hn rfl (fun ls2 hl2 => k1 h1 h2 H locs ls2 hP hD hS (w_set hl2 w_f1 (List.mem_cons_self) hck))
theorem r_istN (pc2 : Nat) (lv2 : List (Nat × Value)) (hZ : w_Is l g y R cc own nL Z) {q : Fin 4} {i : Nat} {x : Int32} (dd : decode cc pc = .ok (.istore i, 2)) (hp : pc + 2 = pc2) (hn : i + 0 < nL) (hck : w_ckB lv i lv.length 1 = true) (hl2 : lv ++ [(i, .int x)] = lv2) (k1 : Z k n ws pc2 lv2 st) : Z k n ws pc lv (.int x :: st) := by
  obtain ⟨p, e, s, m, args, below, meth, c, A, Q, ⟨hx, hb, hml, hown, hts, hK, hA, hN⟩, hi⟩ := hZ
  subst hp
  subst hl2
  rw [hi] at k1 ⊢
  exact fun h1 h2 H locs ls hP hD hS hl => lv_istore hx hb dd hl hn rfl (fun ls2 hl2 => k1 h1 h2 H locs ls2 hP hD hS (w_add hl2 w_f1 (List.mem_cons_self) hck))
theorem r_lstn (pc2 j : Nat) (lv2 : List (Nat × Value)) (hZ : w_Is l g y R cc own nL Z) {q : Fin 4} {i : Nat} {x : Int64} (dd : decode cc pc = .ok (.lstore_n q, 1)) (hq : (q : Nat) = i) (hp : pc + 1 = pc2) (hn : i + 1 < nL) (hck : w_ckB lv i j 2 = true) (hl2 : lv.set j (i, .long x) = lv2) (k1 : Z k n ws pc2 lv2 st) : Z k n ws pc lv (.long x :: st) := by
  obtain ⟨p, e, s, m, args, below, meth, c, A, Q, ⟨hx, hb, hml, hown, hts, hK, hA, hN⟩, hi⟩ := hZ
  subst hp
  subst hl2
  rw [hi] at k1 ⊢
  exact fun h1 h2 H locs ls hP hD hS hl => lv_lstore_n hx hb dd hq hl hn rfl (fun ls2 hl2 => k1 h1 h2 H locs ls2 hP hD hS (w_set hl2 w_f2 (List.mem_cons_self) hck))
theorem r_lstnN (pc2 : Nat) (lv2 : List (Nat × Value)) (hZ : w_Is l g y R cc own nL Z) {q : Fin 4} {i : Nat} {x : Int64} (dd : decode cc pc = .ok (.lstore_n q, 1)) (hq : (q : Nat) = i) (hp : pc + 1 = pc2) (hn : i + 1 < nL) (hck : w_ckB lv i lv.length 2 = true) (hl2 : lv ++ [(i, .long x)] = lv2) (k1 : Z k n ws pc2 lv2 st) : Z k n ws pc lv (.long x :: st) := by
  obtain ⟨p, e, s, m, args, below, meth, c, A, Q, ⟨hx, hb, hml, hown, hts, hK, hA, hN⟩, hi⟩ := hZ
  subst hp
  subst hl2
  rw [hi] at k1 ⊢
  exact fun h1 h2 H locs ls hP hD hS hl => lv_lstore_n hx hb dd hq hl hn rfl (fun ls2 hl2 => k1 h1 h2 H locs ls2 hP hD hS (w_add hl2 w_f2 (List.mem_cons_self) hck))
theorem r_lst (pc2 j : Nat) (lv2 : List (Nat × Value)) (hZ : w_Is l g y R cc own nL Z) {q : Fin 4} {i : Nat} {x : Int64} (dd : decode cc pc = .ok (.lstore i, 2)) (hp : pc + 2 = pc2) (hn : i + 1 < nL) (hck : w_ckB lv i j 2 = true) (hl2 : lv.set j (i, .long x) = lv2) (k1 : Z k n ws pc2 lv2 st) : Z k n ws pc lv (.long x :: st) := by
  obtain ⟨p, e, s, m, args, below, meth, c, A, Q, ⟨hx, hb, hml, hown, hts, hK, hA, hN⟩, hi⟩ := hZ
  subst hp
  subst hl2
  rw [hi] at k1 ⊢
  exact fun h1 h2 H locs ls hP hD hS hl => lv_lstore hx hb dd hl hn rfl (fun ls2 hl2 => k1 h1 h2 H locs ls2 hP hD hS (w_set hl2 w_f2 (List.mem_cons_self) hck))
theorem r_lstN (pc2 : Nat) (lv2 : List (Nat × Value)) (hZ : w_Is l g y R cc own nL Z) {q : Fin 4} {i : Nat} {x : Int64} (dd : decode cc pc = .ok (.lstore i, 2)) (hp : pc + 2 = pc2) (hn : i + 1 < nL) (hck : w_ckB lv i lv.length 2 = true) (hl2 : lv ++ [(i, .long x)] = lv2) (k1 : Z k n ws pc2 lv2 st) : Z k n ws pc lv (.long x :: st) := by
  obtain ⟨p, e, s, m, args, below, meth, c, A, Q, ⟨hx, hb, hml, hown, hts, hK, hA, hN⟩, hi⟩ := hZ
  subst hp
  subst hl2
  rw [hi] at k1 ⊢
  exact fun h1 h2 H locs ls hP hD hS hl => lv_lstore hx hb dd hl hn rfl (fun ls2 hl2 => k1 h1 h2 H locs ls2 hP hD hS (w_add hl2 w_f2 (List.mem_cons_self) hck))
theorem r_astn (pc2 j : Nat) (lv2 : List (Nat × Value)) (hZ : w_Is l g y R cc own nL Z) {q : Fin 4} {i : Nat} {x : Nat} (dd : decode cc pc = .ok (.astore_n q, 1)) (hq : (q : Nat) = i) (hp : pc + 1 = pc2) (hn : i + 0 < nL) (hck : w_ckB lv i j 1 = true) (hl2 : lv.set j (i, .ref x) = lv2) (k1 : Z k n ws pc2 lv2 st) : Z k n ws pc lv (.ref x :: st) := by
  obtain ⟨p, e, s, m, args, below, meth, c, A, Q, ⟨hx, hb, hml, hown, hts, hK, hA, hN⟩, hi⟩ := hZ
  subst hp
  subst hl2
  rw [hi] at k1 ⊢
  exact fun h1 h2 H locs ls hP hD hS hl => lv_astore_n hx hb dd hq hl hn rfl (fun ls2 hl2 => k1 h1 h2 H locs ls2 hP hD hS (w_set hl2 w_f1 (List.mem_cons_self) hck))
theorem r_astnN (pc2 : Nat) (lv2 : List (Nat × Value)) (hZ : w_Is l g y R cc own nL Z) {q : Fin 4} {i : Nat} {x : Nat} (dd : decode cc pc = .ok (.astore_n q, 1)) (hq : (q : Nat) = i) (hp : pc + 1 = pc2) (hn : i + 0 < nL) (hck : w_ckB lv i lv.length 1 = true) (hl2 : lv ++ [(i, .ref x)] = lv2) (k1 : Z k n ws pc2 lv2 st) : Z k n ws pc lv (.ref x :: st) := by
  obtain ⟨p, e, s, m, args, below, meth, c, A, Q, ⟨hx, hb, hml, hown, hts, hK, hA, hN⟩, hi⟩ := hZ
  subst hp
  subst hl2
  rw [hi] at k1 ⊢
  exact fun h1 h2 H locs ls hP hD hS hl => lv_astore_n hx hb dd hq hl hn rfl (fun ls2 hl2 => k1 h1 h2 H locs ls2 hP hD hS (w_add hl2 w_f1 (List.mem_cons_self) hck))
theorem r_ast (pc2 j : Nat) (lv2 : List (Nat × Value)) (hZ : w_Is l g y R cc own nL Z) {q : Fin 4} {i : Nat} {x : Nat} (dd : decode cc pc = .ok (.astore i, 2)) (hp : pc + 2 = pc2) (hn : i + 0 < nL) (hck : w_ckB lv i j 1 = true) (hl2 : lv.set j (i, .ref x) = lv2) (k1 : Z k n ws pc2 lv2 st) : Z k n ws pc lv (.ref x :: st) := by
  obtain ⟨p, e, s, m, args, below, meth, c, A, Q, ⟨hx, hb, hml, hown, hts, hK, hA, hN⟩, hi⟩ := hZ
  subst hp
  subst hl2
  rw [hi] at k1 ⊢
  exact fun h1 h2 H locs ls hP hD hS hl => lv_astore hx hb dd hl hn rfl (fun ls2 hl2 => k1 h1 h2 H locs ls2 hP hD hS (w_set hl2 w_f1 (List.mem_cons_self) hck))
theorem r_astN (pc2 : Nat) (lv2 : List (Nat × Value)) (hZ : w_Is l g y R cc own nL Z) {q : Fin 4} {i : Nat} {x : Nat} (dd : decode cc pc = .ok (.astore i, 2)) (hp : pc + 2 = pc2) (hn : i + 0 < nL) (hck : w_ckB lv i lv.length 1 = true) (hl2 : lv ++ [(i, .ref x)] = lv2) (k1 : Z k n ws pc2 lv2 st) : Z k n ws pc lv (.ref x :: st) := by
  obtain ⟨p, e, s, m, args, below, meth, c, A, Q, ⟨hx, hb, hml, hown, hts, hK, hA, hN⟩, hi⟩ := hZ
  subst hp
  subst hl2
  rw [hi] at k1 ⊢
  exact fun h1 h2 H locs ls hP hD hS hl => lv_astore hx hb dd hl hn rfl (fun ls2 hl2 => k1 h1 h2 H locs ls2 hP hD hS (w_add hl2 w_f1 (List.mem_cons_self) hck))
theorem r_iinc (pc2 j : Nat) (dv : Int32) (lv2 : List (Nat × Value)) (hZ : w_Is l g y R cc own nL Z) {i : Nat} {z : Int} {x : Int32} (dd : decode cc pc = .ok (.iinc i z, 3)) (hp : pc + 3 = pc2) (hj : lv[j]? = some (i, .int x)) (hv : Int32.ofInt z = dv) (hn : i + 0 < nL) (hck : w_ckB lv i j 1 = true) (hl2 : lv.set j (i, .int (x + dv)) = lv2) (k1 : Z k n ws pc2 lv2 st) : Z k n ws pc lv st := by
  obtain ⟨p, e, s, m, args, below, meth, c, A, Q, ⟨hx, hb, hml, hown, hts, hK, hA, hN⟩, hi⟩ := hZ
  subst hp
  subst hl2
  subst hv
  rw [hi] at k1 ⊢
  exact fun h1 h2 H locs ls hP hD hS hl => lv_iinc hx hb dd hl hj rfl hn rfl (fun ls2 hl2 => k1 h1 h2 H locs ls2 hP hD hS (w_set hl2 w_f1 (List.mem_cons_self) hck))
theorem r_get {ref C : String} {T : u_T} {N ci idx q0 kf a : Nat} {fs : List Value} {v : Value} (pc2 : Nat) (hin : ∀ w ∈ u_ws C T N, w ∈ UW) (hc : vwCl[ci]? = some (C, T, N)) (hk : kf < N) (wl : Cond.fieldLink own idx ref (T kf).2.1 (T kf).2.2.1 ∈ UW) (hr : (T kf).1 = ref) (he : ws[q0]? = some (a, .inr (ci, fs))) (hv : fs[kf]? = some v) (hZ : w_Is l g y R cc own nL Z) (dd : decode cc pc = .ok (.getfield idx, 3)) (hp : pc + 3 = pc2) (k1 : Z k n ws pc2 lv (v :: st)) : Z k n ws pc lv (.ref a :: st) := by
  obtain ⟨p, e, s, m, args, below, meth, c, A, Q, ⟨hx, hb, hml, hown, hts, hK, hA, hN⟩, hi⟩ := hZ
  subst hp
  subst hr
  rw [hi] at k1 ⊢
  exact fun h1 h2 H locs ls hP hD hS hl => va_get hx hb hts hin hown hK hP q0 he hc kf hk (hts _ wl) (fun _ h9 => h9) hv dd (k1 h1 h2 H locs ls hP hD hS hl)
theorem r_put {ref C : String} {T : u_T} {N ci idx q0 kf a : Nat} {fs : List Value} {v : Value} {ws2 : va_W} {ty : FieldType} (pc2 : Nat) (ty0 : Nat → FieldType) (hty : ∀ k, k < N → parseFieldDescriptor (T k).2.2.1 = some (ty0 k)) (hnm : ∀ a, a < N → ∀ b, b < N → a ≠ b → (T a).2.1 ≠ (T b).2.1) (hin : ∀ w ∈ u_ws C T N, w ∈ UW) (hc : vwCl[ci]? = some (C, T, N)) (hk : kf < N) (wl : Cond.fieldLink own idx ref (T kf).2.1 (T kf).2.2.1 ∈ UW) (hr : (T kf).1 = ref) (he : ws[q0]? = some (a, .inr (ci, fs))) (hl : kf < fs.length) (hfin : (T kf).2.2.2 = false) (hd : ty0 kf = ty) (hnar : narrow ty v = v) (hfit : fits ty v = true) (hs : ws.set q0 (a, .inr (ci, fs.set kf v)) = ws2) (hZ : w_Is l g y R cc own nL Z) (dd : decode cc pc = .ok (.putfield idx, 3)) (hp : pc + 3 = pc2) (k1 : Z k n ws2 pc2 lv st) : Z k n ws pc lv (v :: .ref a :: st) := by
  obtain ⟨p, e, s, m, args, below, meth, c, A, Q, ⟨hx, hb, hml, hown, hts, hK, hA, hN⟩, hi⟩ := hZ
  subst hp
  subst hr
  subst hs
  subst hd
  rw [hi] at k1 ⊢
  exact fun h1 h2 H locs ls hP hD hS hlv => va_put hx hb hts hin ty0 hty hnm hown hK hP hD hS q0 he hc kf hk (hts _ wl) (fun _ h9 => h9) hfin (hty kf hk) hnar hfit hl dd (fun H1 locs1 hP1 hD1 hS1 => k1 h1 h2 H1 locs1 ls hP1 hD1 hS1 hlv)
theorem r_iald (pc2 q0 : Nat) (hZ : w_Is l g y R cc own nL Z) {a N : Nat} {f : Nat → Int32} {i : Int32} (he : ws[q0]? = some (a, .inl (y 0, N, .inl f))) (hin : vp_in i N) (dd : decode cc pc = .ok (.iaload, 1)) (hp : pc + 1 = pc2) (k1 : Z k n ws pc2 lv (.int (f i.toNatClampNeg) :: st)) : Z k n ws pc lv (.int i :: .ref a :: st) := by
  obtain ⟨p, e, s, m, args, below, meth, c, A, Q, ⟨hx, hb, hml, hown, hts, hK, hA, hN⟩, hi⟩ := hZ
  subst hp
  rw [hi] at k1 ⊢
  exact fun h1 h2 H locs ls hP hD hS hl => va_iald hx hb hK hP q0 0 he rfl hin dd (k1 h1 h2 H locs ls hP hD hS hl)
theorem r_zald (pc2 q0 : Nat) (hZ : w_Is l g y R cc own nL Z) {a N : Nat} {f : Nat → Int32} {i : Int32} (he : ws[q0]? = some (a, .inl (y 1, N, .inl f))) (hin : vp_in i N) (dd : decode cc pc = .ok (.baload, 1)) (hp : pc + 1 = pc2) (k1 : Z k n ws pc2 lv (.int (f i.toNatClampNeg) :: st)) : Z k n ws pc lv (.int i :: .ref a :: st) := by
  obtain ⟨p, e, s, m, args, below, meth, c, A, Q, ⟨hx, hb, hml, hown, hts, hK, hA, hN⟩, hi⟩ := hZ
  subst hp
  rw [hi] at k1 ⊢
  exact fun h1 h2 H locs ls hP hD hS hl => va_zald hx hb hK hP q0 1 he rfl hin dd (k1 h1 h2 H locs ls hP hD hS hl)
theorem r_lald (pc2 q0 : Nat) (hZ : w_Is l g y R cc own nL Z) {a N : Nat} {f : Nat → Int64} {i : Int32} (he : ws[q0]? = some (a, .inl (y 3, N, .inr (.inl f)))) (hin : vp_in i N) (dd : decode cc pc = .ok (.laload, 1)) (hp : pc + 1 = pc2) (k1 : Z k n ws pc2 lv (.long (f i.toNatClampNeg) :: st)) : Z k n ws pc lv (.int i :: .ref a :: st) := by
  obtain ⟨p, e, s, m, args, below, meth, c, A, Q, ⟨hx, hb, hml, hown, hts, hK, hA, hN⟩, hi⟩ := hZ
  subst hp
  rw [hi] at k1 ⊢
  exact fun h1 h2 H locs ls hP hD hS hl => va_lald hx hb hK hP q0 3 he rfl hin dd (k1 h1 h2 H locs ls hP hD hS hl)
theorem r_iast {ws2 : va_W} (pc2 q0 : Nat) (hZ : w_Is l g y R cc own nL Z) {a N : Nat} {f : Nat → Int32} {i : Int32} {x : Int32} (he : ws[q0]? = some (a, .inl (y 0, N, .inl f))) (hin : vp_in i N) (hs : ws.set q0 (a, .inl (y 0, N, .inl (upd f i.toNatClampNeg x))) = ws2) (dd : decode cc pc = .ok (.iastore, 1)) (hp : pc + 1 = pc2) (k1 : Z k n ws2 pc2 lv st) : Z k n ws pc lv (.int x :: .int i :: .ref a :: st) := by
  obtain ⟨p, e, s, m, args, below, meth, c, A, Q, ⟨hx, hb, hml, hown, hts, hK, hA, hN⟩, hi⟩ := hZ
  subst hp
  subst hs
  rw [hi] at k1 ⊢
  exact fun h1 h2 H locs ls hP hD hS hl => va_iast hx hb hK hP hD hS q0 0 he rfl hin dd (fun H1 locs1 hP1 hD1 hS1 => k1 h1 h2 H1 locs1 ls hP1 hD1 hS1 hl)
theorem r_zast {ws2 : va_W} (pc2 q0 : Nat) (hZ : w_Is l g y R cc own nL Z) {a N : Nat} {f : Nat → Int32} {i : Int32} {x : Int32} (he : ws[q0]? = some (a, .inl (y 1, N, .inl f))) (hin : vp_in i N) (hs : ws.set q0 (a, .inl (y 1, N, .inl (upd f i.toNatClampNeg (vp_nar .boolean x)))) = ws2) (dd : decode cc pc = .ok (.bastore, 1)) (hp : pc + 1 = pc2) (k1 : Z k n ws2 pc2 lv st) : Z k n ws pc lv (.int x :: .int i :: .ref a :: st) := by
  obtain ⟨p, e, s, m, args, below, meth, c, A, Q, ⟨hx, hb, hml, hown, hts, hK, hA, hN⟩, hi⟩ := hZ
  subst hp
  subst hs
  rw [hi] at k1 ⊢
  exact fun h1 h2 H locs ls hP hD hS hl => va_zast hx hb hK hP hD hS q0 1 he rfl hin dd (fun H1 locs1 hP1 hD1 hS1 => k1 h1 h2 H1 locs1 ls hP1 hD1 hS1 hl)
theorem r_last {ws2 : va_W} (pc2 q0 : Nat) (hZ : w_Is l g y R cc own nL Z) {a N : Nat} {f : Nat → Int64} {i : Int32} {x : Int64} (he : ws[q0]? = some (a, .inl (y 3, N, .inr (.inl f)))) (hin : vp_in i N) (hs : ws.set q0 (a, .inl (y 3, N, .inr (.inl (vp_updL f i.toNatClampNeg x)))) = ws2) (dd : decode cc pc = .ok (.lastore, 1)) (hp : pc + 1 = pc2) (k1 : Z k n ws2 pc2 lv st) : Z k n ws pc lv (.long x :: .int i :: .ref a :: st) := by
  obtain ⟨p, e, s, m, args, below, meth, c, A, Q, ⟨hx, hb, hml, hown, hts, hK, hA, hN⟩, hi⟩ := hZ
  subst hp
  subst hs
  rw [hi] at k1 ⊢
  exact fun h1 h2 H locs ls hP hD hS hl => va_last hx hb hK hP hD hS q0 3 he rfl hin dd (fun H1 locs1 hP1 hD1 hS1 => k1 h1 h2 H1 locs1 ls hP1 hD1 hS1 hl)
theorem r_aald (pc2 q0 : Nat) (hZ : w_Is l g y R cc own nL Z) {a N b : Nat} {f : Nat → Option Nat} {i : Int32} (he : ws[q0]? = some (a, .inl (y 2, N, .inr (.inr (.inr (.inr f)))))) (hin : vp_in i N) (hf : f i.toNatClampNeg = some b) (dd : decode cc pc = .ok (.aaload, 1)) (hp : pc + 1 = pc2) (k1 : Z k n ws pc2 lv (.ref b :: st)) : Z k n ws pc lv (.int i :: .ref a :: st) := by
  obtain ⟨p, e, s, m, args, below, meth, c, A, Q, ⟨hx, hb, hml, hown, hts, hK, hA, hN⟩, hi⟩ := hZ
  subst hp
  rw [hi] at k1 ⊢
  exact fun h1 h2 H locs ls hP hD hS hl => va_aldq hx hb hK hP q0 2 he rfl hin dd (by rw [hf]; exact k1 h1 h2 H locs ls hP hD hS hl)
theorem w_topi {x : Int32} (k1 : ∀ z : Int32, z = x → Z k n ws pc lv (.int z :: st)) : Z k n ws pc lv (.int x :: st) := k1 x rfl
theorem w_eqW {ws2 : va_W} (h : ws = ws2) (k1 : Z k n ws2 pc lv st) : Z k n ws pc lv st := h ▸ k1
end WR
end
section
def up (σ : Nat → Nat → Int32) (k i : Nat) (v : Int32) : Nat → Nat → Int32 := fun k2 => if k2 = k then upd (σ k) i v else σ k2
def upL (σ : Nat → Nat → Int64) (k i : Nat) (v : Int64) : Nat → Nat → Int64 := fun k2 => if k2 = k then vp_updL (σ k) i v else σ k2
theorem up_at (σ : Nat → Nat → Int32) (k i : Nat) (v : Int32) (k2 i2 : Nat) : up σ k i v k2 i2 = if k2 = k ∧ i2 = i then v else σ k2 i2 := by
  unfold up upd
  by_cases h : k2 = k <;> by_cases h2 : i2 = i <;> simp [h, h2]
theorem upL_at (σ : Nat → Nat → Int64) (k i : Nat) (v : Int64) (k2 i2 : Nat) : upL σ k i v k2 i2 = if k2 = k ∧ i2 = i then v else σ k2 i2 := by
  unfold upL vp_updL
  by_cases h : k2 = k <;> by_cases h2 : i2 = i <;> simp [h, h2]
def cwE (ad : Nat → Nat) (σ : Nat → Nat → Int32) (j : Nat) : Nat × va_E := (ad (25 + j), .inr (1, [.int (σ 17 j), .int (σ 18 j), .int (σ 19 j)]))
/-- the class's world: seven objects, sixteen arrays of numbers, two of Edits, the 42 Edits -/
def cw (ad : Nat → Nat) (y : Nat → ClassId) (σ : Nat → Nat → Int32) : va_W := [(ad 0, .inr (7, [.ref (ad 1), .ref (ad 2), .ref (ad 3), .ref (ad 4), .ref (ad 5), .ref (ad 6), .int (σ 0 0)])), (ad 1, .inr (3, [.ref (ad 7), .ref (ad 8), .ref (ad 9), .ref (ad 10), .ref (ad 11), .ref (ad 12), .int (σ 0 1), .int (σ 0 2), .int (σ 0 3), .int (σ 0 4)])), (ad 2, .inr (2, [.ref (ad 13), .ref (ad 14), .int (σ 0 5)])), (ad 3, .inr (0, [.ref (ad 17), .ref (ad 18), .ref (ad 19), .ref (ad 20), .int (σ 0 6)])), (ad 4, .inr (5, [.ref (ad 1), .ref (ad 2), .ref (ad 23), .ref (ad 15), .ref (ad 16)])), (ad 5, .inr (6, [.ref (ad 3), .ref (ad 21), .int (σ 0 7)])), (ad 6, .inr (4, [.ref (ad 24), .ref (ad 22), .int (σ 0 8)])), (ad 7, .inl (y 0, 38, .inl (σ 1))), (ad 8, .inl (y 0, 38, .inl (σ 2))), (ad 9, .inl (y 0, 38, .inl (σ 3))), (ad 10, .inl (y 0, 38, .inl (σ 4))), (ad 11, .inl (y 1, 38, .inl (σ 5))), (ad 12, .inl (y 0, 14, .inl (σ 6))), (ad 13, .inl (y 0, 4, .inl (σ 7))), (ad 14, .inl (y 0, 4, .inl (σ 8))), (ad 15, .inl (y 0, 38, .inl (σ 9))), (ad 16, .inl (y 0, 28, .inl (σ 10))), (ad 17, .inl (y 0, 38, .inl (σ 11))), (ad 18, .inl (y 0, 38, .inl (σ 12))), (ad 19, .inl (y 0, 6, .inl (σ 13))), (ad 20, .inl (y 0, 6, .inl (σ 14))), (ad 21, .inl (y 0, 2, .inl (σ 15))), (ad 22, .inl (y 0, 20, .inl (σ 16))), (ad 23, .inl (y 2, 2, .inr (.inr (.inr (.inr (fun j => some (ad (25 + j)))))))), (ad 24, .inl (y 2, 40, .inr (.inr (.inr (.inr (fun j => some (ad (25 + (2 + j)))))))))] ++ (List.range 42).map (cwE ad σ)
theorem cw_len (ad : Nat → Nat) (y : Nat → ClassId) (σ : Nat → Nat → Int32) : (cw ad y σ).length = 67 := by simp [cw]
theorem cw_E {ad : Nat → Nat} {y : Nat → ClassId} {σ : Nat → Nat → Int32} {j : Nat} (hj : j < 42) : (cw ad y σ)[25 + j]? = some (ad (25 + j), .inr (1, [.int (σ 17 j), .int (σ 18 j), .int (σ 19 j)])) := by
  unfold cw
  rw [List.getElem?_append_right (by simp)]
  simp [cwE, hj]
theorem cw_setE {ad : Nat → Nat} {y : Nat → ClassId} {σ σ2 : Nat → Nat → Int32} {j : Nat} (hj : j < 42) (h0 : ∀ k, k < 17 → σ2 k = σ k) (h1 : ∀ k i, 17 ≤ k → k < 20 → i ≠ j → σ2 k i = σ k i) : (cw ad y σ).set (25 + j) (ad (25 + j), .inr (1, [.int (σ2 17 j), .int (σ2 18 j), .int (σ2 19 j)])) = cw ad y σ2 := by
  have hfix : ∀ q, q < 25 → (cw ad y σ2)[q]? = (cw ad y σ)[q]? := by
    intro q hq
    unfold cw
    rw [List.getElem?_append_left (by simpa using hq), List.getElem?_append_left (by simpa using hq)]
    rw [h0 0 (by decide), h0 1 (by decide), h0 2 (by decide), h0 3 (by decide), h0 4 (by decide), h0 5 (by decide), h0 6 (by decide), h0 7 (by decide), h0 8 (by decide), h0 9 (by decide), h0 10 (by decide), h0 11 (by decide), h0 12 (by decide), h0 13 (by decide), h0 14 (by decide), h0 15 (by decide), h0 16 (by decide)]
  apply List.ext_getElem?
  intro q
  by_cases e : 25 + j = q
  · subst e
    rw [List.getElem?_set_self (by rw [cw_len]; omega), cw_E hj]
  · rw [List.getElem?_set_ne e]
    by_cases hq : q < 25
    · rw [hfix q hq]
    · by_cases hq2 : q < 67
      · obtain ⟨i, rfl⟩ : ∃ i, q = 25 + i := ⟨q - 25, by omega⟩
        have hi : i ≠ j := fun h => e (by rw [h])
        rw [cw_E (by omega), cw_E (by omega), h1 17 i (by omega) (by omega) hi, h1 18 i (by omega) (by omega) hi, h1 19 i (by omega) (by omega) hi]
      · rw [List.getElem?_eq_none (by rw [cw_len]; omega), List.getElem?_eq_none (by rw [cw_len]; omega)]
/-- the reference's world: one object, fifteen arrays of numbers, four of longs -/
def rw (ad : Nat → Nat) (y : Nat → ClassId) (τ : Nat → Nat → Int32) (ρ : Nat → Nat → Int64) : va_W := [(ad 0, .inr (8, [.int (τ 0 0), .int (τ 0 1), .ref (ad 1), .ref (ad 2), .ref (ad 3), .ref (ad 4), .ref (ad 5), .ref (ad 16), .ref (ad 17), .int (τ 0 2), .int (τ 0 3), .int (τ 0 4), .int (τ 0 5), .ref (ad 6), .ref (ad 7), .int (τ 0 6), .ref (ad 18), .ref (ad 19), .int (τ 0 7), .int (τ 0 8), .ref (ad 8), .ref (ad 9), .ref (ad 10), .int (τ 0 9), .ref (ad 11), .long (ρ 0 0), .int (τ 0 10), .ref (ad 12), .ref (ad 13), .ref (ad 14), .ref (ad 15)])), (ad 1, .inl (y 0, 40, .inl (τ 1))), (ad 2, .inl (y 0, 40, .inl (τ 2))), (ad 3, .inl (y 0, 40, .inl (τ 3))), (ad 4, .inl (y 0, 40, .inl (τ 4))), (ad 5, .inl (y 1, 40, .inl (τ 5))), (ad 6, .inl (y 0, 4, .inl (τ 6))), (ad 7, .inl (y 0, 4, .inl (τ 7))), (ad 8, .inl (y 0, 2, .inl (τ 8))), (ad 9, .inl (y 0, 2, .inl (τ 9))), (ad 10, .inl (y 0, 2, .inl (τ 10))), (ad 11, .inl (y 0, 2, .inl (τ 11))), (ad 12, .inl (y 0, 20, .inl (τ 12))), (ad 13, .inl (y 0, 40, .inl (τ 13))), (ad 14, .inl (y 0, 40, .inl (τ 14))), (ad 15, .inl (y 0, 40, .inl (τ 15))), (ad 16, .inl (y 3, 40, .inr (.inl (ρ 1)))), (ad 17, .inl (y 3, 40, .inr (.inl (ρ 2)))), (ad 18, .inl (y 3, 6, .inr (.inl (ρ 3)))), (ad 19, .inl (y 3, 6, .inr (.inl (ρ 4))))]
section WD
variable {l : Launch} {g : va_G} {y : Nat → ClassId} {R : Room} {cc : ByteArray} {nL : Nat} {Z : Nat → Nat → va_W → Nat → List (Nat × Value) → List Value → Prop} {k n pc : Nat} {lv : List (Nat × Value)} {st : List Value} {ad : Nat → Nat} {σ τ : Nat → Nat → Int32} {ρ : Nat → Nat → Int64}
theorem g_X3_9 (pc2 : Nat) (hZ : w_Is l g y R cc RX3 nL Z) (dd : decode cc pc = .ok (.getfield 9, 3)) (hp : pc + 3 = pc2) (k1 : Z k n (cw ad y σ) pc2 lv (.ref (ad 7) :: st)) : Z k n (cw ad y σ) pc lv (.ref (ad 1) :: st) := r_get (kf := 0) (q0 := 1) pc2 inX_X3 rfl (by decide : 0 < 10) wF_X3_9 rfl rfl rfl hZ dd hp k1
theorem g_X3_15 (pc2 : Nat) (hZ : w_Is l g y R cc RX3 nL Z) (dd : decode cc pc = .ok (.getfield 15, 3)) (hp : pc + 3 = pc2) (k1 : Z k n (cw ad y σ) pc2 lv (.ref (ad 8) :: st)) : Z k n (cw ad y σ) pc lv (.ref (ad 1) :: st) := r_get (kf := 1) (q0 := 1) pc2 inX_X3 rfl (by decide : 1 < 10) wF_X3_15 rfl rfl rfl hZ dd hp k1
theorem g_X4_29 (pc2 : Nat) (hZ : w_Is l g y R cc RX4 nL Z) (dd : decode cc pc = .ok (.getfield 29, 3)) (hp : pc + 3 = pc2) (k1 : Z k n (cw ad y σ) pc2 lv (.ref (ad 8) :: st)) : Z k n (cw ad y σ) pc lv (.ref (ad 1) :: st) := r_get (kf := 1) (q0 := 1) pc2 inX_X3 rfl (by decide : 1 < 10) wF_X4_29 rfl rfl rfl hZ dd hp k1
theorem g_X5_109 (pc2 : Nat) (hZ : w_Is l g y R cc RX5 nL Z) (dd : decode cc pc = .ok (.getfield 109, 3)) (hp : pc + 3 = pc2) (k1 : Z k n (cw ad y σ) pc2 lv (.ref (ad 8) :: st)) : Z k n (cw ad y σ) pc lv (.ref (ad 1) :: st) := r_get (kf := 1) (q0 := 1) pc2 inX_X3 rfl (by decide : 1 < 10) wF_X5_109 rfl rfl rfl hZ dd hp k1
theorem g_X7_232 (pc2 : Nat) (hZ : w_Is l g y R cc RX7 nL Z) (dd : decode cc pc = .ok (.getfield 232, 3)) (hp : pc + 3 = pc2) (k1 : Z k n (cw ad y σ) pc2 lv (.ref (ad 8) :: st)) : Z k n (cw ad y σ) pc lv (.ref (ad 1) :: st) := r_get (kf := 1) (q0 := 1) pc2 inX_X3 rfl (by decide : 1 < 10) wF_X7_232 rfl rfl rfl hZ dd hp k1
theorem g_X3_18 (pc2 : Nat) (hZ : w_Is l g y R cc RX3 nL Z) (dd : decode cc pc = .ok (.getfield 18, 3)) (hp : pc + 3 = pc2) (k1 : Z k n (cw ad y σ) pc2 lv (.ref (ad 9) :: st)) : Z k n (cw ad y σ) pc lv (.ref (ad 1) :: st) := r_get (kf := 2) (q0 := 1) pc2 inX_X3 rfl (by decide : 2 < 10) wF_X3_18 rfl rfl rfl hZ dd hp k1
theorem g_X4_34 (pc2 : Nat) (hZ : w_Is l g y R cc RX4 nL Z) (dd : decode cc pc = .ok (.getfield 34, 3)) (hp : pc + 3 = pc2) (k1 : Z k n (cw ad y σ) pc2 lv (.ref (ad 9) :: st)) : Z k n (cw ad y σ) pc lv (.ref (ad 1) :: st) := r_get (kf := 2) (q0 := 1) pc2 inX_X3 rfl (by decide : 2 < 10) wF_X4_34 rfl rfl rfl hZ dd hp k1
theorem g_X5_116 (pc2 : Nat) (hZ : w_Is l g y R cc RX5 nL Z) (dd : decode cc pc = .ok (.getfield 116, 3)) (hp : pc + 3 = pc2) (k1 : Z k n (cw ad y σ) pc2 lv (.ref (ad 9) :: st)) : Z k n (cw ad y σ) pc lv (.ref (ad 1) :: st) := r_get (kf := 2) (q0 := 1) pc2 inX_X3 rfl (by decide : 2 < 10) wF_X5_116 rfl rfl rfl hZ dd hp k1
theorem g_X7_234 (pc2 : Nat) (hZ : w_Is l g y R cc RX7 nL Z) (dd : decode cc pc = .ok (.getfield 234, 3)) (hp : pc + 3 = pc2) (k1 : Z k n (cw ad y σ) pc2 lv (.ref (ad 9) :: st)) : Z k n (cw ad y σ) pc lv (.ref (ad 1) :: st) := r_get (kf := 2) (q0 := 1) pc2 inX_X3 rfl (by decide : 2 < 10) wF_X7_234 rfl rfl rfl hZ dd hp k1
theorem g_X3_21 (pc2 : Nat) (hZ : w_Is l g y R cc RX3 nL Z) (dd : decode cc pc = .ok (.getfield 21, 3)) (hp : pc + 3 = pc2) (k1 : Z k n (cw ad y σ) pc2 lv (.ref (ad 10) :: st)) : Z k n (cw ad y σ) pc lv (.ref (ad 1) :: st) := r_get (kf := 3) (q0 := 1) pc2 inX_X3 rfl (by decide : 3 < 10) wF_X3_21 rfl rfl rfl hZ dd hp k1
theorem g_X5_49 (pc2 : Nat) (hZ : w_Is l g y R cc RX5 nL Z) (dd : decode cc pc = .ok (.getfield 49, 3)) (hp : pc + 3 = pc2) (k1 : Z k n (cw ad y σ) pc2 lv (.ref (ad 10) :: st)) : Z k n (cw ad y σ) pc lv (.ref (ad 1) :: st) := r_get (kf := 3) (q0 := 1) pc2 inX_X3 rfl (by decide : 3 < 10) wF_X5_49 rfl rfl rfl hZ dd hp k1
theorem g_X7_127 (pc2 : Nat) (hZ : w_Is l g y R cc RX7 nL Z) (dd : decode cc pc = .ok (.getfield 127, 3)) (hp : pc + 3 = pc2) (k1 : Z k n (cw ad y σ) pc2 lv (.ref (ad 10) :: st)) : Z k n (cw ad y σ) pc lv (.ref (ad 1) :: st) := r_get (kf := 3) (q0 := 1) pc2 inX_X3 rfl (by decide : 3 < 10) wF_X7_127 rfl rfl rfl hZ dd hp k1
theorem g_X3_24 (pc2 : Nat) (hZ : w_Is l g y R cc RX3 nL Z) (dd : decode cc pc = .ok (.getfield 24, 3)) (hp : pc + 3 = pc2) (k1 : Z k n (cw ad y σ) pc2 lv (.ref (ad 11) :: st)) : Z k n (cw ad y σ) pc lv (.ref (ad 1) :: st) := r_get (kf := 4) (q0 := 1) pc2 inX_X3 rfl (by decide : 4 < 10) wF_X3_24 rfl rfl rfl hZ dd hp k1
theorem g_X5_78 (pc2 : Nat) (hZ : w_Is l g y R cc RX5 nL Z) (dd : decode cc pc = .ok (.getfield 78, 3)) (hp : pc + 3 = pc2) (k1 : Z k n (cw ad y σ) pc2 lv (.ref (ad 11) :: st)) : Z k n (cw ad y σ) pc lv (.ref (ad 1) :: st) := r_get (kf := 4) (q0 := 1) pc2 inX_X3 rfl (by decide : 4 < 10) wF_X5_78 rfl rfl rfl hZ dd hp k1
theorem g_X7_152 (pc2 : Nat) (hZ : w_Is l g y R cc RX7 nL Z) (dd : decode cc pc = .ok (.getfield 152, 3)) (hp : pc + 3 = pc2) (k1 : Z k n (cw ad y σ) pc2 lv (.ref (ad 11) :: st)) : Z k n (cw ad y σ) pc lv (.ref (ad 1) :: st) := r_get (kf := 4) (q0 := 1) pc2 inX_X3 rfl (by decide : 4 < 10) wF_X7_152 rfl rfl rfl hZ dd hp k1
theorem g_X3_28 (pc2 : Nat) (hZ : w_Is l g y R cc RX3 nL Z) (dd : decode cc pc = .ok (.getfield 28, 3)) (hp : pc + 3 = pc2) (k1 : Z k n (cw ad y σ) pc2 lv (.ref (ad 12) :: st)) : Z k n (cw ad y σ) pc lv (.ref (ad 1) :: st) := r_get (kf := 5) (q0 := 1) pc2 inX_X3 rfl (by decide : 5 < 10) wF_X3_28 rfl rfl rfl hZ dd hp k1
theorem g_X5_68 (pc2 : Nat) (hZ : w_Is l g y R cc RX5 nL Z) (dd : decode cc pc = .ok (.getfield 68, 3)) (hp : pc + 3 = pc2) (k1 : Z k n (cw ad y σ) pc2 lv (.ref (ad 12) :: st)) : Z k n (cw ad y σ) pc lv (.ref (ad 1) :: st) := r_get (kf := 5) (q0 := 1) pc2 inX_X3 rfl (by decide : 5 < 10) wF_X5_68 rfl rfl rfl hZ dd hp k1
theorem g_X3_31 (pc2 : Nat) (hZ : w_Is l g y R cc RX3 nL Z) (dd : decode cc pc = .ok (.getfield 31, 3)) (hp : pc + 3 = pc2) (k1 : Z k n (cw ad y σ) pc2 lv (.int (σ 0 1) :: st)) : Z k n (cw ad y σ) pc lv (.ref (ad 1) :: st) := r_get (kf := 6) (q0 := 1) pc2 inX_X3 rfl (by decide : 6 < 10) wF_X3_31 rfl rfl rfl hZ dd hp k1
theorem p_X3_31 (pc2 : Nat) (hZ : w_Is l g y R cc RX3 nL Z) {v : Int32} (dd : decode cc pc = .ok (.putfield 31, 3)) (hp : pc + 3 = pc2) (k1 : Z k n (cw ad y (up σ 0 1 v)) pc2 lv st) : Z k n (cw ad y σ) pc lv (.int v :: .ref (ad 1) :: st) := r_put (kf := 6) (q0 := 1) pc2 tyX3 tyX3_ok nmX3 inX_X3 rfl (by decide : 6 < 10) wF_X3_31 rfl rfl (by decide : 6 < 10) rfl rfl rfl rfl rfl hZ dd hp k1
theorem g_X5_54 (pc2 : Nat) (hZ : w_Is l g y R cc RX5 nL Z) (dd : decode cc pc = .ok (.getfield 54, 3)) (hp : pc + 3 = pc2) (k1 : Z k n (cw ad y σ) pc2 lv (.int (σ 0 1) :: st)) : Z k n (cw ad y σ) pc lv (.ref (ad 1) :: st) := r_get (kf := 6) (q0 := 1) pc2 inX_X3 rfl (by decide : 6 < 10) wF_X5_54 rfl rfl rfl hZ dd hp k1
theorem p_X5_54 (pc2 : Nat) (hZ : w_Is l g y R cc RX5 nL Z) {v : Int32} (dd : decode cc pc = .ok (.putfield 54, 3)) (hp : pc + 3 = pc2) (k1 : Z k n (cw ad y (up σ 0 1 v)) pc2 lv st) : Z k n (cw ad y σ) pc lv (.int v :: .ref (ad 1) :: st) := r_put (kf := 6) (q0 := 1) pc2 tyX3 tyX3_ok nmX3 inX_X3 rfl (by decide : 6 < 10) wF_X5_54 rfl rfl (by decide : 6 < 10) rfl rfl rfl rfl rfl hZ dd hp k1
theorem g_X7_99 (pc2 : Nat) (hZ : w_Is l g y R cc RX7 nL Z) (dd : decode cc pc = .ok (.getfield 99, 3)) (hp : pc + 3 = pc2) (k1 : Z k n (cw ad y σ) pc2 lv (.int (σ 0 1) :: st)) : Z k n (cw ad y σ) pc lv (.ref (ad 1) :: st) := r_get (kf := 6) (q0 := 1) pc2 inX_X3 rfl (by decide : 6 < 10) wF_X7_99 rfl rfl rfl hZ dd hp k1
theorem p_X7_99 (pc2 : Nat) (hZ : w_Is l g y R cc RX7 nL Z) {v : Int32} (dd : decode cc pc = .ok (.putfield 99, 3)) (hp : pc + 3 = pc2) (k1 : Z k n (cw ad y (up σ 0 1 v)) pc2 lv st) : Z k n (cw ad y σ) pc lv (.int v :: .ref (ad 1) :: st) := r_put (kf := 6) (q0 := 1) pc2 tyX3 tyX3_ok nmX3 inX_X3 rfl (by decide : 6 < 10) wF_X7_99 rfl rfl (by decide : 6 < 10) rfl rfl rfl rfl rfl hZ dd hp k1
theorem g_X7_59 (pc2 : Nat) (hZ : w_Is l g y R cc RX7 nL Z) (dd : decode cc pc = .ok (.getfield 59, 3)) (hp : pc + 3 = pc2) (k1 : Z k n (cw ad y σ) pc2 lv (.int (σ 0 2) :: st)) : Z k n (cw ad y σ) pc lv (.ref (ad 1) :: st) := r_get (kf := 7) (q0 := 1) pc2 inX_X3 rfl (by decide : 7 < 10) wF_X7_59 rfl rfl rfl hZ dd hp k1
theorem p_X7_59 (pc2 : Nat) (hZ : w_Is l g y R cc RX7 nL Z) {v : Int32} (dd : decode cc pc = .ok (.putfield 59, 3)) (hp : pc + 3 = pc2) (k1 : Z k n (cw ad y (up σ 0 2 v)) pc2 lv st) : Z k n (cw ad y σ) pc lv (.int v :: .ref (ad 1) :: st) := r_put (kf := 7) (q0 := 1) pc2 tyX3 tyX3_ok nmX3 inX_X3 rfl (by decide : 7 < 10) wF_X7_59 rfl rfl (by decide : 7 < 10) rfl rfl rfl rfl rfl hZ dd hp k1
theorem g_X3_35 (pc2 : Nat) (hZ : w_Is l g y R cc RX3 nL Z) (dd : decode cc pc = .ok (.getfield 35, 3)) (hp : pc + 3 = pc2) (k1 : Z k n (cw ad y σ) pc2 lv (.int (σ 0 2) :: st)) : Z k n (cw ad y σ) pc lv (.ref (ad 1) :: st) := r_get (kf := 7) (q0 := 1) pc2 inX_X3 rfl (by decide : 7 < 10) wF_X3_35 rfl rfl rfl hZ dd hp k1
theorem p_X3_35 (pc2 : Nat) (hZ : w_Is l g y R cc RX3 nL Z) {v : Int32} (dd : decode cc pc = .ok (.putfield 35, 3)) (hp : pc + 3 = pc2) (k1 : Z k n (cw ad y (up σ 0 2 v)) pc2 lv st) : Z k n (cw ad y σ) pc lv (.int v :: .ref (ad 1) :: st) := r_put (kf := 7) (q0 := 1) pc2 tyX3 tyX3_ok nmX3 inX_X3 rfl (by decide : 7 < 10) wF_X3_35 rfl rfl (by decide : 7 < 10) rfl rfl rfl rfl rfl hZ dd hp k1
theorem g_X3_38 (pc2 : Nat) (hZ : w_Is l g y R cc RX3 nL Z) (dd : decode cc pc = .ok (.getfield 38, 3)) (hp : pc + 3 = pc2) (k1 : Z k n (cw ad y σ) pc2 lv (.int (σ 0 3) :: st)) : Z k n (cw ad y σ) pc lv (.ref (ad 1) :: st) := r_get (kf := 8) (q0 := 1) pc2 inX_X3 rfl (by decide : 8 < 10) wF_X3_38 rfl rfl rfl hZ dd hp k1
theorem p_X3_38 (pc2 : Nat) (hZ : w_Is l g y R cc RX3 nL Z) {v : Int32} (dd : decode cc pc = .ok (.putfield 38, 3)) (hp : pc + 3 = pc2) (k1 : Z k n (cw ad y (up σ 0 3 v)) pc2 lv st) : Z k n (cw ad y σ) pc lv (.int v :: .ref (ad 1) :: st) := r_put (kf := 8) (q0 := 1) pc2 tyX3 tyX3_ok nmX3 inX_X3 rfl (by decide : 8 < 10) wF_X3_38 rfl rfl (by decide : 8 < 10) rfl rfl rfl rfl rfl hZ dd hp k1
theorem g_X7_62 (pc2 : Nat) (hZ : w_Is l g y R cc RX7 nL Z) (dd : decode cc pc = .ok (.getfield 62, 3)) (hp : pc + 3 = pc2) (k1 : Z k n (cw ad y σ) pc2 lv (.int (σ 0 3) :: st)) : Z k n (cw ad y σ) pc lv (.ref (ad 1) :: st) := r_get (kf := 8) (q0 := 1) pc2 inX_X3 rfl (by decide : 8 < 10) wF_X7_62 rfl rfl rfl hZ dd hp k1
theorem p_X7_62 (pc2 : Nat) (hZ : w_Is l g y R cc RX7 nL Z) {v : Int32} (dd : decode cc pc = .ok (.putfield 62, 3)) (hp : pc + 3 = pc2) (k1 : Z k n (cw ad y (up σ 0 3 v)) pc2 lv st) : Z k n (cw ad y σ) pc lv (.int v :: .ref (ad 1) :: st) := r_put (kf := 8) (q0 := 1) pc2 tyX3 tyX3_ok nmX3 inX_X3 rfl (by decide : 8 < 10) wF_X7_62 rfl rfl (by decide : 8 < 10) rfl rfl rfl rfl rfl hZ dd hp k1
theorem g_X3_41 (pc2 : Nat) (hZ : w_Is l g y R cc RX3 nL Z) (dd : decode cc pc = .ok (.getfield 41, 3)) (hp : pc + 3 = pc2) (k1 : Z k n (cw ad y σ) pc2 lv (.int (σ 0 4) :: st)) : Z k n (cw ad y σ) pc lv (.ref (ad 1) :: st) := r_get (kf := 9) (q0 := 1) pc2 inX_X3 rfl (by decide : 9 < 10) wF_X3_41 rfl rfl rfl hZ dd hp k1
theorem p_X3_41 (pc2 : Nat) (hZ : w_Is l g y R cc RX3 nL Z) {v : Int32} (dd : decode cc pc = .ok (.putfield 41, 3)) (hp : pc + 3 = pc2) (k1 : Z k n (cw ad y (up σ 0 4 v)) pc2 lv st) : Z k n (cw ad y σ) pc lv (.int v :: .ref (ad 1) :: st) := r_put (kf := 9) (q0 := 1) pc2 tyX3 tyX3_ok nmX3 inX_X3 rfl (by decide : 9 < 10) wF_X3_41 rfl rfl (by decide : 9 < 10) rfl rfl rfl rfl rfl hZ dd hp k1
theorem g_X7_65 (pc2 : Nat) (hZ : w_Is l g y R cc RX7 nL Z) (dd : decode cc pc = .ok (.getfield 65, 3)) (hp : pc + 3 = pc2) (k1 : Z k n (cw ad y σ) pc2 lv (.int (σ 0 4) :: st)) : Z k n (cw ad y σ) pc lv (.ref (ad 1) :: st) := r_get (kf := 9) (q0 := 1) pc2 inX_X3 rfl (by decide : 9 < 10) wF_X7_65 rfl rfl rfl hZ dd hp k1
theorem p_X7_65 (pc2 : Nat) (hZ : w_Is l g y R cc RX7 nL Z) {v : Int32} (dd : decode cc pc = .ok (.putfield 65, 3)) (hp : pc + 3 = pc2) (k1 : Z k n (cw ad y (up σ 0 4 v)) pc2 lv st) : Z k n (cw ad y σ) pc lv (.int v :: .ref (ad 1) :: st) := r_put (kf := 9) (q0 := 1) pc2 tyX3 tyX3_ok nmX3 inX_X3 rfl (by decide : 9 < 10) wF_X7_65 rfl rfl (by decide : 9 < 10) rfl rfl rfl rfl rfl hZ dd hp k1
theorem g_X2_9 (pc2 : Nat) (hZ : w_Is l g y R cc RX2 nL Z) (dd : decode cc pc = .ok (.getfield 9, 3)) (hp : pc + 3 = pc2) (k1 : Z k n (cw ad y σ) pc2 lv (.ref (ad 13) :: st)) : Z k n (cw ad y σ) pc lv (.ref (ad 2) :: st) := r_get (kf := 0) (q0 := 2) pc2 inX_X2 rfl (by decide : 0 < 3) wF_X2_9 rfl rfl rfl hZ dd hp k1
theorem g_X2_15 (pc2 : Nat) (hZ : w_Is l g y R cc RX2 nL Z) (dd : decode cc pc = .ok (.getfield 15, 3)) (hp : pc + 3 = pc2) (k1 : Z k n (cw ad y σ) pc2 lv (.ref (ad 14) :: st)) : Z k n (cw ad y σ) pc lv (.ref (ad 2) :: st) := r_get (kf := 1) (q0 := 2) pc2 inX_X2 rfl (by decide : 1 < 3) wF_X2_15 rfl rfl rfl hZ dd hp k1
theorem g_X2_18 (pc2 : Nat) (hZ : w_Is l g y R cc RX2 nL Z) (dd : decode cc pc = .ok (.getfield 18, 3)) (hp : pc + 3 = pc2) (k1 : Z k n (cw ad y σ) pc2 lv (.int (σ 0 5) :: st)) : Z k n (cw ad y σ) pc lv (.ref (ad 2) :: st) := r_get (kf := 2) (q0 := 2) pc2 inX_X2 rfl (by decide : 2 < 3) wF_X2_18 rfl rfl rfl hZ dd hp k1
theorem p_X2_18 (pc2 : Nat) (hZ : w_Is l g y R cc RX2 nL Z) {v : Int32} (dd : decode cc pc = .ok (.putfield 18, 3)) (hp : pc + 3 = pc2) (k1 : Z k n (cw ad y (up σ 0 5 v)) pc2 lv st) : Z k n (cw ad y σ) pc lv (.int v :: .ref (ad 2) :: st) := r_put (kf := 2) (q0 := 2) pc2 tyX2 tyX2_ok nmX2 inX_X2 rfl (by decide : 2 < 3) wF_X2_18 rfl rfl (by decide : 2 < 3) rfl rfl rfl rfl rfl hZ dd hp k1
theorem g_X7_117 (pc2 : Nat) (hZ : w_Is l g y R cc RX7 nL Z) (dd : decode cc pc = .ok (.getfield 117, 3)) (hp : pc + 3 = pc2) (k1 : Z k n (cw ad y σ) pc2 lv (.int (σ 0 5) :: st)) : Z k n (cw ad y σ) pc lv (.ref (ad 2) :: st) := r_get (kf := 2) (q0 := 2) pc2 inX_X2 rfl (by decide : 2 < 3) wF_X7_117 rfl rfl rfl hZ dd hp k1
theorem p_X7_117 (pc2 : Nat) (hZ : w_Is l g y R cc RX7 nL Z) {v : Int32} (dd : decode cc pc = .ok (.putfield 117, 3)) (hp : pc + 3 = pc2) (k1 : Z k n (cw ad y (up σ 0 5 v)) pc2 lv st) : Z k n (cw ad y σ) pc lv (.int v :: .ref (ad 2) :: st) := r_put (kf := 2) (q0 := 2) pc2 tyX2 tyX2_ok nmX2 inX_X2 rfl (by decide : 2 < 3) wF_X7_117 rfl rfl (by decide : 2 < 3) rfl rfl rfl rfl rfl hZ dd hp k1
theorem g_X0_9 (pc2 : Nat) (hZ : w_Is l g y R cc RX0 nL Z) (dd : decode cc pc = .ok (.getfield 9, 3)) (hp : pc + 3 = pc2) (k1 : Z k n (cw ad y σ) pc2 lv (.ref (ad 17) :: st)) : Z k n (cw ad y σ) pc lv (.ref (ad 3) :: st) := r_get (kf := 0) (q0 := 3) pc2 inX_X0 rfl (by decide : 0 < 5) wF_X0_9 rfl rfl rfl hZ dd hp k1
theorem g_X0_15 (pc2 : Nat) (hZ : w_Is l g y R cc RX0 nL Z) (dd : decode cc pc = .ok (.getfield 15, 3)) (hp : pc + 3 = pc2) (k1 : Z k n (cw ad y σ) pc2 lv (.ref (ad 18) :: st)) : Z k n (cw ad y σ) pc lv (.ref (ad 3) :: st) := r_get (kf := 1) (q0 := 3) pc2 inX_X0 rfl (by decide : 1 < 5) wF_X0_15 rfl rfl rfl hZ dd hp k1
theorem g_X0_18 (pc2 : Nat) (hZ : w_Is l g y R cc RX0 nL Z) (dd : decode cc pc = .ok (.getfield 18, 3)) (hp : pc + 3 = pc2) (k1 : Z k n (cw ad y σ) pc2 lv (.ref (ad 19) :: st)) : Z k n (cw ad y σ) pc lv (.ref (ad 3) :: st) := r_get (kf := 2) (q0 := 3) pc2 inX_X0 rfl (by decide : 2 < 5) wF_X0_18 rfl rfl rfl hZ dd hp k1
theorem g_X0_21 (pc2 : Nat) (hZ : w_Is l g y R cc RX0 nL Z) (dd : decode cc pc = .ok (.getfield 21, 3)) (hp : pc + 3 = pc2) (k1 : Z k n (cw ad y σ) pc2 lv (.ref (ad 20) :: st)) : Z k n (cw ad y σ) pc lv (.ref (ad 3) :: st) := r_get (kf := 3) (q0 := 3) pc2 inX_X0 rfl (by decide : 3 < 5) wF_X0_21 rfl rfl rfl hZ dd hp k1
theorem g_X6_36 (pc2 : Nat) (hZ : w_Is l g y R cc RX6 nL Z) (dd : decode cc pc = .ok (.getfield 36, 3)) (hp : pc + 3 = pc2) (k1 : Z k n (cw ad y σ) pc2 lv (.int (σ 0 6) :: st)) : Z k n (cw ad y σ) pc lv (.ref (ad 3) :: st) := r_get (kf := 4) (q0 := 3) pc2 inX_X0 rfl (by decide : 4 < 5) wF_X6_36 rfl rfl rfl hZ dd hp k1
theorem p_X6_36 (pc2 : Nat) (hZ : w_Is l g y R cc RX6 nL Z) {v : Int32} (dd : decode cc pc = .ok (.putfield 36, 3)) (hp : pc + 3 = pc2) (k1 : Z k n (cw ad y (up σ 0 6 v)) pc2 lv st) : Z k n (cw ad y σ) pc lv (.int v :: .ref (ad 3) :: st) := r_put (kf := 4) (q0 := 3) pc2 tyX0 tyX0_ok nmX0 inX_X0 rfl (by decide : 4 < 5) wF_X6_36 rfl rfl (by decide : 4 < 5) rfl rfl rfl rfl rfl hZ dd hp k1
theorem g_X0_24 (pc2 : Nat) (hZ : w_Is l g y R cc RX0 nL Z) (dd : decode cc pc = .ok (.getfield 24, 3)) (hp : pc + 3 = pc2) (k1 : Z k n (cw ad y σ) pc2 lv (.int (σ 0 6) :: st)) : Z k n (cw ad y σ) pc lv (.ref (ad 3) :: st) := r_get (kf := 4) (q0 := 3) pc2 inX_X0 rfl (by decide : 4 < 5) wF_X0_24 rfl rfl rfl hZ dd hp k1
theorem p_X0_24 (pc2 : Nat) (hZ : w_Is l g y R cc RX0 nL Z) {v : Int32} (dd : decode cc pc = .ok (.putfield 24, 3)) (hp : pc + 3 = pc2) (k1 : Z k n (cw ad y (up σ 0 6 v)) pc2 lv st) : Z k n (cw ad y σ) pc lv (.int v :: .ref (ad 3) :: st) := r_put (kf := 4) (q0 := 3) pc2 tyX0 tyX0_ok nmX0 inX_X0 rfl (by decide : 4 < 5) wF_X0_24 rfl rfl (by decide : 4 < 5) rfl rfl rfl rfl rfl hZ dd hp k1
theorem g_X7_166 (pc2 : Nat) (hZ : w_Is l g y R cc RX7 nL Z) (dd : decode cc pc = .ok (.getfield 166, 3)) (hp : pc + 3 = pc2) (k1 : Z k n (cw ad y σ) pc2 lv (.int (σ 0 6) :: st)) : Z k n (cw ad y σ) pc lv (.ref (ad 3) :: st) := r_get (kf := 4) (q0 := 3) pc2 inX_X0 rfl (by decide : 4 < 5) wF_X7_166 rfl rfl rfl hZ dd hp k1
theorem p_X7_166 (pc2 : Nat) (hZ : w_Is l g y R cc RX7 nL Z) {v : Int32} (dd : decode cc pc = .ok (.putfield 166, 3)) (hp : pc + 3 = pc2) (k1 : Z k n (cw ad y (up σ 0 6 v)) pc2 lv st) : Z k n (cw ad y σ) pc lv (.int v :: .ref (ad 3) :: st) := r_put (kf := 4) (q0 := 3) pc2 tyX0 tyX0_ok nmX0 inX_X0 rfl (by decide : 4 < 5) wF_X7_166 rfl rfl (by decide : 4 < 5) rfl rfl rfl rfl rfl hZ dd hp k1
theorem g_X1_7 (pc2 : Nat) (hZ : w_Is l g y R cc RX1 nL Z) {j : Nat} (hj : j < 42) (dd : decode cc pc = .ok (.getfield 7, 3)) (hp : pc + 3 = pc2) (k1 : Z k n (cw ad y σ) pc2 lv (.int (σ 17 j) :: st)) : Z k n (cw ad y σ) pc lv (.ref (ad (25 + j)) :: st) := r_get (kf := 0) pc2 inX_X1 rfl (by decide : 0 < 3) wF_X1_7 rfl (cw_E hj) rfl hZ dd hp k1
theorem p_X1_7 (pc2 : Nat) (hZ : w_Is l g y R cc RX1 nL Z) {j : Nat} {v : Int32} (hj : j < 42) (dd : decode cc pc = .ok (.putfield 7, 3)) (hp : pc + 3 = pc2) (k1 : Z k n (cw ad y (up σ 17 j v)) pc2 lv st) : Z k n (cw ad y σ) pc lv (.int v :: .ref (ad (25 + j)) :: st) := r_put (kf := 0) pc2 tyX1 tyX1_ok nmX1 inX_X1 rfl (by decide : 0 < 3) wF_X1_7 rfl (cw_E hj) (by decide : 0 < 3) rfl rfl rfl rfl ((congrArg (fun x => (cw ad y σ).set (25 + j) (ad (25 + j), .inr (1, x))) (by simp [up_at])).trans (cw_setE (σ2 := up σ 17 j v) hj (fun k hk => by unfold up; rw [if_neg (by omega)]) (fun k i _ _ hi => by rw [up_at, if_neg (by omega)]))) hZ dd hp k1
theorem g_X4_22 (pc2 : Nat) (hZ : w_Is l g y R cc RX4 nL Z) {j : Nat} (hj : j < 42) (dd : decode cc pc = .ok (.getfield 22, 3)) (hp : pc + 3 = pc2) (k1 : Z k n (cw ad y σ) pc2 lv (.int (σ 17 j) :: st)) : Z k n (cw ad y σ) pc lv (.ref (ad (25 + j)) :: st) := r_get (kf := 0) pc2 inX_X1 rfl (by decide : 0 < 3) wF_X4_22 rfl (cw_E hj) rfl hZ dd hp k1
theorem p_X4_22 (pc2 : Nat) (hZ : w_Is l g y R cc RX4 nL Z) {j : Nat} {v : Int32} (hj : j < 42) (dd : decode cc pc = .ok (.putfield 22, 3)) (hp : pc + 3 = pc2) (k1 : Z k n (cw ad y (up σ 17 j v)) pc2 lv st) : Z k n (cw ad y σ) pc lv (.int v :: .ref (ad (25 + j)) :: st) := r_put (kf := 0) pc2 tyX1 tyX1_ok nmX1 inX_X1 rfl (by decide : 0 < 3) wF_X4_22 rfl (cw_E hj) (by decide : 0 < 3) rfl rfl rfl rfl ((congrArg (fun x => (cw ad y σ).set (25 + j) (ad (25 + j), .inr (1, x))) (by simp [up_at])).trans (cw_setE (σ2 := up σ 17 j v) hj (fun k hk => by unfold up; rw [if_neg (by omega)]) (fun k i _ _ hi => by rw [up_at, if_neg (by omega)]))) hZ dd hp k1
theorem g_X6_23 (pc2 : Nat) (hZ : w_Is l g y R cc RX6 nL Z) {j : Nat} (hj : j < 42) (dd : decode cc pc = .ok (.getfield 23, 3)) (hp : pc + 3 = pc2) (k1 : Z k n (cw ad y σ) pc2 lv (.int (σ 17 j) :: st)) : Z k n (cw ad y σ) pc lv (.ref (ad (25 + j)) :: st) := r_get (kf := 0) pc2 inX_X1 rfl (by decide : 0 < 3) wF_X6_23 rfl (cw_E hj) rfl hZ dd hp k1
theorem p_X6_23 (pc2 : Nat) (hZ : w_Is l g y R cc RX6 nL Z) {j : Nat} {v : Int32} (hj : j < 42) (dd : decode cc pc = .ok (.putfield 23, 3)) (hp : pc + 3 = pc2) (k1 : Z k n (cw ad y (up σ 17 j v)) pc2 lv st) : Z k n (cw ad y σ) pc lv (.int v :: .ref (ad (25 + j)) :: st) := r_put (kf := 0) pc2 tyX1 tyX1_ok nmX1 inX_X1 rfl (by decide : 0 < 3) wF_X6_23 rfl (cw_E hj) (by decide : 0 < 3) rfl rfl rfl rfl ((congrArg (fun x => (cw ad y σ).set (25 + j) (ad (25 + j), .inr (1, x))) (by simp [up_at])).trans (cw_setE (σ2 := up σ 17 j v) hj (fun k hk => by unfold up; rw [if_neg (by omega)]) (fun k i _ _ hi => by rw [up_at, if_neg (by omega)]))) hZ dd hp k1
theorem g_X3_59 (pc2 : Nat) (hZ : w_Is l g y R cc RX3 nL Z) {j : Nat} (hj : j < 42) (dd : decode cc pc = .ok (.getfield 59, 3)) (hp : pc + 3 = pc2) (k1 : Z k n (cw ad y σ) pc2 lv (.int (σ 17 j) :: st)) : Z k n (cw ad y σ) pc lv (.ref (ad (25 + j)) :: st) := r_get (kf := 0) pc2 inX_X1 rfl (by decide : 0 < 3) wF_X3_59 rfl (cw_E hj) rfl hZ dd hp k1
theorem p_X3_59 (pc2 : Nat) (hZ : w_Is l g y R cc RX3 nL Z) {j : Nat} {v : Int32} (hj : j < 42) (dd : decode cc pc = .ok (.putfield 59, 3)) (hp : pc + 3 = pc2) (k1 : Z k n (cw ad y (up σ 17 j v)) pc2 lv st) : Z k n (cw ad y σ) pc lv (.int v :: .ref (ad (25 + j)) :: st) := r_put (kf := 0) pc2 tyX1 tyX1_ok nmX1 inX_X1 rfl (by decide : 0 < 3) wF_X3_59 rfl (cw_E hj) (by decide : 0 < 3) rfl rfl rfl rfl ((congrArg (fun x => (cw ad y σ).set (25 + j) (ad (25 + j), .inr (1, x))) (by simp [up_at])).trans (cw_setE (σ2 := up σ 17 j v) hj (fun k hk => by unfold up; rw [if_neg (by omega)]) (fun k i _ _ hi => by rw [up_at, if_neg (by omega)]))) hZ dd hp k1
theorem g_X7_193 (pc2 : Nat) (hZ : w_Is l g y R cc RX7 nL Z) {j : Nat} (hj : j < 42) (dd : decode cc pc = .ok (.getfield 193, 3)) (hp : pc + 3 = pc2) (k1 : Z k n (cw ad y σ) pc2 lv (.int (σ 17 j) :: st)) : Z k n (cw ad y σ) pc lv (.ref (ad (25 + j)) :: st) := r_get (kf := 0) pc2 inX_X1 rfl (by decide : 0 < 3) wF_X7_193 rfl (cw_E hj) rfl hZ dd hp k1
theorem p_X7_193 (pc2 : Nat) (hZ : w_Is l g y R cc RX7 nL Z) {j : Nat} {v : Int32} (hj : j < 42) (dd : decode cc pc = .ok (.putfield 193, 3)) (hp : pc + 3 = pc2) (k1 : Z k n (cw ad y (up σ 17 j v)) pc2 lv st) : Z k n (cw ad y σ) pc lv (.int v :: .ref (ad (25 + j)) :: st) := r_put (kf := 0) pc2 tyX1 tyX1_ok nmX1 inX_X1 rfl (by decide : 0 < 3) wF_X7_193 rfl (cw_E hj) (by decide : 0 < 3) rfl rfl rfl rfl ((congrArg (fun x => (cw ad y σ).set (25 + j) (ad (25 + j), .inr (1, x))) (by simp [up_at])).trans (cw_setE (σ2 := up σ 17 j v) hj (fun k hk => by unfold up; rw [if_neg (by omega)]) (fun k i _ _ hi => by rw [up_at, if_neg (by omega)]))) hZ dd hp k1
theorem g_X1_13 (pc2 : Nat) (hZ : w_Is l g y R cc RX1 nL Z) {j : Nat} (hj : j < 42) (dd : decode cc pc = .ok (.getfield 13, 3)) (hp : pc + 3 = pc2) (k1 : Z k n (cw ad y σ) pc2 lv (.int (σ 18 j) :: st)) : Z k n (cw ad y σ) pc lv (.ref (ad (25 + j)) :: st) := r_get (kf := 1) pc2 inX_X1 rfl (by decide : 1 < 3) wF_X1_13 rfl (cw_E hj) rfl hZ dd hp k1
theorem p_X1_13 (pc2 : Nat) (hZ : w_Is l g y R cc RX1 nL Z) {j : Nat} {v : Int32} (hj : j < 42) (dd : decode cc pc = .ok (.putfield 13, 3)) (hp : pc + 3 = pc2) (k1 : Z k n (cw ad y (up σ 18 j v)) pc2 lv st) : Z k n (cw ad y σ) pc lv (.int v :: .ref (ad (25 + j)) :: st) := r_put (kf := 1) pc2 tyX1 tyX1_ok nmX1 inX_X1 rfl (by decide : 1 < 3) wF_X1_13 rfl (cw_E hj) (by decide : 1 < 3) rfl rfl rfl rfl ((congrArg (fun x => (cw ad y σ).set (25 + j) (ad (25 + j), .inr (1, x))) (by simp [up_at])).trans (cw_setE (σ2 := up σ 18 j v) hj (fun k hk => by unfold up; rw [if_neg (by omega)]) (fun k i _ _ hi => by rw [up_at, if_neg (by omega)]))) hZ dd hp k1
theorem g_X3_64 (pc2 : Nat) (hZ : w_Is l g y R cc RX3 nL Z) {j : Nat} (hj : j < 42) (dd : decode cc pc = .ok (.getfield 64, 3)) (hp : pc + 3 = pc2) (k1 : Z k n (cw ad y σ) pc2 lv (.int (σ 18 j) :: st)) : Z k n (cw ad y σ) pc lv (.ref (ad (25 + j)) :: st) := r_get (kf := 1) pc2 inX_X1 rfl (by decide : 1 < 3) wF_X3_64 rfl (cw_E hj) rfl hZ dd hp k1
theorem p_X3_64 (pc2 : Nat) (hZ : w_Is l g y R cc RX3 nL Z) {j : Nat} {v : Int32} (hj : j < 42) (dd : decode cc pc = .ok (.putfield 64, 3)) (hp : pc + 3 = pc2) (k1 : Z k n (cw ad y (up σ 18 j v)) pc2 lv st) : Z k n (cw ad y σ) pc lv (.int v :: .ref (ad (25 + j)) :: st) := r_put (kf := 1) pc2 tyX1 tyX1_ok nmX1 inX_X1 rfl (by decide : 1 < 3) wF_X3_64 rfl (cw_E hj) (by decide : 1 < 3) rfl rfl rfl rfl ((congrArg (fun x => (cw ad y σ).set (25 + j) (ad (25 + j), .inr (1, x))) (by simp [up_at])).trans (cw_setE (σ2 := up σ 18 j v) hj (fun k hk => by unfold up; rw [if_neg (by omega)]) (fun k i _ _ hi => by rw [up_at, if_neg (by omega)]))) hZ dd hp k1
theorem g_X7_198 (pc2 : Nat) (hZ : w_Is l g y R cc RX7 nL Z) {j : Nat} (hj : j < 42) (dd : decode cc pc = .ok (.getfield 198, 3)) (hp : pc + 3 = pc2) (k1 : Z k n (cw ad y σ) pc2 lv (.int (σ 18 j) :: st)) : Z k n (cw ad y σ) pc lv (.ref (ad (25 + j)) :: st) := r_get (kf := 1) pc2 inX_X1 rfl (by decide : 1 < 3) wF_X7_198 rfl (cw_E hj) rfl hZ dd hp k1
theorem p_X7_198 (pc2 : Nat) (hZ : w_Is l g y R cc RX7 nL Z) {j : Nat} {v : Int32} (hj : j < 42) (dd : decode cc pc = .ok (.putfield 198, 3)) (hp : pc + 3 = pc2) (k1 : Z k n (cw ad y (up σ 18 j v)) pc2 lv st) : Z k n (cw ad y σ) pc lv (.int v :: .ref (ad (25 + j)) :: st) := r_put (kf := 1) pc2 tyX1 tyX1_ok nmX1 inX_X1 rfl (by decide : 1 < 3) wF_X7_198 rfl (cw_E hj) (by decide : 1 < 3) rfl rfl rfl rfl ((congrArg (fun x => (cw ad y σ).set (25 + j) (ad (25 + j), .inr (1, x))) (by simp [up_at])).trans (cw_setE (σ2 := up σ 18 j v) hj (fun k hk => by unfold up; rw [if_neg (by omega)]) (fun k i _ _ hi => by rw [up_at, if_neg (by omega)]))) hZ dd hp k1
theorem g_X1_16 (pc2 : Nat) (hZ : w_Is l g y R cc RX1 nL Z) {j : Nat} (hj : j < 42) (dd : decode cc pc = .ok (.getfield 16, 3)) (hp : pc + 3 = pc2) (k1 : Z k n (cw ad y σ) pc2 lv (.int (σ 19 j) :: st)) : Z k n (cw ad y σ) pc lv (.ref (ad (25 + j)) :: st) := r_get (kf := 2) pc2 inX_X1 rfl (by decide : 2 < 3) wF_X1_16 rfl (cw_E hj) rfl hZ dd hp k1
theorem p_X1_16 (pc2 : Nat) (hZ : w_Is l g y R cc RX1 nL Z) {j : Nat} {v : Int32} (hj : j < 42) (dd : decode cc pc = .ok (.putfield 16, 3)) (hp : pc + 3 = pc2) (k1 : Z k n (cw ad y (up σ 19 j v)) pc2 lv st) : Z k n (cw ad y σ) pc lv (.int v :: .ref (ad (25 + j)) :: st) := r_put (kf := 2) pc2 tyX1 tyX1_ok nmX1 inX_X1 rfl (by decide : 2 < 3) wF_X1_16 rfl (cw_E hj) (by decide : 2 < 3) rfl rfl rfl rfl ((congrArg (fun x => (cw ad y σ).set (25 + j) (ad (25 + j), .inr (1, x))) (by simp [up_at])).trans (cw_setE (σ2 := up σ 19 j v) hj (fun k hk => by unfold up; rw [if_neg (by omega)]) (fun k i _ _ hi => by rw [up_at, if_neg (by omega)]))) hZ dd hp k1
theorem g_X3_66 (pc2 : Nat) (hZ : w_Is l g y R cc RX3 nL Z) {j : Nat} (hj : j < 42) (dd : decode cc pc = .ok (.getfield 66, 3)) (hp : pc + 3 = pc2) (k1 : Z k n (cw ad y σ) pc2 lv (.int (σ 19 j) :: st)) : Z k n (cw ad y σ) pc lv (.ref (ad (25 + j)) :: st) := r_get (kf := 2) pc2 inX_X1 rfl (by decide : 2 < 3) wF_X3_66 rfl (cw_E hj) rfl hZ dd hp k1
theorem p_X3_66 (pc2 : Nat) (hZ : w_Is l g y R cc RX3 nL Z) {j : Nat} {v : Int32} (hj : j < 42) (dd : decode cc pc = .ok (.putfield 66, 3)) (hp : pc + 3 = pc2) (k1 : Z k n (cw ad y (up σ 19 j v)) pc2 lv st) : Z k n (cw ad y σ) pc lv (.int v :: .ref (ad (25 + j)) :: st) := r_put (kf := 2) pc2 tyX1 tyX1_ok nmX1 inX_X1 rfl (by decide : 2 < 3) wF_X3_66 rfl (cw_E hj) (by decide : 2 < 3) rfl rfl rfl rfl ((congrArg (fun x => (cw ad y σ).set (25 + j) (ad (25 + j), .inr (1, x))) (by simp [up_at])).trans (cw_setE (σ2 := up σ 19 j v) hj (fun k hk => by unfold up; rw [if_neg (by omega)]) (fun k i _ _ hi => by rw [up_at, if_neg (by omega)]))) hZ dd hp k1
theorem g_X7_201 (pc2 : Nat) (hZ : w_Is l g y R cc RX7 nL Z) {j : Nat} (hj : j < 42) (dd : decode cc pc = .ok (.getfield 201, 3)) (hp : pc + 3 = pc2) (k1 : Z k n (cw ad y σ) pc2 lv (.int (σ 19 j) :: st)) : Z k n (cw ad y σ) pc lv (.ref (ad (25 + j)) :: st) := r_get (kf := 2) pc2 inX_X1 rfl (by decide : 2 < 3) wF_X7_201 rfl (cw_E hj) rfl hZ dd hp k1
theorem p_X7_201 (pc2 : Nat) (hZ : w_Is l g y R cc RX7 nL Z) {j : Nat} {v : Int32} (hj : j < 42) (dd : decode cc pc = .ok (.putfield 201, 3)) (hp : pc + 3 = pc2) (k1 : Z k n (cw ad y (up σ 19 j v)) pc2 lv st) : Z k n (cw ad y σ) pc lv (.int v :: .ref (ad (25 + j)) :: st) := r_put (kf := 2) pc2 tyX1 tyX1_ok nmX1 inX_X1 rfl (by decide : 2 < 3) wF_X7_201 rfl (cw_E hj) (by decide : 2 < 3) rfl rfl rfl rfl ((congrArg (fun x => (cw ad y σ).set (25 + j) (ad (25 + j), .inr (1, x))) (by simp [up_at])).trans (cw_setE (σ2 := up σ 19 j v) hj (fun k hk => by unfold up; rw [if_neg (by omega)]) (fun k i _ _ hi => by rw [up_at, if_neg (by omega)]))) hZ dd hp k1
theorem g_X5_9 (pc2 : Nat) (hZ : w_Is l g y R cc RX5 nL Z) (dd : decode cc pc = .ok (.getfield 9, 3)) (hp : pc + 3 = pc2) (k1 : Z k n (cw ad y σ) pc2 lv (.ref (ad 1) :: st)) : Z k n (cw ad y σ) pc lv (.ref (ad 4) :: st) := r_get (kf := 0) (q0 := 4) pc2 inX_X5 rfl (by decide : 0 < 5) wF_X5_9 rfl rfl rfl hZ dd hp k1
theorem g_X5_15 (pc2 : Nat) (hZ : w_Is l g y R cc RX5 nL Z) (dd : decode cc pc = .ok (.getfield 15, 3)) (hp : pc + 3 = pc2) (k1 : Z k n (cw ad y σ) pc2 lv (.ref (ad 2) :: st)) : Z k n (cw ad y σ) pc lv (.ref (ad 4) :: st) := r_get (kf := 1) (q0 := 4) pc2 inX_X5 rfl (by decide : 1 < 5) wF_X5_15 rfl rfl rfl hZ dd hp k1
theorem g_X5_21 (pc2 : Nat) (hZ : w_Is l g y R cc RX5 nL Z) (dd : decode cc pc = .ok (.getfield 21, 3)) (hp : pc + 3 = pc2) (k1 : Z k n (cw ad y σ) pc2 lv (.ref (ad 23) :: st)) : Z k n (cw ad y σ) pc lv (.ref (ad 4) :: st) := r_get (kf := 2) (q0 := 4) pc2 inX_X5 rfl (by decide : 2 < 5) wF_X5_21 rfl rfl rfl hZ dd hp k1
theorem g_X7_179 (pc2 : Nat) (hZ : w_Is l g y R cc RX7 nL Z) (dd : decode cc pc = .ok (.getfield 179, 3)) (hp : pc + 3 = pc2) (k1 : Z k n (cw ad y σ) pc2 lv (.ref (ad 23) :: st)) : Z k n (cw ad y σ) pc lv (.ref (ad 4) :: st) := r_get (kf := 2) (q0 := 4) pc2 inX_X5 rfl (by decide : 2 < 5) wF_X7_179 rfl rfl rfl hZ dd hp k1
theorem g_X5_26 (pc2 : Nat) (hZ : w_Is l g y R cc RX5 nL Z) (dd : decode cc pc = .ok (.getfield 26, 3)) (hp : pc + 3 = pc2) (k1 : Z k n (cw ad y σ) pc2 lv (.ref (ad 15) :: st)) : Z k n (cw ad y σ) pc lv (.ref (ad 4) :: st) := r_get (kf := 3) (q0 := 4) pc2 inX_X5 rfl (by decide : 3 < 5) wF_X5_26 rfl rfl rfl hZ dd hp k1
theorem g_X5_30 (pc2 : Nat) (hZ : w_Is l g y R cc RX5 nL Z) (dd : decode cc pc = .ok (.getfield 30, 3)) (hp : pc + 3 = pc2) (k1 : Z k n (cw ad y σ) pc2 lv (.ref (ad 16) :: st)) : Z k n (cw ad y σ) pc lv (.ref (ad 4) :: st) := r_get (kf := 4) (q0 := 4) pc2 inX_X5 rfl (by decide : 4 < 5) wF_X5_30 rfl rfl rfl hZ dd hp k1
theorem g_X6_9 (pc2 : Nat) (hZ : w_Is l g y R cc RX6 nL Z) (dd : decode cc pc = .ok (.getfield 9, 3)) (hp : pc + 3 = pc2) (k1 : Z k n (cw ad y σ) pc2 lv (.ref (ad 3) :: st)) : Z k n (cw ad y σ) pc lv (.ref (ad 5) :: st) := r_get (kf := 0) (q0 := 5) pc2 inX_X6 rfl (by decide : 0 < 3) wF_X6_9 rfl rfl rfl hZ dd hp k1
theorem g_X6_15 (pc2 : Nat) (hZ : w_Is l g y R cc RX6 nL Z) (dd : decode cc pc = .ok (.getfield 15, 3)) (hp : pc + 3 = pc2) (k1 : Z k n (cw ad y σ) pc2 lv (.ref (ad 21) :: st)) : Z k n (cw ad y σ) pc lv (.ref (ad 5) :: st) := r_get (kf := 1) (q0 := 5) pc2 inX_X6 rfl (by decide : 1 < 3) wF_X6_15 rfl rfl rfl hZ dd hp k1
theorem g_X7_204 (pc2 : Nat) (hZ : w_Is l g y R cc RX7 nL Z) (dd : decode cc pc = .ok (.getfield 204, 3)) (hp : pc + 3 = pc2) (k1 : Z k n (cw ad y σ) pc2 lv (.ref (ad 21) :: st)) : Z k n (cw ad y σ) pc lv (.ref (ad 5) :: st) := r_get (kf := 1) (q0 := 5) pc2 inX_X6 rfl (by decide : 1 < 3) wF_X7_204 rfl rfl rfl hZ dd hp k1
theorem g_X6_19 (pc2 : Nat) (hZ : w_Is l g y R cc RX6 nL Z) (dd : decode cc pc = .ok (.getfield 19, 3)) (hp : pc + 3 = pc2) (k1 : Z k n (cw ad y σ) pc2 lv (.int (σ 0 7) :: st)) : Z k n (cw ad y σ) pc lv (.ref (ad 5) :: st) := r_get (kf := 2) (q0 := 5) pc2 inX_X6 rfl (by decide : 2 < 3) wF_X6_19 rfl rfl rfl hZ dd hp k1
theorem p_X6_19 (pc2 : Nat) (hZ : w_Is l g y R cc RX6 nL Z) {v : Int32} (dd : decode cc pc = .ok (.putfield 19, 3)) (hp : pc + 3 = pc2) (k1 : Z k n (cw ad y (up σ 0 7 v)) pc2 lv st) : Z k n (cw ad y σ) pc lv (.int v :: .ref (ad 5) :: st) := r_put (kf := 2) (q0 := 5) pc2 tyX6 tyX6_ok nmX6 inX_X6 rfl (by decide : 2 < 3) wF_X6_19 rfl rfl (by decide : 2 < 3) rfl rfl rfl rfl rfl hZ dd hp k1
theorem g_X7_207 (pc2 : Nat) (hZ : w_Is l g y R cc RX7 nL Z) (dd : decode cc pc = .ok (.getfield 207, 3)) (hp : pc + 3 = pc2) (k1 : Z k n (cw ad y σ) pc2 lv (.int (σ 0 7) :: st)) : Z k n (cw ad y σ) pc lv (.ref (ad 5) :: st) := r_get (kf := 2) (q0 := 5) pc2 inX_X6 rfl (by decide : 2 < 3) wF_X7_207 rfl rfl rfl hZ dd hp k1
theorem p_X7_207 (pc2 : Nat) (hZ : w_Is l g y R cc RX7 nL Z) {v : Int32} (dd : decode cc pc = .ok (.putfield 207, 3)) (hp : pc + 3 = pc2) (k1 : Z k n (cw ad y (up σ 0 7 v)) pc2 lv st) : Z k n (cw ad y σ) pc lv (.int v :: .ref (ad 5) :: st) := r_put (kf := 2) (q0 := 5) pc2 tyX6 tyX6_ok nmX6 inX_X6 rfl (by decide : 2 < 3) wF_X7_207 rfl rfl (by decide : 2 < 3) rfl rfl rfl rfl rfl hZ dd hp k1
theorem g_X4_11 (pc2 : Nat) (hZ : w_Is l g y R cc RX4 nL Z) (dd : decode cc pc = .ok (.getfield 11, 3)) (hp : pc + 3 = pc2) (k1 : Z k n (cw ad y σ) pc2 lv (.ref (ad 24) :: st)) : Z k n (cw ad y σ) pc lv (.ref (ad 6) :: st) := r_get (kf := 0) (q0 := 6) pc2 inX_X4 rfl (by decide : 0 < 3) wF_X4_11 rfl rfl rfl hZ dd hp k1
theorem g_X4_18 (pc2 : Nat) (hZ : w_Is l g y R cc RX4 nL Z) (dd : decode cc pc = .ok (.getfield 18, 3)) (hp : pc + 3 = pc2) (k1 : Z k n (cw ad y σ) pc2 lv (.ref (ad 22) :: st)) : Z k n (cw ad y σ) pc lv (.ref (ad 6) :: st) := r_get (kf := 1) (q0 := 6) pc2 inX_X4 rfl (by decide : 1 < 3) wF_X4_18 rfl rfl rfl hZ dd hp k1
theorem g_X4_26 (pc2 : Nat) (hZ : w_Is l g y R cc RX4 nL Z) (dd : decode cc pc = .ok (.getfield 26, 3)) (hp : pc + 3 = pc2) (k1 : Z k n (cw ad y σ) pc2 lv (.int (σ 0 8) :: st)) : Z k n (cw ad y σ) pc lv (.ref (ad 6) :: st) := r_get (kf := 2) (q0 := 6) pc2 inX_X4 rfl (by decide : 2 < 3) wF_X4_26 rfl rfl rfl hZ dd hp k1
theorem p_X4_26 (pc2 : Nat) (hZ : w_Is l g y R cc RX4 nL Z) {v : Int32} (dd : decode cc pc = .ok (.putfield 26, 3)) (hp : pc + 3 = pc2) (k1 : Z k n (cw ad y (up σ 0 8 v)) pc2 lv st) : Z k n (cw ad y σ) pc lv (.int v :: .ref (ad 6) :: st) := r_put (kf := 2) (q0 := 6) pc2 tyX4 tyX4_ok nmX4 inX_X4 rfl (by decide : 2 < 3) wF_X4_26 rfl rfl (by decide : 2 < 3) rfl rfl rfl rfl rfl hZ dd hp k1
theorem g_X7_210 (pc2 : Nat) (hZ : w_Is l g y R cc RX7 nL Z) (dd : decode cc pc = .ok (.getfield 210, 3)) (hp : pc + 3 = pc2) (k1 : Z k n (cw ad y σ) pc2 lv (.int (σ 0 8) :: st)) : Z k n (cw ad y σ) pc lv (.ref (ad 6) :: st) := r_get (kf := 2) (q0 := 6) pc2 inX_X4 rfl (by decide : 2 < 3) wF_X7_210 rfl rfl rfl hZ dd hp k1
theorem p_X7_210 (pc2 : Nat) (hZ : w_Is l g y R cc RX7 nL Z) {v : Int32} (dd : decode cc pc = .ok (.putfield 210, 3)) (hp : pc + 3 = pc2) (k1 : Z k n (cw ad y (up σ 0 8 v)) pc2 lv st) : Z k n (cw ad y σ) pc lv (.int v :: .ref (ad 6) :: st) := r_put (kf := 2) (q0 := 6) pc2 tyX4 tyX4_ok nmX4 inX_X4 rfl (by decide : 2 < 3) wF_X7_210 rfl rfl (by decide : 2 < 3) rfl rfl rfl rfl rfl hZ dd hp k1
theorem g_X7_12 (pc2 : Nat) (hZ : w_Is l g y R cc RX7 nL Z) (dd : decode cc pc = .ok (.getfield 12, 3)) (hp : pc + 3 = pc2) (k1 : Z k n (cw ad y σ) pc2 lv (.ref (ad 1) :: st)) : Z k n (cw ad y σ) pc lv (.ref (ad 0) :: st) := r_get (kf := 0) (q0 := 0) pc2 inX_X7 rfl (by decide : 0 < 7) wF_X7_12 rfl rfl rfl hZ dd hp k1
theorem g_X7_19 (pc2 : Nat) (hZ : w_Is l g y R cc RX7 nL Z) (dd : decode cc pc = .ok (.getfield 19, 3)) (hp : pc + 3 = pc2) (k1 : Z k n (cw ad y σ) pc2 lv (.ref (ad 2) :: st)) : Z k n (cw ad y σ) pc lv (.ref (ad 0) :: st) := r_get (kf := 1) (q0 := 0) pc2 inX_X7 rfl (by decide : 1 < 7) wF_X7_19 rfl rfl rfl hZ dd hp k1
theorem g_X7_26 (pc2 : Nat) (hZ : w_Is l g y R cc RX7 nL Z) (dd : decode cc pc = .ok (.getfield 26, 3)) (hp : pc + 3 = pc2) (k1 : Z k n (cw ad y σ) pc2 lv (.ref (ad 3) :: st)) : Z k n (cw ad y σ) pc lv (.ref (ad 0) :: st) := r_get (kf := 2) (q0 := 0) pc2 inX_X7 rfl (by decide : 2 < 7) wF_X7_26 rfl rfl rfl hZ dd hp k1
theorem g_X7_35 (pc2 : Nat) (hZ : w_Is l g y R cc RX7 nL Z) (dd : decode cc pc = .ok (.getfield 35, 3)) (hp : pc + 3 = pc2) (k1 : Z k n (cw ad y σ) pc2 lv (.ref (ad 4) :: st)) : Z k n (cw ad y σ) pc lv (.ref (ad 0) :: st) := r_get (kf := 3) (q0 := 0) pc2 inX_X7 rfl (by decide : 3 < 7) wF_X7_35 rfl rfl rfl hZ dd hp k1
theorem g_X7_44 (pc2 : Nat) (hZ : w_Is l g y R cc RX7 nL Z) (dd : decode cc pc = .ok (.getfield 44, 3)) (hp : pc + 3 = pc2) (k1 : Z k n (cw ad y σ) pc2 lv (.ref (ad 5) :: st)) : Z k n (cw ad y σ) pc lv (.ref (ad 0) :: st) := r_get (kf := 4) (q0 := 0) pc2 inX_X7 rfl (by decide : 4 < 7) wF_X7_44 rfl rfl rfl hZ dd hp k1
theorem g_X7_51 (pc2 : Nat) (hZ : w_Is l g y R cc RX7 nL Z) (dd : decode cc pc = .ok (.getfield 51, 3)) (hp : pc + 3 = pc2) (k1 : Z k n (cw ad y σ) pc2 lv (.ref (ad 6) :: st)) : Z k n (cw ad y σ) pc lv (.ref (ad 0) :: st) := r_get (kf := 5) (q0 := 0) pc2 inX_X7 rfl (by decide : 5 < 7) wF_X7_51 rfl rfl rfl hZ dd hp k1
theorem g_X7_55 (pc2 : Nat) (hZ : w_Is l g y R cc RX7 nL Z) (dd : decode cc pc = .ok (.getfield 55, 3)) (hp : pc + 3 = pc2) (k1 : Z k n (cw ad y σ) pc2 lv (.int (σ 0 0) :: st)) : Z k n (cw ad y σ) pc lv (.ref (ad 0) :: st) := r_get (kf := 6) (q0 := 0) pc2 inX_X7 rfl (by decide : 6 < 7) wF_X7_55 rfl rfl rfl hZ dd hp k1
theorem p_X7_55 (pc2 : Nat) (hZ : w_Is l g y R cc RX7 nL Z) {v : Int32} (dd : decode cc pc = .ok (.putfield 55, 3)) (hp : pc + 3 = pc2) (k1 : Z k n (cw ad y (up σ 0 0 v)) pc2 lv st) : Z k n (cw ad y σ) pc lv (.int v :: .ref (ad 0) :: st) := r_put (kf := 6) (q0 := 0) pc2 tyX7 tyX7_ok nmX7 inX_X7 rfl (by decide : 6 < 7) wF_X7_55 rfl rfl (by decide : 6 < 7) rfl rfl rfl rfl rfl hZ dd hp k1
theorem g_X8_72 (pc2 : Nat) (hZ : w_Is l g y R cc RX8 nL Z) (dd : decode cc pc = .ok (.getfield 72, 3)) (hp : pc + 3 = pc2) (k1 : Z k n (rw ad y τ ρ) pc2 lv (.int (τ 0 0) :: st)) : Z k n (rw ad y τ ρ) pc lv (.ref (ad 0) :: st) := r_get (kf := 0) (q0 := 0) pc2 inX_X8 rfl (by decide : 0 < 31) wF_X8_72 rfl rfl rfl hZ dd hp k1
theorem p_X8_72 (pc2 : Nat) (hZ : w_Is l g y R cc RX8 nL Z) {v : Int32} (dd : decode cc pc = .ok (.putfield 72, 3)) (hp : pc + 3 = pc2) (k1 : Z k n (rw ad y (up τ 0 0 v) ρ) pc2 lv st) : Z k n (rw ad y τ ρ) pc lv (.int v :: .ref (ad 0) :: st) := r_put (kf := 0) (q0 := 0) pc2 tyX8 tyX8_ok nmX8 inX_X8 rfl (by decide : 0 < 31) wF_X8_72 rfl rfl (by decide : 0 < 31) rfl rfl rfl rfl rfl hZ dd hp k1
theorem g_X8_76 (pc2 : Nat) (hZ : w_Is l g y R cc RX8 nL Z) (dd : decode cc pc = .ok (.getfield 76, 3)) (hp : pc + 3 = pc2) (k1 : Z k n (rw ad y τ ρ) pc2 lv (.int (τ 0 1) :: st)) : Z k n (rw ad y τ ρ) pc lv (.ref (ad 0) :: st) := r_get (kf := 1) (q0 := 0) pc2 inX_X8 rfl (by decide : 1 < 31) wF_X8_76 rfl rfl rfl hZ dd hp k1
theorem p_X8_76 (pc2 : Nat) (hZ : w_Is l g y R cc RX8 nL Z) {v : Int32} (dd : decode cc pc = .ok (.putfield 76, 3)) (hp : pc + 3 = pc2) (k1 : Z k n (rw ad y (up τ 0 1 v) ρ) pc2 lv st) : Z k n (rw ad y τ ρ) pc lv (.int v :: .ref (ad 0) :: st) := r_put (kf := 1) (q0 := 0) pc2 tyX8 tyX8_ok nmX8 inX_X8 rfl (by decide : 1 < 31) wF_X8_76 rfl rfl (by decide : 1 < 31) rfl rfl rfl rfl rfl hZ dd hp k1
theorem g_X8_7 (pc2 : Nat) (hZ : w_Is l g y R cc RX8 nL Z) (dd : decode cc pc = .ok (.getfield 7, 3)) (hp : pc + 3 = pc2) (k1 : Z k n (rw ad y τ ρ) pc2 lv (.ref (ad 1) :: st)) : Z k n (rw ad y τ ρ) pc lv (.ref (ad 0) :: st) := r_get (kf := 2) (q0 := 0) pc2 inX_X8 rfl (by decide : 2 < 31) wF_X8_7 rfl rfl rfl hZ dd hp k1
theorem g_X8_13 (pc2 : Nat) (hZ : w_Is l g y R cc RX8 nL Z) (dd : decode cc pc = .ok (.getfield 13, 3)) (hp : pc + 3 = pc2) (k1 : Z k n (rw ad y τ ρ) pc2 lv (.ref (ad 2) :: st)) : Z k n (rw ad y τ ρ) pc lv (.ref (ad 0) :: st) := r_get (kf := 3) (q0 := 0) pc2 inX_X8 rfl (by decide : 3 < 31) wF_X8_13 rfl rfl rfl hZ dd hp k1
theorem g_X8_16 (pc2 : Nat) (hZ : w_Is l g y R cc RX8 nL Z) (dd : decode cc pc = .ok (.getfield 16, 3)) (hp : pc + 3 = pc2) (k1 : Z k n (rw ad y τ ρ) pc2 lv (.ref (ad 3) :: st)) : Z k n (rw ad y τ ρ) pc lv (.ref (ad 0) :: st) := r_get (kf := 4) (q0 := 0) pc2 inX_X8 rfl (by decide : 4 < 31) wF_X8_16 rfl rfl rfl hZ dd hp k1
theorem g_X8_19 (pc2 : Nat) (hZ : w_Is l g y R cc RX8 nL Z) (dd : decode cc pc = .ok (.getfield 19, 3)) (hp : pc + 3 = pc2) (k1 : Z k n (rw ad y τ ρ) pc2 lv (.ref (ad 4) :: st)) : Z k n (rw ad y τ ρ) pc lv (.ref (ad 0) :: st) := r_get (kf := 5) (q0 := 0) pc2 inX_X8 rfl (by decide : 5 < 31) wF_X8_19 rfl rfl rfl hZ dd hp k1
theorem g_X8_22 (pc2 : Nat) (hZ : w_Is l g y R cc RX8 nL Z) (dd : decode cc pc = .ok (.getfield 22, 3)) (hp : pc + 3 = pc2) (k1 : Z k n (rw ad y τ ρ) pc2 lv (.ref (ad 5) :: st)) : Z k n (rw ad y τ ρ) pc lv (.ref (ad 0) :: st) := r_get (kf := 6) (q0 := 0) pc2 inX_X8 rfl (by decide : 6 < 31) wF_X8_22 rfl rfl rfl hZ dd hp k1
theorem g_X8_26 (pc2 : Nat) (hZ : w_Is l g y R cc RX8 nL Z) (dd : decode cc pc = .ok (.getfield 26, 3)) (hp : pc + 3 = pc2) (k1 : Z k n (rw ad y τ ρ) pc2 lv (.ref (ad 16) :: st)) : Z k n (rw ad y τ ρ) pc lv (.ref (ad 0) :: st) := r_get (kf := 7) (q0 := 0) pc2 inX_X8 rfl (by decide : 7 < 31) wF_X8_26 rfl rfl rfl hZ dd hp k1
theorem g_X8_30 (pc2 : Nat) (hZ : w_Is l g y R cc RX8 nL Z) (dd : decode cc pc = .ok (.getfield 30, 3)) (hp : pc + 3 = pc2) (k1 : Z k n (rw ad y τ ρ) pc2 lv (.ref (ad 17) :: st)) : Z k n (rw ad y τ ρ) pc lv (.ref (ad 0) :: st) := r_get (kf := 8) (q0 := 0) pc2 inX_X8 rfl (by decide : 8 < 31) wF_X8_30 rfl rfl rfl hZ dd hp k1
theorem g_X8_102 (pc2 : Nat) (hZ : w_Is l g y R cc RX8 nL Z) (dd : decode cc pc = .ok (.getfield 102, 3)) (hp : pc + 3 = pc2) (k1 : Z k n (rw ad y τ ρ) pc2 lv (.int (τ 0 2) :: st)) : Z k n (rw ad y τ ρ) pc lv (.ref (ad 0) :: st) := r_get (kf := 9) (q0 := 0) pc2 inX_X8 rfl (by decide : 9 < 31) wF_X8_102 rfl rfl rfl hZ dd hp k1
theorem p_X8_102 (pc2 : Nat) (hZ : w_Is l g y R cc RX8 nL Z) {v : Int32} (dd : decode cc pc = .ok (.putfield 102, 3)) (hp : pc + 3 = pc2) (k1 : Z k n (rw ad y (up τ 0 2 v) ρ) pc2 lv st) : Z k n (rw ad y τ ρ) pc lv (.int v :: .ref (ad 0) :: st) := r_put (kf := 9) (q0 := 0) pc2 tyX8 tyX8_ok nmX8 inX_X8 rfl (by decide : 9 < 31) wF_X8_102 rfl rfl (by decide : 9 < 31) rfl rfl rfl rfl rfl hZ dd hp k1
theorem g_X8_105 (pc2 : Nat) (hZ : w_Is l g y R cc RX8 nL Z) (dd : decode cc pc = .ok (.getfield 105, 3)) (hp : pc + 3 = pc2) (k1 : Z k n (rw ad y τ ρ) pc2 lv (.int (τ 0 3) :: st)) : Z k n (rw ad y τ ρ) pc lv (.ref (ad 0) :: st) := r_get (kf := 10) (q0 := 0) pc2 inX_X8 rfl (by decide : 10 < 31) wF_X8_105 rfl rfl rfl hZ dd hp k1
theorem p_X8_105 (pc2 : Nat) (hZ : w_Is l g y R cc RX8 nL Z) {v : Int32} (dd : decode cc pc = .ok (.putfield 105, 3)) (hp : pc + 3 = pc2) (k1 : Z k n (rw ad y (up τ 0 3 v) ρ) pc2 lv st) : Z k n (rw ad y τ ρ) pc lv (.int v :: .ref (ad 0) :: st) := r_put (kf := 10) (q0 := 0) pc2 tyX8 tyX8_ok nmX8 inX_X8 rfl (by decide : 10 < 31) wF_X8_105 rfl rfl (by decide : 10 < 31) rfl rfl rfl rfl rfl hZ dd hp k1
theorem g_X8_108 (pc2 : Nat) (hZ : w_Is l g y R cc RX8 nL Z) (dd : decode cc pc = .ok (.getfield 108, 3)) (hp : pc + 3 = pc2) (k1 : Z k n (rw ad y τ ρ) pc2 lv (.int (τ 0 4) :: st)) : Z k n (rw ad y τ ρ) pc lv (.ref (ad 0) :: st) := r_get (kf := 11) (q0 := 0) pc2 inX_X8 rfl (by decide : 11 < 31) wF_X8_108 rfl rfl rfl hZ dd hp k1
theorem p_X8_108 (pc2 : Nat) (hZ : w_Is l g y R cc RX8 nL Z) {v : Int32} (dd : decode cc pc = .ok (.putfield 108, 3)) (hp : pc + 3 = pc2) (k1 : Z k n (rw ad y (up τ 0 4 v) ρ) pc2 lv st) : Z k n (rw ad y τ ρ) pc lv (.int v :: .ref (ad 0) :: st) := r_put (kf := 11) (q0 := 0) pc2 tyX8 tyX8_ok nmX8 inX_X8 rfl (by decide : 11 < 31) wF_X8_108 rfl rfl (by decide : 11 < 31) rfl rfl rfl rfl rfl hZ dd hp k1
theorem g_X8_91 (pc2 : Nat) (hZ : w_Is l g y R cc RX8 nL Z) (dd : decode cc pc = .ok (.getfield 91, 3)) (hp : pc + 3 = pc2) (k1 : Z k n (rw ad y τ ρ) pc2 lv (.int (τ 0 5) :: st)) : Z k n (rw ad y τ ρ) pc lv (.ref (ad 0) :: st) := r_get (kf := 12) (q0 := 0) pc2 inX_X8 rfl (by decide : 12 < 31) wF_X8_91 rfl rfl rfl hZ dd hp k1
theorem p_X8_91 (pc2 : Nat) (hZ : w_Is l g y R cc RX8 nL Z) {v : Int32} (dd : decode cc pc = .ok (.putfield 91, 3)) (hp : pc + 3 = pc2) (k1 : Z k n (rw ad y (up τ 0 5 v) ρ) pc2 lv st) : Z k n (rw ad y τ ρ) pc lv (.int v :: .ref (ad 0) :: st) := r_put (kf := 12) (q0 := 0) pc2 tyX8 tyX8_ok nmX8 inX_X8 rfl (by decide : 12 < 31) wF_X8_91 rfl rfl (by decide : 12 < 31) rfl rfl rfl rfl rfl hZ dd hp k1
theorem g_X8_33 (pc2 : Nat) (hZ : w_Is l g y R cc RX8 nL Z) (dd : decode cc pc = .ok (.getfield 33, 3)) (hp : pc + 3 = pc2) (k1 : Z k n (rw ad y τ ρ) pc2 lv (.ref (ad 6) :: st)) : Z k n (rw ad y τ ρ) pc lv (.ref (ad 0) :: st) := r_get (kf := 13) (q0 := 0) pc2 inX_X8 rfl (by decide : 13 < 31) wF_X8_33 rfl rfl rfl hZ dd hp k1
theorem g_X8_36 (pc2 : Nat) (hZ : w_Is l g y R cc RX8 nL Z) (dd : decode cc pc = .ok (.getfield 36, 3)) (hp : pc + 3 = pc2) (k1 : Z k n (rw ad y τ ρ) pc2 lv (.ref (ad 7) :: st)) : Z k n (rw ad y τ ρ) pc lv (.ref (ad 0) :: st) := r_get (kf := 14) (q0 := 0) pc2 inX_X8 rfl (by decide : 14 < 31) wF_X8_36 rfl rfl rfl hZ dd hp k1
theorem g_X8_136 (pc2 : Nat) (hZ : w_Is l g y R cc RX8 nL Z) (dd : decode cc pc = .ok (.getfield 136, 3)) (hp : pc + 3 = pc2) (k1 : Z k n (rw ad y τ ρ) pc2 lv (.int (τ 0 6) :: st)) : Z k n (rw ad y τ ρ) pc lv (.ref (ad 0) :: st) := r_get (kf := 15) (q0 := 0) pc2 inX_X8 rfl (by decide : 15 < 31) wF_X8_136 rfl rfl rfl hZ dd hp k1
theorem p_X8_136 (pc2 : Nat) (hZ : w_Is l g y R cc RX8 nL Z) {v : Int32} (dd : decode cc pc = .ok (.putfield 136, 3)) (hp : pc + 3 = pc2) (k1 : Z k n (rw ad y (up τ 0 6 v) ρ) pc2 lv st) : Z k n (rw ad y τ ρ) pc lv (.int v :: .ref (ad 0) :: st) := r_put (kf := 15) (q0 := 0) pc2 tyX8 tyX8_ok nmX8 inX_X8 rfl (by decide : 15 < 31) wF_X8_136 rfl rfl (by decide : 15 < 31) rfl rfl rfl rfl rfl hZ dd hp k1
theorem g_X8_39 (pc2 : Nat) (hZ : w_Is l g y R cc RX8 nL Z) (dd : decode cc pc = .ok (.getfield 39, 3)) (hp : pc + 3 = pc2) (k1 : Z k n (rw ad y τ ρ) pc2 lv (.ref (ad 18) :: st)) : Z k n (rw ad y τ ρ) pc lv (.ref (ad 0) :: st) := r_get (kf := 16) (q0 := 0) pc2 inX_X8 rfl (by decide : 16 < 31) wF_X8_39 rfl rfl rfl hZ dd hp k1
theorem g_X8_42 (pc2 : Nat) (hZ : w_Is l g y R cc RX8 nL Z) (dd : decode cc pc = .ok (.getfield 42, 3)) (hp : pc + 3 = pc2) (k1 : Z k n (rw ad y τ ρ) pc2 lv (.ref (ad 19) :: st)) : Z k n (rw ad y τ ρ) pc lv (.ref (ad 0) :: st) := r_get (kf := 17) (q0 := 0) pc2 inX_X8 rfl (by decide : 17 < 31) wF_X8_42 rfl rfl rfl hZ dd hp k1
theorem g_X8_98 (pc2 : Nat) (hZ : w_Is l g y R cc RX8 nL Z) (dd : decode cc pc = .ok (.getfield 98, 3)) (hp : pc + 3 = pc2) (k1 : Z k n (rw ad y τ ρ) pc2 lv (.int (τ 0 7) :: st)) : Z k n (rw ad y τ ρ) pc lv (.ref (ad 0) :: st) := r_get (kf := 18) (q0 := 0) pc2 inX_X8 rfl (by decide : 18 < 31) wF_X8_98 rfl rfl rfl hZ dd hp k1
theorem p_X8_98 (pc2 : Nat) (hZ : w_Is l g y R cc RX8 nL Z) {v : Int32} (hb : v = 0 ∨ v = 1) (dd : decode cc pc = .ok (.putfield 98, 3)) (hp : pc + 3 = pc2) (k1 : Z k n (rw ad y (up τ 0 7 v) ρ) pc2 lv st) : Z k n (rw ad y τ ρ) pc lv (.int v :: .ref (ad 0) :: st) := r_put (kf := 18) (q0 := 0) pc2 tyX8 tyX8_ok nmX8 inX_X8 rfl (by decide : 18 < 31) wF_X8_98 rfl rfl (by decide : 18 < 31) rfl rfl (by rcases hb with rfl | rfl <;> rfl) (by rcases hb with rfl | rfl <;> rfl) rfl hZ dd hp k1
theorem g_X8_157 (pc2 : Nat) (hZ : w_Is l g y R cc RX8 nL Z) (dd : decode cc pc = .ok (.getfield 157, 3)) (hp : pc + 3 = pc2) (k1 : Z k n (rw ad y τ ρ) pc2 lv (.int (τ 0 8) :: st)) : Z k n (rw ad y τ ρ) pc lv (.ref (ad 0) :: st) := r_get (kf := 19) (q0 := 0) pc2 inX_X8 rfl (by decide : 19 < 31) wF_X8_157 rfl rfl rfl hZ dd hp k1
theorem p_X8_157 (pc2 : Nat) (hZ : w_Is l g y R cc RX8 nL Z) {v : Int32} (dd : decode cc pc = .ok (.putfield 157, 3)) (hp : pc + 3 = pc2) (k1 : Z k n (rw ad y (up τ 0 8 v) ρ) pc2 lv st) : Z k n (rw ad y τ ρ) pc lv (.int v :: .ref (ad 0) :: st) := r_put (kf := 19) (q0 := 0) pc2 tyX8 tyX8_ok nmX8 inX_X8 rfl (by decide : 19 < 31) wF_X8_157 rfl rfl (by decide : 19 < 31) rfl rfl rfl rfl rfl hZ dd hp k1
theorem g_X8_45 (pc2 : Nat) (hZ : w_Is l g y R cc RX8 nL Z) (dd : decode cc pc = .ok (.getfield 45, 3)) (hp : pc + 3 = pc2) (k1 : Z k n (rw ad y τ ρ) pc2 lv (.ref (ad 8) :: st)) : Z k n (rw ad y τ ρ) pc lv (.ref (ad 0) :: st) := r_get (kf := 20) (q0 := 0) pc2 inX_X8 rfl (by decide : 20 < 31) wF_X8_45 rfl rfl rfl hZ dd hp k1
theorem g_X8_48 (pc2 : Nat) (hZ : w_Is l g y R cc RX8 nL Z) (dd : decode cc pc = .ok (.getfield 48, 3)) (hp : pc + 3 = pc2) (k1 : Z k n (rw ad y τ ρ) pc2 lv (.ref (ad 9) :: st)) : Z k n (rw ad y τ ρ) pc lv (.ref (ad 0) :: st) := r_get (kf := 21) (q0 := 0) pc2 inX_X8 rfl (by decide : 21 < 31) wF_X8_48 rfl rfl rfl hZ dd hp k1
theorem g_X8_51 (pc2 : Nat) (hZ : w_Is l g y R cc RX8 nL Z) (dd : decode cc pc = .ok (.getfield 51, 3)) (hp : pc + 3 = pc2) (k1 : Z k n (rw ad y τ ρ) pc2 lv (.ref (ad 10) :: st)) : Z k n (rw ad y τ ρ) pc lv (.ref (ad 0) :: st) := r_get (kf := 22) (q0 := 0) pc2 inX_X8 rfl (by decide : 22 < 31) wF_X8_51 rfl rfl rfl hZ dd hp k1
theorem g_X8_167 (pc2 : Nat) (hZ : w_Is l g y R cc RX8 nL Z) (dd : decode cc pc = .ok (.getfield 167, 3)) (hp : pc + 3 = pc2) (k1 : Z k n (rw ad y τ ρ) pc2 lv (.int (τ 0 9) :: st)) : Z k n (rw ad y τ ρ) pc lv (.ref (ad 0) :: st) := r_get (kf := 23) (q0 := 0) pc2 inX_X8 rfl (by decide : 23 < 31) wF_X8_167 rfl rfl rfl hZ dd hp k1
theorem p_X8_167 (pc2 : Nat) (hZ : w_Is l g y R cc RX8 nL Z) {v : Int32} (hb : v = 0 ∨ v = 1) (dd : decode cc pc = .ok (.putfield 167, 3)) (hp : pc + 3 = pc2) (k1 : Z k n (rw ad y (up τ 0 9 v) ρ) pc2 lv st) : Z k n (rw ad y τ ρ) pc lv (.int v :: .ref (ad 0) :: st) := r_put (kf := 23) (q0 := 0) pc2 tyX8 tyX8_ok nmX8 inX_X8 rfl (by decide : 23 < 31) wF_X8_167 rfl rfl (by decide : 23 < 31) rfl rfl (by rcases hb with rfl | rfl <;> rfl) (by rcases hb with rfl | rfl <;> rfl) rfl hZ dd hp k1
theorem g_X8_54 (pc2 : Nat) (hZ : w_Is l g y R cc RX8 nL Z) (dd : decode cc pc = .ok (.getfield 54, 3)) (hp : pc + 3 = pc2) (k1 : Z k n (rw ad y τ ρ) pc2 lv (.ref (ad 11) :: st)) : Z k n (rw ad y τ ρ) pc lv (.ref (ad 0) :: st) := r_get (kf := 24) (q0 := 0) pc2 inX_X8 rfl (by decide : 24 < 31) wF_X8_54 rfl rfl rfl hZ dd hp k1
theorem g_X8_170 (pc2 : Nat) (hZ : w_Is l g y R cc RX8 nL Z) (dd : decode cc pc = .ok (.getfield 170, 3)) (hp : pc + 3 = pc2) (k1 : Z k n (rw ad y τ ρ) pc2 lv (.long (ρ 0 0) :: st)) : Z k n (rw ad y τ ρ) pc lv (.ref (ad 0) :: st) := r_get (kf := 25) (q0 := 0) pc2 inX_X8 rfl (by decide : 25 < 31) wF_X8_170 rfl rfl rfl hZ dd hp k1
theorem p_X8_170 (pc2 : Nat) (hZ : w_Is l g y R cc RX8 nL Z) {v : Int64} (dd : decode cc pc = .ok (.putfield 170, 3)) (hp : pc + 3 = pc2) (k1 : Z k n (rw ad y τ (upL ρ 0 0 v)) pc2 lv st) : Z k n (rw ad y τ ρ) pc lv (.long v :: .ref (ad 0) :: st) := r_put (kf := 25) (q0 := 0) pc2 tyX8 tyX8_ok nmX8 inX_X8 rfl (by decide : 25 < 31) wF_X8_170 rfl rfl (by decide : 25 < 31) rfl rfl rfl rfl rfl hZ dd hp k1
theorem g_X8_178 (pc2 : Nat) (hZ : w_Is l g y R cc RX8 nL Z) (dd : decode cc pc = .ok (.getfield 178, 3)) (hp : pc + 3 = pc2) (k1 : Z k n (rw ad y τ ρ) pc2 lv (.int (τ 0 10) :: st)) : Z k n (rw ad y τ ρ) pc lv (.ref (ad 0) :: st) := r_get (kf := 26) (q0 := 0) pc2 inX_X8 rfl (by decide : 26 < 31) wF_X8_178 rfl rfl rfl hZ dd hp k1
theorem p_X8_178 (pc2 : Nat) (hZ : w_Is l g y R cc RX8 nL Z) {v : Int32} (dd : decode cc pc = .ok (.putfield 178, 3)) (hp : pc + 3 = pc2) (k1 : Z k n (rw ad y (up τ 0 10 v) ρ) pc2 lv st) : Z k n (rw ad y τ ρ) pc lv (.int v :: .ref (ad 0) :: st) := r_put (kf := 26) (q0 := 0) pc2 tyX8 tyX8_ok nmX8 inX_X8 rfl (by decide : 26 < 31) wF_X8_178 rfl rfl (by decide : 26 < 31) rfl rfl rfl rfl rfl hZ dd hp k1
theorem g_X8_57 (pc2 : Nat) (hZ : w_Is l g y R cc RX8 nL Z) (dd : decode cc pc = .ok (.getfield 57, 3)) (hp : pc + 3 = pc2) (k1 : Z k n (rw ad y τ ρ) pc2 lv (.ref (ad 12) :: st)) : Z k n (rw ad y τ ρ) pc lv (.ref (ad 0) :: st) := r_get (kf := 27) (q0 := 0) pc2 inX_X8 rfl (by decide : 27 < 31) wF_X8_57 rfl rfl rfl hZ dd hp k1
theorem g_X8_60 (pc2 : Nat) (hZ : w_Is l g y R cc RX8 nL Z) (dd : decode cc pc = .ok (.getfield 60, 3)) (hp : pc + 3 = pc2) (k1 : Z k n (rw ad y τ ρ) pc2 lv (.ref (ad 13) :: st)) : Z k n (rw ad y τ ρ) pc lv (.ref (ad 0) :: st) := r_get (kf := 28) (q0 := 0) pc2 inX_X8 rfl (by decide : 28 < 31) wF_X8_60 rfl rfl rfl hZ dd hp k1
theorem g_X8_63 (pc2 : Nat) (hZ : w_Is l g y R cc RX8 nL Z) (dd : decode cc pc = .ok (.getfield 63, 3)) (hp : pc + 3 = pc2) (k1 : Z k n (rw ad y τ ρ) pc2 lv (.ref (ad 14) :: st)) : Z k n (rw ad y τ ρ) pc lv (.ref (ad 0) :: st) := r_get (kf := 29) (q0 := 0) pc2 inX_X8 rfl (by decide : 29 < 31) wF_X8_63 rfl rfl rfl hZ dd hp k1
theorem g_X8_66 (pc2 : Nat) (hZ : w_Is l g y R cc RX8 nL Z) (dd : decode cc pc = .ok (.getfield 66, 3)) (hp : pc + 3 = pc2) (k1 : Z k n (rw ad y τ ρ) pc2 lv (.ref (ad 15) :: st)) : Z k n (rw ad y τ ρ) pc lv (.ref (ad 0) :: st) := r_get (kf := 30) (q0 := 0) pc2 inX_X8 rfl (by decide : 30 < 31) wF_X8_66 rfl rfl rfl hZ dd hp k1
theorem a_c1 {own : String} (pc2 : Nat) (hZ : w_Is l g y R cc own nL Z) {i : Int32} (hin : vp_in i 38) (dd : decode cc pc = .ok (.iaload, 1)) (hp : pc + 1 = pc2) (k1 : Z k n (cw ad y σ) pc2 lv (.int (σ 1 i.toNatClampNeg) :: st)) : Z k n (cw ad y σ) pc lv (.int i :: .ref (ad 7) :: st) := r_iald pc2 7 hZ rfl hin dd hp k1
theorem s_c1 {own : String} (pc2 : Nat) (hZ : w_Is l g y R cc own nL Z) {i : Int32} {v : Int32} (hin : vp_in i 38) (dd : decode cc pc = .ok (.iastore, 1)) (hp : pc + 1 = pc2) (k1 : Z k n (cw ad y (up σ 1 i.toNatClampNeg v)) pc2 lv st) : Z k n (cw ad y σ) pc lv (.int v :: .int i :: .ref (ad 7) :: st) := r_iast pc2 7 hZ rfl hin rfl dd hp k1
theorem a_c2 {own : String} (pc2 : Nat) (hZ : w_Is l g y R cc own nL Z) {i : Int32} (hin : vp_in i 38) (dd : decode cc pc = .ok (.iaload, 1)) (hp : pc + 1 = pc2) (k1 : Z k n (cw ad y σ) pc2 lv (.int (σ 2 i.toNatClampNeg) :: st)) : Z k n (cw ad y σ) pc lv (.int i :: .ref (ad 8) :: st) := r_iald pc2 8 hZ rfl hin dd hp k1
theorem s_c2 {own : String} (pc2 : Nat) (hZ : w_Is l g y R cc own nL Z) {i : Int32} {v : Int32} (hin : vp_in i 38) (dd : decode cc pc = .ok (.iastore, 1)) (hp : pc + 1 = pc2) (k1 : Z k n (cw ad y (up σ 2 i.toNatClampNeg v)) pc2 lv st) : Z k n (cw ad y σ) pc lv (.int v :: .int i :: .ref (ad 8) :: st) := r_iast pc2 8 hZ rfl hin rfl dd hp k1
theorem a_c3 {own : String} (pc2 : Nat) (hZ : w_Is l g y R cc own nL Z) {i : Int32} (hin : vp_in i 38) (dd : decode cc pc = .ok (.iaload, 1)) (hp : pc + 1 = pc2) (k1 : Z k n (cw ad y σ) pc2 lv (.int (σ 3 i.toNatClampNeg) :: st)) : Z k n (cw ad y σ) pc lv (.int i :: .ref (ad 9) :: st) := r_iald pc2 9 hZ rfl hin dd hp k1
theorem s_c3 {own : String} (pc2 : Nat) (hZ : w_Is l g y R cc own nL Z) {i : Int32} {v : Int32} (hin : vp_in i 38) (dd : decode cc pc = .ok (.iastore, 1)) (hp : pc + 1 = pc2) (k1 : Z k n (cw ad y (up σ 3 i.toNatClampNeg v)) pc2 lv st) : Z k n (cw ad y σ) pc lv (.int v :: .int i :: .ref (ad 9) :: st) := r_iast pc2 9 hZ rfl hin rfl dd hp k1
theorem a_c4 {own : String} (pc2 : Nat) (hZ : w_Is l g y R cc own nL Z) {i : Int32} (hin : vp_in i 38) (dd : decode cc pc = .ok (.iaload, 1)) (hp : pc + 1 = pc2) (k1 : Z k n (cw ad y σ) pc2 lv (.int (σ 4 i.toNatClampNeg) :: st)) : Z k n (cw ad y σ) pc lv (.int i :: .ref (ad 10) :: st) := r_iald pc2 10 hZ rfl hin dd hp k1
theorem s_c4 {own : String} (pc2 : Nat) (hZ : w_Is l g y R cc own nL Z) {i : Int32} {v : Int32} (hin : vp_in i 38) (dd : decode cc pc = .ok (.iastore, 1)) (hp : pc + 1 = pc2) (k1 : Z k n (cw ad y (up σ 4 i.toNatClampNeg v)) pc2 lv st) : Z k n (cw ad y σ) pc lv (.int v :: .int i :: .ref (ad 10) :: st) := r_iast pc2 10 hZ rfl hin rfl dd hp k1
theorem a_c5 {own : String} (pc2 : Nat) (hZ : w_Is l g y R cc own nL Z) {i : Int32} (hin : vp_in i 38) (dd : decode cc pc = .ok (.baload, 1)) (hp : pc + 1 = pc2) (k1 : Z k n (cw ad y σ) pc2 lv (.int (σ 5 i.toNatClampNeg) :: st)) : Z k n (cw ad y σ) pc lv (.int i :: .ref (ad 11) :: st) := r_zald pc2 11 hZ rfl hin dd hp k1
theorem s_c5 {own : String} (pc2 : Nat) (hZ : w_Is l g y R cc own nL Z) {i : Int32} {v : Int32} (hin : vp_in i 38) (dd : decode cc pc = .ok (.bastore, 1)) (hp : pc + 1 = pc2) (k1 : Z k n (cw ad y (up σ 5 i.toNatClampNeg (vp_nar .boolean v))) pc2 lv st) : Z k n (cw ad y σ) pc lv (.int v :: .int i :: .ref (ad 11) :: st) := r_zast pc2 11 hZ rfl hin rfl dd hp k1
theorem a_c6 {own : String} (pc2 : Nat) (hZ : w_Is l g y R cc own nL Z) {i : Int32} (hin : vp_in i 14) (dd : decode cc pc = .ok (.iaload, 1)) (hp : pc + 1 = pc2) (k1 : Z k n (cw ad y σ) pc2 lv (.int (σ 6 i.toNatClampNeg) :: st)) : Z k n (cw ad y σ) pc lv (.int i :: .ref (ad 12) :: st) := r_iald pc2 12 hZ rfl hin dd hp k1
theorem s_c6 {own : String} (pc2 : Nat) (hZ : w_Is l g y R cc own nL Z) {i : Int32} {v : Int32} (hin : vp_in i 14) (dd : decode cc pc = .ok (.iastore, 1)) (hp : pc + 1 = pc2) (k1 : Z k n (cw ad y (up σ 6 i.toNatClampNeg v)) pc2 lv st) : Z k n (cw ad y σ) pc lv (.int v :: .int i :: .ref (ad 12) :: st) := r_iast pc2 12 hZ rfl hin rfl dd hp k1
theorem a_c7 {own : String} (pc2 : Nat) (hZ : w_Is l g y R cc own nL Z) {i : Int32} (hin : vp_in i 4) (dd : decode cc pc = .ok (.iaload, 1)) (hp : pc + 1 = pc2) (k1 : Z k n (cw ad y σ) pc2 lv (.int (σ 7 i.toNatClampNeg) :: st)) : Z k n (cw ad y σ) pc lv (.int i :: .ref (ad 13) :: st) := r_iald pc2 13 hZ rfl hin dd hp k1
theorem s_c7 {own : String} (pc2 : Nat) (hZ : w_Is l g y R cc own nL Z) {i : Int32} {v : Int32} (hin : vp_in i 4) (dd : decode cc pc = .ok (.iastore, 1)) (hp : pc + 1 = pc2) (k1 : Z k n (cw ad y (up σ 7 i.toNatClampNeg v)) pc2 lv st) : Z k n (cw ad y σ) pc lv (.int v :: .int i :: .ref (ad 13) :: st) := r_iast pc2 13 hZ rfl hin rfl dd hp k1
theorem a_c8 {own : String} (pc2 : Nat) (hZ : w_Is l g y R cc own nL Z) {i : Int32} (hin : vp_in i 4) (dd : decode cc pc = .ok (.iaload, 1)) (hp : pc + 1 = pc2) (k1 : Z k n (cw ad y σ) pc2 lv (.int (σ 8 i.toNatClampNeg) :: st)) : Z k n (cw ad y σ) pc lv (.int i :: .ref (ad 14) :: st) := r_iald pc2 14 hZ rfl hin dd hp k1
theorem s_c8 {own : String} (pc2 : Nat) (hZ : w_Is l g y R cc own nL Z) {i : Int32} {v : Int32} (hin : vp_in i 4) (dd : decode cc pc = .ok (.iastore, 1)) (hp : pc + 1 = pc2) (k1 : Z k n (cw ad y (up σ 8 i.toNatClampNeg v)) pc2 lv st) : Z k n (cw ad y σ) pc lv (.int v :: .int i :: .ref (ad 14) :: st) := r_iast pc2 14 hZ rfl hin rfl dd hp k1
theorem a_c9 {own : String} (pc2 : Nat) (hZ : w_Is l g y R cc own nL Z) {i : Int32} (hin : vp_in i 38) (dd : decode cc pc = .ok (.iaload, 1)) (hp : pc + 1 = pc2) (k1 : Z k n (cw ad y σ) pc2 lv (.int (σ 9 i.toNatClampNeg) :: st)) : Z k n (cw ad y σ) pc lv (.int i :: .ref (ad 15) :: st) := r_iald pc2 15 hZ rfl hin dd hp k1
theorem s_c9 {own : String} (pc2 : Nat) (hZ : w_Is l g y R cc own nL Z) {i : Int32} {v : Int32} (hin : vp_in i 38) (dd : decode cc pc = .ok (.iastore, 1)) (hp : pc + 1 = pc2) (k1 : Z k n (cw ad y (up σ 9 i.toNatClampNeg v)) pc2 lv st) : Z k n (cw ad y σ) pc lv (.int v :: .int i :: .ref (ad 15) :: st) := r_iast pc2 15 hZ rfl hin rfl dd hp k1
theorem a_c10 {own : String} (pc2 : Nat) (hZ : w_Is l g y R cc own nL Z) {i : Int32} (hin : vp_in i 28) (dd : decode cc pc = .ok (.iaload, 1)) (hp : pc + 1 = pc2) (k1 : Z k n (cw ad y σ) pc2 lv (.int (σ 10 i.toNatClampNeg) :: st)) : Z k n (cw ad y σ) pc lv (.int i :: .ref (ad 16) :: st) := r_iald pc2 16 hZ rfl hin dd hp k1
theorem s_c10 {own : String} (pc2 : Nat) (hZ : w_Is l g y R cc own nL Z) {i : Int32} {v : Int32} (hin : vp_in i 28) (dd : decode cc pc = .ok (.iastore, 1)) (hp : pc + 1 = pc2) (k1 : Z k n (cw ad y (up σ 10 i.toNatClampNeg v)) pc2 lv st) : Z k n (cw ad y σ) pc lv (.int v :: .int i :: .ref (ad 16) :: st) := r_iast pc2 16 hZ rfl hin rfl dd hp k1
theorem a_c11 {own : String} (pc2 : Nat) (hZ : w_Is l g y R cc own nL Z) {i : Int32} (hin : vp_in i 38) (dd : decode cc pc = .ok (.iaload, 1)) (hp : pc + 1 = pc2) (k1 : Z k n (cw ad y σ) pc2 lv (.int (σ 11 i.toNatClampNeg) :: st)) : Z k n (cw ad y σ) pc lv (.int i :: .ref (ad 17) :: st) := r_iald pc2 17 hZ rfl hin dd hp k1
theorem s_c11 {own : String} (pc2 : Nat) (hZ : w_Is l g y R cc own nL Z) {i : Int32} {v : Int32} (hin : vp_in i 38) (dd : decode cc pc = .ok (.iastore, 1)) (hp : pc + 1 = pc2) (k1 : Z k n (cw ad y (up σ 11 i.toNatClampNeg v)) pc2 lv st) : Z k n (cw ad y σ) pc lv (.int v :: .int i :: .ref (ad 17) :: st) := r_iast pc2 17 hZ rfl hin rfl dd hp k1
theorem a_c12 {own : String} (pc2 : Nat) (hZ : w_Is l g y R cc own nL Z) {i : Int32} (hin : vp_in i 38) (dd : decode cc pc = .ok (.iaload, 1)) (hp : pc + 1 = pc2) (k1 : Z k n (cw ad y σ) pc2 lv (.int (σ 12 i.toNatClampNeg) :: st)) : Z k n (cw ad y σ) pc lv (.int i :: .ref (ad 18) :: st) := r_iald pc2 18 hZ rfl hin dd hp k1
theorem s_c12 {own : String} (pc2 : Nat) (hZ : w_Is l g y R cc own nL Z) {i : Int32} {v : Int32} (hin : vp_in i 38) (dd : decode cc pc = .ok (.iastore, 1)) (hp : pc + 1 = pc2) (k1 : Z k n (cw ad y (up σ 12 i.toNatClampNeg v)) pc2 lv st) : Z k n (cw ad y σ) pc lv (.int v :: .int i :: .ref (ad 18) :: st) := r_iast pc2 18 hZ rfl hin rfl dd hp k1
theorem a_c13 {own : String} (pc2 : Nat) (hZ : w_Is l g y R cc own nL Z) {i : Int32} (hin : vp_in i 6) (dd : decode cc pc = .ok (.iaload, 1)) (hp : pc + 1 = pc2) (k1 : Z k n (cw ad y σ) pc2 lv (.int (σ 13 i.toNatClampNeg) :: st)) : Z k n (cw ad y σ) pc lv (.int i :: .ref (ad 19) :: st) := r_iald pc2 19 hZ rfl hin dd hp k1
theorem s_c13 {own : String} (pc2 : Nat) (hZ : w_Is l g y R cc own nL Z) {i : Int32} {v : Int32} (hin : vp_in i 6) (dd : decode cc pc = .ok (.iastore, 1)) (hp : pc + 1 = pc2) (k1 : Z k n (cw ad y (up σ 13 i.toNatClampNeg v)) pc2 lv st) : Z k n (cw ad y σ) pc lv (.int v :: .int i :: .ref (ad 19) :: st) := r_iast pc2 19 hZ rfl hin rfl dd hp k1
theorem a_c14 {own : String} (pc2 : Nat) (hZ : w_Is l g y R cc own nL Z) {i : Int32} (hin : vp_in i 6) (dd : decode cc pc = .ok (.iaload, 1)) (hp : pc + 1 = pc2) (k1 : Z k n (cw ad y σ) pc2 lv (.int (σ 14 i.toNatClampNeg) :: st)) : Z k n (cw ad y σ) pc lv (.int i :: .ref (ad 20) :: st) := r_iald pc2 20 hZ rfl hin dd hp k1
theorem s_c14 {own : String} (pc2 : Nat) (hZ : w_Is l g y R cc own nL Z) {i : Int32} {v : Int32} (hin : vp_in i 6) (dd : decode cc pc = .ok (.iastore, 1)) (hp : pc + 1 = pc2) (k1 : Z k n (cw ad y (up σ 14 i.toNatClampNeg v)) pc2 lv st) : Z k n (cw ad y σ) pc lv (.int v :: .int i :: .ref (ad 20) :: st) := r_iast pc2 20 hZ rfl hin rfl dd hp k1
theorem a_c15 {own : String} (pc2 : Nat) (hZ : w_Is l g y R cc own nL Z) {i : Int32} (hin : vp_in i 2) (dd : decode cc pc = .ok (.iaload, 1)) (hp : pc + 1 = pc2) (k1 : Z k n (cw ad y σ) pc2 lv (.int (σ 15 i.toNatClampNeg) :: st)) : Z k n (cw ad y σ) pc lv (.int i :: .ref (ad 21) :: st) := r_iald pc2 21 hZ rfl hin dd hp k1
theorem s_c15 {own : String} (pc2 : Nat) (hZ : w_Is l g y R cc own nL Z) {i : Int32} {v : Int32} (hin : vp_in i 2) (dd : decode cc pc = .ok (.iastore, 1)) (hp : pc + 1 = pc2) (k1 : Z k n (cw ad y (up σ 15 i.toNatClampNeg v)) pc2 lv st) : Z k n (cw ad y σ) pc lv (.int v :: .int i :: .ref (ad 21) :: st) := r_iast pc2 21 hZ rfl hin rfl dd hp k1
theorem a_c16 {own : String} (pc2 : Nat) (hZ : w_Is l g y R cc own nL Z) {i : Int32} (hin : vp_in i 20) (dd : decode cc pc = .ok (.iaload, 1)) (hp : pc + 1 = pc2) (k1 : Z k n (cw ad y σ) pc2 lv (.int (σ 16 i.toNatClampNeg) :: st)) : Z k n (cw ad y σ) pc lv (.int i :: .ref (ad 22) :: st) := r_iald pc2 22 hZ rfl hin dd hp k1
theorem s_c16 {own : String} (pc2 : Nat) (hZ : w_Is l g y R cc own nL Z) {i : Int32} {v : Int32} (hin : vp_in i 20) (dd : decode cc pc = .ok (.iastore, 1)) (hp : pc + 1 = pc2) (k1 : Z k n (cw ad y (up σ 16 i.toNatClampNeg v)) pc2 lv st) : Z k n (cw ad y σ) pc lv (.int v :: .int i :: .ref (ad 22) :: st) := r_iast pc2 22 hZ rfl hin rfl dd hp k1
theorem a_r1 {own : String} (pc2 : Nat) (hZ : w_Is l g y R cc own nL Z) {i : Int32} (hin : vp_in i 40) (dd : decode cc pc = .ok (.iaload, 1)) (hp : pc + 1 = pc2) (k1 : Z k n (rw ad y τ ρ) pc2 lv (.int (τ 1 i.toNatClampNeg) :: st)) : Z k n (rw ad y τ ρ) pc lv (.int i :: .ref (ad 1) :: st) := r_iald pc2 1 hZ rfl hin dd hp k1
theorem s_r1 {own : String} (pc2 : Nat) (hZ : w_Is l g y R cc own nL Z) {i : Int32} {v : Int32} (hin : vp_in i 40) (dd : decode cc pc = .ok (.iastore, 1)) (hp : pc + 1 = pc2) (k1 : Z k n (rw ad y (up τ 1 i.toNatClampNeg v) ρ) pc2 lv st) : Z k n (rw ad y τ ρ) pc lv (.int v :: .int i :: .ref (ad 1) :: st) := r_iast pc2 1 hZ rfl hin rfl dd hp k1
theorem a_r2 {own : String} (pc2 : Nat) (hZ : w_Is l g y R cc own nL Z) {i : Int32} (hin : vp_in i 40) (dd : decode cc pc = .ok (.iaload, 1)) (hp : pc + 1 = pc2) (k1 : Z k n (rw ad y τ ρ) pc2 lv (.int (τ 2 i.toNatClampNeg) :: st)) : Z k n (rw ad y τ ρ) pc lv (.int i :: .ref (ad 2) :: st) := r_iald pc2 2 hZ rfl hin dd hp k1
theorem s_r2 {own : String} (pc2 : Nat) (hZ : w_Is l g y R cc own nL Z) {i : Int32} {v : Int32} (hin : vp_in i 40) (dd : decode cc pc = .ok (.iastore, 1)) (hp : pc + 1 = pc2) (k1 : Z k n (rw ad y (up τ 2 i.toNatClampNeg v) ρ) pc2 lv st) : Z k n (rw ad y τ ρ) pc lv (.int v :: .int i :: .ref (ad 2) :: st) := r_iast pc2 2 hZ rfl hin rfl dd hp k1
theorem a_r3 {own : String} (pc2 : Nat) (hZ : w_Is l g y R cc own nL Z) {i : Int32} (hin : vp_in i 40) (dd : decode cc pc = .ok (.iaload, 1)) (hp : pc + 1 = pc2) (k1 : Z k n (rw ad y τ ρ) pc2 lv (.int (τ 3 i.toNatClampNeg) :: st)) : Z k n (rw ad y τ ρ) pc lv (.int i :: .ref (ad 3) :: st) := r_iald pc2 3 hZ rfl hin dd hp k1
theorem s_r3 {own : String} (pc2 : Nat) (hZ : w_Is l g y R cc own nL Z) {i : Int32} {v : Int32} (hin : vp_in i 40) (dd : decode cc pc = .ok (.iastore, 1)) (hp : pc + 1 = pc2) (k1 : Z k n (rw ad y (up τ 3 i.toNatClampNeg v) ρ) pc2 lv st) : Z k n (rw ad y τ ρ) pc lv (.int v :: .int i :: .ref (ad 3) :: st) := r_iast pc2 3 hZ rfl hin rfl dd hp k1
theorem a_r4 {own : String} (pc2 : Nat) (hZ : w_Is l g y R cc own nL Z) {i : Int32} (hin : vp_in i 40) (dd : decode cc pc = .ok (.iaload, 1)) (hp : pc + 1 = pc2) (k1 : Z k n (rw ad y τ ρ) pc2 lv (.int (τ 4 i.toNatClampNeg) :: st)) : Z k n (rw ad y τ ρ) pc lv (.int i :: .ref (ad 4) :: st) := r_iald pc2 4 hZ rfl hin dd hp k1
theorem s_r4 {own : String} (pc2 : Nat) (hZ : w_Is l g y R cc own nL Z) {i : Int32} {v : Int32} (hin : vp_in i 40) (dd : decode cc pc = .ok (.iastore, 1)) (hp : pc + 1 = pc2) (k1 : Z k n (rw ad y (up τ 4 i.toNatClampNeg v) ρ) pc2 lv st) : Z k n (rw ad y τ ρ) pc lv (.int v :: .int i :: .ref (ad 4) :: st) := r_iast pc2 4 hZ rfl hin rfl dd hp k1
theorem a_r5 {own : String} (pc2 : Nat) (hZ : w_Is l g y R cc own nL Z) {i : Int32} (hin : vp_in i 40) (dd : decode cc pc = .ok (.baload, 1)) (hp : pc + 1 = pc2) (k1 : Z k n (rw ad y τ ρ) pc2 lv (.int (τ 5 i.toNatClampNeg) :: st)) : Z k n (rw ad y τ ρ) pc lv (.int i :: .ref (ad 5) :: st) := r_zald pc2 5 hZ rfl hin dd hp k1
theorem s_r5 {own : String} (pc2 : Nat) (hZ : w_Is l g y R cc own nL Z) {i : Int32} {v : Int32} (hin : vp_in i 40) (dd : decode cc pc = .ok (.bastore, 1)) (hp : pc + 1 = pc2) (k1 : Z k n (rw ad y (up τ 5 i.toNatClampNeg (vp_nar .boolean v)) ρ) pc2 lv st) : Z k n (rw ad y τ ρ) pc lv (.int v :: .int i :: .ref (ad 5) :: st) := r_zast pc2 5 hZ rfl hin rfl dd hp k1
theorem a_r6 {own : String} (pc2 : Nat) (hZ : w_Is l g y R cc own nL Z) {i : Int32} (hin : vp_in i 4) (dd : decode cc pc = .ok (.iaload, 1)) (hp : pc + 1 = pc2) (k1 : Z k n (rw ad y τ ρ) pc2 lv (.int (τ 6 i.toNatClampNeg) :: st)) : Z k n (rw ad y τ ρ) pc lv (.int i :: .ref (ad 6) :: st) := r_iald pc2 6 hZ rfl hin dd hp k1
theorem s_r6 {own : String} (pc2 : Nat) (hZ : w_Is l g y R cc own nL Z) {i : Int32} {v : Int32} (hin : vp_in i 4) (dd : decode cc pc = .ok (.iastore, 1)) (hp : pc + 1 = pc2) (k1 : Z k n (rw ad y (up τ 6 i.toNatClampNeg v) ρ) pc2 lv st) : Z k n (rw ad y τ ρ) pc lv (.int v :: .int i :: .ref (ad 6) :: st) := r_iast pc2 6 hZ rfl hin rfl dd hp k1
theorem a_r7 {own : String} (pc2 : Nat) (hZ : w_Is l g y R cc own nL Z) {i : Int32} (hin : vp_in i 4) (dd : decode cc pc = .ok (.iaload, 1)) (hp : pc + 1 = pc2) (k1 : Z k n (rw ad y τ ρ) pc2 lv (.int (τ 7 i.toNatClampNeg) :: st)) : Z k n (rw ad y τ ρ) pc lv (.int i :: .ref (ad 7) :: st) := r_iald pc2 7 hZ rfl hin dd hp k1
theorem s_r7 {own : String} (pc2 : Nat) (hZ : w_Is l g y R cc own nL Z) {i : Int32} {v : Int32} (hin : vp_in i 4) (dd : decode cc pc = .ok (.iastore, 1)) (hp : pc + 1 = pc2) (k1 : Z k n (rw ad y (up τ 7 i.toNatClampNeg v) ρ) pc2 lv st) : Z k n (rw ad y τ ρ) pc lv (.int v :: .int i :: .ref (ad 7) :: st) := r_iast pc2 7 hZ rfl hin rfl dd hp k1
theorem a_r8 {own : String} (pc2 : Nat) (hZ : w_Is l g y R cc own nL Z) {i : Int32} (hin : vp_in i 2) (dd : decode cc pc = .ok (.iaload, 1)) (hp : pc + 1 = pc2) (k1 : Z k n (rw ad y τ ρ) pc2 lv (.int (τ 8 i.toNatClampNeg) :: st)) : Z k n (rw ad y τ ρ) pc lv (.int i :: .ref (ad 8) :: st) := r_iald pc2 8 hZ rfl hin dd hp k1
theorem s_r8 {own : String} (pc2 : Nat) (hZ : w_Is l g y R cc own nL Z) {i : Int32} {v : Int32} (hin : vp_in i 2) (dd : decode cc pc = .ok (.iastore, 1)) (hp : pc + 1 = pc2) (k1 : Z k n (rw ad y (up τ 8 i.toNatClampNeg v) ρ) pc2 lv st) : Z k n (rw ad y τ ρ) pc lv (.int v :: .int i :: .ref (ad 8) :: st) := r_iast pc2 8 hZ rfl hin rfl dd hp k1
theorem a_r9 {own : String} (pc2 : Nat) (hZ : w_Is l g y R cc own nL Z) {i : Int32} (hin : vp_in i 2) (dd : decode cc pc = .ok (.iaload, 1)) (hp : pc + 1 = pc2) (k1 : Z k n (rw ad y τ ρ) pc2 lv (.int (τ 9 i.toNatClampNeg) :: st)) : Z k n (rw ad y τ ρ) pc lv (.int i :: .ref (ad 9) :: st) := r_iald pc2 9 hZ rfl hin dd hp k1
theorem s_r9 {own : String} (pc2 : Nat) (hZ : w_Is l g y R cc own nL Z) {i : Int32} {v : Int32} (hin : vp_in i 2) (dd : decode cc pc = .ok (.iastore, 1)) (hp : pc + 1 = pc2) (k1 : Z k n (rw ad y (up τ 9 i.toNatClampNeg v) ρ) pc2 lv st) : Z k n (rw ad y τ ρ) pc lv (.int v :: .int i :: .ref (ad 9) :: st) := r_iast pc2 9 hZ rfl hin rfl dd hp k1
theorem a_r10 {own : String} (pc2 : Nat) (hZ : w_Is l g y R cc own nL Z) {i : Int32} (hin : vp_in i 2) (dd : decode cc pc = .ok (.iaload, 1)) (hp : pc + 1 = pc2) (k1 : Z k n (rw ad y τ ρ) pc2 lv (.int (τ 10 i.toNatClampNeg) :: st)) : Z k n (rw ad y τ ρ) pc lv (.int i :: .ref (ad 10) :: st) := r_iald pc2 10 hZ rfl hin dd hp k1
theorem s_r10 {own : String} (pc2 : Nat) (hZ : w_Is l g y R cc own nL Z) {i : Int32} {v : Int32} (hin : vp_in i 2) (dd : decode cc pc = .ok (.iastore, 1)) (hp : pc + 1 = pc2) (k1 : Z k n (rw ad y (up τ 10 i.toNatClampNeg v) ρ) pc2 lv st) : Z k n (rw ad y τ ρ) pc lv (.int v :: .int i :: .ref (ad 10) :: st) := r_iast pc2 10 hZ rfl hin rfl dd hp k1
theorem a_r11 {own : String} (pc2 : Nat) (hZ : w_Is l g y R cc own nL Z) {i : Int32} (hin : vp_in i 2) (dd : decode cc pc = .ok (.iaload, 1)) (hp : pc + 1 = pc2) (k1 : Z k n (rw ad y τ ρ) pc2 lv (.int (τ 11 i.toNatClampNeg) :: st)) : Z k n (rw ad y τ ρ) pc lv (.int i :: .ref (ad 11) :: st) := r_iald pc2 11 hZ rfl hin dd hp k1
theorem s_r11 {own : String} (pc2 : Nat) (hZ : w_Is l g y R cc own nL Z) {i : Int32} {v : Int32} (hin : vp_in i 2) (dd : decode cc pc = .ok (.iastore, 1)) (hp : pc + 1 = pc2) (k1 : Z k n (rw ad y (up τ 11 i.toNatClampNeg v) ρ) pc2 lv st) : Z k n (rw ad y τ ρ) pc lv (.int v :: .int i :: .ref (ad 11) :: st) := r_iast pc2 11 hZ rfl hin rfl dd hp k1
theorem a_r12 {own : String} (pc2 : Nat) (hZ : w_Is l g y R cc own nL Z) {i : Int32} (hin : vp_in i 20) (dd : decode cc pc = .ok (.iaload, 1)) (hp : pc + 1 = pc2) (k1 : Z k n (rw ad y τ ρ) pc2 lv (.int (τ 12 i.toNatClampNeg) :: st)) : Z k n (rw ad y τ ρ) pc lv (.int i :: .ref (ad 12) :: st) := r_iald pc2 12 hZ rfl hin dd hp k1
theorem s_r12 {own : String} (pc2 : Nat) (hZ : w_Is l g y R cc own nL Z) {i : Int32} {v : Int32} (hin : vp_in i 20) (dd : decode cc pc = .ok (.iastore, 1)) (hp : pc + 1 = pc2) (k1 : Z k n (rw ad y (up τ 12 i.toNatClampNeg v) ρ) pc2 lv st) : Z k n (rw ad y τ ρ) pc lv (.int v :: .int i :: .ref (ad 12) :: st) := r_iast pc2 12 hZ rfl hin rfl dd hp k1
theorem a_r13 {own : String} (pc2 : Nat) (hZ : w_Is l g y R cc own nL Z) {i : Int32} (hin : vp_in i 40) (dd : decode cc pc = .ok (.iaload, 1)) (hp : pc + 1 = pc2) (k1 : Z k n (rw ad y τ ρ) pc2 lv (.int (τ 13 i.toNatClampNeg) :: st)) : Z k n (rw ad y τ ρ) pc lv (.int i :: .ref (ad 13) :: st) := r_iald pc2 13 hZ rfl hin dd hp k1
theorem s_r13 {own : String} (pc2 : Nat) (hZ : w_Is l g y R cc own nL Z) {i : Int32} {v : Int32} (hin : vp_in i 40) (dd : decode cc pc = .ok (.iastore, 1)) (hp : pc + 1 = pc2) (k1 : Z k n (rw ad y (up τ 13 i.toNatClampNeg v) ρ) pc2 lv st) : Z k n (rw ad y τ ρ) pc lv (.int v :: .int i :: .ref (ad 13) :: st) := r_iast pc2 13 hZ rfl hin rfl dd hp k1
theorem a_r14 {own : String} (pc2 : Nat) (hZ : w_Is l g y R cc own nL Z) {i : Int32} (hin : vp_in i 40) (dd : decode cc pc = .ok (.iaload, 1)) (hp : pc + 1 = pc2) (k1 : Z k n (rw ad y τ ρ) pc2 lv (.int (τ 14 i.toNatClampNeg) :: st)) : Z k n (rw ad y τ ρ) pc lv (.int i :: .ref (ad 14) :: st) := r_iald pc2 14 hZ rfl hin dd hp k1
theorem s_r14 {own : String} (pc2 : Nat) (hZ : w_Is l g y R cc own nL Z) {i : Int32} {v : Int32} (hin : vp_in i 40) (dd : decode cc pc = .ok (.iastore, 1)) (hp : pc + 1 = pc2) (k1 : Z k n (rw ad y (up τ 14 i.toNatClampNeg v) ρ) pc2 lv st) : Z k n (rw ad y τ ρ) pc lv (.int v :: .int i :: .ref (ad 14) :: st) := r_iast pc2 14 hZ rfl hin rfl dd hp k1
theorem a_r15 {own : String} (pc2 : Nat) (hZ : w_Is l g y R cc own nL Z) {i : Int32} (hin : vp_in i 40) (dd : decode cc pc = .ok (.iaload, 1)) (hp : pc + 1 = pc2) (k1 : Z k n (rw ad y τ ρ) pc2 lv (.int (τ 15 i.toNatClampNeg) :: st)) : Z k n (rw ad y τ ρ) pc lv (.int i :: .ref (ad 15) :: st) := r_iald pc2 15 hZ rfl hin dd hp k1
theorem s_r15 {own : String} (pc2 : Nat) (hZ : w_Is l g y R cc own nL Z) {i : Int32} {v : Int32} (hin : vp_in i 40) (dd : decode cc pc = .ok (.iastore, 1)) (hp : pc + 1 = pc2) (k1 : Z k n (rw ad y (up τ 15 i.toNatClampNeg v) ρ) pc2 lv st) : Z k n (rw ad y τ ρ) pc lv (.int v :: .int i :: .ref (ad 15) :: st) := r_iast pc2 15 hZ rfl hin rfl dd hp k1
theorem a_r16 {own : String} (pc2 : Nat) (hZ : w_Is l g y R cc own nL Z) {i : Int32} (hin : vp_in i 40) (dd : decode cc pc = .ok (.laload, 1)) (hp : pc + 1 = pc2) (k1 : Z k n (rw ad y τ ρ) pc2 lv (.long (ρ 1 i.toNatClampNeg) :: st)) : Z k n (rw ad y τ ρ) pc lv (.int i :: .ref (ad 16) :: st) := r_lald pc2 16 hZ rfl hin dd hp k1
theorem s_r16 {own : String} (pc2 : Nat) (hZ : w_Is l g y R cc own nL Z) {i : Int32} {v : Int64} (hin : vp_in i 40) (dd : decode cc pc = .ok (.lastore, 1)) (hp : pc + 1 = pc2) (k1 : Z k n (rw ad y τ (upL ρ 1 i.toNatClampNeg v)) pc2 lv st) : Z k n (rw ad y τ ρ) pc lv (.long v :: .int i :: .ref (ad 16) :: st) := r_last pc2 16 hZ rfl hin rfl dd hp k1
theorem a_r17 {own : String} (pc2 : Nat) (hZ : w_Is l g y R cc own nL Z) {i : Int32} (hin : vp_in i 40) (dd : decode cc pc = .ok (.laload, 1)) (hp : pc + 1 = pc2) (k1 : Z k n (rw ad y τ ρ) pc2 lv (.long (ρ 2 i.toNatClampNeg) :: st)) : Z k n (rw ad y τ ρ) pc lv (.int i :: .ref (ad 17) :: st) := r_lald pc2 17 hZ rfl hin dd hp k1
theorem s_r17 {own : String} (pc2 : Nat) (hZ : w_Is l g y R cc own nL Z) {i : Int32} {v : Int64} (hin : vp_in i 40) (dd : decode cc pc = .ok (.lastore, 1)) (hp : pc + 1 = pc2) (k1 : Z k n (rw ad y τ (upL ρ 2 i.toNatClampNeg v)) pc2 lv st) : Z k n (rw ad y τ ρ) pc lv (.long v :: .int i :: .ref (ad 17) :: st) := r_last pc2 17 hZ rfl hin rfl dd hp k1
theorem a_r18 {own : String} (pc2 : Nat) (hZ : w_Is l g y R cc own nL Z) {i : Int32} (hin : vp_in i 6) (dd : decode cc pc = .ok (.laload, 1)) (hp : pc + 1 = pc2) (k1 : Z k n (rw ad y τ ρ) pc2 lv (.long (ρ 3 i.toNatClampNeg) :: st)) : Z k n (rw ad y τ ρ) pc lv (.int i :: .ref (ad 18) :: st) := r_lald pc2 18 hZ rfl hin dd hp k1
theorem s_r18 {own : String} (pc2 : Nat) (hZ : w_Is l g y R cc own nL Z) {i : Int32} {v : Int64} (hin : vp_in i 6) (dd : decode cc pc = .ok (.lastore, 1)) (hp : pc + 1 = pc2) (k1 : Z k n (rw ad y τ (upL ρ 3 i.toNatClampNeg v)) pc2 lv st) : Z k n (rw ad y τ ρ) pc lv (.long v :: .int i :: .ref (ad 18) :: st) := r_last pc2 18 hZ rfl hin rfl dd hp k1
theorem a_r19 {own : String} (pc2 : Nat) (hZ : w_Is l g y R cc own nL Z) {i : Int32} (hin : vp_in i 6) (dd : decode cc pc = .ok (.laload, 1)) (hp : pc + 1 = pc2) (k1 : Z k n (rw ad y τ ρ) pc2 lv (.long (ρ 4 i.toNatClampNeg) :: st)) : Z k n (rw ad y τ ρ) pc lv (.int i :: .ref (ad 19) :: st) := r_lald pc2 19 hZ rfl hin dd hp k1
theorem s_r19 {own : String} (pc2 : Nat) (hZ : w_Is l g y R cc own nL Z) {i : Int32} {v : Int64} (hin : vp_in i 6) (dd : decode cc pc = .ok (.lastore, 1)) (hp : pc + 1 = pc2) (k1 : Z k n (rw ad y τ (upL ρ 4 i.toNatClampNeg v)) pc2 lv st) : Z k n (rw ad y τ ρ) pc lv (.long v :: .int i :: .ref (ad 19) :: st) := r_last pc2 19 hZ rfl hin rfl dd hp k1
theorem a_cS {own : String} (pc2 : Nat) (hZ : w_Is l g y R cc own nL Z) {i : Int32} (hin : vp_in i 2) (dd : decode cc pc = .ok (.aaload, 1)) (hp : pc + 1 = pc2) (k1 : Z k n (cw ad y σ) pc2 lv (.ref (ad (25 + i.toNatClampNeg)) :: st)) : Z k n (cw ad y σ) pc lv (.int i :: .ref (ad 23) :: st) := r_aald pc2 23 hZ rfl hin rfl dd hp k1
theorem a_cP {own : String} (pc2 : Nat) (hZ : w_Is l g y R cc own nL Z) {i : Int32} (hin : vp_in i 40) (dd : decode cc pc = .ok (.aaload, 1)) (hp : pc + 1 = pc2) (k1 : Z k n (cw ad y σ) pc2 lv (.ref (ad (25 + (2 + i.toNatClampNeg))) :: st)) : Z k n (cw ad y σ) pc lv (.int i :: .ref (ad 24) :: st) := r_aald pc2 24 hZ rfl hin rfl dd hp k1
end WD
end
section
section WC2
variable {l : Launch} {g : va_G} {y : Nat → ClassId} {R : Room} {cc : ByteArray} {own : String} {nL : Nat} {Z : Nat → Nat → va_W → Nat → List (Nat × Value) → List Value → Prop} {k n pc : Nat} {ws ws' : va_W} {lv : List (Nat × Value)} {st rest : List Value} {yN : MethodName} {c1 : ByteArray} {mL d na : Nat} {ret : Option FieldType} {av : List Value} {v : Value} {b idx : Nat}
theorem r_callVI (hC : w_C l g y yN c1 mL ret d (.ref b :: av) ws (some v) ws') (hM : w_MV yN c1 mL ret na) (wl : Cond.methodLink own idx yN ∈ UW) (hZ : w_Is l g y R cc own nL Z) (hna : av.length = na) (hR : d + 1 ≤ R.frames ∧ 8 + (mL + 11) + 34 * d ≤ R.locals) (q0 ci : Nat) {fs : List Value} {T : u_T} {N : Nat} (he : ws[q0]? = some (b, .inr (ci, fs))) (hcl : vwCl[ci]? = some (yN.cls, T, N)) (hst : st = av.reverse ++ .ref b :: rest) (hW : Nat.ble (rest.map fun v => v.category).sum 8 = true) (dd : decode cc pc = .ok (.invokevirtual idx, 3)) (k1 : Z k n ws' (pc + 3) lv (v :: rest)) : Z k n ws pc lv st := r_callV hC hM wl hZ hna hR q0 ci he hcl hst (Nat.le_of_ble_eq_true hW) dd k1
theorem r_callVV (hC : w_C l g y yN c1 mL ret d (.ref b :: av) ws none ws') (hM : w_MV yN c1 mL ret na) (wl : Cond.methodLink own idx yN ∈ UW) (hZ : w_Is l g y R cc own nL Z) (hna : av.length = na) (hR : d + 1 ≤ R.frames ∧ 8 + (mL + 11) + 34 * d ≤ R.locals) (q0 ci : Nat) {fs : List Value} {T : u_T} {N : Nat} (he : ws[q0]? = some (b, .inr (ci, fs))) (hcl : vwCl[ci]? = some (yN.cls, T, N)) (hst : st = av.reverse ++ .ref b :: rest) (hW : Nat.ble (rest.map fun v => v.category).sum 8 = true) (dd : decode cc pc = .ok (.invokevirtual idx, 3)) (k1 : Z k n ws' (pc + 3) lv rest) : Z k n ws pc lv st := r_callV hC hM wl hZ hna hR q0 ci he hcl hst (Nat.le_of_ble_eq_true hW) dd k1
theorem r_callSI (hC : w_C l g y yN c1 mL ret d av ws (some v) ws') (hM : w_MS yN c1 mL ret na) (wl : Cond.methodLink own idx yN ∈ UW) (hZ : w_Is l g y R cc own nL Z) (hna : av.length = na) (hR : d + 1 ≤ R.frames ∧ 8 + (mL + 11) + 34 * d ≤ R.locals) (hst : st = av.reverse ++ rest) (hW : Nat.ble (rest.map fun v => v.category).sum 8 = true) (dd : decode cc pc = .ok (.invokestatic idx, 3)) (k1 : Z k n ws' (pc + 3) lv (v :: rest)) : Z k n ws pc lv st := r_callS hC hM wl hZ hna hR hst (Nat.le_of_ble_eq_true hW) dd k1
theorem r_callSNI {host : String} (hC : w_C l g y yN c1 mL ret d av ws (some v) ws') (hM : w_MS yN c1 mL ret na) (wl : ∀ s, w_NW s → va_Nw (.methodLinkNest own idx yN host) s) (hZ : w_Is l g y R cc own nL Z) (hna : av.length = na) (hR : d + 1 ≤ R.frames ∧ 8 + (mL + 11) + 34 * d ≤ R.locals) (hst : st = av.reverse ++ rest) (hW : Nat.ble (rest.map fun v => v.category).sum 8 = true) (dd : decode cc pc = .ok (.invokestatic idx, 3)) (k1 : Z k n ws' (pc + 3) lv (v :: rest)) : Z k n ws pc lv st := r_callSN hC hM wl hZ hna hR hst (Nat.le_of_ble_eq_true hW) dd k1
end WC2
noncomputable def bI (P : Prop) : Int32 := @ite _ P (Classical.propDecidable P) 1 0
theorem bI_t {P : Prop} (h : P) : bI P = 1 := if_pos h
theorem bI_f {P : Prop} (h : ¬ P) : bI P = 0 := if_neg h
theorem bI_01 (P : Prop) : bI P = 0 ∨ bI P = 1 := by by_cases h : P; exact Or.inr (bI_t h); exact Or.inl (bI_f h)
theorem bI_0 {P : Prop} : bI P = 0 ↔ ¬ P := by
  by_cases h : P
  · rw [bI_t h]; exact ⟨fun q => absurd q (by decide), fun q => absurd h q⟩
  · rw [bI_f h]; exact ⟨fun _ => h, fun _ => rfl⟩
theorem bI_n0 {P : Prop} : ¬ bI P = 0 ↔ P := by rw [bI_0]; exact Classical.not_not
theorem bI_1 {P : Prop} : bI P = 1 ↔ P := by
  by_cases h : P
  · rw [bI_t h]; exact ⟨fun _ => h, fun _ => rfl⟩
  · rw [bI_f h]; exact ⟨fun q => absurd q (by decide), fun q => absurd q h⟩
theorem bI_c {P Q : Prop} (h : P ↔ Q) : bI P = bI Q := by rw [propext h]
theorem bI_nar (P : Prop) : narrow .boolean (.int (bI P)) = .int (bI P) := by rcases bI_01 P with h | h <;> rw [h] <;> rfl
theorem bI_nar2 (P : Prop) : vp_nar .boolean (bI P) = bI P := by rcases bI_01 P with h | h <;> rw [h] <;> rfl
end
section
/-! pure words: literals, columns, searches -/
abbrev ix (x : Int32) : Nat := x.toNatClampNeg
def okL (x : Int32) (m : Nat) : Prop := x = nI (ix x) ∧ ix x < m
/-- the column of a literal -/
def cl (f : Nat → Int32) (L : Nat) : Int32 := if L % 2 = 1 then f (L / 2) ^^^ (-1) else f (L / 2)
theorem sh1 {L : Nat} (h : L < 2 ^ 31) : nI L >>> ((1 : Int32) &&& 31) = nI (L / 2) := pk_shrN h _ 1 (by decide)
theorem an1 {L : Nat} (h : L < 2 ^ 31) : nI L &&& 1 = nI (L % 2) := pk_andN (by omega) 1 (by decide)
theorem ix_nI {n : Nat} (h : n < 2 ^ 31) : ix (nI n) = n := nI_clamp h
theorem okL_nI {n m : Nat} (h : n < m) (hm : m ≤ 2 ^ 31) : okL (nI n) m := ⟨by rw [ix_nI (by omega)], by rw [ix_nI (by omega)]; exact h⟩
theorem okL_mono {x : Int32} {a b : Nat} (h : okL x a) (hab : a ≤ b) : okL x b := ⟨h.1, Nat.lt_of_lt_of_le h.2 hab⟩
theorem okL_in {x : Int32} {m : Nat} (h : okL x m) (hm : m < 2 ^ 31) : vp_in x m := by rw [h.1]; exact vp_in_nI h.2 hm
theorem mod2 (L : Nat) : L % 2 = 0 ∨ L % 2 = 1 := by omega
theorem xor_m1 (x : Int32) : x ^^^ (-(1 : Int32)) = x ^^^ (-1) := rfl
theorem cl_col (f : Nat → Int32) {L : Nat} (h : L < 80) : f (nI (L / 2)).toNatClampNeg ^^^ -(nI L &&& 1) = cl f L := by
  rw [nI_clamp (by omega), an1 (by omega)]
  unfold cl
  rcases mod2 L with e | e <;> rw [e]
  · rw [if_neg (by decide), show (-nI 0 : Int32) = 0 by decide]
    exact Int32.xor_zero
  · rw [if_pos rfl]; rfl
theorem nI_leq {a b : Nat} (ha : a < 2 ^ 31) (hb : b < 2 ^ 31) (h : nI a ≤ nI b) : a ≤ b := (nI_leI ha hb).mp h
theorem nI_nleq {a b : Nat} (ha : a < 2 ^ 31) (hb : b < 2 ^ 31) (h : ¬ nI a ≤ nI b) : b < a := Nat.lt_of_not_le fun q => h ((nI_leI ha hb).mpr q)
theorem nI_ltq {a b : Nat} (ha : a < 2 ^ 31) (hb : b < 2 ^ 31) (h : nI a < nI b) : a < b := (nI_ltI ha hb).mp h
theorem nI_nltq {a b : Nat} (ha : a < 2 ^ 31) (hb : b < 2 ^ 31) (h : ¬ nI a < nI b) : b ≤ a := Nat.le_of_not_lt fun q => h ((nI_ltI ha hb).mpr q)
theorem nI_eqq {a b : Nat} (ha : a < 2 ^ 31) (hb : b < 2 ^ 31) (h : nI a = nI b) : a = b := (nI_eq ha hb).mp h
theorem nI_neqq {a b : Nat} (ha : a < 2 ^ 31) (hb : b < 2 ^ 31) (h : ¬ nI a = nI b) : a ≠ b := fun q => h (by rw [q])
theorem nI_2 (a : Nat) : 2 * nI a = nI (2 * a) := by rw [show (2 : Int32) = nI 2 from rfl, pk_mul]
/-- an output's difference by the columns k -/
def df (σ : Nat → Nat → Int32) (k i : Nat) : Int32 := cl (σ k) (ix (σ 7 i)) ^^^ cl (σ k) (ix (σ 8 i))
def dor (σ : Nat → Nat → Int32) (k : Nat) : Nat → Int32
  | 0 => 0
  | i + 1 => dor σ k i ||| df σ k i
/-- the first of i, i + 1, .. (c of them) at which f answers -/
def gfind {β : Type} (f : Nat → Option β) : Nat → Nat → Option β
  | _, 0 => none
  | i, c + 1 => match f i with
    | some x => some x
    | none => gfind f (i + 1) c
theorem gfind_s {β : Type} {f : Nat → Option β} {i c : Nat} {x : β} (h : f i = some x) : gfind f i (c + 1) = some x := by unfold gfind; rw [h]
theorem gfind_n {β : Type} {f : Nat → Option β} {i c : Nat} (h : f i = none) : gfind f i (c + 1) = gfind f (i + 1) c := by conv => lhs; unfold gfind; rw [h]
theorem gfind_0 {β : Type} {f : Nat → Option β} {i : Nat} : gfind f i 0 = none := by unfold gfind; rfl
theorem gfind_c {β : Type} {f g : Nat → Option β} : ∀ (c i : Nat), (∀ j, i ≤ j → j < i + c → f j = g j) → gfind f i c = gfind g i c
  | 0, _, _ => by rw [gfind_0, gfind_0]
  | c + 1, i, h => by
    have h1 := h i (Nat.le_refl _) (by omega)
    cases hf : f i with
    | some x => rw [gfind_s hf, gfind_s (h1 ▸ hf)]
    | none => rw [gfind_n hf, gfind_n (h1 ▸ hf)]; exact gfind_c c (i + 1) (fun j a b => h j (by omega) (by omega))
noncomputable def opt {β : Type} (P : Prop) (x : β) : Option β := @ite _ P (Classical.propDecidable P) (some x) none
theorem opt_t {β : Type} {P : Prop} {x : β} (h : P) : opt P x = some x := if_pos h
theorem opt_f {β : Type} {P : Prop} {x : β} (h : ¬ P) : opt P x = none := if_neg h
theorem opt_c {β : Type} {P Q : Prop} {x : β} (h : P ↔ Q) : opt P x = opt Q x := by rw [propext h]
/-- what a search that answers a number or NONE answers -/
def oI : Option Nat → Int32
  | some n => nI n
  | none => -1
/-- a count of what holds -/
noncomputable def cnt (P : Nat → Prop) : Nat → Nat
  | 0 => 0
  | i + 1 => cnt P i + @ite _ (P i) (Classical.propDecidable _) 1 0
theorem cnt_t {P : Nat → Prop} {i : Nat} (h : P i) : cnt P (i + 1) = cnt P i + 1 := by show _ + _ = _; rw [if_pos h]
theorem cnt_f {P : Nat → Prop} {i : Nat} (h : ¬ P i) : cnt P (i + 1) = cnt P i := by show _ + _ = _; rw [if_neg h]; rfl
theorem cnt_le (P : Nat → Prop) : ∀ i, cnt P i ≤ i
  | 0 => Nat.le_refl 0
  | i + 1 => by
    have := cnt_le P i
    by_cases h : P i
    · rw [cnt_t h]; omega
    · rw [cnt_f h]; omega
theorem cnt_c {P Q : Nat → Prop} : ∀ n, (∀ i, i < n → (P i ↔ Q i)) → cnt P n = cnt Q n
  | 0, _ => rfl
  | n + 1, h => by
    have ih := cnt_c n (fun i hi => h i (by omega))
    by_cases hp : P n
    · rw [cnt_t hp, cnt_t ((h n (by omega)).mp hp), ih]
    · rw [cnt_f hp, cnt_f (fun q => hp ((h n (by omega)).mpr q)), ih]
section WE
variable {Z : Nat → Nat → va_W → Nat → List (Nat × Value) → List Value → Prop} {k n pc : Nat} {ws : va_W} {lv : List (Nat × Value)} {st : List Value}
theorem w_eqI {x x2 : Int32} (e : x = x2) (k1 : Z k n ws pc lv (.int x2 :: st)) : Z k n ws pc lv (.int x :: st) := by rw [e]; exact k1
theorem w_eqI2 {x x2 : Int32} {v : Value} (e : x = x2) (k1 : Z k n ws pc lv (v :: .int x2 :: st)) : Z k n ws pc lv (v :: .int x :: st) := by rw [e]; exact k1
theorem w_eqL {lv2 : List (Nat × Value)} (e : lv = lv2) (k1 : Z k n ws pc lv2 st) : Z k n ws pc lv st := by rw [e]; exact k1
end WE
theorem w_take {l : Launch} {g : va_G} {y : Nat → ClassId} {R : Room} {cc : ByteArray} {own : String} {nL : Nat} {Z : Nat → Nat → va_W → Nat → List (Nat × Value) → List Value → Prop} {k n pc : Nat} {ws : va_W} {lv : List (Nat × Value)} {st : List Value} (m : Nat) (hZ : w_Is l g y R cc own nL Z) (k1 : Z k n ws pc (lv.take m) st) : Z k n ws pc lv st := by
  obtain ⟨p, e, s, m, args, below, meth, c, A, Q, ⟨hx, hb, hml, hown, hts, hK, hA, hN⟩, hi⟩ := hZ
  rw [hi] at k1 ⊢
  exact fun h1 h2 H locs ls hP hD hS hl => k1 h1 h2 H locs ls hP hD hS ⟨hl.1, hl.2.1, fun q hq => hl.2.2 q (List.mem_of_mem_take hq)⟩
def ab (x : Int32) : Int32 := if 0 ≤ x then x else 0 - x
theorem r_abs {l : Launch} {g : va_G} {y : Nat → ClassId} {R : Room} {cc : ByteArray} {own : String} {nL : Nat} {Z : Nat → Nat → va_W → Nat → List (Nat × Value) → List Value → Prop} {k n pc : Nat} {ws : va_W} {lv : List (Nat × Value)} {st : List Value} {idx : Nat} {x : Int32} (pc2 : Nat) (hZ : w_Is l g y R cc own nL Z) (wl : Cond.methodLink own idx yJ9_abs_0f7a4 ∈ UW) (h1 : 1 ≤ R.frames) (h2 : Nat.ble ((st.map fun v => v.category).sum + 13) R.locals = true) (dd : decode cc pc = .ok (.invokestatic idx, 3)) (hp : pc + 3 = pc2) (k1 : Z k n ws pc2 lv (.int (ab x) :: st)) : Z k n ws pc lv (.int x :: st) := by
  obtain ⟨p, e, s, m, args, below, meth, c, A, Q, ⟨hx, hb, hml, hown, hts, hK, hA, hN⟩, hi⟩ := hZ
  subst hp
  rw [hi] at k1 ⊢
  exact fun h3 h4 H locs ls hP hD hS hl => va_mabs hx hb (by rw [hml]; exact hl.1.symm) hown (hts _ wl) (hts _ wM_J9_abs_0f7a4.1) (hts _ wM_J9_abs_0f7a4.2.1) (hts _ wM_J9_abs_0f7a4.2.2.1) h1 (Nat.le_of_ble_eq_true h2) h3 h4 dd (k1 h3 h4 H locs ls hP hD hS hl)
end
section
set_option maxHeartbeats 4000000 in
set_option maxRecDepth 100000 in
theorem c_X7_column_4 (l : Launch) (g : va_G) (y : Nat → ClassId) (ad : Nat → Nat) (σ : Nat → Nat → Int32) {x : Int32} (hL : okL x 76) : w_C l g y yX7_column cX7_column 2 (some .int) 0 [.ref (ad 10), .int x] (cw ad y σ) (some (.int (cl (σ 4) (ix x)))) (cw ad y σ) := by
  refine w_ofI (lv0 := [(0, .ref (ad 10)), (1, .int x)]) (by decide +kernel) (Nat.le_of_ble_eq_true rfl) rfl (rfl) ?_
  intro Z hZ hret
  obtain ⟨L, hx⟩ : ∃ L, L = ix x := ⟨_, rfl⟩
  obtain ⟨hx1, hx2⟩ := hL
  rw [← hx] at hx1 hx2 hret
  subst hx1
  refine r_aload_n 1 hZ 0 dX7_column_0 rfl rfl rfl ?_
  refine r_iload_n 2 hZ 1 dX7_column_1 rfl rfl rfl ?_
  refine r_iconst (v := 1) 3 hZ dX7_column_2 rfl (by decide) ?_
  refine r_ishr 4 hZ dX7_column_3 rfl ?_
  rw [sh1 (by omega)]
  refine a_c4 5 hZ (by first | assumption | exact vp_in_nI (by omega) (by decide)) dX7_column_4 rfl ?_
  refine r_iload_n 6 hZ 1 dX7_column_5 rfl rfl rfl ?_
  refine r_iconst (v := 1) 7 hZ dX7_column_6 rfl (by decide) ?_
  refine r_iand 8 hZ dX7_column_7 rfl ?_
  refine r_ineg 9 hZ dX7_column_8 rfl ?_
  refine r_ixor 10 hZ dX7_column_9 rfl ?_
  exact hret _ _ _ _ dX7_column_10 (cl_col _ (by omega)) rfl
set_option maxHeartbeats 4000000 in
set_option maxRecDepth 100000 in
theorem c_X7_column_9 (l : Launch) (g : va_G) (y : Nat → ClassId) (ad : Nat → Nat) (σ : Nat → Nat → Int32) {x : Int32} (hL : okL x 76) : w_C l g y yX7_column cX7_column 2 (some .int) 0 [.ref (ad 15), .int x] (cw ad y σ) (some (.int (cl (σ 9) (ix x)))) (cw ad y σ) := by
  refine w_ofI (lv0 := [(0, .ref (ad 15)), (1, .int x)]) (by decide +kernel) (Nat.le_of_ble_eq_true rfl) rfl (rfl) ?_
  intro Z hZ hret
  obtain ⟨L, hx⟩ : ∃ L, L = ix x := ⟨_, rfl⟩
  obtain ⟨hx1, hx2⟩ := hL
  rw [← hx] at hx1 hx2 hret
  subst hx1
  refine r_aload_n 1 hZ 0 dX7_column_0 rfl rfl rfl ?_
  refine r_iload_n 2 hZ 1 dX7_column_1 rfl rfl rfl ?_
  refine r_iconst (v := 1) 3 hZ dX7_column_2 rfl (by decide) ?_
  refine r_ishr 4 hZ dX7_column_3 rfl ?_
  rw [sh1 (by omega)]
  refine a_c9 5 hZ (by first | assumption | exact vp_in_nI (by omega) (by decide)) dX7_column_4 rfl ?_
  refine r_iload_n 6 hZ 1 dX7_column_5 rfl rfl rfl ?_
  refine r_iconst (v := 1) 7 hZ dX7_column_6 rfl (by decide) ?_
  refine r_iand 8 hZ dX7_column_7 rfl ?_
  refine r_ineg 9 hZ dX7_column_8 rfl ?_
  refine r_ixor 10 hZ dX7_column_9 rfl ?_
  exact hret _ _ _ _ dX7_column_10 (cl_col _ (by omega)) rfl
/-- bit i of a column, as the machine reads it -/
def bit (x : Int32) (i : Nat) : Int32 := (x.toUInt32 >>> ((nI i).toUInt32 &&& Int32.toUInt32 31)).toInt32 &&& 1
set_option maxHeartbeats 4000000 in
set_option maxRecDepth 100000 in
theorem c_X7_leastBit (l : Launch) (g : va_G) (y : Nat → ClassId) (ad : Nat → Nat) (σ : Nat → Nat → Int32) (x : Int32) : w_C l g y yX7_leastBit cX7_leastBit 2 (some .int) 0 [.int x] (cw ad y σ) (some (.int (oI (gfind (fun i => opt (bit x i = 1) i) 0 32)))) (cw ad y σ) := by
  refine w_ofI (lv0 := [(0, .int x)]) (by decide +kernel) (Nat.le_of_ble_eq_true rfl) rfl (rfl) ?_
  intro Z hZ hret
  refine r_iconst (v := 0) 1 hZ dX7_leastBit_0 rfl (by decide) ?_
  refine r_istnN 2 [(0, _), (1, _)] hZ dX7_leastBit_1 rfl rfl (by decide) rfl rfl ?_
  have lp_2 : ∀ (n : Nat) (i : Nat), i ≤ 32 → 33 ≤ i + n → gfind (fun i => opt (bit x i = 1) i) 0 32 = gfind (fun i => opt (bit x i = 1) i) i (32 - i) → Z 0 0 (cw ad y σ) 2 [(0, .int x), (1, .int (nI i))] [] := by
    intro n
    induction n with
    | zero => intro i h1 hn_2 hg; exact absurd hn_2 (by omega)
    | succ n ih_2 =>
      intro i h1 hn_2 hg
      refine r_iload_n 3 hZ 1 dX7_leastBit_2 rfl rfl rfl ?_
      refine r_bipush (v := 32) 5 hZ dX7_leastBit_3 rfl (by decide) ?_
      refine r_icmp_ge 25 8 hZ dX7_leastBit_5 (by decide) rfl (fun c_5 => ?_) (fun c_5 => ?_)
      · skip
        have hi := nI_leq (a := 32) (by omega) (by omega) c_5
        have hi : i = 32 := by omega
        subst hi
        refine r_iconst (v := (-1)) 26 hZ dX7_leastBit_25 rfl (by decide) ?_
        exact hret _ _ _ _ dX7_leastBit_26 (by rw [hg, show 32 - 32 = 0 by omega, gfind_0]; rfl) rfl
      · skip
        have hi := nI_nleq (a := 32) (by omega) (by omega) c_5
        have hb : 32 - i = (32 - (i + 1)) + 1 := by omega
        refine r_iload_n 9 hZ 0 dX7_leastBit_8 rfl rfl rfl ?_
        refine r_iload_n 10 hZ 1 dX7_leastBit_9 rfl rfl rfl ?_
        refine r_iushr 11 hZ dX7_leastBit_10 rfl ?_
        refine r_iconst (v := 1) 12 hZ dX7_leastBit_11 rfl (by decide) ?_
        refine r_iand 13 hZ dX7_leastBit_12 rfl ?_
        refine r_iconst (v := 1) 14 hZ dX7_leastBit_13 rfl (by decide) ?_
        refine r_icmp_ne 19 17 hZ dX7_leastBit_14 (by decide) rfl (fun c_14 => ?_) (fun c_14 => ?_)
        · skip
          refine r_iinc 22 1 1 [(0, _), (1, _)] hZ dX7_leastBit_19 rfl rfl (by decide) (by decide) rfl rfl ?_
          refine r_goto 2 hZ dX7_leastBit_22 (by decide) ?_
          rw [nI_1]
          exact ih_2 (i + 1) (by omega) (by omega) (by rw [hg, show 32 - i = (32 - (i + 1)) + 1 by omega, gfind_n (f := fun i => opt (bit x i = 1) i) (opt_f c_14)])
        · skip
          have c_14 : bit x i = 1 := c_14
          refine r_iload_n 18 hZ 1 dX7_leastBit_17 rfl rfl rfl ?_
          exact hret _ _ _ _ dX7_leastBit_18 (by rw [hg, hb, gfind_s (f := fun i => opt (bit x i = 1) i) (opt_t c_14)]; rfl) rfl
  exact lp_2 33 0 (by omega) (by omega) rfl
set_option maxHeartbeats 4000000 in
set_option maxRecDepth 100000 in
theorem c_X7_isTooFar (l : Launch) (g : va_G) (y : Nat → ClassId) (ad : Nat → Nat) (σ : Nat → Nat → Int32) (x : Int64) : w_C l g y yX7_isTooFar cX7_isTooFar 2 (some .boolean) 0 [.long x] (cw ad y σ) (some (.int (bI (x < -1000 ∨ 1000 < x)))) (cw ad y σ) := by
  refine w_ofI (lv0 := [(0, .long x)]) (by decide +kernel) (Nat.le_of_ble_eq_true rfl) rfl (bI_nar _) ?_
  intro Z hZ hret
  refine r_lload_n 1 hZ 0 dX7_isTooFar_0 rfl rfl rfl ?_
  refine r_ldc2 4 hZ dX7_isTooFar_1 rfl wK_X7_242 ?_
  refine r_lcmp 5 hZ dX7_isTooFar_4 rfl ?_
  refine r_if_lt 16 8 hZ dX7_isTooFar_5 (by decide) rfl (fun c_5 => ?_) (fun c_5 => ?_)
  · skip
    have c := (lg_cmp_lt _ _).mp c_5
    refine r_iconst (v := 1) 17 hZ dX7_isTooFar_16 rfl (by decide) ?_
    refine r_goto 21 hZ dX7_isTooFar_17 (by decide) ?_
    exact hret _ _ _ _ dX7_isTooFar_21 (by first | exact (bI_t (Or.inl c)).symm | exact (bI_t (Or.inr (Int64.not_le.mp c2))).symm | exact (bI_f (fun q => q.elim c (fun q => absurd c2 (Int64.not_le.mpr q)))).symm) rfl
  · skip
    have c : ¬ x < -1000 := fun q => c_5 ((lg_cmp_lt _ _).mpr q)
    refine r_lload_n 9 hZ 0 dX7_isTooFar_8 rfl rfl rfl ?_
    refine r_ldc2 12 hZ dX7_isTooFar_9 rfl wK_X7_244 ?_
    refine r_lcmp 13 hZ dX7_isTooFar_12 rfl ?_
    refine r_if_le 20 16 hZ dX7_isTooFar_13 (by decide) rfl (fun c_13 => ?_) (fun c_13 => ?_)
    · skip
      have c2 := (lg_cmp_le _ _).mp c_13
      refine r_iconst (v := 0) 21 hZ dX7_isTooFar_20 rfl (by decide) ?_
      exact hret _ _ _ _ dX7_isTooFar_21 (by first | exact (bI_t (Or.inl c)).symm | exact (bI_t (Or.inr (Int64.not_le.mp c2))).symm | exact (bI_f (fun q => q.elim c (fun q => absurd c2 (Int64.not_le.mpr q)))).symm) rfl
    · skip
      have c2 : ¬ x ≤ 1000 := fun q => c_13 ((lg_cmp_le _ _).mpr q)
      refine r_iconst (v := 1) 17 hZ dX7_isTooFar_16 rfl (by decide) ?_
      refine r_goto 21 hZ dX7_isTooFar_17 (by decide) ?_
      exact hret _ _ _ _ dX7_isTooFar_21 (by first | exact (bI_t (Or.inl c)).symm | exact (bI_t (Or.inr (Int64.not_le.mp c2))).symm | exact (bI_f (fun q => q.elim c (fun q => absurd c2 (Int64.not_le.mpr q)))).symm) rfl
set_option maxHeartbeats 4000000 in
set_option maxRecDepth 100000 in
theorem c_X2_difference_4 (l : Launch) (g : va_G) (y : Nat → ClassId) (ad : Nat → Nat) (σ : Nat → Nat → Int32) {i : Nat} (hi : i < 4) (h7 : okL (σ 7 i) 76) (h8 : okL (σ 8 i) 76) : w_C l g y yX2_difference cX2_difference 3 (some .int) 1 [.ref (ad 2), .ref (ad 10), .int (nI i)] (cw ad y σ) (some (.int (df σ 4 i))) (cw ad y σ) := by
  refine w_ofI (lv0 := [(0, .ref (ad 2)), (1, .ref (ad 10)), (2, .int (nI i))]) (by decide +kernel) (Nat.le_of_ble_eq_true rfl) rfl (rfl) ?_
  intro Z hZ hret
  have hci := nI_clamp (n := i) (by omega)
  refine r_aload_n 1 hZ 1 dX2_difference_0 rfl rfl rfl ?_
  refine r_aload_n 2 hZ 0 dX2_difference_1 rfl rfl rfl ?_
  refine g_X2_9 5 hZ dX2_difference_2 rfl ?_
  refine r_iload_n 6 hZ 2 dX2_difference_5 rfl rfl rfl ?_
  refine a_c7 7 hZ (by first | assumption | exact vp_in_nI (by omega) (by decide)) dX2_difference_6 rfl ?_
  rw [hci]
  refine r_callSNI (c_X7_column_4 l g y ad σ h7) wM_X7_column w_nw_X2_22 hZ rfl ⟨by decide, by decide⟩ rfl rfl dX2_difference_7 ?_
  refine r_aload_n 11 hZ 1 dX2_difference_10 rfl rfl rfl ?_
  refine r_aload_n 12 hZ 0 dX2_difference_11 rfl rfl rfl ?_
  refine g_X2_15 15 hZ dX2_difference_12 rfl ?_
  refine r_iload_n 16 hZ 2 dX2_difference_15 rfl rfl rfl ?_
  refine a_c8 17 hZ (by first | assumption | exact vp_in_nI (by omega) (by decide)) dX2_difference_16 rfl ?_
  rw [hci]
  refine r_callSNI (c_X7_column_4 l g y ad σ h8) wM_X7_column w_nw_X2_22 hZ rfl ⟨by decide, by decide⟩ rfl rfl dX2_difference_17 ?_
  refine r_ixor 21 hZ dX2_difference_20 rfl ?_
  exact hret _ _ _ _ dX2_difference_21 rfl rfl
set_option maxHeartbeats 4000000 in
set_option maxRecDepth 100000 in
theorem c_X2_difference_9 (l : Launch) (g : va_G) (y : Nat → ClassId) (ad : Nat → Nat) (σ : Nat → Nat → Int32) {i : Nat} (hi : i < 4) (h7 : okL (σ 7 i) 76) (h8 : okL (σ 8 i) 76) : w_C l g y yX2_difference cX2_difference 3 (some .int) 1 [.ref (ad 2), .ref (ad 15), .int (nI i)] (cw ad y σ) (some (.int (df σ 9 i))) (cw ad y σ) := by
  refine w_ofI (lv0 := [(0, .ref (ad 2)), (1, .ref (ad 15)), (2, .int (nI i))]) (by decide +kernel) (Nat.le_of_ble_eq_true rfl) rfl (rfl) ?_
  intro Z hZ hret
  have hci := nI_clamp (n := i) (by omega)
  refine r_aload_n 1 hZ 1 dX2_difference_0 rfl rfl rfl ?_
  refine r_aload_n 2 hZ 0 dX2_difference_1 rfl rfl rfl ?_
  refine g_X2_9 5 hZ dX2_difference_2 rfl ?_
  refine r_iload_n 6 hZ 2 dX2_difference_5 rfl rfl rfl ?_
  refine a_c7 7 hZ (by first | assumption | exact vp_in_nI (by omega) (by decide)) dX2_difference_6 rfl ?_
  rw [hci]
  refine r_callSNI (c_X7_column_9 l g y ad σ h7) wM_X7_column w_nw_X2_22 hZ rfl ⟨by decide, by decide⟩ rfl rfl dX2_difference_7 ?_
  refine r_aload_n 11 hZ 1 dX2_difference_10 rfl rfl rfl ?_
  refine r_aload_n 12 hZ 0 dX2_difference_11 rfl rfl rfl ?_
  refine g_X2_15 15 hZ dX2_difference_12 rfl ?_
  refine r_iload_n 16 hZ 2 dX2_difference_15 rfl rfl rfl ?_
  refine a_c8 17 hZ (by first | assumption | exact vp_in_nI (by omega) (by decide)) dX2_difference_16 rfl ?_
  rw [hci]
  refine r_callSNI (c_X7_column_9 l g y ad σ h8) wM_X7_column w_nw_X2_22 hZ rfl ⟨by decide, by decide⟩ rfl rfl dX2_difference_17 ?_
  refine r_ixor 21 hZ dX2_difference_20 rfl ?_
  exact hret _ _ _ _ dX2_difference_21 rfl rfl
set_option maxHeartbeats 4000000 in
set_option maxRecDepth 100000 in
theorem c_X2_agreement (l : Launch) (g : va_G) (y : Nat → ClassId) (ad : Nat → Nat) (σ : Nat → Nat → Int32) {G : Nat} (hG : σ 0 5 = nI G) (hG4 : G ≤ 4) (h7 : ∀ i, i < G → okL (σ 7 i) 76) (h8 : ∀ i, i < G → okL (σ 8 i) 76) : w_C l g y yX2_agreement cX2_agreement 4 (some .int) 2 [.ref (ad 2), .ref (ad 15)] (cw ad y σ) (some (.int (dor σ 9 G ^^^ (-1)))) (cw ad y σ) := by
  refine w_ofI (lv0 := [(0, .ref (ad 2)), (1, .ref (ad 15))]) (by decide +kernel) (Nat.le_of_ble_eq_true rfl) rfl (rfl) ?_
  intro Z hZ hret
  refine r_iconst (v := 0) 1 hZ dX2_agreement_0 rfl (by decide) ?_
  refine r_istnN 2 [(0, _), (1, _), (2, _)] hZ dX2_agreement_1 rfl rfl (by decide) rfl rfl ?_
  refine r_iconst (v := 0) 3 hZ dX2_agreement_2 rfl (by decide) ?_
  refine r_istnN 4 [(0, _), (1, _), (2, _), (3, _)] hZ dX2_agreement_3 rfl rfl (by decide) rfl rfl ?_
  have lp_4 : ∀ (n : Nat) (i : Nat), i ≤ G → G + 1 ≤ i + n → Z 0 0 (cw ad y σ) 4 [(0, .ref (ad 2)), (1, .ref (ad 15)), (2, .int (dor σ 9 i)), (3, .int (nI i))] [] := by
    intro n
    induction n with
    | zero => intro i h1 hn_4; exact absurd hn_4 (by omega)
    | succ n ih_4 =>
      intro i h1 hn_4
      refine r_iload_n 5 hZ 3 dX2_agreement_4 rfl rfl rfl ?_
      refine r_aload_n 6 hZ 0 dX2_agreement_5 rfl rfl rfl ?_
      refine g_X2_18 9 hZ dX2_agreement_6 rfl ?_
      rw [hG]
      refine r_icmp_ge 27 12 hZ dX2_agreement_9 (by decide) rfl (fun c_9 => ?_) (fun c_9 => ?_)
      · skip
        have hi := nI_leq (by omega) (by omega) c_9
        have hi : i = G := by omega
        subst hi
        refine r_iload_n 28 hZ 2 dX2_agreement_27 rfl rfl rfl ?_
        refine r_iconst (v := (-1)) 29 hZ dX2_agreement_28 rfl (by decide) ?_
        refine r_ixor 30 hZ dX2_agreement_29 rfl ?_
        exact hret _ _ _ _ dX2_agreement_30 rfl rfl
      · skip
        have hi := nI_nleq (by omega) (by omega) c_9
        refine r_iload_n 13 hZ 2 dX2_agreement_12 rfl rfl rfl ?_
        refine r_aload_n 14 hZ 0 dX2_agreement_13 rfl rfl rfl ?_
        refine r_aload_n 15 hZ 1 dX2_agreement_14 rfl rfl rfl ?_
        refine r_iload_n 16 hZ 3 dX2_agreement_15 rfl rfl rfl ?_
        refine r_callVI (c_X2_difference_9 l g y ad σ (i := i) (by omega) (h7 i hi) (h8 i hi)) wM_X2_difference wL_X2_26 hZ rfl ⟨by decide, by decide⟩ 2 2 rfl rfl rfl rfl dX2_agreement_16 ?_
        refine r_ior 20 hZ dX2_agreement_19 rfl ?_
        refine r_istn 21 2 [(0, _), (1, _), (2, _), (3, _)] hZ dX2_agreement_20 rfl rfl (by decide) rfl rfl ?_
        refine r_iinc 24 3 1 [(0, _), (1, _), (2, _), (3, _)] hZ dX2_agreement_21 rfl rfl (by decide) (by decide) rfl rfl ?_
        refine r_goto 4 hZ dX2_agreement_24 (by decide) ?_
        rw [nI_1]
        exact ih_4 (i + 1) (by omega) (by omega)
  exact lp_4 (G + 1) 0 (by omega) (by omega)
set_option maxHeartbeats 4000000 in
set_option maxRecDepth 100000 in
theorem c_X2_add (l : Launch) (g : va_G) (y : Nat → ClassId) (ad : Nat → Nat) (σ : Nat → Nat → Int32) {G : Nat} (hG : σ 0 5 = nI G) (hG4 : G < 4) (a b : Int32) : w_C l g y yX2_add cX2_add 3 (some .int) 0 [.ref (ad 2), .int a, .int b] (cw ad y σ) (some (.int (nI G))) (cw ad y (up (up (up σ 7 G a) 8 G b) 0 5 (nI (G + 1)))) := by
  refine w_ofI (lv0 := [(0, .ref (ad 2)), (1, .int a), (2, .int b)]) (by decide +kernel) (Nat.le_of_ble_eq_true rfl) rfl (rfl) ?_
  intro Z hZ hret
  have hci := nI_clamp (n := G) (by omega)
  have hG2 : ∀ v, up σ 7 G v 0 5 = nI G := fun v => hG
  have hG3 : ∀ v w, up (up σ 7 G v) 8 G w 0 5 = nI G := fun v w => hG
  refine r_aload_n 1 hZ 0 dX2_add_0 rfl rfl rfl ?_
  refine g_X2_9 4 hZ dX2_add_1 rfl ?_
  refine r_aload_n 5 hZ 0 dX2_add_4 rfl rfl rfl ?_
  refine g_X2_18 8 hZ dX2_add_5 rfl ?_
  rw [hG]
  refine r_iload_n 9 hZ 1 dX2_add_8 rfl rfl rfl ?_
  refine s_c7 10 hZ (by first | assumption | exact vp_in_nI (by omega) (by decide)) dX2_add_9 rfl ?_
  rw [hci]
  refine r_aload_n 11 hZ 0 dX2_add_10 rfl rfl rfl ?_
  refine g_X2_15 14 hZ dX2_add_11 rfl ?_
  refine r_aload_n 15 hZ 0 dX2_add_14 rfl rfl rfl ?_
  refine g_X2_18 18 hZ dX2_add_15 rfl ?_
  rw [hG2]
  refine r_iload_n 19 hZ 2 dX2_add_18 rfl rfl rfl ?_
  refine s_c8 20 hZ (by first | assumption | exact vp_in_nI (by omega) (by decide)) dX2_add_19 rfl ?_
  rw [hci]
  refine r_aload_n 21 hZ 0 dX2_add_20 rfl rfl rfl ?_
  refine r_dup 22 hZ dX2_add_21 rfl rfl ?_
  refine g_X2_18 25 hZ dX2_add_22 rfl ?_
  rw [hG3]
  refine r_iconst (v := 1) 26 hZ dX2_add_25 rfl (by decide) ?_
  refine r_iadd 27 hZ dX2_add_26 rfl ?_
  rw [nI_1]
  refine p_X2_18 30 hZ dX2_add_27 rfl ?_
  refine r_aload_n 31 hZ 0 dX2_add_30 rfl rfl rfl ?_
  refine g_X2_18 34 hZ dX2_add_31 rfl ?_
  refine r_iconst (v := 1) 35 hZ dX2_add_34 rfl (by decide) ?_
  refine r_isub 36 hZ dX2_add_35 rfl ?_
  exact hret _ _ _ _ dX2_add_36 (show nI (G + 1) - 1 = nI G from nI_pred G) rfl
theorem hl_neg {x : Int32} (h : x < 0) (m : Nat) : ¬ okL x m := fun q => nI_pos (n := ix x) (by have := x.toNatClampNeg_lt; omega) (by rw [← q.1]; exact h)
theorem hl_big {x : Int32} {m : Nat} (hm : m < 2 ^ 31) (h : nI m ≤ x) : ¬ okL x m := fun q => by
  have h1 : nI m ≤ nI (ix x) := by rw [← q.1]; exact h
  have := nI_leq hm (by have := q.2; omega) h1
  have := q.2
  omega
theorem hl_ok {x : Int32} {m : Nat} (hm : m < 2 ^ 31) (h0 : ¬ x < 0) (h : ¬ nI m ≤ x) : okL x m := by
  obtain ⟨j, hj, e⟩ := nI_of h0
  rw [e]
  rw [e] at h
  exact okL_nI (nI_nleq hm hj h) (by omega)
set_option maxHeartbeats 4000000 in
set_option maxRecDepth 100000 in
theorem c_X3_hasLiteral (l : Launch) (g : va_G) (y : Nat → ClassId) (ad : Nat → Nat) (σ : Nat → Nat → Int32) (x : Int32) {N : Nat} (hN : σ 0 1 = nI N) (hN2 : N ≤ 38) : w_C l g y yX3_hasLiteral cX3_hasLiteral 2 (some .boolean) 0 [.ref (ad 1), .int x] (cw ad y σ) (some (.int (bI (okL x (2 * N))))) (cw ad y σ) := by
  refine w_ofI (lv0 := [(0, .ref (ad 1)), (1, .int x)]) (by decide +kernel) (Nat.le_of_ble_eq_true rfl) rfl (bI_nar _) ?_
  intro Z hZ hret
  refine r_iload_n 1 hZ 1 dX3_hasLiteral_0 rfl rfl rfl ?_
  refine r_if_lt 18 4 hZ dX3_hasLiteral_1 (by decide) rfl (fun c_1 => ?_) (fun c_1 => ?_)
  · skip
    have c := hl_neg c_1
    refine r_iconst (v := 0) 19 hZ dX3_hasLiteral_18 rfl (by decide) ?_
    exact hret _ _ _ _ dX3_hasLiteral_19 (by first | exact (bI_t c).symm | exact (bI_f (c _)).symm | exact (bI_f c).symm) rfl
  · skip
    refine r_iload_n 5 hZ 1 dX3_hasLiteral_4 rfl rfl rfl ?_
    refine r_iconst (v := 2) 6 hZ dX3_hasLiteral_5 rfl (by decide) ?_
    refine r_aload_n 7 hZ 0 dX3_hasLiteral_6 rfl rfl rfl ?_
    refine g_X3_31 10 hZ dX3_hasLiteral_7 rfl ?_
    refine r_imul 11 hZ dX3_hasLiteral_10 rfl ?_
    rw [hN, nI_2]
    refine r_icmp_ge 18 14 hZ dX3_hasLiteral_11 (by decide) rfl (fun c_11 => ?_) (fun c_11 => ?_)
    · skip
      have c := hl_big (m := 2 * N) (by omega) c_11
      refine r_iconst (v := 0) 19 hZ dX3_hasLiteral_18 rfl (by decide) ?_
      exact hret _ _ _ _ dX3_hasLiteral_19 (by first | exact (bI_t c).symm | exact (bI_f (c _)).symm | exact (bI_f c).symm) rfl
    · skip
      have c := hl_ok (m := 2 * N) (by omega) c_1 c_11
      refine r_iconst (v := 1) 15 hZ dX3_hasLiteral_14 rfl (by decide) ?_
      refine r_goto 19 hZ dX3_hasLiteral_15 (by decide) ?_
      exact hret _ _ _ _ dX3_hasLiteral_19 (by first | exact (bI_t c).symm | exact (bI_f (c _)).symm | exact (bI_f c).symm) rfl
set_option maxHeartbeats 4000000 in
set_option maxRecDepth 100000 in
theorem c_X3_isOf (l : Launch) (g : va_G) (y : Nat → ClassId) (ad : Nat → Nat) (σ : Nat → Nat → Int32) (w : Int32) {x : Int32} (hL : okL x 76) : w_C l g y yX3_isOf cX3_isOf 3 (some .boolean) 0 [.ref (ad 1), .int w, .int x] (cw ad y σ) (some (.int (bI (σ 1 (ix x / 2) = w)))) (cw ad y σ) := by
  refine w_ofI (lv0 := [(0, .ref (ad 1)), (1, .int w), (2, .int x)]) (by decide +kernel) (Nat.le_of_ble_eq_true rfl) rfl (bI_nar _) ?_
  intro Z hZ hret
  obtain ⟨L, hx⟩ : ∃ L, L = ix x := ⟨_, rfl⟩
  obtain ⟨hx1, hx2⟩ := hL
  rw [← hx] at hx1 hx2 hret
  subst hx1
  have hci := nI_clamp (n := L / 2) (by omega)
  refine r_aload_n 1 hZ 0 dX3_isOf_0 rfl rfl rfl ?_
  refine g_X3_9 4 hZ dX3_isOf_1 rfl ?_
  refine r_iload_n 5 hZ 2 dX3_isOf_4 rfl rfl rfl ?_
  refine r_iconst (v := 1) 6 hZ dX3_isOf_5 rfl (by decide) ?_
  refine r_ishr 7 hZ dX3_isOf_6 rfl ?_
  rw [sh1 (by omega)]
  refine a_c1 8 hZ (by first | assumption | exact vp_in_nI (by omega) (by decide)) dX3_isOf_7 rfl ?_
  rw [hci]
  refine r_iload_n 9 hZ 1 dX3_isOf_8 rfl rfl rfl ?_
  refine r_icmp_ne 16 12 hZ dX3_isOf_9 (by decide) rfl (fun c_9 => ?_) (fun c_9 => ?_)
  · skip
    refine r_iconst (v := 0) 17 hZ dX3_isOf_16 rfl (by decide) ?_
    exact hret _ _ _ _ dX3_isOf_17 (by first | exact (bI_t c_9).symm | exact (bI_f c_9).symm) rfl
  · skip
    refine r_iconst (v := 1) 13 hZ dX3_isOf_12 rfl (by decide) ?_
    refine r_goto 17 hZ dX3_isOf_13 (by decide) ?_
    exact hret _ _ _ _ dX3_isOf_17 (by first | exact (bI_t c_9).symm | exact (bI_f c_9).symm) rfl
set_option maxHeartbeats 4000000 in
set_option maxRecDepth 100000 in
theorem c_X3_isOldNode (l : Launch) (g : va_G) (y : Nat → ClassId) (ad : Nat → Nat) (σ : Nat → Nat → Int32) (x : Int32) {N : Nat} (hN : σ 0 1 = nI N) (hN2 : N ≤ 38) : w_C l g y yX3_isOldNode cX3_isOldNode 2 (some .boolean) 0 [.ref (ad 1), .int x] (cw ad y σ) (some (.int (bI (okL x N ∧ σ 1 (ix x) = 1)))) (cw ad y σ) := by
  refine w_ofI (lv0 := [(0, .ref (ad 1)), (1, .int x)]) (by decide +kernel) (Nat.le_of_ble_eq_true rfl) rfl (bI_nar _) ?_
  intro Z hZ hret
  refine r_iload_n 1 hZ 1 dX3_isOldNode_0 rfl rfl rfl ?_
  refine r_if_lt 26 4 hZ dX3_isOldNode_1 (by decide) rfl (fun c_1 => ?_) (fun c_1 => ?_)
  · skip
    have cc : ¬ (okL x N ∧ σ 1 (ix x) = 1) := fun q => hl_neg c_1 N q.1
    refine r_iconst (v := 0) 27 hZ dX3_isOldNode_26 rfl (by decide) ?_
    exact hret _ _ _ _ dX3_isOldNode_27 (by first | exact (bI_t cc).symm | exact (bI_f cc).symm) rfl
  · skip
    refine r_iload_n 5 hZ 1 dX3_isOldNode_4 rfl rfl rfl ?_
    refine r_aload_n 6 hZ 0 dX3_isOldNode_5 rfl rfl rfl ?_
    refine g_X3_31 9 hZ dX3_isOldNode_6 rfl ?_
    rw [hN]
    refine r_icmp_ge 26 12 hZ dX3_isOldNode_9 (by decide) rfl (fun c_9 => ?_) (fun c_9 => ?_)
    · skip
      have cc : ¬ (okL x N ∧ σ 1 (ix x) = 1) := fun q => hl_big (m := N) (by omega) c_9 q.1
      refine r_iconst (v := 0) 27 hZ dX3_isOldNode_26 rfl (by decide) ?_
      exact hret _ _ _ _ dX3_isOldNode_27 (by first | exact (bI_t cc).symm | exact (bI_f cc).symm) rfl
    · skip
      have c := hl_ok (m := N) (by omega) c_1 c_9
      refine r_aload_n 13 hZ 0 dX3_isOldNode_12 rfl rfl rfl ?_
      refine g_X3_9 16 hZ dX3_isOldNode_13 rfl ?_
      refine r_iload_n 17 hZ 1 dX3_isOldNode_16 rfl rfl rfl ?_
      refine a_c1 18 hZ (okL_in (okL_mono c hN2) (by decide)) dX3_isOldNode_17 rfl ?_
      refine r_iconst (v := 1) 19 hZ dX3_isOldNode_18 rfl (by decide) ?_
      refine r_icmp_ne 26 22 hZ dX3_isOldNode_19 (by decide) rfl (fun c_19 => ?_) (fun c_19 => ?_)
      · skip
        have cc : ¬ (okL x N ∧ σ 1 (ix x) = 1) := fun q => c_19 q.2
        refine r_iconst (v := 0) 27 hZ dX3_isOldNode_26 rfl (by decide) ?_
        exact hret _ _ _ _ dX3_isOldNode_27 (by first | exact (bI_t cc).symm | exact (bI_f cc).symm) rfl
      · skip
        have cc : okL x N ∧ σ 1 (ix x) = 1 := ⟨c, c_19⟩
        refine r_iconst (v := 1) 23 hZ dX3_isOldNode_22 rfl (by decide) ?_
        refine r_goto 27 hZ dX3_isOldNode_23 (by decide) ?_
        exact hret _ _ _ _ dX3_isOldNode_27 (by first | exact (bI_t cc).symm | exact (bI_f cc).symm) rfl
set_option maxHeartbeats 4000000 in
set_option maxRecDepth 100000 in
theorem c_X3_firstOld (l : Launch) (g : va_G) (y : Nat → ClassId) (ad : Nat → Nat) (σ : Nat → Nat → Int32) {I : Nat} (hI : σ 0 2 = nI I) : w_C l g y yX3_firstOld cX3_firstOld 1 (some .int) 0 [.ref (ad 1)] (cw ad y σ) (some (.int (nI (1 + I)))) (cw ad y σ) := by
  refine w_ofI (lv0 := [(0, .ref (ad 1))]) (by decide +kernel) (Nat.le_of_ble_eq_true rfl) rfl (rfl) ?_
  intro Z hZ hret
  refine r_iconst (v := 1) 1 hZ dX3_firstOld_0 rfl (by decide) ?_
  refine r_aload_n 2 hZ 0 dX3_firstOld_1 rfl rfl rfl ?_
  refine g_X3_35 5 hZ dX3_firstOld_2 rfl ?_
  refine r_iadd 6 hZ dX3_firstOld_5 rfl ?_
  rw [hI]
  exact hret _ _ _ _ dX3_firstOld_6 (nI_add 1 I) rfl
set_option maxHeartbeats 4000000 in
set_option maxRecDepth 100000 in
theorem c_X3_owned (l : Launch) (g : va_G) (y : Nat → ClassId) (ad : Nat → Nat) (σ : Nat → Nat → Int32) {I O : Nat} (hI : σ 0 2 = nI I) (hO : σ 0 3 = nI O) : w_C l g y yX3_owned cX3_owned 1 (some .int) 0 [.ref (ad 1)] (cw ad y σ) (some (.int (nI (1 + I + O)))) (cw ad y σ) := by
  refine w_ofI (lv0 := [(0, .ref (ad 1))]) (by decide +kernel) (Nat.le_of_ble_eq_true rfl) rfl (rfl) ?_
  intro Z hZ hret
  refine r_iconst (v := 1) 1 hZ dX3_owned_0 rfl (by decide) ?_
  refine r_aload_n 2 hZ 0 dX3_owned_1 rfl rfl rfl ?_
  refine g_X3_35 5 hZ dX3_owned_2 rfl ?_
  refine r_iadd 6 hZ dX3_owned_5 rfl ?_
  refine r_aload_n 7 hZ 0 dX3_owned_6 rfl rfl rfl ?_
  refine g_X3_38 10 hZ dX3_owned_7 rfl ?_
  refine r_iadd 11 hZ dX3_owned_10 rfl ?_
  rw [hI, hO]
  exact hret _ _ _ _ dX3_owned_11 (by rw [show (1 : Int32) = nI 1 from rfl, nI_add, nI_add]) rfl
set_option maxHeartbeats 4000000 in
set_option maxRecDepth 100000 in
theorem c_X3_ownLiteral (l : Launch) (g : va_G) (y : Nat → ClassId) (ad : Nat → Nat) (σ : Nat → Nat → Int32) {n : Nat} (hn : n < 28) (hw : okL (σ 6 (n / 2)) 38) : w_C l g y yX3_ownLiteral cX3_ownLiteral 2 (some .int) 0 [.ref (ad 1), .int (nI n)] (cw ad y σ) (some (.int (nI (2 * ix (σ 6 (n / 2)) + n % 2)))) (cw ad y σ) := by
  refine w_ofI (lv0 := [(0, .ref (ad 1)), (1, .int (nI n))]) (by decide +kernel) (Nat.le_of_ble_eq_true rfl) rfl (rfl) ?_
  intro Z hZ hret
  have hci := nI_clamp (n := n / 2) (by omega)
  refine r_iconst (v := 2) 1 hZ dX3_ownLiteral_0 rfl (by decide) ?_
  refine r_aload_n 2 hZ 0 dX3_ownLiteral_1 rfl rfl rfl ?_
  refine g_X3_28 5 hZ dX3_ownLiteral_2 rfl ?_
  refine r_iload_n 6 hZ 1 dX3_ownLiteral_5 rfl rfl rfl ?_
  refine r_iconst (v := 1) 7 hZ dX3_ownLiteral_6 rfl (by decide) ?_
  refine r_ishr 8 hZ dX3_ownLiteral_7 rfl ?_
  rw [sh1 (by omega)]
  refine a_c6 9 hZ (by first | assumption | exact vp_in_nI (by omega) (by decide)) dX3_ownLiteral_8 rfl ?_
  rw [hci, hw.1]
  refine r_imul 10 hZ dX3_ownLiteral_9 rfl ?_
  rw [nI_2]
  refine r_iload_n 11 hZ 1 dX3_ownLiteral_10 rfl rfl rfl ?_
  refine r_iconst (v := 1) 12 hZ dX3_ownLiteral_11 rfl (by decide) ?_
  refine r_iand 13 hZ dX3_ownLiteral_12 rfl ?_
  rw [an1 (by omega)]
  refine r_iadd 14 hZ dX3_ownLiteral_13 rfl ?_
  rw [nI_add]
  exact hret _ _ _ _ dX3_ownLiteral_14 rfl rfl
set_option maxHeartbeats 4000000 in
set_option maxRecDepth 100000 in
theorem c_X3_reset (l : Launch) (g : va_G) (y : Nat → ClassId) (ad : Nat → Nat) (σ : Nat → Nat → Int32)  : w_C l g y yX3_reset cX3_reset 1 none 0 [.ref (ad 1)] (cw ad y σ) none (cw ad y (up (up (up (up σ 0 1 1) 0 2 0) 0 3 0) 0 4 0)) := by
  refine w_ofV (lv0 := [(0, .ref (ad 1))]) (by decide +kernel) (Nat.le_of_ble_eq_true rfl) rfl ?_
  intro Z hZ hret
  refine r_aload_n 1 hZ 0 dX3_reset_0 rfl rfl rfl ?_
  refine r_iconst (v := 1) 2 hZ dX3_reset_1 rfl (by decide) ?_
  refine p_X3_31 5 hZ dX3_reset_2 rfl ?_
  refine r_aload_n 6 hZ 0 dX3_reset_5 rfl rfl rfl ?_
  refine r_iconst (v := 0) 7 hZ dX3_reset_6 rfl (by decide) ?_
  refine p_X3_35 10 hZ dX3_reset_7 rfl ?_
  refine r_aload_n 11 hZ 0 dX3_reset_10 rfl rfl rfl ?_
  refine r_iconst (v := 0) 12 hZ dX3_reset_11 rfl (by decide) ?_
  refine p_X3_38 15 hZ dX3_reset_12 rfl ?_
  refine r_aload_n 16 hZ 0 dX3_reset_15 rfl rfl rfl ?_
  refine r_iconst (v := 0) 17 hZ dX3_reset_16 rfl (by decide) ?_
  refine p_X3_41 20 hZ dX3_reset_17 rfl ?_
  exact hret _ _ _ dX3_reset_20 rfl
set_option maxHeartbeats 4000000 in
set_option maxRecDepth 100000 in
theorem c_X1_put (l : Launch) (g : va_G) (y : Nat → ClassId) (ad : Nat → Nat) (σ : Nat → Nat → Int32) {j : Nat} (hj : j < 42) (a b c : Int32) : w_C l g y yX1_put cX1_put 4 none 0 [.ref (ad (25 + j)), .int a, .int b, .int c] (cw ad y σ) none (cw ad y (up (up (up σ 17 j a) 18 j b) 19 j c)) := by
  refine w_ofV (lv0 := [(0, .ref (ad (25 + j))), (1, .int a), (2, .int b), (3, .int c)]) (by decide +kernel) (Nat.le_of_ble_eq_true rfl) rfl ?_
  intro Z hZ hret
  refine r_aload_n 1 hZ 0 dX1_put_0 rfl rfl rfl ?_
  refine r_iload_n 2 hZ 1 dX1_put_1 rfl rfl rfl ?_
  refine p_X1_7 5 hZ (by first | assumption | omega) dX1_put_2 rfl ?_
  refine r_aload_n 6 hZ 0 dX1_put_5 rfl rfl rfl ?_
  refine r_iload_n 7 hZ 2 dX1_put_6 rfl rfl rfl ?_
  refine p_X1_13 10 hZ (by first | assumption | omega) dX1_put_7 rfl ?_
  refine r_aload_n 11 hZ 0 dX1_put_10 rfl rfl rfl ?_
  refine r_iload_n 12 hZ 3 dX1_put_11 rfl rfl rfl ?_
  refine p_X1_16 15 hZ (by first | assumption | omega) dX1_put_12 rfl ?_
  exact hret _ _ _ dX1_put_15 rfl
set_option maxHeartbeats 4000000 in
set_option maxRecDepth 100000 in
theorem c_X0_putAtOrigin (l : Launch) (g : va_G) (y : Nat → ClassId) (ad : Nat → Nat) (σ : Nat → Nat → Int32) {j : Nat} (hj : j < 38) : w_C l g y yX0_putAtOrigin cX0_putAtOrigin 2 none 0 [.ref (ad 3), .int (nI j)] (cw ad y σ) none (cw ad y (up (up σ 11 j 0) 12 j 0)) := by
  refine w_ofV (lv0 := [(0, .ref (ad 3)), (1, .int (nI j))]) (by decide +kernel) (Nat.le_of_ble_eq_true rfl) rfl ?_
  intro Z hZ hret
  have hci := nI_clamp (n := j) (by omega)
  refine r_aload_n 1 hZ 0 dX0_putAtOrigin_0 rfl rfl rfl ?_
  refine g_X0_9 4 hZ dX0_putAtOrigin_1 rfl ?_
  refine r_iload_n 5 hZ 1 dX0_putAtOrigin_4 rfl rfl rfl ?_
  refine r_iconst (v := 0) 6 hZ dX0_putAtOrigin_5 rfl (by decide) ?_
  refine s_c11 7 hZ (by first | assumption | exact vp_in_nI (by omega) (by decide)) dX0_putAtOrigin_6 rfl ?_
  rw [hci]
  refine r_aload_n 8 hZ 0 dX0_putAtOrigin_7 rfl rfl rfl ?_
  refine g_X0_15 11 hZ dX0_putAtOrigin_8 rfl ?_
  refine r_iload_n 12 hZ 1 dX0_putAtOrigin_11 rfl rfl rfl ?_
  refine r_iconst (v := 0) 13 hZ dX0_putAtOrigin_12 rfl (by decide) ?_
  refine s_c12 14 hZ (by first | assumption | exact vp_in_nI (by omega) (by decide)) dX0_putAtOrigin_13 rfl ?_
  rw [hci]
  exact hret _ _ _ dX0_putAtOrigin_14 rfl
set_option maxHeartbeats 4000000 in
set_option maxRecDepth 100000 in
theorem c_X0_moveNode (l : Launch) (g : va_G) (y : Nat → ClassId) (ad : Nat → Nat) (σ : Nat → Nat → Int32) {j : Nat} (hj : j < 38) (a b : Int32) : w_C l g y yX0_moveNode cX0_moveNode 5 (some .boolean) 0 [.ref (ad 3), .int (nI j), .int a, .int b] (cw ad y σ) (some (.int (bI (¬ (σ 11 j = a ∧ σ 12 j = b))))) (cw ad y (up (up σ 11 j a) 12 j b)) := by
  refine w_ofI (lv0 := [(0, .ref (ad 3)), (1, .int (nI j)), (2, .int a), (3, .int b)]) (by decide +kernel) (Nat.le_of_ble_eq_true rfl) rfl (bI_nar _) ?_
  intro Z hZ hret
  have hci := nI_clamp (n := j) (by omega)
  refine r_aload_n 1 hZ 0 dX0_moveNode_0 rfl rfl rfl ?_
  refine g_X0_9 4 hZ dX0_moveNode_1 rfl ?_
  refine r_iload_n 5 hZ 1 dX0_moveNode_4 rfl rfl rfl ?_
  refine a_c11 6 hZ (by first | assumption | exact vp_in_nI (by omega) (by decide)) dX0_moveNode_5 rfl ?_
  rw [hci]
  refine r_iload_n 7 hZ 2 dX0_moveNode_6 rfl rfl rfl ?_
  refine r_icmp_ne 20 10 hZ dX0_moveNode_7 (by decide) rfl (fun c_7 => ?_) (fun c_7 => ?_)
  · skip
    refine r_iconst (v := 1) 21 hZ dX0_moveNode_20 rfl (by decide) ?_
    refine r_goto 25 hZ dX0_moveNode_21 (by decide) ?_
    refine r_istN (q := 0) 27 [(0, _), (1, _), (2, _), (3, _), (4, _)] hZ dX0_moveNode_25 rfl (by decide) rfl rfl ?_
    refine r_aload_n 28 hZ 0 dX0_moveNode_27 rfl rfl rfl ?_
    refine g_X0_9 31 hZ dX0_moveNode_28 rfl ?_
    refine r_iload_n 32 hZ 1 dX0_moveNode_31 rfl rfl rfl ?_
    refine r_iload_n 33 hZ 2 dX0_moveNode_32 rfl rfl rfl ?_
    refine s_c11 34 hZ (by first | assumption | exact vp_in_nI (by omega) (by decide)) dX0_moveNode_33 rfl ?_
    rw [hci]
    refine r_aload_n 35 hZ 0 dX0_moveNode_34 rfl rfl rfl ?_
    refine g_X0_15 38 hZ dX0_moveNode_35 rfl ?_
    refine r_iload_n 39 hZ 1 dX0_moveNode_38 rfl rfl rfl ?_
    refine r_iload_n 40 hZ 3 dX0_moveNode_39 rfl rfl rfl ?_
    refine s_c12 41 hZ (by first | assumption | exact vp_in_nI (by omega) (by decide)) dX0_moveNode_40 rfl ?_
    rw [hci]
    refine r_iload 43 hZ 4 dX0_moveNode_41 rfl rfl ?_
    exact hret _ _ _ _ dX0_moveNode_43 (by first | exact (bI_t (fun q => c_7 q.1)).symm | exact (bI_t (fun q => c_17 q.2)).symm | exact (bI_f (fun q => q ⟨c_7, c_17⟩)).symm) rfl
  · skip
    refine r_aload_n 11 hZ 0 dX0_moveNode_10 rfl rfl rfl ?_
    refine g_X0_15 14 hZ dX0_moveNode_11 rfl ?_
    refine r_iload_n 15 hZ 1 dX0_moveNode_14 rfl rfl rfl ?_
    refine a_c12 16 hZ (by first | assumption | exact vp_in_nI (by omega) (by decide)) dX0_moveNode_15 rfl ?_
    rw [hci]
    refine r_iload_n 17 hZ 3 dX0_moveNode_16 rfl rfl rfl ?_
    refine r_icmp_eq 24 20 hZ dX0_moveNode_17 (by decide) rfl (fun c_17 => ?_) (fun c_17 => ?_)
    · skip
      refine r_iconst (v := 0) 25 hZ dX0_moveNode_24 rfl (by decide) ?_
      refine r_istN (q := 0) 27 [(0, _), (1, _), (2, _), (3, _), (4, _)] hZ dX0_moveNode_25 rfl (by decide) rfl rfl ?_
      refine r_aload_n 28 hZ 0 dX0_moveNode_27 rfl rfl rfl ?_
      refine g_X0_9 31 hZ dX0_moveNode_28 rfl ?_
      refine r_iload_n 32 hZ 1 dX0_moveNode_31 rfl rfl rfl ?_
      refine r_iload_n 33 hZ 2 dX0_moveNode_32 rfl rfl rfl ?_
      refine s_c11 34 hZ (by first | assumption | exact vp_in_nI (by omega) (by decide)) dX0_moveNode_33 rfl ?_
      rw [hci]
      refine r_aload_n 35 hZ 0 dX0_moveNode_34 rfl rfl rfl ?_
      refine g_X0_15 38 hZ dX0_moveNode_35 rfl ?_
      refine r_iload_n 39 hZ 1 dX0_moveNode_38 rfl rfl rfl ?_
      refine r_iload_n 40 hZ 3 dX0_moveNode_39 rfl rfl rfl ?_
      refine s_c12 41 hZ (by first | assumption | exact vp_in_nI (by omega) (by decide)) dX0_moveNode_40 rfl ?_
      rw [hci]
      refine r_iload 43 hZ 4 dX0_moveNode_41 rfl rfl ?_
      exact hret _ _ _ _ dX0_moveNode_43 (by first | exact (bI_t (fun q => c_7 q.1)).symm | exact (bI_t (fun q => c_17 q.2)).symm | exact (bI_f (fun q => q ⟨c_7, c_17⟩)).symm) rfl
    · skip
      refine r_iconst (v := 1) 21 hZ dX0_moveNode_20 rfl (by decide) ?_
      refine r_goto 25 hZ dX0_moveNode_21 (by decide) ?_
      refine r_istN (q := 0) 27 [(0, _), (1, _), (2, _), (3, _), (4, _)] hZ dX0_moveNode_25 rfl (by decide) rfl rfl ?_
      refine r_aload_n 28 hZ 0 dX0_moveNode_27 rfl rfl rfl ?_
      refine g_X0_9 31 hZ dX0_moveNode_28 rfl ?_
      refine r_iload_n 32 hZ 1 dX0_moveNode_31 rfl rfl rfl ?_
      refine r_iload_n 33 hZ 2 dX0_moveNode_32 rfl rfl rfl ?_
      refine s_c11 34 hZ (by first | assumption | exact vp_in_nI (by omega) (by decide)) dX0_moveNode_33 rfl ?_
      rw [hci]
      refine r_aload_n 35 hZ 0 dX0_moveNode_34 rfl rfl rfl ?_
      refine g_X0_15 38 hZ dX0_moveNode_35 rfl ?_
      refine r_iload_n 39 hZ 1 dX0_moveNode_38 rfl rfl rfl ?_
      refine r_iload_n 40 hZ 3 dX0_moveNode_39 rfl rfl rfl ?_
      refine s_c12 41 hZ (by first | assumption | exact vp_in_nI (by omega) (by decide)) dX0_moveNode_40 rfl ?_
      rw [hci]
      refine r_iload 43 hZ 4 dX0_moveNode_41 rfl rfl ?_
      exact hret _ _ _ _ dX0_moveNode_43 (by first | exact (bI_t (fun q => c_7 q.1)).symm | exact (bI_t (fun q => c_17 q.2)).symm | exact (bI_f (fun q => q ⟨c_7, c_17⟩)).symm) rfl
set_option maxHeartbeats 4000000 in
set_option maxRecDepth 100000 in
theorem c_X0_addSpare (l : Launch) (g : va_G) (y : Nat → ClassId) (ad : Nat → Nat) (σ : Nat → Nat → Int32) {S : Nat} (hS : σ 0 6 = nI S) (hS6 : S < 6) (a b : Int32) : w_C l g y yX0_addSpare cX0_addSpare 3 (some .int) 0 [.ref (ad 3), .int a, .int b] (cw ad y σ) (some (.int (nI S))) (cw ad y (up (up (up σ 13 S a) 14 S b) 0 6 (nI (S + 1)))) := by
  refine w_ofI (lv0 := [(0, .ref (ad 3)), (1, .int a), (2, .int b)]) (by decide +kernel) (Nat.le_of_ble_eq_true rfl) rfl (rfl) ?_
  intro Z hZ hret
  have hci := nI_clamp (n := S) (by omega)
  have hG2 : ∀ v, up σ 13 S v 0 6 = nI S := fun v => hS
  have hG3 : ∀ v w, up (up σ 13 S v) 14 S w 0 6 = nI S := fun v w => hS
  refine r_aload_n 1 hZ 0 dX0_addSpare_0 rfl rfl rfl ?_
  refine g_X0_18 4 hZ dX0_addSpare_1 rfl ?_
  refine r_aload_n 5 hZ 0 dX0_addSpare_4 rfl rfl rfl ?_
  refine g_X0_24 8 hZ dX0_addSpare_5 rfl ?_
  rw [hS]
  refine r_iload_n 9 hZ 1 dX0_addSpare_8 rfl rfl rfl ?_
  refine s_c13 10 hZ (by first | assumption | exact vp_in_nI (by omega) (by decide)) dX0_addSpare_9 rfl ?_
  rw [hci]
  refine r_aload_n 11 hZ 0 dX0_addSpare_10 rfl rfl rfl ?_
  refine g_X0_21 14 hZ dX0_addSpare_11 rfl ?_
  refine r_aload_n 15 hZ 0 dX0_addSpare_14 rfl rfl rfl ?_
  refine g_X0_24 18 hZ dX0_addSpare_15 rfl ?_
  rw [hG2]
  refine r_iload_n 19 hZ 2 dX0_addSpare_18 rfl rfl rfl ?_
  refine s_c14 20 hZ (by first | assumption | exact vp_in_nI (by omega) (by decide)) dX0_addSpare_19 rfl ?_
  rw [hci]
  refine r_aload_n 21 hZ 0 dX0_addSpare_20 rfl rfl rfl ?_
  refine r_dup 22 hZ dX0_addSpare_21 rfl rfl ?_
  refine g_X0_24 25 hZ dX0_addSpare_22 rfl ?_
  rw [hG3]
  refine r_iconst (v := 1) 26 hZ dX0_addSpare_25 rfl (by decide) ?_
  refine r_iadd 27 hZ dX0_addSpare_26 rfl ?_
  rw [nI_1]
  refine p_X0_24 30 hZ dX0_addSpare_27 rfl ?_
  refine r_aload_n 31 hZ 0 dX0_addSpare_30 rfl rfl rfl ?_
  refine g_X0_24 34 hZ dX0_addSpare_31 rfl ?_
  refine r_iconst (v := 1) 35 hZ dX0_addSpare_34 rfl (by decide) ?_
  refine r_isub 36 hZ dX0_addSpare_35 rfl ?_
  exact hret _ _ _ _ dX0_addSpare_36 (show nI (S + 1) - 1 = nI S from nI_pred S) rfl
end
section
/-! what the class's methods do to the store -/
def dst (σ : Nat → Nat → Int32) (j s : Nat) : Int32 := ab (σ 11 j - σ 13 s) + ab (σ 12 j - σ 14 s)
def addAndF (σ : Nat → Nat → Int32) (N : Nat) (w x z : Int32) : Nat → Nat → Int32 := up (up (up (up (up σ 1 N w) 2 N x) 3 N z) 4 N (cl (σ 4) (ix x) &&& cl (σ 4) (ix z))) 0 1 (nI (N + 1))
/-- an edit's literals go to its AND -/
def rwF (σ : Nat → Nat → Int32) (j : Nat) : Nat → Nat → Int32 := up (up σ 2 (ix (σ 17 j)) (σ 18 j)) 3 (ix (σ 17 j)) (σ 19 j)
/-- the old ANDs' columns anew, i of them, the first at own place b -/
def rf (σ : Nat → Nat → Int32) (b : Nat) : Nat → Nat → Nat → Int32
  | 0 => σ
  | i + 1 => up (rf σ b i) 4 (ix (σ 6 (b + i))) (cl (rf σ b i 4) (ix (σ 2 (ix (σ 6 (b + i))))) &&& cl (rf σ b i 4) (ix (σ 3 (ix (σ 6 (b + i))))))
theorem rf_k (σ : Nat → Nat → Int32) (b : Nat) (k : Nat) (hk : k ≠ 4) : ∀ i, rf σ b i k = σ k
  | 0 => rfl
  | i + 1 => by rw [← rf_k σ b k hk i]; show (if k = 4 then _ else _) = _; rw [if_neg hk]
noncomputable def ofF (σ : Nat → Nat → Int32) (v s t : Int32) : Nat → Nat → Int32 := @ite _ (σ 0 7 = -1 ∨ v < σ 0 7) (Classical.propDecidable _) (up (up (up σ 0 7 v) 15 0 s) 15 1 t) σ
theorem ofF_k (σ : Nat → Nat → Int32) (v s t : Int32) (k : Nat) (h0 : k ≠ 0) (h1 : k ≠ 15) : ofF σ v s t k = σ k := by
  unfold ofF
  split
  · show (if k = 15 then _ else if k = 15 then _ else if k = 0 then _ else _) = _
    rw [if_neg h1, if_neg h1, if_neg h0]
  · rfl
theorem ofF_0 (σ : Nat → Nat → Int32) (v s t : Int32) (j : Nat) (h : j ≠ 7) : ofF σ v s t 0 j = σ 0 j := by
  unfold ofF
  split
  · show (if j = 7 then _ else _) = _
    rw [if_neg h]
  · rfl
/-- the taking for one edit, i spares offered -/
noncomputable def t1F (σ : Nat → Nat → Int32) (a : Nat) : Nat → Nat → Nat → Int32
  | 0 => σ
  | i + 1 => ofF (t1F σ a i) (dst (t1F σ a i) a i) (nI i) (-1)
noncomputable def t2I (σ : Nat → Nat → Int32) (a b s : Nat) : Nat → Nat → Nat → Int32
  | 0 => σ
  | t + 1 => @ite _ (s = t) (Classical.propDecidable _) (t2I σ a b s t) (ofF (t2I σ a b s t) (dst (t2I σ a b s t) a s + dst (t2I σ a b s t) b t) (nI s) (nI t))
noncomputable def t2F (σ : Nat → Nat → Int32) (a b S : Nat) : Nat → Nat → Nat → Int32
  | 0 => σ
  | s + 1 => t2I (t2F σ a b S s) a b s S
theorem t1F_k (σ : Nat → Nat → Int32) (a k : Nat) (h0 : k ≠ 0) (h1 : k ≠ 15) : ∀ i, t1F σ a i k = σ k
  | 0 => rfl
  | i + 1 => by show ofF _ _ _ _ k = _; rw [ofF_k _ _ _ _ _ h0 h1, t1F_k σ a k h0 h1 i]
theorem t1F_0 (σ : Nat → Nat → Int32) (a j : Nat) (h : j ≠ 7) : ∀ i, t1F σ a i 0 j = σ 0 j
  | 0 => rfl
  | i + 1 => by show ofF _ _ _ _ 0 j = _; rw [ofF_0 _ _ _ _ _ h, t1F_0 σ a j h i]
theorem t2I_t {σ : Nat → Nat → Int32} {a b s t : Nat} (h : s = t) : t2I σ a b s (t + 1) = t2I σ a b s t := if_pos h
theorem t2I_f {σ : Nat → Nat → Int32} {a b s t : Nat} (h : ¬ s = t) : t2I σ a b s (t + 1) = ofF (t2I σ a b s t) (dst (t2I σ a b s t) a s + dst (t2I σ a b s t) b t) (nI s) (nI t) := if_neg h
theorem t2I_k (σ : Nat → Nat → Int32) (a b s k : Nat) (h0 : k ≠ 0) (h1 : k ≠ 15) : ∀ i, t2I σ a b s i k = σ k
  | 0 => rfl
  | t + 1 => by
    by_cases h : s = t
    · rw [t2I_t h, t2I_k σ a b s k h0 h1 t]
    · rw [t2I_f h, ofF_k _ _ _ _ _ h0 h1, t2I_k σ a b s k h0 h1 t]
theorem t2I_0 (σ : Nat → Nat → Int32) (a b s j : Nat) (hj : j ≠ 7) : ∀ i, t2I σ a b s i 0 j = σ 0 j
  | 0 => rfl
  | t + 1 => by
    by_cases h : s = t
    · rw [t2I_t h, t2I_0 σ a b s j hj t]
    · rw [t2I_f h, ofF_0 _ _ _ _ _ hj, t2I_0 σ a b s j hj t]
theorem t2F_k (σ : Nat → Nat → Int32) (a b S k : Nat) (h0 : k ≠ 0) (h1 : k ≠ 15) : ∀ i, t2F σ a b S i k = σ k
  | 0 => rfl
  | s + 1 => by show t2I _ _ _ _ _ k = _; rw [t2I_k _ _ _ _ _ h0 h1, t2F_k σ a b S k h0 h1 s]
theorem t2F_0 (σ : Nat → Nat → Int32) (a b S j : Nat) (hj : j ≠ 7) : ∀ i, t2F σ a b S i 0 j = σ 0 j
  | 0 => rfl
  | s + 1 => by show t2I _ _ _ _ _ 0 j = _; rw [t2I_0 _ _ _ _ _ hj, t2F_0 σ a b S j hj s]
noncomputable def takeF (σ : Nat → Nat → Int32) (r S : Nat) : Nat → Nat → Int32 :=
  match r with
  | 0 => up (up (up σ 15 0 (-1)) 15 1 (-1)) 0 7 0
  | 1 => t1F (up (up (up σ 15 0 (-1)) 15 1 (-1)) 0 7 (-1)) (ix (σ 17 0)) S
  | _ => t2F (up (up (up σ 15 0 (-1)) 15 1 (-1)) 0 7 (-1)) (ix (σ 17 0)) (ix (σ 17 1)) S S
/-- what the edits' ANDs had, kept -/
def rmF (σ : Nat → Nat → Int32) (M : Nat) : Nat → Nat → Nat → Int32
  | 0 => σ
  | k + 1 => up (up (up (rmF σ M k) 17 (2 + (2 * M + k)) (rmF σ M k 17 k)) 18 (2 + (2 * M + k)) (rmF σ M k 2 (ix (rmF σ M k 17 k)))) 19 (2 + (2 * M + k)) (rmF σ M k 3 (ix (rmF σ M k 17 k)))
theorem rmF_k (σ : Nat → Nat → Int32) (M k : Nat) (h7 : k ≠ 17) (h8 : k ≠ 18) (h9 : k ≠ 19) : ∀ i, rmF σ M i k = σ k
  | 0 => rfl
  | i + 1 => by
    rw [← rmF_k σ M k h7 h8 h9 i]
    show (if k = 19 then _ else if k = 18 then _ else if k = 17 then _ else _) = _
    rw [if_neg h9, if_neg h8, if_neg h7]
theorem rmF_17 (σ : Nat → Nat → Int32) (M j : Nat) (hj : j < 2) : ∀ i, rmF σ M i 17 j = σ 17 j
  | 0 => rfl
  | i + 1 => by
    rw [← rmF_17 σ M j hj i]
    show upd _ _ _ j = _
    unfold upd
    rw [if_neg (by omega)]
def rememberF (σ : Nat → Nat → Int32) (M r : Nat) : Nat → Nat → Int32 := up (up (rmF σ M r) 16 M (nI r)) 0 8 (nI (M + 1))
def tbF (σ : Nat → Nat → Int32) (M : Nat) : Nat → Nat → Nat → Int32
  | 0 => up σ 0 8 (nI M)
  | k + 1 => rwF (tbF σ M k) (2 + (2 * M + k))
theorem rwF_k (σ : Nat → Nat → Int32) (j k : Nat) (h2 : k ≠ 2) (h3 : k ≠ 3) : rwF σ j k = σ k := by
  show (if k = 3 then _ else if k = 2 then _ else _) = _
  rw [if_neg h3, if_neg h2]
theorem tbF_k (σ : Nat → Nat → Int32) (M k : Nat) (h0 : k ≠ 0) (h2 : k ≠ 2) (h3 : k ≠ 3) : ∀ i, tbF σ M i k = σ k
  | 0 => by show (if k = 0 then _ else _) = _; rw [if_neg h0]
  | i + 1 => by show rwF _ _ k = _; rw [rwF_k _ _ _ h2 h3, tbF_k σ M k h0 h2 h3 i]
theorem tbF_0 (σ : Nat → Nat → Int32) (M j : Nat) (h : j ≠ 8) : ∀ i, tbF σ M i 0 j = σ 0 j
  | 0 => by show (if j = 8 then _ else _) = _; rw [if_neg h]
  | i + 1 => by show rwF _ _ 0 j = _; rw [rwF_k _ _ 0 (by decide) (by decide), tbF_0 σ M j h i]
theorem tbF_8 (σ : Nat → Nat → Int32) (M : Nat) : ∀ i, tbF σ M i 0 8 = nI M
  | 0 => rfl
  | i + 1 => by show rwF _ _ 0 8 = _; rw [rwF_k _ _ 0 (by decide) (by decide), tbF_8 σ M i]
set_option maxHeartbeats 4000000 in
set_option maxRecDepth 100000 in
theorem c_X0_distance (l : Launch) (g : va_G) (y : Nat → ClassId) (ad : Nat → Nat) (σ : Nat → Nat → Int32) {j s : Nat} (hj : j < 38) (hs : s < 6) : w_C l g y yX0_distance cX0_distance 3 (some .int) 1 [.ref (ad 3), .int (nI j), .int (nI s)] (cw ad y σ) (some (.int (dst σ j s))) (cw ad y σ) := by
  refine w_ofI (lv0 := [(0, .ref (ad 3)), (1, .int (nI j)), (2, .int (nI s))]) (by decide +kernel) (Nat.le_of_ble_eq_true rfl) rfl (rfl) ?_
  intro Z hZ hret
  have hcj := nI_clamp (n := j) (by omega)
  have hcs := nI_clamp (n := s) (by omega)
  refine r_aload_n 1 hZ 0 dX0_distance_0 rfl rfl rfl ?_
  refine g_X0_9 4 hZ dX0_distance_1 rfl ?_
  refine r_iload_n 5 hZ 1 dX0_distance_4 rfl rfl rfl ?_
  refine a_c11 6 hZ (by first | assumption | exact vp_in_nI (by omega) (by decide) | (unfold vp_in; decide)) dX0_distance_5 rfl ?_
  rw [hcj]
  refine r_aload_n 7 hZ 0 dX0_distance_6 rfl rfl rfl ?_
  refine g_X0_18 10 hZ dX0_distance_7 rfl ?_
  refine r_iload_n 11 hZ 2 dX0_distance_10 rfl rfl rfl ?_
  refine a_c13 12 hZ (by first | assumption | exact vp_in_nI (by omega) (by decide) | (unfold vp_in; decide)) dX0_distance_11 rfl ?_
  rw [hcs]
  refine r_isub 13 hZ dX0_distance_12 rfl ?_
  refine r_abs 16 hZ wL_X0_28 (by decide) rfl dX0_distance_13 rfl ?_
  refine r_aload_n 17 hZ 0 dX0_distance_16 rfl rfl rfl ?_
  refine g_X0_15 20 hZ dX0_distance_17 rfl ?_
  refine r_iload_n 21 hZ 1 dX0_distance_20 rfl rfl rfl ?_
  refine a_c12 22 hZ (by first | assumption | exact vp_in_nI (by omega) (by decide) | (unfold vp_in; decide)) dX0_distance_21 rfl ?_
  rw [hcj]
  refine r_aload_n 23 hZ 0 dX0_distance_22 rfl rfl rfl ?_
  refine g_X0_21 26 hZ dX0_distance_23 rfl ?_
  refine r_iload_n 27 hZ 2 dX0_distance_26 rfl rfl rfl ?_
  refine a_c14 28 hZ (by first | assumption | exact vp_in_nI (by omega) (by decide) | (unfold vp_in; decide)) dX0_distance_27 rfl ?_
  rw [hcs]
  refine r_isub 29 hZ dX0_distance_28 rfl ?_
  refine r_abs 32 hZ wL_X0_28 (by decide) rfl dX0_distance_29 rfl ?_
  refine r_iadd 33 hZ dX0_distance_32 rfl ?_
  exact hret _ _ _ _ dX0_distance_33 rfl rfl
set_option maxHeartbeats 4000000 in
set_option maxRecDepth 100000 in
theorem c_X3_addAnd (l : Launch) (g : va_G) (y : Nat → ClassId) (ad : Nat → Nat) (σ : Nat → Nat → Int32) {N : Nat} (hN : σ 0 1 = nI N) (hN2 : N < 38) (w : Int32) {x z : Int32} (hx : okL x 76) (hz : okL z 76) : w_C l g y yX3_addAnd cX3_addAnd 5 (some .int) 1 [.ref (ad 1), .int w, .int x, .int z] (cw ad y σ) (some (.int (nI (2 * N)))) (cw ad y (addAndF σ N w x z)) := by
  refine w_ofI (lv0 := [(0, .ref (ad 1)), (1, .int w), (2, .int x), (3, .int z)]) (by decide +kernel) (Nat.le_of_ble_eq_true rfl) rfl (rfl) ?_
  intro Z hZ hret
  have hci := nI_clamp (n := N) (by omega)
  refine r_aload_n 1 hZ 0 dX3_addAnd_0 rfl rfl rfl ?_
  refine g_X3_31 4 hZ dX3_addAnd_1 rfl ?_
  refine w_eqI (hN) ?_
  refine r_istN (q := 0) 6 [(0, _), (1, _), (2, _), (3, _), (4, _)] hZ dX3_addAnd_4 rfl (by decide) rfl rfl ?_
  refine r_aload_n 7 hZ 0 dX3_addAnd_6 rfl rfl rfl ?_
  refine g_X3_9 10 hZ dX3_addAnd_7 rfl ?_
  refine r_iload 12 hZ 4 dX3_addAnd_10 rfl rfl ?_
  refine r_iload_n 13 hZ 1 dX3_addAnd_12 rfl rfl rfl ?_
  refine s_c1 14 hZ (by first | assumption | exact vp_in_nI (by omega) (by decide) | (unfold vp_in; decide)) dX3_addAnd_13 rfl ?_
  rw [hci]
  refine r_aload_n 15 hZ 0 dX3_addAnd_14 rfl rfl rfl ?_
  refine g_X3_15 18 hZ dX3_addAnd_15 rfl ?_
  refine r_iload 20 hZ 4 dX3_addAnd_18 rfl rfl ?_
  refine r_iload_n 21 hZ 2 dX3_addAnd_20 rfl rfl rfl ?_
  refine s_c2 22 hZ (by first | assumption | exact vp_in_nI (by omega) (by decide) | (unfold vp_in; decide)) dX3_addAnd_21 rfl ?_
  rw [hci]
  refine r_aload_n 23 hZ 0 dX3_addAnd_22 rfl rfl rfl ?_
  refine g_X3_18 26 hZ dX3_addAnd_23 rfl ?_
  refine r_iload 28 hZ 4 dX3_addAnd_26 rfl rfl ?_
  refine r_iload_n 29 hZ 3 dX3_addAnd_28 rfl rfl rfl ?_
  refine s_c3 30 hZ (by first | assumption | exact vp_in_nI (by omega) (by decide) | (unfold vp_in; decide)) dX3_addAnd_29 rfl ?_
  rw [hci]
  refine r_aload_n 31 hZ 0 dX3_addAnd_30 rfl rfl rfl ?_
  refine g_X3_21 34 hZ dX3_addAnd_31 rfl ?_
  refine r_iload 36 hZ 4 dX3_addAnd_34 rfl rfl ?_
  refine r_aload_n 37 hZ 0 dX3_addAnd_36 rfl rfl rfl ?_
  refine g_X3_21 40 hZ dX3_addAnd_37 rfl ?_
  refine r_iload_n 41 hZ 2 dX3_addAnd_40 rfl rfl rfl ?_
  refine r_callSNI (c_X7_column_4 l g y ad _ hx) wM_X7_column w_nw_X3_55 hZ rfl ⟨by decide, by decide⟩ rfl rfl dX3_addAnd_41 ?_
  refine r_aload_n 45 hZ 0 dX3_addAnd_44 rfl rfl rfl ?_
  refine g_X3_21 48 hZ dX3_addAnd_45 rfl ?_
  refine r_iload_n 49 hZ 3 dX3_addAnd_48 rfl rfl rfl ?_
  refine r_callSNI (c_X7_column_4 l g y ad _ hz) wM_X7_column w_nw_X3_55 hZ rfl ⟨by decide, by decide⟩ rfl rfl dX3_addAnd_49 ?_
  refine r_iand 53 hZ dX3_addAnd_52 rfl ?_
  refine s_c4 54 hZ (by first | assumption | exact vp_in_nI (by omega) (by decide) | (unfold vp_in; decide)) dX3_addAnd_53 rfl ?_
  rw [hci]
  refine r_aload_n 55 hZ 0 dX3_addAnd_54 rfl rfl rfl ?_
  refine r_dup 56 hZ dX3_addAnd_55 rfl rfl ?_
  refine g_X3_31 59 hZ dX3_addAnd_56 rfl ?_
  refine w_eqI (hN) ?_
  refine r_iconst (v := 1) 60 hZ dX3_addAnd_59 rfl (by decide) ?_
  refine r_iadd 61 hZ dX3_addAnd_60 rfl ?_
  rw [nI_1]
  refine p_X3_31 64 hZ dX3_addAnd_61 rfl ?_
  refine r_iconst (v := 2) 65 hZ dX3_addAnd_64 rfl (by decide) ?_
  refine r_iload 67 hZ 4 dX3_addAnd_65 rfl rfl ?_
  refine r_imul 68 hZ dX3_addAnd_67 rfl ?_
  exact hret _ _ _ _ dX3_addAnd_68 (nI_2 N) rfl
set_option maxHeartbeats 4000000 in
set_option maxRecDepth 100000 in
theorem c_X3_addOld (l : Launch) (g : va_G) (y : Nat → ClassId) (ad : Nat → Nat) (σ : Nat → Nat → Int32) {N I O : Nat} (hN : σ 0 1 = nI N) (hN2 : N < 38) (hI : σ 0 2 = nI I) (hO : σ 0 3 = nI O) (hIO : 1 + I + O < 14) {x z : Int32} (hx : okL x 76) (hz : okL z 76) : w_C l g y yX3_addOld cX3_addOld 3 (some .int) 2 [.ref (ad 1), .int x, .int z] (cw ad y σ) (some (.int (nI (2 * N)))) (cw ad y (addAndF (up (up (up σ 6 (1 + I + O) (nI N)) 5 N 0) 0 3 (nI (O + 1))) N 1 x z)) := by
  refine w_ofI (lv0 := [(0, .ref (ad 1)), (1, .int x), (2, .int z)]) (by decide +kernel) (Nat.le_of_ble_eq_true rfl) rfl (rfl) ?_
  intro Z hZ hret
  have hci := nI_clamp (n := N) (by omega)
  have hco := nI_clamp (n := 1 + I + O) (by omega)
  refine r_aload_n 1 hZ 0 dX3_addOld_0 rfl rfl rfl ?_
  refine g_X3_28 4 hZ dX3_addOld_1 rfl ?_
  refine r_aload_n 5 hZ 0 dX3_addOld_4 rfl rfl rfl ?_
  refine r_callVI (c_X3_owned l g y ad σ hI hO) wM_X3_owned wL_X3_44 hZ rfl ⟨by decide, by decide⟩ 1 3 rfl rfl rfl rfl dX3_addOld_5 ?_
  refine r_aload_n 9 hZ 0 dX3_addOld_8 rfl rfl rfl ?_
  refine g_X3_31 12 hZ dX3_addOld_9 rfl ?_
  refine w_eqI (hN) ?_
  refine s_c6 13 hZ (by first | assumption | exact vp_in_nI (by omega) (by decide) | (unfold vp_in; decide)) dX3_addOld_12 rfl ?_
  rw [hco]
  refine r_aload_n 14 hZ 0 dX3_addOld_13 rfl rfl rfl ?_
  refine g_X3_24 17 hZ dX3_addOld_14 rfl ?_
  refine r_aload_n 18 hZ 0 dX3_addOld_17 rfl rfl rfl ?_
  refine g_X3_31 21 hZ dX3_addOld_18 rfl ?_
  refine w_eqI (hN) ?_
  refine r_iconst (v := 0) 22 hZ dX3_addOld_21 rfl (by decide) ?_
  refine s_c5 23 hZ (by first | assumption | exact vp_in_nI (by omega) (by decide) | (unfold vp_in; decide)) dX3_addOld_22 rfl ?_
  rw [hci, show vp_nar .boolean 0 = 0 from rfl]
  refine r_aload_n 24 hZ 0 dX3_addOld_23 rfl rfl rfl ?_
  refine r_dup 25 hZ dX3_addOld_24 rfl rfl ?_
  refine g_X3_38 28 hZ dX3_addOld_25 rfl ?_
  refine w_eqI (hO) ?_
  refine r_iconst (v := 1) 29 hZ dX3_addOld_28 rfl (by decide) ?_
  refine r_iadd 30 hZ dX3_addOld_29 rfl ?_
  rw [nI_1]
  refine p_X3_38 33 hZ dX3_addOld_30 rfl ?_
  refine r_aload_n 34 hZ 0 dX3_addOld_33 rfl rfl rfl ?_
  refine r_iconst (v := 1) 35 hZ dX3_addOld_34 rfl (by decide) ?_
  refine r_iload_n 36 hZ 1 dX3_addOld_35 rfl rfl rfl ?_
  refine r_iload_n 37 hZ 2 dX3_addOld_36 rfl rfl rfl ?_
  refine r_callVI (c_X3_addAnd l g y ad _ (N := N) (by exact hN) hN2 1 hx hz) wM_X3_addAnd wL_X3_51 hZ rfl ⟨by decide, by decide⟩ 1 3 rfl rfl rfl rfl dX3_addOld_37 ?_
  exact hret _ _ _ _ dX3_addOld_40 rfl rfl
set_option maxHeartbeats 4000000 in
set_option maxRecDepth 100000 in
theorem c_X3_addAsked (l : Launch) (g : va_G) (y : Nat → ClassId) (ad : Nat → Nat) (σ : Nat → Nat → Int32) {N A : Nat} (hN : σ 0 1 = nI N) (hN2 : N < 38) (hA : σ 0 4 = nI A) {x z : Int32} (hx : okL x 76) (hz : okL z 76) : w_C l g y yX3_addAsked cX3_addAsked 3 (some .int) 2 [.ref (ad 1), .int x, .int z] (cw ad y σ) (some (.int (nI (2 * N)))) (cw ad y (addAndF (up σ 0 4 (nI (A + 1))) N 2 x z)) := by
  refine w_ofI (lv0 := [(0, .ref (ad 1)), (1, .int x), (2, .int z)]) (by decide +kernel) (Nat.le_of_ble_eq_true rfl) rfl (rfl) ?_
  intro Z hZ hret
  refine r_aload_n 1 hZ 0 dX3_addAsked_0 rfl rfl rfl ?_
  refine r_dup 2 hZ dX3_addAsked_1 rfl rfl ?_
  refine g_X3_41 5 hZ dX3_addAsked_2 rfl ?_
  refine w_eqI (hA) ?_
  refine r_iconst (v := 1) 6 hZ dX3_addAsked_5 rfl (by decide) ?_
  refine r_iadd 7 hZ dX3_addAsked_6 rfl ?_
  rw [nI_1]
  refine p_X3_41 10 hZ dX3_addAsked_7 rfl ?_
  refine r_aload_n 11 hZ 0 dX3_addAsked_10 rfl rfl rfl ?_
  refine r_iconst (v := 2) 12 hZ dX3_addAsked_11 rfl (by decide) ?_
  refine r_iload_n 13 hZ 1 dX3_addAsked_12 rfl rfl rfl ?_
  refine r_iload_n 14 hZ 2 dX3_addAsked_13 rfl rfl rfl ?_
  refine r_callVI (c_X3_addAnd l g y ad _ (N := N) (by exact hN) hN2 2 hx hz) wM_X3_addAnd wL_X3_51 hZ rfl ⟨by decide, by decide⟩ 1 3 rfl rfl rfl rfl dX3_addAsked_14 ?_
  exact hret _ _ _ _ dX3_addAsked_17 rfl rfl
set_option maxHeartbeats 4000000 in
set_option maxRecDepth 100000 in
theorem c_X3_rewire (l : Launch) (g : va_G) (y : Nat → ClassId) (ad : Nat → Nat) (σ : Nat → Nat → Int32) {j : Nat} (hj : j < 42) (h : okL (σ 17 j) 38) : w_C l g y yX3_rewire cX3_rewire 2 none 0 [.ref (ad 1), .ref (ad (25 + j))] (cw ad y σ) none (cw ad y (rwF σ j)) := by
  refine w_ofV (lv0 := [(0, .ref (ad 1)), (1, .ref (ad (25 + j)))]) (by decide +kernel) (Nat.le_of_ble_eq_true rfl) rfl ?_
  intro Z hZ hret
  refine r_aload_n 1 hZ 0 dX3_rewire_0 rfl rfl rfl ?_
  refine g_X3_15 4 hZ dX3_rewire_1 rfl ?_
  refine r_aload_n 5 hZ 1 dX3_rewire_4 rfl rfl rfl ?_
  refine g_X3_59 8 hZ (by first | assumption | omega) dX3_rewire_5 rfl ?_
  refine r_aload_n 9 hZ 1 dX3_rewire_8 rfl rfl rfl ?_
  refine g_X3_64 12 hZ (by first | assumption | omega) dX3_rewire_9 rfl ?_
  refine s_c2 13 hZ (okL_in h (by decide)) dX3_rewire_12 rfl ?_
  refine r_aload_n 14 hZ 0 dX3_rewire_13 rfl rfl rfl ?_
  refine g_X3_18 17 hZ dX3_rewire_14 rfl ?_
  refine r_aload_n 18 hZ 1 dX3_rewire_17 rfl rfl rfl ?_
  refine g_X3_59 21 hZ (by first | assumption | omega) dX3_rewire_18 rfl ?_
  refine r_aload_n 22 hZ 1 dX3_rewire_21 rfl rfl rfl ?_
  refine g_X3_66 25 hZ (by first | assumption | omega) dX3_rewire_22 rfl ?_
  refine s_c3 26 hZ (okL_in h (by decide)) dX3_rewire_25 rfl ?_
  exact hret _ _ _ dX3_rewire_26 rfl
set_option maxHeartbeats 4000000 in
set_option maxRecDepth 100000 in
theorem c_X3_refreshOldColumns (l : Launch) (g : va_G) (y : Nat → ClassId) (ad : Nat → Nat) (σ : Nat → Nat → Int32) {I O : Nat} (hI : σ 0 2 = nI I) (hO : σ 0 3 = nI O) (hIO : 1 + I + O ≤ 14) (hw : ∀ n, 1 + I ≤ n → n < 1 + I + O → okL (σ 6 n) 38 ∧ okL (σ 2 (ix (σ 6 n))) 76 ∧ okL (σ 3 (ix (σ 6 n))) 76) : w_C l g y yX3_refreshOldColumns cX3_refreshOldColumns 3 none 1 [.ref (ad 1)] (cw ad y σ) none (cw ad y (rf σ (1 + I) O)) := by
  refine w_ofV (lv0 := [(0, .ref (ad 1))]) (by decide +kernel) (Nat.le_of_ble_eq_true rfl) rfl ?_
  intro Z hZ hret
  refine r_aload_n 1 hZ 0 dX3_refreshOldColumns_0 rfl rfl rfl ?_
  refine r_callVI (c_X3_firstOld l g y ad _ hI) wM_X3_firstOld wL_X3_68 hZ rfl ⟨by decide, by decide⟩ 1 3 rfl rfl rfl rfl dX3_refreshOldColumns_1 ?_
  refine r_istnN 5 [(0, _), (1, _)] hZ dX3_refreshOldColumns_4 rfl rfl (by decide) rfl rfl ?_
  have lp_5 : ∀ (n : Nat) (i : Nat), i ≤ O → O + 1 ≤ i + n → Z 0 0 (cw ad y (rf σ (1 + I) i)) 5 [(0, .ref (ad 1)), (1, .int (nI (1 + I + i)))] [] := by
    intro n
    induction n with
    | zero => intro i h1 hn_5; exact absurd hn_5 (by omega)
    | succ n ih_5 =>
      intro i h1 hn_5
      refine r_iload_n 6 hZ 1 dX3_refreshOldColumns_5 rfl rfl rfl ?_
      refine r_aload_n 7 hZ 0 dX3_refreshOldColumns_6 rfl rfl rfl ?_
      refine r_callVI (c_X3_owned l g y ad _ (I := I) (O := O) ((congrFun (rf_k σ (1 + I) 0 (by decide) i) 2).trans hI) ((congrFun (rf_k σ (1 + I) 0 (by decide) i) 3).trans hO)) wM_X3_owned wL_X3_44 hZ rfl ⟨by decide, by decide⟩ 1 3 rfl rfl rfl rfl dX3_refreshOldColumns_7 ?_
      refine r_icmp_ge 59 13 hZ dX3_refreshOldColumns_10 (by decide) rfl (fun c_10 => ?_) (fun c_10 => ?_)
      · skip
        have hi := nI_leq (by omega) (by omega) c_10
        have hi : i = O := by omega
        subst hi
        exact hret _ _ _ dX3_refreshOldColumns_59 rfl
      · skip
        have hi := nI_nleq (by omega) (by omega) c_10
        obtain ⟨k1, k2, k3⟩ := hw (1 + I + i) (by omega) (by omega)
        have hci := nI_clamp (n := 1 + I + i) (by omega)
        have e6 := congrFun (rf_k σ (1 + I) 6 (by decide) i) (1 + I + i)
        have e2 := congrFun (rf_k σ (1 + I) 2 (by decide) i) (ix (σ 6 (1 + I + i)))
        have e3 := congrFun (rf_k σ (1 + I) 3 (by decide) i) (ix (σ 6 (1 + I + i)))
        refine r_aload_n 14 hZ 0 dX3_refreshOldColumns_13 rfl rfl rfl ?_
        refine g_X3_28 17 hZ dX3_refreshOldColumns_14 rfl ?_
        refine r_iload_n 18 hZ 1 dX3_refreshOldColumns_17 rfl rfl rfl ?_
        refine a_c6 19 hZ (by first | assumption | exact vp_in_nI (by omega) (by decide) | (unfold vp_in; decide)) dX3_refreshOldColumns_18 rfl ?_
        rw [hci, e6]
        refine r_istnN 20 [(0, _), (1, _), (2, _)] hZ dX3_refreshOldColumns_19 rfl rfl (by decide) rfl rfl ?_
        refine r_aload_n 21 hZ 0 dX3_refreshOldColumns_20 rfl rfl rfl ?_
        refine g_X3_21 24 hZ dX3_refreshOldColumns_21 rfl ?_
        refine r_iload_n 25 hZ 2 dX3_refreshOldColumns_24 rfl rfl rfl ?_
        refine r_aload_n 26 hZ 0 dX3_refreshOldColumns_25 rfl rfl rfl ?_
        refine g_X3_21 29 hZ dX3_refreshOldColumns_26 rfl ?_
        refine r_aload_n 30 hZ 0 dX3_refreshOldColumns_29 rfl rfl rfl ?_
        refine g_X3_15 33 hZ dX3_refreshOldColumns_30 rfl ?_
        refine r_iload_n 34 hZ 2 dX3_refreshOldColumns_33 rfl rfl rfl ?_
        refine a_c2 35 hZ (okL_in k1 (by decide)) dX3_refreshOldColumns_34 rfl ?_
        refine w_eqI (e2) ?_
        refine r_callSNI (c_X7_column_4 l g y ad _ k2) wM_X7_column w_nw_X3_55 hZ rfl ⟨by decide, by decide⟩ rfl rfl dX3_refreshOldColumns_35 ?_
        refine r_aload_n 39 hZ 0 dX3_refreshOldColumns_38 rfl rfl rfl ?_
        refine g_X3_21 42 hZ dX3_refreshOldColumns_39 rfl ?_
        refine r_aload_n 43 hZ 0 dX3_refreshOldColumns_42 rfl rfl rfl ?_
        refine g_X3_18 46 hZ dX3_refreshOldColumns_43 rfl ?_
        refine r_iload_n 47 hZ 2 dX3_refreshOldColumns_46 rfl rfl rfl ?_
        refine a_c3 48 hZ (okL_in k1 (by decide)) dX3_refreshOldColumns_47 rfl ?_
        refine w_eqI (e3) ?_
        refine r_callSNI (c_X7_column_4 l g y ad _ k3) wM_X7_column w_nw_X3_55 hZ rfl ⟨by decide, by decide⟩ rfl rfl dX3_refreshOldColumns_48 ?_
        refine r_iand 52 hZ dX3_refreshOldColumns_51 rfl ?_
        refine s_c4 53 hZ (okL_in k1 (by decide)) dX3_refreshOldColumns_52 rfl ?_
        refine r_iinc 56 1 1 [(0, _), (1, _), (2, _)] hZ dX3_refreshOldColumns_53 rfl rfl (by decide) (by decide) rfl rfl ?_
        refine r_goto 5 hZ dX3_refreshOldColumns_56 (by decide) ?_
        rw [nI_1]
        exact w_take 2 hZ (ih_5 (i + 1) (by omega) (by omega))
  exact lp_5 (O + 1) 0 (by omega) (by omega)
set_option maxHeartbeats 4000000 in
set_option maxRecDepth 100000 in
theorem c_X3_keptNodes (l : Launch) (g : va_G) (y : Nat → ClassId) (ad : Nat → Nat) (σ : Nat → Nat → Int32) {I O : Nat} (hI : σ 0 2 = nI I) (hO : σ 0 3 = nI O) (hIO : 1 + I + O ≤ 14) (hw : ∀ n, 1 + I ≤ n → n < 1 + I + O → okL (σ 6 n) 38) : w_C l g y yX3_keptNodes cX3_keptNodes 3 (some .int) 1 [.ref (ad 1)] (cw ad y σ) (some (.int (nI (cnt (fun i => ¬ σ 5 (ix (σ 6 (1 + I + i))) = 0) O)))) (cw ad y σ) := by
  refine w_ofI (lv0 := [(0, .ref (ad 1))]) (by decide +kernel) (Nat.le_of_ble_eq_true rfl) rfl (rfl) ?_
  intro Z hZ hret
  refine r_iconst (v := 0) 1 hZ dX3_keptNodes_0 rfl (by decide) ?_
  refine r_istnN 2 [(0, _), (1, _)] hZ dX3_keptNodes_1 rfl rfl (by decide) rfl rfl ?_
  refine r_aload_n 3 hZ 0 dX3_keptNodes_2 rfl rfl rfl ?_
  refine r_callVI (c_X3_firstOld l g y ad _ hI) wM_X3_firstOld wL_X3_68 hZ rfl ⟨by decide, by decide⟩ 1 3 rfl rfl rfl rfl dX3_keptNodes_3 ?_
  refine r_istnN 7 [(0, _), (1, _), (2, _)] hZ dX3_keptNodes_6 rfl rfl (by decide) rfl rfl ?_
  have lp_7 : ∀ (n : Nat) (i : Nat), i ≤ O → O + 1 ≤ i + n → Z 0 0 (cw ad y σ) 7 [(0, .ref (ad 1)), (1, .int (nI (cnt (fun i => ¬ σ 5 (ix (σ 6 (1 + I + i))) = 0) i))), (2, .int (nI (1 + I + i)))] [] := by
    intro n
    induction n with
    | zero => intro i h1 hn_7; exact absurd hn_7 (by omega)
    | succ n ih_7 =>
      intro i h1 hn_7
      refine r_iload_n 8 hZ 2 dX3_keptNodes_7 rfl rfl rfl ?_
      refine r_aload_n 9 hZ 0 dX3_keptNodes_8 rfl rfl rfl ?_
      refine r_callVI (c_X3_owned l g y ad _ hI hO) wM_X3_owned wL_X3_44 hZ rfl ⟨by decide, by decide⟩ 1 3 rfl rfl rfl rfl dX3_keptNodes_9 ?_
      refine r_icmp_ge 38 15 hZ dX3_keptNodes_12 (by decide) rfl (fun c_12 => ?_) (fun c_12 => ?_)
      · skip
        have hi := nI_leq (by omega) (by omega) c_12
        have hi : i = O := by omega
        subst hi
        refine r_iload_n 39 hZ 1 dX3_keptNodes_38 rfl rfl rfl ?_
        exact hret _ _ _ _ dX3_keptNodes_39 rfl rfl
      · skip
        have hi := nI_nleq (by omega) (by omega) c_12
        have k1 := hw (1 + I + i) (by omega) (by omega)
        have hci := nI_clamp (n := 1 + I + i) (by omega)
        refine r_aload_n 16 hZ 0 dX3_keptNodes_15 rfl rfl rfl ?_
        refine g_X3_24 19 hZ dX3_keptNodes_16 rfl ?_
        refine r_aload_n 20 hZ 0 dX3_keptNodes_19 rfl rfl rfl ?_
        refine g_X3_28 23 hZ dX3_keptNodes_20 rfl ?_
        refine r_iload_n 24 hZ 2 dX3_keptNodes_23 rfl rfl rfl ?_
        refine a_c6 25 hZ (by first | assumption | exact vp_in_nI (by omega) (by decide) | (unfold vp_in; decide)) dX3_keptNodes_24 rfl ?_
        rw [hci]
        refine a_c5 26 hZ (okL_in k1 (by decide)) dX3_keptNodes_25 rfl ?_
        refine r_if_eq 32 29 hZ dX3_keptNodes_26 (by decide) rfl (fun c_26 => ?_) (fun c_26 => ?_)
        · skip
          have hk := cnt_f (P := fun i => ¬ σ 5 (ix (σ 6 (1 + I + i))) = 0) (i := i) (fun q => q c_26)
          rw [← hk]
          first | rw [nI_1, ← hk] | skip
          refine r_iinc 35 2 1 [(0, _), (1, _), (2, _)] hZ dX3_keptNodes_32 rfl rfl (by decide) (by decide) rfl rfl ?_
          refine r_goto 7 hZ dX3_keptNodes_35 (by decide) ?_
          rw [nI_1] at *
          exact ih_7 (i + 1) (by omega) (by omega)
        · skip
          have hk := cnt_t (P := fun i => ¬ σ 5 (ix (σ 6 (1 + I + i))) = 0) (i := i) c_26
          refine r_iinc 32 1 1 [(0, _), (1, _), (2, _)] hZ dX3_keptNodes_29 rfl rfl (by decide) (by decide) rfl rfl ?_
          first | rw [nI_1, ← hk] | skip
          refine r_iinc 35 2 1 [(0, _), (1, _), (2, _)] hZ dX3_keptNodes_32 rfl rfl (by decide) (by decide) rfl rfl ?_
          refine r_goto 7 hZ dX3_keptNodes_35 (by decide) ?_
          rw [nI_1] at *
          exact ih_7 (i + 1) (by omega) (by omega)
  exact lp_7 (O + 1) 0 (by omega) (by omega)
set_option maxHeartbeats 4000000 in
set_option maxRecDepth 100000 in
theorem c_X3_leastOwnLiteralOf (l : Launch) (g : va_G) (y : Nat → ClassId) (ad : Nat → Nat) (σ : Nat → Nat → Int32) (x : Int32) {I O : Nat} (hI : σ 0 2 = nI I) (hO : σ 0 3 = nI O) (hIO : 1 + I + O ≤ 14) (hw : ∀ n, n < 1 + I + O → okL (σ 6 n) 38) : w_C l g y yX3_leastOwnLiteralOf cX3_leastOwnLiteralOf 3 (some .int) 1 [.ref (ad 1), .int x] (cw ad y σ) (some (.int (oI (gfind (fun n => opt (cl (σ 4) (2 * ix (σ 6 (n / 2)) + n % 2) = x) (2 * ix (σ 6 (n / 2)) + n % 2)) 0 (2 * (1 + I + O)))))) (cw ad y σ) := by
  refine w_ofI (lv0 := [(0, .ref (ad 1)), (1, .int x)]) (by decide +kernel) (Nat.le_of_ble_eq_true rfl) rfl (rfl) ?_
  intro Z hZ hret
  generalize hF : (fun n => opt (cl (σ 4) (2 * ix (σ 6 (n / 2)) + n % 2) = x) (2 * ix (σ 6 (n / 2)) + n % 2)) = F at hret
  refine r_iconst (v := 0) 1 hZ dX3_leastOwnLiteralOf_0 rfl (by decide) ?_
  refine r_istnN 2 [(0, _), (1, _), (2, _)] hZ dX3_leastOwnLiteralOf_1 rfl rfl (by decide) rfl rfl ?_
  have lp_2 : ∀ (n : Nat) (i : Nat), i ≤ 2 * (1 + I + O) → 2 * (1 + I + O) + 1 ≤ i + n → gfind F 0 (2 * (1 + I + O)) = gfind F i (2 * (1 + I + O) - i) → Z 0 0 (cw ad y σ) 2 [(0, .ref (ad 1)), (1, .int x), (2, .int (nI i))] [] := by
    intro n
    induction n with
    | zero => intro i h1 hn_2 hg; exact absurd hn_2 (by omega)
    | succ n ih_2 =>
      intro i h1 hn_2 hg
      refine r_iload_n 3 hZ 2 dX3_leastOwnLiteralOf_2 rfl rfl rfl ?_
      refine r_iconst (v := 2) 4 hZ dX3_leastOwnLiteralOf_3 rfl (by decide) ?_
      refine r_aload_n 5 hZ 0 dX3_leastOwnLiteralOf_4 rfl rfl rfl ?_
      refine r_callVI (c_X3_owned l g y ad _ hI hO) wM_X3_owned wL_X3_44 hZ rfl ⟨by decide, by decide⟩ 1 3 rfl rfl rfl rfl dX3_leastOwnLiteralOf_5 ?_
      refine r_imul 9 hZ dX3_leastOwnLiteralOf_8 rfl ?_
      rw [nI_2]
      refine r_icmp_ge 40 12 hZ dX3_leastOwnLiteralOf_9 (by decide) rfl (fun c_9 => ?_) (fun c_9 => ?_)
      · skip
        have hi := nI_leq (by omega) (by omega) c_9
        have hi : i = 2 * (1 + I + O) := by omega
        subst hi
        refine r_iconst (v := (-1)) 41 hZ dX3_leastOwnLiteralOf_40 rfl (by decide) ?_
        exact hret _ _ _ _ dX3_leastOwnLiteralOf_41 (by rw [hg, show 2 * (1 + I + O) - 2 * (1 + I + O) = 0 by omega, gfind_0]; rfl) rfl
      · skip
        have hi := nI_nleq (by omega) (by omega) c_9
        have hb : 2 * (1 + I + O) - i = (2 * (1 + I + O) - (i + 1)) + 1 := by omega
        have k1 := hw (i / 2) (by omega)
        refine r_aload_n 13 hZ 0 dX3_leastOwnLiteralOf_12 rfl rfl rfl ?_
        refine g_X3_21 16 hZ dX3_leastOwnLiteralOf_13 rfl ?_
        refine r_aload_n 17 hZ 0 dX3_leastOwnLiteralOf_16 rfl rfl rfl ?_
        refine r_iload_n 18 hZ 2 dX3_leastOwnLiteralOf_17 rfl rfl rfl ?_
        refine r_callVI (c_X3_ownLiteral l g y ad _ (n := i) (by omega) k1) wM_X3_ownLiteral wL_X3_71 hZ rfl ⟨by decide, by decide⟩ 1 3 rfl rfl rfl rfl dX3_leastOwnLiteralOf_18 ?_
        refine r_callSNI (c_X7_column_4 l g y ad _ (x := nI (2 * ix (σ 6 (i / 2)) + i % 2)) (okL_nI (by have := k1.2; omega) (by decide))) wM_X7_column w_nw_X3_55 hZ rfl ⟨by decide, by decide⟩ rfl rfl dX3_leastOwnLiteralOf_21 ?_
        rw [ix_nI (by have := k1.2; omega)]
        refine r_iload_n 25 hZ 1 dX3_leastOwnLiteralOf_24 rfl rfl rfl ?_
        refine r_icmp_ne 34 28 hZ dX3_leastOwnLiteralOf_25 (by decide) rfl (fun c_25 => ?_) (fun c_25 => ?_)
        · skip
          have hF1 : F i = none := by rw [← hF]; exact opt_f c_25
          refine r_iinc 37 2 1 [(0, _), (1, _), (2, _)] hZ dX3_leastOwnLiteralOf_34 rfl rfl (by decide) (by decide) rfl rfl ?_
          refine r_goto 2 hZ dX3_leastOwnLiteralOf_37 (by decide) ?_
          rw [nI_1]
          exact ih_2 (i + 1) (by omega) (by omega) (by rw [hg, hb, gfind_n hF1])
        · skip
          have hF1 : F i = some (2 * ix (σ 6 (i / 2)) + i % 2) := by rw [← hF]; exact opt_t c_25
          refine r_aload_n 29 hZ 0 dX3_leastOwnLiteralOf_28 rfl rfl rfl ?_
          refine r_iload_n 30 hZ 2 dX3_leastOwnLiteralOf_29 rfl rfl rfl ?_
          refine r_callVI (c_X3_ownLiteral l g y ad _ (n := i) (by omega) k1) wM_X3_ownLiteral wL_X3_71 hZ rfl ⟨by decide, by decide⟩ 1 3 rfl rfl rfl rfl dX3_leastOwnLiteralOf_30 ?_
          exact hret _ _ _ _ dX3_leastOwnLiteralOf_33 (by rw [hg, hb, gfind_s hF1]; rfl) rfl
  exact lp_2 (2 * (1 + I + O) + 1) 0 (by omega) (by omega) rfl
set_option maxHeartbeats 4000000 in
set_option maxRecDepth 100000 in
theorem c_X6_offer (l : Launch) (g : va_G) (y : Nat → ClassId) (ad : Nat → Nat) (σ : Nat → Nat → Int32) (v s t : Int32) : w_C l g y yX6_offer cX6_offer 4 none 0 [.ref (ad 5), .int v, .int s, .int t] (cw ad y σ) none (cw ad y (ofF σ v s t)) := by
  refine w_ofV (lv0 := [(0, .ref (ad 5)), (1, .int v), (2, .int s), (3, .int t)]) (by decide +kernel) (Nat.le_of_ble_eq_true rfl) rfl ?_
  intro Z hZ hret
  refine r_aload_n 1 hZ 0 dX6_offer_0 rfl rfl rfl ?_
  refine g_X6_19 4 hZ dX6_offer_1 rfl ?_
  refine r_iconst (v := (-1)) 5 hZ dX6_offer_4 rfl (by decide) ?_
  refine r_icmp_eq 16 8 hZ dX6_offer_5 (by decide) rfl (fun c_5 => ?_) (fun c_5 => ?_)
  · skip
    refine r_aload_n 17 hZ 0 dX6_offer_16 rfl rfl rfl ?_
    refine r_iload_n 18 hZ 1 dX6_offer_17 rfl rfl rfl ?_
    refine p_X6_19 21 hZ dX6_offer_18 rfl ?_
    refine r_aload_n 22 hZ 0 dX6_offer_21 rfl rfl rfl ?_
    refine g_X6_15 25 hZ dX6_offer_22 rfl ?_
    refine r_iconst (v := 0) 26 hZ dX6_offer_25 rfl (by decide) ?_
    refine r_iload_n 27 hZ 2 dX6_offer_26 rfl rfl rfl ?_
    refine s_c15 28 hZ (by first | assumption | exact vp_in_nI (by omega) (by decide) | (unfold vp_in; decide)) dX6_offer_27 rfl ?_
    refine r_aload_n 29 hZ 0 dX6_offer_28 rfl rfl rfl ?_
    refine g_X6_15 32 hZ dX6_offer_29 rfl ?_
    refine r_iconst (v := 1) 33 hZ dX6_offer_32 rfl (by decide) ?_
    refine r_iload_n 34 hZ 3 dX6_offer_33 rfl rfl rfl ?_
    refine s_c15 35 hZ (by first | assumption | exact vp_in_nI (by omega) (by decide) | (unfold vp_in; decide)) dX6_offer_34 rfl ?_
    exact hret _ _ _ dX6_offer_35 (by unfold ofF; first | exact congrArg _ (if_pos (Or.inl c_5)).symm | exact congrArg _ (if_pos (Or.inr (Int32.not_le.mp c_13))).symm | exact congrArg _ (if_neg (fun q => q.elim c_5 (fun q => absurd c_13 (Int32.not_le.mpr q)))).symm)
  · skip
    refine r_iload_n 9 hZ 1 dX6_offer_8 rfl rfl rfl ?_
    refine r_aload_n 10 hZ 0 dX6_offer_9 rfl rfl rfl ?_
    refine g_X6_19 13 hZ dX6_offer_10 rfl ?_
    refine r_icmp_ge 35 16 hZ dX6_offer_13 (by decide) rfl (fun c_13 => ?_) (fun c_13 => ?_)
    · skip
      exact hret _ _ _ dX6_offer_35 (by unfold ofF; first | exact congrArg _ (if_pos (Or.inl c_5)).symm | exact congrArg _ (if_pos (Or.inr (Int32.not_le.mp c_13))).symm | exact congrArg _ (if_neg (fun q => q.elim c_5 (fun q => absurd c_13 (Int32.not_le.mpr q)))).symm)
    · skip
      refine r_aload_n 17 hZ 0 dX6_offer_16 rfl rfl rfl ?_
      refine r_iload_n 18 hZ 1 dX6_offer_17 rfl rfl rfl ?_
      refine p_X6_19 21 hZ dX6_offer_18 rfl ?_
      refine r_aload_n 22 hZ 0 dX6_offer_21 rfl rfl rfl ?_
      refine g_X6_15 25 hZ dX6_offer_22 rfl ?_
      refine r_iconst (v := 0) 26 hZ dX6_offer_25 rfl (by decide) ?_
      refine r_iload_n 27 hZ 2 dX6_offer_26 rfl rfl rfl ?_
      refine s_c15 28 hZ (by first | assumption | exact vp_in_nI (by omega) (by decide) | (unfold vp_in; decide)) dX6_offer_27 rfl ?_
      refine r_aload_n 29 hZ 0 dX6_offer_28 rfl rfl rfl ?_
      refine g_X6_15 32 hZ dX6_offer_29 rfl ?_
      refine r_iconst (v := 1) 33 hZ dX6_offer_32 rfl (by decide) ?_
      refine r_iload_n 34 hZ 3 dX6_offer_33 rfl rfl rfl ?_
      refine s_c15 35 hZ (by first | assumption | exact vp_in_nI (by omega) (by decide) | (unfold vp_in; decide)) dX6_offer_34 rfl ?_
      exact hret _ _ _ dX6_offer_35 (by unfold ofF; first | exact congrArg _ (if_pos (Or.inl c_5)).symm | exact congrArg _ (if_pos (Or.inr (Int32.not_le.mp c_13))).symm | exact congrArg _ (if_neg (fun q => q.elim c_5 (fun q => absurd c_13 (Int32.not_le.mpr q)))).symm)
set_option maxHeartbeats 4000000 in
set_option maxRecDepth 100000 in
theorem c_X6_takeForOne (l : Launch) (g : va_G) (y : Nat → ClassId) (ad : Nat → Nat) (σ : Nat → Nat → Int32) {a S : Nat} (ha : a < 38) (hS : σ 0 6 = nI S) (hS6 : S ≤ 6) : w_C l g y yX6_takeForOne cX6_takeForOne 3 none 2 [.ref (ad 5), .int (nI a)] (cw ad y σ) none (cw ad y (t1F σ a S)) := by
  refine w_ofV (lv0 := [(0, .ref (ad 5)), (1, .int (nI a))]) (by decide +kernel) (Nat.le_of_ble_eq_true rfl) rfl ?_
  intro Z hZ hret
  refine r_iconst (v := 0) 1 hZ dX6_takeForOne_0 rfl (by decide) ?_
  refine r_istnN 2 [(0, _), (1, _), (2, _)] hZ dX6_takeForOne_1 rfl rfl (by decide) rfl rfl ?_
  have lp_2 : ∀ (n : Nat) (i : Nat), i ≤ S → S + 1 ≤ i + n → Z 0 0 (cw ad y (t1F σ a i)) 2 [(0, .ref (ad 5)), (1, .int (nI a)), (2, .int (nI i))] [] := by
    intro n
    induction n with
    | zero => intro i h1 hn_2; exact absurd hn_2 (by omega)
    | succ n ih_2 =>
      intro i h1 hn_2
      refine r_iload_n 3 hZ 2 dX6_takeForOne_2 rfl rfl rfl ?_
      refine r_aload_n 4 hZ 0 dX6_takeForOne_3 rfl rfl rfl ?_
      refine g_X6_9 7 hZ dX6_takeForOne_4 rfl ?_
      refine g_X6_36 10 hZ dX6_takeForOne_7 rfl ?_
      refine w_eqI ((t1F_0 σ a 6 (by decide) i).trans hS) ?_
      refine r_icmp_ge 34 13 hZ dX6_takeForOne_10 (by decide) rfl (fun c_10 => ?_) (fun c_10 => ?_)
      · skip
        have hi := nI_leq (by omega) (by omega) c_10
        have hi : i = S := by omega
        subst hi
        exact hret _ _ _ dX6_takeForOne_34 rfl
      · skip
        have hi := nI_nleq (by omega) (by omega) c_10
        refine r_aload_n 14 hZ 0 dX6_takeForOne_13 rfl rfl rfl ?_
        refine r_aload_n 15 hZ 0 dX6_takeForOne_14 rfl rfl rfl ?_
        refine g_X6_9 18 hZ dX6_takeForOne_15 rfl ?_
        refine r_iload_n 19 hZ 1 dX6_takeForOne_18 rfl rfl rfl ?_
        refine r_iload_n 20 hZ 2 dX6_takeForOne_19 rfl rfl rfl ?_
        refine r_callVI (c_X0_distance l g y ad _ (j := a) (s := i) ha (by omega)) wM_X0_distance wL_X6_41 hZ rfl ⟨by decide, by decide⟩ 3 0 rfl rfl rfl rfl dX6_takeForOne_20 ?_
        refine r_iload_n 24 hZ 2 dX6_takeForOne_23 rfl rfl rfl ?_
        refine r_iconst (v := (-1)) 25 hZ dX6_takeForOne_24 rfl (by decide) ?_
        refine r_callVV (c_X6_offer l g y ad _ _ _ _) wM_X6_offer wL_X6_45 hZ rfl ⟨by decide, by decide⟩ 5 6 rfl rfl rfl rfl dX6_takeForOne_25 ?_
        refine r_iinc 31 2 1 [(0, _), (1, _), (2, _)] hZ dX6_takeForOne_28 rfl rfl (by decide) (by decide) rfl rfl ?_
        refine r_goto 2 hZ dX6_takeForOne_31 (by decide) ?_
        rw [nI_1]
        exact ih_2 (i + 1) (by omega) (by omega)
  exact lp_2 (S + 1) 0 (by omega) (by omega)
set_option maxHeartbeats 4000000 in
set_option maxRecDepth 100000 in
theorem c_X6_takeForTwo (l : Launch) (g : va_G) (y : Nat → ClassId) (ad : Nat → Nat) (σ : Nat → Nat → Int32) {a b S : Nat} (ha : a < 38) (hb : b < 38) (hS : σ 0 6 = nI S) (hS6 : S ≤ 6) : w_C l g y yX6_takeForTwo cX6_takeForTwo 5 none 2 [.ref (ad 5), .int (nI a), .int (nI b)] (cw ad y σ) none (cw ad y (t2F σ a b S S)) := by
  refine w_ofV (lv0 := [(0, .ref (ad 5)), (1, .int (nI a)), (2, .int (nI b))]) (by decide +kernel) (Nat.le_of_ble_eq_true rfl) rfl ?_
  intro Z hZ hret
  refine r_iconst (v := 0) 1 hZ dX6_takeForTwo_0 rfl (by decide) ?_
  refine r_istnN 2 [(0, _), (1, _), (2, _), (3, _)] hZ dX6_takeForTwo_1 rfl rfl (by decide) rfl rfl ?_
  have lp_2 : ∀ (n : Nat) (i : Nat), i ≤ S → S + 1 ≤ i + n → Z 0 0 (cw ad y (t2F σ a b S i)) 2 [(0, .ref (ad 5)), (1, .int (nI a)), (2, .int (nI b)), (3, .int (nI i))] [] := by
    intro n
    induction n with
    | zero => intro i h1 hn_2; exact absurd hn_2 (by omega)
    | succ n ih_2 =>
      intro i h1 hn_2
      refine r_iload_n 3 hZ 3 dX6_takeForTwo_2 rfl rfl rfl ?_
      refine r_aload_n 4 hZ 0 dX6_takeForTwo_3 rfl rfl rfl ?_
      refine g_X6_9 7 hZ dX6_takeForTwo_4 rfl ?_
      refine g_X6_36 10 hZ dX6_takeForTwo_7 rfl ?_
      refine w_eqI ((t2F_0 σ a b S 6 (by decide) i).trans hS) ?_
      refine r_icmp_ge 73 13 hZ dX6_takeForTwo_10 (by decide) rfl (fun c_10 => ?_) (fun c_10 => ?_)
      · skip
        have hi := nI_leq (by omega) (by omega) c_10
        have hi : i = S := by omega
        subst hi
        exact hret _ _ _ dX6_takeForTwo_73 rfl
      · skip
        have hi := nI_nleq (by omega) (by omega) c_10
        refine r_iconst (v := 0) 14 hZ dX6_takeForTwo_13 rfl (by decide) ?_
        refine r_istN (q := 0) 16 [(0, _), (1, _), (2, _), (3, _), (4, _)] hZ dX6_takeForTwo_14 rfl (by decide) rfl rfl ?_
        have lp_16 : ∀ (n : Nat) (j : Nat), j ≤ S → S + 1 ≤ j + n → Z 0 0 (cw ad y (t2I (t2F σ a b S i) a b i j)) 16 [(0, .ref (ad 5)), (1, .int (nI a)), (2, .int (nI b)), (3, .int (nI i)), (4, .int (nI j))] [] := by
          intro n
          induction n with
          | zero => intro j h1j hn_16; exact absurd hn_16 (by omega)
          | succ n ih_16 =>
            intro j h1j hn_16
            refine r_iload 18 hZ 4 dX6_takeForTwo_16 rfl rfl ?_
            refine r_aload_n 19 hZ 0 dX6_takeForTwo_18 rfl rfl rfl ?_
            refine g_X6_9 22 hZ dX6_takeForTwo_19 rfl ?_
            refine g_X6_36 25 hZ dX6_takeForTwo_22 rfl ?_
            refine w_eqI ((t2I_0 _ a b i 6 (by decide) j).trans ((t2F_0 σ a b S 6 (by decide) i).trans hS)) ?_
            refine r_icmp_ge 67 28 hZ dX6_takeForTwo_25 (by decide) rfl (fun c_25 => ?_) (fun c_25 => ?_)
            · skip
              have hj := nI_leq (by omega) (by omega) c_25
              have hj : j = S := by omega
              subst hj
              refine r_iinc 70 3 1 [(0, _), (1, _), (2, _), (3, _), (4, _)] hZ dX6_takeForTwo_67 rfl rfl (by decide) (by decide) rfl rfl ?_
              refine r_goto 2 hZ dX6_takeForTwo_70 (by decide) ?_
              rw [nI_1]
              exact w_take 4 hZ (ih_2 (i + 1) (by omega) (by omega))
            · skip
              have hj := nI_nleq (by omega) (by omega) c_25
              refine r_iload_n 29 hZ 3 dX6_takeForTwo_28 rfl rfl rfl ?_
              refine r_iload 31 hZ 4 dX6_takeForTwo_29 rfl rfl ?_
              refine r_icmp_eq 61 34 hZ dX6_takeForTwo_31 (by decide) rfl (fun c_31 => ?_) (fun c_31 => ?_)
              · skip
                have e := nI_eqq (by omega) (by omega) c_31
                rw [← t2I_t (σ := t2F σ a b S i) (a := a) (b := b) e]
                try rw [← t2I_f (σ := t2F σ a b S i) (a := a) (b := b) e]
                refine r_iinc 64 4 1 [(0, _), (1, _), (2, _), (3, _), (4, _)] hZ dX6_takeForTwo_61 rfl rfl (by decide) (by decide) rfl rfl ?_
                refine r_goto 16 hZ dX6_takeForTwo_64 (by decide) ?_
                rw [nI_1]
                exact ih_16 (j + 1) (by omega) (by omega)
              · skip
                have e := nI_neqq (by omega) (by omega) c_31
                refine r_aload_n 35 hZ 0 dX6_takeForTwo_34 rfl rfl rfl ?_
                refine r_aload_n 36 hZ 0 dX6_takeForTwo_35 rfl rfl rfl ?_
                refine g_X6_9 39 hZ dX6_takeForTwo_36 rfl ?_
                refine r_iload_n 40 hZ 1 dX6_takeForTwo_39 rfl rfl rfl ?_
                refine r_iload_n 41 hZ 3 dX6_takeForTwo_40 rfl rfl rfl ?_
                refine r_callVI (c_X0_distance l g y ad _ (j := a) (s := i) ha (by omega)) wM_X0_distance wL_X6_41 hZ rfl ⟨by decide, by decide⟩ 3 0 rfl rfl rfl rfl dX6_takeForTwo_41 ?_
                refine r_aload_n 45 hZ 0 dX6_takeForTwo_44 rfl rfl rfl ?_
                refine g_X6_9 48 hZ dX6_takeForTwo_45 rfl ?_
                refine r_iload_n 49 hZ 2 dX6_takeForTwo_48 rfl rfl rfl ?_
                refine r_iload 51 hZ 4 dX6_takeForTwo_49 rfl rfl ?_
                refine r_callVI (c_X0_distance l g y ad _ (j := b) (s := j) hb (by omega)) wM_X0_distance wL_X6_41 hZ rfl ⟨by decide, by decide⟩ 3 0 rfl rfl rfl rfl dX6_takeForTwo_51 ?_
                refine r_iadd 55 hZ dX6_takeForTwo_54 rfl ?_
                refine r_iload_n 56 hZ 3 dX6_takeForTwo_55 rfl rfl rfl ?_
                refine r_iload 58 hZ 4 dX6_takeForTwo_56 rfl rfl ?_
                refine r_callVV (c_X6_offer l g y ad _ _ _ _) wM_X6_offer wL_X6_45 hZ rfl ⟨by decide, by decide⟩ 5 6 rfl rfl rfl rfl dX6_takeForTwo_58 ?_
                try rw [← t2I_f (σ := t2F σ a b S i) (a := a) (b := b) e]
                refine r_iinc 64 4 1 [(0, _), (1, _), (2, _), (3, _), (4, _)] hZ dX6_takeForTwo_61 rfl rfl (by decide) (by decide) rfl rfl ?_
                refine r_goto 16 hZ dX6_takeForTwo_64 (by decide) ?_
                rw [nI_1]
                exact ih_16 (j + 1) (by omega) (by omega)
        exact lp_16 (S + 1) 0 (by omega) (by omega)
  exact lp_2 (S + 1) 0 (by omega) (by omega)
end
section
theorem wL_copy : Cond.methodLink RX5 58 arraycopyName ∈ UW := uw_at 534 (by decide +kernel) rfl
theorem wV_copy : Cond.native arraycopyName ∈ UW ∧ Cond.static arraycopyName ∈ UW ∧ Cond.initialized "java/lang/System" ∈ UW := ⟨uw_at 536 (by decide +kernel) rfl, uw_at 535 (by decide +kernel) rfl, uw_at 16 (by decide +kernel) rfl⟩
def upA (σ : Nat → Nat → Int32) (k : Nat) (f : Nat → Int32) : Nat → Nat → Int32 := fun k2 => if k2 = k then f else σ k2
theorem r_copyC {l : Launch} {g : va_G} {y : Nat → ClassId} {R : Room} {cc : ByteArray} {own : String} {nL : Nat} {Z : Nat → Nat → va_W → Nat → List (Nat × Value) → List Value → Prop} {k n pc : Nat} {lv : List (Nat × Value)} {st : List Value} {ad : Nat → Nat} {σ : Nat → Nat → Int32} {idx N : Nat} (pc2 : Nat) (hZ : w_Is l g y R cc own nL Z) (wl : Cond.methodLink own idx arraycopyName ∈ UW) (hN : N ≤ 38) (h1 : 1 ≤ R.frames) (h2 : (st.map fun v => v.category).sum + (nativeFrameWords "java/lang/System" "arraycopy" 5 + 11) ≤ R.locals) (dd : decode cc pc = .ok (.invokestatic idx, 3)) (hp : pc + 3 = pc2) (k1 : Z k n (cw ad y (upA σ 9 (va_cpy (σ 4) (σ 9) 0 0 N))) pc2 lv st) : Z k n (cw ad y σ) pc lv (.int (nI N) :: .int 0 :: .ref (ad 15) :: .int 0 :: .ref (ad 10) :: st) := by
  obtain ⟨p, e, s, m, args, below, meth, c, A, Q, ⟨hx, hb, hml, hown, hts, hK, hA, hNW⟩, hi⟩ := hZ
  subst hp
  rw [hi] at k1 ⊢
  intro h3 h4 H locs ls hP hD hS hl
  have hc := nI_clamp (n := N) (by omega)
  refine va_copyi hx hb (by rw [hml]; exact hl.1.symm) hown (hts _ wl) (hts _ wV_copy.1) (hts _ wV_copy.2.1) (hts _ wV_copy.2.2) hK hP hD hS 10 15 0 0 (n0 := 38) (n1 := 38) (f := σ 4) (g := σ 9) rfl rfl rfl rfl rfl (by decide) (by decide) (nI_pos (by omega)) (by rw [hc]; exact (Nat.zero_add N).symm ▸ hN) (by rw [hc]; exact (Nat.zero_add N).symm ▸ hN) (fun _ _ => rfl) h1 h2 dd (fun H1 locs1 hP1 hD1 hS1 => ?_)
  rw [hc] at hP1 hD1
  exact k1 h3 h4 H1 locs1 ls hP1 hD1 hS1 hl
/-! the search: what its parts answer, what they do to the store -/
def Ws (σ : Nat → Nat → Int32) (N I O G : Nat) : Prop := σ 0 1 = nI N ∧ σ 0 2 = nI I ∧ σ 0 3 = nI O ∧ σ 0 5 = nI G ∧ N ≤ 38 ∧ 1 + I + O ≤ 14 ∧ G ≤ 4 ∧ (∀ n, n < 1 + I + O → okL (σ 6 n) 38) ∧ (∀ n, 1 + I ≤ n → n < 1 + I + O → okL (σ 6 n) 38 ∧ okL (σ 2 (ix (σ 6 n))) 76 ∧ okL (σ 3 (ix (σ 6 n))) 76) ∧ (∀ i, i < G → okL (σ 7 i) 76) ∧ (∀ i, i < G → okL (σ 8 i) 76)
theorem Ws.congr {σ s : Nat → Nat → Int32} {N I O G : Nat} (h : Ws σ N I O G) (e : ∀ k, k ≤ 8 → s k = σ k) : Ws s N I O G := by
  unfold Ws at *
  rw [e 0 (by decide), e 2 (by decide), e 3 (by decide), e 6 (by decide), e 7 (by decide), e 8 (by decide)]
  exact h
def shF (σ : Nat → Nat → Int32) (n : Nat) (c : Int32) : Nat → Nat → Int32 := up (up (up σ 9 (ix (σ 6 n)) c) 10 (2 * n) c) 10 (2 * n + 1) (c ^^^ (-1))
theorem shF_k (σ : Nat → Nat → Int32) (n : Nat) (c : Int32) (k : Nat) (h9 : k ≠ 9) (h10 : k ≠ 10) : shF σ n c k = σ k := by
  show (if k = 10 then _ else if k = 10 then _ else if k = 9 then _ else _) = _
  rw [if_neg h10, if_neg h10, if_neg h9]
def siF (σ : Nat → Nat → Int32) (N : Nat) : Nat → Nat → Nat → Int32
  | 0 => upA σ 9 (va_cpy (σ 4) (σ 9) 0 0 N)
  | i + 1 => shF (siF σ N i) i (σ 4 (ix (σ 6 i)))
theorem siF_k (σ : Nat → Nat → Int32) (N k : Nat) (h9 : k ≠ 9) (h10 : k ≠ 10) : ∀ i, siF σ N i k = σ k
  | 0 => by show (if k = 9 then _ else _) = _; rw [if_neg h9]
  | i + 1 => by show shF _ _ _ k = _; rw [shF_k _ _ _ _ h9 h10, siF_k σ N k h9 h10 i]
def spF (σ : Nat → Nat → Int32) (b n : Nat) (c : Int32) (m : Nat) (d : Int32) : Nat → Nat → Nat → Int32
  | 0 => σ
  | i + 1 => shF (spF σ b n c m d i) (b + i) (if b + i = n then c else if b + i = m then d else cl (spF σ b n c m d i 9) (ix (σ 2 (ix (σ 6 (b + i))))) &&& cl (spF σ b n c m d i 9) (ix (σ 3 (ix (σ 6 (b + i))))))
theorem spF_k (σ : Nat → Nat → Int32) (b n : Nat) (c : Int32) (m : Nat) (d : Int32) (k : Nat) (h9 : k ≠ 9) (h10 : k ≠ 10) : ∀ i, spF σ b n c m d i k = σ k
  | 0 => rfl
  | i + 1 => by show shF _ _ _ k = _; rw [shF_k _ _ _ _ h9 h10, spF_k σ b n c m d k h9 h10 i]
theorem sp_n {σ : Nat → Nat → Int32} {b n : Nat} {c : Int32} {m : Nat} {d : Int32} {i : Nat} (e : b + i = n) : spF σ b n c m d (i + 1) = shF (spF σ b n c m d i) (b + i) c := by show shF _ _ _ = _; rw [if_pos e]
theorem sp_m {σ : Nat → Nat → Int32} {b n : Nat} {c : Int32} {m : Nat} {d : Int32} {i : Nat} (e : b + i ≠ n) (e2 : b + i = m) : spF σ b n c m d (i + 1) = shF (spF σ b n c m d i) (b + i) d := by show shF _ _ _ = _; rw [if_neg e, if_pos e2]
theorem sp_o {σ : Nat → Nat → Int32} {b n : Nat} {c : Int32} {m : Nat} {d : Int32} {i : Nat} (e : b + i ≠ n) (e2 : b + i ≠ m) : spF σ b n c m d (i + 1) = shF (spF σ b n c m d i) (b + i) (cl (spF σ b n c m d i 9) (ix (σ 2 (ix (σ 6 (b + i))))) &&& cl (spF σ b n c m d i 9) (ix (σ 3 (ix (σ 6 (b + i)))))) := by show shF _ _ _ = _; rw [if_neg e, if_neg e2]
theorem Ws.sp {σ : Nat → Nat → Int32} {N I O G : Nat} (h : Ws σ N I O G) (b n : Nat) (c : Int32) (m : Nat) (d : Int32) (i : Nat) : Ws (spF σ b n c m d i) N I O G := h.congr (fun k hk => spF_k σ b n c m d k (by omega) (by omega) i)
def agF (σ : Nat → Nat → Int32) (I O G n : Nat) (c : Int32) (m : Nat) (d : Int32) : Int32 := dor (spF σ (1 + I) n c m d O) 9 G ^^^ (-1)
def ptP (σ : Nat → Nat → Int32) (ok0 ok1 : Int32) (a b : Nat) : Prop := ((σ 10 a &&& σ 10 b) &&& (ok1 ^^^ (-1))) ||| (((σ 10 a &&& σ 10 b) ^^^ (-1)) &&& (ok0 ^^^ (-1))) = 0
noncomputable def ptR (σ : Nat → Nat → Int32) (ok0 ok1 : Int32) (n a : Nat) : Option Nat := gfind (fun b => opt (ptP σ ok0 ok1 a b) b) a (2 * n - a)
theorem gfind_lt {P : Nat → Prop} : ∀ (c i b : Nat), gfind (fun b => opt (P b) b) i c = some b → i ≤ b ∧ b < i + c ∧ P b
  | 0, i, b, h => by rw [gfind_0] at h; cases h
  | c + 1, i, b, h => by
    by_cases hp : P i
    · rw [gfind_s (f := fun b => opt (P b) b) (opt_t hp)] at h
      cases h
      exact ⟨Nat.le_refl _, by omega, hp⟩
    · rw [gfind_n (f := fun b => opt (P b) b) (opt_f hp)] at h
      obtain ⟨h1, h2, h3⟩ := gfind_lt c (i + 1) b h
      exact ⟨by omega, by omega, h3⟩
theorem nI_m1 {n : Nat} (h : n < 2 ^ 31) : ¬ nI n = -1 := fun e => nI_pos h (by rw [e]; decide)
theorem oI_n {x : Option Nat} (hx : ∀ b, x = some b → b < 2 ^ 31) (h : oI x = -1) : x = none := by
  cases x with
  | none => rfl
  | some b => exact absurd h (nI_m1 (hx b rfl))
theorem oI_s {x : Option Nat} (h : ¬ oI x = -1) : ∃ b, x = some b := by
  cases x with
  | none => exact absurd rfl h
  | some b => exact ⟨b, rfl⟩
noncomputable def flG (σ : Nat → Nat → Int32) (ok0 ok1 : Int32) (n a : Nat) : Option (Nat × Nat) := @ite _ ((σ 10 a ^^^ (-1)) &&& (ok0 ^^^ (-1)) = 0) (Classical.propDecidable _) ((ptR σ ok0 ok1 n a).map (fun b => (a, b))) none
noncomputable def flR (σ : Nat → Nat → Int32) (ok0 ok1 : Int32) (n : Nat) : Option (Nat × Nat) := @ite _ (ok0 ||| ok1 = -1) (Classical.propDecidable _) (gfind (flG σ ok0 ok1 n) 0 (2 * n)) none
def olit (σ : Nat → Nat → Int32) (n : Nat) : Nat := 2 * ix (σ 6 (n / 2)) + n % 2
def ptF (σ : Nat → Nat → Int32) (n j a b : Nat) : Nat → Nat → Int32 := up (up (up σ 17 j (σ 6 n)) 18 j (nI (olit σ a))) 19 j (nI (olit σ b))
def flF (σ : Nat → Nat → Int32) (n j : Nat) : Option (Nat × Nat) → Nat → Nat → Int32
  | none => σ
  | some ab => ptF σ n j ab.1 ab.2
theorem ptF_k (σ : Nat → Nat → Int32) (n j a b k : Nat) (h7 : k ≠ 17) (h8 : k ≠ 18) (h9 : k ≠ 19) : ptF σ n j a b k = σ k := by
  show (if k = 19 then _ else if k = 18 then _ else if k = 17 then _ else _) = _
  rw [if_neg h9, if_neg h8, if_neg h7]
set_option maxHeartbeats 4000000 in
set_option maxRecDepth 100000 in
theorem c_X5_show (l : Launch) (g : va_G) (y : Nat → ClassId) (ad : Nat → Nat) (σ : Nat → Nat → Int32) {n : Nat} (hn : n < 14) (hw : okL (σ 6 n) 38) (c : Int32) : w_C l g y yX5_show cX5_show 3 none 0 [.ref (ad 4), .int (nI n), .int c] (cw ad y σ) none (cw ad y (shF σ n c)) := by
  refine w_ofV (lv0 := [(0, .ref (ad 4)), (1, .int (nI n)), (2, .int c)]) (by decide +kernel) (Nat.le_of_ble_eq_true rfl) rfl ?_
  intro Z hZ hret
  have hcn := nI_clamp (n := n) (by omega)
  have hc2 := nI_clamp (n := 2 * n) (by omega)
  have hc21 := nI_clamp (n := 2 * n + 1) (by omega)
  refine r_aload_n 1 hZ 0 dX5_show_0 rfl rfl rfl ?_
  refine g_X5_26 4 hZ dX5_show_1 rfl ?_
  refine r_aload_n 5 hZ 0 dX5_show_4 rfl rfl rfl ?_
  refine g_X5_9 8 hZ dX5_show_5 rfl ?_
  refine g_X5_68 11 hZ dX5_show_8 rfl ?_
  refine r_iload_n 12 hZ 1 dX5_show_11 rfl rfl rfl ?_
  refine a_c6 13 hZ (by first | assumption | exact vp_in_nI (by omega) (by decide) | (unfold vp_in; decide)) dX5_show_12 rfl ?_
  rw [hcn]
  refine r_iload_n 14 hZ 2 dX5_show_13 rfl rfl rfl ?_
  refine s_c9 15 hZ (okL_in hw (by decide)) dX5_show_14 rfl ?_
  refine r_aload_n 16 hZ 0 dX5_show_15 rfl rfl rfl ?_
  refine g_X5_30 19 hZ dX5_show_16 rfl ?_
  refine r_iconst (v := 2) 20 hZ dX5_show_19 rfl (by decide) ?_
  refine r_iload_n 21 hZ 1 dX5_show_20 rfl rfl rfl ?_
  refine r_imul 22 hZ dX5_show_21 rfl ?_
  rw [nI_2]
  refine r_iload_n 23 hZ 2 dX5_show_22 rfl rfl rfl ?_
  refine s_c10 24 hZ (by first | assumption | exact vp_in_nI (by omega) (by decide) | (unfold vp_in; decide)) dX5_show_23 rfl ?_
  rw [hc2]
  refine r_aload_n 25 hZ 0 dX5_show_24 rfl rfl rfl ?_
  refine g_X5_30 28 hZ dX5_show_25 rfl ?_
  refine r_iconst (v := 2) 29 hZ dX5_show_28 rfl (by decide) ?_
  refine r_iload_n 30 hZ 1 dX5_show_29 rfl rfl rfl ?_
  refine r_imul 31 hZ dX5_show_30 rfl ?_
  rw [nI_2]
  refine r_iconst (v := 1) 32 hZ dX5_show_31 rfl (by decide) ?_
  refine r_iadd 33 hZ dX5_show_32 rfl ?_
  rw [nI_1]
  refine r_iload_n 34 hZ 2 dX5_show_33 rfl rfl rfl ?_
  refine r_iconst (v := (-1)) 35 hZ dX5_show_34 rfl (by decide) ?_
  refine r_ixor 36 hZ dX5_show_35 rfl ?_
  refine s_c10 37 hZ (by first | assumption | exact vp_in_nI (by omega) (by decide) | (unfold vp_in; decide)) dX5_show_36 rfl ?_
  rw [hc21]
  exact hret _ _ _ dX5_show_37 rfl
set_option maxHeartbeats 4000000 in
set_option maxRecDepth 100000 in
theorem c_X5_showAsItIs (l : Launch) (g : va_G) (y : Nat → ClassId) (ad : Nat → Nat) (σ : Nat → Nat → Int32) {N I O G : Nat} (hs : Ws σ N I O G) : w_C l g y yX5_showAsItIs cX5_showAsItIs 2 none 1 [.ref (ad 4)] (cw ad y σ) none (cw ad y (siF σ N (1 + I + O))) := by
  refine w_ofV (lv0 := [(0, .ref (ad 4))]) (by decide +kernel) (Nat.le_of_ble_eq_true rfl) rfl ?_
  intro Z hZ hret
  obtain ⟨hN, hI, hO, hG, h38, h14, h4, hw, hl, hm, hd⟩ := hs
  refine r_aload_n 1 hZ 0 dX5_showAsItIs_0 rfl rfl rfl ?_
  refine g_X5_9 4 hZ dX5_showAsItIs_1 rfl ?_
  refine g_X5_49 7 hZ dX5_showAsItIs_4 rfl ?_
  refine r_iconst (v := 0) 8 hZ dX5_showAsItIs_7 rfl (by decide) ?_
  refine r_aload_n 9 hZ 0 dX5_showAsItIs_8 rfl rfl rfl ?_
  refine g_X5_26 12 hZ dX5_showAsItIs_9 rfl ?_
  refine r_iconst (v := 0) 13 hZ dX5_showAsItIs_12 rfl (by decide) ?_
  refine r_aload_n 14 hZ 0 dX5_showAsItIs_13 rfl rfl rfl ?_
  refine g_X5_9 17 hZ dX5_showAsItIs_14 rfl ?_
  refine g_X5_54 20 hZ dX5_showAsItIs_17 rfl ?_
  refine w_eqI (hN) ?_
  refine r_copyC 23 hZ wL_copy (by omega) (by decide) (by decide) dX5_showAsItIs_20 rfl ?_
  refine r_iconst (v := 0) 24 hZ dX5_showAsItIs_23 rfl (by decide) ?_
  refine r_istnN 25 [(0, _), (1, _)] hZ dX5_showAsItIs_24 rfl rfl (by decide) rfl rfl ?_
  have lp_25 : ∀ (n : Nat) (i : Nat), i ≤ 1 + I + O → 1 + I + O + 1 ≤ i + n → Z 0 0 (cw ad y (siF σ N i)) 25 [(0, .ref (ad 4)), (1, .int (nI i))] [] := by
    intro n
    induction n with
    | zero => intro i h1 hn_25; exact absurd hn_25 (by omega)
    | succ n ih_25 =>
      intro i h1 hn_25
      refine r_iload_n 26 hZ 1 dX5_showAsItIs_25 rfl rfl rfl ?_
      refine r_aload_n 27 hZ 0 dX5_showAsItIs_26 rfl rfl rfl ?_
      refine g_X5_9 30 hZ dX5_showAsItIs_27 rfl ?_
      refine r_callVI (c_X3_owned l g y ad _ (I := I) (O := O) ((congrFun (siF_k σ N 0 (by decide) (by decide) i) 2).trans hI) ((congrFun (siF_k σ N 0 (by decide) (by decide) i) 3).trans hO)) wM_X3_owned wL_X5_64 hZ rfl ⟨by decide, by decide⟩ 1 3 rfl rfl rfl rfl dX5_showAsItIs_30 ?_
      refine r_icmp_ge 64 36 hZ dX5_showAsItIs_33 (by decide) rfl (fun c_33 => ?_) (fun c_33 => ?_)
      · skip
        have hi := nI_leq (by omega) (by omega) c_33
        have hi : i = 1 + I + O := by omega
        subst hi
        exact hret _ _ _ dX5_showAsItIs_64 rfl
      · skip
        have hi := nI_nleq (by omega) (by omega) c_33
        have hci := nI_clamp (n := i) (by omega)
        have e6 := congrFun (siF_k σ N 6 (by decide) (by decide) i) i
        have e4 := congrFun (siF_k σ N 4 (by decide) (by decide) i) (ix (σ 6 i))
        have k1 := hw i (by omega)
        refine r_aload_n 37 hZ 0 dX5_showAsItIs_36 rfl rfl rfl ?_
        refine r_iload_n 38 hZ 1 dX5_showAsItIs_37 rfl rfl rfl ?_
        refine r_aload_n 39 hZ 0 dX5_showAsItIs_38 rfl rfl rfl ?_
        refine g_X5_9 42 hZ dX5_showAsItIs_39 rfl ?_
        refine g_X5_49 45 hZ dX5_showAsItIs_42 rfl ?_
        refine r_aload_n 46 hZ 0 dX5_showAsItIs_45 rfl rfl rfl ?_
        refine g_X5_9 49 hZ dX5_showAsItIs_46 rfl ?_
        refine g_X5_68 52 hZ dX5_showAsItIs_49 rfl ?_
        refine r_iload_n 53 hZ 1 dX5_showAsItIs_52 rfl rfl rfl ?_
        refine a_c6 54 hZ (by first | assumption | exact vp_in_nI (by omega) (by decide) | (unfold vp_in; decide)) dX5_showAsItIs_53 rfl ?_
        rw [hci, e6]
        refine a_c4 55 hZ (okL_in k1 (by decide)) dX5_showAsItIs_54 rfl ?_
        rw [e4]
        refine r_callVV (c_X5_show l g y ad _ (n := i) (by omega) (by rw [siF_k σ N 6 (by decide) (by decide) i]; exact hw i (by omega)) _) wM_X5_show wL_X5_71 hZ rfl ⟨by decide, by decide⟩ 4 5 rfl rfl rfl rfl dX5_showAsItIs_55 ?_
        refine r_iinc 61 1 1 [(0, _), (1, _)] hZ dX5_showAsItIs_58 rfl rfl (by decide) (by decide) rfl rfl ?_
        refine r_goto 25 hZ dX5_showAsItIs_61 (by decide) ?_
        rw [nI_1]
        exact ih_25 (i + 1) (by omega) (by omega)
  exact lp_25 (1 + I + O + 1) 0 (by omega) (by omega)
set_option maxHeartbeats 4000000 in
set_option maxRecDepth 100000 in
theorem c_X5_setAndSpread (l : Launch) (g : va_G) (y : Nat → ClassId) (ad : Nat → Nat) (σ : Nat → Nat → Int32) {N I O G : Nat} (hs : Ws σ N I O G) {n m : Nat} (hn : n < 14) (hm : m < 14) (c d : Int32) : w_C l g y yX5_setAndSpread cX5_setAndSpread 7 none 1 [.ref (ad 4), .int (nI n), .int c, .int (nI m), .int d] (cw ad y σ) none (cw ad y (spF σ (1 + I) n c m d O)) := by
  refine w_ofV (lv0 := [(0, .ref (ad 4)), (1, .int (nI n)), (2, .int c), (3, .int (nI m)), (4, .int d)]) (by decide +kernel) (Nat.le_of_ble_eq_true rfl) rfl ?_
  intro Z hZ hret
  obtain ⟨hN, hI, hO, hG, h38, h14, h4, hw, hl, hgm, hgd⟩ := hs
  refine r_aload_n 1 hZ 0 dX5_setAndSpread_0 rfl rfl rfl ?_
  refine g_X5_9 4 hZ dX5_setAndSpread_1 rfl ?_
  refine r_callVI (c_X3_firstOld l g y ad _ hI) wM_X3_firstOld wL_X5_75 hZ rfl ⟨by decide, by decide⟩ 1 3 rfl rfl rfl rfl dX5_setAndSpread_4 ?_
  refine r_istN (q := 0) 9 [(0, _), (1, _), (2, _), (3, _), (4, _), (5, _)] hZ dX5_setAndSpread_7 rfl (by decide) rfl rfl ?_
  have lp_9 : ∀ (q : Nat) (i : Nat), i ≤ O → O + 1 ≤ i + q → Z 0 0 (cw ad y (spF σ (1 + I) n c m d i)) 9 [(0, .ref (ad 4)), (1, .int (nI n)), (2, .int c), (3, .int (nI m)), (4, .int d), (5, .int (nI (1 + I + i)))] [] := by
    intro q
    induction q with
    | zero => intro i h1 hn_9; exact absurd hn_9 (by omega)
    | succ q ih_9 =>
      intro i h1 hn_9
      refine r_iload 11 hZ 5 dX5_setAndSpread_9 rfl rfl ?_
      refine r_aload_n 12 hZ 0 dX5_setAndSpread_11 rfl rfl rfl ?_
      refine g_X5_9 15 hZ dX5_setAndSpread_12 rfl ?_
      refine r_callVI (c_X3_owned l g y ad _ (I := I) (O := O) ((congrFun (spF_k σ (1 + I) n c m d 0 (by decide) (by decide) i) 2).trans hI) ((congrFun (spF_k σ (1 + I) n c m d 0 (by decide) (by decide) i) 3).trans hO)) wM_X3_owned wL_X5_64 hZ rfl ⟨by decide, by decide⟩ 1 3 rfl rfl rfl rfl dX5_setAndSpread_15 ?_
      refine r_icmp_ge 113 21 hZ dX5_setAndSpread_18 (by decide) rfl (fun c_18 => ?_) (fun c_18 => ?_)
      · skip
        have hi := nI_leq (by omega) (by omega) c_18
        have hi : i = O := by omega
        subst hi
        exact hret _ _ _ dX5_setAndSpread_113 rfl
      · skip
        have hi := nI_nleq (by omega) (by omega) c_18
        obtain ⟨k1, k2, k3⟩ := hl (1 + I + i) (by omega) (by omega)
        have hci := nI_clamp (n := 1 + I + i) (by omega)
        have e6 := congrFun (spF_k σ (1 + I) n c m d 6 (by decide) (by decide) i) (1 + I + i)
        have f2 := congrFun (spF_k σ (1 + I) n c m d 2 (by decide) (by decide) i) (ix (σ 6 (1 + I + i)))
        have f3 := congrFun (spF_k σ (1 + I) n c m d 3 (by decide) (by decide) i) (ix (σ 6 (1 + I + i)))
        refine r_iload 23 hZ 5 dX5_setAndSpread_21 rfl rfl ?_
        refine r_iload_n 24 hZ 1 dX5_setAndSpread_23 rfl rfl rfl ?_
        refine r_icmp_ne 37 27 hZ dX5_setAndSpread_24 (by decide) rfl (fun c_24 => ?_) (fun c_24 => ?_)
        · skip
          have e1 : 1 + I + i ≠ n := nI_neqq (by omega) (by omega) c_24
          refine r_iload 39 hZ 5 dX5_setAndSpread_37 rfl rfl ?_
          refine r_iload_n 40 hZ 3 dX5_setAndSpread_39 rfl rfl rfl ?_
          refine r_icmp_ne 54 43 hZ dX5_setAndSpread_40 (by decide) rfl (fun c_40 => ?_) (fun c_40 => ?_)
          · skip
            have e2 : 1 + I + i ≠ m := nI_neqq (by omega) (by omega) c_40
            refine r_aload_n 55 hZ 0 dX5_setAndSpread_54 rfl rfl rfl ?_
            refine g_X5_9 58 hZ dX5_setAndSpread_55 rfl ?_
            refine g_X5_68 61 hZ dX5_setAndSpread_58 rfl ?_
            refine r_iload 63 hZ 5 dX5_setAndSpread_61 rfl rfl ?_
            refine a_c6 64 hZ (by first | assumption | exact vp_in_nI (by omega) (by decide) | (unfold vp_in; decide)) dX5_setAndSpread_63 rfl ?_
            rw [hci, e6]
            refine r_istN (q := 0) 66 [(0, _), (1, _), (2, _), (3, _), (4, _), (5, _), (6, _)] hZ dX5_setAndSpread_64 rfl (by decide) rfl rfl ?_
            refine r_aload_n 67 hZ 0 dX5_setAndSpread_66 rfl rfl rfl ?_
            refine r_iload 69 hZ 5 dX5_setAndSpread_67 rfl rfl ?_
            refine r_aload_n 70 hZ 0 dX5_setAndSpread_69 rfl rfl rfl ?_
            refine g_X5_26 73 hZ dX5_setAndSpread_70 rfl ?_
            refine r_aload_n 74 hZ 0 dX5_setAndSpread_73 rfl rfl rfl ?_
            refine g_X5_9 77 hZ dX5_setAndSpread_74 rfl ?_
            refine g_X5_109 80 hZ dX5_setAndSpread_77 rfl ?_
            refine r_iload 82 hZ 6 dX5_setAndSpread_80 rfl rfl ?_
            refine a_c2 83 hZ (okL_in k1 (by decide)) dX5_setAndSpread_82 rfl ?_
            refine w_eqI (f2) ?_
            refine r_callSNI (c_X7_column_9 l g y ad _ k2) wM_X7_column w_nw_X5_112 hZ rfl ⟨by decide, by decide⟩ rfl rfl dX5_setAndSpread_83 ?_
            refine r_aload_n 87 hZ 0 dX5_setAndSpread_86 rfl rfl rfl ?_
            refine g_X5_26 90 hZ dX5_setAndSpread_87 rfl ?_
            refine r_aload_n 91 hZ 0 dX5_setAndSpread_90 rfl rfl rfl ?_
            refine g_X5_9 94 hZ dX5_setAndSpread_91 rfl ?_
            refine g_X5_116 97 hZ dX5_setAndSpread_94 rfl ?_
            refine r_iload 99 hZ 6 dX5_setAndSpread_97 rfl rfl ?_
            refine a_c3 100 hZ (okL_in k1 (by decide)) dX5_setAndSpread_99 rfl ?_
            refine w_eqI (f3) ?_
            refine r_callSNI (c_X7_column_9 l g y ad _ k3) wM_X7_column w_nw_X5_112 hZ rfl ⟨by decide, by decide⟩ rfl rfl dX5_setAndSpread_100 ?_
            refine r_iand 104 hZ dX5_setAndSpread_103 rfl ?_
            refine r_callVV (c_X5_show l g y ad _ (n := 1 + I + i) (by omega) (by rw [spF_k σ (1 + I) n c m d 6 (by decide) (by decide) i]; exact hw (1 + I + i) (by omega)) _) wM_X5_show wL_X5_71 hZ rfl ⟨by decide, by decide⟩ 4 5 rfl rfl rfl rfl dX5_setAndSpread_104 ?_
            first | rw [← sp_n e1] | rw [← sp_m e1 e2] | rw [← sp_o e1 e2]
            refine r_iinc 110 5 1 [(0, _), (1, _), (2, _), (3, _), (4, _), (5, _), (6, _)] hZ dX5_setAndSpread_107 rfl rfl (by decide) (by decide) rfl rfl ?_
            refine r_goto 9 hZ dX5_setAndSpread_110 (by decide) ?_
            rw [nI_1]
            first | exact ih_9 (i + 1) (by omega) (by omega) | exact w_take 6 hZ (ih_9 (i + 1) (by omega) (by omega))
          · skip
            have e2 : 1 + I + i = m := nI_eqq (by omega) (by omega) c_40
            refine r_aload_n 44 hZ 0 dX5_setAndSpread_43 rfl rfl rfl ?_
            refine r_iload 46 hZ 5 dX5_setAndSpread_44 rfl rfl ?_
            refine r_iload 48 hZ 4 dX5_setAndSpread_46 rfl rfl ?_
            refine r_callVV (c_X5_show l g y ad _ (n := 1 + I + i) (by omega) (by rw [spF_k σ (1 + I) n c m d 6 (by decide) (by decide) i]; exact hw (1 + I + i) (by omega)) _) wM_X5_show wL_X5_71 hZ rfl ⟨by decide, by decide⟩ 4 5 rfl rfl rfl rfl dX5_setAndSpread_48 ?_
            refine r_goto 107 hZ dX5_setAndSpread_51 (by decide) ?_
            first | rw [← sp_n e1] | rw [← sp_m e1 e2] | rw [← sp_o e1 e2]
            refine r_iinc 110 5 1 [(0, _), (1, _), (2, _), (3, _), (4, _), (5, _)] hZ dX5_setAndSpread_107 rfl rfl (by decide) (by decide) rfl rfl ?_
            refine r_goto 9 hZ dX5_setAndSpread_110 (by decide) ?_
            rw [nI_1]
            first | exact ih_9 (i + 1) (by omega) (by omega) | exact w_take 6 hZ (ih_9 (i + 1) (by omega) (by omega))
        · skip
          have e1 : 1 + I + i = n := nI_eqq (by omega) (by omega) c_24
          refine r_aload_n 28 hZ 0 dX5_setAndSpread_27 rfl rfl rfl ?_
          refine r_iload 30 hZ 5 dX5_setAndSpread_28 rfl rfl ?_
          refine r_iload_n 31 hZ 2 dX5_setAndSpread_30 rfl rfl rfl ?_
          refine r_callVV (c_X5_show l g y ad _ (n := 1 + I + i) (by omega) (by rw [spF_k σ (1 + I) n c m d 6 (by decide) (by decide) i]; exact hw (1 + I + i) (by omega)) _) wM_X5_show wL_X5_71 hZ rfl ⟨by decide, by decide⟩ 4 5 rfl rfl rfl rfl dX5_setAndSpread_31 ?_
          refine r_goto 107 hZ dX5_setAndSpread_34 (by decide) ?_
          first | rw [← sp_n e1] | rw [← sp_m e1 e2] | rw [← sp_o e1 e2]
          refine r_iinc 110 5 1 [(0, _), (1, _), (2, _), (3, _), (4, _), (5, _)] hZ dX5_setAndSpread_107 rfl rfl (by decide) (by decide) rfl rfl ?_
          refine r_goto 9 hZ dX5_setAndSpread_110 (by decide) ?_
          rw [nI_1]
          first | exact ih_9 (i + 1) (by omega) (by omega) | exact w_take 6 hZ (ih_9 (i + 1) (by omega) (by omega))
  exact lp_9 (O + 1) 0 (by omega) (by omega)
set_option maxHeartbeats 4000000 in
set_option maxRecDepth 100000 in
theorem c_X5_agreementWith (l : Launch) (g : va_G) (y : Nat → ClassId) (ad : Nat → Nat) (σ : Nat → Nat → Int32) {N I O G : Nat} (hs : Ws σ N I O G) {n m : Nat} (hn : n < 14) (hm : m < 14) (c d : Int32) : w_C l g y yX5_agreementWith cX5_agreementWith 5 (some .int) 3 [.ref (ad 4), .int (nI n), .int c, .int (nI m), .int d] (cw ad y σ) (some (.int (agF σ I O G n c m d))) (cw ad y (spF σ (1 + I) n c m d O)) := by
  refine w_ofI (lv0 := [(0, .ref (ad 4)), (1, .int (nI n)), (2, .int c), (3, .int (nI m)), (4, .int d)]) (by decide +kernel) (Nat.le_of_ble_eq_true rfl) rfl (rfl) ?_
  intro Z hZ hret
  obtain ⟨hN, hI, hO, hG, h38, h14, h4, hw, hl, hgm, hgd⟩ := hs.sp (1 + I) n c m d O
  refine r_aload_n 1 hZ 0 dX5_agreementWith_0 rfl rfl rfl ?_
  refine r_iload_n 2 hZ 1 dX5_agreementWith_1 rfl rfl rfl ?_
  refine r_iload_n 3 hZ 2 dX5_agreementWith_2 rfl rfl rfl ?_
  refine r_iload_n 4 hZ 3 dX5_agreementWith_3 rfl rfl rfl ?_
  refine r_iload 6 hZ 4 dX5_agreementWith_4 rfl rfl ?_
  refine r_callVV (c_X5_setAndSpread l g y ad _ hs hn hm c d) wM_X5_setAndSpread wL_X5_94 hZ rfl ⟨by decide, by decide⟩ 4 5 rfl rfl rfl rfl dX5_agreementWith_6 ?_
  refine r_aload_n 10 hZ 0 dX5_agreementWith_9 rfl rfl rfl ?_
  refine g_X5_15 13 hZ dX5_agreementWith_10 rfl ?_
  refine r_aload_n 14 hZ 0 dX5_agreementWith_13 rfl rfl rfl ?_
  refine g_X5_26 17 hZ dX5_agreementWith_14 rfl ?_
  refine r_callVI (c_X2_agreement l g y ad _ hG h4 hgm hgd) wM_X2_agreement wL_X5_36 hZ rfl ⟨by decide, by decide⟩ 2 2 rfl rfl rfl rfl dX5_agreementWith_17 ?_
  exact hret _ _ _ _ dX5_agreementWith_20 rfl rfl
set_option maxHeartbeats 4000000 in
set_option maxRecDepth 100000 in
theorem c_X5_findPartner (l : Launch) (g : va_G) (y : Nat → ClassId) (ad : Nat → Nat) (σ : Nat → Nat → Int32) {n a : Nat} (hn : n < 14) (ha : a ≤ 2 * n) (ok0 ok1 : Int32) : w_C l g y yX5_findPartner cX5_findPartner 7 (some .int) 0 [.ref (ad 4), .int (nI n), .int (nI a), .int ok0, .int ok1] (cw ad y σ) (some (.int (oI (ptR σ ok0 ok1 n a)))) (cw ad y σ) := by
  refine w_ofI (lv0 := [(0, .ref (ad 4)), (1, .int (nI n)), (2, .int (nI a)), (3, .int ok0), (4, .int ok1)]) (by decide +kernel) (Nat.le_of_ble_eq_true rfl) rfl (rfl) ?_
  intro Z hZ hret
  have hca := nI_clamp (n := a) (by omega)
  unfold ptR at hret
  generalize hF : (fun b => opt (ptP σ ok0 ok1 a b) b) = F at hret
  refine r_iload_n 1 hZ 2 dX5_findPartner_0 rfl rfl rfl ?_
  refine r_istN (q := 0) 3 [(0, _), (1, _), (2, _), (3, _), (4, _), (5, _)] hZ dX5_findPartner_1 rfl (by decide) rfl rfl ?_
  have lp_3 : ∀ (q : Nat) (i : Nat), i ≤ 2 * n → 2 * n + 1 ≤ i + q → a ≤ i → gfind F a (2 * n - a) = gfind F i (2 * n - i) → Z 0 0 (cw ad y σ) 3 [(0, .ref (ad 4)), (1, .int (nI n)), (2, .int (nI a)), (3, .int ok0), (4, .int ok1), (5, .int (nI i))] [] := by
    intro q
    induction q with
    | zero => intro i h1 hn_3 ha3 hg; exact absurd hn_3 (by omega)
    | succ q ih_3 =>
      intro i h1 hn_3 ha3 hg
      refine r_iload 5 hZ 5 dX5_findPartner_3 rfl rfl ?_
      refine r_iconst (v := 2) 6 hZ dX5_findPartner_5 rfl (by decide) ?_
      refine r_iload_n 7 hZ 1 dX5_findPartner_6 rfl rfl rfl ?_
      refine r_imul 8 hZ dX5_findPartner_7 rfl ?_
      rw [nI_2]
      refine r_icmp_ge 55 11 hZ dX5_findPartner_8 (by decide) rfl (fun c_8 => ?_) (fun c_8 => ?_)
      · skip
        have hi := nI_leq (by omega) (by omega) c_8
        have hi : i = 2 * n := by omega
        subst hi
        refine r_iconst (v := (-1)) 56 hZ dX5_findPartner_55 rfl (by decide) ?_
        exact hret _ _ _ _ dX5_findPartner_56 (by rw [hg, show 2 * n - 2 * n = 0 by omega, gfind_0]; rfl) rfl
      · skip
        have hi := nI_nleq (by omega) (by omega) c_8
        have hb : 2 * n - i = (2 * n - (i + 1)) + 1 := by omega
        have hci := nI_clamp (n := i) (by omega)
        refine r_aload_n 12 hZ 0 dX5_findPartner_11 rfl rfl rfl ?_
        refine g_X5_30 15 hZ dX5_findPartner_12 rfl ?_
        refine r_iload_n 16 hZ 2 dX5_findPartner_15 rfl rfl rfl ?_
        refine a_c10 17 hZ (by first | assumption | exact vp_in_nI (by omega) (by decide) | (unfold vp_in; decide)) dX5_findPartner_16 rfl ?_
        rw [hca]
        refine r_aload_n 18 hZ 0 dX5_findPartner_17 rfl rfl rfl ?_
        refine g_X5_30 21 hZ dX5_findPartner_18 rfl ?_
        refine r_iload 23 hZ 5 dX5_findPartner_21 rfl rfl ?_
        refine a_c10 24 hZ (by first | assumption | exact vp_in_nI (by omega) (by decide) | (unfold vp_in; decide)) dX5_findPartner_23 rfl ?_
        rw [hci]
        refine r_iand 25 hZ dX5_findPartner_24 rfl ?_
        refine r_istN (q := 0) 27 [(0, _), (1, _), (2, _), (3, _), (4, _), (5, _), (6, _)] hZ dX5_findPartner_25 rfl (by decide) rfl rfl ?_
        refine r_iload 29 hZ 6 dX5_findPartner_27 rfl rfl ?_
        refine r_iload 31 hZ 4 dX5_findPartner_29 rfl rfl ?_
        refine r_iconst (v := (-1)) 32 hZ dX5_findPartner_31 rfl (by decide) ?_
        refine r_ixor 33 hZ dX5_findPartner_32 rfl ?_
        refine r_iand 34 hZ dX5_findPartner_33 rfl ?_
        refine r_iload 36 hZ 6 dX5_findPartner_34 rfl rfl ?_
        refine r_iconst (v := (-1)) 37 hZ dX5_findPartner_36 rfl (by decide) ?_
        refine r_ixor 38 hZ dX5_findPartner_37 rfl ?_
        refine r_iload_n 39 hZ 3 dX5_findPartner_38 rfl rfl rfl ?_
        refine r_iconst (v := (-1)) 40 hZ dX5_findPartner_39 rfl (by decide) ?_
        refine r_ixor 41 hZ dX5_findPartner_40 rfl ?_
        refine r_iand 42 hZ dX5_findPartner_41 rfl ?_
        refine r_ior 43 hZ dX5_findPartner_42 rfl ?_
        refine r_if_ne 49 46 hZ dX5_findPartner_43 (by decide) rfl (fun c_43 => ?_) (fun c_43 => ?_)
        · skip
          have hF1 : F i = none := by rw [← hF]; exact opt_f c_43
          refine r_iinc 52 5 1 [(0, _), (1, _), (2, _), (3, _), (4, _), (5, _), (6, _)] hZ dX5_findPartner_49 rfl rfl (by decide) (by decide) rfl rfl ?_
          refine r_goto 3 hZ dX5_findPartner_52 (by decide) ?_
          rw [nI_1]
          exact w_take 6 hZ (ih_3 (i + 1) (by omega) (by omega) (by omega) (by rw [hg, hb, gfind_n hF1]))
        · skip
          have hF1 : F i = some i := by rw [← hF]; exact opt_t c_43
          refine r_iload 48 hZ 5 dX5_findPartner_46 rfl rfl ?_
          exact hret _ _ _ _ dX5_findPartner_48 (by rw [hg, hb, gfind_s hF1]; rfl) rfl
  exact lp_3 (2 * n + 1) a (by omega) (by omega) (by omega) rfl
set_option maxHeartbeats 4000000 in
set_option maxRecDepth 100000 in
theorem c_X5_findLiterals (l : Launch) (g : va_G) (y : Nat → ClassId) (ad : Nat → Nat) (σ : Nat → Nat → Int32) {n j : Nat} (hn : n < 14) (hj : j < 42) (hw : ∀ i, i ≤ n → okL (σ 6 i) 38) (ok0 ok1 : Int32) : w_C l g y yX5_findLiterals cX5_findLiterals 7 (some .boolean) 1 [.ref (ad 4), .int (nI n), .int ok0, .int ok1, .ref (ad (25 + j))] (cw ad y σ) (some (.int (bI ((flR σ ok0 ok1 n).isSome = true)))) (cw ad y (flF σ n j (flR σ ok0 ok1 n))) := by
  refine w_ofI (lv0 := [(0, .ref (ad 4)), (1, .int (nI n)), (2, .int ok0), (3, .int ok1), (4, .ref (ad (25 + j)))]) (by decide +kernel) (Nat.le_of_ble_eq_true rfl) rfl (bI_nar _) ?_
  intro Z hZ hret
  have hcn := nI_clamp (n := n) (by omega)
  refine r_iload_n 1 hZ 2 dX5_findLiterals_0 rfl rfl rfl ?_
  refine r_iload_n 2 hZ 3 dX5_findLiterals_1 rfl rfl rfl ?_
  refine r_ior 3 hZ dX5_findLiterals_2 rfl ?_
  refine r_iconst (v := (-1)) 4 hZ dX5_findLiterals_3 rfl (by decide) ?_
  refine r_icmp_eq 9 7 hZ dX5_findLiterals_4 (by decide) rfl (fun c_4 => ?_) (fun c_4 => ?_)
  · skip
    have hR : flR σ ok0 ok1 n = gfind (flG σ ok0 ok1 n) 0 (2 * n) := if_pos c_4
    refine r_iconst (v := 0) 10 hZ dX5_findLiterals_9 rfl (by decide) ?_
    refine r_istN (q := 0) 12 [(0, _), (1, _), (2, _), (3, _), (4, _), (5, _)] hZ dX5_findLiterals_10 rfl (by decide) rfl rfl ?_
    have lp_12 : ∀ (q : Nat) (i : Nat), i ≤ 2 * n → 2 * n + 1 ≤ i + q → gfind (flG σ ok0 ok1 n) 0 (2 * n) = gfind (flG σ ok0 ok1 n) i (2 * n - i) → Z 0 0 (cw ad y σ) 12 [(0, .ref (ad 4)), (1, .int (nI n)), (2, .int ok0), (3, .int ok1), (4, .ref (ad (25 + j))), (5, .int (nI i))] [] := by
      intro q
      induction q with
      | zero => intro i h1 hn_12 hg; exact absurd hn_12 (by omega)
      | succ q ih_12 =>
        intro i h1 hn_12 hg
        refine r_iload 14 hZ 5 dX5_findLiterals_12 rfl rfl ?_
        refine r_iconst (v := 2) 15 hZ dX5_findLiterals_14 rfl (by decide) ?_
        refine r_iload_n 16 hZ 1 dX5_findLiterals_15 rfl rfl rfl ?_
        refine r_imul 17 hZ dX5_findLiterals_16 rfl ?_
        rw [nI_2]
        refine r_icmp_ge 93 20 hZ dX5_findLiterals_17 (by decide) rfl (fun c_17 => ?_) (fun c_17 => ?_)
        · skip
          have hi := nI_leq (by omega) (by omega) c_17
          have hi : i = 2 * n := by omega
          subst hi
          have hR2 : flR σ ok0 ok1 n = none := by rw [hR, hg, show 2 * n - 2 * n = 0 by omega, gfind_0]
          rw [hR2] at hret
          refine r_iconst (v := 0) 94 hZ dX5_findLiterals_93 rfl (by decide) ?_
          exact hret _ _ _ _ dX5_findLiterals_94 (bI_f (by simp)).symm rfl
        · skip
          have hi := nI_nleq (by omega) (by omega) c_17
          have hb : 2 * n - i = (2 * n - (i + 1)) + 1 := by omega
          have hci := nI_clamp (n := i) (by omega)
          refine r_aload_n 21 hZ 0 dX5_findLiterals_20 rfl rfl rfl ?_
          refine g_X5_30 24 hZ dX5_findLiterals_21 rfl ?_
          refine r_iload 26 hZ 5 dX5_findLiterals_24 rfl rfl ?_
          refine a_c10 27 hZ (by first | assumption | exact vp_in_nI (by omega) (by decide) | (unfold vp_in; decide)) dX5_findLiterals_26 rfl ?_
          rw [hci]
          refine r_iconst (v := (-1)) 28 hZ dX5_findLiterals_27 rfl (by decide) ?_
          refine r_ixor 29 hZ dX5_findLiterals_28 rfl ?_
          refine r_iload_n 30 hZ 2 dX5_findLiterals_29 rfl rfl rfl ?_
          refine r_iconst (v := (-1)) 31 hZ dX5_findLiterals_30 rfl (by decide) ?_
          refine r_ixor 32 hZ dX5_findLiterals_31 rfl ?_
          refine r_iand 33 hZ dX5_findLiterals_32 rfl ?_
          refine r_if_ne 87 36 hZ dX5_findLiterals_33 (by decide) rfl (fun c_33 => ?_) (fun c_33 => ?_)
          · skip
            have hF1 : flG σ ok0 ok1 n i = none := if_neg c_33
            refine r_iinc 90 5 1 [(0, _), (1, _), (2, _), (3, _), (4, _), (5, _)] hZ dX5_findLiterals_87 rfl rfl (by decide) (by decide) rfl rfl ?_
            refine r_goto 12 hZ dX5_findLiterals_90 (by decide) ?_
            rw [nI_1]
            first | exact ih_12 (i + 1) (by omega) (by omega) (by rw [hg, hb, gfind_n hF1]) | exact w_take 6 hZ (ih_12 (i + 1) (by omega) (by omega) (by rw [hg, hb, gfind_n hF1]))
          · skip
            refine r_aload_n 37 hZ 0 dX5_findLiterals_36 rfl rfl rfl ?_
            refine r_iload_n 38 hZ 1 dX5_findLiterals_37 rfl rfl rfl ?_
            refine r_iload 40 hZ 5 dX5_findLiterals_38 rfl rfl ?_
            refine r_iload_n 41 hZ 2 dX5_findLiterals_40 rfl rfl rfl ?_
            refine r_iload_n 42 hZ 3 dX5_findLiterals_41 rfl rfl rfl ?_
            refine r_callVI (c_X5_findPartner l g y ad σ (n := n) (a := i) hn (by omega) ok0 ok1) wM_X5_findPartner wL_X5_106 hZ rfl ⟨by decide, by decide⟩ 4 5 rfl rfl rfl rfl dX5_findLiterals_42 ?_
            refine r_istN (q := 0) 47 [(0, _), (1, _), (2, _), (3, _), (4, _), (5, _), (6, _)] hZ dX5_findLiterals_45 rfl (by decide) rfl rfl ?_
            refine r_iload 49 hZ 6 dX5_findLiterals_47 rfl rfl ?_
            refine r_iconst (v := (-1)) 50 hZ dX5_findLiterals_49 rfl (by decide) ?_
            refine r_icmp_eq 87 53 hZ dX5_findLiterals_50 (by decide) rfl (fun c_50 => ?_) (fun c_50 => ?_)
            · skip
              have hp := oI_n (fun b h => by have := gfind_lt _ _ _ h; omega) c_50
              have hF1 : flG σ ok0 ok1 n i = none := (if_pos c_33).trans (by rw [hp]; rfl)
              refine r_iinc 90 5 1 [(0, _), (1, _), (2, _), (3, _), (4, _), (5, _), (6, _)] hZ dX5_findLiterals_87 rfl rfl (by decide) (by decide) rfl rfl ?_
              refine r_goto 12 hZ dX5_findLiterals_90 (by decide) ?_
              rw [nI_1]
              first | exact ih_12 (i + 1) (by omega) (by omega) (by rw [hg, hb, gfind_n hF1]) | exact w_take 6 hZ (ih_12 (i + 1) (by omega) (by omega) (by rw [hg, hb, gfind_n hF1]))
            · skip
              obtain ⟨b, hp⟩ := oI_s c_50
              have hbl := gfind_lt _ _ _ hp
              have hR2 : flR σ ok0 ok1 n = some (i, b) := by rw [hR, hg, hb, gfind_s ((if_pos c_33).trans (by rw [hp]; rfl))]
              rw [hR2] at hret
              rw [hp]
              have ki := hw (i / 2) (by omega)
              have kb := hw (b / 2) (by omega)
              refine r_aload 55 hZ 4 dX5_findLiterals_53 rfl rfl ?_
              refine r_aload_n 56 hZ 0 dX5_findLiterals_55 rfl rfl rfl ?_
              refine g_X5_9 59 hZ dX5_findLiterals_56 rfl ?_
              refine g_X5_68 62 hZ dX5_findLiterals_59 rfl ?_
              refine r_iload_n 63 hZ 1 dX5_findLiterals_62 rfl rfl rfl ?_
              refine a_c6 64 hZ (by first | assumption | exact vp_in_nI (by omega) (by decide) | (unfold vp_in; decide)) dX5_findLiterals_63 rfl ?_
              rw [hcn]
              refine r_aload_n 65 hZ 0 dX5_findLiterals_64 rfl rfl rfl ?_
              refine g_X5_9 68 hZ dX5_findLiterals_65 rfl ?_
              refine r_iload 70 hZ 5 dX5_findLiterals_68 rfl rfl ?_
              refine r_callVI (c_X3_ownLiteral l g y ad σ (n := i) (by omega) ki) wM_X3_ownLiteral wL_X5_98 hZ rfl ⟨by decide, by decide⟩ 1 3 rfl rfl rfl rfl dX5_findLiterals_70 ?_
              refine r_aload_n 74 hZ 0 dX5_findLiterals_73 rfl rfl rfl ?_
              refine g_X5_9 77 hZ dX5_findLiterals_74 rfl ?_
              refine r_iload 79 hZ 6 dX5_findLiterals_77 rfl rfl ?_
              change Z 0 0 (cw ad y σ) 79 _ (.int (nI b) :: _)
              refine r_callVI (c_X3_ownLiteral l g y ad σ (n := b) (by omega) kb) wM_X3_ownLiteral wL_X5_98 hZ rfl ⟨by decide, by decide⟩ 1 3 rfl rfl rfl rfl dX5_findLiterals_79 ?_
              refine r_callVV (c_X1_put l g y ad σ hj _ _ _) wM_X1_put wL_X5_102 hZ rfl ⟨by decide, by decide⟩ _ 1 (cw_E (by first | assumption | omega)) rfl rfl rfl dX5_findLiterals_82 ?_
              refine r_iconst (v := 1) 86 hZ dX5_findLiterals_85 rfl (by decide) ?_
              exact hret _ _ _ _ dX5_findLiterals_86 (bI_t rfl).symm rfl
    exact lp_12 (2 * n + 1) 0 (by omega) (by omega) rfl
  · skip
    have hR : flR σ ok0 ok1 n = none := if_neg c_4
    rw [hR] at hret
    refine r_iconst (v := 0) 8 hZ dX5_findLiterals_7 rfl (by decide) ?_
    exact hret _ _ _ _ dX5_findLiterals_8 (bI_f (by simp)).symm rfl
end
section
theorem flF_k (σ : Nat → Nat → Int32) (n j : Nat) (x : Option (Nat × Nat)) (k : Nat) (h7 : k ≠ 17) (h8 : k ≠ 18) (h9 : k ≠ 19) : flF σ n j x k = σ k := by
  cases x with
  | none => rfl
  | some ab => exact ptF_k σ n j ab.1 ab.2 k h7 h8 h9
abbrev stT : Type := Nat → Nat → Int32
/-- findOne: own places from 1 + I + i on, c of them: whether an edit was found, and the store -/
noncomputable def f1R (I O G : Nat) : Nat → Nat → stT → Bool × stT
  | _, 0, s => (false, s)
  | i, c + 1, s => @ite _ (s 5 (ix (s 6 (1 + I + i))) = 0) (Classical.propDecidable _)
      (let n := 1 + I + i
       let s1 := spF s (1 + I) n 0 n 0 O
       let s2 := spF s1 (1 + I) n (-1) n (-1) O
       let r := flR s2 (agF s I O G n 0 n 0) (agF s1 I O G n (-1) n (-1)) n
       if r.isSome = true then (true, flF s2 n 0 r) else f1R I O G (i + 1) c s2)
      (f1R I O G (i + 1) c s)
theorem f1R_k {I O G i c : Nat} {s : stT} (h : ¬ s 5 (ix (s 6 (1 + I + i))) = 0) : f1R I O G i (c + 1) s = f1R I O G (i + 1) c s := if_neg h
theorem f1R_f {I O G i c : Nat} {s : stT} (h : s 5 (ix (s 6 (1 + I + i))) = 0) (hr : ¬ (flR (spF (spF s (1 + I) (1 + I + i) 0 (1 + I + i) 0 O) (1 + I) (1 + I + i) (-1) (1 + I + i) (-1) O) (agF s I O G (1 + I + i) 0 (1 + I + i) 0) (agF (spF s (1 + I) (1 + I + i) 0 (1 + I + i) 0 O) I O G (1 + I + i) (-1) (1 + I + i) (-1)) (1 + I + i)).isSome = true) : f1R I O G i (c + 1) s = f1R I O G (i + 1) c (spF (spF s (1 + I) (1 + I + i) 0 (1 + I + i) 0 O) (1 + I) (1 + I + i) (-1) (1 + I + i) (-1) O) := (if_pos h).trans (if_neg hr)
theorem f1R_t {I O G i c : Nat} {s : stT} (h : s 5 (ix (s 6 (1 + I + i))) = 0) (hr : (flR (spF (spF s (1 + I) (1 + I + i) 0 (1 + I + i) 0 O) (1 + I) (1 + I + i) (-1) (1 + I + i) (-1) O) (agF s I O G (1 + I + i) 0 (1 + I + i) 0) (agF (spF s (1 + I) (1 + I + i) 0 (1 + I + i) 0 O) I O G (1 + I + i) (-1) (1 + I + i) (-1)) (1 + I + i)).isSome = true) : f1R I O G i (c + 1) s = (true, flF (spF (spF s (1 + I) (1 + I + i) 0 (1 + I + i) 0 O) (1 + I) (1 + I + i) (-1) (1 + I + i) (-1) O) (1 + I + i) 0 (flR (spF (spF s (1 + I) (1 + I + i) 0 (1 + I + i) 0 O) (1 + I) (1 + I + i) (-1) (1 + I + i) (-1) O) (agF s I O G (1 + I + i) 0 (1 + I + i) 0) (agF (spF s (1 + I) (1 + I + i) 0 (1 + I + i) 0 O) I O G (1 + I + i) (-1) (1 + I + i) (-1)) (1 + I + i))) := (if_pos h).trans (if_pos hr)
/-- findPair's inner loop, its outer loop -/
def mix (set p q : Int32) : Int32 := (set &&& p) ||| ((set ^^^ (-1)) &&& q)
noncomputable def fpI (I O n m : Nat) (o00 o01 o10 o11 : Int32) (a : Nat) : Nat → Nat → stT → Bool × stT
  | _, 0, s => (false, s)
  | b, c + 1, s => @ite _ (mix (s 10 a &&& s 10 b) o10 o00 ||| mix (s 10 a &&& s 10 b) o11 o01 = -1) (Classical.propDecidable _)
      (let s1 := spF s (1 + I) n (s 10 a &&& s 10 b) n (s 10 a &&& s 10 b) O
       let r := flR s1 (mix (s 10 a &&& s 10 b) o10 o00) (mix (s 10 a &&& s 10 b) o11 o01) m
       if r.isSome = true then (true, ptF (flF s1 m 1 r) n 0 a b) else fpI I O n m o00 o01 o10 o11 a (b + 1) c (flF s1 m 1 r))
      (fpI I O n m o00 o01 o10 o11 a (b + 1) c s)
theorem fpI_k {I O n m : Nat} {o00 o01 o10 o11 : Int32} {a b c : Nat} {s : stT} (h : ¬ mix (s 10 a &&& s 10 b) o10 o00 ||| mix (s 10 a &&& s 10 b) o11 o01 = -1) : fpI I O n m o00 o01 o10 o11 a b (c + 1) s = fpI I O n m o00 o01 o10 o11 a (b + 1) c s := if_neg h
theorem fpI_f {I O n m : Nat} {o00 o01 o10 o11 : Int32} {a b c : Nat} {s : stT} (h : mix (s 10 a &&& s 10 b) o10 o00 ||| mix (s 10 a &&& s 10 b) o11 o01 = -1) (hr : ¬ (flR (spF s (1 + I) n (s 10 a &&& s 10 b) n (s 10 a &&& s 10 b) O) (mix (s 10 a &&& s 10 b) o10 o00) (mix (s 10 a &&& s 10 b) o11 o01) m).isSome = true) : fpI I O n m o00 o01 o10 o11 a b (c + 1) s = fpI I O n m o00 o01 o10 o11 a (b + 1) c (flF (spF s (1 + I) n (s 10 a &&& s 10 b) n (s 10 a &&& s 10 b) O) m 1 (flR (spF s (1 + I) n (s 10 a &&& s 10 b) n (s 10 a &&& s 10 b) O) (mix (s 10 a &&& s 10 b) o10 o00) (mix (s 10 a &&& s 10 b) o11 o01) m)) := (if_pos h).trans (if_neg hr)
theorem fpI_t {I O n m : Nat} {o00 o01 o10 o11 : Int32} {a b c : Nat} {s : stT} (h : mix (s 10 a &&& s 10 b) o10 o00 ||| mix (s 10 a &&& s 10 b) o11 o01 = -1) (hr : (flR (spF s (1 + I) n (s 10 a &&& s 10 b) n (s 10 a &&& s 10 b) O) (mix (s 10 a &&& s 10 b) o10 o00) (mix (s 10 a &&& s 10 b) o11 o01) m).isSome = true) : fpI I O n m o00 o01 o10 o11 a b (c + 1) s = (true, ptF (flF (spF s (1 + I) n (s 10 a &&& s 10 b) n (s 10 a &&& s 10 b) O) m 1 (flR (spF s (1 + I) n (s 10 a &&& s 10 b) n (s 10 a &&& s 10 b) O) (mix (s 10 a &&& s 10 b) o10 o00) (mix (s 10 a &&& s 10 b) o11 o01) m)) n 0 a b) := (if_pos h).trans (if_pos hr)
noncomputable def fpO (I O n m : Nat) (o00 o01 o10 o11 : Int32) : Nat → Nat → stT → Bool × stT
  | _, 0, s => (false, s)
  | a, c + 1, s => @ite _ ((fpI I O n m o00 o01 o10 o11 a a (2 * n - a) s).1 = true) (Classical.propDecidable _) (fpI I O n m o00 o01 o10 o11 a a (2 * n - a) s) (fpO I O n m o00 o01 o10 o11 (a + 1) c (fpI I O n m o00 o01 o10 o11 a a (2 * n - a) s).2)
theorem fpO_t {I O n m : Nat} {o00 o01 o10 o11 : Int32} {a c : Nat} {s : stT} (h : (fpI I O n m o00 o01 o10 o11 a a (2 * n - a) s).1 = true) : fpO I O n m o00 o01 o10 o11 a (c + 1) s = fpI I O n m o00 o01 o10 o11 a a (2 * n - a) s := if_pos h
theorem fpO_f {I O n m : Nat} {o00 o01 o10 o11 : Int32} {a c : Nat} {s : stT} (h : ¬ (fpI I O n m o00 o01 o10 o11 a a (2 * n - a) s).1 = true) : fpO I O n m o00 o01 o10 o11 a (c + 1) s = fpO I O n m o00 o01 o10 o11 (a + 1) c (fpI I O n m o00 o01 o10 o11 a a (2 * n - a) s).2 := if_neg h
noncomputable def fpR (I O G n m : Nat) (s : stT) : Bool × stT :=
  let s1 := spF s (1 + I) n 0 m 0 O
  let s2 := spF s1 (1 + I) n 0 m (-1) O
  let s3 := spF s2 (1 + I) n (-1) m 0 O
  let s4 := spF s3 (1 + I) n (-1) m (-1) O
  let o00 := agF s I O G n 0 m 0
  let o01 := agF s1 I O G n 0 m (-1)
  let o10 := agF s2 I O G n (-1) m 0
  let o11 := agF s3 I O G n (-1) m (-1)
  @ite _ (((o00 ||| o01) ||| o10) ||| o11 = -1) (Classical.propDecidable _) (fpO I O n m o00 o01 o10 o11 0 (2 * n) s4) (false, s4)
/-- findTwo's loops -/
noncomputable def f2I (I O G i : Nat) : Nat → Nat → stT → Bool × stT
  | _, 0, s => (false, s)
  | j, c + 1, s => @ite _ (s 5 (ix (s 6 (1 + I + i))) = 0 ∧ s 5 (ix (s 6 (1 + I + j))) = 0) (Classical.propDecidable _)
      (@ite _ ((fpR I O G (1 + I + i) (1 + I + j) s).1 = true) (Classical.propDecidable _) (fpR I O G (1 + I + i) (1 + I + j) s) (f2I I O G i (j + 1) c (fpR I O G (1 + I + i) (1 + I + j) s).2))
      (f2I I O G i (j + 1) c s)
theorem f2I_k {I O G i j c : Nat} {s : stT} (h : ¬ (s 5 (ix (s 6 (1 + I + i))) = 0 ∧ s 5 (ix (s 6 (1 + I + j))) = 0)) : f2I I O G i j (c + 1) s = f2I I O G i (j + 1) c s := if_neg h
theorem f2I_t {I O G i j c : Nat} {s : stT} (h : s 5 (ix (s 6 (1 + I + i))) = 0 ∧ s 5 (ix (s 6 (1 + I + j))) = 0) (hr : (fpR I O G (1 + I + i) (1 + I + j) s).1 = true) : f2I I O G i j (c + 1) s = fpR I O G (1 + I + i) (1 + I + j) s := (if_pos h).trans (if_pos hr)
theorem f2I_f {I O G i j c : Nat} {s : stT} (h : s 5 (ix (s 6 (1 + I + i))) = 0 ∧ s 5 (ix (s 6 (1 + I + j))) = 0) (hr : ¬ (fpR I O G (1 + I + i) (1 + I + j) s).1 = true) : f2I I O G i j (c + 1) s = f2I I O G i (j + 1) c (fpR I O G (1 + I + i) (1 + I + j) s).2 := (if_pos h).trans (if_neg hr)
noncomputable def f2O (I O G : Nat) : Nat → Nat → stT → Bool × stT
  | _, 0, s => (false, s)
  | i, c + 1, s => @ite _ ((f2I I O G i (i + 1) (O - (i + 1)) s).1 = true) (Classical.propDecidable _) (f2I I O G i (i + 1) (O - (i + 1)) s) (f2O I O G (i + 1) c (f2I I O G i (i + 1) (O - (i + 1)) s).2)
theorem f2O_t {I O G i c : Nat} {s : stT} (h : (f2I I O G i (i + 1) (O - (i + 1)) s).1 = true) : f2O I O G i (c + 1) s = f2I I O G i (i + 1) (O - (i + 1)) s := if_pos h
theorem f2O_f {I O G i c : Nat} {s : stT} (h : ¬ (f2I I O G i (i + 1) (O - (i + 1)) s).1 = true) : f2O I O G i (c + 1) s = f2O I O G (i + 1) c (f2I I O G i (i + 1) (O - (i + 1)) s).2 := if_neg h
/-- a store that the search may leave: all as it was but trial, shown, the search's edits -/
def Lk (σ s : stT) : Prop := ∀ k, k ≠ 9 → k ≠ 10 → k ≠ 17 → k ≠ 18 → k ≠ 19 → s k = σ k
theorem Lk.rf (σ : stT) : Lk σ σ := fun _ _ _ _ _ _ => rfl
theorem Lk.tr {a b c : stT} (h : Lk a b) (h2 : Lk b c) : Lk a c := fun k h9 h10 h17 h18 h19 => (h2 k h9 h10 h17 h18 h19).trans (h k h9 h10 h17 h18 h19)
theorem Lk.sp {σ s : stT} (h : Lk σ s) (b n : Nat) (c : Int32) (m : Nat) (d : Int32) (i : Nat) : Lk σ (spF s b n c m d i) := fun k h9 h10 h17 h18 h19 => (spF_k s b n c m d k h9 h10 i).trans (h k h9 h10 h17 h18 h19)
theorem Lk.fl {σ s : stT} (h : Lk σ s) (n j : Nat) (x : Option (Nat × Nat)) : Lk σ (flF s n j x) := fun k h9 h10 h17 h18 h19 => (flF_k s n j x k h17 h18 h19).trans (h k h9 h10 h17 h18 h19)
theorem Lk.pt {σ s : stT} (h : Lk σ s) (n j a b : Nat) : Lk σ (ptF s n j a b) := fun k h9 h10 h17 h18 h19 => (ptF_k s n j a b k h17 h18 h19).trans (h k h9 h10 h17 h18 h19)
theorem Lk.ws {σ s : stT} (h : Lk σ s) {N I O G : Nat} (hs : Ws σ N I O G) : Ws s N I O G := hs.congr (fun k hk => h k (by omega) (by omega) (by omega) (by omega) (by omega))
theorem Lk_f1 {σ : stT} (I O G : Nat) : ∀ (c i : Nat) (s : stT), Lk σ s → Lk σ (f1R I O G i c s).2
  | 0, _, s, h => h
  | c + 1, i, s, h => by
    by_cases hk : s 5 (ix (s 6 (1 + I + i))) = 0
    · by_cases hr : (flR (spF (spF s (1 + I) (1 + I + i) 0 (1 + I + i) 0 O) (1 + I) (1 + I + i) (-1) (1 + I + i) (-1) O) (agF s I O G (1 + I + i) 0 (1 + I + i) 0) (agF (spF s (1 + I) (1 + I + i) 0 (1 + I + i) 0 O) I O G (1 + I + i) (-1) (1 + I + i) (-1)) (1 + I + i)).isSome = true
      · rw [f1R_t hk hr]; exact ((h.sp _ _ _ _ _ _).sp _ _ _ _ _ _).fl _ _ _
      · rw [f1R_f hk hr]; exact Lk_f1 I O G c (i + 1) _ ((h.sp _ _ _ _ _ _).sp _ _ _ _ _ _)
    · rw [f1R_k hk]; exact Lk_f1 I O G c (i + 1) s h
theorem Lk_fpI {σ : stT} (I O n m : Nat) (o00 o01 o10 o11 : Int32) (a : Nat) : ∀ (c b : Nat) (s : stT), Lk σ s → Lk σ (fpI I O n m o00 o01 o10 o11 a b c s).2
  | 0, _, s, h => h
  | c + 1, b, s, h => by
    by_cases hk : mix (s 10 a &&& s 10 b) o10 o00 ||| mix (s 10 a &&& s 10 b) o11 o01 = -1
    · by_cases hr : (flR (spF s (1 + I) n (s 10 a &&& s 10 b) n (s 10 a &&& s 10 b) O) (mix (s 10 a &&& s 10 b) o10 o00) (mix (s 10 a &&& s 10 b) o11 o01) m).isSome = true
      · rw [fpI_t hk hr]; exact ((h.sp _ _ _ _ _ _).fl _ _ _).pt _ _ _ _
      · rw [fpI_f hk hr]; exact Lk_fpI I O n m o00 o01 o10 o11 a c (b + 1) _ ((h.sp _ _ _ _ _ _).fl _ _ _)
    · rw [fpI_k hk]; exact Lk_fpI I O n m o00 o01 o10 o11 a c (b + 1) s h
theorem Lk_fpO {σ : stT} (I O n m : Nat) (o00 o01 o10 o11 : Int32) : ∀ (c a : Nat) (s : stT), Lk σ s → Lk σ (fpO I O n m o00 o01 o10 o11 a c s).2
  | 0, _, s, h => h
  | c + 1, a, s, h => by
    by_cases hk : (fpI I O n m o00 o01 o10 o11 a a (2 * n - a) s).1 = true
    · rw [fpO_t hk]; exact Lk_fpI I O n m o00 o01 o10 o11 a _ _ s h
    · rw [fpO_f hk]; exact Lk_fpO I O n m o00 o01 o10 o11 c (a + 1) _ (Lk_fpI I O n m o00 o01 o10 o11 a _ _ s h)
theorem Lk_fpR {σ : stT} (I O G n m : Nat) (s : stT) (h : Lk σ s) : Lk σ (fpR I O G n m s).2 := by
  have h4 := (((h.sp (1 + I) n 0 m 0 O).sp (1 + I) n 0 m (-1) O).sp (1 + I) n (-1) m 0 O).sp (1 + I) n (-1) m (-1) O
  unfold fpR
  dsimp only
  split
  · exact Lk_fpO I O n m _ _ _ _ _ _ _ h4
  · exact h4
theorem Lk_f2I {σ : stT} (I O G i : Nat) : ∀ (c j : Nat) (s : stT), Lk σ s → Lk σ (f2I I O G i j c s).2
  | 0, _, s, h => h
  | c + 1, j, s, h => by
    by_cases hk : s 5 (ix (s 6 (1 + I + i))) = 0 ∧ s 5 (ix (s 6 (1 + I + j))) = 0
    · by_cases hr : (fpR I O G (1 + I + i) (1 + I + j) s).1 = true
      · rw [f2I_t hk hr]; exact Lk_fpR I O G _ _ s h
      · rw [f2I_f hk hr]; exact Lk_f2I I O G i c (j + 1) _ (Lk_fpR I O G _ _ s h)
    · rw [f2I_k hk]; exact Lk_f2I I O G i c (j + 1) s h
theorem Lk_f2O {σ : stT} (I O G : Nat) : ∀ (c i : Nat) (s : stT), Lk σ s → Lk σ (f2O I O G i c s).2
  | 0, _, s, h => h
  | c + 1, i, s, h => by
    by_cases hk : (f2I I O G i (i + 1) (O - (i + 1)) s).1 = true
    · rw [f2O_t hk]; exact Lk_f2I I O G i _ _ s h
    · rw [f2O_f hk]; exact Lk_f2O I O G c (i + 1) _ (Lk_f2I I O G i _ _ s h)
theorem Lk_si {σ : stT} (N i : Nat) : Lk σ (siF σ N i) := fun k h9 h10 _ _ _ => siF_k σ N k h9 h10 i
noncomputable def feR (σ : stT) (N I O G most : Nat) : Int32 × stT :=
  let s := siF σ N (1 + I + O)
  @ite _ (dor s 9 G ^^^ (-1) = -1) (Classical.propDecidable _) (0, s)
    (@ite _ (1 ≤ most) (Classical.propDecidable _)
      (@ite _ ((f1R I O G 0 O s).1 = true) (Classical.propDecidable _) (1, (f1R I O G 0 O s).2)
        (@ite _ (2 ≤ most) (Classical.propDecidable _) (@ite _ ((f2O I O G 0 O (f1R I O G 0 O s).2).1 = true) (Classical.propDecidable _) (2, (f2O I O G 0 O (f1R I O G 0 O s).2).2) (-1, (f2O I O G 0 O (f1R I O G 0 O s).2).2)) (-1, (f1R I O G 0 O s).2)))
      (-1, s))
theorem flR_none {σ : stT} {ok0 ok1 : Int32} {n : Nat} (h : ¬ (flR σ ok0 ok1 n).isSome = true) : flR σ ok0 ok1 n = none := by
  cases h2 : flR σ ok0 ok1 n with
  | none => rfl
  | some x => rw [h2] at h; exact absurd rfl h
set_option maxHeartbeats 4000000 in
set_option maxRecDepth 100000 in
theorem c_X5_findOne (l : Launch) (g : va_G) (y : Nat → ClassId) (ad : Nat → Nat) (σ : Nat → Nat → Int32) {N I O G : Nat} (hs : Ws σ N I O G) : w_C l g y yX5_findOne cX5_findOne 4 (some .boolean) 4 [.ref (ad 4)] (cw ad y σ) (some (.int (bI ((f1R I O G 0 O σ).1 = true)))) (cw ad y (f1R I O G 0 O σ).2) := by
  refine w_ofI (lv0 := [(0, .ref (ad 4))]) (by decide +kernel) (Nat.le_of_ble_eq_true rfl) rfl (bI_nar _) ?_
  intro Z hZ hret
  obtain ⟨-, hI0, -⟩ := id hs
  refine r_aload_n 1 hZ 0 dX5_findOne_0 rfl rfl rfl ?_
  refine g_X5_9 4 hZ dX5_findOne_1 rfl ?_
  refine r_callVI (c_X3_firstOld l g y ad _ hI0) wM_X3_firstOld wL_X5_75 hZ rfl ⟨by decide, by decide⟩ 1 3 rfl rfl rfl rfl dX5_findOne_4 ?_
  refine r_istnN 8 [(0, _), (1, _)] hZ dX5_findOne_7 rfl rfl (by decide) rfl rfl ?_
  have lp_8 : ∀ (n : Nat) (i : Nat) (s : stT), i ≤ O → O + 1 ≤ i + n → Lk σ s → f1R I O G 0 O σ = f1R I O G i (O - i) s → Z 0 0 (cw ad y s) 8 [(0, .ref (ad 4)), (1, .int (nI (1 + I + i)))] [] := by
    intro n
    induction n with
    | zero => intro i s h1 hn_8 hL hg; exact absurd hn_8 (by omega)
    | succ n ih_8 =>
      intro i s h1 hn_8 hL hg
      obtain ⟨hN, hI, hO, hG, h38, h14, h4, hw, hl, hgm, hgd⟩ := hL.ws hs
      refine r_iload_n 9 hZ 1 dX5_findOne_8 rfl rfl rfl ?_
      refine r_aload_n 10 hZ 0 dX5_findOne_9 rfl rfl rfl ?_
      refine g_X5_9 13 hZ dX5_findOne_10 rfl ?_
      refine r_callVI (c_X3_owned l g y ad _ hI hO) wM_X3_owned wL_X5_64 hZ rfl ⟨by decide, by decide⟩ 1 3 rfl rfl rfl rfl dX5_findOne_13 ?_
      refine r_icmp_ge 81 19 hZ dX5_findOne_16 (by decide) rfl (fun c_16 => ?_) (fun c_16 => ?_)
      · skip
        have hi := nI_leq (by omega) (by omega) c_16
        have hi : i = O := by omega
        subst hi
        rw [hg, show i - i = 0 by omega] at hret
        refine r_iconst (v := 0) 82 hZ dX5_findOne_81 rfl (by decide) ?_
        exact hret _ _ _ _ dX5_findOne_82 (bI_f (by show ¬ (false : Bool) = true; decide)).symm rfl
      · skip
        have hi := nI_nleq (by omega) (by omega) c_16
        have hb : O - i = (O - (i + 1)) + 1 := by omega
        have hci := nI_clamp (n := 1 + I + i) (by omega)
        have k1 := hw (1 + I + i) (by omega)
        refine r_aload_n 20 hZ 0 dX5_findOne_19 rfl rfl rfl ?_
        refine g_X5_9 23 hZ dX5_findOne_20 rfl ?_
        refine g_X5_78 26 hZ dX5_findOne_23 rfl ?_
        refine r_aload_n 27 hZ 0 dX5_findOne_26 rfl rfl rfl ?_
        refine g_X5_9 30 hZ dX5_findOne_27 rfl ?_
        refine g_X5_68 33 hZ dX5_findOne_30 rfl ?_
        refine r_iload_n 34 hZ 1 dX5_findOne_33 rfl rfl rfl ?_
        refine a_c6 35 hZ (by first | assumption | exact vp_in_nI (by omega) (by decide) | (unfold vp_in; decide)) dX5_findOne_34 rfl ?_
        rw [hci]
        refine a_c5 36 hZ (okL_in k1 (by decide)) dX5_findOne_35 rfl ?_
        refine r_if_ne 75 39 hZ dX5_findOne_36 (by decide) rfl (fun c_36 => ?_) (fun c_36 => ?_)
        · skip
          refine r_iinc 78 1 1 [(0, _), (1, _)] hZ dX5_findOne_75 rfl rfl (by decide) (by decide) rfl rfl ?_
          refine r_goto 8 hZ dX5_findOne_78 (by decide) ?_
          rw [nI_1]
          first | exact ih_8 (i + 1) _ (by omega) (by omega) hL (by rw [hg, hb, f1R_k c_36]) | exact w_take 2 hZ (ih_8 (i + 1) _ (by omega) (by omega) ((hL.sp _ _ _ _ _ _).sp _ _ _ _ _ _) (by rw [hg, hb, f1R_f c_36 (bI_0.mp c_70)]; rfl))
        · skip
          refine r_aload_n 40 hZ 0 dX5_findOne_39 rfl rfl rfl ?_
          refine r_iload_n 41 hZ 1 dX5_findOne_40 rfl rfl rfl ?_
          refine r_iconst (v := 0) 42 hZ dX5_findOne_41 rfl (by decide) ?_
          refine r_iload_n 43 hZ 1 dX5_findOne_42 rfl rfl rfl ?_
          refine r_iconst (v := 0) 44 hZ dX5_findOne_43 rfl (by decide) ?_
          refine r_callVI (c_X5_agreementWith l g y ad _ (hL.ws hs) (n := 1 + I + i) (m := 1 + I + i) (by omega) (by omega) 0 0) wM_X5_agreementWith wL_X5_82 hZ rfl ⟨by decide, by decide⟩ 4 5 rfl rfl rfl rfl dX5_findOne_44 ?_
          refine r_istnN 48 [(0, _), (1, _), (2, _)] hZ dX5_findOne_47 rfl rfl (by decide) rfl rfl ?_
          refine r_aload_n 49 hZ 0 dX5_findOne_48 rfl rfl rfl ?_
          refine r_iload_n 50 hZ 1 dX5_findOne_49 rfl rfl rfl ?_
          refine r_iconst (v := (-1)) 51 hZ dX5_findOne_50 rfl (by decide) ?_
          refine r_iload_n 52 hZ 1 dX5_findOne_51 rfl rfl rfl ?_
          refine r_iconst (v := (-1)) 53 hZ dX5_findOne_52 rfl (by decide) ?_
          refine r_callVI (c_X5_agreementWith l g y ad _ ((hL.ws hs).sp _ _ _ _ _ _) (n := 1 + I + i) (m := 1 + I + i) (by omega) (by omega) (-1) (-1)) wM_X5_agreementWith wL_X5_82 hZ rfl ⟨by decide, by decide⟩ 4 5 rfl rfl rfl rfl dX5_findOne_53 ?_
          refine r_istnN 57 [(0, _), (1, _), (2, _), (3, _)] hZ dX5_findOne_56 rfl rfl (by decide) rfl rfl ?_
          refine r_aload_n 58 hZ 0 dX5_findOne_57 rfl rfl rfl ?_
          refine r_iload_n 59 hZ 1 dX5_findOne_58 rfl rfl rfl ?_
          refine r_iload_n 60 hZ 2 dX5_findOne_59 rfl rfl rfl ?_
          refine r_iload_n 61 hZ 3 dX5_findOne_60 rfl rfl rfl ?_
          refine r_aload_n 62 hZ 0 dX5_findOne_61 rfl rfl rfl ?_
          refine g_X5_21 65 hZ dX5_findOne_62 rfl ?_
          refine r_iconst (v := 0) 66 hZ dX5_findOne_65 rfl (by decide) ?_
          refine a_cS 67 hZ (by first | assumption | exact vp_in_nI (by omega) (by decide) | (unfold vp_in; decide)) dX5_findOne_66 rfl ?_
          refine r_callVI (c_X5_findLiterals l g y ad _ (n := 1 + I + i) (j := 0) (by omega) (by decide) (fun i2 hi2 => by rw [spF_k _ _ _ _ _ _ 6 (by decide) (by decide), spF_k _ _ _ _ _ _ 6 (by decide) (by decide)]; exact hw i2 (by omega)) _ _) wM_X5_findLiterals wL_X5_86 hZ rfl ⟨by decide, by decide⟩ 4 5 rfl rfl rfl rfl dX5_findOne_67 ?_
          refine r_if_eq 75 73 hZ dX5_findOne_70 (by decide) rfl (fun c_70 => ?_) (fun c_70 => ?_)
          · skip
            have hnone := flR_none (bI_0.mp c_70)
            rw [hnone]
            refine r_iinc 78 1 1 [(0, _), (1, _), (2, _), (3, _)] hZ dX5_findOne_75 rfl rfl (by decide) (by decide) rfl rfl ?_
            refine r_goto 8 hZ dX5_findOne_78 (by decide) ?_
            rw [nI_1]
            first | exact ih_8 (i + 1) _ (by omega) (by omega) hL (by rw [hg, hb, f1R_k c_36]) | exact w_take 2 hZ (ih_8 (i + 1) _ (by omega) (by omega) ((hL.sp _ _ _ _ _ _).sp _ _ _ _ _ _) (by rw [hg, hb, f1R_f c_36 (bI_0.mp c_70)]; rfl))
          · skip
            rw [hg, hb, f1R_t c_36 (bI_n0.mp c_70)] at hret
            refine r_iconst (v := 1) 74 hZ dX5_findOne_73 rfl (by decide) ?_
            exact hret _ _ _ _ dX5_findOne_74 (bI_t rfl).symm rfl
  exact lp_8 (O + 1) 0 σ (by omega) (by omega) (Lk.rf σ) rfl
set_option maxHeartbeats 4000000 in
set_option maxRecDepth 100000 in
theorem c_X5_findPair (l : Launch) (g : va_G) (y : Nat → ClassId) (ad : Nat → Nat) (σ : Nat → Nat → Int32) {N I O G : Nat} (hs : Ws σ N I O G) {n m : Nat} (hn : 1 + I ≤ n) (hnm : n < m) (hm : m < 1 + I + O) : w_C l g y yX5_findPair cX5_findPair 12 (some .boolean) 4 [.ref (ad 4), .int (nI n), .int (nI m)] (cw ad y σ) (some (.int (bI ((fpR I O G n m σ).1 = true)))) (cw ad y (fpR I O G n m σ).2) := by
  refine w_ofI (lv0 := [(0, .ref (ad 4)), (1, .int (nI n)), (2, .int (nI m))]) (by decide +kernel) (Nat.le_of_ble_eq_true rfl) rfl (bI_nar _) ?_
  intro Z hZ hret
  obtain ⟨hN, hI, hO, hG, h38, h14, h4, hw, hl, hgm, hgd⟩ := id hs
  have hcn := nI_clamp (n := n) (by omega)
  obtain ⟨s1, es1⟩ : ∃ s1, spF σ (1 + I) n 0 m 0 O = s1 := ⟨_, rfl⟩
  obtain ⟨s2, es2⟩ : ∃ s2, spF s1 (1 + I) n 0 m (-1) O = s2 := ⟨_, rfl⟩
  obtain ⟨s3, es3⟩ : ∃ s3, spF s2 (1 + I) n (-1) m 0 O = s3 := ⟨_, rfl⟩
  obtain ⟨s4, es4⟩ : ∃ s4, spF s3 (1 + I) n (-1) m (-1) O = s4 := ⟨_, rfl⟩
  have hs1 : Lk σ s1 := es1 ▸ (Lk.rf σ).sp _ _ _ _ _ _
  have hs2 : Lk σ s2 := es2 ▸ hs1.sp _ _ _ _ _ _
  have hs3 : Lk σ s3 := es3 ▸ hs2.sp _ _ _ _ _ _
  have hs4 : Lk σ s4 := es4 ▸ hs3.sp _ _ _ _ _ _
  obtain ⟨o00, e00⟩ : ∃ o, agF σ I O G n 0 m 0 = o := ⟨_, rfl⟩
  obtain ⟨o01, e01⟩ : ∃ o, agF s1 I O G n 0 m (-1) = o := ⟨_, rfl⟩
  obtain ⟨o10, e10⟩ : ∃ o, agF s2 I O G n (-1) m 0 = o := ⟨_, rfl⟩
  obtain ⟨o11, e11⟩ : ∃ o, agF s3 I O G n (-1) m (-1) = o := ⟨_, rfl⟩
  have hR : fpR I O G n m σ = @ite _ (((o00 ||| o01) ||| o10) ||| o11 = -1) (Classical.propDecidable _) (fpO I O n m o00 o01 o10 o11 0 (2 * n) s4) (false, s4) := by
    subst e00 e01 e10 e11 es4 es3 es2 es1
    rfl
  rw [hR] at hret
  refine r_aload_n 1 hZ 0 dX5_findPair_0 rfl rfl rfl ?_
  refine r_iload_n 2 hZ 1 dX5_findPair_1 rfl rfl rfl ?_
  refine r_iconst (v := 0) 3 hZ dX5_findPair_2 rfl (by decide) ?_
  refine r_iload_n 4 hZ 2 dX5_findPair_3 rfl rfl rfl ?_
  refine r_iconst (v := 0) 5 hZ dX5_findPair_4 rfl (by decide) ?_
  refine r_callVI (c_X5_agreementWith l g y ad _ hs (n := n) (m := m) (by omega) (by omega) 0 0) wM_X5_agreementWith wL_X5_82 hZ rfl ⟨by decide, by decide⟩ 4 5 rfl rfl rfl rfl dX5_findPair_5 ?_
  rw [es1, e00]
  refine r_istnN 9 [(0, _), (1, _), (2, _), (3, _)] hZ dX5_findPair_8 rfl rfl (by decide) rfl rfl ?_
  refine r_aload_n 10 hZ 0 dX5_findPair_9 rfl rfl rfl ?_
  refine r_iload_n 11 hZ 1 dX5_findPair_10 rfl rfl rfl ?_
  refine r_iconst (v := 0) 12 hZ dX5_findPair_11 rfl (by decide) ?_
  refine r_iload_n 13 hZ 2 dX5_findPair_12 rfl rfl rfl ?_
  refine r_iconst (v := (-1)) 14 hZ dX5_findPair_13 rfl (by decide) ?_
  refine r_callVI (c_X5_agreementWith l g y ad _ (hs1.ws hs) (n := n) (m := m) (by omega) (by omega) 0 (-1)) wM_X5_agreementWith wL_X5_82 hZ rfl ⟨by decide, by decide⟩ 4 5 rfl rfl rfl rfl dX5_findPair_14 ?_
  rw [es2, e01]
  refine r_istN (q := 0) 19 [(0, _), (1, _), (2, _), (3, _), (4, _)] hZ dX5_findPair_17 rfl (by decide) rfl rfl ?_
  refine r_aload_n 20 hZ 0 dX5_findPair_19 rfl rfl rfl ?_
  refine r_iload_n 21 hZ 1 dX5_findPair_20 rfl rfl rfl ?_
  refine r_iconst (v := (-1)) 22 hZ dX5_findPair_21 rfl (by decide) ?_
  refine r_iload_n 23 hZ 2 dX5_findPair_22 rfl rfl rfl ?_
  refine r_iconst (v := 0) 24 hZ dX5_findPair_23 rfl (by decide) ?_
  refine r_callVI (c_X5_agreementWith l g y ad _ (hs2.ws hs) (n := n) (m := m) (by omega) (by omega) (-1) 0) wM_X5_agreementWith wL_X5_82 hZ rfl ⟨by decide, by decide⟩ 4 5 rfl rfl rfl rfl dX5_findPair_24 ?_
  rw [es3, e10]
  refine r_istN (q := 0) 29 [(0, _), (1, _), (2, _), (3, _), (4, _), (5, _)] hZ dX5_findPair_27 rfl (by decide) rfl rfl ?_
  refine r_aload_n 30 hZ 0 dX5_findPair_29 rfl rfl rfl ?_
  refine r_iload_n 31 hZ 1 dX5_findPair_30 rfl rfl rfl ?_
  refine r_iconst (v := (-1)) 32 hZ dX5_findPair_31 rfl (by decide) ?_
  refine r_iload_n 33 hZ 2 dX5_findPair_32 rfl rfl rfl ?_
  refine r_iconst (v := (-1)) 34 hZ dX5_findPair_33 rfl (by decide) ?_
  refine r_callVI (c_X5_agreementWith l g y ad _ (hs3.ws hs) (n := n) (m := m) (by omega) (by omega) (-1) (-1)) wM_X5_agreementWith wL_X5_82 hZ rfl ⟨by decide, by decide⟩ 4 5 rfl rfl rfl rfl dX5_findPair_34 ?_
  rw [es4, e11]
  refine r_istN (q := 0) 39 [(0, _), (1, _), (2, _), (3, _), (4, _), (5, _), (6, _)] hZ dX5_findPair_37 rfl (by decide) rfl rfl ?_
  refine r_iload_n 40 hZ 3 dX5_findPair_39 rfl rfl rfl ?_
  refine r_iload 42 hZ 4 dX5_findPair_40 rfl rfl ?_
  refine r_ior 43 hZ dX5_findPair_42 rfl ?_
  refine r_iload 45 hZ 5 dX5_findPair_43 rfl rfl ?_
  refine r_ior 46 hZ dX5_findPair_45 rfl ?_
  refine r_iload 48 hZ 6 dX5_findPair_46 rfl rfl ?_
  refine r_ior 49 hZ dX5_findPair_48 rfl ?_
  refine r_iconst (v := (-1)) 50 hZ dX5_findPair_49 rfl (by decide) ?_
  refine r_icmp_eq 55 53 hZ dX5_findPair_50 (by decide) rfl (fun c_50 => ?_) (fun c_50 => ?_)
  · skip
    rw [if_pos c_50] at hret
    refine r_iconst (v := 0) 56 hZ dX5_findPair_55 rfl (by decide) ?_
    refine r_istN (q := 0) 58 [(0, _), (1, _), (2, _), (3, _), (4, _), (5, _), (6, _), (7, _)] hZ dX5_findPair_56 rfl (by decide) rfl rfl ?_
    have lp_58 : ∀ (q : Nat) (a : Nat) (s0 : stT), a ≤ 2 * n → 2 * n + 1 ≤ a + q → Lk σ s0 → fpO I O n m o00 o01 o10 o11 0 (2 * n) s4 = fpO I O n m o00 o01 o10 o11 a (2 * n - a) s0 → Z 0 0 (cw ad y s0) 58 [(0, .ref (ad 4)), (1, .int (nI n)), (2, .int (nI m)), (3, .int o00), (4, .int o01), (5, .int o10), (6, .int o11), (7, .int (nI a))] [] := by
      intro q
      induction q with
      | zero => intro a s0 h1 hn_58 hL0 hg; exact absurd hn_58 (by omega)
      | succ q ih_58 =>
        intro a s0 h1 hn_58 hL0 hg
        refine r_iload 60 hZ 7 dX5_findPair_58 rfl rfl ?_
        refine r_iconst (v := 2) 61 hZ dX5_findPair_60 rfl (by decide) ?_
        refine r_iload_n 62 hZ 1 dX5_findPair_61 rfl rfl rfl ?_
        refine r_imul 63 hZ dX5_findPair_62 rfl ?_
        rw [nI_2]
        refine r_icmp_ge 211 66 hZ dX5_findPair_63 (by decide) rfl (fun c_63 => ?_) (fun c_63 => ?_)
        · skip
          have ha := nI_leq (by omega) (by omega) c_63
          have ha : a = 2 * n := by omega
          subst ha
          rw [hg, show 2 * n - 2 * n = 0 by omega] at hret
          refine r_iconst (v := 0) 212 hZ dX5_findPair_211 rfl (by decide) ?_
          exact hret _ _ _ _ dX5_findPair_212 (bI_f (by show ¬ (false : Bool) = true; decide)).symm rfl
        · skip
          have ha := nI_nleq (by omega) (by omega) c_63
          have hba : 2 * n - a = (2 * n - (a + 1)) + 1 := by omega
          have hca := nI_clamp (n := a) (by omega)
          refine r_iload 68 hZ 7 dX5_findPair_66 rfl rfl ?_
          refine r_istN (q := 0) 70 [(0, _), (1, _), (2, _), (3, _), (4, _), (5, _), (6, _), (7, _), (8, _)] hZ dX5_findPair_68 rfl (by decide) rfl rfl ?_
          have lp_70 : ∀ (q : Nat) (b : Nat) (s : stT), b ≤ 2 * n → 2 * n + 1 ≤ b + q → a ≤ b → Lk σ s → fpI I O n m o00 o01 o10 o11 a a (2 * n - a) s0 = fpI I O n m o00 o01 o10 o11 a b (2 * n - b) s → Z 0 0 (cw ad y s) 70 [(0, .ref (ad 4)), (1, .int (nI n)), (2, .int (nI m)), (3, .int o00), (4, .int o01), (5, .int o10), (6, .int o11), (7, .int (nI a)), (8, .int (nI b))] [] := by
            intro q
            induction q with
            | zero => intro b s h1b hn_70 hab hL hgI; exact absurd hn_70 (by omega)
            | succ q ih_70 =>
              intro b s h1b hn_70 hab hL hgI
              have hw2 : ∀ n, n < 1 + I + O → okL (s 6 n) 38 := (hL.ws hs).2.2.2.2.2.2.2.1
              refine r_iload 72 hZ 8 dX5_findPair_70 rfl rfl ?_
              refine r_iconst (v := 2) 73 hZ dX5_findPair_72 rfl (by decide) ?_
              refine r_iload_n 74 hZ 1 dX5_findPair_73 rfl rfl rfl ?_
              refine r_imul 75 hZ dX5_findPair_74 rfl ?_
              rw [nI_2]
              refine r_icmp_ge 205 78 hZ dX5_findPair_75 (by decide) rfl (fun c_75 => ?_) (fun c_75 => ?_)
              · skip
                have hbb := nI_leq (by omega) (by omega) c_75
                have hbb : b = 2 * n := by omega
                subst hbb
                rw [show 2 * n - 2 * n = 0 by omega] at hgI
                refine r_iinc 208 7 1 [(0, _), (1, _), (2, _), (3, _), (4, _), (5, _), (6, _), (7, _), (8, _)] hZ dX5_findPair_205 rfl rfl (by decide) (by decide) rfl rfl ?_
                refine r_goto 58 hZ dX5_findPair_208 (by decide) ?_
                rw [nI_1]
                exact w_take 8 hZ (ih_58 (a + 1) _ (by omega) (by omega) hL (by rw [hg, hba, fpO_f (by rw [hgI]; show ¬ (false : Bool) = true; decide), hgI]; rfl))
              · skip
                have hbb := nI_nleq (by omega) (by omega) c_75
                have hbc : 2 * n - b = (2 * n - (b + 1)) + 1 := by omega
                have hcb := nI_clamp (n := b) (by omega)
                refine r_aload_n 79 hZ 0 dX5_findPair_78 rfl rfl rfl ?_
                refine g_X5_30 82 hZ dX5_findPair_79 rfl ?_
                refine r_iload 84 hZ 7 dX5_findPair_82 rfl rfl ?_
                refine a_c10 85 hZ (by first | assumption | exact vp_in_nI (by omega) (by decide) | (unfold vp_in; decide)) dX5_findPair_84 rfl ?_
                rw [hca]
                refine r_aload_n 86 hZ 0 dX5_findPair_85 rfl rfl rfl ?_
                refine g_X5_30 89 hZ dX5_findPair_86 rfl ?_
                refine r_iload 91 hZ 8 dX5_findPair_89 rfl rfl ?_
                refine a_c10 92 hZ (by first | assumption | exact vp_in_nI (by omega) (by decide) | (unfold vp_in; decide)) dX5_findPair_91 rfl ?_
                rw [hcb]
                refine r_iand 93 hZ dX5_findPair_92 rfl ?_
                refine r_istN (q := 0) 95 [(0, _), (1, _), (2, _), (3, _), (4, _), (5, _), (6, _), (7, _), (8, _), (9, _)] hZ dX5_findPair_93 rfl (by decide) rfl rfl ?_
                refine r_iload 97 hZ 9 dX5_findPair_95 rfl rfl ?_
                refine r_iload 99 hZ 5 dX5_findPair_97 rfl rfl ?_
                refine r_iand 100 hZ dX5_findPair_99 rfl ?_
                refine r_iload 102 hZ 9 dX5_findPair_100 rfl rfl ?_
                refine r_iconst (v := (-1)) 103 hZ dX5_findPair_102 rfl (by decide) ?_
                refine r_ixor 104 hZ dX5_findPair_103 rfl ?_
                refine r_iload_n 105 hZ 3 dX5_findPair_104 rfl rfl rfl ?_
                refine r_iand 106 hZ dX5_findPair_105 rfl ?_
                refine r_ior 107 hZ dX5_findPair_106 rfl ?_
                change Z 0 0 (cw ad y s) 107 _ (.int (mix (s 10 a &&& s 10 b) o10 o00) :: _)
                refine r_istN (q := 0) 109 [(0, _), (1, _), (2, _), (3, _), (4, _), (5, _), (6, _), (7, _), (8, _), (9, _), (10, _)] hZ dX5_findPair_107 rfl (by decide) rfl rfl ?_
                refine r_iload 111 hZ 9 dX5_findPair_109 rfl rfl ?_
                refine r_iload 113 hZ 6 dX5_findPair_111 rfl rfl ?_
                refine r_iand 114 hZ dX5_findPair_113 rfl ?_
                refine r_iload 116 hZ 9 dX5_findPair_114 rfl rfl ?_
                refine r_iconst (v := (-1)) 117 hZ dX5_findPair_116 rfl (by decide) ?_
                refine r_ixor 118 hZ dX5_findPair_117 rfl ?_
                refine r_iload 120 hZ 4 dX5_findPair_118 rfl rfl ?_
                refine r_iand 121 hZ dX5_findPair_120 rfl ?_
                refine r_ior 122 hZ dX5_findPair_121 rfl ?_
                change Z 0 0 (cw ad y s) 122 _ (.int (mix (s 10 a &&& s 10 b) o11 o01) :: _)
                refine r_istN (q := 0) 124 [(0, _), (1, _), (2, _), (3, _), (4, _), (5, _), (6, _), (7, _), (8, _), (9, _), (10, _), (11, _)] hZ dX5_findPair_122 rfl (by decide) rfl rfl ?_
                refine r_iload 126 hZ 10 dX5_findPair_124 rfl rfl ?_
                refine r_iload 128 hZ 11 dX5_findPair_126 rfl rfl ?_
                refine r_ior 129 hZ dX5_findPair_128 rfl ?_
                refine r_iconst (v := (-1)) 130 hZ dX5_findPair_129 rfl (by decide) ?_
                refine r_icmp_ne 199 133 hZ dX5_findPair_130 (by decide) rfl (fun c_130 => ?_) (fun c_130 => ?_)
                · skip
                  refine r_iinc 202 8 1 [(0, _), (1, _), (2, _), (3, _), (4, _), (5, _), (6, _), (7, _), (8, _), (9, _), (10, _), (11, _)] hZ dX5_findPair_199 rfl rfl (by decide) (by decide) rfl rfl ?_
                  refine r_goto 70 hZ dX5_findPair_202 (by decide) ?_
                  rw [nI_1]
                  first | exact w_take 9 hZ (ih_70 (b + 1) _ (by omega) (by omega) (by omega) hL (by rw [hgI, hbc, fpI_k c_130])) | exact w_take 9 hZ (ih_70 (b + 1) _ (by omega) (by omega) (by omega) ((hL.sp _ _ _ _ _ _).fl _ _ _) (by rw [hgI, hbc, fpI_f c_130 (bI_0.mp c_158)]))
                · skip
                  refine r_aload_n 134 hZ 0 dX5_findPair_133 rfl rfl rfl ?_
                  refine r_iload_n 135 hZ 1 dX5_findPair_134 rfl rfl rfl ?_
                  refine r_iload 137 hZ 9 dX5_findPair_135 rfl rfl ?_
                  refine r_iload_n 138 hZ 1 dX5_findPair_137 rfl rfl rfl ?_
                  refine r_iload 140 hZ 9 dX5_findPair_138 rfl rfl ?_
                  refine r_callVV (c_X5_setAndSpread l g y ad _ (hL.ws hs) (n := n) (m := n) (by omega) (by omega) _ _) wM_X5_setAndSpread wL_X5_94 hZ rfl ⟨by decide, by decide⟩ 4 5 rfl rfl rfl rfl dX5_findPair_140 ?_
                  refine r_aload_n 144 hZ 0 dX5_findPair_143 rfl rfl rfl ?_
                  refine r_iload_n 145 hZ 2 dX5_findPair_144 rfl rfl rfl ?_
                  refine r_iload 147 hZ 10 dX5_findPair_145 rfl rfl ?_
                  refine r_iload 149 hZ 11 dX5_findPair_147 rfl rfl ?_
                  refine r_aload_n 150 hZ 0 dX5_findPair_149 rfl rfl rfl ?_
                  refine g_X5_21 153 hZ dX5_findPair_150 rfl ?_
                  refine r_iconst (v := 1) 154 hZ dX5_findPair_153 rfl (by decide) ?_
                  refine a_cS 155 hZ (by first | assumption | exact vp_in_nI (by omega) (by decide) | (unfold vp_in; decide)) dX5_findPair_154 rfl ?_
                  refine r_callVI (c_X5_findLiterals l g y ad _ (n := m) (j := 1) (by omega) (by decide) (fun i2 hi2 => by rw [spF_k _ _ _ _ _ _ 6 (by decide) (by decide)]; exact hw2 i2 (by omega)) _ _) wM_X5_findLiterals wL_X5_86 hZ rfl ⟨by decide, by decide⟩ 4 5 rfl rfl rfl rfl dX5_findPair_155 ?_
                  refine r_if_eq 199 161 hZ dX5_findPair_158 (by decide) rfl (fun c_158 => ?_) (fun c_158 => ?_)
                  · skip
                    have hnone := flR_none (bI_0.mp c_158)
                    refine r_iinc 202 8 1 [(0, _), (1, _), (2, _), (3, _), (4, _), (5, _), (6, _), (7, _), (8, _), (9, _), (10, _), (11, _)] hZ dX5_findPair_199 rfl rfl (by decide) (by decide) rfl rfl ?_
                    refine r_goto 70 hZ dX5_findPair_202 (by decide) ?_
                    rw [nI_1]
                    first | exact w_take 9 hZ (ih_70 (b + 1) _ (by omega) (by omega) (by omega) hL (by rw [hgI, hbc, fpI_k c_130])) | exact w_take 9 hZ (ih_70 (b + 1) _ (by omega) (by omega) (by omega) ((hL.sp _ _ _ _ _ _).fl _ _ _) (by rw [hgI, hbc, fpI_f c_130 (bI_0.mp c_158)]))
                  · skip
                    have hI1 := hgI.trans (by rw [hbc, fpI_t c_130 (bI_n0.mp c_158)])
                    rw [hg, hba, fpO_t (by rw [hI1]), hI1] at hret
                    obtain ⟨s5, es5⟩ : ∃ s5, flF (spF s (1 + I) n (s 10 a &&& s 10 b) n (s 10 a &&& s 10 b) O) m 1 (flR (spF s (1 + I) n (s 10 a &&& s 10 b) n (s 10 a &&& s 10 b) O) (mix (s 10 a &&& s 10 b) o10 o00) (mix (s 10 a &&& s 10 b) o11 o01) m) = s5 := ⟨_, rfl⟩
                    rw [es5] at hret ⊢
                    have h6 : s5 6 = σ 6 := by rw [← es5, flF_k _ _ _ _ 6 (by decide) (by decide) (by decide), spF_k _ _ _ _ _ _ 6 (by decide) (by decide)]; exact hL 6 (by decide) (by decide) (by decide) (by decide) (by decide)
                    refine r_aload_n 162 hZ 0 dX5_findPair_161 rfl rfl rfl ?_
                    refine g_X5_21 165 hZ dX5_findPair_162 rfl ?_
                    refine r_iconst (v := 0) 166 hZ dX5_findPair_165 rfl (by decide) ?_
                    refine a_cS 167 hZ (by first | assumption | exact vp_in_nI (by omega) (by decide) | (unfold vp_in; decide)) dX5_findPair_166 rfl ?_
                    refine r_aload_n 168 hZ 0 dX5_findPair_167 rfl rfl rfl ?_
                    refine g_X5_9 171 hZ dX5_findPair_168 rfl ?_
                    refine g_X5_68 174 hZ dX5_findPair_171 rfl ?_
                    refine r_iload_n 175 hZ 1 dX5_findPair_174 rfl rfl rfl ?_
                    refine a_c6 176 hZ (by first | assumption | exact vp_in_nI (by omega) (by decide) | (unfold vp_in; decide)) dX5_findPair_175 rfl ?_
                    rw [hcn]
                    refine r_aload_n 177 hZ 0 dX5_findPair_176 rfl rfl rfl ?_
                    refine g_X5_9 180 hZ dX5_findPair_177 rfl ?_
                    refine r_iload 182 hZ 7 dX5_findPair_180 rfl rfl ?_
                    refine r_callVI (c_X3_ownLiteral l g y ad _ (n := a) (by omega) (by rw [h6]; exact hw (a / 2) (by omega))) wM_X3_ownLiteral wL_X5_98 hZ rfl ⟨by decide, by decide⟩ 1 3 rfl rfl rfl rfl dX5_findPair_182 ?_
                    refine r_aload_n 186 hZ 0 dX5_findPair_185 rfl rfl rfl ?_
                    refine g_X5_9 189 hZ dX5_findPair_186 rfl ?_
                    refine r_iload 191 hZ 8 dX5_findPair_189 rfl rfl ?_
                    refine r_callVI (c_X3_ownLiteral l g y ad _ (n := b) (by omega) (by rw [h6]; exact hw (b / 2) (by omega))) wM_X3_ownLiteral wL_X5_98 hZ rfl ⟨by decide, by decide⟩ 1 3 rfl rfl rfl rfl dX5_findPair_191 ?_
                    refine r_callVV (c_X1_put l g y ad _ (j := 0) (by decide) _ _ _) wM_X1_put wL_X5_102 hZ rfl ⟨by decide, by decide⟩ _ 1 (cw_E (by first | assumption | omega)) rfl rfl rfl dX5_findPair_194 ?_
                    refine r_iconst (v := 1) 198 hZ dX5_findPair_197 rfl (by decide) ?_
                    exact hret _ _ _ _ dX5_findPair_198 (bI_t rfl).symm (by unfold ptF olit; rw [h6])
          exact lp_70 (2 * n + 1) a s0 (by omega) (by omega) (by omega) hL0 rfl
    exact lp_58 (2 * n + 1) 0 s4 (by omega) (by omega) hs4 rfl
  · skip
    rw [if_neg c_50] at hret
    refine r_iconst (v := 0) 54 hZ dX5_findPair_53 rfl (by decide) ?_
    exact hret _ _ _ _ dX5_findPair_54 (bI_f (by show ¬ (false : Bool) = true; decide)).symm rfl
end
section
set_option maxHeartbeats 4000000 in
set_option maxRecDepth 100000 in
theorem c_X5_findTwo (l : Launch) (g : va_G) (y : Nat → ClassId) (ad : Nat → Nat) (σ : Nat → Nat → Int32) {N I O G : Nat} (hs : Ws σ N I O G) : w_C l g y yX5_findTwo cX5_findTwo 3 (some .boolean) 5 [.ref (ad 4)] (cw ad y σ) (some (.int (bI ((f2O I O G 0 O σ).1 = true)))) (cw ad y (f2O I O G 0 O σ).2) := by
  refine w_ofI (lv0 := [(0, .ref (ad 4))]) (by decide +kernel) (Nat.le_of_ble_eq_true rfl) rfl (bI_nar _) ?_
  intro Z hZ hret
  obtain ⟨-, hI0, -⟩ := id hs
  refine r_aload_n 1 hZ 0 dX5_findTwo_0 rfl rfl rfl ?_
  refine g_X5_9 4 hZ dX5_findTwo_1 rfl ?_
  refine r_callVI (c_X3_firstOld l g y ad _ hI0) wM_X3_firstOld wL_X5_75 hZ rfl ⟨by decide, by decide⟩ 1 3 rfl rfl rfl rfl dX5_findTwo_4 ?_
  refine r_istnN 8 [(0, _), (1, _)] hZ dX5_findTwo_7 rfl rfl (by decide) rfl rfl ?_
  have lp_8 : ∀ (n : Nat) (i : Nat) (s : stT), i ≤ O → O + 1 ≤ i + n → Lk σ s → f2O I O G 0 O σ = f2O I O G i (O - i) s → Z 0 0 (cw ad y s) 8 [(0, .ref (ad 4)), (1, .int (nI (1 + I + i)))] [] := by
    intro n
    induction n with
    | zero => intro i s h1 hn_8 hL hg; exact absurd hn_8 (by omega)
    | succ n ih_8 =>
      intro i s h1 hn_8 hL hg
      obtain ⟨hN, hI, hO, hG, h38, h14, h4, hw, hl, hgm, hgd⟩ := hL.ws hs
      refine r_iload_n 9 hZ 1 dX5_findTwo_8 rfl rfl rfl ?_
      refine r_aload_n 10 hZ 0 dX5_findTwo_9 rfl rfl rfl ?_
      refine g_X5_9 13 hZ dX5_findTwo_10 rfl ?_
      refine r_callVI (c_X3_owned l g y ad _ hI hO) wM_X3_owned wL_X5_64 hZ rfl ⟨by decide, by decide⟩ 1 3 rfl rfl rfl rfl dX5_findTwo_13 ?_
      refine r_icmp_ge 97 19 hZ dX5_findTwo_16 (by decide) rfl (fun c_16 => ?_) (fun c_16 => ?_)
      · skip
        have hi := nI_leq (by omega) (by omega) c_16
        have hi : i = O := by omega
        subst hi
        rw [hg, show i - i = 0 by omega] at hret
        refine r_iconst (v := 0) 98 hZ dX5_findTwo_97 rfl (by decide) ?_
        exact hret _ _ _ _ dX5_findTwo_98 (bI_f (by show ¬ (false : Bool) = true; decide)).symm rfl
      · skip
        have hi := nI_nleq (by omega) (by omega) c_16
        have hb : O - i = (O - (i + 1)) + 1 := by omega
        have hci := nI_clamp (n := 1 + I + i) (by omega)
        refine r_iload_n 20 hZ 1 dX5_findTwo_19 rfl rfl rfl ?_
        refine r_iconst (v := 1) 21 hZ dX5_findTwo_20 rfl (by decide) ?_
        refine r_iadd 22 hZ dX5_findTwo_21 rfl ?_
        refine r_istnN 23 [(0, _), (1, _), (2, _)] hZ dX5_findTwo_22 rfl rfl (by decide) rfl rfl ?_
        have lp_23 : ∀ (q : Nat) (j : Nat) (sj : stT), j ≤ O → O + 1 ≤ j + q → i < j → Lk σ sj → f2I I O G i (i + 1) (O - (i + 1)) s = f2I I O G i j (O - j) sj → Z 0 0 (cw ad y sj) 23 [(0, .ref (ad 4)), (1, .int (nI (1 + I + i))), (2, .int (nI (1 + I + j)))] [] := by
          intro q
          induction q with
          | zero => intro j sj h1j hn_23 hij hLj hgI; exact absurd hn_23 (by omega)
          | succ q ih_23 =>
            intro j sj h1j hn_23 hij hLj hgI
            obtain ⟨-, hIj, hOj, -, -, -, -, hwj, -⟩ := hLj.ws hs
            refine r_iload_n 24 hZ 2 dX5_findTwo_23 rfl rfl rfl ?_
            refine r_aload_n 25 hZ 0 dX5_findTwo_24 rfl rfl rfl ?_
            refine g_X5_9 28 hZ dX5_findTwo_25 rfl ?_
            refine r_callVI (c_X3_owned l g y ad _ hIj hOj) wM_X3_owned wL_X5_64 hZ rfl ⟨by decide, by decide⟩ 1 3 rfl rfl rfl rfl dX5_findTwo_28 ?_
            refine r_icmp_ge 91 34 hZ dX5_findTwo_31 (by decide) rfl (fun c_31 => ?_) (fun c_31 => ?_)
            · skip
              have hj := nI_leq (by omega) (by omega) c_31
              have hj : j = O := by omega
              subst hj
              rw [show j - j = 0 by omega] at hgI
              refine r_iinc 94 1 1 [(0, _), (1, _), (2, _)] hZ dX5_findTwo_91 rfl rfl (by decide) (by decide) rfl rfl ?_
              refine r_goto 8 hZ dX5_findTwo_94 (by decide) ?_
              rw [nI_1]
              exact w_take 2 hZ (ih_8 (i + 1) _ (by omega) (by omega) hLj (by rw [hg, hb, f2O_f (by rw [hgI]; show ¬ (false : Bool) = true; decide), hgI]; rfl))
            · skip
              have hj := nI_nleq (by omega) (by omega) c_31
              have hbj : O - j = (O - (j + 1)) + 1 := by omega
              have hcj := nI_clamp (n := 1 + I + j) (by omega)
              have k1 := hwj (1 + I + i) (by omega)
              have k2 := hwj (1 + I + j) (by omega)
              refine r_aload_n 35 hZ 0 dX5_findTwo_34 rfl rfl rfl ?_
              refine g_X5_9 38 hZ dX5_findTwo_35 rfl ?_
              refine g_X5_78 41 hZ dX5_findTwo_38 rfl ?_
              refine r_aload_n 42 hZ 0 dX5_findTwo_41 rfl rfl rfl ?_
              refine g_X5_9 45 hZ dX5_findTwo_42 rfl ?_
              refine g_X5_68 48 hZ dX5_findTwo_45 rfl ?_
              refine r_iload_n 49 hZ 1 dX5_findTwo_48 rfl rfl rfl ?_
              refine a_c6 50 hZ (by first | assumption | exact vp_in_nI (by omega) (by decide) | (unfold vp_in; decide)) dX5_findTwo_49 rfl ?_
              rw [hci]
              refine a_c5 51 hZ (okL_in k1 (by decide)) dX5_findTwo_50 rfl ?_
              refine r_if_ne 85 54 hZ dX5_findTwo_51 (by decide) rfl (fun c_51 => ?_) (fun c_51 => ?_)
              · skip
                refine r_iinc 88 2 1 [(0, _), (1, _), (2, _)] hZ dX5_findTwo_85 rfl rfl (by decide) (by decide) rfl rfl ?_
                refine r_goto 23 hZ dX5_findTwo_88 (by decide) ?_
                rw [nI_1]
                first | exact ih_23 (j + 1) _ (by omega) (by omega) (by omega) hLj (by rw [hgI, hbj, f2I_k (fun q => c_51 q.1)]) | exact ih_23 (j + 1) _ (by omega) (by omega) (by omega) hLj (by rw [hgI, hbj, f2I_k (fun q => c_71 q.2)]) | exact ih_23 (j + 1) _ (by omega) (by omega) (by omega) (Lk_fpR I O G _ _ sj hLj) (by rw [hgI, hbj, f2I_f ⟨c_51, c_71⟩ (bI_0.mp c_80)])
              · skip
                refine r_aload_n 55 hZ 0 dX5_findTwo_54 rfl rfl rfl ?_
                refine g_X5_9 58 hZ dX5_findTwo_55 rfl ?_
                refine g_X5_78 61 hZ dX5_findTwo_58 rfl ?_
                refine r_aload_n 62 hZ 0 dX5_findTwo_61 rfl rfl rfl ?_
                refine g_X5_9 65 hZ dX5_findTwo_62 rfl ?_
                refine g_X5_68 68 hZ dX5_findTwo_65 rfl ?_
                refine r_iload_n 69 hZ 2 dX5_findTwo_68 rfl rfl rfl ?_
                refine a_c6 70 hZ (by first | assumption | exact vp_in_nI (by omega) (by decide) | (unfold vp_in; decide)) dX5_findTwo_69 rfl ?_
                rw [hcj]
                refine a_c5 71 hZ (okL_in k2 (by decide)) dX5_findTwo_70 rfl ?_
                refine r_if_ne 85 74 hZ dX5_findTwo_71 (by decide) rfl (fun c_71 => ?_) (fun c_71 => ?_)
                · skip
                  refine r_iinc 88 2 1 [(0, _), (1, _), (2, _)] hZ dX5_findTwo_85 rfl rfl (by decide) (by decide) rfl rfl ?_
                  refine r_goto 23 hZ dX5_findTwo_88 (by decide) ?_
                  rw [nI_1]
                  first | exact ih_23 (j + 1) _ (by omega) (by omega) (by omega) hLj (by rw [hgI, hbj, f2I_k (fun q => c_51 q.1)]) | exact ih_23 (j + 1) _ (by omega) (by omega) (by omega) hLj (by rw [hgI, hbj, f2I_k (fun q => c_71 q.2)]) | exact ih_23 (j + 1) _ (by omega) (by omega) (by omega) (Lk_fpR I O G _ _ sj hLj) (by rw [hgI, hbj, f2I_f ⟨c_51, c_71⟩ (bI_0.mp c_80)])
                · skip
                  refine r_aload_n 75 hZ 0 dX5_findTwo_74 rfl rfl rfl ?_
                  refine r_iload_n 76 hZ 1 dX5_findTwo_75 rfl rfl rfl ?_
                  refine r_iload_n 77 hZ 2 dX5_findTwo_76 rfl rfl rfl ?_
                  refine r_callVI (c_X5_findPair l g y ad _ (hLj.ws hs) (n := 1 + I + i) (m := 1 + I + j) (by omega) (by omega) (by omega)) wM_X5_findPair wL_X5_90 hZ rfl ⟨by decide, by decide⟩ 4 5 rfl rfl rfl rfl dX5_findTwo_77 ?_
                  refine r_if_eq 85 83 hZ dX5_findTwo_80 (by decide) rfl (fun c_80 => ?_) (fun c_80 => ?_)
                  · skip
                    refine r_iinc 88 2 1 [(0, _), (1, _), (2, _)] hZ dX5_findTwo_85 rfl rfl (by decide) (by decide) rfl rfl ?_
                    refine r_goto 23 hZ dX5_findTwo_88 (by decide) ?_
                    rw [nI_1]
                    first | exact ih_23 (j + 1) _ (by omega) (by omega) (by omega) hLj (by rw [hgI, hbj, f2I_k (fun q => c_51 q.1)]) | exact ih_23 (j + 1) _ (by omega) (by omega) (by omega) hLj (by rw [hgI, hbj, f2I_k (fun q => c_71 q.2)]) | exact ih_23 (j + 1) _ (by omega) (by omega) (by omega) (Lk_fpR I O G _ _ sj hLj) (by rw [hgI, hbj, f2I_f ⟨c_51, c_71⟩ (bI_0.mp c_80)])
                  · skip
                    have hI1 := hgI.trans (by rw [hbj, f2I_t ⟨c_51, c_71⟩ (bI_n0.mp c_80)])
                    have hT := bI_n0.mp c_80
                    rw [hg, hb, f2O_t (by rw [hI1]; exact hT), hI1] at hret
                    refine r_iconst (v := 1) 84 hZ dX5_findTwo_83 rfl (by decide) ?_
                    exact hret _ _ _ _ dX5_findTwo_84 (bI_t hT).symm rfl
        rw [nI_1]
        exact lp_23 (O + 1) (i + 1) s (by omega) (by omega) (by omega) hL rfl
  exact lp_8 (O + 1) 0 σ (by omega) (by omega) (Lk.rf σ) rfl
theorem feR_0 {σ : stT} {N I O G most : Nat} (h : dor (siF σ N (1 + I + O)) 9 G ^^^ (-1) = -1) : feR σ N I O G most = (0, siF σ N (1 + I + O)) := if_pos h
theorem feR_1 {σ : stT} {N I O G most : Nat} (h : ¬ dor (siF σ N (1 + I + O)) 9 G ^^^ (-1) = -1) (h1 : ¬ 1 ≤ most) : feR σ N I O G most = (-1, siF σ N (1 + I + O)) := (if_neg h).trans (if_neg h1)
theorem feR_2 {σ : stT} {N I O G most : Nat} (h : ¬ dor (siF σ N (1 + I + O)) 9 G ^^^ (-1) = -1) (h1 : 1 ≤ most) (hf : (f1R I O G 0 O (siF σ N (1 + I + O))).1 = true) : feR σ N I O G most = (1, (f1R I O G 0 O (siF σ N (1 + I + O))).2) := (if_neg h).trans ((if_pos h1).trans (if_pos hf))
theorem feR_3 {σ : stT} {N I O G most : Nat} (h : ¬ dor (siF σ N (1 + I + O)) 9 G ^^^ (-1) = -1) (h1 : 1 ≤ most) (hf : ¬ (f1R I O G 0 O (siF σ N (1 + I + O))).1 = true) (h2 : ¬ 2 ≤ most) : feR σ N I O G most = (-1, (f1R I O G 0 O (siF σ N (1 + I + O))).2) := (if_neg h).trans ((if_pos h1).trans ((if_neg hf).trans (if_neg h2)))
theorem feR_4 {σ : stT} {N I O G most : Nat} (h : ¬ dor (siF σ N (1 + I + O)) 9 G ^^^ (-1) = -1) (h1 : 1 ≤ most) (hf : ¬ (f1R I O G 0 O (siF σ N (1 + I + O))).1 = true) (h2 : 2 ≤ most) (hg : (f2O I O G 0 O (f1R I O G 0 O (siF σ N (1 + I + O))).2).1 = true) : feR σ N I O G most = (2, (f2O I O G 0 O (f1R I O G 0 O (siF σ N (1 + I + O))).2).2) := (if_neg h).trans ((if_pos h1).trans ((if_neg hf).trans ((if_pos h2).trans (if_pos hg))))
theorem feR_5 {σ : stT} {N I O G most : Nat} (h : ¬ dor (siF σ N (1 + I + O)) 9 G ^^^ (-1) = -1) (h1 : 1 ≤ most) (hf : ¬ (f1R I O G 0 O (siF σ N (1 + I + O))).1 = true) (h2 : 2 ≤ most) (hg : ¬ (f2O I O G 0 O (f1R I O G 0 O (siF σ N (1 + I + O))).2).1 = true) : feR σ N I O G most = (-1, (f2O I O G 0 O (f1R I O G 0 O (siF σ N (1 + I + O))).2).2) := (if_neg h).trans ((if_pos h1).trans ((if_neg hf).trans ((if_pos h2).trans (if_neg hg))))
set_option maxHeartbeats 4000000 in
set_option maxRecDepth 100000 in
theorem c_X5_fewestEdits (l : Launch) (g : va_G) (y : Nat → ClassId) (ad : Nat → Nat) (σ : Nat → Nat → Int32) {N I O G : Nat} (hs : Ws σ N I O G) {most : Nat} (hm : most ≤ 2) : w_C l g y yX5_fewestEdits cX5_fewestEdits 2 (some .int) 6 [.ref (ad 4), .int (nI most)] (cw ad y σ) (some (.int (feR σ N I O G most).1)) (cw ad y (feR σ N I O G most).2) := by
  refine w_ofI (lv0 := [(0, .ref (ad 4)), (1, .int (nI most))]) (by decide +kernel) (Nat.le_of_ble_eq_true rfl) rfl (rfl) ?_
  intro Z hZ hret
  obtain ⟨t, et⟩ : ∃ t, siF σ N (1 + I + O) = t := ⟨_, rfl⟩
  have hL : Lk σ t := et ▸ Lk_si N _
  obtain ⟨hN, hI, hO, hG, h38, h14, h4, hw, hl, hgm, hgd⟩ := hL.ws hs
  refine r_aload_n 1 hZ 0 dX5_fewestEdits_0 rfl rfl rfl ?_
  refine r_callVV (c_X5_showAsItIs l g y ad _ hs) wM_X5_showAsItIs wL_X5_33 hZ rfl ⟨by decide, by decide⟩ 4 5 rfl rfl rfl rfl dX5_fewestEdits_1 ?_
  rw [et]
  refine r_aload_n 5 hZ 0 dX5_fewestEdits_4 rfl rfl rfl ?_
  refine g_X5_15 8 hZ dX5_fewestEdits_5 rfl ?_
  refine r_aload_n 9 hZ 0 dX5_fewestEdits_8 rfl rfl rfl ?_
  refine g_X5_26 12 hZ dX5_fewestEdits_9 rfl ?_
  refine r_callVI (c_X2_agreement l g y ad _ hG h4 hgm hgd) wM_X2_agreement wL_X5_36 hZ rfl ⟨by decide, by decide⟩ 2 2 rfl rfl rfl rfl dX5_fewestEdits_12 ?_
  refine r_iconst (v := (-1)) 16 hZ dX5_fewestEdits_15 rfl (by decide) ?_
  refine r_icmp_ne 21 19 hZ dX5_fewestEdits_16 (by decide) rfl (fun c_16 => ?_) (fun c_16 => ?_)
  · skip
    have c0 : ¬ dor (siF σ N (1 + I + O)) 9 G ^^^ (-1) = -1 := by rw [et]; exact c_16
    refine r_iload_n 22 hZ 1 dX5_fewestEdits_21 rfl rfl rfl ?_
    refine r_iconst (v := 1) 23 hZ dX5_fewestEdits_22 rfl (by decide) ?_
    refine r_icmp_lt 35 26 hZ dX5_fewestEdits_23 (by decide) rfl (fun c_23 => ?_) (fun c_23 => ?_)
    · skip
      have h0 : ¬ 1 ≤ most := by have := nI_ltq (b := 1) (by omega) (by omega) c_23; omega
      refine r_iload_n 36 hZ 1 dX5_fewestEdits_35 rfl rfl rfl ?_
      refine r_iconst (v := 2) 37 hZ dX5_fewestEdits_36 rfl (by decide) ?_
      refine r_icmp_lt 49 40 hZ dX5_fewestEdits_37 (by decide) rfl (fun c_37 => ?_) (fun c_37 => absurd (nI_nltq (b := 2) (by omega) (by omega) c_37) (by omega))
      rw [feR_1 c0 h0, et] at hret
      refine r_iconst (v := (-1)) 50 hZ dX5_fewestEdits_49 rfl (by decide) ?_
      exact hret _ _ _ _ dX5_fewestEdits_50 rfl rfl
    · skip
      have h1 := nI_nltq (b := 1) (by omega) (by omega) c_23
      refine r_aload_n 27 hZ 0 dX5_fewestEdits_26 rfl rfl rfl ?_
      refine r_callVI (c_X5_findOne l g y ad _ (hL.ws hs)) wM_X5_findOne wL_X5_42 hZ rfl ⟨by decide, by decide⟩ 4 5 rfl rfl rfl rfl dX5_fewestEdits_27 ?_
      refine r_if_eq 35 33 hZ dX5_fewestEdits_30 (by decide) rfl (fun c_30 => ?_) (fun c_30 => ?_)
      · skip
        have c1 : ¬ (f1R I O G 0 O (siF σ N (1 + I + O))).1 = true := by rw [et]; exact bI_0.mp c_30
        refine r_iload_n 36 hZ 1 dX5_fewestEdits_35 rfl rfl rfl ?_
        refine r_iconst (v := 2) 37 hZ dX5_fewestEdits_36 rfl (by decide) ?_
        refine r_icmp_lt 49 40 hZ dX5_fewestEdits_37 (by decide) rfl (fun c_37 => ?_) (fun c_37 => ?_)
        · skip
          rw [feR_3 c0 h1 c1 (by have := nI_ltq (b := 2) (by omega) (by omega) c_37; omega), et] at hret
          refine r_iconst (v := (-1)) 50 hZ dX5_fewestEdits_49 rfl (by decide) ?_
          exact hret _ _ _ _ dX5_fewestEdits_50 rfl rfl
        · skip
          have h2 := nI_nltq (b := 2) (by omega) (by omega) c_37
          refine r_aload_n 41 hZ 0 dX5_fewestEdits_40 rfl rfl rfl ?_
          refine r_callVI (c_X5_findTwo l g y ad (f1R I O G 0 O t).2 ((Lk_f1 I O G O 0 t hL).ws hs)) wM_X5_findTwo wL_X5_46 hZ rfl ⟨by decide, by decide⟩ 4 5 rfl rfl rfl rfl dX5_fewestEdits_41 ?_
          refine r_if_eq 49 47 hZ dX5_fewestEdits_44 (by decide) rfl (fun c_44 => ?_) (fun c_44 => ?_)
          · skip
            rw [feR_5 c0 h1 c1 h2 (by rw [et]; exact bI_0.mp c_44), et] at hret
            refine r_iconst (v := (-1)) 50 hZ dX5_fewestEdits_49 rfl (by decide) ?_
            exact hret _ _ _ _ dX5_fewestEdits_50 rfl rfl
          · skip
            rw [feR_4 c0 h1 c1 h2 (by rw [et]; exact bI_n0.mp c_44), et] at hret
            refine r_iconst (v := 2) 48 hZ dX5_fewestEdits_47 rfl (by decide) ?_
            exact hret _ _ _ _ dX5_fewestEdits_48 rfl rfl
      · skip
        rw [feR_2 c0 h1 (by rw [et]; exact bI_n0.mp c_30), et] at hret
        refine r_iconst (v := 1) 34 hZ dX5_fewestEdits_33 rfl (by decide) ?_
        exact hret _ _ _ _ dX5_fewestEdits_34 rfl rfl
  · skip
    rw [feR_0 (by rw [et]; exact c_16), et] at hret
    refine r_iconst (v := 0) 20 hZ dX5_fewestEdits_19 rfl (by decide) ?_
    exact hret _ _ _ _ dX5_fewestEdits_20 rfl rfl
set_option maxHeartbeats 4000000 in
set_option maxRecDepth 100000 in
theorem c_X6_take_0 (l : Launch) (g : va_G) (y : Nat → ClassId) (ad : Nat → Nat) (σ : Nat → Nat → Int32) {S : Nat} (hS : σ 0 6 = nI S) (hS6 : S ≤ 6) : w_C l g y yX6_take cX6_take 3 none 3 [.ref (ad 5), .ref (ad 23), .int 0] (cw ad y σ) none (cw ad y (takeF σ 0 S)) := by
  refine w_ofV (lv0 := [(0, .ref (ad 5)), (1, .ref (ad 23)), (2, .int 0)]) (by decide +kernel) (Nat.le_of_ble_eq_true rfl) rfl ?_
  intro Z hZ hret
  refine r_aload_n 1 hZ 0 dX6_take_0 rfl rfl rfl ?_
  refine g_X6_15 4 hZ dX6_take_1 rfl ?_
  refine r_iconst (v := 0) 5 hZ dX6_take_4 rfl (by decide) ?_
  refine r_iconst (v := (-1)) 6 hZ dX6_take_5 rfl (by decide) ?_
  refine s_c15 7 hZ (by first | assumption | exact vp_in_nI (by omega) (by decide) | (unfold vp_in; decide)) dX6_take_6 rfl ?_
  refine r_aload_n 8 hZ 0 dX6_take_7 rfl rfl rfl ?_
  refine g_X6_15 11 hZ dX6_take_8 rfl ?_
  refine r_iconst (v := 1) 12 hZ dX6_take_11 rfl (by decide) ?_
  refine r_iconst (v := (-1)) 13 hZ dX6_take_12 rfl (by decide) ?_
  refine s_c15 14 hZ (by first | assumption | exact vp_in_nI (by omega) (by decide) | (unfold vp_in; decide)) dX6_take_13 rfl ?_
  refine r_aload_n 15 hZ 0 dX6_take_14 rfl rfl rfl ?_
  refine r_iload_n 16 hZ 2 dX6_take_15 rfl rfl rfl ?_
  refine r_if_ne 23 19 hZ dX6_take_16 (by decide) rfl (fun c_16 => ?_) (fun c_16 => ?_)
  · skip
    exact absurd rfl c_16
  · skip
    refine r_iconst (v := 0) 20 hZ dX6_take_19 rfl (by decide) ?_
    refine r_goto 24 hZ dX6_take_20 (by decide) ?_
    refine p_X6_19 27 hZ dX6_take_24 rfl ?_
    refine r_iload_n 28 hZ 2 dX6_take_27 rfl rfl rfl ?_
    refine r_iconst (v := 1) 29 hZ dX6_take_28 rfl (by decide) ?_
    refine r_icmp_ne 45 32 hZ dX6_take_29 (by decide) rfl (fun c_29 => ?_) (fun c_29 => ?_)
    · skip
      refine r_iload_n 46 hZ 2 dX6_take_45 rfl rfl rfl ?_
      refine r_iconst (v := 2) 47 hZ dX6_take_46 rfl (by decide) ?_
      refine r_icmp_ne 66 50 hZ dX6_take_47 (by decide) rfl (fun c_47 => ?_) (fun c_47 => ?_)
      · skip
        exact hret _ _ _ dX6_take_66 rfl
      · skip
        exact absurd c_47 (by decide)
    · skip
      exact absurd c_29 (by decide)
set_option maxHeartbeats 4000000 in
set_option maxRecDepth 100000 in
theorem c_X6_take_1 (l : Launch) (g : va_G) (y : Nat → ClassId) (ad : Nat → Nat) (σ : Nat → Nat → Int32) {S : Nat} (hS : σ 0 6 = nI S) (hS6 : S ≤ 6) (h0 : okL (σ 17 0) 38) : w_C l g y yX6_take cX6_take 3 none 3 [.ref (ad 5), .ref (ad 23), .int 1] (cw ad y σ) none (cw ad y (takeF σ 1 S)) := by
  refine w_ofV (lv0 := [(0, .ref (ad 5)), (1, .ref (ad 23)), (2, .int 1)]) (by decide +kernel) (Nat.le_of_ble_eq_true rfl) rfl ?_
  intro Z hZ hret
  refine r_aload_n 1 hZ 0 dX6_take_0 rfl rfl rfl ?_
  refine g_X6_15 4 hZ dX6_take_1 rfl ?_
  refine r_iconst (v := 0) 5 hZ dX6_take_4 rfl (by decide) ?_
  refine r_iconst (v := (-1)) 6 hZ dX6_take_5 rfl (by decide) ?_
  refine s_c15 7 hZ (by first | assumption | exact vp_in_nI (by omega) (by decide) | (unfold vp_in; decide)) dX6_take_6 rfl ?_
  refine r_aload_n 8 hZ 0 dX6_take_7 rfl rfl rfl ?_
  refine g_X6_15 11 hZ dX6_take_8 rfl ?_
  refine r_iconst (v := 1) 12 hZ dX6_take_11 rfl (by decide) ?_
  refine r_iconst (v := (-1)) 13 hZ dX6_take_12 rfl (by decide) ?_
  refine s_c15 14 hZ (by first | assumption | exact vp_in_nI (by omega) (by decide) | (unfold vp_in; decide)) dX6_take_13 rfl ?_
  refine r_aload_n 15 hZ 0 dX6_take_14 rfl rfl rfl ?_
  refine r_iload_n 16 hZ 2 dX6_take_15 rfl rfl rfl ?_
  refine r_if_ne 23 19 hZ dX6_take_16 (by decide) rfl (fun c_16 => ?_) (fun c_16 => ?_)
  · skip
    refine r_iconst (v := (-1)) 24 hZ dX6_take_23 rfl (by decide) ?_
    refine p_X6_19 27 hZ dX6_take_24 rfl ?_
    refine r_iload_n 28 hZ 2 dX6_take_27 rfl rfl rfl ?_
    refine r_iconst (v := 1) 29 hZ dX6_take_28 rfl (by decide) ?_
    refine r_icmp_ne 45 32 hZ dX6_take_29 (by decide) rfl (fun c_29 => ?_) (fun c_29 => ?_)
    · skip
      exact absurd rfl c_29
    · skip
      refine r_aload_n 33 hZ 0 dX6_take_32 rfl rfl rfl ?_
      refine r_aload_n 34 hZ 1 dX6_take_33 rfl rfl rfl ?_
      refine r_iconst (v := 0) 35 hZ dX6_take_34 rfl (by decide) ?_
      refine a_cS 36 hZ (by first | assumption | exact vp_in_nI (by omega) (by decide) | (unfold vp_in; decide)) dX6_take_35 rfl ?_
      refine g_X6_23 39 hZ (by decide) dX6_take_36 rfl ?_
      refine w_eqI (h0.1) ?_
      refine r_callVV (c_X6_takeForOne l g y ad _ (S := S) h0.2 (by exact hS) hS6) wM_X6_takeForOne wL_X6_28 hZ rfl ⟨by decide, by decide⟩ 5 6 rfl rfl rfl rfl dX6_take_39 ?_
      refine r_goto 66 hZ dX6_take_42 (by decide) ?_
      exact hret _ _ _ dX6_take_66 rfl
  · skip
    exact absurd c_16 (by decide)
set_option maxHeartbeats 4000000 in
set_option maxRecDepth 100000 in
theorem c_X6_take_2 (l : Launch) (g : va_G) (y : Nat → ClassId) (ad : Nat → Nat) (σ : Nat → Nat → Int32) {S : Nat} (hS : σ 0 6 = nI S) (hS6 : S ≤ 6) (h0 : okL (σ 17 0) 38) (h1 : okL (σ 17 1) 38) : w_C l g y yX6_take cX6_take 3 none 3 [.ref (ad 5), .ref (ad 23), .int 2] (cw ad y σ) none (cw ad y (takeF σ 2 S)) := by
  refine w_ofV (lv0 := [(0, .ref (ad 5)), (1, .ref (ad 23)), (2, .int 2)]) (by decide +kernel) (Nat.le_of_ble_eq_true rfl) rfl ?_
  intro Z hZ hret
  refine r_aload_n 1 hZ 0 dX6_take_0 rfl rfl rfl ?_
  refine g_X6_15 4 hZ dX6_take_1 rfl ?_
  refine r_iconst (v := 0) 5 hZ dX6_take_4 rfl (by decide) ?_
  refine r_iconst (v := (-1)) 6 hZ dX6_take_5 rfl (by decide) ?_
  refine s_c15 7 hZ (by first | assumption | exact vp_in_nI (by omega) (by decide) | (unfold vp_in; decide)) dX6_take_6 rfl ?_
  refine r_aload_n 8 hZ 0 dX6_take_7 rfl rfl rfl ?_
  refine g_X6_15 11 hZ dX6_take_8 rfl ?_
  refine r_iconst (v := 1) 12 hZ dX6_take_11 rfl (by decide) ?_
  refine r_iconst (v := (-1)) 13 hZ dX6_take_12 rfl (by decide) ?_
  refine s_c15 14 hZ (by first | assumption | exact vp_in_nI (by omega) (by decide) | (unfold vp_in; decide)) dX6_take_13 rfl ?_
  refine r_aload_n 15 hZ 0 dX6_take_14 rfl rfl rfl ?_
  refine r_iload_n 16 hZ 2 dX6_take_15 rfl rfl rfl ?_
  refine r_if_ne 23 19 hZ dX6_take_16 (by decide) rfl (fun c_16 => ?_) (fun c_16 => ?_)
  · skip
    refine r_iconst (v := (-1)) 24 hZ dX6_take_23 rfl (by decide) ?_
    refine p_X6_19 27 hZ dX6_take_24 rfl ?_
    refine r_iload_n 28 hZ 2 dX6_take_27 rfl rfl rfl ?_
    refine r_iconst (v := 1) 29 hZ dX6_take_28 rfl (by decide) ?_
    refine r_icmp_ne 45 32 hZ dX6_take_29 (by decide) rfl (fun c_29 => ?_) (fun c_29 => ?_)
    · skip
      refine r_iload_n 46 hZ 2 dX6_take_45 rfl rfl rfl ?_
      refine r_iconst (v := 2) 47 hZ dX6_take_46 rfl (by decide) ?_
      refine r_icmp_ne 66 50 hZ dX6_take_47 (by decide) rfl (fun c_47 => ?_) (fun c_47 => ?_)
      · skip
        exact absurd rfl c_47
      · skip
        refine r_aload_n 51 hZ 0 dX6_take_50 rfl rfl rfl ?_
        refine r_aload_n 52 hZ 1 dX6_take_51 rfl rfl rfl ?_
        refine r_iconst (v := 0) 53 hZ dX6_take_52 rfl (by decide) ?_
        refine a_cS 54 hZ (by first | assumption | exact vp_in_nI (by omega) (by decide) | (unfold vp_in; decide)) dX6_take_53 rfl ?_
        refine g_X6_23 57 hZ (by decide) dX6_take_54 rfl ?_
        refine w_eqI (h0.1) ?_
        refine r_aload_n 58 hZ 1 dX6_take_57 rfl rfl rfl ?_
        refine r_iconst (v := 1) 59 hZ dX6_take_58 rfl (by decide) ?_
        refine a_cS 60 hZ (by first | assumption | exact vp_in_nI (by omega) (by decide) | (unfold vp_in; decide)) dX6_take_59 rfl ?_
        refine g_X6_23 63 hZ (by decide) dX6_take_60 rfl ?_
        refine w_eqI (h1.1) ?_
        refine r_callVV (c_X6_takeForTwo l g y ad _ (S := S) h0.2 h1.2 (by exact hS) hS6) wM_X6_takeForTwo wL_X6_32 hZ rfl ⟨by decide, by decide⟩ 5 6 rfl rfl rfl rfl dX6_take_63 ?_
        exact hret _ _ _ dX6_take_66 rfl
    · skip
      exact absurd c_29 (by decide)
  · skip
    exact absurd c_16 (by decide)
set_option maxHeartbeats 4000000 in
set_option maxRecDepth 100000 in
theorem c_X4_remember (l : Launch) (g : va_G) (y : Nat → ClassId) (ad : Nat → Nat) (σ : Nat → Nat → Int32) {M r : Nat} (hM : σ 0 8 = nI M) (hM20 : M < 20) (hr : r ≤ 2) (hk : ∀ k, k < r → okL (σ 17 k) 38) : w_C l g y yX4_remember cX4_remember 6 none 1 [.ref (ad 6), .ref (ad 1), .ref (ad 23), .int (nI r)] (cw ad y σ) none (cw ad y (rememberF σ M r)) := by
  refine w_ofV (lv0 := [(0, .ref (ad 6)), (1, .ref (ad 1)), (2, .ref (ad 23)), (3, .int (nI r))]) (by decide +kernel) (Nat.le_of_ble_eq_true rfl) rfl ?_
  intro Z hZ hret
  have hcM := nI_clamp (n := M) (by omega)
  refine r_iconst (v := 0) 1 hZ dX4_remember_0 rfl (by decide) ?_
  refine r_istN (q := 0) 3 [(0, _), (1, _), (2, _), (3, _), (4, _)] hZ dX4_remember_1 rfl (by decide) rfl rfl ?_
  have lp_3 : ∀ (n : Nat) (i : Nat), i ≤ r → r + 1 ≤ i + n → Z 0 0 (cw ad y (rmF σ M i)) 3 [(0, .ref (ad 6)), (1, .ref (ad 1)), (2, .ref (ad 23)), (3, .int (nI r)), (4, .int (nI i))] [] := by
    intro n
    induction n with
    | zero => intro i h1 hn_3; exact absurd hn_3 (by omega)
    | succ n ih_3 =>
      intro i h1 hn_3
      refine r_iload 5 hZ 4 dX4_remember_3 rfl rfl ?_
      refine r_iload_n 6 hZ 3 dX4_remember_5 rfl rfl rfl ?_
      refine r_icmp_ge 57 9 hZ dX4_remember_6 (by decide) rfl (fun c_6 => ?_) (fun c_6 => ?_)
      · skip
        have hi := nI_leq (by omega) (by omega) c_6
        have hi : i = r := by omega
        subst hi
        have hm := (congrFun (rmF_k σ M 0 (by decide) (by decide) (by decide) i) 8).trans hM
        refine r_aload_n 58 hZ 0 dX4_remember_57 rfl rfl rfl ?_
        refine g_X4_18 61 hZ dX4_remember_58 rfl ?_
        refine r_aload_n 62 hZ 0 dX4_remember_61 rfl rfl rfl ?_
        refine g_X4_26 65 hZ dX4_remember_62 rfl ?_
        refine w_eqI (hm) ?_
        refine r_iload_n 66 hZ 3 dX4_remember_65 rfl rfl rfl ?_
        refine s_c16 67 hZ (by first | assumption | exact vp_in_nI (by omega) (by decide) | (unfold vp_in; decide)) dX4_remember_66 rfl ?_
        rw [hcM]
        refine r_aload_n 68 hZ 0 dX4_remember_67 rfl rfl rfl ?_
        refine r_dup 69 hZ dX4_remember_68 rfl rfl ?_
        refine g_X4_26 72 hZ dX4_remember_69 rfl ?_
        refine w_eqI (hm) ?_
        refine r_iconst (v := 1) 73 hZ dX4_remember_72 rfl (by decide) ?_
        refine r_iadd 74 hZ dX4_remember_73 rfl ?_
        rw [nI_1]
        refine p_X4_26 77 hZ dX4_remember_74 rfl ?_
        exact hret _ _ _ dX4_remember_77 rfl
      · skip
        have hi := nI_nleq (by omega) (by omega) c_6
        have hci := nI_clamp (n := i) (by omega)
        have hm := (congrFun (rmF_k σ M 0 (by decide) (by decide) (by decide) i) 8).trans hM
        have hcm := nI_clamp (n := 2 * M + i) (by omega)
        have e17 : okL (rmF σ M i 17 i) 38 := by rw [rmF_17 σ M i (by omega) i]; exact hk i hi
        refine r_aload_n 10 hZ 2 dX4_remember_9 rfl rfl rfl ?_
        refine r_iload 12 hZ 4 dX4_remember_10 rfl rfl ?_
        refine a_cS 13 hZ (by first | assumption | exact vp_in_nI (by omega) (by decide) | (unfold vp_in; decide)) dX4_remember_12 rfl ?_
        rw [hci]
        refine g_X4_22 16 hZ (by omega) dX4_remember_13 rfl ?_
        refine r_istN (q := 0) 18 [(0, _), (1, _), (2, _), (3, _), (4, _), (5, _)] hZ dX4_remember_16 rfl (by decide) rfl rfl ?_
        refine r_aload_n 19 hZ 0 dX4_remember_18 rfl rfl rfl ?_
        refine g_X4_11 22 hZ dX4_remember_19 rfl ?_
        refine r_aload_n 23 hZ 0 dX4_remember_22 rfl rfl rfl ?_
        refine g_X4_26 26 hZ dX4_remember_23 rfl ?_
        refine w_eqI (hm) ?_
        refine r_iconst (v := 2) 27 hZ dX4_remember_26 rfl (by decide) ?_
        refine r_imul 28 hZ dX4_remember_27 rfl ?_
        rw [show nI M * 2 = nI (2 * M) by rw [show (2 : Int32) = nI 2 from rfl, pk_mul, Nat.mul_comm]]
        refine r_iload 30 hZ 4 dX4_remember_28 rfl rfl ?_
        refine r_iadd 31 hZ dX4_remember_30 rfl ?_
        rw [nI_add]
        refine a_cP 32 hZ (by first | assumption | exact vp_in_nI (by omega) (by decide) | (unfold vp_in; decide)) dX4_remember_31 rfl ?_
        rw [hcm]
        refine r_iload 34 hZ 5 dX4_remember_32 rfl rfl ?_
        refine r_aload_n 35 hZ 1 dX4_remember_34 rfl rfl rfl ?_
        refine g_X4_29 38 hZ dX4_remember_35 rfl ?_
        refine r_iload 40 hZ 5 dX4_remember_38 rfl rfl ?_
        refine a_c2 41 hZ (okL_in e17 (by decide)) dX4_remember_40 rfl ?_
        refine r_aload_n 42 hZ 1 dX4_remember_41 rfl rfl rfl ?_
        refine g_X4_34 45 hZ dX4_remember_42 rfl ?_
        refine r_iload 47 hZ 5 dX4_remember_45 rfl rfl ?_
        refine a_c3 48 hZ (okL_in e17 (by decide)) dX4_remember_47 rfl ?_
        refine r_callVV (c_X1_put l g y ad _ (j := 2 + (2 * M + i)) (by omega) _ _ _) wM_X1_put wL_X4_37 hZ rfl ⟨by decide, by decide⟩ _ 1 (cw_E (by omega)) rfl rfl rfl dX4_remember_48 ?_
        refine r_iinc 54 4 1 [(0, _), (1, _), (2, _), (3, _), (4, _), (5, _)] hZ dX4_remember_51 rfl rfl (by decide) (by decide) rfl rfl ?_
        refine r_goto 3 hZ dX4_remember_54 (by decide) ?_
        rw [nI_1]
        exact w_take 5 hZ (ih_3 (i + 1) (by omega) (by omega))
  exact lp_3 (r + 1) 0 (by omega) (by omega)
set_option maxHeartbeats 4000000 in
set_option maxRecDepth 100000 in
theorem c_X4_takeBackLast (l : Launch) (g : va_G) (y : Nat → ClassId) (ad : Nat → Nat) (σ : Nat → Nat → Int32) {M r : Nat} (hM : σ 0 8 = nI (M + 1)) (hM20 : M < 20) (hr : r ≤ 2) (hsz : σ 16 M = nI r) (hk : ∀ k, k < r → okL (σ 17 (2 + (2 * M + k))) 38) : w_C l g y yX4_takeBackLast cX4_takeBackLast 3 none 1 [.ref (ad 6), .ref (ad 1)] (cw ad y σ) none (cw ad y (tbF σ M r)) := by
  refine w_ofV (lv0 := [(0, .ref (ad 6)), (1, .ref (ad 1))]) (by decide +kernel) (Nat.le_of_ble_eq_true rfl) rfl ?_
  intro Z hZ hret
  have hcM := nI_clamp (n := M) (by omega)
  refine r_aload_n 1 hZ 0 dX4_takeBackLast_0 rfl rfl rfl ?_
  refine r_dup 2 hZ dX4_takeBackLast_1 rfl rfl ?_
  refine g_X4_26 5 hZ dX4_takeBackLast_2 rfl ?_
  refine w_eqI (hM) ?_
  refine r_iconst (v := 1) 6 hZ dX4_takeBackLast_5 rfl (by decide) ?_
  refine r_isub 7 hZ dX4_takeBackLast_6 rfl ?_
  rw [show nI (M + 1) - 1 = nI M from nI_pred M]
  refine p_X4_26 10 hZ dX4_takeBackLast_7 rfl ?_
  refine r_iconst (v := 0) 11 hZ dX4_takeBackLast_10 rfl (by decide) ?_
  refine r_istnN 12 [(0, _), (1, _), (2, _)] hZ dX4_takeBackLast_11 rfl rfl (by decide) rfl rfl ?_
  have lp_12 : ∀ (n : Nat) (i : Nat), i ≤ r → r + 1 ≤ i + n → Z 0 0 (cw ad y (tbF σ M i)) 12 [(0, .ref (ad 6)), (1, .ref (ad 1)), (2, .int (nI i))] [] := by
    intro n
    induction n with
    | zero => intro i h1 hn_12; exact absurd hn_12 (by omega)
    | succ n ih_12 =>
      intro i h1 hn_12
      refine r_iload_n 13 hZ 2 dX4_takeBackLast_12 rfl rfl rfl ?_
      refine r_aload_n 14 hZ 0 dX4_takeBackLast_13 rfl rfl rfl ?_
      refine g_X4_18 17 hZ dX4_takeBackLast_14 rfl ?_
      refine r_aload_n 18 hZ 0 dX4_takeBackLast_17 rfl rfl rfl ?_
      refine g_X4_26 21 hZ dX4_takeBackLast_18 rfl ?_
      refine w_eqI (tbF_8 σ M i) ?_
      refine a_c16 22 hZ (by first | assumption | exact vp_in_nI (by omega) (by decide) | (unfold vp_in; decide)) dX4_takeBackLast_21 rfl ?_
      rw [hcM, tbF_k σ M 16 (by decide) (by decide) (by decide) i, hsz]
      refine r_icmp_ge 48 25 hZ dX4_takeBackLast_22 (by decide) rfl (fun c_22 => ?_) (fun c_22 => ?_)
      · skip
        have hi := nI_leq (by omega) (by omega) c_22
        have hi : i = r := by omega
        subst hi
        exact hret _ _ _ dX4_takeBackLast_48 rfl
      · skip
        have hi := nI_nleq (by omega) (by omega) c_22
        have hcm := nI_clamp (n := 2 * M + i) (by omega)
        refine r_aload_n 26 hZ 1 dX4_takeBackLast_25 rfl rfl rfl ?_
        refine r_aload_n 27 hZ 0 dX4_takeBackLast_26 rfl rfl rfl ?_
        refine g_X4_11 30 hZ dX4_takeBackLast_27 rfl ?_
        refine r_aload_n 31 hZ 0 dX4_takeBackLast_30 rfl rfl rfl ?_
        refine g_X4_26 34 hZ dX4_takeBackLast_31 rfl ?_
        refine w_eqI (tbF_8 σ M i) ?_
        refine r_iconst (v := 2) 35 hZ dX4_takeBackLast_34 rfl (by decide) ?_
        refine r_imul 36 hZ dX4_takeBackLast_35 rfl ?_
        rw [show nI M * 2 = nI (2 * M) by rw [show (2 : Int32) = nI 2 from rfl, pk_mul, Nat.mul_comm]]
        refine r_iload_n 37 hZ 2 dX4_takeBackLast_36 rfl rfl rfl ?_
        refine r_iadd 38 hZ dX4_takeBackLast_37 rfl ?_
        rw [nI_add]
        refine a_cP 39 hZ (by first | assumption | exact vp_in_nI (by omega) (by decide) | (unfold vp_in; decide)) dX4_takeBackLast_38 rfl ?_
        rw [hcm]
        refine r_callVV (c_X3_rewire l g y ad _ (j := 2 + (2 * M + i)) (by omega) (by rw [tbF_k σ M 17 (by decide) (by decide) (by decide) i]; exact hk i hi)) wM_X3_rewire wL_X4_41 hZ rfl ⟨by decide, by decide⟩ 1 3 rfl rfl rfl rfl dX4_takeBackLast_39 ?_
        refine r_iinc 45 2 1 [(0, _), (1, _), (2, _)] hZ dX4_takeBackLast_42 rfl rfl (by decide) (by decide) rfl rfl ?_
        refine r_goto 12 hZ dX4_takeBackLast_45 (by decide) ?_
        rw [nI_1]
        exact ih_12 (i + 1) (by omega) (by omega)
  exact lp_12 (r + 1) 0 (by omega) (by omega)
set_option maxHeartbeats 4000000 in
set_option maxRecDepth 100000 in
theorem c_X7_differing (l : Launch) (g : va_G) (y : Nat → ClassId) (ad : Nat → Nat) (σ : Nat → Nat → Int32) {N I O G : Nat} (hs : Ws σ N I O G) : w_C l g y yX7_differing cX7_differing 3 (some .int) 2 [.ref (ad 0)] (cw ad y σ) (some (.int (nI (cnt (fun i => ¬ df σ 4 i = 0) G)))) (cw ad y σ) := by
  refine w_ofI (lv0 := [(0, .ref (ad 0))]) (by decide +kernel) (Nat.le_of_ble_eq_true rfl) rfl (rfl) ?_
  intro Z hZ hret
  obtain ⟨hN, hI, hO, hG, h38, h14, h4, hw, hl, hgm, hgd⟩ := hs
  refine r_iconst (v := 0) 1 hZ dX7_differing_0 rfl (by decide) ?_
  refine r_istnN 2 [(0, _), (1, _)] hZ dX7_differing_1 rfl rfl (by decide) rfl rfl ?_
  refine r_iconst (v := 0) 3 hZ dX7_differing_2 rfl (by decide) ?_
  refine r_istnN 4 [(0, _), (1, _), (2, _)] hZ dX7_differing_3 rfl rfl (by decide) rfl rfl ?_
  have lp_4 : ∀ (n : Nat) (i : Nat), i ≤ G → G + 1 ≤ i + n → Z 0 0 (cw ad y σ) 4 [(0, .ref (ad 0)), (1, .int (nI (cnt (fun i => ¬ df σ 4 i = 0) i))), (2, .int (nI i))] [] := by
    intro n
    induction n with
    | zero => intro i h1 hn_4; exact absurd hn_4 (by omega)
    | succ n ih_4 =>
      intro i h1 hn_4
      refine r_iload_n 5 hZ 2 dX7_differing_4 rfl rfl rfl ?_
      refine r_aload_n 6 hZ 0 dX7_differing_5 rfl rfl rfl ?_
      refine g_X7_19 9 hZ dX7_differing_6 rfl ?_
      refine g_X7_117 12 hZ dX7_differing_9 rfl ?_
      refine w_eqI (hG) ?_
      refine r_icmp_ge 42 15 hZ dX7_differing_12 (by decide) rfl (fun c_12 => ?_) (fun c_12 => ?_)
      · skip
        have hi := nI_leq (by omega) (by omega) c_12
        have hi : i = G := by omega
        subst hi
        refine r_iload_n 43 hZ 1 dX7_differing_42 rfl rfl rfl ?_
        exact hret _ _ _ _ dX7_differing_43 rfl rfl
      · skip
        have hi := nI_nleq (by omega) (by omega) c_12
        refine r_aload_n 16 hZ 0 dX7_differing_15 rfl rfl rfl ?_
        refine g_X7_19 19 hZ dX7_differing_16 rfl ?_
        refine r_aload_n 20 hZ 0 dX7_differing_19 rfl rfl rfl ?_
        refine g_X7_12 23 hZ dX7_differing_20 rfl ?_
        refine g_X7_127 26 hZ dX7_differing_23 rfl ?_
        refine r_iload_n 27 hZ 2 dX7_differing_26 rfl rfl rfl ?_
        refine r_callVI (c_X2_difference_4 l g y ad σ (i := i) (by omega) (hgm i hi) (hgd i hi)) wM_X2_difference wL_X7_135 hZ rfl ⟨by decide, by decide⟩ 2 2 rfl rfl rfl rfl dX7_differing_27 ?_
        refine r_if_eq 36 33 hZ dX7_differing_30 (by decide) rfl (fun c_30 => ?_) (fun c_30 => ?_)
        · skip
          have hk := cnt_f (P := fun i => ¬ df σ 4 i = 0) (i := i) (fun q => q c_30)
          rw [← hk]
          first | rw [nI_1, ← hk] | skip
          refine r_iinc 39 2 1 [(0, _), (1, _), (2, _)] hZ dX7_differing_36 rfl rfl (by decide) (by decide) rfl rfl ?_
          refine r_goto 4 hZ dX7_differing_39 (by decide) ?_
          rw [nI_1]
          exact ih_4 (i + 1) (by omega) (by omega)
        · skip
          have hk := cnt_t (P := fun i => ¬ df σ 4 i = 0) (i := i) c_30
          refine r_iinc 36 1 1 [(0, _), (1, _), (2, _)] hZ dX7_differing_33 rfl rfl (by decide) (by decide) rfl rfl ?_
          first | rw [nI_1, ← hk] | skip
          refine r_iinc 39 2 1 [(0, _), (1, _), (2, _)] hZ dX7_differing_36 rfl rfl (by decide) (by decide) rfl rfl ?_
          refine r_goto 4 hZ dX7_differing_39 (by decide) ?_
          rw [nI_1]
          exact ih_4 (i + 1) (by omega) (by omega)
  exact lp_4 (G + 1) 0 (by omega) (by omega)
end
section
theorem zz_look : True := trivial
end
