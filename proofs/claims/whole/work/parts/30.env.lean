/-! what throws and the static row stand on -/
abbrev xIO : String := "java/lang/IndexOutOfBoundsException"
abbrev xIS : String := "java/lang/IllegalStateException"
abbrev xIA : String := "java/lang/IllegalArgumentException"
abbrev xRT : String := "java/lang/RuntimeException"
abbrev xEX : String := "java/lang/Exception"
def w_B (X : String) : List Cond := [.castable X X, .declares (Bundle.initS xRT), .declares (Bundle.initS xEX), .declares (Bundle.initS Bundle.tN)]
def w_strs : List (Nat × String) := [(70, "there are 5 inputs, or an AND"), (85, "no such literal"), (88, "there are 8 old ANDs"), (96, "a literal is of an asked AND"), (110, "there are 24 asked ANDs"), (112, "a literal is of an old AND"), (120, "there are 4 outputs"), (122, "a literal is of the other design"), (138, "no such output"), (150, "no such old AND"), (160, "x or y is not -1000 .. 1000"), (169, "there are 6 spares"), (174, "most is not 0 .. 2"), (187, "no such what"), (189, "nothing is run"), (191, "no such edit"), (213, "nothing is run, or 20 were made"), (230, "no such old AND, or no such literal of it")]
def w_VB (X : String) (U : State) : Prop := va_Nw (.castable X X) U ∧ va_Nw (.declares (Bundle.initS xRT)) U ∧ va_Nw (.declares (Bundle.initS xEX)) U ∧ va_Nw (.declares (Bundle.initS Bundle.tN)) U
theorem w_VB.all {X : String} {U : State} (h : w_VB X U) : ∀ w ∈ w_B X, va_Nw w U := List.forall_mem_cons.mpr ⟨h.1, List.forall_mem_cons.mpr ⟨h.2.1, List.forall_mem_cons.mpr ⟨h.2.2.1, List.forall_mem_cons.mpr ⟨h.2.2.2, fun _ h => absurd h List.not_mem_nil⟩⟩⟩⟩
theorem w_VB.warm {X : String} {s U : State} (hW : s.WarmedH U.vm) (h : w_VB X s) : w_VB X U := ⟨va_Nw.warmC hW h.1, va_Nw.warmD hW h.2.1, va_Nw.warmD hW h.2.2.1, va_Nw.warmD hW h.2.2.2⟩
theorem w_VB.same {X : String} {u U : State} (hv : u.vm = U.vm) (h : w_VB X u) : w_VB X U := ⟨va_Nw.same rfl hv h.1, va_Nw.same rfl hv h.2.1, va_Nw.same rfl hv h.2.2.1, va_Nw.same rfl hv h.2.2.2⟩
def w_V (U : State) : Prop := (w_VB xIO U ∧ w_VB xIS U ∧ w_VB xIA U) ∧ (va_Nc xIS xIO U ∧ va_Nc xIA xIO U ∧ va_Nc xIA xIS U ∧ va_Nc xIO xIS U) ∧ ∀ q ∈ w_strs, ∃ sa, vk_R RX7 q.1 q.2 sa U
theorem w_V.warm {s U : State} (hW : s.WarmedH U.vm) (h : w_V s) : w_V U := ⟨⟨h.1.1.warm hW, h.1.2.1.warm hW, h.1.2.2.warm hW⟩, ⟨va_Nc.moved hW.alike h.2.1.1, va_Nc.moved hW.alike h.2.1.2.1, va_Nc.moved hW.alike h.2.1.2.2.1, va_Nc.moved hW.alike h.2.1.2.2.2⟩, fun q hq => (h.2.2 q hq).imp fun _ h => vk_R.warm hW h⟩
theorem w_V.same {u U : State} (hv : u.vm = U.vm) (h : w_V u) : w_V U := ⟨⟨h.1.1.same hv, h.1.2.1.same hv, h.1.2.2.same hv⟩, ⟨va_Nc.moved (hv ▸ Vm.Alike.refl _) h.2.1.1, va_Nc.moved (hv ▸ Vm.Alike.refl _) h.2.1.2.1, va_Nc.moved (hv ▸ Vm.Alike.refl _) h.2.1.2.2.1, va_Nc.moved (hv ▸ Vm.Alike.refl _) h.2.1.2.2.2⟩, fun q hq => (h.2.2 q hq).imp fun _ h => vk_R.same hv.symm h⟩
/-- the inputs' columns, as the class holds them -/
def icol : Nat → Int32
  | 0 => -1431655766
  | 1 => -858993460
  | 2 => -252645136
  | 3 => -16711936
  | _ => -65536
def w_E (A : Nat → Prop) (U : State) (H : Heap) : Prop := w_V U ∧ vx_Zq Bundle.tN "UNASSIGNED_STACK" Bundle.steD A U H ∧ vx_Zq Bundle.tN "SUPPRESSED_SENTINEL" Bundle.listD A U H ∧ ∃ tI, va_Z "LeastEdits" "INPUT_COLUMNS" "[I" (.ref tI) A U H ∧ va_T .int tI 5 (fun j => .int (icol j)) A U H
theorem w_E.go {s U : State} {A B : Nat → Prop} {H : Heap} {locs : List Loc} (h : w_E A s s.heap) (hS : va_S A s.heap H locs) (hW : s.WarmedH U.vm) (hU : U.heap = H) (hB : ∀ q, B q → A q) : w_E B U U.heap := by
  obtain ⟨h1, h2, h3, tI, h4, h5⟩ := h
  rw [hU]
  exact ⟨h1.warm hW, ((h2.kept hS.2.1).narrow hB).moved hW.alike, ((h3.kept hS.2.1).narrow hB).moved hW.alike, tI, ((h4.kept hS.2.1).narrow hB).moved hW.alike, ((h5.kept hS.2.1).narrow hB).moved hW.alike⟩
theorem w_E.call {A : Nat → Prop} {U : State} {gg : JFrame} {mk : MethodId} {a : Array Value} (h : w_E A U U.heap) : w_E A (U.calling gg mk a) (U.calling gg mk a).heap := by
  obtain ⟨h1, h2, h3, tI, h4, h5⟩ := h
  exact ⟨w_V.same (u := U) rfl h1, vx_Zq.moved (u := U) (U := U.calling gg mk a) (Vm.Alike.refl U.vm) h2, vx_Zq.moved (u := U) (U := U.calling gg mk a) (Vm.Alike.refl U.vm) h3, tI, va_Z.moved (u := U) (U := U.calling gg mk a) (Vm.Alike.refl U.vm) h4, va_T.moved (u := U) (U := U.calling gg mk a) (Vm.Alike.refl U.vm) h5⟩
def w_PcE (g : va_G) (y : Nat → ClassId) (sz : Nat) (av : List Value) (ws : va_W) : Array Value → State → Prop := va_Pc av (fun U => U.heap.size = sz ∧ va_P g vwCl ws U.heap ∧ va_K g vwCl (w_ty y) U ∧ va_D (fun _ => True) ws ∧ w_NW U ∧ w_E (va_A ws sz) U U.heap)
theorem w_PcE.blind {g : va_G} {y : Nat → ClassId} {sz : Nat} {av : List Value} {ws : va_W} : FrameBlind (w_PcE g y sz av ws) := by
  intro a U gg mk q
  obtain ⟨q0, q1, qP, qK, qD, qN, qE⟩ := q
  exact ⟨q0, q1, qP, va_K.moved (u := U) (U := U.calling gg mk a) (Vm.Alike.refl U.vm) qK, qD, w_NW.same rfl qN, qE.call⟩
abbrev w_rmX (d : Nat) : Room := { frames := d, cells := 1, slots := 6, locals := 34 * d }
def w_CE (l : Launch) (g : va_G) (y : Nat → ClassId) (yN : MethodName) (cc : ByteArray) (mL : Nat) (ret : Option FieldType) (d : Nat) (av : List Value) (ws : va_W) (ov : Option Value) (ws' : va_W) : Prop :=
  ∀ sz, Met l yN (.code yN cc mL ret :: UW) (w_rm d) (w_PcE g y sz av ws) (w_Q g y ws sz ov ws') 0 0 (va_A ws sz)
theorem w_C.e {l : Launch} {g : va_G} {y : Nat → ClassId} {yN : MethodName} {cc : ByteArray} {mL : Nat} {ret : Option FieldType} {d : Nat} {av : List Value} {ws : va_W} {ov : Option Value} {ws' : va_W} (h : w_C l g y yN cc mL ret d av ws ov ws') : w_CE l g y yN cc mL ret d av ws ov ws' := fun sz p e ha hc hk s m args below hf happ hP ht => h sz p e ha hc hk s m args below hf happ ⟨hP.1, hP.2.1, hP.2.2.1, hP.2.2.2.1, hP.2.2.2.2.1, hP.2.2.2.2.2.1⟩ ht
def w_XC (g : va_G) (y : Nat → ClassId) (ws : va_W) (sz : Nat) (E : String) : String → State → State → Prop := fun E' st t => E' = E ∧ va_P g vwCl ws t.heap ∧ va_K g vwCl (w_ty y) t ∧ va_D (va_A ws sz) ws ∧ va_F (va_A ws sz) st t
/-- the method throws E, the world as it was -/
def w_T (l : Launch) (g : va_G) (y : Nat → ClassId) (yN : MethodName) (cc : ByteArray) (mL : Nat) (ret : Option FieldType) (d : Nat) (av : List Value) (ws : va_W) (E : String) : Prop :=
  ∀ sz, vx_Met l yN (.code yN cc mL ret :: UW) (w_rmX d) (w_PcE g y sz av ws) (fun _ _ _ _ => False) (w_XC g y ws sz E) 1 6 (va_A ws sz)
/-- a method with a table that returns an int, one exception made at most -/
def w_H (l : Launch) (g : va_G) (y : Nat → ClassId) (yN : MethodName) (cc : ByteArray) (mL : Nat) (hh : List (Nat × Nat × Nat × Nat)) (d : Nat) (av : List Value) (ws : va_W) (k : Int32) (ws' : va_W) : Prop :=
  ∀ sz, vx_Met l yN (.codeWith yN cc mL (some .int) hh :: UW) (w_rmX d) (w_PcE g y sz av ws) (w_Q g y ws sz (some (.int k)) ws') (fun _ _ _ => False) 1 6 (va_A ws sz)
/-- w_Is, and the environment -/
def w_IsE (l : Launch) (g : va_G) (y : Nat → ClassId) (R : Room) (cc : ByteArray) (own : String) (nL : Nat) (Z : Nat → Nat → va_W → Nat → List (Nat × Value) → List Value → Prop) : Prop :=
  ∃ (p : Program) (e : Env) (s : State) (m : MethodId) (args : Array Value) (below : List Frame) (meth : Method) (c : Code) (A : Nat → Prop) (Q : State → Prop),
    (p.tables.exec = Jvm.exec ∧ c.code = cc ∧ c.maxLocals = nL ∧ s.vm.findClass own = some m.cls ∧ (∀ w ∈ UW, w.before args s = true) ∧ va_K g vwCl (w_ty y) s ∧ (∀ q, s.heap.size ≤ q → A q) ∧ w_NW s) ∧
    (∀ k n ws pc lv st, (Z k n ws pc lv st ↔ (k ≤ R.cells → n ≤ R.slots → ∀ (H : Heap) (locs : List Loc) (ls : Array Slot), va_P g vwCl ws H → va_D A ws → va_S A s.heap H locs → lv_has ls nL lv → W p l e R s m args below meth c H locs k n Q (F0 m pc ls st)))) ∧ w_E A s s.heap
theorem w_IsE.is {l : Launch} {g : va_G} {y : Nat → ClassId} {R : Room} {cc : ByteArray} {own : String} {nL : Nat} {Z : Nat → Nat → va_W → Nat → List (Nat × Value) → List Value → Prop} (h : w_IsE l g y R cc own nL Z) : w_Is l g y R cc own nL Z := by
  obtain ⟨p, e, s, m, args, below, meth, c, A, Q, h1, h2, -⟩ := h
  exact ⟨p, e, s, m, args, below, meth, c, A, Q, h1, h2⟩
section WEX
variable {l : Launch} {g : va_G} {y : Nat → ClassId} {R : Room} {cc : ByteArray} {own : String} {nL : Nat} {Z : Nat → Nat → va_W → Nat → List (Nat × Value) → List Value → Prop} {k n pc : Nat} {ws ws' : va_W} {lv : List (Nat × Value)} {st rest : List Value}
variable {yN : MethodName} {c1 : ByteArray} {mL d na : Nat} {ret : Option FieldType} {av : List Value} {v : Value} {b idx : Nat}
theorem r_callVE (hC : w_CE l g y yN c1 mL ret d (.ref b :: av) ws (some v) ws') (hM : w_MV yN c1 mL ret na) (wl : Cond.methodLink own idx yN ∈ UW) (hZ : w_IsE l g y R cc own nL Z) (hna : av.length = na) (hR : d + 1 ≤ R.frames ∧ 8 + (mL + 11) + 34 * d ≤ R.locals) (q0 ci : Nat) {fs : List Value} {T : u_T} {N : Nat} (he : ws[q0]? = some (b, .inr (ci, fs))) (hcl : vwCl[ci]? = some (yN.cls, T, N)) (hst : st = av.reverse ++ .ref b :: rest) (hW : Nat.ble (rest.map fun v => v.category).sum 8 = true) (dd : decode cc pc = .ok (.invokevirtual idx, 3)) (k1 : Z k n ws' (pc + 3) lv (v :: rest)) : Z k n ws pc lv st := by
  obtain ⟨p, e, s, m, args, below, meth, c, A, Q, ⟨hx, hb, hml, hown, hts, hK, hA, hN⟩, hi, hE⟩ := hZ
  rw [hi] at k1 ⊢
  obtain ⟨wi, wsel, wini, wc, hdd⟩ := hM
  intro h1 h2 H locs ls hP hD hS hl
  have hF : ∀ q, va_A ws H.size q → A q := fun q h => h.elim (fun ⟨k, e, h⟩ => hD.2 k (q, e) h) (fun h => hA q (Nat.le_trans hS.1 h))
  refine w_call (va_runV (As := av) (rest := rest) ⟨hx, hb, hml, hown, hts⟩ (hC H.size) (cwV na hts (show GoodIn UW (wsV own idx yN.cls yN (.code yN c1 mL ret :: UW)) from uw_cons wl (uw_cons wi (uw_cons wsel (uw_cons wini (w_uw yN c1 mL ret wc))))) rfl rfl rfl ⟨rfl, hdd⟩ hR) ⟨w_PcE.blind, va_recv hK hP hcl he, fun U hU hW => ⟨rfl, by rw [hU], by rw [hU]; exact hP, va_K.moved hW.alike hK, hD.weaken (fun _ _ _ _ => trivial), w_NW.warm hW hN, hE.go hS hW hU hF⟩⟩ rfl hna hl.1 hst (lv_room (Nat.le_of_ble_eq_true hW)) dd ⟨h1, h2⟩) hP hD hS hA (fun H1 locs1 hP1 hD1 hS1 => k1 h1 h2 H1 locs1 ls hP1 hD1 hS1 hl)
/-- getstatic of the inputs' columns, and the row that reads them -/
theorem r_getsI (pc2 : Nat) (hZ : w_IsE l g y R cc RX3 nL Z) (dd : decode cc pc = .ok (.getstatic 48, 3)) (hp : pc + 3 = pc2) (k1 : ∀ tI, (∀ (k n : Nat) (ws : va_W) (pc pc2 : Nat) (lv : List (Nat × Value)) (st : List Value) (i : Int32), vp_in i 5 → decode cc pc = .ok (.iaload, 1) → pc + 1 = pc2 → Z k n ws pc2 lv (.int (icol i.toNatClampNeg) :: st) → Z k n ws pc lv (.int i :: .ref tI :: st)) → Z k n ws pc2 lv (.ref tI :: st)) : Z k n ws pc lv st := by
  obtain ⟨p, e, s, m, args, below, meth, c, A, Q, ⟨hx, hb, hml, hown, hts, hK, hA, hN⟩, hi, hV, -, -, tI, hZ, hT⟩ := hZ
  subst hp
  have k2 := k1 tI (fun k n ws pc pc2 lv st i hin dd hp k3 => by
    subst hp
    rw [hi] at k3 ⊢
    exact fun h1 h2 H locs ls hP hD hS hl => va_ti hx hb hT hS hin rfl dd (k3 h1 h2 H locs ls hP hD hS hl))
  rw [hi] at k2 ⊢
  exact fun h1 h2 H locs ls hP hD hS hl => va_getsN hx hb hZ hS hown (va_Nw.use rfl (w_nw_X3_48 s hN)) (fun _ h => h) dd (k2 h1 h2 H locs ls hP hD hS hl)
theorem w_ofIE {r : Int32} {lv0 : List (Nat × Value)} (hpl : plainName yN.cls = true) (hsl : (lg_sl av).length ≤ mL) (hlv : lv_args 0 av = lv0)
    (body : ∀ Z, w_IsE l g y (w_rm d) c1 yN.cls mL Z → (∀ ws2 r2 pc lv, decode c1 pc = .ok (.ireturn, 1) → r2 = r → ws2 = ws' → Z 0 0 ws2 pc lv [.int r2]) → Z 0 0 ws 0 lv0 []) : w_CE l g y yN c1 mL (some .int) d av ws (some (.int r)) ws' := by
  intro sz
  refine Met.ofW (cc := c1) (maxL := mL) (ret := some .int) hpl rfl ?_
  intro p e s m args below meth c s₁ B hml hv
  obtain ⟨rfl, hsz, hP, hK, hD0, hN, hE⟩ := hv
  subst hsz
  have hts := atoms_spec (ws := .code yN c1 mL (some .int) :: UW) B.pre
  have h := body (fun k n ws2 pc lv st => (k ≤ (w_rm d).cells → n ≤ (w_rm d).slots → ∀ (H : Heap) (locs : List Loc) (ls : Array Slot), va_P g vwCl ws2 H → va_D (va_A ws s.heap.size) ws2 → va_S (va_A ws s.heap.size) s.heap H locs → lv_has ls mL lv → W p l e (w_rm d) s m av.toArray below meth c H locs k n (MQ below (w_Q g y ws s.heap.size (some (.int r)) ws') av.toArray s 0 0 (va_A ws s.heap.size)) (F0 m pc ls st)))
    ⟨p, e, s, m, av.toArray, below, meth, c, _, _, ⟨B.exec, B.bytes, hml, findClass_of_methodNamed B.named, fun w hw => hts w (List.mem_cons_of_mem _ hw), hK, fun q h => Or.inr h, hN⟩, fun _ _ _ _ _ _ => Iff.rfl, hE⟩
    (by
      intro ws2 r2 pc lv dd e1 e2
      subst e1; subst e2
      intro _ _ H locs ls hP hD hS hl
      exact W.zret B.exec B.bytes B.returns rfl (fun t ht hW => ⟨⟨rfl, by rw [ht]; exact hP, va_K.moved hW.alike hK, hD⟩, hS.F ht⟩) hS.2.2 dd B.notSynchronized)
  have hl := lv_entry av (n := mL) hsl
  rw [lg_entry_eq]
  rw [hlv] at hl
  exact h (Nat.zero_le _) (Nat.zero_le _) s.heap [] _ hP (hD0.self) va_S.rf hl
/-- a body that throws E -/
def w_IsT (l : Launch) (g : va_G) (y : Nat → ClassId) (R : Room) (cc : ByteArray) (own : String) (nL : Nat) (Z : Nat → Nat → va_W → Nat → List (Nat × Value) → List Value → Prop) (ws0 : va_W) (E : String) : Prop :=
  ∃ (p : Program) (e : Env) (s : State) (m : MethodId) (args : Array Value) (below : List Frame) (meth : Method) (c : Code),
    (p.tables.exec = Jvm.exec ∧ c.code = cc ∧ c.maxLocals = nL ∧ s.vm.findClass own = some m.cls ∧ (∀ w ∈ UW, w.before args s = true) ∧ va_K g vwCl (w_ty y) s ∧ w_NW s) ∧
    (∀ k n ws pc lv st, (Z k n ws pc lv st ↔ (k ≤ R.cells → n ≤ R.slots → ∀ (H : Heap) (locs : List Loc) (ls : Array Slot), va_P g vwCl ws H → va_D (va_A ws0 s.heap.size) ws → va_S (va_A ws0 s.heap.size) s.heap H locs → lv_has ls nL lv → W p l e R s m args below meth c H locs k n (vx_MQ below (fun _ _ _ _ => False) (w_XC g y ws0 s.heap.size E) args s 1 6 (va_A ws0 s.heap.size)) (F0 m pc ls st)))) ∧
    w_E (va_A ws0 s.heap.size) s s.heap ∧ meth.locks = false ∧ (∀ x ∈ c.exceptionTable.toList, False) ∧ l.stackTraces = false
theorem w_IsT.is {ws0 : va_W} {E : String} (h : w_IsT l g y R cc own nL Z ws0 E) : w_Is l g y R cc own nL Z := by
  obtain ⟨p, e, s, m, args, below, meth, c, ⟨h1, h2, h3, h4, h5, h6, h7⟩, h8, -⟩ := h
  exact ⟨p, e, s, m, args, below, meth, c, _, _, ⟨h1, h2, h3, h4, h5, h6, fun q h => Or.inr h, h7⟩, h8⟩
theorem w_ofT {E : String} {lv0 : List (Nat × Value)} (hst : l.stackTraces = false) (hpl : plainName yN.cls = true) (hsl : (lg_sl av).length ≤ mL) (hlv : lv_args 0 av = lv0)
    (body : ∀ Z, w_IsT l g y (w_rmX d) c1 yN.cls mL Z ws E → Z 0 0 ws 0 lv0 []) : w_T l g y yN c1 mL ret d av ws E := by
  intro sz
  refine vx_ofW (cc := c1) (maxL := mL) (ret := ret) hpl rfl ?_
  intro p e s m args below meth c s₁ B hml hno hv
  obtain ⟨rfl, hsz, hP, hK, hD0, hN, hE⟩ := hv
  subst hsz
  have hts := atoms_spec (ws := .code yN c1 mL ret :: UW) B.pre
  have h := body (fun k n ws2 pc lv st => (k ≤ (w_rmX d).cells → n ≤ (w_rmX d).slots → ∀ (H : Heap) (locs : List Loc) (ls : Array Slot), va_P g vwCl ws2 H → va_D (va_A ws s.heap.size) ws2 → va_S (va_A ws s.heap.size) s.heap H locs → lv_has ls mL lv → W p l e (w_rmX d) s m av.toArray below meth c H locs k n (vx_MQ below (fun _ _ _ _ => False) (w_XC g y ws s.heap.size E) av.toArray s 1 6 (va_A ws s.heap.size)) (F0 m pc ls st)))
    ⟨p, e, s, m, av.toArray, below, meth, c, ⟨B.exec, B.bytes, hml, findClass_of_methodNamed B.named, fun w hw => hts w (List.mem_cons_of_mem _ hw), hK, hN⟩, fun _ _ _ _ _ _ => Iff.rfl, hE, B.notSynchronized, hno, hst⟩
  have hl := lv_entry av (n := mL) hsl
  rw [lg_entry_eq]
  rw [hlv] at hl
  exact h (Nat.zero_le _) (Nat.zero_le _) s.heap [] _ hP (hD0.self) va_S.rf hl
theorem r_throw {ws0 : va_W} {E text : String} {ik is ic : Nat} {names : List String} {V : State → Prop} (hT : w_IsT l g y R cc RX7 nL Z ws0 E) (hcls : Bundle.fit E = true) (hnames : ∀ n ∈ names, Bundle.fit n = true) (wk : Cond.classLink RX7 ik E ∈ UW) (wi : Cond.initialized E ∈ UW) (hq : (is, text) ∈ w_strs) (hB : ∀ U, w_V U → w_VB E U)
    (hat : ∀ w ∈ Bundle.ownAtoms RX7 ic E names, w ∈ UW ∨ w ∈ w_B E ∨ vx_no w = false) (hR : names.length + 3 < R.frames ∧ 8 + (13 * (names.length + 1) + 43) ≤ R.locals ∧ 1 ≤ R.cells ∧ 6 ≤ R.slots) (hW : Nat.ble (st.map fun v => v.category).sum 8 = true)
    (d0 : decode cc pc = .ok (.new ik, 3)) (d3 : decode cc (pc + 3) = .ok (.dup, 1)) (d4 : decode cc (pc + 4) = .ok (.ldc is, 2)) (d6 : decode cc (pc + 6) = .ok (.invokespecial ic, 3)) (d9 : decode cc (pc + 9) = .ok (.athrow, 1)) : Z 0 0 ws0 pc lv st := by
  obtain ⟨p, e, s, m, args, below, meth, c, ⟨hx, hb, hml, hown, hts, hK, hN⟩, hi, hE, hlo, hno, hst⟩ := hT
  rw [hi]
  intro h1 h2 H locs ls hP hD hS hl
  obtain ⟨sa, hsa⟩ := hE.1.2.2 _ hq
  have hVB := (hB s hE.1).all
  have hw : ∀ w ∈ vx_atS RX7 ic E names, w.before args s = true ∧ vx_ot w = true := by
    intro w hw
    obtain ⟨a1, a2⟩ := List.mem_filter.mp hw
    rcases hat w a1 with h | h | h
    · exact ⟨hts w h, by unfold vx_ot; rw [uw_gd h]; simp⟩
    · have ho : w.onTables = true := by
        unfold w_B at h
        simp only [List.mem_cons, List.not_mem_nil, or_false] at h
        rcases h with rfl | rfl | rfl | rfl <;> rfl
      exact ⟨va_Nw.use ho (hVB w h), by unfold vx_ot; rw [ho]; simp⟩
    · rw [h] at a2; cases a2
  have hW := Nat.le_of_ble_eq_true hW
  exact vx_throwS hx hb hst (A := va_A ws0 s.heap.size) hown hcls hnames (hts _ wk) (hts _ wi) hsa (fun w h => (hw w h).1)
    (List.forall_mem_cons.mpr ⟨by unfold vx_ot; rw [uw_gd wk]; simp, List.forall_mem_cons.mpr ⟨by unfold vx_ot; rw [uw_gd wi]; simp, fun w h => (hw w h).2⟩⟩) hE.2.1 hE.2.2.1 hS (hl.1.trans hml.symm) d0 d3 d4 d6 d9 (fun x h => (hno x h).elim) hR.1 (by omega) (by omega) (by omega) hlo
    (fun t hal hz hk => ⟨rfl, fun k q hq => (hP k q hq).kept (hk q.1 (hP k q hq).lt), va_K.moved hal hK, hD, ⟨Nat.le_trans hS.1 hz, fun q a b => (hk q (Nat.lt_of_lt_of_le a hS.1)).trans (hS.2.1 q a b)⟩⟩) (fun z hz => hS.2.2 z hz) (Nat.le_refl 1) (Nat.le_refl 6)
end WEX
theorem at_thA (X : String) : ∀ w ∈ Bundle.throwableAtoms, w ∈ UW ∨ w ∈ w_B X ∨ vx_no w = false := List.forall_mem_cons.mpr ⟨Or.inl (uw_at 10 (by decide +kernel) rfl), List.forall_mem_cons.mpr ⟨Or.inl (uw_at 302 (by decide +kernel) rfl), List.forall_mem_cons.mpr ⟨Or.inl (uw_at 311 (by decide +kernel) rfl), List.forall_mem_cons.mpr ⟨Or.inl (uw_at 315 (by decide +kernel) rfl), List.forall_mem_cons.mpr ⟨Or.inl (uw_at 318 (by decide +kernel) rfl), List.forall_mem_cons.mpr ⟨Or.inl (uw_at 320 (by decide +kernel) rfl), List.forall_mem_cons.mpr ⟨Or.inl (uw_at 303 (by decide +kernel) rfl), List.forall_mem_cons.mpr ⟨Or.inl (uw_at 304 (by decide +kernel) rfl), List.forall_mem_cons.mpr ⟨Or.inl (uw_at 24 (by decide +kernel) rfl), List.forall_mem_cons.mpr ⟨Or.inl (uw_at 25 (by decide +kernel) rfl), List.forall_mem_cons.mpr ⟨Or.inl (uw_at 305 (by decide +kernel) rfl), List.forall_mem_cons.mpr ⟨Or.inl (uw_at 310 (by decide +kernel) rfl), List.forall_mem_cons.mpr ⟨Or.inl (uw_at 316 (by decide +kernel) rfl), List.forall_mem_cons.mpr ⟨Or.inl (uw_at 336 (by decide +kernel) rfl), List.forall_mem_cons.mpr ⟨Or.inl (uw_at 292 (by decide +kernel) rfl), List.forall_mem_cons.mpr ⟨Or.inl (uw_at 337 (by decide +kernel) rfl), List.forall_mem_cons.mpr ⟨Or.inl (uw_at 294 (by decide +kernel) rfl), List.forall_mem_cons.mpr ⟨Or.inl (uw_at 338 (by decide +kernel) rfl), List.forall_mem_cons.mpr ⟨Or.inl (uw_at 296 (by decide +kernel) rfl), List.forall_mem_cons.mpr ⟨Or.inl (uw_at 306 (by decide +kernel) rfl), List.forall_mem_cons.mpr ⟨Or.inr (Or.inr (by decide +kernel)), List.forall_mem_cons.mpr ⟨Or.inl (uw_at 308 (by decide +kernel) rfl), List.forall_mem_cons.mpr ⟨Or.inr (Or.inr (by decide +kernel)), List.forall_mem_cons.mpr ⟨Or.inl (uw_at 298 (by decide +kernel) rfl), fun _ h => absurd h List.not_mem_nil⟩⟩⟩⟩⟩⟩⟩⟩⟩⟩⟩⟩⟩⟩⟩⟩⟩⟩⟩⟩⟩⟩⟩⟩
theorem at_thS (X : String) : ∀ w ∈ Bundle.throwableSAtoms, w ∈ UW ∨ w ∈ w_B X ∨ vx_no w = false := List.forall_mem_cons.mpr ⟨Or.inl (uw_at 332 (by decide +kernel) rfl), List.forall_mem_cons.mpr ⟨Or.inl (uw_at 333 (by decide +kernel) rfl), List.forall_mem_cons.mpr ⟨Or.inl (uw_at 335 (by decide +kernel) rfl), List.forall_mem_cons.mpr ⟨Or.inl (uw_at 298 (by decide +kernel) rfl), fun _ h => absurd h List.not_mem_nil⟩⟩⟩⟩
theorem at_pRT (X : String) : ∀ w ∈ Bundle.passSAtoms xRT xEX 7 Bundle.six, w ∈ UW ∨ w ∈ w_B X ∨ vx_no w = false := List.forall_mem_cons.mpr ⟨Or.inl (uw_at 326 (by decide +kernel) rfl), List.forall_mem_cons.mpr ⟨Or.inl (uw_at 327 (by decide +kernel) rfl), List.forall_mem_cons.mpr ⟨Or.inl (uw_at 328 (by decide +kernel) rfl), List.forall_mem_cons.mpr ⟨Or.inl (uw_at 329 (by decide +kernel) rfl), List.forall_mem_cons.mpr ⟨Or.inr (Or.inl (List.mem_of_getElem? (i := 2) rfl)), fun _ h => absurd h List.not_mem_nil⟩⟩⟩⟩⟩
theorem at_pEX (X : String) : ∀ w ∈ Bundle.passSAtoms xEX Bundle.tN 7 Bundle.six, w ∈ UW ∨ w ∈ w_B X ∨ vx_no w = false := List.forall_mem_cons.mpr ⟨Or.inl (uw_at 329 (by decide +kernel) rfl), List.forall_mem_cons.mpr ⟨Or.inl (uw_at 330 (by decide +kernel) rfl), List.forall_mem_cons.mpr ⟨Or.inl (uw_at 331 (by decide +kernel) rfl), List.forall_mem_cons.mpr ⟨Or.inl (uw_at 332 (by decide +kernel) rfl), List.forall_mem_cons.mpr ⟨Or.inr (Or.inl (List.mem_of_getElem? (i := 3) rfl)), fun _ h => absurd h List.not_mem_nil⟩⟩⟩⟩⟩
theorem at_pIO : ∀ w ∈ Bundle.passSAtoms xIO xRT 7 Bundle.six, w ∈ UW ∨ w ∈ w_B xIO ∨ vx_no w = false := List.forall_mem_cons.mpr ⟨Or.inl (uw_at 378 (by decide +kernel) rfl), List.forall_mem_cons.mpr ⟨Or.inl (uw_at 379 (by decide +kernel) rfl), List.forall_mem_cons.mpr ⟨Or.inl (uw_at 380 (by decide +kernel) rfl), List.forall_mem_cons.mpr ⟨Or.inl (uw_at 326 (by decide +kernel) rfl), List.forall_mem_cons.mpr ⟨Or.inr (Or.inl (List.mem_of_getElem? (i := 1) rfl)), fun _ h => absurd h List.not_mem_nil⟩⟩⟩⟩⟩
theorem at_IO : ∀ w ∈ Bundle.ownAtoms RX7 87 xIO [xRT, xEX], w ∈ UW ∨ w ∈ w_B xIO ∨ vx_no w = false := List.forall_mem_append.mpr ⟨List.forall_mem_append.mpr ⟨List.forall_mem_append.mpr ⟨at_thA _, at_thS _⟩, List.forall_mem_append.mpr ⟨at_pIO, List.forall_mem_append.mpr ⟨at_pRT _, at_pEX _⟩⟩⟩, List.forall_mem_cons.mpr ⟨Or.inl (uw_at 377 (by decide +kernel) rfl), List.forall_mem_cons.mpr ⟨Or.inl (uw_at 368 (by decide +kernel) rfl), List.forall_mem_cons.mpr ⟨Or.inr (Or.inl (List.mem_of_getElem? (i := 0) rfl)), List.forall_mem_cons.mpr ⟨Or.inl (uw_at 370 (by decide +kernel) rfl), List.forall_mem_cons.mpr ⟨Or.inl (uw_at 314 (by decide +kernel) rfl), List.forall_mem_cons.mpr ⟨Or.inl (uw_at 371 (by decide +kernel) rfl), List.forall_mem_cons.mpr ⟨Or.inl (uw_at 372 (by decide +kernel) rfl), List.forall_mem_cons.mpr ⟨Or.inl (uw_at 373 (by decide +kernel) rfl), List.forall_mem_cons.mpr ⟨Or.inl (uw_at 374 (by decide +kernel) rfl), List.forall_mem_cons.mpr ⟨Or.inr (Or.inr (by decide +kernel)), List.forall_mem_cons.mpr ⟨Or.inr (Or.inr (by decide +kernel)), List.forall_mem_cons.mpr ⟨Or.inl (uw_at 301 (by decide +kernel) rfl), List.forall_mem_cons.mpr ⟨Or.inl (uw_at 300 (by decide +kernel) rfl), List.forall_mem_cons.mpr ⟨Or.inl (uw_at 375 (by decide +kernel) rfl), fun _ h => absurd h List.not_mem_nil⟩⟩⟩⟩⟩⟩⟩⟩⟩⟩⟩⟩⟩⟩⟩
theorem r_throwIO {l : Launch} {g : va_G} {y : Nat → ClassId} {d : Nat} {cc : ByteArray} {nL : Nat} {Z : Nat → Nat → va_W → Nat → List (Nat × Value) → List Value → Prop} {pc : Nat} {lv : List (Nat × Value)} {st : List Value} {ws0 : va_W} {is : Nat} {text : String} (hT : w_IsT l g y (w_rmX d) cc RX7 nL Z ws0 xIO) (hd : 6 ≤ d) (hq : (is, text) ∈ w_strs) (hW : Nat.ble (st.map fun v => v.category).sum 8 = true) (d0 : decode cc pc = .ok (.new 83, 3)) (d3 : decode cc (pc + 3) = .ok (.dup, 1)) (d4 : decode cc (pc + 4) = .ok (.ldc is, 2)) (d6 : decode cc (pc + 6) = .ok (.invokespecial 87, 3)) (d9 : decode cc (pc + 9) = .ok (.athrow, 1)) : Z 0 0 ws0 pc lv st := r_throw (names := [xRT, xEX]) (V := w_V) hT (by decide +kernel) (List.forall_mem_cons.mpr ⟨by decide +kernel, List.forall_mem_cons.mpr ⟨by decide +kernel, fun _ h => absurd h List.not_mem_nil⟩⟩) (uw_at 367 (by decide +kernel) rfl) (uw_at 14 (by decide +kernel) rfl) hq (fun U h => h.1.1) at_IO ⟨by show 5 < d; omega, by show 8 + (13 * 3 + 43) ≤ 34 * d; omega, Nat.le_refl 1, Nat.le_refl 6⟩ hW d0 d3 d4 d6 d9
theorem at_pIS : ∀ w ∈ Bundle.passSAtoms xIS xRT 7 Bundle.six, w ∈ UW ∨ w ∈ w_B xIS ∨ vx_no w = false := List.forall_mem_cons.mpr ⟨Or.inl (uw_at 323 (by decide +kernel) rfl), List.forall_mem_cons.mpr ⟨Or.inl (uw_at 324 (by decide +kernel) rfl), List.forall_mem_cons.mpr ⟨Or.inl (uw_at 325 (by decide +kernel) rfl), List.forall_mem_cons.mpr ⟨Or.inl (uw_at 326 (by decide +kernel) rfl), List.forall_mem_cons.mpr ⟨Or.inr (Or.inl (List.mem_of_getElem? (i := 1) rfl)), fun _ h => absurd h List.not_mem_nil⟩⟩⟩⟩⟩
theorem at_IS : ∀ w ∈ Bundle.ownAtoms RX7 72 xIS [xRT, xEX], w ∈ UW ∨ w ∈ w_B xIS ∨ vx_no w = false := List.forall_mem_append.mpr ⟨List.forall_mem_append.mpr ⟨List.forall_mem_append.mpr ⟨at_thA _, at_thS _⟩, List.forall_mem_append.mpr ⟨at_pIS, List.forall_mem_append.mpr ⟨at_pRT _, at_pEX _⟩⟩⟩, List.forall_mem_cons.mpr ⟨Or.inl (uw_at 322 (by decide +kernel) rfl), List.forall_mem_cons.mpr ⟨Or.inl (uw_at 281 (by decide +kernel) rfl), List.forall_mem_cons.mpr ⟨Or.inr (Or.inl (List.mem_of_getElem? (i := 0) rfl)), List.forall_mem_cons.mpr ⟨Or.inl (uw_at 289 (by decide +kernel) rfl), List.forall_mem_cons.mpr ⟨Or.inl (uw_at 290 (by decide +kernel) rfl), List.forall_mem_cons.mpr ⟨Or.inl (uw_at 291 (by decide +kernel) rfl), List.forall_mem_cons.mpr ⟨Or.inl (uw_at 293 (by decide +kernel) rfl), List.forall_mem_cons.mpr ⟨Or.inl (uw_at 295 (by decide +kernel) rfl), List.forall_mem_cons.mpr ⟨Or.inl (uw_at 297 (by decide +kernel) rfl), List.forall_mem_cons.mpr ⟨Or.inr (Or.inr (by decide +kernel)), List.forall_mem_cons.mpr ⟨Or.inr (Or.inr (by decide +kernel)), List.forall_mem_cons.mpr ⟨Or.inl (uw_at 301 (by decide +kernel) rfl), List.forall_mem_cons.mpr ⟨Or.inl (uw_at 300 (by decide +kernel) rfl), List.forall_mem_cons.mpr ⟨Or.inl (uw_at 299 (by decide +kernel) rfl), fun _ h => absurd h List.not_mem_nil⟩⟩⟩⟩⟩⟩⟩⟩⟩⟩⟩⟩⟩⟩⟩
theorem r_throwIS {l : Launch} {g : va_G} {y : Nat → ClassId} {d : Nat} {cc : ByteArray} {nL : Nat} {Z : Nat → Nat → va_W → Nat → List (Nat × Value) → List Value → Prop} {pc : Nat} {lv : List (Nat × Value)} {st : List Value} {ws0 : va_W} {is : Nat} {text : String} (hT : w_IsT l g y (w_rmX d) cc RX7 nL Z ws0 xIS) (hd : 6 ≤ d) (hq : (is, text) ∈ w_strs) (hW : Nat.ble (st.map fun v => v.category).sum 8 = true) (d0 : decode cc pc = .ok (.new 68, 3)) (d3 : decode cc (pc + 3) = .ok (.dup, 1)) (d4 : decode cc (pc + 4) = .ok (.ldc is, 2)) (d6 : decode cc (pc + 6) = .ok (.invokespecial 72, 3)) (d9 : decode cc (pc + 9) = .ok (.athrow, 1)) : Z 0 0 ws0 pc lv st := r_throw (names := [xRT, xEX]) (V := w_V) hT (by decide +kernel) (List.forall_mem_cons.mpr ⟨by decide +kernel, List.forall_mem_cons.mpr ⟨by decide +kernel, fun _ h => absurd h List.not_mem_nil⟩⟩) (uw_at 280 (by decide +kernel) rfl) (uw_at 13 (by decide +kernel) rfl) hq (fun U h => h.1.2.1) at_IS ⟨by show 5 < d; omega, by show 8 + (13 * 3 + 43) ≤ 34 * d; omega, Nat.le_refl 1, Nat.le_refl 6⟩ hW d0 d3 d4 d6 d9
theorem at_pIA : ∀ w ∈ Bundle.passSAtoms xIA xRT 7 Bundle.six, w ∈ UW ∨ w ∈ w_B xIA ∨ vx_no w = false := List.forall_mem_cons.mpr ⟨Or.inl (uw_at 399 (by decide +kernel) rfl), List.forall_mem_cons.mpr ⟨Or.inl (uw_at 400 (by decide +kernel) rfl), List.forall_mem_cons.mpr ⟨Or.inl (uw_at 401 (by decide +kernel) rfl), List.forall_mem_cons.mpr ⟨Or.inl (uw_at 326 (by decide +kernel) rfl), List.forall_mem_cons.mpr ⟨Or.inr (Or.inl (List.mem_of_getElem? (i := 1) rfl)), fun _ h => absurd h List.not_mem_nil⟩⟩⟩⟩⟩
theorem at_IA : ∀ w ∈ Bundle.ownAtoms RX7 98 xIA [xRT, xEX], w ∈ UW ∨ w ∈ w_B xIA ∨ vx_no w = false := List.forall_mem_append.mpr ⟨List.forall_mem_append.mpr ⟨List.forall_mem_append.mpr ⟨at_thA _, at_thS _⟩, List.forall_mem_append.mpr ⟨at_pIA, List.forall_mem_append.mpr ⟨at_pRT _, at_pEX _⟩⟩⟩, List.forall_mem_cons.mpr ⟨Or.inl (uw_at 398 (by decide +kernel) rfl), List.forall_mem_cons.mpr ⟨Or.inl (uw_at 389 (by decide +kernel) rfl), List.forall_mem_cons.mpr ⟨Or.inr (Or.inl (List.mem_of_getElem? (i := 0) rfl)), List.forall_mem_cons.mpr ⟨Or.inl (uw_at 391 (by decide +kernel) rfl), List.forall_mem_cons.mpr ⟨Or.inl (uw_at 313 (by decide +kernel) rfl), List.forall_mem_cons.mpr ⟨Or.inl (uw_at 392 (by decide +kernel) rfl), List.forall_mem_cons.mpr ⟨Or.inl (uw_at 393 (by decide +kernel) rfl), List.forall_mem_cons.mpr ⟨Or.inl (uw_at 394 (by decide +kernel) rfl), List.forall_mem_cons.mpr ⟨Or.inl (uw_at 395 (by decide +kernel) rfl), List.forall_mem_cons.mpr ⟨Or.inr (Or.inr (by decide +kernel)), List.forall_mem_cons.mpr ⟨Or.inr (Or.inr (by decide +kernel)), List.forall_mem_cons.mpr ⟨Or.inl (uw_at 301 (by decide +kernel) rfl), List.forall_mem_cons.mpr ⟨Or.inl (uw_at 300 (by decide +kernel) rfl), List.forall_mem_cons.mpr ⟨Or.inl (uw_at 396 (by decide +kernel) rfl), fun _ h => absurd h List.not_mem_nil⟩⟩⟩⟩⟩⟩⟩⟩⟩⟩⟩⟩⟩⟩⟩
theorem r_throwIA {l : Launch} {g : va_G} {y : Nat → ClassId} {d : Nat} {cc : ByteArray} {nL : Nat} {Z : Nat → Nat → va_W → Nat → List (Nat × Value) → List Value → Prop} {pc : Nat} {lv : List (Nat × Value)} {st : List Value} {ws0 : va_W} {is : Nat} {text : String} (hT : w_IsT l g y (w_rmX d) cc RX7 nL Z ws0 xIA) (hd : 6 ≤ d) (hq : (is, text) ∈ w_strs) (hW : Nat.ble (st.map fun v => v.category).sum 8 = true) (d0 : decode cc pc = .ok (.new 94, 3)) (d3 : decode cc (pc + 3) = .ok (.dup, 1)) (d4 : decode cc (pc + 4) = .ok (.ldc is, 2)) (d6 : decode cc (pc + 6) = .ok (.invokespecial 98, 3)) (d9 : decode cc (pc + 9) = .ok (.athrow, 1)) : Z 0 0 ws0 pc lv st := r_throw (names := [xRT, xEX]) (V := w_V) hT (by decide +kernel) (List.forall_mem_cons.mpr ⟨by decide +kernel, List.forall_mem_cons.mpr ⟨by decide +kernel, fun _ h => absurd h List.not_mem_nil⟩⟩) (uw_at 388 (by decide +kernel) rfl) (uw_at 15 (by decide +kernel) rfl) hq (fun U h => h.1.2.2) at_IA ⟨by show 5 < d; omega, by show 8 + (13 * 3 + 43) ≤ 34 * d; omega, Nat.le_refl 1, Nat.le_refl 6⟩ hW d0 d3 d4 d6 d9
