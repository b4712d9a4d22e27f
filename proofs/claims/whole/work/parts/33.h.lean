/-! two worlds side by side -/
theorem va_P.left {D : va_G} {cl : List vw_C} {ws wr : va_W} {H : Heap} (h : va_P D cl (ws ++ wr) H) : va_P D cl ws H := fun k q hq => h k q (by rw [List.getElem?_append_left (List.getElem?_eq_some_iff.mp hq).1]; exact hq)
theorem va_P.right {D : va_G} {cl : List vw_C} {ws wr : va_W} {H : Heap} (h : va_P D cl (ws ++ wr) H) : va_P D cl wr H := fun k q hq => h (ws.length + k) q (by rw [List.getElem?_append_right (Nat.le_add_right _ _), Nat.add_sub_cancel_left]; exact hq)
theorem va_D.left {A : Nat → Prop} {ws wr : va_W} (h : va_D A (ws ++ wr)) : va_D A ws := ⟨fun i j p q hp hq e => h.1 i j p q (by rw [List.getElem?_append_left (List.getElem?_eq_some_iff.mp hp).1]; exact hp) (by rw [List.getElem?_append_left (List.getElem?_eq_some_iff.mp hq).1]; exact hq) e, fun k q hq => h.2 k q (by rw [List.getElem?_append_left (List.getElem?_eq_some_iff.mp hq).1]; exact hq)⟩
theorem va_D.right {A : Nat → Prop} {ws wr : va_W} (h : va_D A (ws ++ wr)) : va_D A wr := ⟨fun i j p q hp hq e => Nat.add_left_cancel (h.1 (ws.length + i) (ws.length + j) p q (by rw [List.getElem?_append_right (Nat.le_add_right _ _), Nat.add_sub_cancel_left]; exact hp) (by rw [List.getElem?_append_right (Nat.le_add_right _ _), Nat.add_sub_cancel_left]; exact hq) e), fun k q hq => h.2 (ws.length + k) q (by rw [List.getElem?_append_right (Nat.le_add_right _ _), Nat.add_sub_cancel_left]; exact hq)⟩
theorem va_D.apart {A : Nat → Prop} {ws wr : va_W} (h : va_D A (ws ++ wr)) {i j : Nat} {p q : Nat × va_E} (hp : ws[i]? = some p) (hq : wr[j]? = some q) : p.1 ≠ q.1 := fun e => by
  have hl := (List.getElem?_eq_some_iff.mp hp).1
  have := h.1 i (ws.length + j) p q (by rw [List.getElem?_append_left hl]; exact hp) (by rw [List.getElem?_append_right (Nat.le_add_right _ _), Nat.add_sub_cancel_left]; exact hq) e
  omega
theorem va_appL {A0 : Nat → Prop} {D : va_G} {cl : List vw_C} {ws wr w1 : va_W} {H H1 : Heap} (hP : va_P D cl (ws ++ wr) H) (hD : va_D A0 (ws ++ wr)) (hk : ∀ q : Nat, q < H.size → ¬ va_A ws H.size q → H1[q]? = H[q]?) (hF : ∀ q, va_A ws H.size q → A0 q) (hP1 : va_P D cl w1 H1) (hD1 : va_D (va_A ws H.size) w1) : va_P D cl (w1 ++ wr) H1 ∧ va_D A0 (w1 ++ wr) := by
  have ap : ∀ (k : Nat) (q : Nat × va_E), wr[k]? = some q → q.1 < H.size ∧ ¬ va_A ws H.size q.1 := fun k q hq => ⟨(hP.right k q hq).lt, fun h => h.elim (fun ⟨i, e, hi⟩ => hD.apart hi hq rfl) (fun h => absurd (hP.right k q hq).lt (Nat.not_lt.mpr h))⟩
  exact ⟨va_P.app hP1 (fun k q hq => (hP.right k q hq).kept (hk q.1 (ap k q hq).1 (ap k q hq).2)), va_D.app (hD1.weaken (fun _ _ _ h => hF _ h)) hD.right (fun i j p q hp hq e => (ap j q hq).2 (by rw [← e]; exact hD1.2 i p hp))⟩
theorem va_appR {A0 : Nat → Prop} {D : va_G} {cl : List vw_C} {ws wr w1 : va_W} {H H1 : Heap} (hP : va_P D cl (ws ++ wr) H) (hD : va_D A0 (ws ++ wr)) (hk : ∀ q : Nat, q < H.size → ¬ va_A wr H.size q → H1[q]? = H[q]?) (hF : ∀ q, va_A wr H.size q → A0 q) (hP1 : va_P D cl w1 H1) (hD1 : va_D (va_A wr H.size) w1) : va_P D cl (ws ++ w1) H1 ∧ va_D A0 (ws ++ w1) := by
  have ap : ∀ (k : Nat) (q : Nat × va_E), ws[k]? = some q → q.1 < H.size ∧ ¬ va_A wr H.size q.1 := fun k q hq => ⟨(hP.left k q hq).lt, fun h => h.elim (fun ⟨i, e, hi⟩ => hD.apart hq hi rfl) (fun h => absurd (hP.left k q hq).lt (Nat.not_lt.mpr h))⟩
  exact ⟨va_P.app (fun k q hq => (hP.left k q hq).kept (hk q.1 (ap k q hq).1 (ap k q hq).2)) hP1, va_D.app hD.left (hD1.weaken (fun _ _ _ h => hF _ h)) (fun i j p q hp hq e => (ap i p hp).2 (by rw [e]; exact hD1.2 j q hq))⟩
section WCL
variable {l : Launch} {g : va_G} {y : Nat → ClassId} {R : Room} {cc : ByteArray} {own : String} {nL : Nat} {Z : Nat → Nat → va_W → Nat → List (Nat × Value) → List Value → Prop} {k n pc : Nat} {ws ws' wr : va_W} {lv : List (Nat × Value)} {st rest : List Value}
theorem w_callA {p : Program} {e : Env} {s : State} {m : MethodId} {args : Array Value} {below : List Frame} {meth : Method} {c : Code} {A : Nat → Prop} {Q : State → Prop} {H : Heap} {locs : List Loc} {ls : Array Slot} {a : Array Value} {ov : Option Value}
    (hr : va_Run p l e R s m args below meth c H locs k n 0 0 (F0 m pc ls st) rest (w_Q g y ws H.size ov ws' a) (va_A ws H.size)) (hP : va_P g vwCl (ws ++ wr) H) (hD : va_D A (ws ++ wr)) (hS : va_S A s.heap H locs) (hA : ∀ q, s.heap.size ≤ q → A q)
    (kk : ∀ (H1 : Heap) (locs1 : List Loc), va_P g vwCl (ws' ++ wr) H1 → va_D A (ws' ++ wr) → va_S A s.heap H1 locs1 → W p l e R s m args below meth c H1 locs1 k n Q (F0 m (pc + 3) ls (ov.toList ++ rest))) : W p l e R s m args below meth c H locs k n Q (F0 m pc ls st) := by
  have hF : ∀ q, va_A ws H.size q → A q := fun q h => h.elim (fun ⟨k, e, h⟩ => hD.left.2 k (q, e) h) (fun h => hA q (Nat.le_trans hS.1 h))
  intro T hT X
  obtain ⟨v, st₀, t, T', L, h0, X', hL, e1, e2, ⟨⟨hv, hP1, hK1, hD1⟩, hz, hk⟩, stp⟩ := hr T hT X
  cases hv
  rw [h0] at hz hk
  obtain ⟨hP2, hD2⟩ := va_appL hP hD hk hF hP1 hD1
  obtain ⟨t2, a1, b1⟩ := kk T'.heap (locs ++ L) (by rw [e1]; exact hP2) hD2
    ⟨Nat.le_trans hS.1 (by rw [e1]; exact hz), fun q h1 h2 => by rw [e1, hk q (Nat.lt_of_lt_of_le h1 hS.1) (fun z => h2 (hF q z))]; exact hS.2.1 q h1 h2, fun q hq => by
      rcases List.mem_append.mp hq with h | h
      · exact hS.2.2 q h
      · exact hF _ (hL q h)⟩ T' rfl X'
  exact ⟨t2, stp t2 a1, b1⟩
theorem w_callB {p : Program} {e : Env} {s : State} {m : MethodId} {args : Array Value} {below : List Frame} {meth : Method} {c : Code} {A : Nat → Prop} {Q : State → Prop} {H : Heap} {locs : List Loc} {ls : Array Slot} {a : Array Value} {ov : Option Value}
    (hr : va_Run p l e R s m args below meth c H locs k n 0 0 (F0 m pc ls st) rest (w_Q g y wr H.size ov ws' a) (va_A wr H.size)) (hP : va_P g vwCl (ws ++ wr) H) (hD : va_D A (ws ++ wr)) (hS : va_S A s.heap H locs) (hA : ∀ q, s.heap.size ≤ q → A q)
    (kk : ∀ (H1 : Heap) (locs1 : List Loc), va_P g vwCl (ws ++ ws') H1 → va_D A (ws ++ ws') → va_S A s.heap H1 locs1 → W p l e R s m args below meth c H1 locs1 k n Q (F0 m (pc + 3) ls (ov.toList ++ rest))) : W p l e R s m args below meth c H locs k n Q (F0 m pc ls st) := by
  have hF : ∀ q, va_A wr H.size q → A q := fun q h => h.elim (fun ⟨k, e, h⟩ => hD.right.2 k (q, e) h) (fun h => hA q (Nat.le_trans hS.1 h))
  intro T hT X
  obtain ⟨v, st₀, t, T', L, h0, X', hL, e1, e2, ⟨⟨hv, hP1, hK1, hD1⟩, hz, hk⟩, stp⟩ := hr T hT X
  cases hv
  rw [h0] at hz hk
  obtain ⟨hP2, hD2⟩ := va_appR hP hD hk hF hP1 hD1
  obtain ⟨t2, a1, b1⟩ := kk T'.heap (locs ++ L) (by rw [e1]; exact hP2) hD2
    ⟨Nat.le_trans hS.1 (by rw [e1]; exact hz), fun q h1 h2 => by rw [e1, hk q (Nat.lt_of_lt_of_le h1 hS.1) (fun z => h2 (hF q z))]; exact hS.2.1 q h1 h2, fun q hq => by
      rcases List.mem_append.mp hq with h | h
      · exact hS.2.2 q h
      · exact hF _ (hL q h)⟩ T' rfl X'
  exact ⟨t2, stp t2 a1, b1⟩
variable {yN : MethodName} {c1 : ByteArray} {mL d na : Nat} {ret : Option FieldType} {av : List Value} {v : Value} {b idx : Nat}
/-- a call on the first of two worlds side by side, the environment with it -/
theorem r_callVEA (hC : w_CE l g y yN c1 mL ret d (.ref b :: av) ws (some v) ws') (hM : w_MV yN c1 mL ret na) (wl : Cond.methodLink own idx yN ∈ UW) (hZ : w_IsE l g y R cc own nL Z) (hna : av.length = na) (hR : d + 1 ≤ R.frames ∧ 8 + (mL + 11) + 34 * d ≤ R.locals) (q0 ci : Nat) {fs : List Value} {T : u_T} {N : Nat} (he : ws[q0]? = some (b, .inr (ci, fs))) (hcl : vwCl[ci]? = some (yN.cls, T, N)) (hst : st = av.reverse ++ .ref b :: rest) (hW : Nat.ble (rest.map fun v => v.category).sum 8 = true) (dd : decode cc pc = .ok (.invokevirtual idx, 3)) (k1 : Z k n (ws' ++ wr) (pc + 3) lv (v :: rest)) : Z k n (ws ++ wr) pc lv st := by
  obtain ⟨p, e, s, m, args, below, meth, c, A, Q, ⟨hx, hb, hml, hown, hts, hK, hA, hN⟩, hi, hE⟩ := hZ
  rw [hi] at k1 ⊢
  obtain ⟨wi, wsel, wini, wc, hdd⟩ := hM
  intro h1 h2 H locs ls hP hD hS hl
  have hF : ∀ q, va_A ws H.size q → A q := fun q h => h.elim (fun ⟨k, e, h⟩ => hD.left.2 k (q, e) h) (fun h => hA q (Nat.le_trans hS.1 h))
  refine w_callA (va_runV (As := av) (rest := rest) ⟨hx, hb, hml, hown, hts⟩ (hC H.size) (cwV na hts (show GoodIn UW (wsV own idx yN.cls yN (.code yN c1 mL ret :: UW)) from uw_cons wl (uw_cons wi (uw_cons wsel (uw_cons wini (w_uw yN c1 mL ret wc))))) rfl rfl rfl ⟨rfl, hdd⟩ hR) ⟨w_PcE.blind, va_recv hK hP.left hcl he, fun U hU hW => ⟨rfl, by rw [hU], by rw [hU]; exact hP.left, va_K.moved hW.alike hK, hD.left.weaken (fun _ _ _ _ => trivial), w_NW.warm hW hN, hE.go hS hW hU hF⟩⟩ rfl hna hl.1 hst (lv_room (Nat.le_of_ble_eq_true hW)) dd ⟨h1, h2⟩) hP hD hS hA (fun H1 locs1 hP1 hD1 hS1 => k1 h1 h2 H1 locs1 ls hP1 hD1 hS1 hl)
/-- a call on the second of two worlds -/
theorem r_callVB {ov : Option Value} (hC : w_C l g y yN c1 mL ret d (.ref b :: av) wr ov ws') (hM : w_MV yN c1 mL ret na) (wl : Cond.methodLink own idx yN ∈ UW) (hZ : w_Is l g y R cc own nL Z) (hna : av.length = na) (hR : d + 1 ≤ R.frames ∧ 8 + (mL + 11) + 34 * d ≤ R.locals) (q0 ci : Nat) {fs : List Value} {T : u_T} {N : Nat} (he : wr[q0]? = some (b, .inr (ci, fs))) (hcl : vwCl[ci]? = some (yN.cls, T, N)) (hst : st = av.reverse ++ .ref b :: rest) (hW : Nat.ble (rest.map fun v => v.category).sum 8 = true) (dd : decode cc pc = .ok (.invokevirtual idx, 3)) (k1 : Z k n (ws ++ ws') (pc + 3) lv (ov.toList ++ rest)) : Z k n (ws ++ wr) pc lv st := by
  obtain ⟨p, e, s, m, args, below, meth, c, A, Q, ⟨hx, hb, hml, hown, hts, hK, hA, hN⟩, hi⟩ := hZ
  rw [hi] at k1 ⊢
  obtain ⟨wi, wsel, wini, wc, hdd⟩ := hM
  intro h1 h2 H locs ls hP hD hS hl
  refine w_callB (va_runV (As := av) (rest := rest) ⟨hx, hb, hml, hown, hts⟩ (hC H.size) (cwV na hts (show GoodIn UW (wsV own idx yN.cls yN (.code yN c1 mL ret :: UW)) from uw_cons wl (uw_cons wi (uw_cons wsel (uw_cons wini (w_uw yN c1 mL ret wc))))) rfl rfl rfl ⟨rfl, hdd⟩ hR) ⟨w_Pc.blind, va_recv hK hP.right hcl he, fun U hU hW => ⟨rfl, by rw [hU], by rw [hU]; exact hP.right, va_K.moved hW.alike hK, hD.right.weaken (fun _ _ _ _ => trivial), w_NW.warm hW hN⟩⟩ rfl hna hl.1 hst (lv_room (Nat.le_of_ble_eq_true hW)) dd ⟨h1, h2⟩) hP hD hS hA (fun H1 locs1 hP1 hD1 hS1 => k1 h1 h2 H1 locs1 ls hP1 hD1 hS1 hl)
/-- a body with a table, that returns an int -/
def w_IsH (l : Launch) (g : va_G) (y : Nat → ClassId) (R : Room) (cc : ByteArray) (own : String) (nL : Nat) (Z : Nat → Nat → va_W → Nat → List (Nat × Value) → List Value → Prop) (hh : List (Nat × Nat × Nat × Nat)) : Prop :=
  ∃ (p : Program) (e : Env) (s : State) (m : MethodId) (args : Array Value) (below : List Frame) (meth : Method) (c : Code) (A : Nat → Prop) (Q : State → Prop),
    (p.tables.exec = Jvm.exec ∧ c.code = cc ∧ c.maxLocals = nL ∧ s.vm.findClass own = some m.cls ∧ (∀ w ∈ UW, w.before args s = true) ∧ va_K g vwCl (w_ty y) s ∧ (∀ q, s.heap.size ≤ q → A q) ∧ w_NW s) ∧
    (∀ k n ws pc lv st, (Z k n ws pc lv st ↔ (k ≤ R.cells → n ≤ R.slots → ∀ (H : Heap) (locs : List Loc) (ls : Array Slot), va_P g vwCl ws H → va_D A ws → va_S A s.heap H locs → lv_has ls nL lv → W p l e R s m args below meth c H locs k n Q (F0 m pc ls st)))) ∧ w_E A s s.heap ∧ c.exceptionTable.toList = tableOf hh
theorem w_IsH.e {hh : List (Nat × Nat × Nat × Nat)} (h : w_IsH l g y R cc own nL Z hh) : w_IsE l g y R cc own nL Z := by
  obtain ⟨p, e, s, m, args, below, meth, c, A, Q, h1, h2, h3, -⟩ := h
  exact ⟨p, e, s, m, args, below, meth, c, A, Q, h1, h2, h3⟩
theorem w_ofH {hh : List (Nat × Nat × Nat × Nat)} {r : Int32} {lv0 : List (Nat × Value)} (hpl : plainName yN.cls = true) (hsl : (lg_sl av).length ≤ mL) (hlv : lv_args 0 av = lv0)
    (body : ∀ Z, w_IsH l g y (w_rmX d) c1 yN.cls mL Z hh → (∀ k n ws2 r2 pc lv, k ≤ 1 → n ≤ 6 → decode c1 pc = .ok (.ireturn, 1) → r2 = r → ws2 = ws' → Z k n ws2 pc lv [.int r2]) → Z 0 0 ws 0 lv0 []) : w_H l g y yN c1 mL hh d av ws r ws' := by
  intro sz
  refine vx_ofWH (cc := c1) (maxL := mL) (ret := some .int) (hh := hh) hpl rfl ?_
  intro p e s m args below meth c s₁ B hml hv
  obtain ⟨rfl, hsz, hP, hK, hD0, hN, hE⟩ := hv
  subst hsz
  have hts := atoms_spec (ws := .codeWith yN c1 mL (some .int) hh :: UW) B.pre
  have htab := vx_table (x := yN) B (hts _ List.mem_cons_self)
  have h := body (fun k n ws2 pc lv st => (k ≤ (w_rmX d).cells → n ≤ (w_rmX d).slots → ∀ (H : Heap) (locs : List Loc) (ls : Array Slot), va_P g vwCl ws2 H → va_D (va_A ws s.heap.size) ws2 → va_S (va_A ws s.heap.size) s.heap H locs → lv_has ls mL lv → W p l e (w_rmX d) s m av.toArray below meth c H locs k n (vx_MQ below (w_Q g y ws s.heap.size (some (.int r)) ws') (fun _ _ _ => False) av.toArray s 1 6 (va_A ws s.heap.size)) (F0 m pc ls st)))
    ⟨p, e, s, m, av.toArray, below, meth, c, _, _, ⟨B.exec, B.bytes, hml, findClass_of_methodNamed B.named, fun w hw => hts w (List.mem_cons_of_mem _ hw), hK, fun q h => Or.inr h, hN⟩, fun _ _ _ _ _ _ => Iff.rfl, hE, htab⟩
    (by
      intro k n ws2 r2 pc lv h1 h2 dd e1 e2
      subst e1; subst e2
      intro _ _ H locs ls hP hD hS hl
      refine W.widen (k := 1) (n := 6) h1 h2 ?_
      exact vx_ret (W.zret B.exec B.bytes B.returns rfl (fun t ht hW => ⟨⟨rfl, by rw [ht]; exact hP, va_K.moved hW.alike hK, hD⟩, hS.F ht⟩) hS.2.2 dd B.notSynchronized))
  have hl := lv_entry av (n := mL) hsl
  rw [lg_entry_eq]
  rw [hlv] at hl
  exact h (Nat.zero_le _) (Nat.zero_le _) s.heap [] _ hP (hD0.self) va_S.rf hl
/-- a call on the first of two worlds, that throws E; the row x of the table takes it -/
theorem r_callTA {hh : List (Nat × Nat × Nat × Nat)} {E : String} (hC : w_T l g y yN c1 mL ret d (.ref b :: av) ws E) (hM : w_MV yN c1 mL ret na) (wl : Cond.methodLink own idx yN ∈ UW) (hZ : w_IsH l g y R cc own nL Z hh) (hna : av.length = na) (hR : d + 1 ≤ R.frames ∧ 8 + (mL + 11) + 34 * d ≤ R.locals) (hRc : 1 ≤ R.cells ∧ 6 ≤ R.slots) (q0 ci : Nat) {fs : List Value} {T : u_T} {N : Nat} (he : ws[q0]? = some (b, .inr (ci, fs))) (hcl : vwCl[ci]? = some (yN.cls, T, N)) (hst : st = av.reverse ++ .ref b :: rest) (hW : Nat.ble (rest.map fun v => v.category).sum 8 = true) (dd : decode cc pc = .ok (.invokevirtual idx, 3))
    (pre : List ExceptionTableEntry) (x : ExceptionTableEntry) (suf : List ExceptionTableEntry) (hsplit : tableOf hh = pre ++ x :: suf) (hpass : ∀ z ∈ pre, z.catchType ≠ 0 ∧ ∃ nm : String, Cond.classLink own z.catchType nm ∈ UW ∧ ∀ U, w_V U → va_Nc E nm U) (hx : covers x pc = true) (h0 : x.catchType ≠ 0) (wc2 : Cond.classLink own x.catchType E ∈ UW) (hB : ∀ U, w_V U → w_VB E U)
    (k1 : ∀ q, Z 1 6 (ws ++ wr) x.handlerPc lv [.ref q]) : Z 0 0 (ws ++ wr) pc lv st := by
  obtain ⟨p, e, s, m, args, below, meth, c, A, Q, ⟨hx0, hb, hml, hown, hts, hK, hA, hN⟩, hi, hE, htab⟩ := hZ
  rw [hi]
  obtain ⟨wi, wsel, wini, wc, hdd⟩ := hM
  intro h1 h2 H locs ls hP hD hS hl
  have hF : ∀ q, va_A ws H.size q → A q := fun q h => h.elim (fun ⟨k, e, h⟩ => hD.left.2 k (q, e) h) (fun h => hA q (Nat.le_trans hS.1 h))
  have hr := vx_runV (As := av) (rest := rest) (g := F0 m pc ls st) (locs := locs) (cells := 0) (slots := 0) (p := p) (e := e) (below := below) (meth := meth) ⟨hx0, hb, hml, hown, hts⟩ (hC H.size) (cwV na hts (show GoodIn UW (wsV own idx yN.cls yN (.code yN c1 mL ret :: UW)) from uw_cons wl (uw_cons wi (uw_cons wsel (uw_cons wini (w_uw yN c1 mL ret wc))))) rfl rfl rfl ⟨rfl, hdd⟩ hR) ⟨w_PcE.blind, va_recv hK hP.left hcl he, fun U hU hW => ⟨rfl, by rw [hU], by rw [hU]; exact hP.left, va_K.moved hW.alike hK, hD.left.weaken (fun _ _ _ _ => trivial), w_NW.warm hW hN, hE.go hS hW hU hF⟩⟩ rfl hna hl.1 hst (lv_room (Nat.le_of_ble_eq_true hW)) dd ⟨by omega, by omega⟩
  intro T hT X
  rcases hr T hT X with ⟨v, st₀, t, T', L, h0, X', hL, e1, e2, hv, stp⟩ | ⟨q, st₀, t, T', L, E', ce, hh0, X', hL, e1, e2, ⟨hEE, hP1, hK1, hD1, hz, hk⟩, hce, hcv, hcl2, stp⟩
  · exact hv.elim
  · subst hEE
    rw [hh0] at hz hk
    obtain ⟨hP2, hD2⟩ := va_appL hP hD hk hF hP1 hD1
    have hS2 : va_S A s.heap T'.heap (locs ++ L) := ⟨Nat.le_trans hS.1 (by rw [e1]; exact hz), fun q h1 h2 => by rw [e1, hk q (Nat.lt_of_lt_of_le h1 hS.1) (fun z => h2 (hF q z))]; exact hS.2.1 q h1 h2, fun q hq => by
      rcases List.mem_append.mp hq with h | h
      · exact hS.2.2 q h
      · exact hF _ (hL q h)⟩
    have k2 := k1 q
    rw [hi] at k2
    have kk := k2 (by omega) (by omega) T'.heap (locs ++ L) ls (by rw [e1]; exact hP2) hD2 hS2 hl
    obtain ⟨t2, a1, b1⟩ := vx_catch (own := own) (name := E') (pc := pc) (rest := rest) hown pre x suf (htab.trans hsplit) (fun z hz => Or.inr ⟨(hpass z hz).1, (hpass z hz).2.imp fun nm h => ⟨hts _ h.1, h.2 s hE.1⟩⟩) hx h0 (hts _ wc2) (va_Nw.use rfl (hB s hE.1).1) (by rw [e1]; exact hce) hcv hcl2 kk T' rfl X'
    exact ⟨t2, stp.trans a1, b1⟩
end WCL
/-- the class's world and the row that takes its answers -/
def hw (ad : Nat → Nat) (y : Nat → ClassId) (σ : stT) (ao : Nat) (f : Nat → Int64) : va_W := cw ad y σ ++ [(ao, .inl (y 3, 1, .inr (.inl f)))]
theorem hw_len (ad : Nat → Nat) (y : Nat → ClassId) (σ : stT) (ao : Nat) (f : Nat → Int64) : (hw ad y σ ao f)[67]? = some (ao, .inl (y 3, 1, .inr (.inl f))) := by
  unfold hw
  rw [List.getElem?_append_right (by rw [cw_len]; exact Nat.le_refl 67), cw_len]
  rfl
theorem hw_set (ad : Nat → Nat) (y : Nat → ClassId) (σ : stT) (ao : Nat) (f f2 : Nat → Int64) : (hw ad y σ ao f).set 67 (ao, .inl (y 3, 1, .inr (.inl f2))) = hw ad y σ ao f2 := by
  unfold hw
  rw [List.set_append_right _ _ (by rw [cw_len]; exact Nat.le_refl 67), cw_len]
  rfl
abbrev hh_input : List (Nat × Nat × Nat × Nat) := [(0, 8, 11, 13)]
theorem wh_input : Cond.static yL_input ∈ UW ∧ Cond.initialized RL ∈ UW ∧ Cond.codeWith yL_input cL_input 3 (some .int) hh_input ∈ UW ∧ (yL_input.cls ≠ "java/lang/invoke/MethodHandle" ∧ yL_input.cls ≠ "java/lang/invoke/VarHandle" ∧ (parseMethodDescriptor yL_input.desc).map (fun d => d.parameters.length) = some 2) := ⟨uw_at 273 (by decide +kernel) rfl, uw_at 0 (by decide +kernel) rfl, uw_at 274 (by decide +kernel) rfl, by decide +kernel, by decide +kernel, by decide +kernel⟩
set_option maxHeartbeats 4000000 in
set_option maxRecDepth 100000 in
theorem h_input_0 (l : Launch) (g : va_G) (y : Nat → ClassId) (ad : Nat → Nat)  {σ σ2 : stT} {ao : Nat} {f : Nat → Int64} (r : Int32) (hC : w_CE l g y yX7_input cX7_input 1 (some .int) 8 (.ref (ad 0) :: []) (cw ad y σ) (some (.int r)) (cw ad y σ2)) : w_H l g y yL_input cL_input 3 hh_input 9 [.ref (ad 0), .ref ao] (hw ad y σ ao f) 0 (hw ad y σ2 ao (vp_updL f 0 r.toInt64)) := by
  refine w_ofH (lv0 := [(0, .ref (ad 0)), (1, .ref ao)]) (by decide +kernel) (Nat.le_of_ble_eq_true rfl) rfl ?_
  intro Z hH hret
  have hE := hH.e
  have hZ := hE.is
  refine r_aload_n 1 hZ 1 dL_input_0 rfl rfl rfl ?_
  refine r_iconst (v := 0) 2 hZ dL_input_1 rfl (by decide) ?_
  refine r_aload_n 3 hZ 0 dL_input_2 rfl rfl rfl ?_
  refine r_callVEA hC wM_X7_input wL_L_7 hE rfl ⟨by decide, by decide⟩ 0 7 rfl rfl rfl rfl dL_input_3 ?_
  refine r_i2l 7 hZ dL_input_6 rfl ?_
  refine r_last 8 67 hZ (N := 1) (hw_len ad y σ2 ao f) (vp_in_nI (n := 0) (by decide) (by decide)) (hw_set ad y σ2 ao f _) dL_input_7 rfl ?_
  refine r_goto 14 hZ dL_input_8 (by decide) ?_
  refine r_iconst (v := 0) 15 hZ dL_input_14 rfl (by decide) ?_
  exact hret 0 0 _ _ _ _ (by decide) (by decide) dL_input_15 rfl rfl
set_option maxHeartbeats 4000000 in
set_option maxRecDepth 100000 in
theorem h_input_1 (l : Launch) (g : va_G) (y : Nat → ClassId) (ad : Nat → Nat)  {σ : stT} {ao : Nat} {f : Nat → Int64} (hC : w_T l g y yX7_input cX7_input 1 (some .int) 8 (.ref (ad 0) :: []) (cw ad y σ) xIS) : w_H l g y yL_input cL_input 3 hh_input 9 [.ref (ad 0), .ref ao] (hw ad y σ ao f) 1 (hw ad y σ ao f) := by
  refine w_ofH (lv0 := [(0, .ref (ad 0)), (1, .ref ao)]) (by decide +kernel) (Nat.le_of_ble_eq_true rfl) rfl ?_
  intro Z hH hret
  have hE := hH.e
  have hZ := hE.is
  refine r_aload_n 1 hZ 1 dL_input_0 rfl rfl rfl ?_
  refine r_iconst (v := 0) 2 hZ dL_input_1 rfl (by decide) ?_
  refine r_aload_n 3 hZ 0 dL_input_2 rfl rfl rfl ?_
  refine r_callTA hC wM_X7_input wL_L_7 hH rfl ⟨by decide, by decide⟩ ⟨by decide, by decide⟩ 0 7 rfl rfl rfl rfl dL_input_3 [] ⟨0, 8, 11, 13⟩ [] rfl (fun _ h => absurd h List.not_mem_nil) (by decide +kernel) (by decide) wC_L_13 (fun U h => h.1.2.1) (fun q => ?_)
  refine r_astnN 12 [(0, _), (1, _), (2, _)] hZ dL_input_11 rfl rfl (by decide) rfl rfl ?_
  refine r_iconst (v := 1) 13 hZ dL_input_12 rfl (by decide) ?_
  exact hret 1 6 _ _ _ _ (by decide) (by decide) dL_input_13 rfl rfl
abbrev hh_old : List (Nat × Nat × Nat × Nat) := [(0, 10, 13, 19), (0, 10, 17, 13), (0, 10, 21, 21)]
theorem wh_old : Cond.static yL_old ∈ UW ∧ Cond.initialized RL ∈ UW ∧ Cond.codeWith yL_old cL_old 5 (some .int) hh_old ∈ UW ∧ (yL_old.cls ≠ "java/lang/invoke/MethodHandle" ∧ yL_old.cls ≠ "java/lang/invoke/VarHandle" ∧ (parseMethodDescriptor yL_old.desc).map (fun d => d.parameters.length) = some 4) := ⟨uw_at 355 (by decide +kernel) rfl, uw_at 0 (by decide +kernel) rfl, uw_at 356 (by decide +kernel) rfl, by decide +kernel, by decide +kernel, by decide +kernel⟩
set_option maxHeartbeats 4000000 in
set_option maxRecDepth 100000 in
theorem h_old_0 (l : Launch) (g : va_G) (y : Nat → ClassId) (ad : Nat → Nat) (p0 : Int32) (p1 : Int32) {σ σ2 : stT} {ao : Nat} {f : Nat → Int64} (r : Int32) (hC : w_CE l g y yX7_old cX7_old 3 (some .int) 8 (.ref (ad 0) :: [.int p0, .int p1]) (cw ad y σ) (some (.int r)) (cw ad y σ2)) : w_H l g y yL_old cL_old 5 hh_old 9 [.ref (ad 0), .int p0, .int p1, .ref ao] (hw ad y σ ao f) 0 (hw ad y σ2 ao (vp_updL f 0 r.toInt64)) := by
  refine w_ofH (lv0 := [(0, .ref (ad 0)), (1, .int p0), (2, .int p1), (3, .ref ao)]) (by decide +kernel) (Nat.le_of_ble_eq_true rfl) rfl ?_
  intro Z hH hret
  have hE := hH.e
  have hZ := hE.is
  refine r_aload_n 1 hZ 3 dL_old_0 rfl rfl rfl ?_
  refine r_iconst (v := 0) 2 hZ dL_old_1 rfl (by decide) ?_
  refine r_aload_n 3 hZ 0 dL_old_2 rfl rfl rfl ?_
  refine r_iload_n 4 hZ 1 dL_old_3 rfl rfl rfl ?_
  refine r_iload_n 5 hZ 2 dL_old_4 rfl rfl rfl ?_
  refine r_callVEA hC wM_X7_old wL_L_15 hE rfl ⟨by decide, by decide⟩ 0 7 rfl rfl rfl rfl dL_old_5 ?_
  refine r_i2l 9 hZ dL_old_8 rfl ?_
  refine r_last 10 67 hZ (N := 1) (hw_len ad y σ2 ao f) (vp_in_nI (n := 0) (by decide) (by decide)) (hw_set ad y σ2 ao f _) dL_old_9 rfl ?_
  refine r_goto 25 hZ dL_old_10 (by decide) ?_
  refine r_iconst (v := 0) 26 hZ dL_old_25 rfl (by decide) ?_
  exact hret 0 0 _ _ _ _ (by decide) (by decide) dL_old_26 rfl rfl
set_option maxHeartbeats 4000000 in
set_option maxRecDepth 100000 in
theorem h_old_1 (l : Launch) (g : va_G) (y : Nat → ClassId) (ad : Nat → Nat) (p0 : Int32) (p1 : Int32) {σ : stT} {ao : Nat} {f : Nat → Int64} (hC : w_T l g y yX7_old cX7_old 3 (some .int) 8 (.ref (ad 0) :: [.int p0, .int p1]) (cw ad y σ) xIO) : w_H l g y yL_old cL_old 5 hh_old 9 [.ref (ad 0), .int p0, .int p1, .ref ao] (hw ad y σ ao f) 1 (hw ad y σ ao f) := by
  refine w_ofH (lv0 := [(0, .ref (ad 0)), (1, .int p0), (2, .int p1), (3, .ref ao)]) (by decide +kernel) (Nat.le_of_ble_eq_true rfl) rfl ?_
  intro Z hH hret
  have hE := hH.e
  have hZ := hE.is
  refine r_aload_n 1 hZ 3 dL_old_0 rfl rfl rfl ?_
  refine r_iconst (v := 0) 2 hZ dL_old_1 rfl (by decide) ?_
  refine r_aload_n 3 hZ 0 dL_old_2 rfl rfl rfl ?_
  refine r_iload_n 4 hZ 1 dL_old_3 rfl rfl rfl ?_
  refine r_iload_n 5 hZ 2 dL_old_4 rfl rfl rfl ?_
  refine r_callTA hC wM_X7_old wL_L_15 hH rfl ⟨by decide, by decide⟩ ⟨by decide, by decide⟩ 0 7 rfl rfl rfl rfl dL_old_5 [] ⟨0, 10, 13, 19⟩ [⟨0, 10, 17, 13⟩, ⟨0, 10, 21, 21⟩] rfl (fun _ h => absurd h List.not_mem_nil) (by decide +kernel) (by decide) wC_L_19 (fun U h => h.1.1) (fun q => ?_)
  refine r_astN (q := 0) 15 [(0, _), (1, _), (2, _), (3, _), (4, _)] hZ dL_old_13 rfl (by decide) rfl rfl ?_
  refine r_iconst (v := 1) 16 hZ dL_old_15 rfl (by decide) ?_
  exact hret 1 6 _ _ _ _ (by decide) (by decide) dL_old_16 rfl rfl
set_option maxHeartbeats 4000000 in
set_option maxRecDepth 100000 in
theorem h_old_2 (l : Launch) (g : va_G) (y : Nat → ClassId) (ad : Nat → Nat) (p0 : Int32) (p1 : Int32) {σ : stT} {ao : Nat} {f : Nat → Int64} (hC : w_T l g y yX7_old cX7_old 3 (some .int) 8 (.ref (ad 0) :: [.int p0, .int p1]) (cw ad y σ) xIS) : w_H l g y yL_old cL_old 5 hh_old 9 [.ref (ad 0), .int p0, .int p1, .ref ao] (hw ad y σ ao f) 2 (hw ad y σ ao f) := by
  refine w_ofH (lv0 := [(0, .ref (ad 0)), (1, .int p0), (2, .int p1), (3, .ref ao)]) (by decide +kernel) (Nat.le_of_ble_eq_true rfl) rfl ?_
  intro Z hH hret
  have hE := hH.e
  have hZ := hE.is
  refine r_aload_n 1 hZ 3 dL_old_0 rfl rfl rfl ?_
  refine r_iconst (v := 0) 2 hZ dL_old_1 rfl (by decide) ?_
  refine r_aload_n 3 hZ 0 dL_old_2 rfl rfl rfl ?_
  refine r_iload_n 4 hZ 1 dL_old_3 rfl rfl rfl ?_
  refine r_iload_n 5 hZ 2 dL_old_4 rfl rfl rfl ?_
  refine r_callTA hC wM_X7_old wL_L_15 hH rfl ⟨by decide, by decide⟩ ⟨by decide, by decide⟩ 0 7 rfl rfl rfl rfl dL_old_5 [⟨0, 10, 13, 19⟩] ⟨0, 10, 17, 13⟩ [⟨0, 10, 21, 21⟩] rfl (List.forall_mem_cons.mpr ⟨⟨by decide, xIO, wC_L_19, fun U h => h.2.1.1⟩, fun _ h => absurd h List.not_mem_nil⟩) (by decide +kernel) (by decide) wC_L_13 (fun U h => h.1.2.1) (fun q => ?_)
  refine r_astN (q := 0) 19 [(0, _), (1, _), (2, _), (3, _), (4, _)] hZ dL_old_17 rfl (by decide) rfl rfl ?_
  refine r_iconst (v := 2) 20 hZ dL_old_19 rfl (by decide) ?_
  exact hret 1 6 _ _ _ _ (by decide) (by decide) dL_old_20 rfl rfl
set_option maxHeartbeats 4000000 in
set_option maxRecDepth 100000 in
theorem h_old_3 (l : Launch) (g : va_G) (y : Nat → ClassId) (ad : Nat → Nat) (p0 : Int32) (p1 : Int32) {σ : stT} {ao : Nat} {f : Nat → Int64} (hC : w_T l g y yX7_old cX7_old 3 (some .int) 8 (.ref (ad 0) :: [.int p0, .int p1]) (cw ad y σ) xIA) : w_H l g y yL_old cL_old 5 hh_old 9 [.ref (ad 0), .int p0, .int p1, .ref ao] (hw ad y σ ao f) 3 (hw ad y σ ao f) := by
  refine w_ofH (lv0 := [(0, .ref (ad 0)), (1, .int p0), (2, .int p1), (3, .ref ao)]) (by decide +kernel) (Nat.le_of_ble_eq_true rfl) rfl ?_
  intro Z hH hret
  have hE := hH.e
  have hZ := hE.is
  refine r_aload_n 1 hZ 3 dL_old_0 rfl rfl rfl ?_
  refine r_iconst (v := 0) 2 hZ dL_old_1 rfl (by decide) ?_
  refine r_aload_n 3 hZ 0 dL_old_2 rfl rfl rfl ?_
  refine r_iload_n 4 hZ 1 dL_old_3 rfl rfl rfl ?_
  refine r_iload_n 5 hZ 2 dL_old_4 rfl rfl rfl ?_
  refine r_callTA hC wM_X7_old wL_L_15 hH rfl ⟨by decide, by decide⟩ ⟨by decide, by decide⟩ 0 7 rfl rfl rfl rfl dL_old_5 [⟨0, 10, 13, 19⟩, ⟨0, 10, 17, 13⟩] ⟨0, 10, 21, 21⟩ [] rfl (List.forall_mem_cons.mpr ⟨⟨by decide, xIO, wC_L_19, fun U h => h.2.1.2.1⟩, List.forall_mem_cons.mpr ⟨⟨by decide, xIS, wC_L_13, fun U h => h.2.1.2.2.1⟩, fun _ h => absurd h List.not_mem_nil⟩⟩) (by decide +kernel) (by decide) wC_L_21 (fun U h => h.1.2.2) (fun q => ?_)
  refine r_astN (q := 0) 23 [(0, _), (1, _), (2, _), (3, _), (4, _)] hZ dL_old_21 rfl (by decide) rfl rfl ?_
  refine r_iconst (v := 3) 24 hZ dL_old_23 rfl (by decide) ?_
  exact hret 1 6 _ _ _ _ (by decide) (by decide) dL_old_24 rfl rfl
abbrev hh_asked : List (Nat × Nat × Nat × Nat) := [(0, 10, 13, 19), (0, 10, 17, 13), (0, 10, 21, 21)]
theorem wh_asked : Cond.static yL_asked ∈ UW ∧ Cond.initialized RL ∈ UW ∧ Cond.codeWith yL_asked cL_asked 5 (some .int) hh_asked ∈ UW ∧ (yL_asked.cls ≠ "java/lang/invoke/MethodHandle" ∧ yL_asked.cls ≠ "java/lang/invoke/VarHandle" ∧ (parseMethodDescriptor yL_asked.desc).map (fun d => d.parameters.length) = some 4) := ⟨uw_at 417 (by decide +kernel) rfl, uw_at 0 (by decide +kernel) rfl, uw_at 418 (by decide +kernel) rfl, by decide +kernel, by decide +kernel, by decide +kernel⟩
set_option maxHeartbeats 4000000 in
set_option maxRecDepth 100000 in
theorem h_asked_0 (l : Launch) (g : va_G) (y : Nat → ClassId) (ad : Nat → Nat) (p0 : Int32) (p1 : Int32) {σ σ2 : stT} {ao : Nat} {f : Nat → Int64} (r : Int32) (hC : w_CE l g y yX7_asked cX7_asked 3 (some .int) 8 (.ref (ad 0) :: [.int p0, .int p1]) (cw ad y σ) (some (.int r)) (cw ad y σ2)) : w_H l g y yL_asked cL_asked 5 hh_asked 9 [.ref (ad 0), .int p0, .int p1, .ref ao] (hw ad y σ ao f) 0 (hw ad y σ2 ao (vp_updL f 0 r.toInt64)) := by
  refine w_ofH (lv0 := [(0, .ref (ad 0)), (1, .int p0), (2, .int p1), (3, .ref ao)]) (by decide +kernel) (Nat.le_of_ble_eq_true rfl) rfl ?_
  intro Z hH hret
  have hE := hH.e
  have hZ := hE.is
  refine r_aload_n 1 hZ 3 dL_asked_0 rfl rfl rfl ?_
  refine r_iconst (v := 0) 2 hZ dL_asked_1 rfl (by decide) ?_
  refine r_aload_n 3 hZ 0 dL_asked_2 rfl rfl rfl ?_
  refine r_iload_n 4 hZ 1 dL_asked_3 rfl rfl rfl ?_
  refine r_iload_n 5 hZ 2 dL_asked_4 rfl rfl rfl ?_
  refine r_callVEA hC wM_X7_asked wL_L_23 hE rfl ⟨by decide, by decide⟩ 0 7 rfl rfl rfl rfl dL_asked_5 ?_
  refine r_i2l 9 hZ dL_asked_8 rfl ?_
  refine r_last 10 67 hZ (N := 1) (hw_len ad y σ2 ao f) (vp_in_nI (n := 0) (by decide) (by decide)) (hw_set ad y σ2 ao f _) dL_asked_9 rfl ?_
  refine r_goto 25 hZ dL_asked_10 (by decide) ?_
  refine r_iconst (v := 0) 26 hZ dL_asked_25 rfl (by decide) ?_
  exact hret 0 0 _ _ _ _ (by decide) (by decide) dL_asked_26 rfl rfl
set_option maxHeartbeats 4000000 in
set_option maxRecDepth 100000 in
theorem h_asked_1 (l : Launch) (g : va_G) (y : Nat → ClassId) (ad : Nat → Nat) (p0 : Int32) (p1 : Int32) {σ : stT} {ao : Nat} {f : Nat → Int64} (hC : w_T l g y yX7_asked cX7_asked 3 (some .int) 8 (.ref (ad 0) :: [.int p0, .int p1]) (cw ad y σ) xIO) : w_H l g y yL_asked cL_asked 5 hh_asked 9 [.ref (ad 0), .int p0, .int p1, .ref ao] (hw ad y σ ao f) 1 (hw ad y σ ao f) := by
  refine w_ofH (lv0 := [(0, .ref (ad 0)), (1, .int p0), (2, .int p1), (3, .ref ao)]) (by decide +kernel) (Nat.le_of_ble_eq_true rfl) rfl ?_
  intro Z hH hret
  have hE := hH.e
  have hZ := hE.is
  refine r_aload_n 1 hZ 3 dL_asked_0 rfl rfl rfl ?_
  refine r_iconst (v := 0) 2 hZ dL_asked_1 rfl (by decide) ?_
  refine r_aload_n 3 hZ 0 dL_asked_2 rfl rfl rfl ?_
  refine r_iload_n 4 hZ 1 dL_asked_3 rfl rfl rfl ?_
  refine r_iload_n 5 hZ 2 dL_asked_4 rfl rfl rfl ?_
  refine r_callTA hC wM_X7_asked wL_L_23 hH rfl ⟨by decide, by decide⟩ ⟨by decide, by decide⟩ 0 7 rfl rfl rfl rfl dL_asked_5 [] ⟨0, 10, 13, 19⟩ [⟨0, 10, 17, 13⟩, ⟨0, 10, 21, 21⟩] rfl (fun _ h => absurd h List.not_mem_nil) (by decide +kernel) (by decide) wC_L_19 (fun U h => h.1.1) (fun q => ?_)
  refine r_astN (q := 0) 15 [(0, _), (1, _), (2, _), (3, _), (4, _)] hZ dL_asked_13 rfl (by decide) rfl rfl ?_
  refine r_iconst (v := 1) 16 hZ dL_asked_15 rfl (by decide) ?_
  exact hret 1 6 _ _ _ _ (by decide) (by decide) dL_asked_16 rfl rfl
set_option maxHeartbeats 4000000 in
set_option maxRecDepth 100000 in
theorem h_asked_2 (l : Launch) (g : va_G) (y : Nat → ClassId) (ad : Nat → Nat) (p0 : Int32) (p1 : Int32) {σ : stT} {ao : Nat} {f : Nat → Int64} (hC : w_T l g y yX7_asked cX7_asked 3 (some .int) 8 (.ref (ad 0) :: [.int p0, .int p1]) (cw ad y σ) xIS) : w_H l g y yL_asked cL_asked 5 hh_asked 9 [.ref (ad 0), .int p0, .int p1, .ref ao] (hw ad y σ ao f) 2 (hw ad y σ ao f) := by
  refine w_ofH (lv0 := [(0, .ref (ad 0)), (1, .int p0), (2, .int p1), (3, .ref ao)]) (by decide +kernel) (Nat.le_of_ble_eq_true rfl) rfl ?_
  intro Z hH hret
  have hE := hH.e
  have hZ := hE.is
  refine r_aload_n 1 hZ 3 dL_asked_0 rfl rfl rfl ?_
  refine r_iconst (v := 0) 2 hZ dL_asked_1 rfl (by decide) ?_
  refine r_aload_n 3 hZ 0 dL_asked_2 rfl rfl rfl ?_
  refine r_iload_n 4 hZ 1 dL_asked_3 rfl rfl rfl ?_
  refine r_iload_n 5 hZ 2 dL_asked_4 rfl rfl rfl ?_
  refine r_callTA hC wM_X7_asked wL_L_23 hH rfl ⟨by decide, by decide⟩ ⟨by decide, by decide⟩ 0 7 rfl rfl rfl rfl dL_asked_5 [⟨0, 10, 13, 19⟩] ⟨0, 10, 17, 13⟩ [⟨0, 10, 21, 21⟩] rfl (List.forall_mem_cons.mpr ⟨⟨by decide, xIO, wC_L_19, fun U h => h.2.1.1⟩, fun _ h => absurd h List.not_mem_nil⟩) (by decide +kernel) (by decide) wC_L_13 (fun U h => h.1.2.1) (fun q => ?_)
  refine r_astN (q := 0) 19 [(0, _), (1, _), (2, _), (3, _), (4, _)] hZ dL_asked_17 rfl (by decide) rfl rfl ?_
  refine r_iconst (v := 2) 20 hZ dL_asked_19 rfl (by decide) ?_
  exact hret 1 6 _ _ _ _ (by decide) (by decide) dL_asked_20 rfl rfl
set_option maxHeartbeats 4000000 in
set_option maxRecDepth 100000 in
theorem h_asked_3 (l : Launch) (g : va_G) (y : Nat → ClassId) (ad : Nat → Nat) (p0 : Int32) (p1 : Int32) {σ : stT} {ao : Nat} {f : Nat → Int64} (hC : w_T l g y yX7_asked cX7_asked 3 (some .int) 8 (.ref (ad 0) :: [.int p0, .int p1]) (cw ad y σ) xIA) : w_H l g y yL_asked cL_asked 5 hh_asked 9 [.ref (ad 0), .int p0, .int p1, .ref ao] (hw ad y σ ao f) 3 (hw ad y σ ao f) := by
  refine w_ofH (lv0 := [(0, .ref (ad 0)), (1, .int p0), (2, .int p1), (3, .ref ao)]) (by decide +kernel) (Nat.le_of_ble_eq_true rfl) rfl ?_
  intro Z hH hret
  have hE := hH.e
  have hZ := hE.is
  refine r_aload_n 1 hZ 3 dL_asked_0 rfl rfl rfl ?_
  refine r_iconst (v := 0) 2 hZ dL_asked_1 rfl (by decide) ?_
  refine r_aload_n 3 hZ 0 dL_asked_2 rfl rfl rfl ?_
  refine r_iload_n 4 hZ 1 dL_asked_3 rfl rfl rfl ?_
  refine r_iload_n 5 hZ 2 dL_asked_4 rfl rfl rfl ?_
  refine r_callTA hC wM_X7_asked wL_L_23 hH rfl ⟨by decide, by decide⟩ ⟨by decide, by decide⟩ 0 7 rfl rfl rfl rfl dL_asked_5 [⟨0, 10, 13, 19⟩, ⟨0, 10, 17, 13⟩] ⟨0, 10, 21, 21⟩ [] rfl (List.forall_mem_cons.mpr ⟨⟨by decide, xIO, wC_L_19, fun U h => h.2.1.2.1⟩, List.forall_mem_cons.mpr ⟨⟨by decide, xIS, wC_L_13, fun U h => h.2.1.2.2.1⟩, fun _ h => absurd h List.not_mem_nil⟩⟩) (by decide +kernel) (by decide) wC_L_21 (fun U h => h.1.2.2) (fun q => ?_)
  refine r_astN (q := 0) 23 [(0, _), (1, _), (2, _), (3, _), (4, _)] hZ dL_asked_21 rfl (by decide) rfl rfl ?_
  refine r_iconst (v := 3) 24 hZ dL_asked_23 rfl (by decide) ?_
  exact hret 1 6 _ _ _ _ (by decide) (by decide) dL_asked_24 rfl rfl
abbrev hh_output : List (Nat × Nat × Nat × Nat) := [(0, 10, 13, 19), (0, 10, 17, 13), (0, 10, 21, 21)]
theorem wh_output : Cond.static yL_output ∈ UW ∧ Cond.initialized RL ∈ UW ∧ Cond.codeWith yL_output cL_output 5 (some .int) hh_output ∈ UW ∧ (yL_output.cls ≠ "java/lang/invoke/MethodHandle" ∧ yL_output.cls ≠ "java/lang/invoke/VarHandle" ∧ (parseMethodDescriptor yL_output.desc).map (fun d => d.parameters.length) = some 4) := ⟨uw_at 430 (by decide +kernel) rfl, uw_at 0 (by decide +kernel) rfl, uw_at 431 (by decide +kernel) rfl, by decide +kernel, by decide +kernel, by decide +kernel⟩
set_option maxHeartbeats 4000000 in
set_option maxRecDepth 100000 in
theorem h_output_0 (l : Launch) (g : va_G) (y : Nat → ClassId) (ad : Nat → Nat) (p0 : Int32) (p1 : Int32) {σ σ2 : stT} {ao : Nat} {f : Nat → Int64} (r : Int32) (hC : w_CE l g y yX7_output cX7_output 3 (some .int) 8 (.ref (ad 0) :: [.int p0, .int p1]) (cw ad y σ) (some (.int r)) (cw ad y σ2)) : w_H l g y yL_output cL_output 5 hh_output 9 [.ref (ad 0), .int p0, .int p1, .ref ao] (hw ad y σ ao f) 0 (hw ad y σ2 ao (vp_updL f 0 r.toInt64)) := by
  refine w_ofH (lv0 := [(0, .ref (ad 0)), (1, .int p0), (2, .int p1), (3, .ref ao)]) (by decide +kernel) (Nat.le_of_ble_eq_true rfl) rfl ?_
  intro Z hH hret
  have hE := hH.e
  have hZ := hE.is
  refine r_aload_n 1 hZ 3 dL_output_0 rfl rfl rfl ?_
  refine r_iconst (v := 0) 2 hZ dL_output_1 rfl (by decide) ?_
  refine r_aload_n 3 hZ 0 dL_output_2 rfl rfl rfl ?_
  refine r_iload_n 4 hZ 1 dL_output_3 rfl rfl rfl ?_
  refine r_iload_n 5 hZ 2 dL_output_4 rfl rfl rfl ?_
  refine r_callVEA hC wM_X7_output wL_L_26 hE rfl ⟨by decide, by decide⟩ 0 7 rfl rfl rfl rfl dL_output_5 ?_
  refine r_i2l 9 hZ dL_output_8 rfl ?_
  refine r_last 10 67 hZ (N := 1) (hw_len ad y σ2 ao f) (vp_in_nI (n := 0) (by decide) (by decide)) (hw_set ad y σ2 ao f _) dL_output_9 rfl ?_
  refine r_goto 25 hZ dL_output_10 (by decide) ?_
  refine r_iconst (v := 0) 26 hZ dL_output_25 rfl (by decide) ?_
  exact hret 0 0 _ _ _ _ (by decide) (by decide) dL_output_26 rfl rfl
set_option maxHeartbeats 4000000 in
set_option maxRecDepth 100000 in
theorem h_output_1 (l : Launch) (g : va_G) (y : Nat → ClassId) (ad : Nat → Nat) (p0 : Int32) (p1 : Int32) {σ : stT} {ao : Nat} {f : Nat → Int64} (hC : w_T l g y yX7_output cX7_output 3 (some .int) 8 (.ref (ad 0) :: [.int p0, .int p1]) (cw ad y σ) xIO) : w_H l g y yL_output cL_output 5 hh_output 9 [.ref (ad 0), .int p0, .int p1, .ref ao] (hw ad y σ ao f) 1 (hw ad y σ ao f) := by
  refine w_ofH (lv0 := [(0, .ref (ad 0)), (1, .int p0), (2, .int p1), (3, .ref ao)]) (by decide +kernel) (Nat.le_of_ble_eq_true rfl) rfl ?_
  intro Z hH hret
  have hE := hH.e
  have hZ := hE.is
  refine r_aload_n 1 hZ 3 dL_output_0 rfl rfl rfl ?_
  refine r_iconst (v := 0) 2 hZ dL_output_1 rfl (by decide) ?_
  refine r_aload_n 3 hZ 0 dL_output_2 rfl rfl rfl ?_
  refine r_iload_n 4 hZ 1 dL_output_3 rfl rfl rfl ?_
  refine r_iload_n 5 hZ 2 dL_output_4 rfl rfl rfl ?_
  refine r_callTA hC wM_X7_output wL_L_26 hH rfl ⟨by decide, by decide⟩ ⟨by decide, by decide⟩ 0 7 rfl rfl rfl rfl dL_output_5 [] ⟨0, 10, 13, 19⟩ [⟨0, 10, 17, 13⟩, ⟨0, 10, 21, 21⟩] rfl (fun _ h => absurd h List.not_mem_nil) (by decide +kernel) (by decide) wC_L_19 (fun U h => h.1.1) (fun q => ?_)
  refine r_astN (q := 0) 15 [(0, _), (1, _), (2, _), (3, _), (4, _)] hZ dL_output_13 rfl (by decide) rfl rfl ?_
  refine r_iconst (v := 1) 16 hZ dL_output_15 rfl (by decide) ?_
  exact hret 1 6 _ _ _ _ (by decide) (by decide) dL_output_16 rfl rfl
set_option maxHeartbeats 4000000 in
set_option maxRecDepth 100000 in
theorem h_output_2 (l : Launch) (g : va_G) (y : Nat → ClassId) (ad : Nat → Nat) (p0 : Int32) (p1 : Int32) {σ : stT} {ao : Nat} {f : Nat → Int64} (hC : w_T l g y yX7_output cX7_output 3 (some .int) 8 (.ref (ad 0) :: [.int p0, .int p1]) (cw ad y σ) xIS) : w_H l g y yL_output cL_output 5 hh_output 9 [.ref (ad 0), .int p0, .int p1, .ref ao] (hw ad y σ ao f) 2 (hw ad y σ ao f) := by
  refine w_ofH (lv0 := [(0, .ref (ad 0)), (1, .int p0), (2, .int p1), (3, .ref ao)]) (by decide +kernel) (Nat.le_of_ble_eq_true rfl) rfl ?_
  intro Z hH hret
  have hE := hH.e
  have hZ := hE.is
  refine r_aload_n 1 hZ 3 dL_output_0 rfl rfl rfl ?_
  refine r_iconst (v := 0) 2 hZ dL_output_1 rfl (by decide) ?_
  refine r_aload_n 3 hZ 0 dL_output_2 rfl rfl rfl ?_
  refine r_iload_n 4 hZ 1 dL_output_3 rfl rfl rfl ?_
  refine r_iload_n 5 hZ 2 dL_output_4 rfl rfl rfl ?_
  refine r_callTA hC wM_X7_output wL_L_26 hH rfl ⟨by decide, by decide⟩ ⟨by decide, by decide⟩ 0 7 rfl rfl rfl rfl dL_output_5 [⟨0, 10, 13, 19⟩] ⟨0, 10, 17, 13⟩ [⟨0, 10, 21, 21⟩] rfl (List.forall_mem_cons.mpr ⟨⟨by decide, xIO, wC_L_19, fun U h => h.2.1.1⟩, fun _ h => absurd h List.not_mem_nil⟩) (by decide +kernel) (by decide) wC_L_13 (fun U h => h.1.2.1) (fun q => ?_)
  refine r_astN (q := 0) 19 [(0, _), (1, _), (2, _), (3, _), (4, _)] hZ dL_output_17 rfl (by decide) rfl rfl ?_
  refine r_iconst (v := 2) 20 hZ dL_output_19 rfl (by decide) ?_
  exact hret 1 6 _ _ _ _ (by decide) (by decide) dL_output_20 rfl rfl
set_option maxHeartbeats 4000000 in
set_option maxRecDepth 100000 in
theorem h_output_3 (l : Launch) (g : va_G) (y : Nat → ClassId) (ad : Nat → Nat) (p0 : Int32) (p1 : Int32) {σ : stT} {ao : Nat} {f : Nat → Int64} (hC : w_T l g y yX7_output cX7_output 3 (some .int) 8 (.ref (ad 0) :: [.int p0, .int p1]) (cw ad y σ) xIA) : w_H l g y yL_output cL_output 5 hh_output 9 [.ref (ad 0), .int p0, .int p1, .ref ao] (hw ad y σ ao f) 3 (hw ad y σ ao f) := by
  refine w_ofH (lv0 := [(0, .ref (ad 0)), (1, .int p0), (2, .int p1), (3, .ref ao)]) (by decide +kernel) (Nat.le_of_ble_eq_true rfl) rfl ?_
  intro Z hH hret
  have hE := hH.e
  have hZ := hE.is
  refine r_aload_n 1 hZ 3 dL_output_0 rfl rfl rfl ?_
  refine r_iconst (v := 0) 2 hZ dL_output_1 rfl (by decide) ?_
  refine r_aload_n 3 hZ 0 dL_output_2 rfl rfl rfl ?_
  refine r_iload_n 4 hZ 1 dL_output_3 rfl rfl rfl ?_
  refine r_iload_n 5 hZ 2 dL_output_4 rfl rfl rfl ?_
  refine r_callTA hC wM_X7_output wL_L_26 hH rfl ⟨by decide, by decide⟩ ⟨by decide, by decide⟩ 0 7 rfl rfl rfl rfl dL_output_5 [⟨0, 10, 13, 19⟩, ⟨0, 10, 17, 13⟩] ⟨0, 10, 21, 21⟩ [] rfl (List.forall_mem_cons.mpr ⟨⟨by decide, xIO, wC_L_19, fun U h => h.2.1.2.1⟩, List.forall_mem_cons.mpr ⟨⟨by decide, xIS, wC_L_13, fun U h => h.2.1.2.2.1⟩, fun _ h => absurd h List.not_mem_nil⟩⟩) (by decide +kernel) (by decide) wC_L_21 (fun U h => h.1.2.2) (fun q => ?_)
  refine r_astN (q := 0) 23 [(0, _), (1, _), (2, _), (3, _), (4, _)] hZ dL_output_21 rfl (by decide) rfl rfl ?_
  refine r_iconst (v := 3) 24 hZ dL_output_23 rfl (by decide) ?_
  exact hret 1 6 _ _ _ _ (by decide) (by decide) dL_output_24 rfl rfl
abbrev hh_value : List (Nat × Nat × Nat × Nat) := [(0, 10, 13, 19)]
theorem wh_value : Cond.static yL_value ∈ UW ∧ Cond.initialized RL ∈ UW ∧ Cond.codeWith yL_value cL_value 5 (some .int) hh_value ∈ UW ∧ (yL_value.cls ≠ "java/lang/invoke/MethodHandle" ∧ yL_value.cls ≠ "java/lang/invoke/VarHandle" ∧ (parseMethodDescriptor yL_value.desc).map (fun d => d.parameters.length) = some 4) := ⟨uw_at 443 (by decide +kernel) rfl, uw_at 0 (by decide +kernel) rfl, uw_at 444 (by decide +kernel) rfl, by decide +kernel, by decide +kernel, by decide +kernel⟩
set_option maxHeartbeats 4000000 in
set_option maxRecDepth 100000 in
theorem h_value_0 (l : Launch) (g : va_G) (y : Nat → ClassId) (ad : Nat → Nat) (p0 : Int32) (p1 : Int32) {σ σ2 : stT} {ao : Nat} {f : Nat → Int64} (r : Int32) (hC : w_CE l g y yX7_value cX7_value 4 (some .int) 8 (.ref (ad 0) :: [.int p0, .int p1]) (cw ad y σ) (some (.int r)) (cw ad y σ2)) : w_H l g y yL_value cL_value 5 hh_value 9 [.ref (ad 0), .int p0, .int p1, .ref ao] (hw ad y σ ao f) 0 (hw ad y σ2 ao (vp_updL f 0 r.toInt64)) := by
  refine w_ofH (lv0 := [(0, .ref (ad 0)), (1, .int p0), (2, .int p1), (3, .ref ao)]) (by decide +kernel) (Nat.le_of_ble_eq_true rfl) rfl ?_
  intro Z hH hret
  have hE := hH.e
  have hZ := hE.is
  refine r_aload_n 1 hZ 3 dL_value_0 rfl rfl rfl ?_
  refine r_iconst (v := 0) 2 hZ dL_value_1 rfl (by decide) ?_
  refine r_aload_n 3 hZ 0 dL_value_2 rfl rfl rfl ?_
  refine r_iload_n 4 hZ 1 dL_value_3 rfl rfl rfl ?_
  refine r_iload_n 5 hZ 2 dL_value_4 rfl rfl rfl ?_
  refine r_callVEA hC wM_X7_value wL_L_29 hE rfl ⟨by decide, by decide⟩ 0 7 rfl rfl rfl rfl dL_value_5 ?_
  refine r_i2l 9 hZ dL_value_8 rfl ?_
  refine r_last 10 67 hZ (N := 1) (hw_len ad y σ2 ao f) (vp_in_nI (n := 0) (by decide) (by decide)) (hw_set ad y σ2 ao f _) dL_value_9 rfl ?_
  refine r_goto 17 hZ dL_value_10 (by decide) ?_
  refine r_iconst (v := 0) 18 hZ dL_value_17 rfl (by decide) ?_
  exact hret 0 0 _ _ _ _ (by decide) (by decide) dL_value_18 rfl rfl
set_option maxHeartbeats 4000000 in
set_option maxRecDepth 100000 in
theorem h_value_1 (l : Launch) (g : va_G) (y : Nat → ClassId) (ad : Nat → Nat) (p0 : Int32) (p1 : Int32) {σ : stT} {ao : Nat} {f : Nat → Int64} (hC : w_T l g y yX7_value cX7_value 4 (some .int) 8 (.ref (ad 0) :: [.int p0, .int p1]) (cw ad y σ) xIO) : w_H l g y yL_value cL_value 5 hh_value 9 [.ref (ad 0), .int p0, .int p1, .ref ao] (hw ad y σ ao f) 1 (hw ad y σ ao f) := by
  refine w_ofH (lv0 := [(0, .ref (ad 0)), (1, .int p0), (2, .int p1), (3, .ref ao)]) (by decide +kernel) (Nat.le_of_ble_eq_true rfl) rfl ?_
  intro Z hH hret
  have hE := hH.e
  have hZ := hE.is
  refine r_aload_n 1 hZ 3 dL_value_0 rfl rfl rfl ?_
  refine r_iconst (v := 0) 2 hZ dL_value_1 rfl (by decide) ?_
  refine r_aload_n 3 hZ 0 dL_value_2 rfl rfl rfl ?_
  refine r_iload_n 4 hZ 1 dL_value_3 rfl rfl rfl ?_
  refine r_iload_n 5 hZ 2 dL_value_4 rfl rfl rfl ?_
  refine r_callTA hC wM_X7_value wL_L_29 hH rfl ⟨by decide, by decide⟩ ⟨by decide, by decide⟩ 0 7 rfl rfl rfl rfl dL_value_5 [] ⟨0, 10, 13, 19⟩ [] rfl (fun _ h => absurd h List.not_mem_nil) (by decide +kernel) (by decide) wC_L_19 (fun U h => h.1.1) (fun q => ?_)
  refine r_astN (q := 0) 15 [(0, _), (1, _), (2, _), (3, _), (4, _)] hZ dL_value_13 rfl (by decide) rfl rfl ?_
  refine r_iconst (v := 1) 16 hZ dL_value_15 rfl (by decide) ?_
  exact hret 1 6 _ _ _ _ (by decide) (by decide) dL_value_16 rfl rfl
abbrev hh_witness : List (Nat × Nat × Nat × Nat) := [(0, 9, 12, 19)]
theorem wh_witness : Cond.static yL_witness ∈ UW ∧ Cond.initialized RL ∈ UW ∧ Cond.codeWith yL_witness cL_witness 4 (some .int) hh_witness ∈ UW ∧ (yL_witness.cls ≠ "java/lang/invoke/MethodHandle" ∧ yL_witness.cls ≠ "java/lang/invoke/VarHandle" ∧ (parseMethodDescriptor yL_witness.desc).map (fun d => d.parameters.length) = some 3) := ⟨uw_at 451 (by decide +kernel) rfl, uw_at 0 (by decide +kernel) rfl, uw_at 452 (by decide +kernel) rfl, by decide +kernel, by decide +kernel, by decide +kernel⟩
set_option maxHeartbeats 4000000 in
set_option maxRecDepth 100000 in
theorem h_witness_0 (l : Launch) (g : va_G) (y : Nat → ClassId) (ad : Nat → Nat) (p0 : Int32) {σ σ2 : stT} {ao : Nat} {f : Nat → Int64} (r : Int32) (hC : w_CE l g y yX7_witness cX7_witness 2 (some .int) 8 (.ref (ad 0) :: [.int p0]) (cw ad y σ) (some (.int r)) (cw ad y σ2)) : w_H l g y yL_witness cL_witness 4 hh_witness 9 [.ref (ad 0), .int p0, .ref ao] (hw ad y σ ao f) 0 (hw ad y σ2 ao (vp_updL f 0 r.toInt64)) := by
  refine w_ofH (lv0 := [(0, .ref (ad 0)), (1, .int p0), (2, .ref ao)]) (by decide +kernel) (Nat.le_of_ble_eq_true rfl) rfl ?_
  intro Z hH hret
  have hE := hH.e
  have hZ := hE.is
  refine r_aload_n 1 hZ 2 dL_witness_0 rfl rfl rfl ?_
  refine r_iconst (v := 0) 2 hZ dL_witness_1 rfl (by decide) ?_
  refine r_aload_n 3 hZ 0 dL_witness_2 rfl rfl rfl ?_
  refine r_iload_n 4 hZ 1 dL_witness_3 rfl rfl rfl ?_
  refine r_callVEA hC wM_X7_witness wL_L_32 hE rfl ⟨by decide, by decide⟩ 0 7 rfl rfl rfl rfl dL_witness_4 ?_
  refine r_i2l 8 hZ dL_witness_7 rfl ?_
  refine r_last 9 67 hZ (N := 1) (hw_len ad y σ2 ao f) (vp_in_nI (n := 0) (by decide) (by decide)) (hw_set ad y σ2 ao f _) dL_witness_8 rfl ?_
  refine r_goto 15 hZ dL_witness_9 (by decide) ?_
  refine r_iconst (v := 0) 16 hZ dL_witness_15 rfl (by decide) ?_
  exact hret 0 0 _ _ _ _ (by decide) (by decide) dL_witness_16 rfl rfl
set_option maxHeartbeats 4000000 in
set_option maxRecDepth 100000 in
theorem h_witness_1 (l : Launch) (g : va_G) (y : Nat → ClassId) (ad : Nat → Nat) (p0 : Int32) {σ : stT} {ao : Nat} {f : Nat → Int64} (hC : w_T l g y yX7_witness cX7_witness 2 (some .int) 8 (.ref (ad 0) :: [.int p0]) (cw ad y σ) xIO) : w_H l g y yL_witness cL_witness 4 hh_witness 9 [.ref (ad 0), .int p0, .ref ao] (hw ad y σ ao f) 1 (hw ad y σ ao f) := by
  refine w_ofH (lv0 := [(0, .ref (ad 0)), (1, .int p0), (2, .ref ao)]) (by decide +kernel) (Nat.le_of_ble_eq_true rfl) rfl ?_
  intro Z hH hret
  have hE := hH.e
  have hZ := hE.is
  refine r_aload_n 1 hZ 2 dL_witness_0 rfl rfl rfl ?_
  refine r_iconst (v := 0) 2 hZ dL_witness_1 rfl (by decide) ?_
  refine r_aload_n 3 hZ 0 dL_witness_2 rfl rfl rfl ?_
  refine r_iload_n 4 hZ 1 dL_witness_3 rfl rfl rfl ?_
  refine r_callTA hC wM_X7_witness wL_L_32 hH rfl ⟨by decide, by decide⟩ ⟨by decide, by decide⟩ 0 7 rfl rfl rfl rfl dL_witness_4 [] ⟨0, 9, 12, 19⟩ [] rfl (fun _ h => absurd h List.not_mem_nil) (by decide +kernel) (by decide) wC_L_19 (fun U h => h.1.1) (fun q => ?_)
  refine r_astnN 13 [(0, _), (1, _), (2, _), (3, _)] hZ dL_witness_12 rfl rfl (by decide) rfl rfl ?_
  refine r_iconst (v := 1) 14 hZ dL_witness_13 rfl (by decide) ?_
  exact hret 1 6 _ _ _ _ (by decide) (by decide) dL_witness_14 rfl rfl
abbrev hh_matched : List (Nat × Nat × Nat × Nat) := [(0, 9, 12, 19)]
theorem wh_matched : Cond.static yL_matched ∈ UW ∧ Cond.initialized RL ∈ UW ∧ Cond.codeWith yL_matched cL_matched 4 (some .int) hh_matched ∈ UW ∧ (yL_matched.cls ≠ "java/lang/invoke/MethodHandle" ∧ yL_matched.cls ≠ "java/lang/invoke/VarHandle" ∧ (parseMethodDescriptor yL_matched.desc).map (fun d => d.parameters.length) = some 3) := ⟨uw_at 462 (by decide +kernel) rfl, uw_at 0 (by decide +kernel) rfl, uw_at 463 (by decide +kernel) rfl, by decide +kernel, by decide +kernel, by decide +kernel⟩
set_option maxHeartbeats 4000000 in
set_option maxRecDepth 100000 in
theorem h_matched_0 (l : Launch) (g : va_G) (y : Nat → ClassId) (ad : Nat → Nat) (p0 : Int32) {σ σ2 : stT} {ao : Nat} {f : Nat → Int64} (r : Int32) (hC : w_CE l g y yX7_matched cX7_matched 2 (some .int) 8 (.ref (ad 0) :: [.int p0]) (cw ad y σ) (some (.int r)) (cw ad y σ2)) : w_H l g y yL_matched cL_matched 4 hh_matched 9 [.ref (ad 0), .int p0, .ref ao] (hw ad y σ ao f) 0 (hw ad y σ2 ao (vp_updL f 0 r.toInt64)) := by
  refine w_ofH (lv0 := [(0, .ref (ad 0)), (1, .int p0), (2, .ref ao)]) (by decide +kernel) (Nat.le_of_ble_eq_true rfl) rfl ?_
  intro Z hH hret
  have hE := hH.e
  have hZ := hE.is
  refine r_aload_n 1 hZ 2 dL_matched_0 rfl rfl rfl ?_
  refine r_iconst (v := 0) 2 hZ dL_matched_1 rfl (by decide) ?_
  refine r_aload_n 3 hZ 0 dL_matched_2 rfl rfl rfl ?_
  refine r_iload_n 4 hZ 1 dL_matched_3 rfl rfl rfl ?_
  refine r_callVEA hC wM_X7_matched wL_L_36 hE rfl ⟨by decide, by decide⟩ 0 7 rfl rfl rfl rfl dL_matched_4 ?_
  refine r_i2l 8 hZ dL_matched_7 rfl ?_
  refine r_last 9 67 hZ (N := 1) (hw_len ad y σ2 ao f) (vp_in_nI (n := 0) (by decide) (by decide)) (hw_set ad y σ2 ao f _) dL_matched_8 rfl ?_
  refine r_goto 15 hZ dL_matched_9 (by decide) ?_
  refine r_iconst (v := 0) 16 hZ dL_matched_15 rfl (by decide) ?_
  exact hret 0 0 _ _ _ _ (by decide) (by decide) dL_matched_16 rfl rfl
set_option maxHeartbeats 4000000 in
set_option maxRecDepth 100000 in
theorem h_matched_1 (l : Launch) (g : va_G) (y : Nat → ClassId) (ad : Nat → Nat) (p0 : Int32) {σ : stT} {ao : Nat} {f : Nat → Int64} (hC : w_T l g y yX7_matched cX7_matched 2 (some .int) 8 (.ref (ad 0) :: [.int p0]) (cw ad y σ) xIO) : w_H l g y yL_matched cL_matched 4 hh_matched 9 [.ref (ad 0), .int p0, .ref ao] (hw ad y σ ao f) 1 (hw ad y σ ao f) := by
  refine w_ofH (lv0 := [(0, .ref (ad 0)), (1, .int p0), (2, .ref ao)]) (by decide +kernel) (Nat.le_of_ble_eq_true rfl) rfl ?_
  intro Z hH hret
  have hE := hH.e
  have hZ := hE.is
  refine r_aload_n 1 hZ 2 dL_matched_0 rfl rfl rfl ?_
  refine r_iconst (v := 0) 2 hZ dL_matched_1 rfl (by decide) ?_
  refine r_aload_n 3 hZ 0 dL_matched_2 rfl rfl rfl ?_
  refine r_iload_n 4 hZ 1 dL_matched_3 rfl rfl rfl ?_
  refine r_callTA hC wM_X7_matched wL_L_36 hH rfl ⟨by decide, by decide⟩ ⟨by decide, by decide⟩ 0 7 rfl rfl rfl rfl dL_matched_4 [] ⟨0, 9, 12, 19⟩ [] rfl (fun _ h => absurd h List.not_mem_nil) (by decide +kernel) (by decide) wC_L_19 (fun U h => h.1.1) (fun q => ?_)
  refine r_astnN 13 [(0, _), (1, _), (2, _), (3, _)] hZ dL_matched_12 rfl rfl (by decide) rfl rfl ?_
  refine r_iconst (v := 1) 14 hZ dL_matched_13 rfl (by decide) ?_
  exact hret 1 6 _ _ _ _ (by decide) (by decide) dL_matched_14 rfl rfl
abbrev hh_keep : List (Nat × Nat × Nat × Nat) := [(0, 17, 20, 19)]
theorem wh_keep : Cond.static yL_keep ∈ UW ∧ Cond.initialized RL ∈ UW ∧ Cond.codeWith yL_keep cL_keep 5 (some .int) hh_keep ∈ UW ∧ (yL_keep.cls ≠ "java/lang/invoke/MethodHandle" ∧ yL_keep.cls ≠ "java/lang/invoke/VarHandle" ∧ (parseMethodDescriptor yL_keep.desc).map (fun d => d.parameters.length) = some 4) := ⟨uw_at 477 (by decide +kernel) rfl, uw_at 0 (by decide +kernel) rfl, uw_at 478 (by decide +kernel) rfl, by decide +kernel, by decide +kernel, by decide +kernel⟩
set_option maxHeartbeats 4000000 in
set_option maxRecDepth 100000 in
theorem h_keep_0 (l : Launch) (g : va_G) (y : Nat → ClassId) (ad : Nat → Nat) (p0 : Int32) (p1 : Int32) {σ σ2 : stT} {ao : Nat} {f : Nat → Int64} (b : Int32) (hC : w_CE l g y yX7_keep cX7_keep 3 (some .boolean) 8 (.ref (ad 0) :: [.int p0, .int p1]) (cw ad y σ) (some (.int b)) (cw ad y σ2)) : w_H l g y yL_keep cL_keep 5 hh_keep 9 [.ref (ad 0), .int p0, .int p1, .ref ao] (hw ad y σ ao f) 0 (hw ad y σ2 ao (vp_updL f 0 (if b = 0 then 0 else 1))) := by
  refine w_ofH (lv0 := [(0, .ref (ad 0)), (1, .int p0), (2, .int p1), (3, .ref ao)]) (by decide +kernel) (Nat.le_of_ble_eq_true rfl) rfl ?_
  intro Z hH hret
  have hE := hH.e
  have hZ := hE.is
  refine r_aload_n 1 hZ 3 dL_keep_0 rfl rfl rfl ?_
  refine r_iconst (v := 0) 2 hZ dL_keep_1 rfl (by decide) ?_
  refine r_aload_n 3 hZ 0 dL_keep_2 rfl rfl rfl ?_
  refine r_iload_n 4 hZ 1 dL_keep_3 rfl rfl rfl ?_
  refine r_iload_n 5 hZ 2 dL_keep_4 rfl rfl rfl ?_
  refine r_callVEA hC wM_X7_keep wL_L_39 hE rfl ⟨by decide, by decide⟩ 0 7 rfl rfl rfl rfl dL_keep_5 ?_
  refine r_if_eq 15 11 hZ dL_keep_8 (by decide) rfl (fun c => ?_) (fun c => ?_)
  · rw [if_pos c] at hret
    refine r_lconst (v := 0) 16 hZ dL_keep_15 rfl (by decide) ?_
    refine r_last 17 67 hZ (N := 1) (hw_len ad y σ2 ao f) (vp_in_nI (n := 0) (by decide) (by decide)) (hw_set ad y σ2 ao f _) dL_keep_16 rfl ?_
    refine r_goto 24 hZ dL_keep_17 (by decide) ?_
    refine r_iconst (v := 0) 25 hZ dL_keep_24 rfl (by decide) ?_
    exact hret 0 0 _ _ _ _ (by decide) (by decide) dL_keep_25 rfl rfl
  · rw [if_neg c] at hret
    refine r_lconst (v := 1) 12 hZ dL_keep_11 rfl (by decide) ?_
    refine r_goto 16 hZ dL_keep_12 (by decide) ?_
    refine r_last 17 67 hZ (N := 1) (hw_len ad y σ2 ao f) (vp_in_nI (n := 0) (by decide) (by decide)) (hw_set ad y σ2 ao f _) dL_keep_16 rfl ?_
    refine r_goto 24 hZ dL_keep_17 (by decide) ?_
    refine r_iconst (v := 0) 25 hZ dL_keep_24 rfl (by decide) ?_
    exact hret 0 0 _ _ _ _ (by decide) (by decide) dL_keep_25 rfl rfl
set_option maxHeartbeats 4000000 in
set_option maxRecDepth 100000 in
theorem h_keep_1 (l : Launch) (g : va_G) (y : Nat → ClassId) (ad : Nat → Nat) (p0 : Int32) (p1 : Int32) {σ : stT} {ao : Nat} {f : Nat → Int64} (hC : w_T l g y yX7_keep cX7_keep 3 (some .boolean) 8 (.ref (ad 0) :: [.int p0, .int p1]) (cw ad y σ) xIO) : w_H l g y yL_keep cL_keep 5 hh_keep 9 [.ref (ad 0), .int p0, .int p1, .ref ao] (hw ad y σ ao f) 1 (hw ad y σ ao f) := by
  refine w_ofH (lv0 := [(0, .ref (ad 0)), (1, .int p0), (2, .int p1), (3, .ref ao)]) (by decide +kernel) (Nat.le_of_ble_eq_true rfl) rfl ?_
  intro Z hH hret
  have hE := hH.e
  have hZ := hE.is
  refine r_aload_n 1 hZ 3 dL_keep_0 rfl rfl rfl ?_
  refine r_iconst (v := 0) 2 hZ dL_keep_1 rfl (by decide) ?_
  refine r_aload_n 3 hZ 0 dL_keep_2 rfl rfl rfl ?_
  refine r_iload_n 4 hZ 1 dL_keep_3 rfl rfl rfl ?_
  refine r_iload_n 5 hZ 2 dL_keep_4 rfl rfl rfl ?_
  refine r_callTA hC wM_X7_keep wL_L_39 hH rfl ⟨by decide, by decide⟩ ⟨by decide, by decide⟩ 0 7 rfl rfl rfl rfl dL_keep_5 [] ⟨0, 17, 20, 19⟩ [] rfl (fun _ h => absurd h List.not_mem_nil) (by decide +kernel) (by decide) wC_L_19 (fun U h => h.1.1) (fun q => ?_)
  refine r_astN (q := 0) 22 [(0, _), (1, _), (2, _), (3, _), (4, _)] hZ dL_keep_20 rfl (by decide) rfl rfl ?_
  refine r_iconst (v := 1) 23 hZ dL_keep_22 rfl (by decide) ?_
  exact hret 1 6 _ _ _ _ (by decide) (by decide) dL_keep_23 rfl rfl
abbrev hh_place : List (Nat × Nat × Nat × Nat) := [(0, 20, 23, 19), (0, 20, 27, 21)]
theorem wh_place : Cond.static yL_place ∈ UW ∧ Cond.initialized RL ∈ UW ∧ Cond.codeWith yL_place cL_place 8 (some .int) hh_place ∈ UW ∧ (yL_place.cls ≠ "java/lang/invoke/MethodHandle" ∧ yL_place.cls ≠ "java/lang/invoke/VarHandle" ∧ (parseMethodDescriptor yL_place.desc).map (fun d => d.parameters.length) = some 5) := ⟨uw_at 489 (by decide +kernel) rfl, uw_at 0 (by decide +kernel) rfl, uw_at 490 (by decide +kernel) rfl, by decide +kernel, by decide +kernel, by decide +kernel⟩
set_option maxHeartbeats 4000000 in
set_option maxRecDepth 100000 in
theorem h_place_0 (l : Launch) (g : va_G) (y : Nat → ClassId) (ad : Nat → Nat) (p0 : Int32) (P1 : Int64) (P2 : Int64) {σ σ2 : stT} {ao : Nat} {f : Nat → Int64} (b : Int32) (hC : w_CE l g y yX7_place cX7_place 6 (some .boolean) 8 (.ref (ad 0) :: [.int p0, .long P1, .long P2]) (cw ad y σ) (some (.int b)) (cw ad y σ2)) : w_H l g y yL_place cL_place 8 hh_place 9 [.ref (ad 0), .int p0, .long P1, .long P2, .ref ao] (hw ad y σ ao f) 0 (hw ad y σ2 ao (vp_updL f 0 (if b = 0 then 0 else 1))) := by
  refine w_ofH (lv0 := [(0, .ref (ad 0)), (1, .int p0), (2, .long P1), (4, .long P2), (6, .ref ao)]) (by decide +kernel) (Nat.le_of_ble_eq_true rfl) rfl ?_
  intro Z hH hret
  have hE := hH.e
  have hZ := hE.is
  refine r_aload 2 hZ 4 dL_place_0 rfl rfl ?_
  refine r_iconst (v := 0) 3 hZ dL_place_2 rfl (by decide) ?_
  refine r_aload_n 4 hZ 0 dL_place_3 rfl rfl rfl ?_
  refine r_iload_n 5 hZ 1 dL_place_4 rfl rfl rfl ?_
  refine r_lload_n 6 hZ 2 dL_place_5 rfl rfl rfl ?_
  refine r_lload 8 hZ 3 dL_place_6 rfl rfl ?_
  refine r_callVEA hC wM_X7_place wL_L_43 hE rfl ⟨by decide, by decide⟩ 0 7 rfl rfl rfl rfl dL_place_8 ?_
  refine r_if_eq 18 14 hZ dL_place_11 (by decide) rfl (fun c => ?_) (fun c => ?_)
  · rw [if_pos c] at hret
    refine r_lconst (v := 0) 19 hZ dL_place_18 rfl (by decide) ?_
    refine r_last 20 67 hZ (N := 1) (hw_len ad y σ2 ao f) (vp_in_nI (n := 0) (by decide) (by decide)) (hw_set ad y σ2 ao f _) dL_place_19 rfl ?_
    refine r_goto 31 hZ dL_place_20 (by decide) ?_
    refine r_iconst (v := 0) 32 hZ dL_place_31 rfl (by decide) ?_
    exact hret 0 0 _ _ _ _ (by decide) (by decide) dL_place_32 rfl rfl
  · rw [if_neg c] at hret
    refine r_lconst (v := 1) 15 hZ dL_place_14 rfl (by decide) ?_
    refine r_goto 19 hZ dL_place_15 (by decide) ?_
    refine r_last 20 67 hZ (N := 1) (hw_len ad y σ2 ao f) (vp_in_nI (n := 0) (by decide) (by decide)) (hw_set ad y σ2 ao f _) dL_place_19 rfl ?_
    refine r_goto 31 hZ dL_place_20 (by decide) ?_
    refine r_iconst (v := 0) 32 hZ dL_place_31 rfl (by decide) ?_
    exact hret 0 0 _ _ _ _ (by decide) (by decide) dL_place_32 rfl rfl
set_option maxHeartbeats 4000000 in
set_option maxRecDepth 100000 in
theorem h_place_1 (l : Launch) (g : va_G) (y : Nat → ClassId) (ad : Nat → Nat) (p0 : Int32) (P1 : Int64) (P2 : Int64) {σ : stT} {ao : Nat} {f : Nat → Int64} (hC : w_T l g y yX7_place cX7_place 6 (some .boolean) 8 (.ref (ad 0) :: [.int p0, .long P1, .long P2]) (cw ad y σ) xIO) : w_H l g y yL_place cL_place 8 hh_place 9 [.ref (ad 0), .int p0, .long P1, .long P2, .ref ao] (hw ad y σ ao f) 1 (hw ad y σ ao f) := by
  refine w_ofH (lv0 := [(0, .ref (ad 0)), (1, .int p0), (2, .long P1), (4, .long P2), (6, .ref ao)]) (by decide +kernel) (Nat.le_of_ble_eq_true rfl) rfl ?_
  intro Z hH hret
  have hE := hH.e
  have hZ := hE.is
  refine r_aload 2 hZ 4 dL_place_0 rfl rfl ?_
  refine r_iconst (v := 0) 3 hZ dL_place_2 rfl (by decide) ?_
  refine r_aload_n 4 hZ 0 dL_place_3 rfl rfl rfl ?_
  refine r_iload_n 5 hZ 1 dL_place_4 rfl rfl rfl ?_
  refine r_lload_n 6 hZ 2 dL_place_5 rfl rfl rfl ?_
  refine r_lload 8 hZ 3 dL_place_6 rfl rfl ?_
  refine r_callTA hC wM_X7_place wL_L_43 hH rfl ⟨by decide, by decide⟩ ⟨by decide, by decide⟩ 0 7 rfl rfl rfl rfl dL_place_8 [] ⟨0, 20, 23, 19⟩ [⟨0, 20, 27, 21⟩] rfl (fun _ h => absurd h List.not_mem_nil) (by decide +kernel) (by decide) wC_L_19 (fun U h => h.1.1) (fun q => ?_)
  refine r_astN (q := 0) 25 [(0, _), (1, _), (2, _), (4, _), (6, _), (7, _)] hZ dL_place_23 rfl (by decide) rfl rfl ?_
  refine r_iconst (v := 1) 26 hZ dL_place_25 rfl (by decide) ?_
  exact hret 1 6 _ _ _ _ (by decide) (by decide) dL_place_26 rfl rfl
set_option maxHeartbeats 4000000 in
set_option maxRecDepth 100000 in
theorem h_place_2 (l : Launch) (g : va_G) (y : Nat → ClassId) (ad : Nat → Nat) (p0 : Int32) (P1 : Int64) (P2 : Int64) {σ : stT} {ao : Nat} {f : Nat → Int64} (hC : w_T l g y yX7_place cX7_place 6 (some .boolean) 8 (.ref (ad 0) :: [.int p0, .long P1, .long P2]) (cw ad y σ) xIA) : w_H l g y yL_place cL_place 8 hh_place 9 [.ref (ad 0), .int p0, .long P1, .long P2, .ref ao] (hw ad y σ ao f) 2 (hw ad y σ ao f) := by
  refine w_ofH (lv0 := [(0, .ref (ad 0)), (1, .int p0), (2, .long P1), (4, .long P2), (6, .ref ao)]) (by decide +kernel) (Nat.le_of_ble_eq_true rfl) rfl ?_
  intro Z hH hret
  have hE := hH.e
  have hZ := hE.is
  refine r_aload 2 hZ 4 dL_place_0 rfl rfl ?_
  refine r_iconst (v := 0) 3 hZ dL_place_2 rfl (by decide) ?_
  refine r_aload_n 4 hZ 0 dL_place_3 rfl rfl rfl ?_
  refine r_iload_n 5 hZ 1 dL_place_4 rfl rfl rfl ?_
  refine r_lload_n 6 hZ 2 dL_place_5 rfl rfl rfl ?_
  refine r_lload 8 hZ 3 dL_place_6 rfl rfl ?_
  refine r_callTA hC wM_X7_place wL_L_43 hH rfl ⟨by decide, by decide⟩ ⟨by decide, by decide⟩ 0 7 rfl rfl rfl rfl dL_place_8 [⟨0, 20, 23, 19⟩] ⟨0, 20, 27, 21⟩ [] rfl (List.forall_mem_cons.mpr ⟨⟨by decide, xIO, wC_L_19, fun U h => h.2.1.2.1⟩, fun _ h => absurd h List.not_mem_nil⟩) (by decide +kernel) (by decide) wC_L_21 (fun U h => h.1.2.2) (fun q => ?_)
  refine r_astN (q := 0) 29 [(0, _), (1, _), (2, _), (4, _), (6, _), (7, _)] hZ dL_place_27 rfl (by decide) rfl rfl ?_
  refine r_iconst (v := 2) 30 hZ dL_place_29 rfl (by decide) ?_
  exact hret 1 6 _ _ _ _ (by decide) (by decide) dL_place_30 rfl rfl
abbrev hh_spare : List (Nat × Nat × Nat × Nat) := [(0, 11, 14, 13), (0, 11, 18, 21)]
theorem wh_spare : Cond.static yL_spare ∈ UW ∧ Cond.initialized RL ∈ UW ∧ Cond.codeWith yL_spare cL_spare 7 (some .int) hh_spare ∈ UW ∧ (yL_spare.cls ≠ "java/lang/invoke/MethodHandle" ∧ yL_spare.cls ≠ "java/lang/invoke/VarHandle" ∧ (parseMethodDescriptor yL_spare.desc).map (fun d => d.parameters.length) = some 4) := ⟨uw_at 506 (by decide +kernel) rfl, uw_at 0 (by decide +kernel) rfl, uw_at 507 (by decide +kernel) rfl, by decide +kernel, by decide +kernel, by decide +kernel⟩
set_option maxHeartbeats 4000000 in
set_option maxRecDepth 100000 in
theorem h_spare_0 (l : Launch) (g : va_G) (y : Nat → ClassId) (ad : Nat → Nat) (P0 : Int64) (P1 : Int64) {σ σ2 : stT} {ao : Nat} {f : Nat → Int64} (r : Int32) (hC : w_CE l g y yX7_spare cX7_spare 5 (some .int) 8 (.ref (ad 0) :: [.long P0, .long P1]) (cw ad y σ) (some (.int r)) (cw ad y σ2)) : w_H l g y yL_spare cL_spare 7 hh_spare 9 [.ref (ad 0), .long P0, .long P1, .ref ao] (hw ad y σ ao f) 0 (hw ad y σ2 ao (vp_updL f 0 r.toInt64)) := by
  refine w_ofH (lv0 := [(0, .ref (ad 0)), (1, .long P0), (3, .long P1), (5, .ref ao)]) (by decide +kernel) (Nat.le_of_ble_eq_true rfl) rfl ?_
  intro Z hH hret
  have hE := hH.e
  have hZ := hE.is
  refine r_aload 2 hZ 3 dL_spare_0 rfl rfl ?_
  refine r_iconst (v := 0) 3 hZ dL_spare_2 rfl (by decide) ?_
  refine r_aload_n 4 hZ 0 dL_spare_3 rfl rfl rfl ?_
  refine r_lload_n 5 hZ 1 dL_spare_4 rfl rfl rfl ?_
  refine r_lload_n 6 hZ 2 dL_spare_5 rfl rfl rfl ?_
  refine r_callVEA hC wM_X7_spare wL_L_47 hE rfl ⟨by decide, by decide⟩ 0 7 rfl rfl rfl rfl dL_spare_6 ?_
  refine r_i2l 10 hZ dL_spare_9 rfl ?_
  refine r_last 11 67 hZ (N := 1) (hw_len ad y σ2 ao f) (vp_in_nI (n := 0) (by decide) (by decide)) (hw_set ad y σ2 ao f _) dL_spare_10 rfl ?_
  refine r_goto 22 hZ dL_spare_11 (by decide) ?_
  refine r_iconst (v := 0) 23 hZ dL_spare_22 rfl (by decide) ?_
  exact hret 0 0 _ _ _ _ (by decide) (by decide) dL_spare_23 rfl rfl
set_option maxHeartbeats 4000000 in
set_option maxRecDepth 100000 in
theorem h_spare_1 (l : Launch) (g : va_G) (y : Nat → ClassId) (ad : Nat → Nat) (P0 : Int64) (P1 : Int64) {σ : stT} {ao : Nat} {f : Nat → Int64} (hC : w_T l g y yX7_spare cX7_spare 5 (some .int) 8 (.ref (ad 0) :: [.long P0, .long P1]) (cw ad y σ) xIS) : w_H l g y yL_spare cL_spare 7 hh_spare 9 [.ref (ad 0), .long P0, .long P1, .ref ao] (hw ad y σ ao f) 1 (hw ad y σ ao f) := by
  refine w_ofH (lv0 := [(0, .ref (ad 0)), (1, .long P0), (3, .long P1), (5, .ref ao)]) (by decide +kernel) (Nat.le_of_ble_eq_true rfl) rfl ?_
  intro Z hH hret
  have hE := hH.e
  have hZ := hE.is
  refine r_aload 2 hZ 3 dL_spare_0 rfl rfl ?_
  refine r_iconst (v := 0) 3 hZ dL_spare_2 rfl (by decide) ?_
  refine r_aload_n 4 hZ 0 dL_spare_3 rfl rfl rfl ?_
  refine r_lload_n 5 hZ 1 dL_spare_4 rfl rfl rfl ?_
  refine r_lload_n 6 hZ 2 dL_spare_5 rfl rfl rfl ?_
  refine r_callTA hC wM_X7_spare wL_L_47 hH rfl ⟨by decide, by decide⟩ ⟨by decide, by decide⟩ 0 7 rfl rfl rfl rfl dL_spare_6 [] ⟨0, 11, 14, 13⟩ [⟨0, 11, 18, 21⟩] rfl (fun _ h => absurd h List.not_mem_nil) (by decide +kernel) (by decide) wC_L_13 (fun U h => h.1.2.1) (fun q => ?_)
  refine r_astN (q := 0) 16 [(0, _), (1, _), (3, _), (5, _), (6, _)] hZ dL_spare_14 rfl (by decide) rfl rfl ?_
  refine r_iconst (v := 1) 17 hZ dL_spare_16 rfl (by decide) ?_
  exact hret 1 6 _ _ _ _ (by decide) (by decide) dL_spare_17 rfl rfl
set_option maxHeartbeats 4000000 in
set_option maxRecDepth 100000 in
theorem h_spare_2 (l : Launch) (g : va_G) (y : Nat → ClassId) (ad : Nat → Nat) (P0 : Int64) (P1 : Int64) {σ : stT} {ao : Nat} {f : Nat → Int64} (hC : w_T l g y yX7_spare cX7_spare 5 (some .int) 8 (.ref (ad 0) :: [.long P0, .long P1]) (cw ad y σ) xIA) : w_H l g y yL_spare cL_spare 7 hh_spare 9 [.ref (ad 0), .long P0, .long P1, .ref ao] (hw ad y σ ao f) 2 (hw ad y σ ao f) := by
  refine w_ofH (lv0 := [(0, .ref (ad 0)), (1, .long P0), (3, .long P1), (5, .ref ao)]) (by decide +kernel) (Nat.le_of_ble_eq_true rfl) rfl ?_
  intro Z hH hret
  have hE := hH.e
  have hZ := hE.is
  refine r_aload 2 hZ 3 dL_spare_0 rfl rfl ?_
  refine r_iconst (v := 0) 3 hZ dL_spare_2 rfl (by decide) ?_
  refine r_aload_n 4 hZ 0 dL_spare_3 rfl rfl rfl ?_
  refine r_lload_n 5 hZ 1 dL_spare_4 rfl rfl rfl ?_
  refine r_lload_n 6 hZ 2 dL_spare_5 rfl rfl rfl ?_
  refine r_callTA hC wM_X7_spare wL_L_47 hH rfl ⟨by decide, by decide⟩ ⟨by decide, by decide⟩ 0 7 rfl rfl rfl rfl dL_spare_6 [⟨0, 11, 14, 13⟩] ⟨0, 11, 18, 21⟩ [] rfl (List.forall_mem_cons.mpr ⟨⟨by decide, xIS, wC_L_13, fun U h => h.2.1.2.2.1⟩, fun _ h => absurd h List.not_mem_nil⟩) (by decide +kernel) (by decide) wC_L_21 (fun U h => h.1.2.2) (fun q => ?_)
  refine r_astN (q := 0) 20 [(0, _), (1, _), (3, _), (5, _), (6, _)] hZ dL_spare_18 rfl (by decide) rfl rfl ?_
  refine r_iconst (v := 2) 21 hZ dL_spare_20 rfl (by decide) ?_
  exact hret 1 6 _ _ _ _ (by decide) (by decide) dL_spare_21 rfl rfl
abbrev hh_run : List (Nat × Nat × Nat × Nat) := [(0, 9, 12, 21)]
theorem wh_run : Cond.static yL_run ∈ UW ∧ Cond.initialized RL ∈ UW ∧ Cond.codeWith yL_run cL_run 4 (some .int) hh_run ∈ UW ∧ (yL_run.cls ≠ "java/lang/invoke/MethodHandle" ∧ yL_run.cls ≠ "java/lang/invoke/VarHandle" ∧ (parseMethodDescriptor yL_run.desc).map (fun d => d.parameters.length) = some 3) := ⟨uw_at 518 (by decide +kernel) rfl, uw_at 0 (by decide +kernel) rfl, uw_at 519 (by decide +kernel) rfl, by decide +kernel, by decide +kernel, by decide +kernel⟩
set_option maxHeartbeats 4000000 in
set_option maxRecDepth 100000 in
theorem h_run_0 (l : Launch) (g : va_G) (y : Nat → ClassId) (ad : Nat → Nat) (p0 : Int32) {σ σ2 : stT} {ao : Nat} {f : Nat → Int64} (r : Int32) (hC : w_CE l g y yX7_run cX7_run 2 (some .int) 8 (.ref (ad 0) :: [.int p0]) (cw ad y σ) (some (.int r)) (cw ad y σ2)) : w_H l g y yL_run cL_run 4 hh_run 9 [.ref (ad 0), .int p0, .ref ao] (hw ad y σ ao f) 0 (hw ad y σ2 ao (vp_updL f 0 r.toInt64)) := by
  refine w_ofH (lv0 := [(0, .ref (ad 0)), (1, .int p0), (2, .ref ao)]) (by decide +kernel) (Nat.le_of_ble_eq_true rfl) rfl ?_
  intro Z hH hret
  have hE := hH.e
  have hZ := hE.is
  refine r_aload_n 1 hZ 2 dL_run_0 rfl rfl rfl ?_
  refine r_iconst (v := 0) 2 hZ dL_run_1 rfl (by decide) ?_
  refine r_aload_n 3 hZ 0 dL_run_2 rfl rfl rfl ?_
  refine r_iload_n 4 hZ 1 dL_run_3 rfl rfl rfl ?_
  refine r_callVEA hC wM_X7_run wL_L_51 hE rfl ⟨by decide, by decide⟩ 0 7 rfl rfl rfl rfl dL_run_4 ?_
  refine r_i2l 8 hZ dL_run_7 rfl ?_
  refine r_last 9 67 hZ (N := 1) (hw_len ad y σ2 ao f) (vp_in_nI (n := 0) (by decide) (by decide)) (hw_set ad y σ2 ao f _) dL_run_8 rfl ?_
  refine r_goto 15 hZ dL_run_9 (by decide) ?_
  refine r_iconst (v := 0) 16 hZ dL_run_15 rfl (by decide) ?_
  exact hret 0 0 _ _ _ _ (by decide) (by decide) dL_run_16 rfl rfl
set_option maxHeartbeats 4000000 in
set_option maxRecDepth 100000 in
theorem h_run_1 (l : Launch) (g : va_G) (y : Nat → ClassId) (ad : Nat → Nat) (p0 : Int32) {σ : stT} {ao : Nat} {f : Nat → Int64} (hC : w_T l g y yX7_run cX7_run 2 (some .int) 8 (.ref (ad 0) :: [.int p0]) (cw ad y σ) xIA) : w_H l g y yL_run cL_run 4 hh_run 9 [.ref (ad 0), .int p0, .ref ao] (hw ad y σ ao f) 1 (hw ad y σ ao f) := by
  refine w_ofH (lv0 := [(0, .ref (ad 0)), (1, .int p0), (2, .ref ao)]) (by decide +kernel) (Nat.le_of_ble_eq_true rfl) rfl ?_
  intro Z hH hret
  have hE := hH.e
  have hZ := hE.is
  refine r_aload_n 1 hZ 2 dL_run_0 rfl rfl rfl ?_
  refine r_iconst (v := 0) 2 hZ dL_run_1 rfl (by decide) ?_
  refine r_aload_n 3 hZ 0 dL_run_2 rfl rfl rfl ?_
  refine r_iload_n 4 hZ 1 dL_run_3 rfl rfl rfl ?_
  refine r_callTA hC wM_X7_run wL_L_51 hH rfl ⟨by decide, by decide⟩ ⟨by decide, by decide⟩ 0 7 rfl rfl rfl rfl dL_run_4 [] ⟨0, 9, 12, 21⟩ [] rfl (fun _ h => absurd h List.not_mem_nil) (by decide +kernel) (by decide) wC_L_21 (fun U h => h.1.2.2) (fun q => ?_)
  refine r_astnN 13 [(0, _), (1, _), (2, _), (3, _)] hZ dL_run_12 rfl rfl (by decide) rfl rfl ?_
  refine r_iconst (v := 1) 14 hZ dL_run_13 rfl (by decide) ?_
  exact hret 1 6 _ _ _ _ (by decide) (by decide) dL_run_14 rfl rfl
abbrev hh_edit : List (Nat × Nat × Nat × Nat) := [(0, 10, 13, 19), (0, 10, 17, 13)]
theorem wh_edit : Cond.static yL_edit ∈ UW ∧ Cond.initialized RL ∈ UW ∧ Cond.codeWith yL_edit cL_edit 5 (some .int) hh_edit ∈ UW ∧ (yL_edit.cls ≠ "java/lang/invoke/MethodHandle" ∧ yL_edit.cls ≠ "java/lang/invoke/VarHandle" ∧ (parseMethodDescriptor yL_edit.desc).map (fun d => d.parameters.length) = some 4) := ⟨uw_at 605 (by decide +kernel) rfl, uw_at 0 (by decide +kernel) rfl, uw_at 606 (by decide +kernel) rfl, by decide +kernel, by decide +kernel, by decide +kernel⟩
set_option maxHeartbeats 4000000 in
set_option maxRecDepth 100000 in
theorem h_edit_0 (l : Launch) (g : va_G) (y : Nat → ClassId) (ad : Nat → Nat) (p0 : Int32) (p1 : Int32) {σ σ2 : stT} {ao : Nat} {f : Nat → Int64} (r : Int32) (hC : w_CE l g y yX7_edit cX7_edit 4 (some .int) 8 (.ref (ad 0) :: [.int p0, .int p1]) (cw ad y σ) (some (.int r)) (cw ad y σ2)) : w_H l g y yL_edit cL_edit 5 hh_edit 9 [.ref (ad 0), .int p0, .int p1, .ref ao] (hw ad y σ ao f) 0 (hw ad y σ2 ao (vp_updL f 0 r.toInt64)) := by
  refine w_ofH (lv0 := [(0, .ref (ad 0)), (1, .int p0), (2, .int p1), (3, .ref ao)]) (by decide +kernel) (Nat.le_of_ble_eq_true rfl) rfl ?_
  intro Z hH hret
  have hE := hH.e
  have hZ := hE.is
  refine r_aload_n 1 hZ 3 dL_edit_0 rfl rfl rfl ?_
  refine r_iconst (v := 0) 2 hZ dL_edit_1 rfl (by decide) ?_
  refine r_aload_n 3 hZ 0 dL_edit_2 rfl rfl rfl ?_
  refine r_iload_n 4 hZ 1 dL_edit_3 rfl rfl rfl ?_
  refine r_iload_n 5 hZ 2 dL_edit_4 rfl rfl rfl ?_
  refine r_callVEA hC wM_X7_edit wL_L_54 hE rfl ⟨by decide, by decide⟩ 0 7 rfl rfl rfl rfl dL_edit_5 ?_
  refine r_i2l 9 hZ dL_edit_8 rfl ?_
  refine r_last 10 67 hZ (N := 1) (hw_len ad y σ2 ao f) (vp_in_nI (n := 0) (by decide) (by decide)) (hw_set ad y σ2 ao f _) dL_edit_9 rfl ?_
  refine r_goto 21 hZ dL_edit_10 (by decide) ?_
  refine r_iconst (v := 0) 22 hZ dL_edit_21 rfl (by decide) ?_
  exact hret 0 0 _ _ _ _ (by decide) (by decide) dL_edit_22 rfl rfl
set_option maxHeartbeats 4000000 in
set_option maxRecDepth 100000 in
theorem h_edit_1 (l : Launch) (g : va_G) (y : Nat → ClassId) (ad : Nat → Nat) (p0 : Int32) (p1 : Int32) {σ : stT} {ao : Nat} {f : Nat → Int64} (hC : w_T l g y yX7_edit cX7_edit 4 (some .int) 8 (.ref (ad 0) :: [.int p0, .int p1]) (cw ad y σ) xIO) : w_H l g y yL_edit cL_edit 5 hh_edit 9 [.ref (ad 0), .int p0, .int p1, .ref ao] (hw ad y σ ao f) 1 (hw ad y σ ao f) := by
  refine w_ofH (lv0 := [(0, .ref (ad 0)), (1, .int p0), (2, .int p1), (3, .ref ao)]) (by decide +kernel) (Nat.le_of_ble_eq_true rfl) rfl ?_
  intro Z hH hret
  have hE := hH.e
  have hZ := hE.is
  refine r_aload_n 1 hZ 3 dL_edit_0 rfl rfl rfl ?_
  refine r_iconst (v := 0) 2 hZ dL_edit_1 rfl (by decide) ?_
  refine r_aload_n 3 hZ 0 dL_edit_2 rfl rfl rfl ?_
  refine r_iload_n 4 hZ 1 dL_edit_3 rfl rfl rfl ?_
  refine r_iload_n 5 hZ 2 dL_edit_4 rfl rfl rfl ?_
  refine r_callTA hC wM_X7_edit wL_L_54 hH rfl ⟨by decide, by decide⟩ ⟨by decide, by decide⟩ 0 7 rfl rfl rfl rfl dL_edit_5 [] ⟨0, 10, 13, 19⟩ [⟨0, 10, 17, 13⟩] rfl (fun _ h => absurd h List.not_mem_nil) (by decide +kernel) (by decide) wC_L_19 (fun U h => h.1.1) (fun q => ?_)
  refine r_astN (q := 0) 15 [(0, _), (1, _), (2, _), (3, _), (4, _)] hZ dL_edit_13 rfl (by decide) rfl rfl ?_
  refine r_iconst (v := 1) 16 hZ dL_edit_15 rfl (by decide) ?_
  exact hret 1 6 _ _ _ _ (by decide) (by decide) dL_edit_16 rfl rfl
set_option maxHeartbeats 4000000 in
set_option maxRecDepth 100000 in
theorem h_edit_2 (l : Launch) (g : va_G) (y : Nat → ClassId) (ad : Nat → Nat) (p0 : Int32) (p1 : Int32) {σ : stT} {ao : Nat} {f : Nat → Int64} (hC : w_T l g y yX7_edit cX7_edit 4 (some .int) 8 (.ref (ad 0) :: [.int p0, .int p1]) (cw ad y σ) xIS) : w_H l g y yL_edit cL_edit 5 hh_edit 9 [.ref (ad 0), .int p0, .int p1, .ref ao] (hw ad y σ ao f) 2 (hw ad y σ ao f) := by
  refine w_ofH (lv0 := [(0, .ref (ad 0)), (1, .int p0), (2, .int p1), (3, .ref ao)]) (by decide +kernel) (Nat.le_of_ble_eq_true rfl) rfl ?_
  intro Z hH hret
  have hE := hH.e
  have hZ := hE.is
  refine r_aload_n 1 hZ 3 dL_edit_0 rfl rfl rfl ?_
  refine r_iconst (v := 0) 2 hZ dL_edit_1 rfl (by decide) ?_
  refine r_aload_n 3 hZ 0 dL_edit_2 rfl rfl rfl ?_
  refine r_iload_n 4 hZ 1 dL_edit_3 rfl rfl rfl ?_
  refine r_iload_n 5 hZ 2 dL_edit_4 rfl rfl rfl ?_
  refine r_callTA hC wM_X7_edit wL_L_54 hH rfl ⟨by decide, by decide⟩ ⟨by decide, by decide⟩ 0 7 rfl rfl rfl rfl dL_edit_5 [⟨0, 10, 13, 19⟩] ⟨0, 10, 17, 13⟩ [] rfl (List.forall_mem_cons.mpr ⟨⟨by decide, xIO, wC_L_19, fun U h => h.2.1.1⟩, fun _ h => absurd h List.not_mem_nil⟩) (by decide +kernel) (by decide) wC_L_13 (fun U h => h.1.2.1) (fun q => ?_)
  refine r_astN (q := 0) 19 [(0, _), (1, _), (2, _), (3, _), (4, _)] hZ dL_edit_17 rfl (by decide) rfl rfl ?_
  refine r_iconst (v := 2) 20 hZ dL_edit_19 rfl (by decide) ?_
  exact hret 1 6 _ _ _ _ (by decide) (by decide) dL_edit_20 rfl rfl
abbrev hh_used : List (Nat × Nat × Nat × Nat) := [(0, 9, 12, 13), (0, 9, 15, 19)]
theorem wh_used : Cond.static yL_used ∈ UW ∧ Cond.initialized RL ∈ UW ∧ Cond.codeWith yL_used cL_used 4 (some .int) hh_used ∈ UW ∧ (yL_used.cls ≠ "java/lang/invoke/MethodHandle" ∧ yL_used.cls ≠ "java/lang/invoke/VarHandle" ∧ (parseMethodDescriptor yL_used.desc).map (fun d => d.parameters.length) = some 3) := ⟨uw_at 615 (by decide +kernel) rfl, uw_at 0 (by decide +kernel) rfl, uw_at 616 (by decide +kernel) rfl, by decide +kernel, by decide +kernel, by decide +kernel⟩
set_option maxHeartbeats 4000000 in
set_option maxRecDepth 100000 in
theorem h_used_0 (l : Launch) (g : va_G) (y : Nat → ClassId) (ad : Nat → Nat) (p0 : Int32) {σ σ2 : stT} {ao : Nat} {f : Nat → Int64} (r : Int32) (hC : w_CE l g y yX7_used cX7_used 2 (some .int) 8 (.ref (ad 0) :: [.int p0]) (cw ad y σ) (some (.int r)) (cw ad y σ2)) : w_H l g y yL_used cL_used 4 hh_used 9 [.ref (ad 0), .int p0, .ref ao] (hw ad y σ ao f) 0 (hw ad y σ2 ao (vp_updL f 0 r.toInt64)) := by
  refine w_ofH (lv0 := [(0, .ref (ad 0)), (1, .int p0), (2, .ref ao)]) (by decide +kernel) (Nat.le_of_ble_eq_true rfl) rfl ?_
  intro Z hH hret
  have hE := hH.e
  have hZ := hE.is
  refine r_aload_n 1 hZ 2 dL_used_0 rfl rfl rfl ?_
  refine r_iconst (v := 0) 2 hZ dL_used_1 rfl (by decide) ?_
  refine r_aload_n 3 hZ 0 dL_used_2 rfl rfl rfl ?_
  refine r_iload_n 4 hZ 1 dL_used_3 rfl rfl rfl ?_
  refine r_callVEA hC wM_X7_used wL_L_57 hE rfl ⟨by decide, by decide⟩ 0 7 rfl rfl rfl rfl dL_used_4 ?_
  refine r_i2l 8 hZ dL_used_7 rfl ?_
  refine r_last 9 67 hZ (N := 1) (hw_len ad y σ2 ao f) (vp_in_nI (n := 0) (by decide) (by decide)) (hw_set ad y σ2 ao f _) dL_used_8 rfl ?_
  refine r_goto 18 hZ dL_used_9 (by decide) ?_
  refine r_iconst (v := 0) 19 hZ dL_used_18 rfl (by decide) ?_
  exact hret 0 0 _ _ _ _ (by decide) (by decide) dL_used_19 rfl rfl
set_option maxHeartbeats 4000000 in
set_option maxRecDepth 100000 in
theorem h_used_1 (l : Launch) (g : va_G) (y : Nat → ClassId) (ad : Nat → Nat) (p0 : Int32) {σ : stT} {ao : Nat} {f : Nat → Int64} (hC : w_T l g y yX7_used cX7_used 2 (some .int) 8 (.ref (ad 0) :: [.int p0]) (cw ad y σ) xIS) : w_H l g y yL_used cL_used 4 hh_used 9 [.ref (ad 0), .int p0, .ref ao] (hw ad y σ ao f) 1 (hw ad y σ ao f) := by
  refine w_ofH (lv0 := [(0, .ref (ad 0)), (1, .int p0), (2, .ref ao)]) (by decide +kernel) (Nat.le_of_ble_eq_true rfl) rfl ?_
  intro Z hH hret
  have hE := hH.e
  have hZ := hE.is
  refine r_aload_n 1 hZ 2 dL_used_0 rfl rfl rfl ?_
  refine r_iconst (v := 0) 2 hZ dL_used_1 rfl (by decide) ?_
  refine r_aload_n 3 hZ 0 dL_used_2 rfl rfl rfl ?_
  refine r_iload_n 4 hZ 1 dL_used_3 rfl rfl rfl ?_
  refine r_callTA hC wM_X7_used wL_L_57 hH rfl ⟨by decide, by decide⟩ ⟨by decide, by decide⟩ 0 7 rfl rfl rfl rfl dL_used_4 [] ⟨0, 9, 12, 13⟩ [⟨0, 9, 15, 19⟩] rfl (fun _ h => absurd h List.not_mem_nil) (by decide +kernel) (by decide) wC_L_13 (fun U h => h.1.2.1) (fun q => ?_)
  refine r_astnN 13 [(0, _), (1, _), (2, _), (3, _)] hZ dL_used_12 rfl rfl (by decide) rfl rfl ?_
  refine r_iconst (v := 1) 14 hZ dL_used_13 rfl (by decide) ?_
  exact hret 1 6 _ _ _ _ (by decide) (by decide) dL_used_14 rfl rfl
set_option maxHeartbeats 4000000 in
set_option maxRecDepth 100000 in
theorem h_used_2 (l : Launch) (g : va_G) (y : Nat → ClassId) (ad : Nat → Nat) (p0 : Int32) {σ : stT} {ao : Nat} {f : Nat → Int64} (hC : w_T l g y yX7_used cX7_used 2 (some .int) 8 (.ref (ad 0) :: [.int p0]) (cw ad y σ) xIO) : w_H l g y yL_used cL_used 4 hh_used 9 [.ref (ad 0), .int p0, .ref ao] (hw ad y σ ao f) 2 (hw ad y σ ao f) := by
  refine w_ofH (lv0 := [(0, .ref (ad 0)), (1, .int p0), (2, .ref ao)]) (by decide +kernel) (Nat.le_of_ble_eq_true rfl) rfl ?_
  intro Z hH hret
  have hE := hH.e
  have hZ := hE.is
  refine r_aload_n 1 hZ 2 dL_used_0 rfl rfl rfl ?_
  refine r_iconst (v := 0) 2 hZ dL_used_1 rfl (by decide) ?_
  refine r_aload_n 3 hZ 0 dL_used_2 rfl rfl rfl ?_
  refine r_iload_n 4 hZ 1 dL_used_3 rfl rfl rfl ?_
  refine r_callTA hC wM_X7_used wL_L_57 hH rfl ⟨by decide, by decide⟩ ⟨by decide, by decide⟩ 0 7 rfl rfl rfl rfl dL_used_4 [⟨0, 9, 12, 13⟩] ⟨0, 9, 15, 19⟩ [] rfl (List.forall_mem_cons.mpr ⟨⟨by decide, xIS, wC_L_13, fun U h => h.2.1.2.2.2⟩, fun _ h => absurd h List.not_mem_nil⟩) (by decide +kernel) (by decide) wC_L_19 (fun U h => h.1.1) (fun q => ?_)
  refine r_astnN 16 [(0, _), (1, _), (2, _), (3, _)] hZ dL_used_15 rfl rfl (by decide) rfl rfl ?_
  refine r_iconst (v := 2) 17 hZ dL_used_16 rfl (by decide) ?_
  exact hret 1 6 _ _ _ _ (by decide) (by decide) dL_used_17 rfl rfl
abbrev hh_length : List (Nat × Nat × Nat × Nat) := [(0, 8, 11, 13)]
theorem wh_length : Cond.static yL_length ∈ UW ∧ Cond.initialized RL ∈ UW ∧ Cond.codeWith yL_length cL_length 3 (some .int) hh_length ∈ UW ∧ (yL_length.cls ≠ "java/lang/invoke/MethodHandle" ∧ yL_length.cls ≠ "java/lang/invoke/VarHandle" ∧ (parseMethodDescriptor yL_length.desc).map (fun d => d.parameters.length) = some 2) := ⟨uw_at 622 (by decide +kernel) rfl, uw_at 0 (by decide +kernel) rfl, uw_at 623 (by decide +kernel) rfl, by decide +kernel, by decide +kernel, by decide +kernel⟩
set_option maxHeartbeats 4000000 in
set_option maxRecDepth 100000 in
theorem h_length_0 (l : Launch) (g : va_G) (y : Nat → ClassId) (ad : Nat → Nat)  {σ σ2 : stT} {ao : Nat} {f : Nat → Int64} (r : Int32) (hC : w_CE l g y yX7_length cX7_length 1 (some .int) 8 (.ref (ad 0) :: []) (cw ad y σ) (some (.int r)) (cw ad y σ2)) : w_H l g y yL_length cL_length 3 hh_length 9 [.ref (ad 0), .ref ao] (hw ad y σ ao f) 0 (hw ad y σ2 ao (vp_updL f 0 r.toInt64)) := by
  refine w_ofH (lv0 := [(0, .ref (ad 0)), (1, .ref ao)]) (by decide +kernel) (Nat.le_of_ble_eq_true rfl) rfl ?_
  intro Z hH hret
  have hE := hH.e
  have hZ := hE.is
  refine r_aload_n 1 hZ 1 dL_length_0 rfl rfl rfl ?_
  refine r_iconst (v := 0) 2 hZ dL_length_1 rfl (by decide) ?_
  refine r_aload_n 3 hZ 0 dL_length_2 rfl rfl rfl ?_
  refine r_callVEA hC wM_X7_length wL_L_60 hE rfl ⟨by decide, by decide⟩ 0 7 rfl rfl rfl rfl dL_length_3 ?_
  refine r_i2l 7 hZ dL_length_6 rfl ?_
  refine r_last 8 67 hZ (N := 1) (hw_len ad y σ2 ao f) (vp_in_nI (n := 0) (by decide) (by decide)) (hw_set ad y σ2 ao f _) dL_length_7 rfl ?_
  refine r_goto 14 hZ dL_length_8 (by decide) ?_
  refine r_iconst (v := 0) 15 hZ dL_length_14 rfl (by decide) ?_
  exact hret 0 0 _ _ _ _ (by decide) (by decide) dL_length_15 rfl rfl
set_option maxHeartbeats 4000000 in
set_option maxRecDepth 100000 in
theorem h_length_1 (l : Launch) (g : va_G) (y : Nat → ClassId) (ad : Nat → Nat)  {σ : stT} {ao : Nat} {f : Nat → Int64} (hC : w_T l g y yX7_length cX7_length 1 (some .int) 8 (.ref (ad 0) :: []) (cw ad y σ) xIS) : w_H l g y yL_length cL_length 3 hh_length 9 [.ref (ad 0), .ref ao] (hw ad y σ ao f) 1 (hw ad y σ ao f) := by
  refine w_ofH (lv0 := [(0, .ref (ad 0)), (1, .ref ao)]) (by decide +kernel) (Nat.le_of_ble_eq_true rfl) rfl ?_
  intro Z hH hret
  have hE := hH.e
  have hZ := hE.is
  refine r_aload_n 1 hZ 1 dL_length_0 rfl rfl rfl ?_
  refine r_iconst (v := 0) 2 hZ dL_length_1 rfl (by decide) ?_
  refine r_aload_n 3 hZ 0 dL_length_2 rfl rfl rfl ?_
  refine r_callTA hC wM_X7_length wL_L_60 hH rfl ⟨by decide, by decide⟩ ⟨by decide, by decide⟩ 0 7 rfl rfl rfl rfl dL_length_3 [] ⟨0, 8, 11, 13⟩ [] rfl (fun _ h => absurd h List.not_mem_nil) (by decide +kernel) (by decide) wC_L_13 (fun U h => h.1.2.1) (fun q => ?_)
  refine r_astnN 12 [(0, _), (1, _), (2, _)] hZ dL_length_11 rfl rfl (by decide) rfl rfl ?_
  refine r_iconst (v := 1) 13 hZ dL_length_12 rfl (by decide) ?_
  exact hret 1 6 _ _ _ _ (by decide) (by decide) dL_length_13 rfl rfl
abbrev hh_make : List (Nat × Nat × Nat × Nat) := [(0, 8, 11, 13)]
theorem wh_make : Cond.static yL_make ∈ UW ∧ Cond.initialized RL ∈ UW ∧ Cond.codeWith yL_make cL_make 3 (some .int) hh_make ∈ UW ∧ (yL_make.cls ≠ "java/lang/invoke/MethodHandle" ∧ yL_make.cls ≠ "java/lang/invoke/VarHandle" ∧ (parseMethodDescriptor yL_make.desc).map (fun d => d.parameters.length) = some 2) := ⟨uw_at 629 (by decide +kernel) rfl, uw_at 0 (by decide +kernel) rfl, uw_at 630 (by decide +kernel) rfl, by decide +kernel, by decide +kernel, by decide +kernel⟩
set_option maxHeartbeats 4000000 in
set_option maxRecDepth 100000 in
theorem h_make_0 (l : Launch) (g : va_G) (y : Nat → ClassId) (ad : Nat → Nat)  {σ σ2 : stT} {ao : Nat} {f : Nat → Int64} (r : Int32) (hC : w_CE l g y yX7_make cX7_make 3 (some .int) 8 (.ref (ad 0) :: []) (cw ad y σ) (some (.int r)) (cw ad y σ2)) : w_H l g y yL_make cL_make 3 hh_make 9 [.ref (ad 0), .ref ao] (hw ad y σ ao f) 0 (hw ad y σ2 ao (vp_updL f 0 r.toInt64)) := by
  refine w_ofH (lv0 := [(0, .ref (ad 0)), (1, .ref ao)]) (by decide +kernel) (Nat.le_of_ble_eq_true rfl) rfl ?_
  intro Z hH hret
  have hE := hH.e
  have hZ := hE.is
  refine r_aload_n 1 hZ 1 dL_make_0 rfl rfl rfl ?_
  refine r_iconst (v := 0) 2 hZ dL_make_1 rfl (by decide) ?_
  refine r_aload_n 3 hZ 0 dL_make_2 rfl rfl rfl ?_
  refine r_callVEA hC wM_X7_make wL_L_63 hE rfl ⟨by decide, by decide⟩ 0 7 rfl rfl rfl rfl dL_make_3 ?_
  refine r_i2l 7 hZ dL_make_6 rfl ?_
  refine r_last 8 67 hZ (N := 1) (hw_len ad y σ2 ao f) (vp_in_nI (n := 0) (by decide) (by decide)) (hw_set ad y σ2 ao f _) dL_make_7 rfl ?_
  refine r_goto 14 hZ dL_make_8 (by decide) ?_
  refine r_iconst (v := 0) 15 hZ dL_make_14 rfl (by decide) ?_
  exact hret 0 0 _ _ _ _ (by decide) (by decide) dL_make_15 rfl rfl
set_option maxHeartbeats 4000000 in
set_option maxRecDepth 100000 in
theorem h_make_1 (l : Launch) (g : va_G) (y : Nat → ClassId) (ad : Nat → Nat)  {σ : stT} {ao : Nat} {f : Nat → Int64} (hC : w_T l g y yX7_make cX7_make 3 (some .int) 8 (.ref (ad 0) :: []) (cw ad y σ) xIS) : w_H l g y yL_make cL_make 3 hh_make 9 [.ref (ad 0), .ref ao] (hw ad y σ ao f) 1 (hw ad y σ ao f) := by
  refine w_ofH (lv0 := [(0, .ref (ad 0)), (1, .ref ao)]) (by decide +kernel) (Nat.le_of_ble_eq_true rfl) rfl ?_
  intro Z hH hret
  have hE := hH.e
  have hZ := hE.is
  refine r_aload_n 1 hZ 1 dL_make_0 rfl rfl rfl ?_
  refine r_iconst (v := 0) 2 hZ dL_make_1 rfl (by decide) ?_
  refine r_aload_n 3 hZ 0 dL_make_2 rfl rfl rfl ?_
  refine r_callTA hC wM_X7_make wL_L_63 hH rfl ⟨by decide, by decide⟩ ⟨by decide, by decide⟩ 0 7 rfl rfl rfl rfl dL_make_3 [] ⟨0, 8, 11, 13⟩ [] rfl (fun _ h => absurd h List.not_mem_nil) (by decide +kernel) (by decide) wC_L_13 (fun U h => h.1.2.1) (fun q => ?_)
  refine r_astnN 12 [(0, _), (1, _), (2, _)] hZ dL_make_11 rfl rfl (by decide) rfl rfl ?_
  refine r_iconst (v := 1) 13 hZ dL_make_12 rfl (by decide) ?_
  exact hret 1 6 _ _ _ _ (by decide) (by decide) dL_make_13 rfl rfl
abbrev hh_literal : List (Nat × Nat × Nat × Nat) := [(0, 10, 13, 19)]
theorem wh_literal : Cond.static yL_literal ∈ UW ∧ Cond.initialized RL ∈ UW ∧ Cond.codeWith yL_literal cL_literal 5 (some .int) hh_literal ∈ UW ∧ (yL_literal.cls ≠ "java/lang/invoke/MethodHandle" ∧ yL_literal.cls ≠ "java/lang/invoke/VarHandle" ∧ (parseMethodDescriptor yL_literal.desc).map (fun d => d.parameters.length) = some 4) := ⟨uw_at 643 (by decide +kernel) rfl, uw_at 0 (by decide +kernel) rfl, uw_at 644 (by decide +kernel) rfl, by decide +kernel, by decide +kernel, by decide +kernel⟩
set_option maxHeartbeats 4000000 in
set_option maxRecDepth 100000 in
theorem h_literal_0 (l : Launch) (g : va_G) (y : Nat → ClassId) (ad : Nat → Nat) (p0 : Int32) (p1 : Int32) {σ σ2 : stT} {ao : Nat} {f : Nat → Int64} (r : Int32) (hC : w_CE l g y yX7_literal cX7_literal 3 (some .int) 8 (.ref (ad 0) :: [.int p0, .int p1]) (cw ad y σ) (some (.int r)) (cw ad y σ2)) : w_H l g y yL_literal cL_literal 5 hh_literal 9 [.ref (ad 0), .int p0, .int p1, .ref ao] (hw ad y σ ao f) 0 (hw ad y σ2 ao (vp_updL f 0 r.toInt64)) := by
  refine w_ofH (lv0 := [(0, .ref (ad 0)), (1, .int p0), (2, .int p1), (3, .ref ao)]) (by decide +kernel) (Nat.le_of_ble_eq_true rfl) rfl ?_
  intro Z hH hret
  have hE := hH.e
  have hZ := hE.is
  refine r_aload_n 1 hZ 3 dL_literal_0 rfl rfl rfl ?_
  refine r_iconst (v := 0) 2 hZ dL_literal_1 rfl (by decide) ?_
  refine r_aload_n 3 hZ 0 dL_literal_2 rfl rfl rfl ?_
  refine r_iload_n 4 hZ 1 dL_literal_3 rfl rfl rfl ?_
  refine r_iload_n 5 hZ 2 dL_literal_4 rfl rfl rfl ?_
  refine r_callVEA hC wM_X7_literal wL_L_66 hE rfl ⟨by decide, by decide⟩ 0 7 rfl rfl rfl rfl dL_literal_5 ?_
  refine r_i2l 9 hZ dL_literal_8 rfl ?_
  refine r_last 10 67 hZ (N := 1) (hw_len ad y σ2 ao f) (vp_in_nI (n := 0) (by decide) (by decide)) (hw_set ad y σ2 ao f _) dL_literal_9 rfl ?_
  refine r_goto 17 hZ dL_literal_10 (by decide) ?_
  refine r_iconst (v := 0) 18 hZ dL_literal_17 rfl (by decide) ?_
  exact hret 0 0 _ _ _ _ (by decide) (by decide) dL_literal_18 rfl rfl
set_option maxHeartbeats 4000000 in
set_option maxRecDepth 100000 in
theorem h_literal_1 (l : Launch) (g : va_G) (y : Nat → ClassId) (ad : Nat → Nat) (p0 : Int32) (p1 : Int32) {σ : stT} {ao : Nat} {f : Nat → Int64} (hC : w_T l g y yX7_literal cX7_literal 3 (some .int) 8 (.ref (ad 0) :: [.int p0, .int p1]) (cw ad y σ) xIO) : w_H l g y yL_literal cL_literal 5 hh_literal 9 [.ref (ad 0), .int p0, .int p1, .ref ao] (hw ad y σ ao f) 1 (hw ad y σ ao f) := by
  refine w_ofH (lv0 := [(0, .ref (ad 0)), (1, .int p0), (2, .int p1), (3, .ref ao)]) (by decide +kernel) (Nat.le_of_ble_eq_true rfl) rfl ?_
  intro Z hH hret
  have hE := hH.e
  have hZ := hE.is
  refine r_aload_n 1 hZ 3 dL_literal_0 rfl rfl rfl ?_
  refine r_iconst (v := 0) 2 hZ dL_literal_1 rfl (by decide) ?_
  refine r_aload_n 3 hZ 0 dL_literal_2 rfl rfl rfl ?_
  refine r_iload_n 4 hZ 1 dL_literal_3 rfl rfl rfl ?_
  refine r_iload_n 5 hZ 2 dL_literal_4 rfl rfl rfl ?_
  refine r_callTA hC wM_X7_literal wL_L_66 hH rfl ⟨by decide, by decide⟩ ⟨by decide, by decide⟩ 0 7 rfl rfl rfl rfl dL_literal_5 [] ⟨0, 10, 13, 19⟩ [] rfl (fun _ h => absurd h List.not_mem_nil) (by decide +kernel) (by decide) wC_L_19 (fun U h => h.1.1) (fun q => ?_)
  refine r_astN (q := 0) 15 [(0, _), (1, _), (2, _), (3, _), (4, _)] hZ dL_literal_13 rfl (by decide) rfl rfl ?_
  refine r_iconst (v := 1) 16 hZ dL_literal_15 rfl (by decide) ?_
  exact hret 1 6 _ _ _ _ (by decide) (by decide) dL_literal_16 rfl rfl
abbrev hh_count : List (Nat × Nat × Nat × Nat) := [(0, 9, 12, 19)]
theorem wh_count : Cond.static yL_count ∈ UW ∧ Cond.initialized RL ∈ UW ∧ Cond.codeWith yL_count cL_count 4 (some .int) hh_count ∈ UW ∧ (yL_count.cls ≠ "java/lang/invoke/MethodHandle" ∧ yL_count.cls ≠ "java/lang/invoke/VarHandle" ∧ (parseMethodDescriptor yL_count.desc).map (fun d => d.parameters.length) = some 3) := ⟨uw_at 651 (by decide +kernel) rfl, uw_at 0 (by decide +kernel) rfl, uw_at 652 (by decide +kernel) rfl, by decide +kernel, by decide +kernel, by decide +kernel⟩
set_option maxHeartbeats 4000000 in
set_option maxRecDepth 100000 in
theorem h_count_0 (l : Launch) (g : va_G) (y : Nat → ClassId) (ad : Nat → Nat) (p0 : Int32) {σ σ2 : stT} {ao : Nat} {f : Nat → Int64} (r : Int32) (hC : w_CE l g y yX7_count cX7_count 2 (some .int) 8 (.ref (ad 0) :: [.int p0]) (cw ad y σ) (some (.int r)) (cw ad y σ2)) : w_H l g y yL_count cL_count 4 hh_count 9 [.ref (ad 0), .int p0, .ref ao] (hw ad y σ ao f) 0 (hw ad y σ2 ao (vp_updL f 0 r.toInt64)) := by
  refine w_ofH (lv0 := [(0, .ref (ad 0)), (1, .int p0), (2, .ref ao)]) (by decide +kernel) (Nat.le_of_ble_eq_true rfl) rfl ?_
  intro Z hH hret
  have hE := hH.e
  have hZ := hE.is
  refine r_aload_n 1 hZ 2 dL_count_0 rfl rfl rfl ?_
  refine r_iconst (v := 0) 2 hZ dL_count_1 rfl (by decide) ?_
  refine r_aload_n 3 hZ 0 dL_count_2 rfl rfl rfl ?_
  refine r_iload_n 4 hZ 1 dL_count_3 rfl rfl rfl ?_
  refine r_callVEA hC wM_X7_count wL_L_69 hE rfl ⟨by decide, by decide⟩ 0 7 rfl rfl rfl rfl dL_count_4 ?_
  refine r_i2l 8 hZ dL_count_7 rfl ?_
  refine r_last 9 67 hZ (N := 1) (hw_len ad y σ2 ao f) (vp_in_nI (n := 0) (by decide) (by decide)) (hw_set ad y σ2 ao f _) dL_count_8 rfl ?_
  refine r_goto 15 hZ dL_count_9 (by decide) ?_
  refine r_iconst (v := 0) 16 hZ dL_count_15 rfl (by decide) ?_
  exact hret 0 0 _ _ _ _ (by decide) (by decide) dL_count_16 rfl rfl
set_option maxHeartbeats 4000000 in
set_option maxRecDepth 100000 in
theorem h_count_1 (l : Launch) (g : va_G) (y : Nat → ClassId) (ad : Nat → Nat) (p0 : Int32) {σ : stT} {ao : Nat} {f : Nat → Int64} (hC : w_T l g y yX7_count cX7_count 2 (some .int) 8 (.ref (ad 0) :: [.int p0]) (cw ad y σ) xIO) : w_H l g y yL_count cL_count 4 hh_count 9 [.ref (ad 0), .int p0, .ref ao] (hw ad y σ ao f) 1 (hw ad y σ ao f) := by
  refine w_ofH (lv0 := [(0, .ref (ad 0)), (1, .int p0), (2, .ref ao)]) (by decide +kernel) (Nat.le_of_ble_eq_true rfl) rfl ?_
  intro Z hH hret
  have hE := hH.e
  have hZ := hE.is
  refine r_aload_n 1 hZ 2 dL_count_0 rfl rfl rfl ?_
  refine r_iconst (v := 0) 2 hZ dL_count_1 rfl (by decide) ?_
  refine r_aload_n 3 hZ 0 dL_count_2 rfl rfl rfl ?_
  refine r_iload_n 4 hZ 1 dL_count_3 rfl rfl rfl ?_
  refine r_callTA hC wM_X7_count wL_L_69 hH rfl ⟨by decide, by decide⟩ ⟨by decide, by decide⟩ 0 7 rfl rfl rfl rfl dL_count_4 [] ⟨0, 9, 12, 19⟩ [] rfl (fun _ h => absurd h List.not_mem_nil) (by decide +kernel) (by decide) wC_L_19 (fun U h => h.1.1) (fun q => ?_)
  refine r_astnN 13 [(0, _), (1, _), (2, _), (3, _)] hZ dL_count_12 rfl rfl (by decide) rfl rfl ?_
  refine r_iconst (v := 1) 14 hZ dL_count_13 rfl (by decide) ?_
  exact hret 1 6 _ _ _ _ (by decide) (by decide) dL_count_14 rfl rfl
