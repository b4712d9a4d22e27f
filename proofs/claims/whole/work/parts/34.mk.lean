/-! objects and arrays are made: a constructor's contract -/
abbrev xED : String := "LeastEdits$Edit"
abbrev w_rmN (d mc ms : Nat) : Room := { frames := d, cells := mc, slots := ms, locals := 34 * d }
def w_PcN (g : va_G) (y : Nat → ClassId) (sz : Nat) (av : List Value) (ws : va_W) : Array Value → State → Prop := va_Pc av (fun U => U.heap.size = sz ∧ va_P g vwCl ws U.heap ∧ va_K g vwCl (w_ty y) U ∧ va_D (fun _ => True) ws ∧ w_NW U ∧ va_AO xED U)
theorem w_PcN.blind {g : va_G} {y : Nat → ClassId} {sz : Nat} {av : List Value} {ws : va_W} : FrameBlind (w_PcN g y sz av ws) := by
  intro a U gg mk q
  obtain ⟨q0, q1, qP, qK, qD, qN, qO⟩ := q
  exact ⟨q0, q1, qP, va_K.moved (u := U) (U := U.calling gg mk a) (Vm.Alike.refl U.vm) qK, qD, w_NW.same rfl qN, va_AO.moved (u := U) (U := U.calling gg mk a) (Vm.Alike.refl U.vm) qO⟩
def w_QN (g : va_G) (y : Nat → ClassId) (ws : va_W) (sz : Nat) (WS : va_W → Prop) : Array Value → State → Outcome → State → Prop := fun _ st oc t =>
  (oc = .returned none ∧ ∃ ws', WS ws' ∧ va_P g vwCl ws' t.heap ∧ va_K g vwCl (w_ty y) t ∧ va_D (va_A ws sz) ws') ∧ va_F (va_A ws sz) st t
/-- from the world ws the constructor comes to a world in WS, with mc cells of ms slots more -/
def w_N (l : Launch) (g : va_G) (y : Nat → ClassId) (yN : MethodName) (cc : ByteArray) (mL : Nat) (d mc ms : Nat) (av : List Value) (ws : va_W) (WS : va_W → Prop) : Prop :=
  ∀ sz, Met l yN (.code yN cc mL none :: UW) (w_rmN d mc ms) (w_PcN g y sz av ws) (w_QN g y ws sz WS) mc ms (va_A ws sz)
/-- w_Is, and that arrays of Edits are known -/
def w_IsO (l : Launch) (g : va_G) (y : Nat → ClassId) (R : Room) (cc : ByteArray) (own : String) (nL : Nat) (Z : Nat → Nat → va_W → Nat → List (Nat × Value) → List Value → Prop) (I : String → Prop) : Prop :=
  ∃ (p : Program) (e : Env) (s : State) (m : MethodId) (args : Array Value) (below : List Frame) (meth : Method) (c : Code) (A : Nat → Prop) (Q : State → Prop),
    (p.tables.exec = Jvm.exec ∧ c.code = cc ∧ c.maxLocals = nL ∧ s.vm.findClass own = some m.cls ∧ (∀ w ∈ UW, w.before args s = true) ∧ va_K g vwCl (w_ty y) s ∧ (∀ q, s.heap.size ≤ q → A q) ∧ w_NW s) ∧
    (∀ k n ws pc lv st, (Z k n ws pc lv st ↔ (k ≤ R.cells → n ≤ R.slots → ∀ (H : Heap) (locs : List Loc) (ls : Array Slot), va_P g vwCl ws H → va_D A ws → va_S A s.heap H locs → lv_has ls nL lv → W p l e R s m args below meth c H locs k n Q (F0 m pc ls st)))) ∧ va_AO xED s ∧ I meth.name
theorem w_IsO.is {l : Launch} {g : va_G} {y : Nat → ClassId} {R : Room} {cc : ByteArray} {own : String} {nL : Nat} {Z : Nat → Nat → va_W → Nat → List (Nat × Value) → List Value → Prop} {I : String → Prop} (h : w_IsO l g y R cc own nL Z I) : w_Is l g y R cc own nL Z := by
  obtain ⟨p, e, s, m, args, below, meth, c, A, Q, h1, h2, -⟩ := h
  exact ⟨p, e, s, m, args, below, meth, c, A, Q, h1, h2⟩
abbrev isIn : String → Prop := fun s => s = "<init>"
section WMK
variable {l : Launch} {g : va_G} {y : Nat → ClassId} {R : Room} {cc : ByteArray} {own : String} {nL : Nat} {Z : Nat → Nat → va_W → Nat → List (Nat × Value) → List Value → Prop} {k n pc : Nat} {ws wr : va_W} {lv : List (Nat × Value)} {st rest : List Value} {I : String → Prop}
theorem w_callN {p : Program} {e : Env} {s : State} {m : MethodId} {args : Array Value} {below : List Frame} {meth : Method} {c : Code} {A : Nat → Prop} {Q : State → Prop} {H : Heap} {locs : List Loc} {ls : Array Slot} {a : Array Value} {mc ms : Nat} {WS : va_W → Prop}
    (hr : va_Run p l e R s m args below meth c H locs k n mc ms (F0 m pc ls st) rest (w_QN g y wr H.size WS a) (va_A wr H.size)) (hP : va_P g vwCl (ws ++ wr) H) (hD : va_D A (ws ++ wr)) (hS : va_S A s.heap H locs) (hA : ∀ q, s.heap.size ≤ q → A q)
    (kk : ∀ (ws' : va_W) (H1 : Heap) (locs1 : List Loc), WS ws' → va_P g vwCl (ws ++ ws') H1 → va_D A (ws ++ ws') → va_S A s.heap H1 locs1 → W p l e R s m args below meth c H1 locs1 (k + mc) (n + ms) Q (F0 m (pc + 3) ls rest)) : W p l e R s m args below meth c H locs k n Q (F0 m pc ls st) := by
  have hF : ∀ q, va_A wr H.size q → A q := fun q h => h.elim (fun ⟨k, e, h⟩ => hD.right.2 k (q, e) h) (fun h => hA q (Nat.le_trans hS.1 h))
  intro T hT X
  obtain ⟨v, st₀, t, T', L, h0, X', hL, e1, e2, ⟨⟨hv, ws', hW, hP1, hK1, hD1⟩, hz, hk⟩, stp⟩ := hr T hT X
  cases hv
  rw [h0] at hz hk
  obtain ⟨hP2, hD2⟩ := va_appR hP hD hk hF hP1 hD1
  obtain ⟨t2, a1, b1⟩ := kk ws' T'.heap (locs ++ L) hW (by rw [e1]; exact hP2) hD2
    ⟨Nat.le_trans hS.1 (by rw [e1]; exact hz), fun q h1 h2 => by rw [e1, hk q (Nat.lt_of_lt_of_le h1 hS.1) (fun z => h2 (hF q z))]; exact hS.2.1 q h1 h2, fun q hq => by
      rcases List.mem_append.mp hq with h | h
      · exact hS.2.2 q h
      · exact hF _ (hL q h)⟩ T' rfl X'
  exact ⟨t2, stp t2 a1, b1⟩
variable {yN : MethodName} {c1 : ByteArray} {mL d na mc ms : Nat} {av : List Value} {b idx : Nat} {WS : va_W → Prop}
/-- invokespecial of a constructor, on the second of two worlds -/
theorem r_callN (hC : w_N l g y yN c1 mL d mc ms (.ref b :: av) wr WS) (hM : w_MI yN c1 mL na) (wl : Cond.methodLink own idx yN ∈ UW) (hZ : w_IsO l g y R cc own nL Z I) (hna : av.length = na) (hR : d + 1 ≤ R.frames ∧ 8 + (mL + 11) + 34 * d ≤ R.locals) (hR2 : k + mc ≤ R.cells ∧ n + ms ≤ R.slots) (hst : st = av.reverse ++ .ref b :: rest) (hW : Nat.ble (rest.map fun v => v.category).sum 8 = true) (dd : decode cc pc = .ok (.invokespecial idx, 3)) (k1 : ∀ ws', WS ws' → Z (k + mc) (n + ms) (ws ++ ws') (pc + 3) lv rest) : Z k n (ws ++ wr) pc lv st := by
  obtain ⟨p, e, s, m, args, below, meth, c, A, Q, ⟨hx, hb, hml, hown, hts, hK, hA, hN⟩, hi, hO, -⟩ := hZ
  rw [hi]
  obtain ⟨wi, wini, wc, hn1, hdd⟩ := hM
  intro h1 h2 H locs ls hP hD hS hl
  refine w_callN (va_runI (As := av) (rest := rest) ⟨hx, hb, hml, hown, hts⟩ (hC H.size) (cwI na hts (w_uw yN c1 mL none wc) rfl rfl rfl (hts _ wini) (hts _ wl) (hts _ wi) hn1 hdd hR) ⟨w_PcN.blind, fun U hU hW => ⟨rfl, by rw [hU], by rw [hU]; exact hP.right, va_K.moved hW.alike hK, hD.right.weaken (fun _ _ _ _ => trivial), w_NW.warm hW hN, va_AO.moved hW.alike hO⟩⟩ rfl hna hl.1 hst (lv_room (Nat.le_of_ble_eq_true hW)) dd hR2) hP hD hS hA (fun ws' H1 locs1 hW1 hP1 hD1 hS1 => ((hi _ _ _ _ _ _).mp (k1 ws' hW1)) hR2.1 hR2.2 H1 locs1 ls hP1 hD1 hS1 hl)
/-- .. of a nest mate's -/
theorem r_callIN {host : String} (hC : w_C l g y yN c1 mL none d (.ref b :: av) wr none wr) (hM : w_MI yN c1 mL na) (wl : ∀ s, w_NW s → va_Nw (.methodLinkNest own idx yN host) s) (hZ : w_Is l g y R cc own nL Z) (hna : av.length = na) (hR : d + 1 ≤ R.frames ∧ 8 + (mL + 11) + 34 * d ≤ R.locals) (hst : st = av.reverse ++ .ref b :: rest) (hW : Nat.ble (rest.map fun v => v.category).sum 8 = true) (dd : decode cc pc = .ok (.invokespecial idx, 3)) (k1 : Z k n (ws ++ wr) (pc + 3) lv rest) : Z k n (ws ++ wr) pc lv st := by
  obtain ⟨p, e, s, m, args, below, meth, c, A, Q, ⟨hx, hb, hml, hown, hts, hK, hA, hN⟩, hi⟩ := hZ
  rw [hi] at k1 ⊢
  obtain ⟨wi, wini, wc, hn1, hdd⟩ := hM
  intro h1 h2 H locs ls hP hD hS hl
  refine w_callB (va_runIN (As := av) (rest := rest) ⟨hx, hb, hml, hown, hts⟩ (hC H.size) ⟨va_cnB na hts (w_uw yN c1 mL none wc) rfl rfl rfl (wl s hN) (hts _ wini) hdd hR, hn1, hts _ wi⟩ ⟨w_Pc.blind, fun U hU hW => ⟨rfl, by rw [hU], by rw [hU]; exact hP.right, va_K.moved hW.alike hK, hD.right.weaken (fun _ _ _ _ => trivial), w_NW.warm hW hN⟩⟩ rfl hna hl.1 hst (lv_room (Nat.le_of_ble_eq_true hW)) dd ⟨h1, h2⟩) hP hD hS hA (fun H1 locs1 hP1 hD1 hS1 => k1 h1 h2 H1 locs1 ls hP1 hD1 hS1 hl)
theorem w_ofN {lv0 : List (Nat × Value)} (hpl : plainName yN.cls = true) (hin : yN.name = "<init>") (hsl : (lg_sl av).length ≤ mL) (hlv : lv_args 0 av = lv0)
    (body : ∀ Z, w_IsO l g y (w_rmN d mc ms) c1 yN.cls mL Z isIn → (∀ k n ws2 pc lv, decode c1 pc = .ok (.return_, 1) → k ≤ mc → n ≤ ms → WS ws2 → Z k n ws2 pc lv []) → Z 0 0 ws 0 lv0 []) : w_N l g y yN c1 mL d mc ms av ws WS := by
  intro sz
  refine Met.ofW (cc := c1) (maxL := mL) (ret := none) hpl rfl ?_
  intro p e s m args below meth c s₁ B hml hv
  obtain ⟨rfl, hsz, hP, hK, hD0, hN, hO⟩ := hv
  subst hsz
  have hts := atoms_spec (ws := .code yN c1 mL none :: UW) B.pre
  have h := body (fun k n ws2 pc lv st => (k ≤ (w_rmN d mc ms).cells → n ≤ (w_rmN d mc ms).slots → ∀ (H : Heap) (locs : List Loc) (ls : Array Slot), va_P g vwCl ws2 H → va_D (va_A ws s.heap.size) ws2 → va_S (va_A ws s.heap.size) s.heap H locs → lv_has ls mL lv → W p l e (w_rmN d mc ms) s m av.toArray below meth c H locs k n (MQ below (w_QN g y ws s.heap.size WS) av.toArray s mc ms (va_A ws s.heap.size)) (F0 m pc ls st)))
    ⟨p, e, s, m, av.toArray, below, meth, c, _, _, ⟨B.exec, B.bytes, hml, findClass_of_methodNamed B.named, fun w hw => hts w (List.mem_cons_of_mem _ hw), hK, fun q h => Or.inr h, hN⟩, fun _ _ _ _ _ _ => Iff.rfl, hO, ((name_of_methodNamed B.named B.method).1).trans hin⟩
    (by
      intro k n ws2 pc lv dd h1 h2 hWS
      intro _ _ H locs ls hP hD hS hl
      refine W.widen (k := mc) (n := ms) h1 h2 ?_
      exact W.vret B.exec B.bytes B.returns (fun t ht hW => ⟨⟨rfl, ws2, hWS, by rw [ht]; exact hP, va_K.moved hW.alike hK, hD⟩, hS.F ht⟩) hS.2.2 dd B.notSynchronized)
  have hl := lv_entry av (n := mL) hsl
  rw [lg_entry_eq]
  rw [hlv] at hl
  exact h (Nat.zero_le _) (Nat.zero_le _) s.heap [] _ hP (hD0.self) va_S.rf hl
theorem r_objInit (pc2 : Nat) {idx a : Nat} (wl : Cond.methodLink own idx objectInit ∈ UW) (hZ : w_Is l g y R cc own nL Z) (hR : 1 ≤ R.frames ∧ 20 ≤ R.locals) (hW : Nat.ble (st.map fun v => v.category).sum 8 = true) (dd : decode cc pc = .ok (.invokespecial idx, 3)) (hp : pc + 3 = pc2) (k1 : Z k n ws pc2 lv st) : Z k n ws pc lv (.ref a :: st) := by
  obtain ⟨p, e, s, m, args, below, meth, c, A, Q, ⟨hx, hb, hml, hown, hts, hK, hA, hN⟩, hi⟩ := hZ
  subst hp
  rw [hi] at k1 ⊢
  have hW := Nat.le_of_ble_eq_true hW
  exact fun h1 h2 H locs ls hP hD hS hl => W.objInit hx hb hown (hts _ wl) (hts _ wO_inst) (hts _ wO_code) rfl (by rw [hml]; exact hl.1) rfl dd hR.1 (by show 2 * 0 + _ + 12 ≤ _; omega) (k1 h1 h2 H locs ls hP hD hS hl)
theorem r_newI (pc2 : Nat) (hZ : w_Is l g y R cc own nL Z) {N : Nat} {v : Int32} (hv : ¬ v < 0 ∧ v.toNatClampNeg = N ∧ N * 4 ≤ 536870912) (hR : k + 1 ≤ R.cells ∧ n + N ≤ R.slots) (dd : decode cc pc = .ok (.newarray .int, 2)) (hp : pc + 2 = pc2) (k1 : ∀ q, Z (k + 1) (n + N) (ws ++ [(q, .inl (y 0, N, .inl (fun _ => 0)))]) pc2 lv (.ref q :: st)) : Z k n ws pc lv (.int v :: st) := by
  obtain ⟨p, e, s, m, args, below, meth, c, A, Q, ⟨hx, hb, hml, hown, hts, hK, hA, hN⟩, hi⟩ := hZ
  subst hp
  rw [hi]
  exact fun h1 h2 H locs ls hP hD hS hl => va_newa (atype := .int) (ty := .int) (a0 := (N, .inl (fun _ => 0))) hx hb (hts _ wA_int) rfl hK hP hD hS hA (fun _ => rfl) hv.1 hv.2.1 hv.2.2 hR.1 hR.2 dd (fun q cA H1 hK1 hP1 hD1 hS1 => by
    have e1 : y 0 = cA := Option.some.inj ((hK.2 0 (y 0, .int) rfl).2.symm.trans (hK1.2 4 (cA, .int) rfl).2)
    subst e1
    exact ((hi _ _ _ _ _ _).mp (k1 q)) hR.1 hR.2 H1 locs ls hP1 hD1 hS1 hl)
theorem r_newZ (pc2 : Nat) (hZ : w_Is l g y R cc own nL Z) {N : Nat} {v : Int32} (hv : ¬ v < 0 ∧ v.toNatClampNeg = N ∧ N * 4 ≤ 536870912) (hR : k + 1 ≤ R.cells ∧ n + N ≤ R.slots) (dd : decode cc pc = .ok (.newarray .boolean, 2)) (hp : pc + 2 = pc2) (k1 : ∀ q, Z (k + 1) (n + N) (ws ++ [(q, .inl (y 1, N, .inl (fun _ => 0)))]) pc2 lv (.ref q :: st)) : Z k n ws pc lv (.int v :: st) := by
  obtain ⟨p, e, s, m, args, below, meth, c, A, Q, ⟨hx, hb, hml, hown, hts, hK, hA, hN⟩, hi⟩ := hZ
  subst hp
  rw [hi]
  exact fun h1 h2 H locs ls hP hD hS hl => va_newa (atype := .boolean) (ty := .boolean) (a0 := (N, .inl (fun _ => 0))) hx hb (hts _ wA_boolean) rfl hK hP hD hS hA (fun _ => rfl) hv.1 hv.2.1 (Nat.le_trans (show N * 1 ≤ N * 4 by omega) hv.2.2) hR.1 hR.2 dd (fun q cA H1 hK1 hP1 hD1 hS1 => by
    have e1 : y 1 = cA := Option.some.inj ((hK.2 1 (y 1, .boolean) rfl).2.symm.trans (hK1.2 4 (cA, .boolean) rfl).2)
    subst e1
    exact ((hi _ _ _ _ _ _).mp (k1 q)) hR.1 hR.2 H1 locs ls hP1 hD1 hS1 hl)
theorem r_newL (pc2 : Nat) (hZ : w_Is l g y R cc own nL Z) {N : Nat} {v : Int32} (hv : ¬ v < 0 ∧ v.toNatClampNeg = N ∧ N * 8 ≤ 536870912) (hR : k + 1 ≤ R.cells ∧ n + N ≤ R.slots) (dd : decode cc pc = .ok (.newarray .long, 2)) (hp : pc + 2 = pc2) (k1 : ∀ q, Z (k + 1) (n + N) (ws ++ [(q, .inl (y 3, N, .inr (.inl (fun _ => 0))))]) pc2 lv (.ref q :: st)) : Z k n ws pc lv (.int v :: st) := by
  obtain ⟨p, e, s, m, args, below, meth, c, A, Q, ⟨hx, hb, hml, hown, hts, hK, hA, hN⟩, hi⟩ := hZ
  subst hp
  rw [hi]
  exact fun h1 h2 H locs ls hP hD hS hl => va_newa (atype := .long) (ty := .long) (a0 := (N, .inr (.inl (fun _ => 0)))) hx hb (hts _ wA_long) rfl hK hP hD hS hA (fun _ => rfl) hv.1 hv.2.1 hv.2.2 hR.1 hR.2 dd (fun q cA H1 hK1 hP1 hD1 hS1 => by
    have e1 : y 3 = cA := Option.some.inj ((hK.2 3 (y 3, .long) rfl).2.symm.trans (hK1.2 4 (cA, .long) rfl).2)
    subst e1
    exact ((hi _ _ _ _ _ _).mp (k1 q)) hR.1 hR.2 H1 locs ls hP1 hD1 hS1 hl)
theorem r_newQ (pc2 : Nat) {idx : Nat} (wk : Cond.classLink own idx xED ∈ UW) (hZ : w_IsO l g y R cc own nL Z I) {N : Nat} {v : Int32} (hv : ¬ v < 0 ∧ v.toNatClampNeg = N ∧ N * 4 ≤ 536870912) (hR : k + 1 ≤ R.cells ∧ n + N ≤ R.slots) (dd : decode cc pc = .ok (.anewarray idx, 3)) (hp : pc + 3 = pc2) (k1 : ∀ q, Z (k + 1) (n + N) (ws ++ [(q, .inl (y 2, N, .inr (.inr (.inr (.inr (fun _ => none))))))]) pc2 lv (.ref q :: st)) : Z k n ws pc lv (.int v :: st) := by
  obtain ⟨p, e, s, m, args, below, meth, c, A, Q, ⟨hx, hb, hml, hown, hts, hK, hA, hN⟩, hi, hO, -⟩ := hZ
  subst hp
  rw [hi]
  exact fun h1 h2 H locs ls hP hD hS hl => va_newq hx hb hown (hts _ wk) hO hK hP hD hS hA hv.1 hv.2.1 hv.2.2 hR.1 hR.2 dd (fun q cA H1 hK1 hP1 hD1 hS1 => by
    obtain ⟨-, -, -, -, -, -, f1⟩ := hK.2 2 (y 2, .object "LeastEdits$Edit") rfl
    obtain ⟨-, -, -, -, -, -, f2⟩ := hK1.2 4 (cA, .object xED) rfl
    have e1 : y 2 = cA := Option.some.inj (f1.symm.trans f2)
    subst e1
    exact ((hi _ _ _ _ _ _).mp (k1 q)) hR.1 hR.2 H1 locs ls hP1 hD1 hS1 hl)
theorem r_new (pc2 : Nat) {C : String} {T : u_T} {N ci idx : Nat} (fs : List Value) (hin : ∀ w ∈ u_ws C T N, w ∈ UW) (ty : Nat → FieldType) (hty : ∀ k, k < N → parseFieldDescriptor (T k).2.2.1 = some (ty k)) (wk : Cond.classLink own idx C ∈ UW) (wi : Cond.instantiable C N ∈ UW) (wn : Cond.initialized C ∈ UW) (hc : vwCl[ci]? = some (C, T, N)) (hfs : ∀ j, j < N → defaultValue (ty j) = vp_V fs j) (hZ : w_Is l g y R cc own nL Z) (hR : k + 1 ≤ R.cells ∧ n + N ≤ R.slots) (dd : decode cc pc = .ok (.new idx, 3)) (hp : pc + 3 = pc2) (k1 : ∀ q, Z (k + 1) (n + N) (ws ++ [(q, .inr (ci, fs))]) pc2 lv (.ref q :: st)) : Z k n ws pc lv st := by
  obtain ⟨p, e, s, m, args, below, meth, c, A, Q, ⟨hx, hb, hml, hown, hts, hK, hA, hN⟩, hi⟩ := hZ
  subst hp
  rw [hi]
  exact fun h1 h2 H locs ls hP hD hS hl => va_new hx hb hts hin ty hty hown (hts _ wk) (hts _ wi) (hts _ wn) hK hP hD hS hA hc hfs hR.1 hR.2 dd (fun q H1 hP1 hD1 hS1 => ((hi _ _ _ _ _ _).mp (k1 q)) hR.1 hR.2 H1 locs ls hP1 hD1 hS1 hl)
theorem r_putF {C : String} {T : u_T} {N ci idx q0 kf a : Nat} {fs : List Value} {v : Value} {ws2 : va_W} {ty : FieldType} (pc2 : Nat) (ty0 : Nat → FieldType) (hty : ∀ k, k < N → parseFieldDescriptor (T k).2.2.1 = some (ty0 k)) (hnm : ∀ a, a < N → ∀ b, b < N → a ≠ b → (T a).2.1 ≠ (T b).2.1) (hin : ∀ w ∈ u_ws C T N, w ∈ UW) (hc : vwCl[ci]? = some (C, T, N)) (hk : kf < N) (wl : Cond.fieldLink own idx own (T kf).2.1 (T kf).2.2.1 ∈ UW) (hr : (T kf).1 = own) (he : ws[q0]? = some (a, .inr (ci, fs))) (hl : kf < fs.length) (hfin : (T kf).2.2.2 = true) (hd : ty0 kf = ty) (hnar : narrow ty v = v) (hfit : fits ty v = true) (hs : ws.set q0 (a, .inr (ci, fs.set kf v)) = ws2) (hZ : w_IsO l g y R cc own nL Z isIn) (dd : decode cc pc = .ok (.putfield idx, 3)) (hp : pc + 3 = pc2) (k1 : Z k n ws2 pc2 lv st) : Z k n ws pc lv (v :: .ref a :: st) := by
  obtain ⟨p, e, s, m, args, below, meth, c, A, Q, ⟨hx, hb, hml, hown, hts, hK, hA, hN⟩, hi, -, hnam⟩ := hZ
  subst hp
  subst hs
  subst hd
  rw [hi] at k1 ⊢
  exact fun h1 h2 H locs ls hP hD hS hlv => va_putF (ref := own) hx hb hts hin ty0 hty hnm hown hK hP hD hS q0 he hc kf hk (hts _ wl) (fun _ h9 => by rw [← hr] at *; exact h9) hfin hnam hr (hty kf hk) hnar hfit hl dd (fun H1 locs1 hP1 hD1 hS1 => k1 h1 h2 H1 locs1 ls hP1 hD1 hS1 hlv)
theorem r_aast {ws2 : va_W} (pc2 q0 qk : Nat) (hZ : w_Is l g y R cc own nL Z) {a N b : Nat} {fs : List Value} {f : Nat → Option Nat} {i : Int32} (he : ws[q0]? = some (a, .inl (y 2, N, .inr (.inr (.inr (.inr f)))))) (hv : ws[qk]? = some (b, .inr (1, fs))) (hin : vp_in i N) (hs : ws.set q0 (a, .inl (y 2, N, .inr (.inr (.inr (.inr (va_up f i.toNatClampNeg (some b))))))) = ws2) (dd : decode cc pc = .ok (.aastore, 1)) (hp : pc + 1 = pc2) (k1 : Z k n ws2 pc2 lv st) : Z k n ws pc lv (.ref b :: .int i :: .ref a :: st) := by
  obtain ⟨p, e, s, m, args, below, meth, c, A, Q, ⟨hx, hb, hml, hown, hts, hK, hA, hN⟩, hi⟩ := hZ
  subst hp
  subst hs
  rw [hi] at k1 ⊢
  exact fun h1 h2 H locs ls hP hD hS hl => va_astq (r := (RX1, TX1, 3)) hx hb hK hP hD hS q0 2 qk 1 he rfl hv rfl hin dd (fun H1 locs1 hP1 hD1 hS1 => k1 h1 h2 H1 locs1 ls hP1 hD1 hS1 hl)
end WMK
