abbrev vwCl : List vw_C := [(RX0, TX0, 5), (RX1, TX1, 3), (RX2, TX2, 3), (RX3, TX3, 10), (RX4, TX4, 3), (RX5, TX5, 5), (RX6, TX6, 3), (RX7, TX7, 7), (RX8, TX8, 31)]
/-! the array classes of the worlds -/
abbrev w_ty (y : Nat → ClassId) : List (ClassId × FieldType) := [(y 0, .int), (y 1, .boolean), (y 2, .object "LeastEdits$Edit"), (y 3, .long)]
abbrev w_rm (d : Nat) : Room := { frames := d, cells := 0, slots := 0, locals := 34 * d }
def w_NW (s : State) : Prop := va_Nw (.methodLinkNest RX5 25 yX1_init "LeastEdits") s ∧ va_Nw (.methodLinkNest RX4 17 yX1_init "LeastEdits") s ∧ va_Nw (.methodLinkNest RX3 55 yX7_column "LeastEdits") s ∧ va_Nw (.fieldLinkNest RX3 48 "LeastEdits" "INPUT_COLUMNS" "[I" "LeastEdits") s ∧ va_Nw (.methodLinkNest RX5 112 yX7_column "LeastEdits") s
theorem w_nw_X5_25 : ∀ s, w_NW s → va_Nw (.methodLinkNest RX5 25 yX1_init "LeastEdits") s := fun _ h => h.1
theorem w_nw_X4_17 : ∀ s, w_NW s → va_Nw (.methodLinkNest RX4 17 yX1_init "LeastEdits") s := fun _ h => h.2.1
theorem w_nw_X3_55 : ∀ s, w_NW s → va_Nw (.methodLinkNest RX3 55 yX7_column "LeastEdits") s := fun _ h => h.2.2.1
theorem w_nw_X3_48 : ∀ s, w_NW s → va_Nw (.fieldLinkNest RX3 48 "LeastEdits" "INPUT_COLUMNS" "[I" "LeastEdits") s := fun _ h => h.2.2.2.1
theorem w_nw_X5_112 : ∀ s, w_NW s → va_Nw (.methodLinkNest RX5 112 yX7_column "LeastEdits") s := fun _ h => h.2.2.2.2
/-- Z is the judgement 'the machine, at this place of the method's body, in this world, comes to the method's end' -/
def w_Is (l : Launch) (g : va_G) (y : Nat → ClassId) (R : Room) (cc : ByteArray) (own : String) (nL : Nat) (Z : Nat → Nat → va_W → Nat → List (Nat × Value) → List Value → Prop) : Prop :=
  ∃ (p : Program) (e : Env) (s : State) (m : MethodId) (args : Array Value) (below : List Frame) (meth : Method) (c : Code) (A : Nat → Prop) (Q : State → Prop),
    (p.tables.exec = Jvm.exec ∧ c.code = cc ∧ c.maxLocals = nL ∧ s.vm.findClass own = some m.cls ∧ (∀ w ∈ UW, w.before args s = true) ∧ va_K g vwCl (w_ty y) s ∧ (∀ q, s.heap.size ≤ q → A q) ∧ w_NW s) ∧
    ∀ k n ws pc lv st, (Z k n ws pc lv st ↔ (k ≤ R.cells → n ≤ R.slots → ∀ (H : Heap) (locs : List Loc) (ls : Array Slot), va_P g vwCl ws H → va_D A ws → va_S A s.heap H locs → lv_has ls nL lv → W p l e R s m args below meth c H locs k n Q (F0 m pc ls st)))
def w_Q (g : va_G) (y : Nat → ClassId) (ws : va_W) (sz : Nat) (ov : Option Value) (ws' : va_W) : Array Value → State → Outcome → State → Prop := fun _ st oc t =>
  (oc = .returned ov ∧ va_P g vwCl ws' t.heap ∧ va_K g vwCl (w_ty y) t ∧ va_D (va_A ws sz) ws') ∧ va_F (va_A ws sz) st t
def w_Pc (g : va_G) (y : Nat → ClassId) (sz : Nat) (av : List Value) (ws : va_W) : Array Value → State → Prop := va_Pc av (fun U => U.heap.size = sz ∧ va_P g vwCl ws U.heap ∧ va_K g vwCl (w_ty y) U ∧ va_D (fun _ => True) ws ∧ w_NW U)
/-- a method's contract: from the world ws with these arguments it returns ov, in the world ws' -/
def w_C (l : Launch) (g : va_G) (y : Nat → ClassId) (yN : MethodName) (cc : ByteArray) (mL : Nat) (ret : Option FieldType) (d : Nat) (av : List Value) (ws : va_W) (ov : Option Value) (ws' : va_W) : Prop :=
  ∀ sz, Met l yN (.code yN cc mL ret :: UW) (w_rm d) (w_Pc g y sz av ws) (w_Q g y ws sz ov ws') 0 0 (va_A ws sz)
theorem w_NW.same {u U : State} (h : u.vm = U.vm) (hn : w_NW u) : w_NW U := ⟨va_Nw.same rfl h hn.1, va_Nw.same rfl h hn.2.1, va_Nw.same rfl h hn.2.2.1, va_Nw.same rfl h hn.2.2.2.1, va_Nw.same rfl h hn.2.2.2.2⟩
theorem w_NW.warm {s U : State} (hW : s.WarmedH U.vm) (hn : w_NW s) : w_NW U := ⟨va_Nw.warmM hW hn.1, va_Nw.warmM hW hn.2.1, va_Nw.warmM hW hn.2.2.1, va_Nw.warmF hW hn.2.2.2.1, va_Nw.warmM hW hn.2.2.2.2⟩
theorem w_Pc.blind {g : va_G} {y : Nat → ClassId} {sz : Nat} {av : List Value} {ws : va_W} : FrameBlind (w_Pc g y sz av ws) := by
  intro a U gg mk q
  obtain ⟨q0, q1, qP, qK, qD, qN⟩ := q
  exact ⟨q0, q1, qP, va_K.moved (u := U) (U := U.calling gg mk a) (Vm.Alike.refl U.vm) qK, qD, w_NW.same rfl qN⟩
section WC
variable {l : Launch} {g : va_G} {y : Nat → ClassId} {R : Room} {cc : ByteArray} {own : String} {nL : Nat} {Z : Nat → Nat → va_W → Nat → List (Nat × Value) → List Value → Prop} {k n pc : Nat} {ws ws' : va_W} {lv : List (Nat × Value)} {st rest : List Value}
theorem w_call {p : Program} {e : Env} {s : State} {m : MethodId} {args : Array Value} {below : List Frame} {meth : Method} {c : Code} {A : Nat → Prop} {Q : State → Prop} {H : Heap} {locs : List Loc} {ls : Array Slot} {a : Array Value} {ov : Option Value}
    (hr : va_Run p l e R s m args below meth c H locs k n 0 0 (F0 m pc ls st) rest (w_Q g y ws H.size ov ws' a) (va_A ws H.size)) (hP : va_P g vwCl ws H) (hD : va_D A ws) (hS : va_S A s.heap H locs) (hA : ∀ q, s.heap.size ≤ q → A q)
    (kk : ∀ (H1 : Heap) (locs1 : List Loc), va_P g vwCl ws' H1 → va_D A ws' → va_S A s.heap H1 locs1 → W p l e R s m args below meth c H1 locs1 k n Q (F0 m (pc + 3) ls (ov.toList ++ rest))) : W p l e R s m args below meth c H locs k n Q (F0 m pc ls st) := by
  have hF : ∀ q, va_A ws H.size q → A q := fun q h => h.elim (fun ⟨k, e, h⟩ => hD.2 k (q, e) h) (fun h => hA q (Nat.le_trans hS.1 h))
  intro T hT X
  obtain ⟨v, st₀, t, T', L, h0, X', hL, e1, e2, ⟨⟨hv, hP1, hK1, hD1⟩, hz, hk⟩, stp⟩ := hr T hT X
  cases hv
  rw [h0] at hz hk
  obtain ⟨t2, a1, b1⟩ := kk T'.heap (locs ++ L) (by rw [e1]; exact hP1) (hD1.weaken (fun _ _ _ h => hF _ h))
    ⟨Nat.le_trans hS.1 (by rw [e1]; exact hz), fun q h1 h2 => by rw [e1, hk q (Nat.lt_of_lt_of_le h1 hS.1) (fun z => h2 (hF q z))]; exact hS.2.1 q h1 h2, fun q hq => by
      rcases List.mem_append.mp hq with h | h
      · exact hS.2.2 q h
      · exact hF _ (hL q h)⟩ T' rfl X'
  exact ⟨t2, stp t2 a1, b1⟩
theorem w_uw (yN : MethodName) (c1 : ByteArray) (mL : Nat) (ret : Option FieldType) (h : Cond.code yN c1 mL ret ∈ UW) : GoodIn UW (.code yN c1 mL ret :: UW) := uw_cons h uw_self
variable {yN : MethodName} {c1 : ByteArray} {mL d na : Nat} {ret : Option FieldType} {av : List Value} {ov : Option Value} {b idx : Nat}
theorem r_callV (hC : w_C l g y yN c1 mL ret d (.ref b :: av) ws ov ws') (hM : w_MV yN c1 mL ret na) (wl : Cond.methodLink own idx yN ∈ UW) (hZ : w_Is l g y R cc own nL Z) (hna : av.length = na) (hR : d + 1 ≤ R.frames ∧ 8 + (mL + 11) + 34 * d ≤ R.locals) (q0 ci : Nat) {fs : List Value} {T : u_T} {N : Nat} (he : ws[q0]? = some (b, .inr (ci, fs))) (hcl : vwCl[ci]? = some (yN.cls, T, N)) (hst : st = av.reverse ++ .ref b :: rest) (hW : (rest.map fun v => v.category).sum ≤ 8) (dd : decode cc pc = .ok (.invokevirtual idx, 3)) (k1 : Z k n ws' (pc + 3) lv (ov.toList ++ rest)) : Z k n ws pc lv st := by
  obtain ⟨p, e, s, m, args, below, meth, c, A, Q, ⟨hx, hb, hml, hown, hts, hK, hA, hN⟩, hi⟩ := hZ
  rw [hi] at k1 ⊢
  obtain ⟨wi, wsel, wini, wc, hdd⟩ := hM
  intro h1 h2 H locs ls hP hD hS hl
  refine w_call (va_runV (As := av) (rest := rest) ⟨hx, hb, hml, hown, hts⟩ (hC H.size) (cwV na hts (show GoodIn UW (wsV own idx yN.cls yN (.code yN c1 mL ret :: UW)) from uw_cons wl (uw_cons wi (uw_cons wsel (uw_cons wini (w_uw yN c1 mL ret wc))))) rfl rfl rfl ⟨rfl, hdd⟩ hR) ⟨w_Pc.blind, va_recv hK hP hcl he, fun U hU hW => ⟨rfl, by rw [hU], by rw [hU]; exact hP, va_K.moved hW.alike hK, hD.weaken (fun _ _ _ _ => trivial), w_NW.warm hW hN⟩⟩ rfl hna hl.1 hst (lv_room hW) dd ⟨h1, h2⟩) hP hD hS hA (fun H1 locs1 hP1 hD1 hS1 => k1 h1 h2 H1 locs1 ls hP1 hD1 hS1 hl)
theorem r_callS (hC : w_C l g y yN c1 mL ret d av ws ov ws') (hM : w_MS yN c1 mL ret na) (wl : Cond.methodLink own idx yN ∈ UW) (hZ : w_Is l g y R cc own nL Z) (hna : av.length = na) (hR : d + 1 ≤ R.frames ∧ 8 + (mL + 11) + 34 * d ≤ R.locals) (hst : st = av.reverse ++ rest) (hW : (rest.map fun v => v.category).sum ≤ 8) (dd : decode cc pc = .ok (.invokestatic idx, 3)) (k1 : Z k n ws' (pc + 3) lv (ov.toList ++ rest)) : Z k n ws pc lv st := by
  obtain ⟨p, e, s, m, args, below, meth, c, A, Q, ⟨hx, hb, hml, hown, hts, hK, hA, hN⟩, hi⟩ := hZ
  rw [hi] at k1 ⊢
  obtain ⟨wi, wini, wc, hdd⟩ := hM
  intro h1 h2 H locs ls hP hD hS hl
  refine w_call (va_runS (As := av) (rest := rest) ⟨hx, hb, hml, hown, hts⟩ (hC H.size) (va_cwS na hts (show GoodIn UW (va_wsS own idx yN (.code yN c1 mL ret :: UW)) from uw_cons wl (uw_cons wi (uw_cons wini (w_uw yN c1 mL ret wc)))) rfl rfl rfl hdd hR) ⟨w_Pc.blind, fun U hU hW => ⟨rfl, by rw [hU], by rw [hU]; exact hP, va_K.moved hW.alike hK, hD.weaken (fun _ _ _ _ => trivial), w_NW.warm hW hN⟩⟩ rfl hna hl.1 hst (lv_room hW) dd ⟨h1, h2⟩) hP hD hS hA (fun H1 locs1 hP1 hD1 hS1 => k1 h1 h2 H1 locs1 ls hP1 hD1 hS1 hl)
theorem r_callSN {host : String} (hC : w_C l g y yN c1 mL ret d av ws ov ws') (hM : w_MS yN c1 mL ret na) (wl : ∀ s, w_NW s → va_Nw (.methodLinkNest own idx yN host) s) (hZ : w_Is l g y R cc own nL Z) (hna : av.length = na) (hR : d + 1 ≤ R.frames ∧ 8 + (mL + 11) + 34 * d ≤ R.locals) (hst : st = av.reverse ++ rest) (hW : (rest.map fun v => v.category).sum ≤ 8) (dd : decode cc pc = .ok (.invokestatic idx, 3)) (k1 : Z k n ws' (pc + 3) lv (ov.toList ++ rest)) : Z k n ws pc lv st := by
  obtain ⟨p, e, s, m, args, below, meth, c, A, Q, ⟨hx, hb, hml, hown, hts, hK, hA, hN⟩, hi⟩ := hZ
  rw [hi] at k1 ⊢
  obtain ⟨wi, wini, wc, hdd⟩ := hM
  intro h1 h2 H locs ls hP hD hS hl
  refine w_call (va_runSN (As := av) (rest := rest) ⟨hx, hb, hml, hown, hts⟩ (hC H.size) ⟨va_cnB na hts (w_uw yN c1 mL ret wc) rfl rfl rfl (wl s hN) (hts _ wini) hdd hR, hts _ wi, trivial⟩ ⟨w_Pc.blind, fun U hU hW => ⟨rfl, by rw [hU], by rw [hU]; exact hP, va_K.moved hW.alike hK, hD.weaken (fun _ _ _ _ => trivial), w_NW.warm hW hN⟩⟩ rfl hna hl.1 hst (lv_room hW) dd ⟨h1, h2⟩) hP hD hS hA (fun H1 locs1 hP1 hD1 hS1 => k1 h1 h2 H1 locs1 ls hP1 hD1 hS1 hl)
theorem w_body {lv0 : List (Nat × Value)} {Qr : (Nat → Nat → va_W → Nat → List (Nat × Value) → List Value → Prop) → Prop} (hpl : plainName yN.cls = true) (hsl : (lg_sl av).length ≤ mL) (hlv : lv_args 0 av = lv0)
    (hret : ∀ (p : Program) (e : Env) (s : State) (m : MethodId) (args : Array Value) (below : List Frame) (meth : Method) (c : Code), p.tables.exec = Jvm.exec → c.code = c1 → meth.sig.returnType = ret → meth.locks = false → ∀ Z, (∀ k n ws2 pc lv st, (Z k n ws2 pc lv st ↔ (k ≤ (w_rm d).cells → n ≤ (w_rm d).slots → ∀ (H : Heap) (locs : List Loc) (ls : Array Slot), va_P g vwCl ws2 H → va_D (va_A ws s.heap.size) ws2 → va_S (va_A ws s.heap.size) s.heap H locs → lv_has ls mL lv → W p l e (w_rm d) s m args below meth c H locs k n (MQ below (w_Q g y ws s.heap.size ov ws') args s 0 0 (va_A ws s.heap.size)) (F0 m pc ls st)))) → va_K g vwCl (w_ty y) s → Qr Z)
    (body : ∀ Z, w_Is l g y (w_rm d) c1 yN.cls mL Z → Qr Z → Z 0 0 ws 0 lv0 []) : w_C l g y yN c1 mL ret d av ws ov ws' := by
  intro sz
  refine Met.ofW (cc := c1) (maxL := mL) (ret := ret) hpl rfl ?_
  intro p e s m args below meth c s₁ B hml hv
  obtain ⟨rfl, hsz, hP, hK, hD0, hN⟩ := hv
  subst hsz
  have hts := atoms_spec (ws := .code yN c1 mL ret :: UW) B.pre
  have h := body (fun k n ws2 pc lv st => (k ≤ (w_rm d).cells → n ≤ (w_rm d).slots → ∀ (H : Heap) (locs : List Loc) (ls : Array Slot), va_P g vwCl ws2 H → va_D (va_A ws s.heap.size) ws2 → va_S (va_A ws s.heap.size) s.heap H locs → lv_has ls mL lv → W p l e (w_rm d) s m av.toArray below meth c H locs k n (MQ below (w_Q g y ws s.heap.size ov ws') av.toArray s 0 0 (va_A ws s.heap.size)) (F0 m pc ls st)))
    ⟨p, e, s, m, av.toArray, below, meth, c, _, _, ⟨B.exec, B.bytes, hml, findClass_of_methodNamed B.named, fun w hw => hts w (List.mem_cons_of_mem _ hw), hK, fun q h => Or.inr h, hN⟩, fun _ _ _ _ _ _ => Iff.rfl⟩
    (hret p e s m av.toArray below meth c B.exec B.bytes B.returns B.notSynchronized _ (fun _ _ _ _ _ _ => Iff.rfl) hK)
  have hl := lv_entry av (n := mL) hsl
  rw [lg_entry_eq]
  rw [hlv] at hl
  exact h (Nat.zero_le _) (Nat.zero_le _) s.heap [] _ hP (hD0.self) va_S.rf hl
theorem w_ofI {r : Int32} {ty : FieldType} {lv0 : List (Nat × Value)} (hpl : plainName yN.cls = true) (hsl : (lg_sl av).length ≤ mL) (hlv : lv_args 0 av = lv0) (hn : narrow ty (.int r) = .int r)
    (body : ∀ Z, w_Is l g y (w_rm d) c1 yN.cls mL Z → (∀ ws2 r2 pc lv, decode c1 pc = .ok (.ireturn, 1) → r2 = r → ws2 = ws' → Z 0 0 ws2 pc lv [.int r2]) → Z 0 0 ws 0 lv0 []) : w_C l g y yN c1 mL (some ty) d av ws (some (.int r)) ws' := by
  refine w_body (Qr := fun Z => ∀ ws2 r2 pc lv, decode c1 pc = .ok (.ireturn, 1) → r2 = r → ws2 = ws' → Z 0 0 ws2 pc lv [.int r2]) hpl hsl hlv ?_ body
  intro p e s m args below meth c hx hb hr hlo Z hi hK ws2 r2 pc lv dd e1 e2
  subst e1; subst e2
  rw [hi]
  intro _ _ H locs ls hP hD hS hl
  exact W.zret hx hb hr hn (fun t ht hW => ⟨⟨rfl, by rw [ht]; exact hP, va_K.moved hW.alike hK, hD⟩, hS.F ht⟩) hS.2.2 dd hlo
theorem w_ofV {lv0 : List (Nat × Value)} (hpl : plainName yN.cls = true) (hsl : (lg_sl av).length ≤ mL) (hlv : lv_args 0 av = lv0)
    (body : ∀ Z, w_Is l g y (w_rm d) c1 yN.cls mL Z → (∀ ws2 pc lv, decode c1 pc = .ok (.return_, 1) → ws2 = ws' → Z 0 0 ws2 pc lv []) → Z 0 0 ws 0 lv0 []) : w_C l g y yN c1 mL none d av ws none ws' := by
  refine w_body (Qr := fun Z => ∀ ws2 pc lv, decode c1 pc = .ok (.return_, 1) → ws2 = ws' → Z 0 0 ws2 pc lv []) hpl hsl hlv ?_ body
  intro p e s m args below meth c hx hb hr hlo Z hi hK ws2 pc lv dd e2
  subst e2
  rw [hi]
  intro _ _ H locs ls hP hD hS hl
  exact W.vret hx hb hr (fun t ht hW => ⟨⟨rfl, by rw [ht]; exact hP, va_K.moved hW.alike hK, hD⟩, hS.F ht⟩) hS.2.2 dd hlo
theorem w_ofL {r : Int64} {lv0 : List (Nat × Value)} (hpl : plainName yN.cls = true) (hsl : (lg_sl av).length ≤ mL) (hlv : lv_args 0 av = lv0)
    (body : ∀ Z, w_Is l g y (w_rm d) c1 yN.cls mL Z → (∀ ws2 r2 pc lv, decode c1 pc = .ok (.lreturn, 1) → r2 = r → ws2 = ws' → Z 0 0 ws2 pc lv [.long r2]) → Z 0 0 ws 0 lv0 []) : w_C l g y yN c1 mL (some .long) d av ws (some (.long r)) ws' := by
  refine w_body (Qr := fun Z => ∀ ws2 r2 pc lv, decode c1 pc = .ok (.lreturn, 1) → r2 = r → ws2 = ws' → Z 0 0 ws2 pc lv [.long r2]) hpl hsl hlv ?_ body
  intro p e s m args below meth c hx hb hr hlo Z hi hK ws2 r2 pc lv dd e1 e2
  subst e1; subst e2
  rw [hi]
  intro _ _ H locs ls hP hD hS hl
  exact W.lret hx hb hr (fun t ht hW => ⟨⟨rfl, by rw [ht]; exact hP, va_K.moved hW.alike hK, hD⟩, hS.F ht⟩) hS.2.2 dd hlo
end WC
section WR
variable {l : Launch} {g : va_G} {y : Nat → ClassId} {R : Room} {cc : ByteArray} {own : String} {nL : Nat} {Z : Nat → Nat → va_W → Nat → List (Nat × Value) → List Value → Prop} {k n pc : Nat} {ws : va_W} {lv : List (Nat × Value)} {st : List Value}
theorem r_iconst (pc2 : Nat) (hZ : w_Is l g y R cc own nL Z) {z : Int} {v : Int32} (dd : decode cc pc = .ok (.iconst z, 1)) (hp : pc + 1 = pc2) (hv : Int32.ofInt z = v) (k1 : Z k n ws pc2 lv (.int v :: st)) : Z k n ws pc lv (st) := by
  obtain ⟨p, e, s, m, args, below, meth, c, A, Q, ⟨hx, hb, hml, hown, hts, hK, hA, hN⟩, hi⟩ := hZ
  subst hp
  rw [hi] at k1 ⊢
  exact fun h1 h2 H locs ls hP hD hS hl => lv_iconst hx hb dd hv (k1 h1 h2 H locs ls hP hD hS hl)
theorem r_bipush (pc2 : Nat) (hZ : w_Is l g y R cc own nL Z) {z : Int} {v : Int32} (dd : decode cc pc = .ok (.bipush z, 2)) (hp : pc + 2 = pc2) (hv : (Int8.ofInt z).toInt32 = v) (k1 : Z k n ws pc2 lv (.int v :: st)) : Z k n ws pc lv (st) := by
  obtain ⟨p, e, s, m, args, below, meth, c, A, Q, ⟨hx, hb, hml, hown, hts, hK, hA, hN⟩, hi⟩ := hZ
  subst hp
  rw [hi] at k1 ⊢
  exact fun h1 h2 H locs ls hP hD hS hl => lv_bipush hx hb dd hv (k1 h1 h2 H locs ls hP hD hS hl)
theorem r_sipush (pc2 : Nat) (hZ : w_Is l g y R cc own nL Z) {z : Int} {v : Int32} (dd : decode cc pc = .ok (.sipush z, 3)) (hp : pc + 3 = pc2) (hv : (Int16.ofInt z).toInt32 = v) (k1 : Z k n ws pc2 lv (.int v :: st)) : Z k n ws pc lv (st) := by
  obtain ⟨p, e, s, m, args, below, meth, c, A, Q, ⟨hx, hb, hml, hown, hts, hK, hA, hN⟩, hi⟩ := hZ
  subst hp
  rw [hi] at k1 ⊢
  exact fun h1 h2 H locs ls hP hD hS hl => lv_sipush hx hb dd hv (k1 h1 h2 H locs ls hP hD hS hl)
theorem r_lconst (pc2 : Nat) (hZ : w_Is l g y R cc own nL Z) {z : Fin 2} {v : Int64} (dd : decode cc pc = .ok (.lconst z, 1)) (hp : pc + 1 = pc2) (hv : Int64.ofNat (z : Nat) = v) (k1 : Z k n ws pc2 lv (.long v :: st)) : Z k n ws pc lv (st) := by
  obtain ⟨p, e, s, m, args, below, meth, c, A, Q, ⟨hx, hb, hml, hown, hts, hK, hA, hN⟩, hi⟩ := hZ
  subst hp
  rw [hi] at k1 ⊢
  exact fun h1 h2 H locs ls hP hD hS hl => lv_lconst hx hb dd hv (k1 h1 h2 H locs ls hP hD hS hl)
theorem r_ldc2 (pc2 : Nat) (hZ : w_Is l g y R cc own nL Z) {ix : Nat} {v : Int64} (dd : decode cc pc = .ok (.ldc2_w ix, 3)) (hp : pc + 3 = pc2) (wk : Cond.constantLong own ix v ∈ UW) (k1 : Z k n ws pc2 lv (.long v :: st)) : Z k n ws pc lv (st) := by
  obtain ⟨p, e, s, m, args, below, meth, c, A, Q, ⟨hx, hb, hml, hown, hts, hK, hA, hN⟩, hi⟩ := hZ
  subst hp
  rw [hi] at k1 ⊢
  exact fun h1 h2 H locs ls hP hD hS hl => lv_ldc2 hx hb hown (hts _ wk) dd  (k1 h1 h2 H locs ls hP hD hS hl)
theorem r_iload_n (pc2 : Nat) (hZ : w_Is l g y R cc own nL Z) (j : Nat) {q : Fin 4} {i : Nat} {x : Int32} (dd : decode cc pc = .ok (.iload_n q, 1)) (hp : pc + 1 = pc2) (hq : (q : Nat) = i) (hj : lv[j]? = some (i, .int x)) (k1 : Z k n ws pc2 lv (.int x :: st)) : Z k n ws pc lv (st) := by
  obtain ⟨p, e, s, m, args, below, meth, c, A, Q, ⟨hx, hb, hml, hown, hts, hK, hA, hN⟩, hi⟩ := hZ
  subst hp
  rw [hi] at k1 ⊢
  exact fun h1 h2 H locs ls hP hD hS hl => lv_iload_n hx hb dd hq (lv_at hl j hj) (k1 h1 h2 H locs ls hP hD hS hl)
theorem r_iload (pc2 : Nat) (hZ : w_Is l g y R cc own nL Z) (j : Nat) {i : Nat} {x : Int32} (dd : decode cc pc = .ok (.iload i, 2)) (hp : pc + 2 = pc2) (hj : lv[j]? = some (i, .int x)) (k1 : Z k n ws pc2 lv (.int x :: st)) : Z k n ws pc lv (st) := by
  obtain ⟨p, e, s, m, args, below, meth, c, A, Q, ⟨hx, hb, hml, hown, hts, hK, hA, hN⟩, hi⟩ := hZ
  subst hp
  rw [hi] at k1 ⊢
  exact fun h1 h2 H locs ls hP hD hS hl => lv_iload hx hb dd (lv_at hl j hj) (k1 h1 h2 H locs ls hP hD hS hl)
theorem r_lload_n (pc2 : Nat) (hZ : w_Is l g y R cc own nL Z) (j : Nat) {q : Fin 4} {i : Nat} {x : Int64} (dd : decode cc pc = .ok (.lload_n q, 1)) (hp : pc + 1 = pc2) (hq : (q : Nat) = i) (hj : lv[j]? = some (i, .long x)) (k1 : Z k n ws pc2 lv (.long x :: st)) : Z k n ws pc lv (st) := by
  obtain ⟨p, e, s, m, args, below, meth, c, A, Q, ⟨hx, hb, hml, hown, hts, hK, hA, hN⟩, hi⟩ := hZ
  subst hp
  rw [hi] at k1 ⊢
  exact fun h1 h2 H locs ls hP hD hS hl => lv_lload_n hx hb dd hq (lv_at hl j hj) (k1 h1 h2 H locs ls hP hD hS hl)
theorem r_lload (pc2 : Nat) (hZ : w_Is l g y R cc own nL Z) (j : Nat) {i : Nat} {x : Int64} (dd : decode cc pc = .ok (.lload i, 2)) (hp : pc + 2 = pc2) (hj : lv[j]? = some (i, .long x)) (k1 : Z k n ws pc2 lv (.long x :: st)) : Z k n ws pc lv (st) := by
  obtain ⟨p, e, s, m, args, below, meth, c, A, Q, ⟨hx, hb, hml, hown, hts, hK, hA, hN⟩, hi⟩ := hZ
  subst hp
  rw [hi] at k1 ⊢
  exact fun h1 h2 H locs ls hP hD hS hl => lv_lload hx hb dd (lv_at hl j hj) (k1 h1 h2 H locs ls hP hD hS hl)
theorem r_aload_n (pc2 : Nat) (hZ : w_Is l g y R cc own nL Z) (j : Nat) {q : Fin 4} {i : Nat} {x : Nat} (dd : decode cc pc = .ok (.aload_n q, 1)) (hp : pc + 1 = pc2) (hq : (q : Nat) = i) (hj : lv[j]? = some (i, .ref x)) (k1 : Z k n ws pc2 lv (.ref x :: st)) : Z k n ws pc lv (st) := by
  obtain ⟨p, e, s, m, args, below, meth, c, A, Q, ⟨hx, hb, hml, hown, hts, hK, hA, hN⟩, hi⟩ := hZ
  subst hp
  rw [hi] at k1 ⊢
  exact fun h1 h2 H locs ls hP hD hS hl => lv_aload_n hx hb dd hq (lv_at hl j hj) (k1 h1 h2 H locs ls hP hD hS hl)
theorem r_aload (pc2 : Nat) (hZ : w_Is l g y R cc own nL Z) (j : Nat) {i : Nat} {x : Nat} (dd : decode cc pc = .ok (.aload i, 2)) (hp : pc + 2 = pc2) (hj : lv[j]? = some (i, .ref x)) (k1 : Z k n ws pc2 lv (.ref x :: st)) : Z k n ws pc lv (st) := by
  obtain ⟨p, e, s, m, args, below, meth, c, A, Q, ⟨hx, hb, hml, hown, hts, hK, hA, hN⟩, hi⟩ := hZ
  subst hp
  rw [hi] at k1 ⊢
  exact fun h1 h2 H locs ls hP hD hS hl => lv_aload hx hb dd (lv_at hl j hj) (k1 h1 h2 H locs ls hP hD hS hl)
theorem r_iadd (pc2 : Nat) (hZ : w_Is l g y R cc own nL Z) {a b : Int32} (dd : decode cc pc = .ok (.iadd, 1)) (hp : pc + 1 = pc2)  (k1 : Z k n ws pc2 lv (.int (a + b) :: st)) : Z k n ws pc lv (.int b :: .int a :: st) := by
  obtain ⟨p, e, s, m, args, below, meth, c, A, Q, ⟨hx, hb, hml, hown, hts, hK, hA, hN⟩, hi⟩ := hZ
  subst hp
  rw [hi] at k1 ⊢
  exact fun h1 h2 H locs ls hP hD hS hl => lv_iadd hx hb dd  (k1 h1 h2 H locs ls hP hD hS hl)
theorem r_isub (pc2 : Nat) (hZ : w_Is l g y R cc own nL Z) {a b : Int32} (dd : decode cc pc = .ok (.isub, 1)) (hp : pc + 1 = pc2)  (k1 : Z k n ws pc2 lv (.int (a - b) :: st)) : Z k n ws pc lv (.int b :: .int a :: st) := by
  obtain ⟨p, e, s, m, args, below, meth, c, A, Q, ⟨hx, hb, hml, hown, hts, hK, hA, hN⟩, hi⟩ := hZ
  subst hp
  rw [hi] at k1 ⊢
  exact fun h1 h2 H locs ls hP hD hS hl => lv_isub hx hb dd  (k1 h1 h2 H locs ls hP hD hS hl)
theorem r_imul (pc2 : Nat) (hZ : w_Is l g y R cc own nL Z) {a b : Int32} (dd : decode cc pc = .ok (.imul, 1)) (hp : pc + 1 = pc2)  (k1 : Z k n ws pc2 lv (.int (a * b) :: st)) : Z k n ws pc lv (.int b :: .int a :: st) := by
  obtain ⟨p, e, s, m, args, below, meth, c, A, Q, ⟨hx, hb, hml, hown, hts, hK, hA, hN⟩, hi⟩ := hZ
  subst hp
  rw [hi] at k1 ⊢
  exact fun h1 h2 H locs ls hP hD hS hl => lv_imul hx hb dd  (k1 h1 h2 H locs ls hP hD hS hl)
theorem r_iand (pc2 : Nat) (hZ : w_Is l g y R cc own nL Z) {a b : Int32} (dd : decode cc pc = .ok (.iand, 1)) (hp : pc + 1 = pc2)  (k1 : Z k n ws pc2 lv (.int (a &&& b) :: st)) : Z k n ws pc lv (.int b :: .int a :: st) := by
  obtain ⟨p, e, s, m, args, below, meth, c, A, Q, ⟨hx, hb, hml, hown, hts, hK, hA, hN⟩, hi⟩ := hZ
  subst hp
  rw [hi] at k1 ⊢
  exact fun h1 h2 H locs ls hP hD hS hl => lv_iand hx hb dd  (k1 h1 h2 H locs ls hP hD hS hl)
theorem r_ior (pc2 : Nat) (hZ : w_Is l g y R cc own nL Z) {a b : Int32} (dd : decode cc pc = .ok (.ior, 1)) (hp : pc + 1 = pc2)  (k1 : Z k n ws pc2 lv (.int (a ||| b) :: st)) : Z k n ws pc lv (.int b :: .int a :: st) := by
  obtain ⟨p, e, s, m, args, below, meth, c, A, Q, ⟨hx, hb, hml, hown, hts, hK, hA, hN⟩, hi⟩ := hZ
  subst hp
  rw [hi] at k1 ⊢
  exact fun h1 h2 H locs ls hP hD hS hl => lv_ior hx hb dd  (k1 h1 h2 H locs ls hP hD hS hl)
theorem r_ixor (pc2 : Nat) (hZ : w_Is l g y R cc own nL Z) {a b : Int32} (dd : decode cc pc = .ok (.ixor, 1)) (hp : pc + 1 = pc2)  (k1 : Z k n ws pc2 lv (.int (a ^^^ b) :: st)) : Z k n ws pc lv (.int b :: .int a :: st) := by
  obtain ⟨p, e, s, m, args, below, meth, c, A, Q, ⟨hx, hb, hml, hown, hts, hK, hA, hN⟩, hi⟩ := hZ
  subst hp
  rw [hi] at k1 ⊢
  exact fun h1 h2 H locs ls hP hD hS hl => lv_ixor hx hb dd  (k1 h1 h2 H locs ls hP hD hS hl)
theorem r_ineg (pc2 : Nat) (hZ : w_Is l g y R cc own nL Z) {a : Int32} (dd : decode cc pc = .ok (.ineg, 1)) (hp : pc + 1 = pc2)  (k1 : Z k n ws pc2 lv (.int (-a) :: st)) : Z k n ws pc lv (.int a :: st) := by
  obtain ⟨p, e, s, m, args, below, meth, c, A, Q, ⟨hx, hb, hml, hown, hts, hK, hA, hN⟩, hi⟩ := hZ
  subst hp
  rw [hi] at k1 ⊢
  exact fun h1 h2 H locs ls hP hD hS hl => lv_ineg hx hb dd  (k1 h1 h2 H locs ls hP hD hS hl)
theorem r_ladd (pc2 : Nat) (hZ : w_Is l g y R cc own nL Z) {a b : Int64} (dd : decode cc pc = .ok (.ladd, 1)) (hp : pc + 1 = pc2)  (k1 : Z k n ws pc2 lv (.long (a + b) :: st)) : Z k n ws pc lv (.long b :: .long a :: st) := by
  obtain ⟨p, e, s, m, args, below, meth, c, A, Q, ⟨hx, hb, hml, hown, hts, hK, hA, hN⟩, hi⟩ := hZ
  subst hp
  rw [hi] at k1 ⊢
  exact fun h1 h2 H locs ls hP hD hS hl => lv_ladd hx hb dd  (k1 h1 h2 H locs ls hP hD hS hl)
theorem r_lsub (pc2 : Nat) (hZ : w_Is l g y R cc own nL Z) {a b : Int64} (dd : decode cc pc = .ok (.lsub, 1)) (hp : pc + 1 = pc2)  (k1 : Z k n ws pc2 lv (.long (a - b) :: st)) : Z k n ws pc lv (.long b :: .long a :: st) := by
  obtain ⟨p, e, s, m, args, below, meth, c, A, Q, ⟨hx, hb, hml, hown, hts, hK, hA, hN⟩, hi⟩ := hZ
  subst hp
  rw [hi] at k1 ⊢
  exact fun h1 h2 H locs ls hP hD hS hl => lv_lsub hx hb dd  (k1 h1 h2 H locs ls hP hD hS hl)
theorem r_land (pc2 : Nat) (hZ : w_Is l g y R cc own nL Z) {a b : Int64} (dd : decode cc pc = .ok (.land, 1)) (hp : pc + 1 = pc2)  (k1 : Z k n ws pc2 lv (.long (a &&& b) :: st)) : Z k n ws pc lv (.long b :: .long a :: st) := by
  obtain ⟨p, e, s, m, args, below, meth, c, A, Q, ⟨hx, hb, hml, hown, hts, hK, hA, hN⟩, hi⟩ := hZ
  subst hp
  rw [hi] at k1 ⊢
  exact fun h1 h2 H locs ls hP hD hS hl => lv_land hx hb dd  (k1 h1 h2 H locs ls hP hD hS hl)
theorem r_lor (pc2 : Nat) (hZ : w_Is l g y R cc own nL Z) {a b : Int64} (dd : decode cc pc = .ok (.lor, 1)) (hp : pc + 1 = pc2)  (k1 : Z k n ws pc2 lv (.long (a ||| b) :: st)) : Z k n ws pc lv (.long b :: .long a :: st) := by
  obtain ⟨p, e, s, m, args, below, meth, c, A, Q, ⟨hx, hb, hml, hown, hts, hK, hA, hN⟩, hi⟩ := hZ
  subst hp
  rw [hi] at k1 ⊢
  exact fun h1 h2 H locs ls hP hD hS hl => lv_lor hx hb dd  (k1 h1 h2 H locs ls hP hD hS hl)
theorem r_lneg (pc2 : Nat) (hZ : w_Is l g y R cc own nL Z) {a : Int64} (dd : decode cc pc = .ok (.lneg, 1)) (hp : pc + 1 = pc2)  (k1 : Z k n ws pc2 lv (.long (-a) :: st)) : Z k n ws pc lv (.long a :: st) := by
  obtain ⟨p, e, s, m, args, below, meth, c, A, Q, ⟨hx, hb, hml, hown, hts, hK, hA, hN⟩, hi⟩ := hZ
  subst hp
  rw [hi] at k1 ⊢
  exact fun h1 h2 H locs ls hP hD hS hl => lv_lneg hx hb dd  (k1 h1 h2 H locs ls hP hD hS hl)
theorem r_ishl (pc2 : Nat) (hZ : w_Is l g y R cc own nL Z) {a b : Int32} (dd : decode cc pc = .ok (.ishl, 1)) (hp : pc + 1 = pc2)  (k1 : Z k n ws pc2 lv (.int (a <<< (b &&& 31)) :: st)) : Z k n ws pc lv (.int b :: .int a :: st) := by
  obtain ⟨p, e, s, m, args, below, meth, c, A, Q, ⟨hx, hb, hml, hown, hts, hK, hA, hN⟩, hi⟩ := hZ
  subst hp
  rw [hi] at k1 ⊢
  exact fun h1 h2 H locs ls hP hD hS hl => lv_ishl hx hb dd  (k1 h1 h2 H locs ls hP hD hS hl)
theorem r_ishr (pc2 : Nat) (hZ : w_Is l g y R cc own nL Z) {a b : Int32} (dd : decode cc pc = .ok (.ishr, 1)) (hp : pc + 1 = pc2)  (k1 : Z k n ws pc2 lv (.int (a >>> (b &&& 31)) :: st)) : Z k n ws pc lv (.int b :: .int a :: st) := by
  obtain ⟨p, e, s, m, args, below, meth, c, A, Q, ⟨hx, hb, hml, hown, hts, hK, hA, hN⟩, hi⟩ := hZ
  subst hp
  rw [hi] at k1 ⊢
  exact fun h1 h2 H locs ls hP hD hS hl => lv_ishr hx hb dd  (k1 h1 h2 H locs ls hP hD hS hl)
theorem r_iushr (pc2 : Nat) (hZ : w_Is l g y R cc own nL Z) {a b : Int32} (dd : decode cc pc = .ok (.iushr, 1)) (hp : pc + 1 = pc2)  (k1 : Z k n ws pc2 lv (.int ((a.toUInt32 >>> (b.toUInt32 &&& Int32.toUInt32 31)).toInt32) :: st)) : Z k n ws pc lv (.int b :: .int a :: st) := by
  obtain ⟨p, e, s, m, args, below, meth, c, A, Q, ⟨hx, hb, hml, hown, hts, hK, hA, hN⟩, hi⟩ := hZ
  subst hp
  rw [hi] at k1 ⊢
  exact fun h1 h2 H locs ls hP hD hS hl => lv_iushr hx hb dd rfl (k1 h1 h2 H locs ls hP hD hS hl)
theorem r_lshl (pc2 : Nat) (hZ : w_Is l g y R cc own nL Z) {a : Int64} {b : Int32} (dd : decode cc pc = .ok (.lshl, 1)) (hp : pc + 1 = pc2)  (k1 : Z k n ws pc2 lv (.long (a <<< (b.toInt64 &&& 63)) :: st)) : Z k n ws pc lv (.int b :: .long a :: st) := by
  obtain ⟨p, e, s, m, args, below, meth, c, A, Q, ⟨hx, hb, hml, hown, hts, hK, hA, hN⟩, hi⟩ := hZ
  subst hp
  rw [hi] at k1 ⊢
  exact fun h1 h2 H locs ls hP hD hS hl => lv_lshl hx hb dd rfl (k1 h1 h2 H locs ls hP hD hS hl)
theorem r_idiv (pc2 : Nat) (hZ : w_Is l g y R cc own nL Z) {a b : Int32} (dd : decode cc pc = .ok (.idiv, 1)) (hp : pc + 1 = pc2) (hne : ¬ b = 0) (k1 : Z k n ws pc2 lv (.int (a / b) :: st)) : Z k n ws pc lv (.int b :: .int a :: st) := by
  obtain ⟨p, e, s, m, args, below, meth, c, A, Q, ⟨hx, hb, hml, hown, hts, hK, hA, hN⟩, hi⟩ := hZ
  subst hp
  rw [hi] at k1 ⊢
  exact fun h1 h2 H locs ls hP hD hS hl => lv_idiv hx hb dd hne (k1 h1 h2 H locs ls hP hD hS hl)
theorem r_i2l (pc2 : Nat) (hZ : w_Is l g y R cc own nL Z) {a : Int32} (dd : decode cc pc = .ok (.i2l, 1)) (hp : pc + 1 = pc2)  (k1 : Z k n ws pc2 lv (.long a.toInt64 :: st)) : Z k n ws pc lv (.int a :: st) := by
  obtain ⟨p, e, s, m, args, below, meth, c, A, Q, ⟨hx, hb, hml, hown, hts, hK, hA, hN⟩, hi⟩ := hZ
  subst hp
  rw [hi] at k1 ⊢
  exact fun h1 h2 H locs ls hP hD hS hl => lv_i2l hx hb dd rfl (k1 h1 h2 H locs ls hP hD hS hl)
theorem r_l2i (pc2 : Nat) (hZ : w_Is l g y R cc own nL Z) {a : Int64} (dd : decode cc pc = .ok (.l2i, 1)) (hp : pc + 1 = pc2)  (k1 : Z k n ws pc2 lv (.int a.toInt32 :: st)) : Z k n ws pc lv (.long a :: st) := by
  obtain ⟨p, e, s, m, args, below, meth, c, A, Q, ⟨hx, hb, hml, hown, hts, hK, hA, hN⟩, hi⟩ := hZ
  subst hp
  rw [hi] at k1 ⊢
  exact fun h1 h2 H locs ls hP hD hS hl => lv_l2i hx hb dd rfl (k1 h1 h2 H locs ls hP hD hS hl)
theorem r_lcmp (pc2 : Nat) (hZ : w_Is l g y R cc own nL Z) {a b : Int64} (dd : decode cc pc = .ok (.lcmp, 1)) (hp : pc + 1 = pc2)  (k1 : Z k n ws pc2 lv (.int (lg_cmp a b) :: st)) : Z k n ws pc lv (.long b :: .long a :: st) := by
  obtain ⟨p, e, s, m, args, below, meth, c, A, Q, ⟨hx, hb, hml, hown, hts, hK, hA, hN⟩, hi⟩ := hZ
  subst hp
  rw [hi] at k1 ⊢
  exact fun h1 h2 H locs ls hP hD hS hl => W.lcmp hx hb dd  (k1 h1 h2 H locs ls hP hD hS hl)
theorem r_dup (pc2 : Nat) (hZ : w_Is l g y R cc own nL Z) {v : Value} (dd : decode cc pc = .ok (.dup, 1)) (hp : pc + 1 = pc2) (hv : v.category = 1) (k1 : Z k n ws pc2 lv (v :: v :: st)) : Z k n ws pc lv (v :: st) := by
  obtain ⟨p, e, s, m, args, below, meth, c, A, Q, ⟨hx, hb, hml, hown, hts, hK, hA, hN⟩, hi⟩ := hZ
  subst hp
  rw [hi] at k1 ⊢
  exact fun h1 h2 H locs ls hP hD hS hl => lv_dup hx hb dd hv (k1 h1 h2 H locs ls hP hD hS hl)
theorem r_pop (pc2 : Nat) (hZ : w_Is l g y R cc own nL Z) {v : Value} (dd : decode cc pc = .ok (.pop, 1)) (hp : pc + 1 = pc2) (hv : v.category = 1) (k1 : Z k n ws pc2 lv (st)) : Z k n ws pc lv (v :: st) := by
  obtain ⟨p, e, s, m, args, below, meth, c, A, Q, ⟨hx, hb, hml, hown, hts, hK, hA, hN⟩, hi⟩ := hZ
  subst hp
  rw [hi] at k1 ⊢
  exact fun h1 h2 H locs ls hP hD hS hl => lv_pop hx hb dd hv (k1 h1 h2 H locs ls hP hD hS hl)
theorem r_if_eq (tgt pc2 : Nat) (hZ : w_Is l g y R cc own nL Z) {x : Int32} {off : Int} (dd : decode cc pc = .ok (.ifCond .eq off, 3)) (ht : (pc : Int) + off = (tgt : Int)) (hp : pc + 3 = pc2) (kt : x = 0 → Z k n ws tgt lv st) (kf : ¬ (x = 0) → Z k n ws pc2 lv st) : Z k n ws pc lv (.int x :: st) := by
  obtain ⟨p, e, s, m, args, below, meth, c, A, Q, ⟨hx, hb, hml, hown, hts, hK, hA, hN⟩, hi⟩ := hZ
  subst hp
  rw [hi] at kt kf ⊢
  exact fun h1 h2 H locs ls hP hD hS hl => lv_if_eq hx hb dd ht (fun c => kt c h1 h2 H locs ls hP hD hS hl) (fun c => kf c h1 h2 H locs ls hP hD hS hl)
theorem r_icmp_eq (tgt pc2 : Nat) (hZ : w_Is l g y R cc own nL Z) {x yy : Int32} {off : Int} (dd : decode cc pc = .ok (.if_icmp .eq off, 3)) (ht : (pc : Int) + off = (tgt : Int)) (hp : pc + 3 = pc2) (kt : x = yy → Z k n ws tgt lv st) (kf : ¬ (x = yy) → Z k n ws pc2 lv st) : Z k n ws pc lv (.int yy :: .int x :: st) := by
  obtain ⟨p, e, s, m, args, below, meth, c, A, Q, ⟨hx, hb, hml, hown, hts, hK, hA, hN⟩, hi⟩ := hZ
  subst hp
  rw [hi] at kt kf ⊢
  exact fun h1 h2 H locs ls hP hD hS hl => lv_icmp_eq hx hb dd ht (fun c => kt c h1 h2 H locs ls hP hD hS hl) (fun c => kf c h1 h2 H locs ls hP hD hS hl)
theorem r_if_ne (tgt pc2 : Nat) (hZ : w_Is l g y R cc own nL Z) {x : Int32} {off : Int} (dd : decode cc pc = .ok (.ifCond .ne off, 3)) (ht : (pc : Int) + off = (tgt : Int)) (hp : pc + 3 = pc2) (kt : ¬ x = 0 → Z k n ws tgt lv st) (kf : x = 0 → Z k n ws pc2 lv st) : Z k n ws pc lv (.int x :: st) := by
  obtain ⟨p, e, s, m, args, below, meth, c, A, Q, ⟨hx, hb, hml, hown, hts, hK, hA, hN⟩, hi⟩ := hZ
  subst hp
  rw [hi] at kt kf ⊢
  exact fun h1 h2 H locs ls hP hD hS hl => lv_if_ne hx hb dd ht (fun c => kt c h1 h2 H locs ls hP hD hS hl) (fun c => kf c h1 h2 H locs ls hP hD hS hl)
theorem r_icmp_ne (tgt pc2 : Nat) (hZ : w_Is l g y R cc own nL Z) {x yy : Int32} {off : Int} (dd : decode cc pc = .ok (.if_icmp .ne off, 3)) (ht : (pc : Int) + off = (tgt : Int)) (hp : pc + 3 = pc2) (kt : ¬ x = yy → Z k n ws tgt lv st) (kf : x = yy → Z k n ws pc2 lv st) : Z k n ws pc lv (.int yy :: .int x :: st) := by
  obtain ⟨p, e, s, m, args, below, meth, c, A, Q, ⟨hx, hb, hml, hown, hts, hK, hA, hN⟩, hi⟩ := hZ
  subst hp
  rw [hi] at kt kf ⊢
  exact fun h1 h2 H locs ls hP hD hS hl => lv_icmp_ne hx hb dd ht (fun c => kt c h1 h2 H locs ls hP hD hS hl) (fun c => kf c h1 h2 H locs ls hP hD hS hl)
theorem r_if_lt (tgt pc2 : Nat) (hZ : w_Is l g y R cc own nL Z) {x : Int32} {off : Int} (dd : decode cc pc = .ok (.ifCond .lt off, 3)) (ht : (pc : Int) + off = (tgt : Int)) (hp : pc + 3 = pc2) (kt : x < 0 → Z k n ws tgt lv st) (kf : ¬ (x < 0) → Z k n ws pc2 lv st) : Z k n ws pc lv (.int x :: st) := by
  obtain ⟨p, e, s, m, args, below, meth, c, A, Q, ⟨hx, hb, hml, hown, hts, hK, hA, hN⟩, hi⟩ := hZ
  subst hp
  rw [hi] at kt kf ⊢
  exact fun h1 h2 H locs ls hP hD hS hl => lv_if_lt hx hb dd ht (fun c => kt c h1 h2 H locs ls hP hD hS hl) (fun c => kf c h1 h2 H locs ls hP hD hS hl)
theorem r_icmp_lt (tgt pc2 : Nat) (hZ : w_Is l g y R cc own nL Z) {x yy : Int32} {off : Int} (dd : decode cc pc = .ok (.if_icmp .lt off, 3)) (ht : (pc : Int) + off = (tgt : Int)) (hp : pc + 3 = pc2) (kt : x < yy → Z k n ws tgt lv st) (kf : ¬ (x < yy) → Z k n ws pc2 lv st) : Z k n ws pc lv (.int yy :: .int x :: st) := by
  obtain ⟨p, e, s, m, args, below, meth, c, A, Q, ⟨hx, hb, hml, hown, hts, hK, hA, hN⟩, hi⟩ := hZ
  subst hp
  rw [hi] at kt kf ⊢
  exact fun h1 h2 H locs ls hP hD hS hl => lv_icmp_lt hx hb dd ht (fun c => kt c h1 h2 H locs ls hP hD hS hl) (fun c => kf c h1 h2 H locs ls hP hD hS hl)
theorem r_if_ge (tgt pc2 : Nat) (hZ : w_Is l g y R cc own nL Z) {x : Int32} {off : Int} (dd : decode cc pc = .ok (.ifCond .ge off, 3)) (ht : (pc : Int) + off = (tgt : Int)) (hp : pc + 3 = pc2) (kt : 0 ≤ x → Z k n ws tgt lv st) (kf : ¬ (0 ≤ x) → Z k n ws pc2 lv st) : Z k n ws pc lv (.int x :: st) := by
  obtain ⟨p, e, s, m, args, below, meth, c, A, Q, ⟨hx, hb, hml, hown, hts, hK, hA, hN⟩, hi⟩ := hZ
  subst hp
  rw [hi] at kt kf ⊢
  exact fun h1 h2 H locs ls hP hD hS hl => lv_if_ge hx hb dd ht (fun c => kt c h1 h2 H locs ls hP hD hS hl) (fun c => kf c h1 h2 H locs ls hP hD hS hl)
theorem r_icmp_ge (tgt pc2 : Nat) (hZ : w_Is l g y R cc own nL Z) {x yy : Int32} {off : Int} (dd : decode cc pc = .ok (.if_icmp .ge off, 3)) (ht : (pc : Int) + off = (tgt : Int)) (hp : pc + 3 = pc2) (kt : yy ≤ x → Z k n ws tgt lv st) (kf : ¬ (yy ≤ x) → Z k n ws pc2 lv st) : Z k n ws pc lv (.int yy :: .int x :: st) := by
  obtain ⟨p, e, s, m, args, below, meth, c, A, Q, ⟨hx, hb, hml, hown, hts, hK, hA, hN⟩, hi⟩ := hZ
  subst hp
  rw [hi] at kt kf ⊢
  exact fun h1 h2 H locs ls hP hD hS hl => lv_icmp_ge hx hb dd ht (fun c => kt c h1 h2 H locs ls hP hD hS hl) (fun c => kf c h1 h2 H locs ls hP hD hS hl)
theorem r_if_gt (tgt pc2 : Nat) (hZ : w_Is l g y R cc own nL Z) {x : Int32} {off : Int} (dd : decode cc pc = .ok (.ifCond .gt off, 3)) (ht : (pc : Int) + off = (tgt : Int)) (hp : pc + 3 = pc2) (kt : 0 < x → Z k n ws tgt lv st) (kf : ¬ (0 < x) → Z k n ws pc2 lv st) : Z k n ws pc lv (.int x :: st) := by
  obtain ⟨p, e, s, m, args, below, meth, c, A, Q, ⟨hx, hb, hml, hown, hts, hK, hA, hN⟩, hi⟩ := hZ
  subst hp
  rw [hi] at kt kf ⊢
  exact fun h1 h2 H locs ls hP hD hS hl => lv_if_gt hx hb dd ht (fun c => kt c h1 h2 H locs ls hP hD hS hl) (fun c => kf c h1 h2 H locs ls hP hD hS hl)
theorem r_icmp_gt (tgt pc2 : Nat) (hZ : w_Is l g y R cc own nL Z) {x yy : Int32} {off : Int} (dd : decode cc pc = .ok (.if_icmp .gt off, 3)) (ht : (pc : Int) + off = (tgt : Int)) (hp : pc + 3 = pc2) (kt : yy < x → Z k n ws tgt lv st) (kf : ¬ (yy < x) → Z k n ws pc2 lv st) : Z k n ws pc lv (.int yy :: .int x :: st) := by
  obtain ⟨p, e, s, m, args, below, meth, c, A, Q, ⟨hx, hb, hml, hown, hts, hK, hA, hN⟩, hi⟩ := hZ
  subst hp
  rw [hi] at kt kf ⊢
  exact fun h1 h2 H locs ls hP hD hS hl => lv_icmp_gt hx hb dd ht (fun c => kt c h1 h2 H locs ls hP hD hS hl) (fun c => kf c h1 h2 H locs ls hP hD hS hl)
theorem r_if_le (tgt pc2 : Nat) (hZ : w_Is l g y R cc own nL Z) {x : Int32} {off : Int} (dd : decode cc pc = .ok (.ifCond .le off, 3)) (ht : (pc : Int) + off = (tgt : Int)) (hp : pc + 3 = pc2) (kt : x ≤ 0 → Z k n ws tgt lv st) (kf : ¬ (x ≤ 0) → Z k n ws pc2 lv st) : Z k n ws pc lv (.int x :: st) := by
  obtain ⟨p, e, s, m, args, below, meth, c, A, Q, ⟨hx, hb, hml, hown, hts, hK, hA, hN⟩, hi⟩ := hZ
  subst hp
  rw [hi] at kt kf ⊢
  exact fun h1 h2 H locs ls hP hD hS hl => lv_if_le hx hb dd ht (fun c => kt c h1 h2 H locs ls hP hD hS hl) (fun c => kf c h1 h2 H locs ls hP hD hS hl)
theorem r_icmp_le (tgt pc2 : Nat) (hZ : w_Is l g y R cc own nL Z) {x yy : Int32} {off : Int} (dd : decode cc pc = .ok (.if_icmp .le off, 3)) (ht : (pc : Int) + off = (tgt : Int)) (hp : pc + 3 = pc2) (kt : x ≤ yy → Z k n ws tgt lv st) (kf : ¬ (x ≤ yy) → Z k n ws pc2 lv st) : Z k n ws pc lv (.int yy :: .int x :: st) := by
  obtain ⟨p, e, s, m, args, below, meth, c, A, Q, ⟨hx, hb, hml, hown, hts, hK, hA, hN⟩, hi⟩ := hZ
  subst hp
  rw [hi] at kt kf ⊢
  exact fun h1 h2 H locs ls hP hD hS hl => lv_icmp_le hx hb dd ht (fun c => kt c h1 h2 H locs ls hP hD hS hl) (fun c => kf c h1 h2 H locs ls hP hD hS hl)
theorem r_goto (tgt : Nat) (hZ : w_Is l g y R cc own nL Z) {off : Int} (dd : decode cc pc = .ok (.goto off, 3)) (ht : (pc : Int) + off = (tgt : Int)) (k1 : Z k n ws tgt lv st) : Z k n ws pc lv st := by
  obtain ⟨p, e, s, m, args, below, meth, c, A, Q, ⟨hx, hb, hml, hown, hts, hK, hA, hN⟩, hi⟩ := hZ
  rw [hi] at k1 ⊢
  exact fun h1 h2 H locs ls hP hD hS hl => lv_goto hx hb dd ht (k1 h1 h2 H locs ls hP hD hS hl)
def w_ck (lv : List (Nat × Value)) (i j sz : Nat) : Prop := ∀ (j2 : Nat) (q : Nat × Value), lv[j2]? = some q → j2 ≠ j → q.1 ≠ i ∧ ¬ (q.1 + 1 = i ∧ q.2.category = 2) ∧ (sz = 2 → q.1 ≠ i + 1)
def w_ckB : List (Nat × Value) → Nat → Nat → Nat → Bool
  | [], _, _, _ => true
  | q :: l, i, 0, sz => w_ckB l i (l.length + 1) sz
  | q :: l, i, j + 1, sz => (!(q.1 == i) && !(q.1 + 1 == i && q.2.category == 2) && !(sz == 2 && q.1 == i + 1)) && w_ckB l i j sz
theorem w_ckB_all : ∀ (lv : List (Nat × Value)) (i j sz : Nat), w_ckB lv i j sz = true → w_ck lv i j sz
  | [], i, j, sz, _ => fun j2 q h => by simp at h
  | q :: l, i, 0, sz, h => fun j2 q2 h2 hj => by
    cases j2 with
    | zero => exact absurd rfl hj
    | succ j2 =>
      rw [List.getElem?_cons_succ] at h2
      exact w_ckB_all l i (l.length + 1) sz h j2 q2 h2 (by have := (List.getElem?_eq_some_iff.mp h2).1; omega)
  | q :: l, i, j + 1, sz, h => fun j2 q2 h2 hj => by
    simp only [w_ckB, Bool.and_eq_true] at h
    cases j2 with
    | zero =>
      rw [List.getElem?_cons_zero] at h2
      cases h2
      obtain ⟨⟨⟨a1, a2⟩, a3⟩, -⟩ := h
      refine ⟨by simpa using a1, fun ⟨b1, b2⟩ => ?_, fun b1 b2 => ?_⟩
      · simp [b1, b2] at a2
      · simp [b1, b2] at a3
    | succ j2 =>
      rw [List.getElem?_cons_succ] at h2
      exact w_ckB_all l i j sz h.2 j2 q2 h2 (by omega)
theorem w_set {ls : Array Slot} {nL i j sz : Nat} {v : Value} {lv lv1 : List (Nat × Value)} (h : lv_has ls nL lv1) (hin : ∀ q ∈ lv, q.1 ≠ i → ¬ (q.1 + 1 = i ∧ q.2.category = 2) → (sz = 2 → q.1 ≠ i + 1) → q ∈ lv1) (hv : (i, v) ∈ lv1) (hck : w_ckB lv i j sz = true) : lv_has ls nL (lv.set j (i, v)) := by
  refine ⟨h.1, h.2.1, fun q hq => ?_⟩
  obtain ⟨j2, hj2⟩ := List.getElem?_of_mem hq
  have hl : j2 < (lv.set j (i, v)).length := (List.getElem?_eq_some_iff.mp hj2).1
  by_cases e : j = j2
  · subst e
    rw [List.length_set] at hl
    rw [List.getElem?_set_self hl] at hj2
    cases hj2
    exact h.2.2 _ hv
  · rw [List.getElem?_set_ne e] at hj2
    obtain ⟨a1, a2, a3⟩ := w_ckB_all lv i j sz hck j2 q hj2 (fun h => e h.symm)
    exact h.2.2 _ (hin q (List.mem_of_getElem? hj2) a1 a2 a3)
theorem w_add {ls : Array Slot} {nL i sz : Nat} {v : Value} {lv lv1 : List (Nat × Value)} (h : lv_has ls nL lv1) (hin : ∀ q ∈ lv, q.1 ≠ i → ¬ (q.1 + 1 = i ∧ q.2.category = 2) → (sz = 2 → q.1 ≠ i + 1) → q ∈ lv1) (hv : (i, v) ∈ lv1) (hck : w_ckB lv i lv.length sz = true) : lv_has ls nL (lv ++ [(i, v)]) := by
  refine ⟨h.1, h.2.1, fun q hq => ?_⟩
  rcases List.mem_append.mp hq with hq | hq
  · obtain ⟨j2, hj2⟩ := List.getElem?_of_mem hq
    obtain ⟨a1, a2, a3⟩ := w_ckB_all lv i lv.length sz hck j2 q hj2 (Nat.ne_of_lt (List.getElem?_eq_some_iff.mp hj2).1)
    exact h.2.2 _ (hin q hq a1 a2 a3)
  · rw [List.mem_singleton.mp hq]; exact h.2.2 _ hv
theorem w_f1 {lv : List (Nat × Value)} {i : Nat} {v : Value} : ∀ q ∈ lv, q.1 ≠ i → ¬ (q.1 + 1 = i ∧ q.2.category = 2) → (1 = 2 → q.1 ≠ i + 1) → q ∈ (i, v) :: lv.filter (fun q => !(q.1 == i) && !(q.1 + 1 == i && q.2.category == 2)) := fun q hq h1 h2 _ => List.mem_cons_of_mem _ (List.mem_filter.mpr ⟨hq, by
  simp only [Bool.and_eq_true, Bool.not_eq_true', beq_eq_false_iff_ne, ne_eq]
  refine ⟨h1, ?_⟩
  by_cases a : q.1 + 1 = i <;> by_cases b : q.2.category = 2 <;> simp [a, b] <;> exact h2 ⟨a, b⟩⟩)
theorem w_f2 {lv : List (Nat × Value)} {i : Nat} {v : Value} : ∀ q ∈ lv, q.1 ≠ i → ¬ (q.1 + 1 = i ∧ q.2.category = 2) → (2 = 2 → q.1 ≠ i + 1) → q ∈ (i, v) :: lv.filter (fun q => !(q.1 == i) && (!(q.1 == i + 1) && !(q.1 + 1 == i && q.2.category == 2))) := fun q hq h1 h2 h3 => List.mem_cons_of_mem _ (List.mem_filter.mpr ⟨hq, by
  simp only [Bool.and_eq_true, Bool.not_eq_true', beq_eq_false_iff_ne, ne_eq]
  refine ⟨h1, h3 rfl, ?_⟩
  by_cases a : q.1 + 1 = i <;> by_cases b : q.2.category = 2 <;> simp [a, b] <;> exact h2 ⟨a, b⟩⟩)
theorem r_istn (pc2 j : Nat) (lv2 : List (Nat × Value)) (hZ : w_Is l g y R cc own nL Z) {q : Fin 4} {i : Nat} {x : Int32} (dd : decode cc pc = .ok (.istore_n q, 1)) (hq : (q : Nat) = i) (hp : pc + 1 = pc2) (hn : i + 0 < nL) (hck : w_ckB lv i j 1 = true) (hl2 : lv.set j (i, .int x) = lv2) (k1 : Z k n ws pc2 lv2 st) : Z k n ws pc lv (.int x :: st) := by
  obtain ⟨p, e, s, m, args, below, meth, c, A, Q, ⟨hx, hb, hml, hown, hts, hK, hA, hN⟩, hi⟩ := hZ
  subst hp
  subst hl2
  rw [hi] at k1 ⊢
  exact fun h1 h2 H locs ls hP hD hS hl => lv_istore_n hx hb dd hq hl hn rfl (fun ls2 hl2 => k1 h1 h2 H locs ls2 hP hD hS (w_set hl2 w_f1 (List.mem_cons_self) hck))
theorem r_istnN (pc2 : Nat) (lv2 : List (Nat × Value)) (hZ : w_Is l g y R cc own nL Z) {q : Fin 4} {i : Nat} {x : Int32} (dd : decode cc pc = .ok (.istore_n q, 1)) (hq : (q : Nat) = i) (hp : pc + 1 = pc2) (hn : i + 0 < nL) (hck : w_ckB lv i lv.length 1 = true) (hl2 : lv ++ [(i, .int x)] = lv2) (k1 : Z k n ws pc2 lv2 st) : Z k n ws pc lv (.int x :: st) := by
  obtain ⟨p, e, s, m, args, below, meth, c, A, Q, ⟨hx, hb, hml, hown, hts, hK, hA, hN⟩, hi⟩ := hZ
  subst hp
  subst hl2
  rw [hi] at k1 ⊢
  exact fun h1 h2 H locs ls hP hD hS hl => lv_istore_n hx hb dd hq hl hn rfl (fun ls2 hl2 => k1 h1 h2 H locs ls2 hP hD hS (w_add hl2 w_f1 (List.mem_cons_self) hck))
theorem r_ist (pc2 j : Nat) (lv2 : List (Nat × Value)) (hZ : w_Is l g y R cc own nL Z) {q : Fin 4} {i : Nat} {x : Int32} (dd : decode cc pc = .ok (.istore i, 2)) (hp : pc + 2 = pc2) (hn : i + 0 < nL) (hck : w_ckB lv i j 1 = true) (hl2 : lv.set j (i, .int x) = lv2) (k1 : Z k n ws pc2 lv2 st) : Z k n ws pc lv (.int x :: st) := by
  obtain ⟨p, e, s, m, args, below, meth, c, A, Q, ⟨hx, hb, hml, hown, hts, hK, hA, hN⟩, hi⟩ := hZ
  subst hp
  subst hl2
  rw [hi] at k1 ⊢
  exact fun h1 h2 H locs ls hP hD hS hl => lv_istore hx hb dd hl hn rfl (fun ls2 hl2 => k1 h1 h2 H locs ls2 hP hD hS (w_set hl2 w_f1 (List.mem_cons_self) hck))
theorem r_istN (pc2 : Nat) (lv2 : List (Nat × Value)) (hZ : w_Is l g y R cc own nL Z) {q : Fin 4} {i : Nat} {x : Int32} (dd : decode cc pc = .ok (.istore i, 2)) (hp : pc + 2 = pc2) (hn : i + 0 < nL) (hck : w_ckB lv i lv.length 1 = true) (hl2 : lv ++ [(i, .int x)] = lv2) (k1 : Z k n ws pc2 lv2 st) : Z k n ws pc lv (.int x :: st) := by
  obtain ⟨p, e, s, m, args, below, meth, c, A, Q, ⟨hx, hb, hml, hown, hts, hK, hA, hN⟩, hi⟩ := hZ
  subst hp
  subst hl2
  rw [hi] at k1 ⊢
  exact fun h1 h2 H locs ls hP hD hS hl => lv_istore hx hb dd hl hn rfl (fun ls2 hl2 => k1 h1 h2 H locs ls2 hP hD hS (w_add hl2 w_f1 (List.mem_cons_self) hck))
theorem r_lstn (pc2 j : Nat) (lv2 : List (Nat × Value)) (hZ : w_Is l g y R cc own nL Z) {q : Fin 4} {i : Nat} {x : Int64} (dd : decode cc pc = .ok (.lstore_n q, 1)) (hq : (q : Nat) = i) (hp : pc + 1 = pc2) (hn : i + 1 < nL) (hck : w_ckB lv i j 2 = true) (hl2 : lv.set j (i, .long x) = lv2) (k1 : Z k n ws pc2 lv2 st) : Z k n ws pc lv (.long x :: st) := by
  obtain ⟨p, e, s, m, args, below, meth, c, A, Q, ⟨hx, hb, hml, hown, hts, hK, hA, hN⟩, hi⟩ := hZ
  subst hp
  subst hl2
  rw [hi] at k1 ⊢
  exact fun h1 h2 H locs ls hP hD hS hl => lv_lstore_n hx hb dd hq hl hn rfl (fun ls2 hl2 => k1 h1 h2 H locs ls2 hP hD hS (w_set hl2 w_f2 (List.mem_cons_self) hck))
theorem r_lstnN (pc2 : Nat) (lv2 : List (Nat × Value)) (hZ : w_Is l g y R cc own nL Z) {q : Fin 4} {i : Nat} {x : Int64} (dd : decode cc pc = .ok (.lstore_n q, 1)) (hq : (q : Nat) = i) (hp : pc + 1 = pc2) (hn : i + 1 < nL) (hck : w_ckB lv i lv.length 2 = true) (hl2 : lv ++ [(i, .long x)] = lv2) (k1 : Z k n ws pc2 lv2 st) : Z k n ws pc lv (.long x :: st) := by
  obtain ⟨p, e, s, m, args, below, meth, c, A, Q, ⟨hx, hb, hml, hown, hts, hK, hA, hN⟩, hi⟩ := hZ
  subst hp
  subst hl2
  rw [hi] at k1 ⊢
  exact fun h1 h2 H locs ls hP hD hS hl => lv_lstore_n hx hb dd hq hl hn rfl (fun ls2 hl2 => k1 h1 h2 H locs ls2 hP hD hS (w_add hl2 w_f2 (List.mem_cons_self) hck))
theorem r_lst (pc2 j : Nat) (lv2 : List (Nat × Value)) (hZ : w_Is l g y R cc own nL Z) {q : Fin 4} {i : Nat} {x : Int64} (dd : decode cc pc = .ok (.lstore i, 2)) (hp : pc + 2 = pc2) (hn : i + 1 < nL) (hck : w_ckB lv i j 2 = true) (hl2 : lv.set j (i, .long x) = lv2) (k1 : Z k n ws pc2 lv2 st) : Z k n ws pc lv (.long x :: st) := by
  obtain ⟨p, e, s, m, args, below, meth, c, A, Q, ⟨hx, hb, hml, hown, hts, hK, hA, hN⟩, hi⟩ := hZ
  subst hp
  subst hl2
  rw [hi] at k1 ⊢
  exact fun h1 h2 H locs ls hP hD hS hl => lv_lstore hx hb dd hl hn rfl (fun ls2 hl2 => k1 h1 h2 H locs ls2 hP hD hS (w_set hl2 w_f2 (List.mem_cons_self) hck))
theorem r_lstN (pc2 : Nat) (lv2 : List (Nat × Value)) (hZ : w_Is l g y R cc own nL Z) {q : Fin 4} {i : Nat} {x : Int64} (dd : decode cc pc = .ok (.lstore i, 2)) (hp : pc + 2 = pc2) (hn : i + 1 < nL) (hck : w_ckB lv i lv.length 2 = true) (hl2 : lv ++ [(i, .long x)] = lv2) (k1 : Z k n ws pc2 lv2 st) : Z k n ws pc lv (.long x :: st) := by
  obtain ⟨p, e, s, m, args, below, meth, c, A, Q, ⟨hx, hb, hml, hown, hts, hK, hA, hN⟩, hi⟩ := hZ
  subst hp
  subst hl2
  rw [hi] at k1 ⊢
  exact fun h1 h2 H locs ls hP hD hS hl => lv_lstore hx hb dd hl hn rfl (fun ls2 hl2 => k1 h1 h2 H locs ls2 hP hD hS (w_add hl2 w_f2 (List.mem_cons_self) hck))
theorem r_astn (pc2 j : Nat) (lv2 : List (Nat × Value)) (hZ : w_Is l g y R cc own nL Z) {q : Fin 4} {i : Nat} {x : Nat} (dd : decode cc pc = .ok (.astore_n q, 1)) (hq : (q : Nat) = i) (hp : pc + 1 = pc2) (hn : i + 0 < nL) (hck : w_ckB lv i j 1 = true) (hl2 : lv.set j (i, .ref x) = lv2) (k1 : Z k n ws pc2 lv2 st) : Z k n ws pc lv (.ref x :: st) := by
  obtain ⟨p, e, s, m, args, below, meth, c, A, Q, ⟨hx, hb, hml, hown, hts, hK, hA, hN⟩, hi⟩ := hZ
  subst hp
  subst hl2
  rw [hi] at k1 ⊢
  exact fun h1 h2 H locs ls hP hD hS hl => lv_astore_n hx hb dd hq hl hn rfl (fun ls2 hl2 => k1 h1 h2 H locs ls2 hP hD hS (w_set hl2 w_f1 (List.mem_cons_self) hck))
theorem r_astnN (pc2 : Nat) (lv2 : List (Nat × Value)) (hZ : w_Is l g y R cc own nL Z) {q : Fin 4} {i : Nat} {x : Nat} (dd : decode cc pc = .ok (.astore_n q, 1)) (hq : (q : Nat) = i) (hp : pc + 1 = pc2) (hn : i + 0 < nL) (hck : w_ckB lv i lv.length 1 = true) (hl2 : lv ++ [(i, .ref x)] = lv2) (k1 : Z k n ws pc2 lv2 st) : Z k n ws pc lv (.ref x :: st) := by
  obtain ⟨p, e, s, m, args, below, meth, c, A, Q, ⟨hx, hb, hml, hown, hts, hK, hA, hN⟩, hi⟩ := hZ
  subst hp
  subst hl2
  rw [hi] at k1 ⊢
  exact fun h1 h2 H locs ls hP hD hS hl => lv_astore_n hx hb dd hq hl hn rfl (fun ls2 hl2 => k1 h1 h2 H locs ls2 hP hD hS (w_add hl2 w_f1 (List.mem_cons_self) hck))
theorem r_ast (pc2 j : Nat) (lv2 : List (Nat × Value)) (hZ : w_Is l g y R cc own nL Z) {q : Fin 4} {i : Nat} {x : Nat} (dd : decode cc pc = .ok (.astore i, 2)) (hp : pc + 2 = pc2) (hn : i + 0 < nL) (hck : w_ckB lv i j 1 = true) (hl2 : lv.set j (i, .ref x) = lv2) (k1 : Z k n ws pc2 lv2 st) : Z k n ws pc lv (.ref x :: st) := by
  obtain ⟨p, e, s, m, args, below, meth, c, A, Q, ⟨hx, hb, hml, hown, hts, hK, hA, hN⟩, hi⟩ := hZ
  subst hp
  subst hl2
  rw [hi] at k1 ⊢
  exact fun h1 h2 H locs ls hP hD hS hl => lv_astore hx hb dd hl hn rfl (fun ls2 hl2 => k1 h1 h2 H locs ls2 hP hD hS (w_set hl2 w_f1 (List.mem_cons_self) hck))
theorem r_astN (pc2 : Nat) (lv2 : List (Nat × Value)) (hZ : w_Is l g y R cc own nL Z) {q : Fin 4} {i : Nat} {x : Nat} (dd : decode cc pc = .ok (.astore i, 2)) (hp : pc + 2 = pc2) (hn : i + 0 < nL) (hck : w_ckB lv i lv.length 1 = true) (hl2 : lv ++ [(i, .ref x)] = lv2) (k1 : Z k n ws pc2 lv2 st) : Z k n ws pc lv (.ref x :: st) := by
  obtain ⟨p, e, s, m, args, below, meth, c, A, Q, ⟨hx, hb, hml, hown, hts, hK, hA, hN⟩, hi⟩ := hZ
  subst hp
  subst hl2
  rw [hi] at k1 ⊢
  exact fun h1 h2 H locs ls hP hD hS hl => lv_astore hx hb dd hl hn rfl (fun ls2 hl2 => k1 h1 h2 H locs ls2 hP hD hS (w_add hl2 w_f1 (List.mem_cons_self) hck))
theorem r_iinc (pc2 j : Nat) (dv : Int32) (lv2 : List (Nat × Value)) (hZ : w_Is l g y R cc own nL Z) {i : Nat} {z : Int} {x : Int32} (dd : decode cc pc = .ok (.iinc i z, 3)) (hp : pc + 3 = pc2) (hj : lv[j]? = some (i, .int x)) (hv : Int32.ofInt z = dv) (hn : i + 0 < nL) (hck : w_ckB lv i j 1 = true) (hl2 : lv.set j (i, .int (x + dv)) = lv2) (k1 : Z k n ws pc2 lv2 st) : Z k n ws pc lv st := by
  obtain ⟨p, e, s, m, args, below, meth, c, A, Q, ⟨hx, hb, hml, hown, hts, hK, hA, hN⟩, hi⟩ := hZ
  subst hp
  subst hl2
  subst hv
  rw [hi] at k1 ⊢
  exact fun h1 h2 H locs ls hP hD hS hl => lv_iinc hx hb dd hl hj rfl hn rfl (fun ls2 hl2 => k1 h1 h2 H locs ls2 hP hD hS (w_set hl2 w_f1 (List.mem_cons_self) hck))
theorem r_get {ref C : String} {T : u_T} {N ci idx q0 kf a : Nat} {fs : List Value} {v : Value} (pc2 : Nat) (hin : ∀ w ∈ u_ws C T N, w ∈ UW) (hc : vwCl[ci]? = some (C, T, N)) (hk : kf < N) (wl : Cond.fieldLink own idx ref (T kf).2.1 (T kf).2.2.1 ∈ UW) (hr : (T kf).1 = ref) (he : ws[q0]? = some (a, .inr (ci, fs))) (hv : fs[kf]? = some v) (hZ : w_Is l g y R cc own nL Z) (dd : decode cc pc = .ok (.getfield idx, 3)) (hp : pc + 3 = pc2) (k1 : Z k n ws pc2 lv (v :: st)) : Z k n ws pc lv (.ref a :: st) := by
  obtain ⟨p, e, s, m, args, below, meth, c, A, Q, ⟨hx, hb, hml, hown, hts, hK, hA, hN⟩, hi⟩ := hZ
  subst hp
  subst hr
  rw [hi] at k1 ⊢
  exact fun h1 h2 H locs ls hP hD hS hl => va_get hx hb hts hin hown hK hP q0 he hc kf hk (hts _ wl) (fun _ h9 => h9) hv dd (k1 h1 h2 H locs ls hP hD hS hl)
theorem r_put {ref C : String} {T : u_T} {N ci idx q0 kf a : Nat} {fs : List Value} {v : Value} {ws2 : va_W} {ty : FieldType} (pc2 : Nat) (ty0 : Nat → FieldType) (hty : ∀ k, k < N → parseFieldDescriptor (T k).2.2.1 = some (ty0 k)) (hnm : ∀ a, a < N → ∀ b, b < N → a ≠ b → (T a).2.1 ≠ (T b).2.1) (hin : ∀ w ∈ u_ws C T N, w ∈ UW) (hc : vwCl[ci]? = some (C, T, N)) (hk : kf < N) (wl : Cond.fieldLink own idx ref (T kf).2.1 (T kf).2.2.1 ∈ UW) (hr : (T kf).1 = ref) (he : ws[q0]? = some (a, .inr (ci, fs))) (hl : kf < fs.length) (hfin : (T kf).2.2.2 = false) (hd : ty0 kf = ty) (hnar : narrow ty v = v) (hfit : fits ty v = true) (hs : ws.set q0 (a, .inr (ci, fs.set kf v)) = ws2) (hZ : w_Is l g y R cc own nL Z) (dd : decode cc pc = .ok (.putfield idx, 3)) (hp : pc + 3 = pc2) (k1 : Z k n ws2 pc2 lv st) : Z k n ws pc lv (v :: .ref a :: st) := by
  obtain ⟨p, e, s, m, args, below, meth, c, A, Q, ⟨hx, hb, hml, hown, hts, hK, hA, hN⟩, hi⟩ := hZ
  subst hp
  subst hr
  subst hs
  subst hd
  rw [hi] at k1 ⊢
  exact fun h1 h2 H locs ls hP hD hS hlv => va_put hx hb hts hin ty0 hty hnm hown hK hP hD hS q0 he hc kf hk (hts _ wl) (fun _ h9 => h9) hfin (hty kf hk) hnar hfit hl dd (fun H1 locs1 hP1 hD1 hS1 => k1 h1 h2 H1 locs1 ls hP1 hD1 hS1 hlv)
theorem r_iald (pc2 q0 : Nat) (hZ : w_Is l g y R cc own nL Z) {a N : Nat} {f : Nat → Int32} {i : Int32} (he : ws[q0]? = some (a, .inl (y 0, N, .inl f))) (hin : vp_in i N) (dd : decode cc pc = .ok (.iaload, 1)) (hp : pc + 1 = pc2) (k1 : Z k n ws pc2 lv (.int (f i.toNatClampNeg) :: st)) : Z k n ws pc lv (.int i :: .ref a :: st) := by
  obtain ⟨p, e, s, m, args, below, meth, c, A, Q, ⟨hx, hb, hml, hown, hts, hK, hA, hN⟩, hi⟩ := hZ
  subst hp
  rw [hi] at k1 ⊢
  exact fun h1 h2 H locs ls hP hD hS hl => va_iald hx hb hK hP q0 0 he rfl hin dd (k1 h1 h2 H locs ls hP hD hS hl)
theorem r_zald (pc2 q0 : Nat) (hZ : w_Is l g y R cc own nL Z) {a N : Nat} {f : Nat → Int32} {i : Int32} (he : ws[q0]? = some (a, .inl (y 1, N, .inl f))) (hin : vp_in i N) (dd : decode cc pc = .ok (.baload, 1)) (hp : pc + 1 = pc2) (k1 : Z k n ws pc2 lv (.int (f i.toNatClampNeg) :: st)) : Z k n ws pc lv (.int i :: .ref a :: st) := by
  obtain ⟨p, e, s, m, args, below, meth, c, A, Q, ⟨hx, hb, hml, hown, hts, hK, hA, hN⟩, hi⟩ := hZ
  subst hp
  rw [hi] at k1 ⊢
  exact fun h1 h2 H locs ls hP hD hS hl => va_zald hx hb hK hP q0 1 he rfl hin dd (k1 h1 h2 H locs ls hP hD hS hl)
theorem r_lald (pc2 q0 : Nat) (hZ : w_Is l g y R cc own nL Z) {a N : Nat} {f : Nat → Int64} {i : Int32} (he : ws[q0]? = some (a, .inl (y 3, N, .inr (.inl f)))) (hin : vp_in i N) (dd : decode cc pc = .ok (.laload, 1)) (hp : pc + 1 = pc2) (k1 : Z k n ws pc2 lv (.long (f i.toNatClampNeg) :: st)) : Z k n ws pc lv (.int i :: .ref a :: st) := by
  obtain ⟨p, e, s, m, args, below, meth, c, A, Q, ⟨hx, hb, hml, hown, hts, hK, hA, hN⟩, hi⟩ := hZ
  subst hp
  rw [hi] at k1 ⊢
  exact fun h1 h2 H locs ls hP hD hS hl => va_lald hx hb hK hP q0 3 he rfl hin dd (k1 h1 h2 H locs ls hP hD hS hl)
theorem r_iast {ws2 : va_W} (pc2 q0 : Nat) (hZ : w_Is l g y R cc own nL Z) {a N : Nat} {f : Nat → Int32} {i : Int32} {x : Int32} (he : ws[q0]? = some (a, .inl (y 0, N, .inl f))) (hin : vp_in i N) (hs : ws.set q0 (a, .inl (y 0, N, .inl (upd f i.toNatClampNeg x))) = ws2) (dd : decode cc pc = .ok (.iastore, 1)) (hp : pc + 1 = pc2) (k1 : Z k n ws2 pc2 lv st) : Z k n ws pc lv (.int x :: .int i :: .ref a :: st) := by
  obtain ⟨p, e, s, m, args, below, meth, c, A, Q, ⟨hx, hb, hml, hown, hts, hK, hA, hN⟩, hi⟩ := hZ
  subst hp
  subst hs
  rw [hi] at k1 ⊢
  exact fun h1 h2 H locs ls hP hD hS hl => va_iast hx hb hK hP hD hS q0 0 he rfl hin dd (fun H1 locs1 hP1 hD1 hS1 => k1 h1 h2 H1 locs1 ls hP1 hD1 hS1 hl)
theorem r_zast {ws2 : va_W} (pc2 q0 : Nat) (hZ : w_Is l g y R cc own nL Z) {a N : Nat} {f : Nat → Int32} {i : Int32} {x : Int32} (he : ws[q0]? = some (a, .inl (y 1, N, .inl f))) (hin : vp_in i N) (hs : ws.set q0 (a, .inl (y 1, N, .inl (upd f i.toNatClampNeg (vp_nar .boolean x)))) = ws2) (dd : decode cc pc = .ok (.bastore, 1)) (hp : pc + 1 = pc2) (k1 : Z k n ws2 pc2 lv st) : Z k n ws pc lv (.int x :: .int i :: .ref a :: st) := by
  obtain ⟨p, e, s, m, args, below, meth, c, A, Q, ⟨hx, hb, hml, hown, hts, hK, hA, hN⟩, hi⟩ := hZ
  subst hp
  subst hs
  rw [hi] at k1 ⊢
  exact fun h1 h2 H locs ls hP hD hS hl => va_zast hx hb hK hP hD hS q0 1 he rfl hin dd (fun H1 locs1 hP1 hD1 hS1 => k1 h1 h2 H1 locs1 ls hP1 hD1 hS1 hl)
theorem r_last {ws2 : va_W} (pc2 q0 : Nat) (hZ : w_Is l g y R cc own nL Z) {a N : Nat} {f : Nat → Int64} {i : Int32} {x : Int64} (he : ws[q0]? = some (a, .inl (y 3, N, .inr (.inl f)))) (hin : vp_in i N) (hs : ws.set q0 (a, .inl (y 3, N, .inr (.inl (vp_updL f i.toNatClampNeg x)))) = ws2) (dd : decode cc pc = .ok (.lastore, 1)) (hp : pc + 1 = pc2) (k1 : Z k n ws2 pc2 lv st) : Z k n ws pc lv (.long x :: .int i :: .ref a :: st) := by
  obtain ⟨p, e, s, m, args, below, meth, c, A, Q, ⟨hx, hb, hml, hown, hts, hK, hA, hN⟩, hi⟩ := hZ
  subst hp
  subst hs
  rw [hi] at k1 ⊢
  exact fun h1 h2 H locs ls hP hD hS hl => va_last hx hb hK hP hD hS q0 3 he rfl hin dd (fun H1 locs1 hP1 hD1 hS1 => k1 h1 h2 H1 locs1 ls hP1 hD1 hS1 hl)
theorem r_aald (pc2 q0 : Nat) (hZ : w_Is l g y R cc own nL Z) {a N b : Nat} {f : Nat → Option Nat} {i : Int32} (he : ws[q0]? = some (a, .inl (y 2, N, .inr (.inr (.inr (.inr f)))))) (hin : vp_in i N) (hf : f i.toNatClampNeg = some b) (dd : decode cc pc = .ok (.aaload, 1)) (hp : pc + 1 = pc2) (k1 : Z k n ws pc2 lv (.ref b :: st)) : Z k n ws pc lv (.int i :: .ref a :: st) := by
  obtain ⟨p, e, s, m, args, below, meth, c, A, Q, ⟨hx, hb, hml, hown, hts, hK, hA, hN⟩, hi⟩ := hZ
  subst hp
  rw [hi] at k1 ⊢
  exact fun h1 h2 H locs ls hP hD hS hl => va_aldq hx hb hK hP q0 2 he rfl hin dd (by rw [hf]; exact k1 h1 h2 H locs ls hP hD hS hl)
theorem w_topi {x : Int32} (k1 : ∀ z : Int32, z = x → Z k n ws pc lv (.int z :: st)) : Z k n ws pc lv (.int x :: st) := k1 x rfl
theorem w_eqW {ws2 : va_W} (h : ws = ws2) (k1 : Z k n ws2 pc lv st) : Z k n ws pc lv st := h ▸ k1
end WR
