/-! the law's own rows -/
/-- w_Is of the law, its environment, its script -/
def w_IsL (l : Launch) (g : va_G) (y : Nat → ClassId) (Z : Nat → Nat → va_W → Nat → List (Nat × Value) → List Value → Prop) (b L : Nat) (xs : Nat → Int32) : Prop :=
  ∃ (p : Program) (e : Env) (s : State) (m : MethodId) (args : Array Value) (below : List Frame) (meth : Method) (c : Code) (A : Nat → Prop) (Q : State → Prop),
    (p.tables.exec = Jvm.exec ∧ c.code = cL_law ∧ c.maxLocals = 7 ∧ s.vm.findClass RL = some m.cls ∧ (∀ w ∈ UW, w.before args s = true) ∧ va_K g vwCl (w_ty y) s ∧ (∀ q, s.heap.size ≤ q → A q) ∧ w_NW s) ∧
    (∀ k n ws pc lv st, (Z k n ws pc lv st ↔ (k ≤ room_1.cells → n ≤ room_1.slots → ∀ (H : Heap) (locs : List Loc) (ls : Array Slot), va_P g vwCl ws H → va_D A ws → va_S A s.heap H locs → lv_has ls 7 lv → W p l e room_1 s m args below meth c H locs k n Q (F0 m pc ls st)))) ∧ w_E A s s.heap ∧ va_AO xED s ∧ va_X b L xs s s.heap ∧ b < s.heap.size ∧ ¬ A b
section LAW
variable {l : Launch} {g : va_G} {y : Nat → ClassId} {Z : Nat → Nat → va_W → Nat → List (Nat × Value) → List Value → Prop} {b L : Nat} {xs : Nat → Int32} {k n pc : Nat} {ws ws' wr : va_W} {lv : List (Nat × Value)} {st rest : List Value}
theorem w_IsL.e (h : w_IsL l g y Z b L xs) : w_IsE l g y room_1 cL_law RL 7 Z := by
  obtain ⟨p, e, s, m, args, below, meth, c, A, Q, h1, h2, h3, -⟩ := h
  exact ⟨p, e, s, m, args, below, meth, c, A, Q, h1, h2, h3⟩
theorem w_IsL.o (h : w_IsL l g y Z b L xs) : w_IsO l g y room_1 cL_law RL 7 Z (fun _ => True) := by
  obtain ⟨p, e, s, m, args, below, meth, c, A, Q, h1, h2, h3, h4, -⟩ := h
  exact ⟨p, e, s, m, args, below, meth, c, A, Q, h1, h2, h4, trivial⟩
theorem r_sld0 (pc2 : Nat) {i : Nat} (hZ : w_IsL l g y Z b L xs) (hd : i < L) (hL : L ≤ 3072) (dd : decode cL_law pc = .ok (.iaload, 1)) (hp : pc + 1 = pc2) (k1 : Z k n ws pc2 lv (.int (xs i) :: st)) : Z k n ws pc lv (.int (nI i) :: .ref b :: st) := by
  obtain ⟨p, e, s, m, args, below, meth, c, A, Q, ⟨hx, hb, hml, hown, hts, hK, hA, hN⟩, hi, hE, hO, hX, hbl, hbA⟩ := hZ
  subst hp
  rw [hi] at k1 ⊢
  exact fun h1 h2 H locs ls hP hD hS hl => va_sld hx hb hX hbl hbA hS (nI_in hd (by omega)) dd (by rw [nI_clamp (by omega)]; exact k1 h1 h2 H locs ls hP hD hS hl)
theorem r_sld (pc2 d : Nat) {i : Nat} {v : Int32} (hZ : w_IsL l g y Z b L xs) (hv : nI d = v) (hd : i + d < L) (hL : L ≤ 3072) (dd : decode cL_law pc = .ok (.iaload, 1)) (hp : pc + 1 = pc2) (k1 : Z k n ws pc2 lv (.int (xs (i + d)) :: st)) : Z k n ws pc lv (.int (nI i + v) :: .ref b :: st) := by
  subst hv
  rw [nI_add]
  exact r_sld0 pc2 hZ hd hL dd hp k1
theorem r_slen (pc2 : Nat) (hZ : w_IsL l g y Z b L xs) (dd : decode cL_law pc = .ok (.arraylength, 1)) (hp : pc + 1 = pc2) (k1 : Z k n ws pc2 lv (.int (nI L) :: st)) : Z k n ws pc lv (.ref b :: st) := by
  obtain ⟨p, e, s, m, args, below, meth, c, A, Q, ⟨hx, hb, hml, hown, hts, hK, hA, hN⟩, hi, hE, hO, hX, hbl, hbA⟩ := hZ
  subst hp
  rw [hi] at k1 ⊢
  exact fun h1 h2 H locs ls hP hD hS hl => va_slen hx hb hX hbl hbA hS dd (k1 h1 h2 H locs ls hP hD hS hl)
theorem r_lvs (lv2 : List (Nat × Value)) (ks : List Nat) (hZ : w_IsL l g y Z b L xs) (h : lv_pick lv ks = lv2) (k1 : Z k n ws pc lv2 st) : Z k n ws pc lv st := by
  obtain ⟨p, e, s, m, args, below, meth, c, A, Q, -, hi, -⟩ := hZ
  rw [hi] at k1 ⊢
  exact fun h1 h2 H locs ls hP hD hS hl => k1 h1 h2 H locs ls hP hD hS (lv_sub hl ks h)
theorem r_tabIn (tgt : Nat) {dflt lo hi2 : Int} {offs : Array Int} {len : Nat} {x : Int32} {off : Int} (hZ : w_IsL l g y Z b L xs) (dd : decode cL_law pc = .ok (.tableswitch dflt lo hi2 offs, len)) (h1 : ¬ x.toInt < lo) (h2 : ¬ hi2 < x.toInt) (ho : offs[(x.toInt - lo).toNat]? = some off) (ht : (pc : Int) + off = (tgt : Int)) (k1 : Z k n ws tgt lv st) : Z k n ws pc lv (.int x :: st) := by
  obtain ⟨p, e, s, m, args, below, meth, c, A, Q, ⟨hx, hb, hml, hown, hts, hK, hA, hN⟩, hi, -⟩ := hZ
  rw [hi] at k1 ⊢
  exact fun a1 a2 H locs ls hP hD hS hl => lv_tableIn hx hb dd h1 h2 ho ht (k1 a1 a2 H locs ls hP hD hS hl)
theorem r_tabOut (tgt : Nat) {dflt lo hi2 : Int} {offs : Array Int} {len : Nat} {x : Int32} (hZ : w_IsL l g y Z b L xs) (dd : decode cL_law pc = .ok (.tableswitch dflt lo hi2 offs, len)) (h : x.toInt < lo ∨ hi2 < x.toInt) (ht : (pc : Int) + dflt = (tgt : Int)) (k1 : Z k n ws tgt lv st) : Z k n ws pc lv (.int x :: st) := by
  obtain ⟨p, e, s, m, args, below, meth, c, A, Q, ⟨hx, hb, hml, hown, hts, hK, hA, hN⟩, hi, -⟩ := hZ
  rw [hi] at k1 ⊢
  exact fun a1 a2 H locs ls hP hD hS hl => lv_tableOut hx hb dd h ht (k1 a1 a2 H locs ls hP hD hS hl)
variable {yN : MethodName} {c1 : ByteArray} {mL d na bb idx : Nat} {ret : Option FieldType} {av : List Value} {ov : Option Value}
/-- a call on the first of two worlds -/
theorem r_callVA (hC : w_C l g y yN c1 mL ret d (.ref bb :: av) ws ov ws') (hM : w_MV yN c1 mL ret na) {R : Room} {cc : ByteArray} {own : String} {nL : Nat} (wl : Cond.methodLink own idx yN ∈ UW) (hZ : w_Is l g y R cc own nL Z) (hna : av.length = na) (hR : d + 1 ≤ R.frames ∧ 8 + (mL + 11) + 34 * d ≤ R.locals) (q0 ci : Nat) {fs : List Value} {T : u_T} {N : Nat} (he : ws[q0]? = some (bb, .inr (ci, fs))) (hcl : vwCl[ci]? = some (yN.cls, T, N)) (hst : st = av.reverse ++ .ref bb :: rest) (hW : Nat.ble (rest.map fun v => v.category).sum 8 = true) (dd : decode cc pc = .ok (.invokevirtual idx, 3)) (k1 : Z k n (ws' ++ wr) (pc + 3) lv (ov.toList ++ rest)) : Z k n (ws ++ wr) pc lv st := by
  obtain ⟨p, e, s, m, args, below, meth, c, A, Q, ⟨hx, hb, hml, hown, hts, hK, hA, hN⟩, hi⟩ := hZ
  rw [hi] at k1 ⊢
  obtain ⟨wi, wsel, wini, wc, hdd⟩ := hM
  intro h1 h2 H locs ls hP hD hS hl
  refine w_callA (va_runV (As := av) (rest := rest) ⟨hx, hb, hml, hown, hts⟩ (hC H.size) (cwV na hts (show GoodIn UW (wsV own idx yN.cls yN (.code yN c1 mL ret :: UW)) from uw_cons wl (uw_cons wi (uw_cons wsel (uw_cons wini (w_uw yN c1 mL ret wc))))) rfl rfl rfl ⟨rfl, hdd⟩ hR) ⟨w_Pc.blind, va_recv hK hP.left hcl he, fun U hU hW => ⟨rfl, by rw [hU], by rw [hU]; exact hP.left, va_K.moved hW.alike hK, hD.left.weaken (fun _ _ _ _ => trivial), w_NW.warm hW hN⟩⟩ rfl hna hl.1 hst (lv_room (Nat.le_of_ble_eq_true hW)) dd ⟨h1, h2⟩) hP hD hS hA (fun H1 locs1 hP1 hD1 hS1 => k1 h1 h2 H1 locs1 ls hP1 hD1 hS1 hl)
/-- a call of a helper, on the first of two worlds -/
theorem r_callHA {hh : List (Nat × Nat × Nat × Nat)} {r : Int32} (hC : w_H l g y yN c1 mL hh d av ws r ws') (hM : Cond.static yN ∈ UW ∧ Cond.initialized RL ∈ UW ∧ Cond.codeWith yN c1 mL (some .int) hh ∈ UW ∧ (yN.cls ≠ "java/lang/invoke/MethodHandle" ∧ yN.cls ≠ "java/lang/invoke/VarHandle" ∧ (parseMethodDescriptor yN.desc).map (fun d => d.parameters.length) = some na)) (hcls : yN.cls = RL) (wl : Cond.methodLink RL idx yN ∈ UW) (hZ : w_IsL l g y Z b L xs) (hna : av.length = na) (hR : d + 1 ≤ room_1.frames ∧ 8 + (mL + 11) + 34 * d ≤ room_1.locals) (hR2 : k + 1 ≤ room_1.cells ∧ n + 6 ≤ room_1.slots) (hst : st = av.reverse ++ rest) (hW : Nat.ble (rest.map fun v => v.category).sum 8 = true) (dd : decode cL_law pc = .ok (.invokestatic idx, 3)) (k1 : Z (k + 1) (n + 6) (ws' ++ wr) (pc + 3) lv (.int r :: rest)) : Z k n (ws ++ wr) pc lv st := by
  obtain ⟨p, e, s, m, args, below, meth, c, A, Q, ⟨hx, hb, hml, hown, hts, hK, hA, hN⟩, hi, hE, -⟩ := hZ
  rw [hi] at k1 ⊢
  obtain ⟨wi, wini, wc, hdd⟩ := hM
  rw [← hcls] at wini
  intro h1 h2 H locs ls hP hD hS hl
  have hF : ∀ q, va_A ws H.size q → A q := fun q h => h.elim (fun ⟨k, e, h⟩ => hD.left.2 k (q, e) h) (fun h => hA q (Nat.le_trans hS.1 h))
  have hr := vx_runSX (As := av) (rest := rest) (g := F0 m pc ls st) (locs := locs) (cells := k) (slots := n) (p := p) (e := e) (below := below) (meth := meth) ⟨hx, hb, hml, hown, hts⟩ (hC H.size) (vx_cwSW na hts (show GoodIn UW (va_wsS RL idx yN (.codeWith yN c1 mL (some .int) hh :: UW)) from uw_cons wl (uw_cons wi (uw_cons wini (uw_cons wc uw_self)))) rfl rfl rfl hdd hR) ⟨w_PcE.blind, fun U hU hW => ⟨rfl, by rw [hU], by rw [hU]; exact hP.left, va_K.moved hW.alike hK, hD.left.weaken (fun _ _ _ _ => trivial), w_NW.warm hW hN, hE.go hS hW hU hF⟩⟩ rfl hna hl.1 hst (lv_room (Nat.le_of_ble_eq_true hW)) dd hR2
  intro T hT X
  rcases hr T hT X with ⟨v, st₀, t, T', L9, h0, X', hL, e1, e2, ⟨⟨hv, hP1, hK1, hD1⟩, hz, hk⟩, stp⟩ | ⟨q, st₀, t, T', L9, E', ce, hh0, X', hL, e1, e2, hf, -⟩
  · cases hv
    rw [h0] at hz hk
    obtain ⟨hP2, hD2⟩ := va_appL hP hD hk hF hP1 hD1
    have hS2 : va_S A s.heap T'.heap (locs ++ L9) := ⟨Nat.le_trans hS.1 (by rw [e1]; exact hz), fun q h1 h2 => by rw [e1, hk q (Nat.lt_of_lt_of_le h1 hS.1) (fun z => h2 (hF q z))]; exact hS.2.1 q h1 h2, fun q hq => by
      rcases List.mem_append.mp hq with h | h
      · exact hS.2.2 q h
      · exact hF _ (hL q h)⟩
    obtain ⟨t2, a1, b1⟩ := k1 hR2.1 hR2.2 T'.heap (locs ++ L9) ls (by rw [e1]; exact hP2) hD2 hS2 hl T' rfl X'
    exact ⟨t2, stp t2 a1, b1⟩
  · exact hf.elim
theorem lg_cmp_self (a : Int64) : lg_cmp a a = 0 := by
  unfold lg_cmp
  rw [if_neg (show ¬ a > a from Int64.lt_irrefl), if_pos rfl]
theorem hwr67 (aC aR : Nat → Nat) (σ : stT) (ao : Nat) (f : Nat → Int64) (τ : stT) (ρ : rtT) : (hw aC y σ ao f ++ rw aR y τ ρ)[67]? = some (ao, .inl (y 3, 1, .inr (.inl f))) := by
  rw [List.getElem?_append_left (by unfold hw; rw [List.length_append, cw_len]; show 67 < 67 + 1; decide), hw_len]
theorem cwr0 (aC : Nat → Nat) (σ : stT) : (cw aC y σ)[0]? = some (aC 0, .inr (7, [.ref (aC 1), .ref (aC 2), .ref (aC 3), .ref (aC 4), .ref (aC 5), .ref (aC 6), .int (σ 0 0)])) := rfl
end LAW
