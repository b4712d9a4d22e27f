section WC2
variable {l : Launch} {g : va_G} {y : Nat → ClassId} {R : Room} {cc : ByteArray} {own : String} {nL : Nat} {Z : Nat → Nat → va_W → Nat → List (Nat × Value) → List Value → Prop} {k n pc : Nat} {ws ws' : va_W} {lv : List (Nat × Value)} {st rest : List Value} {yN : MethodName} {c1 : ByteArray} {mL d na : Nat} {ret : Option FieldType} {av : List Value} {v : Value} {b idx : Nat}
theorem r_callVI (hC : w_C l g y yN c1 mL ret d (.ref b :: av) ws (some v) ws') (hM : w_MV yN c1 mL ret na) (wl : Cond.methodLink own idx yN ∈ UW) (hZ : w_Is l g y R cc own nL Z) (hna : av.length = na) (hR : d + 1 ≤ R.frames ∧ 8 + (mL + 11) + 34 * d ≤ R.locals) (q0 ci : Nat) {fs : List Value} {T : u_T} {N : Nat} (he : ws[q0]? = some (b, .inr (ci, fs))) (hcl : vwCl[ci]? = some (yN.cls, T, N)) (hst : st = av.reverse ++ .ref b :: rest) (hW : Nat.ble (rest.map fun v => v.category).sum 8 = true) (dd : decode cc pc = .ok (.invokevirtual idx, 3)) (k1 : Z k n ws' (pc + 3) lv (v :: rest)) : Z k n ws pc lv st := r_callV hC hM wl hZ hna hR q0 ci he hcl hst (Nat.le_of_ble_eq_true hW) dd k1
theorem r_callVV (hC : w_C l g y yN c1 mL ret d (.ref b :: av) ws none ws') (hM : w_MV yN c1 mL ret na) (wl : Cond.methodLink own idx yN ∈ UW) (hZ : w_Is l g y R cc own nL Z) (hna : av.length = na) (hR : d + 1 ≤ R.frames ∧ 8 + (mL + 11) + 34 * d ≤ R.locals) (q0 ci : Nat) {fs : List Value} {T : u_T} {N : Nat} (he : ws[q0]? = some (b, .inr (ci, fs))) (hcl : vwCl[ci]? = some (yN.cls, T, N)) (hst : st = av.reverse ++ .ref b :: rest) (hW : Nat.ble (rest.map fun v => v.category).sum 8 = true) (dd : decode cc pc = .ok (.invokevirtual idx, 3)) (k1 : Z k n ws' (pc + 3) lv rest) : Z k n ws pc lv st := r_callV hC hM wl hZ hna hR q0 ci he hcl hst (Nat.le_of_ble_eq_true hW) dd k1
theorem r_callSI (hC : w_C l g y yN c1 mL ret d av ws (some v) ws') (hM : w_MS yN c1 mL ret na) (wl : Cond.methodLink own idx yN ∈ UW) (hZ : w_Is l g y R cc own nL Z) (hna : av.length = na) (hR : d + 1 ≤ R.frames ∧ 8 + (mL + 11) + 34 * d ≤ R.locals) (hst : st = av.reverse ++ rest) (hW : Nat.ble (rest.map fun v => v.category).sum 8 = true) (dd : decode cc pc = .ok (.invokestatic idx, 3)) (k1 : Z k n ws' (pc + 3) lv (v :: rest)) : Z k n ws pc lv st := r_callS hC hM wl hZ hna hR hst (Nat.le_of_ble_eq_true hW) dd k1
theorem r_callSNI {host : String} (hC : w_C l g y yN c1 mL ret d av ws (some v) ws') (hM : w_MS yN c1 mL ret na) (wl : ∀ s, w_NW s → va_Nw (.methodLinkNest own idx yN host) s) (hZ : w_Is l g y R cc own nL Z) (hna : av.length = na) (hR : d + 1 ≤ R.frames ∧ 8 + (mL + 11) + 34 * d ≤ R.locals) (hst : st = av.reverse ++ rest) (hW : Nat.ble (rest.map fun v => v.category).sum 8 = true) (dd : decode cc pc = .ok (.invokestatic idx, 3)) (k1 : Z k n ws' (pc + 3) lv (v :: rest)) : Z k n ws pc lv st := r_callSN hC hM wl hZ hna hR hst (Nat.le_of_ble_eq_true hW) dd k1
end WC2
noncomputable def bI (P : Prop) : Int32 := @ite _ P (Classical.propDecidable P) 1 0
theorem bI_t {P : Prop} (h : P) : bI P = 1 := if_pos h
theorem bI_f {P : Prop} (h : ¬ P) : bI P = 0 := if_neg h
theorem bI_01 (P : Prop) : bI P = 0 ∨ bI P = 1 := by by_cases h : P; exact Or.inr (bI_t h); exact Or.inl (bI_f h)
theorem bI_0 {P : Prop} : bI P = 0 ↔ ¬ P := by
  by_cases h : P
  · rw [bI_t h]; exact ⟨fun q => absurd q (by decide), fun q => absurd h q⟩
  · rw [bI_f h]; exact ⟨fun _ => h, fun _ => rfl⟩
theorem bI_n0 {P : Prop} : ¬ bI P = 0 ↔ P := by rw [bI_0]; exact Classical.not_not
theorem bI_1 {P : Prop} : bI P = 1 ↔ P := by
  by_cases h : P
  · rw [bI_t h]; exact ⟨fun _ => h, fun _ => rfl⟩
  · rw [bI_f h]; exact ⟨fun q => absurd q (by decide), fun q => absurd q h⟩
theorem bI_c {P Q : Prop} (h : P ↔ Q) : bI P = bI Q := by rw [propext h]
theorem bI_nar (P : Prop) : narrow .boolean (.int (bI P)) = .int (bI P) := by rcases bI_01 P with h | h <;> rw [h] <;> rfl
theorem bI_nar2 (P : Prop) : vp_nar .boolean (bI P) = bI P := by rcases bI_01 P with h | h <;> rw [h] <;> rfl
