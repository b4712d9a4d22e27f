/-! pure words: literals, columns, searches -/
abbrev ix (x : Int32) : Nat := x.toNatClampNeg
def okL (x : Int32) (m : Nat) : Prop := x = nI (ix x) ∧ ix x < m
/-- the column of a literal -/
def cl (f : Nat → Int32) (L : Nat) : Int32 := if L % 2 = 1 then f (L / 2) ^^^ (-1) else f (L / 2)
theorem sh1 {L : Nat} (h : L < 2 ^ 31) : nI L >>> ((1 : Int32) &&& 31) = nI (L / 2) := pk_shrN h _ 1 (by decide)
theorem an1 {L : Nat} (h : L < 2 ^ 31) : nI L &&& 1 = nI (L % 2) := pk_andN (by omega) 1 (by decide)
theorem ix_nI {n : Nat} (h : n < 2 ^ 31) : ix (nI n) = n := nI_clamp h
theorem okL_nI {n m : Nat} (h : n < m) (hm : m ≤ 2 ^ 31) : okL (nI n) m := ⟨by rw [ix_nI (by omega)], by rw [ix_nI (by omega)]; exact h⟩
theorem okL_mono {x : Int32} {a b : Nat} (h : okL x a) (hab : a ≤ b) : okL x b := ⟨h.1, Nat.lt_of_lt_of_le h.2 hab⟩
theorem okL_in {x : Int32} {m : Nat} (h : okL x m) (hm : m < 2 ^ 31) : vp_in x m := by rw [h.1]; exact vp_in_nI h.2 hm
theorem mod2 (L : Nat) : L % 2 = 0 ∨ L % 2 = 1 := by omega
theorem xor_m1 (x : Int32) : x ^^^ (-(1 : Int32)) = x ^^^ (-1) := rfl
theorem cl_col (f : Nat → Int32) {L : Nat} (h : L < 80) : f (nI (L / 2)).toNatClampNeg ^^^ -(nI L &&& 1) = cl f L := by
  rw [nI_clamp (by omega), an1 (by omega)]
  unfold cl
  rcases mod2 L with e | e <;> rw [e]
  · rw [if_neg (by decide), show (-nI 0 : Int32) = 0 by decide]
    exact Int32.xor_zero
  · rw [if_pos rfl]; rfl
theorem nI_leq {a b : Nat} (ha : a < 2 ^ 31) (hb : b < 2 ^ 31) (h : nI a ≤ nI b) : a ≤ b := (nI_leI ha hb).mp h
theorem nI_nleq {a b : Nat} (ha : a < 2 ^ 31) (hb : b < 2 ^ 31) (h : ¬ nI a ≤ nI b) : b < a := Nat.lt_of_not_le fun q => h ((nI_leI ha hb).mpr q)
theorem nI_ltq {a b : Nat} (ha : a < 2 ^ 31) (hb : b < 2 ^ 31) (h : nI a < nI b) : a < b := (nI_ltI ha hb).mp h
theorem nI_nltq {a b : Nat} (ha : a < 2 ^ 31) (hb : b < 2 ^ 31) (h : ¬ nI a < nI b) : b ≤ a := Nat.le_of_not_lt fun q => h ((nI_ltI ha hb).mpr q)
theorem nI_eqq {a b : Nat} (ha : a < 2 ^ 31) (hb : b < 2 ^ 31) (h : nI a = nI b) : a = b := (nI_eq ha hb).mp h
theorem nI_neqq {a b : Nat} (ha : a < 2 ^ 31) (hb : b < 2 ^ 31) (h : ¬ nI a = nI b) : a ≠ b := fun q => h (by rw [q])
theorem nI_2 (a : Nat) : 2 * nI a = nI (2 * a) := by rw [show (2 : Int32) = nI 2 from rfl, pk_mul]
/-- an output's difference by the columns k -/
def df (σ : Nat → Nat → Int32) (k i : Nat) : Int32 := cl (σ k) (ix (σ 7 i)) ^^^ cl (σ k) (ix (σ 8 i))
def dor (σ : Nat → Nat → Int32) (k : Nat) : Nat → Int32
  | 0 => 0
  | i + 1 => dor σ k i ||| df σ k i
/-- the first of i, i + 1, .. (c of them) at which f answers -/
def gfind {β : Type} (f : Nat → Option β) : Nat → Nat → Option β
  | _, 0 => none
  | i, c + 1 => match f i with
    | some x => some x
    | none => gfind f (i + 1) c
theorem gfind_s {β : Type} {f : Nat → Option β} {i c : Nat} {x : β} (h : f i = some x) : gfind f i (c + 1) = some x := by unfold gfind; rw [h]
theorem gfind_n {β : Type} {f : Nat → Option β} {i c : Nat} (h : f i = none) : gfind f i (c + 1) = gfind f (i + 1) c := by conv => lhs; unfold gfind; rw [h]
theorem gfind_0 {β : Type} {f : Nat → Option β} {i : Nat} : gfind f i 0 = none := by unfold gfind; rfl
theorem gfind_c {β : Type} {f g : Nat → Option β} : ∀ (c i : Nat), (∀ j, i ≤ j → j < i + c → f j = g j) → gfind f i c = gfind g i c
  | 0, _, _ => by rw [gfind_0, gfind_0]
  | c + 1, i, h => by
    have h1 := h i (Nat.le_refl _) (by omega)
    cases hf : f i with
    | some x => rw [gfind_s hf, gfind_s (h1 ▸ hf)]
    | none => rw [gfind_n hf, gfind_n (h1 ▸ hf)]; exact gfind_c c (i + 1) (fun j a b => h j (by omega) (by omega))
noncomputable def opt {β : Type} (P : Prop) (x : β) : Option β := @ite _ P (Classical.propDecidable P) (some x) none
theorem opt_t {β : Type} {P : Prop} {x : β} (h : P) : opt P x = some x := if_pos h
theorem opt_f {β : Type} {P : Prop} {x : β} (h : ¬ P) : opt P x = none := if_neg h
theorem opt_c {β : Type} {P Q : Prop} {x : β} (h : P ↔ Q) : opt P x = opt Q x := by rw [propext h]
/-- what a search that answers a number or NONE answers -/
def oI : Option Nat → Int32
  | some n => nI n
  | none => -1
/-- a count of what holds -/
noncomputable def cnt (P : Nat → Prop) : Nat → Nat
  | 0 => 0
  | i + 1 => cnt P i + @ite _ (P i) (Classical.propDecidable _) 1 0
theorem cnt_t {P : Nat → Prop} {i : Nat} (h : P i) : cnt P (i + 1) = cnt P i + 1 := by show _ + _ = _; rw [if_pos h]
theorem cnt_f {P : Nat → Prop} {i : Nat} (h : ¬ P i) : cnt P (i + 1) = cnt P i := by show _ + _ = _; rw [if_neg h]; rfl
theorem cnt_le (P : Nat → Prop) : ∀ i, cnt P i ≤ i
  | 0 => Nat.le_refl 0
  | i + 1 => by
    have := cnt_le P i
    by_cases h : P i
    · rw [cnt_t h]; omega
    · rw [cnt_f h]; omega
theorem cnt_c {P Q : Nat → Prop} : ∀ n, (∀ i, i < n → (P i ↔ Q i)) → cnt P n = cnt Q n
  | 0, _ => rfl
  | n + 1, h => by
    have ih := cnt_c n (fun i hi => h i (by omega))
    by_cases hp : P n
    · rw [cnt_t hp, cnt_t ((h n (by omega)).mp hp), ih]
    · rw [cnt_f hp, cnt_f (fun q => hp ((h n (by omega)).mpr q)), ih]
section WE
variable {Z : Nat → Nat → va_W → Nat → List (Nat × Value) → List Value → Prop} {k n pc : Nat} {ws : va_W} {lv : List (Nat × Value)} {st : List Value}
theorem w_eqI {x x2 : Int32} (e : x = x2) (k1 : Z k n ws pc lv (.int x2 :: st)) : Z k n ws pc lv (.int x :: st) := by rw [e]; exact k1
theorem w_eqI2 {x x2 : Int32} {v : Value} (e : x = x2) (k1 : Z k n ws pc lv (v :: .int x2 :: st)) : Z k n ws pc lv (v :: .int x :: st) := by rw [e]; exact k1
theorem w_eqL {lv2 : List (Nat × Value)} (e : lv = lv2) (k1 : Z k n ws pc lv2 st) : Z k n ws pc lv st := by rw [e]; exact k1
end WE
theorem w_take {l : Launch} {g : va_G} {y : Nat → ClassId} {R : Room} {cc : ByteArray} {own : String} {nL : Nat} {Z : Nat → Nat → va_W → Nat → List (Nat × Value) → List Value → Prop} {k n pc : Nat} {ws : va_W} {lv : List (Nat × Value)} {st : List Value} (m : Nat) (hZ : w_Is l g y R cc own nL Z) (k1 : Z k n ws pc (lv.take m) st) : Z k n ws pc lv st := by
  obtain ⟨p, e, s, m, args, below, meth, c, A, Q, ⟨hx, hb, hml, hown, hts, hK, hA, hN⟩, hi⟩ := hZ
  rw [hi] at k1 ⊢
  exact fun h1 h2 H locs ls hP hD hS hl => k1 h1 h2 H locs ls hP hD hS ⟨hl.1, hl.2.1, fun q hq => hl.2.2 q (List.mem_of_mem_take hq)⟩
def ab (x : Int32) : Int32 := if 0 ≤ x then x else 0 - x
theorem r_abs {l : Launch} {g : va_G} {y : Nat → ClassId} {R : Room} {cc : ByteArray} {own : String} {nL : Nat} {Z : Nat → Nat → va_W → Nat → List (Nat × Value) → List Value → Prop} {k n pc : Nat} {ws : va_W} {lv : List (Nat × Value)} {st : List Value} {idx : Nat} {x : Int32} (pc2 : Nat) (hZ : w_Is l g y R cc own nL Z) (wl : Cond.methodLink own idx yJ9_abs_0f7a4 ∈ UW) (h1 : 1 ≤ R.frames) (h2 : Nat.ble ((st.map fun v => v.category).sum + 13) R.locals = true) (dd : decode cc pc = .ok (.invokestatic idx, 3)) (hp : pc + 3 = pc2) (k1 : Z k n ws pc2 lv (.int (ab x) :: st)) : Z k n ws pc lv (.int x :: st) := by
  obtain ⟨p, e, s, m, args, below, meth, c, A, Q, ⟨hx, hb, hml, hown, hts, hK, hA, hN⟩, hi⟩ := hZ
  subst hp
  rw [hi] at k1 ⊢
  exact fun h3 h4 H locs ls hP hD hS hl => va_mabs hx hb (by rw [hml]; exact hl.1.symm) hown (hts _ wl) (hts _ wM_J9_abs_0f7a4.1) (hts _ wM_J9_abs_0f7a4.2.1) (hts _ wM_J9_abs_0f7a4.2.2.1) h1 (Nat.le_of_ble_eq_true h2) h3 h4 dd (k1 h3 h4 H locs ls hP hD hS hl)
