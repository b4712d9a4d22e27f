/-! the run -/
/-- the past's edits as they were -/
def Le (σ s : stT) : Prop := ∀ i, 2 ≤ i → s 17 i = σ 17 i ∧ s 18 i = σ 18 i ∧ s 19 i = σ 19 i
theorem Le.rf (σ : stT) : Le σ σ := fun _ _ => ⟨rfl, rfl, rfl⟩
theorem Le.sp {σ s : stT} (h : Le σ s) (b n : Nat) (c : Int32) (m : Nat) (d : Int32) (i : Nat) : Le σ (spF s b n c m d i) := fun k hk => by
  rw [spF_k s b n c m d 17 (by decide) (by decide) i, spF_k s b n c m d 18 (by decide) (by decide) i, spF_k s b n c m d 19 (by decide) (by decide) i]
  exact h k hk
theorem Le.pt {σ s : stT} (h : Le σ s) (n : Nat) {j : Nat} (hj : j < 2) (a b : Nat) : Le σ (ptF s n j a b) := fun k hk => by
  obtain ⟨h1, h2, h3⟩ := h k hk
  refine ⟨?_, ?_, ?_⟩
  · show upd _ j _ k = _
    unfold upd; rw [if_neg (by omega)]; exact h1
  · show upd _ j _ k = _
    unfold upd; rw [if_neg (by omega)]; exact h2
  · show upd _ j _ k = _
    unfold upd; rw [if_neg (by omega)]; exact h3
theorem Le.fl {σ s : stT} (h : Le σ s) (n : Nat) {j : Nat} (hj : j < 2) (x : Option (Nat × Nat)) : Le σ (flF s n j x) := by
  cases x with
  | none => exact h
  | some ab => exact h.pt n hj ab.1 ab.2
theorem Le_f1 {σ : stT} (I O G : Nat) : ∀ (c i : Nat) (s : stT), Le σ s → Le σ (f1R I O G i c s).2
  | 0, _, s, h => h
  | c + 1, i, s, h => by
    by_cases hk : s 5 (ix (s 6 (1 + I + i))) = 0
    · by_cases hr : (flR (spF (spF s (1 + I) (1 + I + i) 0 (1 + I + i) 0 O) (1 + I) (1 + I + i) (-1) (1 + I + i) (-1) O) (agF s I O G (1 + I + i) 0 (1 + I + i) 0) (agF (spF s (1 + I) (1 + I + i) 0 (1 + I + i) 0 O) I O G (1 + I + i) (-1) (1 + I + i) (-1)) (1 + I + i)).isSome = true
      · rw [f1R_t hk hr]; exact ((h.sp _ _ _ _ _ _).sp _ _ _ _ _ _).fl _ (by decide) _
      · rw [f1R_f hk hr]; exact Le_f1 I O G c (i + 1) _ ((h.sp _ _ _ _ _ _).sp _ _ _ _ _ _)
    · rw [f1R_k hk]; exact Le_f1 I O G c (i + 1) s h
theorem Le_fpI {σ : stT} (I O n m : Nat) (o00 o01 o10 o11 : Int32) (a : Nat) : ∀ (c b : Nat) (s : stT), Le σ s → Le σ (fpI I O n m o00 o01 o10 o11 a b c s).2
  | 0, _, s, h => h
  | c + 1, b, s, h => by
    by_cases hk : mix (s 10 a &&& s 10 b) o10 o00 ||| mix (s 10 a &&& s 10 b) o11 o01 = -1
    · by_cases hr : (flR (spF s (1 + I) n (s 10 a &&& s 10 b) n (s 10 a &&& s 10 b) O) (mix (s 10 a &&& s 10 b) o10 o00) (mix (s 10 a &&& s 10 b) o11 o01) m).isSome = true
      · rw [fpI_t hk hr]; exact ((h.sp _ _ _ _ _ _).fl _ (by decide) _).pt _ (by decide) _ _
      · rw [fpI_f hk hr]; exact Le_fpI I O n m o00 o01 o10 o11 a c (b + 1) _ ((h.sp _ _ _ _ _ _).fl _ (by decide) _)
    · rw [fpI_k hk]; exact Le_fpI I O n m o00 o01 o10 o11 a c (b + 1) s h
theorem Le_fpO {σ : stT} (I O n m : Nat) (o00 o01 o10 o11 : Int32) : ∀ (c a : Nat) (s : stT), Le σ s → Le σ (fpO I O n m o00 o01 o10 o11 a c s).2
  | 0, _, s, h => h
  | c + 1, a, s, h => by
    by_cases hk : (fpI I O n m o00 o01 o10 o11 a a (2 * n - a) s).1 = true
    · rw [fpO_t hk]; exact Le_fpI I O n m o00 o01 o10 o11 a _ _ s h
    · rw [fpO_f hk]; exact Le_fpO I O n m o00 o01 o10 o11 c (a + 1) _ (Le_fpI I O n m o00 o01 o10 o11 a _ _ s h)
theorem Le_fpR {σ : stT} (I O G n m : Nat) (s : stT) (h : Le σ s) : Le σ (fpR I O G n m s).2 := by
  have h4 := (((h.sp (1 + I) n 0 m 0 O).sp (1 + I) n 0 m (-1) O).sp (1 + I) n (-1) m 0 O).sp (1 + I) n (-1) m (-1) O
  unfold fpR
  dsimp only
  split
  · exact Le_fpO I O n m _ _ _ _ _ _ _ h4
  · exact h4
theorem Le_f2I {σ : stT} (I O G i : Nat) : ∀ (c j : Nat) (s : stT), Le σ s → Le σ (f2I I O G i j c s).2
  | 0, _, s, h => h
  | c + 1, j, s, h => by
    by_cases hk : s 5 (ix (s 6 (1 + I + i))) = 0 ∧ s 5 (ix (s 6 (1 + I + j))) = 0
    · by_cases hr : (fpR I O G (1 + I + i) (1 + I + j) s).1 = true
      · rw [f2I_t hk hr]; exact Le_fpR I O G _ _ s h
      · rw [f2I_f hk hr]; exact Le_f2I I O G i c (j + 1) _ (Le_fpR I O G _ _ s h)
    · rw [f2I_k hk]; exact Le_f2I I O G i c (j + 1) s h
theorem Le_f2O {σ : stT} (I O G : Nat) : ∀ (c i : Nat) (s : stT), Le σ s → Le σ (f2O I O G i c s).2
  | 0, _, s, h => h
  | c + 1, i, s, h => by
    by_cases hk : (f2I I O G i (i + 1) (O - (i + 1)) s).1 = true
    · rw [f2O_t hk]; exact Le_f2I I O G i _ _ s h
    · rw [f2O_f hk]; exact Le_f2O I O G c (i + 1) _ (Le_f2I I O G i _ _ s h)
theorem Le_si (σ : stT) (N i : Nat) : Le σ (siF σ N i) := fun k _ => by
  rw [siF_k σ N 17 (by decide) (by decide) i, siF_k σ N 18 (by decide) (by decide) i, siF_k σ N 19 (by decide) (by decide) i]
  exact ⟨rfl, rfl, rfl⟩
theorem fe_le (σ : stT) (N I O G most : Nat) : Le σ (feR σ N I O G most).2 := by
  have hL := Le_si σ N (1 + I + O)
  have h1 := Le_f1 I O G O 0 _ hL
  unfold feR
  dsimp only
  split
  · exact hL
  · split
    · split
      · exact h1
      · split
        · split
          · exact Le_f2O I O G O 0 _ h1
          · exact Le_f2O I O G O 0 _ h1
        · exact h1
    · exact hL
section CG
variable {σ τ σ2 τ2 : stT} {ρ ρ2 : rtT} {N I O A G S M : Nat}
theorem EdP.cg {n x z : Int32} (h : EdP τ N n x z) (e1 : τ2 1 = τ 1) : EdP τ2 N n x z := by unfold EdP at *; rw [e1]; exact h
/-- what the run (and what tells nothing of the design) leaves -/
theorem InvB.cg (h : InvB σ τ ρ N I O A G S M) (s0 : ∀ j, j ≠ 0 → j ≠ 7 → σ2 0 j = σ 0 j) (sk : ∀ k, 1 ≤ k → k ≤ 16 → k ≠ 9 → k ≠ 10 → k ≠ 15 → σ2 k = σ k) (s17 : Le σ σ2) (t0 : ∀ j, j ≠ 0 → j ≠ 7 → j ≠ 8 → j ≠ 9 → τ2 0 j = τ 0 j) (tk : ∀ k, 1 ≤ k → k ≠ 4 → k ≠ 8 → k ≠ 9 → k ≠ 10 → k ≠ 11 → τ2 k = τ k) (t4 : ∀ j, j < N → τ2 4 j = τ 4 j) (r : ∀ k, 1 ≤ k → ρ2 k = ρ k) : InvB σ2 τ2 ρ2 N I O A G S M := by
  obtain ⟨hc, hn, ho, hu, hsp, hp, hz⟩ := h
  have t1 := tk 1 (by decide) (by decide) (by decide) (by decide) (by decide) (by decide)
  have t2 := tk 2 (by decide) (by decide) (by decide) (by decide) (by decide) (by decide)
  have t3 := tk 3 (by decide) (by decide) (by decide) (by decide) (by decide) (by decide)
  have t5 := tk 5 (by decide) (by decide) (by decide) (by decide) (by decide) (by decide)
  have t6 := tk 6 (by decide) (by decide) (by decide) (by decide) (by decide) (by decide)
  have t7 := tk 7 (by decide) (by decide) (by decide) (by decide) (by decide) (by decide)
  refine ⟨?_, fun j hj => ?_, ?_, fun i hi => ?_, fun s hs => ?_, fun i hi => ?_, ?_⟩
  · unfold Cn at *
    rw [s0 1 (by decide) (by decide), s0 2 (by decide) (by decide), s0 3 (by decide) (by decide), s0 4 (by decide) (by decide), s0 5 (by decide) (by decide), s0 6 (by decide) (by decide), s0 8 (by decide) (by decide), t0 1 (by decide) (by decide) (by decide) (by decide), t0 2 (by decide) (by decide) (by decide) (by decide), t0 3 (by decide) (by decide) (by decide) (by decide), t0 4 (by decide) (by decide) (by decide) (by decide), t0 5 (by decide) (by decide) (by decide) (by decide), t0 6 (by decide) (by decide) (by decide) (by decide), t0 10 (by decide) (by decide) (by decide) (by decide)]
    exact hc
  · obtain ⟨k1, k2, k3, k4, k5⟩ := hn j hj
    unfold NdJ LtP OlP at *
    rw [sk 1 (by decide) (by decide) (by decide) (by decide) (by decide), sk 2 (by decide) (by decide) (by decide) (by decide) (by decide), sk 3 (by decide) (by decide) (by decide) (by decide) (by decide), sk 4 (by decide) (by decide) (by decide) (by decide) (by decide), sk 5 (by decide) (by decide) (by decide) (by decide) (by decide), sk 11 (by decide) (by decide) (by decide) (by decide) (by decide), sk 12 (by decide) (by decide) (by decide) (by decide) (by decide), t1, t2, t3, t5, t4 j hj, r 1 (by decide), r 2 (by decide)]
    refine ⟨k1, k2, k3, fun q => ?_, k5⟩
    obtain ⟨q1, q2, q3⟩ := k4 q
    obtain ⟨-, -, l1, l2⟩ := k3 (Or.inl q)
    have l1 := l1.2
    have l2 := l2.2
    refine ⟨q1, ?_, q3⟩
    rw [cl_cg (f := τ2 4) (g := τ 4) (t4 (ix (τ 2 j) / 2) (by omega)), cl_cg (f := τ2 4) (g := τ 4) (t4 (ix (τ 3 j) / 2) (by omega))]
    exact q2
  · unfold OwP at *
    rw [sk 6 (by decide) (by decide) (by decide) (by decide) (by decide), t1]
    exact ho
  · have k := hu i hi
    unfold OuJ at *
    rw [sk 7 (by decide) (by decide) (by decide) (by decide) (by decide), sk 8 (by decide) (by decide) (by decide) (by decide) (by decide), t1, t6, t7]
    exact k
  · have k := hsp s hs
    unfold SpJ at *
    rw [sk 13 (by decide) (by decide) (by decide) (by decide) (by decide), sk 14 (by decide) (by decide) (by decide) (by decide) (by decide), r 3 (by decide), r 4 (by decide)]
    exact k
  · obtain ⟨q, q1, q2, q3, q4⟩ := hp i hi
    refine ⟨q, q1, ?_, ?_, fun k hk => ?_⟩
    · rw [sk 16 (by decide) (by decide) (by decide) (by decide) (by decide)]; exact q2
    · rw [tk 12 (by decide) (by decide) (by decide) (by decide) (by decide) (by decide)]; exact q3
    · obtain ⟨a1, a2, a3⟩ := s17 (2 + (2 * i + k)) (by omega)
      rw [a1, a2, a3, tk 13 (by decide) (by decide) (by decide) (by decide) (by decide) (by decide), tk 14 (by decide) (by decide) (by decide) (by decide) (by decide) (by decide), tk 15 (by decide) (by decide) (by decide) (by decide) (by decide) (by decide)]
      exact ⟨(q4 k hk).1, (q4 k hk).2.cg t1⟩
  · rw [sk 1 (by decide) (by decide) (by decide) (by decide) (by decide), sk 4 (by decide) (by decide) (by decide) (by decide) (by decide), sk 6 (by decide) (by decide) (by decide) (by decide) (by decide)]
    exact hz
end CG
/-! a call of both -/
/-- the helper's and the reference's contracts for one call, with the same answer -/
def StI (l : Launch) (g : va_G) (y : Nat → ClassId) (aC aR : Nat → Nat) (ao : Nat) (ret : FieldType) (conv : Int32 → Int64) (yH : MethodName) (cH : ByteArray) (mH : Nat) (hh : List (Nat × Nat × Nat × Nat)) (yR : MethodName) (cR : ByteArray) (mR : Nat) (av : List Value) (σ τ : stT) (ρ : rtT) (f : Nat → Int64) : Prop :=
  ∃ (k : Nat) (σ2 : stT) (f2 : Nat → Int64) (b : Int32) (τ2 : stT) (ρ2 : rtT) (d : Nat), k ≤ 3 ∧ d ≤ 8 ∧ w_H l g y yH cH mH hh 9 (.ref (aC 0) :: (av ++ [.ref ao])) (hw aC y σ ao f) (nI k) (hw aC y σ2 ao f2) ∧ w_C l g y yR cR mR (some ret) d (.ref (aR 0) :: av) (rw aR y τ ρ) (some (.int b)) (rw aR y τ2 ρ2) ∧ τ2 0 0 = nI k ∧ (k = 0 → f2 0 = conv b) ∧ Inv σ2 τ2 ρ2
def cvB (b : Int32) : Int64 := if b = 0 then 0 else 1
theorem f0L (f : Nat → Int64) (v : Int64) : vp_updL f 0 v 0 = v := if_pos rfl
