/-! the run's step -/
theorem okc {x : Int32} (h : okL x 3) : x = 0 ∨ x = 1 ∨ x = 2 := by
  obtain ⟨e, h⟩ := h
  rw [e]
  rcases (show ix x = 0 ∨ ix x = 1 ∨ ix x = 2 by omega) with q | q | q <;> rw [q]
  · exact Or.inl rfl
  · exact Or.inr (Or.inl rfl)
  · exact Or.inr (Or.inr rfl)
theorem g1_bd {R : Nat → Ru} {mi : Nat → Nat} {du : Nat → Int32} {G n a c : Nat} (h : g1 R mi du G n = some (a, c)) : a < 2 * n ∧ c < 2 * n := by
  obtain ⟨j, h1, h2, h3, -⟩ := (gf_some _ _ _).mp h
  obtain ⟨i, i1, i2, i3, -⟩ := (gf_some _ _ _).mp h3
  by_cases q : AC (updR R n (.inr (j, i))) mi du G = -1
  · rw [opt_t q] at i3; cases i3; omega
  · rw [opt_f q] at i3; cases i3
theorem g2_bd {R : Nat → Ru} {mi : Nat → Nat} {du : Nat → Int32} {G n m a c a3 c3 : Nat} (h : g2 R mi du G n m = some ((a, c), (a3, c3))) : (a < 2 * n ∧ c < 2 * n) ∧ a3 < 2 * m ∧ c3 < 2 * m := by
  obtain ⟨j, h1, h2, h3, -⟩ := (gf_some _ _ _).mp h
  obtain ⟨i, i1, i2, i3, -⟩ := (gf_some _ _ _).mp h3
  cases q : g1 (updR R n (.inr (j, i))) mi du G m with
  | none => rw [q] at i3; cases i3
  | some p =>
    rw [q] at i3
    cases i3
    exact ⟨⟨by omega, by omega⟩, g1_bd q⟩
section SR
variable {σ τ : stT} {ρ : rtT} {N I O A G S M : Nat} {oA oB mi : Nat → Nat}
theorem Z1_bd {k a c : Nat} (h : Z1 σ I O oA oB mi G = some (k, (a, c))) : 1 + I ≤ k ∧ k < 1 + I + O ∧ a < 2 * k ∧ c < 2 * k := by
  obtain ⟨j, h1, h2, h3, -⟩ := (gf_some _ _ _).mp h
  by_cases q : σ 5 (ix (σ 6 (1 + I + j))) = 0
  · rw [F1_t q] at h3
    cases e : g1 (R0 σ I oA oB) mi (du0 σ) G (1 + I + j) with
    | none => rw [e] at h3; cases h3
    | some p =>
      rw [e] at h3
      cases h3
      exact ⟨by omega, by omega, g1_bd e⟩
  · rw [F1_f q] at h3; cases h3
theorem Z2_bd {k k2 a c a3 c3 : Nat} (h : Z2 σ I O oA oB mi G = some (k, k2, ((a, c), (a3, c3)))) : (1 + I ≤ k ∧ k < k2 ∧ k2 < 1 + I + O) ∧ (a < 2 * k ∧ c < 2 * k) ∧ a3 < 2 * k2 ∧ c3 < 2 * k2 := by
  obtain ⟨j, h1, h2, h3, -⟩ := (gf_some _ _ _).mp h
  obtain ⟨i, i1, i2, i3, -⟩ := (gf_some _ _ _).mp h3
  by_cases q : σ 5 (ix (σ 6 (1 + I + j))) = 0 ∧ σ 5 (ix (σ 6 (1 + I + i))) = 0
  · rw [F2_t q] at i3
    cases e : g2 (R0 σ I oA oB) mi (du0 σ) G (1 + I + j) (1 + I + i) with
    | none => rw [e] at i3; cases i3
    | some p =>
      rw [e] at i3
      cases i3
      exact ⟨⟨by omega, by omega, by omega⟩, g2_bd e⟩
  · rw [F2_f q] at i3; cases i3
/-- an edit that both have found -/
theorem ed_ok (h : InvB σ τ ρ N I O A G S M) {s t : stT} {j k a c : Nat} (hb : 1 + I ≤ k) (hk : k < 1 + I + O) (ha : a < 2 * k) (hc : c < 2 * k) (h1 : Ed1 σ s j k a c) (h2 : t 8 j = nI (owS σ k) ∧ t 9 j = nI (olw (owS σ) a) ∧ t 10 j = nI (olw (owS σ) c)) : (s 17 j = t 8 j ∧ s 18 j = t 9 j ∧ s 19 j = t 10 j) ∧ EdP τ N (t 8 j) (t 9 j) (t 10 j) := by
  obtain ⟨a1, a2, a3⟩ := h1
  obtain ⟨b1, b2, b3⟩ := h2
  have hS := h.sf
  have k1 := (h.2.2.1.2.1 k hk).1
  have hkN := k1.2
  have hN : N ≤ 38 := hS.2.2.2.2.2.2.2
  have la := olw_bd hS hk ha
  have lc := olw_bd hS hk hc
  have e6 : owS σ k = ix (σ 6 k) := rfl
  refine ⟨⟨by rw [a1, b1]; exact k1.1, by rw [a2, b2]; rfl, by rw [a3, b3]; rfl⟩, ?_⟩
  rw [b1, b2, b3]
  unfold EdP
  rw [ix_nI (show owS σ k < 2 ^ 31 by omega), ix_nI (show olw (owS σ) a < 2 ^ 31 by omega), ix_nI (show olw (owS σ) c < 2 ^ 31 by omega), olw_2, olw_2]
  exact ⟨okL_nI (by omega) (by omega), hS.2.2.2.2.1 k hb hk, okL_nI la (by omega), okL_nI lc (by omega), hS.kind (by omega), hS.kind (by omega)⟩
theorem InvB.of (h : InvB σ τ ρ N I O A G S M) {k : Nat} (hb : 1 + I ≤ k) (hk : k < 1 + I + O) : ∀ s, s < S → OfP σ ρ (ix (σ 6 k)) s := fun s hs => ⟨((h.2.1 _ (h.2.2.1.2.1 k hk).1.2).2.2.2.1 (h.2.2.1.2.2.2.2 k hb hk)).2.2.2, h.2.2.2.2.1 s hs⟩
end SR
