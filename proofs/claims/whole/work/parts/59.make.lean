/-! make, undo: the old ANDs get other literals -/
section MU
variable {l : Launch} {g : va_G} {y : Nat → ClassId} {aC aR : Nat → Nat} {ao : Nat} {σ τ s t : stT} {ρ : rtT} {f : Nat → Int64} {N I O A G S M : Nat}
/-- stores with other literals at the ANDs -/
def Lit (σ τ s t : stT) (N : Nat) : Prop := (∀ k, k = 1 ∨ k = 4 ∨ k = 5 ∨ k = 6 ∨ k = 7 ∨ k = 8 ∨ k = 11 ∨ k = 12 ∨ k = 13 ∨ k = 14 → s k = σ k) ∧ (∀ k, k = 1 ∨ k = 4 ∨ k = 5 ∨ k = 6 ∨ k = 7 → t k = τ k) ∧ ∀ j, j < N → τ 1 j = 2 ∨ τ 1 j = 3 → (s 2 j = t 2 j ∧ s 3 j = t 3 j ∧ okL (t 2 j) (2 * j) ∧ okL (t 3 j) (2 * j)) ∧ (τ 1 j = 2 → ¬ τ 1 (ix (t 2 j) / 2) = 3 ∧ ¬ τ 1 (ix (t 3 j) / 2) = 3)
noncomputable def RL2 (σ τ t : stT) (I K : Nat) : Nat → Ru := fun k => if k < 1 + I then .inl (τ 4 (owS σ k)) else .inr (oli (owS σ) K (ix (t 2 (owS σ k))), oli (owS σ) K (ix (t 3 (owS σ k))))
theorem rl_at (h : InvB σ τ ρ N I O A G S M) (hL : Lit σ τ s t N) {k : Nat} (hb : 1 + I ≤ k) (hk : k < 1 + I + O) : ∃ p q, RL2 σ τ t I (1 + I + O) k = .inr (p, q) ∧ p < 2 * k ∧ q < 2 * k ∧ ix (t 2 (owS σ k)) = olw (owS σ) p ∧ ix (t 3 (owS σ k)) = olw (owS σ) q := by
  have hS := h.sf0 (fun _ => 0) (fun _ => 0)
  have hkN := hS.2.1 k hk
  have h2 := h.2.2.1.2.2.2.2 k hb hk
  obtain ⟨⟨-, -, b1, b2⟩, n12⟩ := hL.2.2 (owS σ k) hkN (Or.inl h2)
  obtain ⟨n1, n2⟩ := n12 h2
  have c1 := b1.2
  have c2 := b2.2
  obtain ⟨e1, -⟩ := olw_oli hS (show ix (t 2 (owS σ k)) < 2 * N by omega) n1
  obtain ⟨e2, -⟩ := olw_oli hS (show ix (t 3 (owS σ k)) < 2 * N by omega) n2
  exact ⟨_, _, if_neg (by omega), oli_lt hS hk c1 n1, oli_lt hS hk c2 n2, e1.symm, e2.symm⟩
theorem rl_wf (h : InvB σ τ ρ N I O A G S M) (hL : Lit σ τ s t N) : wfR (1 + I + O) (RL2 σ τ t I (1 + I + O)) := fun k hk p q e => by
  by_cases hb : k < 1 + I
  · unfold RL2 at e; rw [if_pos hb] at e; cases e
  · obtain ⟨p2, q2, e2, a, b, -⟩ := rl_at h hL (show 1 + I ≤ k by omega) hk
    rw [e2] at e; cases e; exact ⟨a, b⟩
theorem rl_per (h : InvB σ τ ρ N I O A G S M) (hL : Lit σ τ s t N) : ∀ k, k < 1 + I + O → perI I (Ev (RL2 σ τ t I (1 + I + O)) k) := by
  have hI : I ≤ 5 := h.1.2.2.2.2.2.2.2.2.1
  intro k
  induction k using Nat.strongRecOn with
  | ind k ih =>
    intro hk
    rw [Ev_eq (rl_wf h hL) hk]
    by_cases hb : k < 1 + I
    · unfold RL2; rw [if_pos hb]; exact (h.2.1 _ (h.2.2.1.2.1 k hk).1.2).2.2.2.2
    · obtain ⟨p, q, e, a, b, -⟩ := rl_at h hL (show 1 + I ≤ k by omega) hk
      rw [e]
      exact perI.and hI (perI.lit (ih (p / 2) (by omega) (by omega)) hI) (perI.lit (ih (q / 2) (by omega) (by omega)) hI)
/-- the reference's tables -/
theorem rl_wo (h : InvB σ τ ρ N I O A G S M) (hL : Lit σ τ s t N) : (∀ k, k < 1 + I + O → woF t 0 N 4 (owS σ k) = Ev (RL2 σ τ t I (1 + I + O)) k) ∧ ∀ j, ¬ τ 1 j = 2 → woF t 0 N 4 j = τ 4 j := by
  have hS := h.sf0 (fun _ => 0) (fun _ => 0)
  have t1 := hL.2.1 1 (by decide)
  have t4 := hL.2.1 4 (by decide)
  have hS2 : SF t N (1 + I) (1 + I + O) 0 (owS σ) (fun _ => 0) (fun _ => 0) := by
    unfold SF at *
    rw [t1]
    exact ⟨hS.1, hS.2.1, hS.2.2.1, hS.2.2.2.1, hS.2.2.2.2.1, fun i hi => absurd hi (by omega), fun i hi => absurd hi (by omega), hS.2.2.2.2.2.2.2⟩
  refine ⟨fun k hk => ?_, fun j hj => ?_⟩
  · have := wo_full hS2 (R := RL2 σ τ t I (1 + I + O)) (fun k hb hk => rl_at h hL hb hk) (rl_wf h hL) (m := 0) (fun k hk hc => by
      have hb : k < 1 + I := hc.elim id (fun q => absurd q (by omega))
      rw [t4, Ev_eq (rl_wf h hL) hk]
      unfold RL2
      rw [if_pos hb]
      rfl) N (by omega) k hk (Or.inr (by have := hS.2.1 k hk; omega))
    exact this
  · rw [wo_keep t 0 (Or.inr (by rw [t1]; exact hj)), t4]
/-- the class's columns -/
theorem rl_rf (h : InvB σ τ ρ N I O A G S M) (hL : Lit σ τ s t N) : ∀ i, i ≤ O → (∀ k, k < 1 + I + i → rf s (1 + I) i 4 (owS σ k) = Ev (RL2 σ τ t I (1 + I + O)) k) ∧ ∀ j, (∀ k, k < 1 + I + O → owS σ k ≠ j) → rf s (1 + I) i 4 j = σ 4 j
  | 0, _ => by
    have s4 := hL.1 4 (by decide)
    refine ⟨fun k hk => ?_, fun j _ => by show s 4 j = _; rw [s4]⟩
    show s 4 (owS σ k) = _
    have hk : k < 1 + I := hk
    rw [s4, Ev_eq (rl_wf h hL) (show k < 1 + I + O by omega)]
    unfold RL2
    rw [if_pos hk]
    exact (h.2.1 _ (h.2.2.1.2.1 k (by omega)).1.2).2.1
  | i + 1, hi => by
    obtain ⟨hF, hN⟩ := rl_rf h hL i (by omega)
    have s6 := hL.1 6 (by decide)
    have hS := h.sf0 (fun _ => 0) (fun _ => 0)
    have hk : 1 + I + i < 1 + I + O := by omega
    have h2 := h.2.2.1.2.2.2.2 (1 + I + i) (by omega) hk
    obtain ⟨⟨q1, q2, -⟩, -⟩ := hL.2.2 _ (h.2.2.1.2.1 (1 + I + i) hk).1.2 (Or.inl h2)
    obtain ⟨p, q, e, a, b, e2, e3⟩ := rl_at h hL (k := 1 + I + i) (by omega) hk
    have hv : cl (rf s (1 + I) i 4) (ix (s 2 (ix (s 6 (1 + I + i))))) &&& cl (rf s (1 + I) i 4) (ix (s 3 (ix (s 6 (1 + I + i))))) = Ev (RL2 σ τ t I (1 + I + O)) (1 + I + i) := by
      rw [s6, q1, q2, Ev_eq (rl_wf h hL) hk, e]
      have e2 : ix (t 2 (ix (σ 6 (1 + I + i)))) = olw (owS σ) p := e2
      have e3 : ix (t 3 (ix (σ 6 (1 + I + i)))) = olw (owS σ) q := e3
      rw [e2, e3, cl_olw, cl_olw]
      show _ = cl _ _ &&& cl _ _
      rw [cl_cg (f := fun k => rf s (1 + I) i 4 (owS σ k)) (g := Ev (RL2 σ τ t I (1 + I + O))) (a := p) (hF (p / 2) (by omega)), cl_cg (f := fun k => rf s (1 + I) i 4 (owS σ k)) (g := Ev (RL2 σ τ t I (1 + I + O))) (a := q) (hF (q / 2) (by omega))]
    have hs : ∀ j, rf s (1 + I) (i + 1) 4 j = if j = ix (s 6 (1 + I + i)) then Ev (RL2 σ τ t I (1 + I + O)) (1 + I + i) else rf s (1 + I) i 4 j := fun j => by rw [← hv]; rfl
    refine ⟨fun k hk2 => ?_, fun j hj => ?_⟩
    · rw [hs, s6]
      by_cases q : k = 1 + I + i
      · rw [if_pos (show owS σ k = ix (σ 6 (1 + I + i)) by rw [q]; rfl), q]
      · rw [if_neg (show ¬ owS σ k = ix (σ 6 (1 + I + i)) from fun z => q (hS.inj (by omega) hk z))]
        exact hF k (by omega)
    · rw [hs, s6, if_neg (fun z => hj _ hk z.symm)]
      exact hN j hj
/-- both with the new literals -/
theorem rl_nd (h : InvB σ τ ρ N I O A G S M) (hL : Lit σ τ s t N) : ∀ j, j < N → NdJ (rf s (1 + I) O) (woF t 0 N) ρ I j := by
  intro j hj
  obtain ⟨w1, w2⟩ := rl_wo h hL
  obtain ⟨r1, r2⟩ := rl_rf h hL O (Nat.le_refl O)
  have hS := h.sf0 (fun _ => 0) (fun _ => 0)
  obtain ⟨k1, k2, k3, k4, k5⟩ := h.2.1 j hj
  have e1 : rf s (1 + I) O 1 = σ 1 := (rf_k s (1 + I) 1 (by decide) O).trans (hL.1 1 (by decide))
  have e2 : rf s (1 + I) O 2 = s 2 := rf_k s (1 + I) 2 (by decide) O
  have e3 : rf s (1 + I) O 3 = s 3 := rf_k s (1 + I) 3 (by decide) O
  have e5 : rf s (1 + I) O 5 = σ 5 := (rf_k s (1 + I) 5 (by decide) O).trans (hL.1 5 (by decide))
  have e11 : rf s (1 + I) O 11 = σ 11 := (rf_k s (1 + I) 11 (by decide) O).trans (hL.1 11 (by decide))
  have e12 : rf s (1 + I) O 12 = σ 12 := (rf_k s (1 + I) 12 (by decide) O).trans (hL.1 12 (by decide))
  have t1 : woF t 0 N 1 = τ 1 := (woF_k t 0 1 (by decide) N).trans (hL.2.1 1 (by decide))
  have t2 : woF t 0 N 2 = t 2 := woF_k t 0 2 (by decide) N
  have t3 : woF t 0 N 3 = t 3 := woF_k t 0 3 (by decide) N
  have t5 : woF t 0 N 5 = τ 5 := (woF_k t 0 5 (by decide) N).trans (hL.2.1 5 (by decide))
  have col : rf s (1 + I) O 4 j = woF t 0 N 4 j ∧ perI I (woF t 0 N 4 j) := by
    by_cases q : ∃ k, k < 1 + I + O ∧ owS σ k = j
    · obtain ⟨k, hk, e⟩ := q
      rw [← e, r1 k hk, w1 k hk]
      exact ⟨rfl, rl_per h hL k hk⟩
    · have ho : ¬ τ 1 j = 2 := fun z => by
        obtain ⟨k, -, hk, e⟩ := hS.old hj z
        exact q ⟨k, hk, e⟩
      rw [r2 j (fun k hk e => q ⟨k, hk, e⟩), w2 j ho, k2]
      exact ⟨rfl, k5⟩
  unfold NdJ LtP OlP
  rw [e1, e2, e3, e5, e11, e12, t1, t2, t3, t5]
  refine ⟨k1, col.1, fun q => (hL.2.2 j hj q).1, fun q => ⟨(hL.2.2 j hj (Or.inl q)).2 q, ?_, (k4 q).2.2⟩, col.2⟩
  obtain ⟨k, hb, hk, e⟩ := hS.old hj q
  obtain ⟨p, r, f1, f2, f3, f4, f5⟩ := rl_at h hL hb hk
  rw [← e, w1 k hk, Ev_eq (rl_wf h hL) hk, f1, f4, f5, cl_olw, cl_olw]
  show cl _ _ &&& cl _ _ = _
  rw [cl_cg (f := fun k => woF t 0 N 4 (owS σ k)) (g := Ev (RL2 σ τ t I (1 + I + O))) (a := p) (w1 (p / 2) (by omega)), cl_cg (f := fun k => woF t 0 N 4 (owS σ k)) (g := Ev (RL2 σ τ t I (1 + I + O))) (a := r) (w1 (r / 2) (by omega))]
theorem rl_hw (h : InvB σ τ ρ N I O A G S M) (hL : Lit σ τ s t N) : ∀ n, 1 + I ≤ n → n < 1 + I + O → okL (σ 6 n) 38 ∧ okL (s 2 (ix (σ 6 n))) 76 ∧ okL (s 3 (ix (σ 6 n))) 76 := fun n hb hn => by
  have hN : N ≤ 38 := h.rs.2.2.1
  have k := (h.2.2.1.2.1 n hn).1
  have k2 := k.2
  obtain ⟨⟨a, b, c, d⟩, -⟩ := hL.2.2 _ k.2 (Or.inl (h.2.2.1.2.2.2.2 n hb hn))
  exact ⟨okL_mono k hN, by rw [a]; exact okL_mono c (by omega), by rw [b]; exact okL_mono d (by omega)⟩
/-- .. and the invariant, but for counts and the past -/
theorem rl_inv (h : InvB σ τ ρ N I O A G S M) (hL : Lit σ τ s t N) {M2 : Nat} (hc : Cn s t N I O A G S M2) (hp : ∀ i, i < M2 → PaJ s t N i) : Inv (up (rf s (1 + I) O) 0 0 (-1)) (up (woF t 0 N) 0 7 0) ρ := by
  refine ⟨N, I, O, A, G, S, M2, ⟨?_, rl_nd h hL, ?_, fun i hi => ?_, fun k hk => ?_, fun i hi => ?_, ?_⟩, Or.inl ⟨rfl, rfl⟩⟩
  · have a : rf s (1 + I) O 0 = s 0 := rf_k s (1 + I) 0 (by decide) O
    have b : woF t 0 N 0 = t 0 := woF_k t 0 0 (by decide) N
    show Cn (rf s (1 + I) O) (woF t 0 N) N I O A G S M2
    unfold Cn at *
    rw [a, b]; exact hc
  · show OwP (rf s (1 + I) O) (woF t 0 N) N I O
    unfold OwP
    rw [rf_k s (1 + I) 6 (by decide) O, hL.1 6 (by decide), woF_k t 0 1 (by decide) N, hL.2.1 1 (by decide)]
    exact h.2.2.1
  · show OuJ (rf s (1 + I) O) (woF t 0 N) N i
    unfold OuJ
    rw [rf_k s (1 + I) 7 (by decide) O, hL.1 7 (by decide), rf_k s (1 + I) 8 (by decide) O, hL.1 8 (by decide), woF_k t 0 1 (by decide) N, hL.2.1 1 (by decide), woF_k t 0 6 (by decide) N, hL.2.1 6 (by decide), woF_k t 0 7 (by decide) N, hL.2.1 7 (by decide)]
    exact h.2.2.2.1 i hi
  · show SpJ (rf s (1 + I) O) ρ k
    unfold SpJ
    rw [rf_k s (1 + I) 13 (by decide) O, hL.1 13 (by decide), rf_k s (1 + I) 14 (by decide) O, hL.1 14 (by decide)]
    exact h.2.2.2.2.1 k hk
  · obtain ⟨r, r1, r2, r3, r4⟩ := hp i hi
    refine ⟨r, r1, ?_, ?_, fun k hk => ?_⟩
    · show rf s (1 + I) O 16 i = _
      rw [rf_k s (1 + I) 16 (by decide) O]; exact r2
    · show woF t 0 N 12 i = _
      rw [woF_k t 0 12 (by decide) N]; exact r3
    · show (rf s (1 + I) O 17 _ = woF t 0 N 13 _ ∧ rf s (1 + I) O 18 _ = woF t 0 N 14 _ ∧ rf s (1 + I) O 19 _ = woF t 0 N 15 _) ∧ EdP (up (woF t 0 N) 0 7 0) N (woF t 0 N 13 _) (woF t 0 N 14 _) (woF t 0 N 15 _)
      rw [rf_k s (1 + I) 17 (by decide) O, rf_k s (1 + I) 18 (by decide) O, rf_k s (1 + I) 19 (by decide) O, woF_k t 0 13 (by decide) N, woF_k t 0 14 (by decide) N, woF_k t 0 15 (by decide) N]
      exact ⟨(r4 k hk).1, (r4 k hk).2.cg (woF_k t 0 1 (by decide) N)⟩
  · obtain ⟨z1, z2, z3⟩ := h.2.2.2.2.2.2
    have hc0 := h.1.2.2.2.2.2.2.2.1
    have hk0 : (0 : Nat) < 1 + I + O := by omega
    have o0 : owS σ 0 = 0 := by unfold owS; rw [z3]; rfl
    refine ⟨?_, ?_, ?_⟩
    · show rf s (1 + I) O 1 0 = 0
      rw [rf_k s (1 + I) 1 (by decide) O, hL.1 1 (by decide)]; exact z1
    · show rf s (1 + I) O 4 0 = 0
      have := (rl_rf h hL O (Nat.le_refl O)).1 0 hk0
      rw [o0] at this
      rw [this, Ev_eq (rl_wf h hL) hk0]
      unfold RL2
      rw [if_pos (by omega), o0]
      show τ 4 0 = 0
      rw [← (h.2.1 0 (by omega)).2.1]; exact z2
    · show rf s (1 + I) O 6 0 = 0
      rw [rf_k s (1 + I) 6 (by decide) O, hL.1 6 (by decide)]; exact z3
/-! undo -/
theorem tb_lit (h : InvB σ τ ρ N I O A G S (M + 1)) {r : Nat} (hk : ∀ k, k < r → (σ 17 (2 + (2 * M + k)) = τ 13 (2 * M + k) ∧ σ 18 (2 + (2 * M + k)) = τ 14 (2 * M + k) ∧ σ 19 (2 + (2 * M + k)) = τ 15 (2 * M + k)) ∧ EdP τ N (τ 13 (2 * M + k)) (τ 14 (2 * M + k)) (τ 15 (2 * M + k))) : ∀ i, i ≤ r → Lit σ τ (tbF σ M i) (unF τ M i) N
  | 0, _ => ⟨fun k hk => tbF_k σ M k (by omega) (by omega) (by omega) 0, fun k hk => unF_k τ M k (by omega) (by omega) (by omega) 0, fun j hj ho => by
    obtain ⟨-, -, k3, k4, -⟩ := h.2.1 j hj
    exact ⟨k3 ho, fun q => (k4 q).1⟩⟩
  | i + 1, hi => by
    obtain ⟨-, -, ih⟩ := tb_lit h hk i (by omega)
    refine ⟨fun k hk => tbF_k σ M k (by omega) (by omega) (by omega) _, fun k hk => unF_k τ M k (by omega) (by omega) (by omega) _, fun j hj ho => ?_⟩
    obtain ⟨⟨a1, a2, a3⟩, b1, b2, b3, b4, b5, b6⟩ := hk i (by omega)
    have c17 : tbF σ M i 17 = σ 17 := tbF_k σ M 17 (by decide) (by decide) (by decide) i
    have c18 : tbF σ M i 18 = σ 18 := tbF_k σ M 18 (by decide) (by decide) (by decide) i
    have c19 : tbF σ M i 19 = σ 19 := tbF_k σ M 19 (by decide) (by decide) (by decide) i
    show ((upd (tbF σ M i 2) (ix (tbF σ M i 17 (2 + (2 * M + i)))) (tbF σ M i 18 (2 + (2 * M + i))) j = upd (unF τ M i 2) (ix (τ 13 (2 * M + i))) (τ 14 (2 * M + i)) j ∧ upd (tbF σ M i 3) (ix (tbF σ M i 17 (2 + (2 * M + i)))) (tbF σ M i 19 (2 + (2 * M + i))) j = upd (unF τ M i 3) (ix (τ 13 (2 * M + i))) (τ 15 (2 * M + i)) j ∧ okL (upd (unF τ M i 2) (ix (τ 13 (2 * M + i))) (τ 14 (2 * M + i)) j) (2 * j) ∧ okL (upd (unF τ M i 3) (ix (τ 13 (2 * M + i))) (τ 15 (2 * M + i)) j) (2 * j))) ∧ (τ 1 j = 2 → ¬ τ 1 (ix (upd (unF τ M i 2) (ix (τ 13 (2 * M + i))) (τ 14 (2 * M + i)) j) / 2) = 3 ∧ ¬ τ 1 (ix (upd (unF τ M i 3) (ix (τ 13 (2 * M + i))) (τ 15 (2 * M + i)) j) / 2) = 3)
    rw [c17, c18, c19, a1, a2, a3]
    by_cases e : j = ix (τ 13 (2 * M + i))
    · rw [upd_k e, upd_k e, upd_k e, upd_k e, e]
      exact ⟨⟨rfl, rfl, b3, b4⟩, fun _ => ⟨b5, b6⟩⟩
    · rw [upd_n e, upd_n e, upd_n e, upd_n e]
      exact ih j hj ho
theorem st_undo (h : Inv σ τ ρ) : ∃ (v : Int32) (σ2 τ2 : stT) (d : Nat), d ≤ 4 ∧ w_C l g y yX7_undo cX7_undo 1 (some .boolean) 8 [.ref (aC 0)] (cw aC y σ) (some (.int v)) (cw aC y σ2) ∧ w_C l g y yX8_undo cX8_undo 3 (some .boolean) d [.ref (aR 0)] (rw aR y τ ρ) (some (.int v)) (rw aR y τ2 ρ) ∧ Inv σ2 τ2 ρ := by
  obtain ⟨N, I, O, A, G, S, M, hB, hr⟩ := id h
  obtain ⟨c1, c2, c3, c4, c5, c6, ⟨m1, m2⟩, c8, c9, c10, c11, c12, c13, c14⟩ := hB.1
  match M, hB, m1, m2, c14 with
  | 0, hB, m1, m2, _ => exact ⟨_, σ, _, 4, by decide, c_X7_undo_0 l g y aC σ m1, c_X8_undo_0 l g y aR τ ρ m2, h.thr 0⟩
  | M + 1, hB, m1, m2, c14 =>
    obtain ⟨r, r1, r2, r3, r4⟩ := hB.2.2.2.2.2.1 M (by omega)
    have hL := tb_lit hB r4 r (Nat.le_refl r)
    have hN : N ≤ 38 := by omega
    refine ⟨_, _, _, 3, by decide, c_X7_undo_1 l g y aC σ c2.1 c3.1 (by omega) m1 (by omega) r1 r2 (fun k hk => by rw [(r4 k hk).1.1]; exact okL_mono (r4 k hk).2.1 hN) (rl_hw hB hL), c_X8_undo_1 l g y aR τ ρ hB.rs m2 (by omega) r3 r1 (fun k hk => ?_), rl_inv hB hL (M2 := M) ?_ (fun i hi => ?_)⟩
    · obtain ⟨-, b1, b2, b3, b4, -⟩ := r4 k hk
      have := b1.2
      exact ⟨okL_mono b1 (by omega), okL_mono b3 (by omega), okL_mono b4 (by omega)⟩
    · have s0 : ∀ j, j ≠ 8 → tbF σ M r 0 j = σ 0 j := fun j hj => tbF_0 σ M j hj r
      have t0 : ∀ j, j ≠ 0 → j ≠ 10 → unF τ M r 0 j = τ 0 j := fun j h0 h10 => by
        rw [unF_0 τ M j r]
        show upd (upd (τ 0) 0 0) 10 (nI M) j = _
        rw [upd_n h10, upd_n h0]
      unfold Cn
      rw [s0 1 (by decide), s0 2 (by decide), s0 3 (by decide), s0 4 (by decide), s0 5 (by decide), s0 6 (by decide), tbF_8, t0 1 (by decide) (by decide), t0 2 (by decide) (by decide), t0 3 (by decide) (by decide), t0 4 (by decide) (by decide), t0 5 (by decide) (by decide), t0 6 (by decide) (by decide), unF_0 τ M 10 r]
      exact ⟨c1, c2, c3, c4, c5, c6, ⟨rfl, rfl⟩, c8, c9, c10, c11, c12, c13, by omega⟩
    · obtain ⟨q, q1, q2, q3, q4⟩ := hB.2.2.2.2.2.1 i (by omega)
      refine ⟨q, q1, ?_, ?_, fun k hk => ?_⟩
      · rw [tbF_k σ M 16 (by decide) (by decide) (by decide) r]; exact q2
      · rw [unF_k τ M 12 (by decide) (by decide) (by decide) r]; exact q3
      · rw [tbF_k σ M 17 (by decide) (by decide) (by decide) r, tbF_k σ M 18 (by decide) (by decide) (by decide) r, tbF_k σ M 19 (by decide) (by decide) (by decide) r, unF_k τ M 13 (by decide) (by decide) (by decide) r, unF_k τ M 14 (by decide) (by decide) (by decide) r, unF_k τ M 15 (by decide) (by decide) (by decide) r]
        exact ⟨(q4 k hk).1, (q4 k hk).2.cg (unF_k τ M 1 (by decide) (by decide) (by decide) r)⟩
/-! make -/
theorem rm_at (σ : stT) (M : Nat) : ∀ i j, (j < 2 + 2 * M → rmF σ M i 17 j = σ 17 j ∧ rmF σ M i 18 j = σ 18 j ∧ rmF σ M i 19 j = σ 19 j) ∧ (∀ k, k < i → i ≤ 2 → rmF σ M i 17 (2 + (2 * M + k)) = σ 17 k ∧ rmF σ M i 18 (2 + (2 * M + k)) = σ 2 (ix (σ 17 k)) ∧ rmF σ M i 19 (2 + (2 * M + k)) = σ 3 (ix (σ 17 k)))
  | 0, j => ⟨fun _ => ⟨rfl, rfl, rfl⟩, fun k hk => absurd hk (by omega)⟩
  | i + 1, j => by
    have e2 : rmF σ M i 2 = σ 2 := rmF_k σ M 2 (by decide) (by decide) (by decide) i
    have e3 : rmF σ M i 3 = σ 3 := rmF_k σ M 3 (by decide) (by decide) (by decide) i
    constructor
    · intro hj
      obtain ⟨a, b, c⟩ := (rm_at σ M i j).1 hj
      show upd (rmF σ M i 17) (2 + (2 * M + i)) _ j = _ ∧ upd (rmF σ M i 18) (2 + (2 * M + i)) _ j = _ ∧ upd (rmF σ M i 19) (2 + (2 * M + i)) _ j = _
      rw [upd_n (by omega), upd_n (by omega), upd_n (by omega)]
      exact ⟨a, b, c⟩
    · intro k hk hi
      have e17 : rmF σ M i 17 i = σ 17 i := rmF_17 σ M i (by omega) i
      show upd (rmF σ M i 17) (2 + (2 * M + i)) (rmF σ M i 17 i) (2 + (2 * M + k)) = _ ∧ upd (rmF σ M i 18) (2 + (2 * M + i)) (rmF σ M i 2 (ix (rmF σ M i 17 i))) (2 + (2 * M + k)) = _ ∧ upd (rmF σ M i 19) (2 + (2 * M + i)) (rmF σ M i 3 (ix (rmF σ M i 17 i))) (2 + (2 * M + k)) = _
      rw [e2, e3, e17]
      by_cases e : k = i
      · subst e
        rw [upd_s, upd_s, upd_s]
        exact ⟨rfl, rfl, rfl⟩
      · rw [upd_n (by omega), upd_n (by omega), upd_n (by omega)]
        exact (rm_at σ M i 0).2 k (by omega) (by omega)
theorem mw_k (σ : stT) (M r k : Nat) (h : k = 1 ∨ k = 4 ∨ k = 5 ∨ k = 6 ∨ k = 7 ∨ k = 8 ∨ k = 11 ∨ k = 12 ∨ k = 13 ∨ k = 14) (i : Nat) : mwF (rememberF σ M r) i k = σ k := (mwF_k _ k (by omega) (by omega) i).trans (rmb_k σ M r k (by omega) (by omega) (by omega) (by omega) (by omega))
theorem mk_lit (h : InvB σ τ ρ N I O A G S M) {r : Nat} (hr : r ≤ 2) (hk : ∀ k, k < r → (σ 17 k = τ 8 k ∧ σ 18 k = τ 9 k ∧ σ 19 k = τ 10 k) ∧ EdP τ N (τ 8 k) (τ 9 k) (τ 10 k)) : ∀ i, i ≤ r → Lit σ τ (mwF (rememberF σ M r) i) (mkF τ M i) N
  | 0, _ => ⟨fun k hk => mw_k σ M r k hk 0, fun k hk => mkF_k τ M k (by omega) (by omega) (by omega) (by omega) (by omega) (by omega) 0, fun j hj ho => by
    obtain ⟨-, -, k3, k4, -⟩ := h.2.1 j hj
    show (rememberF σ M r 2 j = τ 2 j ∧ rememberF σ M r 3 j = τ 3 j ∧ okL (τ 2 j) (2 * j) ∧ okL (τ 3 j) (2 * j)) ∧ (τ 1 j = 2 → ¬ τ 1 (ix (τ 2 j) / 2) = 3 ∧ ¬ τ 1 (ix (τ 3 j) / 2) = 3)
    rw [rmb_k σ M r 2 (by decide) (by decide) (by decide) (by decide) (by decide), rmb_k σ M r 3 (by decide) (by decide) (by decide) (by decide) (by decide)]
    exact ⟨k3 ho, fun q => (k4 q).1⟩⟩
  | i + 1, hi => by
    obtain ⟨-, -, ih⟩ := mk_lit h hr hk i (by omega)
    refine ⟨fun k hk => mw_k σ M r k hk _, fun k hk => mkF_k τ M k (by omega) (by omega) (by omega) (by omega) (by omega) (by omega) _, fun j hj ho => ?_⟩
    obtain ⟨⟨a1, a2, a3⟩, b1, b2, b3, b4, b5, b6⟩ := hk i (by omega)
    obtain ⟨q1, q2, q3⟩ := (rm_at σ M r i).1 (by omega)
    have c17 : mwF (rememberF σ M r) i 17 i = τ 8 i := ((congrFun (mwF_k (rememberF σ M r) 17 (by decide) (by decide) i) i).trans (show rememberF σ M r 17 i = σ 17 i from q1)).trans a1
    have c18 : mwF (rememberF σ M r) i 18 i = τ 9 i := ((congrFun (mwF_k (rememberF σ M r) 18 (by decide) (by decide) i) i).trans (show rememberF σ M r 18 i = σ 18 i from q2)).trans a2
    have c19 : mwF (rememberF σ M r) i 19 i = τ 10 i := ((congrFun (mwF_k (rememberF σ M r) 19 (by decide) (by decide) i) i).trans (show rememberF σ M r 19 i = σ 19 i from q3)).trans a3
    show ((upd (mwF (rememberF σ M r) i 2) (ix (mwF (rememberF σ M r) i 17 i)) (mwF (rememberF σ M r) i 18 i) j = upd (mkF τ M i 2) (ix (τ 8 i)) (τ 9 i) j ∧ upd (mwF (rememberF σ M r) i 3) (ix (mwF (rememberF σ M r) i 17 i)) (mwF (rememberF σ M r) i 19 i) j = upd (mkF τ M i 3) (ix (τ 8 i)) (τ 10 i) j ∧ okL (upd (mkF τ M i 2) (ix (τ 8 i)) (τ 9 i) j) (2 * j) ∧ okL (upd (mkF τ M i 3) (ix (τ 8 i)) (τ 10 i) j) (2 * j))) ∧ (τ 1 j = 2 → ¬ τ 1 (ix (upd (mkF τ M i 2) (ix (τ 8 i)) (τ 9 i) j) / 2) = 3 ∧ ¬ τ 1 (ix (upd (mkF τ M i 3) (ix (τ 8 i)) (τ 10 i) j) / 2) = 3)
    rw [c17, c18, c19]
    by_cases e : j = ix (τ 8 i)
    · rw [upd_k e, upd_k e, upd_k e, upd_k e, e]
      exact ⟨⟨rfl, rfl, b3, b4⟩, fun _ => ⟨b5, b6⟩⟩
    · rw [upd_n e, upd_n e, upd_n e, upd_n e]
      exact ih j hj ho
/-- what the reference keeps of a making -/
theorem mk_at (τ : stT) (M : Nat) (hne : ¬ ix (τ 8 0) = ix (τ 8 1)) : ∀ i j, (j < 2 * M → mkF τ M i 13 j = τ 13 j ∧ mkF τ M i 14 j = τ 14 j ∧ mkF τ M i 15 j = τ 15 j) ∧ (∀ k, k < i → i ≤ 2 → mkF τ M i 13 (2 * M + k) = τ 8 k ∧ mkF τ M i 14 (2 * M + k) = τ 2 (ix (τ 8 k)) ∧ mkF τ M i 15 (2 * M + k) = τ 3 (ix (τ 8 k)))
  | 0, j => ⟨fun _ => ⟨rfl, rfl, rfl⟩, fun k hk => absurd hk (by omega)⟩
  | i + 1, j => by
    constructor
    · intro hj
      obtain ⟨a, b, c⟩ := (mk_at τ M hne i j).1 hj
      show upd (mkF τ M i 13) (2 * M + i) _ j = _ ∧ upd (mkF τ M i 14) (2 * M + i) _ j = _ ∧ upd (mkF τ M i 15) (2 * M + i) _ j = _
      rw [upd_n (by omega), upd_n (by omega), upd_n (by omega)]
      exact ⟨a, b, c⟩
    · intro k hk hi
      have e2 : mkF τ M i 2 (ix (τ 8 i)) = τ 2 (ix (τ 8 i)) ∧ mkF τ M i 3 (ix (τ 8 i)) = τ 3 (ix (τ 8 i)) := by
        rcases (show i = 0 ∨ i = 1 by omega) with rfl | rfl
        · exact ⟨rfl, rfl⟩
        · exact ⟨upd_n (fun q => hne q.symm), upd_n (fun q => hne q.symm)⟩
      show upd (mkF τ M i 13) (2 * M + i) (τ 8 i) (2 * M + k) = _ ∧ upd (mkF τ M i 14) (2 * M + i) (mkF τ M i 2 (ix (τ 8 i))) (2 * M + k) = _ ∧ upd (mkF τ M i 15) (2 * M + i) (mkF τ M i 3 (ix (τ 8 i))) (2 * M + k) = _
      rw [e2.1, e2.2]
      by_cases e : k = i
      · subst e
        rw [upd_s, upd_s, upd_s]
        exact ⟨rfl, rfl, rfl⟩
      · rw [upd_n (by omega), upd_n (by omega), upd_n (by omega)]
        exact (mk_at τ M hne i 0).2 k (by omega) (by omega)
theorem mk_at1 (τ : stT) (M : Nat) {i : Nat} (hi : i ≤ 1) : (∀ j, j < 2 * M → mkF τ M i 13 j = τ 13 j ∧ mkF τ M i 14 j = τ 14 j ∧ mkF τ M i 15 j = τ 15 j) ∧ (∀ k, k < i → mkF τ M i 13 (2 * M + k) = τ 8 k ∧ mkF τ M i 14 (2 * M + k) = τ 2 (ix (τ 8 k)) ∧ mkF τ M i 15 (2 * M + k) = τ 3 (ix (τ 8 k))) := by
  rcases (show i = 0 ∨ i = 1 by omega) with rfl | rfl
  · exact ⟨fun j _ => ⟨rfl, rfl, rfl⟩, fun k hk => absurd hk (by omega)⟩
  · refine ⟨fun j hj => ?_, fun k hk => ?_⟩
    · show upd (τ 13) (2 * M + 0) _ j = _ ∧ upd (τ 14) (2 * M + 0) _ j = _ ∧ upd (τ 15) (2 * M + 0) _ j = _
      rw [upd_n (by omega), upd_n (by omega), upd_n (by omega)]
      exact ⟨rfl, rfl, rfl⟩
    · obtain rfl : k = 0 := by omega
      exact ⟨upd_s _ _ _, upd_s _ _ _, upd_s _ _ _⟩
theorem st_make (hst : l.stackTraces = false) (h : Inv σ τ ρ) : StI l g y aC aR ao .int Int32.toInt64 yL_make cL_make 3 hh_make yX8_make cX8_make 3 [] σ τ ρ f := by
  obtain ⟨N, I, O, A, G, S, M, hB, hr⟩ := id h
  obtain ⟨c1, c2, c3, c4, c5, c6, ⟨m1, m2⟩, c8, c9, c10, c11, c12, c13, c14⟩ := hB.1
  have no : σ 0 0 = -1 ∨ M = 20 → τ 0 7 = 0 ∨ M = 20 → StI l g y aC aR ao .int Int32.toInt64 yL_make cL_make 3 hh_make yX8_make cX8_make 3 [] σ τ ρ f := fun p q => ⟨1, σ, f, 0, _, ρ, 4, by decide, by decide, h_make_1 l g y aC (c_X7_make_1 l g y aC σ m1 c14 p hst), c_X8_make_1 l g y aR τ ρ m2 c14 q, rfl, fun q => absurd q (by decide), h.thr 1⟩
  rcases hr with ⟨a, b⟩ | ⟨r, r1, r2, r3, r4, r5, r6, r7, r8⟩
  · exact no (Or.inl a) (Or.inl b)
  · by_cases hM : M = 20
    · exact no (Or.inr hM) (Or.inr hM)
    · have hM : M < 20 := by omega
      have hN : N ≤ 38 := by omega
      have hL := mk_lit hB r1 r5 r (Nat.le_refl r)
      have hLit2 : Lit σ τ (mwF (rememberF σ M r) r) (up (up (mkF τ M r) 12 M (nI r)) 0 10 (nI (M + 1))) N := ⟨hL.1, fun k hk => by
        rcases hk with rfl | rfl | rfl | rfl | rfl
        · exact hL.2.1 1 (by decide)
        · exact hL.2.1 4 (by decide)
        · exact hL.2.1 5 (by decide)
        · exact hL.2.1 6 (by decide)
        · exact hL.2.1 7 (by decide), hL.2.2⟩
      have hmk : (∀ j, j < 2 * M → mkF τ M r 13 j = τ 13 j ∧ mkF τ M r 14 j = τ 14 j ∧ mkF τ M r 15 j = τ 15 j) ∧ (∀ k, k < r → mkF τ M r 13 (2 * M + k) = τ 8 k ∧ mkF τ M r 14 (2 * M + k) = τ 2 (ix (τ 8 k)) ∧ mkF τ M r 15 (2 * M + k) = τ 3 (ix (τ 8 k))) := by
        by_cases q : r = 2
        · subst q
          have hne : ¬ ix (τ 8 0) = ix (τ 8 1) := fun e => r6 rfl (by rw [(r5 0 (by decide)).2.1.1, (r5 1 (by decide)).2.1.1, e])
          exact ⟨fun j hj => (mk_at τ M hne 2 j).1 hj, fun k hk => (mk_at τ M hne 2 0).2 k hk (Nat.le_refl 2)⟩
        · exact mk_at1 τ M (by omega)
      refine ⟨0, _, vp_updL f 0 (Int32.toInt64 (nI r)), _, _, ρ, 3, by decide, by decide, h_make_0 l g y aC _ (c_X7_make_0 l g y aC σ c2.1 c3.1 (by omega) r2 r1 m1 hM (fun k hk => by rw [(r5 k hk).1.1]; exact okL_mono (r5 k hk).2.1 hN) (rl_hw hB hL)).e, c_X8_make_0 l g y aR τ ρ hB.rs r3 m2 hM r4 r1 (fun k hk => ?_), ?_, fun _ => f0L _ _, rl_inv hB hLit2 (M2 := M + 1) ?_ (fun i hi => ?_)⟩
      · obtain ⟨-, b1, b2, b3, b4, -⟩ := r5 k hk
        have := b1.2
        exact ⟨okL_mono b1 (by omega), okL_mono b3 (by omega), okL_mono b4 (by omega)⟩
      · unfold maF
        show woF (up (up (mkF τ M r) 12 M (nI r)) 0 10 (nI (M + 1))) 0 N 0 0 = 0
        rw [woF_k _ 0 0 (by decide) N]
        show mkF τ M r 0 0 = 0
        have : ∀ i, mkF τ M i 0 0 = 0 := fun i => by
          induction i with
          | zero => rfl
          | succ i ih => exact ih
        exact this r
      · have s0 : ∀ j, j ≠ 8 → mwF (rememberF σ M r) r 0 j = σ 0 j := fun j hj => (congrFun (mwF_k _ 0 (by decide) (by decide) r) j).trans (rmb_0 σ M r j hj)
        have s8 : mwF (rememberF σ M r) r 0 8 = nI (M + 1) := (congrFun (mwF_k _ 0 (by decide) (by decide) r) 8).trans rfl
        have t0 : ∀ j, j ≠ 0 → j ≠ 10 → up (up (mkF τ M r) 12 M (nI r)) 0 10 (nI (M + 1)) 0 j = τ 0 j := fun j h0 h10 => by
          show upd (mkF τ M r 0) 10 (nI (M + 1)) j = _
          rw [upd_n h10]; exact mkF_0 τ M j h0 r
        unfold Cn
        rw [s0 1 (by decide), s0 2 (by decide), s0 3 (by decide), s0 4 (by decide), s0 5 (by decide), s0 6 (by decide), s8, t0 1 (by decide) (by decide), t0 2 (by decide) (by decide), t0 3 (by decide) (by decide), t0 4 (by decide) (by decide), t0 5 (by decide) (by decide), t0 6 (by decide) (by decide)]
        exact ⟨c1, c2, c3, c4, c5, c6, ⟨rfl, rfl⟩, c8, c9, c10, c11, c12, c13, by omega⟩
      · have e17 : mwF (rememberF σ M r) r 17 = rmF σ M r 17 := mwF_k _ 17 (by decide) (by decide) r
        have e18 : mwF (rememberF σ M r) r 18 = rmF σ M r 18 := mwF_k _ 18 (by decide) (by decide) r
        have e19 : mwF (rememberF σ M r) r 19 = rmF σ M r 19 := mwF_k _ 19 (by decide) (by decide) r
        have e16 : mwF (rememberF σ M r) r 16 = upd (rmF σ M r 16) M (nI r) := mwF_k _ 16 (by decide) (by decide) r
        have r16 : rmF σ M r 16 = σ 16 := rmF_k σ M 16 (by decide) (by decide) (by decide) r
        have t12 : mkF τ M r 12 = τ 12 := mkF_k τ M 12 (by decide) (by decide) (by decide) (by decide) (by decide) (by decide) r
        have t1 : mkF τ M r 1 = τ 1 := mkF_k τ M 1 (by decide) (by decide) (by decide) (by decide) (by decide) (by decide) r
        by_cases e : i = M
        · subst e
          refine ⟨r, r1, ?_, ?_, fun k hk => ?_⟩
          · rw [e16]; exact upd_s _ _ _
          · show upd (mkF τ i r 12) i (nI r) i = _
            exact upd_s _ _ _
          · obtain ⟨x1, x2, x3⟩ := (rm_at σ i r 0).2 k hk r1
            obtain ⟨y1, y2, y3⟩ := hmk.2 k hk
            obtain ⟨⟨a1, a2, a3⟩, b1, b2, b3, b4, b5, b6⟩ := r5 k hk
            obtain ⟨-, -, k3, k4, -⟩ := hB.2.1 (ix (τ 8 k)) b1.2
            obtain ⟨l1, l2, l3, l4⟩ := k3 (Or.inl b2)
            show (mwF (rememberF σ i r) r 17 _ = mkF τ i r 13 _ ∧ mwF (rememberF σ i r) r 18 _ = mkF τ i r 14 _ ∧ mwF (rememberF σ i r) r 19 _ = mkF τ i r 15 _) ∧ EdP (mkF τ i r) N (mkF τ i r 13 _) (mkF τ i r 14 _) (mkF τ i r 15 _)
            rw [e17, e18, e19, x1, x2, x3, y1, y2, y3, a1, l1, l2]
            refine ⟨⟨rfl, rfl, rfl⟩, ?_⟩
            unfold EdP
            rw [t1]
            exact ⟨b1, b2, l3, l4, (k4 b2).1.1, (k4 b2).1.2⟩
        · obtain ⟨q, q1, q2, q3, q4⟩ := hB.2.2.2.2.2.1 i (by omega)
          refine ⟨q, q1, ?_, ?_, fun k hk => ?_⟩
          · rw [e16, upd_n e, r16]; exact q2
          · show upd (mkF τ M r 12) M (nI r) i = _
            rw [upd_n e, t12]; exact q3
          · obtain ⟨x1, x2, x3⟩ := (rm_at σ M r (2 + (2 * i + k))).1 (by omega)
            obtain ⟨y1, y2, y3⟩ := hmk.1 (2 * i + k) (by omega)
            show (mwF (rememberF σ M r) r 17 _ = mkF τ M r 13 _ ∧ mwF (rememberF σ M r) r 18 _ = mkF τ M r 14 _ ∧ mwF (rememberF σ M r) r 19 _ = mkF τ M r 15 _) ∧ EdP (mkF τ M r) N (mkF τ M r 13 _) (mkF τ M r 14 _) (mkF τ M r 15 _)
            rw [e17, e18, e19, x1, x2, x3, y1, y2, y3]
            exact ⟨(q4 k hk).1, (q4 k hk).2.cg t1⟩
theorem st_dif (h : Inv σ τ ρ) : ∃ (v : Int32), w_C l g y yX7_differing cX7_differing 3 (some .int) 2 [.ref (aC 0)] (cw aC y σ) (some (.int v)) (cw aC y σ) ∧ w_C l g y yX8_differing cX8_differing 1 (some .int) 3 [.ref (aR 0)] (rw aR y τ ρ) (some (.int v)) (rw aR y (up τ 0 0 0) ρ) ∧ Inv σ (up τ 0 0 0) ρ := by
  obtain ⟨N, I, O, A, G, S, M, hB, hr⟩ := id h
  have c := c_X7_differing l g y aC σ hB.ws
  rw [dif_eq hB] at c
  exact ⟨_, c, c_X8_differing l g y aR τ ρ hB.rs, h.thr 0⟩
end MU
