/-! the reference's search: what it finds -/
def olw (ow : Nat → Nat) (a : Nat) : Nat := 2 * ow (a / 2) + a % 2
theorem cl_olw (ow : Nat → Nat) (g : Nat → Int32) (a : Nat) : cl g (olw ow a) = cl (fun k => g (ow k)) a := by
  unfold olw cl
  have h1 : (2 * ow (a / 2) + a % 2) % 2 = a % 2 := by omega
  have h2 : (2 * ow (a / 2) + a % 2) / 2 = ow (a / 2) := by omega
  rw [h1, h2]
theorem olw_2 (ow : Nat → Nat) (a : Nat) : olw ow a / 2 = ow (a / 2) := by unfold olw; omega
def SF (τ : stT) (N b K G : Nat) (ow mi : Nat → Nat) (du : Nat → Int32) : Prop :=
  (∀ n m, n < m → m < K → ow n < ow m) ∧ (∀ k, k < K → ow k < N) ∧ (∀ j, j < N → ¬ τ 1 j = 3 → ∃ k, k < K ∧ ow k = j) ∧ (∀ k, k < b → k < K → ¬ τ 1 (ow k) = 2 ∧ ¬ τ 1 (ow k) = 3) ∧ (∀ k, b ≤ k → k < K → τ 1 (ow k) = 2) ∧
  (∀ i, i < G → mi i < 2 * K ∧ ix (τ 6 i) = olw ow (mi i)) ∧ (∀ i, i < G → ix (τ 7 i) / 2 < N ∧ ¬ τ 1 (ix (τ 7 i) / 2) = 2 ∧ cl (τ 4) (ix (τ 7 i)) = du i) ∧ N ≤ 38
def RTB (τ : stT) (b K : Nat) (ow : Nat → Nat) (R : Nat → Ru) : Prop :=
  (∀ k, b ≤ k → k < K → ∃ p q, R k = .inr (p, q) ∧ p < 2 * k ∧ q < 2 * k ∧ ix (τ 2 (ow k)) = olw ow p ∧ ix (τ 3 (ow k)) = olw ow q) ∧ (∀ k, k < b → k < K → R k = .inl (τ 4 (ow k))) ∧ ∀ k, k < K → τ 4 (ow k) = Ev R k
/-- a store that the edits of one AND may leave -/
def IV (τ : stT) (N m : Nat) (t : stT) : Prop := Lr τ t ∧ (∀ j, j ≠ m → t 2 j = τ 2 j ∧ t 3 j = τ 3 j) ∧ ∀ j, j < N → (j < m ∨ ¬ τ 1 j = 2) → t 4 j = τ 4 j
def Sm (τ : stT) (N : Nat) (u : stT) : Prop := Lr τ u ∧ u 2 = τ 2 ∧ u 3 = τ 3 ∧ ∀ j, j < N → u 4 j = τ 4 j
theorem wo_keep (t : stT) (b : Nat) {j : Nat} (h : j < b ∨ ¬ t 1 j = 2) : ∀ i, woF t b i 4 j = t 4 j
  | 0 => rfl
  | i + 1 => by
    by_cases hs : t 1 (b + i) = 2
    · rw [woF_t hs]
      have hj : j ≠ b + i := fun q => h.elim (fun a => by omega) (fun a => a (by rw [q]; exact hs))
      unfold wkF
      split
      · show upd _ _ _ j = _
        unfold upd
        rw [if_neg hj]
        exact wo_keep t b h i
      · exact wo_keep t b h i
    · rw [woF_f hs]; exact wo_keep t b h i
section RS
variable {τ t : stT} {N b K G : Nat} {ow mi : Nat → Nat} {du : Nat → Int32} {R : Nat → Ru}
theorem SF.inj (h : SF τ N b K G ow mi du) {a c : Nat} (ha : a < K) (hc : c < K) (e : ow a = ow c) : a = c := by
  rcases Nat.lt_trichotomy a c with q | q | q
  · have := h.1 a c q hc; omega
  · exact q
  · have := h.1 c a q ha; omega
theorem SF.rev (h : SF τ N b K G ow mi du) {a c : Nat} (ha : a < K) (hc : c < K) (e : ow a < ow c) : a < c := by
  rcases Nat.lt_trichotomy a c with q | q | q
  · exact q
  · rw [q] at e; omega
  · have := h.1 c a q ha; omega
theorem SF.old (h : SF τ N b K G ow mi du) {j : Nat} (hj : j < N) (ho : τ 1 j = 2) : ∃ k, b ≤ k ∧ k < K ∧ ow k = j := by
  obtain ⟨k, hk, e⟩ := h.2.2.1 j hj (by rw [ho]; decide)
  refine ⟨k, Nat.le_of_not_lt (fun q => (h.2.2.2.1 k q hk).1 (by rw [e]; exact ho)), hk, e⟩
theorem SF.kind (h : SF τ N b K G ow mi du) {k : Nat} (hk : k < K) : ¬ τ 1 (ow k) = 3 := by
  by_cases q : k < b
  · exact (h.2.2.2.1 k q hk).2
  · rw [h.2.2.2.2.1 k (by omega) hk]; decide
theorem SF.to (h : SF τ N b K G ow mi du) (hL : Lr τ t) (h4 : ∀ j, j < N → ¬ τ 1 j = 2 → t 4 j = τ 4 j) : SF t N b K G ow mi du := by
  have e1 : t 1 = τ 1 := hL 1 (by decide) (by decide) (by decide) (by decide) (by decide) (by decide)
  have e6 : t 6 = τ 6 := hL 6 (by decide) (by decide) (by decide) (by decide) (by decide) (by decide)
  have e7 : t 7 = τ 7 := hL 7 (by decide) (by decide) (by decide) (by decide) (by decide) (by decide)
  unfold SF
  rw [e1, e6, e7]
  obtain ⟨a, a2, a3, a4, a5, a6, a7, a8⟩ := h
  refine ⟨a, a2, a3, a4, a5, a6, fun i hi => ?_, a8⟩
  obtain ⟨q1, q2, q3⟩ := a7 i hi
  exact ⟨q1, q2, by rw [cl_cg (h4 _ q1 q2)]; exact q3⟩
theorem RTB.wf (h : RTB τ b K ow R) : wfR K R := fun k hk p q e => by
  by_cases c : k < b
  · rw [h.2.1 k c hk] at e; cases e
  · obtain ⟨p1, q1, e1, a1, a2, -⟩ := h.1 k (by omega) hk
    rw [e1] at e; cases e; exact ⟨a1, a2⟩
/-- the tables made anew from node m on -/
theorem wo_full (hS : SF t N b K G ow mi du) (hr : ∀ k, b ≤ k → k < K → ∃ p q, R k = .inr (p, q) ∧ p < 2 * k ∧ q < 2 * k ∧ ix (t 2 (ow k)) = olw ow p ∧ ix (t 3 (ow k)) = olw ow q) (hw : wfR K R) {m : Nat} (hlow : ∀ k, k < K → (k < b ∨ ow k < m) → t 4 (ow k) = Ev R k) : ∀ i, m + i ≤ N → ∀ k, k < K → (k < b ∨ ow k < m + i) → woF t m i 4 (ow k) = Ev R k
  | 0, _, k, hk, hc => hlow k hk hc
  | i + 1, hi, k, hk, hc => by
    have ih := wo_full hS hr hw hlow i (by omega)
    by_cases hs : t 1 (m + i) = 2
    · rw [woF_t hs]
      have e1 : woF t m i 1 = t 1 := woF_k t m 1 (by decide) i
      have e2 : woF t m i 2 = t 2 := woF_k t m 2 (by decide) i
      have e3 : woF t m i 3 = t 3 := woF_k t m 3 (by decide) i
      unfold wkF
      rw [if_pos (by rw [e1]; exact Or.inl hs)]
      show upd (woF t m i 4) (m + i) _ (ow k) = _
      unfold upd
      by_cases e : ow k = m + i
      · rw [if_pos e, e2, e3, ← e]
        have hb : b ≤ k := Nat.le_of_not_lt (fun q => (hS.2.2.2.1 k q hk).1 (by rw [e]; exact hs))
        obtain ⟨p, q, r1, r2, r3, r4, r5⟩ := hr k hb hk
        have fp := ih (p / 2) (by omega) (Or.inr (by have := hS.1 (p / 2) k (by omega) hk; omega))
        have fq := ih (q / 2) (by omega) (Or.inr (by have := hS.1 (q / 2) k (by omega) hk; omega))
        rw [Ev_eq hw hk, r1, r4, r5, cl_olw, cl_olw]
        show cl _ _ &&& cl _ _ = cl _ _ &&& cl _ _
        rw [cl_cg (f := fun k => woF t m i 4 (ow k)) (g := Ev R) fp, cl_cg (f := fun k => woF t m i 4 (ow k)) (g := Ev R) fq]
      · rw [if_neg e]
        exact ih k hk (hc.imp_right (fun q => by omega))
    · rw [woF_f hs]
      refine ih k hk ?_
      by_cases q : k < b
      · exact Or.inl q
      · exact Or.inr (by
          have h2 := hS.2.2.2.2.1 k (by omega) hk
          have h3 := hc.resolve_left q
          have : ow k ≠ m + i := fun e => hs (by rw [← e]; exact h2)
          omega)
theorem cnt_0 (P : Nat → Prop) : ∀ n, cnt P n = 0 ↔ ∀ i, i < n → ¬ P i
  | 0 => ⟨fun _ i h => absurd h (by omega), fun _ => rfl⟩
  | n + 1 => by
    by_cases h : P n
    · rw [cnt_t h]; exact ⟨fun q => absurd q (by omega), fun q => absurd h (q n (by omega))⟩
    · rw [cnt_f h, cnt_0 P n]
      exact ⟨fun q i hi => by
        by_cases e : i = n
        · rw [e]; exact h
        · exact q i (by omega), fun q i hi => q i (by omega)⟩
theorem ap_ev (hS : SF τ N b K G ow mi du) (hT : ∀ k, k < K → τ 4 (ow k) = Ev R k) : apP τ G ↔ AC R mi du G = -1 := by
  unfold apP
  rw [cnt_0, AC_all]
  refine forall_congr' fun i => forall_congr' fun hi => ?_
  obtain ⟨m1, m2⟩ := hS.2.2.2.2.2.1 i hi
  obtain ⟨d1, d2, d3⟩ := hS.2.2.2.2.2.2.1 i hi
  unfold rdP
  rw [d3, m2, cl_olw, cl_cg (f := fun k => τ 4 (ow k)) (g := Ev R) (hT (mi i / 2) (by omega)), Classical.not_not]
/-- one AND edited: the store is a root again, by the new rules -/
theorem root_ed (hS : SF τ N b K G ow mi du) (hR : RTB τ b K ow R) {k : Nat} (hb : b ≤ k) (hk : k < K) (hV : IV τ N (ow k) t) {a c : Nat} (ha : a < 2 * k) (hc : c < 2 * k) :
    SF (woF (r23 t (ow k) (olw ow a) (olw ow c)) (ow k) (N - ow k)) N b K G ow mi du ∧ RTB (woF (r23 t (ow k) (olw ow a) (olw ow c)) (ow k) (N - ow k)) b K ow (updR R k (.inr (a, c))) ∧ IV τ N (ow k) (woF (r23 t (ow k) (olw ow a) (olw ow c)) (ow k) (N - ow k)) := by
  obtain ⟨hL, h23, h4⟩ := hV
  have hL2 := hL.tr (Lr.r23 t (ow k) (olw ow a) (olw ow c))
  have hL3 := hL2.tr (Lr.wo (r23 t (ow k) (olw ow a) (olw ow c)) (ow k) (N - ow k))
  have hkN := hS.2.1 k hk
  have h38 := hS.2.2.2.2.2.2.2
  have hwf := hR.wf.updl k ha hc
  have e1 : t 1 = τ 1 := hL 1 (by decide) (by decide) (by decide) (by decide) (by decide) (by decide)
  have hS2 : SF (r23 t (ow k) (olw ow a) (olw ow c)) N b K G ow mi du := hS.to hL2 (fun j hj ho => h4 j hj (Or.inr ho))
  have hka : olw ow a < 76 := by unfold olw; have := hS.2.1 (a / 2) (by omega); omega
  have hkc : olw ow c < 76 := by unfold olw; have := hS.2.1 (c / 2) (by omega); omega
  have hrules : ∀ j, b ≤ j → j < K → ∃ p q, updR R k (.inr (a, c)) j = .inr (p, q) ∧ p < 2 * j ∧ q < 2 * j ∧ ix (r23 t (ow k) (olw ow a) (olw ow c) 2 (ow j)) = olw ow p ∧ ix (r23 t (ow k) (olw ow a) (olw ow c) 3 (ow j)) = olw ow q := by
    intro j hbj hj
    by_cases e : j = k
    · subst e
      refine ⟨a, c, updR_s _ _ _, ha, hc, ?_, ?_⟩
      · show ix (upd _ _ _ (ow j)) = _
        unfold upd
        rw [if_pos rfl, ix_nI (by omega)]
      · show ix (upd _ _ _ (ow j)) = _
        unfold upd
        rw [if_pos rfl, ix_nI (by omega)]
    · have hne : ow j ≠ ow k := fun q => e (hS.inj hj hk q)
      obtain ⟨p, q, r1, r2, r3, r4, r5⟩ := hR.1 j hbj hj
      refine ⟨p, q, by rw [updR_n e]; exact r1, r2, r3, ?_, ?_⟩
      · show ix (upd (t 2) _ _ (ow j)) = _
        unfold upd
        rw [if_neg hne, (h23 _ hne).1]; exact r4
      · show ix (upd (t 3) _ _ (ow j)) = _
        unfold upd
        rw [if_neg hne, (h23 _ hne).2]; exact r5
  have hlow : ∀ j, j < K → (j < b ∨ ow j < ow k) → r23 t (ow k) (olw ow a) (olw ow c) 4 (ow j) = Ev (updR R k (.inr (a, c))) j := by
    intro j hj hc2
    have hjk : j < k := hc2.elim (fun q => by omega) (fun q => hS.rev hj hk q)
    show t 4 (ow j) = _
    rw [h4 (ow j) (hS.2.1 j hj) (hc2.elim (fun q => Or.inr (hS.2.2.2.1 j q hj).1) Or.inl), hR.2.2 j hj]
    exact (Ev_low (hwf.mono (by omega)) (fun i hi => updR_n (by omega)) j hjk).symm
  have hfull := wo_full hS2 hrules hwf hlow (N - ow k) (by omega)
  have keep : ∀ j, j < N → (j < ow k ∨ ¬ τ 1 j = 2) → woF (r23 t (ow k) (olw ow a) (olw ow c)) (ow k) (N - ow k) 4 j = τ 4 j := by
    intro j hj hc2
    rw [wo_keep _ _ (hc2.imp_right (fun q => by show ¬ t 1 j = 2; rw [e1]; exact q))]
    exact h4 j hj hc2
  refine ⟨hS.to hL3 (fun j hj ho => keep j hj (Or.inr ho)), ⟨fun j hbj hj => ?_, fun j hbj hj => ?_, fun j hj => hfull j hj (Or.inr (by have := hS.2.1 j hj; omega))⟩, hL3, fun j hj => ?_, keep⟩
  · rw [woF_k _ _ 2 (by decide), woF_k _ _ 3 (by decide)]
    exact hrules j hbj hj
  · rw [updR_n (by omega), hR.2.1 j hbj hj, keep _ (hS.2.1 j hj) (Or.inr (hS.2.2.2.1 j hbj hj).1)]
  · rw [woF_k _ _ 2 (by decide), woF_k _ _ 3 (by decide)]
    refine ⟨?_, ?_⟩
    · show upd (t 2) _ _ j = _
      unfold upd
      rw [if_neg hj]; exact (h23 j hj).1
    · show upd (t 3) _ _ j = _
      unfold upd
      rw [if_neg hj]; exact (h23 j hj).2
theorem root_re (hS : SF τ N b K G ow mi du) (hR : RTB τ b K ow R) {k : Nat} (hb : b ≤ k) (hk : k < K) (hV : IV τ N (ow k) t) : Sm τ N (woF (up (up t 2 (ow k) (τ 2 (ow k))) 3 (ow k) (τ 3 (ow k))) (ow k) (N - ow k)) := by
  obtain ⟨hL, h23, h4⟩ := hV
  have hL2 := hL.tr (Lr.ed t (ow k) (τ 2 (ow k)) (τ 3 (ow k)))
  have hL3 := hL2.tr (Lr.wo (up (up t 2 (ow k) (τ 2 (ow k))) 3 (ow k) (τ 3 (ow k))) (ow k) (N - ow k))
  have hkN := hS.2.1 k hk
  have e1 : t 1 = τ 1 := hL 1 (by decide) (by decide) (by decide) (by decide) (by decide) (by decide)
  have hS2 : SF (up (up t 2 (ow k) (τ 2 (ow k))) 3 (ow k) (τ 3 (ow k))) N b K G ow mi du := hS.to hL2 (fun j hj ho => h4 j hj (Or.inr ho))
  have f2 : up (up t 2 (ow k) (τ 2 (ow k))) 3 (ow k) (τ 3 (ow k)) 2 = τ 2 := by
    funext j
    show upd (t 2) _ _ j = _
    unfold upd
    by_cases e : j = ow k
    · rw [if_pos e, e]
    · rw [if_neg e]; exact (h23 j e).1
  have f3 : up (up t 2 (ow k) (τ 2 (ow k))) 3 (ow k) (τ 3 (ow k)) 3 = τ 3 := by
    funext j
    show upd (t 3) _ _ j = _
    unfold upd
    by_cases e : j = ow k
    · rw [if_pos e, e]
    · rw [if_neg e]; exact (h23 j e).2
  have hfull := wo_full hS2 (R := R) (by rw [f2, f3]; exact hR.1) hR.wf (m := ow k) (fun j hj hc2 => by
    show t 4 (ow j) = _
    rw [h4 (ow j) (hS.2.1 j hj) (hc2.elim (fun q => Or.inr (hS.2.2.2.1 j q hj).1) Or.inl), hR.2.2 j hj]) (N - ow k) (by omega)
  refine ⟨hL3, by rw [woF_k _ _ 2 (by decide)]; exact f2, by rw [woF_k _ _ 3 (by decide)]; exact f3, fun j hj => ?_⟩
  by_cases ho : τ 1 j = 2
  · obtain ⟨i, hbi, hi, e⟩ := hS.old hj ho
    rw [← e, hfull i hi (Or.inr (by have := hS.2.1 i hi; omega)), hR.2.2 i hi]
  · rw [wo_keep _ _ (Or.inr (by show ¬ t 1 j = 2; rw [e1]; exact ho))]
    exact h4 j hj (Or.inr ho)
theorem Sm.root {u : stT} (h : Sm τ N u) (hS : SF τ N b K G ow mi du) (hR : RTB τ b K ow R) : SF u N b K G ow mi du ∧ RTB u b K ow R := by
  obtain ⟨hL, h2, h3, h4⟩ := h
  refine ⟨hS.to hL (fun j hj _ => h4 j hj), ?_, fun k hb hk => ?_, fun k hk => ?_⟩
  · rw [h2, h3]; exact hR.1
  · rw [h4 _ (hS.2.1 k hk)]; exact hR.2.1 k hb hk
  · rw [h4 _ (hS.2.1 k hk)]; exact hR.2.2 k hk
theorem Sm.iv {u v : stT} {m : Nat} (h : IV τ N m u) (hs : Sm u N v) : IV τ N m v := by
  obtain ⟨a, b, c⟩ := h
  obtain ⟨d, e, f, g⟩ := hs
  exact ⟨a.tr d, fun j hj => by rw [e, f]; exact b j hj, fun j hj q => by rw [g j hj]; exact c j hj q⟩
theorem Sm.tr {u v : stT} (h : Sm τ N u) (hs : Sm u N v) : Sm τ N v := ⟨h.1.tr hs.1, hs.2.1.trans h.2.1, hs.2.2.1.trans h.2.2.1, fun j hj => (hs.2.2.2 j hj).trans (h.2.2.2 j hj)⟩
theorem Sm.rf : Sm τ N τ := ⟨Lr.rf τ, rfl, rfl, fun _ _ => rfl⟩
theorem IV.rf {m : Nat} : IV τ N m τ := ⟨Lr.rf τ, fun _ _ => ⟨rfl, rfl⟩, fun _ _ _ => rfl⟩
/-- a node's own place, a literal's -/
noncomputable def iv (ow : Nat → Nat) (K j : Nat) : Nat := @dite _ (∃ k, k < K ∧ ow k = j) (Classical.propDecidable _) (fun h => Classical.choose h) (fun _ => 0)
theorem iv_of (hS : SF τ N b K G ow mi du) {k : Nat} (hk : k < K) : iv ow K (ow k) = k := by
  have h : ∃ i, i < K ∧ ow i = ow k := ⟨k, hk, rfl⟩
  unfold iv
  rw [dif_pos h]
  exact hS.inj (Classical.choose_spec h).1 hk (Classical.choose_spec h).2
noncomputable def oli (ow : Nat → Nat) (K a : Nat) : Nat := 2 * iv ow K (a / 2) + a % 2
theorem oli_of (hS : SF τ N b K G ow mi du) {a : Nat} (ha : a < 2 * K) : oli ow K (olw ow a) = a := by
  unfold oli
  rw [olw_2, iv_of hS (by omega)]
  unfold olw
  omega
theorem olw_ex (hS : SF τ N b K G ow mi du) {a : Nat} (ha : a < 2 * N) (h3 : ¬ τ 1 (a / 2) = 3) : ∃ a2, a2 < 2 * K ∧ olw ow a2 = a := by
  obtain ⟨k, hk, e⟩ := hS.2.2.1 (a / 2) (by omega) h3
  refine ⟨2 * k + a % 2, by omega, ?_⟩
  unfold olw
  rw [show (2 * k + a % 2) / 2 = k by omega, e]
  omega
theorem olw_lt (hS : SF τ N b K G ow mi du) {a c : Nat} (hc : c < 2 * K) (h : a < c) : olw ow a < olw ow c := by
  unfold olw
  by_cases e : a / 2 = c / 2
  · rw [e]; omega
  · have := hS.1 (a / 2) (c / 2) (by omega) (by omega); omega
theorem olw_rev (hS : SF τ N b K G ow mi du) {a c : Nat} (ha : a < 2 * K) (h : olw ow a < olw ow c) : a < c := by
  rcases Nat.lt_trichotomy a c with q | q | q
  · exact q
  · rw [q] at h; omega
  · have := olw_lt hS ha q; omega
theorem olw_bd (hS : SF τ N b K G ow mi du) {a k : Nat} (hk : k < K) : a < 2 * k → olw ow a < 2 * ow k := fun h => by
  unfold olw
  have := hS.1 (a / 2) k (by omega) hk
  omega
/-- the loops over a node's literals are those over its own ones -/
theorem lit_map {β : Type} (hS : SF τ N b K G ow mi du) {k : Nat} (hk : k < K) (f : Nat → Nat → Option β) : gfind (fun a => gfind (fun c => @ite _ (¬ τ 1 (a / 2) = 3 ∧ ¬ τ 1 (c / 2) = 3) (Classical.propDecidable _) (f (oli ow K a) (oli ow K c)) none) a (2 * ow k - a)) 0 (2 * ow k) = gfind (fun a => gfind (fun c => f a c) a (2 * k - a)) 0 (2 * k) := by
  have hkN := hS.2.1 k hk
  refine gf_map (olw ow) (fun a c _ h1 h2 => olw_lt hS (by omega) h1) (fun a _ h => ⟨Nat.zero_le _, by have := olw_bd hS hk (show a < 2 * k by omega); omega⟩) (fun a _ ha => ?_) (fun x _ hx hno => ?_)
  · have hba := olw_bd hS hk (show a < 2 * k by omega)
    refine gf_map (olw ow) (fun c d _ h1 h2 => olw_lt hS (by omega) h1) (fun c h1 h2 => ⟨?_, ?_⟩) (fun c h1 h2 => ?_) (fun x h1 h2 hno => ?_)
    · by_cases e : a = c
      · rw [e]; exact Nat.le_refl _
      · exact Nat.le_of_lt (olw_lt hS (by omega) (by omega))
    · have := olw_bd hS hk (show c < 2 * k by omega); omega
    · rw [if_pos ⟨by rw [olw_2]; exact hS.kind (by omega), by rw [olw_2]; exact hS.kind (by omega)⟩, oli_of hS (by omega), oli_of hS (by omega)]
    · refine if_neg (fun q => ?_)
      obtain ⟨c, hc, e⟩ := olw_ex hS (show x < 2 * N by omega) q.2
      refine hno c ?_ ?_ e
      · refine Nat.le_of_not_lt (fun q2 => ?_)
        have := olw_lt hS (show a < 2 * K by omega) q2
        omega
      · have : c < 2 * k := by
          refine Nat.lt_of_not_le (fun q2 => ?_)
          have h3 : olw ow (2 * k) ≤ olw ow c := by
            by_cases e2 : 2 * k = c
            · rw [e2]; exact Nat.le_refl _
            · exact Nat.le_of_lt (olw_lt hS hc (by omega))
          have : olw ow (2 * k) = 2 * ow k := by unfold olw; rw [show 2 * k / 2 = k by omega]; omega
          omega
        omega
  · refine (gf_none _ _).mpr (fun c _ _ => if_neg (fun q => ?_))
    obtain ⟨a, ha, e⟩ := olw_ex hS (show x < 2 * N by omega) q.1
    refine hno a (Nat.zero_le _) ?_ e
    have : a < 2 * k := by
      refine Nat.lt_of_not_le (fun q2 => ?_)
      have h3 : olw ow (2 * k) ≤ olw ow a := by
        by_cases e2 : 2 * k = a
        · rw [e2]; exact Nat.le_refl _
        · exact Nat.le_of_lt (olw_lt hS ha (by omega))
      have : olw ow (2 * k) = 2 * ow k := by unfold olw; rw [show 2 * k / 2 = k by omega]; omega
      omega
    omega

def Es2 (t : stT) (n a c : Nat) : Prop := t 8 1 = nI n ∧ t 9 1 = nI a ∧ t 10 1 = nI c
theorem s2I_ev (hS : SF τ N b K G ow mi du) (hR : RTB τ b K ow R) {k : Nat} (hb : b ≤ k) (hk : k < K) {a : Nat} (ha : a < 2 * ow k) : ∀ (cc c : Nat) (t : stT), c + cc ≤ 2 * ow k → IV τ N (ow k) t →
    (gfind (fun c => @ite _ (¬ τ 1 (a / 2) = 3 ∧ ¬ τ 1 (c / 2) = 3) (Classical.propDecidable _) (opt (AC (updR R k (.inr (oli ow K a, oli ow K c))) mi du G = -1) (oli ow K a, oli ow K c)) none) c cc = none → (s2I N G (ow k) a c cc t).1 = false) ∧ (∀ a2 c2, gfind (fun c => @ite _ (¬ τ 1 (a / 2) = 3 ∧ ¬ τ 1 (c / 2) = 3) (Classical.propDecidable _) (opt (AC (updR R k (.inr (oli ow K a, oli ow K c))) mi du G = -1) (oli ow K a, oli ow K c)) none) c cc = some (a2, c2) → (s2I N G (ow k) a c cc t).1 = true ∧ Es2 (s2I N G (ow k) a c cc t).2 (ow k) (olw ow a2) (olw ow c2)) ∧ IV τ N (ow k) (s2I N G (ow k) a c cc t).2
  | 0, c, t, _, hV => ⟨fun _ => rfl, fun a2 c2 q => (by rw [gfind_0] at q; cases q), hV⟩
  | cc + 1, c, t, hc, hV => by
    have e1 : t 1 = τ 1 := hV.1 1 (by decide) (by decide) (by decide) (by decide) (by decide) (by decide)
    have hkN := hS.2.1 k hk
    by_cases hn : ¬ τ 1 (a / 2) = 3 ∧ ¬ τ 1 (c / 2) = 3
    · have hn2 : ¬ t 1 (a / 2) = 3 ∧ ¬ t 1 (c / 2) = 3 := by rw [e1]; exact hn
      obtain ⟨a2, ha2, ea⟩ := olw_ex hS (show a < 2 * N by omega) hn.1
      obtain ⟨c2, hc2, ec⟩ := olw_ex hS (show c < 2 * N by omega) hn.2
      have la : a2 < 2 * k := by
        have := olw_rev hS (c := 2 * k) ha2 (by rw [ea, show olw ow (2 * k) = 2 * ow k by unfold olw; rw [show 2 * k / 2 = k by omega]; omega]; exact ha)
        exact this
      have lc : c2 < 2 * k := by
        have := olw_rev hS (c := 2 * k) hc2 (by rw [ec, show olw ow (2 * k) = 2 * ow k by unfold olw; rw [show 2 * k / 2 = k by omega]; omega]; omega)
        exact this
      obtain ⟨q1, q2, q3⟩ := root_ed hS hR hb hk hV la lc
      rw [ea, ec] at q1 q2 q3
      have oa : oli ow K a = a2 := by rw [← ea]; exact oli_of hS ha2
      have oc : oli ow K c = c2 := by rw [← ec]; exact oli_of hS hc2
      by_cases hr : AC (updR R k (.inr (a2, c2))) mi du G = -1
      · have ef : (fun c => @ite _ (¬ τ 1 (a / 2) = 3 ∧ ¬ τ 1 (c / 2) = 3) (Classical.propDecidable _) (opt (AC (updR R k (.inr (oli ow K a, oli ow K c))) mi du G = -1) (oli ow K a, oli ow K c)) none) c = some (a2, c2) := by
          refine (if_pos hn).trans ?_
          rw [oa, oc]; exact opt_t hr
        rw [gfind_s ef, s2I_t hn2 ((ap_ev q1 q2.2.2).mpr hr)]
        refine ⟨fun q => (by cases q), fun a3 c3 q => ?_, q3.1.tr (Lr.pt _ 1 _ _ _), q3.2.1, q3.2.2⟩
        cases q
        exact ⟨rfl, rfl, by rw [ea]; rfl, by rw [ec]; rfl⟩
      · have ef : (fun c => @ite _ (¬ τ 1 (a / 2) = 3 ∧ ¬ τ 1 (c / 2) = 3) (Classical.propDecidable _) (opt (AC (updR R k (.inr (oli ow K a, oli ow K c))) mi du G = -1) (oli ow K a, oli ow K c)) none) c = none := by
          refine (if_pos hn).trans ?_
          rw [oa, oc]; exact opt_f hr
        rw [gfind_n ef, s2I_f hn2 (fun q => hr ((ap_ev q1 q2.2.2).mp q))]
        exact s2I_ev hS hR hb hk ha cc (c + 1) _ (by omega) q3
    · have ef : (fun c => @ite _ (¬ τ 1 (a / 2) = 3 ∧ ¬ τ 1 (c / 2) = 3) (Classical.propDecidable _) (opt (AC (updR R k (.inr (oli ow K a, oli ow K c))) mi du G = -1) (oli ow K a, oli ow K c)) none) c = none := if_neg hn
      rw [gfind_n ef, s2I_k (by rw [e1]; exact hn)]
      exact s2I_ev hS hR hb hk ha cc (c + 1) t (by omega) hV
theorem s2O_ev (hS : SF τ N b K G ow mi du) (hR : RTB τ b K ow R) {k : Nat} (hb : b ≤ k) (hk : k < K) : ∀ (cc a : Nat) (t : stT), a + cc ≤ 2 * ow k → IV τ N (ow k) t →
    (gfind (fun a => gfind (fun c => @ite _ (¬ τ 1 (a / 2) = 3 ∧ ¬ τ 1 (c / 2) = 3) (Classical.propDecidable _) (opt (AC (updR R k (.inr (oli ow K a, oli ow K c))) mi du G = -1) (oli ow K a, oli ow K c)) none) a (2 * ow k - a)) a cc = none → (s2O N G (ow k) a cc t).1 = false) ∧ (∀ a2 c2, gfind (fun a => gfind (fun c => @ite _ (¬ τ 1 (a / 2) = 3 ∧ ¬ τ 1 (c / 2) = 3) (Classical.propDecidable _) (opt (AC (updR R k (.inr (oli ow K a, oli ow K c))) mi du G = -1) (oli ow K a, oli ow K c)) none) a (2 * ow k - a)) a cc = some (a2, c2) → (s2O N G (ow k) a cc t).1 = true ∧ Es2 (s2O N G (ow k) a cc t).2 (ow k) (olw ow a2) (olw ow c2)) ∧ IV τ N (ow k) (s2O N G (ow k) a cc t).2
  | 0, a, t, _, hV => ⟨fun _ => rfl, fun a2 c2 q => (by rw [gfind_0] at q; cases q), hV⟩
  | cc + 1, a, t, hc, hV => by
    obtain ⟨k1, k2, k3⟩ := s2I_ev hS hR hb hk (show a < 2 * ow k by omega) (2 * ow k - a) a t (by omega) hV
    cases hg : gfind (fun c => @ite _ (¬ τ 1 (a / 2) = 3 ∧ ¬ τ 1 (c / 2) = 3) (Classical.propDecidable _) (opt (AC (updR R k (.inr (oli ow K a, oli ow K c))) mi du G = -1) (oli ow K a, oli ow K c)) none) a (2 * ow k - a) with
    | none =>
      rw [gfind_n (f := (fun a => gfind (fun c => @ite _ (¬ τ 1 (a / 2) = 3 ∧ ¬ τ 1 (c / 2) = 3) (Classical.propDecidable _) (opt (AC (updR R k (.inr (oli ow K a, oli ow K c))) mi du G = -1) (oli ow K a, oli ow K c)) none) a (2 * ow k - a))) hg, s2O_f (by rw [k1 hg]; decide)]
      exact s2O_ev hS hR hb hk cc (a + 1) _ (by omega) k3
    | some p =>
      obtain ⟨a2, c2⟩ := p
      obtain ⟨r1, r2⟩ := k2 a2 c2 hg
      rw [gfind_s (f := (fun a => gfind (fun c => @ite _ (¬ τ 1 (a / 2) = 3 ∧ ¬ τ 1 (c / 2) = 3) (Classical.propDecidable _) (opt (AC (updR R k (.inr (oli ow K a, oli ow K c))) mi du G = -1) (oli ow K a, oli ow K c)) none) a (2 * ow k - a))) hg, s2O_t r1]
      refine ⟨fun q => (by cases q), fun a3 c3 q => ?_, k3⟩
      cases q
      exact ⟨r1, r2⟩
theorem s2_ev (hS : SF τ N b K G ow mi du) (hR : RTB τ b K ow R) {k : Nat} (hb : b ≤ k) (hk : k < K) :
    (g1 R mi du G k = none → (s2R N G (ow k) τ).1 = false) ∧ (∀ a2 c2, g1 R mi du G k = some (a2, c2) → (s2R N G (ow k) τ).1 = true ∧ Es2 (s2R N G (ow k) τ).2 (ow k) (olw ow a2) (olw ow c2)) ∧ Sm τ N (s2R N G (ow k) τ).2 := by
  obtain ⟨k1, k2, k3⟩ := s2O_ev hS hR hb hk (2 * ow k) 0 τ (by omega) IV.rf
  have hm : gfind (fun a => gfind (fun c => @ite _ (¬ τ 1 (a / 2) = 3 ∧ ¬ τ 1 (c / 2) = 3) (Classical.propDecidable _) (opt (AC (updR R k (.inr (oli ow K a, oli ow K c))) mi du G = -1) (oli ow K a, oli ow K c)) none) a (2 * ow k - a)) 0 (2 * ow k) = g1 R mi du G k := lit_map hS hk (fun a c => opt (AC (updR R k (.inr (a, c))) mi du G = -1) (a, c))
  rw [hm] at k1 k2
  refine ⟨fun q => k1 q, fun a2 c2 q => ?_, root_re hS hR hb hk k3⟩
  obtain ⟨r1, r2⟩ := k2 a2 c2 q
  refine ⟨r1, ?_⟩
  unfold s2R Es2
  dsimp only
  rw [woF_k _ _ 8 (by decide), woF_k _ _ 9 (by decide), woF_k _ _ 10 (by decide)]
  exact r2
def Es1 (t : stT) (n a c : Nat) : Prop := t 8 0 = nI n ∧ t 9 0 = nI a ∧ t 10 0 = nI c
theorem s1I_ev (hS : SF τ N b K G ow mi du) (hR : RTB τ b K ow R) {k : Nat} (hb : b ≤ k) (hk : k < K) {a : Nat} (ha : a < 2 * ow k) : ∀ (cc c : Nat) (t : stT), c + cc ≤ 2 * ow k → IV τ N (ow k) t →
    (gfind (fun c => @ite _ (¬ τ 1 (a / 2) = 3 ∧ ¬ τ 1 (c / 2) = 3) (Classical.propDecidable _) (opt (AC (updR R k (.inr (oli ow K a, oli ow K c))) mi du G = -1) (oli ow K a, oli ow K c)) none) c cc = none → (s1I N G (ow k) a c cc t).1 = false) ∧ (∀ a2 c2, gfind (fun c => @ite _ (¬ τ 1 (a / 2) = 3 ∧ ¬ τ 1 (c / 2) = 3) (Classical.propDecidable _) (opt (AC (updR R k (.inr (oli ow K a, oli ow K c))) mi du G = -1) (oli ow K a, oli ow K c)) none) c cc = some (a2, c2) → (s1I N G (ow k) a c cc t).1 = true ∧ Es1 (s1I N G (ow k) a c cc t).2 (ow k) (olw ow a2) (olw ow c2)) ∧ IV τ N (ow k) (s1I N G (ow k) a c cc t).2
  | 0, c, t, _, hV => ⟨fun _ => rfl, fun a2 c2 q => (by rw [gfind_0] at q; cases q), hV⟩
  | cc + 1, c, t, hc, hV => by
    have e1 : t 1 = τ 1 := hV.1 1 (by decide) (by decide) (by decide) (by decide) (by decide) (by decide)
    have hkN := hS.2.1 k hk
    by_cases hn : ¬ τ 1 (a / 2) = 3 ∧ ¬ τ 1 (c / 2) = 3
    · have hn2 : ¬ t 1 (a / 2) = 3 ∧ ¬ t 1 (c / 2) = 3 := by rw [e1]; exact hn
      obtain ⟨a2, ha2, ea⟩ := olw_ex hS (show a < 2 * N by omega) hn.1
      obtain ⟨c2, hc2, ec⟩ := olw_ex hS (show c < 2 * N by omega) hn.2
      have la : a2 < 2 * k := by
        have := olw_rev hS (c := 2 * k) ha2 (by rw [ea, show olw ow (2 * k) = 2 * ow k by unfold olw; rw [show 2 * k / 2 = k by omega]; omega]; exact ha)
        exact this
      have lc : c2 < 2 * k := by
        have := olw_rev hS (c := 2 * k) hc2 (by rw [ec, show olw ow (2 * k) = 2 * ow k by unfold olw; rw [show 2 * k / 2 = k by omega]; omega]; omega)
        exact this
      obtain ⟨q1, q2, q3⟩ := root_ed hS hR hb hk hV la lc
      rw [ea, ec] at q1 q2 q3
      have oa : oli ow K a = a2 := by rw [← ea]; exact oli_of hS ha2
      have oc : oli ow K c = c2 := by rw [← ec]; exact oli_of hS hc2
      by_cases hr : AC (updR R k (.inr (a2, c2))) mi du G = -1
      · have ef : (fun c => @ite _ (¬ τ 1 (a / 2) = 3 ∧ ¬ τ 1 (c / 2) = 3) (Classical.propDecidable _) (opt (AC (updR R k (.inr (oli ow K a, oli ow K c))) mi du G = -1) (oli ow K a, oli ow K c)) none) c = some (a2, c2) := by
          refine (if_pos hn).trans ?_
          rw [oa, oc]; exact opt_t hr
        rw [gfind_s ef, s1I_t hn2 ((ap_ev q1 q2.2.2).mpr hr)]
        refine ⟨fun q => (by cases q), fun a3 c3 q => ?_, q3.1.tr (Lr.pt _ 0 _ _ _), q3.2.1, q3.2.2⟩
        cases q
        exact ⟨rfl, rfl, by rw [ea]; rfl, by rw [ec]; rfl⟩
      · have ef : (fun c => @ite _ (¬ τ 1 (a / 2) = 3 ∧ ¬ τ 1 (c / 2) = 3) (Classical.propDecidable _) (opt (AC (updR R k (.inr (oli ow K a, oli ow K c))) mi du G = -1) (oli ow K a, oli ow K c)) none) c = none := by
          refine (if_pos hn).trans ?_
          rw [oa, oc]; exact opt_f hr
        rw [gfind_n ef, s1I_f hn2 (fun q => hr ((ap_ev q1 q2.2.2).mp q))]
        exact s1I_ev hS hR hb hk ha cc (c + 1) _ (by omega) q3
    · have ef : (fun c => @ite _ (¬ τ 1 (a / 2) = 3 ∧ ¬ τ 1 (c / 2) = 3) (Classical.propDecidable _) (opt (AC (updR R k (.inr (oli ow K a, oli ow K c))) mi du G = -1) (oli ow K a, oli ow K c)) none) c = none := if_neg hn
      rw [gfind_n ef, s1I_k (by rw [e1]; exact hn)]
      exact s1I_ev hS hR hb hk ha cc (c + 1) t (by omega) hV
theorem s1O_ev (hS : SF τ N b K G ow mi du) (hR : RTB τ b K ow R) {k : Nat} (hb : b ≤ k) (hk : k < K) : ∀ (cc a : Nat) (t : stT), a + cc ≤ 2 * ow k → IV τ N (ow k) t →
    (gfind (fun a => gfind (fun c => @ite _ (¬ τ 1 (a / 2) = 3 ∧ ¬ τ 1 (c / 2) = 3) (Classical.propDecidable _) (opt (AC (updR R k (.inr (oli ow K a, oli ow K c))) mi du G = -1) (oli ow K a, oli ow K c)) none) a (2 * ow k - a)) a cc = none → (s1O N G (ow k) a cc t).1 = false) ∧ (∀ a2 c2, gfind (fun a => gfind (fun c => @ite _ (¬ τ 1 (a / 2) = 3 ∧ ¬ τ 1 (c / 2) = 3) (Classical.propDecidable _) (opt (AC (updR R k (.inr (oli ow K a, oli ow K c))) mi du G = -1) (oli ow K a, oli ow K c)) none) a (2 * ow k - a)) a cc = some (a2, c2) → (s1O N G (ow k) a cc t).1 = true ∧ Es1 (s1O N G (ow k) a cc t).2 (ow k) (olw ow a2) (olw ow c2)) ∧ IV τ N (ow k) (s1O N G (ow k) a cc t).2
  | 0, a, t, _, hV => ⟨fun _ => rfl, fun a2 c2 q => (by rw [gfind_0] at q; cases q), hV⟩
  | cc + 1, a, t, hc, hV => by
    obtain ⟨k1, k2, k3⟩ := s1I_ev hS hR hb hk (show a < 2 * ow k by omega) (2 * ow k - a) a t (by omega) hV
    cases hg : gfind (fun c => @ite _ (¬ τ 1 (a / 2) = 3 ∧ ¬ τ 1 (c / 2) = 3) (Classical.propDecidable _) (opt (AC (updR R k (.inr (oli ow K a, oli ow K c))) mi du G = -1) (oli ow K a, oli ow K c)) none) a (2 * ow k - a) with
    | none =>
      rw [gfind_n (f := (fun a => gfind (fun c => @ite _ (¬ τ 1 (a / 2) = 3 ∧ ¬ τ 1 (c / 2) = 3) (Classical.propDecidable _) (opt (AC (updR R k (.inr (oli ow K a, oli ow K c))) mi du G = -1) (oli ow K a, oli ow K c)) none) a (2 * ow k - a))) hg, s1O_f (by rw [k1 hg]; decide)]
      exact s1O_ev hS hR hb hk cc (a + 1) _ (by omega) k3
    | some p =>
      obtain ⟨a2, c2⟩ := p
      obtain ⟨r1, r2⟩ := k2 a2 c2 hg
      rw [gfind_s (f := (fun a => gfind (fun c => @ite _ (¬ τ 1 (a / 2) = 3 ∧ ¬ τ 1 (c / 2) = 3) (Classical.propDecidable _) (opt (AC (updR R k (.inr (oli ow K a, oli ow K c))) mi du G = -1) (oli ow K a, oli ow K c)) none) a (2 * ow k - a))) hg, s1O_t r1]
      refine ⟨fun q => (by cases q), fun a3 c3 q => ?_, k3⟩
      cases q
      exact ⟨r1, r2⟩
theorem s1_ev (hS : SF τ N b K G ow mi du) (hR : RTB τ b K ow R) {k : Nat} (hb : b ≤ k) (hk : k < K) :
    (g1 R mi du G k = none → (s1R N G (ow k) τ).1 = false) ∧ (∀ a2 c2, g1 R mi du G k = some (a2, c2) → (s1R N G (ow k) τ).1 = true ∧ Es1 (s1R N G (ow k) τ).2 (ow k) (olw ow a2) (olw ow c2)) ∧ Sm τ N (s1R N G (ow k) τ).2 := by
  obtain ⟨k1, k2, k3⟩ := s1O_ev hS hR hb hk (2 * ow k) 0 τ (by omega) IV.rf
  have hm : gfind (fun a => gfind (fun c => @ite _ (¬ τ 1 (a / 2) = 3 ∧ ¬ τ 1 (c / 2) = 3) (Classical.propDecidable _) (opt (AC (updR R k (.inr (oli ow K a, oli ow K c))) mi du G = -1) (oli ow K a, oli ow K c)) none) a (2 * ow k - a)) 0 (2 * ow k) = g1 R mi du G k := lit_map hS hk (fun a c => opt (AC (updR R k (.inr (a, c))) mi du G = -1) (a, c))
  rw [hm] at k1 k2
  refine ⟨fun q => k1 q, fun a2 c2 q => ?_, root_re hS hR hb hk k3⟩
  obtain ⟨r1, r2⟩ := k2 a2 c2 q
  refine ⟨r1, ?_⟩
  unfold s1R Es1
  dsimp only
  rw [woF_k _ _ 8 (by decide), woF_k _ _ 9 (by decide), woF_k _ _ 10 (by decide)]
  exact r2
theorem s3I_ev (hS : SF τ N b K G ow mi du) (hR : RTB τ b K ow R) {k k2 : Nat} (hb : b ≤ k) (hkk : k < k2) (hk2 : k2 < K) {a : Nat} (ha : a < 2 * ow k) : ∀ (cc c : Nat) (t : stT), c + cc ≤ 2 * ow k → IV τ N (ow k) t →
    (gfind (fun c => @ite _ (¬ τ 1 (a / 2) = 3 ∧ ¬ τ 1 (c / 2) = 3) (Classical.propDecidable _) ((g1 (updR R k (.inr (oli ow K a, oli ow K c))) mi du G k2).map (fun p => ((oli ow K a, oli ow K c), p))) none) c cc = none → (s3I N G (ow k) (ow k2) a c cc t).1 = false) ∧ (∀ a2 c2 a3 c3, gfind (fun c => @ite _ (¬ τ 1 (a / 2) = 3 ∧ ¬ τ 1 (c / 2) = 3) (Classical.propDecidable _) ((g1 (updR R k (.inr (oli ow K a, oli ow K c))) mi du G k2).map (fun p => ((oli ow K a, oli ow K c), p))) none) c cc = some ((a2, c2), (a3, c3)) → (s3I N G (ow k) (ow k2) a c cc t).1 = true ∧ Es1 (s3I N G (ow k) (ow k2) a c cc t).2 (ow k) (olw ow a2) (olw ow c2) ∧ Es2 (s3I N G (ow k) (ow k2) a c cc t).2 (ow k2) (olw ow a3) (olw ow c3)) ∧ IV τ N (ow k) (s3I N G (ow k) (ow k2) a c cc t).2
  | 0, c, t, _, hV => ⟨fun _ => rfl, fun a2 c2 a3 c3 q => (by rw [gfind_0] at q; cases q), hV⟩
  | cc + 1, c, t, hc, hV => by
    have hk : k < K := by omega
    have e1 : t 1 = τ 1 := hV.1 1 (by decide) (by decide) (by decide) (by decide) (by decide) (by decide)
    have hkN := hS.2.1 k hk
    by_cases hn : ¬ τ 1 (a / 2) = 3 ∧ ¬ τ 1 (c / 2) = 3
    · have hn2 : ¬ t 1 (a / 2) = 3 ∧ ¬ t 1 (c / 2) = 3 := by rw [e1]; exact hn
      obtain ⟨a2, ha2, ea⟩ := olw_ex hS (show a < 2 * N by omega) hn.1
      obtain ⟨c2, hc2, ec⟩ := olw_ex hS (show c < 2 * N by omega) hn.2
      have la : a2 < 2 * k := by
        have := olw_rev hS (c := 2 * k) ha2 (by rw [ea, show olw ow (2 * k) = 2 * ow k by unfold olw; rw [show 2 * k / 2 = k by omega]; omega]; exact ha)
        exact this
      have lc : c2 < 2 * k := by
        have := olw_rev hS (c := 2 * k) hc2 (by rw [ec, show olw ow (2 * k) = 2 * ow k by unfold olw; rw [show 2 * k / 2 = k by omega]; omega]; omega)
        exact this
      obtain ⟨q1, q2, q3⟩ := root_ed hS hR hb hk hV la lc
      rw [ea, ec] at q1 q2 q3
      have oa : oli ow K a = a2 := by rw [← ea]; exact oli_of hS ha2
      have oc : oli ow K c = c2 := by rw [← ec]; exact oli_of hS hc2
      obtain ⟨w1, w2, w3⟩ := s2_ev q1 q2 (show b ≤ k2 by omega) hk2
      have hV2 := Sm.iv q3 w3
      cases hg : g1 (updR R k (.inr (a2, c2))) mi du G k2 with
      | some p =>
        obtain ⟨a3, c3⟩ := p
        obtain ⟨r1, r2⟩ := w2 a3 c3 hg
        have ef : (fun c => @ite _ (¬ τ 1 (a / 2) = 3 ∧ ¬ τ 1 (c / 2) = 3) (Classical.propDecidable _) ((g1 (updR R k (.inr (oli ow K a, oli ow K c))) mi du G k2).map (fun p => ((oli ow K a, oli ow K c), p))) none) c = some ((a2, c2), (a3, c3)) := by
          refine (if_pos hn).trans ?_
          rw [oa, oc, hg]; rfl
        rw [gfind_s ef, s3I_t hn2 r1]
        refine ⟨fun q => (by cases q), fun a2 c2 a3 c3 q => ?_, hV2.1.tr (Lr.pt _ 0 _ _ _), hV2.2.1, hV2.2.2⟩
        cases q
        exact ⟨rfl, ⟨rfl, by rw [ea]; rfl, by rw [ec]; rfl⟩, r2⟩
      | none =>
        have ef : (fun c => @ite _ (¬ τ 1 (a / 2) = 3 ∧ ¬ τ 1 (c / 2) = 3) (Classical.propDecidable _) ((g1 (updR R k (.inr (oli ow K a, oli ow K c))) mi du G k2).map (fun p => ((oli ow K a, oli ow K c), p))) none) c = none := by
          refine (if_pos hn).trans ?_
          rw [oa, oc, hg]; rfl
        rw [gfind_n ef, s3I_f hn2 (by rw [w1 hg]; decide)]
        exact s3I_ev hS hR hb hkk hk2 ha cc (c + 1) _ (by omega) hV2
    · have ef : (fun c => @ite _ (¬ τ 1 (a / 2) = 3 ∧ ¬ τ 1 (c / 2) = 3) (Classical.propDecidable _) ((g1 (updR R k (.inr (oli ow K a, oli ow K c))) mi du G k2).map (fun p => ((oli ow K a, oli ow K c), p))) none) c = none := if_neg hn
      rw [gfind_n ef, s3I_k (by rw [e1]; exact hn)]
      exact s3I_ev hS hR hb hkk hk2 ha cc (c + 1) t (by omega) hV
theorem s3O_ev (hS : SF τ N b K G ow mi du) (hR : RTB τ b K ow R) {k k2 : Nat} (hb : b ≤ k) (hkk : k < k2) (hk2 : k2 < K) : ∀ (cc a : Nat) (t : stT), a + cc ≤ 2 * ow k → IV τ N (ow k) t →
    (gfind (fun a => gfind (fun c => @ite _ (¬ τ 1 (a / 2) = 3 ∧ ¬ τ 1 (c / 2) = 3) (Classical.propDecidable _) ((g1 (updR R k (.inr (oli ow K a, oli ow K c))) mi du G k2).map (fun p => ((oli ow K a, oli ow K c), p))) none) a (2 * ow k - a)) a cc = none → (s3O N G (ow k) (ow k2) a cc t).1 = false) ∧ (∀ a2 c2 a3 c3, gfind (fun a => gfind (fun c => @ite _ (¬ τ 1 (a / 2) = 3 ∧ ¬ τ 1 (c / 2) = 3) (Classical.propDecidable _) ((g1 (updR R k (.inr (oli ow K a, oli ow K c))) mi du G k2).map (fun p => ((oli ow K a, oli ow K c), p))) none) a (2 * ow k - a)) a cc = some ((a2, c2), (a3, c3)) → (s3O N G (ow k) (ow k2) a cc t).1 = true ∧ Es1 (s3O N G (ow k) (ow k2) a cc t).2 (ow k) (olw ow a2) (olw ow c2) ∧ Es2 (s3O N G (ow k) (ow k2) a cc t).2 (ow k2) (olw ow a3) (olw ow c3)) ∧ IV τ N (ow k) (s3O N G (ow k) (ow k2) a cc t).2
  | 0, a, t, _, hV => ⟨fun _ => rfl, fun a2 c2 a3 c3 q => (by rw [gfind_0] at q; cases q), hV⟩
  | cc + 1, a, t, hc, hV => by
    obtain ⟨k1, k2', k3⟩ := s3I_ev hS hR hb hkk hk2 (show a < 2 * ow k by omega) (2 * ow k - a) a t (by omega) hV
    cases hg : gfind (fun c => @ite _ (¬ τ 1 (a / 2) = 3 ∧ ¬ τ 1 (c / 2) = 3) (Classical.propDecidable _) ((g1 (updR R k (.inr (oli ow K a, oli ow K c))) mi du G k2).map (fun p => ((oli ow K a, oli ow K c), p))) none) a (2 * ow k - a) with
    | none =>
      rw [gfind_n (f := (fun a => gfind (fun c => @ite _ (¬ τ 1 (a / 2) = 3 ∧ ¬ τ 1 (c / 2) = 3) (Classical.propDecidable _) ((g1 (updR R k (.inr (oli ow K a, oli ow K c))) mi du G k2).map (fun p => ((oli ow K a, oli ow K c), p))) none) a (2 * ow k - a))) hg, s3O_f (by rw [k1 hg]; decide)]
      exact s3O_ev hS hR hb hkk hk2 cc (a + 1) _ (by omega) k3
    | some p =>
      obtain ⟨⟨a2, c2⟩, ⟨a3, c3⟩⟩ := p
      obtain ⟨r1, r2⟩ := k2' a2 c2 a3 c3 hg
      rw [gfind_s (f := (fun a => gfind (fun c => @ite _ (¬ τ 1 (a / 2) = 3 ∧ ¬ τ 1 (c / 2) = 3) (Classical.propDecidable _) ((g1 (updR R k (.inr (oli ow K a, oli ow K c))) mi du G k2).map (fun p => ((oli ow K a, oli ow K c), p))) none) a (2 * ow k - a))) hg, s3O_t r1]
      refine ⟨fun q => (by cases q), fun a2 c2 a3 c3 q => ?_, k3⟩
      cases q
      exact ⟨r1, r2⟩
theorem s3_ev (hS : SF τ N b K G ow mi du) (hR : RTB τ b K ow R) {k k2 : Nat} (hb : b ≤ k) (hkk : k < k2) (hk2 : k2 < K) :
    (g2 R mi du G k k2 = none → (s3R N G (ow k) (ow k2) τ).1 = false) ∧ (∀ a2 c2 a3 c3, g2 R mi du G k k2 = some ((a2, c2), (a3, c3)) → (s3R N G (ow k) (ow k2) τ).1 = true ∧ Es1 (s3R N G (ow k) (ow k2) τ).2 (ow k) (olw ow a2) (olw ow c2) ∧ Es2 (s3R N G (ow k) (ow k2) τ).2 (ow k2) (olw ow a3) (olw ow c3)) ∧ Sm τ N (s3R N G (ow k) (ow k2) τ).2 := by
  obtain ⟨k1, k2', k3⟩ := s3O_ev hS hR hb hkk hk2 (2 * ow k) 0 τ (by omega) IV.rf
  have hm : gfind (fun a => gfind (fun c => @ite _ (¬ τ 1 (a / 2) = 3 ∧ ¬ τ 1 (c / 2) = 3) (Classical.propDecidable _) ((g1 (updR R k (.inr (oli ow K a, oli ow K c))) mi du G k2).map (fun p => ((oli ow K a, oli ow K c), p))) none) a (2 * ow k - a)) 0 (2 * ow k) = g2 R mi du G k k2 := lit_map hS (by omega) (fun a c => (g1 (updR R k (.inr (a, c))) mi du G k2).map (fun p => ((a, c), p)))
  rw [hm] at k1 k2'
  refine ⟨fun q => k1 q, fun a2 c2 a3 c3 q => ?_, root_re hS hR hb (by omega) k3⟩
  obtain ⟨r1, r2⟩ := k2' a2 c2 a3 c3 q
  refine ⟨r1, ?_⟩
  unfold s3R Es1 Es2
  dsimp only
  rw [woF_k _ _ 8 (by decide), woF_k _ _ 9 (by decide), woF_k _ _ 10 (by decide)]
  exact r2
end RS
