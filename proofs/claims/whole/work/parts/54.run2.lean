/-! the run's step, its ends -/
def Tz (τ t : stT) (N : Nat) : Prop := (∀ j, j ≠ 0 → j ≠ 7 → j ≠ 8 → j ≠ 9 → t 0 j = τ 0 j) ∧ (∀ k, 1 ≤ k → k ≠ 4 → k ≠ 8 → k ≠ 9 → k ≠ 10 → k ≠ 11 → t k = τ k) ∧ ∀ j, j < N → t 4 j = τ 4 j
def Cz (σ s : stT) : Prop := (∀ j, j ≠ 0 → j ≠ 7 → s 0 j = σ 0 j) ∧ (∀ k, 1 ≤ k → k ≤ 16 → k ≠ 9 → k ≠ 10 → k ≠ 15 → s k = σ k) ∧ Le σ s
theorem Tz.rf (τ : stT) (N : Nat) : Tz τ τ N := ⟨fun _ _ _ _ _ => rfl, fun _ _ _ _ _ _ _ => rfl, fun _ _ => rfl⟩
theorem up0 (τ : stT) (j k : Nat) (v : Int32) (h : 1 ≤ k) : up τ 0 j v k = τ k := by
  show (if k = 0 then _ else _) = _
  rw [if_neg (by omega)]
theorem Tz.u0 {τ t : stT} {N : Nat} (h : Tz τ t N) (j : Nat) (hj : j = 0 ∨ j = 7 ∨ j = 8 ∨ j = 9) (v : Int32) : Tz τ (up t 0 j v) N := by
  refine ⟨fun i a b c d => ?_, fun k a b c d e f => ?_, fun i hi => ?_⟩
  · show upd (t 0) j v i = _
    unfold upd
    rw [if_neg (by omega)]
    exact h.1 i a b c d
  · rw [up0 _ _ _ _ a]; exact h.2.1 k a b c d e f
  · rw [up0 _ _ _ _ (by decide)]; exact h.2.2 i hi
theorem Tz.sm {τ t u : stT} {N : Nat} (h : Tz τ t N) (hs : Sm t N u) : Tz τ u N := by
  obtain ⟨a, b, c, d⟩ := hs
  refine ⟨fun i e1 e2 e3 e4 => ?_, fun k e1 e2 e3 e4 e5 e6 => ?_, fun i hi => (d i hi).trans (h.2.2 i hi)⟩
  · rw [a 0 (by decide) (by decide) (by decide) (by decide) (by decide) (by decide)]; exact h.1 i e1 e2 e3 e4
  · by_cases k2 : k = 2
    · rw [k2, b]; exact h.2.1 2 (by decide) (by decide) (by decide) (by decide) (by decide) (by decide)
    · by_cases k3 : k = 3
      · rw [k3, c]; exact h.2.1 3 (by decide) (by decide) (by decide) (by decide) (by decide) (by decide)
      · rw [a k k2 k3 e2 e3 e4 e5]; exact h.2.1 k e1 e2 e3 e4 e5 e6
theorem Tz.tk {τ t : stT} {N : Nat} (h : Tz τ t N) (o : TB) : Tz τ (tkτ t o) N := ⟨fun i a b c d => by rw [tkτ_k t 0 (by decide)]; exact h.1 i a b c d, fun k a b c d e f => by rw [tkτ_k t k f]; exact h.2.1 k a b c d e f, fun i hi => by rw [tkτ_k t 4 (by decide)]; exact h.2.2 i hi⟩
theorem Cz.u0 {σ s : stT} (h : Cz σ s) (j : Nat) (hj : j = 0 ∨ j = 7) (v : Int32) : Cz σ (up s 0 j v) := by
  refine ⟨fun i a b => ?_, fun k a b c d e => ?_, fun i hi => ?_⟩
  · show upd (s 0) j v i = _
    unfold upd
    rw [if_neg (by omega)]
    exact h.1 i a b
  · rw [up0 _ _ _ _ a]; exact h.2.1 k a b c d e
  · rw [up0 _ _ _ _ (by decide), up0 _ _ _ _ (by decide), up0 _ _ _ _ (by decide)]; exact h.2.2 i hi
theorem Cz.up15 {σ s : stT} (h : Cz σ s) (j : Nat) (v : Int32) : Cz σ (up s 15 j v) := by
  refine ⟨fun i a b => h.1 i a b, fun k a b c d e => ?_, fun i hi => h.2.2 i hi⟩
  show (if k = 15 then _ else _) = _
  rw [if_neg e]
  exact h.2.1 k a b c d e
theorem Cz.k {σ s u : stT} (h : Cz σ s) (h0 : ∀ j, j ≠ 7 → u 0 j = s 0 j) (hk : ∀ k, k ≠ 0 → k ≠ 15 → u k = s k) : Cz σ u := ⟨fun i a b => (h0 i b).trans (h.1 i a b), fun k a b c d e => (hk k (by omega) e).trans (h.2.1 k a b c d e), fun i hi => by rw [hk 17 (by decide) (by decide), hk 18 (by decide) (by decide), hk 19 (by decide) (by decide)]; exact h.2.2 i hi⟩
theorem Cz.fe {σ : stT} {N I O G : Nat} {oA oB mi : Nat → Nat} (h : HC σ N I O G oA oB mi) (most : Nat) : Cz σ (feR σ N I O G most).2 := by
  have a := fe_lk h most
  exact ⟨fun j _ _ => by rw [a 0 (by decide) (by decide) (by decide) (by decide) (by decide)], fun k h1 h2 h3 h4 h5 => a k h3 h4 (by omega) (by omega) (by omega), fe_le σ N I O G most⟩
section RE
variable {σ τ s t : stT} {ρ : rtT} {N I O A G S M : Nat}
theorem InvB.cz (h : InvB σ τ ρ N I O A G S M) {s t : stT} {r : rtT} (hs : Cz σ s) (ht : Tz τ t N) (hr : ∀ k, 1 ≤ k → r k = ρ k) : InvB s t r N I O A G S M := h.cg hs.1 hs.2.1 hs.2.2 ht.1 ht.2.1 ht.2.2 hr
theorem rho0 (ρ : rtT) (v : Int64) : ∀ k, 1 ≤ k → upL ρ 0 0 v k = ρ k := fun k h => by
  show (if k = 0 then _ else _) = _
  rw [if_neg (by omega)]
theorem rho1 (ρ : rtT) (o : TB) : ∀ k, 1 ≤ k → tkρ (upL ρ 0 0 0) o k = ρ k := fun k h => by rw [tkρ_k _ k (by omega), rho0 ρ 0 k h]
theorem Tz.ed {n x z : Int32} (ht : Tz τ t N) (h : EdP τ N n x z) : EdP t N n x z := h.cg (ht.2.1 1 (by decide) (by decide) (by decide) (by decide) (by decide) (by decide))
/-- nothing found -/
theorem run_n (h : InvB σ τ ρ N I O A G S M) (hs : Cz σ s) (ht : Tz τ t N) : Inv (up s 0 0 (-1)) (up (up t 0 7 0) 0 8 0) ρ ∧ Inv (up s 0 0 (-1)) (up (up t 0 7 0) 0 8 1) ρ ∧ Inv (up s 0 0 (-1)) (up (up t 0 7 0) 0 8 2) ρ := by
  have key : ∀ v, Inv (up s 0 0 (-1)) (up (up t 0 7 0) 0 8 v) ρ := fun v => ⟨N, I, O, A, G, S, M, h.cz (hs.u0 0 (Or.inl rfl) _) ((ht.u0 7 (by decide) 0).u0 8 (by decide) v) (fun _ _ => rfl), Or.inl ⟨rfl, rfl⟩⟩
  exact ⟨key 0, key 1, key 2⟩
/-- no edit is wanted -/
theorem run_0 (h : InvB σ τ ρ N I O A G S M) (hs : Cz σ s) (ht : Tz τ t N) : Inv (takeF (up s 0 0 (nI 0)) 0 S) (up (up (up t 0 7 1) 0 8 0) 0 9 1) (upL ρ 0 0 0) := by
  refine ⟨N, I, O, A, G, S, M, h.cz ((((hs.u0 0 (Or.inl rfl) _).up15 0 _).up15 1 _).u0 7 (Or.inr rfl) 0) (((ht.u0 7 (by decide) 1).u0 8 (by decide) 0).u0 9 (by decide) 1) (rho0 ρ 0), Or.inr ⟨0, by decide, rfl, rfl, rfl, fun k hk => absurd hk (by omega), fun q => absurd q (by decide), fun k hk => absurd hk (by omega), ?_⟩⟩
  show (0 : Int32) = lnV _ _
  unfold lnV
  exact (if_neg (show ¬ up (up (up t 0 7 1) 0 8 0) 0 9 1 0 9 = 0 from (by decide : ¬ (1 : Int32) = 0))).symm
theorem t1_cz (hs : Cz σ s) (n i : Nat) : Cz σ (t1F (up (up (up s 15 0 (-1)) 15 1 (-1)) 0 7 (-1)) n i) := (((hs.up15 0 (-1)).up15 1 (-1)).u0 7 (Or.inr rfl) (-1)).k (fun j hj => t1F_0 _ n j hj i) (fun k h0 h15 => t1F_k _ n k h0 h15 i)
theorem t2_cz (hs : Cz σ s) (n m i : Nat) : Cz σ (t2F (up (up (up s 15 0 (-1)) 15 1 (-1)) 0 7 (-1)) n m i i) := (((hs.up15 0 (-1)).up15 1 (-1)).u0 7 (Or.inr rfl) (-1)).k (fun j hj => t2F_0 _ n m i j hj i) (fun k h0 h15 => t2F_k _ n m i k h0 h15 i)
theorem OfP.cz (hs : Cz σ s) {n k : Nat} (h : OfP σ ρ n k) : OfP s ρ n k := by
  unfold OfP SpJ at *
  rw [hs.2.1 11 (by decide) (by decide) (by decide) (by decide) (by decide), hs.2.1 12 (by decide) (by decide) (by decide) (by decide) (by decide), hs.2.1 13 (by decide) (by decide) (by decide) (by decide) (by decide), hs.2.1 14 (by decide) (by decide) (by decide) (by decide) (by decide)]
  exact h
/-- one edit -/
theorem run_1 (h : InvB σ τ ρ N I O A G S M) (hs : Cz σ s) (ht : Tz τ t N) (he : (s 17 0 = t 8 0 ∧ s 18 0 = t 9 0 ∧ s 19 0 = t 10 0) ∧ EdP τ N (t 8 0) (t 9 0) (t 10 0)) (ho : ∀ k, k < S → OfP σ ρ (ix (s 17 0)) k) :
    (1 ≤ S → Inv (takeF (up s 0 0 (nI 1)) 1 S) (tkτ (up (up (up t 0 7 1) 0 8 1) 0 9 1) (tB (up (up t 0 7 1) 0 8 1) ρ 1 S)) (tkρ (upL ρ 0 0 0) (tB (up (up t 0 7 1) 0 8 1) ρ 1 S))) ∧ (S < 1 → Inv (takeF (up s 0 0 (nI 1)) 1 S) (up (up (up t 0 7 1) 0 8 1) 0 9 0) (upL ρ 0 0 0)) := by
  have hS6 : S ≤ 6 := h.1.2.2.2.2.2.2.2.2.2.2.2.2.1
  have hs1 := hs.u0 0 (Or.inl rfl) (nI 1)
  have hcz := t1_cz hs1 (ix (s 17 0)) S
  have ht2 := (ht.u0 7 (by decide) 1).u0 8 (by decide) 1
  have e17 : ∀ j k, j = 17 ∨ j = 18 ∨ j = 19 → takeF (up s 0 0 (nI 1)) 1 S j k = s j k := fun j k hj => congrFun ((t1F_k _ _ j (by omega) (by omega) S).trans (by rcases hj with rfl | rfl | rfl <;> rfl)) k
  have e0 : takeF (up s 0 0 (nI 1)) 1 S 0 0 = nI 1 := (t1F_0 _ _ 0 (by decide) S).trans rfl
  have h0 : TkR false (up (up (up (up s 0 0 (nI 1)) 15 0 (-1)) 15 1 (-1)) 0 7 (-1)) none := ⟨rfl, rfl, rfl⟩
  have hb := ((hs1.up15 0 (-1)).up15 1 (-1)).u0 7 (Or.inr rfl) (-1)
  have edt : ∀ (u : stT), Tz τ u N → u 8 = t 8 → u 9 = t 9 → u 10 = t 10 → ∀ k, k < 1 → (takeF (up s 0 0 (nI 1)) 1 S 17 k = u 8 k ∧ takeF (up s 0 0 (nI 1)) 1 S 18 k = u 9 k ∧ takeF (up s 0 0 (nI 1)) 1 S 19 k = u 10 k) ∧ EdP u N (u 8 k) (u 9 k) (u 10 k) := by
    intro u hu e8 e9 e10 k hk
    obtain rfl : k = 0 := by omega
    rw [e17 17 0 (by decide), e17 18 0 (by decide), e17 19 0 (by decide), e8, e9, e10]
    exact ⟨he.1, hu.ed he.2⟩
  constructor
  · intro hle
    obtain ⟨o, eo⟩ : ∃ o, o = tB (up (up t 0 7 1) 0 8 1) ρ 1 S := ⟨_, rfl⟩
    have hT := t1_tk (τ := up (up t 0 7 1) 0 8 1) (ρ := ρ) hS6 (n := ix (s 17 0)) (fun k hk => (ho k hk).cz hb) (by show ix (t 8 0) = _; rw [← he.1.1]) h0 S (Nat.le_refl S)
    have hsm := bO1_some (fun a => farF (up (up t 0 7 1) 0 8 1) ρ 0 a + 0) hle
    rw [tB1 hle] at eo
    rw [← eo] at hT hsm
    rw [tB1 hle, ← eo]
    cases o with
    | none => cases hsm
    | some p =>
      obtain ⟨D, a, b⟩ := p
      obtain ⟨d, d1, rfl, d3, d4, d5, d6, -⟩ := hT
      refine ⟨N, I, O, A, G, S, M, h.cz hcz ((ht2.u0 9 (by decide) 1).tk _) (rho1 ρ _), Or.inr ⟨1, by decide, e0, rfl, rfl, edt _ ((ht2.u0 9 (by decide) 1).tk _) rfl rfl rfl, fun q => absurd q (by decide), fun k hk => ?_, ?_⟩⟩
      · obtain rfl : k = 0 := by omega
        exact d6
      · exact d3.trans (lN_32 d1).symm
  · intro hlt
    obtain rfl : S = 0 := by omega
    exact ⟨N, I, O, A, G, 0, M, h.cz hcz (ht2.u0 9 (by decide) 0) (rho0 ρ 0), Or.inr ⟨1, by decide, e0, rfl, rfl, edt _ (ht2.u0 9 (by decide) 0) rfl rfl rfl, fun q => absurd q (by decide), fun k hk => by
      obtain rfl : k = 0 := by omega
      rfl, rfl⟩⟩
/-- two edits -/
theorem run_2 (h : InvB σ τ ρ N I O A G S M) (hs : Cz σ s) (ht : Tz τ t N) (he : ∀ k, k < 2 → (s 17 k = t 8 k ∧ s 18 k = t 9 k ∧ s 19 k = t 10 k) ∧ EdP τ N (t 8 k) (t 9 k) (t 10 k)) (hne : ¬ t 8 0 = t 8 1) (ho : ∀ j, j < 2 → ∀ k, k < S → OfP σ ρ (ix (s 17 j)) k) :
    (2 ≤ S → Inv (takeF (up s 0 0 (nI 2)) 2 S) (tkτ (up (up (up t 0 7 1) 0 8 2) 0 9 1) (tB (up (up t 0 7 1) 0 8 2) ρ 2 S)) (tkρ (upL ρ 0 0 0) (tB (up (up t 0 7 1) 0 8 2) ρ 2 S))) ∧ (S < 2 → Inv (takeF (up s 0 0 (nI 2)) 2 S) (up (up (up t 0 7 1) 0 8 2) 0 9 0) (upL ρ 0 0 0)) := by
  have hS6 : S ≤ 6 := h.1.2.2.2.2.2.2.2.2.2.2.2.2.1
  have hs1 := hs.u0 0 (Or.inl rfl) (nI 2)
  have hcz := t2_cz hs1 (ix (s 17 0)) (ix (s 17 1)) S
  have ht2 := (ht.u0 7 (by decide) 1).u0 8 (by decide) 2
  have e17 : ∀ j k, j = 17 ∨ j = 18 ∨ j = 19 → takeF (up s 0 0 (nI 2)) 2 S j k = s j k := fun j k hj => congrFun ((t2F_k _ _ _ S j (by omega) (by omega) S).trans (by rcases hj with rfl | rfl | rfl <;> rfl)) k
  have e0 : takeF (up s 0 0 (nI 2)) 2 S 0 0 = nI 2 := (t2F_0 _ _ _ S 0 (by decide) S).trans rfl
  have h0 : TkR true (up (up (up (up s 0 0 (nI 2)) 15 0 (-1)) 15 1 (-1)) 0 7 (-1)) none := ⟨rfl, rfl, rfl⟩
  have hb := ((hs1.up15 0 (-1)).up15 1 (-1)).u0 7 (Or.inr rfl) (-1)
  have edt : ∀ (u : stT), Tz τ u N → u 8 = t 8 → u 9 = t 9 → u 10 = t 10 → ∀ k, k < 2 → (takeF (up s 0 0 (nI 2)) 2 S 17 k = u 8 k ∧ takeF (up s 0 0 (nI 2)) 2 S 18 k = u 9 k ∧ takeF (up s 0 0 (nI 2)) 2 S 19 k = u 10 k) ∧ EdP u N (u 8 k) (u 9 k) (u 10 k) := by
    intro u hu e8 e9 e10 k hk
    rw [e17 17 k (by decide), e17 18 k (by decide), e17 19 k (by decide), e8, e9, e10]
    exact ⟨(he k hk).1, hu.ed (he k hk).2⟩
  constructor
  · intro hle
    obtain ⟨o, eo⟩ : ∃ o, o = tB (up (up t 0 7 1) 0 8 2) ρ 2 S := ⟨_, rfl⟩
    have hT := t2_tk (τ := up (up t 0 7 1) 0 8 2) (ρ := ρ) hS6 (n := ix (s 17 0)) (m := ix (s 17 1)) (fun k hk => (ho 0 (by decide) k hk).cz hb) (fun k hk => (ho 1 (by decide) k hk).cz hb) (by show ix (t 8 0) = _; rw [← (he 0 (by decide)).1.1]) (by show ix (t 8 1) = _; rw [← (he 1 (by decide)).1.1]) h0 S (Nat.le_refl S)
    have hsm := bO2_some (fun a b => farF (up (up t 0 7 1) 0 8 2) ρ 0 a + farF (up (up t 0 7 1) 0 8 2) ρ 1 b) hle S (by omega)
    rw [tB2 hle] at eo
    rw [← eo] at hT hsm
    rw [tB2 hle, ← eo]
    cases o with
    | none => cases hsm
    | some p =>
      obtain ⟨D, a, b⟩ := p
      obtain ⟨d, d1, rfl, d3, d4, d5, d6, d7⟩ := hT
      refine ⟨N, I, O, A, G, S, M, h.cz hcz ((ht2.u0 9 (by decide) 1).tk _) (rho1 ρ _), Or.inr ⟨2, by decide, e0, rfl, rfl, edt _ ((ht2.u0 9 (by decide) 1).tk _) rfl rfl rfl, fun _ => hne, fun k hk => ?_, ?_⟩⟩
      · rcases (show k = 0 ∨ k = 1 by omega) with rfl | rfl
        · exact d6
        · exact d7 rfl
      · exact d3.trans (lN_32 d1).symm
  · intro hlt
    have e : takeF (up s 0 0 (nI 2)) 2 S = up (up (up (up s 0 0 (nI 2)) 15 0 (-1)) 15 1 (-1)) 0 7 (-1) := t2_none _ _ _ hlt
    refine ⟨N, I, O, A, G, S, M, h.cz hcz (ht2.u0 9 (by decide) 0) (rho0 ρ 0), Or.inr ⟨2, by decide, e0, rfl, rfl, edt _ (ht2.u0 9 (by decide) 0) rfl rfl rfl, fun _ => hne, fun k hk => ?_, ?_⟩⟩
    · rw [e]
      rcases (show k = 0 ∨ k = 1 by omega) with rfl | rfl <;> rfl
    · rw [e]; rfl
end RE
