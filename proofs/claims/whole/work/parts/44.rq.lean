/-! the reference's search finds the first right set: that of the class -/
section RQ
variable {τ : stT} {N b K G : Nat} {ow mi : Nat → Nat} {du : Nat → Int32} {R : Nat → Ru}
noncomputable def n1 (τ : stT) (K G : Nat) (ow mi : Nat → Nat) (du : Nat → Int32) (R : Nat → Ru) (n : Nat) : Option (Nat × (Nat × Nat)) := @ite _ (frP τ n) (Classical.propDecidable _) ((g1 R mi du G (iv ow K n)).map (fun p => (iv ow K n, p))) none
theorem n1_t {n : Nat} (h : frP τ n) : n1 τ K G ow mi du R n = (g1 R mi du G (iv ow K n)).map (fun p => (iv ow K n, p)) := if_pos h
theorem n1_f {n : Nat} (h : ¬ frP τ n) : n1 τ K G ow mi du R n = none := if_neg h
theorem Sm.fr {t : stT} (h : Sm τ N t) (n : Nat) : frP t n ↔ frP τ n := by
  unfold frP
  rw [h.1 1 (by decide) (by decide) (by decide) (by decide) (by decide) (by decide), h.1 5 (by decide) (by decide) (by decide) (by decide) (by decide) (by decide)]
theorem q1_ev (hS : SF τ N b K G ow mi du) (hR : RTB τ b K ow R) : ∀ (c n : Nat) (t : stT), n + c ≤ N → Sm τ N t →
    (gfind (n1 τ K G ow mi du R) n c = none → (q1R N G n c t).1 = false) ∧ (∀ k a c2, gfind (n1 τ K G ow mi du R) n c = some (k, (a, c2)) → (q1R N G n c t).1 = true ∧ Es1 (q1R N G n c t).2 (ow k) (olw ow a) (olw ow c2)) ∧ Sm τ N (q1R N G n c t).2
  | 0, n, t, _, hs => ⟨fun _ => rfl, fun k a c2 q => (by rw [gfind_0] at q; cases q), hs⟩
  | c + 1, n, t, hn, hs => by
    by_cases hf : frP τ n
    · have hf2 : frP t n := (hs.fr n).mpr hf
      obtain ⟨k, hb, hk, e⟩ := hS.old (show n < N by omega) hf.1
      obtain ⟨r1, r2⟩ := hs.root hS hR
      obtain ⟨w1, w2, w3⟩ := s1_ev r1 r2 hb hk
      rw [e] at w1 w2 w3
      have ei : iv ow K n = k := by rw [← e]; exact iv_of hS hk
      cases hg : g1 R mi du G k with
      | none =>
        rw [gfind_n (by rw [n1_t hf, ei, hg]; rfl), q1R_f hf2 (by rw [w1 hg]; decide)]
        exact q1_ev hS hR c (n + 1) _ (by omega) (hs.tr w3)
      | some p =>
        obtain ⟨a, c2⟩ := p
        obtain ⟨x1, x2⟩ := w2 a c2 hg
        rw [gfind_s (by rw [n1_t hf, ei, hg]; rfl), q1R_t hf2 x1]
        refine ⟨fun q => (by cases q), fun k a c2 q => ?_, hs.tr w3⟩
        cases q
        exact ⟨rfl, by rw [e]; exact x2⟩
    · rw [gfind_n (n1_f hf), q1R_k (fun q => hf ((hs.fr n).mp q))]
      exact q1_ev hS hR c (n + 1) t (by omega) hs
noncomputable def n2 (τ : stT) (K G : Nat) (ow mi : Nat → Nat) (du : Nat → Int32) (R : Nat → Ru) (n m : Nat) : Option (Nat × Nat × ((Nat × Nat) × (Nat × Nat))) := @ite _ (frP τ m) (Classical.propDecidable _) ((g2 R mi du G (iv ow K n) (iv ow K m)).map (fun q => (iv ow K n, iv ow K m, q))) none
theorem n2_t {n m : Nat} (h : frP τ m) : n2 τ K G ow mi du R n m = (g2 R mi du G (iv ow K n) (iv ow K m)).map (fun q => (iv ow K n, iv ow K m, q)) := if_pos h
theorem n2_f {n m : Nat} (h : ¬ frP τ m) : n2 τ K G ow mi du R n m = none := if_neg h
noncomputable def n3 (τ : stT) (N K G : Nat) (ow mi : Nat → Nat) (du : Nat → Int32) (R : Nat → Ru) (n : Nat) : Option (Nat × Nat × ((Nat × Nat) × (Nat × Nat))) := @ite _ (frP τ n) (Classical.propDecidable _) (gfind (n2 τ K G ow mi du R n) (n + 1) (N - (n + 1))) none
theorem n3_t {n : Nat} (h : frP τ n) : n3 τ N K G ow mi du R n = gfind (n2 τ K G ow mi du R n) (n + 1) (N - (n + 1)) := if_pos h
theorem n3_f {n : Nat} (h : ¬ frP τ n) : n3 τ N K G ow mi du R n = none := if_neg h
theorem q2I_ev (hS : SF τ N b K G ow mi du) (hR : RTB τ b K ow R) {k : Nat} (hb : b ≤ k) (hk : k < K) : ∀ (c m : Nat) (t : stT), ow k < m → m + c ≤ N → Sm τ N t →
    (gfind (n2 τ K G ow mi du R (ow k)) m c = none → (q2I N G (ow k) m c t).1 = false) ∧ (∀ k1 k2 a c2 a3 c3, gfind (n2 τ K G ow mi du R (ow k)) m c = some (k1, k2, ((a, c2), (a3, c3))) → (q2I N G (ow k) m c t).1 = true ∧ Es1 (q2I N G (ow k) m c t).2 (ow k1) (olw ow a) (olw ow c2) ∧ Es2 (q2I N G (ow k) m c t).2 (ow k2) (olw ow a3) (olw ow c3)) ∧ Sm τ N (q2I N G (ow k) m c t).2
  | 0, m, t, _, _, hs => ⟨fun _ => rfl, fun k1 k2 a c2 a3 c3 q => (by rw [gfind_0] at q; cases q), hs⟩
  | c + 1, m, t, hkm, hm, hs => by
    by_cases hf : frP τ m
    · have hf2 : frP t m := (hs.fr m).mpr hf
      obtain ⟨k2, hb2, hk2, e⟩ := hS.old (show m < N by omega) hf.1
      have hkk : k < k2 := hS.rev hk hk2 (by omega)
      obtain ⟨r1, r2⟩ := hs.root hS hR
      obtain ⟨w1, w2, w3⟩ := s3_ev r1 r2 hb hkk hk2
      rw [e] at w1 w2 w3
      have ei : iv ow K m = k2 := by rw [← e]; exact iv_of hS hk2
      have ek : iv ow K (ow k) = k := iv_of hS hk
      cases hg : g2 R mi du G k k2 with
      | none =>
        rw [gfind_n (by rw [n2_t hf, ei, ek, hg]; rfl), q2I_f hf2 (by rw [w1 hg]; decide)]
        exact q2I_ev hS hR hb hk c (m + 1) _ (by omega) (by omega) (hs.tr w3)
      | some p =>
        obtain ⟨⟨a, c2⟩, ⟨a3, c3⟩⟩ := p
        obtain ⟨x1, x2⟩ := w2 a c2 a3 c3 hg
        rw [gfind_s (by rw [n2_t hf, ei, ek, hg]; rfl), q2I_t hf2 x1]
        refine ⟨fun q => (by cases q), fun k1 k2 a c2 a3 c3 q => ?_, hs.tr w3⟩
        cases q
        exact ⟨rfl, x2.1, by rw [e]; exact x2.2⟩
    · rw [gfind_n (n2_f hf), q2I_k (fun q => hf ((hs.fr m).mp q))]
      exact q2I_ev hS hR hb hk c (m + 1) t (by omega) (by omega) hs
theorem q2_ev (hS : SF τ N b K G ow mi du) (hR : RTB τ b K ow R) : ∀ (c n : Nat) (t : stT), n + c ≤ N → Sm τ N t →
    (gfind (n3 τ N K G ow mi du R) n c = none → (q2O N G n c t).1 = false) ∧ (∀ k1 k2 a c2 a3 c3, gfind (n3 τ N K G ow mi du R) n c = some (k1, k2, ((a, c2), (a3, c3))) → (q2O N G n c t).1 = true ∧ Es1 (q2O N G n c t).2 (ow k1) (olw ow a) (olw ow c2) ∧ Es2 (q2O N G n c t).2 (ow k2) (olw ow a3) (olw ow c3)) ∧ Sm τ N (q2O N G n c t).2
  | 0, n, t, _, hs => ⟨fun _ => rfl, fun k1 k2 a c2 a3 c3 q => (by rw [gfind_0] at q; cases q), hs⟩
  | c + 1, n, t, hn, hs => by
    by_cases hf : frP τ n
    · have hf2 : frP t n := (hs.fr n).mpr hf
      obtain ⟨k, hb, hk, e⟩ := hS.old (show n < N by omega) hf.1
      obtain ⟨w1, w2, w3⟩ := q2I_ev hS hR hb hk (N - (n + 1)) (n + 1) t (by omega) (by omega) hs
      rw [e] at w1 w2 w3
      cases hg : gfind (n2 τ K G ow mi du R n) (n + 1) (N - (n + 1)) with
      | none =>
        rw [gfind_n (by rw [n3_t hf]; exact hg), q2O_f hf2 (by rw [w1 hg]; decide)]
        exact q2_ev hS hR c (n + 1) _ (by omega) w3
      | some p =>
        obtain ⟨k1, k2, ⟨a, c2⟩, ⟨a3, c3⟩⟩ := p
        obtain ⟨x1, x2⟩ := w2 k1 k2 a c2 a3 c3 hg
        rw [gfind_s (by rw [n3_t hf]; exact hg), q2O_t hf2 x1]
        refine ⟨fun q => (by cases q), fun k1 k2 a c2 a3 c3 q => ?_, w3⟩
        cases q
        exact ⟨x1, x2⟩
    · rw [gfind_n (n3_f hf), q2O_k (fun q => hf ((hs.fr n).mp q))]
      exact q2_ev hS hR c (n + 1) t (by omega) hs
end RQ
section RZ
variable {σ τ : stT} {N I O G : Nat} {oA oB mi : Nat → Nat}
theorem z1_eq (hS : SF τ N (1 + I) (1 + I + O) G (fun k => ix (σ 6 k)) mi (du0 σ)) (h5 : ∀ k, 1 + I ≤ k → k < 1 + I + O → τ 5 (ix (σ 6 k)) = σ 5 (ix (σ 6 k))) : gfind (n1 τ (1 + I + O) G (fun k => ix (σ 6 k)) mi (du0 σ) (R0 σ I oA oB)) 0 N = Z1 σ I O oA oB mi G := by
  refine gf_map (fun i => ix (σ 6 (1 + I + i))) (fun a c _ h1 h2 => hS.1 _ _ (by omega) (by omega)) (fun a _ h => ⟨Nat.zero_le _, by have := hS.2.1 (1 + I + a) (by omega); simpa using this⟩) (fun a _ h => ?_) (fun x _ hx hno => ?_)
  · have hk : 1 + I + a < 1 + I + O := by omega
    have e2 : τ 1 (ix (σ 6 (1 + I + a))) = 2 := hS.2.2.2.2.1 (1 + I + a) (by omega) hk
    by_cases hf : σ 5 (ix (σ 6 (1 + I + a))) = 0
    · rw [n1_t ⟨e2, by rw [h5 _ (by omega) hk]; exact hf⟩, F1_t hf, iv_of hS hk]
    · rw [n1_f (fun q => hf (by rw [← h5 _ (by omega) hk]; exact q.2)), F1_f hf]
  · refine n1_f (fun q => ?_)
    obtain ⟨k, hb, hk, e⟩ := hS.old (show x < N by omega) q.1
    exact hno (k - (1 + I)) (Nat.zero_le _) (by omega) (by rw [show 1 + I + (k - (1 + I)) = k by omega]; exact e)
theorem z2_eq (hS : SF τ N (1 + I) (1 + I + O) G (fun k => ix (σ 6 k)) mi (du0 σ)) (h5 : ∀ k, 1 + I ≤ k → k < 1 + I + O → τ 5 (ix (σ 6 k)) = σ 5 (ix (σ 6 k))) : gfind (n3 τ N (1 + I + O) G (fun k => ix (σ 6 k)) mi (du0 σ) (R0 σ I oA oB)) 0 N = Z2 σ I O oA oB mi G := by
  have fr : ∀ a, a < O → (frP τ (ix (σ 6 (1 + I + a))) ↔ σ 5 (ix (σ 6 (1 + I + a))) = 0) := fun a ha => ⟨fun q => by rw [← h5 _ (by omega) (by omega)]; exact q.2, fun q => ⟨hS.2.2.2.2.1 (1 + I + a) (by omega) (by omega), by rw [h5 _ (by omega) (by omega)]; exact q⟩⟩
  refine gf_map (fun i => ix (σ 6 (1 + I + i))) (fun a c _ h1 h2 => hS.1 _ _ (by omega) (by omega)) (fun a _ h => ⟨Nat.zero_le _, by have := hS.2.1 (1 + I + a) (by omega); simpa using this⟩) (fun a _ h => ?_) (fun x _ hx hno => ?_)
  · have hk : 1 + I + a < 1 + I + O := by omega
    have haN := hS.2.1 (1 + I + a) hk
    by_cases hf : σ 5 (ix (σ 6 (1 + I + a))) = 0
    · rw [n3_t ((fr a (by omega)).mpr hf)]
      refine gf_map (fun i => ix (σ 6 (1 + I + i))) (fun c d _ h1 h2 => hS.1 _ _ (by omega) (by omega)) (fun c h1 h2 => ?_) (fun c h1 h2 => ?_) (fun x h1 h2 hno => ?_)
      · have h3 := hS.1 (1 + I + a) (1 + I + c) (by omega) (by omega)
        have h4 := hS.2.1 (1 + I + c) (by omega)
        dsimp only at h3 h4 haN
        omega
      · have hkc : 1 + I + c < 1 + I + O := by omega
        by_cases hf2 : σ 5 (ix (σ 6 (1 + I + c))) = 0
        · rw [n2_t ((fr c (by omega)).mpr hf2), F2_t ⟨hf, hf2⟩, iv_of hS hk, iv_of hS hkc]
        · rw [n2_f (fun q => hf2 ((fr c (by omega)).mp q)), F2_f (fun q => hf2 q.2)]
      · refine n2_f (fun q => ?_)
        obtain ⟨k, hb, hk2, e⟩ := hS.old (show x < N by dsimp only at haN; omega) q.1
        have hak : 1 + I + a < k := hS.rev hk hk2 (show ix (σ 6 (1 + I + a)) < ix (σ 6 k) by have e : ix (σ 6 k) = x := e; omega)
        exact hno (k - (1 + I)) (by omega) (by omega) (by rw [show 1 + I + (k - (1 + I)) = k by omega]; exact e)
    · rw [n3_f (fun q => hf ((fr a (by omega)).mp q))]
      exact ((gf_none _ _).mpr (fun c _ _ => F2_f (fun q => hf q.1))).symm
  · refine n3_f (fun q => ?_)
    obtain ⟨k, hb, hk, e⟩ := hS.old (show x < N by omega) q.1
    exact hno (k - (1 + I)) (Nat.zero_le _) (by omega) (by rw [show 1 + I + (k - (1 + I)) = k by omega]; exact e)
end RZ
