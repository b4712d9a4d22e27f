/-! class and reference agree: the invariant -/
def near (x : Int32) : Prop := -1000 ≤ x.toInt ∧ x.toInt ≤ 1000
def perI (I : Nat) (c : Int32) : Prop := ∀ t, t < 32 → Bt c t = Bt c (t % 2 ^ I)
def Cn (σ τ : stT) (N I O A G S M : Nat) : Prop := (σ 0 1 = nI N ∧ τ 0 1 = nI N) ∧ (σ 0 2 = nI I ∧ τ 0 2 = nI I) ∧ (σ 0 3 = nI O ∧ τ 0 3 = nI O) ∧ (σ 0 4 = nI A ∧ τ 0 4 = nI A) ∧ (σ 0 5 = nI G ∧ τ 0 5 = nI G) ∧ (σ 0 6 = nI S ∧ τ 0 6 = nI S) ∧ (σ 0 8 = nI M ∧ τ 0 10 = nI M) ∧ N = 1 + I + O + A ∧ I ≤ 5 ∧ O ≤ 8 ∧ A ≤ 24 ∧ G ≤ 4 ∧ S ≤ 6 ∧ M ≤ 20
/-- an AND's literals: of nodes before it -/
def LtP (σ τ : stT) (j : Nat) : Prop := σ 2 j = τ 2 j ∧ σ 3 j = τ 3 j ∧ okL (τ 2 j) (2 * j) ∧ okL (τ 3 j) (2 * j)
/-- an old AND -/
def OlP (σ τ : stT) (ρ : rtT) (j : Nat) : Prop := (¬ τ 1 (ix (τ 2 j) / 2) = 3 ∧ ¬ τ 1 (ix (τ 3 j) / 2) = 3) ∧ τ 4 j = cl (τ 4) (ix (τ 2 j)) &&& cl (τ 4) (ix (τ 3 j)) ∧ (σ 5 j = τ 5 j ∧ (σ 5 j = 0 ∨ σ 5 j = 1)) ∧ (ρ 1 j = (σ 11 j).toInt64 ∧ ρ 2 j = (σ 12 j).toInt64 ∧ near (σ 11 j) ∧ near (σ 12 j))
def NdJ (σ τ : stT) (ρ : rtT) (I j : Nat) : Prop := ((σ 1 j = 1 ↔ τ 1 j = 2) ∧ (σ 1 j = 2 ↔ τ 1 j = 3)) ∧ σ 4 j = τ 4 j ∧ (τ 1 j = 2 ∨ τ 1 j = 3 → LtP σ τ j) ∧ (τ 1 j = 2 → OlP σ τ ρ j) ∧ perI I (τ 4 j)
def OwP (σ τ : stT) (N I O : Nat) : Prop := (∀ n m, n < m → m < 1 + I + O → ix (σ 6 n) < ix (σ 6 m)) ∧ (∀ k, k < 1 + I + O → okL (σ 6 k) N ∧ ¬ τ 1 (ix (σ 6 k)) = 3) ∧ (∀ j, j < N → ¬ τ 1 j = 3 → ∃ k, k < 1 + I + O ∧ ix (σ 6 k) = j) ∧ (∀ k, k < 1 + I → ¬ τ 1 (ix (σ 6 k)) = 2) ∧ ∀ k, 1 + I ≤ k → k < 1 + I + O → τ 1 (ix (σ 6 k)) = 2
def OuJ (σ τ : stT) (N i : Nat) : Prop := σ 7 i = τ 6 i ∧ σ 8 i = τ 7 i ∧ okL (τ 6 i) (2 * N) ∧ okL (τ 7 i) (2 * N) ∧ ¬ τ 1 (ix (τ 6 i) / 2) = 3 ∧ ¬ τ 1 (ix (τ 7 i) / 2) = 2
def SpJ (σ : stT) (ρ : rtT) (s : Nat) : Prop := ρ 3 s = (σ 13 s).toInt64 ∧ ρ 4 s = (σ 14 s).toInt64 ∧ near (σ 13 s) ∧ near (σ 14 s)
/-- the literals x, z for the AND n, an old one -/
def EdP (τ : stT) (N : Nat) (n x z : Int32) : Prop := okL n N ∧ τ 1 (ix n) = 2 ∧ okL x (2 * ix n) ∧ okL z (2 * ix n) ∧ ¬ τ 1 (ix x / 2) = 3 ∧ ¬ τ 1 (ix z / 2) = 3
def PaJ (σ τ : stT) (N i : Nat) : Prop := ∃ r, r ≤ 2 ∧ σ 16 i = nI r ∧ τ 12 i = nI r ∧ ∀ k, k < r → (σ 17 (2 + (2 * i + k)) = τ 13 (2 * i + k) ∧ σ 18 (2 + (2 * i + k)) = τ 14 (2 * i + k) ∧ σ 19 (2 + (2 * i + k)) = τ 15 (2 * i + k)) ∧ EdP τ N (τ 13 (2 * i + k)) (τ 14 (2 * i + k)) (τ 15 (2 * i + k))
def InvB (σ τ : stT) (ρ : rtT) (N I O A G S M : Nat) : Prop := Cn σ τ N I O A G S M ∧ (∀ j, j < N → NdJ σ τ ρ I j) ∧ OwP σ τ N I O ∧ (∀ i, i < G → OuJ σ τ N i) ∧ (∀ s, s < S → SpJ σ ρ s) ∧ (∀ i, i < M → PaJ σ τ N i) ∧ (σ 1 0 = 0 ∧ σ 4 0 = 0 ∧ σ 6 0 = 0)
def RuN (σ τ : stT) : Prop := σ 0 0 = -1 ∧ τ 0 7 = 0
def RuE (σ τ : stT) (ρ : rtT) (N r : Nat) : Prop := r ≤ 2 ∧ σ 0 0 = nI r ∧ τ 0 7 = 1 ∧ τ 0 8 = nI r ∧ (∀ k, k < r → (σ 17 k = τ 8 k ∧ σ 18 k = τ 9 k ∧ σ 19 k = τ 10 k) ∧ EdP τ N (τ 8 k) (τ 9 k) (τ 10 k)) ∧ (r = 2 → ¬ τ 8 0 = τ 8 1) ∧ (∀ k, k < r → σ 15 k = usV τ k) ∧ σ 0 7 = lnV τ ρ
def Inv (σ τ : stT) (ρ : rtT) : Prop := ∃ N I O A G S M, InvB σ τ ρ N I O A G S M ∧ (RuN σ τ ∨ ∃ r, RuE σ τ ρ N r)
theorem Inv.thr {σ τ : stT} {ρ : rtT} (h : Inv σ τ ρ) (v : Int32) : Inv σ (up τ 0 0 v) ρ := h
section IN
variable {σ τ : stT} {ρ : rtT} {N I O A G S M : Nat}
theorem InvB.ws (h : InvB σ τ ρ N I O A G S M) : Ws σ N I O G := by
  obtain ⟨⟨⟨h1, -⟩, ⟨h2, -⟩, ⟨h3, -⟩, ⟨h4, -⟩, ⟨h5, -⟩, -, -, hN, hI, hO, hA, hG, -⟩, hn, ho, hu, -⟩ := h
  refine ⟨h1, h2, h3, h5, by omega, by omega, hG, fun n hn => okL_mono (ho.2.1 n hn).1 (by omega), fun n hb hk => ?_, fun i hi => ?_, fun i hi => ?_⟩
  · have k1 := (ho.2.1 n hk).1
    have k2 := ho.2.2.2.2 n hb hk
    obtain ⟨-, -, k3, -⟩ := hn (ix (σ 6 n)) k1.2
    obtain ⟨a, b, c, d⟩ := k3 (Or.inl k2)
    have := k1.2
    exact ⟨okL_mono k1 (by omega), by rw [a]; exact okL_mono c (by omega), by rw [b]; exact okL_mono d (by omega)⟩
  · obtain ⟨a, b, c, d, -⟩ := hu i hi
    rw [a]; exact okL_mono c (by omega)
  · obtain ⟨a, b, c, d, -⟩ := hu i hi
    rw [b]; exact okL_mono d (by omega)
theorem InvB.rs (h : InvB σ τ ρ N I O A G S M) : Rs τ N G := by
  obtain ⟨⟨⟨-, h1⟩, -, -, -, ⟨-, h5⟩, -, -, hN, hI, hO, hA, hG, -⟩, hn, ho, hu, -⟩ := h
  refine ⟨h1, h5, by omega, hG, fun j hj hs => ?_, fun i hi => okL_mono (hu i hi).2.2.1 (by omega), fun i hi => okL_mono (hu i hi).2.2.2.1 (by omega)⟩
  obtain ⟨a, b, c, d⟩ := (hn j hj).2.2.1 hs
  exact ⟨okL_mono c (by omega), okL_mono d (by omega)⟩
def owS (σ : stT) : Nat → Nat := fun k => ix (σ 6 k)
theorem InvB.sf0 (h : InvB σ τ ρ N I O A G S M) (mi : Nat → Nat) (du : Nat → Int32) : SF τ N (1 + I) (1 + I + O) 0 (owS σ) mi du := by
  obtain ⟨⟨-, -, -, -, -, -, -, hN, hI, hO, hA, -⟩, hn, ho, -⟩ := h
  exact ⟨ho.1, fun k hk => (ho.2.1 k hk).1.2, ho.2.2.1, fun k hb hk => ⟨ho.2.2.2.1 k hb, (ho.2.1 k hk).2⟩, ho.2.2.2.2, fun i hi => absurd hi (by omega), fun i hi => absurd hi (by omega), by omega⟩
noncomputable def oAS (σ τ : stT) (K k : Nat) : Nat := oli (owS σ) K (ix (τ 2 (owS σ k)))
noncomputable def oBS (σ τ : stT) (K k : Nat) : Nat := oli (owS σ) K (ix (τ 3 (owS σ k)))
noncomputable def miS (σ τ : stT) (K i : Nat) : Nat := oli (owS σ) K (ix (τ 6 i))
theorem olw_oli {b K : Nat} {ow mi : Nat → Nat} {du : Nat → Int32} (hS : SF τ N b K G ow mi du) {a : Nat} (ha : a < 2 * N) (h3 : ¬ τ 1 (a / 2) = 3) : olw ow (oli ow K a) = a ∧ oli ow K a < 2 * K := by
  obtain ⟨a2, h2, e⟩ := olw_ex hS ha h3
  rw [← e, oli_of hS h2]
  exact ⟨rfl, h2⟩
theorem oli_lt {b K : Nat} {ow mi : Nat → Nat} {du : Nat → Int32} (hS : SF τ N b K G ow mi du) {a k : Nat} (hk : k < K) (ha : a < 2 * ow k) (h3 : ¬ τ 1 (a / 2) = 3) : oli ow K a < 2 * k := by
  have hkN := hS.2.1 k hk
  obtain ⟨e, h2⟩ := olw_oli hS (show a < 2 * N by omega) h3
  exact olw_rev hS (c := 2 * k) h2 (by rw [e]; unfold olw; rw [show 2 * k / 2 = k by omega]; omega)
theorem InvB.hc (h : InvB σ τ ρ N I O A G S M) : HC σ N I O G (oAS σ τ (1 + I + O)) (oBS σ τ (1 + I + O)) (miS σ τ (1 + I + O)) := by
  have hS := h.sf0 (fun _ => 0) (fun _ => 0)
  obtain ⟨-, hn, ho, hu, -⟩ := h
  refine ⟨ho.1, fun k hk => (ho.2.1 k hk).1.2, fun k hb hk => ?_, fun i hi => ?_, fun i hi => ?_⟩
  · have k1 := (ho.2.1 k hk).1.2
    have k2 := ho.2.2.2.2 k hb hk
    obtain ⟨-, k4, k3, k5, -⟩ := hn _ k1
    obtain ⟨a, b, c, d⟩ := k3 (Or.inl k2)
    obtain ⟨⟨n1, n2⟩, et, -⟩ := k5 k2
    have la := oli_lt hS hk c.2 n1
    have lb := oli_lt hS hk d.2 n2
    have ea := (olw_oli hS (show ix (τ 2 (ix (σ 6 k))) < 2 * N by have := c.2; omega) n1).1
    have eb := (olw_oli hS (show ix (τ 3 (ix (σ 6 k))) < 2 * N by have := d.2; omega) n2).1
    have ea2 : olit σ (oAS σ τ (1 + I + O) k) = ix (τ 2 (ix (σ 6 k))) := ea
    have eb2 : olit σ (oBS σ τ (1 + I + O) k) = ix (τ 3 (ix (σ 6 k))) := eb
    refine ⟨la, lb, by rw [a]; exact ea2.symm, by rw [b]; exact eb2.symm, ?_⟩
    rw [k4, et, ea2, eb2]
    have h2 := c.2
    have h3 := d.2
    rw [cl_cg (f := σ 4) (g := τ 4) (hn (ix (τ 2 (ix (σ 6 k))) / 2) (by omega)).2.1, cl_cg (f := σ 4) (g := τ 4) (hn (ix (τ 3 (ix (σ 6 k))) / 2) (by omega)).2.1]
  · obtain ⟨a, b, c, d, e, f⟩ := hu i hi
    obtain ⟨q1, q2⟩ := olw_oli hS c.2 e
    exact ⟨q2, by rw [a]; exact q1.symm⟩
  · obtain ⟨a, b, c, d, e, f⟩ := hu i hi
    rw [b]
    refine ⟨by have := d.2; omega, fun k hb hk q => f (by rw [← q]; exact ho.2.2.2.2 k hb hk)⟩
theorem InvB.sf (h : InvB σ τ ρ N I O A G S M) : SF τ N (1 + I) (1 + I + O) G (owS σ) (miS σ τ (1 + I + O)) (du0 σ) := by
  have hS := h.sf0 (fun _ => 0) (fun _ => 0)
  obtain ⟨-, hn, ho, hu, -⟩ := h
  refine ⟨hS.1, hS.2.1, hS.2.2.1, hS.2.2.2.1, hS.2.2.2.2.1, fun i hi => ?_, fun i hi => ?_, hS.2.2.2.2.2.2.2⟩
  · obtain ⟨a, b, c, d, e, f⟩ := hu i hi
    obtain ⟨q1, q2⟩ := olw_oli hS c.2 e
    exact ⟨q2, q1.symm⟩
  · obtain ⟨a, b, c, d, e, f⟩ := hu i hi
    have := d.2
    refine ⟨by omega, f, ?_⟩
    unfold du0
    rw [b]
    exact (cl_cg (hn (ix (τ 7 i) / 2) (by omega)).2.1).symm
theorem InvB.rtb (h : InvB σ τ ρ N I O A G S M) : RTB τ (1 + I) (1 + I + O) (owS σ) (R0 σ I (oAS σ τ (1 + I + O)) (oBS σ τ (1 + I + O))) := by
  have hS := h.sf0 (fun _ => 0) (fun _ => 0)
  have hh := h.hc
  obtain ⟨-, hn, ho, hu, -⟩ := h
  refine ⟨fun k hb hk => ?_, fun k hb hk => ?_, fun k hk => ?_⟩
  · have k1 := (ho.2.1 k hk).1.2
    have k2 := ho.2.2.2.2 k hb hk
    obtain ⟨-, k4, k3, k5, -⟩ := hn _ k1
    obtain ⟨a, b, c, d⟩ := k3 (Or.inl k2)
    obtain ⟨⟨n1, n2⟩, et, -⟩ := k5 k2
    refine ⟨oAS σ τ (1 + I + O) k, oBS σ τ (1 + I + O) k, ?_, oli_lt hS hk c.2 n1, oli_lt hS hk d.2 n2, ?_, ?_⟩
    · unfold R0; rw [if_neg (by omega)]
    · exact (olw_oli hS (show ix (τ 2 (ix (σ 6 k))) < 2 * N by have := c.2; omega) n1).1.symm
    · exact (olw_oli hS (show ix (τ 3 (ix (σ 6 k))) < 2 * N by have := d.2; omega) n2).1.symm
  · unfold R0; rw [if_pos hb]; exact congrArg Sum.inl (hn _ (ho.2.1 k hk).1.2).2.1
  · rw [← R0_ev hh k hk]; exact (hn _ (ho.2.1 k hk).1.2).2.1.symm
theorem InvB.h5 (h : InvB σ τ ρ N I O A G S M) : ∀ k, 1 + I ≤ k → k < 1 + I + O → τ 5 (ix (σ 6 k)) = σ 5 (ix (σ 6 k)) := fun k hb hk => ((h.2.1 _ (h.2.2.1.2.1 k hk).1.2).2.2.2.1 (h.2.2.1.2.2.2.2 k hb hk)).2.2.1.1.symm
end IN
