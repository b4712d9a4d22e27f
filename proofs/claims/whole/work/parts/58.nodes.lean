/-! a new node: input, old, asked; clear -/
section NN
variable {l : Launch} {g : va_G} {y : Nat → ClassId} {aC aR : Nat → Nat} {ao : Nat} {σ τ σ2 τ2 : stT} {ρ ρ2 : rtT} {f : Nat → Int64} {N I O A G S M : Nat}
/-- alike at the nodes there were -/
def AgN (σ τ : stT) (ρ : rtT) (σ2 τ2 : stT) (ρ2 : rtT) (N : Nat) : Prop := ∀ j, j < N → (σ2 1 j = σ 1 j ∧ σ2 2 j = σ 2 j ∧ σ2 3 j = σ 3 j ∧ σ2 4 j = σ 4 j ∧ σ2 5 j = σ 5 j ∧ σ2 11 j = σ 11 j ∧ σ2 12 j = σ 12 j) ∧ (τ2 1 j = τ 1 j ∧ τ2 2 j = τ 2 j ∧ τ2 3 j = τ 3 j ∧ τ2 4 j = τ 4 j ∧ τ2 5 j = τ 5 j) ∧ ρ2 1 j = ρ 1 j ∧ ρ2 2 j = ρ 2 j
theorem perI.mono {I I2 : Nat} {c : Int32} (h : perI I c) (hI : I ≤ I2) : perI I2 c := by
  intro t ht
  have h1 : t % 2 ^ I2 ≤ t := Nat.mod_le _ _
  rw [h t ht, h (t % 2 ^ I2) (by omega), Nat.mod_mod_of_dvd _ (Nat.pow_dvd_pow 2 hI)]
theorem NdJ.ag (hA : AgN σ τ ρ σ2 τ2 ρ2 N) {I2 : Nat} (hI : I ≤ I2) {j : Nat} (hj : j < N) (h : NdJ σ τ ρ I j) : NdJ σ2 τ2 ρ2 I2 j := by
  obtain ⟨⟨a1, a2, a3, a4, a5, a6, a7⟩, ⟨b1, b2, b3, b4, b5⟩, c1, c2⟩ := hA j hj
  obtain ⟨k1, k2, k3, k4, k5⟩ := h
  unfold NdJ LtP OlP at *
  rw [a1, a2, a3, a4, a5, a6, a7, b1, b2, b3, b4, b5, c1, c2]
  refine ⟨k1, k2, k3, fun q => ?_, k5.mono hI⟩
  obtain ⟨q1, q2, q3⟩ := k4 q
  obtain ⟨-, -, l1, l2⟩ := k3 (Or.inl q)
  have l1 := l1.2
  have l2 := l2.2
  rw [(hA (ix (τ 2 j) / 2) (by omega)).2.1.1, (hA (ix (τ 3 j) / 2) (by omega)).2.1.1, cl_cg (f := τ2 4) (g := τ 4) (hA (ix (τ 2 j) / 2) (by omega)).2.1.2.2.2.1, cl_cg (f := τ2 4) (g := τ 4) (hA (ix (τ 3 j) / 2) (by omega)).2.1.2.2.2.1]
  exact ⟨q1, q2, q3⟩
theorem EdP.add {n x z : Int32} (h : EdP τ N n x z) (h1 : ∀ j, j < N → τ2 1 j = τ 1 j) : EdP τ2 (N + 1) n x z := by
  obtain ⟨a, b, c, d, e, f⟩ := h
  have a2 := a.2
  have c2 := c.2
  have d2 := d.2
  exact ⟨okL_mono a (by omega), by rw [h1 _ a2]; exact b, c, d, by rw [h1 _ (by omega)]; exact e, by rw [h1 _ (by omega)]; exact f⟩
/-- a node more -/
theorem InvB.add (h : InvB σ τ ρ N I O A G S M) (hA : AgN σ τ ρ σ2 τ2 ρ2 N) {I2 O2 A2 : Nat} (hI : I ≤ I2) (hc : Cn σ2 τ2 (N + 1) I2 O2 A2 G S M) (ho : OwP σ2 τ2 (N + 1) I2 O2) (hN : NdJ σ2 τ2 ρ2 I2 N) (e6 : σ2 6 0 = σ 6 0) (eo : σ2 7 = σ 7 ∧ σ2 8 = σ 8 ∧ τ2 6 = τ 6 ∧ τ2 7 = τ 7) (es : σ2 13 = σ 13 ∧ σ2 14 = σ 14 ∧ ρ2 3 = ρ 3 ∧ ρ2 4 = ρ 4) (ep : σ2 16 = σ 16 ∧ σ2 17 = σ 17 ∧ σ2 18 = σ 18 ∧ σ2 19 = σ 19 ∧ τ2 12 = τ 12 ∧ τ2 13 = τ 13 ∧ τ2 14 = τ 14 ∧ τ2 15 = τ 15) : InvB σ2 τ2 ρ2 (N + 1) I2 O2 A2 G S M := by
  obtain ⟨hc0, hn, ho0, hu, hsp, hp, hz⟩ := h
  have hN0 : 0 < N := by have := hc0.2.2.2.2.2.2.2.1; omega
  have h1 : ∀ j, j < N → τ2 1 j = τ 1 j := fun j hj => (hA j hj).2.1.1
  refine ⟨hc, fun j hj => ?_, ho, fun i hi => ?_, fun s hs => ?_, fun i hi => ?_, ?_⟩
  · by_cases e : j = N
    · rw [e]; exact hN
    · exact NdJ.ag hA hI (by omega) (hn j (by omega))
  · obtain ⟨a, b, c, d, e, f⟩ := hu i hi
    obtain ⟨e1, e2, e3, e4⟩ := eo
    unfold OuJ
    rw [e1, e2, e3, e4]
    have c2 := c.2
    have d2 := d.2
    exact ⟨a, b, okL_mono c (by omega), okL_mono d (by omega), by rw [h1 _ (by omega)]; exact e, by rw [h1 _ (by omega)]; exact f⟩
  · obtain ⟨e1, e2, e3, e4⟩ := es
    unfold SpJ
    rw [e1, e2, e3, e4]
    exact hsp s hs
  · obtain ⟨r, r1, r2, r3, r4⟩ := hp i hi
    obtain ⟨e1, e2, e3, e4, e5, e6, e7, e8⟩ := ep
    refine ⟨r, r1, by rw [e1]; exact r2, by rw [e5]; exact r3, fun k hk => ?_⟩
    rw [e2, e3, e4, e6, e7, e8]
    exact ⟨(r4 k hk).1, (r4 k hk).2.add h1⟩
  · obtain ⟨⟨a1, -, -, a4, -⟩, -⟩ := hA 0 hN0
    rw [a1, a4, e6]
    exact hz
/-- an own node more: old -/
theorem OwP.old (h : OwP σ τ N I O) (h1 : ∀ j, j < N → τ2 1 j = τ 1 j) (hN : τ2 1 N = 2) (hN2 : N < 2 ^ 31) (e6 : ∀ k, k ≠ 1 + I + O → σ2 6 k = σ 6 k) (e6N : σ2 6 (1 + I + O) = nI N) : OwP σ2 τ2 (N + 1) I (O + 1) := by
  obtain ⟨a, b, c, d, e⟩ := h
  have iN : ix (σ2 6 (1 + I + O)) = N := by rw [e6N, ix_nI hN2]
  refine ⟨fun n m h1' h2 => ?_, fun k hk => ?_, fun j hj h3 => ?_, fun k hk => ?_, fun k hb hk => ?_⟩
  · by_cases q : m = 1 + I + O
    · rw [q, iN, e6 n (by omega)]; exact (b n (by omega)).1.2
    · rw [e6 n (by omega), e6 m q]; exact a n m h1' (by omega)
  · by_cases q : k = 1 + I + O
    · rw [q, iN, e6N, hN]; exact ⟨okL_nI (by omega) (by omega), by decide⟩
    · rw [e6 k q, h1 _ (b k (by omega)).1.2]; exact ⟨okL_mono (b k (by omega)).1 (by omega), (b k (by omega)).2⟩
  · by_cases q : j = N
    · exact ⟨1 + I + O, by omega, by rw [iN, q]⟩
    · obtain ⟨k, hk, ek⟩ := c j (by omega) (by rw [← h1 j (by omega)]; exact h3)
      exact ⟨k, by omega, by rw [e6 k (by omega)]; exact ek⟩
  · rw [e6 k (by omega), h1 _ (b k (by omega)).1.2]; exact d k hk
  · by_cases q : k = 1 + I + O
    · rw [q, iN]; exact hN
    · rw [e6 k q, h1 _ (b k (by omega)).1.2]; exact e k hb (by omega)
/-- an input -/
theorem OwP.inp (h : OwP σ τ N I 0) (h1 : ∀ j, j < N → τ2 1 j = τ 1 j) (hN : τ2 1 N = 1) (hN2 : N < 2 ^ 31) (e6 : ∀ k, k ≠ 1 + I + 0 → σ2 6 k = σ 6 k) (e6N : σ2 6 (1 + I + 0) = nI N) : OwP σ2 τ2 (N + 1) (I + 1) 0 := by
  obtain ⟨a, b, c, d, e⟩ := h
  have iN : ix (σ2 6 (1 + I + 0)) = N := by rw [e6N, ix_nI hN2]
  refine ⟨fun n m h1' h2 => ?_, fun k hk => ?_, fun j hj h3 => ?_, fun k hk => ?_, fun k hb hk => absurd hk (by omega)⟩
  · by_cases q : m = 1 + I + 0
    · rw [q, iN, e6 n (by omega)]; exact (b n (by omega)).1.2
    · rw [e6 n (by omega), e6 m q]; exact a n m h1' (by omega)
  · by_cases q : k = 1 + I + 0
    · rw [q, iN, e6N, hN]; exact ⟨okL_nI (by omega) (by omega), by decide⟩
    · rw [e6 k q, h1 _ (b k (by omega)).1.2]; exact ⟨okL_mono (b k (by omega)).1 (by omega), (b k (by omega)).2⟩
  · by_cases q : j = N
    · exact ⟨1 + I + 0, by omega, by rw [iN, q]⟩
    · obtain ⟨k, hk, ek⟩ := c j (by omega) (by rw [← h1 j (by omega)]; exact h3)
      exact ⟨k, by omega, by rw [e6 k (by omega)]; exact ek⟩
  · by_cases q : k = 1 + I + 0
    · rw [q, iN, hN]; decide
    · rw [e6 k q, h1 _ (b k (by omega)).1.2]; exact d k (by omega)
/-- an asked AND -/
theorem OwP.ask (h : OwP σ τ N I O) (h1 : ∀ j, j < N → τ2 1 j = τ 1 j) (hN : τ2 1 N = 3) (e6 : σ2 6 = σ 6) : OwP σ2 τ2 (N + 1) I O := by
  obtain ⟨a, b, c, d, e⟩ := h
  unfold OwP
  rw [e6]
  refine ⟨a, fun k hk => ?_, fun j hj h3 => ?_, fun k hk => ?_, fun k hb hk => ?_⟩
  · rw [h1 _ (b k hk).1.2]; exact ⟨okL_mono (b k hk).1 (by omega), (b k hk).2⟩
  · by_cases q : j = N
    · rw [q] at h3; exact absurd hN h3
    · exact c j (by omega) (by rw [← h1 j (by omega)]; exact h3)
  · rw [h1 _ (b k (by omega)).1.2]; exact d k hk
  · rw [h1 _ (b k hk).1.2]; exact e k hb hk
theorem wkF_an {t : stT} {n : Nat} (h : t 1 n = 2 ∨ t 1 n = 3) : wkF t n = up t 4 n (cl (t 4) (ix (t 2 n)) &&& cl (t 4) (ix (t 3 n))) := if_pos h
theorem wkF_no {t : stT} {n : Nat} (h : ¬ (t 1 n = 2 ∨ t 1 n = 3)) : wkF t n = t := if_neg h
theorem upd_k {f : Nat → Int32} {k j : Nat} {x : Int32} (h : j = k) : upd f k x j = x := by unfold upd; rw [if_pos h]
theorem inT_eq : ∀ I, I < 5 → inT I 32 = icol I := by decide +kernel
theorem icol_per : ∀ I, I < 5 → ∀ t, t < 32 → Bt (icol I) t = Bt (icol I) (t % 2 ^ (I + 1)) := by decide +kernel
theorem perI.and {c d : Int32} (hI : I ≤ 5) (h : perI I c) (h2 : perI I d) : perI I (c &&& d) := by
  intro t ht
  rw [Bt_and, Bt_and, h t ht, h2 t ht]
theorem st_input (hst : l.stackTraces = false) (h : Inv σ τ ρ) : StI l g y aC aR ao .int Int32.toInt64 yL_input cL_input 3 hh_input yX8_input cX8_input 3 [] σ τ ρ f := by
  obtain ⟨N, I, O, A, G, S, M, hB, hr⟩ := id h
  obtain ⟨⟨n1, n2⟩, ⟨i1, i2⟩, ⟨o1, o2⟩, ⟨a1, a2⟩, c5, c6, c7, c8, c9, c10, c11, c12⟩ := hB.1
  by_cases q : I = 5 ∨ 0 < O + A
  · exact ⟨1, σ, f, 0, _, ρ, 5, by decide, by decide, h_input_1 l g y aC (c_X7_input_1 l g y aC σ n1 i1 o1 a1 c9 c10 c11 q hst), c_X8_input_1 l g y aR τ ρ n2 i2 o2 a2 c9 c10 c11 q, rfl, fun q => absurd q (by decide), h.thr 1⟩
  · have h0 : O + A = 0 := by omega
    obtain rfl : O = 0 := by omega
    obtain rfl : A = 0 := by omega
    have hI4 : I < 5 := by omega
    have hN3 : N < 38 := by omega
    refine ⟨0, _, _, nI (2 * N), _, _, 5, by decide, by decide, h_input_0 l g y aC (nI (2 * N)) (c_X7_input_0 l g y aC σ n1 i1 o1 a1 c9 c10 c11 hN3 hI4 h0), c_X8_input_0 l g y aR τ ρ n2 i2 o2 a2 c9 c10 c11 hN3 hI4 h0, ?_, fun _ => f0L _ _, N + 1, I + 1, 0, 0, G, S, M, ?_, Or.inl ⟨rfl, rfl⟩⟩
    · unfold inF putF
      rw [wkF_no (by show ¬ (upd (τ 1) N 1 N = 2 ∨ upd (τ 1) N 1 N = 3); rw [upd_s]; decide)]
      rfl
    · have hk : inF τ N I = up (up (up (up (up (up (up (up (up τ 0 0 0) 4 N (inT I 32)) 0 2 (nI (I + 1))) 1 N 1) 2 N 0) 3 N 0) 5 N 0) 0 1 (nI (N + 1))) 0 7 0 := by
        unfold inF putF
        rw [wkF_no (by show ¬ (upd (τ 1) N 1 N = 2 ∨ upd (τ 1) N 1 N = 3); rw [upd_s]; decide)]
      rw [hk]
      have ag : AgN σ τ ρ (aiF (up σ 0 0 (-1)) N I 0) (up (up (up (up (up (up (up (up (up τ 0 0 0) 4 N (inT I 32)) 0 2 (nI (I + 1))) 1 N 1) 2 N 0) 3 N 0) 5 N 0) 0 1 (nI (N + 1))) 0 7 0) (putL ρ N) N := by
        intro j hj
        have e : j ≠ N := by omega
        exact ⟨⟨upd_n e, rfl, rfl, upd_n e, rfl, rfl, rfl⟩, ⟨upd_n e, upd_n e, upd_n e, upd_n e, upd_n e⟩, updL_n e, updL_n e⟩
      refine hB.add ag (Nat.le_succ I) ⟨⟨rfl, rfl⟩, ⟨rfl, rfl⟩, ⟨o1, o2⟩, ⟨a1, a2⟩, c5, c6, c7, by omega, by omega, by omega, by omega, c12⟩ (OwP.inp hB.2.2.1 (fun j hj => (ag j hj).2.1.1) (upd_s _ _ _) (by omega) (fun k hk => upd_n hk) (upd_s _ _ _)) ?_ (upd_n (by omega)) ⟨rfl, rfl, rfl, rfl⟩ ⟨rfl, rfl, rfl, rfl⟩ ⟨rfl, rfl, rfl, rfl, rfl, rfl, rfl, rfl⟩
      unfold NdJ
      show ((upd (σ 1) N 0 N = 1 ↔ upd (τ 1) N 1 N = 2) ∧ (upd (σ 1) N 0 N = 2 ↔ upd (τ 1) N 1 N = 3)) ∧ upd (σ 4) N (icol I) N = upd (τ 4) N (inT I 32) N ∧ (upd (τ 1) N 1 N = 2 ∨ upd (τ 1) N 1 N = 3 → _) ∧ (upd (τ 1) N 1 N = 2 → _) ∧ perI (I + 1) (upd (τ 4) N (inT I 32) N)
      rw [upd_s, upd_s, upd_s, upd_s, inT_eq I hI4]
      exact ⟨⟨by decide, by decide⟩, rfl, fun q => absurd q (by decide), fun q => absurd q (by decide), icol_per I hI4⟩
theorem lit_k (h : InvB σ τ ρ N I O A G S M) {x : Int32} (hx : okL x (2 * N)) : (σ 1 (ix x / 2) = 2 ↔ τ 1 (ix x / 2) = 3) ∧ (σ 1 (ix x / 2) = 1 ↔ τ 1 (ix x / 2) = 2) := by
  have k := (h.2.1 (ix x / 2) (by have := hx.2; omega)).1
  exact ⟨k.2, k.1⟩
theorem st_old (hst : l.stackTraces = false) (h : Inv σ τ ρ) (x z : Int32) : StI l g y aC aR ao .int Int32.toInt64 yL_old cL_old 5 hh_old yX8_old cX8_old 4 [.int x, .int z] σ τ ρ f := by
  obtain ⟨N, I, O, A, G, S, M, hB, hr⟩ := id h
  obtain ⟨⟨n1, n2⟩, ⟨i1, i2⟩, ⟨o1, o2⟩, ⟨a1, a2⟩, c5, c6, c7, c8, c9, c10, c11, c12⟩ := hB.1
  have hN2 : N ≤ 38 := by omega
  by_cases hx : okL x (2 * N) ∧ okL z (2 * N)
  · obtain ⟨hx, hz⟩ := hx
    by_cases h8 : O = 8
    · exact ⟨2, σ, f, 0, _, ρ, 5, by decide, by decide, h_old_2 l g y aC x z (c_X7_old_2 l g y aC σ n1 hN2 o1 c10 hx hz h8 hst), c_X8_old_2 l g y aR τ ρ n2 hN2 o2 c10 hx hz h8, rfl, fun q => absurd q (by decide), h.thr 2⟩
    · have h8 : O < 8 := by omega
      have kx := (lit_k hB hx).1
      have kz := (lit_k hB hz).1
      by_cases hk : τ 1 (ix x / 2) = 3 ∨ τ 1 (ix z / 2) = 3
      · exact ⟨3, σ, f, 0, _, ρ, 5, by decide, by decide, h_old_3 l g y aC x z (c_X7_old_3 l g y aC σ n1 hN2 o1 c10 hx hz h8 (hk.imp kx.mpr kz.mpr) hst), c_X8_old_3 l g y aR τ ρ n2 hN2 o2 c10 hx hz h8 hk, rfl, fun q => absurd q (by decide), h.thr 3⟩
      · have hN3 : N < 38 := by omega
        have hxN := hx.2
        have hzN := hz.2
        refine ⟨0, _, _, nI (2 * N), _, _, 5, by decide, by decide, h_old_0 l g y aC x z (nI (2 * N)) (c_X7_old_0 l g y aC σ n1 hN2 o1 c10 hx hz i1 c9 hN3 h8 (fun q => hk (q.imp kx.mp kz.mp))).e, c_X8_old_0 l g y aR τ ρ n2 hN2 o2 c10 hx hz hN3 h8 hk, ?_, fun _ => f0L _ _, N + 1, I, O + 1, A, G, S, M, ?_, Or.inl ⟨rfl, rfl⟩⟩
        · unfold putF
          rw [wkF_an (Or.inl (by show upd (τ 1) N 2 N = 2; rw [upd_s]))]
          rfl
        · have hk2 : putF (up (up τ 0 0 0) 0 3 (nI (O + 1))) N 2 x z = up (up (up (up (up (up (up (up (up τ 0 0 0) 0 3 (nI (O + 1))) 1 N 2) 2 N x) 3 N z) 5 N 0) 4 N (cl (τ 4) (ix x) &&& cl (τ 4) (ix z))) 0 1 (nI (N + 1))) 0 7 0 := by
            unfold putF
            rw [wkF_an (Or.inl (by show upd (τ 1) N 2 N = 2; rw [upd_s]))]
            show up (up (up _ 4 N (cl (τ 4) (ix (upd (τ 2) N x N)) &&& cl (τ 4) (ix (upd (τ 3) N z N)))) 0 1 (nI (N + 1))) 0 7 0 = _
            rw [upd_s, upd_s]
          rw [hk2]
          have ag : AgN σ τ ρ (addAndF (up (up (up (up (up (up σ 0 0 (-1)) 11 N 0) 12 N 0) 6 (1 + I + O) (nI N)) 5 N 0) 0 3 (nI (O + 1))) N 1 x z) (up (up (up (up (up (up (up (up (up τ 0 0 0) 0 3 (nI (O + 1))) 1 N 2) 2 N x) 3 N z) 5 N 0) 4 N (cl (τ 4) (ix x) &&& cl (τ 4) (ix z))) 0 1 (nI (N + 1))) 0 7 0) (putL ρ N) N := by
            intro j hj
            have e : j ≠ N := by omega
            exact ⟨⟨upd_n e, upd_n e, upd_n e, upd_n e, upd_n e, upd_n e, upd_n e⟩, ⟨upd_n e, upd_n e, upd_n e, upd_n e, upd_n e⟩, updL_n e, updL_n e⟩
          refine hB.add ag (Nat.le_refl I) ⟨⟨rfl, rfl⟩, ⟨i1, i2⟩, ⟨rfl, rfl⟩, ⟨a1, a2⟩, c5, c6, c7, by omega, c9, by omega, c11, c12⟩ (OwP.old hB.2.2.1 (fun j hj => (ag j hj).2.1.1) (upd_s _ _ _) (by omega) (fun k hk => upd_n hk) (upd_s _ _ _)) ?_ (upd_n (by omega)) ⟨rfl, rfl, rfl, rfl⟩ ⟨rfl, rfl, rfl, rfl⟩ ⟨rfl, rfl, rfl, rfl, rfl, rfl, rfl, rfl⟩
          have ecl : ∀ w : Int32, okL w (2 * N) → cl (upd (τ 4) N (cl (τ 4) (ix x) &&& cl (τ 4) (ix z))) (ix w) = cl (τ 4) (ix w) := fun w hw => cl_cg (upd_n (by have := hw.2; omega))
          unfold NdJ LtP OlP
          show ((upd (σ 1) N 1 N = 1 ↔ upd (τ 1) N 2 N = 2) ∧ (upd (σ 1) N 1 N = 2 ↔ upd (τ 1) N 2 N = 3)) ∧ upd (σ 4) N (cl (σ 4) (ix x) &&& cl (σ 4) (ix z)) N = upd (τ 4) N (cl (τ 4) (ix x) &&& cl (τ 4) (ix z)) N ∧ (upd (τ 1) N 2 N = 2 ∨ upd (τ 1) N 2 N = 3 → upd (σ 2) N x N = upd (τ 2) N x N ∧ upd (σ 3) N z N = upd (τ 3) N z N ∧ okL (upd (τ 2) N x N) (2 * N) ∧ okL (upd (τ 3) N z N) (2 * N)) ∧ (upd (τ 1) N 2 N = 2 → (¬ upd (τ 1) N 2 (ix (upd (τ 2) N x N) / 2) = 3 ∧ ¬ upd (τ 1) N 2 (ix (upd (τ 3) N z N) / 2) = 3) ∧ upd (τ 4) N (cl (τ 4) (ix x) &&& cl (τ 4) (ix z)) N = cl (upd (τ 4) N (cl (τ 4) (ix x) &&& cl (τ 4) (ix z))) (ix (upd (τ 2) N x N)) &&& cl (upd (τ 4) N (cl (τ 4) (ix x) &&& cl (τ 4) (ix z))) (ix (upd (τ 3) N z N)) ∧ (upd (σ 5) N 0 N = upd (τ 5) N 0 N ∧ (upd (σ 5) N 0 N = 0 ∨ upd (σ 5) N 0 N = 1)) ∧ (vp_updL (ρ 1) N 0 N = (upd (σ 11) N 0 N).toInt64 ∧ vp_updL (ρ 2) N 0 N = (upd (σ 12) N 0 N).toInt64 ∧ near (upd (σ 11) N 0 N) ∧ near (upd (σ 12) N 0 N))) ∧ perI I (upd (τ 4) N (cl (τ 4) (ix x) &&& cl (τ 4) (ix z)) N)
          simp only [upd_s, pk_uLs]
          rw [ecl x hx, ecl z hz, hB.col hx, hB.col hz, upd_n (show ix x / 2 ≠ N by omega), upd_n (show ix z / 2 ≠ N by omega)]
          exact ⟨⟨by decide, by decide⟩, rfl, fun _ => ⟨by trivial, by trivial, hx, hz⟩, fun _ => ⟨⟨fun q => hk (Or.inl q), fun q => hk (Or.inr q)⟩, rfl, ⟨by trivial, Or.inl (by trivial)⟩, by first | rfl | trivial, by first | rfl | trivial, by unfold near; decide, by unfold near; decide⟩, perI.and c9 (perI.lit (hB.2.1 _ (by omega)).2.2.2.2 c9) (perI.lit (hB.2.1 _ (by omega)).2.2.2.2 c9)⟩
  · exact ⟨1, σ, f, 0, _, ρ, 5, by decide, by decide, h_old_1 l g y aC x z (c_X7_old_1 l g y aC σ n1 hN2 o1 c10 hx hst), c_X8_old_1 l g y aR τ ρ n2 hN2 o2 c10 hx, rfl, fun q => absurd q (by decide), h.thr 1⟩
theorem st_asked (hst : l.stackTraces = false) (h : Inv σ τ ρ) (x z : Int32) : StI l g y aC aR ao .int Int32.toInt64 yL_asked cL_asked 5 hh_asked yX8_asked cX8_asked 4 [.int x, .int z] σ τ ρ f := by
  obtain ⟨N, I, O, A, G, S, M, hB, hr⟩ := id h
  obtain ⟨⟨n1, n2⟩, ⟨i1, i2⟩, ⟨o1, o2⟩, ⟨a1, a2⟩, c5, c6, c7, c8, c9, c10, c11, c12⟩ := hB.1
  have hN2 : N ≤ 38 := by omega
  by_cases hx : okL x (2 * N) ∧ okL z (2 * N)
  · obtain ⟨hx, hz⟩ := hx
    by_cases h8 : A = 24
    · exact ⟨2, σ, f, 0, _, ρ, 5, by decide, by decide, h_asked_2 l g y aC x z (c_X7_asked_2 l g y aC σ n1 hN2 a1 c11 hx hz h8 hst), c_X8_asked_2 l g y aR τ ρ n2 hN2 a2 c11 hx hz h8, rfl, fun q => absurd q (by decide), h.thr 2⟩
    · have h8 : A < 24 := by omega
      have kx := (lit_k hB hx).2
      have kz := (lit_k hB hz).2
      by_cases hk : τ 1 (ix x / 2) = 2 ∨ τ 1 (ix z / 2) = 2
      · exact ⟨3, σ, f, 0, _, ρ, 5, by decide, by decide, h_asked_3 l g y aC x z (c_X7_asked_3 l g y aC σ n1 hN2 a1 c11 hx hz h8 (hk.imp kx.mpr kz.mpr) hst), c_X8_asked_3 l g y aR τ ρ n2 hN2 a2 c11 hx hz h8 hk, rfl, fun q => absurd q (by decide), h.thr 3⟩
      · have hN3 : N < 38 := by omega
        have hxN := hx.2
        have hzN := hz.2
        refine ⟨0, _, _, nI (2 * N), _, _, 5, by decide, by decide, h_asked_0 l g y aC x z (nI (2 * N)) (c_X7_asked_0 l g y aC σ n1 hN2 a1 c11 hx hz hN3 h8 (fun q => hk (q.imp kx.mp kz.mp))).e, c_X8_asked_0 l g y aR τ ρ n2 hN2 a2 c11 hx hz hN3 h8 hk, ?_, fun _ => f0L _ _, N + 1, I, O, A + 1, G, S, M, ?_, Or.inl ⟨rfl, rfl⟩⟩
        · unfold putF
          rw [wkF_an (Or.inr (by show upd (τ 1) N 3 N = 3; rw [upd_s]))]
          rfl
        · have hk2 : putF (up (up τ 0 0 0) 0 4 (nI (A + 1))) N 3 x z = up (up (up (up (up (up (up (up (up τ 0 0 0) 0 4 (nI (A + 1))) 1 N 3) 2 N x) 3 N z) 5 N 0) 4 N (cl (τ 4) (ix x) &&& cl (τ 4) (ix z))) 0 1 (nI (N + 1))) 0 7 0 := by
            unfold putF
            rw [wkF_an (Or.inr (by show upd (τ 1) N 3 N = 3; rw [upd_s]))]
            show up (up (up _ 4 N (cl (τ 4) (ix (upd (τ 2) N x N)) &&& cl (τ 4) (ix (upd (τ 3) N z N)))) 0 1 (nI (N + 1))) 0 7 0 = _
            rw [upd_s, upd_s]
          rw [hk2]
          have ag : AgN σ τ ρ (addAndF (up (up σ 0 0 (-1)) 0 4 (nI (A + 1))) N 2 x z) (up (up (up (up (up (up (up (up (up τ 0 0 0) 0 4 (nI (A + 1))) 1 N 3) 2 N x) 3 N z) 5 N 0) 4 N (cl (τ 4) (ix x) &&& cl (τ 4) (ix z))) 0 1 (nI (N + 1))) 0 7 0) (putL ρ N) N := by
            intro j hj
            have e : j ≠ N := by omega
            exact ⟨⟨upd_n e, upd_n e, upd_n e, upd_n e, rfl, rfl, rfl⟩, ⟨upd_n e, upd_n e, upd_n e, upd_n e, upd_n e⟩, updL_n e, updL_n e⟩
          refine hB.add ag (Nat.le_refl I) ⟨⟨rfl, rfl⟩, ⟨i1, i2⟩, ⟨o1, o2⟩, ⟨rfl, rfl⟩, c5, c6, c7, by omega, c9, c10, by omega, c12⟩ (OwP.ask hB.2.2.1 (fun j hj => (ag j hj).2.1.1) (upd_s _ _ _) rfl) ?_ rfl ⟨rfl, rfl, rfl, rfl⟩ ⟨rfl, rfl, rfl, rfl⟩ ⟨rfl, rfl, rfl, rfl, rfl, rfl, rfl, rfl⟩
          unfold NdJ LtP
          show ((upd (σ 1) N 2 N = 1 ↔ upd (τ 1) N 3 N = 2) ∧ (upd (σ 1) N 2 N = 2 ↔ upd (τ 1) N 3 N = 3)) ∧ upd (σ 4) N (cl (σ 4) (ix x) &&& cl (σ 4) (ix z)) N = upd (τ 4) N (cl (τ 4) (ix x) &&& cl (τ 4) (ix z)) N ∧ (upd (τ 1) N 3 N = 2 ∨ upd (τ 1) N 3 N = 3 → upd (σ 2) N x N = upd (τ 2) N x N ∧ upd (σ 3) N z N = upd (τ 3) N z N ∧ okL (upd (τ 2) N x N) (2 * N) ∧ okL (upd (τ 3) N z N) (2 * N)) ∧ (upd (τ 1) N 3 N = 2 → _) ∧ perI I (upd (τ 4) N (cl (τ 4) (ix x) &&& cl (τ 4) (ix z)) N)
          simp only [upd_s]
          rw [hB.col hx, hB.col hz]
          exact ⟨⟨by decide, by decide⟩, rfl, fun _ => ⟨by trivial, by trivial, hx, hz⟩, fun q => absurd q (by decide), perI.and c9 (perI.lit (hB.2.1 _ (by omega)).2.2.2.2 c9) (perI.lit (hB.2.1 _ (by omega)).2.2.2.2 c9)⟩
  · exact ⟨1, σ, f, 0, _, ρ, 5, by decide, by decide, h_asked_1 l g y aC x z (c_X7_asked_1 l g y aC σ n1 hN2 a1 c11 hx hst), c_X8_asked_1 l g y aR τ ρ n2 hN2 a2 c11 hx, rfl, fun q => absurd q (by decide), h.thr 1⟩
/-- node 0 alone -/
theorem inv_0 (c : σ 0 1 = 1 ∧ σ 0 2 = 0 ∧ σ 0 3 = 0 ∧ σ 0 4 = 0 ∧ σ 0 5 = 0 ∧ σ 0 6 = 0 ∧ σ 0 8 = 0) (d : τ 0 1 = 1 ∧ τ 0 2 = 0 ∧ τ 0 3 = 0 ∧ τ 0 4 = 0 ∧ τ 0 5 = 0 ∧ τ 0 6 = 0 ∧ τ 0 10 = 0) (z : σ 1 0 = 0 ∧ σ 4 0 = 0 ∧ σ 6 0 = 0) (w : τ 1 0 = 0 ∧ τ 4 0 = 0) (r : RuN σ τ) : Inv σ τ ρ := by
  obtain ⟨c1, c2, c3, c4, c5, c6, c7⟩ := c
  obtain ⟨d1, d2, d3, d4, d5, d6, d7⟩ := d
  obtain ⟨z1, z2, z3⟩ := z
  obtain ⟨w1, w2⟩ := w
  refine ⟨1, 0, 0, 0, 0, 0, 0, ⟨⟨⟨c1, d1⟩, ⟨c2, d2⟩, ⟨c3, d3⟩, ⟨c4, d4⟩, ⟨c5, d5⟩, ⟨c6, d6⟩, ⟨c7, d7⟩, by decide, by decide, by decide, by decide, by decide, by decide, by decide⟩, fun j hj => ?_, ⟨fun n m h1 h2 => absurd h2 (by omega), fun k hk => ?_, fun j hj _ => ⟨0, by decide, ?_⟩, fun k hk => ?_, fun k h1 h2 => absurd h2 (by omega)⟩, fun i hi => absurd hi (by omega), fun s hs => absurd hs (by omega), fun i hi => absurd hi (by omega), z1, z2, z3⟩, Or.inl r⟩
  · obtain rfl : j = 0 := by omega
    unfold NdJ
    rw [z1, z2, w1, w2]
    refine ⟨⟨by decide, by decide⟩, rfl, fun q => absurd q (by decide), fun q => absurd q (by decide), fun t _ => ?_⟩
    rw [Bt_0, Bt_0]
  · obtain rfl : k = 0 := by omega
    rw [z3]
    exact ⟨⟨rfl, by decide⟩, by rw [show ix (0 : Int32) = 0 from rfl, w1]; decide⟩
  · obtain rfl : j = 0 := by omega
    rw [z3]; rfl
  · obtain rfl : k = 0 := by omega
    rw [z3, show ix (0 : Int32) = 0 from rfl, w1]; decide
theorem st_clear (h : Inv σ τ ρ) : Inv (clearC σ) (clF τ) ρ := by
  obtain ⟨N, I, O, A, G, S, M, hB, hr⟩ := h
  obtain ⟨z1, z2, z3⟩ := hB.2.2.2.2.2.2
  exact inv_0 ⟨rfl, rfl, rfl, rfl, rfl, rfl, rfl⟩ ⟨rfl, rfl, rfl, rfl, rfl, rfl, rfl⟩ ⟨z1, z2, z3⟩ ⟨rfl, rfl⟩ ⟨rfl, rfl⟩
end NN
