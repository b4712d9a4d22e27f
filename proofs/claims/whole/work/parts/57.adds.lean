/-! the steps that tell: input, old, asked, output, spare, keep, place, clear; count -/
theorem cnt_map {P P2 : Nat → Prop} (o : Nat → Nat) : ∀ (n c : Nat), (∀ a b, a < b → b < c → o a < o b) → (∀ a, a < c → o a < n) → (∀ a, a < c → (P2 (o a) ↔ P a)) → (∀ k, k < n → (∀ a, a < c → o a ≠ k) → ¬ P2 k) → cnt P2 n = cnt P c
  | 0, c, _, hr, _, _ => by
    cases c with
    | zero => rfl
    | succ c => exact absurd (hr 0 (by omega)) (by omega)
  | n + 1, c, hm, hr, hs, hn => by
    by_cases q : ∃ a, a < c ∧ o a = n
    · obtain ⟨a, ha, e⟩ := q
      have hac : a + 1 = c := by
        refine Nat.le_antisymm ha (Nat.le_of_not_lt (fun q => ?_))
        have h1 := hm a (a + 1) (by omega) q
        have h2 := hr (a + 1) q
        omega
      subst hac
      have ih := cnt_map (P := P) (P2 := P2) o n a (fun x z h1 h2 => hm x z h1 (by omega)) (fun x hx => by have := hm x a hx (by omega); omega) (fun x hx => hs x (by omega)) (fun k hk hno => hn k (by omega) (fun x hx e2 => by
        by_cases e3 : x = a
        · rw [e3] at e2; omega
        · exact hno x (by omega) e2))
      by_cases hp : P a
      · rw [cnt_t hp, ← ih, cnt_t (by rw [← e]; exact (hs a ha).mpr hp)]
      · rw [cnt_f hp, ← ih, cnt_f (by rw [← e]; exact fun q => hp ((hs a ha).mp q))]
    · rw [cnt_f (hn n (by omega) (fun a ha e => q ⟨a, ha, e⟩))]
      exact cnt_map (P := P) (P2 := P2) o n c hm (fun a ha => by
        have h1 := hr a ha
        have : o a ≠ n := fun e => q ⟨a, ha, e⟩
        omega) hs (fun k hk hno => hn k (by omega) hno)
section AD
variable {l : Launch} {g : va_G} {y : Nat → ClassId} {aC aR : Nat → Nat} {ao : Nat} {σ τ σ2 τ2 : stT} {ρ ρ2 : rtT} {f : Nat → Int64} {N I O A G S M : Nat}
theorem kept_eq (h : InvB σ τ ρ N I O A G S M) : cnt (fun n => τ 1 n = 2 ∧ ¬ τ 5 n = 0) N = cnt (fun i => ¬ σ 5 (ix (σ 6 (1 + I + i))) = 0) O := by
  have ho := h.2.2.1
  refine cnt_map (fun i => ix (σ 6 (1 + I + i))) N O (fun a b h1 h2 => ho.1 _ _ (by omega) (by omega)) (fun a ha => (ho.2.1 _ (by omega)).1.2) (fun a ha => ?_) (fun k hk hno q => ?_)
  · have e2 := ho.2.2.2.2 (1 + I + a) (by omega) (by omega)
    rw [h.h5 (1 + I + a) (by omega) (by omega)]
    exact ⟨fun q => q.2, fun q => ⟨e2, q⟩⟩
  · obtain ⟨i, hb, hi, e⟩ := h.sf.old hk q.1
    exact hno (i - (1 + I)) (by omega) (by show ix (σ 6 (1 + I + (i - (1 + I)))) = k; rw [show 1 + I + (i - (1 + I)) = i by omega]; exact e)
theorem ok8 {x : Int32} (h : okL x 8) : x = 0 ∨ x = 1 ∨ x = 2 ∨ x = 3 ∨ x = 4 ∨ x = 5 ∨ x = 6 ∨ x = 7 := by
  obtain ⟨e, h⟩ := h
  rw [e]
  generalize ix x = n at h
  have : ∀ n, n < 8 → (nI n = 0 ∨ nI n = 1 ∨ nI n = 2 ∨ nI n = 3 ∨ nI n = 4 ∨ nI n = 5 ∨ nI n = 6 ∨ nI n = 7) := by decide
  exact this n h
theorem StI.cnt (h : Inv σ τ ρ) (x v : Int32) (hC : w_C l g y yX7_count cX7_count 2 (some .int) 8 [.ref (aC 0), .int x] (cw aC y σ) (some (.int v)) (cw aC y σ)) (hR : w_C l g y yX8_count cX8_count 4 (some .int) 1 [.ref (aR 0), .int x] (rw aR y τ ρ) (some (.int v)) (rw aR y (up τ 0 0 0) ρ)) : StI l g y aC aR ao .int Int32.toInt64 yL_count cL_count 4 hh_count yX8_count cX8_count 4 [.int x] σ τ ρ f :=
  ⟨0, σ, vp_updL f 0 (Int32.toInt64 v), _, _, ρ, 1, by decide, by decide, h_count_0 l g y aC x _ hC.e, hR, rfl, fun _ => f0L _ _, h.thr 0⟩
theorem st_count (hst : l.stackTraces = false) (h : Inv σ τ ρ) (x : Int32) : StI l g y aC aR ao .int Int32.toInt64 yL_count cL_count 4 hh_count yX8_count cX8_count 4 [.int x] σ τ ρ f := by
  obtain ⟨N, I, O, A, G, S, M, hB, hr⟩ := id h
  have hN2 : N ≤ 38 := hB.rs.2.2.1
  have hN := hB.1.1.2
  by_cases hx : okL x 8
  · obtain ⟨⟨n1, n2⟩, ⟨i1, i2⟩, ⟨o1, o2⟩, ⟨a1, a2⟩, ⟨g1', g2'⟩, ⟨s1, s2⟩, ⟨m1, m2⟩, -⟩ := hB.1
    rcases ok8 hx with rfl | rfl | rfl | rfl | rfl | rfl | rfl | rfl
    · have c := c_X7_count_0 l g y aC σ; have c2 := c_X8_count_0 l g y aR τ ρ hN hN2; rw [n1] at c; rw [n2] at c2; exact StI.cnt h 0 _ c c2
    · have c := c_X7_count_1 l g y aC σ; have c2 := c_X8_count_1 l g y aR τ ρ hN hN2; rw [i1] at c; rw [i2] at c2; exact StI.cnt h 1 _ c c2
    · have c := c_X7_count_2 l g y aC σ; have c2 := c_X8_count_2 l g y aR τ ρ hN hN2; rw [o1] at c; rw [o2] at c2; exact StI.cnt h 2 _ c c2
    · have c := c_X7_count_3 l g y aC σ; have c2 := c_X8_count_3 l g y aR τ ρ hN hN2; rw [a1] at c; rw [a2] at c2; exact StI.cnt h 3 _ c c2
    · have c := c_X7_count_4 l g y aC σ; have c2 := c_X8_count_4 l g y aR τ ρ hN hN2; rw [g1'] at c; rw [g2'] at c2; exact StI.cnt h 4 _ c c2
    · have c := c_X7_count_5 l g y aC σ; have c2 := c_X8_count_5 l g y aR τ ρ hN hN2; rw [s1] at c; rw [s2] at c2; exact StI.cnt h 5 _ c c2
    · have c := c_X7_count_6 l g y aC σ i1 o1 hB.ws.2.2.2.2.2.1 (fun n _ hn => hB.ws.2.2.2.2.2.2.2.1 n hn); have c2 := c_X8_count_6 l g y aR τ ρ hN hN2; rw [kept_eq hB] at c2; exact StI.cnt h 6 _ c c2
    · have c := c_X7_count_7 l g y aC σ; have c2 := c_X8_count_7 l g y aR τ ρ hN hN2; rw [m1] at c; rw [m2] at c2; exact StI.cnt h 7 _ c c2
  · exact ⟨1, σ, f, 0, _, ρ, 1, by decide, by decide, h_count_1 l g y aC x (c_X7_count_e l g y aC σ x hx hst), c_X8_count_e l g y aR τ ρ hN hN2 x hx, rfl, fun q => absurd q (by decide), h.thr 1⟩
theorem upd_n {f : Nat → Int32} {k j : Nat} {x : Int32} (h : j ≠ k) : upd f k x j = f j := by unfold upd; rw [if_neg h]
theorem updL_n {f : Nat → Int64} {k j : Nat} {x : Int64} (h : j ≠ k) : vp_updL f k x j = f j := if_neg h
/-- output -/
theorem out_iff (h : InvB σ τ ρ N I O A G S M) {x z : Int32} (hx : okL x (2 * N)) (hz : okL z (2 * N)) : (σ 1 (ix x / 2) = 2 ∨ σ 1 (ix z / 2) = 1) ↔ (τ 1 (ix x / 2) = 3 ∨ τ 1 (ix z / 2) = 2) :=
  or_congr (h.2.1 _ (by have := hx.2; omega)).1.2 (h.2.1 _ (by have := hz.2; omega)).1.1
theorem st_output (hst : l.stackTraces = false) (h : Inv σ τ ρ) (x z : Int32) : StI l g y aC aR ao .int Int32.toInt64 yL_output cL_output 5 hh_output yX8_output cX8_output 4 [.int x, .int z] σ τ ρ f := by
  obtain ⟨N, I, O, A, G, S, M, hB, hr⟩ := id h
  have hN2 : N ≤ 38 := hB.rs.2.2.1
  have hG4 : G ≤ 4 := hB.rs.2.2.2.1
  obtain ⟨n1, n2⟩ := hB.1.1
  obtain ⟨g1', g2'⟩ := hB.1.2.2.2.2.1
  by_cases hx : okL x (2 * N) ∧ okL z (2 * N)
  · obtain ⟨hx, hz⟩ := hx
    by_cases h8 : G = 4
    · exact ⟨2, σ, f, 0, _, ρ, 5, by decide, by decide, h_output_2 l g y aC x z (c_X7_output_2 l g y aC σ n1 hN2 g1' hG4 hx hz h8 hst), c_X8_output_2 l g y aR τ ρ n2 hN2 g2' hG4 hx hz h8, rfl, fun q => absurd q (by decide), h.thr 2⟩
    · have h8 : G < 4 := by omega
      by_cases hk : τ 1 (ix x / 2) = 3 ∨ τ 1 (ix z / 2) = 2
      · exact ⟨3, σ, f, 0, _, ρ, 5, by decide, by decide, h_output_3 l g y aC x z (c_X7_output_3 l g y aC σ n1 hN2 g1' hG4 hx hz h8 ((out_iff hB hx hz).mpr hk) hst), c_X8_output_3 l g y aR τ ρ n2 hN2 g2' hG4 hx hz h8 hk, rfl, fun q => absurd q (by decide), h.thr 3⟩
      · refine ⟨0, _, vp_updL f 0 (Int32.toInt64 (nI G)), _, _, ρ, 5, by decide, by decide, h_output_0 l g y aC x z _ (c_X7_output_0 l g y aC σ n1 hN2 g1' hG4 hx hz h8 (fun q => hk ((out_iff hB hx hz).mp q))).e, c_X8_output_0 l g y aR τ ρ n2 hN2 g2' hG4 hx hz h8 hk, rfl, fun _ => f0L _ _, N, I, O, A, G + 1, S, M, ?_, Or.inl ⟨rfl, rfl⟩⟩
        obtain ⟨⟨c1, c2, c3, c4, c5, c6, c7, c8, c9, c10, c11, c12, c13, c14⟩, hn, ho, hu, hsp, hp, hzz⟩ := hB
        refine ⟨⟨c1, c2, c3, c4, ⟨rfl, rfl⟩, c6, c7, c8, c9, c10, c11, h8, c13, c14⟩, hn, ho, fun i hi => ?_, hsp, hp, hzz⟩
        by_cases e : i = G
        · subst e
          show upd (σ 7) i x i = upd (τ 6) i x i ∧ upd (σ 8) i z i = upd (τ 7) i z i ∧ okL (upd (τ 6) i x i) (2 * N) ∧ okL (upd (τ 7) i z i) (2 * N) ∧ ¬ τ 1 (ix (upd (τ 6) i x i) / 2) = 3 ∧ ¬ τ 1 (ix (upd (τ 7) i z i) / 2) = 2
          rw [upd_s, upd_s, upd_s, upd_s]
          exact ⟨rfl, rfl, hx, hz, fun q => hk (Or.inl q), fun q => hk (Or.inr q)⟩
        · show upd (σ 7) G x i = upd (τ 6) G x i ∧ upd (σ 8) G z i = upd (τ 7) G z i ∧ okL (upd (τ 6) G x i) (2 * N) ∧ okL (upd (τ 7) G z i) (2 * N) ∧ ¬ τ 1 (ix (upd (τ 6) G x i) / 2) = 3 ∧ ¬ τ 1 (ix (upd (τ 7) G z i) / 2) = 2
          rw [upd_n e, upd_n e, upd_n e, upd_n e]
          exact hu i (by omega)
  · exact ⟨1, σ, f, 0, _, ρ, 5, by decide, by decide, h_output_1 l g y aC x z (c_X7_output_1 l g y aC σ n1 hN2 g1' hG4 hx hst), c_X8_output_1 l g y aR τ ρ n2 hN2 g2' hG4 hx, rfl, fun q => absurd q (by decide), h.thr 1⟩
/-- places -/
theorem far_near {X : Int64} (h : ¬ farP X) : near X.toInt32 ∧ X = X.toInt32.toInt64 := by
  unfold farP at h
  have h1 : ¬ X < -1000 := fun q => h (Or.inl q)
  have h2 : ¬ 1000 < X := fun q => h (Or.inr q)
  have k1 : -1000 ≤ X.toInt := by have := Int64.le_iff_toInt_le.mp (Int64.not_lt.mp h1); simpa using this
  have k2 : X.toInt ≤ 1000 := by have := Int64.le_iff_toInt_le.mp (Int64.not_lt.mp h2); simpa using this
  have e : X.toInt32.toInt = X.toInt := by rw [Int64.toInt_toInt32, Int.bmod_eq_of_le (by omega) (by omega)]
  refine ⟨by unfold near; rw [e]; exact ⟨k1, k2⟩, ?_⟩
  apply Int64.toInt_inj.mp
  rw [Int32.toInt_toInt64, e]
theorem st_spare (hst : l.stackTraces = false) (h : Inv σ τ ρ) (X Y : Int64) : StI l g y aC aR ao .int Int32.toInt64 yL_spare cL_spare 7 hh_spare yX8_spare cX8_spare 5 [.long X, .long Y] σ τ ρ f := by
  obtain ⟨N, I, O, A, G, S, M, hB, hr⟩ := id h
  have hS6 : S ≤ 6 := hB.1.2.2.2.2.2.2.2.2.2.2.2.2.1
  obtain ⟨s1, s2⟩ := hB.1.2.2.2.2.2.1
  by_cases h6 : S = 6
  · exact ⟨1, σ, f, 0, _, ρ, 5, by decide, by decide, h_spare_1 l g y aC X Y (c_X7_spare_1 l g y aC σ s1 hS6 X Y h6 hst), c_X8_spare_1 l g y aR τ ρ s2 hS6 X Y h6, rfl, fun q => absurd q (by decide), h.thr 1⟩
  · have h6 : S < 6 := by omega
    by_cases hn : farP X ∨ farP Y
    · exact ⟨2, σ, f, 0, _, ρ, 5, by decide, by decide, h_spare_2 l g y aC X Y (c_X7_spare_2 l g y aC σ s1 hS6 X Y h6 hn hst), c_X8_spare_2 l g y aR τ ρ s2 hS6 X Y h6 (fun q => hn.elim q.1 q.2), rfl, fun q => absurd q (by decide), h.thr 2⟩
    · have hX : ¬ farP X := fun q => hn (Or.inl q)
      have hY : ¬ farP Y := fun q => hn (Or.inr q)
      obtain ⟨x1, x2⟩ := far_near hX
      obtain ⟨y1, y2⟩ := far_near hY
      refine ⟨0, _, vp_updL f 0 (Int32.toInt64 (nI S)), _, _, _, 5, by decide, by decide, h_spare_0 l g y aC X Y _ (c_X7_spare_0 l g y aC σ s1 hS6 X Y h6 hX hY).e, c_X8_spare_0 l g y aR τ ρ s2 hS6 X Y h6 hX hY, rfl, fun _ => f0L _ _, N, I, O, A, G, S + 1, M, ?_, Or.inl ⟨rfl, rfl⟩⟩
      obtain ⟨⟨c1, c2, c3, c4, c5, c6, c7, c8, c9, c10, c11, c12, c13, c14⟩, hn, ho, hu, hsp, hp, hzz⟩ := hB
      refine ⟨⟨c1, c2, c3, c4, c5, ⟨rfl, rfl⟩, c7, c8, c9, c10, c11, c12, h6, c14⟩, hn, ho, hu, fun s hs => ?_, hp, hzz⟩
      show vp_updL (ρ 3) S X s = (upd (σ 13) S X.toInt32 s).toInt64 ∧ vp_updL (ρ 4) S Y s = (upd (σ 14) S Y.toInt32 s).toInt64 ∧ near (upd (σ 13) S X.toInt32 s) ∧ near (upd (σ 14) S Y.toInt32 s)
      by_cases e : s = S
      · subst e
        rw [upd_s, upd_s, pk_uLs, pk_uLs]
        exact ⟨x2, y2, x1, y1⟩
      · rw [upd_n e, upd_n e, updL_n e, updL_n e]
        exact hsp s (by omega)
/-- a change at one old AND that leaves its literals and columns -/
theorem NdJ.at (hn : ∀ j, j < N → NdJ σ τ ρ I j) (e1 : σ2 1 = σ 1) (e2 : σ2 2 = σ 2) (e3 : σ2 3 = σ 3) (e4 : σ2 4 = σ 4) (t1 : τ2 1 = τ 1) (t2 : τ2 2 = τ 2) (t3 : τ2 3 = τ 3) (t4 : τ2 4 = τ 4) {n : Nat} (hne : ∀ j, j ≠ n → σ2 5 j = σ 5 j ∧ τ2 5 j = τ 5 j ∧ σ2 11 j = σ 11 j ∧ σ2 12 j = σ 12 j ∧ ρ2 1 j = ρ 1 j ∧ ρ2 2 j = ρ 2 j) (hat : (σ2 5 n = τ2 5 n ∧ (σ2 5 n = 0 ∨ σ2 5 n = 1)) ∧ (ρ2 1 n = (σ2 11 n).toInt64 ∧ ρ2 2 n = (σ2 12 n).toInt64 ∧ near (σ2 11 n) ∧ near (σ2 12 n))) : ∀ j, j < N → NdJ σ2 τ2 ρ2 I j := by
  intro j hj
  obtain ⟨k1, k2, k3, k4, k5⟩ := hn j hj
  unfold NdJ LtP OlP at *
  rw [e1, e2, e3, e4, t1, t2, t3, t4]
  refine ⟨k1, k2, k3, fun q => ?_, k5⟩
  obtain ⟨q1, q2, q3⟩ := k4 q
  by_cases e : j = n
  · subst e; exact ⟨q1, q2, hat⟩
  · obtain ⟨a1, a2, a3, a4, a5, a6⟩ := hne j e
    rw [a1, a2, a3, a4, a5, a6]
    exact ⟨q1, q2, q3⟩
theorem st_keep (hst : l.stackTraces = false) (h : Inv σ τ ρ) (x z : Int32) (hz : z = 0 ∨ z = 1) : StI l g y aC aR ao .boolean cvB yL_keep cL_keep 5 hh_keep yX8_keep cX8_keep 3 [.int x, .int z] σ τ ρ f := by
  obtain ⟨N, I, O, A, G, S, M, hB, hr⟩ := id h
  have hN2 : N ≤ 38 := hB.rs.2.2.1
  obtain ⟨n1, n2⟩ := hB.1.1
  by_cases hx : okL x N ∧ τ 1 (ix x) = 2
  · have hx7 := (old_iff hB x).mpr hx
    obtain ⟨-, -, ⟨h5, h501⟩, h11⟩ := (hB.2.1 _ hx.1.2).2.2.2.1 hx.2
    by_cases e : τ 5 (ix x) = z
    · exact ⟨0, σ, _, 0, _, ρ, 5, by decide, by decide, h_keep_0 l g y aC x z 0 (by rw [show (0 : Int32) = bI False from (bI_f (by decide)).symm]; exact (c_X7_keep_0 l g y aC σ n1 hN2 x z hx7 (h5.trans e)).e), c_X8_keep_0 l g y aR τ ρ n2 hN2 x z hx e, rfl, fun _ => f0L _ _, h.thr 0⟩
    · have e7 : ¬ σ 5 (ix x) = z := fun q => e (h5.symm.trans q)
      refine ⟨0, _, _, 1, _, ρ, 5, by decide, by decide, h_keep_0 l g y aC x z 1 (by rw [show (1 : Int32) = bI True from (bI_t trivial).symm]; exact (c_X7_keep_2 l g y aC σ n1 hN2 x z hx7 e7 hz).e), c_X8_keep_2 l g y aR τ ρ n2 hN2 x z hx e hz, rfl, fun _ => f0L _ _, N, I, O, A, G, S, M, ?_, Or.inl ⟨rfl, rfl⟩⟩
      obtain ⟨hc, hn, ho, hu, hsp, hp, hzz⟩ := hB
      refine ⟨hc, NdJ.at hn rfl rfl rfl rfl rfl rfl rfl rfl (n := ix x) (fun j hj => ⟨upd_n hj, upd_n hj, rfl, rfl, rfl, rfl⟩) ⟨⟨?_, ?_⟩, h11⟩, ho, hu, hsp, hp, hzz⟩
      · show upd (σ 5) (ix x) z (ix x) = upd (τ 5) (ix x) z (ix x)
        rw [upd_s, upd_s]
      · show upd (σ 5) (ix x) z (ix x) = 0 ∨ upd (σ 5) (ix x) z (ix x) = 1
        rw [upd_s]; exact hz
  · exact ⟨1, σ, f, 0, _, ρ, 5, by decide, by decide, h_keep_1 l g y aC x z (c_X7_keep_1 l g y aC σ n1 hN2 x z (fun q => hx ((old_iff hB x).mp q)) hst), c_X8_keep_1 l g y aR τ ρ n2 hN2 x z hx, rfl, fun q => absurd q (by decide), h.thr 1⟩
theorem up_same (σ : stT) (k j : Nat) (v : Int32) (h : σ k j = v) : up σ k j v = σ := by
  funext a i
  rw [up_at]
  by_cases q : a = k ∧ i = j
  · rw [if_pos q, q.1, q.2, h]
  · rw [if_neg q]
theorem st_place (hst : l.stackTraces = false) (h : Inv σ τ ρ) (x : Int32) (X Y : Int64) : StI l g y aC aR ao .boolean cvB yL_place cL_place 8 hh_place yX8_place cX8_place 6 [.int x, .long X, .long Y] σ τ ρ f := by
  obtain ⟨N, I, O, A, G, S, M, hB, hr⟩ := id h
  have hN2 : N ≤ 38 := hB.rs.2.2.1
  obtain ⟨n1, n2⟩ := hB.1.1
  by_cases hx : okL x N ∧ τ 1 (ix x) = 2
  · have hx7 := (old_iff hB x).mpr hx
    obtain ⟨-, -, h5, ⟨p1, p2, p3, p4⟩⟩ := (hB.2.1 _ hx.1.2).2.2.2.1 hx.2
    by_cases hf : farP X ∨ farP Y
    · exact ⟨2, σ, f, 0, _, ρ, 5, by decide, by decide, h_place_2 l g y aC x X Y (c_X7_place_2 l g y aC σ n1 hN2 x X Y hx7 hf hst), c_X8_place_2 l g y aR τ ρ n2 hN2 x X Y hx (fun q => hf.elim q.1 q.2), rfl, fun q => absurd q (by decide), h.thr 2⟩
    · have hX : ¬ farP X := fun q => hf (Or.inl q)
      have hY : ¬ farP Y := fun q => hf (Or.inr q)
      obtain ⟨x1, x2⟩ := far_near hX
      obtain ⟨y1, y2⟩ := far_near hY
      have e32 : ∀ (u : Int32) (V : Int64), V = V.toInt32.toInt64 → (u.toInt64 = V ↔ u = V.toInt32) := fun u V hV => ⟨fun q => by
        apply Int32.toInt_inj.mp
        have := congrArg Int64.toInt (q.trans hV)
        rwa [Int32.toInt_toInt64, Int32.toInt_toInt64] at this, fun q => by rw [q]; exact hV.symm⟩
      have he : (ρ 1 (ix x) = X ∧ ρ 2 (ix x) = Y) ↔ (σ 11 (ix x) = X.toInt32 ∧ σ 12 (ix x) = Y.toInt32) := by rw [p1, p2, e32 _ X x2, e32 _ Y y2]
      by_cases q : ρ 1 (ix x) = X ∧ ρ 2 (ix x) = Y
      · have q7 := he.mp q
        have c := (c_X7_place_0 l g y aC σ n1 hN2 x X Y hx7 hX hY q7).e
        rw [up_same σ 11 _ _ q7.1, up_same σ 12 _ _ q7.2, show bI False = 0 from bI_f (by decide)] at c
        exact ⟨0, σ, _, 0, _, ρ, 5, by decide, by decide, h_place_0 l g y aC x X Y 0 c, c_X8_place_0 l g y aR τ ρ n2 hN2 x X Y hx hX hY q, rfl, fun _ => f0L _ _, h.thr 0⟩
      · refine ⟨0, _, _, 1, _, _, 5, by decide, by decide, h_place_0 l g y aC x X Y 1 (by rw [show (1 : Int32) = bI True from (bI_t trivial).symm]; exact (c_X7_place_3 l g y aC σ n1 hN2 x X Y hx7 hX hY (fun r => q (he.mpr r))).e), c_X8_place_3 l g y aR τ ρ n2 hN2 x X Y hx hX hY q, rfl, fun _ => f0L _ _, N, I, O, A, G, S, M, ?_, Or.inl ⟨rfl, rfl⟩⟩
        obtain ⟨hc, hn, ho, hu, hsp, hp, hzz⟩ := hB
        refine ⟨hc, NdJ.at hn rfl rfl rfl rfl rfl rfl rfl rfl (n := ix x) (fun j hj => ⟨rfl, rfl, upd_n hj, upd_n hj, updL_n hj, updL_n hj⟩) ⟨h5, ?_⟩, ho, hu, hsp, hp, hzz⟩
        show vp_updL (ρ 1) (ix x) X (ix x) = (upd (σ 11) (ix x) X.toInt32 (ix x)).toInt64 ∧ vp_updL (ρ 2) (ix x) Y (ix x) = (upd (σ 12) (ix x) Y.toInt32 (ix x)).toInt64 ∧ near (upd (σ 11) (ix x) X.toInt32 (ix x)) ∧ near (upd (σ 12) (ix x) Y.toInt32 (ix x))
        rw [upd_s, upd_s, pk_uLs, pk_uLs]
        exact ⟨x2, y2, x1, y1⟩
  · exact ⟨1, σ, f, 0, _, ρ, 5, by decide, by decide, h_place_1 l g y aC x X Y (c_X7_place_1 l g y aC σ n1 hN2 x X Y (fun q => hx ((old_iff hB x).mp q)) hst), c_X8_place_1 l g y aR τ ρ n2 hN2 x X Y hx, rfl, fun q => absurd q (by decide), h.thr 1⟩
end AD
