/-! run -/
section ST
variable {l : Launch} {g : va_G} {y : Nat → ClassId} {aC aR : Nat → Nat} {ao : Nat} {σ τ : stT} {ρ : rtT} {f : Nat → Int64}
theorem ru_q1 {N I O A G S M : Nat} (h : InvB σ τ ρ N I O A G S M) : (Z1 σ I O (oAS σ τ (1 + I + O)) (oBS σ τ (1 + I + O)) (miS σ τ (1 + I + O)) G = none → (q1R N G 0 N (up (up (r7 τ) 0 7 0) 0 8 0)).1 = false) ∧ (∀ k a c, Z1 σ I O (oAS σ τ (1 + I + O)) (oBS σ τ (1 + I + O)) (miS σ τ (1 + I + O)) G = some (k, (a, c)) → (q1R N G 0 N (up (up (r7 τ) 0 7 0) 0 8 0)).1 = true ∧ Es1 (q1R N G 0 N (up (up (r7 τ) 0 7 0) 0 8 0)).2 (owS σ k) (olw (owS σ) a) (olw (owS σ) c)) ∧ Sm (up (up (r7 τ) 0 7 0) 0 8 0) N (q1R N G 0 N (up (up (r7 τ) 0 7 0) 0 8 0)).2 := by
  have hS : SF (up (up (r7 τ) 0 7 0) 0 8 0) N (1 + I) (1 + I + O) G (owS σ) (miS σ τ (1 + I + O)) (du0 σ) := h.sf
  have hR : RTB (up (up (r7 τ) 0 7 0) 0 8 0) (1 + I) (1 + I + O) (owS σ) (R0 σ I (oAS σ τ (1 + I + O)) (oBS σ τ (1 + I + O))) := h.rtb
  have q := q1_ev hS hR N 0 (up (up (r7 τ) 0 7 0) 0 8 0) (by omega) Sm.rf
  have z : gfind (n1 (up (up (r7 τ) 0 7 0) 0 8 0) (1 + I + O) G (owS σ) (miS σ τ (1 + I + O)) (du0 σ) (R0 σ I (oAS σ τ (1 + I + O)) (oBS σ τ (1 + I + O)))) 0 N = Z1 σ I O (oAS σ τ (1 + I + O)) (oBS σ τ (1 + I + O)) (miS σ τ (1 + I + O)) G := z1_eq hS h.h5
  rw [z] at q
  exact q
theorem ru_q2 {N I O A G S M : Nat} (h : InvB σ τ ρ N I O A G S M) : (Z2 σ I O (oAS σ τ (1 + I + O)) (oBS σ τ (1 + I + O)) (miS σ τ (1 + I + O)) G = none → (q2O N G 0 N (ruA τ N G)).1 = false) ∧ (∀ k k2 a c a3 c3, Z2 σ I O (oAS σ τ (1 + I + O)) (oBS σ τ (1 + I + O)) (miS σ τ (1 + I + O)) G = some (k, k2, ((a, c), (a3, c3))) → (q2O N G 0 N (ruA τ N G)).1 = true ∧ Es1 (q2O N G 0 N (ruA τ N G)).2 (owS σ k) (olw (owS σ) a) (olw (owS σ) c) ∧ Es2 (q2O N G 0 N (ruA τ N G)).2 (owS σ k2) (olw (owS σ) a3) (olw (owS σ) c3)) ∧ Sm (ruA τ N G) N (q2O N G 0 N (ruA τ N G)).2 := by
  have hS : SF (up (up (r7 τ) 0 7 0) 0 8 0) N (1 + I) (1 + I + O) G (owS σ) (miS σ τ (1 + I + O)) (du0 σ) := h.sf
  have hR : RTB (up (up (r7 τ) 0 7 0) 0 8 0) (1 + I) (1 + I + O) (owS σ) (R0 σ I (oAS σ τ (1 + I + O)) (oBS σ τ (1 + I + O))) := h.rtb
  have q1 := (ru_q1 h).2.2
  obtain ⟨hS1, hR1⟩ := q1.root hS hR
  have hS2 : SF (ruA τ N G) N (1 + I) (1 + I + O) G (owS σ) (miS σ τ (1 + I + O)) (du0 σ) := hS1
  have hR2 : RTB (ruA τ N G) (1 + I) (1 + I + O) (owS σ) (R0 σ I (oAS σ τ (1 + I + O)) (oBS σ τ (1 + I + O))) := hR1
  have q := q2_ev hS2 hR2 N 0 (ruA τ N G) (by omega) Sm.rf
  have e5 : (ruA τ N G) 5 = τ 5 := q1.1 5 (by decide) (by decide) (by decide) (by decide) (by decide) (by decide)
  have z : gfind (n3 (ruA τ N G) N (1 + I + O) G (owS σ) (miS σ τ (1 + I + O)) (du0 σ) (R0 σ I (oAS σ τ (1 + I + O)) (oBS σ τ (1 + I + O)))) 0 N = Z2 σ I O (oAS σ τ (1 + I + O)) (oBS σ τ (1 + I + O)) (miS σ τ (1 + I + O)) G := z2_eq hS2 (by rw [e5]; exact h.h5)
  rw [z] at q
  exact q
theorem ru_a0 {N I O A G S M : Nat} (h : InvB σ τ ρ N I O A G S M) : ruP τ N G 0 ↔ Z0 σ I (oAS σ τ (1 + I + O)) (oBS σ τ (1 + I + O)) (miS σ τ (1 + I + O)) G := ap_ev h.sf h.rtb.2.2
theorem ru_t1 (τ : stT) (N : Nat) : Tz τ (up (up (r7 τ) 0 7 0) 0 8 0) N := ((((Tz.rf τ N).u0 0 (by decide) _).u0 7 (by decide) _).u0 7 (by decide) _).u0 8 (by decide) _
theorem ru_t2 {N I O A G S M : Nat} (h : InvB σ τ ρ N I O A G S M) : Tz τ (q1R N G 0 N (up (up (r7 τ) 0 7 0) 0 8 0)).2 N := (ru_t1 τ N).sm (ru_q1 h).2.2
theorem ru_t3 {N I O A G S M : Nat} (h : InvB σ τ ρ N I O A G S M) : Tz τ (q2O N G 0 N (ruA τ N G)).2 N := (((ru_t2 h).u0 7 (by decide) 0).u0 8 (by decide) 1).sm (ru_q2 h).2.2
theorem ru_z1 {N I O A G S M : Nat} (h : InvB σ τ ρ N I O A G S M) : (q1R N G 0 N (up (up (r7 τ) 0 7 0) 0 8 0)).2 0 0 = 0 := congrFun ((ru_q1 h).2.2.1 0 (by decide) (by decide) (by decide) (by decide) (by decide) (by decide)) 0
theorem ru_z2 {N I O A G S M : Nat} (h : InvB σ τ ρ N I O A G S M) : (q2O N G 0 N (ruA τ N G)).2 0 0 = 0 := (congrFun ((ru_q2 h).2.2.1 0 (by decide) (by decide) (by decide) (by decide) (by decide) (by decide)) 0).trans (ru_z1 h)
theorem fe_6 {N I O A G S M : Nat} (h : InvB σ τ ρ N I O A G S M) (most : Nat) : (feR σ N I O G most).2 0 6 = nI S := (congrFun (fe_lk h.hc most 0 (by decide) (by decide) (by decide) (by decide) (by decide)) 6).trans h.1.2.2.2.2.2.1.1
theorem StI.no {N I O A G S M most : Nat} (h : InvB σ τ ρ N I O A G S M) (hm : most ≤ 2) (hr : (feR σ N I O G most).1 = -1) {x : Int32} (hx : x = nI most) {t : stT} (ht : Tz τ t N) (h0 : t 0 0 = 0) {e : Int32} (he : e = 0 ∨ e = 1 ∨ e = 2) (hC : w_C l g y yX8_run cX8_run 3 (some .int) 8 [.ref (aR 0), .int x] (rw aR y τ ρ) (some (.int (-1))) (rw aR y (up (up t 0 7 0) 0 8 e) ρ)) : StI l g y aC aR ao .int Int32.toInt64 yL_run cL_run 4 hh_run yX8_run cX8_run 3 [.int x] σ τ ρ f := by
  subst hx
  have hi := run_n h (Cz.fe h.hc most) ht
  exact ⟨0, runN σ N I O G most, vp_updL f 0 (Int32.toInt64 (-1)), -1, _, ρ, 8, by decide, by decide, h_run_0 l g y aC (nI most) (-1) (c_X7_run_n l g y aC σ (S := S) h.ws hm hr).e, hC, h0, fun _ => f0L _ _, by rcases he with rfl | rfl | rfl; exact hi.1; exact hi.2.1; exact hi.2.2⟩
theorem StI.r0 {N I O A G S M most : Nat} (h : InvB σ τ ρ N I O A G S M) (hm : most ≤ 2) (hz : Z0 σ I (oAS σ τ (1 + I + O)) (oBS σ τ (1 + I + O)) (miS σ τ (1 + I + O)) G) {x : Int32} (hx : x = nI most) (hC : w_C l g y yX8_run cX8_run 3 (some .int) 8 [.ref (aR 0), .int x] (rw aR y τ ρ) (some (.int 0)) (rw aR y (up (ruE τ N G 0) 0 9 1) (upL ρ 0 0 0))) : StI l g y aC aR ao .int Int32.toInt64 yL_run cL_run 4 hh_run yX8_run cX8_run 3 [.int x] σ τ ρ f := by
  subst hx
  exact ⟨0, runE σ N I O G most S 0, vp_updL f 0 (Int32.toInt64 0), 0, _, _, 8, by decide, by decide, h_run_0 l g y aC (nI most) 0 (c_X7_run_0 l g y aC σ h.ws hm (fe_0 h.hc hz) (fe_6 h most) h.1.2.2.2.2.2.2.2.2.2.2.2.2.1).e, hC, rfl, fun _ => f0L _ _, run_0 h (Cz.fe h.hc most) (((Tz.rf τ N).u0 0 (by decide) _).u0 7 (by decide) _)⟩
theorem StI.r1 {N I O A G S M most k a c : Nat} (h : InvB σ τ ρ N I O A G S M) (hm : most ≤ 2) (hm1 : 1 ≤ most) (hz : ¬ Z0 σ I (oAS σ τ (1 + I + O)) (oBS σ τ (1 + I + O)) (miS σ τ (1 + I + O)) G) (h1 : Z1 σ I O (oAS σ τ (1 + I + O)) (oBS σ τ (1 + I + O)) (miS σ τ (1 + I + O)) G = some (k, (a, c))) {x : Int32} (hx : x = nI most)
    (hC : 1 ≤ S → okL (ruE τ N G 1 8 0) 40 → w_C l g y yX8_run cX8_run 3 (some .int) 8 [.ref (aR 0), .int x] (rw aR y τ ρ) (some (.int 1)) (rw aR y (tkτ (up (ruE τ N G 1) 0 9 1) (tB (ruE τ N G 1) ρ 1 S)) (tkρ (upL ρ 0 0 0) (tB (ruE τ N G 1) ρ 1 S))))
    (hC2 : S < 1 → w_C l g y yX8_run cX8_run 3 (some .int) 8 [.ref (aR 0), .int x] (rw aR y τ ρ) (some (.int 1)) (rw aR y (up (ruE τ N G 1) 0 9 0) (upL ρ 0 0 0))) : StI l g y aC aR ao .int Int32.toInt64 yL_run cL_run 4 hh_run yX8_run cX8_run 3 [.int x] σ τ ρ f := by
  subst hx
  obtain ⟨b1, b2, b3, b4⟩ := Z1_bd h1
  obtain ⟨e1, e2⟩ := fe_1 h.hc hm1 hz h1
  obtain ⟨-, q2, q3⟩ := ru_q1 h
  obtain ⟨q4, q5⟩ := q2 k a c h1
  have hed := ed_ok (t := (q1R N G 0 N (up (up (r7 τ) 0 7 0) 0 8 0)).2) h b1 b2 b3 b4 e2 q5
  have hN : N ≤ 38 := h.sf.2.2.2.2.2.2.2
  have k17 : okL ((feR σ N I O G most).2 17 0) 38 := by rw [hed.1.1]; exact okL_mono hed.2.1 hN
  have e17 : ix ((feR σ N I O G most).2 17 0) = ix (σ 6 k) := by rw [e2.1]
  obtain ⟨r1, r2⟩ := run_1 h (Cz.fe h.hc most) (ru_t2 h) hed (by rw [e17]; exact h.of b1 b2)
  have cl := h_run_0 l g y aC (nI most) (ao := ao) (f := f) 1 (c_X7_run_1 l g y aC σ h.ws hm e1 (fe_6 h most) h.1.2.2.2.2.2.2.2.2.2.2.2.2.1 k17).e
  by_cases hS : 1 ≤ S
  · exact ⟨0, runE σ N I O G most S 1, vp_updL f 0 (Int32.toInt64 1), 1, _, _, 8, by decide, by decide, cl, hC hS (okL_mono hed.2.1 (by omega)), (congrFun (tkτ_k _ 0 (by decide) _) 0).trans (ru_z1 h), fun _ => f0L _ _, r1 hS⟩
  · exact ⟨0, runE σ N I O G most S 1, vp_updL f 0 (Int32.toInt64 1), 1, _, _, 8, by decide, by decide, cl, hC2 (by omega), ru_z1 h, fun _ => f0L _ _, r2 (by omega)⟩
theorem StI.r2 {N I O A G S M k k2 a c a3 c3 : Nat} (h : InvB σ τ ρ N I O A G S M) (hz : ¬ Z0 σ I (oAS σ τ (1 + I + O)) (oBS σ τ (1 + I + O)) (miS σ τ (1 + I + O)) G) (h1 : Z1 σ I O (oAS σ τ (1 + I + O)) (oBS σ τ (1 + I + O)) (miS σ τ (1 + I + O)) G = none) (h2 : Z2 σ I O (oAS σ τ (1 + I + O)) (oBS σ τ (1 + I + O)) (miS σ τ (1 + I + O)) G = some (k, k2, ((a, c), (a3, c3))))
    (hC : 2 ≤ S → okL (ruE τ N G 2 8 0) 40 → okL (ruE τ N G 2 8 1) 40 → w_C l g y yX8_run cX8_run 3 (some .int) 8 [.ref (aR 0), .int 2] (rw aR y τ ρ) (some (.int 2)) (rw aR y (tkτ (up (ruE τ N G 2) 0 9 1) (tB (ruE τ N G 2) ρ 2 S)) (tkρ (upL ρ 0 0 0) (tB (ruE τ N G 2) ρ 2 S))))
    (hC2 : S < 2 → w_C l g y yX8_run cX8_run 3 (some .int) 8 [.ref (aR 0), .int 2] (rw aR y τ ρ) (some (.int 2)) (rw aR y (up (ruE τ N G 2) 0 9 0) (upL ρ 0 0 0))) : StI l g y aC aR ao .int Int32.toInt64 yL_run cL_run 4 hh_run yX8_run cX8_run 3 [.int 2] σ τ ρ f := by
  obtain ⟨⟨b1, b2, b3⟩, ⟨b4, b5⟩, b6, b7⟩ := Z2_bd h2
  obtain ⟨e1, e2, e3⟩ := fe_2 h.hc hz h1 h2
  obtain ⟨-, q2, q3⟩ := ru_q2 h
  obtain ⟨q4, q5, q6⟩ := q2 k k2 a c a3 c3 h2
  have hd0 := ed_ok (t := (q2O N G 0 N (ruA τ N G)).2) h b1 (by omega) b4 b5 e2 q5
  have hd1 := ed_ok (t := (q2O N G 0 N (ruA τ N G)).2) h (by omega) b3 b6 b7 e3 q6
  have hN : N ≤ 38 := h.sf.2.2.2.2.2.2.2
  have k0 : okL ((feR σ N I O G 2).2 17 0) 38 := by rw [hd0.1.1]; exact okL_mono hd0.2.1 hN
  have k1 : okL ((feR σ N I O G 2).2 17 1) 38 := by rw [hd1.1.1]; exact okL_mono hd1.2.1 hN
  have e17 : ix ((feR σ N I O G 2).2 17 0) = ix (σ 6 k) := by rw [e2.1]
  have e18 : ix ((feR σ N I O G 2).2 17 1) = ix (σ 6 k2) := by rw [e3.1]
  have hlt := h.sf.1 k k2 b2 b3
  have hk2N := h.sf.2.1 k2 b3
  obtain ⟨r1, r2⟩ := run_2 h (Cz.fe h.hc 2) (ru_t3 h) (fun j hj => by
    rcases (show j = 0 ∨ j = 1 by omega) with rfl | rfl
    · exact hd0
    · exact hd1) (fun q => by
      rw [q5.1, q6.1] at q
      have := nI_eqq (by omega) (by omega) q
      omega) (fun j hj => by
    rcases (show j = 0 ∨ j = 1 by omega) with rfl | rfl
    · rw [e17]; exact h.of b1 (by omega)
    · rw [e18]; exact h.of (by omega) b3)
  have cl := h_run_0 l g y aC 2 (ao := ao) (f := f) 2 (c_X7_run_2 l g y aC σ h.ws (Nat.le_refl 2) e1 (fe_6 h 2) h.1.2.2.2.2.2.2.2.2.2.2.2.2.1 k0 k1).e
  by_cases hS : 2 ≤ S
  · exact ⟨0, runE σ N I O G 2 S 2, vp_updL f 0 (Int32.toInt64 2), 2, _, _, 8, by decide, by decide, cl, hC hS (okL_mono hd0.2.1 (by omega)) (okL_mono hd1.2.1 (by omega)), (congrFun (tkτ_k _ 0 (by decide) _) 0).trans (ru_z2 h), fun _ => f0L _ _, r1 hS⟩
  · exact ⟨0, runE σ N I O G 2 S 2, vp_updL f 0 (Int32.toInt64 2), 2, _, _, 8, by decide, by decide, cl, hC2 (by omega), ru_z2 h, fun _ => f0L _ _, r2 (by omega)⟩
theorem st_run (hst : l.stackTraces = false) (h : Inv σ τ ρ) (x : Int32) : StI l g y aC aR ao .int Int32.toInt64 yL_run cL_run 4 hh_run yX8_run cX8_run 3 [.int x] σ τ ρ f := by
  by_cases hx : okL x 3
  · obtain ⟨N, I, O, A, G, S, M, hB, -⟩ := h
    have hs := hB.rs
    have h6 : τ 0 6 = nI S := hB.1.2.2.2.2.2.1.2
    have hS6 : S ≤ 6 := hB.1.2.2.2.2.2.2.2.2.2.2.2.2.1
    have a0 := ru_a0 hB
    obtain ⟨u1, u2, -⟩ := ru_q1 hB
    obtain ⟨v1, v2, -⟩ := ru_q2 hB
    by_cases hz : Z0 σ I (oAS σ τ (1 + I + O)) (oBS σ τ (1 + I + O)) (miS σ τ (1 + I + O)) G
    · rcases okc hx with rfl | rfl | rfl
      · exact StI.r0 (most := 0) hB (by decide) hz rfl (c_X8_run_00_0 l g y aR τ ρ hs h6 hS6 (a0.mpr hz))
      · exact StI.r0 (most := 1) hB (by decide) hz rfl (c_X8_run_10_0 l g y aR τ ρ hs h6 hS6 (a0.mpr hz))
      · exact StI.r0 (most := 2) hB (by decide) hz rfl (c_X8_run_20_0 l g y aR τ ρ hs h6 hS6 (a0.mpr hz))
    · have p0 : ¬ ruP τ N G 0 := fun q => hz (a0.mp q)
      cases z1 : Z1 σ I O (oAS σ τ (1 + I + O)) (oBS σ τ (1 + I + O)) (miS σ τ (1 + I + O)) G with
      | some p =>
        obtain ⟨k, a, c⟩ := p
        have p1 : ruP τ N G 1 := (u2 k a c z1).1
        rcases okc hx with rfl | rfl | rfl
        · exact StI.no (most := 0) hB (by decide) (fe_1n hB.hc hz) rfl (((Tz.rf τ N).u0 0 (by decide) _).u0 7 (by decide) _) rfl (Or.inl rfl) (c_X8_run_0n l g y aR τ ρ hs h6 hS6 p0)
        · exact StI.r1 (most := 1) hB (by decide) (by decide) hz z1 rfl (fun hS k => c_X8_run_11_1 l g y aR τ ρ hs h6 hS6 p0 p1 hS k) (fun hS => c_X8_run_11_1n l g y aR τ ρ hs h6 hS6 p0 p1 hS)
        · exact StI.r1 (most := 2) hB (by decide) (by decide) hz z1 rfl (fun hS k => c_X8_run_21_1 l g y aR τ ρ hs h6 hS6 p0 p1 hS k) (fun hS => c_X8_run_21_1n l g y aR τ ρ hs h6 hS6 p0 p1 hS)
      | none =>
        have p1 : ¬ ruP τ N G 1 := fun q => by have q : (q1R N G 0 N (up (up (r7 τ) 0 7 0) 0 8 0)).1 = true := q; rw [u1 z1] at q; cases q
        rcases okc hx with rfl | rfl | rfl
        · exact StI.no (most := 0) hB (by decide) (fe_1n hB.hc hz) rfl (((Tz.rf τ N).u0 0 (by decide) _).u0 7 (by decide) _) rfl (Or.inl rfl) (c_X8_run_0n l g y aR τ ρ hs h6 hS6 p0)
        · exact StI.no (most := 1) hB (by decide) (fe_2n hB.hc hz z1) rfl (ru_t2 hB) (ru_z1 hB) (Or.inr (Or.inl rfl)) (c_X8_run_1n l g y aR τ ρ hs h6 hS6 p0 p1)
        · cases z2 : Z2 σ I O (oAS σ τ (1 + I + O)) (oBS σ τ (1 + I + O)) (miS σ τ (1 + I + O)) G with
          | none =>
            have p2 : ¬ ruP τ N G 2 := fun q => by have q : (q2O N G 0 N (ruA τ N G)).1 = true := q; rw [v1 z2] at q; cases q
            exact StI.no (most := 2) hB (by decide) (fe_3n hB.hc hz z1 z2) rfl (ru_t3 hB) (ru_z2 hB) (Or.inr (Or.inr rfl)) (c_X8_run_2n l g y aR τ ρ hs h6 hS6 p0 p1 p2)
          | some p =>
            obtain ⟨k, k2, ⟨a, c⟩, ⟨a3, c3⟩⟩ := p
            have p2 : ruP τ N G 2 := (v2 k k2 a c a3 c3 z2).1
            exact StI.r2 hB hz z1 z2 (fun hS k0 k1 => c_X8_run_22_2 l g y aR τ ρ hs h6 hS6 p0 p1 p2 hS k0 k1) (fun hS => c_X8_run_22_2n l g y aR τ ρ hs h6 hS6 p0 p1 p2 hS)
  · exact ⟨1, σ, f, 0, up τ 0 0 1, ρ, 8, by decide, by decide, h_run_1 l g y aC x (c_X7_run_e l g y aC σ x hx hst), c_X8_run_1 l g y aR τ ρ x hx, rfl, fun q => absurd q (by decide), h.thr 1⟩
end ST
