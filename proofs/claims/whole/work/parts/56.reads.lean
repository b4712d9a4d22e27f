/-! the steps that read -/
theorem bit_eq (x : Int32) {t : Nat} (ht : t < 32) : bit x t = nI (x.toBitVec.toNat / 2 ^ t % 2) := by
  unfold bit
  have hs : (((nI t).toUInt32 &&& Int32.toUInt32 31).toBitVec % 32).toNat = t := by
    have : ∀ k, k < 32 → (((nI k).toUInt32 &&& Int32.toUInt32 31).toBitVec % 32).toNat = k := by decide
    exact this t ht
  rw [pk_and _ (m := 1) 1 (by decide), pk_ushr x (nI t) t hs]
theorem bit_cg {x : Int32} {t u : Nat} (ht : t < 32) (hu : u < 32) (h : Bt x t = Bt x u) : bit x t = bit x u := by
  rw [bit_eq x ht, bit_eq x hu]
  congr 1
  unfold Bt at h
  rw [BitVec.getLsbD, BitVec.getLsbD, Nat.testBit_eq_decide_div_mod_eq, Nat.testBit_eq_decide_div_mod_eq] at h
  have h1 := Nat.mod_two_eq_zero_or_one (x.toBitVec.toNat / 2 ^ t)
  have h2 := Nat.mod_two_eq_zero_or_one (x.toBitVec.toNat / 2 ^ u)
  rcases h1 with h1 | h1 <;> rcases h2 with h2 | h2 <;> simp_all
theorem mask_I {I : Nat} (h : I ≤ 5) : ((1 : Int32) <<< (nI I &&& 31) - 1).toBitVec.toNat = 2 ^ I - 1 := by
  have : ∀ k, k ≤ 5 → ((1 : Int32) <<< (nI k &&& 31) - 1).toBitVec.toNat = 2 ^ k - 1 := by decide
  exact this I h
section RD
variable {l : Launch} {g : va_G} {y : Nat → ClassId} {aC aR : Nat → Nat} {ao : Nat} {σ τ : stT} {ρ : rtT} {f : Nat → Int64} {N I O A G S M : Nat}
theorem InvB.col (h : InvB σ τ ρ N I O A G S M) {x : Int32} (hx : okL x (2 * N)) : cl (σ 4) (ix x) = cl (τ 4) (ix x) := cl_cg (h.2.1 (ix x / 2) (by have := hx.2; omega)).2.1
theorem perI.lit {I : Nat} {g : Nat → Int32} {a : Nat} (h : perI I (g (a / 2))) (hI : I ≤ 5) : perI I (cl g a) := by
  intro t ht
  have h2 : t % 2 ^ I < 32 := Nat.lt_of_lt_of_le (Nat.mod_lt _ (Nat.two_pow_pos I)) (by
    calc 2 ^ I ≤ 2 ^ 5 := Nat.pow_le_pow_right (by decide) hI
      _ = 32 := rfl)
  show Bt (if _ then _ else _) t = Bt (if _ then _ else _) (t % 2 ^ I)
  split
  · rw [Bt_not _ ht, Bt_not _ h2, h t ht]
  · exact h t ht
theorem va_eq (h : InvB σ τ ρ N I O A G S M) {x : Int32} (hx : okL x (2 * N)) (s : Int32) : vaF σ x s = rvF τ I x s := by
  have hI : I ≤ 5 := h.1.2.2.2.2.2.2.2.2.1
  have hp : perI I (cl (τ 4) (ix x)) := perI.lit (h.2.1 (ix x / 2) (by have := hx.2; omega)).2.2.2.2 hI
  have h32 : 2 ^ I ∣ 2 ^ 5 := Nat.pow_dvd_pow 2 hI
  have h2 : ∀ t, t % 2 ^ I < 32 := fun t => Nat.lt_of_lt_of_le (Nat.mod_lt _ (Nat.two_pow_pos I)) (Nat.le_of_dvd (by decide) h32)
  unfold vaF rvF
  rw [h.col hx, pk_and s (m := 31) 5 (by decide), pk_and s I (mask_I hI)]
  have e : s.toBitVec.toNat % 2 ^ I = s.toBitVec.toNat % 2 ^ 5 % 2 ^ I := (Nat.mod_mod_of_dvd _ h32).symm
  show bit (cl (τ 4) (ix x)) (s.toBitVec.toNat % 2 ^ 5) = bit (cl (τ 4) (ix x)) (s.toBitVec.toNat % 2 ^ I)
  rw [e]
  exact bit_cg (Nat.mod_lt _ (by decide)) (h2 _) (hp _ (Nat.mod_lt _ (by decide)))
theorem st_value (hst : l.stackTraces = false) (h : Inv σ τ ρ) (x s : Int32) : StI l g y aC aR ao .int Int32.toInt64 yL_value cL_value 5 hh_value yX8_value cX8_value 4 [.int x, .int s] σ τ ρ f := by
  obtain ⟨N, I, O, A, G, S, M, hB, hr⟩ := id h
  have hN2 : N ≤ 38 := hB.rs.2.2.1
  by_cases hx : okL x (2 * N)
  · exact ⟨0, σ, vp_updL f 0 (rvF τ I x s).toInt64, _, _, ρ, 5, by decide, by decide, h_value_0 l g y aC x s _ (by rw [← va_eq hB hx s]; exact (c_X7_value_0 l g y aC σ hB.1.1.1 hN2 x s hx).e), c_X8_value_0 l g y aR τ ρ hB.1.1.2 hN2 hB.1.2.1.2 x s hx, rfl, fun _ => f0L _ _, h.thr 0⟩
  · exact ⟨1, σ, f, 0, _, ρ, 5, by decide, by decide, h_value_1 l g y aC x s (c_X7_value_1 l g y aC σ hB.1.1.1 hN2 x s hx hst), c_X8_value_1 l g y aR τ ρ hB.1.1.2 hN2 hB.1.2.1.2 x s hx, rfl, fun q => absurd q (by decide), h.thr 1⟩
theorem df_eq (h : InvB σ τ ρ N I O A G S M) {i : Nat} (hi : i < G) : df σ 4 i = wdF τ i := by
  obtain ⟨a, b, c, d, -⟩ := h.2.2.2.1 i hi
  unfold df wdF
  rw [a, b, h.col c, h.col d]
theorem st_witness (hst : l.stackTraces = false) (h : Inv σ τ ρ) (x : Int32) : StI l g y aC aR ao .int Int32.toInt64 yL_witness cL_witness 4 hh_witness yX8_witness cX8_witness 4 [.int x] σ τ ρ f := by
  obtain ⟨N, I, O, A, G, S, M, hB, hr⟩ := id h
  have hG4 : G ≤ 4 := hB.rs.2.2.2.1
  have hG := hB.1.2.2.2.2.1.1
  by_cases hx : okL x G
  · obtain ⟨j, hj⟩ : ∃ j, j = ix x := ⟨_, rfl⟩
    have hjG : j < G := by rw [hj]; exact hx.2
    have e : x = nI j := by rw [hj]; exact hx.1
    have hw := hB.ws
    have c := (c_X7_witness_0 l g y aC σ hG hG4 hjG (hw.2.2.2.2.2.2.2.2.2.1 j hjG) (hw.2.2.2.2.2.2.2.2.2.2 j hjG)).e
    have c2 := c_X8_witness_0 l g y aR τ ρ hB.rs x hx
    rw [← hj, ← df_eq hB hjG] at c2
    rw [← e] at c
    exact ⟨0, σ, vp_updL f 0 (Int32.toInt64 _), _, _, ρ, 5, by decide, by decide, h_witness_0 l g y aC x _ c, c2, rfl, fun _ => f0L _ _, h.thr 0⟩
  · exact ⟨1, σ, f, 0, _, ρ, 5, by decide, by decide, h_witness_1 l g y aC x (c_X7_witness_1 l g y aC σ hG hG4 x hx hst), c_X8_witness_1 l g y aR τ ρ hB.rs x hx, rfl, fun q => absurd q (by decide), h.thr 1⟩
theorem st_matched (hst : l.stackTraces = false) (h : Inv σ τ ρ) (x : Int32) : StI l g y aC aR ao .int Int32.toInt64 yL_matched cL_matched 4 hh_matched yX8_matched cX8_matched 3 [.int x] σ τ ρ f := by
  obtain ⟨N, I, O, A, G, S, M, hB, hr⟩ := id h
  have hN2 : N ≤ 38 := hB.rs.2.2.1
  have hw := hB.ws
  by_cases hx : okL x (2 * N)
  · have hS := hB.sf
    have e : gfind (maG τ x) 0 (2 * N) = gfind (fun n => opt (cl (σ 4) (2 * ix (σ 6 (n / 2)) + n % 2) = cl (σ 4) (ix x)) (2 * ix (σ 6 (n / 2)) + n % 2)) 0 (2 * (1 + I + O)) := by
      refine gf_map (olw (owS σ)) (fun a c _ h1 h2 => olw_lt hS (by omega) h1) (fun a _ ha => ⟨Nat.zero_le _, ?_⟩) (fun a _ ha => ?_) (fun k _ hk hno => ?_)
      · have := hS.2.1 (a / 2) (by omega)
        unfold olw
        omega
      · have hk := hS.kind (k := a / 2) (by omega)
        have hlt := hS.2.1 (a / 2) (by omega)
        unfold maG
        rw [olw_2]
        show opt _ (olw (owS σ) a) = opt _ (olw (owS σ) a)
        refine opt_c ?_
        have e1 : cl (τ 4) (olw (owS σ) a) = cl (σ 4) (olw (owS σ) a) := (cl_cg (by rw [olw_2]; exact (hB.2.1 _ hlt).2.1)).symm
        rw [e1, ← hB.col hx]
        exact ⟨fun q => q.2, fun q => ⟨hk, q⟩⟩
      · refine opt_f (fun q => ?_)
        obtain ⟨a, ha, e⟩ := olw_ex hS (show k < 2 * N by omega) q.1
        exact hno a (Nat.zero_le _) (by omega) e
    have c := (c_X7_matched_0 l g y aC σ hB.1.1.1 hN2 x hB.1.2.1.1 hB.1.2.2.1.1 hw.2.2.2.2.2.1 hw.2.2.2.2.2.2.2.1 hx).e
    rw [← e] at c
    exact ⟨0, σ, vp_updL f 0 (Int32.toInt64 _), _, _, ρ, 5, by decide, by decide, h_matched_0 l g y aC x _ c, c_X8_matched_0 l g y aR τ ρ (G := G) hB.1.1.2 hN2 x hx, rfl, fun _ => f0L _ _, h.thr 0⟩
  · exact ⟨1, σ, f, 0, _, ρ, 5, by decide, by decide, h_matched_1 l g y aC x (c_X7_matched_1 l g y aC σ hB.1.1.1 hN2 x hx hst), c_X8_matched_1 l g y aR τ ρ (G := G) hB.1.1.2 hN2 x hx, rfl, fun q => absurd q (by decide), h.thr 1⟩
theorem dif_eq (h : InvB σ τ ρ N I O A G S M) : cnt (fun i => ¬ df σ 4 i = 0) G = cnt (rdP τ) G := cnt_c G (fun i hi => by
  rw [df_eq h hi]
  unfold wdF rdP
  refine not_congr ⟨fun q => Bt_ext (fun t ht => ?_), fun q => by rw [q, Int32.xor_self]⟩
  have := (all_0.mp q) t ht
  rw [Bt_xor] at this
  cases h1 : Bt (cl (τ 4) (ix (τ 6 i))) t <;> cases h2 : Bt (cl (τ 4) (ix (τ 7 i))) t <;> simp_all)
theorem old_iff (h : InvB σ τ ρ N I O A G S M) (x : Int32) : (okL x N ∧ σ 1 (ix x) = 1) ↔ (okL x N ∧ τ 1 (ix x) = 2) := and_congr_right fun q => (h.2.1 _ q.2).1.1
theorem st_literal (hst : l.stackTraces = false) (h : Inv σ τ ρ) (x w : Int32) : StI l g y aC aR ao .int Int32.toInt64 yL_literal cL_literal 5 hh_literal yX8_literal cX8_literal 3 [.int x, .int w] σ τ ρ f := by
  obtain ⟨N, I, O, A, G, S, M, hB, hr⟩ := id h
  have hN2 : N ≤ 38 := hB.rs.2.2.1
  by_cases hx : (okL x N ∧ τ 1 (ix x) = 2) ∧ okL w 2
  · have e : liC σ w (ix x) = liV τ w (ix x) := by
      obtain ⟨a, b, -⟩ := (hB.2.1 _ hx.1.1.2).2.2.1 (Or.inl hx.1.2)
      unfold liC liV
      rw [a, b]
    exact ⟨0, σ, vp_updL f 0 (Int32.toInt64 _), _, _, ρ, 2, by decide, by decide, h_literal_0 l g y aC x w _ (by rw [← e]; exact (c_X7_literal_0 l g y aC σ hB.1.1.1 hN2 x w ((old_iff hB x).mpr hx.1) hx.2).e), c_X8_literal_0 l g y aR τ ρ hB.1.1.2 hN2 x w hx.1 hx.2, rfl, fun _ => f0L _ _, h.thr 0⟩
  · exact ⟨1, σ, f, 0, _, ρ, 2, by decide, by decide, h_literal_1 l g y aC x w (c_X7_literal_1 l g y aC σ hB.1.1.1 hN2 x w (fun q => hx ⟨(old_iff hB x).mp q.1, q.2⟩) hst), c_X8_literal_1 l g y aR τ ρ hB.1.1.2 hN2 x w hx, rfl, fun q => absurd q (by decide), h.thr 1⟩
theorem st_edit (hst : l.stackTraces = false) (h : Inv σ τ ρ) (k w : Int32) : StI l g y aC aR ao .int Int32.toInt64 yL_edit cL_edit 5 hh_edit yX8_edit cX8_edit 3 [.int k, .int w] σ τ ρ f := by
  obtain ⟨N, I, O, A, G, S, M, hB, hr⟩ := id h
  by_cases hw : okL w 3
  · rcases hr with ⟨a, b⟩ | ⟨r, r1, r2, r3, r4, r5, -⟩
    · exact ⟨2, σ, f, 0, _, ρ, 4, by decide, by decide, h_edit_2 l g y aC k w (c_X7_edit_2 l g y aC σ k w hw a hst), c_X8_edit_2 l g y aR τ ρ k w hw b, rfl, fun q => absurd q (by decide), h.thr 2⟩
    · by_cases hk : okL k r
      · obtain ⟨j, hj⟩ : ∃ j, j = ix k := ⟨_, rfl⟩
        have hjr : j < r := by rw [hj]; exact hk.2
        have ek : k = nI j := by rw [hj]; exact hk.1
        have c := (c_X7_edit_0 l g y aC σ r2 r1 hjr w hw).e
        have c2 := c_X8_edit_0 l g y aR τ ρ r4 r1 k w hw r3 hk
        have e : edC σ w j = edV τ w j := by
          obtain ⟨⟨q1, q2, q3⟩, -⟩ := r5 j hjr
          unfold edC edV
          rw [q1, q2, q3]
        rw [← ek, e] at c
        rw [← hj] at c2
        exact ⟨0, σ, vp_updL f 0 (Int32.toInt64 _), _, _, ρ, 4, by decide, by decide, h_edit_0 l g y aC k w _ c, c2, rfl, fun _ => f0L _ _, h.thr 0⟩
      · exact ⟨1, σ, f, 0, _, ρ, 4, by decide, by decide, h_edit_1 l g y aC k w (c_X7_edit_3 l g y aC σ r2 r1 k w hw hk hst), c_X8_edit_3 l g y aR τ ρ r4 r1 k w hw r3 hk, rfl, fun q => absurd q (by decide), h.thr 1⟩
  · exact ⟨1, σ, f, 0, _, ρ, 4, by decide, by decide, h_edit_1 l g y aC k w (c_X7_edit_1 l g y aC σ k w hw hst), c_X8_edit_1 l g y aR τ ρ k w hw, rfl, fun q => absurd q (by decide), h.thr 1⟩
theorem st_used (hst : l.stackTraces = false) (h : Inv σ τ ρ) (k : Int32) : StI l g y aC aR ao .int Int32.toInt64 yL_used cL_used 4 hh_used yX8_used cX8_used 2 [.int k] σ τ ρ f := by
  obtain ⟨N, I, O, A, G, S, M, hB, hr⟩ := id h
  rcases hr with ⟨a, b⟩ | ⟨r, r1, r2, r3, r4, r5, r6, r7, r8⟩
  · exact ⟨1, σ, f, 0, _, ρ, 4, by decide, by decide, h_used_1 l g y aC k (c_X7_used_1 l g y aC σ k a hst), c_X8_used_1 l g y aR τ ρ k b, rfl, fun q => absurd q (by decide), h.thr 1⟩
  · by_cases hk : okL k r
    · obtain ⟨j, hj⟩ : ∃ j, j = ix k := ⟨_, rfl⟩
      have hjr : j < r := by rw [hj]; exact hk.2
      have ek : k = nI j := by rw [hj]; exact hk.1
      have c := (c_X7_used_0 l g y aC σ r2 r1 hjr).e
      have c2 := c_X8_used_0 l g y aR τ ρ r4 r1 k r3 hk
      rw [← ek, r7 j hjr] at c
      rw [← hj] at c2
      exact ⟨0, σ, vp_updL f 0 (Int32.toInt64 _), _, _, ρ, 4, by decide, by decide, h_used_0 l g y aC k _ c, c2, rfl, fun _ => f0L _ _, h.thr 0⟩
    · exact ⟨2, σ, f, 0, _, ρ, 4, by decide, by decide, h_used_2 l g y aC k (c_X7_used_2 l g y aC σ r2 r1 k hk hst), c_X8_used_2 l g y aR τ ρ r4 r1 k r3 hk, rfl, fun q => absurd q (by decide), h.thr 2⟩
theorem st_length (hst : l.stackTraces = false) (h : Inv σ τ ρ) : StI l g y aC aR ao .int Int32.toInt64 yL_length cL_length 3 hh_length yX8_length cX8_length 1 [] σ τ ρ f := by
  obtain ⟨N, I, O, A, G, S, M, hB, hr⟩ := id h
  rcases hr with ⟨a, b⟩ | ⟨r, r1, r2, r3, r4, r5, r6, r7, r8⟩
  · exact ⟨1, σ, f, 0, _, ρ, 0, by decide, by decide, h_length_1 l g y aC (c_X7_length_1 l g y aC σ a hst), c_X8_length_1 l g y aR τ ρ b, rfl, fun q => absurd q (by decide), h.thr 1⟩
  · have c := (c_X7_length_0 l g y aC σ r2 r1).e
    rw [r8] at c
    exact ⟨0, σ, vp_updL f 0 (Int32.toInt64 _), _, _, ρ, 0, by decide, by decide, h_length_0 l g y aC _ c, c_X8_length_0 l g y aR τ ρ r3, rfl, fun _ => f0L _ _, h.thr 0⟩
end RD
