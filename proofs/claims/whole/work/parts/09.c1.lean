set_option maxHeartbeats 4000000 in
set_option maxRecDepth 100000 in
theorem c_X7_column_4 (l : Launch) (g : va_G) (y : Nat → ClassId) (ad : Nat → Nat) (σ : Nat → Nat → Int32) {x : Int32} (hL : okL x 76) : w_C l g y yX7_column cX7_column 2 (some .int) 0 [.ref (ad 10), .int x] (cw ad y σ) (some (.int (cl (σ 4) (ix x)))) (cw ad y σ) := by
  refine w_ofI (lv0 := [(0, .ref (ad 10)), (1, .int x)]) (by decide +kernel) (Nat.le_of_ble_eq_true rfl) rfl (rfl) ?_
  intro Z hZ hret
  obtain ⟨L, hx⟩ : ∃ L, L = ix x := ⟨_, rfl⟩
  obtain ⟨hx1, hx2⟩ := hL
  rw [← hx] at hx1 hx2 hret
  subst hx1
  refine r_aload_n 1 hZ 0 dX7_column_0 rfl rfl rfl ?_
  refine r_iload_n 2 hZ 1 dX7_column_1 rfl rfl rfl ?_
  refine r_iconst (v := 1) 3 hZ dX7_column_2 rfl (by decide) ?_
  refine r_ishr 4 hZ dX7_column_3 rfl ?_
  rw [sh1 (by omega)]
  refine a_c4 5 hZ (by first | assumption | exact vp_in_nI (by omega) (by decide) | (unfold vp_in; decide)) dX7_column_4 rfl ?_
  refine r_iload_n 6 hZ 1 dX7_column_5 rfl rfl rfl ?_
  refine r_iconst (v := 1) 7 hZ dX7_column_6 rfl (by decide) ?_
  refine r_iand 8 hZ dX7_column_7 rfl ?_
  refine r_ineg 9 hZ dX7_column_8 rfl ?_
  refine r_ixor 10 hZ dX7_column_9 rfl ?_
  exact hret _ _ _ _ dX7_column_10 (cl_col _ (by omega)) rfl
set_option maxHeartbeats 4000000 in
set_option maxRecDepth 100000 in
theorem c_X7_column_9 (l : Launch) (g : va_G) (y : Nat → ClassId) (ad : Nat → Nat) (σ : Nat → Nat → Int32) {x : Int32} (hL : okL x 76) : w_C l g y yX7_column cX7_column 2 (some .int) 0 [.ref (ad 15), .int x] (cw ad y σ) (some (.int (cl (σ 9) (ix x)))) (cw ad y σ) := by
  refine w_ofI (lv0 := [(0, .ref (ad 15)), (1, .int x)]) (by decide +kernel) (Nat.le_of_ble_eq_true rfl) rfl (rfl) ?_
  intro Z hZ hret
  obtain ⟨L, hx⟩ : ∃ L, L = ix x := ⟨_, rfl⟩
  obtain ⟨hx1, hx2⟩ := hL
  rw [← hx] at hx1 hx2 hret
  subst hx1
  refine r_aload_n 1 hZ 0 dX7_column_0 rfl rfl rfl ?_
  refine r_iload_n 2 hZ 1 dX7_column_1 rfl rfl rfl ?_
  refine r_iconst (v := 1) 3 hZ dX7_column_2 rfl (by decide) ?_
  refine r_ishr 4 hZ dX7_column_3 rfl ?_
  rw [sh1 (by omega)]
  refine a_c9 5 hZ (by first | assumption | exact vp_in_nI (by omega) (by decide) | (unfold vp_in; decide)) dX7_column_4 rfl ?_
  refine r_iload_n 6 hZ 1 dX7_column_5 rfl rfl rfl ?_
  refine r_iconst (v := 1) 7 hZ dX7_column_6 rfl (by decide) ?_
  refine r_iand 8 hZ dX7_column_7 rfl ?_
  refine r_ineg 9 hZ dX7_column_8 rfl ?_
  refine r_ixor 10 hZ dX7_column_9 rfl ?_
  exact hret _ _ _ _ dX7_column_10 (cl_col _ (by omega)) rfl
/-- bit i of a column, as the machine reads it -/
def bit (x : Int32) (i : Nat) : Int32 := (x.toUInt32 >>> ((nI i).toUInt32 &&& Int32.toUInt32 31)).toInt32 &&& 1
set_option maxHeartbeats 4000000 in
set_option maxRecDepth 100000 in
theorem c_X7_leastBit (l : Launch) (g : va_G) (y : Nat → ClassId) (ad : Nat → Nat) (σ : Nat → Nat → Int32) (x : Int32) : w_C l g y yX7_leastBit cX7_leastBit 2 (some .int) 0 [.int x] (cw ad y σ) (some (.int (oI (gfind (fun i => opt (bit x i = 1) i) 0 32)))) (cw ad y σ) := by
  refine w_ofI (lv0 := [(0, .int x)]) (by decide +kernel) (Nat.le_of_ble_eq_true rfl) rfl (rfl) ?_
  intro Z hZ hret
  refine r_iconst (v := 0) 1 hZ dX7_leastBit_0 rfl (by decide) ?_
  refine r_istnN 2 [(0, _), (1, _)] hZ dX7_leastBit_1 rfl rfl (by decide) rfl rfl ?_
  have lp_2 : ∀ (n : Nat) (i : Nat), i ≤ 32 → 33 ≤ i + n → gfind (fun i => opt (bit x i = 1) i) 0 32 = gfind (fun i => opt (bit x i = 1) i) i (32 - i) → Z 0 0 (cw ad y σ) 2 [(0, .int x), (1, .int (nI i))] [] := by
    intro n
    induction n with
    | zero => intro i h1 hn_2 hg; exact absurd hn_2 (by omega)
    | succ n ih_2 =>
      intro i h1 hn_2 hg
      refine r_iload_n 3 hZ 1 dX7_leastBit_2 rfl rfl rfl ?_
      refine r_bipush (v := 32) 5 hZ dX7_leastBit_3 rfl (by decide) ?_
      refine r_icmp_ge 25 8 hZ dX7_leastBit_5 (by decide) rfl (fun c_5 => ?_) (fun c_5 => ?_)
      · skip
        have hi := nI_leq (a := 32) (by omega) (by omega) c_5
        have hi : i = 32 := by omega
        subst hi
        refine r_iconst (v := (-1)) 26 hZ dX7_leastBit_25 rfl (by decide) ?_
        exact hret _ _ _ _ dX7_leastBit_26 (by rw [hg, show 32 - 32 = 0 by omega, gfind_0]; rfl) rfl
      · skip
        have hi := nI_nleq (a := 32) (by omega) (by omega) c_5
        have hb : 32 - i = (32 - (i + 1)) + 1 := by omega
        refine r_iload_n 9 hZ 0 dX7_leastBit_8 rfl rfl rfl ?_
        refine r_iload_n 10 hZ 1 dX7_leastBit_9 rfl rfl rfl ?_
        refine r_iushr 11 hZ dX7_leastBit_10 rfl ?_
        refine r_iconst (v := 1) 12 hZ dX7_leastBit_11 rfl (by decide) ?_
        refine r_iand 13 hZ dX7_leastBit_12 rfl ?_
        refine r_iconst (v := 1) 14 hZ dX7_leastBit_13 rfl (by decide) ?_
        refine r_icmp_ne 19 17 hZ dX7_leastBit_14 (by decide) rfl (fun c_14 => ?_) (fun c_14 => ?_)
        · skip
          refine r_iinc 22 1 1 [(0, _), (1, _)] hZ dX7_leastBit_19 rfl rfl (by decide) (by decide) rfl rfl ?_
          refine r_goto 2 hZ dX7_leastBit_22 (by decide) ?_
          rw [nI_1]
          exact ih_2 (i + 1) (by omega) (by omega) (by rw [hg, show 32 - i = (32 - (i + 1)) + 1 by omega, gfind_n (f := fun i => opt (bit x i = 1) i) (opt_f c_14)])
        · skip
          have c_14 : bit x i = 1 := c_14
          refine r_iload_n 18 hZ 1 dX7_leastBit_17 rfl rfl rfl ?_
          exact hret _ _ _ _ dX7_leastBit_18 (by rw [hg, hb, gfind_s (f := fun i => opt (bit x i = 1) i) (opt_t c_14)]; rfl) rfl
  exact lp_2 33 0 (by omega) (by omega) rfl
set_option maxHeartbeats 4000000 in
set_option maxRecDepth 100000 in
theorem c_X7_isTooFar (l : Launch) (g : va_G) (y : Nat → ClassId) (ad : Nat → Nat) (σ : Nat → Nat → Int32) (x : Int64) : w_C l g y yX7_isTooFar cX7_isTooFar 2 (some .boolean) 0 [.long x] (cw ad y σ) (some (.int (bI (x < -1000 ∨ 1000 < x)))) (cw ad y σ) := by
  refine w_ofI (lv0 := [(0, .long x)]) (by decide +kernel) (Nat.le_of_ble_eq_true rfl) rfl (bI_nar _) ?_
  intro Z hZ hret
  refine r_lload_n 1 hZ 0 dX7_isTooFar_0 rfl rfl rfl ?_
  refine r_ldc2 4 hZ dX7_isTooFar_1 rfl wK_X7_242 ?_
  refine r_lcmp 5 hZ dX7_isTooFar_4 rfl ?_
  refine r_if_lt 16 8 hZ dX7_isTooFar_5 (by decide) rfl (fun c_5 => ?_) (fun c_5 => ?_)
  · skip
    have c := (lg_cmp_lt _ _).mp c_5
    refine r_iconst (v := 1) 17 hZ dX7_isTooFar_16 rfl (by decide) ?_
    refine r_goto 21 hZ dX7_isTooFar_17 (by decide) ?_
    exact hret _ _ _ _ dX7_isTooFar_21 (by first | exact (bI_t (Or.inl c)).symm | exact (bI_t (Or.inr (Int64.not_le.mp c2))).symm | exact (bI_f (fun q => q.elim c (fun q => absurd c2 (Int64.not_le.mpr q)))).symm) rfl
  · skip
    have c : ¬ x < -1000 := fun q => c_5 ((lg_cmp_lt _ _).mpr q)
    refine r_lload_n 9 hZ 0 dX7_isTooFar_8 rfl rfl rfl ?_
    refine r_ldc2 12 hZ dX7_isTooFar_9 rfl wK_X7_244 ?_
    refine r_lcmp 13 hZ dX7_isTooFar_12 rfl ?_
    refine r_if_le 20 16 hZ dX7_isTooFar_13 (by decide) rfl (fun c_13 => ?_) (fun c_13 => ?_)
    · skip
      have c2 := (lg_cmp_le _ _).mp c_13
      refine r_iconst (v := 0) 21 hZ dX7_isTooFar_20 rfl (by decide) ?_
      exact hret _ _ _ _ dX7_isTooFar_21 (by first | exact (bI_t (Or.inl c)).symm | exact (bI_t (Or.inr (Int64.not_le.mp c2))).symm | exact (bI_f (fun q => q.elim c (fun q => absurd c2 (Int64.not_le.mpr q)))).symm) rfl
    · skip
      have c2 : ¬ x ≤ 1000 := fun q => c_13 ((lg_cmp_le _ _).mpr q)
      refine r_iconst (v := 1) 17 hZ dX7_isTooFar_16 rfl (by decide) ?_
      refine r_goto 21 hZ dX7_isTooFar_17 (by decide) ?_
      exact hret _ _ _ _ dX7_isTooFar_21 (by first | exact (bI_t (Or.inl c)).symm | exact (bI_t (Or.inr (Int64.not_le.mp c2))).symm | exact (bI_f (fun q => q.elim c (fun q => absurd c2 (Int64.not_le.mpr q)))).symm) rfl
theorem and1_xor (x y : Int32) : (x ^^^ y) &&& 1 = (x &&& 1) ^^^ (y &&& 1) := by
  apply Int32.toBitVec_inj.mp
  simp only [Int32.toBitVec_and, Int32.toBitVec_xor]
  apply BitVec.eq_of_getLsbD_eq
  intro i hi
  simp only [BitVec.getLsbD_and, BitVec.getLsbD_xor]
  cases x.toBitVec.getLsbD i <;> cases y.toBitVec.getLsbD i <;> cases (Int32.toBitVec 1).getLsbD i <;> rfl
/-- two literals' columns: turned both or neither, or one of them -/
theorem cl_dif (f : Nat → Int32) {a b : Nat} (ha : a < 80) (hb : b < 80) : f (nI (a / 2)).toNatClampNeg ^^^ f (nI (b / 2)).toNatClampNeg ^^^ -((nI a ^^^ nI b) &&& 1) = cl f a ^^^ cl f b := by
  rw [← cl_col f ha, ← cl_col f hb, and1_xor, an1 (by omega), an1 (by omega)]
  rcases mod2 a with e | e <;> rcases mod2 b with e2 | e2 <;> rw [e, e2]
  · rw [show (-(nI 0 ^^^ nI 0) : Int32) = 0 by decide, show (-nI 0 : Int32) = 0 by decide, Int32.xor_zero, Int32.xor_zero, Int32.xor_zero]
  · rw [show (-(nI 0 ^^^ nI 1) : Int32) = -nI 1 by decide, show (-nI 0 : Int32) = 0 by decide, Int32.xor_zero, Int32.xor_assoc]
  · rw [show (-(nI 1 ^^^ nI 0) : Int32) = -nI 1 by decide, show (-nI 0 : Int32) = 0 by decide, Int32.xor_zero, Int32.xor_assoc, Int32.xor_comm (f (nI (b / 2)).toNatClampNeg), ← Int32.xor_assoc]
  · rw [show (-(nI 1 ^^^ nI 1) : Int32) = 0 by decide, Int32.xor_zero, ← Int32.xor_assoc, Int32.xor_assoc (f (nI (a / 2)).toNatClampNeg) (-nI 1), Int32.xor_comm (-nI 1), ← Int32.xor_assoc, Int32.xor_assoc _ (-nI 1) (-nI 1), Int32.xor_self, Int32.xor_zero]
set_option maxHeartbeats 4000000 in
set_option maxRecDepth 100000 in
theorem c_X2_difference_4 (l : Launch) (g : va_G) (y : Nat → ClassId) (ad : Nat → Nat) (σ : Nat → Nat → Int32) {i : Nat} (hi : i < 4) (h7 : okL (σ 7 i) 76) (h8 : okL (σ 8 i) 76) : w_C l g y yX2_difference cX2_difference 4 (some .int) 1 [.ref (ad 2), .ref (ad 10), .int (nI i)] (cw ad y σ) (some (.int (df σ 4 i))) (cw ad y σ) := by
  refine w_ofI (lv0 := [(0, .ref (ad 2)), (1, .ref (ad 10)), (2, .int (nI i))]) (by decide +kernel) (Nat.le_of_ble_eq_true rfl) rfl (rfl) ?_
  intro Z hZ hret
  have hci := nI_clamp (n := i) (by omega)
  obtain ⟨a, ha⟩ : ∃ a, a = ix (σ 7 i) := ⟨_, rfl⟩
  obtain ⟨b, hb⟩ : ∃ b, b = ix (σ 8 i) := ⟨_, rfl⟩
  obtain ⟨ea, la⟩ := h7
  obtain ⟨eb, lb⟩ := h8
  rw [← ha] at ea la
  rw [← hb] at eb lb
  refine r_aload_n 1 hZ 0 dX2_difference_0 rfl rfl rfl ?_
  refine g_X2_9 4 hZ dX2_difference_1 rfl ?_
  refine r_iload_n 5 hZ 2 dX2_difference_4 rfl rfl rfl ?_
  refine a_c7 6 hZ (by first | assumption | exact vp_in_nI (by omega) (by decide) | (unfold vp_in; decide)) dX2_difference_5 rfl ?_
  rw [hci, ea]
  refine r_aload_n 7 hZ 0 dX2_difference_6 rfl rfl rfl ?_
  refine g_X2_15 10 hZ dX2_difference_7 rfl ?_
  refine r_iload_n 11 hZ 2 dX2_difference_10 rfl rfl rfl ?_
  refine a_c8 12 hZ (by first | assumption | exact vp_in_nI (by omega) (by decide) | (unfold vp_in; decide)) dX2_difference_11 rfl ?_
  rw [hci, eb]
  refine r_ixor 13 hZ dX2_difference_12 rfl ?_
  refine r_iconst (v := 1) 14 hZ dX2_difference_13 rfl (by decide) ?_
  refine r_iand 15 hZ dX2_difference_14 rfl ?_
  refine r_istnN 16 [(0, _), (1, _), (2, _), (3, _)] hZ dX2_difference_15 rfl rfl (by decide) rfl rfl ?_
  refine r_aload_n 17 hZ 1 dX2_difference_16 rfl rfl rfl ?_
  refine r_aload_n 18 hZ 0 dX2_difference_17 rfl rfl rfl ?_
  refine g_X2_9 21 hZ dX2_difference_18 rfl ?_
  refine r_iload_n 22 hZ 2 dX2_difference_21 rfl rfl rfl ?_
  refine a_c7 23 hZ (by first | assumption | exact vp_in_nI (by omega) (by decide) | (unfold vp_in; decide)) dX2_difference_22 rfl ?_
  rw [hci, ea]
  refine r_iconst (v := 1) 24 hZ dX2_difference_23 rfl (by decide) ?_
  refine r_ishr 25 hZ dX2_difference_24 rfl ?_
  rw [sh1 (by omega)]
  refine a_c4 26 hZ (by first | assumption | exact vp_in_nI (by omega) (by decide) | (unfold vp_in; decide)) dX2_difference_25 rfl ?_
  refine r_aload_n 27 hZ 1 dX2_difference_26 rfl rfl rfl ?_
  refine r_aload_n 28 hZ 0 dX2_difference_27 rfl rfl rfl ?_
  refine g_X2_15 31 hZ dX2_difference_28 rfl ?_
  refine r_iload_n 32 hZ 2 dX2_difference_31 rfl rfl rfl ?_
  refine a_c8 33 hZ (by first | assumption | exact vp_in_nI (by omega) (by decide) | (unfold vp_in; decide)) dX2_difference_32 rfl ?_
  rw [hci, eb]
  refine r_iconst (v := 1) 34 hZ dX2_difference_33 rfl (by decide) ?_
  refine r_ishr 35 hZ dX2_difference_34 rfl ?_
  rw [sh1 (by omega)]
  refine a_c4 36 hZ (by first | assumption | exact vp_in_nI (by omega) (by decide) | (unfold vp_in; decide)) dX2_difference_35 rfl ?_
  refine r_ixor 37 hZ dX2_difference_36 rfl ?_
  refine r_iload_n 38 hZ 3 dX2_difference_37 rfl rfl rfl ?_
  refine r_ineg 39 hZ dX2_difference_38 rfl ?_
  refine r_ixor 40 hZ dX2_difference_39 rfl ?_
  exact hret _ _ _ _ dX2_difference_40 (by show _ = cl (σ 4) (ix (σ 7 i)) ^^^ cl (σ 4) (ix (σ 8 i)); rw [← ha, ← hb]; exact cl_dif _ (by omega) (by omega)) rfl
set_option maxHeartbeats 4000000 in
set_option maxRecDepth 100000 in
theorem c_X2_difference_9 (l : Launch) (g : va_G) (y : Nat → ClassId) (ad : Nat → Nat) (σ : Nat → Nat → Int32) {i : Nat} (hi : i < 4) (h7 : okL (σ 7 i) 76) (h8 : okL (σ 8 i) 76) : w_C l g y yX2_difference cX2_difference 4 (some .int) 1 [.ref (ad 2), .ref (ad 15), .int (nI i)] (cw ad y σ) (some (.int (df σ 9 i))) (cw ad y σ) := by
  refine w_ofI (lv0 := [(0, .ref (ad 2)), (1, .ref (ad 15)), (2, .int (nI i))]) (by decide +kernel) (Nat.le_of_ble_eq_true rfl) rfl (rfl) ?_
  intro Z hZ hret
  have hci := nI_clamp (n := i) (by omega)
  obtain ⟨a, ha⟩ : ∃ a, a = ix (σ 7 i) := ⟨_, rfl⟩
  obtain ⟨b, hb⟩ : ∃ b, b = ix (σ 8 i) := ⟨_, rfl⟩
  obtain ⟨ea, la⟩ := h7
  obtain ⟨eb, lb⟩ := h8
  rw [← ha] at ea la
  rw [← hb] at eb lb
  refine r_aload_n 1 hZ 0 dX2_difference_0 rfl rfl rfl ?_
  refine g_X2_9 4 hZ dX2_difference_1 rfl ?_
  refine r_iload_n 5 hZ 2 dX2_difference_4 rfl rfl rfl ?_
  refine a_c7 6 hZ (by first | assumption | exact vp_in_nI (by omega) (by decide) | (unfold vp_in; decide)) dX2_difference_5 rfl ?_
  rw [hci, ea]
  refine r_aload_n 7 hZ 0 dX2_difference_6 rfl rfl rfl ?_
  refine g_X2_15 10 hZ dX2_difference_7 rfl ?_
  refine r_iload_n 11 hZ 2 dX2_difference_10 rfl rfl rfl ?_
  refine a_c8 12 hZ (by first | assumption | exact vp_in_nI (by omega) (by decide) | (unfold vp_in; decide)) dX2_difference_11 rfl ?_
  rw [hci, eb]
  refine r_ixor 13 hZ dX2_difference_12 rfl ?_
  refine r_iconst (v := 1) 14 hZ dX2_difference_13 rfl (by decide) ?_
  refine r_iand 15 hZ dX2_difference_14 rfl ?_
  refine r_istnN 16 [(0, _), (1, _), (2, _), (3, _)] hZ dX2_difference_15 rfl rfl (by decide) rfl rfl ?_
  refine r_aload_n 17 hZ 1 dX2_difference_16 rfl rfl rfl ?_
  refine r_aload_n 18 hZ 0 dX2_difference_17 rfl rfl rfl ?_
  refine g_X2_9 21 hZ dX2_difference_18 rfl ?_
  refine r_iload_n 22 hZ 2 dX2_difference_21 rfl rfl rfl ?_
  refine a_c7 23 hZ (by first | assumption | exact vp_in_nI (by omega) (by decide) | (unfold vp_in; decide)) dX2_difference_22 rfl ?_
  rw [hci, ea]
  refine r_iconst (v := 1) 24 hZ dX2_difference_23 rfl (by decide) ?_
  refine r_ishr 25 hZ dX2_difference_24 rfl ?_
  rw [sh1 (by omega)]
  refine a_c9 26 hZ (by first | assumption | exact vp_in_nI (by omega) (by decide) | (unfold vp_in; decide)) dX2_difference_25 rfl ?_
  refine r_aload_n 27 hZ 1 dX2_difference_26 rfl rfl rfl ?_
  refine r_aload_n 28 hZ 0 dX2_difference_27 rfl rfl rfl ?_
  refine g_X2_15 31 hZ dX2_difference_28 rfl ?_
  refine r_iload_n 32 hZ 2 dX2_difference_31 rfl rfl rfl ?_
  refine a_c8 33 hZ (by first | assumption | exact vp_in_nI (by omega) (by decide) | (unfold vp_in; decide)) dX2_difference_32 rfl ?_
  rw [hci, eb]
  refine r_iconst (v := 1) 34 hZ dX2_difference_33 rfl (by decide) ?_
  refine r_ishr 35 hZ dX2_difference_34 rfl ?_
  rw [sh1 (by omega)]
  refine a_c9 36 hZ (by first | assumption | exact vp_in_nI (by omega) (by decide) | (unfold vp_in; decide)) dX2_difference_35 rfl ?_
  refine r_ixor 37 hZ dX2_difference_36 rfl ?_
  refine r_iload_n 38 hZ 3 dX2_difference_37 rfl rfl rfl ?_
  refine r_ineg 39 hZ dX2_difference_38 rfl ?_
  refine r_ixor 40 hZ dX2_difference_39 rfl ?_
  exact hret _ _ _ _ dX2_difference_40 (by show _ = cl (σ 9) (ix (σ 7 i)) ^^^ cl (σ 9) (ix (σ 8 i)); rw [← ha, ← hb]; exact cl_dif _ (by omega) (by omega)) rfl
set_option maxHeartbeats 4000000 in
set_option maxRecDepth 100000 in
theorem c_X2_agreement (l : Launch) (g : va_G) (y : Nat → ClassId) (ad : Nat → Nat) (σ : Nat → Nat → Int32) {G : Nat} (hG : σ 0 5 = nI G) (hG4 : G ≤ 4) (h7 : ∀ i, i < G → okL (σ 7 i) 76) (h8 : ∀ i, i < G → okL (σ 8 i) 76) : w_C l g y yX2_agreement cX2_agreement 4 (some .int) 2 [.ref (ad 2), .ref (ad 15)] (cw ad y σ) (some (.int (dor σ 9 G ^^^ (-1)))) (cw ad y σ) := by
  refine w_ofI (lv0 := [(0, .ref (ad 2)), (1, .ref (ad 15))]) (by decide +kernel) (Nat.le_of_ble_eq_true rfl) rfl (rfl) ?_
  intro Z hZ hret
  refine r_iconst (v := 0) 1 hZ dX2_agreement_0 rfl (by decide) ?_
  refine r_istnN 2 [(0, _), (1, _), (2, _)] hZ dX2_agreement_1 rfl rfl (by decide) rfl rfl ?_
  refine r_iconst (v := 0) 3 hZ dX2_agreement_2 rfl (by decide) ?_
  refine r_istnN 4 [(0, _), (1, _), (2, _), (3, _)] hZ dX2_agreement_3 rfl rfl (by decide) rfl rfl ?_
  have lp_4 : ∀ (n : Nat) (i : Nat), i ≤ G → G + 1 ≤ i + n → Z 0 0 (cw ad y σ) 4 [(0, .ref (ad 2)), (1, .ref (ad 15)), (2, .int (dor σ 9 i)), (3, .int (nI i))] [] := by
    intro n
    induction n with
    | zero => intro i h1 hn_4; exact absurd hn_4 (by omega)
    | succ n ih_4 =>
      intro i h1 hn_4
      refine r_iload_n 5 hZ 3 dX2_agreement_4 rfl rfl rfl ?_
      refine r_aload_n 6 hZ 0 dX2_agreement_5 rfl rfl rfl ?_
      refine g_X2_18 9 hZ dX2_agreement_6 rfl ?_
      rw [hG]
      refine r_icmp_ge 27 12 hZ dX2_agreement_9 (by decide) rfl (fun c_9 => ?_) (fun c_9 => ?_)
      · skip
        have hi := nI_leq (by omega) (by omega) c_9
        have hi : i = G := by omega
        subst hi
        refine r_iload_n 28 hZ 2 dX2_agreement_27 rfl rfl rfl ?_
        refine r_iconst (v := (-1)) 29 hZ dX2_agreement_28 rfl (by decide) ?_
        refine r_ixor 30 hZ dX2_agreement_29 rfl ?_
        exact hret _ _ _ _ dX2_agreement_30 rfl rfl
      · skip
        have hi := nI_nleq (by omega) (by omega) c_9
        refine r_iload_n 13 hZ 2 dX2_agreement_12 rfl rfl rfl ?_
        refine r_aload_n 14 hZ 0 dX2_agreement_13 rfl rfl rfl ?_
        refine r_aload_n 15 hZ 1 dX2_agreement_14 rfl rfl rfl ?_
        refine r_iload_n 16 hZ 3 dX2_agreement_15 rfl rfl rfl ?_
        refine r_callVI (c_X2_difference_9 l g y ad σ (i := i) (by omega) (h7 i hi) (h8 i hi)) wM_X2_difference wL_X2_22 hZ rfl ⟨by decide, by decide⟩ 2 2 rfl rfl rfl rfl dX2_agreement_16 ?_
        refine r_ior 20 hZ dX2_agreement_19 rfl ?_
        refine r_istn 21 2 [(0, _), (1, _), (2, _), (3, _)] hZ dX2_agreement_20 rfl rfl (by decide) rfl rfl ?_
        refine r_iinc 24 3 1 [(0, _), (1, _), (2, _), (3, _)] hZ dX2_agreement_21 rfl rfl (by decide) (by decide) rfl rfl ?_
        refine r_goto 4 hZ dX2_agreement_24 (by decide) ?_
        rw [nI_1]
        exact ih_4 (i + 1) (by omega) (by omega)
  exact lp_4 (G + 1) 0 (by omega) (by omega)
set_option maxHeartbeats 4000000 in
set_option maxRecDepth 100000 in
theorem c_X2_add (l : Launch) (g : va_G) (y : Nat → ClassId) (ad : Nat → Nat) (σ : Nat → Nat → Int32) {G : Nat} (hG : σ 0 5 = nI G) (hG4 : G < 4) (a b : Int32) : w_C l g y yX2_add cX2_add 3 (some .int) 0 [.ref (ad 2), .int a, .int b] (cw ad y σ) (some (.int (nI G))) (cw ad y (up (up (up σ 7 G a) 8 G b) 0 5 (nI (G + 1)))) := by
  refine w_ofI (lv0 := [(0, .ref (ad 2)), (1, .int a), (2, .int b)]) (by decide +kernel) (Nat.le_of_ble_eq_true rfl) rfl (rfl) ?_
  intro Z hZ hret
  have hci := nI_clamp (n := G) (by omega)
  have hG2 : ∀ v, up σ 7 G v 0 5 = nI G := fun v => hG
  have hG3 : ∀ v w, up (up σ 7 G v) 8 G w 0 5 = nI G := fun v w => hG
  refine r_aload_n 1 hZ 0 dX2_add_0 rfl rfl rfl ?_
  refine g_X2_9 4 hZ dX2_add_1 rfl ?_
  refine r_aload_n 5 hZ 0 dX2_add_4 rfl rfl rfl ?_
  refine g_X2_18 8 hZ dX2_add_5 rfl ?_
  rw [hG]
  refine r_iload_n 9 hZ 1 dX2_add_8 rfl rfl rfl ?_
  refine s_c7 10 hZ (by first | assumption | exact vp_in_nI (by omega) (by decide) | (unfold vp_in; decide)) dX2_add_9 rfl ?_
  rw [hci]
  refine r_aload_n 11 hZ 0 dX2_add_10 rfl rfl rfl ?_
  refine g_X2_15 14 hZ dX2_add_11 rfl ?_
  refine r_aload_n 15 hZ 0 dX2_add_14 rfl rfl rfl ?_
  refine g_X2_18 18 hZ dX2_add_15 rfl ?_
  rw [hG2]
  refine r_iload_n 19 hZ 2 dX2_add_18 rfl rfl rfl ?_
  refine s_c8 20 hZ (by first | assumption | exact vp_in_nI (by omega) (by decide) | (unfold vp_in; decide)) dX2_add_19 rfl ?_
  rw [hci]
  refine r_aload_n 21 hZ 0 dX2_add_20 rfl rfl rfl ?_
  refine r_dup 22 hZ dX2_add_21 rfl rfl ?_
  refine g_X2_18 25 hZ dX2_add_22 rfl ?_
  rw [hG3]
  refine r_iconst (v := 1) 26 hZ dX2_add_25 rfl (by decide) ?_
  refine r_iadd 27 hZ dX2_add_26 rfl ?_
  rw [nI_1]
  refine p_X2_18 30 hZ dX2_add_27 rfl ?_
  refine r_aload_n 31 hZ 0 dX2_add_30 rfl rfl rfl ?_
  refine g_X2_18 34 hZ dX2_add_31 rfl ?_
  refine r_iconst (v := 1) 35 hZ dX2_add_34 rfl (by decide) ?_
  refine r_isub 36 hZ dX2_add_35 rfl ?_
  exact hret _ _ _ _ dX2_add_36 (show nI (G + 1) - 1 = nI G from nI_pred G) rfl
theorem hl_neg {x : Int32} (h : x < 0) (m : Nat) : ¬ okL x m := fun q => nI_pos (n := ix x) (by have := x.toNatClampNeg_lt; omega) (by rw [← q.1]; exact h)
theorem hl_big {x : Int32} {m : Nat} (hm : m < 2 ^ 31) (h : nI m ≤ x) : ¬ okL x m := fun q => by
  have h1 : nI m ≤ nI (ix x) := by rw [← q.1]; exact h
  have := nI_leq hm (by have := q.2; omega) h1
  have := q.2
  omega
theorem hl_ok {x : Int32} {m : Nat} (hm : m < 2 ^ 31) (h0 : ¬ x < 0) (h : ¬ nI m ≤ x) : okL x m := by
  obtain ⟨j, hj, e⟩ := nI_of h0
  rw [e]
  rw [e] at h
  exact okL_nI (nI_nleq hm hj h) (by omega)
set_option maxHeartbeats 4000000 in
set_option maxRecDepth 100000 in
theorem c_X3_hasLiteral (l : Launch) (g : va_G) (y : Nat → ClassId) (ad : Nat → Nat) (σ : Nat → Nat → Int32) (x : Int32) {N : Nat} (hN : σ 0 1 = nI N) (hN2 : N ≤ 38) : w_C l g y yX3_hasLiteral cX3_hasLiteral 2 (some .boolean) 0 [.ref (ad 1), .int x] (cw ad y σ) (some (.int (bI (okL x (2 * N))))) (cw ad y σ) := by
  refine w_ofI (lv0 := [(0, .ref (ad 1)), (1, .int x)]) (by decide +kernel) (Nat.le_of_ble_eq_true rfl) rfl (bI_nar _) ?_
  intro Z hZ hret
  refine r_iload_n 1 hZ 1 dX3_hasLiteral_0 rfl rfl rfl ?_
  refine r_if_lt 18 4 hZ dX3_hasLiteral_1 (by decide) rfl (fun c_1 => ?_) (fun c_1 => ?_)
  · skip
    have c := hl_neg c_1
    refine r_iconst (v := 0) 19 hZ dX3_hasLiteral_18 rfl (by decide) ?_
    exact hret _ _ _ _ dX3_hasLiteral_19 (by first | exact (bI_t c).symm | exact (bI_f (c _)).symm | exact (bI_f c).symm) rfl
  · skip
    refine r_iload_n 5 hZ 1 dX3_hasLiteral_4 rfl rfl rfl ?_
    refine r_iconst (v := 2) 6 hZ dX3_hasLiteral_5 rfl (by decide) ?_
    refine r_aload_n 7 hZ 0 dX3_hasLiteral_6 rfl rfl rfl ?_
    refine g_X3_31 10 hZ dX3_hasLiteral_7 rfl ?_
    refine r_imul 11 hZ dX3_hasLiteral_10 rfl ?_
    rw [hN, nI_2]
    refine r_icmp_ge 18 14 hZ dX3_hasLiteral_11 (by decide) rfl (fun c_11 => ?_) (fun c_11 => ?_)
    · skip
      have c := hl_big (m := 2 * N) (by omega) c_11
      refine r_iconst (v := 0) 19 hZ dX3_hasLiteral_18 rfl (by decide) ?_
      exact hret _ _ _ _ dX3_hasLiteral_19 (by first | exact (bI_t c).symm | exact (bI_f (c _)).symm | exact (bI_f c).symm) rfl
    · skip
      have c := hl_ok (m := 2 * N) (by omega) c_1 c_11
      refine r_iconst (v := 1) 15 hZ dX3_hasLiteral_14 rfl (by decide) ?_
      refine r_goto 19 hZ dX3_hasLiteral_15 (by decide) ?_
      exact hret _ _ _ _ dX3_hasLiteral_19 (by first | exact (bI_t c).symm | exact (bI_f (c _)).symm | exact (bI_f c).symm) rfl
set_option maxHeartbeats 4000000 in
set_option maxRecDepth 100000 in
theorem c_X3_isOf (l : Launch) (g : va_G) (y : Nat → ClassId) (ad : Nat → Nat) (σ : Nat → Nat → Int32) (w : Int32) {x : Int32} (hL : okL x 76) : w_C l g y yX3_isOf cX3_isOf 3 (some .boolean) 0 [.ref (ad 1), .int w, .int x] (cw ad y σ) (some (.int (bI (σ 1 (ix x / 2) = w)))) (cw ad y σ) := by
  refine w_ofI (lv0 := [(0, .ref (ad 1)), (1, .int w), (2, .int x)]) (by decide +kernel) (Nat.le_of_ble_eq_true rfl) rfl (bI_nar _) ?_
  intro Z hZ hret
  obtain ⟨L, hx⟩ : ∃ L, L = ix x := ⟨_, rfl⟩
  obtain ⟨hx1, hx2⟩ := hL
  rw [← hx] at hx1 hx2 hret
  subst hx1
  have hci := nI_clamp (n := L / 2) (by omega)
  refine r_aload_n 1 hZ 0 dX3_isOf_0 rfl rfl rfl ?_
  refine g_X3_9 4 hZ dX3_isOf_1 rfl ?_
  refine r_iload_n 5 hZ 2 dX3_isOf_4 rfl rfl rfl ?_
  refine r_iconst (v := 1) 6 hZ dX3_isOf_5 rfl (by decide) ?_
  refine r_ishr 7 hZ dX3_isOf_6 rfl ?_
  rw [sh1 (by omega)]
  refine a_c1 8 hZ (by first | assumption | exact vp_in_nI (by omega) (by decide) | (unfold vp_in; decide)) dX3_isOf_7 rfl ?_
  rw [hci]
  refine r_iload_n 9 hZ 1 dX3_isOf_8 rfl rfl rfl ?_
  refine r_icmp_ne 16 12 hZ dX3_isOf_9 (by decide) rfl (fun c_9 => ?_) (fun c_9 => ?_)
  · skip
    refine r_iconst (v := 0) 17 hZ dX3_isOf_16 rfl (by decide) ?_
    exact hret _ _ _ _ dX3_isOf_17 (by first | exact (bI_t c_9).symm | exact (bI_f c_9).symm) rfl
  · skip
    refine r_iconst (v := 1) 13 hZ dX3_isOf_12 rfl (by decide) ?_
    refine r_goto 17 hZ dX3_isOf_13 (by decide) ?_
    exact hret _ _ _ _ dX3_isOf_17 (by first | exact (bI_t c_9).symm | exact (bI_f c_9).symm) rfl
set_option maxHeartbeats 4000000 in
set_option maxRecDepth 100000 in
theorem c_X3_isOldNode (l : Launch) (g : va_G) (y : Nat → ClassId) (ad : Nat → Nat) (σ : Nat → Nat → Int32) (x : Int32) {N : Nat} (hN : σ 0 1 = nI N) (hN2 : N ≤ 38) : w_C l g y yX3_isOldNode cX3_isOldNode 2 (some .boolean) 0 [.ref (ad 1), .int x] (cw ad y σ) (some (.int (bI (okL x N ∧ σ 1 (ix x) = 1)))) (cw ad y σ) := by
  refine w_ofI (lv0 := [(0, .ref (ad 1)), (1, .int x)]) (by decide +kernel) (Nat.le_of_ble_eq_true rfl) rfl (bI_nar _) ?_
  intro Z hZ hret
  refine r_iload_n 1 hZ 1 dX3_isOldNode_0 rfl rfl rfl ?_
  refine r_if_lt 26 4 hZ dX3_isOldNode_1 (by decide) rfl (fun c_1 => ?_) (fun c_1 => ?_)
  · skip
    have cc : ¬ (okL x N ∧ σ 1 (ix x) = 1) := fun q => hl_neg c_1 N q.1
    refine r_iconst (v := 0) 27 hZ dX3_isOldNode_26 rfl (by decide) ?_
    exact hret _ _ _ _ dX3_isOldNode_27 (by first | exact (bI_t cc).symm | exact (bI_f cc).symm) rfl
  · skip
    refine r_iload_n 5 hZ 1 dX3_isOldNode_4 rfl rfl rfl ?_
    refine r_aload_n 6 hZ 0 dX3_isOldNode_5 rfl rfl rfl ?_
    refine g_X3_31 9 hZ dX3_isOldNode_6 rfl ?_
    rw [hN]
    refine r_icmp_ge 26 12 hZ dX3_isOldNode_9 (by decide) rfl (fun c_9 => ?_) (fun c_9 => ?_)
    · skip
      have cc : ¬ (okL x N ∧ σ 1 (ix x) = 1) := fun q => hl_big (m := N) (by omega) c_9 q.1
      refine r_iconst (v := 0) 27 hZ dX3_isOldNode_26 rfl (by decide) ?_
      exact hret _ _ _ _ dX3_isOldNode_27 (by first | exact (bI_t cc).symm | exact (bI_f cc).symm) rfl
    · skip
      have c := hl_ok (m := N) (by omega) c_1 c_9
      refine r_aload_n 13 hZ 0 dX3_isOldNode_12 rfl rfl rfl ?_
      refine g_X3_9 16 hZ dX3_isOldNode_13 rfl ?_
      refine r_iload_n 17 hZ 1 dX3_isOldNode_16 rfl rfl rfl ?_
      refine a_c1 18 hZ (okL_in (okL_mono c hN2) (by decide)) dX3_isOldNode_17 rfl ?_
      refine r_iconst (v := 1) 19 hZ dX3_isOldNode_18 rfl (by decide) ?_
      refine r_icmp_ne 26 22 hZ dX3_isOldNode_19 (by decide) rfl (fun c_19 => ?_) (fun c_19 => ?_)
      · skip
        have cc : ¬ (okL x N ∧ σ 1 (ix x) = 1) := fun q => c_19 q.2
        refine r_iconst (v := 0) 27 hZ dX3_isOldNode_26 rfl (by decide) ?_
        exact hret _ _ _ _ dX3_isOldNode_27 (by first | exact (bI_t cc).symm | exact (bI_f cc).symm) rfl
      · skip
        have cc : okL x N ∧ σ 1 (ix x) = 1 := ⟨c, c_19⟩
        refine r_iconst (v := 1) 23 hZ dX3_isOldNode_22 rfl (by decide) ?_
        refine r_goto 27 hZ dX3_isOldNode_23 (by decide) ?_
        exact hret _ _ _ _ dX3_isOldNode_27 (by first | exact (bI_t cc).symm | exact (bI_f cc).symm) rfl
set_option maxHeartbeats 4000000 in
set_option maxRecDepth 100000 in
theorem c_X3_firstOld (l : Launch) (g : va_G) (y : Nat → ClassId) (ad : Nat → Nat) (σ : Nat → Nat → Int32) {I : Nat} (hI : σ 0 2 = nI I) : w_C l g y yX3_firstOld cX3_firstOld 1 (some .int) 0 [.ref (ad 1)] (cw ad y σ) (some (.int (nI (1 + I)))) (cw ad y σ) := by
  refine w_ofI (lv0 := [(0, .ref (ad 1))]) (by decide +kernel) (Nat.le_of_ble_eq_true rfl) rfl (rfl) ?_
  intro Z hZ hret
  refine r_iconst (v := 1) 1 hZ dX3_firstOld_0 rfl (by decide) ?_
  refine r_aload_n 2 hZ 0 dX3_firstOld_1 rfl rfl rfl ?_
  refine g_X3_35 5 hZ dX3_firstOld_2 rfl ?_
  refine r_iadd 6 hZ dX3_firstOld_5 rfl ?_
  rw [hI]
  exact hret _ _ _ _ dX3_firstOld_6 (nI_add 1 I) rfl
set_option maxHeartbeats 4000000 in
set_option maxRecDepth 100000 in
theorem c_X3_owned (l : Launch) (g : va_G) (y : Nat → ClassId) (ad : Nat → Nat) (σ : Nat → Nat → Int32) {I O : Nat} (hI : σ 0 2 = nI I) (hO : σ 0 3 = nI O) : w_C l g y yX3_owned cX3_owned 1 (some .int) 0 [.ref (ad 1)] (cw ad y σ) (some (.int (nI (1 + I + O)))) (cw ad y σ) := by
  refine w_ofI (lv0 := [(0, .ref (ad 1))]) (by decide +kernel) (Nat.le_of_ble_eq_true rfl) rfl (rfl) ?_
  intro Z hZ hret
  refine r_iconst (v := 1) 1 hZ dX3_owned_0 rfl (by decide) ?_
  refine r_aload_n 2 hZ 0 dX3_owned_1 rfl rfl rfl ?_
  refine g_X3_35 5 hZ dX3_owned_2 rfl ?_
  refine r_iadd 6 hZ dX3_owned_5 rfl ?_
  refine r_aload_n 7 hZ 0 dX3_owned_6 rfl rfl rfl ?_
  refine g_X3_38 10 hZ dX3_owned_7 rfl ?_
  refine r_iadd 11 hZ dX3_owned_10 rfl ?_
  rw [hI, hO]
  exact hret _ _ _ _ dX3_owned_11 (by rw [show (1 : Int32) = nI 1 from rfl, nI_add, nI_add]) rfl
set_option maxHeartbeats 4000000 in
set_option maxRecDepth 100000 in
theorem c_X3_ownLiteral (l : Launch) (g : va_G) (y : Nat → ClassId) (ad : Nat → Nat) (σ : Nat → Nat → Int32) {n : Nat} (hn : n < 28) (hw : okL (σ 6 (n / 2)) 38) : w_C l g y yX3_ownLiteral cX3_ownLiteral 2 (some .int) 0 [.ref (ad 1), .int (nI n)] (cw ad y σ) (some (.int (nI (2 * ix (σ 6 (n / 2)) + n % 2)))) (cw ad y σ) := by
  refine w_ofI (lv0 := [(0, .ref (ad 1)), (1, .int (nI n))]) (by decide +kernel) (Nat.le_of_ble_eq_true rfl) rfl (rfl) ?_
  intro Z hZ hret
  have hci := nI_clamp (n := n / 2) (by omega)
  refine r_iconst (v := 2) 1 hZ dX3_ownLiteral_0 rfl (by decide) ?_
  refine r_aload_n 2 hZ 0 dX3_ownLiteral_1 rfl rfl rfl ?_
  refine g_X3_28 5 hZ dX3_ownLiteral_2 rfl ?_
  refine r_iload_n 6 hZ 1 dX3_ownLiteral_5 rfl rfl rfl ?_
  refine r_iconst (v := 1) 7 hZ dX3_ownLiteral_6 rfl (by decide) ?_
  refine r_ishr 8 hZ dX3_ownLiteral_7 rfl ?_
  rw [sh1 (by omega)]
  refine a_c6 9 hZ (by first | assumption | exact vp_in_nI (by omega) (by decide) | (unfold vp_in; decide)) dX3_ownLiteral_8 rfl ?_
  rw [hci, hw.1]
  refine r_imul 10 hZ dX3_ownLiteral_9 rfl ?_
  rw [nI_2]
  refine r_iload_n 11 hZ 1 dX3_ownLiteral_10 rfl rfl rfl ?_
  refine r_iconst (v := 1) 12 hZ dX3_ownLiteral_11 rfl (by decide) ?_
  refine r_iand 13 hZ dX3_ownLiteral_12 rfl ?_
  rw [an1 (by omega)]
  refine r_iadd 14 hZ dX3_ownLiteral_13 rfl ?_
  rw [nI_add]
  exact hret _ _ _ _ dX3_ownLiteral_14 rfl rfl
set_option maxHeartbeats 4000000 in
set_option maxRecDepth 100000 in
theorem c_X3_reset (l : Launch) (g : va_G) (y : Nat → ClassId) (ad : Nat → Nat) (σ : Nat → Nat → Int32)  : w_C l g y yX3_reset cX3_reset 1 none 0 [.ref (ad 1)] (cw ad y σ) none (cw ad y (up (up (up (up σ 0 1 1) 0 2 0) 0 3 0) 0 4 0)) := by
  refine w_ofV (lv0 := [(0, .ref (ad 1))]) (by decide +kernel) (Nat.le_of_ble_eq_true rfl) rfl ?_
  intro Z hZ hret
  refine r_aload_n 1 hZ 0 dX3_reset_0 rfl rfl rfl ?_
  refine r_iconst (v := 1) 2 hZ dX3_reset_1 rfl (by decide) ?_
  refine p_X3_31 5 hZ dX3_reset_2 rfl ?_
  refine r_aload_n 6 hZ 0 dX3_reset_5 rfl rfl rfl ?_
  refine r_iconst (v := 0) 7 hZ dX3_reset_6 rfl (by decide) ?_
  refine p_X3_35 10 hZ dX3_reset_7 rfl ?_
  refine r_aload_n 11 hZ 0 dX3_reset_10 rfl rfl rfl ?_
  refine r_iconst (v := 0) 12 hZ dX3_reset_11 rfl (by decide) ?_
  refine p_X3_38 15 hZ dX3_reset_12 rfl ?_
  refine r_aload_n 16 hZ 0 dX3_reset_15 rfl rfl rfl ?_
  refine r_iconst (v := 0) 17 hZ dX3_reset_16 rfl (by decide) ?_
  refine p_X3_41 20 hZ dX3_reset_17 rfl ?_
  exact hret _ _ _ dX3_reset_20 rfl
set_option maxHeartbeats 4000000 in
set_option maxRecDepth 100000 in
theorem c_X1_put (l : Launch) (g : va_G) (y : Nat → ClassId) (ad : Nat → Nat) (σ : Nat → Nat → Int32) {j : Nat} (hj : j < 42) (a b c : Int32) : w_C l g y yX1_put cX1_put 4 none 0 [.ref (ad (25 + j)), .int a, .int b, .int c] (cw ad y σ) none (cw ad y (up (up (up σ 17 j a) 18 j b) 19 j c)) := by
  refine w_ofV (lv0 := [(0, .ref (ad (25 + j))), (1, .int a), (2, .int b), (3, .int c)]) (by decide +kernel) (Nat.le_of_ble_eq_true rfl) rfl ?_
  intro Z hZ hret
  refine r_aload_n 1 hZ 0 dX1_put_0 rfl rfl rfl ?_
  refine r_iload_n 2 hZ 1 dX1_put_1 rfl rfl rfl ?_
  refine p_X1_7 5 hZ (by first | assumption | omega) dX1_put_2 rfl ?_
  refine r_aload_n 6 hZ 0 dX1_put_5 rfl rfl rfl ?_
  refine r_iload_n 7 hZ 2 dX1_put_6 rfl rfl rfl ?_
  refine p_X1_13 10 hZ (by first | assumption | omega) dX1_put_7 rfl ?_
  refine r_aload_n 11 hZ 0 dX1_put_10 rfl rfl rfl ?_
  refine r_iload_n 12 hZ 3 dX1_put_11 rfl rfl rfl ?_
  refine p_X1_16 15 hZ (by first | assumption | omega) dX1_put_12 rfl ?_
  exact hret _ _ _ dX1_put_15 rfl
set_option maxHeartbeats 4000000 in
set_option maxRecDepth 100000 in
theorem c_X0_putAtOrigin (l : Launch) (g : va_G) (y : Nat → ClassId) (ad : Nat → Nat) (σ : Nat → Nat → Int32) {j : Nat} (hj : j < 38) : w_C l g y yX0_putAtOrigin cX0_putAtOrigin 2 none 0 [.ref (ad 3), .int (nI j)] (cw ad y σ) none (cw ad y (up (up σ 11 j 0) 12 j 0)) := by
  refine w_ofV (lv0 := [(0, .ref (ad 3)), (1, .int (nI j))]) (by decide +kernel) (Nat.le_of_ble_eq_true rfl) rfl ?_
  intro Z hZ hret
  have hci := nI_clamp (n := j) (by omega)
  refine r_aload_n 1 hZ 0 dX0_putAtOrigin_0 rfl rfl rfl ?_
  refine g_X0_9 4 hZ dX0_putAtOrigin_1 rfl ?_
  refine r_iload_n 5 hZ 1 dX0_putAtOrigin_4 rfl rfl rfl ?_
  refine r_iconst (v := 0) 6 hZ dX0_putAtOrigin_5 rfl (by decide) ?_
  refine s_c11 7 hZ (by first | assumption | exact vp_in_nI (by omega) (by decide) | (unfold vp_in; decide)) dX0_putAtOrigin_6 rfl ?_
  rw [hci]
  refine r_aload_n 8 hZ 0 dX0_putAtOrigin_7 rfl rfl rfl ?_
  refine g_X0_15 11 hZ dX0_putAtOrigin_8 rfl ?_
  refine r_iload_n 12 hZ 1 dX0_putAtOrigin_11 rfl rfl rfl ?_
  refine r_iconst (v := 0) 13 hZ dX0_putAtOrigin_12 rfl (by decide) ?_
  refine s_c12 14 hZ (by first | assumption | exact vp_in_nI (by omega) (by decide) | (unfold vp_in; decide)) dX0_putAtOrigin_13 rfl ?_
  rw [hci]
  exact hret _ _ _ dX0_putAtOrigin_14 rfl
set_option maxHeartbeats 4000000 in
set_option maxRecDepth 100000 in
theorem c_X0_moveNode (l : Launch) (g : va_G) (y : Nat → ClassId) (ad : Nat → Nat) (σ : Nat → Nat → Int32) {j : Nat} (hj : j < 38) (a b : Int32) : w_C l g y yX0_moveNode cX0_moveNode 5 (some .boolean) 0 [.ref (ad 3), .int (nI j), .int a, .int b] (cw ad y σ) (some (.int (bI (¬ (σ 11 j = a ∧ σ 12 j = b))))) (cw ad y (up (up σ 11 j a) 12 j b)) := by
  refine w_ofI (lv0 := [(0, .ref (ad 3)), (1, .int (nI j)), (2, .int a), (3, .int b)]) (by decide +kernel) (Nat.le_of_ble_eq_true rfl) rfl (bI_nar _) ?_
  intro Z hZ hret
  have hci := nI_clamp (n := j) (by omega)
  refine r_aload_n 1 hZ 0 dX0_moveNode_0 rfl rfl rfl ?_
  refine g_X0_9 4 hZ dX0_moveNode_1 rfl ?_
  refine r_iload_n 5 hZ 1 dX0_moveNode_4 rfl rfl rfl ?_
  refine a_c11 6 hZ (by first | assumption | exact vp_in_nI (by omega) (by decide) | (unfold vp_in; decide)) dX0_moveNode_5 rfl ?_
  rw [hci]
  refine r_iload_n 7 hZ 2 dX0_moveNode_6 rfl rfl rfl ?_
  refine r_icmp_ne 20 10 hZ dX0_moveNode_7 (by decide) rfl (fun c_7 => ?_) (fun c_7 => ?_)
  · skip
    refine r_iconst (v := 1) 21 hZ dX0_moveNode_20 rfl (by decide) ?_
    refine r_goto 25 hZ dX0_moveNode_21 (by decide) ?_
    refine r_istN (q := 0) 27 [(0, _), (1, _), (2, _), (3, _), (4, _)] hZ dX0_moveNode_25 rfl (by decide) rfl rfl ?_
    refine r_aload_n 28 hZ 0 dX0_moveNode_27 rfl rfl rfl ?_
    refine g_X0_9 31 hZ dX0_moveNode_28 rfl ?_
    refine r_iload_n 32 hZ 1 dX0_moveNode_31 rfl rfl rfl ?_
    refine r_iload_n 33 hZ 2 dX0_moveNode_32 rfl rfl rfl ?_
    refine s_c11 34 hZ (by first | assumption | exact vp_in_nI (by omega) (by decide) | (unfold vp_in; decide)) dX0_moveNode_33 rfl ?_
    rw [hci]
    refine r_aload_n 35 hZ 0 dX0_moveNode_34 rfl rfl rfl ?_
    refine g_X0_15 38 hZ dX0_moveNode_35 rfl ?_
    refine r_iload_n 39 hZ 1 dX0_moveNode_38 rfl rfl rfl ?_
    refine r_iload_n 40 hZ 3 dX0_moveNode_39 rfl rfl rfl ?_
    refine s_c12 41 hZ (by first | assumption | exact vp_in_nI (by omega) (by decide) | (unfold vp_in; decide)) dX0_moveNode_40 rfl ?_
    rw [hci]
    refine r_iload 43 hZ 4 dX0_moveNode_41 rfl rfl ?_
    exact hret _ _ _ _ dX0_moveNode_43 (by first | exact (bI_t (fun q => c_7 q.1)).symm | exact (bI_t (fun q => c_17 q.2)).symm | exact (bI_f (fun q => q ⟨c_7, c_17⟩)).symm) rfl
  · skip
    refine r_aload_n 11 hZ 0 dX0_moveNode_10 rfl rfl rfl ?_
    refine g_X0_15 14 hZ dX0_moveNode_11 rfl ?_
    refine r_iload_n 15 hZ 1 dX0_moveNode_14 rfl rfl rfl ?_
    refine a_c12 16 hZ (by first | assumption | exact vp_in_nI (by omega) (by decide) | (unfold vp_in; decide)) dX0_moveNode_15 rfl ?_
    rw [hci]
    refine r_iload_n 17 hZ 3 dX0_moveNode_16 rfl rfl rfl ?_
    refine r_icmp_eq 24 20 hZ dX0_moveNode_17 (by decide) rfl (fun c_17 => ?_) (fun c_17 => ?_)
    · skip
      refine r_iconst (v := 0) 25 hZ dX0_moveNode_24 rfl (by decide) ?_
      refine r_istN (q := 0) 27 [(0, _), (1, _), (2, _), (3, _), (4, _)] hZ dX0_moveNode_25 rfl (by decide) rfl rfl ?_
      refine r_aload_n 28 hZ 0 dX0_moveNode_27 rfl rfl rfl ?_
      refine g_X0_9 31 hZ dX0_moveNode_28 rfl ?_
      refine r_iload_n 32 hZ 1 dX0_moveNode_31 rfl rfl rfl ?_
      refine r_iload_n 33 hZ 2 dX0_moveNode_32 rfl rfl rfl ?_
      refine s_c11 34 hZ (by first | assumption | exact vp_in_nI (by omega) (by decide) | (unfold vp_in; decide)) dX0_moveNode_33 rfl ?_
      rw [hci]
      refine r_aload_n 35 hZ 0 dX0_moveNode_34 rfl rfl rfl ?_
      refine g_X0_15 38 hZ dX0_moveNode_35 rfl ?_
      refine r_iload_n 39 hZ 1 dX0_moveNode_38 rfl rfl rfl ?_
      refine r_iload_n 40 hZ 3 dX0_moveNode_39 rfl rfl rfl ?_
      refine s_c12 41 hZ (by first | assumption | exact vp_in_nI (by omega) (by decide) | (unfold vp_in; decide)) dX0_moveNode_40 rfl ?_
      rw [hci]
      refine r_iload 43 hZ 4 dX0_moveNode_41 rfl rfl ?_
      exact hret _ _ _ _ dX0_moveNode_43 (by first | exact (bI_t (fun q => c_7 q.1)).symm | exact (bI_t (fun q => c_17 q.2)).symm | exact (bI_f (fun q => q ⟨c_7, c_17⟩)).symm) rfl
    · skip
      refine r_iconst (v := 1) 21 hZ dX0_moveNode_20 rfl (by decide) ?_
      refine r_goto 25 hZ dX0_moveNode_21 (by decide) ?_
      refine r_istN (q := 0) 27 [(0, _), (1, _), (2, _), (3, _), (4, _)] hZ dX0_moveNode_25 rfl (by decide) rfl rfl ?_
      refine r_aload_n 28 hZ 0 dX0_moveNode_27 rfl rfl rfl ?_
      refine g_X0_9 31 hZ dX0_moveNode_28 rfl ?_
      refine r_iload_n 32 hZ 1 dX0_moveNode_31 rfl rfl rfl ?_
      refine r_iload_n 33 hZ 2 dX0_moveNode_32 rfl rfl rfl ?_
      refine s_c11 34 hZ (by first | assumption | exact vp_in_nI (by omega) (by decide) | (unfold vp_in; decide)) dX0_moveNode_33 rfl ?_
      rw [hci]
      refine r_aload_n 35 hZ 0 dX0_moveNode_34 rfl rfl rfl ?_
      refine g_X0_15 38 hZ dX0_moveNode_35 rfl ?_
      refine r_iload_n 39 hZ 1 dX0_moveNode_38 rfl rfl rfl ?_
      refine r_iload_n 40 hZ 3 dX0_moveNode_39 rfl rfl rfl ?_
      refine s_c12 41 hZ (by first | assumption | exact vp_in_nI (by omega) (by decide) | (unfold vp_in; decide)) dX0_moveNode_40 rfl ?_
      rw [hci]
      refine r_iload 43 hZ 4 dX0_moveNode_41 rfl rfl ?_
      exact hret _ _ _ _ dX0_moveNode_43 (by first | exact (bI_t (fun q => c_7 q.1)).symm | exact (bI_t (fun q => c_17 q.2)).symm | exact (bI_f (fun q => q ⟨c_7, c_17⟩)).symm) rfl
set_option maxHeartbeats 4000000 in
set_option maxRecDepth 100000 in
theorem c_X0_addSpare (l : Launch) (g : va_G) (y : Nat → ClassId) (ad : Nat → Nat) (σ : Nat → Nat → Int32) {S : Nat} (hS : σ 0 6 = nI S) (hS6 : S < 6) (a b : Int32) : w_C l g y yX0_addSpare cX0_addSpare 3 (some .int) 0 [.ref (ad 3), .int a, .int b] (cw ad y σ) (some (.int (nI S))) (cw ad y (up (up (up σ 13 S a) 14 S b) 0 6 (nI (S + 1)))) := by
  refine w_ofI (lv0 := [(0, .ref (ad 3)), (1, .int a), (2, .int b)]) (by decide +kernel) (Nat.le_of_ble_eq_true rfl) rfl (rfl) ?_
  intro Z hZ hret
  have hci := nI_clamp (n := S) (by omega)
  have hG2 : ∀ v, up σ 13 S v 0 6 = nI S := fun v => hS
  have hG3 : ∀ v w, up (up σ 13 S v) 14 S w 0 6 = nI S := fun v w => hS
  refine r_aload_n 1 hZ 0 dX0_addSpare_0 rfl rfl rfl ?_
  refine g_X0_18 4 hZ dX0_addSpare_1 rfl ?_
  refine r_aload_n 5 hZ 0 dX0_addSpare_4 rfl rfl rfl ?_
  refine g_X0_24 8 hZ dX0_addSpare_5 rfl ?_
  rw [hS]
  refine r_iload_n 9 hZ 1 dX0_addSpare_8 rfl rfl rfl ?_
  refine s_c13 10 hZ (by first | assumption | exact vp_in_nI (by omega) (by decide) | (unfold vp_in; decide)) dX0_addSpare_9 rfl ?_
  rw [hci]
  refine r_aload_n 11 hZ 0 dX0_addSpare_10 rfl rfl rfl ?_
  refine g_X0_21 14 hZ dX0_addSpare_11 rfl ?_
  refine r_aload_n 15 hZ 0 dX0_addSpare_14 rfl rfl rfl ?_
  refine g_X0_24 18 hZ dX0_addSpare_15 rfl ?_
  rw [hG2]
  refine r_iload_n 19 hZ 2 dX0_addSpare_18 rfl rfl rfl ?_
  refine s_c14 20 hZ (by first | assumption | exact vp_in_nI (by omega) (by decide) | (unfold vp_in; decide)) dX0_addSpare_19 rfl ?_
  rw [hci]
  refine r_aload_n 21 hZ 0 dX0_addSpare_20 rfl rfl rfl ?_
  refine r_dup 22 hZ dX0_addSpare_21 rfl rfl ?_
  refine g_X0_24 25 hZ dX0_addSpare_22 rfl ?_
  rw [hG3]
  refine r_iconst (v := 1) 26 hZ dX0_addSpare_25 rfl (by decide) ?_
  refine r_iadd 27 hZ dX0_addSpare_26 rfl ?_
  rw [nI_1]
  refine p_X0_24 30 hZ dX0_addSpare_27 rfl ?_
  refine r_aload_n 31 hZ 0 dX0_addSpare_30 rfl rfl rfl ?_
  refine g_X0_24 34 hZ dX0_addSpare_31 rfl ?_
  refine r_iconst (v := 1) 35 hZ dX0_addSpare_34 rfl (by decide) ?_
  refine r_isub 36 hZ dX0_addSpare_35 rfl ?_
  exact hret _ _ _ _ dX0_addSpare_36 (show nI (S + 1) - 1 = nI S from nI_pred S) rfl
