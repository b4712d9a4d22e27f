/-! the reference: what its methods do to its store -/
abbrev rtT : Type := Nat → Nat → Int64
theorem dv2 {L : Nat} (h : L < 2 ^ 31) : nI L / 2 = nI (L / 2) := by rw [show (2 : Int32) = nI 2 from rfl]; exact pk_div h (by decide) (by decide)
theorem cl_odd {f : Nat → Int32} {L : Nat} (h : L % 2 = 1) : f (L / 2) ^^^ (-1) = cl f L := (if_pos h).symm
theorem cl_even {f : Nat → Int32} {L : Nat} (h : ¬ L % 2 = 1) : f (L / 2) = cl f L := (if_neg h).symm
theorem nI_is1 {n : Nat} (h : n < 2 ^ 31) (e : nI n = 1) : n = 1 := nI_eqq h (by decide) (e.trans rfl)
def rdP (τ : stT) (k : Nat) : Prop := ¬ cl (τ 4) (ix (τ 6 k)) = cl (τ 4) (ix (τ 7 k))
def Rs (τ : stT) (N G : Nat) : Prop := τ 0 1 = nI N ∧ τ 0 5 = nI G ∧ N ≤ 38 ∧ G ≤ 4 ∧ (∀ j, j < N → τ 1 j = 2 ∨ τ 1 j = 3 → okL (τ 2 j) 80 ∧ okL (τ 3 j) 80) ∧ (∀ i, i < G → okL (τ 6 i) 80) ∧ (∀ i, i < G → okL (τ 7 i) 80)
noncomputable def wkF (τ : stT) (j : Nat) : stT := @ite _ (τ 1 j = 2 ∨ τ 1 j = 3) (Classical.propDecidable _) (up τ 4 j (cl (τ 4) (ix (τ 2 j)) &&& cl (τ 4) (ix (τ 3 j)))) τ
theorem wkF_k (τ : stT) (j k : Nat) (h : k ≠ 4) : wkF τ j k = τ k := by
  unfold wkF
  split
  · show (if k = 4 then _ else _) = _
    rw [if_neg h]
  · rfl
noncomputable def woF (τ : stT) (b : Nat) : Nat → stT
  | 0 => τ
  | i + 1 => @ite _ (τ 1 (b + i) = 2) (Classical.propDecidable _) (wkF (woF τ b i) (b + i)) (woF τ b i)
theorem woF_t {τ : stT} {b i : Nat} (h : τ 1 (b + i) = 2) : woF τ b (i + 1) = wkF (woF τ b i) (b + i) := if_pos h
theorem woF_f {τ : stT} {b i : Nat} (h : ¬ τ 1 (b + i) = 2) : woF τ b (i + 1) = woF τ b i := if_neg h
theorem woF_k (τ : stT) (b k : Nat) (h : k ≠ 4) : ∀ i, woF τ b i k = τ k
  | 0 => rfl
  | i + 1 => by
    by_cases hs : τ 1 (b + i) = 2
    · rw [woF_t hs, wkF_k _ _ _ h, woF_k τ b k h i]
    · rw [woF_f hs, woF_k τ b k h i]
theorem Rs.congr {τ t : stT} {N G : Nat} (h : Rs τ N G) (e0 : t 0 = τ 0) (e1 : t 1 = τ 1) (e2 : t 2 = τ 2) (e3 : t 3 = τ 3) (e6 : t 6 = τ 6) (e7 : t 7 = τ 7) : Rs t N G := by
  unfold Rs at *
  rw [e0, e1, e2, e3, e6, e7]
  exact h
theorem Rs.wo {τ : stT} {N G : Nat} (h : Rs τ N G) (b i : Nat) : Rs (woF τ b i) N G := h.congr (woF_k τ b 0 (by decide) i) (woF_k τ b 1 (by decide) i) (woF_k τ b 2 (by decide) i) (woF_k τ b 3 (by decide) i) (woF_k τ b 6 (by decide) i) (woF_k τ b 7 (by decide) i)
theorem okL_up {f : Nat → Int32} {j m k : Nat} {x : Int32} (hx : okL x m) (h : okL (f k) m) : okL (upd f j x k) m := by
  unfold upd
  split
  · exact hx
  · exact h
theorem Rs.ed {τ : stT} {N G : Nat} (h : Rs τ N G) (m : Nat) {x z : Int32} (hx : okL x 80) (hz : okL z 80) : Rs (up (up τ 2 m x) 3 m z) N G := by
  obtain ⟨h1, h2, h3, h4, h5, h6, h7⟩ := h
  exact ⟨h1, h2, h3, h4, fun j hj hs => ⟨okL_up hx (h5 j hj hs).1, okL_up hz (h5 j hj hs).2⟩, h6, h7⟩
theorem Rs.pt {τ : stT} {N G : Nat} (h : Rs τ N G) (j : Nat) (x z w : Int32) : Rs (up (up (up τ 8 j x) 9 j z) 10 j w) N G := h
set_option maxHeartbeats 4000000 in
set_option maxRecDepth 100000 in
theorem c_X8_thrown (l : Launch) (g : va_G) (y : Nat → ClassId) (ad : Nat → Nat) (τ : Nat → Nat → Int32) (ρ : Nat → Nat → Int64)  : w_C l g y yX8_thrown cX8_thrown 1 (some .int) 0 [.ref (ad 0)] (rw ad y τ ρ) (some (.int (τ 0 0))) (rw ad y τ ρ) := by
  refine w_ofI (lv0 := [(0, .ref (ad 0))]) (by decide +kernel) (Nat.le_of_ble_eq_true rfl) rfl (rfl) ?_
  intro Z hZ hret
  refine r_aload_n 1 hZ 0 dX8_thrown_0 rfl rfl rfl ?_
  refine g_X8_72 4 hZ dX8_thrown_1 rfl ?_
  exact hret _ _ _ _ dX8_thrown_4 rfl rfl
set_option maxHeartbeats 4000000 in
set_option maxRecDepth 100000 in
theorem c_X8_isIn (l : Launch) (g : va_G) (y : Nat → ClassId) (ad : Nat → Nat) (τ : Nat → Nat → Int32) (ρ : Nat → Nat → Int64) (x : Int32) {m : Nat} (hm : m < 2 ^ 31) : w_C l g y yX8_isIn cX8_isIn 2 (some .boolean) 0 [.int x, .int (nI m)] (rw ad y τ ρ) (some (.int (bI (okL x m)))) (rw ad y τ ρ) := by
  refine w_ofI (lv0 := [(0, .int x), (1, .int (nI m))]) (by decide +kernel) (Nat.le_of_ble_eq_true rfl) rfl (bI_nar _) ?_
  intro Z hZ hret
  refine r_iload_n 1 hZ 0 dX8_isIn_0 rfl rfl rfl ?_
  refine r_if_lt 13 4 hZ dX8_isIn_1 (by decide) rfl (fun c_1 => ?_) (fun c_1 => ?_)
  · skip
    have c : ¬ okL x m := hl_neg c_1 m
    refine r_iconst (v := 0) 14 hZ dX8_isIn_13 rfl (by decide) ?_
    exact hret _ _ _ _ dX8_isIn_14 (by first | exact (bI_t c).symm | exact (bI_f c).symm) rfl
  · skip
    refine r_iload_n 5 hZ 0 dX8_isIn_4 rfl rfl rfl ?_
    refine r_iload_n 6 hZ 1 dX8_isIn_5 rfl rfl rfl ?_
    refine r_icmp_ge 13 9 hZ dX8_isIn_6 (by decide) rfl (fun c_6 => ?_) (fun c_6 => ?_)
    · skip
      have c : ¬ okL x m := hl_big hm c_6
      refine r_iconst (v := 0) 14 hZ dX8_isIn_13 rfl (by decide) ?_
      exact hret _ _ _ _ dX8_isIn_14 (by first | exact (bI_t c).symm | exact (bI_f c).symm) rfl
    · skip
      have c : okL x m := hl_ok hm c_1 c_6
      refine r_iconst (v := 1) 10 hZ dX8_isIn_9 rfl (by decide) ?_
      refine r_goto 14 hZ dX8_isIn_10 (by decide) ?_
      exact hret _ _ _ _ dX8_isIn_14 (by first | exact (bI_t c).symm | exact (bI_f c).symm) rfl
set_option maxHeartbeats 4000000 in
set_option maxRecDepth 100000 in
theorem c_X8_isLiteral (l : Launch) (g : va_G) (y : Nat → ClassId) (ad : Nat → Nat) (τ : Nat → Nat → Int32) (ρ : Nat → Nat → Int64) (x : Int32) {N : Nat} (hN : τ 0 1 = nI N) (hN2 : N ≤ 38) : w_C l g y yX8_isLiteral cX8_isLiteral 2 (some .boolean) 1 [.ref (ad 0), .int x] (rw ad y τ ρ) (some (.int (bI (okL x (2 * N))))) (rw ad y τ ρ) := by
  refine w_ofI (lv0 := [(0, .ref (ad 0)), (1, .int x)]) (by decide +kernel) (Nat.le_of_ble_eq_true rfl) rfl (bI_nar _) ?_
  intro Z hZ hret
  refine r_iload_n 1 hZ 1 dX8_isLiteral_0 rfl rfl rfl ?_
  refine r_iconst (v := 2) 2 hZ dX8_isLiteral_1 rfl (by decide) ?_
  refine r_aload_n 3 hZ 0 dX8_isLiteral_2 rfl rfl rfl ?_
  refine g_X8_76 6 hZ dX8_isLiteral_3 rfl ?_
  refine w_eqI (hN) ?_
  refine r_imul 7 hZ dX8_isLiteral_6 rfl ?_
  rw [nI_2]
  refine r_callSI (c_X8_isIn l g y ad τ ρ x (m := 2 * N) (by omega)) wM_X8_isIn wL_X8_79 hZ rfl ⟨by decide, by decide⟩ rfl rfl dX8_isLiteral_7 ?_
  exact hret _ _ _ _ dX8_isLiteral_10 rfl rfl
set_option maxHeartbeats 4000000 in
set_option maxRecDepth 100000 in
theorem c_X8_isOf (l : Launch) (g : va_G) (y : Nat → ClassId) (ad : Nat → Nat) (τ : Nat → Nat → Int32) (ρ : Nat → Nat → Int64) {x : Int32} (w : Int32) (hL : okL x 80) : w_C l g y yX8_isOf cX8_isOf 3 (some .boolean) 0 [.ref (ad 0), .int x, .int w] (rw ad y τ ρ) (some (.int (bI (τ 1 (ix x / 2) = w)))) (rw ad y τ ρ) := by
  refine w_ofI (lv0 := [(0, .ref (ad 0)), (1, .int x), (2, .int w)]) (by decide +kernel) (Nat.le_of_ble_eq_true rfl) rfl (bI_nar _) ?_
  intro Z hZ hret
  obtain ⟨L, hx⟩ : ∃ L, L = ix x := ⟨_, rfl⟩
  obtain ⟨hx1, hx2⟩ := hL
  rw [← hx] at hx1 hx2 hret
  subst hx1
  have hci := nI_clamp (n := L / 2) (by omega)
  refine r_aload_n 1 hZ 0 dX8_isOf_0 rfl rfl rfl ?_
  refine g_X8_7 4 hZ dX8_isOf_1 rfl ?_
  refine r_iload_n 5 hZ 1 dX8_isOf_4 rfl rfl rfl ?_
  refine r_iconst (v := 2) 6 hZ dX8_isOf_5 rfl (by decide) ?_
  refine r_idiv 7 hZ dX8_isOf_6 rfl (by decide) ?_
  rw [dv2 (by omega)]
  refine a_r1 8 hZ (by first | assumption | exact vp_in_nI (by omega) (by decide) | (unfold vp_in; decide)) dX8_isOf_7 rfl ?_
  rw [hci]
  refine r_iload_n 9 hZ 2 dX8_isOf_8 rfl rfl rfl ?_
  refine r_icmp_ne 16 12 hZ dX8_isOf_9 (by decide) rfl (fun c_9 => ?_) (fun c_9 => ?_)
  · skip
    refine r_iconst (v := 0) 17 hZ dX8_isOf_16 rfl (by decide) ?_
    exact hret _ _ _ _ dX8_isOf_17 (by first | exact (bI_t c_9).symm | exact (bI_f c_9).symm) rfl
  · skip
    refine r_iconst (v := 1) 13 hZ dX8_isOf_12 rfl (by decide) ?_
    refine r_goto 17 hZ dX8_isOf_13 (by decide) ?_
    exact hret _ _ _ _ dX8_isOf_17 (by first | exact (bI_t c_9).symm | exact (bI_f c_9).symm) rfl
set_option maxHeartbeats 4000000 in
set_option maxRecDepth 100000 in
theorem c_X8_mayBe (l : Launch) (g : va_G) (y : Nat → ClassId) (ad : Nat → Nat) (τ : Nat → Nat → Int32) (ρ : Nat → Nat → Int64) {x : Int32} (hL : okL x 80) : w_C l g y yX8_mayBe cX8_mayBe 2 (some .boolean) 0 [.ref (ad 0), .int x] (rw ad y τ ρ) (some (.int (bI (¬ τ 1 (ix x / 2) = 3)))) (rw ad y τ ρ) := by
  refine w_ofI (lv0 := [(0, .ref (ad 0)), (1, .int x)]) (by decide +kernel) (Nat.le_of_ble_eq_true rfl) rfl (bI_nar _) ?_
  intro Z hZ hret
  obtain ⟨L, hx⟩ : ∃ L, L = ix x := ⟨_, rfl⟩
  obtain ⟨hx1, hx2⟩ := hL
  rw [← hx] at hx1 hx2 hret
  subst hx1
  have hci := nI_clamp (n := L / 2) (by omega)
  refine r_aload_n 1 hZ 0 dX8_mayBe_0 rfl rfl rfl ?_
  refine g_X8_7 4 hZ dX8_mayBe_1 rfl ?_
  refine r_iload_n 5 hZ 1 dX8_mayBe_4 rfl rfl rfl ?_
  refine r_iconst (v := 2) 6 hZ dX8_mayBe_5 rfl (by decide) ?_
  refine r_idiv 7 hZ dX8_mayBe_6 rfl (by decide) ?_
  rw [dv2 (by omega)]
  refine a_r1 8 hZ (by first | assumption | exact vp_in_nI (by omega) (by decide) | (unfold vp_in; decide)) dX8_mayBe_7 rfl ?_
  rw [hci]
  refine r_iconst (v := 3) 9 hZ dX8_mayBe_8 rfl (by decide) ?_
  refine r_icmp_eq 16 12 hZ dX8_mayBe_9 (by decide) rfl (fun c_9 => ?_) (fun c_9 => ?_)
  · skip
    refine r_iconst (v := 0) 17 hZ dX8_mayBe_16 rfl (by decide) ?_
    exact hret _ _ _ _ dX8_mayBe_17 (by first | exact (bI_t c_9).symm | exact (bI_f (fun q => q c_9)).symm) rfl
  · skip
    refine r_iconst (v := 1) 13 hZ dX8_mayBe_12 rfl (by decide) ?_
    refine r_goto 17 hZ dX8_mayBe_13 (by decide) ?_
    exact hret _ _ _ _ dX8_mayBe_17 (by first | exact (bI_t c_9).symm | exact (bI_f (fun q => q c_9)).symm) rfl
set_option maxHeartbeats 4000000 in
set_option maxRecDepth 100000 in
theorem c_X8_table (l : Launch) (g : va_G) (y : Nat → ClassId) (ad : Nat → Nat) (τ : Nat → Nat → Int32) (ρ : Nat → Nat → Int64) {x : Int32} (hL : okL x 80) : w_C l g y yX8_table cX8_table 3 (some .int) 0 [.ref (ad 0), .int x] (rw ad y τ ρ) (some (.int (cl (τ 4) (ix x)))) (rw ad y τ ρ) := by
  refine w_ofI (lv0 := [(0, .ref (ad 0)), (1, .int x)]) (by decide +kernel) (Nat.le_of_ble_eq_true rfl) rfl (rfl) ?_
  intro Z hZ hret
  obtain ⟨L, hx⟩ : ∃ L, L = ix x := ⟨_, rfl⟩
  obtain ⟨hx1, hx2⟩ := hL
  rw [← hx] at hx1 hx2 hret
  subst hx1
  have hci := nI_clamp (n := L / 2) (by omega)
  refine r_aload_n 1 hZ 0 dX8_table_0 rfl rfl rfl ?_
  refine g_X8_19 4 hZ dX8_table_1 rfl ?_
  refine r_iload_n 5 hZ 1 dX8_table_4 rfl rfl rfl ?_
  refine r_iconst (v := 2) 6 hZ dX8_table_5 rfl (by decide) ?_
  refine r_idiv 7 hZ dX8_table_6 rfl (by decide) ?_
  rw [dv2 (by omega)]
  refine a_r4 8 hZ (by first | assumption | exact vp_in_nI (by omega) (by decide) | (unfold vp_in; decide)) dX8_table_7 rfl ?_
  rw [hci]
  refine r_istnN 9 [(0, _), (1, _), (2, _)] hZ dX8_table_8 rfl rfl (by decide) rfl rfl ?_
  refine r_iload_n 10 hZ 1 dX8_table_9 rfl rfl rfl ?_
  refine r_iconst (v := 1) 11 hZ dX8_table_10 rfl (by decide) ?_
  refine r_iand 12 hZ dX8_table_11 rfl ?_
  rw [an1 (by omega)]
  refine r_iconst (v := 1) 13 hZ dX8_table_12 rfl (by decide) ?_
  refine r_icmp_ne 22 16 hZ dX8_table_13 (by decide) rfl (fun c_13 => ?_) (fun c_13 => ?_)
  · skip
    have c : ¬ L % 2 = 1 := fun q => c_13 (by rw [q]; rfl)
    refine r_iload_n 23 hZ 2 dX8_table_22 rfl rfl rfl ?_
    exact hret _ _ _ _ dX8_table_23 (by first | exact cl_odd c | exact cl_even c) rfl
  · skip
    have c : L % 2 = 1 := nI_is1 (by omega) c_13
    refine r_iload_n 17 hZ 2 dX8_table_16 rfl rfl rfl ?_
    refine r_iconst (v := (-1)) 18 hZ dX8_table_17 rfl (by decide) ?_
    refine r_ixor 19 hZ dX8_table_18 rfl ?_
    refine r_goto 23 hZ dX8_table_19 (by decide) ?_
    exact hret _ _ _ _ dX8_table_23 (by first | exact cl_odd c | exact cl_even c) rfl
set_option maxHeartbeats 4000000 in
set_option maxRecDepth 100000 in
theorem c_X8_work (l : Launch) (g : va_G) (y : Nat → ClassId) (ad : Nat → Nat) (τ : Nat → Nat → Int32) (ρ : Nat → Nat → Int64) {j : Nat} (hj : j < 40) (h : τ 1 j = 2 ∨ τ 1 j = 3 → okL (τ 2 j) 80 ∧ okL (τ 3 j) 80) : w_C l g y yX8_work cX8_work 2 none 1 [.ref (ad 0), .int (nI j)] (rw ad y τ ρ) none (rw ad y (wkF τ j) ρ) := by
  refine w_ofV (lv0 := [(0, .ref (ad 0)), (1, .int (nI j))]) (by decide +kernel) (Nat.le_of_ble_eq_true rfl) rfl ?_
  intro Z hZ hret
  have hcj := nI_clamp (n := j) (by omega)
  refine r_aload_n 1 hZ 0 dX8_work_0 rfl rfl rfl ?_
  refine g_X8_7 4 hZ dX8_work_1 rfl ?_
  refine r_iload_n 5 hZ 1 dX8_work_4 rfl rfl rfl ?_
  refine a_r1 6 hZ (by first | assumption | exact vp_in_nI (by omega) (by decide) | (unfold vp_in; decide)) dX8_work_5 rfl ?_
  rw [hcj]
  refine r_iconst (v := 2) 7 hZ dX8_work_6 rfl (by decide) ?_
  refine r_icmp_eq 20 10 hZ dX8_work_7 (by decide) rfl (fun c_7 => ?_) (fun c_7 => ?_)
  · skip
    have hs : τ 1 j = 2 ∨ τ 1 j = 3 := Or.inl c_7
    obtain ⟨k2, k3⟩ := h hs
    refine r_aload_n 21 hZ 0 dX8_work_20 rfl rfl rfl ?_
    refine g_X8_19 24 hZ dX8_work_21 rfl ?_
    refine r_iload_n 25 hZ 1 dX8_work_24 rfl rfl rfl ?_
    refine r_aload_n 26 hZ 0 dX8_work_25 rfl rfl rfl ?_
    refine r_aload_n 27 hZ 0 dX8_work_26 rfl rfl rfl ?_
    refine g_X8_13 30 hZ dX8_work_27 rfl ?_
    refine r_iload_n 31 hZ 1 dX8_work_30 rfl rfl rfl ?_
    refine a_r2 32 hZ (by first | assumption | exact vp_in_nI (by omega) (by decide) | (unfold vp_in; decide)) dX8_work_31 rfl ?_
    rw [hcj]
    refine r_callVI (c_X8_table l g y ad τ ρ k2) wM_X8_table wL_X8_83 hZ rfl ⟨by decide, by decide⟩ 0 8 rfl rfl rfl rfl dX8_work_32 ?_
    refine r_aload_n 36 hZ 0 dX8_work_35 rfl rfl rfl ?_
    refine r_aload_n 37 hZ 0 dX8_work_36 rfl rfl rfl ?_
    refine g_X8_16 40 hZ dX8_work_37 rfl ?_
    refine r_iload_n 41 hZ 1 dX8_work_40 rfl rfl rfl ?_
    refine a_r3 42 hZ (by first | assumption | exact vp_in_nI (by omega) (by decide) | (unfold vp_in; decide)) dX8_work_41 rfl ?_
    rw [hcj]
    refine r_callVI (c_X8_table l g y ad τ ρ k3) wM_X8_table wL_X8_83 hZ rfl ⟨by decide, by decide⟩ 0 8 rfl rfl rfl rfl dX8_work_42 ?_
    refine r_iand 46 hZ dX8_work_45 rfl ?_
    refine s_r4 47 hZ (by first | assumption | exact vp_in_nI (by omega) (by decide) | (unfold vp_in; decide)) dX8_work_46 rfl ?_
    try rw [hcj]
    exact hret _ _ _ dX8_work_47 (by unfold wkF; first | rw [if_pos hs] | rw [if_neg hs])
  · skip
    refine r_aload_n 11 hZ 0 dX8_work_10 rfl rfl rfl ?_
    refine g_X8_7 14 hZ dX8_work_11 rfl ?_
    refine r_iload_n 15 hZ 1 dX8_work_14 rfl rfl rfl ?_
    refine a_r1 16 hZ (by first | assumption | exact vp_in_nI (by omega) (by decide) | (unfold vp_in; decide)) dX8_work_15 rfl ?_
    rw [hcj]
    refine r_iconst (v := 3) 17 hZ dX8_work_16 rfl (by decide) ?_
    refine r_icmp_ne 47 20 hZ dX8_work_17 (by decide) rfl (fun c_17 => ?_) (fun c_17 => ?_)
    · skip
      have hs : ¬ (τ 1 j = 2 ∨ τ 1 j = 3) := fun q => q.elim c_7 c_17
      try rw [hcj]
      exact hret _ _ _ dX8_work_47 (by unfold wkF; first | rw [if_pos hs] | rw [if_neg hs])
    · skip
      have hs : τ 1 j = 2 ∨ τ 1 j = 3 := Or.inr c_17
      obtain ⟨k2, k3⟩ := h hs
      refine r_aload_n 21 hZ 0 dX8_work_20 rfl rfl rfl ?_
      refine g_X8_19 24 hZ dX8_work_21 rfl ?_
      refine r_iload_n 25 hZ 1 dX8_work_24 rfl rfl rfl ?_
      refine r_aload_n 26 hZ 0 dX8_work_25 rfl rfl rfl ?_
      refine r_aload_n 27 hZ 0 dX8_work_26 rfl rfl rfl ?_
      refine g_X8_13 30 hZ dX8_work_27 rfl ?_
      refine r_iload_n 31 hZ 1 dX8_work_30 rfl rfl rfl ?_
      refine a_r2 32 hZ (by first | assumption | exact vp_in_nI (by omega) (by decide) | (unfold vp_in; decide)) dX8_work_31 rfl ?_
      rw [hcj]
      refine r_callVI (c_X8_table l g y ad τ ρ k2) wM_X8_table wL_X8_83 hZ rfl ⟨by decide, by decide⟩ 0 8 rfl rfl rfl rfl dX8_work_32 ?_
      refine r_aload_n 36 hZ 0 dX8_work_35 rfl rfl rfl ?_
      refine r_aload_n 37 hZ 0 dX8_work_36 rfl rfl rfl ?_
      refine g_X8_16 40 hZ dX8_work_37 rfl ?_
      refine r_iload_n 41 hZ 1 dX8_work_40 rfl rfl rfl ?_
      refine a_r3 42 hZ (by first | assumption | exact vp_in_nI (by omega) (by decide) | (unfold vp_in; decide)) dX8_work_41 rfl ?_
      rw [hcj]
      refine r_callVI (c_X8_table l g y ad τ ρ k3) wM_X8_table wL_X8_83 hZ rfl ⟨by decide, by decide⟩ 0 8 rfl rfl rfl rfl dX8_work_42 ?_
      refine r_iand 46 hZ dX8_work_45 rfl ?_
      refine s_r4 47 hZ (by first | assumption | exact vp_in_nI (by omega) (by decide) | (unfold vp_in; decide)) dX8_work_46 rfl ?_
      try rw [hcj]
      exact hret _ _ _ dX8_work_47 (by unfold wkF; first | rw [if_pos hs] | rw [if_neg hs])
set_option maxHeartbeats 4000000 in
set_option maxRecDepth 100000 in
theorem c_X8_workOlds (l : Launch) (g : va_G) (y : Nat → ClassId) (ad : Nat → Nat) (τ : Nat → Nat → Int32) (ρ : Nat → Nat → Int64) {N G b : Nat} (hs : Rs τ N G) (hb : b ≤ N) : w_C l g y yX8_workOlds cX8_workOlds 3 none 2 [.ref (ad 0), .int (nI b)] (rw ad y τ ρ) none (rw ad y (woF τ b (N - b)) ρ) := by
  refine w_ofV (lv0 := [(0, .ref (ad 0)), (1, .int (nI b))]) (by decide +kernel) (Nat.le_of_ble_eq_true rfl) rfl ?_
  intro Z hZ hret
  obtain ⟨hN, -, h38, -, hw, -, -⟩ := id hs
  refine r_iload_n 1 hZ 1 dX8_workOlds_0 rfl rfl rfl ?_
  refine r_istnN 2 [(0, _), (1, _), (2, _)] hZ dX8_workOlds_1 rfl rfl (by decide) rfl rfl ?_
  have lp_2 : ∀ (n : Nat) (i : Nat), i ≤ N - b → N - b + 1 ≤ i + n → Z 0 0 (rw ad y (woF τ b i) ρ) 2 [(0, .ref (ad 0)), (1, .int (nI b)), (2, .int (nI (b + i)))] [] := by
    intro n
    induction n with
    | zero => intro i h1 hn_2; exact absurd hn_2 (by omega)
    | succ n ih_2 =>
      intro i h1 hn_2
      refine r_iload_n 3 hZ 2 dX8_workOlds_2 rfl rfl rfl ?_
      refine r_aload_n 4 hZ 0 dX8_workOlds_3 rfl rfl rfl ?_
      refine g_X8_76 7 hZ dX8_workOlds_4 rfl ?_
      refine w_eqI ((congrFun (woF_k τ b 0 (by decide) i) 1).trans hN) ?_
      refine r_icmp_ge 31 10 hZ dX8_workOlds_7 (by decide) rfl (fun c_7 => ?_) (fun c_7 => ?_)
      · skip
        have hi := nI_leq (by omega) (by omega) c_7
        have hi : i = N - b := by omega
        subst hi
        exact hret _ _ _ dX8_workOlds_31 rfl
      · skip
        have hi := nI_nleq (by omega) (by omega) c_7
        have hci := nI_clamp (n := b + i) (by omega)
        have e1 := woF_k τ b 1 (by decide) i
        have e2 := woF_k τ b 2 (by decide) i
        have e3 := woF_k τ b 3 (by decide) i
        refine r_aload_n 11 hZ 0 dX8_workOlds_10 rfl rfl rfl ?_
        refine g_X8_7 14 hZ dX8_workOlds_11 rfl ?_
        refine r_iload_n 15 hZ 2 dX8_workOlds_14 rfl rfl rfl ?_
        refine a_r1 16 hZ (by first | assumption | exact vp_in_nI (by omega) (by decide) | (unfold vp_in; decide)) dX8_workOlds_15 rfl ?_
        rw [hci, e1]
        refine r_iconst (v := 2) 17 hZ dX8_workOlds_16 rfl (by decide) ?_
        refine r_icmp_ne 25 20 hZ dX8_workOlds_17 (by decide) rfl (fun c_17 => ?_) (fun c_17 => ?_)
        · skip
          rw [← woF_f c_17]
          try rw [← woF_t c_17]
          refine r_iinc 28 2 1 [(0, _), (1, _), (2, _)] hZ dX8_workOlds_25 rfl rfl (by decide) (by decide) rfl rfl ?_
          refine r_goto 2 hZ dX8_workOlds_28 (by decide) ?_
          rw [nI_1]
          exact ih_2 (i + 1) (by omega) (by omega)
        · skip
          refine r_aload_n 21 hZ 0 dX8_workOlds_20 rfl rfl rfl ?_
          refine r_iload_n 22 hZ 2 dX8_workOlds_21 rfl rfl rfl ?_
          refine r_callVV (c_X8_work l g y ad _ ρ (j := b + i) (by omega) (by rw [e1, e2, e3]; exact hw (b + i) (by omega))) wM_X8_work wL_X8_87 hZ rfl ⟨by decide, by decide⟩ 0 8 rfl rfl rfl rfl dX8_workOlds_22 ?_
          try rw [← woF_t c_17]
          refine r_iinc 28 2 1 [(0, _), (1, _), (2, _)] hZ dX8_workOlds_25 rfl rfl (by decide) (by decide) rfl rfl ?_
          refine r_goto 2 hZ dX8_workOlds_28 (by decide) ?_
          rw [nI_1]
          exact ih_2 (i + 1) (by omega) (by omega)
  exact lp_2 (N - b + 1) 0 (by omega) (by omega)
set_option maxHeartbeats 4000000 in
set_option maxRecDepth 100000 in
theorem c_X8_isApart (l : Launch) (g : va_G) (y : Nat → ClassId) (ad : Nat → Nat) (τ : Nat → Nat → Int32) (ρ : Nat → Nat → Int64) {i : Nat} (hi : i < 4) (h6 : okL (τ 6 i) 80) (h7 : okL (τ 7 i) 80) : w_C l g y yX8_isApart cX8_isApart 2 (some .boolean) 1 [.ref (ad 0), .int (nI i)] (rw ad y τ ρ) (some (.int (bI (rdP τ i)))) (rw ad y τ ρ) := by
  refine w_ofI (lv0 := [(0, .ref (ad 0)), (1, .int (nI i))]) (by decide +kernel) (Nat.le_of_ble_eq_true rfl) rfl (bI_nar _) ?_
  intro Z hZ hret
  have hci := nI_clamp (n := i) (by omega)
  refine r_aload_n 1 hZ 0 dX8_isApart_0 rfl rfl rfl ?_
  refine r_aload_n 2 hZ 0 dX8_isApart_1 rfl rfl rfl ?_
  refine g_X8_33 5 hZ dX8_isApart_2 rfl ?_
  refine r_iload_n 6 hZ 1 dX8_isApart_5 rfl rfl rfl ?_
  refine a_r6 7 hZ (by first | assumption | exact vp_in_nI (by omega) (by decide) | (unfold vp_in; decide)) dX8_isApart_6 rfl ?_
  rw [hci]
  refine r_callVI (c_X8_table l g y ad τ ρ h6) wM_X8_table wL_X8_83 hZ rfl ⟨by decide, by decide⟩ 0 8 rfl rfl rfl rfl dX8_isApart_7 ?_
  refine r_aload_n 11 hZ 0 dX8_isApart_10 rfl rfl rfl ?_
  refine r_aload_n 12 hZ 0 dX8_isApart_11 rfl rfl rfl ?_
  refine g_X8_36 15 hZ dX8_isApart_12 rfl ?_
  refine r_iload_n 16 hZ 1 dX8_isApart_15 rfl rfl rfl ?_
  refine a_r7 17 hZ (by first | assumption | exact vp_in_nI (by omega) (by decide) | (unfold vp_in; decide)) dX8_isApart_16 rfl ?_
  rw [hci]
  refine r_callVI (c_X8_table l g y ad τ ρ h7) wM_X8_table wL_X8_83 hZ rfl ⟨by decide, by decide⟩ 0 8 rfl rfl rfl rfl dX8_isApart_17 ?_
  refine r_icmp_eq 27 23 hZ dX8_isApart_20 (by decide) rfl (fun c_20 => ?_) (fun c_20 => ?_)
  · skip
    refine r_iconst (v := 0) 28 hZ dX8_isApart_27 rfl (by decide) ?_
    exact hret _ _ _ _ dX8_isApart_28 (by first | exact (bI_f (fun q => q c_20)).symm | exact (bI_t c_20).symm) rfl
  · skip
    refine r_iconst (v := 1) 24 hZ dX8_isApart_23 rfl (by decide) ?_
    refine r_goto 28 hZ dX8_isApart_24 (by decide) ?_
    exact hret _ _ _ _ dX8_isApart_28 (by first | exact (bI_f (fun q => q c_20)).symm | exact (bI_t c_20).symm) rfl
set_option maxHeartbeats 4000000 in
set_option maxRecDepth 100000 in
theorem c_X8_apart (l : Launch) (g : va_G) (y : Nat → ClassId) (ad : Nat → Nat) (τ : Nat → Nat → Int32) (ρ : Nat → Nat → Int64) {N G : Nat} (hs : Rs τ N G) : w_C l g y yX8_apart cX8_apart 3 (some .int) 2 [.ref (ad 0)] (rw ad y τ ρ) (some (.int (nI (cnt (rdP τ) G)))) (rw ad y τ ρ) := by
  refine w_ofI (lv0 := [(0, .ref (ad 0))]) (by decide +kernel) (Nat.le_of_ble_eq_true rfl) rfl (rfl) ?_
  intro Z hZ hret
  obtain ⟨-, hG, -, h4, -, h6, h7⟩ := hs
  refine r_iconst (v := 0) 1 hZ dX8_apart_0 rfl (by decide) ?_
  refine r_istnN 2 [(0, _), (1, _)] hZ dX8_apart_1 rfl rfl (by decide) rfl rfl ?_
  refine r_iconst (v := 0) 3 hZ dX8_apart_2 rfl (by decide) ?_
  refine r_istnN 4 [(0, _), (1, _), (2, _)] hZ dX8_apart_3 rfl rfl (by decide) rfl rfl ?_
  have lp_4 : ∀ (n : Nat) (i : Nat), i ≤ G → G + 1 ≤ i + n → Z 0 0 (rw ad y τ ρ) 4 [(0, .ref (ad 0)), (1, .int (nI (cnt (rdP τ) i))), (2, .int (nI i))] [] := by
    intro n
    induction n with
    | zero => intro i h1 hn_4; exact absurd hn_4 (by omega)
    | succ n ih_4 =>
      intro i h1 hn_4
      refine r_iload_n 5 hZ 2 dX8_apart_4 rfl rfl rfl ?_
      refine r_aload_n 6 hZ 0 dX8_apart_5 rfl rfl rfl ?_
      refine g_X8_91 9 hZ dX8_apart_6 rfl ?_
      refine w_eqI (hG) ?_
      refine r_icmp_ge 34 12 hZ dX8_apart_9 (by decide) rfl (fun c_9 => ?_) (fun c_9 => ?_)
      · skip
        have hi := nI_leq (by omega) (by omega) c_9
        have hi : i = G := by omega
        subst hi
        refine r_iload_n 35 hZ 1 dX8_apart_34 rfl rfl rfl ?_
        exact hret _ _ _ _ dX8_apart_35 rfl rfl
      · skip
        have hi := nI_nleq (by omega) (by omega) c_9
        refine r_aload_n 13 hZ 0 dX8_apart_12 rfl rfl rfl ?_
        refine r_iload_n 14 hZ 2 dX8_apart_13 rfl rfl rfl ?_
        refine r_callVI (c_X8_isApart l g y ad τ ρ (i := i) (by omega) (h6 i hi) (h7 i hi)) wM_X8_isApart wL_X8_94 hZ rfl ⟨by decide, by decide⟩ 0 8 rfl rfl rfl rfl dX8_apart_14 ?_
        refine r_if_eq 26 20 hZ dX8_apart_17 (by decide) rfl (fun c_17 => ?_) (fun c_17 => ?_)
        · skip
          have hk := cnt_f (bI_0.mp c_17)
          rw [← hk]
          refine r_iload_n 27 hZ 1 dX8_apart_26 rfl rfl rfl ?_
          try rw [nI_1, ← hk]
          refine r_istn 28 1 [(0, _), (1, _), (2, _)] hZ dX8_apart_27 rfl rfl (by decide) rfl rfl ?_
          refine r_iinc 31 2 1 [(0, _), (1, _), (2, _)] hZ dX8_apart_28 rfl rfl (by decide) (by decide) rfl rfl ?_
          refine r_goto 4 hZ dX8_apart_31 (by decide) ?_
          rw [nI_1]
          exact ih_4 (i + 1) (by omega) (by omega)
        · skip
          have hk := cnt_t (bI_n0.mp c_17)
          refine r_iload_n 21 hZ 1 dX8_apart_20 rfl rfl rfl ?_
          refine r_iconst (v := 1) 22 hZ dX8_apart_21 rfl (by decide) ?_
          refine r_iadd 23 hZ dX8_apart_22 rfl ?_
          refine r_goto 27 hZ dX8_apart_23 (by decide) ?_
          try rw [nI_1, ← hk]
          refine r_istn 28 1 [(0, _), (1, _), (2, _)] hZ dX8_apart_27 rfl rfl (by decide) rfl rfl ?_
          refine r_iinc 31 2 1 [(0, _), (1, _), (2, _)] hZ dX8_apart_28 rfl rfl (by decide) (by decide) rfl rfl ?_
          refine r_goto 4 hZ dX8_apart_31 (by decide) ?_
          rw [nI_1]
          exact ih_4 (i + 1) (by omega) (by omega)
  exact lp_4 (G + 1) 0 (by omega) (by omega)
noncomputable def putF (τ : stT) (N : Nat) (w x z : Int32) : stT := up (up (wkF (up (up (up (up τ 1 N w) 2 N x) 3 N z) 5 N 0) N) 0 1 (nI (N + 1))) 0 7 0
def putL (ρ : rtT) (N : Nat) : rtT := upL (upL ρ 1 N 0) 2 N 0
theorem upd_s (f : Nat → Int32) (k : Nat) (x : Int32) : upd f k x k = x := if_pos rfl
theorem pw2 (N : Nat) : 2 * nI (N + 1) - 2 = nI (2 * N) := by rw [nI_2, show (2 : Int32) = nI 2 from rfl, pk_sub (by omega), show 2 * (N + 1) - 2 = 2 * N by omega]
set_option maxHeartbeats 4000000 in
set_option maxRecDepth 100000 in
theorem c_X8_put (l : Launch) (g : va_G) (y : Nat → ClassId) (ad : Nat → Nat) (τ : Nat → Nat → Int32) (ρ : Nat → Nat → Int64) {N : Nat} (hN : τ 0 1 = nI N) (hN2 : N < 38) (w : Int32) {x z : Int32} (hx : okL x 80) (hz : okL z 80) : w_C l g y yX8_put cX8_put 4 (some .int) 2 [.ref (ad 0), .int w, .int x, .int z] (rw ad y τ ρ) (some (.int (nI (2 * N)))) (rw ad y (putF τ N w x z) (putL ρ N)) := by
  refine w_ofI (lv0 := [(0, .ref (ad 0)), (1, .int w), (2, .int x), (3, .int z)]) (by decide +kernel) (Nat.le_of_ble_eq_true rfl) rfl (rfl) ?_
  intro Z hZ hret
  have hc := nI_clamp (n := N) (by omega)
  have hw := fun k (hk : k ≠ 4) => wkF_k (up (up (up (up τ 1 N w) 2 N x) 3 N z) 5 N 0) N k hk
  refine r_aload_n 1 hZ 0 dX8_put_0 rfl rfl rfl ?_
  refine g_X8_7 4 hZ dX8_put_1 rfl ?_
  refine r_aload_n 5 hZ 0 dX8_put_4 rfl rfl rfl ?_
  refine g_X8_76 8 hZ dX8_put_5 rfl ?_
  refine w_eqI (hN) ?_
  refine r_iload_n 9 hZ 1 dX8_put_8 rfl rfl rfl ?_
  refine s_r1 10 hZ (by first | assumption | exact vp_in_nI (by omega) (by decide) | (unfold vp_in; decide)) dX8_put_9 rfl ?_
  rw [hc]
  refine r_aload_n 11 hZ 0 dX8_put_10 rfl rfl rfl ?_
  refine g_X8_13 14 hZ dX8_put_11 rfl ?_
  refine r_aload_n 15 hZ 0 dX8_put_14 rfl rfl rfl ?_
  refine g_X8_76 18 hZ dX8_put_15 rfl ?_
  refine w_eqI (hN) ?_
  refine r_iload_n 19 hZ 2 dX8_put_18 rfl rfl rfl ?_
  refine s_r2 20 hZ (by first | assumption | exact vp_in_nI (by omega) (by decide) | (unfold vp_in; decide)) dX8_put_19 rfl ?_
  rw [hc]
  refine r_aload_n 21 hZ 0 dX8_put_20 rfl rfl rfl ?_
  refine g_X8_16 24 hZ dX8_put_21 rfl ?_
  refine r_aload_n 25 hZ 0 dX8_put_24 rfl rfl rfl ?_
  refine g_X8_76 28 hZ dX8_put_25 rfl ?_
  refine w_eqI (hN) ?_
  refine r_iload_n 29 hZ 3 dX8_put_28 rfl rfl rfl ?_
  refine s_r3 30 hZ (by first | assumption | exact vp_in_nI (by omega) (by decide) | (unfold vp_in; decide)) dX8_put_29 rfl ?_
  rw [hc]
  refine r_aload_n 31 hZ 0 dX8_put_30 rfl rfl rfl ?_
  refine g_X8_22 34 hZ dX8_put_31 rfl ?_
  refine r_aload_n 35 hZ 0 dX8_put_34 rfl rfl rfl ?_
  refine g_X8_76 38 hZ dX8_put_35 rfl ?_
  refine w_eqI (hN) ?_
  refine r_iconst (v := 0) 39 hZ dX8_put_38 rfl (by decide) ?_
  refine s_r5 40 hZ (by first | assumption | exact vp_in_nI (by omega) (by decide) | (unfold vp_in; decide)) dX8_put_39 rfl ?_
  rw [hc, show vp_nar .boolean 0 = 0 from rfl]
  refine r_aload_n 41 hZ 0 dX8_put_40 rfl rfl rfl ?_
  refine g_X8_26 44 hZ dX8_put_41 rfl ?_
  refine r_aload_n 45 hZ 0 dX8_put_44 rfl rfl rfl ?_
  refine g_X8_76 48 hZ dX8_put_45 rfl ?_
  refine w_eqI (hN) ?_
  refine r_lconst (v := 0) 49 hZ dX8_put_48 rfl (by decide) ?_
  refine s_r16 50 hZ (by first | assumption | exact vp_in_nI (by omega) (by decide) | (unfold vp_in; decide)) dX8_put_49 rfl ?_
  rw [hc]
  refine r_aload_n 51 hZ 0 dX8_put_50 rfl rfl rfl ?_
  refine g_X8_30 54 hZ dX8_put_51 rfl ?_
  refine r_aload_n 55 hZ 0 dX8_put_54 rfl rfl rfl ?_
  refine g_X8_76 58 hZ dX8_put_55 rfl ?_
  refine w_eqI (hN) ?_
  refine r_lconst (v := 0) 59 hZ dX8_put_58 rfl (by decide) ?_
  refine s_r17 60 hZ (by first | assumption | exact vp_in_nI (by omega) (by decide) | (unfold vp_in; decide)) dX8_put_59 rfl ?_
  rw [hc]
  refine r_aload_n 61 hZ 0 dX8_put_60 rfl rfl rfl ?_
  refine r_aload_n 62 hZ 0 dX8_put_61 rfl rfl rfl ?_
  refine g_X8_76 65 hZ dX8_put_62 rfl ?_
  refine w_eqI (hN) ?_
  refine r_callVV (c_X8_work l g y ad _ _ (j := N) (by omega) (fun _ => ⟨by show okL (upd (τ 2) N x N) 80; rw [upd_s]; exact hx, by show okL (upd (τ 3) N z N) 80; rw [upd_s]; exact hz⟩)) wM_X8_work wL_X8_87 hZ rfl ⟨by decide, by decide⟩ 0 8 rfl rfl rfl rfl dX8_put_65 ?_
  refine r_aload_n 69 hZ 0 dX8_put_68 rfl rfl rfl ?_
  refine r_dup 70 hZ dX8_put_69 rfl rfl ?_
  refine g_X8_76 73 hZ dX8_put_70 rfl ?_
  refine w_eqI ((congrFun (hw 0 (by decide)) 1).trans hN) ?_
  refine r_iconst (v := 1) 74 hZ dX8_put_73 rfl (by decide) ?_
  refine r_iadd 75 hZ dX8_put_74 rfl ?_
  rw [nI_1]
  refine p_X8_76 78 hZ dX8_put_75 rfl ?_
  refine r_aload_n 79 hZ 0 dX8_put_78 rfl rfl rfl ?_
  refine r_iconst (v := 0) 80 hZ dX8_put_79 rfl (by decide) ?_
  refine p_X8_98 83 hZ (by first | exact Or.inl rfl | exact Or.inr rfl | exact bI_01 _) dX8_put_80 rfl ?_
  refine r_iconst (v := 2) 84 hZ dX8_put_83 rfl (by decide) ?_
  refine r_aload_n 85 hZ 0 dX8_put_84 rfl rfl rfl ?_
  refine g_X8_76 88 hZ dX8_put_85 rfl ?_
  refine r_imul 89 hZ dX8_put_88 rfl ?_
  refine r_iconst (v := 2) 90 hZ dX8_put_89 rfl (by decide) ?_
  refine r_isub 91 hZ dX8_put_90 rfl ?_
  change Z 0 0 _ 91 _ [.int (2 * nI (N + 1) - 2)]
  exact hret _ _ _ _ dX8_put_91 (pw2 N) rfl
set_option maxHeartbeats 4000000 in
set_option maxRecDepth 100000 in
theorem c_X8_isOld (l : Launch) (g : va_G) (y : Nat → ClassId) (ad : Nat → Nat) (τ : Nat → Nat → Int32) (ρ : Nat → Nat → Int64) (x : Int32) {N : Nat} (hN : τ 0 1 = nI N) (hN2 : N ≤ 38) : w_C l g y yX8_isOld cX8_isOld 2 (some .boolean) 1 [.ref (ad 0), .int x] (rw ad y τ ρ) (some (.int (bI (okL x N ∧ τ 1 (ix x) = 2)))) (rw ad y τ ρ) := by
  refine w_ofI (lv0 := [(0, .ref (ad 0)), (1, .int x)]) (by decide +kernel) (Nat.le_of_ble_eq_true rfl) rfl (bI_nar _) ?_
  intro Z hZ hret
  refine r_iload_n 1 hZ 1 dX8_isOld_0 rfl rfl rfl ?_
  refine r_aload_n 2 hZ 0 dX8_isOld_1 rfl rfl rfl ?_
  refine g_X8_76 5 hZ dX8_isOld_2 rfl ?_
  refine w_eqI (hN) ?_
  refine r_callSI (c_X8_isIn l g y ad τ ρ x (m := N) (by omega)) wM_X8_isIn wL_X8_79 hZ rfl ⟨by decide, by decide⟩ rfl rfl dX8_isOld_5 ?_
  refine r_if_eq 25 11 hZ dX8_isOld_8 (by decide) rfl (fun c_8 => ?_) (fun c_8 => ?_)
  · skip
    have cc : ¬ (okL x N ∧ τ 1 (ix x) = 2) := fun q => bI_0.mp c_8 q.1
    refine r_iconst (v := 0) 26 hZ dX8_isOld_25 rfl (by decide) ?_
    exact hret _ _ _ _ dX8_isOld_26 (by first | exact (bI_t cc).symm | exact (bI_f cc).symm) rfl
  · skip
    have c := bI_n0.mp c_8
    refine r_aload_n 12 hZ 0 dX8_isOld_11 rfl rfl rfl ?_
    refine g_X8_7 15 hZ dX8_isOld_12 rfl ?_
    refine r_iload_n 16 hZ 1 dX8_isOld_15 rfl rfl rfl ?_
    refine a_r1 17 hZ (okL_in (okL_mono c (show N ≤ 40 by omega)) (by decide)) dX8_isOld_16 rfl ?_
    refine r_iconst (v := 2) 18 hZ dX8_isOld_17 rfl (by decide) ?_
    refine r_icmp_ne 25 21 hZ dX8_isOld_18 (by decide) rfl (fun c_18 => ?_) (fun c_18 => ?_)
    · skip
      have cc : ¬ (okL x N ∧ τ 1 (ix x) = 2) := fun q => c_18 q.2
      refine r_iconst (v := 0) 26 hZ dX8_isOld_25 rfl (by decide) ?_
      exact hret _ _ _ _ dX8_isOld_26 (by first | exact (bI_t cc).symm | exact (bI_f cc).symm) rfl
    · skip
      have cc : okL x N ∧ τ 1 (ix x) = 2 := ⟨c, c_18⟩
      refine r_iconst (v := 1) 22 hZ dX8_isOld_21 rfl (by decide) ?_
      refine r_goto 26 hZ dX8_isOld_22 (by decide) ?_
      exact hret _ _ _ _ dX8_isOld_26 (by first | exact (bI_t cc).symm | exact (bI_f cc).symm) rfl
set_option maxHeartbeats 4000000 in
set_option maxRecDepth 100000 in
theorem c_X8_isNear (l : Launch) (g : va_G) (y : Nat → ClassId) (ad : Nat → Nat) (τ : Nat → Nat → Int32) (ρ : Nat → Nat → Int64) (x : Int64) : w_C l g y yX8_isNear cX8_isNear 2 (some .boolean) 0 [.long x] (rw ad y τ ρ) (some (.int (bI (¬ (x < -1000 ∨ 1000 < x))))) (rw ad y τ ρ) := by
  refine w_ofI (lv0 := [(0, .long x)]) (by decide +kernel) (Nat.le_of_ble_eq_true rfl) rfl (bI_nar _) ?_
  intro Z hZ hret
  refine r_lload_n 1 hZ 0 dX8_isNear_0 rfl rfl rfl ?_
  refine r_ldc2 4 hZ dX8_isNear_1 rfl wK_X8_128 ?_
  refine r_lcmp 5 hZ dX8_isNear_4 rfl ?_
  refine r_if_lt 20 8 hZ dX8_isNear_5 (by decide) rfl (fun c_5 => ?_) (fun c_5 => ?_)
  · skip
    have c := (lg_cmp_lt _ _).mp c_5
    refine r_iconst (v := 0) 21 hZ dX8_isNear_20 rfl (by decide) ?_
    exact hret _ _ _ _ dX8_isNear_21 (by first | exact Eq.symm (bI_f (fun q => q (Or.inl c))) | exact Eq.symm (bI_f (fun q => q (Or.inr c2))) | exact Eq.symm (bI_t (fun q => q.elim c c2))) rfl
  · skip
    have c : ¬ x < -1000 := fun q => c_5 ((lg_cmp_lt _ _).mpr q)
    refine r_lload_n 9 hZ 0 dX8_isNear_8 rfl rfl rfl ?_
    refine r_ldc2 12 hZ dX8_isNear_9 rfl wK_X8_130 ?_
    refine r_lcmp 13 hZ dX8_isNear_12 rfl ?_
    refine r_if_gt 20 16 hZ dX8_isNear_13 (by decide) rfl (fun c_13 => ?_) (fun c_13 => ?_)
    · skip
      have c2 := (lg_cmp_gt _ _).mp c_13
      refine r_iconst (v := 0) 21 hZ dX8_isNear_20 rfl (by decide) ?_
      exact hret _ _ _ _ dX8_isNear_21 (by first | exact Eq.symm (bI_f (fun q => q (Or.inl c))) | exact Eq.symm (bI_f (fun q => q (Or.inr c2))) | exact Eq.symm (bI_t (fun q => q.elim c c2))) rfl
    · skip
      have c2 : ¬ 1000 < x := fun q => c_13 ((lg_cmp_gt _ _).mpr q)
      refine r_iconst (v := 1) 17 hZ dX8_isNear_16 rfl (by decide) ?_
      refine r_goto 21 hZ dX8_isNear_17 (by decide) ?_
      exact hret _ _ _ _ dX8_isNear_21 (by first | exact Eq.symm (bI_f (fun q => q (Or.inl c))) | exact Eq.symm (bI_f (fun q => q (Or.inr c2))) | exact Eq.symm (bI_t (fun q => q.elim c c2))) rfl
set_option maxHeartbeats 4000000 in
set_option maxRecDepth 100000 in
theorem c_X8_isFree (l : Launch) (g : va_G) (y : Nat → ClassId) (ad : Nat → Nat) (τ : Nat → Nat → Int32) (ρ : Nat → Nat → Int64) {j : Nat} (hj : j < 40) : w_C l g y yX8_isFree cX8_isFree 2 (some .boolean) 0 [.ref (ad 0), .int (nI j)] (rw ad y τ ρ) (some (.int (bI (τ 1 j = 2 ∧ τ 5 j = 0)))) (rw ad y τ ρ) := by
  refine w_ofI (lv0 := [(0, .ref (ad 0)), (1, .int (nI j))]) (by decide +kernel) (Nat.le_of_ble_eq_true rfl) rfl (bI_nar _) ?_
  intro Z hZ hret
  have hcj := nI_clamp (n := j) (by omega)
  refine r_aload_n 1 hZ 0 dX8_isFree_0 rfl rfl rfl ?_
  refine g_X8_7 4 hZ dX8_isFree_1 rfl ?_
  refine r_iload_n 5 hZ 1 dX8_isFree_4 rfl rfl rfl ?_
  refine a_r1 6 hZ (by first | assumption | exact vp_in_nI (by omega) (by decide) | (unfold vp_in; decide)) dX8_isFree_5 rfl ?_
  rw [hcj]
  refine r_iconst (v := 2) 7 hZ dX8_isFree_6 rfl (by decide) ?_
  refine r_icmp_ne 23 10 hZ dX8_isFree_7 (by decide) rfl (fun c_7 => ?_) (fun c_7 => ?_)
  · skip
    have cc : ¬ (τ 1 j = 2 ∧ τ 5 j = 0) := fun q => c_7 q.1
    refine r_iconst (v := 0) 24 hZ dX8_isFree_23 rfl (by decide) ?_
    exact hret _ _ _ _ dX8_isFree_24 (by first | exact (bI_t cc).symm | exact (bI_f cc).symm) rfl
  · skip
    refine r_aload_n 11 hZ 0 dX8_isFree_10 rfl rfl rfl ?_
    refine g_X8_22 14 hZ dX8_isFree_11 rfl ?_
    refine r_iload_n 15 hZ 1 dX8_isFree_14 rfl rfl rfl ?_
    refine a_r5 16 hZ (by first | assumption | exact vp_in_nI (by omega) (by decide) | (unfold vp_in; decide)) dX8_isFree_15 rfl ?_
    rw [hcj]
    refine r_if_ne 23 19 hZ dX8_isFree_16 (by decide) rfl (fun c_16 => ?_) (fun c_16 => ?_)
    · skip
      have cc : ¬ (τ 1 j = 2 ∧ τ 5 j = 0) := fun q => c_16 q.2
      refine r_iconst (v := 0) 24 hZ dX8_isFree_23 rfl (by decide) ?_
      exact hret _ _ _ _ dX8_isFree_24 (by first | exact (bI_t cc).symm | exact (bI_f cc).symm) rfl
    · skip
      have cc : τ 1 j = 2 ∧ τ 5 j = 0 := ⟨c_7, c_16⟩
      refine r_iconst (v := 1) 20 hZ dX8_isFree_19 rfl (by decide) ?_
      refine r_goto 24 hZ dX8_isFree_20 (by decide) ?_
      exact hret _ _ _ _ dX8_isFree_24 (by first | exact (bI_t cc).symm | exact (bI_f cc).symm) rfl
def apP (t : stT) (G : Nat) : Prop := cnt (rdP t) G = 0
def r23 (t : stT) (n a b : Nat) : stT := up (up t 2 n (nI a)) 3 n (nI b)
noncomputable def s2I (N G m a : Nat) : Nat → Nat → stT → Bool × stT
  | _, 0, t => (false, t)
  | b, c + 1, t => @ite _ (¬ t 1 (a / 2) = 3 ∧ ¬ t 1 (b / 2) = 3) (Classical.propDecidable _)
      (@ite _ (apP (woF (r23 t m a b) m (N - m)) G) (Classical.propDecidable _) (true, up (up (up (woF (r23 t m a b) m (N - m)) 8 1 (nI m)) 9 1 (nI a)) 10 1 (nI b)) (s2I N G m a (b + 1) c (woF (r23 t m a b) m (N - m))))
      (s2I N G m a (b + 1) c t)
theorem s2I_k {N G m a b c : Nat} {t : stT} (h : ¬ (¬ t 1 (a / 2) = 3 ∧ ¬ t 1 (b / 2) = 3)) : s2I N G m a b (c + 1) t = s2I N G m a (b + 1) c t := if_neg h
theorem s2I_t {N G m a b c : Nat} {t : stT} (h : ¬ t 1 (a / 2) = 3 ∧ ¬ t 1 (b / 2) = 3) (hr : apP (woF (r23 t m a b) m (N - m)) G) : s2I N G m a b (c + 1) t = (true, up (up (up (woF (r23 t m a b) m (N - m)) 8 1 (nI m)) 9 1 (nI a)) 10 1 (nI b)) := (if_pos h).trans (if_pos hr)
theorem s2I_f {N G m a b c : Nat} {t : stT} (h : ¬ t 1 (a / 2) = 3 ∧ ¬ t 1 (b / 2) = 3) (hr : ¬ apP (woF (r23 t m a b) m (N - m)) G) : s2I N G m a b (c + 1) t = s2I N G m a (b + 1) c (woF (r23 t m a b) m (N - m)) := (if_pos h).trans (if_neg hr)
noncomputable def s2O (N G m : Nat) : Nat → Nat → stT → Bool × stT
  | _, 0, t => (false, t)
  | a, c + 1, t => @ite _ ((s2I N G m a a (2 * m - a) t).1 = true) (Classical.propDecidable _) (s2I N G m a a (2 * m - a) t) (s2O N G m (a + 1) c (s2I N G m a a (2 * m - a) t).2)
theorem s2O_t {N G m a c : Nat} {t : stT} (h : (s2I N G m a a (2 * m - a) t).1 = true) : s2O N G m a (c + 1) t = s2I N G m a a (2 * m - a) t := if_pos h
theorem s2O_f {N G m a c : Nat} {t : stT} (h : ¬ (s2I N G m a a (2 * m - a) t).1 = true) : s2O N G m a (c + 1) t = s2O N G m (a + 1) c (s2I N G m a a (2 * m - a) t).2 := if_neg h
noncomputable def s2R (N G m : Nat) (t : stT) : Bool × stT := ((s2O N G m 0 (2 * m) t).1, woF (up (up (s2O N G m 0 (2 * m) t).2 2 m (t 2 m)) 3 m (t 3 m)) m (N - m))
theorem Rs.r23 {t : stT} {N G : Nat} (h : Rs t N G) (n : Nat) {a b : Nat} (ha : a < 80) (hb : b < 80) : Rs (r23 t n a b) N G := h.ed n (okL_nI ha (by decide)) (okL_nI hb (by decide))
theorem apP_0 {t : stT} {G : Nat} (hG : G ≤ 4) (h : nI (cnt (rdP t) G) = 0) : apP t G := nI_eqq (by have := cnt_le (rdP t) G; omega) (by decide) (h.trans nI_0.symm)
theorem apP_n {t : stT} {G : Nat} (h : ¬ nI (cnt (rdP t) G) = 0) : ¬ apP t G := fun q => h (by rw [show cnt (rdP t) G = 0 from q]; rfl)
