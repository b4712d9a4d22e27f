/-! what the class's methods do to the store -/
def dst (σ : Nat → Nat → Int32) (j s : Nat) : Int32 := ab (σ 11 j - σ 13 s) + ab (σ 12 j - σ 14 s)
def addAndF (σ : Nat → Nat → Int32) (N : Nat) (w x z : Int32) : Nat → Nat → Int32 := up (up (up (up (up σ 1 N w) 2 N x) 3 N z) 4 N (cl (σ 4) (ix x) &&& cl (σ 4) (ix z))) 0 1 (nI (N + 1))
/-- an edit's literals go to its AND -/
def rwF (σ : Nat → Nat → Int32) (j : Nat) : Nat → Nat → Int32 := up (up σ 2 (ix (σ 17 j)) (σ 18 j)) 3 (ix (σ 17 j)) (σ 19 j)
/-- the old ANDs' columns anew, i of them, the first at own place b -/
def rf (σ : Nat → Nat → Int32) (b : Nat) : Nat → Nat → Nat → Int32
  | 0 => σ
  | i + 1 => up (rf σ b i) 4 (ix (σ 6 (b + i))) (cl (rf σ b i 4) (ix (σ 2 (ix (σ 6 (b + i))))) &&& cl (rf σ b i 4) (ix (σ 3 (ix (σ 6 (b + i))))))
theorem rf_k (σ : Nat → Nat → Int32) (b : Nat) (k : Nat) (hk : k ≠ 4) : ∀ i, rf σ b i k = σ k
  | 0 => rfl
  | i + 1 => by rw [← rf_k σ b k hk i]; show (if k = 4 then _ else _) = _; rw [if_neg hk]
noncomputable def ofF (σ : Nat → Nat → Int32) (v s t : Int32) : Nat → Nat → Int32 := @ite _ (σ 0 7 = -1 ∨ v < σ 0 7) (Classical.propDecidable _) (up (up (up σ 0 7 v) 15 0 s) 15 1 t) σ
theorem ofF_k (σ : Nat → Nat → Int32) (v s t : Int32) (k : Nat) (h0 : k ≠ 0) (h1 : k ≠ 15) : ofF σ v s t k = σ k := by
  unfold ofF
  split
  · show (if k = 15 then _ else if k = 15 then _ else if k = 0 then _ else _) = _
    rw [if_neg h1, if_neg h1, if_neg h0]
  · rfl
theorem ofF_0 (σ : Nat → Nat → Int32) (v s t : Int32) (j : Nat) (h : j ≠ 7) : ofF σ v s t 0 j = σ 0 j := by
  unfold ofF
  split
  · show (if j = 7 then _ else _) = _
    rw [if_neg h]
  · rfl
/-- the taking for one edit, i spares offered -/
noncomputable def t1F (σ : Nat → Nat → Int32) (a : Nat) : Nat → Nat → Nat → Int32
  | 0 => σ
  | i + 1 => ofF (t1F σ a i) (dst (t1F σ a i) a i) (nI i) (-1)
noncomputable def t2I (σ : Nat → Nat → Int32) (a b s : Nat) : Nat → Nat → Nat → Int32
  | 0 => σ
  | t + 1 => @ite _ (s = t) (Classical.propDecidable _) (t2I σ a b s t) (ofF (t2I σ a b s t) (dst (t2I σ a b s t) a s + dst (t2I σ a b s t) b t) (nI s) (nI t))
noncomputable def t2F (σ : Nat → Nat → Int32) (a b S : Nat) : Nat → Nat → Nat → Int32
  | 0 => σ
  | s + 1 => t2I (t2F σ a b S s) a b s S
theorem t1F_k (σ : Nat → Nat → Int32) (a k : Nat) (h0 : k ≠ 0) (h1 : k ≠ 15) : ∀ i, t1F σ a i k = σ k
  | 0 => rfl
  | i + 1 => by show ofF _ _ _ _ k = _; rw [ofF_k _ _ _ _ _ h0 h1, t1F_k σ a k h0 h1 i]
theorem t1F_0 (σ : Nat → Nat → Int32) (a j : Nat) (h : j ≠ 7) : ∀ i, t1F σ a i 0 j = σ 0 j
  | 0 => rfl
  | i + 1 => by show ofF _ _ _ _ 0 j = _; rw [ofF_0 _ _ _ _ _ h, t1F_0 σ a j h i]
theorem t2I_t {σ : Nat → Nat → Int32} {a b s t : Nat} (h : s = t) : t2I σ a b s (t + 1) = t2I σ a b s t := if_pos h
theorem t2I_f {σ : Nat → Nat → Int32} {a b s t : Nat} (h : ¬ s = t) : t2I σ a b s (t + 1) = ofF (t2I σ a b s t) (dst (t2I σ a b s t) a s + dst (t2I σ a b s t) b t) (nI s) (nI t) := if_neg h
theorem t2I_k (σ : Nat → Nat → Int32) (a b s k : Nat) (h0 : k ≠ 0) (h1 : k ≠ 15) : ∀ i, t2I σ a b s i k = σ k
  | 0 => rfl
  | t + 1 => by
    by_cases h : s = t
    · rw [t2I_t h, t2I_k σ a b s k h0 h1 t]
    · rw [t2I_f h, ofF_k _ _ _ _ _ h0 h1, t2I_k σ a b s k h0 h1 t]
theorem t2I_0 (σ : Nat → Nat → Int32) (a b s j : Nat) (hj : j ≠ 7) : ∀ i, t2I σ a b s i 0 j = σ 0 j
  | 0 => rfl
  | t + 1 => by
    by_cases h : s = t
    · rw [t2I_t h, t2I_0 σ a b s j hj t]
    · rw [t2I_f h, ofF_0 _ _ _ _ _ hj, t2I_0 σ a b s j hj t]
theorem t2F_k (σ : Nat → Nat → Int32) (a b S k : Nat) (h0 : k ≠ 0) (h1 : k ≠ 15) : ∀ i, t2F σ a b S i k = σ k
  | 0 => rfl
  | s + 1 => by show t2I _ _ _ _ _ k = _; rw [t2I_k _ _ _ _ _ h0 h1, t2F_k σ a b S k h0 h1 s]
theorem t2F_0 (σ : Nat → Nat → Int32) (a b S j : Nat) (hj : j ≠ 7) : ∀ i, t2F σ a b S i 0 j = σ 0 j
  | 0 => rfl
  | s + 1 => by show t2I _ _ _ _ _ 0 j = _; rw [t2I_0 _ _ _ _ _ hj, t2F_0 σ a b S j hj s]
noncomputable def takeF (σ : Nat → Nat → Int32) (r S : Nat) : Nat → Nat → Int32 :=
  match r with
  | 0 => up (up (up σ 15 0 (-1)) 15 1 (-1)) 0 7 0
  | 1 => t1F (up (up (up σ 15 0 (-1)) 15 1 (-1)) 0 7 (-1)) (ix (σ 17 0)) S
  | _ => t2F (up (up (up σ 15 0 (-1)) 15 1 (-1)) 0 7 (-1)) (ix (σ 17 0)) (ix (σ 17 1)) S S
/-- what the edits' ANDs had, kept -/
def rmF (σ : Nat → Nat → Int32) (M : Nat) : Nat → Nat → Nat → Int32
  | 0 => σ
  | k + 1 => up (up (up (rmF σ M k) 17 (2 + (2 * M + k)) (rmF σ M k 17 k)) 18 (2 + (2 * M + k)) (rmF σ M k 2 (ix (rmF σ M k 17 k)))) 19 (2 + (2 * M + k)) (rmF σ M k 3 (ix (rmF σ M k 17 k)))
theorem rmF_k (σ : Nat → Nat → Int32) (M k : Nat) (h7 : k ≠ 17) (h8 : k ≠ 18) (h9 : k ≠ 19) : ∀ i, rmF σ M i k = σ k
  | 0 => rfl
  | i + 1 => by
    rw [← rmF_k σ M k h7 h8 h9 i]
    show (if k = 19 then _ else if k = 18 then _ else if k = 17 then _ else _) = _
    rw [if_neg h9, if_neg h8, if_neg h7]
theorem rmF_17 (σ : Nat → Nat → Int32) (M j : Nat) (hj : j < 2) : ∀ i, rmF σ M i 17 j = σ 17 j
  | 0 => rfl
  | i + 1 => by
    rw [← rmF_17 σ M j hj i]
    show upd _ _ _ j = _
    unfold upd
    rw [if_neg (by omega)]
def rememberF (σ : Nat → Nat → Int32) (M r : Nat) : Nat → Nat → Int32 := up (up (rmF σ M r) 16 M (nI r)) 0 8 (nI (M + 1))
def tbF (σ : Nat → Nat → Int32) (M : Nat) : Nat → Nat → Nat → Int32
  | 0 => up σ 0 8 (nI M)
  | k + 1 => rwF (tbF σ M k) (2 + (2 * M + k))
theorem rwF_k (σ : Nat → Nat → Int32) (j k : Nat) (h2 : k ≠ 2) (h3 : k ≠ 3) : rwF σ j k = σ k := by
  show (if k = 3 then _ else if k = 2 then _ else _) = _
  rw [if_neg h3, if_neg h2]
theorem tbF_k (σ : Nat → Nat → Int32) (M k : Nat) (h0 : k ≠ 0) (h2 : k ≠ 2) (h3 : k ≠ 3) : ∀ i, tbF σ M i k = σ k
  | 0 => by show (if k = 0 then _ else _) = _; rw [if_neg h0]
  | i + 1 => by show rwF _ _ k = _; rw [rwF_k _ _ _ h2 h3, tbF_k σ M k h0 h2 h3 i]
theorem tbF_0 (σ : Nat → Nat → Int32) (M j : Nat) (h : j ≠ 8) : ∀ i, tbF σ M i 0 j = σ 0 j
  | 0 => by show (if j = 8 then _ else _) = _; rw [if_neg h]
  | i + 1 => by show rwF _ _ 0 j = _; rw [rwF_k _ _ 0 (by decide) (by decide), tbF_0 σ M j h i]
theorem tbF_8 (σ : Nat → Nat → Int32) (M : Nat) : ∀ i, tbF σ M i 0 8 = nI M
  | 0 => rfl
  | i + 1 => by show rwF _ _ 0 8 = _; rw [rwF_k _ _ 0 (by decide) (by decide), tbF_8 σ M i]
set_option maxHeartbeats 4000000 in
set_option maxRecDepth 100000 in
theorem c_X0_distance (l : Launch) (g : va_G) (y : Nat → ClassId) (ad : Nat → Nat) (σ : Nat → Nat → Int32) {j s : Nat} (hj : j < 38) (hs : s < 6) : w_C l g y yX0_distance cX0_distance 3 (some .int) 1 [.ref (ad 3), .int (nI j), .int (nI s)] (cw ad y σ) (some (.int (dst σ j s))) (cw ad y σ) := by
  refine w_ofI (lv0 := [(0, .ref (ad 3)), (1, .int (nI j)), (2, .int (nI s))]) (by decide +kernel) (Nat.le_of_ble_eq_true rfl) rfl (rfl) ?_
  intro Z hZ hret
  have hcj := nI_clamp (n := j) (by omega)
  have hcs := nI_clamp (n := s) (by omega)
  refine r_aload_n 1 hZ 0 dX0_distance_0 rfl rfl rfl ?_
  refine g_X0_9 4 hZ dX0_distance_1 rfl ?_
  refine r_iload_n 5 hZ 1 dX0_distance_4 rfl rfl rfl ?_
  refine a_c11 6 hZ (by first | assumption | exact vp_in_nI (by omega) (by decide) | (unfold vp_in; decide)) dX0_distance_5 rfl ?_
  rw [hcj]
  refine r_aload_n 7 hZ 0 dX0_distance_6 rfl rfl rfl ?_
  refine g_X0_18 10 hZ dX0_distance_7 rfl ?_
  refine r_iload_n 11 hZ 2 dX0_distance_10 rfl rfl rfl ?_
  refine a_c13 12 hZ (by first | assumption | exact vp_in_nI (by omega) (by decide) | (unfold vp_in; decide)) dX0_distance_11 rfl ?_
  rw [hcs]
  refine r_isub 13 hZ dX0_distance_12 rfl ?_
  refine r_abs 16 hZ wL_X0_28 (by decide) rfl dX0_distance_13 rfl ?_
  refine r_aload_n 17 hZ 0 dX0_distance_16 rfl rfl rfl ?_
  refine g_X0_15 20 hZ dX0_distance_17 rfl ?_
  refine r_iload_n 21 hZ 1 dX0_distance_20 rfl rfl rfl ?_
  refine a_c12 22 hZ (by first | assumption | exact vp_in_nI (by omega) (by decide) | (unfold vp_in; decide)) dX0_distance_21 rfl ?_
  rw [hcj]
  refine r_aload_n 23 hZ 0 dX0_distance_22 rfl rfl rfl ?_
  refine g_X0_21 26 hZ dX0_distance_23 rfl ?_
  refine r_iload_n 27 hZ 2 dX0_distance_26 rfl rfl rfl ?_
  refine a_c14 28 hZ (by first | assumption | exact vp_in_nI (by omega) (by decide) | (unfold vp_in; decide)) dX0_distance_27 rfl ?_
  rw [hcs]
  refine r_isub 29 hZ dX0_distance_28 rfl ?_
  refine r_abs 32 hZ wL_X0_28 (by decide) rfl dX0_distance_29 rfl ?_
  refine r_iadd 33 hZ dX0_distance_32 rfl ?_
  exact hret _ _ _ _ dX0_distance_33 rfl rfl
set_option maxHeartbeats 4000000 in
set_option maxRecDepth 100000 in
theorem c_X3_addAnd (l : Launch) (g : va_G) (y : Nat → ClassId) (ad : Nat → Nat) (σ : Nat → Nat → Int32) {N : Nat} (hN : σ 0 1 = nI N) (hN2 : N < 38) (w : Int32) {x z : Int32} (hx : okL x 76) (hz : okL z 76) : w_C l g y yX3_addAnd cX3_addAnd 5 (some .int) 1 [.ref (ad 1), .int w, .int x, .int z] (cw ad y σ) (some (.int (nI (2 * N)))) (cw ad y (addAndF σ N w x z)) := by
  refine w_ofI (lv0 := [(0, .ref (ad 1)), (1, .int w), (2, .int x), (3, .int z)]) (by decide +kernel) (Nat.le_of_ble_eq_true rfl) rfl (rfl) ?_
  intro Z hZ hret
  have hci := nI_clamp (n := N) (by omega)
  refine r_aload_n 1 hZ 0 dX3_addAnd_0 rfl rfl rfl ?_
  refine g_X3_31 4 hZ dX3_addAnd_1 rfl ?_
  refine w_eqI (hN) ?_
  refine r_istN (q := 0) 6 [(0, _), (1, _), (2, _), (3, _), (4, _)] hZ dX3_addAnd_4 rfl (by decide) rfl rfl ?_
  refine r_aload_n 7 hZ 0 dX3_addAnd_6 rfl rfl rfl ?_
  refine g_X3_9 10 hZ dX3_addAnd_7 rfl ?_
  refine r_iload 12 hZ 4 dX3_addAnd_10 rfl rfl ?_
  refine r_iload_n 13 hZ 1 dX3_addAnd_12 rfl rfl rfl ?_
  refine s_c1 14 hZ (by first | assumption | exact vp_in_nI (by omega) (by decide) | (unfold vp_in; decide)) dX3_addAnd_13 rfl ?_
  rw [hci]
  refine r_aload_n 15 hZ 0 dX3_addAnd_14 rfl rfl rfl ?_
  refine g_X3_15 18 hZ dX3_addAnd_15 rfl ?_
  refine r_iload 20 hZ 4 dX3_addAnd_18 rfl rfl ?_
  refine r_iload_n 21 hZ 2 dX3_addAnd_20 rfl rfl rfl ?_
  refine s_c2 22 hZ (by first | assumption | exact vp_in_nI (by omega) (by decide) | (unfold vp_in; decide)) dX3_addAnd_21 rfl ?_
  rw [hci]
  refine r_aload_n 23 hZ 0 dX3_addAnd_22 rfl rfl rfl ?_
  refine g_X3_18 26 hZ dX3_addAnd_23 rfl ?_
  refine r_iload 28 hZ 4 dX3_addAnd_26 rfl rfl ?_
  refine r_iload_n 29 hZ 3 dX3_addAnd_28 rfl rfl rfl ?_
  refine s_c3 30 hZ (by first | assumption | exact vp_in_nI (by omega) (by decide) | (unfold vp_in; decide)) dX3_addAnd_29 rfl ?_
  rw [hci]
  refine r_aload_n 31 hZ 0 dX3_addAnd_30 rfl rfl rfl ?_
  refine g_X3_21 34 hZ dX3_addAnd_31 rfl ?_
  refine r_iload 36 hZ 4 dX3_addAnd_34 rfl rfl ?_
  refine r_aload_n 37 hZ 0 dX3_addAnd_36 rfl rfl rfl ?_
  refine g_X3_21 40 hZ dX3_addAnd_37 rfl ?_
  refine r_iload_n 41 hZ 2 dX3_addAnd_40 rfl rfl rfl ?_
  refine r_callSNI (c_X7_column_4 l g y ad _ hx) wM_X7_column w_nw_X3_55 hZ rfl ⟨by decide, by decide⟩ rfl rfl dX3_addAnd_41 ?_
  refine r_aload_n 45 hZ 0 dX3_addAnd_44 rfl rfl rfl ?_
  refine g_X3_21 48 hZ dX3_addAnd_45 rfl ?_
  refine r_iload_n 49 hZ 3 dX3_addAnd_48 rfl rfl rfl ?_
  refine r_callSNI (c_X7_column_4 l g y ad _ hz) wM_X7_column w_nw_X3_55 hZ rfl ⟨by decide, by decide⟩ rfl rfl dX3_addAnd_49 ?_
  refine r_iand 53 hZ dX3_addAnd_52 rfl ?_
  refine s_c4 54 hZ (by first | assumption | exact vp_in_nI (by omega) (by decide) | (unfold vp_in; decide)) dX3_addAnd_53 rfl ?_
  rw [hci]
  refine r_aload_n 55 hZ 0 dX3_addAnd_54 rfl rfl rfl ?_
  refine r_dup 56 hZ dX3_addAnd_55 rfl rfl ?_
  refine g_X3_31 59 hZ dX3_addAnd_56 rfl ?_
  refine w_eqI (hN) ?_
  refine r_iconst (v := 1) 60 hZ dX3_addAnd_59 rfl (by decide) ?_
  refine r_iadd 61 hZ dX3_addAnd_60 rfl ?_
  rw [nI_1]
  refine p_X3_31 64 hZ dX3_addAnd_61 rfl ?_
  refine r_iconst (v := 2) 65 hZ dX3_addAnd_64 rfl (by decide) ?_
  refine r_iload 67 hZ 4 dX3_addAnd_65 rfl rfl ?_
  refine r_imul 68 hZ dX3_addAnd_67 rfl ?_
  exact hret _ _ _ _ dX3_addAnd_68 (nI_2 N) rfl
set_option maxHeartbeats 4000000 in
set_option maxRecDepth 100000 in
theorem c_X3_addOld (l : Launch) (g : va_G) (y : Nat → ClassId) (ad : Nat → Nat) (σ : Nat → Nat → Int32) {N I O : Nat} (hN : σ 0 1 = nI N) (hN2 : N < 38) (hI : σ 0 2 = nI I) (hO : σ 0 3 = nI O) (hIO : 1 + I + O < 14) {x z : Int32} (hx : okL x 76) (hz : okL z 76) : w_C l g y yX3_addOld cX3_addOld 3 (some .int) 2 [.ref (ad 1), .int x, .int z] (cw ad y σ) (some (.int (nI (2 * N)))) (cw ad y (addAndF (up (up (up σ 6 (1 + I + O) (nI N)) 5 N 0) 0 3 (nI (O + 1))) N 1 x z)) := by
  refine w_ofI (lv0 := [(0, .ref (ad 1)), (1, .int x), (2, .int z)]) (by decide +kernel) (Nat.le_of_ble_eq_true rfl) rfl (rfl) ?_
  intro Z hZ hret
  have hci := nI_clamp (n := N) (by omega)
  have hco := nI_clamp (n := 1 + I + O) (by omega)
  refine r_aload_n 1 hZ 0 dX3_addOld_0 rfl rfl rfl ?_
  refine g_X3_28 4 hZ dX3_addOld_1 rfl ?_
  refine r_aload_n 5 hZ 0 dX3_addOld_4 rfl rfl rfl ?_
  refine r_callVI (c_X3_owned l g y ad σ hI hO) wM_X3_owned wL_X3_44 hZ rfl ⟨by decide, by decide⟩ 1 3 rfl rfl rfl rfl dX3_addOld_5 ?_
  refine r_aload_n 9 hZ 0 dX3_addOld_8 rfl rfl rfl ?_
  refine g_X3_31 12 hZ dX3_addOld_9 rfl ?_
  refine w_eqI (hN) ?_
  refine s_c6 13 hZ (by first | assumption | exact vp_in_nI (by omega) (by decide) | (unfold vp_in; decide)) dX3_addOld_12 rfl ?_
  rw [hco]
  refine r_aload_n 14 hZ 0 dX3_addOld_13 rfl rfl rfl ?_
  refine g_X3_24 17 hZ dX3_addOld_14 rfl ?_
  refine r_aload_n 18 hZ 0 dX3_addOld_17 rfl rfl rfl ?_
  refine g_X3_31 21 hZ dX3_addOld_18 rfl ?_
  refine w_eqI (hN) ?_
  refine r_iconst (v := 0) 22 hZ dX3_addOld_21 rfl (by decide) ?_
  refine s_c5 23 hZ (by first | assumption | exact vp_in_nI (by omega) (by decide) | (unfold vp_in; decide)) dX3_addOld_22 rfl ?_
  rw [hci, show vp_nar .boolean 0 = 0 from rfl]
  refine r_aload_n 24 hZ 0 dX3_addOld_23 rfl rfl rfl ?_
  refine r_dup 25 hZ dX3_addOld_24 rfl rfl ?_
  refine g_X3_38 28 hZ dX3_addOld_25 rfl ?_
  refine w_eqI (hO) ?_
  refine r_iconst (v := 1) 29 hZ dX3_addOld_28 rfl (by decide) ?_
  refine r_iadd 30 hZ dX3_addOld_29 rfl ?_
  rw [nI_1]
  refine p_X3_38 33 hZ dX3_addOld_30 rfl ?_
  refine r_aload_n 34 hZ 0 dX3_addOld_33 rfl rfl rfl ?_
  refine r_iconst (v := 1) 35 hZ dX3_addOld_34 rfl (by decide) ?_
  refine r_iload_n 36 hZ 1 dX3_addOld_35 rfl rfl rfl ?_
  refine r_iload_n 37 hZ 2 dX3_addOld_36 rfl rfl rfl ?_
  refine r_callVI (c_X3_addAnd l g y ad _ (N := N) (by exact hN) hN2 1 hx hz) wM_X3_addAnd wL_X3_51 hZ rfl ⟨by decide, by decide⟩ 1 3 rfl rfl rfl rfl dX3_addOld_37 ?_
  exact hret _ _ _ _ dX3_addOld_40 rfl rfl
set_option maxHeartbeats 4000000 in
set_option maxRecDepth 100000 in
theorem c_X3_addAsked (l : Launch) (g : va_G) (y : Nat → ClassId) (ad : Nat → Nat) (σ : Nat → Nat → Int32) {N A : Nat} (hN : σ 0 1 = nI N) (hN2 : N < 38) (hA : σ 0 4 = nI A) {x z : Int32} (hx : okL x 76) (hz : okL z 76) : w_C l g y yX3_addAsked cX3_addAsked 3 (some .int) 2 [.ref (ad 1), .int x, .int z] (cw ad y σ) (some (.int (nI (2 * N)))) (cw ad y (addAndF (up σ 0 4 (nI (A + 1))) N 2 x z)) := by
  refine w_ofI (lv0 := [(0, .ref (ad 1)), (1, .int x), (2, .int z)]) (by decide +kernel) (Nat.le_of_ble_eq_true rfl) rfl (rfl) ?_
  intro Z hZ hret
  refine r_aload_n 1 hZ 0 dX3_addAsked_0 rfl rfl rfl ?_
  refine r_dup 2 hZ dX3_addAsked_1 rfl rfl ?_
  refine g_X3_41 5 hZ dX3_addAsked_2 rfl ?_
  refine w_eqI (hA) ?_
  refine r_iconst (v := 1) 6 hZ dX3_addAsked_5 rfl (by decide) ?_
  refine r_iadd 7 hZ dX3_addAsked_6 rfl ?_
  rw [nI_1]
  refine p_X3_41 10 hZ dX3_addAsked_7 rfl ?_
  refine r_aload_n 11 hZ 0 dX3_addAsked_10 rfl rfl rfl ?_
  refine r_iconst (v := 2) 12 hZ dX3_addAsked_11 rfl (by decide) ?_
  refine r_iload_n 13 hZ 1 dX3_addAsked_12 rfl rfl rfl ?_
  refine r_iload_n 14 hZ 2 dX3_addAsked_13 rfl rfl rfl ?_
  refine r_callVI (c_X3_addAnd l g y ad _ (N := N) (by exact hN) hN2 2 hx hz) wM_X3_addAnd wL_X3_51 hZ rfl ⟨by decide, by decide⟩ 1 3 rfl rfl rfl rfl dX3_addAsked_14 ?_
  exact hret _ _ _ _ dX3_addAsked_17 rfl rfl
set_option maxHeartbeats 4000000 in
set_option maxRecDepth 100000 in
theorem c_X3_rewire (l : Launch) (g : va_G) (y : Nat → ClassId) (ad : Nat → Nat) (σ : Nat → Nat → Int32) {j : Nat} (hj : j < 42) (h : okL (σ 17 j) 38) : w_C l g y yX3_rewire cX3_rewire 2 none 0 [.ref (ad 1), .ref (ad (25 + j))] (cw ad y σ) none (cw ad y (rwF σ j)) := by
  refine w_ofV (lv0 := [(0, .ref (ad 1)), (1, .ref (ad (25 + j)))]) (by decide +kernel) (Nat.le_of_ble_eq_true rfl) rfl ?_
  intro Z hZ hret
  refine r_aload_n 1 hZ 0 dX3_rewire_0 rfl rfl rfl ?_
  refine g_X3_15 4 hZ dX3_rewire_1 rfl ?_
  refine r_aload_n 5 hZ 1 dX3_rewire_4 rfl rfl rfl ?_
  refine g_X3_59 8 hZ (by first | assumption | omega) dX3_rewire_5 rfl ?_
  refine r_aload_n 9 hZ 1 dX3_rewire_8 rfl rfl rfl ?_
  refine g_X3_64 12 hZ (by first | assumption | omega) dX3_rewire_9 rfl ?_
  refine s_c2 13 hZ (okL_in h (by decide)) dX3_rewire_12 rfl ?_
  refine r_aload_n 14 hZ 0 dX3_rewire_13 rfl rfl rfl ?_
  refine g_X3_18 17 hZ dX3_rewire_14 rfl ?_
  refine r_aload_n 18 hZ 1 dX3_rewire_17 rfl rfl rfl ?_
  refine g_X3_59 21 hZ (by first | assumption | omega) dX3_rewire_18 rfl ?_
  refine r_aload_n 22 hZ 1 dX3_rewire_21 rfl rfl rfl ?_
  refine g_X3_66 25 hZ (by first | assumption | omega) dX3_rewire_22 rfl ?_
  refine s_c3 26 hZ (okL_in h (by decide)) dX3_rewire_25 rfl ?_
  exact hret _ _ _ dX3_rewire_26 rfl
set_option maxHeartbeats 4000000 in
set_option maxRecDepth 100000 in
theorem c_X3_refreshOldColumns (l : Launch) (g : va_G) (y : Nat → ClassId) (ad : Nat → Nat) (σ : Nat → Nat → Int32) {I O : Nat} (hI : σ 0 2 = nI I) (hO : σ 0 3 = nI O) (hIO : 1 + I + O ≤ 14) (hw : ∀ n, 1 + I ≤ n → n < 1 + I + O → okL (σ 6 n) 38 ∧ okL (σ 2 (ix (σ 6 n))) 76 ∧ okL (σ 3 (ix (σ 6 n))) 76) : w_C l g y yX3_refreshOldColumns cX3_refreshOldColumns 3 none 1 [.ref (ad 1)] (cw ad y σ) none (cw ad y (rf σ (1 + I) O)) := by
  refine w_ofV (lv0 := [(0, .ref (ad 1))]) (by decide +kernel) (Nat.le_of_ble_eq_true rfl) rfl ?_
  intro Z hZ hret
  refine r_aload_n 1 hZ 0 dX3_refreshOldColumns_0 rfl rfl rfl ?_
  refine r_callVI (c_X3_firstOld l g y ad _ hI) wM_X3_firstOld wL_X3_68 hZ rfl ⟨by decide, by decide⟩ 1 3 rfl rfl rfl rfl dX3_refreshOldColumns_1 ?_
  refine r_istnN 5 [(0, _), (1, _)] hZ dX3_refreshOldColumns_4 rfl rfl (by decide) rfl rfl ?_
  have lp_5 : ∀ (n : Nat) (i : Nat), i ≤ O → O + 1 ≤ i + n → Z 0 0 (cw ad y (rf σ (1 + I) i)) 5 [(0, .ref (ad 1)), (1, .int (nI (1 + I + i)))] [] := by
    intro n
    induction n with
    | zero => intro i h1 hn_5; exact absurd hn_5 (by omega)
    | succ n ih_5 =>
      intro i h1 hn_5
      refine r_iload_n 6 hZ 1 dX3_refreshOldColumns_5 rfl rfl rfl ?_
      refine r_aload_n 7 hZ 0 dX3_refreshOldColumns_6 rfl rfl rfl ?_
      refine r_callVI (c_X3_owned l g y ad _ (I := I) (O := O) ((congrFun (rf_k σ (1 + I) 0 (by decide) i) 2).trans hI) ((congrFun (rf_k σ (1 + I) 0 (by decide) i) 3).trans hO)) wM_X3_owned wL_X3_44 hZ rfl ⟨by decide, by decide⟩ 1 3 rfl rfl rfl rfl dX3_refreshOldColumns_7 ?_
      refine r_icmp_ge 59 13 hZ dX3_refreshOldColumns_10 (by decide) rfl (fun c_10 => ?_) (fun c_10 => ?_)
      · skip
        have hi := nI_leq (by omega) (by omega) c_10
        have hi : i = O := by omega
        subst hi
        exact hret _ _ _ dX3_refreshOldColumns_59 rfl
      · skip
        have hi := nI_nleq (by omega) (by omega) c_10
        obtain ⟨k1, k2, k3⟩ := hw (1 + I + i) (by omega) (by omega)
        have hci := nI_clamp (n := 1 + I + i) (by omega)
        have e6 := congrFun (rf_k σ (1 + I) 6 (by decide) i) (1 + I + i)
        have e2 := congrFun (rf_k σ (1 + I) 2 (by decide) i) (ix (σ 6 (1 + I + i)))
        have e3 := congrFun (rf_k σ (1 + I) 3 (by decide) i) (ix (σ 6 (1 + I + i)))
        refine r_aload_n 14 hZ 0 dX3_refreshOldColumns_13 rfl rfl rfl ?_
        refine g_X3_28 17 hZ dX3_refreshOldColumns_14 rfl ?_
        refine r_iload_n 18 hZ 1 dX3_refreshOldColumns_17 rfl rfl rfl ?_
        refine a_c6 19 hZ (by first | assumption | exact vp_in_nI (by omega) (by decide) | (unfold vp_in; decide)) dX3_refreshOldColumns_18 rfl ?_
        rw [hci, e6]
        refine r_istnN 20 [(0, _), (1, _), (2, _)] hZ dX3_refreshOldColumns_19 rfl rfl (by decide) rfl rfl ?_
        refine r_aload_n 21 hZ 0 dX3_refreshOldColumns_20 rfl rfl rfl ?_
        refine g_X3_21 24 hZ dX3_refreshOldColumns_21 rfl ?_
        refine r_iload_n 25 hZ 2 dX3_refreshOldColumns_24 rfl rfl rfl ?_
        refine r_aload_n 26 hZ 0 dX3_refreshOldColumns_25 rfl rfl rfl ?_
        refine g_X3_21 29 hZ dX3_refreshOldColumns_26 rfl ?_
        refine r_aload_n 30 hZ 0 dX3_refreshOldColumns_29 rfl rfl rfl ?_
        refine g_X3_15 33 hZ dX3_refreshOldColumns_30 rfl ?_
        refine r_iload_n 34 hZ 2 dX3_refreshOldColumns_33 rfl rfl rfl ?_
        refine a_c2 35 hZ (okL_in k1 (by decide)) dX3_refreshOldColumns_34 rfl ?_
        refine w_eqI (e2) ?_
        refine r_callSNI (c_X7_column_4 l g y ad _ k2) wM_X7_column w_nw_X3_55 hZ rfl ⟨by decide, by decide⟩ rfl rfl dX3_refreshOldColumns_35 ?_
        refine r_aload_n 39 hZ 0 dX3_refreshOldColumns_38 rfl rfl rfl ?_
        refine g_X3_21 42 hZ dX3_refreshOldColumns_39 rfl ?_
        refine r_aload_n 43 hZ 0 dX3_refreshOldColumns_42 rfl rfl rfl ?_
        refine g_X3_18 46 hZ dX3_refreshOldColumns_43 rfl ?_
        refine r_iload_n 47 hZ 2 dX3_refreshOldColumns_46 rfl rfl rfl ?_
        refine a_c3 48 hZ (okL_in k1 (by decide)) dX3_refreshOldColumns_47 rfl ?_
        refine w_eqI (e3) ?_
        refine r_callSNI (c_X7_column_4 l g y ad _ k3) wM_X7_column w_nw_X3_55 hZ rfl ⟨by decide, by decide⟩ rfl rfl dX3_refreshOldColumns_48 ?_
        refine r_iand 52 hZ dX3_refreshOldColumns_51 rfl ?_
        refine s_c4 53 hZ (okL_in k1 (by decide)) dX3_refreshOldColumns_52 rfl ?_
        refine r_iinc 56 1 1 [(0, _), (1, _), (2, _)] hZ dX3_refreshOldColumns_53 rfl rfl (by decide) (by decide) rfl rfl ?_
        refine r_goto 5 hZ dX3_refreshOldColumns_56 (by decide) ?_
        rw [nI_1]
        exact w_take 2 hZ (ih_5 (i + 1) (by omega) (by omega))
  exact lp_5 (O + 1) 0 (by omega) (by omega)
set_option maxHeartbeats 4000000 in
set_option maxRecDepth 100000 in
theorem c_X3_keptNodes (l : Launch) (g : va_G) (y : Nat → ClassId) (ad : Nat → Nat) (σ : Nat → Nat → Int32) {I O : Nat} (hI : σ 0 2 = nI I) (hO : σ 0 3 = nI O) (hIO : 1 + I + O ≤ 14) (hw : ∀ n, 1 + I ≤ n → n < 1 + I + O → okL (σ 6 n) 38) : w_C l g y yX3_keptNodes cX3_keptNodes 3 (some .int) 1 [.ref (ad 1)] (cw ad y σ) (some (.int (nI (cnt (fun i => ¬ σ 5 (ix (σ 6 (1 + I + i))) = 0) O)))) (cw ad y σ) := by
  refine w_ofI (lv0 := [(0, .ref (ad 1))]) (by decide +kernel) (Nat.le_of_ble_eq_true rfl) rfl (rfl) ?_
  intro Z hZ hret
  refine r_iconst (v := 0) 1 hZ dX3_keptNodes_0 rfl (by decide) ?_
  refine r_istnN 2 [(0, _), (1, _)] hZ dX3_keptNodes_1 rfl rfl (by decide) rfl rfl ?_
  refine r_aload_n 3 hZ 0 dX3_keptNodes_2 rfl rfl rfl ?_
  refine r_callVI (c_X3_firstOld l g y ad _ hI) wM_X3_firstOld wL_X3_68 hZ rfl ⟨by decide, by decide⟩ 1 3 rfl rfl rfl rfl dX3_keptNodes_3 ?_
  refine r_istnN 7 [(0, _), (1, _), (2, _)] hZ dX3_keptNodes_6 rfl rfl (by decide) rfl rfl ?_
  have lp_7 : ∀ (n : Nat) (i : Nat), i ≤ O → O + 1 ≤ i + n → Z 0 0 (cw ad y σ) 7 [(0, .ref (ad 1)), (1, .int (nI (cnt (fun i => ¬ σ 5 (ix (σ 6 (1 + I + i))) = 0) i))), (2, .int (nI (1 + I + i)))] [] := by
    intro n
    induction n with
    | zero => intro i h1 hn_7; exact absurd hn_7 (by omega)
    | succ n ih_7 =>
      intro i h1 hn_7
      refine r_iload_n 8 hZ 2 dX3_keptNodes_7 rfl rfl rfl ?_
      refine r_aload_n 9 hZ 0 dX3_keptNodes_8 rfl rfl rfl ?_
      refine r_callVI (c_X3_owned l g y ad _ hI hO) wM_X3_owned wL_X3_44 hZ rfl ⟨by decide, by decide⟩ 1 3 rfl rfl rfl rfl dX3_keptNodes_9 ?_
      refine r_icmp_ge 38 15 hZ dX3_keptNodes_12 (by decide) rfl (fun c_12 => ?_) (fun c_12 => ?_)
      · skip
        have hi := nI_leq (by omega) (by omega) c_12
        have hi : i = O := by omega
        subst hi
        refine r_iload_n 39 hZ 1 dX3_keptNodes_38 rfl rfl rfl ?_
        exact hret _ _ _ _ dX3_keptNodes_39 rfl rfl
      · skip
        have hi := nI_nleq (by omega) (by omega) c_12
        have k1 := hw (1 + I + i) (by omega) (by omega)
        have hci := nI_clamp (n := 1 + I + i) (by omega)
        refine r_aload_n 16 hZ 0 dX3_keptNodes_15 rfl rfl rfl ?_
        refine g_X3_24 19 hZ dX3_keptNodes_16 rfl ?_
        refine r_aload_n 20 hZ 0 dX3_keptNodes_19 rfl rfl rfl ?_
        refine g_X3_28 23 hZ dX3_keptNodes_20 rfl ?_
        refine r_iload_n 24 hZ 2 dX3_keptNodes_23 rfl rfl rfl ?_
        refine a_c6 25 hZ (by first | assumption | exact vp_in_nI (by omega) (by decide) | (unfold vp_in; decide)) dX3_keptNodes_24 rfl ?_
        rw [hci]
        refine a_c5 26 hZ (okL_in k1 (by decide)) dX3_keptNodes_25 rfl ?_
        refine r_if_eq 32 29 hZ dX3_keptNodes_26 (by decide) rfl (fun c_26 => ?_) (fun c_26 => ?_)
        · skip
          have hk := cnt_f (P := fun i => ¬ σ 5 (ix (σ 6 (1 + I + i))) = 0) (i := i) (fun q => q c_26)
          rw [← hk]
          first | rw [nI_1, ← hk] | skip
          refine r_iinc 35 2 1 [(0, _), (1, _), (2, _)] hZ dX3_keptNodes_32 rfl rfl (by decide) (by decide) rfl rfl ?_
          refine r_goto 7 hZ dX3_keptNodes_35 (by decide) ?_
          rw [nI_1] at *
          exact ih_7 (i + 1) (by omega) (by omega)
        · skip
          have hk := cnt_t (P := fun i => ¬ σ 5 (ix (σ 6 (1 + I + i))) = 0) (i := i) c_26
          refine r_iinc 32 1 1 [(0, _), (1, _), (2, _)] hZ dX3_keptNodes_29 rfl rfl (by decide) (by decide) rfl rfl ?_
          first | rw [nI_1, ← hk] | skip
          refine r_iinc 35 2 1 [(0, _), (1, _), (2, _)] hZ dX3_keptNodes_32 rfl rfl (by decide) (by decide) rfl rfl ?_
          refine r_goto 7 hZ dX3_keptNodes_35 (by decide) ?_
          rw [nI_1] at *
          exact ih_7 (i + 1) (by omega) (by omega)
  exact lp_7 (O + 1) 0 (by omega) (by omega)
set_option maxHeartbeats 4000000 in
set_option maxRecDepth 100000 in
theorem c_X3_leastOwnLiteralOf (l : Launch) (g : va_G) (y : Nat → ClassId) (ad : Nat → Nat) (σ : Nat → Nat → Int32) (x : Int32) {I O : Nat} (hI : σ 0 2 = nI I) (hO : σ 0 3 = nI O) (hIO : 1 + I + O ≤ 14) (hw : ∀ n, n < 1 + I + O → okL (σ 6 n) 38) : w_C l g y yX3_leastOwnLiteralOf cX3_leastOwnLiteralOf 3 (some .int) 1 [.ref (ad 1), .int x] (cw ad y σ) (some (.int (oI (gfind (fun n => opt (cl (σ 4) (2 * ix (σ 6 (n / 2)) + n % 2) = x) (2 * ix (σ 6 (n / 2)) + n % 2)) 0 (2 * (1 + I + O)))))) (cw ad y σ) := by
  refine w_ofI (lv0 := [(0, .ref (ad 1)), (1, .int x)]) (by decide +kernel) (Nat.le_of_ble_eq_true rfl) rfl (rfl) ?_
  intro Z hZ hret
  generalize hF : (fun n => opt (cl (σ 4) (2 * ix (σ 6 (n / 2)) + n % 2) = x) (2 * ix (σ 6 (n / 2)) + n % 2)) = F at hret
  refine r_iconst (v := 0) 1 hZ dX3_leastOwnLiteralOf_0 rfl (by decide) ?_
  refine r_istnN 2 [(0, _), (1, _), (2, _)] hZ dX3_leastOwnLiteralOf_1 rfl rfl (by decide) rfl rfl ?_
  have lp_2 : ∀ (n : Nat) (i : Nat), i ≤ 2 * (1 + I + O) → 2 * (1 + I + O) + 1 ≤ i + n → gfind F 0 (2 * (1 + I + O)) = gfind F i (2 * (1 + I + O) - i) → Z 0 0 (cw ad y σ) 2 [(0, .ref (ad 1)), (1, .int x), (2, .int (nI i))] [] := by
    intro n
    induction n with
    | zero => intro i h1 hn_2 hg; exact absurd hn_2 (by omega)
    | succ n ih_2 =>
      intro i h1 hn_2 hg
      refine r_iload_n 3 hZ 2 dX3_leastOwnLiteralOf_2 rfl rfl rfl ?_
      refine r_iconst (v := 2) 4 hZ dX3_leastOwnLiteralOf_3 rfl (by decide) ?_
      refine r_aload_n 5 hZ 0 dX3_leastOwnLiteralOf_4 rfl rfl rfl ?_
      refine r_callVI (c_X3_owned l g y ad _ hI hO) wM_X3_owned wL_X3_44 hZ rfl ⟨by decide, by decide⟩ 1 3 rfl rfl rfl rfl dX3_leastOwnLiteralOf_5 ?_
      refine r_imul 9 hZ dX3_leastOwnLiteralOf_8 rfl ?_
      rw [nI_2]
      refine r_icmp_ge 40 12 hZ dX3_leastOwnLiteralOf_9 (by decide) rfl (fun c_9 => ?_) (fun c_9 => ?_)
      · skip
        have hi := nI_leq (by omega) (by omega) c_9
        have hi : i = 2 * (1 + I + O) := by omega
        subst hi
        refine r_iconst (v := (-1)) 41 hZ dX3_leastOwnLiteralOf_40 rfl (by decide) ?_
        exact hret _ _ _ _ dX3_leastOwnLiteralOf_41 (by rw [hg, show 2 * (1 + I + O) - 2 * (1 + I + O) = 0 by omega, gfind_0]; rfl) rfl
      · skip
        have hi := nI_nleq (by omega) (by omega) c_9
        have hb : 2 * (1 + I + O) - i = (2 * (1 + I + O) - (i + 1)) + 1 := by omega
        have k1 := hw (i / 2) (by omega)
        refine r_aload_n 13 hZ 0 dX3_leastOwnLiteralOf_12 rfl rfl rfl ?_
        refine g_X3_21 16 hZ dX3_leastOwnLiteralOf_13 rfl ?_
        refine r_aload_n 17 hZ 0 dX3_leastOwnLiteralOf_16 rfl rfl rfl ?_
        refine r_iload_n 18 hZ 2 dX3_leastOwnLiteralOf_17 rfl rfl rfl ?_
        refine r_callVI (c_X3_ownLiteral l g y ad _ (n := i) (by omega) k1) wM_X3_ownLiteral wL_X3_71 hZ rfl ⟨by decide, by decide⟩ 1 3 rfl rfl rfl rfl dX3_leastOwnLiteralOf_18 ?_
        refine r_callSNI (c_X7_column_4 l g y ad _ (x := nI (2 * ix (σ 6 (i / 2)) + i % 2)) (okL_nI (by have := k1.2; omega) (by decide))) wM_X7_column w_nw_X3_55 hZ rfl ⟨by decide, by decide⟩ rfl rfl dX3_leastOwnLiteralOf_21 ?_
        rw [ix_nI (by have := k1.2; omega)]
        refine r_iload_n 25 hZ 1 dX3_leastOwnLiteralOf_24 rfl rfl rfl ?_
        refine r_icmp_ne 34 28 hZ dX3_leastOwnLiteralOf_25 (by decide) rfl (fun c_25 => ?_) (fun c_25 => ?_)
        · skip
          have hF1 : F i = none := by rw [← hF]; exact opt_f c_25
          refine r_iinc 37 2 1 [(0, _), (1, _), (2, _)] hZ dX3_leastOwnLiteralOf_34 rfl rfl (by decide) (by decide) rfl rfl ?_
          refine r_goto 2 hZ dX3_leastOwnLiteralOf_37 (by decide) ?_
          rw [nI_1]
          exact ih_2 (i + 1) (by omega) (by omega) (by rw [hg, hb, gfind_n hF1])
        · skip
          have hF1 : F i = some (2 * ix (σ 6 (i / 2)) + i % 2) := by rw [← hF]; exact opt_t c_25
          refine r_aload_n 29 hZ 0 dX3_leastOwnLiteralOf_28 rfl rfl rfl ?_
          refine r_iload_n 30 hZ 2 dX3_leastOwnLiteralOf_29 rfl rfl rfl ?_
          refine r_callVI (c_X3_ownLiteral l g y ad _ (n := i) (by omega) k1) wM_X3_ownLiteral wL_X3_71 hZ rfl ⟨by decide, by decide⟩ 1 3 rfl rfl rfl rfl dX3_leastOwnLiteralOf_30 ?_
          exact hret _ _ _ _ dX3_leastOwnLiteralOf_33 (by rw [hg, hb, gfind_s hF1]; rfl) rfl
  exact lp_2 (2 * (1 + I + O) + 1) 0 (by omega) (by omega) rfl
set_option maxHeartbeats 4000000 in
set_option maxRecDepth 100000 in
theorem c_X6_offer (l : Launch) (g : va_G) (y : Nat → ClassId) (ad : Nat → Nat) (σ : Nat → Nat → Int32) (v s t : Int32) : w_C l g y yX6_offer cX6_offer 4 none 0 [.ref (ad 5), .int v, .int s, .int t] (cw ad y σ) none (cw ad y (ofF σ v s t)) := by
  refine w_ofV (lv0 := [(0, .ref (ad 5)), (1, .int v), (2, .int s), (3, .int t)]) (by decide +kernel) (Nat.le_of_ble_eq_true rfl) rfl ?_
  intro Z hZ hret
  refine r_aload_n 1 hZ 0 dX6_offer_0 rfl rfl rfl ?_
  refine g_X6_19 4 hZ dX6_offer_1 rfl ?_
  refine r_iconst (v := (-1)) 5 hZ dX6_offer_4 rfl (by decide) ?_
  refine r_icmp_eq 16 8 hZ dX6_offer_5 (by decide) rfl (fun c_5 => ?_) (fun c_5 => ?_)
  · skip
    refine r_aload_n 17 hZ 0 dX6_offer_16 rfl rfl rfl ?_
    refine r_iload_n 18 hZ 1 dX6_offer_17 rfl rfl rfl ?_
    refine p_X6_19 21 hZ dX6_offer_18 rfl ?_
    refine r_aload_n 22 hZ 0 dX6_offer_21 rfl rfl rfl ?_
    refine g_X6_15 25 hZ dX6_offer_22 rfl ?_
    refine r_iconst (v := 0) 26 hZ dX6_offer_25 rfl (by decide) ?_
    refine r_iload_n 27 hZ 2 dX6_offer_26 rfl rfl rfl ?_
    refine s_c15 28 hZ (by first | assumption | exact vp_in_nI (by omega) (by decide) | (unfold vp_in; decide)) dX6_offer_27 rfl ?_
    refine r_aload_n 29 hZ 0 dX6_offer_28 rfl rfl rfl ?_
    refine g_X6_15 32 hZ dX6_offer_29 rfl ?_
    refine r_iconst (v := 1) 33 hZ dX6_offer_32 rfl (by decide) ?_
    refine r_iload_n 34 hZ 3 dX6_offer_33 rfl rfl rfl ?_
    refine s_c15 35 hZ (by first | assumption | exact vp_in_nI (by omega) (by decide) | (unfold vp_in; decide)) dX6_offer_34 rfl ?_
    exact hret _ _ _ dX6_offer_35 (by unfold ofF; first | exact congrArg _ (if_pos (Or.inl c_5)).symm | exact congrArg _ (if_pos (Or.inr (Int32.not_le.mp c_13))).symm | exact congrArg _ (if_neg (fun q => q.elim c_5 (fun q => absurd c_13 (Int32.not_le.mpr q)))).symm)
  · skip
    refine r_iload_n 9 hZ 1 dX6_offer_8 rfl rfl rfl ?_
    refine r_aload_n 10 hZ 0 dX6_offer_9 rfl rfl rfl ?_
    refine g_X6_19 13 hZ dX6_offer_10 rfl ?_
    refine r_icmp_ge 35 16 hZ dX6_offer_13 (by decide) rfl (fun c_13 => ?_) (fun c_13 => ?_)
    · skip
      exact hret _ _ _ dX6_offer_35 (by unfold ofF; first | exact congrArg _ (if_pos (Or.inl c_5)).symm | exact congrArg _ (if_pos (Or.inr (Int32.not_le.mp c_13))).symm | exact congrArg _ (if_neg (fun q => q.elim c_5 (fun q => absurd c_13 (Int32.not_le.mpr q)))).symm)
    · skip
      refine r_aload_n 17 hZ 0 dX6_offer_16 rfl rfl rfl ?_
      refine r_iload_n 18 hZ 1 dX6_offer_17 rfl rfl rfl ?_
      refine p_X6_19 21 hZ dX6_offer_18 rfl ?_
      refine r_aload_n 22 hZ 0 dX6_offer_21 rfl rfl rfl ?_
      refine g_X6_15 25 hZ dX6_offer_22 rfl ?_
      refine r_iconst (v := 0) 26 hZ dX6_offer_25 rfl (by decide) ?_
      refine r_iload_n 27 hZ 2 dX6_offer_26 rfl rfl rfl ?_
      refine s_c15 28 hZ (by first | assumption | exact vp_in_nI (by omega) (by decide) | (unfold vp_in; decide)) dX6_offer_27 rfl ?_
      refine r_aload_n 29 hZ 0 dX6_offer_28 rfl rfl rfl ?_
      refine g_X6_15 32 hZ dX6_offer_29 rfl ?_
      refine r_iconst (v := 1) 33 hZ dX6_offer_32 rfl (by decide) ?_
      refine r_iload_n 34 hZ 3 dX6_offer_33 rfl rfl rfl ?_
      refine s_c15 35 hZ (by first | assumption | exact vp_in_nI (by omega) (by decide) | (unfold vp_in; decide)) dX6_offer_34 rfl ?_
      exact hret _ _ _ dX6_offer_35 (by unfold ofF; first | exact congrArg _ (if_pos (Or.inl c_5)).symm | exact congrArg _ (if_pos (Or.inr (Int32.not_le.mp c_13))).symm | exact congrArg _ (if_neg (fun q => q.elim c_5 (fun q => absurd c_13 (Int32.not_le.mpr q)))).symm)
set_option maxHeartbeats 4000000 in
set_option maxRecDepth 100000 in
theorem c_X6_takeForOne (l : Launch) (g : va_G) (y : Nat → ClassId) (ad : Nat → Nat) (σ : Nat → Nat → Int32) {a S : Nat} (ha : a < 38) (hS : σ 0 6 = nI S) (hS6 : S ≤ 6) : w_C l g y yX6_takeForOne cX6_takeForOne 3 none 2 [.ref (ad 5), .int (nI a)] (cw ad y σ) none (cw ad y (t1F σ a S)) := by
  refine w_ofV (lv0 := [(0, .ref (ad 5)), (1, .int (nI a))]) (by decide +kernel) (Nat.le_of_ble_eq_true rfl) rfl ?_
  intro Z hZ hret
  refine r_iconst (v := 0) 1 hZ dX6_takeForOne_0 rfl (by decide) ?_
  refine r_istnN 2 [(0, _), (1, _), (2, _)] hZ dX6_takeForOne_1 rfl rfl (by decide) rfl rfl ?_
  have lp_2 : ∀ (n : Nat) (i : Nat), i ≤ S → S + 1 ≤ i + n → Z 0 0 (cw ad y (t1F σ a i)) 2 [(0, .ref (ad 5)), (1, .int (nI a)), (2, .int (nI i))] [] := by
    intro n
    induction n with
    | zero => intro i h1 hn_2; exact absurd hn_2 (by omega)
    | succ n ih_2 =>
      intro i h1 hn_2
      refine r_iload_n 3 hZ 2 dX6_takeForOne_2 rfl rfl rfl ?_
      refine r_aload_n 4 hZ 0 dX6_takeForOne_3 rfl rfl rfl ?_
      refine g_X6_9 7 hZ dX6_takeForOne_4 rfl ?_
      refine g_X6_36 10 hZ dX6_takeForOne_7 rfl ?_
      refine w_eqI ((t1F_0 σ a 6 (by decide) i).trans hS) ?_
      refine r_icmp_ge 34 13 hZ dX6_takeForOne_10 (by decide) rfl (fun c_10 => ?_) (fun c_10 => ?_)
      · skip
        have hi := nI_leq (by omega) (by omega) c_10
        have hi : i = S := by omega
        subst hi
        exact hret _ _ _ dX6_takeForOne_34 rfl
      · skip
        have hi := nI_nleq (by omega) (by omega) c_10
        refine r_aload_n 14 hZ 0 dX6_takeForOne_13 rfl rfl rfl ?_
        refine r_aload_n 15 hZ 0 dX6_takeForOne_14 rfl rfl rfl ?_
        refine g_X6_9 18 hZ dX6_takeForOne_15 rfl ?_
        refine r_iload_n 19 hZ 1 dX6_takeForOne_18 rfl rfl rfl ?_
        refine r_iload_n 20 hZ 2 dX6_takeForOne_19 rfl rfl rfl ?_
        refine r_callVI (c_X0_distance l g y ad _ (j := a) (s := i) ha (by omega)) wM_X0_distance wL_X6_41 hZ rfl ⟨by decide, by decide⟩ 3 0 rfl rfl rfl rfl dX6_takeForOne_20 ?_
        refine r_iload_n 24 hZ 2 dX6_takeForOne_23 rfl rfl rfl ?_
        refine r_iconst (v := (-1)) 25 hZ dX6_takeForOne_24 rfl (by decide) ?_
        refine r_callVV (c_X6_offer l g y ad _ _ _ _) wM_X6_offer wL_X6_45 hZ rfl ⟨by decide, by decide⟩ 5 6 rfl rfl rfl rfl dX6_takeForOne_25 ?_
        refine r_iinc 31 2 1 [(0, _), (1, _), (2, _)] hZ dX6_takeForOne_28 rfl rfl (by decide) (by decide) rfl rfl ?_
        refine r_goto 2 hZ dX6_takeForOne_31 (by decide) ?_
        rw [nI_1]
        exact ih_2 (i + 1) (by omega) (by omega)
  exact lp_2 (S + 1) 0 (by omega) (by omega)
set_option maxHeartbeats 4000000 in
set_option maxRecDepth 100000 in
theorem c_X6_takeForTwo (l : Launch) (g : va_G) (y : Nat → ClassId) (ad : Nat → Nat) (σ : Nat → Nat → Int32) {a b S : Nat} (ha : a < 38) (hb : b < 38) (hS : σ 0 6 = nI S) (hS6 : S ≤ 6) : w_C l g y yX6_takeForTwo cX6_takeForTwo 5 none 2 [.ref (ad 5), .int (nI a), .int (nI b)] (cw ad y σ) none (cw ad y (t2F σ a b S S)) := by
  refine w_ofV (lv0 := [(0, .ref (ad 5)), (1, .int (nI a)), (2, .int (nI b))]) (by decide +kernel) (Nat.le_of_ble_eq_true rfl) rfl ?_
  intro Z hZ hret
  refine r_iconst (v := 0) 1 hZ dX6_takeForTwo_0 rfl (by decide) ?_
  refine r_istnN 2 [(0, _), (1, _), (2, _), (3, _)] hZ dX6_takeForTwo_1 rfl rfl (by decide) rfl rfl ?_
  have lp_2 : ∀ (n : Nat) (i : Nat), i ≤ S → S + 1 ≤ i + n → Z 0 0 (cw ad y (t2F σ a b S i)) 2 [(0, .ref (ad 5)), (1, .int (nI a)), (2, .int (nI b)), (3, .int (nI i))] [] := by
    intro n
    induction n with
    | zero => intro i h1 hn_2; exact absurd hn_2 (by omega)
    | succ n ih_2 =>
      intro i h1 hn_2
      refine r_iload_n 3 hZ 3 dX6_takeForTwo_2 rfl rfl rfl ?_
      refine r_aload_n 4 hZ 0 dX6_takeForTwo_3 rfl rfl rfl ?_
      refine g_X6_9 7 hZ dX6_takeForTwo_4 rfl ?_
      refine g_X6_36 10 hZ dX6_takeForTwo_7 rfl ?_
      refine w_eqI ((t2F_0 σ a b S 6 (by decide) i).trans hS) ?_
      refine r_icmp_ge 73 13 hZ dX6_takeForTwo_10 (by decide) rfl (fun c_10 => ?_) (fun c_10 => ?_)
      · skip
        have hi := nI_leq (by omega) (by omega) c_10
        have hi : i = S := by omega
        subst hi
        exact hret _ _ _ dX6_takeForTwo_73 rfl
      · skip
        have hi := nI_nleq (by omega) (by omega) c_10
        refine r_iconst (v := 0) 14 hZ dX6_takeForTwo_13 rfl (by decide) ?_
        refine r_istN (q := 0) 16 [(0, _), (1, _), (2, _), (3, _), (4, _)] hZ dX6_takeForTwo_14 rfl (by decide) rfl rfl ?_
        have lp_16 : ∀ (n : Nat) (j : Nat), j ≤ S → S + 1 ≤ j + n → Z 0 0 (cw ad y (t2I (t2F σ a b S i) a b i j)) 16 [(0, .ref (ad 5)), (1, .int (nI a)), (2, .int (nI b)), (3, .int (nI i)), (4, .int (nI j))] [] := by
          intro n
          induction n with
          | zero => intro j h1j hn_16; exact absurd hn_16 (by omega)
          | succ n ih_16 =>
            intro j h1j hn_16
            refine r_iload 18 hZ 4 dX6_takeForTwo_16 rfl rfl ?_
            refine r_aload_n 19 hZ 0 dX6_takeForTwo_18 rfl rfl rfl ?_
            refine g_X6_9 22 hZ dX6_takeForTwo_19 rfl ?_
            refine g_X6_36 25 hZ dX6_takeForTwo_22 rfl ?_
            refine w_eqI ((t2I_0 _ a b i 6 (by decide) j).trans ((t2F_0 σ a b S 6 (by decide) i).trans hS)) ?_
            refine r_icmp_ge 67 28 hZ dX6_takeForTwo_25 (by decide) rfl (fun c_25 => ?_) (fun c_25 => ?_)
            · skip
              have hj := nI_leq (by omega) (by omega) c_25
              have hj : j = S := by omega
              subst hj
              refine r_iinc 70 3 1 [(0, _), (1, _), (2, _), (3, _), (4, _)] hZ dX6_takeForTwo_67 rfl rfl (by decide) (by decide) rfl rfl ?_
              refine r_goto 2 hZ dX6_takeForTwo_70 (by decide) ?_
              rw [nI_1]
              exact w_take 4 hZ (ih_2 (i + 1) (by omega) (by omega))
            · skip
              have hj := nI_nleq (by omega) (by omega) c_25
              refine r_iload_n 29 hZ 3 dX6_takeForTwo_28 rfl rfl rfl ?_
              refine r_iload 31 hZ 4 dX6_takeForTwo_29 rfl rfl ?_
              refine r_icmp_eq 61 34 hZ dX6_takeForTwo_31 (by decide) rfl (fun c_31 => ?_) (fun c_31 => ?_)
              · skip
                have e := nI_eqq (by omega) (by omega) c_31
                rw [← t2I_t (σ := t2F σ a b S i) (a := a) (b := b) e]
                try rw [← t2I_f (σ := t2F σ a b S i) (a := a) (b := b) e]
                refine r_iinc 64 4 1 [(0, _), (1, _), (2, _), (3, _), (4, _)] hZ dX6_takeForTwo_61 rfl rfl (by decide) (by decide) rfl rfl ?_
                refine r_goto 16 hZ dX6_takeForTwo_64 (by decide) ?_
                rw [nI_1]
                exact ih_16 (j + 1) (by omega) (by omega)
              · skip
                have e := nI_neqq (by omega) (by omega) c_31
                refine r_aload_n 35 hZ 0 dX6_takeForTwo_34 rfl rfl rfl ?_
                refine r_aload_n 36 hZ 0 dX6_takeForTwo_35 rfl rfl rfl ?_
                refine g_X6_9 39 hZ dX6_takeForTwo_36 rfl ?_
                refine r_iload_n 40 hZ 1 dX6_takeForTwo_39 rfl rfl rfl ?_
                refine r_iload_n 41 hZ 3 dX6_takeForTwo_40 rfl rfl rfl ?_
                refine r_callVI (c_X0_distance l g y ad _ (j := a) (s := i) ha (by omega)) wM_X0_distance wL_X6_41 hZ rfl ⟨by decide, by decide⟩ 3 0 rfl rfl rfl rfl dX6_takeForTwo_41 ?_
                refine r_aload_n 45 hZ 0 dX6_takeForTwo_44 rfl rfl rfl ?_
                refine g_X6_9 48 hZ dX6_takeForTwo_45 rfl ?_
                refine r_iload_n 49 hZ 2 dX6_takeForTwo_48 rfl rfl rfl ?_
                refine r_iload 51 hZ 4 dX6_takeForTwo_49 rfl rfl ?_
                refine r_callVI (c_X0_distance l g y ad _ (j := b) (s := j) hb (by omega)) wM_X0_distance wL_X6_41 hZ rfl ⟨by decide, by decide⟩ 3 0 rfl rfl rfl rfl dX6_takeForTwo_51 ?_
                refine r_iadd 55 hZ dX6_takeForTwo_54 rfl ?_
                refine r_iload_n 56 hZ 3 dX6_takeForTwo_55 rfl rfl rfl ?_
                refine r_iload 58 hZ 4 dX6_takeForTwo_56 rfl rfl ?_
                refine r_callVV (c_X6_offer l g y ad _ _ _ _) wM_X6_offer wL_X6_45 hZ rfl ⟨by decide, by decide⟩ 5 6 rfl rfl rfl rfl dX6_takeForTwo_58 ?_
                try rw [← t2I_f (σ := t2F σ a b S i) (a := a) (b := b) e]
                refine r_iinc 64 4 1 [(0, _), (1, _), (2, _), (3, _), (4, _)] hZ dX6_takeForTwo_61 rfl rfl (by decide) (by decide) rfl rfl ?_
                refine r_goto 16 hZ dX6_takeForTwo_64 (by decide) ?_
                rw [nI_1]
                exact ih_16 (j + 1) (by omega) (by omega)
        exact lp_16 (S + 1) 0 (by omega) (by omega)
  exact lp_2 (S + 1) 0 (by omega) (by omega)
