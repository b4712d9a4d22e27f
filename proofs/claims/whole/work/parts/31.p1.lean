theorem nI_not_lt {a b : Nat} (h : b ≤ a) (ha : a < 2 ^ 31) : ¬ nI a < nI b := nI_nlt h ha
def rdF (σ : stT) (v : Int32) : stT := up σ 0 0 v
theorem okL7 {x : Int32} {N : Nat} (h : okL x (2 * N)) (hN : N ≤ 38) : okL x 76 := okL_mono h (by omega)
def aiF (σ : stT) (N I O : Nat) : stT := up (up (up (up (up σ 6 (1 + I + O) (nI N)) 1 N 0) 4 N (icol I)) 0 2 (nI (I + 1))) 0 1 (nI (N + 1))
set_option maxHeartbeats 4000000 in
set_option maxRecDepth 100000 in
theorem c_X3_addInput (l : Launch) (g : va_G) (y : Nat → ClassId) (ad : Nat → Nat) (σ : Nat → Nat → Int32) {N I O : Nat} (hN : σ 0 1 = nI N) (hI : σ 0 2 = nI I) (hO : σ 0 3 = nI O) (hN2 : N < 38) (hI5 : I < 5) (hIO : 1 + I + O < 14) : w_CE l g y yX3_addInput cX3_addInput 2 (some .int) 1 [.ref (ad 1)] (cw ad y σ) (some (.int (nI (2 * N)))) (cw ad y (aiF σ N I O)) := by
  refine w_ofIE (lv0 := [(0, .ref (ad 1))]) (by decide +kernel) (Nat.le_of_ble_eq_true rfl) rfl ?_
  intro Z hE hret
  have hZ := hE.is
  have hcN := nI_clamp (n := N) (by omega)
  have hcO := nI_clamp (n := 1 + I + O) (by omega)
  have hcI := nI_clamp (n := I) (by omega)
  refine r_aload_n 1 hZ 0 dX3_addInput_0 rfl rfl rfl ?_
  refine g_X3_31 4 hZ dX3_addInput_1 rfl ?_
  refine w_eqI (hN) ?_
  refine r_istnN 5 [(0, _), (1, _)] hZ dX3_addInput_4 rfl rfl (by decide) rfl rfl ?_
  refine r_aload_n 6 hZ 0 dX3_addInput_5 rfl rfl rfl ?_
  refine g_X3_28 9 hZ dX3_addInput_6 rfl ?_
  refine r_aload_n 10 hZ 0 dX3_addInput_9 rfl rfl rfl ?_
  refine r_callVI (c_X3_owned l g y ad σ hI hO) wM_X3_owned wL_X3_44 hZ rfl ⟨by decide, by decide⟩ 1 3 rfl rfl rfl rfl dX3_addInput_10 ?_
  refine r_iload_n 14 hZ 1 dX3_addInput_13 rfl rfl rfl ?_
  refine s_c6 15 hZ (vp_in_nI (show 1 + I + O < 14 by omega) (by decide)) dX3_addInput_14 rfl ?_
  rw [hcO]
  refine r_aload_n 16 hZ 0 dX3_addInput_15 rfl rfl rfl ?_
  refine g_X3_9 19 hZ dX3_addInput_16 rfl ?_
  refine r_iload_n 20 hZ 1 dX3_addInput_19 rfl rfl rfl ?_
  refine r_iconst (v := 0) 21 hZ dX3_addInput_20 rfl (by decide) ?_
  refine s_c1 22 hZ (by first | assumption | exact vp_in_nI (by omega) (by decide) | (unfold vp_in; decide)) dX3_addInput_21 rfl ?_
  rw [hcN]
  refine r_aload_n 23 hZ 0 dX3_addInput_22 rfl rfl rfl ?_
  refine g_X3_21 26 hZ dX3_addInput_23 rfl ?_
  refine r_iload_n 27 hZ 1 dX3_addInput_26 rfl rfl rfl ?_
  refine r_getsI 30 hE dX3_addInput_27 rfl (fun tI hld => ?_)
  refine r_aload_n 31 hZ 0 dX3_addInput_30 rfl rfl rfl ?_
  refine g_X3_35 34 hZ dX3_addInput_31 rfl ?_
  refine w_eqI (hI) ?_
  refine hld 0 0 _ 34 35 _ _ _ (vp_in_nI (by omega) (by decide)) dX3_addInput_34 rfl ?_
  rw [hcI]
  refine s_c4 36 hZ (by first | assumption | exact vp_in_nI (by omega) (by decide) | (unfold vp_in; decide)) dX3_addInput_35 rfl ?_
  rw [hcN]
  refine r_aload_n 37 hZ 0 dX3_addInput_36 rfl rfl rfl ?_
  refine r_dup 38 hZ dX3_addInput_37 rfl rfl ?_
  refine g_X3_35 41 hZ dX3_addInput_38 rfl ?_
  refine w_eqI (hI) ?_
  refine r_iconst (v := 1) 42 hZ dX3_addInput_41 rfl (by decide) ?_
  refine r_iadd 43 hZ dX3_addInput_42 rfl ?_
  rw [nI_1]
  refine p_X3_35 46 hZ dX3_addInput_43 rfl ?_
  refine r_aload_n 47 hZ 0 dX3_addInput_46 rfl rfl rfl ?_
  refine r_dup 48 hZ dX3_addInput_47 rfl rfl ?_
  refine g_X3_31 51 hZ dX3_addInput_48 rfl ?_
  refine w_eqI (hN) ?_
  refine r_iconst (v := 1) 52 hZ dX3_addInput_51 rfl (by decide) ?_
  refine r_iadd 53 hZ dX3_addInput_52 rfl ?_
  rw [nI_1]
  refine p_X3_31 56 hZ dX3_addInput_53 rfl ?_
  refine r_iconst (v := 2) 57 hZ dX3_addInput_56 rfl (by decide) ?_
  refine r_iload_n 58 hZ 1 dX3_addInput_57 rfl rfl rfl ?_
  refine r_imul 59 hZ dX3_addInput_58 rfl ?_
  rw [show (2 : Int32) = nI 2 from rfl, pk_mul]
  exact hret _ _ _ _ dX3_addInput_59 rfl rfl
set_option maxHeartbeats 4000000 in
set_option maxRecDepth 100000 in
theorem c_X7_input_1 (l : Launch) (g : va_G) (y : Nat → ClassId) (ad : Nat → Nat) (σ : Nat → Nat → Int32) {N I O A : Nat} (hN : σ 0 1 = nI N) (hI : σ 0 2 = nI I) (hO : σ 0 3 = nI O) (hA : σ 0 4 = nI A) (hI5 : I ≤ 5) (hO8 : O ≤ 8) (hA24 : A ≤ 24) (h : I = 5 ∨ 0 < O + A) (hst : l.stackTraces = false) : w_T l g y yX7_input cX7_input 1 (some .int) 8 [.ref (ad 0)] (cw ad y σ) xIS := by
  refine w_ofT (lv0 := [(0, .ref (ad 0))]) hst (by decide +kernel) (Nat.le_of_ble_eq_true rfl) rfl ?_
  intro Z hT
  have hZ := hT.is
  refine r_aload_n 1 hZ 0 dX7_input_0 rfl rfl rfl ?_
  refine g_X7_12 4 hZ dX7_input_1 rfl ?_
  refine g_X7_59 7 hZ dX7_input_4 rfl ?_
  refine w_eqI (hI) ?_
  refine r_iconst (v := 5) 8 hZ dX7_input_7 rfl (by decide) ?_
  refine r_icmp_ge 29 11 hZ dX7_input_8 (by decide) rfl (fun c_8 => ?_) (fun c_8 => ?_)
  · skip
    exact r_throwIS hT (by decide) (show (70, _) ∈ w_strs from List.mem_of_getElem? (i := 0) rfl) rfl dX7_input_29 dX7_input_32 dX7_input_33 dX7_input_35 dX7_input_38
  · skip
    refine r_aload_n 12 hZ 0 dX7_input_11 rfl rfl rfl ?_
    refine g_X7_12 15 hZ dX7_input_12 rfl ?_
    refine g_X7_62 18 hZ dX7_input_15 rfl ?_
    refine w_eqI (hO) ?_
    refine r_aload_n 19 hZ 0 dX7_input_18 rfl rfl rfl ?_
    refine g_X7_12 22 hZ dX7_input_19 rfl ?_
    refine g_X7_65 25 hZ dX7_input_22 rfl ?_
    refine w_eqI (hA) ?_
    refine r_iadd 26 hZ dX7_input_25 rfl ?_
    rw [nI_add]
    refine r_if_le 39 29 hZ dX7_input_26 (by decide) rfl (fun c_26 => ?_) (fun c_26 => ?_)
    · skip
      exact absurd (nI_leq (b := 0) (by omega) (by omega) c_26) (by rcases h with q | q; exact absurd (show nI 5 ≤ nI I by rw [q]; exact nI_le (Nat.le_refl 5) (by decide)) c_8; omega)
    · skip
      exact r_throwIS hT (by decide) (show (70, _) ∈ w_strs from List.mem_of_getElem? (i := 0) rfl) rfl dX7_input_29 dX7_input_32 dX7_input_33 dX7_input_35 dX7_input_38
theorem dummy31 : True := trivial
set_option maxHeartbeats 4000000 in
set_option maxRecDepth 100000 in
theorem c_X7_input_0 (l : Launch) (g : va_G) (y : Nat → ClassId) (ad : Nat → Nat) (σ : Nat → Nat → Int32) {N I O A : Nat} (hN : σ 0 1 = nI N) (hI : σ 0 2 = nI I) (hO : σ 0 3 = nI O) (hA : σ 0 4 = nI A) (hI5 : I ≤ 5) (hO8 : O ≤ 8) (hA24 : A ≤ 24) (hN2 : N < 38) (hI4 : I < 5) (h0 : O + A = 0) : w_CE l g y yX7_input cX7_input 1 (some .int) 8 [.ref (ad 0)] (cw ad y σ) (some (.int (nI (2 * N)))) (cw ad y (aiF (up σ 0 0 (-1)) N I O)) := by
  refine w_ofIE (lv0 := [(0, .ref (ad 0))]) (by decide +kernel) (Nat.le_of_ble_eq_true rfl) rfl ?_
  intro Z hE hret
  have hZ := hE.is
  refine r_aload_n 1 hZ 0 dX7_input_0 rfl rfl rfl ?_
  refine g_X7_12 4 hZ dX7_input_1 rfl ?_
  refine g_X7_59 7 hZ dX7_input_4 rfl ?_
  refine w_eqI (hI) ?_
  refine r_iconst (v := 5) 8 hZ dX7_input_7 rfl (by decide) ?_
  refine r_icmp_ge 29 11 hZ dX7_input_8 (by decide) rfl (fun c_8 => ?_) (fun c_8 => ?_)
  · skip
    exact absurd (nI_leq (a := 5) (by omega) (by omega) c_8) (by omega)
  · skip
    refine r_aload_n 12 hZ 0 dX7_input_11 rfl rfl rfl ?_
    refine g_X7_12 15 hZ dX7_input_12 rfl ?_
    refine g_X7_62 18 hZ dX7_input_15 rfl ?_
    refine w_eqI (hO) ?_
    refine r_aload_n 19 hZ 0 dX7_input_18 rfl rfl rfl ?_
    refine g_X7_12 22 hZ dX7_input_19 rfl ?_
    refine g_X7_65 25 hZ dX7_input_22 rfl ?_
    refine w_eqI (hA) ?_
    refine r_iadd 26 hZ dX7_input_25 rfl ?_
    rw [nI_add, h0]
    refine r_if_le 39 29 hZ dX7_input_26 (by decide) rfl (fun c_26 => ?_) (fun c_26 => ?_)
    · skip
      refine r_aload_n 40 hZ 0 dX7_input_39 rfl rfl rfl ?_
      refine r_iconst (v := (-1)) 41 hZ dX7_input_40 rfl (by decide) ?_
      refine p_X7_55 44 hZ dX7_input_41 rfl ?_
      refine r_aload_n 45 hZ 0 dX7_input_44 rfl rfl rfl ?_
      refine g_X7_12 48 hZ dX7_input_45 rfl ?_
      refine r_callVE (c_X3_addInput l g y ad (up σ 0 0 (-1)) (N := N) (I := I) (O := O) hN hI hO hN2 hI4 (by omega)) wM_X3_addInput wL_X7_75 hE rfl ⟨by decide, by decide⟩ 1 3 rfl rfl rfl rfl dX7_input_48 ?_
      exact hret _ _ _ _ dX7_input_51 rfl rfl
    · skip
      exact absurd (show nI 0 ≤ 0 by decide) c_26
set_option maxHeartbeats 4000000 in
set_option maxRecDepth 100000 in
theorem c_X7_old_1 (l : Launch) (g : va_G) (y : Nat → ClassId) (ad : Nat → Nat) (σ : Nat → Nat → Int32) {N : Nat} (hN : σ 0 1 = nI N) (hN2 : N ≤ 38) {O : Nat} (hO : σ 0 3 = nI O) (hO2 : O ≤ 8) {x z : Int32} (h : ¬ (okL x (2 * N) ∧ okL z (2 * N))) (hst : l.stackTraces = false) : w_T l g y yX7_old cX7_old 3 (some .int) 8 [.ref (ad 0), .int x, .int z] (cw ad y σ) xIO := by
  refine w_ofT (lv0 := [(0, .ref (ad 0)), (1, .int x), (2, .int z)]) hst (by decide +kernel) (Nat.le_of_ble_eq_true rfl) rfl ?_
  intro Z hT
  have hZ := hT.is
  refine r_aload_n 1 hZ 0 dX7_old_0 rfl rfl rfl ?_
  refine g_X7_12 4 hZ dX7_old_1 rfl ?_
  refine r_iload_n 5 hZ 1 dX7_old_4 rfl rfl rfl ?_
  refine r_callVI (c_X3_hasLiteral l g y ad σ x hN hN2) wM_X3_hasLiteral wL_X7_79 hZ rfl ⟨by decide, by decide⟩ 1 3 rfl rfl rfl rfl dX7_old_5 ?_
  refine r_if_eq 22 11 hZ dX7_old_8 (by decide) rfl (fun c_8 => ?_) (fun c_8 => ?_)
  · skip
    exact r_throwIO hT (by decide) (show (85, _) ∈ w_strs from List.mem_of_getElem? (i := 1) rfl) rfl dX7_old_22 dX7_old_25 dX7_old_26 dX7_old_28 dX7_old_31
  · skip
    refine r_aload_n 12 hZ 0 dX7_old_11 rfl rfl rfl ?_
    refine g_X7_12 15 hZ dX7_old_12 rfl ?_
    refine r_iload_n 16 hZ 2 dX7_old_15 rfl rfl rfl ?_
    refine r_callVI (c_X3_hasLiteral l g y ad σ z hN hN2) wM_X3_hasLiteral wL_X7_79 hZ rfl ⟨by decide, by decide⟩ 1 3 rfl rfl rfl rfl dX7_old_16 ?_
    refine r_if_ne 32 22 hZ dX7_old_19 (by decide) rfl (fun c_19 => ?_) (fun c_19 => ?_)
    · skip
      exact (h ⟨bI_n0.mp c_8, bI_n0.mp c_19⟩).elim
    · skip
      exact r_throwIO hT (by decide) (show (85, _) ∈ w_strs from List.mem_of_getElem? (i := 1) rfl) rfl dX7_old_22 dX7_old_25 dX7_old_26 dX7_old_28 dX7_old_31
set_option maxHeartbeats 4000000 in
set_option maxRecDepth 100000 in
theorem c_X7_old_2 (l : Launch) (g : va_G) (y : Nat → ClassId) (ad : Nat → Nat) (σ : Nat → Nat → Int32) {N : Nat} (hN : σ 0 1 = nI N) (hN2 : N ≤ 38) {O : Nat} (hO : σ 0 3 = nI O) (hO2 : O ≤ 8) {x z : Int32} (hx : okL x (2 * N)) (hz : okL z (2 * N)) (h8 : O = 8) (hst : l.stackTraces = false) : w_T l g y yX7_old cX7_old 3 (some .int) 8 [.ref (ad 0), .int x, .int z] (cw ad y σ) xIS := by
  refine w_ofT (lv0 := [(0, .ref (ad 0)), (1, .int x), (2, .int z)]) hst (by decide +kernel) (Nat.le_of_ble_eq_true rfl) rfl ?_
  intro Z hT
  have hZ := hT.is
  refine r_aload_n 1 hZ 0 dX7_old_0 rfl rfl rfl ?_
  refine g_X7_12 4 hZ dX7_old_1 rfl ?_
  refine r_iload_n 5 hZ 1 dX7_old_4 rfl rfl rfl ?_
  refine r_callVI (c_X3_hasLiteral l g y ad σ x hN hN2) wM_X3_hasLiteral wL_X7_79 hZ rfl ⟨by decide, by decide⟩ 1 3 rfl rfl rfl rfl dX7_old_5 ?_
  refine r_if_eq 22 11 hZ dX7_old_8 (by decide) rfl (fun c_8 => ?_) (fun c_8 => ?_)
  · skip
    exact (bI_0.mp c_8 hx).elim
  · skip
    refine r_aload_n 12 hZ 0 dX7_old_11 rfl rfl rfl ?_
    refine g_X7_12 15 hZ dX7_old_12 rfl ?_
    refine r_iload_n 16 hZ 2 dX7_old_15 rfl rfl rfl ?_
    refine r_callVI (c_X3_hasLiteral l g y ad σ z hN hN2) wM_X3_hasLiteral wL_X7_79 hZ rfl ⟨by decide, by decide⟩ 1 3 rfl rfl rfl rfl dX7_old_16 ?_
    refine r_if_ne 32 22 hZ dX7_old_19 (by decide) rfl (fun c_19 => ?_) (fun c_19 => ?_)
    · skip
      refine r_aload_n 33 hZ 0 dX7_old_32 rfl rfl rfl ?_
      refine g_X7_12 36 hZ dX7_old_33 rfl ?_
      refine g_X7_62 39 hZ dX7_old_36 rfl ?_
      refine w_eqI (hO) ?_
      refine r_bipush (v := 8) 41 hZ dX7_old_39 rfl (by decide) ?_
      refine r_icmp_lt 54 44 hZ dX7_old_41 (by decide) rfl (fun c_41 => ?_) (fun c_41 => ?_)
      · skip
        exact absurd (show nI O < nI 8 from c_41) (nI_nlt (by omega) (by omega))
      · skip
        exact r_throwIS hT (by decide) (show (88, _) ∈ w_strs from List.mem_of_getElem? (i := 2) rfl) rfl dX7_old_44 dX7_old_47 dX7_old_48 dX7_old_50 dX7_old_53
    · skip
      exact (bI_0.mp c_19 hz).elim
set_option maxHeartbeats 4000000 in
set_option maxRecDepth 100000 in
theorem c_X7_old_3 (l : Launch) (g : va_G) (y : Nat → ClassId) (ad : Nat → Nat) (σ : Nat → Nat → Int32) {N : Nat} (hN : σ 0 1 = nI N) (hN2 : N ≤ 38) {O : Nat} (hO : σ 0 3 = nI O) (hO2 : O ≤ 8) {x z : Int32} (hx : okL x (2 * N)) (hz : okL z (2 * N)) (h8 : O < 8) (h : (σ 1 (ix x / 2) = 2 ∨ σ 1 (ix z / 2) = 2)) (hst : l.stackTraces = false) : w_T l g y yX7_old cX7_old 3 (some .int) 8 [.ref (ad 0), .int x, .int z] (cw ad y σ) xIA := by
  refine w_ofT (lv0 := [(0, .ref (ad 0)), (1, .int x), (2, .int z)]) hst (by decide +kernel) (Nat.le_of_ble_eq_true rfl) rfl ?_
  intro Z hT
  have hZ := hT.is
  refine r_aload_n 1 hZ 0 dX7_old_0 rfl rfl rfl ?_
  refine g_X7_12 4 hZ dX7_old_1 rfl ?_
  refine r_iload_n 5 hZ 1 dX7_old_4 rfl rfl rfl ?_
  refine r_callVI (c_X3_hasLiteral l g y ad σ x hN hN2) wM_X3_hasLiteral wL_X7_79 hZ rfl ⟨by decide, by decide⟩ 1 3 rfl rfl rfl rfl dX7_old_5 ?_
  refine r_if_eq 22 11 hZ dX7_old_8 (by decide) rfl (fun c_8 => ?_) (fun c_8 => ?_)
  · skip
    exact (bI_0.mp c_8 hx).elim
  · skip
    refine r_aload_n 12 hZ 0 dX7_old_11 rfl rfl rfl ?_
    refine g_X7_12 15 hZ dX7_old_12 rfl ?_
    refine r_iload_n 16 hZ 2 dX7_old_15 rfl rfl rfl ?_
    refine r_callVI (c_X3_hasLiteral l g y ad σ z hN hN2) wM_X3_hasLiteral wL_X7_79 hZ rfl ⟨by decide, by decide⟩ 1 3 rfl rfl rfl rfl dX7_old_16 ?_
    refine r_if_ne 32 22 hZ dX7_old_19 (by decide) rfl (fun c_19 => ?_) (fun c_19 => ?_)
    · skip
      refine r_aload_n 33 hZ 0 dX7_old_32 rfl rfl rfl ?_
      refine g_X7_12 36 hZ dX7_old_33 rfl ?_
      refine g_X7_62 39 hZ dX7_old_36 rfl ?_
      refine w_eqI (hO) ?_
      refine r_bipush (v := 8) 41 hZ dX7_old_39 rfl (by decide) ?_
      refine r_icmp_lt 54 44 hZ dX7_old_41 (by decide) rfl (fun c_41 => ?_) (fun c_41 => ?_)
      · skip
        refine r_aload_n 55 hZ 0 dX7_old_54 rfl rfl rfl ?_
        refine g_X7_12 58 hZ dX7_old_55 rfl ?_
        refine r_iconst (v := 2) 59 hZ dX7_old_58 rfl (by decide) ?_
        refine r_iload_n 60 hZ 1 dX7_old_59 rfl rfl rfl ?_
        refine r_callVI (c_X3_isOf l g y ad σ 2 (okL7 hx hN2)) wM_X3_isOf wL_X7_90 hZ rfl ⟨by decide, by decide⟩ 1 3 rfl rfl rfl rfl dX7_old_60 ?_
        refine r_if_ne 78 66 hZ dX7_old_63 (by decide) rfl (fun c_63 => ?_) (fun c_63 => ?_)
        · skip
          exact r_throwIA hT (by decide) (show (96, _) ∈ w_strs from List.mem_of_getElem? (i := 3) rfl) rfl dX7_old_78 dX7_old_81 dX7_old_82 dX7_old_84 dX7_old_87
        · skip
          refine r_aload_n 67 hZ 0 dX7_old_66 rfl rfl rfl ?_
          refine g_X7_12 70 hZ dX7_old_67 rfl ?_
          refine r_iconst (v := 2) 71 hZ dX7_old_70 rfl (by decide) ?_
          refine r_iload_n 72 hZ 2 dX7_old_71 rfl rfl rfl ?_
          refine r_callVI (c_X3_isOf l g y ad σ 2 (okL7 hz hN2)) wM_X3_isOf wL_X7_90 hZ rfl ⟨by decide, by decide⟩ 1 3 rfl rfl rfl rfl dX7_old_72 ?_
          refine r_if_eq 88 78 hZ dX7_old_75 (by decide) rfl (fun c_75 => ?_) (fun c_75 => ?_)
          · skip
            exact (h.elim (bI_0.mp c_63) (bI_0.mp c_75)).elim
          · skip
            exact r_throwIA hT (by decide) (show (96, _) ∈ w_strs from List.mem_of_getElem? (i := 3) rfl) rfl dX7_old_78 dX7_old_81 dX7_old_82 dX7_old_84 dX7_old_87
      · skip
        exact absurd (show nI O < nI 8 from nI_lt h8 (by decide)) c_41
    · skip
      exact (bI_0.mp c_19 hz).elim
set_option maxHeartbeats 4000000 in
set_option maxRecDepth 100000 in
theorem c_X7_old_0 (l : Launch) (g : va_G) (y : Nat → ClassId) (ad : Nat → Nat) (σ : Nat → Nat → Int32) {N : Nat} (hN : σ 0 1 = nI N) (hN2 : N ≤ 38) {O : Nat} (hO : σ 0 3 = nI O) (hO2 : O ≤ 8) {x z : Int32} (hx : okL x (2 * N)) (hz : okL z (2 * N)) {I : Nat} (hI : σ 0 2 = nI I) (hI5 : I ≤ 5) (hN3 : N < 38) (h8 : O < 8) (h : ¬ (σ 1 (ix x / 2) = 2 ∨ σ 1 (ix z / 2) = 2)) : w_C l g y yX7_old cX7_old 3 (some .int) 8 [.ref (ad 0), .int x, .int z] (cw ad y σ) (some (.int (nI (2 * N)))) (cw ad y (addAndF (up (up (up (up (up (up σ 0 0 (-1)) 11 N 0) 12 N 0) 6 (1 + I + O) (nI N)) 5 N 0) 0 3 (nI (O + 1))) N 1 x z)) := by
  refine w_ofI (lv0 := [(0, .ref (ad 0)), (1, .int x), (2, .int z)]) (by decide +kernel) (Nat.le_of_ble_eq_true rfl) rfl (rfl) ?_
  intro Z hZ hret
  refine r_aload_n 1 hZ 0 dX7_old_0 rfl rfl rfl ?_
  refine g_X7_12 4 hZ dX7_old_1 rfl ?_
  refine r_iload_n 5 hZ 1 dX7_old_4 rfl rfl rfl ?_
  refine r_callVI (c_X3_hasLiteral l g y ad σ x hN hN2) wM_X3_hasLiteral wL_X7_79 hZ rfl ⟨by decide, by decide⟩ 1 3 rfl rfl rfl rfl dX7_old_5 ?_
  refine r_if_eq 22 11 hZ dX7_old_8 (by decide) rfl (fun c_8 => ?_) (fun c_8 => ?_)
  · skip
    exact (bI_0.mp c_8 hx).elim
  · skip
    refine r_aload_n 12 hZ 0 dX7_old_11 rfl rfl rfl ?_
    refine g_X7_12 15 hZ dX7_old_12 rfl ?_
    refine r_iload_n 16 hZ 2 dX7_old_15 rfl rfl rfl ?_
    refine r_callVI (c_X3_hasLiteral l g y ad σ z hN hN2) wM_X3_hasLiteral wL_X7_79 hZ rfl ⟨by decide, by decide⟩ 1 3 rfl rfl rfl rfl dX7_old_16 ?_
    refine r_if_ne 32 22 hZ dX7_old_19 (by decide) rfl (fun c_19 => ?_) (fun c_19 => ?_)
    · skip
      refine r_aload_n 33 hZ 0 dX7_old_32 rfl rfl rfl ?_
      refine g_X7_12 36 hZ dX7_old_33 rfl ?_
      refine g_X7_62 39 hZ dX7_old_36 rfl ?_
      refine w_eqI (hO) ?_
      refine r_bipush (v := 8) 41 hZ dX7_old_39 rfl (by decide) ?_
      refine r_icmp_lt 54 44 hZ dX7_old_41 (by decide) rfl (fun c_41 => ?_) (fun c_41 => ?_)
      · skip
        refine r_aload_n 55 hZ 0 dX7_old_54 rfl rfl rfl ?_
        refine g_X7_12 58 hZ dX7_old_55 rfl ?_
        refine r_iconst (v := 2) 59 hZ dX7_old_58 rfl (by decide) ?_
        refine r_iload_n 60 hZ 1 dX7_old_59 rfl rfl rfl ?_
        refine r_callVI (c_X3_isOf l g y ad σ 2 (okL7 hx hN2)) wM_X3_isOf wL_X7_90 hZ rfl ⟨by decide, by decide⟩ 1 3 rfl rfl rfl rfl dX7_old_60 ?_
        refine r_if_ne 78 66 hZ dX7_old_63 (by decide) rfl (fun c_63 => ?_) (fun c_63 => ?_)
        · skip
          exact (h (Or.inl (bI_n0.mp c_63))).elim
        · skip
          refine r_aload_n 67 hZ 0 dX7_old_66 rfl rfl rfl ?_
          refine g_X7_12 70 hZ dX7_old_67 rfl ?_
          refine r_iconst (v := 2) 71 hZ dX7_old_70 rfl (by decide) ?_
          refine r_iload_n 72 hZ 2 dX7_old_71 rfl rfl rfl ?_
          refine r_callVI (c_X3_isOf l g y ad σ 2 (okL7 hz hN2)) wM_X3_isOf wL_X7_90 hZ rfl ⟨by decide, by decide⟩ 1 3 rfl rfl rfl rfl dX7_old_72 ?_
          refine r_if_eq 88 78 hZ dX7_old_75 (by decide) rfl (fun c_75 => ?_) (fun c_75 => ?_)
          · skip
            refine r_aload_n 89 hZ 0 dX7_old_88 rfl rfl rfl ?_
            refine r_iconst (v := (-1)) 90 hZ dX7_old_89 rfl (by decide) ?_
            refine p_X7_55 93 hZ dX7_old_90 rfl ?_
            refine r_aload_n 94 hZ 0 dX7_old_93 rfl rfl rfl ?_
            refine g_X7_26 97 hZ dX7_old_94 rfl ?_
            refine r_aload_n 98 hZ 0 dX7_old_97 rfl rfl rfl ?_
            refine g_X7_12 101 hZ dX7_old_98 rfl ?_
            refine g_X7_99 104 hZ dX7_old_101 rfl ?_
            refine w_eqI (hN) ?_
            refine r_callVV (c_X0_putAtOrigin l g y ad (up σ 0 0 (-1)) (j := N) (by omega)) wM_X0_putAtOrigin wL_X7_102 hZ rfl ⟨by decide, by decide⟩ 3 0 rfl rfl rfl rfl dX7_old_104 ?_
            refine r_aload_n 108 hZ 0 dX7_old_107 rfl rfl rfl ?_
            refine g_X7_12 111 hZ dX7_old_108 rfl ?_
            refine r_iload_n 112 hZ 1 dX7_old_111 rfl rfl rfl ?_
            refine r_iload_n 113 hZ 2 dX7_old_112 rfl rfl rfl ?_
            refine r_callVI (c_X3_addOld l g y ad (up (up (up σ 0 0 (-1)) 11 N 0) 12 N 0) (N := N) (I := I) (O := O) (by exact hN) hN3 (by exact hI) (by exact hO) (by omega) (okL7 hx hN2) (okL7 hz hN2)) wM_X3_addOld wL_X7_106 hZ rfl ⟨by decide, by decide⟩ 1 3 rfl rfl rfl rfl dX7_old_113 ?_
            exact hret _ _ _ _ dX7_old_116 rfl rfl
          · skip
            exact (h (Or.inr (bI_n0.mp c_75))).elim
      · skip
        exact absurd (show nI O < nI 8 from nI_lt h8 (by decide)) c_41
    · skip
      exact (bI_0.mp c_19 hz).elim
set_option maxHeartbeats 4000000 in
set_option maxRecDepth 100000 in
theorem c_X7_asked_1 (l : Launch) (g : va_G) (y : Nat → ClassId) (ad : Nat → Nat) (σ : Nat → Nat → Int32) {N : Nat} (hN : σ 0 1 = nI N) (hN2 : N ≤ 38) {O : Nat} (hO : σ 0 4 = nI O) (hO2 : O ≤ 24) {x z : Int32} (h : ¬ (okL x (2 * N) ∧ okL z (2 * N))) (hst : l.stackTraces = false) : w_T l g y yX7_asked cX7_asked 3 (some .int) 8 [.ref (ad 0), .int x, .int z] (cw ad y σ) xIO := by
  refine w_ofT (lv0 := [(0, .ref (ad 0)), (1, .int x), (2, .int z)]) hst (by decide +kernel) (Nat.le_of_ble_eq_true rfl) rfl ?_
  intro Z hT
  have hZ := hT.is
  refine r_aload_n 1 hZ 0 dX7_asked_0 rfl rfl rfl ?_
  refine g_X7_12 4 hZ dX7_asked_1 rfl ?_
  refine r_iload_n 5 hZ 1 dX7_asked_4 rfl rfl rfl ?_
  refine r_callVI (c_X3_hasLiteral l g y ad σ x hN hN2) wM_X3_hasLiteral wL_X7_79 hZ rfl ⟨by decide, by decide⟩ 1 3 rfl rfl rfl rfl dX7_asked_5 ?_
  refine r_if_eq 22 11 hZ dX7_asked_8 (by decide) rfl (fun c_8 => ?_) (fun c_8 => ?_)
  · skip
    exact r_throwIO hT (by decide) (show (85, _) ∈ w_strs from List.mem_of_getElem? (i := 1) rfl) rfl dX7_asked_22 dX7_asked_25 dX7_asked_26 dX7_asked_28 dX7_asked_31
  · skip
    refine r_aload_n 12 hZ 0 dX7_asked_11 rfl rfl rfl ?_
    refine g_X7_12 15 hZ dX7_asked_12 rfl ?_
    refine r_iload_n 16 hZ 2 dX7_asked_15 rfl rfl rfl ?_
    refine r_callVI (c_X3_hasLiteral l g y ad σ z hN hN2) wM_X3_hasLiteral wL_X7_79 hZ rfl ⟨by decide, by decide⟩ 1 3 rfl rfl rfl rfl dX7_asked_16 ?_
    refine r_if_ne 32 22 hZ dX7_asked_19 (by decide) rfl (fun c_19 => ?_) (fun c_19 => ?_)
    · skip
      exact (h ⟨bI_n0.mp c_8, bI_n0.mp c_19⟩).elim
    · skip
      exact r_throwIO hT (by decide) (show (85, _) ∈ w_strs from List.mem_of_getElem? (i := 1) rfl) rfl dX7_asked_22 dX7_asked_25 dX7_asked_26 dX7_asked_28 dX7_asked_31
set_option maxHeartbeats 4000000 in
set_option maxRecDepth 100000 in
theorem c_X7_asked_2 (l : Launch) (g : va_G) (y : Nat → ClassId) (ad : Nat → Nat) (σ : Nat → Nat → Int32) {N : Nat} (hN : σ 0 1 = nI N) (hN2 : N ≤ 38) {O : Nat} (hO : σ 0 4 = nI O) (hO2 : O ≤ 24) {x z : Int32} (hx : okL x (2 * N)) (hz : okL z (2 * N)) (h8 : O = 24) (hst : l.stackTraces = false) : w_T l g y yX7_asked cX7_asked 3 (some .int) 8 [.ref (ad 0), .int x, .int z] (cw ad y σ) xIS := by
  refine w_ofT (lv0 := [(0, .ref (ad 0)), (1, .int x), (2, .int z)]) hst (by decide +kernel) (Nat.le_of_ble_eq_true rfl) rfl ?_
  intro Z hT
  have hZ := hT.is
  refine r_aload_n 1 hZ 0 dX7_asked_0 rfl rfl rfl ?_
  refine g_X7_12 4 hZ dX7_asked_1 rfl ?_
  refine r_iload_n 5 hZ 1 dX7_asked_4 rfl rfl rfl ?_
  refine r_callVI (c_X3_hasLiteral l g y ad σ x hN hN2) wM_X3_hasLiteral wL_X7_79 hZ rfl ⟨by decide, by decide⟩ 1 3 rfl rfl rfl rfl dX7_asked_5 ?_
  refine r_if_eq 22 11 hZ dX7_asked_8 (by decide) rfl (fun c_8 => ?_) (fun c_8 => ?_)
  · skip
    exact (bI_0.mp c_8 hx).elim
  · skip
    refine r_aload_n 12 hZ 0 dX7_asked_11 rfl rfl rfl ?_
    refine g_X7_12 15 hZ dX7_asked_12 rfl ?_
    refine r_iload_n 16 hZ 2 dX7_asked_15 rfl rfl rfl ?_
    refine r_callVI (c_X3_hasLiteral l g y ad σ z hN hN2) wM_X3_hasLiteral wL_X7_79 hZ rfl ⟨by decide, by decide⟩ 1 3 rfl rfl rfl rfl dX7_asked_16 ?_
    refine r_if_ne 32 22 hZ dX7_asked_19 (by decide) rfl (fun c_19 => ?_) (fun c_19 => ?_)
    · skip
      refine r_aload_n 33 hZ 0 dX7_asked_32 rfl rfl rfl ?_
      refine g_X7_12 36 hZ dX7_asked_33 rfl ?_
      refine g_X7_65 39 hZ dX7_asked_36 rfl ?_
      refine w_eqI (hO) ?_
      refine r_bipush (v := 24) 41 hZ dX7_asked_39 rfl (by decide) ?_
      refine r_icmp_lt 54 44 hZ dX7_asked_41 (by decide) rfl (fun c_41 => ?_) (fun c_41 => ?_)
      · skip
        exact absurd (show nI O < nI 24 from c_41) (nI_nlt (by omega) (by omega))
      · skip
        exact r_throwIS hT (by decide) (show (110, _) ∈ w_strs from List.mem_of_getElem? (i := 4) rfl) rfl dX7_asked_44 dX7_asked_47 dX7_asked_48 dX7_asked_50 dX7_asked_53
    · skip
      exact (bI_0.mp c_19 hz).elim
set_option maxHeartbeats 4000000 in
set_option maxRecDepth 100000 in
theorem c_X7_asked_3 (l : Launch) (g : va_G) (y : Nat → ClassId) (ad : Nat → Nat) (σ : Nat → Nat → Int32) {N : Nat} (hN : σ 0 1 = nI N) (hN2 : N ≤ 38) {O : Nat} (hO : σ 0 4 = nI O) (hO2 : O ≤ 24) {x z : Int32} (hx : okL x (2 * N)) (hz : okL z (2 * N)) (h8 : O < 24) (h : (σ 1 (ix x / 2) = 1 ∨ σ 1 (ix z / 2) = 1)) (hst : l.stackTraces = false) : w_T l g y yX7_asked cX7_asked 3 (some .int) 8 [.ref (ad 0), .int x, .int z] (cw ad y σ) xIA := by
  refine w_ofT (lv0 := [(0, .ref (ad 0)), (1, .int x), (2, .int z)]) hst (by decide +kernel) (Nat.le_of_ble_eq_true rfl) rfl ?_
  intro Z hT
  have hZ := hT.is
  refine r_aload_n 1 hZ 0 dX7_asked_0 rfl rfl rfl ?_
  refine g_X7_12 4 hZ dX7_asked_1 rfl ?_
  refine r_iload_n 5 hZ 1 dX7_asked_4 rfl rfl rfl ?_
  refine r_callVI (c_X3_hasLiteral l g y ad σ x hN hN2) wM_X3_hasLiteral wL_X7_79 hZ rfl ⟨by decide, by decide⟩ 1 3 rfl rfl rfl rfl dX7_asked_5 ?_
  refine r_if_eq 22 11 hZ dX7_asked_8 (by decide) rfl (fun c_8 => ?_) (fun c_8 => ?_)
  · skip
    exact (bI_0.mp c_8 hx).elim
  · skip
    refine r_aload_n 12 hZ 0 dX7_asked_11 rfl rfl rfl ?_
    refine g_X7_12 15 hZ dX7_asked_12 rfl ?_
    refine r_iload_n 16 hZ 2 dX7_asked_15 rfl rfl rfl ?_
    refine r_callVI (c_X3_hasLiteral l g y ad σ z hN hN2) wM_X3_hasLiteral wL_X7_79 hZ rfl ⟨by decide, by decide⟩ 1 3 rfl rfl rfl rfl dX7_asked_16 ?_
    refine r_if_ne 32 22 hZ dX7_asked_19 (by decide) rfl (fun c_19 => ?_) (fun c_19 => ?_)
    · skip
      refine r_aload_n 33 hZ 0 dX7_asked_32 rfl rfl rfl ?_
      refine g_X7_12 36 hZ dX7_asked_33 rfl ?_
      refine g_X7_65 39 hZ dX7_asked_36 rfl ?_
      refine w_eqI (hO) ?_
      refine r_bipush (v := 24) 41 hZ dX7_asked_39 rfl (by decide) ?_
      refine r_icmp_lt 54 44 hZ dX7_asked_41 (by decide) rfl (fun c_41 => ?_) (fun c_41 => ?_)
      · skip
        refine r_aload_n 55 hZ 0 dX7_asked_54 rfl rfl rfl ?_
        refine g_X7_12 58 hZ dX7_asked_55 rfl ?_
        refine r_iconst (v := 1) 59 hZ dX7_asked_58 rfl (by decide) ?_
        refine r_iload_n 60 hZ 1 dX7_asked_59 rfl rfl rfl ?_
        refine r_callVI (c_X3_isOf l g y ad σ 1 (okL7 hx hN2)) wM_X3_isOf wL_X7_90 hZ rfl ⟨by decide, by decide⟩ 1 3 rfl rfl rfl rfl dX7_asked_60 ?_
        refine r_if_ne 78 66 hZ dX7_asked_63 (by decide) rfl (fun c_63 => ?_) (fun c_63 => ?_)
        · skip
          exact r_throwIA hT (by decide) (show (112, _) ∈ w_strs from List.mem_of_getElem? (i := 5) rfl) rfl dX7_asked_78 dX7_asked_81 dX7_asked_82 dX7_asked_84 dX7_asked_87
        · skip
          refine r_aload_n 67 hZ 0 dX7_asked_66 rfl rfl rfl ?_
          refine g_X7_12 70 hZ dX7_asked_67 rfl ?_
          refine r_iconst (v := 1) 71 hZ dX7_asked_70 rfl (by decide) ?_
          refine r_iload_n 72 hZ 2 dX7_asked_71 rfl rfl rfl ?_
          refine r_callVI (c_X3_isOf l g y ad σ 1 (okL7 hz hN2)) wM_X3_isOf wL_X7_90 hZ rfl ⟨by decide, by decide⟩ 1 3 rfl rfl rfl rfl dX7_asked_72 ?_
          refine r_if_eq 88 78 hZ dX7_asked_75 (by decide) rfl (fun c_75 => ?_) (fun c_75 => ?_)
          · skip
            exact (h.elim (bI_0.mp c_63) (bI_0.mp c_75)).elim
          · skip
            exact r_throwIA hT (by decide) (show (112, _) ∈ w_strs from List.mem_of_getElem? (i := 5) rfl) rfl dX7_asked_78 dX7_asked_81 dX7_asked_82 dX7_asked_84 dX7_asked_87
      · skip
        exact absurd (show nI O < nI 24 from nI_lt h8 (by decide)) c_41
    · skip
      exact (bI_0.mp c_19 hz).elim
set_option maxHeartbeats 4000000 in
set_option maxRecDepth 100000 in
theorem c_X7_asked_0 (l : Launch) (g : va_G) (y : Nat → ClassId) (ad : Nat → Nat) (σ : Nat → Nat → Int32) {N : Nat} (hN : σ 0 1 = nI N) (hN2 : N ≤ 38) {O : Nat} (hO : σ 0 4 = nI O) (hO2 : O ≤ 24) {x z : Int32} (hx : okL x (2 * N)) (hz : okL z (2 * N)) (hN3 : N < 38) (h8 : O < 24) (h : ¬ (σ 1 (ix x / 2) = 1 ∨ σ 1 (ix z / 2) = 1)) : w_C l g y yX7_asked cX7_asked 3 (some .int) 8 [.ref (ad 0), .int x, .int z] (cw ad y σ) (some (.int (nI (2 * N)))) (cw ad y (addAndF (up (up σ 0 0 (-1)) 0 4 (nI (O + 1))) N 2 x z)) := by
  refine w_ofI (lv0 := [(0, .ref (ad 0)), (1, .int x), (2, .int z)]) (by decide +kernel) (Nat.le_of_ble_eq_true rfl) rfl (rfl) ?_
  intro Z hZ hret
  refine r_aload_n 1 hZ 0 dX7_asked_0 rfl rfl rfl ?_
  refine g_X7_12 4 hZ dX7_asked_1 rfl ?_
  refine r_iload_n 5 hZ 1 dX7_asked_4 rfl rfl rfl ?_
  refine r_callVI (c_X3_hasLiteral l g y ad σ x hN hN2) wM_X3_hasLiteral wL_X7_79 hZ rfl ⟨by decide, by decide⟩ 1 3 rfl rfl rfl rfl dX7_asked_5 ?_
  refine r_if_eq 22 11 hZ dX7_asked_8 (by decide) rfl (fun c_8 => ?_) (fun c_8 => ?_)
  · skip
    exact (bI_0.mp c_8 hx).elim
  · skip
    refine r_aload_n 12 hZ 0 dX7_asked_11 rfl rfl rfl ?_
    refine g_X7_12 15 hZ dX7_asked_12 rfl ?_
    refine r_iload_n 16 hZ 2 dX7_asked_15 rfl rfl rfl ?_
    refine r_callVI (c_X3_hasLiteral l g y ad σ z hN hN2) wM_X3_hasLiteral wL_X7_79 hZ rfl ⟨by decide, by decide⟩ 1 3 rfl rfl rfl rfl dX7_asked_16 ?_
    refine r_if_ne 32 22 hZ dX7_asked_19 (by decide) rfl (fun c_19 => ?_) (fun c_19 => ?_)
    · skip
      refine r_aload_n 33 hZ 0 dX7_asked_32 rfl rfl rfl ?_
      refine g_X7_12 36 hZ dX7_asked_33 rfl ?_
      refine g_X7_65 39 hZ dX7_asked_36 rfl ?_
      refine w_eqI (hO) ?_
      refine r_bipush (v := 24) 41 hZ dX7_asked_39 rfl (by decide) ?_
      refine r_icmp_lt 54 44 hZ dX7_asked_41 (by decide) rfl (fun c_41 => ?_) (fun c_41 => ?_)
      · skip
        refine r_aload_n 55 hZ 0 dX7_asked_54 rfl rfl rfl ?_
        refine g_X7_12 58 hZ dX7_asked_55 rfl ?_
        refine r_iconst (v := 1) 59 hZ dX7_asked_58 rfl (by decide) ?_
        refine r_iload_n 60 hZ 1 dX7_asked_59 rfl rfl rfl ?_
        refine r_callVI (c_X3_isOf l g y ad σ 1 (okL7 hx hN2)) wM_X3_isOf wL_X7_90 hZ rfl ⟨by decide, by decide⟩ 1 3 rfl rfl rfl rfl dX7_asked_60 ?_
        refine r_if_ne 78 66 hZ dX7_asked_63 (by decide) rfl (fun c_63 => ?_) (fun c_63 => ?_)
        · skip
          exact (h (Or.inl (bI_n0.mp c_63))).elim
        · skip
          refine r_aload_n 67 hZ 0 dX7_asked_66 rfl rfl rfl ?_
          refine g_X7_12 70 hZ dX7_asked_67 rfl ?_
          refine r_iconst (v := 1) 71 hZ dX7_asked_70 rfl (by decide) ?_
          refine r_iload_n 72 hZ 2 dX7_asked_71 rfl rfl rfl ?_
          refine r_callVI (c_X3_isOf l g y ad σ 1 (okL7 hz hN2)) wM_X3_isOf wL_X7_90 hZ rfl ⟨by decide, by decide⟩ 1 3 rfl rfl rfl rfl dX7_asked_72 ?_
          refine r_if_eq 88 78 hZ dX7_asked_75 (by decide) rfl (fun c_75 => ?_) (fun c_75 => ?_)
          · skip
            refine r_aload_n 89 hZ 0 dX7_asked_88 rfl rfl rfl ?_
            refine r_iconst (v := (-1)) 90 hZ dX7_asked_89 rfl (by decide) ?_
            refine p_X7_55 93 hZ dX7_asked_90 rfl ?_
            refine r_aload_n 94 hZ 0 dX7_asked_93 rfl rfl rfl ?_
            refine g_X7_12 97 hZ dX7_asked_94 rfl ?_
            refine r_iload_n 98 hZ 1 dX7_asked_97 rfl rfl rfl ?_
            refine r_iload_n 99 hZ 2 dX7_asked_98 rfl rfl rfl ?_
            refine r_callVI (c_X3_addAsked l g y ad (up σ 0 0 (-1)) (N := N) (A := O) (by exact hN) hN3 (by exact hO) (okL7 hx hN2) (okL7 hz hN2)) wM_X3_addAsked wL_X7_114 hZ rfl ⟨by decide, by decide⟩ 1 3 rfl rfl rfl rfl dX7_asked_99 ?_
            exact hret _ _ _ _ dX7_asked_102 rfl rfl
          · skip
            exact (h (Or.inr (bI_n0.mp c_75))).elim
      · skip
        exact absurd (show nI O < nI 24 from nI_lt h8 (by decide)) c_41
    · skip
      exact (bI_0.mp c_19 hz).elim
set_option maxHeartbeats 4000000 in
set_option maxRecDepth 100000 in
theorem c_X7_output_1 (l : Launch) (g : va_G) (y : Nat → ClassId) (ad : Nat → Nat) (σ : Nat → Nat → Int32) {N : Nat} (hN : σ 0 1 = nI N) (hN2 : N ≤ 38) {O : Nat} (hO : σ 0 5 = nI O) (hO2 : O ≤ 4) {x z : Int32} (h : ¬ (okL x (2 * N) ∧ okL z (2 * N))) (hst : l.stackTraces = false) : w_T l g y yX7_output cX7_output 3 (some .int) 8 [.ref (ad 0), .int x, .int z] (cw ad y σ) xIO := by
  refine w_ofT (lv0 := [(0, .ref (ad 0)), (1, .int x), (2, .int z)]) hst (by decide +kernel) (Nat.le_of_ble_eq_true rfl) rfl ?_
  intro Z hT
  have hZ := hT.is
  refine r_aload_n 1 hZ 0 dX7_output_0 rfl rfl rfl ?_
  refine g_X7_12 4 hZ dX7_output_1 rfl ?_
  refine r_iload_n 5 hZ 1 dX7_output_4 rfl rfl rfl ?_
  refine r_callVI (c_X3_hasLiteral l g y ad σ x hN hN2) wM_X3_hasLiteral wL_X7_79 hZ rfl ⟨by decide, by decide⟩ 1 3 rfl rfl rfl rfl dX7_output_5 ?_
  refine r_if_eq 22 11 hZ dX7_output_8 (by decide) rfl (fun c_8 => ?_) (fun c_8 => ?_)
  · skip
    exact r_throwIO hT (by decide) (show (85, _) ∈ w_strs from List.mem_of_getElem? (i := 1) rfl) rfl dX7_output_22 dX7_output_25 dX7_output_26 dX7_output_28 dX7_output_31
  · skip
    refine r_aload_n 12 hZ 0 dX7_output_11 rfl rfl rfl ?_
    refine g_X7_12 15 hZ dX7_output_12 rfl ?_
    refine r_iload_n 16 hZ 2 dX7_output_15 rfl rfl rfl ?_
    refine r_callVI (c_X3_hasLiteral l g y ad σ z hN hN2) wM_X3_hasLiteral wL_X7_79 hZ rfl ⟨by decide, by decide⟩ 1 3 rfl rfl rfl rfl dX7_output_16 ?_
    refine r_if_ne 32 22 hZ dX7_output_19 (by decide) rfl (fun c_19 => ?_) (fun c_19 => ?_)
    · skip
      exact (h ⟨bI_n0.mp c_8, bI_n0.mp c_19⟩).elim
    · skip
      exact r_throwIO hT (by decide) (show (85, _) ∈ w_strs from List.mem_of_getElem? (i := 1) rfl) rfl dX7_output_22 dX7_output_25 dX7_output_26 dX7_output_28 dX7_output_31
set_option maxHeartbeats 4000000 in
set_option maxRecDepth 100000 in
theorem c_X7_output_2 (l : Launch) (g : va_G) (y : Nat → ClassId) (ad : Nat → Nat) (σ : Nat → Nat → Int32) {N : Nat} (hN : σ 0 1 = nI N) (hN2 : N ≤ 38) {O : Nat} (hO : σ 0 5 = nI O) (hO2 : O ≤ 4) {x z : Int32} (hx : okL x (2 * N)) (hz : okL z (2 * N)) (h8 : O = 4) (hst : l.stackTraces = false) : w_T l g y yX7_output cX7_output 3 (some .int) 8 [.ref (ad 0), .int x, .int z] (cw ad y σ) xIS := by
  refine w_ofT (lv0 := [(0, .ref (ad 0)), (1, .int x), (2, .int z)]) hst (by decide +kernel) (Nat.le_of_ble_eq_true rfl) rfl ?_
  intro Z hT
  have hZ := hT.is
  refine r_aload_n 1 hZ 0 dX7_output_0 rfl rfl rfl ?_
  refine g_X7_12 4 hZ dX7_output_1 rfl ?_
  refine r_iload_n 5 hZ 1 dX7_output_4 rfl rfl rfl ?_
  refine r_callVI (c_X3_hasLiteral l g y ad σ x hN hN2) wM_X3_hasLiteral wL_X7_79 hZ rfl ⟨by decide, by decide⟩ 1 3 rfl rfl rfl rfl dX7_output_5 ?_
  refine r_if_eq 22 11 hZ dX7_output_8 (by decide) rfl (fun c_8 => ?_) (fun c_8 => ?_)
  · skip
    exact (bI_0.mp c_8 hx).elim
  · skip
    refine r_aload_n 12 hZ 0 dX7_output_11 rfl rfl rfl ?_
    refine g_X7_12 15 hZ dX7_output_12 rfl ?_
    refine r_iload_n 16 hZ 2 dX7_output_15 rfl rfl rfl ?_
    refine r_callVI (c_X3_hasLiteral l g y ad σ z hN hN2) wM_X3_hasLiteral wL_X7_79 hZ rfl ⟨by decide, by decide⟩ 1 3 rfl rfl rfl rfl dX7_output_16 ?_
    refine r_if_ne 32 22 hZ dX7_output_19 (by decide) rfl (fun c_19 => ?_) (fun c_19 => ?_)
    · skip
      refine r_aload_n 33 hZ 0 dX7_output_32 rfl rfl rfl ?_
      refine g_X7_19 36 hZ dX7_output_33 rfl ?_
      refine g_X7_117 39 hZ dX7_output_36 rfl ?_
      refine w_eqI (hO) ?_
      refine r_iconst (v := 4) 40 hZ dX7_output_39 rfl (by decide) ?_
      refine r_icmp_lt 53 43 hZ dX7_output_40 (by decide) rfl (fun c_40 => ?_) (fun c_40 => ?_)
      · skip
        exact absurd (show nI O < nI 4 from c_40) (nI_nlt (by omega) (by omega))
      · skip
        exact r_throwIS hT (by decide) (show (120, _) ∈ w_strs from List.mem_of_getElem? (i := 6) rfl) rfl dX7_output_43 dX7_output_46 dX7_output_47 dX7_output_49 dX7_output_52
    · skip
      exact (bI_0.mp c_19 hz).elim
set_option maxHeartbeats 4000000 in
set_option maxRecDepth 100000 in
theorem c_X7_output_3 (l : Launch) (g : va_G) (y : Nat → ClassId) (ad : Nat → Nat) (σ : Nat → Nat → Int32) {N : Nat} (hN : σ 0 1 = nI N) (hN2 : N ≤ 38) {O : Nat} (hO : σ 0 5 = nI O) (hO2 : O ≤ 4) {x z : Int32} (hx : okL x (2 * N)) (hz : okL z (2 * N)) (h8 : O < 4) (h : (σ 1 (ix x / 2) = 2 ∨ σ 1 (ix z / 2) = 1)) (hst : l.stackTraces = false) : w_T l g y yX7_output cX7_output 3 (some .int) 8 [.ref (ad 0), .int x, .int z] (cw ad y σ) xIA := by
  refine w_ofT (lv0 := [(0, .ref (ad 0)), (1, .int x), (2, .int z)]) hst (by decide +kernel) (Nat.le_of_ble_eq_true rfl) rfl ?_
  intro Z hT
  have hZ := hT.is
  refine r_aload_n 1 hZ 0 dX7_output_0 rfl rfl rfl ?_
  refine g_X7_12 4 hZ dX7_output_1 rfl ?_
  refine r_iload_n 5 hZ 1 dX7_output_4 rfl rfl rfl ?_
  refine r_callVI (c_X3_hasLiteral l g y ad σ x hN hN2) wM_X3_hasLiteral wL_X7_79 hZ rfl ⟨by decide, by decide⟩ 1 3 rfl rfl rfl rfl dX7_output_5 ?_
  refine r_if_eq 22 11 hZ dX7_output_8 (by decide) rfl (fun c_8 => ?_) (fun c_8 => ?_)
  · skip
    exact (bI_0.mp c_8 hx).elim
  · skip
    refine r_aload_n 12 hZ 0 dX7_output_11 rfl rfl rfl ?_
    refine g_X7_12 15 hZ dX7_output_12 rfl ?_
    refine r_iload_n 16 hZ 2 dX7_output_15 rfl rfl rfl ?_
    refine r_callVI (c_X3_hasLiteral l g y ad σ z hN hN2) wM_X3_hasLiteral wL_X7_79 hZ rfl ⟨by decide, by decide⟩ 1 3 rfl rfl rfl rfl dX7_output_16 ?_
    refine r_if_ne 32 22 hZ dX7_output_19 (by decide) rfl (fun c_19 => ?_) (fun c_19 => ?_)
    · skip
      refine r_aload_n 33 hZ 0 dX7_output_32 rfl rfl rfl ?_
      refine g_X7_19 36 hZ dX7_output_33 rfl ?_
      refine g_X7_117 39 hZ dX7_output_36 rfl ?_
      refine w_eqI (hO) ?_
      refine r_iconst (v := 4) 40 hZ dX7_output_39 rfl (by decide) ?_
      refine r_icmp_lt 53 43 hZ dX7_output_40 (by decide) rfl (fun c_40 => ?_) (fun c_40 => ?_)
      · skip
        refine r_aload_n 54 hZ 0 dX7_output_53 rfl rfl rfl ?_
        refine g_X7_12 57 hZ dX7_output_54 rfl ?_
        refine r_iconst (v := 2) 58 hZ dX7_output_57 rfl (by decide) ?_
        refine r_iload_n 59 hZ 1 dX7_output_58 rfl rfl rfl ?_
        refine r_callVI (c_X3_isOf l g y ad σ 2 (okL7 hx hN2)) wM_X3_isOf wL_X7_90 hZ rfl ⟨by decide, by decide⟩ 1 3 rfl rfl rfl rfl dX7_output_59 ?_
        refine r_if_ne 77 65 hZ dX7_output_62 (by decide) rfl (fun c_62 => ?_) (fun c_62 => ?_)
        · skip
          exact r_throwIA hT (by decide) (show (122, _) ∈ w_strs from List.mem_of_getElem? (i := 7) rfl) rfl dX7_output_77 dX7_output_80 dX7_output_81 dX7_output_83 dX7_output_86
        · skip
          refine r_aload_n 66 hZ 0 dX7_output_65 rfl rfl rfl ?_
          refine g_X7_12 69 hZ dX7_output_66 rfl ?_
          refine r_iconst (v := 1) 70 hZ dX7_output_69 rfl (by decide) ?_
          refine r_iload_n 71 hZ 2 dX7_output_70 rfl rfl rfl ?_
          refine r_callVI (c_X3_isOf l g y ad σ 1 (okL7 hz hN2)) wM_X3_isOf wL_X7_90 hZ rfl ⟨by decide, by decide⟩ 1 3 rfl rfl rfl rfl dX7_output_71 ?_
          refine r_if_eq 87 77 hZ dX7_output_74 (by decide) rfl (fun c_74 => ?_) (fun c_74 => ?_)
          · skip
            exact (h.elim (bI_0.mp c_62) (bI_0.mp c_74)).elim
          · skip
            exact r_throwIA hT (by decide) (show (122, _) ∈ w_strs from List.mem_of_getElem? (i := 7) rfl) rfl dX7_output_77 dX7_output_80 dX7_output_81 dX7_output_83 dX7_output_86
      · skip
        exact absurd (show nI O < nI 4 from nI_lt h8 (by decide)) c_40
    · skip
      exact (bI_0.mp c_19 hz).elim
set_option maxHeartbeats 4000000 in
set_option maxRecDepth 100000 in
theorem c_X7_output_0 (l : Launch) (g : va_G) (y : Nat → ClassId) (ad : Nat → Nat) (σ : Nat → Nat → Int32) {N : Nat} (hN : σ 0 1 = nI N) (hN2 : N ≤ 38) {O : Nat} (hO : σ 0 5 = nI O) (hO2 : O ≤ 4) {x z : Int32} (hx : okL x (2 * N)) (hz : okL z (2 * N)) (h8 : O < 4) (h : ¬ (σ 1 (ix x / 2) = 2 ∨ σ 1 (ix z / 2) = 1)) : w_C l g y yX7_output cX7_output 3 (some .int) 8 [.ref (ad 0), .int x, .int z] (cw ad y σ) (some (.int (nI O))) (cw ad y (up (up (up (up σ 0 0 (-1)) 7 O x) 8 O z) 0 5 (nI (O + 1)))) := by
  refine w_ofI (lv0 := [(0, .ref (ad 0)), (1, .int x), (2, .int z)]) (by decide +kernel) (Nat.le_of_ble_eq_true rfl) rfl (rfl) ?_
  intro Z hZ hret
  refine r_aload_n 1 hZ 0 dX7_output_0 rfl rfl rfl ?_
  refine g_X7_12 4 hZ dX7_output_1 rfl ?_
  refine r_iload_n 5 hZ 1 dX7_output_4 rfl rfl rfl ?_
  refine r_callVI (c_X3_hasLiteral l g y ad σ x hN hN2) wM_X3_hasLiteral wL_X7_79 hZ rfl ⟨by decide, by decide⟩ 1 3 rfl rfl rfl rfl dX7_output_5 ?_
  refine r_if_eq 22 11 hZ dX7_output_8 (by decide) rfl (fun c_8 => ?_) (fun c_8 => ?_)
  · skip
    exact (bI_0.mp c_8 hx).elim
  · skip
    refine r_aload_n 12 hZ 0 dX7_output_11 rfl rfl rfl ?_
    refine g_X7_12 15 hZ dX7_output_12 rfl ?_
    refine r_iload_n 16 hZ 2 dX7_output_15 rfl rfl rfl ?_
    refine r_callVI (c_X3_hasLiteral l g y ad σ z hN hN2) wM_X3_hasLiteral wL_X7_79 hZ rfl ⟨by decide, by decide⟩ 1 3 rfl rfl rfl rfl dX7_output_16 ?_
    refine r_if_ne 32 22 hZ dX7_output_19 (by decide) rfl (fun c_19 => ?_) (fun c_19 => ?_)
    · skip
      refine r_aload_n 33 hZ 0 dX7_output_32 rfl rfl rfl ?_
      refine g_X7_19 36 hZ dX7_output_33 rfl ?_
      refine g_X7_117 39 hZ dX7_output_36 rfl ?_
      refine w_eqI (hO) ?_
      refine r_iconst (v := 4) 40 hZ dX7_output_39 rfl (by decide) ?_
      refine r_icmp_lt 53 43 hZ dX7_output_40 (by decide) rfl (fun c_40 => ?_) (fun c_40 => ?_)
      · skip
        refine r_aload_n 54 hZ 0 dX7_output_53 rfl rfl rfl ?_
        refine g_X7_12 57 hZ dX7_output_54 rfl ?_
        refine r_iconst (v := 2) 58 hZ dX7_output_57 rfl (by decide) ?_
        refine r_iload_n 59 hZ 1 dX7_output_58 rfl rfl rfl ?_
        refine r_callVI (c_X3_isOf l g y ad σ 2 (okL7 hx hN2)) wM_X3_isOf wL_X7_90 hZ rfl ⟨by decide, by decide⟩ 1 3 rfl rfl rfl rfl dX7_output_59 ?_
        refine r_if_ne 77 65 hZ dX7_output_62 (by decide) rfl (fun c_62 => ?_) (fun c_62 => ?_)
        · skip
          exact (h (Or.inl (bI_n0.mp c_62))).elim
        · skip
          refine r_aload_n 66 hZ 0 dX7_output_65 rfl rfl rfl ?_
          refine g_X7_12 69 hZ dX7_output_66 rfl ?_
          refine r_iconst (v := 1) 70 hZ dX7_output_69 rfl (by decide) ?_
          refine r_iload_n 71 hZ 2 dX7_output_70 rfl rfl rfl ?_
          refine r_callVI (c_X3_isOf l g y ad σ 1 (okL7 hz hN2)) wM_X3_isOf wL_X7_90 hZ rfl ⟨by decide, by decide⟩ 1 3 rfl rfl rfl rfl dX7_output_71 ?_
          refine r_if_eq 87 77 hZ dX7_output_74 (by decide) rfl (fun c_74 => ?_) (fun c_74 => ?_)
          · skip
            refine r_aload_n 88 hZ 0 dX7_output_87 rfl rfl rfl ?_
            refine r_iconst (v := (-1)) 89 hZ dX7_output_88 rfl (by decide) ?_
            refine p_X7_55 92 hZ dX7_output_89 rfl ?_
            refine r_aload_n 93 hZ 0 dX7_output_92 rfl rfl rfl ?_
            refine g_X7_19 96 hZ dX7_output_93 rfl ?_
            refine r_iload_n 97 hZ 1 dX7_output_96 rfl rfl rfl ?_
            refine r_iload_n 98 hZ 2 dX7_output_97 rfl rfl rfl ?_
            refine r_callVI (c_X2_add l g y ad (up σ 0 0 (-1)) (G := O) (by exact hO) h8 x z) wM_X2_add wL_X7_124 hZ rfl ⟨by decide, by decide⟩ 2 2 rfl rfl rfl rfl dX7_output_98 ?_
            exact hret _ _ _ _ dX7_output_101 rfl rfl
          · skip
            exact (h (Or.inr (bI_n0.mp c_74))).elim
      · skip
        exact absurd (show nI O < nI 4 from nI_lt h8 (by decide)) c_40
    · skip
      exact (bI_0.mp c_19 hz).elim
def vaF (σ : stT) (x s : Int32) : Int32 := ((cl (σ 4) (ix x)).toUInt32 >>> ((s &&& 31).toUInt32 &&& Int32.toUInt32 31)).toInt32 &&& 1
set_option maxHeartbeats 4000000 in
set_option maxRecDepth 100000 in
theorem c_X7_value_1 (l : Launch) (g : va_G) (y : Nat → ClassId) (ad : Nat → Nat) (σ : Nat → Nat → Int32) {N : Nat} (hN : σ 0 1 = nI N) (hN2 : N ≤ 38) (x s : Int32) (h : ¬ okL x (2 * N)) (hst : l.stackTraces = false) : w_T l g y yX7_value cX7_value 4 (some .int) 8 [.ref (ad 0), .int x, .int s] (cw ad y σ) xIO := by
  refine w_ofT (lv0 := [(0, .ref (ad 0)), (1, .int x), (2, .int s)]) hst (by decide +kernel) (Nat.le_of_ble_eq_true rfl) rfl ?_
  intro Z hT
  have hZ := hT.is
  refine r_aload_n 1 hZ 0 dX7_value_0 rfl rfl rfl ?_
  refine g_X7_12 4 hZ dX7_value_1 rfl ?_
  refine r_iload_n 5 hZ 1 dX7_value_4 rfl rfl rfl ?_
  refine r_callVI (c_X3_hasLiteral l g y ad σ x hN hN2) wM_X3_hasLiteral wL_X7_79 hZ rfl ⟨by decide, by decide⟩ 1 3 rfl rfl rfl rfl dX7_value_5 ?_
  refine r_if_ne 21 11 hZ dX7_value_8 (by decide) rfl (fun c_8 => ?_) (fun c_8 => ?_)
  · skip
    exact (h (bI_n0.mp c_8)).elim
  · skip
    exact r_throwIO hT (by decide) (show (85, _) ∈ w_strs from List.mem_of_getElem? (i := 1) rfl) rfl dX7_value_11 dX7_value_14 dX7_value_15 dX7_value_17 dX7_value_20
set_option maxHeartbeats 4000000 in
set_option maxRecDepth 100000 in
theorem c_X7_value_0 (l : Launch) (g : va_G) (y : Nat → ClassId) (ad : Nat → Nat) (σ : Nat → Nat → Int32) {N : Nat} (hN : σ 0 1 = nI N) (hN2 : N ≤ 38) (x s : Int32) (h : okL x (2 * N)) : w_C l g y yX7_value cX7_value 4 (some .int) 8 [.ref (ad 0), .int x, .int s] (cw ad y σ) (some (.int (vaF σ x s))) (cw ad y σ) := by
  refine w_ofI (lv0 := [(0, .ref (ad 0)), (1, .int x), (2, .int s)]) (by decide +kernel) (Nat.le_of_ble_eq_true rfl) rfl (rfl) ?_
  intro Z hZ hret
  refine r_aload_n 1 hZ 0 dX7_value_0 rfl rfl rfl ?_
  refine g_X7_12 4 hZ dX7_value_1 rfl ?_
  refine r_iload_n 5 hZ 1 dX7_value_4 rfl rfl rfl ?_
  refine r_callVI (c_X3_hasLiteral l g y ad σ x hN hN2) wM_X3_hasLiteral wL_X7_79 hZ rfl ⟨by decide, by decide⟩ 1 3 rfl rfl rfl rfl dX7_value_5 ?_
  refine r_if_ne 21 11 hZ dX7_value_8 (by decide) rfl (fun c_8 => ?_) (fun c_8 => ?_)
  · skip
    refine r_iload_n 22 hZ 2 dX7_value_21 rfl rfl rfl ?_
    refine r_bipush (v := 31) 24 hZ dX7_value_22 rfl (by decide) ?_
    refine r_iand 25 hZ dX7_value_24 rfl ?_
    refine r_istnN 26 [(0, _), (1, _), (2, _), (3, _)] hZ dX7_value_25 rfl rfl (by decide) rfl rfl ?_
    refine r_aload_n 27 hZ 0 dX7_value_26 rfl rfl rfl ?_
    refine g_X7_12 30 hZ dX7_value_27 rfl ?_
    refine g_X7_127 33 hZ dX7_value_30 rfl ?_
    refine r_iload_n 34 hZ 1 dX7_value_33 rfl rfl rfl ?_
    refine r_callSI (c_X7_column_4 l g y ad σ (x := x) (okL7 h hN2)) wM_X7_column wL_X7_131 hZ rfl ⟨by decide, by decide⟩ rfl rfl dX7_value_34 ?_
    refine r_iload_n 38 hZ 3 dX7_value_37 rfl rfl rfl ?_
    refine r_iushr 39 hZ dX7_value_38 rfl ?_
    refine r_iconst (v := 1) 40 hZ dX7_value_39 rfl (by decide) ?_
    refine r_iand 41 hZ dX7_value_40 rfl ?_
    exact hret _ _ _ _ dX7_value_41 rfl rfl
  · skip
    exact (bI_0.mp c_8 h).elim
set_option maxHeartbeats 4000000 in
set_option maxRecDepth 100000 in
theorem c_X7_witness_1 (l : Launch) (g : va_G) (y : Nat → ClassId) (ad : Nat → Nat) (σ : Nat → Nat → Int32) {G : Nat} (hG : σ 0 5 = nI G) (hG4 : G ≤ 4) (x : Int32) (h : ¬ okL x G) (hst : l.stackTraces = false) : w_T l g y yX7_witness cX7_witness 2 (some .int) 8 [.ref (ad 0), .int x] (cw ad y σ) xIO := by
  refine w_ofT (lv0 := [(0, .ref (ad 0)), (1, .int x)]) hst (by decide +kernel) (Nat.le_of_ble_eq_true rfl) rfl ?_
  intro Z hT
  have hZ := hT.is
  refine r_iload_n 1 hZ 1 dX7_witness_0 rfl rfl rfl ?_
  refine r_if_lt 15 4 hZ dX7_witness_1 (by decide) rfl (fun c_1 => ?_) (fun c_1 => ?_)
  · skip
    exact r_throwIO hT (by decide) (show (138, _) ∈ w_strs from List.mem_of_getElem? (i := 8) rfl) rfl dX7_witness_15 dX7_witness_18 dX7_witness_19 dX7_witness_21 dX7_witness_24
  · skip
    refine r_iload_n 5 hZ 1 dX7_witness_4 rfl rfl rfl ?_
    refine r_aload_n 6 hZ 0 dX7_witness_5 rfl rfl rfl ?_
    refine g_X7_19 9 hZ dX7_witness_6 rfl ?_
    refine g_X7_117 12 hZ dX7_witness_9 rfl ?_
    refine w_eqI (hG) ?_
    refine r_icmp_lt 25 15 hZ dX7_witness_12 (by decide) rfl (fun c_12 => ?_) (fun c_12 => ?_)
    · skip
      exact (h (hl_ok (m := G) (by omega) c_1 (fun q => absurd c_12 (Int32.not_lt.mpr q)))).elim
    · skip
      exact r_throwIO hT (by decide) (show (138, _) ∈ w_strs from List.mem_of_getElem? (i := 8) rfl) rfl dX7_witness_15 dX7_witness_18 dX7_witness_19 dX7_witness_21 dX7_witness_24
set_option maxHeartbeats 4000000 in
set_option maxRecDepth 100000 in
theorem c_X7_witness_0 (l : Launch) (g : va_G) (y : Nat → ClassId) (ad : Nat → Nat) (σ : Nat → Nat → Int32) {G : Nat} (hG : σ 0 5 = nI G) (hG4 : G ≤ 4) {j : Nat} (hj : j < G) (h7 : okL (σ 7 j) 76) (h8 : okL (σ 8 j) 76) : w_C l g y yX7_witness cX7_witness 2 (some .int) 8 [.ref (ad 0), .int (nI j)] (cw ad y σ) (some (.int (oI (gfind (fun i => opt (bit (df σ 4 j) i = 1) i) 0 32)))) (cw ad y σ) := by
  refine w_ofI (lv0 := [(0, .ref (ad 0)), (1, .int (nI j))]) (by decide +kernel) (Nat.le_of_ble_eq_true rfl) rfl (rfl) ?_
  intro Z hZ hret
  refine r_iload_n 1 hZ 1 dX7_witness_0 rfl rfl rfl ?_
  refine r_if_lt 15 4 hZ dX7_witness_1 (by decide) rfl (fun c_1 => ?_) (fun c_1 => ?_)
  · skip
    exact absurd c_1 (nI_pos (by omega))
  · skip
    refine r_iload_n 5 hZ 1 dX7_witness_4 rfl rfl rfl ?_
    refine r_aload_n 6 hZ 0 dX7_witness_5 rfl rfl rfl ?_
    refine g_X7_19 9 hZ dX7_witness_6 rfl ?_
    refine g_X7_117 12 hZ dX7_witness_9 rfl ?_
    refine w_eqI (hG) ?_
    refine r_icmp_lt 25 15 hZ dX7_witness_12 (by decide) rfl (fun c_12 => ?_) (fun c_12 => ?_)
    · skip
      refine r_aload_n 26 hZ 0 dX7_witness_25 rfl rfl rfl ?_
      refine g_X7_19 29 hZ dX7_witness_26 rfl ?_
      refine r_aload_n 30 hZ 0 dX7_witness_29 rfl rfl rfl ?_
      refine g_X7_12 33 hZ dX7_witness_30 rfl ?_
      refine g_X7_127 36 hZ dX7_witness_33 rfl ?_
      refine r_iload_n 37 hZ 1 dX7_witness_36 rfl rfl rfl ?_
      refine r_callVI (c_X2_difference_4 l g y ad σ (i := j) (by omega) h7 h8) wM_X2_difference wL_X7_135 hZ rfl ⟨by decide, by decide⟩ 2 2 rfl rfl rfl rfl dX7_witness_37 ?_
      refine r_callSI (c_X7_leastBit l g y ad σ (df σ 4 j)) wM_X7_leastBit wL_X7_140 hZ rfl ⟨by decide, by decide⟩ rfl rfl dX7_witness_40 ?_
      exact hret _ _ _ _ dX7_witness_43 rfl rfl
    · skip
      exact absurd (nI_lt hj (by omega)) c_12
set_option maxHeartbeats 4000000 in
set_option maxRecDepth 100000 in
theorem c_X7_matched_1 (l : Launch) (g : va_G) (y : Nat → ClassId) (ad : Nat → Nat) (σ : Nat → Nat → Int32) {N : Nat} (hN : σ 0 1 = nI N) (hN2 : N ≤ 38) (x : Int32) (h : ¬ okL x (2 * N)) (hst : l.stackTraces = false) : w_T l g y yX7_matched cX7_matched 2 (some .int) 8 [.ref (ad 0), .int x] (cw ad y σ) xIO := by
  refine w_ofT (lv0 := [(0, .ref (ad 0)), (1, .int x)]) hst (by decide +kernel) (Nat.le_of_ble_eq_true rfl) rfl ?_
  intro Z hT
  have hZ := hT.is
  refine r_aload_n 1 hZ 0 dX7_matched_0 rfl rfl rfl ?_
  refine g_X7_12 4 hZ dX7_matched_1 rfl ?_
  refine r_iload_n 5 hZ 1 dX7_matched_4 rfl rfl rfl ?_
  refine r_callVI (c_X3_hasLiteral l g y ad σ x hN hN2) wM_X3_hasLiteral wL_X7_79 hZ rfl ⟨by decide, by decide⟩ 1 3 rfl rfl rfl rfl dX7_matched_5 ?_
  refine r_if_ne 21 11 hZ dX7_matched_8 (by decide) rfl (fun c_8 => ?_) (fun c_8 => ?_)
  · skip
    exact (h (bI_n0.mp c_8)).elim
  · skip
    exact r_throwIO hT (by decide) (show (85, _) ∈ w_strs from List.mem_of_getElem? (i := 1) rfl) rfl dX7_matched_11 dX7_matched_14 dX7_matched_15 dX7_matched_17 dX7_matched_20
set_option maxHeartbeats 4000000 in
set_option maxRecDepth 100000 in
theorem c_X7_matched_0 (l : Launch) (g : va_G) (y : Nat → ClassId) (ad : Nat → Nat) (σ : Nat → Nat → Int32) {N : Nat} (hN : σ 0 1 = nI N) (hN2 : N ≤ 38) (x : Int32) {I O : Nat} (hI : σ 0 2 = nI I) (hO : σ 0 3 = nI O) (hIO : 1 + I + O ≤ 14) (hw : ∀ n, n < 1 + I + O → okL (σ 6 n) 38) (h : okL x (2 * N)) : w_C l g y yX7_matched cX7_matched 2 (some .int) 8 [.ref (ad 0), .int x] (cw ad y σ) (some (.int (oI (gfind (fun n => opt (cl (σ 4) (2 * ix (σ 6 (n / 2)) + n % 2) = cl (σ 4) (ix x)) (2 * ix (σ 6 (n / 2)) + n % 2)) 0 (2 * (1 + I + O)))))) (cw ad y σ) := by
  refine w_ofI (lv0 := [(0, .ref (ad 0)), (1, .int x)]) (by decide +kernel) (Nat.le_of_ble_eq_true rfl) rfl (rfl) ?_
  intro Z hZ hret
  refine r_aload_n 1 hZ 0 dX7_matched_0 rfl rfl rfl ?_
  refine g_X7_12 4 hZ dX7_matched_1 rfl ?_
  refine r_iload_n 5 hZ 1 dX7_matched_4 rfl rfl rfl ?_
  refine r_callVI (c_X3_hasLiteral l g y ad σ x hN hN2) wM_X3_hasLiteral wL_X7_79 hZ rfl ⟨by decide, by decide⟩ 1 3 rfl rfl rfl rfl dX7_matched_5 ?_
  refine r_if_ne 21 11 hZ dX7_matched_8 (by decide) rfl (fun c_8 => ?_) (fun c_8 => ?_)
  · skip
    refine r_aload_n 22 hZ 0 dX7_matched_21 rfl rfl rfl ?_
    refine g_X7_12 25 hZ dX7_matched_22 rfl ?_
    refine r_aload_n 26 hZ 0 dX7_matched_25 rfl rfl rfl ?_
    refine g_X7_12 29 hZ dX7_matched_26 rfl ?_
    refine g_X7_127 32 hZ dX7_matched_29 rfl ?_
    refine r_iload_n 33 hZ 1 dX7_matched_32 rfl rfl rfl ?_
    refine r_callSI (c_X7_column_4 l g y ad σ (x := x) (okL7 h hN2)) wM_X7_column wL_X7_131 hZ rfl ⟨by decide, by decide⟩ rfl rfl dX7_matched_33 ?_
    refine r_callVI (c_X3_leastOwnLiteralOf l g y ad σ (cl (σ 4) (ix x)) hI hO hIO hw) wM_X3_leastOwnLiteralOf wL_X7_144 hZ rfl ⟨by decide, by decide⟩ 1 3 rfl rfl rfl rfl dX7_matched_36 ?_
    exact hret _ _ _ _ dX7_matched_39 rfl rfl
  · skip
    exact (bI_0.mp c_8 h).elim
set_option maxHeartbeats 4000000 in
set_option maxRecDepth 100000 in
theorem c_X7_keep_1 (l : Launch) (g : va_G) (y : Nat → ClassId) (ad : Nat → Nat) (σ : Nat → Nat → Int32) {N : Nat} (hN : σ 0 1 = nI N) (hN2 : N ≤ 38) (x z : Int32) (h : ¬ (okL x N ∧ σ 1 (ix x) = 1)) (hst : l.stackTraces = false) : w_T l g y yX7_keep cX7_keep 3 (some .boolean) 8 [.ref (ad 0), .int x, .int z] (cw ad y σ) xIO := by
  refine w_ofT (lv0 := [(0, .ref (ad 0)), (1, .int x), (2, .int z)]) hst (by decide +kernel) (Nat.le_of_ble_eq_true rfl) rfl ?_
  intro Z hT
  have hZ := hT.is
  refine r_aload_n 1 hZ 0 dX7_keep_0 rfl rfl rfl ?_
  refine g_X7_12 4 hZ dX7_keep_1 rfl ?_
  refine r_iload_n 5 hZ 1 dX7_keep_4 rfl rfl rfl ?_
  refine r_callVI (c_X3_isOldNode l g y ad σ x hN hN2) wM_X3_isOldNode wL_X7_147 hZ rfl ⟨by decide, by decide⟩ 1 3 rfl rfl rfl rfl dX7_keep_5 ?_
  refine r_if_ne 21 11 hZ dX7_keep_8 (by decide) rfl (fun c_8 => ?_) (fun c_8 => ?_)
  · skip
    exact (h (bI_n0.mp c_8)).elim
  · skip
    exact r_throwIO hT (by decide) (show (150, _) ∈ w_strs from List.mem_of_getElem? (i := 9) rfl) rfl dX7_keep_11 dX7_keep_14 dX7_keep_15 dX7_keep_17 dX7_keep_20
set_option maxHeartbeats 4000000 in
set_option maxRecDepth 100000 in
theorem c_X7_keep_0 (l : Launch) (g : va_G) (y : Nat → ClassId) (ad : Nat → Nat) (σ : Nat → Nat → Int32) {N : Nat} (hN : σ 0 1 = nI N) (hN2 : N ≤ 38) (x z : Int32) (h : okL x N ∧ σ 1 (ix x) = 1) (hz : σ 5 (ix x) = z) : w_C l g y yX7_keep cX7_keep 3 (some .boolean) 8 [.ref (ad 0), .int x, .int z] (cw ad y σ) (some (.int (bI False))) (cw ad y σ) := by
  refine w_ofI (lv0 := [(0, .ref (ad 0)), (1, .int x), (2, .int z)]) (by decide +kernel) (Nat.le_of_ble_eq_true rfl) rfl (bI_nar _) ?_
  intro Z hZ hret
  refine r_aload_n 1 hZ 0 dX7_keep_0 rfl rfl rfl ?_
  refine g_X7_12 4 hZ dX7_keep_1 rfl ?_
  refine r_iload_n 5 hZ 1 dX7_keep_4 rfl rfl rfl ?_
  refine r_callVI (c_X3_isOldNode l g y ad σ x hN hN2) wM_X3_isOldNode wL_X7_147 hZ rfl ⟨by decide, by decide⟩ 1 3 rfl rfl rfl rfl dX7_keep_5 ?_
  refine r_if_ne 21 11 hZ dX7_keep_8 (by decide) rfl (fun c_8 => ?_) (fun c_8 => ?_)
  · skip
    refine r_aload_n 22 hZ 0 dX7_keep_21 rfl rfl rfl ?_
    refine g_X7_12 25 hZ dX7_keep_22 rfl ?_
    refine g_X7_152 28 hZ dX7_keep_25 rfl ?_
    refine r_iload_n 29 hZ 1 dX7_keep_28 rfl rfl rfl ?_
    refine a_c5 30 hZ (okL_in (okL_mono h.1 hN2) (by decide)) dX7_keep_29 rfl ?_
    refine r_iload_n 31 hZ 2 dX7_keep_30 rfl rfl rfl ?_
    refine r_icmp_ne 36 34 hZ dX7_keep_31 (by decide) rfl (fun c_31 => ?_) (fun c_31 => ?_)
    · skip
      exact absurd hz c_31
    · skip
      refine r_iconst (v := 0) 35 hZ dX7_keep_34 rfl (by decide) ?_
      exact hret _ _ _ _ dX7_keep_35 (bI_f (by decide)).symm rfl
  · skip
    exact (bI_0.mp c_8 h).elim
set_option maxHeartbeats 4000000 in
set_option maxRecDepth 100000 in
theorem c_X7_keep_2 (l : Launch) (g : va_G) (y : Nat → ClassId) (ad : Nat → Nat) (σ : Nat → Nat → Int32) {N : Nat} (hN : σ 0 1 = nI N) (hN2 : N ≤ 38) (x z : Int32) (h : okL x N ∧ σ 1 (ix x) = 1) (hz : ¬ σ 5 (ix x) = z) (hz2 : z = 0 ∨ z = 1) : w_C l g y yX7_keep cX7_keep 3 (some .boolean) 8 [.ref (ad 0), .int x, .int z] (cw ad y σ) (some (.int (bI True))) (cw ad y (up (up σ 5 (ix x) z) 0 0 (-1))) := by
  refine w_ofI (lv0 := [(0, .ref (ad 0)), (1, .int x), (2, .int z)]) (by decide +kernel) (Nat.le_of_ble_eq_true rfl) rfl (bI_nar _) ?_
  intro Z hZ hret
  have hv : vp_nar .boolean z = z := by rcases hz2 with e | e <;> rw [e] <;> rfl
  refine r_aload_n 1 hZ 0 dX7_keep_0 rfl rfl rfl ?_
  refine g_X7_12 4 hZ dX7_keep_1 rfl ?_
  refine r_iload_n 5 hZ 1 dX7_keep_4 rfl rfl rfl ?_
  refine r_callVI (c_X3_isOldNode l g y ad σ x hN hN2) wM_X3_isOldNode wL_X7_147 hZ rfl ⟨by decide, by decide⟩ 1 3 rfl rfl rfl rfl dX7_keep_5 ?_
  refine r_if_ne 21 11 hZ dX7_keep_8 (by decide) rfl (fun c_8 => ?_) (fun c_8 => ?_)
  · skip
    refine r_aload_n 22 hZ 0 dX7_keep_21 rfl rfl rfl ?_
    refine g_X7_12 25 hZ dX7_keep_22 rfl ?_
    refine g_X7_152 28 hZ dX7_keep_25 rfl ?_
    refine r_iload_n 29 hZ 1 dX7_keep_28 rfl rfl rfl ?_
    refine a_c5 30 hZ (okL_in (okL_mono h.1 hN2) (by decide)) dX7_keep_29 rfl ?_
    refine r_iload_n 31 hZ 2 dX7_keep_30 rfl rfl rfl ?_
    refine r_icmp_ne 36 34 hZ dX7_keep_31 (by decide) rfl (fun c_31 => ?_) (fun c_31 => ?_)
    · skip
      refine r_aload_n 37 hZ 0 dX7_keep_36 rfl rfl rfl ?_
      refine g_X7_12 40 hZ dX7_keep_37 rfl ?_
      refine g_X7_152 43 hZ dX7_keep_40 rfl ?_
      refine r_iload_n 44 hZ 1 dX7_keep_43 rfl rfl rfl ?_
      refine r_iload_n 45 hZ 2 dX7_keep_44 rfl rfl rfl ?_
      refine s_c5 46 hZ (okL_in (okL_mono h.1 hN2) (by decide)) dX7_keep_45 rfl ?_
      rw [hv]
      refine r_aload_n 47 hZ 0 dX7_keep_46 rfl rfl rfl ?_
      refine r_iconst (v := (-1)) 48 hZ dX7_keep_47 rfl (by decide) ?_
      refine p_X7_55 51 hZ dX7_keep_48 rfl ?_
      refine r_iconst (v := 1) 52 hZ dX7_keep_51 rfl (by decide) ?_
      exact hret _ _ _ _ dX7_keep_52 (bI_t trivial).symm rfl
    · skip
      exact absurd c_31 hz
  · skip
    exact (bI_0.mp c_8 h).elim
def farP (x : Int64) : Prop := x < -1000 ∨ 1000 < x
set_option maxHeartbeats 4000000 in
set_option maxRecDepth 100000 in
theorem c_X7_place_1 (l : Launch) (g : va_G) (y : Nat → ClassId) (ad : Nat → Nat) (σ : Nat → Nat → Int32) {N : Nat} (hN : σ 0 1 = nI N) (hN2 : N ≤ 38) (x : Int32) (X Y : Int64) (h : ¬ (okL x N ∧ σ 1 (ix x) = 1)) (hst : l.stackTraces = false) : w_T l g y yX7_place cX7_place 6 (some .boolean) 8 [.ref (ad 0), .int x, .long X, .long Y] (cw ad y σ) xIO := by
  refine w_ofT (lv0 := [(0, .ref (ad 0)), (1, .int x), (2, .long X), (4, .long Y)]) hst (by decide +kernel) (Nat.le_of_ble_eq_true rfl) rfl ?_
  intro Z hT
  have hZ := hT.is
  refine r_aload_n 1 hZ 0 dX7_place_0 rfl rfl rfl ?_
  refine g_X7_12 4 hZ dX7_place_1 rfl ?_
  refine r_iload_n 5 hZ 1 dX7_place_4 rfl rfl rfl ?_
  refine r_callVI (c_X3_isOldNode l g y ad σ x hN hN2) wM_X3_isOldNode wL_X7_147 hZ rfl ⟨by decide, by decide⟩ 1 3 rfl rfl rfl rfl dX7_place_5 ?_
  refine r_if_ne 21 11 hZ dX7_place_8 (by decide) rfl (fun c_8 => ?_) (fun c_8 => ?_)
  · skip
    exact (h (bI_n0.mp c_8)).elim
  · skip
    exact r_throwIO hT (by decide) (show (150, _) ∈ w_strs from List.mem_of_getElem? (i := 9) rfl) rfl dX7_place_11 dX7_place_14 dX7_place_15 dX7_place_17 dX7_place_20
set_option maxHeartbeats 4000000 in
set_option maxRecDepth 100000 in
theorem c_X7_place_2 (l : Launch) (g : va_G) (y : Nat → ClassId) (ad : Nat → Nat) (σ : Nat → Nat → Int32) {N : Nat} (hN : σ 0 1 = nI N) (hN2 : N ≤ 38) (x : Int32) (X Y : Int64) (h : okL x N ∧ σ 1 (ix x) = 1) (hn : farP X ∨ farP Y) (hst : l.stackTraces = false) : w_T l g y yX7_place cX7_place 6 (some .boolean) 8 [.ref (ad 0), .int x, .long X, .long Y] (cw ad y σ) xIA := by
  refine w_ofT (lv0 := [(0, .ref (ad 0)), (1, .int x), (2, .long X), (4, .long Y)]) hst (by decide +kernel) (Nat.le_of_ble_eq_true rfl) rfl ?_
  intro Z hT
  have hZ := hT.is
  refine r_aload_n 1 hZ 0 dX7_place_0 rfl rfl rfl ?_
  refine g_X7_12 4 hZ dX7_place_1 rfl ?_
  refine r_iload_n 5 hZ 1 dX7_place_4 rfl rfl rfl ?_
  refine r_callVI (c_X3_isOldNode l g y ad σ x hN hN2) wM_X3_isOldNode wL_X7_147 hZ rfl ⟨by decide, by decide⟩ 1 3 rfl rfl rfl rfl dX7_place_5 ?_
  refine r_if_ne 21 11 hZ dX7_place_8 (by decide) rfl (fun c_8 => ?_) (fun c_8 => ?_)
  · skip
    refine r_lload_n 22 hZ 2 dX7_place_21 rfl rfl rfl ?_
    refine r_callSI (c_X7_isTooFar l g y ad σ X) wM_X7_isTooFar wL_X7_156 hZ rfl ⟨by decide, by decide⟩ rfl rfl dX7_place_22 ?_
    refine r_if_ne 36 28 hZ dX7_place_25 (by decide) rfl (fun c_25 => ?_) (fun c_25 => ?_)
    · skip
      exact r_throwIA hT (by decide) (show (160, _) ∈ w_strs from List.mem_of_getElem? (i := 10) rfl) rfl dX7_place_36 dX7_place_39 dX7_place_40 dX7_place_42 dX7_place_45
    · skip
      refine r_lload 30 hZ 3 dX7_place_28 rfl rfl ?_
      refine r_callSI (c_X7_isTooFar l g y ad σ Y) wM_X7_isTooFar wL_X7_156 hZ rfl ⟨by decide, by decide⟩ rfl rfl dX7_place_30 ?_
      refine r_if_eq 46 36 hZ dX7_place_33 (by decide) rfl (fun c_33 => ?_) (fun c_33 => ?_)
      · skip
        exact (hn.elim (bI_0.mp c_25) (bI_0.mp c_33)).elim
      · skip
        exact r_throwIA hT (by decide) (show (160, _) ∈ w_strs from List.mem_of_getElem? (i := 10) rfl) rfl dX7_place_36 dX7_place_39 dX7_place_40 dX7_place_42 dX7_place_45
  · skip
    exact (bI_0.mp c_8 h).elim
set_option maxHeartbeats 4000000 in
set_option maxRecDepth 100000 in
theorem c_X7_place_0 (l : Launch) (g : va_G) (y : Nat → ClassId) (ad : Nat → Nat) (σ : Nat → Nat → Int32) {N : Nat} (hN : σ 0 1 = nI N) (hN2 : N ≤ 38) (x : Int32) (X Y : Int64) (h : okL x N ∧ σ 1 (ix x) = 1) (hX : ¬ farP X) (hY : ¬ farP Y) (he : σ 11 (ix x) = X.toInt32 ∧ σ 12 (ix x) = Y.toInt32) : w_C l g y yX7_place cX7_place 6 (some .boolean) 8 [.ref (ad 0), .int x, .long X, .long Y] (cw ad y σ) (some (.int (bI False))) (cw ad y (up (up σ 11 (ix x) X.toInt32) 12 (ix x) Y.toInt32)) := by
  refine w_ofI (lv0 := [(0, .ref (ad 0)), (1, .int x), (2, .long X), (4, .long Y)]) (by decide +kernel) (Nat.le_of_ble_eq_true rfl) rfl (bI_nar _) ?_
  intro Z hZ hret
  refine r_aload_n 1 hZ 0 dX7_place_0 rfl rfl rfl ?_
  refine g_X7_12 4 hZ dX7_place_1 rfl ?_
  refine r_iload_n 5 hZ 1 dX7_place_4 rfl rfl rfl ?_
  refine r_callVI (c_X3_isOldNode l g y ad σ x hN hN2) wM_X3_isOldNode wL_X7_147 hZ rfl ⟨by decide, by decide⟩ 1 3 rfl rfl rfl rfl dX7_place_5 ?_
  refine r_if_ne 21 11 hZ dX7_place_8 (by decide) rfl (fun c_8 => ?_) (fun c_8 => ?_)
  · skip
    refine r_lload_n 22 hZ 2 dX7_place_21 rfl rfl rfl ?_
    refine r_callSI (c_X7_isTooFar l g y ad σ X) wM_X7_isTooFar wL_X7_156 hZ rfl ⟨by decide, by decide⟩ rfl rfl dX7_place_22 ?_
    refine r_if_ne 36 28 hZ dX7_place_25 (by decide) rfl (fun c_25 => ?_) (fun c_25 => ?_)
    · skip
      exact (hX (bI_n0.mp c_25)).elim
    · skip
      refine r_lload 30 hZ 3 dX7_place_28 rfl rfl ?_
      refine r_callSI (c_X7_isTooFar l g y ad σ Y) wM_X7_isTooFar wL_X7_156 hZ rfl ⟨by decide, by decide⟩ rfl rfl dX7_place_30 ?_
      refine r_if_eq 46 36 hZ dX7_place_33 (by decide) rfl (fun c_33 => ?_) (fun c_33 => ?_)
      · skip
        refine r_aload_n 47 hZ 0 dX7_place_46 rfl rfl rfl ?_
        refine g_X7_26 50 hZ dX7_place_47 rfl ?_
        refine r_iload_n 51 hZ 1 dX7_place_50 rfl rfl rfl ?_
        refine w_eqI h.1.1 ?_
        refine r_lload_n 52 hZ 2 dX7_place_51 rfl rfl rfl ?_
        refine r_l2i 53 hZ dX7_place_52 rfl ?_
        refine r_lload 55 hZ 3 dX7_place_53 rfl rfl ?_
        refine r_l2i 56 hZ dX7_place_55 rfl ?_
        refine r_callVI (c_X0_moveNode l g y ad σ (j := ix x) (Nat.lt_of_lt_of_le h.1.2 hN2) X.toInt32 Y.toInt32) wM_X0_moveNode wL_X7_162 hZ rfl ⟨by decide, by decide⟩ 3 0 rfl rfl rfl rfl dX7_place_56 ?_
        refine r_if_ne 64 62 hZ dX7_place_59 (by decide) rfl (fun c_59 => ?_) (fun c_59 => ?_)
        · skip
          exact (bI_n0.mp c_59 he).elim
        · skip
          refine r_iconst (v := 0) 63 hZ dX7_place_62 rfl (by decide) ?_
          exact hret _ _ _ _ dX7_place_63 (bI_f (by decide)).symm rfl
      · skip
        exact (c_33 (bI_0.mpr hY)).elim
  · skip
    exact (bI_0.mp c_8 h).elim
set_option maxHeartbeats 4000000 in
set_option maxRecDepth 100000 in
theorem c_X7_place_3 (l : Launch) (g : va_G) (y : Nat → ClassId) (ad : Nat → Nat) (σ : Nat → Nat → Int32) {N : Nat} (hN : σ 0 1 = nI N) (hN2 : N ≤ 38) (x : Int32) (X Y : Int64) (h : okL x N ∧ σ 1 (ix x) = 1) (hX : ¬ farP X) (hY : ¬ farP Y) (he : ¬ (σ 11 (ix x) = X.toInt32 ∧ σ 12 (ix x) = Y.toInt32)) : w_C l g y yX7_place cX7_place 6 (some .boolean) 8 [.ref (ad 0), .int x, .long X, .long Y] (cw ad y σ) (some (.int (bI True))) (cw ad y (up (up (up σ 11 (ix x) X.toInt32) 12 (ix x) Y.toInt32) 0 0 (-1))) := by
  refine w_ofI (lv0 := [(0, .ref (ad 0)), (1, .int x), (2, .long X), (4, .long Y)]) (by decide +kernel) (Nat.le_of_ble_eq_true rfl) rfl (bI_nar _) ?_
  intro Z hZ hret
  refine r_aload_n 1 hZ 0 dX7_place_0 rfl rfl rfl ?_
  refine g_X7_12 4 hZ dX7_place_1 rfl ?_
  refine r_iload_n 5 hZ 1 dX7_place_4 rfl rfl rfl ?_
  refine r_callVI (c_X3_isOldNode l g y ad σ x hN hN2) wM_X3_isOldNode wL_X7_147 hZ rfl ⟨by decide, by decide⟩ 1 3 rfl rfl rfl rfl dX7_place_5 ?_
  refine r_if_ne 21 11 hZ dX7_place_8 (by decide) rfl (fun c_8 => ?_) (fun c_8 => ?_)
  · skip
    refine r_lload_n 22 hZ 2 dX7_place_21 rfl rfl rfl ?_
    refine r_callSI (c_X7_isTooFar l g y ad σ X) wM_X7_isTooFar wL_X7_156 hZ rfl ⟨by decide, by decide⟩ rfl rfl dX7_place_22 ?_
    refine r_if_ne 36 28 hZ dX7_place_25 (by decide) rfl (fun c_25 => ?_) (fun c_25 => ?_)
    · skip
      exact (hX (bI_n0.mp c_25)).elim
    · skip
      refine r_lload 30 hZ 3 dX7_place_28 rfl rfl ?_
      refine r_callSI (c_X7_isTooFar l g y ad σ Y) wM_X7_isTooFar wL_X7_156 hZ rfl ⟨by decide, by decide⟩ rfl rfl dX7_place_30 ?_
      refine r_if_eq 46 36 hZ dX7_place_33 (by decide) rfl (fun c_33 => ?_) (fun c_33 => ?_)
      · skip
        refine r_aload_n 47 hZ 0 dX7_place_46 rfl rfl rfl ?_
        refine g_X7_26 50 hZ dX7_place_47 rfl ?_
        refine r_iload_n 51 hZ 1 dX7_place_50 rfl rfl rfl ?_
        refine w_eqI h.1.1 ?_
        refine r_lload_n 52 hZ 2 dX7_place_51 rfl rfl rfl ?_
        refine r_l2i 53 hZ dX7_place_52 rfl ?_
        refine r_lload 55 hZ 3 dX7_place_53 rfl rfl ?_
        refine r_l2i 56 hZ dX7_place_55 rfl ?_
        refine r_callVI (c_X0_moveNode l g y ad σ (j := ix x) (Nat.lt_of_lt_of_le h.1.2 hN2) X.toInt32 Y.toInt32) wM_X0_moveNode wL_X7_162 hZ rfl ⟨by decide, by decide⟩ 3 0 rfl rfl rfl rfl dX7_place_56 ?_
        refine r_if_ne 64 62 hZ dX7_place_59 (by decide) rfl (fun c_59 => ?_) (fun c_59 => ?_)
        · skip
          refine r_aload_n 65 hZ 0 dX7_place_64 rfl rfl rfl ?_
          refine r_iconst (v := (-1)) 66 hZ dX7_place_65 rfl (by decide) ?_
          refine p_X7_55 69 hZ dX7_place_66 rfl ?_
          refine r_iconst (v := 1) 70 hZ dX7_place_69 rfl (by decide) ?_
          exact hret _ _ _ _ dX7_place_70 (bI_t trivial).symm rfl
        · skip
          exact (bI_0.mp c_59 he).elim
      · skip
        exact (c_33 (bI_0.mpr hY)).elim
  · skip
    exact (bI_0.mp c_8 h).elim
set_option maxHeartbeats 4000000 in
set_option maxRecDepth 100000 in
theorem c_X7_spare_1 (l : Launch) (g : va_G) (y : Nat → ClassId) (ad : Nat → Nat) (σ : Nat → Nat → Int32) {S : Nat} (hS : σ 0 6 = nI S) (hS2 : S ≤ 6) (X Y : Int64) (h : S = 6) (hst : l.stackTraces = false) : w_T l g y yX7_spare cX7_spare 5 (some .int) 8 [.ref (ad 0), .long X, .long Y] (cw ad y σ) xIS := by
  refine w_ofT (lv0 := [(0, .ref (ad 0)), (1, .long X), (3, .long Y)]) hst (by decide +kernel) (Nat.le_of_ble_eq_true rfl) rfl ?_
  intro Z hT
  have hZ := hT.is
  refine r_aload_n 1 hZ 0 dX7_spare_0 rfl rfl rfl ?_
  refine g_X7_26 4 hZ dX7_spare_1 rfl ?_
  refine g_X7_166 7 hZ dX7_spare_4 rfl ?_
  refine w_eqI (hS) ?_
  refine r_bipush (v := 6) 9 hZ dX7_spare_7 rfl (by decide) ?_
  refine r_icmp_lt 22 12 hZ dX7_spare_9 (by decide) rfl (fun c_9 => ?_) (fun c_9 => ?_)
  · skip
    exact absurd (show nI S < nI 6 from c_9) (nI_nlt (by omega) (by omega))
  · skip
    exact r_throwIS hT (by decide) (show (169, _) ∈ w_strs from List.mem_of_getElem? (i := 11) rfl) rfl dX7_spare_12 dX7_spare_15 dX7_spare_16 dX7_spare_18 dX7_spare_21
set_option maxHeartbeats 4000000 in
set_option maxRecDepth 100000 in
theorem c_X7_spare_2 (l : Launch) (g : va_G) (y : Nat → ClassId) (ad : Nat → Nat) (σ : Nat → Nat → Int32) {S : Nat} (hS : σ 0 6 = nI S) (hS2 : S ≤ 6) (X Y : Int64) (h : S < 6) (hn : farP X ∨ farP Y) (hst : l.stackTraces = false) : w_T l g y yX7_spare cX7_spare 5 (some .int) 8 [.ref (ad 0), .long X, .long Y] (cw ad y σ) xIA := by
  refine w_ofT (lv0 := [(0, .ref (ad 0)), (1, .long X), (3, .long Y)]) hst (by decide +kernel) (Nat.le_of_ble_eq_true rfl) rfl ?_
  intro Z hT
  have hZ := hT.is
  refine r_aload_n 1 hZ 0 dX7_spare_0 rfl rfl rfl ?_
  refine g_X7_26 4 hZ dX7_spare_1 rfl ?_
  refine g_X7_166 7 hZ dX7_spare_4 rfl ?_
  refine w_eqI (hS) ?_
  refine r_bipush (v := 6) 9 hZ dX7_spare_7 rfl (by decide) ?_
  refine r_icmp_lt 22 12 hZ dX7_spare_9 (by decide) rfl (fun c_9 => ?_) (fun c_9 => ?_)
  · skip
    refine r_lload_n 23 hZ 1 dX7_spare_22 rfl rfl rfl ?_
    refine r_callSI (c_X7_isTooFar l g y ad σ X) wM_X7_isTooFar wL_X7_156 hZ rfl ⟨by decide, by decide⟩ rfl rfl dX7_spare_23 ?_
    refine r_if_ne 36 29 hZ dX7_spare_26 (by decide) rfl (fun c_26 => ?_) (fun c_26 => ?_)
    · skip
      exact r_throwIA hT (by decide) (show (160, _) ∈ w_strs from List.mem_of_getElem? (i := 10) rfl) rfl dX7_spare_36 dX7_spare_39 dX7_spare_40 dX7_spare_42 dX7_spare_45
    · skip
      refine r_lload_n 30 hZ 2 dX7_spare_29 rfl rfl rfl ?_
      refine r_callSI (c_X7_isTooFar l g y ad σ Y) wM_X7_isTooFar wL_X7_156 hZ rfl ⟨by decide, by decide⟩ rfl rfl dX7_spare_30 ?_
      refine r_if_eq 46 36 hZ dX7_spare_33 (by decide) rfl (fun c_33 => ?_) (fun c_33 => ?_)
      · skip
        exact (hn.elim (bI_0.mp c_26) (bI_0.mp c_33)).elim
      · skip
        exact r_throwIA hT (by decide) (show (160, _) ∈ w_strs from List.mem_of_getElem? (i := 10) rfl) rfl dX7_spare_36 dX7_spare_39 dX7_spare_40 dX7_spare_42 dX7_spare_45
  · skip
    exact absurd (show nI S < nI 6 from nI_lt h (by decide)) c_9
set_option maxHeartbeats 4000000 in
set_option maxRecDepth 100000 in
theorem c_X7_spare_0 (l : Launch) (g : va_G) (y : Nat → ClassId) (ad : Nat → Nat) (σ : Nat → Nat → Int32) {S : Nat} (hS : σ 0 6 = nI S) (hS2 : S ≤ 6) (X Y : Int64) (h : S < 6) (hX : ¬ farP X) (hY : ¬ farP Y) : w_C l g y yX7_spare cX7_spare 5 (some .int) 8 [.ref (ad 0), .long X, .long Y] (cw ad y σ) (some (.int (nI S))) (cw ad y (up (up (up (up σ 0 0 (-1)) 13 S X.toInt32) 14 S Y.toInt32) 0 6 (nI (S + 1)))) := by
  refine w_ofI (lv0 := [(0, .ref (ad 0)), (1, .long X), (3, .long Y)]) (by decide +kernel) (Nat.le_of_ble_eq_true rfl) rfl (rfl) ?_
  intro Z hZ hret
  refine r_aload_n 1 hZ 0 dX7_spare_0 rfl rfl rfl ?_
  refine g_X7_26 4 hZ dX7_spare_1 rfl ?_
  refine g_X7_166 7 hZ dX7_spare_4 rfl ?_
  refine w_eqI (hS) ?_
  refine r_bipush (v := 6) 9 hZ dX7_spare_7 rfl (by decide) ?_
  refine r_icmp_lt 22 12 hZ dX7_spare_9 (by decide) rfl (fun c_9 => ?_) (fun c_9 => ?_)
  · skip
    refine r_lload_n 23 hZ 1 dX7_spare_22 rfl rfl rfl ?_
    refine r_callSI (c_X7_isTooFar l g y ad σ X) wM_X7_isTooFar wL_X7_156 hZ rfl ⟨by decide, by decide⟩ rfl rfl dX7_spare_23 ?_
    refine r_if_ne 36 29 hZ dX7_spare_26 (by decide) rfl (fun c_26 => ?_) (fun c_26 => ?_)
    · skip
      exact (hX (bI_n0.mp c_26)).elim
    · skip
      refine r_lload_n 30 hZ 2 dX7_spare_29 rfl rfl rfl ?_
      refine r_callSI (c_X7_isTooFar l g y ad σ Y) wM_X7_isTooFar wL_X7_156 hZ rfl ⟨by decide, by decide⟩ rfl rfl dX7_spare_30 ?_
      refine r_if_eq 46 36 hZ dX7_spare_33 (by decide) rfl (fun c_33 => ?_) (fun c_33 => ?_)
      · skip
        refine r_aload_n 47 hZ 0 dX7_spare_46 rfl rfl rfl ?_
        refine r_iconst (v := (-1)) 48 hZ dX7_spare_47 rfl (by decide) ?_
        refine p_X7_55 51 hZ dX7_spare_48 rfl ?_
        refine r_aload_n 52 hZ 0 dX7_spare_51 rfl rfl rfl ?_
        refine g_X7_26 55 hZ dX7_spare_52 rfl ?_
        refine r_lload_n 56 hZ 1 dX7_spare_55 rfl rfl rfl ?_
        refine r_l2i 57 hZ dX7_spare_56 rfl ?_
        refine r_lload_n 58 hZ 2 dX7_spare_57 rfl rfl rfl ?_
        refine r_l2i 59 hZ dX7_spare_58 rfl ?_
        refine r_callVI (c_X0_addSpare l g y ad (up σ 0 0 (-1)) (S := S) (by exact hS) h X.toInt32 Y.toInt32) wM_X0_addSpare wL_X7_171 hZ rfl ⟨by decide, by decide⟩ 3 0 rfl rfl rfl rfl dX7_spare_59 ?_
        exact hret _ _ _ _ dX7_spare_62 rfl rfl
      · skip
        exact (c_33 (bI_0.mpr hY)).elim
  · skip
    exact absurd (show nI S < nI 6 from nI_lt h (by decide)) c_9
set_option maxHeartbeats 4000000 in
set_option maxRecDepth 100000 in
theorem c_X7_run_e (l : Launch) (g : va_G) (y : Nat → ClassId) (ad : Nat → Nat) (σ : Nat → Nat → Int32) (x : Int32) (h : ¬ okL x 3) (hst : l.stackTraces = false) : w_T l g y yX7_run cX7_run 2 (some .int) 8 [.ref (ad 0), .int x] (cw ad y σ) xIA := by
  refine w_ofT (lv0 := [(0, .ref (ad 0)), (1, .int x)]) hst (by decide +kernel) (Nat.le_of_ble_eq_true rfl) rfl ?_
  intro Z hT
  have hZ := hT.is
  refine r_iload_n 1 hZ 1 dX7_run_0 rfl rfl rfl ?_
  refine r_if_lt 9 4 hZ dX7_run_1 (by decide) rfl (fun c_1 => ?_) (fun c_1 => ?_)
  · skip
    exact r_throwIA hT (by decide) (show (174, _) ∈ w_strs from List.mem_of_getElem? (i := 12) rfl) rfl dX7_run_9 dX7_run_12 dX7_run_13 dX7_run_15 dX7_run_18
  · skip
    refine r_iload_n 5 hZ 1 dX7_run_4 rfl rfl rfl ?_
    refine r_iconst (v := 2) 6 hZ dX7_run_5 rfl (by decide) ?_
    refine r_icmp_le 19 9 hZ dX7_run_6 (by decide) rfl (fun c_6 => ?_) (fun c_6 => ?_)
    · skip
      exact (h (is3 c_1 (Int32.not_lt.mpr c_6))).elim
    · skip
      exact r_throwIA hT (by decide) (show (174, _) ∈ w_strs from List.mem_of_getElem? (i := 12) rfl) rfl dX7_run_9 dX7_run_12 dX7_run_13 dX7_run_15 dX7_run_18
noncomputable def runN (σ : stT) (N I O G most : Nat) : stT := up (feR σ N I O G most).2 0 0 (-1)
noncomputable def runE (σ : stT) (N I O G most S r : Nat) : stT := takeF (up (feR σ N I O G most).2 0 0 (nI r)) r S
set_option maxHeartbeats 4000000 in
set_option maxRecDepth 100000 in
theorem c_X7_run_n (l : Launch) (g : va_G) (y : Nat → ClassId) (ad : Nat → Nat) (σ : Nat → Nat → Int32) {N I O G S : Nat} (hs : Ws σ N I O G) {most : Nat} (hm : most ≤ 2) (hr : (feR σ N I O G most).1 = -1) : w_C l g y yX7_run cX7_run 2 (some .int) 8 [.ref (ad 0), .int (nI most)] (cw ad y σ) (some (.int (-1))) (cw ad y (runN σ N I O G most)) := by
  refine w_ofI (lv0 := [(0, .ref (ad 0)), (1, .int (nI most))]) (by decide +kernel) (Nat.le_of_ble_eq_true rfl) rfl (rfl) ?_
  intro Z hZ hret
  refine r_iload_n 1 hZ 1 dX7_run_0 rfl rfl rfl ?_
  refine r_if_lt 9 4 hZ dX7_run_1 (by decide) rfl (fun c_1 => ?_) (fun c_1 => ?_)
  · skip
    exact absurd c_1 (nI_pos (by omega))
  · skip
    refine r_iload_n 5 hZ 1 dX7_run_4 rfl rfl rfl ?_
    refine r_iconst (v := 2) 6 hZ dX7_run_5 rfl (by decide) ?_
    refine r_icmp_le 19 9 hZ dX7_run_6 (by decide) rfl (fun c_6 => ?_) (fun c_6 => ?_)
    · skip
      refine r_aload_n 20 hZ 0 dX7_run_19 rfl rfl rfl ?_
      refine r_aload_n 21 hZ 0 dX7_run_20 rfl rfl rfl ?_
      refine g_X7_35 24 hZ dX7_run_21 rfl ?_
      refine r_iload_n 25 hZ 1 dX7_run_24 rfl rfl rfl ?_
      refine r_callVI (c_X5_fewestEdits l g y ad σ hs hm) wM_X5_fewestEdits wL_X7_176 hZ rfl ⟨by decide, by decide⟩ 4 5 rfl rfl rfl rfl dX7_run_25 ?_
      refine w_eqI (hr) ?_
      refine p_X7_55 31 hZ dX7_run_28 rfl ?_
      refine r_aload_n 32 hZ 0 dX7_run_31 rfl rfl rfl ?_
      refine g_X7_55 35 hZ dX7_run_32 rfl ?_
      refine r_iconst (v := (-1)) 36 hZ dX7_run_35 rfl (by decide) ?_
      refine r_icmp_eq 57 39 hZ dX7_run_36 (by decide) rfl (fun c_36 => ?_) (fun c_36 => ?_)
      · skip
        refine r_aload_n 58 hZ 0 dX7_run_57 rfl rfl rfl ?_
        refine g_X7_55 61 hZ dX7_run_58 rfl ?_
        exact hret _ _ _ _ dX7_run_61 rfl rfl
      · skip
        exact absurd rfl c_36
    · skip
      exact (c_6 (show nI most ≤ nI 2 from nI_le hm (by decide))).elim
set_option maxHeartbeats 4000000 in
set_option maxRecDepth 100000 in
theorem c_X7_run_0 (l : Launch) (g : va_G) (y : Nat → ClassId) (ad : Nat → Nat) (σ : Nat → Nat → Int32) {N I O G S : Nat} (hs : Ws σ N I O G) {most : Nat} (hm : most ≤ 2) (hr : (feR σ N I O G most).1 = 0) (hS : (feR σ N I O G most).2 0 6 = nI S) (hS6 : S ≤ 6) : w_C l g y yX7_run cX7_run 2 (some .int) 8 [.ref (ad 0), .int (nI most)] (cw ad y σ) (some (.int 0)) (cw ad y (runE σ N I O G most S 0)) := by
  refine w_ofI (lv0 := [(0, .ref (ad 0)), (1, .int (nI most))]) (by decide +kernel) (Nat.le_of_ble_eq_true rfl) rfl (rfl) ?_
  intro Z hZ hret
  refine r_iload_n 1 hZ 1 dX7_run_0 rfl rfl rfl ?_
  refine r_if_lt 9 4 hZ dX7_run_1 (by decide) rfl (fun c_1 => ?_) (fun c_1 => ?_)
  · skip
    exact absurd c_1 (nI_pos (by omega))
  · skip
    refine r_iload_n 5 hZ 1 dX7_run_4 rfl rfl rfl ?_
    refine r_iconst (v := 2) 6 hZ dX7_run_5 rfl (by decide) ?_
    refine r_icmp_le 19 9 hZ dX7_run_6 (by decide) rfl (fun c_6 => ?_) (fun c_6 => ?_)
    · skip
      refine r_aload_n 20 hZ 0 dX7_run_19 rfl rfl rfl ?_
      refine r_aload_n 21 hZ 0 dX7_run_20 rfl rfl rfl ?_
      refine g_X7_35 24 hZ dX7_run_21 rfl ?_
      refine r_iload_n 25 hZ 1 dX7_run_24 rfl rfl rfl ?_
      refine r_callVI (c_X5_fewestEdits l g y ad σ hs hm) wM_X5_fewestEdits wL_X7_176 hZ rfl ⟨by decide, by decide⟩ 4 5 rfl rfl rfl rfl dX7_run_25 ?_
      refine w_eqI (hr) ?_
      refine p_X7_55 31 hZ dX7_run_28 rfl ?_
      refine r_aload_n 32 hZ 0 dX7_run_31 rfl rfl rfl ?_
      refine g_X7_55 35 hZ dX7_run_32 rfl ?_
      refine r_iconst (v := (-1)) 36 hZ dX7_run_35 rfl (by decide) ?_
      refine r_icmp_eq 57 39 hZ dX7_run_36 (by decide) rfl (fun c_36 => ?_) (fun c_36 => ?_)
      · skip
        exact absurd c_36 (show ¬ ((0 : Int32) = -1) by decide)
      · skip
        refine r_aload_n 40 hZ 0 dX7_run_39 rfl rfl rfl ?_
        refine g_X7_44 43 hZ dX7_run_40 rfl ?_
        refine r_aload_n 44 hZ 0 dX7_run_43 rfl rfl rfl ?_
        refine g_X7_35 47 hZ dX7_run_44 rfl ?_
        refine g_X7_179 50 hZ dX7_run_47 rfl ?_
        refine r_aload_n 51 hZ 0 dX7_run_50 rfl rfl rfl ?_
        refine g_X7_55 54 hZ dX7_run_51 rfl ?_
        change Z 0 0 (cw ad y (up (feR σ N I O G most).2 0 0 (nI 0))) 54 _ _
        refine r_callVV (c_X6_take_0 l g y ad (up (feR σ N I O G most).2 0 0 (nI 0)) (S := S) (by exact hS) hS6 ) wM_X6_take wL_X7_183 hZ rfl ⟨by decide, by decide⟩ 5 6 rfl rfl rfl rfl dX7_run_54 ?_
        refine r_aload_n 58 hZ 0 dX7_run_57 rfl rfl rfl ?_
        refine g_X7_55 61 hZ dX7_run_58 rfl ?_
        refine w_eqI (rfl) ?_
        exact hret _ _ _ _ dX7_run_61 rfl rfl
    · skip
      exact (c_6 (show nI most ≤ nI 2 from nI_le hm (by decide))).elim
set_option maxHeartbeats 4000000 in
set_option maxRecDepth 100000 in
theorem c_X7_run_1 (l : Launch) (g : va_G) (y : Nat → ClassId) (ad : Nat → Nat) (σ : Nat → Nat → Int32) {N I O G S : Nat} (hs : Ws σ N I O G) {most : Nat} (hm : most ≤ 2) (hr : (feR σ N I O G most).1 = 1) (hS : (feR σ N I O G most).2 0 6 = nI S) (hS6 : S ≤ 6) (k0 : okL ((feR σ N I O G most).2 17 0) 38) : w_C l g y yX7_run cX7_run 2 (some .int) 8 [.ref (ad 0), .int (nI most)] (cw ad y σ) (some (.int 1)) (cw ad y (runE σ N I O G most S 1)) := by
  refine w_ofI (lv0 := [(0, .ref (ad 0)), (1, .int (nI most))]) (by decide +kernel) (Nat.le_of_ble_eq_true rfl) rfl (rfl) ?_
  intro Z hZ hret
  refine r_iload_n 1 hZ 1 dX7_run_0 rfl rfl rfl ?_
  refine r_if_lt 9 4 hZ dX7_run_1 (by decide) rfl (fun c_1 => ?_) (fun c_1 => ?_)
  · skip
    exact absurd c_1 (nI_pos (by omega))
  · skip
    refine r_iload_n 5 hZ 1 dX7_run_4 rfl rfl rfl ?_
    refine r_iconst (v := 2) 6 hZ dX7_run_5 rfl (by decide) ?_
    refine r_icmp_le 19 9 hZ dX7_run_6 (by decide) rfl (fun c_6 => ?_) (fun c_6 => ?_)
    · skip
      refine r_aload_n 20 hZ 0 dX7_run_19 rfl rfl rfl ?_
      refine r_aload_n 21 hZ 0 dX7_run_20 rfl rfl rfl ?_
      refine g_X7_35 24 hZ dX7_run_21 rfl ?_
      refine r_iload_n 25 hZ 1 dX7_run_24 rfl rfl rfl ?_
      refine r_callVI (c_X5_fewestEdits l g y ad σ hs hm) wM_X5_fewestEdits wL_X7_176 hZ rfl ⟨by decide, by decide⟩ 4 5 rfl rfl rfl rfl dX7_run_25 ?_
      refine w_eqI (hr) ?_
      refine p_X7_55 31 hZ dX7_run_28 rfl ?_
      refine r_aload_n 32 hZ 0 dX7_run_31 rfl rfl rfl ?_
      refine g_X7_55 35 hZ dX7_run_32 rfl ?_
      refine r_iconst (v := (-1)) 36 hZ dX7_run_35 rfl (by decide) ?_
      refine r_icmp_eq 57 39 hZ dX7_run_36 (by decide) rfl (fun c_36 => ?_) (fun c_36 => ?_)
      · skip
        exact absurd c_36 (show ¬ ((1 : Int32) = -1) by decide)
      · skip
        refine r_aload_n 40 hZ 0 dX7_run_39 rfl rfl rfl ?_
        refine g_X7_44 43 hZ dX7_run_40 rfl ?_
        refine r_aload_n 44 hZ 0 dX7_run_43 rfl rfl rfl ?_
        refine g_X7_35 47 hZ dX7_run_44 rfl ?_
        refine g_X7_179 50 hZ dX7_run_47 rfl ?_
        refine r_aload_n 51 hZ 0 dX7_run_50 rfl rfl rfl ?_
        refine g_X7_55 54 hZ dX7_run_51 rfl ?_
        change Z 0 0 (cw ad y (up (feR σ N I O G most).2 0 0 (nI 1))) 54 _ _
        refine r_callVV (c_X6_take_1 l g y ad (up (feR σ N I O G most).2 0 0 (nI 1)) (S := S) (by exact hS) hS6 k0) wM_X6_take wL_X7_183 hZ rfl ⟨by decide, by decide⟩ 5 6 rfl rfl rfl rfl dX7_run_54 ?_
        refine r_aload_n 58 hZ 0 dX7_run_57 rfl rfl rfl ?_
        refine g_X7_55 61 hZ dX7_run_58 rfl ?_
        refine w_eqI ((t1F_0 _ _ 0 (by decide) _).trans (show _ = (1 : Int32) from rfl)) ?_
        exact hret _ _ _ _ dX7_run_61 rfl rfl
    · skip
      exact (c_6 (show nI most ≤ nI 2 from nI_le hm (by decide))).elim
set_option maxHeartbeats 4000000 in
set_option maxRecDepth 100000 in
theorem c_X7_run_2 (l : Launch) (g : va_G) (y : Nat → ClassId) (ad : Nat → Nat) (σ : Nat → Nat → Int32) {N I O G S : Nat} (hs : Ws σ N I O G) {most : Nat} (hm : most ≤ 2) (hr : (feR σ N I O G most).1 = 2) (hS : (feR σ N I O G most).2 0 6 = nI S) (hS6 : S ≤ 6) (k0 : okL ((feR σ N I O G most).2 17 0) 38) (k1 : okL ((feR σ N I O G most).2 17 1) 38) : w_C l g y yX7_run cX7_run 2 (some .int) 8 [.ref (ad 0), .int (nI most)] (cw ad y σ) (some (.int 2)) (cw ad y (runE σ N I O G most S 2)) := by
  refine w_ofI (lv0 := [(0, .ref (ad 0)), (1, .int (nI most))]) (by decide +kernel) (Nat.le_of_ble_eq_true rfl) rfl (rfl) ?_
  intro Z hZ hret
  refine r_iload_n 1 hZ 1 dX7_run_0 rfl rfl rfl ?_
  refine r_if_lt 9 4 hZ dX7_run_1 (by decide) rfl (fun c_1 => ?_) (fun c_1 => ?_)
  · skip
    exact absurd c_1 (nI_pos (by omega))
  · skip
    refine r_iload_n 5 hZ 1 dX7_run_4 rfl rfl rfl ?_
    refine r_iconst (v := 2) 6 hZ dX7_run_5 rfl (by decide) ?_
    refine r_icmp_le 19 9 hZ dX7_run_6 (by decide) rfl (fun c_6 => ?_) (fun c_6 => ?_)
    · skip
      refine r_aload_n 20 hZ 0 dX7_run_19 rfl rfl rfl ?_
      refine r_aload_n 21 hZ 0 dX7_run_20 rfl rfl rfl ?_
      refine g_X7_35 24 hZ dX7_run_21 rfl ?_
      refine r_iload_n 25 hZ 1 dX7_run_24 rfl rfl rfl ?_
      refine r_callVI (c_X5_fewestEdits l g y ad σ hs hm) wM_X5_fewestEdits wL_X7_176 hZ rfl ⟨by decide, by decide⟩ 4 5 rfl rfl rfl rfl dX7_run_25 ?_
      refine w_eqI (hr) ?_
      refine p_X7_55 31 hZ dX7_run_28 rfl ?_
      refine r_aload_n 32 hZ 0 dX7_run_31 rfl rfl rfl ?_
      refine g_X7_55 35 hZ dX7_run_32 rfl ?_
      refine r_iconst (v := (-1)) 36 hZ dX7_run_35 rfl (by decide) ?_
      refine r_icmp_eq 57 39 hZ dX7_run_36 (by decide) rfl (fun c_36 => ?_) (fun c_36 => ?_)
      · skip
        exact absurd c_36 (show ¬ ((2 : Int32) = -1) by decide)
      · skip
        refine r_aload_n 40 hZ 0 dX7_run_39 rfl rfl rfl ?_
        refine g_X7_44 43 hZ dX7_run_40 rfl ?_
        refine r_aload_n 44 hZ 0 dX7_run_43 rfl rfl rfl ?_
        refine g_X7_35 47 hZ dX7_run_44 rfl ?_
        refine g_X7_179 50 hZ dX7_run_47 rfl ?_
        refine r_aload_n 51 hZ 0 dX7_run_50 rfl rfl rfl ?_
        refine g_X7_55 54 hZ dX7_run_51 rfl ?_
        change Z 0 0 (cw ad y (up (feR σ N I O G most).2 0 0 (nI 2))) 54 _ _
        refine r_callVV (c_X6_take_2 l g y ad (up (feR σ N I O G most).2 0 0 (nI 2)) (S := S) (by exact hS) hS6 k0 k1) wM_X6_take wL_X7_183 hZ rfl ⟨by decide, by decide⟩ 5 6 rfl rfl rfl rfl dX7_run_54 ?_
        refine r_aload_n 58 hZ 0 dX7_run_57 rfl rfl rfl ?_
        refine g_X7_55 61 hZ dX7_run_58 rfl ?_
        refine w_eqI ((t2F_0 _ _ _ _ 0 (by decide) _).trans (show _ = (2 : Int32) from rfl)) ?_
        exact hret _ _ _ _ dX7_run_61 rfl rfl
    · skip
      exact (c_6 (show nI most ≤ nI 2 from nI_le hm (by decide))).elim
