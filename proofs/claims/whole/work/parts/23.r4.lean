theorem nn {P : Prop} (h : P) : ¬ ¬ P := fun q => q h
theorem b0a {P : Prop} (h : P) (e : bI P = 0) : False := bI_0.mp e h
theorem b1a {P : Prop} (h : ¬ P) (e : ¬ bI P = 0) : False := h (bI_n0.mp e)
set_option maxHeartbeats 4000000 in
set_option maxRecDepth 100000 in
theorem c_X8_old_1 (l : Launch) (g : va_G) (y : Nat → ClassId) (ad : Nat → Nat) (τ : Nat → Nat → Int32) (ρ : Nat → Nat → Int64) {N O : Nat} (hN : τ 0 1 = nI N) (hN2 : N ≤ 38) (hO : τ 0 3 = nI O) (hO2 : O ≤ 8) {x z : Int32} (h : ¬ (okL x (2 * N) ∧ okL z (2 * N))) : w_C l g y yX8_old cX8_old 4 (some .int) 5 [.ref (ad 0), .int x, .int z] (rw ad y τ ρ) (some (.int 0)) (rw ad y (up τ 0 0 1) ρ) := by
  refine w_ofI (lv0 := [(0, .ref (ad 0)), (1, .int x), (2, .int z)]) (by decide +kernel) (Nat.le_of_ble_eq_true rfl) rfl (rfl) ?_
  intro Z hZ hret
  refine r_aload_n 1 hZ 0 dX8_old_0 rfl rfl rfl ?_
  refine r_iload_n 2 hZ 1 dX8_old_1 rfl rfl rfl ?_
  refine r_callVI (c_X8_isLiteral l g y ad τ ρ x hN hN2) wM_X8_isLiteral wL_X8_115 hZ rfl ⟨by decide, by decide⟩ 0 8 rfl rfl rfl rfl dX8_old_2 ?_
  refine r_if_eq 20 8 hZ dX8_old_5 (by decide) rfl (fun c_5 => ?_) (fun c_5 => ?_)
  · skip
    refine r_iconst (v := 0) 21 hZ dX8_old_20 rfl (by decide) ?_
    refine r_istnN 22 [(0, _), (1, _), (2, _), (3, _)] hZ dX8_old_21 rfl rfl (by decide) rfl rfl ?_
    refine r_aload_n 23 hZ 0 dX8_old_22 rfl rfl rfl ?_
    refine r_iload_n 24 hZ 3 dX8_old_23 rfl rfl rfl ?_
    refine r_if_ne 31 27 hZ dX8_old_24 (by decide) rfl (fun c_24 => ?_) (fun c_24 => ?_)
    · skip
      exact absurd c_24 (show ¬ (¬ (0 : Int32) = (0 : Int32)) by decide)
    · skip
      refine r_iconst (v := 1) 28 hZ dX8_old_27 rfl (by decide) ?_
      refine r_goto 67 hZ dX8_old_28 (by decide) ?_
      refine p_X8_72 70 hZ dX8_old_67 rfl ?_
      refine r_aload_n 71 hZ 0 dX8_old_70 rfl rfl rfl ?_
      refine g_X8_72 74 hZ dX8_old_71 rfl ?_
      refine r_if_le 79 77 hZ dX8_old_74 (by decide) rfl (fun c_74 => ?_) (fun c_74 => ?_)
      · skip
        exact absurd c_74 (show ¬ ((1 : Int32) ≤ (0 : Int32)) by decide)
      · skip
        refine r_iconst (v := 0) 78 hZ dX8_old_77 rfl (by decide) ?_
        exact hret _ _ _ _ dX8_old_78 rfl rfl
  · skip
    refine r_aload_n 9 hZ 0 dX8_old_8 rfl rfl rfl ?_
    refine r_iload_n 10 hZ 2 dX8_old_9 rfl rfl rfl ?_
    refine r_callVI (c_X8_isLiteral l g y ad τ ρ z hN hN2) wM_X8_isLiteral wL_X8_115 hZ rfl ⟨by decide, by decide⟩ 0 8 rfl rfl rfl rfl dX8_old_10 ?_
    refine r_if_eq 20 16 hZ dX8_old_13 (by decide) rfl (fun c_13 => ?_) (fun c_13 => ?_)
    · skip
      refine r_iconst (v := 0) 21 hZ dX8_old_20 rfl (by decide) ?_
      refine r_istnN 22 [(0, _), (1, _), (2, _), (3, _)] hZ dX8_old_21 rfl rfl (by decide) rfl rfl ?_
      refine r_aload_n 23 hZ 0 dX8_old_22 rfl rfl rfl ?_
      refine r_iload_n 24 hZ 3 dX8_old_23 rfl rfl rfl ?_
      refine r_if_ne 31 27 hZ dX8_old_24 (by decide) rfl (fun c_24 => ?_) (fun c_24 => ?_)
      · skip
        exact absurd c_24 (show ¬ (¬ (0 : Int32) = (0 : Int32)) by decide)
      · skip
        refine r_iconst (v := 1) 28 hZ dX8_old_27 rfl (by decide) ?_
        refine r_goto 67 hZ dX8_old_28 (by decide) ?_
        refine p_X8_72 70 hZ dX8_old_67 rfl ?_
        refine r_aload_n 71 hZ 0 dX8_old_70 rfl rfl rfl ?_
        refine g_X8_72 74 hZ dX8_old_71 rfl ?_
        refine r_if_le 79 77 hZ dX8_old_74 (by decide) rfl (fun c_74 => ?_) (fun c_74 => ?_)
        · skip
          exact absurd c_74 (show ¬ ((1 : Int32) ≤ (0 : Int32)) by decide)
        · skip
          refine r_iconst (v := 0) 78 hZ dX8_old_77 rfl (by decide) ?_
          exact hret _ _ _ _ dX8_old_78 rfl rfl
    · skip
      exact (h ⟨bI_n0.mp c_5, bI_n0.mp c_13⟩).elim
set_option maxHeartbeats 4000000 in
set_option maxRecDepth 100000 in
theorem c_X8_old_2 (l : Launch) (g : va_G) (y : Nat → ClassId) (ad : Nat → Nat) (τ : Nat → Nat → Int32) (ρ : Nat → Nat → Int64) {N O : Nat} (hN : τ 0 1 = nI N) (hN2 : N ≤ 38) (hO : τ 0 3 = nI O) (hO2 : O ≤ 8) {x z : Int32} (hx : okL x (2 * N)) (hz : okL z (2 * N)) (h8 : O = 8) : w_C l g y yX8_old cX8_old 4 (some .int) 5 [.ref (ad 0), .int x, .int z] (rw ad y τ ρ) (some (.int 0)) (rw ad y (up τ 0 0 2) ρ) := by
  refine w_ofI (lv0 := [(0, .ref (ad 0)), (1, .int x), (2, .int z)]) (by decide +kernel) (Nat.le_of_ble_eq_true rfl) rfl (rfl) ?_
  intro Z hZ hret
  refine r_aload_n 1 hZ 0 dX8_old_0 rfl rfl rfl ?_
  refine r_iload_n 2 hZ 1 dX8_old_1 rfl rfl rfl ?_
  refine r_callVI (c_X8_isLiteral l g y ad τ ρ x hN hN2) wM_X8_isLiteral wL_X8_115 hZ rfl ⟨by decide, by decide⟩ 0 8 rfl rfl rfl rfl dX8_old_2 ?_
  refine r_if_eq 20 8 hZ dX8_old_5 (by decide) rfl (fun c_5 => ?_) (fun c_5 => ?_)
  · skip
    exact (b0a hx c_5).elim
  · skip
    refine r_aload_n 9 hZ 0 dX8_old_8 rfl rfl rfl ?_
    refine r_iload_n 10 hZ 2 dX8_old_9 rfl rfl rfl ?_
    refine r_callVI (c_X8_isLiteral l g y ad τ ρ z hN hN2) wM_X8_isLiteral wL_X8_115 hZ rfl ⟨by decide, by decide⟩ 0 8 rfl rfl rfl rfl dX8_old_10 ?_
    refine r_if_eq 20 16 hZ dX8_old_13 (by decide) rfl (fun c_13 => ?_) (fun c_13 => ?_)
    · skip
      exact (b0a hz c_13).elim
    · skip
      refine r_iconst (v := 1) 17 hZ dX8_old_16 rfl (by decide) ?_
      refine r_goto 21 hZ dX8_old_17 (by decide) ?_
      refine r_istnN 22 [(0, _), (1, _), (2, _), (3, _)] hZ dX8_old_21 rfl rfl (by decide) rfl rfl ?_
      refine r_aload_n 23 hZ 0 dX8_old_22 rfl rfl rfl ?_
      refine r_iload_n 24 hZ 3 dX8_old_23 rfl rfl rfl ?_
      refine r_if_ne 31 27 hZ dX8_old_24 (by decide) rfl (fun c_24 => ?_) (fun c_24 => ?_)
      · skip
        refine r_aload_n 32 hZ 0 dX8_old_31 rfl rfl rfl ?_
        refine g_X8_105 35 hZ dX8_old_32 rfl ?_
        refine w_eqI (hO) ?_
        refine r_bipush (v := 8) 37 hZ dX8_old_35 rfl (by decide) ?_
        refine r_icmp_ne 44 40 hZ dX8_old_37 (by decide) rfl (fun c_37 => ?_) (fun c_37 => ?_)
        · skip
          exact absurd (by rw [h8]; rfl) c_37
        · skip
          refine r_iconst (v := 2) 41 hZ dX8_old_40 rfl (by decide) ?_
          refine r_goto 67 hZ dX8_old_41 (by decide) ?_
          refine p_X8_72 70 hZ dX8_old_67 rfl ?_
          refine r_aload_n 71 hZ 0 dX8_old_70 rfl rfl rfl ?_
          refine g_X8_72 74 hZ dX8_old_71 rfl ?_
          refine r_if_le 79 77 hZ dX8_old_74 (by decide) rfl (fun c_74 => ?_) (fun c_74 => ?_)
          · skip
            exact absurd c_74 (show ¬ ((2 : Int32) ≤ (0 : Int32)) by decide)
          · skip
            refine r_iconst (v := 0) 78 hZ dX8_old_77 rfl (by decide) ?_
            exact hret _ _ _ _ dX8_old_78 rfl rfl
      · skip
        exact absurd c_24 (show ¬ ((1 : Int32) = (0 : Int32)) by decide)
set_option maxHeartbeats 4000000 in
set_option maxRecDepth 100000 in
theorem c_X8_old_3 (l : Launch) (g : va_G) (y : Nat → ClassId) (ad : Nat → Nat) (τ : Nat → Nat → Int32) (ρ : Nat → Nat → Int64) {N O : Nat} (hN : τ 0 1 = nI N) (hN2 : N ≤ 38) (hO : τ 0 3 = nI O) (hO2 : O ≤ 8) {x z : Int32} (hx : okL x (2 * N)) (hz : okL z (2 * N)) (h8 : O < 8) (h : τ 1 (ix x / 2) = 3 ∨ τ 1 (ix z / 2) = 3) : w_C l g y yX8_old cX8_old 4 (some .int) 5 [.ref (ad 0), .int x, .int z] (rw ad y τ ρ) (some (.int 0)) (rw ad y (up τ 0 0 3) ρ) := by
  refine w_ofI (lv0 := [(0, .ref (ad 0)), (1, .int x), (2, .int z)]) (by decide +kernel) (Nat.le_of_ble_eq_true rfl) rfl (rfl) ?_
  intro Z hZ hret
  refine r_aload_n 1 hZ 0 dX8_old_0 rfl rfl rfl ?_
  refine r_iload_n 2 hZ 1 dX8_old_1 rfl rfl rfl ?_
  refine r_callVI (c_X8_isLiteral l g y ad τ ρ x hN hN2) wM_X8_isLiteral wL_X8_115 hZ rfl ⟨by decide, by decide⟩ 0 8 rfl rfl rfl rfl dX8_old_2 ?_
  refine r_if_eq 20 8 hZ dX8_old_5 (by decide) rfl (fun c_5 => ?_) (fun c_5 => ?_)
  · skip
    exact (b0a hx c_5).elim
  · skip
    refine r_aload_n 9 hZ 0 dX8_old_8 rfl rfl rfl ?_
    refine r_iload_n 10 hZ 2 dX8_old_9 rfl rfl rfl ?_
    refine r_callVI (c_X8_isLiteral l g y ad τ ρ z hN hN2) wM_X8_isLiteral wL_X8_115 hZ rfl ⟨by decide, by decide⟩ 0 8 rfl rfl rfl rfl dX8_old_10 ?_
    refine r_if_eq 20 16 hZ dX8_old_13 (by decide) rfl (fun c_13 => ?_) (fun c_13 => ?_)
    · skip
      exact (b0a hz c_13).elim
    · skip
      refine r_iconst (v := 1) 17 hZ dX8_old_16 rfl (by decide) ?_
      refine r_goto 21 hZ dX8_old_17 (by decide) ?_
      refine r_istnN 22 [(0, _), (1, _), (2, _), (3, _)] hZ dX8_old_21 rfl rfl (by decide) rfl rfl ?_
      refine r_aload_n 23 hZ 0 dX8_old_22 rfl rfl rfl ?_
      refine r_iload_n 24 hZ 3 dX8_old_23 rfl rfl rfl ?_
      refine r_if_ne 31 27 hZ dX8_old_24 (by decide) rfl (fun c_24 => ?_) (fun c_24 => ?_)
      · skip
        refine r_aload_n 32 hZ 0 dX8_old_31 rfl rfl rfl ?_
        refine g_X8_105 35 hZ dX8_old_32 rfl ?_
        refine w_eqI (hO) ?_
        refine r_bipush (v := 8) 37 hZ dX8_old_35 rfl (by decide) ?_
        refine r_icmp_ne 44 40 hZ dX8_old_37 (by decide) rfl (fun c_37 => ?_) (fun c_37 => ?_)
        · skip
          refine r_aload_n 45 hZ 0 dX8_old_44 rfl rfl rfl ?_
          refine r_iload_n 46 hZ 1 dX8_old_45 rfl rfl rfl ?_
          refine r_iconst (v := 3) 47 hZ dX8_old_46 rfl (by decide) ?_
          refine r_callVI (c_X8_isOf l g y ad τ ρ (x := x) 3 (okL_mono hx (by omega))) wM_X8_isOf wL_X8_118 hZ rfl ⟨by decide, by decide⟩ 0 8 rfl rfl rfl rfl dX8_old_47 ?_
          refine r_if_ne 62 53 hZ dX8_old_50 (by decide) rfl (fun c_50 => ?_) (fun c_50 => ?_)
          · skip
            refine r_iconst (v := 3) 63 hZ dX8_old_62 rfl (by decide) ?_
            refine r_goto 67 hZ dX8_old_63 (by decide) ?_
            refine p_X8_72 70 hZ dX8_old_67 rfl ?_
            refine r_aload_n 71 hZ 0 dX8_old_70 rfl rfl rfl ?_
            refine g_X8_72 74 hZ dX8_old_71 rfl ?_
            refine r_if_le 79 77 hZ dX8_old_74 (by decide) rfl (fun c_74 => ?_) (fun c_74 => ?_)
            · skip
              exact absurd c_74 (show ¬ ((3 : Int32) ≤ (0 : Int32)) by decide)
            · skip
              refine r_iconst (v := 0) 78 hZ dX8_old_77 rfl (by decide) ?_
              exact hret _ _ _ _ dX8_old_78 rfl rfl
          · skip
            have c_50 : ¬ bI (τ 1 (ix x / 2) = 3) = 1 := fun q => absurd (q.symm.trans c_50) (by decide)
            refine r_aload_n 54 hZ 0 dX8_old_53 rfl rfl rfl ?_
            refine r_iload_n 55 hZ 2 dX8_old_54 rfl rfl rfl ?_
            refine r_iconst (v := 3) 56 hZ dX8_old_55 rfl (by decide) ?_
            refine r_callVI (c_X8_isOf l g y ad τ ρ (x := z) 3 (okL_mono hz (by omega))) wM_X8_isOf wL_X8_118 hZ rfl ⟨by decide, by decide⟩ 0 8 rfl rfl rfl rfl dX8_old_56 ?_
            refine r_if_eq 66 62 hZ dX8_old_59 (by decide) rfl (fun c_59 => ?_) (fun c_59 => ?_)
            · skip
              exact (h.elim (fun q => c_50 (bI_t q)) (fun q => b0a q c_59)).elim
            · skip
              refine r_iconst (v := 3) 63 hZ dX8_old_62 rfl (by decide) ?_
              refine r_goto 67 hZ dX8_old_63 (by decide) ?_
              refine p_X8_72 70 hZ dX8_old_67 rfl ?_
              refine r_aload_n 71 hZ 0 dX8_old_70 rfl rfl rfl ?_
              refine g_X8_72 74 hZ dX8_old_71 rfl ?_
              refine r_if_le 79 77 hZ dX8_old_74 (by decide) rfl (fun c_74 => ?_) (fun c_74 => ?_)
              · skip
                exact absurd c_74 (show ¬ ((3 : Int32) ≤ (0 : Int32)) by decide)
              · skip
                refine r_iconst (v := 0) 78 hZ dX8_old_77 rfl (by decide) ?_
                exact hret _ _ _ _ dX8_old_78 rfl rfl
        · skip
          exact absurd (nI_eqq (b := 8) (by omega) (by decide) c_37) (by omega)
      · skip
        exact absurd c_24 (show ¬ ((1 : Int32) = (0 : Int32)) by decide)
set_option maxHeartbeats 4000000 in
set_option maxRecDepth 100000 in
theorem c_X8_old_0 (l : Launch) (g : va_G) (y : Nat → ClassId) (ad : Nat → Nat) (τ : Nat → Nat → Int32) (ρ : Nat → Nat → Int64) {N O : Nat} (hN : τ 0 1 = nI N) (hN2 : N ≤ 38) (hO : τ 0 3 = nI O) (hO2 : O ≤ 8) {x z : Int32} (hx : okL x (2 * N)) (hz : okL z (2 * N)) (hN3 : N < 38) (h8 : O < 8) (h : ¬ (τ 1 (ix x / 2) = 3 ∨ τ 1 (ix z / 2) = 3)) : w_C l g y yX8_old cX8_old 4 (some .int) 5 [.ref (ad 0), .int x, .int z] (rw ad y τ ρ) (some (.int (nI (2 * N)))) (rw ad y (putF (up (up τ 0 0 0) 0 3 (nI (O + 1))) N 2 x z) (putL ρ N)) := by
  refine w_ofI (lv0 := [(0, .ref (ad 0)), (1, .int x), (2, .int z)]) (by decide +kernel) (Nat.le_of_ble_eq_true rfl) rfl (rfl) ?_
  intro Z hZ hret
  refine r_aload_n 1 hZ 0 dX8_old_0 rfl rfl rfl ?_
  refine r_iload_n 2 hZ 1 dX8_old_1 rfl rfl rfl ?_
  refine r_callVI (c_X8_isLiteral l g y ad τ ρ x hN hN2) wM_X8_isLiteral wL_X8_115 hZ rfl ⟨by decide, by decide⟩ 0 8 rfl rfl rfl rfl dX8_old_2 ?_
  refine r_if_eq 20 8 hZ dX8_old_5 (by decide) rfl (fun c_5 => ?_) (fun c_5 => ?_)
  · skip
    exact (b0a hx c_5).elim
  · skip
    refine r_aload_n 9 hZ 0 dX8_old_8 rfl rfl rfl ?_
    refine r_iload_n 10 hZ 2 dX8_old_9 rfl rfl rfl ?_
    refine r_callVI (c_X8_isLiteral l g y ad τ ρ z hN hN2) wM_X8_isLiteral wL_X8_115 hZ rfl ⟨by decide, by decide⟩ 0 8 rfl rfl rfl rfl dX8_old_10 ?_
    refine r_if_eq 20 16 hZ dX8_old_13 (by decide) rfl (fun c_13 => ?_) (fun c_13 => ?_)
    · skip
      exact (b0a hz c_13).elim
    · skip
      refine r_iconst (v := 1) 17 hZ dX8_old_16 rfl (by decide) ?_
      refine r_goto 21 hZ dX8_old_17 (by decide) ?_
      refine r_istnN 22 [(0, _), (1, _), (2, _), (3, _)] hZ dX8_old_21 rfl rfl (by decide) rfl rfl ?_
      refine r_aload_n 23 hZ 0 dX8_old_22 rfl rfl rfl ?_
      refine r_iload_n 24 hZ 3 dX8_old_23 rfl rfl rfl ?_
      refine r_if_ne 31 27 hZ dX8_old_24 (by decide) rfl (fun c_24 => ?_) (fun c_24 => ?_)
      · skip
        refine r_aload_n 32 hZ 0 dX8_old_31 rfl rfl rfl ?_
        refine g_X8_105 35 hZ dX8_old_32 rfl ?_
        refine w_eqI (hO) ?_
        refine r_bipush (v := 8) 37 hZ dX8_old_35 rfl (by decide) ?_
        refine r_icmp_ne 44 40 hZ dX8_old_37 (by decide) rfl (fun c_37 => ?_) (fun c_37 => ?_)
        · skip
          refine r_aload_n 45 hZ 0 dX8_old_44 rfl rfl rfl ?_
          refine r_iload_n 46 hZ 1 dX8_old_45 rfl rfl rfl ?_
          refine r_iconst (v := 3) 47 hZ dX8_old_46 rfl (by decide) ?_
          refine r_callVI (c_X8_isOf l g y ad τ ρ (x := x) 3 (okL_mono hx (by omega))) wM_X8_isOf wL_X8_118 hZ rfl ⟨by decide, by decide⟩ 0 8 rfl rfl rfl rfl dX8_old_47 ?_
          refine r_if_ne 62 53 hZ dX8_old_50 (by decide) rfl (fun c_50 => ?_) (fun c_50 => ?_)
          · skip
            exact (h (Or.inl (bI_n0.mp c_50))).elim
          · skip
            refine r_aload_n 54 hZ 0 dX8_old_53 rfl rfl rfl ?_
            refine r_iload_n 55 hZ 2 dX8_old_54 rfl rfl rfl ?_
            refine r_iconst (v := 3) 56 hZ dX8_old_55 rfl (by decide) ?_
            refine r_callVI (c_X8_isOf l g y ad τ ρ (x := z) 3 (okL_mono hz (by omega))) wM_X8_isOf wL_X8_118 hZ rfl ⟨by decide, by decide⟩ 0 8 rfl rfl rfl rfl dX8_old_56 ?_
            refine r_if_eq 66 62 hZ dX8_old_59 (by decide) rfl (fun c_59 => ?_) (fun c_59 => ?_)
            · skip
              refine r_iconst (v := 0) 67 hZ dX8_old_66 rfl (by decide) ?_
              refine p_X8_72 70 hZ dX8_old_67 rfl ?_
              refine r_aload_n 71 hZ 0 dX8_old_70 rfl rfl rfl ?_
              refine g_X8_72 74 hZ dX8_old_71 rfl ?_
              refine r_if_le 79 77 hZ dX8_old_74 (by decide) rfl (fun c_74 => ?_) (fun c_74 => ?_)
              · skip
                refine r_aload_n 80 hZ 0 dX8_old_79 rfl rfl rfl ?_
                refine r_dup 81 hZ dX8_old_80 rfl rfl ?_
                refine g_X8_105 84 hZ dX8_old_81 rfl ?_
                refine w_eqI (hO) ?_
                refine r_iconst (v := 1) 85 hZ dX8_old_84 rfl (by decide) ?_
                refine r_iadd 86 hZ dX8_old_85 rfl ?_
                rw [nI_1]
                refine p_X8_105 89 hZ dX8_old_86 rfl ?_
                refine r_aload_n 90 hZ 0 dX8_old_89 rfl rfl rfl ?_
                refine r_iconst (v := 2) 91 hZ dX8_old_90 rfl (by decide) ?_
                refine r_iload_n 92 hZ 1 dX8_old_91 rfl rfl rfl ?_
                refine r_iload_n 93 hZ 2 dX8_old_92 rfl rfl rfl ?_
                refine r_callVI (c_X8_put l g y ad _ ρ (N := N) (by exact hN) hN3 2 (okL_mono hx (by omega)) (okL_mono hz (by omega))) wM_X8_put wL_X8_111 hZ rfl ⟨by decide, by decide⟩ 0 8 rfl rfl rfl rfl dX8_old_93 ?_
                exact hret _ _ _ _ dX8_old_96 rfl rfl
              · skip
                exact absurd c_74 (show ¬ ¬ ((0 : Int32) ≤ (0 : Int32)) by decide)
            · skip
              exact (h (Or.inr (bI_n0.mp c_59))).elim
        · skip
          exact absurd (nI_eqq (b := 8) (by omega) (by decide) c_37) (by omega)
      · skip
        exact absurd c_24 (show ¬ ((1 : Int32) = (0 : Int32)) by decide)
set_option maxHeartbeats 4000000 in
set_option maxRecDepth 100000 in
theorem c_X8_asked_1 (l : Launch) (g : va_G) (y : Nat → ClassId) (ad : Nat → Nat) (τ : Nat → Nat → Int32) (ρ : Nat → Nat → Int64) {N O : Nat} (hN : τ 0 1 = nI N) (hN2 : N ≤ 38) (hO : τ 0 4 = nI O) (hO2 : O ≤ 24) {x z : Int32} (h : ¬ (okL x (2 * N) ∧ okL z (2 * N))) : w_C l g y yX8_asked cX8_asked 4 (some .int) 5 [.ref (ad 0), .int x, .int z] (rw ad y τ ρ) (some (.int 0)) (rw ad y (up τ 0 0 1) ρ) := by
  refine w_ofI (lv0 := [(0, .ref (ad 0)), (1, .int x), (2, .int z)]) (by decide +kernel) (Nat.le_of_ble_eq_true rfl) rfl (rfl) ?_
  intro Z hZ hret
  refine r_aload_n 1 hZ 0 dX8_asked_0 rfl rfl rfl ?_
  refine r_iload_n 2 hZ 1 dX8_asked_1 rfl rfl rfl ?_
  refine r_callVI (c_X8_isLiteral l g y ad τ ρ x hN hN2) wM_X8_isLiteral wL_X8_115 hZ rfl ⟨by decide, by decide⟩ 0 8 rfl rfl rfl rfl dX8_asked_2 ?_
  refine r_if_eq 20 8 hZ dX8_asked_5 (by decide) rfl (fun c_5 => ?_) (fun c_5 => ?_)
  · skip
    refine r_iconst (v := 0) 21 hZ dX8_asked_20 rfl (by decide) ?_
    refine r_istnN 22 [(0, _), (1, _), (2, _), (3, _)] hZ dX8_asked_21 rfl rfl (by decide) rfl rfl ?_
    refine r_aload_n 23 hZ 0 dX8_asked_22 rfl rfl rfl ?_
    refine r_iload_n 24 hZ 3 dX8_asked_23 rfl rfl rfl ?_
    refine r_if_ne 31 27 hZ dX8_asked_24 (by decide) rfl (fun c_24 => ?_) (fun c_24 => ?_)
    · skip
      exact absurd c_24 (show ¬ (¬ (0 : Int32) = (0 : Int32)) by decide)
    · skip
      refine r_iconst (v := 1) 28 hZ dX8_asked_27 rfl (by decide) ?_
      refine r_goto 67 hZ dX8_asked_28 (by decide) ?_
      refine p_X8_72 70 hZ dX8_asked_67 rfl ?_
      refine r_aload_n 71 hZ 0 dX8_asked_70 rfl rfl rfl ?_
      refine g_X8_72 74 hZ dX8_asked_71 rfl ?_
      refine r_if_le 79 77 hZ dX8_asked_74 (by decide) rfl (fun c_74 => ?_) (fun c_74 => ?_)
      · skip
        exact absurd c_74 (show ¬ ((1 : Int32) ≤ (0 : Int32)) by decide)
      · skip
        refine r_iconst (v := 0) 78 hZ dX8_asked_77 rfl (by decide) ?_
        exact hret _ _ _ _ dX8_asked_78 rfl rfl
  · skip
    refine r_aload_n 9 hZ 0 dX8_asked_8 rfl rfl rfl ?_
    refine r_iload_n 10 hZ 2 dX8_asked_9 rfl rfl rfl ?_
    refine r_callVI (c_X8_isLiteral l g y ad τ ρ z hN hN2) wM_X8_isLiteral wL_X8_115 hZ rfl ⟨by decide, by decide⟩ 0 8 rfl rfl rfl rfl dX8_asked_10 ?_
    refine r_if_eq 20 16 hZ dX8_asked_13 (by decide) rfl (fun c_13 => ?_) (fun c_13 => ?_)
    · skip
      refine r_iconst (v := 0) 21 hZ dX8_asked_20 rfl (by decide) ?_
      refine r_istnN 22 [(0, _), (1, _), (2, _), (3, _)] hZ dX8_asked_21 rfl rfl (by decide) rfl rfl ?_
      refine r_aload_n 23 hZ 0 dX8_asked_22 rfl rfl rfl ?_
      refine r_iload_n 24 hZ 3 dX8_asked_23 rfl rfl rfl ?_
      refine r_if_ne 31 27 hZ dX8_asked_24 (by decide) rfl (fun c_24 => ?_) (fun c_24 => ?_)
      · skip
        exact absurd c_24 (show ¬ (¬ (0 : Int32) = (0 : Int32)) by decide)
      · skip
        refine r_iconst (v := 1) 28 hZ dX8_asked_27 rfl (by decide) ?_
        refine r_goto 67 hZ dX8_asked_28 (by decide) ?_
        refine p_X8_72 70 hZ dX8_asked_67 rfl ?_
        refine r_aload_n 71 hZ 0 dX8_asked_70 rfl rfl rfl ?_
        refine g_X8_72 74 hZ dX8_asked_71 rfl ?_
        refine r_if_le 79 77 hZ dX8_asked_74 (by decide) rfl (fun c_74 => ?_) (fun c_74 => ?_)
        · skip
          exact absurd c_74 (show ¬ ((1 : Int32) ≤ (0 : Int32)) by decide)
        · skip
          refine r_iconst (v := 0) 78 hZ dX8_asked_77 rfl (by decide) ?_
          exact hret _ _ _ _ dX8_asked_78 rfl rfl
    · skip
      exact (h ⟨bI_n0.mp c_5, bI_n0.mp c_13⟩).elim
set_option maxHeartbeats 4000000 in
set_option maxRecDepth 100000 in
theorem c_X8_asked_2 (l : Launch) (g : va_G) (y : Nat → ClassId) (ad : Nat → Nat) (τ : Nat → Nat → Int32) (ρ : Nat → Nat → Int64) {N O : Nat} (hN : τ 0 1 = nI N) (hN2 : N ≤ 38) (hO : τ 0 4 = nI O) (hO2 : O ≤ 24) {x z : Int32} (hx : okL x (2 * N)) (hz : okL z (2 * N)) (h8 : O = 24) : w_C l g y yX8_asked cX8_asked 4 (some .int) 5 [.ref (ad 0), .int x, .int z] (rw ad y τ ρ) (some (.int 0)) (rw ad y (up τ 0 0 2) ρ) := by
  refine w_ofI (lv0 := [(0, .ref (ad 0)), (1, .int x), (2, .int z)]) (by decide +kernel) (Nat.le_of_ble_eq_true rfl) rfl (rfl) ?_
  intro Z hZ hret
  refine r_aload_n 1 hZ 0 dX8_asked_0 rfl rfl rfl ?_
  refine r_iload_n 2 hZ 1 dX8_asked_1 rfl rfl rfl ?_
  refine r_callVI (c_X8_isLiteral l g y ad τ ρ x hN hN2) wM_X8_isLiteral wL_X8_115 hZ rfl ⟨by decide, by decide⟩ 0 8 rfl rfl rfl rfl dX8_asked_2 ?_
  refine r_if_eq 20 8 hZ dX8_asked_5 (by decide) rfl (fun c_5 => ?_) (fun c_5 => ?_)
  · skip
    exact (b0a hx c_5).elim
  · skip
    refine r_aload_n 9 hZ 0 dX8_asked_8 rfl rfl rfl ?_
    refine r_iload_n 10 hZ 2 dX8_asked_9 rfl rfl rfl ?_
    refine r_callVI (c_X8_isLiteral l g y ad τ ρ z hN hN2) wM_X8_isLiteral wL_X8_115 hZ rfl ⟨by decide, by decide⟩ 0 8 rfl rfl rfl rfl dX8_asked_10 ?_
    refine r_if_eq 20 16 hZ dX8_asked_13 (by decide) rfl (fun c_13 => ?_) (fun c_13 => ?_)
    · skip
      exact (b0a hz c_13).elim
    · skip
      refine r_iconst (v := 1) 17 hZ dX8_asked_16 rfl (by decide) ?_
      refine r_goto 21 hZ dX8_asked_17 (by decide) ?_
      refine r_istnN 22 [(0, _), (1, _), (2, _), (3, _)] hZ dX8_asked_21 rfl rfl (by decide) rfl rfl ?_
      refine r_aload_n 23 hZ 0 dX8_asked_22 rfl rfl rfl ?_
      refine r_iload_n 24 hZ 3 dX8_asked_23 rfl rfl rfl ?_
      refine r_if_ne 31 27 hZ dX8_asked_24 (by decide) rfl (fun c_24 => ?_) (fun c_24 => ?_)
      · skip
        refine r_aload_n 32 hZ 0 dX8_asked_31 rfl rfl rfl ?_
        refine g_X8_108 35 hZ dX8_asked_32 rfl ?_
        refine w_eqI (hO) ?_
        refine r_bipush (v := 24) 37 hZ dX8_asked_35 rfl (by decide) ?_
        refine r_icmp_ne 44 40 hZ dX8_asked_37 (by decide) rfl (fun c_37 => ?_) (fun c_37 => ?_)
        · skip
          exact absurd (by rw [h8]; rfl) c_37
        · skip
          refine r_iconst (v := 2) 41 hZ dX8_asked_40 rfl (by decide) ?_
          refine r_goto 67 hZ dX8_asked_41 (by decide) ?_
          refine p_X8_72 70 hZ dX8_asked_67 rfl ?_
          refine r_aload_n 71 hZ 0 dX8_asked_70 rfl rfl rfl ?_
          refine g_X8_72 74 hZ dX8_asked_71 rfl ?_
          refine r_if_le 79 77 hZ dX8_asked_74 (by decide) rfl (fun c_74 => ?_) (fun c_74 => ?_)
          · skip
            exact absurd c_74 (show ¬ ((2 : Int32) ≤ (0 : Int32)) by decide)
          · skip
            refine r_iconst (v := 0) 78 hZ dX8_asked_77 rfl (by decide) ?_
            exact hret _ _ _ _ dX8_asked_78 rfl rfl
      · skip
        exact absurd c_24 (show ¬ ((1 : Int32) = (0 : Int32)) by decide)
set_option maxHeartbeats 4000000 in
set_option maxRecDepth 100000 in
theorem c_X8_asked_3 (l : Launch) (g : va_G) (y : Nat → ClassId) (ad : Nat → Nat) (τ : Nat → Nat → Int32) (ρ : Nat → Nat → Int64) {N O : Nat} (hN : τ 0 1 = nI N) (hN2 : N ≤ 38) (hO : τ 0 4 = nI O) (hO2 : O ≤ 24) {x z : Int32} (hx : okL x (2 * N)) (hz : okL z (2 * N)) (h8 : O < 24) (h : τ 1 (ix x / 2) = 2 ∨ τ 1 (ix z / 2) = 2) : w_C l g y yX8_asked cX8_asked 4 (some .int) 5 [.ref (ad 0), .int x, .int z] (rw ad y τ ρ) (some (.int 0)) (rw ad y (up τ 0 0 3) ρ) := by
  refine w_ofI (lv0 := [(0, .ref (ad 0)), (1, .int x), (2, .int z)]) (by decide +kernel) (Nat.le_of_ble_eq_true rfl) rfl (rfl) ?_
  intro Z hZ hret
  refine r_aload_n 1 hZ 0 dX8_asked_0 rfl rfl rfl ?_
  refine r_iload_n 2 hZ 1 dX8_asked_1 rfl rfl rfl ?_
  refine r_callVI (c_X8_isLiteral l g y ad τ ρ x hN hN2) wM_X8_isLiteral wL_X8_115 hZ rfl ⟨by decide, by decide⟩ 0 8 rfl rfl rfl rfl dX8_asked_2 ?_
  refine r_if_eq 20 8 hZ dX8_asked_5 (by decide) rfl (fun c_5 => ?_) (fun c_5 => ?_)
  · skip
    exact (b0a hx c_5).elim
  · skip
    refine r_aload_n 9 hZ 0 dX8_asked_8 rfl rfl rfl ?_
    refine r_iload_n 10 hZ 2 dX8_asked_9 rfl rfl rfl ?_
    refine r_callVI (c_X8_isLiteral l g y ad τ ρ z hN hN2) wM_X8_isLiteral wL_X8_115 hZ rfl ⟨by decide, by decide⟩ 0 8 rfl rfl rfl rfl dX8_asked_10 ?_
    refine r_if_eq 20 16 hZ dX8_asked_13 (by decide) rfl (fun c_13 => ?_) (fun c_13 => ?_)
    · skip
      exact (b0a hz c_13).elim
    · skip
      refine r_iconst (v := 1) 17 hZ dX8_asked_16 rfl (by decide) ?_
      refine r_goto 21 hZ dX8_asked_17 (by decide) ?_
      refine r_istnN 22 [(0, _), (1, _), (2, _), (3, _)] hZ dX8_asked_21 rfl rfl (by decide) rfl rfl ?_
      refine r_aload_n 23 hZ 0 dX8_asked_22 rfl rfl rfl ?_
      refine r_iload_n 24 hZ 3 dX8_asked_23 rfl rfl rfl ?_
      refine r_if_ne 31 27 hZ dX8_asked_24 (by decide) rfl (fun c_24 => ?_) (fun c_24 => ?_)
      · skip
        refine r_aload_n 32 hZ 0 dX8_asked_31 rfl rfl rfl ?_
        refine g_X8_108 35 hZ dX8_asked_32 rfl ?_
        refine w_eqI (hO) ?_
        refine r_bipush (v := 24) 37 hZ dX8_asked_35 rfl (by decide) ?_
        refine r_icmp_ne 44 40 hZ dX8_asked_37 (by decide) rfl (fun c_37 => ?_) (fun c_37 => ?_)
        · skip
          refine r_aload_n 45 hZ 0 dX8_asked_44 rfl rfl rfl ?_
          refine r_iload_n 46 hZ 1 dX8_asked_45 rfl rfl rfl ?_
          refine r_iconst (v := 2) 47 hZ dX8_asked_46 rfl (by decide) ?_
          refine r_callVI (c_X8_isOf l g y ad τ ρ (x := x) 2 (okL_mono hx (by omega))) wM_X8_isOf wL_X8_118 hZ rfl ⟨by decide, by decide⟩ 0 8 rfl rfl rfl rfl dX8_asked_47 ?_
          refine r_if_ne 62 53 hZ dX8_asked_50 (by decide) rfl (fun c_50 => ?_) (fun c_50 => ?_)
          · skip
            refine r_iconst (v := 3) 63 hZ dX8_asked_62 rfl (by decide) ?_
            refine r_goto 67 hZ dX8_asked_63 (by decide) ?_
            refine p_X8_72 70 hZ dX8_asked_67 rfl ?_
            refine r_aload_n 71 hZ 0 dX8_asked_70 rfl rfl rfl ?_
            refine g_X8_72 74 hZ dX8_asked_71 rfl ?_
            refine r_if_le 79 77 hZ dX8_asked_74 (by decide) rfl (fun c_74 => ?_) (fun c_74 => ?_)
            · skip
              exact absurd c_74 (show ¬ ((3 : Int32) ≤ (0 : Int32)) by decide)
            · skip
              refine r_iconst (v := 0) 78 hZ dX8_asked_77 rfl (by decide) ?_
              exact hret _ _ _ _ dX8_asked_78 rfl rfl
          · skip
            have c_50 : ¬ bI (τ 1 (ix x / 2) = 2) = 1 := fun q => absurd (q.symm.trans c_50) (by decide)
            refine r_aload_n 54 hZ 0 dX8_asked_53 rfl rfl rfl ?_
            refine r_iload_n 55 hZ 2 dX8_asked_54 rfl rfl rfl ?_
            refine r_iconst (v := 2) 56 hZ dX8_asked_55 rfl (by decide) ?_
            refine r_callVI (c_X8_isOf l g y ad τ ρ (x := z) 2 (okL_mono hz (by omega))) wM_X8_isOf wL_X8_118 hZ rfl ⟨by decide, by decide⟩ 0 8 rfl rfl rfl rfl dX8_asked_56 ?_
            refine r_if_eq 66 62 hZ dX8_asked_59 (by decide) rfl (fun c_59 => ?_) (fun c_59 => ?_)
            · skip
              exact (h.elim (fun q => c_50 (bI_t q)) (fun q => b0a q c_59)).elim
            · skip
              refine r_iconst (v := 3) 63 hZ dX8_asked_62 rfl (by decide) ?_
              refine r_goto 67 hZ dX8_asked_63 (by decide) ?_
              refine p_X8_72 70 hZ dX8_asked_67 rfl ?_
              refine r_aload_n 71 hZ 0 dX8_asked_70 rfl rfl rfl ?_
              refine g_X8_72 74 hZ dX8_asked_71 rfl ?_
              refine r_if_le 79 77 hZ dX8_asked_74 (by decide) rfl (fun c_74 => ?_) (fun c_74 => ?_)
              · skip
                exact absurd c_74 (show ¬ ((3 : Int32) ≤ (0 : Int32)) by decide)
              · skip
                refine r_iconst (v := 0) 78 hZ dX8_asked_77 rfl (by decide) ?_
                exact hret _ _ _ _ dX8_asked_78 rfl rfl
        · skip
          exact absurd (nI_eqq (b := 24) (by omega) (by decide) c_37) (by omega)
      · skip
        exact absurd c_24 (show ¬ ((1 : Int32) = (0 : Int32)) by decide)
set_option maxHeartbeats 4000000 in
set_option maxRecDepth 100000 in
theorem c_X8_asked_0 (l : Launch) (g : va_G) (y : Nat → ClassId) (ad : Nat → Nat) (τ : Nat → Nat → Int32) (ρ : Nat → Nat → Int64) {N O : Nat} (hN : τ 0 1 = nI N) (hN2 : N ≤ 38) (hO : τ 0 4 = nI O) (hO2 : O ≤ 24) {x z : Int32} (hx : okL x (2 * N)) (hz : okL z (2 * N)) (hN3 : N < 38) (h8 : O < 24) (h : ¬ (τ 1 (ix x / 2) = 2 ∨ τ 1 (ix z / 2) = 2)) : w_C l g y yX8_asked cX8_asked 4 (some .int) 5 [.ref (ad 0), .int x, .int z] (rw ad y τ ρ) (some (.int (nI (2 * N)))) (rw ad y (putF (up (up τ 0 0 0) 0 4 (nI (O + 1))) N 3 x z) (putL ρ N)) := by
  refine w_ofI (lv0 := [(0, .ref (ad 0)), (1, .int x), (2, .int z)]) (by decide +kernel) (Nat.le_of_ble_eq_true rfl) rfl (rfl) ?_
  intro Z hZ hret
  refine r_aload_n 1 hZ 0 dX8_asked_0 rfl rfl rfl ?_
  refine r_iload_n 2 hZ 1 dX8_asked_1 rfl rfl rfl ?_
  refine r_callVI (c_X8_isLiteral l g y ad τ ρ x hN hN2) wM_X8_isLiteral wL_X8_115 hZ rfl ⟨by decide, by decide⟩ 0 8 rfl rfl rfl rfl dX8_asked_2 ?_
  refine r_if_eq 20 8 hZ dX8_asked_5 (by decide) rfl (fun c_5 => ?_) (fun c_5 => ?_)
  · skip
    exact (b0a hx c_5).elim
  · skip
    refine r_aload_n 9 hZ 0 dX8_asked_8 rfl rfl rfl ?_
    refine r_iload_n 10 hZ 2 dX8_asked_9 rfl rfl rfl ?_
    refine r_callVI (c_X8_isLiteral l g y ad τ ρ z hN hN2) wM_X8_isLiteral wL_X8_115 hZ rfl ⟨by decide, by decide⟩ 0 8 rfl rfl rfl rfl dX8_asked_10 ?_
    refine r_if_eq 20 16 hZ dX8_asked_13 (by decide) rfl (fun c_13 => ?_) (fun c_13 => ?_)
    · skip
      exact (b0a hz c_13).elim
    · skip
      refine r_iconst (v := 1) 17 hZ dX8_asked_16 rfl (by decide) ?_
      refine r_goto 21 hZ dX8_asked_17 (by decide) ?_
      refine r_istnN 22 [(0, _), (1, _), (2, _), (3, _)] hZ dX8_asked_21 rfl rfl (by decide) rfl rfl ?_
      refine r_aload_n 23 hZ 0 dX8_asked_22 rfl rfl rfl ?_
      refine r_iload_n 24 hZ 3 dX8_asked_23 rfl rfl rfl ?_
      refine r_if_ne 31 27 hZ dX8_asked_24 (by decide) rfl (fun c_24 => ?_) (fun c_24 => ?_)
      · skip
        refine r_aload_n 32 hZ 0 dX8_asked_31 rfl rfl rfl ?_
        refine g_X8_108 35 hZ dX8_asked_32 rfl ?_
        refine w_eqI (hO) ?_
        refine r_bipush (v := 24) 37 hZ dX8_asked_35 rfl (by decide) ?_
        refine r_icmp_ne 44 40 hZ dX8_asked_37 (by decide) rfl (fun c_37 => ?_) (fun c_37 => ?_)
        · skip
          refine r_aload_n 45 hZ 0 dX8_asked_44 rfl rfl rfl ?_
          refine r_iload_n 46 hZ 1 dX8_asked_45 rfl rfl rfl ?_
          refine r_iconst (v := 2) 47 hZ dX8_asked_46 rfl (by decide) ?_
          refine r_callVI (c_X8_isOf l g y ad τ ρ (x := x) 2 (okL_mono hx (by omega))) wM_X8_isOf wL_X8_118 hZ rfl ⟨by decide, by decide⟩ 0 8 rfl rfl rfl rfl dX8_asked_47 ?_
          refine r_if_ne 62 53 hZ dX8_asked_50 (by decide) rfl (fun c_50 => ?_) (fun c_50 => ?_)
          · skip
            exact (h (Or.inl (bI_n0.mp c_50))).elim
          · skip
            refine r_aload_n 54 hZ 0 dX8_asked_53 rfl rfl rfl ?_
            refine r_iload_n 55 hZ 2 dX8_asked_54 rfl rfl rfl ?_
            refine r_iconst (v := 2) 56 hZ dX8_asked_55 rfl (by decide) ?_
            refine r_callVI (c_X8_isOf l g y ad τ ρ (x := z) 2 (okL_mono hz (by omega))) wM_X8_isOf wL_X8_118 hZ rfl ⟨by decide, by decide⟩ 0 8 rfl rfl rfl rfl dX8_asked_56 ?_
            refine r_if_eq 66 62 hZ dX8_asked_59 (by decide) rfl (fun c_59 => ?_) (fun c_59 => ?_)
            · skip
              refine r_iconst (v := 0) 67 hZ dX8_asked_66 rfl (by decide) ?_
              refine p_X8_72 70 hZ dX8_asked_67 rfl ?_
              refine r_aload_n 71 hZ 0 dX8_asked_70 rfl rfl rfl ?_
              refine g_X8_72 74 hZ dX8_asked_71 rfl ?_
              refine r_if_le 79 77 hZ dX8_asked_74 (by decide) rfl (fun c_74 => ?_) (fun c_74 => ?_)
              · skip
                refine r_aload_n 80 hZ 0 dX8_asked_79 rfl rfl rfl ?_
                refine r_dup 81 hZ dX8_asked_80 rfl rfl ?_
                refine g_X8_108 84 hZ dX8_asked_81 rfl ?_
                refine w_eqI (hO) ?_
                refine r_iconst (v := 1) 85 hZ dX8_asked_84 rfl (by decide) ?_
                refine r_iadd 86 hZ dX8_asked_85 rfl ?_
                rw [nI_1]
                refine p_X8_108 89 hZ dX8_asked_86 rfl ?_
                refine r_aload_n 90 hZ 0 dX8_asked_89 rfl rfl rfl ?_
                refine r_iconst (v := 3) 91 hZ dX8_asked_90 rfl (by decide) ?_
                refine r_iload_n 92 hZ 1 dX8_asked_91 rfl rfl rfl ?_
                refine r_iload_n 93 hZ 2 dX8_asked_92 rfl rfl rfl ?_
                refine r_callVI (c_X8_put l g y ad _ ρ (N := N) (by exact hN) hN3 3 (okL_mono hx (by omega)) (okL_mono hz (by omega))) wM_X8_put wL_X8_111 hZ rfl ⟨by decide, by decide⟩ 0 8 rfl rfl rfl rfl dX8_asked_93 ?_
                exact hret _ _ _ _ dX8_asked_96 rfl rfl
              · skip
                exact absurd c_74 (show ¬ ¬ ((0 : Int32) ≤ (0 : Int32)) by decide)
            · skip
              exact (h (Or.inr (bI_n0.mp c_59))).elim
        · skip
          exact absurd (nI_eqq (b := 24) (by omega) (by decide) c_37) (by omega)
      · skip
        exact absurd c_24 (show ¬ ((1 : Int32) = (0 : Int32)) by decide)
set_option maxHeartbeats 4000000 in
set_option maxRecDepth 100000 in
theorem c_X8_output_1 (l : Launch) (g : va_G) (y : Nat → ClassId) (ad : Nat → Nat) (τ : Nat → Nat → Int32) (ρ : Nat → Nat → Int64) {N G : Nat} (hN : τ 0 1 = nI N) (hN2 : N ≤ 38) (hG : τ 0 5 = nI G) (hG2 : G ≤ 4) {x z : Int32} (h : ¬ (okL x (2 * N) ∧ okL z (2 * N))) : w_C l g y yX8_output cX8_output 4 (some .int) 5 [.ref (ad 0), .int x, .int z] (rw ad y τ ρ) (some (.int 0)) (rw ad y (up τ 0 0 1) ρ) := by
  refine w_ofI (lv0 := [(0, .ref (ad 0)), (1, .int x), (2, .int z)]) (by decide +kernel) (Nat.le_of_ble_eq_true rfl) rfl (rfl) ?_
  intro Z hZ hret
  refine r_aload_n 1 hZ 0 dX8_output_0 rfl rfl rfl ?_
  refine r_iload_n 2 hZ 1 dX8_output_1 rfl rfl rfl ?_
  refine r_callVI (c_X8_isLiteral l g y ad τ ρ x hN hN2) wM_X8_isLiteral wL_X8_115 hZ rfl ⟨by decide, by decide⟩ 0 8 rfl rfl rfl rfl dX8_output_2 ?_
  refine r_if_eq 20 8 hZ dX8_output_5 (by decide) rfl (fun c_5 => ?_) (fun c_5 => ?_)
  · skip
    refine r_iconst (v := 0) 21 hZ dX8_output_20 rfl (by decide) ?_
    refine r_istnN 22 [(0, _), (1, _), (2, _), (3, _)] hZ dX8_output_21 rfl rfl (by decide) rfl rfl ?_
    refine r_aload_n 23 hZ 0 dX8_output_22 rfl rfl rfl ?_
    refine r_iload_n 24 hZ 3 dX8_output_23 rfl rfl rfl ?_
    refine r_if_ne 31 27 hZ dX8_output_24 (by decide) rfl (fun c_24 => ?_) (fun c_24 => ?_)
    · skip
      exact absurd c_24 (show ¬ (¬ (0 : Int32) = (0 : Int32)) by decide)
    · skip
      refine r_iconst (v := 1) 28 hZ dX8_output_27 rfl (by decide) ?_
      refine r_goto 66 hZ dX8_output_28 (by decide) ?_
      refine p_X8_72 69 hZ dX8_output_66 rfl ?_
      refine r_aload_n 70 hZ 0 dX8_output_69 rfl rfl rfl ?_
      refine g_X8_72 73 hZ dX8_output_70 rfl ?_
      refine r_if_le 78 76 hZ dX8_output_73 (by decide) rfl (fun c_73 => ?_) (fun c_73 => ?_)
      · skip
        exact absurd c_73 (show ¬ ((1 : Int32) ≤ (0 : Int32)) by decide)
      · skip
        refine r_iconst (v := 0) 77 hZ dX8_output_76 rfl (by decide) ?_
        exact hret _ _ _ _ dX8_output_77 rfl rfl
  · skip
    refine r_aload_n 9 hZ 0 dX8_output_8 rfl rfl rfl ?_
    refine r_iload_n 10 hZ 2 dX8_output_9 rfl rfl rfl ?_
    refine r_callVI (c_X8_isLiteral l g y ad τ ρ z hN hN2) wM_X8_isLiteral wL_X8_115 hZ rfl ⟨by decide, by decide⟩ 0 8 rfl rfl rfl rfl dX8_output_10 ?_
    refine r_if_eq 20 16 hZ dX8_output_13 (by decide) rfl (fun c_13 => ?_) (fun c_13 => ?_)
    · skip
      refine r_iconst (v := 0) 21 hZ dX8_output_20 rfl (by decide) ?_
      refine r_istnN 22 [(0, _), (1, _), (2, _), (3, _)] hZ dX8_output_21 rfl rfl (by decide) rfl rfl ?_
      refine r_aload_n 23 hZ 0 dX8_output_22 rfl rfl rfl ?_
      refine r_iload_n 24 hZ 3 dX8_output_23 rfl rfl rfl ?_
      refine r_if_ne 31 27 hZ dX8_output_24 (by decide) rfl (fun c_24 => ?_) (fun c_24 => ?_)
      · skip
        exact absurd c_24 (show ¬ (¬ (0 : Int32) = (0 : Int32)) by decide)
      · skip
        refine r_iconst (v := 1) 28 hZ dX8_output_27 rfl (by decide) ?_
        refine r_goto 66 hZ dX8_output_28 (by decide) ?_
        refine p_X8_72 69 hZ dX8_output_66 rfl ?_
        refine r_aload_n 70 hZ 0 dX8_output_69 rfl rfl rfl ?_
        refine g_X8_72 73 hZ dX8_output_70 rfl ?_
        refine r_if_le 78 76 hZ dX8_output_73 (by decide) rfl (fun c_73 => ?_) (fun c_73 => ?_)
        · skip
          exact absurd c_73 (show ¬ ((1 : Int32) ≤ (0 : Int32)) by decide)
        · skip
          refine r_iconst (v := 0) 77 hZ dX8_output_76 rfl (by decide) ?_
          exact hret _ _ _ _ dX8_output_77 rfl rfl
    · skip
      exact (h ⟨bI_n0.mp c_5, bI_n0.mp c_13⟩).elim
set_option maxHeartbeats 4000000 in
set_option maxRecDepth 100000 in
theorem c_X8_output_2 (l : Launch) (g : va_G) (y : Nat → ClassId) (ad : Nat → Nat) (τ : Nat → Nat → Int32) (ρ : Nat → Nat → Int64) {N G : Nat} (hN : τ 0 1 = nI N) (hN2 : N ≤ 38) (hG : τ 0 5 = nI G) (hG2 : G ≤ 4) {x z : Int32} (hx : okL x (2 * N)) (hz : okL z (2 * N)) (h8 : G = 4) : w_C l g y yX8_output cX8_output 4 (some .int) 5 [.ref (ad 0), .int x, .int z] (rw ad y τ ρ) (some (.int 0)) (rw ad y (up τ 0 0 2) ρ) := by
  refine w_ofI (lv0 := [(0, .ref (ad 0)), (1, .int x), (2, .int z)]) (by decide +kernel) (Nat.le_of_ble_eq_true rfl) rfl (rfl) ?_
  intro Z hZ hret
  refine r_aload_n 1 hZ 0 dX8_output_0 rfl rfl rfl ?_
  refine r_iload_n 2 hZ 1 dX8_output_1 rfl rfl rfl ?_
  refine r_callVI (c_X8_isLiteral l g y ad τ ρ x hN hN2) wM_X8_isLiteral wL_X8_115 hZ rfl ⟨by decide, by decide⟩ 0 8 rfl rfl rfl rfl dX8_output_2 ?_
  refine r_if_eq 20 8 hZ dX8_output_5 (by decide) rfl (fun c_5 => ?_) (fun c_5 => ?_)
  · skip
    exact (b0a hx c_5).elim
  · skip
    refine r_aload_n 9 hZ 0 dX8_output_8 rfl rfl rfl ?_
    refine r_iload_n 10 hZ 2 dX8_output_9 rfl rfl rfl ?_
    refine r_callVI (c_X8_isLiteral l g y ad τ ρ z hN hN2) wM_X8_isLiteral wL_X8_115 hZ rfl ⟨by decide, by decide⟩ 0 8 rfl rfl rfl rfl dX8_output_10 ?_
    refine r_if_eq 20 16 hZ dX8_output_13 (by decide) rfl (fun c_13 => ?_) (fun c_13 => ?_)
    · skip
      exact (b0a hz c_13).elim
    · skip
      refine r_iconst (v := 1) 17 hZ dX8_output_16 rfl (by decide) ?_
      refine r_goto 21 hZ dX8_output_17 (by decide) ?_
      refine r_istnN 22 [(0, _), (1, _), (2, _), (3, _)] hZ dX8_output_21 rfl rfl (by decide) rfl rfl ?_
      refine r_aload_n 23 hZ 0 dX8_output_22 rfl rfl rfl ?_
      refine r_iload_n 24 hZ 3 dX8_output_23 rfl rfl rfl ?_
      refine r_if_ne 31 27 hZ dX8_output_24 (by decide) rfl (fun c_24 => ?_) (fun c_24 => ?_)
      · skip
        refine r_aload_n 32 hZ 0 dX8_output_31 rfl rfl rfl ?_
        refine g_X8_91 35 hZ dX8_output_32 rfl ?_
        refine w_eqI (hG) ?_
        refine r_iconst (v := 4) 36 hZ dX8_output_35 rfl (by decide) ?_
        refine r_icmp_ne 43 39 hZ dX8_output_36 (by decide) rfl (fun c_36 => ?_) (fun c_36 => ?_)
        · skip
          exact absurd (by rw [h8]; rfl) c_36
        · skip
          refine r_iconst (v := 2) 40 hZ dX8_output_39 rfl (by decide) ?_
          refine r_goto 66 hZ dX8_output_40 (by decide) ?_
          refine p_X8_72 69 hZ dX8_output_66 rfl ?_
          refine r_aload_n 70 hZ 0 dX8_output_69 rfl rfl rfl ?_
          refine g_X8_72 73 hZ dX8_output_70 rfl ?_
          refine r_if_le 78 76 hZ dX8_output_73 (by decide) rfl (fun c_73 => ?_) (fun c_73 => ?_)
          · skip
            exact absurd c_73 (show ¬ ((2 : Int32) ≤ (0 : Int32)) by decide)
          · skip
            refine r_iconst (v := 0) 77 hZ dX8_output_76 rfl (by decide) ?_
            exact hret _ _ _ _ dX8_output_77 rfl rfl
      · skip
        exact absurd c_24 (show ¬ ((1 : Int32) = (0 : Int32)) by decide)
set_option maxHeartbeats 4000000 in
set_option maxRecDepth 100000 in
theorem c_X8_output_3 (l : Launch) (g : va_G) (y : Nat → ClassId) (ad : Nat → Nat) (τ : Nat → Nat → Int32) (ρ : Nat → Nat → Int64) {N G : Nat} (hN : τ 0 1 = nI N) (hN2 : N ≤ 38) (hG : τ 0 5 = nI G) (hG2 : G ≤ 4) {x z : Int32} (hx : okL x (2 * N)) (hz : okL z (2 * N)) (h8 : G < 4) (h : τ 1 (ix x / 2) = 3 ∨ τ 1 (ix z / 2) = 2) : w_C l g y yX8_output cX8_output 4 (some .int) 5 [.ref (ad 0), .int x, .int z] (rw ad y τ ρ) (some (.int 0)) (rw ad y (up τ 0 0 3) ρ) := by
  refine w_ofI (lv0 := [(0, .ref (ad 0)), (1, .int x), (2, .int z)]) (by decide +kernel) (Nat.le_of_ble_eq_true rfl) rfl (rfl) ?_
  intro Z hZ hret
  refine r_aload_n 1 hZ 0 dX8_output_0 rfl rfl rfl ?_
  refine r_iload_n 2 hZ 1 dX8_output_1 rfl rfl rfl ?_
  refine r_callVI (c_X8_isLiteral l g y ad τ ρ x hN hN2) wM_X8_isLiteral wL_X8_115 hZ rfl ⟨by decide, by decide⟩ 0 8 rfl rfl rfl rfl dX8_output_2 ?_
  refine r_if_eq 20 8 hZ dX8_output_5 (by decide) rfl (fun c_5 => ?_) (fun c_5 => ?_)
  · skip
    exact (b0a hx c_5).elim
  · skip
    refine r_aload_n 9 hZ 0 dX8_output_8 rfl rfl rfl ?_
    refine r_iload_n 10 hZ 2 dX8_output_9 rfl rfl rfl ?_
    refine r_callVI (c_X8_isLiteral l g y ad τ ρ z hN hN2) wM_X8_isLiteral wL_X8_115 hZ rfl ⟨by decide, by decide⟩ 0 8 rfl rfl rfl rfl dX8_output_10 ?_
    refine r_if_eq 20 16 hZ dX8_output_13 (by decide) rfl (fun c_13 => ?_) (fun c_13 => ?_)
    · skip
      exact (b0a hz c_13).elim
    · skip
      refine r_iconst (v := 1) 17 hZ dX8_output_16 rfl (by decide) ?_
      refine r_goto 21 hZ dX8_output_17 (by decide) ?_
      refine r_istnN 22 [(0, _), (1, _), (2, _), (3, _)] hZ dX8_output_21 rfl rfl (by decide) rfl rfl ?_
      refine r_aload_n 23 hZ 0 dX8_output_22 rfl rfl rfl ?_
      refine r_iload_n 24 hZ 3 dX8_output_23 rfl rfl rfl ?_
      refine r_if_ne 31 27 hZ dX8_output_24 (by decide) rfl (fun c_24 => ?_) (fun c_24 => ?_)
      · skip
        refine r_aload_n 32 hZ 0 dX8_output_31 rfl rfl rfl ?_
        refine g_X8_91 35 hZ dX8_output_32 rfl ?_
        refine w_eqI (hG) ?_
        refine r_iconst (v := 4) 36 hZ dX8_output_35 rfl (by decide) ?_
        refine r_icmp_ne 43 39 hZ dX8_output_36 (by decide) rfl (fun c_36 => ?_) (fun c_36 => ?_)
        · skip
          refine r_aload_n 44 hZ 0 dX8_output_43 rfl rfl rfl ?_
          refine r_iload_n 45 hZ 1 dX8_output_44 rfl rfl rfl ?_
          refine r_iconst (v := 3) 46 hZ dX8_output_45 rfl (by decide) ?_
          refine r_callVI (c_X8_isOf l g y ad τ ρ (x := x) 3 (okL_mono hx (by omega))) wM_X8_isOf wL_X8_118 hZ rfl ⟨by decide, by decide⟩ 0 8 rfl rfl rfl rfl dX8_output_46 ?_
          refine r_if_ne 61 52 hZ dX8_output_49 (by decide) rfl (fun c_49 => ?_) (fun c_49 => ?_)
          · skip
            refine r_iconst (v := 3) 62 hZ dX8_output_61 rfl (by decide) ?_
            refine r_goto 66 hZ dX8_output_62 (by decide) ?_
            refine p_X8_72 69 hZ dX8_output_66 rfl ?_
            refine r_aload_n 70 hZ 0 dX8_output_69 rfl rfl rfl ?_
            refine g_X8_72 73 hZ dX8_output_70 rfl ?_
            refine r_if_le 78 76 hZ dX8_output_73 (by decide) rfl (fun c_73 => ?_) (fun c_73 => ?_)
            · skip
              exact absurd c_73 (show ¬ ((3 : Int32) ≤ (0 : Int32)) by decide)
            · skip
              refine r_iconst (v := 0) 77 hZ dX8_output_76 rfl (by decide) ?_
              exact hret _ _ _ _ dX8_output_77 rfl rfl
          · skip
            have c_49 : ¬ bI (τ 1 (ix x / 2) = 3) = 1 := fun q => absurd (q.symm.trans c_49) (by decide)
            refine r_aload_n 53 hZ 0 dX8_output_52 rfl rfl rfl ?_
            refine r_iload_n 54 hZ 2 dX8_output_53 rfl rfl rfl ?_
            refine r_iconst (v := 2) 55 hZ dX8_output_54 rfl (by decide) ?_
            refine r_callVI (c_X8_isOf l g y ad τ ρ (x := z) 2 (okL_mono hz (by omega))) wM_X8_isOf wL_X8_118 hZ rfl ⟨by decide, by decide⟩ 0 8 rfl rfl rfl rfl dX8_output_55 ?_
            refine r_if_eq 65 61 hZ dX8_output_58 (by decide) rfl (fun c_58 => ?_) (fun c_58 => ?_)
            · skip
              exact (h.elim (fun q => c_49 (bI_t q)) (fun q => b0a q c_58)).elim
            · skip
              refine r_iconst (v := 3) 62 hZ dX8_output_61 rfl (by decide) ?_
              refine r_goto 66 hZ dX8_output_62 (by decide) ?_
              refine p_X8_72 69 hZ dX8_output_66 rfl ?_
              refine r_aload_n 70 hZ 0 dX8_output_69 rfl rfl rfl ?_
              refine g_X8_72 73 hZ dX8_output_70 rfl ?_
              refine r_if_le 78 76 hZ dX8_output_73 (by decide) rfl (fun c_73 => ?_) (fun c_73 => ?_)
              · skip
                exact absurd c_73 (show ¬ ((3 : Int32) ≤ (0 : Int32)) by decide)
              · skip
                refine r_iconst (v := 0) 77 hZ dX8_output_76 rfl (by decide) ?_
                exact hret _ _ _ _ dX8_output_77 rfl rfl
        · skip
          exact absurd (nI_eqq (b := 4) (by omega) (by decide) c_36) (by omega)
      · skip
        exact absurd c_24 (show ¬ ((1 : Int32) = (0 : Int32)) by decide)
set_option maxHeartbeats 4000000 in
set_option maxRecDepth 100000 in
theorem c_X8_output_0 (l : Launch) (g : va_G) (y : Nat → ClassId) (ad : Nat → Nat) (τ : Nat → Nat → Int32) (ρ : Nat → Nat → Int64) {N G : Nat} (hN : τ 0 1 = nI N) (hN2 : N ≤ 38) (hG : τ 0 5 = nI G) (hG2 : G ≤ 4) {x z : Int32} (hx : okL x (2 * N)) (hz : okL z (2 * N)) (h8 : G < 4) (h : ¬ (τ 1 (ix x / 2) = 3 ∨ τ 1 (ix z / 2) = 2)) : w_C l g y yX8_output cX8_output 4 (some .int) 5 [.ref (ad 0), .int x, .int z] (rw ad y τ ρ) (some (.int (nI G))) (rw ad y (up (up (up (up (up τ 0 0 0) 6 G x) 7 G z) 0 5 (nI (G + 1))) 0 7 0) ρ) := by
  refine w_ofI (lv0 := [(0, .ref (ad 0)), (1, .int x), (2, .int z)]) (by decide +kernel) (Nat.le_of_ble_eq_true rfl) rfl (rfl) ?_
  intro Z hZ hret
  have hcg := nI_clamp (n := G) (by omega)
  refine r_aload_n 1 hZ 0 dX8_output_0 rfl rfl rfl ?_
  refine r_iload_n 2 hZ 1 dX8_output_1 rfl rfl rfl ?_
  refine r_callVI (c_X8_isLiteral l g y ad τ ρ x hN hN2) wM_X8_isLiteral wL_X8_115 hZ rfl ⟨by decide, by decide⟩ 0 8 rfl rfl rfl rfl dX8_output_2 ?_
  refine r_if_eq 20 8 hZ dX8_output_5 (by decide) rfl (fun c_5 => ?_) (fun c_5 => ?_)
  · skip
    exact (b0a hx c_5).elim
  · skip
    refine r_aload_n 9 hZ 0 dX8_output_8 rfl rfl rfl ?_
    refine r_iload_n 10 hZ 2 dX8_output_9 rfl rfl rfl ?_
    refine r_callVI (c_X8_isLiteral l g y ad τ ρ z hN hN2) wM_X8_isLiteral wL_X8_115 hZ rfl ⟨by decide, by decide⟩ 0 8 rfl rfl rfl rfl dX8_output_10 ?_
    refine r_if_eq 20 16 hZ dX8_output_13 (by decide) rfl (fun c_13 => ?_) (fun c_13 => ?_)
    · skip
      exact (b0a hz c_13).elim
    · skip
      refine r_iconst (v := 1) 17 hZ dX8_output_16 rfl (by decide) ?_
      refine r_goto 21 hZ dX8_output_17 (by decide) ?_
      refine r_istnN 22 [(0, _), (1, _), (2, _), (3, _)] hZ dX8_output_21 rfl rfl (by decide) rfl rfl ?_
      refine r_aload_n 23 hZ 0 dX8_output_22 rfl rfl rfl ?_
      refine r_iload_n 24 hZ 3 dX8_output_23 rfl rfl rfl ?_
      refine r_if_ne 31 27 hZ dX8_output_24 (by decide) rfl (fun c_24 => ?_) (fun c_24 => ?_)
      · skip
        refine r_aload_n 32 hZ 0 dX8_output_31 rfl rfl rfl ?_
        refine g_X8_91 35 hZ dX8_output_32 rfl ?_
        refine w_eqI (hG) ?_
        refine r_iconst (v := 4) 36 hZ dX8_output_35 rfl (by decide) ?_
        refine r_icmp_ne 43 39 hZ dX8_output_36 (by decide) rfl (fun c_36 => ?_) (fun c_36 => ?_)
        · skip
          refine r_aload_n 44 hZ 0 dX8_output_43 rfl rfl rfl ?_
          refine r_iload_n 45 hZ 1 dX8_output_44 rfl rfl rfl ?_
          refine r_iconst (v := 3) 46 hZ dX8_output_45 rfl (by decide) ?_
          refine r_callVI (c_X8_isOf l g y ad τ ρ (x := x) 3 (okL_mono hx (by omega))) wM_X8_isOf wL_X8_118 hZ rfl ⟨by decide, by decide⟩ 0 8 rfl rfl rfl rfl dX8_output_46 ?_
          refine r_if_ne 61 52 hZ dX8_output_49 (by decide) rfl (fun c_49 => ?_) (fun c_49 => ?_)
          · skip
            exact (h (Or.inl (bI_n0.mp c_49))).elim
          · skip
            refine r_aload_n 53 hZ 0 dX8_output_52 rfl rfl rfl ?_
            refine r_iload_n 54 hZ 2 dX8_output_53 rfl rfl rfl ?_
            refine r_iconst (v := 2) 55 hZ dX8_output_54 rfl (by decide) ?_
            refine r_callVI (c_X8_isOf l g y ad τ ρ (x := z) 2 (okL_mono hz (by omega))) wM_X8_isOf wL_X8_118 hZ rfl ⟨by decide, by decide⟩ 0 8 rfl rfl rfl rfl dX8_output_55 ?_
            refine r_if_eq 65 61 hZ dX8_output_58 (by decide) rfl (fun c_58 => ?_) (fun c_58 => ?_)
            · skip
              refine r_iconst (v := 0) 66 hZ dX8_output_65 rfl (by decide) ?_
              refine p_X8_72 69 hZ dX8_output_66 rfl ?_
              refine r_aload_n 70 hZ 0 dX8_output_69 rfl rfl rfl ?_
              refine g_X8_72 73 hZ dX8_output_70 rfl ?_
              refine r_if_le 78 76 hZ dX8_output_73 (by decide) rfl (fun c_73 => ?_) (fun c_73 => ?_)
              · skip
                refine r_aload_n 79 hZ 0 dX8_output_78 rfl rfl rfl ?_
                refine g_X8_33 82 hZ dX8_output_79 rfl ?_
                refine r_aload_n 83 hZ 0 dX8_output_82 rfl rfl rfl ?_
                refine g_X8_91 86 hZ dX8_output_83 rfl ?_
                refine w_eqI (hG) ?_
                refine r_iload_n 87 hZ 1 dX8_output_86 rfl rfl rfl ?_
                refine s_r6 88 hZ (by first | assumption | exact vp_in_nI (by omega) (by decide) | (unfold vp_in; decide)) dX8_output_87 rfl ?_
                rw [hcg]
                refine r_aload_n 89 hZ 0 dX8_output_88 rfl rfl rfl ?_
                refine g_X8_36 92 hZ dX8_output_89 rfl ?_
                refine r_aload_n 93 hZ 0 dX8_output_92 rfl rfl rfl ?_
                refine g_X8_91 96 hZ dX8_output_93 rfl ?_
                refine w_eqI (hG) ?_
                refine r_iload_n 97 hZ 2 dX8_output_96 rfl rfl rfl ?_
                refine s_r7 98 hZ (by first | assumption | exact vp_in_nI (by omega) (by decide) | (unfold vp_in; decide)) dX8_output_97 rfl ?_
                rw [hcg]
                refine r_aload_n 99 hZ 0 dX8_output_98 rfl rfl rfl ?_
                refine r_dup 100 hZ dX8_output_99 rfl rfl ?_
                refine g_X8_91 103 hZ dX8_output_100 rfl ?_
                refine w_eqI (hG) ?_
                refine r_iconst (v := 1) 104 hZ dX8_output_103 rfl (by decide) ?_
                refine r_iadd 105 hZ dX8_output_104 rfl ?_
                rw [nI_1]
                refine p_X8_91 108 hZ dX8_output_105 rfl ?_
                refine r_aload_n 109 hZ 0 dX8_output_108 rfl rfl rfl ?_
                refine r_iconst (v := 0) 110 hZ dX8_output_109 rfl (by decide) ?_
                refine p_X8_98 113 hZ (by first | exact Or.inl rfl | exact Or.inr rfl | exact bI_01 _) dX8_output_110 rfl ?_
                refine r_aload_n 114 hZ 0 dX8_output_113 rfl rfl rfl ?_
                refine g_X8_91 117 hZ dX8_output_114 rfl ?_
                refine r_iconst (v := 1) 118 hZ dX8_output_117 rfl (by decide) ?_
                refine r_isub 119 hZ dX8_output_118 rfl ?_
                exact hret _ _ _ _ dX8_output_119 (show nI (G + 1) - 1 = nI G from nI_pred G) rfl
              · skip
                exact absurd c_73 (show ¬ ¬ ((0 : Int32) ≤ (0 : Int32)) by decide)
            · skip
              exact (h (Or.inr (bI_n0.mp c_58))).elim
        · skip
          exact absurd (nI_eqq (b := 4) (by omega) (by decide) c_36) (by omega)
      · skip
        exact absurd c_24 (show ¬ ((1 : Int32) = (0 : Int32)) by decide)
def rvF (τ : stT) (I : Nat) (x s : Int32) : Int32 := ((cl (τ 4) (ix x)).toUInt32 >>> ((s &&& ((1 <<< (nI I &&& 31)) - 1)).toUInt32 &&& Int32.toUInt32 31)).toInt32 &&& 1
set_option maxHeartbeats 4000000 in
set_option maxRecDepth 100000 in
theorem c_X8_value_1 (l : Launch) (g : va_G) (y : Nat → ClassId) (ad : Nat → Nat) (τ : Nat → Nat → Int32) (ρ : Nat → Nat → Int64) {N I : Nat} (hN : τ 0 1 = nI N) (hN2 : N ≤ 38) (hI : τ 0 2 = nI I) (x s : Int32) (h : ¬ okL x (2 * N)) : w_C l g y yX8_value cX8_value 4 (some .int) 5 [.ref (ad 0), .int x, .int s] (rw ad y τ ρ) (some (.int 0)) (rw ad y (up τ 0 0 1) ρ) := by
  refine w_ofI (lv0 := [(0, .ref (ad 0)), (1, .int x), (2, .int s)]) (by decide +kernel) (Nat.le_of_ble_eq_true rfl) rfl (rfl) ?_
  intro Z hZ hret
  refine r_aload_n 1 hZ 0 dX8_value_0 rfl rfl rfl ?_
  refine r_aload_n 2 hZ 0 dX8_value_1 rfl rfl rfl ?_
  refine r_iload_n 3 hZ 1 dX8_value_2 rfl rfl rfl ?_
  refine r_callVI (c_X8_isLiteral l g y ad τ ρ x hN hN2) wM_X8_isLiteral wL_X8_115 hZ rfl ⟨by decide, by decide⟩ 0 8 rfl rfl rfl rfl dX8_value_3 ?_
  refine r_if_eq 13 9 hZ dX8_value_6 (by decide) rfl (fun c_6 => ?_) (fun c_6 => ?_)
  · skip
    refine r_iconst (v := 1) 14 hZ dX8_value_13 rfl (by decide) ?_
    refine p_X8_72 17 hZ dX8_value_14 rfl ?_
    refine r_aload_n 18 hZ 0 dX8_value_17 rfl rfl rfl ?_
    refine g_X8_72 21 hZ dX8_value_18 rfl ?_
    refine r_if_le 26 24 hZ dX8_value_21 (by decide) rfl (fun c_21 => ?_) (fun c_21 => ?_)
    · skip
      exact absurd c_21 (show ¬ ((1 : Int32) ≤ (0 : Int32)) by decide)
    · skip
      refine r_iconst (v := 0) 25 hZ dX8_value_24 rfl (by decide) ?_
      exact hret _ _ _ _ dX8_value_25 rfl rfl
  · skip
    exact (b1a h c_6).elim
set_option maxHeartbeats 4000000 in
set_option maxRecDepth 100000 in
theorem c_X8_value_0 (l : Launch) (g : va_G) (y : Nat → ClassId) (ad : Nat → Nat) (τ : Nat → Nat → Int32) (ρ : Nat → Nat → Int64) {N I : Nat} (hN : τ 0 1 = nI N) (hN2 : N ≤ 38) (hI : τ 0 2 = nI I) (x s : Int32) (h : okL x (2 * N)) : w_C l g y yX8_value cX8_value 4 (some .int) 5 [.ref (ad 0), .int x, .int s] (rw ad y τ ρ) (some (.int (rvF τ I x s))) (rw ad y (up τ 0 0 0) ρ) := by
  refine w_ofI (lv0 := [(0, .ref (ad 0)), (1, .int x), (2, .int s)]) (by decide +kernel) (Nat.le_of_ble_eq_true rfl) rfl (rfl) ?_
  intro Z hZ hret
  refine r_aload_n 1 hZ 0 dX8_value_0 rfl rfl rfl ?_
  refine r_aload_n 2 hZ 0 dX8_value_1 rfl rfl rfl ?_
  refine r_iload_n 3 hZ 1 dX8_value_2 rfl rfl rfl ?_
  refine r_callVI (c_X8_isLiteral l g y ad τ ρ x hN hN2) wM_X8_isLiteral wL_X8_115 hZ rfl ⟨by decide, by decide⟩ 0 8 rfl rfl rfl rfl dX8_value_3 ?_
  refine r_if_eq 13 9 hZ dX8_value_6 (by decide) rfl (fun c_6 => ?_) (fun c_6 => ?_)
  · skip
    exact (b0a h c_6).elim
  · skip
    refine r_iconst (v := 0) 10 hZ dX8_value_9 rfl (by decide) ?_
    refine r_goto 14 hZ dX8_value_10 (by decide) ?_
    refine p_X8_72 17 hZ dX8_value_14 rfl ?_
    refine r_aload_n 18 hZ 0 dX8_value_17 rfl rfl rfl ?_
    refine g_X8_72 21 hZ dX8_value_18 rfl ?_
    refine r_if_le 26 24 hZ dX8_value_21 (by decide) rfl (fun c_21 => ?_) (fun c_21 => ?_)
    · skip
      refine r_iload_n 27 hZ 2 dX8_value_26 rfl rfl rfl ?_
      refine r_iconst (v := 1) 28 hZ dX8_value_27 rfl (by decide) ?_
      refine r_aload_n 29 hZ 0 dX8_value_28 rfl rfl rfl ?_
      refine g_X8_102 32 hZ dX8_value_29 rfl ?_
      refine w_eqI (hI) ?_
      refine r_ishl 33 hZ dX8_value_32 rfl ?_
      refine r_iconst (v := 1) 34 hZ dX8_value_33 rfl (by decide) ?_
      refine r_isub 35 hZ dX8_value_34 rfl ?_
      refine r_iand 36 hZ dX8_value_35 rfl ?_
      refine r_istnN 37 [(0, _), (1, _), (2, _), (3, _)] hZ dX8_value_36 rfl rfl (by decide) rfl rfl ?_
      refine r_aload_n 38 hZ 0 dX8_value_37 rfl rfl rfl ?_
      refine r_iload_n 39 hZ 1 dX8_value_38 rfl rfl rfl ?_
      refine r_callVI (c_X8_table l g y ad _ ρ (x := x) (okL_mono h (by omega))) wM_X8_table wL_X8_83 hZ rfl ⟨by decide, by decide⟩ 0 8 rfl rfl rfl rfl dX8_value_39 ?_
      refine r_iload_n 43 hZ 3 dX8_value_42 rfl rfl rfl ?_
      refine r_iushr 44 hZ dX8_value_43 rfl ?_
      refine r_iconst (v := 1) 45 hZ dX8_value_44 rfl (by decide) ?_
      refine r_iand 46 hZ dX8_value_45 rfl ?_
      exact hret _ _ _ _ dX8_value_46 rfl rfl
    · skip
      exact absurd c_21 (show ¬ ¬ ((0 : Int32) ≤ (0 : Int32)) by decide)
set_option maxHeartbeats 4000000 in
set_option maxRecDepth 100000 in
theorem c_X8_differing (l : Launch) (g : va_G) (y : Nat → ClassId) (ad : Nat → Nat) (τ : Nat → Nat → Int32) (ρ : Nat → Nat → Int64) {N G : Nat} (hs : Rs τ N G) : w_C l g y yX8_differing cX8_differing 1 (some .int) 3 [.ref (ad 0)] (rw ad y τ ρ) (some (.int (nI (cnt (rdP τ) G)))) (rw ad y (up τ 0 0 0) ρ) := by
  refine w_ofI (lv0 := [(0, .ref (ad 0))]) (by decide +kernel) (Nat.le_of_ble_eq_true rfl) rfl (rfl) ?_
  intro Z hZ hret
  refine r_aload_n 1 hZ 0 dX8_differing_0 rfl rfl rfl ?_
  refine r_iconst (v := 0) 2 hZ dX8_differing_1 rfl (by decide) ?_
  refine p_X8_72 5 hZ dX8_differing_2 rfl ?_
  refine r_aload_n 6 hZ 0 dX8_differing_5 rfl rfl rfl ?_
  refine r_callVI (c_X8_apart l g y ad (up τ 0 0 0) ρ (N := N) (G := G) (by exact hs)) wM_X8_apart wL_X8_121 hZ rfl ⟨by decide, by decide⟩ 0 8 rfl rfl rfl rfl dX8_differing_6 ?_
  exact hret _ _ _ _ dX8_differing_9 rfl rfl
set_option maxHeartbeats 4000000 in
set_option maxRecDepth 100000 in
theorem c_X8_witness_1 (l : Launch) (g : va_G) (y : Nat → ClassId) (ad : Nat → Nat) (τ : Nat → Nat → Int32) (ρ : Nat → Nat → Int64) {N G : Nat} (hs : Rs τ N G) (x : Int32) (h : ¬ okL x G) : w_C l g y yX8_witness cX8_witness 4 (some .int) 5 [.ref (ad 0), .int x] (rw ad y τ ρ) (some (.int 0)) (rw ad y (up τ 0 0 1) ρ) := by
  refine w_ofI (lv0 := [(0, .ref (ad 0)), (1, .int x)]) (by decide +kernel) (Nat.le_of_ble_eq_true rfl) rfl (rfl) ?_
  intro Z hZ hret
  refine r_aload_n 1 hZ 0 dX8_witness_0 rfl rfl rfl ?_
  refine r_iload_n 2 hZ 1 dX8_witness_1 rfl rfl rfl ?_
  refine r_aload_n 3 hZ 0 dX8_witness_2 rfl rfl rfl ?_
  refine g_X8_91 6 hZ dX8_witness_3 rfl ?_
  refine w_eqI (hs.2.1) ?_
  refine r_callSI (c_X8_isIn l g y ad τ ρ x (m := G) (by have := hs.2.2.2.1; omega)) wM_X8_isIn wL_X8_79 hZ rfl ⟨by decide, by decide⟩ rfl rfl dX8_witness_6 ?_
  refine r_if_eq 16 12 hZ dX8_witness_9 (by decide) rfl (fun c_9 => ?_) (fun c_9 => ?_)
  · skip
    refine r_iconst (v := 1) 17 hZ dX8_witness_16 rfl (by decide) ?_
    refine p_X8_72 20 hZ dX8_witness_17 rfl ?_
    refine r_aload_n 21 hZ 0 dX8_witness_20 rfl rfl rfl ?_
    refine g_X8_72 24 hZ dX8_witness_21 rfl ?_
    refine r_if_le 29 27 hZ dX8_witness_24 (by decide) rfl (fun c_24 => ?_) (fun c_24 => ?_)
    · skip
      exact absurd c_24 (show ¬ ((1 : Int32) ≤ (0 : Int32)) by decide)
    · skip
      refine r_iconst (v := 0) 28 hZ dX8_witness_27 rfl (by decide) ?_
      exact hret _ _ _ _ dX8_witness_28 rfl rfl
  · skip
    exact (b1a h c_9).elim
def wdF (τ : stT) (j : Nat) : Int32 := cl (τ 4) (ix (τ 6 j)) ^^^ cl (τ 4) (ix (τ 7 j))
set_option maxHeartbeats 4000000 in
set_option maxRecDepth 100000 in
theorem c_X8_witness_0 (l : Launch) (g : va_G) (y : Nat → ClassId) (ad : Nat → Nat) (τ : Nat → Nat → Int32) (ρ : Nat → Nat → Int64) {N G : Nat} (hs : Rs τ N G) (x : Int32) (h : okL x G) : w_C l g y yX8_witness cX8_witness 4 (some .int) 5 [.ref (ad 0), .int x] (rw ad y τ ρ) (some (.int (oI (gfind (fun i => opt (bit (wdF τ (ix x)) i = 1) i) 0 32)))) (rw ad y (up τ 0 0 0) ρ) := by
  refine w_ofI (lv0 := [(0, .ref (ad 0)), (1, .int x)]) (by decide +kernel) (Nat.le_of_ble_eq_true rfl) rfl (rfl) ?_
  intro Z hZ hret
  obtain ⟨hN, hG, h38, h4, -, h6, h7⟩ := hs
  obtain ⟨j, hx⟩ : ∃ j, j = ix x := ⟨_, rfl⟩
  rw [← hx] at hret
  have hj : j < G := by rw [hx]; exact h.2
  have hxe : x = nI j := by rw [hx]; exact h.1
  subst hxe
  have hcj := nI_clamp (n := j) (by omega)
  clear hx
  refine r_aload_n 1 hZ 0 dX8_witness_0 rfl rfl rfl ?_
  refine r_iload_n 2 hZ 1 dX8_witness_1 rfl rfl rfl ?_
  refine r_aload_n 3 hZ 0 dX8_witness_2 rfl rfl rfl ?_
  refine g_X8_91 6 hZ dX8_witness_3 rfl ?_
  refine w_eqI (hG) ?_
  refine r_callSI (c_X8_isIn l g y ad τ ρ (nI j) (m := G) (by omega)) wM_X8_isIn wL_X8_79 hZ rfl ⟨by decide, by decide⟩ rfl rfl dX8_witness_6 ?_
  refine r_if_eq 16 12 hZ dX8_witness_9 (by decide) rfl (fun c_9 => ?_) (fun c_9 => ?_)
  · skip
    exact (b0a h c_9).elim
  · skip
    refine r_iconst (v := 0) 13 hZ dX8_witness_12 rfl (by decide) ?_
    refine r_goto 17 hZ dX8_witness_13 (by decide) ?_
    refine p_X8_72 20 hZ dX8_witness_17 rfl ?_
    refine r_aload_n 21 hZ 0 dX8_witness_20 rfl rfl rfl ?_
    refine g_X8_72 24 hZ dX8_witness_21 rfl ?_
    refine r_if_le 29 27 hZ dX8_witness_24 (by decide) rfl (fun c_24 => ?_) (fun c_24 => ?_)
    · skip
      refine r_aload_n 30 hZ 0 dX8_witness_29 rfl rfl rfl ?_
      refine r_aload_n 31 hZ 0 dX8_witness_30 rfl rfl rfl ?_
      refine g_X8_33 34 hZ dX8_witness_31 rfl ?_
      refine r_iload_n 35 hZ 1 dX8_witness_34 rfl rfl rfl ?_
      refine a_r6 36 hZ (vp_in_nI (show j < 4 by omega) (by decide)) dX8_witness_35 rfl ?_
      rw [hcj]
      refine r_callVI (c_X8_table l g y ad _ ρ (h6 j hj)) wM_X8_table wL_X8_83 hZ rfl ⟨by decide, by decide⟩ 0 8 rfl rfl rfl rfl dX8_witness_36 ?_
      refine r_aload_n 40 hZ 0 dX8_witness_39 rfl rfl rfl ?_
      refine r_aload_n 41 hZ 0 dX8_witness_40 rfl rfl rfl ?_
      refine g_X8_36 44 hZ dX8_witness_41 rfl ?_
      refine r_iload_n 45 hZ 1 dX8_witness_44 rfl rfl rfl ?_
      refine a_r7 46 hZ (vp_in_nI (show j < 4 by omega) (by decide)) dX8_witness_45 rfl ?_
      rw [hcj]
      refine r_callVI (c_X8_table l g y ad _ ρ (h7 j hj)) wM_X8_table wL_X8_83 hZ rfl ⟨by decide, by decide⟩ 0 8 rfl rfl rfl rfl dX8_witness_46 ?_
      refine r_ixor 50 hZ dX8_witness_49 rfl ?_
      change Z 0 0 _ 50 _ [.int (wdF τ j)]
      refine r_istnN 51 [(0, _), (1, _), (2, _)] hZ dX8_witness_50 rfl rfl (by decide) rfl rfl ?_
      refine r_iconst (v := 0) 52 hZ dX8_witness_51 rfl (by decide) ?_
      refine r_istnN 53 [(0, _), (1, _), (2, _), (3, _)] hZ dX8_witness_52 rfl rfl (by decide) rfl rfl ?_
      have lp_53 : ∀ (n : Nat) (i : Nat), i ≤ 32 → 33 ≤ i + n → gfind (fun i => opt (bit (wdF τ j) i = 1) i) 0 32 = gfind (fun i => opt (bit (wdF τ j) i = 1) i) i (32 - i) → Z 0 0 (rw ad y (up τ 0 0 0) ρ) 53 [(0, .ref (ad 0)), (1, .int (nI j)), (2, .int (wdF τ j)), (3, .int (nI i))] [] := by
        intro n
        induction n with
        | zero => intro i h1 hn_53 hg; exact absurd hn_53 (by omega)
        | succ n ih_53 =>
          intro i h1 hn_53 hg
          refine r_iload_n 54 hZ 3 dX8_witness_53 rfl rfl rfl ?_
          refine r_bipush (v := 32) 56 hZ dX8_witness_54 rfl (by decide) ?_
          refine r_icmp_ge 76 59 hZ dX8_witness_56 (by decide) rfl (fun c_56 => ?_) (fun c_56 => ?_)
          · skip
            have hi := nI_leq (a := 32) (by omega) (by omega) c_56
            have hi : i = 32 := by omega
            subst hi
            refine r_iconst (v := (-1)) 77 hZ dX8_witness_76 rfl (by decide) ?_
            exact hret _ _ _ _ dX8_witness_77 (by rw [hg, show 32 - 32 = 0 by omega, gfind_0]; rfl) rfl
          · skip
            have hi := nI_nleq (a := 32) (by omega) (by omega) c_56
            have hb : 32 - i = (32 - (i + 1)) + 1 := by omega
            refine r_iload_n 60 hZ 2 dX8_witness_59 rfl rfl rfl ?_
            refine r_iload_n 61 hZ 3 dX8_witness_60 rfl rfl rfl ?_
            refine r_iushr 62 hZ dX8_witness_61 rfl ?_
            refine r_iconst (v := 1) 63 hZ dX8_witness_62 rfl (by decide) ?_
            refine r_iand 64 hZ dX8_witness_63 rfl ?_
            refine r_iconst (v := 1) 65 hZ dX8_witness_64 rfl (by decide) ?_
            refine r_icmp_ne 70 68 hZ dX8_witness_65 (by decide) rfl (fun c_65 => ?_) (fun c_65 => ?_)
            · skip
              refine r_iinc 73 3 1 [(0, _), (1, _), (2, _), (3, _)] hZ dX8_witness_70 rfl rfl (by decide) (by decide) rfl rfl ?_
              refine r_goto 53 hZ dX8_witness_73 (by decide) ?_
              rw [nI_1]
              exact ih_53 (i + 1) (by omega) (by omega) (by rw [hg, hb, gfind_n (f := fun i => opt (bit (wdF τ j) i = 1) i) (opt_f c_65)])
            · skip
              have c_65 : bit (wdF τ j) i = 1 := c_65
              refine r_iload_n 69 hZ 3 dX8_witness_68 rfl rfl rfl ?_
              exact hret _ _ _ _ dX8_witness_69 (by rw [hg, hb, gfind_s (f := fun i => opt (bit (wdF τ j) i = 1) i) (opt_t c_65)]; rfl) rfl
      exact lp_53 33 0 (by omega) (by omega) rfl
    · skip
      exact absurd c_24 (show ¬ ¬ ((0 : Int32) ≤ (0 : Int32)) by decide)
set_option maxHeartbeats 4000000 in
set_option maxRecDepth 100000 in
theorem c_X8_matched_1 (l : Launch) (g : va_G) (y : Nat → ClassId) (ad : Nat → Nat) (τ : Nat → Nat → Int32) (ρ : Nat → Nat → Int64) {N G : Nat} (hN : τ 0 1 = nI N) (hN2 : N ≤ 38) (x : Int32) (h : ¬ okL x (2 * N)) : w_C l g y yX8_matched cX8_matched 3 (some .int) 5 [.ref (ad 0), .int x] (rw ad y τ ρ) (some (.int 0)) (rw ad y (up τ 0 0 1) ρ) := by
  refine w_ofI (lv0 := [(0, .ref (ad 0)), (1, .int x)]) (by decide +kernel) (Nat.le_of_ble_eq_true rfl) rfl (rfl) ?_
  intro Z hZ hret
  refine r_aload_n 1 hZ 0 dX8_matched_0 rfl rfl rfl ?_
  refine r_aload_n 2 hZ 0 dX8_matched_1 rfl rfl rfl ?_
  refine r_iload_n 3 hZ 1 dX8_matched_2 rfl rfl rfl ?_
  refine r_callVI (c_X8_isLiteral l g y ad τ ρ x hN hN2) wM_X8_isLiteral wL_X8_115 hZ rfl ⟨by decide, by decide⟩ 0 8 rfl rfl rfl rfl dX8_matched_3 ?_
  refine r_if_eq 13 9 hZ dX8_matched_6 (by decide) rfl (fun c_6 => ?_) (fun c_6 => ?_)
  · skip
    refine r_iconst (v := 1) 14 hZ dX8_matched_13 rfl (by decide) ?_
    refine p_X8_72 17 hZ dX8_matched_14 rfl ?_
    refine r_iconst (v := 0) 18 hZ dX8_matched_17 rfl (by decide) ?_
    refine r_istnN 19 [(0, _), (1, _), (2, _)] hZ dX8_matched_18 rfl rfl (by decide) rfl rfl ?_
    refine r_iload_n 20 hZ 2 dX8_matched_19 rfl rfl rfl ?_
    refine r_iconst (v := 2) 21 hZ dX8_matched_20 rfl (by decide) ?_
    refine r_aload_n 22 hZ 0 dX8_matched_21 rfl rfl rfl ?_
    refine g_X8_76 25 hZ dX8_matched_22 rfl ?_
    refine r_imul 26 hZ dX8_matched_25 rfl ?_
    refine r_icmp_ge 69 29 hZ dX8_matched_26 (by decide) rfl (fun c_26 => ?_) (fun c_26 => ?_)
    · skip
      refine r_aload_n 70 hZ 0 dX8_matched_69 rfl rfl rfl ?_
      refine g_X8_72 73 hZ dX8_matched_70 rfl ?_
      refine r_if_le 80 76 hZ dX8_matched_73 (by decide) rfl (fun c_73 => ?_) (fun c_73 => ?_)
      · skip
        exact absurd c_73 (show ¬ ((1 : Int32) ≤ (0 : Int32)) by decide)
      · skip
        refine r_iconst (v := 0) 77 hZ dX8_matched_76 rfl (by decide) ?_
        refine r_goto 81 hZ dX8_matched_77 (by decide) ?_
        exact hret _ _ _ _ dX8_matched_81 rfl rfl
    · skip
      refine r_aload_n 30 hZ 0 dX8_matched_29 rfl rfl rfl ?_
      refine g_X8_72 33 hZ dX8_matched_30 rfl ?_
      refine r_if_ne 69 36 hZ dX8_matched_33 (by decide) rfl (fun c_33 => ?_) (fun c_33 => ?_)
      · skip
        refine r_aload_n 70 hZ 0 dX8_matched_69 rfl rfl rfl ?_
        refine g_X8_72 73 hZ dX8_matched_70 rfl ?_
        refine r_if_le 80 76 hZ dX8_matched_73 (by decide) rfl (fun c_73 => ?_) (fun c_73 => ?_)
        · skip
          exact absurd c_73 (show ¬ ((1 : Int32) ≤ (0 : Int32)) by decide)
        · skip
          refine r_iconst (v := 0) 77 hZ dX8_matched_76 rfl (by decide) ?_
          refine r_goto 81 hZ dX8_matched_77 (by decide) ?_
          exact hret _ _ _ _ dX8_matched_81 rfl rfl
      · skip
        exact absurd c_33 (show ¬ ((1 : Int32) = (0 : Int32)) by decide)
  · skip
    exact (b1a h c_6).elim
noncomputable def maG (τ : stT) (x : Int32) (i : Nat) : Option Nat := opt (¬ τ 1 (i / 2) = 3 ∧ cl (τ 4) i = cl (τ 4) (ix x)) i
set_option maxHeartbeats 4000000 in
set_option maxRecDepth 100000 in
theorem c_X8_matched_0 (l : Launch) (g : va_G) (y : Nat → ClassId) (ad : Nat → Nat) (τ : Nat → Nat → Int32) (ρ : Nat → Nat → Int64) {N G : Nat} (hN : τ 0 1 = nI N) (hN2 : N ≤ 38) (x : Int32) (h : okL x (2 * N)) : w_C l g y yX8_matched cX8_matched 3 (some .int) 5 [.ref (ad 0), .int x] (rw ad y τ ρ) (some (.int (oI (gfind (maG τ x) 0 (2 * N))))) (rw ad y (up τ 0 0 0) ρ) := by
  refine w_ofI (lv0 := [(0, .ref (ad 0)), (1, .int x)]) (by decide +kernel) (Nat.le_of_ble_eq_true rfl) rfl (rfl) ?_
  intro Z hZ hret
  refine r_aload_n 1 hZ 0 dX8_matched_0 rfl rfl rfl ?_
  refine r_aload_n 2 hZ 0 dX8_matched_1 rfl rfl rfl ?_
  refine r_iload_n 3 hZ 1 dX8_matched_2 rfl rfl rfl ?_
  refine r_callVI (c_X8_isLiteral l g y ad τ ρ x hN hN2) wM_X8_isLiteral wL_X8_115 hZ rfl ⟨by decide, by decide⟩ 0 8 rfl rfl rfl rfl dX8_matched_3 ?_
  refine r_if_eq 13 9 hZ dX8_matched_6 (by decide) rfl (fun c_6 => ?_) (fun c_6 => ?_)
  · skip
    exact (b0a h c_6).elim
  · skip
    refine r_iconst (v := 0) 10 hZ dX8_matched_9 rfl (by decide) ?_
    refine r_goto 14 hZ dX8_matched_10 (by decide) ?_
    refine p_X8_72 17 hZ dX8_matched_14 rfl ?_
    refine r_iconst (v := 0) 18 hZ dX8_matched_17 rfl (by decide) ?_
    refine r_istnN 19 [(0, _), (1, _), (2, _)] hZ dX8_matched_18 rfl rfl (by decide) rfl rfl ?_
    have lp_19 : ∀ (n : Nat) (i : Nat), i ≤ 2 * N → 2 * N + 1 ≤ i + n → gfind (maG τ x) 0 (2 * N) = gfind (maG τ x) i (2 * N - i) → Z 0 0 (rw ad y (up τ 0 0 0) ρ) 19 [(0, .ref (ad 0)), (1, .int x), (2, .int (nI i))] [] := by
      intro n
      induction n with
      | zero => intro i h1 hn_19 hg; exact absurd hn_19 (by omega)
      | succ n ih_19 =>
        intro i h1 hn_19 hg
        refine r_iload_n 20 hZ 2 dX8_matched_19 rfl rfl rfl ?_
        refine r_iconst (v := 2) 21 hZ dX8_matched_20 rfl (by decide) ?_
        refine r_aload_n 22 hZ 0 dX8_matched_21 rfl rfl rfl ?_
        refine g_X8_76 25 hZ dX8_matched_22 rfl ?_
        refine w_eqI (hN) ?_
        refine r_imul 26 hZ dX8_matched_25 rfl ?_
        rw [nI_2]
        refine r_icmp_ge 69 29 hZ dX8_matched_26 (by decide) rfl (fun c_26 => ?_) (fun c_26 => ?_)
        · skip
          have hi := nI_leq (by omega) (by omega) c_26
          have hi : i = 2 * N := by omega
          subst hi
          refine r_aload_n 70 hZ 0 dX8_matched_69 rfl rfl rfl ?_
          refine g_X8_72 73 hZ dX8_matched_70 rfl ?_
          refine r_if_le 80 76 hZ dX8_matched_73 (by decide) rfl (fun c_73 => ?_) (fun c_73 => ?_)
          · skip
            refine r_iconst (v := (-1)) 81 hZ dX8_matched_80 rfl (by decide) ?_
            exact hret _ _ _ _ dX8_matched_81 (by rw [hg, show 2 * N - 2 * N = 0 by omega, gfind_0]; rfl) rfl
          · skip
            exact absurd c_73 (show ¬ ¬ ((0 : Int32) ≤ (0 : Int32)) by decide)
        · skip
          have hi := nI_nleq (by omega) (by omega) c_26
          have hb : 2 * N - i = (2 * N - (i + 1)) + 1 := by omega
          have hci := nI_clamp (n := i / 2) (by omega)
          refine r_aload_n 30 hZ 0 dX8_matched_29 rfl rfl rfl ?_
          refine g_X8_72 33 hZ dX8_matched_30 rfl ?_
          refine r_if_ne 69 36 hZ dX8_matched_33 (by decide) rfl (fun c_33 => ?_) (fun c_33 => ?_)
          · skip
            exact absurd c_33 (show ¬ (¬ (0 : Int32) = (0 : Int32)) by decide)
          · skip
            refine r_aload_n 37 hZ 0 dX8_matched_36 rfl rfl rfl ?_
            refine g_X8_7 40 hZ dX8_matched_37 rfl ?_
            refine r_iload_n 41 hZ 2 dX8_matched_40 rfl rfl rfl ?_
            refine r_iconst (v := 2) 42 hZ dX8_matched_41 rfl (by decide) ?_
            refine r_idiv 43 hZ dX8_matched_42 rfl (by decide) ?_
            rw [dv2 (by omega)]
            refine a_r1 44 hZ (vp_in_nI (by omega) (by decide)) dX8_matched_43 rfl ?_
            rw [hci]
            refine r_iconst (v := 3) 45 hZ dX8_matched_44 rfl (by decide) ?_
            refine r_icmp_eq 63 48 hZ dX8_matched_45 (by decide) rfl (fun c_45 => ?_) (fun c_45 => ?_)
            · skip
              have hmn : maG τ x i = none := opt_f (fun q => q.1 c_45)
              refine r_iinc 66 2 1 [(0, _), (1, _), (2, _)] hZ dX8_matched_63 rfl rfl (by decide) (by decide) rfl rfl ?_
              refine r_goto 19 hZ dX8_matched_66 (by decide) ?_
              rw [nI_1]
              exact ih_19 (i + 1) (by omega) (by omega) (by rw [hg, hb, gfind_n hmn])
            · skip
              refine r_aload_n 49 hZ 0 dX8_matched_48 rfl rfl rfl ?_
              refine r_iload_n 50 hZ 2 dX8_matched_49 rfl rfl rfl ?_
              refine r_callVI (c_X8_table l g y ad _ ρ (x := nI i) (okL_nI (by omega) (by decide))) wM_X8_table wL_X8_83 hZ rfl ⟨by decide, by decide⟩ 0 8 rfl rfl rfl rfl dX8_matched_50 ?_
              refine r_aload_n 54 hZ 0 dX8_matched_53 rfl rfl rfl ?_
              refine r_iload_n 55 hZ 1 dX8_matched_54 rfl rfl rfl ?_
              refine r_callVI (c_X8_table l g y ad _ ρ (x := x) (okL_mono h (by omega))) wM_X8_table wL_X8_83 hZ rfl ⟨by decide, by decide⟩ 0 8 rfl rfl rfl rfl dX8_matched_55 ?_
              refine r_icmp_ne 63 61 hZ dX8_matched_58 (by decide) rfl (fun c_58 => ?_) (fun c_58 => ?_)
              · skip
                have hmn : maG τ x i = none := opt_f (fun q => c_58 (by rw [ix_nI (by omega)]; exact q.2))
                refine r_iinc 66 2 1 [(0, _), (1, _), (2, _)] hZ dX8_matched_63 rfl rfl (by decide) (by decide) rfl rfl ?_
                refine r_goto 19 hZ dX8_matched_66 (by decide) ?_
                rw [nI_1]
                exact ih_19 (i + 1) (by omega) (by omega) (by rw [hg, hb, gfind_n hmn])
              · skip
                have hm : maG τ x i = some i := opt_t ⟨c_45, by have q := c_58; rw [ix_nI (by omega)] at q; exact q⟩
                refine r_iload_n 62 hZ 2 dX8_matched_61 rfl rfl rfl ?_
                exact hret _ _ _ _ dX8_matched_62 (by rw [hg, hb, gfind_s hm]; rfl) rfl
    exact lp_19 (2 * N + 1) 0 (by omega) (by omega) rfl
set_option maxHeartbeats 4000000 in
set_option maxRecDepth 100000 in
theorem c_X8_keep_1 (l : Launch) (g : va_G) (y : Nat → ClassId) (ad : Nat → Nat) (τ : Nat → Nat → Int32) (ρ : Nat → Nat → Int64) {N : Nat} (hN : τ 0 1 = nI N) (hN2 : N ≤ 38) (x z : Int32) (h : ¬ (okL x N ∧ τ 1 (ix x) = 2)) : w_C l g y yX8_keep cX8_keep 3 (some .boolean) 5 [.ref (ad 0), .int x, .int z] (rw ad y τ ρ) (some (.int 0)) (rw ad y (up τ 0 0 1) ρ) := by
  refine w_ofI (lv0 := [(0, .ref (ad 0)), (1, .int x), (2, .int z)]) (by decide +kernel) (Nat.le_of_ble_eq_true rfl) rfl (rfl) ?_
  intro Z hZ hret
  refine r_aload_n 1 hZ 0 dX8_keep_0 rfl rfl rfl ?_
  refine r_aload_n 2 hZ 0 dX8_keep_1 rfl rfl rfl ?_
  refine r_iload_n 3 hZ 1 dX8_keep_2 rfl rfl rfl ?_
  refine r_callVI (c_X8_isOld l g y ad τ ρ x hN hN2) wM_X8_isOld wL_X8_125 hZ rfl ⟨by decide, by decide⟩ 0 8 rfl rfl rfl rfl dX8_keep_3 ?_
  refine r_if_eq 13 9 hZ dX8_keep_6 (by decide) rfl (fun c_6 => ?_) (fun c_6 => ?_)
  · skip
    refine r_iconst (v := 1) 14 hZ dX8_keep_13 rfl (by decide) ?_
    refine p_X8_72 17 hZ dX8_keep_14 rfl ?_
    refine r_aload_n 18 hZ 0 dX8_keep_17 rfl rfl rfl ?_
    refine g_X8_72 21 hZ dX8_keep_18 rfl ?_
    refine r_if_gt 34 24 hZ dX8_keep_21 (by decide) rfl (fun c_21 => ?_) (fun c_21 => ?_)
    · skip
      refine r_iconst (v := 0) 35 hZ dX8_keep_34 rfl (by decide) ?_
      exact hret _ _ _ _ dX8_keep_35 rfl rfl
    · skip
      exact absurd c_21 (show ¬ ¬ ((0 : Int32) < (1 : Int32)) by decide)
  · skip
    exact (b1a h c_6).elim
set_option maxHeartbeats 4000000 in
set_option maxRecDepth 100000 in
theorem c_X8_keep_0 (l : Launch) (g : va_G) (y : Nat → ClassId) (ad : Nat → Nat) (τ : Nat → Nat → Int32) (ρ : Nat → Nat → Int64) {N : Nat} (hN : τ 0 1 = nI N) (hN2 : N ≤ 38) (x z : Int32) (h : okL x N ∧ τ 1 (ix x) = 2) (hz : τ 5 (ix x) = z) : w_C l g y yX8_keep cX8_keep 3 (some .boolean) 5 [.ref (ad 0), .int x, .int z] (rw ad y τ ρ) (some (.int 0)) (rw ad y (up τ 0 0 0) ρ) := by
  refine w_ofI (lv0 := [(0, .ref (ad 0)), (1, .int x), (2, .int z)]) (by decide +kernel) (Nat.le_of_ble_eq_true rfl) rfl (rfl) ?_
  intro Z hZ hret
  refine r_aload_n 1 hZ 0 dX8_keep_0 rfl rfl rfl ?_
  refine r_aload_n 2 hZ 0 dX8_keep_1 rfl rfl rfl ?_
  refine r_iload_n 3 hZ 1 dX8_keep_2 rfl rfl rfl ?_
  refine r_callVI (c_X8_isOld l g y ad τ ρ x hN hN2) wM_X8_isOld wL_X8_125 hZ rfl ⟨by decide, by decide⟩ 0 8 rfl rfl rfl rfl dX8_keep_3 ?_
  refine r_if_eq 13 9 hZ dX8_keep_6 (by decide) rfl (fun c_6 => ?_) (fun c_6 => ?_)
  · skip
    exact (b0a h c_6).elim
  · skip
    refine r_iconst (v := 0) 10 hZ dX8_keep_9 rfl (by decide) ?_
    refine r_goto 14 hZ dX8_keep_10 (by decide) ?_
    refine p_X8_72 17 hZ dX8_keep_14 rfl ?_
    refine r_aload_n 18 hZ 0 dX8_keep_17 rfl rfl rfl ?_
    refine g_X8_72 21 hZ dX8_keep_18 rfl ?_
    refine r_if_gt 34 24 hZ dX8_keep_21 (by decide) rfl (fun c_21 => ?_) (fun c_21 => ?_)
    · skip
      exact absurd c_21 (show ¬ ((0 : Int32) < (0 : Int32)) by decide)
    · skip
      refine r_aload_n 25 hZ 0 dX8_keep_24 rfl rfl rfl ?_
      refine g_X8_22 28 hZ dX8_keep_25 rfl ?_
      refine r_iload_n 29 hZ 1 dX8_keep_28 rfl rfl rfl ?_
      refine a_r5 30 hZ (okL_in (okL_mono h.1 (show N ≤ 40 by omega)) (by decide)) dX8_keep_29 rfl ?_
      refine r_iload_n 31 hZ 2 dX8_keep_30 rfl rfl rfl ?_
      refine r_icmp_ne 36 34 hZ dX8_keep_31 (by decide) rfl (fun c_31 => ?_) (fun c_31 => ?_)
      · skip
        exact absurd hz c_31
      · skip
        refine r_iconst (v := 0) 35 hZ dX8_keep_34 rfl (by decide) ?_
        exact hret _ _ _ _ dX8_keep_35 rfl rfl
set_option maxHeartbeats 4000000 in
set_option maxRecDepth 100000 in
theorem c_X8_keep_2 (l : Launch) (g : va_G) (y : Nat → ClassId) (ad : Nat → Nat) (τ : Nat → Nat → Int32) (ρ : Nat → Nat → Int64) {N : Nat} (hN : τ 0 1 = nI N) (hN2 : N ≤ 38) (x z : Int32) (h : okL x N ∧ τ 1 (ix x) = 2) (hz : ¬ τ 5 (ix x) = z) (hz2 : z = 0 ∨ z = 1) : w_C l g y yX8_keep cX8_keep 3 (some .boolean) 5 [.ref (ad 0), .int x, .int z] (rw ad y τ ρ) (some (.int 1)) (rw ad y (up (up (up τ 0 0 0) 5 (ix x) z) 0 7 0) ρ) := by
  refine w_ofI (lv0 := [(0, .ref (ad 0)), (1, .int x), (2, .int z)]) (by decide +kernel) (Nat.le_of_ble_eq_true rfl) rfl (rfl) ?_
  intro Z hZ hret
  have hv : vp_nar .boolean z = z := by rcases hz2 with e | e <;> rw [e] <;> rfl
  refine r_aload_n 1 hZ 0 dX8_keep_0 rfl rfl rfl ?_
  refine r_aload_n 2 hZ 0 dX8_keep_1 rfl rfl rfl ?_
  refine r_iload_n 3 hZ 1 dX8_keep_2 rfl rfl rfl ?_
  refine r_callVI (c_X8_isOld l g y ad τ ρ x hN hN2) wM_X8_isOld wL_X8_125 hZ rfl ⟨by decide, by decide⟩ 0 8 rfl rfl rfl rfl dX8_keep_3 ?_
  refine r_if_eq 13 9 hZ dX8_keep_6 (by decide) rfl (fun c_6 => ?_) (fun c_6 => ?_)
  · skip
    exact (b0a h c_6).elim
  · skip
    refine r_iconst (v := 0) 10 hZ dX8_keep_9 rfl (by decide) ?_
    refine r_goto 14 hZ dX8_keep_10 (by decide) ?_
    refine p_X8_72 17 hZ dX8_keep_14 rfl ?_
    refine r_aload_n 18 hZ 0 dX8_keep_17 rfl rfl rfl ?_
    refine g_X8_72 21 hZ dX8_keep_18 rfl ?_
    refine r_if_gt 34 24 hZ dX8_keep_21 (by decide) rfl (fun c_21 => ?_) (fun c_21 => ?_)
    · skip
      exact absurd c_21 (show ¬ ((0 : Int32) < (0 : Int32)) by decide)
    · skip
      refine r_aload_n 25 hZ 0 dX8_keep_24 rfl rfl rfl ?_
      refine g_X8_22 28 hZ dX8_keep_25 rfl ?_
      refine r_iload_n 29 hZ 1 dX8_keep_28 rfl rfl rfl ?_
      refine a_r5 30 hZ (okL_in (okL_mono h.1 (show N ≤ 40 by omega)) (by decide)) dX8_keep_29 rfl ?_
      refine r_iload_n 31 hZ 2 dX8_keep_30 rfl rfl rfl ?_
      refine r_icmp_ne 36 34 hZ dX8_keep_31 (by decide) rfl (fun c_31 => ?_) (fun c_31 => ?_)
      · skip
        refine r_aload_n 37 hZ 0 dX8_keep_36 rfl rfl rfl ?_
        refine g_X8_22 40 hZ dX8_keep_37 rfl ?_
        refine r_iload_n 41 hZ 1 dX8_keep_40 rfl rfl rfl ?_
        refine r_iload_n 42 hZ 2 dX8_keep_41 rfl rfl rfl ?_
        refine s_r5 43 hZ (okL_in (okL_mono h.1 (show N ≤ 40 by omega)) (by decide)) dX8_keep_42 rfl ?_
        rw [hv]
        refine r_aload_n 44 hZ 0 dX8_keep_43 rfl rfl rfl ?_
        refine r_iconst (v := 0) 45 hZ dX8_keep_44 rfl (by decide) ?_
        refine p_X8_98 48 hZ (by first | exact Or.inl rfl | exact Or.inr rfl | exact bI_01 _) dX8_keep_45 rfl ?_
        refine r_iconst (v := 1) 49 hZ dX8_keep_48 rfl (by decide) ?_
        exact hret _ _ _ _ dX8_keep_49 rfl rfl
      · skip
        exact absurd c_31 hz
def nrP (x : Int64) : Prop := ¬ (x < -1000 ∨ 1000 < x)
theorem lcz {a b : Int64} : lg_cmp a b = 0 ↔ a = b := lg_cmp_eq a b
set_option maxHeartbeats 4000000 in
set_option maxRecDepth 100000 in
theorem c_X8_place_1 (l : Launch) (g : va_G) (y : Nat → ClassId) (ad : Nat → Nat) (τ : Nat → Nat → Int32) (ρ : Nat → Nat → Int64) {N : Nat} (hN : τ 0 1 = nI N) (hN2 : N ≤ 38) (x : Int32) (X Y : Int64) (h : ¬ (okL x N ∧ τ 1 (ix x) = 2)) : w_C l g y yX8_place cX8_place 6 (some .boolean) 5 [.ref (ad 0), .int x, .long X, .long Y] (rw ad y τ ρ) (some (.int 0)) (rw ad y (up τ 0 0 1) ρ) := by
  refine w_ofI (lv0 := [(0, .ref (ad 0)), (1, .int x), (2, .long X), (4, .long Y)]) (by decide +kernel) (Nat.le_of_ble_eq_true rfl) rfl (rfl) ?_
  intro Z hZ hret
  refine r_aload_n 1 hZ 0 dX8_place_0 rfl rfl rfl ?_
  refine r_aload_n 2 hZ 0 dX8_place_1 rfl rfl rfl ?_
  refine r_iload_n 3 hZ 1 dX8_place_2 rfl rfl rfl ?_
  refine r_callVI (c_X8_isOld l g y ad τ ρ x hN hN2) wM_X8_isOld wL_X8_125 hZ rfl ⟨by decide, by decide⟩ 0 8 rfl rfl rfl rfl dX8_place_3 ?_
  refine r_if_ne 13 9 hZ dX8_place_6 (by decide) rfl (fun c_6 => ?_) (fun c_6 => ?_)
  · skip
    exact (b1a h c_6).elim
  · skip
    refine r_iconst (v := 1) 10 hZ dX8_place_9 rfl (by decide) ?_
    refine r_goto 33 hZ dX8_place_10 (by decide) ?_
    refine p_X8_72 36 hZ dX8_place_33 rfl ?_
    refine r_aload_n 37 hZ 0 dX8_place_36 rfl rfl rfl ?_
    refine g_X8_72 40 hZ dX8_place_37 rfl ?_
    refine r_if_gt 66 43 hZ dX8_place_40 (by decide) rfl (fun c_40 => ?_) (fun c_40 => ?_)
    · skip
      refine r_iconst (v := 0) 67 hZ dX8_place_66 rfl (by decide) ?_
      exact hret _ _ _ _ dX8_place_67 rfl rfl
    · skip
      exact absurd c_40 (show ¬ ¬ ((0 : Int32) < (1 : Int32)) by decide)
set_option maxHeartbeats 4000000 in
set_option maxRecDepth 100000 in
theorem c_X8_place_2 (l : Launch) (g : va_G) (y : Nat → ClassId) (ad : Nat → Nat) (τ : Nat → Nat → Int32) (ρ : Nat → Nat → Int64) {N : Nat} (hN : τ 0 1 = nI N) (hN2 : N ≤ 38) (x : Int32) (X Y : Int64) (h : okL x N ∧ τ 1 (ix x) = 2) (hn : ¬ (nrP X ∧ nrP Y)) : w_C l g y yX8_place cX8_place 6 (some .boolean) 5 [.ref (ad 0), .int x, .long X, .long Y] (rw ad y τ ρ) (some (.int 0)) (rw ad y (up τ 0 0 2) ρ) := by
  refine w_ofI (lv0 := [(0, .ref (ad 0)), (1, .int x), (2, .long X), (4, .long Y)]) (by decide +kernel) (Nat.le_of_ble_eq_true rfl) rfl (rfl) ?_
  intro Z hZ hret
  refine r_aload_n 1 hZ 0 dX8_place_0 rfl rfl rfl ?_
  refine r_aload_n 2 hZ 0 dX8_place_1 rfl rfl rfl ?_
  refine r_iload_n 3 hZ 1 dX8_place_2 rfl rfl rfl ?_
  refine r_callVI (c_X8_isOld l g y ad τ ρ x hN hN2) wM_X8_isOld wL_X8_125 hZ rfl ⟨by decide, by decide⟩ 0 8 rfl rfl rfl rfl dX8_place_3 ?_
  refine r_if_ne 13 9 hZ dX8_place_6 (by decide) rfl (fun c_6 => ?_) (fun c_6 => ?_)
  · skip
    refine r_lload_n 14 hZ 2 dX8_place_13 rfl rfl rfl ?_
    refine r_callSI (c_X8_isNear l g y ad τ ρ X) wM_X8_isNear wL_X8_132 hZ rfl ⟨by decide, by decide⟩ rfl rfl dX8_place_14 ?_
    refine r_if_eq 32 20 hZ dX8_place_17 (by decide) rfl (fun c_17 => ?_) (fun c_17 => ?_)
    · skip
      refine r_iconst (v := 2) 33 hZ dX8_place_32 rfl (by decide) ?_
      refine p_X8_72 36 hZ dX8_place_33 rfl ?_
      refine r_aload_n 37 hZ 0 dX8_place_36 rfl rfl rfl ?_
      refine g_X8_72 40 hZ dX8_place_37 rfl ?_
      refine r_if_gt 66 43 hZ dX8_place_40 (by decide) rfl (fun c_40 => ?_) (fun c_40 => ?_)
      · skip
        refine r_iconst (v := 0) 67 hZ dX8_place_66 rfl (by decide) ?_
        exact hret _ _ _ _ dX8_place_67 rfl rfl
      · skip
        exact absurd c_40 (show ¬ ¬ ((0 : Int32) < (2 : Int32)) by decide)
    · skip
      refine r_lload 22 hZ 3 dX8_place_20 rfl rfl ?_
      refine r_callSI (c_X8_isNear l g y ad τ ρ Y) wM_X8_isNear wL_X8_132 hZ rfl ⟨by decide, by decide⟩ rfl rfl dX8_place_22 ?_
      refine r_if_eq 32 28 hZ dX8_place_25 (by decide) rfl (fun c_25 => ?_) (fun c_25 => ?_)
      · skip
        refine r_iconst (v := 2) 33 hZ dX8_place_32 rfl (by decide) ?_
        refine p_X8_72 36 hZ dX8_place_33 rfl ?_
        refine r_aload_n 37 hZ 0 dX8_place_36 rfl rfl rfl ?_
        refine g_X8_72 40 hZ dX8_place_37 rfl ?_
        refine r_if_gt 66 43 hZ dX8_place_40 (by decide) rfl (fun c_40 => ?_) (fun c_40 => ?_)
        · skip
          refine r_iconst (v := 0) 67 hZ dX8_place_66 rfl (by decide) ?_
          exact hret _ _ _ _ dX8_place_67 rfl rfl
        · skip
          exact absurd c_40 (show ¬ ¬ ((0 : Int32) < (2 : Int32)) by decide)
      · skip
        exact (hn ⟨bI_n0.mp c_17, bI_n0.mp c_25⟩).elim
  · skip
    exact (b0a h c_6).elim
set_option maxHeartbeats 4000000 in
set_option maxRecDepth 100000 in
theorem c_X8_place_0 (l : Launch) (g : va_G) (y : Nat → ClassId) (ad : Nat → Nat) (τ : Nat → Nat → Int32) (ρ : Nat → Nat → Int64) {N : Nat} (hN : τ 0 1 = nI N) (hN2 : N ≤ 38) (x : Int32) (X Y : Int64) (h : okL x N ∧ τ 1 (ix x) = 2) (hX : nrP X) (hY : nrP Y) (he : ρ 1 (ix x) = X ∧ ρ 2 (ix x) = Y) : w_C l g y yX8_place cX8_place 6 (some .boolean) 5 [.ref (ad 0), .int x, .long X, .long Y] (rw ad y τ ρ) (some (.int 0)) (rw ad y (up τ 0 0 0) ρ) := by
  refine w_ofI (lv0 := [(0, .ref (ad 0)), (1, .int x), (2, .long X), (4, .long Y)]) (by decide +kernel) (Nat.le_of_ble_eq_true rfl) rfl (rfl) ?_
  intro Z hZ hret
  refine r_aload_n 1 hZ 0 dX8_place_0 rfl rfl rfl ?_
  refine r_aload_n 2 hZ 0 dX8_place_1 rfl rfl rfl ?_
  refine r_iload_n 3 hZ 1 dX8_place_2 rfl rfl rfl ?_
  refine r_callVI (c_X8_isOld l g y ad τ ρ x hN hN2) wM_X8_isOld wL_X8_125 hZ rfl ⟨by decide, by decide⟩ 0 8 rfl rfl rfl rfl dX8_place_3 ?_
  refine r_if_ne 13 9 hZ dX8_place_6 (by decide) rfl (fun c_6 => ?_) (fun c_6 => ?_)
  · skip
    refine r_lload_n 14 hZ 2 dX8_place_13 rfl rfl rfl ?_
    refine r_callSI (c_X8_isNear l g y ad τ ρ X) wM_X8_isNear wL_X8_132 hZ rfl ⟨by decide, by decide⟩ rfl rfl dX8_place_14 ?_
    refine r_if_eq 32 20 hZ dX8_place_17 (by decide) rfl (fun c_17 => ?_) (fun c_17 => ?_)
    · skip
      exact (b0a hX c_17).elim
    · skip
      refine r_lload 22 hZ 3 dX8_place_20 rfl rfl ?_
      refine r_callSI (c_X8_isNear l g y ad τ ρ Y) wM_X8_isNear wL_X8_132 hZ rfl ⟨by decide, by decide⟩ rfl rfl dX8_place_22 ?_
      refine r_if_eq 32 28 hZ dX8_place_25 (by decide) rfl (fun c_25 => ?_) (fun c_25 => ?_)
      · skip
        exact (b0a hY c_25).elim
      · skip
        refine r_iconst (v := 0) 29 hZ dX8_place_28 rfl (by decide) ?_
        refine r_goto 33 hZ dX8_place_29 (by decide) ?_
        refine p_X8_72 36 hZ dX8_place_33 rfl ?_
        refine r_aload_n 37 hZ 0 dX8_place_36 rfl rfl rfl ?_
        refine g_X8_72 40 hZ dX8_place_37 rfl ?_
        refine r_if_gt 66 43 hZ dX8_place_40 (by decide) rfl (fun c_40 => ?_) (fun c_40 => ?_)
        · skip
          exact absurd c_40 (show ¬ ((0 : Int32) < (0 : Int32)) by decide)
        · skip
          refine r_aload_n 44 hZ 0 dX8_place_43 rfl rfl rfl ?_
          refine g_X8_26 47 hZ dX8_place_44 rfl ?_
          refine r_iload_n 48 hZ 1 dX8_place_47 rfl rfl rfl ?_
          refine a_r16 49 hZ (okL_in (okL_mono h.1 (show N ≤ 40 by omega)) (by decide)) dX8_place_48 rfl ?_
          refine r_lload_n 50 hZ 2 dX8_place_49 rfl rfl rfl ?_
          refine r_lcmp 51 hZ dX8_place_50 rfl ?_
          refine r_if_ne 68 54 hZ dX8_place_51 (by decide) rfl (fun c_51 => ?_) (fun c_51 => ?_)
          · skip
            exact absurd (lcz.mpr he.1) c_51
          · skip
            refine r_aload_n 55 hZ 0 dX8_place_54 rfl rfl rfl ?_
            refine g_X8_30 58 hZ dX8_place_55 rfl ?_
            refine r_iload_n 59 hZ 1 dX8_place_58 rfl rfl rfl ?_
            refine a_r17 60 hZ (okL_in (okL_mono h.1 (show N ≤ 40 by omega)) (by decide)) dX8_place_59 rfl ?_
            refine r_lload 62 hZ 3 dX8_place_60 rfl rfl ?_
            refine r_lcmp 63 hZ dX8_place_62 rfl ?_
            refine r_if_ne 68 66 hZ dX8_place_63 (by decide) rfl (fun c_63 => ?_) (fun c_63 => ?_)
            · skip
              exact absurd (lcz.mpr he.2) c_63
            · skip
              refine r_iconst (v := 0) 67 hZ dX8_place_66 rfl (by decide) ?_
              exact hret _ _ _ _ dX8_place_67 rfl rfl
  · skip
    exact (b0a h c_6).elim
set_option maxHeartbeats 4000000 in
set_option maxRecDepth 100000 in
theorem c_X8_place_3 (l : Launch) (g : va_G) (y : Nat → ClassId) (ad : Nat → Nat) (τ : Nat → Nat → Int32) (ρ : Nat → Nat → Int64) {N : Nat} (hN : τ 0 1 = nI N) (hN2 : N ≤ 38) (x : Int32) (X Y : Int64) (h : okL x N ∧ τ 1 (ix x) = 2) (hX : nrP X) (hY : nrP Y) (he : ¬ (ρ 1 (ix x) = X ∧ ρ 2 (ix x) = Y)) : w_C l g y yX8_place cX8_place 6 (some .boolean) 5 [.ref (ad 0), .int x, .long X, .long Y] (rw ad y τ ρ) (some (.int 1)) (rw ad y (up (up τ 0 0 0) 0 7 0) (upL (upL ρ 1 (ix x) X) 2 (ix x) Y)) := by
  refine w_ofI (lv0 := [(0, .ref (ad 0)), (1, .int x), (2, .long X), (4, .long Y)]) (by decide +kernel) (Nat.le_of_ble_eq_true rfl) rfl (rfl) ?_
  intro Z hZ hret
  refine r_aload_n 1 hZ 0 dX8_place_0 rfl rfl rfl ?_
  refine r_aload_n 2 hZ 0 dX8_place_1 rfl rfl rfl ?_
  refine r_iload_n 3 hZ 1 dX8_place_2 rfl rfl rfl ?_
  refine r_callVI (c_X8_isOld l g y ad τ ρ x hN hN2) wM_X8_isOld wL_X8_125 hZ rfl ⟨by decide, by decide⟩ 0 8 rfl rfl rfl rfl dX8_place_3 ?_
  refine r_if_ne 13 9 hZ dX8_place_6 (by decide) rfl (fun c_6 => ?_) (fun c_6 => ?_)
  · skip
    refine r_lload_n 14 hZ 2 dX8_place_13 rfl rfl rfl ?_
    refine r_callSI (c_X8_isNear l g y ad τ ρ X) wM_X8_isNear wL_X8_132 hZ rfl ⟨by decide, by decide⟩ rfl rfl dX8_place_14 ?_
    refine r_if_eq 32 20 hZ dX8_place_17 (by decide) rfl (fun c_17 => ?_) (fun c_17 => ?_)
    · skip
      exact (b0a hX c_17).elim
    · skip
      refine r_lload 22 hZ 3 dX8_place_20 rfl rfl ?_
      refine r_callSI (c_X8_isNear l g y ad τ ρ Y) wM_X8_isNear wL_X8_132 hZ rfl ⟨by decide, by decide⟩ rfl rfl dX8_place_22 ?_
      refine r_if_eq 32 28 hZ dX8_place_25 (by decide) rfl (fun c_25 => ?_) (fun c_25 => ?_)
      · skip
        exact (b0a hY c_25).elim
      · skip
        refine r_iconst (v := 0) 29 hZ dX8_place_28 rfl (by decide) ?_
        refine r_goto 33 hZ dX8_place_29 (by decide) ?_
        refine p_X8_72 36 hZ dX8_place_33 rfl ?_
        refine r_aload_n 37 hZ 0 dX8_place_36 rfl rfl rfl ?_
        refine g_X8_72 40 hZ dX8_place_37 rfl ?_
        refine r_if_gt 66 43 hZ dX8_place_40 (by decide) rfl (fun c_40 => ?_) (fun c_40 => ?_)
        · skip
          exact absurd c_40 (show ¬ ((0 : Int32) < (0 : Int32)) by decide)
        · skip
          refine r_aload_n 44 hZ 0 dX8_place_43 rfl rfl rfl ?_
          refine g_X8_26 47 hZ dX8_place_44 rfl ?_
          refine r_iload_n 48 hZ 1 dX8_place_47 rfl rfl rfl ?_
          refine a_r16 49 hZ (okL_in (okL_mono h.1 (show N ≤ 40 by omega)) (by decide)) dX8_place_48 rfl ?_
          refine r_lload_n 50 hZ 2 dX8_place_49 rfl rfl rfl ?_
          refine r_lcmp 51 hZ dX8_place_50 rfl ?_
          refine r_if_ne 68 54 hZ dX8_place_51 (by decide) rfl (fun c_51 => ?_) (fun c_51 => ?_)
          · skip
            refine r_aload_n 69 hZ 0 dX8_place_68 rfl rfl rfl ?_
            refine g_X8_26 72 hZ dX8_place_69 rfl ?_
            refine r_iload_n 73 hZ 1 dX8_place_72 rfl rfl rfl ?_
            refine r_lload_n 74 hZ 2 dX8_place_73 rfl rfl rfl ?_
            refine s_r16 75 hZ (okL_in (okL_mono h.1 (show N ≤ 40 by omega)) (by decide)) dX8_place_74 rfl ?_
            refine r_aload_n 76 hZ 0 dX8_place_75 rfl rfl rfl ?_
            refine g_X8_30 79 hZ dX8_place_76 rfl ?_
            refine r_iload_n 80 hZ 1 dX8_place_79 rfl rfl rfl ?_
            refine r_lload 82 hZ 3 dX8_place_80 rfl rfl ?_
            refine s_r17 83 hZ (okL_in (okL_mono h.1 (show N ≤ 40 by omega)) (by decide)) dX8_place_82 rfl ?_
            refine r_aload_n 84 hZ 0 dX8_place_83 rfl rfl rfl ?_
            refine r_iconst (v := 0) 85 hZ dX8_place_84 rfl (by decide) ?_
            refine p_X8_98 88 hZ (by first | exact Or.inl rfl | exact Or.inr rfl | exact bI_01 _) dX8_place_85 rfl ?_
            refine r_iconst (v := 1) 89 hZ dX8_place_88 rfl (by decide) ?_
            exact hret _ _ _ _ dX8_place_89 rfl rfl
          · skip
            refine r_aload_n 55 hZ 0 dX8_place_54 rfl rfl rfl ?_
            refine g_X8_30 58 hZ dX8_place_55 rfl ?_
            refine r_iload_n 59 hZ 1 dX8_place_58 rfl rfl rfl ?_
            refine a_r17 60 hZ (okL_in (okL_mono h.1 (show N ≤ 40 by omega)) (by decide)) dX8_place_59 rfl ?_
            refine r_lload 62 hZ 3 dX8_place_60 rfl rfl ?_
            refine r_lcmp 63 hZ dX8_place_62 rfl ?_
            refine r_if_ne 68 66 hZ dX8_place_63 (by decide) rfl (fun c_63 => ?_) (fun c_63 => ?_)
            · skip
              refine r_aload_n 69 hZ 0 dX8_place_68 rfl rfl rfl ?_
              refine g_X8_26 72 hZ dX8_place_69 rfl ?_
              refine r_iload_n 73 hZ 1 dX8_place_72 rfl rfl rfl ?_
              refine r_lload_n 74 hZ 2 dX8_place_73 rfl rfl rfl ?_
              refine s_r16 75 hZ (okL_in (okL_mono h.1 (show N ≤ 40 by omega)) (by decide)) dX8_place_74 rfl ?_
              refine r_aload_n 76 hZ 0 dX8_place_75 rfl rfl rfl ?_
              refine g_X8_30 79 hZ dX8_place_76 rfl ?_
              refine r_iload_n 80 hZ 1 dX8_place_79 rfl rfl rfl ?_
              refine r_lload 82 hZ 3 dX8_place_80 rfl rfl ?_
              refine s_r17 83 hZ (okL_in (okL_mono h.1 (show N ≤ 40 by omega)) (by decide)) dX8_place_82 rfl ?_
              refine r_aload_n 84 hZ 0 dX8_place_83 rfl rfl rfl ?_
              refine r_iconst (v := 0) 85 hZ dX8_place_84 rfl (by decide) ?_
              refine p_X8_98 88 hZ (by first | exact Or.inl rfl | exact Or.inr rfl | exact bI_01 _) dX8_place_85 rfl ?_
              refine r_iconst (v := 1) 89 hZ dX8_place_88 rfl (by decide) ?_
              exact hret _ _ _ _ dX8_place_89 rfl rfl
            · skip
              exact (he ⟨lcz.mp c_51, lcz.mp c_63⟩).elim
  · skip
    exact (b0a h c_6).elim
set_option maxHeartbeats 4000000 in
set_option maxRecDepth 100000 in
theorem c_X8_spare_1 (l : Launch) (g : va_G) (y : Nat → ClassId) (ad : Nat → Nat) (τ : Nat → Nat → Int32) (ρ : Nat → Nat → Int64) {S : Nat} (hS : τ 0 6 = nI S) (hS2 : S ≤ 6) (X Y : Int64) (h : S = 6) : w_C l g y yX8_spare cX8_spare 5 (some .int) 5 [.ref (ad 0), .long X, .long Y] (rw ad y τ ρ) (some (.int 0)) (rw ad y (up τ 0 0 1) ρ) := by
  refine w_ofI (lv0 := [(0, .ref (ad 0)), (1, .long X), (3, .long Y)]) (by decide +kernel) (Nat.le_of_ble_eq_true rfl) rfl (rfl) ?_
  intro Z hZ hret
  refine r_aload_n 1 hZ 0 dX8_spare_0 rfl rfl rfl ?_
  refine r_aload_n 2 hZ 0 dX8_spare_1 rfl rfl rfl ?_
  refine g_X8_136 5 hZ dX8_spare_2 rfl ?_
  refine w_eqI (hS) ?_
  refine r_bipush (v := 6) 7 hZ dX8_spare_5 rfl (by decide) ?_
  refine r_icmp_ne 14 10 hZ dX8_spare_7 (by decide) rfl (fun c_7 => ?_) (fun c_7 => ?_)
  · skip
    exact absurd (by rw [h]; rfl) c_7
  · skip
    refine r_iconst (v := 1) 11 hZ dX8_spare_10 rfl (by decide) ?_
    refine r_goto 33 hZ dX8_spare_11 (by decide) ?_
    refine p_X8_72 36 hZ dX8_spare_33 rfl ?_
    refine r_aload_n 37 hZ 0 dX8_spare_36 rfl rfl rfl ?_
    refine g_X8_72 40 hZ dX8_spare_37 rfl ?_
    refine r_if_le 45 43 hZ dX8_spare_40 (by decide) rfl (fun c_40 => ?_) (fun c_40 => ?_)
    · skip
      exact absurd c_40 (show ¬ ((1 : Int32) ≤ (0 : Int32)) by decide)
    · skip
      refine r_iconst (v := 0) 44 hZ dX8_spare_43 rfl (by decide) ?_
      exact hret _ _ _ _ dX8_spare_44 rfl rfl
set_option maxHeartbeats 4000000 in
set_option maxRecDepth 100000 in
theorem c_X8_spare_2 (l : Launch) (g : va_G) (y : Nat → ClassId) (ad : Nat → Nat) (τ : Nat → Nat → Int32) (ρ : Nat → Nat → Int64) {S : Nat} (hS : τ 0 6 = nI S) (hS2 : S ≤ 6) (X Y : Int64) (h : S < 6) (hn : ¬ (nrP X ∧ nrP Y)) : w_C l g y yX8_spare cX8_spare 5 (some .int) 5 [.ref (ad 0), .long X, .long Y] (rw ad y τ ρ) (some (.int 0)) (rw ad y (up τ 0 0 2) ρ) := by
  refine w_ofI (lv0 := [(0, .ref (ad 0)), (1, .long X), (3, .long Y)]) (by decide +kernel) (Nat.le_of_ble_eq_true rfl) rfl (rfl) ?_
  intro Z hZ hret
  refine r_aload_n 1 hZ 0 dX8_spare_0 rfl rfl rfl ?_
  refine r_aload_n 2 hZ 0 dX8_spare_1 rfl rfl rfl ?_
  refine g_X8_136 5 hZ dX8_spare_2 rfl ?_
  refine w_eqI (hS) ?_
  refine r_bipush (v := 6) 7 hZ dX8_spare_5 rfl (by decide) ?_
  refine r_icmp_ne 14 10 hZ dX8_spare_7 (by decide) rfl (fun c_7 => ?_) (fun c_7 => ?_)
  · skip
    refine r_lload_n 15 hZ 1 dX8_spare_14 rfl rfl rfl ?_
    refine r_callSI (c_X8_isNear l g y ad τ ρ X) wM_X8_isNear wL_X8_132 hZ rfl ⟨by decide, by decide⟩ rfl rfl dX8_spare_15 ?_
    refine r_if_eq 32 21 hZ dX8_spare_18 (by decide) rfl (fun c_18 => ?_) (fun c_18 => ?_)
    · skip
      refine r_iconst (v := 2) 33 hZ dX8_spare_32 rfl (by decide) ?_
      refine p_X8_72 36 hZ dX8_spare_33 rfl ?_
      refine r_aload_n 37 hZ 0 dX8_spare_36 rfl rfl rfl ?_
      refine g_X8_72 40 hZ dX8_spare_37 rfl ?_
      refine r_if_le 45 43 hZ dX8_spare_40 (by decide) rfl (fun c_40 => ?_) (fun c_40 => ?_)
      · skip
        exact absurd c_40 (show ¬ ((2 : Int32) ≤ (0 : Int32)) by decide)
      · skip
        refine r_iconst (v := 0) 44 hZ dX8_spare_43 rfl (by decide) ?_
        exact hret _ _ _ _ dX8_spare_44 rfl rfl
    · skip
      refine r_lload_n 22 hZ 2 dX8_spare_21 rfl rfl rfl ?_
      refine r_callSI (c_X8_isNear l g y ad τ ρ Y) wM_X8_isNear wL_X8_132 hZ rfl ⟨by decide, by decide⟩ rfl rfl dX8_spare_22 ?_
      refine r_if_eq 32 28 hZ dX8_spare_25 (by decide) rfl (fun c_25 => ?_) (fun c_25 => ?_)
      · skip
        refine r_iconst (v := 2) 33 hZ dX8_spare_32 rfl (by decide) ?_
        refine p_X8_72 36 hZ dX8_spare_33 rfl ?_
        refine r_aload_n 37 hZ 0 dX8_spare_36 rfl rfl rfl ?_
        refine g_X8_72 40 hZ dX8_spare_37 rfl ?_
        refine r_if_le 45 43 hZ dX8_spare_40 (by decide) rfl (fun c_40 => ?_) (fun c_40 => ?_)
        · skip
          exact absurd c_40 (show ¬ ((2 : Int32) ≤ (0 : Int32)) by decide)
        · skip
          refine r_iconst (v := 0) 44 hZ dX8_spare_43 rfl (by decide) ?_
          exact hret _ _ _ _ dX8_spare_44 rfl rfl
      · skip
        exact (hn ⟨bI_n0.mp c_18, bI_n0.mp c_25⟩).elim
  · skip
    exact absurd (nI_eqq (b := 6) (by omega) (by decide) c_7) (by omega)
set_option maxHeartbeats 4000000 in
set_option maxRecDepth 100000 in
theorem c_X8_spare_0 (l : Launch) (g : va_G) (y : Nat → ClassId) (ad : Nat → Nat) (τ : Nat → Nat → Int32) (ρ : Nat → Nat → Int64) {S : Nat} (hS : τ 0 6 = nI S) (hS2 : S ≤ 6) (X Y : Int64) (h : S < 6) (hX : nrP X) (hY : nrP Y) : w_C l g y yX8_spare cX8_spare 5 (some .int) 5 [.ref (ad 0), .long X, .long Y] (rw ad y τ ρ) (some (.int (nI S))) (rw ad y (up (up (up τ 0 0 0) 0 6 (nI (S + 1))) 0 7 0) (upL (upL ρ 3 S X) 4 S Y)) := by
  refine w_ofI (lv0 := [(0, .ref (ad 0)), (1, .long X), (3, .long Y)]) (by decide +kernel) (Nat.le_of_ble_eq_true rfl) rfl (rfl) ?_
  intro Z hZ hret
  have hc := nI_clamp (n := S) (by omega)
  refine r_aload_n 1 hZ 0 dX8_spare_0 rfl rfl rfl ?_
  refine r_aload_n 2 hZ 0 dX8_spare_1 rfl rfl rfl ?_
  refine g_X8_136 5 hZ dX8_spare_2 rfl ?_
  refine w_eqI (hS) ?_
  refine r_bipush (v := 6) 7 hZ dX8_spare_5 rfl (by decide) ?_
  refine r_icmp_ne 14 10 hZ dX8_spare_7 (by decide) rfl (fun c_7 => ?_) (fun c_7 => ?_)
  · skip
    refine r_lload_n 15 hZ 1 dX8_spare_14 rfl rfl rfl ?_
    refine r_callSI (c_X8_isNear l g y ad τ ρ X) wM_X8_isNear wL_X8_132 hZ rfl ⟨by decide, by decide⟩ rfl rfl dX8_spare_15 ?_
    refine r_if_eq 32 21 hZ dX8_spare_18 (by decide) rfl (fun c_18 => ?_) (fun c_18 => ?_)
    · skip
      exact (b0a hX c_18).elim
    · skip
      refine r_lload_n 22 hZ 2 dX8_spare_21 rfl rfl rfl ?_
      refine r_callSI (c_X8_isNear l g y ad τ ρ Y) wM_X8_isNear wL_X8_132 hZ rfl ⟨by decide, by decide⟩ rfl rfl dX8_spare_22 ?_
      refine r_if_eq 32 28 hZ dX8_spare_25 (by decide) rfl (fun c_25 => ?_) (fun c_25 => ?_)
      · skip
        exact (b0a hY c_25).elim
      · skip
        refine r_iconst (v := 0) 29 hZ dX8_spare_28 rfl (by decide) ?_
        refine r_goto 33 hZ dX8_spare_29 (by decide) ?_
        refine p_X8_72 36 hZ dX8_spare_33 rfl ?_
        refine r_aload_n 37 hZ 0 dX8_spare_36 rfl rfl rfl ?_
        refine g_X8_72 40 hZ dX8_spare_37 rfl ?_
        refine r_if_le 45 43 hZ dX8_spare_40 (by decide) rfl (fun c_40 => ?_) (fun c_40 => ?_)
        · skip
          refine r_aload_n 46 hZ 0 dX8_spare_45 rfl rfl rfl ?_
          refine g_X8_39 49 hZ dX8_spare_46 rfl ?_
          refine r_aload_n 50 hZ 0 dX8_spare_49 rfl rfl rfl ?_
          refine g_X8_136 53 hZ dX8_spare_50 rfl ?_
          refine w_eqI (hS) ?_
          refine r_lload_n 54 hZ 1 dX8_spare_53 rfl rfl rfl ?_
          refine s_r18 55 hZ (by first | assumption | exact vp_in_nI (by omega) (by decide) | (unfold vp_in; decide)) dX8_spare_54 rfl ?_
          rw [hc]
          refine r_aload_n 56 hZ 0 dX8_spare_55 rfl rfl rfl ?_
          refine g_X8_42 59 hZ dX8_spare_56 rfl ?_
          refine r_aload_n 60 hZ 0 dX8_spare_59 rfl rfl rfl ?_
          refine g_X8_136 63 hZ dX8_spare_60 rfl ?_
          refine w_eqI (hS) ?_
          refine r_lload_n 64 hZ 2 dX8_spare_63 rfl rfl rfl ?_
          refine s_r19 65 hZ (by first | assumption | exact vp_in_nI (by omega) (by decide) | (unfold vp_in; decide)) dX8_spare_64 rfl ?_
          rw [hc]
          refine r_aload_n 66 hZ 0 dX8_spare_65 rfl rfl rfl ?_
          refine r_dup 67 hZ dX8_spare_66 rfl rfl ?_
          refine g_X8_136 70 hZ dX8_spare_67 rfl ?_
          refine w_eqI (hS) ?_
          refine r_iconst (v := 1) 71 hZ dX8_spare_70 rfl (by decide) ?_
          refine r_iadd 72 hZ dX8_spare_71 rfl ?_
          rw [nI_1]
          refine p_X8_136 75 hZ dX8_spare_72 rfl ?_
          refine r_aload_n 76 hZ 0 dX8_spare_75 rfl rfl rfl ?_
          refine r_iconst (v := 0) 77 hZ dX8_spare_76 rfl (by decide) ?_
          refine p_X8_98 80 hZ (by first | exact Or.inl rfl | exact Or.inr rfl | exact bI_01 _) dX8_spare_77 rfl ?_
          refine r_aload_n 81 hZ 0 dX8_spare_80 rfl rfl rfl ?_
          refine g_X8_136 84 hZ dX8_spare_81 rfl ?_
          refine r_iconst (v := 1) 85 hZ dX8_spare_84 rfl (by decide) ?_
          refine r_isub 86 hZ dX8_spare_85 rfl ?_
          exact hret _ _ _ _ dX8_spare_86 (show nI (S + 1) - 1 = nI S from nI_pred S) rfl
        · skip
          exact absurd c_40 (show ¬ ¬ ((0 : Int32) ≤ (0 : Int32)) by decide)
  · skip
    exact absurd (nI_eqq (b := 6) (by omega) (by decide) c_7) (by omega)
