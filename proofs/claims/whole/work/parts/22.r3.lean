set_option maxHeartbeats 4000000 in
set_option maxRecDepth 100000 in
theorem c_X8_tryAt_1 (l : Launch) (g : va_G) (y : Nat → ClassId) (ad : Nat → Nat) (τ : Nat → Nat → Int32) (ρ : Nat → Nat → Int64) {N G n : Nat} (hs : Rs τ N G) (hn : n < N) (hold : τ 1 n = 2) : w_C l g y yX8_tryAt cX8_tryAt 8 (some .boolean) 4 [.ref (ad 0), .int (nI n), .int (-1)] (rw ad y τ ρ) (some (.int (bI ((s1R N G n τ).1 = true)))) (rw ad y (s1R N G n τ).2 ρ) := by
  refine w_ofI (lv0 := [(0, .ref (ad 0)), (1, .int (nI n)), (2, .int (-1))]) (by decide +kernel) (Nat.le_of_ble_eq_true rfl) rfl (bI_nar _) ?_
  intro Z hZ hret
  obtain ⟨hN, hG, h38, h4, hw, h6, h7⟩ := id hs
  have hcn := nI_clamp (n := n) (by omega)
  obtain ⟨v1, hv1⟩ : ∃ v, τ 2 n = v := ⟨_, rfl⟩
  obtain ⟨v2, hv2⟩ : ∃ v, τ 3 n = v := ⟨_, rfl⟩
  have kv := hw n hn (Or.inl hold)
  rw [hv1, hv2] at kv
  unfold s1R at hret
  rw [hv1, hv2] at hret
  refine r_aload_n 1 hZ 0 dX8_tryAt_0 rfl rfl rfl ?_
  refine g_X8_13 4 hZ dX8_tryAt_1 rfl ?_
  refine r_iload_n 5 hZ 1 dX8_tryAt_4 rfl rfl rfl ?_
  refine a_r2 6 hZ (by first | assumption | exact vp_in_nI (by omega) (by decide) | (unfold vp_in; decide)) dX8_tryAt_5 rfl ?_
  rw [hcn, hv1]
  refine r_istnN 7 [(0, _), (1, _), (2, _), (3, _)] hZ dX8_tryAt_6 rfl rfl (by decide) rfl rfl ?_
  refine r_aload_n 8 hZ 0 dX8_tryAt_7 rfl rfl rfl ?_
  refine g_X8_16 11 hZ dX8_tryAt_8 rfl ?_
  refine r_iload_n 12 hZ 1 dX8_tryAt_11 rfl rfl rfl ?_
  refine a_r3 13 hZ (by first | assumption | exact vp_in_nI (by omega) (by decide) | (unfold vp_in; decide)) dX8_tryAt_12 rfl ?_
  rw [hcn, hv2]
  refine r_istN (q := 0) 15 [(0, _), (1, _), (2, _), (3, _), (4, _)] hZ dX8_tryAt_13 rfl (by decide) rfl rfl ?_
  refine r_iconst (v := 0) 16 hZ dX8_tryAt_15 rfl (by decide) ?_
  refine r_istN (q := 0) 18 [(0, _), (1, _), (2, _), (3, _), (4, _), (5, _)] hZ dX8_tryAt_16 rfl (by decide) rfl rfl ?_
  refine r_iconst (v := 0) 19 hZ dX8_tryAt_18 rfl (by decide) ?_
  refine r_istN (q := 0) 21 [(0, _), (1, _), (2, _), (3, _), (4, _), (5, _), (6, _)] hZ dX8_tryAt_19 rfl (by decide) rfl rfl ?_
  have lp_21 : ∀ (q : Nat) (a : Nat) (t0 : stT), a ≤ 2 * n → 2 * n + 1 ≤ a + q → Rs t0 N G → Lr τ t0 → s1O N G n 0 (2 * n) τ = s1O N G n a (2 * n - a) t0 → Z 0 0 (rw ad y t0 ρ) 21 [(0, .ref (ad 0)), (1, .int (nI n)), (2, .int (-1)), (3, .int v1), (4, .int v2), (5, .int 0), (6, .int (nI a))] [] := by
    intro q
    induction q with
    | zero => intro a t0 h1 hn_21 ht0 hL0 hg; exact absurd hn_21 (by omega)
    | succ q ih_21 =>
      intro a t0 h1 hn_21 ht0 hL0 hg
      refine r_iload 23 hZ 6 dX8_tryAt_21 rfl rfl ?_
      refine r_iconst (v := 2) 24 hZ dX8_tryAt_23 rfl (by decide) ?_
      refine r_iload_n 25 hZ 1 dX8_tryAt_24 rfl rfl rfl ?_
      refine r_imul 26 hZ dX8_tryAt_25 rfl ?_
      rw [nI_2]
      refine r_icmp_ge 160 29 hZ dX8_tryAt_26 (by decide) rfl (fun c_26 => ?_) (fun c_26 => ?_)
      · skip
        have ha := nI_leq (by omega) (by omega) c_26
        have ha : a = 2 * n := by omega
        subst ha
        rw [hg, show 2 * n - 2 * n = 0 by omega] at hret
        refine r_aload_n 161 hZ 0 dX8_tryAt_160 rfl rfl rfl ?_
        refine g_X8_13 164 hZ dX8_tryAt_161 rfl ?_
        refine r_iload_n 165 hZ 1 dX8_tryAt_164 rfl rfl rfl ?_
        refine r_iload_n 166 hZ 3 dX8_tryAt_165 rfl rfl rfl ?_
        refine s_r2 167 hZ (by first | assumption | exact vp_in_nI (by omega) (by decide) | (unfold vp_in; decide)) dX8_tryAt_166 rfl ?_
        rw [hcn]
        refine r_aload_n 168 hZ 0 dX8_tryAt_167 rfl rfl rfl ?_
        refine g_X8_16 171 hZ dX8_tryAt_168 rfl ?_
        refine r_iload_n 172 hZ 1 dX8_tryAt_171 rfl rfl rfl ?_
        refine r_iload 174 hZ 4 dX8_tryAt_172 rfl rfl ?_
        refine s_r3 175 hZ (by first | assumption | exact vp_in_nI (by omega) (by decide) | (unfold vp_in; decide)) dX8_tryAt_174 rfl ?_
        rw [hcn]
        refine r_aload_n 176 hZ 0 dX8_tryAt_175 rfl rfl rfl ?_
        refine r_iload_n 177 hZ 1 dX8_tryAt_176 rfl rfl rfl ?_
        refine r_callVV (c_X8_workOlds l g y ad _ ρ (b := n) (by first | exact ht0.ed n kv.1 kv.2 | exact hTT.ed n kv.1 kv.2) (by omega)) wM_X8_workOlds wL_X8_142 hZ rfl ⟨by decide, by decide⟩ 0 8 rfl rfl rfl rfl dX8_tryAt_177 ?_
        refine r_iload 182 hZ 5 dX8_tryAt_180 rfl rfl ?_
        exact hret _ _ _ _ dX8_tryAt_182 (by first | exact Eq.symm (bI_t rfl) | exact Eq.symm (bI_f (by show ¬ (false : Bool) = true; decide))) rfl
      · skip
        have ha := nI_nleq (by omega) (by omega) c_26
        have hba : 2 * n - a = (2 * n - (a + 1)) + 1 := by omega
        refine r_iload 31 hZ 5 dX8_tryAt_29 rfl rfl ?_
        refine r_if_ne 160 34 hZ dX8_tryAt_31 (by decide) rfl (fun c_31 => ?_) (fun c_31 => ?_)
        · skip
          exact absurd c_31 (show ¬ (¬ (0 : Int32) = (0 : Int32)) by decide)
        · skip
          refine r_iload 36 hZ 6 dX8_tryAt_34 rfl rfl ?_
          refine r_istN (q := 0) 38 [(0, _), (1, _), (2, _), (3, _), (4, _), (5, _), (6, _), (7, _)] hZ dX8_tryAt_36 rfl (by decide) rfl rfl ?_
          have lp_38 : ∀ (q : Nat) (b : Nat) (t : stT), b ≤ 2 * n → 2 * n + 1 ≤ b + q → a ≤ b → Rs t N G → Lr τ t → s1I N G n a a (2 * n - a) t0 = s1I N G n a b (2 * n - b) t → Z 0 0 (rw ad y t ρ) 38 [(0, .ref (ad 0)), (1, .int (nI n)), (2, .int (-1)), (3, .int v1), (4, .int v2), (5, .int 0), (6, .int (nI a)), (7, .int (nI b))] [] := by
            intro q
            induction q with
            | zero => intro b t h1b hn_38 hab htR hL hgI; exact absurd hn_38 (by omega)
            | succ q ih_38 =>
              intro b t h1b hn_38 hab htR hL hgI
              refine r_iload 40 hZ 7 dX8_tryAt_38 rfl rfl ?_
              refine r_iconst (v := 2) 41 hZ dX8_tryAt_40 rfl (by decide) ?_
              refine r_iload_n 42 hZ 1 dX8_tryAt_41 rfl rfl rfl ?_
              refine r_imul 43 hZ dX8_tryAt_42 rfl ?_
              rw [nI_2]
              refine r_icmp_ge 154 46 hZ dX8_tryAt_43 (by decide) rfl (fun c_43 => ?_) (fun c_43 => ?_)
              · skip
                have hb := nI_leq (by omega) (by omega) c_43
                have hb : b = 2 * n := by omega
                subst hb
                rw [show 2 * n - 2 * n = 0 by omega] at hgI
                refine r_iinc 157 6 1 [(0, _), (1, _), (2, _), (3, _), (4, _), (5, _), (6, _), (7, _)] hZ dX8_tryAt_154 rfl rfl (by decide) (by decide) rfl rfl ?_
                refine r_goto 21 hZ dX8_tryAt_157 (by decide) ?_
                rw [nI_1]
                exact w_take 7 hZ (ih_21 (a + 1) _ (by omega) (by omega) htR hL (by rw [hg, hba, s1O_f (by rw [hgI]; show ¬ (false : Bool) = true; decide), hgI]; rfl))
              · skip
                have hb := nI_nleq (by omega) (by omega) c_43
                have hbc : 2 * n - b = (2 * n - (b + 1)) + 1 := by omega
                refine r_iload 48 hZ 5 dX8_tryAt_46 rfl rfl ?_
                refine r_if_ne 154 51 hZ dX8_tryAt_48 (by decide) rfl (fun c_48 => ?_) (fun c_48 => ?_)
                · skip
                  exact absurd c_48 (show ¬ (¬ (0 : Int32) = (0 : Int32)) by decide)
                · skip
                  refine r_aload_n 52 hZ 0 dX8_tryAt_51 rfl rfl rfl ?_
                  refine r_iload 54 hZ 6 dX8_tryAt_52 rfl rfl ?_
                  refine r_callVI (c_X8_mayBe l g y ad t ρ (okL_nI (n := a) (by omega) (by decide))) wM_X8_mayBe wL_X8_139 hZ rfl ⟨by decide, by decide⟩ 0 8 rfl rfl rfl rfl dX8_tryAt_54 ?_
                  refine r_if_eq 148 60 hZ dX8_tryAt_57 (by decide) rfl (fun c_57 => ?_) (fun c_57 => ?_)
                  · skip
                    refine r_iinc 151 7 1 [(0, _), (1, _), (2, _), (3, _), (4, _), (5, _), (6, _), (7, _)] hZ dX8_tryAt_148 rfl rfl (by decide) (by decide) rfl rfl ?_
                    refine r_goto 38 hZ dX8_tryAt_151 (by decide) ?_
                    rw [nI_1]
                    first | exact ih_38 (b + 1) _ (by omega) (by omega) (by omega) htR hL (by rw [hgI, hbc, s1I_k (fun q => bI_0.mp c_57 (by rw [ix_nI (by omega)]; exact q.1))]) | exact ih_38 (b + 1) _ (by omega) (by omega) (by omega) htR hL (by rw [hgI, hbc, s1I_k (fun q => bI_0.mp c_66 (by rw [ix_nI (by omega)]; exact q.2))]) | exact ih_38 (b + 1) _ (by omega) (by omega) (by omega) ((htR.r23 n (by omega) (by omega)).wo n (N - n)) ((hL.tr (Lr.r23 t n a b)).tr (Lr.wo _ _ _)) (by rw [hgI, hbc, s1I_f hmay (apP_n c_102)])
                  · skip
                    have hma : ¬ t 1 (a / 2) = 3 := by have := bI_n0.mp c_57; rwa [ix_nI (by omega)] at this
                    refine r_aload_n 61 hZ 0 dX8_tryAt_60 rfl rfl rfl ?_
                    refine r_iload 63 hZ 7 dX8_tryAt_61 rfl rfl ?_
                    refine r_callVI (c_X8_mayBe l g y ad t ρ (okL_nI (n := b) (by omega) (by decide))) wM_X8_mayBe wL_X8_139 hZ rfl ⟨by decide, by decide⟩ 0 8 rfl rfl rfl rfl dX8_tryAt_63 ?_
                    refine r_if_ne 72 69 hZ dX8_tryAt_66 (by decide) rfl (fun c_66 => ?_) (fun c_66 => ?_)
                    · skip
                      have hmay : ¬ t 1 (a / 2) = 3 ∧ ¬ t 1 (b / 2) = 3 := ⟨hma, by have := bI_n0.mp c_66; rwa [ix_nI (by omega)] at this⟩
                      refine r_aload_n 73 hZ 0 dX8_tryAt_72 rfl rfl rfl ?_
                      refine g_X8_13 76 hZ dX8_tryAt_73 rfl ?_
                      refine r_iload_n 77 hZ 1 dX8_tryAt_76 rfl rfl rfl ?_
                      refine r_iload 79 hZ 6 dX8_tryAt_77 rfl rfl ?_
                      refine s_r2 80 hZ (by first | assumption | exact vp_in_nI (by omega) (by decide) | (unfold vp_in; decide)) dX8_tryAt_79 rfl ?_
                      rw [hcn]
                      refine r_aload_n 81 hZ 0 dX8_tryAt_80 rfl rfl rfl ?_
                      refine g_X8_16 84 hZ dX8_tryAt_81 rfl ?_
                      refine r_iload_n 85 hZ 1 dX8_tryAt_84 rfl rfl rfl ?_
                      refine r_iload 87 hZ 7 dX8_tryAt_85 rfl rfl ?_
                      refine s_r3 88 hZ (by first | assumption | exact vp_in_nI (by omega) (by decide) | (unfold vp_in; decide)) dX8_tryAt_87 rfl ?_
                      rw [hcn]
                      refine r_aload_n 89 hZ 0 dX8_tryAt_88 rfl rfl rfl ?_
                      refine r_iload_n 90 hZ 1 dX8_tryAt_89 rfl rfl rfl ?_
                      refine r_callVV (c_X8_workOlds l g y ad (r23 t n a b) ρ (b := n) (htR.r23 n (by omega) (by omega)) (by omega)) wM_X8_workOlds wL_X8_142 hZ rfl ⟨by decide, by decide⟩ 0 8 rfl rfl rfl rfl dX8_tryAt_90 ?_
                      refine r_iload_n 94 hZ 2 dX8_tryAt_93 rfl rfl rfl ?_
                      refine r_iconst (v := (-1)) 95 hZ dX8_tryAt_94 rfl (by decide) ?_
                      refine r_icmp_ne 113 98 hZ dX8_tryAt_95 (by decide) rfl (fun c_95 => ?_) (fun c_95 => ?_)
                      · skip
                        exact absurd c_95 (show ¬ (¬ (-1 : Int32) = (-1 : Int32)) by decide)
                      · skip
                        refine r_aload_n 99 hZ 0 dX8_tryAt_98 rfl rfl rfl ?_
                        refine r_callVI (c_X8_apart l g y ad _ ρ ((htR.r23 n (by omega) (by omega)).wo n (N - n))) wM_X8_apart wL_X8_121 hZ rfl ⟨by decide, by decide⟩ 0 8 rfl rfl rfl rfl dX8_tryAt_99 ?_
                        refine r_if_ne 109 105 hZ dX8_tryAt_102 (by decide) rfl (fun c_102 => ?_) (fun c_102 => ?_)
                        · skip
                          refine r_iconst (v := 0) 110 hZ dX8_tryAt_109 rfl (by decide) ?_
                          refine r_goto 118 hZ dX8_tryAt_110 (by decide) ?_
                          refine r_ist (q := 0) 120 5 [(0, _), (1, _), (2, _), (3, _), (4, _), (5, _), (6, _), (7, _)] hZ dX8_tryAt_118 rfl (by decide) rfl rfl ?_
                          refine r_iload 122 hZ 5 dX8_tryAt_120 rfl rfl ?_
                          refine r_if_eq 148 125 hZ dX8_tryAt_122 (by decide) rfl (fun c_122 => ?_) (fun c_122 => ?_)
                          · skip
                            refine r_iinc 151 7 1 [(0, _), (1, _), (2, _), (3, _), (4, _), (5, _), (6, _), (7, _)] hZ dX8_tryAt_148 rfl rfl (by decide) (by decide) rfl rfl ?_
                            refine r_goto 38 hZ dX8_tryAt_151 (by decide) ?_
                            rw [nI_1]
                            first | exact ih_38 (b + 1) _ (by omega) (by omega) (by omega) htR hL (by rw [hgI, hbc, s1I_k (fun q => bI_0.mp c_57 (by rw [ix_nI (by omega)]; exact q.1))]) | exact ih_38 (b + 1) _ (by omega) (by omega) (by omega) htR hL (by rw [hgI, hbc, s1I_k (fun q => bI_0.mp c_66 (by rw [ix_nI (by omega)]; exact q.2))]) | exact ih_38 (b + 1) _ (by omega) (by omega) (by omega) ((htR.r23 n (by omega) (by omega)).wo n (N - n)) ((hL.tr (Lr.r23 t n a b)).tr (Lr.wo _ _ _)) (by rw [hgI, hbc, s1I_f hmay (apP_n c_102)])
                          · skip
                            exact absurd c_122 (show ¬ ¬ ((0 : Int32) = (0 : Int32)) by decide)
                        · skip
                          have hap := apP_0 h4 c_102
                          have hI1 := hgI.trans (by rw [hbc, s1I_t hmay hap])
                          rw [hg, hba, s1O_t (by rw [hI1]), hI1] at hret
                          have hTT := ((htR.r23 n (show a < 80 by omega) (show b < 80 by omega)).wo n (N - n)).pt 0 (nI n) (nI a) (nI b)
                          refine r_iconst (v := 1) 106 hZ dX8_tryAt_105 rfl (by decide) ?_
                          refine r_goto 118 hZ dX8_tryAt_106 (by decide) ?_
                          refine r_ist (q := 0) 120 5 [(0, _), (1, _), (2, _), (3, _), (4, _), (5, _), (6, _), (7, _)] hZ dX8_tryAt_118 rfl (by decide) rfl rfl ?_
                          refine r_iload 122 hZ 5 dX8_tryAt_120 rfl rfl ?_
                          refine r_if_eq 148 125 hZ dX8_tryAt_122 (by decide) rfl (fun c_122 => ?_) (fun c_122 => ?_)
                          · skip
                            exact absurd c_122 (show ¬ ((1 : Int32) = (0 : Int32)) by decide)
                          · skip
                            refine r_aload_n 126 hZ 0 dX8_tryAt_125 rfl rfl rfl ?_
                            refine g_X8_45 129 hZ dX8_tryAt_126 rfl ?_
                            refine r_iconst (v := 0) 130 hZ dX8_tryAt_129 rfl (by decide) ?_
                            refine r_iload_n 131 hZ 1 dX8_tryAt_130 rfl rfl rfl ?_
                            refine s_r8 132 hZ (by first | assumption | exact vp_in_nI (by omega) (by decide) | (unfold vp_in; decide)) dX8_tryAt_131 rfl ?_
                            rw [ix0]
                            refine r_aload_n 133 hZ 0 dX8_tryAt_132 rfl rfl rfl ?_
                            refine g_X8_48 136 hZ dX8_tryAt_133 rfl ?_
                            refine r_iconst (v := 0) 137 hZ dX8_tryAt_136 rfl (by decide) ?_
                            refine r_iload 139 hZ 6 dX8_tryAt_137 rfl rfl ?_
                            refine s_r9 140 hZ (by first | assumption | exact vp_in_nI (by omega) (by decide) | (unfold vp_in; decide)) dX8_tryAt_139 rfl ?_
                            rw [ix0]
                            refine r_aload_n 141 hZ 0 dX8_tryAt_140 rfl rfl rfl ?_
                            refine g_X8_51 144 hZ dX8_tryAt_141 rfl ?_
                            refine r_iconst (v := 0) 145 hZ dX8_tryAt_144 rfl (by decide) ?_
                            refine r_iload 147 hZ 7 dX8_tryAt_145 rfl rfl ?_
                            refine s_r10 148 hZ (by first | assumption | exact vp_in_nI (by omega) (by decide) | (unfold vp_in; decide)) dX8_tryAt_147 rfl ?_
                            rw [ix0]
                            refine r_iinc 151 7 1 [(0, _), (1, _), (2, _), (3, _), (4, _), (5, _), (6, _), (7, _)] hZ dX8_tryAt_148 rfl rfl (by decide) (by decide) rfl rfl ?_
                            refine r_goto 38 hZ dX8_tryAt_151 (by decide) ?_
                            refine r_iload 40 hZ 7 dX8_tryAt_38 rfl rfl ?_
                            refine r_iconst (v := 2) 41 hZ dX8_tryAt_40 rfl (by decide) ?_
                            refine r_iload_n 42 hZ 1 dX8_tryAt_41 rfl rfl rfl ?_
                            refine r_imul 43 hZ dX8_tryAt_42 rfl ?_
                            rw [nI_2]
                            refine r_icmp_ge 154 46 hZ dX8_tryAt_43 (by decide) rfl (fun c_43 => ?_) (fun c_43 => ?_)
                            · skip
                              refine r_iinc 157 6 1 [(0, _), (1, _), (2, _), (3, _), (4, _), (5, _), (6, _), (7, _)] hZ dX8_tryAt_154 rfl rfl (by decide) (by decide) rfl rfl ?_
                              refine r_goto 21 hZ dX8_tryAt_157 (by decide) ?_
                              refine r_iload 23 hZ 6 dX8_tryAt_21 rfl rfl ?_
                              refine r_iconst (v := 2) 24 hZ dX8_tryAt_23 rfl (by decide) ?_
                              refine r_iload_n 25 hZ 1 dX8_tryAt_24 rfl rfl rfl ?_
                              refine r_imul 26 hZ dX8_tryAt_25 rfl ?_
                              rw [nI_2]
                              refine r_icmp_ge 160 29 hZ dX8_tryAt_26 (by decide) rfl (fun c_26 => ?_) (fun c_26 => ?_)
                              · skip
                                refine r_aload_n 161 hZ 0 dX8_tryAt_160 rfl rfl rfl ?_
                                refine g_X8_13 164 hZ dX8_tryAt_161 rfl ?_
                                refine r_iload_n 165 hZ 1 dX8_tryAt_164 rfl rfl rfl ?_
                                refine r_iload_n 166 hZ 3 dX8_tryAt_165 rfl rfl rfl ?_
                                refine s_r2 167 hZ (by first | assumption | exact vp_in_nI (by omega) (by decide) | (unfold vp_in; decide)) dX8_tryAt_166 rfl ?_
                                rw [hcn]
                                refine r_aload_n 168 hZ 0 dX8_tryAt_167 rfl rfl rfl ?_
                                refine g_X8_16 171 hZ dX8_tryAt_168 rfl ?_
                                refine r_iload_n 172 hZ 1 dX8_tryAt_171 rfl rfl rfl ?_
                                refine r_iload 174 hZ 4 dX8_tryAt_172 rfl rfl ?_
                                refine s_r3 175 hZ (by first | assumption | exact vp_in_nI (by omega) (by decide) | (unfold vp_in; decide)) dX8_tryAt_174 rfl ?_
                                rw [hcn]
                                refine r_aload_n 176 hZ 0 dX8_tryAt_175 rfl rfl rfl ?_
                                refine r_iload_n 177 hZ 1 dX8_tryAt_176 rfl rfl rfl ?_
                                refine r_callVV (c_X8_workOlds l g y ad _ ρ (b := n) (by first | exact ht0.ed n kv.1 kv.2 | exact hTT.ed n kv.1 kv.2) (by omega)) wM_X8_workOlds wL_X8_142 hZ rfl ⟨by decide, by decide⟩ 0 8 rfl rfl rfl rfl dX8_tryAt_177 ?_
                                refine r_iload 182 hZ 5 dX8_tryAt_180 rfl rfl ?_
                                exact hret _ _ _ _ dX8_tryAt_182 (by first | exact Eq.symm (bI_t rfl) | exact Eq.symm (bI_f (by show ¬ (false : Bool) = true; decide))) rfl
                              · skip
                                refine r_iload 31 hZ 5 dX8_tryAt_29 rfl rfl ?_
                                refine r_if_ne 160 34 hZ dX8_tryAt_31 (by decide) rfl (fun c_31 => ?_) (fun c_31 => ?_)
                                · skip
                                  refine r_aload_n 161 hZ 0 dX8_tryAt_160 rfl rfl rfl ?_
                                  refine g_X8_13 164 hZ dX8_tryAt_161 rfl ?_
                                  refine r_iload_n 165 hZ 1 dX8_tryAt_164 rfl rfl rfl ?_
                                  refine r_iload_n 166 hZ 3 dX8_tryAt_165 rfl rfl rfl ?_
                                  refine s_r2 167 hZ (by first | assumption | exact vp_in_nI (by omega) (by decide) | (unfold vp_in; decide)) dX8_tryAt_166 rfl ?_
                                  rw [hcn]
                                  refine r_aload_n 168 hZ 0 dX8_tryAt_167 rfl rfl rfl ?_
                                  refine g_X8_16 171 hZ dX8_tryAt_168 rfl ?_
                                  refine r_iload_n 172 hZ 1 dX8_tryAt_171 rfl rfl rfl ?_
                                  refine r_iload 174 hZ 4 dX8_tryAt_172 rfl rfl ?_
                                  refine s_r3 175 hZ (by first | assumption | exact vp_in_nI (by omega) (by decide) | (unfold vp_in; decide)) dX8_tryAt_174 rfl ?_
                                  rw [hcn]
                                  refine r_aload_n 176 hZ 0 dX8_tryAt_175 rfl rfl rfl ?_
                                  refine r_iload_n 177 hZ 1 dX8_tryAt_176 rfl rfl rfl ?_
                                  refine r_callVV (c_X8_workOlds l g y ad _ ρ (b := n) (by first | exact ht0.ed n kv.1 kv.2 | exact hTT.ed n kv.1 kv.2) (by omega)) wM_X8_workOlds wL_X8_142 hZ rfl ⟨by decide, by decide⟩ 0 8 rfl rfl rfl rfl dX8_tryAt_177 ?_
                                  refine r_iload 182 hZ 5 dX8_tryAt_180 rfl rfl ?_
                                  exact hret _ _ _ _ dX8_tryAt_182 (by first | exact Eq.symm (bI_t rfl) | exact Eq.symm (bI_f (by show ¬ (false : Bool) = true; decide))) rfl
                                · skip
                                  exact absurd c_31 (show ¬ ((1 : Int32) = (0 : Int32)) by decide)
                            · skip
                              refine r_iload 48 hZ 5 dX8_tryAt_46 rfl rfl ?_
                              refine r_if_ne 154 51 hZ dX8_tryAt_48 (by decide) rfl (fun c_48 => ?_) (fun c_48 => ?_)
                              · skip
                                refine r_iinc 157 6 1 [(0, _), (1, _), (2, _), (3, _), (4, _), (5, _), (6, _), (7, _)] hZ dX8_tryAt_154 rfl rfl (by decide) (by decide) rfl rfl ?_
                                refine r_goto 21 hZ dX8_tryAt_157 (by decide) ?_
                                refine r_iload 23 hZ 6 dX8_tryAt_21 rfl rfl ?_
                                refine r_iconst (v := 2) 24 hZ dX8_tryAt_23 rfl (by decide) ?_
                                refine r_iload_n 25 hZ 1 dX8_tryAt_24 rfl rfl rfl ?_
                                refine r_imul 26 hZ dX8_tryAt_25 rfl ?_
                                rw [nI_2]
                                refine r_icmp_ge 160 29 hZ dX8_tryAt_26 (by decide) rfl (fun c_26 => ?_) (fun c_26 => ?_)
                                · skip
                                  refine r_aload_n 161 hZ 0 dX8_tryAt_160 rfl rfl rfl ?_
                                  refine g_X8_13 164 hZ dX8_tryAt_161 rfl ?_
                                  refine r_iload_n 165 hZ 1 dX8_tryAt_164 rfl rfl rfl ?_
                                  refine r_iload_n 166 hZ 3 dX8_tryAt_165 rfl rfl rfl ?_
                                  refine s_r2 167 hZ (by first | assumption | exact vp_in_nI (by omega) (by decide) | (unfold vp_in; decide)) dX8_tryAt_166 rfl ?_
                                  rw [hcn]
                                  refine r_aload_n 168 hZ 0 dX8_tryAt_167 rfl rfl rfl ?_
                                  refine g_X8_16 171 hZ dX8_tryAt_168 rfl ?_
                                  refine r_iload_n 172 hZ 1 dX8_tryAt_171 rfl rfl rfl ?_
                                  refine r_iload 174 hZ 4 dX8_tryAt_172 rfl rfl ?_
                                  refine s_r3 175 hZ (by first | assumption | exact vp_in_nI (by omega) (by decide) | (unfold vp_in; decide)) dX8_tryAt_174 rfl ?_
                                  rw [hcn]
                                  refine r_aload_n 176 hZ 0 dX8_tryAt_175 rfl rfl rfl ?_
                                  refine r_iload_n 177 hZ 1 dX8_tryAt_176 rfl rfl rfl ?_
                                  refine r_callVV (c_X8_workOlds l g y ad _ ρ (b := n) (by first | exact ht0.ed n kv.1 kv.2 | exact hTT.ed n kv.1 kv.2) (by omega)) wM_X8_workOlds wL_X8_142 hZ rfl ⟨by decide, by decide⟩ 0 8 rfl rfl rfl rfl dX8_tryAt_177 ?_
                                  refine r_iload 182 hZ 5 dX8_tryAt_180 rfl rfl ?_
                                  exact hret _ _ _ _ dX8_tryAt_182 (by first | exact Eq.symm (bI_t rfl) | exact Eq.symm (bI_f (by show ¬ (false : Bool) = true; decide))) rfl
                                · skip
                                  refine r_iload 31 hZ 5 dX8_tryAt_29 rfl rfl ?_
                                  refine r_if_ne 160 34 hZ dX8_tryAt_31 (by decide) rfl (fun c_31 => ?_) (fun c_31 => ?_)
                                  · skip
                                    refine r_aload_n 161 hZ 0 dX8_tryAt_160 rfl rfl rfl ?_
                                    refine g_X8_13 164 hZ dX8_tryAt_161 rfl ?_
                                    refine r_iload_n 165 hZ 1 dX8_tryAt_164 rfl rfl rfl ?_
                                    refine r_iload_n 166 hZ 3 dX8_tryAt_165 rfl rfl rfl ?_
                                    refine s_r2 167 hZ (by first | assumption | exact vp_in_nI (by omega) (by decide) | (unfold vp_in; decide)) dX8_tryAt_166 rfl ?_
                                    rw [hcn]
                                    refine r_aload_n 168 hZ 0 dX8_tryAt_167 rfl rfl rfl ?_
                                    refine g_X8_16 171 hZ dX8_tryAt_168 rfl ?_
                                    refine r_iload_n 172 hZ 1 dX8_tryAt_171 rfl rfl rfl ?_
                                    refine r_iload 174 hZ 4 dX8_tryAt_172 rfl rfl ?_
                                    refine s_r3 175 hZ (by first | assumption | exact vp_in_nI (by omega) (by decide) | (unfold vp_in; decide)) dX8_tryAt_174 rfl ?_
                                    rw [hcn]
                                    refine r_aload_n 176 hZ 0 dX8_tryAt_175 rfl rfl rfl ?_
                                    refine r_iload_n 177 hZ 1 dX8_tryAt_176 rfl rfl rfl ?_
                                    refine r_callVV (c_X8_workOlds l g y ad _ ρ (b := n) (by first | exact ht0.ed n kv.1 kv.2 | exact hTT.ed n kv.1 kv.2) (by omega)) wM_X8_workOlds wL_X8_142 hZ rfl ⟨by decide, by decide⟩ 0 8 rfl rfl rfl rfl dX8_tryAt_177 ?_
                                    refine r_iload 182 hZ 5 dX8_tryAt_180 rfl rfl ?_
                                    exact hret _ _ _ _ dX8_tryAt_182 (by first | exact Eq.symm (bI_t rfl) | exact Eq.symm (bI_f (by show ¬ (false : Bool) = true; decide))) rfl
                                  · skip
                                    exact absurd c_31 (show ¬ ((1 : Int32) = (0 : Int32)) by decide)
                              · skip
                                exact absurd c_48 (show ¬ ((1 : Int32) = (0 : Int32)) by decide)
                    · skip
                      refine r_goto 148 hZ dX8_tryAt_69 (by decide) ?_
                      refine r_iinc 151 7 1 [(0, _), (1, _), (2, _), (3, _), (4, _), (5, _), (6, _), (7, _)] hZ dX8_tryAt_148 rfl rfl (by decide) (by decide) rfl rfl ?_
                      refine r_goto 38 hZ dX8_tryAt_151 (by decide) ?_
                      rw [nI_1]
                      first | exact ih_38 (b + 1) _ (by omega) (by omega) (by omega) htR hL (by rw [hgI, hbc, s1I_k (fun q => bI_0.mp c_57 (by rw [ix_nI (by omega)]; exact q.1))]) | exact ih_38 (b + 1) _ (by omega) (by omega) (by omega) htR hL (by rw [hgI, hbc, s1I_k (fun q => bI_0.mp c_66 (by rw [ix_nI (by omega)]; exact q.2))]) | exact ih_38 (b + 1) _ (by omega) (by omega) (by omega) ((htR.r23 n (by omega) (by omega)).wo n (N - n)) ((hL.tr (Lr.r23 t n a b)).tr (Lr.wo _ _ _)) (by rw [hgI, hbc, s1I_f hmay (apP_n c_102)])
          exact lp_38 (2 * n + 1) a t0 (by omega) (by omega) (by omega) ht0 hL0 rfl
  exact lp_21 (2 * n + 1) 0 τ (by omega) (by omega) hs (Lr.rf τ) rfl
set_option maxHeartbeats 4000000 in
set_option maxRecDepth 100000 in
theorem c_X8_tryAt_2 (l : Launch) (g : va_G) (y : Nat → ClassId) (ad : Nat → Nat) (τ : Nat → Nat → Int32) (ρ : Nat → Nat → Int64) {N G n m : Nat} (hs : Rs τ N G) (hn : n < N) (hold : τ 1 n = 2) (hm : m < N) (holdm : τ 1 m = 2) : w_C l g y yX8_tryAt cX8_tryAt 8 (some .boolean) 4 [.ref (ad 0), .int (nI n), .int (nI m)] (rw ad y τ ρ) (some (.int (bI ((s3R N G n m τ).1 = true)))) (rw ad y (s3R N G n m τ).2 ρ) := by
  refine w_ofI (lv0 := [(0, .ref (ad 0)), (1, .int (nI n)), (2, .int (nI m))]) (by decide +kernel) (Nat.le_of_ble_eq_true rfl) rfl (bI_nar _) ?_
  intro Z hZ hret
  obtain ⟨hN, hG, h38, h4, hw, h6, h7⟩ := id hs
  have hcn := nI_clamp (n := n) (by omega)
  obtain ⟨v1, hv1⟩ : ∃ v, τ 2 n = v := ⟨_, rfl⟩
  obtain ⟨v2, hv2⟩ : ∃ v, τ 3 n = v := ⟨_, rfl⟩
  have kv := hw n hn (Or.inl hold)
  rw [hv1, hv2] at kv
  unfold s3R at hret
  rw [hv1, hv2] at hret
  have hold2 : ∀ {a b : Nat} (t : stT), Lr τ t → woF (r23 t n a b) n (N - n) 1 m = 2 := fun t hL => (congrFun (((hL.tr (Lr.r23 t n _ _)).tr (Lr.wo _ _ _)) 1 (by decide) (by decide) (by decide) (by decide) (by decide) (by decide)) m).trans holdm
  refine r_aload_n 1 hZ 0 dX8_tryAt_0 rfl rfl rfl ?_
  refine g_X8_13 4 hZ dX8_tryAt_1 rfl ?_
  refine r_iload_n 5 hZ 1 dX8_tryAt_4 rfl rfl rfl ?_
  refine a_r2 6 hZ (by first | assumption | exact vp_in_nI (by omega) (by decide) | (unfold vp_in; decide)) dX8_tryAt_5 rfl ?_
  rw [hcn, hv1]
  refine r_istnN 7 [(0, _), (1, _), (2, _), (3, _)] hZ dX8_tryAt_6 rfl rfl (by decide) rfl rfl ?_
  refine r_aload_n 8 hZ 0 dX8_tryAt_7 rfl rfl rfl ?_
  refine g_X8_16 11 hZ dX8_tryAt_8 rfl ?_
  refine r_iload_n 12 hZ 1 dX8_tryAt_11 rfl rfl rfl ?_
  refine a_r3 13 hZ (by first | assumption | exact vp_in_nI (by omega) (by decide) | (unfold vp_in; decide)) dX8_tryAt_12 rfl ?_
  rw [hcn, hv2]
  refine r_istN (q := 0) 15 [(0, _), (1, _), (2, _), (3, _), (4, _)] hZ dX8_tryAt_13 rfl (by decide) rfl rfl ?_
  refine r_iconst (v := 0) 16 hZ dX8_tryAt_15 rfl (by decide) ?_
  refine r_istN (q := 0) 18 [(0, _), (1, _), (2, _), (3, _), (4, _), (5, _)] hZ dX8_tryAt_16 rfl (by decide) rfl rfl ?_
  refine r_iconst (v := 0) 19 hZ dX8_tryAt_18 rfl (by decide) ?_
  refine r_istN (q := 0) 21 [(0, _), (1, _), (2, _), (3, _), (4, _), (5, _), (6, _)] hZ dX8_tryAt_19 rfl (by decide) rfl rfl ?_
  have lp_21 : ∀ (q : Nat) (a : Nat) (t0 : stT), a ≤ 2 * n → 2 * n + 1 ≤ a + q → Rs t0 N G → Lr τ t0 → s3O N G n m 0 (2 * n) τ = s3O N G n m a (2 * n - a) t0 → Z 0 0 (rw ad y t0 ρ) 21 [(0, .ref (ad 0)), (1, .int (nI n)), (2, .int (nI m)), (3, .int v1), (4, .int v2), (5, .int 0), (6, .int (nI a))] [] := by
    intro q
    induction q with
    | zero => intro a t0 h1 hn_21 ht0 hL0 hg; exact absurd hn_21 (by omega)
    | succ q ih_21 =>
      intro a t0 h1 hn_21 ht0 hL0 hg
      refine r_iload 23 hZ 6 dX8_tryAt_21 rfl rfl ?_
      refine r_iconst (v := 2) 24 hZ dX8_tryAt_23 rfl (by decide) ?_
      refine r_iload_n 25 hZ 1 dX8_tryAt_24 rfl rfl rfl ?_
      refine r_imul 26 hZ dX8_tryAt_25 rfl ?_
      rw [nI_2]
      refine r_icmp_ge 160 29 hZ dX8_tryAt_26 (by decide) rfl (fun c_26 => ?_) (fun c_26 => ?_)
      · skip
        have ha := nI_leq (by omega) (by omega) c_26
        have ha : a = 2 * n := by omega
        subst ha
        rw [hg, show 2 * n - 2 * n = 0 by omega] at hret
        refine r_aload_n 161 hZ 0 dX8_tryAt_160 rfl rfl rfl ?_
        refine g_X8_13 164 hZ dX8_tryAt_161 rfl ?_
        refine r_iload_n 165 hZ 1 dX8_tryAt_164 rfl rfl rfl ?_
        refine r_iload_n 166 hZ 3 dX8_tryAt_165 rfl rfl rfl ?_
        refine s_r2 167 hZ (by first | assumption | exact vp_in_nI (by omega) (by decide) | (unfold vp_in; decide)) dX8_tryAt_166 rfl ?_
        rw [hcn]
        refine r_aload_n 168 hZ 0 dX8_tryAt_167 rfl rfl rfl ?_
        refine g_X8_16 171 hZ dX8_tryAt_168 rfl ?_
        refine r_iload_n 172 hZ 1 dX8_tryAt_171 rfl rfl rfl ?_
        refine r_iload 174 hZ 4 dX8_tryAt_172 rfl rfl ?_
        refine s_r3 175 hZ (by first | assumption | exact vp_in_nI (by omega) (by decide) | (unfold vp_in; decide)) dX8_tryAt_174 rfl ?_
        rw [hcn]
        refine r_aload_n 176 hZ 0 dX8_tryAt_175 rfl rfl rfl ?_
        refine r_iload_n 177 hZ 1 dX8_tryAt_176 rfl rfl rfl ?_
        refine r_callVV (c_X8_workOlds l g y ad _ ρ (b := n) (by first | exact ht0.ed n kv.1 kv.2 | exact hTT.ed n kv.1 kv.2) (by omega)) wM_X8_workOlds wL_X8_142 hZ rfl ⟨by decide, by decide⟩ 0 8 rfl rfl rfl rfl dX8_tryAt_177 ?_
        refine r_iload 182 hZ 5 dX8_tryAt_180 rfl rfl ?_
        exact hret _ _ _ _ dX8_tryAt_182 (by first | exact Eq.symm (bI_t rfl) | exact Eq.symm (bI_f (by show ¬ (false : Bool) = true; decide))) rfl
      · skip
        have ha := nI_nleq (by omega) (by omega) c_26
        have hba : 2 * n - a = (2 * n - (a + 1)) + 1 := by omega
        refine r_iload 31 hZ 5 dX8_tryAt_29 rfl rfl ?_
        refine r_if_ne 160 34 hZ dX8_tryAt_31 (by decide) rfl (fun c_31 => ?_) (fun c_31 => ?_)
        · skip
          exact absurd c_31 (show ¬ (¬ (0 : Int32) = (0 : Int32)) by decide)
        · skip
          refine r_iload 36 hZ 6 dX8_tryAt_34 rfl rfl ?_
          refine r_istN (q := 0) 38 [(0, _), (1, _), (2, _), (3, _), (4, _), (5, _), (6, _), (7, _)] hZ dX8_tryAt_36 rfl (by decide) rfl rfl ?_
          have lp_38 : ∀ (q : Nat) (b : Nat) (t : stT), b ≤ 2 * n → 2 * n + 1 ≤ b + q → a ≤ b → Rs t N G → Lr τ t → s3I N G n m a a (2 * n - a) t0 = s3I N G n m a b (2 * n - b) t → Z 0 0 (rw ad y t ρ) 38 [(0, .ref (ad 0)), (1, .int (nI n)), (2, .int (nI m)), (3, .int v1), (4, .int v2), (5, .int 0), (6, .int (nI a)), (7, .int (nI b))] [] := by
            intro q
            induction q with
            | zero => intro b t h1b hn_38 hab htR hL hgI; exact absurd hn_38 (by omega)
            | succ q ih_38 =>
              intro b t h1b hn_38 hab htR hL hgI
              refine r_iload 40 hZ 7 dX8_tryAt_38 rfl rfl ?_
              refine r_iconst (v := 2) 41 hZ dX8_tryAt_40 rfl (by decide) ?_
              refine r_iload_n 42 hZ 1 dX8_tryAt_41 rfl rfl rfl ?_
              refine r_imul 43 hZ dX8_tryAt_42 rfl ?_
              rw [nI_2]
              refine r_icmp_ge 154 46 hZ dX8_tryAt_43 (by decide) rfl (fun c_43 => ?_) (fun c_43 => ?_)
              · skip
                have hb := nI_leq (by omega) (by omega) c_43
                have hb : b = 2 * n := by omega
                subst hb
                rw [show 2 * n - 2 * n = 0 by omega] at hgI
                refine r_iinc 157 6 1 [(0, _), (1, _), (2, _), (3, _), (4, _), (5, _), (6, _), (7, _)] hZ dX8_tryAt_154 rfl rfl (by decide) (by decide) rfl rfl ?_
                refine r_goto 21 hZ dX8_tryAt_157 (by decide) ?_
                rw [nI_1]
                exact w_take 7 hZ (ih_21 (a + 1) _ (by omega) (by omega) htR hL (by rw [hg, hba, s3O_f (by rw [hgI]; show ¬ (false : Bool) = true; decide), hgI]; rfl))
              · skip
                have hb := nI_nleq (by omega) (by omega) c_43
                have hbc : 2 * n - b = (2 * n - (b + 1)) + 1 := by omega
                refine r_iload 48 hZ 5 dX8_tryAt_46 rfl rfl ?_
                refine r_if_ne 154 51 hZ dX8_tryAt_48 (by decide) rfl (fun c_48 => ?_) (fun c_48 => ?_)
                · skip
                  exact absurd c_48 (show ¬ (¬ (0 : Int32) = (0 : Int32)) by decide)
                · skip
                  refine r_aload_n 52 hZ 0 dX8_tryAt_51 rfl rfl rfl ?_
                  refine r_iload 54 hZ 6 dX8_tryAt_52 rfl rfl ?_
                  refine r_callVI (c_X8_mayBe l g y ad t ρ (okL_nI (n := a) (by omega) (by decide))) wM_X8_mayBe wL_X8_139 hZ rfl ⟨by decide, by decide⟩ 0 8 rfl rfl rfl rfl dX8_tryAt_54 ?_
                  refine r_if_eq 148 60 hZ dX8_tryAt_57 (by decide) rfl (fun c_57 => ?_) (fun c_57 => ?_)
                  · skip
                    refine r_iinc 151 7 1 [(0, _), (1, _), (2, _), (3, _), (4, _), (5, _), (6, _), (7, _)] hZ dX8_tryAt_148 rfl rfl (by decide) (by decide) rfl rfl ?_
                    refine r_goto 38 hZ dX8_tryAt_151 (by decide) ?_
                    rw [nI_1]
                    first | exact ih_38 (b + 1) _ (by omega) (by omega) (by omega) htR hL (by rw [hgI, hbc, s3I_k (fun q => bI_0.mp c_57 (by rw [ix_nI (by omega)]; exact q.1))]) | exact ih_38 (b + 1) _ (by omega) (by omega) (by omega) htR hL (by rw [hgI, hbc, s3I_k (fun q => bI_0.mp c_66 (by rw [ix_nI (by omega)]; exact q.2))]) | exact ih_38 (b + 1) _ (by omega) (by omega) (by omega) (Rs_s2R hm ((htR.r23 n (by omega) (by omega)).wo n (N - n)) (hold2 t hL)).1 (((hL.tr (Lr.r23 t n a b)).tr (Lr.wo _ _ _)).tr (Rs_s2R hm ((htR.r23 n (by omega) (by omega)).wo n (N - n)) (hold2 t hL)).2) (by rw [hgI, hbc, s3I_f hmay (bI_0.mp c_122)])
                  · skip
                    have hma : ¬ t 1 (a / 2) = 3 := by have := bI_n0.mp c_57; rwa [ix_nI (by omega)] at this
                    refine r_aload_n 61 hZ 0 dX8_tryAt_60 rfl rfl rfl ?_
                    refine r_iload 63 hZ 7 dX8_tryAt_61 rfl rfl ?_
                    refine r_callVI (c_X8_mayBe l g y ad t ρ (okL_nI (n := b) (by omega) (by decide))) wM_X8_mayBe wL_X8_139 hZ rfl ⟨by decide, by decide⟩ 0 8 rfl rfl rfl rfl dX8_tryAt_63 ?_
                    refine r_if_ne 72 69 hZ dX8_tryAt_66 (by decide) rfl (fun c_66 => ?_) (fun c_66 => ?_)
                    · skip
                      have hmay : ¬ t 1 (a / 2) = 3 ∧ ¬ t 1 (b / 2) = 3 := ⟨hma, by have := bI_n0.mp c_66; rwa [ix_nI (by omega)] at this⟩
                      refine r_aload_n 73 hZ 0 dX8_tryAt_72 rfl rfl rfl ?_
                      refine g_X8_13 76 hZ dX8_tryAt_73 rfl ?_
                      refine r_iload_n 77 hZ 1 dX8_tryAt_76 rfl rfl rfl ?_
                      refine r_iload 79 hZ 6 dX8_tryAt_77 rfl rfl ?_
                      refine s_r2 80 hZ (by first | assumption | exact vp_in_nI (by omega) (by decide) | (unfold vp_in; decide)) dX8_tryAt_79 rfl ?_
                      rw [hcn]
                      refine r_aload_n 81 hZ 0 dX8_tryAt_80 rfl rfl rfl ?_
                      refine g_X8_16 84 hZ dX8_tryAt_81 rfl ?_
                      refine r_iload_n 85 hZ 1 dX8_tryAt_84 rfl rfl rfl ?_
                      refine r_iload 87 hZ 7 dX8_tryAt_85 rfl rfl ?_
                      refine s_r3 88 hZ (by first | assumption | exact vp_in_nI (by omega) (by decide) | (unfold vp_in; decide)) dX8_tryAt_87 rfl ?_
                      rw [hcn]
                      refine r_aload_n 89 hZ 0 dX8_tryAt_88 rfl rfl rfl ?_
                      refine r_iload_n 90 hZ 1 dX8_tryAt_89 rfl rfl rfl ?_
                      refine r_callVV (c_X8_workOlds l g y ad (r23 t n a b) ρ (b := n) (htR.r23 n (by omega) (by omega)) (by omega)) wM_X8_workOlds wL_X8_142 hZ rfl ⟨by decide, by decide⟩ 0 8 rfl rfl rfl rfl dX8_tryAt_90 ?_
                      refine r_iload_n 94 hZ 2 dX8_tryAt_93 rfl rfl rfl ?_
                      refine r_iconst (v := (-1)) 95 hZ dX8_tryAt_94 rfl (by decide) ?_
                      refine r_icmp_ne 113 98 hZ dX8_tryAt_95 (by decide) rfl (fun c_95 => ?_) (fun c_95 => ?_)
                      · skip
                        refine r_aload_n 114 hZ 0 dX8_tryAt_113 rfl rfl rfl ?_
                        refine r_iload_n 115 hZ 2 dX8_tryAt_114 rfl rfl rfl ?_
                        refine r_callVI (c_X8_trySecond l g y ad (woF (r23 t n a b) n (N - n)) ρ ((htR.r23 n (by omega) (by omega)).wo n (N - n)) hm (hold2 t hL)) wM_X8_trySecond wL_X8_145 hZ rfl ⟨by decide, by decide⟩ 0 8 rfl rfl rfl rfl dX8_tryAt_115 ?_
                        refine r_ist (q := 0) 120 5 [(0, _), (1, _), (2, _), (3, _), (4, _), (5, _), (6, _), (7, _)] hZ dX8_tryAt_118 rfl (by decide) rfl rfl ?_
                        refine r_iload 122 hZ 5 dX8_tryAt_120 rfl rfl ?_
                        refine r_if_eq 148 125 hZ dX8_tryAt_122 (by decide) rfl (fun c_122 => ?_) (fun c_122 => ?_)
                        · skip
                          rw [bI_f (bI_0.mp c_122)]
                          refine r_iinc 151 7 1 [(0, _), (1, _), (2, _), (3, _), (4, _), (5, _), (6, _), (7, _)] hZ dX8_tryAt_148 rfl rfl (by decide) (by decide) rfl rfl ?_
                          refine r_goto 38 hZ dX8_tryAt_151 (by decide) ?_
                          rw [nI_1]
                          first | exact ih_38 (b + 1) _ (by omega) (by omega) (by omega) htR hL (by rw [hgI, hbc, s3I_k (fun q => bI_0.mp c_57 (by rw [ix_nI (by omega)]; exact q.1))]) | exact ih_38 (b + 1) _ (by omega) (by omega) (by omega) htR hL (by rw [hgI, hbc, s3I_k (fun q => bI_0.mp c_66 (by rw [ix_nI (by omega)]; exact q.2))]) | exact ih_38 (b + 1) _ (by omega) (by omega) (by omega) (Rs_s2R hm ((htR.r23 n (by omega) (by omega)).wo n (N - n)) (hold2 t hL)).1 (((hL.tr (Lr.r23 t n a b)).tr (Lr.wo _ _ _)).tr (Rs_s2R hm ((htR.r23 n (by omega) (by omega)).wo n (N - n)) (hold2 t hL)).2) (by rw [hgI, hbc, s3I_f hmay (bI_0.mp c_122)])
                        · skip
                          have hap := bI_n0.mp c_122
                          rw [bI_t hap]
                          have hI1 := hgI.trans (by rw [hbc, s3I_t hmay hap])
                          rw [hg, hba, s3O_t (by rw [hI1]), hI1] at hret
                          have hTT := (Rs_s2R hm ((htR.r23 n (show a < 80 by omega) (show b < 80 by omega)).wo n (N - n)) (hold2 t hL)).1.pt 0 (nI n) (nI a) (nI b)
                          refine r_aload_n 126 hZ 0 dX8_tryAt_125 rfl rfl rfl ?_
                          refine g_X8_45 129 hZ dX8_tryAt_126 rfl ?_
                          refine r_iconst (v := 0) 130 hZ dX8_tryAt_129 rfl (by decide) ?_
                          refine r_iload_n 131 hZ 1 dX8_tryAt_130 rfl rfl rfl ?_
                          refine s_r8 132 hZ (by first | assumption | exact vp_in_nI (by omega) (by decide) | (unfold vp_in; decide)) dX8_tryAt_131 rfl ?_
                          rw [ix0]
                          refine r_aload_n 133 hZ 0 dX8_tryAt_132 rfl rfl rfl ?_
                          refine g_X8_48 136 hZ dX8_tryAt_133 rfl ?_
                          refine r_iconst (v := 0) 137 hZ dX8_tryAt_136 rfl (by decide) ?_
                          refine r_iload 139 hZ 6 dX8_tryAt_137 rfl rfl ?_
                          refine s_r9 140 hZ (by first | assumption | exact vp_in_nI (by omega) (by decide) | (unfold vp_in; decide)) dX8_tryAt_139 rfl ?_
                          rw [ix0]
                          refine r_aload_n 141 hZ 0 dX8_tryAt_140 rfl rfl rfl ?_
                          refine g_X8_51 144 hZ dX8_tryAt_141 rfl ?_
                          refine r_iconst (v := 0) 145 hZ dX8_tryAt_144 rfl (by decide) ?_
                          refine r_iload 147 hZ 7 dX8_tryAt_145 rfl rfl ?_
                          refine s_r10 148 hZ (by first | assumption | exact vp_in_nI (by omega) (by decide) | (unfold vp_in; decide)) dX8_tryAt_147 rfl ?_
                          rw [ix0]
                          refine r_iinc 151 7 1 [(0, _), (1, _), (2, _), (3, _), (4, _), (5, _), (6, _), (7, _)] hZ dX8_tryAt_148 rfl rfl (by decide) (by decide) rfl rfl ?_
                          refine r_goto 38 hZ dX8_tryAt_151 (by decide) ?_
                          refine r_iload 40 hZ 7 dX8_tryAt_38 rfl rfl ?_
                          refine r_iconst (v := 2) 41 hZ dX8_tryAt_40 rfl (by decide) ?_
                          refine r_iload_n 42 hZ 1 dX8_tryAt_41 rfl rfl rfl ?_
                          refine r_imul 43 hZ dX8_tryAt_42 rfl ?_
                          rw [nI_2]
                          refine r_icmp_ge 154 46 hZ dX8_tryAt_43 (by decide) rfl (fun c_43 => ?_) (fun c_43 => ?_)
                          · skip
                            refine r_iinc 157 6 1 [(0, _), (1, _), (2, _), (3, _), (4, _), (5, _), (6, _), (7, _)] hZ dX8_tryAt_154 rfl rfl (by decide) (by decide) rfl rfl ?_
                            refine r_goto 21 hZ dX8_tryAt_157 (by decide) ?_
                            refine r_iload 23 hZ 6 dX8_tryAt_21 rfl rfl ?_
                            refine r_iconst (v := 2) 24 hZ dX8_tryAt_23 rfl (by decide) ?_
                            refine r_iload_n 25 hZ 1 dX8_tryAt_24 rfl rfl rfl ?_
                            refine r_imul 26 hZ dX8_tryAt_25 rfl ?_
                            rw [nI_2]
                            refine r_icmp_ge 160 29 hZ dX8_tryAt_26 (by decide) rfl (fun c_26 => ?_) (fun c_26 => ?_)
                            · skip
                              refine r_aload_n 161 hZ 0 dX8_tryAt_160 rfl rfl rfl ?_
                              refine g_X8_13 164 hZ dX8_tryAt_161 rfl ?_
                              refine r_iload_n 165 hZ 1 dX8_tryAt_164 rfl rfl rfl ?_
                              refine r_iload_n 166 hZ 3 dX8_tryAt_165 rfl rfl rfl ?_
                              refine s_r2 167 hZ (by first | assumption | exact vp_in_nI (by omega) (by decide) | (unfold vp_in; decide)) dX8_tryAt_166 rfl ?_
                              rw [hcn]
                              refine r_aload_n 168 hZ 0 dX8_tryAt_167 rfl rfl rfl ?_
                              refine g_X8_16 171 hZ dX8_tryAt_168 rfl ?_
                              refine r_iload_n 172 hZ 1 dX8_tryAt_171 rfl rfl rfl ?_
                              refine r_iload 174 hZ 4 dX8_tryAt_172 rfl rfl ?_
                              refine s_r3 175 hZ (by first | assumption | exact vp_in_nI (by omega) (by decide) | (unfold vp_in; decide)) dX8_tryAt_174 rfl ?_
                              rw [hcn]
                              refine r_aload_n 176 hZ 0 dX8_tryAt_175 rfl rfl rfl ?_
                              refine r_iload_n 177 hZ 1 dX8_tryAt_176 rfl rfl rfl ?_
                              refine r_callVV (c_X8_workOlds l g y ad _ ρ (b := n) (by first | exact ht0.ed n kv.1 kv.2 | exact hTT.ed n kv.1 kv.2) (by omega)) wM_X8_workOlds wL_X8_142 hZ rfl ⟨by decide, by decide⟩ 0 8 rfl rfl rfl rfl dX8_tryAt_177 ?_
                              refine r_iload 182 hZ 5 dX8_tryAt_180 rfl rfl ?_
                              exact hret _ _ _ _ dX8_tryAt_182 (by first | exact Eq.symm (bI_t rfl) | exact Eq.symm (bI_f (by show ¬ (false : Bool) = true; decide))) rfl
                            · skip
                              refine r_iload 31 hZ 5 dX8_tryAt_29 rfl rfl ?_
                              refine r_if_ne 160 34 hZ dX8_tryAt_31 (by decide) rfl (fun c_31 => ?_) (fun c_31 => ?_)
                              · skip
                                refine r_aload_n 161 hZ 0 dX8_tryAt_160 rfl rfl rfl ?_
                                refine g_X8_13 164 hZ dX8_tryAt_161 rfl ?_
                                refine r_iload_n 165 hZ 1 dX8_tryAt_164 rfl rfl rfl ?_
                                refine r_iload_n 166 hZ 3 dX8_tryAt_165 rfl rfl rfl ?_
                                refine s_r2 167 hZ (by first | assumption | exact vp_in_nI (by omega) (by decide) | (unfold vp_in; decide)) dX8_tryAt_166 rfl ?_
                                rw [hcn]
                                refine r_aload_n 168 hZ 0 dX8_tryAt_167 rfl rfl rfl ?_
                                refine g_X8_16 171 hZ dX8_tryAt_168 rfl ?_
                                refine r_iload_n 172 hZ 1 dX8_tryAt_171 rfl rfl rfl ?_
                                refine r_iload 174 hZ 4 dX8_tryAt_172 rfl rfl ?_
                                refine s_r3 175 hZ (by first | assumption | exact vp_in_nI (by omega) (by decide) | (unfold vp_in; decide)) dX8_tryAt_174 rfl ?_
                                rw [hcn]
                                refine r_aload_n 176 hZ 0 dX8_tryAt_175 rfl rfl rfl ?_
                                refine r_iload_n 177 hZ 1 dX8_tryAt_176 rfl rfl rfl ?_
                                refine r_callVV (c_X8_workOlds l g y ad _ ρ (b := n) (by first | exact ht0.ed n kv.1 kv.2 | exact hTT.ed n kv.1 kv.2) (by omega)) wM_X8_workOlds wL_X8_142 hZ rfl ⟨by decide, by decide⟩ 0 8 rfl rfl rfl rfl dX8_tryAt_177 ?_
                                refine r_iload 182 hZ 5 dX8_tryAt_180 rfl rfl ?_
                                exact hret _ _ _ _ dX8_tryAt_182 (by first | exact Eq.symm (bI_t rfl) | exact Eq.symm (bI_f (by show ¬ (false : Bool) = true; decide))) rfl
                              · skip
                                exact absurd c_31 (show ¬ ((1 : Int32) = (0 : Int32)) by decide)
                          · skip
                            refine r_iload 48 hZ 5 dX8_tryAt_46 rfl rfl ?_
                            refine r_if_ne 154 51 hZ dX8_tryAt_48 (by decide) rfl (fun c_48 => ?_) (fun c_48 => ?_)
                            · skip
                              refine r_iinc 157 6 1 [(0, _), (1, _), (2, _), (3, _), (4, _), (5, _), (6, _), (7, _)] hZ dX8_tryAt_154 rfl rfl (by decide) (by decide) rfl rfl ?_
                              refine r_goto 21 hZ dX8_tryAt_157 (by decide) ?_
                              refine r_iload 23 hZ 6 dX8_tryAt_21 rfl rfl ?_
                              refine r_iconst (v := 2) 24 hZ dX8_tryAt_23 rfl (by decide) ?_
                              refine r_iload_n 25 hZ 1 dX8_tryAt_24 rfl rfl rfl ?_
                              refine r_imul 26 hZ dX8_tryAt_25 rfl ?_
                              rw [nI_2]
                              refine r_icmp_ge 160 29 hZ dX8_tryAt_26 (by decide) rfl (fun c_26 => ?_) (fun c_26 => ?_)
                              · skip
                                refine r_aload_n 161 hZ 0 dX8_tryAt_160 rfl rfl rfl ?_
                                refine g_X8_13 164 hZ dX8_tryAt_161 rfl ?_
                                refine r_iload_n 165 hZ 1 dX8_tryAt_164 rfl rfl rfl ?_
                                refine r_iload_n 166 hZ 3 dX8_tryAt_165 rfl rfl rfl ?_
                                refine s_r2 167 hZ (by first | assumption | exact vp_in_nI (by omega) (by decide) | (unfold vp_in; decide)) dX8_tryAt_166 rfl ?_
                                rw [hcn]
                                refine r_aload_n 168 hZ 0 dX8_tryAt_167 rfl rfl rfl ?_
                                refine g_X8_16 171 hZ dX8_tryAt_168 rfl ?_
                                refine r_iload_n 172 hZ 1 dX8_tryAt_171 rfl rfl rfl ?_
                                refine r_iload 174 hZ 4 dX8_tryAt_172 rfl rfl ?_
                                refine s_r3 175 hZ (by first | assumption | exact vp_in_nI (by omega) (by decide) | (unfold vp_in; decide)) dX8_tryAt_174 rfl ?_
                                rw [hcn]
                                refine r_aload_n 176 hZ 0 dX8_tryAt_175 rfl rfl rfl ?_
                                refine r_iload_n 177 hZ 1 dX8_tryAt_176 rfl rfl rfl ?_
                                refine r_callVV (c_X8_workOlds l g y ad _ ρ (b := n) (by first | exact ht0.ed n kv.1 kv.2 | exact hTT.ed n kv.1 kv.2) (by omega)) wM_X8_workOlds wL_X8_142 hZ rfl ⟨by decide, by decide⟩ 0 8 rfl rfl rfl rfl dX8_tryAt_177 ?_
                                refine r_iload 182 hZ 5 dX8_tryAt_180 rfl rfl ?_
                                exact hret _ _ _ _ dX8_tryAt_182 (by first | exact Eq.symm (bI_t rfl) | exact Eq.symm (bI_f (by show ¬ (false : Bool) = true; decide))) rfl
                              · skip
                                refine r_iload 31 hZ 5 dX8_tryAt_29 rfl rfl ?_
                                refine r_if_ne 160 34 hZ dX8_tryAt_31 (by decide) rfl (fun c_31 => ?_) (fun c_31 => ?_)
                                · skip
                                  refine r_aload_n 161 hZ 0 dX8_tryAt_160 rfl rfl rfl ?_
                                  refine g_X8_13 164 hZ dX8_tryAt_161 rfl ?_
                                  refine r_iload_n 165 hZ 1 dX8_tryAt_164 rfl rfl rfl ?_
                                  refine r_iload_n 166 hZ 3 dX8_tryAt_165 rfl rfl rfl ?_
                                  refine s_r2 167 hZ (by first | assumption | exact vp_in_nI (by omega) (by decide) | (unfold vp_in; decide)) dX8_tryAt_166 rfl ?_
                                  rw [hcn]
                                  refine r_aload_n 168 hZ 0 dX8_tryAt_167 rfl rfl rfl ?_
                                  refine g_X8_16 171 hZ dX8_tryAt_168 rfl ?_
                                  refine r_iload_n 172 hZ 1 dX8_tryAt_171 rfl rfl rfl ?_
                                  refine r_iload 174 hZ 4 dX8_tryAt_172 rfl rfl ?_
                                  refine s_r3 175 hZ (by first | assumption | exact vp_in_nI (by omega) (by decide) | (unfold vp_in; decide)) dX8_tryAt_174 rfl ?_
                                  rw [hcn]
                                  refine r_aload_n 176 hZ 0 dX8_tryAt_175 rfl rfl rfl ?_
                                  refine r_iload_n 177 hZ 1 dX8_tryAt_176 rfl rfl rfl ?_
                                  refine r_callVV (c_X8_workOlds l g y ad _ ρ (b := n) (by first | exact ht0.ed n kv.1 kv.2 | exact hTT.ed n kv.1 kv.2) (by omega)) wM_X8_workOlds wL_X8_142 hZ rfl ⟨by decide, by decide⟩ 0 8 rfl rfl rfl rfl dX8_tryAt_177 ?_
                                  refine r_iload 182 hZ 5 dX8_tryAt_180 rfl rfl ?_
                                  exact hret _ _ _ _ dX8_tryAt_182 (by first | exact Eq.symm (bI_t rfl) | exact Eq.symm (bI_f (by show ¬ (false : Bool) = true; decide))) rfl
                                · skip
                                  exact absurd c_31 (show ¬ ((1 : Int32) = (0 : Int32)) by decide)
                            · skip
                              exact absurd c_48 (show ¬ ((1 : Int32) = (0 : Int32)) by decide)
                      · skip
                        exact absurd c_95 (nI_m1 (by omega))
                    · skip
                      refine r_goto 148 hZ dX8_tryAt_69 (by decide) ?_
                      refine r_iinc 151 7 1 [(0, _), (1, _), (2, _), (3, _), (4, _), (5, _), (6, _), (7, _)] hZ dX8_tryAt_148 rfl rfl (by decide) (by decide) rfl rfl ?_
                      refine r_goto 38 hZ dX8_tryAt_151 (by decide) ?_
                      rw [nI_1]
                      first | exact ih_38 (b + 1) _ (by omega) (by omega) (by omega) htR hL (by rw [hgI, hbc, s3I_k (fun q => bI_0.mp c_57 (by rw [ix_nI (by omega)]; exact q.1))]) | exact ih_38 (b + 1) _ (by omega) (by omega) (by omega) htR hL (by rw [hgI, hbc, s3I_k (fun q => bI_0.mp c_66 (by rw [ix_nI (by omega)]; exact q.2))]) | exact ih_38 (b + 1) _ (by omega) (by omega) (by omega) (Rs_s2R hm ((htR.r23 n (by omega) (by omega)).wo n (N - n)) (hold2 t hL)).1 (((hL.tr (Lr.r23 t n a b)).tr (Lr.wo _ _ _)).tr (Rs_s2R hm ((htR.r23 n (by omega) (by omega)).wo n (N - n)) (hold2 t hL)).2) (by rw [hgI, hbc, s3I_f hmay (bI_0.mp c_122)])
          exact lp_38 (2 * n + 1) a t0 (by omega) (by omega) (by omega) ht0 hL0 rfl
  exact lp_21 (2 * n + 1) 0 τ (by omega) (by omega) hs (Lr.rf τ) rfl
theorem Rs_s1I {N G m a : Nat} (hm : 2 * m ≤ 80) (ha : a < 80) : ∀ (c b : Nat) (t : stT), b + c ≤ 80 → Rs t N G → Rs (s1I N G m a b c t).2 N G ∧ Lr t (s1I N G m a b c t).2
  | 0, _, t, _, h => ⟨h, Lr.rf t⟩
  | c + 1, b, t, hb, h => by
    by_cases hk : ¬ t 1 (a / 2) = 3 ∧ ¬ t 1 (b / 2) = 3
    · have h1 : Rs (woF (r23 t m a b) m (N - m)) N G := (h.r23 m (by omega) (by omega)).wo m (N - m)
      have l1 : Lr t (woF (r23 t m a b) m (N - m)) := (Lr.r23 t m a b).tr (Lr.wo _ _ _)
      by_cases hr : apP (woF (r23 t m a b) m (N - m)) G
      · rw [s1I_t hk hr]; exact ⟨h1.pt 0 _ _ _, l1.tr (Lr.pt _ 0 _ _ _)⟩
      · rw [s1I_f hk hr]
        obtain ⟨q1, q2⟩ := Rs_s1I hm ha c (b + 1) _ (by omega) h1
        exact ⟨q1, l1.tr q2⟩
    · rw [s1I_k hk]; exact Rs_s1I hm ha c (b + 1) t (by omega) h
theorem Rs_s1O {N G m : Nat} (hm : 2 * m ≤ 80) : ∀ (c a : Nat) (t : stT), a + c ≤ 2 * m → Rs t N G → Rs (s1O N G m a c t).2 N G ∧ Lr t (s1O N G m a c t).2
  | 0, _, t, _, h => ⟨h, Lr.rf t⟩
  | c + 1, a, t, hb, h => by
    obtain ⟨q1, q2⟩ := Rs_s1I hm (show a < 80 by omega) (2 * m - a) a t (by omega) h
    by_cases hr : (s1I N G m a a (2 * m - a) t).1 = true
    · rw [s1O_t hr]; exact ⟨q1, q2⟩
    · rw [s1O_f hr]
      obtain ⟨q3, q4⟩ := Rs_s1O hm c (a + 1) _ (by omega) q1
      exact ⟨q3, q2.tr q4⟩
theorem Rs_s1R {N G m : Nat} {t : stT} (hN : m < N) (h : Rs t N G) (hm : t 1 m = 2) : Rs (s1R N G m t).2 N G ∧ Lr t (s1R N G m t).2 := by
  have h38 := h.2.2.1
  obtain ⟨q1, q2⟩ := Rs_s1O (N := N) (G := G) (m := m) (by omega) (2 * m) 0 t (by omega) h
  have k := h.2.2.2.2.1 m hN (Or.inl hm)
  exact ⟨(q1.ed m k.1 k.2).wo m (N - m), (q2.tr (Lr.ed _ m _ _)).tr (Lr.wo _ _ _)⟩
theorem Rs_s3I {N G n m a : Nat} (hN : m < N) (hn : 2 * n ≤ 80) (ha : a < 80) : ∀ (c b : Nat) (t : stT), b + c ≤ 80 → Rs t N G → t 1 m = 2 → Rs (s3I N G n m a b c t).2 N G ∧ Lr t (s3I N G n m a b c t).2
  | 0, _, t, _, h, _ => ⟨h, Lr.rf t⟩
  | c + 1, b, t, hb, h, ho => by
    by_cases hk : ¬ t 1 (a / 2) = 3 ∧ ¬ t 1 (b / 2) = 3
    · have h1 : Rs (woF (r23 t n a b) n (N - n)) N G := (h.r23 n (by omega) (by omega)).wo n (N - n)
      have l1 : Lr t (woF (r23 t n a b) n (N - n)) := (Lr.r23 t n a b).tr (Lr.wo _ _ _)
      have o1 : woF (r23 t n a b) n (N - n) 1 m = 2 := (congrFun (l1 1 (by decide) (by decide) (by decide) (by decide) (by decide) (by decide)) m).trans ho
      obtain ⟨h2, l2⟩ := Rs_s2R hN h1 o1
      by_cases hr : (s2R N G m (woF (r23 t n a b) n (N - n))).1 = true
      · rw [s3I_t hk hr]; exact ⟨h2.pt 0 _ _ _, (l1.tr l2).tr (Lr.pt _ 0 _ _ _)⟩
      · rw [s3I_f hk hr]
        obtain ⟨q1, q2⟩ := Rs_s3I hN hn ha c (b + 1) _ (by omega) h2 ((congrFun (l2 1 (by decide) (by decide) (by decide) (by decide) (by decide) (by decide)) m).trans o1)
        exact ⟨q1, (l1.tr l2).tr q2⟩
    · rw [s3I_k hk]; exact Rs_s3I hN hn ha c (b + 1) t (by omega) h ho
theorem Rs_s3O {N G n m : Nat} (hN : m < N) (hn : 2 * n ≤ 80) : ∀ (c a : Nat) (t : stT), a + c ≤ 2 * n → Rs t N G → t 1 m = 2 → Rs (s3O N G n m a c t).2 N G ∧ Lr t (s3O N G n m a c t).2
  | 0, _, t, _, h, _ => ⟨h, Lr.rf t⟩
  | c + 1, a, t, hb, h, ho => by
    obtain ⟨q1, q2⟩ := Rs_s3I hN hn (show a < 80 by omega) (2 * n - a) a t (by omega) h ho
    by_cases hr : (s3I N G n m a a (2 * n - a) t).1 = true
    · rw [s3O_t hr]; exact ⟨q1, q2⟩
    · rw [s3O_f hr]
      obtain ⟨q3, q4⟩ := Rs_s3O hN hn c (a + 1) _ (by omega) q1 ((congrFun (q2 1 (by decide) (by decide) (by decide) (by decide) (by decide) (by decide)) m).trans ho)
      exact ⟨q3, q2.tr q4⟩
theorem Rs_s3R {N G n m : Nat} {t : stT} (hn : n < N) (hN : m < N) (h : Rs t N G) (ho : t 1 n = 2) (hm : t 1 m = 2) : Rs (s3R N G n m t).2 N G ∧ Lr t (s3R N G n m t).2 := by
  have h38 := h.2.2.1
  obtain ⟨q1, q2⟩ := Rs_s3O (N := N) (G := G) (n := n) (m := m) hN (by omega) (2 * n) 0 t (by omega) h hm
  have k := h.2.2.2.2.1 n hn (Or.inl ho)
  exact ⟨(q1.ed n k.1 k.2).wo n (N - n), (q2.tr (Lr.ed _ n _ _)).tr (Lr.wo _ _ _)⟩
/-- the reference's search(1), search(2) -/
def frP (t : stT) (n : Nat) : Prop := t 1 n = 2 ∧ t 5 n = 0
noncomputable def q1R (N G : Nat) : Nat → Nat → stT → Bool × stT
  | _, 0, t => (false, t)
  | n, c + 1, t => @ite _ (frP t n) (Classical.propDecidable _) (@ite _ ((s1R N G n t).1 = true) (Classical.propDecidable _) (true, (s1R N G n t).2) (q1R N G (n + 1) c (s1R N G n t).2)) (q1R N G (n + 1) c t)
theorem q1R_k {N G n c : Nat} {t : stT} (h : ¬ frP t n) : q1R N G n (c + 1) t = q1R N G (n + 1) c t := if_neg h
theorem q1R_t {N G n c : Nat} {t : stT} (h : frP t n) (hr : (s1R N G n t).1 = true) : q1R N G n (c + 1) t = (true, (s1R N G n t).2) := (if_pos h).trans (if_pos hr)
theorem q1R_f {N G n c : Nat} {t : stT} (h : frP t n) (hr : ¬ (s1R N G n t).1 = true) : q1R N G n (c + 1) t = q1R N G (n + 1) c (s1R N G n t).2 := (if_pos h).trans (if_neg hr)
noncomputable def q2I (N G n : Nat) : Nat → Nat → stT → Bool × stT
  | _, 0, t => (false, t)
  | m, c + 1, t => @ite _ (frP t m) (Classical.propDecidable _) (@ite _ ((s3R N G n m t).1 = true) (Classical.propDecidable _) (true, (s3R N G n m t).2) (q2I N G n (m + 1) c (s3R N G n m t).2)) (q2I N G n (m + 1) c t)
theorem q2I_k {N G n m c : Nat} {t : stT} (h : ¬ frP t m) : q2I N G n m (c + 1) t = q2I N G n (m + 1) c t := if_neg h
theorem q2I_t {N G n m c : Nat} {t : stT} (h : frP t m) (hr : (s3R N G n m t).1 = true) : q2I N G n m (c + 1) t = (true, (s3R N G n m t).2) := (if_pos h).trans (if_pos hr)
theorem q2I_f {N G n m c : Nat} {t : stT} (h : frP t m) (hr : ¬ (s3R N G n m t).1 = true) : q2I N G n m (c + 1) t = q2I N G n (m + 1) c (s3R N G n m t).2 := (if_pos h).trans (if_neg hr)
noncomputable def q2O (N G : Nat) : Nat → Nat → stT → Bool × stT
  | _, 0, t => (false, t)
  | n, c + 1, t => @ite _ (frP t n) (Classical.propDecidable _) (@ite _ ((q2I N G n (n + 1) (N - (n + 1)) t).1 = true) (Classical.propDecidable _) (q2I N G n (n + 1) (N - (n + 1)) t) (q2O N G (n + 1) c (q2I N G n (n + 1) (N - (n + 1)) t).2)) (q2O N G (n + 1) c t)
theorem q2O_k {N G n c : Nat} {t : stT} (h : ¬ frP t n) : q2O N G n (c + 1) t = q2O N G (n + 1) c t := if_neg h
theorem q2O_t {N G n c : Nat} {t : stT} (h : frP t n) (hr : (q2I N G n (n + 1) (N - (n + 1)) t).1 = true) : q2O N G n (c + 1) t = q2I N G n (n + 1) (N - (n + 1)) t := (if_pos h).trans (if_pos hr)
theorem q2O_f {N G n c : Nat} {t : stT} (h : frP t n) (hr : ¬ (q2I N G n (n + 1) (N - (n + 1)) t).1 = true) : q2O N G n (c + 1) t = q2O N G (n + 1) c (q2I N G n (n + 1) (N - (n + 1)) t).2 := (if_pos h).trans (if_neg hr)
set_option maxHeartbeats 4000000 in
set_option maxRecDepth 100000 in
theorem c_X8_search_0 (l : Launch) (g : va_G) (y : Nat → ClassId) (ad : Nat → Nat) (τ : Nat → Nat → Int32) (ρ : Nat → Nat → Int64) {N G : Nat} (hs : Rs τ N G) : w_C l g y yX8_search cX8_search 4 (some .boolean) 7 [.ref (ad 0), .int 0] (rw ad y τ ρ) (some (.int (bI (apP τ G)))) (rw ad y τ ρ) := by
  refine w_ofI (lv0 := [(0, .ref (ad 0)), (1, .int 0)]) (by decide +kernel) (Nat.le_of_ble_eq_true rfl) rfl (bI_nar _) ?_
  intro Z hZ hret
  refine r_iload_n 1 hZ 1 dX8_search_0 rfl rfl rfl ?_
  refine r_if_ne 17 4 hZ dX8_search_1 (by decide) rfl (fun c_1 => ?_) (fun c_1 => ?_)
  · skip
    exact absurd c_1 (show ¬ (¬ (0 : Int32) = (0 : Int32)) by decide)
  · skip
    refine r_aload_n 5 hZ 0 dX8_search_4 rfl rfl rfl ?_
    refine r_callVI (c_X8_apart l g y ad τ ρ hs) wM_X8_apart wL_X8_121 hZ rfl ⟨by decide, by decide⟩ 0 8 rfl rfl rfl rfl dX8_search_5 ?_
    refine r_if_ne 15 11 hZ dX8_search_8 (by decide) rfl (fun c_8 => ?_) (fun c_8 => ?_)
    · skip
      have ap := apP_n c_8
      refine r_iconst (v := 0) 16 hZ dX8_search_15 rfl (by decide) ?_
      exact hret _ _ _ _ dX8_search_16 (by first | exact Eq.symm (bI_t ap) | exact Eq.symm (bI_f ap)) rfl
    · skip
      have ap := apP_0 hs.2.2.2.1 c_8
      refine r_iconst (v := 1) 12 hZ dX8_search_11 rfl (by decide) ?_
      refine r_goto 16 hZ dX8_search_12 (by decide) ?_
      exact hret _ _ _ _ dX8_search_16 (by first | exact Eq.symm (bI_t ap) | exact Eq.symm (bI_f ap)) rfl
set_option maxHeartbeats 4000000 in
set_option maxRecDepth 100000 in
theorem c_X8_search_1 (l : Launch) (g : va_G) (y : Nat → ClassId) (ad : Nat → Nat) (τ : Nat → Nat → Int32) (ρ : Nat → Nat → Int64) {N G : Nat} (hs : Rs τ N G) : w_C l g y yX8_search cX8_search 4 (some .boolean) 5 [.ref (ad 0), .int 1] (rw ad y τ ρ) (some (.int (bI ((q1R N G 0 N τ).1 = true)))) (rw ad y (q1R N G 0 N τ).2 ρ) := by
  refine w_ofI (lv0 := [(0, .ref (ad 0)), (1, .int 1)]) (by decide +kernel) (Nat.le_of_ble_eq_true rfl) rfl (bI_nar _) ?_
  intro Z hZ hret
  refine r_iload_n 1 hZ 1 dX8_search_0 rfl rfl rfl ?_
  refine r_if_ne 17 4 hZ dX8_search_1 (by decide) rfl (fun c_1 => ?_) (fun c_1 => ?_)
  · skip
    refine r_iconst (v := 0) 18 hZ dX8_search_17 rfl (by decide) ?_
    refine r_istnN 19 [(0, _), (1, _), (2, _)] hZ dX8_search_18 rfl rfl (by decide) rfl rfl ?_
    have lp_19 : ∀ (n : Nat) (i : Nat) (t : stT), i ≤ N → N + 1 ≤ i + n → Rs t N G → q1R N G 0 N τ = q1R N G i (N - i) t → Z 0 0 (rw ad y t ρ) 19 [(0, .ref (ad 0)), (1, .int 1), (2, .int (nI i))] [] := by
      intro n
      induction n with
      | zero => intro i t h1 hn_19 htR hg; exact absurd hn_19 (by omega)
      | succ n ih_19 =>
        intro i t h1 hn_19 htR hg
        obtain ⟨hN, -, h38, -⟩ := id htR
        refine r_iload_n 20 hZ 2 dX8_search_19 rfl rfl rfl ?_
        refine r_aload_n 21 hZ 0 dX8_search_20 rfl rfl rfl ?_
        refine g_X8_76 24 hZ dX8_search_21 rfl ?_
        refine w_eqI (hN) ?_
        refine r_icmp_ge 102 27 hZ dX8_search_24 (by decide) rfl (fun c_24 => ?_) (fun c_24 => ?_)
        · skip
          have hi := nI_leq (by omega) (by omega) c_24
          have hi : i = N := by omega
          subst hi
          rw [hg, show i - i = 0 by omega] at hret
          refine r_iconst (v := 0) 103 hZ dX8_search_102 rfl (by decide) ?_
          exact hret _ _ _ _ dX8_search_103 (by first | exact Eq.symm (bI_t rfl) | exact Eq.symm (bI_f (by show ¬ (false : Bool) = true; decide))) rfl
        · skip
          have hi := nI_nleq (by omega) (by omega) c_24
          have hb : N - i = (N - (i + 1)) + 1 := by omega
          refine r_aload_n 28 hZ 0 dX8_search_27 rfl rfl rfl ?_
          refine r_iload_n 29 hZ 2 dX8_search_28 rfl rfl rfl ?_
          refine r_callVI (c_X8_isFree l g y ad t ρ (j := i) (by omega)) wM_X8_isFree wL_X8_148 hZ rfl ⟨by decide, by decide⟩ 0 8 rfl rfl rfl rfl dX8_search_29 ?_
          refine r_if_ne 38 35 hZ dX8_search_32 (by decide) rfl (fun c_32 => ?_) (fun c_32 => ?_)
          · skip
            have hfr : frP t i := bI_n0.mp c_32
            refine r_iload_n 39 hZ 1 dX8_search_38 rfl rfl rfl ?_
            refine r_iconst (v := 1) 40 hZ dX8_search_39 rfl (by decide) ?_
            refine r_icmp_ne 54 43 hZ dX8_search_40 (by decide) rfl (fun c_40 => ?_) (fun c_40 => ?_)
            · skip
              exact absurd c_40 (show ¬ (¬ (1 : Int32) = (1 : Int32)) by decide)
            · skip
              refine r_aload_n 44 hZ 0 dX8_search_43 rfl rfl rfl ?_
              refine r_iload_n 45 hZ 2 dX8_search_44 rfl rfl rfl ?_
              refine r_iconst (v := (-1)) 46 hZ dX8_search_45 rfl (by decide) ?_
              refine r_callVI (c_X8_tryAt_1 l g y ad t ρ htR (n := i) hi hfr.1) wM_X8_tryAt wL_X8_151 hZ rfl ⟨by decide, by decide⟩ 0 8 rfl rfl rfl rfl dX8_search_46 ?_
              refine r_if_eq 54 52 hZ dX8_search_49 (by decide) rfl (fun c_49 => ?_) (fun c_49 => ?_)
              · skip
                refine r_iload_n 55 hZ 2 dX8_search_54 rfl rfl rfl ?_
                refine r_iconst (v := 1) 56 hZ dX8_search_55 rfl (by decide) ?_
                refine r_iadd 57 hZ dX8_search_56 rfl ?_
                refine r_istnN 58 [(0, _), (1, _), (2, _), (3, _)] hZ dX8_search_57 rfl rfl (by decide) rfl rfl ?_
                refine r_iload_n 59 hZ 3 dX8_search_58 rfl rfl rfl ?_
                refine r_aload_n 60 hZ 0 dX8_search_59 rfl rfl rfl ?_
                refine g_X8_76 63 hZ dX8_search_60 rfl ?_
                refine w_eqI ((congrFun ((Rs_s1R hi htR hfr.1).2 0 (by decide) (by decide) (by decide) (by decide) (by decide) (by decide)) 1).trans hN) ?_
                refine r_icmp_ge 96 66 hZ dX8_search_63 (by decide) rfl (fun c_63 => ?_) (fun c_63 => ?_)
                · skip
                  refine r_iinc 99 2 1 [(0, _), (1, _), (2, _), (3, _)] hZ dX8_search_96 rfl rfl (by decide) (by decide) rfl rfl ?_
                  refine r_goto 19 hZ dX8_search_99 (by decide) ?_
                  rw [nI_1]
                  first | exact ih_19 (i + 1) _ (by omega) (by omega) htR (by rw [hg, hb, q1R_k hfr]) | exact w_take 3 hZ (ih_19 (i + 1) _ (by omega) (by omega) (Rs_s1R hi htR hfr.1).1 (by rw [hg, hb, q1R_f hfr (bI_0.mp c_49)]))
                · skip
                  refine r_iload_n 67 hZ 1 dX8_search_66 rfl rfl rfl ?_
                  refine r_iconst (v := 2) 68 hZ dX8_search_67 rfl (by decide) ?_
                  refine r_icmp_ne 96 71 hZ dX8_search_68 (by decide) rfl (fun c_68 => ?_) (fun c_68 => ?_)
                  · skip
                    refine r_iinc 99 2 1 [(0, _), (1, _), (2, _), (3, _)] hZ dX8_search_96 rfl rfl (by decide) (by decide) rfl rfl ?_
                    refine r_goto 19 hZ dX8_search_99 (by decide) ?_
                    rw [nI_1]
                    first | exact ih_19 (i + 1) _ (by omega) (by omega) htR (by rw [hg, hb, q1R_k hfr]) | exact w_take 3 hZ (ih_19 (i + 1) _ (by omega) (by omega) (Rs_s1R hi htR hfr.1).1 (by rw [hg, hb, q1R_f hfr (bI_0.mp c_49)]))
                  · skip
                    exact absurd c_68 (show ¬ ((1 : Int32) = (2 : Int32)) by decide)
              · skip
                rw [hg, hb, q1R_t hfr (bI_n0.mp c_49)] at hret
                refine r_iconst (v := 1) 53 hZ dX8_search_52 rfl (by decide) ?_
                exact hret _ _ _ _ dX8_search_53 (by first | exact Eq.symm (bI_t rfl) | exact Eq.symm (bI_f (by show ¬ (false : Bool) = true; decide))) rfl
          · skip
            have hfr : ¬ frP t i := bI_0.mp c_32
            refine r_goto 96 hZ dX8_search_35 (by decide) ?_
            refine r_iinc 99 2 1 [(0, _), (1, _), (2, _)] hZ dX8_search_96 rfl rfl (by decide) (by decide) rfl rfl ?_
            refine r_goto 19 hZ dX8_search_99 (by decide) ?_
            rw [nI_1]
            first | exact ih_19 (i + 1) _ (by omega) (by omega) htR (by rw [hg, hb, q1R_k hfr]) | exact w_take 3 hZ (ih_19 (i + 1) _ (by omega) (by omega) (Rs_s1R hi htR hfr.1).1 (by rw [hg, hb, q1R_f hfr (bI_0.mp c_49)]))
    exact lp_19 (N + 1) 0 τ (by omega) (by omega) hs rfl
  · skip
    exact absurd c_1 (show ¬ ((1 : Int32) = (0 : Int32)) by decide)
set_option maxHeartbeats 4000000 in
set_option maxRecDepth 100000 in
theorem c_X8_search_2 (l : Launch) (g : va_G) (y : Nat → ClassId) (ad : Nat → Nat) (τ : Nat → Nat → Int32) (ρ : Nat → Nat → Int64) {N G : Nat} (hs : Rs τ N G) : w_C l g y yX8_search cX8_search 4 (some .boolean) 5 [.ref (ad 0), .int 2] (rw ad y τ ρ) (some (.int (bI ((q2O N G 0 N τ).1 = true)))) (rw ad y (q2O N G 0 N τ).2 ρ) := by
  refine w_ofI (lv0 := [(0, .ref (ad 0)), (1, .int 2)]) (by decide +kernel) (Nat.le_of_ble_eq_true rfl) rfl (bI_nar _) ?_
  intro Z hZ hret
  refine r_iload_n 1 hZ 1 dX8_search_0 rfl rfl rfl ?_
  refine r_if_ne 17 4 hZ dX8_search_1 (by decide) rfl (fun c_1 => ?_) (fun c_1 => ?_)
  · skip
    refine r_iconst (v := 0) 18 hZ dX8_search_17 rfl (by decide) ?_
    refine r_istnN 19 [(0, _), (1, _), (2, _)] hZ dX8_search_18 rfl rfl (by decide) rfl rfl ?_
    have lp_19 : ∀ (n : Nat) (i : Nat) (t : stT), i ≤ N → N + 1 ≤ i + n → Rs t N G → q2O N G 0 N τ = q2O N G i (N - i) t → Z 0 0 (rw ad y t ρ) 19 [(0, .ref (ad 0)), (1, .int 2), (2, .int (nI i))] [] := by
      intro n
      induction n with
      | zero => intro i t h1 hn_19 htR hg; exact absurd hn_19 (by omega)
      | succ n ih_19 =>
        intro i t h1 hn_19 htR hg
        obtain ⟨hN, -, h38, -⟩ := id htR
        refine r_iload_n 20 hZ 2 dX8_search_19 rfl rfl rfl ?_
        refine r_aload_n 21 hZ 0 dX8_search_20 rfl rfl rfl ?_
        refine g_X8_76 24 hZ dX8_search_21 rfl ?_
        refine w_eqI (hN) ?_
        refine r_icmp_ge 102 27 hZ dX8_search_24 (by decide) rfl (fun c_24 => ?_) (fun c_24 => ?_)
        · skip
          have hi := nI_leq (by omega) (by omega) c_24
          have hi : i = N := by omega
          subst hi
          rw [hg, show i - i = 0 by omega] at hret
          refine r_iconst (v := 0) 103 hZ dX8_search_102 rfl (by decide) ?_
          exact hret _ _ _ _ dX8_search_103 (by first | exact Eq.symm (bI_t rfl) | exact Eq.symm (bI_f (by show ¬ (false : Bool) = true; decide))) rfl
        · skip
          have hi := nI_nleq (by omega) (by omega) c_24
          have hb : N - i = (N - (i + 1)) + 1 := by omega
          refine r_aload_n 28 hZ 0 dX8_search_27 rfl rfl rfl ?_
          refine r_iload_n 29 hZ 2 dX8_search_28 rfl rfl rfl ?_
          refine r_callVI (c_X8_isFree l g y ad t ρ (j := i) (by omega)) wM_X8_isFree wL_X8_148 hZ rfl ⟨by decide, by decide⟩ 0 8 rfl rfl rfl rfl dX8_search_29 ?_
          refine r_if_ne 38 35 hZ dX8_search_32 (by decide) rfl (fun c_32 => ?_) (fun c_32 => ?_)
          · skip
            have hfr : frP t i := bI_n0.mp c_32
            refine r_iload_n 39 hZ 1 dX8_search_38 rfl rfl rfl ?_
            refine r_iconst (v := 1) 40 hZ dX8_search_39 rfl (by decide) ?_
            refine r_icmp_ne 54 43 hZ dX8_search_40 (by decide) rfl (fun c_40 => ?_) (fun c_40 => ?_)
            · skip
              refine r_iload_n 55 hZ 2 dX8_search_54 rfl rfl rfl ?_
              refine r_iconst (v := 1) 56 hZ dX8_search_55 rfl (by decide) ?_
              refine r_iadd 57 hZ dX8_search_56 rfl ?_
              refine r_istnN 58 [(0, _), (1, _), (2, _), (3, _)] hZ dX8_search_57 rfl rfl (by decide) rfl rfl ?_
              have lp_58 : ∀ (q : Nat) (j : Nat) (tj : stT), j ≤ N → N + 1 ≤ j + q → i < j → Rs tj N G → tj 1 i = 2 → q2I N G i (i + 1) (N - (i + 1)) t = q2I N G i j (N - j) tj → Z 0 0 (rw ad y tj ρ) 58 [(0, .ref (ad 0)), (1, .int 2), (2, .int (nI i)), (3, .int (nI j))] [] := by
                intro q
                induction q with
                | zero => intro j tj h1j hn_58 hij hjR hoi hgI; exact absurd hn_58 (by omega)
                | succ q ih_58 =>
                  intro j tj h1j hn_58 hij hjR hoi hgI
                  obtain ⟨hNj, -⟩ := id hjR
                  refine r_iload_n 59 hZ 3 dX8_search_58 rfl rfl rfl ?_
                  refine r_aload_n 60 hZ 0 dX8_search_59 rfl rfl rfl ?_
                  refine g_X8_76 63 hZ dX8_search_60 rfl ?_
                  refine w_eqI (hNj) ?_
                  refine r_icmp_ge 96 66 hZ dX8_search_63 (by decide) rfl (fun c_63 => ?_) (fun c_63 => ?_)
                  · skip
                    have hj := nI_leq (by omega) (by omega) c_63
                    have hj : j = N := by omega
                    subst hj
                    rw [show j - j = 0 by omega] at hgI
                    refine r_iinc 99 2 1 [(0, _), (1, _), (2, _), (3, _)] hZ dX8_search_96 rfl rfl (by decide) (by decide) rfl rfl ?_
                    refine r_goto 19 hZ dX8_search_99 (by decide) ?_
                    rw [nI_1]
                    first | exact ih_19 (i + 1) _ (by omega) (by omega) htR (by rw [hg, hb, q2O_k hfr]) | exact w_take 3 hZ (ih_19 (i + 1) _ (by omega) (by omega) hjR (by rw [hg, hb, q2O_f hfr (by rw [hgI]; show ¬ (false : Bool) = true; decide), hgI]; rfl))
                  · skip
                    have hj := nI_nleq (by omega) (by omega) c_63
                    have hbj : N - j = (N - (j + 1)) + 1 := by omega
                    refine r_iload_n 67 hZ 1 dX8_search_66 rfl rfl rfl ?_
                    refine r_iconst (v := 2) 68 hZ dX8_search_67 rfl (by decide) ?_
                    refine r_icmp_ne 96 71 hZ dX8_search_68 (by decide) rfl (fun c_68 => ?_) (fun c_68 => ?_)
                    · skip
                      exact absurd c_68 (show ¬ (¬ (2 : Int32) = (2 : Int32)) by decide)
                    · skip
                      refine r_aload_n 72 hZ 0 dX8_search_71 rfl rfl rfl ?_
                      refine r_iload_n 73 hZ 3 dX8_search_72 rfl rfl rfl ?_
                      refine r_callVI (c_X8_isFree l g y ad tj ρ (j := j) (by omega)) wM_X8_isFree wL_X8_148 hZ rfl ⟨by decide, by decide⟩ 0 8 rfl rfl rfl rfl dX8_search_73 ?_
                      refine r_if_eq 90 79 hZ dX8_search_76 (by decide) rfl (fun c_76 => ?_) (fun c_76 => ?_)
                      · skip
                        have hfj : ¬ frP tj j := bI_0.mp c_76
                        refine r_iinc 93 3 1 [(0, _), (1, _), (2, _), (3, _)] hZ dX8_search_90 rfl rfl (by decide) (by decide) rfl rfl ?_
                        refine r_goto 58 hZ dX8_search_93 (by decide) ?_
                        rw [nI_1]
                        first | exact ih_58 (j + 1) _ (by omega) (by omega) (by omega) hjR hoi (by rw [hgI, hbj, q2I_k hfj]) | exact ih_58 (j + 1) _ (by omega) (by omega) (by omega) (Rs_s3R hi hj hjR hoi hfj.1).1 ((congrFun ((Rs_s3R hi hj hjR hoi hfj.1).2 1 (by decide) (by decide) (by decide) (by decide) (by decide) (by decide)) i).trans hoi) (by rw [hgI, hbj, q2I_f hfj (bI_0.mp c_85)])
                      · skip
                        have hfj : frP tj j := bI_n0.mp c_76
                        refine r_aload_n 80 hZ 0 dX8_search_79 rfl rfl rfl ?_
                        refine r_iload_n 81 hZ 2 dX8_search_80 rfl rfl rfl ?_
                        refine r_iload_n 82 hZ 3 dX8_search_81 rfl rfl rfl ?_
                        refine r_callVI (c_X8_tryAt_2 l g y ad tj ρ (n := i) (m := j) hjR hi hoi hj hfj.1) wM_X8_tryAt wL_X8_151 hZ rfl ⟨by decide, by decide⟩ 0 8 rfl rfl rfl rfl dX8_search_82 ?_
                        refine r_if_eq 90 88 hZ dX8_search_85 (by decide) rfl (fun c_85 => ?_) (fun c_85 => ?_)
                        · skip
                          refine r_iinc 93 3 1 [(0, _), (1, _), (2, _), (3, _)] hZ dX8_search_90 rfl rfl (by decide) (by decide) rfl rfl ?_
                          refine r_goto 58 hZ dX8_search_93 (by decide) ?_
                          rw [nI_1]
                          first | exact ih_58 (j + 1) _ (by omega) (by omega) (by omega) hjR hoi (by rw [hgI, hbj, q2I_k hfj]) | exact ih_58 (j + 1) _ (by omega) (by omega) (by omega) (Rs_s3R hi hj hjR hoi hfj.1).1 ((congrFun ((Rs_s3R hi hj hjR hoi hfj.1).2 1 (by decide) (by decide) (by decide) (by decide) (by decide) (by decide)) i).trans hoi) (by rw [hgI, hbj, q2I_f hfj (bI_0.mp c_85)])
                        · skip
                          have hI1 := hgI.trans (by rw [hbj, q2I_t hfj (bI_n0.mp c_85)])
                          rw [hg, hb, q2O_t hfr (by rw [hI1]), hI1] at hret
                          refine r_iconst (v := 1) 89 hZ dX8_search_88 rfl (by decide) ?_
                          exact hret _ _ _ _ dX8_search_89 (by first | exact Eq.symm (bI_t rfl) | exact Eq.symm (bI_f (by show ¬ (false : Bool) = true; decide))) rfl
              rw [nI_1]
              exact lp_58 (N + 1) (i + 1) t (by omega) (by omega) (by omega) htR hfr.1 rfl
            · skip
              exact absurd c_40 (show ¬ ((2 : Int32) = (1 : Int32)) by decide)
          · skip
            have hfr : ¬ frP t i := bI_0.mp c_32
            refine r_goto 96 hZ dX8_search_35 (by decide) ?_
            refine r_iinc 99 2 1 [(0, _), (1, _), (2, _)] hZ dX8_search_96 rfl rfl (by decide) (by decide) rfl rfl ?_
            refine r_goto 19 hZ dX8_search_99 (by decide) ?_
            rw [nI_1]
            first | exact ih_19 (i + 1) _ (by omega) (by omega) htR (by rw [hg, hb, q2O_k hfr]) | exact w_take 3 hZ (ih_19 (i + 1) _ (by omega) (by omega) hjR (by rw [hg, hb, q2O_f hfr (by rw [hgI]; show ¬ (false : Bool) = true; decide), hgI]; rfl))
    exact lp_19 (N + 1) 0 τ (by omega) (by omega) hs rfl
  · skip
    exact absurd c_1 (show ¬ ((2 : Int32) = (0 : Int32)) by decide)
