set_option maxHeartbeats 4000000 in
set_option maxRecDepth 100000 in
theorem c_X5_findTwo (l : Launch) (g : va_G) (y : Nat → ClassId) (ad : Nat → Nat) (σ : Nat → Nat → Int32) {N I O G : Nat} (hs : Ws σ N I O G) : w_C l g y yX5_findTwo cX5_findTwo 3 (some .boolean) 5 [.ref (ad 4)] (cw ad y σ) (some (.int (bI ((f2O I O G 0 O σ).1 = true)))) (cw ad y (f2O I O G 0 O σ).2) := by
  refine w_ofI (lv0 := [(0, .ref (ad 4))]) (by decide +kernel) (Nat.le_of_ble_eq_true rfl) rfl (bI_nar _) ?_
  intro Z hZ hret
  obtain ⟨-, hI0, -⟩ := id hs
  refine r_aload_n 1 hZ 0 dX5_findTwo_0 rfl rfl rfl ?_
  refine g_X5_9 4 hZ dX5_findTwo_1 rfl ?_
  refine r_callVI (c_X3_firstOld l g y ad _ hI0) wM_X3_firstOld wL_X5_75 hZ rfl ⟨by decide, by decide⟩ 1 3 rfl rfl rfl rfl dX5_findTwo_4 ?_
  refine r_istnN 8 [(0, _), (1, _)] hZ dX5_findTwo_7 rfl rfl (by decide) rfl rfl ?_
  have lp_8 : ∀ (n : Nat) (i : Nat) (s : stT), i ≤ O → O + 1 ≤ i + n → Lk σ s → f2O I O G 0 O σ = f2O I O G i (O - i) s → Z 0 0 (cw ad y s) 8 [(0, .ref (ad 4)), (1, .int (nI (1 + I + i)))] [] := by
    intro n
    induction n with
    | zero => intro i s h1 hn_8 hL hg; exact absurd hn_8 (by omega)
    | succ n ih_8 =>
      intro i s h1 hn_8 hL hg
      obtain ⟨hN, hI, hO, hG, h38, h14, h4, hw, hl, hgm, hgd⟩ := hL.ws hs
      refine r_iload_n 9 hZ 1 dX5_findTwo_8 rfl rfl rfl ?_
      refine r_aload_n 10 hZ 0 dX5_findTwo_9 rfl rfl rfl ?_
      refine g_X5_9 13 hZ dX5_findTwo_10 rfl ?_
      refine r_callVI (c_X3_owned l g y ad _ hI hO) wM_X3_owned wL_X5_64 hZ rfl ⟨by decide, by decide⟩ 1 3 rfl rfl rfl rfl dX5_findTwo_13 ?_
      refine r_icmp_ge 97 19 hZ dX5_findTwo_16 (by decide) rfl (fun c_16 => ?_) (fun c_16 => ?_)
      · skip
        have hi := nI_leq (by omega) (by omega) c_16
        have hi : i = O := by omega
        subst hi
        rw [hg, show i - i = 0 by omega] at hret
        refine r_iconst (v := 0) 98 hZ dX5_findTwo_97 rfl (by decide) ?_
        exact hret _ _ _ _ dX5_findTwo_98 (bI_f (by show ¬ (false : Bool) = true; decide)).symm rfl
      · skip
        have hi := nI_nleq (by omega) (by omega) c_16
        have hb : O - i = (O - (i + 1)) + 1 := by omega
        have hci := nI_clamp (n := 1 + I + i) (by omega)
        refine r_iload_n 20 hZ 1 dX5_findTwo_19 rfl rfl rfl ?_
        refine r_iconst (v := 1) 21 hZ dX5_findTwo_20 rfl (by decide) ?_
        refine r_iadd 22 hZ dX5_findTwo_21 rfl ?_
        refine r_istnN 23 [(0, _), (1, _), (2, _)] hZ dX5_findTwo_22 rfl rfl (by decide) rfl rfl ?_
        have lp_23 : ∀ (q : Nat) (j : Nat) (sj : stT), j ≤ O → O + 1 ≤ j + q → i < j → Lk σ sj → f2I I O G i (i + 1) (O - (i + 1)) s = f2I I O G i j (O - j) sj → Z 0 0 (cw ad y sj) 23 [(0, .ref (ad 4)), (1, .int (nI (1 + I + i))), (2, .int (nI (1 + I + j)))] [] := by
          intro q
          induction q with
          | zero => intro j sj h1j hn_23 hij hLj hgI; exact absurd hn_23 (by omega)
          | succ q ih_23 =>
            intro j sj h1j hn_23 hij hLj hgI
            obtain ⟨-, hIj, hOj, -, -, -, -, hwj, -⟩ := hLj.ws hs
            refine r_iload_n 24 hZ 2 dX5_findTwo_23 rfl rfl rfl ?_
            refine r_aload_n 25 hZ 0 dX5_findTwo_24 rfl rfl rfl ?_
            refine g_X5_9 28 hZ dX5_findTwo_25 rfl ?_
            refine r_callVI (c_X3_owned l g y ad _ hIj hOj) wM_X3_owned wL_X5_64 hZ rfl ⟨by decide, by decide⟩ 1 3 rfl rfl rfl rfl dX5_findTwo_28 ?_
            refine r_icmp_ge 91 34 hZ dX5_findTwo_31 (by decide) rfl (fun c_31 => ?_) (fun c_31 => ?_)
            · skip
              have hj := nI_leq (by omega) (by omega) c_31
              have hj : j = O := by omega
              subst hj
              rw [show j - j = 0 by omega] at hgI
              refine r_iinc 94 1 1 [(0, _), (1, _), (2, _)] hZ dX5_findTwo_91 rfl rfl (by decide) (by decide) rfl rfl ?_
              refine r_goto 8 hZ dX5_findTwo_94 (by decide) ?_
              rw [nI_1]
              exact w_take 2 hZ (ih_8 (i + 1) _ (by omega) (by omega) hLj (by rw [hg, hb, f2O_f (by rw [hgI]; show ¬ (false : Bool) = true; decide), hgI]; rfl))
            · skip
              have hj := nI_nleq (by omega) (by omega) c_31
              have hbj : O - j = (O - (j + 1)) + 1 := by omega
              have hcj := nI_clamp (n := 1 + I + j) (by omega)
              have k1 := hwj (1 + I + i) (by omega)
              have k2 := hwj (1 + I + j) (by omega)
              refine r_aload_n 35 hZ 0 dX5_findTwo_34 rfl rfl rfl ?_
              refine g_X5_9 38 hZ dX5_findTwo_35 rfl ?_
              refine g_X5_78 41 hZ dX5_findTwo_38 rfl ?_
              refine r_aload_n 42 hZ 0 dX5_findTwo_41 rfl rfl rfl ?_
              refine g_X5_9 45 hZ dX5_findTwo_42 rfl ?_
              refine g_X5_68 48 hZ dX5_findTwo_45 rfl ?_
              refine r_iload_n 49 hZ 1 dX5_findTwo_48 rfl rfl rfl ?_
              refine a_c6 50 hZ (by first | assumption | exact vp_in_nI (by omega) (by decide) | (unfold vp_in; decide)) dX5_findTwo_49 rfl ?_
              rw [hci]
              refine a_c5 51 hZ (okL_in k1 (by decide)) dX5_findTwo_50 rfl ?_
              refine r_if_ne 85 54 hZ dX5_findTwo_51 (by decide) rfl (fun c_51 => ?_) (fun c_51 => ?_)
              · skip
                refine r_iinc 88 2 1 [(0, _), (1, _), (2, _)] hZ dX5_findTwo_85 rfl rfl (by decide) (by decide) rfl rfl ?_
                refine r_goto 23 hZ dX5_findTwo_88 (by decide) ?_
                rw [nI_1]
                first | exact ih_23 (j + 1) _ (by omega) (by omega) (by omega) hLj (by rw [hgI, hbj, f2I_k (fun q => c_51 q.1)]) | exact ih_23 (j + 1) _ (by omega) (by omega) (by omega) hLj (by rw [hgI, hbj, f2I_k (fun q => c_71 q.2)]) | exact ih_23 (j + 1) _ (by omega) (by omega) (by omega) (Lk_fpR I O G _ _ sj hLj) (by rw [hgI, hbj, f2I_f ⟨c_51, c_71⟩ (bI_0.mp c_80)])
              · skip
                refine r_aload_n 55 hZ 0 dX5_findTwo_54 rfl rfl rfl ?_
                refine g_X5_9 58 hZ dX5_findTwo_55 rfl ?_
                refine g_X5_78 61 hZ dX5_findTwo_58 rfl ?_
                refine r_aload_n 62 hZ 0 dX5_findTwo_61 rfl rfl rfl ?_
                refine g_X5_9 65 hZ dX5_findTwo_62 rfl ?_
                refine g_X5_68 68 hZ dX5_findTwo_65 rfl ?_
                refine r_iload_n 69 hZ 2 dX5_findTwo_68 rfl rfl rfl ?_
                refine a_c6 70 hZ (by first | assumption | exact vp_in_nI (by omega) (by decide) | (unfold vp_in; decide)) dX5_findTwo_69 rfl ?_
                rw [hcj]
                refine a_c5 71 hZ (okL_in k2 (by decide)) dX5_findTwo_70 rfl ?_
                refine r_if_ne 85 74 hZ dX5_findTwo_71 (by decide) rfl (fun c_71 => ?_) (fun c_71 => ?_)
                · skip
                  refine r_iinc 88 2 1 [(0, _), (1, _), (2, _)] hZ dX5_findTwo_85 rfl rfl (by decide) (by decide) rfl rfl ?_
                  refine r_goto 23 hZ dX5_findTwo_88 (by decide) ?_
                  rw [nI_1]
                  first | exact ih_23 (j + 1) _ (by omega) (by omega) (by omega) hLj (by rw [hgI, hbj, f2I_k (fun q => c_51 q.1)]) | exact ih_23 (j + 1) _ (by omega) (by omega) (by omega) hLj (by rw [hgI, hbj, f2I_k (fun q => c_71 q.2)]) | exact ih_23 (j + 1) _ (by omega) (by omega) (by omega) (Lk_fpR I O G _ _ sj hLj) (by rw [hgI, hbj, f2I_f ⟨c_51, c_71⟩ (bI_0.mp c_80)])
                · skip
                  refine r_aload_n 75 hZ 0 dX5_findTwo_74 rfl rfl rfl ?_
                  refine r_iload_n 76 hZ 1 dX5_findTwo_75 rfl rfl rfl ?_
                  refine r_iload_n 77 hZ 2 dX5_findTwo_76 rfl rfl rfl ?_
                  refine r_callVI (c_X5_findPair l g y ad _ (hLj.ws hs) (n := 1 + I + i) (m := 1 + I + j) (by omega) (by omega) (by omega)) wM_X5_findPair wL_X5_90 hZ rfl ⟨by decide, by decide⟩ 4 5 rfl rfl rfl rfl dX5_findTwo_77 ?_
                  refine r_if_eq 85 83 hZ dX5_findTwo_80 (by decide) rfl (fun c_80 => ?_) (fun c_80 => ?_)
                  · skip
                    refine r_iinc 88 2 1 [(0, _), (1, _), (2, _)] hZ dX5_findTwo_85 rfl rfl (by decide) (by decide) rfl rfl ?_
                    refine r_goto 23 hZ dX5_findTwo_88 (by decide) ?_
                    rw [nI_1]
                    first | exact ih_23 (j + 1) _ (by omega) (by omega) (by omega) hLj (by rw [hgI, hbj, f2I_k (fun q => c_51 q.1)]) | exact ih_23 (j + 1) _ (by omega) (by omega) (by omega) hLj (by rw [hgI, hbj, f2I_k (fun q => c_71 q.2)]) | exact ih_23 (j + 1) _ (by omega) (by omega) (by omega) (Lk_fpR I O G _ _ sj hLj) (by rw [hgI, hbj, f2I_f ⟨c_51, c_71⟩ (bI_0.mp c_80)])
                  · skip
                    have hI1 := hgI.trans (by rw [hbj, f2I_t ⟨c_51, c_71⟩ (bI_n0.mp c_80)])
                    have hT := bI_n0.mp c_80
                    rw [hg, hb, f2O_t (by rw [hI1]; exact hT), hI1] at hret
                    refine r_iconst (v := 1) 84 hZ dX5_findTwo_83 rfl (by decide) ?_
                    exact hret _ _ _ _ dX5_findTwo_84 (bI_t hT).symm rfl
        rw [nI_1]
        exact lp_23 (O + 1) (i + 1) s (by omega) (by omega) (by omega) hL rfl
  exact lp_8 (O + 1) 0 σ (by omega) (by omega) (Lk.rf σ) rfl
theorem feR_0 {σ : stT} {N I O G most : Nat} (h : dor (siF σ N (1 + I + O)) 9 G ^^^ (-1) = -1) : feR σ N I O G most = (0, siF σ N (1 + I + O)) := if_pos h
theorem feR_1 {σ : stT} {N I O G most : Nat} (h : ¬ dor (siF σ N (1 + I + O)) 9 G ^^^ (-1) = -1) (h1 : ¬ 1 ≤ most) : feR σ N I O G most = (-1, siF σ N (1 + I + O)) := (if_neg h).trans (if_neg h1)
theorem feR_2 {σ : stT} {N I O G most : Nat} (h : ¬ dor (siF σ N (1 + I + O)) 9 G ^^^ (-1) = -1) (h1 : 1 ≤ most) (hf : (f1R I O G 0 O (siF σ N (1 + I + O))).1 = true) : feR σ N I O G most = (1, (f1R I O G 0 O (siF σ N (1 + I + O))).2) := (if_neg h).trans ((if_pos h1).trans (if_pos hf))
theorem feR_3 {σ : stT} {N I O G most : Nat} (h : ¬ dor (siF σ N (1 + I + O)) 9 G ^^^ (-1) = -1) (h1 : 1 ≤ most) (hf : ¬ (f1R I O G 0 O (siF σ N (1 + I + O))).1 = true) (h2 : ¬ 2 ≤ most) : feR σ N I O G most = (-1, (f1R I O G 0 O (siF σ N (1 + I + O))).2) := (if_neg h).trans ((if_pos h1).trans ((if_neg hf).trans (if_neg h2)))
theorem feR_4 {σ : stT} {N I O G most : Nat} (h : ¬ dor (siF σ N (1 + I + O)) 9 G ^^^ (-1) = -1) (h1 : 1 ≤ most) (hf : ¬ (f1R I O G 0 O (siF σ N (1 + I + O))).1 = true) (h2 : 2 ≤ most) (hg : (f2O I O G 0 O (f1R I O G 0 O (siF σ N (1 + I + O))).2).1 = true) : feR σ N I O G most = (2, (f2O I O G 0 O (f1R I O G 0 O (siF σ N (1 + I + O))).2).2) := (if_neg h).trans ((if_pos h1).trans ((if_neg hf).trans ((if_pos h2).trans (if_pos hg))))
theorem feR_5 {σ : stT} {N I O G most : Nat} (h : ¬ dor (siF σ N (1 + I + O)) 9 G ^^^ (-1) = -1) (h1 : 1 ≤ most) (hf : ¬ (f1R I O G 0 O (siF σ N (1 + I + O))).1 = true) (h2 : 2 ≤ most) (hg : ¬ (f2O I O G 0 O (f1R I O G 0 O (siF σ N (1 + I + O))).2).1 = true) : feR σ N I O G most = (-1, (f2O I O G 0 O (f1R I O G 0 O (siF σ N (1 + I + O))).2).2) := (if_neg h).trans ((if_pos h1).trans ((if_neg hf).trans ((if_pos h2).trans (if_neg hg))))
set_option maxHeartbeats 4000000 in
set_option maxRecDepth 100000 in
theorem c_X5_fewestEdits (l : Launch) (g : va_G) (y : Nat → ClassId) (ad : Nat → Nat) (σ : Nat → Nat → Int32) {N I O G : Nat} (hs : Ws σ N I O G) {most : Nat} (hm : most ≤ 2) : w_C l g y yX5_fewestEdits cX5_fewestEdits 2 (some .int) 6 [.ref (ad 4), .int (nI most)] (cw ad y σ) (some (.int (feR σ N I O G most).1)) (cw ad y (feR σ N I O G most).2) := by
  refine w_ofI (lv0 := [(0, .ref (ad 4)), (1, .int (nI most))]) (by decide +kernel) (Nat.le_of_ble_eq_true rfl) rfl (rfl) ?_
  intro Z hZ hret
  obtain ⟨t, et⟩ : ∃ t, siF σ N (1 + I + O) = t := ⟨_, rfl⟩
  have hL : Lk σ t := et ▸ Lk_si N _
  obtain ⟨hN, hI, hO, hG, h38, h14, h4, hw, hl, hgm, hgd⟩ := hL.ws hs
  refine r_aload_n 1 hZ 0 dX5_fewestEdits_0 rfl rfl rfl ?_
  refine r_callVV (c_X5_showAsItIs l g y ad _ hs) wM_X5_showAsItIs wL_X5_33 hZ rfl ⟨by decide, by decide⟩ 4 5 rfl rfl rfl rfl dX5_fewestEdits_1 ?_
  rw [et]
  refine r_aload_n 5 hZ 0 dX5_fewestEdits_4 rfl rfl rfl ?_
  refine g_X5_15 8 hZ dX5_fewestEdits_5 rfl ?_
  refine r_aload_n 9 hZ 0 dX5_fewestEdits_8 rfl rfl rfl ?_
  refine g_X5_26 12 hZ dX5_fewestEdits_9 rfl ?_
  refine r_callVI (c_X2_agreement l g y ad _ hG h4 hgm hgd) wM_X2_agreement wL_X5_36 hZ rfl ⟨by decide, by decide⟩ 2 2 rfl rfl rfl rfl dX5_fewestEdits_12 ?_
  refine r_iconst (v := (-1)) 16 hZ dX5_fewestEdits_15 rfl (by decide) ?_
  refine r_icmp_ne 21 19 hZ dX5_fewestEdits_16 (by decide) rfl (fun c_16 => ?_) (fun c_16 => ?_)
  · skip
    have c0 : ¬ dor (siF σ N (1 + I + O)) 9 G ^^^ (-1) = -1 := by rw [et]; exact c_16
    refine r_iload_n 22 hZ 1 dX5_fewestEdits_21 rfl rfl rfl ?_
    refine r_iconst (v := 1) 23 hZ dX5_fewestEdits_22 rfl (by decide) ?_
    refine r_icmp_lt 35 26 hZ dX5_fewestEdits_23 (by decide) rfl (fun c_23 => ?_) (fun c_23 => ?_)
    · skip
      have h0 : ¬ 1 ≤ most := by have := nI_ltq (b := 1) (by omega) (by omega) c_23; omega
      refine r_iload_n 36 hZ 1 dX5_fewestEdits_35 rfl rfl rfl ?_
      refine r_iconst (v := 2) 37 hZ dX5_fewestEdits_36 rfl (by decide) ?_
      refine r_icmp_lt 49 40 hZ dX5_fewestEdits_37 (by decide) rfl (fun c_37 => ?_) (fun c_37 => absurd (nI_nltq (b := 2) (by omega) (by omega) c_37) (by omega))
      rw [feR_1 c0 h0, et] at hret
      refine r_iconst (v := (-1)) 50 hZ dX5_fewestEdits_49 rfl (by decide) ?_
      exact hret _ _ _ _ dX5_fewestEdits_50 rfl rfl
    · skip
      have h1 := nI_nltq (b := 1) (by omega) (by omega) c_23
      refine r_aload_n 27 hZ 0 dX5_fewestEdits_26 rfl rfl rfl ?_
      refine r_callVI (c_X5_findOne l g y ad _ (hL.ws hs)) wM_X5_findOne wL_X5_42 hZ rfl ⟨by decide, by decide⟩ 4 5 rfl rfl rfl rfl dX5_fewestEdits_27 ?_
      refine r_if_eq 35 33 hZ dX5_fewestEdits_30 (by decide) rfl (fun c_30 => ?_) (fun c_30 => ?_)
      · skip
        have c1 : ¬ (f1R I O G 0 O (siF σ N (1 + I + O))).1 = true := by rw [et]; exact bI_0.mp c_30
        refine r_iload_n 36 hZ 1 dX5_fewestEdits_35 rfl rfl rfl ?_
        refine r_iconst (v := 2) 37 hZ dX5_fewestEdits_36 rfl (by decide) ?_
        refine r_icmp_lt 49 40 hZ dX5_fewestEdits_37 (by decide) rfl (fun c_37 => ?_) (fun c_37 => ?_)
        · skip
          rw [feR_3 c0 h1 c1 (by have := nI_ltq (b := 2) (by omega) (by omega) c_37; omega), et] at hret
          refine r_iconst (v := (-1)) 50 hZ dX5_fewestEdits_49 rfl (by decide) ?_
          exact hret _ _ _ _ dX5_fewestEdits_50 rfl rfl
        · skip
          have h2 := nI_nltq (b := 2) (by omega) (by omega) c_37
          refine r_aload_n 41 hZ 0 dX5_fewestEdits_40 rfl rfl rfl ?_
          refine r_callVI (c_X5_findTwo l g y ad (f1R I O G 0 O t).2 ((Lk_f1 I O G O 0 t hL).ws hs)) wM_X5_findTwo wL_X5_46 hZ rfl ⟨by decide, by decide⟩ 4 5 rfl rfl rfl rfl dX5_fewestEdits_41 ?_
          refine r_if_eq 49 47 hZ dX5_fewestEdits_44 (by decide) rfl (fun c_44 => ?_) (fun c_44 => ?_)
          · skip
            rw [feR_5 c0 h1 c1 h2 (by rw [et]; exact bI_0.mp c_44), et] at hret
            refine r_iconst (v := (-1)) 50 hZ dX5_fewestEdits_49 rfl (by decide) ?_
            exact hret _ _ _ _ dX5_fewestEdits_50 rfl rfl
          · skip
            rw [feR_4 c0 h1 c1 h2 (by rw [et]; exact bI_n0.mp c_44), et] at hret
            refine r_iconst (v := 2) 48 hZ dX5_fewestEdits_47 rfl (by decide) ?_
            exact hret _ _ _ _ dX5_fewestEdits_48 rfl rfl
      · skip
        rw [feR_2 c0 h1 (by rw [et]; exact bI_n0.mp c_30), et] at hret
        refine r_iconst (v := 1) 34 hZ dX5_fewestEdits_33 rfl (by decide) ?_
        exact hret _ _ _ _ dX5_fewestEdits_34 rfl rfl
  · skip
    rw [feR_0 (by rw [et]; exact c_16), et] at hret
    refine r_iconst (v := 0) 20 hZ dX5_fewestEdits_19 rfl (by decide) ?_
    exact hret _ _ _ _ dX5_fewestEdits_20 rfl rfl
set_option maxHeartbeats 4000000 in
set_option maxRecDepth 100000 in
theorem c_X6_take_0 (l : Launch) (g : va_G) (y : Nat → ClassId) (ad : Nat → Nat) (σ : Nat → Nat → Int32) {S : Nat} (hS : σ 0 6 = nI S) (hS6 : S ≤ 6) : w_C l g y yX6_take cX6_take 3 none 3 [.ref (ad 5), .ref (ad 23), .int 0] (cw ad y σ) none (cw ad y (takeF σ 0 S)) := by
  refine w_ofV (lv0 := [(0, .ref (ad 5)), (1, .ref (ad 23)), (2, .int 0)]) (by decide +kernel) (Nat.le_of_ble_eq_true rfl) rfl ?_
  intro Z hZ hret
  refine r_aload_n 1 hZ 0 dX6_take_0 rfl rfl rfl ?_
  refine g_X6_15 4 hZ dX6_take_1 rfl ?_
  refine r_iconst (v := 0) 5 hZ dX6_take_4 rfl (by decide) ?_
  refine r_iconst (v := (-1)) 6 hZ dX6_take_5 rfl (by decide) ?_
  refine s_c15 7 hZ (by first | assumption | exact vp_in_nI (by omega) (by decide) | (unfold vp_in; decide)) dX6_take_6 rfl ?_
  refine r_aload_n 8 hZ 0 dX6_take_7 rfl rfl rfl ?_
  refine g_X6_15 11 hZ dX6_take_8 rfl ?_
  refine r_iconst (v := 1) 12 hZ dX6_take_11 rfl (by decide) ?_
  refine r_iconst (v := (-1)) 13 hZ dX6_take_12 rfl (by decide) ?_
  refine s_c15 14 hZ (by first | assumption | exact vp_in_nI (by omega) (by decide) | (unfold vp_in; decide)) dX6_take_13 rfl ?_
  refine r_aload_n 15 hZ 0 dX6_take_14 rfl rfl rfl ?_
  refine r_iload_n 16 hZ 2 dX6_take_15 rfl rfl rfl ?_
  refine r_if_ne 23 19 hZ dX6_take_16 (by decide) rfl (fun c_16 => ?_) (fun c_16 => ?_)
  · skip
    exact absurd rfl c_16
  · skip
    refine r_iconst (v := 0) 20 hZ dX6_take_19 rfl (by decide) ?_
    refine r_goto 24 hZ dX6_take_20 (by decide) ?_
    refine p_X6_19 27 hZ dX6_take_24 rfl ?_
    refine r_iload_n 28 hZ 2 dX6_take_27 rfl rfl rfl ?_
    refine r_iconst (v := 1) 29 hZ dX6_take_28 rfl (by decide) ?_
    refine r_icmp_ne 45 32 hZ dX6_take_29 (by decide) rfl (fun c_29 => ?_) (fun c_29 => ?_)
    · skip
      refine r_iload_n 46 hZ 2 dX6_take_45 rfl rfl rfl ?_
      refine r_iconst (v := 2) 47 hZ dX6_take_46 rfl (by decide) ?_
      refine r_icmp_ne 66 50 hZ dX6_take_47 (by decide) rfl (fun c_47 => ?_) (fun c_47 => ?_)
      · skip
        exact hret _ _ _ dX6_take_66 rfl
      · skip
        exact absurd c_47 (by decide)
    · skip
      exact absurd c_29 (by decide)
set_option maxHeartbeats 4000000 in
set_option maxRecDepth 100000 in
theorem c_X6_take_1 (l : Launch) (g : va_G) (y : Nat → ClassId) (ad : Nat → Nat) (σ : Nat → Nat → Int32) {S : Nat} (hS : σ 0 6 = nI S) (hS6 : S ≤ 6) (h0 : okL (σ 17 0) 38) : w_C l g y yX6_take cX6_take 3 none 3 [.ref (ad 5), .ref (ad 23), .int 1] (cw ad y σ) none (cw ad y (takeF σ 1 S)) := by
  refine w_ofV (lv0 := [(0, .ref (ad 5)), (1, .ref (ad 23)), (2, .int 1)]) (by decide +kernel) (Nat.le_of_ble_eq_true rfl) rfl ?_
  intro Z hZ hret
  refine r_aload_n 1 hZ 0 dX6_take_0 rfl rfl rfl ?_
  refine g_X6_15 4 hZ dX6_take_1 rfl ?_
  refine r_iconst (v := 0) 5 hZ dX6_take_4 rfl (by decide) ?_
  refine r_iconst (v := (-1)) 6 hZ dX6_take_5 rfl (by decide) ?_
  refine s_c15 7 hZ (by first | assumption | exact vp_in_nI (by omega) (by decide) | (unfold vp_in; decide)) dX6_take_6 rfl ?_
  refine r_aload_n 8 hZ 0 dX6_take_7 rfl rfl rfl ?_
  refine g_X6_15 11 hZ dX6_take_8 rfl ?_
  refine r_iconst (v := 1) 12 hZ dX6_take_11 rfl (by decide) ?_
  refine r_iconst (v := (-1)) 13 hZ dX6_take_12 rfl (by decide) ?_
  refine s_c15 14 hZ (by first | assumption | exact vp_in_nI (by omega) (by decide) | (unfold vp_in; decide)) dX6_take_13 rfl ?_
  refine r_aload_n 15 hZ 0 dX6_take_14 rfl rfl rfl ?_
  refine r_iload_n 16 hZ 2 dX6_take_15 rfl rfl rfl ?_
  refine r_if_ne 23 19 hZ dX6_take_16 (by decide) rfl (fun c_16 => ?_) (fun c_16 => ?_)
  · skip
    refine r_iconst (v := (-1)) 24 hZ dX6_take_23 rfl (by decide) ?_
    refine p_X6_19 27 hZ dX6_take_24 rfl ?_
    refine r_iload_n 28 hZ 2 dX6_take_27 rfl rfl rfl ?_
    refine r_iconst (v := 1) 29 hZ dX6_take_28 rfl (by decide) ?_
    refine r_icmp_ne 45 32 hZ dX6_take_29 (by decide) rfl (fun c_29 => ?_) (fun c_29 => ?_)
    · skip
      exact absurd rfl c_29
    · skip
      refine r_aload_n 33 hZ 0 dX6_take_32 rfl rfl rfl ?_
      refine r_aload_n 34 hZ 1 dX6_take_33 rfl rfl rfl ?_
      refine r_iconst (v := 0) 35 hZ dX6_take_34 rfl (by decide) ?_
      refine a_cS 36 hZ (by first | assumption | exact vp_in_nI (by omega) (by decide) | (unfold vp_in; decide)) dX6_take_35 rfl ?_
      refine g_X6_23 39 hZ (by decide) dX6_take_36 rfl ?_
      refine w_eqI (h0.1) ?_
      refine r_callVV (c_X6_takeForOne l g y ad _ (S := S) h0.2 (by exact hS) hS6) wM_X6_takeForOne wL_X6_28 hZ rfl ⟨by decide, by decide⟩ 5 6 rfl rfl rfl rfl dX6_take_39 ?_
      refine r_goto 66 hZ dX6_take_42 (by decide) ?_
      exact hret _ _ _ dX6_take_66 rfl
  · skip
    exact absurd c_16 (by decide)
set_option maxHeartbeats 4000000 in
set_option maxRecDepth 100000 in
theorem c_X6_take_2 (l : Launch) (g : va_G) (y : Nat → ClassId) (ad : Nat → Nat) (σ : Nat → Nat → Int32) {S : Nat} (hS : σ 0 6 = nI S) (hS6 : S ≤ 6) (h0 : okL (σ 17 0) 38) (h1 : okL (σ 17 1) 38) : w_C l g y yX6_take cX6_take 3 none 3 [.ref (ad 5), .ref (ad 23), .int 2] (cw ad y σ) none (cw ad y (takeF σ 2 S)) := by
  refine w_ofV (lv0 := [(0, .ref (ad 5)), (1, .ref (ad 23)), (2, .int 2)]) (by decide +kernel) (Nat.le_of_ble_eq_true rfl) rfl ?_
  intro Z hZ hret
  refine r_aload_n 1 hZ 0 dX6_take_0 rfl rfl rfl ?_
  refine g_X6_15 4 hZ dX6_take_1 rfl ?_
  refine r_iconst (v := 0) 5 hZ dX6_take_4 rfl (by decide) ?_
  refine r_iconst (v := (-1)) 6 hZ dX6_take_5 rfl (by decide) ?_
  refine s_c15 7 hZ (by first | assumption | exact vp_in_nI (by omega) (by decide) | (unfold vp_in; decide)) dX6_take_6 rfl ?_
  refine r_aload_n 8 hZ 0 dX6_take_7 rfl rfl rfl ?_
  refine g_X6_15 11 hZ dX6_take_8 rfl ?_
  refine r_iconst (v := 1) 12 hZ dX6_take_11 rfl (by decide) ?_
  refine r_iconst (v := (-1)) 13 hZ dX6_take_12 rfl (by decide) ?_
  refine s_c15 14 hZ (by first | assumption | exact vp_in_nI (by omega) (by decide) | (unfold vp_in; decide)) dX6_take_13 rfl ?_
  refine r_aload_n 15 hZ 0 dX6_take_14 rfl rfl rfl ?_
  refine r_iload_n 16 hZ 2 dX6_take_15 rfl rfl rfl ?_
  refine r_if_ne 23 19 hZ dX6_take_16 (by decide) rfl (fun c_16 => ?_) (fun c_16 => ?_)
  · skip
    refine r_iconst (v := (-1)) 24 hZ dX6_take_23 rfl (by decide) ?_
    refine p_X6_19 27 hZ dX6_take_24 rfl ?_
    refine r_iload_n 28 hZ 2 dX6_take_27 rfl rfl rfl ?_
    refine r_iconst (v := 1) 29 hZ dX6_take_28 rfl (by decide) ?_
    refine r_icmp_ne 45 32 hZ dX6_take_29 (by decide) rfl (fun c_29 => ?_) (fun c_29 => ?_)
    · skip
      refine r_iload_n 46 hZ 2 dX6_take_45 rfl rfl rfl ?_
      refine r_iconst (v := 2) 47 hZ dX6_take_46 rfl (by decide) ?_
      refine r_icmp_ne 66 50 hZ dX6_take_47 (by decide) rfl (fun c_47 => ?_) (fun c_47 => ?_)
      · skip
        exact absurd rfl c_47
      · skip
        refine r_aload_n 51 hZ 0 dX6_take_50 rfl rfl rfl ?_
        refine r_aload_n 52 hZ 1 dX6_take_51 rfl rfl rfl ?_
        refine r_iconst (v := 0) 53 hZ dX6_take_52 rfl (by decide) ?_
        refine a_cS 54 hZ (by first | assumption | exact vp_in_nI (by omega) (by decide) | (unfold vp_in; decide)) dX6_take_53 rfl ?_
        refine g_X6_23 57 hZ (by decide) dX6_take_54 rfl ?_
        refine w_eqI (h0.1) ?_
        refine r_aload_n 58 hZ 1 dX6_take_57 rfl rfl rfl ?_
        refine r_iconst (v := 1) 59 hZ dX6_take_58 rfl (by decide) ?_
        refine a_cS 60 hZ (by first | assumption | exact vp_in_nI (by omega) (by decide) | (unfold vp_in; decide)) dX6_take_59 rfl ?_
        refine g_X6_23 63 hZ (by decide) dX6_take_60 rfl ?_
        refine w_eqI (h1.1) ?_
        refine r_callVV (c_X6_takeForTwo l g y ad _ (S := S) h0.2 h1.2 (by exact hS) hS6) wM_X6_takeForTwo wL_X6_32 hZ rfl ⟨by decide, by decide⟩ 5 6 rfl rfl rfl rfl dX6_take_63 ?_
        exact hret _ _ _ dX6_take_66 rfl
    · skip
      exact absurd c_29 (by decide)
  · skip
    exact absurd c_16 (by decide)
set_option maxHeartbeats 4000000 in
set_option maxRecDepth 100000 in
theorem c_X4_remember (l : Launch) (g : va_G) (y : Nat → ClassId) (ad : Nat → Nat) (σ : Nat → Nat → Int32) {M r : Nat} (hM : σ 0 8 = nI M) (hM20 : M < 20) (hr : r ≤ 2) (hk : ∀ k, k < r → okL (σ 17 k) 38) : w_C l g y yX4_remember cX4_remember 6 none 1 [.ref (ad 6), .ref (ad 1), .ref (ad 23), .int (nI r)] (cw ad y σ) none (cw ad y (rememberF σ M r)) := by
  refine w_ofV (lv0 := [(0, .ref (ad 6)), (1, .ref (ad 1)), (2, .ref (ad 23)), (3, .int (nI r))]) (by decide +kernel) (Nat.le_of_ble_eq_true rfl) rfl ?_
  intro Z hZ hret
  have hcM := nI_clamp (n := M) (by omega)
  refine r_iconst (v := 0) 1 hZ dX4_remember_0 rfl (by decide) ?_
  refine r_istN (q := 0) 3 [(0, _), (1, _), (2, _), (3, _), (4, _)] hZ dX4_remember_1 rfl (by decide) rfl rfl ?_
  have lp_3 : ∀ (n : Nat) (i : Nat), i ≤ r → r + 1 ≤ i + n → Z 0 0 (cw ad y (rmF σ M i)) 3 [(0, .ref (ad 6)), (1, .ref (ad 1)), (2, .ref (ad 23)), (3, .int (nI r)), (4, .int (nI i))] [] := by
    intro n
    induction n with
    | zero => intro i h1 hn_3; exact absurd hn_3 (by omega)
    | succ n ih_3 =>
      intro i h1 hn_3
      refine r_iload 5 hZ 4 dX4_remember_3 rfl rfl ?_
      refine r_iload_n 6 hZ 3 dX4_remember_5 rfl rfl rfl ?_
      refine r_icmp_ge 57 9 hZ dX4_remember_6 (by decide) rfl (fun c_6 => ?_) (fun c_6 => ?_)
      · skip
        have hi := nI_leq (by omega) (by omega) c_6
        have hi : i = r := by omega
        subst hi
        have hm := (congrFun (rmF_k σ M 0 (by decide) (by decide) (by decide) i) 8).trans hM
        refine r_aload_n 58 hZ 0 dX4_remember_57 rfl rfl rfl ?_
        refine g_X4_18 61 hZ dX4_remember_58 rfl ?_
        refine r_aload_n 62 hZ 0 dX4_remember_61 rfl rfl rfl ?_
        refine g_X4_26 65 hZ dX4_remember_62 rfl ?_
        refine w_eqI (hm) ?_
        refine r_iload_n 66 hZ 3 dX4_remember_65 rfl rfl rfl ?_
        refine s_c16 67 hZ (by first | assumption | exact vp_in_nI (by omega) (by decide) | (unfold vp_in; decide)) dX4_remember_66 rfl ?_
        rw [hcM]
        refine r_aload_n 68 hZ 0 dX4_remember_67 rfl rfl rfl ?_
        refine r_dup 69 hZ dX4_remember_68 rfl rfl ?_
        refine g_X4_26 72 hZ dX4_remember_69 rfl ?_
        refine w_eqI (hm) ?_
        refine r_iconst (v := 1) 73 hZ dX4_remember_72 rfl (by decide) ?_
        refine r_iadd 74 hZ dX4_remember_73 rfl ?_
        rw [nI_1]
        refine p_X4_26 77 hZ dX4_remember_74 rfl ?_
        exact hret _ _ _ dX4_remember_77 rfl
      · skip
        have hi := nI_nleq (by omega) (by omega) c_6
        have hci := nI_clamp (n := i) (by omega)
        have hm := (congrFun (rmF_k σ M 0 (by decide) (by decide) (by decide) i) 8).trans hM
        have hcm := nI_clamp (n := 2 * M + i) (by omega)
        have e17 : okL (rmF σ M i 17 i) 38 := by rw [rmF_17 σ M i (by omega) i]; exact hk i hi
        refine r_aload_n 10 hZ 2 dX4_remember_9 rfl rfl rfl ?_
        refine r_iload 12 hZ 4 dX4_remember_10 rfl rfl ?_
        refine a_cS 13 hZ (by first | assumption | exact vp_in_nI (by omega) (by decide) | (unfold vp_in; decide)) dX4_remember_12 rfl ?_
        rw [hci]
        refine g_X4_22 16 hZ (by omega) dX4_remember_13 rfl ?_
        refine r_istN (q := 0) 18 [(0, _), (1, _), (2, _), (3, _), (4, _), (5, _)] hZ dX4_remember_16 rfl (by decide) rfl rfl ?_
        refine r_aload_n 19 hZ 0 dX4_remember_18 rfl rfl rfl ?_
        refine g_X4_11 22 hZ dX4_remember_19 rfl ?_
        refine r_aload_n 23 hZ 0 dX4_remember_22 rfl rfl rfl ?_
        refine g_X4_26 26 hZ dX4_remember_23 rfl ?_
        refine w_eqI (hm) ?_
        refine r_iconst (v := 2) 27 hZ dX4_remember_26 rfl (by decide) ?_
        refine r_imul 28 hZ dX4_remember_27 rfl ?_
        rw [show nI M * 2 = nI (2 * M) by rw [show (2 : Int32) = nI 2 from rfl, pk_mul, Nat.mul_comm]]
        refine r_iload 30 hZ 4 dX4_remember_28 rfl rfl ?_
        refine r_iadd 31 hZ dX4_remember_30 rfl ?_
        rw [nI_add]
        refine a_cP 32 hZ (by first | assumption | exact vp_in_nI (by omega) (by decide) | (unfold vp_in; decide)) dX4_remember_31 rfl ?_
        rw [hcm]
        refine r_iload 34 hZ 5 dX4_remember_32 rfl rfl ?_
        refine r_aload_n 35 hZ 1 dX4_remember_34 rfl rfl rfl ?_
        refine g_X4_29 38 hZ dX4_remember_35 rfl ?_
        refine r_iload 40 hZ 5 dX4_remember_38 rfl rfl ?_
        refine a_c2 41 hZ (okL_in e17 (by decide)) dX4_remember_40 rfl ?_
        refine r_aload_n 42 hZ 1 dX4_remember_41 rfl rfl rfl ?_
        refine g_X4_34 45 hZ dX4_remember_42 rfl ?_
        refine r_iload 47 hZ 5 dX4_remember_45 rfl rfl ?_
        refine a_c3 48 hZ (okL_in e17 (by decide)) dX4_remember_47 rfl ?_
        refine r_callVV (c_X1_put l g y ad _ (j := 2 + (2 * M + i)) (by omega) _ _ _) wM_X1_put wL_X4_37 hZ rfl ⟨by decide, by decide⟩ _ 1 (cw_E (by omega)) rfl rfl rfl dX4_remember_48 ?_
        refine r_iinc 54 4 1 [(0, _), (1, _), (2, _), (3, _), (4, _), (5, _)] hZ dX4_remember_51 rfl rfl (by decide) (by decide) rfl rfl ?_
        refine r_goto 3 hZ dX4_remember_54 (by decide) ?_
        rw [nI_1]
        exact w_take 5 hZ (ih_3 (i + 1) (by omega) (by omega))
  exact lp_3 (r + 1) 0 (by omega) (by omega)
set_option maxHeartbeats 4000000 in
set_option maxRecDepth 100000 in
theorem c_X4_takeBackLast (l : Launch) (g : va_G) (y : Nat → ClassId) (ad : Nat → Nat) (σ : Nat → Nat → Int32) {M r : Nat} (hM : σ 0 8 = nI (M + 1)) (hM20 : M < 20) (hr : r ≤ 2) (hsz : σ 16 M = nI r) (hk : ∀ k, k < r → okL (σ 17 (2 + (2 * M + k))) 38) : w_C l g y yX4_takeBackLast cX4_takeBackLast 3 none 1 [.ref (ad 6), .ref (ad 1)] (cw ad y σ) none (cw ad y (tbF σ M r)) := by
  refine w_ofV (lv0 := [(0, .ref (ad 6)), (1, .ref (ad 1))]) (by decide +kernel) (Nat.le_of_ble_eq_true rfl) rfl ?_
  intro Z hZ hret
  have hcM := nI_clamp (n := M) (by omega)
  refine r_aload_n 1 hZ 0 dX4_takeBackLast_0 rfl rfl rfl ?_
  refine r_dup 2 hZ dX4_takeBackLast_1 rfl rfl ?_
  refine g_X4_26 5 hZ dX4_takeBackLast_2 rfl ?_
  refine w_eqI (hM) ?_
  refine r_iconst (v := 1) 6 hZ dX4_takeBackLast_5 rfl (by decide) ?_
  refine r_isub 7 hZ dX4_takeBackLast_6 rfl ?_
  rw [show nI (M + 1) - 1 = nI M from nI_pred M]
  refine p_X4_26 10 hZ dX4_takeBackLast_7 rfl ?_
  refine r_iconst (v := 0) 11 hZ dX4_takeBackLast_10 rfl (by decide) ?_
  refine r_istnN 12 [(0, _), (1, _), (2, _)] hZ dX4_takeBackLast_11 rfl rfl (by decide) rfl rfl ?_
  have lp_12 : ∀ (n : Nat) (i : Nat), i ≤ r → r + 1 ≤ i + n → Z 0 0 (cw ad y (tbF σ M i)) 12 [(0, .ref (ad 6)), (1, .ref (ad 1)), (2, .int (nI i))] [] := by
    intro n
    induction n with
    | zero => intro i h1 hn_12; exact absurd hn_12 (by omega)
    | succ n ih_12 =>
      intro i h1 hn_12
      refine r_iload_n 13 hZ 2 dX4_takeBackLast_12 rfl rfl rfl ?_
      refine r_aload_n 14 hZ 0 dX4_takeBackLast_13 rfl rfl rfl ?_
      refine g_X4_18 17 hZ dX4_takeBackLast_14 rfl ?_
      refine r_aload_n 18 hZ 0 dX4_takeBackLast_17 rfl rfl rfl ?_
      refine g_X4_26 21 hZ dX4_takeBackLast_18 rfl ?_
      refine w_eqI (tbF_8 σ M i) ?_
      refine a_c16 22 hZ (by first | assumption | exact vp_in_nI (by omega) (by decide) | (unfold vp_in; decide)) dX4_takeBackLast_21 rfl ?_
      rw [hcM, tbF_k σ M 16 (by decide) (by decide) (by decide) i, hsz]
      refine r_icmp_ge 48 25 hZ dX4_takeBackLast_22 (by decide) rfl (fun c_22 => ?_) (fun c_22 => ?_)
      · skip
        have hi := nI_leq (by omega) (by omega) c_22
        have hi : i = r := by omega
        subst hi
        exact hret _ _ _ dX4_takeBackLast_48 rfl
      · skip
        have hi := nI_nleq (by omega) (by omega) c_22
        have hcm := nI_clamp (n := 2 * M + i) (by omega)
        refine r_aload_n 26 hZ 1 dX4_takeBackLast_25 rfl rfl rfl ?_
        refine r_aload_n 27 hZ 0 dX4_takeBackLast_26 rfl rfl rfl ?_
        refine g_X4_11 30 hZ dX4_takeBackLast_27 rfl ?_
        refine r_aload_n 31 hZ 0 dX4_takeBackLast_30 rfl rfl rfl ?_
        refine g_X4_26 34 hZ dX4_takeBackLast_31 rfl ?_
        refine w_eqI (tbF_8 σ M i) ?_
        refine r_iconst (v := 2) 35 hZ dX4_takeBackLast_34 rfl (by decide) ?_
        refine r_imul 36 hZ dX4_takeBackLast_35 rfl ?_
        rw [show nI M * 2 = nI (2 * M) by rw [show (2 : Int32) = nI 2 from rfl, pk_mul, Nat.mul_comm]]
        refine r_iload_n 37 hZ 2 dX4_takeBackLast_36 rfl rfl rfl ?_
        refine r_iadd 38 hZ dX4_takeBackLast_37 rfl ?_
        rw [nI_add]
        refine a_cP 39 hZ (by first | assumption | exact vp_in_nI (by omega) (by decide) | (unfold vp_in; decide)) dX4_takeBackLast_38 rfl ?_
        rw [hcm]
        refine r_callVV (c_X3_rewire l g y ad _ (j := 2 + (2 * M + i)) (by omega) (by rw [tbF_k σ M 17 (by decide) (by decide) (by decide) i]; exact hk i hi)) wM_X3_rewire wL_X4_41 hZ rfl ⟨by decide, by decide⟩ 1 3 rfl rfl rfl rfl dX4_takeBackLast_39 ?_
        refine r_iinc 45 2 1 [(0, _), (1, _), (2, _)] hZ dX4_takeBackLast_42 rfl rfl (by decide) (by decide) rfl rfl ?_
        refine r_goto 12 hZ dX4_takeBackLast_45 (by decide) ?_
        rw [nI_1]
        exact ih_12 (i + 1) (by omega) (by omega)
  exact lp_12 (r + 1) 0 (by omega) (by omega)
set_option maxHeartbeats 4000000 in
set_option maxRecDepth 100000 in
theorem c_X7_differing (l : Launch) (g : va_G) (y : Nat → ClassId) (ad : Nat → Nat) (σ : Nat → Nat → Int32) {N I O G : Nat} (hs : Ws σ N I O G) : w_C l g y yX7_differing cX7_differing 3 (some .int) 2 [.ref (ad 0)] (cw ad y σ) (some (.int (nI (cnt (fun i => ¬ df σ 4 i = 0) G)))) (cw ad y σ) := by
  refine w_ofI (lv0 := [(0, .ref (ad 0))]) (by decide +kernel) (Nat.le_of_ble_eq_true rfl) rfl (rfl) ?_
  intro Z hZ hret
  obtain ⟨hN, hI, hO, hG, h38, h14, h4, hw, hl, hgm, hgd⟩ := hs
  refine r_iconst (v := 0) 1 hZ dX7_differing_0 rfl (by decide) ?_
  refine r_istnN 2 [(0, _), (1, _)] hZ dX7_differing_1 rfl rfl (by decide) rfl rfl ?_
  refine r_iconst (v := 0) 3 hZ dX7_differing_2 rfl (by decide) ?_
  refine r_istnN 4 [(0, _), (1, _), (2, _)] hZ dX7_differing_3 rfl rfl (by decide) rfl rfl ?_
  have lp_4 : ∀ (n : Nat) (i : Nat), i ≤ G → G + 1 ≤ i + n → Z 0 0 (cw ad y σ) 4 [(0, .ref (ad 0)), (1, .int (nI (cnt (fun i => ¬ df σ 4 i = 0) i))), (2, .int (nI i))] [] := by
    intro n
    induction n with
    | zero => intro i h1 hn_4; exact absurd hn_4 (by omega)
    | succ n ih_4 =>
      intro i h1 hn_4
      refine r_iload_n 5 hZ 2 dX7_differing_4 rfl rfl rfl ?_
      refine r_aload_n 6 hZ 0 dX7_differing_5 rfl rfl rfl ?_
      refine g_X7_19 9 hZ dX7_differing_6 rfl ?_
      refine g_X7_117 12 hZ dX7_differing_9 rfl ?_
      refine w_eqI (hG) ?_
      refine r_icmp_ge 42 15 hZ dX7_differing_12 (by decide) rfl (fun c_12 => ?_) (fun c_12 => ?_)
      · skip
        have hi := nI_leq (by omega) (by omega) c_12
        have hi : i = G := by omega
        subst hi
        refine r_iload_n 43 hZ 1 dX7_differing_42 rfl rfl rfl ?_
        exact hret _ _ _ _ dX7_differing_43 rfl rfl
      · skip
        have hi := nI_nleq (by omega) (by omega) c_12
        refine r_aload_n 16 hZ 0 dX7_differing_15 rfl rfl rfl ?_
        refine g_X7_19 19 hZ dX7_differing_16 rfl ?_
        refine r_aload_n 20 hZ 0 dX7_differing_19 rfl rfl rfl ?_
        refine g_X7_12 23 hZ dX7_differing_20 rfl ?_
        refine g_X7_127 26 hZ dX7_differing_23 rfl ?_
        refine r_iload_n 27 hZ 2 dX7_differing_26 rfl rfl rfl ?_
        refine r_callVI (c_X2_difference_4 l g y ad σ (i := i) (by omega) (hgm i hi) (hgd i hi)) wM_X2_difference wL_X7_135 hZ rfl ⟨by decide, by decide⟩ 2 2 rfl rfl rfl rfl dX7_differing_27 ?_
        refine r_if_eq 36 33 hZ dX7_differing_30 (by decide) rfl (fun c_30 => ?_) (fun c_30 => ?_)
        · skip
          have hk := cnt_f (P := fun i => ¬ df σ 4 i = 0) (i := i) (fun q => q c_30)
          rw [← hk]
          first | rw [nI_1, ← hk] | skip
          refine r_iinc 39 2 1 [(0, _), (1, _), (2, _)] hZ dX7_differing_36 rfl rfl (by decide) (by decide) rfl rfl ?_
          refine r_goto 4 hZ dX7_differing_39 (by decide) ?_
          rw [nI_1]
          exact ih_4 (i + 1) (by omega) (by omega)
        · skip
          have hk := cnt_t (P := fun i => ¬ df σ 4 i = 0) (i := i) c_30
          refine r_iinc 36 1 1 [(0, _), (1, _), (2, _)] hZ dX7_differing_33 rfl rfl (by decide) (by decide) rfl rfl ?_
          first | rw [nI_1, ← hk] | skip
          refine r_iinc 39 2 1 [(0, _), (1, _), (2, _)] hZ dX7_differing_36 rfl rfl (by decide) (by decide) rfl rfl ?_
          refine r_goto 4 hZ dX7_differing_39 (by decide) ?_
          rw [nI_1]
          exact ih_4 (i + 1) (by omega) (by omega)
  exact lp_4 (G + 1) 0 (by omega) (by omega)
