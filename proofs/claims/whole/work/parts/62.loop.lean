/-! the law's loop, and its beginning -/
section LOP
variable {l : Launch} {g : va_G} {y : Nat → ClassId} {Z : Nat → Nat → va_W → Nat → List (Nat × Value) → List Value → Prop} {b L ao : Nat} {xs : Nat → Int32} {aC aR : Nat → Nat}
set_option maxHeartbeats 4000000 in
set_option maxRecDepth 100000 in
theorem law_round {σ τ : stT} {ρ : rtT} {f : Nat → Int64} {i k n : Nat} (hst : l.stackTraces = false) (hL : L ≤ 3072) (hZ : w_IsL l g y Z b L xs) (hi : i + 6 ≤ L) (hk : k + 1 ≤ room_1.cells) (hn : n + 6 ≤ room_1.slots) (hI0 : Inv σ τ ρ) (next : ∀ (k2 n2 : Nat) (σ2 τ2 : stT) (ρ2 : rtT) (f2 : Nat → Int64), Inv σ2 τ2 ρ2 → k2 ≤ k + 1 → n2 ≤ n + 6 → Z k2 n2 (hw aC y σ2 ao f2 ++ rw aR y τ2 ρ2) 1367 [(0, .ref b), (1, .ref (aC 0)), (2, .ref (aR 0)), (3, .ref ao), (4, .int (nI i))] []) : Z k n (hw aC y σ ao f ++ rw aR y τ ρ) 33 [(0, .ref b), (1, .ref (aC 0)), (2, .ref (aR 0)), (3, .ref ao), (4, .int (nI i))] [] := by
  have hI := hZ.e.is
  refine r_aload_n 34 hI 0 dL_law_33 rfl rfl rfl ?_
  refine r_iload 36 hI 4 dL_law_34 rfl rfl ?_
  refine r_sld0 37 hZ (by omega) hL dL_law_36 rfl ?_
  refine r_bipush (v := 31) 39 hI dL_law_37 rfl (by decide) ?_
  refine r_iand 40 hI dL_law_39 rfl ?_
  obtain ⟨j, hj, ej⟩ := pk_andE (xs i) (m := 31) 5 (by decide)
  rw [ej]
  have hj : j < 32 := hj
  by_cases h20 : j < 20
  · rcases (show j = 0 ∨ j = 1 ∨ j = 2 ∨ j = 3 ∨ j = 4 ∨ j = 5 ∨ j = 6 ∨ j = 7 ∨ j = 8 ∨ j = 9 ∨ j = 10 ∨ j = 11 ∨ j = 12 ∨ j = 13 ∨ j = 14 ∨ j = 15 ∨ j = 16 ∨ j = 17 ∨ j = 18 ∨ j = 19 by omega) with rfl | rfl | rfl | rfl | rfl | rfl | rfl | rfl | rfl | rfl | rfl | rfl | rfl | rfl | rfl | rfl | rfl | rfl | rfl | rfl
    · exact r_tabIn (off := 96) 136 hZ dL_law_40 (by decide +kernel) (by decide +kernel) (by decide +kernel) (by decide) (law_0 hst hL hZ hi hk hn hI0 next)
    · exact r_tabIn (off := 140) 180 hZ dL_law_40 (by decide +kernel) (by decide +kernel) (by decide +kernel) (by decide) (law_1 hst hL hZ hi hk hn hI0 next)
    · exact r_tabIn (off := 208) 248 hZ dL_law_40 (by decide +kernel) (by decide +kernel) (by decide +kernel) (by decide) (law_2 hst hL hZ hi hk hn hI0 next)
    · exact r_tabIn (off := 276) 316 hZ dL_law_40 (by decide +kernel) (by decide +kernel) (by decide +kernel) (by decide) (law_3 hst hL hZ hi hk hn hI0 next)
    · exact r_tabIn (off := 344) 384 hZ dL_law_40 (by decide +kernel) (by decide +kernel) (by decide +kernel) (by decide) (law_4 hst hL hZ hi hk hn hI0 next)
    · exact r_tabIn (off := 412) 452 hZ dL_law_40 (by decide +kernel) (by decide +kernel) (by decide +kernel) (by decide) (law_5 hst hL hZ hi hk hn hI0 next)
    · exact r_tabIn (off := 425) 465 hZ dL_law_40 (by decide +kernel) (by decide +kernel) (by decide +kernel) (by decide) (law_6 hst hL hZ hi hk hn hI0 next)
    · exact r_tabIn (off := 481) 521 hZ dL_law_40 (by decide +kernel) (by decide +kernel) (by decide +kernel) (by decide) (law_7 hst hL hZ hi hk hn hI0 next)
    · exact r_tabIn (off := 537) 577 hZ dL_law_40 (by decide +kernel) (by decide +kernel) (by decide +kernel) (by decide) (law_8 hst hL hZ hi hk hn hI0 next)
    · exact r_tabIn (off := 628) 668 hZ dL_law_40 (by decide +kernel) (by decide +kernel) (by decide +kernel) (by decide) (law_9 hst hL hZ hi hk hn hI0 next)
    · exact r_tabIn (off := 779) 819 hZ dL_law_40 (by decide +kernel) (by decide +kernel) (by decide +kernel) (by decide) (law_10 hst hL hZ hi hk hn hI0 next)
    · exact r_tabIn (off := 911) 951 hZ dL_law_40 (by decide +kernel) (by decide +kernel) (by decide +kernel) (by decide) (law_11 hst hL hZ hi hk hn hI0 next)
    · exact r_tabIn (off := 967) 1007 hZ dL_law_40 (by decide +kernel) (by decide +kernel) (by decide +kernel) (by decide) (law_12 hst hL hZ hi hk hn hI0 next)
    · exact r_tabIn (off := 1035) 1075 hZ dL_law_40 (by decide +kernel) (by decide +kernel) (by decide +kernel) (by decide) (law_13 hst hL hZ hi hk hn hI0 next)
    · exact r_tabIn (off := 1091) 1131 hZ dL_law_40 (by decide +kernel) (by decide +kernel) (by decide +kernel) (by decide) (law_14 hst hL hZ hi hk hn hI0 next)
    · exact r_tabIn (off := 1135) 1175 hZ dL_law_40 (by decide +kernel) (by decide +kernel) (by decide +kernel) (by decide) (law_15 hst hL hZ hi hk hn hI0 next)
    · exact r_tabIn (off := 1179) 1219 hZ dL_law_40 (by decide +kernel) (by decide +kernel) (by decide +kernel) (by decide) (law_16 hst hL hZ hi hk hn hI0 next)
    · exact r_tabIn (off := 1192) 1232 hZ dL_law_40 (by decide +kernel) (by decide +kernel) (by decide +kernel) (by decide) (law_17 hst hL hZ hi hk hn hI0 next)
    · exact r_tabIn (off := 1260) 1300 hZ dL_law_40 (by decide +kernel) (by decide +kernel) (by decide +kernel) (by decide) (law_18 hst hL hZ hi hk hn hI0 next)
    · exact r_tabIn (off := 1316) 1356 hZ dL_law_40 (by decide +kernel) (by decide +kernel) (by decide +kernel) (by decide) (law_19 hst hL hZ hi hk hn hI0 next)
  · refine r_tabOut 1367 hZ dL_law_40 (Or.inr (by rw [nI_toInt (by omega)]; omega)) (by decide) ?_
    exact next _ _ _ _ _ _ hI0 (Nat.le_succ _) (Nat.le_add_right _ _)
set_option maxHeartbeats 4000000 in
set_option maxRecDepth 100000 in
theorem law_loop (hst : l.stackTraces = false) (hL : L ≤ 3072) (hZ : w_IsL l g y Z b L xs) (hret : ∀ (k n : Nat) (ws : va_W) (lv : List (Nat × Value)), k ≤ 632629 → n ≤ 7198216 → Z k n ws 1374 lv [.int 1]) : ∀ (m i : Nat), i ≤ 3078 → L ≤ i + 6 * m → ∀ (σ τ : stT) (ρ : rtT) (f : Nat → Int64) (k n : Nat), Inv σ τ ρ → k ≤ 200 + i → n ≤ 2000 + 6 * i → Z k n (hw aC y σ ao f ++ rw aR y τ ρ) 23 [(0, .ref b), (1, .ref (aC 0)), (2, .ref (aR 0)), (3, .ref ao), (4, .int (nI i))] [] := by
  have hI := hZ.e.is
  intro m
  induction m with
  | zero =>
    intro i h1 h2 σ τ ρ f k n hInv hk hn
    refine r_iload 25 hI 4 dL_law_23 rfl rfl ?_
    refine r_aload_n 26 hI 0 dL_law_25 rfl rfl rfl ?_
    refine r_slen 27 hZ dL_law_26 rfl ?_
    refine r_bipush (v := 6) 29 hI dL_law_27 rfl (by decide) ?_
    refine r_isub 30 hI dL_law_29 rfl ?_
    refine r_icmp_gt 1373 33 hI dL_law_30 (by decide) rfl (fun _ => ?_) (fun h => absurd (show nI L - nI 6 < nI i by rw [Int32.lt_iff_toInt_lt, pk_sub_toInt (by omega) (by omega), nI_toInt (by omega)]; omega) h)
    refine r_iconst (v := 1) 1374 hI dL_law_1373 rfl (by decide) ?_
    exact hret _ _ _ _ (by omega) (by omega)
  | succ m ih =>
    intro i h1 h2 σ τ ρ f k n hInv hk hn
    refine r_iload 25 hI 4 dL_law_23 rfl rfl ?_
    refine r_aload_n 26 hI 0 dL_law_25 rfl rfl rfl ?_
    refine r_slen 27 hZ dL_law_26 rfl ?_
    refine r_bipush (v := 6) 29 hI dL_law_27 rfl (by decide) ?_
    refine r_isub 30 hI dL_law_29 rfl ?_
    by_cases hi : i + 6 ≤ L
    · refine r_icmp_gt 1373 33 hI dL_law_30 (by decide) rfl (fun h => absurd (show nI L - nI 6 < nI i from h) (by rw [Int32.lt_iff_toInt_lt, pk_sub_toInt (by omega) (by omega), nI_toInt (by omega)]; omega)) (fun _ => ?_)
      refine law_round hst hL hZ hi (by show k + 1 ≤ 632629; omega) (by show n + 6 ≤ 7198216; omega) hInv (fun k2 n2 σ2 τ2 ρ2 f2 hI2 e1 e2 => ?_)
      refine r_iinc 1370 4 6 [(0, .ref b), (1, .ref (aC 0)), (2, .ref (aR 0)), (3, .ref ao), (4, .int (nI i + 6))] hI dL_law_1367 rfl rfl (by decide) (by decide) rfl rfl ?_
      refine r_goto 23 hI dL_law_1370 (by decide) ?_
      rw [show nI i + 6 = nI (i + 6) from nI_add i 6]
      exact ih (i + 6) (by omega) (by omega) σ2 τ2 ρ2 f2 k2 n2 hI2 (by omega) (by omega)
    · refine r_icmp_gt 1373 33 hI dL_law_30 (by decide) rfl (fun _ => ?_) (fun h => absurd (show nI L - nI 6 < nI i by rw [Int32.lt_iff_toInt_lt, pk_sub_toInt (by omega) (by omega), nI_toInt (by omega)]; omega) h)
      refine r_iconst (v := 1) 1374 hI dL_law_1373 rfl (by decide) ?_
      exact hret _ _ _ _ (by omega) (by omega)
set_option maxHeartbeats 4000000 in
set_option maxRecDepth 100000 in
theorem law_start (hst : l.stackTraces = false) (hL : L ≤ 3072) (hZ : w_IsL l g y Z b L xs) (hret : ∀ (k n : Nat) (ws : va_W) (lv : List (Nat × Value)), k ≤ 632629 → n ≤ 7198216 → Z k n ws 1374 lv [.int 1]) : Z 0 0 [] 0 [(0, .ref b)] [] := by
  have hI := hZ.e.is
  have hO := hZ.o
  refine r_new 3 [.null, .null, .null, .null, .null, .null, .int 0] inX_X7 tyX7 tyX7_ok wC_L_8 wN_X7 wI_X7 (ci := 7) rfl (fun j hj => by rcases (show j = 0 ∨ j = 1 ∨ j = 2 ∨ j = 3 ∨ j = 4 ∨ j = 5 ∨ j = 6 by omega) with rfl | rfl | rfl | rfl | rfl | rfl | rfl <;> rfl) hI (by decide) dL_law_0 rfl (fun a => ?_)
  refine r_dup 4 hI dL_law_3 rfl rfl ?_
  refine r_callN (k := 0 + 1) (n := 0 + 7) (mc := 66) (ms := 585) (rest := [.ref a]) (ws := []) (wr := [(a, .inr (7, [.null, .null, .null, .null, .null, .null, .int 0]))]) (av := []) (c_X7_init l g y a) wM_X7_init wL_L_72 hO rfl ⟨Nat.le_of_ble_eq_true rfl, Nat.le_of_ble_eq_true rfl⟩ ⟨Nat.le_of_ble_eq_true rfl, Nat.le_of_ble_eq_true rfl⟩ rfl rfl dL_law_4 ?_
  rintro ws' ⟨aC, rfl, rfl⟩
  refine w_eqW (ws2 := cw aC y sg0) rfl ?_
  refine r_astnN 8 [(0, .ref b), (1, .ref (aC 0))] hI dL_law_7 rfl rfl (by decide) rfl rfl ?_
  refine r_new 11 [.int 0, .int 0, .null, .null, .null, .null, .null, .null, .null, .int 0, .int 0, .int 0, .int 0, .null, .null, .int 0, .null, .null, .int 0, .int 0, .null, .null, .null, .int 0, .null, .long 0, .int 0, .null, .null, .null, .null] inX_X8 tyX8 tyX8_ok wC_L_73 wN_X8 wI_X8 (ci := 8) rfl (fun j hj => by rcases (show j = 0 ∨ j = 1 ∨ j = 2 ∨ j = 3 ∨ j = 4 ∨ j = 5 ∨ j = 6 ∨ j = 7 ∨ j = 8 ∨ j = 9 ∨ j = 10 ∨ j = 11 ∨ j = 12 ∨ j = 13 ∨ j = 14 ∨ j = 15 ∨ j = 16 ∨ j = 17 ∨ j = 18 ∨ j = 19 ∨ j = 20 ∨ j = 21 ∨ j = 22 ∨ j = 23 ∨ j = 24 ∨ j = 25 ∨ j = 26 ∨ j = 27 ∨ j = 28 ∨ j = 29 ∨ j = 30 by omega) with rfl | rfl | rfl | rfl | rfl | rfl | rfl | rfl | rfl | rfl | rfl | rfl | rfl | rfl | rfl | rfl | rfl | rfl | rfl | rfl | rfl | rfl | rfl | rfl | rfl | rfl | rfl | rfl | rfl | rfl | rfl <;> rfl) hI ⟨Nat.le_of_ble_eq_true rfl, Nat.le_of_ble_eq_true rfl⟩ dL_law_8 rfl (fun a2 => ?_)
  refine r_dup 12 hI dL_law_11 rfl rfl ?_
  refine r_callN (k := 0 + 1 + 66 + 1) (n := 0 + 7 + 585 + 31) (mc := 19) (ms := 448) (rest := [.ref a2]) (ws := cw aC y sg0) (wr := [(a2, .inr (8, [.int 0, .int 0, .null, .null, .null, .null, .null, .null, .null, .int 0, .int 0, .int 0, .int 0, .null, .null, .int 0, .null, .null, .int 0, .int 0, .null, .null, .null, .int 0, .null, .long 0, .int 0, .null, .null, .null, .null]))]) (av := []) (c_X8_init l g y a2) wM_X8_init wL_L_75 hO rfl ⟨Nat.le_of_ble_eq_true rfl, Nat.le_of_ble_eq_true rfl⟩ ⟨Nat.le_of_ble_eq_true rfl, Nat.le_of_ble_eq_true rfl⟩ rfl rfl dL_law_12 ?_
  rintro ws' ⟨aR, rfl, rfl⟩
  refine r_astnN 16 [(0, .ref b), (1, .ref (aC 0)), (2, .ref (aR 0))] hI dL_law_15 rfl rfl (by decide) rfl rfl ?_
  refine r_iconst (v := 1) 17 hI dL_law_16 rfl (by decide) ?_
  refine r_newL (N := 1) 19 hI (by decide) ⟨Nat.le_of_ble_eq_true rfl, Nat.le_of_ble_eq_true rfl⟩ dL_law_17 rfl (fun ao => ?_)
  refine r_W hI (ws2 := hw aC y sg0 ao (fun _ => 0) ++ rw aR y (clF (fun _ _ => 0)) (fun _ _ => 0)) ?_ ?_
  · refine wW.trans (wW.eq (List.append_assoc _ _ _)) ?_
    refine wW.trans wW.comm ?_
    refine wW.trans (wW.eq (List.append_assoc _ _ _)) ?_
    refine wW.trans wW.comm ?_
    exact wW.app wW.comm
  refine r_astnN 20 [(0, .ref b), (1, .ref (aC 0)), (2, .ref (aR 0)), (3, .ref ao)] hI dL_law_19 rfl rfl (by decide) rfl rfl ?_
  refine r_iconst (v := 0) 21 hI dL_law_20 rfl (by decide) ?_
  refine r_istN (q := 0) 23 [(0, .ref b), (1, .ref (aC 0)), (2, .ref (aR 0)), (3, .ref ao), (4, .int (nI 0))] hI dL_law_21 rfl (by decide) rfl rfl ?_
  exact law_loop hst hL hZ hret 512 0 (by omega) (by omega) _ _ _ _ _ _ (inv_0 ⟨rfl, rfl, rfl, rfl, rfl, rfl, rfl⟩ ⟨rfl, rfl, rfl, rfl, rfl, rfl, rfl⟩ ⟨rfl, rfl, rfl⟩ ⟨rfl, rfl⟩ ⟨rfl, rfl⟩) (by decide) (by decide)
end LOP
