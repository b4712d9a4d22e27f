def edC (σ : stT) (w : Int32) (k : Nat) : Int32 := if w = 0 then σ 17 k else if w = 1 then σ 18 k else σ 19 k
def liC (σ : stT) (w : Int32) (k : Nat) : Int32 := if w = 0 then σ 2 k else σ 3 k
theorem le2 {x : Int32} (h : okL x 3) : x ≤ 2 := by
  rw [h.1]; exact nI_le (b := 2) (by have := h.2; omega) (by decide)
theorem ge0 {x : Int32} {m : Nat} (h : okL x m) (hm : m < 2 ^ 31) : ¬ x < 0 := by
  rw [h.1]; exact nI_pos (by have := h.2; omega)
theorem lt_of {x : Int32} {m : Nat} (h : okL x m) (hm : m < 2 ^ 31) : x < nI m := by
  rw [h.1]; exact nI_lt h.2 hm
theorem is2 {x : Int32} (h0 : ¬ x < 0) (h : x ≤ 1) : okL x 2 := by
  obtain ⟨j, hj, e⟩ := nI_of h0
  rw [e] at h ⊢
  exact okL_nI (by have := nI_leq (b := 1) hj (by decide) h; omega) (by decide)
theorem le1 {x : Int32} (h : okL x 2) : x ≤ 1 := by
  rw [h.1]; exact nI_le (b := 1) (by have := h.2; omega) (by decide)
set_option maxHeartbeats 4000000 in
set_option maxRecDepth 100000 in
theorem c_X7_edit_1 (l : Launch) (g : va_G) (y : Nat → ClassId) (ad : Nat → Nat) (σ : Nat → Nat → Int32) (k w : Int32) (h : ¬ okL w 3) (hst : l.stackTraces = false) : w_T l g y yX7_edit cX7_edit 4 (some .int) 8 [.ref (ad 0), .int k, .int w] (cw ad y σ) xIO := by
  refine w_ofT (lv0 := [(0, .ref (ad 0)), (1, .int k), (2, .int w)]) hst (by decide +kernel) (Nat.le_of_ble_eq_true rfl) rfl ?_
  intro Z hT
  have hZ := hT.is
  refine r_iload_n 1 hZ 2 dX7_edit_0 rfl rfl rfl ?_
  refine r_if_lt 9 4 hZ dX7_edit_1 (by decide) rfl (fun c_1 => ?_) (fun c_1 => ?_)
  · skip
    exact r_throwIO hT (by decide) (show (187, _) ∈ w_strs from List.mem_of_getElem? (i := 13) rfl) rfl dX7_edit_9 dX7_edit_12 dX7_edit_13 dX7_edit_15 dX7_edit_18
  · skip
    refine r_iload_n 5 hZ 2 dX7_edit_4 rfl rfl rfl ?_
    refine r_iconst (v := 2) 6 hZ dX7_edit_5 rfl (by decide) ?_
    refine r_icmp_le 19 9 hZ dX7_edit_6 (by decide) rfl (fun c_6 => ?_) (fun c_6 => ?_)
    · skip
      exact (h (is3 c_1 (Int32.not_lt.mpr c_6))).elim
    · skip
      exact r_throwIO hT (by decide) (show (187, _) ∈ w_strs from List.mem_of_getElem? (i := 13) rfl) rfl dX7_edit_9 dX7_edit_12 dX7_edit_13 dX7_edit_15 dX7_edit_18
set_option maxHeartbeats 4000000 in
set_option maxRecDepth 100000 in
theorem c_X7_edit_2 (l : Launch) (g : va_G) (y : Nat → ClassId) (ad : Nat → Nat) (σ : Nat → Nat → Int32) (k w : Int32) (h : okL w 3) (hF : σ 0 0 = -1) (hst : l.stackTraces = false) : w_T l g y yX7_edit cX7_edit 4 (some .int) 8 [.ref (ad 0), .int k, .int w] (cw ad y σ) xIS := by
  refine w_ofT (lv0 := [(0, .ref (ad 0)), (1, .int k), (2, .int w)]) hst (by decide +kernel) (Nat.le_of_ble_eq_true rfl) rfl ?_
  intro Z hT
  have hZ := hT.is
  refine r_iload_n 1 hZ 2 dX7_edit_0 rfl rfl rfl ?_
  refine r_if_lt 9 4 hZ dX7_edit_1 (by decide) rfl (fun c_1 => ?_) (fun c_1 => ?_)
  · skip
    exact absurd c_1 (ge0 h (by decide))
  · skip
    refine r_iload_n 5 hZ 2 dX7_edit_4 rfl rfl rfl ?_
    refine r_iconst (v := 2) 6 hZ dX7_edit_5 rfl (by decide) ?_
    refine r_icmp_le 19 9 hZ dX7_edit_6 (by decide) rfl (fun c_6 => ?_) (fun c_6 => ?_)
    · skip
      refine r_aload_n 20 hZ 0 dX7_edit_19 rfl rfl rfl ?_
      refine g_X7_55 23 hZ dX7_edit_20 rfl ?_
      refine r_iconst (v := (-1)) 24 hZ dX7_edit_23 rfl (by decide) ?_
      refine r_icmp_ne 37 27 hZ dX7_edit_24 (by decide) rfl (fun c_24 => ?_) (fun c_24 => ?_)
      · skip
        exact absurd hF c_24
      · skip
        exact r_throwIS hT (by decide) (show (189, _) ∈ w_strs from List.mem_of_getElem? (i := 14) rfl) rfl dX7_edit_27 dX7_edit_30 dX7_edit_31 dX7_edit_33 dX7_edit_36
    · skip
      exact absurd (le2 h) c_6
set_option maxHeartbeats 4000000 in
set_option maxRecDepth 100000 in
theorem c_X7_edit_3 (l : Launch) (g : va_G) (y : Nat → ClassId) (ad : Nat → Nat) (σ : Nat → Nat → Int32) {r : Nat} (hE : σ 0 0 = nI r) (hr : r ≤ 2) (k w : Int32) (h : okL w 3) (hk : ¬ okL k r) (hst : l.stackTraces = false) : w_T l g y yX7_edit cX7_edit 4 (some .int) 8 [.ref (ad 0), .int k, .int w] (cw ad y σ) xIO := by
  refine w_ofT (lv0 := [(0, .ref (ad 0)), (1, .int k), (2, .int w)]) hst (by decide +kernel) (Nat.le_of_ble_eq_true rfl) rfl ?_
  intro Z hT
  have hZ := hT.is
  refine r_iload_n 1 hZ 2 dX7_edit_0 rfl rfl rfl ?_
  refine r_if_lt 9 4 hZ dX7_edit_1 (by decide) rfl (fun c_1 => ?_) (fun c_1 => ?_)
  · skip
    exact absurd c_1 (ge0 h (by decide))
  · skip
    refine r_iload_n 5 hZ 2 dX7_edit_4 rfl rfl rfl ?_
    refine r_iconst (v := 2) 6 hZ dX7_edit_5 rfl (by decide) ?_
    refine r_icmp_le 19 9 hZ dX7_edit_6 (by decide) rfl (fun c_6 => ?_) (fun c_6 => ?_)
    · skip
      refine r_aload_n 20 hZ 0 dX7_edit_19 rfl rfl rfl ?_
      refine g_X7_55 23 hZ dX7_edit_20 rfl ?_
      refine w_eqI (hE) ?_
      refine r_iconst (v := (-1)) 24 hZ dX7_edit_23 rfl (by decide) ?_
      refine r_icmp_ne 37 27 hZ dX7_edit_24 (by decide) rfl (fun c_24 => ?_) (fun c_24 => ?_)
      · skip
        refine r_iload_n 38 hZ 1 dX7_edit_37 rfl rfl rfl ?_
        refine r_if_lt 49 41 hZ dX7_edit_38 (by decide) rfl (fun c_38 => ?_) (fun c_38 => ?_)
        · skip
          exact r_throwIO hT (by decide) (show (191, _) ∈ w_strs from List.mem_of_getElem? (i := 15) rfl) rfl dX7_edit_49 dX7_edit_52 dX7_edit_53 dX7_edit_55 dX7_edit_58
        · skip
          refine r_iload_n 42 hZ 1 dX7_edit_41 rfl rfl rfl ?_
          refine r_aload_n 43 hZ 0 dX7_edit_42 rfl rfl rfl ?_
          refine g_X7_55 46 hZ dX7_edit_43 rfl ?_
          refine w_eqI (hE) ?_
          refine r_icmp_lt 59 49 hZ dX7_edit_46 (by decide) rfl (fun c_46 => ?_) (fun c_46 => ?_)
          · skip
            exact (hk (hl_ok (m := r) (by omega) c_38 (fun q => absurd c_46 (Int32.not_lt.mpr q)))).elim
          · skip
            exact r_throwIO hT (by decide) (show (191, _) ∈ w_strs from List.mem_of_getElem? (i := 15) rfl) rfl dX7_edit_49 dX7_edit_52 dX7_edit_53 dX7_edit_55 dX7_edit_58
      · skip
        exact absurd c_24 (nI_m1 (by omega))
    · skip
      exact absurd (le2 h) c_6
set_option maxHeartbeats 4000000 in
set_option maxRecDepth 100000 in
theorem c_X7_edit_0 (l : Launch) (g : va_G) (y : Nat → ClassId) (ad : Nat → Nat) (σ : Nat → Nat → Int32) {r : Nat} (hE : σ 0 0 = nI r) (hr : r ≤ 2) {j : Nat} (hj : j < r) (w : Int32) (h : okL w 3) : w_C l g y yX7_edit cX7_edit 4 (some .int) 8 [.ref (ad 0), .int (nI j), .int w] (cw ad y σ) (some (.int (edC σ w j))) (cw ad y σ) := by
  refine w_ofI (lv0 := [(0, .ref (ad 0)), (1, .int (nI j)), (2, .int w)]) (by decide +kernel) (Nat.le_of_ble_eq_true rfl) rfl (rfl) ?_
  intro Z hZ hret
  have hcj := nI_clamp (n := j) (by omega)
  refine r_iload_n 1 hZ 2 dX7_edit_0 rfl rfl rfl ?_
  refine r_if_lt 9 4 hZ dX7_edit_1 (by decide) rfl (fun c_1 => ?_) (fun c_1 => ?_)
  · skip
    exact absurd c_1 (ge0 h (by decide))
  · skip
    refine r_iload_n 5 hZ 2 dX7_edit_4 rfl rfl rfl ?_
    refine r_iconst (v := 2) 6 hZ dX7_edit_5 rfl (by decide) ?_
    refine r_icmp_le 19 9 hZ dX7_edit_6 (by decide) rfl (fun c_6 => ?_) (fun c_6 => ?_)
    · skip
      refine r_aload_n 20 hZ 0 dX7_edit_19 rfl rfl rfl ?_
      refine g_X7_55 23 hZ dX7_edit_20 rfl ?_
      refine w_eqI (hE) ?_
      refine r_iconst (v := (-1)) 24 hZ dX7_edit_23 rfl (by decide) ?_
      refine r_icmp_ne 37 27 hZ dX7_edit_24 (by decide) rfl (fun c_24 => ?_) (fun c_24 => ?_)
      · skip
        refine r_iload_n 38 hZ 1 dX7_edit_37 rfl rfl rfl ?_
        refine r_if_lt 49 41 hZ dX7_edit_38 (by decide) rfl (fun c_38 => ?_) (fun c_38 => ?_)
        · skip
          exact absurd c_38 (nI_pos (by omega))
        · skip
          refine r_iload_n 42 hZ 1 dX7_edit_41 rfl rfl rfl ?_
          refine r_aload_n 43 hZ 0 dX7_edit_42 rfl rfl rfl ?_
          refine g_X7_55 46 hZ dX7_edit_43 rfl ?_
          refine w_eqI (hE) ?_
          refine r_icmp_lt 59 49 hZ dX7_edit_46 (by decide) rfl (fun c_46 => ?_) (fun c_46 => ?_)
          · skip
            refine r_aload_n 60 hZ 0 dX7_edit_59 rfl rfl rfl ?_
            refine g_X7_35 63 hZ dX7_edit_60 rfl ?_
            refine g_X7_179 66 hZ dX7_edit_63 rfl ?_
            refine r_iload_n 67 hZ 1 dX7_edit_66 rfl rfl rfl ?_
            refine a_cS 68 hZ (vp_in_nI (show j < 2 by omega) (by decide)) dX7_edit_67 rfl ?_
            rw [hcj]
            refine r_astnN 69 [(0, _), (1, _), (2, _), (3, _)] hZ dX7_edit_68 rfl rfl (by decide) rfl rfl ?_
            refine r_iload_n 70 hZ 2 dX7_edit_69 rfl rfl rfl ?_
            refine r_if_ne 80 73 hZ dX7_edit_70 (by decide) rfl (fun c_70 => ?_) (fun c_70 => ?_)
            · skip
              refine r_iload_n 81 hZ 2 dX7_edit_80 rfl rfl rfl ?_
              refine r_iconst (v := 1) 82 hZ dX7_edit_81 rfl (by decide) ?_
              refine r_icmp_ne 92 85 hZ dX7_edit_82 (by decide) rfl (fun c_82 => ?_) (fun c_82 => ?_)
              · skip
                refine r_aload_n 93 hZ 3 dX7_edit_92 rfl rfl rfl ?_
                refine g_X7_201 96 hZ (by omega) dX7_edit_93 rfl ?_
                exact hret _ _ _ _ dX7_edit_96 (by unfold edC; first | rw [if_pos c_70] | rw [if_neg c_70, if_pos c_82] | rw [if_neg c_70, if_neg c_82]) rfl
              · skip
                refine r_aload_n 86 hZ 3 dX7_edit_85 rfl rfl rfl ?_
                refine g_X7_198 89 hZ (by omega) dX7_edit_86 rfl ?_
                refine r_goto 96 hZ dX7_edit_89 (by decide) ?_
                exact hret _ _ _ _ dX7_edit_96 (by unfold edC; first | rw [if_pos c_70] | rw [if_neg c_70, if_pos c_82] | rw [if_neg c_70, if_neg c_82]) rfl
            · skip
              refine r_aload_n 74 hZ 3 dX7_edit_73 rfl rfl rfl ?_
              refine g_X7_193 77 hZ (by omega) dX7_edit_74 rfl ?_
              refine r_goto 96 hZ dX7_edit_77 (by decide) ?_
              exact hret _ _ _ _ dX7_edit_96 (by unfold edC; first | rw [if_pos c_70] | rw [if_neg c_70, if_pos c_82] | rw [if_neg c_70, if_neg c_82]) rfl
          · skip
            exact absurd (nI_lt hj (by omega)) c_46
      · skip
        exact absurd c_24 (nI_m1 (by omega))
    · skip
      exact absurd (le2 h) c_6
set_option maxHeartbeats 4000000 in
set_option maxRecDepth 100000 in
theorem c_X7_used_1 (l : Launch) (g : va_G) (y : Nat → ClassId) (ad : Nat → Nat) (σ : Nat → Nat → Int32) (k : Int32) (hF : σ 0 0 = -1) (hst : l.stackTraces = false) : w_T l g y yX7_used cX7_used 2 (some .int) 8 [.ref (ad 0), .int k] (cw ad y σ) xIS := by
  refine w_ofT (lv0 := [(0, .ref (ad 0)), (1, .int k)]) hst (by decide +kernel) (Nat.le_of_ble_eq_true rfl) rfl ?_
  intro Z hT
  have hZ := hT.is
  refine r_aload_n 1 hZ 0 dX7_used_0 rfl rfl rfl ?_
  refine g_X7_55 4 hZ dX7_used_1 rfl ?_
  refine r_iconst (v := (-1)) 5 hZ dX7_used_4 rfl (by decide) ?_
  refine r_icmp_ne 18 8 hZ dX7_used_5 (by decide) rfl (fun c_5 => ?_) (fun c_5 => ?_)
  · skip
    exact absurd hF c_5
  · skip
    exact r_throwIS hT (by decide) (show (189, _) ∈ w_strs from List.mem_of_getElem? (i := 14) rfl) rfl dX7_used_8 dX7_used_11 dX7_used_12 dX7_used_14 dX7_used_17
set_option maxHeartbeats 4000000 in
set_option maxRecDepth 100000 in
theorem c_X7_used_2 (l : Launch) (g : va_G) (y : Nat → ClassId) (ad : Nat → Nat) (σ : Nat → Nat → Int32) {r : Nat} (hE : σ 0 0 = nI r) (hr : r ≤ 2) (k : Int32) (hk : ¬ okL k r) (hst : l.stackTraces = false) : w_T l g y yX7_used cX7_used 2 (some .int) 8 [.ref (ad 0), .int k] (cw ad y σ) xIO := by
  refine w_ofT (lv0 := [(0, .ref (ad 0)), (1, .int k)]) hst (by decide +kernel) (Nat.le_of_ble_eq_true rfl) rfl ?_
  intro Z hT
  have hZ := hT.is
  refine r_aload_n 1 hZ 0 dX7_used_0 rfl rfl rfl ?_
  refine g_X7_55 4 hZ dX7_used_1 rfl ?_
  refine w_eqI (hE) ?_
  refine r_iconst (v := (-1)) 5 hZ dX7_used_4 rfl (by decide) ?_
  refine r_icmp_ne 18 8 hZ dX7_used_5 (by decide) rfl (fun c_5 => ?_) (fun c_5 => ?_)
  · skip
    refine r_iload_n 19 hZ 1 dX7_used_18 rfl rfl rfl ?_
    refine r_if_lt 30 22 hZ dX7_used_19 (by decide) rfl (fun c_19 => ?_) (fun c_19 => ?_)
    · skip
      exact r_throwIO hT (by decide) (show (191, _) ∈ w_strs from List.mem_of_getElem? (i := 15) rfl) rfl dX7_used_30 dX7_used_33 dX7_used_34 dX7_used_36 dX7_used_39
    · skip
      refine r_iload_n 23 hZ 1 dX7_used_22 rfl rfl rfl ?_
      refine r_aload_n 24 hZ 0 dX7_used_23 rfl rfl rfl ?_
      refine g_X7_55 27 hZ dX7_used_24 rfl ?_
      refine w_eqI (hE) ?_
      refine r_icmp_lt 40 30 hZ dX7_used_27 (by decide) rfl (fun c_27 => ?_) (fun c_27 => ?_)
      · skip
        exact (hk (hl_ok (m := r) (by omega) c_19 (fun q => absurd c_27 (Int32.not_lt.mpr q)))).elim
      · skip
        exact r_throwIO hT (by decide) (show (191, _) ∈ w_strs from List.mem_of_getElem? (i := 15) rfl) rfl dX7_used_30 dX7_used_33 dX7_used_34 dX7_used_36 dX7_used_39
  · skip
    exact absurd c_5 (nI_m1 (by omega))
set_option maxHeartbeats 4000000 in
set_option maxRecDepth 100000 in
theorem c_X7_used_0 (l : Launch) (g : va_G) (y : Nat → ClassId) (ad : Nat → Nat) (σ : Nat → Nat → Int32) {r : Nat} (hE : σ 0 0 = nI r) (hr : r ≤ 2) {j : Nat} (hj : j < r) : w_C l g y yX7_used cX7_used 2 (some .int) 8 [.ref (ad 0), .int (nI j)] (cw ad y σ) (some (.int (σ 15 j))) (cw ad y σ) := by
  refine w_ofI (lv0 := [(0, .ref (ad 0)), (1, .int (nI j))]) (by decide +kernel) (Nat.le_of_ble_eq_true rfl) rfl (rfl) ?_
  intro Z hZ hret
  have hcj := nI_clamp (n := j) (by omega)
  refine r_aload_n 1 hZ 0 dX7_used_0 rfl rfl rfl ?_
  refine g_X7_55 4 hZ dX7_used_1 rfl ?_
  refine w_eqI (hE) ?_
  refine r_iconst (v := (-1)) 5 hZ dX7_used_4 rfl (by decide) ?_
  refine r_icmp_ne 18 8 hZ dX7_used_5 (by decide) rfl (fun c_5 => ?_) (fun c_5 => ?_)
  · skip
    refine r_iload_n 19 hZ 1 dX7_used_18 rfl rfl rfl ?_
    refine r_if_lt 30 22 hZ dX7_used_19 (by decide) rfl (fun c_19 => ?_) (fun c_19 => ?_)
    · skip
      exact absurd c_19 (nI_pos (by omega))
    · skip
      refine r_iload_n 23 hZ 1 dX7_used_22 rfl rfl rfl ?_
      refine r_aload_n 24 hZ 0 dX7_used_23 rfl rfl rfl ?_
      refine g_X7_55 27 hZ dX7_used_24 rfl ?_
      refine w_eqI (hE) ?_
      refine r_icmp_lt 40 30 hZ dX7_used_27 (by decide) rfl (fun c_27 => ?_) (fun c_27 => ?_)
      · skip
        refine r_aload_n 41 hZ 0 dX7_used_40 rfl rfl rfl ?_
        refine g_X7_44 44 hZ dX7_used_41 rfl ?_
        refine g_X7_204 47 hZ dX7_used_44 rfl ?_
        refine r_iload_n 48 hZ 1 dX7_used_47 rfl rfl rfl ?_
        refine a_c15 49 hZ (vp_in_nI (show j < 2 by omega) (by decide)) dX7_used_48 rfl ?_
        rw [hcj]
        exact hret _ _ _ _ dX7_used_49 rfl rfl
      · skip
        exact absurd (nI_lt hj (by omega)) c_27
  · skip
    exact absurd c_5 (nI_m1 (by omega))
set_option maxHeartbeats 4000000 in
set_option maxRecDepth 100000 in
theorem c_X7_length_1 (l : Launch) (g : va_G) (y : Nat → ClassId) (ad : Nat → Nat) (σ : Nat → Nat → Int32) (hF : σ 0 0 = -1) (hst : l.stackTraces = false) : w_T l g y yX7_length cX7_length 1 (some .int) 8 [.ref (ad 0)] (cw ad y σ) xIS := by
  refine w_ofT (lv0 := [(0, .ref (ad 0))]) hst (by decide +kernel) (Nat.le_of_ble_eq_true rfl) rfl ?_
  intro Z hT
  have hZ := hT.is
  refine r_aload_n 1 hZ 0 dX7_length_0 rfl rfl rfl ?_
  refine g_X7_55 4 hZ dX7_length_1 rfl ?_
  refine r_iconst (v := (-1)) 5 hZ dX7_length_4 rfl (by decide) ?_
  refine r_icmp_ne 18 8 hZ dX7_length_5 (by decide) rfl (fun c_5 => ?_) (fun c_5 => ?_)
  · skip
    exact absurd hF c_5
  · skip
    exact r_throwIS hT (by decide) (show (189, _) ∈ w_strs from List.mem_of_getElem? (i := 14) rfl) rfl dX7_length_8 dX7_length_11 dX7_length_12 dX7_length_14 dX7_length_17
set_option maxHeartbeats 4000000 in
set_option maxRecDepth 100000 in
theorem c_X7_length_0 (l : Launch) (g : va_G) (y : Nat → ClassId) (ad : Nat → Nat) (σ : Nat → Nat → Int32) {r : Nat} (hE : σ 0 0 = nI r) (hr : r ≤ 2) : w_C l g y yX7_length cX7_length 1 (some .int) 8 [.ref (ad 0)] (cw ad y σ) (some (.int (σ 0 7))) (cw ad y σ) := by
  refine w_ofI (lv0 := [(0, .ref (ad 0))]) (by decide +kernel) (Nat.le_of_ble_eq_true rfl) rfl (rfl) ?_
  intro Z hZ hret
  refine r_aload_n 1 hZ 0 dX7_length_0 rfl rfl rfl ?_
  refine g_X7_55 4 hZ dX7_length_1 rfl ?_
  refine w_eqI (hE) ?_
  refine r_iconst (v := (-1)) 5 hZ dX7_length_4 rfl (by decide) ?_
  refine r_icmp_ne 18 8 hZ dX7_length_5 (by decide) rfl (fun c_5 => ?_) (fun c_5 => ?_)
  · skip
    refine r_aload_n 19 hZ 0 dX7_length_18 rfl rfl rfl ?_
    refine g_X7_44 22 hZ dX7_length_19 rfl ?_
    refine g_X7_207 25 hZ dX7_length_22 rfl ?_
    exact hret _ _ _ _ dX7_length_25 rfl rfl
  · skip
    exact absurd c_5 (nI_m1 (by omega))
set_option maxHeartbeats 4000000 in
set_option maxRecDepth 100000 in
theorem c_X7_make_1 (l : Launch) (g : va_G) (y : Nat → ClassId) (ad : Nat → Nat) (σ : Nat → Nat → Int32) {M : Nat} (hM : σ 0 8 = nI M) (hM20 : M ≤ 20) (h : σ 0 0 = -1 ∨ M = 20) (hst : l.stackTraces = false) : w_T l g y yX7_make cX7_make 3 (some .int) 8 [.ref (ad 0)] (cw ad y σ) xIS := by
  refine w_ofT (lv0 := [(0, .ref (ad 0))]) hst (by decide +kernel) (Nat.le_of_ble_eq_true rfl) rfl ?_
  intro Z hT
  have hZ := hT.is
  refine r_aload_n 1 hZ 0 dX7_make_0 rfl rfl rfl ?_
  refine g_X7_55 4 hZ dX7_make_1 rfl ?_
  refine r_iconst (v := (-1)) 5 hZ dX7_make_4 rfl (by decide) ?_
  refine r_icmp_eq 20 8 hZ dX7_make_5 (by decide) rfl (fun c_5 => ?_) (fun c_5 => ?_)
  · skip
    exact r_throwIS hT (by decide) (show (213, _) ∈ w_strs from List.mem_of_getElem? (i := 16) rfl) rfl dX7_make_20 dX7_make_23 dX7_make_24 dX7_make_26 dX7_make_29
  · skip
    refine r_aload_n 9 hZ 0 dX7_make_8 rfl rfl rfl ?_
    refine g_X7_51 12 hZ dX7_make_9 rfl ?_
    refine g_X7_210 15 hZ dX7_make_12 rfl ?_
    refine w_eqI (hM) ?_
    refine r_bipush (v := 20) 17 hZ dX7_make_15 rfl (by decide) ?_
    refine r_icmp_lt 30 20 hZ dX7_make_17 (by decide) rfl (fun c_17 => ?_) (fun c_17 => ?_)
    · skip
      exact absurd (show nI M < nI 20 from c_17) (by rw [h.resolve_left c_5]; exact nI_nlt (Nat.le_refl 20) (by decide))
    · skip
      exact r_throwIS hT (by decide) (show (213, _) ∈ w_strs from List.mem_of_getElem? (i := 16) rfl) rfl dX7_make_20 dX7_make_23 dX7_make_24 dX7_make_26 dX7_make_29
/-- make's rewiring, k edits of it -/
def mwF (σ : stT) : Nat → stT
  | 0 => σ
  | k + 1 => rwF (mwF σ k) k
theorem mwF_k (σ : stT) (k : Nat) (h2 : k ≠ 2) (h3 : k ≠ 3) : ∀ i, mwF σ i k = σ k
  | 0 => rfl
  | i + 1 => by show rwF _ _ k = _; rw [rwF_k _ _ _ h2 h3, mwF_k σ k h2 h3 i]
def makeC (σ : stT) (I O M r : Nat) : stT := up (rf (mwF (rememberF σ M r) r) (1 + I) O) 0 0 (-1)
theorem rmb_k (σ : stT) (M r k : Nat) (h0 : k ≠ 0) (h16 : k ≠ 16) (h7 : k ≠ 17) (h8 : k ≠ 18) (h9 : k ≠ 19) : rememberF σ M r k = σ k := by
  show (if k = 0 then _ else if k = 16 then _ else _) = _
  rw [if_neg h0, if_neg h16, rmF_k σ M k h7 h8 h9]
theorem rmb_0 (σ : stT) (M r j : Nat) (h : j ≠ 8) : rememberF σ M r 0 j = σ 0 j := by
  show upd _ _ _ j = _
  unfold upd
  rw [if_neg h]
  show rmF σ M r 0 j = _
  rw [rmF_k σ M 0 (by decide) (by decide) (by decide)]
set_option maxHeartbeats 4000000 in
set_option maxRecDepth 100000 in
theorem c_X7_make_0 (l : Launch) (g : va_G) (y : Nat → ClassId) (ad : Nat → Nat) (σ : Nat → Nat → Int32) {I O M r : Nat} (hI : σ 0 2 = nI I) (hO : σ 0 3 = nI O) (hIO : 1 + I + O ≤ 14) (hE : σ 0 0 = nI r) (hr : r ≤ 2) (hM : σ 0 8 = nI M) (hM20 : M < 20) (hk : ∀ k, k < r → okL (σ 17 k) 38) (hw : ∀ n, 1 + I ≤ n → n < 1 + I + O → okL (σ 6 n) 38 ∧ okL (mwF (rememberF σ M r) r 2 (ix (σ 6 n))) 76 ∧ okL (mwF (rememberF σ M r) r 3 (ix (σ 6 n))) 76) : w_C l g y yX7_make cX7_make 3 (some .int) 8 [.ref (ad 0)] (cw ad y σ) (some (.int (nI r))) (cw ad y (makeC σ I O M r)) := by
  refine w_ofI (lv0 := [(0, .ref (ad 0))]) (by decide +kernel) (Nat.le_of_ble_eq_true rfl) rfl (rfl) ?_
  intro Z hZ hret
  have e17 : ∀ k i, k < 2 → mwF (rememberF σ M r) i 17 k = σ 17 k := fun k i h => (congrFun (mwF_k _ 17 (by decide) (by decide) i) k).trans (rmF_17 σ M k h r)
  have e0 : ∀ j, j ≠ 8 → mwF (rememberF σ M r) r 0 j = σ 0 j := fun j h => (congrFun (mwF_k _ 0 (by decide) (by decide) r) j).trans (rmb_0 σ M r j h)
  have e6 : mwF (rememberF σ M r) r 6 = σ 6 := (mwF_k _ 6 (by decide) (by decide) r).trans (rmb_k σ M r 6 (by decide) (by decide) (by decide) (by decide) (by decide))
  refine r_aload_n 1 hZ 0 dX7_make_0 rfl rfl rfl ?_
  refine g_X7_55 4 hZ dX7_make_1 rfl ?_
  refine w_eqI (hE) ?_
  refine r_iconst (v := (-1)) 5 hZ dX7_make_4 rfl (by decide) ?_
  refine r_icmp_eq 20 8 hZ dX7_make_5 (by decide) rfl (fun c_5 => ?_) (fun c_5 => ?_)
  · skip
    exact absurd c_5 (nI_m1 (by omega))
  · skip
    refine r_aload_n 9 hZ 0 dX7_make_8 rfl rfl rfl ?_
    refine g_X7_51 12 hZ dX7_make_9 rfl ?_
    refine g_X7_210 15 hZ dX7_make_12 rfl ?_
    refine w_eqI (hM) ?_
    refine r_bipush (v := 20) 17 hZ dX7_make_15 rfl (by decide) ?_
    refine r_icmp_lt 30 20 hZ dX7_make_17 (by decide) rfl (fun c_17 => ?_) (fun c_17 => ?_)
    · skip
      refine r_aload_n 31 hZ 0 dX7_make_30 rfl rfl rfl ?_
      refine g_X7_55 34 hZ dX7_make_31 rfl ?_
      refine w_eqI (hE) ?_
      refine r_istnN 35 [(0, _), (1, _)] hZ dX7_make_34 rfl rfl (by decide) rfl rfl ?_
      refine r_aload_n 36 hZ 0 dX7_make_35 rfl rfl rfl ?_
      refine g_X7_51 39 hZ dX7_make_36 rfl ?_
      refine r_aload_n 40 hZ 0 dX7_make_39 rfl rfl rfl ?_
      refine g_X7_12 43 hZ dX7_make_40 rfl ?_
      refine r_aload_n 44 hZ 0 dX7_make_43 rfl rfl rfl ?_
      refine g_X7_35 47 hZ dX7_make_44 rfl ?_
      refine g_X7_179 50 hZ dX7_make_47 rfl ?_
      refine r_iload_n 51 hZ 1 dX7_make_50 rfl rfl rfl ?_
      refine r_callVV (c_X4_remember l g y ad σ hM hM20 hr hk) wM_X4_remember wL_X7_215 hZ rfl ⟨by decide, by decide⟩ 6 4 rfl rfl rfl rfl dX7_make_51 ?_
      refine r_iconst (v := 0) 55 hZ dX7_make_54 rfl (by decide) ?_
      refine r_istnN 56 [(0, _), (1, _), (2, _)] hZ dX7_make_55 rfl rfl (by decide) rfl rfl ?_
      have lp_56 : ∀ (n : Nat) (i : Nat), i ≤ r → r + 1 ≤ i + n → Z 0 0 (cw ad y (mwF (rememberF σ M r) i)) 56 [(0, .ref (ad 0)), (1, .int (nI r)), (2, .int (nI i))] [] := by
        intro n
        induction n with
        | zero => intro i h1 hn_56; exact absurd hn_56 (by omega)
        | succ n ih_56 =>
          intro i h1 hn_56
          refine r_iload_n 57 hZ 2 dX7_make_56 rfl rfl rfl ?_
          refine r_iload_n 58 hZ 1 dX7_make_57 rfl rfl rfl ?_
          refine r_icmp_ge 83 61 hZ dX7_make_58 (by decide) rfl (fun c_58 => ?_) (fun c_58 => ?_)
          · skip
            have hi := nI_leq (by omega) (by omega) c_58
            have hi : r = i := by omega
            subst hi
            refine r_aload_n 84 hZ 0 dX7_make_83 rfl rfl rfl ?_
            refine g_X7_12 87 hZ dX7_make_84 rfl ?_
            refine r_callVV (c_X3_refreshOldColumns l g y ad _ (I := I) (O := O) ((e0 2 (by decide)).trans hI) ((e0 3 (by decide)).trans hO) hIO (by rw [e6]; exact hw)) wM_X3_refreshOldColumns wL_X7_223 hZ rfl ⟨by decide, by decide⟩ 1 3 rfl rfl rfl rfl dX7_make_87 ?_
            refine r_aload_n 91 hZ 0 dX7_make_90 rfl rfl rfl ?_
            refine r_iconst (v := (-1)) 92 hZ dX7_make_91 rfl (by decide) ?_
            refine p_X7_55 95 hZ dX7_make_92 rfl ?_
            refine r_iload_n 96 hZ 1 dX7_make_95 rfl rfl rfl ?_
            exact hret _ _ _ _ dX7_make_96 rfl rfl
          · skip
            have hi := nI_nleq (by omega) (by omega) c_58
            have hci := nI_clamp (n := i) (by omega)
            refine r_aload_n 62 hZ 0 dX7_make_61 rfl rfl rfl ?_
            refine g_X7_12 65 hZ dX7_make_62 rfl ?_
            refine r_aload_n 66 hZ 0 dX7_make_65 rfl rfl rfl ?_
            refine g_X7_35 69 hZ dX7_make_66 rfl ?_
            refine g_X7_179 72 hZ dX7_make_69 rfl ?_
            refine r_iload_n 73 hZ 2 dX7_make_72 rfl rfl rfl ?_
            refine a_cS 74 hZ (vp_in_nI (show i < 2 by omega) (by decide)) dX7_make_73 rfl ?_
            rw [hci]
            refine r_callVV (c_X3_rewire l g y ad _ (j := i) (by omega) (by rw [e17 i i (by omega)]; exact hk i hi)) wM_X3_rewire wL_X7_219 hZ rfl ⟨by decide, by decide⟩ 1 3 rfl rfl rfl rfl dX7_make_74 ?_
            refine r_iinc 80 2 1 [(0, _), (1, _), (2, _)] hZ dX7_make_77 rfl rfl (by decide) (by decide) rfl rfl ?_
            refine r_goto 56 hZ dX7_make_80 (by decide) ?_
            rw [nI_1]
            exact ih_56 (i + 1) (by omega) (by omega)
      exact lp_56 (r + 1) 0 (by omega) (by omega)
    · skip
      exact absurd (show nI M < nI 20 from nI_lt hM20 (by decide)) c_17
set_option maxHeartbeats 4000000 in
set_option maxRecDepth 100000 in
theorem c_X7_undo_0 (l : Launch) (g : va_G) (y : Nat → ClassId) (ad : Nat → Nat) (σ : Nat → Nat → Int32) (hM : σ 0 8 = 0) : w_C l g y yX7_undo cX7_undo 1 (some .boolean) 8 [.ref (ad 0)] (cw ad y σ) (some (.int (bI False))) (cw ad y σ) := by
  refine w_ofI (lv0 := [(0, .ref (ad 0))]) (by decide +kernel) (Nat.le_of_ble_eq_true rfl) rfl (bI_nar _) ?_
  intro Z hZ hret
  refine r_aload_n 1 hZ 0 dX7_undo_0 rfl rfl rfl ?_
  refine g_X7_51 4 hZ dX7_undo_1 rfl ?_
  refine g_X7_210 7 hZ dX7_undo_4 rfl ?_
  refine w_eqI (hM) ?_
  refine r_if_ne 12 10 hZ dX7_undo_7 (by decide) rfl (fun c_7 => ?_) (fun c_7 => ?_)
  · skip
    exact absurd rfl c_7
  · skip
    refine r_iconst (v := 0) 11 hZ dX7_undo_10 rfl (by decide) ?_
    exact hret _ _ _ _ dX7_undo_11 (bI_f (by decide)).symm rfl
def undoC (σ : stT) (I O M r : Nat) : stT := up (rf (tbF σ M r) (1 + I) O) 0 0 (-1)
set_option maxHeartbeats 4000000 in
set_option maxRecDepth 100000 in
theorem c_X7_undo_1 (l : Launch) (g : va_G) (y : Nat → ClassId) (ad : Nat → Nat) (σ : Nat → Nat → Int32) {I O M r : Nat} (hI : σ 0 2 = nI I) (hO : σ 0 3 = nI O) (hIO : 1 + I + O ≤ 14) (hM : σ 0 8 = nI (M + 1)) (hM20 : M < 20) (hr : r ≤ 2) (hsz : σ 16 M = nI r) (hk : ∀ k, k < r → okL (σ 17 (2 + (2 * M + k))) 38) (hw : ∀ n, 1 + I ≤ n → n < 1 + I + O → okL (σ 6 n) 38 ∧ okL (tbF σ M r 2 (ix (σ 6 n))) 76 ∧ okL (tbF σ M r 3 (ix (σ 6 n))) 76) : w_C l g y yX7_undo cX7_undo 1 (some .boolean) 8 [.ref (ad 0)] (cw ad y σ) (some (.int (bI True))) (cw ad y (undoC σ I O M r)) := by
  refine w_ofI (lv0 := [(0, .ref (ad 0))]) (by decide +kernel) (Nat.le_of_ble_eq_true rfl) rfl (bI_nar _) ?_
  intro Z hZ hret
  have e6 : tbF σ M r 6 = σ 6 := tbF_k σ M 6 (by decide) (by decide) (by decide) r
  refine r_aload_n 1 hZ 0 dX7_undo_0 rfl rfl rfl ?_
  refine g_X7_51 4 hZ dX7_undo_1 rfl ?_
  refine g_X7_210 7 hZ dX7_undo_4 rfl ?_
  refine w_eqI (hM) ?_
  refine r_if_ne 12 10 hZ dX7_undo_7 (by decide) rfl (fun c_7 => ?_) (fun c_7 => ?_)
  · skip
    refine r_aload_n 13 hZ 0 dX7_undo_12 rfl rfl rfl ?_
    refine g_X7_51 16 hZ dX7_undo_13 rfl ?_
    refine r_aload_n 17 hZ 0 dX7_undo_16 rfl rfl rfl ?_
    refine g_X7_12 20 hZ dX7_undo_17 rfl ?_
    refine r_callVV (c_X4_takeBackLast l g y ad σ hM hM20 hr hsz hk) wM_X4_takeBackLast wL_X7_226 hZ rfl ⟨by decide, by decide⟩ 6 4 rfl rfl rfl rfl dX7_undo_20 ?_
    refine r_aload_n 24 hZ 0 dX7_undo_23 rfl rfl rfl ?_
    refine g_X7_12 27 hZ dX7_undo_24 rfl ?_
    refine r_callVV (c_X3_refreshOldColumns l g y ad _ (I := I) (O := O) ((tbF_0 σ M 2 (by decide) r).trans hI) ((tbF_0 σ M 3 (by decide) r).trans hO) hIO (by rw [e6]; exact hw)) wM_X3_refreshOldColumns wL_X7_223 hZ rfl ⟨by decide, by decide⟩ 1 3 rfl rfl rfl rfl dX7_undo_27 ?_
    refine r_aload_n 31 hZ 0 dX7_undo_30 rfl rfl rfl ?_
    refine r_iconst (v := (-1)) 32 hZ dX7_undo_31 rfl (by decide) ?_
    refine p_X7_55 35 hZ dX7_undo_32 rfl ?_
    refine r_iconst (v := 1) 36 hZ dX7_undo_35 rfl (by decide) ?_
    exact hret _ _ _ _ dX7_undo_36 (bI_t trivial).symm rfl
  · skip
    exact absurd (nI_eqq (b := 0) (by omega) (by decide) c_7) (by omega)
set_option maxHeartbeats 4000000 in
set_option maxRecDepth 100000 in
theorem c_X7_literal_1 (l : Launch) (g : va_G) (y : Nat → ClassId) (ad : Nat → Nat) (σ : Nat → Nat → Int32) {N : Nat} (hN : σ 0 1 = nI N) (hN2 : N ≤ 38) (x w : Int32) (h : ¬ ((okL x N ∧ σ 1 (ix x) = 1) ∧ okL w 2)) (hst : l.stackTraces = false) : w_T l g y yX7_literal cX7_literal 3 (some .int) 8 [.ref (ad 0), .int x, .int w] (cw ad y σ) xIO := by
  refine w_ofT (lv0 := [(0, .ref (ad 0)), (1, .int x), (2, .int w)]) hst (by decide +kernel) (Nat.le_of_ble_eq_true rfl) rfl ?_
  intro Z hT
  have hZ := hT.is
  refine r_aload_n 1 hZ 0 dX7_literal_0 rfl rfl rfl ?_
  refine g_X7_12 4 hZ dX7_literal_1 rfl ?_
  refine r_iload_n 5 hZ 1 dX7_literal_4 rfl rfl rfl ?_
  refine r_callVI (c_X3_isOldNode l g y ad σ x hN hN2) wM_X3_isOldNode wL_X7_147 hZ rfl ⟨by decide, by decide⟩ 1 3 rfl rfl rfl rfl dX7_literal_5 ?_
  refine r_if_eq 20 11 hZ dX7_literal_8 (by decide) rfl (fun c_8 => ?_) (fun c_8 => ?_)
  · skip
    exact r_throwIO hT (by decide) (show (230, _) ∈ w_strs from List.mem_of_getElem? (i := 17) rfl) rfl dX7_literal_20 dX7_literal_23 dX7_literal_24 dX7_literal_26 dX7_literal_29
  · skip
    refine r_iload_n 12 hZ 2 dX7_literal_11 rfl rfl rfl ?_
    refine r_if_lt 20 15 hZ dX7_literal_12 (by decide) rfl (fun c_12 => ?_) (fun c_12 => ?_)
    · skip
      exact r_throwIO hT (by decide) (show (230, _) ∈ w_strs from List.mem_of_getElem? (i := 17) rfl) rfl dX7_literal_20 dX7_literal_23 dX7_literal_24 dX7_literal_26 dX7_literal_29
    · skip
      refine r_iload_n 16 hZ 2 dX7_literal_15 rfl rfl rfl ?_
      refine r_iconst (v := 1) 17 hZ dX7_literal_16 rfl (by decide) ?_
      refine r_icmp_le 30 20 hZ dX7_literal_17 (by decide) rfl (fun c_17 => ?_) (fun c_17 => ?_)
      · skip
        exact (h ⟨bI_n0.mp c_8, is2 c_12 c_17⟩).elim
      · skip
        exact r_throwIO hT (by decide) (show (230, _) ∈ w_strs from List.mem_of_getElem? (i := 17) rfl) rfl dX7_literal_20 dX7_literal_23 dX7_literal_24 dX7_literal_26 dX7_literal_29
set_option maxHeartbeats 4000000 in
set_option maxRecDepth 100000 in
theorem c_X7_literal_0 (l : Launch) (g : va_G) (y : Nat → ClassId) (ad : Nat → Nat) (σ : Nat → Nat → Int32) {N : Nat} (hN : σ 0 1 = nI N) (hN2 : N ≤ 38) (x w : Int32) (h : okL x N ∧ σ 1 (ix x) = 1) (hw : okL w 2) : w_C l g y yX7_literal cX7_literal 3 (some .int) 8 [.ref (ad 0), .int x, .int w] (cw ad y σ) (some (.int (liC σ w (ix x)))) (cw ad y σ) := by
  refine w_ofI (lv0 := [(0, .ref (ad 0)), (1, .int x), (2, .int w)]) (by decide +kernel) (Nat.le_of_ble_eq_true rfl) rfl (rfl) ?_
  intro Z hZ hret
  refine r_aload_n 1 hZ 0 dX7_literal_0 rfl rfl rfl ?_
  refine g_X7_12 4 hZ dX7_literal_1 rfl ?_
  refine r_iload_n 5 hZ 1 dX7_literal_4 rfl rfl rfl ?_
  refine r_callVI (c_X3_isOldNode l g y ad σ x hN hN2) wM_X3_isOldNode wL_X7_147 hZ rfl ⟨by decide, by decide⟩ 1 3 rfl rfl rfl rfl dX7_literal_5 ?_
  refine r_if_eq 20 11 hZ dX7_literal_8 (by decide) rfl (fun c_8 => ?_) (fun c_8 => ?_)
  · skip
    exact (bI_0.mp c_8 h).elim
  · skip
    refine r_iload_n 12 hZ 2 dX7_literal_11 rfl rfl rfl ?_
    refine r_if_lt 20 15 hZ dX7_literal_12 (by decide) rfl (fun c_12 => ?_) (fun c_12 => ?_)
    · skip
      exact absurd c_12 (ge0 hw (by decide))
    · skip
      refine r_iload_n 16 hZ 2 dX7_literal_15 rfl rfl rfl ?_
      refine r_iconst (v := 1) 17 hZ dX7_literal_16 rfl (by decide) ?_
      refine r_icmp_le 30 20 hZ dX7_literal_17 (by decide) rfl (fun c_17 => ?_) (fun c_17 => ?_)
      · skip
        refine r_iload_n 31 hZ 2 dX7_literal_30 rfl rfl rfl ?_
        refine r_if_ne 46 34 hZ dX7_literal_31 (by decide) rfl (fun c_31 => ?_) (fun c_31 => ?_)
        · skip
          refine r_aload_n 47 hZ 0 dX7_literal_46 rfl rfl rfl ?_
          refine g_X7_12 50 hZ dX7_literal_47 rfl ?_
          refine g_X7_234 53 hZ dX7_literal_50 rfl ?_
          refine r_iload_n 54 hZ 1 dX7_literal_53 rfl rfl rfl ?_
          refine a_c3 55 hZ (okL_in (okL_mono h.1 hN2) (by decide)) dX7_literal_54 rfl ?_
          exact hret _ _ _ _ dX7_literal_55 (by unfold liC; first | rw [if_pos c_31] | rw [if_neg c_31]) rfl
        · skip
          refine r_aload_n 35 hZ 0 dX7_literal_34 rfl rfl rfl ?_
          refine g_X7_12 38 hZ dX7_literal_35 rfl ?_
          refine g_X7_232 41 hZ dX7_literal_38 rfl ?_
          refine r_iload_n 42 hZ 1 dX7_literal_41 rfl rfl rfl ?_
          refine a_c2 43 hZ (okL_in (okL_mono h.1 hN2) (by decide)) dX7_literal_42 rfl ?_
          refine r_goto 55 hZ dX7_literal_43 (by decide) ?_
          exact hret _ _ _ _ dX7_literal_55 (by unfold liC; first | rw [if_pos c_31] | rw [if_neg c_31]) rfl
      · skip
        exact absurd (le1 hw) c_17
set_option maxHeartbeats 4000000 in
set_option maxRecDepth 100000 in
theorem c_X7_count_e (l : Launch) (g : va_G) (y : Nat → ClassId) (ad : Nat → Nat) (σ : Nat → Nat → Int32) (x : Int32) (h : ¬ okL x 8) (hst : l.stackTraces = false) : w_T l g y yX7_count cX7_count 2 (some .int) 8 [.ref (ad 0), .int x] (cw ad y σ) xIO := by
  refine w_ofT (lv0 := [(0, .ref (ad 0)), (1, .int x)]) hst (by decide +kernel) (Nat.le_of_ble_eq_true rfl) rfl ?_
  intro Z hT
  have hZ := hT.is
  refine r_iload_n 1 hZ 1 dX7_count_0 rfl rfl rfl ?_
  refine r_tsOut 112 hZ dX7_count_1 (by have := okL_out h; omega) (by decide) ?_
  exact r_throwIO hT (by decide) (show (187, _) ∈ w_strs from List.mem_of_getElem? (i := 13) rfl) rfl dX7_count_112 dX7_count_115 dX7_count_116 dX7_count_118 dX7_count_121
set_option maxHeartbeats 4000000 in
set_option maxRecDepth 100000 in
theorem c_X7_count_0 (l : Launch) (g : va_G) (y : Nat → ClassId) (ad : Nat → Nat) (σ : Nat → Nat → Int32)  : w_C l g y yX7_count cX7_count 2 (some .int) 8 [.ref (ad 0), .int 0] (cw ad y σ) (some (.int (σ 0 1))) (cw ad y σ) := by
  refine w_ofI (lv0 := [(0, .ref (ad 0)), (1, .int 0)]) (by decide +kernel) (Nat.le_of_ble_eq_true rfl) rfl (rfl) ?_
  intro Z hZ hret
  refine r_iload_n 1 hZ 1 dX7_count_0 rfl rfl rfl ?_
  refine r_tsIn 48 hZ dX7_count_1 (by decide) (by decide) (by rfl) (by decide) ?_
  refine r_aload_n 49 hZ 0 dX7_count_48 rfl rfl rfl ?_
  refine g_X7_12 52 hZ dX7_count_49 rfl ?_
  refine g_X7_99 55 hZ dX7_count_52 rfl ?_
  exact hret _ _ _ _ dX7_count_55 rfl rfl
set_option maxHeartbeats 4000000 in
set_option maxRecDepth 100000 in
theorem c_X7_count_1 (l : Launch) (g : va_G) (y : Nat → ClassId) (ad : Nat → Nat) (σ : Nat → Nat → Int32)  : w_C l g y yX7_count cX7_count 2 (some .int) 8 [.ref (ad 0), .int 1] (cw ad y σ) (some (.int (σ 0 2))) (cw ad y σ) := by
  refine w_ofI (lv0 := [(0, .ref (ad 0)), (1, .int 1)]) (by decide +kernel) (Nat.le_of_ble_eq_true rfl) rfl (rfl) ?_
  intro Z hZ hret
  refine r_iload_n 1 hZ 1 dX7_count_0 rfl rfl rfl ?_
  refine r_tsIn 56 hZ dX7_count_1 (by decide) (by decide) (by rfl) (by decide) ?_
  refine r_aload_n 57 hZ 0 dX7_count_56 rfl rfl rfl ?_
  refine g_X7_12 60 hZ dX7_count_57 rfl ?_
  refine g_X7_59 63 hZ dX7_count_60 rfl ?_
  exact hret _ _ _ _ dX7_count_63 rfl rfl
set_option maxHeartbeats 4000000 in
set_option maxRecDepth 100000 in
theorem c_X7_count_2 (l : Launch) (g : va_G) (y : Nat → ClassId) (ad : Nat → Nat) (σ : Nat → Nat → Int32)  : w_C l g y yX7_count cX7_count 2 (some .int) 8 [.ref (ad 0), .int 2] (cw ad y σ) (some (.int (σ 0 3))) (cw ad y σ) := by
  refine w_ofI (lv0 := [(0, .ref (ad 0)), (1, .int 2)]) (by decide +kernel) (Nat.le_of_ble_eq_true rfl) rfl (rfl) ?_
  intro Z hZ hret
  refine r_iload_n 1 hZ 1 dX7_count_0 rfl rfl rfl ?_
  refine r_tsIn 64 hZ dX7_count_1 (by decide) (by decide) (by rfl) (by decide) ?_
  refine r_aload_n 65 hZ 0 dX7_count_64 rfl rfl rfl ?_
  refine g_X7_12 68 hZ dX7_count_65 rfl ?_
  refine g_X7_62 71 hZ dX7_count_68 rfl ?_
  exact hret _ _ _ _ dX7_count_71 rfl rfl
set_option maxHeartbeats 4000000 in
set_option maxRecDepth 100000 in
theorem c_X7_count_3 (l : Launch) (g : va_G) (y : Nat → ClassId) (ad : Nat → Nat) (σ : Nat → Nat → Int32)  : w_C l g y yX7_count cX7_count 2 (some .int) 8 [.ref (ad 0), .int 3] (cw ad y σ) (some (.int (σ 0 4))) (cw ad y σ) := by
  refine w_ofI (lv0 := [(0, .ref (ad 0)), (1, .int 3)]) (by decide +kernel) (Nat.le_of_ble_eq_true rfl) rfl (rfl) ?_
  intro Z hZ hret
  refine r_iload_n 1 hZ 1 dX7_count_0 rfl rfl rfl ?_
  refine r_tsIn 72 hZ dX7_count_1 (by decide) (by decide) (by rfl) (by decide) ?_
  refine r_aload_n 73 hZ 0 dX7_count_72 rfl rfl rfl ?_
  refine g_X7_12 76 hZ dX7_count_73 rfl ?_
  refine g_X7_65 79 hZ dX7_count_76 rfl ?_
  exact hret _ _ _ _ dX7_count_79 rfl rfl
set_option maxHeartbeats 4000000 in
set_option maxRecDepth 100000 in
theorem c_X7_count_4 (l : Launch) (g : va_G) (y : Nat → ClassId) (ad : Nat → Nat) (σ : Nat → Nat → Int32)  : w_C l g y yX7_count cX7_count 2 (some .int) 8 [.ref (ad 0), .int 4] (cw ad y σ) (some (.int (σ 0 5))) (cw ad y σ) := by
  refine w_ofI (lv0 := [(0, .ref (ad 0)), (1, .int 4)]) (by decide +kernel) (Nat.le_of_ble_eq_true rfl) rfl (rfl) ?_
  intro Z hZ hret
  refine r_iload_n 1 hZ 1 dX7_count_0 rfl rfl rfl ?_
  refine r_tsIn 80 hZ dX7_count_1 (by decide) (by decide) (by rfl) (by decide) ?_
  refine r_aload_n 81 hZ 0 dX7_count_80 rfl rfl rfl ?_
  refine g_X7_19 84 hZ dX7_count_81 rfl ?_
  refine g_X7_117 87 hZ dX7_count_84 rfl ?_
  exact hret _ _ _ _ dX7_count_87 rfl rfl
set_option maxHeartbeats 4000000 in
set_option maxRecDepth 100000 in
theorem c_X7_count_5 (l : Launch) (g : va_G) (y : Nat → ClassId) (ad : Nat → Nat) (σ : Nat → Nat → Int32)  : w_C l g y yX7_count cX7_count 2 (some .int) 8 [.ref (ad 0), .int 5] (cw ad y σ) (some (.int (σ 0 6))) (cw ad y σ) := by
  refine w_ofI (lv0 := [(0, .ref (ad 0)), (1, .int 5)]) (by decide +kernel) (Nat.le_of_ble_eq_true rfl) rfl (rfl) ?_
  intro Z hZ hret
  refine r_iload_n 1 hZ 1 dX7_count_0 rfl rfl rfl ?_
  refine r_tsIn 88 hZ dX7_count_1 (by decide) (by decide) (by rfl) (by decide) ?_
  refine r_aload_n 89 hZ 0 dX7_count_88 rfl rfl rfl ?_
  refine g_X7_26 92 hZ dX7_count_89 rfl ?_
  refine g_X7_166 95 hZ dX7_count_92 rfl ?_
  exact hret _ _ _ _ dX7_count_95 rfl rfl
set_option maxHeartbeats 4000000 in
set_option maxRecDepth 100000 in
theorem c_X7_count_6 (l : Launch) (g : va_G) (y : Nat → ClassId) (ad : Nat → Nat) (σ : Nat → Nat → Int32) {I O : Nat} (hI : σ 0 2 = nI I) (hO : σ 0 3 = nI O) (hIO : 1 + I + O ≤ 14) (hw : ∀ n, 1 + I ≤ n → n < 1 + I + O → okL (σ 6 n) 38) : w_C l g y yX7_count cX7_count 2 (some .int) 8 [.ref (ad 0), .int 6] (cw ad y σ) (some (.int (nI (cnt (fun i => ¬ σ 5 (ix (σ 6 (1 + I + i))) = 0) O)))) (cw ad y σ) := by
  refine w_ofI (lv0 := [(0, .ref (ad 0)), (1, .int 6)]) (by decide +kernel) (Nat.le_of_ble_eq_true rfl) rfl (rfl) ?_
  intro Z hZ hret
  refine r_iload_n 1 hZ 1 dX7_count_0 rfl rfl rfl ?_
  refine r_tsIn 96 hZ dX7_count_1 (by decide) (by decide) (by rfl) (by decide) ?_
  refine r_aload_n 97 hZ 0 dX7_count_96 rfl rfl rfl ?_
  refine g_X7_12 100 hZ dX7_count_97 rfl ?_
  refine r_callVI (c_X3_keptNodes l g y ad σ hI hO hIO hw) wM_X3_keptNodes wL_X7_236 hZ rfl ⟨by decide, by decide⟩ 1 3 rfl rfl rfl rfl dX7_count_100 ?_
  exact hret _ _ _ _ dX7_count_103 rfl rfl
set_option maxHeartbeats 4000000 in
set_option maxRecDepth 100000 in
theorem c_X7_count_7 (l : Launch) (g : va_G) (y : Nat → ClassId) (ad : Nat → Nat) (σ : Nat → Nat → Int32)  : w_C l g y yX7_count cX7_count 2 (some .int) 8 [.ref (ad 0), .int 7] (cw ad y σ) (some (.int (σ 0 8))) (cw ad y σ) := by
  refine w_ofI (lv0 := [(0, .ref (ad 0)), (1, .int 7)]) (by decide +kernel) (Nat.le_of_ble_eq_true rfl) rfl (rfl) ?_
  intro Z hZ hret
  refine r_iload_n 1 hZ 1 dX7_count_0 rfl rfl rfl ?_
  refine r_tsIn 104 hZ dX7_count_1 (by decide) (by decide) (by rfl) (by decide) ?_
  refine r_aload_n 105 hZ 0 dX7_count_104 rfl rfl rfl ?_
  refine g_X7_51 108 hZ dX7_count_105 rfl ?_
  refine g_X7_210 111 hZ dX7_count_108 rfl ?_
  exact hret _ _ _ _ dX7_count_111 rfl rfl
def clearC (σ : stT) : stT := up (up (up (up (up (up (up (up σ 0 1 1) 0 2 0) 0 3 0) 0 4 0) 0 5 0) 0 6 0) 0 8 0) 0 0 (-1)
set_option maxHeartbeats 4000000 in
set_option maxRecDepth 100000 in
theorem c_X7_clear (l : Launch) (g : va_G) (y : Nat → ClassId) (ad : Nat → Nat) (σ : Nat → Nat → Int32)  : w_C l g y yX7_clear cX7_clear 1 none 8 [.ref (ad 0)] (cw ad y σ) none (cw ad y (clearC σ)) := by
  refine w_ofV (lv0 := [(0, .ref (ad 0))]) (by decide +kernel) (Nat.le_of_ble_eq_true rfl) rfl ?_
  intro Z hZ hret
  refine r_aload_n 1 hZ 0 dX7_clear_0 rfl rfl rfl ?_
  refine g_X7_12 4 hZ dX7_clear_1 rfl ?_
  refine r_callVV (c_X3_reset l g y ad σ) wM_X3_reset wL_X7_239 hZ rfl ⟨by decide, by decide⟩ 1 3 rfl rfl rfl rfl dX7_clear_4 ?_
  refine r_aload_n 8 hZ 0 dX7_clear_7 rfl rfl rfl ?_
  refine g_X7_19 11 hZ dX7_clear_8 rfl ?_
  refine r_iconst (v := 0) 12 hZ dX7_clear_11 rfl (by decide) ?_
  refine p_X7_117 15 hZ dX7_clear_12 rfl ?_
  refine r_aload_n 16 hZ 0 dX7_clear_15 rfl rfl rfl ?_
  refine g_X7_26 19 hZ dX7_clear_16 rfl ?_
  refine r_iconst (v := 0) 20 hZ dX7_clear_19 rfl (by decide) ?_
  refine p_X7_166 23 hZ dX7_clear_20 rfl ?_
  refine r_aload_n 24 hZ 0 dX7_clear_23 rfl rfl rfl ?_
  refine g_X7_51 27 hZ dX7_clear_24 rfl ?_
  refine r_iconst (v := 0) 28 hZ dX7_clear_27 rfl (by decide) ?_
  refine p_X7_210 31 hZ dX7_clear_28 rfl ?_
  refine r_aload_n 32 hZ 0 dX7_clear_31 rfl rfl rfl ?_
  refine r_iconst (v := (-1)) 33 hZ dX7_clear_32 rfl (by decide) ?_
  refine p_X7_55 36 hZ dX7_clear_33 rfl ?_
  exact hret _ _ _ dX7_clear_36 rfl
