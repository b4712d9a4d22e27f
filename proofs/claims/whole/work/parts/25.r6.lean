theorem okL0 : okL 0 80 := ⟨rfl, by decide⟩
def edV (τ : stT) (w : Int32) (k : Nat) : Int32 := if w = 0 then τ 8 k else if w = 1 then τ 9 k else τ 10 k
def usV (τ : stT) (k : Nat) : Int32 := if τ 0 9 = 0 then -1 else τ 11 k
def lnV (τ : stT) (ρ : rtT) : Int32 := if τ 0 9 = 0 then -1 else (ρ 0 0).toInt32
def liV (τ : stT) (w : Int32) (k : Nat) : Int32 := if w = 0 then τ 2 k else τ 3 k
def mkF (τ : stT) (M : Nat) : Nat → stT
  | 0 => up τ 0 0 0
  | k + 1 => up (up (up (up (up (mkF τ M k) 13 (2 * M + k) (τ 8 k)) 14 (2 * M + k) (mkF τ M k 2 (ix (τ 8 k)))) 15 (2 * M + k) (mkF τ M k 3 (ix (τ 8 k)))) 2 (ix (τ 8 k)) (τ 9 k)) 3 (ix (τ 8 k)) (τ 10 k)
theorem mkF_k (τ : stT) (M k : Nat) (h0 : k ≠ 0) (h2 : k ≠ 2) (h3 : k ≠ 3) (h13 : k ≠ 13) (h14 : k ≠ 14) (h15 : k ≠ 15) : ∀ i, mkF τ M i k = τ k
  | 0 => by show (if k = 0 then _ else _) = _; rw [if_neg h0]
  | i + 1 => by
    rw [← mkF_k τ M k h0 h2 h3 h13 h14 h15 i]
    show (if k = 3 then _ else if k = 2 then _ else if k = 15 then _ else if k = 14 then _ else if k = 13 then _ else _) = _
    rw [if_neg h3, if_neg h2, if_neg h15, if_neg h14, if_neg h13]
theorem mkF_0 (τ : stT) (M j : Nat) (h : j ≠ 0) : ∀ i, mkF τ M i 0 j = τ 0 j
  | 0 => by show upd _ _ _ j = _; unfold upd; rw [if_neg h]
  | i + 1 => by rw [← mkF_0 τ M j h i]; rfl
theorem Rs.mk {τ : stT} {N G M : Nat} (h : Rs τ N G) : ∀ i, (∀ k, k < i → okL (τ 9 k) 80 ∧ okL (τ 10 k) 80) → Rs (mkF τ M i) N G
  | 0, _ => Rs.c0 h 0 0 (by decide) (by decide)
  | i + 1, hk => by
    have h1 := Rs.mk (M := M) h i (fun k q => hk k (by omega))
    obtain ⟨a, b⟩ := hk i (by omega)
    exact (h1.ed (ix (τ 8 i)) a b).congr rfl rfl rfl rfl rfl rfl
noncomputable def maF (τ : stT) (N M r : Nat) : stT := up (woF (up (up (mkF τ M r) 12 M (nI r)) 0 10 (nI (M + 1))) 0 N) 0 7 0
def unF (τ : stT) (M : Nat) : Nat → stT
  | 0 => up (up τ 0 0 0) 0 10 (nI M)
  | k + 1 => up (up (unF τ M k) 2 (ix (τ 13 (2 * M + k))) (τ 14 (2 * M + k))) 3 (ix (τ 13 (2 * M + k))) (τ 15 (2 * M + k))
theorem unF_k (τ : stT) (M k : Nat) (h0 : k ≠ 0) (h2 : k ≠ 2) (h3 : k ≠ 3) : ∀ i, unF τ M i k = τ k
  | 0 => by show (if k = 0 then _ else if k = 0 then _ else _) = _; rw [if_neg h0, if_neg h0]
  | i + 1 => by
    rw [← unF_k τ M k h0 h2 h3 i]
    show (if k = 3 then _ else if k = 2 then _ else _) = _
    rw [if_neg h3, if_neg h2]
theorem unF_0 (τ : stT) (M j : Nat) : ∀ i, unF τ M i 0 j = up (up τ 0 0 0) 0 10 (nI M) 0 j
  | 0 => rfl
  | i + 1 => by rw [← unF_0 τ M j i]; rfl
theorem Rs.un {τ : stT} {N G M : Nat} (h : Rs τ N G) : ∀ i, (∀ k, k < i → okL (τ 14 (2 * M + k)) 80 ∧ okL (τ 15 (2 * M + k)) 80) → Rs (unF τ M i) N G
  | 0, _ => Rs.c0 (Rs.c0 h 0 0 (by decide) (by decide)) 10 _ (by decide) (by decide)
  | i + 1, hk => by
    have h1 := Rs.un (M := M) h i (fun k q => hk k (by omega))
    obtain ⟨a, b⟩ := hk i (by omega)
    exact h1.ed (ix (τ 13 (2 * M + i))) a b
noncomputable def udF (τ : stT) (N M r : Nat) : stT := up (woF (unF τ M r) 0 N) 0 7 0
theorem m2 (M i : Nat) : 2 * nI M + nI i = nI (2 * M + i) := by rw [nI_2, nI_add]
def clF (τ : stT) : stT := up (up (up (up (up (up (up (up (up (up (up τ 0 0 0) 0 1 1) 1 0 0) 4 0 0) 0 2 0) 0 3 0) 0 4 0) 0 5 0) 0 6 0) 0 10 0) 0 7 0
def inT (I : Nat) : Nat → Int32
  | 0 => 0
  | a + 1 => if (nI a >>> (nI I &&& 31)) &&& 1 = 1 then inT I a ||| (1 <<< (nI a &&& 31)) else inT I a
theorem inT_t {I a : Nat} (h : (nI a >>> (nI I &&& 31)) &&& 1 = 1) : inT I (a + 1) = inT I a ||| (1 <<< (nI a &&& 31)) := if_pos h
theorem inT_f {I a : Nat} (h : ¬ (nI a >>> (nI I &&& 31)) &&& 1 = 1) : inT I (a + 1) = inT I a := if_neg h
noncomputable def inF (τ : stT) (N I : Nat) : stT := putF (up (up (up τ 0 0 0) 4 N (inT I 32)) 0 2 (nI (I + 1))) N 1 0 0
theorem r_tsIn {l : Launch} {g : va_G} {y : Nat → ClassId} {R : Room} {cc : ByteArray} {own : String} {nL : Nat} {Z : Nat → Nat → va_W → Nat → List (Nat × Value) → List Value → Prop} {k n pc : Nat} {ws : va_W} {lv : List (Nat × Value)} {st : List Value} (tgt : Nat) (hZ : w_Is l g y R cc own nL Z) {dflt lo hi off : Int} {offs : Array Int} {len : Nat} {x : Int32} (dd : decode cc pc = .ok (.tableswitch dflt lo hi offs, len)) (h1 : ¬ x.toInt < lo) (h2 : ¬ hi < x.toInt) (ho : offs[(x.toInt - lo).toNat]? = some off) (ht : (pc : Int) + off = (tgt : Int)) (k1 : Z k n ws tgt lv st) : Z k n ws pc lv (.int x :: st) := by
  obtain ⟨p, e, s, m, args, below, meth, c, A, Q, ⟨hx, hb, hml, hown, hts, hK, hA, hN⟩, hi⟩ := hZ
  rw [hi] at k1 ⊢
  exact fun h3 h4 H locs ls hP hD hS hl => lv_tableIn hx hb dd h1 h2 ho ht (k1 h3 h4 H locs ls hP hD hS hl)
theorem r_tsOut {l : Launch} {g : va_G} {y : Nat → ClassId} {R : Room} {cc : ByteArray} {own : String} {nL : Nat} {Z : Nat → Nat → va_W → Nat → List (Nat × Value) → List Value → Prop} {k n pc : Nat} {ws : va_W} {lv : List (Nat × Value)} {st : List Value} (tgt : Nat) (hZ : w_Is l g y R cc own nL Z) {dflt lo hi : Int} {offs : Array Int} {len : Nat} {x : Int32} (dd : decode cc pc = .ok (.tableswitch dflt lo hi offs, len)) (h1 : x.toInt < lo ∨ hi < x.toInt) (ht : (pc : Int) + dflt = (tgt : Int)) (k1 : Z k n ws tgt lv st) : Z k n ws pc lv (.int x :: st) := by
  obtain ⟨p, e, s, m, args, below, meth, c, A, Q, ⟨hx, hb, hml, hown, hts, hK, hA, hN⟩, hi⟩ := hZ
  rw [hi] at k1 ⊢
  exact fun h3 h4 H locs ls hP hD hS hl => lv_tableOut hx hb dd h1 ht (k1 h3 h4 H locs ls hP hD hS hl)
set_option maxHeartbeats 4000000 in
set_option maxRecDepth 100000 in
theorem c_X8_edit_1 (l : Launch) (g : va_G) (y : Nat → ClassId) (ad : Nat → Nat) (τ : Nat → Nat → Int32) (ρ : Nat → Nat → Int64) (k w : Int32) (h : ¬ okL w 3) : w_C l g y yX8_edit cX8_edit 3 (some .int) 4 [.ref (ad 0), .int k, .int w] (rw ad y τ ρ) (some (.int 0)) (rw ad y (up τ 0 0 1) ρ) := by
  refine w_ofI (lv0 := [(0, .ref (ad 0)), (1, .int k), (2, .int w)]) (by decide +kernel) (Nat.le_of_ble_eq_true rfl) rfl (rfl) ?_
  intro Z hZ hret
  refine r_aload_n 1 hZ 0 dX8_edit_0 rfl rfl rfl ?_
  refine r_iload_n 2 hZ 2 dX8_edit_1 rfl rfl rfl ?_
  refine r_iconst (v := 3) 3 hZ dX8_edit_2 rfl (by decide) ?_
  refine r_callSI (c_X8_isIn l g y ad τ ρ w (m := 3) (by decide)) wM_X8_isIn wL_X8_79 hZ rfl ⟨by decide, by decide⟩ rfl rfl dX8_edit_3 ?_
  refine w_eqI (bI_f h) ?_
  refine r_if_ne 13 9 hZ dX8_edit_6 (by decide) rfl (fun c_6 => ?_) (fun c_6 => ?_)
  · skip
    exact absurd c_6 (show ¬ (¬ (0 : Int32) = (0 : Int32)) by decide)
  · skip
    refine r_iconst (v := 1) 10 hZ dX8_edit_9 rfl (by decide) ?_
    refine r_goto 40 hZ dX8_edit_10 (by decide) ?_
    refine p_X8_72 43 hZ dX8_edit_40 rfl ?_
    refine r_aload_n 44 hZ 0 dX8_edit_43 rfl rfl rfl ?_
    refine g_X8_72 47 hZ dX8_edit_44 rfl ?_
    refine r_if_le 54 50 hZ dX8_edit_47 (by decide) rfl (fun c_47 => ?_) (fun c_47 => ?_)
    · skip
      exact absurd c_47 (show ¬ ((1 : Int32) ≤ (0 : Int32)) by decide)
    · skip
      refine r_iconst (v := 0) 51 hZ dX8_edit_50 rfl (by decide) ?_
      refine r_goto 87 hZ dX8_edit_51 (by decide) ?_
      exact hret _ _ _ _ dX8_edit_87 rfl rfl
set_option maxHeartbeats 4000000 in
set_option maxRecDepth 100000 in
theorem c_X8_edit_2 (l : Launch) (g : va_G) (y : Nat → ClassId) (ad : Nat → Nat) (τ : Nat → Nat → Int32) (ρ : Nat → Nat → Int64) (k w : Int32) (h : okL w 3) (hF : τ 0 7 = 0) : w_C l g y yX8_edit cX8_edit 3 (some .int) 4 [.ref (ad 0), .int k, .int w] (rw ad y τ ρ) (some (.int 0)) (rw ad y (up τ 0 0 2) ρ) := by
  refine w_ofI (lv0 := [(0, .ref (ad 0)), (1, .int k), (2, .int w)]) (by decide +kernel) (Nat.le_of_ble_eq_true rfl) rfl (rfl) ?_
  intro Z hZ hret
  refine r_aload_n 1 hZ 0 dX8_edit_0 rfl rfl rfl ?_
  refine r_iload_n 2 hZ 2 dX8_edit_1 rfl rfl rfl ?_
  refine r_iconst (v := 3) 3 hZ dX8_edit_2 rfl (by decide) ?_
  refine r_callSI (c_X8_isIn l g y ad τ ρ w (m := 3) (by decide)) wM_X8_isIn wL_X8_79 hZ rfl ⟨by decide, by decide⟩ rfl rfl dX8_edit_3 ?_
  refine w_eqI (bI_t h) ?_
  refine r_if_ne 13 9 hZ dX8_edit_6 (by decide) rfl (fun c_6 => ?_) (fun c_6 => ?_)
  · skip
    refine r_aload_n 14 hZ 0 dX8_edit_13 rfl rfl rfl ?_
    refine g_X8_98 17 hZ dX8_edit_14 rfl ?_
    refine w_eqI (hF) ?_
    refine r_if_ne 24 20 hZ dX8_edit_17 (by decide) rfl (fun c_17 => ?_) (fun c_17 => ?_)
    · skip
      exact absurd c_17 (show ¬ (¬ (0 : Int32) = (0 : Int32)) by decide)
    · skip
      refine r_iconst (v := 2) 21 hZ dX8_edit_20 rfl (by decide) ?_
      refine r_goto 40 hZ dX8_edit_21 (by decide) ?_
      refine p_X8_72 43 hZ dX8_edit_40 rfl ?_
      refine r_aload_n 44 hZ 0 dX8_edit_43 rfl rfl rfl ?_
      refine g_X8_72 47 hZ dX8_edit_44 rfl ?_
      refine r_if_le 54 50 hZ dX8_edit_47 (by decide) rfl (fun c_47 => ?_) (fun c_47 => ?_)
      · skip
        exact absurd c_47 (show ¬ ((2 : Int32) ≤ (0 : Int32)) by decide)
      · skip
        refine r_iconst (v := 0) 51 hZ dX8_edit_50 rfl (by decide) ?_
        refine r_goto 87 hZ dX8_edit_51 (by decide) ?_
        exact hret _ _ _ _ dX8_edit_87 rfl rfl
  · skip
    exact absurd c_6 (show ¬ ((1 : Int32) = (0 : Int32)) by decide)
set_option maxHeartbeats 4000000 in
set_option maxRecDepth 100000 in
theorem c_X8_edit_3 (l : Launch) (g : va_G) (y : Nat → ClassId) (ad : Nat → Nat) (τ : Nat → Nat → Int32) (ρ : Nat → Nat → Int64) {r : Nat} (hE : τ 0 8 = nI r) (hr : r ≤ 2) (k w : Int32) (h : okL w 3) (hF : τ 0 7 = 1) (hk : ¬ okL k r) : w_C l g y yX8_edit cX8_edit 3 (some .int) 4 [.ref (ad 0), .int k, .int w] (rw ad y τ ρ) (some (.int 0)) (rw ad y (up τ 0 0 1) ρ) := by
  refine w_ofI (lv0 := [(0, .ref (ad 0)), (1, .int k), (2, .int w)]) (by decide +kernel) (Nat.le_of_ble_eq_true rfl) rfl (rfl) ?_
  intro Z hZ hret
  refine r_aload_n 1 hZ 0 dX8_edit_0 rfl rfl rfl ?_
  refine r_iload_n 2 hZ 2 dX8_edit_1 rfl rfl rfl ?_
  refine r_iconst (v := 3) 3 hZ dX8_edit_2 rfl (by decide) ?_
  refine r_callSI (c_X8_isIn l g y ad τ ρ w (m := 3) (by decide)) wM_X8_isIn wL_X8_79 hZ rfl ⟨by decide, by decide⟩ rfl rfl dX8_edit_3 ?_
  refine w_eqI (bI_t h) ?_
  refine r_if_ne 13 9 hZ dX8_edit_6 (by decide) rfl (fun c_6 => ?_) (fun c_6 => ?_)
  · skip
    refine r_aload_n 14 hZ 0 dX8_edit_13 rfl rfl rfl ?_
    refine g_X8_98 17 hZ dX8_edit_14 rfl ?_
    refine w_eqI (hF) ?_
    refine r_if_ne 24 20 hZ dX8_edit_17 (by decide) rfl (fun c_17 => ?_) (fun c_17 => ?_)
    · skip
      refine r_iload_n 25 hZ 1 dX8_edit_24 rfl rfl rfl ?_
      refine r_aload_n 26 hZ 0 dX8_edit_25 rfl rfl rfl ?_
      refine g_X8_157 29 hZ dX8_edit_26 rfl ?_
      refine w_eqI (hE) ?_
      refine r_callSI (c_X8_isIn l g y ad τ ρ k (m := r) (by omega)) wM_X8_isIn wL_X8_79 hZ rfl ⟨by decide, by decide⟩ rfl rfl dX8_edit_29 ?_
      refine w_eqI (bI_f hk) ?_
      refine r_if_eq 39 35 hZ dX8_edit_32 (by decide) rfl (fun c_32 => ?_) (fun c_32 => ?_)
      · skip
        refine r_iconst (v := 1) 40 hZ dX8_edit_39 rfl (by decide) ?_
        refine p_X8_72 43 hZ dX8_edit_40 rfl ?_
        refine r_aload_n 44 hZ 0 dX8_edit_43 rfl rfl rfl ?_
        refine g_X8_72 47 hZ dX8_edit_44 rfl ?_
        refine r_if_le 54 50 hZ dX8_edit_47 (by decide) rfl (fun c_47 => ?_) (fun c_47 => ?_)
        · skip
          exact absurd c_47 (show ¬ ((1 : Int32) ≤ (0 : Int32)) by decide)
        · skip
          refine r_iconst (v := 0) 51 hZ dX8_edit_50 rfl (by decide) ?_
          refine r_goto 87 hZ dX8_edit_51 (by decide) ?_
          exact hret _ _ _ _ dX8_edit_87 rfl rfl
      · skip
        exact absurd c_32 (show ¬ ¬ ((0 : Int32) = (0 : Int32)) by decide)
    · skip
      exact absurd c_17 (show ¬ ((1 : Int32) = (0 : Int32)) by decide)
  · skip
    exact absurd c_6 (show ¬ ((1 : Int32) = (0 : Int32)) by decide)
set_option maxHeartbeats 4000000 in
set_option maxRecDepth 100000 in
theorem c_X8_edit_0 (l : Launch) (g : va_G) (y : Nat → ClassId) (ad : Nat → Nat) (τ : Nat → Nat → Int32) (ρ : Nat → Nat → Int64) {r : Nat} (hE : τ 0 8 = nI r) (hr : r ≤ 2) (k w : Int32) (h : okL w 3) (hF : τ 0 7 = 1) (hk : okL k r) : w_C l g y yX8_edit cX8_edit 3 (some .int) 4 [.ref (ad 0), .int k, .int w] (rw ad y τ ρ) (some (.int (edV τ w (ix k)))) (rw ad y (up τ 0 0 0) ρ) := by
  refine w_ofI (lv0 := [(0, .ref (ad 0)), (1, .int k), (2, .int w)]) (by decide +kernel) (Nat.le_of_ble_eq_true rfl) rfl (rfl) ?_
  intro Z hZ hret
  refine r_aload_n 1 hZ 0 dX8_edit_0 rfl rfl rfl ?_
  refine r_iload_n 2 hZ 2 dX8_edit_1 rfl rfl rfl ?_
  refine r_iconst (v := 3) 3 hZ dX8_edit_2 rfl (by decide) ?_
  refine r_callSI (c_X8_isIn l g y ad τ ρ w (m := 3) (by decide)) wM_X8_isIn wL_X8_79 hZ rfl ⟨by decide, by decide⟩ rfl rfl dX8_edit_3 ?_
  refine w_eqI (bI_t h) ?_
  refine r_if_ne 13 9 hZ dX8_edit_6 (by decide) rfl (fun c_6 => ?_) (fun c_6 => ?_)
  · skip
    refine r_aload_n 14 hZ 0 dX8_edit_13 rfl rfl rfl ?_
    refine g_X8_98 17 hZ dX8_edit_14 rfl ?_
    refine w_eqI (hF) ?_
    refine r_if_ne 24 20 hZ dX8_edit_17 (by decide) rfl (fun c_17 => ?_) (fun c_17 => ?_)
    · skip
      refine r_iload_n 25 hZ 1 dX8_edit_24 rfl rfl rfl ?_
      refine r_aload_n 26 hZ 0 dX8_edit_25 rfl rfl rfl ?_
      refine g_X8_157 29 hZ dX8_edit_26 rfl ?_
      refine w_eqI (hE) ?_
      refine r_callSI (c_X8_isIn l g y ad τ ρ k (m := r) (by omega)) wM_X8_isIn wL_X8_79 hZ rfl ⟨by decide, by decide⟩ rfl rfl dX8_edit_29 ?_
      refine w_eqI (bI_t hk) ?_
      refine r_if_eq 39 35 hZ dX8_edit_32 (by decide) rfl (fun c_32 => ?_) (fun c_32 => ?_)
      · skip
        exact absurd c_32 (show ¬ ((1 : Int32) = (0 : Int32)) by decide)
      · skip
        refine r_iconst (v := 0) 36 hZ dX8_edit_35 rfl (by decide) ?_
        refine r_goto 40 hZ dX8_edit_36 (by decide) ?_
        refine p_X8_72 43 hZ dX8_edit_40 rfl ?_
        refine r_aload_n 44 hZ 0 dX8_edit_43 rfl rfl rfl ?_
        refine g_X8_72 47 hZ dX8_edit_44 rfl ?_
        refine r_if_le 54 50 hZ dX8_edit_47 (by decide) rfl (fun c_47 => ?_) (fun c_47 => ?_)
        · skip
          refine r_iload_n 55 hZ 2 dX8_edit_54 rfl rfl rfl ?_
          refine r_if_ne 67 58 hZ dX8_edit_55 (by decide) rfl (fun c_55 => ?_) (fun c_55 => ?_)
          · skip
            refine r_iload_n 68 hZ 2 dX8_edit_67 rfl rfl rfl ?_
            refine r_iconst (v := 1) 69 hZ dX8_edit_68 rfl (by decide) ?_
            refine r_icmp_ne 81 72 hZ dX8_edit_69 (by decide) rfl (fun c_69 => ?_) (fun c_69 => ?_)
            · skip
              refine r_aload_n 82 hZ 0 dX8_edit_81 rfl rfl rfl ?_
              refine g_X8_51 85 hZ dX8_edit_82 rfl ?_
              refine r_iload_n 86 hZ 1 dX8_edit_85 rfl rfl rfl ?_
              refine a_r10 87 hZ (okL_in (okL_mono hk hr) (by decide)) dX8_edit_86 rfl ?_
              exact hret _ _ _ _ dX8_edit_87 (by unfold edV; first | rw [if_pos c_55]; rfl | rw [if_neg c_55, if_pos c_69]; rfl | rw [if_neg c_55, if_neg c_69]; rfl) rfl
            · skip
              refine r_aload_n 73 hZ 0 dX8_edit_72 rfl rfl rfl ?_
              refine g_X8_48 76 hZ dX8_edit_73 rfl ?_
              refine r_iload_n 77 hZ 1 dX8_edit_76 rfl rfl rfl ?_
              refine a_r9 78 hZ (okL_in (okL_mono hk hr) (by decide)) dX8_edit_77 rfl ?_
              refine r_goto 87 hZ dX8_edit_78 (by decide) ?_
              exact hret _ _ _ _ dX8_edit_87 (by unfold edV; first | rw [if_pos c_55]; rfl | rw [if_neg c_55, if_pos c_69]; rfl | rw [if_neg c_55, if_neg c_69]; rfl) rfl
          · skip
            refine r_aload_n 59 hZ 0 dX8_edit_58 rfl rfl rfl ?_
            refine g_X8_45 62 hZ dX8_edit_59 rfl ?_
            refine r_iload_n 63 hZ 1 dX8_edit_62 rfl rfl rfl ?_
            refine a_r8 64 hZ (okL_in (okL_mono hk hr) (by decide)) dX8_edit_63 rfl ?_
            refine r_goto 87 hZ dX8_edit_64 (by decide) ?_
            exact hret _ _ _ _ dX8_edit_87 (by unfold edV; first | rw [if_pos c_55]; rfl | rw [if_neg c_55, if_pos c_69]; rfl | rw [if_neg c_55, if_neg c_69]; rfl) rfl
        · skip
          exact absurd c_47 (show ¬ ¬ ((0 : Int32) ≤ (0 : Int32)) by decide)
    · skip
      exact absurd c_17 (show ¬ ((1 : Int32) = (0 : Int32)) by decide)
  · skip
    exact absurd c_6 (show ¬ ((1 : Int32) = (0 : Int32)) by decide)
set_option maxHeartbeats 4000000 in
set_option maxRecDepth 100000 in
theorem c_X8_used_1 (l : Launch) (g : va_G) (y : Nat → ClassId) (ad : Nat → Nat) (τ : Nat → Nat → Int32) (ρ : Nat → Nat → Int64) (k : Int32) (hF : τ 0 7 = 0) : w_C l g y yX8_used cX8_used 2 (some .int) 4 [.ref (ad 0), .int k] (rw ad y τ ρ) (some (.int 0)) (rw ad y (up τ 0 0 1) ρ) := by
  refine w_ofI (lv0 := [(0, .ref (ad 0)), (1, .int k)]) (by decide +kernel) (Nat.le_of_ble_eq_true rfl) rfl (rfl) ?_
  intro Z hZ hret
  refine r_aload_n 1 hZ 0 dX8_used_0 rfl rfl rfl ?_
  refine r_aload_n 2 hZ 0 dX8_used_1 rfl rfl rfl ?_
  refine g_X8_98 5 hZ dX8_used_2 rfl ?_
  refine w_eqI (hF) ?_
  refine r_if_ne 12 8 hZ dX8_used_5 (by decide) rfl (fun c_5 => ?_) (fun c_5 => ?_)
  · skip
    exact absurd c_5 (show ¬ (¬ (0 : Int32) = (0 : Int32)) by decide)
  · skip
    refine r_iconst (v := 1) 9 hZ dX8_used_8 rfl (by decide) ?_
    refine r_goto 28 hZ dX8_used_9 (by decide) ?_
    refine p_X8_72 31 hZ dX8_used_28 rfl ?_
    refine r_aload_n 32 hZ 0 dX8_used_31 rfl rfl rfl ?_
    refine g_X8_72 35 hZ dX8_used_32 rfl ?_
    refine r_if_le 42 38 hZ dX8_used_35 (by decide) rfl (fun c_35 => ?_) (fun c_35 => ?_)
    · skip
      exact absurd c_35 (show ¬ ((1 : Int32) ≤ (0 : Int32)) by decide)
    · skip
      refine r_iconst (v := 0) 39 hZ dX8_used_38 rfl (by decide) ?_
      refine r_goto 59 hZ dX8_used_39 (by decide) ?_
      exact hret _ _ _ _ dX8_used_59 rfl rfl
set_option maxHeartbeats 4000000 in
set_option maxRecDepth 100000 in
theorem c_X8_used_2 (l : Launch) (g : va_G) (y : Nat → ClassId) (ad : Nat → Nat) (τ : Nat → Nat → Int32) (ρ : Nat → Nat → Int64) {r : Nat} (hE : τ 0 8 = nI r) (hr : r ≤ 2) (k : Int32) (hF : τ 0 7 = 1) (hk : ¬ okL k r) : w_C l g y yX8_used cX8_used 2 (some .int) 4 [.ref (ad 0), .int k] (rw ad y τ ρ) (some (.int 0)) (rw ad y (up τ 0 0 2) ρ) := by
  refine w_ofI (lv0 := [(0, .ref (ad 0)), (1, .int k)]) (by decide +kernel) (Nat.le_of_ble_eq_true rfl) rfl (rfl) ?_
  intro Z hZ hret
  refine r_aload_n 1 hZ 0 dX8_used_0 rfl rfl rfl ?_
  refine r_aload_n 2 hZ 0 dX8_used_1 rfl rfl rfl ?_
  refine g_X8_98 5 hZ dX8_used_2 rfl ?_
  refine w_eqI (hF) ?_
  refine r_if_ne 12 8 hZ dX8_used_5 (by decide) rfl (fun c_5 => ?_) (fun c_5 => ?_)
  · skip
    refine r_iload_n 13 hZ 1 dX8_used_12 rfl rfl rfl ?_
    refine r_aload_n 14 hZ 0 dX8_used_13 rfl rfl rfl ?_
    refine g_X8_157 17 hZ dX8_used_14 rfl ?_
    refine w_eqI (hE) ?_
    refine r_callSI (c_X8_isIn l g y ad τ ρ k (m := r) (by omega)) wM_X8_isIn wL_X8_79 hZ rfl ⟨by decide, by decide⟩ rfl rfl dX8_used_17 ?_
    refine w_eqI (bI_f hk) ?_
    refine r_if_eq 27 23 hZ dX8_used_20 (by decide) rfl (fun c_20 => ?_) (fun c_20 => ?_)
    · skip
      refine r_iconst (v := 2) 28 hZ dX8_used_27 rfl (by decide) ?_
      refine p_X8_72 31 hZ dX8_used_28 rfl ?_
      refine r_aload_n 32 hZ 0 dX8_used_31 rfl rfl rfl ?_
      refine g_X8_72 35 hZ dX8_used_32 rfl ?_
      refine r_if_le 42 38 hZ dX8_used_35 (by decide) rfl (fun c_35 => ?_) (fun c_35 => ?_)
      · skip
        exact absurd c_35 (show ¬ ((2 : Int32) ≤ (0 : Int32)) by decide)
      · skip
        refine r_iconst (v := 0) 39 hZ dX8_used_38 rfl (by decide) ?_
        refine r_goto 59 hZ dX8_used_39 (by decide) ?_
        exact hret _ _ _ _ dX8_used_59 rfl rfl
    · skip
      exact absurd c_20 (show ¬ ¬ ((0 : Int32) = (0 : Int32)) by decide)
  · skip
    exact absurd c_5 (show ¬ ((1 : Int32) = (0 : Int32)) by decide)
set_option maxHeartbeats 4000000 in
set_option maxRecDepth 100000 in
theorem c_X8_used_0 (l : Launch) (g : va_G) (y : Nat → ClassId) (ad : Nat → Nat) (τ : Nat → Nat → Int32) (ρ : Nat → Nat → Int64) {r : Nat} (hE : τ 0 8 = nI r) (hr : r ≤ 2) (k : Int32) (hF : τ 0 7 = 1) (hk : okL k r) : w_C l g y yX8_used cX8_used 2 (some .int) 4 [.ref (ad 0), .int k] (rw ad y τ ρ) (some (.int (usV τ (ix k)))) (rw ad y (up τ 0 0 0) ρ) := by
  refine w_ofI (lv0 := [(0, .ref (ad 0)), (1, .int k)]) (by decide +kernel) (Nat.le_of_ble_eq_true rfl) rfl (rfl) ?_
  intro Z hZ hret
  refine r_aload_n 1 hZ 0 dX8_used_0 rfl rfl rfl ?_
  refine r_aload_n 2 hZ 0 dX8_used_1 rfl rfl rfl ?_
  refine g_X8_98 5 hZ dX8_used_2 rfl ?_
  refine w_eqI (hF) ?_
  refine r_if_ne 12 8 hZ dX8_used_5 (by decide) rfl (fun c_5 => ?_) (fun c_5 => ?_)
  · skip
    refine r_iload_n 13 hZ 1 dX8_used_12 rfl rfl rfl ?_
    refine r_aload_n 14 hZ 0 dX8_used_13 rfl rfl rfl ?_
    refine g_X8_157 17 hZ dX8_used_14 rfl ?_
    refine w_eqI (hE) ?_
    refine r_callSI (c_X8_isIn l g y ad τ ρ k (m := r) (by omega)) wM_X8_isIn wL_X8_79 hZ rfl ⟨by decide, by decide⟩ rfl rfl dX8_used_17 ?_
    refine w_eqI (bI_t hk) ?_
    refine r_if_eq 27 23 hZ dX8_used_20 (by decide) rfl (fun c_20 => ?_) (fun c_20 => ?_)
    · skip
      exact absurd c_20 (show ¬ ((1 : Int32) = (0 : Int32)) by decide)
    · skip
      refine r_iconst (v := 0) 24 hZ dX8_used_23 rfl (by decide) ?_
      refine r_goto 28 hZ dX8_used_24 (by decide) ?_
      refine p_X8_72 31 hZ dX8_used_28 rfl ?_
      refine r_aload_n 32 hZ 0 dX8_used_31 rfl rfl rfl ?_
      refine g_X8_72 35 hZ dX8_used_32 rfl ?_
      refine r_if_le 42 38 hZ dX8_used_35 (by decide) rfl (fun c_35 => ?_) (fun c_35 => ?_)
      · skip
        refine r_aload_n 43 hZ 0 dX8_used_42 rfl rfl rfl ?_
        refine g_X8_167 46 hZ dX8_used_43 rfl ?_
        refine r_if_eq 58 49 hZ dX8_used_46 (by decide) rfl (fun c_46 => ?_) (fun c_46 => ?_)
        · skip
          refine r_iconst (v := (-1)) 59 hZ dX8_used_58 rfl (by decide) ?_
          exact hret _ _ _ _ dX8_used_59 (by unfold usV; first | rw [if_pos (show τ 0 9 = 0 from c_46)] | rw [if_neg (show ¬ τ 0 9 = 0 from c_46)]; rfl) rfl
        · skip
          refine r_aload_n 50 hZ 0 dX8_used_49 rfl rfl rfl ?_
          refine g_X8_54 53 hZ dX8_used_50 rfl ?_
          refine r_iload_n 54 hZ 1 dX8_used_53 rfl rfl rfl ?_
          refine a_r11 55 hZ (okL_in (okL_mono hk hr) (by decide)) dX8_used_54 rfl ?_
          refine r_goto 59 hZ dX8_used_55 (by decide) ?_
          exact hret _ _ _ _ dX8_used_59 (by unfold usV; first | rw [if_pos (show τ 0 9 = 0 from c_46)] | rw [if_neg (show ¬ τ 0 9 = 0 from c_46)]; rfl) rfl
      · skip
        exact absurd c_35 (show ¬ ¬ ((0 : Int32) ≤ (0 : Int32)) by decide)
  · skip
    exact absurd c_5 (show ¬ ((1 : Int32) = (0 : Int32)) by decide)
set_option maxHeartbeats 4000000 in
set_option maxRecDepth 100000 in
theorem c_X8_length_1 (l : Launch) (g : va_G) (y : Nat → ClassId) (ad : Nat → Nat) (τ : Nat → Nat → Int32) (ρ : Nat → Nat → Int64) (hF : τ 0 7 = 0) : w_C l g y yX8_length cX8_length 1 (some .int) 0 [.ref (ad 0)] (rw ad y τ ρ) (some (.int 0)) (rw ad y (up τ 0 0 1) ρ) := by
  refine w_ofI (lv0 := [(0, .ref (ad 0))]) (by decide +kernel) (Nat.le_of_ble_eq_true rfl) rfl (rfl) ?_
  intro Z hZ hret
  refine r_aload_n 1 hZ 0 dX8_length_0 rfl rfl rfl ?_
  refine r_aload_n 2 hZ 0 dX8_length_1 rfl rfl rfl ?_
  refine g_X8_98 5 hZ dX8_length_2 rfl ?_
  refine w_eqI (hF) ?_
  refine r_if_eq 12 8 hZ dX8_length_5 (by decide) rfl (fun c_5 => ?_) (fun c_5 => ?_)
  · skip
    refine r_iconst (v := 1) 13 hZ dX8_length_12 rfl (by decide) ?_
    refine p_X8_72 16 hZ dX8_length_13 rfl ?_
    refine r_aload_n 17 hZ 0 dX8_length_16 rfl rfl rfl ?_
    refine g_X8_72 20 hZ dX8_length_17 rfl ?_
    refine r_if_le 27 23 hZ dX8_length_20 (by decide) rfl (fun c_20 => ?_) (fun c_20 => ?_)
    · skip
      exact absurd c_20 (show ¬ ((1 : Int32) ≤ (0 : Int32)) by decide)
    · skip
      refine r_iconst (v := 0) 24 hZ dX8_length_23 rfl (by decide) ?_
      refine r_goto 43 hZ dX8_length_24 (by decide) ?_
      exact hret _ _ _ _ dX8_length_43 rfl rfl
  · skip
    exact absurd c_5 (show ¬ ¬ ((0 : Int32) = (0 : Int32)) by decide)
set_option maxHeartbeats 4000000 in
set_option maxRecDepth 100000 in
theorem c_X8_length_0 (l : Launch) (g : va_G) (y : Nat → ClassId) (ad : Nat → Nat) (τ : Nat → Nat → Int32) (ρ : Nat → Nat → Int64) (hF : τ 0 7 = 1) : w_C l g y yX8_length cX8_length 1 (some .int) 0 [.ref (ad 0)] (rw ad y τ ρ) (some (.int (lnV τ ρ))) (rw ad y (up τ 0 0 0) ρ) := by
  refine w_ofI (lv0 := [(0, .ref (ad 0))]) (by decide +kernel) (Nat.le_of_ble_eq_true rfl) rfl (rfl) ?_
  intro Z hZ hret
  refine r_aload_n 1 hZ 0 dX8_length_0 rfl rfl rfl ?_
  refine r_aload_n 2 hZ 0 dX8_length_1 rfl rfl rfl ?_
  refine g_X8_98 5 hZ dX8_length_2 rfl ?_
  refine w_eqI (hF) ?_
  refine r_if_eq 12 8 hZ dX8_length_5 (by decide) rfl (fun c_5 => ?_) (fun c_5 => ?_)
  · skip
    exact absurd c_5 (show ¬ ((1 : Int32) = (0 : Int32)) by decide)
  · skip
    refine r_iconst (v := 0) 9 hZ dX8_length_8 rfl (by decide) ?_
    refine r_goto 13 hZ dX8_length_9 (by decide) ?_
    refine p_X8_72 16 hZ dX8_length_13 rfl ?_
    refine r_aload_n 17 hZ 0 dX8_length_16 rfl rfl rfl ?_
    refine g_X8_72 20 hZ dX8_length_17 rfl ?_
    refine r_if_le 27 23 hZ dX8_length_20 (by decide) rfl (fun c_20 => ?_) (fun c_20 => ?_)
    · skip
      refine r_aload_n 28 hZ 0 dX8_length_27 rfl rfl rfl ?_
      refine g_X8_167 31 hZ dX8_length_28 rfl ?_
      refine r_if_eq 42 34 hZ dX8_length_31 (by decide) rfl (fun c_31 => ?_) (fun c_31 => ?_)
      · skip
        refine r_iconst (v := (-1)) 43 hZ dX8_length_42 rfl (by decide) ?_
        exact hret _ _ _ _ dX8_length_43 (by unfold lnV; first | rw [if_pos (show τ 0 9 = 0 from c_31)] | rw [if_neg (show ¬ τ 0 9 = 0 from c_31)]) rfl
      · skip
        refine r_aload_n 35 hZ 0 dX8_length_34 rfl rfl rfl ?_
        refine g_X8_170 38 hZ dX8_length_35 rfl ?_
        refine r_l2i 39 hZ dX8_length_38 rfl ?_
        refine r_goto 43 hZ dX8_length_39 (by decide) ?_
        exact hret _ _ _ _ dX8_length_43 (by unfold lnV; first | rw [if_pos (show τ 0 9 = 0 from c_31)] | rw [if_neg (show ¬ τ 0 9 = 0 from c_31)]) rfl
    · skip
      exact absurd c_20 (show ¬ ¬ ((0 : Int32) ≤ (0 : Int32)) by decide)
set_option maxHeartbeats 4000000 in
set_option maxRecDepth 100000 in
theorem c_X8_make_1 (l : Launch) (g : va_G) (y : Nat → ClassId) (ad : Nat → Nat) (τ : Nat → Nat → Int32) (ρ : Nat → Nat → Int64) {M : Nat} (hM : τ 0 10 = nI M) (hM20 : M ≤ 20) (h : τ 0 7 = 0 ∨ M = 20) : w_C l g y yX8_make cX8_make 3 (some .int) 4 [.ref (ad 0)] (rw ad y τ ρ) (some (.int 0)) (rw ad y (up τ 0 0 1) ρ) := by
  refine w_ofI (lv0 := [(0, .ref (ad 0))]) (by decide +kernel) (Nat.le_of_ble_eq_true rfl) rfl (rfl) ?_
  intro Z hZ hret
  refine r_aload_n 1 hZ 0 dX8_make_0 rfl rfl rfl ?_
  refine r_aload_n 2 hZ 0 dX8_make_1 rfl rfl rfl ?_
  refine g_X8_98 5 hZ dX8_make_2 rfl ?_
  refine r_if_eq 17 8 hZ dX8_make_5 (by decide) rfl (fun c_5 => ?_) (fun c_5 => ?_)
  · skip
    refine r_iconst (v := 1) 18 hZ dX8_make_17 rfl (by decide) ?_
    refine r_goto 22 hZ dX8_make_18 (by decide) ?_
    refine p_X8_72 25 hZ dX8_make_22 rfl ?_
    refine r_aload_n 26 hZ 0 dX8_make_25 rfl rfl rfl ?_
    refine g_X8_72 29 hZ dX8_make_26 rfl ?_
    refine r_if_le 34 32 hZ dX8_make_29 (by decide) rfl (fun c_29 => ?_) (fun c_29 => ?_)
    · skip
      exact absurd c_29 (show ¬ ((1 : Int32) ≤ (0 : Int32)) by decide)
    · skip
      refine r_iconst (v := 0) 33 hZ dX8_make_32 rfl (by decide) ?_
      exact hret _ _ _ _ dX8_make_33 rfl rfl
  · skip
    refine r_aload_n 9 hZ 0 dX8_make_8 rfl rfl rfl ?_
    refine g_X8_178 12 hZ dX8_make_9 rfl ?_
    refine w_eqI (hM) ?_
    refine r_bipush (v := 20) 14 hZ dX8_make_12 rfl (by decide) ?_
    refine r_icmp_ne 21 17 hZ dX8_make_14 (by decide) rfl (fun c_14 => ?_) (fun c_14 => ?_)
    · skip
      exact absurd (show nI M = 20 from congrArg nI (h.resolve_left c_5)) c_14
    · skip
      refine r_iconst (v := 1) 18 hZ dX8_make_17 rfl (by decide) ?_
      refine r_goto 22 hZ dX8_make_18 (by decide) ?_
      refine p_X8_72 25 hZ dX8_make_22 rfl ?_
      refine r_aload_n 26 hZ 0 dX8_make_25 rfl rfl rfl ?_
      refine g_X8_72 29 hZ dX8_make_26 rfl ?_
      refine r_if_le 34 32 hZ dX8_make_29 (by decide) rfl (fun c_29 => ?_) (fun c_29 => ?_)
      · skip
        exact absurd c_29 (show ¬ ((1 : Int32) ≤ (0 : Int32)) by decide)
      · skip
        refine r_iconst (v := 0) 33 hZ dX8_make_32 rfl (by decide) ?_
        exact hret _ _ _ _ dX8_make_33 rfl rfl
set_option maxHeartbeats 4000000 in
set_option maxRecDepth 100000 in
theorem c_X8_make_0 (l : Launch) (g : va_G) (y : Nat → ClassId) (ad : Nat → Nat) (τ : Nat → Nat → Int32) (ρ : Nat → Nat → Int64) {N G M r : Nat} (hs : Rs τ N G) (hF : τ 0 7 = 1) (hM : τ 0 10 = nI M) (hM20 : M < 20) (hE : τ 0 8 = nI r) (hr : r ≤ 2) (hk : ∀ k, k < r → okL (τ 8 k) 40 ∧ okL (τ 9 k) 80 ∧ okL (τ 10 k) 80) : w_C l g y yX8_make cX8_make 3 (some .int) 3 [.ref (ad 0)] (rw ad y τ ρ) (some (.int (nI r))) (rw ad y (maF τ N M r) ρ) := by
  refine w_ofI (lv0 := [(0, .ref (ad 0))]) (by decide +kernel) (Nat.le_of_ble_eq_true rfl) rfl (rfl) ?_
  intro Z hZ hret
  have hcM := nI_clamp (n := M) (by omega)
  have hsm : Rs (mkF τ M r) N G := hs.mk r (fun k q => (hk k q).2)
  have hsz : Rs (up (up (mkF τ M r) 12 M (nI r)) 0 10 (nI (M + 1))) N G := Rs.c0 (hsm.congr rfl rfl rfl rfl rfl rfl) 10 _ (by decide) (by decide)
  refine r_aload_n 1 hZ 0 dX8_make_0 rfl rfl rfl ?_
  refine r_aload_n 2 hZ 0 dX8_make_1 rfl rfl rfl ?_
  refine g_X8_98 5 hZ dX8_make_2 rfl ?_
  refine w_eqI (hF) ?_
  refine r_if_eq 17 8 hZ dX8_make_5 (by decide) rfl (fun c_5 => ?_) (fun c_5 => ?_)
  · skip
    exact absurd c_5 (show ¬ ((1 : Int32) = (0 : Int32)) by decide)
  · skip
    refine r_aload_n 9 hZ 0 dX8_make_8 rfl rfl rfl ?_
    refine g_X8_178 12 hZ dX8_make_9 rfl ?_
    refine w_eqI (hM) ?_
    refine r_bipush (v := 20) 14 hZ dX8_make_12 rfl (by decide) ?_
    refine r_icmp_ne 21 17 hZ dX8_make_14 (by decide) rfl (fun c_14 => ?_) (fun c_14 => ?_)
    · skip
      refine r_iconst (v := 0) 22 hZ dX8_make_21 rfl (by decide) ?_
      refine p_X8_72 25 hZ dX8_make_22 rfl ?_
      refine r_aload_n 26 hZ 0 dX8_make_25 rfl rfl rfl ?_
      refine g_X8_72 29 hZ dX8_make_26 rfl ?_
      refine r_if_le 34 32 hZ dX8_make_29 (by decide) rfl (fun c_29 => ?_) (fun c_29 => ?_)
      · skip
        refine r_iconst (v := 0) 35 hZ dX8_make_34 rfl (by decide) ?_
        refine r_istnN 36 [(0, _), (1, _)] hZ dX8_make_35 rfl rfl (by decide) rfl rfl ?_
        have lp_36 : ∀ (n : Nat) (i : Nat), i ≤ r → r + 1 ≤ i + n → Z 0 0 (rw ad y (mkF τ M i) ρ) 36 [(0, .ref (ad 0)), (1, .int (nI i))] [] := by
          intro n
          induction n with
          | zero => intro i h1 hn_36; exact absurd hn_36 (by omega)
          | succ n ih_36 =>
            intro i h1 hn_36
            refine r_iload_n 37 hZ 1 dX8_make_36 rfl rfl rfl ?_
            refine r_aload_n 38 hZ 0 dX8_make_37 rfl rfl rfl ?_
            refine g_X8_157 41 hZ dX8_make_38 rfl ?_
            refine w_eqI ((mkF_0 τ M 8 (by decide) i).trans hE) ?_
            refine r_icmp_ge 133 44 hZ dX8_make_41 (by decide) rfl (fun c_41 => ?_) (fun c_41 => ?_)
            · skip
              have hi := nI_leq (by omega) (by omega) c_41
              have hi : i = r := by omega
              subst hi
              refine r_aload_n 134 hZ 0 dX8_make_133 rfl rfl rfl ?_
              refine g_X8_57 137 hZ dX8_make_134 rfl ?_
              refine r_aload_n 138 hZ 0 dX8_make_137 rfl rfl rfl ?_
              refine g_X8_178 141 hZ dX8_make_138 rfl ?_
              refine w_eqI ((mkF_0 τ M 10 (by decide) i).trans hM) ?_
              refine r_aload_n 142 hZ 0 dX8_make_141 rfl rfl rfl ?_
              refine g_X8_157 145 hZ dX8_make_142 rfl ?_
              refine w_eqI ((mkF_0 τ M 8 (by decide) i).trans hE) ?_
              refine s_r12 146 hZ (vp_in_nI (show M < 20 by omega) (by decide)) dX8_make_145 rfl ?_
              rw [hcM]
              refine r_aload_n 147 hZ 0 dX8_make_146 rfl rfl rfl ?_
              refine r_dup 148 hZ dX8_make_147 rfl rfl ?_
              refine g_X8_178 151 hZ dX8_make_148 rfl ?_
              refine w_eqI ((mkF_0 τ M 10 (by decide) i).trans hM) ?_
              refine r_iconst (v := 1) 152 hZ dX8_make_151 rfl (by decide) ?_
              refine r_iadd 153 hZ dX8_make_152 rfl ?_
              rw [nI_1]
              refine p_X8_178 156 hZ dX8_make_153 rfl ?_
              refine r_aload_n 157 hZ 0 dX8_make_156 rfl rfl rfl ?_
              refine r_iconst (v := 0) 158 hZ dX8_make_157 rfl (by decide) ?_
              refine r_callVV (c_X8_workOlds l g y ad _ ρ (b := 0) hsz (Nat.zero_le _)) wM_X8_workOlds wL_X8_142 hZ rfl ⟨by decide, by decide⟩ 0 8 rfl rfl rfl rfl dX8_make_158 ?_
              refine r_aload_n 162 hZ 0 dX8_make_161 rfl rfl rfl ?_
              refine r_iconst (v := 0) 163 hZ dX8_make_162 rfl (by decide) ?_
              refine p_X8_98 166 hZ (by first | exact Or.inl rfl | exact Or.inr rfl | exact bI_01 _) dX8_make_163 rfl ?_
              refine r_aload_n 167 hZ 0 dX8_make_166 rfl rfl rfl ?_
              refine g_X8_157 170 hZ dX8_make_167 rfl ?_
              refine w_eqI ((congrFun (woF_k (up (up (mkF τ M i) 12 M (nI i)) 0 10 (nI (M + 1))) 0 0 (by decide) N) 8).trans ((mkF_0 τ M 8 (by decide) i).trans hE)) ?_
              exact hret _ _ _ _ dX8_make_170 rfl rfl
            · skip
              have hi := nI_nleq (by omega) (by omega) c_41
              have hci := nI_clamp (n := i) (by omega)
              have hcm := nI_clamp (n := 2 * M + i) (by omega)
              obtain ⟨k8, k9, k10⟩ := hk i hi
              have e8 := congrFun (mkF_k τ M 8 (by decide) (by decide) (by decide) (by decide) (by decide) (by decide) i) i
              have e9 := congrFun (mkF_k τ M 9 (by decide) (by decide) (by decide) (by decide) (by decide) (by decide) i) i
              have e10 := congrFun (mkF_k τ M 10 (by decide) (by decide) (by decide) (by decide) (by decide) (by decide) i) i
              refine r_aload_n 45 hZ 0 dX8_make_44 rfl rfl rfl ?_
              refine g_X8_45 48 hZ dX8_make_45 rfl ?_
              refine r_iload_n 49 hZ 1 dX8_make_48 rfl rfl rfl ?_
              refine a_r8 50 hZ (vp_in_nI (show i < 2 by omega) (by decide)) dX8_make_49 rfl ?_
              rw [hci, e8]
              refine r_istnN 51 [(0, _), (1, _), (2, _)] hZ dX8_make_50 rfl rfl (by decide) rfl rfl ?_
              refine r_aload_n 52 hZ 0 dX8_make_51 rfl rfl rfl ?_
              refine g_X8_60 55 hZ dX8_make_52 rfl ?_
              refine r_iconst (v := 2) 56 hZ dX8_make_55 rfl (by decide) ?_
              refine r_aload_n 57 hZ 0 dX8_make_56 rfl rfl rfl ?_
              refine g_X8_178 60 hZ dX8_make_57 rfl ?_
              refine w_eqI ((mkF_0 τ M 10 (by decide) i).trans hM) ?_
              refine r_imul 61 hZ dX8_make_60 rfl ?_
              refine r_iload_n 62 hZ 1 dX8_make_61 rfl rfl rfl ?_
              refine r_iadd 63 hZ dX8_make_62 rfl ?_
              rw [m2]
              refine r_iload_n 64 hZ 2 dX8_make_63 rfl rfl rfl ?_
              refine s_r13 65 hZ (vp_in_nI (show 2 * M + i < 40 by omega) (by decide)) dX8_make_64 rfl ?_
              rw [hcm]
              refine r_aload_n 66 hZ 0 dX8_make_65 rfl rfl rfl ?_
              refine g_X8_63 69 hZ dX8_make_66 rfl ?_
              refine r_iconst (v := 2) 70 hZ dX8_make_69 rfl (by decide) ?_
              refine r_aload_n 71 hZ 0 dX8_make_70 rfl rfl rfl ?_
              refine g_X8_178 74 hZ dX8_make_71 rfl ?_
              refine w_eqI ((mkF_0 τ M 10 (by decide) i).trans hM) ?_
              refine r_imul 75 hZ dX8_make_74 rfl ?_
              refine r_iload_n 76 hZ 1 dX8_make_75 rfl rfl rfl ?_
              refine r_iadd 77 hZ dX8_make_76 rfl ?_
              rw [m2]
              refine r_aload_n 78 hZ 0 dX8_make_77 rfl rfl rfl ?_
              refine g_X8_13 81 hZ dX8_make_78 rfl ?_
              refine r_iload_n 82 hZ 2 dX8_make_81 rfl rfl rfl ?_
              refine a_r2 83 hZ (okL_in k8 (by decide)) dX8_make_82 rfl ?_
              refine s_r14 84 hZ (vp_in_nI (show 2 * M + i < 40 by omega) (by decide)) dX8_make_83 rfl ?_
              refine r_aload_n 85 hZ 0 dX8_make_84 rfl rfl rfl ?_
              refine g_X8_66 88 hZ dX8_make_85 rfl ?_
              refine r_iconst (v := 2) 89 hZ dX8_make_88 rfl (by decide) ?_
              refine r_aload_n 90 hZ 0 dX8_make_89 rfl rfl rfl ?_
              refine g_X8_178 93 hZ dX8_make_90 rfl ?_
              refine w_eqI ((mkF_0 τ M 10 (by decide) i).trans hM) ?_
              refine r_imul 94 hZ dX8_make_93 rfl ?_
              refine r_iload_n 95 hZ 1 dX8_make_94 rfl rfl rfl ?_
              refine r_iadd 96 hZ dX8_make_95 rfl ?_
              rw [m2]
              refine r_aload_n 97 hZ 0 dX8_make_96 rfl rfl rfl ?_
              refine g_X8_16 100 hZ dX8_make_97 rfl ?_
              refine r_iload_n 101 hZ 2 dX8_make_100 rfl rfl rfl ?_
              refine a_r3 102 hZ (okL_in k8 (by decide)) dX8_make_101 rfl ?_
              refine s_r15 103 hZ (vp_in_nI (show 2 * M + i < 40 by omega) (by decide)) dX8_make_102 rfl ?_
              refine r_aload_n 104 hZ 0 dX8_make_103 rfl rfl rfl ?_
              refine g_X8_13 107 hZ dX8_make_104 rfl ?_
              refine r_iload_n 108 hZ 2 dX8_make_107 rfl rfl rfl ?_
              refine r_aload_n 109 hZ 0 dX8_make_108 rfl rfl rfl ?_
              refine g_X8_48 112 hZ dX8_make_109 rfl ?_
              refine r_iload_n 113 hZ 1 dX8_make_112 rfl rfl rfl ?_
              refine a_r9 114 hZ (vp_in_nI (show i < 2 by omega) (by decide)) dX8_make_113 rfl ?_
              rw [hci]
              refine w_eqI (e9) ?_
              refine s_r2 115 hZ (okL_in k8 (by decide)) dX8_make_114 rfl ?_
              refine r_aload_n 116 hZ 0 dX8_make_115 rfl rfl rfl ?_
              refine g_X8_16 119 hZ dX8_make_116 rfl ?_
              refine r_iload_n 120 hZ 2 dX8_make_119 rfl rfl rfl ?_
              refine r_aload_n 121 hZ 0 dX8_make_120 rfl rfl rfl ?_
              refine g_X8_51 124 hZ dX8_make_121 rfl ?_
              refine r_iload_n 125 hZ 1 dX8_make_124 rfl rfl rfl ?_
              refine a_r10 126 hZ (vp_in_nI (show i < 2 by omega) (by decide)) dX8_make_125 rfl ?_
              rw [hci]
              refine w_eqI (e10) ?_
              refine s_r3 127 hZ (okL_in k8 (by decide)) dX8_make_126 rfl ?_
              refine r_iinc 130 1 1 [(0, _), (1, _), (2, _)] hZ dX8_make_127 rfl rfl (by decide) (by decide) rfl rfl ?_
              refine r_goto 36 hZ dX8_make_130 (by decide) ?_
              rw [nI_1]
              have hW : mkF τ M (i + 1) = up (up (up (up (up (mkF τ M i) 13 (2 * M + i) (τ 8 i)) 14 (2 * M + i) (mkF τ M i 2 (ix (τ 8 i)))) 15 (2 * M + i) (mkF τ M i 3 (ix (τ 8 i)))) 2 (ix (τ 8 i)) (τ 9 i)) 3 (ix (τ 8 i)) (τ 10 i) := rfl
              have := ih_36 (i + 1) (by omega) (by omega)
              rw [hW] at this
              rw [hcm]
              exact w_take 2 hZ this
        exact lp_36 (r + 1) 0 (by omega) (by omega)
      · skip
        exact absurd c_29 (show ¬ ¬ ((0 : Int32) ≤ (0 : Int32)) by decide)
    · skip
      exact absurd (nI_eqq (b := 20) (by omega) (by decide) c_14) (by omega)
set_option maxHeartbeats 4000000 in
set_option maxRecDepth 100000 in
theorem c_X8_undo_0 (l : Launch) (g : va_G) (y : Nat → ClassId) (ad : Nat → Nat) (τ : Nat → Nat → Int32) (ρ : Nat → Nat → Int64) (hM : τ 0 10 = 0) : w_C l g y yX8_undo cX8_undo 3 (some .boolean) 4 [.ref (ad 0)] (rw ad y τ ρ) (some (.int (bI False))) (rw ad y (up τ 0 0 0) ρ) := by
  refine w_ofI (lv0 := [(0, .ref (ad 0))]) (by decide +kernel) (Nat.le_of_ble_eq_true rfl) rfl (bI_nar _) ?_
  intro Z hZ hret
  refine r_aload_n 1 hZ 0 dX8_undo_0 rfl rfl rfl ?_
  refine r_iconst (v := 0) 2 hZ dX8_undo_1 rfl (by decide) ?_
  refine p_X8_72 5 hZ dX8_undo_2 rfl ?_
  refine r_aload_n 6 hZ 0 dX8_undo_5 rfl rfl rfl ?_
  refine g_X8_178 9 hZ dX8_undo_6 rfl ?_
  refine w_eqI (hM) ?_
  refine r_if_ne 14 12 hZ dX8_undo_9 (by decide) rfl (fun c_9 => ?_) (fun c_9 => ?_)
  · skip
    exact absurd c_9 (show ¬ (¬ (0 : Int32) = (0 : Int32)) by decide)
  · skip
    refine r_iconst (v := 0) 13 hZ dX8_undo_12 rfl (by decide) ?_
    exact hret _ _ _ _ dX8_undo_13 (bI_f (by decide)).symm rfl
set_option maxHeartbeats 4000000 in
set_option maxRecDepth 100000 in
theorem c_X8_undo_1 (l : Launch) (g : va_G) (y : Nat → ClassId) (ad : Nat → Nat) (τ : Nat → Nat → Int32) (ρ : Nat → Nat → Int64) {N G M r : Nat} (hs : Rs τ N G) (hM : τ 0 10 = nI (M + 1)) (hM20 : M < 20) (hE : τ 12 M = nI r) (hr : r ≤ 2) (hk : ∀ k, k < r → okL (τ 13 (2 * M + k)) 40 ∧ okL (τ 14 (2 * M + k)) 80 ∧ okL (τ 15 (2 * M + k)) 80) : w_C l g y yX8_undo cX8_undo 3 (some .boolean) 3 [.ref (ad 0)] (rw ad y τ ρ) (some (.int (bI True))) (rw ad y (udF τ N M r) ρ) := by
  refine w_ofI (lv0 := [(0, .ref (ad 0))]) (by decide +kernel) (Nat.le_of_ble_eq_true rfl) rfl (bI_nar _) ?_
  intro Z hZ hret
  have hcM := nI_clamp (n := M) (by omega)
  have hsz : Rs (unF τ M r) N G := hs.un r (fun k q => (hk k q).2)
  refine r_aload_n 1 hZ 0 dX8_undo_0 rfl rfl rfl ?_
  refine r_iconst (v := 0) 2 hZ dX8_undo_1 rfl (by decide) ?_
  refine p_X8_72 5 hZ dX8_undo_2 rfl ?_
  refine r_aload_n 6 hZ 0 dX8_undo_5 rfl rfl rfl ?_
  refine g_X8_178 9 hZ dX8_undo_6 rfl ?_
  refine w_eqI (hM) ?_
  refine r_if_ne 14 12 hZ dX8_undo_9 (by decide) rfl (fun c_9 => ?_) (fun c_9 => ?_)
  · skip
    refine r_aload_n 15 hZ 0 dX8_undo_14 rfl rfl rfl ?_
    refine r_dup 16 hZ dX8_undo_15 rfl rfl ?_
    refine g_X8_178 19 hZ dX8_undo_16 rfl ?_
    refine w_eqI (hM) ?_
    refine r_iconst (v := 1) 20 hZ dX8_undo_19 rfl (by decide) ?_
    refine r_isub 21 hZ dX8_undo_20 rfl ?_
    rw [show nI (M + 1) - 1 = nI M from nI_pred M]
    refine p_X8_178 24 hZ dX8_undo_21 rfl ?_
    refine r_iconst (v := 0) 25 hZ dX8_undo_24 rfl (by decide) ?_
    refine r_istnN 26 [(0, _), (1, _)] hZ dX8_undo_25 rfl rfl (by decide) rfl rfl ?_
    have lp_26 : ∀ (n : Nat) (i : Nat), i ≤ r → r + 1 ≤ i + n → Z 0 0 (rw ad y (unF τ M i) ρ) 26 [(0, .ref (ad 0)), (1, .int (nI i))] [] := by
      intro n
      induction n with
      | zero => intro i h1 hn_26; exact absurd hn_26 (by omega)
      | succ n ih_26 =>
        intro i h1 hn_26
        refine r_iload_n 27 hZ 1 dX8_undo_26 rfl rfl rfl ?_
        refine r_aload_n 28 hZ 0 dX8_undo_27 rfl rfl rfl ?_
        refine g_X8_57 31 hZ dX8_undo_28 rfl ?_
        refine r_aload_n 32 hZ 0 dX8_undo_31 rfl rfl rfl ?_
        refine g_X8_178 35 hZ dX8_undo_32 rfl ?_
        refine w_eqI ((unF_0 τ M 10 i).trans (show _ = nI M from rfl)) ?_
        refine a_r12 36 hZ (vp_in_nI (show M < 20 by omega) (by decide)) dX8_undo_35 rfl ?_
        rw [hcM, unF_k τ M 12 (by decide) (by decide) (by decide) i, hE]
        refine r_icmp_ge 97 39 hZ dX8_undo_36 (by decide) rfl (fun c_36 => ?_) (fun c_36 => ?_)
        · skip
          have hi := nI_leq (by omega) (by omega) c_36
          have hi : i = r := by omega
          subst hi
          refine r_aload_n 98 hZ 0 dX8_undo_97 rfl rfl rfl ?_
          refine r_iconst (v := 0) 99 hZ dX8_undo_98 rfl (by decide) ?_
          refine r_callVV (c_X8_workOlds l g y ad _ ρ (b := 0) hsz (Nat.zero_le _)) wM_X8_workOlds wL_X8_142 hZ rfl ⟨by decide, by decide⟩ 0 8 rfl rfl rfl rfl dX8_undo_99 ?_
          refine r_aload_n 103 hZ 0 dX8_undo_102 rfl rfl rfl ?_
          refine r_iconst (v := 0) 104 hZ dX8_undo_103 rfl (by decide) ?_
          refine p_X8_98 107 hZ (by first | exact Or.inl rfl | exact Or.inr rfl | exact bI_01 _) dX8_undo_104 rfl ?_
          refine r_iconst (v := 1) 108 hZ dX8_undo_107 rfl (by decide) ?_
          exact hret _ _ _ _ dX8_undo_108 (bI_t trivial).symm rfl
        · skip
          have hi := nI_nleq (by omega) (by omega) c_36
          have hci := nI_clamp (n := i) (by omega)
          have hcm := nI_clamp (n := 2 * M + i) (by omega)
          obtain ⟨k8, k9, k10⟩ := hk i hi
          have e13 := congrFun (unF_k τ M 13 (by decide) (by decide) (by decide) i) (2 * M + i)
          have e14 := congrFun (unF_k τ M 14 (by decide) (by decide) (by decide) i) (2 * M + i)
          have e15 := congrFun (unF_k τ M 15 (by decide) (by decide) (by decide) i) (2 * M + i)
          refine r_aload_n 40 hZ 0 dX8_undo_39 rfl rfl rfl ?_
          refine g_X8_60 43 hZ dX8_undo_40 rfl ?_
          refine r_iconst (v := 2) 44 hZ dX8_undo_43 rfl (by decide) ?_
          refine r_aload_n 45 hZ 0 dX8_undo_44 rfl rfl rfl ?_
          refine g_X8_178 48 hZ dX8_undo_45 rfl ?_
          refine w_eqI ((unF_0 τ M 10 i).trans (show _ = nI M from rfl)) ?_
          refine r_imul 49 hZ dX8_undo_48 rfl ?_
          refine r_iload_n 50 hZ 1 dX8_undo_49 rfl rfl rfl ?_
          refine r_iadd 51 hZ dX8_undo_50 rfl ?_
          rw [m2]
          refine a_r13 52 hZ (vp_in_nI (show 2 * M + i < 40 by omega) (by decide)) dX8_undo_51 rfl ?_
          rw [hcm, e13]
          refine r_istnN 53 [(0, _), (1, _), (2, _)] hZ dX8_undo_52 rfl rfl (by decide) rfl rfl ?_
          refine r_aload_n 54 hZ 0 dX8_undo_53 rfl rfl rfl ?_
          refine g_X8_13 57 hZ dX8_undo_54 rfl ?_
          refine r_iload_n 58 hZ 2 dX8_undo_57 rfl rfl rfl ?_
          refine r_aload_n 59 hZ 0 dX8_undo_58 rfl rfl rfl ?_
          refine g_X8_63 62 hZ dX8_undo_59 rfl ?_
          refine r_iconst (v := 2) 63 hZ dX8_undo_62 rfl (by decide) ?_
          refine r_aload_n 64 hZ 0 dX8_undo_63 rfl rfl rfl ?_
          refine g_X8_178 67 hZ dX8_undo_64 rfl ?_
          refine w_eqI ((unF_0 τ M 10 i).trans (show _ = nI M from rfl)) ?_
          refine r_imul 68 hZ dX8_undo_67 rfl ?_
          refine r_iload_n 69 hZ 1 dX8_undo_68 rfl rfl rfl ?_
          refine r_iadd 70 hZ dX8_undo_69 rfl ?_
          rw [m2]
          refine a_r14 71 hZ (vp_in_nI (show 2 * M + i < 40 by omega) (by decide)) dX8_undo_70 rfl ?_
          rw [hcm, e14]
          refine s_r2 72 hZ (okL_in k8 (by decide)) dX8_undo_71 rfl ?_
          refine r_aload_n 73 hZ 0 dX8_undo_72 rfl rfl rfl ?_
          refine g_X8_16 76 hZ dX8_undo_73 rfl ?_
          refine r_iload_n 77 hZ 2 dX8_undo_76 rfl rfl rfl ?_
          refine r_aload_n 78 hZ 0 dX8_undo_77 rfl rfl rfl ?_
          refine g_X8_66 81 hZ dX8_undo_78 rfl ?_
          refine r_iconst (v := 2) 82 hZ dX8_undo_81 rfl (by decide) ?_
          refine r_aload_n 83 hZ 0 dX8_undo_82 rfl rfl rfl ?_
          refine g_X8_178 86 hZ dX8_undo_83 rfl ?_
          refine w_eqI ((unF_0 τ M 10 i).trans (show _ = nI M from rfl)) ?_
          refine r_imul 87 hZ dX8_undo_86 rfl ?_
          refine r_iload_n 88 hZ 1 dX8_undo_87 rfl rfl rfl ?_
          refine r_iadd 89 hZ dX8_undo_88 rfl ?_
          rw [m2]
          refine a_r15 90 hZ (vp_in_nI (show 2 * M + i < 40 by omega) (by decide)) dX8_undo_89 rfl ?_
          rw [hcm]
          refine s_r3 91 hZ (okL_in k8 (by decide)) dX8_undo_90 rfl ?_
          refine r_iinc 94 1 1 [(0, _), (1, _), (2, _)] hZ dX8_undo_91 rfl rfl (by decide) (by decide) rfl rfl ?_
          refine r_goto 26 hZ dX8_undo_94 (by decide) ?_
          rw [nI_1]
          have hW : unF τ M (i + 1) = up (up (unF τ M i) 2 (ix (τ 13 (2 * M + i))) (τ 14 (2 * M + i))) 3 (ix (τ 13 (2 * M + i))) (τ 15 (2 * M + i)) := rfl
          have := ih_26 (i + 1) (by omega) (by omega)
          rw [hW, ← e15] at this
          exact w_take 2 hZ this
    exact lp_26 (r + 1) 0 (by omega) (by omega)
  · skip
    exact absurd (nI_eqq (b := 0) (by omega) (by decide) c_9) (by omega)
set_option maxHeartbeats 4000000 in
set_option maxRecDepth 100000 in
theorem c_X8_literal_1 (l : Launch) (g : va_G) (y : Nat → ClassId) (ad : Nat → Nat) (τ : Nat → Nat → Int32) (ρ : Nat → Nat → Int64) {N : Nat} (hN : τ 0 1 = nI N) (hN2 : N ≤ 38) (x w : Int32) (h : ¬ ((okL x N ∧ τ 1 (ix x) = 2) ∧ okL w 2)) : w_C l g y yX8_literal cX8_literal 3 (some .int) 2 [.ref (ad 0), .int x, .int w] (rw ad y τ ρ) (some (.int 0)) (rw ad y (up τ 0 0 1) ρ) := by
  refine w_ofI (lv0 := [(0, .ref (ad 0)), (1, .int x), (2, .int w)]) (by decide +kernel) (Nat.le_of_ble_eq_true rfl) rfl (rfl) ?_
  intro Z hZ hret
  refine r_aload_n 1 hZ 0 dX8_literal_0 rfl rfl rfl ?_
  refine r_aload_n 2 hZ 0 dX8_literal_1 rfl rfl rfl ?_
  refine r_iload_n 3 hZ 1 dX8_literal_2 rfl rfl rfl ?_
  refine r_callVI (c_X8_isOld l g y ad τ ρ x hN hN2) wM_X8_isOld wL_X8_125 hZ rfl ⟨by decide, by decide⟩ 0 8 rfl rfl rfl rfl dX8_literal_3 ?_
  refine r_if_eq 21 9 hZ dX8_literal_6 (by decide) rfl (fun c_6 => ?_) (fun c_6 => ?_)
  · skip
    refine r_iconst (v := 1) 22 hZ dX8_literal_21 rfl (by decide) ?_
    refine p_X8_72 25 hZ dX8_literal_22 rfl ?_
    refine r_aload_n 26 hZ 0 dX8_literal_25 rfl rfl rfl ?_
    refine g_X8_72 29 hZ dX8_literal_26 rfl ?_
    refine r_if_le 36 32 hZ dX8_literal_29 (by decide) rfl (fun c_29 => ?_) (fun c_29 => ?_)
    · skip
      exact absurd c_29 (show ¬ ((1 : Int32) ≤ (0 : Int32)) by decide)
    · skip
      refine r_iconst (v := 0) 33 hZ dX8_literal_32 rfl (by decide) ?_
      refine r_goto 55 hZ dX8_literal_33 (by decide) ?_
      exact hret _ _ _ _ dX8_literal_55 rfl rfl
  · skip
    refine r_iload_n 10 hZ 2 dX8_literal_9 rfl rfl rfl ?_
    refine r_iconst (v := 2) 11 hZ dX8_literal_10 rfl (by decide) ?_
    refine r_callSI (c_X8_isIn l g y ad τ ρ w (m := 2) (by decide)) wM_X8_isIn wL_X8_79 hZ rfl ⟨by decide, by decide⟩ rfl rfl dX8_literal_11 ?_
    refine r_if_eq 21 17 hZ dX8_literal_14 (by decide) rfl (fun c_14 => ?_) (fun c_14 => ?_)
    · skip
      refine r_iconst (v := 1) 22 hZ dX8_literal_21 rfl (by decide) ?_
      refine p_X8_72 25 hZ dX8_literal_22 rfl ?_
      refine r_aload_n 26 hZ 0 dX8_literal_25 rfl rfl rfl ?_
      refine g_X8_72 29 hZ dX8_literal_26 rfl ?_
      refine r_if_le 36 32 hZ dX8_literal_29 (by decide) rfl (fun c_29 => ?_) (fun c_29 => ?_)
      · skip
        exact absurd c_29 (show ¬ ((1 : Int32) ≤ (0 : Int32)) by decide)
      · skip
        refine r_iconst (v := 0) 33 hZ dX8_literal_32 rfl (by decide) ?_
        refine r_goto 55 hZ dX8_literal_33 (by decide) ?_
        exact hret _ _ _ _ dX8_literal_55 rfl rfl
    · skip
      exact (h ⟨bI_n0.mp c_6, bI_n0.mp c_14⟩).elim
set_option maxHeartbeats 4000000 in
set_option maxRecDepth 100000 in
theorem c_X8_literal_0 (l : Launch) (g : va_G) (y : Nat → ClassId) (ad : Nat → Nat) (τ : Nat → Nat → Int32) (ρ : Nat → Nat → Int64) {N : Nat} (hN : τ 0 1 = nI N) (hN2 : N ≤ 38) (x w : Int32) (h : okL x N ∧ τ 1 (ix x) = 2) (hw : okL w 2) : w_C l g y yX8_literal cX8_literal 3 (some .int) 2 [.ref (ad 0), .int x, .int w] (rw ad y τ ρ) (some (.int (liV τ w (ix x)))) (rw ad y (up τ 0 0 0) ρ) := by
  refine w_ofI (lv0 := [(0, .ref (ad 0)), (1, .int x), (2, .int w)]) (by decide +kernel) (Nat.le_of_ble_eq_true rfl) rfl (rfl) ?_
  intro Z hZ hret
  refine r_aload_n 1 hZ 0 dX8_literal_0 rfl rfl rfl ?_
  refine r_aload_n 2 hZ 0 dX8_literal_1 rfl rfl rfl ?_
  refine r_iload_n 3 hZ 1 dX8_literal_2 rfl rfl rfl ?_
  refine r_callVI (c_X8_isOld l g y ad τ ρ x hN hN2) wM_X8_isOld wL_X8_125 hZ rfl ⟨by decide, by decide⟩ 0 8 rfl rfl rfl rfl dX8_literal_3 ?_
  refine w_eqI (bI_t h) ?_
  refine r_if_eq 21 9 hZ dX8_literal_6 (by decide) rfl (fun c_6 => ?_) (fun c_6 => ?_)
  · skip
    exact absurd c_6 (show ¬ ((1 : Int32) = (0 : Int32)) by decide)
  · skip
    refine r_iload_n 10 hZ 2 dX8_literal_9 rfl rfl rfl ?_
    refine r_iconst (v := 2) 11 hZ dX8_literal_10 rfl (by decide) ?_
    refine r_callSI (c_X8_isIn l g y ad τ ρ w (m := 2) (by decide)) wM_X8_isIn wL_X8_79 hZ rfl ⟨by decide, by decide⟩ rfl rfl dX8_literal_11 ?_
    refine w_eqI (bI_t hw) ?_
    refine r_if_eq 21 17 hZ dX8_literal_14 (by decide) rfl (fun c_14 => ?_) (fun c_14 => ?_)
    · skip
      exact absurd c_14 (show ¬ ((1 : Int32) = (0 : Int32)) by decide)
    · skip
      refine r_iconst (v := 0) 18 hZ dX8_literal_17 rfl (by decide) ?_
      refine r_goto 22 hZ dX8_literal_18 (by decide) ?_
      refine p_X8_72 25 hZ dX8_literal_22 rfl ?_
      refine r_aload_n 26 hZ 0 dX8_literal_25 rfl rfl rfl ?_
      refine g_X8_72 29 hZ dX8_literal_26 rfl ?_
      refine r_if_le 36 32 hZ dX8_literal_29 (by decide) rfl (fun c_29 => ?_) (fun c_29 => ?_)
      · skip
        refine r_iload_n 37 hZ 2 dX8_literal_36 rfl rfl rfl ?_
        refine r_if_ne 49 40 hZ dX8_literal_37 (by decide) rfl (fun c_37 => ?_) (fun c_37 => ?_)
        · skip
          refine r_aload_n 50 hZ 0 dX8_literal_49 rfl rfl rfl ?_
          refine g_X8_16 53 hZ dX8_literal_50 rfl ?_
          refine r_iload_n 54 hZ 1 dX8_literal_53 rfl rfl rfl ?_
          refine a_r3 55 hZ (okL_in (okL_mono h.1 (show N ≤ 40 by omega)) (by decide)) dX8_literal_54 rfl ?_
          exact hret _ _ _ _ dX8_literal_55 (by unfold liV; first | rw [if_pos c_37]; rfl | rw [if_neg c_37]; rfl) rfl
        · skip
          refine r_aload_n 41 hZ 0 dX8_literal_40 rfl rfl rfl ?_
          refine g_X8_13 44 hZ dX8_literal_41 rfl ?_
          refine r_iload_n 45 hZ 1 dX8_literal_44 rfl rfl rfl ?_
          refine a_r2 46 hZ (okL_in (okL_mono h.1 (show N ≤ 40 by omega)) (by decide)) dX8_literal_45 rfl ?_
          refine r_goto 55 hZ dX8_literal_46 (by decide) ?_
          exact hret _ _ _ _ dX8_literal_55 (by unfold liV; first | rw [if_pos c_37]; rfl | rw [if_neg c_37]; rfl) rfl
      · skip
        exact absurd c_29 (show ¬ ¬ ((0 : Int32) ≤ (0 : Int32)) by decide)
set_option maxHeartbeats 4000000 in
set_option maxRecDepth 100000 in
theorem c_X8_count_e (l : Launch) (g : va_G) (y : Nat → ClassId) (ad : Nat → Nat) (τ : Nat → Nat → Int32) (ρ : Nat → Nat → Int64) {N : Nat} (hN : τ 0 1 = nI N) (hN2 : N ≤ 38) (x : Int32) (h : ¬ okL x 8) : w_C l g y yX8_count cX8_count 4 (some .int) 1 [.ref (ad 0), .int x] (rw ad y τ ρ) (some (.int 0)) (rw ad y (up τ 0 0 1) ρ) := by
  refine w_ofI (lv0 := [(0, .ref (ad 0)), (1, .int x)]) (by decide +kernel) (Nat.le_of_ble_eq_true rfl) rfl (rfl) ?_
  intro Z hZ hret
  refine r_aload_n 1 hZ 0 dX8_count_0 rfl rfl rfl ?_
  refine r_iload_n 2 hZ 1 dX8_count_1 rfl rfl rfl ?_
  refine r_bipush (v := 8) 4 hZ dX8_count_2 rfl (by decide) ?_
  refine r_callSI (c_X8_isIn l g y ad τ ρ x (m := 8) (by decide)) wM_X8_isIn wL_X8_79 hZ rfl ⟨by decide, by decide⟩ rfl rfl dX8_count_4 ?_
  refine w_eqI (bI_f h) ?_
  refine r_if_eq 14 10 hZ dX8_count_7 (by decide) rfl (fun c_7 => ?_) (fun c_7 => ?_)
  · skip
    refine r_iconst (v := 1) 15 hZ dX8_count_14 rfl (by decide) ?_
    refine p_X8_72 18 hZ dX8_count_15 rfl ?_
    refine r_iconst (v := 0) 19 hZ dX8_count_18 rfl (by decide) ?_
    refine r_istnN 20 [(0, _), (1, _), (2, _)] hZ dX8_count_19 rfl rfl (by decide) rfl rfl ?_
    refine r_iconst (v := 0) 21 hZ dX8_count_20 rfl (by decide) ?_
    refine r_istnN 22 [(0, _), (1, _), (2, _), (3, _)] hZ dX8_count_21 rfl rfl (by decide) rfl rfl ?_
    have lp_22 : ∀ (n : Nat) (i : Nat), i ≤ N → N + 1 ≤ i + n → Z 0 0 (rw ad y (up τ 0 0 1) ρ) 22 [(0, .ref (ad 0)), (1, .int x), (2, .int (nI (cnt (fun n => τ 1 n = 2 ∧ ¬ τ 5 n = 0) i))), (3, .int (nI i))] [] := by
      intro n
      induction n with
      | zero => intro i h1 hn_22; exact absurd hn_22 (by omega)
      | succ n ih_22 =>
        intro i h1 hn_22
        refine r_iload_n 23 hZ 3 dX8_count_22 rfl rfl rfl ?_
        refine r_aload_n 24 hZ 0 dX8_count_23 rfl rfl rfl ?_
        refine g_X8_76 27 hZ dX8_count_24 rfl ?_
        refine w_eqI (hN) ?_
        refine r_icmp_ge 63 30 hZ dX8_count_27 (by decide) rfl (fun c_27 => ?_) (fun c_27 => ?_)
        · skip
          have hi := nI_leq (by omega) (by omega) c_27
          have hi : i = N := by omega
          subst hi
          refine r_iload_n 64 hZ 1 dX8_count_63 rfl rfl rfl ?_
          refine r_tsOut 149 hZ dX8_count_64 (by have := okL_out h; omega) (by decide) ?_
          refine r_iconst (v := 0) 150 hZ dX8_count_149 rfl (by decide) ?_
          exact hret _ _ _ _ dX8_count_150 rfl rfl
        · skip
          have hi := nI_nleq (by omega) (by omega) c_27
          have hci := nI_clamp (n := i) (by omega)
          refine r_aload_n 31 hZ 0 dX8_count_30 rfl rfl rfl ?_
          refine g_X8_7 34 hZ dX8_count_31 rfl ?_
          refine r_iload_n 35 hZ 3 dX8_count_34 rfl rfl rfl ?_
          refine a_r1 36 hZ (vp_in_nI (show i < 40 by omega) (by decide)) dX8_count_35 rfl ?_
          rw [hci]
          refine r_iconst (v := 2) 37 hZ dX8_count_36 rfl (by decide) ?_
          refine r_icmp_ne 55 40 hZ dX8_count_37 (by decide) rfl (fun c_37 => ?_) (fun c_37 => ?_)
          · skip
            have hk := cnt_f (P := (fun n => τ 1 n = 2 ∧ ¬ τ 5 n = 0)) (i := i) (fun q => c_37 q.1)
            rw [← hk]
            refine r_iload_n 56 hZ 2 dX8_count_55 rfl rfl rfl ?_
            refine r_istn 57 2 [(0, _), (1, _), (2, _), (3, _)] hZ dX8_count_56 rfl rfl (by decide) rfl rfl ?_
            refine r_iinc 60 3 1 [(0, _), (1, _), (2, _), (3, _)] hZ dX8_count_57 rfl rfl (by decide) (by decide) rfl rfl ?_
            refine r_goto 22 hZ dX8_count_60 (by decide) ?_
            rw [nI_1]
            first | exact ih_22 (i + 1) (by omega) (by omega) | skip
          · skip
            refine r_aload_n 41 hZ 0 dX8_count_40 rfl rfl rfl ?_
            refine g_X8_22 44 hZ dX8_count_41 rfl ?_
            refine r_iload_n 45 hZ 3 dX8_count_44 rfl rfl rfl ?_
            refine a_r5 46 hZ (vp_in_nI (show i < 40 by omega) (by decide)) dX8_count_45 rfl ?_
            rw [hci]
            refine r_if_eq 55 49 hZ dX8_count_46 (by decide) rfl (fun c_46 => ?_) (fun c_46 => ?_)
            · skip
              have hk := cnt_f (P := (fun n => τ 1 n = 2 ∧ ¬ τ 5 n = 0)) (i := i) (fun q => q.2 c_46)
              rw [← hk]
              refine r_iload_n 56 hZ 2 dX8_count_55 rfl rfl rfl ?_
              refine r_istn 57 2 [(0, _), (1, _), (2, _), (3, _)] hZ dX8_count_56 rfl rfl (by decide) rfl rfl ?_
              refine r_iinc 60 3 1 [(0, _), (1, _), (2, _), (3, _)] hZ dX8_count_57 rfl rfl (by decide) (by decide) rfl rfl ?_
              refine r_goto 22 hZ dX8_count_60 (by decide) ?_
              rw [nI_1]
              first | exact ih_22 (i + 1) (by omega) (by omega) | skip
            · skip
              have hk := cnt_t (P := (fun n => τ 1 n = 2 ∧ ¬ τ 5 n = 0)) (i := i) ⟨c_37, c_46⟩
              refine r_iload_n 50 hZ 2 dX8_count_49 rfl rfl rfl ?_
              refine r_iconst (v := 1) 51 hZ dX8_count_50 rfl (by decide) ?_
              refine r_iadd 52 hZ dX8_count_51 rfl ?_
              rw [nI_1, ← hk]
              refine r_goto 56 hZ dX8_count_52 (by decide) ?_
              refine r_istn 57 2 [(0, _), (1, _), (2, _), (3, _)] hZ dX8_count_56 rfl rfl (by decide) rfl rfl ?_
              refine r_iinc 60 3 1 [(0, _), (1, _), (2, _), (3, _)] hZ dX8_count_57 rfl rfl (by decide) (by decide) rfl rfl ?_
              refine r_goto 22 hZ dX8_count_60 (by decide) ?_
              rw [nI_1]
              first | exact ih_22 (i + 1) (by omega) (by omega) | skip
    exact lp_22 (N + 1) 0 (by omega) (by omega)
  · skip
    exact absurd c_7 (show ¬ ¬ ((0 : Int32) = (0 : Int32)) by decide)
set_option maxHeartbeats 4000000 in
set_option maxRecDepth 100000 in
theorem c_X8_count_0 (l : Launch) (g : va_G) (y : Nat → ClassId) (ad : Nat → Nat) (τ : Nat → Nat → Int32) (ρ : Nat → Nat → Int64) {N : Nat} (hN : τ 0 1 = nI N) (hN2 : N ≤ 38) : w_C l g y yX8_count cX8_count 4 (some .int) 1 [.ref (ad 0), .int 0] (rw ad y τ ρ) (some (.int (τ 0 1))) (rw ad y (up τ 0 0 0) ρ) := by
  refine w_ofI (lv0 := [(0, .ref (ad 0)), (1, .int 0)]) (by decide +kernel) (Nat.le_of_ble_eq_true rfl) rfl (rfl) ?_
  intro Z hZ hret
  refine r_aload_n 1 hZ 0 dX8_count_0 rfl rfl rfl ?_
  refine r_iload_n 2 hZ 1 dX8_count_1 rfl rfl rfl ?_
  refine r_bipush (v := 8) 4 hZ dX8_count_2 rfl (by decide) ?_
  refine r_callSI (c_X8_isIn l g y ad τ ρ 0 (m := 8) (by decide)) wM_X8_isIn wL_X8_79 hZ rfl ⟨by decide, by decide⟩ rfl rfl dX8_count_4 ?_
  refine w_eqI (bI_t (by exact ⟨by decide, by decide⟩)) ?_
  refine r_if_eq 14 10 hZ dX8_count_7 (by decide) rfl (fun c_7 => ?_) (fun c_7 => ?_)
  · skip
    exact absurd c_7 (show ¬ ((1 : Int32) = (0 : Int32)) by decide)
  · skip
    refine r_iconst (v := 0) 11 hZ dX8_count_10 rfl (by decide) ?_
    refine r_goto 15 hZ dX8_count_11 (by decide) ?_
    refine p_X8_72 18 hZ dX8_count_15 rfl ?_
    refine r_iconst (v := 0) 19 hZ dX8_count_18 rfl (by decide) ?_
    refine r_istnN 20 [(0, _), (1, _), (2, _)] hZ dX8_count_19 rfl rfl (by decide) rfl rfl ?_
    refine r_iconst (v := 0) 21 hZ dX8_count_20 rfl (by decide) ?_
    refine r_istnN 22 [(0, _), (1, _), (2, _), (3, _)] hZ dX8_count_21 rfl rfl (by decide) rfl rfl ?_
    have lp_22 : ∀ (n : Nat) (i : Nat), i ≤ N → N + 1 ≤ i + n → Z 0 0 (rw ad y (up τ 0 0 0) ρ) 22 [(0, .ref (ad 0)), (1, .int 0), (2, .int (nI (cnt (fun n => τ 1 n = 2 ∧ ¬ τ 5 n = 0) i))), (3, .int (nI i))] [] := by
      intro n
      induction n with
      | zero => intro i h1 hn_22; exact absurd hn_22 (by omega)
      | succ n ih_22 =>
        intro i h1 hn_22
        refine r_iload_n 23 hZ 3 dX8_count_22 rfl rfl rfl ?_
        refine r_aload_n 24 hZ 0 dX8_count_23 rfl rfl rfl ?_
        refine g_X8_76 27 hZ dX8_count_24 rfl ?_
        refine w_eqI (hN) ?_
        refine r_icmp_ge 63 30 hZ dX8_count_27 (by decide) rfl (fun c_27 => ?_) (fun c_27 => ?_)
        · skip
          have hi := nI_leq (by omega) (by omega) c_27
          have hi : i = N := by omega
          subst hi
          refine r_iload_n 64 hZ 1 dX8_count_63 rfl rfl rfl ?_
          refine r_tsIn 112 hZ dX8_count_64 (by decide) (by decide) (by rfl) (by decide) ?_
          refine r_aload_n 113 hZ 0 dX8_count_112 rfl rfl rfl ?_
          refine g_X8_76 116 hZ dX8_count_113 rfl ?_
          exact hret _ _ _ _ dX8_count_116 rfl rfl
        · skip
          have hi := nI_nleq (by omega) (by omega) c_27
          have hci := nI_clamp (n := i) (by omega)
          refine r_aload_n 31 hZ 0 dX8_count_30 rfl rfl rfl ?_
          refine g_X8_7 34 hZ dX8_count_31 rfl ?_
          refine r_iload_n 35 hZ 3 dX8_count_34 rfl rfl rfl ?_
          refine a_r1 36 hZ (vp_in_nI (show i < 40 by omega) (by decide)) dX8_count_35 rfl ?_
          rw [hci]
          refine r_iconst (v := 2) 37 hZ dX8_count_36 rfl (by decide) ?_
          refine r_icmp_ne 55 40 hZ dX8_count_37 (by decide) rfl (fun c_37 => ?_) (fun c_37 => ?_)
          · skip
            have hk := cnt_f (P := (fun n => τ 1 n = 2 ∧ ¬ τ 5 n = 0)) (i := i) (fun q => c_37 q.1)
            rw [← hk]
            refine r_iload_n 56 hZ 2 dX8_count_55 rfl rfl rfl ?_
            refine r_istn 57 2 [(0, _), (1, _), (2, _), (3, _)] hZ dX8_count_56 rfl rfl (by decide) rfl rfl ?_
            refine r_iinc 60 3 1 [(0, _), (1, _), (2, _), (3, _)] hZ dX8_count_57 rfl rfl (by decide) (by decide) rfl rfl ?_
            refine r_goto 22 hZ dX8_count_60 (by decide) ?_
            rw [nI_1]
            first | exact ih_22 (i + 1) (by omega) (by omega) | skip
          · skip
            refine r_aload_n 41 hZ 0 dX8_count_40 rfl rfl rfl ?_
            refine g_X8_22 44 hZ dX8_count_41 rfl ?_
            refine r_iload_n 45 hZ 3 dX8_count_44 rfl rfl rfl ?_
            refine a_r5 46 hZ (vp_in_nI (show i < 40 by omega) (by decide)) dX8_count_45 rfl ?_
            rw [hci]
            refine r_if_eq 55 49 hZ dX8_count_46 (by decide) rfl (fun c_46 => ?_) (fun c_46 => ?_)
            · skip
              have hk := cnt_f (P := (fun n => τ 1 n = 2 ∧ ¬ τ 5 n = 0)) (i := i) (fun q => q.2 c_46)
              rw [← hk]
              refine r_iload_n 56 hZ 2 dX8_count_55 rfl rfl rfl ?_
              refine r_istn 57 2 [(0, _), (1, _), (2, _), (3, _)] hZ dX8_count_56 rfl rfl (by decide) rfl rfl ?_
              refine r_iinc 60 3 1 [(0, _), (1, _), (2, _), (3, _)] hZ dX8_count_57 rfl rfl (by decide) (by decide) rfl rfl ?_
              refine r_goto 22 hZ dX8_count_60 (by decide) ?_
              rw [nI_1]
              first | exact ih_22 (i + 1) (by omega) (by omega) | skip
            · skip
              have hk := cnt_t (P := (fun n => τ 1 n = 2 ∧ ¬ τ 5 n = 0)) (i := i) ⟨c_37, c_46⟩
              refine r_iload_n 50 hZ 2 dX8_count_49 rfl rfl rfl ?_
              refine r_iconst (v := 1) 51 hZ dX8_count_50 rfl (by decide) ?_
              refine r_iadd 52 hZ dX8_count_51 rfl ?_
              rw [nI_1, ← hk]
              refine r_goto 56 hZ dX8_count_52 (by decide) ?_
              refine r_istn 57 2 [(0, _), (1, _), (2, _), (3, _)] hZ dX8_count_56 rfl rfl (by decide) rfl rfl ?_
              refine r_iinc 60 3 1 [(0, _), (1, _), (2, _), (3, _)] hZ dX8_count_57 rfl rfl (by decide) (by decide) rfl rfl ?_
              refine r_goto 22 hZ dX8_count_60 (by decide) ?_
              rw [nI_1]
              first | exact ih_22 (i + 1) (by omega) (by omega) | skip
    exact lp_22 (N + 1) 0 (by omega) (by omega)
set_option maxHeartbeats 4000000 in
set_option maxRecDepth 100000 in
theorem c_X8_count_1 (l : Launch) (g : va_G) (y : Nat → ClassId) (ad : Nat → Nat) (τ : Nat → Nat → Int32) (ρ : Nat → Nat → Int64) {N : Nat} (hN : τ 0 1 = nI N) (hN2 : N ≤ 38) : w_C l g y yX8_count cX8_count 4 (some .int) 1 [.ref (ad 0), .int 1] (rw ad y τ ρ) (some (.int (τ 0 2))) (rw ad y (up τ 0 0 0) ρ) := by
  refine w_ofI (lv0 := [(0, .ref (ad 0)), (1, .int 1)]) (by decide +kernel) (Nat.le_of_ble_eq_true rfl) rfl (rfl) ?_
  intro Z hZ hret
  refine r_aload_n 1 hZ 0 dX8_count_0 rfl rfl rfl ?_
  refine r_iload_n 2 hZ 1 dX8_count_1 rfl rfl rfl ?_
  refine r_bipush (v := 8) 4 hZ dX8_count_2 rfl (by decide) ?_
  refine r_callSI (c_X8_isIn l g y ad τ ρ 1 (m := 8) (by decide)) wM_X8_isIn wL_X8_79 hZ rfl ⟨by decide, by decide⟩ rfl rfl dX8_count_4 ?_
  refine w_eqI (bI_t (by exact ⟨by decide, by decide⟩)) ?_
  refine r_if_eq 14 10 hZ dX8_count_7 (by decide) rfl (fun c_7 => ?_) (fun c_7 => ?_)
  · skip
    exact absurd c_7 (show ¬ ((1 : Int32) = (0 : Int32)) by decide)
  · skip
    refine r_iconst (v := 0) 11 hZ dX8_count_10 rfl (by decide) ?_
    refine r_goto 15 hZ dX8_count_11 (by decide) ?_
    refine p_X8_72 18 hZ dX8_count_15 rfl ?_
    refine r_iconst (v := 0) 19 hZ dX8_count_18 rfl (by decide) ?_
    refine r_istnN 20 [(0, _), (1, _), (2, _)] hZ dX8_count_19 rfl rfl (by decide) rfl rfl ?_
    refine r_iconst (v := 0) 21 hZ dX8_count_20 rfl (by decide) ?_
    refine r_istnN 22 [(0, _), (1, _), (2, _), (3, _)] hZ dX8_count_21 rfl rfl (by decide) rfl rfl ?_
    have lp_22 : ∀ (n : Nat) (i : Nat), i ≤ N → N + 1 ≤ i + n → Z 0 0 (rw ad y (up τ 0 0 0) ρ) 22 [(0, .ref (ad 0)), (1, .int 1), (2, .int (nI (cnt (fun n => τ 1 n = 2 ∧ ¬ τ 5 n = 0) i))), (3, .int (nI i))] [] := by
      intro n
      induction n with
      | zero => intro i h1 hn_22; exact absurd hn_22 (by omega)
      | succ n ih_22 =>
        intro i h1 hn_22
        refine r_iload_n 23 hZ 3 dX8_count_22 rfl rfl rfl ?_
        refine r_aload_n 24 hZ 0 dX8_count_23 rfl rfl rfl ?_
        refine g_X8_76 27 hZ dX8_count_24 rfl ?_
        refine w_eqI (hN) ?_
        refine r_icmp_ge 63 30 hZ dX8_count_27 (by decide) rfl (fun c_27 => ?_) (fun c_27 => ?_)
        · skip
          have hi := nI_leq (by omega) (by omega) c_27
          have hi : i = N := by omega
          subst hi
          refine r_iload_n 64 hZ 1 dX8_count_63 rfl rfl rfl ?_
          refine r_tsIn 117 hZ dX8_count_64 (by decide) (by decide) (by rfl) (by decide) ?_
          refine r_aload_n 118 hZ 0 dX8_count_117 rfl rfl rfl ?_
          refine g_X8_102 121 hZ dX8_count_118 rfl ?_
          exact hret _ _ _ _ dX8_count_121 rfl rfl
        · skip
          have hi := nI_nleq (by omega) (by omega) c_27
          have hci := nI_clamp (n := i) (by omega)
          refine r_aload_n 31 hZ 0 dX8_count_30 rfl rfl rfl ?_
          refine g_X8_7 34 hZ dX8_count_31 rfl ?_
          refine r_iload_n 35 hZ 3 dX8_count_34 rfl rfl rfl ?_
          refine a_r1 36 hZ (vp_in_nI (show i < 40 by omega) (by decide)) dX8_count_35 rfl ?_
          rw [hci]
          refine r_iconst (v := 2) 37 hZ dX8_count_36 rfl (by decide) ?_
          refine r_icmp_ne 55 40 hZ dX8_count_37 (by decide) rfl (fun c_37 => ?_) (fun c_37 => ?_)
          · skip
            have hk := cnt_f (P := (fun n => τ 1 n = 2 ∧ ¬ τ 5 n = 0)) (i := i) (fun q => c_37 q.1)
            rw [← hk]
            refine r_iload_n 56 hZ 2 dX8_count_55 rfl rfl rfl ?_
            refine r_istn 57 2 [(0, _), (1, _), (2, _), (3, _)] hZ dX8_count_56 rfl rfl (by decide) rfl rfl ?_
            refine r_iinc 60 3 1 [(0, _), (1, _), (2, _), (3, _)] hZ dX8_count_57 rfl rfl (by decide) (by decide) rfl rfl ?_
            refine r_goto 22 hZ dX8_count_60 (by decide) ?_
            rw [nI_1]
            first | exact ih_22 (i + 1) (by omega) (by omega) | skip
          · skip
            refine r_aload_n 41 hZ 0 dX8_count_40 rfl rfl rfl ?_
            refine g_X8_22 44 hZ dX8_count_41 rfl ?_
            refine r_iload_n 45 hZ 3 dX8_count_44 rfl rfl rfl ?_
            refine a_r5 46 hZ (vp_in_nI (show i < 40 by omega) (by decide)) dX8_count_45 rfl ?_
            rw [hci]
            refine r_if_eq 55 49 hZ dX8_count_46 (by decide) rfl (fun c_46 => ?_) (fun c_46 => ?_)
            · skip
              have hk := cnt_f (P := (fun n => τ 1 n = 2 ∧ ¬ τ 5 n = 0)) (i := i) (fun q => q.2 c_46)
              rw [← hk]
              refine r_iload_n 56 hZ 2 dX8_count_55 rfl rfl rfl ?_
              refine r_istn 57 2 [(0, _), (1, _), (2, _), (3, _)] hZ dX8_count_56 rfl rfl (by decide) rfl rfl ?_
              refine r_iinc 60 3 1 [(0, _), (1, _), (2, _), (3, _)] hZ dX8_count_57 rfl rfl (by decide) (by decide) rfl rfl ?_
              refine r_goto 22 hZ dX8_count_60 (by decide) ?_
              rw [nI_1]
              first | exact ih_22 (i + 1) (by omega) (by omega) | skip
            · skip
              have hk := cnt_t (P := (fun n => τ 1 n = 2 ∧ ¬ τ 5 n = 0)) (i := i) ⟨c_37, c_46⟩
              refine r_iload_n 50 hZ 2 dX8_count_49 rfl rfl rfl ?_
              refine r_iconst (v := 1) 51 hZ dX8_count_50 rfl (by decide) ?_
              refine r_iadd 52 hZ dX8_count_51 rfl ?_
              rw [nI_1, ← hk]
              refine r_goto 56 hZ dX8_count_52 (by decide) ?_
              refine r_istn 57 2 [(0, _), (1, _), (2, _), (3, _)] hZ dX8_count_56 rfl rfl (by decide) rfl rfl ?_
              refine r_iinc 60 3 1 [(0, _), (1, _), (2, _), (3, _)] hZ dX8_count_57 rfl rfl (by decide) (by decide) rfl rfl ?_
              refine r_goto 22 hZ dX8_count_60 (by decide) ?_
              rw [nI_1]
              first | exact ih_22 (i + 1) (by omega) (by omega) | skip
    exact lp_22 (N + 1) 0 (by omega) (by omega)
set_option maxHeartbeats 4000000 in
set_option maxRecDepth 100000 in
theorem c_X8_count_2 (l : Launch) (g : va_G) (y : Nat → ClassId) (ad : Nat → Nat) (τ : Nat → Nat → Int32) (ρ : Nat → Nat → Int64) {N : Nat} (hN : τ 0 1 = nI N) (hN2 : N ≤ 38) : w_C l g y yX8_count cX8_count 4 (some .int) 1 [.ref (ad 0), .int 2] (rw ad y τ ρ) (some (.int (τ 0 3))) (rw ad y (up τ 0 0 0) ρ) := by
  refine w_ofI (lv0 := [(0, .ref (ad 0)), (1, .int 2)]) (by decide +kernel) (Nat.le_of_ble_eq_true rfl) rfl (rfl) ?_
  intro Z hZ hret
  refine r_aload_n 1 hZ 0 dX8_count_0 rfl rfl rfl ?_
  refine r_iload_n 2 hZ 1 dX8_count_1 rfl rfl rfl ?_
  refine r_bipush (v := 8) 4 hZ dX8_count_2 rfl (by decide) ?_
  refine r_callSI (c_X8_isIn l g y ad τ ρ 2 (m := 8) (by decide)) wM_X8_isIn wL_X8_79 hZ rfl ⟨by decide, by decide⟩ rfl rfl dX8_count_4 ?_
  refine w_eqI (bI_t (by exact ⟨by decide, by decide⟩)) ?_
  refine r_if_eq 14 10 hZ dX8_count_7 (by decide) rfl (fun c_7 => ?_) (fun c_7 => ?_)
  · skip
    exact absurd c_7 (show ¬ ((1 : Int32) = (0 : Int32)) by decide)
  · skip
    refine r_iconst (v := 0) 11 hZ dX8_count_10 rfl (by decide) ?_
    refine r_goto 15 hZ dX8_count_11 (by decide) ?_
    refine p_X8_72 18 hZ dX8_count_15 rfl ?_
    refine r_iconst (v := 0) 19 hZ dX8_count_18 rfl (by decide) ?_
    refine r_istnN 20 [(0, _), (1, _), (2, _)] hZ dX8_count_19 rfl rfl (by decide) rfl rfl ?_
    refine r_iconst (v := 0) 21 hZ dX8_count_20 rfl (by decide) ?_
    refine r_istnN 22 [(0, _), (1, _), (2, _), (3, _)] hZ dX8_count_21 rfl rfl (by decide) rfl rfl ?_
    have lp_22 : ∀ (n : Nat) (i : Nat), i ≤ N → N + 1 ≤ i + n → Z 0 0 (rw ad y (up τ 0 0 0) ρ) 22 [(0, .ref (ad 0)), (1, .int 2), (2, .int (nI (cnt (fun n => τ 1 n = 2 ∧ ¬ τ 5 n = 0) i))), (3, .int (nI i))] [] := by
      intro n
      induction n with
      | zero => intro i h1 hn_22; exact absurd hn_22 (by omega)
      | succ n ih_22 =>
        intro i h1 hn_22
        refine r_iload_n 23 hZ 3 dX8_count_22 rfl rfl rfl ?_
        refine r_aload_n 24 hZ 0 dX8_count_23 rfl rfl rfl ?_
        refine g_X8_76 27 hZ dX8_count_24 rfl ?_
        refine w_eqI (hN) ?_
        refine r_icmp_ge 63 30 hZ dX8_count_27 (by decide) rfl (fun c_27 => ?_) (fun c_27 => ?_)
        · skip
          have hi := nI_leq (by omega) (by omega) c_27
          have hi : i = N := by omega
          subst hi
          refine r_iload_n 64 hZ 1 dX8_count_63 rfl rfl rfl ?_
          refine r_tsIn 122 hZ dX8_count_64 (by decide) (by decide) (by rfl) (by decide) ?_
          refine r_aload_n 123 hZ 0 dX8_count_122 rfl rfl rfl ?_
          refine g_X8_105 126 hZ dX8_count_123 rfl ?_
          exact hret _ _ _ _ dX8_count_126 rfl rfl
        · skip
          have hi := nI_nleq (by omega) (by omega) c_27
          have hci := nI_clamp (n := i) (by omega)
          refine r_aload_n 31 hZ 0 dX8_count_30 rfl rfl rfl ?_
          refine g_X8_7 34 hZ dX8_count_31 rfl ?_
          refine r_iload_n 35 hZ 3 dX8_count_34 rfl rfl rfl ?_
          refine a_r1 36 hZ (vp_in_nI (show i < 40 by omega) (by decide)) dX8_count_35 rfl ?_
          rw [hci]
          refine r_iconst (v := 2) 37 hZ dX8_count_36 rfl (by decide) ?_
          refine r_icmp_ne 55 40 hZ dX8_count_37 (by decide) rfl (fun c_37 => ?_) (fun c_37 => ?_)
          · skip
            have hk := cnt_f (P := (fun n => τ 1 n = 2 ∧ ¬ τ 5 n = 0)) (i := i) (fun q => c_37 q.1)
            rw [← hk]
            refine r_iload_n 56 hZ 2 dX8_count_55 rfl rfl rfl ?_
            refine r_istn 57 2 [(0, _), (1, _), (2, _), (3, _)] hZ dX8_count_56 rfl rfl (by decide) rfl rfl ?_
            refine r_iinc 60 3 1 [(0, _), (1, _), (2, _), (3, _)] hZ dX8_count_57 rfl rfl (by decide) (by decide) rfl rfl ?_
            refine r_goto 22 hZ dX8_count_60 (by decide) ?_
            rw [nI_1]
            first | exact ih_22 (i + 1) (by omega) (by omega) | skip
          · skip
            refine r_aload_n 41 hZ 0 dX8_count_40 rfl rfl rfl ?_
            refine g_X8_22 44 hZ dX8_count_41 rfl ?_
            refine r_iload_n 45 hZ 3 dX8_count_44 rfl rfl rfl ?_
            refine a_r5 46 hZ (vp_in_nI (show i < 40 by omega) (by decide)) dX8_count_45 rfl ?_
            rw [hci]
            refine r_if_eq 55 49 hZ dX8_count_46 (by decide) rfl (fun c_46 => ?_) (fun c_46 => ?_)
            · skip
              have hk := cnt_f (P := (fun n => τ 1 n = 2 ∧ ¬ τ 5 n = 0)) (i := i) (fun q => q.2 c_46)
              rw [← hk]
              refine r_iload_n 56 hZ 2 dX8_count_55 rfl rfl rfl ?_
              refine r_istn 57 2 [(0, _), (1, _), (2, _), (3, _)] hZ dX8_count_56 rfl rfl (by decide) rfl rfl ?_
              refine r_iinc 60 3 1 [(0, _), (1, _), (2, _), (3, _)] hZ dX8_count_57 rfl rfl (by decide) (by decide) rfl rfl ?_
              refine r_goto 22 hZ dX8_count_60 (by decide) ?_
              rw [nI_1]
              first | exact ih_22 (i + 1) (by omega) (by omega) | skip
            · skip
              have hk := cnt_t (P := (fun n => τ 1 n = 2 ∧ ¬ τ 5 n = 0)) (i := i) ⟨c_37, c_46⟩
              refine r_iload_n 50 hZ 2 dX8_count_49 rfl rfl rfl ?_
              refine r_iconst (v := 1) 51 hZ dX8_count_50 rfl (by decide) ?_
              refine r_iadd 52 hZ dX8_count_51 rfl ?_
              rw [nI_1, ← hk]
              refine r_goto 56 hZ dX8_count_52 (by decide) ?_
              refine r_istn 57 2 [(0, _), (1, _), (2, _), (3, _)] hZ dX8_count_56 rfl rfl (by decide) rfl rfl ?_
              refine r_iinc 60 3 1 [(0, _), (1, _), (2, _), (3, _)] hZ dX8_count_57 rfl rfl (by decide) (by decide) rfl rfl ?_
              refine r_goto 22 hZ dX8_count_60 (by decide) ?_
              rw [nI_1]
              first | exact ih_22 (i + 1) (by omega) (by omega) | skip
    exact lp_22 (N + 1) 0 (by omega) (by omega)
set_option maxHeartbeats 4000000 in
set_option maxRecDepth 100000 in
theorem c_X8_count_3 (l : Launch) (g : va_G) (y : Nat → ClassId) (ad : Nat → Nat) (τ : Nat → Nat → Int32) (ρ : Nat → Nat → Int64) {N : Nat} (hN : τ 0 1 = nI N) (hN2 : N ≤ 38) : w_C l g y yX8_count cX8_count 4 (some .int) 1 [.ref (ad 0), .int 3] (rw ad y τ ρ) (some (.int (τ 0 4))) (rw ad y (up τ 0 0 0) ρ) := by
  refine w_ofI (lv0 := [(0, .ref (ad 0)), (1, .int 3)]) (by decide +kernel) (Nat.le_of_ble_eq_true rfl) rfl (rfl) ?_
  intro Z hZ hret
  refine r_aload_n 1 hZ 0 dX8_count_0 rfl rfl rfl ?_
  refine r_iload_n 2 hZ 1 dX8_count_1 rfl rfl rfl ?_
  refine r_bipush (v := 8) 4 hZ dX8_count_2 rfl (by decide) ?_
  refine r_callSI (c_X8_isIn l g y ad τ ρ 3 (m := 8) (by decide)) wM_X8_isIn wL_X8_79 hZ rfl ⟨by decide, by decide⟩ rfl rfl dX8_count_4 ?_
  refine w_eqI (bI_t (by exact ⟨by decide, by decide⟩)) ?_
  refine r_if_eq 14 10 hZ dX8_count_7 (by decide) rfl (fun c_7 => ?_) (fun c_7 => ?_)
  · skip
    exact absurd c_7 (show ¬ ((1 : Int32) = (0 : Int32)) by decide)
  · skip
    refine r_iconst (v := 0) 11 hZ dX8_count_10 rfl (by decide) ?_
    refine r_goto 15 hZ dX8_count_11 (by decide) ?_
    refine p_X8_72 18 hZ dX8_count_15 rfl ?_
    refine r_iconst (v := 0) 19 hZ dX8_count_18 rfl (by decide) ?_
    refine r_istnN 20 [(0, _), (1, _), (2, _)] hZ dX8_count_19 rfl rfl (by decide) rfl rfl ?_
    refine r_iconst (v := 0) 21 hZ dX8_count_20 rfl (by decide) ?_
    refine r_istnN 22 [(0, _), (1, _), (2, _), (3, _)] hZ dX8_count_21 rfl rfl (by decide) rfl rfl ?_
    have lp_22 : ∀ (n : Nat) (i : Nat), i ≤ N → N + 1 ≤ i + n → Z 0 0 (rw ad y (up τ 0 0 0) ρ) 22 [(0, .ref (ad 0)), (1, .int 3), (2, .int (nI (cnt (fun n => τ 1 n = 2 ∧ ¬ τ 5 n = 0) i))), (3, .int (nI i))] [] := by
      intro n
      induction n with
      | zero => intro i h1 hn_22; exact absurd hn_22 (by omega)
      | succ n ih_22 =>
        intro i h1 hn_22
        refine r_iload_n 23 hZ 3 dX8_count_22 rfl rfl rfl ?_
        refine r_aload_n 24 hZ 0 dX8_count_23 rfl rfl rfl ?_
        refine g_X8_76 27 hZ dX8_count_24 rfl ?_
        refine w_eqI (hN) ?_
        refine r_icmp_ge 63 30 hZ dX8_count_27 (by decide) rfl (fun c_27 => ?_) (fun c_27 => ?_)
        · skip
          have hi := nI_leq (by omega) (by omega) c_27
          have hi : i = N := by omega
          subst hi
          refine r_iload_n 64 hZ 1 dX8_count_63 rfl rfl rfl ?_
          refine r_tsIn 127 hZ dX8_count_64 (by decide) (by decide) (by rfl) (by decide) ?_
          refine r_aload_n 128 hZ 0 dX8_count_127 rfl rfl rfl ?_
          refine g_X8_108 131 hZ dX8_count_128 rfl ?_
          exact hret _ _ _ _ dX8_count_131 rfl rfl
        · skip
          have hi := nI_nleq (by omega) (by omega) c_27
          have hci := nI_clamp (n := i) (by omega)
          refine r_aload_n 31 hZ 0 dX8_count_30 rfl rfl rfl ?_
          refine g_X8_7 34 hZ dX8_count_31 rfl ?_
          refine r_iload_n 35 hZ 3 dX8_count_34 rfl rfl rfl ?_
          refine a_r1 36 hZ (vp_in_nI (show i < 40 by omega) (by decide)) dX8_count_35 rfl ?_
          rw [hci]
          refine r_iconst (v := 2) 37 hZ dX8_count_36 rfl (by decide) ?_
          refine r_icmp_ne 55 40 hZ dX8_count_37 (by decide) rfl (fun c_37 => ?_) (fun c_37 => ?_)
          · skip
            have hk := cnt_f (P := (fun n => τ 1 n = 2 ∧ ¬ τ 5 n = 0)) (i := i) (fun q => c_37 q.1)
            rw [← hk]
            refine r_iload_n 56 hZ 2 dX8_count_55 rfl rfl rfl ?_
            refine r_istn 57 2 [(0, _), (1, _), (2, _), (3, _)] hZ dX8_count_56 rfl rfl (by decide) rfl rfl ?_
            refine r_iinc 60 3 1 [(0, _), (1, _), (2, _), (3, _)] hZ dX8_count_57 rfl rfl (by decide) (by decide) rfl rfl ?_
            refine r_goto 22 hZ dX8_count_60 (by decide) ?_
            rw [nI_1]
            first | exact ih_22 (i + 1) (by omega) (by omega) | skip
          · skip
            refine r_aload_n 41 hZ 0 dX8_count_40 rfl rfl rfl ?_
            refine g_X8_22 44 hZ dX8_count_41 rfl ?_
            refine r_iload_n 45 hZ 3 dX8_count_44 rfl rfl rfl ?_
            refine a_r5 46 hZ (vp_in_nI (show i < 40 by omega) (by decide)) dX8_count_45 rfl ?_
            rw [hci]
            refine r_if_eq 55 49 hZ dX8_count_46 (by decide) rfl (fun c_46 => ?_) (fun c_46 => ?_)
            · skip
              have hk := cnt_f (P := (fun n => τ 1 n = 2 ∧ ¬ τ 5 n = 0)) (i := i) (fun q => q.2 c_46)
              rw [← hk]
              refine r_iload_n 56 hZ 2 dX8_count_55 rfl rfl rfl ?_
              refine r_istn 57 2 [(0, _), (1, _), (2, _), (3, _)] hZ dX8_count_56 rfl rfl (by decide) rfl rfl ?_
              refine r_iinc 60 3 1 [(0, _), (1, _), (2, _), (3, _)] hZ dX8_count_57 rfl rfl (by decide) (by decide) rfl rfl ?_
              refine r_goto 22 hZ dX8_count_60 (by decide) ?_
              rw [nI_1]
              first | exact ih_22 (i + 1) (by omega) (by omega) | skip
            · skip
              have hk := cnt_t (P := (fun n => τ 1 n = 2 ∧ ¬ τ 5 n = 0)) (i := i) ⟨c_37, c_46⟩
              refine r_iload_n 50 hZ 2 dX8_count_49 rfl rfl rfl ?_
              refine r_iconst (v := 1) 51 hZ dX8_count_50 rfl (by decide) ?_
              refine r_iadd 52 hZ dX8_count_51 rfl ?_
              rw [nI_1, ← hk]
              refine r_goto 56 hZ dX8_count_52 (by decide) ?_
              refine r_istn 57 2 [(0, _), (1, _), (2, _), (3, _)] hZ dX8_count_56 rfl rfl (by decide) rfl rfl ?_
              refine r_iinc 60 3 1 [(0, _), (1, _), (2, _), (3, _)] hZ dX8_count_57 rfl rfl (by decide) (by decide) rfl rfl ?_
              refine r_goto 22 hZ dX8_count_60 (by decide) ?_
              rw [nI_1]
              first | exact ih_22 (i + 1) (by omega) (by omega) | skip
    exact lp_22 (N + 1) 0 (by omega) (by omega)
set_option maxHeartbeats 4000000 in
set_option maxRecDepth 100000 in
theorem c_X8_count_4 (l : Launch) (g : va_G) (y : Nat → ClassId) (ad : Nat → Nat) (τ : Nat → Nat → Int32) (ρ : Nat → Nat → Int64) {N : Nat} (hN : τ 0 1 = nI N) (hN2 : N ≤ 38) : w_C l g y yX8_count cX8_count 4 (some .int) 1 [.ref (ad 0), .int 4] (rw ad y τ ρ) (some (.int (τ 0 5))) (rw ad y (up τ 0 0 0) ρ) := by
  refine w_ofI (lv0 := [(0, .ref (ad 0)), (1, .int 4)]) (by decide +kernel) (Nat.le_of_ble_eq_true rfl) rfl (rfl) ?_
  intro Z hZ hret
  refine r_aload_n 1 hZ 0 dX8_count_0 rfl rfl rfl ?_
  refine r_iload_n 2 hZ 1 dX8_count_1 rfl rfl rfl ?_
  refine r_bipush (v := 8) 4 hZ dX8_count_2 rfl (by decide) ?_
  refine r_callSI (c_X8_isIn l g y ad τ ρ 4 (m := 8) (by decide)) wM_X8_isIn wL_X8_79 hZ rfl ⟨by decide, by decide⟩ rfl rfl dX8_count_4 ?_
  refine w_eqI (bI_t (by exact ⟨by decide, by decide⟩)) ?_
  refine r_if_eq 14 10 hZ dX8_count_7 (by decide) rfl (fun c_7 => ?_) (fun c_7 => ?_)
  · skip
    exact absurd c_7 (show ¬ ((1 : Int32) = (0 : Int32)) by decide)
  · skip
    refine r_iconst (v := 0) 11 hZ dX8_count_10 rfl (by decide) ?_
    refine r_goto 15 hZ dX8_count_11 (by decide) ?_
    refine p_X8_72 18 hZ dX8_count_15 rfl ?_
    refine r_iconst (v := 0) 19 hZ dX8_count_18 rfl (by decide) ?_
    refine r_istnN 20 [(0, _), (1, _), (2, _)] hZ dX8_count_19 rfl rfl (by decide) rfl rfl ?_
    refine r_iconst (v := 0) 21 hZ dX8_count_20 rfl (by decide) ?_
    refine r_istnN 22 [(0, _), (1, _), (2, _), (3, _)] hZ dX8_count_21 rfl rfl (by decide) rfl rfl ?_
    have lp_22 : ∀ (n : Nat) (i : Nat), i ≤ N → N + 1 ≤ i + n → Z 0 0 (rw ad y (up τ 0 0 0) ρ) 22 [(0, .ref (ad 0)), (1, .int 4), (2, .int (nI (cnt (fun n => τ 1 n = 2 ∧ ¬ τ 5 n = 0) i))), (3, .int (nI i))] [] := by
      intro n
      induction n with
      | zero => intro i h1 hn_22; exact absurd hn_22 (by omega)
      | succ n ih_22 =>
        intro i h1 hn_22
        refine r_iload_n 23 hZ 3 dX8_count_22 rfl rfl rfl ?_
        refine r_aload_n 24 hZ 0 dX8_count_23 rfl rfl rfl ?_
        refine g_X8_76 27 hZ dX8_count_24 rfl ?_
        refine w_eqI (hN) ?_
        refine r_icmp_ge 63 30 hZ dX8_count_27 (by decide) rfl (fun c_27 => ?_) (fun c_27 => ?_)
        · skip
          have hi := nI_leq (by omega) (by omega) c_27
          have hi : i = N := by omega
          subst hi
          refine r_iload_n 64 hZ 1 dX8_count_63 rfl rfl rfl ?_
          refine r_tsIn 132 hZ dX8_count_64 (by decide) (by decide) (by rfl) (by decide) ?_
          refine r_aload_n 133 hZ 0 dX8_count_132 rfl rfl rfl ?_
          refine g_X8_91 136 hZ dX8_count_133 rfl ?_
          exact hret _ _ _ _ dX8_count_136 rfl rfl
        · skip
          have hi := nI_nleq (by omega) (by omega) c_27
          have hci := nI_clamp (n := i) (by omega)
          refine r_aload_n 31 hZ 0 dX8_count_30 rfl rfl rfl ?_
          refine g_X8_7 34 hZ dX8_count_31 rfl ?_
          refine r_iload_n 35 hZ 3 dX8_count_34 rfl rfl rfl ?_
          refine a_r1 36 hZ (vp_in_nI (show i < 40 by omega) (by decide)) dX8_count_35 rfl ?_
          rw [hci]
          refine r_iconst (v := 2) 37 hZ dX8_count_36 rfl (by decide) ?_
          refine r_icmp_ne 55 40 hZ dX8_count_37 (by decide) rfl (fun c_37 => ?_) (fun c_37 => ?_)
          · skip
            have hk := cnt_f (P := (fun n => τ 1 n = 2 ∧ ¬ τ 5 n = 0)) (i := i) (fun q => c_37 q.1)
            rw [← hk]
            refine r_iload_n 56 hZ 2 dX8_count_55 rfl rfl rfl ?_
            refine r_istn 57 2 [(0, _), (1, _), (2, _), (3, _)] hZ dX8_count_56 rfl rfl (by decide) rfl rfl ?_
            refine r_iinc 60 3 1 [(0, _), (1, _), (2, _), (3, _)] hZ dX8_count_57 rfl rfl (by decide) (by decide) rfl rfl ?_
            refine r_goto 22 hZ dX8_count_60 (by decide) ?_
            rw [nI_1]
            first | exact ih_22 (i + 1) (by omega) (by omega) | skip
          · skip
            refine r_aload_n 41 hZ 0 dX8_count_40 rfl rfl rfl ?_
            refine g_X8_22 44 hZ dX8_count_41 rfl ?_
            refine r_iload_n 45 hZ 3 dX8_count_44 rfl rfl rfl ?_
            refine a_r5 46 hZ (vp_in_nI (show i < 40 by omega) (by decide)) dX8_count_45 rfl ?_
            rw [hci]
            refine r_if_eq 55 49 hZ dX8_count_46 (by decide) rfl (fun c_46 => ?_) (fun c_46 => ?_)
            · skip
              have hk := cnt_f (P := (fun n => τ 1 n = 2 ∧ ¬ τ 5 n = 0)) (i := i) (fun q => q.2 c_46)
              rw [← hk]
              refine r_iload_n 56 hZ 2 dX8_count_55 rfl rfl rfl ?_
              refine r_istn 57 2 [(0, _), (1, _), (2, _), (3, _)] hZ dX8_count_56 rfl rfl (by decide) rfl rfl ?_
              refine r_iinc 60 3 1 [(0, _), (1, _), (2, _), (3, _)] hZ dX8_count_57 rfl rfl (by decide) (by decide) rfl rfl ?_
              refine r_goto 22 hZ dX8_count_60 (by decide) ?_
              rw [nI_1]
              first | exact ih_22 (i + 1) (by omega) (by omega) | skip
            · skip
              have hk := cnt_t (P := (fun n => τ 1 n = 2 ∧ ¬ τ 5 n = 0)) (i := i) ⟨c_37, c_46⟩
              refine r_iload_n 50 hZ 2 dX8_count_49 rfl rfl rfl ?_
              refine r_iconst (v := 1) 51 hZ dX8_count_50 rfl (by decide) ?_
              refine r_iadd 52 hZ dX8_count_51 rfl ?_
              rw [nI_1, ← hk]
              refine r_goto 56 hZ dX8_count_52 (by decide) ?_
              refine r_istn 57 2 [(0, _), (1, _), (2, _), (3, _)] hZ dX8_count_56 rfl rfl (by decide) rfl rfl ?_
              refine r_iinc 60 3 1 [(0, _), (1, _), (2, _), (3, _)] hZ dX8_count_57 rfl rfl (by decide) (by decide) rfl rfl ?_
              refine r_goto 22 hZ dX8_count_60 (by decide) ?_
              rw [nI_1]
              first | exact ih_22 (i + 1) (by omega) (by omega) | skip
    exact lp_22 (N + 1) 0 (by omega) (by omega)
set_option maxHeartbeats 4000000 in
set_option maxRecDepth 100000 in
theorem c_X8_count_5 (l : Launch) (g : va_G) (y : Nat → ClassId) (ad : Nat → Nat) (τ : Nat → Nat → Int32) (ρ : Nat → Nat → Int64) {N : Nat} (hN : τ 0 1 = nI N) (hN2 : N ≤ 38) : w_C l g y yX8_count cX8_count 4 (some .int) 1 [.ref (ad 0), .int 5] (rw ad y τ ρ) (some (.int (τ 0 6))) (rw ad y (up τ 0 0 0) ρ) := by
  refine w_ofI (lv0 := [(0, .ref (ad 0)), (1, .int 5)]) (by decide +kernel) (Nat.le_of_ble_eq_true rfl) rfl (rfl) ?_
  intro Z hZ hret
  refine r_aload_n 1 hZ 0 dX8_count_0 rfl rfl rfl ?_
  refine r_iload_n 2 hZ 1 dX8_count_1 rfl rfl rfl ?_
  refine r_bipush (v := 8) 4 hZ dX8_count_2 rfl (by decide) ?_
  refine r_callSI (c_X8_isIn l g y ad τ ρ 5 (m := 8) (by decide)) wM_X8_isIn wL_X8_79 hZ rfl ⟨by decide, by decide⟩ rfl rfl dX8_count_4 ?_
  refine w_eqI (bI_t (by exact ⟨by decide, by decide⟩)) ?_
  refine r_if_eq 14 10 hZ dX8_count_7 (by decide) rfl (fun c_7 => ?_) (fun c_7 => ?_)
  · skip
    exact absurd c_7 (show ¬ ((1 : Int32) = (0 : Int32)) by decide)
  · skip
    refine r_iconst (v := 0) 11 hZ dX8_count_10 rfl (by decide) ?_
    refine r_goto 15 hZ dX8_count_11 (by decide) ?_
    refine p_X8_72 18 hZ dX8_count_15 rfl ?_
    refine r_iconst (v := 0) 19 hZ dX8_count_18 rfl (by decide) ?_
    refine r_istnN 20 [(0, _), (1, _), (2, _)] hZ dX8_count_19 rfl rfl (by decide) rfl rfl ?_
    refine r_iconst (v := 0) 21 hZ dX8_count_20 rfl (by decide) ?_
    refine r_istnN 22 [(0, _), (1, _), (2, _), (3, _)] hZ dX8_count_21 rfl rfl (by decide) rfl rfl ?_
    have lp_22 : ∀ (n : Nat) (i : Nat), i ≤ N → N + 1 ≤ i + n → Z 0 0 (rw ad y (up τ 0 0 0) ρ) 22 [(0, .ref (ad 0)), (1, .int 5), (2, .int (nI (cnt (fun n => τ 1 n = 2 ∧ ¬ τ 5 n = 0) i))), (3, .int (nI i))] [] := by
      intro n
      induction n with
      | zero => intro i h1 hn_22; exact absurd hn_22 (by omega)
      | succ n ih_22 =>
        intro i h1 hn_22
        refine r_iload_n 23 hZ 3 dX8_count_22 rfl rfl rfl ?_
        refine r_aload_n 24 hZ 0 dX8_count_23 rfl rfl rfl ?_
        refine g_X8_76 27 hZ dX8_count_24 rfl ?_
        refine w_eqI (hN) ?_
        refine r_icmp_ge 63 30 hZ dX8_count_27 (by decide) rfl (fun c_27 => ?_) (fun c_27 => ?_)
        · skip
          have hi := nI_leq (by omega) (by omega) c_27
          have hi : i = N := by omega
          subst hi
          refine r_iload_n 64 hZ 1 dX8_count_63 rfl rfl rfl ?_
          refine r_tsIn 137 hZ dX8_count_64 (by decide) (by decide) (by rfl) (by decide) ?_
          refine r_aload_n 138 hZ 0 dX8_count_137 rfl rfl rfl ?_
          refine g_X8_136 141 hZ dX8_count_138 rfl ?_
          exact hret _ _ _ _ dX8_count_141 rfl rfl
        · skip
          have hi := nI_nleq (by omega) (by omega) c_27
          have hci := nI_clamp (n := i) (by omega)
          refine r_aload_n 31 hZ 0 dX8_count_30 rfl rfl rfl ?_
          refine g_X8_7 34 hZ dX8_count_31 rfl ?_
          refine r_iload_n 35 hZ 3 dX8_count_34 rfl rfl rfl ?_
          refine a_r1 36 hZ (vp_in_nI (show i < 40 by omega) (by decide)) dX8_count_35 rfl ?_
          rw [hci]
          refine r_iconst (v := 2) 37 hZ dX8_count_36 rfl (by decide) ?_
          refine r_icmp_ne 55 40 hZ dX8_count_37 (by decide) rfl (fun c_37 => ?_) (fun c_37 => ?_)
          · skip
            have hk := cnt_f (P := (fun n => τ 1 n = 2 ∧ ¬ τ 5 n = 0)) (i := i) (fun q => c_37 q.1)
            rw [← hk]
            refine r_iload_n 56 hZ 2 dX8_count_55 rfl rfl rfl ?_
            refine r_istn 57 2 [(0, _), (1, _), (2, _), (3, _)] hZ dX8_count_56 rfl rfl (by decide) rfl rfl ?_
            refine r_iinc 60 3 1 [(0, _), (1, _), (2, _), (3, _)] hZ dX8_count_57 rfl rfl (by decide) (by decide) rfl rfl ?_
            refine r_goto 22 hZ dX8_count_60 (by decide) ?_
            rw [nI_1]
            first | exact ih_22 (i + 1) (by omega) (by omega) | skip
          · skip
            refine r_aload_n 41 hZ 0 dX8_count_40 rfl rfl rfl ?_
            refine g_X8_22 44 hZ dX8_count_41 rfl ?_
            refine r_iload_n 45 hZ 3 dX8_count_44 rfl rfl rfl ?_
            refine a_r5 46 hZ (vp_in_nI (show i < 40 by omega) (by decide)) dX8_count_45 rfl ?_
            rw [hci]
            refine r_if_eq 55 49 hZ dX8_count_46 (by decide) rfl (fun c_46 => ?_) (fun c_46 => ?_)
            · skip
              have hk := cnt_f (P := (fun n => τ 1 n = 2 ∧ ¬ τ 5 n = 0)) (i := i) (fun q => q.2 c_46)
              rw [← hk]
              refine r_iload_n 56 hZ 2 dX8_count_55 rfl rfl rfl ?_
              refine r_istn 57 2 [(0, _), (1, _), (2, _), (3, _)] hZ dX8_count_56 rfl rfl (by decide) rfl rfl ?_
              refine r_iinc 60 3 1 [(0, _), (1, _), (2, _), (3, _)] hZ dX8_count_57 rfl rfl (by decide) (by decide) rfl rfl ?_
              refine r_goto 22 hZ dX8_count_60 (by decide) ?_
              rw [nI_1]
              first | exact ih_22 (i + 1) (by omega) (by omega) | skip
            · skip
              have hk := cnt_t (P := (fun n => τ 1 n = 2 ∧ ¬ τ 5 n = 0)) (i := i) ⟨c_37, c_46⟩
              refine r_iload_n 50 hZ 2 dX8_count_49 rfl rfl rfl ?_
              refine r_iconst (v := 1) 51 hZ dX8_count_50 rfl (by decide) ?_
              refine r_iadd 52 hZ dX8_count_51 rfl ?_
              rw [nI_1, ← hk]
              refine r_goto 56 hZ dX8_count_52 (by decide) ?_
              refine r_istn 57 2 [(0, _), (1, _), (2, _), (3, _)] hZ dX8_count_56 rfl rfl (by decide) rfl rfl ?_
              refine r_iinc 60 3 1 [(0, _), (1, _), (2, _), (3, _)] hZ dX8_count_57 rfl rfl (by decide) (by decide) rfl rfl ?_
              refine r_goto 22 hZ dX8_count_60 (by decide) ?_
              rw [nI_1]
              first | exact ih_22 (i + 1) (by omega) (by omega) | skip
    exact lp_22 (N + 1) 0 (by omega) (by omega)
set_option maxHeartbeats 4000000 in
set_option maxRecDepth 100000 in
theorem c_X8_count_6 (l : Launch) (g : va_G) (y : Nat → ClassId) (ad : Nat → Nat) (τ : Nat → Nat → Int32) (ρ : Nat → Nat → Int64) {N : Nat} (hN : τ 0 1 = nI N) (hN2 : N ≤ 38) : w_C l g y yX8_count cX8_count 4 (some .int) 1 [.ref (ad 0), .int 6] (rw ad y τ ρ) (some (.int (nI (cnt (fun n => τ 1 n = 2 ∧ ¬ τ 5 n = 0) N)))) (rw ad y (up τ 0 0 0) ρ) := by
  refine w_ofI (lv0 := [(0, .ref (ad 0)), (1, .int 6)]) (by decide +kernel) (Nat.le_of_ble_eq_true rfl) rfl (rfl) ?_
  intro Z hZ hret
  refine r_aload_n 1 hZ 0 dX8_count_0 rfl rfl rfl ?_
  refine r_iload_n 2 hZ 1 dX8_count_1 rfl rfl rfl ?_
  refine r_bipush (v := 8) 4 hZ dX8_count_2 rfl (by decide) ?_
  refine r_callSI (c_X8_isIn l g y ad τ ρ 6 (m := 8) (by decide)) wM_X8_isIn wL_X8_79 hZ rfl ⟨by decide, by decide⟩ rfl rfl dX8_count_4 ?_
  refine w_eqI (bI_t (by exact ⟨by decide, by decide⟩)) ?_
  refine r_if_eq 14 10 hZ dX8_count_7 (by decide) rfl (fun c_7 => ?_) (fun c_7 => ?_)
  · skip
    exact absurd c_7 (show ¬ ((1 : Int32) = (0 : Int32)) by decide)
  · skip
    refine r_iconst (v := 0) 11 hZ dX8_count_10 rfl (by decide) ?_
    refine r_goto 15 hZ dX8_count_11 (by decide) ?_
    refine p_X8_72 18 hZ dX8_count_15 rfl ?_
    refine r_iconst (v := 0) 19 hZ dX8_count_18 rfl (by decide) ?_
    refine r_istnN 20 [(0, _), (1, _), (2, _)] hZ dX8_count_19 rfl rfl (by decide) rfl rfl ?_
    refine r_iconst (v := 0) 21 hZ dX8_count_20 rfl (by decide) ?_
    refine r_istnN 22 [(0, _), (1, _), (2, _), (3, _)] hZ dX8_count_21 rfl rfl (by decide) rfl rfl ?_
    have lp_22 : ∀ (n : Nat) (i : Nat), i ≤ N → N + 1 ≤ i + n → Z 0 0 (rw ad y (up τ 0 0 0) ρ) 22 [(0, .ref (ad 0)), (1, .int 6), (2, .int (nI (cnt (fun n => τ 1 n = 2 ∧ ¬ τ 5 n = 0) i))), (3, .int (nI i))] [] := by
      intro n
      induction n with
      | zero => intro i h1 hn_22; exact absurd hn_22 (by omega)
      | succ n ih_22 =>
        intro i h1 hn_22
        refine r_iload_n 23 hZ 3 dX8_count_22 rfl rfl rfl ?_
        refine r_aload_n 24 hZ 0 dX8_count_23 rfl rfl rfl ?_
        refine g_X8_76 27 hZ dX8_count_24 rfl ?_
        refine w_eqI (hN) ?_
        refine r_icmp_ge 63 30 hZ dX8_count_27 (by decide) rfl (fun c_27 => ?_) (fun c_27 => ?_)
        · skip
          have hi := nI_leq (by omega) (by omega) c_27
          have hi : i = N := by omega
          subst hi
          refine r_iload_n 64 hZ 1 dX8_count_63 rfl rfl rfl ?_
          refine r_tsIn 142 hZ dX8_count_64 (by decide) (by decide) (by rfl) (by decide) ?_
          refine r_iload_n 143 hZ 2 dX8_count_142 rfl rfl rfl ?_
          exact hret _ _ _ _ dX8_count_143 rfl rfl
        · skip
          have hi := nI_nleq (by omega) (by omega) c_27
          have hci := nI_clamp (n := i) (by omega)
          refine r_aload_n 31 hZ 0 dX8_count_30 rfl rfl rfl ?_
          refine g_X8_7 34 hZ dX8_count_31 rfl ?_
          refine r_iload_n 35 hZ 3 dX8_count_34 rfl rfl rfl ?_
          refine a_r1 36 hZ (vp_in_nI (show i < 40 by omega) (by decide)) dX8_count_35 rfl ?_
          rw [hci]
          refine r_iconst (v := 2) 37 hZ dX8_count_36 rfl (by decide) ?_
          refine r_icmp_ne 55 40 hZ dX8_count_37 (by decide) rfl (fun c_37 => ?_) (fun c_37 => ?_)
          · skip
            have hk := cnt_f (P := (fun n => τ 1 n = 2 ∧ ¬ τ 5 n = 0)) (i := i) (fun q => c_37 q.1)
            rw [← hk]
            refine r_iload_n 56 hZ 2 dX8_count_55 rfl rfl rfl ?_
            refine r_istn 57 2 [(0, _), (1, _), (2, _), (3, _)] hZ dX8_count_56 rfl rfl (by decide) rfl rfl ?_
            refine r_iinc 60 3 1 [(0, _), (1, _), (2, _), (3, _)] hZ dX8_count_57 rfl rfl (by decide) (by decide) rfl rfl ?_
            refine r_goto 22 hZ dX8_count_60 (by decide) ?_
            rw [nI_1]
            first | exact ih_22 (i + 1) (by omega) (by omega) | skip
          · skip
            refine r_aload_n 41 hZ 0 dX8_count_40 rfl rfl rfl ?_
            refine g_X8_22 44 hZ dX8_count_41 rfl ?_
            refine r_iload_n 45 hZ 3 dX8_count_44 rfl rfl rfl ?_
            refine a_r5 46 hZ (vp_in_nI (show i < 40 by omega) (by decide)) dX8_count_45 rfl ?_
            rw [hci]
            refine r_if_eq 55 49 hZ dX8_count_46 (by decide) rfl (fun c_46 => ?_) (fun c_46 => ?_)
            · skip
              have hk := cnt_f (P := (fun n => τ 1 n = 2 ∧ ¬ τ 5 n = 0)) (i := i) (fun q => q.2 c_46)
              rw [← hk]
              refine r_iload_n 56 hZ 2 dX8_count_55 rfl rfl rfl ?_
              refine r_istn 57 2 [(0, _), (1, _), (2, _), (3, _)] hZ dX8_count_56 rfl rfl (by decide) rfl rfl ?_
              refine r_iinc 60 3 1 [(0, _), (1, _), (2, _), (3, _)] hZ dX8_count_57 rfl rfl (by decide) (by decide) rfl rfl ?_
              refine r_goto 22 hZ dX8_count_60 (by decide) ?_
              rw [nI_1]
              first | exact ih_22 (i + 1) (by omega) (by omega) | skip
            · skip
              have hk := cnt_t (P := (fun n => τ 1 n = 2 ∧ ¬ τ 5 n = 0)) (i := i) ⟨c_37, c_46⟩
              refine r_iload_n 50 hZ 2 dX8_count_49 rfl rfl rfl ?_
              refine r_iconst (v := 1) 51 hZ dX8_count_50 rfl (by decide) ?_
              refine r_iadd 52 hZ dX8_count_51 rfl ?_
              rw [nI_1, ← hk]
              refine r_goto 56 hZ dX8_count_52 (by decide) ?_
              refine r_istn 57 2 [(0, _), (1, _), (2, _), (3, _)] hZ dX8_count_56 rfl rfl (by decide) rfl rfl ?_
              refine r_iinc 60 3 1 [(0, _), (1, _), (2, _), (3, _)] hZ dX8_count_57 rfl rfl (by decide) (by decide) rfl rfl ?_
              refine r_goto 22 hZ dX8_count_60 (by decide) ?_
              rw [nI_1]
              first | exact ih_22 (i + 1) (by omega) (by omega) | skip
    exact lp_22 (N + 1) 0 (by omega) (by omega)
set_option maxHeartbeats 4000000 in
set_option maxRecDepth 100000 in
theorem c_X8_count_7 (l : Launch) (g : va_G) (y : Nat → ClassId) (ad : Nat → Nat) (τ : Nat → Nat → Int32) (ρ : Nat → Nat → Int64) {N : Nat} (hN : τ 0 1 = nI N) (hN2 : N ≤ 38) : w_C l g y yX8_count cX8_count 4 (some .int) 1 [.ref (ad 0), .int 7] (rw ad y τ ρ) (some (.int (τ 0 10))) (rw ad y (up τ 0 0 0) ρ) := by
  refine w_ofI (lv0 := [(0, .ref (ad 0)), (1, .int 7)]) (by decide +kernel) (Nat.le_of_ble_eq_true rfl) rfl (rfl) ?_
  intro Z hZ hret
  refine r_aload_n 1 hZ 0 dX8_count_0 rfl rfl rfl ?_
  refine r_iload_n 2 hZ 1 dX8_count_1 rfl rfl rfl ?_
  refine r_bipush (v := 8) 4 hZ dX8_count_2 rfl (by decide) ?_
  refine r_callSI (c_X8_isIn l g y ad τ ρ 7 (m := 8) (by decide)) wM_X8_isIn wL_X8_79 hZ rfl ⟨by decide, by decide⟩ rfl rfl dX8_count_4 ?_
  refine w_eqI (bI_t (by exact ⟨by decide, by decide⟩)) ?_
  refine r_if_eq 14 10 hZ dX8_count_7 (by decide) rfl (fun c_7 => ?_) (fun c_7 => ?_)
  · skip
    exact absurd c_7 (show ¬ ((1 : Int32) = (0 : Int32)) by decide)
  · skip
    refine r_iconst (v := 0) 11 hZ dX8_count_10 rfl (by decide) ?_
    refine r_goto 15 hZ dX8_count_11 (by decide) ?_
    refine p_X8_72 18 hZ dX8_count_15 rfl ?_
    refine r_iconst (v := 0) 19 hZ dX8_count_18 rfl (by decide) ?_
    refine r_istnN 20 [(0, _), (1, _), (2, _)] hZ dX8_count_19 rfl rfl (by decide) rfl rfl ?_
    refine r_iconst (v := 0) 21 hZ dX8_count_20 rfl (by decide) ?_
    refine r_istnN 22 [(0, _), (1, _), (2, _), (3, _)] hZ dX8_count_21 rfl rfl (by decide) rfl rfl ?_
    have lp_22 : ∀ (n : Nat) (i : Nat), i ≤ N → N + 1 ≤ i + n → Z 0 0 (rw ad y (up τ 0 0 0) ρ) 22 [(0, .ref (ad 0)), (1, .int 7), (2, .int (nI (cnt (fun n => τ 1 n = 2 ∧ ¬ τ 5 n = 0) i))), (3, .int (nI i))] [] := by
      intro n
      induction n with
      | zero => intro i h1 hn_22; exact absurd hn_22 (by omega)
      | succ n ih_22 =>
        intro i h1 hn_22
        refine r_iload_n 23 hZ 3 dX8_count_22 rfl rfl rfl ?_
        refine r_aload_n 24 hZ 0 dX8_count_23 rfl rfl rfl ?_
        refine g_X8_76 27 hZ dX8_count_24 rfl ?_
        refine w_eqI (hN) ?_
        refine r_icmp_ge 63 30 hZ dX8_count_27 (by decide) rfl (fun c_27 => ?_) (fun c_27 => ?_)
        · skip
          have hi := nI_leq (by omega) (by omega) c_27
          have hi : i = N := by omega
          subst hi
          refine r_iload_n 64 hZ 1 dX8_count_63 rfl rfl rfl ?_
          refine r_tsIn 144 hZ dX8_count_64 (by decide) (by decide) (by rfl) (by decide) ?_
          refine r_aload_n 145 hZ 0 dX8_count_144 rfl rfl rfl ?_
          refine g_X8_178 148 hZ dX8_count_145 rfl ?_
          exact hret _ _ _ _ dX8_count_148 rfl rfl
        · skip
          have hi := nI_nleq (by omega) (by omega) c_27
          have hci := nI_clamp (n := i) (by omega)
          refine r_aload_n 31 hZ 0 dX8_count_30 rfl rfl rfl ?_
          refine g_X8_7 34 hZ dX8_count_31 rfl ?_
          refine r_iload_n 35 hZ 3 dX8_count_34 rfl rfl rfl ?_
          refine a_r1 36 hZ (vp_in_nI (show i < 40 by omega) (by decide)) dX8_count_35 rfl ?_
          rw [hci]
          refine r_iconst (v := 2) 37 hZ dX8_count_36 rfl (by decide) ?_
          refine r_icmp_ne 55 40 hZ dX8_count_37 (by decide) rfl (fun c_37 => ?_) (fun c_37 => ?_)
          · skip
            have hk := cnt_f (P := (fun n => τ 1 n = 2 ∧ ¬ τ 5 n = 0)) (i := i) (fun q => c_37 q.1)
            rw [← hk]
            refine r_iload_n 56 hZ 2 dX8_count_55 rfl rfl rfl ?_
            refine r_istn 57 2 [(0, _), (1, _), (2, _), (3, _)] hZ dX8_count_56 rfl rfl (by decide) rfl rfl ?_
            refine r_iinc 60 3 1 [(0, _), (1, _), (2, _), (3, _)] hZ dX8_count_57 rfl rfl (by decide) (by decide) rfl rfl ?_
            refine r_goto 22 hZ dX8_count_60 (by decide) ?_
            rw [nI_1]
            first | exact ih_22 (i + 1) (by omega) (by omega) | skip
          · skip
            refine r_aload_n 41 hZ 0 dX8_count_40 rfl rfl rfl ?_
            refine g_X8_22 44 hZ dX8_count_41 rfl ?_
            refine r_iload_n 45 hZ 3 dX8_count_44 rfl rfl rfl ?_
            refine a_r5 46 hZ (vp_in_nI (show i < 40 by omega) (by decide)) dX8_count_45 rfl ?_
            rw [hci]
            refine r_if_eq 55 49 hZ dX8_count_46 (by decide) rfl (fun c_46 => ?_) (fun c_46 => ?_)
            · skip
              have hk := cnt_f (P := (fun n => τ 1 n = 2 ∧ ¬ τ 5 n = 0)) (i := i) (fun q => q.2 c_46)
              rw [← hk]
              refine r_iload_n 56 hZ 2 dX8_count_55 rfl rfl rfl ?_
              refine r_istn 57 2 [(0, _), (1, _), (2, _), (3, _)] hZ dX8_count_56 rfl rfl (by decide) rfl rfl ?_
              refine r_iinc 60 3 1 [(0, _), (1, _), (2, _), (3, _)] hZ dX8_count_57 rfl rfl (by decide) (by decide) rfl rfl ?_
              refine r_goto 22 hZ dX8_count_60 (by decide) ?_
              rw [nI_1]
              first | exact ih_22 (i + 1) (by omega) (by omega) | skip
            · skip
              have hk := cnt_t (P := (fun n => τ 1 n = 2 ∧ ¬ τ 5 n = 0)) (i := i) ⟨c_37, c_46⟩
              refine r_iload_n 50 hZ 2 dX8_count_49 rfl rfl rfl ?_
              refine r_iconst (v := 1) 51 hZ dX8_count_50 rfl (by decide) ?_
              refine r_iadd 52 hZ dX8_count_51 rfl ?_
              rw [nI_1, ← hk]
              refine r_goto 56 hZ dX8_count_52 (by decide) ?_
              refine r_istn 57 2 [(0, _), (1, _), (2, _), (3, _)] hZ dX8_count_56 rfl rfl (by decide) rfl rfl ?_
              refine r_iinc 60 3 1 [(0, _), (1, _), (2, _), (3, _)] hZ dX8_count_57 rfl rfl (by decide) (by decide) rfl rfl ?_
              refine r_goto 22 hZ dX8_count_60 (by decide) ?_
              rw [nI_1]
              first | exact ih_22 (i + 1) (by omega) (by omega) | skip
    exact lp_22 (N + 1) 0 (by omega) (by omega)
set_option maxHeartbeats 4000000 in
set_option maxRecDepth 100000 in
theorem c_X8_clear (l : Launch) (g : va_G) (y : Nat → ClassId) (ad : Nat → Nat) (τ : Nat → Nat → Int32) (ρ : Nat → Nat → Int64)  : w_C l g y yX8_clear cX8_clear 1 none 0 [.ref (ad 0)] (rw ad y τ ρ) none (rw ad y (clF τ) ρ) := by
  refine w_ofV (lv0 := [(0, .ref (ad 0))]) (by decide +kernel) (Nat.le_of_ble_eq_true rfl) rfl ?_
  intro Z hZ hret
  refine r_aload_n 1 hZ 0 dX8_clear_0 rfl rfl rfl ?_
  refine r_iconst (v := 0) 2 hZ dX8_clear_1 rfl (by decide) ?_
  refine p_X8_72 5 hZ dX8_clear_2 rfl ?_
  refine r_aload_n 6 hZ 0 dX8_clear_5 rfl rfl rfl ?_
  refine r_iconst (v := 1) 7 hZ dX8_clear_6 rfl (by decide) ?_
  refine p_X8_76 10 hZ dX8_clear_7 rfl ?_
  refine r_aload_n 11 hZ 0 dX8_clear_10 rfl rfl rfl ?_
  refine g_X8_7 14 hZ dX8_clear_11 rfl ?_
  refine r_iconst (v := 0) 15 hZ dX8_clear_14 rfl (by decide) ?_
  refine r_iconst (v := 0) 16 hZ dX8_clear_15 rfl (by decide) ?_
  refine s_r1 17 hZ (by first | assumption | exact vp_in_nI (by omega) (by decide) | (unfold vp_in; decide)) dX8_clear_16 rfl ?_
  refine r_aload_n 18 hZ 0 dX8_clear_17 rfl rfl rfl ?_
  refine g_X8_19 21 hZ dX8_clear_18 rfl ?_
  refine r_iconst (v := 0) 22 hZ dX8_clear_21 rfl (by decide) ?_
  refine r_iconst (v := 0) 23 hZ dX8_clear_22 rfl (by decide) ?_
  refine s_r4 24 hZ (by first | assumption | exact vp_in_nI (by omega) (by decide) | (unfold vp_in; decide)) dX8_clear_23 rfl ?_
  refine r_aload_n 25 hZ 0 dX8_clear_24 rfl rfl rfl ?_
  refine r_iconst (v := 0) 26 hZ dX8_clear_25 rfl (by decide) ?_
  refine p_X8_102 29 hZ dX8_clear_26 rfl ?_
  refine r_aload_n 30 hZ 0 dX8_clear_29 rfl rfl rfl ?_
  refine r_iconst (v := 0) 31 hZ dX8_clear_30 rfl (by decide) ?_
  refine p_X8_105 34 hZ dX8_clear_31 rfl ?_
  refine r_aload_n 35 hZ 0 dX8_clear_34 rfl rfl rfl ?_
  refine r_iconst (v := 0) 36 hZ dX8_clear_35 rfl (by decide) ?_
  refine p_X8_108 39 hZ dX8_clear_36 rfl ?_
  refine r_aload_n 40 hZ 0 dX8_clear_39 rfl rfl rfl ?_
  refine r_iconst (v := 0) 41 hZ dX8_clear_40 rfl (by decide) ?_
  refine p_X8_91 44 hZ dX8_clear_41 rfl ?_
  refine r_aload_n 45 hZ 0 dX8_clear_44 rfl rfl rfl ?_
  refine r_iconst (v := 0) 46 hZ dX8_clear_45 rfl (by decide) ?_
  refine p_X8_136 49 hZ dX8_clear_46 rfl ?_
  refine r_aload_n 50 hZ 0 dX8_clear_49 rfl rfl rfl ?_
  refine r_iconst (v := 0) 51 hZ dX8_clear_50 rfl (by decide) ?_
  refine p_X8_178 54 hZ dX8_clear_51 rfl ?_
  refine r_aload_n 55 hZ 0 dX8_clear_54 rfl rfl rfl ?_
  refine r_iconst (v := 0) 56 hZ dX8_clear_55 rfl (by decide) ?_
  refine p_X8_98 59 hZ (by first | exact Or.inl rfl | exact Or.inr rfl | exact bI_01 _) dX8_clear_56 rfl ?_
  exact hret _ _ _ dX8_clear_59 rfl
set_option maxHeartbeats 4000000 in
set_option maxRecDepth 100000 in
theorem c_X8_input_1 (l : Launch) (g : va_G) (y : Nat → ClassId) (ad : Nat → Nat) (τ : Nat → Nat → Int32) (ρ : Nat → Nat → Int64) {N I O A : Nat} (hN : τ 0 1 = nI N) (hI : τ 0 2 = nI I) (hO : τ 0 3 = nI O) (hA : τ 0 4 = nI A) (hI5 : I ≤ 5) (hO8 : O ≤ 8) (hA24 : A ≤ 24) (h : I = 5 ∨ 0 < O + A) : w_C l g y yX8_input cX8_input 3 (some .int) 5 [.ref (ad 0)] (rw ad y τ ρ) (some (.int 0)) (rw ad y (up τ 0 0 1) ρ) := by
  refine w_ofI (lv0 := [(0, .ref (ad 0))]) (by decide +kernel) (Nat.le_of_ble_eq_true rfl) rfl (rfl) ?_
  intro Z hZ hret
  refine r_aload_n 1 hZ 0 dX8_input_0 rfl rfl rfl ?_
  refine r_aload_n 2 hZ 0 dX8_input_1 rfl rfl rfl ?_
  refine g_X8_102 5 hZ dX8_input_2 rfl ?_
  refine w_eqI (hI) ?_
  refine r_iconst (v := 5) 6 hZ dX8_input_5 rfl (by decide) ?_
  refine r_icmp_eq 21 9 hZ dX8_input_6 (by decide) rfl (fun c_6 => ?_) (fun c_6 => ?_)
  · skip
    refine r_iconst (v := 1) 22 hZ dX8_input_21 rfl (by decide) ?_
    refine r_goto 26 hZ dX8_input_22 (by decide) ?_
    refine p_X8_72 29 hZ dX8_input_26 rfl ?_
    refine r_aload_n 30 hZ 0 dX8_input_29 rfl rfl rfl ?_
    refine g_X8_72 33 hZ dX8_input_30 rfl ?_
    refine r_if_le 38 36 hZ dX8_input_33 (by decide) rfl (fun c_33 => ?_) (fun c_33 => ?_)
    · skip
      exact absurd c_33 (show ¬ ((1 : Int32) ≤ (0 : Int32)) by decide)
    · skip
      refine r_iconst (v := 0) 37 hZ dX8_input_36 rfl (by decide) ?_
      exact hret _ _ _ _ dX8_input_37 rfl rfl
  · skip
    refine r_aload_n 10 hZ 0 dX8_input_9 rfl rfl rfl ?_
    refine g_X8_105 13 hZ dX8_input_10 rfl ?_
    refine w_eqI (hO) ?_
    refine r_aload_n 14 hZ 0 dX8_input_13 rfl rfl rfl ?_
    refine g_X8_108 17 hZ dX8_input_14 rfl ?_
    refine w_eqI (hA) ?_
    refine r_iadd 18 hZ dX8_input_17 rfl ?_
    rw [nI_add]
    refine r_if_le 25 21 hZ dX8_input_18 (by decide) rfl (fun c_18 => ?_) (fun c_18 => ?_)
    · skip
      exact absurd (nI_leq (b := 0) (by omega) (by omega) c_18) (by rcases h with q | q; exact absurd (by rw [q]; rfl) c_6; omega)
    · skip
      refine r_iconst (v := 1) 22 hZ dX8_input_21 rfl (by decide) ?_
      refine r_goto 26 hZ dX8_input_22 (by decide) ?_
      refine p_X8_72 29 hZ dX8_input_26 rfl ?_
      refine r_aload_n 30 hZ 0 dX8_input_29 rfl rfl rfl ?_
      refine g_X8_72 33 hZ dX8_input_30 rfl ?_
      refine r_if_le 38 36 hZ dX8_input_33 (by decide) rfl (fun c_33 => ?_) (fun c_33 => ?_)
      · skip
        exact absurd c_33 (show ¬ ((1 : Int32) ≤ (0 : Int32)) by decide)
      · skip
        refine r_iconst (v := 0) 37 hZ dX8_input_36 rfl (by decide) ?_
        exact hret _ _ _ _ dX8_input_37 rfl rfl
set_option maxHeartbeats 4000000 in
set_option maxRecDepth 100000 in
theorem c_X8_input_0 (l : Launch) (g : va_G) (y : Nat → ClassId) (ad : Nat → Nat) (τ : Nat → Nat → Int32) (ρ : Nat → Nat → Int64) {N I O A : Nat} (hN : τ 0 1 = nI N) (hI : τ 0 2 = nI I) (hO : τ 0 3 = nI O) (hA : τ 0 4 = nI A) (hI5 : I ≤ 5) (hO8 : O ≤ 8) (hA24 : A ≤ 24) (hN2 : N < 38) (h : I < 5) (h0 : O + A = 0) : w_C l g y yX8_input cX8_input 3 (some .int) 5 [.ref (ad 0)] (rw ad y τ ρ) (some (.int (nI (2 * N)))) (rw ad y (inF τ N I) (putL ρ N)) := by
  refine w_ofI (lv0 := [(0, .ref (ad 0))]) (by decide +kernel) (Nat.le_of_ble_eq_true rfl) rfl (rfl) ?_
  intro Z hZ hret
  have hcN := nI_clamp (n := N) (by omega)
  refine r_aload_n 1 hZ 0 dX8_input_0 rfl rfl rfl ?_
  refine r_aload_n 2 hZ 0 dX8_input_1 rfl rfl rfl ?_
  refine g_X8_102 5 hZ dX8_input_2 rfl ?_
  refine w_eqI (hI) ?_
  refine r_iconst (v := 5) 6 hZ dX8_input_5 rfl (by decide) ?_
  refine r_icmp_eq 21 9 hZ dX8_input_6 (by decide) rfl (fun c_6 => ?_) (fun c_6 => ?_)
  · skip
    exact absurd (nI_eqq (b := 5) (by omega) (by decide) c_6) (by omega)
  · skip
    refine r_aload_n 10 hZ 0 dX8_input_9 rfl rfl rfl ?_
    refine g_X8_105 13 hZ dX8_input_10 rfl ?_
    refine w_eqI (hO) ?_
    refine r_aload_n 14 hZ 0 dX8_input_13 rfl rfl rfl ?_
    refine g_X8_108 17 hZ dX8_input_14 rfl ?_
    refine w_eqI (hA) ?_
    refine r_iadd 18 hZ dX8_input_17 rfl ?_
    rw [nI_add, h0]
    refine r_if_le 25 21 hZ dX8_input_18 (by decide) rfl (fun c_18 => ?_) (fun c_18 => ?_)
    · skip
      refine r_iconst (v := 0) 26 hZ dX8_input_25 rfl (by decide) ?_
      refine p_X8_72 29 hZ dX8_input_26 rfl ?_
      refine r_aload_n 30 hZ 0 dX8_input_29 rfl rfl rfl ?_
      refine g_X8_72 33 hZ dX8_input_30 rfl ?_
      refine r_if_le 38 36 hZ dX8_input_33 (by decide) rfl (fun c_33 => ?_) (fun c_33 => ?_)
      · skip
        refine r_iconst (v := 0) 39 hZ dX8_input_38 rfl (by decide) ?_
        refine r_istnN 40 [(0, _), (1, _)] hZ dX8_input_39 rfl rfl (by decide) rfl rfl ?_
        refine r_iconst (v := 0) 41 hZ dX8_input_40 rfl (by decide) ?_
        refine r_istnN 42 [(0, _), (1, _), (2, _)] hZ dX8_input_41 rfl rfl (by decide) rfl rfl ?_
        have lp_42 : ∀ (n : Nat) (i : Nat), i ≤ 32 → 33 ≤ i + n → Z 0 0 (rw ad y (up τ 0 0 0) ρ) 42 [(0, .ref (ad 0)), (1, .int (inT I i)), (2, .int (nI i))] [] := by
          intro n
          induction n with
          | zero => intro i h1 hn_42; exact absurd hn_42 (by omega)
          | succ n ih_42 =>
            intro i h1 hn_42
            refine r_iload_n 43 hZ 2 dX8_input_42 rfl rfl rfl ?_
            refine r_bipush (v := 32) 45 hZ dX8_input_43 rfl (by decide) ?_
            refine r_icmp_ge 76 48 hZ dX8_input_45 (by decide) rfl (fun c_45 => ?_) (fun c_45 => ?_)
            · skip
              have hi := nI_leq (a := 32) (by omega) (by omega) c_45
              have hi : i = 32 := by omega
              subst hi
              refine r_aload_n 77 hZ 0 dX8_input_76 rfl rfl rfl ?_
              refine g_X8_19 80 hZ dX8_input_77 rfl ?_
              refine r_aload_n 81 hZ 0 dX8_input_80 rfl rfl rfl ?_
              refine g_X8_76 84 hZ dX8_input_81 rfl ?_
              refine w_eqI (hN) ?_
              refine r_iload_n 85 hZ 1 dX8_input_84 rfl rfl rfl ?_
              refine s_r4 86 hZ (vp_in_nI (show N < 40 by omega) (by decide)) dX8_input_85 rfl ?_
              rw [hcN]
              refine r_aload_n 87 hZ 0 dX8_input_86 rfl rfl rfl ?_
              refine r_dup 88 hZ dX8_input_87 rfl rfl ?_
              refine g_X8_102 91 hZ dX8_input_88 rfl ?_
              refine w_eqI (hI) ?_
              refine r_iconst (v := 1) 92 hZ dX8_input_91 rfl (by decide) ?_
              refine r_iadd 93 hZ dX8_input_92 rfl ?_
              rw [nI_1]
              refine p_X8_102 96 hZ dX8_input_93 rfl ?_
              refine r_aload_n 97 hZ 0 dX8_input_96 rfl rfl rfl ?_
              refine r_iconst (v := 1) 98 hZ dX8_input_97 rfl (by decide) ?_
              refine r_iconst (v := 0) 99 hZ dX8_input_98 rfl (by decide) ?_
              refine r_iconst (v := 0) 100 hZ dX8_input_99 rfl (by decide) ?_
              refine r_callVI (c_X8_put l g y ad _ ρ (N := N) (by exact hN) hN2 1 okL0 okL0) wM_X8_put wL_X8_111 hZ rfl ⟨by decide, by decide⟩ 0 8 rfl rfl rfl rfl dX8_input_100 ?_
              exact hret _ _ _ _ dX8_input_103 rfl rfl
            · skip
              have hi := nI_nleq (a := 32) (by omega) (by omega) c_45
              refine r_iload_n 49 hZ 2 dX8_input_48 rfl rfl rfl ?_
              refine r_aload_n 50 hZ 0 dX8_input_49 rfl rfl rfl ?_
              refine g_X8_102 53 hZ dX8_input_50 rfl ?_
              refine w_eqI (hI) ?_
              refine r_ishr 54 hZ dX8_input_53 rfl ?_
              refine r_iconst (v := 1) 55 hZ dX8_input_54 rfl (by decide) ?_
              refine r_iand 56 hZ dX8_input_55 rfl ?_
              refine r_iconst (v := 1) 57 hZ dX8_input_56 rfl (by decide) ?_
              refine r_icmp_ne 68 60 hZ dX8_input_57 (by decide) rfl (fun c_57 => ?_) (fun c_57 => ?_)
              · skip
                have hk := inT_f c_57
                refine r_iload_n 69 hZ 1 dX8_input_68 rfl rfl rfl ?_
                refine r_istn 70 1 [(0, _), (1, _), (2, _)] hZ dX8_input_69 rfl rfl (by decide) rfl rfl ?_
                rw [← hk]
                refine r_iinc 73 2 1 [(0, _), (1, _), (2, _)] hZ dX8_input_70 rfl rfl (by decide) (by decide) rfl rfl ?_
                refine r_goto 42 hZ dX8_input_73 (by decide) ?_
                rw [nI_1]
                exact ih_42 (i + 1) (by omega) (by omega)
              · skip
                have hk := inT_t c_57
                refine r_iload_n 61 hZ 1 dX8_input_60 rfl rfl rfl ?_
                refine r_iconst (v := 1) 62 hZ dX8_input_61 rfl (by decide) ?_
                refine r_iload_n 63 hZ 2 dX8_input_62 rfl rfl rfl ?_
                refine r_ishl 64 hZ dX8_input_63 rfl ?_
                refine r_ior 65 hZ dX8_input_64 rfl ?_
                refine r_goto 69 hZ dX8_input_65 (by decide) ?_
                refine r_istn 70 1 [(0, _), (1, _), (2, _)] hZ dX8_input_69 rfl rfl (by decide) rfl rfl ?_
                rw [← hk]
                refine r_iinc 73 2 1 [(0, _), (1, _), (2, _)] hZ dX8_input_70 rfl rfl (by decide) (by decide) rfl rfl ?_
                refine r_goto 42 hZ dX8_input_73 (by decide) ?_
                rw [nI_1]
                exact ih_42 (i + 1) (by omega) (by omega)
        exact lp_42 33 0 (by omega) (by omega)
      · skip
        exact absurd c_33 (show ¬ ¬ ((0 : Int32) ≤ (0 : Int32)) by decide)
    · skip
      exact absurd (show nI 0 ≤ 0 by decide) c_18
