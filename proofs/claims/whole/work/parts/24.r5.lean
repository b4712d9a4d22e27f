/-! the reference: taking, run, edit .. -/
abbrev TB : Type := Option (Int64 × Nat × Nat)
def labs (x : Int64) : Int64 := if x < 0 then -x else x
theorem labs_n {x : Int64} (h : x < 0) : -x = labs x := (if_pos h).symm
theorem labs_p {x : Int64} (h : ¬ x < 0) : x = labs x := (if_neg h).symm
def farF (τ : stT) (ρ : rtT) (j s : Nat) : Int64 := labs (ρ 1 (ix (τ 8 j)) - ρ 3 s) + labs (ρ 2 (ix (τ 8 j)) - ρ 4 s)
/-- the best so far, an offer -/
def ofB (D : Int64) (a b : Nat) : TB → TB
  | none => some (D, a, b)
  | some (d, x, z) => if D < d then some (D, a, b) else some (d, x, z)
def tkτ (τ : stT) : TB → stT
  | none => τ
  | some (_, a, b) => up (up τ 11 0 (nI a)) 11 1 (nI b)
def tkρ (ρ : rtT) : TB → rtT
  | none => ρ
  | some (d, _, _) => upL ρ 0 0 d
theorem up2 (τ : stT) (x z x2 z2 : Int32) : up (up (up (up τ 11 0 x) 11 1 z) 11 0 x2) 11 1 z2 = up (up τ 11 0 x2) 11 1 z2 := by
  funext k i
  simp only [up_at]
  split
  · rfl
  · split
    · rfl
    · simp_all
theorem upL2 (ρ : rtT) (x z : Int64) : upL (upL ρ 0 0 x) 0 0 z = upL ρ 0 0 z := by
  funext k i
  simp only [upL_at]
  split
  · rfl
  · rfl
theorem tk_n {τ : stT} {D : Int64} {a b : Nat} : up (up (tkτ τ none) 11 0 (nI a)) 11 1 (nI b) = tkτ τ (ofB D a b none) := rfl
theorem tk_s {τ : stT} {D d : Int64} {a b x z : Nat} (h : D < d) : up (up (tkτ τ (some (d, x, z))) 11 0 (nI a)) 11 1 (nI b) = tkτ τ (ofB D a b (some (d, x, z))) := by
  rw [show ofB D a b (some (d, x, z)) = some (D, a, b) from if_pos h]
  exact up2 τ _ _ _ _
theorem tkL_s {ρ : rtT} {D d : Int64} {a b x z : Nat} (h : D < d) : upL (tkρ ρ (some (d, x, z))) 0 0 D = tkρ ρ (ofB D a b (some (d, x, z))) := by
  rw [show ofB D a b (some (d, x, z)) = some (D, a, b) from if_pos h]
  exact upL2 ρ _ _
theorem ofB_k {D d : Int64} {a b x z : Nat} (h : ¬ D < d) : ofB D a b (some (d, x, z)) = some (d, x, z) := if_neg h
theorem ofB_some (D : Int64) (a b : Nat) (o : TB) : (ofB D a b o).isSome = true := by
  cases o with
  | none => rfl
  | some q =>
    obtain ⟨d, x, z⟩ := q
    by_cases h : D < d
    · rw [show ofB D a b (some (d, x, z)) = some (D, a, b) from if_pos h]; rfl
    · rw [show ofB D a b (some (d, x, z)) = some (d, x, z) from if_neg h]; rfl
theorem tkτ_k (τ : stT) (k : Nat) (h : k ≠ 11) : ∀ o : TB, tkτ τ o k = τ k
  | none => rfl
  | some (d, a, b) => by
    show (if k = 11 then _ else if k = 11 then _ else _) = _
    rw [if_neg h, if_neg h]
theorem tkρ_k (ρ : rtT) (k : Nat) (h : k ≠ 0) : ∀ o : TB, tkρ ρ o k = ρ k
  | none => rfl
  | some (d, a, b) => by
    show (if k = 0 then _ else _) = _
    rw [if_neg h]
theorem farF_tk (τ : stT) (ρ : rtT) (j s : Nat) (o : TB) : farF (tkτ τ o) (tkρ ρ o) j s = farF τ ρ j s := by
  unfold farF
  rw [tkτ_k τ 8 (by decide), tkρ_k ρ 1 (by decide), tkρ_k ρ 2 (by decide), tkρ_k ρ 3 (by decide), tkρ_k ρ 4 (by decide)]
def bO1 (D : Nat → Int64) : Nat → TB
  | 0 => none
  | a + 1 => ofB (D a) a 0 (bO1 D a)
def bI2 (D : Nat → Nat → Int64) (a : Nat) (o : TB) : Nat → TB
  | 0 => o
  | b + 1 => if a = b then bI2 D a o b else ofB (D a b) a b (bI2 D a o b)
def bO2 (D : Nat → Nat → Int64) (S : Nat) : Nat → TB
  | 0 => none
  | a + 1 => bI2 D a (bO2 D S a) S
theorem bI2_t {D : Nat → Nat → Int64} {a b : Nat} {o : TB} (h : a = b) : bI2 D a o (b + 1) = bI2 D a o b := if_pos h
theorem bI2_f {D : Nat → Nat → Int64} {a b : Nat} {o : TB} (h : ¬ a = b) : bI2 D a o (b + 1) = ofB (D a b) a b (bI2 D a o b) := if_neg h
/-- the taking of r edits by S spares -/
def tB (τ : stT) (ρ : rtT) (r S : Nat) : TB := if r ≤ S then (match r with
  | 0 => none
  | 1 => bO1 (fun a => farF τ ρ 0 a + 0) S
  | _ => bO2 (fun a b => farF τ ρ 0 a + farF τ ρ 1 b) S S) else none
theorem tk_step {T : stT} {P : rtT} {o : TB} {D : Int64} {a b : Nat} (h : o = none ∨ ∃ d x z, o = some (d, x, z) ∧ D < d) : up (up (tkτ T o) 11 0 (nI a)) 11 1 (nI b) = tkτ T (ofB D a b o) ∧ upL (tkρ P o) 0 0 D = tkρ P (ofB D a b o) := by
  rcases h with rfl | ⟨d, x, z, rfl, h⟩
  · exact ⟨rfl, rfl⟩
  · exact ⟨tk_s h, tkL_s h⟩
theorem not3 {x : Int32} (h : 2 < x) : ¬ okL x 3 := fun q => by
  obtain ⟨q1, q2⟩ := q
  rw [q1] at h
  have := nI_ltq (a := 2) (by decide) (by omega) h
  omega
theorem is3 {x : Int32} (h0 : ¬ x < 0) (h : ¬ 2 < x) : okL x 3 := by
  obtain ⟨j, hj, e⟩ := nI_of h0
  rw [e] at h ⊢
  exact okL_nI (by have := nI_nltq (a := 2) (by decide) hj h; omega) (by decide)
theorem okL_out {x : Int32} {m : Nat} (h : ¬ okL x m) : x.toInt < 0 ∨ ((m : Int) - 1 < x.toInt) := by
  by_cases h0 : x < 0
  · exact Or.inl (by have := Int32.lt_iff_toInt_lt.mp h0; simpa using this)
  · obtain ⟨j, hj, e⟩ := nI_of h0
    right
    rw [e, nI_toInt hj]
    rw [e] at h
    have : ¬ j < m := fun q => h ⟨by rw [ix_nI hj], by rw [ix_nI hj]; exact q⟩
    omega
set_option maxHeartbeats 4000000 in
set_option maxRecDepth 100000 in
theorem c_X8_size (l : Launch) (g : va_G) (y : Nat → ClassId) (ad : Nat → Nat) (τ : Nat → Nat → Int32) (ρ : Nat → Nat → Int64) (x : Int64) : w_C l g y yX8_size cX8_size 2 (some .long) 0 [.long x] (rw ad y τ ρ) (some (.long (labs x))) (rw ad y τ ρ) := by
  refine w_ofL (lv0 := [(0, .long x)]) (by decide +kernel) (Nat.le_of_ble_eq_true rfl) rfl ?_
  intro Z hZ hret
  refine r_lload_n 1 hZ 0 dX8_size_0 rfl rfl rfl ?_
  refine r_lconst (v := 0) 2 hZ dX8_size_1 rfl (by decide) ?_
  refine r_lcmp 3 hZ dX8_size_2 rfl ?_
  refine r_if_ge 11 6 hZ dX8_size_3 (by decide) rfl (fun c_3 => ?_) (fun c_3 => ?_)
  · skip
    have c : ¬ x < 0 := fun q => absurd ((lg_cmp_lt _ _).mpr q) (Int32.not_lt.mpr c_3)
    refine r_lload_n 12 hZ 0 dX8_size_11 rfl rfl rfl ?_
    exact hret _ _ _ _ dX8_size_12 (by first | exact labs_n c | exact labs_p c) rfl
  · skip
    have c : x < 0 := (lg_cmp_lt _ _).mp (Int32.not_le.mp c_3)
    refine r_lload_n 7 hZ 0 dX8_size_6 rfl rfl rfl ?_
    refine r_lneg 8 hZ dX8_size_7 rfl ?_
    refine r_goto 12 hZ dX8_size_8 (by decide) ?_
    exact hret _ _ _ _ dX8_size_12 (by first | exact labs_n c | exact labs_p c) rfl
set_option maxHeartbeats 4000000 in
set_option maxRecDepth 100000 in
theorem c_X8_far (l : Launch) (g : va_G) (y : Nat → ClassId) (ad : Nat → Nat) (τ : Nat → Nat → Int32) (ρ : Nat → Nat → Int64) {j s : Nat} (hj : j < 2) (hs : s < 6) (hk : okL (τ 8 j) 40) : w_C l g y yX8_far cX8_far 4 (some .long) 1 [.ref (ad 0), .int (nI j), .int (nI s)] (rw ad y τ ρ) (some (.long (farF τ ρ j s))) (rw ad y τ ρ) := by
  refine w_ofL (lv0 := [(0, .ref (ad 0)), (1, .int (nI j)), (2, .int (nI s))]) (by decide +kernel) (Nat.le_of_ble_eq_true rfl) rfl ?_
  intro Z hZ hret
  have hcj := nI_clamp (n := j) (by omega)
  have hcs := nI_clamp (n := s) (by omega)
  refine r_aload_n 1 hZ 0 dX8_far_0 rfl rfl rfl ?_
  refine g_X8_45 4 hZ dX8_far_1 rfl ?_
  refine r_iload_n 5 hZ 1 dX8_far_4 rfl rfl rfl ?_
  refine a_r8 6 hZ (by first | assumption | exact vp_in_nI (by omega) (by decide) | (unfold vp_in; decide)) dX8_far_5 rfl ?_
  rw [hcj]
  refine r_istnN 7 [(0, _), (1, _), (2, _), (3, _)] hZ dX8_far_6 rfl rfl (by decide) rfl rfl ?_
  refine r_aload_n 8 hZ 0 dX8_far_7 rfl rfl rfl ?_
  refine g_X8_26 11 hZ dX8_far_8 rfl ?_
  refine r_iload_n 12 hZ 3 dX8_far_11 rfl rfl rfl ?_
  refine a_r16 13 hZ (okL_in hk (by decide)) dX8_far_12 rfl ?_
  refine r_aload_n 14 hZ 0 dX8_far_13 rfl rfl rfl ?_
  refine g_X8_39 17 hZ dX8_far_14 rfl ?_
  refine r_iload_n 18 hZ 2 dX8_far_17 rfl rfl rfl ?_
  refine a_r18 19 hZ (by first | assumption | exact vp_in_nI (by omega) (by decide) | (unfold vp_in; decide)) dX8_far_18 rfl ?_
  rw [hcs]
  refine r_lsub 20 hZ dX8_far_19 rfl ?_
  refine r_callSI (c_X8_size l g y ad τ ρ _) wM_X8_size wL_X8_163 hZ rfl ⟨by decide, by decide⟩ rfl rfl dX8_far_20 ?_
  refine r_aload_n 24 hZ 0 dX8_far_23 rfl rfl rfl ?_
  refine g_X8_30 27 hZ dX8_far_24 rfl ?_
  refine r_iload_n 28 hZ 3 dX8_far_27 rfl rfl rfl ?_
  refine a_r17 29 hZ (okL_in hk (by decide)) dX8_far_28 rfl ?_
  refine r_aload_n 30 hZ 0 dX8_far_29 rfl rfl rfl ?_
  refine g_X8_42 33 hZ dX8_far_30 rfl ?_
  refine r_iload_n 34 hZ 2 dX8_far_33 rfl rfl rfl ?_
  refine a_r19 35 hZ (by first | assumption | exact vp_in_nI (by omega) (by decide) | (unfold vp_in; decide)) dX8_far_34 rfl ?_
  rw [hcs]
  refine r_lsub 36 hZ dX8_far_35 rfl ?_
  refine r_callSI (c_X8_size l g y ad τ ρ _) wM_X8_size wL_X8_163 hZ rfl ⟨by decide, by decide⟩ rfl rfl dX8_far_36 ?_
  refine r_ladd 40 hZ dX8_far_39 rfl ?_
  exact hret _ _ _ _ dX8_far_40 rfl rfl
set_option maxHeartbeats 4000000 in
set_option maxRecDepth 100000 in
theorem c_X8_take_0 (l : Launch) (g : va_G) (y : Nat → ClassId) (ad : Nat → Nat) (τ : Nat → Nat → Int32) (ρ : Nat → Nat → Int64) {S : Nat} (hS : τ 0 6 = nI S) (hS6 : S ≤ 6) (hr : τ 0 8 = 0) : w_C l g y yX8_take cX8_take 6 none 4 [.ref (ad 0)] (rw ad y τ ρ) none (rw ad y (up τ 0 9 1) (upL ρ 0 0 0)) := by
  refine w_ofV (lv0 := [(0, .ref (ad 0))]) (by decide +kernel) (Nat.le_of_ble_eq_true rfl) rfl ?_
  intro Z hZ hret
  refine r_aload_n 1 hZ 0 dX8_take_0 rfl rfl rfl ?_
  refine r_aload_n 2 hZ 0 dX8_take_1 rfl rfl rfl ?_
  refine g_X8_136 5 hZ dX8_take_2 rfl ?_
  refine w_eqI (hS) ?_
  refine r_aload_n 6 hZ 0 dX8_take_5 rfl rfl rfl ?_
  refine g_X8_157 9 hZ dX8_take_6 rfl ?_
  refine w_eqI (hr) ?_
  refine r_icmp_lt 16 12 hZ dX8_take_9 (by decide) rfl (fun c_9 => ?_) (fun c_9 => ?_)
  · skip
    exact absurd c_9 (show ¬ nI S < nI 0 from nI_nlt (by omega) (by omega))
  · skip
    refine r_iconst (v := 1) 13 hZ dX8_take_12 rfl (by decide) ?_
    refine r_goto 17 hZ dX8_take_13 (by decide) ?_
    refine p_X8_167 20 hZ (by first | exact Or.inl rfl | exact Or.inr rfl) dX8_take_17 rfl ?_
    refine r_aload_n 21 hZ 0 dX8_take_20 rfl rfl rfl ?_
    refine r_lconst (v := 0) 22 hZ dX8_take_21 rfl (by decide) ?_
    refine p_X8_170 25 hZ dX8_take_22 rfl ?_
    refine r_iconst (v := 0) 26 hZ dX8_take_25 rfl (by decide) ?_
    refine r_istnN 27 [(0, _), (1, _)] hZ dX8_take_26 rfl rfl (by decide) rfl rfl ?_
    refine r_iconst (v := 0) 28 hZ dX8_take_27 rfl (by decide) ?_
    refine r_istnN 29 [(0, _), (1, _), (2, _)] hZ dX8_take_28 rfl rfl (by decide) rfl rfl ?_
    refine r_iload_n 30 hZ 2 dX8_take_29 rfl rfl rfl ?_
    refine r_aload_n 31 hZ 0 dX8_take_30 rfl rfl rfl ?_
    refine g_X8_136 34 hZ dX8_take_31 rfl ?_
    refine w_eqI (hS) ?_
    refine r_icmp_ge 164 37 hZ dX8_take_34 (by decide) rfl (fun c_34 => ?_) (fun c_34 => ?_)
    · skip
      exact hret _ _ _ dX8_take_164 rfl
    · skip
      refine r_aload_n 38 hZ 0 dX8_take_37 rfl rfl rfl ?_
      refine g_X8_157 41 hZ dX8_take_38 rfl ?_
      refine w_eqI (hr) ?_
      refine r_if_le 164 44 hZ dX8_take_41 (by decide) rfl (fun c_41 => ?_) (fun c_41 => ?_)
      · skip
        exact hret _ _ _ dX8_take_164 rfl
      · skip
        exact absurd c_41 (show ¬ ¬ ((0 : Int32) ≤ (0 : Int32)) by decide)
set_option maxHeartbeats 4000000 in
set_option maxRecDepth 100000 in
theorem c_X8_take_1n (l : Launch) (g : va_G) (y : Nat → ClassId) (ad : Nat → Nat) (τ : Nat → Nat → Int32) (ρ : Nat → Nat → Int64) {S : Nat} (hS : τ 0 6 = nI S) (hS6 : S ≤ 6) (hlt : S < 1) (hr : τ 0 8 = 1) : w_C l g y yX8_take cX8_take 6 none 4 [.ref (ad 0)] (rw ad y τ ρ) none (rw ad y (up τ 0 9 0) (upL ρ 0 0 0)) := by
  refine w_ofV (lv0 := [(0, .ref (ad 0))]) (by decide +kernel) (Nat.le_of_ble_eq_true rfl) rfl ?_
  intro Z hZ hret
  refine r_aload_n 1 hZ 0 dX8_take_0 rfl rfl rfl ?_
  refine r_aload_n 2 hZ 0 dX8_take_1 rfl rfl rfl ?_
  refine g_X8_136 5 hZ dX8_take_2 rfl ?_
  refine w_eqI (hS) ?_
  refine r_aload_n 6 hZ 0 dX8_take_5 rfl rfl rfl ?_
  refine g_X8_157 9 hZ dX8_take_6 rfl ?_
  refine w_eqI (hr) ?_
  refine r_icmp_lt 16 12 hZ dX8_take_9 (by decide) rfl (fun c_9 => ?_) (fun c_9 => ?_)
  · skip
    refine r_iconst (v := 0) 17 hZ dX8_take_16 rfl (by decide) ?_
    refine p_X8_167 20 hZ (by first | exact Or.inl rfl | exact Or.inr rfl) dX8_take_17 rfl ?_
    refine r_aload_n 21 hZ 0 dX8_take_20 rfl rfl rfl ?_
    refine r_lconst (v := 0) 22 hZ dX8_take_21 rfl (by decide) ?_
    refine p_X8_170 25 hZ dX8_take_22 rfl ?_
    refine r_iconst (v := 0) 26 hZ dX8_take_25 rfl (by decide) ?_
    refine r_istnN 27 [(0, _), (1, _)] hZ dX8_take_26 rfl rfl (by decide) rfl rfl ?_
    refine r_iconst (v := 0) 28 hZ dX8_take_27 rfl (by decide) ?_
    refine r_istnN 29 [(0, _), (1, _), (2, _)] hZ dX8_take_28 rfl rfl (by decide) rfl rfl ?_
    refine r_iload_n 30 hZ 2 dX8_take_29 rfl rfl rfl ?_
    refine r_aload_n 31 hZ 0 dX8_take_30 rfl rfl rfl ?_
    refine g_X8_136 34 hZ dX8_take_31 rfl ?_
    refine w_eqI (hS) ?_
    refine r_icmp_ge 164 37 hZ dX8_take_34 (by decide) rfl (fun c_34 => ?_) (fun c_34 => ?_)
    · skip
      exact hret _ _ _ dX8_take_164 rfl
    · skip
      refine r_aload_n 38 hZ 0 dX8_take_37 rfl rfl rfl ?_
      refine g_X8_157 41 hZ dX8_take_38 rfl ?_
      refine w_eqI (hr) ?_
      refine r_if_le 164 44 hZ dX8_take_41 (by decide) rfl (fun c_41 => ?_) (fun c_41 => ?_)
      · skip
        exact absurd c_41 (show ¬ ((1 : Int32) ≤ (0 : Int32)) by decide)
      · skip
        refine r_aload_n 45 hZ 0 dX8_take_44 rfl rfl rfl ?_
        refine g_X8_167 48 hZ dX8_take_45 rfl ?_
        refine r_if_eq 164 51 hZ dX8_take_48 (by decide) rfl (fun c_48 => ?_) (fun c_48 => ?_)
        · skip
          exact hret _ _ _ dX8_take_164 rfl
        · skip
          exact absurd c_48 (show ¬ ¬ ((0 : Int32) = (0 : Int32)) by decide)
  · skip
    exact absurd (show nI S < nI 1 from nI_lt hlt (by decide)) c_9
set_option maxHeartbeats 4000000 in
set_option maxRecDepth 100000 in
theorem c_X8_take_2n (l : Launch) (g : va_G) (y : Nat → ClassId) (ad : Nat → Nat) (τ : Nat → Nat → Int32) (ρ : Nat → Nat → Int64) {S : Nat} (hS : τ 0 6 = nI S) (hS6 : S ≤ 6) (hlt : S < 2) (hr : τ 0 8 = 2) : w_C l g y yX8_take cX8_take 6 none 4 [.ref (ad 0)] (rw ad y τ ρ) none (rw ad y (up τ 0 9 0) (upL ρ 0 0 0)) := by
  refine w_ofV (lv0 := [(0, .ref (ad 0))]) (by decide +kernel) (Nat.le_of_ble_eq_true rfl) rfl ?_
  intro Z hZ hret
  refine r_aload_n 1 hZ 0 dX8_take_0 rfl rfl rfl ?_
  refine r_aload_n 2 hZ 0 dX8_take_1 rfl rfl rfl ?_
  refine g_X8_136 5 hZ dX8_take_2 rfl ?_
  refine w_eqI (hS) ?_
  refine r_aload_n 6 hZ 0 dX8_take_5 rfl rfl rfl ?_
  refine g_X8_157 9 hZ dX8_take_6 rfl ?_
  refine w_eqI (hr) ?_
  refine r_icmp_lt 16 12 hZ dX8_take_9 (by decide) rfl (fun c_9 => ?_) (fun c_9 => ?_)
  · skip
    refine r_iconst (v := 0) 17 hZ dX8_take_16 rfl (by decide) ?_
    refine p_X8_167 20 hZ (by first | exact Or.inl rfl | exact Or.inr rfl) dX8_take_17 rfl ?_
    refine r_aload_n 21 hZ 0 dX8_take_20 rfl rfl rfl ?_
    refine r_lconst (v := 0) 22 hZ dX8_take_21 rfl (by decide) ?_
    refine p_X8_170 25 hZ dX8_take_22 rfl ?_
    refine r_iconst (v := 0) 26 hZ dX8_take_25 rfl (by decide) ?_
    refine r_istnN 27 [(0, _), (1, _)] hZ dX8_take_26 rfl rfl (by decide) rfl rfl ?_
    refine r_iconst (v := 0) 28 hZ dX8_take_27 rfl (by decide) ?_
    refine r_istnN 29 [(0, _), (1, _), (2, _)] hZ dX8_take_28 rfl rfl (by decide) rfl rfl ?_
    refine r_iload_n 30 hZ 2 dX8_take_29 rfl rfl rfl ?_
    refine r_aload_n 31 hZ 0 dX8_take_30 rfl rfl rfl ?_
    refine g_X8_136 34 hZ dX8_take_31 rfl ?_
    refine w_eqI (hS) ?_
    refine r_icmp_ge 164 37 hZ dX8_take_34 (by decide) rfl (fun c_34 => ?_) (fun c_34 => ?_)
    · skip
      exact hret _ _ _ dX8_take_164 rfl
    · skip
      refine r_aload_n 38 hZ 0 dX8_take_37 rfl rfl rfl ?_
      refine g_X8_157 41 hZ dX8_take_38 rfl ?_
      refine w_eqI (hr) ?_
      refine r_if_le 164 44 hZ dX8_take_41 (by decide) rfl (fun c_41 => ?_) (fun c_41 => ?_)
      · skip
        exact absurd c_41 (show ¬ ((2 : Int32) ≤ (0 : Int32)) by decide)
      · skip
        refine r_aload_n 45 hZ 0 dX8_take_44 rfl rfl rfl ?_
        refine g_X8_167 48 hZ dX8_take_45 rfl ?_
        refine r_if_eq 164 51 hZ dX8_take_48 (by decide) rfl (fun c_48 => ?_) (fun c_48 => ?_)
        · skip
          exact hret _ _ _ dX8_take_164 rfl
        · skip
          exact absurd c_48 (show ¬ ¬ ((0 : Int32) = (0 : Int32)) by decide)
  · skip
    exact absurd (show nI S < nI 2 from nI_lt hlt (by decide)) c_9
theorem tB1 {τ : stT} {ρ : rtT} {S : Nat} (h : 1 ≤ S) : tB τ ρ 1 S = bO1 (fun a => farF τ ρ 0 a + 0) S := if_pos h
theorem tB2 {τ : stT} {ρ : rtT} {S : Nat} (h : 2 ≤ S) : tB τ ρ 2 S = bO2 (fun a b => farF τ ρ 0 a + farF τ ρ 1 b) S S := if_pos h
set_option maxHeartbeats 4000000 in
set_option maxRecDepth 100000 in
theorem c_X8_take_1 (l : Launch) (g : va_G) (y : Nat → ClassId) (ad : Nat → Nat) (τ : Nat → Nat → Int32) (ρ : Nat → Nat → Int64) {S : Nat} (hS : τ 0 6 = nI S) (hS6 : S ≤ 6) (hle : 1 ≤ S) (hr8 : τ 0 8 = 1) (h0 : okL (τ 8 0) 40) : w_C l g y yX8_take cX8_take 6 none 4 [.ref (ad 0)] (rw ad y τ ρ) none (rw ad y (tkτ (up τ 0 9 1) (tB τ ρ 1 S)) (tkρ (upL ρ 0 0 0) (tB τ ρ 1 S))) := by
  refine w_ofV (lv0 := [(0, .ref (ad 0))]) (by decide +kernel) (Nat.le_of_ble_eq_true rfl) rfl ?_
  intro Z hZ hret
  refine r_aload_n 1 hZ 0 dX8_take_0 rfl rfl rfl ?_
  refine r_aload_n 2 hZ 0 dX8_take_1 rfl rfl rfl ?_
  refine g_X8_136 5 hZ dX8_take_2 rfl ?_
  refine w_eqI (hS) ?_
  refine r_aload_n 6 hZ 0 dX8_take_5 rfl rfl rfl ?_
  refine g_X8_157 9 hZ dX8_take_6 rfl ?_
  refine w_eqI (hr8) ?_
  refine r_icmp_lt 16 12 hZ dX8_take_9 (by decide) rfl (fun c_9 => ?_) (fun c_9 => ?_)
  · skip
    exact absurd c_9 (show ¬ nI S < nI 1 from nI_nlt hle (by omega))
  · skip
    refine r_iconst (v := 1) 13 hZ dX8_take_12 rfl (by decide) ?_
    refine r_goto 17 hZ dX8_take_13 (by decide) ?_
    refine p_X8_167 20 hZ (by first | exact Or.inl rfl | exact Or.inr rfl) dX8_take_17 rfl ?_
    refine r_aload_n 21 hZ 0 dX8_take_20 rfl rfl rfl ?_
    refine r_lconst (v := 0) 22 hZ dX8_take_21 rfl (by decide) ?_
    refine p_X8_170 25 hZ dX8_take_22 rfl ?_
    refine r_iconst (v := 0) 26 hZ dX8_take_25 rfl (by decide) ?_
    refine r_istnN 27 [(0, _), (1, _)] hZ dX8_take_26 rfl rfl (by decide) rfl rfl ?_
    refine r_iconst (v := 0) 28 hZ dX8_take_27 rfl (by decide) ?_
    refine r_istnN 29 [(0, _), (1, _), (2, _)] hZ dX8_take_28 rfl rfl (by decide) rfl rfl ?_
    have lp_29 : ∀ (n : Nat) (a : Nat) (o : TB) (x1 : Int32) (t : stT) (r : rtT), a ≤ S → S + 1 ≤ a + n → t = tkτ (up τ 0 9 1) o → r = tkρ (upL ρ 0 0 0) o → x1 = bI (o.isSome = true) → bO1 (fun a => farF τ ρ 0 a + 0) a = o → Z 0 0 (rw ad y t r) 29 [(0, .ref (ad 0)), (1, .int x1), (2, .int (nI a))] [] := by
      intro n
      induction n with
      | zero => intro a o x1 t r h1 hn_29 ht hr hx1 ho; exact absurd hn_29 (by omega)
      | succ n ih_29 =>
        intro a o x1 t r h1 hn_29 ht hr hx1 ho
        have e0 : t 0 = up τ 0 9 1 0 := by rw [ht, tkτ_k _ 0 (by decide)]
        have e8 : t 8 = τ 8 := by rw [ht, tkτ_k _ 8 (by decide)]; rfl
        have ef : ∀ j s, farF t r j s = farF τ ρ j s := fun j s => by rw [ht, hr, farF_tk]; rfl
        refine r_iload_n 30 hZ 2 dX8_take_29 rfl rfl rfl ?_
        refine r_aload_n 31 hZ 0 dX8_take_30 rfl rfl rfl ?_
        refine g_X8_136 34 hZ dX8_take_31 rfl ?_
        refine w_eqI ((congrFun e0 6).trans hS) ?_
        refine r_icmp_ge 164 37 hZ dX8_take_34 (by decide) rfl (fun c_34 => ?_) (fun c_34 => ?_)
        · skip
          have ha := nI_leq (by omega) (by omega) c_34
          have ha : a = S := by omega
          subst ha
          have hB : tB τ ρ 1 a = o := by rw [tB1 hle, ho]
          rw [hB, ← ht, ← hr] at hret
          exact hret _ _ _ dX8_take_164 rfl
        · skip
          have ha := nI_nleq (by omega) (by omega) c_34
          refine r_aload_n 38 hZ 0 dX8_take_37 rfl rfl rfl ?_
          refine g_X8_157 41 hZ dX8_take_38 rfl ?_
          refine w_eqI ((congrFun e0 8).trans hr8) ?_
          refine r_if_le 164 44 hZ dX8_take_41 (by decide) rfl (fun c_41 => ?_) (fun c_41 => ?_)
          · skip
            exact absurd c_41 (show ¬ ((1 : Int32) ≤ (0 : Int32)) by decide)
          · skip
            refine r_aload_n 45 hZ 0 dX8_take_44 rfl rfl rfl ?_
            refine g_X8_167 48 hZ dX8_take_45 rfl ?_
            refine w_eqI ((congrFun e0 9).trans (show up τ 0 9 1 0 9 = 1 from rfl)) ?_
            refine r_if_eq 164 51 hZ dX8_take_48 (by decide) rfl (fun c_48 => ?_) (fun c_48 => ?_)
            · skip
              exact absurd c_48 (show ¬ ((1 : Int32) = (0 : Int32)) by decide)
            · skip
              refine r_iconst (v := 0) 52 hZ dX8_take_51 rfl (by decide) ?_
              refine r_istnN 53 [(0, _), (1, _), (2, _), (3, _)] hZ dX8_take_52 rfl rfl (by decide) rfl rfl ?_
              refine r_iload_n 54 hZ 3 dX8_take_53 rfl rfl rfl ?_
              refine r_aload_n 55 hZ 0 dX8_take_54 rfl rfl rfl ?_
              refine g_X8_157 58 hZ dX8_take_55 rfl ?_
              refine w_eqI ((congrFun e0 8).trans hr8) ?_
              refine r_iconst (v := 2) 59 hZ dX8_take_58 rfl (by decide) ?_
              refine r_icmp_ne 69 62 hZ dX8_take_59 (by decide) rfl (fun c_59 => ?_) (fun c_59 => ?_)
              · skip
                refine r_iconst (v := 1) 70 hZ dX8_take_69 rfl (by decide) ?_
                refine r_icmp_ge 158 73 hZ dX8_take_70 (by decide) rfl (fun c_70 => ?_) (fun c_70 => ?_)
                · skip
                  exact absurd c_70 (show ¬ ((1 : Int32) ≤ (0 : Int32)) by decide)
                · skip
                  refine r_aload_n 74 hZ 0 dX8_take_73 rfl rfl rfl ?_
                  refine g_X8_157 77 hZ dX8_take_74 rfl ?_
                  refine w_eqI ((congrFun e0 8).trans hr8) ?_
                  refine r_iconst (v := 2) 78 hZ dX8_take_77 rfl (by decide) ?_
                  refine r_icmp_ne 89 81 hZ dX8_take_78 (by decide) rfl (fun c_78 => ?_) (fun c_78 => ?_)
                  · skip
                    refine r_aload_n 90 hZ 0 dX8_take_89 rfl rfl rfl ?_
                    refine r_iconst (v := 0) 91 hZ dX8_take_90 rfl (by decide) ?_
                    refine r_iload_n 92 hZ 2 dX8_take_91 rfl rfl rfl ?_
                    refine r_callVI (c_X8_far l g y ad t r (j := 0) (s := a) (by decide) (by omega) (by rw [e8]; exact h0)) wM_X8_far wL_X8_174 hZ rfl ⟨by decide, by decide⟩ 0 8 rfl rfl rfl rfl dX8_take_92 ?_
                    rw [ef]
                    refine r_aload_n 96 hZ 0 dX8_take_95 rfl rfl rfl ?_
                    refine g_X8_157 99 hZ dX8_take_96 rfl ?_
                    refine w_eqI ((congrFun e0 8).trans hr8) ?_
                    refine r_iconst (v := 2) 100 hZ dX8_take_99 rfl (by decide) ?_
                    refine r_icmp_ne 112 103 hZ dX8_take_100 (by decide) rfl (fun c_100 => ?_) (fun c_100 => ?_)
                    · skip
                      refine r_lconst (v := 0) 113 hZ dX8_take_112 rfl (by decide) ?_
                      refine r_ladd 114 hZ dX8_take_113 rfl ?_
                      refine r_lstN (q := 0) 116 [(0, _), (1, _), (2, _), (3, _), (4, _)] hZ dX8_take_114 rfl (by decide) rfl rfl ?_
                      refine r_iload_n 117 hZ 1 dX8_take_116 rfl rfl rfl ?_
                      refine r_if_eq 130 120 hZ dX8_take_117 (by decide) rfl (fun c_117 => ?_) (fun c_117 => ?_)
                      · skip
                        have hn : o = none := by cases q : o with | none => rfl | some v => rw [q] at hx1; rw [hx1] at c_117; exact absurd rfl (bI_0.mp c_117)
                        have hnew : o = none ∨ ∃ d x z, o = some (d, x, z) ∧ (farF τ ρ 0 a + 0) < d := Or.inl hn
                        refine r_iconst (v := 1) 131 hZ dX8_take_130 rfl (by decide) ?_
                        refine r_istn 132 1 [(0, _), (1, _), (2, _), (3, _), (4, _)] hZ dX8_take_131 rfl rfl (by decide) rfl rfl ?_
                        refine r_aload_n 133 hZ 0 dX8_take_132 rfl rfl rfl ?_
                        refine r_lload 135 hZ 4 dX8_take_133 rfl rfl ?_
                        refine p_X8_170 138 hZ dX8_take_135 rfl ?_
                        refine r_aload_n 139 hZ 0 dX8_take_138 rfl rfl rfl ?_
                        refine g_X8_54 142 hZ dX8_take_139 rfl ?_
                        refine r_iconst (v := 0) 143 hZ dX8_take_142 rfl (by decide) ?_
                        refine r_iload_n 144 hZ 2 dX8_take_143 rfl rfl rfl ?_
                        refine s_r11 145 hZ (by first | assumption | exact vp_in_nI (by omega) (by decide) | (unfold vp_in; decide)) dX8_take_144 rfl ?_
                        refine r_aload_n 146 hZ 0 dX8_take_145 rfl rfl rfl ?_
                        refine g_X8_54 149 hZ dX8_take_146 rfl ?_
                        refine r_iconst (v := 1) 150 hZ dX8_take_149 rfl (by decide) ?_
                        refine r_iload_n 151 hZ 3 dX8_take_150 rfl rfl rfl ?_
                        refine s_r11 152 hZ (by first | assumption | exact vp_in_nI (by omega) (by decide) | (unfold vp_in; decide)) dX8_take_151 rfl ?_
                        refine r_iinc 155 3 1 [(0, _), (1, _), (2, _), (3, _), (4, _)] hZ dX8_take_152 rfl rfl (by decide) (by decide) rfl rfl ?_
                        refine r_goto 53 hZ dX8_take_155 (by decide) ?_
                        refine r_iload_n 54 hZ 3 dX8_take_53 rfl rfl rfl ?_
                        refine r_aload_n 55 hZ 0 dX8_take_54 rfl rfl rfl ?_
                        refine g_X8_157 58 hZ dX8_take_55 rfl ?_
                        refine w_eqI ((congrFun e0 8).trans hr8) ?_
                        refine r_iconst (v := 2) 59 hZ dX8_take_58 rfl (by decide) ?_
                        refine r_icmp_ne 69 62 hZ dX8_take_59 (by decide) rfl (fun c_59 => ?_) (fun c_59 => ?_)
                        · skip
                          refine r_iconst (v := 1) 70 hZ dX8_take_69 rfl (by decide) ?_
                          refine r_icmp_ge 158 73 hZ dX8_take_70 (by decide) rfl (fun c_70 => ?_) (fun c_70 => ?_)
                          · skip
                            refine r_iinc 161 2 1 [(0, _), (1, _), (2, _), (3, _), (4, _)] hZ dX8_take_158 rfl rfl (by decide) (by decide) rfl rfl ?_
                            refine r_goto 29 hZ dX8_take_161 (by decide) ?_
                            rw [nI_1]
                            first | exact w_take 3 hZ (ih_29 (a + 1) o x1 t r (by omega) (by omega) ht hr hx1 (by rw [← hk, ← ho]; rfl)) | exact w_take 3 hZ (ih_29 (a + 1) (ofB (farF τ ρ 0 a + 0) a 0 o) 1 _ _ (by omega) (by omega) (by rw [← (tk_step (T := up τ 0 9 1) (P := upL ρ 0 0 0) (a := a) (b := 0) hnew).1, ← ht]; rfl) (by rw [← (tk_step (T := up τ 0 9 1) (P := upL ρ 0 0 0) (a := a) (b := 0) hnew).2, ← hr]) (bI_t (ofB_some _ _ _ _)).symm (by rw [← ho]; rfl))
                          · skip
                            exact absurd c_70 (show ¬ ¬ ((1 : Int32) ≤ (1 : Int32)) by decide)
                        · skip
                          exact absurd c_59 (show ¬ ((1 : Int32) = (2 : Int32)) by decide)
                      · skip
                        obtain ⟨⟨d, x, z⟩, hb⟩ : ∃ q, o = some q := by cases q : o with | none => rw [q] at hx1; rw [hx1] at c_117; exact absurd (bI_f (by decide)) c_117 | some v => exact ⟨v, rfl⟩
                        refine r_lload 122 hZ 4 dX8_take_120 rfl rfl ?_
                        refine r_aload_n 123 hZ 0 dX8_take_122 rfl rfl rfl ?_
                        refine g_X8_170 126 hZ dX8_take_123 rfl ?_
                        refine r_lcmp 127 hZ dX8_take_126 rfl ?_
                        refine r_if_ge 152 130 hZ dX8_take_127 (by decide) rfl (fun c_127 => ?_) (fun c_127 => ?_)
                        · skip
                          have hk : ofB ((farF τ ρ 0 a + 0)) a 0 o = o := by rw [hb]; exact ofB_k (fun q => absurd ((lg_cmp_lt _ _).mpr q) (Int32.not_lt.mpr (by have c := c_127; rw [hr, hb] at c; exact c)))
                          refine r_iinc 155 3 1 [(0, _), (1, _), (2, _), (3, _), (4, _)] hZ dX8_take_152 rfl rfl (by decide) (by decide) rfl rfl ?_
                          refine r_goto 53 hZ dX8_take_155 (by decide) ?_
                          refine r_iload_n 54 hZ 3 dX8_take_53 rfl rfl rfl ?_
                          refine r_aload_n 55 hZ 0 dX8_take_54 rfl rfl rfl ?_
                          refine g_X8_157 58 hZ dX8_take_55 rfl ?_
                          refine w_eqI ((congrFun e0 8).trans hr8) ?_
                          refine r_iconst (v := 2) 59 hZ dX8_take_58 rfl (by decide) ?_
                          refine r_icmp_ne 69 62 hZ dX8_take_59 (by decide) rfl (fun c_59 => ?_) (fun c_59 => ?_)
                          · skip
                            refine r_iconst (v := 1) 70 hZ dX8_take_69 rfl (by decide) ?_
                            refine r_icmp_ge 158 73 hZ dX8_take_70 (by decide) rfl (fun c_70 => ?_) (fun c_70 => ?_)
                            · skip
                              refine r_iinc 161 2 1 [(0, _), (1, _), (2, _), (3, _), (4, _)] hZ dX8_take_158 rfl rfl (by decide) (by decide) rfl rfl ?_
                              refine r_goto 29 hZ dX8_take_161 (by decide) ?_
                              rw [nI_1]
                              first | exact w_take 3 hZ (ih_29 (a + 1) o x1 t r (by omega) (by omega) ht hr hx1 (by rw [← hk, ← ho]; rfl)) | exact w_take 3 hZ (ih_29 (a + 1) (ofB (farF τ ρ 0 a + 0) a 0 o) 1 _ _ (by omega) (by omega) (by rw [← (tk_step (T := up τ 0 9 1) (P := upL ρ 0 0 0) (a := a) (b := 0) hnew).1, ← ht]; rfl) (by rw [← (tk_step (T := up τ 0 9 1) (P := upL ρ 0 0 0) (a := a) (b := 0) hnew).2, ← hr]) (bI_t (ofB_some _ _ _ _)).symm (by rw [← ho]; rfl))
                            · skip
                              exact absurd c_70 (show ¬ ¬ ((1 : Int32) ≤ (1 : Int32)) by decide)
                          · skip
                            exact absurd c_59 (show ¬ ((1 : Int32) = (2 : Int32)) by decide)
                        · skip
                          have hlt : (farF τ ρ 0 a + 0) < d := by have c := (lg_cmp_lt _ _).mp (Int32.not_le.mp c_127); rw [hr, hb] at c; exact c
                          have hnew : o = none ∨ ∃ d x z, o = some (d, x, z) ∧ (farF τ ρ 0 a + 0) < d := Or.inr ⟨d, x, z, hb, hlt⟩
                          refine r_iconst (v := 1) 131 hZ dX8_take_130 rfl (by decide) ?_
                          refine r_istn 132 1 [(0, _), (1, _), (2, _), (3, _), (4, _)] hZ dX8_take_131 rfl rfl (by decide) rfl rfl ?_
                          refine r_aload_n 133 hZ 0 dX8_take_132 rfl rfl rfl ?_
                          refine r_lload 135 hZ 4 dX8_take_133 rfl rfl ?_
                          refine p_X8_170 138 hZ dX8_take_135 rfl ?_
                          refine r_aload_n 139 hZ 0 dX8_take_138 rfl rfl rfl ?_
                          refine g_X8_54 142 hZ dX8_take_139 rfl ?_
                          refine r_iconst (v := 0) 143 hZ dX8_take_142 rfl (by decide) ?_
                          refine r_iload_n 144 hZ 2 dX8_take_143 rfl rfl rfl ?_
                          refine s_r11 145 hZ (by first | assumption | exact vp_in_nI (by omega) (by decide) | (unfold vp_in; decide)) dX8_take_144 rfl ?_
                          refine r_aload_n 146 hZ 0 dX8_take_145 rfl rfl rfl ?_
                          refine g_X8_54 149 hZ dX8_take_146 rfl ?_
                          refine r_iconst (v := 1) 150 hZ dX8_take_149 rfl (by decide) ?_
                          refine r_iload_n 151 hZ 3 dX8_take_150 rfl rfl rfl ?_
                          refine s_r11 152 hZ (by first | assumption | exact vp_in_nI (by omega) (by decide) | (unfold vp_in; decide)) dX8_take_151 rfl ?_
                          refine r_iinc 155 3 1 [(0, _), (1, _), (2, _), (3, _), (4, _)] hZ dX8_take_152 rfl rfl (by decide) (by decide) rfl rfl ?_
                          refine r_goto 53 hZ dX8_take_155 (by decide) ?_
                          refine r_iload_n 54 hZ 3 dX8_take_53 rfl rfl rfl ?_
                          refine r_aload_n 55 hZ 0 dX8_take_54 rfl rfl rfl ?_
                          refine g_X8_157 58 hZ dX8_take_55 rfl ?_
                          refine w_eqI ((congrFun e0 8).trans hr8) ?_
                          refine r_iconst (v := 2) 59 hZ dX8_take_58 rfl (by decide) ?_
                          refine r_icmp_ne 69 62 hZ dX8_take_59 (by decide) rfl (fun c_59 => ?_) (fun c_59 => ?_)
                          · skip
                            refine r_iconst (v := 1) 70 hZ dX8_take_69 rfl (by decide) ?_
                            refine r_icmp_ge 158 73 hZ dX8_take_70 (by decide) rfl (fun c_70 => ?_) (fun c_70 => ?_)
                            · skip
                              refine r_iinc 161 2 1 [(0, _), (1, _), (2, _), (3, _), (4, _)] hZ dX8_take_158 rfl rfl (by decide) (by decide) rfl rfl ?_
                              refine r_goto 29 hZ dX8_take_161 (by decide) ?_
                              rw [nI_1]
                              first | exact w_take 3 hZ (ih_29 (a + 1) o x1 t r (by omega) (by omega) ht hr hx1 (by rw [← hk, ← ho]; rfl)) | exact w_take 3 hZ (ih_29 (a + 1) (ofB (farF τ ρ 0 a + 0) a 0 o) 1 _ _ (by omega) (by omega) (by rw [← (tk_step (T := up τ 0 9 1) (P := upL ρ 0 0 0) (a := a) (b := 0) hnew).1, ← ht]; rfl) (by rw [← (tk_step (T := up τ 0 9 1) (P := upL ρ 0 0 0) (a := a) (b := 0) hnew).2, ← hr]) (bI_t (ofB_some _ _ _ _)).symm (by rw [← ho]; rfl))
                            · skip
                              exact absurd c_70 (show ¬ ¬ ((1 : Int32) ≤ (1 : Int32)) by decide)
                          · skip
                            exact absurd c_59 (show ¬ ((1 : Int32) = (2 : Int32)) by decide)
                    · skip
                      exact absurd c_100 (show ¬ ((1 : Int32) = (2 : Int32)) by decide)
                  · skip
                    exact absurd c_78 (show ¬ ((1 : Int32) = (2 : Int32)) by decide)
              · skip
                exact absurd c_59 (show ¬ ((1 : Int32) = (2 : Int32)) by decide)
    exact lp_29 (S + 1) 0 none 0 _ _ (by omega) (by omega) rfl rfl (bI_f (by decide)).symm rfl
set_option maxHeartbeats 4000000 in
set_option maxRecDepth 100000 in
theorem c_X8_take_2 (l : Launch) (g : va_G) (y : Nat → ClassId) (ad : Nat → Nat) (τ : Nat → Nat → Int32) (ρ : Nat → Nat → Int64) {S : Nat} (hS : τ 0 6 = nI S) (hS6 : S ≤ 6) (hle : 2 ≤ S) (hr8 : τ 0 8 = 2) (h0 : okL (τ 8 0) 40) (h1 : okL (τ 8 1) 40) : w_C l g y yX8_take cX8_take 6 none 4 [.ref (ad 0)] (rw ad y τ ρ) none (rw ad y (tkτ (up τ 0 9 1) (tB τ ρ 2 S)) (tkρ (upL ρ 0 0 0) (tB τ ρ 2 S))) := by
  refine w_ofV (lv0 := [(0, .ref (ad 0))]) (by decide +kernel) (Nat.le_of_ble_eq_true rfl) rfl ?_
  intro Z hZ hret
  refine r_aload_n 1 hZ 0 dX8_take_0 rfl rfl rfl ?_
  refine r_aload_n 2 hZ 0 dX8_take_1 rfl rfl rfl ?_
  refine g_X8_136 5 hZ dX8_take_2 rfl ?_
  refine w_eqI (hS) ?_
  refine r_aload_n 6 hZ 0 dX8_take_5 rfl rfl rfl ?_
  refine g_X8_157 9 hZ dX8_take_6 rfl ?_
  refine w_eqI (hr8) ?_
  refine r_icmp_lt 16 12 hZ dX8_take_9 (by decide) rfl (fun c_9 => ?_) (fun c_9 => ?_)
  · skip
    exact absurd c_9 (show ¬ nI S < nI 2 from nI_nlt hle (by omega))
  · skip
    refine r_iconst (v := 1) 13 hZ dX8_take_12 rfl (by decide) ?_
    refine r_goto 17 hZ dX8_take_13 (by decide) ?_
    refine p_X8_167 20 hZ (by first | exact Or.inl rfl | exact Or.inr rfl) dX8_take_17 rfl ?_
    refine r_aload_n 21 hZ 0 dX8_take_20 rfl rfl rfl ?_
    refine r_lconst (v := 0) 22 hZ dX8_take_21 rfl (by decide) ?_
    refine p_X8_170 25 hZ dX8_take_22 rfl ?_
    refine r_iconst (v := 0) 26 hZ dX8_take_25 rfl (by decide) ?_
    refine r_istnN 27 [(0, _), (1, _)] hZ dX8_take_26 rfl rfl (by decide) rfl rfl ?_
    refine r_iconst (v := 0) 28 hZ dX8_take_27 rfl (by decide) ?_
    refine r_istnN 29 [(0, _), (1, _), (2, _)] hZ dX8_take_28 rfl rfl (by decide) rfl rfl ?_
    have lp_29 : ∀ (n : Nat) (a : Nat) (o : TB) (x1 : Int32) (t : stT) (r : rtT), a ≤ S → S + 1 ≤ a + n → t = tkτ (up τ 0 9 1) o → r = tkρ (upL ρ 0 0 0) o → x1 = bI (o.isSome = true) → bO2 (fun a b => farF τ ρ 0 a + farF τ ρ 1 b) S a = o → Z 0 0 (rw ad y t r) 29 [(0, .ref (ad 0)), (1, .int x1), (2, .int (nI a))] [] := by
      intro n
      induction n with
      | zero => intro a o x1 t r ha1 hn_29 ht hr hx1 ho; exact absurd hn_29 (by omega)
      | succ n ih_29 =>
        intro a o x1 t r ha1 hn_29 ht hr hx1 ho
        have e0 : t 0 = up τ 0 9 1 0 := by rw [ht, tkτ_k _ 0 (by decide)]
        have e8 : t 8 = τ 8 := by rw [ht, tkτ_k _ 8 (by decide)]; rfl
        have ef : ∀ j s, farF t r j s = farF τ ρ j s := fun j s => by rw [ht, hr, farF_tk]; rfl
        refine r_iload_n 30 hZ 2 dX8_take_29 rfl rfl rfl ?_
        refine r_aload_n 31 hZ 0 dX8_take_30 rfl rfl rfl ?_
        refine g_X8_136 34 hZ dX8_take_31 rfl ?_
        refine w_eqI ((congrFun e0 6).trans hS) ?_
        refine r_icmp_ge 164 37 hZ dX8_take_34 (by decide) rfl (fun c_34 => ?_) (fun c_34 => ?_)
        · skip
          have ha := nI_leq (by omega) (by omega) c_34
          have ha : a = S := by omega
          subst ha
          have hB : tB τ ρ 2 a = o := by rw [tB2 hle, ho]
          rw [hB, ← ht, ← hr] at hret
          exact hret _ _ _ dX8_take_164 rfl
        · skip
          have ha := nI_nleq (by omega) (by omega) c_34
          refine r_aload_n 38 hZ 0 dX8_take_37 rfl rfl rfl ?_
          refine g_X8_157 41 hZ dX8_take_38 rfl ?_
          refine w_eqI ((congrFun e0 8).trans hr8) ?_
          refine r_if_le 164 44 hZ dX8_take_41 (by decide) rfl (fun c_41 => ?_) (fun c_41 => ?_)
          · skip
            exact absurd c_41 (show ¬ ((2 : Int32) ≤ (0 : Int32)) by decide)
          · skip
            refine r_aload_n 45 hZ 0 dX8_take_44 rfl rfl rfl ?_
            refine g_X8_167 48 hZ dX8_take_45 rfl ?_
            refine w_eqI ((congrFun e0 9).trans (show up τ 0 9 1 0 9 = 1 from rfl)) ?_
            refine r_if_eq 164 51 hZ dX8_take_48 (by decide) rfl (fun c_48 => ?_) (fun c_48 => ?_)
            · skip
              exact absurd c_48 (show ¬ ((1 : Int32) = (0 : Int32)) by decide)
            · skip
              refine r_iconst (v := 0) 52 hZ dX8_take_51 rfl (by decide) ?_
              refine r_istnN 53 [(0, _), (1, _), (2, _), (3, _)] hZ dX8_take_52 rfl rfl (by decide) rfl rfl ?_
              have lp_53 : ∀ (q : Nat) (b : Nat) (o2 : TB) (x2 : Int32) (t2 : stT) (r2 : rtT), b ≤ S → S + 1 ≤ b + q → t2 = tkτ (up τ 0 9 1) o2 → r2 = tkρ (upL ρ 0 0 0) o2 → x2 = bI (o2.isSome = true) → bI2 (fun a b => farF τ ρ 0 a + farF τ ρ 1 b) a o b = o2 → Z 0 0 (rw ad y t2 r2) 53 [(0, .ref (ad 0)), (1, .int x2), (2, .int (nI a)), (3, .int (nI b))] [] := by
                intro q
                induction q with
                | zero => intro b o2 x2 t2 r2 hb1 hn_53 ht2 hr2 hx2 ho2; exact absurd hn_53 (by omega)
                | succ q ih_53 =>
                  intro b o2 x2 t2 r2 hb1 hn_53 ht2 hr2 hx2 ho2
                  have f0 : t2 0 = up τ 0 9 1 0 := by rw [ht2, tkτ_k _ 0 (by decide)]
                  have f8 : t2 8 = τ 8 := by rw [ht2, tkτ_k _ 8 (by decide)]; rfl
                  have ff : ∀ j s, farF t2 r2 j s = farF τ ρ j s := fun j s => by rw [ht2, hr2, farF_tk]; rfl
                  refine r_iload_n 54 hZ 3 dX8_take_53 rfl rfl rfl ?_
                  refine r_aload_n 55 hZ 0 dX8_take_54 rfl rfl rfl ?_
                  refine g_X8_157 58 hZ dX8_take_55 rfl ?_
                  refine w_eqI ((congrFun f0 8).trans hr8) ?_
                  refine r_iconst (v := 2) 59 hZ dX8_take_58 rfl (by decide) ?_
                  refine r_icmp_ne 69 62 hZ dX8_take_59 (by decide) rfl (fun c_59 => ?_) (fun c_59 => ?_)
                  · skip
                    exact absurd c_59 (show ¬ (¬ (2 : Int32) = (2 : Int32)) by decide)
                  · skip
                    refine r_aload_n 63 hZ 0 dX8_take_62 rfl rfl rfl ?_
                    refine g_X8_136 66 hZ dX8_take_63 rfl ?_
                    refine w_eqI ((congrFun f0 6).trans hS) ?_
                    refine r_goto 70 hZ dX8_take_66 (by decide) ?_
                    refine r_icmp_ge 158 73 hZ dX8_take_70 (by decide) rfl (fun c_70 => ?_) (fun c_70 => ?_)
                    · skip
                      have hb0 := nI_leq (by omega) (by omega) c_70
                      have hb0 : b = S := by omega
                      subst hb0
                      refine r_iinc 161 2 1 [(0, _), (1, _), (2, _), (3, _)] hZ dX8_take_158 rfl rfl (by decide) (by decide) rfl rfl ?_
                      refine r_goto 29 hZ dX8_take_161 (by decide) ?_
                      rw [nI_1]
                      exact w_take 3 hZ (ih_29 (a + 1) o2 x2 t2 r2 (by omega) (by omega) ht2 hr2 hx2 (by rw [← ho2, ← ho]; rfl))
                    · skip
                      have hb0 := nI_nleq (by omega) (by omega) c_70
                      refine r_aload_n 74 hZ 0 dX8_take_73 rfl rfl rfl ?_
                      refine g_X8_157 77 hZ dX8_take_74 rfl ?_
                      refine w_eqI ((congrFun f0 8).trans hr8) ?_
                      refine r_iconst (v := 2) 78 hZ dX8_take_77 rfl (by decide) ?_
                      refine r_icmp_ne 89 81 hZ dX8_take_78 (by decide) rfl (fun c_78 => ?_) (fun c_78 => ?_)
                      · skip
                        exact absurd c_78 (show ¬ (¬ (2 : Int32) = (2 : Int32)) by decide)
                      · skip
                        refine r_iload_n 82 hZ 2 dX8_take_81 rfl rfl rfl ?_
                        refine r_iload_n 83 hZ 3 dX8_take_82 rfl rfl rfl ?_
                        refine r_icmp_ne 89 86 hZ dX8_take_83 (by decide) rfl (fun c_83 => ?_) (fun c_83 => ?_)
                        · skip
                          have hab : ¬ a = b := fun q => c_83 (by rw [q])
                          refine r_aload_n 90 hZ 0 dX8_take_89 rfl rfl rfl ?_
                          refine r_iconst (v := 0) 91 hZ dX8_take_90 rfl (by decide) ?_
                          refine r_iload_n 92 hZ 2 dX8_take_91 rfl rfl rfl ?_
                          refine r_callVI (c_X8_far l g y ad t2 r2 (j := 0) (s := a) (by decide) (by omega) (by rw [f8]; exact h0)) wM_X8_far wL_X8_174 hZ rfl ⟨by decide, by decide⟩ 0 8 rfl rfl rfl rfl dX8_take_92 ?_
                          rw [ff]
                          refine r_aload_n 96 hZ 0 dX8_take_95 rfl rfl rfl ?_
                          refine g_X8_157 99 hZ dX8_take_96 rfl ?_
                          refine w_eqI ((congrFun f0 8).trans hr8) ?_
                          refine r_iconst (v := 2) 100 hZ dX8_take_99 rfl (by decide) ?_
                          refine r_icmp_ne 112 103 hZ dX8_take_100 (by decide) rfl (fun c_100 => ?_) (fun c_100 => ?_)
                          · skip
                            exact absurd c_100 (show ¬ (¬ (2 : Int32) = (2 : Int32)) by decide)
                          · skip
                            refine r_aload_n 104 hZ 0 dX8_take_103 rfl rfl rfl ?_
                            refine r_iconst (v := 1) 105 hZ dX8_take_104 rfl (by decide) ?_
                            refine r_iload_n 106 hZ 3 dX8_take_105 rfl rfl rfl ?_
                            refine r_callVI (c_X8_far l g y ad t2 r2 (j := 1) (s := b) (by decide) (by omega) (by rw [f8]; exact h1)) wM_X8_far wL_X8_174 hZ rfl ⟨by decide, by decide⟩ 0 8 rfl rfl rfl rfl dX8_take_106 ?_
                            rw [ff]
                            refine r_goto 113 hZ dX8_take_109 (by decide) ?_
                            refine r_ladd 114 hZ dX8_take_113 rfl ?_
                            refine r_lstN (q := 0) 116 [(0, _), (1, _), (2, _), (3, _), (4, _)] hZ dX8_take_114 rfl (by decide) rfl rfl ?_
                            refine r_iload_n 117 hZ 1 dX8_take_116 rfl rfl rfl ?_
                            refine r_if_eq 130 120 hZ dX8_take_117 (by decide) rfl (fun c_117 => ?_) (fun c_117 => ?_)
                            · skip
                              have hn : o2 = none := by cases q : o2 with | none => rfl | some v => rw [q] at hx2; rw [hx2] at c_117; exact absurd rfl (bI_0.mp c_117)
                              have hnew : o2 = none ∨ ∃ d x z, o2 = some (d, x, z) ∧ (farF τ ρ 0 a + farF τ ρ 1 b) < d := Or.inl hn
                              refine r_iconst (v := 1) 131 hZ dX8_take_130 rfl (by decide) ?_
                              refine r_istn 132 1 [(0, _), (1, _), (2, _), (3, _), (4, _)] hZ dX8_take_131 rfl rfl (by decide) rfl rfl ?_
                              refine r_aload_n 133 hZ 0 dX8_take_132 rfl rfl rfl ?_
                              refine r_lload 135 hZ 4 dX8_take_133 rfl rfl ?_
                              refine p_X8_170 138 hZ dX8_take_135 rfl ?_
                              refine r_aload_n 139 hZ 0 dX8_take_138 rfl rfl rfl ?_
                              refine g_X8_54 142 hZ dX8_take_139 rfl ?_
                              refine r_iconst (v := 0) 143 hZ dX8_take_142 rfl (by decide) ?_
                              refine r_iload_n 144 hZ 2 dX8_take_143 rfl rfl rfl ?_
                              refine s_r11 145 hZ (by first | assumption | exact vp_in_nI (by omega) (by decide) | (unfold vp_in; decide)) dX8_take_144 rfl ?_
                              refine r_aload_n 146 hZ 0 dX8_take_145 rfl rfl rfl ?_
                              refine g_X8_54 149 hZ dX8_take_146 rfl ?_
                              refine r_iconst (v := 1) 150 hZ dX8_take_149 rfl (by decide) ?_
                              refine r_iload_n 151 hZ 3 dX8_take_150 rfl rfl rfl ?_
                              refine s_r11 152 hZ (by first | assumption | exact vp_in_nI (by omega) (by decide) | (unfold vp_in; decide)) dX8_take_151 rfl ?_
                              refine r_iinc 155 3 1 [(0, _), (1, _), (2, _), (3, _), (4, _)] hZ dX8_take_152 rfl rfl (by decide) (by decide) rfl rfl ?_
                              refine r_goto 53 hZ dX8_take_155 (by decide) ?_
                              rw [nI_1]
                              first | exact w_take 4 hZ (ih_53 (b + 1) o2 x2 t2 r2 (by omega) (by omega) ht2 hr2 hx2 (by rw [bI2_t hab]; exact ho2)) | exact w_take 4 hZ (ih_53 (b + 1) o2 x2 t2 r2 (by omega) (by omega) ht2 hr2 hx2 (by rw [bI2_f hab, ho2]; exact hk)) | exact w_take 4 hZ (ih_53 (b + 1) (ofB (farF τ ρ 0 a + farF τ ρ 1 b) a b o2) 1 _ _ (by omega) (by omega) (by rw [← (tk_step (T := up τ 0 9 1) (P := upL ρ 0 0 0) (a := a) (b := b) hnew).1, ← ht2]; rfl) (by rw [← (tk_step (T := up τ 0 9 1) (P := upL ρ 0 0 0) (a := a) (b := b) hnew).2, ← hr2]) (bI_t (ofB_some _ _ _ _)).symm (by rw [bI2_f hab, ho2]))
                            · skip
                              obtain ⟨⟨d, x, z⟩, hb⟩ : ∃ q, o2 = some q := by cases q : o2 with | none => rw [q] at hx2; rw [hx2] at c_117; exact absurd (bI_f (by decide)) c_117 | some v => exact ⟨v, rfl⟩
                              refine r_lload 122 hZ 4 dX8_take_120 rfl rfl ?_
                              refine r_aload_n 123 hZ 0 dX8_take_122 rfl rfl rfl ?_
                              refine g_X8_170 126 hZ dX8_take_123 rfl ?_
                              refine r_lcmp 127 hZ dX8_take_126 rfl ?_
                              refine r_if_ge 152 130 hZ dX8_take_127 (by decide) rfl (fun c_127 => ?_) (fun c_127 => ?_)
                              · skip
                                have hk : ofB ((farF τ ρ 0 a + farF τ ρ 1 b)) a b o2 = o2 := by rw [hb]; exact ofB_k (fun q => absurd ((lg_cmp_lt _ _).mpr q) (Int32.not_lt.mpr (by have c := c_127; rw [hr2, hb] at c; exact c)))
                                refine r_iinc 155 3 1 [(0, _), (1, _), (2, _), (3, _), (4, _)] hZ dX8_take_152 rfl rfl (by decide) (by decide) rfl rfl ?_
                                refine r_goto 53 hZ dX8_take_155 (by decide) ?_
                                rw [nI_1]
                                first | exact w_take 4 hZ (ih_53 (b + 1) o2 x2 t2 r2 (by omega) (by omega) ht2 hr2 hx2 (by rw [bI2_t hab]; exact ho2)) | exact w_take 4 hZ (ih_53 (b + 1) o2 x2 t2 r2 (by omega) (by omega) ht2 hr2 hx2 (by rw [bI2_f hab, ho2]; exact hk)) | exact w_take 4 hZ (ih_53 (b + 1) (ofB (farF τ ρ 0 a + farF τ ρ 1 b) a b o2) 1 _ _ (by omega) (by omega) (by rw [← (tk_step (T := up τ 0 9 1) (P := upL ρ 0 0 0) (a := a) (b := b) hnew).1, ← ht2]; rfl) (by rw [← (tk_step (T := up τ 0 9 1) (P := upL ρ 0 0 0) (a := a) (b := b) hnew).2, ← hr2]) (bI_t (ofB_some _ _ _ _)).symm (by rw [bI2_f hab, ho2]))
                              · skip
                                have hlt : (farF τ ρ 0 a + farF τ ρ 1 b) < d := by have c := (lg_cmp_lt _ _).mp (Int32.not_le.mp c_127); rw [hr2, hb] at c; exact c
                                have hnew : o2 = none ∨ ∃ d x z, o2 = some (d, x, z) ∧ (farF τ ρ 0 a + farF τ ρ 1 b) < d := Or.inr ⟨d, x, z, hb, hlt⟩
                                refine r_iconst (v := 1) 131 hZ dX8_take_130 rfl (by decide) ?_
                                refine r_istn 132 1 [(0, _), (1, _), (2, _), (3, _), (4, _)] hZ dX8_take_131 rfl rfl (by decide) rfl rfl ?_
                                refine r_aload_n 133 hZ 0 dX8_take_132 rfl rfl rfl ?_
                                refine r_lload 135 hZ 4 dX8_take_133 rfl rfl ?_
                                refine p_X8_170 138 hZ dX8_take_135 rfl ?_
                                refine r_aload_n 139 hZ 0 dX8_take_138 rfl rfl rfl ?_
                                refine g_X8_54 142 hZ dX8_take_139 rfl ?_
                                refine r_iconst (v := 0) 143 hZ dX8_take_142 rfl (by decide) ?_
                                refine r_iload_n 144 hZ 2 dX8_take_143 rfl rfl rfl ?_
                                refine s_r11 145 hZ (by first | assumption | exact vp_in_nI (by omega) (by decide) | (unfold vp_in; decide)) dX8_take_144 rfl ?_
                                refine r_aload_n 146 hZ 0 dX8_take_145 rfl rfl rfl ?_
                                refine g_X8_54 149 hZ dX8_take_146 rfl ?_
                                refine r_iconst (v := 1) 150 hZ dX8_take_149 rfl (by decide) ?_
                                refine r_iload_n 151 hZ 3 dX8_take_150 rfl rfl rfl ?_
                                refine s_r11 152 hZ (by first | assumption | exact vp_in_nI (by omega) (by decide) | (unfold vp_in; decide)) dX8_take_151 rfl ?_
                                refine r_iinc 155 3 1 [(0, _), (1, _), (2, _), (3, _), (4, _)] hZ dX8_take_152 rfl rfl (by decide) (by decide) rfl rfl ?_
                                refine r_goto 53 hZ dX8_take_155 (by decide) ?_
                                rw [nI_1]
                                first | exact w_take 4 hZ (ih_53 (b + 1) o2 x2 t2 r2 (by omega) (by omega) ht2 hr2 hx2 (by rw [bI2_t hab]; exact ho2)) | exact w_take 4 hZ (ih_53 (b + 1) o2 x2 t2 r2 (by omega) (by omega) ht2 hr2 hx2 (by rw [bI2_f hab, ho2]; exact hk)) | exact w_take 4 hZ (ih_53 (b + 1) (ofB (farF τ ρ 0 a + farF τ ρ 1 b) a b o2) 1 _ _ (by omega) (by omega) (by rw [← (tk_step (T := up τ 0 9 1) (P := upL ρ 0 0 0) (a := a) (b := b) hnew).1, ← ht2]; rfl) (by rw [← (tk_step (T := up τ 0 9 1) (P := upL ρ 0 0 0) (a := a) (b := b) hnew).2, ← hr2]) (bI_t (ofB_some _ _ _ _)).symm (by rw [bI2_f hab, ho2]))
                        · skip
                          have hab : a = b := nI_eqq (by omega) (by omega) c_83
                          refine r_goto 152 hZ dX8_take_86 (by decide) ?_
                          refine r_iinc 155 3 1 [(0, _), (1, _), (2, _), (3, _)] hZ dX8_take_152 rfl rfl (by decide) (by decide) rfl rfl ?_
                          refine r_goto 53 hZ dX8_take_155 (by decide) ?_
                          rw [nI_1]
                          first | exact w_take 4 hZ (ih_53 (b + 1) o2 x2 t2 r2 (by omega) (by omega) ht2 hr2 hx2 (by rw [bI2_t hab]; exact ho2)) | exact w_take 4 hZ (ih_53 (b + 1) o2 x2 t2 r2 (by omega) (by omega) ht2 hr2 hx2 (by rw [bI2_f hab, ho2]; exact hk)) | exact w_take 4 hZ (ih_53 (b + 1) (ofB (farF τ ρ 0 a + farF τ ρ 1 b) a b o2) 1 _ _ (by omega) (by omega) (by rw [← (tk_step (T := up τ 0 9 1) (P := upL ρ 0 0 0) (a := a) (b := b) hnew).1, ← ht2]; rfl) (by rw [← (tk_step (T := up τ 0 9 1) (P := upL ρ 0 0 0) (a := a) (b := b) hnew).2, ← hr2]) (bI_t (ofB_some _ _ _ _)).symm (by rw [bI2_f hab, ho2]))
              exact lp_53 (S + 1) 0 o x1 t r (by omega) (by omega) ht hr hx1 rfl
    exact lp_29 (S + 1) 0 none 0 _ _ (by omega) (by omega) rfl rfl (bI_f (by decide)).symm rfl
def r7 (τ : stT) : stT := up (up τ 0 0 0) 0 7 0
noncomputable def ruA (τ : stT) (N G : Nat) : stT := up (up (q1R N G 0 N (up (up (r7 τ) 0 7 0) 0 8 0)).2 0 7 0) 0 8 1
theorem Rs.c0 {τ : stT} {N G : Nat} (h : Rs τ N G) (i : Nat) (v : Int32) (h1 : i ≠ 1) (h5 : i ≠ 5) : Rs (up τ 0 i v) N G := by
  obtain ⟨a, b, c⟩ := h
  exact ⟨by show upd _ _ _ 1 = _; unfold upd; rw [if_neg (fun q => h1 q.symm)]; exact a, by show upd _ _ _ 5 = _; unfold upd; rw [if_neg (fun q => h5 q.symm)]; exact b, c⟩
theorem Rs_q1R {N G : Nat} : ∀ (c n : Nat) (t : stT), n + c ≤ N → Rs t N G → Rs (q1R N G n c t).2 N G ∧ Lr t (q1R N G n c t).2
  | 0, _, t, _, h => ⟨h, Lr.rf t⟩
  | c + 1, n, t, hb, h => by
    by_cases hf : frP t n
    · obtain ⟨q1, q2⟩ := Rs_s1R (by omega) h hf.1
      by_cases hr : (s1R N G n t).1 = true
      · rw [q1R_t hf hr]; exact ⟨q1, q2⟩
      · rw [q1R_f hf hr]
        obtain ⟨q3, q4⟩ := Rs_q1R c (n + 1) _ (by omega) q1
        exact ⟨q3, q2.tr q4⟩
    · rw [q1R_k hf]; exact Rs_q1R c (n + 1) t (by omega) h
theorem Rs_q2I {N G n : Nat} (hn : n < N) : ∀ (c m : Nat) (t : stT), m + c ≤ N → Rs t N G → t 1 n = 2 → Rs (q2I N G n m c t).2 N G ∧ Lr t (q2I N G n m c t).2
  | 0, _, t, _, h, _ => ⟨h, Lr.rf t⟩
  | c + 1, m, t, hb, h, ho => by
    by_cases hf : frP t m
    · obtain ⟨q1, q2⟩ := Rs_s3R hn (by omega) h ho hf.1
      by_cases hr : (s3R N G n m t).1 = true
      · rw [q2I_t hf hr]; exact ⟨q1, q2⟩
      · rw [q2I_f hf hr]
        obtain ⟨q3, q4⟩ := Rs_q2I hn c (m + 1) _ (by omega) q1 ((congrFun (q2 1 (by decide) (by decide) (by decide) (by decide) (by decide) (by decide)) n).trans ho)
        exact ⟨q3, q2.tr q4⟩
    · rw [q2I_k hf]; exact Rs_q2I hn c (m + 1) t (by omega) h ho
theorem Rs_q2O {N G : Nat} : ∀ (c n : Nat) (t : stT), n + c ≤ N → Rs t N G → Rs (q2O N G n c t).2 N G ∧ Lr t (q2O N G n c t).2
  | 0, _, t, _, h => ⟨h, Lr.rf t⟩
  | c + 1, n, t, hb, h => by
    by_cases hf : frP t n
    · obtain ⟨q1, q2⟩ := Rs_q2I (by omega) (N - (n + 1)) (n + 1) t (by omega) h hf.1
      by_cases hr : (q2I N G n (n + 1) (N - (n + 1)) t).1 = true
      · rw [q2O_t hf hr]; exact ⟨q1, q2⟩
      · rw [q2O_f hf hr]
        obtain ⟨q3, q4⟩ := Rs_q2O c (n + 1) _ (by omega) q1
        exact ⟨q3, q2.tr q4⟩
    · rw [q2O_k hf]; exact Rs_q2O c (n + 1) t (by omega) h
/-- where the reference's run ends, r edits found -/
noncomputable def ruE (τ : stT) (N G : Nat) : Nat → stT
  | 0 => up (up (r7 τ) 0 7 1) 0 8 0
  | 1 => up (up (q1R N G 0 N (up (up (r7 τ) 0 7 0) 0 8 0)).2 0 7 1) 0 8 1
  | _ => up (up (q2O N G 0 N (ruA τ N G)).2 0 7 1) 0 8 2
/-- .. or none, so many at most -/
noncomputable def ruN (τ : stT) (N G : Nat) : Nat → stT
  | 0 => up (up (r7 τ) 0 7 0) 0 8 0
  | 1 => ruA τ N G
  | _ => up (up (q2O N G 0 N (ruA τ N G)).2 0 7 0) 0 8 2
/-- found at r edits -/
def ruP (τ : stT) (N G : Nat) : Nat → Prop
  | 0 => apP τ G
  | 1 => (q1R N G 0 N (up (up (r7 τ) 0 7 0) 0 8 0)).1 = true
  | _ => (q2O N G 0 N (ruA τ N G)).1 = true
set_option maxHeartbeats 4000000 in
set_option maxRecDepth 100000 in
theorem c_X8_run_1 (l : Launch) (g : va_G) (y : Nat → ClassId) (ad : Nat → Nat) (τ : Nat → Nat → Int32) (ρ : Nat → Nat → Int64) (x : Int32) (h : ¬ okL x 3) : w_C l g y yX8_run cX8_run 3 (some .int) 8 [.ref (ad 0), .int x] (rw ad y τ ρ) (some (.int 0)) (rw ad y (up τ 0 0 1) ρ) := by
  refine w_ofI (lv0 := [(0, .ref (ad 0)), (1, .int x)]) (by decide +kernel) (Nat.le_of_ble_eq_true rfl) rfl (rfl) ?_
  intro Z hZ hret
  refine r_aload_n 1 hZ 0 dX8_run_0 rfl rfl rfl ?_
  refine r_iload_n 2 hZ 1 dX8_run_1 rfl rfl rfl ?_
  refine r_if_lt 14 5 hZ dX8_run_2 (by decide) rfl (fun c_2 => ?_) (fun c_2 => ?_)
  · skip
    refine r_iconst (v := 1) 15 hZ dX8_run_14 rfl (by decide) ?_
    refine p_X8_72 18 hZ dX8_run_15 rfl ?_
    refine r_aload_n 19 hZ 0 dX8_run_18 rfl rfl rfl ?_
    refine g_X8_72 22 hZ dX8_run_19 rfl ?_
    refine r_if_le 27 25 hZ dX8_run_22 (by decide) rfl (fun c_22 => ?_) (fun c_22 => ?_)
    · skip
      exact absurd c_22 (show ¬ ((1 : Int32) ≤ (0 : Int32)) by decide)
    · skip
      refine r_iconst (v := 0) 26 hZ dX8_run_25 rfl (by decide) ?_
      exact hret _ _ _ _ dX8_run_26 rfl rfl
  · skip
    refine r_iload_n 6 hZ 1 dX8_run_5 rfl rfl rfl ?_
    refine r_iconst (v := 2) 7 hZ dX8_run_6 rfl (by decide) ?_
    refine r_icmp_gt 14 10 hZ dX8_run_7 (by decide) rfl (fun c_7 => ?_) (fun c_7 => ?_)
    · skip
      refine r_iconst (v := 1) 15 hZ dX8_run_14 rfl (by decide) ?_
      refine p_X8_72 18 hZ dX8_run_15 rfl ?_
      refine r_aload_n 19 hZ 0 dX8_run_18 rfl rfl rfl ?_
      refine g_X8_72 22 hZ dX8_run_19 rfl ?_
      refine r_if_le 27 25 hZ dX8_run_22 (by decide) rfl (fun c_22 => ?_) (fun c_22 => ?_)
      · skip
        exact absurd c_22 (show ¬ ((1 : Int32) ≤ (0 : Int32)) by decide)
      · skip
        refine r_iconst (v := 0) 26 hZ dX8_run_25 rfl (by decide) ?_
        exact hret _ _ _ _ dX8_run_26 rfl rfl
    · skip
      exact absurd (is3 c_2 c_7) h
set_option maxHeartbeats 4000000 in
set_option maxRecDepth 100000 in
theorem c_X8_run_00_0 (l : Launch) (g : va_G) (y : Nat → ClassId) (ad : Nat → Nat) (τ : Nat → Nat → Int32) (ρ : Nat → Nat → Int64) {N G S : Nat} (hs : Rs τ N G) (hS : τ 0 6 = nI S) (hS6 : S ≤ 6) (p0 : ruP τ N G 0) : w_C l g y yX8_run cX8_run 3 (some .int) 8 [.ref (ad 0), .int 0] (rw ad y τ ρ) (some (.int 0)) (rw ad y (up (ruE τ N G 0) 0 9 1) (upL ρ 0 0 0)) := by
  refine w_ofI (lv0 := [(0, .ref (ad 0)), (1, .int 0)]) (by decide +kernel) (Nat.le_of_ble_eq_true rfl) rfl (rfl) ?_
  intro Z hZ hret
  have hs0 : Rs (r7 τ) N G := Rs.c0 (Rs.c0 hs 0 0 (by decide) (by decide)) 7 0 (by decide) (by decide)
  have e6 : (ruE τ N G 0) 0 6 = nI S := hS
  refine r_aload_n 1 hZ 0 dX8_run_0 rfl rfl rfl ?_
  refine r_iload_n 2 hZ 1 dX8_run_1 rfl rfl rfl ?_
  refine r_if_lt 14 5 hZ dX8_run_2 (by decide) rfl (fun c_2 => ?_) (fun c_2 => ?_)
  · skip
    exact absurd c_2 (show ¬ ((0 : Int32) < (0 : Int32)) by decide)
  · skip
    refine r_iload_n 6 hZ 1 dX8_run_5 rfl rfl rfl ?_
    refine r_iconst (v := 2) 7 hZ dX8_run_6 rfl (by decide) ?_
    refine r_icmp_gt 14 10 hZ dX8_run_7 (by decide) rfl (fun c_7 => ?_) (fun c_7 => ?_)
    · skip
      exact absurd c_7 (show ¬ ((2 : Int32) < (0 : Int32)) by decide)
    · skip
      refine r_iconst (v := 0) 11 hZ dX8_run_10 rfl (by decide) ?_
      refine r_goto 15 hZ dX8_run_11 (by decide) ?_
      refine p_X8_72 18 hZ dX8_run_15 rfl ?_
      refine r_aload_n 19 hZ 0 dX8_run_18 rfl rfl rfl ?_
      refine g_X8_72 22 hZ dX8_run_19 rfl ?_
      refine r_if_le 27 25 hZ dX8_run_22 (by decide) rfl (fun c_22 => ?_) (fun c_22 => ?_)
      · skip
        refine r_aload_n 28 hZ 0 dX8_run_27 rfl rfl rfl ?_
        refine r_iconst (v := 0) 29 hZ dX8_run_28 rfl (by decide) ?_
        refine p_X8_98 32 hZ (by first | exact Or.inl rfl | exact Or.inr rfl | exact bI_01 _) dX8_run_29 rfl ?_
        refine r_iconst (v := 0) 33 hZ dX8_run_32 rfl (by decide) ?_
        refine r_istnN 34 [(0, _), (1, _), (2, _)] hZ dX8_run_33 rfl rfl (by decide) rfl rfl ?_
        try rw [show (0 : Int32) + 1 = 1 from rfl]
        try rw [show (1 : Int32) + 1 = 2 from rfl]
        refine r_iload_n 35 hZ 2 dX8_run_34 rfl rfl rfl ?_
        refine r_iload_n 36 hZ 1 dX8_run_35 rfl rfl rfl ?_
        refine r_icmp_gt 66 39 hZ dX8_run_36 (by decide) rfl (fun c_36 => ?_) (fun c_36 => ?_)
        · skip
          exact absurd c_36 (show ¬ ((0 : Int32) < (0 : Int32)) by decide)
        · skip
          refine r_aload_n 40 hZ 0 dX8_run_39 rfl rfl rfl ?_
          refine g_X8_98 43 hZ dX8_run_40 rfl ?_
          refine r_if_ne 66 46 hZ dX8_run_43 (by decide) rfl (fun c_43 => ?_) (fun c_43 => ?_)
          · skip
            exact absurd c_43 (show ¬ (¬ (0 : Int32) = (0 : Int32)) by decide)
          · skip
            skip
            refine r_aload_n 47 hZ 0 dX8_run_46 rfl rfl rfl ?_
            refine r_aload_n 48 hZ 0 dX8_run_47 rfl rfl rfl ?_
            refine r_iload_n 49 hZ 2 dX8_run_48 rfl rfl rfl ?_
            refine r_callVI (c_X8_search_0 l g y ad (r7 τ) ρ hs0) wM_X8_search wL_X8_154 hZ rfl ⟨by decide, by decide⟩ 0 8 rfl rfl rfl rfl dX8_run_49 ?_
            refine w_eqI (bI_t p0) ?_
            refine p_X8_98 55 hZ (by first | exact Or.inl rfl | exact Or.inr rfl | exact bI_01 _) dX8_run_52 rfl ?_
            refine r_aload_n 56 hZ 0 dX8_run_55 rfl rfl rfl ?_
            refine r_iload_n 57 hZ 2 dX8_run_56 rfl rfl rfl ?_
            refine p_X8_157 60 hZ dX8_run_57 rfl ?_
            refine r_iinc 63 2 1 [(0, _), (1, _), (2, _)] hZ dX8_run_60 rfl rfl (by decide) (by decide) rfl rfl ?_
            refine r_goto 34 hZ dX8_run_63 (by decide) ?_
            try rw [show (0 : Int32) + 1 = 1 from rfl]
            try rw [show (1 : Int32) + 1 = 2 from rfl]
            refine r_iload_n 35 hZ 2 dX8_run_34 rfl rfl rfl ?_
            refine r_iload_n 36 hZ 1 dX8_run_35 rfl rfl rfl ?_
            refine r_icmp_gt 66 39 hZ dX8_run_36 (by decide) rfl (fun c_36 => ?_) (fun c_36 => ?_)
            · skip
              refine r_aload_n 67 hZ 0 dX8_run_66 rfl rfl rfl ?_
              refine g_X8_98 70 hZ dX8_run_67 rfl ?_
              refine r_if_ne 75 73 hZ dX8_run_70 (by decide) rfl (fun c_70 => ?_) (fun c_70 => ?_)
              · skip
                refine r_aload_n 76 hZ 0 dX8_run_75 rfl rfl rfl ?_
                change Z 0 0 (rw ad y (ruE τ N G 0) ρ) 76 _ _
                refine r_callVV (c_X8_take_0 l g y ad (ruE τ N G 0) ρ (S := S) e6 hS6 rfl) wM_X8_take wL_X8_160 hZ rfl ⟨by decide, by decide⟩ 0 8 rfl rfl rfl rfl dX8_run_76 ?_
                refine r_aload_n 80 hZ 0 dX8_run_79 rfl rfl rfl ?_
                refine g_X8_157 83 hZ dX8_run_80 rfl ?_
                refine w_eqI ((show _ = (0 : Int32) from rfl)) ?_
                exact hret _ _ _ _ dX8_run_83 rfl rfl
              · skip
                exact absurd c_70 (show ¬ ((1 : Int32) = (0 : Int32)) by decide)
            · skip
              exact absurd c_36 (show ¬ ¬ ((0 : Int32) < (1 : Int32)) by decide)
      · skip
        exact absurd c_22 (show ¬ ¬ ((0 : Int32) ≤ (0 : Int32)) by decide)
set_option maxHeartbeats 4000000 in
set_option maxRecDepth 100000 in
theorem c_X8_run_0n (l : Launch) (g : va_G) (y : Nat → ClassId) (ad : Nat → Nat) (τ : Nat → Nat → Int32) (ρ : Nat → Nat → Int64) {N G S : Nat} (hs : Rs τ N G) (hS : τ 0 6 = nI S) (hS6 : S ≤ 6) (p0 : ¬ ruP τ N G 0) : w_C l g y yX8_run cX8_run 3 (some .int) 8 [.ref (ad 0), .int 0] (rw ad y τ ρ) (some (.int (-1))) (rw ad y (ruN τ N G 0) ρ) := by
  refine w_ofI (lv0 := [(0, .ref (ad 0)), (1, .int 0)]) (by decide +kernel) (Nat.le_of_ble_eq_true rfl) rfl (rfl) ?_
  intro Z hZ hret
  have hs0 : Rs (r7 τ) N G := Rs.c0 (Rs.c0 hs 0 0 (by decide) (by decide)) 7 0 (by decide) (by decide)
  refine r_aload_n 1 hZ 0 dX8_run_0 rfl rfl rfl ?_
  refine r_iload_n 2 hZ 1 dX8_run_1 rfl rfl rfl ?_
  refine r_if_lt 14 5 hZ dX8_run_2 (by decide) rfl (fun c_2 => ?_) (fun c_2 => ?_)
  · skip
    exact absurd c_2 (show ¬ ((0 : Int32) < (0 : Int32)) by decide)
  · skip
    refine r_iload_n 6 hZ 1 dX8_run_5 rfl rfl rfl ?_
    refine r_iconst (v := 2) 7 hZ dX8_run_6 rfl (by decide) ?_
    refine r_icmp_gt 14 10 hZ dX8_run_7 (by decide) rfl (fun c_7 => ?_) (fun c_7 => ?_)
    · skip
      exact absurd c_7 (show ¬ ((2 : Int32) < (0 : Int32)) by decide)
    · skip
      refine r_iconst (v := 0) 11 hZ dX8_run_10 rfl (by decide) ?_
      refine r_goto 15 hZ dX8_run_11 (by decide) ?_
      refine p_X8_72 18 hZ dX8_run_15 rfl ?_
      refine r_aload_n 19 hZ 0 dX8_run_18 rfl rfl rfl ?_
      refine g_X8_72 22 hZ dX8_run_19 rfl ?_
      refine r_if_le 27 25 hZ dX8_run_22 (by decide) rfl (fun c_22 => ?_) (fun c_22 => ?_)
      · skip
        refine r_aload_n 28 hZ 0 dX8_run_27 rfl rfl rfl ?_
        refine r_iconst (v := 0) 29 hZ dX8_run_28 rfl (by decide) ?_
        refine p_X8_98 32 hZ (by first | exact Or.inl rfl | exact Or.inr rfl | exact bI_01 _) dX8_run_29 rfl ?_
        refine r_iconst (v := 0) 33 hZ dX8_run_32 rfl (by decide) ?_
        refine r_istnN 34 [(0, _), (1, _), (2, _)] hZ dX8_run_33 rfl rfl (by decide) rfl rfl ?_
        try rw [show (0 : Int32) + 1 = 1 from rfl]
        try rw [show (1 : Int32) + 1 = 2 from rfl]
        refine r_iload_n 35 hZ 2 dX8_run_34 rfl rfl rfl ?_
        refine r_iload_n 36 hZ 1 dX8_run_35 rfl rfl rfl ?_
        refine r_icmp_gt 66 39 hZ dX8_run_36 (by decide) rfl (fun c_36 => ?_) (fun c_36 => ?_)
        · skip
          exact absurd c_36 (show ¬ ((0 : Int32) < (0 : Int32)) by decide)
        · skip
          refine r_aload_n 40 hZ 0 dX8_run_39 rfl rfl rfl ?_
          refine g_X8_98 43 hZ dX8_run_40 rfl ?_
          refine r_if_ne 66 46 hZ dX8_run_43 (by decide) rfl (fun c_43 => ?_) (fun c_43 => ?_)
          · skip
            exact absurd c_43 (show ¬ (¬ (0 : Int32) = (0 : Int32)) by decide)
          · skip
            skip
            refine r_aload_n 47 hZ 0 dX8_run_46 rfl rfl rfl ?_
            refine r_aload_n 48 hZ 0 dX8_run_47 rfl rfl rfl ?_
            refine r_iload_n 49 hZ 2 dX8_run_48 rfl rfl rfl ?_
            refine r_callVI (c_X8_search_0 l g y ad (r7 τ) ρ hs0) wM_X8_search wL_X8_154 hZ rfl ⟨by decide, by decide⟩ 0 8 rfl rfl rfl rfl dX8_run_49 ?_
            refine w_eqI (bI_f p0) ?_
            refine p_X8_98 55 hZ (by first | exact Or.inl rfl | exact Or.inr rfl | exact bI_01 _) dX8_run_52 rfl ?_
            refine r_aload_n 56 hZ 0 dX8_run_55 rfl rfl rfl ?_
            refine r_iload_n 57 hZ 2 dX8_run_56 rfl rfl rfl ?_
            refine p_X8_157 60 hZ dX8_run_57 rfl ?_
            refine r_iinc 63 2 1 [(0, _), (1, _), (2, _)] hZ dX8_run_60 rfl rfl (by decide) (by decide) rfl rfl ?_
            refine r_goto 34 hZ dX8_run_63 (by decide) ?_
            try rw [show (0 : Int32) + 1 = 1 from rfl]
            try rw [show (1 : Int32) + 1 = 2 from rfl]
            refine r_iload_n 35 hZ 2 dX8_run_34 rfl rfl rfl ?_
            refine r_iload_n 36 hZ 1 dX8_run_35 rfl rfl rfl ?_
            refine r_icmp_gt 66 39 hZ dX8_run_36 (by decide) rfl (fun c_36 => ?_) (fun c_36 => ?_)
            · skip
              refine r_aload_n 67 hZ 0 dX8_run_66 rfl rfl rfl ?_
              refine g_X8_98 70 hZ dX8_run_67 rfl ?_
              refine r_if_ne 75 73 hZ dX8_run_70 (by decide) rfl (fun c_70 => ?_) (fun c_70 => ?_)
              · skip
                exact absurd c_70 (show ¬ (¬ (0 : Int32) = (0 : Int32)) by decide)
              · skip
                refine r_iconst (v := (-1)) 74 hZ dX8_run_73 rfl (by decide) ?_
                exact hret _ _ _ _ dX8_run_74 rfl rfl
            · skip
              exact absurd c_36 (show ¬ ¬ ((0 : Int32) < (1 : Int32)) by decide)
      · skip
        exact absurd c_22 (show ¬ ¬ ((0 : Int32) ≤ (0 : Int32)) by decide)
set_option maxHeartbeats 4000000 in
set_option maxRecDepth 100000 in
theorem c_X8_run_10_0 (l : Launch) (g : va_G) (y : Nat → ClassId) (ad : Nat → Nat) (τ : Nat → Nat → Int32) (ρ : Nat → Nat → Int64) {N G S : Nat} (hs : Rs τ N G) (hS : τ 0 6 = nI S) (hS6 : S ≤ 6) (p0 : ruP τ N G 0) : w_C l g y yX8_run cX8_run 3 (some .int) 8 [.ref (ad 0), .int 1] (rw ad y τ ρ) (some (.int 0)) (rw ad y (up (ruE τ N G 0) 0 9 1) (upL ρ 0 0 0)) := by
  refine w_ofI (lv0 := [(0, .ref (ad 0)), (1, .int 1)]) (by decide +kernel) (Nat.le_of_ble_eq_true rfl) rfl (rfl) ?_
  intro Z hZ hret
  have hs0 : Rs (r7 τ) N G := Rs.c0 (Rs.c0 hs 0 0 (by decide) (by decide)) 7 0 (by decide) (by decide)
  have e6 : (ruE τ N G 0) 0 6 = nI S := hS
  refine r_aload_n 1 hZ 0 dX8_run_0 rfl rfl rfl ?_
  refine r_iload_n 2 hZ 1 dX8_run_1 rfl rfl rfl ?_
  refine r_if_lt 14 5 hZ dX8_run_2 (by decide) rfl (fun c_2 => ?_) (fun c_2 => ?_)
  · skip
    exact absurd c_2 (show ¬ ((1 : Int32) < (0 : Int32)) by decide)
  · skip
    refine r_iload_n 6 hZ 1 dX8_run_5 rfl rfl rfl ?_
    refine r_iconst (v := 2) 7 hZ dX8_run_6 rfl (by decide) ?_
    refine r_icmp_gt 14 10 hZ dX8_run_7 (by decide) rfl (fun c_7 => ?_) (fun c_7 => ?_)
    · skip
      exact absurd c_7 (show ¬ ((2 : Int32) < (1 : Int32)) by decide)
    · skip
      refine r_iconst (v := 0) 11 hZ dX8_run_10 rfl (by decide) ?_
      refine r_goto 15 hZ dX8_run_11 (by decide) ?_
      refine p_X8_72 18 hZ dX8_run_15 rfl ?_
      refine r_aload_n 19 hZ 0 dX8_run_18 rfl rfl rfl ?_
      refine g_X8_72 22 hZ dX8_run_19 rfl ?_
      refine r_if_le 27 25 hZ dX8_run_22 (by decide) rfl (fun c_22 => ?_) (fun c_22 => ?_)
      · skip
        refine r_aload_n 28 hZ 0 dX8_run_27 rfl rfl rfl ?_
        refine r_iconst (v := 0) 29 hZ dX8_run_28 rfl (by decide) ?_
        refine p_X8_98 32 hZ (by first | exact Or.inl rfl | exact Or.inr rfl | exact bI_01 _) dX8_run_29 rfl ?_
        refine r_iconst (v := 0) 33 hZ dX8_run_32 rfl (by decide) ?_
        refine r_istnN 34 [(0, _), (1, _), (2, _)] hZ dX8_run_33 rfl rfl (by decide) rfl rfl ?_
        try rw [show (0 : Int32) + 1 = 1 from rfl]
        try rw [show (1 : Int32) + 1 = 2 from rfl]
        refine r_iload_n 35 hZ 2 dX8_run_34 rfl rfl rfl ?_
        refine r_iload_n 36 hZ 1 dX8_run_35 rfl rfl rfl ?_
        refine r_icmp_gt 66 39 hZ dX8_run_36 (by decide) rfl (fun c_36 => ?_) (fun c_36 => ?_)
        · skip
          exact absurd c_36 (show ¬ ((1 : Int32) < (0 : Int32)) by decide)
        · skip
          refine r_aload_n 40 hZ 0 dX8_run_39 rfl rfl rfl ?_
          refine g_X8_98 43 hZ dX8_run_40 rfl ?_
          refine r_if_ne 66 46 hZ dX8_run_43 (by decide) rfl (fun c_43 => ?_) (fun c_43 => ?_)
          · skip
            exact absurd c_43 (show ¬ (¬ (0 : Int32) = (0 : Int32)) by decide)
          · skip
            skip
            refine r_aload_n 47 hZ 0 dX8_run_46 rfl rfl rfl ?_
            refine r_aload_n 48 hZ 0 dX8_run_47 rfl rfl rfl ?_
            refine r_iload_n 49 hZ 2 dX8_run_48 rfl rfl rfl ?_
            refine r_callVI (c_X8_search_0 l g y ad (r7 τ) ρ hs0) wM_X8_search wL_X8_154 hZ rfl ⟨by decide, by decide⟩ 0 8 rfl rfl rfl rfl dX8_run_49 ?_
            refine w_eqI (bI_t p0) ?_
            refine p_X8_98 55 hZ (by first | exact Or.inl rfl | exact Or.inr rfl | exact bI_01 _) dX8_run_52 rfl ?_
            refine r_aload_n 56 hZ 0 dX8_run_55 rfl rfl rfl ?_
            refine r_iload_n 57 hZ 2 dX8_run_56 rfl rfl rfl ?_
            refine p_X8_157 60 hZ dX8_run_57 rfl ?_
            refine r_iinc 63 2 1 [(0, _), (1, _), (2, _)] hZ dX8_run_60 rfl rfl (by decide) (by decide) rfl rfl ?_
            refine r_goto 34 hZ dX8_run_63 (by decide) ?_
            try rw [show (0 : Int32) + 1 = 1 from rfl]
            try rw [show (1 : Int32) + 1 = 2 from rfl]
            refine r_iload_n 35 hZ 2 dX8_run_34 rfl rfl rfl ?_
            refine r_iload_n 36 hZ 1 dX8_run_35 rfl rfl rfl ?_
            refine r_icmp_gt 66 39 hZ dX8_run_36 (by decide) rfl (fun c_36 => ?_) (fun c_36 => ?_)
            · skip
              exact absurd c_36 (show ¬ ((1 : Int32) < (1 : Int32)) by decide)
            · skip
              refine r_aload_n 40 hZ 0 dX8_run_39 rfl rfl rfl ?_
              refine g_X8_98 43 hZ dX8_run_40 rfl ?_
              refine r_if_ne 66 46 hZ dX8_run_43 (by decide) rfl (fun c_43 => ?_) (fun c_43 => ?_)
              · skip
                refine r_aload_n 67 hZ 0 dX8_run_66 rfl rfl rfl ?_
                refine g_X8_98 70 hZ dX8_run_67 rfl ?_
                refine r_if_ne 75 73 hZ dX8_run_70 (by decide) rfl (fun c_70 => ?_) (fun c_70 => ?_)
                · skip
                  refine r_aload_n 76 hZ 0 dX8_run_75 rfl rfl rfl ?_
                  change Z 0 0 (rw ad y (ruE τ N G 0) ρ) 76 _ _
                  refine r_callVV (c_X8_take_0 l g y ad (ruE τ N G 0) ρ (S := S) e6 hS6 rfl) wM_X8_take wL_X8_160 hZ rfl ⟨by decide, by decide⟩ 0 8 rfl rfl rfl rfl dX8_run_76 ?_
                  refine r_aload_n 80 hZ 0 dX8_run_79 rfl rfl rfl ?_
                  refine g_X8_157 83 hZ dX8_run_80 rfl ?_
                  refine w_eqI ((show _ = (0 : Int32) from rfl)) ?_
                  exact hret _ _ _ _ dX8_run_83 rfl rfl
                · skip
                  exact absurd c_70 (show ¬ ((1 : Int32) = (0 : Int32)) by decide)
              · skip
                exact absurd c_43 (show ¬ ((1 : Int32) = (0 : Int32)) by decide)
      · skip
        exact absurd c_22 (show ¬ ¬ ((0 : Int32) ≤ (0 : Int32)) by decide)
set_option maxHeartbeats 4000000 in
set_option maxRecDepth 100000 in
theorem c_X8_run_11_1 (l : Launch) (g : va_G) (y : Nat → ClassId) (ad : Nat → Nat) (τ : Nat → Nat → Int32) (ρ : Nat → Nat → Int64) {N G S : Nat} (hs : Rs τ N G) (hS : τ 0 6 = nI S) (hS6 : S ≤ 6) (p0 : ¬ ruP τ N G 0) (p1 : ruP τ N G 1) (hle : 1 ≤ S) (k0 : okL ((ruE τ N G 1) 8 0) 40) : w_C l g y yX8_run cX8_run 3 (some .int) 8 [.ref (ad 0), .int 1] (rw ad y τ ρ) (some (.int 1)) (rw ad y (tkτ (up (ruE τ N G 1) 0 9 1) (tB (ruE τ N G 1) ρ 1 S)) (tkρ (upL ρ 0 0 0) (tB (ruE τ N G 1) ρ 1 S))) := by
  refine w_ofI (lv0 := [(0, .ref (ad 0)), (1, .int 1)]) (by decide +kernel) (Nat.le_of_ble_eq_true rfl) rfl (rfl) ?_
  intro Z hZ hret
  have hs0 : Rs (r7 τ) N G := Rs.c0 (Rs.c0 hs 0 0 (by decide) (by decide)) 7 0 (by decide) (by decide)
  have e6 : (ruE τ N G 1) 0 6 = nI S := (congrFun ((Rs_q1R N 0 (up (up (r7 τ) 0 7 0) 0 8 0) (by omega) (Rs.c0 (Rs.c0 hs0 7 0 (by decide) (by decide)) 8 0 (by decide) (by decide))).2 0 (by decide) (by decide) (by decide) (by decide) (by decide) (by decide)) 6).trans hS
  refine r_aload_n 1 hZ 0 dX8_run_0 rfl rfl rfl ?_
  refine r_iload_n 2 hZ 1 dX8_run_1 rfl rfl rfl ?_
  refine r_if_lt 14 5 hZ dX8_run_2 (by decide) rfl (fun c_2 => ?_) (fun c_2 => ?_)
  · skip
    exact absurd c_2 (show ¬ ((1 : Int32) < (0 : Int32)) by decide)
  · skip
    refine r_iload_n 6 hZ 1 dX8_run_5 rfl rfl rfl ?_
    refine r_iconst (v := 2) 7 hZ dX8_run_6 rfl (by decide) ?_
    refine r_icmp_gt 14 10 hZ dX8_run_7 (by decide) rfl (fun c_7 => ?_) (fun c_7 => ?_)
    · skip
      exact absurd c_7 (show ¬ ((2 : Int32) < (1 : Int32)) by decide)
    · skip
      refine r_iconst (v := 0) 11 hZ dX8_run_10 rfl (by decide) ?_
      refine r_goto 15 hZ dX8_run_11 (by decide) ?_
      refine p_X8_72 18 hZ dX8_run_15 rfl ?_
      refine r_aload_n 19 hZ 0 dX8_run_18 rfl rfl rfl ?_
      refine g_X8_72 22 hZ dX8_run_19 rfl ?_
      refine r_if_le 27 25 hZ dX8_run_22 (by decide) rfl (fun c_22 => ?_) (fun c_22 => ?_)
      · skip
        refine r_aload_n 28 hZ 0 dX8_run_27 rfl rfl rfl ?_
        refine r_iconst (v := 0) 29 hZ dX8_run_28 rfl (by decide) ?_
        refine p_X8_98 32 hZ (by first | exact Or.inl rfl | exact Or.inr rfl | exact bI_01 _) dX8_run_29 rfl ?_
        refine r_iconst (v := 0) 33 hZ dX8_run_32 rfl (by decide) ?_
        refine r_istnN 34 [(0, _), (1, _), (2, _)] hZ dX8_run_33 rfl rfl (by decide) rfl rfl ?_
        try rw [show (0 : Int32) + 1 = 1 from rfl]
        try rw [show (1 : Int32) + 1 = 2 from rfl]
        refine r_iload_n 35 hZ 2 dX8_run_34 rfl rfl rfl ?_
        refine r_iload_n 36 hZ 1 dX8_run_35 rfl rfl rfl ?_
        refine r_icmp_gt 66 39 hZ dX8_run_36 (by decide) rfl (fun c_36 => ?_) (fun c_36 => ?_)
        · skip
          exact absurd c_36 (show ¬ ((1 : Int32) < (0 : Int32)) by decide)
        · skip
          refine r_aload_n 40 hZ 0 dX8_run_39 rfl rfl rfl ?_
          refine g_X8_98 43 hZ dX8_run_40 rfl ?_
          refine r_if_ne 66 46 hZ dX8_run_43 (by decide) rfl (fun c_43 => ?_) (fun c_43 => ?_)
          · skip
            exact absurd c_43 (show ¬ (¬ (0 : Int32) = (0 : Int32)) by decide)
          · skip
            skip
            refine r_aload_n 47 hZ 0 dX8_run_46 rfl rfl rfl ?_
            refine r_aload_n 48 hZ 0 dX8_run_47 rfl rfl rfl ?_
            refine r_iload_n 49 hZ 2 dX8_run_48 rfl rfl rfl ?_
            refine r_callVI (c_X8_search_0 l g y ad (r7 τ) ρ hs0) wM_X8_search wL_X8_154 hZ rfl ⟨by decide, by decide⟩ 0 8 rfl rfl rfl rfl dX8_run_49 ?_
            refine w_eqI (bI_f p0) ?_
            refine p_X8_98 55 hZ (by first | exact Or.inl rfl | exact Or.inr rfl | exact bI_01 _) dX8_run_52 rfl ?_
            refine r_aload_n 56 hZ 0 dX8_run_55 rfl rfl rfl ?_
            refine r_iload_n 57 hZ 2 dX8_run_56 rfl rfl rfl ?_
            refine p_X8_157 60 hZ dX8_run_57 rfl ?_
            refine r_iinc 63 2 1 [(0, _), (1, _), (2, _)] hZ dX8_run_60 rfl rfl (by decide) (by decide) rfl rfl ?_
            refine r_goto 34 hZ dX8_run_63 (by decide) ?_
            try rw [show (0 : Int32) + 1 = 1 from rfl]
            try rw [show (1 : Int32) + 1 = 2 from rfl]
            refine r_iload_n 35 hZ 2 dX8_run_34 rfl rfl rfl ?_
            refine r_iload_n 36 hZ 1 dX8_run_35 rfl rfl rfl ?_
            refine r_icmp_gt 66 39 hZ dX8_run_36 (by decide) rfl (fun c_36 => ?_) (fun c_36 => ?_)
            · skip
              exact absurd c_36 (show ¬ ((1 : Int32) < (1 : Int32)) by decide)
            · skip
              refine r_aload_n 40 hZ 0 dX8_run_39 rfl rfl rfl ?_
              refine g_X8_98 43 hZ dX8_run_40 rfl ?_
              refine r_if_ne 66 46 hZ dX8_run_43 (by decide) rfl (fun c_43 => ?_) (fun c_43 => ?_)
              · skip
                exact absurd c_43 (show ¬ (¬ (0 : Int32) = (0 : Int32)) by decide)
              · skip
                skip
                refine r_aload_n 47 hZ 0 dX8_run_46 rfl rfl rfl ?_
                refine r_aload_n 48 hZ 0 dX8_run_47 rfl rfl rfl ?_
                refine r_iload_n 49 hZ 2 dX8_run_48 rfl rfl rfl ?_
                refine r_callVI (c_X8_search_1 l g y ad (up (up (r7 τ) 0 7 0) 0 8 0) ρ (Rs.c0 (Rs.c0 hs0 7 0 (by decide) (by decide)) 8 0 (by decide) (by decide))) wM_X8_search wL_X8_154 hZ rfl ⟨by decide, by decide⟩ 0 8 rfl rfl rfl rfl dX8_run_49 ?_
                refine w_eqI (bI_t p1) ?_
                refine p_X8_98 55 hZ (by first | exact Or.inl rfl | exact Or.inr rfl | exact bI_01 _) dX8_run_52 rfl ?_
                refine r_aload_n 56 hZ 0 dX8_run_55 rfl rfl rfl ?_
                refine r_iload_n 57 hZ 2 dX8_run_56 rfl rfl rfl ?_
                refine p_X8_157 60 hZ dX8_run_57 rfl ?_
                refine r_iinc 63 2 1 [(0, _), (1, _), (2, _)] hZ dX8_run_60 rfl rfl (by decide) (by decide) rfl rfl ?_
                refine r_goto 34 hZ dX8_run_63 (by decide) ?_
                try rw [show (0 : Int32) + 1 = 1 from rfl]
                try rw [show (1 : Int32) + 1 = 2 from rfl]
                refine r_iload_n 35 hZ 2 dX8_run_34 rfl rfl rfl ?_
                refine r_iload_n 36 hZ 1 dX8_run_35 rfl rfl rfl ?_
                refine r_icmp_gt 66 39 hZ dX8_run_36 (by decide) rfl (fun c_36 => ?_) (fun c_36 => ?_)
                · skip
                  refine r_aload_n 67 hZ 0 dX8_run_66 rfl rfl rfl ?_
                  refine g_X8_98 70 hZ dX8_run_67 rfl ?_
                  refine r_if_ne 75 73 hZ dX8_run_70 (by decide) rfl (fun c_70 => ?_) (fun c_70 => ?_)
                  · skip
                    refine r_aload_n 76 hZ 0 dX8_run_75 rfl rfl rfl ?_
                    change Z 0 0 (rw ad y (ruE τ N G 1) ρ) 76 _ _
                    refine r_callVV (c_X8_take_1 l g y ad (ruE τ N G 1) ρ (S := S) e6 hS6 hle rfl k0) wM_X8_take wL_X8_160 hZ rfl ⟨by decide, by decide⟩ 0 8 rfl rfl rfl rfl dX8_run_76 ?_
                    refine r_aload_n 80 hZ 0 dX8_run_79 rfl rfl rfl ?_
                    refine g_X8_157 83 hZ dX8_run_80 rfl ?_
                    refine w_eqI ((congrFun (tkτ_k (up (ruE τ N G 1) 0 9 1) 0 (by decide) _) 8).trans (show up (ruE τ N G 1) 0 9 1 0 8 = 1 from rfl)) ?_
                    exact hret _ _ _ _ dX8_run_83 rfl rfl
                  · skip
                    exact absurd c_70 (show ¬ ((1 : Int32) = (0 : Int32)) by decide)
                · skip
                  exact absurd c_36 (show ¬ ¬ ((1 : Int32) < (2 : Int32)) by decide)
      · skip
        exact absurd c_22 (show ¬ ¬ ((0 : Int32) ≤ (0 : Int32)) by decide)
set_option maxHeartbeats 4000000 in
set_option maxRecDepth 100000 in
theorem c_X8_run_11_1n (l : Launch) (g : va_G) (y : Nat → ClassId) (ad : Nat → Nat) (τ : Nat → Nat → Int32) (ρ : Nat → Nat → Int64) {N G S : Nat} (hs : Rs τ N G) (hS : τ 0 6 = nI S) (hS6 : S ≤ 6) (p0 : ¬ ruP τ N G 0) (p1 : ruP τ N G 1) (hlt : S < 1) : w_C l g y yX8_run cX8_run 3 (some .int) 8 [.ref (ad 0), .int 1] (rw ad y τ ρ) (some (.int 1)) (rw ad y (up (ruE τ N G 1) 0 9 0) (upL ρ 0 0 0)) := by
  refine w_ofI (lv0 := [(0, .ref (ad 0)), (1, .int 1)]) (by decide +kernel) (Nat.le_of_ble_eq_true rfl) rfl (rfl) ?_
  intro Z hZ hret
  have hs0 : Rs (r7 τ) N G := Rs.c0 (Rs.c0 hs 0 0 (by decide) (by decide)) 7 0 (by decide) (by decide)
  have e6 : (ruE τ N G 1) 0 6 = nI S := (congrFun ((Rs_q1R N 0 (up (up (r7 τ) 0 7 0) 0 8 0) (by omega) (Rs.c0 (Rs.c0 hs0 7 0 (by decide) (by decide)) 8 0 (by decide) (by decide))).2 0 (by decide) (by decide) (by decide) (by decide) (by decide) (by decide)) 6).trans hS
  refine r_aload_n 1 hZ 0 dX8_run_0 rfl rfl rfl ?_
  refine r_iload_n 2 hZ 1 dX8_run_1 rfl rfl rfl ?_
  refine r_if_lt 14 5 hZ dX8_run_2 (by decide) rfl (fun c_2 => ?_) (fun c_2 => ?_)
  · skip
    exact absurd c_2 (show ¬ ((1 : Int32) < (0 : Int32)) by decide)
  · skip
    refine r_iload_n 6 hZ 1 dX8_run_5 rfl rfl rfl ?_
    refine r_iconst (v := 2) 7 hZ dX8_run_6 rfl (by decide) ?_
    refine r_icmp_gt 14 10 hZ dX8_run_7 (by decide) rfl (fun c_7 => ?_) (fun c_7 => ?_)
    · skip
      exact absurd c_7 (show ¬ ((2 : Int32) < (1 : Int32)) by decide)
    · skip
      refine r_iconst (v := 0) 11 hZ dX8_run_10 rfl (by decide) ?_
      refine r_goto 15 hZ dX8_run_11 (by decide) ?_
      refine p_X8_72 18 hZ dX8_run_15 rfl ?_
      refine r_aload_n 19 hZ 0 dX8_run_18 rfl rfl rfl ?_
      refine g_X8_72 22 hZ dX8_run_19 rfl ?_
      refine r_if_le 27 25 hZ dX8_run_22 (by decide) rfl (fun c_22 => ?_) (fun c_22 => ?_)
      · skip
        refine r_aload_n 28 hZ 0 dX8_run_27 rfl rfl rfl ?_
        refine r_iconst (v := 0) 29 hZ dX8_run_28 rfl (by decide) ?_
        refine p_X8_98 32 hZ (by first | exact Or.inl rfl | exact Or.inr rfl | exact bI_01 _) dX8_run_29 rfl ?_
        refine r_iconst (v := 0) 33 hZ dX8_run_32 rfl (by decide) ?_
        refine r_istnN 34 [(0, _), (1, _), (2, _)] hZ dX8_run_33 rfl rfl (by decide) rfl rfl ?_
        try rw [show (0 : Int32) + 1 = 1 from rfl]
        try rw [show (1 : Int32) + 1 = 2 from rfl]
        refine r_iload_n 35 hZ 2 dX8_run_34 rfl rfl rfl ?_
        refine r_iload_n 36 hZ 1 dX8_run_35 rfl rfl rfl ?_
        refine r_icmp_gt 66 39 hZ dX8_run_36 (by decide) rfl (fun c_36 => ?_) (fun c_36 => ?_)
        · skip
          exact absurd c_36 (show ¬ ((1 : Int32) < (0 : Int32)) by decide)
        · skip
          refine r_aload_n 40 hZ 0 dX8_run_39 rfl rfl rfl ?_
          refine g_X8_98 43 hZ dX8_run_40 rfl ?_
          refine r_if_ne 66 46 hZ dX8_run_43 (by decide) rfl (fun c_43 => ?_) (fun c_43 => ?_)
          · skip
            exact absurd c_43 (show ¬ (¬ (0 : Int32) = (0 : Int32)) by decide)
          · skip
            skip
            refine r_aload_n 47 hZ 0 dX8_run_46 rfl rfl rfl ?_
            refine r_aload_n 48 hZ 0 dX8_run_47 rfl rfl rfl ?_
            refine r_iload_n 49 hZ 2 dX8_run_48 rfl rfl rfl ?_
            refine r_callVI (c_X8_search_0 l g y ad (r7 τ) ρ hs0) wM_X8_search wL_X8_154 hZ rfl ⟨by decide, by decide⟩ 0 8 rfl rfl rfl rfl dX8_run_49 ?_
            refine w_eqI (bI_f p0) ?_
            refine p_X8_98 55 hZ (by first | exact Or.inl rfl | exact Or.inr rfl | exact bI_01 _) dX8_run_52 rfl ?_
            refine r_aload_n 56 hZ 0 dX8_run_55 rfl rfl rfl ?_
            refine r_iload_n 57 hZ 2 dX8_run_56 rfl rfl rfl ?_
            refine p_X8_157 60 hZ dX8_run_57 rfl ?_
            refine r_iinc 63 2 1 [(0, _), (1, _), (2, _)] hZ dX8_run_60 rfl rfl (by decide) (by decide) rfl rfl ?_
            refine r_goto 34 hZ dX8_run_63 (by decide) ?_
            try rw [show (0 : Int32) + 1 = 1 from rfl]
            try rw [show (1 : Int32) + 1 = 2 from rfl]
            refine r_iload_n 35 hZ 2 dX8_run_34 rfl rfl rfl ?_
            refine r_iload_n 36 hZ 1 dX8_run_35 rfl rfl rfl ?_
            refine r_icmp_gt 66 39 hZ dX8_run_36 (by decide) rfl (fun c_36 => ?_) (fun c_36 => ?_)
            · skip
              exact absurd c_36 (show ¬ ((1 : Int32) < (1 : Int32)) by decide)
            · skip
              refine r_aload_n 40 hZ 0 dX8_run_39 rfl rfl rfl ?_
              refine g_X8_98 43 hZ dX8_run_40 rfl ?_
              refine r_if_ne 66 46 hZ dX8_run_43 (by decide) rfl (fun c_43 => ?_) (fun c_43 => ?_)
              · skip
                exact absurd c_43 (show ¬ (¬ (0 : Int32) = (0 : Int32)) by decide)
              · skip
                skip
                refine r_aload_n 47 hZ 0 dX8_run_46 rfl rfl rfl ?_
                refine r_aload_n 48 hZ 0 dX8_run_47 rfl rfl rfl ?_
                refine r_iload_n 49 hZ 2 dX8_run_48 rfl rfl rfl ?_
                refine r_callVI (c_X8_search_1 l g y ad (up (up (r7 τ) 0 7 0) 0 8 0) ρ (Rs.c0 (Rs.c0 hs0 7 0 (by decide) (by decide)) 8 0 (by decide) (by decide))) wM_X8_search wL_X8_154 hZ rfl ⟨by decide, by decide⟩ 0 8 rfl rfl rfl rfl dX8_run_49 ?_
                refine w_eqI (bI_t p1) ?_
                refine p_X8_98 55 hZ (by first | exact Or.inl rfl | exact Or.inr rfl | exact bI_01 _) dX8_run_52 rfl ?_
                refine r_aload_n 56 hZ 0 dX8_run_55 rfl rfl rfl ?_
                refine r_iload_n 57 hZ 2 dX8_run_56 rfl rfl rfl ?_
                refine p_X8_157 60 hZ dX8_run_57 rfl ?_
                refine r_iinc 63 2 1 [(0, _), (1, _), (2, _)] hZ dX8_run_60 rfl rfl (by decide) (by decide) rfl rfl ?_
                refine r_goto 34 hZ dX8_run_63 (by decide) ?_
                try rw [show (0 : Int32) + 1 = 1 from rfl]
                try rw [show (1 : Int32) + 1 = 2 from rfl]
                refine r_iload_n 35 hZ 2 dX8_run_34 rfl rfl rfl ?_
                refine r_iload_n 36 hZ 1 dX8_run_35 rfl rfl rfl ?_
                refine r_icmp_gt 66 39 hZ dX8_run_36 (by decide) rfl (fun c_36 => ?_) (fun c_36 => ?_)
                · skip
                  refine r_aload_n 67 hZ 0 dX8_run_66 rfl rfl rfl ?_
                  refine g_X8_98 70 hZ dX8_run_67 rfl ?_
                  refine r_if_ne 75 73 hZ dX8_run_70 (by decide) rfl (fun c_70 => ?_) (fun c_70 => ?_)
                  · skip
                    refine r_aload_n 76 hZ 0 dX8_run_75 rfl rfl rfl ?_
                    change Z 0 0 (rw ad y (ruE τ N G 1) ρ) 76 _ _
                    refine r_callVV (c_X8_take_1n l g y ad (ruE τ N G 1) ρ (S := S) e6 hS6 hlt rfl) wM_X8_take wL_X8_160 hZ rfl ⟨by decide, by decide⟩ 0 8 rfl rfl rfl rfl dX8_run_76 ?_
                    refine r_aload_n 80 hZ 0 dX8_run_79 rfl rfl rfl ?_
                    refine g_X8_157 83 hZ dX8_run_80 rfl ?_
                    refine w_eqI ((show _ = (1 : Int32) from rfl)) ?_
                    exact hret _ _ _ _ dX8_run_83 rfl rfl
                  · skip
                    exact absurd c_70 (show ¬ ((1 : Int32) = (0 : Int32)) by decide)
                · skip
                  exact absurd c_36 (show ¬ ¬ ((1 : Int32) < (2 : Int32)) by decide)
      · skip
        exact absurd c_22 (show ¬ ¬ ((0 : Int32) ≤ (0 : Int32)) by decide)
set_option maxHeartbeats 4000000 in
set_option maxRecDepth 100000 in
theorem c_X8_run_1n (l : Launch) (g : va_G) (y : Nat → ClassId) (ad : Nat → Nat) (τ : Nat → Nat → Int32) (ρ : Nat → Nat → Int64) {N G S : Nat} (hs : Rs τ N G) (hS : τ 0 6 = nI S) (hS6 : S ≤ 6) (p0 : ¬ ruP τ N G 0) (p1 : ¬ ruP τ N G 1) : w_C l g y yX8_run cX8_run 3 (some .int) 8 [.ref (ad 0), .int 1] (rw ad y τ ρ) (some (.int (-1))) (rw ad y (ruN τ N G 1) ρ) := by
  refine w_ofI (lv0 := [(0, .ref (ad 0)), (1, .int 1)]) (by decide +kernel) (Nat.le_of_ble_eq_true rfl) rfl (rfl) ?_
  intro Z hZ hret
  have hs0 : Rs (r7 τ) N G := Rs.c0 (Rs.c0 hs 0 0 (by decide) (by decide)) 7 0 (by decide) (by decide)
  refine r_aload_n 1 hZ 0 dX8_run_0 rfl rfl rfl ?_
  refine r_iload_n 2 hZ 1 dX8_run_1 rfl rfl rfl ?_
  refine r_if_lt 14 5 hZ dX8_run_2 (by decide) rfl (fun c_2 => ?_) (fun c_2 => ?_)
  · skip
    exact absurd c_2 (show ¬ ((1 : Int32) < (0 : Int32)) by decide)
  · skip
    refine r_iload_n 6 hZ 1 dX8_run_5 rfl rfl rfl ?_
    refine r_iconst (v := 2) 7 hZ dX8_run_6 rfl (by decide) ?_
    refine r_icmp_gt 14 10 hZ dX8_run_7 (by decide) rfl (fun c_7 => ?_) (fun c_7 => ?_)
    · skip
      exact absurd c_7 (show ¬ ((2 : Int32) < (1 : Int32)) by decide)
    · skip
      refine r_iconst (v := 0) 11 hZ dX8_run_10 rfl (by decide) ?_
      refine r_goto 15 hZ dX8_run_11 (by decide) ?_
      refine p_X8_72 18 hZ dX8_run_15 rfl ?_
      refine r_aload_n 19 hZ 0 dX8_run_18 rfl rfl rfl ?_
      refine g_X8_72 22 hZ dX8_run_19 rfl ?_
      refine r_if_le 27 25 hZ dX8_run_22 (by decide) rfl (fun c_22 => ?_) (fun c_22 => ?_)
      · skip
        refine r_aload_n 28 hZ 0 dX8_run_27 rfl rfl rfl ?_
        refine r_iconst (v := 0) 29 hZ dX8_run_28 rfl (by decide) ?_
        refine p_X8_98 32 hZ (by first | exact Or.inl rfl | exact Or.inr rfl | exact bI_01 _) dX8_run_29 rfl ?_
        refine r_iconst (v := 0) 33 hZ dX8_run_32 rfl (by decide) ?_
        refine r_istnN 34 [(0, _), (1, _), (2, _)] hZ dX8_run_33 rfl rfl (by decide) rfl rfl ?_
        try rw [show (0 : Int32) + 1 = 1 from rfl]
        try rw [show (1 : Int32) + 1 = 2 from rfl]
        refine r_iload_n 35 hZ 2 dX8_run_34 rfl rfl rfl ?_
        refine r_iload_n 36 hZ 1 dX8_run_35 rfl rfl rfl ?_
        refine r_icmp_gt 66 39 hZ dX8_run_36 (by decide) rfl (fun c_36 => ?_) (fun c_36 => ?_)
        · skip
          exact absurd c_36 (show ¬ ((1 : Int32) < (0 : Int32)) by decide)
        · skip
          refine r_aload_n 40 hZ 0 dX8_run_39 rfl rfl rfl ?_
          refine g_X8_98 43 hZ dX8_run_40 rfl ?_
          refine r_if_ne 66 46 hZ dX8_run_43 (by decide) rfl (fun c_43 => ?_) (fun c_43 => ?_)
          · skip
            exact absurd c_43 (show ¬ (¬ (0 : Int32) = (0 : Int32)) by decide)
          · skip
            skip
            refine r_aload_n 47 hZ 0 dX8_run_46 rfl rfl rfl ?_
            refine r_aload_n 48 hZ 0 dX8_run_47 rfl rfl rfl ?_
            refine r_iload_n 49 hZ 2 dX8_run_48 rfl rfl rfl ?_
            refine r_callVI (c_X8_search_0 l g y ad (r7 τ) ρ hs0) wM_X8_search wL_X8_154 hZ rfl ⟨by decide, by decide⟩ 0 8 rfl rfl rfl rfl dX8_run_49 ?_
            refine w_eqI (bI_f p0) ?_
            refine p_X8_98 55 hZ (by first | exact Or.inl rfl | exact Or.inr rfl | exact bI_01 _) dX8_run_52 rfl ?_
            refine r_aload_n 56 hZ 0 dX8_run_55 rfl rfl rfl ?_
            refine r_iload_n 57 hZ 2 dX8_run_56 rfl rfl rfl ?_
            refine p_X8_157 60 hZ dX8_run_57 rfl ?_
            refine r_iinc 63 2 1 [(0, _), (1, _), (2, _)] hZ dX8_run_60 rfl rfl (by decide) (by decide) rfl rfl ?_
            refine r_goto 34 hZ dX8_run_63 (by decide) ?_
            try rw [show (0 : Int32) + 1 = 1 from rfl]
            try rw [show (1 : Int32) + 1 = 2 from rfl]
            refine r_iload_n 35 hZ 2 dX8_run_34 rfl rfl rfl ?_
            refine r_iload_n 36 hZ 1 dX8_run_35 rfl rfl rfl ?_
            refine r_icmp_gt 66 39 hZ dX8_run_36 (by decide) rfl (fun c_36 => ?_) (fun c_36 => ?_)
            · skip
              exact absurd c_36 (show ¬ ((1 : Int32) < (1 : Int32)) by decide)
            · skip
              refine r_aload_n 40 hZ 0 dX8_run_39 rfl rfl rfl ?_
              refine g_X8_98 43 hZ dX8_run_40 rfl ?_
              refine r_if_ne 66 46 hZ dX8_run_43 (by decide) rfl (fun c_43 => ?_) (fun c_43 => ?_)
              · skip
                exact absurd c_43 (show ¬ (¬ (0 : Int32) = (0 : Int32)) by decide)
              · skip
                skip
                refine r_aload_n 47 hZ 0 dX8_run_46 rfl rfl rfl ?_
                refine r_aload_n 48 hZ 0 dX8_run_47 rfl rfl rfl ?_
                refine r_iload_n 49 hZ 2 dX8_run_48 rfl rfl rfl ?_
                refine r_callVI (c_X8_search_1 l g y ad (up (up (r7 τ) 0 7 0) 0 8 0) ρ (Rs.c0 (Rs.c0 hs0 7 0 (by decide) (by decide)) 8 0 (by decide) (by decide))) wM_X8_search wL_X8_154 hZ rfl ⟨by decide, by decide⟩ 0 8 rfl rfl rfl rfl dX8_run_49 ?_
                refine w_eqI (bI_f p1) ?_
                refine p_X8_98 55 hZ (by first | exact Or.inl rfl | exact Or.inr rfl | exact bI_01 _) dX8_run_52 rfl ?_
                refine r_aload_n 56 hZ 0 dX8_run_55 rfl rfl rfl ?_
                refine r_iload_n 57 hZ 2 dX8_run_56 rfl rfl rfl ?_
                refine p_X8_157 60 hZ dX8_run_57 rfl ?_
                refine r_iinc 63 2 1 [(0, _), (1, _), (2, _)] hZ dX8_run_60 rfl rfl (by decide) (by decide) rfl rfl ?_
                refine r_goto 34 hZ dX8_run_63 (by decide) ?_
                try rw [show (0 : Int32) + 1 = 1 from rfl]
                try rw [show (1 : Int32) + 1 = 2 from rfl]
                refine r_iload_n 35 hZ 2 dX8_run_34 rfl rfl rfl ?_
                refine r_iload_n 36 hZ 1 dX8_run_35 rfl rfl rfl ?_
                refine r_icmp_gt 66 39 hZ dX8_run_36 (by decide) rfl (fun c_36 => ?_) (fun c_36 => ?_)
                · skip
                  refine r_aload_n 67 hZ 0 dX8_run_66 rfl rfl rfl ?_
                  refine g_X8_98 70 hZ dX8_run_67 rfl ?_
                  refine r_if_ne 75 73 hZ dX8_run_70 (by decide) rfl (fun c_70 => ?_) (fun c_70 => ?_)
                  · skip
                    exact absurd c_70 (show ¬ (¬ (0 : Int32) = (0 : Int32)) by decide)
                  · skip
                    refine r_iconst (v := (-1)) 74 hZ dX8_run_73 rfl (by decide) ?_
                    exact hret _ _ _ _ dX8_run_74 rfl rfl
                · skip
                  exact absurd c_36 (show ¬ ¬ ((1 : Int32) < (2 : Int32)) by decide)
      · skip
        exact absurd c_22 (show ¬ ¬ ((0 : Int32) ≤ (0 : Int32)) by decide)
set_option maxHeartbeats 4000000 in
set_option maxRecDepth 100000 in
theorem c_X8_run_20_0 (l : Launch) (g : va_G) (y : Nat → ClassId) (ad : Nat → Nat) (τ : Nat → Nat → Int32) (ρ : Nat → Nat → Int64) {N G S : Nat} (hs : Rs τ N G) (hS : τ 0 6 = nI S) (hS6 : S ≤ 6) (p0 : ruP τ N G 0) : w_C l g y yX8_run cX8_run 3 (some .int) 8 [.ref (ad 0), .int 2] (rw ad y τ ρ) (some (.int 0)) (rw ad y (up (ruE τ N G 0) 0 9 1) (upL ρ 0 0 0)) := by
  refine w_ofI (lv0 := [(0, .ref (ad 0)), (1, .int 2)]) (by decide +kernel) (Nat.le_of_ble_eq_true rfl) rfl (rfl) ?_
  intro Z hZ hret
  have hs0 : Rs (r7 τ) N G := Rs.c0 (Rs.c0 hs 0 0 (by decide) (by decide)) 7 0 (by decide) (by decide)
  have e6 : (ruE τ N G 0) 0 6 = nI S := hS
  refine r_aload_n 1 hZ 0 dX8_run_0 rfl rfl rfl ?_
  refine r_iload_n 2 hZ 1 dX8_run_1 rfl rfl rfl ?_
  refine r_if_lt 14 5 hZ dX8_run_2 (by decide) rfl (fun c_2 => ?_) (fun c_2 => ?_)
  · skip
    exact absurd c_2 (show ¬ ((2 : Int32) < (0 : Int32)) by decide)
  · skip
    refine r_iload_n 6 hZ 1 dX8_run_5 rfl rfl rfl ?_
    refine r_iconst (v := 2) 7 hZ dX8_run_6 rfl (by decide) ?_
    refine r_icmp_gt 14 10 hZ dX8_run_7 (by decide) rfl (fun c_7 => ?_) (fun c_7 => ?_)
    · skip
      exact absurd c_7 (show ¬ ((2 : Int32) < (2 : Int32)) by decide)
    · skip
      refine r_iconst (v := 0) 11 hZ dX8_run_10 rfl (by decide) ?_
      refine r_goto 15 hZ dX8_run_11 (by decide) ?_
      refine p_X8_72 18 hZ dX8_run_15 rfl ?_
      refine r_aload_n 19 hZ 0 dX8_run_18 rfl rfl rfl ?_
      refine g_X8_72 22 hZ dX8_run_19 rfl ?_
      refine r_if_le 27 25 hZ dX8_run_22 (by decide) rfl (fun c_22 => ?_) (fun c_22 => ?_)
      · skip
        refine r_aload_n 28 hZ 0 dX8_run_27 rfl rfl rfl ?_
        refine r_iconst (v := 0) 29 hZ dX8_run_28 rfl (by decide) ?_
        refine p_X8_98 32 hZ (by first | exact Or.inl rfl | exact Or.inr rfl | exact bI_01 _) dX8_run_29 rfl ?_
        refine r_iconst (v := 0) 33 hZ dX8_run_32 rfl (by decide) ?_
        refine r_istnN 34 [(0, _), (1, _), (2, _)] hZ dX8_run_33 rfl rfl (by decide) rfl rfl ?_
        try rw [show (0 : Int32) + 1 = 1 from rfl]
        try rw [show (1 : Int32) + 1 = 2 from rfl]
        refine r_iload_n 35 hZ 2 dX8_run_34 rfl rfl rfl ?_
        refine r_iload_n 36 hZ 1 dX8_run_35 rfl rfl rfl ?_
        refine r_icmp_gt 66 39 hZ dX8_run_36 (by decide) rfl (fun c_36 => ?_) (fun c_36 => ?_)
        · skip
          exact absurd c_36 (show ¬ ((2 : Int32) < (0 : Int32)) by decide)
        · skip
          refine r_aload_n 40 hZ 0 dX8_run_39 rfl rfl rfl ?_
          refine g_X8_98 43 hZ dX8_run_40 rfl ?_
          refine r_if_ne 66 46 hZ dX8_run_43 (by decide) rfl (fun c_43 => ?_) (fun c_43 => ?_)
          · skip
            exact absurd c_43 (show ¬ (¬ (0 : Int32) = (0 : Int32)) by decide)
          · skip
            skip
            refine r_aload_n 47 hZ 0 dX8_run_46 rfl rfl rfl ?_
            refine r_aload_n 48 hZ 0 dX8_run_47 rfl rfl rfl ?_
            refine r_iload_n 49 hZ 2 dX8_run_48 rfl rfl rfl ?_
            refine r_callVI (c_X8_search_0 l g y ad (r7 τ) ρ hs0) wM_X8_search wL_X8_154 hZ rfl ⟨by decide, by decide⟩ 0 8 rfl rfl rfl rfl dX8_run_49 ?_
            refine w_eqI (bI_t p0) ?_
            refine p_X8_98 55 hZ (by first | exact Or.inl rfl | exact Or.inr rfl | exact bI_01 _) dX8_run_52 rfl ?_
            refine r_aload_n 56 hZ 0 dX8_run_55 rfl rfl rfl ?_
            refine r_iload_n 57 hZ 2 dX8_run_56 rfl rfl rfl ?_
            refine p_X8_157 60 hZ dX8_run_57 rfl ?_
            refine r_iinc 63 2 1 [(0, _), (1, _), (2, _)] hZ dX8_run_60 rfl rfl (by decide) (by decide) rfl rfl ?_
            refine r_goto 34 hZ dX8_run_63 (by decide) ?_
            try rw [show (0 : Int32) + 1 = 1 from rfl]
            try rw [show (1 : Int32) + 1 = 2 from rfl]
            refine r_iload_n 35 hZ 2 dX8_run_34 rfl rfl rfl ?_
            refine r_iload_n 36 hZ 1 dX8_run_35 rfl rfl rfl ?_
            refine r_icmp_gt 66 39 hZ dX8_run_36 (by decide) rfl (fun c_36 => ?_) (fun c_36 => ?_)
            · skip
              exact absurd c_36 (show ¬ ((2 : Int32) < (1 : Int32)) by decide)
            · skip
              refine r_aload_n 40 hZ 0 dX8_run_39 rfl rfl rfl ?_
              refine g_X8_98 43 hZ dX8_run_40 rfl ?_
              refine r_if_ne 66 46 hZ dX8_run_43 (by decide) rfl (fun c_43 => ?_) (fun c_43 => ?_)
              · skip
                refine r_aload_n 67 hZ 0 dX8_run_66 rfl rfl rfl ?_
                refine g_X8_98 70 hZ dX8_run_67 rfl ?_
                refine r_if_ne 75 73 hZ dX8_run_70 (by decide) rfl (fun c_70 => ?_) (fun c_70 => ?_)
                · skip
                  refine r_aload_n 76 hZ 0 dX8_run_75 rfl rfl rfl ?_
                  change Z 0 0 (rw ad y (ruE τ N G 0) ρ) 76 _ _
                  refine r_callVV (c_X8_take_0 l g y ad (ruE τ N G 0) ρ (S := S) e6 hS6 rfl) wM_X8_take wL_X8_160 hZ rfl ⟨by decide, by decide⟩ 0 8 rfl rfl rfl rfl dX8_run_76 ?_
                  refine r_aload_n 80 hZ 0 dX8_run_79 rfl rfl rfl ?_
                  refine g_X8_157 83 hZ dX8_run_80 rfl ?_
                  refine w_eqI ((show _ = (0 : Int32) from rfl)) ?_
                  exact hret _ _ _ _ dX8_run_83 rfl rfl
                · skip
                  exact absurd c_70 (show ¬ ((1 : Int32) = (0 : Int32)) by decide)
              · skip
                exact absurd c_43 (show ¬ ((1 : Int32) = (0 : Int32)) by decide)
      · skip
        exact absurd c_22 (show ¬ ¬ ((0 : Int32) ≤ (0 : Int32)) by decide)
set_option maxHeartbeats 4000000 in
set_option maxRecDepth 100000 in
theorem c_X8_run_21_1 (l : Launch) (g : va_G) (y : Nat → ClassId) (ad : Nat → Nat) (τ : Nat → Nat → Int32) (ρ : Nat → Nat → Int64) {N G S : Nat} (hs : Rs τ N G) (hS : τ 0 6 = nI S) (hS6 : S ≤ 6) (p0 : ¬ ruP τ N G 0) (p1 : ruP τ N G 1) (hle : 1 ≤ S) (k0 : okL ((ruE τ N G 1) 8 0) 40) : w_C l g y yX8_run cX8_run 3 (some .int) 8 [.ref (ad 0), .int 2] (rw ad y τ ρ) (some (.int 1)) (rw ad y (tkτ (up (ruE τ N G 1) 0 9 1) (tB (ruE τ N G 1) ρ 1 S)) (tkρ (upL ρ 0 0 0) (tB (ruE τ N G 1) ρ 1 S))) := by
  refine w_ofI (lv0 := [(0, .ref (ad 0)), (1, .int 2)]) (by decide +kernel) (Nat.le_of_ble_eq_true rfl) rfl (rfl) ?_
  intro Z hZ hret
  have hs0 : Rs (r7 τ) N G := Rs.c0 (Rs.c0 hs 0 0 (by decide) (by decide)) 7 0 (by decide) (by decide)
  have e6 : (ruE τ N G 1) 0 6 = nI S := (congrFun ((Rs_q1R N 0 (up (up (r7 τ) 0 7 0) 0 8 0) (by omega) (Rs.c0 (Rs.c0 hs0 7 0 (by decide) (by decide)) 8 0 (by decide) (by decide))).2 0 (by decide) (by decide) (by decide) (by decide) (by decide) (by decide)) 6).trans hS
  refine r_aload_n 1 hZ 0 dX8_run_0 rfl rfl rfl ?_
  refine r_iload_n 2 hZ 1 dX8_run_1 rfl rfl rfl ?_
  refine r_if_lt 14 5 hZ dX8_run_2 (by decide) rfl (fun c_2 => ?_) (fun c_2 => ?_)
  · skip
    exact absurd c_2 (show ¬ ((2 : Int32) < (0 : Int32)) by decide)
  · skip
    refine r_iload_n 6 hZ 1 dX8_run_5 rfl rfl rfl ?_
    refine r_iconst (v := 2) 7 hZ dX8_run_6 rfl (by decide) ?_
    refine r_icmp_gt 14 10 hZ dX8_run_7 (by decide) rfl (fun c_7 => ?_) (fun c_7 => ?_)
    · skip
      exact absurd c_7 (show ¬ ((2 : Int32) < (2 : Int32)) by decide)
    · skip
      refine r_iconst (v := 0) 11 hZ dX8_run_10 rfl (by decide) ?_
      refine r_goto 15 hZ dX8_run_11 (by decide) ?_
      refine p_X8_72 18 hZ dX8_run_15 rfl ?_
      refine r_aload_n 19 hZ 0 dX8_run_18 rfl rfl rfl ?_
      refine g_X8_72 22 hZ dX8_run_19 rfl ?_
      refine r_if_le 27 25 hZ dX8_run_22 (by decide) rfl (fun c_22 => ?_) (fun c_22 => ?_)
      · skip
        refine r_aload_n 28 hZ 0 dX8_run_27 rfl rfl rfl ?_
        refine r_iconst (v := 0) 29 hZ dX8_run_28 rfl (by decide) ?_
        refine p_X8_98 32 hZ (by first | exact Or.inl rfl | exact Or.inr rfl | exact bI_01 _) dX8_run_29 rfl ?_
        refine r_iconst (v := 0) 33 hZ dX8_run_32 rfl (by decide) ?_
        refine r_istnN 34 [(0, _), (1, _), (2, _)] hZ dX8_run_33 rfl rfl (by decide) rfl rfl ?_
        try rw [show (0 : Int32) + 1 = 1 from rfl]
        try rw [show (1 : Int32) + 1 = 2 from rfl]
        refine r_iload_n 35 hZ 2 dX8_run_34 rfl rfl rfl ?_
        refine r_iload_n 36 hZ 1 dX8_run_35 rfl rfl rfl ?_
        refine r_icmp_gt 66 39 hZ dX8_run_36 (by decide) rfl (fun c_36 => ?_) (fun c_36 => ?_)
        · skip
          exact absurd c_36 (show ¬ ((2 : Int32) < (0 : Int32)) by decide)
        · skip
          refine r_aload_n 40 hZ 0 dX8_run_39 rfl rfl rfl ?_
          refine g_X8_98 43 hZ dX8_run_40 rfl ?_
          refine r_if_ne 66 46 hZ dX8_run_43 (by decide) rfl (fun c_43 => ?_) (fun c_43 => ?_)
          · skip
            exact absurd c_43 (show ¬ (¬ (0 : Int32) = (0 : Int32)) by decide)
          · skip
            skip
            refine r_aload_n 47 hZ 0 dX8_run_46 rfl rfl rfl ?_
            refine r_aload_n 48 hZ 0 dX8_run_47 rfl rfl rfl ?_
            refine r_iload_n 49 hZ 2 dX8_run_48 rfl rfl rfl ?_
            refine r_callVI (c_X8_search_0 l g y ad (r7 τ) ρ hs0) wM_X8_search wL_X8_154 hZ rfl ⟨by decide, by decide⟩ 0 8 rfl rfl rfl rfl dX8_run_49 ?_
            refine w_eqI (bI_f p0) ?_
            refine p_X8_98 55 hZ (by first | exact Or.inl rfl | exact Or.inr rfl | exact bI_01 _) dX8_run_52 rfl ?_
            refine r_aload_n 56 hZ 0 dX8_run_55 rfl rfl rfl ?_
            refine r_iload_n 57 hZ 2 dX8_run_56 rfl rfl rfl ?_
            refine p_X8_157 60 hZ dX8_run_57 rfl ?_
            refine r_iinc 63 2 1 [(0, _), (1, _), (2, _)] hZ dX8_run_60 rfl rfl (by decide) (by decide) rfl rfl ?_
            refine r_goto 34 hZ dX8_run_63 (by decide) ?_
            try rw [show (0 : Int32) + 1 = 1 from rfl]
            try rw [show (1 : Int32) + 1 = 2 from rfl]
            refine r_iload_n 35 hZ 2 dX8_run_34 rfl rfl rfl ?_
            refine r_iload_n 36 hZ 1 dX8_run_35 rfl rfl rfl ?_
            refine r_icmp_gt 66 39 hZ dX8_run_36 (by decide) rfl (fun c_36 => ?_) (fun c_36 => ?_)
            · skip
              exact absurd c_36 (show ¬ ((2 : Int32) < (1 : Int32)) by decide)
            · skip
              refine r_aload_n 40 hZ 0 dX8_run_39 rfl rfl rfl ?_
              refine g_X8_98 43 hZ dX8_run_40 rfl ?_
              refine r_if_ne 66 46 hZ dX8_run_43 (by decide) rfl (fun c_43 => ?_) (fun c_43 => ?_)
              · skip
                exact absurd c_43 (show ¬ (¬ (0 : Int32) = (0 : Int32)) by decide)
              · skip
                skip
                refine r_aload_n 47 hZ 0 dX8_run_46 rfl rfl rfl ?_
                refine r_aload_n 48 hZ 0 dX8_run_47 rfl rfl rfl ?_
                refine r_iload_n 49 hZ 2 dX8_run_48 rfl rfl rfl ?_
                refine r_callVI (c_X8_search_1 l g y ad (up (up (r7 τ) 0 7 0) 0 8 0) ρ (Rs.c0 (Rs.c0 hs0 7 0 (by decide) (by decide)) 8 0 (by decide) (by decide))) wM_X8_search wL_X8_154 hZ rfl ⟨by decide, by decide⟩ 0 8 rfl rfl rfl rfl dX8_run_49 ?_
                refine w_eqI (bI_t p1) ?_
                refine p_X8_98 55 hZ (by first | exact Or.inl rfl | exact Or.inr rfl | exact bI_01 _) dX8_run_52 rfl ?_
                refine r_aload_n 56 hZ 0 dX8_run_55 rfl rfl rfl ?_
                refine r_iload_n 57 hZ 2 dX8_run_56 rfl rfl rfl ?_
                refine p_X8_157 60 hZ dX8_run_57 rfl ?_
                refine r_iinc 63 2 1 [(0, _), (1, _), (2, _)] hZ dX8_run_60 rfl rfl (by decide) (by decide) rfl rfl ?_
                refine r_goto 34 hZ dX8_run_63 (by decide) ?_
                try rw [show (0 : Int32) + 1 = 1 from rfl]
                try rw [show (1 : Int32) + 1 = 2 from rfl]
                refine r_iload_n 35 hZ 2 dX8_run_34 rfl rfl rfl ?_
                refine r_iload_n 36 hZ 1 dX8_run_35 rfl rfl rfl ?_
                refine r_icmp_gt 66 39 hZ dX8_run_36 (by decide) rfl (fun c_36 => ?_) (fun c_36 => ?_)
                · skip
                  exact absurd c_36 (show ¬ ((2 : Int32) < (2 : Int32)) by decide)
                · skip
                  refine r_aload_n 40 hZ 0 dX8_run_39 rfl rfl rfl ?_
                  refine g_X8_98 43 hZ dX8_run_40 rfl ?_
                  refine r_if_ne 66 46 hZ dX8_run_43 (by decide) rfl (fun c_43 => ?_) (fun c_43 => ?_)
                  · skip
                    refine r_aload_n 67 hZ 0 dX8_run_66 rfl rfl rfl ?_
                    refine g_X8_98 70 hZ dX8_run_67 rfl ?_
                    refine r_if_ne 75 73 hZ dX8_run_70 (by decide) rfl (fun c_70 => ?_) (fun c_70 => ?_)
                    · skip
                      refine r_aload_n 76 hZ 0 dX8_run_75 rfl rfl rfl ?_
                      change Z 0 0 (rw ad y (ruE τ N G 1) ρ) 76 _ _
                      refine r_callVV (c_X8_take_1 l g y ad (ruE τ N G 1) ρ (S := S) e6 hS6 hle rfl k0) wM_X8_take wL_X8_160 hZ rfl ⟨by decide, by decide⟩ 0 8 rfl rfl rfl rfl dX8_run_76 ?_
                      refine r_aload_n 80 hZ 0 dX8_run_79 rfl rfl rfl ?_
                      refine g_X8_157 83 hZ dX8_run_80 rfl ?_
                      refine w_eqI ((congrFun (tkτ_k (up (ruE τ N G 1) 0 9 1) 0 (by decide) _) 8).trans (show up (ruE τ N G 1) 0 9 1 0 8 = 1 from rfl)) ?_
                      exact hret _ _ _ _ dX8_run_83 rfl rfl
                    · skip
                      exact absurd c_70 (show ¬ ((1 : Int32) = (0 : Int32)) by decide)
                  · skip
                    exact absurd c_43 (show ¬ ((1 : Int32) = (0 : Int32)) by decide)
      · skip
        exact absurd c_22 (show ¬ ¬ ((0 : Int32) ≤ (0 : Int32)) by decide)
set_option maxHeartbeats 4000000 in
set_option maxRecDepth 100000 in
theorem c_X8_run_21_1n (l : Launch) (g : va_G) (y : Nat → ClassId) (ad : Nat → Nat) (τ : Nat → Nat → Int32) (ρ : Nat → Nat → Int64) {N G S : Nat} (hs : Rs τ N G) (hS : τ 0 6 = nI S) (hS6 : S ≤ 6) (p0 : ¬ ruP τ N G 0) (p1 : ruP τ N G 1) (hlt : S < 1) : w_C l g y yX8_run cX8_run 3 (some .int) 8 [.ref (ad 0), .int 2] (rw ad y τ ρ) (some (.int 1)) (rw ad y (up (ruE τ N G 1) 0 9 0) (upL ρ 0 0 0)) := by
  refine w_ofI (lv0 := [(0, .ref (ad 0)), (1, .int 2)]) (by decide +kernel) (Nat.le_of_ble_eq_true rfl) rfl (rfl) ?_
  intro Z hZ hret
  have hs0 : Rs (r7 τ) N G := Rs.c0 (Rs.c0 hs 0 0 (by decide) (by decide)) 7 0 (by decide) (by decide)
  have e6 : (ruE τ N G 1) 0 6 = nI S := (congrFun ((Rs_q1R N 0 (up (up (r7 τ) 0 7 0) 0 8 0) (by omega) (Rs.c0 (Rs.c0 hs0 7 0 (by decide) (by decide)) 8 0 (by decide) (by decide))).2 0 (by decide) (by decide) (by decide) (by decide) (by decide) (by decide)) 6).trans hS
  refine r_aload_n 1 hZ 0 dX8_run_0 rfl rfl rfl ?_
  refine r_iload_n 2 hZ 1 dX8_run_1 rfl rfl rfl ?_
  refine r_if_lt 14 5 hZ dX8_run_2 (by decide) rfl (fun c_2 => ?_) (fun c_2 => ?_)
  · skip
    exact absurd c_2 (show ¬ ((2 : Int32) < (0 : Int32)) by decide)
  · skip
    refine r_iload_n 6 hZ 1 dX8_run_5 rfl rfl rfl ?_
    refine r_iconst (v := 2) 7 hZ dX8_run_6 rfl (by decide) ?_
    refine r_icmp_gt 14 10 hZ dX8_run_7 (by decide) rfl (fun c_7 => ?_) (fun c_7 => ?_)
    · skip
      exact absurd c_7 (show ¬ ((2 : Int32) < (2 : Int32)) by decide)
    · skip
      refine r_iconst (v := 0) 11 hZ dX8_run_10 rfl (by decide) ?_
      refine r_goto 15 hZ dX8_run_11 (by decide) ?_
      refine p_X8_72 18 hZ dX8_run_15 rfl ?_
      refine r_aload_n 19 hZ 0 dX8_run_18 rfl rfl rfl ?_
      refine g_X8_72 22 hZ dX8_run_19 rfl ?_
      refine r_if_le 27 25 hZ dX8_run_22 (by decide) rfl (fun c_22 => ?_) (fun c_22 => ?_)
      · skip
        refine r_aload_n 28 hZ 0 dX8_run_27 rfl rfl rfl ?_
        refine r_iconst (v := 0) 29 hZ dX8_run_28 rfl (by decide) ?_
        refine p_X8_98 32 hZ (by first | exact Or.inl rfl | exact Or.inr rfl | exact bI_01 _) dX8_run_29 rfl ?_
        refine r_iconst (v := 0) 33 hZ dX8_run_32 rfl (by decide) ?_
        refine r_istnN 34 [(0, _), (1, _), (2, _)] hZ dX8_run_33 rfl rfl (by decide) rfl rfl ?_
        try rw [show (0 : Int32) + 1 = 1 from rfl]
        try rw [show (1 : Int32) + 1 = 2 from rfl]
        refine r_iload_n 35 hZ 2 dX8_run_34 rfl rfl rfl ?_
        refine r_iload_n 36 hZ 1 dX8_run_35 rfl rfl rfl ?_
        refine r_icmp_gt 66 39 hZ dX8_run_36 (by decide) rfl (fun c_36 => ?_) (fun c_36 => ?_)
        · skip
          exact absurd c_36 (show ¬ ((2 : Int32) < (0 : Int32)) by decide)
        · skip
          refine r_aload_n 40 hZ 0 dX8_run_39 rfl rfl rfl ?_
          refine g_X8_98 43 hZ dX8_run_40 rfl ?_
          refine r_if_ne 66 46 hZ dX8_run_43 (by decide) rfl (fun c_43 => ?_) (fun c_43 => ?_)
          · skip
            exact absurd c_43 (show ¬ (¬ (0 : Int32) = (0 : Int32)) by decide)
          · skip
            skip
            refine r_aload_n 47 hZ 0 dX8_run_46 rfl rfl rfl ?_
            refine r_aload_n 48 hZ 0 dX8_run_47 rfl rfl rfl ?_
            refine r_iload_n 49 hZ 2 dX8_run_48 rfl rfl rfl ?_
            refine r_callVI (c_X8_search_0 l g y ad (r7 τ) ρ hs0) wM_X8_search wL_X8_154 hZ rfl ⟨by decide, by decide⟩ 0 8 rfl rfl rfl rfl dX8_run_49 ?_
            refine w_eqI (bI_f p0) ?_
            refine p_X8_98 55 hZ (by first | exact Or.inl rfl | exact Or.inr rfl | exact bI_01 _) dX8_run_52 rfl ?_
            refine r_aload_n 56 hZ 0 dX8_run_55 rfl rfl rfl ?_
            refine r_iload_n 57 hZ 2 dX8_run_56 rfl rfl rfl ?_
            refine p_X8_157 60 hZ dX8_run_57 rfl ?_
            refine r_iinc 63 2 1 [(0, _), (1, _), (2, _)] hZ dX8_run_60 rfl rfl (by decide) (by decide) rfl rfl ?_
            refine r_goto 34 hZ dX8_run_63 (by decide) ?_
            try rw [show (0 : Int32) + 1 = 1 from rfl]
            try rw [show (1 : Int32) + 1 = 2 from rfl]
            refine r_iload_n 35 hZ 2 dX8_run_34 rfl rfl rfl ?_
            refine r_iload_n 36 hZ 1 dX8_run_35 rfl rfl rfl ?_
            refine r_icmp_gt 66 39 hZ dX8_run_36 (by decide) rfl (fun c_36 => ?_) (fun c_36 => ?_)
            · skip
              exact absurd c_36 (show ¬ ((2 : Int32) < (1 : Int32)) by decide)
            · skip
              refine r_aload_n 40 hZ 0 dX8_run_39 rfl rfl rfl ?_
              refine g_X8_98 43 hZ dX8_run_40 rfl ?_
              refine r_if_ne 66 46 hZ dX8_run_43 (by decide) rfl (fun c_43 => ?_) (fun c_43 => ?_)
              · skip
                exact absurd c_43 (show ¬ (¬ (0 : Int32) = (0 : Int32)) by decide)
              · skip
                skip
                refine r_aload_n 47 hZ 0 dX8_run_46 rfl rfl rfl ?_
                refine r_aload_n 48 hZ 0 dX8_run_47 rfl rfl rfl ?_
                refine r_iload_n 49 hZ 2 dX8_run_48 rfl rfl rfl ?_
                refine r_callVI (c_X8_search_1 l g y ad (up (up (r7 τ) 0 7 0) 0 8 0) ρ (Rs.c0 (Rs.c0 hs0 7 0 (by decide) (by decide)) 8 0 (by decide) (by decide))) wM_X8_search wL_X8_154 hZ rfl ⟨by decide, by decide⟩ 0 8 rfl rfl rfl rfl dX8_run_49 ?_
                refine w_eqI (bI_t p1) ?_
                refine p_X8_98 55 hZ (by first | exact Or.inl rfl | exact Or.inr rfl | exact bI_01 _) dX8_run_52 rfl ?_
                refine r_aload_n 56 hZ 0 dX8_run_55 rfl rfl rfl ?_
                refine r_iload_n 57 hZ 2 dX8_run_56 rfl rfl rfl ?_
                refine p_X8_157 60 hZ dX8_run_57 rfl ?_
                refine r_iinc 63 2 1 [(0, _), (1, _), (2, _)] hZ dX8_run_60 rfl rfl (by decide) (by decide) rfl rfl ?_
                refine r_goto 34 hZ dX8_run_63 (by decide) ?_
                try rw [show (0 : Int32) + 1 = 1 from rfl]
                try rw [show (1 : Int32) + 1 = 2 from rfl]
                refine r_iload_n 35 hZ 2 dX8_run_34 rfl rfl rfl ?_
                refine r_iload_n 36 hZ 1 dX8_run_35 rfl rfl rfl ?_
                refine r_icmp_gt 66 39 hZ dX8_run_36 (by decide) rfl (fun c_36 => ?_) (fun c_36 => ?_)
                · skip
                  exact absurd c_36 (show ¬ ((2 : Int32) < (2 : Int32)) by decide)
                · skip
                  refine r_aload_n 40 hZ 0 dX8_run_39 rfl rfl rfl ?_
                  refine g_X8_98 43 hZ dX8_run_40 rfl ?_
                  refine r_if_ne 66 46 hZ dX8_run_43 (by decide) rfl (fun c_43 => ?_) (fun c_43 => ?_)
                  · skip
                    refine r_aload_n 67 hZ 0 dX8_run_66 rfl rfl rfl ?_
                    refine g_X8_98 70 hZ dX8_run_67 rfl ?_
                    refine r_if_ne 75 73 hZ dX8_run_70 (by decide) rfl (fun c_70 => ?_) (fun c_70 => ?_)
                    · skip
                      refine r_aload_n 76 hZ 0 dX8_run_75 rfl rfl rfl ?_
                      change Z 0 0 (rw ad y (ruE τ N G 1) ρ) 76 _ _
                      refine r_callVV (c_X8_take_1n l g y ad (ruE τ N G 1) ρ (S := S) e6 hS6 hlt rfl) wM_X8_take wL_X8_160 hZ rfl ⟨by decide, by decide⟩ 0 8 rfl rfl rfl rfl dX8_run_76 ?_
                      refine r_aload_n 80 hZ 0 dX8_run_79 rfl rfl rfl ?_
                      refine g_X8_157 83 hZ dX8_run_80 rfl ?_
                      refine w_eqI ((show _ = (1 : Int32) from rfl)) ?_
                      exact hret _ _ _ _ dX8_run_83 rfl rfl
                    · skip
                      exact absurd c_70 (show ¬ ((1 : Int32) = (0 : Int32)) by decide)
                  · skip
                    exact absurd c_43 (show ¬ ((1 : Int32) = (0 : Int32)) by decide)
      · skip
        exact absurd c_22 (show ¬ ¬ ((0 : Int32) ≤ (0 : Int32)) by decide)
set_option maxHeartbeats 4000000 in
set_option maxRecDepth 100000 in
theorem c_X8_run_22_2 (l : Launch) (g : va_G) (y : Nat → ClassId) (ad : Nat → Nat) (τ : Nat → Nat → Int32) (ρ : Nat → Nat → Int64) {N G S : Nat} (hs : Rs τ N G) (hS : τ 0 6 = nI S) (hS6 : S ≤ 6) (p0 : ¬ ruP τ N G 0) (p1 : ¬ ruP τ N G 1) (p2 : ruP τ N G 2) (hle : 2 ≤ S) (k0 : okL ((ruE τ N G 2) 8 0) 40) (k1 : okL ((ruE τ N G 2) 8 1) 40) : w_C l g y yX8_run cX8_run 3 (some .int) 8 [.ref (ad 0), .int 2] (rw ad y τ ρ) (some (.int 2)) (rw ad y (tkτ (up (ruE τ N G 2) 0 9 1) (tB (ruE τ N G 2) ρ 2 S)) (tkρ (upL ρ 0 0 0) (tB (ruE τ N G 2) ρ 2 S))) := by
  refine w_ofI (lv0 := [(0, .ref (ad 0)), (1, .int 2)]) (by decide +kernel) (Nat.le_of_ble_eq_true rfl) rfl (rfl) ?_
  intro Z hZ hret
  have hs0 : Rs (r7 τ) N G := Rs.c0 (Rs.c0 hs 0 0 (by decide) (by decide)) 7 0 (by decide) (by decide)
  have e6 : (ruE τ N G 2) 0 6 = nI S := (congrFun ((Rs_q2O N 0 (ruA τ N G) (by omega) (Rs.c0 (Rs.c0 (Rs_q1R N 0 _ (by omega) (Rs.c0 (Rs.c0 hs0 7 0 (by decide) (by decide)) 8 0 (by decide) (by decide))).1 7 0 (by decide) (by decide)) 8 1 (by decide) (by decide))).2 0 (by decide) (by decide) (by decide) (by decide) (by decide) (by decide)) 6).trans ((congrFun ((Rs_q1R N 0 (up (up (r7 τ) 0 7 0) 0 8 0) (by omega) (Rs.c0 (Rs.c0 hs0 7 0 (by decide) (by decide)) 8 0 (by decide) (by decide))).2 0 (by decide) (by decide) (by decide) (by decide) (by decide) (by decide)) 6).trans hS)
  refine r_aload_n 1 hZ 0 dX8_run_0 rfl rfl rfl ?_
  refine r_iload_n 2 hZ 1 dX8_run_1 rfl rfl rfl ?_
  refine r_if_lt 14 5 hZ dX8_run_2 (by decide) rfl (fun c_2 => ?_) (fun c_2 => ?_)
  · skip
    exact absurd c_2 (show ¬ ((2 : Int32) < (0 : Int32)) by decide)
  · skip
    refine r_iload_n 6 hZ 1 dX8_run_5 rfl rfl rfl ?_
    refine r_iconst (v := 2) 7 hZ dX8_run_6 rfl (by decide) ?_
    refine r_icmp_gt 14 10 hZ dX8_run_7 (by decide) rfl (fun c_7 => ?_) (fun c_7 => ?_)
    · skip
      exact absurd c_7 (show ¬ ((2 : Int32) < (2 : Int32)) by decide)
    · skip
      refine r_iconst (v := 0) 11 hZ dX8_run_10 rfl (by decide) ?_
      refine r_goto 15 hZ dX8_run_11 (by decide) ?_
      refine p_X8_72 18 hZ dX8_run_15 rfl ?_
      refine r_aload_n 19 hZ 0 dX8_run_18 rfl rfl rfl ?_
      refine g_X8_72 22 hZ dX8_run_19 rfl ?_
      refine r_if_le 27 25 hZ dX8_run_22 (by decide) rfl (fun c_22 => ?_) (fun c_22 => ?_)
      · skip
        refine r_aload_n 28 hZ 0 dX8_run_27 rfl rfl rfl ?_
        refine r_iconst (v := 0) 29 hZ dX8_run_28 rfl (by decide) ?_
        refine p_X8_98 32 hZ (by first | exact Or.inl rfl | exact Or.inr rfl | exact bI_01 _) dX8_run_29 rfl ?_
        refine r_iconst (v := 0) 33 hZ dX8_run_32 rfl (by decide) ?_
        refine r_istnN 34 [(0, _), (1, _), (2, _)] hZ dX8_run_33 rfl rfl (by decide) rfl rfl ?_
        try rw [show (0 : Int32) + 1 = 1 from rfl]
        try rw [show (1 : Int32) + 1 = 2 from rfl]
        refine r_iload_n 35 hZ 2 dX8_run_34 rfl rfl rfl ?_
        refine r_iload_n 36 hZ 1 dX8_run_35 rfl rfl rfl ?_
        refine r_icmp_gt 66 39 hZ dX8_run_36 (by decide) rfl (fun c_36 => ?_) (fun c_36 => ?_)
        · skip
          exact absurd c_36 (show ¬ ((2 : Int32) < (0 : Int32)) by decide)
        · skip
          refine r_aload_n 40 hZ 0 dX8_run_39 rfl rfl rfl ?_
          refine g_X8_98 43 hZ dX8_run_40 rfl ?_
          refine r_if_ne 66 46 hZ dX8_run_43 (by decide) rfl (fun c_43 => ?_) (fun c_43 => ?_)
          · skip
            exact absurd c_43 (show ¬ (¬ (0 : Int32) = (0 : Int32)) by decide)
          · skip
            skip
            refine r_aload_n 47 hZ 0 dX8_run_46 rfl rfl rfl ?_
            refine r_aload_n 48 hZ 0 dX8_run_47 rfl rfl rfl ?_
            refine r_iload_n 49 hZ 2 dX8_run_48 rfl rfl rfl ?_
            refine r_callVI (c_X8_search_0 l g y ad (r7 τ) ρ hs0) wM_X8_search wL_X8_154 hZ rfl ⟨by decide, by decide⟩ 0 8 rfl rfl rfl rfl dX8_run_49 ?_
            refine w_eqI (bI_f p0) ?_
            refine p_X8_98 55 hZ (by first | exact Or.inl rfl | exact Or.inr rfl | exact bI_01 _) dX8_run_52 rfl ?_
            refine r_aload_n 56 hZ 0 dX8_run_55 rfl rfl rfl ?_
            refine r_iload_n 57 hZ 2 dX8_run_56 rfl rfl rfl ?_
            refine p_X8_157 60 hZ dX8_run_57 rfl ?_
            refine r_iinc 63 2 1 [(0, _), (1, _), (2, _)] hZ dX8_run_60 rfl rfl (by decide) (by decide) rfl rfl ?_
            refine r_goto 34 hZ dX8_run_63 (by decide) ?_
            try rw [show (0 : Int32) + 1 = 1 from rfl]
            try rw [show (1 : Int32) + 1 = 2 from rfl]
            refine r_iload_n 35 hZ 2 dX8_run_34 rfl rfl rfl ?_
            refine r_iload_n 36 hZ 1 dX8_run_35 rfl rfl rfl ?_
            refine r_icmp_gt 66 39 hZ dX8_run_36 (by decide) rfl (fun c_36 => ?_) (fun c_36 => ?_)
            · skip
              exact absurd c_36 (show ¬ ((2 : Int32) < (1 : Int32)) by decide)
            · skip
              refine r_aload_n 40 hZ 0 dX8_run_39 rfl rfl rfl ?_
              refine g_X8_98 43 hZ dX8_run_40 rfl ?_
              refine r_if_ne 66 46 hZ dX8_run_43 (by decide) rfl (fun c_43 => ?_) (fun c_43 => ?_)
              · skip
                exact absurd c_43 (show ¬ (¬ (0 : Int32) = (0 : Int32)) by decide)
              · skip
                skip
                refine r_aload_n 47 hZ 0 dX8_run_46 rfl rfl rfl ?_
                refine r_aload_n 48 hZ 0 dX8_run_47 rfl rfl rfl ?_
                refine r_iload_n 49 hZ 2 dX8_run_48 rfl rfl rfl ?_
                refine r_callVI (c_X8_search_1 l g y ad (up (up (r7 τ) 0 7 0) 0 8 0) ρ (Rs.c0 (Rs.c0 hs0 7 0 (by decide) (by decide)) 8 0 (by decide) (by decide))) wM_X8_search wL_X8_154 hZ rfl ⟨by decide, by decide⟩ 0 8 rfl rfl rfl rfl dX8_run_49 ?_
                refine w_eqI (bI_f p1) ?_
                refine p_X8_98 55 hZ (by first | exact Or.inl rfl | exact Or.inr rfl | exact bI_01 _) dX8_run_52 rfl ?_
                refine r_aload_n 56 hZ 0 dX8_run_55 rfl rfl rfl ?_
                refine r_iload_n 57 hZ 2 dX8_run_56 rfl rfl rfl ?_
                refine p_X8_157 60 hZ dX8_run_57 rfl ?_
                refine r_iinc 63 2 1 [(0, _), (1, _), (2, _)] hZ dX8_run_60 rfl rfl (by decide) (by decide) rfl rfl ?_
                refine r_goto 34 hZ dX8_run_63 (by decide) ?_
                try rw [show (0 : Int32) + 1 = 1 from rfl]
                try rw [show (1 : Int32) + 1 = 2 from rfl]
                refine r_iload_n 35 hZ 2 dX8_run_34 rfl rfl rfl ?_
                refine r_iload_n 36 hZ 1 dX8_run_35 rfl rfl rfl ?_
                refine r_icmp_gt 66 39 hZ dX8_run_36 (by decide) rfl (fun c_36 => ?_) (fun c_36 => ?_)
                · skip
                  exact absurd c_36 (show ¬ ((2 : Int32) < (2 : Int32)) by decide)
                · skip
                  refine r_aload_n 40 hZ 0 dX8_run_39 rfl rfl rfl ?_
                  refine g_X8_98 43 hZ dX8_run_40 rfl ?_
                  refine r_if_ne 66 46 hZ dX8_run_43 (by decide) rfl (fun c_43 => ?_) (fun c_43 => ?_)
                  · skip
                    exact absurd c_43 (show ¬ (¬ (0 : Int32) = (0 : Int32)) by decide)
                  · skip
                    skip
                    refine r_aload_n 47 hZ 0 dX8_run_46 rfl rfl rfl ?_
                    refine r_aload_n 48 hZ 0 dX8_run_47 rfl rfl rfl ?_
                    refine r_iload_n 49 hZ 2 dX8_run_48 rfl rfl rfl ?_
                    refine r_callVI (c_X8_search_2 l g y ad (ruA τ N G) ρ (Rs.c0 (Rs.c0 (Rs_q1R N 0 _ (by omega) (Rs.c0 (Rs.c0 hs0 7 0 (by decide) (by decide)) 8 0 (by decide) (by decide))).1 7 0 (by decide) (by decide)) 8 1 (by decide) (by decide))) wM_X8_search wL_X8_154 hZ rfl ⟨by decide, by decide⟩ 0 8 rfl rfl rfl rfl dX8_run_49 ?_
                    refine w_eqI (bI_t p2) ?_
                    refine p_X8_98 55 hZ (by first | exact Or.inl rfl | exact Or.inr rfl | exact bI_01 _) dX8_run_52 rfl ?_
                    refine r_aload_n 56 hZ 0 dX8_run_55 rfl rfl rfl ?_
                    refine r_iload_n 57 hZ 2 dX8_run_56 rfl rfl rfl ?_
                    refine p_X8_157 60 hZ dX8_run_57 rfl ?_
                    refine r_iinc 63 2 1 [(0, _), (1, _), (2, _)] hZ dX8_run_60 rfl rfl (by decide) (by decide) rfl rfl ?_
                    refine r_goto 34 hZ dX8_run_63 (by decide) ?_
                    try rw [show (0 : Int32) + 1 = 1 from rfl]
                    try rw [show (1 : Int32) + 1 = 2 from rfl]
                    refine r_iload_n 35 hZ 2 dX8_run_34 rfl rfl rfl ?_
                    refine r_iload_n 36 hZ 1 dX8_run_35 rfl rfl rfl ?_
                    refine r_icmp_gt 66 39 hZ dX8_run_36 (by decide) rfl (fun c_36 => ?_) (fun c_36 => ?_)
                    · skip
                      refine r_aload_n 67 hZ 0 dX8_run_66 rfl rfl rfl ?_
                      refine g_X8_98 70 hZ dX8_run_67 rfl ?_
                      refine r_if_ne 75 73 hZ dX8_run_70 (by decide) rfl (fun c_70 => ?_) (fun c_70 => ?_)
                      · skip
                        refine r_aload_n 76 hZ 0 dX8_run_75 rfl rfl rfl ?_
                        change Z 0 0 (rw ad y (ruE τ N G 2) ρ) 76 _ _
                        refine r_callVV (c_X8_take_2 l g y ad (ruE τ N G 2) ρ (S := S) e6 hS6 hle rfl k0 k1) wM_X8_take wL_X8_160 hZ rfl ⟨by decide, by decide⟩ 0 8 rfl rfl rfl rfl dX8_run_76 ?_
                        refine r_aload_n 80 hZ 0 dX8_run_79 rfl rfl rfl ?_
                        refine g_X8_157 83 hZ dX8_run_80 rfl ?_
                        refine w_eqI ((congrFun (tkτ_k (up (ruE τ N G 2) 0 9 1) 0 (by decide) _) 8).trans (show up (ruE τ N G 2) 0 9 1 0 8 = 2 from rfl)) ?_
                        exact hret _ _ _ _ dX8_run_83 rfl rfl
                      · skip
                        exact absurd c_70 (show ¬ ((1 : Int32) = (0 : Int32)) by decide)
                    · skip
                      exact absurd c_36 (show ¬ ¬ ((2 : Int32) < (3 : Int32)) by decide)
      · skip
        exact absurd c_22 (show ¬ ¬ ((0 : Int32) ≤ (0 : Int32)) by decide)
set_option maxHeartbeats 4000000 in
set_option maxRecDepth 100000 in
theorem c_X8_run_22_2n (l : Launch) (g : va_G) (y : Nat → ClassId) (ad : Nat → Nat) (τ : Nat → Nat → Int32) (ρ : Nat → Nat → Int64) {N G S : Nat} (hs : Rs τ N G) (hS : τ 0 6 = nI S) (hS6 : S ≤ 6) (p0 : ¬ ruP τ N G 0) (p1 : ¬ ruP τ N G 1) (p2 : ruP τ N G 2) (hlt : S < 2) : w_C l g y yX8_run cX8_run 3 (some .int) 8 [.ref (ad 0), .int 2] (rw ad y τ ρ) (some (.int 2)) (rw ad y (up (ruE τ N G 2) 0 9 0) (upL ρ 0 0 0)) := by
  refine w_ofI (lv0 := [(0, .ref (ad 0)), (1, .int 2)]) (by decide +kernel) (Nat.le_of_ble_eq_true rfl) rfl (rfl) ?_
  intro Z hZ hret
  have hs0 : Rs (r7 τ) N G := Rs.c0 (Rs.c0 hs 0 0 (by decide) (by decide)) 7 0 (by decide) (by decide)
  have e6 : (ruE τ N G 2) 0 6 = nI S := (congrFun ((Rs_q2O N 0 (ruA τ N G) (by omega) (Rs.c0 (Rs.c0 (Rs_q1R N 0 _ (by omega) (Rs.c0 (Rs.c0 hs0 7 0 (by decide) (by decide)) 8 0 (by decide) (by decide))).1 7 0 (by decide) (by decide)) 8 1 (by decide) (by decide))).2 0 (by decide) (by decide) (by decide) (by decide) (by decide) (by decide)) 6).trans ((congrFun ((Rs_q1R N 0 (up (up (r7 τ) 0 7 0) 0 8 0) (by omega) (Rs.c0 (Rs.c0 hs0 7 0 (by decide) (by decide)) 8 0 (by decide) (by decide))).2 0 (by decide) (by decide) (by decide) (by decide) (by decide) (by decide)) 6).trans hS)
  refine r_aload_n 1 hZ 0 dX8_run_0 rfl rfl rfl ?_
  refine r_iload_n 2 hZ 1 dX8_run_1 rfl rfl rfl ?_
  refine r_if_lt 14 5 hZ dX8_run_2 (by decide) rfl (fun c_2 => ?_) (fun c_2 => ?_)
  · skip
    exact absurd c_2 (show ¬ ((2 : Int32) < (0 : Int32)) by decide)
  · skip
    refine r_iload_n 6 hZ 1 dX8_run_5 rfl rfl rfl ?_
    refine r_iconst (v := 2) 7 hZ dX8_run_6 rfl (by decide) ?_
    refine r_icmp_gt 14 10 hZ dX8_run_7 (by decide) rfl (fun c_7 => ?_) (fun c_7 => ?_)
    · skip
      exact absurd c_7 (show ¬ ((2 : Int32) < (2 : Int32)) by decide)
    · skip
      refine r_iconst (v := 0) 11 hZ dX8_run_10 rfl (by decide) ?_
      refine r_goto 15 hZ dX8_run_11 (by decide) ?_
      refine p_X8_72 18 hZ dX8_run_15 rfl ?_
      refine r_aload_n 19 hZ 0 dX8_run_18 rfl rfl rfl ?_
      refine g_X8_72 22 hZ dX8_run_19 rfl ?_
      refine r_if_le 27 25 hZ dX8_run_22 (by decide) rfl (fun c_22 => ?_) (fun c_22 => ?_)
      · skip
        refine r_aload_n 28 hZ 0 dX8_run_27 rfl rfl rfl ?_
        refine r_iconst (v := 0) 29 hZ dX8_run_28 rfl (by decide) ?_
        refine p_X8_98 32 hZ (by first | exact Or.inl rfl | exact Or.inr rfl | exact bI_01 _) dX8_run_29 rfl ?_
        refine r_iconst (v := 0) 33 hZ dX8_run_32 rfl (by decide) ?_
        refine r_istnN 34 [(0, _), (1, _), (2, _)] hZ dX8_run_33 rfl rfl (by decide) rfl rfl ?_
        try rw [show (0 : Int32) + 1 = 1 from rfl]
        try rw [show (1 : Int32) + 1 = 2 from rfl]
        refine r_iload_n 35 hZ 2 dX8_run_34 rfl rfl rfl ?_
        refine r_iload_n 36 hZ 1 dX8_run_35 rfl rfl rfl ?_
        refine r_icmp_gt 66 39 hZ dX8_run_36 (by decide) rfl (fun c_36 => ?_) (fun c_36 => ?_)
        · skip
          exact absurd c_36 (show ¬ ((2 : Int32) < (0 : Int32)) by decide)
        · skip
          refine r_aload_n 40 hZ 0 dX8_run_39 rfl rfl rfl ?_
          refine g_X8_98 43 hZ dX8_run_40 rfl ?_
          refine r_if_ne 66 46 hZ dX8_run_43 (by decide) rfl (fun c_43 => ?_) (fun c_43 => ?_)
          · skip
            exact absurd c_43 (show ¬ (¬ (0 : Int32) = (0 : Int32)) by decide)
          · skip
            skip
            refine r_aload_n 47 hZ 0 dX8_run_46 rfl rfl rfl ?_
            refine r_aload_n 48 hZ 0 dX8_run_47 rfl rfl rfl ?_
            refine r_iload_n 49 hZ 2 dX8_run_48 rfl rfl rfl ?_
            refine r_callVI (c_X8_search_0 l g y ad (r7 τ) ρ hs0) wM_X8_search wL_X8_154 hZ rfl ⟨by decide, by decide⟩ 0 8 rfl rfl rfl rfl dX8_run_49 ?_
            refine w_eqI (bI_f p0) ?_
            refine p_X8_98 55 hZ (by first | exact Or.inl rfl | exact Or.inr rfl | exact bI_01 _) dX8_run_52 rfl ?_
            refine r_aload_n 56 hZ 0 dX8_run_55 rfl rfl rfl ?_
            refine r_iload_n 57 hZ 2 dX8_run_56 rfl rfl rfl ?_
            refine p_X8_157 60 hZ dX8_run_57 rfl ?_
            refine r_iinc 63 2 1 [(0, _), (1, _), (2, _)] hZ dX8_run_60 rfl rfl (by decide) (by decide) rfl rfl ?_
            refine r_goto 34 hZ dX8_run_63 (by decide) ?_
            try rw [show (0 : Int32) + 1 = 1 from rfl]
            try rw [show (1 : Int32) + 1 = 2 from rfl]
            refine r_iload_n 35 hZ 2 dX8_run_34 rfl rfl rfl ?_
            refine r_iload_n 36 hZ 1 dX8_run_35 rfl rfl rfl ?_
            refine r_icmp_gt 66 39 hZ dX8_run_36 (by decide) rfl (fun c_36 => ?_) (fun c_36 => ?_)
            · skip
              exact absurd c_36 (show ¬ ((2 : Int32) < (1 : Int32)) by decide)
            · skip
              refine r_aload_n 40 hZ 0 dX8_run_39 rfl rfl rfl ?_
              refine g_X8_98 43 hZ dX8_run_40 rfl ?_
              refine r_if_ne 66 46 hZ dX8_run_43 (by decide) rfl (fun c_43 => ?_) (fun c_43 => ?_)
              · skip
                exact absurd c_43 (show ¬ (¬ (0 : Int32) = (0 : Int32)) by decide)
              · skip
                skip
                refine r_aload_n 47 hZ 0 dX8_run_46 rfl rfl rfl ?_
                refine r_aload_n 48 hZ 0 dX8_run_47 rfl rfl rfl ?_
                refine r_iload_n 49 hZ 2 dX8_run_48 rfl rfl rfl ?_
                refine r_callVI (c_X8_search_1 l g y ad (up (up (r7 τ) 0 7 0) 0 8 0) ρ (Rs.c0 (Rs.c0 hs0 7 0 (by decide) (by decide)) 8 0 (by decide) (by decide))) wM_X8_search wL_X8_154 hZ rfl ⟨by decide, by decide⟩ 0 8 rfl rfl rfl rfl dX8_run_49 ?_
                refine w_eqI (bI_f p1) ?_
                refine p_X8_98 55 hZ (by first | exact Or.inl rfl | exact Or.inr rfl | exact bI_01 _) dX8_run_52 rfl ?_
                refine r_aload_n 56 hZ 0 dX8_run_55 rfl rfl rfl ?_
                refine r_iload_n 57 hZ 2 dX8_run_56 rfl rfl rfl ?_
                refine p_X8_157 60 hZ dX8_run_57 rfl ?_
                refine r_iinc 63 2 1 [(0, _), (1, _), (2, _)] hZ dX8_run_60 rfl rfl (by decide) (by decide) rfl rfl ?_
                refine r_goto 34 hZ dX8_run_63 (by decide) ?_
                try rw [show (0 : Int32) + 1 = 1 from rfl]
                try rw [show (1 : Int32) + 1 = 2 from rfl]
                refine r_iload_n 35 hZ 2 dX8_run_34 rfl rfl rfl ?_
                refine r_iload_n 36 hZ 1 dX8_run_35 rfl rfl rfl ?_
                refine r_icmp_gt 66 39 hZ dX8_run_36 (by decide) rfl (fun c_36 => ?_) (fun c_36 => ?_)
                · skip
                  exact absurd c_36 (show ¬ ((2 : Int32) < (2 : Int32)) by decide)
                · skip
                  refine r_aload_n 40 hZ 0 dX8_run_39 rfl rfl rfl ?_
                  refine g_X8_98 43 hZ dX8_run_40 rfl ?_
                  refine r_if_ne 66 46 hZ dX8_run_43 (by decide) rfl (fun c_43 => ?_) (fun c_43 => ?_)
                  · skip
                    exact absurd c_43 (show ¬ (¬ (0 : Int32) = (0 : Int32)) by decide)
                  · skip
                    skip
                    refine r_aload_n 47 hZ 0 dX8_run_46 rfl rfl rfl ?_
                    refine r_aload_n 48 hZ 0 dX8_run_47 rfl rfl rfl ?_
                    refine r_iload_n 49 hZ 2 dX8_run_48 rfl rfl rfl ?_
                    refine r_callVI (c_X8_search_2 l g y ad (ruA τ N G) ρ (Rs.c0 (Rs.c0 (Rs_q1R N 0 _ (by omega) (Rs.c0 (Rs.c0 hs0 7 0 (by decide) (by decide)) 8 0 (by decide) (by decide))).1 7 0 (by decide) (by decide)) 8 1 (by decide) (by decide))) wM_X8_search wL_X8_154 hZ rfl ⟨by decide, by decide⟩ 0 8 rfl rfl rfl rfl dX8_run_49 ?_
                    refine w_eqI (bI_t p2) ?_
                    refine p_X8_98 55 hZ (by first | exact Or.inl rfl | exact Or.inr rfl | exact bI_01 _) dX8_run_52 rfl ?_
                    refine r_aload_n 56 hZ 0 dX8_run_55 rfl rfl rfl ?_
                    refine r_iload_n 57 hZ 2 dX8_run_56 rfl rfl rfl ?_
                    refine p_X8_157 60 hZ dX8_run_57 rfl ?_
                    refine r_iinc 63 2 1 [(0, _), (1, _), (2, _)] hZ dX8_run_60 rfl rfl (by decide) (by decide) rfl rfl ?_
                    refine r_goto 34 hZ dX8_run_63 (by decide) ?_
                    try rw [show (0 : Int32) + 1 = 1 from rfl]
                    try rw [show (1 : Int32) + 1 = 2 from rfl]
                    refine r_iload_n 35 hZ 2 dX8_run_34 rfl rfl rfl ?_
                    refine r_iload_n 36 hZ 1 dX8_run_35 rfl rfl rfl ?_
                    refine r_icmp_gt 66 39 hZ dX8_run_36 (by decide) rfl (fun c_36 => ?_) (fun c_36 => ?_)
                    · skip
                      refine r_aload_n 67 hZ 0 dX8_run_66 rfl rfl rfl ?_
                      refine g_X8_98 70 hZ dX8_run_67 rfl ?_
                      refine r_if_ne 75 73 hZ dX8_run_70 (by decide) rfl (fun c_70 => ?_) (fun c_70 => ?_)
                      · skip
                        refine r_aload_n 76 hZ 0 dX8_run_75 rfl rfl rfl ?_
                        change Z 0 0 (rw ad y (ruE τ N G 2) ρ) 76 _ _
                        refine r_callVV (c_X8_take_2n l g y ad (ruE τ N G 2) ρ (S := S) e6 hS6 hlt rfl) wM_X8_take wL_X8_160 hZ rfl ⟨by decide, by decide⟩ 0 8 rfl rfl rfl rfl dX8_run_76 ?_
                        refine r_aload_n 80 hZ 0 dX8_run_79 rfl rfl rfl ?_
                        refine g_X8_157 83 hZ dX8_run_80 rfl ?_
                        refine w_eqI ((show _ = (2 : Int32) from rfl)) ?_
                        exact hret _ _ _ _ dX8_run_83 rfl rfl
                      · skip
                        exact absurd c_70 (show ¬ ((1 : Int32) = (0 : Int32)) by decide)
                    · skip
                      exact absurd c_36 (show ¬ ¬ ((2 : Int32) < (3 : Int32)) by decide)
      · skip
        exact absurd c_22 (show ¬ ¬ ((0 : Int32) ≤ (0 : Int32)) by decide)
set_option maxHeartbeats 4000000 in
set_option maxRecDepth 100000 in
theorem c_X8_run_2n (l : Launch) (g : va_G) (y : Nat → ClassId) (ad : Nat → Nat) (τ : Nat → Nat → Int32) (ρ : Nat → Nat → Int64) {N G S : Nat} (hs : Rs τ N G) (hS : τ 0 6 = nI S) (hS6 : S ≤ 6) (p0 : ¬ ruP τ N G 0) (p1 : ¬ ruP τ N G 1) (p2 : ¬ ruP τ N G 2) : w_C l g y yX8_run cX8_run 3 (some .int) 8 [.ref (ad 0), .int 2] (rw ad y τ ρ) (some (.int (-1))) (rw ad y (ruN τ N G 2) ρ) := by
  refine w_ofI (lv0 := [(0, .ref (ad 0)), (1, .int 2)]) (by decide +kernel) (Nat.le_of_ble_eq_true rfl) rfl (rfl) ?_
  intro Z hZ hret
  have hs0 : Rs (r7 τ) N G := Rs.c0 (Rs.c0 hs 0 0 (by decide) (by decide)) 7 0 (by decide) (by decide)
  refine r_aload_n 1 hZ 0 dX8_run_0 rfl rfl rfl ?_
  refine r_iload_n 2 hZ 1 dX8_run_1 rfl rfl rfl ?_
  refine r_if_lt 14 5 hZ dX8_run_2 (by decide) rfl (fun c_2 => ?_) (fun c_2 => ?_)
  · skip
    exact absurd c_2 (show ¬ ((2 : Int32) < (0 : Int32)) by decide)
  · skip
    refine r_iload_n 6 hZ 1 dX8_run_5 rfl rfl rfl ?_
    refine r_iconst (v := 2) 7 hZ dX8_run_6 rfl (by decide) ?_
    refine r_icmp_gt 14 10 hZ dX8_run_7 (by decide) rfl (fun c_7 => ?_) (fun c_7 => ?_)
    · skip
      exact absurd c_7 (show ¬ ((2 : Int32) < (2 : Int32)) by decide)
    · skip
      refine r_iconst (v := 0) 11 hZ dX8_run_10 rfl (by decide) ?_
      refine r_goto 15 hZ dX8_run_11 (by decide) ?_
      refine p_X8_72 18 hZ dX8_run_15 rfl ?_
      refine r_aload_n 19 hZ 0 dX8_run_18 rfl rfl rfl ?_
      refine g_X8_72 22 hZ dX8_run_19 rfl ?_
      refine r_if_le 27 25 hZ dX8_run_22 (by decide) rfl (fun c_22 => ?_) (fun c_22 => ?_)
      · skip
        refine r_aload_n 28 hZ 0 dX8_run_27 rfl rfl rfl ?_
        refine r_iconst (v := 0) 29 hZ dX8_run_28 rfl (by decide) ?_
        refine p_X8_98 32 hZ (by first | exact Or.inl rfl | exact Or.inr rfl | exact bI_01 _) dX8_run_29 rfl ?_
        refine r_iconst (v := 0) 33 hZ dX8_run_32 rfl (by decide) ?_
        refine r_istnN 34 [(0, _), (1, _), (2, _)] hZ dX8_run_33 rfl rfl (by decide) rfl rfl ?_
        try rw [show (0 : Int32) + 1 = 1 from rfl]
        try rw [show (1 : Int32) + 1 = 2 from rfl]
        refine r_iload_n 35 hZ 2 dX8_run_34 rfl rfl rfl ?_
        refine r_iload_n 36 hZ 1 dX8_run_35 rfl rfl rfl ?_
        refine r_icmp_gt 66 39 hZ dX8_run_36 (by decide) rfl (fun c_36 => ?_) (fun c_36 => ?_)
        · skip
          exact absurd c_36 (show ¬ ((2 : Int32) < (0 : Int32)) by decide)
        · skip
          refine r_aload_n 40 hZ 0 dX8_run_39 rfl rfl rfl ?_
          refine g_X8_98 43 hZ dX8_run_40 rfl ?_
          refine r_if_ne 66 46 hZ dX8_run_43 (by decide) rfl (fun c_43 => ?_) (fun c_43 => ?_)
          · skip
            exact absurd c_43 (show ¬ (¬ (0 : Int32) = (0 : Int32)) by decide)
          · skip
            skip
            refine r_aload_n 47 hZ 0 dX8_run_46 rfl rfl rfl ?_
            refine r_aload_n 48 hZ 0 dX8_run_47 rfl rfl rfl ?_
            refine r_iload_n 49 hZ 2 dX8_run_48 rfl rfl rfl ?_
            refine r_callVI (c_X8_search_0 l g y ad (r7 τ) ρ hs0) wM_X8_search wL_X8_154 hZ rfl ⟨by decide, by decide⟩ 0 8 rfl rfl rfl rfl dX8_run_49 ?_
            refine w_eqI (bI_f p0) ?_
            refine p_X8_98 55 hZ (by first | exact Or.inl rfl | exact Or.inr rfl | exact bI_01 _) dX8_run_52 rfl ?_
            refine r_aload_n 56 hZ 0 dX8_run_55 rfl rfl rfl ?_
            refine r_iload_n 57 hZ 2 dX8_run_56 rfl rfl rfl ?_
            refine p_X8_157 60 hZ dX8_run_57 rfl ?_
            refine r_iinc 63 2 1 [(0, _), (1, _), (2, _)] hZ dX8_run_60 rfl rfl (by decide) (by decide) rfl rfl ?_
            refine r_goto 34 hZ dX8_run_63 (by decide) ?_
            try rw [show (0 : Int32) + 1 = 1 from rfl]
            try rw [show (1 : Int32) + 1 = 2 from rfl]
            refine r_iload_n 35 hZ 2 dX8_run_34 rfl rfl rfl ?_
            refine r_iload_n 36 hZ 1 dX8_run_35 rfl rfl rfl ?_
            refine r_icmp_gt 66 39 hZ dX8_run_36 (by decide) rfl (fun c_36 => ?_) (fun c_36 => ?_)
            · skip
              exact absurd c_36 (show ¬ ((2 : Int32) < (1 : Int32)) by decide)
            · skip
              refine r_aload_n 40 hZ 0 dX8_run_39 rfl rfl rfl ?_
              refine g_X8_98 43 hZ dX8_run_40 rfl ?_
              refine r_if_ne 66 46 hZ dX8_run_43 (by decide) rfl (fun c_43 => ?_) (fun c_43 => ?_)
              · skip
                exact absurd c_43 (show ¬ (¬ (0 : Int32) = (0 : Int32)) by decide)
              · skip
                skip
                refine r_aload_n 47 hZ 0 dX8_run_46 rfl rfl rfl ?_
                refine r_aload_n 48 hZ 0 dX8_run_47 rfl rfl rfl ?_
                refine r_iload_n 49 hZ 2 dX8_run_48 rfl rfl rfl ?_
                refine r_callVI (c_X8_search_1 l g y ad (up (up (r7 τ) 0 7 0) 0 8 0) ρ (Rs.c0 (Rs.c0 hs0 7 0 (by decide) (by decide)) 8 0 (by decide) (by decide))) wM_X8_search wL_X8_154 hZ rfl ⟨by decide, by decide⟩ 0 8 rfl rfl rfl rfl dX8_run_49 ?_
                refine w_eqI (bI_f p1) ?_
                refine p_X8_98 55 hZ (by first | exact Or.inl rfl | exact Or.inr rfl | exact bI_01 _) dX8_run_52 rfl ?_
                refine r_aload_n 56 hZ 0 dX8_run_55 rfl rfl rfl ?_
                refine r_iload_n 57 hZ 2 dX8_run_56 rfl rfl rfl ?_
                refine p_X8_157 60 hZ dX8_run_57 rfl ?_
                refine r_iinc 63 2 1 [(0, _), (1, _), (2, _)] hZ dX8_run_60 rfl rfl (by decide) (by decide) rfl rfl ?_
                refine r_goto 34 hZ dX8_run_63 (by decide) ?_
                try rw [show (0 : Int32) + 1 = 1 from rfl]
                try rw [show (1 : Int32) + 1 = 2 from rfl]
                refine r_iload_n 35 hZ 2 dX8_run_34 rfl rfl rfl ?_
                refine r_iload_n 36 hZ 1 dX8_run_35 rfl rfl rfl ?_
                refine r_icmp_gt 66 39 hZ dX8_run_36 (by decide) rfl (fun c_36 => ?_) (fun c_36 => ?_)
                · skip
                  exact absurd c_36 (show ¬ ((2 : Int32) < (2 : Int32)) by decide)
                · skip
                  refine r_aload_n 40 hZ 0 dX8_run_39 rfl rfl rfl ?_
                  refine g_X8_98 43 hZ dX8_run_40 rfl ?_
                  refine r_if_ne 66 46 hZ dX8_run_43 (by decide) rfl (fun c_43 => ?_) (fun c_43 => ?_)
                  · skip
                    exact absurd c_43 (show ¬ (¬ (0 : Int32) = (0 : Int32)) by decide)
                  · skip
                    skip
                    refine r_aload_n 47 hZ 0 dX8_run_46 rfl rfl rfl ?_
                    refine r_aload_n 48 hZ 0 dX8_run_47 rfl rfl rfl ?_
                    refine r_iload_n 49 hZ 2 dX8_run_48 rfl rfl rfl ?_
                    refine r_callVI (c_X8_search_2 l g y ad (ruA τ N G) ρ (Rs.c0 (Rs.c0 (Rs_q1R N 0 _ (by omega) (Rs.c0 (Rs.c0 hs0 7 0 (by decide) (by decide)) 8 0 (by decide) (by decide))).1 7 0 (by decide) (by decide)) 8 1 (by decide) (by decide))) wM_X8_search wL_X8_154 hZ rfl ⟨by decide, by decide⟩ 0 8 rfl rfl rfl rfl dX8_run_49 ?_
                    refine w_eqI (bI_f p2) ?_
                    refine p_X8_98 55 hZ (by first | exact Or.inl rfl | exact Or.inr rfl | exact bI_01 _) dX8_run_52 rfl ?_
                    refine r_aload_n 56 hZ 0 dX8_run_55 rfl rfl rfl ?_
                    refine r_iload_n 57 hZ 2 dX8_run_56 rfl rfl rfl ?_
                    refine p_X8_157 60 hZ dX8_run_57 rfl ?_
                    refine r_iinc 63 2 1 [(0, _), (1, _), (2, _)] hZ dX8_run_60 rfl rfl (by decide) (by decide) rfl rfl ?_
                    refine r_goto 34 hZ dX8_run_63 (by decide) ?_
                    try rw [show (0 : Int32) + 1 = 1 from rfl]
                    try rw [show (1 : Int32) + 1 = 2 from rfl]
                    refine r_iload_n 35 hZ 2 dX8_run_34 rfl rfl rfl ?_
                    refine r_iload_n 36 hZ 1 dX8_run_35 rfl rfl rfl ?_
                    refine r_icmp_gt 66 39 hZ dX8_run_36 (by decide) rfl (fun c_36 => ?_) (fun c_36 => ?_)
                    · skip
                      refine r_aload_n 67 hZ 0 dX8_run_66 rfl rfl rfl ?_
                      refine g_X8_98 70 hZ dX8_run_67 rfl ?_
                      refine r_if_ne 75 73 hZ dX8_run_70 (by decide) rfl (fun c_70 => ?_) (fun c_70 => ?_)
                      · skip
                        exact absurd c_70 (show ¬ (¬ (0 : Int32) = (0 : Int32)) by decide)
                      · skip
                        refine r_iconst (v := (-1)) 74 hZ dX8_run_73 rfl (by decide) ?_
                        exact hret _ _ _ _ dX8_run_74 rfl rfl
                    · skip
                      exact absurd c_36 (show ¬ ¬ ((2 : Int32) < (3 : Int32)) by decide)
      · skip
        exact absurd c_22 (show ¬ ¬ ((0 : Int32) ≤ (0 : Int32)) by decide)
