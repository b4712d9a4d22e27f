theorem ix0 : (0 : Int32).toNatClampNeg = 0 := rfl
theorem ix1 : (1 : Int32).toNatClampNeg = 1 := rfl
/-- a store that the reference's search may leave -/
def Lr (τ t : stT) : Prop := ∀ k, k ≠ 2 → k ≠ 3 → k ≠ 4 → k ≠ 8 → k ≠ 9 → k ≠ 10 → t k = τ k
theorem Lr.rf (τ : stT) : Lr τ τ := fun _ _ _ _ _ _ _ => rfl
theorem Lr.tr {a b c : stT} (h : Lr a b) (h2 : Lr b c) : Lr a c := fun k h2' h3 h4 h8 h9 h10 => (h2 k h2' h3 h4 h8 h9 h10).trans (h k h2' h3 h4 h8 h9 h10)
theorem Lr.r23 (t : stT) (n a b : Nat) : Lr t (r23 t n a b) := fun k h2 h3 _ _ _ _ => by
  show (if k = 3 then _ else if k = 2 then _ else _) = _
  rw [if_neg h3, if_neg h2]
theorem Lr.ed (t : stT) (n : Nat) (x z : Int32) : Lr t (up (up t 2 n x) 3 n z) := fun k h2 h3 _ _ _ _ => by
  show (if k = 3 then _ else if k = 2 then _ else _) = _
  rw [if_neg h3, if_neg h2]
theorem Lr.wo (t : stT) (b i : Nat) : Lr t (woF t b i) := fun k _ _ h4 _ _ _ => woF_k t b k h4 i
theorem Lr.pt (t : stT) (j : Nat) (x z w : Int32) : Lr t (up (up (up t 8 j x) 9 j z) 10 j w) := fun k _ _ _ h8 h9 h10 => by
  show (if k = 10 then _ else if k = 9 then _ else if k = 8 then _ else _) = _
  rw [if_neg h10, if_neg h9, if_neg h8]
theorem Rs_s2I {N G m a : Nat} (hm : 2 * m ≤ 80) (ha : a < 80) : ∀ (c b : Nat) (t : stT), b + c ≤ 80 → Rs t N G → Rs (s2I N G m a b c t).2 N G ∧ Lr t (s2I N G m a b c t).2
  | 0, _, t, _, h => ⟨h, Lr.rf t⟩
  | c + 1, b, t, hb, h => by
    by_cases hk : ¬ t 1 (a / 2) = 3 ∧ ¬ t 1 (b / 2) = 3
    · have h1 : Rs (woF (r23 t m a b) m (N - m)) N G := (h.r23 m (by omega) (by omega)).wo m (N - m)
      have l1 : Lr t (woF (r23 t m a b) m (N - m)) := (Lr.r23 t m a b).tr (Lr.wo _ _ _)
      by_cases hr : apP (woF (r23 t m a b) m (N - m)) G
      · rw [s2I_t hk hr]; exact ⟨h1.pt 1 _ _ _, l1.tr (Lr.pt _ 1 _ _ _)⟩
      · rw [s2I_f hk hr]
        obtain ⟨q1, q2⟩ := Rs_s2I hm ha c (b + 1) _ (by omega) h1
        exact ⟨q1, l1.tr q2⟩
    · rw [s2I_k hk]; exact Rs_s2I hm ha c (b + 1) t (by omega) h
theorem Rs_s2O {N G m : Nat} (hm : 2 * m ≤ 80) : ∀ (c a : Nat) (t : stT), a + c ≤ 2 * m → Rs t N G → Rs (s2O N G m a c t).2 N G ∧ Lr t (s2O N G m a c t).2
  | 0, _, t, _, h => ⟨h, Lr.rf t⟩
  | c + 1, a, t, hb, h => by
    obtain ⟨q1, q2⟩ := Rs_s2I hm (show a < 80 by omega) (2 * m - a) a t (by omega) h
    by_cases hr : (s2I N G m a a (2 * m - a) t).1 = true
    · rw [s2O_t hr]; exact ⟨q1, q2⟩
    · rw [s2O_f hr]
      obtain ⟨q3, q4⟩ := Rs_s2O hm c (a + 1) _ (by omega) q1
      exact ⟨q3, q2.tr q4⟩
theorem Rs_s2R {N G m : Nat} {t : stT} (hN : m < N) (h : Rs t N G) (hm : t 1 m = 2) : Rs (s2R N G m t).2 N G ∧ Lr t (s2R N G m t).2 := by
  have h38 := h.2.2.1
  obtain ⟨q1, q2⟩ := Rs_s2O (N := N) (G := G) (m := m) (by omega) (2 * m) 0 t (by omega) h
  have k := h.2.2.2.2.1 m hN (Or.inl hm)
  exact ⟨(q1.ed m k.1 k.2).wo m (N - m), (q2.tr (Lr.ed _ m _ _)).tr (Lr.wo _ _ _)⟩
noncomputable def s1I (N G n a : Nat) : Nat → Nat → stT → Bool × stT
  | _, 0, t => (false, t)
  | b, c + 1, t => @ite _ (¬ t 1 (a / 2) = 3 ∧ ¬ t 1 (b / 2) = 3) (Classical.propDecidable _)
      (@ite _ (apP (woF (r23 t n a b) n (N - n)) G) (Classical.propDecidable _) (true, up (up (up (woF (r23 t n a b) n (N - n)) 8 0 (nI n)) 9 0 (nI a)) 10 0 (nI b)) (s1I N G n a (b + 1) c (woF (r23 t n a b) n (N - n))))
      (s1I N G n a (b + 1) c t)
theorem s1I_k {N G m a b c : Nat} {t : stT} (h : ¬ (¬ t 1 (a / 2) = 3 ∧ ¬ t 1 (b / 2) = 3)) : s1I N G m a b (c + 1) t = s1I N G m a (b + 1) c t := if_neg h
theorem s1I_t {N G m a b c : Nat} {t : stT} (h : ¬ t 1 (a / 2) = 3 ∧ ¬ t 1 (b / 2) = 3) (hr : apP (woF (r23 t m a b) m (N - m)) G) : s1I N G m a b (c + 1) t = (true, up (up (up (woF (r23 t m a b) m (N - m)) 8 0 (nI m)) 9 0 (nI a)) 10 0 (nI b)) := (if_pos h).trans (if_pos hr)
theorem s1I_f {N G m a b c : Nat} {t : stT} (h : ¬ t 1 (a / 2) = 3 ∧ ¬ t 1 (b / 2) = 3) (hr : ¬ apP (woF (r23 t m a b) m (N - m)) G) : s1I N G m a b (c + 1) t = s1I N G m a (b + 1) c (woF (r23 t m a b) m (N - m)) := (if_pos h).trans (if_neg hr)
noncomputable def s1O (N G m : Nat) : Nat → Nat → stT → Bool × stT
  | _, 0, t => (false, t)
  | a, c + 1, t => @ite _ ((s1I N G m a a (2 * m - a) t).1 = true) (Classical.propDecidable _) (s1I N G m a a (2 * m - a) t) (s1O N G m (a + 1) c (s1I N G m a a (2 * m - a) t).2)
theorem s1O_t {N G m a c : Nat} {t : stT} (h : (s1I N G m a a (2 * m - a) t).1 = true) : s1O N G m a (c + 1) t = s1I N G m a a (2 * m - a) t := if_pos h
theorem s1O_f {N G m a c : Nat} {t : stT} (h : ¬ (s1I N G m a a (2 * m - a) t).1 = true) : s1O N G m a (c + 1) t = s1O N G m (a + 1) c (s1I N G m a a (2 * m - a) t).2 := if_neg h
noncomputable def s1R (N G m : Nat) (t : stT) : Bool × stT := ((s1O N G m 0 (2 * m) t).1, woF (up (up (s1O N G m 0 (2 * m) t).2 2 m (t 2 m)) 3 m (t 3 m)) m (N - m))
noncomputable def s3I (N G n m a : Nat) : Nat → Nat → stT → Bool × stT
  | _, 0, t => (false, t)
  | b, c + 1, t => @ite _ (¬ t 1 (a / 2) = 3 ∧ ¬ t 1 (b / 2) = 3) (Classical.propDecidable _)
      (@ite _ ((s2R N G m (woF (r23 t n a b) n (N - n))).1 = true) (Classical.propDecidable _) (true, up (up (up (s2R N G m (woF (r23 t n a b) n (N - n))).2 8 0 (nI n)) 9 0 (nI a)) 10 0 (nI b)) (s3I N G n m a (b + 1) c (s2R N G m (woF (r23 t n a b) n (N - n))).2))
      (s3I N G n m a (b + 1) c t)
theorem s3I_k {N G n m a b c : Nat} {t : stT} (h : ¬ (¬ t 1 (a / 2) = 3 ∧ ¬ t 1 (b / 2) = 3)) : s3I N G n m a b (c + 1) t = s3I N G n m a (b + 1) c t := if_neg h
theorem s3I_t {N G n m a b c : Nat} {t : stT} (h : ¬ t 1 (a / 2) = 3 ∧ ¬ t 1 (b / 2) = 3) (hr : (s2R N G m (woF (r23 t n a b) n (N - n))).1 = true) : s3I N G n m a b (c + 1) t = (true, up (up (up (s2R N G m (woF (r23 t n a b) n (N - n))).2 8 0 (nI n)) 9 0 (nI a)) 10 0 (nI b)) := (if_pos h).trans (if_pos hr)
theorem s3I_f {N G n m a b c : Nat} {t : stT} (h : ¬ t 1 (a / 2) = 3 ∧ ¬ t 1 (b / 2) = 3) (hr : ¬ (s2R N G m (woF (r23 t n a b) n (N - n))).1 = true) : s3I N G n m a b (c + 1) t = s3I N G n m a (b + 1) c (s2R N G m (woF (r23 t n a b) n (N - n))).2 := (if_pos h).trans (if_neg hr)
noncomputable def s3O (N G n m : Nat) : Nat → Nat → stT → Bool × stT
  | _, 0, t => (false, t)
  | a, c + 1, t => @ite _ ((s3I N G n m a a (2 * n - a) t).1 = true) (Classical.propDecidable _) (s3I N G n m a a (2 * n - a) t) (s3O N G n m (a + 1) c (s3I N G n m a a (2 * n - a) t).2)
theorem s3O_t {N G n m a c : Nat} {t : stT} (h : (s3I N G n m a a (2 * n - a) t).1 = true) : s3O N G n m a (c + 1) t = s3I N G n m a a (2 * n - a) t := if_pos h
theorem s3O_f {N G n m a c : Nat} {t : stT} (h : ¬ (s3I N G n m a a (2 * n - a) t).1 = true) : s3O N G n m a (c + 1) t = s3O N G n m (a + 1) c (s3I N G n m a a (2 * n - a) t).2 := if_neg h
noncomputable def s3R (N G n m : Nat) (t : stT) : Bool × stT := ((s3O N G n m 0 (2 * n) t).1, woF (up (up (s3O N G n m 0 (2 * n) t).2 2 n (t 2 n)) 3 n (t 3 n)) n (N - n))
set_option maxHeartbeats 4000000 in
set_option maxRecDepth 100000 in
theorem c_X8_trySecond (l : Launch) (g : va_G) (y : Nat → ClassId) (ad : Nat → Nat) (τ : Nat → Nat → Int32) (ρ : Nat → Nat → Int64) {N G m : Nat} (hs : Rs τ N G) (hm : m < N) (hold : τ 1 m = 2) : w_C l g y yX8_trySecond cX8_trySecond 7 (some .boolean) 3 [.ref (ad 0), .int (nI m)] (rw ad y τ ρ) (some (.int (bI ((s2R N G m τ).1 = true)))) (rw ad y (s2R N G m τ).2 ρ) := by
  refine w_ofI (lv0 := [(0, .ref (ad 0)), (1, .int (nI m))]) (by decide +kernel) (Nat.le_of_ble_eq_true rfl) rfl (bI_nar _) ?_
  intro Z hZ hret
  obtain ⟨hN, hG, h38, h4, hw, h6, h7⟩ := id hs
  have hcm := nI_clamp (n := m) (by omega)
  obtain ⟨v1, hv1⟩ : ∃ v, τ 2 m = v := ⟨_, rfl⟩
  obtain ⟨v2, hv2⟩ : ∃ v, τ 3 m = v := ⟨_, rfl⟩
  have kv := hw m hm (Or.inl hold)
  rw [hv1, hv2] at kv
  unfold s2R at hret
  rw [hv1, hv2] at hret
  refine r_aload_n 1 hZ 0 dX8_trySecond_0 rfl rfl rfl ?_
  refine g_X8_13 4 hZ dX8_trySecond_1 rfl ?_
  refine r_iload_n 5 hZ 1 dX8_trySecond_4 rfl rfl rfl ?_
  refine a_r2 6 hZ (by first | assumption | exact vp_in_nI (by omega) (by decide) | (unfold vp_in; decide)) dX8_trySecond_5 rfl ?_
  rw [hcm, hv1]
  refine r_istnN 7 [(0, _), (1, _), (2, _)] hZ dX8_trySecond_6 rfl rfl (by decide) rfl rfl ?_
  refine r_aload_n 8 hZ 0 dX8_trySecond_7 rfl rfl rfl ?_
  refine g_X8_16 11 hZ dX8_trySecond_8 rfl ?_
  refine r_iload_n 12 hZ 1 dX8_trySecond_11 rfl rfl rfl ?_
  refine a_r3 13 hZ (by first | assumption | exact vp_in_nI (by omega) (by decide) | (unfold vp_in; decide)) dX8_trySecond_12 rfl ?_
  rw [hcm, hv2]
  refine r_istnN 14 [(0, _), (1, _), (2, _), (3, _)] hZ dX8_trySecond_13 rfl rfl (by decide) rfl rfl ?_
  refine r_iconst (v := 0) 15 hZ dX8_trySecond_14 rfl (by decide) ?_
  refine r_istN (q := 0) 17 [(0, _), (1, _), (2, _), (3, _), (4, _)] hZ dX8_trySecond_15 rfl (by decide) rfl rfl ?_
  refine r_iconst (v := 0) 18 hZ dX8_trySecond_17 rfl (by decide) ?_
  refine r_istN (q := 0) 20 [(0, _), (1, _), (2, _), (3, _), (4, _), (5, _)] hZ dX8_trySecond_18 rfl (by decide) rfl rfl ?_
  have lp_20 : ∀ (n : Nat) (a : Nat) (t0 : stT), a ≤ 2 * m → 2 * m + 1 ≤ a + n → Rs t0 N G → s2O N G m 0 (2 * m) τ = s2O N G m a (2 * m - a) t0 → Z 0 0 (rw ad y t0 ρ) 20 [(0, .ref (ad 0)), (1, .int (nI m)), (2, .int v1), (3, .int v2), (4, .int 0), (5, .int (nI a))] [] := by
    intro n
    induction n with
    | zero => intro a t0 h1 hn_20 ht0 hg; exact absurd hn_20 (by omega)
    | succ n ih_20 =>
      intro a t0 h1 hn_20 ht0 hg
      refine r_iload 22 hZ 5 dX8_trySecond_20 rfl rfl ?_
      refine r_iconst (v := 2) 23 hZ dX8_trySecond_22 rfl (by decide) ?_
      refine r_iload_n 24 hZ 1 dX8_trySecond_23 rfl rfl rfl ?_
      refine r_imul 25 hZ dX8_trySecond_24 rfl ?_
      rw [nI_2]
      refine r_icmp_ge 146 28 hZ dX8_trySecond_25 (by decide) rfl (fun c_25 => ?_) (fun c_25 => ?_)
      · skip
        have ha := nI_leq (by omega) (by omega) c_25
        have ha : a = 2 * m := by omega
        subst ha
        rw [hg, show 2 * m - 2 * m = 0 by omega] at hret
        refine r_aload_n 147 hZ 0 dX8_trySecond_146 rfl rfl rfl ?_
        refine g_X8_13 150 hZ dX8_trySecond_147 rfl ?_
        refine r_iload_n 151 hZ 1 dX8_trySecond_150 rfl rfl rfl ?_
        refine r_iload_n 152 hZ 2 dX8_trySecond_151 rfl rfl rfl ?_
        refine s_r2 153 hZ (by first | assumption | exact vp_in_nI (by omega) (by decide) | (unfold vp_in; decide)) dX8_trySecond_152 rfl ?_
        rw [hcm]
        refine r_aload_n 154 hZ 0 dX8_trySecond_153 rfl rfl rfl ?_
        refine g_X8_16 157 hZ dX8_trySecond_154 rfl ?_
        refine r_iload_n 158 hZ 1 dX8_trySecond_157 rfl rfl rfl ?_
        refine r_iload_n 159 hZ 3 dX8_trySecond_158 rfl rfl rfl ?_
        refine s_r3 160 hZ (by first | assumption | exact vp_in_nI (by omega) (by decide) | (unfold vp_in; decide)) dX8_trySecond_159 rfl ?_
        rw [hcm]
        refine r_aload_n 161 hZ 0 dX8_trySecond_160 rfl rfl rfl ?_
        refine r_iload_n 162 hZ 1 dX8_trySecond_161 rfl rfl rfl ?_
        refine r_callVV (c_X8_workOlds l g y ad _ ρ (b := m) (by first | exact ht0.ed m kv.1 kv.2 | exact hTT.ed m kv.1 kv.2) (by omega)) wM_X8_workOlds wL_X8_142 hZ rfl ⟨by decide, by decide⟩ 0 8 rfl rfl rfl rfl dX8_trySecond_162 ?_
        refine r_iload 167 hZ 4 dX8_trySecond_165 rfl rfl ?_
        exact hret _ _ _ _ dX8_trySecond_167 (by first | exact Eq.symm (bI_t rfl) | exact Eq.symm (bI_f (by show ¬ (false : Bool) = true; decide))) rfl
      · skip
        have ha := nI_nleq (by omega) (by omega) c_25
        have hba : 2 * m - a = (2 * m - (a + 1)) + 1 := by omega
        refine r_iload 30 hZ 4 dX8_trySecond_28 rfl rfl ?_
        refine r_if_ne 146 33 hZ dX8_trySecond_30 (by decide) rfl (fun c_30 => ?_) (fun c_30 => ?_)
        · skip
          exact absurd c_30 (show ¬ (¬ (0 : Int32) = (0 : Int32)) by decide)
        · skip
          refine r_iload 35 hZ 5 dX8_trySecond_33 rfl rfl ?_
          refine r_istN (q := 0) 37 [(0, _), (1, _), (2, _), (3, _), (4, _), (5, _), (6, _)] hZ dX8_trySecond_35 rfl (by decide) rfl rfl ?_
          have lp_37 : ∀ (q : Nat) (b : Nat) (t : stT), b ≤ 2 * m → 2 * m + 1 ≤ b + q → a ≤ b → Rs t N G → s2I N G m a a (2 * m - a) t0 = s2I N G m a b (2 * m - b) t → Z 0 0 (rw ad y t ρ) 37 [(0, .ref (ad 0)), (1, .int (nI m)), (2, .int v1), (3, .int v2), (4, .int 0), (5, .int (nI a)), (6, .int (nI b))] [] := by
            intro q
            induction q with
            | zero => intro b t h1b hn_37 hab htR hgI; exact absurd hn_37 (by omega)
            | succ q ih_37 =>
              intro b t h1b hn_37 hab htR hgI
              refine r_iload 39 hZ 6 dX8_trySecond_37 rfl rfl ?_
              refine r_iconst (v := 2) 40 hZ dX8_trySecond_39 rfl (by decide) ?_
              refine r_iload_n 41 hZ 1 dX8_trySecond_40 rfl rfl rfl ?_
              refine r_imul 42 hZ dX8_trySecond_41 rfl ?_
              rw [nI_2]
              refine r_icmp_ge 140 45 hZ dX8_trySecond_42 (by decide) rfl (fun c_42 => ?_) (fun c_42 => ?_)
              · skip
                have hb := nI_leq (by omega) (by omega) c_42
                have hb : b = 2 * m := by omega
                subst hb
                rw [show 2 * m - 2 * m = 0 by omega] at hgI
                refine r_iinc 143 5 1 [(0, _), (1, _), (2, _), (3, _), (4, _), (5, _), (6, _)] hZ dX8_trySecond_140 rfl rfl (by decide) (by decide) rfl rfl ?_
                refine r_goto 20 hZ dX8_trySecond_143 (by decide) ?_
                rw [nI_1]
                exact w_take 6 hZ (ih_20 (a + 1) _ (by omega) (by omega) htR (by rw [hg, hba, s2O_f (by rw [hgI]; show ¬ (false : Bool) = true; decide), hgI]; rfl))
              · skip
                have hb := nI_nleq (by omega) (by omega) c_42
                have hbc : 2 * m - b = (2 * m - (b + 1)) + 1 := by omega
                refine r_iload 47 hZ 4 dX8_trySecond_45 rfl rfl ?_
                refine r_if_ne 140 50 hZ dX8_trySecond_47 (by decide) rfl (fun c_47 => ?_) (fun c_47 => ?_)
                · skip
                  exact absurd c_47 (show ¬ (¬ (0 : Int32) = (0 : Int32)) by decide)
                · skip
                  refine r_aload_n 51 hZ 0 dX8_trySecond_50 rfl rfl rfl ?_
                  refine r_iload 53 hZ 5 dX8_trySecond_51 rfl rfl ?_
                  refine r_callVI (c_X8_mayBe l g y ad t ρ (okL_nI (n := a) (by omega) (by decide))) wM_X8_mayBe wL_X8_139 hZ rfl ⟨by decide, by decide⟩ 0 8 rfl rfl rfl rfl dX8_trySecond_53 ?_
                  refine r_if_eq 134 59 hZ dX8_trySecond_56 (by decide) rfl (fun c_56 => ?_) (fun c_56 => ?_)
                  · skip
                    refine r_iinc 137 6 1 [(0, _), (1, _), (2, _), (3, _), (4, _), (5, _), (6, _)] hZ dX8_trySecond_134 rfl rfl (by decide) (by decide) rfl rfl ?_
                    refine r_goto 37 hZ dX8_trySecond_137 (by decide) ?_
                    rw [nI_1]
                    first | exact ih_37 (b + 1) _ (by omega) (by omega) (by omega) htR (by rw [hgI, hbc, s2I_k (fun q => bI_0.mp c_56 (by rw [ix_nI (by omega)]; exact q.1))]) | exact ih_37 (b + 1) _ (by omega) (by omega) (by omega) htR (by rw [hgI, hbc, s2I_k (fun q => bI_0.mp c_65 (by rw [ix_nI (by omega)]; exact q.2))]) | exact ih_37 (b + 1) _ (by omega) (by omega) (by omega) ((htR.r23 m (by omega) (by omega)).wo m (N - m)) (by rw [hgI, hbc, s2I_f hmay (apP_n c_96)])
                  · skip
                    have hma : ¬ t 1 (a / 2) = 3 := by have := bI_n0.mp c_56; rwa [ix_nI (by omega)] at this
                    refine r_aload_n 60 hZ 0 dX8_trySecond_59 rfl rfl rfl ?_
                    refine r_iload 62 hZ 6 dX8_trySecond_60 rfl rfl ?_
                    refine r_callVI (c_X8_mayBe l g y ad t ρ (okL_nI (n := b) (by omega) (by decide))) wM_X8_mayBe wL_X8_139 hZ rfl ⟨by decide, by decide⟩ 0 8 rfl rfl rfl rfl dX8_trySecond_62 ?_
                    refine r_if_ne 71 68 hZ dX8_trySecond_65 (by decide) rfl (fun c_65 => ?_) (fun c_65 => ?_)
                    · skip
                      have hmay : ¬ t 1 (a / 2) = 3 ∧ ¬ t 1 (b / 2) = 3 := ⟨hma, by have := bI_n0.mp c_65; rwa [ix_nI (by omega)] at this⟩
                      refine r_aload_n 72 hZ 0 dX8_trySecond_71 rfl rfl rfl ?_
                      refine g_X8_13 75 hZ dX8_trySecond_72 rfl ?_
                      refine r_iload_n 76 hZ 1 dX8_trySecond_75 rfl rfl rfl ?_
                      refine r_iload 78 hZ 5 dX8_trySecond_76 rfl rfl ?_
                      refine s_r2 79 hZ (by first | assumption | exact vp_in_nI (by omega) (by decide) | (unfold vp_in; decide)) dX8_trySecond_78 rfl ?_
                      rw [hcm]
                      refine r_aload_n 80 hZ 0 dX8_trySecond_79 rfl rfl rfl ?_
                      refine g_X8_16 83 hZ dX8_trySecond_80 rfl ?_
                      refine r_iload_n 84 hZ 1 dX8_trySecond_83 rfl rfl rfl ?_
                      refine r_iload 86 hZ 6 dX8_trySecond_84 rfl rfl ?_
                      refine s_r3 87 hZ (by first | assumption | exact vp_in_nI (by omega) (by decide) | (unfold vp_in; decide)) dX8_trySecond_86 rfl ?_
                      rw [hcm]
                      refine r_aload_n 88 hZ 0 dX8_trySecond_87 rfl rfl rfl ?_
                      refine r_iload_n 89 hZ 1 dX8_trySecond_88 rfl rfl rfl ?_
                      refine r_callVV (c_X8_workOlds l g y ad (r23 t m a b) ρ (b := m) (htR.r23 m (by omega) (by omega)) (by omega)) wM_X8_workOlds wL_X8_142 hZ rfl ⟨by decide, by decide⟩ 0 8 rfl rfl rfl rfl dX8_trySecond_89 ?_
                      refine r_aload_n 93 hZ 0 dX8_trySecond_92 rfl rfl rfl ?_
                      refine r_callVI (c_X8_apart l g y ad _ ρ ((htR.r23 m (by omega) (by omega)).wo m (N - m))) wM_X8_apart wL_X8_121 hZ rfl ⟨by decide, by decide⟩ 0 8 rfl rfl rfl rfl dX8_trySecond_93 ?_
                      refine r_if_ne 103 99 hZ dX8_trySecond_96 (by decide) rfl (fun c_96 => ?_) (fun c_96 => ?_)
                      · skip
                        refine r_iconst (v := 0) 104 hZ dX8_trySecond_103 rfl (by decide) ?_
                        refine r_ist (q := 0) 106 4 [(0, _), (1, _), (2, _), (3, _), (4, _), (5, _), (6, _)] hZ dX8_trySecond_104 rfl (by decide) rfl rfl ?_
                        refine r_iload 108 hZ 4 dX8_trySecond_106 rfl rfl ?_
                        refine r_if_eq 134 111 hZ dX8_trySecond_108 (by decide) rfl (fun c_108 => ?_) (fun c_108 => ?_)
                        · skip
                          refine r_iinc 137 6 1 [(0, _), (1, _), (2, _), (3, _), (4, _), (5, _), (6, _)] hZ dX8_trySecond_134 rfl rfl (by decide) (by decide) rfl rfl ?_
                          refine r_goto 37 hZ dX8_trySecond_137 (by decide) ?_
                          rw [nI_1]
                          first | exact ih_37 (b + 1) _ (by omega) (by omega) (by omega) htR (by rw [hgI, hbc, s2I_k (fun q => bI_0.mp c_56 (by rw [ix_nI (by omega)]; exact q.1))]) | exact ih_37 (b + 1) _ (by omega) (by omega) (by omega) htR (by rw [hgI, hbc, s2I_k (fun q => bI_0.mp c_65 (by rw [ix_nI (by omega)]; exact q.2))]) | exact ih_37 (b + 1) _ (by omega) (by omega) (by omega) ((htR.r23 m (by omega) (by omega)).wo m (N - m)) (by rw [hgI, hbc, s2I_f hmay (apP_n c_96)])
                        · skip
                          exact absurd c_108 (show ¬ ¬ ((0 : Int32) = (0 : Int32)) by decide)
                      · skip
                        have hap := apP_0 h4 c_96
                        have hI1 := hgI.trans (by rw [hbc, s2I_t hmay hap])
                        rw [hg, hba, s2O_t (by rw [hI1]), hI1] at hret
                        have hTT := ((htR.r23 m (show a < 80 by omega) (show b < 80 by omega)).wo m (N - m)).pt 1 (nI m) (nI a) (nI b)
                        refine r_iconst (v := 1) 100 hZ dX8_trySecond_99 rfl (by decide) ?_
                        refine r_goto 104 hZ dX8_trySecond_100 (by decide) ?_
                        refine r_ist (q := 0) 106 4 [(0, _), (1, _), (2, _), (3, _), (4, _), (5, _), (6, _)] hZ dX8_trySecond_104 rfl (by decide) rfl rfl ?_
                        refine r_iload 108 hZ 4 dX8_trySecond_106 rfl rfl ?_
                        refine r_if_eq 134 111 hZ dX8_trySecond_108 (by decide) rfl (fun c_108 => ?_) (fun c_108 => ?_)
                        · skip
                          exact absurd c_108 (show ¬ ((1 : Int32) = (0 : Int32)) by decide)
                        · skip
                          refine r_aload_n 112 hZ 0 dX8_trySecond_111 rfl rfl rfl ?_
                          refine g_X8_45 115 hZ dX8_trySecond_112 rfl ?_
                          refine r_iconst (v := 1) 116 hZ dX8_trySecond_115 rfl (by decide) ?_
                          refine r_iload_n 117 hZ 1 dX8_trySecond_116 rfl rfl rfl ?_
                          refine s_r8 118 hZ (by first | assumption | exact vp_in_nI (by omega) (by decide) | (unfold vp_in; decide)) dX8_trySecond_117 rfl ?_
                          rw [ix1]
                          refine r_aload_n 119 hZ 0 dX8_trySecond_118 rfl rfl rfl ?_
                          refine g_X8_48 122 hZ dX8_trySecond_119 rfl ?_
                          refine r_iconst (v := 1) 123 hZ dX8_trySecond_122 rfl (by decide) ?_
                          refine r_iload 125 hZ 5 dX8_trySecond_123 rfl rfl ?_
                          refine s_r9 126 hZ (by first | assumption | exact vp_in_nI (by omega) (by decide) | (unfold vp_in; decide)) dX8_trySecond_125 rfl ?_
                          rw [ix1]
                          refine r_aload_n 127 hZ 0 dX8_trySecond_126 rfl rfl rfl ?_
                          refine g_X8_51 130 hZ dX8_trySecond_127 rfl ?_
                          refine r_iconst (v := 1) 131 hZ dX8_trySecond_130 rfl (by decide) ?_
                          refine r_iload 133 hZ 6 dX8_trySecond_131 rfl rfl ?_
                          refine s_r10 134 hZ (by first | assumption | exact vp_in_nI (by omega) (by decide) | (unfold vp_in; decide)) dX8_trySecond_133 rfl ?_
                          rw [ix1]
                          refine r_iinc 137 6 1 [(0, _), (1, _), (2, _), (3, _), (4, _), (5, _), (6, _)] hZ dX8_trySecond_134 rfl rfl (by decide) (by decide) rfl rfl ?_
                          refine r_goto 37 hZ dX8_trySecond_137 (by decide) ?_
                          refine r_iload 39 hZ 6 dX8_trySecond_37 rfl rfl ?_
                          refine r_iconst (v := 2) 40 hZ dX8_trySecond_39 rfl (by decide) ?_
                          refine r_iload_n 41 hZ 1 dX8_trySecond_40 rfl rfl rfl ?_
                          refine r_imul 42 hZ dX8_trySecond_41 rfl ?_
                          rw [nI_2]
                          refine r_icmp_ge 140 45 hZ dX8_trySecond_42 (by decide) rfl (fun c_42 => ?_) (fun c_42 => ?_)
                          · skip
                            refine r_iinc 143 5 1 [(0, _), (1, _), (2, _), (3, _), (4, _), (5, _), (6, _)] hZ dX8_trySecond_140 rfl rfl (by decide) (by decide) rfl rfl ?_
                            refine r_goto 20 hZ dX8_trySecond_143 (by decide) ?_
                            refine r_iload 22 hZ 5 dX8_trySecond_20 rfl rfl ?_
                            refine r_iconst (v := 2) 23 hZ dX8_trySecond_22 rfl (by decide) ?_
                            refine r_iload_n 24 hZ 1 dX8_trySecond_23 rfl rfl rfl ?_
                            refine r_imul 25 hZ dX8_trySecond_24 rfl ?_
                            rw [nI_2]
                            refine r_icmp_ge 146 28 hZ dX8_trySecond_25 (by decide) rfl (fun c_25 => ?_) (fun c_25 => ?_)
                            · skip
                              refine r_aload_n 147 hZ 0 dX8_trySecond_146 rfl rfl rfl ?_
                              refine g_X8_13 150 hZ dX8_trySecond_147 rfl ?_
                              refine r_iload_n 151 hZ 1 dX8_trySecond_150 rfl rfl rfl ?_
                              refine r_iload_n 152 hZ 2 dX8_trySecond_151 rfl rfl rfl ?_
                              refine s_r2 153 hZ (by first | assumption | exact vp_in_nI (by omega) (by decide) | (unfold vp_in; decide)) dX8_trySecond_152 rfl ?_
                              rw [hcm]
                              refine r_aload_n 154 hZ 0 dX8_trySecond_153 rfl rfl rfl ?_
                              refine g_X8_16 157 hZ dX8_trySecond_154 rfl ?_
                              refine r_iload_n 158 hZ 1 dX8_trySecond_157 rfl rfl rfl ?_
                              refine r_iload_n 159 hZ 3 dX8_trySecond_158 rfl rfl rfl ?_
                              refine s_r3 160 hZ (by first | assumption | exact vp_in_nI (by omega) (by decide) | (unfold vp_in; decide)) dX8_trySecond_159 rfl ?_
                              rw [hcm]
                              refine r_aload_n 161 hZ 0 dX8_trySecond_160 rfl rfl rfl ?_
                              refine r_iload_n 162 hZ 1 dX8_trySecond_161 rfl rfl rfl ?_
                              refine r_callVV (c_X8_workOlds l g y ad _ ρ (b := m) (by first | exact ht0.ed m kv.1 kv.2 | exact hTT.ed m kv.1 kv.2) (by omega)) wM_X8_workOlds wL_X8_142 hZ rfl ⟨by decide, by decide⟩ 0 8 rfl rfl rfl rfl dX8_trySecond_162 ?_
                              refine r_iload 167 hZ 4 dX8_trySecond_165 rfl rfl ?_
                              exact hret _ _ _ _ dX8_trySecond_167 (by first | exact Eq.symm (bI_t rfl) | exact Eq.symm (bI_f (by show ¬ (false : Bool) = true; decide))) rfl
                            · skip
                              refine r_iload 30 hZ 4 dX8_trySecond_28 rfl rfl ?_
                              refine r_if_ne 146 33 hZ dX8_trySecond_30 (by decide) rfl (fun c_30 => ?_) (fun c_30 => ?_)
                              · skip
                                refine r_aload_n 147 hZ 0 dX8_trySecond_146 rfl rfl rfl ?_
                                refine g_X8_13 150 hZ dX8_trySecond_147 rfl ?_
                                refine r_iload_n 151 hZ 1 dX8_trySecond_150 rfl rfl rfl ?_
                                refine r_iload_n 152 hZ 2 dX8_trySecond_151 rfl rfl rfl ?_
                                refine s_r2 153 hZ (by first | assumption | exact vp_in_nI (by omega) (by decide) | (unfold vp_in; decide)) dX8_trySecond_152 rfl ?_
                                rw [hcm]
                                refine r_aload_n 154 hZ 0 dX8_trySecond_153 rfl rfl rfl ?_
                                refine g_X8_16 157 hZ dX8_trySecond_154 rfl ?_
                                refine r_iload_n 158 hZ 1 dX8_trySecond_157 rfl rfl rfl ?_
                                refine r_iload_n 159 hZ 3 dX8_trySecond_158 rfl rfl rfl ?_
                                refine s_r3 160 hZ (by first | assumption | exact vp_in_nI (by omega) (by decide) | (unfold vp_in; decide)) dX8_trySecond_159 rfl ?_
                                rw [hcm]
                                refine r_aload_n 161 hZ 0 dX8_trySecond_160 rfl rfl rfl ?_
                                refine r_iload_n 162 hZ 1 dX8_trySecond_161 rfl rfl rfl ?_
                                refine r_callVV (c_X8_workOlds l g y ad _ ρ (b := m) (by first | exact ht0.ed m kv.1 kv.2 | exact hTT.ed m kv.1 kv.2) (by omega)) wM_X8_workOlds wL_X8_142 hZ rfl ⟨by decide, by decide⟩ 0 8 rfl rfl rfl rfl dX8_trySecond_162 ?_
                                refine r_iload 167 hZ 4 dX8_trySecond_165 rfl rfl ?_
                                exact hret _ _ _ _ dX8_trySecond_167 (by first | exact Eq.symm (bI_t rfl) | exact Eq.symm (bI_f (by show ¬ (false : Bool) = true; decide))) rfl
                              · skip
                                exact absurd c_30 (show ¬ ((1 : Int32) = (0 : Int32)) by decide)
                          · skip
                            refine r_iload 47 hZ 4 dX8_trySecond_45 rfl rfl ?_
                            refine r_if_ne 140 50 hZ dX8_trySecond_47 (by decide) rfl (fun c_47 => ?_) (fun c_47 => ?_)
                            · skip
                              refine r_iinc 143 5 1 [(0, _), (1, _), (2, _), (3, _), (4, _), (5, _), (6, _)] hZ dX8_trySecond_140 rfl rfl (by decide) (by decide) rfl rfl ?_
                              refine r_goto 20 hZ dX8_trySecond_143 (by decide) ?_
                              refine r_iload 22 hZ 5 dX8_trySecond_20 rfl rfl ?_
                              refine r_iconst (v := 2) 23 hZ dX8_trySecond_22 rfl (by decide) ?_
                              refine r_iload_n 24 hZ 1 dX8_trySecond_23 rfl rfl rfl ?_
                              refine r_imul 25 hZ dX8_trySecond_24 rfl ?_
                              rw [nI_2]
                              refine r_icmp_ge 146 28 hZ dX8_trySecond_25 (by decide) rfl (fun c_25 => ?_) (fun c_25 => ?_)
                              · skip
                                refine r_aload_n 147 hZ 0 dX8_trySecond_146 rfl rfl rfl ?_
                                refine g_X8_13 150 hZ dX8_trySecond_147 rfl ?_
                                refine r_iload_n 151 hZ 1 dX8_trySecond_150 rfl rfl rfl ?_
                                refine r_iload_n 152 hZ 2 dX8_trySecond_151 rfl rfl rfl ?_
                                refine s_r2 153 hZ (by first | assumption | exact vp_in_nI (by omega) (by decide) | (unfold vp_in; decide)) dX8_trySecond_152 rfl ?_
                                rw [hcm]
                                refine r_aload_n 154 hZ 0 dX8_trySecond_153 rfl rfl rfl ?_
                                refine g_X8_16 157 hZ dX8_trySecond_154 rfl ?_
                                refine r_iload_n 158 hZ 1 dX8_trySecond_157 rfl rfl rfl ?_
                                refine r_iload_n 159 hZ 3 dX8_trySecond_158 rfl rfl rfl ?_
                                refine s_r3 160 hZ (by first | assumption | exact vp_in_nI (by omega) (by decide) | (unfold vp_in; decide)) dX8_trySecond_159 rfl ?_
                                rw [hcm]
                                refine r_aload_n 161 hZ 0 dX8_trySecond_160 rfl rfl rfl ?_
                                refine r_iload_n 162 hZ 1 dX8_trySecond_161 rfl rfl rfl ?_
                                refine r_callVV (c_X8_workOlds l g y ad _ ρ (b := m) (by first | exact ht0.ed m kv.1 kv.2 | exact hTT.ed m kv.1 kv.2) (by omega)) wM_X8_workOlds wL_X8_142 hZ rfl ⟨by decide, by decide⟩ 0 8 rfl rfl rfl rfl dX8_trySecond_162 ?_
                                refine r_iload 167 hZ 4 dX8_trySecond_165 rfl rfl ?_
                                exact hret _ _ _ _ dX8_trySecond_167 (by first | exact Eq.symm (bI_t rfl) | exact Eq.symm (bI_f (by show ¬ (false : Bool) = true; decide))) rfl
                              · skip
                                refine r_iload 30 hZ 4 dX8_trySecond_28 rfl rfl ?_
                                refine r_if_ne 146 33 hZ dX8_trySecond_30 (by decide) rfl (fun c_30 => ?_) (fun c_30 => ?_)
                                · skip
                                  refine r_aload_n 147 hZ 0 dX8_trySecond_146 rfl rfl rfl ?_
                                  refine g_X8_13 150 hZ dX8_trySecond_147 rfl ?_
                                  refine r_iload_n 151 hZ 1 dX8_trySecond_150 rfl rfl rfl ?_
                                  refine r_iload_n 152 hZ 2 dX8_trySecond_151 rfl rfl rfl ?_
                                  refine s_r2 153 hZ (by first | assumption | exact vp_in_nI (by omega) (by decide) | (unfold vp_in; decide)) dX8_trySecond_152 rfl ?_
                                  rw [hcm]
                                  refine r_aload_n 154 hZ 0 dX8_trySecond_153 rfl rfl rfl ?_
                                  refine g_X8_16 157 hZ dX8_trySecond_154 rfl ?_
                                  refine r_iload_n 158 hZ 1 dX8_trySecond_157 rfl rfl rfl ?_
                                  refine r_iload_n 159 hZ 3 dX8_trySecond_158 rfl rfl rfl ?_
                                  refine s_r3 160 hZ (by first | assumption | exact vp_in_nI (by omega) (by decide) | (unfold vp_in; decide)) dX8_trySecond_159 rfl ?_
                                  rw [hcm]
                                  refine r_aload_n 161 hZ 0 dX8_trySecond_160 rfl rfl rfl ?_
                                  refine r_iload_n 162 hZ 1 dX8_trySecond_161 rfl rfl rfl ?_
                                  refine r_callVV (c_X8_workOlds l g y ad _ ρ (b := m) (by first | exact ht0.ed m kv.1 kv.2 | exact hTT.ed m kv.1 kv.2) (by omega)) wM_X8_workOlds wL_X8_142 hZ rfl ⟨by decide, by decide⟩ 0 8 rfl rfl rfl rfl dX8_trySecond_162 ?_
                                  refine r_iload 167 hZ 4 dX8_trySecond_165 rfl rfl ?_
                                  exact hret _ _ _ _ dX8_trySecond_167 (by first | exact Eq.symm (bI_t rfl) | exact Eq.symm (bI_f (by show ¬ (false : Bool) = true; decide))) rfl
                                · skip
                                  exact absurd c_30 (show ¬ ((1 : Int32) = (0 : Int32)) by decide)
                            · skip
                              exact absurd c_47 (show ¬ ((1 : Int32) = (0 : Int32)) by decide)
                    · skip
                      refine r_goto 134 hZ dX8_trySecond_68 (by decide) ?_
                      refine r_iinc 137 6 1 [(0, _), (1, _), (2, _), (3, _), (4, _), (5, _), (6, _)] hZ dX8_trySecond_134 rfl rfl (by decide) (by decide) rfl rfl ?_
                      refine r_goto 37 hZ dX8_trySecond_137 (by decide) ?_
                      rw [nI_1]
                      first | exact ih_37 (b + 1) _ (by omega) (by omega) (by omega) htR (by rw [hgI, hbc, s2I_k (fun q => bI_0.mp c_56 (by rw [ix_nI (by omega)]; exact q.1))]) | exact ih_37 (b + 1) _ (by omega) (by omega) (by omega) htR (by rw [hgI, hbc, s2I_k (fun q => bI_0.mp c_65 (by rw [ix_nI (by omega)]; exact q.2))]) | exact ih_37 (b + 1) _ (by omega) (by omega) (by omega) ((htR.r23 m (by omega) (by omega)).wo m (N - m)) (by rw [hgI, hbc, s2I_f hmay (apP_n c_96)])
          exact lp_37 (2 * m + 1) a t0 (by omega) (by omega) (by omega) ht0 rfl
  exact lp_20 (2 * m + 1) 0 τ (by omega) (by omega) hs rfl
