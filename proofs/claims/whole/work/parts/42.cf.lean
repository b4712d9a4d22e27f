/-! the class's search finds the first right set -/
theorem one_lit {K G n a b : Nat} {R : Nat → Ru} {mi : Nat → Nat} {du : Nat → Int32} (hw : wfR K R) (hm : ∀ i, i < G → mi i < 2 * K) (hn : n < K) (ha : a < 2 * n) (hb : b < 2 * n) : AC (updR R n (.inr (a, b))) mi du G = AC (Rc R n (cl (Ev R) a &&& cl (Ev R) b) n (cl (Ev R) a &&& cl (Ev R) b)) mi du G := by
  rw [Rc_1]
  exact AC_cg hm (Ev_edit hw hn ha hb)
theorem g1_gL {K G n : Nat} {R : Nat → Ru} {mi : Nat → Nat} {du x : Nat → Int32} (hw : wfR K R) (hm : ∀ i, i < G → mi i < 2 * K) (hn : n < K) (hx : ∀ a, a < 2 * n → x a = cl (Ev R) a) : g1 R mi du G n = gL x (fun c => AC (Rc R n c n c) mi du G = -1) n := by
  refine gfind_c _ _ (fun a _ ha => gfind_c _ _ (fun b _ hb => opt_c ?_))
  rw [one_lit hw hm hn (show a < 2 * n by omega) (show b < 2 * n by omega), hx a (by omega), hx b (by omega)]
theorem two_lit {K G n m a b a2 b2 : Nat} {R : Nat → Ru} {mi : Nat → Nat} {du : Nat → Int32} (hw : wfR K R) (hm : ∀ i, i < G → mi i < 2 * K) (hnm : n < m) (hmK : m < K) (ha : a < 2 * n) (hb : b < 2 * n) (ha2 : a2 < 2 * m) (hb2 : b2 < 2 * m) {c : Int32} (hc : c = cl (Ev R) a &&& cl (Ev R) b) : AC (updR (updR R n (.inr (a, b))) m (.inr (a2, b2))) mi du G = AC (Rc R n c m (cl (Ev (Rc R n c n c)) a2 &&& cl (Ev (Rc R n c n c)) b2)) mi du G := by
  have hX := hw.updl n ha hb
  have eX : ∀ k, k < K → Ev (updR R n (.inr (a, b))) k = Ev (Rc R n c n c) k := by
    rw [Rc_1, hc]
    exact Ev_edit hw (by omega) ha hb
  refine AC_cg hm (fun k hk => ?_)
  rw [Ev_edit hX hmK ha2 hb2 k hk, cl_cg (eX (a2 / 2) (by omega)), cl_cg (eX (b2 / 2) (by omega))]
  generalize (cl (Ev (Rc R n c n c)) a2 &&& cl (Ev (Rc R n c n c)) b2) = d
  have e1 : updR (updR R n (.inr (a, b))) m (.inl d) = updR (updR R m (.inl d)) n (.inr (a, b)) := by
    funext j
    unfold updR
    by_cases h1 : j = m
    · rw [if_pos h1, if_neg (by omega), if_pos h1]
    · rw [if_neg h1, if_neg h1]
  rw [e1, Ev_edit (hw.updc m d) (show n < K by omega) ha hb k hk]
  have low : ∀ j, j < n → Ev (updR R m (.inl d)) j = Ev R j := Ev_low ((hw.updc m d).mono (by omega)) (fun j hj => updR_n (by omega))
  rw [cl_cg (low (a / 2) (by omega)), cl_cg (low (b / 2) (by omega)), ← hc]
  congr 1
theorem g1_pair {K G n m a b : Nat} {R : Nat → Ru} {mi : Nat → Nat} {du x : Nat → Int32} (hw : wfR K R) (hm : ∀ i, i < G → mi i < 2 * K) (hnm : n < m) (hmK : m < K) (ha : a < 2 * n) (hb : b < 2 * n) {c : Int32} (hc : c = cl (Ev R) a &&& cl (Ev R) b) (hx : ∀ a, a < 2 * m → x a = cl (Ev (Rc R n c n c)) a) : g1 (updR R n (.inr (a, b))) mi du G m = gL x (fun d => AC (Rc R n c m d) mi du G = -1) m := by
  refine gfind_c _ _ (fun a2 _ h2 => gfind_c _ _ (fun b2 _ h3 => opt_c ?_))
  rw [two_lit hw hm hnm hmK ha hb (show a2 < 2 * m by omega) (show b2 < 2 * m by omega) hc, hx a2 (by omega), hx b2 (by omega)]
def Ed1 (σ s : stT) (j n a b : Nat) : Prop := s 17 j = σ 6 n ∧ s 18 j = nI (olit σ a) ∧ s 19 j = nI (olit σ b)
theorem olit_6 {σ s : stT} (e : s 6 = σ 6) (a : Nat) : olit s a = olit σ a := by unfold olit; rw [e]
theorem ptF_ed {σ s : stT} (e : s 6 = σ 6) (n j a b : Nat) : Ed1 σ (ptF s n j a b) j n a b := by
  refine ⟨?_, ?_, ?_⟩
  · show upd _ j (s 6 n) j = _
    unfold upd
    rw [if_pos rfl, e]
  · show upd _ j (nI (olit s a)) j = _
    unfold upd
    rw [if_pos rfl, olit_6 e]
  · show upd _ j (nI (olit s b)) j = _
    unfold upd
    rw [if_pos rfl, olit_6 e]
theorem Ed1.pt {σ s : stT} {j n a b : Nat} (h : Ed1 σ s j n a b) (n2 j2 a2 b2 : Nat) (hj : j ≠ j2) : Ed1 σ (ptF s n2 j2 a2 b2) j n a b := by
  refine ⟨?_, ?_, ?_⟩
  · show upd _ j2 _ j = _
    unfold upd
    rw [if_neg hj]; exact h.1
  · show upd _ j2 _ j = _
    unfold upd
    rw [if_neg hj]; exact h.2.1
  · show upd _ j2 _ j = _
    unfold upd
    rw [if_neg hj]; exact h.2.2
section CF
variable {σ : stT} {N I O G : Nat} {oA oB mi : Nat → Nat}
noncomputable def F1 (σ : stT) (I : Nat) (oA oB mi : Nat → Nat) (G i : Nat) : Option (Nat × (Nat × Nat)) := @ite _ (σ 5 (ix (σ 6 (1 + I + i))) = 0) (Classical.propDecidable _) ((g1 (R0 σ I oA oB) mi (du0 σ) G (1 + I + i)).map (fun p => (1 + I + i, p))) none
theorem F1_t {i : Nat} (h : σ 5 (ix (σ 6 (1 + I + i))) = 0) : F1 σ I oA oB mi G i = (g1 (R0 σ I oA oB) mi (du0 σ) G (1 + I + i)).map (fun p => (1 + I + i, p)) := if_pos h
theorem F1_f {i : Nat} (h : ¬ σ 5 (ix (σ 6 (1 + I + i))) = 0) : F1 σ I oA oB mi G i = none := if_neg h
theorem low_ev (h : HC σ N I O G oA oB mi) {n m : Nat} (hnm : n ≤ m) (hn : n < 1 + I + O) (c d : Int32) : ∀ k, k < n → Ev (Rc (R0 σ I oA oB) n c m d) k = Ev (R0 σ I oA oB) k := Ev_low (((R0_wf h).rc n c m d).mono (by omega)) (fun j hj => by
  unfold Rc
  rw [if_neg (by omega), if_neg (by omega)])
theorem f1_ev (h : HC σ N I O G oA oB mi) : ∀ (c i : Nat) (s : stT), i + c ≤ O → Lk σ s → ShC σ s N I O → (gfind (F1 σ I oA oB mi G) i c = none → (f1R I O G i c s).1 = false ∧ ShC σ (f1R I O G i c s).2 N I O) ∧ (∀ n a b, gfind (F1 σ I oA oB mi G) i c = some (n, (a, b)) → (f1R I O G i c s).1 = true ∧ Ed1 σ (f1R I O G i c s).2 0 n a b)
  | 0, i, s, _, hL, hS => ⟨fun _ => ⟨rfl, hS⟩, fun n a b q => by rw [gfind_0] at q; cases q⟩
  | c + 1, i, s, hi, hL, hS => by
    have s5 : s 5 = σ 5 := hL 5 (by decide) (by decide) (by decide) (by decide) (by decide)
    have s6 : s 6 = σ 6 := hL 6 (by decide) (by decide) (by decide) (by decide) (by decide)
    have hm : ∀ i, i < G → mi i < 2 * (1 + I + O) := fun i hi => (h.2.2.2.1 i hi).1
    by_cases hk : σ 5 (ix (σ 6 (1 + I + i))) = 0
    · have hk2 : s 5 (ix (s 6 (1 + I + i))) = 0 := by rw [s5, s6]; exact hk
      have hn1 : 1 + I ≤ 1 + I + i := by omega
      have hL1 := hL.sp (1 + I) (1 + I + i) 0 (1 + I + i) 0 O
      have hS1 := sp_sh h hL hS hn1 hn1 0 0
      have hL2 := hL1.sp (1 + I) (1 + I + i) (-1) (1 + I + i) (-1) O
      have hS2 := sp_sh h hL1 hS1 hn1 hn1 (-1) (-1)
      obtain ⟨hF2, -⟩ := sp_full h hL1 hS1 hn1 hn1 (-1) (-1) O (Nat.le_refl O)
      have hr : flR (spF (spF s (1 + I) (1 + I + i) 0 (1 + I + i) 0 O) (1 + I) (1 + I + i) (-1) (1 + I + i) (-1) O) (agF s I O G (1 + I + i) 0 (1 + I + i) 0) (agF (spF s (1 + I) (1 + I + i) 0 (1 + I + i) 0 O) I O G (1 + I + i) (-1) (1 + I + i) (-1)) (1 + I + i) = g1 (R0 σ I oA oB) mi (du0 σ) G (1 + I + i) := by
        rw [ag_ev h hL hS hn1 hn1, ag_ev h hL1 hS1 hn1 hn1, fl_gL (P := fun c => AC (Rc (R0 σ I oA oB) (1 + I + i) c (1 + I + i) c) mi (du0 σ) G = -1) (fun c => one_ok (R0_wf h) hm (1 + I + i) c)]
        refine (g1_gL (R0_wf h) hm (by omega) (fun a ha => ?_)).symm
        rw [hF2.cl (show a < 2 * (1 + I + O) by omega)]
        exact cl_cg (low_ev h (Nat.le_refl _) (by omega) _ _ (a / 2) (by omega))
      cases hg : g1 (R0 σ I oA oB) mi (du0 σ) G (1 + I + i) with
      | none =>
        have e1 : F1 σ I oA oB mi G i = none := by rw [F1_t hk, hg]; rfl
        rw [gfind_n e1, f1R_f hk2 (by rw [hr, hg]; decide)]
        exact f1_ev h c (i + 1) _ (by omega) hL2 hS2
      | some p =>
        have e1 : F1 σ I oA oB mi G i = some (1 + I + i, p) := by rw [F1_t hk, hg]; rfl
        rw [gfind_s e1, f1R_t hk2 (by rw [hr, hg]; rfl), hr, hg]
        refine ⟨fun q => (by cases q), fun n a b q => ?_⟩
        cases q
        exact ⟨rfl, ptF_ed (hL2 6 (by decide) (by decide) (by decide) (by decide) (by decide)) _ 0 a b⟩
    · have hk2 : ¬ s 5 (ix (s 6 (1 + I + i))) = 0 := by rw [s5, s6]; exact hk
      rw [gfind_n (F1_f hk), f1R_k hk2]
      exact f1_ev h c (i + 1) s (by omega) hL hS
/-- the pairs' inner loop -/
theorem fpI_ev (h : HC σ N I O G oA oB mi) {n m a : Nat} (hn : 1 + I ≤ n) (hnm : n < m) (hm : m < 1 + I + O) (ha : a < 2 * n) : ∀ (c b : Nat) (s : stT), b + c ≤ 2 * n → Lk σ s → ShC σ s N I O → FullB σ s (Ev (R0 σ I oA oB)) n →
    (gfind (fun b => (g1 (updR (R0 σ I oA oB) n (.inr (a, b))) mi (du0 σ) G m).map (fun p => ((a, b), p))) b c = none → (fpI I O n m (AC (Rc (R0 σ I oA oB) n 0 m 0) mi (du0 σ) G) (AC (Rc (R0 σ I oA oB) n 0 m (-1)) mi (du0 σ) G) (AC (Rc (R0 σ I oA oB) n (-1) m 0) mi (du0 σ) G) (AC (Rc (R0 σ I oA oB) n (-1) m (-1)) mi (du0 σ) G) a b c s).1 = false ∧ ShC σ (fpI I O n m (AC (Rc (R0 σ I oA oB) n 0 m 0) mi (du0 σ) G) (AC (Rc (R0 σ I oA oB) n 0 m (-1)) mi (du0 σ) G) (AC (Rc (R0 σ I oA oB) n (-1) m 0) mi (du0 σ) G) (AC (Rc (R0 σ I oA oB) n (-1) m (-1)) mi (du0 σ) G) a b c s).2 N I O ∧ FullB σ (fpI I O n m (AC (Rc (R0 σ I oA oB) n 0 m 0) mi (du0 σ) G) (AC (Rc (R0 σ I oA oB) n 0 m (-1)) mi (du0 σ) G) (AC (Rc (R0 σ I oA oB) n (-1) m 0) mi (du0 σ) G) (AC (Rc (R0 σ I oA oB) n (-1) m (-1)) mi (du0 σ) G) a b c s).2 (Ev (R0 σ I oA oB)) n) ∧
    (∀ a1 b1 a2 b2, gfind (fun b => (g1 (updR (R0 σ I oA oB) n (.inr (a, b))) mi (du0 σ) G m).map (fun p => ((a, b), p))) b c = some ((a1, b1), (a2, b2)) → (fpI I O n m (AC (Rc (R0 σ I oA oB) n 0 m 0) mi (du0 σ) G) (AC (Rc (R0 σ I oA oB) n 0 m (-1)) mi (du0 σ) G) (AC (Rc (R0 σ I oA oB) n (-1) m 0) mi (du0 σ) G) (AC (Rc (R0 σ I oA oB) n (-1) m (-1)) mi (du0 σ) G) a b c s).1 = true ∧ Ed1 σ (fpI I O n m (AC (Rc (R0 σ I oA oB) n 0 m 0) mi (du0 σ) G) (AC (Rc (R0 σ I oA oB) n 0 m (-1)) mi (du0 σ) G) (AC (Rc (R0 σ I oA oB) n (-1) m 0) mi (du0 σ) G) (AC (Rc (R0 σ I oA oB) n (-1) m (-1)) mi (du0 σ) G) a b c s).2 0 n a1 b1 ∧ Ed1 σ (fpI I O n m (AC (Rc (R0 σ I oA oB) n 0 m 0) mi (du0 σ) G) (AC (Rc (R0 σ I oA oB) n 0 m (-1)) mi (du0 σ) G) (AC (Rc (R0 σ I oA oB) n (-1) m 0) mi (du0 σ) G) (AC (Rc (R0 σ I oA oB) n (-1) m (-1)) mi (du0 σ) G) a b c s).2 1 m a2 b2)
  | 0, b, s, _, hL, hS, hB => ⟨fun _ => ⟨rfl, hS, hB⟩, fun a1 b1 a2 b2 q => by rw [gfind_0] at q; cases q⟩
  | c + 1, b, s, hb, hL, hS, hB => by
    have hw := R0_wf h
    have hmm : ∀ i, i < G → mi i < 2 * (1 + I + O) := fun i hi => (h.2.2.2.1 i hi).1
    have ea : s 10 a = cl (Ev (R0 σ I oA oB)) a := hB.cl ha
    have eb : s 10 b = cl (Ev (R0 σ I oA oB)) b := hB.cl (by omega)
    obtain ⟨set, hset⟩ : ∃ c, c = s 10 a &&& s 10 b := ⟨_, rfl⟩
    have hset2 : set = cl (Ev (R0 σ I oA oB)) a &&& cl (Ev (R0 σ I oA oB)) b := by rw [hset, ea, eb]
    have hL1 := hL.sp (1 + I) n set n set O
    have hS1 := sp_sh h hL hS hn hn set set
    obtain ⟨hF1, -⟩ := sp_full h hL hS hn hn set set O (Nat.le_refl O)
    have hB1 : FullB σ (spF s (1 + I) n set n set O) (Ev (R0 σ I oA oB)) n := fun k hk => by rw [← low_ev h (Nat.le_refl n) (by omega) set set k hk]; exact hF1 k (by omega)
    have hG := g1_pair hw hmm hnm hm ha (show b < 2 * n by omega) (du := du0 σ) hset2 (x := spF s (1 + I) n set n set O 10) (fun a2 h2 => hF1.cl (by omega))
    have hfl := fl_gL (u := spF s (1 + I) n set n set O) (P := fun d => AC (Rc (R0 σ I oA oB) n set m d) mi (du0 σ) G = -1) (fun d => two_ok hw hmm n m set d) m
    by_cases hk : mix set (AC (Rc (R0 σ I oA oB) n (-1) m 0) mi (du0 σ) G) (AC (Rc (R0 σ I oA oB) n 0 m 0) mi (du0 σ) G) ||| mix set (AC (Rc (R0 σ I oA oB) n (-1) m (-1)) mi (du0 σ) G) (AC (Rc (R0 σ I oA oB) n 0 m (-1)) mi (du0 σ) G) = -1
    · cases hg : g1 (updR (R0 σ I oA oB) n (.inr (a, b))) mi (du0 σ) G m with
      | none =>
        have hr : ¬ (flR (spF s (1 + I) n set n set O) (mix set (AC (Rc (R0 σ I oA oB) n (-1) m 0) mi (du0 σ) G) (AC (Rc (R0 σ I oA oB) n 0 m 0) mi (du0 σ) G)) (mix set (AC (Rc (R0 σ I oA oB) n (-1) m (-1)) mi (du0 σ) G) (AC (Rc (R0 σ I oA oB) n 0 m (-1)) mi (du0 σ) G)) m).isSome = true := by rw [hfl, ← hG, hg]; decide
        rw [gfind_n (by show Option.map _ (g1 _ _ _ _ _) = _; rw [hg]; rfl), fpI_f (by rw [← hset]; exact hk) (by rw [← hset]; exact hr), ← hset, flR_none hr]
        exact fpI_ev h hn hnm hm ha c (b + 1) _ (by omega) hL1 hS1 hB1
      | some p =>
        have hr : flR (spF s (1 + I) n set n set O) (mix set (AC (Rc (R0 σ I oA oB) n (-1) m 0) mi (du0 σ) G) (AC (Rc (R0 σ I oA oB) n 0 m 0) mi (du0 σ) G)) (mix set (AC (Rc (R0 σ I oA oB) n (-1) m (-1)) mi (du0 σ) G) (AC (Rc (R0 σ I oA oB) n 0 m (-1)) mi (du0 σ) G)) m = some p := by rw [hfl, ← hG, hg]
        rw [gfind_s (by show Option.map _ (g1 _ _ _ _ _) = _; rw [hg]; rfl), fpI_t (by rw [← hset]; exact hk) (by rw [← hset, hr]; rfl), ← hset, hr]
        refine ⟨fun q => (by cases q), fun a1 b1 a2 b2 q => ?_⟩
        cases q
        have e6 : spF s (1 + I) n set n set O 6 = σ 6 := hL1 6 (by decide) (by decide) (by decide) (by decide) (by decide)
        exact ⟨rfl, ptF_ed (by rw [flF_k _ _ _ _ 6 (by decide) (by decide) (by decide)]; exact e6) n 0 a b, (ptF_ed e6 m 1 a2 b2).pt n 0 a b (by decide)⟩
    · have hg : g1 (updR (R0 σ I oA oB) n (.inr (a, b))) mi (du0 σ) G m = none := by
        rw [hG]
        exact (gf_none _ _).mpr (fun a2 _ _ => (gf_none _ _).mpr (fun b2 _ _ => opt_f (fun q => hk (ok_or ((two_ok hw hmm n m set _).mp q)))))
      rw [gfind_n (by show Option.map _ (g1 _ _ _ _ _) = _; rw [hg]; rfl), fpI_k (by rw [← hset]; exact hk)]
      exact fpI_ev h hn hnm hm ha c (b + 1) s (by omega) hL hS hB
theorem fpO_ev (h : HC σ N I O G oA oB mi) {n m : Nat} (hn : 1 + I ≤ n) (hnm : n < m) (hm : m < 1 + I + O) : ∀ (c a : Nat) (s : stT), a + c ≤ 2 * n → Lk σ s → ShC σ s N I O → FullB σ s (Ev (R0 σ I oA oB)) n →
    (gfind (fun a => gfind (fun b => (g1 (updR (R0 σ I oA oB) n (.inr (a, b))) mi (du0 σ) G m).map (fun p => ((a, b), p))) a (2 * n - a)) a c = none → (fpO I O n m (AC (Rc (R0 σ I oA oB) n 0 m 0) mi (du0 σ) G) (AC (Rc (R0 σ I oA oB) n 0 m (-1)) mi (du0 σ) G) (AC (Rc (R0 σ I oA oB) n (-1) m 0) mi (du0 σ) G) (AC (Rc (R0 σ I oA oB) n (-1) m (-1)) mi (du0 σ) G) a c s).1 = false ∧ ShC σ (fpO I O n m (AC (Rc (R0 σ I oA oB) n 0 m 0) mi (du0 σ) G) (AC (Rc (R0 σ I oA oB) n 0 m (-1)) mi (du0 σ) G) (AC (Rc (R0 σ I oA oB) n (-1) m 0) mi (du0 σ) G) (AC (Rc (R0 σ I oA oB) n (-1) m (-1)) mi (du0 σ) G) a c s).2 N I O) ∧
    (∀ a1 b1 a2 b2, gfind (fun a => gfind (fun b => (g1 (updR (R0 σ I oA oB) n (.inr (a, b))) mi (du0 σ) G m).map (fun p => ((a, b), p))) a (2 * n - a)) a c = some ((a1, b1), (a2, b2)) → (fpO I O n m (AC (Rc (R0 σ I oA oB) n 0 m 0) mi (du0 σ) G) (AC (Rc (R0 σ I oA oB) n 0 m (-1)) mi (du0 σ) G) (AC (Rc (R0 σ I oA oB) n (-1) m 0) mi (du0 σ) G) (AC (Rc (R0 σ I oA oB) n (-1) m (-1)) mi (du0 σ) G) a c s).1 = true ∧ Ed1 σ (fpO I O n m (AC (Rc (R0 σ I oA oB) n 0 m 0) mi (du0 σ) G) (AC (Rc (R0 σ I oA oB) n 0 m (-1)) mi (du0 σ) G) (AC (Rc (R0 σ I oA oB) n (-1) m 0) mi (du0 σ) G) (AC (Rc (R0 σ I oA oB) n (-1) m (-1)) mi (du0 σ) G) a c s).2 0 n a1 b1 ∧ Ed1 σ (fpO I O n m (AC (Rc (R0 σ I oA oB) n 0 m 0) mi (du0 σ) G) (AC (Rc (R0 σ I oA oB) n 0 m (-1)) mi (du0 σ) G) (AC (Rc (R0 σ I oA oB) n (-1) m 0) mi (du0 σ) G) (AC (Rc (R0 σ I oA oB) n (-1) m (-1)) mi (du0 σ) G) a c s).2 1 m a2 b2)
  | 0, a, s, _, hL, hS, hB => ⟨fun _ => ⟨rfl, hS⟩, fun a1 b1 a2 b2 q => by rw [gfind_0] at q; cases q⟩
  | c + 1, a, s, hb, hL, hS, hB => by
    obtain ⟨k1, k2⟩ := fpI_ev h hn hnm hm (show a < 2 * n by omega) (2 * n - a) a s (by omega) hL hS hB
    cases hg : gfind (fun b => (g1 (updR (R0 σ I oA oB) n (.inr (a, b))) mi (du0 σ) G m).map (fun p => ((a, b), p))) a (2 * n - a) with
    | none =>
      obtain ⟨q1, q2, q3⟩ := k1 hg
      rw [gfind_n (f := (fun a => gfind (fun b => (g1 (updR (R0 σ I oA oB) n (.inr (a, b))) mi (du0 σ) G m).map (fun p => ((a, b), p))) a (2 * n - a))) hg, fpO_f (by rw [q1]; decide)]
      exact fpO_ev h hn hnm hm c (a + 1) _ (by omega) (Lk_fpI I O n m _ _ _ _ a _ _ s hL) q2 q3
    | some p =>
      obtain ⟨⟨a1, b1⟩, ⟨a2, b2⟩⟩ := p
      obtain ⟨q1, q2, q3⟩ := k2 a1 b1 a2 b2 hg
      rw [gfind_s (f := (fun a => gfind (fun b => (g1 (updR (R0 σ I oA oB) n (.inr (a, b))) mi (du0 σ) G m).map (fun p => ((a, b), p))) a (2 * n - a))) hg, fpO_t q1]
      refine ⟨fun q => (by cases q), fun a1 b1 a2 b2 q => ?_⟩
      cases q
      exact ⟨q1, q2, q3⟩
theorem fp_ev (h : HC σ N I O G oA oB mi) {n m : Nat} (hn : 1 + I ≤ n) (hnm : n < m) (hm : m < 1 + I + O) {s : stT} (hL : Lk σ s) (hS : ShC σ s N I O) :
    (g2 (R0 σ I oA oB) mi (du0 σ) G n m = none → (fpR I O G n m s).1 = false ∧ ShC σ (fpR I O G n m s).2 N I O) ∧
    (∀ a1 b1 a2 b2, g2 (R0 σ I oA oB) mi (du0 σ) G n m = some ((a1, b1), (a2, b2)) → (fpR I O G n m s).1 = true ∧ Ed1 σ (fpR I O G n m s).2 0 n a1 b1 ∧ Ed1 σ (fpR I O G n m s).2 1 m a2 b2) := by
  have hw := R0_wf h
  have hmm : ∀ i, i < G → mi i < 2 * (1 + I + O) := fun i hi => (h.2.2.2.1 i hi).1
  have hm1 : 1 + I ≤ m := by omega
  have hL1 := hL.sp (1 + I) n 0 m 0 O
  have hS1 := sp_sh h hL hS hn hm1 0 0
  have hL2 := hL1.sp (1 + I) n 0 m (-1) O
  have hS2 := sp_sh h hL1 hS1 hn hm1 0 (-1)
  have hL3 := hL2.sp (1 + I) n (-1) m 0 O
  have hS3 := sp_sh h hL2 hS2 hn hm1 (-1) 0
  have hL4 := hL3.sp (1 + I) n (-1) m (-1) O
  have hS4 := sp_sh h hL3 hS3 hn hm1 (-1) (-1)
  obtain ⟨hF4, -⟩ := sp_full h hL3 hS3 hn hm1 (-1) (-1) O (Nat.le_refl O)
  have hB4 : FullB σ (spF (spF (spF (spF s (1 + I) n 0 m 0 O) (1 + I) n 0 m (-1) O) (1 + I) n (-1) m 0 O) (1 + I) n (-1) m (-1) O) (Ev (R0 σ I oA oB)) n := fun k hk => by rw [← low_ev h (Nat.le_of_lt hnm) (by omega) (-1) (-1) k hk]; exact hF4 k (by omega)
  unfold fpR
  dsimp only
  rw [ag_ev h hL hS hn hm1, ag_ev h hL1 hS1 hn hm1, ag_ev h hL2 hS2 hn hm1, ag_ev h hL3 hS3 hn hm1]
  by_cases hk : ((((AC (Rc (R0 σ I oA oB) n 0 m 0) mi (du0 σ) G) ||| (AC (Rc (R0 σ I oA oB) n 0 m (-1)) mi (du0 σ) G)) ||| (AC (Rc (R0 σ I oA oB) n (-1) m 0) mi (du0 σ) G)) ||| (AC (Rc (R0 σ I oA oB) n (-1) m (-1)) mi (du0 σ) G)) = -1
  · rw [if_pos hk]
    exact fpO_ev h hn hnm hm (2 * n) 0 _ (by omega) hL4 hS4 hB4
  · rw [if_neg hk]
    have hg : g2 (R0 σ I oA oB) mi (du0 σ) G n m = none := by
      refine (gf_none _ _).mpr (fun a _ ha => (gf_none _ _).mpr (fun b _ hb => ?_))
      have hN : g1 (updR (R0 σ I oA oB) n (.inr (a, b))) mi (du0 σ) G m = none := by
        refine (gf_none _ _).mpr (fun a2 _ h2 => (gf_none _ _).mpr (fun b2 _ h3 => opt_f (fun q => hk ?_)))
        rw [two_lit hw hmm hnm hm (show a < 2 * n by omega) (show b < 2 * n by omega) (show a2 < 2 * m by omega) (show b2 < 2 * m by omega) rfl, two_ok hw hmm n m] at q
        have q2 := ok_or q
        rw [all_m1] at q2 ⊢
        intro t ht
        have q3 := q2 t ht
        unfold mix at q3
        simp only [Bt_or, Bt_and, Bt_not _ ht] at q3 ⊢
        generalize Bt (AC (Rc (R0 σ I oA oB) n 0 m 0) mi (du0 σ) G) t = w0 at q3 ⊢
        generalize Bt (AC (Rc (R0 σ I oA oB) n 0 m (-1)) mi (du0 σ) G) t = w1 at q3 ⊢
        generalize Bt (AC (Rc (R0 σ I oA oB) n (-1) m 0) mi (du0 σ) G) t = w2 at q3 ⊢
        generalize Bt (AC (Rc (R0 σ I oA oB) n (-1) m (-1)) mi (du0 σ) G) t = w3 at q3 ⊢
        cases w0 <;> cases w1 <;> cases w2 <;> cases w3 <;> simp_all
      rw [hN]; rfl
    rw [hg]
    exact ⟨fun _ => ⟨rfl, hS4⟩, fun a1 b1 a2 b2 q => (by cases q)⟩
noncomputable def F2 (σ : stT) (I : Nat) (oA oB mi : Nat → Nat) (G i j : Nat) : Option (Nat × Nat × ((Nat × Nat) × (Nat × Nat))) := @ite _ (σ 5 (ix (σ 6 (1 + I + i))) = 0 ∧ σ 5 (ix (σ 6 (1 + I + j))) = 0) (Classical.propDecidable _) ((g2 (R0 σ I oA oB) mi (du0 σ) G (1 + I + i) (1 + I + j)).map (fun q => (1 + I + i, 1 + I + j, q))) none
theorem F2_t {i j : Nat} (h : σ 5 (ix (σ 6 (1 + I + i))) = 0 ∧ σ 5 (ix (σ 6 (1 + I + j))) = 0) : F2 σ I oA oB mi G i j = (g2 (R0 σ I oA oB) mi (du0 σ) G (1 + I + i) (1 + I + j)).map (fun q => (1 + I + i, 1 + I + j, q)) := if_pos h
theorem F2_f {i j : Nat} (h : ¬ (σ 5 (ix (σ 6 (1 + I + i))) = 0 ∧ σ 5 (ix (σ 6 (1 + I + j))) = 0)) : F2 σ I oA oB mi G i j = none := if_neg h
theorem f2I_ev (h : HC σ N I O G oA oB mi) {i : Nat} : ∀ (c j : Nat) (s : stT), i < j → j + c ≤ O → Lk σ s → ShC σ s N I O →
    (gfind (F2 σ I oA oB mi G i) j c = none → (f2I I O G i j c s).1 = false ∧ ShC σ (f2I I O G i j c s).2 N I O) ∧
    (∀ n m a1 b1 a2 b2, gfind (F2 σ I oA oB mi G i) j c = some (n, m, ((a1, b1), (a2, b2))) → (f2I I O G i j c s).1 = true ∧ Ed1 σ (f2I I O G i j c s).2 0 n a1 b1 ∧ Ed1 σ (f2I I O G i j c s).2 1 m a2 b2)
  | 0, j, s, _, _, hL, hS => ⟨fun _ => ⟨rfl, hS⟩, fun n m a1 b1 a2 b2 q => by rw [gfind_0] at q; cases q⟩
  | c + 1, j, s, hij, hj, hL, hS => by
    have s5 : s 5 = σ 5 := hL 5 (by decide) (by decide) (by decide) (by decide) (by decide)
    have s6 : s 6 = σ 6 := hL 6 (by decide) (by decide) (by decide) (by decide) (by decide)
    by_cases hk : σ 5 (ix (σ 6 (1 + I + i))) = 0 ∧ σ 5 (ix (σ 6 (1 + I + j))) = 0
    · have hk2 : s 5 (ix (s 6 (1 + I + i))) = 0 ∧ s 5 (ix (s 6 (1 + I + j))) = 0 := by rw [s5, s6]; exact hk
      obtain ⟨k1, k2⟩ := fp_ev h (n := 1 + I + i) (m := 1 + I + j) (by omega) (by omega) (by omega) hL hS
      cases hg : g2 (R0 σ I oA oB) mi (du0 σ) G (1 + I + i) (1 + I + j) with
      | none =>
        obtain ⟨q1, q2⟩ := k1 hg
        rw [gfind_n (by rw [F2_t hk, hg]; rfl), f2I_f hk2 (by rw [q1]; decide)]
        exact f2I_ev h c (j + 1) _ (by omega) (by omega) (Lk_fpR I O G _ _ s hL) q2
      | some p =>
        obtain ⟨⟨a1, b1⟩, ⟨a2, b2⟩⟩ := p
        obtain ⟨q1, q2, q3⟩ := k2 a1 b1 a2 b2 hg
        rw [gfind_s (by rw [F2_t hk, hg]; rfl), f2I_t hk2 q1]
        refine ⟨fun q => (by cases q), fun n m a1 b1 a2 b2 q => ?_⟩
        cases q
        exact ⟨q1, q2, q3⟩
    · rw [gfind_n (F2_f hk), f2I_k (by rw [s5, s6]; exact hk)]
      exact f2I_ev h c (j + 1) s (by omega) (by omega) hL hS
theorem f2O_ev (h : HC σ N I O G oA oB mi) : ∀ (c i : Nat) (s : stT), i + c ≤ O → Lk σ s → ShC σ s N I O →
    (gfind (fun i => gfind (F2 σ I oA oB mi G i) (i + 1) (O - (i + 1))) i c = none → (f2O I O G i c s).1 = false) ∧
    (∀ n m a1 b1 a2 b2, gfind (fun i => gfind (F2 σ I oA oB mi G i) (i + 1) (O - (i + 1))) i c = some (n, m, ((a1, b1), (a2, b2))) → (f2O I O G i c s).1 = true ∧ Ed1 σ (f2O I O G i c s).2 0 n a1 b1 ∧ Ed1 σ (f2O I O G i c s).2 1 m a2 b2)
  | 0, i, s, _, hL, hS => ⟨fun _ => rfl, fun n m a1 b1 a2 b2 q => by rw [gfind_0] at q; cases q⟩
  | c + 1, i, s, hi, hL, hS => by
    obtain ⟨k1, k2⟩ := f2I_ev h (i := i) (O - (i + 1)) (i + 1) s (by omega) (by omega) hL hS
    cases hg : gfind (F2 σ I oA oB mi G i) (i + 1) (O - (i + 1)) with
    | none =>
      obtain ⟨q1, q2⟩ := k1 hg
      rw [gfind_n (f := fun i => gfind (F2 σ I oA oB mi G i) (i + 1) (O - (i + 1))) hg, f2O_f (by rw [q1]; decide)]
      exact f2O_ev h c (i + 1) _ (by omega) (Lk_f2I I O G i _ _ s hL) q2
    | some p =>
      obtain ⟨n, m, ⟨a1, b1⟩, ⟨a2, b2⟩⟩ := p
      obtain ⟨q1, q2, q3⟩ := k2 n m a1 b1 a2 b2 hg
      rw [gfind_s (f := fun i => gfind (F2 σ I oA oB mi G i) (i + 1) (O - (i + 1))) hg, f2O_t q1]
      refine ⟨fun q => (by cases q), fun n m a1 b1 a2 b2 q => ?_⟩
      cases q
      exact ⟨q1, q2, q3⟩
/-- the first right sets of no, one, two edits -/
def Z0 (σ : stT) (I : Nat) (oA oB mi : Nat → Nat) (G : Nat) : Prop := AC (R0 σ I oA oB) mi (du0 σ) G = -1
noncomputable def Z1 (σ : stT) (I O : Nat) (oA oB mi : Nat → Nat) (G : Nat) : Option (Nat × (Nat × Nat)) := gfind (F1 σ I oA oB mi G) 0 O
noncomputable def Z2 (σ : stT) (I O : Nat) (oA oB mi : Nat → Nat) (G : Nat) : Option (Nat × Nat × ((Nat × Nat) × (Nat × Nat))) := gfind (fun i => gfind (F2 σ I oA oB mi G i) (i + 1) (O - (i + 1))) 0 O
theorem fe_lk (h : HC σ N I O G oA oB mi) (most : Nat) : Lk σ (feR σ N I O G most).2 := by
  have hL : Lk σ (siF σ N (1 + I + O)) := Lk_si N _
  have h1 := Lk_f1 I O G O 0 _ hL
  unfold feR
  dsimp only
  split
  · exact hL
  · split
    · split
      · exact h1
      · split
        · split
          · exact Lk_f2O I O G O 0 _ h1
          · exact Lk_f2O I O G O 0 _ h1
        · exact h1
    · exact hL
theorem fe_0 (h : HC σ N I O G oA oB mi) {most : Nat} (hz : Z0 σ I oA oB mi G) : (feR σ N I O G most).1 = 0 := by rw [feR_0 (by rw [si_ag h]; exact hz)]
theorem fe_1n (h : HC σ N I O G oA oB mi) (hz : ¬ Z0 σ I oA oB mi G) : (feR σ N I O G 0).1 = -1 := by rw [feR_1 (by rw [si_ag h]; exact hz) (by decide)]
theorem fe_1 (h : HC σ N I O G oA oB mi) {most n a b : Nat} (hm : 1 ≤ most) (hz : ¬ Z0 σ I oA oB mi G) (h1 : Z1 σ I O oA oB mi G = some (n, (a, b))) : (feR σ N I O G most).1 = 1 ∧ Ed1 σ (feR σ N I O G most).2 0 n a b := by
  obtain ⟨-, k⟩ := f1_ev h O 0 (siF σ N (1 + I + O)) (by omega) (Lk_si N _) (si_sh h)
  obtain ⟨q1, q2⟩ := k n a b h1
  rw [feR_2 (by rw [si_ag h]; exact hz) hm q1]
  exact ⟨rfl, q2⟩
theorem fe_2n (h : HC σ N I O G oA oB mi) (hz : ¬ Z0 σ I oA oB mi G) (h1 : Z1 σ I O oA oB mi G = none) : (feR σ N I O G 1).1 = -1 := by
  obtain ⟨k, -⟩ := f1_ev h O 0 (siF σ N (1 + I + O)) (by omega) (Lk_si N _) (si_sh h)
  rw [feR_3 (by rw [si_ag h]; exact hz) (Nat.le_refl 1) (by rw [(k h1).1]; decide) (by decide)]
theorem fe_2 (h : HC σ N I O G oA oB mi) {n m a1 b1 a2 b2 : Nat} (hz : ¬ Z0 σ I oA oB mi G) (h1 : Z1 σ I O oA oB mi G = none) (h2 : Z2 σ I O oA oB mi G = some (n, m, ((a1, b1), (a2, b2)))) : (feR σ N I O G 2).1 = 2 ∧ Ed1 σ (feR σ N I O G 2).2 0 n a1 b1 ∧ Ed1 σ (feR σ N I O G 2).2 1 m a2 b2 := by
  obtain ⟨k, -⟩ := f1_ev h O 0 (siF σ N (1 + I + O)) (by omega) (Lk_si N _) (si_sh h)
  obtain ⟨q1, q2⟩ := k h1
  obtain ⟨-, k2⟩ := f2O_ev h O 0 _ (by omega) (Lk_f1 I O G O 0 _ (Lk_si (σ := σ) N (1 + I + O))) q2
  obtain ⟨r1, r2, r3⟩ := k2 n m a1 b1 a2 b2 h2
  rw [feR_4 (by rw [si_ag h]; exact hz) (by decide) (by rw [q1]; decide) (Nat.le_refl 2) r1]
  exact ⟨rfl, r2, r3⟩
theorem fe_3n (h : HC σ N I O G oA oB mi) (hz : ¬ Z0 σ I oA oB mi G) (h1 : Z1 σ I O oA oB mi G = none) (h2 : Z2 σ I O oA oB mi G = none) : (feR σ N I O G 2).1 = -1 := by
  obtain ⟨k, -⟩ := f1_ev h O 0 (siF σ N (1 + I + O)) (by omega) (Lk_si N _) (si_sh h)
  obtain ⟨q1, q2⟩ := k h1
  obtain ⟨k2, -⟩ := f2O_ev h O 0 _ (by omega) (Lk_f1 I O G O 0 _ (Lk_si (σ := σ) N (1 + I + O))) q2
  rw [feR_5 (by rw [si_ag h]; exact hz) (by decide) (by rw [q1]; decide) (Nat.le_refl 2) (by rw [k2 h2]; decide)]
end CF
