/-! the class's search: what it finds -/
def HC (σ : stT) (N I O G : Nat) (oA oB mi : Nat → Nat) : Prop :=
  (∀ n m, n < m → m < 1 + I + O → ix (σ 6 n) < ix (σ 6 m)) ∧ (∀ k, k < 1 + I + O → ix (σ 6 k) < N) ∧
  (∀ k, 1 + I ≤ k → k < 1 + I + O → oA k < 2 * k ∧ oB k < 2 * k ∧ ix (σ 2 (ix (σ 6 k))) = olit σ (oA k) ∧ ix (σ 3 (ix (σ 6 k))) = olit σ (oB k) ∧ σ 4 (ix (σ 6 k)) = cl (σ 4) (olit σ (oA k)) &&& cl (σ 4) (olit σ (oB k))) ∧
  (∀ i, i < G → mi i < 2 * (1 + I + O) ∧ ix (σ 7 i) = olit σ (mi i)) ∧
  (∀ i, i < G → ix (σ 8 i) / 2 < N ∧ ∀ k, 1 + I ≤ k → k < 1 + I + O → ix (σ 6 k) ≠ ix (σ 8 i) / 2)
def R0 (σ : stT) (I : Nat) (oA oB : Nat → Nat) : Nat → Ru := fun k => if k < 1 + I then .inl (σ 4 (ix (σ 6 k))) else .inr (oA k, oB k)
def du0 (σ : stT) (i : Nat) : Int32 := cl (σ 4) (ix (σ 8 i))
def FullB (σ s : stT) (V : Nat → Int32) (q : Nat) : Prop := ∀ k, k < q → s 9 (ix (σ 6 k)) = V k ∧ s 10 (2 * k) = V k ∧ s 10 (2 * k + 1) = V k ^^^ (-1)
def NonO (σ s : stT) (N K : Nat) : Prop := ∀ j, j < N → (∀ k, k < K → ix (σ 6 k) ≠ j) → s 9 j = σ 4 j
def ShC (σ s : stT) (N I O : Nat) : Prop := FullB σ s (fun k => σ 4 (ix (σ 6 k))) (1 + I) ∧ NonO σ s N (1 + I + O)
theorem cl_ol (σ : stT) (g : Nat → Int32) (a : Nat) : cl g (olit σ a) = cl (fun k => g (ix (σ 6 k))) a := by
  unfold olit cl
  have h1 : (2 * ix (σ 6 (a / 2)) + a % 2) % 2 = a % 2 := by omega
  have h2 : (2 * ix (σ 6 (a / 2)) + a % 2) / 2 = ix (σ 6 (a / 2)) := by omega
  rw [h1, h2]
theorem shF_9 (s : stT) (k : Nat) (c : Int32) (j : Nat) : shF s k c 9 j = if j = ix (s 6 k) then c else s 9 j := rfl
theorem shF_10 (s : stT) (k : Nat) (c : Int32) (j : Nat) : shF s k c 10 j = if j = 2 * k + 1 then c ^^^ (-1) else if j = 2 * k then c else s 10 j := rfl
theorem FullB.cl {σ s : stT} {V : Nat → Int32} {q a : Nat} (h : FullB σ s V q) (ha : a < 2 * q) : s 10 a = cl V a := by
  show _ = if a % 2 = 1 then V (a / 2) ^^^ (-1) else V (a / 2)
  obtain ⟨-, h1, h2⟩ := h (a / 2) (by omega)
  rcases mod2 a with e | e
  · rw [if_neg (by omega)]
    rw [show 2 * (a / 2) = a by omega] at h1
    exact h1
  · rw [if_pos e]
    rw [show 2 * (a / 2) + 1 = a by omega] at h2
    exact h2
section CS
variable {σ s : stT} {N I O G : Nat} {oA oB mi : Nat → Nat}
theorem HC.inj (h : HC σ N I O G oA oB mi) {a b : Nat} (ha : a < 1 + I + O) (hb : b < 1 + I + O) (e : ix (σ 6 a) = ix (σ 6 b)) : a = b := by
  rcases Nat.lt_trichotomy a b with q | q | q
  · have := h.1 a b q hb; omega
  · exact q
  · have := h.1 b a q ha; omega
theorem sh_full (h : HC σ N I O G oA oB mi) {V : Nat → Int32} {k : Nat} (hk : k < 1 + I + O) (e6 : s 6 = σ 6) (hF : FullB σ s V k) (hN : NonO σ s N (1 + I + O)) {c : Int32} (hc : c = V k) : FullB σ (shF s k c) V (k + 1) ∧ NonO σ (shF s k c) N (1 + I + O) := by
  subst hc
  constructor
  · intro j hj
    rw [shF_9, shF_10, shF_10, e6]
    by_cases e : j = k
    · subst e
      rw [if_pos rfl, if_neg (by omega), if_pos rfl, if_pos rfl]
      exact ⟨rfl, rfl, rfl⟩
    · rw [if_neg (fun q => e (h.inj (by omega) hk q)), if_neg (by omega), if_neg (by omega), if_neg (by omega), if_neg (by omega)]
      exact hF j (by omega)
  · intro j hj hn
    rw [shF_9, e6, if_neg (fun q => hn k hk q.symm)]
    exact hN j hj hn
theorem R0_wf (h : HC σ N I O G oA oB mi) : wfR (1 + I + O) (R0 σ I oA oB) := fun k hk p q e => by
  unfold R0 at e
  split at e
  · cases e
  · obtain ⟨a, b, -⟩ := h.2.2.1 k (by omega) hk
    cases e
    exact ⟨a, b⟩
theorem R0_ev (h : HC σ N I O G oA oB mi) : ∀ k, k < 1 + I + O → σ 4 (ix (σ 6 k)) = Ev (R0 σ I oA oB) k := Ev_uq (R0_wf h) (f := fun k => σ 4 (ix (σ 6 k))) (fun k hk => by
  unfold R0
  split
  · rfl
  · rename_i hb
    obtain ⟨a, b, c, d, e⟩ := h.2.2.1 k (by omega) hk
    show _ = cl _ _ &&& cl _ _
    rw [e, cl_ol, cl_ol])
/-- setAndSpread: the columns of the design with n, m set -/
theorem sp_full (h : HC σ N I O G oA oB mi) (hL : Lk σ s) (hS : ShC σ s N I O) {n m : Nat} (hn : 1 + I ≤ n) (hm : 1 + I ≤ m) (c d : Int32) : ∀ i, i ≤ O → FullB σ (spF s (1 + I) n c m d i) (Ev (Rc (R0 σ I oA oB) n c m d)) (1 + I + i) ∧ NonO σ (spF s (1 + I) n c m d i) N (1 + I + O)
  | 0, _ => by
    refine ⟨fun k hk => ?_, hS.2⟩
    have hk : k < 1 + I := hk
    have e : Ev (Rc (R0 σ I oA oB) n c m d) k = σ 4 (ix (σ 6 k)) := by
      rw [Ev_eq ((R0_wf h).rc n c m d) (show k < 1 + I + O by omega)]
      unfold Rc R0
      rw [if_neg (by omega), if_neg (by omega), if_pos hk]
      rfl
    rw [e]
    exact hS.1 k hk
  | i + 1, hi => by
    obtain ⟨hF, hN⟩ := sp_full h hL hS hn hm c d i (by omega)
    have hs := hL.sp (1 + I) n c m d i
    have e6 : spF s (1 + I) n c m d i 6 = σ 6 := hs 6 (by decide) (by decide) (by decide) (by decide) (by decide)
    have s6 : s 6 = σ 6 := hL 6 (by decide) (by decide) (by decide) (by decide) (by decide)
    have s2 : s 2 = σ 2 := hL 2 (by decide) (by decide) (by decide) (by decide) (by decide)
    have s3 : s 3 = σ 3 := hL 3 (by decide) (by decide) (by decide) (by decide) (by decide)
    have hv : (if 1 + I + i = n then c else if 1 + I + i = m then d else cl (spF s (1 + I) n c m d i 9) (ix (s 2 (ix (s 6 (1 + I + i))))) &&& cl (spF s (1 + I) n c m d i 9) (ix (s 3 (ix (s 6 (1 + I + i)))))) = Ev (Rc (R0 σ I oA oB) n c m d) (1 + I + i) := by
      rw [Ev_eq ((R0_wf h).rc n c m d) (show 1 + I + i < 1 + I + O by omega)]
      unfold Rc
      by_cases en : 1 + I + i = n
      · rw [if_pos en, if_pos en]; rfl
      · rw [if_neg en, if_neg en]
        by_cases em : 1 + I + i = m
        · rw [if_pos em, if_pos em]; rfl
        · rw [if_neg em, if_neg em]
          unfold R0
          rw [if_neg (by omega)]
          obtain ⟨a, b, e1, e2, -⟩ := h.2.2.1 (1 + I + i) (by omega) (by omega)
          rw [s6, s2, s3, e1, e2, cl_ol, cl_ol]
          show cl _ _ &&& cl _ _ = cl _ _ &&& cl _ _
          have ea := cl_cg (f := fun k => spF s (1 + I) n c m d i 9 (ix (σ 6 k))) (g := Ev (Rc (R0 σ I oA oB) n c m d)) (a := oA (1 + I + i)) (hF (oA (1 + I + i) / 2) (by omega)).1
          have eb := cl_cg (f := fun k => spF s (1 + I) n c m d i 9 (ix (σ 6 k))) (g := Ev (Rc (R0 σ I oA oB) n c m d)) (a := oB (1 + I + i)) (hF (oB (1 + I + i) / 2) (by omega)).1
          rw [ea, eb]
          rfl
    exact sh_full h (by omega) e6 hF hN hv
theorem sp_sh (h : HC σ N I O G oA oB mi) (hL : Lk σ s) (hS : ShC σ s N I O) {n m : Nat} (hn : 1 + I ≤ n) (hm : 1 + I ≤ m) (c d : Int32) : ShC σ (spF s (1 + I) n c m d O) N I O := by
  obtain ⟨hF, hN⟩ := sp_full h hL hS hn hm c d O (Nat.le_refl O)
  refine ⟨fun k hk => ?_, hN⟩
  have e : Ev (Rc (R0 σ I oA oB) n c m d) k = σ 4 (ix (σ 6 k)) := by
    rw [Ev_eq ((R0_wf h).rc n c m d) (show k < 1 + I + O by omega)]
    unfold Rc R0
    rw [if_neg (by omega), if_neg (by omega), if_pos hk]
    rfl
  have := hF k (by omega)
  rw [e] at this
  exact this
/-- the outputs' difference by columns that are those of the rules R -/
theorem dor_ev (h : HC σ N I O G oA oB mi) {R : Nat → Ru} (hR : ∀ k, k < 1 + I → Ev R k = σ 4 (ix (σ 6 k))) (e7 : s 7 = σ 7) (e8 : s 8 = σ 8) (hF : FullB σ s (Ev R) (1 + I + O)) (hN : NonO σ s N (1 + I + O)) : ∀ i, i ≤ G → dor s 9 i = doE R mi (du0 σ) i
  | 0, _ => rfl
  | i + 1, hi => by
    show dor s 9 i ||| df s 9 i = doE R mi (du0 σ) i ||| _
    rw [dor_ev h hR e7 e8 hF hN i (by omega)]
    congr 1
    obtain ⟨m1, m2⟩ := h.2.2.2.1 i (by omega)
    obtain ⟨d1, d2⟩ := h.2.2.2.2 i (by omega)
    unfold df du0
    rw [e7, e8, m2, cl_ol, cl_cg (f := fun k => s 9 (ix (σ 6 k))) (g := Ev R) (hF (mi i / 2) (by omega)).1]
    congr 1
    refine cl_cg ?_
    by_cases q : ∃ k, k < 1 + I + O ∧ ix (σ 6 k) = ix (σ 8 i) / 2
    · obtain ⟨k, hk, ek⟩ := q
      have hb : k < 1 + I := Nat.lt_of_not_le (fun q => d2 k q hk ek)
      rw [← ek, (hF k hk).1, hR k hb]
    · exact hN _ d1 (fun k hk ek => q ⟨k, hk, ek⟩)
theorem ag_ev (h : HC σ N I O G oA oB mi) (hL : Lk σ s) (hS : ShC σ s N I O) {n m : Nat} (hn : 1 + I ≤ n) (hm : 1 + I ≤ m) (c d : Int32) : agF s I O G n c m d = AC (Rc (R0 σ I oA oB) n c m d) mi (du0 σ) G := by
  obtain ⟨hF, hN⟩ := sp_full h hL hS hn hm c d O (Nat.le_refl O)
  have hs := hL.sp (1 + I) n c m d O
  unfold agF AC
  rw [dor_ev h (fun k hk => by
    rw [Ev_eq ((R0_wf h).rc n c m d) (show k < 1 + I + O by omega)]
    unfold Rc R0
    rw [if_neg (by omega), if_neg (by omega), if_pos hk]
    rfl) (hs 7 (by decide) (by decide) (by decide) (by decide) (by decide)) (hs 8 (by decide) (by decide) (by decide) (by decide) (by decide)) hF hN G (Nat.le_refl G)]
/-- showAsItIs -/
theorem si_full (h : HC σ N I O G oA oB mi) : ∀ i, i ≤ 1 + I + O → FullB σ (siF σ N i) (fun k => σ 4 (ix (σ 6 k))) i ∧ (∀ j, j < N → siF σ N i 9 j = σ 4 j)
  | 0, _ => ⟨fun k hk => absurd hk (by omega), fun j hj => by
    show va_cpy (σ 4) (σ 9) 0 0 N j = _
    rw [pk_cpy_in (Nat.zero_le j) (by omega)]
    congr 1
    omega⟩
  | i + 1, hi => by
    obtain ⟨hF, hN⟩ := si_full h i (by omega)
    have e6 : siF σ N i 6 = σ 6 := siF_k σ N 6 (by decide) (by decide) i
    obtain ⟨a, -⟩ := sh_full h (by omega) e6 hF (fun j hj _ => hN j hj) (c := σ 4 (ix (σ 6 i))) rfl
    refine ⟨a, fun j hj => ?_⟩
    show shF (siF σ N i) i (σ 4 (ix (σ 6 i))) 9 j = _
    rw [shF_9, e6]
    split
    · rename_i q; rw [q]
    · exact hN j hj
theorem si_sh (h : HC σ N I O G oA oB mi) : ShC σ (siF σ N (1 + I + O)) N I O := by
  obtain ⟨a, b⟩ := si_full h (1 + I + O) (Nat.le_refl _)
  exact ⟨fun k hk => a k (by omega), fun j hj _ => b j hj⟩
theorem si_ag (h : HC σ N I O G oA oB mi) : dor (siF σ N (1 + I + O)) 9 G ^^^ (-1) = AC (R0 σ I oA oB) mi (du0 σ) G := by
  obtain ⟨a, b⟩ := si_full h (1 + I + O) (Nat.le_refl _)
  unfold AC
  rw [dor_ev h (fun k hk => (R0_ev h k (by omega)).symm) (siF_k σ N 7 (by decide) (by decide) _) (siF_k σ N 8 (by decide) (by decide) _) (fun k hk => by rw [← R0_ev h k hk]; exact a k hk) (fun j hj _ => b j hj) G (Nat.le_refl G)]
end CS
/-- the first two literals that P takes -/
noncomputable def gL (x : Nat → Int32) (P : Int32 → Prop) (n : Nat) : Option (Nat × Nat) := gfind (fun a => gfind (fun b => opt (P (x a &&& x b)) (a, b)) a (2 * n - a)) 0 (2 * n)
theorem gfind_map {β : Type} {P : Nat → Prop} {F : Nat → β} : ∀ (c i : Nat), (gfind (fun b => opt (P b) b) i c).map F = gfind (fun b => opt (P b) (F b)) i c
  | 0, i => by rw [gfind_0, gfind_0]; rfl
  | c + 1, i => by
    by_cases h : P i
    · rw [gfind_s (f := fun b => opt (P b) b) (opt_t h), gfind_s (f := fun b => opt (P b) (F b)) (opt_t h)]; rfl
    · rw [gfind_n (f := fun b => opt (P b) b) (opt_f h), gfind_n (f := fun b => opt (P b) (F b)) (opt_f h)]; exact gfind_map c (i + 1)
theorem fl_gL {u : stT} {P : Int32 → Prop} {ok0 ok1 : Int32} (hok : ∀ c, P c ↔ (c &&& (ok1 ^^^ (-1))) ||| ((c ^^^ (-1)) &&& (ok0 ^^^ (-1))) = 0) (n : Nat) : flR u ok0 ok1 n = gL (u 10) P n := by
  unfold flR gL
  by_cases h : ok0 ||| ok1 = -1
  · rw [if_pos h]
    refine gfind_c _ _ (fun a _ _ => ?_)
    unfold flG
    by_cases h2 : (u 10 a ^^^ (-1)) &&& (ok0 ^^^ (-1)) = 0
    · rw [if_pos h2]
      unfold ptR
      rw [gfind_map (F := fun b => (a, b))]
      refine gfind_c _ _ (fun b _ _ => opt_c ?_)
      exact (hok _).symm
    · rw [if_neg h2]
      refine ((gf_none _ _).mpr (fun b _ _ => opt_f (fun q => h2 (ok_lit ((hok _).mp q))))).symm
  · rw [if_neg h]
    refine ((gf_none _ _).mpr (fun a _ _ => (gf_none _ _).mpr (fun b _ _ => opt_f (fun q => h (ok_or ((hok _).mp q)))))).symm
/-- one edit: the first two literals for n that make the design right -/
noncomputable def g1 (R : Nat → Ru) (mi : Nat → Nat) (du : Nat → Int32) (G n : Nat) : Option (Nat × Nat) := gfind (fun a => gfind (fun b => opt (AC (updR R n (.inr (a, b))) mi du G = -1) (a, b)) a (2 * n - a)) 0 (2 * n)
/-- two edits -/
noncomputable def g2 (R : Nat → Ru) (mi : Nat → Nat) (du : Nat → Int32) (G n m : Nat) : Option ((Nat × Nat) × (Nat × Nat)) := gfind (fun a => gfind (fun b => (g1 (updR R n (.inr (a, b))) mi du G m).map (fun p => ((a, b), p))) a (2 * n - a)) 0 (2 * n)
