/-! the evaluation of a design: rules by own place; bits -/
/-- bit t of a column -/
def Bt (x : Int32) (t : Nat) : Bool := x.toBitVec.getLsbD t
theorem Bt_and (x z : Int32) (t : Nat) : Bt (x &&& z) t = (Bt x t && Bt z t) := by unfold Bt; rw [Int32.toBitVec_and, BitVec.getLsbD_and]
theorem Bt_or (x z : Int32) (t : Nat) : Bt (x ||| z) t = (Bt x t || Bt z t) := by unfold Bt; rw [Int32.toBitVec_or, BitVec.getLsbD_or]
theorem Bt_xor (x z : Int32) (t : Nat) : Bt (x ^^^ z) t = (Bt x t ^^ Bt z t) := by unfold Bt; rw [Int32.toBitVec_xor, BitVec.getLsbD_xor]
theorem Bt_0 (t : Nat) : Bt 0 t = false := by unfold Bt; rw [show (0 : Int32).toBitVec = 0#32 from rfl, BitVec.getLsbD_zero]
theorem Bt_m1 {t : Nat} (h : t < 32) : Bt (-1) t = true := by
  unfold Bt
  rw [show (-1 : Int32).toBitVec = BitVec.allOnes 32 from by decide, BitVec.getLsbD_allOnes]
  exact decide_eq_true h
theorem Bt_ext {x z : Int32} (h : ∀ t, t < 32 → Bt x t = Bt z t) : x = z := Int32.toBitVec_inj.mp (BitVec.eq_of_getLsbD_eq h)
theorem Bt_not (x : Int32) {t : Nat} (h : t < 32) : Bt (x ^^^ (-1)) t = !Bt x t := by rw [Bt_xor, Bt_m1 h, Bool.xor_true]
theorem all_m1 {x : Int32} : x = -1 ↔ ∀ t, t < 32 → Bt x t = true := ⟨fun e t h => by rw [e, Bt_m1 h], fun h => Bt_ext (fun t ht => by rw [h t ht, Bt_m1 ht])⟩
theorem all_0 {x : Int32} : x = 0 ↔ ∀ t, t < 32 → Bt x t = false := ⟨fun e t h => by rw [e, Bt_0], fun h => Bt_ext (fun t ht => by rw [h t ht, Bt_0])⟩
theorem cl_cg {f g : Nat → Int32} {a : Nat} (h : f (a / 2) = g (a / 2)) : cl f a = cl g a := by unfold cl; rw [h]
theorem Bt_cl {f g : Nat → Int32} {a t : Nat} (h : Bt (f (a / 2)) t = Bt (g (a / 2)) t) : Bt (cl f a) t = Bt (cl g a) t := by
  unfold cl
  split
  · rw [Bt_xor, Bt_xor, h]
  · exact h
abbrev Ru : Type := Int32 ⊕ (Nat × Nat)
def ev1 (f : Nat → Int32) : Ru → Int32
  | .inl c => c
  | .inr (p, q) => cl f p &&& cl f q
def Ep (R : Nat → Ru) : Nat → Nat → Int32
  | 0 => fun _ => 0
  | k + 1 => upd (Ep R k) k (ev1 (Ep R k) (R k))
def Ev (R : Nat → Ru) (k : Nat) : Int32 := Ep R (k + 1) k
def wfR (K : Nat) (R : Nat → Ru) : Prop := ∀ k, k < K → ∀ p q, R k = .inr (p, q) → p < 2 * k ∧ q < 2 * k
theorem wfR.mono {K K2 : Nat} {R : Nat → Ru} (h : wfR K R) (hk : K2 ≤ K) : wfR K2 R := fun k a => h k (by omega)
theorem Ep_lt (R : Nat → Ru) : ∀ (k j : Nat), j < k → Ep R k j = Ev R j
  | 0, j, h => absurd h (by omega)
  | k + 1, j, h => by
    by_cases e : j = k
    · rw [e]; rfl
    · show upd _ _ _ j = _
      unfold upd
      rw [if_neg e]
      exact Ep_lt R k j (by omega)
theorem ev1_cg {f g : Nat → Int32} {k : Nat} {r : Ru} (hw : ∀ p q, r = .inr (p, q) → p < 2 * k ∧ q < 2 * k) (h : ∀ j, j < k → f j = g j) : ev1 f r = ev1 g r := by
  match r, hw with
  | .inl c, _ => rfl
  | .inr (p, q), hw =>
    obtain ⟨a, b⟩ := hw p q rfl
    show cl f p &&& cl f q = cl g p &&& cl g q
    rw [cl_cg (h (p / 2) (by omega)), cl_cg (h (q / 2) (by omega))]
theorem Ev_eq {K : Nat} {R : Nat → Ru} (hw : wfR K R) {k : Nat} (hk : k < K) : Ev R k = ev1 (Ev R) (R k) := by
  show upd _ _ _ k = _
  unfold upd
  rw [if_pos rfl]
  exact ev1_cg (hw k hk) (fun j hj => Ep_lt R k j hj)
theorem Ev_uq {K : Nat} {R : Nat → Ru} (hw : wfR K R) {f : Nat → Int32} (h : ∀ k, k < K → f k = ev1 f (R k)) : ∀ k, k < K → f k = Ev R k := by
  intro k
  induction k using Nat.strongRecOn with
  | ind k ih =>
    intro hk
    rw [h k hk, Ev_eq hw hk]
    exact ev1_cg (hw k hk) (fun j hj => ih j hj (by omega))
theorem Ev_low {n : Nat} {R R2 : Nat → Ru} (hw : wfR n R) (h : ∀ j, j < n → R j = R2 j) : ∀ k, k < n → Ev R k = Ev R2 k := by
  have hw2 : wfR n R2 := fun k hk p q e => hw k hk p q (by rw [h k hk]; exact e)
  exact Ev_uq hw2 (fun k hk => by rw [Ev_eq hw hk, h k hk])
/-- the same in bit t -/
def sameB (t : Nat) : Ru → Ru → Prop
  | .inl c, .inl d => Bt c t = Bt d t
  | .inr p, .inr q => p = q
  | _, _ => False
theorem Ev_bit {K t : Nat} {R R2 : Nat → Ru} (hw : wfR K R) (hw2 : wfR K R2) (h : ∀ j, j < K → sameB t (R j) (R2 j)) : ∀ k, k < K → Bt (Ev R k) t = Bt (Ev R2 k) t := by
  intro k
  induction k using Nat.strongRecOn with
  | ind k ih =>
    intro hk
    rw [Ev_eq hw hk, Ev_eq hw2 hk]
    have hs := h k hk
    cases e1 : R k with
    | inl c =>
      cases e2 : R2 k with
      | inl d => rw [e1, e2] at hs; exact hs
      | inr q => rw [e1, e2] at hs; exact hs.elim
    | inr p =>
      cases e2 : R2 k with
      | inl d => rw [e1, e2] at hs; exact hs.elim
      | inr q =>
        rw [e1, e2] at hs
        have hs : p = q := hs
        subst hs
        obtain ⟨p1, p2⟩ := p
        obtain ⟨a, b⟩ := hw k hk p1 p2 e1
        show Bt (cl _ _ &&& cl _ _) t = Bt (cl _ _ &&& cl _ _) t
        rw [Bt_and, Bt_and, Bt_cl (ih (p1 / 2) (by omega) (by omega)), Bt_cl (ih (p2 / 2) (by omega) (by omega))]
def updR (R : Nat → Ru) (n : Nat) (r : Ru) : Nat → Ru := fun k => if k = n then r else R k
theorem updR_s (R : Nat → Ru) (n : Nat) (r : Ru) : updR R n r n = r := if_pos rfl
theorem updR_n {R : Nat → Ru} {n k : Nat} {r : Ru} (h : k ≠ n) : updR R n r k = R k := if_neg h
theorem wfR.updc {K : Nat} {R : Nat → Ru} (h : wfR K R) (n : Nat) (c : Int32) : wfR K (updR R n (.inl c)) := fun k hk p q e => by
  by_cases a : k = n
  · rw [a, updR_s] at e; cases e
  · rw [updR_n a] at e; exact h k hk p q e
theorem wfR.updl {K : Nat} {R : Nat → Ru} (h : wfR K R) (n : Nat) {a b : Nat} (ha : a < 2 * n) (hb : b < 2 * n) : wfR K (updR R n (.inr (a, b))) := fun k hk p q e => by
  by_cases c : k = n
  · subst c; rw [updR_s] at e; cases e; exact ⟨ha, hb⟩
  · rw [updR_n c] at e; exact h k hk p q e
/-- an edit by literals is one by the column that they make -/
theorem Ev_edit {K n a b : Nat} {R : Nat → Ru} (hw : wfR K R) (hn : n < K) (ha : a < 2 * n) (hb : b < 2 * n) : ∀ k, k < K → Ev (updR R n (.inr (a, b))) k = Ev (updR R n (.inl (cl (Ev R) a &&& cl (Ev R) b))) k := by
  have hw1 := hw.updl n ha hb
  refine Ev_uq (hw.updc n _) (fun k hk => ?_)
  by_cases c : k = n
  · subst c
    rw [Ev_eq hw1 hk, updR_s, updR_s]
    have low : ∀ j, j < k → Ev (updR R k (.inr (a, b))) j = Ev R j := Ev_low (hw1.mono (by omega)) (fun j hj => updR_n (by omega))
    show cl _ _ &&& cl _ _ = cl _ _ &&& cl _ _
    rw [cl_cg (low (a / 2) (by omega)), cl_cg (low (b / 2) (by omega))]
  · rw [Ev_eq hw1 hk, updR_n c, updR_n c]
/-- the outputs: literals mi of the old design, columns du -/
def doE (R : Nat → Ru) (mi : Nat → Nat) (du : Nat → Int32) : Nat → Int32
  | 0 => 0
  | i + 1 => doE R mi du i ||| (cl (Ev R) (mi i) ^^^ du i)
def AC (R : Nat → Ru) (mi : Nat → Nat) (du : Nat → Int32) (G : Nat) : Int32 := doE R mi du G ^^^ (-1)
theorem doE_bit (R : Nat → Ru) (mi : Nat → Nat) (du : Nat → Int32) (t : Nat) : ∀ G, Bt (doE R mi du G) t = false ↔ ∀ i, i < G → Bt (cl (Ev R) (mi i)) t = Bt (du i) t
  | 0 => ⟨fun _ i h => absurd h (by omega), fun _ => Bt_0 t⟩
  | G + 1 => by
    show Bt (_ ||| _) t = false ↔ _
    rw [Bt_or, Bool.or_eq_false_iff, doE_bit R mi du t G, Bt_xor]
    constructor
    · rintro ⟨h1, h2⟩ i hi
      by_cases e : i = G
      · subst e; simpa using h2
      · exact h1 i (by omega)
    · intro h
      exact ⟨fun i hi => h i (by omega), by rw [h G (by omega)]; simp⟩
theorem AC_bit (R : Nat → Ru) (mi : Nat → Nat) (du : Nat → Int32) (G : Nat) {t : Nat} (ht : t < 32) : Bt (AC R mi du G) t = true ↔ ∀ i, i < G → Bt (cl (Ev R) (mi i)) t = Bt (du i) t := by
  unfold AC
  rw [Bt_not _ ht, Bool.not_eq_true', doE_bit]
theorem AC_all (R : Nat → Ru) (mi : Nat → Nat) (du : Nat → Int32) (G : Nat) : AC R mi du G = -1 ↔ ∀ i, i < G → cl (Ev R) (mi i) = du i := by
  rw [all_m1]
  constructor
  · intro h i hi
    exact Bt_ext (fun t ht => (AC_bit R mi du G ht).mp (h t ht) i hi)
  · intro h t ht
    rw [AC_bit R mi du G ht]
    exact fun i hi => by rw [h i hi]
theorem AC_cg {K : Nat} {R R2 : Nat → Ru} {mi : Nat → Nat} {du : Nat → Int32} {G : Nat} (hm : ∀ i, i < G → mi i < 2 * K) (h : ∀ k, k < K → Ev R k = Ev R2 k) : AC R mi du G = AC R2 mi du G := by
  refine Bt_ext (fun t ht => ?_)
  rw [Bool.eq_iff_iff, AC_bit R mi du G ht, AC_bit R2 mi du G ht]
  constructor
  · intro q i hi; rw [← q i hi, cl_cg (h (mi i / 2) (by have := hm i hi; omega))]
  · intro q i hi; rw [← q i hi, cl_cg (h (mi i / 2) (by have := hm i hi; omega))]
theorem AC_bcg {K : Nat} {R R2 : Nat → Ru} {mi : Nat → Nat} {du : Nat → Int32} {G t : Nat} (ht : t < 32) (hm : ∀ i, i < G → mi i < 2 * K) (h : ∀ k, k < K → Bt (Ev R k) t = Bt (Ev R2 k) t) : Bt (AC R mi du G) t = Bt (AC R2 mi du G) t := by
  rw [Bool.eq_iff_iff, AC_bit R mi du G ht, AC_bit R2 mi du G ht]
  constructor
  · intro q i hi; rw [← q i hi, Bt_cl (h (mi i / 2) (by have := hm i hi; omega))]
  · intro q i hi; rw [← q i hi, Bt_cl (h (mi i / 2) (by have := hm i hi; omega))]
/-- two ANDs set to columns -/
def Rc (R : Nat → Ru) (n : Nat) (c : Int32) (m : Nat) (d : Int32) : Nat → Ru := fun k => if k = n then .inl c else if k = m then .inl d else R k
theorem wfR.rc {K : Nat} {R : Nat → Ru} (h : wfR K R) (n : Nat) (c : Int32) (m : Nat) (d : Int32) : wfR K (Rc R n c m d) := fun k hk p q e => by
  unfold Rc at e
  split at e
  · cases e
  · split at e
    · cases e
    · exact h k hk p q e
theorem Rc_1 (R : Nat → Ru) (n : Nat) (c : Int32) : Rc R n c n c = updR R n (.inl c) := by
  funext k
  unfold Rc updR
  split
  · rfl
  · rfl
theorem Rc_2 {R : Nat → Ru} {n m : Nat} (h : n ≠ m) (c d : Int32) : Rc R n c m d = updR (updR R n (.inl c)) m (.inl d) := by
  funext k
  unfold Rc updR
  by_cases a : k = n
  · rw [if_pos a, if_neg (by omega), if_pos a]
  · by_cases b : k = m
    · rw [if_neg a, if_pos b, if_pos b]
    · rw [if_neg a, if_neg b, if_neg b, if_neg a]
theorem Rc_bit {K : Nat} {R : Nat → Ru} (hw : wfR K R) {n m : Nat} {c c2 d d2 : Int32} {t : Nat} (hc : Bt c t = Bt c2 t) (hd : Bt d t = Bt d2 t) : ∀ k, k < K → Bt (Ev (Rc R n c m d) k) t = Bt (Ev (Rc R n c2 m d2) k) t := by
  refine Ev_bit (hw.rc _ _ _ _) (hw.rc _ _ _ _) (fun j hj => ?_)
  unfold Rc
  split
  · exact hc
  · split
    · exact hd
    · cases R j with
      | inl c => exact rfl
      | inr p => exact rfl
section MX
variable {K G : Nat} {R : Nat → Ru} {mi : Nat → Nat} {du : Nat → Int32}
/-- one AND set to a column: right just where its bits say so -/
theorem one_ok (hw : wfR K R) (hm : ∀ i, i < G → mi i < 2 * K) (n : Nat) (c : Int32) : AC (Rc R n c n c) mi du G = -1 ↔ (c &&& (AC (Rc R n (-1) n (-1)) mi du G ^^^ (-1))) ||| ((c ^^^ (-1)) &&& (AC (Rc R n 0 n 0) mi du G ^^^ (-1))) = 0 := by
  rw [all_m1, all_0]
  refine forall_congr' fun t => forall_congr' fun ht => ?_
  rw [Bt_or, Bt_and, Bt_and, Bt_not _ ht, Bt_not _ ht, Bt_not _ ht]
  cases hc : Bt c t
  · rw [AC_bcg (R2 := Rc R n 0 n 0) ht hm (Rc_bit hw (by rw [hc, Bt_0]) (by rw [hc, Bt_0]))]
    simp
  · rw [AC_bcg (R2 := Rc R n (-1) n (-1)) ht hm (Rc_bit hw (by rw [hc, Bt_m1 ht]) (by rw [hc, Bt_m1 ht]))]
    simp
/-- two ANDs set: right just where their bits say so -/
theorem two_ok (hw : wfR K R) (hm : ∀ i, i < G → mi i < 2 * K) (n m : Nat) (c d : Int32) : AC (Rc R n c m d) mi du G = -1 ↔ (d &&& (mix c (AC (Rc R n (-1) m (-1)) mi du G) (AC (Rc R n 0 m (-1)) mi du G) ^^^ (-1))) ||| ((d ^^^ (-1)) &&& (mix c (AC (Rc R n (-1) m 0) mi du G) (AC (Rc R n 0 m 0) mi du G) ^^^ (-1))) = 0 := by
  rw [all_m1, all_0]
  refine forall_congr' fun t => forall_congr' fun ht => ?_
  unfold mix
  rw [Bt_or, Bt_and, Bt_and, Bt_not _ ht, Bt_not _ ht, Bt_not _ ht, Bt_or, Bt_or, Bt_and, Bt_and, Bt_and, Bt_and, Bt_not _ ht]
  cases hc : Bt c t <;> cases hd : Bt d t
  · rw [AC_bcg (R2 := Rc R n 0 m 0) ht hm (Rc_bit hw (by rw [hc, Bt_0]) (by rw [hd, Bt_0]))]
    simp
  · rw [AC_bcg (R2 := Rc R n 0 m (-1)) ht hm (Rc_bit hw (by rw [hc, Bt_0]) (by rw [hd, Bt_m1 ht]))]
    simp
  · rw [AC_bcg (R2 := Rc R n (-1) m 0) ht hm (Rc_bit hw (by rw [hc, Bt_m1 ht]) (by rw [hd, Bt_0]))]
    simp
  · rw [AC_bcg (R2 := Rc R n (-1) m (-1)) ht hm (Rc_bit hw (by rw [hc, Bt_m1 ht]) (by rw [hd, Bt_m1 ht]))]
    simp
end MX
/-- what is right must be right by 0 or by 1 -/
theorem ok_or {d p0 p1 : Int32} (h : (d &&& (p1 ^^^ (-1))) ||| ((d ^^^ (-1)) &&& (p0 ^^^ (-1))) = 0) : p0 ||| p1 = -1 := by
  rw [all_0] at h
  rw [all_m1]
  intro t ht
  have q := h t ht
  rw [Bt_or, Bt_and, Bt_and, Bt_not _ ht, Bt_not _ ht, Bt_not _ ht] at q
  rw [Bt_or]
  cases h1 : Bt d t <;> cases h2 : Bt p0 t <;> cases h3 : Bt p1 t <;> simp_all
/-- a literal that is 0 where 0 is wrong has no partner -/
theorem ok_lit {x z p0 p1 : Int32} (h : ((x &&& z) &&& (p1 ^^^ (-1))) ||| (((x &&& z) ^^^ (-1)) &&& (p0 ^^^ (-1))) = 0) : (x ^^^ (-1)) &&& (p0 ^^^ (-1)) = 0 := by
  rw [all_0] at h
  rw [all_0]
  intro t ht
  have q := h t ht
  simp only [Bt_or, Bt_and, Bt_not _ ht] at q ⊢
  cases h1 : Bt x t <;> cases h2 : Bt p0 t <;> cases h3 : Bt p1 t <;> cases h4 : Bt z t <;> simp_all
/-- a first found is found: by what it is -/
theorem gf_some {β : Type} {f : Nat → Option β} : ∀ (c i : Nat) (x : β), gfind f i c = some x ↔ ∃ j, i ≤ j ∧ j < i + c ∧ f j = some x ∧ ∀ k, i ≤ k → k < j → f k = none
  | 0, i, x => by rw [gfind_0]; exact ⟨fun h => (by cases h), fun ⟨j, h1, h2, _⟩ => absurd h2 (by omega)⟩
  | c + 1, i, x => by
    cases hf : f i with
    | some z =>
      rw [gfind_s hf]
      constructor
      · intro h; cases h; exact ⟨i, Nat.le_refl _, by omega, hf, fun k a b => absurd b (by omega)⟩
      · rintro ⟨j, h1, h2, h3, h4⟩
        by_cases e : j = i
        · rw [e, hf] at h3; exact h3
        · rw [h4 i (Nat.le_refl _) (by omega)] at hf; cases hf
    | none =>
      rw [gfind_n hf, gf_some c (i + 1) x]
      constructor
      · rintro ⟨j, h1, h2, h3, h4⟩
        exact ⟨j, by omega, by omega, h3, fun k a b => by
          by_cases e : k = i
          · rw [e]; exact hf
          · exact h4 k (by omega) b⟩
      · rintro ⟨j, h1, h2, h3, h4⟩
        by_cases e : j = i
        · rw [e, hf] at h3; cases h3
        · exact ⟨j, by omega, by omega, h3, fun k a b => h4 k (by omega) b⟩
theorem gf_none {β : Type} {f : Nat → Option β} : ∀ (c i : Nat), gfind f i c = none ↔ ∀ k, i ≤ k → k < i + c → f k = none
  | 0, i => by rw [gfind_0]; exact ⟨fun _ k a b => absurd b (by omega), fun _ => rfl⟩
  | c + 1, i => by
    cases hf : f i with
    | some z =>
      rw [gfind_s hf]
      exact ⟨fun h => (by cases h), fun h => (by rw [h i (Nat.le_refl _) (by omega)] at hf; cases hf)⟩
    | none =>
      rw [gfind_n hf, gf_none c (i + 1)]
      constructor
      · intro h k a b
        by_cases e : k = i
        · rw [e]; exact hf
        · exact h k (by omega) (by omega)
      · exact fun h k a b => h k (by omega) (by omega)
/-- the first found through a rising map that misses only what finds nothing -/
theorem gf_map {β : Type} {f f2 : Nat → Option β} (o : Nat → Nat) {i c i2 c2 : Nat} (hm : ∀ a b, i ≤ a → a < b → b < i + c → o a < o b) (hr : ∀ a, i ≤ a → a < i + c → i2 ≤ o a ∧ o a < i2 + c2) (hs : ∀ a, i ≤ a → a < i + c → f2 (o a) = f a) (hn : ∀ k, i2 ≤ k → k < i2 + c2 → (∀ a, i ≤ a → a < i + c → o a ≠ k) → f2 k = none) : gfind f2 i2 c2 = gfind f i c := by
  cases h : gfind f i c with
  | none =>
    rw [gf_none] at h ⊢
    intro k h1 h2
    by_cases e : ∃ a, i ≤ a ∧ a < i + c ∧ o a = k
    · obtain ⟨a, a1, a2, rfl⟩ := e
      rw [hs a a1 a2]; exact h a a1 a2
    · exact hn k h1 h2 (fun a a1 a2 q => e ⟨a, a1, a2, q⟩)
  | some x =>
    rw [gf_some] at h ⊢
    obtain ⟨j, j1, j2, j3, j4⟩ := h
    refine ⟨o j, (hr j j1 j2).1, (hr j j1 j2).2, by rw [hs j j1 j2]; exact j3, fun k h1 h2 => ?_⟩
    by_cases e : ∃ a, i ≤ a ∧ a < i + c ∧ o a = k
    · obtain ⟨a, a1, a2, rfl⟩ := e
      rw [hs a a1 a2]
      refine j4 a a1 ?_
      rcases Nat.lt_trichotomy a j with q | q | q
      · exact q
      · rw [q] at h2; exact absurd h2 (Nat.lt_irrefl _)
      · have := hm j a j1 q a2; omega
    · exact hn k h1 (by have := (hr j j1 j2).2; omega) (fun a a1 a2 q => e ⟨a, a1, a2, q⟩)
