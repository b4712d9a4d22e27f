/-! the taking: class and reference take the same spares -/
theorem near_64 {x z : Int32} (hx : near x) (hz : near z) : ∃ d : Nat, d ≤ 2000 ∧ ab (x - z) = nI d ∧ labs (x.toInt64 - z.toInt64) = lN d := by
  obtain ⟨x1, x2⟩ := hx
  obtain ⟨z1, z2⟩ := hz
  have e1 : (x - z).toInt = x.toInt - z.toInt := by
    rw [Int32.toInt_sub, Int.bmod_eq_of_le (by omega) (by omega)]
  have e2 : (x.toInt64 - z.toInt64).toInt = x.toInt - z.toInt := by
    rw [Int64.toInt_sub, Int32.toInt_toInt64, Int32.toInt_toInt64, Int.bmod_eq_of_le (by omega) (by omega)]
  refine ⟨(x.toInt - z.toInt).natAbs, by omega, ?_, ?_⟩
  · unfold ab
    by_cases h : 0 ≤ x - z
    · rw [if_pos h]
      have h0 : (0 : Int) ≤ (x - z).toInt := by have := Int32.le_iff_toInt_le.mp h; simpa using this
      apply Int32.toInt_inj.mp
      rw [nI_toInt (by omega), e1]
      omega
    · rw [if_neg h]
      have h0 : (x - z).toInt < 0 := by
        have := Int32.lt_iff_toInt_lt.mp (Int32.not_le.mp h); simpa using this
      apply Int32.toInt_inj.mp
      rw [nI_toInt (by omega), Int32.toInt_sub, e1, show (0 : Int32).toInt = 0 from rfl, Int.bmod_eq_of_le (by omega) (by omega)]
      omega
  · unfold labs
    by_cases h : x.toInt64 - z.toInt64 < 0
    · rw [if_pos h]
      have h0 : (x.toInt64 - z.toInt64).toInt < 0 := by have := Int64.lt_iff_toInt_lt.mp h; simpa using this
      apply Int64.toInt_inj.mp
      rw [lN_toInt (by omega), Int64.toInt_neg, e2, Int.bmod_eq_of_le (by omega) (by omega)]
      omega
    · rw [if_neg h]
      have h0 : (0 : Int) ≤ (x.toInt64 - z.toInt64).toInt := by
        have := Int64.le_iff_toInt_le.mp (Int64.not_lt.mp h); simpa using this
      apply Int64.toInt_inj.mp
      rw [lN_toInt (by omega), e2]
      omega
/-- the class's best offer and the reference's -/
def TkR (two : Bool) (σ : stT) : TB → Prop
  | none => σ 0 7 = -1 ∧ σ 15 0 = -1 ∧ σ 15 1 = -1
  | some (D, a, b) => ∃ d : Nat, d ≤ 8000 ∧ D = lN d ∧ σ 0 7 = nI d ∧ a < 6 ∧ b < 6 ∧ σ 15 0 = nI a ∧ (two = true → σ 15 1 = nI b)
theorem TkR.of {two : Bool} {σ : stT} {o : TB} (h : TkR two σ o) {d a b : Nat} (hd : d ≤ 8000) (ha : a < 6) (hb : b < 6) (t : Int32) (ht : two = true → t = nI b) : TkR two (ofF σ (nI d) (nI a) t) (ofB (lN d) a b o) := by
  have new : (σ 0 7 = -1 ∨ nI d < σ 0 7) → TkR two (ofF σ (nI d) (nI a) t) (some (lN d, a, b)) := by
    intro q
    unfold ofF
    rw [if_pos q]
    exact ⟨d, hd, rfl, rfl, ha, hb, rfl, fun e => ht e⟩
  match o, h with
  | none, h => exact new (Or.inl h.1)
  | some (D, x, z), h =>
    obtain ⟨d2, q1, rfl, q3, q4, q5, q6, q7⟩ := h
    by_cases hl : d < d2
    · rw [show ofB (lN d) a b (some (lN d2, x, z)) = some (lN d, a, b) from if_pos ((lN_lt (by omega) (by omega)).mpr hl)]
      exact new (Or.inr (by rw [q3]; exact nI_lt hl (by omega)))
    · rw [show ofB (lN d) a b (some (lN d2, x, z)) = some (lN d2, x, z) from if_neg (fun q => hl ((lN_lt (by omega) (by omega)).mp q))]
      have hn : ¬ (σ 0 7 = -1 ∨ nI d < σ 0 7) := by
        rw [q3]
        rintro (q | q)
        · exact nI_m1 (by omega) q
        · exact hl (nI_ltq (by omega) (by omega) q)
      unfold ofF
      rw [if_neg hn]
      exact ⟨d2, q1, rfl, q3, q4, q5, q6, q7⟩
section TK
variable {σ : stT} {τ : stT} {ρ : rtT} {S : Nat}
/-- what an AND and a spare have: near places, told alike -/
def OfP (σ : stT) (ρ : rtT) (n s : Nat) : Prop := (ρ 1 n = (σ 11 n).toInt64 ∧ ρ 2 n = (σ 12 n).toInt64 ∧ near (σ 11 n) ∧ near (σ 12 n)) ∧ SpJ σ ρ s
theorem far_eq {n s : Nat} (h : OfP σ ρ n s) {j : Nat} (hj : ix (τ 8 j) = n) : ∃ d : Nat, d ≤ 4000 ∧ dst σ n s = nI d ∧ farF τ ρ j s = lN d := by
  obtain ⟨⟨h1, h2, h3, h4⟩, h5, h6, h7, h8⟩ := h
  obtain ⟨d1, a1, a2, a3⟩ := near_64 h3 h7
  obtain ⟨d2, b1, b2, b3⟩ := near_64 h4 h8
  refine ⟨d1 + d2, by omega, ?_, ?_⟩
  · unfold dst; rw [a2, b2, nI_add]
  · unfold farF; rw [hj, h1, h2, h5, h6, a3, b3, lN_add]
theorem dst_k {σ s : stT} (e11 : s 11 = σ 11) (e12 : s 12 = σ 12) (e13 : s 13 = σ 13) (e14 : s 14 = σ 14) (n t : Nat) : dst s n t = dst σ n t := by unfold dst; rw [e11, e12, e13, e14]
theorem t1_tk (hS : S ≤ 6) {n : Nat} (h : ∀ s, s < S → OfP σ ρ n s) (hn : ix (τ 8 0) = n) (h0 : TkR false σ none) : ∀ i, i ≤ S → TkR false (t1F σ n i) (bO1 (fun a => farF τ ρ 0 a + 0) i)
  | 0, _ => h0
  | i + 1, hi => by
    have ih := t1_tk hS h hn h0 i (by omega)
    obtain ⟨d, d1, d2, d3⟩ := far_eq (τ := τ) (h i (by omega)) hn
    show TkR false (ofF (t1F σ n i) (dst (t1F σ n i) n i) (nI i) (-1)) (ofB (farF τ ρ 0 i + 0) i 0 (bO1 _ i))
    rw [dst_k (t1F_k σ n 11 (by decide) (by decide) i) (t1F_k σ n 12 (by decide) (by decide) i) (t1F_k σ n 13 (by decide) (by decide) i) (t1F_k σ n 14 (by decide) (by decide) i), d2, d3, show lN d + 0 = lN d from Int64.add_zero _]
    exact ih.of (by omega) (by omega) (by omega) (-1) (fun q => by cases q)
theorem t2I_tk (hS : S ≤ 6) {n m a : Nat} (ha : a < S) (h : ∀ s, s < S → OfP σ ρ n s) (h2 : ∀ s, s < S → OfP σ ρ m s) (hn : ix (τ 8 0) = n) (hm : ix (τ 8 1) = m) {s0 : stT} {o : TB} (e11 : s0 11 = σ 11) (e12 : s0 12 = σ 12) (e13 : s0 13 = σ 13) (e14 : s0 14 = σ 14) (h0 : TkR true s0 o) : ∀ i, i ≤ S → TkR true (t2I s0 n m a i) (bI2 (fun a b => farF τ ρ 0 a + farF τ ρ 1 b) a o i)
  | 0, _ => h0
  | i + 1, hi => by
    have ih := t2I_tk hS ha h h2 hn hm e11 e12 e13 e14 h0 i (by omega)
    by_cases e : a = i
    · rw [t2I_t e, bI2_t e]; exact ih
    · rw [t2I_f e, bI2_f e]
      obtain ⟨d, d1, d2, d3⟩ := far_eq (τ := τ) (h a ha) hn
      obtain ⟨f, f1, f2, f3⟩ := far_eq (τ := τ) (h2 i (by omega)) hm
      have k11 := (t2I_k s0 n m a 11 (by decide) (by decide) i).trans e11
      have k12 := (t2I_k s0 n m a 12 (by decide) (by decide) i).trans e12
      have k13 := (t2I_k s0 n m a 13 (by decide) (by decide) i).trans e13
      have k14 := (t2I_k s0 n m a 14 (by decide) (by decide) i).trans e14
      rw [dst_k k11 k12 k13 k14, dst_k k11 k12 k13 k14, d2, f2, d3, f3, nI_add, lN_add]
      exact ih.of (by omega) (by omega) (by omega) (nI i) (fun _ => rfl)
theorem t2_tk (hS : S ≤ 6) {n m : Nat} (h : ∀ s, s < S → OfP σ ρ n s) (h2 : ∀ s, s < S → OfP σ ρ m s) (hn : ix (τ 8 0) = n) (hm : ix (τ 8 1) = m) (h0 : TkR true σ none) : ∀ i, i ≤ S → TkR true (t2F σ n m S i) (bO2 (fun a b => farF τ ρ 0 a + farF τ ρ 1 b) S i)
  | 0, _ => h0
  | i + 1, hi => by
    have ih := t2_tk hS h h2 hn hm h0 i (by omega)
    exact t2I_tk hS (show i < S by omega) h h2 hn hm (t2F_k σ n m S 11 (by decide) (by decide) i) (t2F_k σ n m S 12 (by decide) (by decide) i) (t2F_k σ n m S 13 (by decide) (by decide) i) (t2F_k σ n m S 14 (by decide) (by decide) i) ih S (Nat.le_refl S)
theorem bO1_some (D : Nat → Int64) {S : Nat} (h : 1 ≤ S) : (bO1 D S).isSome = true := by
  obtain ⟨k, rfl⟩ : ∃ k, S = k + 1 := ⟨S - 1, by omega⟩
  exact ofB_some _ _ _ _
theorem bI2_some (D : Nat → Nat → Int64) (a : Nat) (o : TB) : ∀ i, (o.isSome = true ∨ ∃ b, b < i ∧ a ≠ b) → (bI2 D a o i).isSome = true
  | 0, h => h.elim id (fun ⟨b, hb, _⟩ => absurd hb (by omega))
  | i + 1, h => by
    by_cases e : a = i
    · rw [bI2_t e]
      exact bI2_some D a o i (h.imp_right (fun ⟨b, hb, hn⟩ => ⟨b, by omega, hn⟩))
    · rw [bI2_f e]; exact ofB_some _ _ _ _
theorem bO2_some (D : Nat → Nat → Int64) {S : Nat} (hS : 2 ≤ S) : ∀ i, 1 ≤ i → (bO2 D S i).isSome = true
  | 0, h => absurd h (by omega)
  | i + 1, _ => by
    show (bI2 D i (bO2 D S i) S).isSome = true
    refine bI2_some D i _ S (Or.inr ?_)
    by_cases e : i = 0
    · exact ⟨1, by omega, by omega⟩
    · exact ⟨0, by omega, by omega⟩
/-- with too few spares nothing is offered -/
theorem t2_none (σ : stT) (n m : Nat) {S : Nat} (h : S < 2) : t2F σ n m S S = σ := by
  rcases (show S = 0 ∨ S = 1 by omega) with rfl | rfl
  · rfl
  · show t2I σ n m 0 1 = σ
    rw [t2I_t rfl]; rfl
theorem lN_32 {d : Nat} (h : d ≤ 8000) : (lN d).toInt32 = nI d := by
  apply Int32.toInt_inj.mp
  rw [Int64.toInt_toInt32, lN_toInt (by omega), nI_toInt (by omega), Int.bmod_eq_of_le (by omega) (by omega)]
end TK
