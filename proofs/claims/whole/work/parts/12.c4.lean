theorem flF_k (σ : Nat → Nat → Int32) (n j : Nat) (x : Option (Nat × Nat)) (k : Nat) (h7 : k ≠ 17) (h8 : k ≠ 18) (h9 : k ≠ 19) : flF σ n j x k = σ k := by
  cases x with
  | none => rfl
  | some ab => exact ptF_k σ n j ab.1 ab.2 k h7 h8 h9
abbrev stT : Type := Nat → Nat → Int32
/-- findOne: own places from 1 + I + i on, c of them: whether an edit was found, and the store -/
noncomputable def f1R (I O G : Nat) : Nat → Nat → stT → Bool × stT
  | _, 0, s => (false, s)
  | i, c + 1, s => @ite _ (s 5 (ix (s 6 (1 + I + i))) = 0) (Classical.propDecidable _)
      (let n := 1 + I + i
       let s1 := spF s (1 + I) n 0 n 0 O
       let s2 := spF s1 (1 + I) n (-1) n (-1) O
       let r := flR s2 (agF s I O G n 0 n 0) (agF s1 I O G n (-1) n (-1)) n
       if r.isSome = true then (true, flF s2 n 0 r) else f1R I O G (i + 1) c s2)
      (f1R I O G (i + 1) c s)
theorem f1R_k {I O G i c : Nat} {s : stT} (h : ¬ s 5 (ix (s 6 (1 + I + i))) = 0) : f1R I O G i (c + 1) s = f1R I O G (i + 1) c s := if_neg h
theorem f1R_f {I O G i c : Nat} {s : stT} (h : s 5 (ix (s 6 (1 + I + i))) = 0) (hr : ¬ (flR (spF (spF s (1 + I) (1 + I + i) 0 (1 + I + i) 0 O) (1 + I) (1 + I + i) (-1) (1 + I + i) (-1) O) (agF s I O G (1 + I + i) 0 (1 + I + i) 0) (agF (spF s (1 + I) (1 + I + i) 0 (1 + I + i) 0 O) I O G (1 + I + i) (-1) (1 + I + i) (-1)) (1 + I + i)).isSome = true) : f1R I O G i (c + 1) s = f1R I O G (i + 1) c (spF (spF s (1 + I) (1 + I + i) 0 (1 + I + i) 0 O) (1 + I) (1 + I + i) (-1) (1 + I + i) (-1) O) := (if_pos h).trans (if_neg hr)
theorem f1R_t {I O G i c : Nat} {s : stT} (h : s 5 (ix (s 6 (1 + I + i))) = 0) (hr : (flR (spF (spF s (1 + I) (1 + I + i) 0 (1 + I + i) 0 O) (1 + I) (1 + I + i) (-1) (1 + I + i) (-1) O) (agF s I O G (1 + I + i) 0 (1 + I + i) 0) (agF (spF s (1 + I) (1 + I + i) 0 (1 + I + i) 0 O) I O G (1 + I + i) (-1) (1 + I + i) (-1)) (1 + I + i)).isSome = true) : f1R I O G i (c + 1) s = (true, flF (spF (spF s (1 + I) (1 + I + i) 0 (1 + I + i) 0 O) (1 + I) (1 + I + i) (-1) (1 + I + i) (-1) O) (1 + I + i) 0 (flR (spF (spF s (1 + I) (1 + I + i) 0 (1 + I + i) 0 O) (1 + I) (1 + I + i) (-1) (1 + I + i) (-1) O) (agF s I O G (1 + I + i) 0 (1 + I + i) 0) (agF (spF s (1 + I) (1 + I + i) 0 (1 + I + i) 0 O) I O G (1 + I + i) (-1) (1 + I + i) (-1)) (1 + I + i))) := (if_pos h).trans (if_pos hr)
/-- findPair's inner loop, its outer loop -/
def mix (set p q : Int32) : Int32 := (set &&& p) ||| ((set ^^^ (-1)) &&& q)
noncomputable def fpI (I O n m : Nat) (o00 o01 o10 o11 : Int32) (a : Nat) : Nat → Nat → stT → Bool × stT
  | _, 0, s => (false, s)
  | b, c + 1, s => @ite _ (mix (s 10 a &&& s 10 b) o10 o00 ||| mix (s 10 a &&& s 10 b) o11 o01 = -1) (Classical.propDecidable _)
      (let s1 := spF s (1 + I) n (s 10 a &&& s 10 b) n (s 10 a &&& s 10 b) O
       let r := flR s1 (mix (s 10 a &&& s 10 b) o10 o00) (mix (s 10 a &&& s 10 b) o11 o01) m
       if r.isSome = true then (true, ptF (flF s1 m 1 r) n 0 a b) else fpI I O n m o00 o01 o10 o11 a (b + 1) c (flF s1 m 1 r))
      (fpI I O n m o00 o01 o10 o11 a (b + 1) c s)
theorem fpI_k {I O n m : Nat} {o00 o01 o10 o11 : Int32} {a b c : Nat} {s : stT} (h : ¬ mix (s 10 a &&& s 10 b) o10 o00 ||| mix (s 10 a &&& s 10 b) o11 o01 = -1) : fpI I O n m o00 o01 o10 o11 a b (c + 1) s = fpI I O n m o00 o01 o10 o11 a (b + 1) c s := if_neg h
theorem fpI_f {I O n m : Nat} {o00 o01 o10 o11 : Int32} {a b c : Nat} {s : stT} (h : mix (s 10 a &&& s 10 b) o10 o00 ||| mix (s 10 a &&& s 10 b) o11 o01 = -1) (hr : ¬ (flR (spF s (1 + I) n (s 10 a &&& s 10 b) n (s 10 a &&& s 10 b) O) (mix (s 10 a &&& s 10 b) o10 o00) (mix (s 10 a &&& s 10 b) o11 o01) m).isSome = true) : fpI I O n m o00 o01 o10 o11 a b (c + 1) s = fpI I O n m o00 o01 o10 o11 a (b + 1) c (flF (spF s (1 + I) n (s 10 a &&& s 10 b) n (s 10 a &&& s 10 b) O) m 1 (flR (spF s (1 + I) n (s 10 a &&& s 10 b) n (s 10 a &&& s 10 b) O) (mix (s 10 a &&& s 10 b) o10 o00) (mix (s 10 a &&& s 10 b) o11 o01) m)) := (if_pos h).trans (if_neg hr)
theorem fpI_t {I O n m : Nat} {o00 o01 o10 o11 : Int32} {a b c : Nat} {s : stT} (h : mix (s 10 a &&& s 10 b) o10 o00 ||| mix (s 10 a &&& s 10 b) o11 o01 = -1) (hr : (flR (spF s (1 + I) n (s 10 a &&& s 10 b) n (s 10 a &&& s 10 b) O) (mix (s 10 a &&& s 10 b) o10 o00) (mix (s 10 a &&& s 10 b) o11 o01) m).isSome = true) : fpI I O n m o00 o01 o10 o11 a b (c + 1) s = (true, ptF (flF (spF s (1 + I) n (s 10 a &&& s 10 b) n (s 10 a &&& s 10 b) O) m 1 (flR (spF s (1 + I) n (s 10 a &&& s 10 b) n (s 10 a &&& s 10 b) O) (mix (s 10 a &&& s 10 b) o10 o00) (mix (s 10 a &&& s 10 b) o11 o01) m)) n 0 a b) := (if_pos h).trans (if_pos hr)
noncomputable def fpO (I O n m : Nat) (o00 o01 o10 o11 : Int32) : Nat → Nat → stT → Bool × stT
  | _, 0, s => (false, s)
  | a, c + 1, s => @ite _ ((fpI I O n m o00 o01 o10 o11 a a (2 * n - a) s).1 = true) (Classical.propDecidable _) (fpI I O n m o00 o01 o10 o11 a a (2 * n - a) s) (fpO I O n m o00 o01 o10 o11 (a + 1) c (fpI I O n m o00 o01 o10 o11 a a (2 * n - a) s).2)
theorem fpO_t {I O n m : Nat} {o00 o01 o10 o11 : Int32} {a c : Nat} {s : stT} (h : (fpI I O n m o00 o01 o10 o11 a a (2 * n - a) s).1 = true) : fpO I O n m o00 o01 o10 o11 a (c + 1) s = fpI I O n m o00 o01 o10 o11 a a (2 * n - a) s := if_pos h
theorem fpO_f {I O n m : Nat} {o00 o01 o10 o11 : Int32} {a c : Nat} {s : stT} (h : ¬ (fpI I O n m o00 o01 o10 o11 a a (2 * n - a) s).1 = true) : fpO I O n m o00 o01 o10 o11 a (c + 1) s = fpO I O n m o00 o01 o10 o11 (a + 1) c (fpI I O n m o00 o01 o10 o11 a a (2 * n - a) s).2 := if_neg h
noncomputable def fpR (I O G n m : Nat) (s : stT) : Bool × stT :=
  let s1 := spF s (1 + I) n 0 m 0 O
  let s2 := spF s1 (1 + I) n 0 m (-1) O
  let s3 := spF s2 (1 + I) n (-1) m 0 O
  let s4 := spF s3 (1 + I) n (-1) m (-1) O
  let o00 := agF s I O G n 0 m 0
  let o01 := agF s1 I O G n 0 m (-1)
  let o10 := agF s2 I O G n (-1) m 0
  let o11 := agF s3 I O G n (-1) m (-1)
  @ite _ (((o00 ||| o01) ||| o10) ||| o11 = -1) (Classical.propDecidable _) (fpO I O n m o00 o01 o10 o11 0 (2 * n) s4) (false, s4)
/-- findTwo's loops -/
noncomputable def f2I (I O G i : Nat) : Nat → Nat → stT → Bool × stT
  | _, 0, s => (false, s)
  | j, c + 1, s => @ite _ (s 5 (ix (s 6 (1 + I + i))) = 0 ∧ s 5 (ix (s 6 (1 + I + j))) = 0) (Classical.propDecidable _)
      (@ite _ ((fpR I O G (1 + I + i) (1 + I + j) s).1 = true) (Classical.propDecidable _) (fpR I O G (1 + I + i) (1 + I + j) s) (f2I I O G i (j + 1) c (fpR I O G (1 + I + i) (1 + I + j) s).2))
      (f2I I O G i (j + 1) c s)
theorem f2I_k {I O G i j c : Nat} {s : stT} (h : ¬ (s 5 (ix (s 6 (1 + I + i))) = 0 ∧ s 5 (ix (s 6 (1 + I + j))) = 0)) : f2I I O G i j (c + 1) s = f2I I O G i (j + 1) c s := if_neg h
theorem f2I_t {I O G i j c : Nat} {s : stT} (h : s 5 (ix (s 6 (1 + I + i))) = 0 ∧ s 5 (ix (s 6 (1 + I + j))) = 0) (hr : (fpR I O G (1 + I + i) (1 + I + j) s).1 = true) : f2I I O G i j (c + 1) s = fpR I O G (1 + I + i) (1 + I + j) s := (if_pos h).trans (if_pos hr)
theorem f2I_f {I O G i j c : Nat} {s : stT} (h : s 5 (ix (s 6 (1 + I + i))) = 0 ∧ s 5 (ix (s 6 (1 + I + j))) = 0) (hr : ¬ (fpR I O G (1 + I + i) (1 + I + j) s).1 = true) : f2I I O G i j (c + 1) s = f2I I O G i (j + 1) c (fpR I O G (1 + I + i) (1 + I + j) s).2 := (if_pos h).trans (if_neg hr)
noncomputable def f2O (I O G : Nat) : Nat → Nat → stT → Bool × stT
  | _, 0, s => (false, s)
  | i, c + 1, s => @ite _ ((f2I I O G i (i + 1) (O - (i + 1)) s).1 = true) (Classical.propDecidable _) (f2I I O G i (i + 1) (O - (i + 1)) s) (f2O I O G (i + 1) c (f2I I O G i (i + 1) (O - (i + 1)) s).2)
theorem f2O_t {I O G i c : Nat} {s : stT} (h : (f2I I O G i (i + 1) (O - (i + 1)) s).1 = true) : f2O I O G i (c + 1) s = f2I I O G i (i + 1) (O - (i + 1)) s := if_pos h
theorem f2O_f {I O G i c : Nat} {s : stT} (h : ¬ (f2I I O G i (i + 1) (O - (i + 1)) s).1 = true) : f2O I O G i (c + 1) s = f2O I O G (i + 1) c (f2I I O G i (i + 1) (O - (i + 1)) s).2 := if_neg h
/-- a store that the search may leave: all as it was but trial, shown, the search's edits -/
def Lk (σ s : stT) : Prop := ∀ k, k ≠ 9 → k ≠ 10 → k ≠ 17 → k ≠ 18 → k ≠ 19 → s k = σ k
theorem Lk.rf (σ : stT) : Lk σ σ := fun _ _ _ _ _ _ => rfl
theorem Lk.tr {a b c : stT} (h : Lk a b) (h2 : Lk b c) : Lk a c := fun k h9 h10 h17 h18 h19 => (h2 k h9 h10 h17 h18 h19).trans (h k h9 h10 h17 h18 h19)
theorem Lk.sp {σ s : stT} (h : Lk σ s) (b n : Nat) (c : Int32) (m : Nat) (d : Int32) (i : Nat) : Lk σ (spF s b n c m d i) := fun k h9 h10 h17 h18 h19 => (spF_k s b n c m d k h9 h10 i).trans (h k h9 h10 h17 h18 h19)
theorem Lk.fl {σ s : stT} (h : Lk σ s) (n j : Nat) (x : Option (Nat × Nat)) : Lk σ (flF s n j x) := fun k h9 h10 h17 h18 h19 => (flF_k s n j x k h17 h18 h19).trans (h k h9 h10 h17 h18 h19)
theorem Lk.pt {σ s : stT} (h : Lk σ s) (n j a b : Nat) : Lk σ (ptF s n j a b) := fun k h9 h10 h17 h18 h19 => (ptF_k s n j a b k h17 h18 h19).trans (h k h9 h10 h17 h18 h19)
theorem Lk.ws {σ s : stT} (h : Lk σ s) {N I O G : Nat} (hs : Ws σ N I O G) : Ws s N I O G := hs.congr (fun k hk => h k (by omega) (by omega) (by omega) (by omega) (by omega))
theorem Lk_f1 {σ : stT} (I O G : Nat) : ∀ (c i : Nat) (s : stT), Lk σ s → Lk σ (f1R I O G i c s).2
  | 0, _, s, h => h
  | c + 1, i, s, h => by
    by_cases hk : s 5 (ix (s 6 (1 + I + i))) = 0
    · by_cases hr : (flR (spF (spF s (1 + I) (1 + I + i) 0 (1 + I + i) 0 O) (1 + I) (1 + I + i) (-1) (1 + I + i) (-1) O) (agF s I O G (1 + I + i) 0 (1 + I + i) 0) (agF (spF s (1 + I) (1 + I + i) 0 (1 + I + i) 0 O) I O G (1 + I + i) (-1) (1 + I + i) (-1)) (1 + I + i)).isSome = true
      · rw [f1R_t hk hr]; exact ((h.sp _ _ _ _ _ _).sp _ _ _ _ _ _).fl _ _ _
      · rw [f1R_f hk hr]; exact Lk_f1 I O G c (i + 1) _ ((h.sp _ _ _ _ _ _).sp _ _ _ _ _ _)
    · rw [f1R_k hk]; exact Lk_f1 I O G c (i + 1) s h
theorem Lk_fpI {σ : stT} (I O n m : Nat) (o00 o01 o10 o11 : Int32) (a : Nat) : ∀ (c b : Nat) (s : stT), Lk σ s → Lk σ (fpI I O n m o00 o01 o10 o11 a b c s).2
  | 0, _, s, h => h
  | c + 1, b, s, h => by
    by_cases hk : mix (s 10 a &&& s 10 b) o10 o00 ||| mix (s 10 a &&& s 10 b) o11 o01 = -1
    · by_cases hr : (flR (spF s (1 + I) n (s 10 a &&& s 10 b) n (s 10 a &&& s 10 b) O) (mix (s 10 a &&& s 10 b) o10 o00) (mix (s 10 a &&& s 10 b) o11 o01) m).isSome = true
      · rw [fpI_t hk hr]; exact ((h.sp _ _ _ _ _ _).fl _ _ _).pt _ _ _ _
      · rw [fpI_f hk hr]; exact Lk_fpI I O n m o00 o01 o10 o11 a c (b + 1) _ ((h.sp _ _ _ _ _ _).fl _ _ _)
    · rw [fpI_k hk]; exact Lk_fpI I O n m o00 o01 o10 o11 a c (b + 1) s h
theorem Lk_fpO {σ : stT} (I O n m : Nat) (o00 o01 o10 o11 : Int32) : ∀ (c a : Nat) (s : stT), Lk σ s → Lk σ (fpO I O n m o00 o01 o10 o11 a c s).2
  | 0, _, s, h => h
  | c + 1, a, s, h => by
    by_cases hk : (fpI I O n m o00 o01 o10 o11 a a (2 * n - a) s).1 = true
    · rw [fpO_t hk]; exact Lk_fpI I O n m o00 o01 o10 o11 a _ _ s h
    · rw [fpO_f hk]; exact Lk_fpO I O n m o00 o01 o10 o11 c (a + 1) _ (Lk_fpI I O n m o00 o01 o10 o11 a _ _ s h)
theorem Lk_fpR {σ : stT} (I O G n m : Nat) (s : stT) (h : Lk σ s) : Lk σ (fpR I O G n m s).2 := by
  have h4 := (((h.sp (1 + I) n 0 m 0 O).sp (1 + I) n 0 m (-1) O).sp (1 + I) n (-1) m 0 O).sp (1 + I) n (-1) m (-1) O
  unfold fpR
  dsimp only
  split
  · exact Lk_fpO I O n m _ _ _ _ _ _ _ h4
  · exact h4
theorem Lk_f2I {σ : stT} (I O G i : Nat) : ∀ (c j : Nat) (s : stT), Lk σ s → Lk σ (f2I I O G i j c s).2
  | 0, _, s, h => h
  | c + 1, j, s, h => by
    by_cases hk : s 5 (ix (s 6 (1 + I + i))) = 0 ∧ s 5 (ix (s 6 (1 + I + j))) = 0
    · by_cases hr : (fpR I O G (1 + I + i) (1 + I + j) s).1 = true
      · rw [f2I_t hk hr]; exact Lk_fpR I O G _ _ s h
      · rw [f2I_f hk hr]; exact Lk_f2I I O G i c (j + 1) _ (Lk_fpR I O G _ _ s h)
    · rw [f2I_k hk]; exact Lk_f2I I O G i c (j + 1) s h
theorem Lk_f2O {σ : stT} (I O G : Nat) : ∀ (c i : Nat) (s : stT), Lk σ s → Lk σ (f2O I O G i c s).2
  | 0, _, s, h => h
  | c + 1, i, s, h => by
    by_cases hk : (f2I I O G i (i + 1) (O - (i + 1)) s).1 = true
    · rw [f2O_t hk]; exact Lk_f2I I O G i _ _ s h
    · rw [f2O_f hk]; exact Lk_f2O I O G c (i + 1) _ (Lk_f2I I O G i _ _ s h)
theorem Lk_si {σ : stT} (N i : Nat) : Lk σ (siF σ N i) := fun k h9 h10 _ _ _ => siF_k σ N k h9 h10 i
noncomputable def feR (σ : stT) (N I O G most : Nat) : Int32 × stT :=
  let s := siF σ N (1 + I + O)
  @ite _ (dor s 9 G ^^^ (-1) = -1) (Classical.propDecidable _) (0, s)
    (@ite _ (1 ≤ most) (Classical.propDecidable _)
      (@ite _ ((f1R I O G 0 O s).1 = true) (Classical.propDecidable _) (1, (f1R I O G 0 O s).2)
        (@ite _ (2 ≤ most) (Classical.propDecidable _) (@ite _ ((f2O I O G 0 O (f1R I O G 0 O s).2).1 = true) (Classical.propDecidable _) (2, (f2O I O G 0 O (f1R I O G 0 O s).2).2) (-1, (f2O I O G 0 O (f1R I O G 0 O s).2).2)) (-1, (f1R I O G 0 O s).2)))
      (-1, s))
theorem flR_none {σ : stT} {ok0 ok1 : Int32} {n : Nat} (h : ¬ (flR σ ok0 ok1 n).isSome = true) : flR σ ok0 ok1 n = none := by
  cases h2 : flR σ ok0 ok1 n with
  | none => rfl
  | some x => rw [h2] at h; exact absurd rfl h
set_option maxHeartbeats 4000000 in
set_option maxRecDepth 100000 in
theorem c_X5_findOne (l : Launch) (g : va_G) (y : Nat → ClassId) (ad : Nat → Nat) (σ : Nat → Nat → Int32) {N I O G : Nat} (hs : Ws σ N I O G) : w_C l g y yX5_findOne cX5_findOne 4 (some .boolean) 4 [.ref (ad 4)] (cw ad y σ) (some (.int (bI ((f1R I O G 0 O σ).1 = true)))) (cw ad y (f1R I O G 0 O σ).2) := by
  refine w_ofI (lv0 := [(0, .ref (ad 4))]) (by decide +kernel) (Nat.le_of_ble_eq_true rfl) rfl (bI_nar _) ?_
  intro Z hZ hret
  obtain ⟨-, hI0, -⟩ := id hs
  refine r_aload_n 1 hZ 0 dX5_findOne_0 rfl rfl rfl ?_
  refine g_X5_9 4 hZ dX5_findOne_1 rfl ?_
  refine r_callVI (c_X3_firstOld l g y ad _ hI0) wM_X3_firstOld wL_X5_75 hZ rfl ⟨by decide, by decide⟩ 1 3 rfl rfl rfl rfl dX5_findOne_4 ?_
  refine r_istnN 8 [(0, _), (1, _)] hZ dX5_findOne_7 rfl rfl (by decide) rfl rfl ?_
  have lp_8 : ∀ (n : Nat) (i : Nat) (s : stT), i ≤ O → O + 1 ≤ i + n → Lk σ s → f1R I O G 0 O σ = f1R I O G i (O - i) s → Z 0 0 (cw ad y s) 8 [(0, .ref (ad 4)), (1, .int (nI (1 + I + i)))] [] := by
    intro n
    induction n with
    | zero => intro i s h1 hn_8 hL hg; exact absurd hn_8 (by omega)
    | succ n ih_8 =>
      intro i s h1 hn_8 hL hg
      obtain ⟨hN, hI, hO, hG, h38, h14, h4, hw, hl, hgm, hgd⟩ := hL.ws hs
      refine r_iload_n 9 hZ 1 dX5_findOne_8 rfl rfl rfl ?_
      refine r_aload_n 10 hZ 0 dX5_findOne_9 rfl rfl rfl ?_
      refine g_X5_9 13 hZ dX5_findOne_10 rfl ?_
      refine r_callVI (c_X3_owned l g y ad _ hI hO) wM_X3_owned wL_X5_64 hZ rfl ⟨by decide, by decide⟩ 1 3 rfl rfl rfl rfl dX5_findOne_13 ?_
      refine r_icmp_ge 81 19 hZ dX5_findOne_16 (by decide) rfl (fun c_16 => ?_) (fun c_16 => ?_)
      · skip
        have hi := nI_leq (by omega) (by omega) c_16
        have hi : i = O := by omega
        subst hi
        rw [hg, show i - i = 0 by omega] at hret
        refine r_iconst (v := 0) 82 hZ dX5_findOne_81 rfl (by decide) ?_
        exact hret _ _ _ _ dX5_findOne_82 (bI_f (by show ¬ (false : Bool) = true; decide)).symm rfl
      · skip
        have hi := nI_nleq (by omega) (by omega) c_16
        have hb : O - i = (O - (i + 1)) + 1 := by omega
        have hci := nI_clamp (n := 1 + I + i) (by omega)
        have k1 := hw (1 + I + i) (by omega)
        refine r_aload_n 20 hZ 0 dX5_findOne_19 rfl rfl rfl ?_
        refine g_X5_9 23 hZ dX5_findOne_20 rfl ?_
        refine g_X5_78 26 hZ dX5_findOne_23 rfl ?_
        refine r_aload_n 27 hZ 0 dX5_findOne_26 rfl rfl rfl ?_
        refine g_X5_9 30 hZ dX5_findOne_27 rfl ?_
        refine g_X5_68 33 hZ dX5_findOne_30 rfl ?_
        refine r_iload_n 34 hZ 1 dX5_findOne_33 rfl rfl rfl ?_
        refine a_c6 35 hZ (by first | assumption | exact vp_in_nI (by omega) (by decide) | (unfold vp_in; decide)) dX5_findOne_34 rfl ?_
        rw [hci]
        refine a_c5 36 hZ (okL_in k1 (by decide)) dX5_findOne_35 rfl ?_
        refine r_if_ne 75 39 hZ dX5_findOne_36 (by decide) rfl (fun c_36 => ?_) (fun c_36 => ?_)
        · skip
          refine r_iinc 78 1 1 [(0, _), (1, _)] hZ dX5_findOne_75 rfl rfl (by decide) (by decide) rfl rfl ?_
          refine r_goto 8 hZ dX5_findOne_78 (by decide) ?_
          rw [nI_1]
          first | exact ih_8 (i + 1) _ (by omega) (by omega) hL (by rw [hg, hb, f1R_k c_36]) | exact w_take 2 hZ (ih_8 (i + 1) _ (by omega) (by omega) ((hL.sp _ _ _ _ _ _).sp _ _ _ _ _ _) (by rw [hg, hb, f1R_f c_36 (bI_0.mp c_70)]; rfl))
        · skip
          refine r_aload_n 40 hZ 0 dX5_findOne_39 rfl rfl rfl ?_
          refine r_iload_n 41 hZ 1 dX5_findOne_40 rfl rfl rfl ?_
          refine r_iconst (v := 0) 42 hZ dX5_findOne_41 rfl (by decide) ?_
          refine r_iload_n 43 hZ 1 dX5_findOne_42 rfl rfl rfl ?_
          refine r_iconst (v := 0) 44 hZ dX5_findOne_43 rfl (by decide) ?_
          refine r_callVI (c_X5_agreementWith l g y ad _ (hL.ws hs) (n := 1 + I + i) (m := 1 + I + i) (by omega) (by omega) 0 0) wM_X5_agreementWith wL_X5_82 hZ rfl ⟨by decide, by decide⟩ 4 5 rfl rfl rfl rfl dX5_findOne_44 ?_
          refine r_istnN 48 [(0, _), (1, _), (2, _)] hZ dX5_findOne_47 rfl rfl (by decide) rfl rfl ?_
          refine r_aload_n 49 hZ 0 dX5_findOne_48 rfl rfl rfl ?_
          refine r_iload_n 50 hZ 1 dX5_findOne_49 rfl rfl rfl ?_
          refine r_iconst (v := (-1)) 51 hZ dX5_findOne_50 rfl (by decide) ?_
          refine r_iload_n 52 hZ 1 dX5_findOne_51 rfl rfl rfl ?_
          refine r_iconst (v := (-1)) 53 hZ dX5_findOne_52 rfl (by decide) ?_
          refine r_callVI (c_X5_agreementWith l g y ad _ ((hL.ws hs).sp _ _ _ _ _ _) (n := 1 + I + i) (m := 1 + I + i) (by omega) (by omega) (-1) (-1)) wM_X5_agreementWith wL_X5_82 hZ rfl ⟨by decide, by decide⟩ 4 5 rfl rfl rfl rfl dX5_findOne_53 ?_
          refine r_istnN 57 [(0, _), (1, _), (2, _), (3, _)] hZ dX5_findOne_56 rfl rfl (by decide) rfl rfl ?_
          refine r_aload_n 58 hZ 0 dX5_findOne_57 rfl rfl rfl ?_
          refine r_iload_n 59 hZ 1 dX5_findOne_58 rfl rfl rfl ?_
          refine r_iload_n 60 hZ 2 dX5_findOne_59 rfl rfl rfl ?_
          refine r_iload_n 61 hZ 3 dX5_findOne_60 rfl rfl rfl ?_
          refine r_aload_n 62 hZ 0 dX5_findOne_61 rfl rfl rfl ?_
          refine g_X5_21 65 hZ dX5_findOne_62 rfl ?_
          refine r_iconst (v := 0) 66 hZ dX5_findOne_65 rfl (by decide) ?_
          refine a_cS 67 hZ (by first | assumption | exact vp_in_nI (by omega) (by decide) | (unfold vp_in; decide)) dX5_findOne_66 rfl ?_
          refine r_callVI (c_X5_findLiterals l g y ad _ (n := 1 + I + i) (j := 0) (by omega) (by decide) (fun i2 hi2 => by rw [spF_k _ _ _ _ _ _ 6 (by decide) (by decide), spF_k _ _ _ _ _ _ 6 (by decide) (by decide)]; exact hw i2 (by omega)) _ _) wM_X5_findLiterals wL_X5_86 hZ rfl ⟨by decide, by decide⟩ 4 5 rfl rfl rfl rfl dX5_findOne_67 ?_
          refine r_if_eq 75 73 hZ dX5_findOne_70 (by decide) rfl (fun c_70 => ?_) (fun c_70 => ?_)
          · skip
            have hnone := flR_none (bI_0.mp c_70)
            rw [hnone]
            refine r_iinc 78 1 1 [(0, _), (1, _), (2, _), (3, _)] hZ dX5_findOne_75 rfl rfl (by decide) (by decide) rfl rfl ?_
            refine r_goto 8 hZ dX5_findOne_78 (by decide) ?_
            rw [nI_1]
            first | exact ih_8 (i + 1) _ (by omega) (by omega) hL (by rw [hg, hb, f1R_k c_36]) | exact w_take 2 hZ (ih_8 (i + 1) _ (by omega) (by omega) ((hL.sp _ _ _ _ _ _).sp _ _ _ _ _ _) (by rw [hg, hb, f1R_f c_36 (bI_0.mp c_70)]; rfl))
          · skip
            rw [hg, hb, f1R_t c_36 (bI_n0.mp c_70)] at hret
            refine r_iconst (v := 1) 74 hZ dX5_findOne_73 rfl (by decide) ?_
            exact hret _ _ _ _ dX5_findOne_74 (bI_t rfl).symm rfl
  exact lp_8 (O + 1) 0 σ (by omega) (by omega) (Lk.rf σ) rfl
set_option maxHeartbeats 4000000 in
set_option maxRecDepth 100000 in
theorem c_X5_findPair (l : Launch) (g : va_G) (y : Nat → ClassId) (ad : Nat → Nat) (σ : Nat → Nat → Int32) {N I O G : Nat} (hs : Ws σ N I O G) {n m : Nat} (hn : 1 + I ≤ n) (hnm : n < m) (hm : m < 1 + I + O) : w_C l g y yX5_findPair cX5_findPair 12 (some .boolean) 4 [.ref (ad 4), .int (nI n), .int (nI m)] (cw ad y σ) (some (.int (bI ((fpR I O G n m σ).1 = true)))) (cw ad y (fpR I O G n m σ).2) := by
  refine w_ofI (lv0 := [(0, .ref (ad 4)), (1, .int (nI n)), (2, .int (nI m))]) (by decide +kernel) (Nat.le_of_ble_eq_true rfl) rfl (bI_nar _) ?_
  intro Z hZ hret
  obtain ⟨hN, hI, hO, hG, h38, h14, h4, hw, hl, hgm, hgd⟩ := id hs
  have hcn := nI_clamp (n := n) (by omega)
  obtain ⟨s1, es1⟩ : ∃ s1, spF σ (1 + I) n 0 m 0 O = s1 := ⟨_, rfl⟩
  obtain ⟨s2, es2⟩ : ∃ s2, spF s1 (1 + I) n 0 m (-1) O = s2 := ⟨_, rfl⟩
  obtain ⟨s3, es3⟩ : ∃ s3, spF s2 (1 + I) n (-1) m 0 O = s3 := ⟨_, rfl⟩
  obtain ⟨s4, es4⟩ : ∃ s4, spF s3 (1 + I) n (-1) m (-1) O = s4 := ⟨_, rfl⟩
  have hs1 : Lk σ s1 := es1 ▸ (Lk.rf σ).sp _ _ _ _ _ _
  have hs2 : Lk σ s2 := es2 ▸ hs1.sp _ _ _ _ _ _
  have hs3 : Lk σ s3 := es3 ▸ hs2.sp _ _ _ _ _ _
  have hs4 : Lk σ s4 := es4 ▸ hs3.sp _ _ _ _ _ _
  obtain ⟨o00, e00⟩ : ∃ o, agF σ I O G n 0 m 0 = o := ⟨_, rfl⟩
  obtain ⟨o01, e01⟩ : ∃ o, agF s1 I O G n 0 m (-1) = o := ⟨_, rfl⟩
  obtain ⟨o10, e10⟩ : ∃ o, agF s2 I O G n (-1) m 0 = o := ⟨_, rfl⟩
  obtain ⟨o11, e11⟩ : ∃ o, agF s3 I O G n (-1) m (-1) = o := ⟨_, rfl⟩
  have hR : fpR I O G n m σ = @ite _ (((o00 ||| o01) ||| o10) ||| o11 = -1) (Classical.propDecidable _) (fpO I O n m o00 o01 o10 o11 0 (2 * n) s4) (false, s4) := by
    subst e00 e01 e10 e11 es4 es3 es2 es1
    rfl
  rw [hR] at hret
  refine r_aload_n 1 hZ 0 dX5_findPair_0 rfl rfl rfl ?_
  refine r_iload_n 2 hZ 1 dX5_findPair_1 rfl rfl rfl ?_
  refine r_iconst (v := 0) 3 hZ dX5_findPair_2 rfl (by decide) ?_
  refine r_iload_n 4 hZ 2 dX5_findPair_3 rfl rfl rfl ?_
  refine r_iconst (v := 0) 5 hZ dX5_findPair_4 rfl (by decide) ?_
  refine r_callVI (c_X5_agreementWith l g y ad _ hs (n := n) (m := m) (by omega) (by omega) 0 0) wM_X5_agreementWith wL_X5_82 hZ rfl ⟨by decide, by decide⟩ 4 5 rfl rfl rfl rfl dX5_findPair_5 ?_
  rw [es1, e00]
  refine r_istnN 9 [(0, _), (1, _), (2, _), (3, _)] hZ dX5_findPair_8 rfl rfl (by decide) rfl rfl ?_
  refine r_aload_n 10 hZ 0 dX5_findPair_9 rfl rfl rfl ?_
  refine r_iload_n 11 hZ 1 dX5_findPair_10 rfl rfl rfl ?_
  refine r_iconst (v := 0) 12 hZ dX5_findPair_11 rfl (by decide) ?_
  refine r_iload_n 13 hZ 2 dX5_findPair_12 rfl rfl rfl ?_
  refine r_iconst (v := (-1)) 14 hZ dX5_findPair_13 rfl (by decide) ?_
  refine r_callVI (c_X5_agreementWith l g y ad _ (hs1.ws hs) (n := n) (m := m) (by omega) (by omega) 0 (-1)) wM_X5_agreementWith wL_X5_82 hZ rfl ⟨by decide, by decide⟩ 4 5 rfl rfl rfl rfl dX5_findPair_14 ?_
  rw [es2, e01]
  refine r_istN (q := 0) 19 [(0, _), (1, _), (2, _), (3, _), (4, _)] hZ dX5_findPair_17 rfl (by decide) rfl rfl ?_
  refine r_aload_n 20 hZ 0 dX5_findPair_19 rfl rfl rfl ?_
  refine r_iload_n 21 hZ 1 dX5_findPair_20 rfl rfl rfl ?_
  refine r_iconst (v := (-1)) 22 hZ dX5_findPair_21 rfl (by decide) ?_
  refine r_iload_n 23 hZ 2 dX5_findPair_22 rfl rfl rfl ?_
  refine r_iconst (v := 0) 24 hZ dX5_findPair_23 rfl (by decide) ?_
  refine r_callVI (c_X5_agreementWith l g y ad _ (hs2.ws hs) (n := n) (m := m) (by omega) (by omega) (-1) 0) wM_X5_agreementWith wL_X5_82 hZ rfl ⟨by decide, by decide⟩ 4 5 rfl rfl rfl rfl dX5_findPair_24 ?_
  rw [es3, e10]
  refine r_istN (q := 0) 29 [(0, _), (1, _), (2, _), (3, _), (4, _), (5, _)] hZ dX5_findPair_27 rfl (by decide) rfl rfl ?_
  refine r_aload_n 30 hZ 0 dX5_findPair_29 rfl rfl rfl ?_
  refine r_iload_n 31 hZ 1 dX5_findPair_30 rfl rfl rfl ?_
  refine r_iconst (v := (-1)) 32 hZ dX5_findPair_31 rfl (by decide) ?_
  refine r_iload_n 33 hZ 2 dX5_findPair_32 rfl rfl rfl ?_
  refine r_iconst (v := (-1)) 34 hZ dX5_findPair_33 rfl (by decide) ?_
  refine r_callVI (c_X5_agreementWith l g y ad _ (hs3.ws hs) (n := n) (m := m) (by omega) (by omega) (-1) (-1)) wM_X5_agreementWith wL_X5_82 hZ rfl ⟨by decide, by decide⟩ 4 5 rfl rfl rfl rfl dX5_findPair_34 ?_
  rw [es4, e11]
  refine r_istN (q := 0) 39 [(0, _), (1, _), (2, _), (3, _), (4, _), (5, _), (6, _)] hZ dX5_findPair_37 rfl (by decide) rfl rfl ?_
  refine r_iload_n 40 hZ 3 dX5_findPair_39 rfl rfl rfl ?_
  refine r_iload 42 hZ 4 dX5_findPair_40 rfl rfl ?_
  refine r_ior 43 hZ dX5_findPair_42 rfl ?_
  refine r_iload 45 hZ 5 dX5_findPair_43 rfl rfl ?_
  refine r_ior 46 hZ dX5_findPair_45 rfl ?_
  refine r_iload 48 hZ 6 dX5_findPair_46 rfl rfl ?_
  refine r_ior 49 hZ dX5_findPair_48 rfl ?_
  refine r_iconst (v := (-1)) 50 hZ dX5_findPair_49 rfl (by decide) ?_
  refine r_icmp_eq 55 53 hZ dX5_findPair_50 (by decide) rfl (fun c_50 => ?_) (fun c_50 => ?_)
  · skip
    rw [if_pos c_50] at hret
    refine r_iconst (v := 0) 56 hZ dX5_findPair_55 rfl (by decide) ?_
    refine r_istN (q := 0) 58 [(0, _), (1, _), (2, _), (3, _), (4, _), (5, _), (6, _), (7, _)] hZ dX5_findPair_56 rfl (by decide) rfl rfl ?_
    have lp_58 : ∀ (q : Nat) (a : Nat) (s0 : stT), a ≤ 2 * n → 2 * n + 1 ≤ a + q → Lk σ s0 → fpO I O n m o00 o01 o10 o11 0 (2 * n) s4 = fpO I O n m o00 o01 o10 o11 a (2 * n - a) s0 → Z 0 0 (cw ad y s0) 58 [(0, .ref (ad 4)), (1, .int (nI n)), (2, .int (nI m)), (3, .int o00), (4, .int o01), (5, .int o10), (6, .int o11), (7, .int (nI a))] [] := by
      intro q
      induction q with
      | zero => intro a s0 h1 hn_58 hL0 hg; exact absurd hn_58 (by omega)
      | succ q ih_58 =>
        intro a s0 h1 hn_58 hL0 hg
        refine r_iload 60 hZ 7 dX5_findPair_58 rfl rfl ?_
        refine r_iconst (v := 2) 61 hZ dX5_findPair_60 rfl (by decide) ?_
        refine r_iload_n 62 hZ 1 dX5_findPair_61 rfl rfl rfl ?_
        refine r_imul 63 hZ dX5_findPair_62 rfl ?_
        rw [nI_2]
        refine r_icmp_ge 211 66 hZ dX5_findPair_63 (by decide) rfl (fun c_63 => ?_) (fun c_63 => ?_)
        · skip
          have ha := nI_leq (by omega) (by omega) c_63
          have ha : a = 2 * n := by omega
          subst ha
          rw [hg, show 2 * n - 2 * n = 0 by omega] at hret
          refine r_iconst (v := 0) 212 hZ dX5_findPair_211 rfl (by decide) ?_
          exact hret _ _ _ _ dX5_findPair_212 (bI_f (by show ¬ (false : Bool) = true; decide)).symm rfl
        · skip
          have ha := nI_nleq (by omega) (by omega) c_63
          have hba : 2 * n - a = (2 * n - (a + 1)) + 1 := by omega
          have hca := nI_clamp (n := a) (by omega)
          refine r_iload 68 hZ 7 dX5_findPair_66 rfl rfl ?_
          refine r_istN (q := 0) 70 [(0, _), (1, _), (2, _), (3, _), (4, _), (5, _), (6, _), (7, _), (8, _)] hZ dX5_findPair_68 rfl (by decide) rfl rfl ?_
          have lp_70 : ∀ (q : Nat) (b : Nat) (s : stT), b ≤ 2 * n → 2 * n + 1 ≤ b + q → a ≤ b → Lk σ s → fpI I O n m o00 o01 o10 o11 a a (2 * n - a) s0 = fpI I O n m o00 o01 o10 o11 a b (2 * n - b) s → Z 0 0 (cw ad y s) 70 [(0, .ref (ad 4)), (1, .int (nI n)), (2, .int (nI m)), (3, .int o00), (4, .int o01), (5, .int o10), (6, .int o11), (7, .int (nI a)), (8, .int (nI b))] [] := by
            intro q
            induction q with
            | zero => intro b s h1b hn_70 hab hL hgI; exact absurd hn_70 (by omega)
            | succ q ih_70 =>
              intro b s h1b hn_70 hab hL hgI
              have hw2 : ∀ n, n < 1 + I + O → okL (s 6 n) 38 := (hL.ws hs).2.2.2.2.2.2.2.1
              refine r_iload 72 hZ 8 dX5_findPair_70 rfl rfl ?_
              refine r_iconst (v := 2) 73 hZ dX5_findPair_72 rfl (by decide) ?_
              refine r_iload_n 74 hZ 1 dX5_findPair_73 rfl rfl rfl ?_
              refine r_imul 75 hZ dX5_findPair_74 rfl ?_
              rw [nI_2]
              refine r_icmp_ge 205 78 hZ dX5_findPair_75 (by decide) rfl (fun c_75 => ?_) (fun c_75 => ?_)
              · skip
                have hbb := nI_leq (by omega) (by omega) c_75
                have hbb : b = 2 * n := by omega
                subst hbb
                rw [show 2 * n - 2 * n = 0 by omega] at hgI
                refine r_iinc 208 7 1 [(0, _), (1, _), (2, _), (3, _), (4, _), (5, _), (6, _), (7, _), (8, _)] hZ dX5_findPair_205 rfl rfl (by decide) (by decide) rfl rfl ?_
                refine r_goto 58 hZ dX5_findPair_208 (by decide) ?_
                rw [nI_1]
                exact w_take 8 hZ (ih_58 (a + 1) _ (by omega) (by omega) hL (by rw [hg, hba, fpO_f (by rw [hgI]; show ¬ (false : Bool) = true; decide), hgI]; rfl))
              · skip
                have hbb := nI_nleq (by omega) (by omega) c_75
                have hbc : 2 * n - b = (2 * n - (b + 1)) + 1 := by omega
                have hcb := nI_clamp (n := b) (by omega)
                refine r_aload_n 79 hZ 0 dX5_findPair_78 rfl rfl rfl ?_
                refine g_X5_30 82 hZ dX5_findPair_79 rfl ?_
                refine r_iload 84 hZ 7 dX5_findPair_82 rfl rfl ?_
                refine a_c10 85 hZ (by first | assumption | exact vp_in_nI (by omega) (by decide) | (unfold vp_in; decide)) dX5_findPair_84 rfl ?_
                rw [hca]
                refine r_aload_n 86 hZ 0 dX5_findPair_85 rfl rfl rfl ?_
                refine g_X5_30 89 hZ dX5_findPair_86 rfl ?_
                refine r_iload 91 hZ 8 dX5_findPair_89 rfl rfl ?_
                refine a_c10 92 hZ (by first | assumption | exact vp_in_nI (by omega) (by decide) | (unfold vp_in; decide)) dX5_findPair_91 rfl ?_
                rw [hcb]
                refine r_iand 93 hZ dX5_findPair_92 rfl ?_
                refine r_istN (q := 0) 95 [(0, _), (1, _), (2, _), (3, _), (4, _), (5, _), (6, _), (7, _), (8, _), (9, _)] hZ dX5_findPair_93 rfl (by decide) rfl rfl ?_
                refine r_iload 97 hZ 9 dX5_findPair_95 rfl rfl ?_
                refine r_iload 99 hZ 5 dX5_findPair_97 rfl rfl ?_
                refine r_iand 100 hZ dX5_findPair_99 rfl ?_
                refine r_iload 102 hZ 9 dX5_findPair_100 rfl rfl ?_
                refine r_iconst (v := (-1)) 103 hZ dX5_findPair_102 rfl (by decide) ?_
                refine r_ixor 104 hZ dX5_findPair_103 rfl ?_
                refine r_iload_n 105 hZ 3 dX5_findPair_104 rfl rfl rfl ?_
                refine r_iand 106 hZ dX5_findPair_105 rfl ?_
                refine r_ior 107 hZ dX5_findPair_106 rfl ?_
                change Z 0 0 (cw ad y s) 107 _ (.int (mix (s 10 a &&& s 10 b) o10 o00) :: _)
                refine r_istN (q := 0) 109 [(0, _), (1, _), (2, _), (3, _), (4, _), (5, _), (6, _), (7, _), (8, _), (9, _), (10, _)] hZ dX5_findPair_107 rfl (by decide) rfl rfl ?_
                refine r_iload 111 hZ 9 dX5_findPair_109 rfl rfl ?_
                refine r_iload 113 hZ 6 dX5_findPair_111 rfl rfl ?_
                refine r_iand 114 hZ dX5_findPair_113 rfl ?_
                refine r_iload 116 hZ 9 dX5_findPair_114 rfl rfl ?_
                refine r_iconst (v := (-1)) 117 hZ dX5_findPair_116 rfl (by decide) ?_
                refine r_ixor 118 hZ dX5_findPair_117 rfl ?_
                refine r_iload 120 hZ 4 dX5_findPair_118 rfl rfl ?_
                refine r_iand 121 hZ dX5_findPair_120 rfl ?_
                refine r_ior 122 hZ dX5_findPair_121 rfl ?_
                change Z 0 0 (cw ad y s) 122 _ (.int (mix (s 10 a &&& s 10 b) o11 o01) :: _)
                refine r_istN (q := 0) 124 [(0, _), (1, _), (2, _), (3, _), (4, _), (5, _), (6, _), (7, _), (8, _), (9, _), (10, _), (11, _)] hZ dX5_findPair_122 rfl (by decide) rfl rfl ?_
                refine r_iload 126 hZ 10 dX5_findPair_124 rfl rfl ?_
                refine r_iload 128 hZ 11 dX5_findPair_126 rfl rfl ?_
                refine r_ior 129 hZ dX5_findPair_128 rfl ?_
                refine r_iconst (v := (-1)) 130 hZ dX5_findPair_129 rfl (by decide) ?_
                refine r_icmp_ne 199 133 hZ dX5_findPair_130 (by decide) rfl (fun c_130 => ?_) (fun c_130 => ?_)
                · skip
                  refine r_iinc 202 8 1 [(0, _), (1, _), (2, _), (3, _), (4, _), (5, _), (6, _), (7, _), (8, _), (9, _), (10, _), (11, _)] hZ dX5_findPair_199 rfl rfl (by decide) (by decide) rfl rfl ?_
                  refine r_goto 70 hZ dX5_findPair_202 (by decide) ?_
                  rw [nI_1]
                  first | exact w_take 9 hZ (ih_70 (b + 1) _ (by omega) (by omega) (by omega) hL (by rw [hgI, hbc, fpI_k c_130])) | exact w_take 9 hZ (ih_70 (b + 1) _ (by omega) (by omega) (by omega) ((hL.sp _ _ _ _ _ _).fl _ _ _) (by rw [hgI, hbc, fpI_f c_130 (bI_0.mp c_158)]))
                · skip
                  refine r_aload_n 134 hZ 0 dX5_findPair_133 rfl rfl rfl ?_
                  refine r_iload_n 135 hZ 1 dX5_findPair_134 rfl rfl rfl ?_
                  refine r_iload 137 hZ 9 dX5_findPair_135 rfl rfl ?_
                  refine r_iload_n 138 hZ 1 dX5_findPair_137 rfl rfl rfl ?_
                  refine r_iload 140 hZ 9 dX5_findPair_138 rfl rfl ?_
                  refine r_callVV (c_X5_setAndSpread l g y ad _ (hL.ws hs) (n := n) (m := n) (by omega) (by omega) _ _) wM_X5_setAndSpread wL_X5_94 hZ rfl ⟨by decide, by decide⟩ 4 5 rfl rfl rfl rfl dX5_findPair_140 ?_
                  refine r_aload_n 144 hZ 0 dX5_findPair_143 rfl rfl rfl ?_
                  refine r_iload_n 145 hZ 2 dX5_findPair_144 rfl rfl rfl ?_
                  refine r_iload 147 hZ 10 dX5_findPair_145 rfl rfl ?_
                  refine r_iload 149 hZ 11 dX5_findPair_147 rfl rfl ?_
                  refine r_aload_n 150 hZ 0 dX5_findPair_149 rfl rfl rfl ?_
                  refine g_X5_21 153 hZ dX5_findPair_150 rfl ?_
                  refine r_iconst (v := 1) 154 hZ dX5_findPair_153 rfl (by decide) ?_
                  refine a_cS 155 hZ (by first | assumption | exact vp_in_nI (by omega) (by decide) | (unfold vp_in; decide)) dX5_findPair_154 rfl ?_
                  refine r_callVI (c_X5_findLiterals l g y ad _ (n := m) (j := 1) (by omega) (by decide) (fun i2 hi2 => by rw [spF_k _ _ _ _ _ _ 6 (by decide) (by decide)]; exact hw2 i2 (by omega)) _ _) wM_X5_findLiterals wL_X5_86 hZ rfl ⟨by decide, by decide⟩ 4 5 rfl rfl rfl rfl dX5_findPair_155 ?_
                  refine r_if_eq 199 161 hZ dX5_findPair_158 (by decide) rfl (fun c_158 => ?_) (fun c_158 => ?_)
                  · skip
                    have hnone := flR_none (bI_0.mp c_158)
                    refine r_iinc 202 8 1 [(0, _), (1, _), (2, _), (3, _), (4, _), (5, _), (6, _), (7, _), (8, _), (9, _), (10, _), (11, _)] hZ dX5_findPair_199 rfl rfl (by decide) (by decide) rfl rfl ?_
                    refine r_goto 70 hZ dX5_findPair_202 (by decide) ?_
                    rw [nI_1]
                    first | exact w_take 9 hZ (ih_70 (b + 1) _ (by omega) (by omega) (by omega) hL (by rw [hgI, hbc, fpI_k c_130])) | exact w_take 9 hZ (ih_70 (b + 1) _ (by omega) (by omega) (by omega) ((hL.sp _ _ _ _ _ _).fl _ _ _) (by rw [hgI, hbc, fpI_f c_130 (bI_0.mp c_158)]))
                  · skip
                    have hI1 := hgI.trans (by rw [hbc, fpI_t c_130 (bI_n0.mp c_158)])
                    rw [hg, hba, fpO_t (by rw [hI1]), hI1] at hret
                    obtain ⟨s5, es5⟩ : ∃ s5, flF (spF s (1 + I) n (s 10 a &&& s 10 b) n (s 10 a &&& s 10 b) O) m 1 (flR (spF s (1 + I) n (s 10 a &&& s 10 b) n (s 10 a &&& s 10 b) O) (mix (s 10 a &&& s 10 b) o10 o00) (mix (s 10 a &&& s 10 b) o11 o01) m) = s5 := ⟨_, rfl⟩
                    rw [es5] at hret ⊢
                    have h6 : s5 6 = σ 6 := by rw [← es5, flF_k _ _ _ _ 6 (by decide) (by decide) (by decide), spF_k _ _ _ _ _ _ 6 (by decide) (by decide)]; exact hL 6 (by decide) (by decide) (by decide) (by decide) (by decide)
                    refine r_aload_n 162 hZ 0 dX5_findPair_161 rfl rfl rfl ?_
                    refine g_X5_21 165 hZ dX5_findPair_162 rfl ?_
                    refine r_iconst (v := 0) 166 hZ dX5_findPair_165 rfl (by decide) ?_
                    refine a_cS 167 hZ (by first | assumption | exact vp_in_nI (by omega) (by decide) | (unfold vp_in; decide)) dX5_findPair_166 rfl ?_
                    refine r_aload_n 168 hZ 0 dX5_findPair_167 rfl rfl rfl ?_
                    refine g_X5_9 171 hZ dX5_findPair_168 rfl ?_
                    refine g_X5_68 174 hZ dX5_findPair_171 rfl ?_
                    refine r_iload_n 175 hZ 1 dX5_findPair_174 rfl rfl rfl ?_
                    refine a_c6 176 hZ (by first | assumption | exact vp_in_nI (by omega) (by decide) | (unfold vp_in; decide)) dX5_findPair_175 rfl ?_
                    rw [hcn]
                    refine r_aload_n 177 hZ 0 dX5_findPair_176 rfl rfl rfl ?_
                    refine g_X5_9 180 hZ dX5_findPair_177 rfl ?_
                    refine r_iload 182 hZ 7 dX5_findPair_180 rfl rfl ?_
                    refine r_callVI (c_X3_ownLiteral l g y ad _ (n := a) (by omega) (by rw [h6]; exact hw (a / 2) (by omega))) wM_X3_ownLiteral wL_X5_98 hZ rfl ⟨by decide, by decide⟩ 1 3 rfl rfl rfl rfl dX5_findPair_182 ?_
                    refine r_aload_n 186 hZ 0 dX5_findPair_185 rfl rfl rfl ?_
                    refine g_X5_9 189 hZ dX5_findPair_186 rfl ?_
                    refine r_iload 191 hZ 8 dX5_findPair_189 rfl rfl ?_
                    refine r_callVI (c_X3_ownLiteral l g y ad _ (n := b) (by omega) (by rw [h6]; exact hw (b / 2) (by omega))) wM_X3_ownLiteral wL_X5_98 hZ rfl ⟨by decide, by decide⟩ 1 3 rfl rfl rfl rfl dX5_findPair_191 ?_
                    refine r_callVV (c_X1_put l g y ad _ (j := 0) (by decide) _ _ _) wM_X1_put wL_X5_102 hZ rfl ⟨by decide, by decide⟩ _ 1 (cw_E (by first | assumption | omega)) rfl rfl rfl dX5_findPair_194 ?_
                    refine r_iconst (v := 1) 198 hZ dX5_findPair_197 rfl (by decide) ?_
                    exact hret _ _ _ _ dX5_findPair_198 (bI_t rfl).symm (by unfold ptF olit; rw [h6])
          exact lp_70 (2 * n + 1) a s0 (by omega) (by omega) (by omega) hL0 rfl
    exact lp_58 (2 * n + 1) 0 s4 (by omega) (by omega) hs4 rfl
  · skip
    rw [if_neg c_50] at hret
    refine r_iconst (v := 0) 54 hZ dX5_findPair_53 rfl (by decide) ?_
    exact hret _ _ _ _ dX5_findPair_54 (bI_f (by show ¬ (false : Bool) = true; decide)).symm rfl
