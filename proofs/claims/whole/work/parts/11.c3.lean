theorem wL_copy : Cond.methodLink RX5 58 arraycopyName ∈ UW := uw_at 533 (by decide +kernel) rfl
theorem wV_copy : Cond.native arraycopyName ∈ UW ∧ Cond.static arraycopyName ∈ UW ∧ Cond.initialized "java/lang/System" ∈ UW := ⟨uw_at 535 (by decide +kernel) rfl, uw_at 534 (by decide +kernel) rfl, uw_at 16 (by decide +kernel) rfl⟩
def upA (σ : Nat → Nat → Int32) (k : Nat) (f : Nat → Int32) : Nat → Nat → Int32 := fun k2 => if k2 = k then f else σ k2
theorem r_copyC {l : Launch} {g : va_G} {y : Nat → ClassId} {R : Room} {cc : ByteArray} {own : String} {nL : Nat} {Z : Nat → Nat → va_W → Nat → List (Nat × Value) → List Value → Prop} {k n pc : Nat} {lv : List (Nat × Value)} {st : List Value} {ad : Nat → Nat} {σ : Nat → Nat → Int32} {idx N : Nat} (pc2 : Nat) (hZ : w_Is l g y R cc own nL Z) (wl : Cond.methodLink own idx arraycopyName ∈ UW) (hN : N ≤ 38) (h1 : 1 ≤ R.frames) (h2 : (st.map fun v => v.category).sum + (nativeFrameWords "java/lang/System" "arraycopy" 5 + 11) ≤ R.locals) (dd : decode cc pc = .ok (.invokestatic idx, 3)) (hp : pc + 3 = pc2) (k1 : Z k n (cw ad y (upA σ 9 (va_cpy (σ 4) (σ 9) 0 0 N))) pc2 lv st) : Z k n (cw ad y σ) pc lv (.int (nI N) :: .int 0 :: .ref (ad 15) :: .int 0 :: .ref (ad 10) :: st) := by
  obtain ⟨p, e, s, m, args, below, meth, c, A, Q, ⟨hx, hb, hml, hown, hts, hK, hA, hNW⟩, hi⟩ := hZ
  subst hp
  rw [hi] at k1 ⊢
  intro h3 h4 H locs ls hP hD hS hl
  have hc := nI_clamp (n := N) (by omega)
  refine va_copyi hx hb (by rw [hml]; exact hl.1.symm) hown (hts _ wl) (hts _ wV_copy.1) (hts _ wV_copy.2.1) (hts _ wV_copy.2.2) hK hP hD hS 10 15 0 0 (n0 := 38) (n1 := 38) (f := σ 4) (g := σ 9) rfl rfl rfl rfl rfl (by decide) (by decide) (nI_pos (by omega)) (by rw [hc]; exact (Nat.zero_add N).symm ▸ hN) (by rw [hc]; exact (Nat.zero_add N).symm ▸ hN) (fun _ _ => rfl) h1 h2 dd (fun H1 locs1 hP1 hD1 hS1 => ?_)
  rw [hc] at hP1 hD1
  exact k1 h3 h4 H1 locs1 ls hP1 hD1 hS1 hl
/-! the search: what its parts answer, what they do to the store -/
def Ws (σ : Nat → Nat → Int32) (N I O G : Nat) : Prop := σ 0 1 = nI N ∧ σ 0 2 = nI I ∧ σ 0 3 = nI O ∧ σ 0 5 = nI G ∧ N ≤ 38 ∧ 1 + I + O ≤ 14 ∧ G ≤ 4 ∧ (∀ n, n < 1 + I + O → okL (σ 6 n) 38) ∧ (∀ n, 1 + I ≤ n → n < 1 + I + O → okL (σ 6 n) 38 ∧ okL (σ 2 (ix (σ 6 n))) 76 ∧ okL (σ 3 (ix (σ 6 n))) 76) ∧ (∀ i, i < G → okL (σ 7 i) 76) ∧ (∀ i, i < G → okL (σ 8 i) 76)
theorem Ws.congr {σ s : Nat → Nat → Int32} {N I O G : Nat} (h : Ws σ N I O G) (e : ∀ k, k ≤ 8 → s k = σ k) : Ws s N I O G := by
  unfold Ws at *
  rw [e 0 (by decide), e 2 (by decide), e 3 (by decide), e 6 (by decide), e 7 (by decide), e 8 (by decide)]
  exact h
def shF (σ : Nat → Nat → Int32) (n : Nat) (c : Int32) : Nat → Nat → Int32 := up (up (up σ 9 (ix (σ 6 n)) c) 10 (2 * n) c) 10 (2 * n + 1) (c ^^^ (-1))
theorem shF_k (σ : Nat → Nat → Int32) (n : Nat) (c : Int32) (k : Nat) (h9 : k ≠ 9) (h10 : k ≠ 10) : shF σ n c k = σ k := by
  show (if k = 10 then _ else if k = 10 then _ else if k = 9 then _ else _) = _
  rw [if_neg h10, if_neg h10, if_neg h9]
def siF (σ : Nat → Nat → Int32) (N : Nat) : Nat → Nat → Nat → Int32
  | 0 => upA σ 9 (va_cpy (σ 4) (σ 9) 0 0 N)
  | i + 1 => shF (siF σ N i) i (σ 4 (ix (σ 6 i)))
theorem siF_k (σ : Nat → Nat → Int32) (N k : Nat) (h9 : k ≠ 9) (h10 : k ≠ 10) : ∀ i, siF σ N i k = σ k
  | 0 => by show (if k = 9 then _ else _) = _; rw [if_neg h9]
  | i + 1 => by show shF _ _ _ k = _; rw [shF_k _ _ _ _ h9 h10, siF_k σ N k h9 h10 i]
def spF (σ : Nat → Nat → Int32) (b n : Nat) (c : Int32) (m : Nat) (d : Int32) : Nat → Nat → Nat → Int32
  | 0 => σ
  | i + 1 => shF (spF σ b n c m d i) (b + i) (if b + i = n then c else if b + i = m then d else cl (spF σ b n c m d i 9) (ix (σ 2 (ix (σ 6 (b + i))))) &&& cl (spF σ b n c m d i 9) (ix (σ 3 (ix (σ 6 (b + i))))))
theorem spF_k (σ : Nat → Nat → Int32) (b n : Nat) (c : Int32) (m : Nat) (d : Int32) (k : Nat) (h9 : k ≠ 9) (h10 : k ≠ 10) : ∀ i, spF σ b n c m d i k = σ k
  | 0 => rfl
  | i + 1 => by show shF _ _ _ k = _; rw [shF_k _ _ _ _ h9 h10, spF_k σ b n c m d k h9 h10 i]
theorem sp_n {σ : Nat → Nat → Int32} {b n : Nat} {c : Int32} {m : Nat} {d : Int32} {i : Nat} (e : b + i = n) : spF σ b n c m d (i + 1) = shF (spF σ b n c m d i) (b + i) c := by show shF _ _ _ = _; rw [if_pos e]
theorem sp_m {σ : Nat → Nat → Int32} {b n : Nat} {c : Int32} {m : Nat} {d : Int32} {i : Nat} (e : b + i ≠ n) (e2 : b + i = m) : spF σ b n c m d (i + 1) = shF (spF σ b n c m d i) (b + i) d := by show shF _ _ _ = _; rw [if_neg e, if_pos e2]
theorem sp_o {σ : Nat → Nat → Int32} {b n : Nat} {c : Int32} {m : Nat} {d : Int32} {i : Nat} (e : b + i ≠ n) (e2 : b + i ≠ m) : spF σ b n c m d (i + 1) = shF (spF σ b n c m d i) (b + i) (cl (spF σ b n c m d i 9) (ix (σ 2 (ix (σ 6 (b + i))))) &&& cl (spF σ b n c m d i 9) (ix (σ 3 (ix (σ 6 (b + i)))))) := by show shF _ _ _ = _; rw [if_neg e, if_neg e2]
theorem Ws.sp {σ : Nat → Nat → Int32} {N I O G : Nat} (h : Ws σ N I O G) (b n : Nat) (c : Int32) (m : Nat) (d : Int32) (i : Nat) : Ws (spF σ b n c m d i) N I O G := h.congr (fun k hk => spF_k σ b n c m d k (by omega) (by omega) i)
def agF (σ : Nat → Nat → Int32) (I O G n : Nat) (c : Int32) (m : Nat) (d : Int32) : Int32 := dor (spF σ (1 + I) n c m d O) 9 G ^^^ (-1)
def ptP (σ : Nat → Nat → Int32) (ok0 ok1 : Int32) (a b : Nat) : Prop := ((σ 10 a &&& σ 10 b) &&& (ok1 ^^^ (-1))) ||| (((σ 10 a &&& σ 10 b) ^^^ (-1)) &&& (ok0 ^^^ (-1))) = 0
noncomputable def ptR (σ : Nat → Nat → Int32) (ok0 ok1 : Int32) (n a : Nat) : Option Nat := gfind (fun b => opt (ptP σ ok0 ok1 a b) b) a (2 * n - a)
theorem gfind_lt {P : Nat → Prop} : ∀ (c i b : Nat), gfind (fun b => opt (P b) b) i c = some b → i ≤ b ∧ b < i + c ∧ P b
  | 0, i, b, h => by rw [gfind_0] at h; cases h
  | c + 1, i, b, h => by
    by_cases hp : P i
    · rw [gfind_s (f := fun b => opt (P b) b) (opt_t hp)] at h
      cases h
      exact ⟨Nat.le_refl _, by omega, hp⟩
    · rw [gfind_n (f := fun b => opt (P b) b) (opt_f hp)] at h
      obtain ⟨h1, h2, h3⟩ := gfind_lt c (i + 1) b h
      exact ⟨by omega, by omega, h3⟩
theorem nI_m1 {n : Nat} (h : n < 2 ^ 31) : ¬ nI n = -1 := fun e => nI_pos h (by rw [e]; decide)
theorem oI_n {x : Option Nat} (hx : ∀ b, x = some b → b < 2 ^ 31) (h : oI x = -1) : x = none := by
  cases x with
  | none => rfl
  | some b => exact absurd h (nI_m1 (hx b rfl))
theorem oI_s {x : Option Nat} (h : ¬ oI x = -1) : ∃ b, x = some b := by
  cases x with
  | none => exact absurd rfl h
  | some b => exact ⟨b, rfl⟩
noncomputable def flG (σ : Nat → Nat → Int32) (ok0 ok1 : Int32) (n a : Nat) : Option (Nat × Nat) := @ite _ ((σ 10 a ^^^ (-1)) &&& (ok0 ^^^ (-1)) = 0) (Classical.propDecidable _) ((ptR σ ok0 ok1 n a).map (fun b => (a, b))) none
noncomputable def flR (σ : Nat → Nat → Int32) (ok0 ok1 : Int32) (n : Nat) : Option (Nat × Nat) := @ite _ (ok0 ||| ok1 = -1) (Classical.propDecidable _) (gfind (flG σ ok0 ok1 n) 0 (2 * n)) none
def olit (σ : Nat → Nat → Int32) (n : Nat) : Nat := 2 * ix (σ 6 (n / 2)) + n % 2
def ptF (σ : Nat → Nat → Int32) (n j a b : Nat) : Nat → Nat → Int32 := up (up (up σ 17 j (σ 6 n)) 18 j (nI (olit σ a))) 19 j (nI (olit σ b))
def flF (σ : Nat → Nat → Int32) (n j : Nat) : Option (Nat × Nat) → Nat → Nat → Int32
  | none => σ
  | some ab => ptF σ n j ab.1 ab.2
theorem ptF_k (σ : Nat → Nat → Int32) (n j a b k : Nat) (h7 : k ≠ 17) (h8 : k ≠ 18) (h9 : k ≠ 19) : ptF σ n j a b k = σ k := by
  show (if k = 19 then _ else if k = 18 then _ else if k = 17 then _ else _) = _
  rw [if_neg h9, if_neg h8, if_neg h7]
set_option maxHeartbeats 4000000 in
set_option maxRecDepth 100000 in
theorem c_X5_show (l : Launch) (g : va_G) (y : Nat → ClassId) (ad : Nat → Nat) (σ : Nat → Nat → Int32) {n : Nat} (hn : n < 14) (hw : okL (σ 6 n) 38) (c : Int32) : w_C l g y yX5_show cX5_show 3 none 0 [.ref (ad 4), .int (nI n), .int c] (cw ad y σ) none (cw ad y (shF σ n c)) := by
  refine w_ofV (lv0 := [(0, .ref (ad 4)), (1, .int (nI n)), (2, .int c)]) (by decide +kernel) (Nat.le_of_ble_eq_true rfl) rfl ?_
  intro Z hZ hret
  have hcn := nI_clamp (n := n) (by omega)
  have hc2 := nI_clamp (n := 2 * n) (by omega)
  have hc21 := nI_clamp (n := 2 * n + 1) (by omega)
  refine r_aload_n 1 hZ 0 dX5_show_0 rfl rfl rfl ?_
  refine g_X5_26 4 hZ dX5_show_1 rfl ?_
  refine r_aload_n 5 hZ 0 dX5_show_4 rfl rfl rfl ?_
  refine g_X5_9 8 hZ dX5_show_5 rfl ?_
  refine g_X5_68 11 hZ dX5_show_8 rfl ?_
  refine r_iload_n 12 hZ 1 dX5_show_11 rfl rfl rfl ?_
  refine a_c6 13 hZ (by first | assumption | exact vp_in_nI (by omega) (by decide) | (unfold vp_in; decide)) dX5_show_12 rfl ?_
  rw [hcn]
  refine r_iload_n 14 hZ 2 dX5_show_13 rfl rfl rfl ?_
  refine s_c9 15 hZ (okL_in hw (by decide)) dX5_show_14 rfl ?_
  refine r_aload_n 16 hZ 0 dX5_show_15 rfl rfl rfl ?_
  refine g_X5_30 19 hZ dX5_show_16 rfl ?_
  refine r_iconst (v := 2) 20 hZ dX5_show_19 rfl (by decide) ?_
  refine r_iload_n 21 hZ 1 dX5_show_20 rfl rfl rfl ?_
  refine r_imul 22 hZ dX5_show_21 rfl ?_
  rw [nI_2]
  refine r_iload_n 23 hZ 2 dX5_show_22 rfl rfl rfl ?_
  refine s_c10 24 hZ (by first | assumption | exact vp_in_nI (by omega) (by decide) | (unfold vp_in; decide)) dX5_show_23 rfl ?_
  rw [hc2]
  refine r_aload_n 25 hZ 0 dX5_show_24 rfl rfl rfl ?_
  refine g_X5_30 28 hZ dX5_show_25 rfl ?_
  refine r_iconst (v := 2) 29 hZ dX5_show_28 rfl (by decide) ?_
  refine r_iload_n 30 hZ 1 dX5_show_29 rfl rfl rfl ?_
  refine r_imul 31 hZ dX5_show_30 rfl ?_
  rw [nI_2]
  refine r_iconst (v := 1) 32 hZ dX5_show_31 rfl (by decide) ?_
  refine r_iadd 33 hZ dX5_show_32 rfl ?_
  rw [nI_1]
  refine r_iload_n 34 hZ 2 dX5_show_33 rfl rfl rfl ?_
  refine r_iconst (v := (-1)) 35 hZ dX5_show_34 rfl (by decide) ?_
  refine r_ixor 36 hZ dX5_show_35 rfl ?_
  refine s_c10 37 hZ (by first | assumption | exact vp_in_nI (by omega) (by decide) | (unfold vp_in; decide)) dX5_show_36 rfl ?_
  rw [hc21]
  exact hret _ _ _ dX5_show_37 rfl
set_option maxHeartbeats 4000000 in
set_option maxRecDepth 100000 in
theorem c_X5_showAsItIs (l : Launch) (g : va_G) (y : Nat → ClassId) (ad : Nat → Nat) (σ : Nat → Nat → Int32) {N I O G : Nat} (hs : Ws σ N I O G) : w_C l g y yX5_showAsItIs cX5_showAsItIs 2 none 1 [.ref (ad 4)] (cw ad y σ) none (cw ad y (siF σ N (1 + I + O))) := by
  refine w_ofV (lv0 := [(0, .ref (ad 4))]) (by decide +kernel) (Nat.le_of_ble_eq_true rfl) rfl ?_
  intro Z hZ hret
  obtain ⟨hN, hI, hO, hG, h38, h14, h4, hw, hl, hm, hd⟩ := hs
  refine r_aload_n 1 hZ 0 dX5_showAsItIs_0 rfl rfl rfl ?_
  refine g_X5_9 4 hZ dX5_showAsItIs_1 rfl ?_
  refine g_X5_49 7 hZ dX5_showAsItIs_4 rfl ?_
  refine r_iconst (v := 0) 8 hZ dX5_showAsItIs_7 rfl (by decide) ?_
  refine r_aload_n 9 hZ 0 dX5_showAsItIs_8 rfl rfl rfl ?_
  refine g_X5_26 12 hZ dX5_showAsItIs_9 rfl ?_
  refine r_iconst (v := 0) 13 hZ dX5_showAsItIs_12 rfl (by decide) ?_
  refine r_aload_n 14 hZ 0 dX5_showAsItIs_13 rfl rfl rfl ?_
  refine g_X5_9 17 hZ dX5_showAsItIs_14 rfl ?_
  refine g_X5_54 20 hZ dX5_showAsItIs_17 rfl ?_
  refine w_eqI (hN) ?_
  refine r_copyC 23 hZ wL_copy (by omega) (by decide) (by decide) dX5_showAsItIs_20 rfl ?_
  refine r_iconst (v := 0) 24 hZ dX5_showAsItIs_23 rfl (by decide) ?_
  refine r_istnN 25 [(0, _), (1, _)] hZ dX5_showAsItIs_24 rfl rfl (by decide) rfl rfl ?_
  have lp_25 : ∀ (n : Nat) (i : Nat), i ≤ 1 + I + O → 1 + I + O + 1 ≤ i + n → Z 0 0 (cw ad y (siF σ N i)) 25 [(0, .ref (ad 4)), (1, .int (nI i))] [] := by
    intro n
    induction n with
    | zero => intro i h1 hn_25; exact absurd hn_25 (by omega)
    | succ n ih_25 =>
      intro i h1 hn_25
      refine r_iload_n 26 hZ 1 dX5_showAsItIs_25 rfl rfl rfl ?_
      refine r_aload_n 27 hZ 0 dX5_showAsItIs_26 rfl rfl rfl ?_
      refine g_X5_9 30 hZ dX5_showAsItIs_27 rfl ?_
      refine r_callVI (c_X3_owned l g y ad _ (I := I) (O := O) ((congrFun (siF_k σ N 0 (by decide) (by decide) i) 2).trans hI) ((congrFun (siF_k σ N 0 (by decide) (by decide) i) 3).trans hO)) wM_X3_owned wL_X5_64 hZ rfl ⟨by decide, by decide⟩ 1 3 rfl rfl rfl rfl dX5_showAsItIs_30 ?_
      refine r_icmp_ge 64 36 hZ dX5_showAsItIs_33 (by decide) rfl (fun c_33 => ?_) (fun c_33 => ?_)
      · skip
        have hi := nI_leq (by omega) (by omega) c_33
        have hi : i = 1 + I + O := by omega
        subst hi
        exact hret _ _ _ dX5_showAsItIs_64 rfl
      · skip
        have hi := nI_nleq (by omega) (by omega) c_33
        have hci := nI_clamp (n := i) (by omega)
        have e6 := congrFun (siF_k σ N 6 (by decide) (by decide) i) i
        have e4 := congrFun (siF_k σ N 4 (by decide) (by decide) i) (ix (σ 6 i))
        have k1 := hw i (by omega)
        refine r_aload_n 37 hZ 0 dX5_showAsItIs_36 rfl rfl rfl ?_
        refine r_iload_n 38 hZ 1 dX5_showAsItIs_37 rfl rfl rfl ?_
        refine r_aload_n 39 hZ 0 dX5_showAsItIs_38 rfl rfl rfl ?_
        refine g_X5_9 42 hZ dX5_showAsItIs_39 rfl ?_
        refine g_X5_49 45 hZ dX5_showAsItIs_42 rfl ?_
        refine r_aload_n 46 hZ 0 dX5_showAsItIs_45 rfl rfl rfl ?_
        refine g_X5_9 49 hZ dX5_showAsItIs_46 rfl ?_
        refine g_X5_68 52 hZ dX5_showAsItIs_49 rfl ?_
        refine r_iload_n 53 hZ 1 dX5_showAsItIs_52 rfl rfl rfl ?_
        refine a_c6 54 hZ (by first | assumption | exact vp_in_nI (by omega) (by decide) | (unfold vp_in; decide)) dX5_showAsItIs_53 rfl ?_
        rw [hci, e6]
        refine a_c4 55 hZ (okL_in k1 (by decide)) dX5_showAsItIs_54 rfl ?_
        rw [e4]
        refine r_callVV (c_X5_show l g y ad _ (n := i) (by omega) (by rw [siF_k σ N 6 (by decide) (by decide) i]; exact hw i (by omega)) _) wM_X5_show wL_X5_71 hZ rfl ⟨by decide, by decide⟩ 4 5 rfl rfl rfl rfl dX5_showAsItIs_55 ?_
        refine r_iinc 61 1 1 [(0, _), (1, _)] hZ dX5_showAsItIs_58 rfl rfl (by decide) (by decide) rfl rfl ?_
        refine r_goto 25 hZ dX5_showAsItIs_61 (by decide) ?_
        rw [nI_1]
        exact ih_25 (i + 1) (by omega) (by omega)
  exact lp_25 (1 + I + O + 1) 0 (by omega) (by omega)
set_option maxHeartbeats 4000000 in
set_option maxRecDepth 100000 in
theorem c_X5_setAndSpread (l : Launch) (g : va_G) (y : Nat → ClassId) (ad : Nat → Nat) (σ : Nat → Nat → Int32) {N I O G : Nat} (hs : Ws σ N I O G) {n m : Nat} (hn : n < 14) (hm : m < 14) (c d : Int32) : w_C l g y yX5_setAndSpread cX5_setAndSpread 7 none 1 [.ref (ad 4), .int (nI n), .int c, .int (nI m), .int d] (cw ad y σ) none (cw ad y (spF σ (1 + I) n c m d O)) := by
  refine w_ofV (lv0 := [(0, .ref (ad 4)), (1, .int (nI n)), (2, .int c), (3, .int (nI m)), (4, .int d)]) (by decide +kernel) (Nat.le_of_ble_eq_true rfl) rfl ?_
  intro Z hZ hret
  obtain ⟨hN, hI, hO, hG, h38, h14, h4, hw, hl, hgm, hgd⟩ := hs
  refine r_aload_n 1 hZ 0 dX5_setAndSpread_0 rfl rfl rfl ?_
  refine g_X5_9 4 hZ dX5_setAndSpread_1 rfl ?_
  refine r_callVI (c_X3_firstOld l g y ad _ hI) wM_X3_firstOld wL_X5_75 hZ rfl ⟨by decide, by decide⟩ 1 3 rfl rfl rfl rfl dX5_setAndSpread_4 ?_
  refine r_istN (q := 0) 9 [(0, _), (1, _), (2, _), (3, _), (4, _), (5, _)] hZ dX5_setAndSpread_7 rfl (by decide) rfl rfl ?_
  have lp_9 : ∀ (q : Nat) (i : Nat), i ≤ O → O + 1 ≤ i + q → Z 0 0 (cw ad y (spF σ (1 + I) n c m d i)) 9 [(0, .ref (ad 4)), (1, .int (nI n)), (2, .int c), (3, .int (nI m)), (4, .int d), (5, .int (nI (1 + I + i)))] [] := by
    intro q
    induction q with
    | zero => intro i h1 hn_9; exact absurd hn_9 (by omega)
    | succ q ih_9 =>
      intro i h1 hn_9
      refine r_iload 11 hZ 5 dX5_setAndSpread_9 rfl rfl ?_
      refine r_aload_n 12 hZ 0 dX5_setAndSpread_11 rfl rfl rfl ?_
      refine g_X5_9 15 hZ dX5_setAndSpread_12 rfl ?_
      refine r_callVI (c_X3_owned l g y ad _ (I := I) (O := O) ((congrFun (spF_k σ (1 + I) n c m d 0 (by decide) (by decide) i) 2).trans hI) ((congrFun (spF_k σ (1 + I) n c m d 0 (by decide) (by decide) i) 3).trans hO)) wM_X3_owned wL_X5_64 hZ rfl ⟨by decide, by decide⟩ 1 3 rfl rfl rfl rfl dX5_setAndSpread_15 ?_
      refine r_icmp_ge 113 21 hZ dX5_setAndSpread_18 (by decide) rfl (fun c_18 => ?_) (fun c_18 => ?_)
      · skip
        have hi := nI_leq (by omega) (by omega) c_18
        have hi : i = O := by omega
        subst hi
        exact hret _ _ _ dX5_setAndSpread_113 rfl
      · skip
        have hi := nI_nleq (by omega) (by omega) c_18
        obtain ⟨k1, k2, k3⟩ := hl (1 + I + i) (by omega) (by omega)
        have hci := nI_clamp (n := 1 + I + i) (by omega)
        have e6 := congrFun (spF_k σ (1 + I) n c m d 6 (by decide) (by decide) i) (1 + I + i)
        have f2 := congrFun (spF_k σ (1 + I) n c m d 2 (by decide) (by decide) i) (ix (σ 6 (1 + I + i)))
        have f3 := congrFun (spF_k σ (1 + I) n c m d 3 (by decide) (by decide) i) (ix (σ 6 (1 + I + i)))
        refine r_iload 23 hZ 5 dX5_setAndSpread_21 rfl rfl ?_
        refine r_iload_n 24 hZ 1 dX5_setAndSpread_23 rfl rfl rfl ?_
        refine r_icmp_ne 37 27 hZ dX5_setAndSpread_24 (by decide) rfl (fun c_24 => ?_) (fun c_24 => ?_)
        · skip
          have e1 : 1 + I + i ≠ n := nI_neqq (by omega) (by omega) c_24
          refine r_iload 39 hZ 5 dX5_setAndSpread_37 rfl rfl ?_
          refine r_iload_n 40 hZ 3 dX5_setAndSpread_39 rfl rfl rfl ?_
          refine r_icmp_ne 54 43 hZ dX5_setAndSpread_40 (by decide) rfl (fun c_40 => ?_) (fun c_40 => ?_)
          · skip
            have e2 : 1 + I + i ≠ m := nI_neqq (by omega) (by omega) c_40
            refine r_aload_n 55 hZ 0 dX5_setAndSpread_54 rfl rfl rfl ?_
            refine g_X5_9 58 hZ dX5_setAndSpread_55 rfl ?_
            refine g_X5_68 61 hZ dX5_setAndSpread_58 rfl ?_
            refine r_iload 63 hZ 5 dX5_setAndSpread_61 rfl rfl ?_
            refine a_c6 64 hZ (by first | assumption | exact vp_in_nI (by omega) (by decide) | (unfold vp_in; decide)) dX5_setAndSpread_63 rfl ?_
            rw [hci, e6]
            refine r_istN (q := 0) 66 [(0, _), (1, _), (2, _), (3, _), (4, _), (5, _), (6, _)] hZ dX5_setAndSpread_64 rfl (by decide) rfl rfl ?_
            refine r_aload_n 67 hZ 0 dX5_setAndSpread_66 rfl rfl rfl ?_
            refine r_iload 69 hZ 5 dX5_setAndSpread_67 rfl rfl ?_
            refine r_aload_n 70 hZ 0 dX5_setAndSpread_69 rfl rfl rfl ?_
            refine g_X5_26 73 hZ dX5_setAndSpread_70 rfl ?_
            refine r_aload_n 74 hZ 0 dX5_setAndSpread_73 rfl rfl rfl ?_
            refine g_X5_9 77 hZ dX5_setAndSpread_74 rfl ?_
            refine g_X5_109 80 hZ dX5_setAndSpread_77 rfl ?_
            refine r_iload 82 hZ 6 dX5_setAndSpread_80 rfl rfl ?_
            refine a_c2 83 hZ (okL_in k1 (by decide)) dX5_setAndSpread_82 rfl ?_
            refine w_eqI (f2) ?_
            refine r_callSNI (c_X7_column_9 l g y ad _ k2) wM_X7_column w_nw_X5_112 hZ rfl ⟨by decide, by decide⟩ rfl rfl dX5_setAndSpread_83 ?_
            refine r_aload_n 87 hZ 0 dX5_setAndSpread_86 rfl rfl rfl ?_
            refine g_X5_26 90 hZ dX5_setAndSpread_87 rfl ?_
            refine r_aload_n 91 hZ 0 dX5_setAndSpread_90 rfl rfl rfl ?_
            refine g_X5_9 94 hZ dX5_setAndSpread_91 rfl ?_
            refine g_X5_116 97 hZ dX5_setAndSpread_94 rfl ?_
            refine r_iload 99 hZ 6 dX5_setAndSpread_97 rfl rfl ?_
            refine a_c3 100 hZ (okL_in k1 (by decide)) dX5_setAndSpread_99 rfl ?_
            refine w_eqI (f3) ?_
            refine r_callSNI (c_X7_column_9 l g y ad _ k3) wM_X7_column w_nw_X5_112 hZ rfl ⟨by decide, by decide⟩ rfl rfl dX5_setAndSpread_100 ?_
            refine r_iand 104 hZ dX5_setAndSpread_103 rfl ?_
            refine r_callVV (c_X5_show l g y ad _ (n := 1 + I + i) (by omega) (by rw [spF_k σ (1 + I) n c m d 6 (by decide) (by decide) i]; exact hw (1 + I + i) (by omega)) _) wM_X5_show wL_X5_71 hZ rfl ⟨by decide, by decide⟩ 4 5 rfl rfl rfl rfl dX5_setAndSpread_104 ?_
            first | rw [← sp_n e1] | rw [← sp_m e1 e2] | rw [← sp_o e1 e2]
            refine r_iinc 110 5 1 [(0, _), (1, _), (2, _), (3, _), (4, _), (5, _), (6, _)] hZ dX5_setAndSpread_107 rfl rfl (by decide) (by decide) rfl rfl ?_
            refine r_goto 9 hZ dX5_setAndSpread_110 (by decide) ?_
            rw [nI_1]
            first | exact ih_9 (i + 1) (by omega) (by omega) | exact w_take 6 hZ (ih_9 (i + 1) (by omega) (by omega))
          · skip
            have e2 : 1 + I + i = m := nI_eqq (by omega) (by omega) c_40
            refine r_aload_n 44 hZ 0 dX5_setAndSpread_43 rfl rfl rfl ?_
            refine r_iload 46 hZ 5 dX5_setAndSpread_44 rfl rfl ?_
            refine r_iload 48 hZ 4 dX5_setAndSpread_46 rfl rfl ?_
            refine r_callVV (c_X5_show l g y ad _ (n := 1 + I + i) (by omega) (by rw [spF_k σ (1 + I) n c m d 6 (by decide) (by decide) i]; exact hw (1 + I + i) (by omega)) _) wM_X5_show wL_X5_71 hZ rfl ⟨by decide, by decide⟩ 4 5 rfl rfl rfl rfl dX5_setAndSpread_48 ?_
            refine r_goto 107 hZ dX5_setAndSpread_51 (by decide) ?_
            first | rw [← sp_n e1] | rw [← sp_m e1 e2] | rw [← sp_o e1 e2]
            refine r_iinc 110 5 1 [(0, _), (1, _), (2, _), (3, _), (4, _), (5, _)] hZ dX5_setAndSpread_107 rfl rfl (by decide) (by decide) rfl rfl ?_
            refine r_goto 9 hZ dX5_setAndSpread_110 (by decide) ?_
            rw [nI_1]
            first | exact ih_9 (i + 1) (by omega) (by omega) | exact w_take 6 hZ (ih_9 (i + 1) (by omega) (by omega))
        · skip
          have e1 : 1 + I + i = n := nI_eqq (by omega) (by omega) c_24
          refine r_aload_n 28 hZ 0 dX5_setAndSpread_27 rfl rfl rfl ?_
          refine r_iload 30 hZ 5 dX5_setAndSpread_28 rfl rfl ?_
          refine r_iload_n 31 hZ 2 dX5_setAndSpread_30 rfl rfl rfl ?_
          refine r_callVV (c_X5_show l g y ad _ (n := 1 + I + i) (by omega) (by rw [spF_k σ (1 + I) n c m d 6 (by decide) (by decide) i]; exact hw (1 + I + i) (by omega)) _) wM_X5_show wL_X5_71 hZ rfl ⟨by decide, by decide⟩ 4 5 rfl rfl rfl rfl dX5_setAndSpread_31 ?_
          refine r_goto 107 hZ dX5_setAndSpread_34 (by decide) ?_
          first | rw [← sp_n e1] | rw [← sp_m e1 e2] | rw [← sp_o e1 e2]
          refine r_iinc 110 5 1 [(0, _), (1, _), (2, _), (3, _), (4, _), (5, _)] hZ dX5_setAndSpread_107 rfl rfl (by decide) (by decide) rfl rfl ?_
          refine r_goto 9 hZ dX5_setAndSpread_110 (by decide) ?_
          rw [nI_1]
          first | exact ih_9 (i + 1) (by omega) (by omega) | exact w_take 6 hZ (ih_9 (i + 1) (by omega) (by omega))
  exact lp_9 (O + 1) 0 (by omega) (by omega)
set_option maxHeartbeats 4000000 in
set_option maxRecDepth 100000 in
theorem c_X5_agreementWith (l : Launch) (g : va_G) (y : Nat → ClassId) (ad : Nat → Nat) (σ : Nat → Nat → Int32) {N I O G : Nat} (hs : Ws σ N I O G) {n m : Nat} (hn : n < 14) (hm : m < 14) (c d : Int32) : w_C l g y yX5_agreementWith cX5_agreementWith 5 (some .int) 3 [.ref (ad 4), .int (nI n), .int c, .int (nI m), .int d] (cw ad y σ) (some (.int (agF σ I O G n c m d))) (cw ad y (spF σ (1 + I) n c m d O)) := by
  refine w_ofI (lv0 := [(0, .ref (ad 4)), (1, .int (nI n)), (2, .int c), (3, .int (nI m)), (4, .int d)]) (by decide +kernel) (Nat.le_of_ble_eq_true rfl) rfl (rfl) ?_
  intro Z hZ hret
  obtain ⟨hN, hI, hO, hG, h38, h14, h4, hw, hl, hgm, hgd⟩ := hs.sp (1 + I) n c m d O
  refine r_aload_n 1 hZ 0 dX5_agreementWith_0 rfl rfl rfl ?_
  refine r_iload_n 2 hZ 1 dX5_agreementWith_1 rfl rfl rfl ?_
  refine r_iload_n 3 hZ 2 dX5_agreementWith_2 rfl rfl rfl ?_
  refine r_iload_n 4 hZ 3 dX5_agreementWith_3 rfl rfl rfl ?_
  refine r_iload 6 hZ 4 dX5_agreementWith_4 rfl rfl ?_
  refine r_callVV (c_X5_setAndSpread l g y ad _ hs hn hm c d) wM_X5_setAndSpread wL_X5_94 hZ rfl ⟨by decide, by decide⟩ 4 5 rfl rfl rfl rfl dX5_agreementWith_6 ?_
  refine r_aload_n 10 hZ 0 dX5_agreementWith_9 rfl rfl rfl ?_
  refine g_X5_15 13 hZ dX5_agreementWith_10 rfl ?_
  refine r_aload_n 14 hZ 0 dX5_agreementWith_13 rfl rfl rfl ?_
  refine g_X5_26 17 hZ dX5_agreementWith_14 rfl ?_
  refine r_callVI (c_X2_agreement l g y ad _ hG h4 hgm hgd) wM_X2_agreement wL_X5_36 hZ rfl ⟨by decide, by decide⟩ 2 2 rfl rfl rfl rfl dX5_agreementWith_17 ?_
  exact hret _ _ _ _ dX5_agreementWith_20 rfl rfl
set_option maxHeartbeats 4000000 in
set_option maxRecDepth 100000 in
theorem c_X5_findPartner (l : Launch) (g : va_G) (y : Nat → ClassId) (ad : Nat → Nat) (σ : Nat → Nat → Int32) {n a : Nat} (hn : n < 14) (ha : a ≤ 2 * n) (ok0 ok1 : Int32) : w_C l g y yX5_findPartner cX5_findPartner 7 (some .int) 0 [.ref (ad 4), .int (nI n), .int (nI a), .int ok0, .int ok1] (cw ad y σ) (some (.int (oI (ptR σ ok0 ok1 n a)))) (cw ad y σ) := by
  refine w_ofI (lv0 := [(0, .ref (ad 4)), (1, .int (nI n)), (2, .int (nI a)), (3, .int ok0), (4, .int ok1)]) (by decide +kernel) (Nat.le_of_ble_eq_true rfl) rfl (rfl) ?_
  intro Z hZ hret
  have hca := nI_clamp (n := a) (by omega)
  unfold ptR at hret
  generalize hF : (fun b => opt (ptP σ ok0 ok1 a b) b) = F at hret
  refine r_iload_n 1 hZ 2 dX5_findPartner_0 rfl rfl rfl ?_
  refine r_istN (q := 0) 3 [(0, _), (1, _), (2, _), (3, _), (4, _), (5, _)] hZ dX5_findPartner_1 rfl (by decide) rfl rfl ?_
  have lp_3 : ∀ (q : Nat) (i : Nat), i ≤ 2 * n → 2 * n + 1 ≤ i + q → a ≤ i → gfind F a (2 * n - a) = gfind F i (2 * n - i) → Z 0 0 (cw ad y σ) 3 [(0, .ref (ad 4)), (1, .int (nI n)), (2, .int (nI a)), (3, .int ok0), (4, .int ok1), (5, .int (nI i))] [] := by
    intro q
    induction q with
    | zero => intro i h1 hn_3 ha3 hg; exact absurd hn_3 (by omega)
    | succ q ih_3 =>
      intro i h1 hn_3 ha3 hg
      refine r_iload 5 hZ 5 dX5_findPartner_3 rfl rfl ?_
      refine r_iconst (v := 2) 6 hZ dX5_findPartner_5 rfl (by decide) ?_
      refine r_iload_n 7 hZ 1 dX5_findPartner_6 rfl rfl rfl ?_
      refine r_imul 8 hZ dX5_findPartner_7 rfl ?_
      rw [nI_2]
      refine r_icmp_ge 55 11 hZ dX5_findPartner_8 (by decide) rfl (fun c_8 => ?_) (fun c_8 => ?_)
      · skip
        have hi := nI_leq (by omega) (by omega) c_8
        have hi : i = 2 * n := by omega
        subst hi
        refine r_iconst (v := (-1)) 56 hZ dX5_findPartner_55 rfl (by decide) ?_
        exact hret _ _ _ _ dX5_findPartner_56 (by rw [hg, show 2 * n - 2 * n = 0 by omega, gfind_0]; rfl) rfl
      · skip
        have hi := nI_nleq (by omega) (by omega) c_8
        have hb : 2 * n - i = (2 * n - (i + 1)) + 1 := by omega
        have hci := nI_clamp (n := i) (by omega)
        refine r_aload_n 12 hZ 0 dX5_findPartner_11 rfl rfl rfl ?_
        refine g_X5_30 15 hZ dX5_findPartner_12 rfl ?_
        refine r_iload_n 16 hZ 2 dX5_findPartner_15 rfl rfl rfl ?_
        refine a_c10 17 hZ (by first | assumption | exact vp_in_nI (by omega) (by decide) | (unfold vp_in; decide)) dX5_findPartner_16 rfl ?_
        rw [hca]
        refine r_aload_n 18 hZ 0 dX5_findPartner_17 rfl rfl rfl ?_
        refine g_X5_30 21 hZ dX5_findPartner_18 rfl ?_
        refine r_iload 23 hZ 5 dX5_findPartner_21 rfl rfl ?_
        refine a_c10 24 hZ (by first | assumption | exact vp_in_nI (by omega) (by decide) | (unfold vp_in; decide)) dX5_findPartner_23 rfl ?_
        rw [hci]
        refine r_iand 25 hZ dX5_findPartner_24 rfl ?_
        refine r_istN (q := 0) 27 [(0, _), (1, _), (2, _), (3, _), (4, _), (5, _), (6, _)] hZ dX5_findPartner_25 rfl (by decide) rfl rfl ?_
        refine r_iload 29 hZ 6 dX5_findPartner_27 rfl rfl ?_
        refine r_iload 31 hZ 4 dX5_findPartner_29 rfl rfl ?_
        refine r_iconst (v := (-1)) 32 hZ dX5_findPartner_31 rfl (by decide) ?_
        refine r_ixor 33 hZ dX5_findPartner_32 rfl ?_
        refine r_iand 34 hZ dX5_findPartner_33 rfl ?_
        refine r_iload 36 hZ 6 dX5_findPartner_34 rfl rfl ?_
        refine r_iconst (v := (-1)) 37 hZ dX5_findPartner_36 rfl (by decide) ?_
        refine r_ixor 38 hZ dX5_findPartner_37 rfl ?_
        refine r_iload_n 39 hZ 3 dX5_findPartner_38 rfl rfl rfl ?_
        refine r_iconst (v := (-1)) 40 hZ dX5_findPartner_39 rfl (by decide) ?_
        refine r_ixor 41 hZ dX5_findPartner_40 rfl ?_
        refine r_iand 42 hZ dX5_findPartner_41 rfl ?_
        refine r_ior 43 hZ dX5_findPartner_42 rfl ?_
        refine r_if_ne 49 46 hZ dX5_findPartner_43 (by decide) rfl (fun c_43 => ?_) (fun c_43 => ?_)
        · skip
          have hF1 : F i = none := by rw [← hF]; exact opt_f c_43
          refine r_iinc 52 5 1 [(0, _), (1, _), (2, _), (3, _), (4, _), (5, _), (6, _)] hZ dX5_findPartner_49 rfl rfl (by decide) (by decide) rfl rfl ?_
          refine r_goto 3 hZ dX5_findPartner_52 (by decide) ?_
          rw [nI_1]
          exact w_take 6 hZ (ih_3 (i + 1) (by omega) (by omega) (by omega) (by rw [hg, hb, gfind_n hF1]))
        · skip
          have hF1 : F i = some i := by rw [← hF]; exact opt_t c_43
          refine r_iload 48 hZ 5 dX5_findPartner_46 rfl rfl ?_
          exact hret _ _ _ _ dX5_findPartner_48 (by rw [hg, hb, gfind_s hF1]; rfl) rfl
  exact lp_3 (2 * n + 1) a (by omega) (by omega) (by omega) rfl
set_option maxHeartbeats 4000000 in
set_option maxRecDepth 100000 in
theorem c_X5_findLiterals (l : Launch) (g : va_G) (y : Nat → ClassId) (ad : Nat → Nat) (σ : Nat → Nat → Int32) {n j : Nat} (hn : n < 14) (hj : j < 42) (hw : ∀ i, i ≤ n → okL (σ 6 i) 38) (ok0 ok1 : Int32) : w_C l g y yX5_findLiterals cX5_findLiterals 7 (some .boolean) 1 [.ref (ad 4), .int (nI n), .int ok0, .int ok1, .ref (ad (25 + j))] (cw ad y σ) (some (.int (bI ((flR σ ok0 ok1 n).isSome = true)))) (cw ad y (flF σ n j (flR σ ok0 ok1 n))) := by
  refine w_ofI (lv0 := [(0, .ref (ad 4)), (1, .int (nI n)), (2, .int ok0), (3, .int ok1), (4, .ref (ad (25 + j)))]) (by decide +kernel) (Nat.le_of_ble_eq_true rfl) rfl (bI_nar _) ?_
  intro Z hZ hret
  have hcn := nI_clamp (n := n) (by omega)
  refine r_iload_n 1 hZ 2 dX5_findLiterals_0 rfl rfl rfl ?_
  refine r_iload_n 2 hZ 3 dX5_findLiterals_1 rfl rfl rfl ?_
  refine r_ior 3 hZ dX5_findLiterals_2 rfl ?_
  refine r_iconst (v := (-1)) 4 hZ dX5_findLiterals_3 rfl (by decide) ?_
  refine r_icmp_eq 9 7 hZ dX5_findLiterals_4 (by decide) rfl (fun c_4 => ?_) (fun c_4 => ?_)
  · skip
    have hR : flR σ ok0 ok1 n = gfind (flG σ ok0 ok1 n) 0 (2 * n) := if_pos c_4
    refine r_iconst (v := 0) 10 hZ dX5_findLiterals_9 rfl (by decide) ?_
    refine r_istN (q := 0) 12 [(0, _), (1, _), (2, _), (3, _), (4, _), (5, _)] hZ dX5_findLiterals_10 rfl (by decide) rfl rfl ?_
    have lp_12 : ∀ (q : Nat) (i : Nat), i ≤ 2 * n → 2 * n + 1 ≤ i + q → gfind (flG σ ok0 ok1 n) 0 (2 * n) = gfind (flG σ ok0 ok1 n) i (2 * n - i) → Z 0 0 (cw ad y σ) 12 [(0, .ref (ad 4)), (1, .int (nI n)), (2, .int ok0), (3, .int ok1), (4, .ref (ad (25 + j))), (5, .int (nI i))] [] := by
      intro q
      induction q with
      | zero => intro i h1 hn_12 hg; exact absurd hn_12 (by omega)
      | succ q ih_12 =>
        intro i h1 hn_12 hg
        refine r_iload 14 hZ 5 dX5_findLiterals_12 rfl rfl ?_
        refine r_iconst (v := 2) 15 hZ dX5_findLiterals_14 rfl (by decide) ?_
        refine r_iload_n 16 hZ 1 dX5_findLiterals_15 rfl rfl rfl ?_
        refine r_imul 17 hZ dX5_findLiterals_16 rfl ?_
        rw [nI_2]
        refine r_icmp_ge 93 20 hZ dX5_findLiterals_17 (by decide) rfl (fun c_17 => ?_) (fun c_17 => ?_)
        · skip
          have hi := nI_leq (by omega) (by omega) c_17
          have hi : i = 2 * n := by omega
          subst hi
          have hR2 : flR σ ok0 ok1 n = none := by rw [hR, hg, show 2 * n - 2 * n = 0 by omega, gfind_0]
          rw [hR2] at hret
          refine r_iconst (v := 0) 94 hZ dX5_findLiterals_93 rfl (by decide) ?_
          exact hret _ _ _ _ dX5_findLiterals_94 (bI_f (by simp)).symm rfl
        · skip
          have hi := nI_nleq (by omega) (by omega) c_17
          have hb : 2 * n - i = (2 * n - (i + 1)) + 1 := by omega
          have hci := nI_clamp (n := i) (by omega)
          refine r_aload_n 21 hZ 0 dX5_findLiterals_20 rfl rfl rfl ?_
          refine g_X5_30 24 hZ dX5_findLiterals_21 rfl ?_
          refine r_iload 26 hZ 5 dX5_findLiterals_24 rfl rfl ?_
          refine a_c10 27 hZ (by first | assumption | exact vp_in_nI (by omega) (by decide) | (unfold vp_in; decide)) dX5_findLiterals_26 rfl ?_
          rw [hci]
          refine r_iconst (v := (-1)) 28 hZ dX5_findLiterals_27 rfl (by decide) ?_
          refine r_ixor 29 hZ dX5_findLiterals_28 rfl ?_
          refine r_iload_n 30 hZ 2 dX5_findLiterals_29 rfl rfl rfl ?_
          refine r_iconst (v := (-1)) 31 hZ dX5_findLiterals_30 rfl (by decide) ?_
          refine r_ixor 32 hZ dX5_findLiterals_31 rfl ?_
          refine r_iand 33 hZ dX5_findLiterals_32 rfl ?_
          refine r_if_ne 87 36 hZ dX5_findLiterals_33 (by decide) rfl (fun c_33 => ?_) (fun c_33 => ?_)
          · skip
            have hF1 : flG σ ok0 ok1 n i = none := if_neg c_33
            refine r_iinc 90 5 1 [(0, _), (1, _), (2, _), (3, _), (4, _), (5, _)] hZ dX5_findLiterals_87 rfl rfl (by decide) (by decide) rfl rfl ?_
            refine r_goto 12 hZ dX5_findLiterals_90 (by decide) ?_
            rw [nI_1]
            first | exact ih_12 (i + 1) (by omega) (by omega) (by rw [hg, hb, gfind_n hF1]) | exact w_take 6 hZ (ih_12 (i + 1) (by omega) (by omega) (by rw [hg, hb, gfind_n hF1]))
          · skip
            refine r_aload_n 37 hZ 0 dX5_findLiterals_36 rfl rfl rfl ?_
            refine r_iload_n 38 hZ 1 dX5_findLiterals_37 rfl rfl rfl ?_
            refine r_iload 40 hZ 5 dX5_findLiterals_38 rfl rfl ?_
            refine r_iload_n 41 hZ 2 dX5_findLiterals_40 rfl rfl rfl ?_
            refine r_iload_n 42 hZ 3 dX5_findLiterals_41 rfl rfl rfl ?_
            refine r_callVI (c_X5_findPartner l g y ad σ (n := n) (a := i) hn (by omega) ok0 ok1) wM_X5_findPartner wL_X5_106 hZ rfl ⟨by decide, by decide⟩ 4 5 rfl rfl rfl rfl dX5_findLiterals_42 ?_
            refine r_istN (q := 0) 47 [(0, _), (1, _), (2, _), (3, _), (4, _), (5, _), (6, _)] hZ dX5_findLiterals_45 rfl (by decide) rfl rfl ?_
            refine r_iload 49 hZ 6 dX5_findLiterals_47 rfl rfl ?_
            refine r_iconst (v := (-1)) 50 hZ dX5_findLiterals_49 rfl (by decide) ?_
            refine r_icmp_eq 87 53 hZ dX5_findLiterals_50 (by decide) rfl (fun c_50 => ?_) (fun c_50 => ?_)
            · skip
              have hp := oI_n (fun b h => by have := gfind_lt _ _ _ h; omega) c_50
              have hF1 : flG σ ok0 ok1 n i = none := (if_pos c_33).trans (by rw [hp]; rfl)
              refine r_iinc 90 5 1 [(0, _), (1, _), (2, _), (3, _), (4, _), (5, _), (6, _)] hZ dX5_findLiterals_87 rfl rfl (by decide) (by decide) rfl rfl ?_
              refine r_goto 12 hZ dX5_findLiterals_90 (by decide) ?_
              rw [nI_1]
              first | exact ih_12 (i + 1) (by omega) (by omega) (by rw [hg, hb, gfind_n hF1]) | exact w_take 6 hZ (ih_12 (i + 1) (by omega) (by omega) (by rw [hg, hb, gfind_n hF1]))
            · skip
              obtain ⟨b, hp⟩ := oI_s c_50
              have hbl := gfind_lt _ _ _ hp
              have hR2 : flR σ ok0 ok1 n = some (i, b) := by rw [hR, hg, hb, gfind_s ((if_pos c_33).trans (by rw [hp]; rfl))]
              rw [hR2] at hret
              rw [hp]
              have ki := hw (i / 2) (by omega)
              have kb := hw (b / 2) (by omega)
              refine r_aload 55 hZ 4 dX5_findLiterals_53 rfl rfl ?_
              refine r_aload_n 56 hZ 0 dX5_findLiterals_55 rfl rfl rfl ?_
              refine g_X5_9 59 hZ dX5_findLiterals_56 rfl ?_
              refine g_X5_68 62 hZ dX5_findLiterals_59 rfl ?_
              refine r_iload_n 63 hZ 1 dX5_findLiterals_62 rfl rfl rfl ?_
              refine a_c6 64 hZ (by first | assumption | exact vp_in_nI (by omega) (by decide) | (unfold vp_in; decide)) dX5_findLiterals_63 rfl ?_
              rw [hcn]
              refine r_aload_n 65 hZ 0 dX5_findLiterals_64 rfl rfl rfl ?_
              refine g_X5_9 68 hZ dX5_findLiterals_65 rfl ?_
              refine r_iload 70 hZ 5 dX5_findLiterals_68 rfl rfl ?_
              refine r_callVI (c_X3_ownLiteral l g y ad σ (n := i) (by omega) ki) wM_X3_ownLiteral wL_X5_98 hZ rfl ⟨by decide, by decide⟩ 1 3 rfl rfl rfl rfl dX5_findLiterals_70 ?_
              refine r_aload_n 74 hZ 0 dX5_findLiterals_73 rfl rfl rfl ?_
              refine g_X5_9 77 hZ dX5_findLiterals_74 rfl ?_
              refine r_iload 79 hZ 6 dX5_findLiterals_77 rfl rfl ?_
              change Z 0 0 (cw ad y σ) 79 _ (.int (nI b) :: _)
              refine r_callVI (c_X3_ownLiteral l g y ad σ (n := b) (by omega) kb) wM_X3_ownLiteral wL_X5_98 hZ rfl ⟨by decide, by decide⟩ 1 3 rfl rfl rfl rfl dX5_findLiterals_79 ?_
              refine r_callVV (c_X1_put l g y ad σ hj _ _ _) wM_X1_put wL_X5_102 hZ rfl ⟨by decide, by decide⟩ _ 1 (cw_E (by first | assumption | omega)) rfl rfl rfl dX5_findLiterals_82 ?_
              refine r_iconst (v := 1) 86 hZ dX5_findLiterals_85 rfl (by decide) ?_
              exact hret _ _ _ _ dX5_findLiterals_86 (bI_t rfl).symm rfl
    exact lp_12 (2 * n + 1) 0 (by omega) (by omega) rfl
  · skip
    have hR : flR σ ok0 ok1 n = none := if_neg c_4
    rw [hR] at hret
    refine r_iconst (v := 0) 8 hZ dX5_findLiterals_7 rfl (by decide) ?_
    exact hret _ _ _ _ dX5_findLiterals_8 (bI_f (by simp)).symm rfl
