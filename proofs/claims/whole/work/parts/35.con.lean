/-! the constructors -/
/-- another order -/
def wW (g : va_G) (ws ws2 : va_W) : Prop := ∀ (H : Heap) (A : Nat → Prop), va_P g vwCl ws H → va_D A ws → va_P g vwCl ws2 H ∧ va_D A ws2
theorem wW_sub {g : va_G} {ws ws2 : va_W} (is : List Nat) (hn : va_nd is = true) (h1 : is.filterMap (fun i => ws[i]?) = ws2) (h2 : is.map (fun i => ws[i]?) = ws2.map some) : wW g ws ws2 := fun _ _ hP hD => ⟨hP.sub is h1, hD.sub is hn h2⟩
theorem wW.app {g : va_G} {w1 w2 wr : va_W} (h : wW g w1 w2) : wW g (w1 ++ wr) (w2 ++ wr) := fun H A hP hD => by
  obtain ⟨a, b⟩ := h H A hP.left hD.left
  obtain ⟨-, c⟩ := h H (fun q => ∃ (k : Nat) (p : Nat × va_E), w1[k]? = some p ∧ p.1 = q) hP.left ⟨hD.left.1, fun k q hq => ⟨k, q, hq, rfl⟩⟩
  exact ⟨va_P.app a hP.right, va_D.app b hD.right (fun i j p q hp hq e => by
    obtain ⟨k, p2, h1, h2⟩ := c.2 i p hp
    exact hD.apart h1 hq (h2.trans e))⟩
theorem wW.comm {g : va_G} {w1 w2 : va_W} : wW g (w1 ++ w2) (w2 ++ w1) := fun _ _ hP hD => ⟨va_P.app hP.right hP.left, va_D.app hD.right hD.left (fun i j p q hp hq e => hD.apart hq hp e.symm)⟩
theorem wW.trans {g : va_G} {w1 w2 w3 : va_W} (h : wW g w1 w2) (k : wW g w2 w3) : wW g w1 w3 := fun H A hP hD => (h H A hP hD).elim (fun a b => k H A a b)
theorem wW.eq {g : va_G} {w1 w2 : va_W} (h : w1 = w2) : wW g w1 w2 := fun _ _ hP hD => h ▸ ⟨hP, hD⟩
theorem wW.cellQ {g : va_G} {w1 w2 : va_W} {c : ClassId} {N a : Nat} {f f2 : Nat → Option Nat} (h : ∀ j, j < N → f j = f2 j) : wW g (w1 ++ (a, .inl (c, N, .inr (.inr (.inr (.inr f))))) :: w2) (w1 ++ (a, .inl (c, N, .inr (.inr (.inr (.inr f2))))) :: w2) := by
  have e : vp_cell c (N, .inr (.inr (.inr (.inr f)))) = vp_cell c (N, .inr (.inr (.inr (.inr f2)))) := by
    show arrV c N (fun j => va_rf (f j)) = arrV c N (fun j => va_rf (f2 j))
    unfold arrV
    congr 2
    funext j
    show va_rf (f j.val) = va_rf (f2 j.val)
    rw [h j.val j.isLt]
  intro H A hP hD
  have key : ∀ (k : Nat) (q : Nat × va_E), (w1 ++ (a, .inl (c, N, .inr (.inr (.inr (.inr f2))))) :: w2)[k]? = some q → ∃ q2, (w1 ++ (a, .inl (c, N, .inr (.inr (.inr (.inr f))))) :: w2)[k]? = some q2 ∧ q2.1 = q.1 ∧ ∀ H, va_at g vwCl q2 H → va_at g vwCl q H := by
    intro k q hq
    by_cases h1 : k < w1.length
    · rw [List.getElem?_append_left h1] at hq ⊢
      exact ⟨q, hq, rfl, fun _ h => h⟩
    · rw [List.getElem?_append_right (by omega)] at hq ⊢
      rcases Nat.eq_zero_or_pos (k - w1.length) with z | z
      · rw [z] at hq ⊢
        cases hq
        exact ⟨_, rfl, rfl, fun H h => by
          show H[a]? = some (vp_cell _ _)
          rw [← e]; exact h⟩
      · obtain ⟨m, hm⟩ : ∃ m, k - w1.length = m + 1 := ⟨k - w1.length - 1, by omega⟩
        rw [hm] at hq ⊢
        exact ⟨q, hq, rfl, fun _ h => h⟩
  refine ⟨fun k q hq => ?_, fun i j p q hp hq e => ?_, fun k q hq => ?_⟩
  · obtain ⟨q2, a1, a2, a3⟩ := key k q hq
    exact a3 H (hP k q2 a1)
  · obtain ⟨p2, a1, a2, -⟩ := key i p hp
    obtain ⟨q2, b1, b2, -⟩ := key j q hq
    exact hD.1 i j p2 q2 a1 b1 (by rw [a2, b2, e])
  · obtain ⟨q2, a1, a2, -⟩ := key k q hq
    exact a2 ▸ hD.2 k q2 a1
theorem r_W {l : Launch} {g : va_G} {y : Nat → ClassId} {R : Room} {cc : ByteArray} {own : String} {nL : Nat} {Z : Nat → Nat → va_W → Nat → List (Nat × Value) → List Value → Prop} {k n pc : Nat} {ws ws2 : va_W} {lv : List (Nat × Value)} {st : List Value} (hZ : w_Is l g y R cc own nL Z) (h : wW g ws ws2) (k1 : Z k n ws2 pc lv st) : Z k n ws pc lv st := by
  obtain ⟨p, e, s, m, args, below, meth, c, A, Q, -, hi⟩ := hZ
  rw [hi] at k1 ⊢
  exact fun h1 h2 H locs ls hP hD hS hl => k1 h1 h2 H locs ls (h H A hP hD).1 (h H A hP hD).2 hS hl
section CON
variable (l : Launch) (g : va_G) (y : Nat → ClassId)
theorem c_X1_init (a : Nat) : w_C l g y yX1_init cX1_init 1 none 1 [.ref a] [(a, .inr (1, [.int 0, .int 0, .int 0]))] none [(a, .inr (1, [.int 0, .int 0, .int 0]))] := by
  refine w_ofV (lv0 := [(0, .ref a)]) (by decide +kernel) (Nat.le_of_ble_eq_true rfl) rfl ?_
  intro Z hI hret
  refine r_aload_n 1 hI 0 dX1_init_0 rfl rfl rfl ?_
  refine r_objInit 4 wL_X1_1 hI ⟨by decide, by decide⟩ rfl dX1_init_1 rfl ?_
  exact hret _ _ _ dX1_init_4 rfl
set_option maxHeartbeats 4000000 in
set_option maxRecDepth 100000 in
theorem c_X3_init (a : Nat) : w_N l g y yX3_init cX3_init 1 1 6 204 [.ref a] [(a, .inr (3, [.null, .null, .null, .null, .null, .null, .int 0, .int 0, .int 0, .int 0]))] (fun ws' => ∃ q1 q2 q3 q4 q5 q6 : Nat, ws' = [(a, .inr (3, [.ref q1, .ref q2, .ref q3, .ref q4, .ref q5, .ref q6, .int 1, .int 0, .int 0, .int 0])), (q1, .inl (y 0, 38, .inl (fun _ => 0))), (q2, .inl (y 0, 38, .inl (fun _ => 0))), (q3, .inl (y 0, 38, .inl (fun _ => 0))), (q4, .inl (y 0, 38, .inl (fun _ => 0))), (q5, .inl (y 1, 38, .inl (fun _ => 0))), (q6, .inl (y 0, 14, .inl (fun _ => 0)))]) := by
  refine w_ofN (lv0 := [(0, .ref a)]) (by decide +kernel) rfl (Nat.le_of_ble_eq_true rfl) rfl ?_
  intro Z hZ hret
  have hI := hZ.is
  refine r_aload_n 1 hI 0 dX3_init_0 rfl rfl rfl ?_
  refine r_objInit 4 wL_X3_3 hI ⟨by decide, by decide⟩ rfl dX3_init_1 rfl ?_
  refine r_aload_n 5 hI 0 dX3_init_4 rfl rfl rfl ?_
  refine r_bipush (v := 38) 7 hI dX3_init_5 rfl (by decide) ?_
  refine r_newI (N := 38) 9 hI (by decide) (by decide) dX3_init_7 rfl (fun q1 => ?_)
  refine w_eqW (ws2 := [(a, .inr (3, [.null, .null, .null, .null, .null, .null, .int 0, .int 0, .int 0, .int 0])), (q1, .inl (y 0, 38, .inl (fun _ => 0)))]) rfl ?_
  refine r_putF (kf := 0) (q0 := 0) (ws2 := [(a, .inr (3, [.ref q1, .null, .null, .null, .null, .null, .int 0, .int 0, .int 0, .int 0])), (q1, .inl (y 0, 38, .inl (fun _ => 0)))]) 12 tyX3 tyX3_ok nmX3 inX_X3 rfl (by decide) wF_X3_9 rfl rfl (Nat.le_of_ble_eq_true rfl) rfl rfl rfl rfl rfl hZ dX3_init_9 rfl ?_
  refine r_aload_n 13 hI 0 dX3_init_12 rfl rfl rfl ?_
  refine r_bipush (v := 38) 15 hI dX3_init_13 rfl (by decide) ?_
  refine r_newI (N := 38) 17 hI (by decide) (by decide) dX3_init_15 rfl (fun q2 => ?_)
  refine w_eqW (ws2 := [(a, .inr (3, [.ref q1, .null, .null, .null, .null, .null, .int 0, .int 0, .int 0, .int 0])), (q1, .inl (y 0, 38, .inl (fun _ => 0))), (q2, .inl (y 0, 38, .inl (fun _ => 0)))]) rfl ?_
  refine r_putF (kf := 1) (q0 := 0) (ws2 := [(a, .inr (3, [.ref q1, .ref q2, .null, .null, .null, .null, .int 0, .int 0, .int 0, .int 0])), (q1, .inl (y 0, 38, .inl (fun _ => 0))), (q2, .inl (y 0, 38, .inl (fun _ => 0)))]) 20 tyX3 tyX3_ok nmX3 inX_X3 rfl (by decide) wF_X3_15 rfl rfl (Nat.le_of_ble_eq_true rfl) rfl rfl rfl rfl rfl hZ dX3_init_17 rfl ?_
  refine r_aload_n 21 hI 0 dX3_init_20 rfl rfl rfl ?_
  refine r_bipush (v := 38) 23 hI dX3_init_21 rfl (by decide) ?_
  refine r_newI (N := 38) 25 hI (by decide) (by decide) dX3_init_23 rfl (fun q3 => ?_)
  refine w_eqW (ws2 := [(a, .inr (3, [.ref q1, .ref q2, .null, .null, .null, .null, .int 0, .int 0, .int 0, .int 0])), (q1, .inl (y 0, 38, .inl (fun _ => 0))), (q2, .inl (y 0, 38, .inl (fun _ => 0))), (q3, .inl (y 0, 38, .inl (fun _ => 0)))]) rfl ?_
  refine r_putF (kf := 2) (q0 := 0) (ws2 := [(a, .inr (3, [.ref q1, .ref q2, .ref q3, .null, .null, .null, .int 0, .int 0, .int 0, .int 0])), (q1, .inl (y 0, 38, .inl (fun _ => 0))), (q2, .inl (y 0, 38, .inl (fun _ => 0))), (q3, .inl (y 0, 38, .inl (fun _ => 0)))]) 28 tyX3 tyX3_ok nmX3 inX_X3 rfl (by decide) wF_X3_18 rfl rfl (Nat.le_of_ble_eq_true rfl) rfl rfl rfl rfl rfl hZ dX3_init_25 rfl ?_
  refine r_aload_n 29 hI 0 dX3_init_28 rfl rfl rfl ?_
  refine r_bipush (v := 38) 31 hI dX3_init_29 rfl (by decide) ?_
  refine r_newI (N := 38) 33 hI (by decide) (by decide) dX3_init_31 rfl (fun q4 => ?_)
  refine w_eqW (ws2 := [(a, .inr (3, [.ref q1, .ref q2, .ref q3, .null, .null, .null, .int 0, .int 0, .int 0, .int 0])), (q1, .inl (y 0, 38, .inl (fun _ => 0))), (q2, .inl (y 0, 38, .inl (fun _ => 0))), (q3, .inl (y 0, 38, .inl (fun _ => 0))), (q4, .inl (y 0, 38, .inl (fun _ => 0)))]) rfl ?_
  refine r_putF (kf := 3) (q0 := 0) (ws2 := [(a, .inr (3, [.ref q1, .ref q2, .ref q3, .ref q4, .null, .null, .int 0, .int 0, .int 0, .int 0])), (q1, .inl (y 0, 38, .inl (fun _ => 0))), (q2, .inl (y 0, 38, .inl (fun _ => 0))), (q3, .inl (y 0, 38, .inl (fun _ => 0))), (q4, .inl (y 0, 38, .inl (fun _ => 0)))]) 36 tyX3 tyX3_ok nmX3 inX_X3 rfl (by decide) wF_X3_21 rfl rfl (Nat.le_of_ble_eq_true rfl) rfl rfl rfl rfl rfl hZ dX3_init_33 rfl ?_
  refine r_aload_n 37 hI 0 dX3_init_36 rfl rfl rfl ?_
  refine r_bipush (v := 38) 39 hI dX3_init_37 rfl (by decide) ?_
  refine r_newZ (N := 38) 41 hI (by decide) (by decide) dX3_init_39 rfl (fun q5 => ?_)
  refine w_eqW (ws2 := [(a, .inr (3, [.ref q1, .ref q2, .ref q3, .ref q4, .null, .null, .int 0, .int 0, .int 0, .int 0])), (q1, .inl (y 0, 38, .inl (fun _ => 0))), (q2, .inl (y 0, 38, .inl (fun _ => 0))), (q3, .inl (y 0, 38, .inl (fun _ => 0))), (q4, .inl (y 0, 38, .inl (fun _ => 0))), (q5, .inl (y 1, 38, .inl (fun _ => 0)))]) rfl ?_
  refine r_putF (kf := 4) (q0 := 0) (ws2 := [(a, .inr (3, [.ref q1, .ref q2, .ref q3, .ref q4, .ref q5, .null, .int 0, .int 0, .int 0, .int 0])), (q1, .inl (y 0, 38, .inl (fun _ => 0))), (q2, .inl (y 0, 38, .inl (fun _ => 0))), (q3, .inl (y 0, 38, .inl (fun _ => 0))), (q4, .inl (y 0, 38, .inl (fun _ => 0))), (q5, .inl (y 1, 38, .inl (fun _ => 0)))]) 44 tyX3 tyX3_ok nmX3 inX_X3 rfl (by decide) wF_X3_24 rfl rfl (Nat.le_of_ble_eq_true rfl) rfl rfl rfl rfl rfl hZ dX3_init_41 rfl ?_
  refine r_aload_n 45 hI 0 dX3_init_44 rfl rfl rfl ?_
  refine r_bipush (v := 14) 47 hI dX3_init_45 rfl (by decide) ?_
  refine r_newI (N := 14) 49 hI (by decide) (by decide) dX3_init_47 rfl (fun q6 => ?_)
  refine w_eqW (ws2 := [(a, .inr (3, [.ref q1, .ref q2, .ref q3, .ref q4, .ref q5, .null, .int 0, .int 0, .int 0, .int 0])), (q1, .inl (y 0, 38, .inl (fun _ => 0))), (q2, .inl (y 0, 38, .inl (fun _ => 0))), (q3, .inl (y 0, 38, .inl (fun _ => 0))), (q4, .inl (y 0, 38, .inl (fun _ => 0))), (q5, .inl (y 1, 38, .inl (fun _ => 0))), (q6, .inl (y 0, 14, .inl (fun _ => 0)))]) rfl ?_
  refine r_putF (kf := 5) (q0 := 0) (ws2 := [(a, .inr (3, [.ref q1, .ref q2, .ref q3, .ref q4, .ref q5, .ref q6, .int 0, .int 0, .int 0, .int 0])), (q1, .inl (y 0, 38, .inl (fun _ => 0))), (q2, .inl (y 0, 38, .inl (fun _ => 0))), (q3, .inl (y 0, 38, .inl (fun _ => 0))), (q4, .inl (y 0, 38, .inl (fun _ => 0))), (q5, .inl (y 1, 38, .inl (fun _ => 0))), (q6, .inl (y 0, 14, .inl (fun _ => 0)))]) 52 tyX3 tyX3_ok nmX3 inX_X3 rfl (by decide) wF_X3_28 rfl rfl (Nat.le_of_ble_eq_true rfl) rfl rfl rfl rfl rfl hZ dX3_init_49 rfl ?_
  refine r_aload_n 53 hI 0 dX3_init_52 rfl rfl rfl ?_
  refine r_iconst (v := 1) 54 hI dX3_init_53 rfl (by decide) ?_
  refine r_put (kf := 6) (q0 := 0) (ws2 := [(a, .inr (3, [.ref q1, .ref q2, .ref q3, .ref q4, .ref q5, .ref q6, .int 1, .int 0, .int 0, .int 0])), (q1, .inl (y 0, 38, .inl (fun _ => 0))), (q2, .inl (y 0, 38, .inl (fun _ => 0))), (q3, .inl (y 0, 38, .inl (fun _ => 0))), (q4, .inl (y 0, 38, .inl (fun _ => 0))), (q5, .inl (y 1, 38, .inl (fun _ => 0))), (q6, .inl (y 0, 14, .inl (fun _ => 0)))]) 57 tyX3 tyX3_ok nmX3 inX_X3 rfl (by decide) wF_X3_31 rfl rfl (Nat.le_of_ble_eq_true rfl) rfl rfl rfl rfl rfl hI dX3_init_54 rfl ?_
  exact hret _ _ _ _ _ dX3_init_57 (by decide) (by decide) ⟨q1, q2, q3, q4, q5, q6, rfl⟩
set_option maxHeartbeats 4000000 in
set_option maxRecDepth 100000 in
theorem c_X2_init (a : Nat) : w_N l g y yX2_init cX2_init 1 1 2 8 [.ref a] [(a, .inr (2, [.null, .null, .int 0]))] (fun ws' => ∃ q1 q2 : Nat, ws' = [(a, .inr (2, [.ref q1, .ref q2, .int 0])), (q1, .inl (y 0, 4, .inl (fun _ => 0))), (q2, .inl (y 0, 4, .inl (fun _ => 0)))]) := by
  refine w_ofN (lv0 := [(0, .ref a)]) (by decide +kernel) rfl (Nat.le_of_ble_eq_true rfl) rfl ?_
  intro Z hZ hret
  have hI := hZ.is
  refine r_aload_n 1 hI 0 dX2_init_0 rfl rfl rfl ?_
  refine r_objInit 4 wL_X2_3 hI ⟨by decide, by decide⟩ rfl dX2_init_1 rfl ?_
  refine r_aload_n 5 hI 0 dX2_init_4 rfl rfl rfl ?_
  refine r_iconst (v := 4) 6 hI dX2_init_5 rfl (by decide) ?_
  refine r_newI (N := 4) 8 hI (by decide) (by decide) dX2_init_6 rfl (fun q1 => ?_)
  refine w_eqW (ws2 := [(a, .inr (2, [.null, .null, .int 0])), (q1, .inl (y 0, 4, .inl (fun _ => 0)))]) rfl ?_
  refine r_putF (kf := 0) (q0 := 0) (ws2 := [(a, .inr (2, [.ref q1, .null, .int 0])), (q1, .inl (y 0, 4, .inl (fun _ => 0)))]) 11 tyX2 tyX2_ok nmX2 inX_X2 rfl (by decide) wF_X2_9 rfl rfl (Nat.le_of_ble_eq_true rfl) rfl rfl rfl rfl rfl hZ dX2_init_8 rfl ?_
  refine r_aload_n 12 hI 0 dX2_init_11 rfl rfl rfl ?_
  refine r_iconst (v := 4) 13 hI dX2_init_12 rfl (by decide) ?_
  refine r_newI (N := 4) 15 hI (by decide) (by decide) dX2_init_13 rfl (fun q2 => ?_)
  refine w_eqW (ws2 := [(a, .inr (2, [.ref q1, .null, .int 0])), (q1, .inl (y 0, 4, .inl (fun _ => 0))), (q2, .inl (y 0, 4, .inl (fun _ => 0)))]) rfl ?_
  refine r_putF (kf := 1) (q0 := 0) (ws2 := [(a, .inr (2, [.ref q1, .ref q2, .int 0])), (q1, .inl (y 0, 4, .inl (fun _ => 0))), (q2, .inl (y 0, 4, .inl (fun _ => 0)))]) 18 tyX2 tyX2_ok nmX2 inX_X2 rfl (by decide) wF_X2_15 rfl rfl (Nat.le_of_ble_eq_true rfl) rfl rfl rfl rfl rfl hZ dX2_init_15 rfl ?_
  exact hret _ _ _ _ _ dX2_init_18 (by decide) (by decide) ⟨q1, q2, rfl⟩
set_option maxHeartbeats 4000000 in
set_option maxRecDepth 100000 in
theorem c_X0_init (a : Nat) : w_N l g y yX0_init cX0_init 1 1 4 88 [.ref a] [(a, .inr (0, [.null, .null, .null, .null, .int 0]))] (fun ws' => ∃ q1 q2 q3 q4 : Nat, ws' = [(a, .inr (0, [.ref q1, .ref q2, .ref q3, .ref q4, .int 0])), (q1, .inl (y 0, 38, .inl (fun _ => 0))), (q2, .inl (y 0, 38, .inl (fun _ => 0))), (q3, .inl (y 0, 6, .inl (fun _ => 0))), (q4, .inl (y 0, 6, .inl (fun _ => 0)))]) := by
  refine w_ofN (lv0 := [(0, .ref a)]) (by decide +kernel) rfl (Nat.le_of_ble_eq_true rfl) rfl ?_
  intro Z hZ hret
  have hI := hZ.is
  refine r_aload_n 1 hI 0 dX0_init_0 rfl rfl rfl ?_
  refine r_objInit 4 wL_X0_3 hI ⟨by decide, by decide⟩ rfl dX0_init_1 rfl ?_
  refine r_aload_n 5 hI 0 dX0_init_4 rfl rfl rfl ?_
  refine r_bipush (v := 38) 7 hI dX0_init_5 rfl (by decide) ?_
  refine r_newI (N := 38) 9 hI (by decide) (by decide) dX0_init_7 rfl (fun q1 => ?_)
  refine w_eqW (ws2 := [(a, .inr (0, [.null, .null, .null, .null, .int 0])), (q1, .inl (y 0, 38, .inl (fun _ => 0)))]) rfl ?_
  refine r_putF (kf := 0) (q0 := 0) (ws2 := [(a, .inr (0, [.ref q1, .null, .null, .null, .int 0])), (q1, .inl (y 0, 38, .inl (fun _ => 0)))]) 12 tyX0 tyX0_ok nmX0 inX_X0 rfl (by decide) wF_X0_9 rfl rfl (Nat.le_of_ble_eq_true rfl) rfl rfl rfl rfl rfl hZ dX0_init_9 rfl ?_
  refine r_aload_n 13 hI 0 dX0_init_12 rfl rfl rfl ?_
  refine r_bipush (v := 38) 15 hI dX0_init_13 rfl (by decide) ?_
  refine r_newI (N := 38) 17 hI (by decide) (by decide) dX0_init_15 rfl (fun q2 => ?_)
  refine w_eqW (ws2 := [(a, .inr (0, [.ref q1, .null, .null, .null, .int 0])), (q1, .inl (y 0, 38, .inl (fun _ => 0))), (q2, .inl (y 0, 38, .inl (fun _ => 0)))]) rfl ?_
  refine r_putF (kf := 1) (q0 := 0) (ws2 := [(a, .inr (0, [.ref q1, .ref q2, .null, .null, .int 0])), (q1, .inl (y 0, 38, .inl (fun _ => 0))), (q2, .inl (y 0, 38, .inl (fun _ => 0)))]) 20 tyX0 tyX0_ok nmX0 inX_X0 rfl (by decide) wF_X0_15 rfl rfl (Nat.le_of_ble_eq_true rfl) rfl rfl rfl rfl rfl hZ dX0_init_17 rfl ?_
  refine r_aload_n 21 hI 0 dX0_init_20 rfl rfl rfl ?_
  refine r_bipush (v := 6) 23 hI dX0_init_21 rfl (by decide) ?_
  refine r_newI (N := 6) 25 hI (by decide) (by decide) dX0_init_23 rfl (fun q3 => ?_)
  refine w_eqW (ws2 := [(a, .inr (0, [.ref q1, .ref q2, .null, .null, .int 0])), (q1, .inl (y 0, 38, .inl (fun _ => 0))), (q2, .inl (y 0, 38, .inl (fun _ => 0))), (q3, .inl (y 0, 6, .inl (fun _ => 0)))]) rfl ?_
  refine r_putF (kf := 2) (q0 := 0) (ws2 := [(a, .inr (0, [.ref q1, .ref q2, .ref q3, .null, .int 0])), (q1, .inl (y 0, 38, .inl (fun _ => 0))), (q2, .inl (y 0, 38, .inl (fun _ => 0))), (q3, .inl (y 0, 6, .inl (fun _ => 0)))]) 28 tyX0 tyX0_ok nmX0 inX_X0 rfl (by decide) wF_X0_18 rfl rfl (Nat.le_of_ble_eq_true rfl) rfl rfl rfl rfl rfl hZ dX0_init_25 rfl ?_
  refine r_aload_n 29 hI 0 dX0_init_28 rfl rfl rfl ?_
  refine r_bipush (v := 6) 31 hI dX0_init_29 rfl (by decide) ?_
  refine r_newI (N := 6) 33 hI (by decide) (by decide) dX0_init_31 rfl (fun q4 => ?_)
  refine w_eqW (ws2 := [(a, .inr (0, [.ref q1, .ref q2, .ref q3, .null, .int 0])), (q1, .inl (y 0, 38, .inl (fun _ => 0))), (q2, .inl (y 0, 38, .inl (fun _ => 0))), (q3, .inl (y 0, 6, .inl (fun _ => 0))), (q4, .inl (y 0, 6, .inl (fun _ => 0)))]) rfl ?_
  refine r_putF (kf := 3) (q0 := 0) (ws2 := [(a, .inr (0, [.ref q1, .ref q2, .ref q3, .ref q4, .int 0])), (q1, .inl (y 0, 38, .inl (fun _ => 0))), (q2, .inl (y 0, 38, .inl (fun _ => 0))), (q3, .inl (y 0, 6, .inl (fun _ => 0))), (q4, .inl (y 0, 6, .inl (fun _ => 0)))]) 36 tyX0 tyX0_ok nmX0 inX_X0 rfl (by decide) wF_X0_21 rfl rfl (Nat.le_of_ble_eq_true rfl) rfl rfl rfl rfl rfl hZ dX0_init_33 rfl ?_
  exact hret _ _ _ _ _ dX0_init_36 (by decide) (by decide) ⟨q1, q2, q3, q4, rfl⟩
set_option maxHeartbeats 4000000 in
set_option maxRecDepth 100000 in
theorem c_X6_init (a aB : Nat) : w_N l g y yX6_init cX6_init 2 1 1 2 [.ref a, .ref aB] [(a, .inr (6, [.null, .null, .int 0]))] (fun ws' => ∃ q1 : Nat, ws' = [(a, .inr (6, [.ref aB, .ref q1, .int 0])), (q1, .inl (y 0, 2, .inl (fun _ => 0)))]) := by
  refine w_ofN (lv0 := [(0, .ref a), (1, .ref aB)]) (by decide +kernel) rfl (Nat.le_of_ble_eq_true rfl) rfl ?_
  intro Z hZ hret
  have hI := hZ.is
  refine r_aload_n 1 hI 0 dX6_init_0 rfl rfl rfl ?_
  refine r_objInit 4 wL_X6_3 hI ⟨by decide, by decide⟩ rfl dX6_init_1 rfl ?_
  refine r_aload_n 5 hI 0 dX6_init_4 rfl rfl rfl ?_
  refine r_aload_n 6 hI 1 dX6_init_5 rfl rfl rfl ?_
  refine r_putF (kf := 0) (q0 := 0) (ws2 := [(a, .inr (6, [.ref aB, .null, .int 0]))]) 9 tyX6 tyX6_ok nmX6 inX_X6 rfl (by decide) wF_X6_9 rfl rfl (Nat.le_of_ble_eq_true rfl) rfl rfl rfl rfl rfl hZ dX6_init_6 rfl ?_
  refine r_aload_n 10 hI 0 dX6_init_9 rfl rfl rfl ?_
  refine r_iconst (v := 2) 11 hI dX6_init_10 rfl (by decide) ?_
  refine r_newI (N := 2) 13 hI (by decide) (by decide) dX6_init_11 rfl (fun q1 => ?_)
  refine w_eqW (ws2 := [(a, .inr (6, [.ref aB, .null, .int 0])), (q1, .inl (y 0, 2, .inl (fun _ => 0)))]) rfl ?_
  refine r_putF (kf := 1) (q0 := 0) (ws2 := [(a, .inr (6, [.ref aB, .ref q1, .int 0])), (q1, .inl (y 0, 2, .inl (fun _ => 0)))]) 16 tyX6 tyX6_ok nmX6 inX_X6 rfl (by decide) wF_X6_15 rfl rfl (Nat.le_of_ble_eq_true rfl) rfl rfl rfl rfl rfl hZ dX6_init_13 rfl ?_
  exact hret _ _ _ _ _ dX6_init_16 (by decide) (by decide) ⟨q1, rfl⟩
set_option maxHeartbeats 4000000 in
set_option maxRecDepth 100000 in
theorem c_X5_init (a aN aG : Nat) : w_N l g y yX5_init cX5_init 4 2 5 74 [.ref a, .ref aN, .ref aG] [(a, .inr (5, [.null, .null, .null, .null, .null]))] (fun ws' => ∃ (q1 q2 q3 q4 q5 : Nat) (f : Nat → Option Nat), (∀ j, j < 2 → f j = some (if j = 0 then q2 else q3)) ∧ ws' = [(a, .inr (5, [.ref aN, .ref aG, .ref q1, .ref q4, .ref q5])), (q1, .inl (y 2, 2, .inr (.inr (.inr (.inr f))))), (q2, .inr (1, [.int 0, .int 0, .int 0])), (q3, .inr (1, [.int 0, .int 0, .int 0])), (q4, .inl (y 0, 38, .inl (fun _ => 0))), (q5, .inl (y 0, 28, .inl (fun _ => 0)))]) := by
  refine w_ofN (lv0 := [(0, .ref a), (1, .ref aN), (2, .ref aG)]) (by decide +kernel) rfl (Nat.le_of_ble_eq_true rfl) rfl ?_
  intro Z hZ hret
  have hI := hZ.is
  refine r_aload_n 1 hI 0 dX5_init_0 rfl rfl rfl ?_
  refine r_objInit 4 wL_X5_3 hI ⟨by decide, by decide⟩ rfl dX5_init_1 rfl ?_
  refine r_aload_n 5 hI 0 dX5_init_4 rfl rfl rfl ?_
  refine r_aload_n 6 hI 1 dX5_init_5 rfl rfl rfl ?_
  refine r_putF (kf := 0) (q0 := 0) (ws2 := [(a, .inr (5, [.ref aN, .null, .null, .null, .null]))]) 9 tyX5 tyX5_ok nmX5 inX_X5 rfl (by decide) wF_X5_9 rfl rfl (Nat.le_of_ble_eq_true rfl) rfl rfl rfl rfl rfl hZ dX5_init_6 rfl ?_
  refine r_aload_n 10 hI 0 dX5_init_9 rfl rfl rfl ?_
  refine r_aload_n 11 hI 2 dX5_init_10 rfl rfl rfl ?_
  refine r_putF (kf := 1) (q0 := 0) (ws2 := [(a, .inr (5, [.ref aN, .ref aG, .null, .null, .null]))]) 14 tyX5 tyX5_ok nmX5 inX_X5 rfl (by decide) wF_X5_15 rfl rfl (Nat.le_of_ble_eq_true rfl) rfl rfl rfl rfl rfl hZ dX5_init_11 rfl ?_
  refine r_aload_n 15 hI 0 dX5_init_14 rfl rfl rfl ?_
  refine r_iconst (v := 2) 16 hI dX5_init_15 rfl (by decide) ?_
  refine r_newQ (N := 2) 19 wC_X5_19 hZ (by decide) (by decide) dX5_init_16 rfl (fun q1 => ?_)
  refine w_eqW (ws2 := [(a, .inr (5, [.ref aN, .ref aG, .null, .null, .null])), (q1, .inl (y 2, 2, .inr (.inr (.inr (.inr (fun _ => none))))))]) rfl ?_
  refine r_putF (kf := 2) (q0 := 0) (ws2 := [(a, .inr (5, [.ref aN, .ref aG, .ref q1, .null, .null])), (q1, .inl (y 2, 2, .inr (.inr (.inr (.inr (fun _ => none))))))]) 22 tyX5 tyX5_ok nmX5 inX_X5 rfl (by decide) wF_X5_21 rfl rfl (Nat.le_of_ble_eq_true rfl) rfl rfl rfl rfl rfl hZ dX5_init_19 rfl ?_
  refine r_iconst (v := 0) 23 hI dX5_init_22 rfl (by decide) ?_
  refine r_istnN 24 [(0, .ref a), (1, .ref aN), (2, .ref aG), (3, .int 0)] hI dX5_init_23 rfl rfl (by decide) rfl rfl ?_
  refine r_iload_n 25 hI 3 dX5_init_24 rfl rfl rfl ?_
  refine r_iconst (v := 2) 26 hI dX5_init_25 rfl (by decide) ?_
  refine r_icmp_ge 48 29 hI dX5_init_26 (by decide) rfl (fun h => absurd h (by decide)) (fun _ => ?_)
  refine r_aload_n 30 hI 0 dX5_init_29 rfl rfl rfl ?_
  refine r_get (kf := 2) (q0 := 0) 33 inX_X5 rfl (by decide) wF_X5_21 rfl rfl rfl hI dX5_init_30 rfl ?_
  refine r_iload_n 34 hI 3 dX5_init_33 rfl rfl rfl ?_
  refine r_new 37 [.int 0, .int 0, .int 0] inX_X1 tyX1 tyX1_ok wC_X5_19 wN_X1 wI_X1 (ci := 1) rfl (fun j hj => by rcases (show j = 0 ∨ j = 1 ∨ j = 2 by omega) with rfl | rfl | rfl <;> rfl) hI (by decide) dX5_init_34 rfl (fun q2 => ?_)
  refine r_dup 38 hI dX5_init_37 rfl rfl ?_
  refine r_callIN (av := []) (d := 1) (c_X1_init l g y q2) wM_X1_init w_nw_X5_25 hI rfl ⟨by decide, by decide⟩ rfl rfl dX5_init_38 ?_
  refine w_eqW (ws2 := [(a, .inr (5, [.ref aN, .ref aG, .ref q1, .null, .null])), (q1, .inl (y 2, 2, .inr (.inr (.inr (.inr (fun _ => none)))))), (q2, .inr (1, [.int 0, .int 0, .int 0]))]) rfl ?_
  refine r_aast (ws2 := [(a, .inr (5, [.ref aN, .ref aG, .ref q1, .null, .null])), (q1, .inl (y 2, 2, .inr (.inr (.inr (.inr (va_up (fun _ => none) (Int32.toNatClampNeg (0)) (some q2))))))), (q2, .inr (1, [.int 0, .int 0, .int 0]))]) 42 1 2 hI rfl rfl (by unfold vp_in; decide) rfl dX5_init_41 rfl ?_
  refine r_iinc 45 3 1 [(0, .ref a), (1, .ref aN), (2, .ref aG), (3, .int (0 + 1))] hI dX5_init_42 rfl rfl (by decide) (by decide) rfl rfl ?_
  refine r_goto 24 hI dX5_init_45 (by decide) ?_
  refine r_iload_n 25 hI 3 dX5_init_24 rfl rfl rfl ?_
  refine r_iconst (v := 2) 26 hI dX5_init_25 rfl (by decide) ?_
  refine r_icmp_ge 48 29 hI dX5_init_26 (by decide) rfl (fun h => absurd h (by decide)) (fun _ => ?_)
  refine r_aload_n 30 hI 0 dX5_init_29 rfl rfl rfl ?_
  refine r_get (kf := 2) (q0 := 0) 33 inX_X5 rfl (by decide) wF_X5_21 rfl rfl rfl hI dX5_init_30 rfl ?_
  refine r_iload_n 34 hI 3 dX5_init_33 rfl rfl rfl ?_
  refine r_new 37 [.int 0, .int 0, .int 0] inX_X1 tyX1 tyX1_ok wC_X5_19 wN_X1 wI_X1 (ci := 1) rfl (fun j hj => by rcases (show j = 0 ∨ j = 1 ∨ j = 2 by omega) with rfl | rfl | rfl <;> rfl) hI (by decide) dX5_init_34 rfl (fun q3 => ?_)
  refine r_dup 38 hI dX5_init_37 rfl rfl ?_
  refine r_callIN (av := []) (d := 1) (c_X1_init l g y q3) wM_X1_init w_nw_X5_25 hI rfl ⟨by decide, by decide⟩ rfl rfl dX5_init_38 ?_
  refine w_eqW (ws2 := [(a, .inr (5, [.ref aN, .ref aG, .ref q1, .null, .null])), (q1, .inl (y 2, 2, .inr (.inr (.inr (.inr (va_up (fun _ => none) (Int32.toNatClampNeg (0)) (some q2))))))), (q2, .inr (1, [.int 0, .int 0, .int 0])), (q3, .inr (1, [.int 0, .int 0, .int 0]))]) rfl ?_
  refine r_aast (ws2 := [(a, .inr (5, [.ref aN, .ref aG, .ref q1, .null, .null])), (q1, .inl (y 2, 2, .inr (.inr (.inr (.inr (va_up (va_up (fun _ => none) (Int32.toNatClampNeg (0)) (some q2)) (Int32.toNatClampNeg ((0 + 1))) (some q3))))))), (q2, .inr (1, [.int 0, .int 0, .int 0])), (q3, .inr (1, [.int 0, .int 0, .int 0]))]) 42 1 3 hI rfl rfl (by unfold vp_in; decide) rfl dX5_init_41 rfl ?_
  refine r_iinc 45 3 1 [(0, .ref a), (1, .ref aN), (2, .ref aG), (3, .int ((0 + 1) + 1))] hI dX5_init_42 rfl rfl (by decide) (by decide) rfl rfl ?_
  refine r_goto 24 hI dX5_init_45 (by decide) ?_
  refine r_iload_n 25 hI 3 dX5_init_24 rfl rfl rfl ?_
  refine r_iconst (v := 2) 26 hI dX5_init_25 rfl (by decide) ?_
  refine r_icmp_ge 48 29 hI dX5_init_26 (by decide) rfl (fun _ => ?_) (fun h => absurd (by decide) h)
  refine r_aload_n 49 hI 0 dX5_init_48 rfl rfl rfl ?_
  refine r_bipush (v := 38) 51 hI dX5_init_49 rfl (by decide) ?_
  refine r_newI (N := 38) 53 hI (by decide) (by decide) dX5_init_51 rfl (fun q4 => ?_)
  refine w_eqW (ws2 := [(a, .inr (5, [.ref aN, .ref aG, .ref q1, .null, .null])), (q1, .inl (y 2, 2, .inr (.inr (.inr (.inr (va_up (va_up (fun _ => none) (Int32.toNatClampNeg (0)) (some q2)) (Int32.toNatClampNeg ((0 + 1))) (some q3))))))), (q2, .inr (1, [.int 0, .int 0, .int 0])), (q3, .inr (1, [.int 0, .int 0, .int 0])), (q4, .inl (y 0, 38, .inl (fun _ => 0)))]) rfl ?_
  refine r_putF (kf := 3) (q0 := 0) (ws2 := [(a, .inr (5, [.ref aN, .ref aG, .ref q1, .ref q4, .null])), (q1, .inl (y 2, 2, .inr (.inr (.inr (.inr (va_up (va_up (fun _ => none) (Int32.toNatClampNeg (0)) (some q2)) (Int32.toNatClampNeg ((0 + 1))) (some q3))))))), (q2, .inr (1, [.int 0, .int 0, .int 0])), (q3, .inr (1, [.int 0, .int 0, .int 0])), (q4, .inl (y 0, 38, .inl (fun _ => 0)))]) 56 tyX5 tyX5_ok nmX5 inX_X5 rfl (by decide) wF_X5_26 rfl rfl (Nat.le_of_ble_eq_true rfl) rfl rfl rfl rfl rfl hZ dX5_init_53 rfl ?_
  refine r_aload_n 57 hI 0 dX5_init_56 rfl rfl rfl ?_
  refine r_bipush (v := 28) 59 hI dX5_init_57 rfl (by decide) ?_
  refine r_newI (N := 28) 61 hI (by decide) (by decide) dX5_init_59 rfl (fun q5 => ?_)
  refine w_eqW (ws2 := [(a, .inr (5, [.ref aN, .ref aG, .ref q1, .ref q4, .null])), (q1, .inl (y 2, 2, .inr (.inr (.inr (.inr (va_up (va_up (fun _ => none) (Int32.toNatClampNeg (0)) (some q2)) (Int32.toNatClampNeg ((0 + 1))) (some q3))))))), (q2, .inr (1, [.int 0, .int 0, .int 0])), (q3, .inr (1, [.int 0, .int 0, .int 0])), (q4, .inl (y 0, 38, .inl (fun _ => 0))), (q5, .inl (y 0, 28, .inl (fun _ => 0)))]) rfl ?_
  refine r_putF (kf := 4) (q0 := 0) (ws2 := [(a, .inr (5, [.ref aN, .ref aG, .ref q1, .ref q4, .ref q5])), (q1, .inl (y 2, 2, .inr (.inr (.inr (.inr (va_up (va_up (fun _ => none) (Int32.toNatClampNeg (0)) (some q2)) (Int32.toNatClampNeg ((0 + 1))) (some q3))))))), (q2, .inr (1, [.int 0, .int 0, .int 0])), (q3, .inr (1, [.int 0, .int 0, .int 0])), (q4, .inl (y 0, 38, .inl (fun _ => 0))), (q5, .inl (y 0, 28, .inl (fun _ => 0)))]) 64 tyX5 tyX5_ok nmX5 inX_X5 rfl (by decide) wF_X5_30 rfl rfl (Nat.le_of_ble_eq_true rfl) rfl rfl rfl rfl rfl hZ dX5_init_61 rfl ?_
  exact hret _ _ _ _ _ dX5_init_64 (by decide) (by decide) ⟨q1, q2, q3, q4, q5, _, fun j hj => by rcases (show j = 0 ∨ j = 1 by omega) with rfl | rfl <;> rfl, rfl⟩
set_option maxHeartbeats 4000000 in
set_option maxRecDepth 100000 in
theorem c_X8_init (a : Nat) : w_N l g y yX8_init cX8_init 1 1 19 448 [.ref a] [(a, .inr (8, [.int 0, .int 0, .null, .null, .null, .null, .null, .null, .null, .int 0, .int 0, .int 0, .int 0, .null, .null, .int 0, .null, .null, .int 0, .int 0, .null, .null, .null, .int 0, .null, .long 0, .int 0, .null, .null, .null, .null]))] (fun ws' => ∃ ad : Nat → Nat, ad 0 = a ∧ ws' = rw ad y (clF (fun _ _ => 0)) (fun _ _ => 0)) := by
  refine w_ofN (lv0 := [(0, .ref a)]) (by decide +kernel) rfl (Nat.le_of_ble_eq_true rfl) rfl ?_
  intro Z hZ hret
  have hI := hZ.is
  refine r_aload_n 1 hI 0 dX8_init_0 rfl rfl rfl ?_
  refine r_objInit 4 wL_X8_1 hI ⟨by decide, by decide⟩ rfl dX8_init_1 rfl ?_
  refine r_aload_n 5 hI 0 dX8_init_4 rfl rfl rfl ?_
  refine r_bipush (v := 40) 7 hI dX8_init_5 rfl (by decide) ?_
  refine r_newI (N := 40) 9 hI (by decide) (by decide) dX8_init_7 rfl (fun q1 => ?_)
  refine w_eqW (ws2 := [(a, .inr (8, [.int 0, .int 0, .null, .null, .null, .null, .null, .null, .null, .int 0, .int 0, .int 0, .int 0, .null, .null, .int 0, .null, .null, .int 0, .int 0, .null, .null, .null, .int 0, .null, .long 0, .int 0, .null, .null, .null, .null])), (q1, .inl (y 0, 40, .inl (fun _ => 0)))]) rfl ?_
  refine r_putF (kf := 2) (q0 := 0) (ws2 := [(a, .inr (8, [.int 0, .int 0, .ref q1, .null, .null, .null, .null, .null, .null, .int 0, .int 0, .int 0, .int 0, .null, .null, .int 0, .null, .null, .int 0, .int 0, .null, .null, .null, .int 0, .null, .long 0, .int 0, .null, .null, .null, .null])), (q1, .inl (y 0, 40, .inl (fun _ => 0)))]) 12 tyX8 tyX8_ok nmX8 inX_X8 rfl (by decide) wF_X8_7 rfl rfl (Nat.le_of_ble_eq_true rfl) rfl rfl rfl rfl rfl hZ dX8_init_9 rfl ?_
  refine r_aload_n 13 hI 0 dX8_init_12 rfl rfl rfl ?_
  refine r_bipush (v := 40) 15 hI dX8_init_13 rfl (by decide) ?_
  refine r_newI (N := 40) 17 hI (by decide) (by decide) dX8_init_15 rfl (fun q2 => ?_)
  refine w_eqW (ws2 := [(a, .inr (8, [.int 0, .int 0, .ref q1, .null, .null, .null, .null, .null, .null, .int 0, .int 0, .int 0, .int 0, .null, .null, .int 0, .null, .null, .int 0, .int 0, .null, .null, .null, .int 0, .null, .long 0, .int 0, .null, .null, .null, .null])), (q1, .inl (y 0, 40, .inl (fun _ => 0))), (q2, .inl (y 0, 40, .inl (fun _ => 0)))]) rfl ?_
  refine r_putF (kf := 3) (q0 := 0) (ws2 := [(a, .inr (8, [.int 0, .int 0, .ref q1, .ref q2, .null, .null, .null, .null, .null, .int 0, .int 0, .int 0, .int 0, .null, .null, .int 0, .null, .null, .int 0, .int 0, .null, .null, .null, .int 0, .null, .long 0, .int 0, .null, .null, .null, .null])), (q1, .inl (y 0, 40, .inl (fun _ => 0))), (q2, .inl (y 0, 40, .inl (fun _ => 0)))]) 20 tyX8 tyX8_ok nmX8 inX_X8 rfl (by decide) wF_X8_13 rfl rfl (Nat.le_of_ble_eq_true rfl) rfl rfl rfl rfl rfl hZ dX8_init_17 rfl ?_
  refine r_aload_n 21 hI 0 dX8_init_20 rfl rfl rfl ?_
  refine r_bipush (v := 40) 23 hI dX8_init_21 rfl (by decide) ?_
  refine r_newI (N := 40) 25 hI (by decide) (by decide) dX8_init_23 rfl (fun q3 => ?_)
  refine w_eqW (ws2 := [(a, .inr (8, [.int 0, .int 0, .ref q1, .ref q2, .null, .null, .null, .null, .null, .int 0, .int 0, .int 0, .int 0, .null, .null, .int 0, .null, .null, .int 0, .int 0, .null, .null, .null, .int 0, .null, .long 0, .int 0, .null, .null, .null, .null])), (q1, .inl (y 0, 40, .inl (fun _ => 0))), (q2, .inl (y 0, 40, .inl (fun _ => 0))), (q3, .inl (y 0, 40, .inl (fun _ => 0)))]) rfl ?_
  refine r_putF (kf := 4) (q0 := 0) (ws2 := [(a, .inr (8, [.int 0, .int 0, .ref q1, .ref q2, .ref q3, .null, .null, .null, .null, .int 0, .int 0, .int 0, .int 0, .null, .null, .int 0, .null, .null, .int 0, .int 0, .null, .null, .null, .int 0, .null, .long 0, .int 0, .null, .null, .null, .null])), (q1, .inl (y 0, 40, .inl (fun _ => 0))), (q2, .inl (y 0, 40, .inl (fun _ => 0))), (q3, .inl (y 0, 40, .inl (fun _ => 0)))]) 28 tyX8 tyX8_ok nmX8 inX_X8 rfl (by decide) wF_X8_16 rfl rfl (Nat.le_of_ble_eq_true rfl) rfl rfl rfl rfl rfl hZ dX8_init_25 rfl ?_
  refine r_aload_n 29 hI 0 dX8_init_28 rfl rfl rfl ?_
  refine r_bipush (v := 40) 31 hI dX8_init_29 rfl (by decide) ?_
  refine r_newI (N := 40) 33 hI (by decide) (by decide) dX8_init_31 rfl (fun q4 => ?_)
  refine w_eqW (ws2 := [(a, .inr (8, [.int 0, .int 0, .ref q1, .ref q2, .ref q3, .null, .null, .null, .null, .int 0, .int 0, .int 0, .int 0, .null, .null, .int 0, .null, .null, .int 0, .int 0, .null, .null, .null, .int 0, .null, .long 0, .int 0, .null, .null, .null, .null])), (q1, .inl (y 0, 40, .inl (fun _ => 0))), (q2, .inl (y 0, 40, .inl (fun _ => 0))), (q3, .inl (y 0, 40, .inl (fun _ => 0))), (q4, .inl (y 0, 40, .inl (fun _ => 0)))]) rfl ?_
  refine r_putF (kf := 5) (q0 := 0) (ws2 := [(a, .inr (8, [.int 0, .int 0, .ref q1, .ref q2, .ref q3, .ref q4, .null, .null, .null, .int 0, .int 0, .int 0, .int 0, .null, .null, .int 0, .null, .null, .int 0, .int 0, .null, .null, .null, .int 0, .null, .long 0, .int 0, .null, .null, .null, .null])), (q1, .inl (y 0, 40, .inl (fun _ => 0))), (q2, .inl (y 0, 40, .inl (fun _ => 0))), (q3, .inl (y 0, 40, .inl (fun _ => 0))), (q4, .inl (y 0, 40, .inl (fun _ => 0)))]) 36 tyX8 tyX8_ok nmX8 inX_X8 rfl (by decide) wF_X8_19 rfl rfl (Nat.le_of_ble_eq_true rfl) rfl rfl rfl rfl rfl hZ dX8_init_33 rfl ?_
  refine r_aload_n 37 hI 0 dX8_init_36 rfl rfl rfl ?_
  refine r_bipush (v := 40) 39 hI dX8_init_37 rfl (by decide) ?_
  refine r_newZ (N := 40) 41 hI (by decide) (by decide) dX8_init_39 rfl (fun q5 => ?_)
  refine w_eqW (ws2 := [(a, .inr (8, [.int 0, .int 0, .ref q1, .ref q2, .ref q3, .ref q4, .null, .null, .null, .int 0, .int 0, .int 0, .int 0, .null, .null, .int 0, .null, .null, .int 0, .int 0, .null, .null, .null, .int 0, .null, .long 0, .int 0, .null, .null, .null, .null])), (q1, .inl (y 0, 40, .inl (fun _ => 0))), (q2, .inl (y 0, 40, .inl (fun _ => 0))), (q3, .inl (y 0, 40, .inl (fun _ => 0))), (q4, .inl (y 0, 40, .inl (fun _ => 0))), (q5, .inl (y 1, 40, .inl (fun _ => 0)))]) rfl ?_
  refine r_putF (kf := 6) (q0 := 0) (ws2 := [(a, .inr (8, [.int 0, .int 0, .ref q1, .ref q2, .ref q3, .ref q4, .ref q5, .null, .null, .int 0, .int 0, .int 0, .int 0, .null, .null, .int 0, .null, .null, .int 0, .int 0, .null, .null, .null, .int 0, .null, .long 0, .int 0, .null, .null, .null, .null])), (q1, .inl (y 0, 40, .inl (fun _ => 0))), (q2, .inl (y 0, 40, .inl (fun _ => 0))), (q3, .inl (y 0, 40, .inl (fun _ => 0))), (q4, .inl (y 0, 40, .inl (fun _ => 0))), (q5, .inl (y 1, 40, .inl (fun _ => 0)))]) 44 tyX8 tyX8_ok nmX8 inX_X8 rfl (by decide) wF_X8_22 rfl rfl (Nat.le_of_ble_eq_true rfl) rfl rfl rfl rfl rfl hZ dX8_init_41 rfl ?_
  refine r_aload_n 45 hI 0 dX8_init_44 rfl rfl rfl ?_
  refine r_bipush (v := 40) 47 hI dX8_init_45 rfl (by decide) ?_
  refine r_newL (N := 40) 49 hI (by decide) (by decide) dX8_init_47 rfl (fun q6 => ?_)
  refine w_eqW (ws2 := [(a, .inr (8, [.int 0, .int 0, .ref q1, .ref q2, .ref q3, .ref q4, .ref q5, .null, .null, .int 0, .int 0, .int 0, .int 0, .null, .null, .int 0, .null, .null, .int 0, .int 0, .null, .null, .null, .int 0, .null, .long 0, .int 0, .null, .null, .null, .null])), (q1, .inl (y 0, 40, .inl (fun _ => 0))), (q2, .inl (y 0, 40, .inl (fun _ => 0))), (q3, .inl (y 0, 40, .inl (fun _ => 0))), (q4, .inl (y 0, 40, .inl (fun _ => 0))), (q5, .inl (y 1, 40, .inl (fun _ => 0))), (q6, .inl (y 3, 40, .inr (.inl (fun _ => 0))))]) rfl ?_
  refine r_putF (kf := 7) (q0 := 0) (ws2 := [(a, .inr (8, [.int 0, .int 0, .ref q1, .ref q2, .ref q3, .ref q4, .ref q5, .ref q6, .null, .int 0, .int 0, .int 0, .int 0, .null, .null, .int 0, .null, .null, .int 0, .int 0, .null, .null, .null, .int 0, .null, .long 0, .int 0, .null, .null, .null, .null])), (q1, .inl (y 0, 40, .inl (fun _ => 0))), (q2, .inl (y 0, 40, .inl (fun _ => 0))), (q3, .inl (y 0, 40, .inl (fun _ => 0))), (q4, .inl (y 0, 40, .inl (fun _ => 0))), (q5, .inl (y 1, 40, .inl (fun _ => 0))), (q6, .inl (y 3, 40, .inr (.inl (fun _ => 0))))]) 52 tyX8 tyX8_ok nmX8 inX_X8 rfl (by decide) wF_X8_26 rfl rfl (Nat.le_of_ble_eq_true rfl) rfl rfl rfl rfl rfl hZ dX8_init_49 rfl ?_
  refine r_aload_n 53 hI 0 dX8_init_52 rfl rfl rfl ?_
  refine r_bipush (v := 40) 55 hI dX8_init_53 rfl (by decide) ?_
  refine r_newL (N := 40) 57 hI (by decide) (by decide) dX8_init_55 rfl (fun q7 => ?_)
  refine w_eqW (ws2 := [(a, .inr (8, [.int 0, .int 0, .ref q1, .ref q2, .ref q3, .ref q4, .ref q5, .ref q6, .null, .int 0, .int 0, .int 0, .int 0, .null, .null, .int 0, .null, .null, .int 0, .int 0, .null, .null, .null, .int 0, .null, .long 0, .int 0, .null, .null, .null, .null])), (q1, .inl (y 0, 40, .inl (fun _ => 0))), (q2, .inl (y 0, 40, .inl (fun _ => 0))), (q3, .inl (y 0, 40, .inl (fun _ => 0))), (q4, .inl (y 0, 40, .inl (fun _ => 0))), (q5, .inl (y 1, 40, .inl (fun _ => 0))), (q6, .inl (y 3, 40, .inr (.inl (fun _ => 0)))), (q7, .inl (y 3, 40, .inr (.inl (fun _ => 0))))]) rfl ?_
  refine r_putF (kf := 8) (q0 := 0) (ws2 := [(a, .inr (8, [.int 0, .int 0, .ref q1, .ref q2, .ref q3, .ref q4, .ref q5, .ref q6, .ref q7, .int 0, .int 0, .int 0, .int 0, .null, .null, .int 0, .null, .null, .int 0, .int 0, .null, .null, .null, .int 0, .null, .long 0, .int 0, .null, .null, .null, .null])), (q1, .inl (y 0, 40, .inl (fun _ => 0))), (q2, .inl (y 0, 40, .inl (fun _ => 0))), (q3, .inl (y 0, 40, .inl (fun _ => 0))), (q4, .inl (y 0, 40, .inl (fun _ => 0))), (q5, .inl (y 1, 40, .inl (fun _ => 0))), (q6, .inl (y 3, 40, .inr (.inl (fun _ => 0)))), (q7, .inl (y 3, 40, .inr (.inl (fun _ => 0))))]) 60 tyX8 tyX8_ok nmX8 inX_X8 rfl (by decide) wF_X8_30 rfl rfl (Nat.le_of_ble_eq_true rfl) rfl rfl rfl rfl rfl hZ dX8_init_57 rfl ?_
  refine r_aload_n 61 hI 0 dX8_init_60 rfl rfl rfl ?_
  refine r_iconst (v := 4) 62 hI dX8_init_61 rfl (by decide) ?_
  refine r_newI (N := 4) 64 hI (by decide) (by decide) dX8_init_62 rfl (fun q8 => ?_)
  refine w_eqW (ws2 := [(a, .inr (8, [.int 0, .int 0, .ref q1, .ref q2, .ref q3, .ref q4, .ref q5, .ref q6, .ref q7, .int 0, .int 0, .int 0, .int 0, .null, .null, .int 0, .null, .null, .int 0, .int 0, .null, .null, .null, .int 0, .null, .long 0, .int 0, .null, .null, .null, .null])), (q1, .inl (y 0, 40, .inl (fun _ => 0))), (q2, .inl (y 0, 40, .inl (fun _ => 0))), (q3, .inl (y 0, 40, .inl (fun _ => 0))), (q4, .inl (y 0, 40, .inl (fun _ => 0))), (q5, .inl (y 1, 40, .inl (fun _ => 0))), (q6, .inl (y 3, 40, .inr (.inl (fun _ => 0)))), (q7, .inl (y 3, 40, .inr (.inl (fun _ => 0)))), (q8, .inl (y 0, 4, .inl (fun _ => 0)))]) rfl ?_
  refine r_putF (kf := 13) (q0 := 0) (ws2 := [(a, .inr (8, [.int 0, .int 0, .ref q1, .ref q2, .ref q3, .ref q4, .ref q5, .ref q6, .ref q7, .int 0, .int 0, .int 0, .int 0, .ref q8, .null, .int 0, .null, .null, .int 0, .int 0, .null, .null, .null, .int 0, .null, .long 0, .int 0, .null, .null, .null, .null])), (q1, .inl (y 0, 40, .inl (fun _ => 0))), (q2, .inl (y 0, 40, .inl (fun _ => 0))), (q3, .inl (y 0, 40, .inl (fun _ => 0))), (q4, .inl (y 0, 40, .inl (fun _ => 0))), (q5, .inl (y 1, 40, .inl (fun _ => 0))), (q6, .inl (y 3, 40, .inr (.inl (fun _ => 0)))), (q7, .inl (y 3, 40, .inr (.inl (fun _ => 0)))), (q8, .inl (y 0, 4, .inl (fun _ => 0)))]) 67 tyX8 tyX8_ok nmX8 inX_X8 rfl (by decide) wF_X8_33 rfl rfl (Nat.le_of_ble_eq_true rfl) rfl rfl rfl rfl rfl hZ dX8_init_64 rfl ?_
  refine r_aload_n 68 hI 0 dX8_init_67 rfl rfl rfl ?_
  refine r_iconst (v := 4) 69 hI dX8_init_68 rfl (by decide) ?_
  refine r_newI (N := 4) 71 hI (by decide) (by decide) dX8_init_69 rfl (fun q9 => ?_)
  refine w_eqW (ws2 := [(a, .inr (8, [.int 0, .int 0, .ref q1, .ref q2, .ref q3, .ref q4, .ref q5, .ref q6, .ref q7, .int 0, .int 0, .int 0, .int 0, .ref q8, .null, .int 0, .null, .null, .int 0, .int 0, .null, .null, .null, .int 0, .null, .long 0, .int 0, .null, .null, .null, .null])), (q1, .inl (y 0, 40, .inl (fun _ => 0))), (q2, .inl (y 0, 40, .inl (fun _ => 0))), (q3, .inl (y 0, 40, .inl (fun _ => 0))), (q4, .inl (y 0, 40, .inl (fun _ => 0))), (q5, .inl (y 1, 40, .inl (fun _ => 0))), (q6, .inl (y 3, 40, .inr (.inl (fun _ => 0)))), (q7, .inl (y 3, 40, .inr (.inl (fun _ => 0)))), (q8, .inl (y 0, 4, .inl (fun _ => 0))), (q9, .inl (y 0, 4, .inl (fun _ => 0)))]) rfl ?_
  refine r_putF (kf := 14) (q0 := 0) (ws2 := [(a, .inr (8, [.int 0, .int 0, .ref q1, .ref q2, .ref q3, .ref q4, .ref q5, .ref q6, .ref q7, .int 0, .int 0, .int 0, .int 0, .ref q8, .ref q9, .int 0, .null, .null, .int 0, .int 0, .null, .null, .null, .int 0, .null, .long 0, .int 0, .null, .null, .null, .null])), (q1, .inl (y 0, 40, .inl (fun _ => 0))), (q2, .inl (y 0, 40, .inl (fun _ => 0))), (q3, .inl (y 0, 40, .inl (fun _ => 0))), (q4, .inl (y 0, 40, .inl (fun _ => 0))), (q5, .inl (y 1, 40, .inl (fun _ => 0))), (q6, .inl (y 3, 40, .inr (.inl (fun _ => 0)))), (q7, .inl (y 3, 40, .inr (.inl (fun _ => 0)))), (q8, .inl (y 0, 4, .inl (fun _ => 0))), (q9, .inl (y 0, 4, .inl (fun _ => 0)))]) 74 tyX8 tyX8_ok nmX8 inX_X8 rfl (by decide) wF_X8_36 rfl rfl (Nat.le_of_ble_eq_true rfl) rfl rfl rfl rfl rfl hZ dX8_init_71 rfl ?_
  refine r_aload_n 75 hI 0 dX8_init_74 rfl rfl rfl ?_
  refine r_bipush (v := 6) 77 hI dX8_init_75 rfl (by decide) ?_
  refine r_newL (N := 6) 79 hI (by decide) (by decide) dX8_init_77 rfl (fun q10 => ?_)
  refine w_eqW (ws2 := [(a, .inr (8, [.int 0, .int 0, .ref q1, .ref q2, .ref q3, .ref q4, .ref q5, .ref q6, .ref q7, .int 0, .int 0, .int 0, .int 0, .ref q8, .ref q9, .int 0, .null, .null, .int 0, .int 0, .null, .null, .null, .int 0, .null, .long 0, .int 0, .null, .null, .null, .null])), (q1, .inl (y 0, 40, .inl (fun _ => 0))), (q2, .inl (y 0, 40, .inl (fun _ => 0))), (q3, .inl (y 0, 40, .inl (fun _ => 0))), (q4, .inl (y 0, 40, .inl (fun _ => 0))), (q5, .inl (y 1, 40, .inl (fun _ => 0))), (q6, .inl (y 3, 40, .inr (.inl (fun _ => 0)))), (q7, .inl (y 3, 40, .inr (.inl (fun _ => 0)))), (q8, .inl (y 0, 4, .inl (fun _ => 0))), (q9, .inl (y 0, 4, .inl (fun _ => 0))), (q10, .inl (y 3, 6, .inr (.inl (fun _ => 0))))]) rfl ?_
  refine r_putF (kf := 16) (q0 := 0) (ws2 := [(a, .inr (8, [.int 0, .int 0, .ref q1, .ref q2, .ref q3, .ref q4, .ref q5, .ref q6, .ref q7, .int 0, .int 0, .int 0, .int 0, .ref q8, .ref q9, .int 0, .ref q10, .null, .int 0, .int 0, .null, .null, .null, .int 0, .null, .long 0, .int 0, .null, .null, .null, .null])), (q1, .inl (y 0, 40, .inl (fun _ => 0))), (q2, .inl (y 0, 40, .inl (fun _ => 0))), (q3, .inl (y 0, 40, .inl (fun _ => 0))), (q4, .inl (y 0, 40, .inl (fun _ => 0))), (q5, .inl (y 1, 40, .inl (fun _ => 0))), (q6, .inl (y 3, 40, .inr (.inl (fun _ => 0)))), (q7, .inl (y 3, 40, .inr (.inl (fun _ => 0)))), (q8, .inl (y 0, 4, .inl (fun _ => 0))), (q9, .inl (y 0, 4, .inl (fun _ => 0))), (q10, .inl (y 3, 6, .inr (.inl (fun _ => 0))))]) 82 tyX8 tyX8_ok nmX8 inX_X8 rfl (by decide) wF_X8_39 rfl rfl (Nat.le_of_ble_eq_true rfl) rfl rfl rfl rfl rfl hZ dX8_init_79 rfl ?_
  refine r_aload_n 83 hI 0 dX8_init_82 rfl rfl rfl ?_
  refine r_bipush (v := 6) 85 hI dX8_init_83 rfl (by decide) ?_
  refine r_newL (N := 6) 87 hI (by decide) (by decide) dX8_init_85 rfl (fun q11 => ?_)
  refine w_eqW (ws2 := [(a, .inr (8, [.int 0, .int 0, .ref q1, .ref q2, .ref q3, .ref q4, .ref q5, .ref q6, .ref q7, .int 0, .int 0, .int 0, .int 0, .ref q8, .ref q9, .int 0, .ref q10, .null, .int 0, .int 0, .null, .null, .null, .int 0, .null, .long 0, .int 0, .null, .null, .null, .null])), (q1, .inl (y 0, 40, .inl (fun _ => 0))), (q2, .inl (y 0, 40, .inl (fun _ => 0))), (q3, .inl (y 0, 40, .inl (fun _ => 0))), (q4, .inl (y 0, 40, .inl (fun _ => 0))), (q5, .inl (y 1, 40, .inl (fun _ => 0))), (q6, .inl (y 3, 40, .inr (.inl (fun _ => 0)))), (q7, .inl (y 3, 40, .inr (.inl (fun _ => 0)))), (q8, .inl (y 0, 4, .inl (fun _ => 0))), (q9, .inl (y 0, 4, .inl (fun _ => 0))), (q10, .inl (y 3, 6, .inr (.inl (fun _ => 0)))), (q11, .inl (y 3, 6, .inr (.inl (fun _ => 0))))]) rfl ?_
  refine r_putF (kf := 17) (q0 := 0) (ws2 := [(a, .inr (8, [.int 0, .int 0, .ref q1, .ref q2, .ref q3, .ref q4, .ref q5, .ref q6, .ref q7, .int 0, .int 0, .int 0, .int 0, .ref q8, .ref q9, .int 0, .ref q10, .ref q11, .int 0, .int 0, .null, .null, .null, .int 0, .null, .long 0, .int 0, .null, .null, .null, .null])), (q1, .inl (y 0, 40, .inl (fun _ => 0))), (q2, .inl (y 0, 40, .inl (fun _ => 0))), (q3, .inl (y 0, 40, .inl (fun _ => 0))), (q4, .inl (y 0, 40, .inl (fun _ => 0))), (q5, .inl (y 1, 40, .inl (fun _ => 0))), (q6, .inl (y 3, 40, .inr (.inl (fun _ => 0)))), (q7, .inl (y 3, 40, .inr (.inl (fun _ => 0)))), (q8, .inl (y 0, 4, .inl (fun _ => 0))), (q9, .inl (y 0, 4, .inl (fun _ => 0))), (q10, .inl (y 3, 6, .inr (.inl (fun _ => 0)))), (q11, .inl (y 3, 6, .inr (.inl (fun _ => 0))))]) 90 tyX8 tyX8_ok nmX8 inX_X8 rfl (by decide) wF_X8_42 rfl rfl (Nat.le_of_ble_eq_true rfl) rfl rfl rfl rfl rfl hZ dX8_init_87 rfl ?_
  refine r_aload_n 91 hI 0 dX8_init_90 rfl rfl rfl ?_
  refine r_iconst (v := 2) 92 hI dX8_init_91 rfl (by decide) ?_
  refine r_newI (N := 2) 94 hI (by decide) (by decide) dX8_init_92 rfl (fun q12 => ?_)
  refine w_eqW (ws2 := [(a, .inr (8, [.int 0, .int 0, .ref q1, .ref q2, .ref q3, .ref q4, .ref q5, .ref q6, .ref q7, .int 0, .int 0, .int 0, .int 0, .ref q8, .ref q9, .int 0, .ref q10, .ref q11, .int 0, .int 0, .null, .null, .null, .int 0, .null, .long 0, .int 0, .null, .null, .null, .null])), (q1, .inl (y 0, 40, .inl (fun _ => 0))), (q2, .inl (y 0, 40, .inl (fun _ => 0))), (q3, .inl (y 0, 40, .inl (fun _ => 0))), (q4, .inl (y 0, 40, .inl (fun _ => 0))), (q5, .inl (y 1, 40, .inl (fun _ => 0))), (q6, .inl (y 3, 40, .inr (.inl (fun _ => 0)))), (q7, .inl (y 3, 40, .inr (.inl (fun _ => 0)))), (q8, .inl (y 0, 4, .inl (fun _ => 0))), (q9, .inl (y 0, 4, .inl (fun _ => 0))), (q10, .inl (y 3, 6, .inr (.inl (fun _ => 0)))), (q11, .inl (y 3, 6, .inr (.inl (fun _ => 0)))), (q12, .inl (y 0, 2, .inl (fun _ => 0)))]) rfl ?_
  refine r_putF (kf := 20) (q0 := 0) (ws2 := [(a, .inr (8, [.int 0, .int 0, .ref q1, .ref q2, .ref q3, .ref q4, .ref q5, .ref q6, .ref q7, .int 0, .int 0, .int 0, .int 0, .ref q8, .ref q9, .int 0, .ref q10, .ref q11, .int 0, .int 0, .ref q12, .null, .null, .int 0, .null, .long 0, .int 0, .null, .null, .null, .null])), (q1, .inl (y 0, 40, .inl (fun _ => 0))), (q2, .inl (y 0, 40, .inl (fun _ => 0))), (q3, .inl (y 0, 40, .inl (fun _ => 0))), (q4, .inl (y 0, 40, .inl (fun _ => 0))), (q5, .inl (y 1, 40, .inl (fun _ => 0))), (q6, .inl (y 3, 40, .inr (.inl (fun _ => 0)))), (q7, .inl (y 3, 40, .inr (.inl (fun _ => 0)))), (q8, .inl (y 0, 4, .inl (fun _ => 0))), (q9, .inl (y 0, 4, .inl (fun _ => 0))), (q10, .inl (y 3, 6, .inr (.inl (fun _ => 0)))), (q11, .inl (y 3, 6, .inr (.inl (fun _ => 0)))), (q12, .inl (y 0, 2, .inl (fun _ => 0)))]) 97 tyX8 tyX8_ok nmX8 inX_X8 rfl (by decide) wF_X8_45 rfl rfl (Nat.le_of_ble_eq_true rfl) rfl rfl rfl rfl rfl hZ dX8_init_94 rfl ?_
  refine r_aload_n 98 hI 0 dX8_init_97 rfl rfl rfl ?_
  refine r_iconst (v := 2) 99 hI dX8_init_98 rfl (by decide) ?_
  refine r_newI (N := 2) 101 hI (by decide) (by decide) dX8_init_99 rfl (fun q13 => ?_)
  refine w_eqW (ws2 := [(a, .inr (8, [.int 0, .int 0, .ref q1, .ref q2, .ref q3, .ref q4, .ref q5, .ref q6, .ref q7, .int 0, .int 0, .int 0, .int 0, .ref q8, .ref q9, .int 0, .ref q10, .ref q11, .int 0, .int 0, .ref q12, .null, .null, .int 0, .null, .long 0, .int 0, .null, .null, .null, .null])), (q1, .inl (y 0, 40, .inl (fun _ => 0))), (q2, .inl (y 0, 40, .inl (fun _ => 0))), (q3, .inl (y 0, 40, .inl (fun _ => 0))), (q4, .inl (y 0, 40, .inl (fun _ => 0))), (q5, .inl (y 1, 40, .inl (fun _ => 0))), (q6, .inl (y 3, 40, .inr (.inl (fun _ => 0)))), (q7, .inl (y 3, 40, .inr (.inl (fun _ => 0)))), (q8, .inl (y 0, 4, .inl (fun _ => 0))), (q9, .inl (y 0, 4, .inl (fun _ => 0))), (q10, .inl (y 3, 6, .inr (.inl (fun _ => 0)))), (q11, .inl (y 3, 6, .inr (.inl (fun _ => 0)))), (q12, .inl (y 0, 2, .inl (fun _ => 0))), (q13, .inl (y 0, 2, .inl (fun _ => 0)))]) rfl ?_
  refine r_putF (kf := 21) (q0 := 0) (ws2 := [(a, .inr (8, [.int 0, .int 0, .ref q1, .ref q2, .ref q3, .ref q4, .ref q5, .ref q6, .ref q7, .int 0, .int 0, .int 0, .int 0, .ref q8, .ref q9, .int 0, .ref q10, .ref q11, .int 0, .int 0, .ref q12, .ref q13, .null, .int 0, .null, .long 0, .int 0, .null, .null, .null, .null])), (q1, .inl (y 0, 40, .inl (fun _ => 0))), (q2, .inl (y 0, 40, .inl (fun _ => 0))), (q3, .inl (y 0, 40, .inl (fun _ => 0))), (q4, .inl (y 0, 40, .inl (fun _ => 0))), (q5, .inl (y 1, 40, .inl (fun _ => 0))), (q6, .inl (y 3, 40, .inr (.inl (fun _ => 0)))), (q7, .inl (y 3, 40, .inr (.inl (fun _ => 0)))), (q8, .inl (y 0, 4, .inl (fun _ => 0))), (q9, .inl (y 0, 4, .inl (fun _ => 0))), (q10, .inl (y 3, 6, .inr (.inl (fun _ => 0)))), (q11, .inl (y 3, 6, .inr (.inl (fun _ => 0)))), (q12, .inl (y 0, 2, .inl (fun _ => 0))), (q13, .inl (y 0, 2, .inl (fun _ => 0)))]) 104 tyX8 tyX8_ok nmX8 inX_X8 rfl (by decide) wF_X8_48 rfl rfl (Nat.le_of_ble_eq_true rfl) rfl rfl rfl rfl rfl hZ dX8_init_101 rfl ?_
  refine r_aload_n 105 hI 0 dX8_init_104 rfl rfl rfl ?_
  refine r_iconst (v := 2) 106 hI dX8_init_105 rfl (by decide) ?_
  refine r_newI (N := 2) 108 hI (by decide) (by decide) dX8_init_106 rfl (fun q14 => ?_)
  refine w_eqW (ws2 := [(a, .inr (8, [.int 0, .int 0, .ref q1, .ref q2, .ref q3, .ref q4, .ref q5, .ref q6, .ref q7, .int 0, .int 0, .int 0, .int 0, .ref q8, .ref q9, .int 0, .ref q10, .ref q11, .int 0, .int 0, .ref q12, .ref q13, .null, .int 0, .null, .long 0, .int 0, .null, .null, .null, .null])), (q1, .inl (y 0, 40, .inl (fun _ => 0))), (q2, .inl (y 0, 40, .inl (fun _ => 0))), (q3, .inl (y 0, 40, .inl (fun _ => 0))), (q4, .inl (y 0, 40, .inl (fun _ => 0))), (q5, .inl (y 1, 40, .inl (fun _ => 0))), (q6, .inl (y 3, 40, .inr (.inl (fun _ => 0)))), (q7, .inl (y 3, 40, .inr (.inl (fun _ => 0)))), (q8, .inl (y 0, 4, .inl (fun _ => 0))), (q9, .inl (y 0, 4, .inl (fun _ => 0))), (q10, .inl (y 3, 6, .inr (.inl (fun _ => 0)))), (q11, .inl (y 3, 6, .inr (.inl (fun _ => 0)))), (q12, .inl (y 0, 2, .inl (fun _ => 0))), (q13, .inl (y 0, 2, .inl (fun _ => 0))), (q14, .inl (y 0, 2, .inl (fun _ => 0)))]) rfl ?_
  refine r_putF (kf := 22) (q0 := 0) (ws2 := [(a, .inr (8, [.int 0, .int 0, .ref q1, .ref q2, .ref q3, .ref q4, .ref q5, .ref q6, .ref q7, .int 0, .int 0, .int 0, .int 0, .ref q8, .ref q9, .int 0, .ref q10, .ref q11, .int 0, .int 0, .ref q12, .ref q13, .ref q14, .int 0, .null, .long 0, .int 0, .null, .null, .null, .null])), (q1, .inl (y 0, 40, .inl (fun _ => 0))), (q2, .inl (y 0, 40, .inl (fun _ => 0))), (q3, .inl (y 0, 40, .inl (fun _ => 0))), (q4, .inl (y 0, 40, .inl (fun _ => 0))), (q5, .inl (y 1, 40, .inl (fun _ => 0))), (q6, .inl (y 3, 40, .inr (.inl (fun _ => 0)))), (q7, .inl (y 3, 40, .inr (.inl (fun _ => 0)))), (q8, .inl (y 0, 4, .inl (fun _ => 0))), (q9, .inl (y 0, 4, .inl (fun _ => 0))), (q10, .inl (y 3, 6, .inr (.inl (fun _ => 0)))), (q11, .inl (y 3, 6, .inr (.inl (fun _ => 0)))), (q12, .inl (y 0, 2, .inl (fun _ => 0))), (q13, .inl (y 0, 2, .inl (fun _ => 0))), (q14, .inl (y 0, 2, .inl (fun _ => 0)))]) 111 tyX8 tyX8_ok nmX8 inX_X8 rfl (by decide) wF_X8_51 rfl rfl (Nat.le_of_ble_eq_true rfl) rfl rfl rfl rfl rfl hZ dX8_init_108 rfl ?_
  refine r_aload_n 112 hI 0 dX8_init_111 rfl rfl rfl ?_
  refine r_iconst (v := 2) 113 hI dX8_init_112 rfl (by decide) ?_
  refine r_newI (N := 2) 115 hI (by decide) (by decide) dX8_init_113 rfl (fun q15 => ?_)
  refine w_eqW (ws2 := [(a, .inr (8, [.int 0, .int 0, .ref q1, .ref q2, .ref q3, .ref q4, .ref q5, .ref q6, .ref q7, .int 0, .int 0, .int 0, .int 0, .ref q8, .ref q9, .int 0, .ref q10, .ref q11, .int 0, .int 0, .ref q12, .ref q13, .ref q14, .int 0, .null, .long 0, .int 0, .null, .null, .null, .null])), (q1, .inl (y 0, 40, .inl (fun _ => 0))), (q2, .inl (y 0, 40, .inl (fun _ => 0))), (q3, .inl (y 0, 40, .inl (fun _ => 0))), (q4, .inl (y 0, 40, .inl (fun _ => 0))), (q5, .inl (y 1, 40, .inl (fun _ => 0))), (q6, .inl (y 3, 40, .inr (.inl (fun _ => 0)))), (q7, .inl (y 3, 40, .inr (.inl (fun _ => 0)))), (q8, .inl (y 0, 4, .inl (fun _ => 0))), (q9, .inl (y 0, 4, .inl (fun _ => 0))), (q10, .inl (y 3, 6, .inr (.inl (fun _ => 0)))), (q11, .inl (y 3, 6, .inr (.inl (fun _ => 0)))), (q12, .inl (y 0, 2, .inl (fun _ => 0))), (q13, .inl (y 0, 2, .inl (fun _ => 0))), (q14, .inl (y 0, 2, .inl (fun _ => 0))), (q15, .inl (y 0, 2, .inl (fun _ => 0)))]) rfl ?_
  refine r_putF (kf := 24) (q0 := 0) (ws2 := [(a, .inr (8, [.int 0, .int 0, .ref q1, .ref q2, .ref q3, .ref q4, .ref q5, .ref q6, .ref q7, .int 0, .int 0, .int 0, .int 0, .ref q8, .ref q9, .int 0, .ref q10, .ref q11, .int 0, .int 0, .ref q12, .ref q13, .ref q14, .int 0, .ref q15, .long 0, .int 0, .null, .null, .null, .null])), (q1, .inl (y 0, 40, .inl (fun _ => 0))), (q2, .inl (y 0, 40, .inl (fun _ => 0))), (q3, .inl (y 0, 40, .inl (fun _ => 0))), (q4, .inl (y 0, 40, .inl (fun _ => 0))), (q5, .inl (y 1, 40, .inl (fun _ => 0))), (q6, .inl (y 3, 40, .inr (.inl (fun _ => 0)))), (q7, .inl (y 3, 40, .inr (.inl (fun _ => 0)))), (q8, .inl (y 0, 4, .inl (fun _ => 0))), (q9, .inl (y 0, 4, .inl (fun _ => 0))), (q10, .inl (y 3, 6, .inr (.inl (fun _ => 0)))), (q11, .inl (y 3, 6, .inr (.inl (fun _ => 0)))), (q12, .inl (y 0, 2, .inl (fun _ => 0))), (q13, .inl (y 0, 2, .inl (fun _ => 0))), (q14, .inl (y 0, 2, .inl (fun _ => 0))), (q15, .inl (y 0, 2, .inl (fun _ => 0)))]) 118 tyX8 tyX8_ok nmX8 inX_X8 rfl (by decide) wF_X8_54 rfl rfl (Nat.le_of_ble_eq_true rfl) rfl rfl rfl rfl rfl hZ dX8_init_115 rfl ?_
  refine r_aload_n 119 hI 0 dX8_init_118 rfl rfl rfl ?_
  refine r_bipush (v := 20) 121 hI dX8_init_119 rfl (by decide) ?_
  refine r_newI (N := 20) 123 hI (by decide) (by decide) dX8_init_121 rfl (fun q16 => ?_)
  refine w_eqW (ws2 := [(a, .inr (8, [.int 0, .int 0, .ref q1, .ref q2, .ref q3, .ref q4, .ref q5, .ref q6, .ref q7, .int 0, .int 0, .int 0, .int 0, .ref q8, .ref q9, .int 0, .ref q10, .ref q11, .int 0, .int 0, .ref q12, .ref q13, .ref q14, .int 0, .ref q15, .long 0, .int 0, .null, .null, .null, .null])), (q1, .inl (y 0, 40, .inl (fun _ => 0))), (q2, .inl (y 0, 40, .inl (fun _ => 0))), (q3, .inl (y 0, 40, .inl (fun _ => 0))), (q4, .inl (y 0, 40, .inl (fun _ => 0))), (q5, .inl (y 1, 40, .inl (fun _ => 0))), (q6, .inl (y 3, 40, .inr (.inl (fun _ => 0)))), (q7, .inl (y 3, 40, .inr (.inl (fun _ => 0)))), (q8, .inl (y 0, 4, .inl (fun _ => 0))), (q9, .inl (y 0, 4, .inl (fun _ => 0))), (q10, .inl (y 3, 6, .inr (.inl (fun _ => 0)))), (q11, .inl (y 3, 6, .inr (.inl (fun _ => 0)))), (q12, .inl (y 0, 2, .inl (fun _ => 0))), (q13, .inl (y 0, 2, .inl (fun _ => 0))), (q14, .inl (y 0, 2, .inl (fun _ => 0))), (q15, .inl (y 0, 2, .inl (fun _ => 0))), (q16, .inl (y 0, 20, .inl (fun _ => 0)))]) rfl ?_
  refine r_putF (kf := 27) (q0 := 0) (ws2 := [(a, .inr (8, [.int 0, .int 0, .ref q1, .ref q2, .ref q3, .ref q4, .ref q5, .ref q6, .ref q7, .int 0, .int 0, .int 0, .int 0, .ref q8, .ref q9, .int 0, .ref q10, .ref q11, .int 0, .int 0, .ref q12, .ref q13, .ref q14, .int 0, .ref q15, .long 0, .int 0, .ref q16, .null, .null, .null])), (q1, .inl (y 0, 40, .inl (fun _ => 0))), (q2, .inl (y 0, 40, .inl (fun _ => 0))), (q3, .inl (y 0, 40, .inl (fun _ => 0))), (q4, .inl (y 0, 40, .inl (fun _ => 0))), (q5, .inl (y 1, 40, .inl (fun _ => 0))), (q6, .inl (y 3, 40, .inr (.inl (fun _ => 0)))), (q7, .inl (y 3, 40, .inr (.inl (fun _ => 0)))), (q8, .inl (y 0, 4, .inl (fun _ => 0))), (q9, .inl (y 0, 4, .inl (fun _ => 0))), (q10, .inl (y 3, 6, .inr (.inl (fun _ => 0)))), (q11, .inl (y 3, 6, .inr (.inl (fun _ => 0)))), (q12, .inl (y 0, 2, .inl (fun _ => 0))), (q13, .inl (y 0, 2, .inl (fun _ => 0))), (q14, .inl (y 0, 2, .inl (fun _ => 0))), (q15, .inl (y 0, 2, .inl (fun _ => 0))), (q16, .inl (y 0, 20, .inl (fun _ => 0)))]) 126 tyX8 tyX8_ok nmX8 inX_X8 rfl (by decide) wF_X8_57 rfl rfl (Nat.le_of_ble_eq_true rfl) rfl rfl rfl rfl rfl hZ dX8_init_123 rfl ?_
  refine r_aload_n 127 hI 0 dX8_init_126 rfl rfl rfl ?_
  refine r_bipush (v := 40) 129 hI dX8_init_127 rfl (by decide) ?_
  refine r_newI (N := 40) 131 hI (by decide) (by decide) dX8_init_129 rfl (fun q17 => ?_)
  refine w_eqW (ws2 := [(a, .inr (8, [.int 0, .int 0, .ref q1, .ref q2, .ref q3, .ref q4, .ref q5, .ref q6, .ref q7, .int 0, .int 0, .int 0, .int 0, .ref q8, .ref q9, .int 0, .ref q10, .ref q11, .int 0, .int 0, .ref q12, .ref q13, .ref q14, .int 0, .ref q15, .long 0, .int 0, .ref q16, .null, .null, .null])), (q1, .inl (y 0, 40, .inl (fun _ => 0))), (q2, .inl (y 0, 40, .inl (fun _ => 0))), (q3, .inl (y 0, 40, .inl (fun _ => 0))), (q4, .inl (y 0, 40, .inl (fun _ => 0))), (q5, .inl (y 1, 40, .inl (fun _ => 0))), (q6, .inl (y 3, 40, .inr (.inl (fun _ => 0)))), (q7, .inl (y 3, 40, .inr (.inl (fun _ => 0)))), (q8, .inl (y 0, 4, .inl (fun _ => 0))), (q9, .inl (y 0, 4, .inl (fun _ => 0))), (q10, .inl (y 3, 6, .inr (.inl (fun _ => 0)))), (q11, .inl (y 3, 6, .inr (.inl (fun _ => 0)))), (q12, .inl (y 0, 2, .inl (fun _ => 0))), (q13, .inl (y 0, 2, .inl (fun _ => 0))), (q14, .inl (y 0, 2, .inl (fun _ => 0))), (q15, .inl (y 0, 2, .inl (fun _ => 0))), (q16, .inl (y 0, 20, .inl (fun _ => 0))), (q17, .inl (y 0, 40, .inl (fun _ => 0)))]) rfl ?_
  refine r_putF (kf := 28) (q0 := 0) (ws2 := [(a, .inr (8, [.int 0, .int 0, .ref q1, .ref q2, .ref q3, .ref q4, .ref q5, .ref q6, .ref q7, .int 0, .int 0, .int 0, .int 0, .ref q8, .ref q9, .int 0, .ref q10, .ref q11, .int 0, .int 0, .ref q12, .ref q13, .ref q14, .int 0, .ref q15, .long 0, .int 0, .ref q16, .ref q17, .null, .null])), (q1, .inl (y 0, 40, .inl (fun _ => 0))), (q2, .inl (y 0, 40, .inl (fun _ => 0))), (q3, .inl (y 0, 40, .inl (fun _ => 0))), (q4, .inl (y 0, 40, .inl (fun _ => 0))), (q5, .inl (y 1, 40, .inl (fun _ => 0))), (q6, .inl (y 3, 40, .inr (.inl (fun _ => 0)))), (q7, .inl (y 3, 40, .inr (.inl (fun _ => 0)))), (q8, .inl (y 0, 4, .inl (fun _ => 0))), (q9, .inl (y 0, 4, .inl (fun _ => 0))), (q10, .inl (y 3, 6, .inr (.inl (fun _ => 0)))), (q11, .inl (y 3, 6, .inr (.inl (fun _ => 0)))), (q12, .inl (y 0, 2, .inl (fun _ => 0))), (q13, .inl (y 0, 2, .inl (fun _ => 0))), (q14, .inl (y 0, 2, .inl (fun _ => 0))), (q15, .inl (y 0, 2, .inl (fun _ => 0))), (q16, .inl (y 0, 20, .inl (fun _ => 0))), (q17, .inl (y 0, 40, .inl (fun _ => 0)))]) 134 tyX8 tyX8_ok nmX8 inX_X8 rfl (by decide) wF_X8_60 rfl rfl (Nat.le_of_ble_eq_true rfl) rfl rfl rfl rfl rfl hZ dX8_init_131 rfl ?_
  refine r_aload_n 135 hI 0 dX8_init_134 rfl rfl rfl ?_
  refine r_bipush (v := 40) 137 hI dX8_init_135 rfl (by decide) ?_
  refine r_newI (N := 40) 139 hI (by decide) (by decide) dX8_init_137 rfl (fun q18 => ?_)
  refine w_eqW (ws2 := [(a, .inr (8, [.int 0, .int 0, .ref q1, .ref q2, .ref q3, .ref q4, .ref q5, .ref q6, .ref q7, .int 0, .int 0, .int 0, .int 0, .ref q8, .ref q9, .int 0, .ref q10, .ref q11, .int 0, .int 0, .ref q12, .ref q13, .ref q14, .int 0, .ref q15, .long 0, .int 0, .ref q16, .ref q17, .null, .null])), (q1, .inl (y 0, 40, .inl (fun _ => 0))), (q2, .inl (y 0, 40, .inl (fun _ => 0))), (q3, .inl (y 0, 40, .inl (fun _ => 0))), (q4, .inl (y 0, 40, .inl (fun _ => 0))), (q5, .inl (y 1, 40, .inl (fun _ => 0))), (q6, .inl (y 3, 40, .inr (.inl (fun _ => 0)))), (q7, .inl (y 3, 40, .inr (.inl (fun _ => 0)))), (q8, .inl (y 0, 4, .inl (fun _ => 0))), (q9, .inl (y 0, 4, .inl (fun _ => 0))), (q10, .inl (y 3, 6, .inr (.inl (fun _ => 0)))), (q11, .inl (y 3, 6, .inr (.inl (fun _ => 0)))), (q12, .inl (y 0, 2, .inl (fun _ => 0))), (q13, .inl (y 0, 2, .inl (fun _ => 0))), (q14, .inl (y 0, 2, .inl (fun _ => 0))), (q15, .inl (y 0, 2, .inl (fun _ => 0))), (q16, .inl (y 0, 20, .inl (fun _ => 0))), (q17, .inl (y 0, 40, .inl (fun _ => 0))), (q18, .inl (y 0, 40, .inl (fun _ => 0)))]) rfl ?_
  refine r_putF (kf := 29) (q0 := 0) (ws2 := [(a, .inr (8, [.int 0, .int 0, .ref q1, .ref q2, .ref q3, .ref q4, .ref q5, .ref q6, .ref q7, .int 0, .int 0, .int 0, .int 0, .ref q8, .ref q9, .int 0, .ref q10, .ref q11, .int 0, .int 0, .ref q12, .ref q13, .ref q14, .int 0, .ref q15, .long 0, .int 0, .ref q16, .ref q17, .ref q18, .null])), (q1, .inl (y 0, 40, .inl (fun _ => 0))), (q2, .inl (y 0, 40, .inl (fun _ => 0))), (q3, .inl (y 0, 40, .inl (fun _ => 0))), (q4, .inl (y 0, 40, .inl (fun _ => 0))), (q5, .inl (y 1, 40, .inl (fun _ => 0))), (q6, .inl (y 3, 40, .inr (.inl (fun _ => 0)))), (q7, .inl (y 3, 40, .inr (.inl (fun _ => 0)))), (q8, .inl (y 0, 4, .inl (fun _ => 0))), (q9, .inl (y 0, 4, .inl (fun _ => 0))), (q10, .inl (y 3, 6, .inr (.inl (fun _ => 0)))), (q11, .inl (y 3, 6, .inr (.inl (fun _ => 0)))), (q12, .inl (y 0, 2, .inl (fun _ => 0))), (q13, .inl (y 0, 2, .inl (fun _ => 0))), (q14, .inl (y 0, 2, .inl (fun _ => 0))), (q15, .inl (y 0, 2, .inl (fun _ => 0))), (q16, .inl (y 0, 20, .inl (fun _ => 0))), (q17, .inl (y 0, 40, .inl (fun _ => 0))), (q18, .inl (y 0, 40, .inl (fun _ => 0)))]) 142 tyX8 tyX8_ok nmX8 inX_X8 rfl (by decide) wF_X8_63 rfl rfl (Nat.le_of_ble_eq_true rfl) rfl rfl rfl rfl rfl hZ dX8_init_139 rfl ?_
  refine r_aload_n 143 hI 0 dX8_init_142 rfl rfl rfl ?_
  refine r_bipush (v := 40) 145 hI dX8_init_143 rfl (by decide) ?_
  refine r_newI (N := 40) 147 hI (by decide) (by decide) dX8_init_145 rfl (fun q19 => ?_)
  refine w_eqW (ws2 := [(a, .inr (8, [.int 0, .int 0, .ref q1, .ref q2, .ref q3, .ref q4, .ref q5, .ref q6, .ref q7, .int 0, .int 0, .int 0, .int 0, .ref q8, .ref q9, .int 0, .ref q10, .ref q11, .int 0, .int 0, .ref q12, .ref q13, .ref q14, .int 0, .ref q15, .long 0, .int 0, .ref q16, .ref q17, .ref q18, .null])), (q1, .inl (y 0, 40, .inl (fun _ => 0))), (q2, .inl (y 0, 40, .inl (fun _ => 0))), (q3, .inl (y 0, 40, .inl (fun _ => 0))), (q4, .inl (y 0, 40, .inl (fun _ => 0))), (q5, .inl (y 1, 40, .inl (fun _ => 0))), (q6, .inl (y 3, 40, .inr (.inl (fun _ => 0)))), (q7, .inl (y 3, 40, .inr (.inl (fun _ => 0)))), (q8, .inl (y 0, 4, .inl (fun _ => 0))), (q9, .inl (y 0, 4, .inl (fun _ => 0))), (q10, .inl (y 3, 6, .inr (.inl (fun _ => 0)))), (q11, .inl (y 3, 6, .inr (.inl (fun _ => 0)))), (q12, .inl (y 0, 2, .inl (fun _ => 0))), (q13, .inl (y 0, 2, .inl (fun _ => 0))), (q14, .inl (y 0, 2, .inl (fun _ => 0))), (q15, .inl (y 0, 2, .inl (fun _ => 0))), (q16, .inl (y 0, 20, .inl (fun _ => 0))), (q17, .inl (y 0, 40, .inl (fun _ => 0))), (q18, .inl (y 0, 40, .inl (fun _ => 0))), (q19, .inl (y 0, 40, .inl (fun _ => 0)))]) rfl ?_
  refine r_putF (kf := 30) (q0 := 0) (ws2 := [(a, .inr (8, [.int 0, .int 0, .ref q1, .ref q2, .ref q3, .ref q4, .ref q5, .ref q6, .ref q7, .int 0, .int 0, .int 0, .int 0, .ref q8, .ref q9, .int 0, .ref q10, .ref q11, .int 0, .int 0, .ref q12, .ref q13, .ref q14, .int 0, .ref q15, .long 0, .int 0, .ref q16, .ref q17, .ref q18, .ref q19])), (q1, .inl (y 0, 40, .inl (fun _ => 0))), (q2, .inl (y 0, 40, .inl (fun _ => 0))), (q3, .inl (y 0, 40, .inl (fun _ => 0))), (q4, .inl (y 0, 40, .inl (fun _ => 0))), (q5, .inl (y 1, 40, .inl (fun _ => 0))), (q6, .inl (y 3, 40, .inr (.inl (fun _ => 0)))), (q7, .inl (y 3, 40, .inr (.inl (fun _ => 0)))), (q8, .inl (y 0, 4, .inl (fun _ => 0))), (q9, .inl (y 0, 4, .inl (fun _ => 0))), (q10, .inl (y 3, 6, .inr (.inl (fun _ => 0)))), (q11, .inl (y 3, 6, .inr (.inl (fun _ => 0)))), (q12, .inl (y 0, 2, .inl (fun _ => 0))), (q13, .inl (y 0, 2, .inl (fun _ => 0))), (q14, .inl (y 0, 2, .inl (fun _ => 0))), (q15, .inl (y 0, 2, .inl (fun _ => 0))), (q16, .inl (y 0, 20, .inl (fun _ => 0))), (q17, .inl (y 0, 40, .inl (fun _ => 0))), (q18, .inl (y 0, 40, .inl (fun _ => 0))), (q19, .inl (y 0, 40, .inl (fun _ => 0)))]) 150 tyX8 tyX8_ok nmX8 inX_X8 rfl (by decide) wF_X8_66 rfl rfl (Nat.le_of_ble_eq_true rfl) rfl rfl rfl rfl rfl hZ dX8_init_147 rfl ?_
  refine r_aload_n 151 hI 0 dX8_init_150 rfl rfl rfl ?_
  refine r_W (ws2 := [(a, .inr (8, [.int 0, .int 0, .ref q1, .ref q2, .ref q3, .ref q4, .ref q5, .ref q6, .ref q7, .int 0, .int 0, .int 0, .int 0, .ref q8, .ref q9, .int 0, .ref q10, .ref q11, .int 0, .int 0, .ref q12, .ref q13, .ref q14, .int 0, .ref q15, .long 0, .int 0, .ref q16, .ref q17, .ref q18, .ref q19])), (q1, .inl (y 0, 40, .inl (fun _ => 0))), (q2, .inl (y 0, 40, .inl (fun _ => 0))), (q3, .inl (y 0, 40, .inl (fun _ => 0))), (q4, .inl (y 0, 40, .inl (fun _ => 0))), (q5, .inl (y 1, 40, .inl (fun _ => 0))), (q8, .inl (y 0, 4, .inl (fun _ => 0))), (q9, .inl (y 0, 4, .inl (fun _ => 0))), (q12, .inl (y 0, 2, .inl (fun _ => 0))), (q13, .inl (y 0, 2, .inl (fun _ => 0))), (q14, .inl (y 0, 2, .inl (fun _ => 0))), (q15, .inl (y 0, 2, .inl (fun _ => 0))), (q16, .inl (y 0, 20, .inl (fun _ => 0))), (q17, .inl (y 0, 40, .inl (fun _ => 0))), (q18, .inl (y 0, 40, .inl (fun _ => 0))), (q19, .inl (y 0, 40, .inl (fun _ => 0))), (q6, .inl (y 3, 40, .inr (.inl (fun _ => 0)))), (q7, .inl (y 3, 40, .inr (.inl (fun _ => 0)))), (q10, .inl (y 3, 6, .inr (.inl (fun _ => 0)))), (q11, .inl (y 3, 6, .inr (.inl (fun _ => 0))))]) hI (wW_sub [0, 1, 2, 3, 4, 5, 8, 9, 12, 13, 14, 15, 16, 17, 18, 19, 6, 7, 10, 11] rfl rfl rfl) ?_
  refine w_eqW (ws2 := rw (fun k => ([a, q1, q2, q3, q4, q5, q8, q9, q12, q13, q14, q15, q16, q17, q18, q19, q6, q7, q10, q11] : List Nat).getD k 0) y (fun _ _ => 0) (fun _ _ => 0)) rfl ?_
  refine r_callV (c_X8_clear l g y (fun k => ([a, q1, q2, q3, q4, q5, q8, q9, q12, q13, q14, q15, q16, q17, q18, q19, q6, q7, q10, q11] : List Nat).getD k 0) (fun _ _ => 0) (fun _ _ => 0)) wM_X8_clear wL_X8_69 hI rfl ⟨by decide, by decide⟩ 0 8 rfl rfl rfl (by decide) dX8_init_151 ?_
  exact hret _ _ _ _ _ dX8_init_154 (by decide) (by decide) ⟨_, rfl, rfl⟩
end CON
