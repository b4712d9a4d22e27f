/-! what the start gives -/
section ENV
variable {s : State} {args : Array Value}
theorem lw_tb (i : Nat) {w : Cond} (h : tables_1[i]? = some w) : w ∈ lw_tbl := List.mem_append_right _ (List.mem_of_getElem? h)
theorem en_NW (hts : ∀ w ∈ lw_tbl, w.before args s = true) : w_NW s := ⟨va_Nw.of rfl (hts _ (lw_tb 131 (by decide +kernel))), va_Nw.of rfl (hts _ (lw_tb 195 (by decide +kernel))), va_Nw.of rfl (hts _ (lw_tb 261 (by decide +kernel))), va_Nw.of rfl (hts _ (lw_tb 352 (by decide +kernel))), va_Nw.of rfl (hts _ (lw_tb 559 (by decide +kernel)))⟩
theorem en_AO (hts : ∀ w ∈ lw_tbl, w.before args s = true) : va_AO xED s := va_AO.of (hts _ (lw_tb 129 (by decide +kernel)))
theorem en_VB (hts : ∀ w ∈ lw_tbl, w.before args s = true) {X : String} (h : Cond.castable X X ∈ lw_tbl) : w_VB X s := ⟨va_Nw.of rfl (hts _ h), va_Nw.of rfl (hts _ (lw_tb 284 (by decide +kernel))), va_Nw.of rfl (hts _ (lw_tb 286 (by decide +kernel))), va_Nw.of rfl (hts _ (lw_tb 288 (by decide +kernel)))⟩
theorem en_R {own tx : String} {k : Nat} (h1 : (Cond.stringRef own k tx).before args s = true) (h2 : (Cond.exactly (Term.string own k) "java/lang/String").before args s = true) : ∃ sa, vk_R own k tx sa s := by
  obtain ⟨a, -, -, -, ha, -⟩ := Cond.exactly_spec h2
  exact ⟨a, vk_R.of h1 ha⟩
theorem en_strs (hts : ∀ w ∈ lw_tbl, w.before args s = true) (hg : (Jvm.Cond.and given_1 narrow_1).before args s = true) : ∀ q ∈ w_strs, ∃ sa, vk_R RX7 q.1 q.2 sa s := by
  have hs := flat_of_before _ hg
  unfold w_strs
  exact List.forall_mem_cons.mpr ⟨en_R (hts _ (lw_tb 321 (by decide +kernel))) (hs _ (by decide +kernel)), List.forall_mem_cons.mpr ⟨en_R (hts _ (lw_tb 376 (by decide +kernel))) (hs _ (by decide +kernel)), List.forall_mem_cons.mpr ⟨en_R (hts _ (lw_tb 383 (by decide +kernel))) (hs _ (by decide +kernel)), List.forall_mem_cons.mpr ⟨en_R (hts _ (lw_tb 397 (by decide +kernel))) (hs _ (by decide +kernel)), List.forall_mem_cons.mpr ⟨en_R (hts _ (lw_tb 423 (by decide +kernel))) (hs _ (by decide +kernel)), List.forall_mem_cons.mpr ⟨en_R (hts _ (lw_tb 424 (by decide +kernel))) (hs _ (by decide +kernel)), List.forall_mem_cons.mpr ⟨en_R (hts _ (lw_tb 436 (by decide +kernel))) (hs _ (by decide +kernel)), List.forall_mem_cons.mpr ⟨en_R (hts _ (lw_tb 437 (by decide +kernel))) (hs _ (by decide +kernel)), List.forall_mem_cons.mpr ⟨en_R (hts _ (lw_tb 457 (by decide +kernel))) (hs _ (by decide +kernel)), List.forall_mem_cons.mpr ⟨en_R (hts _ (lw_tb 487 (by decide +kernel))) (hs _ (by decide +kernel)), List.forall_mem_cons.mpr ⟨en_R (hts _ (lw_tb 500 (by decide +kernel))) (hs _ (by decide +kernel)), List.forall_mem_cons.mpr ⟨en_R (hts _ (lw_tb 512 (by decide +kernel))) (hs _ (by decide +kernel)), List.forall_mem_cons.mpr ⟨en_R (hts _ (lw_tb 524 (by decide +kernel))) (hs _ (by decide +kernel)), List.forall_mem_cons.mpr ⟨en_R (hts _ (lw_tb 611 (by decide +kernel))) (hs _ (by decide +kernel)), List.forall_mem_cons.mpr ⟨en_R (hts _ (lw_tb 612 (by decide +kernel))) (hs _ (by decide +kernel)), List.forall_mem_cons.mpr ⟨en_R (hts _ (lw_tb 613 (by decide +kernel))) (hs _ (by decide +kernel)), List.forall_mem_cons.mpr ⟨en_R (hts _ (lw_tb 635 (by decide +kernel))) (hs _ (by decide +kernel)), List.forall_mem_cons.mpr ⟨en_R (hts _ (lw_tb 649 (by decide +kernel))) (hs _ (by decide +kernel)), fun _ h => absurd h List.not_mem_nil⟩⟩⟩⟩⟩⟩⟩⟩⟩⟩⟩⟩⟩⟩⟩⟩⟩⟩
theorem en_V (hts : ∀ w ∈ lw_tbl, w.before args s = true) (hg : (Jvm.Cond.and given_1 narrow_1).before args s = true) : w_V s := by
  have hs := flat_of_before _ hg
  exact ⟨⟨en_VB hts (lw_tb 369 (by decide +kernel)), en_VB hts (lw_tb 282 (by decide +kernel)), en_VB hts (lw_tb 390 (by decide +kernel))⟩, ⟨va_Nc.of (hs _ (by decide +kernel)), va_Nc.of (hs _ (by decide +kernel)), va_Nc.of (hs _ (by decide +kernel)), va_Nc.of (hs _ (by decide +kernel))⟩, en_strs hts hg⟩
theorem en_E (hts : ∀ w ∈ lw_tbl, w.before args s = true) (hg : (Jvm.Cond.and given_1 narrow_1).before args s = true) {A : Nat → Prop} (hA : ∀ a : Nat, a < s.heap.size → ¬ A a) : w_E A s s.heap := by
  have hs := flat_of_before _ hg
  obtain ⟨tI, e1, e2⟩ := va_Tof (args := args) (tm := .static "LeastEdits" "INPUT_COLUMNS" "[I") (ty := .int) (N := 5) (f := fun j => .int (icol j)) (A := A) (by decide) (hs (.arrayOf (.static "LeastEdits" "INPUT_COLUMNS" "[I") .int) (by decide +kernel)) (Cond.eq_int (hs (.eq (.length (.static "LeastEdits" "INPUT_COLUMNS" "[I")) (.int 5)) (by decide +kernel)) rfl) (fun j hj => by
    rcases (show j = 0 ∨ j = 1 ∨ j = 2 ∨ j = 3 ∨ j = 4 by omega) with rfl | rfl | rfl | rfl | rfl
    · exact Cond.eq_int (hs (.eq (.elem (.static "LeastEdits" "INPUT_COLUMNS" "[I") (.int 0)) (.int (-1431655766))) (by decide +kernel)) rfl
    · exact Cond.eq_int (hs (.eq (.elem (.static "LeastEdits" "INPUT_COLUMNS" "[I") (.int 1)) (.int (-858993460))) (by decide +kernel)) rfl
    · exact Cond.eq_int (hs (.eq (.elem (.static "LeastEdits" "INPUT_COLUMNS" "[I") (.int 2)) (.int (-252645136))) (by decide +kernel)) rfl
    · exact Cond.eq_int (hs (.eq (.elem (.static "LeastEdits" "INPUT_COLUMNS" "[I") (.int 3)) (.int (-16711936))) (by decide +kernel)) rfl
    · exact Cond.eq_int (hs (.eq (.elem (.static "LeastEdits" "INPUT_COLUMNS" "[I") (.int 4)) (.int (-65536))) (by decide +kernel)) rfl) hA
  exact ⟨en_V hts hg, vx_Zqof (hts _ (lw_tb 307 (by decide +kernel))) (hts _ (lw_tb 10 (by decide +kernel))) (hs _ (by decide +kernel)) hA, vx_Zqof (hts _ (lw_tb 309 (by decide +kernel))) (hts _ (lw_tb 10 (by decide +kernel))) (hs _ (by decide +kernel)) hA, tI, va_Zref (hts _ (lw_tb 353 (by decide +kernel))) (hts _ (lw_tb 1 (by decide +kernel))) e1 hA, e2⟩
theorem en_arr (hts : ∀ w ∈ lw_tbl, w.before args s = true) {ty : FieldType} (h : Cond.arrayClass ty ∈ lw_tbl) : ∃ c : ClassId, ArrOfT s c ty ∧ s.vm.findClass ("[" ++ ty.toString) = some c := by
  obtain ⟨c, k, comp, h1, h2, h3⟩ := Cond.arrayClass_spec (hts _ h)
  exact ⟨c, fun n z => ⟨fun k h => (by cases h), k, h2, comp, h3⟩, h1⟩
theorem en_K (hts : ∀ w ∈ lw_tbl, w.before args s = true) : ∃ (g : va_G) (y : Nat → ClassId), va_K g vwCl (w_ty y) s := by
  have hu : ∀ w ∈ UW, w.before args s = true := fun w h => hts w (uw_tb h)
  have hk : ∀ k : Nat, ∃ pr : ClassId × (Nat → Nat), ∀ q, vwCl[k]? = some q → u_Kn s q.1 q.2.1 q.2.2 pr.1 pr.2 := by
    intro k
    match k with
    | 0 => obtain ⟨c, i, h⟩ := u_known hu inX_X0 (hu _ wN_X0); exact ⟨(c, i), fun q hq => by cases hq; exact h⟩
    | 1 => obtain ⟨c, i, h⟩ := u_known hu inX_X1 (hu _ wN_X1); exact ⟨(c, i), fun q hq => by cases hq; exact h⟩
    | 2 => obtain ⟨c, i, h⟩ := u_known hu inX_X2 (hu _ wN_X2); exact ⟨(c, i), fun q hq => by cases hq; exact h⟩
    | 3 => obtain ⟨c, i, h⟩ := u_known hu inX_X3 (hu _ wN_X3); exact ⟨(c, i), fun q hq => by cases hq; exact h⟩
    | 4 => obtain ⟨c, i, h⟩ := u_known hu inX_X4 (hu _ wN_X4); exact ⟨(c, i), fun q hq => by cases hq; exact h⟩
    | 5 => obtain ⟨c, i, h⟩ := u_known hu inX_X5 (hu _ wN_X5); exact ⟨(c, i), fun q hq => by cases hq; exact h⟩
    | 6 => obtain ⟨c, i, h⟩ := u_known hu inX_X6 (hu _ wN_X6); exact ⟨(c, i), fun q hq => by cases hq; exact h⟩
    | 7 => obtain ⟨c, i, h⟩ := u_known hu inX_X7 (hu _ wN_X7); exact ⟨(c, i), fun q hq => by cases hq; exact h⟩
    | 8 => obtain ⟨c, i, h⟩ := u_known hu inX_X8 (hu _ wN_X8); exact ⟨(c, i), fun q hq => by cases hq; exact h⟩
    | k + 9 => exact ⟨(0, fun _ => 0), fun q hq => by simp [vwCl] at hq⟩
  obtain ⟨d, hd⟩ := Classical.axiomOfChoice hk
  obtain ⟨y0, a0, b0⟩ := en_arr hts (uw_tb wA_int)
  obtain ⟨y1, a1, b1⟩ := en_arr hts (uw_tb wA_boolean)
  obtain ⟨y3, a3, b3⟩ := en_arr hts (uw_tb wA_long)
  obtain ⟨comp, y2, k2, h1, -, h3, h4, h5⟩ := Cond.arrayOver_spec (n := "LeastEdits$Edit") (hts _ (lw_tb 129 (by decide +kernel)))
  refine ⟨(fun k => (d k).1, fun k => (d k).2), fun k => match k with | 0 => y0 | 1 => y1 | 2 => y2 | _ => y3, fun c q hq => hd c q hq, fun k q hq => ?_⟩
  match k, hq with
  | 0, hq => cases hq; exact ⟨a0, b0⟩
  | 1, hq => cases hq; exact ⟨a1, b1⟩
  | 2, hq => cases hq; exact ⟨fun n z => ⟨fun k h => (by cases h), k2, h3, comp, h4⟩, k2, comp, h3, h4, h1, h5⟩
  | 3, hq => cases hq; exact ⟨a3, b3⟩
end ENV
