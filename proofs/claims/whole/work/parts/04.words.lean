def UW : List Cond := lw_tbl.filter goodWord
theorem uw_at (i : Nat) {w : Cond} (h : tables_1[i]? = some w) (g : goodWord w = true) : w ∈ UW := List.mem_filter.mpr ⟨List.mem_append_right _ (List.mem_of_getElem? h), g⟩
theorem uw_sel (i : Nat) {w : Cond} (h : (k2_sels lw_privs)[i]? = some w) (g : goodWord w = true) : w ∈ UW := List.mem_filter.mpr ⟨List.mem_append_left _ (List.mem_of_getElem? h), g⟩
theorem uw_tb {w : Cond} (h : w ∈ UW) : w ∈ lw_tbl := (List.mem_filter.mp h).1
theorem uw_gd {w : Cond} (h : w ∈ UW) : goodWord w = true := (List.mem_filter.mp h).2
theorem uw_in {w : Cond} (h : w ∈ UW) : GoodIn UW [w] := fun v hv => by rw [List.mem_singleton.mp hv]; exact ⟨h, good_of_word (uw_gd h)⟩
theorem uw_self : GoodIn UW UW := fun _ h => ⟨h, good_of_word (uw_gd h)⟩
theorem uw_cons {w : Cond} {ws : List Cond} (h : w ∈ UW) (g : GoodIn UW ws) : GoodIn UW (w :: ws) := fun v hv => (List.mem_cons.mp hv).elim (fun e => by rw [e]; exact ⟨h, good_of_word (uw_gd h)⟩) (g v)
def w_MV (yN : MethodName) (cc : ByteArray) (mL : Nat) (ret : Option FieldType) (n : Nat) : Prop := Cond.instanceMethod yN ∈ UW ∧ Cond.selects yN.cls yN yN ∈ UW ∧ Cond.initialized yN.cls ∈ UW ∧ Cond.code yN cc mL ret ∈ UW ∧ (yN.cls ≠ "java/lang/invoke/MethodHandle" ∧ yN.cls ≠ "java/lang/invoke/VarHandle" ∧ (parseMethodDescriptor yN.desc).map (fun d => d.parameters.length) = some n)
def w_MS (yN : MethodName) (cc : ByteArray) (mL : Nat) (ret : Option FieldType) (n : Nat) : Prop := Cond.static yN ∈ UW ∧ Cond.initialized yN.cls ∈ UW ∧ Cond.code yN cc mL ret ∈ UW ∧ (yN.cls ≠ "java/lang/invoke/MethodHandle" ∧ yN.cls ≠ "java/lang/invoke/VarHandle" ∧ (parseMethodDescriptor yN.desc).map (fun d => d.parameters.length) = some n)
def w_MI (yN : MethodName) (cc : ByteArray) (mL : Nat) (n : Nat) : Prop := Cond.instanceMethod yN ∈ UW ∧ Cond.initialized yN.cls ∈ UW ∧ Cond.code yN cc mL none ∈ UW ∧ (yN.name = "<init>" ∧ yN.cls ≠ "java/lang/invoke/MethodHandle" ∧ yN.cls ≠ "java/lang/invoke/VarHandle" ∧ (parseMethodDescriptor yN.desc).map (fun d => d.parameters.length) = some n)
theorem wF_X3_9 : Cond.fieldLink RX3 9 "LeastEdits$Net" "kind" "[I" ∈ UW := uw_at 32 (by decide +kernel) rfl
theorem wF_X3_15 : Cond.fieldLink RX3 15 "LeastEdits$Net" "first" "[I" ∈ UW := uw_at 33 (by decide +kernel) rfl
theorem wF_X4_29 : Cond.fieldLink RX4 29 "LeastEdits$Net" "first" "[I" ∈ UW := uw_at 34 (by decide +kernel) rfl
theorem wF_X5_109 : Cond.fieldLink RX5 109 "LeastEdits$Net" "first" "[I" ∈ UW := uw_at 35 (by decide +kernel) rfl
theorem wF_X7_232 : Cond.fieldLink RX7 232 "LeastEdits$Net" "first" "[I" ∈ UW := uw_at 36 (by decide +kernel) rfl
theorem wF_X3_18 : Cond.fieldLink RX3 18 "LeastEdits$Net" "second" "[I" ∈ UW := uw_at 37 (by decide +kernel) rfl
theorem wF_X4_34 : Cond.fieldLink RX4 34 "LeastEdits$Net" "second" "[I" ∈ UW := uw_at 38 (by decide +kernel) rfl
theorem wF_X5_116 : Cond.fieldLink RX5 116 "LeastEdits$Net" "second" "[I" ∈ UW := uw_at 39 (by decide +kernel) rfl
theorem wF_X7_234 : Cond.fieldLink RX7 234 "LeastEdits$Net" "second" "[I" ∈ UW := uw_at 40 (by decide +kernel) rfl
theorem wF_X3_21 : Cond.fieldLink RX3 21 "LeastEdits$Net" "columns" "[I" ∈ UW := uw_at 41 (by decide +kernel) rfl
theorem wF_X5_49 : Cond.fieldLink RX5 49 "LeastEdits$Net" "columns" "[I" ∈ UW := uw_at 42 (by decide +kernel) rfl
theorem wF_X7_127 : Cond.fieldLink RX7 127 "LeastEdits$Net" "columns" "[I" ∈ UW := uw_at 43 (by decide +kernel) rfl
theorem wF_X3_24 : Cond.fieldLink RX3 24 "LeastEdits$Net" "kept" "[Z" ∈ UW := uw_at 44 (by decide +kernel) rfl
theorem wF_X5_78 : Cond.fieldLink RX5 78 "LeastEdits$Net" "kept" "[Z" ∈ UW := uw_at 45 (by decide +kernel) rfl
theorem wF_X7_152 : Cond.fieldLink RX7 152 "LeastEdits$Net" "kept" "[Z" ∈ UW := uw_at 46 (by decide +kernel) rfl
theorem wF_X3_28 : Cond.fieldLink RX3 28 "LeastEdits$Net" "own" "[I" ∈ UW := uw_at 47 (by decide +kernel) rfl
theorem wF_X5_68 : Cond.fieldLink RX5 68 "LeastEdits$Net" "own" "[I" ∈ UW := uw_at 48 (by decide +kernel) rfl
theorem wF_X3_31 : Cond.fieldLink RX3 31 "LeastEdits$Net" "nodes" "I" ∈ UW := uw_at 49 (by decide +kernel) rfl
theorem wF_X5_54 : Cond.fieldLink RX5 54 "LeastEdits$Net" "nodes" "I" ∈ UW := uw_at 50 (by decide +kernel) rfl
theorem wF_X7_99 : Cond.fieldLink RX7 99 "LeastEdits$Net" "nodes" "I" ∈ UW := uw_at 51 (by decide +kernel) rfl
theorem wF_X7_59 : Cond.fieldLink RX7 59 "LeastEdits$Net" "inputs" "I" ∈ UW := uw_at 52 (by decide +kernel) rfl
theorem wF_X3_35 : Cond.fieldLink RX3 35 "LeastEdits$Net" "inputs" "I" ∈ UW := uw_at 53 (by decide +kernel) rfl
theorem wF_X3_38 : Cond.fieldLink RX3 38 "LeastEdits$Net" "olds" "I" ∈ UW := uw_at 54 (by decide +kernel) rfl
theorem wF_X7_62 : Cond.fieldLink RX7 62 "LeastEdits$Net" "olds" "I" ∈ UW := uw_at 55 (by decide +kernel) rfl
theorem wF_X3_41 : Cond.fieldLink RX3 41 "LeastEdits$Net" "askeds" "I" ∈ UW := uw_at 56 (by decide +kernel) rfl
theorem wF_X7_65 : Cond.fieldLink RX7 65 "LeastEdits$Net" "askeds" "I" ∈ UW := uw_at 57 (by decide +kernel) rfl
theorem wF_X2_9 : Cond.fieldLink RX2 9 "LeastEdits$Goals" "mine" "[I" ∈ UW := uw_at 87 (by decide +kernel) rfl
theorem wF_X2_15 : Cond.fieldLink RX2 15 "LeastEdits$Goals" "due" "[I" ∈ UW := uw_at 88 (by decide +kernel) rfl
theorem wF_X2_18 : Cond.fieldLink RX2 18 "LeastEdits$Goals" "size" "I" ∈ UW := uw_at 89 (by decide +kernel) rfl
theorem wF_X7_117 : Cond.fieldLink RX7 117 "LeastEdits$Goals" "size" "I" ∈ UW := uw_at 90 (by decide +kernel) rfl
theorem wF_X0_9 : Cond.fieldLink RX0 9 "LeastEdits$Board" "nodeX" "[I" ∈ UW := uw_at 104 (by decide +kernel) rfl
theorem wF_X0_15 : Cond.fieldLink RX0 15 "LeastEdits$Board" "nodeY" "[I" ∈ UW := uw_at 105 (by decide +kernel) rfl
theorem wF_X0_18 : Cond.fieldLink RX0 18 "LeastEdits$Board" "spareX" "[I" ∈ UW := uw_at 106 (by decide +kernel) rfl
theorem wF_X0_21 : Cond.fieldLink RX0 21 "LeastEdits$Board" "spareY" "[I" ∈ UW := uw_at 107 (by decide +kernel) rfl
theorem wF_X6_36 : Cond.fieldLink RX6 36 "LeastEdits$Board" "spares" "I" ∈ UW := uw_at 108 (by decide +kernel) rfl
theorem wF_X0_24 : Cond.fieldLink RX0 24 "LeastEdits$Board" "spares" "I" ∈ UW := uw_at 109 (by decide +kernel) rfl
theorem wF_X7_166 : Cond.fieldLink RX7 166 "LeastEdits$Board" "spares" "I" ∈ UW := uw_at 110 (by decide +kernel) rfl
theorem wF_X1_7 : Cond.fieldLink RX1 7 "LeastEdits$Edit" "node" "I" ∈ UW := uw_at 135 (by decide +kernel) rfl
theorem wF_X4_22 : Cond.fieldLink RX4 22 "LeastEdits$Edit" "node" "I" ∈ UW := uw_at 136 (by decide +kernel) rfl
theorem wF_X6_23 : Cond.fieldLink RX6 23 "LeastEdits$Edit" "node" "I" ∈ UW := uw_at 137 (by decide +kernel) rfl
theorem wF_X3_59 : Cond.fieldLink RX3 59 "LeastEdits$Edit" "node" "I" ∈ UW := uw_at 138 (by decide +kernel) rfl
theorem wF_X7_193 : Cond.fieldLink RX7 193 "LeastEdits$Edit" "node" "I" ∈ UW := uw_at 139 (by decide +kernel) rfl
theorem wF_X1_13 : Cond.fieldLink RX1 13 "LeastEdits$Edit" "first" "I" ∈ UW := uw_at 140 (by decide +kernel) rfl
theorem wF_X3_64 : Cond.fieldLink RX3 64 "LeastEdits$Edit" "first" "I" ∈ UW := uw_at 141 (by decide +kernel) rfl
theorem wF_X7_198 : Cond.fieldLink RX7 198 "LeastEdits$Edit" "first" "I" ∈ UW := uw_at 142 (by decide +kernel) rfl
theorem wF_X1_16 : Cond.fieldLink RX1 16 "LeastEdits$Edit" "second" "I" ∈ UW := uw_at 143 (by decide +kernel) rfl
theorem wF_X3_66 : Cond.fieldLink RX3 66 "LeastEdits$Edit" "second" "I" ∈ UW := uw_at 144 (by decide +kernel) rfl
theorem wF_X7_201 : Cond.fieldLink RX7 201 "LeastEdits$Edit" "second" "I" ∈ UW := uw_at 145 (by decide +kernel) rfl
theorem wF_X5_9 : Cond.fieldLink RX5 9 "LeastEdits$Search" "net" "LLeastEdits$Net;" ∈ UW := uw_at 153 (by decide +kernel) rfl
theorem wF_X5_15 : Cond.fieldLink RX5 15 "LeastEdits$Search" "goals" "LLeastEdits$Goals;" ∈ UW := uw_at 154 (by decide +kernel) rfl
theorem wF_X5_21 : Cond.fieldLink RX5 21 "LeastEdits$Search" "edits" "[LLeastEdits$Edit;" ∈ UW := uw_at 155 (by decide +kernel) rfl
theorem wF_X7_179 : Cond.fieldLink RX7 179 "LeastEdits$Search" "edits" "[LLeastEdits$Edit;" ∈ UW := uw_at 156 (by decide +kernel) rfl
theorem wF_X5_26 : Cond.fieldLink RX5 26 "LeastEdits$Search" "trial" "[I" ∈ UW := uw_at 157 (by decide +kernel) rfl
theorem wF_X5_30 : Cond.fieldLink RX5 30 "LeastEdits$Search" "shown" "[I" ∈ UW := uw_at 158 (by decide +kernel) rfl
theorem wF_X6_9 : Cond.fieldLink RX6 9 "LeastEdits$Taking" "board" "LLeastEdits$Board;" ∈ UW := uw_at 176 (by decide +kernel) rfl
theorem wF_X6_15 : Cond.fieldLink RX6 15 "LeastEdits$Taking" "spareOf" "[I" ∈ UW := uw_at 177 (by decide +kernel) rfl
theorem wF_X7_204 : Cond.fieldLink RX7 204 "LeastEdits$Taking" "spareOf" "[I" ∈ UW := uw_at 178 (by decide +kernel) rfl
theorem wF_X6_19 : Cond.fieldLink RX6 19 "LeastEdits$Taking" "sum" "I" ∈ UW := uw_at 179 (by decide +kernel) rfl
theorem wF_X7_207 : Cond.fieldLink RX7 207 "LeastEdits$Taking" "sum" "I" ∈ UW := uw_at 180 (by decide +kernel) rfl
theorem wF_X4_11 : Cond.fieldLink RX4 11 "LeastEdits$Past" "before" "[LLeastEdits$Edit;" ∈ UW := uw_at 196 (by decide +kernel) rfl
theorem wF_X4_18 : Cond.fieldLink RX4 18 "LeastEdits$Past" "sizes" "[I" ∈ UW := uw_at 197 (by decide +kernel) rfl
theorem wF_X4_26 : Cond.fieldLink RX4 26 "LeastEdits$Past" "made" "I" ∈ UW := uw_at 198 (by decide +kernel) rfl
theorem wF_X7_210 : Cond.fieldLink RX7 210 "LeastEdits$Past" "made" "I" ∈ UW := uw_at 199 (by decide +kernel) rfl
theorem wF_X7_12 : Cond.fieldLink RX7 12 "LeastEdits" "net" "LLeastEdits$Net;" ∈ UW := uw_at 207 (by decide +kernel) rfl
theorem wF_X7_19 : Cond.fieldLink RX7 19 "LeastEdits" "goals" "LLeastEdits$Goals;" ∈ UW := uw_at 208 (by decide +kernel) rfl
theorem wF_X7_26 : Cond.fieldLink RX7 26 "LeastEdits" "board" "LLeastEdits$Board;" ∈ UW := uw_at 209 (by decide +kernel) rfl
theorem wF_X7_35 : Cond.fieldLink RX7 35 "LeastEdits" "search" "LLeastEdits$Search;" ∈ UW := uw_at 210 (by decide +kernel) rfl
theorem wF_X7_44 : Cond.fieldLink RX7 44 "LeastEdits" "taking" "LLeastEdits$Taking;" ∈ UW := uw_at 211 (by decide +kernel) rfl
theorem wF_X7_51 : Cond.fieldLink RX7 51 "LeastEdits" "past" "LLeastEdits$Past;" ∈ UW := uw_at 212 (by decide +kernel) rfl
theorem wF_X7_55 : Cond.fieldLink RX7 55 "LeastEdits" "ran" "I" ∈ UW := uw_at 213 (by decide +kernel) rfl
theorem wF_X8_72 : Cond.fieldLink RX8 72 "LeastEditsModel" "thrown" "I" ∈ UW := uw_at 671 (by decide +kernel) rfl
theorem wF_X8_76 : Cond.fieldLink RX8 76 "LeastEditsModel" "nodes" "I" ∈ UW := uw_at 672 (by decide +kernel) rfl
theorem wF_X8_7 : Cond.fieldLink RX8 7 "LeastEditsModel" "sorts" "[I" ∈ UW := uw_at 673 (by decide +kernel) rfl
theorem wF_X8_13 : Cond.fieldLink RX8 13 "LeastEditsModel" "ones" "[I" ∈ UW := uw_at 674 (by decide +kernel) rfl
theorem wF_X8_16 : Cond.fieldLink RX8 16 "LeastEditsModel" "twos" "[I" ∈ UW := uw_at 675 (by decide +kernel) rfl
theorem wF_X8_19 : Cond.fieldLink RX8 19 "LeastEditsModel" "tables" "[I" ∈ UW := uw_at 676 (by decide +kernel) rfl
theorem wF_X8_22 : Cond.fieldLink RX8 22 "LeastEditsModel" "kept" "[Z" ∈ UW := uw_at 677 (by decide +kernel) rfl
theorem wF_X8_26 : Cond.fieldLink RX8 26 "LeastEditsModel" "xs" "[J" ∈ UW := uw_at 678 (by decide +kernel) rfl
theorem wF_X8_30 : Cond.fieldLink RX8 30 "LeastEditsModel" "ys" "[J" ∈ UW := uw_at 679 (by decide +kernel) rfl
theorem wF_X8_102 : Cond.fieldLink RX8 102 "LeastEditsModel" "inputs" "I" ∈ UW := uw_at 680 (by decide +kernel) rfl
theorem wF_X8_105 : Cond.fieldLink RX8 105 "LeastEditsModel" "olds" "I" ∈ UW := uw_at 681 (by decide +kernel) rfl
theorem wF_X8_108 : Cond.fieldLink RX8 108 "LeastEditsModel" "askeds" "I" ∈ UW := uw_at 682 (by decide +kernel) rfl
theorem wF_X8_91 : Cond.fieldLink RX8 91 "LeastEditsModel" "outputs" "I" ∈ UW := uw_at 683 (by decide +kernel) rfl
theorem wF_X8_33 : Cond.fieldLink RX8 33 "LeastEditsModel" "mine" "[I" ∈ UW := uw_at 684 (by decide +kernel) rfl
theorem wF_X8_36 : Cond.fieldLink RX8 36 "LeastEditsModel" "due" "[I" ∈ UW := uw_at 685 (by decide +kernel) rfl
theorem wF_X8_136 : Cond.fieldLink RX8 136 "LeastEditsModel" "spares" "I" ∈ UW := uw_at 686 (by decide +kernel) rfl
theorem wF_X8_39 : Cond.fieldLink RX8 39 "LeastEditsModel" "spareX" "[J" ∈ UW := uw_at 687 (by decide +kernel) rfl
theorem wF_X8_42 : Cond.fieldLink RX8 42 "LeastEditsModel" "spareY" "[J" ∈ UW := uw_at 688 (by decide +kernel) rfl
theorem wF_X8_98 : Cond.fieldLink RX8 98 "LeastEditsModel" "found" "Z" ∈ UW := uw_at 689 (by decide +kernel) rfl
theorem wF_X8_157 : Cond.fieldLink RX8 157 "LeastEditsModel" "edits" "I" ∈ UW := uw_at 690 (by decide +kernel) rfl
theorem wF_X8_45 : Cond.fieldLink RX8 45 "LeastEditsModel" "editNode" "[I" ∈ UW := uw_at 691 (by decide +kernel) rfl
theorem wF_X8_48 : Cond.fieldLink RX8 48 "LeastEditsModel" "editOne" "[I" ∈ UW := uw_at 692 (by decide +kernel) rfl
theorem wF_X8_51 : Cond.fieldLink RX8 51 "LeastEditsModel" "editTwo" "[I" ∈ UW := uw_at 693 (by decide +kernel) rfl
theorem wF_X8_167 : Cond.fieldLink RX8 167 "LeastEditsModel" "takes" "Z" ∈ UW := uw_at 694 (by decide +kernel) rfl
theorem wF_X8_54 : Cond.fieldLink RX8 54 "LeastEditsModel" "spareOf" "[I" ∈ UW := uw_at 695 (by decide +kernel) rfl
theorem wF_X8_170 : Cond.fieldLink RX8 170 "LeastEditsModel" "sum" "J" ∈ UW := uw_at 696 (by decide +kernel) rfl
theorem wF_X8_178 : Cond.fieldLink RX8 178 "LeastEditsModel" "made" "I" ∈ UW := uw_at 697 (by decide +kernel) rfl
theorem wF_X8_57 : Cond.fieldLink RX8 57 "LeastEditsModel" "madeCount" "[I" ∈ UW := uw_at 698 (by decide +kernel) rfl
theorem wF_X8_60 : Cond.fieldLink RX8 60 "LeastEditsModel" "madeNode" "[I" ∈ UW := uw_at 699 (by decide +kernel) rfl
theorem wF_X8_63 : Cond.fieldLink RX8 63 "LeastEditsModel" "madeOne" "[I" ∈ UW := uw_at 700 (by decide +kernel) rfl
theorem wF_X8_66 : Cond.fieldLink RX8 66 "LeastEditsModel" "madeTwo" "[I" ∈ UW := uw_at 701 (by decide +kernel) rfl
theorem wL_L_72 : Cond.methodLink RL 72 yX7_init ∈ UW := uw_at 20 (by decide +kernel) rfl
theorem wL_X7_3 : Cond.methodLink RX7 3 objectInit ∈ UW := uw_at 23 (by decide +kernel) rfl
theorem wL_X7_11 : Cond.methodLink RX7 11 yX3_init ∈ UW := uw_at 28 (by decide +kernel) rfl
theorem wL_X3_3 : Cond.methodLink RX3 3 objectInit ∈ UW := uw_at 31 (by decide +kernel) rfl
theorem wL_X7_18 : Cond.methodLink RX7 18 yX2_init ∈ UW := uw_at 83 (by decide +kernel) rfl
theorem wL_X2_3 : Cond.methodLink RX2 3 objectInit ∈ UW := uw_at 86 (by decide +kernel) rfl
theorem wL_X7_25 : Cond.methodLink RX7 25 yX0_init ∈ UW := uw_at 100 (by decide +kernel) rfl
theorem wL_X0_3 : Cond.methodLink RX0 3 objectInit ∈ UW := uw_at 103 (by decide +kernel) rfl
theorem wL_X7_32 : Cond.methodLink RX7 32 yX5_init ∈ UW := uw_at 124 (by decide +kernel) rfl
theorem wL_X5_3 : Cond.methodLink RX5 3 objectInit ∈ UW := uw_at 127 (by decide +kernel) rfl
theorem wL_X1_1 : Cond.methodLink RX1 1 objectInit ∈ UW := uw_at 134 (by decide +kernel) rfl
theorem wL_X7_41 : Cond.methodLink RX7 41 yX6_init ∈ UW := uw_at 172 (by decide +kernel) rfl
theorem wL_X6_3 : Cond.methodLink RX6 3 objectInit ∈ UW := uw_at 175 (by decide +kernel) rfl
theorem wL_X7_50 : Cond.methodLink RX7 50 yX4_init ∈ UW := uw_at 190 (by decide +kernel) rfl
theorem wL_X4_3 : Cond.methodLink RX4 3 objectInit ∈ UW := uw_at 193 (by decide +kernel) rfl
theorem wL_L_98 : Cond.methodLink RL 98 yX7_differing ∈ UW := uw_at 229 (by decide +kernel) rfl
theorem wL_X7_135 : Cond.methodLink RX7 135 yX2_difference ∈ UW := uw_at 233 (by decide +kernel) rfl
theorem wL_L_138 : Cond.methodLink RL 138 yX7_undo ∈ UW := uw_at 237 (by decide +kernel) rfl
theorem wL_X7_226 : Cond.methodLink RX7 226 yX4_takeBackLast ∈ UW := uw_at 241 (by decide +kernel) rfl
theorem wL_X4_41 : Cond.methodLink RX4 41 yX3_rewire ∈ UW := uw_at 245 (by decide +kernel) rfl
theorem wL_X7_223 : Cond.methodLink RX7 223 yX3_refreshOldColumns ∈ UW := uw_at 249 (by decide +kernel) rfl
theorem wL_X3_68 : Cond.methodLink RX3 68 yX3_firstOld ∈ UW := uw_at 253 (by decide +kernel) rfl
theorem wL_X3_44 : Cond.methodLink RX3 44 yX3_owned ∈ UW := uw_at 257 (by decide +kernel) rfl
theorem wL_L_149 : Cond.methodLink RL 149 yX7_clear ∈ UW := uw_at 264 (by decide +kernel) rfl
theorem wL_X7_239 : Cond.methodLink RX7 239 yX3_reset ∈ UW := uw_at 268 (by decide +kernel) rfl
theorem wL_L_76 : Cond.methodLink RL 76 yL_input ∈ UW := uw_at 272 (by decide +kernel) rfl
theorem wL_L_7 : Cond.methodLink RL 7 yX7_input ∈ UW := uw_at 276 (by decide +kernel) rfl
theorem wL_X7_75 : Cond.methodLink RX7 75 yX3_addInput ∈ UW := uw_at 348 (by decide +kernel) rfl
theorem wL_L_85 : Cond.methodLink RL 85 yL_old ∈ UW := uw_at 354 (by decide +kernel) rfl
theorem wL_L_15 : Cond.methodLink RL 15 yX7_old ∈ UW := uw_at 359 (by decide +kernel) rfl
theorem wL_X7_79 : Cond.methodLink RX7 79 yX3_hasLiteral ∈ UW := uw_at 363 (by decide +kernel) rfl
theorem wL_X7_90 : Cond.methodLink RX7 90 yX3_isOf ∈ UW := uw_at 384 (by decide +kernel) rfl
theorem wL_X7_102 : Cond.methodLink RX7 102 yX0_putAtOrigin ∈ UW := uw_at 404 (by decide +kernel) rfl
theorem wL_X7_106 : Cond.methodLink RX7 106 yX3_addOld ∈ UW := uw_at 408 (by decide +kernel) rfl
theorem wL_X3_51 : Cond.methodLink RX3 51 yX3_addAnd ∈ UW := uw_at 412 (by decide +kernel) rfl
theorem wL_L_89 : Cond.methodLink RL 89 yL_asked ∈ UW := uw_at 416 (by decide +kernel) rfl
theorem wL_L_23 : Cond.methodLink RL 23 yX7_asked ∈ UW := uw_at 419 (by decide +kernel) rfl
theorem wL_X7_114 : Cond.methodLink RX7 114 yX3_addAsked ∈ UW := uw_at 425 (by decide +kernel) rfl
theorem wL_L_92 : Cond.methodLink RL 92 yL_output ∈ UW := uw_at 429 (by decide +kernel) rfl
theorem wL_L_26 : Cond.methodLink RL 26 yX7_output ∈ UW := uw_at 432 (by decide +kernel) rfl
theorem wL_X7_124 : Cond.methodLink RX7 124 yX2_add ∈ UW := uw_at 438 (by decide +kernel) rfl
theorem wL_L_95 : Cond.methodLink RL 95 yL_value ∈ UW := uw_at 442 (by decide +kernel) rfl
theorem wL_L_29 : Cond.methodLink RL 29 yX7_value ∈ UW := uw_at 445 (by decide +kernel) rfl
theorem wL_X7_131 : Cond.methodLink RX7 131 yX7_column ∈ UW := uw_at 449 (by decide +kernel) rfl
theorem wL_L_102 : Cond.methodLink RL 102 yL_witness ∈ UW := uw_at 450 (by decide +kernel) rfl
theorem wL_L_32 : Cond.methodLink RL 32 yX7_witness ∈ UW := uw_at 453 (by decide +kernel) rfl
theorem wL_X7_140 : Cond.methodLink RX7 140 yX7_leastBit ∈ UW := uw_at 458 (by decide +kernel) rfl
theorem wL_L_106 : Cond.methodLink RL 106 yL_matched ∈ UW := uw_at 461 (by decide +kernel) rfl
theorem wL_L_36 : Cond.methodLink RL 36 yX7_matched ∈ UW := uw_at 464 (by decide +kernel) rfl
theorem wL_X7_144 : Cond.methodLink RX7 144 yX3_leastOwnLiteralOf ∈ UW := uw_at 468 (by decide +kernel) rfl
theorem wL_X3_71 : Cond.methodLink RX3 71 yX3_ownLiteral ∈ UW := uw_at 472 (by decide +kernel) rfl
theorem wL_L_109 : Cond.methodLink RL 109 yL_keep ∈ UW := uw_at 476 (by decide +kernel) rfl
theorem wL_L_39 : Cond.methodLink RL 39 yX7_keep ∈ UW := uw_at 479 (by decide +kernel) rfl
theorem wL_X7_147 : Cond.methodLink RX7 147 yX3_isOldNode ∈ UW := uw_at 483 (by decide +kernel) rfl
theorem wL_L_115 : Cond.methodLink RL 115 yL_place ∈ UW := uw_at 488 (by decide +kernel) rfl
theorem wL_L_43 : Cond.methodLink RL 43 yX7_place ∈ UW := uw_at 491 (by decide +kernel) rfl
theorem wL_X7_156 : Cond.methodLink RX7 156 yX7_isTooFar ∈ UW := uw_at 495 (by decide +kernel) rfl
theorem wL_X7_162 : Cond.methodLink RX7 162 yX0_moveNode ∈ UW := uw_at 501 (by decide +kernel) rfl
theorem wL_L_119 : Cond.methodLink RL 119 yL_spare ∈ UW := uw_at 505 (by decide +kernel) rfl
theorem wL_L_47 : Cond.methodLink RL 47 yX7_spare ∈ UW := uw_at 508 (by decide +kernel) rfl
theorem wL_X7_171 : Cond.methodLink RX7 171 yX0_addSpare ∈ UW := uw_at 513 (by decide +kernel) rfl
theorem wL_L_123 : Cond.methodLink RL 123 yL_run ∈ UW := uw_at 517 (by decide +kernel) rfl
theorem wL_L_51 : Cond.methodLink RL 51 yX7_run ∈ UW := uw_at 520 (by decide +kernel) rfl
theorem wL_X7_176 : Cond.methodLink RX7 176 yX5_fewestEdits ∈ UW := uw_at 525 (by decide +kernel) rfl
theorem wL_X5_33 : Cond.methodLink RX5 33 yX5_showAsItIs ∈ UW := uw_at 529 (by decide +kernel) rfl
theorem wL_X5_64 : Cond.methodLink RX5 64 yX3_owned ∈ UW := uw_at 536 (by decide +kernel) rfl
theorem wL_X5_71 : Cond.methodLink RX5 71 yX5_show ∈ UW := uw_at 537 (by decide +kernel) rfl
theorem wL_X5_36 : Cond.methodLink RX5 36 yX2_agreement ∈ UW := uw_at 541 (by decide +kernel) rfl
theorem wL_X2_22 : Cond.methodLink RX2 22 yX2_difference ∈ UW := uw_at 545 (by decide +kernel) rfl
theorem wL_X5_42 : Cond.methodLink RX5 42 yX5_findOne ∈ UW := uw_at 546 (by decide +kernel) rfl
theorem wL_X5_75 : Cond.methodLink RX5 75 yX3_firstOld ∈ UW := uw_at 550 (by decide +kernel) rfl
theorem wL_X5_82 : Cond.methodLink RX5 82 yX5_agreementWith ∈ UW := uw_at 551 (by decide +kernel) rfl
theorem wL_X5_94 : Cond.methodLink RX5 94 yX5_setAndSpread ∈ UW := uw_at 555 (by decide +kernel) rfl
theorem wL_X5_86 : Cond.methodLink RX5 86 yX5_findLiterals ∈ UW := uw_at 560 (by decide +kernel) rfl
theorem wL_X5_106 : Cond.methodLink RX5 106 yX5_findPartner ∈ UW := uw_at 564 (by decide +kernel) rfl
theorem wL_X5_98 : Cond.methodLink RX5 98 yX3_ownLiteral ∈ UW := uw_at 568 (by decide +kernel) rfl
theorem wL_X5_102 : Cond.methodLink RX5 102 yX1_put ∈ UW := uw_at 569 (by decide +kernel) rfl
theorem wL_X5_46 : Cond.methodLink RX5 46 yX5_findTwo ∈ UW := uw_at 573 (by decide +kernel) rfl
theorem wL_X5_90 : Cond.methodLink RX5 90 yX5_findPair ∈ UW := uw_at 577 (by decide +kernel) rfl
theorem wL_X7_183 : Cond.methodLink RX7 183 yX6_take ∈ UW := uw_at 581 (by decide +kernel) rfl
theorem wL_X6_28 : Cond.methodLink RX6 28 yX6_takeForOne ∈ UW := uw_at 585 (by decide +kernel) rfl
theorem wL_X6_41 : Cond.methodLink RX6 41 yX0_distance ∈ UW := uw_at 589 (by decide +kernel) rfl
theorem wL_X0_28 : Cond.methodLink RX0 28 yJ9_abs_0f7a4 ∈ UW := uw_at 593 (by decide +kernel) rfl
theorem wL_X6_45 : Cond.methodLink RX6 45 yX6_offer ∈ UW := uw_at 596 (by decide +kernel) rfl
theorem wL_X6_32 : Cond.methodLink RX6 32 yX6_takeForTwo ∈ UW := uw_at 600 (by decide +kernel) rfl
theorem wL_L_126 : Cond.methodLink RL 126 yL_edit ∈ UW := uw_at 604 (by decide +kernel) rfl
theorem wL_L_54 : Cond.methodLink RL 54 yX7_edit ∈ UW := uw_at 607 (by decide +kernel) rfl
theorem wL_L_129 : Cond.methodLink RL 129 yL_used ∈ UW := uw_at 614 (by decide +kernel) rfl
theorem wL_L_57 : Cond.methodLink RL 57 yX7_used ∈ UW := uw_at 617 (by decide +kernel) rfl
theorem wL_L_132 : Cond.methodLink RL 132 yL_length ∈ UW := uw_at 621 (by decide +kernel) rfl
theorem wL_L_60 : Cond.methodLink RL 60 yX7_length ∈ UW := uw_at 624 (by decide +kernel) rfl
theorem wL_L_135 : Cond.methodLink RL 135 yL_make ∈ UW := uw_at 628 (by decide +kernel) rfl
theorem wL_L_63 : Cond.methodLink RL 63 yX7_make ∈ UW := uw_at 631 (by decide +kernel) rfl
theorem wL_X7_215 : Cond.methodLink RX7 215 yX4_remember ∈ UW := uw_at 636 (by decide +kernel) rfl
theorem wL_X4_37 : Cond.methodLink RX4 37 yX1_put ∈ UW := uw_at 640 (by decide +kernel) rfl
theorem wL_X7_219 : Cond.methodLink RX7 219 yX3_rewire ∈ UW := uw_at 641 (by decide +kernel) rfl
theorem wL_L_143 : Cond.methodLink RL 143 yL_literal ∈ UW := uw_at 642 (by decide +kernel) rfl
theorem wL_L_66 : Cond.methodLink RL 66 yX7_literal ∈ UW := uw_at 645 (by decide +kernel) rfl
theorem wL_L_146 : Cond.methodLink RL 146 yL_count ∈ UW := uw_at 650 (by decide +kernel) rfl
theorem wL_L_69 : Cond.methodLink RL 69 yX7_count ∈ UW := uw_at 653 (by decide +kernel) rfl
theorem wL_X7_236 : Cond.methodLink RX7 236 yX3_keptNodes ∈ UW := uw_at 657 (by decide +kernel) rfl
theorem wL_L_75 : Cond.methodLink RL 75 yX8_init ∈ UW := uw_at 663 (by decide +kernel) rfl
theorem wL_X8_1 : Cond.methodLink RX8 1 objectInit ∈ UW := uw_at 666 (by decide +kernel) rfl
theorem wL_X8_69 : Cond.methodLink RX8 69 yX8_clear ∈ UW := uw_at 667 (by decide +kernel) rfl
theorem wL_L_82 : Cond.methodLink RL 82 yX8_thrown ∈ UW := uw_at 766 (by decide +kernel) rfl
theorem wL_L_81 : Cond.methodLink RL 81 yX8_input ∈ UW := uw_at 770 (by decide +kernel) rfl
theorem wL_X8_111 : Cond.methodLink RX8 111 yX8_put ∈ UW := uw_at 774 (by decide +kernel) rfl
theorem wL_X8_87 : Cond.methodLink RX8 87 yX8_work ∈ UW := uw_at 778 (by decide +kernel) rfl
theorem wL_X8_83 : Cond.methodLink RX8 83 yX8_table ∈ UW := uw_at 782 (by decide +kernel) rfl
theorem wL_L_88 : Cond.methodLink RL 88 yX8_old ∈ UW := uw_at 786 (by decide +kernel) rfl
theorem wL_X8_115 : Cond.methodLink RX8 115 yX8_isLiteral ∈ UW := uw_at 790 (by decide +kernel) rfl
theorem wL_X8_79 : Cond.methodLink RX8 79 yX8_isIn ∈ UW := uw_at 794 (by decide +kernel) rfl
theorem wL_X8_118 : Cond.methodLink RX8 118 yX8_isOf ∈ UW := uw_at 797 (by decide +kernel) rfl
theorem wL_L_91 : Cond.methodLink RL 91 yX8_asked ∈ UW := uw_at 801 (by decide +kernel) rfl
theorem wL_L_94 : Cond.methodLink RL 94 yX8_output ∈ UW := uw_at 805 (by decide +kernel) rfl
theorem wL_L_97 : Cond.methodLink RL 97 yX8_value ∈ UW := uw_at 809 (by decide +kernel) rfl
theorem wL_L_101 : Cond.methodLink RL 101 yX8_differing ∈ UW := uw_at 813 (by decide +kernel) rfl
theorem wL_X8_121 : Cond.methodLink RX8 121 yX8_apart ∈ UW := uw_at 817 (by decide +kernel) rfl
theorem wL_X8_94 : Cond.methodLink RX8 94 yX8_isApart ∈ UW := uw_at 821 (by decide +kernel) rfl
theorem wL_L_105 : Cond.methodLink RL 105 yX8_witness ∈ UW := uw_at 825 (by decide +kernel) rfl
theorem wL_L_108 : Cond.methodLink RL 108 yX8_matched ∈ UW := uw_at 829 (by decide +kernel) rfl
theorem wL_L_112 : Cond.methodLink RL 112 yX8_keep ∈ UW := uw_at 833 (by decide +kernel) rfl
theorem wL_X8_125 : Cond.methodLink RX8 125 yX8_isOld ∈ UW := uw_at 837 (by decide +kernel) rfl
theorem wL_L_118 : Cond.methodLink RL 118 yX8_place ∈ UW := uw_at 841 (by decide +kernel) rfl
theorem wL_X8_132 : Cond.methodLink RX8 132 yX8_isNear ∈ UW := uw_at 845 (by decide +kernel) rfl
theorem wL_L_122 : Cond.methodLink RL 122 yX8_spare ∈ UW := uw_at 850 (by decide +kernel) rfl
theorem wL_L_125 : Cond.methodLink RL 125 yX8_run ∈ UW := uw_at 854 (by decide +kernel) rfl
theorem wL_X8_154 : Cond.methodLink RX8 154 yX8_search ∈ UW := uw_at 858 (by decide +kernel) rfl
theorem wL_X8_148 : Cond.methodLink RX8 148 yX8_isFree ∈ UW := uw_at 862 (by decide +kernel) rfl
theorem wL_X8_151 : Cond.methodLink RX8 151 yX8_tryAt ∈ UW := uw_at 866 (by decide +kernel) rfl
theorem wL_X8_139 : Cond.methodLink RX8 139 yX8_mayBe ∈ UW := uw_at 870 (by decide +kernel) rfl
theorem wL_X8_142 : Cond.methodLink RX8 142 yX8_workOlds ∈ UW := uw_at 874 (by decide +kernel) rfl
theorem wL_X8_145 : Cond.methodLink RX8 145 yX8_trySecond ∈ UW := uw_at 878 (by decide +kernel) rfl
theorem wL_X8_160 : Cond.methodLink RX8 160 yX8_take ∈ UW := uw_at 882 (by decide +kernel) rfl
theorem wL_X8_174 : Cond.methodLink RX8 174 yX8_far ∈ UW := uw_at 886 (by decide +kernel) rfl
theorem wL_X8_163 : Cond.methodLink RX8 163 yX8_size ∈ UW := uw_at 890 (by decide +kernel) rfl
theorem wL_L_128 : Cond.methodLink RL 128 yX8_edit ∈ UW := uw_at 893 (by decide +kernel) rfl
theorem wL_L_131 : Cond.methodLink RL 131 yX8_used ∈ UW := uw_at 897 (by decide +kernel) rfl
theorem wL_L_134 : Cond.methodLink RL 134 yX8_length ∈ UW := uw_at 901 (by decide +kernel) rfl
theorem wL_L_137 : Cond.methodLink RL 137 yX8_make ∈ UW := uw_at 905 (by decide +kernel) rfl
theorem wL_L_142 : Cond.methodLink RL 142 yX8_undo ∈ UW := uw_at 909 (by decide +kernel) rfl
theorem wL_L_145 : Cond.methodLink RL 145 yX8_literal ∈ UW := uw_at 913 (by decide +kernel) rfl
theorem wL_L_148 : Cond.methodLink RL 148 yX8_count ∈ UW := uw_at 917 (by decide +kernel) rfl
theorem wL_L_152 : Cond.methodLink RL 152 yX8_clear ∈ UW := uw_at 921 (by decide +kernel) rfl
theorem wC_L_8 : Cond.classLink RL 8 "LeastEdits" ∈ UW := uw_at 18 (by decide +kernel) rfl
theorem wC_X7_9 : Cond.classLink RX7 9 "LeastEdits$Net" ∈ UW := uw_at 26 (by decide +kernel) rfl
theorem wC_X7_16 : Cond.classLink RX7 16 "LeastEdits$Goals" ∈ UW := uw_at 81 (by decide +kernel) rfl
theorem wC_X7_23 : Cond.classLink RX7 23 "LeastEdits$Board" ∈ UW := uw_at 98 (by decide +kernel) rfl
theorem wC_X7_30 : Cond.classLink RX7 30 "LeastEdits$Search" ∈ UW := uw_at 122 (by decide +kernel) rfl
theorem wC_X5_19 : Cond.classLink RX5 19 "LeastEdits$Edit" ∈ UW := uw_at 128 (by decide +kernel) rfl
theorem wC_X7_39 : Cond.classLink RX7 39 "LeastEdits$Taking" ∈ UW := uw_at 170 (by decide +kernel) rfl
theorem wC_X7_48 : Cond.classLink RX7 48 "LeastEdits$Past" ∈ UW := uw_at 188 (by decide +kernel) rfl
theorem wC_X4_9 : Cond.classLink RX4 9 "LeastEdits$Edit" ∈ UW := uw_at 194 (by decide +kernel) rfl
theorem wC_L_13 : Cond.classLink RL 13 "java/lang/IllegalStateException" ∈ UW := uw_at 275 (by decide +kernel) rfl
theorem wC_X7_68 : Cond.classLink RX7 68 "java/lang/IllegalStateException" ∈ UW := uw_at 280 (by decide +kernel) rfl
theorem wC_L_19 : Cond.classLink RL 19 "java/lang/IndexOutOfBoundsException" ∈ UW := uw_at 357 (by decide +kernel) rfl
theorem wC_L_21 : Cond.classLink RL 21 "java/lang/IllegalArgumentException" ∈ UW := uw_at 358 (by decide +kernel) rfl
theorem wC_X7_83 : Cond.classLink RX7 83 "java/lang/IndexOutOfBoundsException" ∈ UW := uw_at 367 (by decide +kernel) rfl
theorem wC_X7_94 : Cond.classLink RX7 94 "java/lang/IllegalArgumentException" ∈ UW := uw_at 388 (by decide +kernel) rfl
theorem wC_L_73 : Cond.classLink RL 73 "LeastEditsModel" ∈ UW := uw_at 661 (by decide +kernel) rfl
theorem wK_X7_242 : Cond.constantLong RX7 242 (-1000) ∈ UW := uw_at 498 (by decide +kernel) rfl
theorem wK_X7_244 : Cond.constantLong RX7 244 (1000) ∈ UW := uw_at 499 (by decide +kernel) rfl
theorem wK_X8_128 : Cond.constantLong RX8 128 (-1000) ∈ UW := uw_at 848 (by decide +kernel) rfl
theorem wK_X8_130 : Cond.constantLong RX8 130 (1000) ∈ UW := uw_at 849 (by decide +kernel) rfl
theorem wK_L_113 : Cond.constantLong RL 113 (4294967295) ∈ UW := uw_at 922 (by decide +kernel) rfl
theorem wI_L : Cond.initialized "LeastEditsLaw" ∈ UW := uw_at 0 (by decide +kernel) rfl
theorem wI_X7 : Cond.initialized "LeastEdits" ∈ UW := uw_at 1 (by decide +kernel) rfl
theorem wI_X3 : Cond.initialized "LeastEdits$Net" ∈ UW := uw_at 2 (by decide +kernel) rfl
theorem wI_X2 : Cond.initialized "LeastEdits$Goals" ∈ UW := uw_at 3 (by decide +kernel) rfl
theorem wI_X0 : Cond.initialized "LeastEdits$Board" ∈ UW := uw_at 4 (by decide +kernel) rfl
theorem wI_X5 : Cond.initialized "LeastEdits$Search" ∈ UW := uw_at 5 (by decide +kernel) rfl
theorem wI_X1 : Cond.initialized "LeastEdits$Edit" ∈ UW := uw_at 6 (by decide +kernel) rfl
theorem wI_X6 : Cond.initialized "LeastEdits$Taking" ∈ UW := uw_at 7 (by decide +kernel) rfl
theorem wI_X4 : Cond.initialized "LeastEdits$Past" ∈ UW := uw_at 8 (by decide +kernel) rfl
theorem wI_X8 : Cond.initialized "LeastEditsModel" ∈ UW := uw_at 9 (by decide +kernel) rfl
theorem wI_Throwable : Cond.initialized "java/lang/Throwable" ∈ UW := uw_at 10 (by decide +kernel) rfl
theorem wI_Exception : Cond.initialized "java/lang/Exception" ∈ UW := uw_at 11 (by decide +kernel) rfl
theorem wI_RuntimeException : Cond.initialized "java/lang/RuntimeException" ∈ UW := uw_at 12 (by decide +kernel) rfl
theorem wI_IllegalStateException : Cond.initialized "java/lang/IllegalStateException" ∈ UW := uw_at 13 (by decide +kernel) rfl
theorem wI_IndexOutOfBoundsException : Cond.initialized "java/lang/IndexOutOfBoundsException" ∈ UW := uw_at 14 (by decide +kernel) rfl
theorem wI_IllegalArgumentException : Cond.initialized "java/lang/IllegalArgumentException" ∈ UW := uw_at 15 (by decide +kernel) rfl
theorem wI_J10 : Cond.initialized "java/lang/System" ∈ UW := uw_at 16 (by decide +kernel) rfl
theorem wI_J9 : Cond.initialized "java/lang/Math" ∈ UW := uw_at 17 (by decide +kernel) rfl
theorem wN_X7 : Cond.instantiable "LeastEdits" 7 ∈ UW := uw_at 19 (by decide +kernel) rfl
theorem wO_inst : Cond.instanceMethod objectInit ∈ UW := uw_at 24 (by decide +kernel) rfl
theorem wO_code : Cond.code objectInit ⟨#[0xb1]⟩ 1 none ∈ UW := uw_at 25 (by decide +kernel) rfl
theorem wN_X3 : Cond.instantiable "LeastEdits$Net" 10 ∈ UW := uw_at 27 (by decide +kernel) rfl
theorem wA_int : Cond.arrayClass .int ∈ UW := uw_at 79 (by decide +kernel) rfl
theorem wA_boolean : Cond.arrayClass .boolean ∈ UW := uw_at 80 (by decide +kernel) rfl
theorem wN_X2 : Cond.instantiable "LeastEdits$Goals" 3 ∈ UW := uw_at 82 (by decide +kernel) rfl
theorem wN_X0 : Cond.instantiable "LeastEdits$Board" 5 ∈ UW := uw_at 99 (by decide +kernel) rfl
theorem wN_X5 : Cond.instantiable "LeastEdits$Search" 5 ∈ UW := uw_at 123 (by decide +kernel) rfl
theorem wN_X1 : Cond.instantiable "LeastEdits$Edit" 3 ∈ UW := uw_at 130 (by decide +kernel) rfl
theorem wN_X6 : Cond.instantiable "LeastEdits$Taking" 3 ∈ UW := uw_at 171 (by decide +kernel) rfl
theorem wN_X4 : Cond.instantiable "LeastEdits$Past" 3 ∈ UW := uw_at 189 (by decide +kernel) rfl
theorem wN_IllegalStateException : Cond.instantiable "java/lang/IllegalStateException" 6 ∈ UW := uw_at 281 (by decide +kernel) rfl
theorem wN_Throwable : Cond.instantiable "java/lang/Throwable" 6 ∈ UW := uw_at 319 (by decide +kernel) rfl
theorem wA_byte : Cond.arrayClass .byte ∈ UW := uw_at 347 (by decide +kernel) rfl
theorem wN_IndexOutOfBoundsException : Cond.instantiable "java/lang/IndexOutOfBoundsException" 6 ∈ UW := uw_at 368 (by decide +kernel) rfl
theorem wN_IllegalArgumentException : Cond.instantiable "java/lang/IllegalArgumentException" 6 ∈ UW := uw_at 389 (by decide +kernel) rfl
theorem wN_X8 : Cond.instantiable "LeastEditsModel" 31 ∈ UW := uw_at 662 (by decide +kernel) rfl
theorem wA_long : Cond.arrayClass .long ∈ UW := uw_at 765 (by decide +kernel) rfl
theorem inX_X0 : ∀ w ∈ u_ws RX0 TX0 5, w ∈ UW := by
  intro w hw
  obtain ⟨k, hk, rfl⟩ := List.mem_map.mp hw
  have hk := List.mem_range.mp hk
  match k, hk with
  | 0, _ => exact (uw_at (w := Cond.laysFinal "LeastEdits$Board" "LeastEdits$Board" "nodeX" "[I") 111 (by decide +kernel) rfl)
  | 1, _ => exact (uw_at (w := Cond.laysFinal "LeastEdits$Board" "LeastEdits$Board" "nodeY" "[I") 113 (by decide +kernel) rfl)
  | 2, _ => exact (uw_at (w := Cond.laysFinal "LeastEdits$Board" "LeastEdits$Board" "spareX" "[I") 115 (by decide +kernel) rfl)
  | 3, _ => exact (uw_at (w := Cond.laysFinal "LeastEdits$Board" "LeastEdits$Board" "spareY" "[I") 117 (by decide +kernel) rfl)
  | 4, _ => exact (uw_at (w := Cond.lays "LeastEdits$Board" "LeastEdits$Board" "spares" "I") 119 (by decide +kernel) rfl)
  | k + 5, h => exact absurd h (by omega)
theorem inX_X1 : ∀ w ∈ u_ws RX1 TX1 3, w ∈ UW := by
  intro w hw
  obtain ⟨k, hk, rfl⟩ := List.mem_map.mp hw
  have hk := List.mem_range.mp hk
  match k, hk with
  | 0, _ => exact (uw_at (w := Cond.lays "LeastEdits$Edit" "LeastEdits$Edit" "node" "I") 146 (by decide +kernel) rfl)
  | 1, _ => exact (uw_at (w := Cond.lays "LeastEdits$Edit" "LeastEdits$Edit" "first" "I") 148 (by decide +kernel) rfl)
  | 2, _ => exact (uw_at (w := Cond.lays "LeastEdits$Edit" "LeastEdits$Edit" "second" "I") 150 (by decide +kernel) rfl)
  | k + 3, h => exact absurd h (by omega)
theorem inX_X2 : ∀ w ∈ u_ws RX2 TX2 3, w ∈ UW := by
  intro w hw
  obtain ⟨k, hk, rfl⟩ := List.mem_map.mp hw
  have hk := List.mem_range.mp hk
  match k, hk with
  | 0, _ => exact (uw_at (w := Cond.laysFinal "LeastEdits$Goals" "LeastEdits$Goals" "mine" "[I") 91 (by decide +kernel) rfl)
  | 1, _ => exact (uw_at (w := Cond.laysFinal "LeastEdits$Goals" "LeastEdits$Goals" "due" "[I") 93 (by decide +kernel) rfl)
  | 2, _ => exact (uw_at (w := Cond.lays "LeastEdits$Goals" "LeastEdits$Goals" "size" "I") 95 (by decide +kernel) rfl)
  | k + 3, h => exact absurd h (by omega)
theorem inX_X3 : ∀ w ∈ u_ws RX3 TX3 10, w ∈ UW := by
  intro w hw
  obtain ⟨k, hk, rfl⟩ := List.mem_map.mp hw
  have hk := List.mem_range.mp hk
  match k, hk with
  | 0, _ => exact (uw_at (w := Cond.laysFinal "LeastEdits$Net" "LeastEdits$Net" "kind" "[I") 58 (by decide +kernel) rfl)
  | 1, _ => exact (uw_at (w := Cond.laysFinal "LeastEdits$Net" "LeastEdits$Net" "first" "[I") 60 (by decide +kernel) rfl)
  | 2, _ => exact (uw_at (w := Cond.laysFinal "LeastEdits$Net" "LeastEdits$Net" "second" "[I") 62 (by decide +kernel) rfl)
  | 3, _ => exact (uw_at (w := Cond.laysFinal "LeastEdits$Net" "LeastEdits$Net" "columns" "[I") 64 (by decide +kernel) rfl)
  | 4, _ => exact (uw_at (w := Cond.laysFinal "LeastEdits$Net" "LeastEdits$Net" "kept" "[Z") 66 (by decide +kernel) rfl)
  | 5, _ => exact (uw_at (w := Cond.laysFinal "LeastEdits$Net" "LeastEdits$Net" "own" "[I") 68 (by decide +kernel) rfl)
  | 6, _ => exact (uw_at (w := Cond.lays "LeastEdits$Net" "LeastEdits$Net" "nodes" "I") 70 (by decide +kernel) rfl)
  | 7, _ => exact (uw_at (w := Cond.lays "LeastEdits$Net" "LeastEdits$Net" "inputs" "I") 72 (by decide +kernel) rfl)
  | 8, _ => exact (uw_at (w := Cond.lays "LeastEdits$Net" "LeastEdits$Net" "olds" "I") 74 (by decide +kernel) rfl)
  | 9, _ => exact (uw_at (w := Cond.lays "LeastEdits$Net" "LeastEdits$Net" "askeds" "I") 76 (by decide +kernel) rfl)
  | k + 10, h => exact absurd h (by omega)
theorem inX_X4 : ∀ w ∈ u_ws RX4 TX4 3, w ∈ UW := by
  intro w hw
  obtain ⟨k, hk, rfl⟩ := List.mem_map.mp hw
  have hk := List.mem_range.mp hk
  match k, hk with
  | 0, _ => exact (uw_at (w := Cond.laysFinal "LeastEdits$Past" "LeastEdits$Past" "before" "[LLeastEdits$Edit;") 200 (by decide +kernel) rfl)
  | 1, _ => exact (uw_at (w := Cond.laysFinal "LeastEdits$Past" "LeastEdits$Past" "sizes" "[I") 202 (by decide +kernel) rfl)
  | 2, _ => exact (uw_at (w := Cond.lays "LeastEdits$Past" "LeastEdits$Past" "made" "I") 204 (by decide +kernel) rfl)
  | k + 3, h => exact absurd h (by omega)
theorem inX_X5 : ∀ w ∈ u_ws RX5 TX5 5, w ∈ UW := by
  intro w hw
  obtain ⟨k, hk, rfl⟩ := List.mem_map.mp hw
  have hk := List.mem_range.mp hk
  match k, hk with
  | 0, _ => exact (uw_at (w := Cond.laysFinal "LeastEdits$Search" "LeastEdits$Search" "net" "LLeastEdits$Net;") 159 (by decide +kernel) rfl)
  | 1, _ => exact (uw_at (w := Cond.laysFinal "LeastEdits$Search" "LeastEdits$Search" "goals" "LLeastEdits$Goals;") 161 (by decide +kernel) rfl)
  | 2, _ => exact (uw_at (w := Cond.laysFinal "LeastEdits$Search" "LeastEdits$Search" "edits" "[LLeastEdits$Edit;") 163 (by decide +kernel) rfl)
  | 3, _ => exact (uw_at (w := Cond.laysFinal "LeastEdits$Search" "LeastEdits$Search" "trial" "[I") 165 (by decide +kernel) rfl)
  | 4, _ => exact (uw_at (w := Cond.laysFinal "LeastEdits$Search" "LeastEdits$Search" "shown" "[I") 167 (by decide +kernel) rfl)
  | k + 5, h => exact absurd h (by omega)
theorem inX_X6 : ∀ w ∈ u_ws RX6 TX6 3, w ∈ UW := by
  intro w hw
  obtain ⟨k, hk, rfl⟩ := List.mem_map.mp hw
  have hk := List.mem_range.mp hk
  match k, hk with
  | 0, _ => exact (uw_at (w := Cond.laysFinal "LeastEdits$Taking" "LeastEdits$Taking" "board" "LLeastEdits$Board;") 181 (by decide +kernel) rfl)
  | 1, _ => exact (uw_at (w := Cond.laysFinal "LeastEdits$Taking" "LeastEdits$Taking" "spareOf" "[I") 183 (by decide +kernel) rfl)
  | 2, _ => exact (uw_at (w := Cond.lays "LeastEdits$Taking" "LeastEdits$Taking" "sum" "I") 185 (by decide +kernel) rfl)
  | k + 3, h => exact absurd h (by omega)
theorem inX_X7 : ∀ w ∈ u_ws RX7 TX7 7, w ∈ UW := by
  intro w hw
  obtain ⟨k, hk, rfl⟩ := List.mem_map.mp hw
  have hk := List.mem_range.mp hk
  match k, hk with
  | 0, _ => exact (uw_at (w := Cond.laysFinal "LeastEdits" "LeastEdits" "net" "LLeastEdits$Net;") 214 (by decide +kernel) rfl)
  | 1, _ => exact (uw_at (w := Cond.laysFinal "LeastEdits" "LeastEdits" "goals" "LLeastEdits$Goals;") 216 (by decide +kernel) rfl)
  | 2, _ => exact (uw_at (w := Cond.laysFinal "LeastEdits" "LeastEdits" "board" "LLeastEdits$Board;") 218 (by decide +kernel) rfl)
  | 3, _ => exact (uw_at (w := Cond.laysFinal "LeastEdits" "LeastEdits" "search" "LLeastEdits$Search;") 220 (by decide +kernel) rfl)
  | 4, _ => exact (uw_at (w := Cond.laysFinal "LeastEdits" "LeastEdits" "taking" "LLeastEdits$Taking;") 222 (by decide +kernel) rfl)
  | 5, _ => exact (uw_at (w := Cond.laysFinal "LeastEdits" "LeastEdits" "past" "LLeastEdits$Past;") 224 (by decide +kernel) rfl)
  | 6, _ => exact (uw_at (w := Cond.lays "LeastEdits" "LeastEdits" "ran" "I") 226 (by decide +kernel) rfl)
  | k + 7, h => exact absurd h (by omega)
theorem inX_X8 : ∀ w ∈ u_ws RX8 TX8 31, w ∈ UW := by
  intro w hw
  obtain ⟨k, hk, rfl⟩ := List.mem_map.mp hw
  have hk := List.mem_range.mp hk
  match k, hk with
  | 0, _ => exact (uw_at (w := Cond.lays "LeastEditsModel" "LeastEditsModel" "thrown" "I") 702 (by decide +kernel) rfl)
  | 1, _ => exact (uw_at (w := Cond.lays "LeastEditsModel" "LeastEditsModel" "nodes" "I") 704 (by decide +kernel) rfl)
  | 2, _ => exact (uw_at (w := Cond.laysFinal "LeastEditsModel" "LeastEditsModel" "sorts" "[I") 706 (by decide +kernel) rfl)
  | 3, _ => exact (uw_at (w := Cond.laysFinal "LeastEditsModel" "LeastEditsModel" "ones" "[I") 708 (by decide +kernel) rfl)
  | 4, _ => exact (uw_at (w := Cond.laysFinal "LeastEditsModel" "LeastEditsModel" "twos" "[I") 710 (by decide +kernel) rfl)
  | 5, _ => exact (uw_at (w := Cond.laysFinal "LeastEditsModel" "LeastEditsModel" "tables" "[I") 712 (by decide +kernel) rfl)
  | 6, _ => exact (uw_at (w := Cond.laysFinal "LeastEditsModel" "LeastEditsModel" "kept" "[Z") 714 (by decide +kernel) rfl)
  | 7, _ => exact (uw_at (w := Cond.laysFinal "LeastEditsModel" "LeastEditsModel" "xs" "[J") 716 (by decide +kernel) rfl)
  | 8, _ => exact (uw_at (w := Cond.laysFinal "LeastEditsModel" "LeastEditsModel" "ys" "[J") 718 (by decide +kernel) rfl)
  | 9, _ => exact (uw_at (w := Cond.lays "LeastEditsModel" "LeastEditsModel" "inputs" "I") 720 (by decide +kernel) rfl)
  | 10, _ => exact (uw_at (w := Cond.lays "LeastEditsModel" "LeastEditsModel" "olds" "I") 722 (by decide +kernel) rfl)
  | 11, _ => exact (uw_at (w := Cond.lays "LeastEditsModel" "LeastEditsModel" "askeds" "I") 724 (by decide +kernel) rfl)
  | 12, _ => exact (uw_at (w := Cond.lays "LeastEditsModel" "LeastEditsModel" "outputs" "I") 726 (by decide +kernel) rfl)
  | 13, _ => exact (uw_at (w := Cond.laysFinal "LeastEditsModel" "LeastEditsModel" "mine" "[I") 728 (by decide +kernel) rfl)
  | 14, _ => exact (uw_at (w := Cond.laysFinal "LeastEditsModel" "LeastEditsModel" "due" "[I") 730 (by decide +kernel) rfl)
  | 15, _ => exact (uw_at (w := Cond.lays "LeastEditsModel" "LeastEditsModel" "spares" "I") 732 (by decide +kernel) rfl)
  | 16, _ => exact (uw_at (w := Cond.laysFinal "LeastEditsModel" "LeastEditsModel" "spareX" "[J") 734 (by decide +kernel) rfl)
  | 17, _ => exact (uw_at (w := Cond.laysFinal "LeastEditsModel" "LeastEditsModel" "spareY" "[J") 736 (by decide +kernel) rfl)
  | 18, _ => exact (uw_at (w := Cond.lays "LeastEditsModel" "LeastEditsModel" "found" "Z") 738 (by decide +kernel) rfl)
  | 19, _ => exact (uw_at (w := Cond.lays "LeastEditsModel" "LeastEditsModel" "edits" "I") 740 (by decide +kernel) rfl)
  | 20, _ => exact (uw_at (w := Cond.laysFinal "LeastEditsModel" "LeastEditsModel" "editNode" "[I") 742 (by decide +kernel) rfl)
  | 21, _ => exact (uw_at (w := Cond.laysFinal "LeastEditsModel" "LeastEditsModel" "editOne" "[I") 744 (by decide +kernel) rfl)
  | 22, _ => exact (uw_at (w := Cond.laysFinal "LeastEditsModel" "LeastEditsModel" "editTwo" "[I") 746 (by decide +kernel) rfl)
  | 23, _ => exact (uw_at (w := Cond.lays "LeastEditsModel" "LeastEditsModel" "takes" "Z") 748 (by decide +kernel) rfl)
  | 24, _ => exact (uw_at (w := Cond.laysFinal "LeastEditsModel" "LeastEditsModel" "spareOf" "[I") 750 (by decide +kernel) rfl)
  | 25, _ => exact (uw_at (w := Cond.lays "LeastEditsModel" "LeastEditsModel" "sum" "J") 752 (by decide +kernel) rfl)
  | 26, _ => exact (uw_at (w := Cond.lays "LeastEditsModel" "LeastEditsModel" "made" "I") 754 (by decide +kernel) rfl)
  | 27, _ => exact (uw_at (w := Cond.laysFinal "LeastEditsModel" "LeastEditsModel" "madeCount" "[I") 756 (by decide +kernel) rfl)
  | 28, _ => exact (uw_at (w := Cond.laysFinal "LeastEditsModel" "LeastEditsModel" "madeNode" "[I") 758 (by decide +kernel) rfl)
  | 29, _ => exact (uw_at (w := Cond.laysFinal "LeastEditsModel" "LeastEditsModel" "madeOne" "[I") 760 (by decide +kernel) rfl)
  | 30, _ => exact (uw_at (w := Cond.laysFinal "LeastEditsModel" "LeastEditsModel" "madeTwo" "[I") 762 (by decide +kernel) rfl)
  | k + 31, h => exact absurd h (by omega)
theorem wM_X7_init : w_MI yX7_init cX7_init 1 0 := ⟨(uw_at 21 (by decide +kernel) rfl), (uw_at 1 (by decide +kernel) rfl), (uw_at 22 (by decide +kernel) rfl), ⟨rfl, by decide +kernel, by decide +kernel, by decide +kernel⟩⟩
theorem wM_X3_init : w_MI yX3_init cX3_init 1 0 := ⟨(uw_at 29 (by decide +kernel) rfl), (uw_at 2 (by decide +kernel) rfl), (uw_at 30 (by decide +kernel) rfl), ⟨rfl, by decide +kernel, by decide +kernel, by decide +kernel⟩⟩
theorem wM_X2_init : w_MI yX2_init cX2_init 1 0 := ⟨(uw_at 84 (by decide +kernel) rfl), (uw_at 3 (by decide +kernel) rfl), (uw_at 85 (by decide +kernel) rfl), ⟨rfl, by decide +kernel, by decide +kernel, by decide +kernel⟩⟩
theorem wM_X0_init : w_MI yX0_init cX0_init 1 0 := ⟨(uw_at 101 (by decide +kernel) rfl), (uw_at 4 (by decide +kernel) rfl), (uw_at 102 (by decide +kernel) rfl), ⟨rfl, by decide +kernel, by decide +kernel, by decide +kernel⟩⟩
theorem wM_X5_init : w_MI yX5_init cX5_init 4 2 := ⟨(uw_at 125 (by decide +kernel) rfl), (uw_at 5 (by decide +kernel) rfl), (uw_at 126 (by decide +kernel) rfl), ⟨rfl, by decide +kernel, by decide +kernel, by decide +kernel⟩⟩
theorem wM_X1_init : w_MI yX1_init cX1_init 1 0 := ⟨(uw_at 132 (by decide +kernel) rfl), (uw_at 6 (by decide +kernel) rfl), (uw_at 133 (by decide +kernel) rfl), ⟨rfl, by decide +kernel, by decide +kernel, by decide +kernel⟩⟩
theorem wM_X6_init : w_MI yX6_init cX6_init 2 1 := ⟨(uw_at 173 (by decide +kernel) rfl), (uw_at 7 (by decide +kernel) rfl), (uw_at 174 (by decide +kernel) rfl), ⟨rfl, by decide +kernel, by decide +kernel, by decide +kernel⟩⟩
theorem wM_X4_init : w_MI yX4_init cX4_init 2 0 := ⟨(uw_at 191 (by decide +kernel) rfl), (uw_at 8 (by decide +kernel) rfl), (uw_at 192 (by decide +kernel) rfl), ⟨rfl, by decide +kernel, by decide +kernel, by decide +kernel⟩⟩
theorem wM_X7_differing : w_MV yX7_differing cX7_differing 3 (some .int) 0 := ⟨(uw_at 230 (by decide +kernel) rfl), (uw_at 231 (by decide +kernel) rfl), (uw_at 1 (by decide +kernel) rfl), (uw_at 232 (by decide +kernel) rfl), ⟨by decide +kernel, by decide +kernel, by decide +kernel⟩⟩
theorem wM_X2_difference : w_MV yX2_difference cX2_difference 4 (some .int) 2 := ⟨(uw_at 234 (by decide +kernel) rfl), (uw_at 235 (by decide +kernel) rfl), (uw_at 3 (by decide +kernel) rfl), (uw_at 236 (by decide +kernel) rfl), ⟨by decide +kernel, by decide +kernel, by decide +kernel⟩⟩
theorem wM_X7_undo : w_MV yX7_undo cX7_undo 1 (some .boolean) 0 := ⟨(uw_at 238 (by decide +kernel) rfl), (uw_at 239 (by decide +kernel) rfl), (uw_at 1 (by decide +kernel) rfl), (uw_at 240 (by decide +kernel) rfl), ⟨by decide +kernel, by decide +kernel, by decide +kernel⟩⟩
theorem wM_X4_takeBackLast : w_MV yX4_takeBackLast cX4_takeBackLast 3 none 1 := ⟨(uw_at 242 (by decide +kernel) rfl), (uw_at 243 (by decide +kernel) rfl), (uw_at 8 (by decide +kernel) rfl), (uw_at 244 (by decide +kernel) rfl), ⟨by decide +kernel, by decide +kernel, by decide +kernel⟩⟩
theorem wM_X3_rewire : w_MV yX3_rewire cX3_rewire 2 none 1 := ⟨(uw_at 246 (by decide +kernel) rfl), (uw_at 247 (by decide +kernel) rfl), (uw_at 2 (by decide +kernel) rfl), (uw_at 248 (by decide +kernel) rfl), ⟨by decide +kernel, by decide +kernel, by decide +kernel⟩⟩
theorem wM_X3_refreshOldColumns : w_MV yX3_refreshOldColumns cX3_refreshOldColumns 3 none 0 := ⟨(uw_at 250 (by decide +kernel) rfl), (uw_at 251 (by decide +kernel) rfl), (uw_at 2 (by decide +kernel) rfl), (uw_at 252 (by decide +kernel) rfl), ⟨by decide +kernel, by decide +kernel, by decide +kernel⟩⟩
theorem wM_X3_firstOld : w_MV yX3_firstOld cX3_firstOld 1 (some .int) 0 := ⟨(uw_at 254 (by decide +kernel) rfl), (uw_at 255 (by decide +kernel) rfl), (uw_at 2 (by decide +kernel) rfl), (uw_at 256 (by decide +kernel) rfl), ⟨by decide +kernel, by decide +kernel, by decide +kernel⟩⟩
theorem wM_X3_owned : w_MV yX3_owned cX3_owned 1 (some .int) 0 := ⟨(uw_at 258 (by decide +kernel) rfl), (uw_at 259 (by decide +kernel) rfl), (uw_at 2 (by decide +kernel) rfl), (uw_at 260 (by decide +kernel) rfl), ⟨by decide +kernel, by decide +kernel, by decide +kernel⟩⟩
theorem wM_X7_column : w_MS yX7_column cX7_column 2 (some .int) 2 := ⟨(uw_at 262 (by decide +kernel) rfl), (uw_at 1 (by decide +kernel) rfl), (uw_at 263 (by decide +kernel) rfl), ⟨by decide +kernel, by decide +kernel, by decide +kernel⟩⟩
theorem wM_X7_clear : w_MV yX7_clear cX7_clear 1 none 0 := ⟨(uw_at 265 (by decide +kernel) rfl), (uw_at 266 (by decide +kernel) rfl), (uw_at 1 (by decide +kernel) rfl), (uw_at 267 (by decide +kernel) rfl), ⟨by decide +kernel, by decide +kernel, by decide +kernel⟩⟩
theorem wM_X3_reset : w_MV yX3_reset cX3_reset 1 none 0 := ⟨(uw_at 269 (by decide +kernel) rfl), (uw_at 270 (by decide +kernel) rfl), (uw_at 2 (by decide +kernel) rfl), (uw_at 271 (by decide +kernel) rfl), ⟨by decide +kernel, by decide +kernel, by decide +kernel⟩⟩
theorem wM_X7_input : w_MV yX7_input cX7_input 1 (some .int) 0 := ⟨(uw_at 277 (by decide +kernel) rfl), (uw_at 278 (by decide +kernel) rfl), (uw_at 1 (by decide +kernel) rfl), (uw_at 279 (by decide +kernel) rfl), ⟨by decide +kernel, by decide +kernel, by decide +kernel⟩⟩
theorem wM_X3_addInput : w_MV yX3_addInput cX3_addInput 2 (some .int) 0 := ⟨(uw_at 349 (by decide +kernel) rfl), (uw_at 350 (by decide +kernel) rfl), (uw_at 2 (by decide +kernel) rfl), (uw_at 351 (by decide +kernel) rfl), ⟨by decide +kernel, by decide +kernel, by decide +kernel⟩⟩
theorem wM_X7_old : w_MV yX7_old cX7_old 3 (some .int) 2 := ⟨(uw_at 360 (by decide +kernel) rfl), (uw_at 361 (by decide +kernel) rfl), (uw_at 1 (by decide +kernel) rfl), (uw_at 362 (by decide +kernel) rfl), ⟨by decide +kernel, by decide +kernel, by decide +kernel⟩⟩
theorem wM_X3_hasLiteral : w_MV yX3_hasLiteral cX3_hasLiteral 2 (some .boolean) 1 := ⟨(uw_at 364 (by decide +kernel) rfl), (uw_at 365 (by decide +kernel) rfl), (uw_at 2 (by decide +kernel) rfl), (uw_at 366 (by decide +kernel) rfl), ⟨by decide +kernel, by decide +kernel, by decide +kernel⟩⟩
theorem wM_X3_isOf : w_MV yX3_isOf cX3_isOf 3 (some .boolean) 2 := ⟨(uw_at 385 (by decide +kernel) rfl), (uw_at 386 (by decide +kernel) rfl), (uw_at 2 (by decide +kernel) rfl), (uw_at 387 (by decide +kernel) rfl), ⟨by decide +kernel, by decide +kernel, by decide +kernel⟩⟩
theorem wM_X0_putAtOrigin : w_MV yX0_putAtOrigin cX0_putAtOrigin 2 none 1 := ⟨(uw_at 405 (by decide +kernel) rfl), (uw_at 406 (by decide +kernel) rfl), (uw_at 4 (by decide +kernel) rfl), (uw_at 407 (by decide +kernel) rfl), ⟨by decide +kernel, by decide +kernel, by decide +kernel⟩⟩
theorem wM_X3_addOld : w_MV yX3_addOld cX3_addOld 3 (some .int) 2 := ⟨(uw_at 409 (by decide +kernel) rfl), (uw_at 410 (by decide +kernel) rfl), (uw_at 2 (by decide +kernel) rfl), (uw_at 411 (by decide +kernel) rfl), ⟨by decide +kernel, by decide +kernel, by decide +kernel⟩⟩
theorem wM_X3_addAnd : w_MV yX3_addAnd cX3_addAnd 5 (some .int) 3 := ⟨(uw_at 414 (by decide +kernel) rfl), (uw_sel 1 (by decide +kernel) rfl), (uw_at 2 (by decide +kernel) rfl), (uw_at 415 (by decide +kernel) rfl), ⟨by decide +kernel, by decide +kernel, by decide +kernel⟩⟩
theorem wM_X7_asked : w_MV yX7_asked cX7_asked 3 (some .int) 2 := ⟨(uw_at 420 (by decide +kernel) rfl), (uw_at 421 (by decide +kernel) rfl), (uw_at 1 (by decide +kernel) rfl), (uw_at 422 (by decide +kernel) rfl), ⟨by decide +kernel, by decide +kernel, by decide +kernel⟩⟩
theorem wM_X3_addAsked : w_MV yX3_addAsked cX3_addAsked 3 (some .int) 2 := ⟨(uw_at 426 (by decide +kernel) rfl), (uw_at 427 (by decide +kernel) rfl), (uw_at 2 (by decide +kernel) rfl), (uw_at 428 (by decide +kernel) rfl), ⟨by decide +kernel, by decide +kernel, by decide +kernel⟩⟩
theorem wM_X7_output : w_MV yX7_output cX7_output 3 (some .int) 2 := ⟨(uw_at 433 (by decide +kernel) rfl), (uw_at 434 (by decide +kernel) rfl), (uw_at 1 (by decide +kernel) rfl), (uw_at 435 (by decide +kernel) rfl), ⟨by decide +kernel, by decide +kernel, by decide +kernel⟩⟩
theorem wM_X2_add : w_MV yX2_add cX2_add 3 (some .int) 2 := ⟨(uw_at 439 (by decide +kernel) rfl), (uw_at 440 (by decide +kernel) rfl), (uw_at 3 (by decide +kernel) rfl), (uw_at 441 (by decide +kernel) rfl), ⟨by decide +kernel, by decide +kernel, by decide +kernel⟩⟩
theorem wM_X7_value : w_MV yX7_value cX7_value 4 (some .int) 2 := ⟨(uw_at 446 (by decide +kernel) rfl), (uw_at 447 (by decide +kernel) rfl), (uw_at 1 (by decide +kernel) rfl), (uw_at 448 (by decide +kernel) rfl), ⟨by decide +kernel, by decide +kernel, by decide +kernel⟩⟩
theorem wM_X7_witness : w_MV yX7_witness cX7_witness 2 (some .int) 1 := ⟨(uw_at 454 (by decide +kernel) rfl), (uw_at 455 (by decide +kernel) rfl), (uw_at 1 (by decide +kernel) rfl), (uw_at 456 (by decide +kernel) rfl), ⟨by decide +kernel, by decide +kernel, by decide +kernel⟩⟩
theorem wM_X7_leastBit : w_MS yX7_leastBit cX7_leastBit 2 (some .int) 1 := ⟨(uw_at 459 (by decide +kernel) rfl), (uw_at 1 (by decide +kernel) rfl), (uw_at 460 (by decide +kernel) rfl), ⟨by decide +kernel, by decide +kernel, by decide +kernel⟩⟩
theorem wM_X7_matched : w_MV yX7_matched cX7_matched 2 (some .int) 1 := ⟨(uw_at 465 (by decide +kernel) rfl), (uw_at 466 (by decide +kernel) rfl), (uw_at 1 (by decide +kernel) rfl), (uw_at 467 (by decide +kernel) rfl), ⟨by decide +kernel, by decide +kernel, by decide +kernel⟩⟩
theorem wM_X3_leastOwnLiteralOf : w_MV yX3_leastOwnLiteralOf cX3_leastOwnLiteralOf 3 (some .int) 1 := ⟨(uw_at 469 (by decide +kernel) rfl), (uw_at 470 (by decide +kernel) rfl), (uw_at 2 (by decide +kernel) rfl), (uw_at 471 (by decide +kernel) rfl), ⟨by decide +kernel, by decide +kernel, by decide +kernel⟩⟩
theorem wM_X3_ownLiteral : w_MV yX3_ownLiteral cX3_ownLiteral 2 (some .int) 1 := ⟨(uw_at 473 (by decide +kernel) rfl), (uw_at 474 (by decide +kernel) rfl), (uw_at 2 (by decide +kernel) rfl), (uw_at 475 (by decide +kernel) rfl), ⟨by decide +kernel, by decide +kernel, by decide +kernel⟩⟩
theorem wM_X7_keep : w_MV yX7_keep cX7_keep 3 (some .boolean) 2 := ⟨(uw_at 480 (by decide +kernel) rfl), (uw_at 481 (by decide +kernel) rfl), (uw_at 1 (by decide +kernel) rfl), (uw_at 482 (by decide +kernel) rfl), ⟨by decide +kernel, by decide +kernel, by decide +kernel⟩⟩
theorem wM_X3_isOldNode : w_MV yX3_isOldNode cX3_isOldNode 2 (some .boolean) 1 := ⟨(uw_at 484 (by decide +kernel) rfl), (uw_at 485 (by decide +kernel) rfl), (uw_at 2 (by decide +kernel) rfl), (uw_at 486 (by decide +kernel) rfl), ⟨by decide +kernel, by decide +kernel, by decide +kernel⟩⟩
theorem wM_X7_place : w_MV yX7_place cX7_place 6 (some .boolean) 3 := ⟨(uw_at 492 (by decide +kernel) rfl), (uw_at 493 (by decide +kernel) rfl), (uw_at 1 (by decide +kernel) rfl), (uw_at 494 (by decide +kernel) rfl), ⟨by decide +kernel, by decide +kernel, by decide +kernel⟩⟩
theorem wM_X7_isTooFar : w_MS yX7_isTooFar cX7_isTooFar 2 (some .boolean) 1 := ⟨(uw_at 496 (by decide +kernel) rfl), (uw_at 1 (by decide +kernel) rfl), (uw_at 497 (by decide +kernel) rfl), ⟨by decide +kernel, by decide +kernel, by decide +kernel⟩⟩
theorem wM_X0_moveNode : w_MV yX0_moveNode cX0_moveNode 5 (some .boolean) 3 := ⟨(uw_at 502 (by decide +kernel) rfl), (uw_at 503 (by decide +kernel) rfl), (uw_at 4 (by decide +kernel) rfl), (uw_at 504 (by decide +kernel) rfl), ⟨by decide +kernel, by decide +kernel, by decide +kernel⟩⟩
theorem wM_X7_spare : w_MV yX7_spare cX7_spare 5 (some .int) 2 := ⟨(uw_at 509 (by decide +kernel) rfl), (uw_at 510 (by decide +kernel) rfl), (uw_at 1 (by decide +kernel) rfl), (uw_at 511 (by decide +kernel) rfl), ⟨by decide +kernel, by decide +kernel, by decide +kernel⟩⟩
theorem wM_X0_addSpare : w_MV yX0_addSpare cX0_addSpare 3 (some .int) 2 := ⟨(uw_at 514 (by decide +kernel) rfl), (uw_at 515 (by decide +kernel) rfl), (uw_at 4 (by decide +kernel) rfl), (uw_at 516 (by decide +kernel) rfl), ⟨by decide +kernel, by decide +kernel, by decide +kernel⟩⟩
theorem wM_X7_run : w_MV yX7_run cX7_run 2 (some .int) 1 := ⟨(uw_at 521 (by decide +kernel) rfl), (uw_at 522 (by decide +kernel) rfl), (uw_at 1 (by decide +kernel) rfl), (uw_at 523 (by decide +kernel) rfl), ⟨by decide +kernel, by decide +kernel, by decide +kernel⟩⟩
theorem wM_X5_fewestEdits : w_MV yX5_fewestEdits cX5_fewestEdits 2 (some .int) 1 := ⟨(uw_at 526 (by decide +kernel) rfl), (uw_at 527 (by decide +kernel) rfl), (uw_at 5 (by decide +kernel) rfl), (uw_at 528 (by decide +kernel) rfl), ⟨by decide +kernel, by decide +kernel, by decide +kernel⟩⟩
theorem wM_X5_showAsItIs : w_MV yX5_showAsItIs cX5_showAsItIs 2 none 0 := ⟨(uw_at 531 (by decide +kernel) rfl), (uw_sel 2 (by decide +kernel) rfl), (uw_at 5 (by decide +kernel) rfl), (uw_at 532 (by decide +kernel) rfl), ⟨by decide +kernel, by decide +kernel, by decide +kernel⟩⟩
theorem wM_X5_show : w_MV yX5_show cX5_show 3 none 2 := ⟨(uw_at 539 (by decide +kernel) rfl), (uw_sel 3 (by decide +kernel) rfl), (uw_at 5 (by decide +kernel) rfl), (uw_at 540 (by decide +kernel) rfl), ⟨by decide +kernel, by decide +kernel, by decide +kernel⟩⟩
theorem wM_X2_agreement : w_MV yX2_agreement cX2_agreement 4 (some .int) 1 := ⟨(uw_at 542 (by decide +kernel) rfl), (uw_at 543 (by decide +kernel) rfl), (uw_at 3 (by decide +kernel) rfl), (uw_at 544 (by decide +kernel) rfl), ⟨by decide +kernel, by decide +kernel, by decide +kernel⟩⟩
theorem wM_X5_findOne : w_MV yX5_findOne cX5_findOne 4 (some .boolean) 0 := ⟨(uw_at 548 (by decide +kernel) rfl), (uw_sel 4 (by decide +kernel) rfl), (uw_at 5 (by decide +kernel) rfl), (uw_at 549 (by decide +kernel) rfl), ⟨by decide +kernel, by decide +kernel, by decide +kernel⟩⟩
theorem wM_X5_agreementWith : w_MV yX5_agreementWith cX5_agreementWith 5 (some .int) 4 := ⟨(uw_at 553 (by decide +kernel) rfl), (uw_sel 5 (by decide +kernel) rfl), (uw_at 5 (by decide +kernel) rfl), (uw_at 554 (by decide +kernel) rfl), ⟨by decide +kernel, by decide +kernel, by decide +kernel⟩⟩
theorem wM_X5_setAndSpread : w_MV yX5_setAndSpread cX5_setAndSpread 7 none 4 := ⟨(uw_at 557 (by decide +kernel) rfl), (uw_sel 6 (by decide +kernel) rfl), (uw_at 5 (by decide +kernel) rfl), (uw_at 558 (by decide +kernel) rfl), ⟨by decide +kernel, by decide +kernel, by decide +kernel⟩⟩
theorem wM_X5_findLiterals : w_MV yX5_findLiterals cX5_findLiterals 7 (some .boolean) 4 := ⟨(uw_at 562 (by decide +kernel) rfl), (uw_sel 7 (by decide +kernel) rfl), (uw_at 5 (by decide +kernel) rfl), (uw_at 563 (by decide +kernel) rfl), ⟨by decide +kernel, by decide +kernel, by decide +kernel⟩⟩
theorem wM_X5_findPartner : w_MV yX5_findPartner cX5_findPartner 7 (some .int) 4 := ⟨(uw_at 566 (by decide +kernel) rfl), (uw_sel 8 (by decide +kernel) rfl), (uw_at 5 (by decide +kernel) rfl), (uw_at 567 (by decide +kernel) rfl), ⟨by decide +kernel, by decide +kernel, by decide +kernel⟩⟩
theorem wM_X1_put : w_MV yX1_put cX1_put 4 none 3 := ⟨(uw_at 570 (by decide +kernel) rfl), (uw_at 571 (by decide +kernel) rfl), (uw_at 6 (by decide +kernel) rfl), (uw_at 572 (by decide +kernel) rfl), ⟨by decide +kernel, by decide +kernel, by decide +kernel⟩⟩
theorem wM_X5_findTwo : w_MV yX5_findTwo cX5_findTwo 3 (some .boolean) 0 := ⟨(uw_at 575 (by decide +kernel) rfl), (uw_sel 9 (by decide +kernel) rfl), (uw_at 5 (by decide +kernel) rfl), (uw_at 576 (by decide +kernel) rfl), ⟨by decide +kernel, by decide +kernel, by decide +kernel⟩⟩
theorem wM_X5_findPair : w_MV yX5_findPair cX5_findPair 12 (some .boolean) 2 := ⟨(uw_at 579 (by decide +kernel) rfl), (uw_sel 10 (by decide +kernel) rfl), (uw_at 5 (by decide +kernel) rfl), (uw_at 580 (by decide +kernel) rfl), ⟨by decide +kernel, by decide +kernel, by decide +kernel⟩⟩
theorem wM_X6_take : w_MV yX6_take cX6_take 3 none 2 := ⟨(uw_at 582 (by decide +kernel) rfl), (uw_at 583 (by decide +kernel) rfl), (uw_at 7 (by decide +kernel) rfl), (uw_at 584 (by decide +kernel) rfl), ⟨by decide +kernel, by decide +kernel, by decide +kernel⟩⟩
theorem wM_X6_takeForOne : w_MV yX6_takeForOne cX6_takeForOne 3 none 1 := ⟨(uw_at 587 (by decide +kernel) rfl), (uw_sel 11 (by decide +kernel) rfl), (uw_at 7 (by decide +kernel) rfl), (uw_at 588 (by decide +kernel) rfl), ⟨by decide +kernel, by decide +kernel, by decide +kernel⟩⟩
theorem wM_X0_distance : w_MV yX0_distance cX0_distance 3 (some .int) 2 := ⟨(uw_at 590 (by decide +kernel) rfl), (uw_at 591 (by decide +kernel) rfl), (uw_at 4 (by decide +kernel) rfl), (uw_at 592 (by decide +kernel) rfl), ⟨by decide +kernel, by decide +kernel, by decide +kernel⟩⟩
theorem wM_J9_abs_0f7a4 : w_MS yJ9_abs_0f7a4 cJ9_abs_0f7a4 1 (some .int) 1 := ⟨(uw_at 594 (by decide +kernel) rfl), (uw_at 17 (by decide +kernel) rfl), (uw_at 595 (by decide +kernel) rfl), ⟨by decide +kernel, by decide +kernel, by decide +kernel⟩⟩
theorem wM_X6_offer : w_MV yX6_offer cX6_offer 4 none 3 := ⟨(uw_at 598 (by decide +kernel) rfl), (uw_sel 12 (by decide +kernel) rfl), (uw_at 7 (by decide +kernel) rfl), (uw_at 599 (by decide +kernel) rfl), ⟨by decide +kernel, by decide +kernel, by decide +kernel⟩⟩
theorem wM_X6_takeForTwo : w_MV yX6_takeForTwo cX6_takeForTwo 5 none 2 := ⟨(uw_at 602 (by decide +kernel) rfl), (uw_sel 13 (by decide +kernel) rfl), (uw_at 7 (by decide +kernel) rfl), (uw_at 603 (by decide +kernel) rfl), ⟨by decide +kernel, by decide +kernel, by decide +kernel⟩⟩
theorem wM_X7_edit : w_MV yX7_edit cX7_edit 4 (some .int) 2 := ⟨(uw_at 608 (by decide +kernel) rfl), (uw_at 609 (by decide +kernel) rfl), (uw_at 1 (by decide +kernel) rfl), (uw_at 610 (by decide +kernel) rfl), ⟨by decide +kernel, by decide +kernel, by decide +kernel⟩⟩
theorem wM_X7_used : w_MV yX7_used cX7_used 2 (some .int) 1 := ⟨(uw_at 618 (by decide +kernel) rfl), (uw_at 619 (by decide +kernel) rfl), (uw_at 1 (by decide +kernel) rfl), (uw_at 620 (by decide +kernel) rfl), ⟨by decide +kernel, by decide +kernel, by decide +kernel⟩⟩
theorem wM_X7_length : w_MV yX7_length cX7_length 1 (some .int) 0 := ⟨(uw_at 625 (by decide +kernel) rfl), (uw_at 626 (by decide +kernel) rfl), (uw_at 1 (by decide +kernel) rfl), (uw_at 627 (by decide +kernel) rfl), ⟨by decide +kernel, by decide +kernel, by decide +kernel⟩⟩
theorem wM_X7_make : w_MV yX7_make cX7_make 3 (some .int) 0 := ⟨(uw_at 632 (by decide +kernel) rfl), (uw_at 633 (by decide +kernel) rfl), (uw_at 1 (by decide +kernel) rfl), (uw_at 634 (by decide +kernel) rfl), ⟨by decide +kernel, by decide +kernel, by decide +kernel⟩⟩
theorem wM_X4_remember : w_MV yX4_remember cX4_remember 6 none 3 := ⟨(uw_at 637 (by decide +kernel) rfl), (uw_at 638 (by decide +kernel) rfl), (uw_at 8 (by decide +kernel) rfl), (uw_at 639 (by decide +kernel) rfl), ⟨by decide +kernel, by decide +kernel, by decide +kernel⟩⟩
theorem wM_X7_literal : w_MV yX7_literal cX7_literal 3 (some .int) 2 := ⟨(uw_at 646 (by decide +kernel) rfl), (uw_at 647 (by decide +kernel) rfl), (uw_at 1 (by decide +kernel) rfl), (uw_at 648 (by decide +kernel) rfl), ⟨by decide +kernel, by decide +kernel, by decide +kernel⟩⟩
theorem wM_X7_count : w_MV yX7_count cX7_count 2 (some .int) 1 := ⟨(uw_at 654 (by decide +kernel) rfl), (uw_at 655 (by decide +kernel) rfl), (uw_at 1 (by decide +kernel) rfl), (uw_at 656 (by decide +kernel) rfl), ⟨by decide +kernel, by decide +kernel, by decide +kernel⟩⟩
theorem wM_X3_keptNodes : w_MV yX3_keptNodes cX3_keptNodes 3 (some .int) 0 := ⟨(uw_at 658 (by decide +kernel) rfl), (uw_at 659 (by decide +kernel) rfl), (uw_at 2 (by decide +kernel) rfl), (uw_at 660 (by decide +kernel) rfl), ⟨by decide +kernel, by decide +kernel, by decide +kernel⟩⟩
theorem wM_X8_init : w_MI yX8_init cX8_init 1 0 := ⟨(uw_at 664 (by decide +kernel) rfl), (uw_at 9 (by decide +kernel) rfl), (uw_at 665 (by decide +kernel) rfl), ⟨rfl, by decide +kernel, by decide +kernel, by decide +kernel⟩⟩
theorem wM_X8_clear : w_MV yX8_clear cX8_clear 1 none 0 := ⟨(uw_at 668 (by decide +kernel) rfl), (uw_at 669 (by decide +kernel) rfl), (uw_at 9 (by decide +kernel) rfl), (uw_at 670 (by decide +kernel) rfl), ⟨by decide +kernel, by decide +kernel, by decide +kernel⟩⟩
theorem wM_X8_thrown : w_MV yX8_thrown cX8_thrown 1 (some .int) 0 := ⟨(uw_at 767 (by decide +kernel) rfl), (uw_at 768 (by decide +kernel) rfl), (uw_at 9 (by decide +kernel) rfl), (uw_at 769 (by decide +kernel) rfl), ⟨by decide +kernel, by decide +kernel, by decide +kernel⟩⟩
theorem wM_X8_input : w_MV yX8_input cX8_input 3 (some .int) 0 := ⟨(uw_at 771 (by decide +kernel) rfl), (uw_at 772 (by decide +kernel) rfl), (uw_at 9 (by decide +kernel) rfl), (uw_at 773 (by decide +kernel) rfl), ⟨by decide +kernel, by decide +kernel, by decide +kernel⟩⟩
theorem wM_X8_put : w_MV yX8_put cX8_put 4 (some .int) 3 := ⟨(uw_at 776 (by decide +kernel) rfl), (uw_sel 14 (by decide +kernel) rfl), (uw_at 9 (by decide +kernel) rfl), (uw_at 777 (by decide +kernel) rfl), ⟨by decide +kernel, by decide +kernel, by decide +kernel⟩⟩
theorem wM_X8_work : w_MV yX8_work cX8_work 2 none 1 := ⟨(uw_at 780 (by decide +kernel) rfl), (uw_sel 15 (by decide +kernel) rfl), (uw_at 9 (by decide +kernel) rfl), (uw_at 781 (by decide +kernel) rfl), ⟨by decide +kernel, by decide +kernel, by decide +kernel⟩⟩
theorem wM_X8_table : w_MV yX8_table cX8_table 3 (some .int) 1 := ⟨(uw_at 784 (by decide +kernel) rfl), (uw_sel 16 (by decide +kernel) rfl), (uw_at 9 (by decide +kernel) rfl), (uw_at 785 (by decide +kernel) rfl), ⟨by decide +kernel, by decide +kernel, by decide +kernel⟩⟩
theorem wM_X8_old : w_MV yX8_old cX8_old 4 (some .int) 2 := ⟨(uw_at 787 (by decide +kernel) rfl), (uw_at 788 (by decide +kernel) rfl), (uw_at 9 (by decide +kernel) rfl), (uw_at 789 (by decide +kernel) rfl), ⟨by decide +kernel, by decide +kernel, by decide +kernel⟩⟩
theorem wM_X8_isLiteral : w_MV yX8_isLiteral cX8_isLiteral 2 (some .boolean) 1 := ⟨(uw_at 792 (by decide +kernel) rfl), (uw_sel 17 (by decide +kernel) rfl), (uw_at 9 (by decide +kernel) rfl), (uw_at 793 (by decide +kernel) rfl), ⟨by decide +kernel, by decide +kernel, by decide +kernel⟩⟩
theorem wM_X8_isIn : w_MS yX8_isIn cX8_isIn 2 (some .boolean) 2 := ⟨(uw_at 795 (by decide +kernel) rfl), (uw_at 9 (by decide +kernel) rfl), (uw_at 796 (by decide +kernel) rfl), ⟨by decide +kernel, by decide +kernel, by decide +kernel⟩⟩
theorem wM_X8_isOf : w_MV yX8_isOf cX8_isOf 3 (some .boolean) 2 := ⟨(uw_at 799 (by decide +kernel) rfl), (uw_sel 18 (by decide +kernel) rfl), (uw_at 9 (by decide +kernel) rfl), (uw_at 800 (by decide +kernel) rfl), ⟨by decide +kernel, by decide +kernel, by decide +kernel⟩⟩
theorem wM_X8_asked : w_MV yX8_asked cX8_asked 4 (some .int) 2 := ⟨(uw_at 802 (by decide +kernel) rfl), (uw_at 803 (by decide +kernel) rfl), (uw_at 9 (by decide +kernel) rfl), (uw_at 804 (by decide +kernel) rfl), ⟨by decide +kernel, by decide +kernel, by decide +kernel⟩⟩
theorem wM_X8_output : w_MV yX8_output cX8_output 4 (some .int) 2 := ⟨(uw_at 806 (by decide +kernel) rfl), (uw_at 807 (by decide +kernel) rfl), (uw_at 9 (by decide +kernel) rfl), (uw_at 808 (by decide +kernel) rfl), ⟨by decide +kernel, by decide +kernel, by decide +kernel⟩⟩
theorem wM_X8_value : w_MV yX8_value cX8_value 4 (some .int) 2 := ⟨(uw_at 810 (by decide +kernel) rfl), (uw_at 811 (by decide +kernel) rfl), (uw_at 9 (by decide +kernel) rfl), (uw_at 812 (by decide +kernel) rfl), ⟨by decide +kernel, by decide +kernel, by decide +kernel⟩⟩
theorem wM_X8_differing : w_MV yX8_differing cX8_differing 1 (some .int) 0 := ⟨(uw_at 814 (by decide +kernel) rfl), (uw_at 815 (by decide +kernel) rfl), (uw_at 9 (by decide +kernel) rfl), (uw_at 816 (by decide +kernel) rfl), ⟨by decide +kernel, by decide +kernel, by decide +kernel⟩⟩
theorem wM_X8_apart : w_MV yX8_apart cX8_apart 3 (some .int) 0 := ⟨(uw_at 819 (by decide +kernel) rfl), (uw_sel 19 (by decide +kernel) rfl), (uw_at 9 (by decide +kernel) rfl), (uw_at 820 (by decide +kernel) rfl), ⟨by decide +kernel, by decide +kernel, by decide +kernel⟩⟩
theorem wM_X8_isApart : w_MV yX8_isApart cX8_isApart 2 (some .boolean) 1 := ⟨(uw_at 823 (by decide +kernel) rfl), (uw_sel 20 (by decide +kernel) rfl), (uw_at 9 (by decide +kernel) rfl), (uw_at 824 (by decide +kernel) rfl), ⟨by decide +kernel, by decide +kernel, by decide +kernel⟩⟩
theorem wM_X8_witness : w_MV yX8_witness cX8_witness 4 (some .int) 1 := ⟨(uw_at 826 (by decide +kernel) rfl), (uw_at 827 (by decide +kernel) rfl), (uw_at 9 (by decide +kernel) rfl), (uw_at 828 (by decide +kernel) rfl), ⟨by decide +kernel, by decide +kernel, by decide +kernel⟩⟩
theorem wM_X8_matched : w_MV yX8_matched cX8_matched 3 (some .int) 1 := ⟨(uw_at 830 (by decide +kernel) rfl), (uw_at 831 (by decide +kernel) rfl), (uw_at 9 (by decide +kernel) rfl), (uw_at 832 (by decide +kernel) rfl), ⟨by decide +kernel, by decide +kernel, by decide +kernel⟩⟩
theorem wM_X8_keep : w_MV yX8_keep cX8_keep 3 (some .boolean) 2 := ⟨(uw_at 834 (by decide +kernel) rfl), (uw_at 835 (by decide +kernel) rfl), (uw_at 9 (by decide +kernel) rfl), (uw_at 836 (by decide +kernel) rfl), ⟨by decide +kernel, by decide +kernel, by decide +kernel⟩⟩
theorem wM_X8_isOld : w_MV yX8_isOld cX8_isOld 2 (some .boolean) 1 := ⟨(uw_at 839 (by decide +kernel) rfl), (uw_sel 21 (by decide +kernel) rfl), (uw_at 9 (by decide +kernel) rfl), (uw_at 840 (by decide +kernel) rfl), ⟨by decide +kernel, by decide +kernel, by decide +kernel⟩⟩
theorem wM_X8_place : w_MV yX8_place cX8_place 6 (some .boolean) 3 := ⟨(uw_at 842 (by decide +kernel) rfl), (uw_at 843 (by decide +kernel) rfl), (uw_at 9 (by decide +kernel) rfl), (uw_at 844 (by decide +kernel) rfl), ⟨by decide +kernel, by decide +kernel, by decide +kernel⟩⟩
theorem wM_X8_isNear : w_MS yX8_isNear cX8_isNear 2 (some .boolean) 1 := ⟨(uw_at 846 (by decide +kernel) rfl), (uw_at 9 (by decide +kernel) rfl), (uw_at 847 (by decide +kernel) rfl), ⟨by decide +kernel, by decide +kernel, by decide +kernel⟩⟩
theorem wM_X8_spare : w_MV yX8_spare cX8_spare 5 (some .int) 2 := ⟨(uw_at 851 (by decide +kernel) rfl), (uw_at 852 (by decide +kernel) rfl), (uw_at 9 (by decide +kernel) rfl), (uw_at 853 (by decide +kernel) rfl), ⟨by decide +kernel, by decide +kernel, by decide +kernel⟩⟩
theorem wM_X8_run : w_MV yX8_run cX8_run 3 (some .int) 1 := ⟨(uw_at 855 (by decide +kernel) rfl), (uw_at 856 (by decide +kernel) rfl), (uw_at 9 (by decide +kernel) rfl), (uw_at 857 (by decide +kernel) rfl), ⟨by decide +kernel, by decide +kernel, by decide +kernel⟩⟩
theorem wM_X8_search : w_MV yX8_search cX8_search 4 (some .boolean) 1 := ⟨(uw_at 860 (by decide +kernel) rfl), (uw_sel 22 (by decide +kernel) rfl), (uw_at 9 (by decide +kernel) rfl), (uw_at 861 (by decide +kernel) rfl), ⟨by decide +kernel, by decide +kernel, by decide +kernel⟩⟩
theorem wM_X8_isFree : w_MV yX8_isFree cX8_isFree 2 (some .boolean) 1 := ⟨(uw_at 864 (by decide +kernel) rfl), (uw_sel 23 (by decide +kernel) rfl), (uw_at 9 (by decide +kernel) rfl), (uw_at 865 (by decide +kernel) rfl), ⟨by decide +kernel, by decide +kernel, by decide +kernel⟩⟩
theorem wM_X8_tryAt : w_MV yX8_tryAt cX8_tryAt 8 (some .boolean) 2 := ⟨(uw_at 868 (by decide +kernel) rfl), (uw_sel 24 (by decide +kernel) rfl), (uw_at 9 (by decide +kernel) rfl), (uw_at 869 (by decide +kernel) rfl), ⟨by decide +kernel, by decide +kernel, by decide +kernel⟩⟩
theorem wM_X8_mayBe : w_MV yX8_mayBe cX8_mayBe 2 (some .boolean) 1 := ⟨(uw_at 872 (by decide +kernel) rfl), (uw_sel 25 (by decide +kernel) rfl), (uw_at 9 (by decide +kernel) rfl), (uw_at 873 (by decide +kernel) rfl), ⟨by decide +kernel, by decide +kernel, by decide +kernel⟩⟩
theorem wM_X8_workOlds : w_MV yX8_workOlds cX8_workOlds 3 none 1 := ⟨(uw_at 876 (by decide +kernel) rfl), (uw_sel 26 (by decide +kernel) rfl), (uw_at 9 (by decide +kernel) rfl), (uw_at 877 (by decide +kernel) rfl), ⟨by decide +kernel, by decide +kernel, by decide +kernel⟩⟩
theorem wM_X8_trySecond : w_MV yX8_trySecond cX8_trySecond 7 (some .boolean) 1 := ⟨(uw_at 880 (by decide +kernel) rfl), (uw_sel 27 (by decide +kernel) rfl), (uw_at 9 (by decide +kernel) rfl), (uw_at 881 (by decide +kernel) rfl), ⟨by decide +kernel, by decide +kernel, by decide +kernel⟩⟩
theorem wM_X8_take : w_MV yX8_take cX8_take 6 none 0 := ⟨(uw_at 884 (by decide +kernel) rfl), (uw_sel 28 (by decide +kernel) rfl), (uw_at 9 (by decide +kernel) rfl), (uw_at 885 (by decide +kernel) rfl), ⟨by decide +kernel, by decide +kernel, by decide +kernel⟩⟩
theorem wM_X8_far : w_MV yX8_far cX8_far 4 (some .long) 2 := ⟨(uw_at 888 (by decide +kernel) rfl), (uw_sel 29 (by decide +kernel) rfl), (uw_at 9 (by decide +kernel) rfl), (uw_at 889 (by decide +kernel) rfl), ⟨by decide +kernel, by decide +kernel, by decide +kernel⟩⟩
theorem wM_X8_size : w_MS yX8_size cX8_size 2 (some .long) 1 := ⟨(uw_at 891 (by decide +kernel) rfl), (uw_at 9 (by decide +kernel) rfl), (uw_at 892 (by decide +kernel) rfl), ⟨by decide +kernel, by decide +kernel, by decide +kernel⟩⟩
theorem wM_X8_edit : w_MV yX8_edit cX8_edit 3 (some .int) 2 := ⟨(uw_at 894 (by decide +kernel) rfl), (uw_at 895 (by decide +kernel) rfl), (uw_at 9 (by decide +kernel) rfl), (uw_at 896 (by decide +kernel) rfl), ⟨by decide +kernel, by decide +kernel, by decide +kernel⟩⟩
theorem wM_X8_used : w_MV yX8_used cX8_used 2 (some .int) 1 := ⟨(uw_at 898 (by decide +kernel) rfl), (uw_at 899 (by decide +kernel) rfl), (uw_at 9 (by decide +kernel) rfl), (uw_at 900 (by decide +kernel) rfl), ⟨by decide +kernel, by decide +kernel, by decide +kernel⟩⟩
theorem wM_X8_length : w_MV yX8_length cX8_length 1 (some .int) 0 := ⟨(uw_at 902 (by decide +kernel) rfl), (uw_at 903 (by decide +kernel) rfl), (uw_at 9 (by decide +kernel) rfl), (uw_at 904 (by decide +kernel) rfl), ⟨by decide +kernel, by decide +kernel, by decide +kernel⟩⟩
theorem wM_X8_make : w_MV yX8_make cX8_make 3 (some .int) 0 := ⟨(uw_at 906 (by decide +kernel) rfl), (uw_at 907 (by decide +kernel) rfl), (uw_at 9 (by decide +kernel) rfl), (uw_at 908 (by decide +kernel) rfl), ⟨by decide +kernel, by decide +kernel, by decide +kernel⟩⟩
theorem wM_X8_undo : w_MV yX8_undo cX8_undo 3 (some .boolean) 0 := ⟨(uw_at 910 (by decide +kernel) rfl), (uw_at 911 (by decide +kernel) rfl), (uw_at 9 (by decide +kernel) rfl), (uw_at 912 (by decide +kernel) rfl), ⟨by decide +kernel, by decide +kernel, by decide +kernel⟩⟩
theorem wM_X8_literal : w_MV yX8_literal cX8_literal 3 (some .int) 2 := ⟨(uw_at 914 (by decide +kernel) rfl), (uw_at 915 (by decide +kernel) rfl), (uw_at 9 (by decide +kernel) rfl), (uw_at 916 (by decide +kernel) rfl), ⟨by decide +kernel, by decide +kernel, by decide +kernel⟩⟩
theorem wM_X8_count : w_MV yX8_count cX8_count 4 (some .int) 1 := ⟨(uw_at 918 (by decide +kernel) rfl), (uw_at 919 (by decide +kernel) rfl), (uw_at 9 (by decide +kernel) rfl), (uw_at 920 (by decide +kernel) rfl), ⟨by decide +kernel, by decide +kernel, by decide +kernel⟩⟩
