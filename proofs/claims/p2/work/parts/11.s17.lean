theorem dX12_readCase_0 : decode cX12_readCase 0 = .ok (.aload_n 0, 1) := by decide +kernel
theorem dX12_readCase_1 : decode cX12_readCase 1 = .ok (.iconst 2, 1) := by decide +kernel
theorem dX12_readCase_2 : decode cX12_readCase 2 = .ok (.iconst 5, 1) := by decide +kernel
theorem dX12_readCase_3 : decode cX12_readCase 3 = .ok (.invokevirtual 183, 3) := by decide +kernel
theorem dX12_readCase_6 : decode cX12_readCase 6 = .ok (.ifCond .ne 5, 3) := by decide +kernel
theorem dX12_readCase_11 : decode cX12_readCase 11 = .ok (.aload_n 0, 1) := by decide +kernel
theorem dX12_readCase_12 : decode cX12_readCase 12 = .ok (.getfield 101, 3) := by decide +kernel
theorem dX12_readCase_15 : decode cX12_readCase 15 = .ok (.iconst 2, 1) := by decide +kernel
theorem dX12_readCase_16 : decode cX12_readCase 16 = .ok (.iaload, 1) := by decide +kernel
theorem dX12_readCase_17 : decode cX12_readCase 17 = .ok (.istore_n 1, 1) := by decide +kernel
theorem dX12_readCase_18 : decode cX12_readCase 18 = .ok (.aload_n 0, 1) := by decide +kernel
theorem dX12_readCase_19 : decode cX12_readCase 19 = .ok (.bipush 14, 2) := by decide +kernel
theorem dX12_readCase_21 : decode cX12_readCase 21 = .ok (.iload_n 1, 1) := by decide +kernel
theorem dX12_readCase_22 : decode cX12_readCase 22 = .ok (.iadd, 1) := by decide +kernel
theorem dX12_readCase_23 : decode cX12_readCase 23 = .ok (.invokevirtual 187, 3) := by decide +kernel
theorem dX12_readTuned_0 : decode cX12_readTuned 0 = .ok (.aload_n 0, 1) := by decide +kernel
theorem dX12_readTuned_1 : decode cX12_readTuned 1 = .ok (.invokevirtual 82, 3) := by decide +kernel
theorem dX12_readTuned_4 : decode cX12_readTuned 4 = .ok (.aload_n 0, 1) := by decide +kernel
theorem dX12_readTuned_5 : decode cX12_readTuned 5 = .ok (.iconst 0, 1) := by decide +kernel
theorem dX12_readTuned_6 : decode cX12_readTuned 6 = .ok (.aload_n 0, 1) := by decide +kernel
theorem dX12_readTuned_7 : decode cX12_readTuned 7 = .ok (.getfield 101, 3) := by decide +kernel
theorem dX12_readTuned_10 : decode cX12_readTuned 10 = .ok (.iconst 0, 1) := by decide +kernel
theorem dX12_readTuned_11 : decode cX12_readTuned 11 = .ok (.iaload, 1) := by decide +kernel
theorem dX12_readTuned_12 : decode cX12_readTuned 12 = .ok (.invokevirtual 200, 3) := by decide +kernel
theorem dX12_readTuned_15 : decode cX12_readTuned 15 = .ok (.ifCond .ne 5, 3) := by decide +kernel
theorem dX12_readTuned_18 : decode cX12_readTuned 18 = .ok (.iconst 0, 1) := by decide +kernel
theorem dX12_readTuned_19 : decode cX12_readTuned 19 = .ok (.ireturn, 1) := by decide +kernel
theorem dX12_readTuned_20 : decode cX12_readTuned 20 = .ok (.bipush 49, 2) := by decide +kernel
theorem dX12_readTuned_22 : decode cX12_readTuned 22 = .ok (.iconst 4, 1) := by decide +kernel
theorem dX12_readTuned_23 : decode cX12_readTuned 23 = .ok (.aload_n 0, 1) := by decide +kernel
theorem dX12_readTuned_24 : decode cX12_readTuned 24 = .ok (.getfield 79, 3) := by decide +kernel
theorem dX12_readTuned_27 : decode cX12_readTuned 27 = .ok (.imul, 1) := by decide +kernel
theorem dX12_readTuned_28 : decode cX12_readTuned 28 = .ok (.iadd, 1) := by decide +kernel
theorem dX12_readTuned_29 : decode cX12_readTuned 29 = .ok (.istore_n 1, 1) := by decide +kernel
theorem dX12_readTuned_30 : decode cX12_readTuned 30 = .ok (.aload_n 0, 1) := by decide +kernel
theorem dX12_readTuned_31 : decode cX12_readTuned 31 = .ok (.invokevirtual 82, 3) := by decide +kernel
theorem dX12_readTuned_34 : decode cX12_readTuned 34 = .ok (.aload_n 0, 1) := by decide +kernel
theorem dX12_readTuned_35 : decode cX12_readTuned 35 = .ok (.bipush 10, 2) := by decide +kernel
theorem dX12_readTuned_37 : decode cX12_readTuned 37 = .ok (.aload_n 0, 1) := by decide +kernel
theorem dX12_readTuned_38 : decode cX12_readTuned 38 = .ok (.getfield 101, 3) := by decide +kernel
theorem dX12_readTuned_41 : decode cX12_readTuned 41 = .ok (.iconst 1, 1) := by decide +kernel
theorem dX12_readTuned_42 : decode cX12_readTuned 42 = .ok (.iaload, 1) := by decide +kernel
theorem dX12_readTuned_43 : decode cX12_readTuned 43 = .ok (.invokevirtual 200, 3) := by decide +kernel
theorem dX12_readTuned_46 : decode cX12_readTuned 46 = .ok (.ifCond .ne 5, 3) := by decide +kernel
theorem dX12_readTuned_49 : decode cX12_readTuned 49 = .ok (.iconst 0, 1) := by decide +kernel
theorem dX12_readTuned_50 : decode cX12_readTuned 50 = .ok (.ireturn, 1) := by decide +kernel
theorem dX12_readTuned_51 : decode cX12_readTuned 51 = .ok (.iload_n 1, 1) := by decide +kernel
theorem dX12_readTuned_52 : decode cX12_readTuned 52 = .ok (.aload_n 0, 1) := by decide +kernel
theorem dX12_readTuned_53 : decode cX12_readTuned 53 = .ok (.getfield 79, 3) := by decide +kernel
theorem dX12_readTuned_56 : decode cX12_readTuned 56 = .ok (.iadd, 1) := by decide +kernel
theorem dX12_readTuned_57 : decode cX12_readTuned 57 = .ok (.istore_n 1, 1) := by decide +kernel
theorem dX12_readTuned_58 : decode cX12_readTuned 58 = .ok (.aload_n 0, 1) := by decide +kernel
theorem dX12_readTuned_59 : decode cX12_readTuned 59 = .ok (.getfield 101, 3) := by decide +kernel
theorem dX12_readTuned_62 : decode cX12_readTuned 62 = .ok (.iload_n 1, 1) := by decide +kernel
theorem dX12_readTuned_63 : decode cX12_readTuned 63 = .ok (.iaload, 1) := by decide +kernel
theorem dX12_readTuned_64 : decode cX12_readTuned 64 = .ok (.iconst (-1), 1) := by decide +kernel
theorem dX12_readTuned_65 : decode cX12_readTuned 65 = .ok (.if_icmp .eq 9, 3) := by decide +kernel
theorem dX12_readTuned_68 : decode cX12_readTuned 68 = .ok (.aload_n 0, 1) := by decide +kernel
theorem dX12_readTuned_69 : decode cX12_readTuned 69 = .ok (.iconst 3, 1) := by decide +kernel
theorem dX12_readTuned_70 : decode cX12_readTuned 70 = .ok (.invokevirtual 72, 3) := by decide +kernel
theorem dX12_readTuned_73 : decode cX12_readTuned 73 = .ok (.ireturn, 1) := by decide +kernel
theorem dX12_readTuned_74 : decode cX12_readTuned 74 = .ok (.aload_n 0, 1) := by decide +kernel
theorem dX12_readTuned_75 : decode cX12_readTuned 75 = .ok (.invokevirtual 82, 3) := by decide +kernel
theorem dX12_readTuned_78 : decode cX12_readTuned 78 = .ok (.aload_n 0, 1) := by decide +kernel
theorem dX12_readTuned_79 : decode cX12_readTuned 79 = .ok (.iload_n 1, 1) := by decide +kernel
theorem dX12_readTuned_80 : decode cX12_readTuned 80 = .ok (.aload_n 0, 1) := by decide +kernel
theorem dX12_readTuned_81 : decode cX12_readTuned 81 = .ok (.iconst 0, 1) := by decide +kernel
theorem dX12_readTuned_82 : decode cX12_readTuned 82 = .ok (.bipush 60, 2) := by decide +kernel
theorem dX12_readTuned_84 : decode cX12_readTuned 84 = .ok (.invokevirtual 190, 3) := by decide +kernel
theorem dX12_readTuned_87 : decode cX12_readTuned 87 = .ok (.invokevirtual 193, 3) := by decide +kernel
theorem dX12_readTuned_90 : decode cX12_readTuned 90 = .ok (.ireturn, 1) := by decide +kernel
set_option maxRecDepth 20000 in
theorem ggX12_readCase_X12_readFirst : GoodIn wsX12_readCase wsX12_readFirst := goodIn_r _ [6, 1, 7, 8, 9, 5, 10, 11, 12, 13, 14, 15, 16, 17, 18, 19, 20, 21, 22, 23, 24, 25, 26, 27, 28, 29, 30, 31, 32, 33, 34, 35, 36, 37, 65, 66, 67, 68, 69, 70, 71, 72, 73, 74, 75, 76, 77, 78, 79, 80, 81, 82, 83, 84, 85, 86, 87, 88, 89, 90, 91, 92, 93, 94, 95, 96, 97, 98, 99, 100, 101, 102, 103, 104, 105, 106, 107, 108, 109, 110, 111, 112] rfl (by decide +kernel)
set_option maxRecDepth 20000 in
theorem gX12_readCase_X12_readFirst : GoodIn wsX12_readCase (wsV RX12 183 RX12 yX12_readFirst wsX12_readFirst) := goodIn_app (goodIn_of _ (by decide +kernel)) ggX12_readCase_X12_readFirst
set_option maxRecDepth 20000 in
theorem ggX12_readTuned_X12_go : GoodIn wsX12_readTuned wsX12_go := goodIn_r _ [7, 8, 9, 10, 11, 12, 13, 14, 15, 16, 17, 18, 19, 20, 6, 21, 22, 23, 24, 25, 26, 27, 28, 64, 65, 66, 67, 68, 69, 70, 71, 72, 73, 74, 75, 76, 77, 78, 79, 80, 81, 82, 83, 84, 85, 86, 87, 88, 89, 90, 91, 92, 93, 94, 95, 96, 97, 98, 99, 100, 101, 102, 103, 104, 105, 106, 107, 108, 109, 110, 111] rfl (by decide +kernel)
set_option maxRecDepth 20000 in
theorem gX12_readTuned_X12_go : GoodIn wsX12_readTuned (wsV RX12 82 RX12 yX12_go wsX12_go) := goodIn_app (goodIn_of _ (by decide +kernel)) ggX12_readTuned_X12_go
set_option maxRecDepth 20000 in
theorem ggX12_readTuned_X12_isOne : GoodIn wsX12_readTuned wsX12_isOne := goodIn_r _ [32, 33, 15, 2, 34, 35, 36, 6, 37, 13, 38, 39, 40, 41, 42, 43, 17, 18, 44, 45, 46, 47, 48, 11, 49, 50, 51, 52, 64, 65, 66, 67, 68, 69, 70, 71, 72, 73, 74, 75, 76, 77, 78, 79, 80, 81, 82, 83, 84, 85, 86, 87, 88, 89, 90, 91, 92, 93, 94, 95, 96, 97, 98, 99, 100, 101, 102, 103, 104, 105, 106, 107, 108, 109, 110, 111] rfl (by decide +kernel)
set_option maxRecDepth 20000 in
theorem gX12_readTuned_X12_isOne : GoodIn wsX12_readTuned (wsV RX12 200 RX12 yX12_isOne wsX12_isOne) := goodIn_app (goodIn_of _ (by decide +kernel)) ggX12_readTuned_X12_isOne
set_option maxRecDepth 20000 in
theorem ggX12_readTuned_X12_readNumber : GoodIn wsX12_readTuned wsX12_readNumber := goodIn_r _ [56, 13, 16, 2, 44, 45, 46, 6, 47, 48, 11, 49, 57, 58, 59, 3, 4, 5, 7, 8, 9, 10, 12, 14, 15, 17, 18, 19, 20, 21, 22, 23, 24, 25, 26, 27, 28, 64, 65, 66, 67, 68, 69, 70, 71, 72, 73, 74, 75, 76, 77, 78, 79, 80, 81, 82, 83, 84, 85, 86, 87, 88, 89, 90, 91, 92, 93, 94, 95, 96, 97, 98, 99, 100, 101, 102, 103, 104, 105, 106, 107, 108, 109, 110, 111] rfl (by decide +kernel)
set_option maxRecDepth 20000 in
theorem gX12_readTuned_X12_readNumber : GoodIn wsX12_readTuned (wsV RX12 190 RX12 yX12_readNumber wsX12_readNumber) := goodIn_app (goodIn_of _ (by decide +kernel)) ggX12_readTuned_X12_readNumber
set_option maxRecDepth 20000 in
theorem ggX12_readTuned_X12_put : GoodIn wsX12_readTuned wsX12_put := goodIn_r _ [63, 1, 2, 64, 65, 66, 67, 68, 69, 70, 71, 72, 73, 74, 75, 76, 77, 78, 79, 80, 81, 82, 83, 84, 85, 86, 87, 88, 89, 90, 91, 92, 93, 94, 95, 96, 97, 98, 99, 100, 101, 102, 103, 104, 105, 106, 107, 108, 109, 110, 111] rfl (by decide +kernel)
set_option maxRecDepth 20000 in
theorem gX12_readTuned_X12_put : GoodIn wsX12_readTuned (wsV RX12 193 RX12 yX12_put wsX12_put) := goodIn_app (goodIn_of _ (by decide +kernel)) ggX12_readTuned_X12_put
set_option maxRecDepth 20000 in
theorem ggX12_readTuned_X12_bad : GoodIn wsX12_readTuned wsX12_bad := goodIn_r _ [47, 13, 48, 11, 49, 64, 65, 66, 67, 68, 69, 70, 71, 72, 73, 74, 75, 76, 77, 78, 79, 80, 81, 82, 83, 84, 85, 86, 87, 88, 89, 90, 91, 92, 93, 94, 95, 96, 97, 98, 99, 100, 101, 102, 103, 104, 105, 106, 107, 108, 109, 110, 111] rfl (by decide +kernel)
set_option maxRecDepth 20000 in
theorem gX12_readTuned_X12_bad : GoodIn wsX12_readTuned (wsV RX12 72 RX12 yX12_bad wsX12_bad) := goodIn_app (goodIn_of _ (by decide +kernel)) ggX12_readTuned_X12_bad
set_option maxHeartbeats 4000000 in
set_option maxRecDepth 100000 in
theorem s_X12_readTuned (l : Launch) (D : va_G) (ca : Nat → ClassId) (sz : Nat) (h0 : Nat) (h0_thrown : Int32) (h0_tape : Nat) (h0_taped : Int32) (h0_size : Int32) (h0_limit : Int32) (h0_to : Int32) (h0_from : Int32) (h0_kind : Int32) (h0_number : Int32) (h0_sign : Int32) (h0_fault : Int32) (h0_place : Int32) (h0_word : Int64) (h0_told : Int32) (h0_now : Nat) (h0_read : Nat) (h0_kept : Nat) (h0_snaps : Nat) (h0_aside : Nat) (h0_name : Nat) (h0_readName : Nat) (h0_keptName : Nat) (h0_isKept : Nat) (h0_onces : Nat) (h0_snapMany : Int32) (h0_lowest : Int32) (h0_highest : Int32) (h0_agreed : Int32) (h0_jurors : Int32) (h0_panelled : Int32) (h0_inSets : Nat) (h0_surely : Int32) (h0_asked : Int32) (h0_frees : Nat) (h0_struck : Int32) (h0_beating : Int32) (h0_text : Nat) (h0_texts : Int32) (h0_seed : Int32) (h0_line : Nat) (h0_written : Nat) (h0_lineMany : Int32) (h0_hasWritten : Int32) (h0_node : Nat) (h0_nodes : Int32) (h0_onesMany : Int32) (h0_within : Int32) (h0_top : Int32) (F_h0_tape : Nat → Int32) (F_h0_read : Nat → Int32) (F_h0_readName : Nat → Int64) (i_h0_taped : rg 0 940 h0_taped) (i_h0_size : rg 0 940 h0_size) (i_h0_to : rg 0 940 h0_to) (i_h0_snapMany : rg 0 8 h0_snapMany) (i_h0_texts : rg 0 64 h0_texts) (i_h0_lineMany : rg 0 40 h0_lineMany) (i_h0_hasWritten : rg 0 1 h0_hasWritten) (s_h0_tape_0 : sg 0 940 0 255 F_h0_tape) (s_h0_read_0 : sg 0 1 0 10 F_h0_read) (s_h0_read_1 : sg 1 2 0 4 F_h0_read) (s_h0_read_2 : sg 2 3 0 5 F_h0_read) (s_h0_read_3 : sg 35 36 0 1023 F_h0_read) (s_h0_read_4 : sg 44 49 0 3 F_h0_read) : oMet l yX12_readTuned wsX12_readTuned ({ frames := 4, cells := 0, slots := 0, locals := 91 } : Room) [.ref h0] D ca sz [(h0, .inr (11, [.int h0_thrown, .ref h0_tape, .int h0_taped, .int h0_size, .int h0_limit, .int h0_to, .int h0_from, .int h0_kind, .int h0_number, .int h0_sign, .int h0_fault, .int h0_place, .long h0_word, .int h0_told, .ref h0_now, .ref h0_read, .ref h0_kept, .ref h0_snaps, .ref h0_aside, .ref h0_name, .ref h0_readName, .ref h0_keptName, .ref h0_isKept, .ref h0_onces, .int h0_snapMany, .int h0_lowest, .int h0_highest, .int h0_agreed, .int h0_jurors, .int h0_panelled, .ref h0_inSets, .int h0_surely, .int h0_asked, .ref h0_frees, .int h0_struck, .int h0_beating, .ref h0_text, .int h0_texts, .int h0_seed, .ref h0_line, .ref h0_written, .int h0_lineMany, .int h0_hasWritten, .ref h0_node, .int h0_nodes, .int h0_onesMany, .int h0_within, .int h0_top])), (aI ca h0_tape 940 F_h0_tape), (aI ca h0_read 89 F_h0_read), (aJ ca h0_readName 19 F_h0_readName)] (oQi D (fun (r : Int32) (u : Int32 × Int32 × Int32 × Int32 × Int32 × Int32 × Int32 × Int64 × Int32 × (Nat → Int32)) => ((r = 0) ∧ (rg 0 940 u.1) ∧ (rg (-2147483648) 940 u.2.1) ∧ (rg 0 4 u.2.2.1) ∧ (sg 0 1 0 10 u.2.2.2.2.2.2.2.2.2) ∧ (sg 1 2 0 4 u.2.2.2.2.2.2.2.2.2) ∧ (sg 2 3 0 5 u.2.2.2.2.2.2.2.2.2) ∧ (sg 35 36 0 1023 u.2.2.2.2.2.2.2.2.2) ∧ (sg 44 49 0 3 u.2.2.2.2.2.2.2.2.2) ∧ (eqs 0 49 u.2.2.2.2.2.2.2.2.2 F_h0_read)) ∨ ((r = 1) ∧ (rg 0 940 u.1) ∧ (rg (-2147483648) 940 u.2.1) ∧ (rg 0 4 u.2.2.1) ∧ (sg 0 1 0 10 u.2.2.2.2.2.2.2.2.2) ∧ (sg 1 2 0 4 u.2.2.2.2.2.2.2.2.2) ∧ (sg 2 3 0 5 u.2.2.2.2.2.2.2.2.2) ∧ (sg 35 36 0 1023 u.2.2.2.2.2.2.2.2.2) ∧ (sg 44 49 0 3 u.2.2.2.2.2.2.2.2.2) ∧ (eqs 0 49 u.2.2.2.2.2.2.2.2.2 F_h0_read))) (fun (u : Int32 × Int32 × Int32 × Int32 × Int32 × Int32 × Int32 × Int64 × Int32 × (Nat → Int32)) => [(h0, .inr (11, [.int h0_thrown, .ref h0_tape, .int h0_taped, .int h0_size, .int h0_limit, .int u.1, .int u.2.1, .int u.2.2.1, .int u.2.2.2.1, .int u.2.2.2.2.1, .int u.2.2.2.2.2.1, .int u.2.2.2.2.2.2.1, .long u.2.2.2.2.2.2.2.1, .int u.2.2.2.2.2.2.2.2.1, .ref h0_now, .ref h0_read, .ref h0_kept, .ref h0_snaps, .ref h0_aside, .ref h0_name, .ref h0_readName, .ref h0_keptName, .ref h0_isKept, .ref h0_onces, .int h0_snapMany, .int h0_lowest, .int h0_highest, .int h0_agreed, .int h0_jurors, .int h0_panelled, .ref h0_inSets, .int h0_surely, .int h0_asked, .ref h0_frees, .int h0_struck, .int h0_beating, .ref h0_text, .int h0_texts, .int h0_seed, .ref h0_line, .ref h0_written, .int h0_lineMany, .int h0_hasWritten, .ref h0_node, .int h0_nodes, .int h0_onesMany, .int h0_within, .int h0_top])), (aI ca h0_tape 940 F_h0_tape), (aI ca h0_read 89 u.2.2.2.2.2.2.2.2.2), (aJ ca h0_readName 19 F_h0_readName)])) 0 0 := by
  refine oM (cc := cX12_readTuned) (maxL := 2) (ret := (some .boolean)) (by decide) rfl (Nat.le_of_ble_eq_true rfl) [(0, .ref h0)] rfl ?_
  intro p e s m below meth c A H locs ls hx hb hr hml hts hown hlocks hin hK hP hD hA hS hl
  have hown : s.vm.findClass RX12 = some m.cls := hown
  have k1 := hts (.fieldLink RX12 101 "LidCourtModel" "read" "[I") (by decide +kernel)
  have k2 : ∀ w ∈ wsX120, w ∈ wsX12_readTuned := fun _ h => List.mem_cons_of_mem _ (List.mem_append_right _ h)
  have k3 := hts (.fieldLink RX12 79 "LidCourtModel" "told" "I") (by decide +kernel)
  refine lv_aload_n hx hb dX12_readTuned_0 rfl (lv_at hl 0 rfl) ?_
  refine oC_v (Wc := [(h0, .inr (11, [.int h0_thrown, .ref h0_tape, .int h0_taped, .int h0_size, .int h0_limit, .int h0_to, .int h0_from, .int h0_kind, .int h0_number, .int h0_sign, .int h0_fault, .int h0_place, .long h0_word, .int h0_told, .ref h0_now, .ref h0_read, .ref h0_kept, .ref h0_snaps, .ref h0_aside, .ref h0_name, .ref h0_readName, .ref h0_keptName, .ref h0_isKept, .ref h0_onces, .int h0_snapMany, .int h0_lowest, .int h0_highest, .int h0_agreed, .int h0_jurors, .int h0_panelled, .ref h0_inSets, .int h0_surely, .int h0_asked, .ref h0_frees, .int h0_struck, .int h0_beating, .ref h0_text, .int h0_texts, .int h0_seed, .ref h0_line, .ref h0_written, .int h0_lineMany, .int h0_hasWritten, .ref h0_node, .int h0_nodes, .int h0_onesMany, .int h0_within, .int h0_top])), (aI ca h0_tape 940 F_h0_tape)]) (Wr := [(aI ca h0_read 89 F_h0_read), (aJ ca h0_readName 19 F_h0_readName)]) (va_runV (As := []) (rest := []) ⟨hx, hb, hml, hown, hts⟩ (s_X12_go l D ca H.size h0 h0_thrown h0_tape h0_taped h0_size h0_limit h0_to h0_from h0_kind h0_number h0_sign h0_fault h0_place h0_word h0_told h0_now h0_read h0_kept h0_snaps h0_aside h0_name h0_readName h0_keptName h0_isKept h0_onces h0_snapMany h0_lowest h0_highest h0_agreed h0_jurors h0_panelled h0_inSets h0_surely h0_asked h0_frees h0_struck h0_beating h0_text h0_texts h0_seed h0_line h0_written h0_lineMany h0_hasWritten h0_node h0_nodes h0_onesMany h0_within h0_top F_h0_tape i_h0_taped i_h0_size i_h0_to i_h0_snapMany i_h0_texts i_h0_lineMany i_h0_hasWritten s_h0_tape_0) (cwV 0 hts gX12_readTuned_X12_go rfl rfl rfl (by decide +kernel) ⟨Nat.le_of_ble_eq_true rfl, Nat.le_of_ble_eq_true rfl⟩) (oPV (C := RX12) hK hP hD [0, 1] rfl (by decide) 0 rfl (ci := 11) rfl rfl) rfl rfl hl.1 rfl (lv_room (Nat.le_of_ble_eq_true rfl)) dX12_readTuned_1 ⟨Nat.le_of_ble_eq_true rfl, Nat.le_of_ble_eq_true rfl⟩) hP hD hS hA [0, 1] [2, 3] rfl rfl (by decide) (by decide) (fun u H locs w_167 hP hD hS => ?_)
  obtain ⟨u_168, u_169, u_170, u_171, u_172, u_173⟩ := u
  have hP : va_P D vwCl [(aI ca h0_read 89 F_h0_read), (aJ ca h0_readName 19 F_h0_readName), (h0, .inr (11, [.int h0_thrown, .ref h0_tape, .int h0_taped, .int h0_size, .int h0_limit, .int u_168, .int u_169, .int u_170, .int u_171, .int u_172, .int h0_fault, .int h0_place, .long u_173, .int h0_told, .ref h0_now, .ref h0_read, .ref h0_kept, .ref h0_snaps, .ref h0_aside, .ref h0_name, .ref h0_readName, .ref h0_keptName, .ref h0_isKept, .ref h0_onces, .int h0_snapMany, .int h0_lowest, .int h0_highest, .int h0_agreed, .int h0_jurors, .int h0_panelled, .ref h0_inSets, .int h0_surely, .int h0_asked, .ref h0_frees, .int h0_struck, .int h0_beating, .ref h0_text, .int h0_texts, .int h0_seed, .ref h0_line, .ref h0_written, .int h0_lineMany, .int h0_hasWritten, .ref h0_node, .int h0_nodes, .int h0_onesMany, .int h0_within, .int h0_top])), (aI ca h0_tape 940 F_h0_tape)] H := hP
  have hD : va_D A [(aI ca h0_read 89 F_h0_read), (aJ ca h0_readName 19 F_h0_readName), (h0, .inr (11, [.int h0_thrown, .ref h0_tape, .int h0_taped, .int h0_size, .int h0_limit, .int u_168, .int u_169, .int u_170, .int u_171, .int u_172, .int h0_fault, .int h0_place, .long u_173, .int h0_told, .ref h0_now, .ref h0_read, .ref h0_kept, .ref h0_snaps, .ref h0_aside, .ref h0_name, .ref h0_readName, .ref h0_keptName, .ref h0_isKept, .ref h0_onces, .int h0_snapMany, .int h0_lowest, .int h0_highest, .int h0_agreed, .int h0_jurors, .int h0_panelled, .ref h0_inSets, .int h0_surely, .int h0_asked, .ref h0_frees, .int h0_struck, .int h0_beating, .ref h0_text, .int h0_texts, .int h0_seed, .ref h0_line, .ref h0_written, .int h0_lineMany, .int h0_hasWritten, .ref h0_node, .int h0_nodes, .int h0_onesMany, .int h0_within, .int h0_top])), (aI ca h0_tape 940 F_h0_tape)] := hD
  try dsimp only at w_167
  obtain ⟨h_174, h_175, h_176, h_177⟩ := w_167
  refine lv_aload_n hx hb dX12_readTuned_4 rfl (lv_at hl 0 rfl) ?_
  refine lv_iconst (v := 0) hx hb dX12_readTuned_5 (by decide) ?_
  refine lv_aload_n hx hb dX12_readTuned_6 rfl (lv_at hl 0 rfl) ?_
  refine va_get (D := D) (ci := 11) (v := .ref h0_read) (C := RX12) (T := TX12) (N := 48) hx hb hts k2 hown hK.1 hP 2 rfl rfl 15 (by decide) k1 (fun _ h9 => h9) rfl dX12_readTuned_7 ?_
  refine lv_iconst (v := 0) hx hb dX12_readTuned_10 (by decide) ?_
  refine va_iald hx hb hK.1 hP 0 0 rfl rfl (rg_in (⟨by decide, by decide⟩ : rg 0 0 (0 : Int32)) (by decide) (by decide)) dX12_readTuned_11 ?_
  refine lv_topi (fun x_178 ex_178 => ?_)
  have h_179 : rg 0 10 x_178 := by rw [ex_178]; exact sg_at s_h0_read_0 (⟨by decide, by decide⟩ : rg 0 0 (0 : Int32)) (by decide) (by decide) (by decide)
  refine oC_i (Wc := [(h0, .inr (11, [.int h0_thrown, .ref h0_tape, .int h0_taped, .int h0_size, .int h0_limit, .int u_168, .int u_169, .int u_170, .int u_171, .int u_172, .int h0_fault, .int h0_place, .long u_173, .int h0_told, .ref h0_now, .ref h0_read, .ref h0_kept, .ref h0_snaps, .ref h0_aside, .ref h0_name, .ref h0_readName, .ref h0_keptName, .ref h0_isKept, .ref h0_onces, .int h0_snapMany, .int h0_lowest, .int h0_highest, .int h0_agreed, .int h0_jurors, .int h0_panelled, .ref h0_inSets, .int h0_surely, .int h0_asked, .ref h0_frees, .int h0_struck, .int h0_beating, .ref h0_text, .int h0_texts, .int h0_seed, .ref h0_line, .ref h0_written, .int h0_lineMany, .int h0_hasWritten, .ref h0_node, .int h0_nodes, .int h0_onesMany, .int h0_within, .int h0_top])), (aJ ca h0_readName 19 F_h0_readName)]) (Wr := [(aI ca h0_read 89 F_h0_read), (aI ca h0_tape 940 F_h0_tape)]) (va_runV (As := [.int 0, .int x_178]) (rest := []) ⟨hx, hb, hml, hown, hts⟩ (s_X12_isOne_j l D ca H.size h0 0 x_178 h0_thrown h0_tape h0_taped h0_size h0_limit u_168 u_169 u_170 u_171 u_172 h0_fault h0_place u_173 h0_told h0_now h0_read h0_kept h0_snaps h0_aside h0_name h0_readName h0_keptName h0_isKept h0_onces h0_snapMany h0_lowest h0_highest h0_agreed h0_jurors h0_panelled h0_inSets h0_surely h0_asked h0_frees h0_struck h0_beating h0_text h0_texts h0_seed h0_line h0_written h0_lineMany h0_hasWritten h0_node h0_nodes h0_onesMany h0_within h0_top F_h0_readName (⟨by decide, by decide⟩ : rg 0 0 (0 : Int32)) h_179 i_h0_taped i_h0_size h_174 i_h0_snapMany i_h0_texts i_h0_lineMany i_h0_hasWritten) (cwV 2 hts gX12_readTuned_X12_isOne rfl rfl rfl (by decide +kernel) ⟨Nat.le_of_ble_eq_true rfl, Nat.le_of_ble_eq_true rfl⟩) (oPV (C := RX12) hK hP hD [2, 1] rfl (by decide) 0 rfl (ci := 11) rfl rfl) rfl rfl hl.1 rfl (lv_room (Nat.le_of_ble_eq_true rfl)) dX12_readTuned_12 ⟨Nat.le_of_ble_eq_true rfl, Nat.le_of_ble_eq_true rfl⟩) hP hD hS hA [2, 1] [0, 3] rfl rfl (by decide) (by decide) (fun r_180 u H locs w_181 hP hD hS => ?_)
  obtain ⟨u_182, u_183, u_184⟩ := u
  have hP : va_P D vwCl [(aI ca h0_read 89 F_h0_read), (aI ca h0_tape 940 F_h0_tape), (h0, .inr (11, [.int h0_thrown, .ref h0_tape, .int h0_taped, .int h0_size, .int h0_limit, .int u_168, .int u_169, .int u_170, .int u_171, .int u_172, .int u_182, .int u_183, .long u_173, .int u_184, .ref h0_now, .ref h0_read, .ref h0_kept, .ref h0_snaps, .ref h0_aside, .ref h0_name, .ref h0_readName, .ref h0_keptName, .ref h0_isKept, .ref h0_onces, .int h0_snapMany, .int h0_lowest, .int h0_highest, .int h0_agreed, .int h0_jurors, .int h0_panelled, .ref h0_inSets, .int h0_surely, .int h0_asked, .ref h0_frees, .int h0_struck, .int h0_beating, .ref h0_text, .int h0_texts, .int h0_seed, .ref h0_line, .ref h0_written, .int h0_lineMany, .int h0_hasWritten, .ref h0_node, .int h0_nodes, .int h0_onesMany, .int h0_within, .int h0_top])), (aJ ca h0_readName 19 F_h0_readName)] H := hP
  have hD : va_D A [(aI ca h0_read 89 F_h0_read), (aI ca h0_tape 940 F_h0_tape), (h0, .inr (11, [.int h0_thrown, .ref h0_tape, .int h0_taped, .int h0_size, .int h0_limit, .int u_168, .int u_169, .int u_170, .int u_171, .int u_172, .int u_182, .int u_183, .long u_173, .int u_184, .ref h0_now, .ref h0_read, .ref h0_kept, .ref h0_snaps, .ref h0_aside, .ref h0_name, .ref h0_readName, .ref h0_keptName, .ref h0_isKept, .ref h0_onces, .int h0_snapMany, .int h0_lowest, .int h0_highest, .int h0_agreed, .int h0_jurors, .int h0_panelled, .ref h0_inSets, .int h0_surely, .int h0_asked, .ref h0_frees, .int h0_struck, .int h0_beating, .ref h0_text, .int h0_texts, .int h0_seed, .ref h0_line, .ref h0_written, .int h0_lineMany, .int h0_hasWritten, .ref h0_node, .int h0_nodes, .int h0_onesMany, .int h0_within, .int h0_top])), (aJ ca h0_readName 19 F_h0_readName)] := hD
  try dsimp only at w_181
  rcases w_181 with h_185 | ⟨h_186, h_187, h_188, h_189, h_190, h_191, h_192⟩
  · skip
    subst h_185
    refine lv_if_ne (tgt := 20) hx hb dX12_readTuned_15 (by decide) (fun c => absurd (by decide) c) (fun _ => ?_)
    refine lv_iconst (v := 0) hx hb dX12_readTuned_18 (by decide) ?_
    exact oE_i hx hb hr (by decide) hlocks hP hD hS (u_168, u_169, u_170, u_171, u_172, u_182, u_183, u_173, u_184, F_h0_read) [2, 1, 0, 3] rfl (by decide) (Or.inl ⟨rfl, h_174, h_175, h_176, s_h0_read_0, s_h0_read_1, s_h0_read_2, s_h0_read_3, s_h0_read_4, (eqs_w (eqs_rf (a := 0) (b := 89) F_h0_read) (by decide) (by decide))⟩) (Nat.le_of_ble_eq_true rfl) (Nat.le_of_ble_eq_true rfl) dX12_readTuned_19
  · skip
    subst h_186
    refine lv_if_ne (tgt := 20) hx hb dX12_readTuned_15 (by decide) (fun _ => ?_) (fun c => absurd c (by decide))
    refine lv_bipush (v := 49) hx hb dX12_readTuned_20 (by decide) ?_
    refine lv_iconst (v := 4) hx hb dX12_readTuned_22 (by decide) ?_
    refine lv_aload_n hx hb dX12_readTuned_23 rfl (lv_at hl 0 rfl) ?_
    refine va_get (D := D) (ci := 11) (v := .int u_184) (C := RX12) (T := TX12) (N := 48) hx hb hts k2 hown hK.1 hP 2 rfl rfl 13 (by decide) k3 (fun _ h9 => h9) rfl dX12_readTuned_24 ?_
    refine lv_imul hx hb dX12_readTuned_27 ?_
    refine lv_topi (fun x_193 ex_193 => ?_)
    have h_194 : rg 0 36 x_193 := by rw [ex_193]; exact rg_mul' (k := 4) h_187 (by decide) (by decide) (by decide) (by decide) (by decide) (by decide)
    have l_195 : lq x_193.toInt (4 * u_184.toInt) := lqm (by rw [ex_193]; have q := tmul' (k := 4) (y := 4) h_187 (by decide) (by decide) (by decide) (by decide); omega)
    refine lv_iadd hx hb dX12_readTuned_28 ?_
    refine lv_topi (fun x_196 ex_196 => ?_)
    have h_197 : rg 49 85 x_196 := by rw [ex_196]; exact rg_add (⟨by decide, by decide⟩ : rg 49 49 (49 : Int32)) h_194 (by decide) (by decide) (by decide) (by decide)
    have l_198 : lq x_196.toInt (4 * u_184.toInt + 49) := lqm (by rw [ex_196]; have q := tadd (⟨by decide, by decide⟩ : rg 49 49 (49 : Int32)) h_194 (by decide) (by decide); have r0 := lqe (lqm (by decide) : lq (49 : Int32).toInt 49); have r1 := lqe l_195; omega)
    refine lv_istore_n (lv' := [(1, .int x_196), (0, .ref h0)]) hx hb dX12_readTuned_29 rfl hl (by decide) rfl (fun ls hl => ?_)
    refine lv_aload_n hx hb dX12_readTuned_30 rfl (lv_at hl 1 rfl) ?_
    refine oC_v (Wc := [(h0, .inr (11, [.int h0_thrown, .ref h0_tape, .int h0_taped, .int h0_size, .int h0_limit, .int u_168, .int u_169, .int u_170, .int u_171, .int u_172, .int u_182, .int u_183, .long u_173, .int u_184, .ref h0_now, .ref h0_read, .ref h0_kept, .ref h0_snaps, .ref h0_aside, .ref h0_name, .ref h0_readName, .ref h0_keptName, .ref h0_isKept, .ref h0_onces, .int h0_snapMany, .int h0_lowest, .int h0_highest, .int h0_agreed, .int h0_jurors, .int h0_panelled, .ref h0_inSets, .int h0_surely, .int h0_asked, .ref h0_frees, .int h0_struck, .int h0_beating, .ref h0_text, .int h0_texts, .int h0_seed, .ref h0_line, .ref h0_written, .int h0_lineMany, .int h0_hasWritten, .ref h0_node, .int h0_nodes, .int h0_onesMany, .int h0_within, .int h0_top])), (aI ca h0_tape 940 F_h0_tape)]) (Wr := [(aI ca h0_read 89 F_h0_read), (aJ ca h0_readName 19 F_h0_readName)]) (va_runV (As := []) (rest := []) ⟨hx, hb, hml, hown, hts⟩ (s_X12_go l D ca H.size h0 h0_thrown h0_tape h0_taped h0_size h0_limit u_168 u_169 u_170 u_171 u_172 u_182 u_183 u_173 u_184 h0_now h0_read h0_kept h0_snaps h0_aside h0_name h0_readName h0_keptName h0_isKept h0_onces h0_snapMany h0_lowest h0_highest h0_agreed h0_jurors h0_panelled h0_inSets h0_surely h0_asked h0_frees h0_struck h0_beating h0_text h0_texts h0_seed h0_line h0_written h0_lineMany h0_hasWritten h0_node h0_nodes h0_onesMany h0_within h0_top F_h0_tape i_h0_taped i_h0_size h_174 i_h0_snapMany i_h0_texts i_h0_lineMany i_h0_hasWritten s_h0_tape_0) (cwV 0 hts gX12_readTuned_X12_go rfl rfl rfl (by decide +kernel) ⟨Nat.le_of_ble_eq_true rfl, Nat.le_of_ble_eq_true rfl⟩) (oPV (C := RX12) hK hP hD [2, 1] rfl (by decide) 0 rfl (ci := 11) rfl rfl) rfl rfl hl.1 rfl (lv_room (Nat.le_of_ble_eq_true rfl)) dX12_readTuned_31 ⟨Nat.le_of_ble_eq_true rfl, Nat.le_of_ble_eq_true rfl⟩) hP hD hS hA [2, 1] [0, 3] rfl rfl (by decide) (by decide) (fun u H locs w_200 hP hD hS => ?_)
    obtain ⟨u_201, u_202, u_203, u_204, u_205, u_206⟩ := u
    have hP : va_P D vwCl [(aI ca h0_read 89 F_h0_read), (aJ ca h0_readName 19 F_h0_readName), (h0, .inr (11, [.int h0_thrown, .ref h0_tape, .int h0_taped, .int h0_size, .int h0_limit, .int u_201, .int u_202, .int u_203, .int u_204, .int u_205, .int u_182, .int u_183, .long u_206, .int u_184, .ref h0_now, .ref h0_read, .ref h0_kept, .ref h0_snaps, .ref h0_aside, .ref h0_name, .ref h0_readName, .ref h0_keptName, .ref h0_isKept, .ref h0_onces, .int h0_snapMany, .int h0_lowest, .int h0_highest, .int h0_agreed, .int h0_jurors, .int h0_panelled, .ref h0_inSets, .int h0_surely, .int h0_asked, .ref h0_frees, .int h0_struck, .int h0_beating, .ref h0_text, .int h0_texts, .int h0_seed, .ref h0_line, .ref h0_written, .int h0_lineMany, .int h0_hasWritten, .ref h0_node, .int h0_nodes, .int h0_onesMany, .int h0_within, .int h0_top])), (aI ca h0_tape 940 F_h0_tape)] H := hP
    have hD : va_D A [(aI ca h0_read 89 F_h0_read), (aJ ca h0_readName 19 F_h0_readName), (h0, .inr (11, [.int h0_thrown, .ref h0_tape, .int h0_taped, .int h0_size, .int h0_limit, .int u_201, .int u_202, .int u_203, .int u_204, .int u_205, .int u_182, .int u_183, .long u_206, .int u_184, .ref h0_now, .ref h0_read, .ref h0_kept, .ref h0_snaps, .ref h0_aside, .ref h0_name, .ref h0_readName, .ref h0_keptName, .ref h0_isKept, .ref h0_onces, .int h0_snapMany, .int h0_lowest, .int h0_highest, .int h0_agreed, .int h0_jurors, .int h0_panelled, .ref h0_inSets, .int h0_surely, .int h0_asked, .ref h0_frees, .int h0_struck, .int h0_beating, .ref h0_text, .int h0_texts, .int h0_seed, .ref h0_line, .ref h0_written, .int h0_lineMany, .int h0_hasWritten, .ref h0_node, .int h0_nodes, .int h0_onesMany, .int h0_within, .int h0_top])), (aI ca h0_tape 940 F_h0_tape)] := hD
    try dsimp only at w_200
    obtain ⟨h_207, h_208, h_209, h_210⟩ := w_200
    refine lv_aload_n hx hb dX12_readTuned_34 rfl (lv_at hl 1 rfl) ?_
    refine lv_bipush (v := 10) hx hb dX12_readTuned_35 (by decide) ?_
    refine lv_aload_n hx hb dX12_readTuned_37 rfl (lv_at hl 1 rfl) ?_
    refine va_get (D := D) (ci := 11) (v := .ref h0_read) (C := RX12) (T := TX12) (N := 48) hx hb hts k2 hown hK.1 hP 2 rfl rfl 15 (by decide) k1 (fun _ h9 => h9) rfl dX12_readTuned_38 ?_
    refine lv_iconst (v := 1) hx hb dX12_readTuned_41 (by decide) ?_
    refine va_iald hx hb hK.1 hP 0 0 rfl rfl (rg_in (⟨by decide, by decide⟩ : rg 1 1 (1 : Int32)) (by decide) (by decide)) dX12_readTuned_42 ?_
    refine lv_topi (fun x_211 ex_211 => ?_)
    have h_212 : rg 0 4 x_211 := by rw [ex_211]; exact sg_at s_h0_read_1 (⟨by decide, by decide⟩ : rg 1 1 (1 : Int32)) (by decide) (by decide) (by decide)
    refine oC_i (Wc := [(h0, .inr (11, [.int h0_thrown, .ref h0_tape, .int h0_taped, .int h0_size, .int h0_limit, .int u_201, .int u_202, .int u_203, .int u_204, .int u_205, .int u_182, .int u_183, .long u_206, .int u_184, .ref h0_now, .ref h0_read, .ref h0_kept, .ref h0_snaps, .ref h0_aside, .ref h0_name, .ref h0_readName, .ref h0_keptName, .ref h0_isKept, .ref h0_onces, .int h0_snapMany, .int h0_lowest, .int h0_highest, .int h0_agreed, .int h0_jurors, .int h0_panelled, .ref h0_inSets, .int h0_surely, .int h0_asked, .ref h0_frees, .int h0_struck, .int h0_beating, .ref h0_text, .int h0_texts, .int h0_seed, .ref h0_line, .ref h0_written, .int h0_lineMany, .int h0_hasWritten, .ref h0_node, .int h0_nodes, .int h0_onesMany, .int h0_within, .int h0_top])), (aJ ca h0_readName 19 F_h0_readName)]) (Wr := [(aI ca h0_read 89 F_h0_read), (aI ca h0_tape 940 F_h0_tape)]) (va_runV (As := [.int 10, .int x_211]) (rest := []) ⟨hx, hb, hml, hown, hts⟩ (s_X12_isOne_f l D ca H.size h0 10 x_211 h0_thrown h0_tape h0_taped h0_size h0_limit u_201 u_202 u_203 u_204 u_205 u_182 u_183 u_206 u_184 h0_now h0_read h0_kept h0_snaps h0_aside h0_name h0_readName h0_keptName h0_isKept h0_onces h0_snapMany h0_lowest h0_highest h0_agreed h0_jurors h0_panelled h0_inSets h0_surely h0_asked h0_frees h0_struck h0_beating h0_text h0_texts h0_seed h0_line h0_written h0_lineMany h0_hasWritten h0_node h0_nodes h0_onesMany h0_within h0_top F_h0_readName (⟨by decide, by decide⟩ : rg 10 10 (10 : Int32)) h_212 i_h0_taped i_h0_size h_207 i_h0_snapMany i_h0_texts i_h0_lineMany i_h0_hasWritten) (cwV 2 hts gX12_readTuned_X12_isOne rfl rfl rfl (by decide +kernel) ⟨Nat.le_of_ble_eq_true rfl, Nat.le_of_ble_eq_true rfl⟩) (oPV (C := RX12) hK hP hD [2, 1] rfl (by decide) 0 rfl (ci := 11) rfl rfl) rfl rfl hl.1 rfl (lv_room (Nat.le_of_ble_eq_true rfl)) dX12_readTuned_43 ⟨Nat.le_of_ble_eq_true rfl, Nat.le_of_ble_eq_true rfl⟩) hP hD hS hA [2, 1] [0, 3] rfl rfl (by decide) (by decide) (fun r_213 u H locs w_214 hP hD hS => ?_)
    obtain ⟨u_215, u_216, u_217⟩ := u
    have hP : va_P D vwCl [(aI ca h0_read 89 F_h0_read), (aI ca h0_tape 940 F_h0_tape), (h0, .inr (11, [.int h0_thrown, .ref h0_tape, .int h0_taped, .int h0_size, .int h0_limit, .int u_201, .int u_202, .int u_203, .int u_204, .int u_205, .int u_215, .int u_216, .long u_206, .int u_217, .ref h0_now, .ref h0_read, .ref h0_kept, .ref h0_snaps, .ref h0_aside, .ref h0_name, .ref h0_readName, .ref h0_keptName, .ref h0_isKept, .ref h0_onces, .int h0_snapMany, .int h0_lowest, .int h0_highest, .int h0_agreed, .int h0_jurors, .int h0_panelled, .ref h0_inSets, .int h0_surely, .int h0_asked, .ref h0_frees, .int h0_struck, .int h0_beating, .ref h0_text, .int h0_texts, .int h0_seed, .ref h0_line, .ref h0_written, .int h0_lineMany, .int h0_hasWritten, .ref h0_node, .int h0_nodes, .int h0_onesMany, .int h0_within, .int h0_top])), (aJ ca h0_readName 19 F_h0_readName)] H := hP
    have hD : va_D A [(aI ca h0_read 89 F_h0_read), (aI ca h0_tape 940 F_h0_tape), (h0, .inr (11, [.int h0_thrown, .ref h0_tape, .int h0_taped, .int h0_size, .int h0_limit, .int u_201, .int u_202, .int u_203, .int u_204, .int u_205, .int u_215, .int u_216, .long u_206, .int u_217, .ref h0_now, .ref h0_read, .ref h0_kept, .ref h0_snaps, .ref h0_aside, .ref h0_name, .ref h0_readName, .ref h0_keptName, .ref h0_isKept, .ref h0_onces, .int h0_snapMany, .int h0_lowest, .int h0_highest, .int h0_agreed, .int h0_jurors, .int h0_panelled, .ref h0_inSets, .int h0_surely, .int h0_asked, .ref h0_frees, .int h0_struck, .int h0_beating, .ref h0_text, .int h0_texts, .int h0_seed, .ref h0_line, .ref h0_written, .int h0_lineMany, .int h0_hasWritten, .ref h0_node, .int h0_nodes, .int h0_onesMany, .int h0_within, .int h0_top])), (aJ ca h0_readName 19 F_h0_readName)] := hD
    try dsimp only at w_214
    rcases w_214 with h_218 | ⟨h_219, h_220, h_221, h_222, h_223, h_224, h_225⟩
    · skip
      subst h_218
      refine lv_if_ne (tgt := 51) hx hb dX12_readTuned_46 (by decide) (fun c => absurd (by decide) c) (fun _ => ?_)
      refine lv_iconst (v := 0) hx hb dX12_readTuned_49 (by decide) ?_
      exact oE_i hx hb hr (by decide) hlocks hP hD hS (u_201, u_202, u_203, u_204, u_205, u_215, u_216, u_206, u_217, F_h0_read) [2, 1, 0, 3] rfl (by decide) (Or.inl ⟨rfl, h_207, h_208, h_209, s_h0_read_0, s_h0_read_1, s_h0_read_2, s_h0_read_3, s_h0_read_4, (eqs_w (eqs_rf (a := 0) (b := 89) F_h0_read) (by decide) (by decide))⟩) (Nat.le_of_ble_eq_true rfl) (Nat.le_of_ble_eq_true rfl) dX12_readTuned_50
    · skip
      subst h_219
      refine lv_if_ne (tgt := 51) hx hb dX12_readTuned_46 (by decide) (fun _ => ?_) (fun c => absurd c (by decide))
      refine lv_iload_n hx hb dX12_readTuned_51 rfl (lv_at hl 0 rfl) ?_
      refine lv_aload_n hx hb dX12_readTuned_52 rfl (lv_at hl 1 rfl) ?_
      refine va_get (D := D) (ci := 11) (v := .int u_217) (C := RX12) (T := TX12) (N := 48) hx hb hts k2 hown hK.1 hP 2 rfl rfl 13 (by decide) k3 (fun _ h9 => h9) rfl dX12_readTuned_53 ?_
      refine lv_iadd hx hb dX12_readTuned_56 ?_
      refine lv_topi (fun x_226 ex_226 => ?_)
      have h_227 : rg 49 88 x_226 := by rw [ex_226]; exact rg_add h_197 h_220 (by decide) (by decide) (by decide) (by decide)
      have l_228 : lq x_226.toInt (4 * u_184.toInt + u_217.toInt + 49) := lqm (by rw [ex_226]; have q := tadd h_197 h_220 (by decide) (by decide); have r0 := lqe l_198; omega)
      refine lv_istore_n (lv' := [(1, .int x_226), (0, .ref h0)]) hx hb dX12_readTuned_57 rfl hl (by decide) rfl (fun ls hl => ?_)
      refine lv_aload_n hx hb dX12_readTuned_58 rfl (lv_at hl 1 rfl) ?_
      refine va_get (D := D) (ci := 11) (v := .ref h0_read) (C := RX12) (T := TX12) (N := 48) hx hb hts k2 hown hK.1 hP 2 rfl rfl 15 (by decide) k1 (fun _ h9 => h9) rfl dX12_readTuned_59 ?_
      refine lv_iload_n hx hb dX12_readTuned_62 rfl (lv_at hl 0 rfl) ?_
      refine va_iald hx hb hK.1 hP 0 0 rfl rfl (rg_in h_227 (by decide) (by decide)) dX12_readTuned_63 ?_
      refine lv_topi (fun x_229 ex_229 => ?_)
      refine lv_iconst (v := (-1)) hx hb dX12_readTuned_64 (by decide) ?_
      refine lv_icmp_eq (tgt := 74) hx hb dX12_readTuned_65 (by decide) (fun c_230 => ?_) (fun c_230 => ?_)
      · skip
        have o_231 : rl 0 x_229 (-1) := rl_eq c_230
        have h_232 : rg (-2147483648) (-1) x_229 := rl_x o_231 (rga x_229) (⟨by decide, by decide⟩ : rg (-1) (-1) ((-1) : Int32)) (by decide) (by decide)
        have o_233 : rl 0 (-1) x_229 := rl_eq c_230.symm
        have h_234 : rg (-1) (-1) x_229 := rl_y o_233 (⟨by decide, by decide⟩ : rg (-1) (-1) ((-1) : Int32)) h_232 (by decide) (by decide)
        refine lv_aload_n hx hb dX12_readTuned_74 rfl (lv_at hl 1 rfl) ?_
        refine oC_v (Wc := [(h0, .inr (11, [.int h0_thrown, .ref h0_tape, .int h0_taped, .int h0_size, .int h0_limit, .int u_201, .int u_202, .int u_203, .int u_204, .int u_205, .int u_215, .int u_216, .long u_206, .int u_217, .ref h0_now, .ref h0_read, .ref h0_kept, .ref h0_snaps, .ref h0_aside, .ref h0_name, .ref h0_readName, .ref h0_keptName, .ref h0_isKept, .ref h0_onces, .int h0_snapMany, .int h0_lowest, .int h0_highest, .int h0_agreed, .int h0_jurors, .int h0_panelled, .ref h0_inSets, .int h0_surely, .int h0_asked, .ref h0_frees, .int h0_struck, .int h0_beating, .ref h0_text, .int h0_texts, .int h0_seed, .ref h0_line, .ref h0_written, .int h0_lineMany, .int h0_hasWritten, .ref h0_node, .int h0_nodes, .int h0_onesMany, .int h0_within, .int h0_top])), (aI ca h0_tape 940 F_h0_tape)]) (Wr := [(aI ca h0_read 89 F_h0_read), (aJ ca h0_readName 19 F_h0_readName)]) (va_runV (As := []) (rest := []) ⟨hx, hb, hml, hown, hts⟩ (s_X12_go l D ca H.size h0 h0_thrown h0_tape h0_taped h0_size h0_limit u_201 u_202 u_203 u_204 u_205 u_215 u_216 u_206 u_217 h0_now h0_read h0_kept h0_snaps h0_aside h0_name h0_readName h0_keptName h0_isKept h0_onces h0_snapMany h0_lowest h0_highest h0_agreed h0_jurors h0_panelled h0_inSets h0_surely h0_asked h0_frees h0_struck h0_beating h0_text h0_texts h0_seed h0_line h0_written h0_lineMany h0_hasWritten h0_node h0_nodes h0_onesMany h0_within h0_top F_h0_tape i_h0_taped i_h0_size h_207 i_h0_snapMany i_h0_texts i_h0_lineMany i_h0_hasWritten s_h0_tape_0) (cwV 0 hts gX12_readTuned_X12_go rfl rfl rfl (by decide +kernel) ⟨Nat.le_of_ble_eq_true rfl, Nat.le_of_ble_eq_true rfl⟩) (oPV (C := RX12) hK hP hD [2, 1] rfl (by decide) 0 rfl (ci := 11) rfl rfl) rfl rfl hl.1 rfl (lv_room (Nat.le_of_ble_eq_true rfl)) dX12_readTuned_75 ⟨Nat.le_of_ble_eq_true rfl, Nat.le_of_ble_eq_true rfl⟩) hP hD hS hA [2, 1] [0, 3] rfl rfl (by decide) (by decide) (fun u H locs w_236 hP hD hS => ?_)
        obtain ⟨u_237, u_238, u_239, u_240, u_241, u_242⟩ := u
        have hP : va_P D vwCl [(aI ca h0_read 89 F_h0_read), (aJ ca h0_readName 19 F_h0_readName), (h0, .inr (11, [.int h0_thrown, .ref h0_tape, .int h0_taped, .int h0_size, .int h0_limit, .int u_237, .int u_238, .int u_239, .int u_240, .int u_241, .int u_215, .int u_216, .long u_242, .int u_217, .ref h0_now, .ref h0_read, .ref h0_kept, .ref h0_snaps, .ref h0_aside, .ref h0_name, .ref h0_readName, .ref h0_keptName, .ref h0_isKept, .ref h0_onces, .int h0_snapMany, .int h0_lowest, .int h0_highest, .int h0_agreed, .int h0_jurors, .int h0_panelled, .ref h0_inSets, .int h0_surely, .int h0_asked, .ref h0_frees, .int h0_struck, .int h0_beating, .ref h0_text, .int h0_texts, .int h0_seed, .ref h0_line, .ref h0_written, .int h0_lineMany, .int h0_hasWritten, .ref h0_node, .int h0_nodes, .int h0_onesMany, .int h0_within, .int h0_top])), (aI ca h0_tape 940 F_h0_tape)] H := hP
        have hD : va_D A [(aI ca h0_read 89 F_h0_read), (aJ ca h0_readName 19 F_h0_readName), (h0, .inr (11, [.int h0_thrown, .ref h0_tape, .int h0_taped, .int h0_size, .int h0_limit, .int u_237, .int u_238, .int u_239, .int u_240, .int u_241, .int u_215, .int u_216, .long u_242, .int u_217, .ref h0_now, .ref h0_read, .ref h0_kept, .ref h0_snaps, .ref h0_aside, .ref h0_name, .ref h0_readName, .ref h0_keptName, .ref h0_isKept, .ref h0_onces, .int h0_snapMany, .int h0_lowest, .int h0_highest, .int h0_agreed, .int h0_jurors, .int h0_panelled, .ref h0_inSets, .int h0_surely, .int h0_asked, .ref h0_frees, .int h0_struck, .int h0_beating, .ref h0_text, .int h0_texts, .int h0_seed, .ref h0_line, .ref h0_written, .int h0_lineMany, .int h0_hasWritten, .ref h0_node, .int h0_nodes, .int h0_onesMany, .int h0_within, .int h0_top])), (aI ca h0_tape 940 F_h0_tape)] := hD
        try dsimp only at w_236
        obtain ⟨h_243, h_244, h_245, h_246⟩ := w_236
        refine lv_aload_n hx hb dX12_readTuned_78 rfl (lv_at hl 1 rfl) ?_
        refine lv_iload_n hx hb dX12_readTuned_79 rfl (lv_at hl 0 rfl) ?_
        refine lv_aload_n hx hb dX12_readTuned_80 rfl (lv_at hl 1 rfl) ?_
        refine lv_iconst (v := 0) hx hb dX12_readTuned_81 (by decide) ?_
        refine lv_bipush (v := 60) hx hb dX12_readTuned_82 (by decide) ?_
        refine oC_i (Wc := [(h0, .inr (11, [.int h0_thrown, .ref h0_tape, .int h0_taped, .int h0_size, .int h0_limit, .int u_237, .int u_238, .int u_239, .int u_240, .int u_241, .int u_215, .int u_216, .long u_242, .int u_217, .ref h0_now, .ref h0_read, .ref h0_kept, .ref h0_snaps, .ref h0_aside, .ref h0_name, .ref h0_readName, .ref h0_keptName, .ref h0_isKept, .ref h0_onces, .int h0_snapMany, .int h0_lowest, .int h0_highest, .int h0_agreed, .int h0_jurors, .int h0_panelled, .ref h0_inSets, .int h0_surely, .int h0_asked, .ref h0_frees, .int h0_struck, .int h0_beating, .ref h0_text, .int h0_texts, .int h0_seed, .ref h0_line, .ref h0_written, .int h0_lineMany, .int h0_hasWritten, .ref h0_node, .int h0_nodes, .int h0_onesMany, .int h0_within, .int h0_top])), (aI ca h0_tape 940 F_h0_tape)]) (Wr := [(aI ca h0_read 89 F_h0_read), (aJ ca h0_readName 19 F_h0_readName)]) (va_runV (As := [.int 0, .int 60]) (rest := [.int x_226, .ref h0]) ⟨hx, hb, hml, hown, hts⟩ (s_X12_readNumber l D ca H.size h0 0 60 h0_thrown h0_tape h0_taped h0_size h0_limit u_237 u_238 u_239 u_240 u_241 u_215 u_216 u_242 u_217 h0_now h0_read h0_kept h0_snaps h0_aside h0_name h0_readName h0_keptName h0_isKept h0_onces h0_snapMany h0_lowest h0_highest h0_agreed h0_jurors h0_panelled h0_inSets h0_surely h0_asked h0_frees h0_struck h0_beating h0_text h0_texts h0_seed h0_line h0_written h0_lineMany h0_hasWritten h0_node h0_nodes h0_onesMany h0_within h0_top F_h0_tape i_h0_taped i_h0_size h_243 i_h0_snapMany i_h0_texts i_h0_lineMany i_h0_hasWritten s_h0_tape_0) (cwV 2 hts gX12_readTuned_X12_readNumber rfl rfl rfl (by decide +kernel) ⟨Nat.le_of_ble_eq_true rfl, Nat.le_of_ble_eq_true rfl⟩) (oPV (C := RX12) hK hP hD [2, 3] rfl (by decide) 0 rfl (ci := 11) rfl rfl) rfl rfl hl.1 rfl (lv_room (Nat.le_of_ble_eq_true rfl)) dX12_readTuned_84 ⟨Nat.le_of_ble_eq_true rfl, Nat.le_of_ble_eq_true rfl⟩) hP hD hS hA [2, 3] [0, 1] rfl rfl (by decide) (by decide) (fun r_247 u H locs w_248 hP hD hS => ?_)
        obtain ⟨u_249, u_250, u_251, u_252, u_253, u_254, u_255, u_256, u_257⟩ := u
        have hP : va_P D vwCl [(aI ca h0_read 89 F_h0_read), (aJ ca h0_readName 19 F_h0_readName), (h0, .inr (11, [.int h0_thrown, .ref h0_tape, .int h0_taped, .int h0_size, .int h0_limit, .int u_249, .int u_250, .int u_251, .int u_252, .int u_253, .int u_254, .int u_255, .long u_256, .int u_257, .ref h0_now, .ref h0_read, .ref h0_kept, .ref h0_snaps, .ref h0_aside, .ref h0_name, .ref h0_readName, .ref h0_keptName, .ref h0_isKept, .ref h0_onces, .int h0_snapMany, .int h0_lowest, .int h0_highest, .int h0_agreed, .int h0_jurors, .int h0_panelled, .ref h0_inSets, .int h0_surely, .int h0_asked, .ref h0_frees, .int h0_struck, .int h0_beating, .ref h0_text, .int h0_texts, .int h0_seed, .ref h0_line, .ref h0_written, .int h0_lineMany, .int h0_hasWritten, .ref h0_node, .int h0_nodes, .int h0_onesMany, .int h0_within, .int h0_top])), (aI ca h0_tape 940 F_h0_tape)] H := hP
        have hD : va_D A [(aI ca h0_read 89 F_h0_read), (aJ ca h0_readName 19 F_h0_readName), (h0, .inr (11, [.int h0_thrown, .ref h0_tape, .int h0_taped, .int h0_size, .int h0_limit, .int u_249, .int u_250, .int u_251, .int u_252, .int u_253, .int u_254, .int u_255, .long u_256, .int u_257, .ref h0_now, .ref h0_read, .ref h0_kept, .ref h0_snaps, .ref h0_aside, .ref h0_name, .ref h0_readName, .ref h0_keptName, .ref h0_isKept, .ref h0_onces, .int h0_snapMany, .int h0_lowest, .int h0_highest, .int h0_agreed, .int h0_jurors, .int h0_panelled, .ref h0_inSets, .int h0_surely, .int h0_asked, .ref h0_frees, .int h0_struck, .int h0_beating, .ref h0_text, .int h0_texts, .int h0_seed, .ref h0_line, .ref h0_written, .int h0_lineMany, .int h0_hasWritten, .ref h0_node, .int h0_nodes, .int h0_onesMany, .int h0_within, .int h0_top])), (aI ca h0_tape 940 F_h0_tape)] := hD
        try dsimp only at w_248
        rcases w_248 with ⟨h_258, h_259, h_260, h_261, h_262, h_263, h_264, h_265, h_266, h_267, h_268, h_269, h_270, h_271⟩ | ⟨h_272, h_273, h_274, h_275, h_276, h_277, h_278, h_279, h_280, h_281, h_282, h_283⟩
        · skip
          subst h_258
          have h_284 : rg (-2147483648) 940 u_250 := rl_x h_263 (rga u_250) h_244 (by decide) (by decide)
          have h_285 : rg 0 2147483647 u_251 := rl_y h_264 h_245 (rga u_251) (by decide) (by decide)
          have h_286 : rg 0 4 u_251 := rl_x h_265 h_285 h_245 (by decide) (by decide)
          have h_287 : rg 0 2147483647 u_257 := rl_y h_270 h_220 (rga u_257) (by decide) (by decide)
          have h_288 : rg 0 3 u_257 := rl_x h_271 h_287 h_220 (by decide) (by decide)
          refine oC_i (Wc := [(h0, .inr (11, [.int h0_thrown, .ref h0_tape, .int h0_taped, .int h0_size, .int h0_limit, .int u_249, .int u_250, .int u_251, .int u_252, .int u_253, .int u_254, .int u_255, .long u_256, .int u_257, .ref h0_now, .ref h0_read, .ref h0_kept, .ref h0_snaps, .ref h0_aside, .ref h0_name, .ref h0_readName, .ref h0_keptName, .ref h0_isKept, .ref h0_onces, .int h0_snapMany, .int h0_lowest, .int h0_highest, .int h0_agreed, .int h0_jurors, .int h0_panelled, .ref h0_inSets, .int h0_surely, .int h0_asked, .ref h0_frees, .int h0_struck, .int h0_beating, .ref h0_text, .int h0_texts, .int h0_seed, .ref h0_line, .ref h0_written, .int h0_lineMany, .int h0_hasWritten, .ref h0_node, .int h0_nodes, .int h0_onesMany, .int h0_within, .int h0_top])), (aI ca h0_read 89 F_h0_read)]) (Wr := [(aJ ca h0_readName 19 F_h0_readName), (aI ca h0_tape 940 F_h0_tape)]) (va_runV (As := [.int x_226, .int 0]) (rest := []) ⟨hx, hb, hml, hown, hts⟩ (s_X12_put_3 l D ca H.size h0 x_226 0 h0_thrown h0_tape h0_taped h0_size h0_limit u_249 u_250 u_251 u_252 u_253 u_254 u_255 u_256 u_257 h0_now h0_read h0_kept h0_snaps h0_aside h0_name h0_readName h0_keptName h0_isKept h0_onces h0_snapMany h0_lowest h0_highest h0_agreed h0_jurors h0_panelled h0_inSets h0_surely h0_asked h0_frees h0_struck h0_beating h0_text h0_texts h0_seed h0_line h0_written h0_lineMany h0_hasWritten h0_node h0_nodes h0_onesMany h0_within h0_top F_h0_read h_227 (⟨by decide, by decide⟩ : rg 0 1 (0 : Int32)) i_h0_taped i_h0_size h_259 i_h0_snapMany i_h0_texts i_h0_lineMany i_h0_hasWritten s_h0_read_0 s_h0_read_1 s_h0_read_2 s_h0_read_3 s_h0_read_4) (cwV 2 hts gX12_readTuned_X12_put rfl rfl rfl (by decide +kernel) ⟨Nat.le_of_ble_eq_true rfl, Nat.le_of_ble_eq_true rfl⟩) (oPV (C := RX12) hK hP hD [2, 0] rfl (by decide) 0 rfl (ci := 11) rfl rfl) rfl rfl hl.1 rfl (lv_room (Nat.le_of_ble_eq_true rfl)) dX12_readTuned_87 ⟨Nat.le_of_ble_eq_true rfl, Nat.le_of_ble_eq_true rfl⟩) hP hD hS hA [2, 0] [1, 3] rfl rfl (by decide) (by decide) (fun r_289 u H locs w_290 hP hD hS => ?_)
          obtain ⟨u_291, rfl⟩ : ∃ z, z = u := ⟨_, rfl⟩
          have hP : va_P D vwCl [(aJ ca h0_readName 19 F_h0_readName), (aI ca h0_tape 940 F_h0_tape), (h0, .inr (11, [.int h0_thrown, .ref h0_tape, .int h0_taped, .int h0_size, .int h0_limit, .int u_249, .int u_250, .int u_251, .int u_252, .int u_253, .int u_254, .int u_255, .long u_256, .int u_257, .ref h0_now, .ref h0_read, .ref h0_kept, .ref h0_snaps, .ref h0_aside, .ref h0_name, .ref h0_readName, .ref h0_keptName, .ref h0_isKept, .ref h0_onces, .int h0_snapMany, .int h0_lowest, .int h0_highest, .int h0_agreed, .int h0_jurors, .int h0_panelled, .ref h0_inSets, .int h0_surely, .int h0_asked, .ref h0_frees, .int h0_struck, .int h0_beating, .ref h0_text, .int h0_texts, .int h0_seed, .ref h0_line, .ref h0_written, .int h0_lineMany, .int h0_hasWritten, .ref h0_node, .int h0_nodes, .int h0_onesMany, .int h0_within, .int h0_top])), (aI ca h0_read 89 u_291)] H := hP
          have hD : va_D A [(aJ ca h0_readName 19 F_h0_readName), (aI ca h0_tape 940 F_h0_tape), (h0, .inr (11, [.int h0_thrown, .ref h0_tape, .int h0_taped, .int h0_size, .int h0_limit, .int u_249, .int u_250, .int u_251, .int u_252, .int u_253, .int u_254, .int u_255, .long u_256, .int u_257, .ref h0_now, .ref h0_read, .ref h0_kept, .ref h0_snaps, .ref h0_aside, .ref h0_name, .ref h0_readName, .ref h0_keptName, .ref h0_isKept, .ref h0_onces, .int h0_snapMany, .int h0_lowest, .int h0_highest, .int h0_agreed, .int h0_jurors, .int h0_panelled, .ref h0_inSets, .int h0_surely, .int h0_asked, .ref h0_frees, .int h0_struck, .int h0_beating, .ref h0_text, .int h0_texts, .int h0_seed, .ref h0_line, .ref h0_written, .int h0_lineMany, .int h0_hasWritten, .ref h0_node, .int h0_nodes, .int h0_onesMany, .int h0_within, .int h0_top])), (aI ca h0_read 89 u_291)] := hD
          try dsimp only at w_290
          obtain ⟨h_292, h_293, h_294, h_295, h_296, h_297, h_298, h_299, h_300⟩ := w_290
          subst h_292
          have s_301 : sg 0 1 0 10 u_291 := sg_eqs s_h0_read_0 h_298 (by decide) (by decide)
          have s_302 : sg 1 2 0 4 u_291 := sg_eqs s_h0_read_1 h_298 (by decide) (by decide)
          have s_303 : sg 2 3 0 5 u_291 := sg_eqs s_h0_read_2 h_298 (by decide) (by decide)
          have s_304 : sg 35 36 0 1023 u_291 := sg_eqs s_h0_read_3 h_298 (by decide) (by decide)
          have s_305 : sg 44 49 0 3 u_291 := sg_eqs s_h0_read_4 h_298 (by decide) (by decide)
          have q_306 : eqs 0 49 u_291 F_h0_read := eqs_tr h_298 (eqs_rf (a := 0) (b := 89) F_h0_read) (by decide) (by decide) (by decide) (by decide)
          exact oE_i hx hb hr (by decide) hlocks hP hD hS (u_249, u_250, u_251, u_252, u_253, u_254, u_255, u_256, u_257, u_291) [2, 1, 3, 0] rfl (by decide) (Or.inl ⟨rfl, h_259, h_284, h_286, h_293, h_294, h_295, h_296, h_297, q_306⟩) (Nat.le_of_ble_eq_true rfl) (Nat.le_of_ble_eq_true rfl) dX12_readTuned_90
        · skip
          subst h_272
          have h_307 : rg 0 2147483647 u_240 := rl_y h_282 (⟨by decide, by decide⟩ : rg 0 0 (0 : Int32)) (rga u_240) (by decide) (by decide)
          have h_308 : rg 0 60 u_240 := rl_x h_283 h_307 (⟨by decide, by decide⟩ : rg 60 60 (60 : Int32)) (by decide) (by decide)
          refine oC_i (Wc := [(h0, .inr (11, [.int h0_thrown, .ref h0_tape, .int h0_taped, .int h0_size, .int h0_limit, .int u_249, .int u_250, .int u_251, .int u_252, .int u_253, .int u_254, .int u_255, .long u_256, .int u_257, .ref h0_now, .ref h0_read, .ref h0_kept, .ref h0_snaps, .ref h0_aside, .ref h0_name, .ref h0_readName, .ref h0_keptName, .ref h0_isKept, .ref h0_onces, .int h0_snapMany, .int h0_lowest, .int h0_highest, .int h0_agreed, .int h0_jurors, .int h0_panelled, .ref h0_inSets, .int h0_surely, .int h0_asked, .ref h0_frees, .int h0_struck, .int h0_beating, .ref h0_text, .int h0_texts, .int h0_seed, .ref h0_line, .ref h0_written, .int h0_lineMany, .int h0_hasWritten, .ref h0_node, .int h0_nodes, .int h0_onesMany, .int h0_within, .int h0_top])), (aI ca h0_read 89 F_h0_read)]) (Wr := [(aJ ca h0_readName 19 F_h0_readName), (aI ca h0_tape 940 F_h0_tape)]) (va_runV (As := [.int x_226, .int 1]) (rest := []) ⟨hx, hb, hml, hown, hts⟩ (s_X12_put_3 l D ca H.size h0 x_226 1 h0_thrown h0_tape h0_taped h0_size h0_limit u_249 u_250 u_251 u_252 u_253 u_254 u_255 u_256 u_257 h0_now h0_read h0_kept h0_snaps h0_aside h0_name h0_readName h0_keptName h0_isKept h0_onces h0_snapMany h0_lowest h0_highest h0_agreed h0_jurors h0_panelled h0_inSets h0_surely h0_asked h0_frees h0_struck h0_beating h0_text h0_texts h0_seed h0_line h0_written h0_lineMany h0_hasWritten h0_node h0_nodes h0_onesMany h0_within h0_top F_h0_read h_227 (⟨by decide, by decide⟩ : rg 0 1 (1 : Int32)) i_h0_taped i_h0_size h_273 i_h0_snapMany i_h0_texts i_h0_lineMany i_h0_hasWritten s_h0_read_0 s_h0_read_1 s_h0_read_2 s_h0_read_3 s_h0_read_4) (cwV 2 hts gX12_readTuned_X12_put rfl rfl rfl (by decide +kernel) ⟨Nat.le_of_ble_eq_true rfl, Nat.le_of_ble_eq_true rfl⟩) (oPV (C := RX12) hK hP hD [2, 0] rfl (by decide) 0 rfl (ci := 11) rfl rfl) rfl rfl hl.1 rfl (lv_room (Nat.le_of_ble_eq_true rfl)) dX12_readTuned_87 ⟨Nat.le_of_ble_eq_true rfl, Nat.le_of_ble_eq_true rfl⟩) hP hD hS hA [2, 0] [1, 3] rfl rfl (by decide) (by decide) (fun r_309 u H locs w_310 hP hD hS => ?_)
          obtain ⟨u_311, rfl⟩ : ∃ z, z = u := ⟨_, rfl⟩
          have hP : va_P D vwCl [(aJ ca h0_readName 19 F_h0_readName), (aI ca h0_tape 940 F_h0_tape), (h0, .inr (11, [.int h0_thrown, .ref h0_tape, .int h0_taped, .int h0_size, .int h0_limit, .int u_249, .int u_250, .int u_251, .int u_252, .int u_253, .int u_254, .int u_255, .long u_256, .int u_257, .ref h0_now, .ref h0_read, .ref h0_kept, .ref h0_snaps, .ref h0_aside, .ref h0_name, .ref h0_readName, .ref h0_keptName, .ref h0_isKept, .ref h0_onces, .int h0_snapMany, .int h0_lowest, .int h0_highest, .int h0_agreed, .int h0_jurors, .int h0_panelled, .ref h0_inSets, .int h0_surely, .int h0_asked, .ref h0_frees, .int h0_struck, .int h0_beating, .ref h0_text, .int h0_texts, .int h0_seed, .ref h0_line, .ref h0_written, .int h0_lineMany, .int h0_hasWritten, .ref h0_node, .int h0_nodes, .int h0_onesMany, .int h0_within, .int h0_top])), (aI ca h0_read 89 u_311)] H := hP
          have hD : va_D A [(aJ ca h0_readName 19 F_h0_readName), (aI ca h0_tape 940 F_h0_tape), (h0, .inr (11, [.int h0_thrown, .ref h0_tape, .int h0_taped, .int h0_size, .int h0_limit, .int u_249, .int u_250, .int u_251, .int u_252, .int u_253, .int u_254, .int u_255, .long u_256, .int u_257, .ref h0_now, .ref h0_read, .ref h0_kept, .ref h0_snaps, .ref h0_aside, .ref h0_name, .ref h0_readName, .ref h0_keptName, .ref h0_isKept, .ref h0_onces, .int h0_snapMany, .int h0_lowest, .int h0_highest, .int h0_agreed, .int h0_jurors, .int h0_panelled, .ref h0_inSets, .int h0_surely, .int h0_asked, .ref h0_frees, .int h0_struck, .int h0_beating, .ref h0_text, .int h0_texts, .int h0_seed, .ref h0_line, .ref h0_written, .int h0_lineMany, .int h0_hasWritten, .ref h0_node, .int h0_nodes, .int h0_onesMany, .int h0_within, .int h0_top])), (aI ca h0_read 89 u_311)] := hD
          try dsimp only at w_310
          obtain ⟨h_312, h_313, h_314, h_315, h_316, h_317, h_318, h_319, h_320⟩ := w_310
          subst h_312
          have s_321 : sg 0 1 0 10 u_311 := sg_eqs s_h0_read_0 h_318 (by decide) (by decide)
          have s_322 : sg 1 2 0 4 u_311 := sg_eqs s_h0_read_1 h_318 (by decide) (by decide)
          have s_323 : sg 2 3 0 5 u_311 := sg_eqs s_h0_read_2 h_318 (by decide) (by decide)
          have s_324 : sg 35 36 0 1023 u_311 := sg_eqs s_h0_read_3 h_318 (by decide) (by decide)
          have s_325 : sg 44 49 0 3 u_311 := sg_eqs s_h0_read_4 h_318 (by decide) (by decide)
          have q_326 : eqs 0 49 u_311 F_h0_read := eqs_tr h_318 (eqs_rf (a := 0) (b := 89) F_h0_read) (by decide) (by decide) (by decide) (by decide)
          exact oE_i hx hb hr (by decide) hlocks hP hD hS (u_249, u_250, u_251, u_252, u_253, u_254, u_255, u_256, u_257, u_311) [2, 1, 3, 0] rfl (by decide) (Or.inr (⟨rfl, h_273, h_274, h_275, h_313, h_314, h_315, h_316, h_317, q_326⟩)) (Nat.le_of_ble_eq_true rfl) (Nat.le_of_ble_eq_true rfl) dX12_readTuned_90
      · skip
        refine lv_aload_n hx hb dX12_readTuned_68 rfl (lv_at hl 1 rfl) ?_
        refine lv_iconst (v := 3) hx hb dX12_readTuned_69 (by decide) ?_
        refine oC_i (Wc := [(h0, .inr (11, [.int h0_thrown, .ref h0_tape, .int h0_taped, .int h0_size, .int h0_limit, .int u_201, .int u_202, .int u_203, .int u_204, .int u_205, .int u_215, .int u_216, .long u_206, .int u_217, .ref h0_now, .ref h0_read, .ref h0_kept, .ref h0_snaps, .ref h0_aside, .ref h0_name, .ref h0_readName, .ref h0_keptName, .ref h0_isKept, .ref h0_onces, .int h0_snapMany, .int h0_lowest, .int h0_highest, .int h0_agreed, .int h0_jurors, .int h0_panelled, .ref h0_inSets, .int h0_surely, .int h0_asked, .ref h0_frees, .int h0_struck, .int h0_beating, .ref h0_text, .int h0_texts, .int h0_seed, .ref h0_line, .ref h0_written, .int h0_lineMany, .int h0_hasWritten, .ref h0_node, .int h0_nodes, .int h0_onesMany, .int h0_within, .int h0_top]))]) (Wr := [(aI ca h0_read 89 F_h0_read), (aI ca h0_tape 940 F_h0_tape), (aJ ca h0_readName 19 F_h0_readName)]) (va_runV (As := [.int 3]) (rest := []) ⟨hx, hb, hml, hown, hts⟩ (s_X12_bad l D ca H.size h0 3 h0_thrown h0_tape h0_taped h0_size h0_limit u_201 u_202 u_203 u_204 u_205 u_215 u_216 u_206 u_217 h0_now h0_read h0_kept h0_snaps h0_aside h0_name h0_readName h0_keptName h0_isKept h0_onces h0_snapMany h0_lowest h0_highest h0_agreed h0_jurors h0_panelled h0_inSets h0_surely h0_asked h0_frees h0_struck h0_beating h0_text h0_texts h0_seed h0_line h0_written h0_lineMany h0_hasWritten h0_node h0_nodes h0_onesMany h0_within h0_top i_h0_taped i_h0_size h_207 i_h0_snapMany i_h0_texts i_h0_lineMany i_h0_hasWritten) (cwV 1 hts gX12_readTuned_X12_bad rfl rfl rfl (by decide +kernel) ⟨Nat.le_of_ble_eq_true rfl, Nat.le_of_ble_eq_true rfl⟩) (oPV (C := RX12) hK hP hD [2] rfl (by decide) 0 rfl (ci := 11) rfl rfl) rfl rfl hl.1 rfl (lv_room (Nat.le_of_ble_eq_true rfl)) dX12_readTuned_70 ⟨Nat.le_of_ble_eq_true rfl, Nat.le_of_ble_eq_true rfl⟩) hP hD hS hA [2] [0, 1, 3] rfl rfl (by decide) (by decide) (fun r_327 u H locs w_328 hP hD hS => ?_)
        obtain ⟨u_329, rfl⟩ : ∃ z, z = u := ⟨_, rfl⟩
        have hP : va_P D vwCl [(aI ca h0_read 89 F_h0_read), (aI ca h0_tape 940 F_h0_tape), (aJ ca h0_readName 19 F_h0_readName), (h0, .inr (11, [.int h0_thrown, .ref h0_tape, .int h0_taped, .int h0_size, .int h0_limit, .int u_201, .int u_202, .int u_203, .int u_204, .int u_205, .int u_329, .int u_202, .long u_206, .int u_217, .ref h0_now, .ref h0_read, .ref h0_kept, .ref h0_snaps, .ref h0_aside, .ref h0_name, .ref h0_readName, .ref h0_keptName, .ref h0_isKept, .ref h0_onces, .int h0_snapMany, .int h0_lowest, .int h0_highest, .int h0_agreed, .int h0_jurors, .int h0_panelled, .ref h0_inSets, .int h0_surely, .int h0_asked, .ref h0_frees, .int h0_struck, .int h0_beating, .ref h0_text, .int h0_texts, .int h0_seed, .ref h0_line, .ref h0_written, .int h0_lineMany, .int h0_hasWritten, .ref h0_node, .int h0_nodes, .int h0_onesMany, .int h0_within, .int h0_top]))] H := hP
        have hD : va_D A [(aI ca h0_read 89 F_h0_read), (aI ca h0_tape 940 F_h0_tape), (aJ ca h0_readName 19 F_h0_readName), (h0, .inr (11, [.int h0_thrown, .ref h0_tape, .int h0_taped, .int h0_size, .int h0_limit, .int u_201, .int u_202, .int u_203, .int u_204, .int u_205, .int u_329, .int u_202, .long u_206, .int u_217, .ref h0_now, .ref h0_read, .ref h0_kept, .ref h0_snaps, .ref h0_aside, .ref h0_name, .ref h0_readName, .ref h0_keptName, .ref h0_isKept, .ref h0_onces, .int h0_snapMany, .int h0_lowest, .int h0_highest, .int h0_agreed, .int h0_jurors, .int h0_panelled, .ref h0_inSets, .int h0_surely, .int h0_asked, .ref h0_frees, .int h0_struck, .int h0_beating, .ref h0_text, .int h0_texts, .int h0_seed, .ref h0_line, .ref h0_written, .int h0_lineMany, .int h0_hasWritten, .ref h0_node, .int h0_nodes, .int h0_onesMany, .int h0_within, .int h0_top]))] := hD
        try dsimp only at w_328
        have h_330 := w_328
        subst h_330
        exact oE_i hx hb hr (by decide) hlocks hP hD hS (u_201, u_202, u_203, u_204, u_205, u_329, u_202, u_206, u_217, F_h0_read) [3, 1, 0, 2] rfl (by decide) (Or.inl ⟨rfl, h_207, h_208, (rgw (lo := 0) (hi := 4) h_221 (by decide) (by decide)), s_h0_read_0, s_h0_read_1, s_h0_read_2, s_h0_read_3, s_h0_read_4, (eqs_w (eqs_rf (a := 0) (b := 89) F_h0_read) (by decide) (by decide))⟩) (Nat.le_of_ble_eq_true rfl) (Nat.le_of_ble_eq_true rfl) dX12_readTuned_73
theorem dX12_readOnce_0 : decode cX12_readOnce 0 = .ok (.aload_n 0, 1) := by decide +kernel
theorem dX12_readOnce_1 : decode cX12_readOnce 1 = .ok (.getfield 127, 3) := by decide +kernel
theorem dX12_readOnce_4 : decode cX12_readOnce 4 = .ok (.iload_n 1, 1) := by decide +kernel
theorem dX12_readOnce_5 : decode cX12_readOnce 5 = .ok (.baload, 1) := by decide +kernel
theorem dX12_readOnce_6 : decode cX12_readOnce 6 = .ok (.ifCond .eq 9, 3) := by decide +kernel
theorem dX12_readOnce_9 : decode cX12_readOnce 9 = .ok (.aload_n 0, 1) := by decide +kernel
theorem dX12_readOnce_10 : decode cX12_readOnce 10 = .ok (.iconst 3, 1) := by decide +kernel
theorem dX12_readOnce_11 : decode cX12_readOnce 11 = .ok (.invokevirtual 72, 3) := by decide +kernel
theorem dX12_readOnce_14 : decode cX12_readOnce 14 = .ok (.ireturn, 1) := by decide +kernel
theorem dX12_readOnce_15 : decode cX12_readOnce 15 = .ok (.aload_n 0, 1) := by decide +kernel
theorem dX12_readOnce_16 : decode cX12_readOnce 16 = .ok (.getfield 127, 3) := by decide +kernel
theorem dX12_readOnce_19 : decode cX12_readOnce 19 = .ok (.iload_n 1, 1) := by decide +kernel
theorem dX12_readOnce_20 : decode cX12_readOnce 20 = .ok (.iconst 1, 1) := by decide +kernel
theorem dX12_readOnce_21 : decode cX12_readOnce 21 = .ok (.bastore, 1) := by decide +kernel
theorem dX12_readOnce_22 : decode cX12_readOnce 22 = .ok (.aload_n 0, 1) := by decide +kernel
theorem dX12_readOnce_23 : decode cX12_readOnce 23 = .ok (.invokevirtual 82, 3) := by decide +kernel
theorem dX12_readOnce_26 : decode cX12_readOnce 26 = .ok (.aload_n 0, 1) := by decide +kernel
theorem dX12_readOnce_27 : decode cX12_readOnce 27 = .ok (.iload_n 2, 1) := by decide +kernel
theorem dX12_readOnce_28 : decode cX12_readOnce 28 = .ok (.aload_n 0, 1) := by decide +kernel
theorem dX12_readOnce_29 : decode cX12_readOnce 29 = .ok (.iconst 0, 1) := by decide +kernel
theorem dX12_readOnce_30 : decode cX12_readOnce 30 = .ok (.iload_n 3, 1) := by decide +kernel
theorem dX12_readOnce_31 : decode cX12_readOnce 31 = .ok (.invokevirtual 190, 3) := by decide +kernel
theorem dX12_readOnce_34 : decode cX12_readOnce 34 = .ok (.invokevirtual 193, 3) := by decide +kernel
theorem dX12_readOnce_37 : decode cX12_readOnce 37 = .ok (.ireturn, 1) := by decide +kernel
set_option maxRecDepth 20000 in
theorem ggX12_readOnce_X12_go : GoodIn wsX12_readOnce wsX12_go := goodIn_r _ [14, 15, 16, 17, 9, 18, 7, 19, 20, 21, 22, 23, 24, 25, 5, 26, 27, 28, 29, 30, 31, 32, 33, 47, 48, 49, 50, 51, 52, 53, 54, 55, 56, 57, 58, 59, 60, 61, 62, 63, 64, 65, 66, 67, 68, 69, 70, 71, 72, 73, 74, 75, 76, 77, 78, 79, 80, 81, 82, 83, 84, 85, 86, 87, 88, 89, 90, 91, 92, 93, 94] rfl (by decide +kernel)
set_option maxRecDepth 20000 in
theorem gX12_readOnce_X12_go : GoodIn wsX12_readOnce (wsV RX12 82 RX12 yX12_go wsX12_go) := goodIn_app (goodIn_of _ (by decide +kernel)) ggX12_readOnce_X12_go
set_option maxRecDepth 20000 in
theorem ggX12_readOnce_X12_readNumber : GoodIn wsX12_readOnce wsX12_readNumber := goodIn_r _ [37, 7, 21, 38, 2, 3, 4, 5, 6, 8, 9, 10, 39, 40, 41, 11, 12, 13, 14, 15, 16, 17, 18, 19, 20, 22, 23, 24, 25, 26, 27, 28, 29, 30, 31, 32, 33, 47, 48, 49, 50, 51, 52, 53, 54, 55, 56, 57, 58, 59, 60, 61, 62, 63, 64, 65, 66, 67, 68, 69, 70, 71, 72, 73, 74, 75, 76, 77, 78, 79, 80, 81, 82, 83, 84, 85, 86, 87, 88, 89, 90, 91, 92, 93, 94] rfl (by decide +kernel)
set_option maxRecDepth 20000 in
theorem gX12_readOnce_X12_readNumber : GoodIn wsX12_readOnce (wsV RX12 190 RX12 yX12_readNumber wsX12_readNumber) := goodIn_app (goodIn_of _ (by decide +kernel)) ggX12_readOnce_X12_readNumber
set_option maxRecDepth 20000 in
theorem ggX12_readOnce_X12_put : GoodIn wsX12_readOnce wsX12_put := goodIn_r _ [45, 46, 38, 47, 48, 49, 50, 51, 52, 53, 54, 55, 56, 57, 58, 59, 60, 61, 62, 63, 64, 65, 66, 67, 68, 69, 70, 71, 72, 73, 74, 75, 76, 77, 78, 79, 80, 81, 82, 83, 84, 85, 86, 87, 88, 89, 90, 91, 92, 93, 94] rfl (by decide +kernel)
set_option maxRecDepth 20000 in
theorem gX12_readOnce_X12_put : GoodIn wsX12_readOnce (wsV RX12 193 RX12 yX12_put wsX12_put) := goodIn_app (goodIn_of _ (by decide +kernel)) ggX12_readOnce_X12_put
set_option maxRecDepth 20000 in
theorem ggX12_readOnce_X12_bad : GoodIn wsX12_readOnce wsX12_bad := goodIn_r _ [6, 7, 8, 9, 10, 47, 48, 49, 50, 51, 52, 53, 54, 55, 56, 57, 58, 59, 60, 61, 62, 63, 64, 65, 66, 67, 68, 69, 70, 71, 72, 73, 74, 75, 76, 77, 78, 79, 80, 81, 82, 83, 84, 85, 86, 87, 88, 89, 90, 91, 92, 93, 94] rfl (by decide +kernel)
set_option maxRecDepth 20000 in
theorem gX12_readOnce_X12_bad : GoodIn wsX12_readOnce (wsV RX12 72 RX12 yX12_bad wsX12_bad) := goodIn_app (goodIn_of _ (by decide +kernel)) ggX12_readOnce_X12_bad
set_option maxHeartbeats 4000000 in
set_option maxRecDepth 100000 in
theorem s_X12_readOnce (l : Launch) (D : va_G) (ca : Nat → ClassId) (sz : Nat) (h0 : Nat) (a1 : Int32) (a2 : Int32) (a3 : Int32) (h0_thrown : Int32) (h0_tape : Nat) (h0_taped : Int32) (h0_size : Int32) (h0_limit : Int32) (h0_to : Int32) (h0_from : Int32) (h0_kind : Int32) (h0_number : Int32) (h0_sign : Int32) (h0_fault : Int32) (h0_place : Int32) (h0_word : Int64) (h0_told : Int32) (h0_now : Nat) (h0_read : Nat) (h0_kept : Nat) (h0_snaps : Nat) (h0_aside : Nat) (h0_name : Nat) (h0_readName : Nat) (h0_keptName : Nat) (h0_isKept : Nat) (h0_onces : Nat) (h0_snapMany : Int32) (h0_lowest : Int32) (h0_highest : Int32) (h0_agreed : Int32) (h0_jurors : Int32) (h0_panelled : Int32) (h0_inSets : Nat) (h0_surely : Int32) (h0_asked : Int32) (h0_frees : Nat) (h0_struck : Int32) (h0_beating : Int32) (h0_text : Nat) (h0_texts : Int32) (h0_seed : Int32) (h0_line : Nat) (h0_written : Nat) (h0_lineMany : Int32) (h0_hasWritten : Int32) (h0_node : Nat) (h0_nodes : Int32) (h0_onesMany : Int32) (h0_within : Int32) (h0_top : Int32) (F_h0_onces : Nat → Int32) (F_h0_tape : Nat → Int32) (F_h0_read : Nat → Int32) (i_a1 : rg 0 1 a1) (i_a2 : rg 3 4 a2) (i_h0_taped : rg 0 940 h0_taped) (i_h0_size : rg 0 940 h0_size) (i_h0_to : rg 0 940 h0_to) (i_h0_snapMany : rg 0 8 h0_snapMany) (i_h0_texts : rg 0 64 h0_texts) (i_h0_lineMany : rg 0 40 h0_lineMany) (i_h0_hasWritten : rg 0 1 h0_hasWritten) (s_h0_tape_0 : sg 0 940 0 255 F_h0_tape) (s_h0_read_0 : sg 0 1 0 10 F_h0_read) (s_h0_read_1 : sg 1 2 0 4 F_h0_read) (s_h0_read_2 : sg 2 3 0 5 F_h0_read) (s_h0_read_3 : sg 35 36 0 1023 F_h0_read) (s_h0_read_4 : sg 44 49 0 3 F_h0_read) : oMet l yX12_readOnce wsX12_readOnce ({ frames := 3, cells := 0, slots := 0, locals := 67 } : Room) [.ref h0, .int a1, .int a2, .int a3] D ca sz [(h0, .inr (11, [.int h0_thrown, .ref h0_tape, .int h0_taped, .int h0_size, .int h0_limit, .int h0_to, .int h0_from, .int h0_kind, .int h0_number, .int h0_sign, .int h0_fault, .int h0_place, .long h0_word, .int h0_told, .ref h0_now, .ref h0_read, .ref h0_kept, .ref h0_snaps, .ref h0_aside, .ref h0_name, .ref h0_readName, .ref h0_keptName, .ref h0_isKept, .ref h0_onces, .int h0_snapMany, .int h0_lowest, .int h0_highest, .int h0_agreed, .int h0_jurors, .int h0_panelled, .ref h0_inSets, .int h0_surely, .int h0_asked, .ref h0_frees, .int h0_struck, .int h0_beating, .ref h0_text, .int h0_texts, .int h0_seed, .ref h0_line, .ref h0_written, .int h0_lineMany, .int h0_hasWritten, .ref h0_node, .int h0_nodes, .int h0_onesMany, .int h0_within, .int h0_top])), (aZ ca h0_onces 2 F_h0_onces), (aI ca h0_tape 940 F_h0_tape), (aI ca h0_read 89 F_h0_read)] (oQi D (fun (r : Int32) (u : Int32 × Int32 × Int32 × Int32 × Int32 × Int32 × Int32 × Int64 × Int32 × (Nat → Int32) × (Nat → Int32)) => ((r = 0) ∧ (rg 0 940 u.1) ∧ (sg 0 1 0 10 u.2.2.2.2.2.2.2.2.2.2) ∧ (sg 1 2 0 4 u.2.2.2.2.2.2.2.2.2.2) ∧ (sg 2 3 0 5 u.2.2.2.2.2.2.2.2.2.2) ∧ (sg 35 36 0 1023 u.2.2.2.2.2.2.2.2.2.2) ∧ (sg 44 49 0 3 u.2.2.2.2.2.2.2.2.2.2) ∧ (eqs 5 89 u.2.2.2.2.2.2.2.2.2.2 F_h0_read) ∧ (rl 0 h0_told u.2.2.2.2.2.2.2.2.1) ∧ (rl 0 u.2.2.2.2.2.2.2.2.1 h0_told)) ∨ ((r = 1) ∧ (rg 0 940 u.1) ∧ (rg (-2147483648) 940 u.2.1) ∧ (rg 0 4 u.2.2.1) ∧ (rg 0 2147483647 a3) ∧ (sg 0 1 0 10 u.2.2.2.2.2.2.2.2.2.2) ∧ (sg 1 2 0 4 u.2.2.2.2.2.2.2.2.2.2) ∧ (sg 2 3 0 5 u.2.2.2.2.2.2.2.2.2.2) ∧ (sg 35 36 0 1023 u.2.2.2.2.2.2.2.2.2.2) ∧ (sg 44 49 0 3 u.2.2.2.2.2.2.2.2.2.2) ∧ (eqs 5 89 u.2.2.2.2.2.2.2.2.2.2 F_h0_read) ∧ (rl 0 h0_fault u.2.2.2.2.2.1) ∧ (rl 0 u.2.2.2.2.2.1 h0_fault) ∧ (rl 0 h0_place u.2.2.2.2.2.2.1) ∧ (rl 0 u.2.2.2.2.2.2.1 h0_place))) (fun (u : Int32 × Int32 × Int32 × Int32 × Int32 × Int32 × Int32 × Int64 × Int32 × (Nat → Int32) × (Nat → Int32)) => [(h0, .inr (11, [.int h0_thrown, .ref h0_tape, .int h0_taped, .int h0_size, .int h0_limit, .int u.1, .int u.2.1, .int u.2.2.1, .int u.2.2.2.1, .int u.2.2.2.2.1, .int u.2.2.2.2.2.1, .int u.2.2.2.2.2.2.1, .long u.2.2.2.2.2.2.2.1, .int u.2.2.2.2.2.2.2.2.1, .ref h0_now, .ref h0_read, .ref h0_kept, .ref h0_snaps, .ref h0_aside, .ref h0_name, .ref h0_readName, .ref h0_keptName, .ref h0_isKept, .ref h0_onces, .int h0_snapMany, .int h0_lowest, .int h0_highest, .int h0_agreed, .int h0_jurors, .int h0_panelled, .ref h0_inSets, .int h0_surely, .int h0_asked, .ref h0_frees, .int h0_struck, .int h0_beating, .ref h0_text, .int h0_texts, .int h0_seed, .ref h0_line, .ref h0_written, .int h0_lineMany, .int h0_hasWritten, .ref h0_node, .int h0_nodes, .int h0_onesMany, .int h0_within, .int h0_top])), (aZ ca h0_onces 2 u.2.2.2.2.2.2.2.2.2.1), (aI ca h0_tape 940 F_h0_tape), (aI ca h0_read 89 u.2.2.2.2.2.2.2.2.2.2)])) 0 0 := by
  refine oM (cc := cX12_readOnce) (maxL := 4) (ret := (some .boolean)) (by decide) rfl (Nat.le_of_ble_eq_true rfl) [(0, .ref h0), (1, .int a1), (2, .int a2), (3, .int a3)] rfl ?_
  intro p e s m below meth c A H locs ls hx hb hr hml hts hown hlocks hin hK hP hD hA hS hl
  have hown : s.vm.findClass RX12 = some m.cls := hown
  have k1 := hts (.fieldLink RX12 127 "LidCourtModel" "onces" "[Z") (by decide +kernel)
  have k2 : ∀ w ∈ wsX120, w ∈ wsX12_readOnce := fun _ h => List.mem_cons_of_mem _ (List.mem_append_right _ h)
  refine lv_aload_n hx hb dX12_readOnce_0 rfl (lv_at hl 0 rfl) ?_
  refine va_get (D := D) (ci := 11) (v := .ref h0_onces) (C := RX12) (T := TX12) (N := 48) hx hb hts k2 hown hK.1 hP 0 rfl rfl 23 (by decide) k1 (fun _ h9 => h9) rfl dX12_readOnce_1 ?_
  refine lv_iload_n hx hb dX12_readOnce_4 rfl (lv_at hl 1 rfl) ?_
  refine va_zald hx hb hK.1 hP 1 2 rfl rfl (rg_in i_a1 (by decide) (by decide)) dX12_readOnce_5 ?_
  refine lv_topi (fun x_96 ex_96 => ?_)
  refine lv_if_eq (tgt := 15) hx hb dX12_readOnce_6 (by decide) (fun c_97 => ?_) (fun c_97 => ?_)
  · skip
    have o_98 : rl 0 x_96 0 := rl_eq c_97
    have h_99 : rg (-2147483648) 0 x_96 := rl_x o_98 (rga x_96) (⟨by decide, by decide⟩ : rg 0 0 (0 : Int32)) (by decide) (by decide)
    have o_100 : rl 0 0 x_96 := rl_eq c_97.symm
    have h_101 : rg 0 0 x_96 := rl_y o_100 (⟨by decide, by decide⟩ : rg 0 0 (0 : Int32)) h_99 (by decide) (by decide)
    refine lv_aload_n hx hb dX12_readOnce_15 rfl (lv_at hl 0 rfl) ?_
    refine va_get (D := D) (ci := 11) (v := .ref h0_onces) (C := RX12) (T := TX12) (N := 48) hx hb hts k2 hown hK.1 hP 0 rfl rfl 23 (by decide) k1 (fun _ h9 => h9) rfl dX12_readOnce_16 ?_
    refine lv_iload_n hx hb dX12_readOnce_19 rfl (lv_at hl 1 rfl) ?_
    refine lv_iconst (v := 1) hx hb dX12_readOnce_20 (by decide) ?_
    refine va_zast hx hb hK.1 hP hD hS 1 2 rfl rfl (rg_in i_a1 (by decide) (by decide)) dX12_readOnce_21 (fun H locs hP hD hS => ?_)
    obtain ⟨g_102, eg_102⟩ : ∃ y : Nat → Int32, y = upd F_h0_onces (a1 : Int32).toNatClampNeg (vp_nar .boolean 1) := ⟨_, rfl⟩
    rw [← eg_102] at hP hD
    have hP : va_P D vwCl [(h0, .inr (11, [.int h0_thrown, .ref h0_tape, .int h0_taped, .int h0_size, .int h0_limit, .int h0_to, .int h0_from, .int h0_kind, .int h0_number, .int h0_sign, .int h0_fault, .int h0_place, .long h0_word, .int h0_told, .ref h0_now, .ref h0_read, .ref h0_kept, .ref h0_snaps, .ref h0_aside, .ref h0_name, .ref h0_readName, .ref h0_keptName, .ref h0_isKept, .ref h0_onces, .int h0_snapMany, .int h0_lowest, .int h0_highest, .int h0_agreed, .int h0_jurors, .int h0_panelled, .ref h0_inSets, .int h0_surely, .int h0_asked, .ref h0_frees, .int h0_struck, .int h0_beating, .ref h0_text, .int h0_texts, .int h0_seed, .ref h0_line, .ref h0_written, .int h0_lineMany, .int h0_hasWritten, .ref h0_node, .int h0_nodes, .int h0_onesMany, .int h0_within, .int h0_top])), (aZ ca h0_onces 2 g_102), (aI ca h0_tape 940 F_h0_tape), (aI ca h0_read 89 F_h0_read)] H := hP
    have hD : va_D A [(h0, .inr (11, [.int h0_thrown, .ref h0_tape, .int h0_taped, .int h0_size, .int h0_limit, .int h0_to, .int h0_from, .int h0_kind, .int h0_number, .int h0_sign, .int h0_fault, .int h0_place, .long h0_word, .int h0_told, .ref h0_now, .ref h0_read, .ref h0_kept, .ref h0_snaps, .ref h0_aside, .ref h0_name, .ref h0_readName, .ref h0_keptName, .ref h0_isKept, .ref h0_onces, .int h0_snapMany, .int h0_lowest, .int h0_highest, .int h0_agreed, .int h0_jurors, .int h0_panelled, .ref h0_inSets, .int h0_surely, .int h0_asked, .ref h0_frees, .int h0_struck, .int h0_beating, .ref h0_text, .int h0_texts, .int h0_seed, .ref h0_line, .ref h0_written, .int h0_lineMany, .int h0_hasWritten, .ref h0_node, .int h0_nodes, .int h0_onesMany, .int h0_within, .int h0_top])), (aZ ca h0_onces 2 g_102), (aI ca h0_tape 940 F_h0_tape), (aI ca h0_read 89 F_h0_read)] := hD
    refine lv_aload_n hx hb dX12_readOnce_22 rfl (lv_at hl 0 rfl) ?_
    refine oC_v (Wc := [(h0, .inr (11, [.int h0_thrown, .ref h0_tape, .int h0_taped, .int h0_size, .int h0_limit, .int h0_to, .int h0_from, .int h0_kind, .int h0_number, .int h0_sign, .int h0_fault, .int h0_place, .long h0_word, .int h0_told, .ref h0_now, .ref h0_read, .ref h0_kept, .ref h0_snaps, .ref h0_aside, .ref h0_name, .ref h0_readName, .ref h0_keptName, .ref h0_isKept, .ref h0_onces, .int h0_snapMany, .int h0_lowest, .int h0_highest, .int h0_agreed, .int h0_jurors, .int h0_panelled, .ref h0_inSets, .int h0_surely, .int h0_asked, .ref h0_frees, .int h0_struck, .int h0_beating, .ref h0_text, .int h0_texts, .int h0_seed, .ref h0_line, .ref h0_written, .int h0_lineMany, .int h0_hasWritten, .ref h0_node, .int h0_nodes, .int h0_onesMany, .int h0_within, .int h0_top])), (aI ca h0_tape 940 F_h0_tape)]) (Wr := [(aZ ca h0_onces 2 g_102), (aI ca h0_read 89 F_h0_read)]) (va_runV (As := []) (rest := []) ⟨hx, hb, hml, hown, hts⟩ (s_X12_go l D ca H.size h0 h0_thrown h0_tape h0_taped h0_size h0_limit h0_to h0_from h0_kind h0_number h0_sign h0_fault h0_place h0_word h0_told h0_now h0_read h0_kept h0_snaps h0_aside h0_name h0_readName h0_keptName h0_isKept h0_onces h0_snapMany h0_lowest h0_highest h0_agreed h0_jurors h0_panelled h0_inSets h0_surely h0_asked h0_frees h0_struck h0_beating h0_text h0_texts h0_seed h0_line h0_written h0_lineMany h0_hasWritten h0_node h0_nodes h0_onesMany h0_within h0_top F_h0_tape i_h0_taped i_h0_size i_h0_to i_h0_snapMany i_h0_texts i_h0_lineMany i_h0_hasWritten s_h0_tape_0) (cwV 0 hts gX12_readOnce_X12_go rfl rfl rfl (by decide +kernel) ⟨Nat.le_of_ble_eq_true rfl, Nat.le_of_ble_eq_true rfl⟩) (oPV (C := RX12) hK hP hD [0, 2] rfl (by decide) 0 rfl (ci := 11) rfl rfl) rfl rfl hl.1 rfl (lv_room (Nat.le_of_ble_eq_true rfl)) dX12_readOnce_23 ⟨Nat.le_of_ble_eq_true rfl, Nat.le_of_ble_eq_true rfl⟩) hP hD hS hA [0, 2] [1, 3] rfl rfl (by decide) (by decide) (fun u H locs w_104 hP hD hS => ?_)
    obtain ⟨u_105, u_106, u_107, u_108, u_109, u_110⟩ := u
    have hP : va_P D vwCl [(aZ ca h0_onces 2 g_102), (aI ca h0_read 89 F_h0_read), (h0, .inr (11, [.int h0_thrown, .ref h0_tape, .int h0_taped, .int h0_size, .int h0_limit, .int u_105, .int u_106, .int u_107, .int u_108, .int u_109, .int h0_fault, .int h0_place, .long u_110, .int h0_told, .ref h0_now, .ref h0_read, .ref h0_kept, .ref h0_snaps, .ref h0_aside, .ref h0_name, .ref h0_readName, .ref h0_keptName, .ref h0_isKept, .ref h0_onces, .int h0_snapMany, .int h0_lowest, .int h0_highest, .int h0_agreed, .int h0_jurors, .int h0_panelled, .ref h0_inSets, .int h0_surely, .int h0_asked, .ref h0_frees, .int h0_struck, .int h0_beating, .ref h0_text, .int h0_texts, .int h0_seed, .ref h0_line, .ref h0_written, .int h0_lineMany, .int h0_hasWritten, .ref h0_node, .int h0_nodes, .int h0_onesMany, .int h0_within, .int h0_top])), (aI ca h0_tape 940 F_h0_tape)] H := hP
    have hD : va_D A [(aZ ca h0_onces 2 g_102), (aI ca h0_read 89 F_h0_read), (h0, .inr (11, [.int h0_thrown, .ref h0_tape, .int h0_taped, .int h0_size, .int h0_limit, .int u_105, .int u_106, .int u_107, .int u_108, .int u_109, .int h0_fault, .int h0_place, .long u_110, .int h0_told, .ref h0_now, .ref h0_read, .ref h0_kept, .ref h0_snaps, .ref h0_aside, .ref h0_name, .ref h0_readName, .ref h0_keptName, .ref h0_isKept, .ref h0_onces, .int h0_snapMany, .int h0_lowest, .int h0_highest, .int h0_agreed, .int h0_jurors, .int h0_panelled, .ref h0_inSets, .int h0_surely, .int h0_asked, .ref h0_frees, .int h0_struck, .int h0_beating, .ref h0_text, .int h0_texts, .int h0_seed, .ref h0_line, .ref h0_written, .int h0_lineMany, .int h0_hasWritten, .ref h0_node, .int h0_nodes, .int h0_onesMany, .int h0_within, .int h0_top])), (aI ca h0_tape 940 F_h0_tape)] := hD
    try dsimp only at w_104
    obtain ⟨h_111, h_112, h_113, h_114⟩ := w_104
    refine lv_aload_n hx hb dX12_readOnce_26 rfl (lv_at hl 0 rfl) ?_
    refine lv_iload_n hx hb dX12_readOnce_27 rfl (lv_at hl 2 rfl) ?_
    refine lv_aload_n hx hb dX12_readOnce_28 rfl (lv_at hl 0 rfl) ?_
    refine lv_iconst (v := 0) hx hb dX12_readOnce_29 (by decide) ?_
    refine lv_iload_n hx hb dX12_readOnce_30 rfl (lv_at hl 3 rfl) ?_
    refine oC_i (Wc := [(h0, .inr (11, [.int h0_thrown, .ref h0_tape, .int h0_taped, .int h0_size, .int h0_limit, .int u_105, .int u_106, .int u_107, .int u_108, .int u_109, .int h0_fault, .int h0_place, .long u_110, .int h0_told, .ref h0_now, .ref h0_read, .ref h0_kept, .ref h0_snaps, .ref h0_aside, .ref h0_name, .ref h0_readName, .ref h0_keptName, .ref h0_isKept, .ref h0_onces, .int h0_snapMany, .int h0_lowest, .int h0_highest, .int h0_agreed, .int h0_jurors, .int h0_panelled, .ref h0_inSets, .int h0_surely, .int h0_asked, .ref h0_frees, .int h0_struck, .int h0_beating, .ref h0_text, .int h0_texts, .int h0_seed, .ref h0_line, .ref h0_written, .int h0_lineMany, .int h0_hasWritten, .ref h0_node, .int h0_nodes, .int h0_onesMany, .int h0_within, .int h0_top])), (aI ca h0_tape 940 F_h0_tape)]) (Wr := [(aZ ca h0_onces 2 g_102), (aI ca h0_read 89 F_h0_read)]) (va_runV (As := [.int 0, .int a3]) (rest := [.int a2, .ref h0]) ⟨hx, hb, hml, hown, hts⟩ (s_X12_readNumber l D ca H.size h0 0 a3 h0_thrown h0_tape h0_taped h0_size h0_limit u_105 u_106 u_107 u_108 u_109 h0_fault h0_place u_110 h0_told h0_now h0_read h0_kept h0_snaps h0_aside h0_name h0_readName h0_keptName h0_isKept h0_onces h0_snapMany h0_lowest h0_highest h0_agreed h0_jurors h0_panelled h0_inSets h0_surely h0_asked h0_frees h0_struck h0_beating h0_text h0_texts h0_seed h0_line h0_written h0_lineMany h0_hasWritten h0_node h0_nodes h0_onesMany h0_within h0_top F_h0_tape i_h0_taped i_h0_size h_111 i_h0_snapMany i_h0_texts i_h0_lineMany i_h0_hasWritten s_h0_tape_0) (cwV 2 hts gX12_readOnce_X12_readNumber rfl rfl rfl (by decide +kernel) ⟨Nat.le_of_ble_eq_true rfl, Nat.le_of_ble_eq_true rfl⟩) (oPV (C := RX12) hK hP hD [2, 3] rfl (by decide) 0 rfl (ci := 11) rfl rfl) rfl rfl hl.1 rfl (lv_room (Nat.le_of_ble_eq_true rfl)) dX12_readOnce_31 ⟨Nat.le_of_ble_eq_true rfl, Nat.le_of_ble_eq_true rfl⟩) hP hD hS hA [2, 3] [0, 1] rfl rfl (by decide) (by decide) (fun r_115 u H locs w_116 hP hD hS => ?_)
    obtain ⟨u_117, u_118, u_119, u_120, u_121, u_122, u_123, u_124, u_125⟩ := u
    have hP : va_P D vwCl [(aZ ca h0_onces 2 g_102), (aI ca h0_read 89 F_h0_read), (h0, .inr (11, [.int h0_thrown, .ref h0_tape, .int h0_taped, .int h0_size, .int h0_limit, .int u_117, .int u_118, .int u_119, .int u_120, .int u_121, .int u_122, .int u_123, .long u_124, .int u_125, .ref h0_now, .ref h0_read, .ref h0_kept, .ref h0_snaps, .ref h0_aside, .ref h0_name, .ref h0_readName, .ref h0_keptName, .ref h0_isKept, .ref h0_onces, .int h0_snapMany, .int h0_lowest, .int h0_highest, .int h0_agreed, .int h0_jurors, .int h0_panelled, .ref h0_inSets, .int h0_surely, .int h0_asked, .ref h0_frees, .int h0_struck, .int h0_beating, .ref h0_text, .int h0_texts, .int h0_seed, .ref h0_line, .ref h0_written, .int h0_lineMany, .int h0_hasWritten, .ref h0_node, .int h0_nodes, .int h0_onesMany, .int h0_within, .int h0_top])), (aI ca h0_tape 940 F_h0_tape)] H := hP
    have hD : va_D A [(aZ ca h0_onces 2 g_102), (aI ca h0_read 89 F_h0_read), (h0, .inr (11, [.int h0_thrown, .ref h0_tape, .int h0_taped, .int h0_size, .int h0_limit, .int u_117, .int u_118, .int u_119, .int u_120, .int u_121, .int u_122, .int u_123, .long u_124, .int u_125, .ref h0_now, .ref h0_read, .ref h0_kept, .ref h0_snaps, .ref h0_aside, .ref h0_name, .ref h0_readName, .ref h0_keptName, .ref h0_isKept, .ref h0_onces, .int h0_snapMany, .int h0_lowest, .int h0_highest, .int h0_agreed, .int h0_jurors, .int h0_panelled, .ref h0_inSets, .int h0_surely, .int h0_asked, .ref h0_frees, .int h0_struck, .int h0_beating, .ref h0_text, .int h0_texts, .int h0_seed, .ref h0_line, .ref h0_written, .int h0_lineMany, .int h0_hasWritten, .ref h0_node, .int h0_nodes, .int h0_onesMany, .int h0_within, .int h0_top])), (aI ca h0_tape 940 F_h0_tape)] := hD
    try dsimp only at w_116
    rcases w_116 with ⟨h_126, h_127, h_128, h_129, h_130, h_131, h_132, h_133, h_134, h_135, h_136, h_137, h_138, h_139⟩ | ⟨h_140, h_141, h_142, h_143, h_144, h_145, h_146, h_147, h_148, h_149, h_150, h_151⟩
    · skip
      subst h_126
      have h_152 : rg (-2147483648) 940 u_118 := rl_x h_131 (rga u_118) h_112 (by decide) (by decide)
      have h_153 : rg 0 2147483647 u_119 := rl_y h_132 h_113 (rga u_119) (by decide) (by decide)
      have h_154 : rg 0 4 u_119 := rl_x h_133 h_153 h_113 (by decide) (by decide)
      refine oC_i (Wc := [(h0, .inr (11, [.int h0_thrown, .ref h0_tape, .int h0_taped, .int h0_size, .int h0_limit, .int u_117, .int u_118, .int u_119, .int u_120, .int u_121, .int u_122, .int u_123, .long u_124, .int u_125, .ref h0_now, .ref h0_read, .ref h0_kept, .ref h0_snaps, .ref h0_aside, .ref h0_name, .ref h0_readName, .ref h0_keptName, .ref h0_isKept, .ref h0_onces, .int h0_snapMany, .int h0_lowest, .int h0_highest, .int h0_agreed, .int h0_jurors, .int h0_panelled, .ref h0_inSets, .int h0_surely, .int h0_asked, .ref h0_frees, .int h0_struck, .int h0_beating, .ref h0_text, .int h0_texts, .int h0_seed, .ref h0_line, .ref h0_written, .int h0_lineMany, .int h0_hasWritten, .ref h0_node, .int h0_nodes, .int h0_onesMany, .int h0_within, .int h0_top])), (aI ca h0_read 89 F_h0_read)]) (Wr := [(aZ ca h0_onces 2 g_102), (aI ca h0_tape 940 F_h0_tape)]) (va_runV (As := [.int a2, .int 0]) (rest := []) ⟨hx, hb, hml, hown, hts⟩ (s_X12_put_4 l D ca H.size h0 a2 0 h0_thrown h0_tape h0_taped h0_size h0_limit u_117 u_118 u_119 u_120 u_121 u_122 u_123 u_124 u_125 h0_now h0_read h0_kept h0_snaps h0_aside h0_name h0_readName h0_keptName h0_isKept h0_onces h0_snapMany h0_lowest h0_highest h0_agreed h0_jurors h0_panelled h0_inSets h0_surely h0_asked h0_frees h0_struck h0_beating h0_text h0_texts h0_seed h0_line h0_written h0_lineMany h0_hasWritten h0_node h0_nodes h0_onesMany h0_within h0_top F_h0_read i_a2 (⟨by decide, by decide⟩ : rg 0 1 (0 : Int32)) i_h0_taped i_h0_size h_127 i_h0_snapMany i_h0_texts i_h0_lineMany i_h0_hasWritten s_h0_read_0 s_h0_read_1 s_h0_read_2 s_h0_read_3 s_h0_read_4) (cwV 2 hts gX12_readOnce_X12_put rfl rfl rfl (by decide +kernel) ⟨Nat.le_of_ble_eq_true rfl, Nat.le_of_ble_eq_true rfl⟩) (oPV (C := RX12) hK hP hD [2, 1] rfl (by decide) 0 rfl (ci := 11) rfl rfl) rfl rfl hl.1 rfl (lv_room (Nat.le_of_ble_eq_true rfl)) dX12_readOnce_34 ⟨Nat.le_of_ble_eq_true rfl, Nat.le_of_ble_eq_true rfl⟩) hP hD hS hA [2, 1] [0, 3] rfl rfl (by decide) (by decide) (fun r_155 u H locs w_156 hP hD hS => ?_)
      obtain ⟨u_157, rfl⟩ : ∃ z, z = u := ⟨_, rfl⟩
      have hP : va_P D vwCl [(aZ ca h0_onces 2 g_102), (aI ca h0_tape 940 F_h0_tape), (h0, .inr (11, [.int h0_thrown, .ref h0_tape, .int h0_taped, .int h0_size, .int h0_limit, .int u_117, .int u_118, .int u_119, .int u_120, .int u_121, .int u_122, .int u_123, .long u_124, .int u_125, .ref h0_now, .ref h0_read, .ref h0_kept, .ref h0_snaps, .ref h0_aside, .ref h0_name, .ref h0_readName, .ref h0_keptName, .ref h0_isKept, .ref h0_onces, .int h0_snapMany, .int h0_lowest, .int h0_highest, .int h0_agreed, .int h0_jurors, .int h0_panelled, .ref h0_inSets, .int h0_surely, .int h0_asked, .ref h0_frees, .int h0_struck, .int h0_beating, .ref h0_text, .int h0_texts, .int h0_seed, .ref h0_line, .ref h0_written, .int h0_lineMany, .int h0_hasWritten, .ref h0_node, .int h0_nodes, .int h0_onesMany, .int h0_within, .int h0_top])), (aI ca h0_read 89 u_157)] H := hP
      have hD : va_D A [(aZ ca h0_onces 2 g_102), (aI ca h0_tape 940 F_h0_tape), (h0, .inr (11, [.int h0_thrown, .ref h0_tape, .int h0_taped, .int h0_size, .int h0_limit, .int u_117, .int u_118, .int u_119, .int u_120, .int u_121, .int u_122, .int u_123, .long u_124, .int u_125, .ref h0_now, .ref h0_read, .ref h0_kept, .ref h0_snaps, .ref h0_aside, .ref h0_name, .ref h0_readName, .ref h0_keptName, .ref h0_isKept, .ref h0_onces, .int h0_snapMany, .int h0_lowest, .int h0_highest, .int h0_agreed, .int h0_jurors, .int h0_panelled, .ref h0_inSets, .int h0_surely, .int h0_asked, .ref h0_frees, .int h0_struck, .int h0_beating, .ref h0_text, .int h0_texts, .int h0_seed, .ref h0_line, .ref h0_written, .int h0_lineMany, .int h0_hasWritten, .ref h0_node, .int h0_nodes, .int h0_onesMany, .int h0_within, .int h0_top])), (aI ca h0_read 89 u_157)] := hD
      try dsimp only at w_156
      obtain ⟨h_158, h_159, h_160, h_161, h_162, h_163, h_164, h_165, h_166⟩ := w_156
      subst h_158
      have s_167 : sg 35 36 0 1023 u_157 := sg_eqs s_h0_read_3 h_164 (by decide) (by decide)
      have s_168 : sg 44 49 0 3 u_157 := sg_eqs s_h0_read_4 h_164 (by decide) (by decide)
      have q_169 : eqs 5 89 u_157 F_h0_read := eqs_tr h_164 (eqs_rf (a := 0) (b := 89) F_h0_read) (by decide) (by decide) (by decide) (by decide)
      exact oE_i hx hb hr (by decide) hlocks hP hD hS (u_117, u_118, u_119, u_120, u_121, u_122, u_123, u_124, u_125, g_102, u_157) [2, 0, 1, 3] rfl (by decide) (Or.inl ⟨rfl, h_127, h_159, h_160, h_161, h_162, h_163, q_169, (show rl 0 h0_told u_125 from rlm (by have q0 := rle h_138; have q1 := rle h_139; omega)), (show rl 0 u_125 h0_told from rlm (by have q0 := rle h_139; have q1 := rle h_138; omega))⟩) (Nat.le_of_ble_eq_true rfl) (Nat.le_of_ble_eq_true rfl) dX12_readOnce_37
    · skip
      subst h_140
      have h_170 : rg 0 2147483647 u_108 := rl_y h_150 (⟨by decide, by decide⟩ : rg 0 0 (0 : Int32)) (rga u_108) (by decide) (by decide)
      have h_171 : rg 0 2147483647 a3 := rl_y h_151 h_170 (rga a3) (by decide) (by decide)
      refine oC_i (Wc := [(h0, .inr (11, [.int h0_thrown, .ref h0_tape, .int h0_taped, .int h0_size, .int h0_limit, .int u_117, .int u_118, .int u_119, .int u_120, .int u_121, .int u_122, .int u_123, .long u_124, .int u_125, .ref h0_now, .ref h0_read, .ref h0_kept, .ref h0_snaps, .ref h0_aside, .ref h0_name, .ref h0_readName, .ref h0_keptName, .ref h0_isKept, .ref h0_onces, .int h0_snapMany, .int h0_lowest, .int h0_highest, .int h0_agreed, .int h0_jurors, .int h0_panelled, .ref h0_inSets, .int h0_surely, .int h0_asked, .ref h0_frees, .int h0_struck, .int h0_beating, .ref h0_text, .int h0_texts, .int h0_seed, .ref h0_line, .ref h0_written, .int h0_lineMany, .int h0_hasWritten, .ref h0_node, .int h0_nodes, .int h0_onesMany, .int h0_within, .int h0_top])), (aI ca h0_read 89 F_h0_read)]) (Wr := [(aZ ca h0_onces 2 g_102), (aI ca h0_tape 940 F_h0_tape)]) (va_runV (As := [.int a2, .int 1]) (rest := []) ⟨hx, hb, hml, hown, hts⟩ (s_X12_put_4 l D ca H.size h0 a2 1 h0_thrown h0_tape h0_taped h0_size h0_limit u_117 u_118 u_119 u_120 u_121 u_122 u_123 u_124 u_125 h0_now h0_read h0_kept h0_snaps h0_aside h0_name h0_readName h0_keptName h0_isKept h0_onces h0_snapMany h0_lowest h0_highest h0_agreed h0_jurors h0_panelled h0_inSets h0_surely h0_asked h0_frees h0_struck h0_beating h0_text h0_texts h0_seed h0_line h0_written h0_lineMany h0_hasWritten h0_node h0_nodes h0_onesMany h0_within h0_top F_h0_read i_a2 (⟨by decide, by decide⟩ : rg 0 1 (1 : Int32)) i_h0_taped i_h0_size h_141 i_h0_snapMany i_h0_texts i_h0_lineMany i_h0_hasWritten s_h0_read_0 s_h0_read_1 s_h0_read_2 s_h0_read_3 s_h0_read_4) (cwV 2 hts gX12_readOnce_X12_put rfl rfl rfl (by decide +kernel) ⟨Nat.le_of_ble_eq_true rfl, Nat.le_of_ble_eq_true rfl⟩) (oPV (C := RX12) hK hP hD [2, 1] rfl (by decide) 0 rfl (ci := 11) rfl rfl) rfl rfl hl.1 rfl (lv_room (Nat.le_of_ble_eq_true rfl)) dX12_readOnce_34 ⟨Nat.le_of_ble_eq_true rfl, Nat.le_of_ble_eq_true rfl⟩) hP hD hS hA [2, 1] [0, 3] rfl rfl (by decide) (by decide) (fun r_172 u H locs w_173 hP hD hS => ?_)
      obtain ⟨u_174, rfl⟩ : ∃ z, z = u := ⟨_, rfl⟩
      have hP : va_P D vwCl [(aZ ca h0_onces 2 g_102), (aI ca h0_tape 940 F_h0_tape), (h0, .inr (11, [.int h0_thrown, .ref h0_tape, .int h0_taped, .int h0_size, .int h0_limit, .int u_117, .int u_118, .int u_119, .int u_120, .int u_121, .int u_122, .int u_123, .long u_124, .int u_125, .ref h0_now, .ref h0_read, .ref h0_kept, .ref h0_snaps, .ref h0_aside, .ref h0_name, .ref h0_readName, .ref h0_keptName, .ref h0_isKept, .ref h0_onces, .int h0_snapMany, .int h0_lowest, .int h0_highest, .int h0_agreed, .int h0_jurors, .int h0_panelled, .ref h0_inSets, .int h0_surely, .int h0_asked, .ref h0_frees, .int h0_struck, .int h0_beating, .ref h0_text, .int h0_texts, .int h0_seed, .ref h0_line, .ref h0_written, .int h0_lineMany, .int h0_hasWritten, .ref h0_node, .int h0_nodes, .int h0_onesMany, .int h0_within, .int h0_top])), (aI ca h0_read 89 u_174)] H := hP
      have hD : va_D A [(aZ ca h0_onces 2 g_102), (aI ca h0_tape 940 F_h0_tape), (h0, .inr (11, [.int h0_thrown, .ref h0_tape, .int h0_taped, .int h0_size, .int h0_limit, .int u_117, .int u_118, .int u_119, .int u_120, .int u_121, .int u_122, .int u_123, .long u_124, .int u_125, .ref h0_now, .ref h0_read, .ref h0_kept, .ref h0_snaps, .ref h0_aside, .ref h0_name, .ref h0_readName, .ref h0_keptName, .ref h0_isKept, .ref h0_onces, .int h0_snapMany, .int h0_lowest, .int h0_highest, .int h0_agreed, .int h0_jurors, .int h0_panelled, .ref h0_inSets, .int h0_surely, .int h0_asked, .ref h0_frees, .int h0_struck, .int h0_beating, .ref h0_text, .int h0_texts, .int h0_seed, .ref h0_line, .ref h0_written, .int h0_lineMany, .int h0_hasWritten, .ref h0_node, .int h0_nodes, .int h0_onesMany, .int h0_within, .int h0_top])), (aI ca h0_read 89 u_174)] := hD
      try dsimp only at w_173
      obtain ⟨h_175, h_176, h_177, h_178, h_179, h_180, h_181, h_182, h_183⟩ := w_173
      subst h_175
      have s_184 : sg 35 36 0 1023 u_174 := sg_eqs s_h0_read_3 h_181 (by decide) (by decide)
      have s_185 : sg 44 49 0 3 u_174 := sg_eqs s_h0_read_4 h_181 (by decide) (by decide)
      have q_186 : eqs 5 89 u_174 F_h0_read := eqs_tr h_181 (eqs_rf (a := 0) (b := 89) F_h0_read) (by decide) (by decide) (by decide) (by decide)
      exact oE_i hx hb hr (by decide) hlocks hP hD hS (u_117, u_118, u_119, u_120, u_121, u_122, u_123, u_124, u_125, g_102, u_174) [2, 0, 1, 3] rfl (by decide) (Or.inr (⟨rfl, h_141, h_142, h_143, h_171, h_176, h_177, h_178, h_179, h_180, q_186, (show rl 0 h0_fault u_122 from rlm (by have q0 := rle h_146; have q1 := rle h_147; omega)), (show rl 0 u_122 h0_fault from rlm (by have q0 := rle h_147; have q1 := rle h_146; omega)), (show rl 0 h0_place u_123 from rlm (by have q0 := rle h_148; have q1 := rle h_149; omega)), (show rl 0 u_123 h0_place from rlm (by have q0 := rle h_149; have q1 := rle h_148; omega))⟩)) (Nat.le_of_ble_eq_true rfl) (Nat.le_of_ble_eq_true rfl) dX12_readOnce_37
  · skip
    refine lv_aload_n hx hb dX12_readOnce_9 rfl (lv_at hl 0 rfl) ?_
    refine lv_iconst (v := 3) hx hb dX12_readOnce_10 (by decide) ?_
    refine oC_i (Wc := [(h0, .inr (11, [.int h0_thrown, .ref h0_tape, .int h0_taped, .int h0_size, .int h0_limit, .int h0_to, .int h0_from, .int h0_kind, .int h0_number, .int h0_sign, .int h0_fault, .int h0_place, .long h0_word, .int h0_told, .ref h0_now, .ref h0_read, .ref h0_kept, .ref h0_snaps, .ref h0_aside, .ref h0_name, .ref h0_readName, .ref h0_keptName, .ref h0_isKept, .ref h0_onces, .int h0_snapMany, .int h0_lowest, .int h0_highest, .int h0_agreed, .int h0_jurors, .int h0_panelled, .ref h0_inSets, .int h0_surely, .int h0_asked, .ref h0_frees, .int h0_struck, .int h0_beating, .ref h0_text, .int h0_texts, .int h0_seed, .ref h0_line, .ref h0_written, .int h0_lineMany, .int h0_hasWritten, .ref h0_node, .int h0_nodes, .int h0_onesMany, .int h0_within, .int h0_top]))]) (Wr := [(aZ ca h0_onces 2 F_h0_onces), (aI ca h0_tape 940 F_h0_tape), (aI ca h0_read 89 F_h0_read)]) (va_runV (As := [.int 3]) (rest := []) ⟨hx, hb, hml, hown, hts⟩ (s_X12_bad l D ca H.size h0 3 h0_thrown h0_tape h0_taped h0_size h0_limit h0_to h0_from h0_kind h0_number h0_sign h0_fault h0_place h0_word h0_told h0_now h0_read h0_kept h0_snaps h0_aside h0_name h0_readName h0_keptName h0_isKept h0_onces h0_snapMany h0_lowest h0_highest h0_agreed h0_jurors h0_panelled h0_inSets h0_surely h0_asked h0_frees h0_struck h0_beating h0_text h0_texts h0_seed h0_line h0_written h0_lineMany h0_hasWritten h0_node h0_nodes h0_onesMany h0_within h0_top i_h0_taped i_h0_size i_h0_to i_h0_snapMany i_h0_texts i_h0_lineMany i_h0_hasWritten) (cwV 1 hts gX12_readOnce_X12_bad rfl rfl rfl (by decide +kernel) ⟨Nat.le_of_ble_eq_true rfl, Nat.le_of_ble_eq_true rfl⟩) (oPV (C := RX12) hK hP hD [0] rfl (by decide) 0 rfl (ci := 11) rfl rfl) rfl rfl hl.1 rfl (lv_room (Nat.le_of_ble_eq_true rfl)) dX12_readOnce_11 ⟨Nat.le_of_ble_eq_true rfl, Nat.le_of_ble_eq_true rfl⟩) hP hD hS hA [0] [1, 2, 3] rfl rfl (by decide) (by decide) (fun r_187 u H locs w_188 hP hD hS => ?_)
    obtain ⟨u_189, rfl⟩ : ∃ z, z = u := ⟨_, rfl⟩
    have hP : va_P D vwCl [(aZ ca h0_onces 2 F_h0_onces), (aI ca h0_tape 940 F_h0_tape), (aI ca h0_read 89 F_h0_read), (h0, .inr (11, [.int h0_thrown, .ref h0_tape, .int h0_taped, .int h0_size, .int h0_limit, .int h0_to, .int h0_from, .int h0_kind, .int h0_number, .int h0_sign, .int u_189, .int h0_from, .long h0_word, .int h0_told, .ref h0_now, .ref h0_read, .ref h0_kept, .ref h0_snaps, .ref h0_aside, .ref h0_name, .ref h0_readName, .ref h0_keptName, .ref h0_isKept, .ref h0_onces, .int h0_snapMany, .int h0_lowest, .int h0_highest, .int h0_agreed, .int h0_jurors, .int h0_panelled, .ref h0_inSets, .int h0_surely, .int h0_asked, .ref h0_frees, .int h0_struck, .int h0_beating, .ref h0_text, .int h0_texts, .int h0_seed, .ref h0_line, .ref h0_written, .int h0_lineMany, .int h0_hasWritten, .ref h0_node, .int h0_nodes, .int h0_onesMany, .int h0_within, .int h0_top]))] H := hP
    have hD : va_D A [(aZ ca h0_onces 2 F_h0_onces), (aI ca h0_tape 940 F_h0_tape), (aI ca h0_read 89 F_h0_read), (h0, .inr (11, [.int h0_thrown, .ref h0_tape, .int h0_taped, .int h0_size, .int h0_limit, .int h0_to, .int h0_from, .int h0_kind, .int h0_number, .int h0_sign, .int u_189, .int h0_from, .long h0_word, .int h0_told, .ref h0_now, .ref h0_read, .ref h0_kept, .ref h0_snaps, .ref h0_aside, .ref h0_name, .ref h0_readName, .ref h0_keptName, .ref h0_isKept, .ref h0_onces, .int h0_snapMany, .int h0_lowest, .int h0_highest, .int h0_agreed, .int h0_jurors, .int h0_panelled, .ref h0_inSets, .int h0_surely, .int h0_asked, .ref h0_frees, .int h0_struck, .int h0_beating, .ref h0_text, .int h0_texts, .int h0_seed, .ref h0_line, .ref h0_written, .int h0_lineMany, .int h0_hasWritten, .ref h0_node, .int h0_nodes, .int h0_onesMany, .int h0_within, .int h0_top]))] := hD
    try dsimp only at w_188
    have h_190 := w_188
    subst h_190
    exact oE_i hx hb hr (by decide) hlocks hP hD hS (h0_to, h0_from, h0_kind, h0_number, h0_sign, u_189, h0_from, h0_word, h0_told, F_h0_onces, F_h0_read) [3, 0, 1, 2] rfl (by decide) (Or.inl ⟨rfl, i_h0_to, s_h0_read_0, s_h0_read_1, s_h0_read_2, s_h0_read_3, s_h0_read_4, (eqs_w (eqs_rf (a := 0) (b := 89) F_h0_read) (by decide) (by decide)), (show rl 0 h0_told h0_told from rlm (by omega)), (show rl 0 h0_told h0_told from rlm (by omega))⟩) (Nat.le_of_ble_eq_true rfl) (Nat.le_of_ble_eq_true rfl) dX12_readOnce_14
theorem dX12_isSign_0 : decode cX12_isSign 0 = .ok (.aload_n 0, 1) := by decide +kernel
theorem dX12_isSign_1 : decode cX12_isSign 1 = .ok (.getfield 30, 3) := by decide +kernel
theorem dX12_isSign_4 : decode cX12_isSign 4 = .ok (.iconst 4, 1) := by decide +kernel
theorem dX12_isSign_5 : decode cX12_isSign 5 = .ok (.if_icmp .ne 15, 3) := by decide +kernel
theorem dX12_isSign_8 : decode cX12_isSign 8 = .ok (.aload_n 0, 1) := by decide +kernel
theorem dX12_isSign_9 : decode cX12_isSign 9 = .ok (.getfield 40, 3) := by decide +kernel
theorem dX12_isSign_12 : decode cX12_isSign 12 = .ok (.iload_n 1, 1) := by decide +kernel
theorem dX12_isSign_13 : decode cX12_isSign 13 = .ok (.if_icmp .ne 7, 3) := by decide +kernel
theorem dX12_isSign_16 : decode cX12_isSign 16 = .ok (.iconst 1, 1) := by decide +kernel
theorem dX12_isSign_17 : decode cX12_isSign 17 = .ok (.goto 4, 3) := by decide +kernel
theorem dX12_isSign_20 : decode cX12_isSign 20 = .ok (.iconst 0, 1) := by decide +kernel
theorem dX12_isSign_21 : decode cX12_isSign 21 = .ok (.ireturn, 1) := by decide +kernel
theorem dX12_readLine_0 : decode cX12_readLine 0 = .ok (.aload_n 0, 1) := by decide +kernel
theorem dX12_readLine_1 : decode cX12_readLine 1 = .ok (.iconst 0, 1) := by decide +kernel
theorem dX12_readLine_2 : decode cX12_readLine 2 = .ok (.invokevirtual 197, 3) := by decide +kernel
theorem dX12_readLine_5 : decode cX12_readLine 5 = .ok (.ifCond .eq 8, 3) := by decide +kernel
theorem dX12_readLine_13 : decode cX12_readLine 13 = .ok (.aload_n 0, 1) := by decide +kernel
theorem dX12_readLine_14 : decode cX12_readLine 14 = .ok (.iconst 2, 1) := by decide +kernel
theorem dX12_readLine_15 : decode cX12_readLine 15 = .ok (.invokevirtual 197, 3) := by decide +kernel
theorem dX12_readLine_18 : decode cX12_readLine 18 = .ok (.ifCond .eq 8, 3) := by decide +kernel
theorem dX12_readLine_26 : decode cX12_readLine 26 = .ok (.aload_n 0, 1) := by decide +kernel
theorem dX12_readLine_27 : decode cX12_readLine 27 = .ok (.iconst 3, 1) := by decide +kernel
theorem dX12_readLine_28 : decode cX12_readLine 28 = .ok (.invokevirtual 197, 3) := by decide +kernel
theorem dX12_readLine_31 : decode cX12_readLine 31 = .ok (.ifCond .eq 8, 3) := by decide +kernel
theorem dX12_readLine_34 : decode cX12_readLine 34 = .ok (.aload_n 0, 1) := by decide +kernel
theorem dX12_readLine_35 : decode cX12_readLine 35 = .ok (.invokevirtual 209, 3) := by decide +kernel
theorem dX12_readLine_39 : decode cX12_readLine 39 = .ok (.aload_n 0, 1) := by decide +kernel
theorem dX12_readLine_40 : decode cX12_readLine 40 = .ok (.iconst 4, 1) := by decide +kernel
theorem dX12_readLine_41 : decode cX12_readLine 41 = .ok (.invokevirtual 197, 3) := by decide +kernel
theorem dX12_readLine_44 : decode cX12_readLine 44 = .ok (.ifCond .eq 8, 3) := by decide +kernel
theorem dX12_readLine_47 : decode cX12_readLine 47 = .ok (.aload_n 0, 1) := by decide +kernel
theorem dX12_readLine_48 : decode cX12_readLine 48 = .ok (.invokevirtual 212, 3) := by decide +kernel
theorem dX12_readLine_51 : decode cX12_readLine 51 = .ok (.ireturn, 1) := by decide +kernel
theorem dX12_readLine_52 : decode cX12_readLine 52 = .ok (.aload_n 0, 1) := by decide +kernel
theorem dX12_readLine_53 : decode cX12_readLine 53 = .ok (.iconst 5, 1) := by decide +kernel
theorem dX12_readLine_54 : decode cX12_readLine 54 = .ok (.invokevirtual 197, 3) := by decide +kernel
theorem dX12_readLine_57 : decode cX12_readLine 57 = .ok (.ifCond .eq 12, 3) := by decide +kernel
theorem dX12_readLine_60 : decode cX12_readLine 60 = .ok (.aload_n 0, 1) := by decide +kernel
theorem dX12_readLine_61 : decode cX12_readLine 61 = .ok (.iconst 0, 1) := by decide +kernel
theorem dX12_readLine_62 : decode cX12_readLine 62 = .ok (.iconst 3, 1) := by decide +kernel
theorem dX12_readLine_63 : decode cX12_readLine 63 = .ok (.bipush 20, 2) := by decide +kernel
theorem dX12_readLine_65 : decode cX12_readLine 65 = .ok (.invokevirtual 215, 3) := by decide +kernel
theorem dX12_readLine_68 : decode cX12_readLine 68 = .ok (.ireturn, 1) := by decide +kernel
theorem dX12_readLine_69 : decode cX12_readLine 69 = .ok (.aload_n 0, 1) := by decide +kernel
theorem dX12_readLine_70 : decode cX12_readLine 70 = .ok (.bipush 6, 2) := by decide +kernel
theorem dX12_readLine_72 : decode cX12_readLine 72 = .ok (.invokevirtual 197, 3) := by decide +kernel
theorem dX12_readLine_75 : decode cX12_readLine 75 = .ok (.ifCond .eq 14, 3) := by decide +kernel
theorem dX12_readLine_78 : decode cX12_readLine 78 = .ok (.aload_n 0, 1) := by decide +kernel
theorem dX12_readLine_79 : decode cX12_readLine 79 = .ok (.iconst 1, 1) := by decide +kernel
theorem dX12_readLine_80 : decode cX12_readLine 80 = .ok (.iconst 4, 1) := by decide +kernel
theorem dX12_readLine_81 : decode cX12_readLine 81 = .ok (.bipush 9, 2) := by decide +kernel
theorem dX12_readLine_83 : decode cX12_readLine 83 = .ok (.invokevirtual 215, 3) := by decide +kernel
theorem dX12_readLine_86 : decode cX12_readLine 86 = .ok (.goto 8, 3) := by decide +kernel
theorem dX12_readLine_89 : decode cX12_readLine 89 = .ok (.aload_n 0, 1) := by decide +kernel
theorem dX12_readLine_90 : decode cX12_readLine 90 = .ok (.iconst 1, 1) := by decide +kernel
theorem dX12_readLine_91 : decode cX12_readLine 91 = .ok (.invokevirtual 72, 3) := by decide +kernel
theorem dX12_readLine_94 : decode cX12_readLine 94 = .ok (.ireturn, 1) := by decide +kernel
set_option maxRecDepth 20000 in
theorem ggX12_readLine_X12_isWord : GoodIn wsX12_readLine wsX12_isWord := goodIn_r _ [5, 6, 7, 8, 9, 4, 10, 11, 12, 13, 14, 15, 97, 98, 99, 100, 101, 102, 103, 104, 105, 106, 107, 108, 109, 110, 111, 112, 113, 114, 115, 116, 117, 118, 119, 120, 121, 122, 123, 124, 125, 126, 127, 128, 129, 130, 131, 132, 133, 134, 135, 136, 137, 138, 139, 140, 141, 142, 143, 144] rfl (by decide +kernel)
set_option maxRecDepth 20000 in
theorem gX12_readLine_X12_isWord : GoodIn wsX12_readLine (wsV RX12 197 RX12 yX12_isWord wsX12_isWord) := goodIn_app (goodIn_of _ (by decide +kernel)) ggX12_readLine_X12_isWord
set_option maxRecDepth 20000 in
theorem ggX12_readLine_X12_bad : GoodIn wsX12_readLine wsX12_bad := goodIn_r _ [28, 6, 29, 30, 31, 97, 98, 99, 100, 101, 102, 103, 104, 105, 106, 107, 108, 109, 110, 111, 112, 113, 114, 115, 116, 117, 118, 119, 120, 121, 122, 123, 124, 125, 126, 127, 128, 129, 130, 131, 132, 133, 134, 135, 136, 137, 138, 139, 140, 141, 142, 143, 144] rfl (by decide +kernel)
set_option maxRecDepth 20000 in
theorem gX12_readLine_X12_bad : GoodIn wsX12_readLine (wsV RX12 72 RX12 yX12_bad wsX12_bad) := goodIn_app (goodIn_of _ (by decide +kernel)) ggX12_readLine_X12_bad
set_option maxRecDepth 20000 in
theorem ggX12_readLine_X12_readOnce : GoodIn wsX12_readLine wsX12_readOnce := goodIn_r _ [95, 96, 25, 26, 27, 4, 28, 6, 29, 30, 31, 32, 33, 34, 35, 36, 37, 38, 39, 40, 7, 41, 14, 15, 42, 43, 44, 45, 46, 47, 48, 49, 50, 51, 64, 65, 66, 67, 68, 69, 70, 71, 72, 73, 74, 75, 20, 97, 98, 99, 100, 101, 102, 103, 104, 105, 106, 107, 108, 109, 110, 111, 112, 113, 114, 115, 116, 117, 118, 119, 120, 121, 122, 123, 124, 125, 126, 127, 128, 129, 130, 131, 132, 133, 134, 135, 136, 137, 138, 139, 140, 141, 142, 143, 144] rfl (by decide +kernel)
set_option maxRecDepth 20000 in
theorem gX12_readLine_X12_readOnce : GoodIn wsX12_readLine (wsV RX12 215 RX12 yX12_readOnce wsX12_readOnce) := goodIn_app (goodIn_of _ (by decide +kernel)) ggX12_readLine_X12_readOnce
set_option maxRecDepth 20000 in
theorem ggX12_readLine_X12_readTuned : GoodIn wsX12_readLine wsX12_readTuned := goodIn_r _ [91, 20, 68, 32, 33, 34, 4, 35, 36, 37, 38, 30, 39, 6, 40, 7, 41, 14, 15, 42, 43, 44, 45, 46, 47, 48, 49, 50, 51, 84, 85, 86, 87, 56, 57, 58, 59, 60, 8, 9, 10, 11, 12, 13, 25, 26, 27, 28, 29, 31, 61, 62, 63, 64, 65, 66, 67, 69, 70, 71, 72, 73, 74, 75, 97, 98, 99, 100, 101, 102, 103, 104, 105, 106, 107, 108, 109, 110, 111, 112, 113, 114, 115, 116, 117, 118, 119, 120, 121, 122, 123, 124, 125, 126, 127, 128, 129, 130, 131, 132, 133, 134, 135, 136, 137, 138, 139, 140, 141, 142, 143, 144] rfl (by decide +kernel)
set_option maxRecDepth 20000 in
theorem gX12_readLine_X12_readTuned : GoodIn wsX12_readLine (wsV RX12 212 RX12 yX12_readTuned wsX12_readTuned) := goodIn_app (goodIn_of _ (by decide +kernel)) ggX12_readLine_X12_readTuned
set_option maxHeartbeats 4000000 in
set_option maxRecDepth 100000 in
theorem s_X12_isSign (l : Launch) (D : va_G) (ca : Nat → ClassId) (sz : Nat) (h0 : Nat) (a1 : Int32) (h0_thrown : Int32) (h0_tape : Nat) (h0_taped : Int32) (h0_size : Int32) (h0_limit : Int32) (h0_to : Int32) (h0_from : Int32) (h0_kind : Int32) (h0_number : Int32) (h0_sign : Int32) (h0_fault : Int32) (h0_place : Int32) (h0_word : Int64) (h0_told : Int32) (h0_now : Nat) (h0_read : Nat) (h0_kept : Nat) (h0_snaps : Nat) (h0_aside : Nat) (h0_name : Nat) (h0_readName : Nat) (h0_keptName : Nat) (h0_isKept : Nat) (h0_onces : Nat) (h0_snapMany : Int32) (h0_lowest : Int32) (h0_highest : Int32) (h0_agreed : Int32) (h0_jurors : Int32) (h0_panelled : Int32) (h0_inSets : Nat) (h0_surely : Int32) (h0_asked : Int32) (h0_frees : Nat) (h0_struck : Int32) (h0_beating : Int32) (h0_text : Nat) (h0_texts : Int32) (h0_seed : Int32) (h0_line : Nat) (h0_written : Nat) (h0_lineMany : Int32) (h0_hasWritten : Int32) (h0_node : Nat) (h0_nodes : Int32) (h0_onesMany : Int32) (h0_within : Int32) (h0_top : Int32) (i_h0_taped : rg 0 940 h0_taped) (i_h0_size : rg 0 940 h0_size) (i_h0_to : rg 0 940 h0_to) (i_h0_snapMany : rg 0 8 h0_snapMany) (i_h0_texts : rg 0 64 h0_texts) (i_h0_lineMany : rg 0 40 h0_lineMany) (i_h0_hasWritten : rg 0 1 h0_hasWritten) : oMet l yX12_isSign wsX12_isSign ({ frames := 0, cells := 0, slots := 0, locals := 0 } : Room) [.ref h0, .int a1] D ca sz [(h0, .inr (11, [.int h0_thrown, .ref h0_tape, .int h0_taped, .int h0_size, .int h0_limit, .int h0_to, .int h0_from, .int h0_kind, .int h0_number, .int h0_sign, .int h0_fault, .int h0_place, .long h0_word, .int h0_told, .ref h0_now, .ref h0_read, .ref h0_kept, .ref h0_snaps, .ref h0_aside, .ref h0_name, .ref h0_readName, .ref h0_keptName, .ref h0_isKept, .ref h0_onces, .int h0_snapMany, .int h0_lowest, .int h0_highest, .int h0_agreed, .int h0_jurors, .int h0_panelled, .ref h0_inSets, .int h0_surely, .int h0_asked, .ref h0_frees, .int h0_struck, .int h0_beating, .ref h0_text, .int h0_texts, .int h0_seed, .ref h0_line, .ref h0_written, .int h0_lineMany, .int h0_hasWritten, .ref h0_node, .int h0_nodes, .int h0_onesMany, .int h0_within, .int h0_top]))] (oQi D (fun (r : Int32) (u : Unit) => ((r = 0)) ∨ ((r = 1) ∧ (rg 4 4 h0_kind) ∧ (rl 0 a1 h0_sign) ∧ (rl 0 h0_sign a1))) (fun (u : Unit) => [(h0, .inr (11, [.int h0_thrown, .ref h0_tape, .int h0_taped, .int h0_size, .int h0_limit, .int h0_to, .int h0_from, .int h0_kind, .int h0_number, .int h0_sign, .int h0_fault, .int h0_place, .long h0_word, .int h0_told, .ref h0_now, .ref h0_read, .ref h0_kept, .ref h0_snaps, .ref h0_aside, .ref h0_name, .ref h0_readName, .ref h0_keptName, .ref h0_isKept, .ref h0_onces, .int h0_snapMany, .int h0_lowest, .int h0_highest, .int h0_agreed, .int h0_jurors, .int h0_panelled, .ref h0_inSets, .int h0_surely, .int h0_asked, .ref h0_frees, .int h0_struck, .int h0_beating, .ref h0_text, .int h0_texts, .int h0_seed, .ref h0_line, .ref h0_written, .int h0_lineMany, .int h0_hasWritten, .ref h0_node, .int h0_nodes, .int h0_onesMany, .int h0_within, .int h0_top]))])) 0 0 := by
  refine oM (cc := cX12_isSign) (maxL := 2) (ret := (some .boolean)) (by decide) rfl (Nat.le_of_ble_eq_true rfl) [(0, .ref h0), (1, .int a1)] rfl ?_
  intro p e s m below meth c A H locs ls hx hb hr hml hts hown hlocks hin hK hP hD hA hS hl
  have hown : s.vm.findClass RX12 = some m.cls := hown
  have k1 := hts (.fieldLink RX12 30 "LidCourtModel" "kind" "I") (by decide +kernel)
  have k2 : ∀ w ∈ wsX120, w ∈ wsX12_isSign := fun _ h => List.mem_cons_of_mem _ (List.mem_append_right _ h)
  have k3 := hts (.fieldLink RX12 40 "LidCourtModel" "sign" "I") (by decide +kernel)
  refine lv_aload_n hx hb dX12_isSign_0 rfl (lv_at hl 0 rfl) ?_
  refine va_get (D := D) (ci := 11) (v := .int h0_kind) (C := RX12) (T := TX12) (N := 48) hx hb hts k2 hown hK.1 hP 0 rfl rfl 7 (by decide) k1 (fun _ h9 => h9) rfl dX12_isSign_1 ?_
  refine lv_iconst (v := 4) hx hb dX12_isSign_4 (by decide) ?_
  refine lv_icmp_ne (tgt := 20) hx hb dX12_isSign_5 (by decide) (fun c_9 => ?_) (fun c_9 => ?_)
  · skip
    refine lv_iconst (v := 0) hx hb dX12_isSign_20 (by decide) ?_
    exact oE_i hx hb hr (by decide) hlocks hP hD hS () [0] rfl (by decide) (Or.inl rfl) (Nat.le_of_ble_eq_true rfl) (Nat.le_of_ble_eq_true rfl) dX12_isSign_21
  · skip
    have o_10 : rl 0 h0_kind 4 := rl_eq c_9
    have h_11 : rg (-2147483648) 4 h0_kind := rl_x o_10 (rga h0_kind) (⟨by decide, by decide⟩ : rg 4 4 (4 : Int32)) (by decide) (by decide)
    have o_12 : rl 0 4 h0_kind := rl_eq c_9.symm
    have h_13 : rg 4 4 h0_kind := rl_y o_12 (⟨by decide, by decide⟩ : rg 4 4 (4 : Int32)) h_11 (by decide) (by decide)
    refine lv_aload_n hx hb dX12_isSign_8 rfl (lv_at hl 0 rfl) ?_
    refine va_get (D := D) (ci := 11) (v := .int h0_sign) (C := RX12) (T := TX12) (N := 48) hx hb hts k2 hown hK.1 hP 0 rfl rfl 9 (by decide) k3 (fun _ h9 => h9) rfl dX12_isSign_9 ?_
    refine lv_iload_n hx hb dX12_isSign_12 rfl (lv_at hl 1 rfl) ?_
    refine lv_icmp_ne (tgt := 20) hx hb dX12_isSign_13 (by decide) (fun c_14 => ?_) (fun c_14 => ?_)
    · skip
      refine lv_iconst (v := 0) hx hb dX12_isSign_20 (by decide) ?_
      exact oE_i hx hb hr (by decide) hlocks hP hD hS () [0] rfl (by decide) (Or.inl rfl) (Nat.le_of_ble_eq_true rfl) (Nat.le_of_ble_eq_true rfl) dX12_isSign_21
    · skip
      have o_15 : rl 0 h0_sign a1 := rl_eq c_14
      have o_16 : rl 0 a1 h0_sign := rl_eq c_14.symm
      refine lv_iconst (v := 1) hx hb dX12_isSign_16 (by decide) ?_
      refine lv_goto (tgt := 21) hx hb dX12_isSign_17 (by decide) ?_
      exact oE_i hx hb hr (by decide) hlocks hP hD hS () [0] rfl (by decide) (Or.inr (⟨rfl, h_13, (show rl 0 a1 h0_sign from rlm (by have q0 := rle o_16; have q1 := rle o_15; omega)), (show rl 0 h0_sign a1 from rlm (by have q0 := rle o_15; have q1 := rle o_16; omega))⟩)) (Nat.le_of_ble_eq_true rfl) (Nat.le_of_ble_eq_true rfl) dX12_isSign_21
theorem dX12_readEnd_0 : decode cX12_readEnd 0 = .ok (.aload_n 0, 1) := by decide +kernel
theorem dX12_readEnd_1 : decode cX12_readEnd 1 = .ok (.bipush 59, 2) := by decide +kernel
theorem dX12_readEnd_3 : decode cX12_readEnd 3 = .ok (.invokevirtual 86, 3) := by decide +kernel
theorem dX12_readEnd_6 : decode cX12_readEnd 6 = .ok (.ifCond .ne 9, 3) := by decide +kernel
theorem dX12_readEnd_9 : decode cX12_readEnd 9 = .ok (.aload_n 0, 1) := by decide +kernel
theorem dX12_readEnd_10 : decode cX12_readEnd 10 = .ok (.iconst 1, 1) := by decide +kernel
theorem dX12_readEnd_11 : decode cX12_readEnd 11 = .ok (.invokevirtual 72, 3) := by decide +kernel
theorem dX12_readEnd_14 : decode cX12_readEnd 14 = .ok (.ireturn, 1) := by decide +kernel
theorem dX12_readEnd_15 : decode cX12_readEnd 15 = .ok (.aload_n 0, 1) := by decide +kernel
theorem dX12_readEnd_16 : decode cX12_readEnd 16 = .ok (.invokevirtual 82, 3) := by decide +kernel
theorem dX12_readEnd_19 : decode cX12_readEnd 19 = .ok (.iconst 1, 1) := by decide +kernel
theorem dX12_readEnd_20 : decode cX12_readEnd 20 = .ok (.ireturn, 1) := by decide +kernel
set_option maxRecDepth 20000 in
theorem ggX12_readEnd_X12_isSign : GoodIn wsX12_readEnd wsX12_isSign := goodIn_r _ [5, 6, 7, 37, 38, 39, 40, 41, 42, 43, 44, 45, 46, 47, 48, 49, 50, 51, 52, 53, 54, 55, 56, 57, 58, 59, 60, 61, 62, 63, 64, 65, 66, 67, 68, 69, 70, 71, 72, 73, 74, 75, 76, 77, 78, 79, 80, 81, 82, 83, 84] rfl (by decide +kernel)
set_option maxRecDepth 20000 in
theorem gX12_readEnd_X12_isSign : GoodIn wsX12_readEnd (wsV RX12 86 RX12 yX12_isSign wsX12_isSign) := goodIn_app (goodIn_of _ (by decide +kernel)) ggX12_readEnd_X12_isSign
set_option maxRecDepth 20000 in
theorem ggX12_readEnd_X12_bad : GoodIn wsX12_readEnd wsX12_bad := goodIn_r _ [11, 6, 12, 13, 14, 37, 38, 39, 40, 41, 42, 43, 44, 45, 46, 47, 48, 49, 50, 51, 52, 53, 54, 55, 56, 57, 58, 59, 60, 61, 62, 63, 64, 65, 66, 67, 68, 69, 70, 71, 72, 73, 74, 75, 76, 77, 78, 79, 80, 81, 82, 83, 84] rfl (by decide +kernel)
set_option maxRecDepth 20000 in
theorem gX12_readEnd_X12_bad : GoodIn wsX12_readEnd (wsV RX12 72 RX12 yX12_bad wsX12_bad) := goodIn_app (goodIn_of _ (by decide +kernel)) ggX12_readEnd_X12_bad
set_option maxRecDepth 20000 in
theorem ggX12_readEnd_X12_go : GoodIn wsX12_readEnd wsX12_go := goodIn_r _ [18, 19, 20, 21, 13, 22, 6, 7, 23, 24, 25, 26, 27, 28, 4, 29, 30, 31, 32, 33, 34, 35, 36, 37, 38, 39, 40, 41, 42, 43, 44, 45, 46, 47, 48, 49, 50, 51, 52, 53, 54, 55, 56, 57, 58, 59, 60, 61, 62, 63, 64, 65, 66, 67, 68, 69, 70, 71, 72, 73, 74, 75, 76, 77, 78, 79, 80, 81, 82, 83, 84] rfl (by decide +kernel)
set_option maxRecDepth 20000 in
theorem gX12_readEnd_X12_go : GoodIn wsX12_readEnd (wsV RX12 82 RX12 yX12_go wsX12_go) := goodIn_app (goodIn_of _ (by decide +kernel)) ggX12_readEnd_X12_go
set_option maxHeartbeats 4000000 in
set_option maxRecDepth 100000 in
theorem s_X12_readEnd (l : Launch) (D : va_G) (ca : Nat → ClassId) (sz : Nat) (h0 : Nat) (h0_thrown : Int32) (h0_tape : Nat) (h0_taped : Int32) (h0_size : Int32) (h0_limit : Int32) (h0_to : Int32) (h0_from : Int32) (h0_kind : Int32) (h0_number : Int32) (h0_sign : Int32) (h0_fault : Int32) (h0_place : Int32) (h0_word : Int64) (h0_told : Int32) (h0_now : Nat) (h0_read : Nat) (h0_kept : Nat) (h0_snaps : Nat) (h0_aside : Nat) (h0_name : Nat) (h0_readName : Nat) (h0_keptName : Nat) (h0_isKept : Nat) (h0_onces : Nat) (h0_snapMany : Int32) (h0_lowest : Int32) (h0_highest : Int32) (h0_agreed : Int32) (h0_jurors : Int32) (h0_panelled : Int32) (h0_inSets : Nat) (h0_surely : Int32) (h0_asked : Int32) (h0_frees : Nat) (h0_struck : Int32) (h0_beating : Int32) (h0_text : Nat) (h0_texts : Int32) (h0_seed : Int32) (h0_line : Nat) (h0_written : Nat) (h0_lineMany : Int32) (h0_hasWritten : Int32) (h0_node : Nat) (h0_nodes : Int32) (h0_onesMany : Int32) (h0_within : Int32) (h0_top : Int32) (F_h0_tape : Nat → Int32) (i_h0_taped : rg 0 940 h0_taped) (i_h0_size : rg 0 940 h0_size) (i_h0_to : rg 0 940 h0_to) (i_h0_snapMany : rg 0 8 h0_snapMany) (i_h0_texts : rg 0 64 h0_texts) (i_h0_lineMany : rg 0 40 h0_lineMany) (i_h0_hasWritten : rg 0 1 h0_hasWritten) (s_h0_tape_0 : sg 0 940 0 255 F_h0_tape) : oMet l yX12_readEnd wsX12_readEnd ({ frames := 2, cells := 0, slots := 0, locals := 45 } : Room) [.ref h0] D ca sz [(h0, .inr (11, [.int h0_thrown, .ref h0_tape, .int h0_taped, .int h0_size, .int h0_limit, .int h0_to, .int h0_from, .int h0_kind, .int h0_number, .int h0_sign, .int h0_fault, .int h0_place, .long h0_word, .int h0_told, .ref h0_now, .ref h0_read, .ref h0_kept, .ref h0_snaps, .ref h0_aside, .ref h0_name, .ref h0_readName, .ref h0_keptName, .ref h0_isKept, .ref h0_onces, .int h0_snapMany, .int h0_lowest, .int h0_highest, .int h0_agreed, .int h0_jurors, .int h0_panelled, .ref h0_inSets, .int h0_surely, .int h0_asked, .ref h0_frees, .int h0_struck, .int h0_beating, .ref h0_text, .int h0_texts, .int h0_seed, .ref h0_line, .ref h0_written, .int h0_lineMany, .int h0_hasWritten, .ref h0_node, .int h0_nodes, .int h0_onesMany, .int h0_within, .int h0_top])), (aI ca h0_tape 940 F_h0_tape)] (oQi D (fun (r : Int32) (u : Int32 × Int32 × Int32 × Int32 × Int32 × Int32 × Int32 × Int64) => ((r = 0) ∧ (rg 0 940 u.1) ∧ (rl 0 h0_to u.1) ∧ (rl 0 u.1 h0_to) ∧ (rl 0 h0_from u.2.1) ∧ (rl 0 u.2.1 h0_from) ∧ (rl 0 h0_kind u.2.2.1) ∧ (rl 0 u.2.2.1 h0_kind) ∧ (rl 0 h0_number u.2.2.2.1) ∧ (rl 0 u.2.2.2.1 h0_number) ∧ (rl 0 h0_sign u.2.2.2.2.1) ∧ (rl 0 u.2.2.2.2.1 h0_sign)) ∨ ((r = 1) ∧ (rg 0 940 u.1) ∧ (rg (-2147483648) 940 u.2.1) ∧ (rg 0 4 u.2.2.1) ∧ (rg 4 4 h0_kind) ∧ (rg 59 59 h0_sign) ∧ (rl 0 h0_to u.1) ∧ (rl 0 h0_fault u.2.2.2.2.2.1) ∧ (rl 0 u.2.2.2.2.2.1 h0_fault) ∧ (rl 0 h0_place u.2.2.2.2.2.2.1) ∧ (rl 0 u.2.2.2.2.2.2.1 h0_place))) (fun (u : Int32 × Int32 × Int32 × Int32 × Int32 × Int32 × Int32 × Int64) => [(h0, .inr (11, [.int h0_thrown, .ref h0_tape, .int h0_taped, .int h0_size, .int h0_limit, .int u.1, .int u.2.1, .int u.2.2.1, .int u.2.2.2.1, .int u.2.2.2.2.1, .int u.2.2.2.2.2.1, .int u.2.2.2.2.2.2.1, .long u.2.2.2.2.2.2.2, .int h0_told, .ref h0_now, .ref h0_read, .ref h0_kept, .ref h0_snaps, .ref h0_aside, .ref h0_name, .ref h0_readName, .ref h0_keptName, .ref h0_isKept, .ref h0_onces, .int h0_snapMany, .int h0_lowest, .int h0_highest, .int h0_agreed, .int h0_jurors, .int h0_panelled, .ref h0_inSets, .int h0_surely, .int h0_asked, .ref h0_frees, .int h0_struck, .int h0_beating, .ref h0_text, .int h0_texts, .int h0_seed, .ref h0_line, .ref h0_written, .int h0_lineMany, .int h0_hasWritten, .ref h0_node, .int h0_nodes, .int h0_onesMany, .int h0_within, .int h0_top])), (aI ca h0_tape 940 F_h0_tape)])) 0 0 := by
  refine oM (cc := cX12_readEnd) (maxL := 1) (ret := (some .boolean)) (by decide) rfl (Nat.le_of_ble_eq_true rfl) [(0, .ref h0)] rfl ?_
  intro p e s m below meth c A H locs ls hx hb hr hml hts hown hlocks hin hK hP hD hA hS hl
  have hown : s.vm.findClass RX12 = some m.cls := hown
  refine lv_aload_n hx hb dX12_readEnd_0 rfl (lv_at hl 0 rfl) ?_
  refine lv_bipush (v := 59) hx hb dX12_readEnd_1 (by decide) ?_
  refine oC_i (Wc := [(h0, .inr (11, [.int h0_thrown, .ref h0_tape, .int h0_taped, .int h0_size, .int h0_limit, .int h0_to, .int h0_from, .int h0_kind, .int h0_number, .int h0_sign, .int h0_fault, .int h0_place, .long h0_word, .int h0_told, .ref h0_now, .ref h0_read, .ref h0_kept, .ref h0_snaps, .ref h0_aside, .ref h0_name, .ref h0_readName, .ref h0_keptName, .ref h0_isKept, .ref h0_onces, .int h0_snapMany, .int h0_lowest, .int h0_highest, .int h0_agreed, .int h0_jurors, .int h0_panelled, .ref h0_inSets, .int h0_surely, .int h0_asked, .ref h0_frees, .int h0_struck, .int h0_beating, .ref h0_text, .int h0_texts, .int h0_seed, .ref h0_line, .ref h0_written, .int h0_lineMany, .int h0_hasWritten, .ref h0_node, .int h0_nodes, .int h0_onesMany, .int h0_within, .int h0_top]))]) (Wr := [(aI ca h0_tape 940 F_h0_tape)]) (va_runV (As := [.int 59]) (rest := []) ⟨hx, hb, hml, hown, hts⟩ (s_X12_isSign l D ca H.size h0 59 h0_thrown h0_tape h0_taped h0_size h0_limit h0_to h0_from h0_kind h0_number h0_sign h0_fault h0_place h0_word h0_told h0_now h0_read h0_kept h0_snaps h0_aside h0_name h0_readName h0_keptName h0_isKept h0_onces h0_snapMany h0_lowest h0_highest h0_agreed h0_jurors h0_panelled h0_inSets h0_surely h0_asked h0_frees h0_struck h0_beating h0_text h0_texts h0_seed h0_line h0_written h0_lineMany h0_hasWritten h0_node h0_nodes h0_onesMany h0_within h0_top i_h0_taped i_h0_size i_h0_to i_h0_snapMany i_h0_texts i_h0_lineMany i_h0_hasWritten) (cwV 1 hts gX12_readEnd_X12_isSign rfl rfl rfl (by decide +kernel) ⟨Nat.le_of_ble_eq_true rfl, Nat.le_of_ble_eq_true rfl⟩) (oPV (C := RX12) hK hP hD [0] rfl (by decide) 0 rfl (ci := 11) rfl rfl) rfl rfl hl.1 rfl (lv_room (Nat.le_of_ble_eq_true rfl)) dX12_readEnd_3 ⟨Nat.le_of_ble_eq_true rfl, Nat.le_of_ble_eq_true rfl⟩) hP hD hS hA [0] [1] rfl rfl (by decide) (by decide) (fun r_26 u H locs w_27 hP hD hS => ?_)
  obtain ⟨⟩ := u
  have hP : va_P D vwCl [(aI ca h0_tape 940 F_h0_tape), (h0, .inr (11, [.int h0_thrown, .ref h0_tape, .int h0_taped, .int h0_size, .int h0_limit, .int h0_to, .int h0_from, .int h0_kind, .int h0_number, .int h0_sign, .int h0_fault, .int h0_place, .long h0_word, .int h0_told, .ref h0_now, .ref h0_read, .ref h0_kept, .ref h0_snaps, .ref h0_aside, .ref h0_name, .ref h0_readName, .ref h0_keptName, .ref h0_isKept, .ref h0_onces, .int h0_snapMany, .int h0_lowest, .int h0_highest, .int h0_agreed, .int h0_jurors, .int h0_panelled, .ref h0_inSets, .int h0_surely, .int h0_asked, .ref h0_frees, .int h0_struck, .int h0_beating, .ref h0_text, .int h0_texts, .int h0_seed, .ref h0_line, .ref h0_written, .int h0_lineMany, .int h0_hasWritten, .ref h0_node, .int h0_nodes, .int h0_onesMany, .int h0_within, .int h0_top]))] H := hP
  have hD : va_D A [(aI ca h0_tape 940 F_h0_tape), (h0, .inr (11, [.int h0_thrown, .ref h0_tape, .int h0_taped, .int h0_size, .int h0_limit, .int h0_to, .int h0_from, .int h0_kind, .int h0_number, .int h0_sign, .int h0_fault, .int h0_place, .long h0_word, .int h0_told, .ref h0_now, .ref h0_read, .ref h0_kept, .ref h0_snaps, .ref h0_aside, .ref h0_name, .ref h0_readName, .ref h0_keptName, .ref h0_isKept, .ref h0_onces, .int h0_snapMany, .int h0_lowest, .int h0_highest, .int h0_agreed, .int h0_jurors, .int h0_panelled, .ref h0_inSets, .int h0_surely, .int h0_asked, .ref h0_frees, .int h0_struck, .int h0_beating, .ref h0_text, .int h0_texts, .int h0_seed, .ref h0_line, .ref h0_written, .int h0_lineMany, .int h0_hasWritten, .ref h0_node, .int h0_nodes, .int h0_onesMany, .int h0_within, .int h0_top]))] := hD
  try dsimp only at w_27
  rcases w_27 with h_28 | ⟨h_29, h_30, h_31, h_32⟩
  · skip
    subst h_28
    refine lv_if_ne (tgt := 15) hx hb dX12_readEnd_6 (by decide) (fun c => absurd (by decide) c) (fun _ => ?_)
    refine lv_aload_n hx hb dX12_readEnd_9 rfl (lv_at hl 0 rfl) ?_
    refine lv_iconst (v := 1) hx hb dX12_readEnd_10 (by decide) ?_
    refine oC_i (Wc := [(h0, .inr (11, [.int h0_thrown, .ref h0_tape, .int h0_taped, .int h0_size, .int h0_limit, .int h0_to, .int h0_from, .int h0_kind, .int h0_number, .int h0_sign, .int h0_fault, .int h0_place, .long h0_word, .int h0_told, .ref h0_now, .ref h0_read, .ref h0_kept, .ref h0_snaps, .ref h0_aside, .ref h0_name, .ref h0_readName, .ref h0_keptName, .ref h0_isKept, .ref h0_onces, .int h0_snapMany, .int h0_lowest, .int h0_highest, .int h0_agreed, .int h0_jurors, .int h0_panelled, .ref h0_inSets, .int h0_surely, .int h0_asked, .ref h0_frees, .int h0_struck, .int h0_beating, .ref h0_text, .int h0_texts, .int h0_seed, .ref h0_line, .ref h0_written, .int h0_lineMany, .int h0_hasWritten, .ref h0_node, .int h0_nodes, .int h0_onesMany, .int h0_within, .int h0_top]))]) (Wr := [(aI ca h0_tape 940 F_h0_tape)]) (va_runV (As := [.int 1]) (rest := []) ⟨hx, hb, hml, hown, hts⟩ (s_X12_bad l D ca H.size h0 1 h0_thrown h0_tape h0_taped h0_size h0_limit h0_to h0_from h0_kind h0_number h0_sign h0_fault h0_place h0_word h0_told h0_now h0_read h0_kept h0_snaps h0_aside h0_name h0_readName h0_keptName h0_isKept h0_onces h0_snapMany h0_lowest h0_highest h0_agreed h0_jurors h0_panelled h0_inSets h0_surely h0_asked h0_frees h0_struck h0_beating h0_text h0_texts h0_seed h0_line h0_written h0_lineMany h0_hasWritten h0_node h0_nodes h0_onesMany h0_within h0_top i_h0_taped i_h0_size i_h0_to i_h0_snapMany i_h0_texts i_h0_lineMany i_h0_hasWritten) (cwV 1 hts gX12_readEnd_X12_bad rfl rfl rfl (by decide +kernel) ⟨Nat.le_of_ble_eq_true rfl, Nat.le_of_ble_eq_true rfl⟩) (oPV (C := RX12) hK hP hD [1] rfl (by decide) 0 rfl (ci := 11) rfl rfl) rfl rfl hl.1 rfl (lv_room (Nat.le_of_ble_eq_true rfl)) dX12_readEnd_11 ⟨Nat.le_of_ble_eq_true rfl, Nat.le_of_ble_eq_true rfl⟩) hP hD hS hA [1] [0] rfl rfl (by decide) (by decide) (fun r_33 u H locs w_34 hP hD hS => ?_)
    obtain ⟨u_35, rfl⟩ : ∃ z, z = u := ⟨_, rfl⟩
    have hP : va_P D vwCl [(aI ca h0_tape 940 F_h0_tape), (h0, .inr (11, [.int h0_thrown, .ref h0_tape, .int h0_taped, .int h0_size, .int h0_limit, .int h0_to, .int h0_from, .int h0_kind, .int h0_number, .int h0_sign, .int u_35, .int h0_from, .long h0_word, .int h0_told, .ref h0_now, .ref h0_read, .ref h0_kept, .ref h0_snaps, .ref h0_aside, .ref h0_name, .ref h0_readName, .ref h0_keptName, .ref h0_isKept, .ref h0_onces, .int h0_snapMany, .int h0_lowest, .int h0_highest, .int h0_agreed, .int h0_jurors, .int h0_panelled, .ref h0_inSets, .int h0_surely, .int h0_asked, .ref h0_frees, .int h0_struck, .int h0_beating, .ref h0_text, .int h0_texts, .int h0_seed, .ref h0_line, .ref h0_written, .int h0_lineMany, .int h0_hasWritten, .ref h0_node, .int h0_nodes, .int h0_onesMany, .int h0_within, .int h0_top]))] H := hP
    have hD : va_D A [(aI ca h0_tape 940 F_h0_tape), (h0, .inr (11, [.int h0_thrown, .ref h0_tape, .int h0_taped, .int h0_size, .int h0_limit, .int h0_to, .int h0_from, .int h0_kind, .int h0_number, .int h0_sign, .int u_35, .int h0_from, .long h0_word, .int h0_told, .ref h0_now, .ref h0_read, .ref h0_kept, .ref h0_snaps, .ref h0_aside, .ref h0_name, .ref h0_readName, .ref h0_keptName, .ref h0_isKept, .ref h0_onces, .int h0_snapMany, .int h0_lowest, .int h0_highest, .int h0_agreed, .int h0_jurors, .int h0_panelled, .ref h0_inSets, .int h0_surely, .int h0_asked, .ref h0_frees, .int h0_struck, .int h0_beating, .ref h0_text, .int h0_texts, .int h0_seed, .ref h0_line, .ref h0_written, .int h0_lineMany, .int h0_hasWritten, .ref h0_node, .int h0_nodes, .int h0_onesMany, .int h0_within, .int h0_top]))] := hD
    try dsimp only at w_34
    have h_36 := w_34
    subst h_36
    exact oE_i hx hb hr (by decide) hlocks hP hD hS (h0_to, h0_from, h0_kind, h0_number, h0_sign, u_35, h0_from, h0_word) [1, 0] rfl (by decide) (Or.inl ⟨rfl, i_h0_to, (show rl 0 h0_to h0_to from rlm (by omega)), (show rl 0 h0_to h0_to from rlm (by omega)), (show rl 0 h0_from h0_from from rlm (by omega)), (show rl 0 h0_from h0_from from rlm (by omega)), (show rl 0 h0_kind h0_kind from rlm (by omega)), (show rl 0 h0_kind h0_kind from rlm (by omega)), (show rl 0 h0_number h0_number from rlm (by omega)), (show rl 0 h0_number h0_number from rlm (by omega)), (show rl 0 h0_sign h0_sign from rlm (by omega)), (show rl 0 h0_sign h0_sign from rlm (by omega))⟩) (Nat.le_of_ble_eq_true rfl) (Nat.le_of_ble_eq_true rfl) dX12_readEnd_14
  · skip
    subst h_29
    have h_37 : rg 59 2147483647 h0_sign := rl_y h_31 (⟨by decide, by decide⟩ : rg 59 59 (59 : Int32)) (rga h0_sign) (by decide) (by decide)
    have h_38 : rg 59 59 h0_sign := rl_x h_32 h_37 (⟨by decide, by decide⟩ : rg 59 59 (59 : Int32)) (by decide) (by decide)
    refine lv_if_ne (tgt := 15) hx hb dX12_readEnd_6 (by decide) (fun _ => ?_) (fun c => absurd c (by decide))
    refine lv_aload_n hx hb dX12_readEnd_15 rfl (lv_at hl 0 rfl) ?_
    refine oC_v (Wc := [(h0, .inr (11, [.int h0_thrown, .ref h0_tape, .int h0_taped, .int h0_size, .int h0_limit, .int h0_to, .int h0_from, .int h0_kind, .int h0_number, .int h0_sign, .int h0_fault, .int h0_place, .long h0_word, .int h0_told, .ref h0_now, .ref h0_read, .ref h0_kept, .ref h0_snaps, .ref h0_aside, .ref h0_name, .ref h0_readName, .ref h0_keptName, .ref h0_isKept, .ref h0_onces, .int h0_snapMany, .int h0_lowest, .int h0_highest, .int h0_agreed, .int h0_jurors, .int h0_panelled, .ref h0_inSets, .int h0_surely, .int h0_asked, .ref h0_frees, .int h0_struck, .int h0_beating, .ref h0_text, .int h0_texts, .int h0_seed, .ref h0_line, .ref h0_written, .int h0_lineMany, .int h0_hasWritten, .ref h0_node, .int h0_nodes, .int h0_onesMany, .int h0_within, .int h0_top])), (aI ca h0_tape 940 F_h0_tape)]) (Wr := []) (va_runV (As := []) (rest := []) ⟨hx, hb, hml, hown, hts⟩ (s_X12_go l D ca H.size h0 h0_thrown h0_tape h0_taped h0_size h0_limit h0_to h0_from h0_kind h0_number h0_sign h0_fault h0_place h0_word h0_told h0_now h0_read h0_kept h0_snaps h0_aside h0_name h0_readName h0_keptName h0_isKept h0_onces h0_snapMany h0_lowest h0_highest h0_agreed h0_jurors h0_panelled h0_inSets h0_surely h0_asked h0_frees h0_struck h0_beating h0_text h0_texts h0_seed h0_line h0_written h0_lineMany h0_hasWritten h0_node h0_nodes h0_onesMany h0_within h0_top F_h0_tape i_h0_taped i_h0_size i_h0_to i_h0_snapMany i_h0_texts i_h0_lineMany i_h0_hasWritten s_h0_tape_0) (cwV 0 hts gX12_readEnd_X12_go rfl rfl rfl (by decide +kernel) ⟨Nat.le_of_ble_eq_true rfl, Nat.le_of_ble_eq_true rfl⟩) (oPV (C := RX12) hK hP hD [1, 0] rfl (by decide) 0 rfl (ci := 11) rfl rfl) rfl rfl hl.1 rfl (lv_room (Nat.le_of_ble_eq_true rfl)) dX12_readEnd_16 ⟨Nat.le_of_ble_eq_true rfl, Nat.le_of_ble_eq_true rfl⟩) hP hD hS hA [1, 0] [] rfl rfl (by decide) (by decide) (fun u H locs w_40 hP hD hS => ?_)
    obtain ⟨u_41, u_42, u_43, u_44, u_45, u_46⟩ := u
    have hP : va_P D vwCl [(h0, .inr (11, [.int h0_thrown, .ref h0_tape, .int h0_taped, .int h0_size, .int h0_limit, .int u_41, .int u_42, .int u_43, .int u_44, .int u_45, .int h0_fault, .int h0_place, .long u_46, .int h0_told, .ref h0_now, .ref h0_read, .ref h0_kept, .ref h0_snaps, .ref h0_aside, .ref h0_name, .ref h0_readName, .ref h0_keptName, .ref h0_isKept, .ref h0_onces, .int h0_snapMany, .int h0_lowest, .int h0_highest, .int h0_agreed, .int h0_jurors, .int h0_panelled, .ref h0_inSets, .int h0_surely, .int h0_asked, .ref h0_frees, .int h0_struck, .int h0_beating, .ref h0_text, .int h0_texts, .int h0_seed, .ref h0_line, .ref h0_written, .int h0_lineMany, .int h0_hasWritten, .ref h0_node, .int h0_nodes, .int h0_onesMany, .int h0_within, .int h0_top])), (aI ca h0_tape 940 F_h0_tape)] H := hP
    have hD : va_D A [(h0, .inr (11, [.int h0_thrown, .ref h0_tape, .int h0_taped, .int h0_size, .int h0_limit, .int u_41, .int u_42, .int u_43, .int u_44, .int u_45, .int h0_fault, .int h0_place, .long u_46, .int h0_told, .ref h0_now, .ref h0_read, .ref h0_kept, .ref h0_snaps, .ref h0_aside, .ref h0_name, .ref h0_readName, .ref h0_keptName, .ref h0_isKept, .ref h0_onces, .int h0_snapMany, .int h0_lowest, .int h0_highest, .int h0_agreed, .int h0_jurors, .int h0_panelled, .ref h0_inSets, .int h0_surely, .int h0_asked, .ref h0_frees, .int h0_struck, .int h0_beating, .ref h0_text, .int h0_texts, .int h0_seed, .ref h0_line, .ref h0_written, .int h0_lineMany, .int h0_hasWritten, .ref h0_node, .int h0_nodes, .int h0_onesMany, .int h0_within, .int h0_top])), (aI ca h0_tape 940 F_h0_tape)] := hD
    try dsimp only at w_40
    obtain ⟨h_47, h_48, h_49, h_50⟩ := w_40
    refine lv_iconst (v := 1) hx hb dX12_readEnd_19 (by decide) ?_
    exact oE_i hx hb hr (by decide) hlocks hP hD hS (u_41, u_42, u_43, u_44, u_45, h0_fault, h0_place, u_46) [0, 1] rfl (by decide) (Or.inr (⟨rfl, h_47, h_48, h_49, h_30, h_38, (show rl 0 h0_to u_41 from rlm (by have q0 := rle h_50; omega)), (show rl 0 h0_fault h0_fault from rlm (by omega)), (show rl 0 h0_fault h0_fault from rlm (by omega)), (show rl 0 h0_place h0_place from rlm (by omega)), (show rl 0 h0_place h0_place from rlm (by omega))⟩)) (Nat.le_of_ble_eq_true rfl) (Nat.le_of_ble_eq_true rfl) dX12_readEnd_20
theorem dX12_startSo_0 : decode cX12_startSo 0 = .ok (.bipush 89, 2) := by decide +kernel
theorem dX12_startSo_2 : decode cX12_startSo 2 = .ok (.istore_n 1, 1) := by decide +kernel
theorem dX12_startSo_3 : decode cX12_startSo 3 = .ok (.iload_n 1, 1) := by decide +kernel
theorem dX12_startSo_4 : decode cX12_startSo 4 = .ok (.sipush 376, 3) := by decide +kernel
theorem dX12_startSo_7 : decode cX12_startSo 7 = .ok (.if_icmp .ge 16, 3) := by decide +kernel
theorem dX12_startSo_10 : decode cX12_startSo 10 = .ok (.aload_n 0, 1) := by decide +kernel
theorem dX12_startSo_11 : decode cX12_startSo 11 = .ok (.getfield 98, 3) := by decide +kernel
theorem dX12_startSo_14 : decode cX12_startSo 14 = .ok (.iload_n 1, 1) := by decide +kernel
theorem dX12_startSo_15 : decode cX12_startSo 15 = .ok (.iconst 0, 1) := by decide +kernel
theorem dX12_startSo_16 : decode cX12_startSo 16 = .ok (.iastore, 1) := by decide +kernel
theorem dX12_startSo_17 : decode cX12_startSo 17 = .ok (.iinc 1 1, 3) := by decide +kernel
theorem dX12_startSo_20 : decode cX12_startSo 20 = .ok (.goto (-17), 3) := by decide +kernel
theorem dX12_startSo_23 : decode cX12_startSo 23 = .ok (.aload_n 0, 1) := by decide +kernel
theorem dX12_startSo_24 : decode cX12_startSo 24 = .ok (.getfield 98, 3) := by decide +kernel
theorem dX12_startSo_27 : decode cX12_startSo 27 = .ok (.bipush 90, 2) := by decide +kernel
theorem dX12_startSo_29 : decode cX12_startSo 29 = .ok (.aload_n 0, 1) := by decide +kernel
theorem dX12_startSo_30 : decode cX12_startSo 30 = .ok (.getfield 98, 3) := by decide +kernel
theorem dX12_startSo_33 : decode cX12_startSo 33 = .ok (.bipush 35, 2) := by decide +kernel
theorem dX12_startSo_35 : decode cX12_startSo 35 = .ok (.iaload, 1) := by decide +kernel
theorem dX12_startSo_36 : decode cX12_startSo 36 = .ok (.iastore, 1) := by decide +kernel
theorem dX12_startSo_37 : decode cX12_startSo 37 = .ok (.iconst 0, 1) := by decide +kernel
theorem dX12_startSo_38 : decode cX12_startSo 38 = .ok (.istore_n 1, 1) := by decide +kernel
theorem dX12_startSo_39 : decode cX12_startSo 39 = .ok (.iload_n 1, 1) := by decide +kernel
theorem dX12_startSo_40 : decode cX12_startSo 40 = .ok (.iconst 5, 1) := by decide +kernel
theorem dX12_startSo_41 : decode cX12_startSo 41 = .ok (.if_icmp .ge 19, 3) := by decide +kernel
theorem dX12_startSo_44 : decode cX12_startSo 44 = .ok (.aload_n 0, 1) := by decide +kernel
theorem dX12_startSo_45 : decode cX12_startSo 45 = .ok (.getfield 98, 3) := by decide +kernel
theorem dX12_startSo_48 : decode cX12_startSo 48 = .ok (.bipush 119, 2) := by decide +kernel
theorem dX12_startSo_50 : decode cX12_startSo 50 = .ok (.iload_n 1, 1) := by decide +kernel
theorem dX12_startSo_51 : decode cX12_startSo 51 = .ok (.iadd, 1) := by decide +kernel
theorem dX12_startSo_52 : decode cX12_startSo 52 = .ok (.iconst (-1), 1) := by decide +kernel
theorem dX12_startSo_53 : decode cX12_startSo 53 = .ok (.iastore, 1) := by decide +kernel
theorem dX12_startSo_54 : decode cX12_startSo 54 = .ok (.iinc 1 1, 3) := by decide +kernel
theorem dX12_startSo_57 : decode cX12_startSo 57 = .ok (.goto (-18), 3) := by decide +kernel
theorem dX12_startSo_60 : decode cX12_startSo 60 = .ok (.return_, 1) := by decide +kernel
set_option maxHeartbeats 4000000 in
set_option maxRecDepth 100000 in
theorem s_X12_startSo (l : Launch) (D : va_G) (ca : Nat → ClassId) (sz : Nat) (h0 : Nat) (h0_thrown : Int32) (h0_tape : Nat) (h0_taped : Int32) (h0_size : Int32) (h0_limit : Int32) (h0_to : Int32) (h0_from : Int32) (h0_kind : Int32) (h0_number : Int32) (h0_sign : Int32) (h0_fault : Int32) (h0_place : Int32) (h0_word : Int64) (h0_told : Int32) (h0_now : Nat) (h0_read : Nat) (h0_kept : Nat) (h0_snaps : Nat) (h0_aside : Nat) (h0_name : Nat) (h0_readName : Nat) (h0_keptName : Nat) (h0_isKept : Nat) (h0_onces : Nat) (h0_snapMany : Int32) (h0_lowest : Int32) (h0_highest : Int32) (h0_agreed : Int32) (h0_jurors : Int32) (h0_panelled : Int32) (h0_inSets : Nat) (h0_surely : Int32) (h0_asked : Int32) (h0_frees : Nat) (h0_struck : Int32) (h0_beating : Int32) (h0_text : Nat) (h0_texts : Int32) (h0_seed : Int32) (h0_line : Nat) (h0_written : Nat) (h0_lineMany : Int32) (h0_hasWritten : Int32) (h0_node : Nat) (h0_nodes : Int32) (h0_onesMany : Int32) (h0_within : Int32) (h0_top : Int32) (F_h0_now : Nat → Int32) (i_h0_taped : rg 0 940 h0_taped) (i_h0_size : rg 0 940 h0_size) (i_h0_to : rg 0 940 h0_to) (i_h0_snapMany : rg 0 8 h0_snapMany) (i_h0_texts : rg 0 64 h0_texts) (i_h0_lineMany : rg 0 40 h0_lineMany) (i_h0_hasWritten : rg 0 1 h0_hasWritten) (s_h0_now_0 : sg 0 1 0 10 F_h0_now) (s_h0_now_1 : sg 1 2 0 4 F_h0_now) (s_h0_now_2 : sg 2 3 0 5 F_h0_now) (s_h0_now_3 : sg 35 36 0 1023 F_h0_now) (s_h0_now_4 : sg 44 49 0 3 F_h0_now) (s_h0_now_5 : sg 90 91 0 1023 F_h0_now) : oMet l yX12_startSo wsX12_startSo ({ frames := 0, cells := 0, slots := 0, locals := 0 } : Room) [.ref h0] D ca sz [(h0, .inr (11, [.int h0_thrown, .ref h0_tape, .int h0_taped, .int h0_size, .int h0_limit, .int h0_to, .int h0_from, .int h0_kind, .int h0_number, .int h0_sign, .int h0_fault, .int h0_place, .long h0_word, .int h0_told, .ref h0_now, .ref h0_read, .ref h0_kept, .ref h0_snaps, .ref h0_aside, .ref h0_name, .ref h0_readName, .ref h0_keptName, .ref h0_isKept, .ref h0_onces, .int h0_snapMany, .int h0_lowest, .int h0_highest, .int h0_agreed, .int h0_jurors, .int h0_panelled, .ref h0_inSets, .int h0_surely, .int h0_asked, .ref h0_frees, .int h0_struck, .int h0_beating, .ref h0_text, .int h0_texts, .int h0_seed, .ref h0_line, .ref h0_written, .int h0_lineMany, .int h0_hasWritten, .ref h0_node, .int h0_nodes, .int h0_onesMany, .int h0_within, .int h0_top])), (aI ca h0_now 376 F_h0_now)] (oQv D (fun (u : (Nat → Int32)) => (sg 0 1 0 10 u) ∧ (sg 1 2 0 4 u) ∧ (sg 2 3 0 5 u) ∧ (sg 35 36 0 1023 u) ∧ (sg 44 49 0 3 u) ∧ (sg 90 91 0 1023 u)) (fun (u : (Nat → Int32)) => [(h0, .inr (11, [.int h0_thrown, .ref h0_tape, .int h0_taped, .int h0_size, .int h0_limit, .int h0_to, .int h0_from, .int h0_kind, .int h0_number, .int h0_sign, .int h0_fault, .int h0_place, .long h0_word, .int h0_told, .ref h0_now, .ref h0_read, .ref h0_kept, .ref h0_snaps, .ref h0_aside, .ref h0_name, .ref h0_readName, .ref h0_keptName, .ref h0_isKept, .ref h0_onces, .int h0_snapMany, .int h0_lowest, .int h0_highest, .int h0_agreed, .int h0_jurors, .int h0_panelled, .ref h0_inSets, .int h0_surely, .int h0_asked, .ref h0_frees, .int h0_struck, .int h0_beating, .ref h0_text, .int h0_texts, .int h0_seed, .ref h0_line, .ref h0_written, .int h0_lineMany, .int h0_hasWritten, .ref h0_node, .int h0_nodes, .int h0_onesMany, .int h0_within, .int h0_top])), (aI ca h0_now 376 u)])) 0 0 := by
  refine oM (cc := cX12_startSo) (maxL := 2) (ret := none) (by decide) rfl (Nat.le_of_ble_eq_true rfl) [(0, .ref h0)] rfl ?_
  intro p e s m below meth c A H locs ls hx hb hr hml hts hown hlocks hin hK hP hD hA hS hl
  have hown : s.vm.findClass RX12 = some m.cls := hown
  have k1 := hts (.fieldLink RX12 98 "LidCourtModel" "now" "[I") (by decide +kernel)
  have k2 : ∀ w ∈ wsX120, w ∈ wsX12_startSo := fun _ h => List.mem_cons_of_mem _ (List.mem_append_right _ h)
  have J39_164 : ∀ (n : Nat) (y39_0 : Int32) (f39_1 : Nat → Int32), True → rg 0 5 y39_0 → sg 0 1 0 10 f39_1 → sg 1 2 0 4 f39_1 → sg 2 3 0 5 f39_1 → sg 35 36 0 1023 f39_1 → sg 44 49 0 3 f39_1 → sg 90 91 0 1023 f39_1 → 5 < y39_0.toInt + (n : Int) → ∀ (H : Heap) (locs : List Loc) (ls : Array Slot), va_P D vwCl [(h0, .inr (11, [.int h0_thrown, .ref h0_tape, .int h0_taped, .int h0_size, .int h0_limit, .int h0_to, .int h0_from, .int h0_kind, .int h0_number, .int h0_sign, .int h0_fault, .int h0_place, .long h0_word, .int h0_told, .ref h0_now, .ref h0_read, .ref h0_kept, .ref h0_snaps, .ref h0_aside, .ref h0_name, .ref h0_readName, .ref h0_keptName, .ref h0_isKept, .ref h0_onces, .int h0_snapMany, .int h0_lowest, .int h0_highest, .int h0_agreed, .int h0_jurors, .int h0_panelled, .ref h0_inSets, .int h0_surely, .int h0_asked, .ref h0_frees, .int h0_struck, .int h0_beating, .ref h0_text, .int h0_texts, .int h0_seed, .ref h0_line, .ref h0_written, .int h0_lineMany, .int h0_hasWritten, .ref h0_node, .int h0_nodes, .int h0_onesMany, .int h0_within, .int h0_top])), (aI ca h0_now 376 f39_1)] H → va_D A [(h0, .inr (11, [.int h0_thrown, .ref h0_tape, .int h0_taped, .int h0_size, .int h0_limit, .int h0_to, .int h0_from, .int h0_kind, .int h0_number, .int h0_sign, .int h0_fault, .int h0_place, .long h0_word, .int h0_told, .ref h0_now, .ref h0_read, .ref h0_kept, .ref h0_snaps, .ref h0_aside, .ref h0_name, .ref h0_readName, .ref h0_keptName, .ref h0_isKept, .ref h0_onces, .int h0_snapMany, .int h0_lowest, .int h0_highest, .int h0_agreed, .int h0_jurors, .int h0_panelled, .ref h0_inSets, .int h0_surely, .int h0_asked, .ref h0_frees, .int h0_struck, .int h0_beating, .ref h0_text, .int h0_texts, .int h0_seed, .ref h0_line, .ref h0_written, .int h0_lineMany, .int h0_hasWritten, .ref h0_node, .int h0_nodes, .int h0_onesMany, .int h0_within, .int h0_top])), (aI ca h0_now 376 f39_1)] → va_S A s.heap H locs → lv_has ls 2 [(0, .ref h0), (1, .int y39_0)] → W p l e ({ frames := 0, cells := 0, slots := 0, locals := 0 } : Room) s m ([.ref h0] : List Value).toArray below meth c H locs 0 0 (MQ below ((oQv D (fun (u : (Nat → Int32)) => (sg 0 1 0 10 u) ∧ (sg 1 2 0 4 u) ∧ (sg 2 3 0 5 u) ∧ (sg 35 36 0 1023 u) ∧ (sg 44 49 0 3 u) ∧ (sg 90 91 0 1023 u)) (fun (u : (Nat → Int32)) => [(h0, .inr (11, [.int h0_thrown, .ref h0_tape, .int h0_taped, .int h0_size, .int h0_limit, .int h0_to, .int h0_from, .int h0_kind, .int h0_number, .int h0_sign, .int h0_fault, .int h0_place, .long h0_word, .int h0_told, .ref h0_now, .ref h0_read, .ref h0_kept, .ref h0_snaps, .ref h0_aside, .ref h0_name, .ref h0_readName, .ref h0_keptName, .ref h0_isKept, .ref h0_onces, .int h0_snapMany, .int h0_lowest, .int h0_highest, .int h0_agreed, .int h0_jurors, .int h0_panelled, .ref h0_inSets, .int h0_surely, .int h0_asked, .ref h0_frees, .int h0_struck, .int h0_beating, .ref h0_text, .int h0_texts, .int h0_seed, .ref h0_line, .ref h0_written, .int h0_lineMany, .int h0_hasWritten, .ref h0_node, .int h0_nodes, .int h0_onesMany, .int h0_within, .int h0_top])), (aI ca h0_now 376 u)])) A) ([.ref h0] : List Value).toArray s 0 0 A) (F0 m 39 ls []) := by
    intro n
    induction n with
    | zero => intro y39_0 f39_1 _ hy39_0 s39_2 s39_3 s39_4 s39_5 s39_6 s39_7 hn; exact absurd hn (by have q9 := hy39_0.2; omega)
    | succ n ih =>
      intro y39_0 f39_1 _ hy39_0 s39_2 s39_3 s39_4 s39_5 s39_6 s39_7 hn H locs ls hP hD hS hl
      refine lv_iload_n hx hb dX12_startSo_39 rfl (lv_at hl 1 rfl) ?_
      refine lv_iconst (v := 5) hx hb dX12_startSo_40 (by decide) ?_
      refine lv_icmp_ge (tgt := 60) hx hb dX12_startSo_41 (by decide) (fun c_183 => ?_) (fun c_183 => ?_)
      · skip
        have o_184 : rl 0 5 y39_0 := rl_le c_183
        have h_185 : rg 5 5 y39_0 := rl_y o_184 (⟨by decide, by decide⟩ : rg 5 5 (5 : Int32)) hy39_0 (by decide) (by decide)
        exact oE_v hx hb hr hlocks hP hD hS f39_1 [0, 1] rfl (by decide) ⟨s39_2, s39_3, s39_4, s39_5, s39_6, s39_7⟩ (Nat.le_of_ble_eq_true rfl) (Nat.le_of_ble_eq_true rfl) dX12_startSo_60
      · skip
        have o_186 : rl 1 y39_0 5 := rl_nle c_183
        have h_187 : rg 0 4 y39_0 := rl_x o_186 hy39_0 (⟨by decide, by decide⟩ : rg 5 5 (5 : Int32)) (by decide) (by decide)
        refine lv_aload_n hx hb dX12_startSo_44 rfl (lv_at hl 0 rfl) ?_
        refine va_get (D := D) (ci := 11) (v := .ref h0_now) (C := RX12) (T := TX12) (N := 48) hx hb hts k2 hown hK.1 hP 0 rfl rfl 14 (by decide) k1 (fun _ h9 => h9) rfl dX12_startSo_45 ?_
        refine lv_bipush (v := 119) hx hb dX12_startSo_48 (by decide) ?_
        refine lv_iload_n hx hb dX12_startSo_50 rfl (lv_at hl 1 rfl) ?_
        refine lv_iadd hx hb dX12_startSo_51 ?_
        refine lv_topi (fun x_188 ex_188 => ?_)
        have h_189 : rg 119 123 x_188 := by rw [ex_188]; exact rg_add (⟨by decide, by decide⟩ : rg 119 119 (119 : Int32)) h_187 (by decide) (by decide) (by decide) (by decide)
        have l_190 : lq x_188.toInt (y39_0.toInt + 119) := lqm (by rw [ex_188]; have q := tadd (⟨by decide, by decide⟩ : rg 119 119 (119 : Int32)) h_187 (by decide) (by decide); have r0 := lqe (lqm (by decide) : lq (119 : Int32).toInt 119); omega)
        refine lv_iconst (v := (-1)) hx hb dX12_startSo_52 (by decide) ?_
        refine va_iast hx hb hK.1 hP hD hS 1 0 rfl rfl (rg_in h_189 (by decide) (by decide)) dX12_startSo_53 (fun H locs hP hD hS => ?_)
        obtain ⟨g_191, eg_191⟩ : ∃ y : Nat → Int32, y = upd f39_1 (x_188 : Int32).toNatClampNeg ((-1) : Int32) := ⟨_, rfl⟩
        rw [← eg_191] at hP hD
        have s_192 : sg 0 1 0 10 g_191 := sg_out s39_2 eg_191 h_189 (by decide) (by decide)
        have s_193 : sg 1 2 0 4 g_191 := sg_out s39_3 eg_191 h_189 (by decide) (by decide)
        have s_194 : sg 2 3 0 5 g_191 := sg_out s39_4 eg_191 h_189 (by decide) (by decide)
        have s_195 : sg 35 36 0 1023 g_191 := sg_out s39_5 eg_191 h_189 (by decide) (by decide)
        have s_196 : sg 44 49 0 3 g_191 := sg_out s39_6 eg_191 h_189 (by decide) (by decide)
        have s_197 : sg 90 91 0 1023 g_191 := sg_out s39_7 eg_191 h_189 (by decide) (by decide)
        have hP : va_P D vwCl [(h0, .inr (11, [.int h0_thrown, .ref h0_tape, .int h0_taped, .int h0_size, .int h0_limit, .int h0_to, .int h0_from, .int h0_kind, .int h0_number, .int h0_sign, .int h0_fault, .int h0_place, .long h0_word, .int h0_told, .ref h0_now, .ref h0_read, .ref h0_kept, .ref h0_snaps, .ref h0_aside, .ref h0_name, .ref h0_readName, .ref h0_keptName, .ref h0_isKept, .ref h0_onces, .int h0_snapMany, .int h0_lowest, .int h0_highest, .int h0_agreed, .int h0_jurors, .int h0_panelled, .ref h0_inSets, .int h0_surely, .int h0_asked, .ref h0_frees, .int h0_struck, .int h0_beating, .ref h0_text, .int h0_texts, .int h0_seed, .ref h0_line, .ref h0_written, .int h0_lineMany, .int h0_hasWritten, .ref h0_node, .int h0_nodes, .int h0_onesMany, .int h0_within, .int h0_top])), (aI ca h0_now 376 g_191)] H := hP
        have hD : va_D A [(h0, .inr (11, [.int h0_thrown, .ref h0_tape, .int h0_taped, .int h0_size, .int h0_limit, .int h0_to, .int h0_from, .int h0_kind, .int h0_number, .int h0_sign, .int h0_fault, .int h0_place, .long h0_word, .int h0_told, .ref h0_now, .ref h0_read, .ref h0_kept, .ref h0_snaps, .ref h0_aside, .ref h0_name, .ref h0_readName, .ref h0_keptName, .ref h0_isKept, .ref h0_onces, .int h0_snapMany, .int h0_lowest, .int h0_highest, .int h0_agreed, .int h0_jurors, .int h0_panelled, .ref h0_inSets, .int h0_surely, .int h0_asked, .ref h0_frees, .int h0_struck, .int h0_beating, .ref h0_text, .int h0_texts, .int h0_seed, .ref h0_line, .ref h0_written, .int h0_lineMany, .int h0_hasWritten, .ref h0_node, .int h0_nodes, .int h0_onesMany, .int h0_within, .int h0_top])), (aI ca h0_now 376 g_191)] := hD
        obtain ⟨x_198, ex_198⟩ : ∃ y : Int32, y = y39_0 + 1 := ⟨_, rfl⟩
        have h_199 : rg 1 5 x_198 := by rw [ex_198]; exact rg_add h_187 (⟨by decide, by decide⟩ : rg 1 1 (1 : Int32)) (by decide) (by decide) (by decide) (by decide)
        have l_200 : lq x_198.toInt (y39_0.toInt + 1) := lqm (by rw [ex_198]; have q := tadd h_187 (⟨by decide, by decide⟩ : rg 1 1 (1 : Int32)) (by decide) (by decide); have r1 := lqe (lqm (by decide) : lq (1 : Int32).toInt 1); omega)
        refine lv_iinc (v := x_198) (lv' := [(1, .int x_198), (0, .ref h0)]) hx hb dX12_startSo_54 hl (k := 1) rfl (by rw [ex_198]; rfl) (by decide) rfl (fun ls hl => ?_)
        refine lv_goto (tgt := 39) hx hb dX12_startSo_57 (by decide) ?_
        exact ih x_198 g_191 trivial (rgw (lo := 0) (hi := 5) h_199 (by decide) (by decide)) s_192 s_193 s_194 s_195 s_196 s_197 (by have q0 := lqe l_200; omega) H locs ls (oPsub hP [0, 1] rfl) (hD.sub [0, 1] (by decide) rfl) hS (lv_sub hl [1, 0] rfl)
  have J3_201 : ∀ (n : Nat) (y3_0 : Int32) (f3_1 : Nat → Int32), True → rg 89 376 y3_0 → sg 0 1 0 10 f3_1 → sg 1 2 0 4 f3_1 → sg 2 3 0 5 f3_1 → sg 35 36 0 1023 f3_1 → sg 44 49 0 3 f3_1 → sg 90 91 0 1023 f3_1 → 376 < y3_0.toInt + (n : Int) → ∀ (H : Heap) (locs : List Loc) (ls : Array Slot), va_P D vwCl [(h0, .inr (11, [.int h0_thrown, .ref h0_tape, .int h0_taped, .int h0_size, .int h0_limit, .int h0_to, .int h0_from, .int h0_kind, .int h0_number, .int h0_sign, .int h0_fault, .int h0_place, .long h0_word, .int h0_told, .ref h0_now, .ref h0_read, .ref h0_kept, .ref h0_snaps, .ref h0_aside, .ref h0_name, .ref h0_readName, .ref h0_keptName, .ref h0_isKept, .ref h0_onces, .int h0_snapMany, .int h0_lowest, .int h0_highest, .int h0_agreed, .int h0_jurors, .int h0_panelled, .ref h0_inSets, .int h0_surely, .int h0_asked, .ref h0_frees, .int h0_struck, .int h0_beating, .ref h0_text, .int h0_texts, .int h0_seed, .ref h0_line, .ref h0_written, .int h0_lineMany, .int h0_hasWritten, .ref h0_node, .int h0_nodes, .int h0_onesMany, .int h0_within, .int h0_top])), (aI ca h0_now 376 f3_1)] H → va_D A [(h0, .inr (11, [.int h0_thrown, .ref h0_tape, .int h0_taped, .int h0_size, .int h0_limit, .int h0_to, .int h0_from, .int h0_kind, .int h0_number, .int h0_sign, .int h0_fault, .int h0_place, .long h0_word, .int h0_told, .ref h0_now, .ref h0_read, .ref h0_kept, .ref h0_snaps, .ref h0_aside, .ref h0_name, .ref h0_readName, .ref h0_keptName, .ref h0_isKept, .ref h0_onces, .int h0_snapMany, .int h0_lowest, .int h0_highest, .int h0_agreed, .int h0_jurors, .int h0_panelled, .ref h0_inSets, .int h0_surely, .int h0_asked, .ref h0_frees, .int h0_struck, .int h0_beating, .ref h0_text, .int h0_texts, .int h0_seed, .ref h0_line, .ref h0_written, .int h0_lineMany, .int h0_hasWritten, .ref h0_node, .int h0_nodes, .int h0_onesMany, .int h0_within, .int h0_top])), (aI ca h0_now 376 f3_1)] → va_S A s.heap H locs → lv_has ls 2 [(0, .ref h0), (1, .int y3_0)] → W p l e ({ frames := 0, cells := 0, slots := 0, locals := 0 } : Room) s m ([.ref h0] : List Value).toArray below meth c H locs 0 0 (MQ below ((oQv D (fun (u : (Nat → Int32)) => (sg 0 1 0 10 u) ∧ (sg 1 2 0 4 u) ∧ (sg 2 3 0 5 u) ∧ (sg 35 36 0 1023 u) ∧ (sg 44 49 0 3 u) ∧ (sg 90 91 0 1023 u)) (fun (u : (Nat → Int32)) => [(h0, .inr (11, [.int h0_thrown, .ref h0_tape, .int h0_taped, .int h0_size, .int h0_limit, .int h0_to, .int h0_from, .int h0_kind, .int h0_number, .int h0_sign, .int h0_fault, .int h0_place, .long h0_word, .int h0_told, .ref h0_now, .ref h0_read, .ref h0_kept, .ref h0_snaps, .ref h0_aside, .ref h0_name, .ref h0_readName, .ref h0_keptName, .ref h0_isKept, .ref h0_onces, .int h0_snapMany, .int h0_lowest, .int h0_highest, .int h0_agreed, .int h0_jurors, .int h0_panelled, .ref h0_inSets, .int h0_surely, .int h0_asked, .ref h0_frees, .int h0_struck, .int h0_beating, .ref h0_text, .int h0_texts, .int h0_seed, .ref h0_line, .ref h0_written, .int h0_lineMany, .int h0_hasWritten, .ref h0_node, .int h0_nodes, .int h0_onesMany, .int h0_within, .int h0_top])), (aI ca h0_now 376 u)])) A) ([.ref h0] : List Value).toArray s 0 0 A) (F0 m 3 ls []) := by
    intro n
    induction n with
    | zero => intro y3_0 f3_1 _ hy3_0 s3_2 s3_3 s3_4 s3_5 s3_6 s3_7 hn; exact absurd hn (by have q9 := hy3_0.2; omega)
    | succ n ih =>
      intro y3_0 f3_1 _ hy3_0 s3_2 s3_3 s3_4 s3_5 s3_6 s3_7 hn H locs ls hP hD hS hl
      refine lv_iload_n hx hb dX12_startSo_3 rfl (lv_at hl 1 rfl) ?_
      refine lv_sipush (v := 376) hx hb dX12_startSo_4 (by decide) ?_
      refine lv_icmp_ge (tgt := 23) hx hb dX12_startSo_7 (by decide) (fun c_226 => ?_) (fun c_226 => ?_)
      · skip
        have o_227 : rl 0 376 y3_0 := rl_le c_226
        have h_228 : rg 376 376 y3_0 := rl_y o_227 (⟨by decide, by decide⟩ : rg 376 376 (376 : Int32)) hy3_0 (by decide) (by decide)
        refine lv_aload_n hx hb dX12_startSo_23 rfl (lv_at hl 0 rfl) ?_
        refine va_get (D := D) (ci := 11) (v := .ref h0_now) (C := RX12) (T := TX12) (N := 48) hx hb hts k2 hown hK.1 hP 0 rfl rfl 14 (by decide) k1 (fun _ h9 => h9) rfl dX12_startSo_24 ?_
        refine lv_bipush (v := 90) hx hb dX12_startSo_27 (by decide) ?_
        refine lv_aload_n hx hb dX12_startSo_29 rfl (lv_at hl 0 rfl) ?_
        refine va_get (D := D) (ci := 11) (v := .ref h0_now) (C := RX12) (T := TX12) (N := 48) hx hb hts k2 hown hK.1 hP 0 rfl rfl 14 (by decide) k1 (fun _ h9 => h9) rfl dX12_startSo_30 ?_
        refine lv_bipush (v := 35) hx hb dX12_startSo_33 (by decide) ?_
        refine va_iald hx hb hK.1 hP 1 0 rfl rfl (rg_in (⟨by decide, by decide⟩ : rg 35 35 (35 : Int32)) (by decide) (by decide)) dX12_startSo_35 ?_
        refine lv_topi (fun x_229 ex_229 => ?_)
        have h_230 : rg 0 1023 x_229 := by rw [ex_229]; exact sg_at s3_5 (⟨by decide, by decide⟩ : rg 35 35 (35 : Int32)) (by decide) (by decide) (by decide)
        refine va_iast hx hb hK.1 hP hD hS 1 0 rfl rfl (rg_in (⟨by decide, by decide⟩ : rg 90 90 (90 : Int32)) (by decide) (by decide)) dX12_startSo_36 (fun H locs hP hD hS => ?_)
        obtain ⟨g_231, eg_231⟩ : ∃ y : Nat → Int32, y = upd f3_1 (90 : Int32).toNatClampNeg (x_229 : Int32) := ⟨_, rfl⟩
        rw [← eg_231] at hP hD
        have s_232 : sg 0 1 0 10 g_231 := sg_out s3_2 eg_231 (⟨by decide, by decide⟩ : rg 90 90 (90 : Int32)) (by decide) (by decide)
        have s_233 : sg 1 2 0 4 g_231 := sg_out s3_3 eg_231 (⟨by decide, by decide⟩ : rg 90 90 (90 : Int32)) (by decide) (by decide)
        have s_234 : sg 2 3 0 5 g_231 := sg_out s3_4 eg_231 (⟨by decide, by decide⟩ : rg 90 90 (90 : Int32)) (by decide) (by decide)
        have s_235 : sg 35 36 0 1023 g_231 := sg_out s3_5 eg_231 (⟨by decide, by decide⟩ : rg 90 90 (90 : Int32)) (by decide) (by decide)
        have s_236 : sg 44 49 0 3 g_231 := sg_out s3_6 eg_231 (⟨by decide, by decide⟩ : rg 90 90 (90 : Int32)) (by decide) (by decide)
        have s_237 : sg 90 91 0 1023 g_231 := sg_val s3_7 eg_231 h_230
        have hP : va_P D vwCl [(h0, .inr (11, [.int h0_thrown, .ref h0_tape, .int h0_taped, .int h0_size, .int h0_limit, .int h0_to, .int h0_from, .int h0_kind, .int h0_number, .int h0_sign, .int h0_fault, .int h0_place, .long h0_word, .int h0_told, .ref h0_now, .ref h0_read, .ref h0_kept, .ref h0_snaps, .ref h0_aside, .ref h0_name, .ref h0_readName, .ref h0_keptName, .ref h0_isKept, .ref h0_onces, .int h0_snapMany, .int h0_lowest, .int h0_highest, .int h0_agreed, .int h0_jurors, .int h0_panelled, .ref h0_inSets, .int h0_surely, .int h0_asked, .ref h0_frees, .int h0_struck, .int h0_beating, .ref h0_text, .int h0_texts, .int h0_seed, .ref h0_line, .ref h0_written, .int h0_lineMany, .int h0_hasWritten, .ref h0_node, .int h0_nodes, .int h0_onesMany, .int h0_within, .int h0_top])), (aI ca h0_now 376 g_231)] H := hP
        have hD : va_D A [(h0, .inr (11, [.int h0_thrown, .ref h0_tape, .int h0_taped, .int h0_size, .int h0_limit, .int h0_to, .int h0_from, .int h0_kind, .int h0_number, .int h0_sign, .int h0_fault, .int h0_place, .long h0_word, .int h0_told, .ref h0_now, .ref h0_read, .ref h0_kept, .ref h0_snaps, .ref h0_aside, .ref h0_name, .ref h0_readName, .ref h0_keptName, .ref h0_isKept, .ref h0_onces, .int h0_snapMany, .int h0_lowest, .int h0_highest, .int h0_agreed, .int h0_jurors, .int h0_panelled, .ref h0_inSets, .int h0_surely, .int h0_asked, .ref h0_frees, .int h0_struck, .int h0_beating, .ref h0_text, .int h0_texts, .int h0_seed, .ref h0_line, .ref h0_written, .int h0_lineMany, .int h0_hasWritten, .ref h0_node, .int h0_nodes, .int h0_onesMany, .int h0_within, .int h0_top])), (aI ca h0_now 376 g_231)] := hD
        refine lv_iconst (v := 0) hx hb dX12_startSo_37 (by decide) ?_
        refine lv_istore_n (lv' := [(1, .int 0), (0, .ref h0)]) hx hb dX12_startSo_38 rfl hl (by decide) rfl (fun ls hl => ?_)
        exact J39_164 6 0 g_231 trivial (⟨by decide, by decide⟩ : rg 0 5 (0 : Int32)) s_232 s_233 s_234 s_235 s_236 s_237 (by have q0 := (⟨by decide, by decide⟩ : rg 0 0 (0 : Int32)).1; omega) H locs ls (oPsub hP [0, 1] rfl) (hD.sub [0, 1] (by decide) rfl) hS (lv_sub hl [1, 0] rfl)
      · skip
        have o_238 : rl 1 y3_0 376 := rl_nle c_226
        have h_239 : rg 89 375 y3_0 := rl_x o_238 hy3_0 (⟨by decide, by decide⟩ : rg 376 376 (376 : Int32)) (by decide) (by decide)
        refine lv_aload_n hx hb dX12_startSo_10 rfl (lv_at hl 0 rfl) ?_
        refine va_get (D := D) (ci := 11) (v := .ref h0_now) (C := RX12) (T := TX12) (N := 48) hx hb hts k2 hown hK.1 hP 0 rfl rfl 14 (by decide) k1 (fun _ h9 => h9) rfl dX12_startSo_11 ?_
        refine lv_iload_n hx hb dX12_startSo_14 rfl (lv_at hl 1 rfl) ?_
        refine lv_iconst (v := 0) hx hb dX12_startSo_15 (by decide) ?_
        refine va_iast hx hb hK.1 hP hD hS 1 0 rfl rfl (rg_in h_239 (by decide) (by decide)) dX12_startSo_16 (fun H locs hP hD hS => ?_)
        obtain ⟨g_240, eg_240⟩ : ∃ y : Nat → Int32, y = upd f3_1 (y3_0 : Int32).toNatClampNeg (0 : Int32) := ⟨_, rfl⟩
        rw [← eg_240] at hP hD
        have s_241 : sg 0 1 0 10 g_240 := sg_out s3_2 eg_240 h_239 (by decide) (by decide)
        have s_242 : sg 1 2 0 4 g_240 := sg_out s3_3 eg_240 h_239 (by decide) (by decide)
        have s_243 : sg 2 3 0 5 g_240 := sg_out s3_4 eg_240 h_239 (by decide) (by decide)
        have s_244 : sg 35 36 0 1023 g_240 := sg_out s3_5 eg_240 h_239 (by decide) (by decide)
        have s_245 : sg 44 49 0 3 g_240 := sg_out s3_6 eg_240 h_239 (by decide) (by decide)
        have s_246 : sg 90 91 0 1023 g_240 := sg_val s3_7 eg_240 (⟨by decide, by decide⟩ : rg 0 1023 (0 : Int32))
        have hP : va_P D vwCl [(h0, .inr (11, [.int h0_thrown, .ref h0_tape, .int h0_taped, .int h0_size, .int h0_limit, .int h0_to, .int h0_from, .int h0_kind, .int h0_number, .int h0_sign, .int h0_fault, .int h0_place, .long h0_word, .int h0_told, .ref h0_now, .ref h0_read, .ref h0_kept, .ref h0_snaps, .ref h0_aside, .ref h0_name, .ref h0_readName, .ref h0_keptName, .ref h0_isKept, .ref h0_onces, .int h0_snapMany, .int h0_lowest, .int h0_highest, .int h0_agreed, .int h0_jurors, .int h0_panelled, .ref h0_inSets, .int h0_surely, .int h0_asked, .ref h0_frees, .int h0_struck, .int h0_beating, .ref h0_text, .int h0_texts, .int h0_seed, .ref h0_line, .ref h0_written, .int h0_lineMany, .int h0_hasWritten, .ref h0_node, .int h0_nodes, .int h0_onesMany, .int h0_within, .int h0_top])), (aI ca h0_now 376 g_240)] H := hP
        have hD : va_D A [(h0, .inr (11, [.int h0_thrown, .ref h0_tape, .int h0_taped, .int h0_size, .int h0_limit, .int h0_to, .int h0_from, .int h0_kind, .int h0_number, .int h0_sign, .int h0_fault, .int h0_place, .long h0_word, .int h0_told, .ref h0_now, .ref h0_read, .ref h0_kept, .ref h0_snaps, .ref h0_aside, .ref h0_name, .ref h0_readName, .ref h0_keptName, .ref h0_isKept, .ref h0_onces, .int h0_snapMany, .int h0_lowest, .int h0_highest, .int h0_agreed, .int h0_jurors, .int h0_panelled, .ref h0_inSets, .int h0_surely, .int h0_asked, .ref h0_frees, .int h0_struck, .int h0_beating, .ref h0_text, .int h0_texts, .int h0_seed, .ref h0_line, .ref h0_written, .int h0_lineMany, .int h0_hasWritten, .ref h0_node, .int h0_nodes, .int h0_onesMany, .int h0_within, .int h0_top])), (aI ca h0_now 376 g_240)] := hD
        obtain ⟨x_247, ex_247⟩ : ∃ y : Int32, y = y3_0 + 1 := ⟨_, rfl⟩
        have h_248 : rg 90 376 x_247 := by rw [ex_247]; exact rg_add h_239 (⟨by decide, by decide⟩ : rg 1 1 (1 : Int32)) (by decide) (by decide) (by decide) (by decide)
        have l_249 : lq x_247.toInt (y3_0.toInt + 1) := lqm (by rw [ex_247]; have q := tadd h_239 (⟨by decide, by decide⟩ : rg 1 1 (1 : Int32)) (by decide) (by decide); have r1 := lqe (lqm (by decide) : lq (1 : Int32).toInt 1); omega)
        refine lv_iinc (v := x_247) (lv' := [(1, .int x_247), (0, .ref h0)]) hx hb dX12_startSo_17 hl (k := 1) rfl (by rw [ex_247]; rfl) (by decide) rfl (fun ls hl => ?_)
        refine lv_goto (tgt := 3) hx hb dX12_startSo_20 (by decide) ?_
        exact ih x_247 g_240 trivial (rgw (lo := 89) (hi := 376) h_248 (by decide) (by decide)) s_241 s_242 s_243 s_244 s_245 s_246 (by have q0 := lqe l_249; omega) H locs ls (oPsub hP [0, 1] rfl) (hD.sub [0, 1] (by decide) rfl) hS (lv_sub hl [1, 0] rfl)
  refine lv_bipush (v := 89) hx hb dX12_startSo_0 (by decide) ?_
  refine lv_istore_n (lv' := [(1, .int 89), (0, .ref h0)]) hx hb dX12_startSo_2 rfl hl (by decide) rfl (fun ls hl => ?_)
  exact J3_201 288 89 F_h0_now trivial (⟨by decide, by decide⟩ : rg 89 376 (89 : Int32)) s_h0_now_0 s_h0_now_1 s_h0_now_2 s_h0_now_3 s_h0_now_4 s_h0_now_5 (by have q0 := (⟨by decide, by decide⟩ : rg 89 89 (89 : Int32)).1; omega) H locs ls (oPsub hP [0, 1] rfl) (hD.sub [0, 1] (by decide) rfl) hS (lv_sub hl [1, 0] rfl)
theorem dX12_court_0 : decode cX12_court 0 = .ok (.aload_n 0, 1) := by decide +kernel
theorem dX12_court_1 : decode cX12_court 1 = .ok (.sipush 900, 3) := by decide +kernel
theorem dX12_court_4 : decode cX12_court 4 = .ok (.invokevirtual 218, 3) := by decide +kernel
theorem dX12_court_7 : decode cX12_court 7 = .ok (.aload_n 0, 1) := by decide +kernel
theorem dX12_court_8 : decode cX12_court 8 = .ok (.invokevirtual 169, 3) := by decide +kernel
theorem dX12_court_11 : decode cX12_court 11 = .ok (.iconst 0, 1) := by decide +kernel
theorem dX12_court_12 : decode cX12_court 12 = .ok (.istore_n 1, 1) := by decide +kernel
theorem dX12_court_13 : decode cX12_court 13 = .ok (.aload_n 0, 1) := by decide +kernel
theorem dX12_court_14 : decode cX12_court 14 = .ok (.getfield 30, 3) := by decide +kernel
theorem dX12_court_17 : decode cX12_court 17 = .ok (.ifCond .eq 30, 3) := by decide +kernel
theorem dX12_court_20 : decode cX12_court 20 = .ok (.aload_n 0, 1) := by decide +kernel
theorem dX12_court_21 : decode cX12_court 21 = .ok (.invokevirtual 221, 3) := by decide +kernel
theorem dX12_court_47 : decode cX12_court 47 = .ok (.iconst 0, 1) := by decide +kernel
theorem dX12_court_48 : decode cX12_court 48 = .ok (.istore_n 2, 1) := by decide +kernel
theorem dX12_fault_0 : decode cX12_fault 0 = .ok (.aload_n 0, 1) := by decide +kernel
theorem dX12_fault_1 : decode cX12_fault 1 = .ok (.iconst 0, 1) := by decide +kernel
theorem dX12_fault_2 : decode cX12_fault 2 = .ok (.putfield 1, 3) := by decide +kernel
theorem dX12_fault_5 : decode cX12_fault 5 = .ok (.aload_n 0, 1) := by decide +kernel
theorem dX12_fault_6 : decode cX12_fault 6 = .ok (.getfield 66, 3) := by decide +kernel
theorem dX12_fault_9 : decode cX12_fault 9 = .ok (.ireturn, 1) := by decide +kernel
set_option maxRecDepth 20000 in
theorem ggX12_court_X12_begin : GoodIn wsX12_court wsX12_begin := goodIn_r _ [12, 13, 14, 15, 16, 17, 18, 19, 20, 11, 21, 22, 23, 24, 25, 26, 27, 28, 1, 29, 30, 31, 32, 33, 34, 35, 36, 37, 38, 39, 40, 41, 42, 43, 130, 131, 132, 133, 134, 135, 136, 137, 138, 139, 140, 141, 142, 143, 144, 145, 146, 147, 148, 149, 150, 151, 152, 153, 154, 155, 156, 157, 158, 159, 160, 161, 162, 163, 164, 165, 166, 167, 168, 169, 170, 171, 172, 173, 174, 175, 176, 177] rfl (by decide +kernel)
set_option maxRecDepth 20000 in
theorem gX12_court_X12_begin : GoodIn wsX12_court (wsV RX12 218 RX12 yX12_begin wsX12_begin) := goodIn_app (goodIn_of _ (by decide +kernel)) ggX12_court_X12_begin
set_option maxRecDepth 20000 in
theorem ggX12_court_X12_startRead : GoodIn wsX12_court wsX12_startRead := goodIn_r _ [47, 4, 48, 130, 131, 132, 133, 134, 135, 136, 137, 138, 139, 140, 141, 142, 143, 144, 145, 146, 147, 148, 149, 150, 151, 152, 153, 154, 155, 156, 157, 158, 159, 160, 161, 162, 163, 164, 165, 166, 167, 168, 169, 170, 171, 172, 173, 174, 175, 176, 177] rfl (by decide +kernel)
set_option maxRecDepth 20000 in
theorem gX12_court_X12_startRead : GoodIn wsX12_court (wsV RX12 169 RX12 yX12_startRead wsX12_startRead) := goodIn_app (goodIn_of _ (by decide +kernel)) ggX12_court_X12_startRead
set_option maxHeartbeats 4000000 in
set_option maxRecDepth 100000 in
theorem s_X12_fault (l : Launch) (D : va_G) (ca : Nat → ClassId) (sz : Nat) (h0 : Nat) (h0_thrown : Int32) (h0_tape : Nat) (h0_taped : Int32) (h0_size : Int32) (h0_limit : Int32) (h0_to : Int32) (h0_from : Int32) (h0_kind : Int32) (h0_number : Int32) (h0_sign : Int32) (h0_fault : Int32) (h0_place : Int32) (h0_word : Int64) (h0_told : Int32) (h0_now : Nat) (h0_read : Nat) (h0_kept : Nat) (h0_snaps : Nat) (h0_aside : Nat) (h0_name : Nat) (h0_readName : Nat) (h0_keptName : Nat) (h0_isKept : Nat) (h0_onces : Nat) (h0_snapMany : Int32) (h0_lowest : Int32) (h0_highest : Int32) (h0_agreed : Int32) (h0_jurors : Int32) (h0_panelled : Int32) (h0_inSets : Nat) (h0_surely : Int32) (h0_asked : Int32) (h0_frees : Nat) (h0_struck : Int32) (h0_beating : Int32) (h0_text : Nat) (h0_texts : Int32) (h0_seed : Int32) (h0_line : Nat) (h0_written : Nat) (h0_lineMany : Int32) (h0_hasWritten : Int32) (h0_node : Nat) (h0_nodes : Int32) (h0_onesMany : Int32) (h0_within : Int32) (h0_top : Int32) (i_h0_taped : rg 0 940 h0_taped) (i_h0_size : rg 0 940 h0_size) (i_h0_to : rg 0 940 h0_to) (i_h0_snapMany : rg 0 8 h0_snapMany) (i_h0_texts : rg 0 64 h0_texts) (i_h0_lineMany : rg 0 40 h0_lineMany) (i_h0_hasWritten : rg 0 1 h0_hasWritten) : oMet l yX12_fault wsX12_fault ({ frames := 0, cells := 0, slots := 0, locals := 0 } : Room) [.ref h0] D ca sz [(h0, .inr (11, [.int h0_thrown, .ref h0_tape, .int h0_taped, .int h0_size, .int h0_limit, .int h0_to, .int h0_from, .int h0_kind, .int h0_number, .int h0_sign, .int h0_fault, .int h0_place, .long h0_word, .int h0_told, .ref h0_now, .ref h0_read, .ref h0_kept, .ref h0_snaps, .ref h0_aside, .ref h0_name, .ref h0_readName, .ref h0_keptName, .ref h0_isKept, .ref h0_onces, .int h0_snapMany, .int h0_lowest, .int h0_highest, .int h0_agreed, .int h0_jurors, .int h0_panelled, .ref h0_inSets, .int h0_surely, .int h0_asked, .ref h0_frees, .int h0_struck, .int h0_beating, .ref h0_text, .int h0_texts, .int h0_seed, .ref h0_line, .ref h0_written, .int h0_lineMany, .int h0_hasWritten, .ref h0_node, .int h0_nodes, .int h0_onesMany, .int h0_within, .int h0_top]))] (oQi D (fun (r : Int32) (u : Unit) => (r = h0_fault)) (fun (u : Unit) => [(h0, .inr (11, [.int 0, .ref h0_tape, .int h0_taped, .int h0_size, .int h0_limit, .int h0_to, .int h0_from, .int h0_kind, .int h0_number, .int h0_sign, .int h0_fault, .int h0_place, .long h0_word, .int h0_told, .ref h0_now, .ref h0_read, .ref h0_kept, .ref h0_snaps, .ref h0_aside, .ref h0_name, .ref h0_readName, .ref h0_keptName, .ref h0_isKept, .ref h0_onces, .int h0_snapMany, .int h0_lowest, .int h0_highest, .int h0_agreed, .int h0_jurors, .int h0_panelled, .ref h0_inSets, .int h0_surely, .int h0_asked, .ref h0_frees, .int h0_struck, .int h0_beating, .ref h0_text, .int h0_texts, .int h0_seed, .ref h0_line, .ref h0_written, .int h0_lineMany, .int h0_hasWritten, .ref h0_node, .int h0_nodes, .int h0_onesMany, .int h0_within, .int h0_top]))])) 0 0 := by
  refine oM (cc := cX12_fault) (maxL := 1) (ret := (some .int)) (by decide) rfl (Nat.le_of_ble_eq_true rfl) [(0, .ref h0)] rfl ?_
  intro p e s m below meth c A H locs ls hx hb hr hml hts hown hlocks hin hK hP hD hA hS hl
  have hown : s.vm.findClass RX12 = some m.cls := hown
  have k1 := hts (.fieldLink RX12 1 "LidCourtModel" "thrown" "I") (by decide +kernel)
  have k2 : ∀ w ∈ wsX120, w ∈ wsX12_fault := fun _ h => List.mem_cons_of_mem _ (List.mem_append_right _ h)
  have k3 := hts (.fieldLink RX12 66 "LidCourtModel" "fault" "I") (by decide +kernel)
  refine lv_aload_n hx hb dX12_fault_0 rfl (lv_at hl 0 rfl) ?_
  refine lv_iconst (v := 0) hx hb dX12_fault_1 (by decide) ?_
  refine va_put (D := D) (ci := 11) (v := .int 0) (ty := .int) (C := RX12) (T := TX12) (N := 48) hx hb hts k2 tyX12 tyX12_ok nmX12 hown hK.1 hP hD hS 0 rfl rfl 0 (by decide) k1 (fun _ h9 => h9) rfl (by decide +kernel) rfl rfl (Nat.le_of_ble_eq_true rfl) dX12_fault_2 (fun H locs hP hD hS => ?_)
  have hP : va_P D vwCl [(h0, .inr (11, [.int 0, .ref h0_tape, .int h0_taped, .int h0_size, .int h0_limit, .int h0_to, .int h0_from, .int h0_kind, .int h0_number, .int h0_sign, .int h0_fault, .int h0_place, .long h0_word, .int h0_told, .ref h0_now, .ref h0_read, .ref h0_kept, .ref h0_snaps, .ref h0_aside, .ref h0_name, .ref h0_readName, .ref h0_keptName, .ref h0_isKept, .ref h0_onces, .int h0_snapMany, .int h0_lowest, .int h0_highest, .int h0_agreed, .int h0_jurors, .int h0_panelled, .ref h0_inSets, .int h0_surely, .int h0_asked, .ref h0_frees, .int h0_struck, .int h0_beating, .ref h0_text, .int h0_texts, .int h0_seed, .ref h0_line, .ref h0_written, .int h0_lineMany, .int h0_hasWritten, .ref h0_node, .int h0_nodes, .int h0_onesMany, .int h0_within, .int h0_top]))] H := hP
  have hD : va_D A [(h0, .inr (11, [.int 0, .ref h0_tape, .int h0_taped, .int h0_size, .int h0_limit, .int h0_to, .int h0_from, .int h0_kind, .int h0_number, .int h0_sign, .int h0_fault, .int h0_place, .long h0_word, .int h0_told, .ref h0_now, .ref h0_read, .ref h0_kept, .ref h0_snaps, .ref h0_aside, .ref h0_name, .ref h0_readName, .ref h0_keptName, .ref h0_isKept, .ref h0_onces, .int h0_snapMany, .int h0_lowest, .int h0_highest, .int h0_agreed, .int h0_jurors, .int h0_panelled, .ref h0_inSets, .int h0_surely, .int h0_asked, .ref h0_frees, .int h0_struck, .int h0_beating, .ref h0_text, .int h0_texts, .int h0_seed, .ref h0_line, .ref h0_written, .int h0_lineMany, .int h0_hasWritten, .ref h0_node, .int h0_nodes, .int h0_onesMany, .int h0_within, .int h0_top]))] := hD
  refine lv_aload_n hx hb dX12_fault_5 rfl (lv_at hl 0 rfl) ?_
  refine va_get (D := D) (ci := 11) (v := .int h0_fault) (C := RX12) (T := TX12) (N := 48) hx hb hts k2 hown hK.1 hP 0 rfl rfl 10 (by decide) k3 (fun _ h9 => h9) rfl dX12_fault_6 ?_
  exact oE_i hx hb hr rfl hlocks hP hD hS () [0] rfl (by decide) rfl (Nat.le_of_ble_eq_true rfl) (Nat.le_of_ble_eq_true rfl) dX12_fault_9
theorem dX12_isJuror_0 : decode cX12_isJuror 0 = .ok (.iload_n 1, 1) := by decide +kernel
theorem dX12_isJuror_1 : decode cX12_isJuror 1 = .ok (.iconst 0, 1) := by decide +kernel
theorem dX12_isJuror_2 : decode cX12_isJuror 2 = .ok (.aload_n 0, 1) := by decide +kernel
theorem dX12_isJuror_3 : decode cX12_isJuror 3 = .ok (.getfield 98, 3) := by decide +kernel
theorem dX12_isJuror_6 : decode cX12_isJuror 6 = .ok (.iconst 0, 1) := by decide +kernel
theorem dX12_isJuror_7 : decode cX12_isJuror 7 = .ok (.iaload, 1) := by decide +kernel
theorem dX12_isJuror_8 : decode cX12_isJuror 8 = .ok (.iconst 1, 1) := by decide +kernel
theorem dX12_isJuror_9 : decode cX12_isJuror 9 = .ok (.isub, 1) := by decide +kernel
theorem dX12_isJuror_10 : decode cX12_isJuror 10 = .ok (.invokestatic 75, 3) := by decide +kernel
theorem dX12_isJuror_13 : decode cX12_isJuror 13 = .ok (.ireturn, 1) := by decide +kernel
set_option maxRecDepth 20000 in
theorem ggX12_isJuror_X12_isIn : GoodIn wsX12_isJuror wsX12_isIn := goodIn_r _ [5] rfl (by decide +kernel)
set_option maxRecDepth 20000 in
theorem gX12_isJuror_X12_isIn : GoodIn wsX12_isJuror (va_wsS RX12 75 yX12_isIn wsX12_isIn) := goodIn_app (goodIn_of _ (by decide +kernel)) ggX12_isJuror_X12_isIn
set_option maxHeartbeats 4000000 in
set_option maxRecDepth 100000 in
theorem s_X12_isJuror (l : Launch) (D : va_G) (ca : Nat → ClassId) (sz : Nat) (h0 : Nat) (a1 : Int32) (h0_thrown : Int32) (h0_tape : Nat) (h0_taped : Int32) (h0_size : Int32) (h0_limit : Int32) (h0_to : Int32) (h0_from : Int32) (h0_kind : Int32) (h0_number : Int32) (h0_sign : Int32) (h0_fault : Int32) (h0_place : Int32) (h0_word : Int64) (h0_told : Int32) (h0_now : Nat) (h0_read : Nat) (h0_kept : Nat) (h0_snaps : Nat) (h0_aside : Nat) (h0_name : Nat) (h0_readName : Nat) (h0_keptName : Nat) (h0_isKept : Nat) (h0_onces : Nat) (h0_snapMany : Int32) (h0_lowest : Int32) (h0_highest : Int32) (h0_agreed : Int32) (h0_jurors : Int32) (h0_panelled : Int32) (h0_inSets : Nat) (h0_surely : Int32) (h0_asked : Int32) (h0_frees : Nat) (h0_struck : Int32) (h0_beating : Int32) (h0_text : Nat) (h0_texts : Int32) (h0_seed : Int32) (h0_line : Nat) (h0_written : Nat) (h0_lineMany : Int32) (h0_hasWritten : Int32) (h0_node : Nat) (h0_nodes : Int32) (h0_onesMany : Int32) (h0_within : Int32) (h0_top : Int32) (F_h0_now : Nat → Int32) (i_h0_taped : rg 0 940 h0_taped) (i_h0_size : rg 0 940 h0_size) (i_h0_to : rg 0 940 h0_to) (i_h0_snapMany : rg 0 8 h0_snapMany) (i_h0_texts : rg 0 64 h0_texts) (i_h0_lineMany : rg 0 40 h0_lineMany) (i_h0_hasWritten : rg 0 1 h0_hasWritten) (s_h0_now_0 : sg 0 1 0 10 F_h0_now) (s_h0_now_1 : sg 1 2 0 4 F_h0_now) (s_h0_now_2 : sg 2 3 0 5 F_h0_now) (s_h0_now_3 : sg 35 36 0 1023 F_h0_now) (s_h0_now_4 : sg 44 49 0 3 F_h0_now) (s_h0_now_5 : sg 90 91 0 1023 F_h0_now) : oMet l yX12_isJuror wsX12_isJuror ({ frames := 1, cells := 0, slots := 0, locals := 22 } : Room) [.ref h0, .int a1] D ca sz [(h0, .inr (11, [.int h0_thrown, .ref h0_tape, .int h0_taped, .int h0_size, .int h0_limit, .int h0_to, .int h0_from, .int h0_kind, .int h0_number, .int h0_sign, .int h0_fault, .int h0_place, .long h0_word, .int h0_told, .ref h0_now, .ref h0_read, .ref h0_kept, .ref h0_snaps, .ref h0_aside, .ref h0_name, .ref h0_readName, .ref h0_keptName, .ref h0_isKept, .ref h0_onces, .int h0_snapMany, .int h0_lowest, .int h0_highest, .int h0_agreed, .int h0_jurors, .int h0_panelled, .ref h0_inSets, .int h0_surely, .int h0_asked, .ref h0_frees, .int h0_struck, .int h0_beating, .ref h0_text, .int h0_texts, .int h0_seed, .ref h0_line, .ref h0_written, .int h0_lineMany, .int h0_hasWritten, .ref h0_node, .int h0_nodes, .int h0_onesMany, .int h0_within, .int h0_top])), (aI ca h0_now 376 F_h0_now)] (oQi D (fun (r : Int32) (u : Unit) => ((r = 0)) ∨ ((r = 1) ∧ (rg 0 9 a1))) (fun (u : Unit) => [(h0, .inr (11, [.int h0_thrown, .ref h0_tape, .int h0_taped, .int h0_size, .int h0_limit, .int h0_to, .int h0_from, .int h0_kind, .int h0_number, .int h0_sign, .int h0_fault, .int h0_place, .long h0_word, .int h0_told, .ref h0_now, .ref h0_read, .ref h0_kept, .ref h0_snaps, .ref h0_aside, .ref h0_name, .ref h0_readName, .ref h0_keptName, .ref h0_isKept, .ref h0_onces, .int h0_snapMany, .int h0_lowest, .int h0_highest, .int h0_agreed, .int h0_jurors, .int h0_panelled, .ref h0_inSets, .int h0_surely, .int h0_asked, .ref h0_frees, .int h0_struck, .int h0_beating, .ref h0_text, .int h0_texts, .int h0_seed, .ref h0_line, .ref h0_written, .int h0_lineMany, .int h0_hasWritten, .ref h0_node, .int h0_nodes, .int h0_onesMany, .int h0_within, .int h0_top])), (aI ca h0_now 376 F_h0_now)])) 0 0 := by
  refine oM (cc := cX12_isJuror) (maxL := 2) (ret := (some .boolean)) (by decide) rfl (Nat.le_of_ble_eq_true rfl) [(0, .ref h0), (1, .int a1)] rfl ?_
  intro p e s m below meth c A H locs ls hx hb hr hml hts hown hlocks hin hK hP hD hA hS hl
  have hown : s.vm.findClass RX12 = some m.cls := hown
  have k1 := hts (.fieldLink RX12 98 "LidCourtModel" "now" "[I") (by decide +kernel)
  have k2 : ∀ w ∈ wsX120, w ∈ wsX12_isJuror := fun _ h => List.mem_cons_of_mem _ (List.mem_append_right _ h)
  refine lv_iload_n hx hb dX12_isJuror_0 rfl (lv_at hl 1 rfl) ?_
  refine lv_iconst (v := 0) hx hb dX12_isJuror_1 (by decide) ?_
  refine lv_aload_n hx hb dX12_isJuror_2 rfl (lv_at hl 0 rfl) ?_
  refine va_get (D := D) (ci := 11) (v := .ref h0_now) (C := RX12) (T := TX12) (N := 48) hx hb hts k2 hown hK.1 hP 0 rfl rfl 14 (by decide) k1 (fun _ h9 => h9) rfl dX12_isJuror_3 ?_
  refine lv_iconst (v := 0) hx hb dX12_isJuror_6 (by decide) ?_
  refine va_iald hx hb hK.1 hP 1 0 rfl rfl (rg_in (⟨by decide, by decide⟩ : rg 0 0 (0 : Int32)) (by decide) (by decide)) dX12_isJuror_7 ?_
  refine lv_topi (fun x_16 ex_16 => ?_)
  have h_17 : rg 0 10 x_16 := by rw [ex_16]; exact sg_at s_h0_now_0 (⟨by decide, by decide⟩ : rg 0 0 (0 : Int32)) (by decide) (by decide) (by decide)
  refine lv_iconst (v := 1) hx hb dX12_isJuror_8 (by decide) ?_
  refine lv_isub hx hb dX12_isJuror_9 ?_
  refine lv_topi (fun x_18 ex_18 => ?_)
  have h_19 : rg (-1) 9 x_18 := by rw [ex_18]; exact rg_sub h_17 (⟨by decide, by decide⟩ : rg 1 1 (1 : Int32)) (by decide) (by decide) (by decide) (by decide)
  have l_20 : lq x_18.toInt (x_16.toInt + (-1)) := lqm (by rw [ex_18]; have q := tsub h_17 (⟨by decide, by decide⟩ : rg 1 1 (1 : Int32)) (by decide) (by decide); have r1 := lqe (lqm (by decide) : lq (1 : Int32).toInt 1); omega)
  refine oC_i (Wc := []) (Wr := [(h0, .inr (11, [.int h0_thrown, .ref h0_tape, .int h0_taped, .int h0_size, .int h0_limit, .int h0_to, .int h0_from, .int h0_kind, .int h0_number, .int h0_sign, .int h0_fault, .int h0_place, .long h0_word, .int h0_told, .ref h0_now, .ref h0_read, .ref h0_kept, .ref h0_snaps, .ref h0_aside, .ref h0_name, .ref h0_readName, .ref h0_keptName, .ref h0_isKept, .ref h0_onces, .int h0_snapMany, .int h0_lowest, .int h0_highest, .int h0_agreed, .int h0_jurors, .int h0_panelled, .ref h0_inSets, .int h0_surely, .int h0_asked, .ref h0_frees, .int h0_struck, .int h0_beating, .ref h0_text, .int h0_texts, .int h0_seed, .ref h0_line, .ref h0_written, .int h0_lineMany, .int h0_hasWritten, .ref h0_node, .int h0_nodes, .int h0_onesMany, .int h0_within, .int h0_top])), (aI ca h0_now 376 F_h0_now)]) (va_runS (As := [.int a1, .int 0, .int x_18]) (rest := []) ⟨hx, hb, hml, hown, hts⟩ (s_X12_isIn l D ca H.size a1 0 x_18) (va_cwS 3 hts gX12_isJuror_X12_isIn rfl rfl rfl (by decide +kernel) ⟨Nat.le_of_ble_eq_true rfl, Nat.le_of_ble_eq_true rfl⟩) (oPS hK hP hD [] rfl (by decide)) rfl rfl hl.1 rfl (lv_room (Nat.le_of_ble_eq_true rfl)) dX12_isJuror_10 ⟨Nat.le_of_ble_eq_true rfl, Nat.le_of_ble_eq_true rfl⟩) hP hD hS hA [] [0, 1] rfl rfl (by decide) (by decide) (fun r_21 u H locs w_22 hP hD hS => ?_)
  obtain ⟨⟩ := u
  have hP : va_P D vwCl [(h0, .inr (11, [.int h0_thrown, .ref h0_tape, .int h0_taped, .int h0_size, .int h0_limit, .int h0_to, .int h0_from, .int h0_kind, .int h0_number, .int h0_sign, .int h0_fault, .int h0_place, .long h0_word, .int h0_told, .ref h0_now, .ref h0_read, .ref h0_kept, .ref h0_snaps, .ref h0_aside, .ref h0_name, .ref h0_readName, .ref h0_keptName, .ref h0_isKept, .ref h0_onces, .int h0_snapMany, .int h0_lowest, .int h0_highest, .int h0_agreed, .int h0_jurors, .int h0_panelled, .ref h0_inSets, .int h0_surely, .int h0_asked, .ref h0_frees, .int h0_struck, .int h0_beating, .ref h0_text, .int h0_texts, .int h0_seed, .ref h0_line, .ref h0_written, .int h0_lineMany, .int h0_hasWritten, .ref h0_node, .int h0_nodes, .int h0_onesMany, .int h0_within, .int h0_top])), (aI ca h0_now 376 F_h0_now)] H := hP
  have hD : va_D A [(h0, .inr (11, [.int h0_thrown, .ref h0_tape, .int h0_taped, .int h0_size, .int h0_limit, .int h0_to, .int h0_from, .int h0_kind, .int h0_number, .int h0_sign, .int h0_fault, .int h0_place, .long h0_word, .int h0_told, .ref h0_now, .ref h0_read, .ref h0_kept, .ref h0_snaps, .ref h0_aside, .ref h0_name, .ref h0_readName, .ref h0_keptName, .ref h0_isKept, .ref h0_onces, .int h0_snapMany, .int h0_lowest, .int h0_highest, .int h0_agreed, .int h0_jurors, .int h0_panelled, .ref h0_inSets, .int h0_surely, .int h0_asked, .ref h0_frees, .int h0_struck, .int h0_beating, .ref h0_text, .int h0_texts, .int h0_seed, .ref h0_line, .ref h0_written, .int h0_lineMany, .int h0_hasWritten, .ref h0_node, .int h0_nodes, .int h0_onesMany, .int h0_within, .int h0_top])), (aI ca h0_now 376 F_h0_now)] := hD
  try dsimp only at w_22
  rcases w_22 with h_23 | ⟨h_24, h_25, h_26⟩
  · skip
    subst h_23
    exact oE_i hx hb hr (by decide) hlocks hP hD hS () [0, 1] rfl (by decide) (Or.inl rfl) (Nat.le_of_ble_eq_true rfl) (Nat.le_of_ble_eq_true rfl) dX12_isJuror_13
  · skip
    subst h_24
    have h_27 : rg 0 2147483647 a1 := rl_y h_25 (⟨by decide, by decide⟩ : rg 0 0 (0 : Int32)) (rga a1) (by decide) (by decide)
    have h_28 : rg 0 9 a1 := rl_x h_26 h_27 h_19 (by decide) (by decide)
    have h_29 : rg 0 9 x_18 := rl_y h_26 h_27 h_19 (by decide) (by decide)
    have h_30 : rg 1 10 x_16 := ⟨by have q := lqe l_20; have q1 := (h_29).1; have q2 := (h_17).1; omega, by have q := lqe l_20; have q1 := (h_29).2; have q2 := (h_17).2; omega⟩
    exact oE_i hx hb hr (by decide) hlocks hP hD hS () [0, 1] rfl (by decide) (Or.inr (⟨rfl, h_28⟩)) (Nat.le_of_ble_eq_true rfl) (Nat.le_of_ble_eq_true rfl) dX12_isJuror_13
theorem dX12_refuse_0 : decode cX12_refuse 0 = .ok (.aload_n 0, 1) := by decide +kernel
theorem dX12_refuse_1 : decode cX12_refuse 1 = .ok (.iconst 1, 1) := by decide +kernel
theorem dX12_refuse_2 : decode cX12_refuse 2 = .ok (.putfield 1, 3) := by decide +kernel
theorem dX12_refuse_5 : decode cX12_refuse 5 = .ok (.iconst 0, 1) := by decide +kernel
theorem dX12_refuse_6 : decode cX12_refuse 6 = .ok (.ireturn, 1) := by decide +kernel
set_option maxHeartbeats 4000000 in
set_option maxRecDepth 100000 in
theorem s_X12_refuse (l : Launch) (D : va_G) (ca : Nat → ClassId) (sz : Nat) (h0 : Nat) (h0_thrown : Int32) (h0_tape : Nat) (h0_taped : Int32) (h0_size : Int32) (h0_limit : Int32) (h0_to : Int32) (h0_from : Int32) (h0_kind : Int32) (h0_number : Int32) (h0_sign : Int32) (h0_fault : Int32) (h0_place : Int32) (h0_word : Int64) (h0_told : Int32) (h0_now : Nat) (h0_read : Nat) (h0_kept : Nat) (h0_snaps : Nat) (h0_aside : Nat) (h0_name : Nat) (h0_readName : Nat) (h0_keptName : Nat) (h0_isKept : Nat) (h0_onces : Nat) (h0_snapMany : Int32) (h0_lowest : Int32) (h0_highest : Int32) (h0_agreed : Int32) (h0_jurors : Int32) (h0_panelled : Int32) (h0_inSets : Nat) (h0_surely : Int32) (h0_asked : Int32) (h0_frees : Nat) (h0_struck : Int32) (h0_beating : Int32) (h0_text : Nat) (h0_texts : Int32) (h0_seed : Int32) (h0_line : Nat) (h0_written : Nat) (h0_lineMany : Int32) (h0_hasWritten : Int32) (h0_node : Nat) (h0_nodes : Int32) (h0_onesMany : Int32) (h0_within : Int32) (h0_top : Int32) (i_h0_taped : rg 0 940 h0_taped) (i_h0_size : rg 0 940 h0_size) (i_h0_to : rg 0 940 h0_to) (i_h0_snapMany : rg 0 8 h0_snapMany) (i_h0_texts : rg 0 64 h0_texts) (i_h0_lineMany : rg 0 40 h0_lineMany) (i_h0_hasWritten : rg 0 1 h0_hasWritten) : oMet l yX12_refuse wsX12_refuse ({ frames := 0, cells := 0, slots := 0, locals := 0 } : Room) [.ref h0] D ca sz [(h0, .inr (11, [.int h0_thrown, .ref h0_tape, .int h0_taped, .int h0_size, .int h0_limit, .int h0_to, .int h0_from, .int h0_kind, .int h0_number, .int h0_sign, .int h0_fault, .int h0_place, .long h0_word, .int h0_told, .ref h0_now, .ref h0_read, .ref h0_kept, .ref h0_snaps, .ref h0_aside, .ref h0_name, .ref h0_readName, .ref h0_keptName, .ref h0_isKept, .ref h0_onces, .int h0_snapMany, .int h0_lowest, .int h0_highest, .int h0_agreed, .int h0_jurors, .int h0_panelled, .ref h0_inSets, .int h0_surely, .int h0_asked, .ref h0_frees, .int h0_struck, .int h0_beating, .ref h0_text, .int h0_texts, .int h0_seed, .ref h0_line, .ref h0_written, .int h0_lineMany, .int h0_hasWritten, .ref h0_node, .int h0_nodes, .int h0_onesMany, .int h0_within, .int h0_top]))] (oQi D (fun (r : Int32) (u : Unit) => (r = 0)) (fun (u : Unit) => [(h0, .inr (11, [.int 1, .ref h0_tape, .int h0_taped, .int h0_size, .int h0_limit, .int h0_to, .int h0_from, .int h0_kind, .int h0_number, .int h0_sign, .int h0_fault, .int h0_place, .long h0_word, .int h0_told, .ref h0_now, .ref h0_read, .ref h0_kept, .ref h0_snaps, .ref h0_aside, .ref h0_name, .ref h0_readName, .ref h0_keptName, .ref h0_isKept, .ref h0_onces, .int h0_snapMany, .int h0_lowest, .int h0_highest, .int h0_agreed, .int h0_jurors, .int h0_panelled, .ref h0_inSets, .int h0_surely, .int h0_asked, .ref h0_frees, .int h0_struck, .int h0_beating, .ref h0_text, .int h0_texts, .int h0_seed, .ref h0_line, .ref h0_written, .int h0_lineMany, .int h0_hasWritten, .ref h0_node, .int h0_nodes, .int h0_onesMany, .int h0_within, .int h0_top]))])) 0 0 := by
  refine oM (cc := cX12_refuse) (maxL := 1) (ret := (some .int)) (by decide) rfl (Nat.le_of_ble_eq_true rfl) [(0, .ref h0)] rfl ?_
  intro p e s m below meth c A H locs ls hx hb hr hml hts hown hlocks hin hK hP hD hA hS hl
  have hown : s.vm.findClass RX12 = some m.cls := hown
  have k1 := hts (.fieldLink RX12 1 "LidCourtModel" "thrown" "I") (by decide +kernel)
  have k2 : ∀ w ∈ wsX120, w ∈ wsX12_refuse := fun _ h => List.mem_cons_of_mem _ (List.mem_append_right _ h)
  refine lv_aload_n hx hb dX12_refuse_0 rfl (lv_at hl 0 rfl) ?_
  refine lv_iconst (v := 1) hx hb dX12_refuse_1 (by decide) ?_
  refine va_put (D := D) (ci := 11) (v := .int 1) (ty := .int) (C := RX12) (T := TX12) (N := 48) hx hb hts k2 tyX12 tyX12_ok nmX12 hown hK.1 hP hD hS 0 rfl rfl 0 (by decide) k1 (fun _ h9 => h9) rfl (by decide +kernel) rfl rfl (Nat.le_of_ble_eq_true rfl) dX12_refuse_2 (fun H locs hP hD hS => ?_)
  have hP : va_P D vwCl [(h0, .inr (11, [.int 1, .ref h0_tape, .int h0_taped, .int h0_size, .int h0_limit, .int h0_to, .int h0_from, .int h0_kind, .int h0_number, .int h0_sign, .int h0_fault, .int h0_place, .long h0_word, .int h0_told, .ref h0_now, .ref h0_read, .ref h0_kept, .ref h0_snaps, .ref h0_aside, .ref h0_name, .ref h0_readName, .ref h0_keptName, .ref h0_isKept, .ref h0_onces, .int h0_snapMany, .int h0_lowest, .int h0_highest, .int h0_agreed, .int h0_jurors, .int h0_panelled, .ref h0_inSets, .int h0_surely, .int h0_asked, .ref h0_frees, .int h0_struck, .int h0_beating, .ref h0_text, .int h0_texts, .int h0_seed, .ref h0_line, .ref h0_written, .int h0_lineMany, .int h0_hasWritten, .ref h0_node, .int h0_nodes, .int h0_onesMany, .int h0_within, .int h0_top]))] H := hP
  have hD : va_D A [(h0, .inr (11, [.int 1, .ref h0_tape, .int h0_taped, .int h0_size, .int h0_limit, .int h0_to, .int h0_from, .int h0_kind, .int h0_number, .int h0_sign, .int h0_fault, .int h0_place, .long h0_word, .int h0_told, .ref h0_now, .ref h0_read, .ref h0_kept, .ref h0_snaps, .ref h0_aside, .ref h0_name, .ref h0_readName, .ref h0_keptName, .ref h0_isKept, .ref h0_onces, .int h0_snapMany, .int h0_lowest, .int h0_highest, .int h0_agreed, .int h0_jurors, .int h0_panelled, .ref h0_inSets, .int h0_surely, .int h0_asked, .ref h0_frees, .int h0_struck, .int h0_beating, .ref h0_text, .int h0_texts, .int h0_seed, .ref h0_line, .ref h0_written, .int h0_lineMany, .int h0_hasWritten, .ref h0_node, .int h0_nodes, .int h0_onesMany, .int h0_within, .int h0_top]))] := hD
  refine lv_iconst (v := 0) hx hb dX12_refuse_5 (by decide) ?_
  exact oE_i hx hb hr rfl hlocks hP hD hS () [0] rfl (by decide) rfl (Nat.le_of_ble_eq_true rfl) (Nat.le_of_ble_eq_true rfl) dX12_refuse_6
theorem dX12_has_0 : decode cX12_has 0 = .ok (.iload_n 0, 1) := by decide +kernel
theorem dX12_has_1 : decode cX12_has 1 = .ok (.iload_n 1, 1) := by decide +kernel
theorem dX12_has_2 : decode cX12_has 2 = .ok (.ishr, 1) := by decide +kernel
theorem dX12_has_3 : decode cX12_has 3 = .ok (.iconst 1, 1) := by decide +kernel
theorem dX12_has_4 : decode cX12_has 4 = .ok (.iand, 1) := by decide +kernel
theorem dX12_has_5 : decode cX12_has 5 = .ok (.iconst 1, 1) := by decide +kernel
theorem dX12_has_6 : decode cX12_has 6 = .ok (.if_icmp .ne 7, 3) := by decide +kernel
theorem dX12_has_9 : decode cX12_has 9 = .ok (.iconst 1, 1) := by decide +kernel
theorem dX12_has_10 : decode cX12_has 10 = .ok (.goto 4, 3) := by decide +kernel
theorem dX12_has_13 : decode cX12_has 13 = .ok (.iconst 0, 1) := by decide +kernel
theorem dX12_has_14 : decode cX12_has 14 = .ok (.ireturn, 1) := by decide +kernel
set_option maxHeartbeats 4000000 in
set_option maxRecDepth 100000 in
theorem s_X12_has (l : Launch) (D : va_G) (ca : Nat → ClassId) (sz : Nat) (a1 : Int32) (a2 : Int32)  : oMet l yX12_has wsX12_has ({ frames := 0, cells := 0, slots := 0, locals := 0 } : Room) [.int a1, .int a2] D ca sz [] (oQi D (fun (r : Int32) (u : Unit) => ((r = 0)) ∨ ((r = 1))) (fun (u : Unit) => [])) 0 0 := by
  refine oM (cc := cX12_has) (maxL := 2) (ret := (some .boolean)) (by decide) rfl (Nat.le_of_ble_eq_true rfl) [(0, .int a1), (1, .int a2)] rfl ?_
  intro p e s m below meth c A H locs ls hx hb hr hml hts hown hlocks hin hK hP hD hA hS hl
  have hown : s.vm.findClass RX12 = some m.cls := hown
  refine lv_iload_n hx hb dX12_has_0 rfl (lv_at hl 0 rfl) ?_
  refine lv_iload_n hx hb dX12_has_1 rfl (lv_at hl 1 rfl) ?_
  refine lv_ishr hx hb dX12_has_2 ?_
  refine lv_topi (fun x_9 ex_9 => ?_)
  refine lv_iconst (v := 1) hx hb dX12_has_3 (by decide) ?_
  refine lv_iand hx hb dX12_has_4 ?_
  refine lv_topi (fun x_10 ex_10 => ?_)
  have h_11 : rg 0 1 x_10 := by rw [ex_10]; exact rg_and' (⟨by decide, by decide⟩ : rg 1 1 (1 : Int32)) (by decide) (by decide) (by decide)
  refine lv_iconst (v := 1) hx hb dX12_has_5 (by decide) ?_
  refine lv_icmp_ne (tgt := 13) hx hb dX12_has_6 (by decide) (fun c_12 => ?_) (fun c_12 => ?_)
  · skip
    have h_13 : rg 0 0 x_10 := cl_nhi c_12 h_11 (show (1 : Int32).toInt = 1 by decide) (by decide) (by decide)
    refine lv_iconst (v := 0) hx hb dX12_has_13 (by decide) ?_
    exact oE_i hx hb hr (by decide) hlocks hP hD hS () [] rfl (by decide) (Or.inl rfl) (Nat.le_of_ble_eq_true rfl) (Nat.le_of_ble_eq_true rfl) dX12_has_14
  · skip
    have o_14 : rl 0 x_10 1 := rl_eq c_12
    have o_15 : rl 0 1 x_10 := rl_eq c_12.symm
    have h_16 : rg 1 1 x_10 := rl_y o_15 (⟨by decide, by decide⟩ : rg 1 1 (1 : Int32)) h_11 (by decide) (by decide)
    refine lv_iconst (v := 1) hx hb dX12_has_9 (by decide) ?_
    refine lv_goto (tgt := 14) hx hb dX12_has_10 (by decide) ?_
    exact oE_i hx hb hr (by decide) hlocks hP hD hS () [] rfl (by decide) (Or.inr (rfl)) (Nat.le_of_ble_eq_true rfl) (Nat.le_of_ble_eq_true rfl) dX12_has_14
theorem dX12_juror_0 : decode cX12_juror 0 = .ok (.aload_n 0, 1) := by decide +kernel
theorem dX12_juror_1 : decode cX12_juror 1 = .ok (.iconst 0, 1) := by decide +kernel
theorem dX12_juror_2 : decode cX12_juror 2 = .ok (.putfield 1, 3) := by decide +kernel
theorem dX12_juror_5 : decode cX12_juror 5 = .ok (.aload_n 0, 1) := by decide +kernel
theorem dX12_juror_6 : decode cX12_juror 6 = .ok (.iload_n 1, 1) := by decide +kernel
theorem dX12_juror_7 : decode cX12_juror 7 = .ok (.invokevirtual 249, 3) := by decide +kernel
theorem dX12_juror_10 : decode cX12_juror 10 = .ok (.ifCond .ne 8, 3) := by decide +kernel
theorem dX12_juror_13 : decode cX12_juror 13 = .ok (.aload_n 0, 1) := by decide +kernel
theorem dX12_juror_14 : decode cX12_juror 14 = .ok (.invokevirtual 252, 3) := by decide +kernel
theorem dX12_juror_17 : decode cX12_juror 17 = .ok (.ireturn, 1) := by decide +kernel
theorem dX12_juror_18 : decode cX12_juror 18 = .ok (.iload_n 2, 1) := by decide +kernel
theorem dX12_juror_19 : decode cX12_juror 19 = .ok (.tableswitch 130 0 6 #[41, 50, 60, 70, 90, 110, 120], 41) := by decide +kernel
theorem dX12_juror_60 : decode cX12_juror 60 = .ok (.aload_n 0, 1) := by decide +kernel
theorem dX12_juror_61 : decode cX12_juror 61 = .ok (.getfield 98, 3) := by decide +kernel
theorem dX12_juror_64 : decode cX12_juror 64 = .ok (.iconst 5, 1) := by decide +kernel
theorem dX12_juror_65 : decode cX12_juror 65 = .ok (.iload_n 1, 1) := by decide +kernel
theorem dX12_juror_66 : decode cX12_juror 66 = .ok (.iadd, 1) := by decide +kernel
theorem dX12_juror_67 : decode cX12_juror 67 = .ok (.iaload, 1) := by decide +kernel
theorem dX12_juror_68 : decode cX12_juror 68 = .ok (.ireturn, 1) := by decide +kernel
theorem dX12_juror_69 : decode cX12_juror 69 = .ok (.aload_n 0, 1) := by decide +kernel
theorem dX12_juror_70 : decode cX12_juror 70 = .ok (.getfield 98, 3) := by decide +kernel
theorem dX12_juror_73 : decode cX12_juror 73 = .ok (.bipush 15, 2) := by decide +kernel
theorem dX12_juror_75 : decode cX12_juror 75 = .ok (.iload_n 1, 1) := by decide +kernel
theorem dX12_juror_76 : decode cX12_juror 76 = .ok (.iadd, 1) := by decide +kernel
theorem dX12_juror_77 : decode cX12_juror 77 = .ok (.iaload, 1) := by decide +kernel
theorem dX12_juror_78 : decode cX12_juror 78 = .ok (.ireturn, 1) := by decide +kernel
theorem dX12_juror_79 : decode cX12_juror 79 = .ok (.aload_n 0, 1) := by decide +kernel
theorem dX12_juror_80 : decode cX12_juror 80 = .ok (.getfield 98, 3) := by decide +kernel
theorem dX12_juror_83 : decode cX12_juror 83 = .ok (.bipush 25, 2) := by decide +kernel
theorem dX12_juror_85 : decode cX12_juror 85 = .ok (.iload_n 1, 1) := by decide +kernel
theorem dX12_juror_86 : decode cX12_juror 86 = .ok (.iadd, 1) := by decide +kernel
theorem dX12_juror_87 : decode cX12_juror 87 = .ok (.iaload, 1) := by decide +kernel
theorem dX12_juror_88 : decode cX12_juror 88 = .ok (.ireturn, 1) := by decide +kernel
theorem dX12_juror_89 : decode cX12_juror 89 = .ok (.aload_n 0, 1) := by decide +kernel
theorem dX12_juror_90 : decode cX12_juror 90 = .ok (.getfield 98, 3) := by decide +kernel
theorem dX12_juror_93 : decode cX12_juror 93 = .ok (.bipush 90, 2) := by decide +kernel
theorem dX12_juror_95 : decode cX12_juror 95 = .ok (.iaload, 1) := by decide +kernel
theorem dX12_juror_96 : decode cX12_juror 96 = .ok (.iload_n 1, 1) := by decide +kernel
theorem dX12_juror_97 : decode cX12_juror 97 = .ok (.invokestatic 240, 3) := by decide +kernel
theorem dX12_juror_100 : decode cX12_juror 100 = .ok (.ifCond .eq 7, 3) := by decide +kernel
theorem dX12_juror_103 : decode cX12_juror 103 = .ok (.iconst 1, 1) := by decide +kernel
theorem dX12_juror_104 : decode cX12_juror 104 = .ok (.goto 4, 3) := by decide +kernel
theorem dX12_juror_107 : decode cX12_juror 107 = .ok (.iconst 0, 1) := by decide +kernel
theorem dX12_juror_108 : decode cX12_juror 108 = .ok (.ireturn, 1) := by decide +kernel
theorem dX12_juror_109 : decode cX12_juror 109 = .ok (.aload_n 0, 1) := by decide +kernel
theorem dX12_juror_110 : decode cX12_juror 110 = .ok (.getfield 98, 3) := by decide +kernel
theorem dX12_juror_113 : decode cX12_juror 113 = .ok (.bipush 91, 2) := by decide +kernel
theorem dX12_juror_115 : decode cX12_juror 115 = .ok (.iaload, 1) := by decide +kernel
theorem dX12_juror_116 : decode cX12_juror 116 = .ok (.iload_n 1, 1) := by decide +kernel
theorem dX12_juror_117 : decode cX12_juror 117 = .ok (.invokestatic 240, 3) := by decide +kernel
theorem dX12_juror_120 : decode cX12_juror 120 = .ok (.ifCond .eq 7, 3) := by decide +kernel
theorem dX12_juror_123 : decode cX12_juror 123 = .ok (.iconst 1, 1) := by decide +kernel
theorem dX12_juror_124 : decode cX12_juror 124 = .ok (.goto 4, 3) := by decide +kernel
theorem dX12_juror_127 : decode cX12_juror 127 = .ok (.iconst 0, 1) := by decide +kernel
theorem dX12_juror_128 : decode cX12_juror 128 = .ok (.ireturn, 1) := by decide +kernel
theorem dX12_juror_129 : decode cX12_juror 129 = .ok (.aload_n 0, 1) := by decide +kernel
theorem dX12_juror_130 : decode cX12_juror 130 = .ok (.getfield 98, 3) := by decide +kernel
theorem dX12_juror_133 : decode cX12_juror 133 = .ok (.bipush 94, 2) := by decide +kernel
theorem dX12_juror_135 : decode cX12_juror 135 = .ok (.iload_n 1, 1) := by decide +kernel
theorem dX12_juror_136 : decode cX12_juror 136 = .ok (.iadd, 1) := by decide +kernel
theorem dX12_juror_137 : decode cX12_juror 137 = .ok (.iaload, 1) := by decide +kernel
theorem dX12_juror_138 : decode cX12_juror 138 = .ok (.ireturn, 1) := by decide +kernel
theorem dX12_juror_139 : decode cX12_juror 139 = .ok (.aload_n 0, 1) := by decide +kernel
theorem dX12_juror_140 : decode cX12_juror 140 = .ok (.getfield 98, 3) := by decide +kernel
theorem dX12_juror_143 : decode cX12_juror 143 = .ok (.bipush 104, 2) := by decide +kernel
theorem dX12_juror_145 : decode cX12_juror 145 = .ok (.iload_n 1, 1) := by decide +kernel
theorem dX12_juror_146 : decode cX12_juror 146 = .ok (.iadd, 1) := by decide +kernel
theorem dX12_juror_147 : decode cX12_juror 147 = .ok (.iaload, 1) := by decide +kernel
theorem dX12_juror_148 : decode cX12_juror 148 = .ok (.ireturn, 1) := by decide +kernel
theorem dX12_juror_149 : decode cX12_juror 149 = .ok (.aload_n 0, 1) := by decide +kernel
theorem dX12_juror_150 : decode cX12_juror 150 = .ok (.invokevirtual 252, 3) := by decide +kernel
theorem dX12_juror_153 : decode cX12_juror 153 = .ok (.ireturn, 1) := by decide +kernel
set_option maxRecDepth 20000 in
theorem ggX12_juror_X12_isJuror : GoodIn wsX12_juror wsX12_isJuror := goodIn_r _ [7, 2, 8, 9, 6, 10, 18, 19, 20, 21, 22, 23, 24, 25, 26, 27, 28, 29, 30, 31, 32, 33, 34, 35, 36, 37, 38, 39, 40, 41, 42, 43, 44, 45, 46, 47, 48, 49, 50, 51, 52, 53, 54, 55, 56, 57, 58, 59, 60, 61, 62, 63, 64, 65] rfl (by decide +kernel)
set_option maxRecDepth 20000 in
theorem gX12_juror_X12_isJuror : GoodIn wsX12_juror (wsV RX12 249 RX12 yX12_isJuror wsX12_isJuror) := goodIn_app (goodIn_of _ (by decide +kernel)) ggX12_juror_X12_isJuror
set_option maxRecDepth 20000 in
theorem ggX12_juror_X12_refuse : GoodIn wsX12_juror wsX12_refuse := goodIn_r _ [14, 1, 18, 19, 20, 21, 22, 23, 24, 25, 26, 27, 28, 29, 30, 31, 32, 33, 34, 35, 36, 37, 38, 39, 40, 41, 42, 43, 44, 45, 46, 47, 48, 49, 50, 51, 52, 53, 54, 55, 56, 57, 58, 59, 60, 61, 62, 63, 64, 65] rfl (by decide +kernel)
set_option maxRecDepth 20000 in
theorem gX12_juror_X12_refuse : GoodIn wsX12_juror (wsV RX12 252 RX12 yX12_refuse wsX12_refuse) := goodIn_app (goodIn_of _ (by decide +kernel)) ggX12_juror_X12_refuse
set_option maxRecDepth 20000 in
theorem ggX12_juror_X12_has : GoodIn wsX12_juror wsX12_has := goodIn_r _ [17] rfl (by decide +kernel)
set_option maxRecDepth 20000 in
theorem gX12_juror_X12_has : GoodIn wsX12_juror (va_wsS RX12 240 yX12_has wsX12_has) := goodIn_app (goodIn_of _ (by decide +kernel)) ggX12_juror_X12_has
set_option maxHeartbeats 4000000 in
set_option maxRecDepth 100000 in
theorem s_X12_juror (l : Launch) (D : va_G) (ca : Nat → ClassId) (sz : Nat) (h0 : Nat) (a1 : Int32) (a2 : Int32) (h0_thrown : Int32) (h0_tape : Nat) (h0_taped : Int32) (h0_size : Int32) (h0_limit : Int32) (h0_to : Int32) (h0_from : Int32) (h0_kind : Int32) (h0_number : Int32) (h0_sign : Int32) (h0_fault : Int32) (h0_place : Int32) (h0_word : Int64) (h0_told : Int32) (h0_now : Nat) (h0_read : Nat) (h0_kept : Nat) (h0_snaps : Nat) (h0_aside : Nat) (h0_name : Nat) (h0_readName : Nat) (h0_keptName : Nat) (h0_isKept : Nat) (h0_onces : Nat) (h0_snapMany : Int32) (h0_lowest : Int32) (h0_highest : Int32) (h0_agreed : Int32) (h0_jurors : Int32) (h0_panelled : Int32) (h0_inSets : Nat) (h0_surely : Int32) (h0_asked : Int32) (h0_frees : Nat) (h0_struck : Int32) (h0_beating : Int32) (h0_text : Nat) (h0_texts : Int32) (h0_seed : Int32) (h0_line : Nat) (h0_written : Nat) (h0_lineMany : Int32) (h0_hasWritten : Int32) (h0_node : Nat) (h0_nodes : Int32) (h0_onesMany : Int32) (h0_within : Int32) (h0_top : Int32) (F_h0_now : Nat → Int32) (i_h0_taped : rg 0 940 h0_taped) (i_h0_size : rg 0 940 h0_size) (i_h0_to : rg 0 940 h0_to) (i_h0_snapMany : rg 0 8 h0_snapMany) (i_h0_texts : rg 0 64 h0_texts) (i_h0_lineMany : rg 0 40 h0_lineMany) (i_h0_hasWritten : rg 0 1 h0_hasWritten) (s_h0_now_0 : sg 0 1 0 10 F_h0_now) (s_h0_now_1 : sg 1 2 0 4 F_h0_now) (s_h0_now_2 : sg 2 3 0 5 F_h0_now) (s_h0_now_3 : sg 35 36 0 1023 F_h0_now) (s_h0_now_4 : sg 44 49 0 3 F_h0_now) (s_h0_now_5 : sg 90 91 0 1023 F_h0_now) : oMet l yX12_juror wsX12_juror ({ frames := 2, cells := 0, slots := 0, locals := 43 } : Room) [.ref h0, .int a1, .int a2] D ca sz [(h0, .inr (11, [.int h0_thrown, .ref h0_tape, .int h0_taped, .int h0_size, .int h0_limit, .int h0_to, .int h0_from, .int h0_kind, .int h0_number, .int h0_sign, .int h0_fault, .int h0_place, .long h0_word, .int h0_told, .ref h0_now, .ref h0_read, .ref h0_kept, .ref h0_snaps, .ref h0_aside, .ref h0_name, .ref h0_readName, .ref h0_keptName, .ref h0_isKept, .ref h0_onces, .int h0_snapMany, .int h0_lowest, .int h0_highest, .int h0_agreed, .int h0_jurors, .int h0_panelled, .ref h0_inSets, .int h0_surely, .int h0_asked, .ref h0_frees, .int h0_struck, .int h0_beating, .ref h0_text, .int h0_texts, .int h0_seed, .ref h0_line, .ref h0_written, .int h0_lineMany, .int h0_hasWritten, .ref h0_node, .int h0_nodes, .int h0_onesMany, .int h0_within, .int h0_top])), (aI ca h0_now 376 F_h0_now)] (oQi D (fun (r : Int32) (u : Int32) => (rg 0 1 u)) (fun (u : Int32) => [(h0, .inr (11, [.int u, .ref h0_tape, .int h0_taped, .int h0_size, .int h0_limit, .int h0_to, .int h0_from, .int h0_kind, .int h0_number, .int h0_sign, .int h0_fault, .int h0_place, .long h0_word, .int h0_told, .ref h0_now, .ref h0_read, .ref h0_kept, .ref h0_snaps, .ref h0_aside, .ref h0_name, .ref h0_readName, .ref h0_keptName, .ref h0_isKept, .ref h0_onces, .int h0_snapMany, .int h0_lowest, .int h0_highest, .int h0_agreed, .int h0_jurors, .int h0_panelled, .ref h0_inSets, .int h0_surely, .int h0_asked, .ref h0_frees, .int h0_struck, .int h0_beating, .ref h0_text, .int h0_texts, .int h0_seed, .ref h0_line, .ref h0_written, .int h0_lineMany, .int h0_hasWritten, .ref h0_node, .int h0_nodes, .int h0_onesMany, .int h0_within, .int h0_top])), (aI ca h0_now 376 F_h0_now)])) 0 0 := by
  refine oM (cc := cX12_juror) (maxL := 3) (ret := (some .int)) (by decide) rfl (Nat.le_of_ble_eq_true rfl) [(0, .ref h0), (1, .int a1), (2, .int a2)] rfl ?_
  intro p e s m below meth c A H locs ls hx hb hr hml hts hown hlocks hin hK hP hD hA hS hl
  have hown : s.vm.findClass RX12 = some m.cls := hown
  have k1 := hts (.fieldLink RX12 1 "LidCourtModel" "thrown" "I") (by decide +kernel)
  have k2 : ∀ w ∈ wsX120, w ∈ wsX12_juror := fun _ h => List.mem_cons_of_mem _ (List.mem_append_right _ h)
  have k3 := hts (.fieldLink RX12 98 "LidCourtModel" "now" "[I") (by decide +kernel)
  refine lv_aload_n hx hb dX12_juror_0 rfl (lv_at hl 0 rfl) ?_
  refine lv_iconst (v := 0) hx hb dX12_juror_1 (by decide) ?_
  refine va_put (D := D) (ci := 11) (v := .int 0) (ty := .int) (C := RX12) (T := TX12) (N := 48) hx hb hts k2 tyX12 tyX12_ok nmX12 hown hK.1 hP hD hS 0 rfl rfl 0 (by decide) k1 (fun _ h9 => h9) rfl (by decide +kernel) rfl rfl (Nat.le_of_ble_eq_true rfl) dX12_juror_2 (fun H locs hP hD hS => ?_)
  have hP : va_P D vwCl [(h0, .inr (11, [.int 0, .ref h0_tape, .int h0_taped, .int h0_size, .int h0_limit, .int h0_to, .int h0_from, .int h0_kind, .int h0_number, .int h0_sign, .int h0_fault, .int h0_place, .long h0_word, .int h0_told, .ref h0_now, .ref h0_read, .ref h0_kept, .ref h0_snaps, .ref h0_aside, .ref h0_name, .ref h0_readName, .ref h0_keptName, .ref h0_isKept, .ref h0_onces, .int h0_snapMany, .int h0_lowest, .int h0_highest, .int h0_agreed, .int h0_jurors, .int h0_panelled, .ref h0_inSets, .int h0_surely, .int h0_asked, .ref h0_frees, .int h0_struck, .int h0_beating, .ref h0_text, .int h0_texts, .int h0_seed, .ref h0_line, .ref h0_written, .int h0_lineMany, .int h0_hasWritten, .ref h0_node, .int h0_nodes, .int h0_onesMany, .int h0_within, .int h0_top])), (aI ca h0_now 376 F_h0_now)] H := hP
  have hD : va_D A [(h0, .inr (11, [.int 0, .ref h0_tape, .int h0_taped, .int h0_size, .int h0_limit, .int h0_to, .int h0_from, .int h0_kind, .int h0_number, .int h0_sign, .int h0_fault, .int h0_place, .long h0_word, .int h0_told, .ref h0_now, .ref h0_read, .ref h0_kept, .ref h0_snaps, .ref h0_aside, .ref h0_name, .ref h0_readName, .ref h0_keptName, .ref h0_isKept, .ref h0_onces, .int h0_snapMany, .int h0_lowest, .int h0_highest, .int h0_agreed, .int h0_jurors, .int h0_panelled, .ref h0_inSets, .int h0_surely, .int h0_asked, .ref h0_frees, .int h0_struck, .int h0_beating, .ref h0_text, .int h0_texts, .int h0_seed, .ref h0_line, .ref h0_written, .int h0_lineMany, .int h0_hasWritten, .ref h0_node, .int h0_nodes, .int h0_onesMany, .int h0_within, .int h0_top])), (aI ca h0_now 376 F_h0_now)] := hD
  refine lv_aload_n hx hb dX12_juror_5 rfl (lv_at hl 0 rfl) ?_
  refine lv_iload_n hx hb dX12_juror_6 rfl (lv_at hl 1 rfl) ?_
  refine oC_i (Wc := [(h0, .inr (11, [.int 0, .ref h0_tape, .int h0_taped, .int h0_size, .int h0_limit, .int h0_to, .int h0_from, .int h0_kind, .int h0_number, .int h0_sign, .int h0_fault, .int h0_place, .long h0_word, .int h0_told, .ref h0_now, .ref h0_read, .ref h0_kept, .ref h0_snaps, .ref h0_aside, .ref h0_name, .ref h0_readName, .ref h0_keptName, .ref h0_isKept, .ref h0_onces, .int h0_snapMany, .int h0_lowest, .int h0_highest, .int h0_agreed, .int h0_jurors, .int h0_panelled, .ref h0_inSets, .int h0_surely, .int h0_asked, .ref h0_frees, .int h0_struck, .int h0_beating, .ref h0_text, .int h0_texts, .int h0_seed, .ref h0_line, .ref h0_written, .int h0_lineMany, .int h0_hasWritten, .ref h0_node, .int h0_nodes, .int h0_onesMany, .int h0_within, .int h0_top])), (aI ca h0_now 376 F_h0_now)]) (Wr := []) (va_runV (As := [.int a1]) (rest := []) ⟨hx, hb, hml, hown, hts⟩ (s_X12_isJuror l D ca H.size h0 a1 0 h0_tape h0_taped h0_size h0_limit h0_to h0_from h0_kind h0_number h0_sign h0_fault h0_place h0_word h0_told h0_now h0_read h0_kept h0_snaps h0_aside h0_name h0_readName h0_keptName h0_isKept h0_onces h0_snapMany h0_lowest h0_highest h0_agreed h0_jurors h0_panelled h0_inSets h0_surely h0_asked h0_frees h0_struck h0_beating h0_text h0_texts h0_seed h0_line h0_written h0_lineMany h0_hasWritten h0_node h0_nodes h0_onesMany h0_within h0_top F_h0_now i_h0_taped i_h0_size i_h0_to i_h0_snapMany i_h0_texts i_h0_lineMany i_h0_hasWritten s_h0_now_0 s_h0_now_1 s_h0_now_2 s_h0_now_3 s_h0_now_4 s_h0_now_5) (cwV 1 hts gX12_juror_X12_isJuror rfl rfl rfl (by decide +kernel) ⟨Nat.le_of_ble_eq_true rfl, Nat.le_of_ble_eq_true rfl⟩) (oPV (C := RX12) hK hP hD [0, 1] rfl (by decide) 0 rfl (ci := 11) rfl rfl) rfl rfl hl.1 rfl (lv_room (Nat.le_of_ble_eq_true rfl)) dX12_juror_7 ⟨Nat.le_of_ble_eq_true rfl, Nat.le_of_ble_eq_true rfl⟩) hP hD hS hA [0, 1] [] rfl rfl (by decide) (by decide) (fun r_50 u H locs w_51 hP hD hS => ?_)
  obtain ⟨⟩ := u
  have hP : va_P D vwCl [(h0, .inr (11, [.int 0, .ref h0_tape, .int h0_taped, .int h0_size, .int h0_limit, .int h0_to, .int h0_from, .int h0_kind, .int h0_number, .int h0_sign, .int h0_fault, .int h0_place, .long h0_word, .int h0_told, .ref h0_now, .ref h0_read, .ref h0_kept, .ref h0_snaps, .ref h0_aside, .ref h0_name, .ref h0_readName, .ref h0_keptName, .ref h0_isKept, .ref h0_onces, .int h0_snapMany, .int h0_lowest, .int h0_highest, .int h0_agreed, .int h0_jurors, .int h0_panelled, .ref h0_inSets, .int h0_surely, .int h0_asked, .ref h0_frees, .int h0_struck, .int h0_beating, .ref h0_text, .int h0_texts, .int h0_seed, .ref h0_line, .ref h0_written, .int h0_lineMany, .int h0_hasWritten, .ref h0_node, .int h0_nodes, .int h0_onesMany, .int h0_within, .int h0_top])), (aI ca h0_now 376 F_h0_now)] H := hP
  have hD : va_D A [(h0, .inr (11, [.int 0, .ref h0_tape, .int h0_taped, .int h0_size, .int h0_limit, .int h0_to, .int h0_from, .int h0_kind, .int h0_number, .int h0_sign, .int h0_fault, .int h0_place, .long h0_word, .int h0_told, .ref h0_now, .ref h0_read, .ref h0_kept, .ref h0_snaps, .ref h0_aside, .ref h0_name, .ref h0_readName, .ref h0_keptName, .ref h0_isKept, .ref h0_onces, .int h0_snapMany, .int h0_lowest, .int h0_highest, .int h0_agreed, .int h0_jurors, .int h0_panelled, .ref h0_inSets, .int h0_surely, .int h0_asked, .ref h0_frees, .int h0_struck, .int h0_beating, .ref h0_text, .int h0_texts, .int h0_seed, .ref h0_line, .ref h0_written, .int h0_lineMany, .int h0_hasWritten, .ref h0_node, .int h0_nodes, .int h0_onesMany, .int h0_within, .int h0_top])), (aI ca h0_now 376 F_h0_now)] := hD
  try dsimp only at w_51
  rcases w_51 with h_52 | ⟨h_53, h_54⟩
  · skip
    subst h_52
    refine lv_if_ne (tgt := 18) hx hb dX12_juror_10 (by decide) (fun c => absurd (by decide) c) (fun _ => ?_)
    refine lv_aload_n hx hb dX12_juror_13 rfl (lv_at hl 0 rfl) ?_
    refine oC_i (Wc := [(h0, .inr (11, [.int 0, .ref h0_tape, .int h0_taped, .int h0_size, .int h0_limit, .int h0_to, .int h0_from, .int h0_kind, .int h0_number, .int h0_sign, .int h0_fault, .int h0_place, .long h0_word, .int h0_told, .ref h0_now, .ref h0_read, .ref h0_kept, .ref h0_snaps, .ref h0_aside, .ref h0_name, .ref h0_readName, .ref h0_keptName, .ref h0_isKept, .ref h0_onces, .int h0_snapMany, .int h0_lowest, .int h0_highest, .int h0_agreed, .int h0_jurors, .int h0_panelled, .ref h0_inSets, .int h0_surely, .int h0_asked, .ref h0_frees, .int h0_struck, .int h0_beating, .ref h0_text, .int h0_texts, .int h0_seed, .ref h0_line, .ref h0_written, .int h0_lineMany, .int h0_hasWritten, .ref h0_node, .int h0_nodes, .int h0_onesMany, .int h0_within, .int h0_top]))]) (Wr := [(aI ca h0_now 376 F_h0_now)]) (va_runV (As := []) (rest := []) ⟨hx, hb, hml, hown, hts⟩ (s_X12_refuse l D ca H.size h0 0 h0_tape h0_taped h0_size h0_limit h0_to h0_from h0_kind h0_number h0_sign h0_fault h0_place h0_word h0_told h0_now h0_read h0_kept h0_snaps h0_aside h0_name h0_readName h0_keptName h0_isKept h0_onces h0_snapMany h0_lowest h0_highest h0_agreed h0_jurors h0_panelled h0_inSets h0_surely h0_asked h0_frees h0_struck h0_beating h0_text h0_texts h0_seed h0_line h0_written h0_lineMany h0_hasWritten h0_node h0_nodes h0_onesMany h0_within h0_top i_h0_taped i_h0_size i_h0_to i_h0_snapMany i_h0_texts i_h0_lineMany i_h0_hasWritten) (cwV 0 hts gX12_juror_X12_refuse rfl rfl rfl (by decide +kernel) ⟨Nat.le_of_ble_eq_true rfl, Nat.le_of_ble_eq_true rfl⟩) (oPV (C := RX12) hK hP hD [0] rfl (by decide) 0 rfl (ci := 11) rfl rfl) rfl rfl hl.1 rfl (lv_room (Nat.le_of_ble_eq_true rfl)) dX12_juror_14 ⟨Nat.le_of_ble_eq_true rfl, Nat.le_of_ble_eq_true rfl⟩) hP hD hS hA [0] [1] rfl rfl (by decide) (by decide) (fun r_55 u H locs w_56 hP hD hS => ?_)
    obtain ⟨⟩ := u
    have hP : va_P D vwCl [(aI ca h0_now 376 F_h0_now), (h0, .inr (11, [.int 1, .ref h0_tape, .int h0_taped, .int h0_size, .int h0_limit, .int h0_to, .int h0_from, .int h0_kind, .int h0_number, .int h0_sign, .int h0_fault, .int h0_place, .long h0_word, .int h0_told, .ref h0_now, .ref h0_read, .ref h0_kept, .ref h0_snaps, .ref h0_aside, .ref h0_name, .ref h0_readName, .ref h0_keptName, .ref h0_isKept, .ref h0_onces, .int h0_snapMany, .int h0_lowest, .int h0_highest, .int h0_agreed, .int h0_jurors, .int h0_panelled, .ref h0_inSets, .int h0_surely, .int h0_asked, .ref h0_frees, .int h0_struck, .int h0_beating, .ref h0_text, .int h0_texts, .int h0_seed, .ref h0_line, .ref h0_written, .int h0_lineMany, .int h0_hasWritten, .ref h0_node, .int h0_nodes, .int h0_onesMany, .int h0_within, .int h0_top]))] H := hP
    have hD : va_D A [(aI ca h0_now 376 F_h0_now), (h0, .inr (11, [.int 1, .ref h0_tape, .int h0_taped, .int h0_size, .int h0_limit, .int h0_to, .int h0_from, .int h0_kind, .int h0_number, .int h0_sign, .int h0_fault, .int h0_place, .long h0_word, .int h0_told, .ref h0_now, .ref h0_read, .ref h0_kept, .ref h0_snaps, .ref h0_aside, .ref h0_name, .ref h0_readName, .ref h0_keptName, .ref h0_isKept, .ref h0_onces, .int h0_snapMany, .int h0_lowest, .int h0_highest, .int h0_agreed, .int h0_jurors, .int h0_panelled, .ref h0_inSets, .int h0_surely, .int h0_asked, .ref h0_frees, .int h0_struck, .int h0_beating, .ref h0_text, .int h0_texts, .int h0_seed, .ref h0_line, .ref h0_written, .int h0_lineMany, .int h0_hasWritten, .ref h0_node, .int h0_nodes, .int h0_onesMany, .int h0_within, .int h0_top]))] := hD
    try dsimp only at w_56
    have h_57 := w_56
    subst h_57
    exact oE_i hx hb hr rfl hlocks hP hD hS 1 [1, 0] rfl (by decide) (⟨by decide, by decide⟩ : rg 0 1 (1 : Int32)) (Nat.le_of_ble_eq_true rfl) (Nat.le_of_ble_eq_true rfl) dX12_juror_17
  · skip
    subst h_53
    refine lv_if_ne (tgt := 18) hx hb dX12_juror_10 (by decide) (fun _ => ?_) (fun c => absurd c (by decide))
    refine lv_iload_n hx hb dX12_juror_18 rfl (lv_at hl 2 rfl) ?_
    by_cases c_58 : a2 = 0
    · skip
      refine oti 0 c_58 ?_
      refine lv_tableIn (off := 41) (tgt := 60) hx hb dX12_juror_19 (by decide) (by decide) (by decide) (by decide) ?_
      refine lv_aload_n hx hb dX12_juror_60 rfl (lv_at hl 0 rfl) ?_
      refine va_get (D := D) (ci := 11) (v := .ref h0_now) (C := RX12) (T := TX12) (N := 48) hx hb hts k2 hown hK.1 hP 0 rfl rfl 14 (by decide) k3 (fun _ h9 => h9) rfl dX12_juror_61 ?_
      refine lv_iconst (v := 5) hx hb dX12_juror_64 (by decide) ?_
      refine lv_iload_n hx hb dX12_juror_65 rfl (lv_at hl 1 rfl) ?_
      refine lv_iadd hx hb dX12_juror_66 ?_
      refine lv_topi (fun x_59 ex_59 => ?_)
      have h_60 : rg 5 14 x_59 := by rw [ex_59]; exact rg_add (⟨by decide, by decide⟩ : rg 5 5 (5 : Int32)) h_54 (by decide) (by decide) (by decide) (by decide)
      have l_61 : lq x_59.toInt (a1.toInt + 5) := lqm (by rw [ex_59]; have q := tadd (⟨by decide, by decide⟩ : rg 5 5 (5 : Int32)) h_54 (by decide) (by decide); have r0 := lqe (lqm (by decide) : lq (5 : Int32).toInt 5); omega)
      refine va_iald hx hb hK.1 hP 1 0 rfl rfl (rg_in h_60 (by decide) (by decide)) dX12_juror_67 ?_
      refine lv_topi (fun x_62 ex_62 => ?_)
      exact oE_i hx hb hr rfl hlocks hP hD hS 0 [0, 1] rfl (by decide) (⟨by decide, by decide⟩ : rg 0 1 (0 : Int32)) (Nat.le_of_ble_eq_true rfl) (Nat.le_of_ble_eq_true rfl) dX12_juror_68
    by_cases c_63 : a2 = 1
    · skip
      refine oti 1 c_63 ?_
      refine lv_tableIn (off := 50) (tgt := 69) hx hb dX12_juror_19 (by decide) (by decide) (by decide) (by decide) ?_
      refine lv_aload_n hx hb dX12_juror_69 rfl (lv_at hl 0 rfl) ?_
      refine va_get (D := D) (ci := 11) (v := .ref h0_now) (C := RX12) (T := TX12) (N := 48) hx hb hts k2 hown hK.1 hP 0 rfl rfl 14 (by decide) k3 (fun _ h9 => h9) rfl dX12_juror_70 ?_
      refine lv_bipush (v := 15) hx hb dX12_juror_73 (by decide) ?_
      refine lv_iload_n hx hb dX12_juror_75 rfl (lv_at hl 1 rfl) ?_
      refine lv_iadd hx hb dX12_juror_76 ?_
      refine lv_topi (fun x_64 ex_64 => ?_)
      have h_65 : rg 15 24 x_64 := by rw [ex_64]; exact rg_add (⟨by decide, by decide⟩ : rg 15 15 (15 : Int32)) h_54 (by decide) (by decide) (by decide) (by decide)
      have l_66 : lq x_64.toInt (a1.toInt + 15) := lqm (by rw [ex_64]; have q := tadd (⟨by decide, by decide⟩ : rg 15 15 (15 : Int32)) h_54 (by decide) (by decide); have r0 := lqe (lqm (by decide) : lq (15 : Int32).toInt 15); omega)
      refine va_iald hx hb hK.1 hP 1 0 rfl rfl (rg_in h_65 (by decide) (by decide)) dX12_juror_77 ?_
      refine lv_topi (fun x_67 ex_67 => ?_)
      exact oE_i hx hb hr rfl hlocks hP hD hS 0 [0, 1] rfl (by decide) (⟨by decide, by decide⟩ : rg 0 1 (0 : Int32)) (Nat.le_of_ble_eq_true rfl) (Nat.le_of_ble_eq_true rfl) dX12_juror_78
    by_cases c_68 : a2 = 2
    · skip
      refine oti 2 c_68 ?_
      refine lv_tableIn (off := 60) (tgt := 79) hx hb dX12_juror_19 (by decide) (by decide) (by decide) (by decide) ?_
      refine lv_aload_n hx hb dX12_juror_79 rfl (lv_at hl 0 rfl) ?_
      refine va_get (D := D) (ci := 11) (v := .ref h0_now) (C := RX12) (T := TX12) (N := 48) hx hb hts k2 hown hK.1 hP 0 rfl rfl 14 (by decide) k3 (fun _ h9 => h9) rfl dX12_juror_80 ?_
      refine lv_bipush (v := 25) hx hb dX12_juror_83 (by decide) ?_
      refine lv_iload_n hx hb dX12_juror_85 rfl (lv_at hl 1 rfl) ?_
      refine lv_iadd hx hb dX12_juror_86 ?_
      refine lv_topi (fun x_69 ex_69 => ?_)
      have h_70 : rg 25 34 x_69 := by rw [ex_69]; exact rg_add (⟨by decide, by decide⟩ : rg 25 25 (25 : Int32)) h_54 (by decide) (by decide) (by decide) (by decide)
      have l_71 : lq x_69.toInt (a1.toInt + 25) := lqm (by rw [ex_69]; have q := tadd (⟨by decide, by decide⟩ : rg 25 25 (25 : Int32)) h_54 (by decide) (by decide); have r0 := lqe (lqm (by decide) : lq (25 : Int32).toInt 25); omega)
      refine va_iald hx hb hK.1 hP 1 0 rfl rfl (rg_in h_70 (by decide) (by decide)) dX12_juror_87 ?_
      refine lv_topi (fun x_72 ex_72 => ?_)
      exact oE_i hx hb hr rfl hlocks hP hD hS 0 [0, 1] rfl (by decide) (⟨by decide, by decide⟩ : rg 0 1 (0 : Int32)) (Nat.le_of_ble_eq_true rfl) (Nat.le_of_ble_eq_true rfl) dX12_juror_88
    by_cases c_73 : a2 = 3
    · skip
      refine oti 3 c_73 ?_
      refine lv_tableIn (off := 70) (tgt := 89) hx hb dX12_juror_19 (by decide) (by decide) (by decide) (by decide) ?_
      refine lv_aload_n hx hb dX12_juror_89 rfl (lv_at hl 0 rfl) ?_
      refine va_get (D := D) (ci := 11) (v := .ref h0_now) (C := RX12) (T := TX12) (N := 48) hx hb hts k2 hown hK.1 hP 0 rfl rfl 14 (by decide) k3 (fun _ h9 => h9) rfl dX12_juror_90 ?_
      refine lv_bipush (v := 90) hx hb dX12_juror_93 (by decide) ?_
      refine va_iald hx hb hK.1 hP 1 0 rfl rfl (rg_in (⟨by decide, by decide⟩ : rg 90 90 (90 : Int32)) (by decide) (by decide)) dX12_juror_95 ?_
      refine lv_topi (fun x_74 ex_74 => ?_)
      have h_75 : rg 0 1023 x_74 := by rw [ex_74]; exact sg_at s_h0_now_5 (⟨by decide, by decide⟩ : rg 90 90 (90 : Int32)) (by decide) (by decide) (by decide)
      refine lv_iload_n hx hb dX12_juror_96 rfl (lv_at hl 1 rfl) ?_
      refine oC_i (Wc := []) (Wr := [(h0, .inr (11, [.int 0, .ref h0_tape, .int h0_taped, .int h0_size, .int h0_limit, .int h0_to, .int h0_from, .int h0_kind, .int h0_number, .int h0_sign, .int h0_fault, .int h0_place, .long h0_word, .int h0_told, .ref h0_now, .ref h0_read, .ref h0_kept, .ref h0_snaps, .ref h0_aside, .ref h0_name, .ref h0_readName, .ref h0_keptName, .ref h0_isKept, .ref h0_onces, .int h0_snapMany, .int h0_lowest, .int h0_highest, .int h0_agreed, .int h0_jurors, .int h0_panelled, .ref h0_inSets, .int h0_surely, .int h0_asked, .ref h0_frees, .int h0_struck, .int h0_beating, .ref h0_text, .int h0_texts, .int h0_seed, .ref h0_line, .ref h0_written, .int h0_lineMany, .int h0_hasWritten, .ref h0_node, .int h0_nodes, .int h0_onesMany, .int h0_within, .int h0_top])), (aI ca h0_now 376 F_h0_now)]) (va_runS (As := [.int x_74, .int a1]) (rest := []) ⟨hx, hb, hml, hown, hts⟩ (s_X12_has l D ca H.size x_74 a1) (va_cwS 2 hts gX12_juror_X12_has rfl rfl rfl (by decide +kernel) ⟨Nat.le_of_ble_eq_true rfl, Nat.le_of_ble_eq_true rfl⟩) (oPS hK hP hD [] rfl (by decide)) rfl rfl hl.1 rfl (lv_room (Nat.le_of_ble_eq_true rfl)) dX12_juror_97 ⟨Nat.le_of_ble_eq_true rfl, Nat.le_of_ble_eq_true rfl⟩) hP hD hS hA [] [0, 1] rfl rfl (by decide) (by decide) (fun r_76 u H locs w_77 hP hD hS => ?_)
      obtain ⟨⟩ := u
      have hP : va_P D vwCl [(h0, .inr (11, [.int 0, .ref h0_tape, .int h0_taped, .int h0_size, .int h0_limit, .int h0_to, .int h0_from, .int h0_kind, .int h0_number, .int h0_sign, .int h0_fault, .int h0_place, .long h0_word, .int h0_told, .ref h0_now, .ref h0_read, .ref h0_kept, .ref h0_snaps, .ref h0_aside, .ref h0_name, .ref h0_readName, .ref h0_keptName, .ref h0_isKept, .ref h0_onces, .int h0_snapMany, .int h0_lowest, .int h0_highest, .int h0_agreed, .int h0_jurors, .int h0_panelled, .ref h0_inSets, .int h0_surely, .int h0_asked, .ref h0_frees, .int h0_struck, .int h0_beating, .ref h0_text, .int h0_texts, .int h0_seed, .ref h0_line, .ref h0_written, .int h0_lineMany, .int h0_hasWritten, .ref h0_node, .int h0_nodes, .int h0_onesMany, .int h0_within, .int h0_top])), (aI ca h0_now 376 F_h0_now)] H := hP
      have hD : va_D A [(h0, .inr (11, [.int 0, .ref h0_tape, .int h0_taped, .int h0_size, .int h0_limit, .int h0_to, .int h0_from, .int h0_kind, .int h0_number, .int h0_sign, .int h0_fault, .int h0_place, .long h0_word, .int h0_told, .ref h0_now, .ref h0_read, .ref h0_kept, .ref h0_snaps, .ref h0_aside, .ref h0_name, .ref h0_readName, .ref h0_keptName, .ref h0_isKept, .ref h0_onces, .int h0_snapMany, .int h0_lowest, .int h0_highest, .int h0_agreed, .int h0_jurors, .int h0_panelled, .ref h0_inSets, .int h0_surely, .int h0_asked, .ref h0_frees, .int h0_struck, .int h0_beating, .ref h0_text, .int h0_texts, .int h0_seed, .ref h0_line, .ref h0_written, .int h0_lineMany, .int h0_hasWritten, .ref h0_node, .int h0_nodes, .int h0_onesMany, .int h0_within, .int h0_top])), (aI ca h0_now 376 F_h0_now)] := hD
      try dsimp only at w_77
      rcases w_77 with h_78 | h_79
      · skip
        subst h_78
        refine lv_if_eq (tgt := 107) hx hb dX12_juror_100 (by decide) (fun _ => ?_) (fun c => absurd (by decide) c)
        refine lv_iconst (v := 0) hx hb dX12_juror_107 (by decide) ?_
        exact oE_i hx hb hr rfl hlocks hP hD hS 0 [0, 1] rfl (by decide) (⟨by decide, by decide⟩ : rg 0 1 (0 : Int32)) (Nat.le_of_ble_eq_true rfl) (Nat.le_of_ble_eq_true rfl) dX12_juror_108
      · skip
        subst h_79
        refine lv_if_eq (tgt := 107) hx hb dX12_juror_100 (by decide) (fun c => absurd c (by decide)) (fun _ => ?_)
        refine lv_iconst (v := 1) hx hb dX12_juror_103 (by decide) ?_
        refine lv_goto (tgt := 108) hx hb dX12_juror_104 (by decide) ?_
        exact oE_i hx hb hr rfl hlocks hP hD hS 0 [0, 1] rfl (by decide) (⟨by decide, by decide⟩ : rg 0 1 (0 : Int32)) (Nat.le_of_ble_eq_true rfl) (Nat.le_of_ble_eq_true rfl) dX12_juror_108
    by_cases c_80 : a2 = 4
    · skip
      refine oti 4 c_80 ?_
      refine lv_tableIn (off := 90) (tgt := 109) hx hb dX12_juror_19 (by decide) (by decide) (by decide) (by decide) ?_
      refine lv_aload_n hx hb dX12_juror_109 rfl (lv_at hl 0 rfl) ?_
      refine va_get (D := D) (ci := 11) (v := .ref h0_now) (C := RX12) (T := TX12) (N := 48) hx hb hts k2 hown hK.1 hP 0 rfl rfl 14 (by decide) k3 (fun _ h9 => h9) rfl dX12_juror_110 ?_
      refine lv_bipush (v := 91) hx hb dX12_juror_113 (by decide) ?_
      refine va_iald hx hb hK.1 hP 1 0 rfl rfl (rg_in (⟨by decide, by decide⟩ : rg 91 91 (91 : Int32)) (by decide) (by decide)) dX12_juror_115 ?_
      refine lv_topi (fun x_81 ex_81 => ?_)
      refine lv_iload_n hx hb dX12_juror_116 rfl (lv_at hl 1 rfl) ?_
      refine oC_i (Wc := []) (Wr := [(h0, .inr (11, [.int 0, .ref h0_tape, .int h0_taped, .int h0_size, .int h0_limit, .int h0_to, .int h0_from, .int h0_kind, .int h0_number, .int h0_sign, .int h0_fault, .int h0_place, .long h0_word, .int h0_told, .ref h0_now, .ref h0_read, .ref h0_kept, .ref h0_snaps, .ref h0_aside, .ref h0_name, .ref h0_readName, .ref h0_keptName, .ref h0_isKept, .ref h0_onces, .int h0_snapMany, .int h0_lowest, .int h0_highest, .int h0_agreed, .int h0_jurors, .int h0_panelled, .ref h0_inSets, .int h0_surely, .int h0_asked, .ref h0_frees, .int h0_struck, .int h0_beating, .ref h0_text, .int h0_texts, .int h0_seed, .ref h0_line, .ref h0_written, .int h0_lineMany, .int h0_hasWritten, .ref h0_node, .int h0_nodes, .int h0_onesMany, .int h0_within, .int h0_top])), (aI ca h0_now 376 F_h0_now)]) (va_runS (As := [.int x_81, .int a1]) (rest := []) ⟨hx, hb, hml, hown, hts⟩ (s_X12_has l D ca H.size x_81 a1) (va_cwS 2 hts gX12_juror_X12_has rfl rfl rfl (by decide +kernel) ⟨Nat.le_of_ble_eq_true rfl, Nat.le_of_ble_eq_true rfl⟩) (oPS hK hP hD [] rfl (by decide)) rfl rfl hl.1 rfl (lv_room (Nat.le_of_ble_eq_true rfl)) dX12_juror_117 ⟨Nat.le_of_ble_eq_true rfl, Nat.le_of_ble_eq_true rfl⟩) hP hD hS hA [] [0, 1] rfl rfl (by decide) (by decide) (fun r_82 u H locs w_83 hP hD hS => ?_)
      obtain ⟨⟩ := u
      have hP : va_P D vwCl [(h0, .inr (11, [.int 0, .ref h0_tape, .int h0_taped, .int h0_size, .int h0_limit, .int h0_to, .int h0_from, .int h0_kind, .int h0_number, .int h0_sign, .int h0_fault, .int h0_place, .long h0_word, .int h0_told, .ref h0_now, .ref h0_read, .ref h0_kept, .ref h0_snaps, .ref h0_aside, .ref h0_name, .ref h0_readName, .ref h0_keptName, .ref h0_isKept, .ref h0_onces, .int h0_snapMany, .int h0_lowest, .int h0_highest, .int h0_agreed, .int h0_jurors, .int h0_panelled, .ref h0_inSets, .int h0_surely, .int h0_asked, .ref h0_frees, .int h0_struck, .int h0_beating, .ref h0_text, .int h0_texts, .int h0_seed, .ref h0_line, .ref h0_written, .int h0_lineMany, .int h0_hasWritten, .ref h0_node, .int h0_nodes, .int h0_onesMany, .int h0_within, .int h0_top])), (aI ca h0_now 376 F_h0_now)] H := hP
      have hD : va_D A [(h0, .inr (11, [.int 0, .ref h0_tape, .int h0_taped, .int h0_size, .int h0_limit, .int h0_to, .int h0_from, .int h0_kind, .int h0_number, .int h0_sign, .int h0_fault, .int h0_place, .long h0_word, .int h0_told, .ref h0_now, .ref h0_read, .ref h0_kept, .ref h0_snaps, .ref h0_aside, .ref h0_name, .ref h0_readName, .ref h0_keptName, .ref h0_isKept, .ref h0_onces, .int h0_snapMany, .int h0_lowest, .int h0_highest, .int h0_agreed, .int h0_jurors, .int h0_panelled, .ref h0_inSets, .int h0_surely, .int h0_asked, .ref h0_frees, .int h0_struck, .int h0_beating, .ref h0_text, .int h0_texts, .int h0_seed, .ref h0_line, .ref h0_written, .int h0_lineMany, .int h0_hasWritten, .ref h0_node, .int h0_nodes, .int h0_onesMany, .int h0_within, .int h0_top])), (aI ca h0_now 376 F_h0_now)] := hD
      try dsimp only at w_83
      rcases w_83 with h_84 | h_85
      · skip
        subst h_84
        refine lv_if_eq (tgt := 127) hx hb dX12_juror_120 (by decide) (fun _ => ?_) (fun c => absurd (by decide) c)
        refine lv_iconst (v := 0) hx hb dX12_juror_127 (by decide) ?_
        exact oE_i hx hb hr rfl hlocks hP hD hS 0 [0, 1] rfl (by decide) (⟨by decide, by decide⟩ : rg 0 1 (0 : Int32)) (Nat.le_of_ble_eq_true rfl) (Nat.le_of_ble_eq_true rfl) dX12_juror_128
      · skip
        subst h_85
        refine lv_if_eq (tgt := 127) hx hb dX12_juror_120 (by decide) (fun c => absurd c (by decide)) (fun _ => ?_)
        refine lv_iconst (v := 1) hx hb dX12_juror_123 (by decide) ?_
        refine lv_goto (tgt := 128) hx hb dX12_juror_124 (by decide) ?_
        exact oE_i hx hb hr rfl hlocks hP hD hS 0 [0, 1] rfl (by decide) (⟨by decide, by decide⟩ : rg 0 1 (0 : Int32)) (Nat.le_of_ble_eq_true rfl) (Nat.le_of_ble_eq_true rfl) dX12_juror_128
    by_cases c_86 : a2 = 5
    · skip
      refine oti 5 c_86 ?_
      refine lv_tableIn (off := 110) (tgt := 129) hx hb dX12_juror_19 (by decide) (by decide) (by decide) (by decide) ?_
      refine lv_aload_n hx hb dX12_juror_129 rfl (lv_at hl 0 rfl) ?_
      refine va_get (D := D) (ci := 11) (v := .ref h0_now) (C := RX12) (T := TX12) (N := 48) hx hb hts k2 hown hK.1 hP 0 rfl rfl 14 (by decide) k3 (fun _ h9 => h9) rfl dX12_juror_130 ?_
      refine lv_bipush (v := 94) hx hb dX12_juror_133 (by decide) ?_
      refine lv_iload_n hx hb dX12_juror_135 rfl (lv_at hl 1 rfl) ?_
      refine lv_iadd hx hb dX12_juror_136 ?_
      refine lv_topi (fun x_87 ex_87 => ?_)
      have h_88 : rg 94 103 x_87 := by rw [ex_87]; exact rg_add (⟨by decide, by decide⟩ : rg 94 94 (94 : Int32)) h_54 (by decide) (by decide) (by decide) (by decide)
      have l_89 : lq x_87.toInt (a1.toInt + 94) := lqm (by rw [ex_87]; have q := tadd (⟨by decide, by decide⟩ : rg 94 94 (94 : Int32)) h_54 (by decide) (by decide); have r0 := lqe (lqm (by decide) : lq (94 : Int32).toInt 94); omega)
      refine va_iald hx hb hK.1 hP 1 0 rfl rfl (rg_in h_88 (by decide) (by decide)) dX12_juror_137 ?_
      refine lv_topi (fun x_90 ex_90 => ?_)
      exact oE_i hx hb hr rfl hlocks hP hD hS 0 [0, 1] rfl (by decide) (⟨by decide, by decide⟩ : rg 0 1 (0 : Int32)) (Nat.le_of_ble_eq_true rfl) (Nat.le_of_ble_eq_true rfl) dX12_juror_138
    by_cases c_91 : a2 = 6
    · skip
      refine oti 6 c_91 ?_
      refine lv_tableIn (off := 120) (tgt := 139) hx hb dX12_juror_19 (by decide) (by decide) (by decide) (by decide) ?_
      refine lv_aload_n hx hb dX12_juror_139 rfl (lv_at hl 0 rfl) ?_
      refine va_get (D := D) (ci := 11) (v := .ref h0_now) (C := RX12) (T := TX12) (N := 48) hx hb hts k2 hown hK.1 hP 0 rfl rfl 14 (by decide) k3 (fun _ h9 => h9) rfl dX12_juror_140 ?_
      refine lv_bipush (v := 104) hx hb dX12_juror_143 (by decide) ?_
      refine lv_iload_n hx hb dX12_juror_145 rfl (lv_at hl 1 rfl) ?_
      refine lv_iadd hx hb dX12_juror_146 ?_
      refine lv_topi (fun x_92 ex_92 => ?_)
      have h_93 : rg 104 113 x_92 := by rw [ex_92]; exact rg_add (⟨by decide, by decide⟩ : rg 104 104 (104 : Int32)) h_54 (by decide) (by decide) (by decide) (by decide)
      have l_94 : lq x_92.toInt (a1.toInt + 104) := lqm (by rw [ex_92]; have q := tadd (⟨by decide, by decide⟩ : rg 104 104 (104 : Int32)) h_54 (by decide) (by decide); have r0 := lqe (lqm (by decide) : lq (104 : Int32).toInt 104); omega)
      refine va_iald hx hb hK.1 hP 1 0 rfl rfl (rg_in h_93 (by decide) (by decide)) dX12_juror_147 ?_
      refine lv_topi (fun x_95 ex_95 => ?_)
      exact oE_i hx hb hr rfl hlocks hP hD hS 0 [0, 1] rfl (by decide) (⟨by decide, by decide⟩ : rg 0 1 (0 : Int32)) (Nat.le_of_ble_eq_true rfl) (Nat.le_of_ble_eq_true rfl) dX12_juror_148
    have t0 := lv_neT c_58 (show (0 : Int32).toInt = 0 by decide)
    have t1 := lv_neT c_63 (show (1 : Int32).toInt = 1 by decide)
    have t2 := lv_neT c_68 (show (2 : Int32).toInt = 2 by decide)
    have t3 := lv_neT c_73 (show (3 : Int32).toInt = 3 by decide)
    have t4 := lv_neT c_80 (show (4 : Int32).toInt = 4 by decide)
    have t5 := lv_neT c_86 (show (5 : Int32).toInt = 5 by decide)
    have t6 := lv_neT c_91 (show (6 : Int32).toInt = 6 by decide)
    have t97 := ((rga a2)).1
    have t98 := ((rga a2)).2
    refine lv_tableOut (tgt := 149) hx hb dX12_juror_19 (by omega) (by decide) ?_
    refine lv_aload_n hx hb dX12_juror_149 rfl (lv_at hl 0 rfl) ?_
    refine oC_i (Wc := [(h0, .inr (11, [.int 0, .ref h0_tape, .int h0_taped, .int h0_size, .int h0_limit, .int h0_to, .int h0_from, .int h0_kind, .int h0_number, .int h0_sign, .int h0_fault, .int h0_place, .long h0_word, .int h0_told, .ref h0_now, .ref h0_read, .ref h0_kept, .ref h0_snaps, .ref h0_aside, .ref h0_name, .ref h0_readName, .ref h0_keptName, .ref h0_isKept, .ref h0_onces, .int h0_snapMany, .int h0_lowest, .int h0_highest, .int h0_agreed, .int h0_jurors, .int h0_panelled, .ref h0_inSets, .int h0_surely, .int h0_asked, .ref h0_frees, .int h0_struck, .int h0_beating, .ref h0_text, .int h0_texts, .int h0_seed, .ref h0_line, .ref h0_written, .int h0_lineMany, .int h0_hasWritten, .ref h0_node, .int h0_nodes, .int h0_onesMany, .int h0_within, .int h0_top]))]) (Wr := [(aI ca h0_now 376 F_h0_now)]) (va_runV (As := []) (rest := []) ⟨hx, hb, hml, hown, hts⟩ (s_X12_refuse l D ca H.size h0 0 h0_tape h0_taped h0_size h0_limit h0_to h0_from h0_kind h0_number h0_sign h0_fault h0_place h0_word h0_told h0_now h0_read h0_kept h0_snaps h0_aside h0_name h0_readName h0_keptName h0_isKept h0_onces h0_snapMany h0_lowest h0_highest h0_agreed h0_jurors h0_panelled h0_inSets h0_surely h0_asked h0_frees h0_struck h0_beating h0_text h0_texts h0_seed h0_line h0_written h0_lineMany h0_hasWritten h0_node h0_nodes h0_onesMany h0_within h0_top i_h0_taped i_h0_size i_h0_to i_h0_snapMany i_h0_texts i_h0_lineMany i_h0_hasWritten) (cwV 0 hts gX12_juror_X12_refuse rfl rfl rfl (by decide +kernel) ⟨Nat.le_of_ble_eq_true rfl, Nat.le_of_ble_eq_true rfl⟩) (oPV (C := RX12) hK hP hD [0] rfl (by decide) 0 rfl (ci := 11) rfl rfl) rfl rfl hl.1 rfl (lv_room (Nat.le_of_ble_eq_true rfl)) dX12_juror_150 ⟨Nat.le_of_ble_eq_true rfl, Nat.le_of_ble_eq_true rfl⟩) hP hD hS hA [0] [1] rfl rfl (by decide) (by decide) (fun r_96 u H locs w_97 hP hD hS => ?_)
    obtain ⟨⟩ := u
    have hP : va_P D vwCl [(aI ca h0_now 376 F_h0_now), (h0, .inr (11, [.int 1, .ref h0_tape, .int h0_taped, .int h0_size, .int h0_limit, .int h0_to, .int h0_from, .int h0_kind, .int h0_number, .int h0_sign, .int h0_fault, .int h0_place, .long h0_word, .int h0_told, .ref h0_now, .ref h0_read, .ref h0_kept, .ref h0_snaps, .ref h0_aside, .ref h0_name, .ref h0_readName, .ref h0_keptName, .ref h0_isKept, .ref h0_onces, .int h0_snapMany, .int h0_lowest, .int h0_highest, .int h0_agreed, .int h0_jurors, .int h0_panelled, .ref h0_inSets, .int h0_surely, .int h0_asked, .ref h0_frees, .int h0_struck, .int h0_beating, .ref h0_text, .int h0_texts, .int h0_seed, .ref h0_line, .ref h0_written, .int h0_lineMany, .int h0_hasWritten, .ref h0_node, .int h0_nodes, .int h0_onesMany, .int h0_within, .int h0_top]))] H := hP
    have hD : va_D A [(aI ca h0_now 376 F_h0_now), (h0, .inr (11, [.int 1, .ref h0_tape, .int h0_taped, .int h0_size, .int h0_limit, .int h0_to, .int h0_from, .int h0_kind, .int h0_number, .int h0_sign, .int h0_fault, .int h0_place, .long h0_word, .int h0_told, .ref h0_now, .ref h0_read, .ref h0_kept, .ref h0_snaps, .ref h0_aside, .ref h0_name, .ref h0_readName, .ref h0_keptName, .ref h0_isKept, .ref h0_onces, .int h0_snapMany, .int h0_lowest, .int h0_highest, .int h0_agreed, .int h0_jurors, .int h0_panelled, .ref h0_inSets, .int h0_surely, .int h0_asked, .ref h0_frees, .int h0_struck, .int h0_beating, .ref h0_text, .int h0_texts, .int h0_seed, .ref h0_line, .ref h0_written, .int h0_lineMany, .int h0_hasWritten, .ref h0_node, .int h0_nodes, .int h0_onesMany, .int h0_within, .int h0_top]))] := hD
    try dsimp only at w_97
    have h_98 := w_97
    subst h_98
    exact oE_i hx hb hr rfl hlocks hP hD hS 1 [1, 0] rfl (by decide) (⟨by decide, by decide⟩ : rg 0 1 (1 : Int32)) (Nat.le_of_ble_eq_true rfl) (Nat.le_of_ble_eq_true rfl) dX12_juror_153
theorem dX12_isCase_0 : decode cX12_isCase 0 = .ok (.iload_n 1, 1) := by decide +kernel
theorem dX12_isCase_1 : decode cX12_isCase 1 = .ok (.iconst 0, 1) := by decide +kernel
theorem dX12_isCase_2 : decode cX12_isCase 2 = .ok (.aload_n 0, 1) := by decide +kernel
theorem dX12_isCase_3 : decode cX12_isCase 3 = .ok (.getfield 98, 3) := by decide +kernel
theorem dX12_isCase_6 : decode cX12_isCase 6 = .ok (.iconst 2, 1) := by decide +kernel
theorem dX12_isCase_7 : decode cX12_isCase 7 = .ok (.iaload, 1) := by decide +kernel
theorem dX12_isCase_8 : decode cX12_isCase 8 = .ok (.iconst 1, 1) := by decide +kernel
theorem dX12_isCase_9 : decode cX12_isCase 9 = .ok (.isub, 1) := by decide +kernel
theorem dX12_isCase_10 : decode cX12_isCase 10 = .ok (.invokestatic 75, 3) := by decide +kernel
theorem dX12_isCase_13 : decode cX12_isCase 13 = .ok (.ireturn, 1) := by decide +kernel
set_option maxRecDepth 20000 in
theorem ggX12_isCase_X12_isIn : GoodIn wsX12_isCase wsX12_isIn := goodIn_r _ [5] rfl (by decide +kernel)
set_option maxRecDepth 20000 in
theorem gX12_isCase_X12_isIn : GoodIn wsX12_isCase (va_wsS RX12 75 yX12_isIn wsX12_isIn) := goodIn_app (goodIn_of _ (by decide +kernel)) ggX12_isCase_X12_isIn
set_option maxHeartbeats 4000000 in
set_option maxRecDepth 100000 in
theorem s_X12_isCase (l : Launch) (D : va_G) (ca : Nat → ClassId) (sz : Nat) (h0 : Nat) (a1 : Int32) (h0_thrown : Int32) (h0_tape : Nat) (h0_taped : Int32) (h0_size : Int32) (h0_limit : Int32) (h0_to : Int32) (h0_from : Int32) (h0_kind : Int32) (h0_number : Int32) (h0_sign : Int32) (h0_fault : Int32) (h0_place : Int32) (h0_word : Int64) (h0_told : Int32) (h0_now : Nat) (h0_read : Nat) (h0_kept : Nat) (h0_snaps : Nat) (h0_aside : Nat) (h0_name : Nat) (h0_readName : Nat) (h0_keptName : Nat) (h0_isKept : Nat) (h0_onces : Nat) (h0_snapMany : Int32) (h0_lowest : Int32) (h0_highest : Int32) (h0_agreed : Int32) (h0_jurors : Int32) (h0_panelled : Int32) (h0_inSets : Nat) (h0_surely : Int32) (h0_asked : Int32) (h0_frees : Nat) (h0_struck : Int32) (h0_beating : Int32) (h0_text : Nat) (h0_texts : Int32) (h0_seed : Int32) (h0_line : Nat) (h0_written : Nat) (h0_lineMany : Int32) (h0_hasWritten : Int32) (h0_node : Nat) (h0_nodes : Int32) (h0_onesMany : Int32) (h0_within : Int32) (h0_top : Int32) (F_h0_now : Nat → Int32) (i_h0_taped : rg 0 940 h0_taped) (i_h0_size : rg 0 940 h0_size) (i_h0_to : rg 0 940 h0_to) (i_h0_snapMany : rg 0 8 h0_snapMany) (i_h0_texts : rg 0 64 h0_texts) (i_h0_lineMany : rg 0 40 h0_lineMany) (i_h0_hasWritten : rg 0 1 h0_hasWritten) (s_h0_now_0 : sg 0 1 0 10 F_h0_now) (s_h0_now_1 : sg 1 2 0 4 F_h0_now) (s_h0_now_2 : sg 2 3 0 5 F_h0_now) (s_h0_now_3 : sg 35 36 0 1023 F_h0_now) (s_h0_now_4 : sg 44 49 0 3 F_h0_now) (s_h0_now_5 : sg 90 91 0 1023 F_h0_now) : oMet l yX12_isCase wsX12_isCase ({ frames := 1, cells := 0, slots := 0, locals := 22 } : Room) [.ref h0, .int a1] D ca sz [(h0, .inr (11, [.int h0_thrown, .ref h0_tape, .int h0_taped, .int h0_size, .int h0_limit, .int h0_to, .int h0_from, .int h0_kind, .int h0_number, .int h0_sign, .int h0_fault, .int h0_place, .long h0_word, .int h0_told, .ref h0_now, .ref h0_read, .ref h0_kept, .ref h0_snaps, .ref h0_aside, .ref h0_name, .ref h0_readName, .ref h0_keptName, .ref h0_isKept, .ref h0_onces, .int h0_snapMany, .int h0_lowest, .int h0_highest, .int h0_agreed, .int h0_jurors, .int h0_panelled, .ref h0_inSets, .int h0_surely, .int h0_asked, .ref h0_frees, .int h0_struck, .int h0_beating, .ref h0_text, .int h0_texts, .int h0_seed, .ref h0_line, .ref h0_written, .int h0_lineMany, .int h0_hasWritten, .ref h0_node, .int h0_nodes, .int h0_onesMany, .int h0_within, .int h0_top])), (aI ca h0_now 376 F_h0_now)] (oQi D (fun (r : Int32) (u : Unit) => ((r = 0)) ∨ ((r = 1) ∧ (rg 0 4 a1))) (fun (u : Unit) => [(h0, .inr (11, [.int h0_thrown, .ref h0_tape, .int h0_taped, .int h0_size, .int h0_limit, .int h0_to, .int h0_from, .int h0_kind, .int h0_number, .int h0_sign, .int h0_fault, .int h0_place, .long h0_word, .int h0_told, .ref h0_now, .ref h0_read, .ref h0_kept, .ref h0_snaps, .ref h0_aside, .ref h0_name, .ref h0_readName, .ref h0_keptName, .ref h0_isKept, .ref h0_onces, .int h0_snapMany, .int h0_lowest, .int h0_highest, .int h0_agreed, .int h0_jurors, .int h0_panelled, .ref h0_inSets, .int h0_surely, .int h0_asked, .ref h0_frees, .int h0_struck, .int h0_beating, .ref h0_text, .int h0_texts, .int h0_seed, .ref h0_line, .ref h0_written, .int h0_lineMany, .int h0_hasWritten, .ref h0_node, .int h0_nodes, .int h0_onesMany, .int h0_within, .int h0_top])), (aI ca h0_now 376 F_h0_now)])) 0 0 := by
  refine oM (cc := cX12_isCase) (maxL := 2) (ret := (some .boolean)) (by decide) rfl (Nat.le_of_ble_eq_true rfl) [(0, .ref h0), (1, .int a1)] rfl ?_
  intro p e s m below meth c A H locs ls hx hb hr hml hts hown hlocks hin hK hP hD hA hS hl
  have hown : s.vm.findClass RX12 = some m.cls := hown
  have k1 := hts (.fieldLink RX12 98 "LidCourtModel" "now" "[I") (by decide +kernel)
  have k2 : ∀ w ∈ wsX120, w ∈ wsX12_isCase := fun _ h => List.mem_cons_of_mem _ (List.mem_append_right _ h)
  refine lv_iload_n hx hb dX12_isCase_0 rfl (lv_at hl 1 rfl) ?_
  refine lv_iconst (v := 0) hx hb dX12_isCase_1 (by decide) ?_
  refine lv_aload_n hx hb dX12_isCase_2 rfl (lv_at hl 0 rfl) ?_
  refine va_get (D := D) (ci := 11) (v := .ref h0_now) (C := RX12) (T := TX12) (N := 48) hx hb hts k2 hown hK.1 hP 0 rfl rfl 14 (by decide) k1 (fun _ h9 => h9) rfl dX12_isCase_3 ?_
  refine lv_iconst (v := 2) hx hb dX12_isCase_6 (by decide) ?_
  refine va_iald hx hb hK.1 hP 1 0 rfl rfl (rg_in (⟨by decide, by decide⟩ : rg 2 2 (2 : Int32)) (by decide) (by decide)) dX12_isCase_7 ?_
  refine lv_topi (fun x_16 ex_16 => ?_)
  have h_17 : rg 0 5 x_16 := by rw [ex_16]; exact sg_at s_h0_now_2 (⟨by decide, by decide⟩ : rg 2 2 (2 : Int32)) (by decide) (by decide) (by decide)
  refine lv_iconst (v := 1) hx hb dX12_isCase_8 (by decide) ?_
  refine lv_isub hx hb dX12_isCase_9 ?_
  refine lv_topi (fun x_18 ex_18 => ?_)
  have h_19 : rg (-1) 4 x_18 := by rw [ex_18]; exact rg_sub h_17 (⟨by decide, by decide⟩ : rg 1 1 (1 : Int32)) (by decide) (by decide) (by decide) (by decide)
  have l_20 : lq x_18.toInt (x_16.toInt + (-1)) := lqm (by rw [ex_18]; have q := tsub h_17 (⟨by decide, by decide⟩ : rg 1 1 (1 : Int32)) (by decide) (by decide); have r1 := lqe (lqm (by decide) : lq (1 : Int32).toInt 1); omega)
  refine oC_i (Wc := []) (Wr := [(h0, .inr (11, [.int h0_thrown, .ref h0_tape, .int h0_taped, .int h0_size, .int h0_limit, .int h0_to, .int h0_from, .int h0_kind, .int h0_number, .int h0_sign, .int h0_fault, .int h0_place, .long h0_word, .int h0_told, .ref h0_now, .ref h0_read, .ref h0_kept, .ref h0_snaps, .ref h0_aside, .ref h0_name, .ref h0_readName, .ref h0_keptName, .ref h0_isKept, .ref h0_onces, .int h0_snapMany, .int h0_lowest, .int h0_highest, .int h0_agreed, .int h0_jurors, .int h0_panelled, .ref h0_inSets, .int h0_surely, .int h0_asked, .ref h0_frees, .int h0_struck, .int h0_beating, .ref h0_text, .int h0_texts, .int h0_seed, .ref h0_line, .ref h0_written, .int h0_lineMany, .int h0_hasWritten, .ref h0_node, .int h0_nodes, .int h0_onesMany, .int h0_within, .int h0_top])), (aI ca h0_now 376 F_h0_now)]) (va_runS (As := [.int a1, .int 0, .int x_18]) (rest := []) ⟨hx, hb, hml, hown, hts⟩ (s_X12_isIn l D ca H.size a1 0 x_18) (va_cwS 3 hts gX12_isCase_X12_isIn rfl rfl rfl (by decide +kernel) ⟨Nat.le_of_ble_eq_true rfl, Nat.le_of_ble_eq_true rfl⟩) (oPS hK hP hD [] rfl (by decide)) rfl rfl hl.1 rfl (lv_room (Nat.le_of_ble_eq_true rfl)) dX12_isCase_10 ⟨Nat.le_of_ble_eq_true rfl, Nat.le_of_ble_eq_true rfl⟩) hP hD hS hA [] [0, 1] rfl rfl (by decide) (by decide) (fun r_21 u H locs w_22 hP hD hS => ?_)
  obtain ⟨⟩ := u
  have hP : va_P D vwCl [(h0, .inr (11, [.int h0_thrown, .ref h0_tape, .int h0_taped, .int h0_size, .int h0_limit, .int h0_to, .int h0_from, .int h0_kind, .int h0_number, .int h0_sign, .int h0_fault, .int h0_place, .long h0_word, .int h0_told, .ref h0_now, .ref h0_read, .ref h0_kept, .ref h0_snaps, .ref h0_aside, .ref h0_name, .ref h0_readName, .ref h0_keptName, .ref h0_isKept, .ref h0_onces, .int h0_snapMany, .int h0_lowest, .int h0_highest, .int h0_agreed, .int h0_jurors, .int h0_panelled, .ref h0_inSets, .int h0_surely, .int h0_asked, .ref h0_frees, .int h0_struck, .int h0_beating, .ref h0_text, .int h0_texts, .int h0_seed, .ref h0_line, .ref h0_written, .int h0_lineMany, .int h0_hasWritten, .ref h0_node, .int h0_nodes, .int h0_onesMany, .int h0_within, .int h0_top])), (aI ca h0_now 376 F_h0_now)] H := hP
  have hD : va_D A [(h0, .inr (11, [.int h0_thrown, .ref h0_tape, .int h0_taped, .int h0_size, .int h0_limit, .int h0_to, .int h0_from, .int h0_kind, .int h0_number, .int h0_sign, .int h0_fault, .int h0_place, .long h0_word, .int h0_told, .ref h0_now, .ref h0_read, .ref h0_kept, .ref h0_snaps, .ref h0_aside, .ref h0_name, .ref h0_readName, .ref h0_keptName, .ref h0_isKept, .ref h0_onces, .int h0_snapMany, .int h0_lowest, .int h0_highest, .int h0_agreed, .int h0_jurors, .int h0_panelled, .ref h0_inSets, .int h0_surely, .int h0_asked, .ref h0_frees, .int h0_struck, .int h0_beating, .ref h0_text, .int h0_texts, .int h0_seed, .ref h0_line, .ref h0_written, .int h0_lineMany, .int h0_hasWritten, .ref h0_node, .int h0_nodes, .int h0_onesMany, .int h0_within, .int h0_top])), (aI ca h0_now 376 F_h0_now)] := hD
  try dsimp only at w_22
  rcases w_22 with h_23 | ⟨h_24, h_25, h_26⟩
  · skip
    subst h_23
    exact oE_i hx hb hr (by decide) hlocks hP hD hS () [0, 1] rfl (by decide) (Or.inl rfl) (Nat.le_of_ble_eq_true rfl) (Nat.le_of_ble_eq_true rfl) dX12_isCase_13
  · skip
    subst h_24
    have h_27 : rg 0 2147483647 a1 := rl_y h_25 (⟨by decide, by decide⟩ : rg 0 0 (0 : Int32)) (rga a1) (by decide) (by decide)
    have h_28 : rg 0 4 a1 := rl_x h_26 h_27 h_19 (by decide) (by decide)
    have h_29 : rg 0 4 x_18 := rl_y h_26 h_27 h_19 (by decide) (by decide)
    have h_30 : rg 1 5 x_16 := ⟨by have q := lqe l_20; have q1 := (h_29).1; have q2 := (h_17).1; omega, by have q := lqe l_20; have q1 := (h_29).2; have q2 := (h_17).2; omega⟩
    exact oE_i hx hb hr (by decide) hlocks hP hD hS () [0, 1] rfl (by decide) (Or.inr (⟨rfl, h_28⟩)) (Nat.le_of_ble_eq_true rfl) (Nat.le_of_ble_eq_true rfl) dX12_isCase_13
theorem dX12_floorOf_0 : decode cX12_floorOf 0 = .ok (.aload_n 0, 1) := by decide +kernel
theorem dX12_floorOf_1 : decode cX12_floorOf 1 = .ok (.getfield 98, 3) := by decide +kernel
theorem dX12_floorOf_4 : decode cX12_floorOf 4 = .ok (.bipush 44, 2) := by decide +kernel
theorem dX12_floorOf_6 : decode cX12_floorOf 6 = .ok (.iload_n 1, 1) := by decide +kernel
theorem dX12_floorOf_7 : decode cX12_floorOf 7 = .ok (.iadd, 1) := by decide +kernel
theorem dX12_floorOf_8 : decode cX12_floorOf 8 = .ok (.iaload, 1) := by decide +kernel
theorem dX12_floorOf_9 : decode cX12_floorOf 9 = .ok (.ireturn, 1) := by decide +kernel
set_option maxHeartbeats 4000000 in
set_option maxRecDepth 100000 in
theorem s_X12_floorOf (l : Launch) (D : va_G) (ca : Nat → ClassId) (sz : Nat) (h0 : Nat) (a1 : Int32) (h0_thrown : Int32) (h0_tape : Nat) (h0_taped : Int32) (h0_size : Int32) (h0_limit : Int32) (h0_to : Int32) (h0_from : Int32) (h0_kind : Int32) (h0_number : Int32) (h0_sign : Int32) (h0_fault : Int32) (h0_place : Int32) (h0_word : Int64) (h0_told : Int32) (h0_now : Nat) (h0_read : Nat) (h0_kept : Nat) (h0_snaps : Nat) (h0_aside : Nat) (h0_name : Nat) (h0_readName : Nat) (h0_keptName : Nat) (h0_isKept : Nat) (h0_onces : Nat) (h0_snapMany : Int32) (h0_lowest : Int32) (h0_highest : Int32) (h0_agreed : Int32) (h0_jurors : Int32) (h0_panelled : Int32) (h0_inSets : Nat) (h0_surely : Int32) (h0_asked : Int32) (h0_frees : Nat) (h0_struck : Int32) (h0_beating : Int32) (h0_text : Nat) (h0_texts : Int32) (h0_seed : Int32) (h0_line : Nat) (h0_written : Nat) (h0_lineMany : Int32) (h0_hasWritten : Int32) (h0_node : Nat) (h0_nodes : Int32) (h0_onesMany : Int32) (h0_within : Int32) (h0_top : Int32) (F_h0_now : Nat → Int32) (i_a1 : rg 0 4 a1) (i_h0_taped : rg 0 940 h0_taped) (i_h0_size : rg 0 940 h0_size) (i_h0_to : rg 0 940 h0_to) (i_h0_snapMany : rg 0 8 h0_snapMany) (i_h0_texts : rg 0 64 h0_texts) (i_h0_lineMany : rg 0 40 h0_lineMany) (i_h0_hasWritten : rg 0 1 h0_hasWritten) (s_h0_now_0 : sg 0 1 0 10 F_h0_now) (s_h0_now_1 : sg 1 2 0 4 F_h0_now) (s_h0_now_2 : sg 2 3 0 5 F_h0_now) (s_h0_now_3 : sg 35 36 0 1023 F_h0_now) (s_h0_now_4 : sg 44 49 0 3 F_h0_now) (s_h0_now_5 : sg 90 91 0 1023 F_h0_now) : oMet l yX12_floorOf wsX12_floorOf ({ frames := 0, cells := 0, slots := 0, locals := 0 } : Room) [.ref h0, .int a1] D ca sz [(h0, .inr (11, [.int h0_thrown, .ref h0_tape, .int h0_taped, .int h0_size, .int h0_limit, .int h0_to, .int h0_from, .int h0_kind, .int h0_number, .int h0_sign, .int h0_fault, .int h0_place, .long h0_word, .int h0_told, .ref h0_now, .ref h0_read, .ref h0_kept, .ref h0_snaps, .ref h0_aside, .ref h0_name, .ref h0_readName, .ref h0_keptName, .ref h0_isKept, .ref h0_onces, .int h0_snapMany, .int h0_lowest, .int h0_highest, .int h0_agreed, .int h0_jurors, .int h0_panelled, .ref h0_inSets, .int h0_surely, .int h0_asked, .ref h0_frees, .int h0_struck, .int h0_beating, .ref h0_text, .int h0_texts, .int h0_seed, .ref h0_line, .ref h0_written, .int h0_lineMany, .int h0_hasWritten, .ref h0_node, .int h0_nodes, .int h0_onesMany, .int h0_within, .int h0_top])), (aI ca h0_now 376 F_h0_now)] (oQi D (fun (r : Int32) (u : Unit) => (rg 0 3 r)) (fun (u : Unit) => [(h0, .inr (11, [.int h0_thrown, .ref h0_tape, .int h0_taped, .int h0_size, .int h0_limit, .int h0_to, .int h0_from, .int h0_kind, .int h0_number, .int h0_sign, .int h0_fault, .int h0_place, .long h0_word, .int h0_told, .ref h0_now, .ref h0_read, .ref h0_kept, .ref h0_snaps, .ref h0_aside, .ref h0_name, .ref h0_readName, .ref h0_keptName, .ref h0_isKept, .ref h0_onces, .int h0_snapMany, .int h0_lowest, .int h0_highest, .int h0_agreed, .int h0_jurors, .int h0_panelled, .ref h0_inSets, .int h0_surely, .int h0_asked, .ref h0_frees, .int h0_struck, .int h0_beating, .ref h0_text, .int h0_texts, .int h0_seed, .ref h0_line, .ref h0_written, .int h0_lineMany, .int h0_hasWritten, .ref h0_node, .int h0_nodes, .int h0_onesMany, .int h0_within, .int h0_top])), (aI ca h0_now 376 F_h0_now)])) 0 0 := by
  refine oM (cc := cX12_floorOf) (maxL := 2) (ret := (some .int)) (by decide) rfl (Nat.le_of_ble_eq_true rfl) [(0, .ref h0), (1, .int a1)] rfl ?_
  intro p e s m below meth c A H locs ls hx hb hr hml hts hown hlocks hin hK hP hD hA hS hl
  have hown : s.vm.findClass RX12 = some m.cls := hown
  have k1 := hts (.fieldLink RX12 98 "LidCourtModel" "now" "[I") (by decide +kernel)
  have k2 : ∀ w ∈ wsX120, w ∈ wsX12_floorOf := fun _ h => List.mem_cons_of_mem _ (List.mem_append_right _ h)
  refine lv_aload_n hx hb dX12_floorOf_0 rfl (lv_at hl 0 rfl) ?_
  refine va_get (D := D) (ci := 11) (v := .ref h0_now) (C := RX12) (T := TX12) (N := 48) hx hb hts k2 hown hK.1 hP 0 rfl rfl 14 (by decide) k1 (fun _ h9 => h9) rfl dX12_floorOf_1 ?_
  refine lv_bipush (v := 44) hx hb dX12_floorOf_4 (by decide) ?_
  refine lv_iload_n hx hb dX12_floorOf_6 rfl (lv_at hl 1 rfl) ?_
  refine lv_iadd hx hb dX12_floorOf_7 ?_
  refine lv_topi (fun x_6 ex_6 => ?_)
  have h_7 : rg 44 48 x_6 := by rw [ex_6]; exact rg_add (⟨by decide, by decide⟩ : rg 44 44 (44 : Int32)) i_a1 (by decide) (by decide) (by decide) (by decide)
  have l_8 : lq x_6.toInt (a1.toInt + 44) := lqm (by rw [ex_6]; have q := tadd (⟨by decide, by decide⟩ : rg 44 44 (44 : Int32)) i_a1 (by decide) (by decide); have r0 := lqe (lqm (by decide) : lq (44 : Int32).toInt 44); omega)
  refine va_iald hx hb hK.1 hP 1 0 rfl rfl (rg_in h_7 (by decide) (by decide)) dX12_floorOf_8 ?_
  refine lv_topi (fun x_9 ex_9 => ?_)
  have h_10 : rg 0 3 x_9 := by rw [ex_9]; exact sg_at s_h0_now_4 h_7 (by decide) (by decide) (by decide)
  exact oE_i hx hb hr rfl hlocks hP hD hS () [0, 1] rfl (by decide) h_10 (Nat.le_of_ble_eq_true rfl) (Nat.le_of_ble_eq_true rfl) dX12_floorOf_9
theorem dX12_trial_0 : decode cX12_trial 0 = .ok (.aload_n 0, 1) := by decide +kernel
theorem dX12_trial_1 : decode cX12_trial 1 = .ok (.iconst 0, 1) := by decide +kernel
theorem dX12_trial_2 : decode cX12_trial 2 = .ok (.putfield 1, 3) := by decide +kernel
theorem dX12_trial_5 : decode cX12_trial 5 = .ok (.aload_n 0, 1) := by decide +kernel
theorem dX12_trial_6 : decode cX12_trial 6 = .ok (.iload_n 1, 1) := by decide +kernel
theorem dX12_trial_7 : decode cX12_trial 7 = .ok (.invokevirtual 255, 3) := by decide +kernel
theorem dX12_trial_10 : decode cX12_trial 10 = .ok (.ifCond .ne 8, 3) := by decide +kernel
theorem dX12_trial_13 : decode cX12_trial 13 = .ok (.aload_n 0, 1) := by decide +kernel
theorem dX12_trial_14 : decode cX12_trial 14 = .ok (.invokevirtual 252, 3) := by decide +kernel
theorem dX12_trial_17 : decode cX12_trial 17 = .ok (.ireturn, 1) := by decide +kernel
theorem dX12_trial_18 : decode cX12_trial 18 = .ok (.iload_n 2, 1) := by decide +kernel
theorem dX12_trial_19 : decode cX12_trial 19 = .ok (.tableswitch 80 0 4 #[33, 39, 49, 59, 69], 33) := by decide +kernel
theorem dX12_trial_52 : decode cX12_trial 52 = .ok (.aload_n 0, 1) := by decide +kernel
theorem dX12_trial_53 : decode cX12_trial 53 = .ok (.iload_n 1, 1) := by decide +kernel
theorem dX12_trial_54 : decode cX12_trial 54 = .ok (.invokevirtual 258, 3) := by decide +kernel
theorem dX12_trial_57 : decode cX12_trial 57 = .ok (.ireturn, 1) := by decide +kernel
theorem dX12_trial_58 : decode cX12_trial 58 = .ok (.aload_n 0, 1) := by decide +kernel
theorem dX12_trial_59 : decode cX12_trial 59 = .ok (.getfield 98, 3) := by decide +kernel
theorem dX12_trial_62 : decode cX12_trial 62 = .ok (.bipush 114, 2) := by decide +kernel
theorem dX12_trial_64 : decode cX12_trial 64 = .ok (.iload_n 1, 1) := by decide +kernel
theorem dX12_trial_65 : decode cX12_trial 65 = .ok (.iadd, 1) := by decide +kernel
theorem dX12_trial_66 : decode cX12_trial 66 = .ok (.iaload, 1) := by decide +kernel
theorem dX12_trial_67 : decode cX12_trial 67 = .ok (.ireturn, 1) := by decide +kernel
theorem dX12_trial_68 : decode cX12_trial 68 = .ok (.aload_n 0, 1) := by decide +kernel
theorem dX12_trial_69 : decode cX12_trial 69 = .ok (.getfield 98, 3) := by decide +kernel
theorem dX12_trial_72 : decode cX12_trial 72 = .ok (.bipush 119, 2) := by decide +kernel
theorem dX12_trial_74 : decode cX12_trial 74 = .ok (.iload_n 1, 1) := by decide +kernel
theorem dX12_trial_75 : decode cX12_trial 75 = .ok (.iadd, 1) := by decide +kernel
theorem dX12_trial_76 : decode cX12_trial 76 = .ok (.iaload, 1) := by decide +kernel
theorem dX12_trial_77 : decode cX12_trial 77 = .ok (.ireturn, 1) := by decide +kernel
theorem dX12_trial_78 : decode cX12_trial 78 = .ok (.aload_n 0, 1) := by decide +kernel
theorem dX12_trial_79 : decode cX12_trial 79 = .ok (.getfield 98, 3) := by decide +kernel
theorem dX12_trial_82 : decode cX12_trial 82 = .ok (.bipush 124, 2) := by decide +kernel
theorem dX12_trial_84 : decode cX12_trial 84 = .ok (.iload_n 1, 1) := by decide +kernel
theorem dX12_trial_85 : decode cX12_trial 85 = .ok (.iadd, 1) := by decide +kernel
theorem dX12_trial_86 : decode cX12_trial 86 = .ok (.iaload, 1) := by decide +kernel
theorem dX12_trial_87 : decode cX12_trial 87 = .ok (.ireturn, 1) := by decide +kernel
theorem dX12_trial_88 : decode cX12_trial 88 = .ok (.aload_n 0, 1) := by decide +kernel
theorem dX12_trial_89 : decode cX12_trial 89 = .ok (.getfield 98, 3) := by decide +kernel
theorem dX12_trial_92 : decode cX12_trial 92 = .ok (.sipush 129, 3) := by decide +kernel
theorem dX12_trial_95 : decode cX12_trial 95 = .ok (.iload_n 1, 1) := by decide +kernel
theorem dX12_trial_96 : decode cX12_trial 96 = .ok (.iadd, 1) := by decide +kernel
theorem dX12_trial_97 : decode cX12_trial 97 = .ok (.iaload, 1) := by decide +kernel
theorem dX12_trial_98 : decode cX12_trial 98 = .ok (.ireturn, 1) := by decide +kernel
theorem dX12_trial_99 : decode cX12_trial 99 = .ok (.aload_n 0, 1) := by decide +kernel
theorem dX12_trial_100 : decode cX12_trial 100 = .ok (.invokevirtual 252, 3) := by decide +kernel
theorem dX12_trial_103 : decode cX12_trial 103 = .ok (.ireturn, 1) := by decide +kernel
set_option maxRecDepth 20000 in
theorem ggX12_trial_X12_isCase : GoodIn wsX12_trial wsX12_isCase := goodIn_r _ [7, 2, 8, 9, 6, 10, 19, 20, 21, 22, 23, 24, 25, 26, 27, 28, 29, 30, 31, 32, 33, 34, 35, 36, 37, 38, 39, 40, 41, 42, 43, 44, 45, 46, 47, 48, 49, 50, 51, 52, 53, 54, 55, 56, 57, 58, 59, 60, 61, 62, 63, 64, 65, 66] rfl (by decide +kernel)
set_option maxRecDepth 20000 in
theorem gX12_trial_X12_isCase : GoodIn wsX12_trial (wsV RX12 255 RX12 yX12_isCase wsX12_isCase) := goodIn_app (goodIn_of _ (by decide +kernel)) ggX12_trial_X12_isCase
set_option maxRecDepth 20000 in
theorem ggX12_trial_X12_refuse : GoodIn wsX12_trial wsX12_refuse := goodIn_r _ [14, 1, 19, 20, 21, 22, 23, 24, 25, 26, 27, 28, 29, 30, 31, 32, 33, 34, 35, 36, 37, 38, 39, 40, 41, 42, 43, 44, 45, 46, 47, 48, 49, 50, 51, 52, 53, 54, 55, 56, 57, 58, 59, 60, 61, 62, 63, 64, 65, 66] rfl (by decide +kernel)
set_option maxRecDepth 20000 in
theorem gX12_trial_X12_refuse : GoodIn wsX12_trial (wsV RX12 252 RX12 yX12_refuse wsX12_refuse) := goodIn_app (goodIn_of _ (by decide +kernel)) ggX12_trial_X12_refuse
set_option maxRecDepth 20000 in
theorem ggX12_trial_X12_floorOf : GoodIn wsX12_trial wsX12_floorOf := goodIn_r _ [18, 2, 19, 20, 21, 22, 23, 24, 25, 26, 27, 28, 29, 30, 31, 32, 33, 34, 35, 36, 37, 38, 39, 40, 41, 42, 43, 44, 45, 46, 47, 48, 49, 50, 51, 52, 53, 54, 55, 56, 57, 58, 59, 60, 61, 62, 63, 64, 65, 66] rfl (by decide +kernel)
set_option maxRecDepth 20000 in
theorem gX12_trial_X12_floorOf : GoodIn wsX12_trial (wsV RX12 258 RX12 yX12_floorOf wsX12_floorOf) := goodIn_app (goodIn_of _ (by decide +kernel)) ggX12_trial_X12_floorOf
set_option maxHeartbeats 4000000 in
set_option maxRecDepth 100000 in
theorem s_X12_trial (l : Launch) (D : va_G) (ca : Nat → ClassId) (sz : Nat) (h0 : Nat) (a1 : Int32) (a2 : Int32) (h0_thrown : Int32) (h0_tape : Nat) (h0_taped : Int32) (h0_size : Int32) (h0_limit : Int32) (h0_to : Int32) (h0_from : Int32) (h0_kind : Int32) (h0_number : Int32) (h0_sign : Int32) (h0_fault : Int32) (h0_place : Int32) (h0_word : Int64) (h0_told : Int32) (h0_now : Nat) (h0_read : Nat) (h0_kept : Nat) (h0_snaps : Nat) (h0_aside : Nat) (h0_name : Nat) (h0_readName : Nat) (h0_keptName : Nat) (h0_isKept : Nat) (h0_onces : Nat) (h0_snapMany : Int32) (h0_lowest : Int32) (h0_highest : Int32) (h0_agreed : Int32) (h0_jurors : Int32) (h0_panelled : Int32) (h0_inSets : Nat) (h0_surely : Int32) (h0_asked : Int32) (h0_frees : Nat) (h0_struck : Int32) (h0_beating : Int32) (h0_text : Nat) (h0_texts : Int32) (h0_seed : Int32) (h0_line : Nat) (h0_written : Nat) (h0_lineMany : Int32) (h0_hasWritten : Int32) (h0_node : Nat) (h0_nodes : Int32) (h0_onesMany : Int32) (h0_within : Int32) (h0_top : Int32) (F_h0_now : Nat → Int32) (i_h0_taped : rg 0 940 h0_taped) (i_h0_size : rg 0 940 h0_size) (i_h0_to : rg 0 940 h0_to) (i_h0_snapMany : rg 0 8 h0_snapMany) (i_h0_texts : rg 0 64 h0_texts) (i_h0_lineMany : rg 0 40 h0_lineMany) (i_h0_hasWritten : rg 0 1 h0_hasWritten) (s_h0_now_0 : sg 0 1 0 10 F_h0_now) (s_h0_now_1 : sg 1 2 0 4 F_h0_now) (s_h0_now_2 : sg 2 3 0 5 F_h0_now) (s_h0_now_3 : sg 35 36 0 1023 F_h0_now) (s_h0_now_4 : sg 44 49 0 3 F_h0_now) (s_h0_now_5 : sg 90 91 0 1023 F_h0_now) : oMet l yX12_trial wsX12_trial ({ frames := 2, cells := 0, slots := 0, locals := 43 } : Room) [.ref h0, .int a1, .int a2] D ca sz [(h0, .inr (11, [.int h0_thrown, .ref h0_tape, .int h0_taped, .int h0_size, .int h0_limit, .int h0_to, .int h0_from, .int h0_kind, .int h0_number, .int h0_sign, .int h0_fault, .int h0_place, .long h0_word, .int h0_told, .ref h0_now, .ref h0_read, .ref h0_kept, .ref h0_snaps, .ref h0_aside, .ref h0_name, .ref h0_readName, .ref h0_keptName, .ref h0_isKept, .ref h0_onces, .int h0_snapMany, .int h0_lowest, .int h0_highest, .int h0_agreed, .int h0_jurors, .int h0_panelled, .ref h0_inSets, .int h0_surely, .int h0_asked, .ref h0_frees, .int h0_struck, .int h0_beating, .ref h0_text, .int h0_texts, .int h0_seed, .ref h0_line, .ref h0_written, .int h0_lineMany, .int h0_hasWritten, .ref h0_node, .int h0_nodes, .int h0_onesMany, .int h0_within, .int h0_top])), (aI ca h0_now 376 F_h0_now)] (oQi D (fun (r : Int32) (u : Int32) => (rg 0 1 u)) (fun (u : Int32) => [(h0, .inr (11, [.int u, .ref h0_tape, .int h0_taped, .int h0_size, .int h0_limit, .int h0_to, .int h0_from, .int h0_kind, .int h0_number, .int h0_sign, .int h0_fault, .int h0_place, .long h0_word, .int h0_told, .ref h0_now, .ref h0_read, .ref h0_kept, .ref h0_snaps, .ref h0_aside, .ref h0_name, .ref h0_readName, .ref h0_keptName, .ref h0_isKept, .ref h0_onces, .int h0_snapMany, .int h0_lowest, .int h0_highest, .int h0_agreed, .int h0_jurors, .int h0_panelled, .ref h0_inSets, .int h0_surely, .int h0_asked, .ref h0_frees, .int h0_struck, .int h0_beating, .ref h0_text, .int h0_texts, .int h0_seed, .ref h0_line, .ref h0_written, .int h0_lineMany, .int h0_hasWritten, .ref h0_node, .int h0_nodes, .int h0_onesMany, .int h0_within, .int h0_top])), (aI ca h0_now 376 F_h0_now)])) 0 0 := by
  refine oM (cc := cX12_trial) (maxL := 3) (ret := (some .int)) (by decide) rfl (Nat.le_of_ble_eq_true rfl) [(0, .ref h0), (1, .int a1), (2, .int a2)] rfl ?_
  intro p e s m below meth c A H locs ls hx hb hr hml hts hown hlocks hin hK hP hD hA hS hl
  have hown : s.vm.findClass RX12 = some m.cls := hown
  have k1 := hts (.fieldLink RX12 1 "LidCourtModel" "thrown" "I") (by decide +kernel)
  have k2 : ∀ w ∈ wsX120, w ∈ wsX12_trial := fun _ h => List.mem_cons_of_mem _ (List.mem_append_right _ h)
  have k3 := hts (.fieldLink RX12 98 "LidCourtModel" "now" "[I") (by decide +kernel)
  refine lv_aload_n hx hb dX12_trial_0 rfl (lv_at hl 0 rfl) ?_
  refine lv_iconst (v := 0) hx hb dX12_trial_1 (by decide) ?_
  refine va_put (D := D) (ci := 11) (v := .int 0) (ty := .int) (C := RX12) (T := TX12) (N := 48) hx hb hts k2 tyX12 tyX12_ok nmX12 hown hK.1 hP hD hS 0 rfl rfl 0 (by decide) k1 (fun _ h9 => h9) rfl (by decide +kernel) rfl rfl (Nat.le_of_ble_eq_true rfl) dX12_trial_2 (fun H locs hP hD hS => ?_)
  have hP : va_P D vwCl [(h0, .inr (11, [.int 0, .ref h0_tape, .int h0_taped, .int h0_size, .int h0_limit, .int h0_to, .int h0_from, .int h0_kind, .int h0_number, .int h0_sign, .int h0_fault, .int h0_place, .long h0_word, .int h0_told, .ref h0_now, .ref h0_read, .ref h0_kept, .ref h0_snaps, .ref h0_aside, .ref h0_name, .ref h0_readName, .ref h0_keptName, .ref h0_isKept, .ref h0_onces, .int h0_snapMany, .int h0_lowest, .int h0_highest, .int h0_agreed, .int h0_jurors, .int h0_panelled, .ref h0_inSets, .int h0_surely, .int h0_asked, .ref h0_frees, .int h0_struck, .int h0_beating, .ref h0_text, .int h0_texts, .int h0_seed, .ref h0_line, .ref h0_written, .int h0_lineMany, .int h0_hasWritten, .ref h0_node, .int h0_nodes, .int h0_onesMany, .int h0_within, .int h0_top])), (aI ca h0_now 376 F_h0_now)] H := hP
  have hD : va_D A [(h0, .inr (11, [.int 0, .ref h0_tape, .int h0_taped, .int h0_size, .int h0_limit, .int h0_to, .int h0_from, .int h0_kind, .int h0_number, .int h0_sign, .int h0_fault, .int h0_place, .long h0_word, .int h0_told, .ref h0_now, .ref h0_read, .ref h0_kept, .ref h0_snaps, .ref h0_aside, .ref h0_name, .ref h0_readName, .ref h0_keptName, .ref h0_isKept, .ref h0_onces, .int h0_snapMany, .int h0_lowest, .int h0_highest, .int h0_agreed, .int h0_jurors, .int h0_panelled, .ref h0_inSets, .int h0_surely, .int h0_asked, .ref h0_frees, .int h0_struck, .int h0_beating, .ref h0_text, .int h0_texts, .int h0_seed, .ref h0_line, .ref h0_written, .int h0_lineMany, .int h0_hasWritten, .ref h0_node, .int h0_nodes, .int h0_onesMany, .int h0_within, .int h0_top])), (aI ca h0_now 376 F_h0_now)] := hD
  refine lv_aload_n hx hb dX12_trial_5 rfl (lv_at hl 0 rfl) ?_
  refine lv_iload_n hx hb dX12_trial_6 rfl (lv_at hl 1 rfl) ?_
  refine oC_i (Wc := [(h0, .inr (11, [.int 0, .ref h0_tape, .int h0_taped, .int h0_size, .int h0_limit, .int h0_to, .int h0_from, .int h0_kind, .int h0_number, .int h0_sign, .int h0_fault, .int h0_place, .long h0_word, .int h0_told, .ref h0_now, .ref h0_read, .ref h0_kept, .ref h0_snaps, .ref h0_aside, .ref h0_name, .ref h0_readName, .ref h0_keptName, .ref h0_isKept, .ref h0_onces, .int h0_snapMany, .int h0_lowest, .int h0_highest, .int h0_agreed, .int h0_jurors, .int h0_panelled, .ref h0_inSets, .int h0_surely, .int h0_asked, .ref h0_frees, .int h0_struck, .int h0_beating, .ref h0_text, .int h0_texts, .int h0_seed, .ref h0_line, .ref h0_written, .int h0_lineMany, .int h0_hasWritten, .ref h0_node, .int h0_nodes, .int h0_onesMany, .int h0_within, .int h0_top])), (aI ca h0_now 376 F_h0_now)]) (Wr := []) (va_runV (As := [.int a1]) (rest := []) ⟨hx, hb, hml, hown, hts⟩ (s_X12_isCase l D ca H.size h0 a1 0 h0_tape h0_taped h0_size h0_limit h0_to h0_from h0_kind h0_number h0_sign h0_fault h0_place h0_word h0_told h0_now h0_read h0_kept h0_snaps h0_aside h0_name h0_readName h0_keptName h0_isKept h0_onces h0_snapMany h0_lowest h0_highest h0_agreed h0_jurors h0_panelled h0_inSets h0_surely h0_asked h0_frees h0_struck h0_beating h0_text h0_texts h0_seed h0_line h0_written h0_lineMany h0_hasWritten h0_node h0_nodes h0_onesMany h0_within h0_top F_h0_now i_h0_taped i_h0_size i_h0_to i_h0_snapMany i_h0_texts i_h0_lineMany i_h0_hasWritten s_h0_now_0 s_h0_now_1 s_h0_now_2 s_h0_now_3 s_h0_now_4 s_h0_now_5) (cwV 1 hts gX12_trial_X12_isCase rfl rfl rfl (by decide +kernel) ⟨Nat.le_of_ble_eq_true rfl, Nat.le_of_ble_eq_true rfl⟩) (oPV (C := RX12) hK hP hD [0, 1] rfl (by decide) 0 rfl (ci := 11) rfl rfl) rfl rfl hl.1 rfl (lv_room (Nat.le_of_ble_eq_true rfl)) dX12_trial_7 ⟨Nat.le_of_ble_eq_true rfl, Nat.le_of_ble_eq_true rfl⟩) hP hD hS hA [0, 1] [] rfl rfl (by decide) (by decide) (fun r_36 u H locs w_37 hP hD hS => ?_)
  obtain ⟨⟩ := u
  have hP : va_P D vwCl [(h0, .inr (11, [.int 0, .ref h0_tape, .int h0_taped, .int h0_size, .int h0_limit, .int h0_to, .int h0_from, .int h0_kind, .int h0_number, .int h0_sign, .int h0_fault, .int h0_place, .long h0_word, .int h0_told, .ref h0_now, .ref h0_read, .ref h0_kept, .ref h0_snaps, .ref h0_aside, .ref h0_name, .ref h0_readName, .ref h0_keptName, .ref h0_isKept, .ref h0_onces, .int h0_snapMany, .int h0_lowest, .int h0_highest, .int h0_agreed, .int h0_jurors, .int h0_panelled, .ref h0_inSets, .int h0_surely, .int h0_asked, .ref h0_frees, .int h0_struck, .int h0_beating, .ref h0_text, .int h0_texts, .int h0_seed, .ref h0_line, .ref h0_written, .int h0_lineMany, .int h0_hasWritten, .ref h0_node, .int h0_nodes, .int h0_onesMany, .int h0_within, .int h0_top])), (aI ca h0_now 376 F_h0_now)] H := hP
  have hD : va_D A [(h0, .inr (11, [.int 0, .ref h0_tape, .int h0_taped, .int h0_size, .int h0_limit, .int h0_to, .int h0_from, .int h0_kind, .int h0_number, .int h0_sign, .int h0_fault, .int h0_place, .long h0_word, .int h0_told, .ref h0_now, .ref h0_read, .ref h0_kept, .ref h0_snaps, .ref h0_aside, .ref h0_name, .ref h0_readName, .ref h0_keptName, .ref h0_isKept, .ref h0_onces, .int h0_snapMany, .int h0_lowest, .int h0_highest, .int h0_agreed, .int h0_jurors, .int h0_panelled, .ref h0_inSets, .int h0_surely, .int h0_asked, .ref h0_frees, .int h0_struck, .int h0_beating, .ref h0_text, .int h0_texts, .int h0_seed, .ref h0_line, .ref h0_written, .int h0_lineMany, .int h0_hasWritten, .ref h0_node, .int h0_nodes, .int h0_onesMany, .int h0_within, .int h0_top])), (aI ca h0_now 376 F_h0_now)] := hD
  try dsimp only at w_37
  rcases w_37 with h_38 | ⟨h_39, h_40⟩
  · skip
    subst h_38
    refine lv_if_ne (tgt := 18) hx hb dX12_trial_10 (by decide) (fun c => absurd (by decide) c) (fun _ => ?_)
    refine lv_aload_n hx hb dX12_trial_13 rfl (lv_at hl 0 rfl) ?_
    refine oC_i (Wc := [(h0, .inr (11, [.int 0, .ref h0_tape, .int h0_taped, .int h0_size, .int h0_limit, .int h0_to, .int h0_from, .int h0_kind, .int h0_number, .int h0_sign, .int h0_fault, .int h0_place, .long h0_word, .int h0_told, .ref h0_now, .ref h0_read, .ref h0_kept, .ref h0_snaps, .ref h0_aside, .ref h0_name, .ref h0_readName, .ref h0_keptName, .ref h0_isKept, .ref h0_onces, .int h0_snapMany, .int h0_lowest, .int h0_highest, .int h0_agreed, .int h0_jurors, .int h0_panelled, .ref h0_inSets, .int h0_surely, .int h0_asked, .ref h0_frees, .int h0_struck, .int h0_beating, .ref h0_text, .int h0_texts, .int h0_seed, .ref h0_line, .ref h0_written, .int h0_lineMany, .int h0_hasWritten, .ref h0_node, .int h0_nodes, .int h0_onesMany, .int h0_within, .int h0_top]))]) (Wr := [(aI ca h0_now 376 F_h0_now)]) (va_runV (As := []) (rest := []) ⟨hx, hb, hml, hown, hts⟩ (s_X12_refuse l D ca H.size h0 0 h0_tape h0_taped h0_size h0_limit h0_to h0_from h0_kind h0_number h0_sign h0_fault h0_place h0_word h0_told h0_now h0_read h0_kept h0_snaps h0_aside h0_name h0_readName h0_keptName h0_isKept h0_onces h0_snapMany h0_lowest h0_highest h0_agreed h0_jurors h0_panelled h0_inSets h0_surely h0_asked h0_frees h0_struck h0_beating h0_text h0_texts h0_seed h0_line h0_written h0_lineMany h0_hasWritten h0_node h0_nodes h0_onesMany h0_within h0_top i_h0_taped i_h0_size i_h0_to i_h0_snapMany i_h0_texts i_h0_lineMany i_h0_hasWritten) (cwV 0 hts gX12_trial_X12_refuse rfl rfl rfl (by decide +kernel) ⟨Nat.le_of_ble_eq_true rfl, Nat.le_of_ble_eq_true rfl⟩) (oPV (C := RX12) hK hP hD [0] rfl (by decide) 0 rfl (ci := 11) rfl rfl) rfl rfl hl.1 rfl (lv_room (Nat.le_of_ble_eq_true rfl)) dX12_trial_14 ⟨Nat.le_of_ble_eq_true rfl, Nat.le_of_ble_eq_true rfl⟩) hP hD hS hA [0] [1] rfl rfl (by decide) (by decide) (fun r_41 u H locs w_42 hP hD hS => ?_)
    obtain ⟨⟩ := u
    have hP : va_P D vwCl [(aI ca h0_now 376 F_h0_now), (h0, .inr (11, [.int 1, .ref h0_tape, .int h0_taped, .int h0_size, .int h0_limit, .int h0_to, .int h0_from, .int h0_kind, .int h0_number, .int h0_sign, .int h0_fault, .int h0_place, .long h0_word, .int h0_told, .ref h0_now, .ref h0_read, .ref h0_kept, .ref h0_snaps, .ref h0_aside, .ref h0_name, .ref h0_readName, .ref h0_keptName, .ref h0_isKept, .ref h0_onces, .int h0_snapMany, .int h0_lowest, .int h0_highest, .int h0_agreed, .int h0_jurors, .int h0_panelled, .ref h0_inSets, .int h0_surely, .int h0_asked, .ref h0_frees, .int h0_struck, .int h0_beating, .ref h0_text, .int h0_texts, .int h0_seed, .ref h0_line, .ref h0_written, .int h0_lineMany, .int h0_hasWritten, .ref h0_node, .int h0_nodes, .int h0_onesMany, .int h0_within, .int h0_top]))] H := hP
    have hD : va_D A [(aI ca h0_now 376 F_h0_now), (h0, .inr (11, [.int 1, .ref h0_tape, .int h0_taped, .int h0_size, .int h0_limit, .int h0_to, .int h0_from, .int h0_kind, .int h0_number, .int h0_sign, .int h0_fault, .int h0_place, .long h0_word, .int h0_told, .ref h0_now, .ref h0_read, .ref h0_kept, .ref h0_snaps, .ref h0_aside, .ref h0_name, .ref h0_readName, .ref h0_keptName, .ref h0_isKept, .ref h0_onces, .int h0_snapMany, .int h0_lowest, .int h0_highest, .int h0_agreed, .int h0_jurors, .int h0_panelled, .ref h0_inSets, .int h0_surely, .int h0_asked, .ref h0_frees, .int h0_struck, .int h0_beating, .ref h0_text, .int h0_texts, .int h0_seed, .ref h0_line, .ref h0_written, .int h0_lineMany, .int h0_hasWritten, .ref h0_node, .int h0_nodes, .int h0_onesMany, .int h0_within, .int h0_top]))] := hD
    try dsimp only at w_42
    have h_43 := w_42
    subst h_43
    exact oE_i hx hb hr rfl hlocks hP hD hS 1 [1, 0] rfl (by decide) (⟨by decide, by decide⟩ : rg 0 1 (1 : Int32)) (Nat.le_of_ble_eq_true rfl) (Nat.le_of_ble_eq_true rfl) dX12_trial_17
  · skip
    subst h_39
    refine lv_if_ne (tgt := 18) hx hb dX12_trial_10 (by decide) (fun _ => ?_) (fun c => absurd c (by decide))
    refine lv_iload_n hx hb dX12_trial_18 rfl (lv_at hl 2 rfl) ?_
    by_cases c_44 : a2 = 0
    · skip
      refine oti 0 c_44 ?_
      refine lv_tableIn (off := 33) (tgt := 52) hx hb dX12_trial_19 (by decide) (by decide) (by decide) (by decide) ?_
      refine lv_aload_n hx hb dX12_trial_52 rfl (lv_at hl 0 rfl) ?_
      refine lv_iload_n hx hb dX12_trial_53 rfl (lv_at hl 1 rfl) ?_
      refine oC_i (Wc := [(h0, .inr (11, [.int 0, .ref h0_tape, .int h0_taped, .int h0_size, .int h0_limit, .int h0_to, .int h0_from, .int h0_kind, .int h0_number, .int h0_sign, .int h0_fault, .int h0_place, .long h0_word, .int h0_told, .ref h0_now, .ref h0_read, .ref h0_kept, .ref h0_snaps, .ref h0_aside, .ref h0_name, .ref h0_readName, .ref h0_keptName, .ref h0_isKept, .ref h0_onces, .int h0_snapMany, .int h0_lowest, .int h0_highest, .int h0_agreed, .int h0_jurors, .int h0_panelled, .ref h0_inSets, .int h0_surely, .int h0_asked, .ref h0_frees, .int h0_struck, .int h0_beating, .ref h0_text, .int h0_texts, .int h0_seed, .ref h0_line, .ref h0_written, .int h0_lineMany, .int h0_hasWritten, .ref h0_node, .int h0_nodes, .int h0_onesMany, .int h0_within, .int h0_top])), (aI ca h0_now 376 F_h0_now)]) (Wr := []) (va_runV (As := [.int a1]) (rest := []) ⟨hx, hb, hml, hown, hts⟩ (s_X12_floorOf l D ca H.size h0 a1 0 h0_tape h0_taped h0_size h0_limit h0_to h0_from h0_kind h0_number h0_sign h0_fault h0_place h0_word h0_told h0_now h0_read h0_kept h0_snaps h0_aside h0_name h0_readName h0_keptName h0_isKept h0_onces h0_snapMany h0_lowest h0_highest h0_agreed h0_jurors h0_panelled h0_inSets h0_surely h0_asked h0_frees h0_struck h0_beating h0_text h0_texts h0_seed h0_line h0_written h0_lineMany h0_hasWritten h0_node h0_nodes h0_onesMany h0_within h0_top F_h0_now h_40 i_h0_taped i_h0_size i_h0_to i_h0_snapMany i_h0_texts i_h0_lineMany i_h0_hasWritten s_h0_now_0 s_h0_now_1 s_h0_now_2 s_h0_now_3 s_h0_now_4 s_h0_now_5) (cwV 1 hts gX12_trial_X12_floorOf rfl rfl rfl (by decide +kernel) ⟨Nat.le_of_ble_eq_true rfl, Nat.le_of_ble_eq_true rfl⟩) (oPV (C := RX12) hK hP hD [0, 1] rfl (by decide) 0 rfl (ci := 11) rfl rfl) rfl rfl hl.1 rfl (lv_room (Nat.le_of_ble_eq_true rfl)) dX12_trial_54 ⟨Nat.le_of_ble_eq_true rfl, Nat.le_of_ble_eq_true rfl⟩) hP hD hS hA [0, 1] [] rfl rfl (by decide) (by decide) (fun r_45 u H locs w_46 hP hD hS => ?_)
      obtain ⟨⟩ := u
      have hP : va_P D vwCl [(h0, .inr (11, [.int 0, .ref h0_tape, .int h0_taped, .int h0_size, .int h0_limit, .int h0_to, .int h0_from, .int h0_kind, .int h0_number, .int h0_sign, .int h0_fault, .int h0_place, .long h0_word, .int h0_told, .ref h0_now, .ref h0_read, .ref h0_kept, .ref h0_snaps, .ref h0_aside, .ref h0_name, .ref h0_readName, .ref h0_keptName, .ref h0_isKept, .ref h0_onces, .int h0_snapMany, .int h0_lowest, .int h0_highest, .int h0_agreed, .int h0_jurors, .int h0_panelled, .ref h0_inSets, .int h0_surely, .int h0_asked, .ref h0_frees, .int h0_struck, .int h0_beating, .ref h0_text, .int h0_texts, .int h0_seed, .ref h0_line, .ref h0_written, .int h0_lineMany, .int h0_hasWritten, .ref h0_node, .int h0_nodes, .int h0_onesMany, .int h0_within, .int h0_top])), (aI ca h0_now 376 F_h0_now)] H := hP
      have hD : va_D A [(h0, .inr (11, [.int 0, .ref h0_tape, .int h0_taped, .int h0_size, .int h0_limit, .int h0_to, .int h0_from, .int h0_kind, .int h0_number, .int h0_sign, .int h0_fault, .int h0_place, .long h0_word, .int h0_told, .ref h0_now, .ref h0_read, .ref h0_kept, .ref h0_snaps, .ref h0_aside, .ref h0_name, .ref h0_readName, .ref h0_keptName, .ref h0_isKept, .ref h0_onces, .int h0_snapMany, .int h0_lowest, .int h0_highest, .int h0_agreed, .int h0_jurors, .int h0_panelled, .ref h0_inSets, .int h0_surely, .int h0_asked, .ref h0_frees, .int h0_struck, .int h0_beating, .ref h0_text, .int h0_texts, .int h0_seed, .ref h0_line, .ref h0_written, .int h0_lineMany, .int h0_hasWritten, .ref h0_node, .int h0_nodes, .int h0_onesMany, .int h0_within, .int h0_top])), (aI ca h0_now 376 F_h0_now)] := hD
      try dsimp only at w_46
      have h_47 := w_46
      exact oE_i hx hb hr rfl hlocks hP hD hS 0 [0, 1] rfl (by decide) (⟨by decide, by decide⟩ : rg 0 1 (0 : Int32)) (Nat.le_of_ble_eq_true rfl) (Nat.le_of_ble_eq_true rfl) dX12_trial_57
    by_cases c_48 : a2 = 1
    · skip
      refine oti 1 c_48 ?_
      refine lv_tableIn (off := 39) (tgt := 58) hx hb dX12_trial_19 (by decide) (by decide) (by decide) (by decide) ?_
      refine lv_aload_n hx hb dX12_trial_58 rfl (lv_at hl 0 rfl) ?_
      refine va_get (D := D) (ci := 11) (v := .ref h0_now) (C := RX12) (T := TX12) (N := 48) hx hb hts k2 hown hK.1 hP 0 rfl rfl 14 (by decide) k3 (fun _ h9 => h9) rfl dX12_trial_59 ?_
      refine lv_bipush (v := 114) hx hb dX12_trial_62 (by decide) ?_
      refine lv_iload_n hx hb dX12_trial_64 rfl (lv_at hl 1 rfl) ?_
      refine lv_iadd hx hb dX12_trial_65 ?_
      refine lv_topi (fun x_49 ex_49 => ?_)
      have h_50 : rg 114 118 x_49 := by rw [ex_49]; exact rg_add (⟨by decide, by decide⟩ : rg 114 114 (114 : Int32)) h_40 (by decide) (by decide) (by decide) (by decide)
      have l_51 : lq x_49.toInt (a1.toInt + 114) := lqm (by rw [ex_49]; have q := tadd (⟨by decide, by decide⟩ : rg 114 114 (114 : Int32)) h_40 (by decide) (by decide); have r0 := lqe (lqm (by decide) : lq (114 : Int32).toInt 114); omega)
      refine va_iald hx hb hK.1 hP 1 0 rfl rfl (rg_in h_50 (by decide) (by decide)) dX12_trial_66 ?_
      refine lv_topi (fun x_52 ex_52 => ?_)
      exact oE_i hx hb hr rfl hlocks hP hD hS 0 [0, 1] rfl (by decide) (⟨by decide, by decide⟩ : rg 0 1 (0 : Int32)) (Nat.le_of_ble_eq_true rfl) (Nat.le_of_ble_eq_true rfl) dX12_trial_67
    by_cases c_53 : a2 = 2
    · skip
      refine oti 2 c_53 ?_
      refine lv_tableIn (off := 49) (tgt := 68) hx hb dX12_trial_19 (by decide) (by decide) (by decide) (by decide) ?_
      refine lv_aload_n hx hb dX12_trial_68 rfl (lv_at hl 0 rfl) ?_
      refine va_get (D := D) (ci := 11) (v := .ref h0_now) (C := RX12) (T := TX12) (N := 48) hx hb hts k2 hown hK.1 hP 0 rfl rfl 14 (by decide) k3 (fun _ h9 => h9) rfl dX12_trial_69 ?_
      refine lv_bipush (v := 119) hx hb dX12_trial_72 (by decide) ?_
      refine lv_iload_n hx hb dX12_trial_74 rfl (lv_at hl 1 rfl) ?_
      refine lv_iadd hx hb dX12_trial_75 ?_
      refine lv_topi (fun x_54 ex_54 => ?_)
      have h_55 : rg 119 123 x_54 := by rw [ex_54]; exact rg_add (⟨by decide, by decide⟩ : rg 119 119 (119 : Int32)) h_40 (by decide) (by decide) (by decide) (by decide)
      have l_56 : lq x_54.toInt (a1.toInt + 119) := lqm (by rw [ex_54]; have q := tadd (⟨by decide, by decide⟩ : rg 119 119 (119 : Int32)) h_40 (by decide) (by decide); have r0 := lqe (lqm (by decide) : lq (119 : Int32).toInt 119); omega)
      refine va_iald hx hb hK.1 hP 1 0 rfl rfl (rg_in h_55 (by decide) (by decide)) dX12_trial_76 ?_
      refine lv_topi (fun x_57 ex_57 => ?_)
      exact oE_i hx hb hr rfl hlocks hP hD hS 0 [0, 1] rfl (by decide) (⟨by decide, by decide⟩ : rg 0 1 (0 : Int32)) (Nat.le_of_ble_eq_true rfl) (Nat.le_of_ble_eq_true rfl) dX12_trial_77
    by_cases c_58 : a2 = 3
    · skip
      refine oti 3 c_58 ?_
      refine lv_tableIn (off := 59) (tgt := 78) hx hb dX12_trial_19 (by decide) (by decide) (by decide) (by decide) ?_
      refine lv_aload_n hx hb dX12_trial_78 rfl (lv_at hl 0 rfl) ?_
      refine va_get (D := D) (ci := 11) (v := .ref h0_now) (C := RX12) (T := TX12) (N := 48) hx hb hts k2 hown hK.1 hP 0 rfl rfl 14 (by decide) k3 (fun _ h9 => h9) rfl dX12_trial_79 ?_
      refine lv_bipush (v := 124) hx hb dX12_trial_82 (by decide) ?_
      refine lv_iload_n hx hb dX12_trial_84 rfl (lv_at hl 1 rfl) ?_
      refine lv_iadd hx hb dX12_trial_85 ?_
      refine lv_topi (fun x_59 ex_59 => ?_)
      have h_60 : rg 124 128 x_59 := by rw [ex_59]; exact rg_add (⟨by decide, by decide⟩ : rg 124 124 (124 : Int32)) h_40 (by decide) (by decide) (by decide) (by decide)
      have l_61 : lq x_59.toInt (a1.toInt + 124) := lqm (by rw [ex_59]; have q := tadd (⟨by decide, by decide⟩ : rg 124 124 (124 : Int32)) h_40 (by decide) (by decide); have r0 := lqe (lqm (by decide) : lq (124 : Int32).toInt 124); omega)
      refine va_iald hx hb hK.1 hP 1 0 rfl rfl (rg_in h_60 (by decide) (by decide)) dX12_trial_86 ?_
      refine lv_topi (fun x_62 ex_62 => ?_)
      exact oE_i hx hb hr rfl hlocks hP hD hS 0 [0, 1] rfl (by decide) (⟨by decide, by decide⟩ : rg 0 1 (0 : Int32)) (Nat.le_of_ble_eq_true rfl) (Nat.le_of_ble_eq_true rfl) dX12_trial_87
    by_cases c_63 : a2 = 4
    · skip
      refine oti 4 c_63 ?_
      refine lv_tableIn (off := 69) (tgt := 88) hx hb dX12_trial_19 (by decide) (by decide) (by decide) (by decide) ?_
      refine lv_aload_n hx hb dX12_trial_88 rfl (lv_at hl 0 rfl) ?_
      refine va_get (D := D) (ci := 11) (v := .ref h0_now) (C := RX12) (T := TX12) (N := 48) hx hb hts k2 hown hK.1 hP 0 rfl rfl 14 (by decide) k3 (fun _ h9 => h9) rfl dX12_trial_89 ?_
      refine lv_sipush (v := 129) hx hb dX12_trial_92 (by decide) ?_
      refine lv_iload_n hx hb dX12_trial_95 rfl (lv_at hl 1 rfl) ?_
      refine lv_iadd hx hb dX12_trial_96 ?_
      refine lv_topi (fun x_64 ex_64 => ?_)
      have h_65 : rg 129 133 x_64 := by rw [ex_64]; exact rg_add (⟨by decide, by decide⟩ : rg 129 129 (129 : Int32)) h_40 (by decide) (by decide) (by decide) (by decide)
      have l_66 : lq x_64.toInt (a1.toInt + 129) := lqm (by rw [ex_64]; have q := tadd (⟨by decide, by decide⟩ : rg 129 129 (129 : Int32)) h_40 (by decide) (by decide); have r0 := lqe (lqm (by decide) : lq (129 : Int32).toInt 129); omega)
      refine va_iald hx hb hK.1 hP 1 0 rfl rfl (rg_in h_65 (by decide) (by decide)) dX12_trial_97 ?_
      refine lv_topi (fun x_67 ex_67 => ?_)
      exact oE_i hx hb hr rfl hlocks hP hD hS 0 [0, 1] rfl (by decide) (⟨by decide, by decide⟩ : rg 0 1 (0 : Int32)) (Nat.le_of_ble_eq_true rfl) (Nat.le_of_ble_eq_true rfl) dX12_trial_98
    have t0 := lv_neT c_44 (show (0 : Int32).toInt = 0 by decide)
    have t1 := lv_neT c_48 (show (1 : Int32).toInt = 1 by decide)
    have t2 := lv_neT c_53 (show (2 : Int32).toInt = 2 by decide)
    have t3 := lv_neT c_58 (show (3 : Int32).toInt = 3 by decide)
    have t4 := lv_neT c_63 (show (4 : Int32).toInt = 4 by decide)
    have t97 := ((rga a2)).1
    have t98 := ((rga a2)).2
    refine lv_tableOut (tgt := 99) hx hb dX12_trial_19 (by omega) (by decide) ?_
    refine lv_aload_n hx hb dX12_trial_99 rfl (lv_at hl 0 rfl) ?_
    refine oC_i (Wc := [(h0, .inr (11, [.int 0, .ref h0_tape, .int h0_taped, .int h0_size, .int h0_limit, .int h0_to, .int h0_from, .int h0_kind, .int h0_number, .int h0_sign, .int h0_fault, .int h0_place, .long h0_word, .int h0_told, .ref h0_now, .ref h0_read, .ref h0_kept, .ref h0_snaps, .ref h0_aside, .ref h0_name, .ref h0_readName, .ref h0_keptName, .ref h0_isKept, .ref h0_onces, .int h0_snapMany, .int h0_lowest, .int h0_highest, .int h0_agreed, .int h0_jurors, .int h0_panelled, .ref h0_inSets, .int h0_surely, .int h0_asked, .ref h0_frees, .int h0_struck, .int h0_beating, .ref h0_text, .int h0_texts, .int h0_seed, .ref h0_line, .ref h0_written, .int h0_lineMany, .int h0_hasWritten, .ref h0_node, .int h0_nodes, .int h0_onesMany, .int h0_within, .int h0_top]))]) (Wr := [(aI ca h0_now 376 F_h0_now)]) (va_runV (As := []) (rest := []) ⟨hx, hb, hml, hown, hts⟩ (s_X12_refuse l D ca H.size h0 0 h0_tape h0_taped h0_size h0_limit h0_to h0_from h0_kind h0_number h0_sign h0_fault h0_place h0_word h0_told h0_now h0_read h0_kept h0_snaps h0_aside h0_name h0_readName h0_keptName h0_isKept h0_onces h0_snapMany h0_lowest h0_highest h0_agreed h0_jurors h0_panelled h0_inSets h0_surely h0_asked h0_frees h0_struck h0_beating h0_text h0_texts h0_seed h0_line h0_written h0_lineMany h0_hasWritten h0_node h0_nodes h0_onesMany h0_within h0_top i_h0_taped i_h0_size i_h0_to i_h0_snapMany i_h0_texts i_h0_lineMany i_h0_hasWritten) (cwV 0 hts gX12_trial_X12_refuse rfl rfl rfl (by decide +kernel) ⟨Nat.le_of_ble_eq_true rfl, Nat.le_of_ble_eq_true rfl⟩) (oPV (C := RX12) hK hP hD [0] rfl (by decide) 0 rfl (ci := 11) rfl rfl) rfl rfl hl.1 rfl (lv_room (Nat.le_of_ble_eq_true rfl)) dX12_trial_100 ⟨Nat.le_of_ble_eq_true rfl, Nat.le_of_ble_eq_true rfl⟩) hP hD hS hA [0] [1] rfl rfl (by decide) (by decide) (fun r_68 u H locs w_69 hP hD hS => ?_)
    obtain ⟨⟩ := u
    have hP : va_P D vwCl [(aI ca h0_now 376 F_h0_now), (h0, .inr (11, [.int 1, .ref h0_tape, .int h0_taped, .int h0_size, .int h0_limit, .int h0_to, .int h0_from, .int h0_kind, .int h0_number, .int h0_sign, .int h0_fault, .int h0_place, .long h0_word, .int h0_told, .ref h0_now, .ref h0_read, .ref h0_kept, .ref h0_snaps, .ref h0_aside, .ref h0_name, .ref h0_readName, .ref h0_keptName, .ref h0_isKept, .ref h0_onces, .int h0_snapMany, .int h0_lowest, .int h0_highest, .int h0_agreed, .int h0_jurors, .int h0_panelled, .ref h0_inSets, .int h0_surely, .int h0_asked, .ref h0_frees, .int h0_struck, .int h0_beating, .ref h0_text, .int h0_texts, .int h0_seed, .ref h0_line, .ref h0_written, .int h0_lineMany, .int h0_hasWritten, .ref h0_node, .int h0_nodes, .int h0_onesMany, .int h0_within, .int h0_top]))] H := hP
    have hD : va_D A [(aI ca h0_now 376 F_h0_now), (h0, .inr (11, [.int 1, .ref h0_tape, .int h0_taped, .int h0_size, .int h0_limit, .int h0_to, .int h0_from, .int h0_kind, .int h0_number, .int h0_sign, .int h0_fault, .int h0_place, .long h0_word, .int h0_told, .ref h0_now, .ref h0_read, .ref h0_kept, .ref h0_snaps, .ref h0_aside, .ref h0_name, .ref h0_readName, .ref h0_keptName, .ref h0_isKept, .ref h0_onces, .int h0_snapMany, .int h0_lowest, .int h0_highest, .int h0_agreed, .int h0_jurors, .int h0_panelled, .ref h0_inSets, .int h0_surely, .int h0_asked, .ref h0_frees, .int h0_struck, .int h0_beating, .ref h0_text, .int h0_texts, .int h0_seed, .ref h0_line, .ref h0_written, .int h0_lineMany, .int h0_hasWritten, .ref h0_node, .int h0_nodes, .int h0_onesMany, .int h0_within, .int h0_top]))] := hD
    try dsimp only at w_69
    have h_70 := w_69
    subst h_70
    exact oE_i hx hb hr rfl hlocks hP hD hS 1 [1, 0] rfl (by decide) (⟨by decide, by decide⟩ : rg 0 1 (1 : Int32)) (Nat.le_of_ble_eq_true rfl) (Nat.le_of_ble_eq_true rfl) dX12_trial_103
theorem dX12_isFloor_0 : decode cX12_isFloor 0 = .ok (.iload_n 1, 1) := by decide +kernel
theorem dX12_isFloor_1 : decode cX12_isFloor 1 = .ok (.iconst 0, 1) := by decide +kernel
theorem dX12_isFloor_2 : decode cX12_isFloor 2 = .ok (.aload_n 0, 1) := by decide +kernel
theorem dX12_isFloor_3 : decode cX12_isFloor 3 = .ok (.getfield 98, 3) := by decide +kernel
theorem dX12_isFloor_6 : decode cX12_isFloor 6 = .ok (.iconst 1, 1) := by decide +kernel
theorem dX12_isFloor_7 : decode cX12_isFloor 7 = .ok (.iaload, 1) := by decide +kernel
theorem dX12_isFloor_8 : decode cX12_isFloor 8 = .ok (.iconst 1, 1) := by decide +kernel
theorem dX12_isFloor_9 : decode cX12_isFloor 9 = .ok (.isub, 1) := by decide +kernel
theorem dX12_isFloor_10 : decode cX12_isFloor 10 = .ok (.invokestatic 75, 3) := by decide +kernel
theorem dX12_isFloor_13 : decode cX12_isFloor 13 = .ok (.ireturn, 1) := by decide +kernel
set_option maxRecDepth 20000 in
theorem ggX12_isFloor_X12_isIn : GoodIn wsX12_isFloor wsX12_isIn := goodIn_r _ [5] rfl (by decide +kernel)
set_option maxRecDepth 20000 in
theorem gX12_isFloor_X12_isIn : GoodIn wsX12_isFloor (va_wsS RX12 75 yX12_isIn wsX12_isIn) := goodIn_app (goodIn_of _ (by decide +kernel)) ggX12_isFloor_X12_isIn
set_option maxHeartbeats 4000000 in
set_option maxRecDepth 100000 in
theorem s_X12_isFloor (l : Launch) (D : va_G) (ca : Nat → ClassId) (sz : Nat) (h0 : Nat) (a1 : Int32) (h0_thrown : Int32) (h0_tape : Nat) (h0_taped : Int32) (h0_size : Int32) (h0_limit : Int32) (h0_to : Int32) (h0_from : Int32) (h0_kind : Int32) (h0_number : Int32) (h0_sign : Int32) (h0_fault : Int32) (h0_place : Int32) (h0_word : Int64) (h0_told : Int32) (h0_now : Nat) (h0_read : Nat) (h0_kept : Nat) (h0_snaps : Nat) (h0_aside : Nat) (h0_name : Nat) (h0_readName : Nat) (h0_keptName : Nat) (h0_isKept : Nat) (h0_onces : Nat) (h0_snapMany : Int32) (h0_lowest : Int32) (h0_highest : Int32) (h0_agreed : Int32) (h0_jurors : Int32) (h0_panelled : Int32) (h0_inSets : Nat) (h0_surely : Int32) (h0_asked : Int32) (h0_frees : Nat) (h0_struck : Int32) (h0_beating : Int32) (h0_text : Nat) (h0_texts : Int32) (h0_seed : Int32) (h0_line : Nat) (h0_written : Nat) (h0_lineMany : Int32) (h0_hasWritten : Int32) (h0_node : Nat) (h0_nodes : Int32) (h0_onesMany : Int32) (h0_within : Int32) (h0_top : Int32) (F_h0_now : Nat → Int32) (i_h0_taped : rg 0 940 h0_taped) (i_h0_size : rg 0 940 h0_size) (i_h0_to : rg 0 940 h0_to) (i_h0_snapMany : rg 0 8 h0_snapMany) (i_h0_texts : rg 0 64 h0_texts) (i_h0_lineMany : rg 0 40 h0_lineMany) (i_h0_hasWritten : rg 0 1 h0_hasWritten) (s_h0_now_0 : sg 0 1 0 10 F_h0_now) (s_h0_now_1 : sg 1 2 0 4 F_h0_now) (s_h0_now_2 : sg 2 3 0 5 F_h0_now) (s_h0_now_3 : sg 35 36 0 1023 F_h0_now) (s_h0_now_4 : sg 44 49 0 3 F_h0_now) (s_h0_now_5 : sg 90 91 0 1023 F_h0_now) : oMet l yX12_isFloor wsX12_isFloor ({ frames := 1, cells := 0, slots := 0, locals := 22 } : Room) [.ref h0, .int a1] D ca sz [(h0, .inr (11, [.int h0_thrown, .ref h0_tape, .int h0_taped, .int h0_size, .int h0_limit, .int h0_to, .int h0_from, .int h0_kind, .int h0_number, .int h0_sign, .int h0_fault, .int h0_place, .long h0_word, .int h0_told, .ref h0_now, .ref h0_read, .ref h0_kept, .ref h0_snaps, .ref h0_aside, .ref h0_name, .ref h0_readName, .ref h0_keptName, .ref h0_isKept, .ref h0_onces, .int h0_snapMany, .int h0_lowest, .int h0_highest, .int h0_agreed, .int h0_jurors, .int h0_panelled, .ref h0_inSets, .int h0_surely, .int h0_asked, .ref h0_frees, .int h0_struck, .int h0_beating, .ref h0_text, .int h0_texts, .int h0_seed, .ref h0_line, .ref h0_written, .int h0_lineMany, .int h0_hasWritten, .ref h0_node, .int h0_nodes, .int h0_onesMany, .int h0_within, .int h0_top])), (aI ca h0_now 376 F_h0_now)] (oQi D (fun (r : Int32) (u : Unit) => ((r = 0)) ∨ ((r = 1) ∧ (rg 0 3 a1))) (fun (u : Unit) => [(h0, .inr (11, [.int h0_thrown, .ref h0_tape, .int h0_taped, .int h0_size, .int h0_limit, .int h0_to, .int h0_from, .int h0_kind, .int h0_number, .int h0_sign, .int h0_fault, .int h0_place, .long h0_word, .int h0_told, .ref h0_now, .ref h0_read, .ref h0_kept, .ref h0_snaps, .ref h0_aside, .ref h0_name, .ref h0_readName, .ref h0_keptName, .ref h0_isKept, .ref h0_onces, .int h0_snapMany, .int h0_lowest, .int h0_highest, .int h0_agreed, .int h0_jurors, .int h0_panelled, .ref h0_inSets, .int h0_surely, .int h0_asked, .ref h0_frees, .int h0_struck, .int h0_beating, .ref h0_text, .int h0_texts, .int h0_seed, .ref h0_line, .ref h0_written, .int h0_lineMany, .int h0_hasWritten, .ref h0_node, .int h0_nodes, .int h0_onesMany, .int h0_within, .int h0_top])), (aI ca h0_now 376 F_h0_now)])) 0 0 := by
  refine oM (cc := cX12_isFloor) (maxL := 2) (ret := (some .boolean)) (by decide) rfl (Nat.le_of_ble_eq_true rfl) [(0, .ref h0), (1, .int a1)] rfl ?_
  intro p e s m below meth c A H locs ls hx hb hr hml hts hown hlocks hin hK hP hD hA hS hl
  have hown : s.vm.findClass RX12 = some m.cls := hown
  have k1 := hts (.fieldLink RX12 98 "LidCourtModel" "now" "[I") (by decide +kernel)
  have k2 : ∀ w ∈ wsX120, w ∈ wsX12_isFloor := fun _ h => List.mem_cons_of_mem _ (List.mem_append_right _ h)
  refine lv_iload_n hx hb dX12_isFloor_0 rfl (lv_at hl 1 rfl) ?_
  refine lv_iconst (v := 0) hx hb dX12_isFloor_1 (by decide) ?_
  refine lv_aload_n hx hb dX12_isFloor_2 rfl (lv_at hl 0 rfl) ?_
  refine va_get (D := D) (ci := 11) (v := .ref h0_now) (C := RX12) (T := TX12) (N := 48) hx hb hts k2 hown hK.1 hP 0 rfl rfl 14 (by decide) k1 (fun _ h9 => h9) rfl dX12_isFloor_3 ?_
  refine lv_iconst (v := 1) hx hb dX12_isFloor_6 (by decide) ?_
  refine va_iald hx hb hK.1 hP 1 0 rfl rfl (rg_in (⟨by decide, by decide⟩ : rg 1 1 (1 : Int32)) (by decide) (by decide)) dX12_isFloor_7 ?_
  refine lv_topi (fun x_16 ex_16 => ?_)
  have h_17 : rg 0 4 x_16 := by rw [ex_16]; exact sg_at s_h0_now_1 (⟨by decide, by decide⟩ : rg 1 1 (1 : Int32)) (by decide) (by decide) (by decide)
  refine lv_iconst (v := 1) hx hb dX12_isFloor_8 (by decide) ?_
  refine lv_isub hx hb dX12_isFloor_9 ?_
  refine lv_topi (fun x_18 ex_18 => ?_)
  have h_19 : rg (-1) 3 x_18 := by rw [ex_18]; exact rg_sub h_17 (⟨by decide, by decide⟩ : rg 1 1 (1 : Int32)) (by decide) (by decide) (by decide) (by decide)
  have l_20 : lq x_18.toInt (x_16.toInt + (-1)) := lqm (by rw [ex_18]; have q := tsub h_17 (⟨by decide, by decide⟩ : rg 1 1 (1 : Int32)) (by decide) (by decide); have r1 := lqe (lqm (by decide) : lq (1 : Int32).toInt 1); omega)
  refine oC_i (Wc := []) (Wr := [(h0, .inr (11, [.int h0_thrown, .ref h0_tape, .int h0_taped, .int h0_size, .int h0_limit, .int h0_to, .int h0_from, .int h0_kind, .int h0_number, .int h0_sign, .int h0_fault, .int h0_place, .long h0_word, .int h0_told, .ref h0_now, .ref h0_read, .ref h0_kept, .ref h0_snaps, .ref h0_aside, .ref h0_name, .ref h0_readName, .ref h0_keptName, .ref h0_isKept, .ref h0_onces, .int h0_snapMany, .int h0_lowest, .int h0_highest, .int h0_agreed, .int h0_jurors, .int h0_panelled, .ref h0_inSets, .int h0_surely, .int h0_asked, .ref h0_frees, .int h0_struck, .int h0_beating, .ref h0_text, .int h0_texts, .int h0_seed, .ref h0_line, .ref h0_written, .int h0_lineMany, .int h0_hasWritten, .ref h0_node, .int h0_nodes, .int h0_onesMany, .int h0_within, .int h0_top])), (aI ca h0_now 376 F_h0_now)]) (va_runS (As := [.int a1, .int 0, .int x_18]) (rest := []) ⟨hx, hb, hml, hown, hts⟩ (s_X12_isIn l D ca H.size a1 0 x_18) (va_cwS 3 hts gX12_isFloor_X12_isIn rfl rfl rfl (by decide +kernel) ⟨Nat.le_of_ble_eq_true rfl, Nat.le_of_ble_eq_true rfl⟩) (oPS hK hP hD [] rfl (by decide)) rfl rfl hl.1 rfl (lv_room (Nat.le_of_ble_eq_true rfl)) dX12_isFloor_10 ⟨Nat.le_of_ble_eq_true rfl, Nat.le_of_ble_eq_true rfl⟩) hP hD hS hA [] [0, 1] rfl rfl (by decide) (by decide) (fun r_21 u H locs w_22 hP hD hS => ?_)
  obtain ⟨⟩ := u
  have hP : va_P D vwCl [(h0, .inr (11, [.int h0_thrown, .ref h0_tape, .int h0_taped, .int h0_size, .int h0_limit, .int h0_to, .int h0_from, .int h0_kind, .int h0_number, .int h0_sign, .int h0_fault, .int h0_place, .long h0_word, .int h0_told, .ref h0_now, .ref h0_read, .ref h0_kept, .ref h0_snaps, .ref h0_aside, .ref h0_name, .ref h0_readName, .ref h0_keptName, .ref h0_isKept, .ref h0_onces, .int h0_snapMany, .int h0_lowest, .int h0_highest, .int h0_agreed, .int h0_jurors, .int h0_panelled, .ref h0_inSets, .int h0_surely, .int h0_asked, .ref h0_frees, .int h0_struck, .int h0_beating, .ref h0_text, .int h0_texts, .int h0_seed, .ref h0_line, .ref h0_written, .int h0_lineMany, .int h0_hasWritten, .ref h0_node, .int h0_nodes, .int h0_onesMany, .int h0_within, .int h0_top])), (aI ca h0_now 376 F_h0_now)] H := hP
  have hD : va_D A [(h0, .inr (11, [.int h0_thrown, .ref h0_tape, .int h0_taped, .int h0_size, .int h0_limit, .int h0_to, .int h0_from, .int h0_kind, .int h0_number, .int h0_sign, .int h0_fault, .int h0_place, .long h0_word, .int h0_told, .ref h0_now, .ref h0_read, .ref h0_kept, .ref h0_snaps, .ref h0_aside, .ref h0_name, .ref h0_readName, .ref h0_keptName, .ref h0_isKept, .ref h0_onces, .int h0_snapMany, .int h0_lowest, .int h0_highest, .int h0_agreed, .int h0_jurors, .int h0_panelled, .ref h0_inSets, .int h0_surely, .int h0_asked, .ref h0_frees, .int h0_struck, .int h0_beating, .ref h0_text, .int h0_texts, .int h0_seed, .ref h0_line, .ref h0_written, .int h0_lineMany, .int h0_hasWritten, .ref h0_node, .int h0_nodes, .int h0_onesMany, .int h0_within, .int h0_top])), (aI ca h0_now 376 F_h0_now)] := hD
  try dsimp only at w_22
  rcases w_22 with h_23 | ⟨h_24, h_25, h_26⟩
  · skip
    subst h_23
    exact oE_i hx hb hr (by decide) hlocks hP hD hS () [0, 1] rfl (by decide) (Or.inl rfl) (Nat.le_of_ble_eq_true rfl) (Nat.le_of_ble_eq_true rfl) dX12_isFloor_13
  · skip
    subst h_24
    have h_27 : rg 0 2147483647 a1 := rl_y h_25 (⟨by decide, by decide⟩ : rg 0 0 (0 : Int32)) (rga a1) (by decide) (by decide)
    have h_28 : rg 0 3 a1 := rl_x h_26 h_27 h_19 (by decide) (by decide)
    have h_29 : rg 0 3 x_18 := rl_y h_26 h_27 h_19 (by decide) (by decide)
    have h_30 : rg 1 4 x_16 := ⟨by have q := lqe l_20; have q1 := (h_29).1; have q2 := (h_17).1; omega, by have q := lqe l_20; have q1 := (h_29).2; have q2 := (h_17).2; omega⟩
    exact oE_i hx hb hr (by decide) hlocks hP hD hS () [0, 1] rfl (by decide) (Or.inr (⟨rfl, h_28⟩)) (Nat.le_of_ble_eq_true rfl) (Nat.le_of_ble_eq_true rfl) dX12_isFloor_13
theorem dX12_ringBy_0 : decode cX12_ringBy 0 = .ok (.aload_n 0, 1) := by decide +kernel
theorem dX12_ringBy_1 : decode cX12_ringBy 1 = .ok (.getfield 98, 3) := by decide +kernel
theorem dX12_ringBy_4 : decode cX12_ringBy 4 = .ok (.bipush 49, 2) := by decide +kernel
theorem dX12_ringBy_6 : decode cX12_ringBy 6 = .ok (.iconst 4, 1) := by decide +kernel
theorem dX12_ringBy_7 : decode cX12_ringBy 7 = .ok (.iload_n 1, 1) := by decide +kernel
theorem dX12_ringBy_8 : decode cX12_ringBy 8 = .ok (.imul, 1) := by decide +kernel
theorem dX12_ringBy_9 : decode cX12_ringBy 9 = .ok (.iadd, 1) := by decide +kernel
theorem dX12_ringBy_10 : decode cX12_ringBy 10 = .ok (.iload_n 2, 1) := by decide +kernel
theorem dX12_ringBy_11 : decode cX12_ringBy 11 = .ok (.iadd, 1) := by decide +kernel
theorem dX12_ringBy_12 : decode cX12_ringBy 12 = .ok (.iaload, 1) := by decide +kernel
theorem dX12_ringBy_13 : decode cX12_ringBy 13 = .ok (.istore 4, 2) := by decide +kernel
theorem dX12_ringBy_15 : decode cX12_ringBy 15 = .ok (.iload 4, 2) := by decide +kernel
theorem dX12_ringBy_17 : decode cX12_ringBy 17 = .ok (.iconst (-1), 1) := by decide +kernel
theorem dX12_ringBy_18 : decode cX12_ringBy 18 = .ok (.if_icmp .ne 24, 3) := by decide +kernel
theorem dX12_ringBy_21 : decode cX12_ringBy 21 = .ok (.aload_n 0, 1) := by decide +kernel
theorem dX12_ringBy_22 : decode cX12_ringBy 22 = .ok (.getfield 98, 3) := by decide +kernel
theorem dX12_ringBy_25 : decode cX12_ringBy 25 = .ok (.iconst 5, 1) := by decide +kernel
theorem dX12_ringBy_26 : decode cX12_ringBy 26 = .ok (.iload_n 1, 1) := by decide +kernel
theorem dX12_ringBy_27 : decode cX12_ringBy 27 = .ok (.iadd, 1) := by decide +kernel
theorem dX12_ringBy_28 : decode cX12_ringBy 28 = .ok (.iaload, 1) := by decide +kernel
theorem dX12_ringBy_29 : decode cX12_ringBy 29 = .ok (.aload_n 0, 1) := by decide +kernel
theorem dX12_ringBy_30 : decode cX12_ringBy 30 = .ok (.getfield 98, 3) := by decide +kernel
theorem dX12_ringBy_33 : decode cX12_ringBy 33 = .ok (.bipush 36, 2) := by decide +kernel
theorem dX12_ringBy_35 : decode cX12_ringBy 35 = .ok (.iload_n 2, 1) := by decide +kernel
theorem dX12_ringBy_36 : decode cX12_ringBy 36 = .ok (.iadd, 1) := by decide +kernel
theorem dX12_ringBy_37 : decode cX12_ringBy 37 = .ok (.iaload, 1) := by decide +kernel
theorem dX12_ringBy_38 : decode cX12_ringBy 38 = .ok (.iadd, 1) := by decide +kernel
theorem dX12_ringBy_39 : decode cX12_ringBy 39 = .ok (.goto 5, 3) := by decide +kernel
theorem dX12_ringBy_42 : decode cX12_ringBy 42 = .ok (.iload 4, 2) := by decide +kernel
theorem dX12_ringBy_44 : decode cX12_ringBy 44 = .ok (.aload_n 0, 1) := by decide +kernel
theorem dX12_ringBy_45 : decode cX12_ringBy 45 = .ok (.getfield 98, 3) := by decide +kernel
theorem dX12_ringBy_48 : decode cX12_ringBy 48 = .ok (.iconst 4, 1) := by decide +kernel
theorem dX12_ringBy_49 : decode cX12_ringBy 49 = .ok (.iaload, 1) := by decide +kernel
theorem dX12_ringBy_50 : decode cX12_ringBy 50 = .ok (.iload_n 3, 1) := by decide +kernel
theorem dX12_ringBy_51 : decode cX12_ringBy 51 = .ok (.imul, 1) := by decide +kernel
theorem dX12_ringBy_52 : decode cX12_ringBy 52 = .ok (.isub, 1) := by decide +kernel
theorem dX12_ringBy_53 : decode cX12_ringBy 53 = .ok (.istore 5, 2) := by decide +kernel
theorem dX12_ringBy_55 : decode cX12_ringBy 55 = .ok (.iload 5, 2) := by decide +kernel
theorem dX12_ringBy_57 : decode cX12_ringBy 57 = .ok (.ifCond .ge 7, 3) := by decide +kernel
theorem dX12_ringBy_60 : decode cX12_ringBy 60 = .ok (.iconst 0, 1) := by decide +kernel
theorem dX12_ringBy_61 : decode cX12_ringBy 61 = .ok (.goto 5, 3) := by decide +kernel
theorem dX12_ringBy_64 : decode cX12_ringBy 64 = .ok (.iload 5, 2) := by decide +kernel
theorem dX12_ringBy_66 : decode cX12_ringBy 66 = .ok (.ireturn, 1) := by decide +kernel
set_option maxHeartbeats 4000000 in
set_option maxRecDepth 100000 in
theorem s_X12_ringBy (l : Launch) (D : va_G) (ca : Nat → ClassId) (sz : Nat) (h0 : Nat) (a1 : Int32) (a2 : Int32) (a3 : Int32) (h0_thrown : Int32) (h0_tape : Nat) (h0_taped : Int32) (h0_size : Int32) (h0_limit : Int32) (h0_to : Int32) (h0_from : Int32) (h0_kind : Int32) (h0_number : Int32) (h0_sign : Int32) (h0_fault : Int32) (h0_place : Int32) (h0_word : Int64) (h0_told : Int32) (h0_now : Nat) (h0_read : Nat) (h0_kept : Nat) (h0_snaps : Nat) (h0_aside : Nat) (h0_name : Nat) (h0_readName : Nat) (h0_keptName : Nat) (h0_isKept : Nat) (h0_onces : Nat) (h0_snapMany : Int32) (h0_lowest : Int32) (h0_highest : Int32) (h0_agreed : Int32) (h0_jurors : Int32) (h0_panelled : Int32) (h0_inSets : Nat) (h0_surely : Int32) (h0_asked : Int32) (h0_frees : Nat) (h0_struck : Int32) (h0_beating : Int32) (h0_text : Nat) (h0_texts : Int32) (h0_seed : Int32) (h0_line : Nat) (h0_written : Nat) (h0_lineMany : Int32) (h0_hasWritten : Int32) (h0_node : Nat) (h0_nodes : Int32) (h0_onesMany : Int32) (h0_within : Int32) (h0_top : Int32) (F_h0_now : Nat → Int32) (i_a1 : rg 0 9 a1) (i_a2 : rg 0 3 a2) (i_h0_taped : rg 0 940 h0_taped) (i_h0_size : rg 0 940 h0_size) (i_h0_to : rg 0 940 h0_to) (i_h0_snapMany : rg 0 8 h0_snapMany) (i_h0_texts : rg 0 64 h0_texts) (i_h0_lineMany : rg 0 40 h0_lineMany) (i_h0_hasWritten : rg 0 1 h0_hasWritten) (s_h0_now_0 : sg 0 1 0 10 F_h0_now) (s_h0_now_1 : sg 1 2 0 4 F_h0_now) (s_h0_now_2 : sg 2 3 0 5 F_h0_now) (s_h0_now_3 : sg 35 36 0 1023 F_h0_now) (s_h0_now_4 : sg 44 49 0 3 F_h0_now) (s_h0_now_5 : sg 90 91 0 1023 F_h0_now) : oMet l yX12_ringBy wsX12_ringBy ({ frames := 0, cells := 0, slots := 0, locals := 0 } : Room) [.ref h0, .int a1, .int a2, .int a3] D ca sz [(h0, .inr (11, [.int h0_thrown, .ref h0_tape, .int h0_taped, .int h0_size, .int h0_limit, .int h0_to, .int h0_from, .int h0_kind, .int h0_number, .int h0_sign, .int h0_fault, .int h0_place, .long h0_word, .int h0_told, .ref h0_now, .ref h0_read, .ref h0_kept, .ref h0_snaps, .ref h0_aside, .ref h0_name, .ref h0_readName, .ref h0_keptName, .ref h0_isKept, .ref h0_onces, .int h0_snapMany, .int h0_lowest, .int h0_highest, .int h0_agreed, .int h0_jurors, .int h0_panelled, .ref h0_inSets, .int h0_surely, .int h0_asked, .ref h0_frees, .int h0_struck, .int h0_beating, .ref h0_text, .int h0_texts, .int h0_seed, .ref h0_line, .ref h0_written, .int h0_lineMany, .int h0_hasWritten, .ref h0_node, .int h0_nodes, .int h0_onesMany, .int h0_within, .int h0_top])), (aI ca h0_now 376 F_h0_now)] (oQi D (fun (r : Int32) (u : Unit) => (rg 0 2147483647 r)) (fun (u : Unit) => [(h0, .inr (11, [.int h0_thrown, .ref h0_tape, .int h0_taped, .int h0_size, .int h0_limit, .int h0_to, .int h0_from, .int h0_kind, .int h0_number, .int h0_sign, .int h0_fault, .int h0_place, .long h0_word, .int h0_told, .ref h0_now, .ref h0_read, .ref h0_kept, .ref h0_snaps, .ref h0_aside, .ref h0_name, .ref h0_readName, .ref h0_keptName, .ref h0_isKept, .ref h0_onces, .int h0_snapMany, .int h0_lowest, .int h0_highest, .int h0_agreed, .int h0_jurors, .int h0_panelled, .ref h0_inSets, .int h0_surely, .int h0_asked, .ref h0_frees, .int h0_struck, .int h0_beating, .ref h0_text, .int h0_texts, .int h0_seed, .ref h0_line, .ref h0_written, .int h0_lineMany, .int h0_hasWritten, .ref h0_node, .int h0_nodes, .int h0_onesMany, .int h0_within, .int h0_top])), (aI ca h0_now 376 F_h0_now)])) 0 0 := by
  refine oM (cc := cX12_ringBy) (maxL := 6) (ret := (some .int)) (by decide) rfl (Nat.le_of_ble_eq_true rfl) [(0, .ref h0), (1, .int a1), (2, .int a2), (3, .int a3)] rfl ?_
  intro p e s m below meth c A H locs ls hx hb hr hml hts hown hlocks hin hK hP hD hA hS hl
  have hown : s.vm.findClass RX12 = some m.cls := hown
  have k1 := hts (.fieldLink RX12 98 "LidCourtModel" "now" "[I") (by decide +kernel)
  have k2 : ∀ w ∈ wsX120, w ∈ wsX12_ringBy := fun _ h => List.mem_cons_of_mem _ (List.mem_append_right _ h)
  have J44_33 : ∀ (y44_0 : Int32), ∀ (H : Heap) (locs : List Loc) (ls : Array Slot), va_P D vwCl [(h0, .inr (11, [.int h0_thrown, .ref h0_tape, .int h0_taped, .int h0_size, .int h0_limit, .int h0_to, .int h0_from, .int h0_kind, .int h0_number, .int h0_sign, .int h0_fault, .int h0_place, .long h0_word, .int h0_told, .ref h0_now, .ref h0_read, .ref h0_kept, .ref h0_snaps, .ref h0_aside, .ref h0_name, .ref h0_readName, .ref h0_keptName, .ref h0_isKept, .ref h0_onces, .int h0_snapMany, .int h0_lowest, .int h0_highest, .int h0_agreed, .int h0_jurors, .int h0_panelled, .ref h0_inSets, .int h0_surely, .int h0_asked, .ref h0_frees, .int h0_struck, .int h0_beating, .ref h0_text, .int h0_texts, .int h0_seed, .ref h0_line, .ref h0_written, .int h0_lineMany, .int h0_hasWritten, .ref h0_node, .int h0_nodes, .int h0_onesMany, .int h0_within, .int h0_top])), (aI ca h0_now 376 F_h0_now)] H → va_D A [(h0, .inr (11, [.int h0_thrown, .ref h0_tape, .int h0_taped, .int h0_size, .int h0_limit, .int h0_to, .int h0_from, .int h0_kind, .int h0_number, .int h0_sign, .int h0_fault, .int h0_place, .long h0_word, .int h0_told, .ref h0_now, .ref h0_read, .ref h0_kept, .ref h0_snaps, .ref h0_aside, .ref h0_name, .ref h0_readName, .ref h0_keptName, .ref h0_isKept, .ref h0_onces, .int h0_snapMany, .int h0_lowest, .int h0_highest, .int h0_agreed, .int h0_jurors, .int h0_panelled, .ref h0_inSets, .int h0_surely, .int h0_asked, .ref h0_frees, .int h0_struck, .int h0_beating, .ref h0_text, .int h0_texts, .int h0_seed, .ref h0_line, .ref h0_written, .int h0_lineMany, .int h0_hasWritten, .ref h0_node, .int h0_nodes, .int h0_onesMany, .int h0_within, .int h0_top])), (aI ca h0_now 376 F_h0_now)] → va_S A s.heap H locs → lv_has ls 6 [(0, .ref h0), (3, .int a3)] → W p l e ({ frames := 0, cells := 0, slots := 0, locals := 0 } : Room) s m ([.ref h0, .int a1, .int a2, .int a3] : List Value).toArray below meth c H locs 0 0 (MQ below ((oQi D (fun (r : Int32) (u : Unit) => (rg 0 2147483647 r)) (fun (u : Unit) => [(h0, .inr (11, [.int h0_thrown, .ref h0_tape, .int h0_taped, .int h0_size, .int h0_limit, .int h0_to, .int h0_from, .int h0_kind, .int h0_number, .int h0_sign, .int h0_fault, .int h0_place, .long h0_word, .int h0_told, .ref h0_now, .ref h0_read, .ref h0_kept, .ref h0_snaps, .ref h0_aside, .ref h0_name, .ref h0_readName, .ref h0_keptName, .ref h0_isKept, .ref h0_onces, .int h0_snapMany, .int h0_lowest, .int h0_highest, .int h0_agreed, .int h0_jurors, .int h0_panelled, .ref h0_inSets, .int h0_surely, .int h0_asked, .ref h0_frees, .int h0_struck, .int h0_beating, .ref h0_text, .int h0_texts, .int h0_seed, .ref h0_line, .ref h0_written, .int h0_lineMany, .int h0_hasWritten, .ref h0_node, .int h0_nodes, .int h0_onesMany, .int h0_within, .int h0_top])), (aI ca h0_now 376 F_h0_now)])) A) ([.ref h0, .int a1, .int a2, .int a3] : List Value).toArray s 0 0 A) (F0 m 44 ls [.int y44_0]) := by
    intro y44_0  H locs ls hP hD hS hl
    refine lv_aload_n hx hb dX12_ringBy_44 rfl (lv_at hl 0 rfl) ?_
    refine va_get (D := D) (ci := 11) (v := .ref h0_now) (C := RX12) (T := TX12) (N := 48) hx hb hts k2 hown hK.1 hP 0 rfl rfl 14 (by decide) k1 (fun _ h9 => h9) rfl dX12_ringBy_45 ?_
    refine lv_iconst (v := 4) hx hb dX12_ringBy_48 (by decide) ?_
    refine va_iald hx hb hK.1 hP 1 0 rfl rfl (rg_in (⟨by decide, by decide⟩ : rg 4 4 (4 : Int32)) (by decide) (by decide)) dX12_ringBy_49 ?_
    refine lv_topi (fun x_34 ex_34 => ?_)
    refine lv_iload_n hx hb dX12_ringBy_50 rfl (lv_at hl 1 rfl) ?_
    refine lv_imul hx hb dX12_ringBy_51 ?_
    refine lv_topi (fun x_35 ex_35 => ?_)
    refine lv_isub hx hb dX12_ringBy_52 ?_
    refine lv_topi (fun x_36 ex_36 => ?_)
    refine lv_istore (lv' := [(5, .int x_36), (0, .ref h0), (3, .int a3)]) hx hb dX12_ringBy_53 hl (by decide) rfl (fun ls hl => ?_)
    refine lv_iload hx hb dX12_ringBy_55 (lv_at hl 0 rfl) ?_
    refine lv_if_ge (tgt := 64) hx hb dX12_ringBy_57 (by decide) (fun c_37 => ?_) (fun c_37 => ?_)
    · skip
      have o_38 : rl 0 0 x_36 := rl_le c_37
      have h_39 : rg 0 2147483647 x_36 := rl_y o_38 (⟨by decide, by decide⟩ : rg 0 0 (0 : Int32)) (rga x_36) (by decide) (by decide)
      refine lv_iload hx hb dX12_ringBy_64 (lv_at hl 0 rfl) ?_
      exact oE_i hx hb hr rfl hlocks hP hD hS () [0, 1] rfl (by decide) h_39 (Nat.le_of_ble_eq_true rfl) (Nat.le_of_ble_eq_true rfl) dX12_ringBy_66
    · skip
      have o_40 : rl 1 x_36 0 := rl_nle c_37
      have h_41 : rg (-2147483648) (-1) x_36 := rl_x o_40 (rga x_36) (⟨by decide, by decide⟩ : rg 0 0 (0 : Int32)) (by decide) (by decide)
      refine lv_iconst (v := 0) hx hb dX12_ringBy_60 (by decide) ?_
      refine lv_goto (tgt := 66) hx hb dX12_ringBy_61 (by decide) ?_
      exact oE_i hx hb hr rfl hlocks hP hD hS () [0, 1] rfl (by decide) (⟨by decide, by decide⟩ : rg 0 2147483647 (0 : Int32)) (Nat.le_of_ble_eq_true rfl) (Nat.le_of_ble_eq_true rfl) dX12_ringBy_66
  refine lv_aload_n hx hb dX12_ringBy_0 rfl (lv_at hl 0 rfl) ?_
  refine va_get (D := D) (ci := 11) (v := .ref h0_now) (C := RX12) (T := TX12) (N := 48) hx hb hts k2 hown hK.1 hP 0 rfl rfl 14 (by decide) k1 (fun _ h9 => h9) rfl dX12_ringBy_1 ?_
  refine lv_bipush (v := 49) hx hb dX12_ringBy_4 (by decide) ?_
  refine lv_iconst (v := 4) hx hb dX12_ringBy_6 (by decide) ?_
  refine lv_iload_n hx hb dX12_ringBy_7 rfl (lv_at hl 1 rfl) ?_
  refine lv_imul hx hb dX12_ringBy_8 ?_
  refine lv_topi (fun x_42 ex_42 => ?_)
  have h_43 : rg 0 36 x_42 := by rw [ex_42]; exact rg_mul' (k := 4) i_a1 (by decide) (by decide) (by decide) (by decide) (by decide) (by decide)
  have l_44 : lq x_42.toInt (4 * a1.toInt) := lqm (by rw [ex_42]; have q := tmul' (k := 4) (y := 4) i_a1 (by decide) (by decide) (by decide) (by decide); omega)
  refine lv_iadd hx hb dX12_ringBy_9 ?_
  refine lv_topi (fun x_45 ex_45 => ?_)
  have h_46 : rg 49 85 x_45 := by rw [ex_45]; exact rg_add (⟨by decide, by decide⟩ : rg 49 49 (49 : Int32)) h_43 (by decide) (by decide) (by decide) (by decide)
  have l_47 : lq x_45.toInt (4 * a1.toInt + 49) := lqm (by rw [ex_45]; have q := tadd (⟨by decide, by decide⟩ : rg 49 49 (49 : Int32)) h_43 (by decide) (by decide); have r0 := lqe (lqm (by decide) : lq (49 : Int32).toInt 49); have r1 := lqe l_44; omega)
  refine lv_iload_n hx hb dX12_ringBy_10 rfl (lv_at hl 2 rfl) ?_
  refine lv_iadd hx hb dX12_ringBy_11 ?_
  refine lv_topi (fun x_48 ex_48 => ?_)
  have h_49 : rg 49 88 x_48 := by rw [ex_48]; exact rg_add h_46 i_a2 (by decide) (by decide) (by decide) (by decide)
  have l_50 : lq x_48.toInt (4 * a1.toInt + a2.toInt + 49) := lqm (by rw [ex_48]; have q := tadd h_46 i_a2 (by decide) (by decide); have r0 := lqe l_47; omega)
  refine va_iald hx hb hK.1 hP 1 0 rfl rfl (rg_in h_49 (by decide) (by decide)) dX12_ringBy_12 ?_
  refine lv_topi (fun x_51 ex_51 => ?_)
  refine lv_istore (lv' := [(4, .int x_51), (0, .ref h0), (1, .int a1), (2, .int a2), (3, .int a3)]) hx hb dX12_ringBy_13 hl (by decide) rfl (fun ls hl => ?_)
  refine lv_iload hx hb dX12_ringBy_15 (lv_at hl 0 rfl) ?_
  refine lv_iconst (v := (-1)) hx hb dX12_ringBy_17 (by decide) ?_
  refine lv_icmp_ne (tgt := 42) hx hb dX12_ringBy_18 (by decide) (fun c_52 => ?_) (fun c_52 => ?_)
  · skip
    refine lv_iload hx hb dX12_ringBy_42 (lv_at hl 0 rfl) ?_
    exact J44_33 x_51  H locs ls (oPsub hP [0, 1] rfl) (hD.sub [0, 1] (by decide) rfl) hS (lv_sub hl [1, 4] rfl)
  · skip
    have o_53 : rl 0 x_51 (-1) := rl_eq c_52
    have h_54 : rg (-2147483648) (-1) x_51 := rl_x o_53 (rga x_51) (⟨by decide, by decide⟩ : rg (-1) (-1) ((-1) : Int32)) (by decide) (by decide)
    have o_55 : rl 0 (-1) x_51 := rl_eq c_52.symm
    have h_56 : rg (-1) (-1) x_51 := rl_y o_55 (⟨by decide, by decide⟩ : rg (-1) (-1) ((-1) : Int32)) h_54 (by decide) (by decide)
    refine lv_aload_n hx hb dX12_ringBy_21 rfl (lv_at hl 1 rfl) ?_
    refine va_get (D := D) (ci := 11) (v := .ref h0_now) (C := RX12) (T := TX12) (N := 48) hx hb hts k2 hown hK.1 hP 0 rfl rfl 14 (by decide) k1 (fun _ h9 => h9) rfl dX12_ringBy_22 ?_
    refine lv_iconst (v := 5) hx hb dX12_ringBy_25 (by decide) ?_
    refine lv_iload_n hx hb dX12_ringBy_26 rfl (lv_at hl 2 rfl) ?_
    refine lv_iadd hx hb dX12_ringBy_27 ?_
    refine lv_topi (fun x_57 ex_57 => ?_)
    have h_58 : rg 5 14 x_57 := by rw [ex_57]; exact rg_add (⟨by decide, by decide⟩ : rg 5 5 (5 : Int32)) i_a1 (by decide) (by decide) (by decide) (by decide)
    have l_59 : lq x_57.toInt (a1.toInt + 5) := lqm (by rw [ex_57]; have q := tadd (⟨by decide, by decide⟩ : rg 5 5 (5 : Int32)) i_a1 (by decide) (by decide); have r0 := lqe (lqm (by decide) : lq (5 : Int32).toInt 5); omega)
    refine va_iald hx hb hK.1 hP 1 0 rfl rfl (rg_in h_58 (by decide) (by decide)) dX12_ringBy_28 ?_
    refine lv_topi (fun x_60 ex_60 => ?_)
    refine lv_aload_n hx hb dX12_ringBy_29 rfl (lv_at hl 1 rfl) ?_
    refine va_get (D := D) (ci := 11) (v := .ref h0_now) (C := RX12) (T := TX12) (N := 48) hx hb hts k2 hown hK.1 hP 0 rfl rfl 14 (by decide) k1 (fun _ h9 => h9) rfl dX12_ringBy_30 ?_
    refine lv_bipush (v := 36) hx hb dX12_ringBy_33 (by decide) ?_
    refine lv_iload_n hx hb dX12_ringBy_35 rfl (lv_at hl 3 rfl) ?_
    refine lv_iadd hx hb dX12_ringBy_36 ?_
    refine lv_topi (fun x_61 ex_61 => ?_)
    have h_62 : rg 36 39 x_61 := by rw [ex_61]; exact rg_add (⟨by decide, by decide⟩ : rg 36 36 (36 : Int32)) i_a2 (by decide) (by decide) (by decide) (by decide)
    have l_63 : lq x_61.toInt (a2.toInt + 36) := lqm (by rw [ex_61]; have q := tadd (⟨by decide, by decide⟩ : rg 36 36 (36 : Int32)) i_a2 (by decide) (by decide); have r0 := lqe (lqm (by decide) : lq (36 : Int32).toInt 36); omega)
    refine va_iald hx hb hK.1 hP 1 0 rfl rfl (rg_in h_62 (by decide) (by decide)) dX12_ringBy_37 ?_
    refine lv_topi (fun x_64 ex_64 => ?_)
    refine lv_iadd hx hb dX12_ringBy_38 ?_
    refine lv_topi (fun x_65 ex_65 => ?_)
    refine lv_goto (tgt := 44) hx hb dX12_ringBy_39 (by decide) ?_
    exact J44_33 x_65  H locs ls (oPsub hP [0, 1] rfl) (hD.sub [0, 1] (by decide) rfl) hS (lv_sub hl [1, 4] rfl)
