theorem dX12_sentence_0 : decode cX12_sentence 0 = .ok (.aload_n 0, 1) := by decide +kernel
theorem dX12_sentence_1 : decode cX12_sentence 1 = .ok (.sipush 200, 3) := by decide +kernel
theorem dX12_sentence_4 : decode cX12_sentence 4 = .ok (.invokevirtual 218, 3) := by decide +kernel
theorem dX12_sentence_7 : decode cX12_sentence 7 = .ok (.aload_n 0, 1) := by decide +kernel
theorem dX12_sentence_8 : decode cX12_sentence 8 = .ok (.iconst 0, 1) := by decide +kernel
theorem dX12_sentence_9 : decode cX12_sentence 9 = .ok (.putfield 381, 3) := by decide +kernel
theorem dX12_sentence_12 : decode cX12_sentence 12 = .ok (.aload_n 0, 1) := by decide +kernel
theorem dX12_sentence_13 : decode cX12_sentence 13 = .ok (.iconst 0, 1) := by decide +kernel
theorem dX12_sentence_14 : decode cX12_sentence 14 = .ok (.putfield 397, 3) := by decide +kernel
theorem dX12_sentence_17 : decode cX12_sentence 17 = .ok (.aload_n 0, 1) := by decide +kernel
theorem dX12_sentence_18 : decode cX12_sentence 18 = .ok (.iconst 0, 1) := by decide +kernel
theorem dX12_sentence_19 : decode cX12_sentence 19 = .ok (.putfield 400, 3) := by decide +kernel
theorem dX12_sentence_22 : decode cX12_sentence 22 = .ok (.aload_n 0, 1) := by decide +kernel
theorem dX12_sentence_23 : decode cX12_sentence 23 = .ok (.invokevirtual 415, 3) := by decide +kernel
theorem dX12_sentence_26 : decode cX12_sentence 26 = .ok (.ifCond .ne 10, 3) := by decide +kernel
theorem dX12_sentence_29 : decode cX12_sentence 29 = .ok (.iconst (-1), 1) := by decide +kernel
theorem dX12_sentence_30 : decode cX12_sentence 30 = .ok (.aload_n 0, 1) := by decide +kernel
theorem dX12_sentence_31 : decode cX12_sentence 31 = .ok (.getfield 69, 3) := by decide +kernel
theorem dX12_sentence_34 : decode cX12_sentence 34 = .ok (.isub, 1) := by decide +kernel
theorem dX12_sentence_35 : decode cX12_sentence 35 = .ok (.ireturn, 1) := by decide +kernel
theorem dX12_sentence_36 : decode cX12_sentence 36 = .ok (.aload_n 0, 1) := by decide +kernel
theorem dX12_sentence_37 : decode cX12_sentence 37 = .ok (.getfield 30, 3) := by decide +kernel
theorem dX12_sentence_40 : decode cX12_sentence 40 = .ok (.ifCond .eq 16, 3) := by decide +kernel
theorem dX12_sentence_43 : decode cX12_sentence 43 = .ok (.aload_n 0, 1) := by decide +kernel
theorem dX12_sentence_44 : decode cX12_sentence 44 = .ok (.iconst 1, 1) := by decide +kernel
theorem dX12_sentence_45 : decode cX12_sentence 45 = .ok (.invokevirtual 72, 3) := by decide +kernel
theorem dX12_sentence_48 : decode cX12_sentence 48 = .ok (.pop, 1) := by decide +kernel
theorem dX12_sentence_49 : decode cX12_sentence 49 = .ok (.iconst (-1), 1) := by decide +kernel
theorem dX12_sentence_50 : decode cX12_sentence 50 = .ok (.aload_n 0, 1) := by decide +kernel
theorem dX12_sentence_51 : decode cX12_sentence 51 = .ok (.getfield 69, 3) := by decide +kernel
theorem dX12_sentence_54 : decode cX12_sentence 54 = .ok (.isub, 1) := by decide +kernel
theorem dX12_sentence_55 : decode cX12_sentence 55 = .ok (.ireturn, 1) := by decide +kernel
theorem dX12_sentence_56 : decode cX12_sentence 56 = .ok (.aload_n 0, 1) := by decide +kernel
theorem dX12_sentence_57 : decode cX12_sentence 57 = .ok (.getfield 98, 3) := by decide +kernel
theorem dX12_sentence_60 : decode cX12_sentence 60 = .ok (.sipush 134, 3) := by decide +kernel
theorem dX12_sentence_63 : decode cX12_sentence 63 = .ok (.iconst 1, 1) := by decide +kernel
theorem dX12_sentence_64 : decode cX12_sentence 64 = .ok (.iastore, 1) := by decide +kernel
theorem dX12_sentence_65 : decode cX12_sentence 65 = .ok (.aload_n 0, 1) := by decide +kernel
theorem dX12_sentence_66 : decode cX12_sentence 66 = .ok (.getfield 98, 3) := by decide +kernel
theorem dX12_sentence_69 : decode cX12_sentence 69 = .ok (.sipush 135, 3) := by decide +kernel
theorem dX12_sentence_72 : decode cX12_sentence 72 = .ok (.aload_n 0, 1) := by decide +kernel
theorem dX12_sentence_73 : decode cX12_sentence 73 = .ok (.getfield 387, 3) := by decide +kernel
theorem dX12_sentence_76 : decode cX12_sentence 76 = .ok (.iastore, 1) := by decide +kernel
theorem dX12_sentence_77 : decode cX12_sentence 77 = .ok (.iconst 0, 1) := by decide +kernel
theorem dX12_sentence_78 : decode cX12_sentence 78 = .ok (.istore_n 1, 1) := by decide +kernel
theorem dX12_sentence_79 : decode cX12_sentence 79 = .ok (.iload_n 1, 1) := by decide +kernel
theorem dX12_sentence_80 : decode cX12_sentence 80 = .ok (.sipush 240, 3) := by decide +kernel
theorem dX12_sentence_83 : decode cX12_sentence 83 = .ok (.if_icmp .ge 25, 3) := by decide +kernel
theorem dX12_sentence_86 : decode cX12_sentence 86 = .ok (.aload_n 0, 1) := by decide +kernel
theorem dX12_sentence_87 : decode cX12_sentence 87 = .ok (.getfield 98, 3) := by decide +kernel
theorem dX12_sentence_90 : decode cX12_sentence 90 = .ok (.sipush 136, 3) := by decide +kernel
theorem dX12_sentence_93 : decode cX12_sentence 93 = .ok (.iload_n 1, 1) := by decide +kernel
theorem dX12_sentence_94 : decode cX12_sentence 94 = .ok (.iadd, 1) := by decide +kernel
theorem dX12_sentence_95 : decode cX12_sentence 95 = .ok (.aload_n 0, 1) := by decide +kernel
theorem dX12_sentence_96 : decode cX12_sentence 96 = .ok (.getfield 166, 3) := by decide +kernel
theorem dX12_sentence_99 : decode cX12_sentence 99 = .ok (.iload_n 1, 1) := by decide +kernel
theorem dX12_sentence_100 : decode cX12_sentence 100 = .ok (.iaload, 1) := by decide +kernel
theorem dX12_sentence_101 : decode cX12_sentence 101 = .ok (.iastore, 1) := by decide +kernel
theorem dX12_sentence_102 : decode cX12_sentence 102 = .ok (.iinc 1 1, 3) := by decide +kernel
theorem dX12_sentence_105 : decode cX12_sentence 105 = .ok (.goto (-26), 3) := by decide +kernel
theorem dX12_sentence_108 : decode cX12_sentence 108 = .ok (.aload_n 0, 1) := by decide +kernel
theorem dX12_sentence_109 : decode cX12_sentence 109 = .ok (.getfield 397, 3) := by decide +kernel
theorem dX12_sentence_112 : decode cX12_sentence 112 = .ok (.ireturn, 1) := by decide +kernel
set_option maxRecDepth 20000 in
theorem ggX12_sentence_X12_begin : GoodIn wsX12_sentence wsX12_begin := goodIn_r _ [13, 14, 15, 16, 17, 18, 19, 20, 21, 12, 22, 23, 24, 25, 26, 27, 28, 29, 5, 30, 31, 32, 33, 34, 35, 36, 37, 38, 39, 40, 41, 42, 43, 44, 119, 120, 121, 122, 123, 124, 125, 126, 127, 128, 129, 130, 131, 132, 133, 134, 135, 136, 137, 138, 139, 140, 141, 142, 143, 144, 145, 146, 147, 148, 149, 150, 151, 152, 153, 154, 155, 156, 157, 158, 159, 160, 161, 162, 163, 164, 165, 166] rfl (by decide +kernel)
set_option maxRecDepth 20000 in
theorem gX12_sentence_X12_begin : GoodIn wsX12_sentence (wsV RX12 218 RX12 yX12_begin wsX12_begin) := goodIn_app (goodIn_of _ (by decide +kernel)) ggX12_sentence_X12_begin
set_option maxRecDepth 20000 in
theorem ggX12_sentence_X12_readOr : GoodIn wsX12_sentence wsX12_readOr := goodIn_r _ [48, 7, 49, 50, 51, 12, 52, 53, 54, 55, 5, 31, 56, 57, 58, 59, 60, 61, 33, 34, 24, 25, 26, 27, 18, 15, 28, 29, 16, 30, 32, 35, 36, 37, 38, 39, 40, 41, 42, 43, 44, 62, 63, 64, 65, 1, 8, 66, 67, 68, 69, 70, 45, 46, 47, 71, 72, 73, 74, 75, 76, 77, 78, 17, 4, 79, 80, 2, 3, 81, 82, 83, 84, 85, 86, 87, 88, 89, 90, 91, 92, 93, 94, 95, 6, 96, 97, 98, 99, 100, 101, 102, 103, 104, 105, 106, 107, 108, 109, 110, 111, 112, 113, 114, 115, 116, 117, 118, 119, 120, 121, 122, 123, 124, 125, 126, 127, 128, 129, 130, 131, 132, 133, 134, 135, 136, 137, 138, 139, 140, 141, 142, 143, 144, 145, 146, 147, 148, 149, 150, 151, 152, 153, 154, 155, 156, 157, 158, 159, 160, 161, 162, 163, 164, 165, 166] rfl (by decide +kernel)
set_option maxRecDepth 20000 in
theorem gX12_sentence_X12_readOr : GoodIn wsX12_sentence (wsV RX12 415 RX12 yX12_readOr wsX12_readOr) := goodIn_app (goodIn_of _ (by decide +kernel)) ggX12_sentence_X12_readOr
set_option maxRecDepth 20000 in
theorem ggX12_sentence_X12_bad : GoodIn wsX12_sentence wsX12_bad := goodIn_r _ [78, 5, 17, 29, 4, 119, 120, 121, 122, 123, 124, 125, 126, 127, 128, 129, 130, 131, 132, 133, 134, 135, 136, 137, 138, 139, 140, 141, 142, 143, 144, 145, 146, 147, 148, 149, 150, 151, 152, 153, 154, 155, 156, 157, 158, 159, 160, 161, 162, 163, 164, 165, 166] rfl (by decide +kernel)
set_option maxRecDepth 20000 in
theorem gX12_sentence_X12_bad : GoodIn wsX12_sentence (wsV RX12 72 RX12 yX12_bad wsX12_bad) := goodIn_app (goodIn_of _ (by decide +kernel)) ggX12_sentence_X12_bad
set_option maxHeartbeats 4000000 in
set_option maxRecDepth 100000 in
theorem s_X12_sentence (l : Launch) (D : va_G) (ca : Nat → ClassId) (sz : Nat) (h0 : Nat) (h0_thrown : Int32) (h0_tape : Nat) (h0_taped : Int32) (h0_size : Int32) (h0_limit : Int32) (h0_to : Int32) (h0_from : Int32) (h0_kind : Int32) (h0_number : Int32) (h0_sign : Int32) (h0_fault : Int32) (h0_place : Int32) (h0_word : Int64) (h0_told : Int32) (h0_now : Nat) (h0_read : Nat) (h0_kept : Nat) (h0_snaps : Nat) (h0_aside : Nat) (h0_name : Nat) (h0_readName : Nat) (h0_keptName : Nat) (h0_isKept : Nat) (h0_onces : Nat) (h0_snapMany : Int32) (h0_lowest : Int32) (h0_highest : Int32) (h0_agreed : Int32) (h0_jurors : Int32) (h0_panelled : Int32) (h0_inSets : Nat) (h0_surely : Int32) (h0_asked : Int32) (h0_frees : Nat) (h0_struck : Int32) (h0_beating : Int32) (h0_text : Nat) (h0_texts : Int32) (h0_seed : Int32) (h0_line : Nat) (h0_written : Nat) (h0_lineMany : Int32) (h0_hasWritten : Int32) (h0_node : Nat) (h0_nodes : Int32) (h0_onesMany : Int32) (h0_within : Int32) (h0_top : Int32) (F_h0_tape : Nat → Int32) (F_h0_node : Nat → Int32) (F_h0_now : Nat → Int32) (F_h0_name : Nat → Int64) (i_h0_taped : rg 0 940 h0_taped) (i_h0_size : rg 0 940 h0_size) (i_h0_to : rg 0 940 h0_to) (i_h0_kind : rg 0 4 h0_kind) (i_h0_snapMany : rg 0 8 h0_snapMany) (i_h0_texts : rg 0 64 h0_texts) (i_h0_lineMany : rg 0 40 h0_lineMany) (i_h0_hasWritten : rg 0 1 h0_hasWritten) (i_h0_nodes : rg 0 60 h0_nodes) (i_h0_onesMany : rg 0 20 h0_onesMany) (s_h0_tape_0 : sg 0 940 0 255 F_h0_tape) (s_h0_now_0 : sg 0 1 0 10 F_h0_now) (s_h0_now_1 : sg 1 2 0 4 F_h0_now) (s_h0_now_2 : sg 2 3 0 5 F_h0_now) (s_h0_now_3 : sg 35 36 0 1023 F_h0_now) (s_h0_now_4 : sg 44 49 0 3 F_h0_now) (s_h0_now_5 : sg 90 91 0 1023 F_h0_now) (s_h0_now_6 : sg 124 129 0 1023 F_h0_now) (s_h0_now_7 : sg 135 136 0 39 F_h0_now) (cu_tok : tokb 0 F_h0_node) (cu_tokw : tokb 136 F_h0_now) : oMet l yX12_sentence wsX12_sentence ({ frames := 38, cells := 0, slots := 0, locals := 814 } : Room) [.ref h0] D ca sz [(h0, .inr (11, [.int h0_thrown, .ref h0_tape, .int h0_taped, .int h0_size, .int h0_limit, .int h0_to, .int h0_from, .int h0_kind, .int h0_number, .int h0_sign, .int h0_fault, .int h0_place, .long h0_word, .int h0_told, .ref h0_now, .ref h0_read, .ref h0_kept, .ref h0_snaps, .ref h0_aside, .ref h0_name, .ref h0_readName, .ref h0_keptName, .ref h0_isKept, .ref h0_onces, .int h0_snapMany, .int h0_lowest, .int h0_highest, .int h0_agreed, .int h0_jurors, .int h0_panelled, .ref h0_inSets, .int h0_surely, .int h0_asked, .ref h0_frees, .int h0_struck, .int h0_beating, .ref h0_text, .int h0_texts, .int h0_seed, .ref h0_line, .ref h0_written, .int h0_lineMany, .int h0_hasWritten, .ref h0_node, .int h0_nodes, .int h0_onesMany, .int h0_within, .int h0_top])), (aI ca h0_tape 940 F_h0_tape), (aI ca h0_node 240 F_h0_node), (aI ca h0_now 376 F_h0_now), (aJ ca h0_name 19 F_h0_name)] (oQi D (fun (r : Int32) (u : (Nat → Int32) × (Nat → Int64) × (Nat → (Nat → Int32))) => (rg 0 940 (u.1 0)) ∧ (rg 0 4 (u.1 2)) ∧ (rg 0 60 (u.1 8)) ∧ (rg 0 20 (u.1 9)) ∧ (sg 0 1 0 10 (u.2.2 1)) ∧ (sg 1 2 0 4 (u.2.2 1)) ∧ (sg 2 3 0 5 (u.2.2 1)) ∧ (sg 35 36 0 1023 (u.2.2 1)) ∧ (sg 44 49 0 3 (u.2.2 1)) ∧ (sg 90 91 0 1023 (u.2.2 1)) ∧ (sg 124 129 0 1023 (u.2.2 1)) ∧ (sg 135 136 0 39 (u.2.2 1)) ∧ (eqs 0 134 (u.2.2 1) F_h0_now) ∧ (rl 0 h0_taped h0_taped) ∧ (tokb 0 (u.2.2 0)) ∧ (tokb 136 (u.2.2 1))) (fun (u : (Nat → Int32) × (Nat → Int64) × (Nat → (Nat → Int32))) => [(h0, .inr (11, [.int 0, .ref h0_tape, .int 0, .int h0_taped, .int 200, .int (u.1 0), .int (u.1 1), .int (u.1 2), .int (u.1 3), .int (u.1 4), .int (u.1 5), .int (u.1 6), .long (u.2.1 0), .int (u.1 7), .ref h0_now, .ref h0_read, .ref h0_kept, .ref h0_snaps, .ref h0_aside, .ref h0_name, .ref h0_readName, .ref h0_keptName, .ref h0_isKept, .ref h0_onces, .int h0_snapMany, .int h0_lowest, .int h0_highest, .int h0_agreed, .int h0_jurors, .int h0_panelled, .ref h0_inSets, .int h0_surely, .int h0_asked, .ref h0_frees, .int h0_struck, .int h0_beating, .ref h0_text, .int h0_texts, .int h0_seed, .ref h0_line, .ref h0_written, .int h0_lineMany, .int h0_hasWritten, .ref h0_node, .int (u.1 8), .int (u.1 9), .int 0, .int (u.1 10)])), (aI ca h0_tape 940 F_h0_tape), (aI ca h0_node 240 (u.2.2 0)), (aI ca h0_now 376 (u.2.2 1)), (aJ ca h0_name 19 F_h0_name)])) 0 0 := by
  refine oM (cc := cX12_sentence) (maxL := 2) (ret := (some .int)) (by decide) rfl (Nat.le_of_ble_eq_true rfl) [(0, .ref h0)] rfl ?_
  intro p e s m below meth c A H locs ls hx hb hr hml hts hown hlocks hin hK hP hD hA hS hl
  have hown : s.vm.findClass RX12 = some m.cls := hown
  have k1 := hts (.fieldLink RX12 397 "LidCourtModel" "onesMany" "I") (by decide +kernel)
  have k2 : ∀ w ∈ wsX120, w ∈ wsX12_sentence := fun _ h => List.mem_cons_of_mem _ (List.mem_append_right _ h)
  have k3 := hts (.fieldLink RX12 98 "LidCourtModel" "now" "[I") (by decide +kernel)
  have k4 := hts (.fieldLink RX12 166 "LidCourtModel" "node" "[I") (by decide +kernel)
  have k5 := hts (.fieldLink RX12 381 "LidCourtModel" "nodes" "I") (by decide +kernel)
  have k6 := hts (.fieldLink RX12 400 "LidCourtModel" "within" "I") (by decide +kernel)
  have k7 := hts (.fieldLink RX12 69 "LidCourtModel" "place" "I") (by decide +kernel)
  have k8 := hts (.fieldLink RX12 30 "LidCourtModel" "kind" "I") (by decide +kernel)
  have k9 := hts (.fieldLink RX12 387 "LidCourtModel" "top" "I") (by decide +kernel)
  have J79_613 : ∀ (n : Nat) (y79_0 : Int32) (y79_1 : Int32) (y79_2 : Int32) (y79_3 : Int32) (y79_4 : Int32) (y79_5 : Int32) (y79_6 : Int32) (y79_7 : Int32) (y79_8 : Int64) (y79_9 : Int32) (y79_10 : Int32) (y79_11 : Int32) (y79_12 : Int32) (f79_13 : Nat → Int32) (f79_14 : Nat → Int32), True → rg 0 240 y79_0 → rg 0 940 y79_1 → rg (-2147483648) 940 y79_2 → rg 0 0 y79_3 → rg 0 0 y79_6 → rl 0 h0_place y79_7 → rl 0 y79_7 h0_place → rg 1 60 y79_10 → rg 1 20 y79_11 → rg 0 39 y79_12 → sg 0 1 0 10 f79_14 → sg 1 2 0 4 f79_14 → sg 2 3 0 5 f79_14 → sg 35 36 0 1023 f79_14 → sg 44 49 0 3 f79_14 → sg 90 91 0 1023 f79_14 → sg 124 129 0 1023 f79_14 → sg 135 136 0 39 f79_14 → sg 134 135 1 1 f79_14 → eqs 0 134 f79_14 F_h0_now → tokb 0 f79_13 → rl 0 h0_taped h0_taped → cpx 136 0 y79_0 f79_14 f79_13 → 240 < y79_0.toInt + (n : Int) → ∀ (H : Heap) (locs : List Loc) (ls : Array Slot), va_P D vwCl [(h0, .inr (11, [.int 0, .ref h0_tape, .int 0, .int h0_taped, .int 200, .int y79_1, .int y79_2, .int y79_3, .int y79_4, .int y79_5, .int y79_6, .int y79_7, .long y79_8, .int y79_9, .ref h0_now, .ref h0_read, .ref h0_kept, .ref h0_snaps, .ref h0_aside, .ref h0_name, .ref h0_readName, .ref h0_keptName, .ref h0_isKept, .ref h0_onces, .int h0_snapMany, .int h0_lowest, .int h0_highest, .int h0_agreed, .int h0_jurors, .int h0_panelled, .ref h0_inSets, .int h0_surely, .int h0_asked, .ref h0_frees, .int h0_struck, .int h0_beating, .ref h0_text, .int h0_texts, .int h0_seed, .ref h0_line, .ref h0_written, .int h0_lineMany, .int h0_hasWritten, .ref h0_node, .int y79_10, .int y79_11, .int 0, .int y79_12])), (aI ca h0_tape 940 F_h0_tape), (aI ca h0_node 240 f79_13), (aI ca h0_now 376 f79_14), (aJ ca h0_name 19 F_h0_name)] H → va_D A [(h0, .inr (11, [.int 0, .ref h0_tape, .int 0, .int h0_taped, .int 200, .int y79_1, .int y79_2, .int y79_3, .int y79_4, .int y79_5, .int y79_6, .int y79_7, .long y79_8, .int y79_9, .ref h0_now, .ref h0_read, .ref h0_kept, .ref h0_snaps, .ref h0_aside, .ref h0_name, .ref h0_readName, .ref h0_keptName, .ref h0_isKept, .ref h0_onces, .int h0_snapMany, .int h0_lowest, .int h0_highest, .int h0_agreed, .int h0_jurors, .int h0_panelled, .ref h0_inSets, .int h0_surely, .int h0_asked, .ref h0_frees, .int h0_struck, .int h0_beating, .ref h0_text, .int h0_texts, .int h0_seed, .ref h0_line, .ref h0_written, .int h0_lineMany, .int h0_hasWritten, .ref h0_node, .int y79_10, .int y79_11, .int 0, .int y79_12])), (aI ca h0_tape 940 F_h0_tape), (aI ca h0_node 240 f79_13), (aI ca h0_now 376 f79_14), (aJ ca h0_name 19 F_h0_name)] → va_S A s.heap H locs → lv_has ls 2 [(0, .ref h0), (1, .int y79_0)] → W p l e ({ frames := 38, cells := 0, slots := 0, locals := 814 } : Room) s m ([.ref h0] : List Value).toArray below meth c H locs 0 0 (MQ below ((oQi D (fun (r : Int32) (u : (Nat → Int32) × (Nat → Int64) × (Nat → (Nat → Int32))) => (rg 0 940 (u.1 0)) ∧ (rg 0 4 (u.1 2)) ∧ (rg 0 60 (u.1 8)) ∧ (rg 0 20 (u.1 9)) ∧ (sg 0 1 0 10 (u.2.2 1)) ∧ (sg 1 2 0 4 (u.2.2 1)) ∧ (sg 2 3 0 5 (u.2.2 1)) ∧ (sg 35 36 0 1023 (u.2.2 1)) ∧ (sg 44 49 0 3 (u.2.2 1)) ∧ (sg 90 91 0 1023 (u.2.2 1)) ∧ (sg 124 129 0 1023 (u.2.2 1)) ∧ (sg 135 136 0 39 (u.2.2 1)) ∧ (eqs 0 134 (u.2.2 1) F_h0_now) ∧ (rl 0 h0_taped h0_taped) ∧ (tokb 0 (u.2.2 0)) ∧ (tokb 136 (u.2.2 1))) (fun (u : (Nat → Int32) × (Nat → Int64) × (Nat → (Nat → Int32))) => [(h0, .inr (11, [.int 0, .ref h0_tape, .int 0, .int h0_taped, .int 200, .int (u.1 0), .int (u.1 1), .int (u.1 2), .int (u.1 3), .int (u.1 4), .int (u.1 5), .int (u.1 6), .long (u.2.1 0), .int (u.1 7), .ref h0_now, .ref h0_read, .ref h0_kept, .ref h0_snaps, .ref h0_aside, .ref h0_name, .ref h0_readName, .ref h0_keptName, .ref h0_isKept, .ref h0_onces, .int h0_snapMany, .int h0_lowest, .int h0_highest, .int h0_agreed, .int h0_jurors, .int h0_panelled, .ref h0_inSets, .int h0_surely, .int h0_asked, .ref h0_frees, .int h0_struck, .int h0_beating, .ref h0_text, .int h0_texts, .int h0_seed, .ref h0_line, .ref h0_written, .int h0_lineMany, .int h0_hasWritten, .ref h0_node, .int (u.1 8), .int (u.1 9), .int 0, .int (u.1 10)])), (aI ca h0_tape 940 F_h0_tape), (aI ca h0_node 240 (u.2.2 0)), (aI ca h0_now 376 (u.2.2 1)), (aJ ca h0_name 19 F_h0_name)])) A) ([.ref h0] : List Value).toArray s 0 0 A) (F0 m 79 ls []) := by
    intro n
    induction n with
    | zero => intro y79_0 y79_1 y79_2 y79_3 y79_4 y79_5 y79_6 y79_7 y79_8 y79_9 y79_10 y79_11 y79_12 f79_13 f79_14 _ hy79_0 hy79_1 hy79_2 hy79_3 hy79_6 py79_7_h0_place qy79_7_h0_place hy79_10 hy79_11 hy79_12 s79_15 s79_16 s79_17 s79_18 s79_19 s79_20 s79_21 s79_22 s79_23 e79_24 u79_tok o79_h0_taped_h0_taped v79_cpx hn; exact absurd hn (by have q9 := hy79_0.2; omega)
    | succ n ih =>
      intro y79_0 y79_1 y79_2 y79_3 y79_4 y79_5 y79_6 y79_7 y79_8 y79_9 y79_10 y79_11 y79_12 f79_13 f79_14 _ hy79_0 hy79_1 hy79_2 hy79_3 hy79_6 py79_7_h0_place qy79_7_h0_place hy79_10 hy79_11 hy79_12 s79_15 s79_16 s79_17 s79_18 s79_19 s79_20 s79_21 s79_22 s79_23 e79_24 u79_tok o79_h0_taped_h0_taped v79_cpx hn H locs ls hP hD hS hl
      refine lv_iload_n hx hb dX12_sentence_79 rfl (lv_at hl 1 rfl) ?_
      refine lv_sipush (v := 240) hx hb dX12_sentence_80 (by decide) ?_
      refine lv_icmp_ge (tgt := 108) hx hb dX12_sentence_83 (by decide) (fun c_637 => ?_) (fun c_637 => ?_)
      · skip
        have o_638 : rl 0 240 y79_0 := rl_le c_637
        have h_639 : rg 240 240 y79_0 := rl_y o_638 (⟨by decide, by decide⟩ : rg 240 240 (240 : Int32)) hy79_0 (by decide) (by decide)
        refine lv_aload_n hx hb dX12_sentence_108 rfl (lv_at hl 0 rfl) ?_
        refine va_get (D := D) (ci := 11) (v := .int y79_11) (C := RX12) (T := TX12) (N := 48) hx hb hts k2 hown hK.1 hP 0 rfl rfl 45 (by decide) k1 (fun _ h9 => h9) rfl dX12_sentence_109 ?_
        have u_640 : tokb 136 f79_14 := cpx_tok (e := 0) v79_cpx (h_639).1 u79_tok (by decide) rfl rfl
        exact oE_i hx hb hr rfl hlocks hP hD hS ((fun k => [y79_1, y79_2, y79_3, y79_4, y79_5, y79_6, y79_7, y79_9, y79_10, y79_11, y79_12].getD k 0), (fun k => [y79_8].getD k 0), (fun k => [f79_13, f79_14].getD k (fun _ => 0))) [0, 1, 2, 3, 4] rfl (by decide) ⟨hy79_1, (rgw (lo := 0) (hi := 4) hy79_3 (by decide) (by decide)), (rgw (lo := 0) (hi := 60) hy79_10 (by decide) (by decide)), (rgw (lo := 0) (hi := 20) hy79_11 (by decide) (by decide)), s79_15, s79_16, s79_17, s79_18, s79_19, s79_20, s79_21, s79_22, e79_24, (show rl 0 h0_taped h0_taped from rlm (by omega)), u79_tok, u_640⟩ (Nat.le_of_ble_eq_true rfl) (Nat.le_of_ble_eq_true rfl) dX12_sentence_112
      · skip
        have o_641 : rl 1 y79_0 240 := rl_nle c_637
        have h_642 : rg 0 239 y79_0 := rl_x o_641 hy79_0 (⟨by decide, by decide⟩ : rg 240 240 (240 : Int32)) (by decide) (by decide)
        refine lv_aload_n hx hb dX12_sentence_86 rfl (lv_at hl 0 rfl) ?_
        refine va_get (D := D) (ci := 11) (v := .ref h0_now) (C := RX12) (T := TX12) (N := 48) hx hb hts k2 hown hK.1 hP 0 rfl rfl 14 (by decide) k3 (fun _ h9 => h9) rfl dX12_sentence_87 ?_
        refine lv_sipush (v := 136) hx hb dX12_sentence_90 (by decide) ?_
        refine lv_iload_n hx hb dX12_sentence_93 rfl (lv_at hl 1 rfl) ?_
        refine lv_iadd hx hb dX12_sentence_94 ?_
        refine lv_topi (fun x_643 ex_643 => ?_)
        have h_644 : rg 136 375 x_643 := by rw [ex_643]; exact rg_add (⟨by decide, by decide⟩ : rg 136 136 (136 : Int32)) h_642 (by decide) (by decide) (by decide) (by decide)
        have l_645 : lq x_643.toInt (y79_0.toInt + 136) := lqm (by rw [ex_643]; have q := tadd (⟨by decide, by decide⟩ : rg 136 136 (136 : Int32)) h_642 (by decide) (by decide); have r0 := lqe (lqm (by decide) : lq (136 : Int32).toInt 136); omega)
        refine lv_aload_n hx hb dX12_sentence_95 rfl (lv_at hl 0 rfl) ?_
        refine va_get (D := D) (ci := 11) (v := .ref h0_node) (C := RX12) (T := TX12) (N := 48) hx hb hts k2 hown hK.1 hP 0 rfl rfl 43 (by decide) k4 (fun _ h9 => h9) rfl dX12_sentence_96 ?_
        refine lv_iload_n hx hb dX12_sentence_99 rfl (lv_at hl 1 rfl) ?_
        refine va_iald hx hb hK.1 hP 2 0 rfl rfl (rg_in h_642 (by decide) (by decide)) dX12_sentence_100 ?_
        refine lv_topi (fun x_646 ex_646 => ?_)
        refine va_iast hx hb hK.1 hP hD hS 3 0 rfl rfl (rg_in h_644 (by decide) (by decide)) dX12_sentence_101 (fun H locs hP hD hS => ?_)
        obtain ⟨g_647, eg_647⟩ : ∃ y : Nat → Int32, y = upd f79_14 (x_643 : Int32).toNatClampNeg (x_646 : Int32) := ⟨_, rfl⟩
        rw [← eg_647] at hP hD
        have s_648 : sg 0 1 0 10 g_647 := sg_out s79_15 eg_647 h_644 (by decide) (by decide)
        have s_649 : sg 1 2 0 4 g_647 := sg_out s79_16 eg_647 h_644 (by decide) (by decide)
        have s_650 : sg 2 3 0 5 g_647 := sg_out s79_17 eg_647 h_644 (by decide) (by decide)
        have s_651 : sg 35 36 0 1023 g_647 := sg_out s79_18 eg_647 h_644 (by decide) (by decide)
        have s_652 : sg 44 49 0 3 g_647 := sg_out s79_19 eg_647 h_644 (by decide) (by decide)
        have s_653 : sg 90 91 0 1023 g_647 := sg_out s79_20 eg_647 h_644 (by decide) (by decide)
        have s_654 : sg 124 129 0 1023 g_647 := sg_out s79_21 eg_647 h_644 (by decide) (by decide)
        have s_655 : sg 135 136 0 39 g_647 := sg_out s79_22 eg_647 h_644 (by decide) (by decide)
        have s_656 : sg 134 135 1 1 g_647 := sg_out s79_23 eg_647 h_644 (by decide) (by decide)
        have q_657 : eqs 0 134 g_647 F_h0_now := eqs_out e79_24 eg_647 h_644 (by decide) (by decide) (by decide) (by decide)
        have hP : va_P D vwCl [(h0, .inr (11, [.int 0, .ref h0_tape, .int 0, .int h0_taped, .int 200, .int y79_1, .int y79_2, .int y79_3, .int y79_4, .int y79_5, .int y79_6, .int y79_7, .long y79_8, .int y79_9, .ref h0_now, .ref h0_read, .ref h0_kept, .ref h0_snaps, .ref h0_aside, .ref h0_name, .ref h0_readName, .ref h0_keptName, .ref h0_isKept, .ref h0_onces, .int h0_snapMany, .int h0_lowest, .int h0_highest, .int h0_agreed, .int h0_jurors, .int h0_panelled, .ref h0_inSets, .int h0_surely, .int h0_asked, .ref h0_frees, .int h0_struck, .int h0_beating, .ref h0_text, .int h0_texts, .int h0_seed, .ref h0_line, .ref h0_written, .int h0_lineMany, .int h0_hasWritten, .ref h0_node, .int y79_10, .int y79_11, .int 0, .int y79_12])), (aI ca h0_tape 940 F_h0_tape), (aI ca h0_node 240 f79_13), (aI ca h0_now 376 g_647), (aJ ca h0_name 19 F_h0_name)] H := hP
        have hD : va_D A [(h0, .inr (11, [.int 0, .ref h0_tape, .int 0, .int h0_taped, .int 200, .int y79_1, .int y79_2, .int y79_3, .int y79_4, .int y79_5, .int y79_6, .int y79_7, .long y79_8, .int y79_9, .ref h0_now, .ref h0_read, .ref h0_kept, .ref h0_snaps, .ref h0_aside, .ref h0_name, .ref h0_readName, .ref h0_keptName, .ref h0_isKept, .ref h0_onces, .int h0_snapMany, .int h0_lowest, .int h0_highest, .int h0_agreed, .int h0_jurors, .int h0_panelled, .ref h0_inSets, .int h0_surely, .int h0_asked, .ref h0_frees, .int h0_struck, .int h0_beating, .ref h0_text, .int h0_texts, .int h0_seed, .ref h0_line, .ref h0_written, .int h0_lineMany, .int h0_hasWritten, .ref h0_node, .int y79_10, .int y79_11, .int 0, .int y79_12])), (aI ca h0_tape 940 F_h0_tape), (aI ca h0_node 240 f79_13), (aI ca h0_now 376 g_647), (aJ ca h0_name 19 F_h0_name)] := hD
        obtain ⟨x_658, ex_658⟩ : ∃ y : Int32, y = y79_0 + 1 := ⟨_, rfl⟩
        have h_659 : rg 1 240 x_658 := by rw [ex_658]; exact rg_add h_642 (⟨by decide, by decide⟩ : rg 1 1 (1 : Int32)) (by decide) (by decide) (by decide) (by decide)
        have l_660 : lq x_658.toInt (y79_0.toInt + 1) := lqm (by rw [ex_658]; have q := tadd h_642 (⟨by decide, by decide⟩ : rg 1 1 (1 : Int32)) (by decide) (by decide); have r1 := lqe (lqm (by decide) : lq (1 : Int32).toInt 1); omega)
        refine lv_iinc (v := x_658) (lv' := [(1, .int x_658), (0, .ref h0)]) hx hb dX12_sentence_102 hl (k := 1) rfl (by rw [ex_658]; rfl) (by decide) rfl (fun ls hl => ?_)
        refine lv_goto (tgt := 79) hx hb dX12_sentence_105 (by decide) ?_
        exact ih x_658 y79_1 y79_2 y79_3 y79_4 y79_5 y79_6 y79_7 y79_8 y79_9 y79_10 y79_11 y79_12 f79_13 g_647 trivial (rgw (lo := 0) (hi := 240) h_659 (by decide) (by decide)) hy79_1 hy79_2 hy79_3 hy79_6 (rlm (by have q0 := rle py79_7_h0_place; have q1 := rle qy79_7_h0_place; omega)) (rlm (by have q0 := rle py79_7_h0_place; have q1 := rle qy79_7_h0_place; omega)) hy79_10 hy79_11 hy79_12 s_648 s_649 s_650 s_651 s_652 s_653 s_654 s_655 s_656 q_657 u79_tok o79_h0_taped_h0_taped (cpx_s v79_cpx h_642 eg_647 ex_646 (lqm (by have q9 := lqe l_645; omega)) (lqm (by have q9 := lqe (lq0 y79_0); omega)) l_660) (by have q0 := lqe l_660; omega) H locs ls (oPsub hP [0, 1, 2, 3, 4] rfl) (hD.sub [0, 1, 2, 3, 4] (by decide) rfl) hS (lv_sub hl [1, 0] rfl)
  refine lv_aload_n hx hb dX12_sentence_0 rfl (lv_at hl 0 rfl) ?_
  refine lv_sipush (v := 200) hx hb dX12_sentence_1 (by decide) ?_
  refine oC_v (Wc := [(h0, .inr (11, [.int h0_thrown, .ref h0_tape, .int h0_taped, .int h0_size, .int h0_limit, .int h0_to, .int h0_from, .int h0_kind, .int h0_number, .int h0_sign, .int h0_fault, .int h0_place, .long h0_word, .int h0_told, .ref h0_now, .ref h0_read, .ref h0_kept, .ref h0_snaps, .ref h0_aside, .ref h0_name, .ref h0_readName, .ref h0_keptName, .ref h0_isKept, .ref h0_onces, .int h0_snapMany, .int h0_lowest, .int h0_highest, .int h0_agreed, .int h0_jurors, .int h0_panelled, .ref h0_inSets, .int h0_surely, .int h0_asked, .ref h0_frees, .int h0_struck, .int h0_beating, .ref h0_text, .int h0_texts, .int h0_seed, .ref h0_line, .ref h0_written, .int h0_lineMany, .int h0_hasWritten, .ref h0_node, .int h0_nodes, .int h0_onesMany, .int h0_within, .int h0_top])), (aI ca h0_tape 940 F_h0_tape)]) (Wr := [(aI ca h0_node 240 F_h0_node), (aI ca h0_now 376 F_h0_now), (aJ ca h0_name 19 F_h0_name)]) (va_runV (As := [.int 200]) (rest := []) ⟨hx, hb, hml, hown, hts⟩ (s_X12_begin l D ca H.size h0 200 h0_thrown h0_tape h0_taped h0_size h0_limit h0_to h0_from h0_kind h0_number h0_sign h0_fault h0_place h0_word h0_told h0_now h0_read h0_kept h0_snaps h0_aside h0_name h0_readName h0_keptName h0_isKept h0_onces h0_snapMany h0_lowest h0_highest h0_agreed h0_jurors h0_panelled h0_inSets h0_surely h0_asked h0_frees h0_struck h0_beating h0_text h0_texts h0_seed h0_line h0_written h0_lineMany h0_hasWritten h0_node h0_nodes h0_onesMany h0_within h0_top F_h0_tape i_h0_taped i_h0_size i_h0_to i_h0_kind i_h0_snapMany i_h0_texts i_h0_lineMany i_h0_hasWritten i_h0_nodes i_h0_onesMany s_h0_tape_0) (cwV 1 hts gX12_sentence_X12_begin rfl rfl rfl (by decide +kernel) ⟨Nat.le_of_ble_eq_true rfl, Nat.le_of_ble_eq_true rfl⟩) (oPV (C := RX12) hK hP hD [0, 1] rfl (by decide) 0 rfl (ci := 11) rfl rfl) rfl rfl hl.1 rfl (lv_room (Nat.le_of_ble_eq_true rfl)) dX12_sentence_4 ⟨Nat.le_of_ble_eq_true rfl, Nat.le_of_ble_eq_true rfl⟩) hP hD hS hA [0, 1] [2, 3, 4] rfl rfl (by decide) (by decide) (fun u H locs w_662 hP hD hS => ?_)
  obtain ⟨u_663, u_664, u_665, u_666, u_667, u_668⟩ := u
  have hP : va_P D vwCl [(aI ca h0_node 240 F_h0_node), (aI ca h0_now 376 F_h0_now), (aJ ca h0_name 19 F_h0_name), (h0, .inr (11, [.int 0, .ref h0_tape, .int 0, .int h0_taped, .int 200, .int u_663, .int u_664, .int u_665, .int u_666, .int u_667, .int 0, .int h0_place, .long u_668, .int h0_told, .ref h0_now, .ref h0_read, .ref h0_kept, .ref h0_snaps, .ref h0_aside, .ref h0_name, .ref h0_readName, .ref h0_keptName, .ref h0_isKept, .ref h0_onces, .int h0_snapMany, .int h0_lowest, .int h0_highest, .int h0_agreed, .int h0_jurors, .int h0_panelled, .ref h0_inSets, .int h0_surely, .int h0_asked, .ref h0_frees, .int h0_struck, .int h0_beating, .ref h0_text, .int h0_texts, .int h0_seed, .ref h0_line, .ref h0_written, .int h0_lineMany, .int h0_hasWritten, .ref h0_node, .int h0_nodes, .int h0_onesMany, .int h0_within, .int h0_top])), (aI ca h0_tape 940 F_h0_tape)] H := hP
  have hD : va_D A [(aI ca h0_node 240 F_h0_node), (aI ca h0_now 376 F_h0_now), (aJ ca h0_name 19 F_h0_name), (h0, .inr (11, [.int 0, .ref h0_tape, .int 0, .int h0_taped, .int 200, .int u_663, .int u_664, .int u_665, .int u_666, .int u_667, .int 0, .int h0_place, .long u_668, .int h0_told, .ref h0_now, .ref h0_read, .ref h0_kept, .ref h0_snaps, .ref h0_aside, .ref h0_name, .ref h0_readName, .ref h0_keptName, .ref h0_isKept, .ref h0_onces, .int h0_snapMany, .int h0_lowest, .int h0_highest, .int h0_agreed, .int h0_jurors, .int h0_panelled, .ref h0_inSets, .int h0_surely, .int h0_asked, .ref h0_frees, .int h0_struck, .int h0_beating, .ref h0_text, .int h0_texts, .int h0_seed, .ref h0_line, .ref h0_written, .int h0_lineMany, .int h0_hasWritten, .ref h0_node, .int h0_nodes, .int h0_onesMany, .int h0_within, .int h0_top])), (aI ca h0_tape 940 F_h0_tape)] := hD
  try dsimp only at w_662
  obtain ⟨h_669, h_670, h_671, h_672⟩ := w_662
  refine lv_aload_n hx hb dX12_sentence_7 rfl (lv_at hl 0 rfl) ?_
  refine lv_iconst (v := 0) hx hb dX12_sentence_8 (by decide) ?_
  refine va_put (D := D) (ci := 11) (v := .int 0) (ty := .int) (C := RX12) (T := TX12) (N := 48) hx hb hts k2 tyX12 tyX12_ok nmX12 hown hK.1 hP hD hS 3 rfl rfl 44 (by decide) k5 (fun _ h9 => h9) rfl (by decide +kernel) rfl rfl (Nat.le_of_ble_eq_true rfl) dX12_sentence_9 (fun H locs hP hD hS => ?_)
  have hP : va_P D vwCl [(aI ca h0_node 240 F_h0_node), (aI ca h0_now 376 F_h0_now), (aJ ca h0_name 19 F_h0_name), (h0, .inr (11, [.int 0, .ref h0_tape, .int 0, .int h0_taped, .int 200, .int u_663, .int u_664, .int u_665, .int u_666, .int u_667, .int 0, .int h0_place, .long u_668, .int h0_told, .ref h0_now, .ref h0_read, .ref h0_kept, .ref h0_snaps, .ref h0_aside, .ref h0_name, .ref h0_readName, .ref h0_keptName, .ref h0_isKept, .ref h0_onces, .int h0_snapMany, .int h0_lowest, .int h0_highest, .int h0_agreed, .int h0_jurors, .int h0_panelled, .ref h0_inSets, .int h0_surely, .int h0_asked, .ref h0_frees, .int h0_struck, .int h0_beating, .ref h0_text, .int h0_texts, .int h0_seed, .ref h0_line, .ref h0_written, .int h0_lineMany, .int h0_hasWritten, .ref h0_node, .int 0, .int h0_onesMany, .int h0_within, .int h0_top])), (aI ca h0_tape 940 F_h0_tape)] H := hP
  have hD : va_D A [(aI ca h0_node 240 F_h0_node), (aI ca h0_now 376 F_h0_now), (aJ ca h0_name 19 F_h0_name), (h0, .inr (11, [.int 0, .ref h0_tape, .int 0, .int h0_taped, .int 200, .int u_663, .int u_664, .int u_665, .int u_666, .int u_667, .int 0, .int h0_place, .long u_668, .int h0_told, .ref h0_now, .ref h0_read, .ref h0_kept, .ref h0_snaps, .ref h0_aside, .ref h0_name, .ref h0_readName, .ref h0_keptName, .ref h0_isKept, .ref h0_onces, .int h0_snapMany, .int h0_lowest, .int h0_highest, .int h0_agreed, .int h0_jurors, .int h0_panelled, .ref h0_inSets, .int h0_surely, .int h0_asked, .ref h0_frees, .int h0_struck, .int h0_beating, .ref h0_text, .int h0_texts, .int h0_seed, .ref h0_line, .ref h0_written, .int h0_lineMany, .int h0_hasWritten, .ref h0_node, .int 0, .int h0_onesMany, .int h0_within, .int h0_top])), (aI ca h0_tape 940 F_h0_tape)] := hD
  refine lv_aload_n hx hb dX12_sentence_12 rfl (lv_at hl 0 rfl) ?_
  refine lv_iconst (v := 0) hx hb dX12_sentence_13 (by decide) ?_
  refine va_put (D := D) (ci := 11) (v := .int 0) (ty := .int) (C := RX12) (T := TX12) (N := 48) hx hb hts k2 tyX12 tyX12_ok nmX12 hown hK.1 hP hD hS 3 rfl rfl 45 (by decide) k1 (fun _ h9 => h9) rfl (by decide +kernel) rfl rfl (Nat.le_of_ble_eq_true rfl) dX12_sentence_14 (fun H locs hP hD hS => ?_)
  have hP : va_P D vwCl [(aI ca h0_node 240 F_h0_node), (aI ca h0_now 376 F_h0_now), (aJ ca h0_name 19 F_h0_name), (h0, .inr (11, [.int 0, .ref h0_tape, .int 0, .int h0_taped, .int 200, .int u_663, .int u_664, .int u_665, .int u_666, .int u_667, .int 0, .int h0_place, .long u_668, .int h0_told, .ref h0_now, .ref h0_read, .ref h0_kept, .ref h0_snaps, .ref h0_aside, .ref h0_name, .ref h0_readName, .ref h0_keptName, .ref h0_isKept, .ref h0_onces, .int h0_snapMany, .int h0_lowest, .int h0_highest, .int h0_agreed, .int h0_jurors, .int h0_panelled, .ref h0_inSets, .int h0_surely, .int h0_asked, .ref h0_frees, .int h0_struck, .int h0_beating, .ref h0_text, .int h0_texts, .int h0_seed, .ref h0_line, .ref h0_written, .int h0_lineMany, .int h0_hasWritten, .ref h0_node, .int 0, .int 0, .int h0_within, .int h0_top])), (aI ca h0_tape 940 F_h0_tape)] H := hP
  have hD : va_D A [(aI ca h0_node 240 F_h0_node), (aI ca h0_now 376 F_h0_now), (aJ ca h0_name 19 F_h0_name), (h0, .inr (11, [.int 0, .ref h0_tape, .int 0, .int h0_taped, .int 200, .int u_663, .int u_664, .int u_665, .int u_666, .int u_667, .int 0, .int h0_place, .long u_668, .int h0_told, .ref h0_now, .ref h0_read, .ref h0_kept, .ref h0_snaps, .ref h0_aside, .ref h0_name, .ref h0_readName, .ref h0_keptName, .ref h0_isKept, .ref h0_onces, .int h0_snapMany, .int h0_lowest, .int h0_highest, .int h0_agreed, .int h0_jurors, .int h0_panelled, .ref h0_inSets, .int h0_surely, .int h0_asked, .ref h0_frees, .int h0_struck, .int h0_beating, .ref h0_text, .int h0_texts, .int h0_seed, .ref h0_line, .ref h0_written, .int h0_lineMany, .int h0_hasWritten, .ref h0_node, .int 0, .int 0, .int h0_within, .int h0_top])), (aI ca h0_tape 940 F_h0_tape)] := hD
  refine lv_aload_n hx hb dX12_sentence_17 rfl (lv_at hl 0 rfl) ?_
  refine lv_iconst (v := 0) hx hb dX12_sentence_18 (by decide) ?_
  refine va_put (D := D) (ci := 11) (v := .int 0) (ty := .int) (C := RX12) (T := TX12) (N := 48) hx hb hts k2 tyX12 tyX12_ok nmX12 hown hK.1 hP hD hS 3 rfl rfl 46 (by decide) k6 (fun _ h9 => h9) rfl (by decide +kernel) rfl rfl (Nat.le_of_ble_eq_true rfl) dX12_sentence_19 (fun H locs hP hD hS => ?_)
  have hP : va_P D vwCl [(aI ca h0_node 240 F_h0_node), (aI ca h0_now 376 F_h0_now), (aJ ca h0_name 19 F_h0_name), (h0, .inr (11, [.int 0, .ref h0_tape, .int 0, .int h0_taped, .int 200, .int u_663, .int u_664, .int u_665, .int u_666, .int u_667, .int 0, .int h0_place, .long u_668, .int h0_told, .ref h0_now, .ref h0_read, .ref h0_kept, .ref h0_snaps, .ref h0_aside, .ref h0_name, .ref h0_readName, .ref h0_keptName, .ref h0_isKept, .ref h0_onces, .int h0_snapMany, .int h0_lowest, .int h0_highest, .int h0_agreed, .int h0_jurors, .int h0_panelled, .ref h0_inSets, .int h0_surely, .int h0_asked, .ref h0_frees, .int h0_struck, .int h0_beating, .ref h0_text, .int h0_texts, .int h0_seed, .ref h0_line, .ref h0_written, .int h0_lineMany, .int h0_hasWritten, .ref h0_node, .int 0, .int 0, .int 0, .int h0_top])), (aI ca h0_tape 940 F_h0_tape)] H := hP
  have hD : va_D A [(aI ca h0_node 240 F_h0_node), (aI ca h0_now 376 F_h0_now), (aJ ca h0_name 19 F_h0_name), (h0, .inr (11, [.int 0, .ref h0_tape, .int 0, .int h0_taped, .int 200, .int u_663, .int u_664, .int u_665, .int u_666, .int u_667, .int 0, .int h0_place, .long u_668, .int h0_told, .ref h0_now, .ref h0_read, .ref h0_kept, .ref h0_snaps, .ref h0_aside, .ref h0_name, .ref h0_readName, .ref h0_keptName, .ref h0_isKept, .ref h0_onces, .int h0_snapMany, .int h0_lowest, .int h0_highest, .int h0_agreed, .int h0_jurors, .int h0_panelled, .ref h0_inSets, .int h0_surely, .int h0_asked, .ref h0_frees, .int h0_struck, .int h0_beating, .ref h0_text, .int h0_texts, .int h0_seed, .ref h0_line, .ref h0_written, .int h0_lineMany, .int h0_hasWritten, .ref h0_node, .int 0, .int 0, .int 0, .int h0_top])), (aI ca h0_tape 940 F_h0_tape)] := hD
  refine lv_aload_n hx hb dX12_sentence_22 rfl (lv_at hl 0 rfl) ?_
  refine oC_i (Wc := [(h0, .inr (11, [.int 0, .ref h0_tape, .int 0, .int h0_taped, .int 200, .int u_663, .int u_664, .int u_665, .int u_666, .int u_667, .int 0, .int h0_place, .long u_668, .int h0_told, .ref h0_now, .ref h0_read, .ref h0_kept, .ref h0_snaps, .ref h0_aside, .ref h0_name, .ref h0_readName, .ref h0_keptName, .ref h0_isKept, .ref h0_onces, .int h0_snapMany, .int h0_lowest, .int h0_highest, .int h0_agreed, .int h0_jurors, .int h0_panelled, .ref h0_inSets, .int h0_surely, .int h0_asked, .ref h0_frees, .int h0_struck, .int h0_beating, .ref h0_text, .int h0_texts, .int h0_seed, .ref h0_line, .ref h0_written, .int h0_lineMany, .int h0_hasWritten, .ref h0_node, .int 0, .int 0, .int 0, .int h0_top])), (aI ca h0_tape 940 F_h0_tape), (aI ca h0_node 240 F_h0_node), (aI ca h0_now 376 F_h0_now), (aJ ca h0_name 19 F_h0_name)]) (Wr := []) (va_runV (As := []) (rest := []) ⟨hx, hb, hml, hown, hts⟩ (s_X12_readOr_0 l D ca H.size h0 0 h0_tape 0 h0_taped 200 u_663 u_664 u_665 u_666 u_667 0 h0_place u_668 h0_told h0_now h0_read h0_kept h0_snaps h0_aside h0_name h0_readName h0_keptName h0_isKept h0_onces h0_snapMany h0_lowest h0_highest h0_agreed h0_jurors h0_panelled h0_inSets h0_surely h0_asked h0_frees h0_struck h0_beating h0_text h0_texts h0_seed h0_line h0_written h0_lineMany h0_hasWritten h0_node 0 0 h0_top F_h0_tape F_h0_node F_h0_now F_h0_name (⟨by decide, by decide⟩ : rg 0 940 (0 : Int32)) i_h0_taped h_669 h_671 i_h0_snapMany i_h0_texts i_h0_lineMany i_h0_hasWritten (⟨by decide, by decide⟩ : rg 0 60 (0 : Int32)) (⟨by decide, by decide⟩ : rg 0 20 (0 : Int32)) s_h0_tape_0 s_h0_now_0 s_h0_now_1 s_h0_now_2 s_h0_now_3 s_h0_now_4 s_h0_now_5 s_h0_now_6 s_h0_now_7 cu_tok (nbm (by have q0 := (show (0 : Int32).toInt = 0 by decide); have q1 := (show (0 : Int32).toInt = 0 by decide); have q2 := (i_h0_nodes).1; have q3 := (i_h0_nodes).2; have q4 := (i_h0_onesMany).1; have q5 := (i_h0_onesMany).2; omega))) (cwV 0 hts gX12_sentence_X12_readOr rfl rfl rfl (by decide +kernel) ⟨Nat.le_of_ble_eq_true rfl, Nat.le_of_ble_eq_true rfl⟩) (oPV (C := RX12) hK hP hD [3, 4, 0, 1, 2] rfl (by decide) 0 rfl (ci := 11) rfl rfl) rfl rfl hl.1 rfl (lv_room (Nat.le_of_ble_eq_true rfl)) dX12_sentence_23 ⟨Nat.le_of_ble_eq_true rfl, Nat.le_of_ble_eq_true rfl⟩) hP hD hS hA [3, 4, 0, 1, 2] [] rfl rfl (by decide) (by decide) (fun r_673 u H locs w_674 hP hD hS => ?_)
  obtain ⟨u_675, u_676, u_677⟩ := u
  skip
  suffices K_691 : ∀ (u_678 : Int32) (u_679 : Int32) (u_680 : Int32) (u_681 : Int32) (u_682 : Int32) (u_683 : Int32) (u_684 : Int32) (u_685 : Int64) (u_686 : Int32) (u_687 : Int32) (u_688 : Int32) (u_689 : Int32) (u_690 : Nat → Int32), (((r_673 = 0) ∧ (rg 0 940 u_678) ∧ (rg 0 4 u_680) ∧ (rg 0 60 u_687) ∧ (rg 0 20 u_688) ∧ (rl 0 u_663 u_678) ∧ (rl 0 0 u_687) ∧ (rl 0 0 u_688) ∧ (nk 0 0 0 u_687 u_688) ∧ (tokb 0 u_690)) ∨ ((r_673 = 1) ∧ (rg 0 940 u_678) ∧ (rg (-2147483648) 940 u_679) ∧ (rg 0 4 u_680) ∧ (rg 1 60 u_687) ∧ (rg 1 20 u_688) ∧ (rg 0 59 u_689) ∧ (rg 0 59 0) ∧ (rg 0 19 0) ∧ (rl 0 u_663 u_678) ∧ (rl 0 0 u_683) ∧ (rl 0 u_683 0) ∧ (rl 0 h0_place u_684) ∧ (rl 0 u_684 h0_place) ∧ (rl 1 0 u_687) ∧ (rl 1 0 u_688) ∧ (rl 1 u_689 u_687) ∧ (nk 1 0 0 u_687 u_688) ∧ (tokb 0 u_690))) → ∀ (H : Heap) (locs : List Loc), va_P D vwCl [(h0, .inr (11, [.int 0, .ref h0_tape, .int 0, .int h0_taped, .int 200, .int u_678, .int u_679, .int u_680, .int u_681, .int u_682, .int u_683, .int u_684, .long u_685, .int u_686, .ref h0_now, .ref h0_read, .ref h0_kept, .ref h0_snaps, .ref h0_aside, .ref h0_name, .ref h0_readName, .ref h0_keptName, .ref h0_isKept, .ref h0_onces, .int h0_snapMany, .int h0_lowest, .int h0_highest, .int h0_agreed, .int h0_jurors, .int h0_panelled, .ref h0_inSets, .int h0_surely, .int h0_asked, .ref h0_frees, .int h0_struck, .int h0_beating, .ref h0_text, .int h0_texts, .int h0_seed, .ref h0_line, .ref h0_written, .int h0_lineMany, .int h0_hasWritten, .ref h0_node, .int u_687, .int u_688, .int 0, .int u_689])), (aI ca h0_tape 940 F_h0_tape), (aI ca h0_node 240 u_690), (aI ca h0_now 376 F_h0_now), (aJ ca h0_name 19 F_h0_name)] H → va_D A [(h0, .inr (11, [.int 0, .ref h0_tape, .int 0, .int h0_taped, .int 200, .int u_678, .int u_679, .int u_680, .int u_681, .int u_682, .int u_683, .int u_684, .long u_685, .int u_686, .ref h0_now, .ref h0_read, .ref h0_kept, .ref h0_snaps, .ref h0_aside, .ref h0_name, .ref h0_readName, .ref h0_keptName, .ref h0_isKept, .ref h0_onces, .int h0_snapMany, .int h0_lowest, .int h0_highest, .int h0_agreed, .int h0_jurors, .int h0_panelled, .ref h0_inSets, .int h0_surely, .int h0_asked, .ref h0_frees, .int h0_struck, .int h0_beating, .ref h0_text, .int h0_texts, .int h0_seed, .ref h0_line, .ref h0_written, .int h0_lineMany, .int h0_hasWritten, .ref h0_node, .int u_687, .int u_688, .int 0, .int u_689])), (aI ca h0_tape 940 F_h0_tape), (aI ca h0_node 240 u_690), (aI ca h0_now 376 F_h0_now), (aJ ca h0_name 19 F_h0_name)] → va_S A s.heap H locs → W p l e ({ frames := 38, cells := 0, slots := 0, locals := 814 } : Room) s m ([.ref h0] : List Value).toArray below meth c H locs 0 0 (MQ below ((oQi D (fun (r : Int32) (u : (Nat → Int32) × (Nat → Int64) × (Nat → (Nat → Int32))) => (rg 0 940 (u.1 0)) ∧ (rg 0 4 (u.1 2)) ∧ (rg 0 60 (u.1 8)) ∧ (rg 0 20 (u.1 9)) ∧ (sg 0 1 0 10 (u.2.2 1)) ∧ (sg 1 2 0 4 (u.2.2 1)) ∧ (sg 2 3 0 5 (u.2.2 1)) ∧ (sg 35 36 0 1023 (u.2.2 1)) ∧ (sg 44 49 0 3 (u.2.2 1)) ∧ (sg 90 91 0 1023 (u.2.2 1)) ∧ (sg 124 129 0 1023 (u.2.2 1)) ∧ (sg 135 136 0 39 (u.2.2 1)) ∧ (eqs 0 134 (u.2.2 1) F_h0_now) ∧ (rl 0 h0_taped h0_taped) ∧ (tokb 0 (u.2.2 0)) ∧ (tokb 136 (u.2.2 1))) (fun (u : (Nat → Int32) × (Nat → Int64) × (Nat → (Nat → Int32))) => [(h0, .inr (11, [.int 0, .ref h0_tape, .int 0, .int h0_taped, .int 200, .int (u.1 0), .int (u.1 1), .int (u.1 2), .int (u.1 3), .int (u.1 4), .int (u.1 5), .int (u.1 6), .long (u.2.1 0), .int (u.1 7), .ref h0_now, .ref h0_read, .ref h0_kept, .ref h0_snaps, .ref h0_aside, .ref h0_name, .ref h0_readName, .ref h0_keptName, .ref h0_isKept, .ref h0_onces, .int h0_snapMany, .int h0_lowest, .int h0_highest, .int h0_agreed, .int h0_jurors, .int h0_panelled, .ref h0_inSets, .int h0_surely, .int h0_asked, .ref h0_frees, .int h0_struck, .int h0_beating, .ref h0_text, .int h0_texts, .int h0_seed, .ref h0_line, .ref h0_written, .int h0_lineMany, .int h0_hasWritten, .ref h0_node, .int (u.1 8), .int (u.1 9), .int 0, .int (u.1 10)])), (aI ca h0_tape 940 F_h0_tape), (aI ca h0_node 240 (u.2.2 0)), (aI ca h0_now 376 (u.2.2 1)), (aJ ca h0_name 19 F_h0_name)])) A) ([.ref h0] : List Value).toArray s 0 0 A) (F0 m 26 ls [.int r_673]) by exact K_691 (u_675 0) (u_675 1) (u_675 2) (u_675 3) (u_675 4) (u_675 5) (u_675 6) (u_676 0) (u_675 7) (u_675 8) (u_675 9) (u_675 10) (u_677 0) w_674 H locs hP hD hS
  intro u_678 u_679 u_680 u_681 u_682 u_683 u_684 u_685 u_686 u_687 u_688 u_689 u_690 w_674 H locs hP hD hS
  have hP : va_P D vwCl [(h0, .inr (11, [.int 0, .ref h0_tape, .int 0, .int h0_taped, .int 200, .int u_678, .int u_679, .int u_680, .int u_681, .int u_682, .int u_683, .int u_684, .long u_685, .int u_686, .ref h0_now, .ref h0_read, .ref h0_kept, .ref h0_snaps, .ref h0_aside, .ref h0_name, .ref h0_readName, .ref h0_keptName, .ref h0_isKept, .ref h0_onces, .int h0_snapMany, .int h0_lowest, .int h0_highest, .int h0_agreed, .int h0_jurors, .int h0_panelled, .ref h0_inSets, .int h0_surely, .int h0_asked, .ref h0_frees, .int h0_struck, .int h0_beating, .ref h0_text, .int h0_texts, .int h0_seed, .ref h0_line, .ref h0_written, .int h0_lineMany, .int h0_hasWritten, .ref h0_node, .int u_687, .int u_688, .int 0, .int u_689])), (aI ca h0_tape 940 F_h0_tape), (aI ca h0_node 240 u_690), (aI ca h0_now 376 F_h0_now), (aJ ca h0_name 19 F_h0_name)] H := hP
  have hD : va_D A [(h0, .inr (11, [.int 0, .ref h0_tape, .int 0, .int h0_taped, .int 200, .int u_678, .int u_679, .int u_680, .int u_681, .int u_682, .int u_683, .int u_684, .long u_685, .int u_686, .ref h0_now, .ref h0_read, .ref h0_kept, .ref h0_snaps, .ref h0_aside, .ref h0_name, .ref h0_readName, .ref h0_keptName, .ref h0_isKept, .ref h0_onces, .int h0_snapMany, .int h0_lowest, .int h0_highest, .int h0_agreed, .int h0_jurors, .int h0_panelled, .ref h0_inSets, .int h0_surely, .int h0_asked, .ref h0_frees, .int h0_struck, .int h0_beating, .ref h0_text, .int h0_texts, .int h0_seed, .ref h0_line, .ref h0_written, .int h0_lineMany, .int h0_hasWritten, .ref h0_node, .int u_687, .int u_688, .int 0, .int u_689])), (aI ca h0_tape 940 F_h0_tape), (aI ca h0_node 240 u_690), (aI ca h0_now 376 F_h0_now), (aJ ca h0_name 19 F_h0_name)] := hD
  try dsimp only at w_674
  rcases w_674 with ⟨h_692, h_693, h_694, h_695, h_696, h_697, h_698, h_699, h_700, h_701⟩ | ⟨h_702, h_703, h_704, h_705, h_706, h_707, h_708, h_709, h_710, h_711, h_712, h_713, h_714, h_715, h_716, h_717, h_718, h_719, h_720⟩
  · skip
    subst h_692
    refine lv_if_ne (tgt := 36) hx hb dX12_sentence_26 (by decide) (fun c => absurd (by decide) c) (fun _ => ?_)
    refine lv_iconst (v := (-1)) hx hb dX12_sentence_29 (by decide) ?_
    refine lv_aload_n hx hb dX12_sentence_30 rfl (lv_at hl 0 rfl) ?_
    refine va_get (D := D) (ci := 11) (v := .int u_684) (C := RX12) (T := TX12) (N := 48) hx hb hts k2 hown hK.1 hP 0 rfl rfl 11 (by decide) k7 (fun _ h9 => h9) rfl dX12_sentence_31 ?_
    refine lv_isub hx hb dX12_sentence_34 ?_
    refine lv_topi (fun x_721 ex_721 => ?_)
    have h_722 : rg (-2147483648) 2147483647 x_721 := by rw [ex_721]; exact rg_sub (⟨by decide, by decide⟩ : rg (-1) (-1) ((-1) : Int32)) (rga u_684) (by decide) (by decide) (by decide) (by decide)
    have l_723 : lq x_721.toInt ((-1) * u_684.toInt + (-1)) := lqm (by rw [ex_721]; have q := tsub (⟨by decide, by decide⟩ : rg (-1) (-1) ((-1) : Int32)) (rga u_684) (by decide) (by decide); have r0 := lqe (lqm (by decide) : lq ((-1) : Int32).toInt (-1)); omega)
    exact oE_i hx hb hr rfl hlocks hP hD hS ((fun k => [u_678, u_679, u_680, u_681, u_682, u_683, u_684, u_686, u_687, u_688, u_689].getD k 0), (fun k => [u_685].getD k 0), (fun k => [u_690, F_h0_now].getD k (fun _ => 0))) [0, 1, 2, 3, 4] rfl (by decide) ⟨h_693, h_694, h_695, h_696, s_h0_now_0, s_h0_now_1, s_h0_now_2, s_h0_now_3, s_h0_now_4, s_h0_now_5, s_h0_now_6, s_h0_now_7, (eqs_w (a' := 0) (b' := 134) (eqs_rf (a := 0) (b := 376) F_h0_now) (by decide) (by decide)), (show rl 0 h0_taped h0_taped from rlm (by omega)), h_701, cu_tokw⟩ (Nat.le_of_ble_eq_true rfl) (Nat.le_of_ble_eq_true rfl) dX12_sentence_35
  · skip
    subst h_702
    have h_724 : rg 0 2147483647 u_683 := rl_y h_712 (⟨by decide, by decide⟩ : rg 0 0 (0 : Int32)) (rga u_683) (by decide) (by decide)
    have h_725 : rg 0 0 u_683 := rl_x h_713 h_724 (⟨by decide, by decide⟩ : rg 0 0 (0 : Int32)) (by decide) (by decide)
    refine lv_if_ne (tgt := 36) hx hb dX12_sentence_26 (by decide) (fun _ => ?_) (fun c => absurd c (by decide))
    refine lv_aload_n hx hb dX12_sentence_36 rfl (lv_at hl 0 rfl) ?_
    refine va_get (D := D) (ci := 11) (v := .int u_680) (C := RX12) (T := TX12) (N := 48) hx hb hts k2 hown hK.1 hP 0 rfl rfl 7 (by decide) k8 (fun _ h9 => h9) rfl dX12_sentence_37 ?_
    refine lv_if_eq (tgt := 56) hx hb dX12_sentence_40 (by decide) (fun c_726 => ?_) (fun c_726 => ?_)
    · skip
      have o_727 : rl 0 u_680 0 := rl_eq c_726
      have h_728 : rg 0 0 u_680 := rl_x o_727 h_705 (⟨by decide, by decide⟩ : rg 0 0 (0 : Int32)) (by decide) (by decide)
      have o_729 : rl 0 0 u_680 := rl_eq c_726.symm
      refine lv_aload_n hx hb dX12_sentence_56 rfl (lv_at hl 0 rfl) ?_
      refine va_get (D := D) (ci := 11) (v := .ref h0_now) (C := RX12) (T := TX12) (N := 48) hx hb hts k2 hown hK.1 hP 0 rfl rfl 14 (by decide) k3 (fun _ h9 => h9) rfl dX12_sentence_57 ?_
      refine lv_sipush (v := 134) hx hb dX12_sentence_60 (by decide) ?_
      refine lv_iconst (v := 1) hx hb dX12_sentence_63 (by decide) ?_
      refine va_iast hx hb hK.1 hP hD hS 3 0 rfl rfl (rg_in (⟨by decide, by decide⟩ : rg 134 134 (134 : Int32)) (by decide) (by decide)) dX12_sentence_64 (fun H locs hP hD hS => ?_)
      obtain ⟨g_730, eg_730⟩ : ∃ y : Nat → Int32, y = upd F_h0_now (134 : Int32).toNatClampNeg (1 : Int32) := ⟨_, rfl⟩
      rw [← eg_730] at hP hD
      have s_731 : sg 0 1 0 10 g_730 := sg_out s_h0_now_0 eg_730 (⟨by decide, by decide⟩ : rg 134 134 (134 : Int32)) (by decide) (by decide)
      have s_732 : sg 1 2 0 4 g_730 := sg_out s_h0_now_1 eg_730 (⟨by decide, by decide⟩ : rg 134 134 (134 : Int32)) (by decide) (by decide)
      have s_733 : sg 2 3 0 5 g_730 := sg_out s_h0_now_2 eg_730 (⟨by decide, by decide⟩ : rg 134 134 (134 : Int32)) (by decide) (by decide)
      have s_734 : sg 35 36 0 1023 g_730 := sg_out s_h0_now_3 eg_730 (⟨by decide, by decide⟩ : rg 134 134 (134 : Int32)) (by decide) (by decide)
      have s_735 : sg 44 49 0 3 g_730 := sg_out s_h0_now_4 eg_730 (⟨by decide, by decide⟩ : rg 134 134 (134 : Int32)) (by decide) (by decide)
      have s_736 : sg 90 91 0 1023 g_730 := sg_out s_h0_now_5 eg_730 (⟨by decide, by decide⟩ : rg 134 134 (134 : Int32)) (by decide) (by decide)
      have s_737 : sg 124 129 0 1023 g_730 := sg_out s_h0_now_6 eg_730 (⟨by decide, by decide⟩ : rg 134 134 (134 : Int32)) (by decide) (by decide)
      have s_738 : sg 135 136 0 39 g_730 := sg_out s_h0_now_7 eg_730 (⟨by decide, by decide⟩ : rg 134 134 (134 : Int32)) (by decide) (by decide)
      have s_739 : sg 134 135 1 1 g_730 := sg_one eg_730 (⟨by decide, by decide⟩ : rg 1 1 (1 : Int32))
      have q_740 : eqs 135 376 g_730 F_h0_now := eqs_out (eqs_rf (a := 0) (b := 376) F_h0_now) eg_730 (⟨by decide, by decide⟩ : rg 134 134 (134 : Int32)) (by decide) (by decide) (by decide) (by decide)
      have q_741 : eqs 0 134 g_730 F_h0_now := eqs_out (eqs_rf (a := 0) (b := 376) F_h0_now) eg_730 (⟨by decide, by decide⟩ : rg 134 134 (134 : Int32)) (by decide) (by decide) (by decide) (by decide)
      have hP : va_P D vwCl [(h0, .inr (11, [.int 0, .ref h0_tape, .int 0, .int h0_taped, .int 200, .int u_678, .int u_679, .int u_680, .int u_681, .int u_682, .int u_683, .int u_684, .long u_685, .int u_686, .ref h0_now, .ref h0_read, .ref h0_kept, .ref h0_snaps, .ref h0_aside, .ref h0_name, .ref h0_readName, .ref h0_keptName, .ref h0_isKept, .ref h0_onces, .int h0_snapMany, .int h0_lowest, .int h0_highest, .int h0_agreed, .int h0_jurors, .int h0_panelled, .ref h0_inSets, .int h0_surely, .int h0_asked, .ref h0_frees, .int h0_struck, .int h0_beating, .ref h0_text, .int h0_texts, .int h0_seed, .ref h0_line, .ref h0_written, .int h0_lineMany, .int h0_hasWritten, .ref h0_node, .int u_687, .int u_688, .int 0, .int u_689])), (aI ca h0_tape 940 F_h0_tape), (aI ca h0_node 240 u_690), (aI ca h0_now 376 g_730), (aJ ca h0_name 19 F_h0_name)] H := hP
      have hD : va_D A [(h0, .inr (11, [.int 0, .ref h0_tape, .int 0, .int h0_taped, .int 200, .int u_678, .int u_679, .int u_680, .int u_681, .int u_682, .int u_683, .int u_684, .long u_685, .int u_686, .ref h0_now, .ref h0_read, .ref h0_kept, .ref h0_snaps, .ref h0_aside, .ref h0_name, .ref h0_readName, .ref h0_keptName, .ref h0_isKept, .ref h0_onces, .int h0_snapMany, .int h0_lowest, .int h0_highest, .int h0_agreed, .int h0_jurors, .int h0_panelled, .ref h0_inSets, .int h0_surely, .int h0_asked, .ref h0_frees, .int h0_struck, .int h0_beating, .ref h0_text, .int h0_texts, .int h0_seed, .ref h0_line, .ref h0_written, .int h0_lineMany, .int h0_hasWritten, .ref h0_node, .int u_687, .int u_688, .int 0, .int u_689])), (aI ca h0_tape 940 F_h0_tape), (aI ca h0_node 240 u_690), (aI ca h0_now 376 g_730), (aJ ca h0_name 19 F_h0_name)] := hD
      refine lv_aload_n hx hb dX12_sentence_65 rfl (lv_at hl 0 rfl) ?_
      refine va_get (D := D) (ci := 11) (v := .ref h0_now) (C := RX12) (T := TX12) (N := 48) hx hb hts k2 hown hK.1 hP 0 rfl rfl 14 (by decide) k3 (fun _ h9 => h9) rfl dX12_sentence_66 ?_
      refine lv_sipush (v := 135) hx hb dX12_sentence_69 (by decide) ?_
      refine lv_aload_n hx hb dX12_sentence_72 rfl (lv_at hl 0 rfl) ?_
      refine va_get (D := D) (ci := 11) (v := .int u_689) (C := RX12) (T := TX12) (N := 48) hx hb hts k2 hown hK.1 hP 0 rfl rfl 47 (by decide) k9 (fun _ h9 => h9) rfl dX12_sentence_73 ?_
      have h_742 : rg 0 39 u_689 := by have z9 : (0 : Int32).toInt = 0 := (by decide); have z8 := (h_707).2; have z6 := rle (rlm (by have q0 := rle h_718; omega)); have z5 := (h_708).1; have q0 := nke h_719; have q1 := (i_h0_nodes).1; have q2 := (i_h0_nodes).2; have q3 := (i_h0_onesMany).1; have q4 := (i_h0_onesMany).2; have q5 := (h_706).1; have q6 := (h_706).2; have q7 := (h_707).1; have q8 := (h_707).2; exact ⟨by omega, by omega⟩
      refine va_iast hx hb hK.1 hP hD hS 3 0 rfl rfl (rg_in (⟨by decide, by decide⟩ : rg 135 135 (135 : Int32)) (by decide) (by decide)) dX12_sentence_76 (fun H locs hP hD hS => ?_)
      obtain ⟨g_743, eg_743⟩ : ∃ y : Nat → Int32, y = upd g_730 (135 : Int32).toNatClampNeg (u_689 : Int32) := ⟨_, rfl⟩
      rw [← eg_743] at hP hD
      have s_744 : sg 0 1 0 10 g_743 := sg_out s_731 eg_743 (⟨by decide, by decide⟩ : rg 135 135 (135 : Int32)) (by decide) (by decide)
      have s_745 : sg 1 2 0 4 g_743 := sg_out s_732 eg_743 (⟨by decide, by decide⟩ : rg 135 135 (135 : Int32)) (by decide) (by decide)
      have s_746 : sg 2 3 0 5 g_743 := sg_out s_733 eg_743 (⟨by decide, by decide⟩ : rg 135 135 (135 : Int32)) (by decide) (by decide)
      have s_747 : sg 35 36 0 1023 g_743 := sg_out s_734 eg_743 (⟨by decide, by decide⟩ : rg 135 135 (135 : Int32)) (by decide) (by decide)
      have s_748 : sg 44 49 0 3 g_743 := sg_out s_735 eg_743 (⟨by decide, by decide⟩ : rg 135 135 (135 : Int32)) (by decide) (by decide)
      have s_749 : sg 90 91 0 1023 g_743 := sg_out s_736 eg_743 (⟨by decide, by decide⟩ : rg 135 135 (135 : Int32)) (by decide) (by decide)
      have s_750 : sg 124 129 0 1023 g_743 := sg_out s_737 eg_743 (⟨by decide, by decide⟩ : rg 135 135 (135 : Int32)) (by decide) (by decide)
      have s_751 : sg 135 136 0 39 g_743 := sg_val s_738 eg_743 h_742
      have s_752 : sg 134 135 1 1 g_743 := sg_out s_739 eg_743 (⟨by decide, by decide⟩ : rg 135 135 (135 : Int32)) (by decide) (by decide)
      have q_753 : eqs 136 376 g_743 F_h0_now := eqs_out q_740 eg_743 (⟨by decide, by decide⟩ : rg 135 135 (135 : Int32)) (by decide) (by decide) (by decide) (by decide)
      have q_754 : eqs 0 134 g_743 F_h0_now := eqs_out q_741 eg_743 (⟨by decide, by decide⟩ : rg 135 135 (135 : Int32)) (by decide) (by decide) (by decide) (by decide)
      have hP : va_P D vwCl [(h0, .inr (11, [.int 0, .ref h0_tape, .int 0, .int h0_taped, .int 200, .int u_678, .int u_679, .int u_680, .int u_681, .int u_682, .int u_683, .int u_684, .long u_685, .int u_686, .ref h0_now, .ref h0_read, .ref h0_kept, .ref h0_snaps, .ref h0_aside, .ref h0_name, .ref h0_readName, .ref h0_keptName, .ref h0_isKept, .ref h0_onces, .int h0_snapMany, .int h0_lowest, .int h0_highest, .int h0_agreed, .int h0_jurors, .int h0_panelled, .ref h0_inSets, .int h0_surely, .int h0_asked, .ref h0_frees, .int h0_struck, .int h0_beating, .ref h0_text, .int h0_texts, .int h0_seed, .ref h0_line, .ref h0_written, .int h0_lineMany, .int h0_hasWritten, .ref h0_node, .int u_687, .int u_688, .int 0, .int u_689])), (aI ca h0_tape 940 F_h0_tape), (aI ca h0_node 240 u_690), (aI ca h0_now 376 g_743), (aJ ca h0_name 19 F_h0_name)] H := hP
      have hD : va_D A [(h0, .inr (11, [.int 0, .ref h0_tape, .int 0, .int h0_taped, .int 200, .int u_678, .int u_679, .int u_680, .int u_681, .int u_682, .int u_683, .int u_684, .long u_685, .int u_686, .ref h0_now, .ref h0_read, .ref h0_kept, .ref h0_snaps, .ref h0_aside, .ref h0_name, .ref h0_readName, .ref h0_keptName, .ref h0_isKept, .ref h0_onces, .int h0_snapMany, .int h0_lowest, .int h0_highest, .int h0_agreed, .int h0_jurors, .int h0_panelled, .ref h0_inSets, .int h0_surely, .int h0_asked, .ref h0_frees, .int h0_struck, .int h0_beating, .ref h0_text, .int h0_texts, .int h0_seed, .ref h0_line, .ref h0_written, .int h0_lineMany, .int h0_hasWritten, .ref h0_node, .int u_687, .int u_688, .int 0, .int u_689])), (aI ca h0_tape 940 F_h0_tape), (aI ca h0_node 240 u_690), (aI ca h0_now 376 g_743), (aJ ca h0_name 19 F_h0_name)] := hD
      refine lv_iconst (v := 0) hx hb dX12_sentence_77 (by decide) ?_
      refine lv_istore_n (lv' := [(1, .int 0), (0, .ref h0)]) hx hb dX12_sentence_78 rfl hl (by decide) rfl (fun ls hl => ?_)
      exact J79_613 241 0 u_678 u_679 u_680 u_681 u_682 u_683 u_684 u_685 u_686 u_687 u_688 u_689 u_690 g_743 trivial (⟨by decide, by decide⟩ : rg 0 240 (0 : Int32)) h_703 h_704 h_728 h_725 (rlm (by have q0 := rle h_714; have q1 := rle h_715; omega)) (rlm (by have q0 := rle h_714; have q1 := rle h_715; omega)) h_706 h_707 h_742 s_744 s_745 s_746 s_747 s_748 s_749 s_750 s_751 s_752 q_754 h_720 h_672 (cpx_0 _ _ _ _) (by have q0 := (⟨by decide, by decide⟩ : rg 0 0 (0 : Int32)).1; omega) H locs ls (oPsub hP [0, 1, 2, 3, 4] rfl) (hD.sub [0, 1, 2, 3, 4] (by decide) rfl) hS (lv_sub hl [1, 0] rfl)
    · skip
      have h_755 : rg 1 4 u_680 := cl_nlo c_726 h_705 (show (0 : Int32).toInt = 0 by decide) (by decide) (by decide)
      refine lv_aload_n hx hb dX12_sentence_43 rfl (lv_at hl 0 rfl) ?_
      refine lv_iconst (v := 1) hx hb dX12_sentence_44 (by decide) ?_
      refine oC_i (Wc := [(h0, .inr (11, [.int 0, .ref h0_tape, .int 0, .int h0_taped, .int 200, .int u_678, .int u_679, .int u_680, .int u_681, .int u_682, .int u_683, .int u_684, .long u_685, .int u_686, .ref h0_now, .ref h0_read, .ref h0_kept, .ref h0_snaps, .ref h0_aside, .ref h0_name, .ref h0_readName, .ref h0_keptName, .ref h0_isKept, .ref h0_onces, .int h0_snapMany, .int h0_lowest, .int h0_highest, .int h0_agreed, .int h0_jurors, .int h0_panelled, .ref h0_inSets, .int h0_surely, .int h0_asked, .ref h0_frees, .int h0_struck, .int h0_beating, .ref h0_text, .int h0_texts, .int h0_seed, .ref h0_line, .ref h0_written, .int h0_lineMany, .int h0_hasWritten, .ref h0_node, .int u_687, .int u_688, .int 0, .int u_689]))]) (Wr := [(aI ca h0_tape 940 F_h0_tape), (aI ca h0_node 240 u_690), (aI ca h0_now 376 F_h0_now), (aJ ca h0_name 19 F_h0_name)]) (va_runV (As := [.int 1]) (rest := []) ⟨hx, hb, hml, hown, hts⟩ (s_X12_bad l D ca H.size h0 1 0 h0_tape 0 h0_taped 200 u_678 u_679 u_680 u_681 u_682 u_683 u_684 u_685 u_686 h0_now h0_read h0_kept h0_snaps h0_aside h0_name h0_readName h0_keptName h0_isKept h0_onces h0_snapMany h0_lowest h0_highest h0_agreed h0_jurors h0_panelled h0_inSets h0_surely h0_asked h0_frees h0_struck h0_beating h0_text h0_texts h0_seed h0_line h0_written h0_lineMany h0_hasWritten h0_node u_687 u_688 0 u_689 (⟨by decide, by decide⟩ : rg 0 940 (0 : Int32)) i_h0_taped h_703 (rgw (lo := 0) (hi := 4) h_755 (by decide) (by decide)) i_h0_snapMany i_h0_texts i_h0_lineMany i_h0_hasWritten (rgw (lo := 0) (hi := 60) h_706 (by decide) (by decide)) (rgw (lo := 0) (hi := 20) h_707 (by decide) (by decide))) (cwV 1 hts gX12_sentence_X12_bad rfl rfl rfl (by decide +kernel) ⟨Nat.le_of_ble_eq_true rfl, Nat.le_of_ble_eq_true rfl⟩) (oPV (C := RX12) hK hP hD [0] rfl (by decide) 0 rfl (ci := 11) rfl rfl) rfl rfl hl.1 rfl (lv_room (Nat.le_of_ble_eq_true rfl)) dX12_sentence_45 ⟨Nat.le_of_ble_eq_true rfl, Nat.le_of_ble_eq_true rfl⟩) hP hD hS hA [0] [1, 2, 3, 4] rfl rfl (by decide) (by decide) (fun r_756 u H locs w_757 hP hD hS => ?_)
      obtain ⟨u_758, rfl⟩ : ∃ z, z = u := ⟨_, rfl⟩
      have hP : va_P D vwCl [(aI ca h0_tape 940 F_h0_tape), (aI ca h0_node 240 u_690), (aI ca h0_now 376 F_h0_now), (aJ ca h0_name 19 F_h0_name), (h0, .inr (11, [.int 0, .ref h0_tape, .int 0, .int h0_taped, .int 200, .int u_678, .int u_679, .int u_680, .int u_681, .int u_682, .int u_758, .int u_679, .long u_685, .int u_686, .ref h0_now, .ref h0_read, .ref h0_kept, .ref h0_snaps, .ref h0_aside, .ref h0_name, .ref h0_readName, .ref h0_keptName, .ref h0_isKept, .ref h0_onces, .int h0_snapMany, .int h0_lowest, .int h0_highest, .int h0_agreed, .int h0_jurors, .int h0_panelled, .ref h0_inSets, .int h0_surely, .int h0_asked, .ref h0_frees, .int h0_struck, .int h0_beating, .ref h0_text, .int h0_texts, .int h0_seed, .ref h0_line, .ref h0_written, .int h0_lineMany, .int h0_hasWritten, .ref h0_node, .int u_687, .int u_688, .int 0, .int u_689]))] H := hP
      have hD : va_D A [(aI ca h0_tape 940 F_h0_tape), (aI ca h0_node 240 u_690), (aI ca h0_now 376 F_h0_now), (aJ ca h0_name 19 F_h0_name), (h0, .inr (11, [.int 0, .ref h0_tape, .int 0, .int h0_taped, .int 200, .int u_678, .int u_679, .int u_680, .int u_681, .int u_682, .int u_758, .int u_679, .long u_685, .int u_686, .ref h0_now, .ref h0_read, .ref h0_kept, .ref h0_snaps, .ref h0_aside, .ref h0_name, .ref h0_readName, .ref h0_keptName, .ref h0_isKept, .ref h0_onces, .int h0_snapMany, .int h0_lowest, .int h0_highest, .int h0_agreed, .int h0_jurors, .int h0_panelled, .ref h0_inSets, .int h0_surely, .int h0_asked, .ref h0_frees, .int h0_struck, .int h0_beating, .ref h0_text, .int h0_texts, .int h0_seed, .ref h0_line, .ref h0_written, .int h0_lineMany, .int h0_hasWritten, .ref h0_node, .int u_687, .int u_688, .int 0, .int u_689]))] := hD
      try dsimp only at w_757
      have h_759 := w_757
      subst h_759
      refine lv_pop hx hb dX12_sentence_48 rfl ?_
      refine lv_iconst (v := (-1)) hx hb dX12_sentence_49 (by decide) ?_
      refine lv_aload_n hx hb dX12_sentence_50 rfl (lv_at hl 0 rfl) ?_
      refine va_get (D := D) (ci := 11) (v := .int u_679) (C := RX12) (T := TX12) (N := 48) hx hb hts k2 hown hK.1 hP 4 rfl rfl 11 (by decide) k7 (fun _ h9 => h9) rfl dX12_sentence_51 ?_
      refine lv_isub hx hb dX12_sentence_54 ?_
      refine lv_topi (fun x_760 ex_760 => ?_)
      have h_761 : rg (-941) 2147483647 x_760 := by rw [ex_760]; exact rg_sub (⟨by decide, by decide⟩ : rg (-1) (-1) ((-1) : Int32)) h_704 (by decide) (by decide) (by decide) (by decide)
      have l_762 : lq x_760.toInt ((-1) * u_679.toInt + (-1)) := lqm (by rw [ex_760]; have q := tsub (⟨by decide, by decide⟩ : rg (-1) (-1) ((-1) : Int32)) h_704 (by decide) (by decide); have r0 := lqe (lqm (by decide) : lq ((-1) : Int32).toInt (-1)); omega)
      exact oE_i hx hb hr rfl hlocks hP hD hS ((fun k => [u_678, u_679, u_680, u_681, u_682, u_758, u_679, u_686, u_687, u_688, u_689].getD k 0), (fun k => [u_685].getD k 0), (fun k => [u_690, F_h0_now].getD k (fun _ => 0))) [4, 0, 1, 2, 3] rfl (by decide) ⟨h_703, (rgw (lo := 0) (hi := 4) h_755 (by decide) (by decide)), (rgw (lo := 0) (hi := 60) h_706 (by decide) (by decide)), (rgw (lo := 0) (hi := 20) h_707 (by decide) (by decide)), s_h0_now_0, s_h0_now_1, s_h0_now_2, s_h0_now_3, s_h0_now_4, s_h0_now_5, s_h0_now_6, s_h0_now_7, (eqs_w (a' := 0) (b' := 134) (eqs_rf (a := 0) (b := 376) F_h0_now) (by decide) (by decide)), (show rl 0 h0_taped h0_taped from rlm (by omega)), h_720, cu_tokw⟩ (Nat.le_of_ble_eq_true rfl) (Nat.le_of_ble_eq_true rfl) dX12_sentence_55
theorem dX12_areOneRing_0 : decode cX12_areOneRing 0 = .ok (.aload_n 0, 1) := by decide +kernel
theorem dX12_areOneRing_1 : decode cX12_areOneRing 1 = .ok (.iconst 1, 1) := by decide +kernel
theorem dX12_areOneRing_2 : decode cX12_areOneRing 2 = .ok (.iload_n 1, 1) := by decide +kernel
theorem dX12_areOneRing_3 : decode cX12_areOneRing 3 = .ok (.ishl, 1) := by decide +kernel
theorem dX12_areOneRing_4 : decode cX12_areOneRing 4 = .ok (.iconst 1, 1) := by decide +kernel
theorem dX12_areOneRing_5 : decode cX12_areOneRing 5 = .ok (.iload_n 2, 1) := by decide +kernel
theorem dX12_areOneRing_6 : decode cX12_areOneRing 6 = .ok (.bipush 10, 2) := by decide +kernel
theorem dX12_areOneRing_8 : decode cX12_areOneRing 8 = .ok (.irem, 1) := by decide +kernel
theorem dX12_areOneRing_9 : decode cX12_areOneRing 9 = .ok (.ishl, 1) := by decide +kernel
theorem dX12_areOneRing_10 : decode cX12_areOneRing 10 = .ok (.ior, 1) := by decide +kernel
theorem dX12_areOneRing_11 : decode cX12_areOneRing 11 = .ok (.iload_n 2, 1) := by decide +kernel
theorem dX12_areOneRing_12 : decode cX12_areOneRing 12 = .ok (.bipush 10, 2) := by decide +kernel
theorem dX12_areOneRing_14 : decode cX12_areOneRing 14 = .ok (.idiv, 1) := by decide +kernel
theorem dX12_areOneRing_15 : decode cX12_areOneRing 15 = .ok (.invokevirtual 277, 3) := by decide +kernel
theorem dX12_areOneRing_18 : decode cX12_areOneRing 18 = .ok (.ireturn, 1) := by decide +kernel
set_option maxRecDepth 20000 in
theorem ggX12_areOneRing_X12_isOneRing_ : GoodIn wsX12_areOneRing wsX12_isOneRing_ := goodIn_r _ [5, 6, 7, 8, 4, 9, 10, 11, 12, 13, 14, 15, 16, 17, 18, 19, 20, 21, 22, 23, 24, 25, 26, 27, 28, 29, 30, 31, 32, 33, 34, 35, 36, 37, 38, 39, 40, 41, 42, 43, 44, 45, 46, 47, 48, 49, 50, 51, 52, 53, 54, 55, 56, 57, 58, 59, 60, 61, 62, 63, 64, 65, 66, 67, 68, 69, 70, 71] rfl (by decide +kernel)
set_option maxRecDepth 20000 in
theorem gX12_areOneRing_X12_isOneRing_ : GoodIn wsX12_areOneRing (wsV RX12 277 RX12 yX12_isOneRing_ wsX12_isOneRing_) := goodIn_app (goodIn_of _ (by decide +kernel)) ggX12_areOneRing_X12_isOneRing_
set_option maxHeartbeats 4000000 in
set_option maxRecDepth 100000 in
theorem s_X12_areOneRing (l : Launch) (D : va_G) (ca : Nat → ClassId) (sz : Nat) (h0 : Nat) (a1 : Int32) (a2 : Int32) (h0_thrown : Int32) (h0_tape : Nat) (h0_taped : Int32) (h0_size : Int32) (h0_limit : Int32) (h0_to : Int32) (h0_from : Int32) (h0_kind : Int32) (h0_number : Int32) (h0_sign : Int32) (h0_fault : Int32) (h0_place : Int32) (h0_word : Int64) (h0_told : Int32) (h0_now : Nat) (h0_read : Nat) (h0_kept : Nat) (h0_snaps : Nat) (h0_aside : Nat) (h0_name : Nat) (h0_readName : Nat) (h0_keptName : Nat) (h0_isKept : Nat) (h0_onces : Nat) (h0_snapMany : Int32) (h0_lowest : Int32) (h0_highest : Int32) (h0_agreed : Int32) (h0_jurors : Int32) (h0_panelled : Int32) (h0_inSets : Nat) (h0_surely : Int32) (h0_asked : Int32) (h0_frees : Nat) (h0_struck : Int32) (h0_beating : Int32) (h0_text : Nat) (h0_texts : Int32) (h0_seed : Int32) (h0_line : Nat) (h0_written : Nat) (h0_lineMany : Int32) (h0_hasWritten : Int32) (h0_node : Nat) (h0_nodes : Int32) (h0_onesMany : Int32) (h0_within : Int32) (h0_top : Int32) (F_h0_now : Nat → Int32) (i_a1 : rg 0 9 a1) (i_a2 : rg 0 39 a2) (i_h0_taped : rg 0 940 h0_taped) (i_h0_size : rg 0 940 h0_size) (i_h0_to : rg 0 940 h0_to) (i_h0_kind : rg 0 4 h0_kind) (i_h0_snapMany : rg 0 8 h0_snapMany) (i_h0_texts : rg 0 64 h0_texts) (i_h0_lineMany : rg 0 40 h0_lineMany) (i_h0_hasWritten : rg 0 1 h0_hasWritten) (i_h0_nodes : rg 0 60 h0_nodes) (i_h0_onesMany : rg 0 20 h0_onesMany) (s_h0_now_0 : sg 0 1 0 10 F_h0_now) (s_h0_now_1 : sg 1 2 0 4 F_h0_now) (s_h0_now_2 : sg 2 3 0 5 F_h0_now) (s_h0_now_3 : sg 35 36 0 1023 F_h0_now) (s_h0_now_4 : sg 44 49 0 3 F_h0_now) (s_h0_now_5 : sg 90 91 0 1023 F_h0_now) (s_h0_now_6 : sg 124 129 0 1023 F_h0_now) (s_h0_now_7 : sg 135 136 0 39 F_h0_now) : oMet l yX12_areOneRing wsX12_areOneRing ({ frames := 4, cells := 0, slots := 0, locals := 95 } : Room) [.ref h0, .int a1, .int a2] D ca sz [(h0, .inr (11, [.int h0_thrown, .ref h0_tape, .int h0_taped, .int h0_size, .int h0_limit, .int h0_to, .int h0_from, .int h0_kind, .int h0_number, .int h0_sign, .int h0_fault, .int h0_place, .long h0_word, .int h0_told, .ref h0_now, .ref h0_read, .ref h0_kept, .ref h0_snaps, .ref h0_aside, .ref h0_name, .ref h0_readName, .ref h0_keptName, .ref h0_isKept, .ref h0_onces, .int h0_snapMany, .int h0_lowest, .int h0_highest, .int h0_agreed, .int h0_jurors, .int h0_panelled, .ref h0_inSets, .int h0_surely, .int h0_asked, .ref h0_frees, .int h0_struck, .int h0_beating, .ref h0_text, .int h0_texts, .int h0_seed, .ref h0_line, .ref h0_written, .int h0_lineMany, .int h0_hasWritten, .ref h0_node, .int h0_nodes, .int h0_onesMany, .int h0_within, .int h0_top])), (aI ca h0_now 376 F_h0_now)] (oQi D (fun (r : Int32) (u : Int32 × Int32) => ((r = 0) ∧ (rg 0 1000 u.1) ∧ (rg (-1) 2147483647 u.2)) ∨ ((r = 1) ∧ (rg 0 1000 u.1) ∧ (rg (-1) 2147483647 u.2) ∧ (sg 3 4 (-1001) 2147483647 F_h0_now))) (fun (u : Int32 × Int32) => [(h0, .inr (11, [.int h0_thrown, .ref h0_tape, .int h0_taped, .int h0_size, .int h0_limit, .int h0_to, .int h0_from, .int h0_kind, .int h0_number, .int h0_sign, .int h0_fault, .int h0_place, .long h0_word, .int h0_told, .ref h0_now, .ref h0_read, .ref h0_kept, .ref h0_snaps, .ref h0_aside, .ref h0_name, .ref h0_readName, .ref h0_keptName, .ref h0_isKept, .ref h0_onces, .int h0_snapMany, .int u.1, .int u.2, .int h0_agreed, .int h0_jurors, .int h0_panelled, .ref h0_inSets, .int h0_surely, .int h0_asked, .ref h0_frees, .int h0_struck, .int h0_beating, .ref h0_text, .int h0_texts, .int h0_seed, .ref h0_line, .ref h0_written, .int h0_lineMany, .int h0_hasWritten, .ref h0_node, .int h0_nodes, .int h0_onesMany, .int h0_within, .int h0_top])), (aI ca h0_now 376 F_h0_now)])) 0 0 := by
  refine oM (cc := cX12_areOneRing) (maxL := 3) (ret := (some .boolean)) (by decide) rfl (Nat.le_of_ble_eq_true rfl) [(0, .ref h0), (1, .int a1), (2, .int a2)] rfl ?_
  intro p e s m below meth c A H locs ls hx hb hr hml hts hown hlocks hin hK hP hD hA hS hl
  have hown : s.vm.findClass RX12 = some m.cls := hown
  refine lv_aload_n hx hb dX12_areOneRing_0 rfl (lv_at hl 0 rfl) ?_
  refine lv_iconst (v := 1) hx hb dX12_areOneRing_1 (by decide) ?_
  refine lv_iload_n hx hb dX12_areOneRing_2 rfl (lv_at hl 1 rfl) ?_
  refine lv_ishl hx hb dX12_areOneRing_3 ?_
  refine lv_topi (fun x_22 ex_22 => ?_)
  have h_23 : rg 1 512 x_22 := by rw [ex_22]; exact rg_shl1 i_a1 (by decide) (by decide) (by decide) (by decide)
  refine lv_iconst (v := 1) hx hb dX12_areOneRing_4 (by decide) ?_
  refine lv_iload_n hx hb dX12_areOneRing_5 rfl (lv_at hl 2 rfl) ?_
  refine lv_bipush (v := 10) hx hb dX12_areOneRing_6 (by decide) ?_
  refine lv_irem hx hb dX12_areOneRing_8 (by decide) ?_
  refine lv_topi (fun x_24 ex_24 => ?_)
  have h_25 : rg 0 9 x_24 := by rw [ex_24]; exact rg_rem i_a2 (⟨by decide, by decide⟩ : rg 10 10 (10 : Int32)) (by decide) (by decide) (by decide) (by decide)
  refine lv_ishl hx hb dX12_areOneRing_9 ?_
  refine lv_topi (fun x_26 ex_26 => ?_)
  have h_27 : rg 1 512 x_26 := by rw [ex_26]; exact rg_shl1 h_25 (by decide) (by decide) (by decide) (by decide)
  refine lv_ior hx hb dX12_areOneRing_10 ?_
  refine lv_topi (fun x_28 ex_28 => ?_)
  have h_29 : rg 0 1023 x_28 := by rw [ex_28]; exact rg_or 10 h_23 h_27 (by decide) (by decide) (by decide) (by decide) (by decide) (by decide) (by decide)
  refine lv_iload_n hx hb dX12_areOneRing_11 rfl (lv_at hl 2 rfl) ?_
  refine lv_bipush (v := 10) hx hb dX12_areOneRing_12 (by decide) ?_
  refine lv_idiv hx hb dX12_areOneRing_14 (by decide) ?_
  refine lv_topi (fun x_30 ex_30 => ?_)
  have h_31 : rg 0 3 x_30 := by rw [ex_30]; exact rg_div (k := 10) i_a2 (by decide) (by decide) (by decide) (by decide) (by decide)
  refine oC_i (Wc := [(h0, .inr (11, [.int h0_thrown, .ref h0_tape, .int h0_taped, .int h0_size, .int h0_limit, .int h0_to, .int h0_from, .int h0_kind, .int h0_number, .int h0_sign, .int h0_fault, .int h0_place, .long h0_word, .int h0_told, .ref h0_now, .ref h0_read, .ref h0_kept, .ref h0_snaps, .ref h0_aside, .ref h0_name, .ref h0_readName, .ref h0_keptName, .ref h0_isKept, .ref h0_onces, .int h0_snapMany, .int h0_lowest, .int h0_highest, .int h0_agreed, .int h0_jurors, .int h0_panelled, .ref h0_inSets, .int h0_surely, .int h0_asked, .ref h0_frees, .int h0_struck, .int h0_beating, .ref h0_text, .int h0_texts, .int h0_seed, .ref h0_line, .ref h0_written, .int h0_lineMany, .int h0_hasWritten, .ref h0_node, .int h0_nodes, .int h0_onesMany, .int h0_within, .int h0_top])), (aI ca h0_now 376 F_h0_now)]) (Wr := []) (va_runV (As := [.int x_28, .int x_30]) (rest := []) ⟨hx, hb, hml, hown, hts⟩ (s_X12_isOneRing_ l D ca H.size h0 x_28 x_30 h0_thrown h0_tape h0_taped h0_size h0_limit h0_to h0_from h0_kind h0_number h0_sign h0_fault h0_place h0_word h0_told h0_now h0_read h0_kept h0_snaps h0_aside h0_name h0_readName h0_keptName h0_isKept h0_onces h0_snapMany h0_lowest h0_highest h0_agreed h0_jurors h0_panelled h0_inSets h0_surely h0_asked h0_frees h0_struck h0_beating h0_text h0_texts h0_seed h0_line h0_written h0_lineMany h0_hasWritten h0_node h0_nodes h0_onesMany h0_within h0_top F_h0_now h_31 i_h0_taped i_h0_size i_h0_to i_h0_kind i_h0_snapMany i_h0_texts i_h0_lineMany i_h0_hasWritten i_h0_nodes i_h0_onesMany s_h0_now_0 s_h0_now_1 s_h0_now_2 s_h0_now_3 s_h0_now_4 s_h0_now_5 s_h0_now_6 s_h0_now_7) (cwV 2 hts gX12_areOneRing_X12_isOneRing_ rfl rfl rfl (by decide +kernel) ⟨Nat.le_of_ble_eq_true rfl, Nat.le_of_ble_eq_true rfl⟩) (oPV (C := RX12) hK hP hD [0, 1] rfl (by decide) 0 rfl (ci := 11) rfl rfl) rfl rfl hl.1 rfl (lv_room (Nat.le_of_ble_eq_true rfl)) dX12_areOneRing_15 ⟨Nat.le_of_ble_eq_true rfl, Nat.le_of_ble_eq_true rfl⟩) hP hD hS hA [0, 1] [] rfl rfl (by decide) (by decide) (fun r_32 u H locs w_33 hP hD hS => ?_)
  obtain ⟨u_34, u_35⟩ := u
  have hP : va_P D vwCl [(h0, .inr (11, [.int h0_thrown, .ref h0_tape, .int h0_taped, .int h0_size, .int h0_limit, .int h0_to, .int h0_from, .int h0_kind, .int h0_number, .int h0_sign, .int h0_fault, .int h0_place, .long h0_word, .int h0_told, .ref h0_now, .ref h0_read, .ref h0_kept, .ref h0_snaps, .ref h0_aside, .ref h0_name, .ref h0_readName, .ref h0_keptName, .ref h0_isKept, .ref h0_onces, .int h0_snapMany, .int u_34, .int u_35, .int h0_agreed, .int h0_jurors, .int h0_panelled, .ref h0_inSets, .int h0_surely, .int h0_asked, .ref h0_frees, .int h0_struck, .int h0_beating, .ref h0_text, .int h0_texts, .int h0_seed, .ref h0_line, .ref h0_written, .int h0_lineMany, .int h0_hasWritten, .ref h0_node, .int h0_nodes, .int h0_onesMany, .int h0_within, .int h0_top])), (aI ca h0_now 376 F_h0_now)] H := hP
  have hD : va_D A [(h0, .inr (11, [.int h0_thrown, .ref h0_tape, .int h0_taped, .int h0_size, .int h0_limit, .int h0_to, .int h0_from, .int h0_kind, .int h0_number, .int h0_sign, .int h0_fault, .int h0_place, .long h0_word, .int h0_told, .ref h0_now, .ref h0_read, .ref h0_kept, .ref h0_snaps, .ref h0_aside, .ref h0_name, .ref h0_readName, .ref h0_keptName, .ref h0_isKept, .ref h0_onces, .int h0_snapMany, .int u_34, .int u_35, .int h0_agreed, .int h0_jurors, .int h0_panelled, .ref h0_inSets, .int h0_surely, .int h0_asked, .ref h0_frees, .int h0_struck, .int h0_beating, .ref h0_text, .int h0_texts, .int h0_seed, .ref h0_line, .ref h0_written, .int h0_lineMany, .int h0_hasWritten, .ref h0_node, .int h0_nodes, .int h0_onesMany, .int h0_within, .int h0_top])), (aI ca h0_now 376 F_h0_now)] := hD
  try dsimp only at w_33
  rcases w_33 with ⟨h_36, h_37, h_38⟩ | ⟨h_39, h_40, h_41, h_42⟩
  · skip
    subst h_36
    exact oE_i hx hb hr (by decide) hlocks hP hD hS (u_34, u_35) [0, 1] rfl (by decide) (Or.inl ⟨rfl, h_37, h_38⟩) (Nat.le_of_ble_eq_true rfl) (Nat.le_of_ble_eq_true rfl) dX12_areOneRing_18
  · skip
    subst h_39
    exact oE_i hx hb hr (by decide) hlocks hP hD hS (u_34, u_35) [0, 1] rfl (by decide) (Or.inr (⟨rfl, h_40, h_41, h_42⟩)) (Nat.le_of_ble_eq_true rfl) (Nat.le_of_ble_eq_true rfl) dX12_areOneRing_18
theorem dX12_holds_0 : decode cX12_holds 0 = .ok (.sipush 136, 3) := by decide +kernel
theorem dX12_holds_3 : decode cX12_holds 3 = .ok (.iconst 4, 1) := by decide +kernel
theorem dX12_holds_4 : decode cX12_holds 4 = .ok (.iload_n 1, 1) := by decide +kernel
theorem dX12_holds_5 : decode cX12_holds 5 = .ok (.imul, 1) := by decide +kernel
theorem dX12_holds_6 : decode cX12_holds 6 = .ok (.iadd, 1) := by decide +kernel
theorem dX12_holds_7 : decode cX12_holds 7 = .ok (.istore_n 3, 1) := by decide +kernel
theorem dX12_holds_8 : decode cX12_holds 8 = .ok (.aload_n 0, 1) := by decide +kernel
theorem dX12_holds_9 : decode cX12_holds 9 = .ok (.getfield 98, 3) := by decide +kernel
theorem dX12_holds_12 : decode cX12_holds 12 = .ok (.iload_n 3, 1) := by decide +kernel
theorem dX12_holds_13 : decode cX12_holds 13 = .ok (.iconst 1, 1) := by decide +kernel
theorem dX12_holds_14 : decode cX12_holds 14 = .ok (.iadd, 1) := by decide +kernel
theorem dX12_holds_15 : decode cX12_holds 15 = .ok (.iaload, 1) := by decide +kernel
theorem dX12_holds_16 : decode cX12_holds 16 = .ok (.istore 4, 2) := by decide +kernel
theorem dX12_holds_18 : decode cX12_holds 18 = .ok (.aload_n 0, 1) := by decide +kernel
theorem dX12_holds_19 : decode cX12_holds 19 = .ok (.getfield 98, 3) := by decide +kernel
theorem dX12_holds_22 : decode cX12_holds 22 = .ok (.iload_n 3, 1) := by decide +kernel
theorem dX12_holds_23 : decode cX12_holds 23 = .ok (.iconst 2, 1) := by decide +kernel
theorem dX12_holds_24 : decode cX12_holds 24 = .ok (.iadd, 1) := by decide +kernel
theorem dX12_holds_25 : decode cX12_holds 25 = .ok (.iaload, 1) := by decide +kernel
theorem dX12_holds_26 : decode cX12_holds 26 = .ok (.istore 5, 2) := by decide +kernel
theorem dX12_holds_28 : decode cX12_holds 28 = .ok (.aload_n 0, 1) := by decide +kernel
theorem dX12_holds_29 : decode cX12_holds 29 = .ok (.getfield 98, 3) := by decide +kernel
theorem dX12_holds_32 : decode cX12_holds 32 = .ok (.iload_n 3, 1) := by decide +kernel
theorem dX12_holds_33 : decode cX12_holds 33 = .ok (.iaload, 1) := by decide +kernel
theorem dX12_holds_34 : decode cX12_holds 34 = .ok (.lookupswitch 184 #[(1, 66), (2, 82), (3, 108), (68, 134), (69, 146), (70, 158), (71, 176)], 66) := by decide +kernel
theorem dX12_holds_168 : decode cX12_holds 168 = .ok (.aload_n 0, 1) := by decide +kernel
theorem dX12_holds_169 : decode cX12_holds 169 = .ok (.getfield 98, 3) := by decide +kernel
theorem dX12_holds_172 : decode cX12_holds 172 = .ok (.bipush 90, 2) := by decide +kernel
theorem dX12_holds_174 : decode cX12_holds 174 = .ok (.iaload, 1) := by decide +kernel
theorem dX12_holds_175 : decode cX12_holds 175 = .ok (.iload_n 2, 1) := by decide +kernel
theorem dX12_holds_176 : decode cX12_holds 176 = .ok (.invokestatic 240, 3) := by decide +kernel
theorem dX12_holds_179 : decode cX12_holds 179 = .ok (.ireturn, 1) := by decide +kernel
theorem dX12_holds_180 : decode cX12_holds 180 = .ok (.aload_n 0, 1) := by decide +kernel
theorem dX12_holds_181 : decode cX12_holds 181 = .ok (.getfield 98, 3) := by decide +kernel
theorem dX12_holds_184 : decode cX12_holds 184 = .ok (.bipush 91, 2) := by decide +kernel
theorem dX12_holds_186 : decode cX12_holds 186 = .ok (.iaload, 1) := by decide +kernel
theorem dX12_holds_187 : decode cX12_holds 187 = .ok (.iload_n 2, 1) := by decide +kernel
theorem dX12_holds_188 : decode cX12_holds 188 = .ok (.invokestatic 240, 3) := by decide +kernel
theorem dX12_holds_191 : decode cX12_holds 191 = .ok (.ireturn, 1) := by decide +kernel
theorem dX12_holds_192 : decode cX12_holds 192 = .ok (.aload_n 0, 1) := by decide +kernel
theorem dX12_holds_193 : decode cX12_holds 193 = .ok (.getfield 98, 3) := by decide +kernel
theorem dX12_holds_196 : decode cX12_holds 196 = .ok (.bipush 94, 2) := by decide +kernel
theorem dX12_holds_198 : decode cX12_holds 198 = .ok (.iload_n 2, 1) := by decide +kernel
theorem dX12_holds_199 : decode cX12_holds 199 = .ok (.iadd, 1) := by decide +kernel
theorem dX12_holds_200 : decode cX12_holds 200 = .ok (.iaload, 1) := by decide +kernel
theorem dX12_holds_201 : decode cX12_holds 201 = .ok (.ifCond .le 7, 3) := by decide +kernel
theorem dX12_holds_204 : decode cX12_holds 204 = .ok (.iconst 1, 1) := by decide +kernel
theorem dX12_holds_205 : decode cX12_holds 205 = .ok (.goto 4, 3) := by decide +kernel
theorem dX12_holds_208 : decode cX12_holds 208 = .ok (.iconst 0, 1) := by decide +kernel
theorem dX12_holds_209 : decode cX12_holds 209 = .ok (.ireturn, 1) := by decide +kernel
theorem dX12_holds_210 : decode cX12_holds 210 = .ok (.aload_n 0, 1) := by decide +kernel
theorem dX12_holds_211 : decode cX12_holds 211 = .ok (.iload_n 2, 1) := by decide +kernel
theorem dX12_holds_212 : decode cX12_holds 212 = .ok (.iload 4, 2) := by decide +kernel
theorem dX12_holds_214 : decode cX12_holds 214 = .ok (.invokevirtual 424, 3) := by decide +kernel
theorem dX12_holds_217 : decode cX12_holds 217 = .ok (.ireturn, 1) := by decide +kernel
theorem dX12_holds_218 : decode cX12_holds 218 = .ok (.aload_n 0, 1) := by decide +kernel
theorem dX12_holds_219 : decode cX12_holds 219 = .ok (.getfield 98, 3) := by decide +kernel
theorem dX12_holds_222 : decode cX12_holds 222 = .ok (.iload_n 3, 1) := by decide +kernel
theorem dX12_holds_223 : decode cX12_holds 223 = .ok (.iaload, 1) := by decide +kernel
theorem dX12_holds_224 : decode cX12_holds 224 = .ok (.bipush 50, 2) := by decide +kernel
theorem dX12_holds_226 : decode cX12_holds 226 = .ok (.isub, 1) := by decide +kernel
theorem dX12_holds_227 : decode cX12_holds 227 = .ok (.istore 6, 2) := by decide +kernel
theorem dX12_holds_229 : decode cX12_holds 229 = .ok (.iload 6, 2) := by decide +kernel
theorem dX12_holds_231 : decode cX12_holds 231 = .ok (.bipush 22, 2) := by decide +kernel
theorem dX12_holds_233 : decode cX12_holds 233 = .ok (.if_icmp .ne 14, 3) := by decide +kernel
theorem dX12_holds_236 : decode cX12_holds 236 = .ok (.aload_n 0, 1) := by decide +kernel
theorem dX12_holds_237 : decode cX12_holds 237 = .ok (.getfield 98, 3) := by decide +kernel
theorem dX12_holds_240 : decode cX12_holds 240 = .ok (.iconst 5, 1) := by decide +kernel
theorem dX12_holds_241 : decode cX12_holds 241 = .ok (.iload_n 2, 1) := by decide +kernel
theorem dX12_holds_242 : decode cX12_holds 242 = .ok (.iadd, 1) := by decide +kernel
theorem dX12_holds_243 : decode cX12_holds 243 = .ok (.iaload, 1) := by decide +kernel
theorem dX12_holds_244 : decode cX12_holds 244 = .ok (.goto 42, 3) := by decide +kernel
theorem dX12_holds_247 : decode cX12_holds 247 = .ok (.iload 6, 2) := by decide +kernel
theorem dX12_holds_249 : decode cX12_holds 249 = .ok (.bipush 23, 2) := by decide +kernel
theorem dX12_holds_251 : decode cX12_holds 251 = .ok (.if_icmp .ne 15, 3) := by decide +kernel
theorem dX12_holds_254 : decode cX12_holds 254 = .ok (.aload_n 0, 1) := by decide +kernel
theorem dX12_holds_255 : decode cX12_holds 255 = .ok (.getfield 98, 3) := by decide +kernel
theorem dX12_holds_258 : decode cX12_holds 258 = .ok (.bipush 15, 2) := by decide +kernel
theorem dX12_holds_260 : decode cX12_holds 260 = .ok (.iload_n 2, 1) := by decide +kernel
theorem dX12_holds_261 : decode cX12_holds 261 = .ok (.iadd, 1) := by decide +kernel
theorem dX12_holds_262 : decode cX12_holds 262 = .ok (.iaload, 1) := by decide +kernel
theorem dX12_holds_263 : decode cX12_holds 263 = .ok (.goto 23, 3) := by decide +kernel
theorem dX12_holds_266 : decode cX12_holds 266 = .ok (.iload 6, 2) := by decide +kernel
theorem dX12_holds_268 : decode cX12_holds 268 = .ok (.bipush 24, 2) := by decide +kernel
theorem dX12_holds_270 : decode cX12_holds 270 = .ok (.if_icmp .ne 15, 3) := by decide +kernel
theorem dX12_holds_273 : decode cX12_holds 273 = .ok (.aload_n 0, 1) := by decide +kernel
theorem dX12_holds_274 : decode cX12_holds 274 = .ok (.getfield 98, 3) := by decide +kernel
theorem dX12_holds_277 : decode cX12_holds 277 = .ok (.bipush 94, 2) := by decide +kernel
theorem dX12_holds_279 : decode cX12_holds 279 = .ok (.iload_n 2, 1) := by decide +kernel
theorem dX12_holds_280 : decode cX12_holds 280 = .ok (.iadd, 1) := by decide +kernel
theorem dX12_holds_281 : decode cX12_holds 281 = .ok (.iaload, 1) := by decide +kernel
theorem dX12_holds_282 : decode cX12_holds 282 = .ok (.goto 4, 3) := by decide +kernel
theorem dX12_holds_285 : decode cX12_holds 285 = .ok (.iload_n 2, 1) := by decide +kernel
theorem dX12_holds_286 : decode cX12_holds 286 = .ok (.istore 7, 2) := by decide +kernel
theorem dX12_holds_288 : decode cX12_holds 288 = .ok (.aload_n 0, 1) := by decide +kernel
theorem dX12_holds_289 : decode cX12_holds 289 = .ok (.getfield 98, 3) := by decide +kernel
theorem dX12_holds_292 : decode cX12_holds 292 = .ok (.iload_n 3, 1) := by decide +kernel
theorem dX12_holds_293 : decode cX12_holds 293 = .ok (.iconst 3, 1) := by decide +kernel
theorem dX12_holds_294 : decode cX12_holds 294 = .ok (.iadd, 1) := by decide +kernel
theorem dX12_holds_295 : decode cX12_holds 295 = .ok (.iaload, 1) := by decide +kernel
theorem dX12_holds_296 : decode cX12_holds 296 = .ok (.bipush 60, 2) := by decide +kernel
theorem dX12_holds_298 : decode cX12_holds 298 = .ok (.if_icmp .ne 18, 3) := by decide +kernel
theorem dX12_holds_301 : decode cX12_holds 301 = .ok (.iload 7, 2) := by decide +kernel
theorem dX12_holds_303 : decode cX12_holds 303 = .ok (.iload 5, 2) := by decide +kernel
theorem dX12_holds_305 : decode cX12_holds 305 = .ok (.if_icmp .ge 7, 3) := by decide +kernel
theorem dX12_holds_308 : decode cX12_holds 308 = .ok (.iconst 1, 1) := by decide +kernel
theorem dX12_holds_309 : decode cX12_holds 309 = .ok (.goto 47, 3) := by decide +kernel
theorem dX12_holds_312 : decode cX12_holds 312 = .ok (.iconst 0, 1) := by decide +kernel
theorem dX12_holds_313 : decode cX12_holds 313 = .ok (.goto 43, 3) := by decide +kernel
theorem dX12_holds_316 : decode cX12_holds 316 = .ok (.aload_n 0, 1) := by decide +kernel
theorem dX12_holds_317 : decode cX12_holds 317 = .ok (.getfield 98, 3) := by decide +kernel
theorem dX12_holds_320 : decode cX12_holds 320 = .ok (.iload_n 3, 1) := by decide +kernel
theorem dX12_holds_321 : decode cX12_holds 321 = .ok (.iconst 3, 1) := by decide +kernel
theorem dX12_holds_322 : decode cX12_holds 322 = .ok (.iadd, 1) := by decide +kernel
theorem dX12_holds_323 : decode cX12_holds 323 = .ok (.iaload, 1) := by decide +kernel
theorem dX12_holds_324 : decode cX12_holds 324 = .ok (.bipush 61, 2) := by decide +kernel
theorem dX12_holds_326 : decode cX12_holds 326 = .ok (.if_icmp .ne 18, 3) := by decide +kernel
theorem dX12_holds_329 : decode cX12_holds 329 = .ok (.iload 7, 2) := by decide +kernel
theorem dX12_holds_331 : decode cX12_holds 331 = .ok (.iload 5, 2) := by decide +kernel
theorem dX12_holds_333 : decode cX12_holds 333 = .ok (.if_icmp .ne 7, 3) := by decide +kernel
theorem dX12_holds_336 : decode cX12_holds 336 = .ok (.iconst 1, 1) := by decide +kernel
theorem dX12_holds_337 : decode cX12_holds 337 = .ok (.goto 19, 3) := by decide +kernel
theorem dX12_holds_340 : decode cX12_holds 340 = .ok (.iconst 0, 1) := by decide +kernel
theorem dX12_holds_341 : decode cX12_holds 341 = .ok (.goto 15, 3) := by decide +kernel
theorem dX12_holds_344 : decode cX12_holds 344 = .ok (.iload 7, 2) := by decide +kernel
theorem dX12_holds_346 : decode cX12_holds 346 = .ok (.iload 5, 2) := by decide +kernel
theorem dX12_holds_348 : decode cX12_holds 348 = .ok (.if_icmp .le 7, 3) := by decide +kernel
theorem dX12_holds_351 : decode cX12_holds 351 = .ok (.iconst 1, 1) := by decide +kernel
theorem dX12_holds_352 : decode cX12_holds 352 = .ok (.goto 4, 3) := by decide +kernel
theorem dX12_holds_355 : decode cX12_holds 355 = .ok (.iconst 0, 1) := by decide +kernel
theorem dX12_holds_356 : decode cX12_holds 356 = .ok (.ireturn, 1) := by decide +kernel
set_option maxRecDepth 20000 in
theorem ggX12_holds_X12_has : GoodIn wsX12_holds wsX12_has := goodIn_r _ [8] rfl (by decide +kernel)
set_option maxRecDepth 20000 in
theorem gX12_holds_X12_has : GoodIn wsX12_holds (va_wsS RX12 240 yX12_has wsX12_has) := goodIn_app (goodIn_of _ (by decide +kernel)) ggX12_holds_X12_has
set_option maxRecDepth 20000 in
theorem ggX12_holds_X12_areOneRing : GoodIn wsX12_holds wsX12_areOneRing := goodIn_r _ [12, 13, 14, 15, 5, 16, 17, 18, 19, 20, 21, 22, 1, 23, 24, 25, 26, 6, 7, 8, 27, 28, 29, 30, 31, 32, 33, 34, 35, 36, 37, 38, 39, 40, 41, 42, 43, 44, 45, 46, 47, 48, 49, 50, 51, 52, 53, 54, 55, 56, 57, 58, 59, 60, 61, 62, 63, 64, 65, 66, 67, 68, 69, 70, 71, 72, 73, 74, 75, 76, 77, 78] rfl (by decide +kernel)
set_option maxRecDepth 20000 in
theorem gX12_holds_X12_areOneRing : GoodIn wsX12_holds (wsV RX12 424 RX12 yX12_areOneRing wsX12_areOneRing) := goodIn_app (goodIn_of _ (by decide +kernel)) ggX12_holds_X12_areOneRing
set_option maxHeartbeats 4000000 in
set_option maxRecDepth 100000 in
theorem s_X12_holds_1 (l : Launch) (D : va_G) (ca : Nat → ClassId) (sz : Nat) (h0 : Nat) (a1 : Int32) (a2 : Int32) (h0_thrown : Int32) (h0_tape : Nat) (h0_taped : Int32) (h0_size : Int32) (h0_limit : Int32) (h0_to : Int32) (h0_from : Int32) (h0_kind : Int32) (h0_number : Int32) (h0_sign : Int32) (h0_fault : Int32) (h0_place : Int32) (h0_word : Int64) (h0_told : Int32) (h0_now : Nat) (h0_read : Nat) (h0_kept : Nat) (h0_snaps : Nat) (h0_aside : Nat) (h0_name : Nat) (h0_readName : Nat) (h0_keptName : Nat) (h0_isKept : Nat) (h0_onces : Nat) (h0_snapMany : Int32) (h0_lowest : Int32) (h0_highest : Int32) (h0_agreed : Int32) (h0_jurors : Int32) (h0_panelled : Int32) (h0_inSets : Nat) (h0_surely : Int32) (h0_asked : Int32) (h0_frees : Nat) (h0_struck : Int32) (h0_beating : Int32) (h0_text : Nat) (h0_texts : Int32) (h0_seed : Int32) (h0_line : Nat) (h0_written : Nat) (h0_lineMany : Int32) (h0_hasWritten : Int32) (h0_node : Nat) (h0_nodes : Int32) (h0_onesMany : Int32) (h0_within : Int32) (h0_top : Int32) (F_h0_now : Nat → Int32) (i_a1 : rg 0 0 a1) (i_a2 : rg 0 9 a2) (i_h0_taped : rg 0 940 h0_taped) (i_h0_size : rg 0 940 h0_size) (i_h0_to : rg 0 940 h0_to) (i_h0_kind : rg 0 4 h0_kind) (i_h0_snapMany : rg 0 8 h0_snapMany) (i_h0_texts : rg 0 64 h0_texts) (i_h0_lineMany : rg 0 40 h0_lineMany) (i_h0_hasWritten : rg 0 1 h0_hasWritten) (i_h0_nodes : rg 0 60 h0_nodes) (i_h0_onesMany : rg 0 20 h0_onesMany) (s_h0_now_0 : sg 0 1 0 10 F_h0_now) (s_h0_now_1 : sg 1 2 0 4 F_h0_now) (s_h0_now_2 : sg 2 3 0 5 F_h0_now) (s_h0_now_3 : sg 35 36 0 1023 F_h0_now) (s_h0_now_4 : sg 44 49 0 3 F_h0_now) (s_h0_now_5 : sg 90 91 0 1023 F_h0_now) (s_h0_now_6 : sg 124 129 0 1023 F_h0_now) (s_h0_now_7 : sg 135 136 0 39 F_h0_now) (cu_tokw : tokb 136 F_h0_now) : oMet l yX12_holds wsX12_holds ({ frames := 5, cells := 0, slots := 0, locals := 117 } : Room) [.ref h0, .int a1, .int a2] D ca sz [(h0, .inr (11, [.int h0_thrown, .ref h0_tape, .int h0_taped, .int h0_size, .int h0_limit, .int h0_to, .int h0_from, .int h0_kind, .int h0_number, .int h0_sign, .int h0_fault, .int h0_place, .long h0_word, .int h0_told, .ref h0_now, .ref h0_read, .ref h0_kept, .ref h0_snaps, .ref h0_aside, .ref h0_name, .ref h0_readName, .ref h0_keptName, .ref h0_isKept, .ref h0_onces, .int h0_snapMany, .int h0_lowest, .int h0_highest, .int h0_agreed, .int h0_jurors, .int h0_panelled, .ref h0_inSets, .int h0_surely, .int h0_asked, .ref h0_frees, .int h0_struck, .int h0_beating, .ref h0_text, .int h0_texts, .int h0_seed, .ref h0_line, .ref h0_written, .int h0_lineMany, .int h0_hasWritten, .ref h0_node, .int h0_nodes, .int h0_onesMany, .int h0_within, .int h0_top])), (aI ca h0_now 376 F_h0_now)] (oQi D (fun (r : Int32) (u : Int32 × Int32) => ((r = 0)) ∨ ((r = 1))) (fun (u : Int32 × Int32) => [(h0, .inr (11, [.int h0_thrown, .ref h0_tape, .int h0_taped, .int h0_size, .int h0_limit, .int h0_to, .int h0_from, .int h0_kind, .int h0_number, .int h0_sign, .int h0_fault, .int h0_place, .long h0_word, .int h0_told, .ref h0_now, .ref h0_read, .ref h0_kept, .ref h0_snaps, .ref h0_aside, .ref h0_name, .ref h0_readName, .ref h0_keptName, .ref h0_isKept, .ref h0_onces, .int h0_snapMany, .int u.1, .int u.2, .int h0_agreed, .int h0_jurors, .int h0_panelled, .ref h0_inSets, .int h0_surely, .int h0_asked, .ref h0_frees, .int h0_struck, .int h0_beating, .ref h0_text, .int h0_texts, .int h0_seed, .ref h0_line, .ref h0_written, .int h0_lineMany, .int h0_hasWritten, .ref h0_node, .int h0_nodes, .int h0_onesMany, .int h0_within, .int h0_top])), (aI ca h0_now 376 F_h0_now)])) 0 0 := by
  refine oM (cc := cX12_holds) (maxL := 8) (ret := (some .boolean)) (by decide) rfl (Nat.le_of_ble_eq_true rfl) [(0, .ref h0), (1, .int a1), (2, .int a2)] rfl ?_
  intro p e s m below meth c A H locs ls hx hb hr hml hts hown hlocks hin hK hP hD hA hS hl
  have hown : s.vm.findClass RX12 = some m.cls := hown
  have k1 := hts (.fieldLink RX12 98 "LidCourtModel" "now" "[I") (by decide +kernel)
  have k2 : ∀ w ∈ wsX120, w ∈ wsX12_holds := fun _ h => List.mem_cons_of_mem _ (List.mem_append_right _ h)
  have J286_118 : ∀ (y286_0 : Int32) (y286_1 : Int32) (y286_2 : Int32), rg 136 136 y286_0 → ∀ (H : Heap) (locs : List Loc) (ls : Array Slot), va_P D vwCl [(h0, .inr (11, [.int h0_thrown, .ref h0_tape, .int h0_taped, .int h0_size, .int h0_limit, .int h0_to, .int h0_from, .int h0_kind, .int h0_number, .int h0_sign, .int h0_fault, .int h0_place, .long h0_word, .int h0_told, .ref h0_now, .ref h0_read, .ref h0_kept, .ref h0_snaps, .ref h0_aside, .ref h0_name, .ref h0_readName, .ref h0_keptName, .ref h0_isKept, .ref h0_onces, .int h0_snapMany, .int h0_lowest, .int h0_highest, .int h0_agreed, .int h0_jurors, .int h0_panelled, .ref h0_inSets, .int h0_surely, .int h0_asked, .ref h0_frees, .int h0_struck, .int h0_beating, .ref h0_text, .int h0_texts, .int h0_seed, .ref h0_line, .ref h0_written, .int h0_lineMany, .int h0_hasWritten, .ref h0_node, .int h0_nodes, .int h0_onesMany, .int h0_within, .int h0_top])), (aI ca h0_now 376 F_h0_now)] H → va_D A [(h0, .inr (11, [.int h0_thrown, .ref h0_tape, .int h0_taped, .int h0_size, .int h0_limit, .int h0_to, .int h0_from, .int h0_kind, .int h0_number, .int h0_sign, .int h0_fault, .int h0_place, .long h0_word, .int h0_told, .ref h0_now, .ref h0_read, .ref h0_kept, .ref h0_snaps, .ref h0_aside, .ref h0_name, .ref h0_readName, .ref h0_keptName, .ref h0_isKept, .ref h0_onces, .int h0_snapMany, .int h0_lowest, .int h0_highest, .int h0_agreed, .int h0_jurors, .int h0_panelled, .ref h0_inSets, .int h0_surely, .int h0_asked, .ref h0_frees, .int h0_struck, .int h0_beating, .ref h0_text, .int h0_texts, .int h0_seed, .ref h0_line, .ref h0_written, .int h0_lineMany, .int h0_hasWritten, .ref h0_node, .int h0_nodes, .int h0_onesMany, .int h0_within, .int h0_top])), (aI ca h0_now 376 F_h0_now)] → va_S A s.heap H locs → lv_has ls 8 [(0, .ref h0), (3, .int y286_0), (5, .int y286_1)] → W p l e ({ frames := 5, cells := 0, slots := 0, locals := 117 } : Room) s m ([.ref h0, .int a1, .int a2] : List Value).toArray below meth c H locs 0 0 (MQ below ((oQi D (fun (r : Int32) (u : Int32 × Int32) => ((r = 0)) ∨ ((r = 1))) (fun (u : Int32 × Int32) => [(h0, .inr (11, [.int h0_thrown, .ref h0_tape, .int h0_taped, .int h0_size, .int h0_limit, .int h0_to, .int h0_from, .int h0_kind, .int h0_number, .int h0_sign, .int h0_fault, .int h0_place, .long h0_word, .int h0_told, .ref h0_now, .ref h0_read, .ref h0_kept, .ref h0_snaps, .ref h0_aside, .ref h0_name, .ref h0_readName, .ref h0_keptName, .ref h0_isKept, .ref h0_onces, .int h0_snapMany, .int u.1, .int u.2, .int h0_agreed, .int h0_jurors, .int h0_panelled, .ref h0_inSets, .int h0_surely, .int h0_asked, .ref h0_frees, .int h0_struck, .int h0_beating, .ref h0_text, .int h0_texts, .int h0_seed, .ref h0_line, .ref h0_written, .int h0_lineMany, .int h0_hasWritten, .ref h0_node, .int h0_nodes, .int h0_onesMany, .int h0_within, .int h0_top])), (aI ca h0_now 376 F_h0_now)])) A) ([.ref h0, .int a1, .int a2] : List Value).toArray s 0 0 A) (F0 m 286 ls [.int y286_2]) := by
    intro y286_0 y286_1 y286_2 hy286_0 H locs ls hP hD hS hl
    refine lv_istore (lv' := [(7, .int y286_2), (0, .ref h0), (3, .int y286_0), (5, .int y286_1)]) hx hb dX12_holds_286 hl (by decide) rfl (fun ls hl => ?_)
    refine lv_aload_n hx hb dX12_holds_288 rfl (lv_at hl 1 rfl) ?_
    refine va_get (D := D) (ci := 11) (v := .ref h0_now) (C := RX12) (T := TX12) (N := 48) hx hb hts k2 hown hK.1 hP 0 rfl rfl 14 (by decide) k1 (fun _ h9 => h9) rfl dX12_holds_289 ?_
    refine lv_iload_n hx hb dX12_holds_292 rfl (lv_at hl 2 rfl) ?_
    refine lv_iconst (v := 3) hx hb dX12_holds_293 (by decide) ?_
    refine lv_iadd hx hb dX12_holds_294 ?_
    refine lv_topi (fun x_119 ex_119 => ?_)
    have h_120 : rg 139 139 x_119 := by rw [ex_119]; exact rg_add hy286_0 (⟨by decide, by decide⟩ : rg 3 3 (3 : Int32)) (by decide) (by decide) (by decide) (by decide)
    have l_121 : lq x_119.toInt (y286_0.toInt + 3) := lqm (by rw [ex_119]; have q := tadd hy286_0 (⟨by decide, by decide⟩ : rg 3 3 (3 : Int32)) (by decide) (by decide); have r1 := lqe (lqm (by decide) : lq (3 : Int32).toInt 3); omega)
    refine va_iald hx hb hK.1 hP 1 0 rfl rfl (rg_in h_120 (by decide) (by decide)) dX12_holds_295 ?_
    refine lv_topi (fun x_122 ex_122 => ?_)
    refine lv_bipush (v := 60) hx hb dX12_holds_296 (by decide) ?_
    refine lv_icmp_ne (tgt := 316) hx hb dX12_holds_298 (by decide) (fun c_123 => ?_) (fun c_123 => ?_)
    · skip
      refine lv_aload_n hx hb dX12_holds_316 rfl (lv_at hl 1 rfl) ?_
      refine va_get (D := D) (ci := 11) (v := .ref h0_now) (C := RX12) (T := TX12) (N := 48) hx hb hts k2 hown hK.1 hP 0 rfl rfl 14 (by decide) k1 (fun _ h9 => h9) rfl dX12_holds_317 ?_
      refine lv_iload_n hx hb dX12_holds_320 rfl (lv_at hl 2 rfl) ?_
      refine lv_iconst (v := 3) hx hb dX12_holds_321 (by decide) ?_
      refine lv_iadd hx hb dX12_holds_322 ?_
      refine lv_topi (fun x_124 ex_124 => ?_)
      have h_125 : rg 139 139 x_124 := by rw [ex_124]; exact rg_add hy286_0 (⟨by decide, by decide⟩ : rg 3 3 (3 : Int32)) (by decide) (by decide) (by decide) (by decide)
      have l_126 : lq x_124.toInt (y286_0.toInt + 3) := lqm (by rw [ex_124]; have q := tadd hy286_0 (⟨by decide, by decide⟩ : rg 3 3 (3 : Int32)) (by decide) (by decide); have r1 := lqe (lqm (by decide) : lq (3 : Int32).toInt 3); omega)
      refine va_iald hx hb hK.1 hP 1 0 rfl rfl (rg_in h_125 (by decide) (by decide)) dX12_holds_323 ?_
      refine lv_topi (fun x_127 ex_127 => ?_)
      refine lv_bipush (v := 61) hx hb dX12_holds_324 (by decide) ?_
      refine lv_icmp_ne (tgt := 344) hx hb dX12_holds_326 (by decide) (fun c_128 => ?_) (fun c_128 => ?_)
      · skip
        refine lv_iload hx hb dX12_holds_344 (lv_at hl 0 rfl) ?_
        refine lv_iload hx hb dX12_holds_346 (lv_at hl 3 rfl) ?_
        refine lv_icmp_le (tgt := 355) hx hb dX12_holds_348 (by decide) (fun c_129 => ?_) (fun c_129 => ?_)
        · skip
          have o_130 : rl 0 y286_2 y286_1 := rl_le c_129
          refine lv_iconst (v := 0) hx hb dX12_holds_355 (by decide) ?_
          exact oE_i hx hb hr (by decide) hlocks hP hD hS (h0_lowest, h0_highest) [0, 1] rfl (by decide) (Or.inl rfl) (Nat.le_of_ble_eq_true rfl) (Nat.le_of_ble_eq_true rfl) dX12_holds_356
        · skip
          have o_131 : rl 1 y286_1 y286_2 := rl_nle c_129
          have h_132 : rg (-2147483648) 2147483646 y286_1 := rl_x o_131 (rga y286_1) (rga y286_2) (by decide) (by decide)
          have h_133 : rg (-2147483647) 2147483647 y286_2 := rl_y o_131 (rga y286_1) (rga y286_2) (by decide) (by decide)
          refine lv_iconst (v := 1) hx hb dX12_holds_351 (by decide) ?_
          refine lv_goto (tgt := 356) hx hb dX12_holds_352 (by decide) ?_
          exact oE_i hx hb hr (by decide) hlocks hP hD hS (h0_lowest, h0_highest) [0, 1] rfl (by decide) (Or.inr (rfl)) (Nat.le_of_ble_eq_true rfl) (Nat.le_of_ble_eq_true rfl) dX12_holds_356
      · skip
        have o_134 : rl 0 x_127 61 := rl_eq c_128
        have h_135 : rg (-2147483648) 61 x_127 := rl_x o_134 (rga x_127) (⟨by decide, by decide⟩ : rg 61 61 (61 : Int32)) (by decide) (by decide)
        have o_136 : rl 0 61 x_127 := rl_eq c_128.symm
        have h_137 : rg 61 61 x_127 := rl_y o_136 (⟨by decide, by decide⟩ : rg 61 61 (61 : Int32)) h_135 (by decide) (by decide)
        refine lv_iload hx hb dX12_holds_329 (lv_at hl 0 rfl) ?_
        refine lv_iload hx hb dX12_holds_331 (lv_at hl 3 rfl) ?_
        refine lv_icmp_ne (tgt := 340) hx hb dX12_holds_333 (by decide) (fun c_138 => ?_) (fun c_138 => ?_)
        · skip
          refine lv_iconst (v := 0) hx hb dX12_holds_340 (by decide) ?_
          refine lv_goto (tgt := 356) hx hb dX12_holds_341 (by decide) ?_
          exact oE_i hx hb hr (by decide) hlocks hP hD hS (h0_lowest, h0_highest) [0, 1] rfl (by decide) (Or.inl rfl) (Nat.le_of_ble_eq_true rfl) (Nat.le_of_ble_eq_true rfl) dX12_holds_356
        · skip
          have o_139 : rl 0 y286_2 y286_1 := rl_eq c_138
          have o_140 : rl 0 y286_1 y286_2 := rl_eq c_138.symm
          refine lv_iconst (v := 1) hx hb dX12_holds_336 (by decide) ?_
          refine lv_goto (tgt := 356) hx hb dX12_holds_337 (by decide) ?_
          exact oE_i hx hb hr (by decide) hlocks hP hD hS (h0_lowest, h0_highest) [0, 1] rfl (by decide) (Or.inr (rfl)) (Nat.le_of_ble_eq_true rfl) (Nat.le_of_ble_eq_true rfl) dX12_holds_356
    · skip
      have o_141 : rl 0 x_122 60 := rl_eq c_123
      have h_142 : rg (-2147483648) 60 x_122 := rl_x o_141 (rga x_122) (⟨by decide, by decide⟩ : rg 60 60 (60 : Int32)) (by decide) (by decide)
      have o_143 : rl 0 60 x_122 := rl_eq c_123.symm
      have h_144 : rg 60 60 x_122 := rl_y o_143 (⟨by decide, by decide⟩ : rg 60 60 (60 : Int32)) h_142 (by decide) (by decide)
      refine lv_iload hx hb dX12_holds_301 (lv_at hl 0 rfl) ?_
      refine lv_iload hx hb dX12_holds_303 (lv_at hl 3 rfl) ?_
      refine lv_icmp_ge (tgt := 312) hx hb dX12_holds_305 (by decide) (fun c_145 => ?_) (fun c_145 => ?_)
      · skip
        have o_146 : rl 0 y286_1 y286_2 := rl_le c_145
        refine lv_iconst (v := 0) hx hb dX12_holds_312 (by decide) ?_
        refine lv_goto (tgt := 356) hx hb dX12_holds_313 (by decide) ?_
        exact oE_i hx hb hr (by decide) hlocks hP hD hS (h0_lowest, h0_highest) [0, 1] rfl (by decide) (Or.inl rfl) (Nat.le_of_ble_eq_true rfl) (Nat.le_of_ble_eq_true rfl) dX12_holds_356
      · skip
        have o_147 : rl 1 y286_2 y286_1 := rl_nle c_145
        have h_148 : rg (-2147483648) 2147483646 y286_2 := rl_x o_147 (rga y286_2) (rga y286_1) (by decide) (by decide)
        have h_149 : rg (-2147483647) 2147483647 y286_1 := rl_y o_147 (rga y286_2) (rga y286_1) (by decide) (by decide)
        refine lv_iconst (v := 1) hx hb dX12_holds_308 (by decide) ?_
        refine lv_goto (tgt := 356) hx hb dX12_holds_309 (by decide) ?_
        exact oE_i hx hb hr (by decide) hlocks hP hD hS (h0_lowest, h0_highest) [0, 1] rfl (by decide) (Or.inr (rfl)) (Nat.le_of_ble_eq_true rfl) (Nat.le_of_ble_eq_true rfl) dX12_holds_356
  refine lv_sipush (v := 136) hx hb dX12_holds_0 (by decide) ?_
  refine lv_iconst (v := 4) hx hb dX12_holds_3 (by decide) ?_
  refine lv_iload_n hx hb dX12_holds_4 rfl (lv_at hl 1 rfl) ?_
  refine lv_imul hx hb dX12_holds_5 ?_
  refine lv_topi (fun x_150 ex_150 => ?_)
  have h_151 : rg 0 0 x_150 := by rw [ex_150]; exact rg_mul' (k := 4) i_a1 (by decide) (by decide) (by decide) (by decide) (by decide) (by decide)
  have l_152 : lq x_150.toInt (4 * a1.toInt) := lqm (by rw [ex_150]; have q := tmul' (k := 4) (y := 4) i_a1 (by decide) (by decide) (by decide) (by decide); omega)
  refine lv_iadd hx hb dX12_holds_6 ?_
  refine lv_topi (fun x_153 ex_153 => ?_)
  have h_154 : rg 136 136 x_153 := by rw [ex_153]; exact rg_add (⟨by decide, by decide⟩ : rg 136 136 (136 : Int32)) h_151 (by decide) (by decide) (by decide) (by decide)
  have l_155 : lq x_153.toInt (4 * a1.toInt + 136) := lqm (by rw [ex_153]; have q := tadd (⟨by decide, by decide⟩ : rg 136 136 (136 : Int32)) h_151 (by decide) (by decide); have r0 := lqe (lqm (by decide) : lq (136 : Int32).toInt 136); have r1 := lqe l_152; omega)
  refine lv_istore_n (lv' := [(3, .int x_153), (0, .ref h0), (1, .int a1), (2, .int a2)]) hx hb dX12_holds_7 rfl hl (by decide) rfl (fun ls hl => ?_)
  refine lv_aload_n hx hb dX12_holds_8 rfl (lv_at hl 1 rfl) ?_
  refine va_get (D := D) (ci := 11) (v := .ref h0_now) (C := RX12) (T := TX12) (N := 48) hx hb hts k2 hown hK.1 hP 0 rfl rfl 14 (by decide) k1 (fun _ h9 => h9) rfl dX12_holds_9 ?_
  refine lv_iload_n hx hb dX12_holds_12 rfl (lv_at hl 0 rfl) ?_
  refine lv_iconst (v := 1) hx hb dX12_holds_13 (by decide) ?_
  refine lv_iadd hx hb dX12_holds_14 ?_
  refine lv_topi (fun x_156 ex_156 => ?_)
  have h_157 : rg 137 137 x_156 := by rw [ex_156]; exact rg_add h_154 (⟨by decide, by decide⟩ : rg 1 1 (1 : Int32)) (by decide) (by decide) (by decide) (by decide)
  have l_158 : lq x_156.toInt (4 * a1.toInt + 137) := lqm (by rw [ex_156]; have q := tadd h_154 (⟨by decide, by decide⟩ : rg 1 1 (1 : Int32)) (by decide) (by decide); have r0 := lqe l_155; have r1 := lqe (lqm (by decide) : lq (1 : Int32).toInt 1); omega)
  refine va_iald hx hb hK.1 hP 1 0 rfl rfl (rg_in h_157 (by decide) (by decide)) dX12_holds_15 ?_
  refine lv_topi (fun x_159 ex_159 => ?_)
  refine lv_istore (lv' := [(4, .int x_159), (3, .int x_153), (0, .ref h0), (1, .int a1), (2, .int a2)]) hx hb dX12_holds_16 hl (by decide) rfl (fun ls hl => ?_)
  refine lv_aload_n hx hb dX12_holds_18 rfl (lv_at hl 2 rfl) ?_
  refine va_get (D := D) (ci := 11) (v := .ref h0_now) (C := RX12) (T := TX12) (N := 48) hx hb hts k2 hown hK.1 hP 0 rfl rfl 14 (by decide) k1 (fun _ h9 => h9) rfl dX12_holds_19 ?_
  refine lv_iload_n hx hb dX12_holds_22 rfl (lv_at hl 1 rfl) ?_
  refine lv_iconst (v := 2) hx hb dX12_holds_23 (by decide) ?_
  refine lv_iadd hx hb dX12_holds_24 ?_
  refine lv_topi (fun x_160 ex_160 => ?_)
  have h_161 : rg 138 138 x_160 := by rw [ex_160]; exact rg_add h_154 (⟨by decide, by decide⟩ : rg 2 2 (2 : Int32)) (by decide) (by decide) (by decide) (by decide)
  have l_162 : lq x_160.toInt (4 * a1.toInt + 138) := lqm (by rw [ex_160]; have q := tadd h_154 (⟨by decide, by decide⟩ : rg 2 2 (2 : Int32)) (by decide) (by decide); have r0 := lqe l_155; have r1 := lqe (lqm (by decide) : lq (2 : Int32).toInt 2); omega)
  refine va_iald hx hb hK.1 hP 1 0 rfl rfl (rg_in h_161 (by decide) (by decide)) dX12_holds_25 ?_
  refine lv_topi (fun x_163 ex_163 => ?_)
  refine lv_istore (lv' := [(5, .int x_163), (4, .int x_159), (3, .int x_153), (0, .ref h0), (1, .int a1), (2, .int a2)]) hx hb dX12_holds_26 hl (by decide) rfl (fun ls hl => ?_)
  refine lv_aload_n hx hb dX12_holds_28 rfl (lv_at hl 3 rfl) ?_
  refine va_get (D := D) (ci := 11) (v := .ref h0_now) (C := RX12) (T := TX12) (N := 48) hx hb hts k2 hown hK.1 hP 0 rfl rfl 14 (by decide) k1 (fun _ h9 => h9) rfl dX12_holds_29 ?_
  refine lv_iload_n hx hb dX12_holds_32 rfl (lv_at hl 2 rfl) ?_
  refine va_iald hx hb hK.1 hP 1 0 rfl rfl (rg_in h_154 (by decide) (by decide)) dX12_holds_33 ?_
  refine lv_topi (fun x_164 ex_164 => ?_)
  have ht := tokb_at cu_tokw i_a1 (by decide) (by decide) ex_164 ex_159 ex_163 l_155 l_158 l_162
  by_cases c_165 : x_164 = 1
  · skip
    refine oti 1 c_165 ?_
    refine lv_lookup (off := 66) (tgt := 100) hx hb dX12_holds_34 (by decide) (by decide) (by decide) ?_
    exact absurd (ht.1 c_165) (by have q := rg_cl i_a1 (by decide); have q1 := i_a1.2; omega)
  by_cases c_166 : x_164 = 2
  · skip
    refine oti 2 c_166 ?_
    refine lv_lookup (off := 82) (tgt := 116) hx hb dX12_holds_34 (by decide) (by decide) (by decide) ?_
    exact absurd (ht.2.1 (Or.inl c_166)) (by have q := rg_cl i_a1 (by decide); have q1 := i_a1.2; omega)
  by_cases c_167 : x_164 = 3
  · skip
    refine oti 3 c_167 ?_
    refine lv_lookup (off := 108) (tgt := 142) hx hb dX12_holds_34 (by decide) (by decide) (by decide) ?_
    exact absurd (ht.2.1 (Or.inr c_167)) (by have q := rg_cl i_a1 (by decide); have q1 := i_a1.2; omega)
  by_cases c_168 : x_164 = 68
  · skip
    refine oti 68 c_168 ?_
    refine lv_lookup (off := 134) (tgt := 168) hx hb dX12_holds_34 (by decide) (by decide) (by decide) ?_
    refine lv_aload_n hx hb dX12_holds_168 rfl (lv_at hl 3 rfl) ?_
    refine va_get (D := D) (ci := 11) (v := .ref h0_now) (C := RX12) (T := TX12) (N := 48) hx hb hts k2 hown hK.1 hP 0 rfl rfl 14 (by decide) k1 (fun _ h9 => h9) rfl dX12_holds_169 ?_
    refine lv_bipush (v := 90) hx hb dX12_holds_172 (by decide) ?_
    refine va_iald hx hb hK.1 hP 1 0 rfl rfl (rg_in (⟨by decide, by decide⟩ : rg 90 90 (90 : Int32)) (by decide) (by decide)) dX12_holds_174 ?_
    refine lv_topi (fun x_169 ex_169 => ?_)
    have h_170 : rg 0 1023 x_169 := by rw [ex_169]; exact sg_at s_h0_now_5 (⟨by decide, by decide⟩ : rg 90 90 (90 : Int32)) (by decide) (by decide) (by decide)
    refine lv_iload_n hx hb dX12_holds_175 rfl (lv_at hl 5 rfl) ?_
    refine oC_i (Wc := []) (Wr := [(h0, .inr (11, [.int h0_thrown, .ref h0_tape, .int h0_taped, .int h0_size, .int h0_limit, .int h0_to, .int h0_from, .int h0_kind, .int h0_number, .int h0_sign, .int h0_fault, .int h0_place, .long h0_word, .int h0_told, .ref h0_now, .ref h0_read, .ref h0_kept, .ref h0_snaps, .ref h0_aside, .ref h0_name, .ref h0_readName, .ref h0_keptName, .ref h0_isKept, .ref h0_onces, .int h0_snapMany, .int h0_lowest, .int h0_highest, .int h0_agreed, .int h0_jurors, .int h0_panelled, .ref h0_inSets, .int h0_surely, .int h0_asked, .ref h0_frees, .int h0_struck, .int h0_beating, .ref h0_text, .int h0_texts, .int h0_seed, .ref h0_line, .ref h0_written, .int h0_lineMany, .int h0_hasWritten, .ref h0_node, .int h0_nodes, .int h0_onesMany, .int h0_within, .int h0_top])), (aI ca h0_now 376 F_h0_now)]) (va_runS (As := [.int x_169, .int a2]) (rest := []) ⟨hx, hb, hml, hown, hts⟩ (s_X12_has l D ca H.size x_169 a2) (va_cwS 2 hts gX12_holds_X12_has rfl rfl rfl (by decide +kernel) ⟨Nat.le_of_ble_eq_true rfl, Nat.le_of_ble_eq_true rfl⟩) (oPS hK hP hD [] rfl (by decide)) rfl rfl hl.1 rfl (lv_room (Nat.le_of_ble_eq_true rfl)) dX12_holds_176 ⟨Nat.le_of_ble_eq_true rfl, Nat.le_of_ble_eq_true rfl⟩) hP hD hS hA [] [0, 1] rfl rfl (by decide) (by decide) (fun r_171 u H locs w_172 hP hD hS => ?_)
    obtain ⟨⟩ := u
    have hP : va_P D vwCl [(h0, .inr (11, [.int h0_thrown, .ref h0_tape, .int h0_taped, .int h0_size, .int h0_limit, .int h0_to, .int h0_from, .int h0_kind, .int h0_number, .int h0_sign, .int h0_fault, .int h0_place, .long h0_word, .int h0_told, .ref h0_now, .ref h0_read, .ref h0_kept, .ref h0_snaps, .ref h0_aside, .ref h0_name, .ref h0_readName, .ref h0_keptName, .ref h0_isKept, .ref h0_onces, .int h0_snapMany, .int h0_lowest, .int h0_highest, .int h0_agreed, .int h0_jurors, .int h0_panelled, .ref h0_inSets, .int h0_surely, .int h0_asked, .ref h0_frees, .int h0_struck, .int h0_beating, .ref h0_text, .int h0_texts, .int h0_seed, .ref h0_line, .ref h0_written, .int h0_lineMany, .int h0_hasWritten, .ref h0_node, .int h0_nodes, .int h0_onesMany, .int h0_within, .int h0_top])), (aI ca h0_now 376 F_h0_now)] H := hP
    have hD : va_D A [(h0, .inr (11, [.int h0_thrown, .ref h0_tape, .int h0_taped, .int h0_size, .int h0_limit, .int h0_to, .int h0_from, .int h0_kind, .int h0_number, .int h0_sign, .int h0_fault, .int h0_place, .long h0_word, .int h0_told, .ref h0_now, .ref h0_read, .ref h0_kept, .ref h0_snaps, .ref h0_aside, .ref h0_name, .ref h0_readName, .ref h0_keptName, .ref h0_isKept, .ref h0_onces, .int h0_snapMany, .int h0_lowest, .int h0_highest, .int h0_agreed, .int h0_jurors, .int h0_panelled, .ref h0_inSets, .int h0_surely, .int h0_asked, .ref h0_frees, .int h0_struck, .int h0_beating, .ref h0_text, .int h0_texts, .int h0_seed, .ref h0_line, .ref h0_written, .int h0_lineMany, .int h0_hasWritten, .ref h0_node, .int h0_nodes, .int h0_onesMany, .int h0_within, .int h0_top])), (aI ca h0_now 376 F_h0_now)] := hD
    try dsimp only at w_172
    rcases w_172 with ⟨h_173, h_174⟩ | ⟨h_175, h_176⟩
    · skip
      subst h_173
      exact oE_i hx hb hr (by decide) hlocks hP hD hS (h0_lowest, h0_highest) [0, 1] rfl (by decide) (Or.inl rfl) (Nat.le_of_ble_eq_true rfl) (Nat.le_of_ble_eq_true rfl) dX12_holds_179
    · skip
      subst h_175
      exact oE_i hx hb hr (by decide) hlocks hP hD hS (h0_lowest, h0_highest) [0, 1] rfl (by decide) (Or.inr (rfl)) (Nat.le_of_ble_eq_true rfl) (Nat.le_of_ble_eq_true rfl) dX12_holds_179
  by_cases c_177 : x_164 = 69
  · skip
    refine oti 69 c_177 ?_
    refine lv_lookup (off := 146) (tgt := 180) hx hb dX12_holds_34 (by decide) (by decide) (by decide) ?_
    refine lv_aload_n hx hb dX12_holds_180 rfl (lv_at hl 3 rfl) ?_
    refine va_get (D := D) (ci := 11) (v := .ref h0_now) (C := RX12) (T := TX12) (N := 48) hx hb hts k2 hown hK.1 hP 0 rfl rfl 14 (by decide) k1 (fun _ h9 => h9) rfl dX12_holds_181 ?_
    refine lv_bipush (v := 91) hx hb dX12_holds_184 (by decide) ?_
    refine va_iald hx hb hK.1 hP 1 0 rfl rfl (rg_in (⟨by decide, by decide⟩ : rg 91 91 (91 : Int32)) (by decide) (by decide)) dX12_holds_186 ?_
    refine lv_topi (fun x_178 ex_178 => ?_)
    refine lv_iload_n hx hb dX12_holds_187 rfl (lv_at hl 5 rfl) ?_
    refine oC_i (Wc := []) (Wr := [(h0, .inr (11, [.int h0_thrown, .ref h0_tape, .int h0_taped, .int h0_size, .int h0_limit, .int h0_to, .int h0_from, .int h0_kind, .int h0_number, .int h0_sign, .int h0_fault, .int h0_place, .long h0_word, .int h0_told, .ref h0_now, .ref h0_read, .ref h0_kept, .ref h0_snaps, .ref h0_aside, .ref h0_name, .ref h0_readName, .ref h0_keptName, .ref h0_isKept, .ref h0_onces, .int h0_snapMany, .int h0_lowest, .int h0_highest, .int h0_agreed, .int h0_jurors, .int h0_panelled, .ref h0_inSets, .int h0_surely, .int h0_asked, .ref h0_frees, .int h0_struck, .int h0_beating, .ref h0_text, .int h0_texts, .int h0_seed, .ref h0_line, .ref h0_written, .int h0_lineMany, .int h0_hasWritten, .ref h0_node, .int h0_nodes, .int h0_onesMany, .int h0_within, .int h0_top])), (aI ca h0_now 376 F_h0_now)]) (va_runS (As := [.int x_178, .int a2]) (rest := []) ⟨hx, hb, hml, hown, hts⟩ (s_X12_has l D ca H.size x_178 a2) (va_cwS 2 hts gX12_holds_X12_has rfl rfl rfl (by decide +kernel) ⟨Nat.le_of_ble_eq_true rfl, Nat.le_of_ble_eq_true rfl⟩) (oPS hK hP hD [] rfl (by decide)) rfl rfl hl.1 rfl (lv_room (Nat.le_of_ble_eq_true rfl)) dX12_holds_188 ⟨Nat.le_of_ble_eq_true rfl, Nat.le_of_ble_eq_true rfl⟩) hP hD hS hA [] [0, 1] rfl rfl (by decide) (by decide) (fun r_179 u H locs w_180 hP hD hS => ?_)
    obtain ⟨⟩ := u
    have hP : va_P D vwCl [(h0, .inr (11, [.int h0_thrown, .ref h0_tape, .int h0_taped, .int h0_size, .int h0_limit, .int h0_to, .int h0_from, .int h0_kind, .int h0_number, .int h0_sign, .int h0_fault, .int h0_place, .long h0_word, .int h0_told, .ref h0_now, .ref h0_read, .ref h0_kept, .ref h0_snaps, .ref h0_aside, .ref h0_name, .ref h0_readName, .ref h0_keptName, .ref h0_isKept, .ref h0_onces, .int h0_snapMany, .int h0_lowest, .int h0_highest, .int h0_agreed, .int h0_jurors, .int h0_panelled, .ref h0_inSets, .int h0_surely, .int h0_asked, .ref h0_frees, .int h0_struck, .int h0_beating, .ref h0_text, .int h0_texts, .int h0_seed, .ref h0_line, .ref h0_written, .int h0_lineMany, .int h0_hasWritten, .ref h0_node, .int h0_nodes, .int h0_onesMany, .int h0_within, .int h0_top])), (aI ca h0_now 376 F_h0_now)] H := hP
    have hD : va_D A [(h0, .inr (11, [.int h0_thrown, .ref h0_tape, .int h0_taped, .int h0_size, .int h0_limit, .int h0_to, .int h0_from, .int h0_kind, .int h0_number, .int h0_sign, .int h0_fault, .int h0_place, .long h0_word, .int h0_told, .ref h0_now, .ref h0_read, .ref h0_kept, .ref h0_snaps, .ref h0_aside, .ref h0_name, .ref h0_readName, .ref h0_keptName, .ref h0_isKept, .ref h0_onces, .int h0_snapMany, .int h0_lowest, .int h0_highest, .int h0_agreed, .int h0_jurors, .int h0_panelled, .ref h0_inSets, .int h0_surely, .int h0_asked, .ref h0_frees, .int h0_struck, .int h0_beating, .ref h0_text, .int h0_texts, .int h0_seed, .ref h0_line, .ref h0_written, .int h0_lineMany, .int h0_hasWritten, .ref h0_node, .int h0_nodes, .int h0_onesMany, .int h0_within, .int h0_top])), (aI ca h0_now 376 F_h0_now)] := hD
    try dsimp only at w_180
    rcases w_180 with ⟨h_181, h_182⟩ | ⟨h_183, h_184⟩
    · skip
      subst h_181
      exact oE_i hx hb hr (by decide) hlocks hP hD hS (h0_lowest, h0_highest) [0, 1] rfl (by decide) (Or.inl rfl) (Nat.le_of_ble_eq_true rfl) (Nat.le_of_ble_eq_true rfl) dX12_holds_191
    · skip
      subst h_183
      exact oE_i hx hb hr (by decide) hlocks hP hD hS (h0_lowest, h0_highest) [0, 1] rfl (by decide) (Or.inr (rfl)) (Nat.le_of_ble_eq_true rfl) (Nat.le_of_ble_eq_true rfl) dX12_holds_191
  by_cases c_185 : x_164 = 70
  · skip
    refine oti 70 c_185 ?_
    refine lv_lookup (off := 158) (tgt := 192) hx hb dX12_holds_34 (by decide) (by decide) (by decide) ?_
    refine lv_aload_n hx hb dX12_holds_192 rfl (lv_at hl 3 rfl) ?_
    refine va_get (D := D) (ci := 11) (v := .ref h0_now) (C := RX12) (T := TX12) (N := 48) hx hb hts k2 hown hK.1 hP 0 rfl rfl 14 (by decide) k1 (fun _ h9 => h9) rfl dX12_holds_193 ?_
    refine lv_bipush (v := 94) hx hb dX12_holds_196 (by decide) ?_
    refine lv_iload_n hx hb dX12_holds_198 rfl (lv_at hl 5 rfl) ?_
    refine lv_iadd hx hb dX12_holds_199 ?_
    refine lv_topi (fun x_186 ex_186 => ?_)
    have h_187 : rg 94 103 x_186 := by rw [ex_186]; exact rg_add (⟨by decide, by decide⟩ : rg 94 94 (94 : Int32)) i_a2 (by decide) (by decide) (by decide) (by decide)
    have l_188 : lq x_186.toInt (a2.toInt + 94) := lqm (by rw [ex_186]; have q := tadd (⟨by decide, by decide⟩ : rg 94 94 (94 : Int32)) i_a2 (by decide) (by decide); have r0 := lqe (lqm (by decide) : lq (94 : Int32).toInt 94); omega)
    refine va_iald hx hb hK.1 hP 1 0 rfl rfl (rg_in h_187 (by decide) (by decide)) dX12_holds_200 ?_
    refine lv_topi (fun x_189 ex_189 => ?_)
    refine lv_if_le (tgt := 208) hx hb dX12_holds_201 (by decide) (fun c_190 => ?_) (fun c_190 => ?_)
    · skip
      have o_191 : rl 0 x_189 0 := rl_le c_190
      have h_192 : rg (-2147483648) 0 x_189 := rl_x o_191 (rga x_189) (⟨by decide, by decide⟩ : rg 0 0 (0 : Int32)) (by decide) (by decide)
      refine lv_iconst (v := 0) hx hb dX12_holds_208 (by decide) ?_
      exact oE_i hx hb hr (by decide) hlocks hP hD hS (h0_lowest, h0_highest) [0, 1] rfl (by decide) (Or.inl rfl) (Nat.le_of_ble_eq_true rfl) (Nat.le_of_ble_eq_true rfl) dX12_holds_209
    · skip
      have o_193 : rl 1 0 x_189 := rl_nle c_190
      have h_194 : rg 1 2147483647 x_189 := rl_y o_193 (⟨by decide, by decide⟩ : rg 0 0 (0 : Int32)) (rga x_189) (by decide) (by decide)
      refine lv_iconst (v := 1) hx hb dX12_holds_204 (by decide) ?_
      refine lv_goto (tgt := 209) hx hb dX12_holds_205 (by decide) ?_
      exact oE_i hx hb hr (by decide) hlocks hP hD hS (h0_lowest, h0_highest) [0, 1] rfl (by decide) (Or.inr (rfl)) (Nat.le_of_ble_eq_true rfl) (Nat.le_of_ble_eq_true rfl) dX12_holds_209
  by_cases c_195 : x_164 = 71
  · skip
    refine oti 71 c_195 ?_
    refine lv_lookup (off := 176) (tgt := 210) hx hb dX12_holds_34 (by decide) (by decide) (by decide) ?_
    have h_196 : rg 0 39 x_159 := ht.2.2 c_195
    refine lv_aload_n hx hb dX12_holds_210 rfl (lv_at hl 3 rfl) ?_
    refine lv_iload_n hx hb dX12_holds_211 rfl (lv_at hl 5 rfl) ?_
    refine lv_iload hx hb dX12_holds_212 (lv_at hl 1 rfl) ?_
    refine oC_i (Wc := [(h0, .inr (11, [.int h0_thrown, .ref h0_tape, .int h0_taped, .int h0_size, .int h0_limit, .int h0_to, .int h0_from, .int h0_kind, .int h0_number, .int h0_sign, .int h0_fault, .int h0_place, .long h0_word, .int h0_told, .ref h0_now, .ref h0_read, .ref h0_kept, .ref h0_snaps, .ref h0_aside, .ref h0_name, .ref h0_readName, .ref h0_keptName, .ref h0_isKept, .ref h0_onces, .int h0_snapMany, .int h0_lowest, .int h0_highest, .int h0_agreed, .int h0_jurors, .int h0_panelled, .ref h0_inSets, .int h0_surely, .int h0_asked, .ref h0_frees, .int h0_struck, .int h0_beating, .ref h0_text, .int h0_texts, .int h0_seed, .ref h0_line, .ref h0_written, .int h0_lineMany, .int h0_hasWritten, .ref h0_node, .int h0_nodes, .int h0_onesMany, .int h0_within, .int h0_top])), (aI ca h0_now 376 F_h0_now)]) (Wr := []) (va_runV (As := [.int a2, .int x_159]) (rest := []) ⟨hx, hb, hml, hown, hts⟩ (s_X12_areOneRing l D ca H.size h0 a2 x_159 h0_thrown h0_tape h0_taped h0_size h0_limit h0_to h0_from h0_kind h0_number h0_sign h0_fault h0_place h0_word h0_told h0_now h0_read h0_kept h0_snaps h0_aside h0_name h0_readName h0_keptName h0_isKept h0_onces h0_snapMany h0_lowest h0_highest h0_agreed h0_jurors h0_panelled h0_inSets h0_surely h0_asked h0_frees h0_struck h0_beating h0_text h0_texts h0_seed h0_line h0_written h0_lineMany h0_hasWritten h0_node h0_nodes h0_onesMany h0_within h0_top F_h0_now i_a2 h_196 i_h0_taped i_h0_size i_h0_to i_h0_kind i_h0_snapMany i_h0_texts i_h0_lineMany i_h0_hasWritten i_h0_nodes i_h0_onesMany s_h0_now_0 s_h0_now_1 s_h0_now_2 s_h0_now_3 s_h0_now_4 s_h0_now_5 s_h0_now_6 s_h0_now_7) (cwV 2 hts gX12_holds_X12_areOneRing rfl rfl rfl (by decide +kernel) ⟨Nat.le_of_ble_eq_true rfl, Nat.le_of_ble_eq_true rfl⟩) (oPV (C := RX12) hK hP hD [0, 1] rfl (by decide) 0 rfl (ci := 11) rfl rfl) rfl rfl hl.1 rfl (lv_room (Nat.le_of_ble_eq_true rfl)) dX12_holds_214 ⟨Nat.le_of_ble_eq_true rfl, Nat.le_of_ble_eq_true rfl⟩) hP hD hS hA [0, 1] [] rfl rfl (by decide) (by decide) (fun r_197 u H locs w_198 hP hD hS => ?_)
    obtain ⟨u_199, u_200⟩ := u
    have hP : va_P D vwCl [(h0, .inr (11, [.int h0_thrown, .ref h0_tape, .int h0_taped, .int h0_size, .int h0_limit, .int h0_to, .int h0_from, .int h0_kind, .int h0_number, .int h0_sign, .int h0_fault, .int h0_place, .long h0_word, .int h0_told, .ref h0_now, .ref h0_read, .ref h0_kept, .ref h0_snaps, .ref h0_aside, .ref h0_name, .ref h0_readName, .ref h0_keptName, .ref h0_isKept, .ref h0_onces, .int h0_snapMany, .int u_199, .int u_200, .int h0_agreed, .int h0_jurors, .int h0_panelled, .ref h0_inSets, .int h0_surely, .int h0_asked, .ref h0_frees, .int h0_struck, .int h0_beating, .ref h0_text, .int h0_texts, .int h0_seed, .ref h0_line, .ref h0_written, .int h0_lineMany, .int h0_hasWritten, .ref h0_node, .int h0_nodes, .int h0_onesMany, .int h0_within, .int h0_top])), (aI ca h0_now 376 F_h0_now)] H := hP
    have hD : va_D A [(h0, .inr (11, [.int h0_thrown, .ref h0_tape, .int h0_taped, .int h0_size, .int h0_limit, .int h0_to, .int h0_from, .int h0_kind, .int h0_number, .int h0_sign, .int h0_fault, .int h0_place, .long h0_word, .int h0_told, .ref h0_now, .ref h0_read, .ref h0_kept, .ref h0_snaps, .ref h0_aside, .ref h0_name, .ref h0_readName, .ref h0_keptName, .ref h0_isKept, .ref h0_onces, .int h0_snapMany, .int u_199, .int u_200, .int h0_agreed, .int h0_jurors, .int h0_panelled, .ref h0_inSets, .int h0_surely, .int h0_asked, .ref h0_frees, .int h0_struck, .int h0_beating, .ref h0_text, .int h0_texts, .int h0_seed, .ref h0_line, .ref h0_written, .int h0_lineMany, .int h0_hasWritten, .ref h0_node, .int h0_nodes, .int h0_onesMany, .int h0_within, .int h0_top])), (aI ca h0_now 376 F_h0_now)] := hD
    try dsimp only at w_198
    rcases w_198 with ⟨h_201, h_202, h_203⟩ | ⟨h_204, h_205, h_206, h_207⟩
    · skip
      subst h_201
      exact oE_i hx hb hr (by decide) hlocks hP hD hS (u_199, u_200) [0, 1] rfl (by decide) (Or.inl rfl) (Nat.le_of_ble_eq_true rfl) (Nat.le_of_ble_eq_true rfl) dX12_holds_217
    · skip
      subst h_204
      exact oE_i hx hb hr (by decide) hlocks hP hD hS (u_199, u_200) [0, 1] rfl (by decide) (Or.inr (rfl)) (Nat.le_of_ble_eq_true rfl) (Nat.le_of_ble_eq_true rfl) dX12_holds_217
  have t0 := lv_neT c_165 (show (1 : Int32).toInt = 1 by decide)
  have t1 := lv_neT c_166 (show (2 : Int32).toInt = 2 by decide)
  have t2 := lv_neT c_167 (show (3 : Int32).toInt = 3 by decide)
  have t3 := lv_neT c_168 (show (68 : Int32).toInt = 68 by decide)
  have t4 := lv_neT c_177 (show (69 : Int32).toInt = 69 by decide)
  have t5 := lv_neT c_185 (show (70 : Int32).toInt = 70 by decide)
  have t6 := lv_neT c_195 (show (71 : Int32).toInt = 71 by decide)
  refine lv_lookup (off := 184) (tgt := 218) hx hb dX12_holds_34 (by decide) (by simp [Op.lookupswitch.offset, show ¬ (1 : Int) = x_164.toInt from fun h9 => t0 h9.symm, show ¬ (2 : Int) = x_164.toInt from fun h9 => t1 h9.symm, show ¬ (3 : Int) = x_164.toInt from fun h9 => t2 h9.symm, show ¬ (68 : Int) = x_164.toInt from fun h9 => t3 h9.symm, show ¬ (69 : Int) = x_164.toInt from fun h9 => t4 h9.symm, show ¬ (70 : Int) = x_164.toInt from fun h9 => t5 h9.symm, show ¬ (71 : Int) = x_164.toInt from fun h9 => t6 h9.symm]) (by decide) ?_
  refine lv_aload_n hx hb dX12_holds_218 rfl (lv_at hl 3 rfl) ?_
  refine va_get (D := D) (ci := 11) (v := .ref h0_now) (C := RX12) (T := TX12) (N := 48) hx hb hts k2 hown hK.1 hP 0 rfl rfl 14 (by decide) k1 (fun _ h9 => h9) rfl dX12_holds_219 ?_
  refine lv_iload_n hx hb dX12_holds_222 rfl (lv_at hl 2 rfl) ?_
  refine va_iald hx hb hK.1 hP 1 0 rfl rfl (rg_in h_154 (by decide) (by decide)) dX12_holds_223 ?_
  refine oti x_164 ex_164.symm ?_
  refine lv_bipush (v := 50) hx hb dX12_holds_224 (by decide) ?_
  refine lv_isub hx hb dX12_holds_226 ?_
  refine lv_topi (fun x_208 ex_208 => ?_)
  refine lv_istore (lv' := [(6, .int x_208), (5, .int x_163), (4, .int x_159), (3, .int x_153), (0, .ref h0), (1, .int a1), (2, .int a2)]) hx hb dX12_holds_227 hl (by decide) rfl (fun ls hl => ?_)
  refine lv_iload hx hb dX12_holds_229 (lv_at hl 0 rfl) ?_
  refine lv_bipush (v := 22) hx hb dX12_holds_231 (by decide) ?_
  refine lv_icmp_ne (tgt := 247) hx hb dX12_holds_233 (by decide) (fun c_209 => ?_) (fun c_209 => ?_)
  · skip
    refine lv_iload hx hb dX12_holds_247 (lv_at hl 0 rfl) ?_
    refine lv_bipush (v := 23) hx hb dX12_holds_249 (by decide) ?_
    refine lv_icmp_ne (tgt := 266) hx hb dX12_holds_251 (by decide) (fun c_210 => ?_) (fun c_210 => ?_)
    · skip
      refine lv_iload hx hb dX12_holds_266 (lv_at hl 0 rfl) ?_
      refine lv_bipush (v := 24) hx hb dX12_holds_268 (by decide) ?_
      refine lv_icmp_ne (tgt := 285) hx hb dX12_holds_270 (by decide) (fun c_211 => ?_) (fun c_211 => ?_)
      · skip
        refine lv_iload_n hx hb dX12_holds_285 rfl (lv_at hl 6 rfl) ?_
        exact J286_118 x_153 x_163 a2 h_154 H locs ls (oPsub hP [0, 1] rfl) (hD.sub [0, 1] (by decide) rfl) hS (lv_sub hl [4, 3, 1] rfl)
      · skip
        have o_212 : rl 0 x_208 24 := rl_eq c_211
        have h_213 : rg (-2147483648) 24 x_208 := rl_x o_212 (rga x_208) (⟨by decide, by decide⟩ : rg 24 24 (24 : Int32)) (by decide) (by decide)
        have o_214 : rl 0 24 x_208 := rl_eq c_211.symm
        have h_215 : rg 24 24 x_208 := rl_y o_214 (⟨by decide, by decide⟩ : rg 24 24 (24 : Int32)) h_213 (by decide) (by decide)
        refine lv_aload_n hx hb dX12_holds_273 rfl (lv_at hl 4 rfl) ?_
        refine va_get (D := D) (ci := 11) (v := .ref h0_now) (C := RX12) (T := TX12) (N := 48) hx hb hts k2 hown hK.1 hP 0 rfl rfl 14 (by decide) k1 (fun _ h9 => h9) rfl dX12_holds_274 ?_
        refine lv_bipush (v := 94) hx hb dX12_holds_277 (by decide) ?_
        refine lv_iload_n hx hb dX12_holds_279 rfl (lv_at hl 6 rfl) ?_
        refine lv_iadd hx hb dX12_holds_280 ?_
        refine lv_topi (fun x_216 ex_216 => ?_)
        have h_217 : rg 94 103 x_216 := by rw [ex_216]; exact rg_add (⟨by decide, by decide⟩ : rg 94 94 (94 : Int32)) i_a2 (by decide) (by decide) (by decide) (by decide)
        have l_218 : lq x_216.toInt (a2.toInt + 94) := lqm (by rw [ex_216]; have q := tadd (⟨by decide, by decide⟩ : rg 94 94 (94 : Int32)) i_a2 (by decide) (by decide); have r0 := lqe (lqm (by decide) : lq (94 : Int32).toInt 94); omega)
        refine va_iald hx hb hK.1 hP 1 0 rfl rfl (rg_in h_217 (by decide) (by decide)) dX12_holds_281 ?_
        refine lv_topi (fun x_219 ex_219 => ?_)
        refine lv_goto (tgt := 286) hx hb dX12_holds_282 (by decide) ?_
        exact J286_118 x_153 x_163 x_219 h_154 H locs ls (oPsub hP [0, 1] rfl) (hD.sub [0, 1] (by decide) rfl) hS (lv_sub hl [4, 3, 1] rfl)
    · skip
      have o_220 : rl 0 x_208 23 := rl_eq c_210
      have h_221 : rg (-2147483648) 23 x_208 := rl_x o_220 (rga x_208) (⟨by decide, by decide⟩ : rg 23 23 (23 : Int32)) (by decide) (by decide)
      have o_222 : rl 0 23 x_208 := rl_eq c_210.symm
      have h_223 : rg 23 23 x_208 := rl_y o_222 (⟨by decide, by decide⟩ : rg 23 23 (23 : Int32)) h_221 (by decide) (by decide)
      refine lv_aload_n hx hb dX12_holds_254 rfl (lv_at hl 4 rfl) ?_
      refine va_get (D := D) (ci := 11) (v := .ref h0_now) (C := RX12) (T := TX12) (N := 48) hx hb hts k2 hown hK.1 hP 0 rfl rfl 14 (by decide) k1 (fun _ h9 => h9) rfl dX12_holds_255 ?_
      refine lv_bipush (v := 15) hx hb dX12_holds_258 (by decide) ?_
      refine lv_iload_n hx hb dX12_holds_260 rfl (lv_at hl 6 rfl) ?_
      refine lv_iadd hx hb dX12_holds_261 ?_
      refine lv_topi (fun x_224 ex_224 => ?_)
      have h_225 : rg 15 24 x_224 := by rw [ex_224]; exact rg_add (⟨by decide, by decide⟩ : rg 15 15 (15 : Int32)) i_a2 (by decide) (by decide) (by decide) (by decide)
      have l_226 : lq x_224.toInt (a2.toInt + 15) := lqm (by rw [ex_224]; have q := tadd (⟨by decide, by decide⟩ : rg 15 15 (15 : Int32)) i_a2 (by decide) (by decide); have r0 := lqe (lqm (by decide) : lq (15 : Int32).toInt 15); omega)
      refine va_iald hx hb hK.1 hP 1 0 rfl rfl (rg_in h_225 (by decide) (by decide)) dX12_holds_262 ?_
      refine lv_topi (fun x_227 ex_227 => ?_)
      refine lv_goto (tgt := 286) hx hb dX12_holds_263 (by decide) ?_
      exact J286_118 x_153 x_163 x_227 h_154 H locs ls (oPsub hP [0, 1] rfl) (hD.sub [0, 1] (by decide) rfl) hS (lv_sub hl [4, 3, 1] rfl)
  · skip
    have o_228 : rl 0 x_208 22 := rl_eq c_209
    have h_229 : rg (-2147483648) 22 x_208 := rl_x o_228 (rga x_208) (⟨by decide, by decide⟩ : rg 22 22 (22 : Int32)) (by decide) (by decide)
    have o_230 : rl 0 22 x_208 := rl_eq c_209.symm
    have h_231 : rg 22 22 x_208 := rl_y o_230 (⟨by decide, by decide⟩ : rg 22 22 (22 : Int32)) h_229 (by decide) (by decide)
    refine lv_aload_n hx hb dX12_holds_236 rfl (lv_at hl 4 rfl) ?_
    refine va_get (D := D) (ci := 11) (v := .ref h0_now) (C := RX12) (T := TX12) (N := 48) hx hb hts k2 hown hK.1 hP 0 rfl rfl 14 (by decide) k1 (fun _ h9 => h9) rfl dX12_holds_237 ?_
    refine lv_iconst (v := 5) hx hb dX12_holds_240 (by decide) ?_
    refine lv_iload_n hx hb dX12_holds_241 rfl (lv_at hl 6 rfl) ?_
    refine lv_iadd hx hb dX12_holds_242 ?_
    refine lv_topi (fun x_232 ex_232 => ?_)
    have h_233 : rg 5 14 x_232 := by rw [ex_232]; exact rg_add (⟨by decide, by decide⟩ : rg 5 5 (5 : Int32)) i_a2 (by decide) (by decide) (by decide) (by decide)
    have l_234 : lq x_232.toInt (a2.toInt + 5) := lqm (by rw [ex_232]; have q := tadd (⟨by decide, by decide⟩ : rg 5 5 (5 : Int32)) i_a2 (by decide) (by decide); have r0 := lqe (lqm (by decide) : lq (5 : Int32).toInt 5); omega)
    refine va_iald hx hb hK.1 hP 1 0 rfl rfl (rg_in h_233 (by decide) (by decide)) dX12_holds_243 ?_
    refine lv_topi (fun x_235 ex_235 => ?_)
    refine lv_goto (tgt := 286) hx hb dX12_holds_244 (by decide) ?_
    exact J286_118 x_153 x_163 x_235 h_154 H locs ls (oPsub hP [0, 1] rfl) (hD.sub [0, 1] (by decide) rfl) hS (lv_sub hl [4, 3, 1] rfl)
theorem dX12_holds_100 : decode cX12_holds 100 = .ok (.aload_n 0, 1) := by decide +kernel
theorem dX12_holds_101 : decode cX12_holds 101 = .ok (.iload 4, 2) := by decide +kernel
theorem dX12_holds_103 : decode cX12_holds 103 = .ok (.iload_n 2, 1) := by decide +kernel
theorem dX12_holds_104 : decode cX12_holds 104 = .ok (.invokevirtual 421, 3) := by decide +kernel
theorem dX12_holds_107 : decode cX12_holds 107 = .ok (.ifCond .ne 7, 3) := by decide +kernel
theorem dX12_holds_110 : decode cX12_holds 110 = .ok (.iconst 1, 1) := by decide +kernel
theorem dX12_holds_111 : decode cX12_holds 111 = .ok (.goto 4, 3) := by decide +kernel
theorem dX12_holds_114 : decode cX12_holds 114 = .ok (.iconst 0, 1) := by decide +kernel
theorem dX12_holds_115 : decode cX12_holds 115 = .ok (.ireturn, 1) := by decide +kernel
theorem dX12_holds_116 : decode cX12_holds 116 = .ok (.aload_n 0, 1) := by decide +kernel
theorem dX12_holds_117 : decode cX12_holds 117 = .ok (.iload 4, 2) := by decide +kernel
theorem dX12_holds_119 : decode cX12_holds 119 = .ok (.iload_n 2, 1) := by decide +kernel
theorem dX12_holds_120 : decode cX12_holds 120 = .ok (.invokevirtual 421, 3) := by decide +kernel
theorem dX12_holds_123 : decode cX12_holds 123 = .ok (.ifCond .eq 17, 3) := by decide +kernel
theorem dX12_holds_126 : decode cX12_holds 126 = .ok (.aload_n 0, 1) := by decide +kernel
theorem dX12_holds_127 : decode cX12_holds 127 = .ok (.iload 5, 2) := by decide +kernel
theorem dX12_holds_129 : decode cX12_holds 129 = .ok (.iload_n 2, 1) := by decide +kernel
theorem dX12_holds_130 : decode cX12_holds 130 = .ok (.invokevirtual 421, 3) := by decide +kernel
theorem dX12_holds_133 : decode cX12_holds 133 = .ok (.ifCond .eq 7, 3) := by decide +kernel
theorem dX12_holds_136 : decode cX12_holds 136 = .ok (.iconst 1, 1) := by decide +kernel
theorem dX12_holds_137 : decode cX12_holds 137 = .ok (.goto 4, 3) := by decide +kernel
theorem dX12_holds_140 : decode cX12_holds 140 = .ok (.iconst 0, 1) := by decide +kernel
theorem dX12_holds_141 : decode cX12_holds 141 = .ok (.ireturn, 1) := by decide +kernel
theorem dX12_holds_142 : decode cX12_holds 142 = .ok (.aload_n 0, 1) := by decide +kernel
theorem dX12_holds_143 : decode cX12_holds 143 = .ok (.iload 4, 2) := by decide +kernel
theorem dX12_holds_145 : decode cX12_holds 145 = .ok (.iload_n 2, 1) := by decide +kernel
theorem dX12_holds_146 : decode cX12_holds 146 = .ok (.invokevirtual 421, 3) := by decide +kernel
theorem dX12_holds_149 : decode cX12_holds 149 = .ok (.ifCond .ne 13, 3) := by decide +kernel
theorem dX12_holds_152 : decode cX12_holds 152 = .ok (.aload_n 0, 1) := by decide +kernel
theorem dX12_holds_153 : decode cX12_holds 153 = .ok (.iload 5, 2) := by decide +kernel
theorem dX12_holds_155 : decode cX12_holds 155 = .ok (.iload_n 2, 1) := by decide +kernel
theorem dX12_holds_156 : decode cX12_holds 156 = .ok (.invokevirtual 421, 3) := by decide +kernel
theorem dX12_holds_159 : decode cX12_holds 159 = .ok (.ifCond .eq 7, 3) := by decide +kernel
theorem dX12_holds_162 : decode cX12_holds 162 = .ok (.iconst 1, 1) := by decide +kernel
theorem dX12_holds_163 : decode cX12_holds 163 = .ok (.goto 4, 3) := by decide +kernel
theorem dX12_holds_166 : decode cX12_holds 166 = .ok (.iconst 0, 1) := by decide +kernel
theorem dX12_holds_167 : decode cX12_holds 167 = .ok (.ireturn, 1) := by decide +kernel
set_option maxRecDepth 20000 in
theorem ggX12_holds_X12_holds : GoodIn wsX12_holds wsX12_holds := goodIn_r _ [0, 1, 2, 3, 4, 5, 6, 7, 8, 9, 10, 11, 12, 13, 14, 15, 16, 17, 18, 19, 20, 21, 22, 23, 24, 25, 26, 27, 28, 29, 30, 31, 32, 33, 34, 35, 36, 37, 38, 39, 40, 41, 42, 43, 44, 45, 46, 47, 48, 49, 50, 51, 52, 53, 54, 55, 56, 57, 58, 59, 60, 61, 62, 63, 64, 65, 66, 67, 68, 69, 70, 71, 72, 73, 74, 75, 76, 77, 78] rfl (by decide +kernel)
set_option maxRecDepth 20000 in
theorem gX12_holds_X12_holds : GoodIn wsX12_holds (wsV RX12 421 RX12 yX12_holds wsX12_holds) := goodIn_app (goodIn_of _ (by decide +kernel)) ggX12_holds_X12_holds
set_option maxHeartbeats 4000000 in
set_option maxRecDepth 100000 in
theorem s_X12_holds_2 (l : Launch) (D : va_G) (ca : Nat → ClassId) (sz : Nat) (h0 : Nat) (a1 : Int32) (a2 : Int32) (h0_thrown : Int32) (h0_tape : Nat) (h0_taped : Int32) (h0_size : Int32) (h0_limit : Int32) (h0_to : Int32) (h0_from : Int32) (h0_kind : Int32) (h0_number : Int32) (h0_sign : Int32) (h0_fault : Int32) (h0_place : Int32) (h0_word : Int64) (h0_told : Int32) (h0_now : Nat) (h0_read : Nat) (h0_kept : Nat) (h0_snaps : Nat) (h0_aside : Nat) (h0_name : Nat) (h0_readName : Nat) (h0_keptName : Nat) (h0_isKept : Nat) (h0_onces : Nat) (h0_snapMany : Int32) (h0_lowest : Int32) (h0_highest : Int32) (h0_agreed : Int32) (h0_jurors : Int32) (h0_panelled : Int32) (h0_inSets : Nat) (h0_surely : Int32) (h0_asked : Int32) (h0_frees : Nat) (h0_struck : Int32) (h0_beating : Int32) (h0_text : Nat) (h0_texts : Int32) (h0_seed : Int32) (h0_line : Nat) (h0_written : Nat) (h0_lineMany : Int32) (h0_hasWritten : Int32) (h0_node : Nat) (h0_nodes : Int32) (h0_onesMany : Int32) (h0_within : Int32) (h0_top : Int32) (F_h0_now : Nat → Int32) (i_a1 : rg 0 1 a1) (i_a2 : rg 0 9 a2) (i_h0_taped : rg 0 940 h0_taped) (i_h0_size : rg 0 940 h0_size) (i_h0_to : rg 0 940 h0_to) (i_h0_kind : rg 0 4 h0_kind) (i_h0_snapMany : rg 0 8 h0_snapMany) (i_h0_texts : rg 0 64 h0_texts) (i_h0_lineMany : rg 0 40 h0_lineMany) (i_h0_hasWritten : rg 0 1 h0_hasWritten) (i_h0_nodes : rg 0 60 h0_nodes) (i_h0_onesMany : rg 0 20 h0_onesMany) (s_h0_now_0 : sg 0 1 0 10 F_h0_now) (s_h0_now_1 : sg 1 2 0 4 F_h0_now) (s_h0_now_2 : sg 2 3 0 5 F_h0_now) (s_h0_now_3 : sg 35 36 0 1023 F_h0_now) (s_h0_now_4 : sg 44 49 0 3 F_h0_now) (s_h0_now_5 : sg 90 91 0 1023 F_h0_now) (s_h0_now_6 : sg 124 129 0 1023 F_h0_now) (s_h0_now_7 : sg 135 136 0 39 F_h0_now) (cu_tokw : tokb 136 F_h0_now) : oMet l yX12_holds wsX12_holds ({ frames := 6, cells := 0, slots := 0, locals := 144 } : Room) [.ref h0, .int a1, .int a2] D ca sz [(h0, .inr (11, [.int h0_thrown, .ref h0_tape, .int h0_taped, .int h0_size, .int h0_limit, .int h0_to, .int h0_from, .int h0_kind, .int h0_number, .int h0_sign, .int h0_fault, .int h0_place, .long h0_word, .int h0_told, .ref h0_now, .ref h0_read, .ref h0_kept, .ref h0_snaps, .ref h0_aside, .ref h0_name, .ref h0_readName, .ref h0_keptName, .ref h0_isKept, .ref h0_onces, .int h0_snapMany, .int h0_lowest, .int h0_highest, .int h0_agreed, .int h0_jurors, .int h0_panelled, .ref h0_inSets, .int h0_surely, .int h0_asked, .ref h0_frees, .int h0_struck, .int h0_beating, .ref h0_text, .int h0_texts, .int h0_seed, .ref h0_line, .ref h0_written, .int h0_lineMany, .int h0_hasWritten, .ref h0_node, .int h0_nodes, .int h0_onesMany, .int h0_within, .int h0_top])), (aI ca h0_now 376 F_h0_now)] (oQi D (fun (r : Int32) (u : Int32 × Int32) => ((r = 1)) ∨ ((r = 0))) (fun (u : Int32 × Int32) => [(h0, .inr (11, [.int h0_thrown, .ref h0_tape, .int h0_taped, .int h0_size, .int h0_limit, .int h0_to, .int h0_from, .int h0_kind, .int h0_number, .int h0_sign, .int h0_fault, .int h0_place, .long h0_word, .int h0_told, .ref h0_now, .ref h0_read, .ref h0_kept, .ref h0_snaps, .ref h0_aside, .ref h0_name, .ref h0_readName, .ref h0_keptName, .ref h0_isKept, .ref h0_onces, .int h0_snapMany, .int u.1, .int u.2, .int h0_agreed, .int h0_jurors, .int h0_panelled, .ref h0_inSets, .int h0_surely, .int h0_asked, .ref h0_frees, .int h0_struck, .int h0_beating, .ref h0_text, .int h0_texts, .int h0_seed, .ref h0_line, .ref h0_written, .int h0_lineMany, .int h0_hasWritten, .ref h0_node, .int h0_nodes, .int h0_onesMany, .int h0_within, .int h0_top])), (aI ca h0_now 376 F_h0_now)])) 0 0 := by
  refine oM (cc := cX12_holds) (maxL := 8) (ret := (some .boolean)) (by decide) rfl (Nat.le_of_ble_eq_true rfl) [(0, .ref h0), (1, .int a1), (2, .int a2)] rfl ?_
  intro p e s m below meth c A H locs ls hx hb hr hml hts hown hlocks hin hK hP hD hA hS hl
  have hown : s.vm.findClass RX12 = some m.cls := hown
  have k1 := hts (.fieldLink RX12 98 "LidCourtModel" "now" "[I") (by decide +kernel)
  have k2 : ∀ w ∈ wsX120, w ∈ wsX12_holds := fun _ h => List.mem_cons_of_mem _ (List.mem_append_right _ h)
  have J286_153 : ∀ (y286_0 : Int32) (y286_1 : Int32) (y286_2 : Int32), rg 136 140 y286_0 → ∀ (H : Heap) (locs : List Loc) (ls : Array Slot), va_P D vwCl [(h0, .inr (11, [.int h0_thrown, .ref h0_tape, .int h0_taped, .int h0_size, .int h0_limit, .int h0_to, .int h0_from, .int h0_kind, .int h0_number, .int h0_sign, .int h0_fault, .int h0_place, .long h0_word, .int h0_told, .ref h0_now, .ref h0_read, .ref h0_kept, .ref h0_snaps, .ref h0_aside, .ref h0_name, .ref h0_readName, .ref h0_keptName, .ref h0_isKept, .ref h0_onces, .int h0_snapMany, .int h0_lowest, .int h0_highest, .int h0_agreed, .int h0_jurors, .int h0_panelled, .ref h0_inSets, .int h0_surely, .int h0_asked, .ref h0_frees, .int h0_struck, .int h0_beating, .ref h0_text, .int h0_texts, .int h0_seed, .ref h0_line, .ref h0_written, .int h0_lineMany, .int h0_hasWritten, .ref h0_node, .int h0_nodes, .int h0_onesMany, .int h0_within, .int h0_top])), (aI ca h0_now 376 F_h0_now)] H → va_D A [(h0, .inr (11, [.int h0_thrown, .ref h0_tape, .int h0_taped, .int h0_size, .int h0_limit, .int h0_to, .int h0_from, .int h0_kind, .int h0_number, .int h0_sign, .int h0_fault, .int h0_place, .long h0_word, .int h0_told, .ref h0_now, .ref h0_read, .ref h0_kept, .ref h0_snaps, .ref h0_aside, .ref h0_name, .ref h0_readName, .ref h0_keptName, .ref h0_isKept, .ref h0_onces, .int h0_snapMany, .int h0_lowest, .int h0_highest, .int h0_agreed, .int h0_jurors, .int h0_panelled, .ref h0_inSets, .int h0_surely, .int h0_asked, .ref h0_frees, .int h0_struck, .int h0_beating, .ref h0_text, .int h0_texts, .int h0_seed, .ref h0_line, .ref h0_written, .int h0_lineMany, .int h0_hasWritten, .ref h0_node, .int h0_nodes, .int h0_onesMany, .int h0_within, .int h0_top])), (aI ca h0_now 376 F_h0_now)] → va_S A s.heap H locs → lv_has ls 8 [(0, .ref h0), (3, .int y286_0), (5, .int y286_1)] → W p l e ({ frames := 6, cells := 0, slots := 0, locals := 144 } : Room) s m ([.ref h0, .int a1, .int a2] : List Value).toArray below meth c H locs 0 0 (MQ below ((oQi D (fun (r : Int32) (u : Int32 × Int32) => ((r = 1)) ∨ ((r = 0))) (fun (u : Int32 × Int32) => [(h0, .inr (11, [.int h0_thrown, .ref h0_tape, .int h0_taped, .int h0_size, .int h0_limit, .int h0_to, .int h0_from, .int h0_kind, .int h0_number, .int h0_sign, .int h0_fault, .int h0_place, .long h0_word, .int h0_told, .ref h0_now, .ref h0_read, .ref h0_kept, .ref h0_snaps, .ref h0_aside, .ref h0_name, .ref h0_readName, .ref h0_keptName, .ref h0_isKept, .ref h0_onces, .int h0_snapMany, .int u.1, .int u.2, .int h0_agreed, .int h0_jurors, .int h0_panelled, .ref h0_inSets, .int h0_surely, .int h0_asked, .ref h0_frees, .int h0_struck, .int h0_beating, .ref h0_text, .int h0_texts, .int h0_seed, .ref h0_line, .ref h0_written, .int h0_lineMany, .int h0_hasWritten, .ref h0_node, .int h0_nodes, .int h0_onesMany, .int h0_within, .int h0_top])), (aI ca h0_now 376 F_h0_now)])) A) ([.ref h0, .int a1, .int a2] : List Value).toArray s 0 0 A) (F0 m 286 ls [.int y286_2]) := by
    intro y286_0 y286_1 y286_2 hy286_0 H locs ls hP hD hS hl
    refine lv_istore (lv' := [(7, .int y286_2), (0, .ref h0), (3, .int y286_0), (5, .int y286_1)]) hx hb dX12_holds_286 hl (by decide) rfl (fun ls hl => ?_)
    refine lv_aload_n hx hb dX12_holds_288 rfl (lv_at hl 1 rfl) ?_
    refine va_get (D := D) (ci := 11) (v := .ref h0_now) (C := RX12) (T := TX12) (N := 48) hx hb hts k2 hown hK.1 hP 0 rfl rfl 14 (by decide) k1 (fun _ h9 => h9) rfl dX12_holds_289 ?_
    refine lv_iload_n hx hb dX12_holds_292 rfl (lv_at hl 2 rfl) ?_
    refine lv_iconst (v := 3) hx hb dX12_holds_293 (by decide) ?_
    refine lv_iadd hx hb dX12_holds_294 ?_
    refine lv_topi (fun x_154 ex_154 => ?_)
    have h_155 : rg 139 143 x_154 := by rw [ex_154]; exact rg_add hy286_0 (⟨by decide, by decide⟩ : rg 3 3 (3 : Int32)) (by decide) (by decide) (by decide) (by decide)
    have l_156 : lq x_154.toInt (y286_0.toInt + 3) := lqm (by rw [ex_154]; have q := tadd hy286_0 (⟨by decide, by decide⟩ : rg 3 3 (3 : Int32)) (by decide) (by decide); have r1 := lqe (lqm (by decide) : lq (3 : Int32).toInt 3); omega)
    refine va_iald hx hb hK.1 hP 1 0 rfl rfl (rg_in h_155 (by decide) (by decide)) dX12_holds_295 ?_
    refine lv_topi (fun x_157 ex_157 => ?_)
    refine lv_bipush (v := 60) hx hb dX12_holds_296 (by decide) ?_
    refine lv_icmp_ne (tgt := 316) hx hb dX12_holds_298 (by decide) (fun c_158 => ?_) (fun c_158 => ?_)
    · skip
      refine lv_aload_n hx hb dX12_holds_316 rfl (lv_at hl 1 rfl) ?_
      refine va_get (D := D) (ci := 11) (v := .ref h0_now) (C := RX12) (T := TX12) (N := 48) hx hb hts k2 hown hK.1 hP 0 rfl rfl 14 (by decide) k1 (fun _ h9 => h9) rfl dX12_holds_317 ?_
      refine lv_iload_n hx hb dX12_holds_320 rfl (lv_at hl 2 rfl) ?_
      refine lv_iconst (v := 3) hx hb dX12_holds_321 (by decide) ?_
      refine lv_iadd hx hb dX12_holds_322 ?_
      refine lv_topi (fun x_159 ex_159 => ?_)
      have h_160 : rg 139 143 x_159 := by rw [ex_159]; exact rg_add hy286_0 (⟨by decide, by decide⟩ : rg 3 3 (3 : Int32)) (by decide) (by decide) (by decide) (by decide)
      have l_161 : lq x_159.toInt (y286_0.toInt + 3) := lqm (by rw [ex_159]; have q := tadd hy286_0 (⟨by decide, by decide⟩ : rg 3 3 (3 : Int32)) (by decide) (by decide); have r1 := lqe (lqm (by decide) : lq (3 : Int32).toInt 3); omega)
      refine va_iald hx hb hK.1 hP 1 0 rfl rfl (rg_in h_160 (by decide) (by decide)) dX12_holds_323 ?_
      refine lv_topi (fun x_162 ex_162 => ?_)
      refine lv_bipush (v := 61) hx hb dX12_holds_324 (by decide) ?_
      refine lv_icmp_ne (tgt := 344) hx hb dX12_holds_326 (by decide) (fun c_163 => ?_) (fun c_163 => ?_)
      · skip
        refine lv_iload hx hb dX12_holds_344 (lv_at hl 0 rfl) ?_
        refine lv_iload hx hb dX12_holds_346 (lv_at hl 3 rfl) ?_
        refine lv_icmp_le (tgt := 355) hx hb dX12_holds_348 (by decide) (fun c_164 => ?_) (fun c_164 => ?_)
        · skip
          have o_165 : rl 0 y286_2 y286_1 := rl_le c_164
          refine lv_iconst (v := 0) hx hb dX12_holds_355 (by decide) ?_
          exact oE_i hx hb hr (by decide) hlocks hP hD hS (h0_lowest, h0_highest) [0, 1] rfl (by decide) (Or.inr (rfl)) (Nat.le_of_ble_eq_true rfl) (Nat.le_of_ble_eq_true rfl) dX12_holds_356
        · skip
          have o_166 : rl 1 y286_1 y286_2 := rl_nle c_164
          have h_167 : rg (-2147483648) 2147483646 y286_1 := rl_x o_166 (rga y286_1) (rga y286_2) (by decide) (by decide)
          have h_168 : rg (-2147483647) 2147483647 y286_2 := rl_y o_166 (rga y286_1) (rga y286_2) (by decide) (by decide)
          refine lv_iconst (v := 1) hx hb dX12_holds_351 (by decide) ?_
          refine lv_goto (tgt := 356) hx hb dX12_holds_352 (by decide) ?_
          exact oE_i hx hb hr (by decide) hlocks hP hD hS (h0_lowest, h0_highest) [0, 1] rfl (by decide) (Or.inl rfl) (Nat.le_of_ble_eq_true rfl) (Nat.le_of_ble_eq_true rfl) dX12_holds_356
      · skip
        have o_169 : rl 0 x_162 61 := rl_eq c_163
        have h_170 : rg (-2147483648) 61 x_162 := rl_x o_169 (rga x_162) (⟨by decide, by decide⟩ : rg 61 61 (61 : Int32)) (by decide) (by decide)
        have o_171 : rl 0 61 x_162 := rl_eq c_163.symm
        have h_172 : rg 61 61 x_162 := rl_y o_171 (⟨by decide, by decide⟩ : rg 61 61 (61 : Int32)) h_170 (by decide) (by decide)
        refine lv_iload hx hb dX12_holds_329 (lv_at hl 0 rfl) ?_
        refine lv_iload hx hb dX12_holds_331 (lv_at hl 3 rfl) ?_
        refine lv_icmp_ne (tgt := 340) hx hb dX12_holds_333 (by decide) (fun c_173 => ?_) (fun c_173 => ?_)
        · skip
          refine lv_iconst (v := 0) hx hb dX12_holds_340 (by decide) ?_
          refine lv_goto (tgt := 356) hx hb dX12_holds_341 (by decide) ?_
          exact oE_i hx hb hr (by decide) hlocks hP hD hS (h0_lowest, h0_highest) [0, 1] rfl (by decide) (Or.inr (rfl)) (Nat.le_of_ble_eq_true rfl) (Nat.le_of_ble_eq_true rfl) dX12_holds_356
        · skip
          have o_174 : rl 0 y286_2 y286_1 := rl_eq c_173
          have o_175 : rl 0 y286_1 y286_2 := rl_eq c_173.symm
          refine lv_iconst (v := 1) hx hb dX12_holds_336 (by decide) ?_
          refine lv_goto (tgt := 356) hx hb dX12_holds_337 (by decide) ?_
          exact oE_i hx hb hr (by decide) hlocks hP hD hS (h0_lowest, h0_highest) [0, 1] rfl (by decide) (Or.inl rfl) (Nat.le_of_ble_eq_true rfl) (Nat.le_of_ble_eq_true rfl) dX12_holds_356
    · skip
      have o_176 : rl 0 x_157 60 := rl_eq c_158
      have h_177 : rg (-2147483648) 60 x_157 := rl_x o_176 (rga x_157) (⟨by decide, by decide⟩ : rg 60 60 (60 : Int32)) (by decide) (by decide)
      have o_178 : rl 0 60 x_157 := rl_eq c_158.symm
      have h_179 : rg 60 60 x_157 := rl_y o_178 (⟨by decide, by decide⟩ : rg 60 60 (60 : Int32)) h_177 (by decide) (by decide)
      refine lv_iload hx hb dX12_holds_301 (lv_at hl 0 rfl) ?_
      refine lv_iload hx hb dX12_holds_303 (lv_at hl 3 rfl) ?_
      refine lv_icmp_ge (tgt := 312) hx hb dX12_holds_305 (by decide) (fun c_180 => ?_) (fun c_180 => ?_)
      · skip
        have o_181 : rl 0 y286_1 y286_2 := rl_le c_180
        refine lv_iconst (v := 0) hx hb dX12_holds_312 (by decide) ?_
        refine lv_goto (tgt := 356) hx hb dX12_holds_313 (by decide) ?_
        exact oE_i hx hb hr (by decide) hlocks hP hD hS (h0_lowest, h0_highest) [0, 1] rfl (by decide) (Or.inr (rfl)) (Nat.le_of_ble_eq_true rfl) (Nat.le_of_ble_eq_true rfl) dX12_holds_356
      · skip
        have o_182 : rl 1 y286_2 y286_1 := rl_nle c_180
        have h_183 : rg (-2147483648) 2147483646 y286_2 := rl_x o_182 (rga y286_2) (rga y286_1) (by decide) (by decide)
        have h_184 : rg (-2147483647) 2147483647 y286_1 := rl_y o_182 (rga y286_2) (rga y286_1) (by decide) (by decide)
        refine lv_iconst (v := 1) hx hb dX12_holds_308 (by decide) ?_
        refine lv_goto (tgt := 356) hx hb dX12_holds_309 (by decide) ?_
        exact oE_i hx hb hr (by decide) hlocks hP hD hS (h0_lowest, h0_highest) [0, 1] rfl (by decide) (Or.inl rfl) (Nat.le_of_ble_eq_true rfl) (Nat.le_of_ble_eq_true rfl) dX12_holds_356
  refine lv_sipush (v := 136) hx hb dX12_holds_0 (by decide) ?_
  refine lv_iconst (v := 4) hx hb dX12_holds_3 (by decide) ?_
  refine lv_iload_n hx hb dX12_holds_4 rfl (lv_at hl 1 rfl) ?_
  refine lv_imul hx hb dX12_holds_5 ?_
  refine lv_topi (fun x_185 ex_185 => ?_)
  have h_186 : rg 0 4 x_185 := by rw [ex_185]; exact rg_mul' (k := 4) i_a1 (by decide) (by decide) (by decide) (by decide) (by decide) (by decide)
  have l_187 : lq x_185.toInt (4 * a1.toInt) := lqm (by rw [ex_185]; have q := tmul' (k := 4) (y := 4) i_a1 (by decide) (by decide) (by decide) (by decide); omega)
  refine lv_iadd hx hb dX12_holds_6 ?_
  refine lv_topi (fun x_188 ex_188 => ?_)
  have h_189 : rg 136 140 x_188 := by rw [ex_188]; exact rg_add (⟨by decide, by decide⟩ : rg 136 136 (136 : Int32)) h_186 (by decide) (by decide) (by decide) (by decide)
  have l_190 : lq x_188.toInt (4 * a1.toInt + 136) := lqm (by rw [ex_188]; have q := tadd (⟨by decide, by decide⟩ : rg 136 136 (136 : Int32)) h_186 (by decide) (by decide); have r0 := lqe (lqm (by decide) : lq (136 : Int32).toInt 136); have r1 := lqe l_187; omega)
  refine lv_istore_n (lv' := [(3, .int x_188), (0, .ref h0), (1, .int a1), (2, .int a2)]) hx hb dX12_holds_7 rfl hl (by decide) rfl (fun ls hl => ?_)
  refine lv_aload_n hx hb dX12_holds_8 rfl (lv_at hl 1 rfl) ?_
  refine va_get (D := D) (ci := 11) (v := .ref h0_now) (C := RX12) (T := TX12) (N := 48) hx hb hts k2 hown hK.1 hP 0 rfl rfl 14 (by decide) k1 (fun _ h9 => h9) rfl dX12_holds_9 ?_
  refine lv_iload_n hx hb dX12_holds_12 rfl (lv_at hl 0 rfl) ?_
  refine lv_iconst (v := 1) hx hb dX12_holds_13 (by decide) ?_
  refine lv_iadd hx hb dX12_holds_14 ?_
  refine lv_topi (fun x_191 ex_191 => ?_)
  have h_192 : rg 137 141 x_191 := by rw [ex_191]; exact rg_add h_189 (⟨by decide, by decide⟩ : rg 1 1 (1 : Int32)) (by decide) (by decide) (by decide) (by decide)
  have l_193 : lq x_191.toInt (4 * a1.toInt + 137) := lqm (by rw [ex_191]; have q := tadd h_189 (⟨by decide, by decide⟩ : rg 1 1 (1 : Int32)) (by decide) (by decide); have r0 := lqe l_190; have r1 := lqe (lqm (by decide) : lq (1 : Int32).toInt 1); omega)
  refine va_iald hx hb hK.1 hP 1 0 rfl rfl (rg_in h_192 (by decide) (by decide)) dX12_holds_15 ?_
  refine lv_topi (fun x_194 ex_194 => ?_)
  refine lv_istore (lv' := [(4, .int x_194), (3, .int x_188), (0, .ref h0), (1, .int a1), (2, .int a2)]) hx hb dX12_holds_16 hl (by decide) rfl (fun ls hl => ?_)
  refine lv_aload_n hx hb dX12_holds_18 rfl (lv_at hl 2 rfl) ?_
  refine va_get (D := D) (ci := 11) (v := .ref h0_now) (C := RX12) (T := TX12) (N := 48) hx hb hts k2 hown hK.1 hP 0 rfl rfl 14 (by decide) k1 (fun _ h9 => h9) rfl dX12_holds_19 ?_
  refine lv_iload_n hx hb dX12_holds_22 rfl (lv_at hl 1 rfl) ?_
  refine lv_iconst (v := 2) hx hb dX12_holds_23 (by decide) ?_
  refine lv_iadd hx hb dX12_holds_24 ?_
  refine lv_topi (fun x_195 ex_195 => ?_)
  have h_196 : rg 138 142 x_195 := by rw [ex_195]; exact rg_add h_189 (⟨by decide, by decide⟩ : rg 2 2 (2 : Int32)) (by decide) (by decide) (by decide) (by decide)
  have l_197 : lq x_195.toInt (4 * a1.toInt + 138) := lqm (by rw [ex_195]; have q := tadd h_189 (⟨by decide, by decide⟩ : rg 2 2 (2 : Int32)) (by decide) (by decide); have r0 := lqe l_190; have r1 := lqe (lqm (by decide) : lq (2 : Int32).toInt 2); omega)
  refine va_iald hx hb hK.1 hP 1 0 rfl rfl (rg_in h_196 (by decide) (by decide)) dX12_holds_25 ?_
  refine lv_topi (fun x_198 ex_198 => ?_)
  refine lv_istore (lv' := [(5, .int x_198), (4, .int x_194), (3, .int x_188), (0, .ref h0), (1, .int a1), (2, .int a2)]) hx hb dX12_holds_26 hl (by decide) rfl (fun ls hl => ?_)
  refine lv_aload_n hx hb dX12_holds_28 rfl (lv_at hl 3 rfl) ?_
  refine va_get (D := D) (ci := 11) (v := .ref h0_now) (C := RX12) (T := TX12) (N := 48) hx hb hts k2 hown hK.1 hP 0 rfl rfl 14 (by decide) k1 (fun _ h9 => h9) rfl dX12_holds_29 ?_
  refine lv_iload_n hx hb dX12_holds_32 rfl (lv_at hl 2 rfl) ?_
  refine va_iald hx hb hK.1 hP 1 0 rfl rfl (rg_in h_189 (by decide) (by decide)) dX12_holds_33 ?_
  refine lv_topi (fun x_199 ex_199 => ?_)
  have ht := tokb_at cu_tokw i_a1 (by decide) (by decide) ex_199 ex_194 ex_198 l_190 l_193 l_197
  by_cases c_200 : x_199 = 1
  · skip
    refine oti 1 c_200 ?_
    refine lv_lookup (off := 66) (tgt := 100) hx hb dX12_holds_34 (by decide) (by decide) (by decide) ?_
    have h_201 : rg 0 0 x_194 := by have q := rg_cl i_a1 (by decide); have q1 := i_a1.2; have q2 := ht.1 c_200; exact ⟨by omega, by omega⟩
    refine lv_aload_n hx hb dX12_holds_100 rfl (lv_at hl 3 rfl) ?_
    refine lv_iload hx hb dX12_holds_101 (lv_at hl 1 rfl) ?_
    refine lv_iload_n hx hb dX12_holds_103 rfl (lv_at hl 5 rfl) ?_
    refine oC_i (Wc := [(h0, .inr (11, [.int h0_thrown, .ref h0_tape, .int h0_taped, .int h0_size, .int h0_limit, .int h0_to, .int h0_from, .int h0_kind, .int h0_number, .int h0_sign, .int h0_fault, .int h0_place, .long h0_word, .int h0_told, .ref h0_now, .ref h0_read, .ref h0_kept, .ref h0_snaps, .ref h0_aside, .ref h0_name, .ref h0_readName, .ref h0_keptName, .ref h0_isKept, .ref h0_onces, .int h0_snapMany, .int h0_lowest, .int h0_highest, .int h0_agreed, .int h0_jurors, .int h0_panelled, .ref h0_inSets, .int h0_surely, .int h0_asked, .ref h0_frees, .int h0_struck, .int h0_beating, .ref h0_text, .int h0_texts, .int h0_seed, .ref h0_line, .ref h0_written, .int h0_lineMany, .int h0_hasWritten, .ref h0_node, .int h0_nodes, .int h0_onesMany, .int h0_within, .int h0_top])), (aI ca h0_now 376 F_h0_now)]) (Wr := []) (va_runV (As := [.int x_194, .int a2]) (rest := []) ⟨hx, hb, hml, hown, hts⟩ (s_X12_holds_1 l D ca H.size h0 x_194 a2 h0_thrown h0_tape h0_taped h0_size h0_limit h0_to h0_from h0_kind h0_number h0_sign h0_fault h0_place h0_word h0_told h0_now h0_read h0_kept h0_snaps h0_aside h0_name h0_readName h0_keptName h0_isKept h0_onces h0_snapMany h0_lowest h0_highest h0_agreed h0_jurors h0_panelled h0_inSets h0_surely h0_asked h0_frees h0_struck h0_beating h0_text h0_texts h0_seed h0_line h0_written h0_lineMany h0_hasWritten h0_node h0_nodes h0_onesMany h0_within h0_top F_h0_now h_201 i_a2 i_h0_taped i_h0_size i_h0_to i_h0_kind i_h0_snapMany i_h0_texts i_h0_lineMany i_h0_hasWritten i_h0_nodes i_h0_onesMany s_h0_now_0 s_h0_now_1 s_h0_now_2 s_h0_now_3 s_h0_now_4 s_h0_now_5 s_h0_now_6 s_h0_now_7 cu_tokw) (cwV 2 hts gX12_holds_X12_holds rfl rfl rfl (by decide +kernel) ⟨Nat.le_of_ble_eq_true rfl, Nat.le_of_ble_eq_true rfl⟩) (oPV (C := RX12) hK hP hD [0, 1] rfl (by decide) 0 rfl (ci := 11) rfl rfl) rfl rfl hl.1 rfl (lv_room (Nat.le_of_ble_eq_true rfl)) dX12_holds_104 ⟨Nat.le_of_ble_eq_true rfl, Nat.le_of_ble_eq_true rfl⟩) hP hD hS hA [0, 1] [] rfl rfl (by decide) (by decide) (fun r_202 u H locs w_203 hP hD hS => ?_)
    obtain ⟨u_204, u_205⟩ := u
    have hP : va_P D vwCl [(h0, .inr (11, [.int h0_thrown, .ref h0_tape, .int h0_taped, .int h0_size, .int h0_limit, .int h0_to, .int h0_from, .int h0_kind, .int h0_number, .int h0_sign, .int h0_fault, .int h0_place, .long h0_word, .int h0_told, .ref h0_now, .ref h0_read, .ref h0_kept, .ref h0_snaps, .ref h0_aside, .ref h0_name, .ref h0_readName, .ref h0_keptName, .ref h0_isKept, .ref h0_onces, .int h0_snapMany, .int u_204, .int u_205, .int h0_agreed, .int h0_jurors, .int h0_panelled, .ref h0_inSets, .int h0_surely, .int h0_asked, .ref h0_frees, .int h0_struck, .int h0_beating, .ref h0_text, .int h0_texts, .int h0_seed, .ref h0_line, .ref h0_written, .int h0_lineMany, .int h0_hasWritten, .ref h0_node, .int h0_nodes, .int h0_onesMany, .int h0_within, .int h0_top])), (aI ca h0_now 376 F_h0_now)] H := hP
    have hD : va_D A [(h0, .inr (11, [.int h0_thrown, .ref h0_tape, .int h0_taped, .int h0_size, .int h0_limit, .int h0_to, .int h0_from, .int h0_kind, .int h0_number, .int h0_sign, .int h0_fault, .int h0_place, .long h0_word, .int h0_told, .ref h0_now, .ref h0_read, .ref h0_kept, .ref h0_snaps, .ref h0_aside, .ref h0_name, .ref h0_readName, .ref h0_keptName, .ref h0_isKept, .ref h0_onces, .int h0_snapMany, .int u_204, .int u_205, .int h0_agreed, .int h0_jurors, .int h0_panelled, .ref h0_inSets, .int h0_surely, .int h0_asked, .ref h0_frees, .int h0_struck, .int h0_beating, .ref h0_text, .int h0_texts, .int h0_seed, .ref h0_line, .ref h0_written, .int h0_lineMany, .int h0_hasWritten, .ref h0_node, .int h0_nodes, .int h0_onesMany, .int h0_within, .int h0_top])), (aI ca h0_now 376 F_h0_now)] := hD
    try dsimp only at w_203
    rcases w_203 with h_206 | h_207
    · skip
      subst h_206
      refine lv_if_ne (tgt := 114) hx hb dX12_holds_107 (by decide) (fun c => absurd (by decide) c) (fun _ => ?_)
      refine lv_iconst (v := 1) hx hb dX12_holds_110 (by decide) ?_
      refine lv_goto (tgt := 115) hx hb dX12_holds_111 (by decide) ?_
      exact oE_i hx hb hr (by decide) hlocks hP hD hS (u_204, u_205) [0, 1] rfl (by decide) (Or.inl rfl) (Nat.le_of_ble_eq_true rfl) (Nat.le_of_ble_eq_true rfl) dX12_holds_115
    · skip
      subst h_207
      refine lv_if_ne (tgt := 114) hx hb dX12_holds_107 (by decide) (fun _ => ?_) (fun c => absurd c (by decide))
      refine lv_iconst (v := 0) hx hb dX12_holds_114 (by decide) ?_
      exact oE_i hx hb hr (by decide) hlocks hP hD hS (u_204, u_205) [0, 1] rfl (by decide) (Or.inr (rfl)) (Nat.le_of_ble_eq_true rfl) (Nat.le_of_ble_eq_true rfl) dX12_holds_115
  by_cases c_208 : x_199 = 2
  · skip
    refine oti 2 c_208 ?_
    refine lv_lookup (off := 82) (tgt := 116) hx hb dX12_holds_34 (by decide) (by decide) (by decide) ?_
    have h_209 : rg 0 0 x_194 := by have q := rg_cl i_a1 (by decide); have q1 := i_a1.2; have q2 := (ht.2.1 (Or.inl c_208)).1; exact ⟨by omega, by omega⟩
    have h_210 : rg 0 0 x_198 := by have q := rg_cl i_a1 (by decide); have q1 := i_a1.2; have q2 := (ht.2.1 (Or.inl c_208)).2; exact ⟨by omega, by omega⟩
    refine lv_aload_n hx hb dX12_holds_116 rfl (lv_at hl 3 rfl) ?_
    refine lv_iload hx hb dX12_holds_117 (lv_at hl 1 rfl) ?_
    refine lv_iload_n hx hb dX12_holds_119 rfl (lv_at hl 5 rfl) ?_
    refine oC_i (Wc := [(h0, .inr (11, [.int h0_thrown, .ref h0_tape, .int h0_taped, .int h0_size, .int h0_limit, .int h0_to, .int h0_from, .int h0_kind, .int h0_number, .int h0_sign, .int h0_fault, .int h0_place, .long h0_word, .int h0_told, .ref h0_now, .ref h0_read, .ref h0_kept, .ref h0_snaps, .ref h0_aside, .ref h0_name, .ref h0_readName, .ref h0_keptName, .ref h0_isKept, .ref h0_onces, .int h0_snapMany, .int h0_lowest, .int h0_highest, .int h0_agreed, .int h0_jurors, .int h0_panelled, .ref h0_inSets, .int h0_surely, .int h0_asked, .ref h0_frees, .int h0_struck, .int h0_beating, .ref h0_text, .int h0_texts, .int h0_seed, .ref h0_line, .ref h0_written, .int h0_lineMany, .int h0_hasWritten, .ref h0_node, .int h0_nodes, .int h0_onesMany, .int h0_within, .int h0_top])), (aI ca h0_now 376 F_h0_now)]) (Wr := []) (va_runV (As := [.int x_194, .int a2]) (rest := []) ⟨hx, hb, hml, hown, hts⟩ (s_X12_holds_1 l D ca H.size h0 x_194 a2 h0_thrown h0_tape h0_taped h0_size h0_limit h0_to h0_from h0_kind h0_number h0_sign h0_fault h0_place h0_word h0_told h0_now h0_read h0_kept h0_snaps h0_aside h0_name h0_readName h0_keptName h0_isKept h0_onces h0_snapMany h0_lowest h0_highest h0_agreed h0_jurors h0_panelled h0_inSets h0_surely h0_asked h0_frees h0_struck h0_beating h0_text h0_texts h0_seed h0_line h0_written h0_lineMany h0_hasWritten h0_node h0_nodes h0_onesMany h0_within h0_top F_h0_now h_209 i_a2 i_h0_taped i_h0_size i_h0_to i_h0_kind i_h0_snapMany i_h0_texts i_h0_lineMany i_h0_hasWritten i_h0_nodes i_h0_onesMany s_h0_now_0 s_h0_now_1 s_h0_now_2 s_h0_now_3 s_h0_now_4 s_h0_now_5 s_h0_now_6 s_h0_now_7 cu_tokw) (cwV 2 hts gX12_holds_X12_holds rfl rfl rfl (by decide +kernel) ⟨Nat.le_of_ble_eq_true rfl, Nat.le_of_ble_eq_true rfl⟩) (oPV (C := RX12) hK hP hD [0, 1] rfl (by decide) 0 rfl (ci := 11) rfl rfl) rfl rfl hl.1 rfl (lv_room (Nat.le_of_ble_eq_true rfl)) dX12_holds_120 ⟨Nat.le_of_ble_eq_true rfl, Nat.le_of_ble_eq_true rfl⟩) hP hD hS hA [0, 1] [] rfl rfl (by decide) (by decide) (fun r_211 u H locs w_212 hP hD hS => ?_)
    obtain ⟨u_213, u_214⟩ := u
    have hP : va_P D vwCl [(h0, .inr (11, [.int h0_thrown, .ref h0_tape, .int h0_taped, .int h0_size, .int h0_limit, .int h0_to, .int h0_from, .int h0_kind, .int h0_number, .int h0_sign, .int h0_fault, .int h0_place, .long h0_word, .int h0_told, .ref h0_now, .ref h0_read, .ref h0_kept, .ref h0_snaps, .ref h0_aside, .ref h0_name, .ref h0_readName, .ref h0_keptName, .ref h0_isKept, .ref h0_onces, .int h0_snapMany, .int u_213, .int u_214, .int h0_agreed, .int h0_jurors, .int h0_panelled, .ref h0_inSets, .int h0_surely, .int h0_asked, .ref h0_frees, .int h0_struck, .int h0_beating, .ref h0_text, .int h0_texts, .int h0_seed, .ref h0_line, .ref h0_written, .int h0_lineMany, .int h0_hasWritten, .ref h0_node, .int h0_nodes, .int h0_onesMany, .int h0_within, .int h0_top])), (aI ca h0_now 376 F_h0_now)] H := hP
    have hD : va_D A [(h0, .inr (11, [.int h0_thrown, .ref h0_tape, .int h0_taped, .int h0_size, .int h0_limit, .int h0_to, .int h0_from, .int h0_kind, .int h0_number, .int h0_sign, .int h0_fault, .int h0_place, .long h0_word, .int h0_told, .ref h0_now, .ref h0_read, .ref h0_kept, .ref h0_snaps, .ref h0_aside, .ref h0_name, .ref h0_readName, .ref h0_keptName, .ref h0_isKept, .ref h0_onces, .int h0_snapMany, .int u_213, .int u_214, .int h0_agreed, .int h0_jurors, .int h0_panelled, .ref h0_inSets, .int h0_surely, .int h0_asked, .ref h0_frees, .int h0_struck, .int h0_beating, .ref h0_text, .int h0_texts, .int h0_seed, .ref h0_line, .ref h0_written, .int h0_lineMany, .int h0_hasWritten, .ref h0_node, .int h0_nodes, .int h0_onesMany, .int h0_within, .int h0_top])), (aI ca h0_now 376 F_h0_now)] := hD
    try dsimp only at w_212
    rcases w_212 with h_215 | h_216
    · skip
      subst h_215
      refine lv_if_eq (tgt := 140) hx hb dX12_holds_123 (by decide) (fun _ => ?_) (fun c => absurd (by decide) c)
      refine lv_iconst (v := 0) hx hb dX12_holds_140 (by decide) ?_
      exact oE_i hx hb hr (by decide) hlocks hP hD hS (u_213, u_214) [0, 1] rfl (by decide) (Or.inr (rfl)) (Nat.le_of_ble_eq_true rfl) (Nat.le_of_ble_eq_true rfl) dX12_holds_141
    · skip
      subst h_216
      refine lv_if_eq (tgt := 140) hx hb dX12_holds_123 (by decide) (fun c => absurd c (by decide)) (fun _ => ?_)
      refine lv_aload_n hx hb dX12_holds_126 rfl (lv_at hl 3 rfl) ?_
      refine lv_iload hx hb dX12_holds_127 (lv_at hl 0 rfl) ?_
      refine lv_iload_n hx hb dX12_holds_129 rfl (lv_at hl 5 rfl) ?_
      refine oC_i (Wc := [(h0, .inr (11, [.int h0_thrown, .ref h0_tape, .int h0_taped, .int h0_size, .int h0_limit, .int h0_to, .int h0_from, .int h0_kind, .int h0_number, .int h0_sign, .int h0_fault, .int h0_place, .long h0_word, .int h0_told, .ref h0_now, .ref h0_read, .ref h0_kept, .ref h0_snaps, .ref h0_aside, .ref h0_name, .ref h0_readName, .ref h0_keptName, .ref h0_isKept, .ref h0_onces, .int h0_snapMany, .int u_213, .int u_214, .int h0_agreed, .int h0_jurors, .int h0_panelled, .ref h0_inSets, .int h0_surely, .int h0_asked, .ref h0_frees, .int h0_struck, .int h0_beating, .ref h0_text, .int h0_texts, .int h0_seed, .ref h0_line, .ref h0_written, .int h0_lineMany, .int h0_hasWritten, .ref h0_node, .int h0_nodes, .int h0_onesMany, .int h0_within, .int h0_top])), (aI ca h0_now 376 F_h0_now)]) (Wr := []) (va_runV (As := [.int x_198, .int a2]) (rest := []) ⟨hx, hb, hml, hown, hts⟩ (s_X12_holds_1 l D ca H.size h0 x_198 a2 h0_thrown h0_tape h0_taped h0_size h0_limit h0_to h0_from h0_kind h0_number h0_sign h0_fault h0_place h0_word h0_told h0_now h0_read h0_kept h0_snaps h0_aside h0_name h0_readName h0_keptName h0_isKept h0_onces h0_snapMany u_213 u_214 h0_agreed h0_jurors h0_panelled h0_inSets h0_surely h0_asked h0_frees h0_struck h0_beating h0_text h0_texts h0_seed h0_line h0_written h0_lineMany h0_hasWritten h0_node h0_nodes h0_onesMany h0_within h0_top F_h0_now h_210 i_a2 i_h0_taped i_h0_size i_h0_to i_h0_kind i_h0_snapMany i_h0_texts i_h0_lineMany i_h0_hasWritten i_h0_nodes i_h0_onesMany s_h0_now_0 s_h0_now_1 s_h0_now_2 s_h0_now_3 s_h0_now_4 s_h0_now_5 s_h0_now_6 s_h0_now_7 cu_tokw) (cwV 2 hts gX12_holds_X12_holds rfl rfl rfl (by decide +kernel) ⟨Nat.le_of_ble_eq_true rfl, Nat.le_of_ble_eq_true rfl⟩) (oPV (C := RX12) hK hP hD [0, 1] rfl (by decide) 0 rfl (ci := 11) rfl rfl) rfl rfl hl.1 rfl (lv_room (Nat.le_of_ble_eq_true rfl)) dX12_holds_130 ⟨Nat.le_of_ble_eq_true rfl, Nat.le_of_ble_eq_true rfl⟩) hP hD hS hA [0, 1] [] rfl rfl (by decide) (by decide) (fun r_217 u H locs w_218 hP hD hS => ?_)
      obtain ⟨u_219, u_220⟩ := u
      have hP : va_P D vwCl [(h0, .inr (11, [.int h0_thrown, .ref h0_tape, .int h0_taped, .int h0_size, .int h0_limit, .int h0_to, .int h0_from, .int h0_kind, .int h0_number, .int h0_sign, .int h0_fault, .int h0_place, .long h0_word, .int h0_told, .ref h0_now, .ref h0_read, .ref h0_kept, .ref h0_snaps, .ref h0_aside, .ref h0_name, .ref h0_readName, .ref h0_keptName, .ref h0_isKept, .ref h0_onces, .int h0_snapMany, .int u_219, .int u_220, .int h0_agreed, .int h0_jurors, .int h0_panelled, .ref h0_inSets, .int h0_surely, .int h0_asked, .ref h0_frees, .int h0_struck, .int h0_beating, .ref h0_text, .int h0_texts, .int h0_seed, .ref h0_line, .ref h0_written, .int h0_lineMany, .int h0_hasWritten, .ref h0_node, .int h0_nodes, .int h0_onesMany, .int h0_within, .int h0_top])), (aI ca h0_now 376 F_h0_now)] H := hP
      have hD : va_D A [(h0, .inr (11, [.int h0_thrown, .ref h0_tape, .int h0_taped, .int h0_size, .int h0_limit, .int h0_to, .int h0_from, .int h0_kind, .int h0_number, .int h0_sign, .int h0_fault, .int h0_place, .long h0_word, .int h0_told, .ref h0_now, .ref h0_read, .ref h0_kept, .ref h0_snaps, .ref h0_aside, .ref h0_name, .ref h0_readName, .ref h0_keptName, .ref h0_isKept, .ref h0_onces, .int h0_snapMany, .int u_219, .int u_220, .int h0_agreed, .int h0_jurors, .int h0_panelled, .ref h0_inSets, .int h0_surely, .int h0_asked, .ref h0_frees, .int h0_struck, .int h0_beating, .ref h0_text, .int h0_texts, .int h0_seed, .ref h0_line, .ref h0_written, .int h0_lineMany, .int h0_hasWritten, .ref h0_node, .int h0_nodes, .int h0_onesMany, .int h0_within, .int h0_top])), (aI ca h0_now 376 F_h0_now)] := hD
      try dsimp only at w_218
      rcases w_218 with h_221 | h_222
      · skip
        subst h_221
        refine lv_if_eq (tgt := 140) hx hb dX12_holds_133 (by decide) (fun _ => ?_) (fun c => absurd (by decide) c)
        refine lv_iconst (v := 0) hx hb dX12_holds_140 (by decide) ?_
        exact oE_i hx hb hr (by decide) hlocks hP hD hS (u_219, u_220) [0, 1] rfl (by decide) (Or.inr (rfl)) (Nat.le_of_ble_eq_true rfl) (Nat.le_of_ble_eq_true rfl) dX12_holds_141
      · skip
        subst h_222
        refine lv_if_eq (tgt := 140) hx hb dX12_holds_133 (by decide) (fun c => absurd c (by decide)) (fun _ => ?_)
        refine lv_iconst (v := 1) hx hb dX12_holds_136 (by decide) ?_
        refine lv_goto (tgt := 141) hx hb dX12_holds_137 (by decide) ?_
        exact oE_i hx hb hr (by decide) hlocks hP hD hS (u_219, u_220) [0, 1] rfl (by decide) (Or.inl rfl) (Nat.le_of_ble_eq_true rfl) (Nat.le_of_ble_eq_true rfl) dX12_holds_141
  by_cases c_223 : x_199 = 3
  · skip
    refine oti 3 c_223 ?_
    refine lv_lookup (off := 108) (tgt := 142) hx hb dX12_holds_34 (by decide) (by decide) (by decide) ?_
    have h_224 : rg 0 0 x_194 := by have q := rg_cl i_a1 (by decide); have q1 := i_a1.2; have q2 := (ht.2.1 (Or.inr c_223)).1; exact ⟨by omega, by omega⟩
    have h_225 : rg 0 0 x_198 := by have q := rg_cl i_a1 (by decide); have q1 := i_a1.2; have q2 := (ht.2.1 (Or.inr c_223)).2; exact ⟨by omega, by omega⟩
    refine lv_aload_n hx hb dX12_holds_142 rfl (lv_at hl 3 rfl) ?_
    refine lv_iload hx hb dX12_holds_143 (lv_at hl 1 rfl) ?_
    refine lv_iload_n hx hb dX12_holds_145 rfl (lv_at hl 5 rfl) ?_
    refine oC_i (Wc := [(h0, .inr (11, [.int h0_thrown, .ref h0_tape, .int h0_taped, .int h0_size, .int h0_limit, .int h0_to, .int h0_from, .int h0_kind, .int h0_number, .int h0_sign, .int h0_fault, .int h0_place, .long h0_word, .int h0_told, .ref h0_now, .ref h0_read, .ref h0_kept, .ref h0_snaps, .ref h0_aside, .ref h0_name, .ref h0_readName, .ref h0_keptName, .ref h0_isKept, .ref h0_onces, .int h0_snapMany, .int h0_lowest, .int h0_highest, .int h0_agreed, .int h0_jurors, .int h0_panelled, .ref h0_inSets, .int h0_surely, .int h0_asked, .ref h0_frees, .int h0_struck, .int h0_beating, .ref h0_text, .int h0_texts, .int h0_seed, .ref h0_line, .ref h0_written, .int h0_lineMany, .int h0_hasWritten, .ref h0_node, .int h0_nodes, .int h0_onesMany, .int h0_within, .int h0_top])), (aI ca h0_now 376 F_h0_now)]) (Wr := []) (va_runV (As := [.int x_194, .int a2]) (rest := []) ⟨hx, hb, hml, hown, hts⟩ (s_X12_holds_1 l D ca H.size h0 x_194 a2 h0_thrown h0_tape h0_taped h0_size h0_limit h0_to h0_from h0_kind h0_number h0_sign h0_fault h0_place h0_word h0_told h0_now h0_read h0_kept h0_snaps h0_aside h0_name h0_readName h0_keptName h0_isKept h0_onces h0_snapMany h0_lowest h0_highest h0_agreed h0_jurors h0_panelled h0_inSets h0_surely h0_asked h0_frees h0_struck h0_beating h0_text h0_texts h0_seed h0_line h0_written h0_lineMany h0_hasWritten h0_node h0_nodes h0_onesMany h0_within h0_top F_h0_now h_224 i_a2 i_h0_taped i_h0_size i_h0_to i_h0_kind i_h0_snapMany i_h0_texts i_h0_lineMany i_h0_hasWritten i_h0_nodes i_h0_onesMany s_h0_now_0 s_h0_now_1 s_h0_now_2 s_h0_now_3 s_h0_now_4 s_h0_now_5 s_h0_now_6 s_h0_now_7 cu_tokw) (cwV 2 hts gX12_holds_X12_holds rfl rfl rfl (by decide +kernel) ⟨Nat.le_of_ble_eq_true rfl, Nat.le_of_ble_eq_true rfl⟩) (oPV (C := RX12) hK hP hD [0, 1] rfl (by decide) 0 rfl (ci := 11) rfl rfl) rfl rfl hl.1 rfl (lv_room (Nat.le_of_ble_eq_true rfl)) dX12_holds_146 ⟨Nat.le_of_ble_eq_true rfl, Nat.le_of_ble_eq_true rfl⟩) hP hD hS hA [0, 1] [] rfl rfl (by decide) (by decide) (fun r_226 u H locs w_227 hP hD hS => ?_)
    obtain ⟨u_228, u_229⟩ := u
    have hP : va_P D vwCl [(h0, .inr (11, [.int h0_thrown, .ref h0_tape, .int h0_taped, .int h0_size, .int h0_limit, .int h0_to, .int h0_from, .int h0_kind, .int h0_number, .int h0_sign, .int h0_fault, .int h0_place, .long h0_word, .int h0_told, .ref h0_now, .ref h0_read, .ref h0_kept, .ref h0_snaps, .ref h0_aside, .ref h0_name, .ref h0_readName, .ref h0_keptName, .ref h0_isKept, .ref h0_onces, .int h0_snapMany, .int u_228, .int u_229, .int h0_agreed, .int h0_jurors, .int h0_panelled, .ref h0_inSets, .int h0_surely, .int h0_asked, .ref h0_frees, .int h0_struck, .int h0_beating, .ref h0_text, .int h0_texts, .int h0_seed, .ref h0_line, .ref h0_written, .int h0_lineMany, .int h0_hasWritten, .ref h0_node, .int h0_nodes, .int h0_onesMany, .int h0_within, .int h0_top])), (aI ca h0_now 376 F_h0_now)] H := hP
    have hD : va_D A [(h0, .inr (11, [.int h0_thrown, .ref h0_tape, .int h0_taped, .int h0_size, .int h0_limit, .int h0_to, .int h0_from, .int h0_kind, .int h0_number, .int h0_sign, .int h0_fault, .int h0_place, .long h0_word, .int h0_told, .ref h0_now, .ref h0_read, .ref h0_kept, .ref h0_snaps, .ref h0_aside, .ref h0_name, .ref h0_readName, .ref h0_keptName, .ref h0_isKept, .ref h0_onces, .int h0_snapMany, .int u_228, .int u_229, .int h0_agreed, .int h0_jurors, .int h0_panelled, .ref h0_inSets, .int h0_surely, .int h0_asked, .ref h0_frees, .int h0_struck, .int h0_beating, .ref h0_text, .int h0_texts, .int h0_seed, .ref h0_line, .ref h0_written, .int h0_lineMany, .int h0_hasWritten, .ref h0_node, .int h0_nodes, .int h0_onesMany, .int h0_within, .int h0_top])), (aI ca h0_now 376 F_h0_now)] := hD
    try dsimp only at w_227
    rcases w_227 with h_230 | h_231
    · skip
      subst h_230
      refine lv_if_ne (tgt := 162) hx hb dX12_holds_149 (by decide) (fun c => absurd (by decide) c) (fun _ => ?_)
      refine lv_aload_n hx hb dX12_holds_152 rfl (lv_at hl 3 rfl) ?_
      refine lv_iload hx hb dX12_holds_153 (lv_at hl 0 rfl) ?_
      refine lv_iload_n hx hb dX12_holds_155 rfl (lv_at hl 5 rfl) ?_
      refine oC_i (Wc := [(h0, .inr (11, [.int h0_thrown, .ref h0_tape, .int h0_taped, .int h0_size, .int h0_limit, .int h0_to, .int h0_from, .int h0_kind, .int h0_number, .int h0_sign, .int h0_fault, .int h0_place, .long h0_word, .int h0_told, .ref h0_now, .ref h0_read, .ref h0_kept, .ref h0_snaps, .ref h0_aside, .ref h0_name, .ref h0_readName, .ref h0_keptName, .ref h0_isKept, .ref h0_onces, .int h0_snapMany, .int u_228, .int u_229, .int h0_agreed, .int h0_jurors, .int h0_panelled, .ref h0_inSets, .int h0_surely, .int h0_asked, .ref h0_frees, .int h0_struck, .int h0_beating, .ref h0_text, .int h0_texts, .int h0_seed, .ref h0_line, .ref h0_written, .int h0_lineMany, .int h0_hasWritten, .ref h0_node, .int h0_nodes, .int h0_onesMany, .int h0_within, .int h0_top])), (aI ca h0_now 376 F_h0_now)]) (Wr := []) (va_runV (As := [.int x_198, .int a2]) (rest := []) ⟨hx, hb, hml, hown, hts⟩ (s_X12_holds_1 l D ca H.size h0 x_198 a2 h0_thrown h0_tape h0_taped h0_size h0_limit h0_to h0_from h0_kind h0_number h0_sign h0_fault h0_place h0_word h0_told h0_now h0_read h0_kept h0_snaps h0_aside h0_name h0_readName h0_keptName h0_isKept h0_onces h0_snapMany u_228 u_229 h0_agreed h0_jurors h0_panelled h0_inSets h0_surely h0_asked h0_frees h0_struck h0_beating h0_text h0_texts h0_seed h0_line h0_written h0_lineMany h0_hasWritten h0_node h0_nodes h0_onesMany h0_within h0_top F_h0_now h_225 i_a2 i_h0_taped i_h0_size i_h0_to i_h0_kind i_h0_snapMany i_h0_texts i_h0_lineMany i_h0_hasWritten i_h0_nodes i_h0_onesMany s_h0_now_0 s_h0_now_1 s_h0_now_2 s_h0_now_3 s_h0_now_4 s_h0_now_5 s_h0_now_6 s_h0_now_7 cu_tokw) (cwV 2 hts gX12_holds_X12_holds rfl rfl rfl (by decide +kernel) ⟨Nat.le_of_ble_eq_true rfl, Nat.le_of_ble_eq_true rfl⟩) (oPV (C := RX12) hK hP hD [0, 1] rfl (by decide) 0 rfl (ci := 11) rfl rfl) rfl rfl hl.1 rfl (lv_room (Nat.le_of_ble_eq_true rfl)) dX12_holds_156 ⟨Nat.le_of_ble_eq_true rfl, Nat.le_of_ble_eq_true rfl⟩) hP hD hS hA [0, 1] [] rfl rfl (by decide) (by decide) (fun r_232 u H locs w_233 hP hD hS => ?_)
      obtain ⟨u_234, u_235⟩ := u
      have hP : va_P D vwCl [(h0, .inr (11, [.int h0_thrown, .ref h0_tape, .int h0_taped, .int h0_size, .int h0_limit, .int h0_to, .int h0_from, .int h0_kind, .int h0_number, .int h0_sign, .int h0_fault, .int h0_place, .long h0_word, .int h0_told, .ref h0_now, .ref h0_read, .ref h0_kept, .ref h0_snaps, .ref h0_aside, .ref h0_name, .ref h0_readName, .ref h0_keptName, .ref h0_isKept, .ref h0_onces, .int h0_snapMany, .int u_234, .int u_235, .int h0_agreed, .int h0_jurors, .int h0_panelled, .ref h0_inSets, .int h0_surely, .int h0_asked, .ref h0_frees, .int h0_struck, .int h0_beating, .ref h0_text, .int h0_texts, .int h0_seed, .ref h0_line, .ref h0_written, .int h0_lineMany, .int h0_hasWritten, .ref h0_node, .int h0_nodes, .int h0_onesMany, .int h0_within, .int h0_top])), (aI ca h0_now 376 F_h0_now)] H := hP
      have hD : va_D A [(h0, .inr (11, [.int h0_thrown, .ref h0_tape, .int h0_taped, .int h0_size, .int h0_limit, .int h0_to, .int h0_from, .int h0_kind, .int h0_number, .int h0_sign, .int h0_fault, .int h0_place, .long h0_word, .int h0_told, .ref h0_now, .ref h0_read, .ref h0_kept, .ref h0_snaps, .ref h0_aside, .ref h0_name, .ref h0_readName, .ref h0_keptName, .ref h0_isKept, .ref h0_onces, .int h0_snapMany, .int u_234, .int u_235, .int h0_agreed, .int h0_jurors, .int h0_panelled, .ref h0_inSets, .int h0_surely, .int h0_asked, .ref h0_frees, .int h0_struck, .int h0_beating, .ref h0_text, .int h0_texts, .int h0_seed, .ref h0_line, .ref h0_written, .int h0_lineMany, .int h0_hasWritten, .ref h0_node, .int h0_nodes, .int h0_onesMany, .int h0_within, .int h0_top])), (aI ca h0_now 376 F_h0_now)] := hD
      try dsimp only at w_233
      rcases w_233 with h_236 | h_237
      · skip
        subst h_236
        refine lv_if_eq (tgt := 166) hx hb dX12_holds_159 (by decide) (fun _ => ?_) (fun c => absurd (by decide) c)
        refine lv_iconst (v := 0) hx hb dX12_holds_166 (by decide) ?_
        exact oE_i hx hb hr (by decide) hlocks hP hD hS (u_234, u_235) [0, 1] rfl (by decide) (Or.inr (rfl)) (Nat.le_of_ble_eq_true rfl) (Nat.le_of_ble_eq_true rfl) dX12_holds_167
      · skip
        subst h_237
        refine lv_if_eq (tgt := 166) hx hb dX12_holds_159 (by decide) (fun c => absurd c (by decide)) (fun _ => ?_)
        refine lv_iconst (v := 1) hx hb dX12_holds_162 (by decide) ?_
        refine lv_goto (tgt := 167) hx hb dX12_holds_163 (by decide) ?_
        exact oE_i hx hb hr (by decide) hlocks hP hD hS (u_234, u_235) [0, 1] rfl (by decide) (Or.inl rfl) (Nat.le_of_ble_eq_true rfl) (Nat.le_of_ble_eq_true rfl) dX12_holds_167
    · skip
      subst h_231
      refine lv_if_ne (tgt := 162) hx hb dX12_holds_149 (by decide) (fun _ => ?_) (fun c => absurd c (by decide))
      refine lv_iconst (v := 1) hx hb dX12_holds_162 (by decide) ?_
      refine lv_goto (tgt := 167) hx hb dX12_holds_163 (by decide) ?_
      exact oE_i hx hb hr (by decide) hlocks hP hD hS (u_228, u_229) [0, 1] rfl (by decide) (Or.inl rfl) (Nat.le_of_ble_eq_true rfl) (Nat.le_of_ble_eq_true rfl) dX12_holds_167
  by_cases c_238 : x_199 = 68
  · skip
    refine oti 68 c_238 ?_
    refine lv_lookup (off := 134) (tgt := 168) hx hb dX12_holds_34 (by decide) (by decide) (by decide) ?_
    refine lv_aload_n hx hb dX12_holds_168 rfl (lv_at hl 3 rfl) ?_
    refine va_get (D := D) (ci := 11) (v := .ref h0_now) (C := RX12) (T := TX12) (N := 48) hx hb hts k2 hown hK.1 hP 0 rfl rfl 14 (by decide) k1 (fun _ h9 => h9) rfl dX12_holds_169 ?_
    refine lv_bipush (v := 90) hx hb dX12_holds_172 (by decide) ?_
    refine va_iald hx hb hK.1 hP 1 0 rfl rfl (rg_in (⟨by decide, by decide⟩ : rg 90 90 (90 : Int32)) (by decide) (by decide)) dX12_holds_174 ?_
    refine lv_topi (fun x_239 ex_239 => ?_)
    have h_240 : rg 0 1023 x_239 := by rw [ex_239]; exact sg_at s_h0_now_5 (⟨by decide, by decide⟩ : rg 90 90 (90 : Int32)) (by decide) (by decide) (by decide)
    refine lv_iload_n hx hb dX12_holds_175 rfl (lv_at hl 5 rfl) ?_
    refine oC_i (Wc := []) (Wr := [(h0, .inr (11, [.int h0_thrown, .ref h0_tape, .int h0_taped, .int h0_size, .int h0_limit, .int h0_to, .int h0_from, .int h0_kind, .int h0_number, .int h0_sign, .int h0_fault, .int h0_place, .long h0_word, .int h0_told, .ref h0_now, .ref h0_read, .ref h0_kept, .ref h0_snaps, .ref h0_aside, .ref h0_name, .ref h0_readName, .ref h0_keptName, .ref h0_isKept, .ref h0_onces, .int h0_snapMany, .int h0_lowest, .int h0_highest, .int h0_agreed, .int h0_jurors, .int h0_panelled, .ref h0_inSets, .int h0_surely, .int h0_asked, .ref h0_frees, .int h0_struck, .int h0_beating, .ref h0_text, .int h0_texts, .int h0_seed, .ref h0_line, .ref h0_written, .int h0_lineMany, .int h0_hasWritten, .ref h0_node, .int h0_nodes, .int h0_onesMany, .int h0_within, .int h0_top])), (aI ca h0_now 376 F_h0_now)]) (va_runS (As := [.int x_239, .int a2]) (rest := []) ⟨hx, hb, hml, hown, hts⟩ (s_X12_has l D ca H.size x_239 a2) (va_cwS 2 hts gX12_holds_X12_has rfl rfl rfl (by decide +kernel) ⟨Nat.le_of_ble_eq_true rfl, Nat.le_of_ble_eq_true rfl⟩) (oPS hK hP hD [] rfl (by decide)) rfl rfl hl.1 rfl (lv_room (Nat.le_of_ble_eq_true rfl)) dX12_holds_176 ⟨Nat.le_of_ble_eq_true rfl, Nat.le_of_ble_eq_true rfl⟩) hP hD hS hA [] [0, 1] rfl rfl (by decide) (by decide) (fun r_241 u H locs w_242 hP hD hS => ?_)
    obtain ⟨⟩ := u
    have hP : va_P D vwCl [(h0, .inr (11, [.int h0_thrown, .ref h0_tape, .int h0_taped, .int h0_size, .int h0_limit, .int h0_to, .int h0_from, .int h0_kind, .int h0_number, .int h0_sign, .int h0_fault, .int h0_place, .long h0_word, .int h0_told, .ref h0_now, .ref h0_read, .ref h0_kept, .ref h0_snaps, .ref h0_aside, .ref h0_name, .ref h0_readName, .ref h0_keptName, .ref h0_isKept, .ref h0_onces, .int h0_snapMany, .int h0_lowest, .int h0_highest, .int h0_agreed, .int h0_jurors, .int h0_panelled, .ref h0_inSets, .int h0_surely, .int h0_asked, .ref h0_frees, .int h0_struck, .int h0_beating, .ref h0_text, .int h0_texts, .int h0_seed, .ref h0_line, .ref h0_written, .int h0_lineMany, .int h0_hasWritten, .ref h0_node, .int h0_nodes, .int h0_onesMany, .int h0_within, .int h0_top])), (aI ca h0_now 376 F_h0_now)] H := hP
    have hD : va_D A [(h0, .inr (11, [.int h0_thrown, .ref h0_tape, .int h0_taped, .int h0_size, .int h0_limit, .int h0_to, .int h0_from, .int h0_kind, .int h0_number, .int h0_sign, .int h0_fault, .int h0_place, .long h0_word, .int h0_told, .ref h0_now, .ref h0_read, .ref h0_kept, .ref h0_snaps, .ref h0_aside, .ref h0_name, .ref h0_readName, .ref h0_keptName, .ref h0_isKept, .ref h0_onces, .int h0_snapMany, .int h0_lowest, .int h0_highest, .int h0_agreed, .int h0_jurors, .int h0_panelled, .ref h0_inSets, .int h0_surely, .int h0_asked, .ref h0_frees, .int h0_struck, .int h0_beating, .ref h0_text, .int h0_texts, .int h0_seed, .ref h0_line, .ref h0_written, .int h0_lineMany, .int h0_hasWritten, .ref h0_node, .int h0_nodes, .int h0_onesMany, .int h0_within, .int h0_top])), (aI ca h0_now 376 F_h0_now)] := hD
    try dsimp only at w_242
    rcases w_242 with ⟨h_243, h_244⟩ | ⟨h_245, h_246⟩
    · skip
      subst h_243
      exact oE_i hx hb hr (by decide) hlocks hP hD hS (h0_lowest, h0_highest) [0, 1] rfl (by decide) (Or.inr (rfl)) (Nat.le_of_ble_eq_true rfl) (Nat.le_of_ble_eq_true rfl) dX12_holds_179
    · skip
      subst h_245
      exact oE_i hx hb hr (by decide) hlocks hP hD hS (h0_lowest, h0_highest) [0, 1] rfl (by decide) (Or.inl rfl) (Nat.le_of_ble_eq_true rfl) (Nat.le_of_ble_eq_true rfl) dX12_holds_179
  by_cases c_247 : x_199 = 69
  · skip
    refine oti 69 c_247 ?_
    refine lv_lookup (off := 146) (tgt := 180) hx hb dX12_holds_34 (by decide) (by decide) (by decide) ?_
    refine lv_aload_n hx hb dX12_holds_180 rfl (lv_at hl 3 rfl) ?_
    refine va_get (D := D) (ci := 11) (v := .ref h0_now) (C := RX12) (T := TX12) (N := 48) hx hb hts k2 hown hK.1 hP 0 rfl rfl 14 (by decide) k1 (fun _ h9 => h9) rfl dX12_holds_181 ?_
    refine lv_bipush (v := 91) hx hb dX12_holds_184 (by decide) ?_
    refine va_iald hx hb hK.1 hP 1 0 rfl rfl (rg_in (⟨by decide, by decide⟩ : rg 91 91 (91 : Int32)) (by decide) (by decide)) dX12_holds_186 ?_
    refine lv_topi (fun x_248 ex_248 => ?_)
    refine lv_iload_n hx hb dX12_holds_187 rfl (lv_at hl 5 rfl) ?_
    refine oC_i (Wc := []) (Wr := [(h0, .inr (11, [.int h0_thrown, .ref h0_tape, .int h0_taped, .int h0_size, .int h0_limit, .int h0_to, .int h0_from, .int h0_kind, .int h0_number, .int h0_sign, .int h0_fault, .int h0_place, .long h0_word, .int h0_told, .ref h0_now, .ref h0_read, .ref h0_kept, .ref h0_snaps, .ref h0_aside, .ref h0_name, .ref h0_readName, .ref h0_keptName, .ref h0_isKept, .ref h0_onces, .int h0_snapMany, .int h0_lowest, .int h0_highest, .int h0_agreed, .int h0_jurors, .int h0_panelled, .ref h0_inSets, .int h0_surely, .int h0_asked, .ref h0_frees, .int h0_struck, .int h0_beating, .ref h0_text, .int h0_texts, .int h0_seed, .ref h0_line, .ref h0_written, .int h0_lineMany, .int h0_hasWritten, .ref h0_node, .int h0_nodes, .int h0_onesMany, .int h0_within, .int h0_top])), (aI ca h0_now 376 F_h0_now)]) (va_runS (As := [.int x_248, .int a2]) (rest := []) ⟨hx, hb, hml, hown, hts⟩ (s_X12_has l D ca H.size x_248 a2) (va_cwS 2 hts gX12_holds_X12_has rfl rfl rfl (by decide +kernel) ⟨Nat.le_of_ble_eq_true rfl, Nat.le_of_ble_eq_true rfl⟩) (oPS hK hP hD [] rfl (by decide)) rfl rfl hl.1 rfl (lv_room (Nat.le_of_ble_eq_true rfl)) dX12_holds_188 ⟨Nat.le_of_ble_eq_true rfl, Nat.le_of_ble_eq_true rfl⟩) hP hD hS hA [] [0, 1] rfl rfl (by decide) (by decide) (fun r_249 u H locs w_250 hP hD hS => ?_)
    obtain ⟨⟩ := u
    have hP : va_P D vwCl [(h0, .inr (11, [.int h0_thrown, .ref h0_tape, .int h0_taped, .int h0_size, .int h0_limit, .int h0_to, .int h0_from, .int h0_kind, .int h0_number, .int h0_sign, .int h0_fault, .int h0_place, .long h0_word, .int h0_told, .ref h0_now, .ref h0_read, .ref h0_kept, .ref h0_snaps, .ref h0_aside, .ref h0_name, .ref h0_readName, .ref h0_keptName, .ref h0_isKept, .ref h0_onces, .int h0_snapMany, .int h0_lowest, .int h0_highest, .int h0_agreed, .int h0_jurors, .int h0_panelled, .ref h0_inSets, .int h0_surely, .int h0_asked, .ref h0_frees, .int h0_struck, .int h0_beating, .ref h0_text, .int h0_texts, .int h0_seed, .ref h0_line, .ref h0_written, .int h0_lineMany, .int h0_hasWritten, .ref h0_node, .int h0_nodes, .int h0_onesMany, .int h0_within, .int h0_top])), (aI ca h0_now 376 F_h0_now)] H := hP
    have hD : va_D A [(h0, .inr (11, [.int h0_thrown, .ref h0_tape, .int h0_taped, .int h0_size, .int h0_limit, .int h0_to, .int h0_from, .int h0_kind, .int h0_number, .int h0_sign, .int h0_fault, .int h0_place, .long h0_word, .int h0_told, .ref h0_now, .ref h0_read, .ref h0_kept, .ref h0_snaps, .ref h0_aside, .ref h0_name, .ref h0_readName, .ref h0_keptName, .ref h0_isKept, .ref h0_onces, .int h0_snapMany, .int h0_lowest, .int h0_highest, .int h0_agreed, .int h0_jurors, .int h0_panelled, .ref h0_inSets, .int h0_surely, .int h0_asked, .ref h0_frees, .int h0_struck, .int h0_beating, .ref h0_text, .int h0_texts, .int h0_seed, .ref h0_line, .ref h0_written, .int h0_lineMany, .int h0_hasWritten, .ref h0_node, .int h0_nodes, .int h0_onesMany, .int h0_within, .int h0_top])), (aI ca h0_now 376 F_h0_now)] := hD
    try dsimp only at w_250
    rcases w_250 with ⟨h_251, h_252⟩ | ⟨h_253, h_254⟩
    · skip
      subst h_251
      exact oE_i hx hb hr (by decide) hlocks hP hD hS (h0_lowest, h0_highest) [0, 1] rfl (by decide) (Or.inr (rfl)) (Nat.le_of_ble_eq_true rfl) (Nat.le_of_ble_eq_true rfl) dX12_holds_191
    · skip
      subst h_253
      exact oE_i hx hb hr (by decide) hlocks hP hD hS (h0_lowest, h0_highest) [0, 1] rfl (by decide) (Or.inl rfl) (Nat.le_of_ble_eq_true rfl) (Nat.le_of_ble_eq_true rfl) dX12_holds_191
  by_cases c_255 : x_199 = 70
  · skip
    refine oti 70 c_255 ?_
    refine lv_lookup (off := 158) (tgt := 192) hx hb dX12_holds_34 (by decide) (by decide) (by decide) ?_
    refine lv_aload_n hx hb dX12_holds_192 rfl (lv_at hl 3 rfl) ?_
    refine va_get (D := D) (ci := 11) (v := .ref h0_now) (C := RX12) (T := TX12) (N := 48) hx hb hts k2 hown hK.1 hP 0 rfl rfl 14 (by decide) k1 (fun _ h9 => h9) rfl dX12_holds_193 ?_
    refine lv_bipush (v := 94) hx hb dX12_holds_196 (by decide) ?_
    refine lv_iload_n hx hb dX12_holds_198 rfl (lv_at hl 5 rfl) ?_
    refine lv_iadd hx hb dX12_holds_199 ?_
    refine lv_topi (fun x_256 ex_256 => ?_)
    have h_257 : rg 94 103 x_256 := by rw [ex_256]; exact rg_add (⟨by decide, by decide⟩ : rg 94 94 (94 : Int32)) i_a2 (by decide) (by decide) (by decide) (by decide)
    have l_258 : lq x_256.toInt (a2.toInt + 94) := lqm (by rw [ex_256]; have q := tadd (⟨by decide, by decide⟩ : rg 94 94 (94 : Int32)) i_a2 (by decide) (by decide); have r0 := lqe (lqm (by decide) : lq (94 : Int32).toInt 94); omega)
    refine va_iald hx hb hK.1 hP 1 0 rfl rfl (rg_in h_257 (by decide) (by decide)) dX12_holds_200 ?_
    refine lv_topi (fun x_259 ex_259 => ?_)
    refine lv_if_le (tgt := 208) hx hb dX12_holds_201 (by decide) (fun c_260 => ?_) (fun c_260 => ?_)
    · skip
      have o_261 : rl 0 x_259 0 := rl_le c_260
      have h_262 : rg (-2147483648) 0 x_259 := rl_x o_261 (rga x_259) (⟨by decide, by decide⟩ : rg 0 0 (0 : Int32)) (by decide) (by decide)
      refine lv_iconst (v := 0) hx hb dX12_holds_208 (by decide) ?_
      exact oE_i hx hb hr (by decide) hlocks hP hD hS (h0_lowest, h0_highest) [0, 1] rfl (by decide) (Or.inr (rfl)) (Nat.le_of_ble_eq_true rfl) (Nat.le_of_ble_eq_true rfl) dX12_holds_209
    · skip
      have o_263 : rl 1 0 x_259 := rl_nle c_260
      have h_264 : rg 1 2147483647 x_259 := rl_y o_263 (⟨by decide, by decide⟩ : rg 0 0 (0 : Int32)) (rga x_259) (by decide) (by decide)
      refine lv_iconst (v := 1) hx hb dX12_holds_204 (by decide) ?_
      refine lv_goto (tgt := 209) hx hb dX12_holds_205 (by decide) ?_
      exact oE_i hx hb hr (by decide) hlocks hP hD hS (h0_lowest, h0_highest) [0, 1] rfl (by decide) (Or.inl rfl) (Nat.le_of_ble_eq_true rfl) (Nat.le_of_ble_eq_true rfl) dX12_holds_209
  by_cases c_265 : x_199 = 71
  · skip
    refine oti 71 c_265 ?_
    refine lv_lookup (off := 176) (tgt := 210) hx hb dX12_holds_34 (by decide) (by decide) (by decide) ?_
    have h_266 : rg 0 39 x_194 := ht.2.2 c_265
    refine lv_aload_n hx hb dX12_holds_210 rfl (lv_at hl 3 rfl) ?_
    refine lv_iload_n hx hb dX12_holds_211 rfl (lv_at hl 5 rfl) ?_
    refine lv_iload hx hb dX12_holds_212 (lv_at hl 1 rfl) ?_
    refine oC_i (Wc := [(h0, .inr (11, [.int h0_thrown, .ref h0_tape, .int h0_taped, .int h0_size, .int h0_limit, .int h0_to, .int h0_from, .int h0_kind, .int h0_number, .int h0_sign, .int h0_fault, .int h0_place, .long h0_word, .int h0_told, .ref h0_now, .ref h0_read, .ref h0_kept, .ref h0_snaps, .ref h0_aside, .ref h0_name, .ref h0_readName, .ref h0_keptName, .ref h0_isKept, .ref h0_onces, .int h0_snapMany, .int h0_lowest, .int h0_highest, .int h0_agreed, .int h0_jurors, .int h0_panelled, .ref h0_inSets, .int h0_surely, .int h0_asked, .ref h0_frees, .int h0_struck, .int h0_beating, .ref h0_text, .int h0_texts, .int h0_seed, .ref h0_line, .ref h0_written, .int h0_lineMany, .int h0_hasWritten, .ref h0_node, .int h0_nodes, .int h0_onesMany, .int h0_within, .int h0_top])), (aI ca h0_now 376 F_h0_now)]) (Wr := []) (va_runV (As := [.int a2, .int x_194]) (rest := []) ⟨hx, hb, hml, hown, hts⟩ (s_X12_areOneRing l D ca H.size h0 a2 x_194 h0_thrown h0_tape h0_taped h0_size h0_limit h0_to h0_from h0_kind h0_number h0_sign h0_fault h0_place h0_word h0_told h0_now h0_read h0_kept h0_snaps h0_aside h0_name h0_readName h0_keptName h0_isKept h0_onces h0_snapMany h0_lowest h0_highest h0_agreed h0_jurors h0_panelled h0_inSets h0_surely h0_asked h0_frees h0_struck h0_beating h0_text h0_texts h0_seed h0_line h0_written h0_lineMany h0_hasWritten h0_node h0_nodes h0_onesMany h0_within h0_top F_h0_now i_a2 h_266 i_h0_taped i_h0_size i_h0_to i_h0_kind i_h0_snapMany i_h0_texts i_h0_lineMany i_h0_hasWritten i_h0_nodes i_h0_onesMany s_h0_now_0 s_h0_now_1 s_h0_now_2 s_h0_now_3 s_h0_now_4 s_h0_now_5 s_h0_now_6 s_h0_now_7) (cwV 2 hts gX12_holds_X12_areOneRing rfl rfl rfl (by decide +kernel) ⟨Nat.le_of_ble_eq_true rfl, Nat.le_of_ble_eq_true rfl⟩) (oPV (C := RX12) hK hP hD [0, 1] rfl (by decide) 0 rfl (ci := 11) rfl rfl) rfl rfl hl.1 rfl (lv_room (Nat.le_of_ble_eq_true rfl)) dX12_holds_214 ⟨Nat.le_of_ble_eq_true rfl, Nat.le_of_ble_eq_true rfl⟩) hP hD hS hA [0, 1] [] rfl rfl (by decide) (by decide) (fun r_267 u H locs w_268 hP hD hS => ?_)
    obtain ⟨u_269, u_270⟩ := u
    have hP : va_P D vwCl [(h0, .inr (11, [.int h0_thrown, .ref h0_tape, .int h0_taped, .int h0_size, .int h0_limit, .int h0_to, .int h0_from, .int h0_kind, .int h0_number, .int h0_sign, .int h0_fault, .int h0_place, .long h0_word, .int h0_told, .ref h0_now, .ref h0_read, .ref h0_kept, .ref h0_snaps, .ref h0_aside, .ref h0_name, .ref h0_readName, .ref h0_keptName, .ref h0_isKept, .ref h0_onces, .int h0_snapMany, .int u_269, .int u_270, .int h0_agreed, .int h0_jurors, .int h0_panelled, .ref h0_inSets, .int h0_surely, .int h0_asked, .ref h0_frees, .int h0_struck, .int h0_beating, .ref h0_text, .int h0_texts, .int h0_seed, .ref h0_line, .ref h0_written, .int h0_lineMany, .int h0_hasWritten, .ref h0_node, .int h0_nodes, .int h0_onesMany, .int h0_within, .int h0_top])), (aI ca h0_now 376 F_h0_now)] H := hP
    have hD : va_D A [(h0, .inr (11, [.int h0_thrown, .ref h0_tape, .int h0_taped, .int h0_size, .int h0_limit, .int h0_to, .int h0_from, .int h0_kind, .int h0_number, .int h0_sign, .int h0_fault, .int h0_place, .long h0_word, .int h0_told, .ref h0_now, .ref h0_read, .ref h0_kept, .ref h0_snaps, .ref h0_aside, .ref h0_name, .ref h0_readName, .ref h0_keptName, .ref h0_isKept, .ref h0_onces, .int h0_snapMany, .int u_269, .int u_270, .int h0_agreed, .int h0_jurors, .int h0_panelled, .ref h0_inSets, .int h0_surely, .int h0_asked, .ref h0_frees, .int h0_struck, .int h0_beating, .ref h0_text, .int h0_texts, .int h0_seed, .ref h0_line, .ref h0_written, .int h0_lineMany, .int h0_hasWritten, .ref h0_node, .int h0_nodes, .int h0_onesMany, .int h0_within, .int h0_top])), (aI ca h0_now 376 F_h0_now)] := hD
    try dsimp only at w_268
    rcases w_268 with ⟨h_271, h_272, h_273⟩ | ⟨h_274, h_275, h_276, h_277⟩
    · skip
      subst h_271
      exact oE_i hx hb hr (by decide) hlocks hP hD hS (u_269, u_270) [0, 1] rfl (by decide) (Or.inr (rfl)) (Nat.le_of_ble_eq_true rfl) (Nat.le_of_ble_eq_true rfl) dX12_holds_217
    · skip
      subst h_274
      exact oE_i hx hb hr (by decide) hlocks hP hD hS (u_269, u_270) [0, 1] rfl (by decide) (Or.inl rfl) (Nat.le_of_ble_eq_true rfl) (Nat.le_of_ble_eq_true rfl) dX12_holds_217
  have t0 := lv_neT c_200 (show (1 : Int32).toInt = 1 by decide)
  have t1 := lv_neT c_208 (show (2 : Int32).toInt = 2 by decide)
  have t2 := lv_neT c_223 (show (3 : Int32).toInt = 3 by decide)
  have t3 := lv_neT c_238 (show (68 : Int32).toInt = 68 by decide)
  have t4 := lv_neT c_247 (show (69 : Int32).toInt = 69 by decide)
  have t5 := lv_neT c_255 (show (70 : Int32).toInt = 70 by decide)
  have t6 := lv_neT c_265 (show (71 : Int32).toInt = 71 by decide)
  refine lv_lookup (off := 184) (tgt := 218) hx hb dX12_holds_34 (by decide) (by simp [Op.lookupswitch.offset, show ¬ (1 : Int) = x_199.toInt from fun h9 => t0 h9.symm, show ¬ (2 : Int) = x_199.toInt from fun h9 => t1 h9.symm, show ¬ (3 : Int) = x_199.toInt from fun h9 => t2 h9.symm, show ¬ (68 : Int) = x_199.toInt from fun h9 => t3 h9.symm, show ¬ (69 : Int) = x_199.toInt from fun h9 => t4 h9.symm, show ¬ (70 : Int) = x_199.toInt from fun h9 => t5 h9.symm, show ¬ (71 : Int) = x_199.toInt from fun h9 => t6 h9.symm]) (by decide) ?_
  refine lv_aload_n hx hb dX12_holds_218 rfl (lv_at hl 3 rfl) ?_
  refine va_get (D := D) (ci := 11) (v := .ref h0_now) (C := RX12) (T := TX12) (N := 48) hx hb hts k2 hown hK.1 hP 0 rfl rfl 14 (by decide) k1 (fun _ h9 => h9) rfl dX12_holds_219 ?_
  refine lv_iload_n hx hb dX12_holds_222 rfl (lv_at hl 2 rfl) ?_
  refine va_iald hx hb hK.1 hP 1 0 rfl rfl (rg_in h_189 (by decide) (by decide)) dX12_holds_223 ?_
  refine oti x_199 ex_199.symm ?_
  refine lv_bipush (v := 50) hx hb dX12_holds_224 (by decide) ?_
  refine lv_isub hx hb dX12_holds_226 ?_
  refine lv_topi (fun x_278 ex_278 => ?_)
  refine lv_istore (lv' := [(6, .int x_278), (5, .int x_198), (4, .int x_194), (3, .int x_188), (0, .ref h0), (1, .int a1), (2, .int a2)]) hx hb dX12_holds_227 hl (by decide) rfl (fun ls hl => ?_)
  refine lv_iload hx hb dX12_holds_229 (lv_at hl 0 rfl) ?_
  refine lv_bipush (v := 22) hx hb dX12_holds_231 (by decide) ?_
  refine lv_icmp_ne (tgt := 247) hx hb dX12_holds_233 (by decide) (fun c_279 => ?_) (fun c_279 => ?_)
  · skip
    refine lv_iload hx hb dX12_holds_247 (lv_at hl 0 rfl) ?_
    refine lv_bipush (v := 23) hx hb dX12_holds_249 (by decide) ?_
    refine lv_icmp_ne (tgt := 266) hx hb dX12_holds_251 (by decide) (fun c_280 => ?_) (fun c_280 => ?_)
    · skip
      refine lv_iload hx hb dX12_holds_266 (lv_at hl 0 rfl) ?_
      refine lv_bipush (v := 24) hx hb dX12_holds_268 (by decide) ?_
      refine lv_icmp_ne (tgt := 285) hx hb dX12_holds_270 (by decide) (fun c_281 => ?_) (fun c_281 => ?_)
      · skip
        refine lv_iload_n hx hb dX12_holds_285 rfl (lv_at hl 6 rfl) ?_
        exact J286_153 x_188 x_198 a2 h_189 H locs ls (oPsub hP [0, 1] rfl) (hD.sub [0, 1] (by decide) rfl) hS (lv_sub hl [4, 3, 1] rfl)
      · skip
        have o_282 : rl 0 x_278 24 := rl_eq c_281
        have h_283 : rg (-2147483648) 24 x_278 := rl_x o_282 (rga x_278) (⟨by decide, by decide⟩ : rg 24 24 (24 : Int32)) (by decide) (by decide)
        have o_284 : rl 0 24 x_278 := rl_eq c_281.symm
        have h_285 : rg 24 24 x_278 := rl_y o_284 (⟨by decide, by decide⟩ : rg 24 24 (24 : Int32)) h_283 (by decide) (by decide)
        refine lv_aload_n hx hb dX12_holds_273 rfl (lv_at hl 4 rfl) ?_
        refine va_get (D := D) (ci := 11) (v := .ref h0_now) (C := RX12) (T := TX12) (N := 48) hx hb hts k2 hown hK.1 hP 0 rfl rfl 14 (by decide) k1 (fun _ h9 => h9) rfl dX12_holds_274 ?_
        refine lv_bipush (v := 94) hx hb dX12_holds_277 (by decide) ?_
        refine lv_iload_n hx hb dX12_holds_279 rfl (lv_at hl 6 rfl) ?_
        refine lv_iadd hx hb dX12_holds_280 ?_
        refine lv_topi (fun x_286 ex_286 => ?_)
        have h_287 : rg 94 103 x_286 := by rw [ex_286]; exact rg_add (⟨by decide, by decide⟩ : rg 94 94 (94 : Int32)) i_a2 (by decide) (by decide) (by decide) (by decide)
        have l_288 : lq x_286.toInt (a2.toInt + 94) := lqm (by rw [ex_286]; have q := tadd (⟨by decide, by decide⟩ : rg 94 94 (94 : Int32)) i_a2 (by decide) (by decide); have r0 := lqe (lqm (by decide) : lq (94 : Int32).toInt 94); omega)
        refine va_iald hx hb hK.1 hP 1 0 rfl rfl (rg_in h_287 (by decide) (by decide)) dX12_holds_281 ?_
        refine lv_topi (fun x_289 ex_289 => ?_)
        refine lv_goto (tgt := 286) hx hb dX12_holds_282 (by decide) ?_
        exact J286_153 x_188 x_198 x_289 h_189 H locs ls (oPsub hP [0, 1] rfl) (hD.sub [0, 1] (by decide) rfl) hS (lv_sub hl [4, 3, 1] rfl)
    · skip
      have o_290 : rl 0 x_278 23 := rl_eq c_280
      have h_291 : rg (-2147483648) 23 x_278 := rl_x o_290 (rga x_278) (⟨by decide, by decide⟩ : rg 23 23 (23 : Int32)) (by decide) (by decide)
      have o_292 : rl 0 23 x_278 := rl_eq c_280.symm
      have h_293 : rg 23 23 x_278 := rl_y o_292 (⟨by decide, by decide⟩ : rg 23 23 (23 : Int32)) h_291 (by decide) (by decide)
      refine lv_aload_n hx hb dX12_holds_254 rfl (lv_at hl 4 rfl) ?_
      refine va_get (D := D) (ci := 11) (v := .ref h0_now) (C := RX12) (T := TX12) (N := 48) hx hb hts k2 hown hK.1 hP 0 rfl rfl 14 (by decide) k1 (fun _ h9 => h9) rfl dX12_holds_255 ?_
      refine lv_bipush (v := 15) hx hb dX12_holds_258 (by decide) ?_
      refine lv_iload_n hx hb dX12_holds_260 rfl (lv_at hl 6 rfl) ?_
      refine lv_iadd hx hb dX12_holds_261 ?_
      refine lv_topi (fun x_294 ex_294 => ?_)
      have h_295 : rg 15 24 x_294 := by rw [ex_294]; exact rg_add (⟨by decide, by decide⟩ : rg 15 15 (15 : Int32)) i_a2 (by decide) (by decide) (by decide) (by decide)
      have l_296 : lq x_294.toInt (a2.toInt + 15) := lqm (by rw [ex_294]; have q := tadd (⟨by decide, by decide⟩ : rg 15 15 (15 : Int32)) i_a2 (by decide) (by decide); have r0 := lqe (lqm (by decide) : lq (15 : Int32).toInt 15); omega)
      refine va_iald hx hb hK.1 hP 1 0 rfl rfl (rg_in h_295 (by decide) (by decide)) dX12_holds_262 ?_
      refine lv_topi (fun x_297 ex_297 => ?_)
      refine lv_goto (tgt := 286) hx hb dX12_holds_263 (by decide) ?_
      exact J286_153 x_188 x_198 x_297 h_189 H locs ls (oPsub hP [0, 1] rfl) (hD.sub [0, 1] (by decide) rfl) hS (lv_sub hl [4, 3, 1] rfl)
  · skip
    have o_298 : rl 0 x_278 22 := rl_eq c_279
    have h_299 : rg (-2147483648) 22 x_278 := rl_x o_298 (rga x_278) (⟨by decide, by decide⟩ : rg 22 22 (22 : Int32)) (by decide) (by decide)
    have o_300 : rl 0 22 x_278 := rl_eq c_279.symm
    have h_301 : rg 22 22 x_278 := rl_y o_300 (⟨by decide, by decide⟩ : rg 22 22 (22 : Int32)) h_299 (by decide) (by decide)
    refine lv_aload_n hx hb dX12_holds_236 rfl (lv_at hl 4 rfl) ?_
    refine va_get (D := D) (ci := 11) (v := .ref h0_now) (C := RX12) (T := TX12) (N := 48) hx hb hts k2 hown hK.1 hP 0 rfl rfl 14 (by decide) k1 (fun _ h9 => h9) rfl dX12_holds_237 ?_
    refine lv_iconst (v := 5) hx hb dX12_holds_240 (by decide) ?_
    refine lv_iload_n hx hb dX12_holds_241 rfl (lv_at hl 6 rfl) ?_
    refine lv_iadd hx hb dX12_holds_242 ?_
    refine lv_topi (fun x_302 ex_302 => ?_)
    have h_303 : rg 5 14 x_302 := by rw [ex_302]; exact rg_add (⟨by decide, by decide⟩ : rg 5 5 (5 : Int32)) i_a2 (by decide) (by decide) (by decide) (by decide)
    have l_304 : lq x_302.toInt (a2.toInt + 5) := lqm (by rw [ex_302]; have q := tadd (⟨by decide, by decide⟩ : rg 5 5 (5 : Int32)) i_a2 (by decide) (by decide); have r0 := lqe (lqm (by decide) : lq (5 : Int32).toInt 5); omega)
    refine va_iald hx hb hK.1 hP 1 0 rfl rfl (rg_in h_303 (by decide) (by decide)) dX12_holds_243 ?_
    refine lv_topi (fun x_305 ex_305 => ?_)
    refine lv_goto (tgt := 286) hx hb dX12_holds_244 (by decide) ?_
    exact J286_153 x_188 x_198 x_305 h_189 H locs ls (oPsub hP [0, 1] rfl) (hD.sub [0, 1] (by decide) rfl) hS (lv_sub hl [4, 3, 1] rfl)
set_option maxHeartbeats 4000000 in
set_option maxRecDepth 100000 in
theorem s_X12_holds_3 (l : Launch) (D : va_G) (ca : Nat → ClassId) (sz : Nat) (h0 : Nat) (a1 : Int32) (a2 : Int32) (h0_thrown : Int32) (h0_tape : Nat) (h0_taped : Int32) (h0_size : Int32) (h0_limit : Int32) (h0_to : Int32) (h0_from : Int32) (h0_kind : Int32) (h0_number : Int32) (h0_sign : Int32) (h0_fault : Int32) (h0_place : Int32) (h0_word : Int64) (h0_told : Int32) (h0_now : Nat) (h0_read : Nat) (h0_kept : Nat) (h0_snaps : Nat) (h0_aside : Nat) (h0_name : Nat) (h0_readName : Nat) (h0_keptName : Nat) (h0_isKept : Nat) (h0_onces : Nat) (h0_snapMany : Int32) (h0_lowest : Int32) (h0_highest : Int32) (h0_agreed : Int32) (h0_jurors : Int32) (h0_panelled : Int32) (h0_inSets : Nat) (h0_surely : Int32) (h0_asked : Int32) (h0_frees : Nat) (h0_struck : Int32) (h0_beating : Int32) (h0_text : Nat) (h0_texts : Int32) (h0_seed : Int32) (h0_line : Nat) (h0_written : Nat) (h0_lineMany : Int32) (h0_hasWritten : Int32) (h0_node : Nat) (h0_nodes : Int32) (h0_onesMany : Int32) (h0_within : Int32) (h0_top : Int32) (F_h0_now : Nat → Int32) (i_a1 : rg 0 2 a1) (i_a2 : rg 0 9 a2) (i_h0_taped : rg 0 940 h0_taped) (i_h0_size : rg 0 940 h0_size) (i_h0_to : rg 0 940 h0_to) (i_h0_kind : rg 0 4 h0_kind) (i_h0_snapMany : rg 0 8 h0_snapMany) (i_h0_texts : rg 0 64 h0_texts) (i_h0_lineMany : rg 0 40 h0_lineMany) (i_h0_hasWritten : rg 0 1 h0_hasWritten) (i_h0_nodes : rg 0 60 h0_nodes) (i_h0_onesMany : rg 0 20 h0_onesMany) (s_h0_now_0 : sg 0 1 0 10 F_h0_now) (s_h0_now_1 : sg 1 2 0 4 F_h0_now) (s_h0_now_2 : sg 2 3 0 5 F_h0_now) (s_h0_now_3 : sg 35 36 0 1023 F_h0_now) (s_h0_now_4 : sg 44 49 0 3 F_h0_now) (s_h0_now_5 : sg 90 91 0 1023 F_h0_now) (s_h0_now_6 : sg 124 129 0 1023 F_h0_now) (s_h0_now_7 : sg 135 136 0 39 F_h0_now) (cu_tokw : tokb 136 F_h0_now) : oMet l yX12_holds wsX12_holds ({ frames := 7, cells := 0, slots := 0, locals := 171 } : Room) [.ref h0, .int a1, .int a2] D ca sz [(h0, .inr (11, [.int h0_thrown, .ref h0_tape, .int h0_taped, .int h0_size, .int h0_limit, .int h0_to, .int h0_from, .int h0_kind, .int h0_number, .int h0_sign, .int h0_fault, .int h0_place, .long h0_word, .int h0_told, .ref h0_now, .ref h0_read, .ref h0_kept, .ref h0_snaps, .ref h0_aside, .ref h0_name, .ref h0_readName, .ref h0_keptName, .ref h0_isKept, .ref h0_onces, .int h0_snapMany, .int h0_lowest, .int h0_highest, .int h0_agreed, .int h0_jurors, .int h0_panelled, .ref h0_inSets, .int h0_surely, .int h0_asked, .ref h0_frees, .int h0_struck, .int h0_beating, .ref h0_text, .int h0_texts, .int h0_seed, .ref h0_line, .ref h0_written, .int h0_lineMany, .int h0_hasWritten, .ref h0_node, .int h0_nodes, .int h0_onesMany, .int h0_within, .int h0_top])), (aI ca h0_now 376 F_h0_now)] (oQi D (fun (r : Int32) (u : Int32 × Int32) => ((r = 0)) ∨ ((r = 1))) (fun (u : Int32 × Int32) => [(h0, .inr (11, [.int h0_thrown, .ref h0_tape, .int h0_taped, .int h0_size, .int h0_limit, .int h0_to, .int h0_from, .int h0_kind, .int h0_number, .int h0_sign, .int h0_fault, .int h0_place, .long h0_word, .int h0_told, .ref h0_now, .ref h0_read, .ref h0_kept, .ref h0_snaps, .ref h0_aside, .ref h0_name, .ref h0_readName, .ref h0_keptName, .ref h0_isKept, .ref h0_onces, .int h0_snapMany, .int u.1, .int u.2, .int h0_agreed, .int h0_jurors, .int h0_panelled, .ref h0_inSets, .int h0_surely, .int h0_asked, .ref h0_frees, .int h0_struck, .int h0_beating, .ref h0_text, .int h0_texts, .int h0_seed, .ref h0_line, .ref h0_written, .int h0_lineMany, .int h0_hasWritten, .ref h0_node, .int h0_nodes, .int h0_onesMany, .int h0_within, .int h0_top])), (aI ca h0_now 376 F_h0_now)])) 0 0 := by
  refine oM (cc := cX12_holds) (maxL := 8) (ret := (some .boolean)) (by decide) rfl (Nat.le_of_ble_eq_true rfl) [(0, .ref h0), (1, .int a1), (2, .int a2)] rfl ?_
  intro p e s m below meth c A H locs ls hx hb hr hml hts hown hlocks hin hK hP hD hA hS hl
  have hown : s.vm.findClass RX12 = some m.cls := hown
  have k1 := hts (.fieldLink RX12 98 "LidCourtModel" "now" "[I") (by decide +kernel)
  have k2 : ∀ w ∈ wsX120, w ∈ wsX12_holds := fun _ h => List.mem_cons_of_mem _ (List.mem_append_right _ h)
  have J286_153 : ∀ (y286_0 : Int32) (y286_1 : Int32) (y286_2 : Int32), rg 136 144 y286_0 → ∀ (H : Heap) (locs : List Loc) (ls : Array Slot), va_P D vwCl [(h0, .inr (11, [.int h0_thrown, .ref h0_tape, .int h0_taped, .int h0_size, .int h0_limit, .int h0_to, .int h0_from, .int h0_kind, .int h0_number, .int h0_sign, .int h0_fault, .int h0_place, .long h0_word, .int h0_told, .ref h0_now, .ref h0_read, .ref h0_kept, .ref h0_snaps, .ref h0_aside, .ref h0_name, .ref h0_readName, .ref h0_keptName, .ref h0_isKept, .ref h0_onces, .int h0_snapMany, .int h0_lowest, .int h0_highest, .int h0_agreed, .int h0_jurors, .int h0_panelled, .ref h0_inSets, .int h0_surely, .int h0_asked, .ref h0_frees, .int h0_struck, .int h0_beating, .ref h0_text, .int h0_texts, .int h0_seed, .ref h0_line, .ref h0_written, .int h0_lineMany, .int h0_hasWritten, .ref h0_node, .int h0_nodes, .int h0_onesMany, .int h0_within, .int h0_top])), (aI ca h0_now 376 F_h0_now)] H → va_D A [(h0, .inr (11, [.int h0_thrown, .ref h0_tape, .int h0_taped, .int h0_size, .int h0_limit, .int h0_to, .int h0_from, .int h0_kind, .int h0_number, .int h0_sign, .int h0_fault, .int h0_place, .long h0_word, .int h0_told, .ref h0_now, .ref h0_read, .ref h0_kept, .ref h0_snaps, .ref h0_aside, .ref h0_name, .ref h0_readName, .ref h0_keptName, .ref h0_isKept, .ref h0_onces, .int h0_snapMany, .int h0_lowest, .int h0_highest, .int h0_agreed, .int h0_jurors, .int h0_panelled, .ref h0_inSets, .int h0_surely, .int h0_asked, .ref h0_frees, .int h0_struck, .int h0_beating, .ref h0_text, .int h0_texts, .int h0_seed, .ref h0_line, .ref h0_written, .int h0_lineMany, .int h0_hasWritten, .ref h0_node, .int h0_nodes, .int h0_onesMany, .int h0_within, .int h0_top])), (aI ca h0_now 376 F_h0_now)] → va_S A s.heap H locs → lv_has ls 8 [(0, .ref h0), (3, .int y286_0), (5, .int y286_1)] → W p l e ({ frames := 7, cells := 0, slots := 0, locals := 171 } : Room) s m ([.ref h0, .int a1, .int a2] : List Value).toArray below meth c H locs 0 0 (MQ below ((oQi D (fun (r : Int32) (u : Int32 × Int32) => ((r = 0)) ∨ ((r = 1))) (fun (u : Int32 × Int32) => [(h0, .inr (11, [.int h0_thrown, .ref h0_tape, .int h0_taped, .int h0_size, .int h0_limit, .int h0_to, .int h0_from, .int h0_kind, .int h0_number, .int h0_sign, .int h0_fault, .int h0_place, .long h0_word, .int h0_told, .ref h0_now, .ref h0_read, .ref h0_kept, .ref h0_snaps, .ref h0_aside, .ref h0_name, .ref h0_readName, .ref h0_keptName, .ref h0_isKept, .ref h0_onces, .int h0_snapMany, .int u.1, .int u.2, .int h0_agreed, .int h0_jurors, .int h0_panelled, .ref h0_inSets, .int h0_surely, .int h0_asked, .ref h0_frees, .int h0_struck, .int h0_beating, .ref h0_text, .int h0_texts, .int h0_seed, .ref h0_line, .ref h0_written, .int h0_lineMany, .int h0_hasWritten, .ref h0_node, .int h0_nodes, .int h0_onesMany, .int h0_within, .int h0_top])), (aI ca h0_now 376 F_h0_now)])) A) ([.ref h0, .int a1, .int a2] : List Value).toArray s 0 0 A) (F0 m 286 ls [.int y286_2]) := by
    intro y286_0 y286_1 y286_2 hy286_0 H locs ls hP hD hS hl
    refine lv_istore (lv' := [(7, .int y286_2), (0, .ref h0), (3, .int y286_0), (5, .int y286_1)]) hx hb dX12_holds_286 hl (by decide) rfl (fun ls hl => ?_)
    refine lv_aload_n hx hb dX12_holds_288 rfl (lv_at hl 1 rfl) ?_
    refine va_get (D := D) (ci := 11) (v := .ref h0_now) (C := RX12) (T := TX12) (N := 48) hx hb hts k2 hown hK.1 hP 0 rfl rfl 14 (by decide) k1 (fun _ h9 => h9) rfl dX12_holds_289 ?_
    refine lv_iload_n hx hb dX12_holds_292 rfl (lv_at hl 2 rfl) ?_
    refine lv_iconst (v := 3) hx hb dX12_holds_293 (by decide) ?_
    refine lv_iadd hx hb dX12_holds_294 ?_
    refine lv_topi (fun x_154 ex_154 => ?_)
    have h_155 : rg 139 147 x_154 := by rw [ex_154]; exact rg_add hy286_0 (⟨by decide, by decide⟩ : rg 3 3 (3 : Int32)) (by decide) (by decide) (by decide) (by decide)
    have l_156 : lq x_154.toInt (y286_0.toInt + 3) := lqm (by rw [ex_154]; have q := tadd hy286_0 (⟨by decide, by decide⟩ : rg 3 3 (3 : Int32)) (by decide) (by decide); have r1 := lqe (lqm (by decide) : lq (3 : Int32).toInt 3); omega)
    refine va_iald hx hb hK.1 hP 1 0 rfl rfl (rg_in h_155 (by decide) (by decide)) dX12_holds_295 ?_
    refine lv_topi (fun x_157 ex_157 => ?_)
    refine lv_bipush (v := 60) hx hb dX12_holds_296 (by decide) ?_
    refine lv_icmp_ne (tgt := 316) hx hb dX12_holds_298 (by decide) (fun c_158 => ?_) (fun c_158 => ?_)
    · skip
      refine lv_aload_n hx hb dX12_holds_316 rfl (lv_at hl 1 rfl) ?_
      refine va_get (D := D) (ci := 11) (v := .ref h0_now) (C := RX12) (T := TX12) (N := 48) hx hb hts k2 hown hK.1 hP 0 rfl rfl 14 (by decide) k1 (fun _ h9 => h9) rfl dX12_holds_317 ?_
      refine lv_iload_n hx hb dX12_holds_320 rfl (lv_at hl 2 rfl) ?_
      refine lv_iconst (v := 3) hx hb dX12_holds_321 (by decide) ?_
      refine lv_iadd hx hb dX12_holds_322 ?_
      refine lv_topi (fun x_159 ex_159 => ?_)
      have h_160 : rg 139 147 x_159 := by rw [ex_159]; exact rg_add hy286_0 (⟨by decide, by decide⟩ : rg 3 3 (3 : Int32)) (by decide) (by decide) (by decide) (by decide)
      have l_161 : lq x_159.toInt (y286_0.toInt + 3) := lqm (by rw [ex_159]; have q := tadd hy286_0 (⟨by decide, by decide⟩ : rg 3 3 (3 : Int32)) (by decide) (by decide); have r1 := lqe (lqm (by decide) : lq (3 : Int32).toInt 3); omega)
      refine va_iald hx hb hK.1 hP 1 0 rfl rfl (rg_in h_160 (by decide) (by decide)) dX12_holds_323 ?_
      refine lv_topi (fun x_162 ex_162 => ?_)
      refine lv_bipush (v := 61) hx hb dX12_holds_324 (by decide) ?_
      refine lv_icmp_ne (tgt := 344) hx hb dX12_holds_326 (by decide) (fun c_163 => ?_) (fun c_163 => ?_)
      · skip
        refine lv_iload hx hb dX12_holds_344 (lv_at hl 0 rfl) ?_
        refine lv_iload hx hb dX12_holds_346 (lv_at hl 3 rfl) ?_
        refine lv_icmp_le (tgt := 355) hx hb dX12_holds_348 (by decide) (fun c_164 => ?_) (fun c_164 => ?_)
        · skip
          have o_165 : rl 0 y286_2 y286_1 := rl_le c_164
          refine lv_iconst (v := 0) hx hb dX12_holds_355 (by decide) ?_
          exact oE_i hx hb hr (by decide) hlocks hP hD hS (h0_lowest, h0_highest) [0, 1] rfl (by decide) (Or.inl rfl) (Nat.le_of_ble_eq_true rfl) (Nat.le_of_ble_eq_true rfl) dX12_holds_356
        · skip
          have o_166 : rl 1 y286_1 y286_2 := rl_nle c_164
          have h_167 : rg (-2147483648) 2147483646 y286_1 := rl_x o_166 (rga y286_1) (rga y286_2) (by decide) (by decide)
          have h_168 : rg (-2147483647) 2147483647 y286_2 := rl_y o_166 (rga y286_1) (rga y286_2) (by decide) (by decide)
          refine lv_iconst (v := 1) hx hb dX12_holds_351 (by decide) ?_
          refine lv_goto (tgt := 356) hx hb dX12_holds_352 (by decide) ?_
          exact oE_i hx hb hr (by decide) hlocks hP hD hS (h0_lowest, h0_highest) [0, 1] rfl (by decide) (Or.inr (rfl)) (Nat.le_of_ble_eq_true rfl) (Nat.le_of_ble_eq_true rfl) dX12_holds_356
      · skip
        have o_169 : rl 0 x_162 61 := rl_eq c_163
        have h_170 : rg (-2147483648) 61 x_162 := rl_x o_169 (rga x_162) (⟨by decide, by decide⟩ : rg 61 61 (61 : Int32)) (by decide) (by decide)
        have o_171 : rl 0 61 x_162 := rl_eq c_163.symm
        have h_172 : rg 61 61 x_162 := rl_y o_171 (⟨by decide, by decide⟩ : rg 61 61 (61 : Int32)) h_170 (by decide) (by decide)
        refine lv_iload hx hb dX12_holds_329 (lv_at hl 0 rfl) ?_
        refine lv_iload hx hb dX12_holds_331 (lv_at hl 3 rfl) ?_
        refine lv_icmp_ne (tgt := 340) hx hb dX12_holds_333 (by decide) (fun c_173 => ?_) (fun c_173 => ?_)
        · skip
          refine lv_iconst (v := 0) hx hb dX12_holds_340 (by decide) ?_
          refine lv_goto (tgt := 356) hx hb dX12_holds_341 (by decide) ?_
          exact oE_i hx hb hr (by decide) hlocks hP hD hS (h0_lowest, h0_highest) [0, 1] rfl (by decide) (Or.inl rfl) (Nat.le_of_ble_eq_true rfl) (Nat.le_of_ble_eq_true rfl) dX12_holds_356
        · skip
          have o_174 : rl 0 y286_2 y286_1 := rl_eq c_173
          have o_175 : rl 0 y286_1 y286_2 := rl_eq c_173.symm
          refine lv_iconst (v := 1) hx hb dX12_holds_336 (by decide) ?_
          refine lv_goto (tgt := 356) hx hb dX12_holds_337 (by decide) ?_
          exact oE_i hx hb hr (by decide) hlocks hP hD hS (h0_lowest, h0_highest) [0, 1] rfl (by decide) (Or.inr (rfl)) (Nat.le_of_ble_eq_true rfl) (Nat.le_of_ble_eq_true rfl) dX12_holds_356
    · skip
      have o_176 : rl 0 x_157 60 := rl_eq c_158
      have h_177 : rg (-2147483648) 60 x_157 := rl_x o_176 (rga x_157) (⟨by decide, by decide⟩ : rg 60 60 (60 : Int32)) (by decide) (by decide)
      have o_178 : rl 0 60 x_157 := rl_eq c_158.symm
      have h_179 : rg 60 60 x_157 := rl_y o_178 (⟨by decide, by decide⟩ : rg 60 60 (60 : Int32)) h_177 (by decide) (by decide)
      refine lv_iload hx hb dX12_holds_301 (lv_at hl 0 rfl) ?_
      refine lv_iload hx hb dX12_holds_303 (lv_at hl 3 rfl) ?_
      refine lv_icmp_ge (tgt := 312) hx hb dX12_holds_305 (by decide) (fun c_180 => ?_) (fun c_180 => ?_)
      · skip
        have o_181 : rl 0 y286_1 y286_2 := rl_le c_180
        refine lv_iconst (v := 0) hx hb dX12_holds_312 (by decide) ?_
        refine lv_goto (tgt := 356) hx hb dX12_holds_313 (by decide) ?_
        exact oE_i hx hb hr (by decide) hlocks hP hD hS (h0_lowest, h0_highest) [0, 1] rfl (by decide) (Or.inl rfl) (Nat.le_of_ble_eq_true rfl) (Nat.le_of_ble_eq_true rfl) dX12_holds_356
      · skip
        have o_182 : rl 1 y286_2 y286_1 := rl_nle c_180
        have h_183 : rg (-2147483648) 2147483646 y286_2 := rl_x o_182 (rga y286_2) (rga y286_1) (by decide) (by decide)
        have h_184 : rg (-2147483647) 2147483647 y286_1 := rl_y o_182 (rga y286_2) (rga y286_1) (by decide) (by decide)
        refine lv_iconst (v := 1) hx hb dX12_holds_308 (by decide) ?_
        refine lv_goto (tgt := 356) hx hb dX12_holds_309 (by decide) ?_
        exact oE_i hx hb hr (by decide) hlocks hP hD hS (h0_lowest, h0_highest) [0, 1] rfl (by decide) (Or.inr (rfl)) (Nat.le_of_ble_eq_true rfl) (Nat.le_of_ble_eq_true rfl) dX12_holds_356
  refine lv_sipush (v := 136) hx hb dX12_holds_0 (by decide) ?_
  refine lv_iconst (v := 4) hx hb dX12_holds_3 (by decide) ?_
  refine lv_iload_n hx hb dX12_holds_4 rfl (lv_at hl 1 rfl) ?_
  refine lv_imul hx hb dX12_holds_5 ?_
  refine lv_topi (fun x_185 ex_185 => ?_)
  have h_186 : rg 0 8 x_185 := by rw [ex_185]; exact rg_mul' (k := 4) i_a1 (by decide) (by decide) (by decide) (by decide) (by decide) (by decide)
  have l_187 : lq x_185.toInt (4 * a1.toInt) := lqm (by rw [ex_185]; have q := tmul' (k := 4) (y := 4) i_a1 (by decide) (by decide) (by decide) (by decide); omega)
  refine lv_iadd hx hb dX12_holds_6 ?_
  refine lv_topi (fun x_188 ex_188 => ?_)
  have h_189 : rg 136 144 x_188 := by rw [ex_188]; exact rg_add (⟨by decide, by decide⟩ : rg 136 136 (136 : Int32)) h_186 (by decide) (by decide) (by decide) (by decide)
  have l_190 : lq x_188.toInt (4 * a1.toInt + 136) := lqm (by rw [ex_188]; have q := tadd (⟨by decide, by decide⟩ : rg 136 136 (136 : Int32)) h_186 (by decide) (by decide); have r0 := lqe (lqm (by decide) : lq (136 : Int32).toInt 136); have r1 := lqe l_187; omega)
  refine lv_istore_n (lv' := [(3, .int x_188), (0, .ref h0), (1, .int a1), (2, .int a2)]) hx hb dX12_holds_7 rfl hl (by decide) rfl (fun ls hl => ?_)
  refine lv_aload_n hx hb dX12_holds_8 rfl (lv_at hl 1 rfl) ?_
  refine va_get (D := D) (ci := 11) (v := .ref h0_now) (C := RX12) (T := TX12) (N := 48) hx hb hts k2 hown hK.1 hP 0 rfl rfl 14 (by decide) k1 (fun _ h9 => h9) rfl dX12_holds_9 ?_
  refine lv_iload_n hx hb dX12_holds_12 rfl (lv_at hl 0 rfl) ?_
  refine lv_iconst (v := 1) hx hb dX12_holds_13 (by decide) ?_
  refine lv_iadd hx hb dX12_holds_14 ?_
  refine lv_topi (fun x_191 ex_191 => ?_)
  have h_192 : rg 137 145 x_191 := by rw [ex_191]; exact rg_add h_189 (⟨by decide, by decide⟩ : rg 1 1 (1 : Int32)) (by decide) (by decide) (by decide) (by decide)
  have l_193 : lq x_191.toInt (4 * a1.toInt + 137) := lqm (by rw [ex_191]; have q := tadd h_189 (⟨by decide, by decide⟩ : rg 1 1 (1 : Int32)) (by decide) (by decide); have r0 := lqe l_190; have r1 := lqe (lqm (by decide) : lq (1 : Int32).toInt 1); omega)
  refine va_iald hx hb hK.1 hP 1 0 rfl rfl (rg_in h_192 (by decide) (by decide)) dX12_holds_15 ?_
  refine lv_topi (fun x_194 ex_194 => ?_)
  refine lv_istore (lv' := [(4, .int x_194), (3, .int x_188), (0, .ref h0), (1, .int a1), (2, .int a2)]) hx hb dX12_holds_16 hl (by decide) rfl (fun ls hl => ?_)
  refine lv_aload_n hx hb dX12_holds_18 rfl (lv_at hl 2 rfl) ?_
  refine va_get (D := D) (ci := 11) (v := .ref h0_now) (C := RX12) (T := TX12) (N := 48) hx hb hts k2 hown hK.1 hP 0 rfl rfl 14 (by decide) k1 (fun _ h9 => h9) rfl dX12_holds_19 ?_
  refine lv_iload_n hx hb dX12_holds_22 rfl (lv_at hl 1 rfl) ?_
  refine lv_iconst (v := 2) hx hb dX12_holds_23 (by decide) ?_
  refine lv_iadd hx hb dX12_holds_24 ?_
  refine lv_topi (fun x_195 ex_195 => ?_)
  have h_196 : rg 138 146 x_195 := by rw [ex_195]; exact rg_add h_189 (⟨by decide, by decide⟩ : rg 2 2 (2 : Int32)) (by decide) (by decide) (by decide) (by decide)
  have l_197 : lq x_195.toInt (4 * a1.toInt + 138) := lqm (by rw [ex_195]; have q := tadd h_189 (⟨by decide, by decide⟩ : rg 2 2 (2 : Int32)) (by decide) (by decide); have r0 := lqe l_190; have r1 := lqe (lqm (by decide) : lq (2 : Int32).toInt 2); omega)
  refine va_iald hx hb hK.1 hP 1 0 rfl rfl (rg_in h_196 (by decide) (by decide)) dX12_holds_25 ?_
  refine lv_topi (fun x_198 ex_198 => ?_)
  refine lv_istore (lv' := [(5, .int x_198), (4, .int x_194), (3, .int x_188), (0, .ref h0), (1, .int a1), (2, .int a2)]) hx hb dX12_holds_26 hl (by decide) rfl (fun ls hl => ?_)
  refine lv_aload_n hx hb dX12_holds_28 rfl (lv_at hl 3 rfl) ?_
  refine va_get (D := D) (ci := 11) (v := .ref h0_now) (C := RX12) (T := TX12) (N := 48) hx hb hts k2 hown hK.1 hP 0 rfl rfl 14 (by decide) k1 (fun _ h9 => h9) rfl dX12_holds_29 ?_
  refine lv_iload_n hx hb dX12_holds_32 rfl (lv_at hl 2 rfl) ?_
  refine va_iald hx hb hK.1 hP 1 0 rfl rfl (rg_in h_189 (by decide) (by decide)) dX12_holds_33 ?_
  refine lv_topi (fun x_199 ex_199 => ?_)
  have ht := tokb_at cu_tokw i_a1 (by decide) (by decide) ex_199 ex_194 ex_198 l_190 l_193 l_197
  by_cases c_200 : x_199 = 1
  · skip
    refine oti 1 c_200 ?_
    refine lv_lookup (off := 66) (tgt := 100) hx hb dX12_holds_34 (by decide) (by decide) (by decide) ?_
    have h_201 : rg 0 1 x_194 := by have q := rg_cl i_a1 (by decide); have q1 := i_a1.2; have q2 := ht.1 c_200; exact ⟨by omega, by omega⟩
    refine lv_aload_n hx hb dX12_holds_100 rfl (lv_at hl 3 rfl) ?_
    refine lv_iload hx hb dX12_holds_101 (lv_at hl 1 rfl) ?_
    refine lv_iload_n hx hb dX12_holds_103 rfl (lv_at hl 5 rfl) ?_
    refine oC_i (Wc := [(h0, .inr (11, [.int h0_thrown, .ref h0_tape, .int h0_taped, .int h0_size, .int h0_limit, .int h0_to, .int h0_from, .int h0_kind, .int h0_number, .int h0_sign, .int h0_fault, .int h0_place, .long h0_word, .int h0_told, .ref h0_now, .ref h0_read, .ref h0_kept, .ref h0_snaps, .ref h0_aside, .ref h0_name, .ref h0_readName, .ref h0_keptName, .ref h0_isKept, .ref h0_onces, .int h0_snapMany, .int h0_lowest, .int h0_highest, .int h0_agreed, .int h0_jurors, .int h0_panelled, .ref h0_inSets, .int h0_surely, .int h0_asked, .ref h0_frees, .int h0_struck, .int h0_beating, .ref h0_text, .int h0_texts, .int h0_seed, .ref h0_line, .ref h0_written, .int h0_lineMany, .int h0_hasWritten, .ref h0_node, .int h0_nodes, .int h0_onesMany, .int h0_within, .int h0_top])), (aI ca h0_now 376 F_h0_now)]) (Wr := []) (va_runV (As := [.int x_194, .int a2]) (rest := []) ⟨hx, hb, hml, hown, hts⟩ (s_X12_holds_2 l D ca H.size h0 x_194 a2 h0_thrown h0_tape h0_taped h0_size h0_limit h0_to h0_from h0_kind h0_number h0_sign h0_fault h0_place h0_word h0_told h0_now h0_read h0_kept h0_snaps h0_aside h0_name h0_readName h0_keptName h0_isKept h0_onces h0_snapMany h0_lowest h0_highest h0_agreed h0_jurors h0_panelled h0_inSets h0_surely h0_asked h0_frees h0_struck h0_beating h0_text h0_texts h0_seed h0_line h0_written h0_lineMany h0_hasWritten h0_node h0_nodes h0_onesMany h0_within h0_top F_h0_now h_201 i_a2 i_h0_taped i_h0_size i_h0_to i_h0_kind i_h0_snapMany i_h0_texts i_h0_lineMany i_h0_hasWritten i_h0_nodes i_h0_onesMany s_h0_now_0 s_h0_now_1 s_h0_now_2 s_h0_now_3 s_h0_now_4 s_h0_now_5 s_h0_now_6 s_h0_now_7 cu_tokw) (cwV 2 hts gX12_holds_X12_holds rfl rfl rfl (by decide +kernel) ⟨Nat.le_of_ble_eq_true rfl, Nat.le_of_ble_eq_true rfl⟩) (oPV (C := RX12) hK hP hD [0, 1] rfl (by decide) 0 rfl (ci := 11) rfl rfl) rfl rfl hl.1 rfl (lv_room (Nat.le_of_ble_eq_true rfl)) dX12_holds_104 ⟨Nat.le_of_ble_eq_true rfl, Nat.le_of_ble_eq_true rfl⟩) hP hD hS hA [0, 1] [] rfl rfl (by decide) (by decide) (fun r_202 u H locs w_203 hP hD hS => ?_)
    obtain ⟨u_204, u_205⟩ := u
    have hP : va_P D vwCl [(h0, .inr (11, [.int h0_thrown, .ref h0_tape, .int h0_taped, .int h0_size, .int h0_limit, .int h0_to, .int h0_from, .int h0_kind, .int h0_number, .int h0_sign, .int h0_fault, .int h0_place, .long h0_word, .int h0_told, .ref h0_now, .ref h0_read, .ref h0_kept, .ref h0_snaps, .ref h0_aside, .ref h0_name, .ref h0_readName, .ref h0_keptName, .ref h0_isKept, .ref h0_onces, .int h0_snapMany, .int u_204, .int u_205, .int h0_agreed, .int h0_jurors, .int h0_panelled, .ref h0_inSets, .int h0_surely, .int h0_asked, .ref h0_frees, .int h0_struck, .int h0_beating, .ref h0_text, .int h0_texts, .int h0_seed, .ref h0_line, .ref h0_written, .int h0_lineMany, .int h0_hasWritten, .ref h0_node, .int h0_nodes, .int h0_onesMany, .int h0_within, .int h0_top])), (aI ca h0_now 376 F_h0_now)] H := hP
    have hD : va_D A [(h0, .inr (11, [.int h0_thrown, .ref h0_tape, .int h0_taped, .int h0_size, .int h0_limit, .int h0_to, .int h0_from, .int h0_kind, .int h0_number, .int h0_sign, .int h0_fault, .int h0_place, .long h0_word, .int h0_told, .ref h0_now, .ref h0_read, .ref h0_kept, .ref h0_snaps, .ref h0_aside, .ref h0_name, .ref h0_readName, .ref h0_keptName, .ref h0_isKept, .ref h0_onces, .int h0_snapMany, .int u_204, .int u_205, .int h0_agreed, .int h0_jurors, .int h0_panelled, .ref h0_inSets, .int h0_surely, .int h0_asked, .ref h0_frees, .int h0_struck, .int h0_beating, .ref h0_text, .int h0_texts, .int h0_seed, .ref h0_line, .ref h0_written, .int h0_lineMany, .int h0_hasWritten, .ref h0_node, .int h0_nodes, .int h0_onesMany, .int h0_within, .int h0_top])), (aI ca h0_now 376 F_h0_now)] := hD
    try dsimp only at w_203
    rcases w_203 with h_206 | h_207
    · skip
      subst h_206
      refine lv_if_ne (tgt := 114) hx hb dX12_holds_107 (by decide) (fun _ => ?_) (fun c => absurd c (by decide))
      refine lv_iconst (v := 0) hx hb dX12_holds_114 (by decide) ?_
      exact oE_i hx hb hr (by decide) hlocks hP hD hS (u_204, u_205) [0, 1] rfl (by decide) (Or.inl rfl) (Nat.le_of_ble_eq_true rfl) (Nat.le_of_ble_eq_true rfl) dX12_holds_115
    · skip
      subst h_207
      refine lv_if_ne (tgt := 114) hx hb dX12_holds_107 (by decide) (fun c => absurd (by decide) c) (fun _ => ?_)
      refine lv_iconst (v := 1) hx hb dX12_holds_110 (by decide) ?_
      refine lv_goto (tgt := 115) hx hb dX12_holds_111 (by decide) ?_
      exact oE_i hx hb hr (by decide) hlocks hP hD hS (u_204, u_205) [0, 1] rfl (by decide) (Or.inr (rfl)) (Nat.le_of_ble_eq_true rfl) (Nat.le_of_ble_eq_true rfl) dX12_holds_115
  by_cases c_208 : x_199 = 2
  · skip
    refine oti 2 c_208 ?_
    refine lv_lookup (off := 82) (tgt := 116) hx hb dX12_holds_34 (by decide) (by decide) (by decide) ?_
    have h_209 : rg 0 1 x_194 := by have q := rg_cl i_a1 (by decide); have q1 := i_a1.2; have q2 := (ht.2.1 (Or.inl c_208)).1; exact ⟨by omega, by omega⟩
    have h_210 : rg 0 1 x_198 := by have q := rg_cl i_a1 (by decide); have q1 := i_a1.2; have q2 := (ht.2.1 (Or.inl c_208)).2; exact ⟨by omega, by omega⟩
    refine lv_aload_n hx hb dX12_holds_116 rfl (lv_at hl 3 rfl) ?_
    refine lv_iload hx hb dX12_holds_117 (lv_at hl 1 rfl) ?_
    refine lv_iload_n hx hb dX12_holds_119 rfl (lv_at hl 5 rfl) ?_
    refine oC_i (Wc := [(h0, .inr (11, [.int h0_thrown, .ref h0_tape, .int h0_taped, .int h0_size, .int h0_limit, .int h0_to, .int h0_from, .int h0_kind, .int h0_number, .int h0_sign, .int h0_fault, .int h0_place, .long h0_word, .int h0_told, .ref h0_now, .ref h0_read, .ref h0_kept, .ref h0_snaps, .ref h0_aside, .ref h0_name, .ref h0_readName, .ref h0_keptName, .ref h0_isKept, .ref h0_onces, .int h0_snapMany, .int h0_lowest, .int h0_highest, .int h0_agreed, .int h0_jurors, .int h0_panelled, .ref h0_inSets, .int h0_surely, .int h0_asked, .ref h0_frees, .int h0_struck, .int h0_beating, .ref h0_text, .int h0_texts, .int h0_seed, .ref h0_line, .ref h0_written, .int h0_lineMany, .int h0_hasWritten, .ref h0_node, .int h0_nodes, .int h0_onesMany, .int h0_within, .int h0_top])), (aI ca h0_now 376 F_h0_now)]) (Wr := []) (va_runV (As := [.int x_194, .int a2]) (rest := []) ⟨hx, hb, hml, hown, hts⟩ (s_X12_holds_2 l D ca H.size h0 x_194 a2 h0_thrown h0_tape h0_taped h0_size h0_limit h0_to h0_from h0_kind h0_number h0_sign h0_fault h0_place h0_word h0_told h0_now h0_read h0_kept h0_snaps h0_aside h0_name h0_readName h0_keptName h0_isKept h0_onces h0_snapMany h0_lowest h0_highest h0_agreed h0_jurors h0_panelled h0_inSets h0_surely h0_asked h0_frees h0_struck h0_beating h0_text h0_texts h0_seed h0_line h0_written h0_lineMany h0_hasWritten h0_node h0_nodes h0_onesMany h0_within h0_top F_h0_now h_209 i_a2 i_h0_taped i_h0_size i_h0_to i_h0_kind i_h0_snapMany i_h0_texts i_h0_lineMany i_h0_hasWritten i_h0_nodes i_h0_onesMany s_h0_now_0 s_h0_now_1 s_h0_now_2 s_h0_now_3 s_h0_now_4 s_h0_now_5 s_h0_now_6 s_h0_now_7 cu_tokw) (cwV 2 hts gX12_holds_X12_holds rfl rfl rfl (by decide +kernel) ⟨Nat.le_of_ble_eq_true rfl, Nat.le_of_ble_eq_true rfl⟩) (oPV (C := RX12) hK hP hD [0, 1] rfl (by decide) 0 rfl (ci := 11) rfl rfl) rfl rfl hl.1 rfl (lv_room (Nat.le_of_ble_eq_true rfl)) dX12_holds_120 ⟨Nat.le_of_ble_eq_true rfl, Nat.le_of_ble_eq_true rfl⟩) hP hD hS hA [0, 1] [] rfl rfl (by decide) (by decide) (fun r_211 u H locs w_212 hP hD hS => ?_)
    obtain ⟨u_213, u_214⟩ := u
    have hP : va_P D vwCl [(h0, .inr (11, [.int h0_thrown, .ref h0_tape, .int h0_taped, .int h0_size, .int h0_limit, .int h0_to, .int h0_from, .int h0_kind, .int h0_number, .int h0_sign, .int h0_fault, .int h0_place, .long h0_word, .int h0_told, .ref h0_now, .ref h0_read, .ref h0_kept, .ref h0_snaps, .ref h0_aside, .ref h0_name, .ref h0_readName, .ref h0_keptName, .ref h0_isKept, .ref h0_onces, .int h0_snapMany, .int u_213, .int u_214, .int h0_agreed, .int h0_jurors, .int h0_panelled, .ref h0_inSets, .int h0_surely, .int h0_asked, .ref h0_frees, .int h0_struck, .int h0_beating, .ref h0_text, .int h0_texts, .int h0_seed, .ref h0_line, .ref h0_written, .int h0_lineMany, .int h0_hasWritten, .ref h0_node, .int h0_nodes, .int h0_onesMany, .int h0_within, .int h0_top])), (aI ca h0_now 376 F_h0_now)] H := hP
    have hD : va_D A [(h0, .inr (11, [.int h0_thrown, .ref h0_tape, .int h0_taped, .int h0_size, .int h0_limit, .int h0_to, .int h0_from, .int h0_kind, .int h0_number, .int h0_sign, .int h0_fault, .int h0_place, .long h0_word, .int h0_told, .ref h0_now, .ref h0_read, .ref h0_kept, .ref h0_snaps, .ref h0_aside, .ref h0_name, .ref h0_readName, .ref h0_keptName, .ref h0_isKept, .ref h0_onces, .int h0_snapMany, .int u_213, .int u_214, .int h0_agreed, .int h0_jurors, .int h0_panelled, .ref h0_inSets, .int h0_surely, .int h0_asked, .ref h0_frees, .int h0_struck, .int h0_beating, .ref h0_text, .int h0_texts, .int h0_seed, .ref h0_line, .ref h0_written, .int h0_lineMany, .int h0_hasWritten, .ref h0_node, .int h0_nodes, .int h0_onesMany, .int h0_within, .int h0_top])), (aI ca h0_now 376 F_h0_now)] := hD
    try dsimp only at w_212
    rcases w_212 with h_215 | h_216
    · skip
      subst h_215
      refine lv_if_eq (tgt := 140) hx hb dX12_holds_123 (by decide) (fun c => absurd c (by decide)) (fun _ => ?_)
      refine lv_aload_n hx hb dX12_holds_126 rfl (lv_at hl 3 rfl) ?_
      refine lv_iload hx hb dX12_holds_127 (lv_at hl 0 rfl) ?_
      refine lv_iload_n hx hb dX12_holds_129 rfl (lv_at hl 5 rfl) ?_
      refine oC_i (Wc := [(h0, .inr (11, [.int h0_thrown, .ref h0_tape, .int h0_taped, .int h0_size, .int h0_limit, .int h0_to, .int h0_from, .int h0_kind, .int h0_number, .int h0_sign, .int h0_fault, .int h0_place, .long h0_word, .int h0_told, .ref h0_now, .ref h0_read, .ref h0_kept, .ref h0_snaps, .ref h0_aside, .ref h0_name, .ref h0_readName, .ref h0_keptName, .ref h0_isKept, .ref h0_onces, .int h0_snapMany, .int u_213, .int u_214, .int h0_agreed, .int h0_jurors, .int h0_panelled, .ref h0_inSets, .int h0_surely, .int h0_asked, .ref h0_frees, .int h0_struck, .int h0_beating, .ref h0_text, .int h0_texts, .int h0_seed, .ref h0_line, .ref h0_written, .int h0_lineMany, .int h0_hasWritten, .ref h0_node, .int h0_nodes, .int h0_onesMany, .int h0_within, .int h0_top])), (aI ca h0_now 376 F_h0_now)]) (Wr := []) (va_runV (As := [.int x_198, .int a2]) (rest := []) ⟨hx, hb, hml, hown, hts⟩ (s_X12_holds_2 l D ca H.size h0 x_198 a2 h0_thrown h0_tape h0_taped h0_size h0_limit h0_to h0_from h0_kind h0_number h0_sign h0_fault h0_place h0_word h0_told h0_now h0_read h0_kept h0_snaps h0_aside h0_name h0_readName h0_keptName h0_isKept h0_onces h0_snapMany u_213 u_214 h0_agreed h0_jurors h0_panelled h0_inSets h0_surely h0_asked h0_frees h0_struck h0_beating h0_text h0_texts h0_seed h0_line h0_written h0_lineMany h0_hasWritten h0_node h0_nodes h0_onesMany h0_within h0_top F_h0_now h_210 i_a2 i_h0_taped i_h0_size i_h0_to i_h0_kind i_h0_snapMany i_h0_texts i_h0_lineMany i_h0_hasWritten i_h0_nodes i_h0_onesMany s_h0_now_0 s_h0_now_1 s_h0_now_2 s_h0_now_3 s_h0_now_4 s_h0_now_5 s_h0_now_6 s_h0_now_7 cu_tokw) (cwV 2 hts gX12_holds_X12_holds rfl rfl rfl (by decide +kernel) ⟨Nat.le_of_ble_eq_true rfl, Nat.le_of_ble_eq_true rfl⟩) (oPV (C := RX12) hK hP hD [0, 1] rfl (by decide) 0 rfl (ci := 11) rfl rfl) rfl rfl hl.1 rfl (lv_room (Nat.le_of_ble_eq_true rfl)) dX12_holds_130 ⟨Nat.le_of_ble_eq_true rfl, Nat.le_of_ble_eq_true rfl⟩) hP hD hS hA [0, 1] [] rfl rfl (by decide) (by decide) (fun r_217 u H locs w_218 hP hD hS => ?_)
      obtain ⟨u_219, u_220⟩ := u
      have hP : va_P D vwCl [(h0, .inr (11, [.int h0_thrown, .ref h0_tape, .int h0_taped, .int h0_size, .int h0_limit, .int h0_to, .int h0_from, .int h0_kind, .int h0_number, .int h0_sign, .int h0_fault, .int h0_place, .long h0_word, .int h0_told, .ref h0_now, .ref h0_read, .ref h0_kept, .ref h0_snaps, .ref h0_aside, .ref h0_name, .ref h0_readName, .ref h0_keptName, .ref h0_isKept, .ref h0_onces, .int h0_snapMany, .int u_219, .int u_220, .int h0_agreed, .int h0_jurors, .int h0_panelled, .ref h0_inSets, .int h0_surely, .int h0_asked, .ref h0_frees, .int h0_struck, .int h0_beating, .ref h0_text, .int h0_texts, .int h0_seed, .ref h0_line, .ref h0_written, .int h0_lineMany, .int h0_hasWritten, .ref h0_node, .int h0_nodes, .int h0_onesMany, .int h0_within, .int h0_top])), (aI ca h0_now 376 F_h0_now)] H := hP
      have hD : va_D A [(h0, .inr (11, [.int h0_thrown, .ref h0_tape, .int h0_taped, .int h0_size, .int h0_limit, .int h0_to, .int h0_from, .int h0_kind, .int h0_number, .int h0_sign, .int h0_fault, .int h0_place, .long h0_word, .int h0_told, .ref h0_now, .ref h0_read, .ref h0_kept, .ref h0_snaps, .ref h0_aside, .ref h0_name, .ref h0_readName, .ref h0_keptName, .ref h0_isKept, .ref h0_onces, .int h0_snapMany, .int u_219, .int u_220, .int h0_agreed, .int h0_jurors, .int h0_panelled, .ref h0_inSets, .int h0_surely, .int h0_asked, .ref h0_frees, .int h0_struck, .int h0_beating, .ref h0_text, .int h0_texts, .int h0_seed, .ref h0_line, .ref h0_written, .int h0_lineMany, .int h0_hasWritten, .ref h0_node, .int h0_nodes, .int h0_onesMany, .int h0_within, .int h0_top])), (aI ca h0_now 376 F_h0_now)] := hD
      try dsimp only at w_218
      rcases w_218 with h_221 | h_222
      · skip
        subst h_221
        refine lv_if_eq (tgt := 140) hx hb dX12_holds_133 (by decide) (fun c => absurd c (by decide)) (fun _ => ?_)
        refine lv_iconst (v := 1) hx hb dX12_holds_136 (by decide) ?_
        refine lv_goto (tgt := 141) hx hb dX12_holds_137 (by decide) ?_
        exact oE_i hx hb hr (by decide) hlocks hP hD hS (u_219, u_220) [0, 1] rfl (by decide) (Or.inr (rfl)) (Nat.le_of_ble_eq_true rfl) (Nat.le_of_ble_eq_true rfl) dX12_holds_141
      · skip
        subst h_222
        refine lv_if_eq (tgt := 140) hx hb dX12_holds_133 (by decide) (fun _ => ?_) (fun c => absurd (by decide) c)
        refine lv_iconst (v := 0) hx hb dX12_holds_140 (by decide) ?_
        exact oE_i hx hb hr (by decide) hlocks hP hD hS (u_219, u_220) [0, 1] rfl (by decide) (Or.inl rfl) (Nat.le_of_ble_eq_true rfl) (Nat.le_of_ble_eq_true rfl) dX12_holds_141
    · skip
      subst h_216
      refine lv_if_eq (tgt := 140) hx hb dX12_holds_123 (by decide) (fun _ => ?_) (fun c => absurd (by decide) c)
      refine lv_iconst (v := 0) hx hb dX12_holds_140 (by decide) ?_
      exact oE_i hx hb hr (by decide) hlocks hP hD hS (u_213, u_214) [0, 1] rfl (by decide) (Or.inl rfl) (Nat.le_of_ble_eq_true rfl) (Nat.le_of_ble_eq_true rfl) dX12_holds_141
  by_cases c_223 : x_199 = 3
  · skip
    refine oti 3 c_223 ?_
    refine lv_lookup (off := 108) (tgt := 142) hx hb dX12_holds_34 (by decide) (by decide) (by decide) ?_
    have h_224 : rg 0 1 x_194 := by have q := rg_cl i_a1 (by decide); have q1 := i_a1.2; have q2 := (ht.2.1 (Or.inr c_223)).1; exact ⟨by omega, by omega⟩
    have h_225 : rg 0 1 x_198 := by have q := rg_cl i_a1 (by decide); have q1 := i_a1.2; have q2 := (ht.2.1 (Or.inr c_223)).2; exact ⟨by omega, by omega⟩
    refine lv_aload_n hx hb dX12_holds_142 rfl (lv_at hl 3 rfl) ?_
    refine lv_iload hx hb dX12_holds_143 (lv_at hl 1 rfl) ?_
    refine lv_iload_n hx hb dX12_holds_145 rfl (lv_at hl 5 rfl) ?_
    refine oC_i (Wc := [(h0, .inr (11, [.int h0_thrown, .ref h0_tape, .int h0_taped, .int h0_size, .int h0_limit, .int h0_to, .int h0_from, .int h0_kind, .int h0_number, .int h0_sign, .int h0_fault, .int h0_place, .long h0_word, .int h0_told, .ref h0_now, .ref h0_read, .ref h0_kept, .ref h0_snaps, .ref h0_aside, .ref h0_name, .ref h0_readName, .ref h0_keptName, .ref h0_isKept, .ref h0_onces, .int h0_snapMany, .int h0_lowest, .int h0_highest, .int h0_agreed, .int h0_jurors, .int h0_panelled, .ref h0_inSets, .int h0_surely, .int h0_asked, .ref h0_frees, .int h0_struck, .int h0_beating, .ref h0_text, .int h0_texts, .int h0_seed, .ref h0_line, .ref h0_written, .int h0_lineMany, .int h0_hasWritten, .ref h0_node, .int h0_nodes, .int h0_onesMany, .int h0_within, .int h0_top])), (aI ca h0_now 376 F_h0_now)]) (Wr := []) (va_runV (As := [.int x_194, .int a2]) (rest := []) ⟨hx, hb, hml, hown, hts⟩ (s_X12_holds_2 l D ca H.size h0 x_194 a2 h0_thrown h0_tape h0_taped h0_size h0_limit h0_to h0_from h0_kind h0_number h0_sign h0_fault h0_place h0_word h0_told h0_now h0_read h0_kept h0_snaps h0_aside h0_name h0_readName h0_keptName h0_isKept h0_onces h0_snapMany h0_lowest h0_highest h0_agreed h0_jurors h0_panelled h0_inSets h0_surely h0_asked h0_frees h0_struck h0_beating h0_text h0_texts h0_seed h0_line h0_written h0_lineMany h0_hasWritten h0_node h0_nodes h0_onesMany h0_within h0_top F_h0_now h_224 i_a2 i_h0_taped i_h0_size i_h0_to i_h0_kind i_h0_snapMany i_h0_texts i_h0_lineMany i_h0_hasWritten i_h0_nodes i_h0_onesMany s_h0_now_0 s_h0_now_1 s_h0_now_2 s_h0_now_3 s_h0_now_4 s_h0_now_5 s_h0_now_6 s_h0_now_7 cu_tokw) (cwV 2 hts gX12_holds_X12_holds rfl rfl rfl (by decide +kernel) ⟨Nat.le_of_ble_eq_true rfl, Nat.le_of_ble_eq_true rfl⟩) (oPV (C := RX12) hK hP hD [0, 1] rfl (by decide) 0 rfl (ci := 11) rfl rfl) rfl rfl hl.1 rfl (lv_room (Nat.le_of_ble_eq_true rfl)) dX12_holds_146 ⟨Nat.le_of_ble_eq_true rfl, Nat.le_of_ble_eq_true rfl⟩) hP hD hS hA [0, 1] [] rfl rfl (by decide) (by decide) (fun r_226 u H locs w_227 hP hD hS => ?_)
    obtain ⟨u_228, u_229⟩ := u
    have hP : va_P D vwCl [(h0, .inr (11, [.int h0_thrown, .ref h0_tape, .int h0_taped, .int h0_size, .int h0_limit, .int h0_to, .int h0_from, .int h0_kind, .int h0_number, .int h0_sign, .int h0_fault, .int h0_place, .long h0_word, .int h0_told, .ref h0_now, .ref h0_read, .ref h0_kept, .ref h0_snaps, .ref h0_aside, .ref h0_name, .ref h0_readName, .ref h0_keptName, .ref h0_isKept, .ref h0_onces, .int h0_snapMany, .int u_228, .int u_229, .int h0_agreed, .int h0_jurors, .int h0_panelled, .ref h0_inSets, .int h0_surely, .int h0_asked, .ref h0_frees, .int h0_struck, .int h0_beating, .ref h0_text, .int h0_texts, .int h0_seed, .ref h0_line, .ref h0_written, .int h0_lineMany, .int h0_hasWritten, .ref h0_node, .int h0_nodes, .int h0_onesMany, .int h0_within, .int h0_top])), (aI ca h0_now 376 F_h0_now)] H := hP
    have hD : va_D A [(h0, .inr (11, [.int h0_thrown, .ref h0_tape, .int h0_taped, .int h0_size, .int h0_limit, .int h0_to, .int h0_from, .int h0_kind, .int h0_number, .int h0_sign, .int h0_fault, .int h0_place, .long h0_word, .int h0_told, .ref h0_now, .ref h0_read, .ref h0_kept, .ref h0_snaps, .ref h0_aside, .ref h0_name, .ref h0_readName, .ref h0_keptName, .ref h0_isKept, .ref h0_onces, .int h0_snapMany, .int u_228, .int u_229, .int h0_agreed, .int h0_jurors, .int h0_panelled, .ref h0_inSets, .int h0_surely, .int h0_asked, .ref h0_frees, .int h0_struck, .int h0_beating, .ref h0_text, .int h0_texts, .int h0_seed, .ref h0_line, .ref h0_written, .int h0_lineMany, .int h0_hasWritten, .ref h0_node, .int h0_nodes, .int h0_onesMany, .int h0_within, .int h0_top])), (aI ca h0_now 376 F_h0_now)] := hD
    try dsimp only at w_227
    rcases w_227 with h_230 | h_231
    · skip
      subst h_230
      refine lv_if_ne (tgt := 162) hx hb dX12_holds_149 (by decide) (fun _ => ?_) (fun c => absurd c (by decide))
      refine lv_iconst (v := 1) hx hb dX12_holds_162 (by decide) ?_
      refine lv_goto (tgt := 167) hx hb dX12_holds_163 (by decide) ?_
      exact oE_i hx hb hr (by decide) hlocks hP hD hS (u_228, u_229) [0, 1] rfl (by decide) (Or.inr (rfl)) (Nat.le_of_ble_eq_true rfl) (Nat.le_of_ble_eq_true rfl) dX12_holds_167
    · skip
      subst h_231
      refine lv_if_ne (tgt := 162) hx hb dX12_holds_149 (by decide) (fun c => absurd (by decide) c) (fun _ => ?_)
      refine lv_aload_n hx hb dX12_holds_152 rfl (lv_at hl 3 rfl) ?_
      refine lv_iload hx hb dX12_holds_153 (lv_at hl 0 rfl) ?_
      refine lv_iload_n hx hb dX12_holds_155 rfl (lv_at hl 5 rfl) ?_
      refine oC_i (Wc := [(h0, .inr (11, [.int h0_thrown, .ref h0_tape, .int h0_taped, .int h0_size, .int h0_limit, .int h0_to, .int h0_from, .int h0_kind, .int h0_number, .int h0_sign, .int h0_fault, .int h0_place, .long h0_word, .int h0_told, .ref h0_now, .ref h0_read, .ref h0_kept, .ref h0_snaps, .ref h0_aside, .ref h0_name, .ref h0_readName, .ref h0_keptName, .ref h0_isKept, .ref h0_onces, .int h0_snapMany, .int u_228, .int u_229, .int h0_agreed, .int h0_jurors, .int h0_panelled, .ref h0_inSets, .int h0_surely, .int h0_asked, .ref h0_frees, .int h0_struck, .int h0_beating, .ref h0_text, .int h0_texts, .int h0_seed, .ref h0_line, .ref h0_written, .int h0_lineMany, .int h0_hasWritten, .ref h0_node, .int h0_nodes, .int h0_onesMany, .int h0_within, .int h0_top])), (aI ca h0_now 376 F_h0_now)]) (Wr := []) (va_runV (As := [.int x_198, .int a2]) (rest := []) ⟨hx, hb, hml, hown, hts⟩ (s_X12_holds_2 l D ca H.size h0 x_198 a2 h0_thrown h0_tape h0_taped h0_size h0_limit h0_to h0_from h0_kind h0_number h0_sign h0_fault h0_place h0_word h0_told h0_now h0_read h0_kept h0_snaps h0_aside h0_name h0_readName h0_keptName h0_isKept h0_onces h0_snapMany u_228 u_229 h0_agreed h0_jurors h0_panelled h0_inSets h0_surely h0_asked h0_frees h0_struck h0_beating h0_text h0_texts h0_seed h0_line h0_written h0_lineMany h0_hasWritten h0_node h0_nodes h0_onesMany h0_within h0_top F_h0_now h_225 i_a2 i_h0_taped i_h0_size i_h0_to i_h0_kind i_h0_snapMany i_h0_texts i_h0_lineMany i_h0_hasWritten i_h0_nodes i_h0_onesMany s_h0_now_0 s_h0_now_1 s_h0_now_2 s_h0_now_3 s_h0_now_4 s_h0_now_5 s_h0_now_6 s_h0_now_7 cu_tokw) (cwV 2 hts gX12_holds_X12_holds rfl rfl rfl (by decide +kernel) ⟨Nat.le_of_ble_eq_true rfl, Nat.le_of_ble_eq_true rfl⟩) (oPV (C := RX12) hK hP hD [0, 1] rfl (by decide) 0 rfl (ci := 11) rfl rfl) rfl rfl hl.1 rfl (lv_room (Nat.le_of_ble_eq_true rfl)) dX12_holds_156 ⟨Nat.le_of_ble_eq_true rfl, Nat.le_of_ble_eq_true rfl⟩) hP hD hS hA [0, 1] [] rfl rfl (by decide) (by decide) (fun r_232 u H locs w_233 hP hD hS => ?_)
      obtain ⟨u_234, u_235⟩ := u
      have hP : va_P D vwCl [(h0, .inr (11, [.int h0_thrown, .ref h0_tape, .int h0_taped, .int h0_size, .int h0_limit, .int h0_to, .int h0_from, .int h0_kind, .int h0_number, .int h0_sign, .int h0_fault, .int h0_place, .long h0_word, .int h0_told, .ref h0_now, .ref h0_read, .ref h0_kept, .ref h0_snaps, .ref h0_aside, .ref h0_name, .ref h0_readName, .ref h0_keptName, .ref h0_isKept, .ref h0_onces, .int h0_snapMany, .int u_234, .int u_235, .int h0_agreed, .int h0_jurors, .int h0_panelled, .ref h0_inSets, .int h0_surely, .int h0_asked, .ref h0_frees, .int h0_struck, .int h0_beating, .ref h0_text, .int h0_texts, .int h0_seed, .ref h0_line, .ref h0_written, .int h0_lineMany, .int h0_hasWritten, .ref h0_node, .int h0_nodes, .int h0_onesMany, .int h0_within, .int h0_top])), (aI ca h0_now 376 F_h0_now)] H := hP
      have hD : va_D A [(h0, .inr (11, [.int h0_thrown, .ref h0_tape, .int h0_taped, .int h0_size, .int h0_limit, .int h0_to, .int h0_from, .int h0_kind, .int h0_number, .int h0_sign, .int h0_fault, .int h0_place, .long h0_word, .int h0_told, .ref h0_now, .ref h0_read, .ref h0_kept, .ref h0_snaps, .ref h0_aside, .ref h0_name, .ref h0_readName, .ref h0_keptName, .ref h0_isKept, .ref h0_onces, .int h0_snapMany, .int u_234, .int u_235, .int h0_agreed, .int h0_jurors, .int h0_panelled, .ref h0_inSets, .int h0_surely, .int h0_asked, .ref h0_frees, .int h0_struck, .int h0_beating, .ref h0_text, .int h0_texts, .int h0_seed, .ref h0_line, .ref h0_written, .int h0_lineMany, .int h0_hasWritten, .ref h0_node, .int h0_nodes, .int h0_onesMany, .int h0_within, .int h0_top])), (aI ca h0_now 376 F_h0_now)] := hD
      try dsimp only at w_233
      rcases w_233 with h_236 | h_237
      · skip
        subst h_236
        refine lv_if_eq (tgt := 166) hx hb dX12_holds_159 (by decide) (fun c => absurd c (by decide)) (fun _ => ?_)
        refine lv_iconst (v := 1) hx hb dX12_holds_162 (by decide) ?_
        refine lv_goto (tgt := 167) hx hb dX12_holds_163 (by decide) ?_
        exact oE_i hx hb hr (by decide) hlocks hP hD hS (u_234, u_235) [0, 1] rfl (by decide) (Or.inr (rfl)) (Nat.le_of_ble_eq_true rfl) (Nat.le_of_ble_eq_true rfl) dX12_holds_167
      · skip
        subst h_237
        refine lv_if_eq (tgt := 166) hx hb dX12_holds_159 (by decide) (fun _ => ?_) (fun c => absurd (by decide) c)
        refine lv_iconst (v := 0) hx hb dX12_holds_166 (by decide) ?_
        exact oE_i hx hb hr (by decide) hlocks hP hD hS (u_234, u_235) [0, 1] rfl (by decide) (Or.inl rfl) (Nat.le_of_ble_eq_true rfl) (Nat.le_of_ble_eq_true rfl) dX12_holds_167
  by_cases c_238 : x_199 = 68
  · skip
    refine oti 68 c_238 ?_
    refine lv_lookup (off := 134) (tgt := 168) hx hb dX12_holds_34 (by decide) (by decide) (by decide) ?_
    refine lv_aload_n hx hb dX12_holds_168 rfl (lv_at hl 3 rfl) ?_
    refine va_get (D := D) (ci := 11) (v := .ref h0_now) (C := RX12) (T := TX12) (N := 48) hx hb hts k2 hown hK.1 hP 0 rfl rfl 14 (by decide) k1 (fun _ h9 => h9) rfl dX12_holds_169 ?_
    refine lv_bipush (v := 90) hx hb dX12_holds_172 (by decide) ?_
    refine va_iald hx hb hK.1 hP 1 0 rfl rfl (rg_in (⟨by decide, by decide⟩ : rg 90 90 (90 : Int32)) (by decide) (by decide)) dX12_holds_174 ?_
    refine lv_topi (fun x_239 ex_239 => ?_)
    have h_240 : rg 0 1023 x_239 := by rw [ex_239]; exact sg_at s_h0_now_5 (⟨by decide, by decide⟩ : rg 90 90 (90 : Int32)) (by decide) (by decide) (by decide)
    refine lv_iload_n hx hb dX12_holds_175 rfl (lv_at hl 5 rfl) ?_
    refine oC_i (Wc := []) (Wr := [(h0, .inr (11, [.int h0_thrown, .ref h0_tape, .int h0_taped, .int h0_size, .int h0_limit, .int h0_to, .int h0_from, .int h0_kind, .int h0_number, .int h0_sign, .int h0_fault, .int h0_place, .long h0_word, .int h0_told, .ref h0_now, .ref h0_read, .ref h0_kept, .ref h0_snaps, .ref h0_aside, .ref h0_name, .ref h0_readName, .ref h0_keptName, .ref h0_isKept, .ref h0_onces, .int h0_snapMany, .int h0_lowest, .int h0_highest, .int h0_agreed, .int h0_jurors, .int h0_panelled, .ref h0_inSets, .int h0_surely, .int h0_asked, .ref h0_frees, .int h0_struck, .int h0_beating, .ref h0_text, .int h0_texts, .int h0_seed, .ref h0_line, .ref h0_written, .int h0_lineMany, .int h0_hasWritten, .ref h0_node, .int h0_nodes, .int h0_onesMany, .int h0_within, .int h0_top])), (aI ca h0_now 376 F_h0_now)]) (va_runS (As := [.int x_239, .int a2]) (rest := []) ⟨hx, hb, hml, hown, hts⟩ (s_X12_has l D ca H.size x_239 a2) (va_cwS 2 hts gX12_holds_X12_has rfl rfl rfl (by decide +kernel) ⟨Nat.le_of_ble_eq_true rfl, Nat.le_of_ble_eq_true rfl⟩) (oPS hK hP hD [] rfl (by decide)) rfl rfl hl.1 rfl (lv_room (Nat.le_of_ble_eq_true rfl)) dX12_holds_176 ⟨Nat.le_of_ble_eq_true rfl, Nat.le_of_ble_eq_true rfl⟩) hP hD hS hA [] [0, 1] rfl rfl (by decide) (by decide) (fun r_241 u H locs w_242 hP hD hS => ?_)
    obtain ⟨⟩ := u
    have hP : va_P D vwCl [(h0, .inr (11, [.int h0_thrown, .ref h0_tape, .int h0_taped, .int h0_size, .int h0_limit, .int h0_to, .int h0_from, .int h0_kind, .int h0_number, .int h0_sign, .int h0_fault, .int h0_place, .long h0_word, .int h0_told, .ref h0_now, .ref h0_read, .ref h0_kept, .ref h0_snaps, .ref h0_aside, .ref h0_name, .ref h0_readName, .ref h0_keptName, .ref h0_isKept, .ref h0_onces, .int h0_snapMany, .int h0_lowest, .int h0_highest, .int h0_agreed, .int h0_jurors, .int h0_panelled, .ref h0_inSets, .int h0_surely, .int h0_asked, .ref h0_frees, .int h0_struck, .int h0_beating, .ref h0_text, .int h0_texts, .int h0_seed, .ref h0_line, .ref h0_written, .int h0_lineMany, .int h0_hasWritten, .ref h0_node, .int h0_nodes, .int h0_onesMany, .int h0_within, .int h0_top])), (aI ca h0_now 376 F_h0_now)] H := hP
    have hD : va_D A [(h0, .inr (11, [.int h0_thrown, .ref h0_tape, .int h0_taped, .int h0_size, .int h0_limit, .int h0_to, .int h0_from, .int h0_kind, .int h0_number, .int h0_sign, .int h0_fault, .int h0_place, .long h0_word, .int h0_told, .ref h0_now, .ref h0_read, .ref h0_kept, .ref h0_snaps, .ref h0_aside, .ref h0_name, .ref h0_readName, .ref h0_keptName, .ref h0_isKept, .ref h0_onces, .int h0_snapMany, .int h0_lowest, .int h0_highest, .int h0_agreed, .int h0_jurors, .int h0_panelled, .ref h0_inSets, .int h0_surely, .int h0_asked, .ref h0_frees, .int h0_struck, .int h0_beating, .ref h0_text, .int h0_texts, .int h0_seed, .ref h0_line, .ref h0_written, .int h0_lineMany, .int h0_hasWritten, .ref h0_node, .int h0_nodes, .int h0_onesMany, .int h0_within, .int h0_top])), (aI ca h0_now 376 F_h0_now)] := hD
    try dsimp only at w_242
    rcases w_242 with ⟨h_243, h_244⟩ | ⟨h_245, h_246⟩
    · skip
      subst h_243
      exact oE_i hx hb hr (by decide) hlocks hP hD hS (h0_lowest, h0_highest) [0, 1] rfl (by decide) (Or.inl rfl) (Nat.le_of_ble_eq_true rfl) (Nat.le_of_ble_eq_true rfl) dX12_holds_179
    · skip
      subst h_245
      exact oE_i hx hb hr (by decide) hlocks hP hD hS (h0_lowest, h0_highest) [0, 1] rfl (by decide) (Or.inr (rfl)) (Nat.le_of_ble_eq_true rfl) (Nat.le_of_ble_eq_true rfl) dX12_holds_179
  by_cases c_247 : x_199 = 69
  · skip
    refine oti 69 c_247 ?_
    refine lv_lookup (off := 146) (tgt := 180) hx hb dX12_holds_34 (by decide) (by decide) (by decide) ?_
    refine lv_aload_n hx hb dX12_holds_180 rfl (lv_at hl 3 rfl) ?_
    refine va_get (D := D) (ci := 11) (v := .ref h0_now) (C := RX12) (T := TX12) (N := 48) hx hb hts k2 hown hK.1 hP 0 rfl rfl 14 (by decide) k1 (fun _ h9 => h9) rfl dX12_holds_181 ?_
    refine lv_bipush (v := 91) hx hb dX12_holds_184 (by decide) ?_
    refine va_iald hx hb hK.1 hP 1 0 rfl rfl (rg_in (⟨by decide, by decide⟩ : rg 91 91 (91 : Int32)) (by decide) (by decide)) dX12_holds_186 ?_
    refine lv_topi (fun x_248 ex_248 => ?_)
    refine lv_iload_n hx hb dX12_holds_187 rfl (lv_at hl 5 rfl) ?_
    refine oC_i (Wc := []) (Wr := [(h0, .inr (11, [.int h0_thrown, .ref h0_tape, .int h0_taped, .int h0_size, .int h0_limit, .int h0_to, .int h0_from, .int h0_kind, .int h0_number, .int h0_sign, .int h0_fault, .int h0_place, .long h0_word, .int h0_told, .ref h0_now, .ref h0_read, .ref h0_kept, .ref h0_snaps, .ref h0_aside, .ref h0_name, .ref h0_readName, .ref h0_keptName, .ref h0_isKept, .ref h0_onces, .int h0_snapMany, .int h0_lowest, .int h0_highest, .int h0_agreed, .int h0_jurors, .int h0_panelled, .ref h0_inSets, .int h0_surely, .int h0_asked, .ref h0_frees, .int h0_struck, .int h0_beating, .ref h0_text, .int h0_texts, .int h0_seed, .ref h0_line, .ref h0_written, .int h0_lineMany, .int h0_hasWritten, .ref h0_node, .int h0_nodes, .int h0_onesMany, .int h0_within, .int h0_top])), (aI ca h0_now 376 F_h0_now)]) (va_runS (As := [.int x_248, .int a2]) (rest := []) ⟨hx, hb, hml, hown, hts⟩ (s_X12_has l D ca H.size x_248 a2) (va_cwS 2 hts gX12_holds_X12_has rfl rfl rfl (by decide +kernel) ⟨Nat.le_of_ble_eq_true rfl, Nat.le_of_ble_eq_true rfl⟩) (oPS hK hP hD [] rfl (by decide)) rfl rfl hl.1 rfl (lv_room (Nat.le_of_ble_eq_true rfl)) dX12_holds_188 ⟨Nat.le_of_ble_eq_true rfl, Nat.le_of_ble_eq_true rfl⟩) hP hD hS hA [] [0, 1] rfl rfl (by decide) (by decide) (fun r_249 u H locs w_250 hP hD hS => ?_)
    obtain ⟨⟩ := u
    have hP : va_P D vwCl [(h0, .inr (11, [.int h0_thrown, .ref h0_tape, .int h0_taped, .int h0_size, .int h0_limit, .int h0_to, .int h0_from, .int h0_kind, .int h0_number, .int h0_sign, .int h0_fault, .int h0_place, .long h0_word, .int h0_told, .ref h0_now, .ref h0_read, .ref h0_kept, .ref h0_snaps, .ref h0_aside, .ref h0_name, .ref h0_readName, .ref h0_keptName, .ref h0_isKept, .ref h0_onces, .int h0_snapMany, .int h0_lowest, .int h0_highest, .int h0_agreed, .int h0_jurors, .int h0_panelled, .ref h0_inSets, .int h0_surely, .int h0_asked, .ref h0_frees, .int h0_struck, .int h0_beating, .ref h0_text, .int h0_texts, .int h0_seed, .ref h0_line, .ref h0_written, .int h0_lineMany, .int h0_hasWritten, .ref h0_node, .int h0_nodes, .int h0_onesMany, .int h0_within, .int h0_top])), (aI ca h0_now 376 F_h0_now)] H := hP
    have hD : va_D A [(h0, .inr (11, [.int h0_thrown, .ref h0_tape, .int h0_taped, .int h0_size, .int h0_limit, .int h0_to, .int h0_from, .int h0_kind, .int h0_number, .int h0_sign, .int h0_fault, .int h0_place, .long h0_word, .int h0_told, .ref h0_now, .ref h0_read, .ref h0_kept, .ref h0_snaps, .ref h0_aside, .ref h0_name, .ref h0_readName, .ref h0_keptName, .ref h0_isKept, .ref h0_onces, .int h0_snapMany, .int h0_lowest, .int h0_highest, .int h0_agreed, .int h0_jurors, .int h0_panelled, .ref h0_inSets, .int h0_surely, .int h0_asked, .ref h0_frees, .int h0_struck, .int h0_beating, .ref h0_text, .int h0_texts, .int h0_seed, .ref h0_line, .ref h0_written, .int h0_lineMany, .int h0_hasWritten, .ref h0_node, .int h0_nodes, .int h0_onesMany, .int h0_within, .int h0_top])), (aI ca h0_now 376 F_h0_now)] := hD
    try dsimp only at w_250
    rcases w_250 with ⟨h_251, h_252⟩ | ⟨h_253, h_254⟩
    · skip
      subst h_251
      exact oE_i hx hb hr (by decide) hlocks hP hD hS (h0_lowest, h0_highest) [0, 1] rfl (by decide) (Or.inl rfl) (Nat.le_of_ble_eq_true rfl) (Nat.le_of_ble_eq_true rfl) dX12_holds_191
    · skip
      subst h_253
      exact oE_i hx hb hr (by decide) hlocks hP hD hS (h0_lowest, h0_highest) [0, 1] rfl (by decide) (Or.inr (rfl)) (Nat.le_of_ble_eq_true rfl) (Nat.le_of_ble_eq_true rfl) dX12_holds_191
  by_cases c_255 : x_199 = 70
  · skip
    refine oti 70 c_255 ?_
    refine lv_lookup (off := 158) (tgt := 192) hx hb dX12_holds_34 (by decide) (by decide) (by decide) ?_
    refine lv_aload_n hx hb dX12_holds_192 rfl (lv_at hl 3 rfl) ?_
    refine va_get (D := D) (ci := 11) (v := .ref h0_now) (C := RX12) (T := TX12) (N := 48) hx hb hts k2 hown hK.1 hP 0 rfl rfl 14 (by decide) k1 (fun _ h9 => h9) rfl dX12_holds_193 ?_
    refine lv_bipush (v := 94) hx hb dX12_holds_196 (by decide) ?_
    refine lv_iload_n hx hb dX12_holds_198 rfl (lv_at hl 5 rfl) ?_
    refine lv_iadd hx hb dX12_holds_199 ?_
    refine lv_topi (fun x_256 ex_256 => ?_)
    have h_257 : rg 94 103 x_256 := by rw [ex_256]; exact rg_add (⟨by decide, by decide⟩ : rg 94 94 (94 : Int32)) i_a2 (by decide) (by decide) (by decide) (by decide)
    have l_258 : lq x_256.toInt (a2.toInt + 94) := lqm (by rw [ex_256]; have q := tadd (⟨by decide, by decide⟩ : rg 94 94 (94 : Int32)) i_a2 (by decide) (by decide); have r0 := lqe (lqm (by decide) : lq (94 : Int32).toInt 94); omega)
    refine va_iald hx hb hK.1 hP 1 0 rfl rfl (rg_in h_257 (by decide) (by decide)) dX12_holds_200 ?_
    refine lv_topi (fun x_259 ex_259 => ?_)
    refine lv_if_le (tgt := 208) hx hb dX12_holds_201 (by decide) (fun c_260 => ?_) (fun c_260 => ?_)
    · skip
      have o_261 : rl 0 x_259 0 := rl_le c_260
      have h_262 : rg (-2147483648) 0 x_259 := rl_x o_261 (rga x_259) (⟨by decide, by decide⟩ : rg 0 0 (0 : Int32)) (by decide) (by decide)
      refine lv_iconst (v := 0) hx hb dX12_holds_208 (by decide) ?_
      exact oE_i hx hb hr (by decide) hlocks hP hD hS (h0_lowest, h0_highest) [0, 1] rfl (by decide) (Or.inl rfl) (Nat.le_of_ble_eq_true rfl) (Nat.le_of_ble_eq_true rfl) dX12_holds_209
    · skip
      have o_263 : rl 1 0 x_259 := rl_nle c_260
      have h_264 : rg 1 2147483647 x_259 := rl_y o_263 (⟨by decide, by decide⟩ : rg 0 0 (0 : Int32)) (rga x_259) (by decide) (by decide)
      refine lv_iconst (v := 1) hx hb dX12_holds_204 (by decide) ?_
      refine lv_goto (tgt := 209) hx hb dX12_holds_205 (by decide) ?_
      exact oE_i hx hb hr (by decide) hlocks hP hD hS (h0_lowest, h0_highest) [0, 1] rfl (by decide) (Or.inr (rfl)) (Nat.le_of_ble_eq_true rfl) (Nat.le_of_ble_eq_true rfl) dX12_holds_209
  by_cases c_265 : x_199 = 71
  · skip
    refine oti 71 c_265 ?_
    refine lv_lookup (off := 176) (tgt := 210) hx hb dX12_holds_34 (by decide) (by decide) (by decide) ?_
    have h_266 : rg 0 39 x_194 := ht.2.2 c_265
    refine lv_aload_n hx hb dX12_holds_210 rfl (lv_at hl 3 rfl) ?_
    refine lv_iload_n hx hb dX12_holds_211 rfl (lv_at hl 5 rfl) ?_
    refine lv_iload hx hb dX12_holds_212 (lv_at hl 1 rfl) ?_
    refine oC_i (Wc := [(h0, .inr (11, [.int h0_thrown, .ref h0_tape, .int h0_taped, .int h0_size, .int h0_limit, .int h0_to, .int h0_from, .int h0_kind, .int h0_number, .int h0_sign, .int h0_fault, .int h0_place, .long h0_word, .int h0_told, .ref h0_now, .ref h0_read, .ref h0_kept, .ref h0_snaps, .ref h0_aside, .ref h0_name, .ref h0_readName, .ref h0_keptName, .ref h0_isKept, .ref h0_onces, .int h0_snapMany, .int h0_lowest, .int h0_highest, .int h0_agreed, .int h0_jurors, .int h0_panelled, .ref h0_inSets, .int h0_surely, .int h0_asked, .ref h0_frees, .int h0_struck, .int h0_beating, .ref h0_text, .int h0_texts, .int h0_seed, .ref h0_line, .ref h0_written, .int h0_lineMany, .int h0_hasWritten, .ref h0_node, .int h0_nodes, .int h0_onesMany, .int h0_within, .int h0_top])), (aI ca h0_now 376 F_h0_now)]) (Wr := []) (va_runV (As := [.int a2, .int x_194]) (rest := []) ⟨hx, hb, hml, hown, hts⟩ (s_X12_areOneRing l D ca H.size h0 a2 x_194 h0_thrown h0_tape h0_taped h0_size h0_limit h0_to h0_from h0_kind h0_number h0_sign h0_fault h0_place h0_word h0_told h0_now h0_read h0_kept h0_snaps h0_aside h0_name h0_readName h0_keptName h0_isKept h0_onces h0_snapMany h0_lowest h0_highest h0_agreed h0_jurors h0_panelled h0_inSets h0_surely h0_asked h0_frees h0_struck h0_beating h0_text h0_texts h0_seed h0_line h0_written h0_lineMany h0_hasWritten h0_node h0_nodes h0_onesMany h0_within h0_top F_h0_now i_a2 h_266 i_h0_taped i_h0_size i_h0_to i_h0_kind i_h0_snapMany i_h0_texts i_h0_lineMany i_h0_hasWritten i_h0_nodes i_h0_onesMany s_h0_now_0 s_h0_now_1 s_h0_now_2 s_h0_now_3 s_h0_now_4 s_h0_now_5 s_h0_now_6 s_h0_now_7) (cwV 2 hts gX12_holds_X12_areOneRing rfl rfl rfl (by decide +kernel) ⟨Nat.le_of_ble_eq_true rfl, Nat.le_of_ble_eq_true rfl⟩) (oPV (C := RX12) hK hP hD [0, 1] rfl (by decide) 0 rfl (ci := 11) rfl rfl) rfl rfl hl.1 rfl (lv_room (Nat.le_of_ble_eq_true rfl)) dX12_holds_214 ⟨Nat.le_of_ble_eq_true rfl, Nat.le_of_ble_eq_true rfl⟩) hP hD hS hA [0, 1] [] rfl rfl (by decide) (by decide) (fun r_267 u H locs w_268 hP hD hS => ?_)
    obtain ⟨u_269, u_270⟩ := u
    have hP : va_P D vwCl [(h0, .inr (11, [.int h0_thrown, .ref h0_tape, .int h0_taped, .int h0_size, .int h0_limit, .int h0_to, .int h0_from, .int h0_kind, .int h0_number, .int h0_sign, .int h0_fault, .int h0_place, .long h0_word, .int h0_told, .ref h0_now, .ref h0_read, .ref h0_kept, .ref h0_snaps, .ref h0_aside, .ref h0_name, .ref h0_readName, .ref h0_keptName, .ref h0_isKept, .ref h0_onces, .int h0_snapMany, .int u_269, .int u_270, .int h0_agreed, .int h0_jurors, .int h0_panelled, .ref h0_inSets, .int h0_surely, .int h0_asked, .ref h0_frees, .int h0_struck, .int h0_beating, .ref h0_text, .int h0_texts, .int h0_seed, .ref h0_line, .ref h0_written, .int h0_lineMany, .int h0_hasWritten, .ref h0_node, .int h0_nodes, .int h0_onesMany, .int h0_within, .int h0_top])), (aI ca h0_now 376 F_h0_now)] H := hP
    have hD : va_D A [(h0, .inr (11, [.int h0_thrown, .ref h0_tape, .int h0_taped, .int h0_size, .int h0_limit, .int h0_to, .int h0_from, .int h0_kind, .int h0_number, .int h0_sign, .int h0_fault, .int h0_place, .long h0_word, .int h0_told, .ref h0_now, .ref h0_read, .ref h0_kept, .ref h0_snaps, .ref h0_aside, .ref h0_name, .ref h0_readName, .ref h0_keptName, .ref h0_isKept, .ref h0_onces, .int h0_snapMany, .int u_269, .int u_270, .int h0_agreed, .int h0_jurors, .int h0_panelled, .ref h0_inSets, .int h0_surely, .int h0_asked, .ref h0_frees, .int h0_struck, .int h0_beating, .ref h0_text, .int h0_texts, .int h0_seed, .ref h0_line, .ref h0_written, .int h0_lineMany, .int h0_hasWritten, .ref h0_node, .int h0_nodes, .int h0_onesMany, .int h0_within, .int h0_top])), (aI ca h0_now 376 F_h0_now)] := hD
    try dsimp only at w_268
    rcases w_268 with ⟨h_271, h_272, h_273⟩ | ⟨h_274, h_275, h_276, h_277⟩
    · skip
      subst h_271
      exact oE_i hx hb hr (by decide) hlocks hP hD hS (u_269, u_270) [0, 1] rfl (by decide) (Or.inl rfl) (Nat.le_of_ble_eq_true rfl) (Nat.le_of_ble_eq_true rfl) dX12_holds_217
    · skip
      subst h_274
      exact oE_i hx hb hr (by decide) hlocks hP hD hS (u_269, u_270) [0, 1] rfl (by decide) (Or.inr (rfl)) (Nat.le_of_ble_eq_true rfl) (Nat.le_of_ble_eq_true rfl) dX12_holds_217
  have t0 := lv_neT c_200 (show (1 : Int32).toInt = 1 by decide)
  have t1 := lv_neT c_208 (show (2 : Int32).toInt = 2 by decide)
  have t2 := lv_neT c_223 (show (3 : Int32).toInt = 3 by decide)
  have t3 := lv_neT c_238 (show (68 : Int32).toInt = 68 by decide)
  have t4 := lv_neT c_247 (show (69 : Int32).toInt = 69 by decide)
  have t5 := lv_neT c_255 (show (70 : Int32).toInt = 70 by decide)
  have t6 := lv_neT c_265 (show (71 : Int32).toInt = 71 by decide)
  refine lv_lookup (off := 184) (tgt := 218) hx hb dX12_holds_34 (by decide) (by simp [Op.lookupswitch.offset, show ¬ (1 : Int) = x_199.toInt from fun h9 => t0 h9.symm, show ¬ (2 : Int) = x_199.toInt from fun h9 => t1 h9.symm, show ¬ (3 : Int) = x_199.toInt from fun h9 => t2 h9.symm, show ¬ (68 : Int) = x_199.toInt from fun h9 => t3 h9.symm, show ¬ (69 : Int) = x_199.toInt from fun h9 => t4 h9.symm, show ¬ (70 : Int) = x_199.toInt from fun h9 => t5 h9.symm, show ¬ (71 : Int) = x_199.toInt from fun h9 => t6 h9.symm]) (by decide) ?_
  refine lv_aload_n hx hb dX12_holds_218 rfl (lv_at hl 3 rfl) ?_
  refine va_get (D := D) (ci := 11) (v := .ref h0_now) (C := RX12) (T := TX12) (N := 48) hx hb hts k2 hown hK.1 hP 0 rfl rfl 14 (by decide) k1 (fun _ h9 => h9) rfl dX12_holds_219 ?_
  refine lv_iload_n hx hb dX12_holds_222 rfl (lv_at hl 2 rfl) ?_
  refine va_iald hx hb hK.1 hP 1 0 rfl rfl (rg_in h_189 (by decide) (by decide)) dX12_holds_223 ?_
  refine oti x_199 ex_199.symm ?_
  refine lv_bipush (v := 50) hx hb dX12_holds_224 (by decide) ?_
  refine lv_isub hx hb dX12_holds_226 ?_
  refine lv_topi (fun x_278 ex_278 => ?_)
  refine lv_istore (lv' := [(6, .int x_278), (5, .int x_198), (4, .int x_194), (3, .int x_188), (0, .ref h0), (1, .int a1), (2, .int a2)]) hx hb dX12_holds_227 hl (by decide) rfl (fun ls hl => ?_)
  refine lv_iload hx hb dX12_holds_229 (lv_at hl 0 rfl) ?_
  refine lv_bipush (v := 22) hx hb dX12_holds_231 (by decide) ?_
  refine lv_icmp_ne (tgt := 247) hx hb dX12_holds_233 (by decide) (fun c_279 => ?_) (fun c_279 => ?_)
  · skip
    refine lv_iload hx hb dX12_holds_247 (lv_at hl 0 rfl) ?_
    refine lv_bipush (v := 23) hx hb dX12_holds_249 (by decide) ?_
    refine lv_icmp_ne (tgt := 266) hx hb dX12_holds_251 (by decide) (fun c_280 => ?_) (fun c_280 => ?_)
    · skip
      refine lv_iload hx hb dX12_holds_266 (lv_at hl 0 rfl) ?_
      refine lv_bipush (v := 24) hx hb dX12_holds_268 (by decide) ?_
      refine lv_icmp_ne (tgt := 285) hx hb dX12_holds_270 (by decide) (fun c_281 => ?_) (fun c_281 => ?_)
      · skip
        refine lv_iload_n hx hb dX12_holds_285 rfl (lv_at hl 6 rfl) ?_
        exact J286_153 x_188 x_198 a2 h_189 H locs ls (oPsub hP [0, 1] rfl) (hD.sub [0, 1] (by decide) rfl) hS (lv_sub hl [4, 3, 1] rfl)
      · skip
        have o_282 : rl 0 x_278 24 := rl_eq c_281
        have h_283 : rg (-2147483648) 24 x_278 := rl_x o_282 (rga x_278) (⟨by decide, by decide⟩ : rg 24 24 (24 : Int32)) (by decide) (by decide)
        have o_284 : rl 0 24 x_278 := rl_eq c_281.symm
        have h_285 : rg 24 24 x_278 := rl_y o_284 (⟨by decide, by decide⟩ : rg 24 24 (24 : Int32)) h_283 (by decide) (by decide)
        refine lv_aload_n hx hb dX12_holds_273 rfl (lv_at hl 4 rfl) ?_
        refine va_get (D := D) (ci := 11) (v := .ref h0_now) (C := RX12) (T := TX12) (N := 48) hx hb hts k2 hown hK.1 hP 0 rfl rfl 14 (by decide) k1 (fun _ h9 => h9) rfl dX12_holds_274 ?_
        refine lv_bipush (v := 94) hx hb dX12_holds_277 (by decide) ?_
        refine lv_iload_n hx hb dX12_holds_279 rfl (lv_at hl 6 rfl) ?_
        refine lv_iadd hx hb dX12_holds_280 ?_
        refine lv_topi (fun x_286 ex_286 => ?_)
        have h_287 : rg 94 103 x_286 := by rw [ex_286]; exact rg_add (⟨by decide, by decide⟩ : rg 94 94 (94 : Int32)) i_a2 (by decide) (by decide) (by decide) (by decide)
        have l_288 : lq x_286.toInt (a2.toInt + 94) := lqm (by rw [ex_286]; have q := tadd (⟨by decide, by decide⟩ : rg 94 94 (94 : Int32)) i_a2 (by decide) (by decide); have r0 := lqe (lqm (by decide) : lq (94 : Int32).toInt 94); omega)
        refine va_iald hx hb hK.1 hP 1 0 rfl rfl (rg_in h_287 (by decide) (by decide)) dX12_holds_281 ?_
        refine lv_topi (fun x_289 ex_289 => ?_)
        refine lv_goto (tgt := 286) hx hb dX12_holds_282 (by decide) ?_
        exact J286_153 x_188 x_198 x_289 h_189 H locs ls (oPsub hP [0, 1] rfl) (hD.sub [0, 1] (by decide) rfl) hS (lv_sub hl [4, 3, 1] rfl)
    · skip
      have o_290 : rl 0 x_278 23 := rl_eq c_280
      have h_291 : rg (-2147483648) 23 x_278 := rl_x o_290 (rga x_278) (⟨by decide, by decide⟩ : rg 23 23 (23 : Int32)) (by decide) (by decide)
      have o_292 : rl 0 23 x_278 := rl_eq c_280.symm
      have h_293 : rg 23 23 x_278 := rl_y o_292 (⟨by decide, by decide⟩ : rg 23 23 (23 : Int32)) h_291 (by decide) (by decide)
      refine lv_aload_n hx hb dX12_holds_254 rfl (lv_at hl 4 rfl) ?_
      refine va_get (D := D) (ci := 11) (v := .ref h0_now) (C := RX12) (T := TX12) (N := 48) hx hb hts k2 hown hK.1 hP 0 rfl rfl 14 (by decide) k1 (fun _ h9 => h9) rfl dX12_holds_255 ?_
      refine lv_bipush (v := 15) hx hb dX12_holds_258 (by decide) ?_
      refine lv_iload_n hx hb dX12_holds_260 rfl (lv_at hl 6 rfl) ?_
      refine lv_iadd hx hb dX12_holds_261 ?_
      refine lv_topi (fun x_294 ex_294 => ?_)
      have h_295 : rg 15 24 x_294 := by rw [ex_294]; exact rg_add (⟨by decide, by decide⟩ : rg 15 15 (15 : Int32)) i_a2 (by decide) (by decide) (by decide) (by decide)
      have l_296 : lq x_294.toInt (a2.toInt + 15) := lqm (by rw [ex_294]; have q := tadd (⟨by decide, by decide⟩ : rg 15 15 (15 : Int32)) i_a2 (by decide) (by decide); have r0 := lqe (lqm (by decide) : lq (15 : Int32).toInt 15); omega)
      refine va_iald hx hb hK.1 hP 1 0 rfl rfl (rg_in h_295 (by decide) (by decide)) dX12_holds_262 ?_
      refine lv_topi (fun x_297 ex_297 => ?_)
      refine lv_goto (tgt := 286) hx hb dX12_holds_263 (by decide) ?_
      exact J286_153 x_188 x_198 x_297 h_189 H locs ls (oPsub hP [0, 1] rfl) (hD.sub [0, 1] (by decide) rfl) hS (lv_sub hl [4, 3, 1] rfl)
  · skip
    have o_298 : rl 0 x_278 22 := rl_eq c_279
    have h_299 : rg (-2147483648) 22 x_278 := rl_x o_298 (rga x_278) (⟨by decide, by decide⟩ : rg 22 22 (22 : Int32)) (by decide) (by decide)
    have o_300 : rl 0 22 x_278 := rl_eq c_279.symm
    have h_301 : rg 22 22 x_278 := rl_y o_300 (⟨by decide, by decide⟩ : rg 22 22 (22 : Int32)) h_299 (by decide) (by decide)
    refine lv_aload_n hx hb dX12_holds_236 rfl (lv_at hl 4 rfl) ?_
    refine va_get (D := D) (ci := 11) (v := .ref h0_now) (C := RX12) (T := TX12) (N := 48) hx hb hts k2 hown hK.1 hP 0 rfl rfl 14 (by decide) k1 (fun _ h9 => h9) rfl dX12_holds_237 ?_
    refine lv_iconst (v := 5) hx hb dX12_holds_240 (by decide) ?_
    refine lv_iload_n hx hb dX12_holds_241 rfl (lv_at hl 6 rfl) ?_
    refine lv_iadd hx hb dX12_holds_242 ?_
    refine lv_topi (fun x_302 ex_302 => ?_)
    have h_303 : rg 5 14 x_302 := by rw [ex_302]; exact rg_add (⟨by decide, by decide⟩ : rg 5 5 (5 : Int32)) i_a2 (by decide) (by decide) (by decide) (by decide)
    have l_304 : lq x_302.toInt (a2.toInt + 5) := lqm (by rw [ex_302]; have q := tadd (⟨by decide, by decide⟩ : rg 5 5 (5 : Int32)) i_a2 (by decide) (by decide); have r0 := lqe (lqm (by decide) : lq (5 : Int32).toInt 5); omega)
    refine va_iald hx hb hK.1 hP 1 0 rfl rfl (rg_in h_303 (by decide) (by decide)) dX12_holds_243 ?_
    refine lv_topi (fun x_305 ex_305 => ?_)
    refine lv_goto (tgt := 286) hx hb dX12_holds_244 (by decide) ?_
    exact J286_153 x_188 x_198 x_305 h_189 H locs ls (oPsub hP [0, 1] rfl) (hD.sub [0, 1] (by decide) rfl) hS (lv_sub hl [4, 3, 1] rfl)
set_option maxHeartbeats 4000000 in
set_option maxRecDepth 100000 in
theorem s_X12_holds_4 (l : Launch) (D : va_G) (ca : Nat → ClassId) (sz : Nat) (h0 : Nat) (a1 : Int32) (a2 : Int32) (h0_thrown : Int32) (h0_tape : Nat) (h0_taped : Int32) (h0_size : Int32) (h0_limit : Int32) (h0_to : Int32) (h0_from : Int32) (h0_kind : Int32) (h0_number : Int32) (h0_sign : Int32) (h0_fault : Int32) (h0_place : Int32) (h0_word : Int64) (h0_told : Int32) (h0_now : Nat) (h0_read : Nat) (h0_kept : Nat) (h0_snaps : Nat) (h0_aside : Nat) (h0_name : Nat) (h0_readName : Nat) (h0_keptName : Nat) (h0_isKept : Nat) (h0_onces : Nat) (h0_snapMany : Int32) (h0_lowest : Int32) (h0_highest : Int32) (h0_agreed : Int32) (h0_jurors : Int32) (h0_panelled : Int32) (h0_inSets : Nat) (h0_surely : Int32) (h0_asked : Int32) (h0_frees : Nat) (h0_struck : Int32) (h0_beating : Int32) (h0_text : Nat) (h0_texts : Int32) (h0_seed : Int32) (h0_line : Nat) (h0_written : Nat) (h0_lineMany : Int32) (h0_hasWritten : Int32) (h0_node : Nat) (h0_nodes : Int32) (h0_onesMany : Int32) (h0_within : Int32) (h0_top : Int32) (F_h0_now : Nat → Int32) (i_a1 : rg 0 3 a1) (i_a2 : rg 0 9 a2) (i_h0_taped : rg 0 940 h0_taped) (i_h0_size : rg 0 940 h0_size) (i_h0_to : rg 0 940 h0_to) (i_h0_kind : rg 0 4 h0_kind) (i_h0_snapMany : rg 0 8 h0_snapMany) (i_h0_texts : rg 0 64 h0_texts) (i_h0_lineMany : rg 0 40 h0_lineMany) (i_h0_hasWritten : rg 0 1 h0_hasWritten) (i_h0_nodes : rg 0 60 h0_nodes) (i_h0_onesMany : rg 0 20 h0_onesMany) (s_h0_now_0 : sg 0 1 0 10 F_h0_now) (s_h0_now_1 : sg 1 2 0 4 F_h0_now) (s_h0_now_2 : sg 2 3 0 5 F_h0_now) (s_h0_now_3 : sg 35 36 0 1023 F_h0_now) (s_h0_now_4 : sg 44 49 0 3 F_h0_now) (s_h0_now_5 : sg 90 91 0 1023 F_h0_now) (s_h0_now_6 : sg 124 129 0 1023 F_h0_now) (s_h0_now_7 : sg 135 136 0 39 F_h0_now) (cu_tokw : tokb 136 F_h0_now) : oMet l yX12_holds wsX12_holds ({ frames := 8, cells := 0, slots := 0, locals := 198 } : Room) [.ref h0, .int a1, .int a2] D ca sz [(h0, .inr (11, [.int h0_thrown, .ref h0_tape, .int h0_taped, .int h0_size, .int h0_limit, .int h0_to, .int h0_from, .int h0_kind, .int h0_number, .int h0_sign, .int h0_fault, .int h0_place, .long h0_word, .int h0_told, .ref h0_now, .ref h0_read, .ref h0_kept, .ref h0_snaps, .ref h0_aside, .ref h0_name, .ref h0_readName, .ref h0_keptName, .ref h0_isKept, .ref h0_onces, .int h0_snapMany, .int h0_lowest, .int h0_highest, .int h0_agreed, .int h0_jurors, .int h0_panelled, .ref h0_inSets, .int h0_surely, .int h0_asked, .ref h0_frees, .int h0_struck, .int h0_beating, .ref h0_text, .int h0_texts, .int h0_seed, .ref h0_line, .ref h0_written, .int h0_lineMany, .int h0_hasWritten, .ref h0_node, .int h0_nodes, .int h0_onesMany, .int h0_within, .int h0_top])), (aI ca h0_now 376 F_h0_now)] (oQi D (fun (r : Int32) (u : Int32 × Int32) => ((r = 1)) ∨ ((r = 0))) (fun (u : Int32 × Int32) => [(h0, .inr (11, [.int h0_thrown, .ref h0_tape, .int h0_taped, .int h0_size, .int h0_limit, .int h0_to, .int h0_from, .int h0_kind, .int h0_number, .int h0_sign, .int h0_fault, .int h0_place, .long h0_word, .int h0_told, .ref h0_now, .ref h0_read, .ref h0_kept, .ref h0_snaps, .ref h0_aside, .ref h0_name, .ref h0_readName, .ref h0_keptName, .ref h0_isKept, .ref h0_onces, .int h0_snapMany, .int u.1, .int u.2, .int h0_agreed, .int h0_jurors, .int h0_panelled, .ref h0_inSets, .int h0_surely, .int h0_asked, .ref h0_frees, .int h0_struck, .int h0_beating, .ref h0_text, .int h0_texts, .int h0_seed, .ref h0_line, .ref h0_written, .int h0_lineMany, .int h0_hasWritten, .ref h0_node, .int h0_nodes, .int h0_onesMany, .int h0_within, .int h0_top])), (aI ca h0_now 376 F_h0_now)])) 0 0 := by
  refine oM (cc := cX12_holds) (maxL := 8) (ret := (some .boolean)) (by decide) rfl (Nat.le_of_ble_eq_true rfl) [(0, .ref h0), (1, .int a1), (2, .int a2)] rfl ?_
  intro p e s m below meth c A H locs ls hx hb hr hml hts hown hlocks hin hK hP hD hA hS hl
  have hown : s.vm.findClass RX12 = some m.cls := hown
  have k1 := hts (.fieldLink RX12 98 "LidCourtModel" "now" "[I") (by decide +kernel)
  have k2 : ∀ w ∈ wsX120, w ∈ wsX12_holds := fun _ h => List.mem_cons_of_mem _ (List.mem_append_right _ h)
  have J286_153 : ∀ (y286_0 : Int32) (y286_1 : Int32) (y286_2 : Int32), rg 136 148 y286_0 → ∀ (H : Heap) (locs : List Loc) (ls : Array Slot), va_P D vwCl [(h0, .inr (11, [.int h0_thrown, .ref h0_tape, .int h0_taped, .int h0_size, .int h0_limit, .int h0_to, .int h0_from, .int h0_kind, .int h0_number, .int h0_sign, .int h0_fault, .int h0_place, .long h0_word, .int h0_told, .ref h0_now, .ref h0_read, .ref h0_kept, .ref h0_snaps, .ref h0_aside, .ref h0_name, .ref h0_readName, .ref h0_keptName, .ref h0_isKept, .ref h0_onces, .int h0_snapMany, .int h0_lowest, .int h0_highest, .int h0_agreed, .int h0_jurors, .int h0_panelled, .ref h0_inSets, .int h0_surely, .int h0_asked, .ref h0_frees, .int h0_struck, .int h0_beating, .ref h0_text, .int h0_texts, .int h0_seed, .ref h0_line, .ref h0_written, .int h0_lineMany, .int h0_hasWritten, .ref h0_node, .int h0_nodes, .int h0_onesMany, .int h0_within, .int h0_top])), (aI ca h0_now 376 F_h0_now)] H → va_D A [(h0, .inr (11, [.int h0_thrown, .ref h0_tape, .int h0_taped, .int h0_size, .int h0_limit, .int h0_to, .int h0_from, .int h0_kind, .int h0_number, .int h0_sign, .int h0_fault, .int h0_place, .long h0_word, .int h0_told, .ref h0_now, .ref h0_read, .ref h0_kept, .ref h0_snaps, .ref h0_aside, .ref h0_name, .ref h0_readName, .ref h0_keptName, .ref h0_isKept, .ref h0_onces, .int h0_snapMany, .int h0_lowest, .int h0_highest, .int h0_agreed, .int h0_jurors, .int h0_panelled, .ref h0_inSets, .int h0_surely, .int h0_asked, .ref h0_frees, .int h0_struck, .int h0_beating, .ref h0_text, .int h0_texts, .int h0_seed, .ref h0_line, .ref h0_written, .int h0_lineMany, .int h0_hasWritten, .ref h0_node, .int h0_nodes, .int h0_onesMany, .int h0_within, .int h0_top])), (aI ca h0_now 376 F_h0_now)] → va_S A s.heap H locs → lv_has ls 8 [(0, .ref h0), (3, .int y286_0), (5, .int y286_1)] → W p l e ({ frames := 8, cells := 0, slots := 0, locals := 198 } : Room) s m ([.ref h0, .int a1, .int a2] : List Value).toArray below meth c H locs 0 0 (MQ below ((oQi D (fun (r : Int32) (u : Int32 × Int32) => ((r = 1)) ∨ ((r = 0))) (fun (u : Int32 × Int32) => [(h0, .inr (11, [.int h0_thrown, .ref h0_tape, .int h0_taped, .int h0_size, .int h0_limit, .int h0_to, .int h0_from, .int h0_kind, .int h0_number, .int h0_sign, .int h0_fault, .int h0_place, .long h0_word, .int h0_told, .ref h0_now, .ref h0_read, .ref h0_kept, .ref h0_snaps, .ref h0_aside, .ref h0_name, .ref h0_readName, .ref h0_keptName, .ref h0_isKept, .ref h0_onces, .int h0_snapMany, .int u.1, .int u.2, .int h0_agreed, .int h0_jurors, .int h0_panelled, .ref h0_inSets, .int h0_surely, .int h0_asked, .ref h0_frees, .int h0_struck, .int h0_beating, .ref h0_text, .int h0_texts, .int h0_seed, .ref h0_line, .ref h0_written, .int h0_lineMany, .int h0_hasWritten, .ref h0_node, .int h0_nodes, .int h0_onesMany, .int h0_within, .int h0_top])), (aI ca h0_now 376 F_h0_now)])) A) ([.ref h0, .int a1, .int a2] : List Value).toArray s 0 0 A) (F0 m 286 ls [.int y286_2]) := by
    intro y286_0 y286_1 y286_2 hy286_0 H locs ls hP hD hS hl
    refine lv_istore (lv' := [(7, .int y286_2), (0, .ref h0), (3, .int y286_0), (5, .int y286_1)]) hx hb dX12_holds_286 hl (by decide) rfl (fun ls hl => ?_)
    refine lv_aload_n hx hb dX12_holds_288 rfl (lv_at hl 1 rfl) ?_
    refine va_get (D := D) (ci := 11) (v := .ref h0_now) (C := RX12) (T := TX12) (N := 48) hx hb hts k2 hown hK.1 hP 0 rfl rfl 14 (by decide) k1 (fun _ h9 => h9) rfl dX12_holds_289 ?_
    refine lv_iload_n hx hb dX12_holds_292 rfl (lv_at hl 2 rfl) ?_
    refine lv_iconst (v := 3) hx hb dX12_holds_293 (by decide) ?_
    refine lv_iadd hx hb dX12_holds_294 ?_
    refine lv_topi (fun x_154 ex_154 => ?_)
    have h_155 : rg 139 151 x_154 := by rw [ex_154]; exact rg_add hy286_0 (⟨by decide, by decide⟩ : rg 3 3 (3 : Int32)) (by decide) (by decide) (by decide) (by decide)
    have l_156 : lq x_154.toInt (y286_0.toInt + 3) := lqm (by rw [ex_154]; have q := tadd hy286_0 (⟨by decide, by decide⟩ : rg 3 3 (3 : Int32)) (by decide) (by decide); have r1 := lqe (lqm (by decide) : lq (3 : Int32).toInt 3); omega)
    refine va_iald hx hb hK.1 hP 1 0 rfl rfl (rg_in h_155 (by decide) (by decide)) dX12_holds_295 ?_
    refine lv_topi (fun x_157 ex_157 => ?_)
    refine lv_bipush (v := 60) hx hb dX12_holds_296 (by decide) ?_
    refine lv_icmp_ne (tgt := 316) hx hb dX12_holds_298 (by decide) (fun c_158 => ?_) (fun c_158 => ?_)
    · skip
      refine lv_aload_n hx hb dX12_holds_316 rfl (lv_at hl 1 rfl) ?_
      refine va_get (D := D) (ci := 11) (v := .ref h0_now) (C := RX12) (T := TX12) (N := 48) hx hb hts k2 hown hK.1 hP 0 rfl rfl 14 (by decide) k1 (fun _ h9 => h9) rfl dX12_holds_317 ?_
      refine lv_iload_n hx hb dX12_holds_320 rfl (lv_at hl 2 rfl) ?_
      refine lv_iconst (v := 3) hx hb dX12_holds_321 (by decide) ?_
      refine lv_iadd hx hb dX12_holds_322 ?_
      refine lv_topi (fun x_159 ex_159 => ?_)
      have h_160 : rg 139 151 x_159 := by rw [ex_159]; exact rg_add hy286_0 (⟨by decide, by decide⟩ : rg 3 3 (3 : Int32)) (by decide) (by decide) (by decide) (by decide)
      have l_161 : lq x_159.toInt (y286_0.toInt + 3) := lqm (by rw [ex_159]; have q := tadd hy286_0 (⟨by decide, by decide⟩ : rg 3 3 (3 : Int32)) (by decide) (by decide); have r1 := lqe (lqm (by decide) : lq (3 : Int32).toInt 3); omega)
      refine va_iald hx hb hK.1 hP 1 0 rfl rfl (rg_in h_160 (by decide) (by decide)) dX12_holds_323 ?_
      refine lv_topi (fun x_162 ex_162 => ?_)
      refine lv_bipush (v := 61) hx hb dX12_holds_324 (by decide) ?_
      refine lv_icmp_ne (tgt := 344) hx hb dX12_holds_326 (by decide) (fun c_163 => ?_) (fun c_163 => ?_)
      · skip
        refine lv_iload hx hb dX12_holds_344 (lv_at hl 0 rfl) ?_
        refine lv_iload hx hb dX12_holds_346 (lv_at hl 3 rfl) ?_
        refine lv_icmp_le (tgt := 355) hx hb dX12_holds_348 (by decide) (fun c_164 => ?_) (fun c_164 => ?_)
        · skip
          have o_165 : rl 0 y286_2 y286_1 := rl_le c_164
          refine lv_iconst (v := 0) hx hb dX12_holds_355 (by decide) ?_
          exact oE_i hx hb hr (by decide) hlocks hP hD hS (h0_lowest, h0_highest) [0, 1] rfl (by decide) (Or.inr (rfl)) (Nat.le_of_ble_eq_true rfl) (Nat.le_of_ble_eq_true rfl) dX12_holds_356
        · skip
          have o_166 : rl 1 y286_1 y286_2 := rl_nle c_164
          have h_167 : rg (-2147483648) 2147483646 y286_1 := rl_x o_166 (rga y286_1) (rga y286_2) (by decide) (by decide)
          have h_168 : rg (-2147483647) 2147483647 y286_2 := rl_y o_166 (rga y286_1) (rga y286_2) (by decide) (by decide)
          refine lv_iconst (v := 1) hx hb dX12_holds_351 (by decide) ?_
          refine lv_goto (tgt := 356) hx hb dX12_holds_352 (by decide) ?_
          exact oE_i hx hb hr (by decide) hlocks hP hD hS (h0_lowest, h0_highest) [0, 1] rfl (by decide) (Or.inl rfl) (Nat.le_of_ble_eq_true rfl) (Nat.le_of_ble_eq_true rfl) dX12_holds_356
      · skip
        have o_169 : rl 0 x_162 61 := rl_eq c_163
        have h_170 : rg (-2147483648) 61 x_162 := rl_x o_169 (rga x_162) (⟨by decide, by decide⟩ : rg 61 61 (61 : Int32)) (by decide) (by decide)
        have o_171 : rl 0 61 x_162 := rl_eq c_163.symm
        have h_172 : rg 61 61 x_162 := rl_y o_171 (⟨by decide, by decide⟩ : rg 61 61 (61 : Int32)) h_170 (by decide) (by decide)
        refine lv_iload hx hb dX12_holds_329 (lv_at hl 0 rfl) ?_
        refine lv_iload hx hb dX12_holds_331 (lv_at hl 3 rfl) ?_
        refine lv_icmp_ne (tgt := 340) hx hb dX12_holds_333 (by decide) (fun c_173 => ?_) (fun c_173 => ?_)
        · skip
          refine lv_iconst (v := 0) hx hb dX12_holds_340 (by decide) ?_
          refine lv_goto (tgt := 356) hx hb dX12_holds_341 (by decide) ?_
          exact oE_i hx hb hr (by decide) hlocks hP hD hS (h0_lowest, h0_highest) [0, 1] rfl (by decide) (Or.inr (rfl)) (Nat.le_of_ble_eq_true rfl) (Nat.le_of_ble_eq_true rfl) dX12_holds_356
        · skip
          have o_174 : rl 0 y286_2 y286_1 := rl_eq c_173
          have o_175 : rl 0 y286_1 y286_2 := rl_eq c_173.symm
          refine lv_iconst (v := 1) hx hb dX12_holds_336 (by decide) ?_
          refine lv_goto (tgt := 356) hx hb dX12_holds_337 (by decide) ?_
          exact oE_i hx hb hr (by decide) hlocks hP hD hS (h0_lowest, h0_highest) [0, 1] rfl (by decide) (Or.inl rfl) (Nat.le_of_ble_eq_true rfl) (Nat.le_of_ble_eq_true rfl) dX12_holds_356
    · skip
      have o_176 : rl 0 x_157 60 := rl_eq c_158
      have h_177 : rg (-2147483648) 60 x_157 := rl_x o_176 (rga x_157) (⟨by decide, by decide⟩ : rg 60 60 (60 : Int32)) (by decide) (by decide)
      have o_178 : rl 0 60 x_157 := rl_eq c_158.symm
      have h_179 : rg 60 60 x_157 := rl_y o_178 (⟨by decide, by decide⟩ : rg 60 60 (60 : Int32)) h_177 (by decide) (by decide)
      refine lv_iload hx hb dX12_holds_301 (lv_at hl 0 rfl) ?_
      refine lv_iload hx hb dX12_holds_303 (lv_at hl 3 rfl) ?_
      refine lv_icmp_ge (tgt := 312) hx hb dX12_holds_305 (by decide) (fun c_180 => ?_) (fun c_180 => ?_)
      · skip
        have o_181 : rl 0 y286_1 y286_2 := rl_le c_180
        refine lv_iconst (v := 0) hx hb dX12_holds_312 (by decide) ?_
        refine lv_goto (tgt := 356) hx hb dX12_holds_313 (by decide) ?_
        exact oE_i hx hb hr (by decide) hlocks hP hD hS (h0_lowest, h0_highest) [0, 1] rfl (by decide) (Or.inr (rfl)) (Nat.le_of_ble_eq_true rfl) (Nat.le_of_ble_eq_true rfl) dX12_holds_356
      · skip
        have o_182 : rl 1 y286_2 y286_1 := rl_nle c_180
        have h_183 : rg (-2147483648) 2147483646 y286_2 := rl_x o_182 (rga y286_2) (rga y286_1) (by decide) (by decide)
        have h_184 : rg (-2147483647) 2147483647 y286_1 := rl_y o_182 (rga y286_2) (rga y286_1) (by decide) (by decide)
        refine lv_iconst (v := 1) hx hb dX12_holds_308 (by decide) ?_
        refine lv_goto (tgt := 356) hx hb dX12_holds_309 (by decide) ?_
        exact oE_i hx hb hr (by decide) hlocks hP hD hS (h0_lowest, h0_highest) [0, 1] rfl (by decide) (Or.inl rfl) (Nat.le_of_ble_eq_true rfl) (Nat.le_of_ble_eq_true rfl) dX12_holds_356
  refine lv_sipush (v := 136) hx hb dX12_holds_0 (by decide) ?_
  refine lv_iconst (v := 4) hx hb dX12_holds_3 (by decide) ?_
  refine lv_iload_n hx hb dX12_holds_4 rfl (lv_at hl 1 rfl) ?_
  refine lv_imul hx hb dX12_holds_5 ?_
  refine lv_topi (fun x_185 ex_185 => ?_)
  have h_186 : rg 0 12 x_185 := by rw [ex_185]; exact rg_mul' (k := 4) i_a1 (by decide) (by decide) (by decide) (by decide) (by decide) (by decide)
  have l_187 : lq x_185.toInt (4 * a1.toInt) := lqm (by rw [ex_185]; have q := tmul' (k := 4) (y := 4) i_a1 (by decide) (by decide) (by decide) (by decide); omega)
  refine lv_iadd hx hb dX12_holds_6 ?_
  refine lv_topi (fun x_188 ex_188 => ?_)
  have h_189 : rg 136 148 x_188 := by rw [ex_188]; exact rg_add (⟨by decide, by decide⟩ : rg 136 136 (136 : Int32)) h_186 (by decide) (by decide) (by decide) (by decide)
  have l_190 : lq x_188.toInt (4 * a1.toInt + 136) := lqm (by rw [ex_188]; have q := tadd (⟨by decide, by decide⟩ : rg 136 136 (136 : Int32)) h_186 (by decide) (by decide); have r0 := lqe (lqm (by decide) : lq (136 : Int32).toInt 136); have r1 := lqe l_187; omega)
  refine lv_istore_n (lv' := [(3, .int x_188), (0, .ref h0), (1, .int a1), (2, .int a2)]) hx hb dX12_holds_7 rfl hl (by decide) rfl (fun ls hl => ?_)
  refine lv_aload_n hx hb dX12_holds_8 rfl (lv_at hl 1 rfl) ?_
  refine va_get (D := D) (ci := 11) (v := .ref h0_now) (C := RX12) (T := TX12) (N := 48) hx hb hts k2 hown hK.1 hP 0 rfl rfl 14 (by decide) k1 (fun _ h9 => h9) rfl dX12_holds_9 ?_
  refine lv_iload_n hx hb dX12_holds_12 rfl (lv_at hl 0 rfl) ?_
  refine lv_iconst (v := 1) hx hb dX12_holds_13 (by decide) ?_
  refine lv_iadd hx hb dX12_holds_14 ?_
  refine lv_topi (fun x_191 ex_191 => ?_)
  have h_192 : rg 137 149 x_191 := by rw [ex_191]; exact rg_add h_189 (⟨by decide, by decide⟩ : rg 1 1 (1 : Int32)) (by decide) (by decide) (by decide) (by decide)
  have l_193 : lq x_191.toInt (4 * a1.toInt + 137) := lqm (by rw [ex_191]; have q := tadd h_189 (⟨by decide, by decide⟩ : rg 1 1 (1 : Int32)) (by decide) (by decide); have r0 := lqe l_190; have r1 := lqe (lqm (by decide) : lq (1 : Int32).toInt 1); omega)
  refine va_iald hx hb hK.1 hP 1 0 rfl rfl (rg_in h_192 (by decide) (by decide)) dX12_holds_15 ?_
  refine lv_topi (fun x_194 ex_194 => ?_)
  refine lv_istore (lv' := [(4, .int x_194), (3, .int x_188), (0, .ref h0), (1, .int a1), (2, .int a2)]) hx hb dX12_holds_16 hl (by decide) rfl (fun ls hl => ?_)
  refine lv_aload_n hx hb dX12_holds_18 rfl (lv_at hl 2 rfl) ?_
  refine va_get (D := D) (ci := 11) (v := .ref h0_now) (C := RX12) (T := TX12) (N := 48) hx hb hts k2 hown hK.1 hP 0 rfl rfl 14 (by decide) k1 (fun _ h9 => h9) rfl dX12_holds_19 ?_
  refine lv_iload_n hx hb dX12_holds_22 rfl (lv_at hl 1 rfl) ?_
  refine lv_iconst (v := 2) hx hb dX12_holds_23 (by decide) ?_
  refine lv_iadd hx hb dX12_holds_24 ?_
  refine lv_topi (fun x_195 ex_195 => ?_)
  have h_196 : rg 138 150 x_195 := by rw [ex_195]; exact rg_add h_189 (⟨by decide, by decide⟩ : rg 2 2 (2 : Int32)) (by decide) (by decide) (by decide) (by decide)
  have l_197 : lq x_195.toInt (4 * a1.toInt + 138) := lqm (by rw [ex_195]; have q := tadd h_189 (⟨by decide, by decide⟩ : rg 2 2 (2 : Int32)) (by decide) (by decide); have r0 := lqe l_190; have r1 := lqe (lqm (by decide) : lq (2 : Int32).toInt 2); omega)
  refine va_iald hx hb hK.1 hP 1 0 rfl rfl (rg_in h_196 (by decide) (by decide)) dX12_holds_25 ?_
  refine lv_topi (fun x_198 ex_198 => ?_)
  refine lv_istore (lv' := [(5, .int x_198), (4, .int x_194), (3, .int x_188), (0, .ref h0), (1, .int a1), (2, .int a2)]) hx hb dX12_holds_26 hl (by decide) rfl (fun ls hl => ?_)
  refine lv_aload_n hx hb dX12_holds_28 rfl (lv_at hl 3 rfl) ?_
  refine va_get (D := D) (ci := 11) (v := .ref h0_now) (C := RX12) (T := TX12) (N := 48) hx hb hts k2 hown hK.1 hP 0 rfl rfl 14 (by decide) k1 (fun _ h9 => h9) rfl dX12_holds_29 ?_
  refine lv_iload_n hx hb dX12_holds_32 rfl (lv_at hl 2 rfl) ?_
  refine va_iald hx hb hK.1 hP 1 0 rfl rfl (rg_in h_189 (by decide) (by decide)) dX12_holds_33 ?_
  refine lv_topi (fun x_199 ex_199 => ?_)
  have ht := tokb_at cu_tokw i_a1 (by decide) (by decide) ex_199 ex_194 ex_198 l_190 l_193 l_197
  by_cases c_200 : x_199 = 1
  · skip
    refine oti 1 c_200 ?_
    refine lv_lookup (off := 66) (tgt := 100) hx hb dX12_holds_34 (by decide) (by decide) (by decide) ?_
    have h_201 : rg 0 2 x_194 := by have q := rg_cl i_a1 (by decide); have q1 := i_a1.2; have q2 := ht.1 c_200; exact ⟨by omega, by omega⟩
    refine lv_aload_n hx hb dX12_holds_100 rfl (lv_at hl 3 rfl) ?_
    refine lv_iload hx hb dX12_holds_101 (lv_at hl 1 rfl) ?_
    refine lv_iload_n hx hb dX12_holds_103 rfl (lv_at hl 5 rfl) ?_
    refine oC_i (Wc := [(h0, .inr (11, [.int h0_thrown, .ref h0_tape, .int h0_taped, .int h0_size, .int h0_limit, .int h0_to, .int h0_from, .int h0_kind, .int h0_number, .int h0_sign, .int h0_fault, .int h0_place, .long h0_word, .int h0_told, .ref h0_now, .ref h0_read, .ref h0_kept, .ref h0_snaps, .ref h0_aside, .ref h0_name, .ref h0_readName, .ref h0_keptName, .ref h0_isKept, .ref h0_onces, .int h0_snapMany, .int h0_lowest, .int h0_highest, .int h0_agreed, .int h0_jurors, .int h0_panelled, .ref h0_inSets, .int h0_surely, .int h0_asked, .ref h0_frees, .int h0_struck, .int h0_beating, .ref h0_text, .int h0_texts, .int h0_seed, .ref h0_line, .ref h0_written, .int h0_lineMany, .int h0_hasWritten, .ref h0_node, .int h0_nodes, .int h0_onesMany, .int h0_within, .int h0_top])), (aI ca h0_now 376 F_h0_now)]) (Wr := []) (va_runV (As := [.int x_194, .int a2]) (rest := []) ⟨hx, hb, hml, hown, hts⟩ (s_X12_holds_3 l D ca H.size h0 x_194 a2 h0_thrown h0_tape h0_taped h0_size h0_limit h0_to h0_from h0_kind h0_number h0_sign h0_fault h0_place h0_word h0_told h0_now h0_read h0_kept h0_snaps h0_aside h0_name h0_readName h0_keptName h0_isKept h0_onces h0_snapMany h0_lowest h0_highest h0_agreed h0_jurors h0_panelled h0_inSets h0_surely h0_asked h0_frees h0_struck h0_beating h0_text h0_texts h0_seed h0_line h0_written h0_lineMany h0_hasWritten h0_node h0_nodes h0_onesMany h0_within h0_top F_h0_now h_201 i_a2 i_h0_taped i_h0_size i_h0_to i_h0_kind i_h0_snapMany i_h0_texts i_h0_lineMany i_h0_hasWritten i_h0_nodes i_h0_onesMany s_h0_now_0 s_h0_now_1 s_h0_now_2 s_h0_now_3 s_h0_now_4 s_h0_now_5 s_h0_now_6 s_h0_now_7 cu_tokw) (cwV 2 hts gX12_holds_X12_holds rfl rfl rfl (by decide +kernel) ⟨Nat.le_of_ble_eq_true rfl, Nat.le_of_ble_eq_true rfl⟩) (oPV (C := RX12) hK hP hD [0, 1] rfl (by decide) 0 rfl (ci := 11) rfl rfl) rfl rfl hl.1 rfl (lv_room (Nat.le_of_ble_eq_true rfl)) dX12_holds_104 ⟨Nat.le_of_ble_eq_true rfl, Nat.le_of_ble_eq_true rfl⟩) hP hD hS hA [0, 1] [] rfl rfl (by decide) (by decide) (fun r_202 u H locs w_203 hP hD hS => ?_)
    obtain ⟨u_204, u_205⟩ := u
    have hP : va_P D vwCl [(h0, .inr (11, [.int h0_thrown, .ref h0_tape, .int h0_taped, .int h0_size, .int h0_limit, .int h0_to, .int h0_from, .int h0_kind, .int h0_number, .int h0_sign, .int h0_fault, .int h0_place, .long h0_word, .int h0_told, .ref h0_now, .ref h0_read, .ref h0_kept, .ref h0_snaps, .ref h0_aside, .ref h0_name, .ref h0_readName, .ref h0_keptName, .ref h0_isKept, .ref h0_onces, .int h0_snapMany, .int u_204, .int u_205, .int h0_agreed, .int h0_jurors, .int h0_panelled, .ref h0_inSets, .int h0_surely, .int h0_asked, .ref h0_frees, .int h0_struck, .int h0_beating, .ref h0_text, .int h0_texts, .int h0_seed, .ref h0_line, .ref h0_written, .int h0_lineMany, .int h0_hasWritten, .ref h0_node, .int h0_nodes, .int h0_onesMany, .int h0_within, .int h0_top])), (aI ca h0_now 376 F_h0_now)] H := hP
    have hD : va_D A [(h0, .inr (11, [.int h0_thrown, .ref h0_tape, .int h0_taped, .int h0_size, .int h0_limit, .int h0_to, .int h0_from, .int h0_kind, .int h0_number, .int h0_sign, .int h0_fault, .int h0_place, .long h0_word, .int h0_told, .ref h0_now, .ref h0_read, .ref h0_kept, .ref h0_snaps, .ref h0_aside, .ref h0_name, .ref h0_readName, .ref h0_keptName, .ref h0_isKept, .ref h0_onces, .int h0_snapMany, .int u_204, .int u_205, .int h0_agreed, .int h0_jurors, .int h0_panelled, .ref h0_inSets, .int h0_surely, .int h0_asked, .ref h0_frees, .int h0_struck, .int h0_beating, .ref h0_text, .int h0_texts, .int h0_seed, .ref h0_line, .ref h0_written, .int h0_lineMany, .int h0_hasWritten, .ref h0_node, .int h0_nodes, .int h0_onesMany, .int h0_within, .int h0_top])), (aI ca h0_now 376 F_h0_now)] := hD
    try dsimp only at w_203
    rcases w_203 with h_206 | h_207
    · skip
      subst h_206
      refine lv_if_ne (tgt := 114) hx hb dX12_holds_107 (by decide) (fun c => absurd (by decide) c) (fun _ => ?_)
      refine lv_iconst (v := 1) hx hb dX12_holds_110 (by decide) ?_
      refine lv_goto (tgt := 115) hx hb dX12_holds_111 (by decide) ?_
      exact oE_i hx hb hr (by decide) hlocks hP hD hS (u_204, u_205) [0, 1] rfl (by decide) (Or.inl rfl) (Nat.le_of_ble_eq_true rfl) (Nat.le_of_ble_eq_true rfl) dX12_holds_115
    · skip
      subst h_207
      refine lv_if_ne (tgt := 114) hx hb dX12_holds_107 (by decide) (fun _ => ?_) (fun c => absurd c (by decide))
      refine lv_iconst (v := 0) hx hb dX12_holds_114 (by decide) ?_
      exact oE_i hx hb hr (by decide) hlocks hP hD hS (u_204, u_205) [0, 1] rfl (by decide) (Or.inr (rfl)) (Nat.le_of_ble_eq_true rfl) (Nat.le_of_ble_eq_true rfl) dX12_holds_115
  by_cases c_208 : x_199 = 2
  · skip
    refine oti 2 c_208 ?_
    refine lv_lookup (off := 82) (tgt := 116) hx hb dX12_holds_34 (by decide) (by decide) (by decide) ?_
    have h_209 : rg 0 2 x_194 := by have q := rg_cl i_a1 (by decide); have q1 := i_a1.2; have q2 := (ht.2.1 (Or.inl c_208)).1; exact ⟨by omega, by omega⟩
    have h_210 : rg 0 2 x_198 := by have q := rg_cl i_a1 (by decide); have q1 := i_a1.2; have q2 := (ht.2.1 (Or.inl c_208)).2; exact ⟨by omega, by omega⟩
    refine lv_aload_n hx hb dX12_holds_116 rfl (lv_at hl 3 rfl) ?_
    refine lv_iload hx hb dX12_holds_117 (lv_at hl 1 rfl) ?_
    refine lv_iload_n hx hb dX12_holds_119 rfl (lv_at hl 5 rfl) ?_
    refine oC_i (Wc := [(h0, .inr (11, [.int h0_thrown, .ref h0_tape, .int h0_taped, .int h0_size, .int h0_limit, .int h0_to, .int h0_from, .int h0_kind, .int h0_number, .int h0_sign, .int h0_fault, .int h0_place, .long h0_word, .int h0_told, .ref h0_now, .ref h0_read, .ref h0_kept, .ref h0_snaps, .ref h0_aside, .ref h0_name, .ref h0_readName, .ref h0_keptName, .ref h0_isKept, .ref h0_onces, .int h0_snapMany, .int h0_lowest, .int h0_highest, .int h0_agreed, .int h0_jurors, .int h0_panelled, .ref h0_inSets, .int h0_surely, .int h0_asked, .ref h0_frees, .int h0_struck, .int h0_beating, .ref h0_text, .int h0_texts, .int h0_seed, .ref h0_line, .ref h0_written, .int h0_lineMany, .int h0_hasWritten, .ref h0_node, .int h0_nodes, .int h0_onesMany, .int h0_within, .int h0_top])), (aI ca h0_now 376 F_h0_now)]) (Wr := []) (va_runV (As := [.int x_194, .int a2]) (rest := []) ⟨hx, hb, hml, hown, hts⟩ (s_X12_holds_3 l D ca H.size h0 x_194 a2 h0_thrown h0_tape h0_taped h0_size h0_limit h0_to h0_from h0_kind h0_number h0_sign h0_fault h0_place h0_word h0_told h0_now h0_read h0_kept h0_snaps h0_aside h0_name h0_readName h0_keptName h0_isKept h0_onces h0_snapMany h0_lowest h0_highest h0_agreed h0_jurors h0_panelled h0_inSets h0_surely h0_asked h0_frees h0_struck h0_beating h0_text h0_texts h0_seed h0_line h0_written h0_lineMany h0_hasWritten h0_node h0_nodes h0_onesMany h0_within h0_top F_h0_now h_209 i_a2 i_h0_taped i_h0_size i_h0_to i_h0_kind i_h0_snapMany i_h0_texts i_h0_lineMany i_h0_hasWritten i_h0_nodes i_h0_onesMany s_h0_now_0 s_h0_now_1 s_h0_now_2 s_h0_now_3 s_h0_now_4 s_h0_now_5 s_h0_now_6 s_h0_now_7 cu_tokw) (cwV 2 hts gX12_holds_X12_holds rfl rfl rfl (by decide +kernel) ⟨Nat.le_of_ble_eq_true rfl, Nat.le_of_ble_eq_true rfl⟩) (oPV (C := RX12) hK hP hD [0, 1] rfl (by decide) 0 rfl (ci := 11) rfl rfl) rfl rfl hl.1 rfl (lv_room (Nat.le_of_ble_eq_true rfl)) dX12_holds_120 ⟨Nat.le_of_ble_eq_true rfl, Nat.le_of_ble_eq_true rfl⟩) hP hD hS hA [0, 1] [] rfl rfl (by decide) (by decide) (fun r_211 u H locs w_212 hP hD hS => ?_)
    obtain ⟨u_213, u_214⟩ := u
    have hP : va_P D vwCl [(h0, .inr (11, [.int h0_thrown, .ref h0_tape, .int h0_taped, .int h0_size, .int h0_limit, .int h0_to, .int h0_from, .int h0_kind, .int h0_number, .int h0_sign, .int h0_fault, .int h0_place, .long h0_word, .int h0_told, .ref h0_now, .ref h0_read, .ref h0_kept, .ref h0_snaps, .ref h0_aside, .ref h0_name, .ref h0_readName, .ref h0_keptName, .ref h0_isKept, .ref h0_onces, .int h0_snapMany, .int u_213, .int u_214, .int h0_agreed, .int h0_jurors, .int h0_panelled, .ref h0_inSets, .int h0_surely, .int h0_asked, .ref h0_frees, .int h0_struck, .int h0_beating, .ref h0_text, .int h0_texts, .int h0_seed, .ref h0_line, .ref h0_written, .int h0_lineMany, .int h0_hasWritten, .ref h0_node, .int h0_nodes, .int h0_onesMany, .int h0_within, .int h0_top])), (aI ca h0_now 376 F_h0_now)] H := hP
    have hD : va_D A [(h0, .inr (11, [.int h0_thrown, .ref h0_tape, .int h0_taped, .int h0_size, .int h0_limit, .int h0_to, .int h0_from, .int h0_kind, .int h0_number, .int h0_sign, .int h0_fault, .int h0_place, .long h0_word, .int h0_told, .ref h0_now, .ref h0_read, .ref h0_kept, .ref h0_snaps, .ref h0_aside, .ref h0_name, .ref h0_readName, .ref h0_keptName, .ref h0_isKept, .ref h0_onces, .int h0_snapMany, .int u_213, .int u_214, .int h0_agreed, .int h0_jurors, .int h0_panelled, .ref h0_inSets, .int h0_surely, .int h0_asked, .ref h0_frees, .int h0_struck, .int h0_beating, .ref h0_text, .int h0_texts, .int h0_seed, .ref h0_line, .ref h0_written, .int h0_lineMany, .int h0_hasWritten, .ref h0_node, .int h0_nodes, .int h0_onesMany, .int h0_within, .int h0_top])), (aI ca h0_now 376 F_h0_now)] := hD
    try dsimp only at w_212
    rcases w_212 with h_215 | h_216
    · skip
      subst h_215
      refine lv_if_eq (tgt := 140) hx hb dX12_holds_123 (by decide) (fun _ => ?_) (fun c => absurd (by decide) c)
      refine lv_iconst (v := 0) hx hb dX12_holds_140 (by decide) ?_
      exact oE_i hx hb hr (by decide) hlocks hP hD hS (u_213, u_214) [0, 1] rfl (by decide) (Or.inr (rfl)) (Nat.le_of_ble_eq_true rfl) (Nat.le_of_ble_eq_true rfl) dX12_holds_141
    · skip
      subst h_216
      refine lv_if_eq (tgt := 140) hx hb dX12_holds_123 (by decide) (fun c => absurd c (by decide)) (fun _ => ?_)
      refine lv_aload_n hx hb dX12_holds_126 rfl (lv_at hl 3 rfl) ?_
      refine lv_iload hx hb dX12_holds_127 (lv_at hl 0 rfl) ?_
      refine lv_iload_n hx hb dX12_holds_129 rfl (lv_at hl 5 rfl) ?_
      refine oC_i (Wc := [(h0, .inr (11, [.int h0_thrown, .ref h0_tape, .int h0_taped, .int h0_size, .int h0_limit, .int h0_to, .int h0_from, .int h0_kind, .int h0_number, .int h0_sign, .int h0_fault, .int h0_place, .long h0_word, .int h0_told, .ref h0_now, .ref h0_read, .ref h0_kept, .ref h0_snaps, .ref h0_aside, .ref h0_name, .ref h0_readName, .ref h0_keptName, .ref h0_isKept, .ref h0_onces, .int h0_snapMany, .int u_213, .int u_214, .int h0_agreed, .int h0_jurors, .int h0_panelled, .ref h0_inSets, .int h0_surely, .int h0_asked, .ref h0_frees, .int h0_struck, .int h0_beating, .ref h0_text, .int h0_texts, .int h0_seed, .ref h0_line, .ref h0_written, .int h0_lineMany, .int h0_hasWritten, .ref h0_node, .int h0_nodes, .int h0_onesMany, .int h0_within, .int h0_top])), (aI ca h0_now 376 F_h0_now)]) (Wr := []) (va_runV (As := [.int x_198, .int a2]) (rest := []) ⟨hx, hb, hml, hown, hts⟩ (s_X12_holds_3 l D ca H.size h0 x_198 a2 h0_thrown h0_tape h0_taped h0_size h0_limit h0_to h0_from h0_kind h0_number h0_sign h0_fault h0_place h0_word h0_told h0_now h0_read h0_kept h0_snaps h0_aside h0_name h0_readName h0_keptName h0_isKept h0_onces h0_snapMany u_213 u_214 h0_agreed h0_jurors h0_panelled h0_inSets h0_surely h0_asked h0_frees h0_struck h0_beating h0_text h0_texts h0_seed h0_line h0_written h0_lineMany h0_hasWritten h0_node h0_nodes h0_onesMany h0_within h0_top F_h0_now h_210 i_a2 i_h0_taped i_h0_size i_h0_to i_h0_kind i_h0_snapMany i_h0_texts i_h0_lineMany i_h0_hasWritten i_h0_nodes i_h0_onesMany s_h0_now_0 s_h0_now_1 s_h0_now_2 s_h0_now_3 s_h0_now_4 s_h0_now_5 s_h0_now_6 s_h0_now_7 cu_tokw) (cwV 2 hts gX12_holds_X12_holds rfl rfl rfl (by decide +kernel) ⟨Nat.le_of_ble_eq_true rfl, Nat.le_of_ble_eq_true rfl⟩) (oPV (C := RX12) hK hP hD [0, 1] rfl (by decide) 0 rfl (ci := 11) rfl rfl) rfl rfl hl.1 rfl (lv_room (Nat.le_of_ble_eq_true rfl)) dX12_holds_130 ⟨Nat.le_of_ble_eq_true rfl, Nat.le_of_ble_eq_true rfl⟩) hP hD hS hA [0, 1] [] rfl rfl (by decide) (by decide) (fun r_217 u H locs w_218 hP hD hS => ?_)
      obtain ⟨u_219, u_220⟩ := u
      have hP : va_P D vwCl [(h0, .inr (11, [.int h0_thrown, .ref h0_tape, .int h0_taped, .int h0_size, .int h0_limit, .int h0_to, .int h0_from, .int h0_kind, .int h0_number, .int h0_sign, .int h0_fault, .int h0_place, .long h0_word, .int h0_told, .ref h0_now, .ref h0_read, .ref h0_kept, .ref h0_snaps, .ref h0_aside, .ref h0_name, .ref h0_readName, .ref h0_keptName, .ref h0_isKept, .ref h0_onces, .int h0_snapMany, .int u_219, .int u_220, .int h0_agreed, .int h0_jurors, .int h0_panelled, .ref h0_inSets, .int h0_surely, .int h0_asked, .ref h0_frees, .int h0_struck, .int h0_beating, .ref h0_text, .int h0_texts, .int h0_seed, .ref h0_line, .ref h0_written, .int h0_lineMany, .int h0_hasWritten, .ref h0_node, .int h0_nodes, .int h0_onesMany, .int h0_within, .int h0_top])), (aI ca h0_now 376 F_h0_now)] H := hP
      have hD : va_D A [(h0, .inr (11, [.int h0_thrown, .ref h0_tape, .int h0_taped, .int h0_size, .int h0_limit, .int h0_to, .int h0_from, .int h0_kind, .int h0_number, .int h0_sign, .int h0_fault, .int h0_place, .long h0_word, .int h0_told, .ref h0_now, .ref h0_read, .ref h0_kept, .ref h0_snaps, .ref h0_aside, .ref h0_name, .ref h0_readName, .ref h0_keptName, .ref h0_isKept, .ref h0_onces, .int h0_snapMany, .int u_219, .int u_220, .int h0_agreed, .int h0_jurors, .int h0_panelled, .ref h0_inSets, .int h0_surely, .int h0_asked, .ref h0_frees, .int h0_struck, .int h0_beating, .ref h0_text, .int h0_texts, .int h0_seed, .ref h0_line, .ref h0_written, .int h0_lineMany, .int h0_hasWritten, .ref h0_node, .int h0_nodes, .int h0_onesMany, .int h0_within, .int h0_top])), (aI ca h0_now 376 F_h0_now)] := hD
      try dsimp only at w_218
      rcases w_218 with h_221 | h_222
      · skip
        subst h_221
        refine lv_if_eq (tgt := 140) hx hb dX12_holds_133 (by decide) (fun _ => ?_) (fun c => absurd (by decide) c)
        refine lv_iconst (v := 0) hx hb dX12_holds_140 (by decide) ?_
        exact oE_i hx hb hr (by decide) hlocks hP hD hS (u_219, u_220) [0, 1] rfl (by decide) (Or.inr (rfl)) (Nat.le_of_ble_eq_true rfl) (Nat.le_of_ble_eq_true rfl) dX12_holds_141
      · skip
        subst h_222
        refine lv_if_eq (tgt := 140) hx hb dX12_holds_133 (by decide) (fun c => absurd c (by decide)) (fun _ => ?_)
        refine lv_iconst (v := 1) hx hb dX12_holds_136 (by decide) ?_
        refine lv_goto (tgt := 141) hx hb dX12_holds_137 (by decide) ?_
        exact oE_i hx hb hr (by decide) hlocks hP hD hS (u_219, u_220) [0, 1] rfl (by decide) (Or.inl rfl) (Nat.le_of_ble_eq_true rfl) (Nat.le_of_ble_eq_true rfl) dX12_holds_141
  by_cases c_223 : x_199 = 3
  · skip
    refine oti 3 c_223 ?_
    refine lv_lookup (off := 108) (tgt := 142) hx hb dX12_holds_34 (by decide) (by decide) (by decide) ?_
    have h_224 : rg 0 2 x_194 := by have q := rg_cl i_a1 (by decide); have q1 := i_a1.2; have q2 := (ht.2.1 (Or.inr c_223)).1; exact ⟨by omega, by omega⟩
    have h_225 : rg 0 2 x_198 := by have q := rg_cl i_a1 (by decide); have q1 := i_a1.2; have q2 := (ht.2.1 (Or.inr c_223)).2; exact ⟨by omega, by omega⟩
    refine lv_aload_n hx hb dX12_holds_142 rfl (lv_at hl 3 rfl) ?_
    refine lv_iload hx hb dX12_holds_143 (lv_at hl 1 rfl) ?_
    refine lv_iload_n hx hb dX12_holds_145 rfl (lv_at hl 5 rfl) ?_
    refine oC_i (Wc := [(h0, .inr (11, [.int h0_thrown, .ref h0_tape, .int h0_taped, .int h0_size, .int h0_limit, .int h0_to, .int h0_from, .int h0_kind, .int h0_number, .int h0_sign, .int h0_fault, .int h0_place, .long h0_word, .int h0_told, .ref h0_now, .ref h0_read, .ref h0_kept, .ref h0_snaps, .ref h0_aside, .ref h0_name, .ref h0_readName, .ref h0_keptName, .ref h0_isKept, .ref h0_onces, .int h0_snapMany, .int h0_lowest, .int h0_highest, .int h0_agreed, .int h0_jurors, .int h0_panelled, .ref h0_inSets, .int h0_surely, .int h0_asked, .ref h0_frees, .int h0_struck, .int h0_beating, .ref h0_text, .int h0_texts, .int h0_seed, .ref h0_line, .ref h0_written, .int h0_lineMany, .int h0_hasWritten, .ref h0_node, .int h0_nodes, .int h0_onesMany, .int h0_within, .int h0_top])), (aI ca h0_now 376 F_h0_now)]) (Wr := []) (va_runV (As := [.int x_194, .int a2]) (rest := []) ⟨hx, hb, hml, hown, hts⟩ (s_X12_holds_3 l D ca H.size h0 x_194 a2 h0_thrown h0_tape h0_taped h0_size h0_limit h0_to h0_from h0_kind h0_number h0_sign h0_fault h0_place h0_word h0_told h0_now h0_read h0_kept h0_snaps h0_aside h0_name h0_readName h0_keptName h0_isKept h0_onces h0_snapMany h0_lowest h0_highest h0_agreed h0_jurors h0_panelled h0_inSets h0_surely h0_asked h0_frees h0_struck h0_beating h0_text h0_texts h0_seed h0_line h0_written h0_lineMany h0_hasWritten h0_node h0_nodes h0_onesMany h0_within h0_top F_h0_now h_224 i_a2 i_h0_taped i_h0_size i_h0_to i_h0_kind i_h0_snapMany i_h0_texts i_h0_lineMany i_h0_hasWritten i_h0_nodes i_h0_onesMany s_h0_now_0 s_h0_now_1 s_h0_now_2 s_h0_now_3 s_h0_now_4 s_h0_now_5 s_h0_now_6 s_h0_now_7 cu_tokw) (cwV 2 hts gX12_holds_X12_holds rfl rfl rfl (by decide +kernel) ⟨Nat.le_of_ble_eq_true rfl, Nat.le_of_ble_eq_true rfl⟩) (oPV (C := RX12) hK hP hD [0, 1] rfl (by decide) 0 rfl (ci := 11) rfl rfl) rfl rfl hl.1 rfl (lv_room (Nat.le_of_ble_eq_true rfl)) dX12_holds_146 ⟨Nat.le_of_ble_eq_true rfl, Nat.le_of_ble_eq_true rfl⟩) hP hD hS hA [0, 1] [] rfl rfl (by decide) (by decide) (fun r_226 u H locs w_227 hP hD hS => ?_)
    obtain ⟨u_228, u_229⟩ := u
    have hP : va_P D vwCl [(h0, .inr (11, [.int h0_thrown, .ref h0_tape, .int h0_taped, .int h0_size, .int h0_limit, .int h0_to, .int h0_from, .int h0_kind, .int h0_number, .int h0_sign, .int h0_fault, .int h0_place, .long h0_word, .int h0_told, .ref h0_now, .ref h0_read, .ref h0_kept, .ref h0_snaps, .ref h0_aside, .ref h0_name, .ref h0_readName, .ref h0_keptName, .ref h0_isKept, .ref h0_onces, .int h0_snapMany, .int u_228, .int u_229, .int h0_agreed, .int h0_jurors, .int h0_panelled, .ref h0_inSets, .int h0_surely, .int h0_asked, .ref h0_frees, .int h0_struck, .int h0_beating, .ref h0_text, .int h0_texts, .int h0_seed, .ref h0_line, .ref h0_written, .int h0_lineMany, .int h0_hasWritten, .ref h0_node, .int h0_nodes, .int h0_onesMany, .int h0_within, .int h0_top])), (aI ca h0_now 376 F_h0_now)] H := hP
    have hD : va_D A [(h0, .inr (11, [.int h0_thrown, .ref h0_tape, .int h0_taped, .int h0_size, .int h0_limit, .int h0_to, .int h0_from, .int h0_kind, .int h0_number, .int h0_sign, .int h0_fault, .int h0_place, .long h0_word, .int h0_told, .ref h0_now, .ref h0_read, .ref h0_kept, .ref h0_snaps, .ref h0_aside, .ref h0_name, .ref h0_readName, .ref h0_keptName, .ref h0_isKept, .ref h0_onces, .int h0_snapMany, .int u_228, .int u_229, .int h0_agreed, .int h0_jurors, .int h0_panelled, .ref h0_inSets, .int h0_surely, .int h0_asked, .ref h0_frees, .int h0_struck, .int h0_beating, .ref h0_text, .int h0_texts, .int h0_seed, .ref h0_line, .ref h0_written, .int h0_lineMany, .int h0_hasWritten, .ref h0_node, .int h0_nodes, .int h0_onesMany, .int h0_within, .int h0_top])), (aI ca h0_now 376 F_h0_now)] := hD
    try dsimp only at w_227
    rcases w_227 with h_230 | h_231
    · skip
      subst h_230
      refine lv_if_ne (tgt := 162) hx hb dX12_holds_149 (by decide) (fun c => absurd (by decide) c) (fun _ => ?_)
      refine lv_aload_n hx hb dX12_holds_152 rfl (lv_at hl 3 rfl) ?_
      refine lv_iload hx hb dX12_holds_153 (lv_at hl 0 rfl) ?_
      refine lv_iload_n hx hb dX12_holds_155 rfl (lv_at hl 5 rfl) ?_
      refine oC_i (Wc := [(h0, .inr (11, [.int h0_thrown, .ref h0_tape, .int h0_taped, .int h0_size, .int h0_limit, .int h0_to, .int h0_from, .int h0_kind, .int h0_number, .int h0_sign, .int h0_fault, .int h0_place, .long h0_word, .int h0_told, .ref h0_now, .ref h0_read, .ref h0_kept, .ref h0_snaps, .ref h0_aside, .ref h0_name, .ref h0_readName, .ref h0_keptName, .ref h0_isKept, .ref h0_onces, .int h0_snapMany, .int u_228, .int u_229, .int h0_agreed, .int h0_jurors, .int h0_panelled, .ref h0_inSets, .int h0_surely, .int h0_asked, .ref h0_frees, .int h0_struck, .int h0_beating, .ref h0_text, .int h0_texts, .int h0_seed, .ref h0_line, .ref h0_written, .int h0_lineMany, .int h0_hasWritten, .ref h0_node, .int h0_nodes, .int h0_onesMany, .int h0_within, .int h0_top])), (aI ca h0_now 376 F_h0_now)]) (Wr := []) (va_runV (As := [.int x_198, .int a2]) (rest := []) ⟨hx, hb, hml, hown, hts⟩ (s_X12_holds_3 l D ca H.size h0 x_198 a2 h0_thrown h0_tape h0_taped h0_size h0_limit h0_to h0_from h0_kind h0_number h0_sign h0_fault h0_place h0_word h0_told h0_now h0_read h0_kept h0_snaps h0_aside h0_name h0_readName h0_keptName h0_isKept h0_onces h0_snapMany u_228 u_229 h0_agreed h0_jurors h0_panelled h0_inSets h0_surely h0_asked h0_frees h0_struck h0_beating h0_text h0_texts h0_seed h0_line h0_written h0_lineMany h0_hasWritten h0_node h0_nodes h0_onesMany h0_within h0_top F_h0_now h_225 i_a2 i_h0_taped i_h0_size i_h0_to i_h0_kind i_h0_snapMany i_h0_texts i_h0_lineMany i_h0_hasWritten i_h0_nodes i_h0_onesMany s_h0_now_0 s_h0_now_1 s_h0_now_2 s_h0_now_3 s_h0_now_4 s_h0_now_5 s_h0_now_6 s_h0_now_7 cu_tokw) (cwV 2 hts gX12_holds_X12_holds rfl rfl rfl (by decide +kernel) ⟨Nat.le_of_ble_eq_true rfl, Nat.le_of_ble_eq_true rfl⟩) (oPV (C := RX12) hK hP hD [0, 1] rfl (by decide) 0 rfl (ci := 11) rfl rfl) rfl rfl hl.1 rfl (lv_room (Nat.le_of_ble_eq_true rfl)) dX12_holds_156 ⟨Nat.le_of_ble_eq_true rfl, Nat.le_of_ble_eq_true rfl⟩) hP hD hS hA [0, 1] [] rfl rfl (by decide) (by decide) (fun r_232 u H locs w_233 hP hD hS => ?_)
      obtain ⟨u_234, u_235⟩ := u
      have hP : va_P D vwCl [(h0, .inr (11, [.int h0_thrown, .ref h0_tape, .int h0_taped, .int h0_size, .int h0_limit, .int h0_to, .int h0_from, .int h0_kind, .int h0_number, .int h0_sign, .int h0_fault, .int h0_place, .long h0_word, .int h0_told, .ref h0_now, .ref h0_read, .ref h0_kept, .ref h0_snaps, .ref h0_aside, .ref h0_name, .ref h0_readName, .ref h0_keptName, .ref h0_isKept, .ref h0_onces, .int h0_snapMany, .int u_234, .int u_235, .int h0_agreed, .int h0_jurors, .int h0_panelled, .ref h0_inSets, .int h0_surely, .int h0_asked, .ref h0_frees, .int h0_struck, .int h0_beating, .ref h0_text, .int h0_texts, .int h0_seed, .ref h0_line, .ref h0_written, .int h0_lineMany, .int h0_hasWritten, .ref h0_node, .int h0_nodes, .int h0_onesMany, .int h0_within, .int h0_top])), (aI ca h0_now 376 F_h0_now)] H := hP
      have hD : va_D A [(h0, .inr (11, [.int h0_thrown, .ref h0_tape, .int h0_taped, .int h0_size, .int h0_limit, .int h0_to, .int h0_from, .int h0_kind, .int h0_number, .int h0_sign, .int h0_fault, .int h0_place, .long h0_word, .int h0_told, .ref h0_now, .ref h0_read, .ref h0_kept, .ref h0_snaps, .ref h0_aside, .ref h0_name, .ref h0_readName, .ref h0_keptName, .ref h0_isKept, .ref h0_onces, .int h0_snapMany, .int u_234, .int u_235, .int h0_agreed, .int h0_jurors, .int h0_panelled, .ref h0_inSets, .int h0_surely, .int h0_asked, .ref h0_frees, .int h0_struck, .int h0_beating, .ref h0_text, .int h0_texts, .int h0_seed, .ref h0_line, .ref h0_written, .int h0_lineMany, .int h0_hasWritten, .ref h0_node, .int h0_nodes, .int h0_onesMany, .int h0_within, .int h0_top])), (aI ca h0_now 376 F_h0_now)] := hD
      try dsimp only at w_233
      rcases w_233 with h_236 | h_237
      · skip
        subst h_236
        refine lv_if_eq (tgt := 166) hx hb dX12_holds_159 (by decide) (fun _ => ?_) (fun c => absurd (by decide) c)
        refine lv_iconst (v := 0) hx hb dX12_holds_166 (by decide) ?_
        exact oE_i hx hb hr (by decide) hlocks hP hD hS (u_234, u_235) [0, 1] rfl (by decide) (Or.inr (rfl)) (Nat.le_of_ble_eq_true rfl) (Nat.le_of_ble_eq_true rfl) dX12_holds_167
      · skip
        subst h_237
        refine lv_if_eq (tgt := 166) hx hb dX12_holds_159 (by decide) (fun c => absurd c (by decide)) (fun _ => ?_)
        refine lv_iconst (v := 1) hx hb dX12_holds_162 (by decide) ?_
        refine lv_goto (tgt := 167) hx hb dX12_holds_163 (by decide) ?_
        exact oE_i hx hb hr (by decide) hlocks hP hD hS (u_234, u_235) [0, 1] rfl (by decide) (Or.inl rfl) (Nat.le_of_ble_eq_true rfl) (Nat.le_of_ble_eq_true rfl) dX12_holds_167
    · skip
      subst h_231
      refine lv_if_ne (tgt := 162) hx hb dX12_holds_149 (by decide) (fun _ => ?_) (fun c => absurd c (by decide))
      refine lv_iconst (v := 1) hx hb dX12_holds_162 (by decide) ?_
      refine lv_goto (tgt := 167) hx hb dX12_holds_163 (by decide) ?_
      exact oE_i hx hb hr (by decide) hlocks hP hD hS (u_228, u_229) [0, 1] rfl (by decide) (Or.inl rfl) (Nat.le_of_ble_eq_true rfl) (Nat.le_of_ble_eq_true rfl) dX12_holds_167
  by_cases c_238 : x_199 = 68
  · skip
    refine oti 68 c_238 ?_
    refine lv_lookup (off := 134) (tgt := 168) hx hb dX12_holds_34 (by decide) (by decide) (by decide) ?_
    refine lv_aload_n hx hb dX12_holds_168 rfl (lv_at hl 3 rfl) ?_
    refine va_get (D := D) (ci := 11) (v := .ref h0_now) (C := RX12) (T := TX12) (N := 48) hx hb hts k2 hown hK.1 hP 0 rfl rfl 14 (by decide) k1 (fun _ h9 => h9) rfl dX12_holds_169 ?_
    refine lv_bipush (v := 90) hx hb dX12_holds_172 (by decide) ?_
    refine va_iald hx hb hK.1 hP 1 0 rfl rfl (rg_in (⟨by decide, by decide⟩ : rg 90 90 (90 : Int32)) (by decide) (by decide)) dX12_holds_174 ?_
    refine lv_topi (fun x_239 ex_239 => ?_)
    have h_240 : rg 0 1023 x_239 := by rw [ex_239]; exact sg_at s_h0_now_5 (⟨by decide, by decide⟩ : rg 90 90 (90 : Int32)) (by decide) (by decide) (by decide)
    refine lv_iload_n hx hb dX12_holds_175 rfl (lv_at hl 5 rfl) ?_
    refine oC_i (Wc := []) (Wr := [(h0, .inr (11, [.int h0_thrown, .ref h0_tape, .int h0_taped, .int h0_size, .int h0_limit, .int h0_to, .int h0_from, .int h0_kind, .int h0_number, .int h0_sign, .int h0_fault, .int h0_place, .long h0_word, .int h0_told, .ref h0_now, .ref h0_read, .ref h0_kept, .ref h0_snaps, .ref h0_aside, .ref h0_name, .ref h0_readName, .ref h0_keptName, .ref h0_isKept, .ref h0_onces, .int h0_snapMany, .int h0_lowest, .int h0_highest, .int h0_agreed, .int h0_jurors, .int h0_panelled, .ref h0_inSets, .int h0_surely, .int h0_asked, .ref h0_frees, .int h0_struck, .int h0_beating, .ref h0_text, .int h0_texts, .int h0_seed, .ref h0_line, .ref h0_written, .int h0_lineMany, .int h0_hasWritten, .ref h0_node, .int h0_nodes, .int h0_onesMany, .int h0_within, .int h0_top])), (aI ca h0_now 376 F_h0_now)]) (va_runS (As := [.int x_239, .int a2]) (rest := []) ⟨hx, hb, hml, hown, hts⟩ (s_X12_has l D ca H.size x_239 a2) (va_cwS 2 hts gX12_holds_X12_has rfl rfl rfl (by decide +kernel) ⟨Nat.le_of_ble_eq_true rfl, Nat.le_of_ble_eq_true rfl⟩) (oPS hK hP hD [] rfl (by decide)) rfl rfl hl.1 rfl (lv_room (Nat.le_of_ble_eq_true rfl)) dX12_holds_176 ⟨Nat.le_of_ble_eq_true rfl, Nat.le_of_ble_eq_true rfl⟩) hP hD hS hA [] [0, 1] rfl rfl (by decide) (by decide) (fun r_241 u H locs w_242 hP hD hS => ?_)
    obtain ⟨⟩ := u
    have hP : va_P D vwCl [(h0, .inr (11, [.int h0_thrown, .ref h0_tape, .int h0_taped, .int h0_size, .int h0_limit, .int h0_to, .int h0_from, .int h0_kind, .int h0_number, .int h0_sign, .int h0_fault, .int h0_place, .long h0_word, .int h0_told, .ref h0_now, .ref h0_read, .ref h0_kept, .ref h0_snaps, .ref h0_aside, .ref h0_name, .ref h0_readName, .ref h0_keptName, .ref h0_isKept, .ref h0_onces, .int h0_snapMany, .int h0_lowest, .int h0_highest, .int h0_agreed, .int h0_jurors, .int h0_panelled, .ref h0_inSets, .int h0_surely, .int h0_asked, .ref h0_frees, .int h0_struck, .int h0_beating, .ref h0_text, .int h0_texts, .int h0_seed, .ref h0_line, .ref h0_written, .int h0_lineMany, .int h0_hasWritten, .ref h0_node, .int h0_nodes, .int h0_onesMany, .int h0_within, .int h0_top])), (aI ca h0_now 376 F_h0_now)] H := hP
    have hD : va_D A [(h0, .inr (11, [.int h0_thrown, .ref h0_tape, .int h0_taped, .int h0_size, .int h0_limit, .int h0_to, .int h0_from, .int h0_kind, .int h0_number, .int h0_sign, .int h0_fault, .int h0_place, .long h0_word, .int h0_told, .ref h0_now, .ref h0_read, .ref h0_kept, .ref h0_snaps, .ref h0_aside, .ref h0_name, .ref h0_readName, .ref h0_keptName, .ref h0_isKept, .ref h0_onces, .int h0_snapMany, .int h0_lowest, .int h0_highest, .int h0_agreed, .int h0_jurors, .int h0_panelled, .ref h0_inSets, .int h0_surely, .int h0_asked, .ref h0_frees, .int h0_struck, .int h0_beating, .ref h0_text, .int h0_texts, .int h0_seed, .ref h0_line, .ref h0_written, .int h0_lineMany, .int h0_hasWritten, .ref h0_node, .int h0_nodes, .int h0_onesMany, .int h0_within, .int h0_top])), (aI ca h0_now 376 F_h0_now)] := hD
    try dsimp only at w_242
    rcases w_242 with ⟨h_243, h_244⟩ | ⟨h_245, h_246⟩
    · skip
      subst h_243
      exact oE_i hx hb hr (by decide) hlocks hP hD hS (h0_lowest, h0_highest) [0, 1] rfl (by decide) (Or.inr (rfl)) (Nat.le_of_ble_eq_true rfl) (Nat.le_of_ble_eq_true rfl) dX12_holds_179
    · skip
      subst h_245
      exact oE_i hx hb hr (by decide) hlocks hP hD hS (h0_lowest, h0_highest) [0, 1] rfl (by decide) (Or.inl rfl) (Nat.le_of_ble_eq_true rfl) (Nat.le_of_ble_eq_true rfl) dX12_holds_179
  by_cases c_247 : x_199 = 69
  · skip
    refine oti 69 c_247 ?_
    refine lv_lookup (off := 146) (tgt := 180) hx hb dX12_holds_34 (by decide) (by decide) (by decide) ?_
    refine lv_aload_n hx hb dX12_holds_180 rfl (lv_at hl 3 rfl) ?_
    refine va_get (D := D) (ci := 11) (v := .ref h0_now) (C := RX12) (T := TX12) (N := 48) hx hb hts k2 hown hK.1 hP 0 rfl rfl 14 (by decide) k1 (fun _ h9 => h9) rfl dX12_holds_181 ?_
    refine lv_bipush (v := 91) hx hb dX12_holds_184 (by decide) ?_
    refine va_iald hx hb hK.1 hP 1 0 rfl rfl (rg_in (⟨by decide, by decide⟩ : rg 91 91 (91 : Int32)) (by decide) (by decide)) dX12_holds_186 ?_
    refine lv_topi (fun x_248 ex_248 => ?_)
    refine lv_iload_n hx hb dX12_holds_187 rfl (lv_at hl 5 rfl) ?_
    refine oC_i (Wc := []) (Wr := [(h0, .inr (11, [.int h0_thrown, .ref h0_tape, .int h0_taped, .int h0_size, .int h0_limit, .int h0_to, .int h0_from, .int h0_kind, .int h0_number, .int h0_sign, .int h0_fault, .int h0_place, .long h0_word, .int h0_told, .ref h0_now, .ref h0_read, .ref h0_kept, .ref h0_snaps, .ref h0_aside, .ref h0_name, .ref h0_readName, .ref h0_keptName, .ref h0_isKept, .ref h0_onces, .int h0_snapMany, .int h0_lowest, .int h0_highest, .int h0_agreed, .int h0_jurors, .int h0_panelled, .ref h0_inSets, .int h0_surely, .int h0_asked, .ref h0_frees, .int h0_struck, .int h0_beating, .ref h0_text, .int h0_texts, .int h0_seed, .ref h0_line, .ref h0_written, .int h0_lineMany, .int h0_hasWritten, .ref h0_node, .int h0_nodes, .int h0_onesMany, .int h0_within, .int h0_top])), (aI ca h0_now 376 F_h0_now)]) (va_runS (As := [.int x_248, .int a2]) (rest := []) ⟨hx, hb, hml, hown, hts⟩ (s_X12_has l D ca H.size x_248 a2) (va_cwS 2 hts gX12_holds_X12_has rfl rfl rfl (by decide +kernel) ⟨Nat.le_of_ble_eq_true rfl, Nat.le_of_ble_eq_true rfl⟩) (oPS hK hP hD [] rfl (by decide)) rfl rfl hl.1 rfl (lv_room (Nat.le_of_ble_eq_true rfl)) dX12_holds_188 ⟨Nat.le_of_ble_eq_true rfl, Nat.le_of_ble_eq_true rfl⟩) hP hD hS hA [] [0, 1] rfl rfl (by decide) (by decide) (fun r_249 u H locs w_250 hP hD hS => ?_)
    obtain ⟨⟩ := u
    have hP : va_P D vwCl [(h0, .inr (11, [.int h0_thrown, .ref h0_tape, .int h0_taped, .int h0_size, .int h0_limit, .int h0_to, .int h0_from, .int h0_kind, .int h0_number, .int h0_sign, .int h0_fault, .int h0_place, .long h0_word, .int h0_told, .ref h0_now, .ref h0_read, .ref h0_kept, .ref h0_snaps, .ref h0_aside, .ref h0_name, .ref h0_readName, .ref h0_keptName, .ref h0_isKept, .ref h0_onces, .int h0_snapMany, .int h0_lowest, .int h0_highest, .int h0_agreed, .int h0_jurors, .int h0_panelled, .ref h0_inSets, .int h0_surely, .int h0_asked, .ref h0_frees, .int h0_struck, .int h0_beating, .ref h0_text, .int h0_texts, .int h0_seed, .ref h0_line, .ref h0_written, .int h0_lineMany, .int h0_hasWritten, .ref h0_node, .int h0_nodes, .int h0_onesMany, .int h0_within, .int h0_top])), (aI ca h0_now 376 F_h0_now)] H := hP
    have hD : va_D A [(h0, .inr (11, [.int h0_thrown, .ref h0_tape, .int h0_taped, .int h0_size, .int h0_limit, .int h0_to, .int h0_from, .int h0_kind, .int h0_number, .int h0_sign, .int h0_fault, .int h0_place, .long h0_word, .int h0_told, .ref h0_now, .ref h0_read, .ref h0_kept, .ref h0_snaps, .ref h0_aside, .ref h0_name, .ref h0_readName, .ref h0_keptName, .ref h0_isKept, .ref h0_onces, .int h0_snapMany, .int h0_lowest, .int h0_highest, .int h0_agreed, .int h0_jurors, .int h0_panelled, .ref h0_inSets, .int h0_surely, .int h0_asked, .ref h0_frees, .int h0_struck, .int h0_beating, .ref h0_text, .int h0_texts, .int h0_seed, .ref h0_line, .ref h0_written, .int h0_lineMany, .int h0_hasWritten, .ref h0_node, .int h0_nodes, .int h0_onesMany, .int h0_within, .int h0_top])), (aI ca h0_now 376 F_h0_now)] := hD
    try dsimp only at w_250
    rcases w_250 with ⟨h_251, h_252⟩ | ⟨h_253, h_254⟩
    · skip
      subst h_251
      exact oE_i hx hb hr (by decide) hlocks hP hD hS (h0_lowest, h0_highest) [0, 1] rfl (by decide) (Or.inr (rfl)) (Nat.le_of_ble_eq_true rfl) (Nat.le_of_ble_eq_true rfl) dX12_holds_191
    · skip
      subst h_253
      exact oE_i hx hb hr (by decide) hlocks hP hD hS (h0_lowest, h0_highest) [0, 1] rfl (by decide) (Or.inl rfl) (Nat.le_of_ble_eq_true rfl) (Nat.le_of_ble_eq_true rfl) dX12_holds_191
  by_cases c_255 : x_199 = 70
  · skip
    refine oti 70 c_255 ?_
    refine lv_lookup (off := 158) (tgt := 192) hx hb dX12_holds_34 (by decide) (by decide) (by decide) ?_
    refine lv_aload_n hx hb dX12_holds_192 rfl (lv_at hl 3 rfl) ?_
    refine va_get (D := D) (ci := 11) (v := .ref h0_now) (C := RX12) (T := TX12) (N := 48) hx hb hts k2 hown hK.1 hP 0 rfl rfl 14 (by decide) k1 (fun _ h9 => h9) rfl dX12_holds_193 ?_
    refine lv_bipush (v := 94) hx hb dX12_holds_196 (by decide) ?_
    refine lv_iload_n hx hb dX12_holds_198 rfl (lv_at hl 5 rfl) ?_
    refine lv_iadd hx hb dX12_holds_199 ?_
    refine lv_topi (fun x_256 ex_256 => ?_)
    have h_257 : rg 94 103 x_256 := by rw [ex_256]; exact rg_add (⟨by decide, by decide⟩ : rg 94 94 (94 : Int32)) i_a2 (by decide) (by decide) (by decide) (by decide)
    have l_258 : lq x_256.toInt (a2.toInt + 94) := lqm (by rw [ex_256]; have q := tadd (⟨by decide, by decide⟩ : rg 94 94 (94 : Int32)) i_a2 (by decide) (by decide); have r0 := lqe (lqm (by decide) : lq (94 : Int32).toInt 94); omega)
    refine va_iald hx hb hK.1 hP 1 0 rfl rfl (rg_in h_257 (by decide) (by decide)) dX12_holds_200 ?_
    refine lv_topi (fun x_259 ex_259 => ?_)
    refine lv_if_le (tgt := 208) hx hb dX12_holds_201 (by decide) (fun c_260 => ?_) (fun c_260 => ?_)
    · skip
      have o_261 : rl 0 x_259 0 := rl_le c_260
      have h_262 : rg (-2147483648) 0 x_259 := rl_x o_261 (rga x_259) (⟨by decide, by decide⟩ : rg 0 0 (0 : Int32)) (by decide) (by decide)
      refine lv_iconst (v := 0) hx hb dX12_holds_208 (by decide) ?_
      exact oE_i hx hb hr (by decide) hlocks hP hD hS (h0_lowest, h0_highest) [0, 1] rfl (by decide) (Or.inr (rfl)) (Nat.le_of_ble_eq_true rfl) (Nat.le_of_ble_eq_true rfl) dX12_holds_209
    · skip
      have o_263 : rl 1 0 x_259 := rl_nle c_260
      have h_264 : rg 1 2147483647 x_259 := rl_y o_263 (⟨by decide, by decide⟩ : rg 0 0 (0 : Int32)) (rga x_259) (by decide) (by decide)
      refine lv_iconst (v := 1) hx hb dX12_holds_204 (by decide) ?_
      refine lv_goto (tgt := 209) hx hb dX12_holds_205 (by decide) ?_
      exact oE_i hx hb hr (by decide) hlocks hP hD hS (h0_lowest, h0_highest) [0, 1] rfl (by decide) (Or.inl rfl) (Nat.le_of_ble_eq_true rfl) (Nat.le_of_ble_eq_true rfl) dX12_holds_209
  by_cases c_265 : x_199 = 71
  · skip
    refine oti 71 c_265 ?_
    refine lv_lookup (off := 176) (tgt := 210) hx hb dX12_holds_34 (by decide) (by decide) (by decide) ?_
    have h_266 : rg 0 39 x_194 := ht.2.2 c_265
    refine lv_aload_n hx hb dX12_holds_210 rfl (lv_at hl 3 rfl) ?_
    refine lv_iload_n hx hb dX12_holds_211 rfl (lv_at hl 5 rfl) ?_
    refine lv_iload hx hb dX12_holds_212 (lv_at hl 1 rfl) ?_
    refine oC_i (Wc := [(h0, .inr (11, [.int h0_thrown, .ref h0_tape, .int h0_taped, .int h0_size, .int h0_limit, .int h0_to, .int h0_from, .int h0_kind, .int h0_number, .int h0_sign, .int h0_fault, .int h0_place, .long h0_word, .int h0_told, .ref h0_now, .ref h0_read, .ref h0_kept, .ref h0_snaps, .ref h0_aside, .ref h0_name, .ref h0_readName, .ref h0_keptName, .ref h0_isKept, .ref h0_onces, .int h0_snapMany, .int h0_lowest, .int h0_highest, .int h0_agreed, .int h0_jurors, .int h0_panelled, .ref h0_inSets, .int h0_surely, .int h0_asked, .ref h0_frees, .int h0_struck, .int h0_beating, .ref h0_text, .int h0_texts, .int h0_seed, .ref h0_line, .ref h0_written, .int h0_lineMany, .int h0_hasWritten, .ref h0_node, .int h0_nodes, .int h0_onesMany, .int h0_within, .int h0_top])), (aI ca h0_now 376 F_h0_now)]) (Wr := []) (va_runV (As := [.int a2, .int x_194]) (rest := []) ⟨hx, hb, hml, hown, hts⟩ (s_X12_areOneRing l D ca H.size h0 a2 x_194 h0_thrown h0_tape h0_taped h0_size h0_limit h0_to h0_from h0_kind h0_number h0_sign h0_fault h0_place h0_word h0_told h0_now h0_read h0_kept h0_snaps h0_aside h0_name h0_readName h0_keptName h0_isKept h0_onces h0_snapMany h0_lowest h0_highest h0_agreed h0_jurors h0_panelled h0_inSets h0_surely h0_asked h0_frees h0_struck h0_beating h0_text h0_texts h0_seed h0_line h0_written h0_lineMany h0_hasWritten h0_node h0_nodes h0_onesMany h0_within h0_top F_h0_now i_a2 h_266 i_h0_taped i_h0_size i_h0_to i_h0_kind i_h0_snapMany i_h0_texts i_h0_lineMany i_h0_hasWritten i_h0_nodes i_h0_onesMany s_h0_now_0 s_h0_now_1 s_h0_now_2 s_h0_now_3 s_h0_now_4 s_h0_now_5 s_h0_now_6 s_h0_now_7) (cwV 2 hts gX12_holds_X12_areOneRing rfl rfl rfl (by decide +kernel) ⟨Nat.le_of_ble_eq_true rfl, Nat.le_of_ble_eq_true rfl⟩) (oPV (C := RX12) hK hP hD [0, 1] rfl (by decide) 0 rfl (ci := 11) rfl rfl) rfl rfl hl.1 rfl (lv_room (Nat.le_of_ble_eq_true rfl)) dX12_holds_214 ⟨Nat.le_of_ble_eq_true rfl, Nat.le_of_ble_eq_true rfl⟩) hP hD hS hA [0, 1] [] rfl rfl (by decide) (by decide) (fun r_267 u H locs w_268 hP hD hS => ?_)
    obtain ⟨u_269, u_270⟩ := u
    have hP : va_P D vwCl [(h0, .inr (11, [.int h0_thrown, .ref h0_tape, .int h0_taped, .int h0_size, .int h0_limit, .int h0_to, .int h0_from, .int h0_kind, .int h0_number, .int h0_sign, .int h0_fault, .int h0_place, .long h0_word, .int h0_told, .ref h0_now, .ref h0_read, .ref h0_kept, .ref h0_snaps, .ref h0_aside, .ref h0_name, .ref h0_readName, .ref h0_keptName, .ref h0_isKept, .ref h0_onces, .int h0_snapMany, .int u_269, .int u_270, .int h0_agreed, .int h0_jurors, .int h0_panelled, .ref h0_inSets, .int h0_surely, .int h0_asked, .ref h0_frees, .int h0_struck, .int h0_beating, .ref h0_text, .int h0_texts, .int h0_seed, .ref h0_line, .ref h0_written, .int h0_lineMany, .int h0_hasWritten, .ref h0_node, .int h0_nodes, .int h0_onesMany, .int h0_within, .int h0_top])), (aI ca h0_now 376 F_h0_now)] H := hP
    have hD : va_D A [(h0, .inr (11, [.int h0_thrown, .ref h0_tape, .int h0_taped, .int h0_size, .int h0_limit, .int h0_to, .int h0_from, .int h0_kind, .int h0_number, .int h0_sign, .int h0_fault, .int h0_place, .long h0_word, .int h0_told, .ref h0_now, .ref h0_read, .ref h0_kept, .ref h0_snaps, .ref h0_aside, .ref h0_name, .ref h0_readName, .ref h0_keptName, .ref h0_isKept, .ref h0_onces, .int h0_snapMany, .int u_269, .int u_270, .int h0_agreed, .int h0_jurors, .int h0_panelled, .ref h0_inSets, .int h0_surely, .int h0_asked, .ref h0_frees, .int h0_struck, .int h0_beating, .ref h0_text, .int h0_texts, .int h0_seed, .ref h0_line, .ref h0_written, .int h0_lineMany, .int h0_hasWritten, .ref h0_node, .int h0_nodes, .int h0_onesMany, .int h0_within, .int h0_top])), (aI ca h0_now 376 F_h0_now)] := hD
    try dsimp only at w_268
    rcases w_268 with ⟨h_271, h_272, h_273⟩ | ⟨h_274, h_275, h_276, h_277⟩
    · skip
      subst h_271
      exact oE_i hx hb hr (by decide) hlocks hP hD hS (u_269, u_270) [0, 1] rfl (by decide) (Or.inr (rfl)) (Nat.le_of_ble_eq_true rfl) (Nat.le_of_ble_eq_true rfl) dX12_holds_217
    · skip
      subst h_274
      exact oE_i hx hb hr (by decide) hlocks hP hD hS (u_269, u_270) [0, 1] rfl (by decide) (Or.inl rfl) (Nat.le_of_ble_eq_true rfl) (Nat.le_of_ble_eq_true rfl) dX12_holds_217
  have t0 := lv_neT c_200 (show (1 : Int32).toInt = 1 by decide)
  have t1 := lv_neT c_208 (show (2 : Int32).toInt = 2 by decide)
  have t2 := lv_neT c_223 (show (3 : Int32).toInt = 3 by decide)
  have t3 := lv_neT c_238 (show (68 : Int32).toInt = 68 by decide)
  have t4 := lv_neT c_247 (show (69 : Int32).toInt = 69 by decide)
  have t5 := lv_neT c_255 (show (70 : Int32).toInt = 70 by decide)
  have t6 := lv_neT c_265 (show (71 : Int32).toInt = 71 by decide)
  refine lv_lookup (off := 184) (tgt := 218) hx hb dX12_holds_34 (by decide) (by simp [Op.lookupswitch.offset, show ¬ (1 : Int) = x_199.toInt from fun h9 => t0 h9.symm, show ¬ (2 : Int) = x_199.toInt from fun h9 => t1 h9.symm, show ¬ (3 : Int) = x_199.toInt from fun h9 => t2 h9.symm, show ¬ (68 : Int) = x_199.toInt from fun h9 => t3 h9.symm, show ¬ (69 : Int) = x_199.toInt from fun h9 => t4 h9.symm, show ¬ (70 : Int) = x_199.toInt from fun h9 => t5 h9.symm, show ¬ (71 : Int) = x_199.toInt from fun h9 => t6 h9.symm]) (by decide) ?_
  refine lv_aload_n hx hb dX12_holds_218 rfl (lv_at hl 3 rfl) ?_
  refine va_get (D := D) (ci := 11) (v := .ref h0_now) (C := RX12) (T := TX12) (N := 48) hx hb hts k2 hown hK.1 hP 0 rfl rfl 14 (by decide) k1 (fun _ h9 => h9) rfl dX12_holds_219 ?_
  refine lv_iload_n hx hb dX12_holds_222 rfl (lv_at hl 2 rfl) ?_
  refine va_iald hx hb hK.1 hP 1 0 rfl rfl (rg_in h_189 (by decide) (by decide)) dX12_holds_223 ?_
  refine oti x_199 ex_199.symm ?_
  refine lv_bipush (v := 50) hx hb dX12_holds_224 (by decide) ?_
  refine lv_isub hx hb dX12_holds_226 ?_
  refine lv_topi (fun x_278 ex_278 => ?_)
  refine lv_istore (lv' := [(6, .int x_278), (5, .int x_198), (4, .int x_194), (3, .int x_188), (0, .ref h0), (1, .int a1), (2, .int a2)]) hx hb dX12_holds_227 hl (by decide) rfl (fun ls hl => ?_)
  refine lv_iload hx hb dX12_holds_229 (lv_at hl 0 rfl) ?_
  refine lv_bipush (v := 22) hx hb dX12_holds_231 (by decide) ?_
  refine lv_icmp_ne (tgt := 247) hx hb dX12_holds_233 (by decide) (fun c_279 => ?_) (fun c_279 => ?_)
  · skip
    refine lv_iload hx hb dX12_holds_247 (lv_at hl 0 rfl) ?_
    refine lv_bipush (v := 23) hx hb dX12_holds_249 (by decide) ?_
    refine lv_icmp_ne (tgt := 266) hx hb dX12_holds_251 (by decide) (fun c_280 => ?_) (fun c_280 => ?_)
    · skip
      refine lv_iload hx hb dX12_holds_266 (lv_at hl 0 rfl) ?_
      refine lv_bipush (v := 24) hx hb dX12_holds_268 (by decide) ?_
      refine lv_icmp_ne (tgt := 285) hx hb dX12_holds_270 (by decide) (fun c_281 => ?_) (fun c_281 => ?_)
      · skip
        refine lv_iload_n hx hb dX12_holds_285 rfl (lv_at hl 6 rfl) ?_
        exact J286_153 x_188 x_198 a2 h_189 H locs ls (oPsub hP [0, 1] rfl) (hD.sub [0, 1] (by decide) rfl) hS (lv_sub hl [4, 3, 1] rfl)
      · skip
        have o_282 : rl 0 x_278 24 := rl_eq c_281
        have h_283 : rg (-2147483648) 24 x_278 := rl_x o_282 (rga x_278) (⟨by decide, by decide⟩ : rg 24 24 (24 : Int32)) (by decide) (by decide)
        have o_284 : rl 0 24 x_278 := rl_eq c_281.symm
        have h_285 : rg 24 24 x_278 := rl_y o_284 (⟨by decide, by decide⟩ : rg 24 24 (24 : Int32)) h_283 (by decide) (by decide)
        refine lv_aload_n hx hb dX12_holds_273 rfl (lv_at hl 4 rfl) ?_
        refine va_get (D := D) (ci := 11) (v := .ref h0_now) (C := RX12) (T := TX12) (N := 48) hx hb hts k2 hown hK.1 hP 0 rfl rfl 14 (by decide) k1 (fun _ h9 => h9) rfl dX12_holds_274 ?_
        refine lv_bipush (v := 94) hx hb dX12_holds_277 (by decide) ?_
        refine lv_iload_n hx hb dX12_holds_279 rfl (lv_at hl 6 rfl) ?_
        refine lv_iadd hx hb dX12_holds_280 ?_
        refine lv_topi (fun x_286 ex_286 => ?_)
        have h_287 : rg 94 103 x_286 := by rw [ex_286]; exact rg_add (⟨by decide, by decide⟩ : rg 94 94 (94 : Int32)) i_a2 (by decide) (by decide) (by decide) (by decide)
        have l_288 : lq x_286.toInt (a2.toInt + 94) := lqm (by rw [ex_286]; have q := tadd (⟨by decide, by decide⟩ : rg 94 94 (94 : Int32)) i_a2 (by decide) (by decide); have r0 := lqe (lqm (by decide) : lq (94 : Int32).toInt 94); omega)
        refine va_iald hx hb hK.1 hP 1 0 rfl rfl (rg_in h_287 (by decide) (by decide)) dX12_holds_281 ?_
        refine lv_topi (fun x_289 ex_289 => ?_)
        refine lv_goto (tgt := 286) hx hb dX12_holds_282 (by decide) ?_
        exact J286_153 x_188 x_198 x_289 h_189 H locs ls (oPsub hP [0, 1] rfl) (hD.sub [0, 1] (by decide) rfl) hS (lv_sub hl [4, 3, 1] rfl)
    · skip
      have o_290 : rl 0 x_278 23 := rl_eq c_280
      have h_291 : rg (-2147483648) 23 x_278 := rl_x o_290 (rga x_278) (⟨by decide, by decide⟩ : rg 23 23 (23 : Int32)) (by decide) (by decide)
      have o_292 : rl 0 23 x_278 := rl_eq c_280.symm
      have h_293 : rg 23 23 x_278 := rl_y o_292 (⟨by decide, by decide⟩ : rg 23 23 (23 : Int32)) h_291 (by decide) (by decide)
      refine lv_aload_n hx hb dX12_holds_254 rfl (lv_at hl 4 rfl) ?_
      refine va_get (D := D) (ci := 11) (v := .ref h0_now) (C := RX12) (T := TX12) (N := 48) hx hb hts k2 hown hK.1 hP 0 rfl rfl 14 (by decide) k1 (fun _ h9 => h9) rfl dX12_holds_255 ?_
      refine lv_bipush (v := 15) hx hb dX12_holds_258 (by decide) ?_
      refine lv_iload_n hx hb dX12_holds_260 rfl (lv_at hl 6 rfl) ?_
      refine lv_iadd hx hb dX12_holds_261 ?_
      refine lv_topi (fun x_294 ex_294 => ?_)
      have h_295 : rg 15 24 x_294 := by rw [ex_294]; exact rg_add (⟨by decide, by decide⟩ : rg 15 15 (15 : Int32)) i_a2 (by decide) (by decide) (by decide) (by decide)
      have l_296 : lq x_294.toInt (a2.toInt + 15) := lqm (by rw [ex_294]; have q := tadd (⟨by decide, by decide⟩ : rg 15 15 (15 : Int32)) i_a2 (by decide) (by decide); have r0 := lqe (lqm (by decide) : lq (15 : Int32).toInt 15); omega)
      refine va_iald hx hb hK.1 hP 1 0 rfl rfl (rg_in h_295 (by decide) (by decide)) dX12_holds_262 ?_
      refine lv_topi (fun x_297 ex_297 => ?_)
      refine lv_goto (tgt := 286) hx hb dX12_holds_263 (by decide) ?_
      exact J286_153 x_188 x_198 x_297 h_189 H locs ls (oPsub hP [0, 1] rfl) (hD.sub [0, 1] (by decide) rfl) hS (lv_sub hl [4, 3, 1] rfl)
  · skip
    have o_298 : rl 0 x_278 22 := rl_eq c_279
    have h_299 : rg (-2147483648) 22 x_278 := rl_x o_298 (rga x_278) (⟨by decide, by decide⟩ : rg 22 22 (22 : Int32)) (by decide) (by decide)
    have o_300 : rl 0 22 x_278 := rl_eq c_279.symm
    have h_301 : rg 22 22 x_278 := rl_y o_300 (⟨by decide, by decide⟩ : rg 22 22 (22 : Int32)) h_299 (by decide) (by decide)
    refine lv_aload_n hx hb dX12_holds_236 rfl (lv_at hl 4 rfl) ?_
    refine va_get (D := D) (ci := 11) (v := .ref h0_now) (C := RX12) (T := TX12) (N := 48) hx hb hts k2 hown hK.1 hP 0 rfl rfl 14 (by decide) k1 (fun _ h9 => h9) rfl dX12_holds_237 ?_
    refine lv_iconst (v := 5) hx hb dX12_holds_240 (by decide) ?_
    refine lv_iload_n hx hb dX12_holds_241 rfl (lv_at hl 6 rfl) ?_
    refine lv_iadd hx hb dX12_holds_242 ?_
    refine lv_topi (fun x_302 ex_302 => ?_)
    have h_303 : rg 5 14 x_302 := by rw [ex_302]; exact rg_add (⟨by decide, by decide⟩ : rg 5 5 (5 : Int32)) i_a2 (by decide) (by decide) (by decide) (by decide)
    have l_304 : lq x_302.toInt (a2.toInt + 5) := lqm (by rw [ex_302]; have q := tadd (⟨by decide, by decide⟩ : rg 5 5 (5 : Int32)) i_a2 (by decide) (by decide); have r0 := lqe (lqm (by decide) : lq (5 : Int32).toInt 5); omega)
    refine va_iald hx hb hK.1 hP 1 0 rfl rfl (rg_in h_303 (by decide) (by decide)) dX12_holds_243 ?_
    refine lv_topi (fun x_305 ex_305 => ?_)
    refine lv_goto (tgt := 286) hx hb dX12_holds_244 (by decide) ?_
    exact J286_153 x_188 x_198 x_305 h_189 H locs ls (oPsub hP [0, 1] rfl) (hD.sub [0, 1] (by decide) rfl) hS (lv_sub hl [4, 3, 1] rfl)
