theorem dX12_begin_0 : decode cX12_begin 0 = .ok (.aload_n 0, 1) := by decide +kernel
theorem dX12_begin_1 : decode cX12_begin 1 = .ok (.iconst 0, 1) := by decide +kernel
theorem dX12_begin_2 : decode cX12_begin 2 = .ok (.putfield 1, 3) := by decide +kernel
theorem dX12_begin_5 : decode cX12_begin 5 = .ok (.aload_n 0, 1) := by decide +kernel
theorem dX12_begin_6 : decode cX12_begin 6 = .ok (.aload_n 0, 1) := by decide +kernel
theorem dX12_begin_7 : decode cX12_begin 7 = .ok (.invokevirtual 89, 3) := by decide +kernel
theorem dX12_begin_10 : decode cX12_begin 10 = .ok (.putfield 18, 3) := by decide +kernel
theorem dX12_begin_13 : decode cX12_begin 13 = .ok (.aload_n 0, 1) := by decide +kernel
theorem dX12_begin_14 : decode cX12_begin 14 = .ok (.iload_n 1, 1) := by decide +kernel
theorem dX12_begin_15 : decode cX12_begin 15 = .ok (.putfield 27, 3) := by decide +kernel
theorem dX12_begin_18 : decode cX12_begin 18 = .ok (.aload_n 0, 1) := by decide +kernel
theorem dX12_begin_19 : decode cX12_begin 19 = .ok (.iconst 0, 1) := by decide +kernel
theorem dX12_begin_20 : decode cX12_begin 20 = .ok (.putfield 66, 3) := by decide +kernel
theorem dX12_begin_23 : decode cX12_begin 23 = .ok (.aload_n 0, 1) := by decide +kernel
theorem dX12_begin_24 : decode cX12_begin 24 = .ok (.iconst 0, 1) := by decide +kernel
theorem dX12_begin_25 : decode cX12_begin 25 = .ok (.putfield 21, 3) := by decide +kernel
theorem dX12_begin_28 : decode cX12_begin 28 = .ok (.aload_n 0, 1) := by decide +kernel
theorem dX12_begin_29 : decode cX12_begin 29 = .ok (.invokevirtual 82, 3) := by decide +kernel
theorem dX12_begin_32 : decode cX12_begin 32 = .ok (.return_, 1) := by decide +kernel
set_option maxRecDepth 20000 in
theorem ggX12_begin_X12_take : GoodIn wsX12_begin wsX12_take := goodIn_r _ [10, 11, 34, 35, 36, 37, 38, 39, 40, 41, 42, 43, 44, 45, 46, 47, 48, 49, 50, 51, 52, 53, 54, 55, 56, 57, 58, 59, 60, 61, 62, 63, 64, 65, 66, 67, 68, 69, 70, 71, 72, 73, 74, 75, 76, 77, 78, 79, 80, 81] rfl (by decide +kernel)
set_option maxRecDepth 20000 in
theorem gX12_begin_X12_take : GoodIn wsX12_begin (wsV RX12 89 RX12 yX12_take wsX12_take) := goodIn_app (goodIn_of _ (by decide +kernel)) ggX12_begin_X12_take
set_option maxRecDepth 20000 in
theorem ggX12_begin_X12_go : GoodIn wsX12_begin wsX12_go := goodIn_r _ [15, 5, 2, 16, 17, 3, 18, 19, 20, 21, 22, 23, 24, 25, 9, 26, 27, 28, 29, 30, 31, 32, 33, 34, 35, 36, 37, 38, 39, 40, 41, 42, 43, 44, 45, 46, 47, 48, 49, 50, 51, 52, 53, 54, 55, 56, 57, 58, 59, 60, 61, 62, 63, 64, 65, 66, 67, 68, 69, 70, 71, 72, 73, 74, 75, 76, 77, 78, 79, 80, 81] rfl (by decide +kernel)
set_option maxRecDepth 20000 in
theorem gX12_begin_X12_go : GoodIn wsX12_begin (wsV RX12 82 RX12 yX12_go wsX12_go) := goodIn_app (goodIn_of _ (by decide +kernel)) ggX12_begin_X12_go
set_option maxHeartbeats 4000000 in
set_option maxRecDepth 100000 in
theorem e_X12_begin (l : Launch) (D : va_G) (ca : Nat → ClassId) (sz : Nat) (h0 : Nat) (a1 : Int32) (h0_thrown : Int32) (h0_tape : Nat) (h0_taped : Int32) (h0_size : Int32) (h0_limit : Int32) (h0_to : Int32) (h0_from : Int32) (h0_kind : Int32) (h0_number : Int32) (h0_sign : Int32) (h0_fault : Int32) (h0_place : Int32) (h0_word : Int64) (h0_told : Int32) (h0_now : Nat) (h0_read : Nat) (h0_kept : Nat) (h0_snaps : Nat) (h0_aside : Nat) (h0_name : Nat) (h0_readName : Nat) (h0_keptName : Nat) (h0_isKept : Nat) (h0_onces : Nat) (h0_snapMany : Int32) (h0_lowest : Int32) (h0_highest : Int32) (h0_agreed : Int32) (h0_jurors : Int32) (h0_panelled : Int32) (h0_inSets : Nat) (h0_surely : Int32) (h0_asked : Int32) (h0_frees : Nat) (h0_struck : Int32) (h0_beating : Int32) (h0_text : Nat) (h0_texts : Int32) (h0_seed : Int32) (h0_line : Nat) (h0_written : Nat) (h0_lineMany : Int32) (h0_hasWritten : Int32) (h0_node : Nat) (h0_nodes : Int32) (h0_onesMany : Int32) (h0_within : Int32) (h0_top : Int32) (F_h0_tape : Nat → Int32) (i_h0_taped : rg 0 940 h0_taped) (i_h0_size : rg 0 940 h0_size) (i_h0_to : rg 0 940 h0_to) (i_h0_kind : rg 0 4 h0_kind) (i_h0_snapMany : rg 0 8 h0_snapMany) (i_h0_texts : rg 0 64 h0_texts) (i_h0_lineMany : rg 0 40 h0_lineMany) (i_h0_hasWritten : rg 0 1 h0_hasWritten) (i_h0_nodes : rg 0 60 h0_nodes) (i_h0_onesMany : rg 0 20 h0_onesMany) (s_h0_tape_0 : sg 0 940 0 255 F_h0_tape) : oMet l yX12_begin wsX12_begin ({ frames := 2, cells := 0, slots := 0, locals := 45 } : Room) [.ref h0, .int a1] D ca sz [(h0, .inr (11, [.int h0_thrown, .ref h0_tape, .int h0_taped, .int h0_size, .int h0_limit, .int h0_to, .int h0_from, .int h0_kind, .int h0_number, .int h0_sign, .int h0_fault, .int h0_place, .long h0_word, .int h0_told, .ref h0_now, .ref h0_read, .ref h0_kept, .ref h0_snaps, .ref h0_aside, .ref h0_name, .ref h0_readName, .ref h0_keptName, .ref h0_isKept, .ref h0_onces, .int h0_snapMany, .int h0_lowest, .int h0_highest, .int h0_agreed, .int h0_jurors, .int h0_panelled, .ref h0_inSets, .int h0_surely, .int h0_asked, .ref h0_frees, .int h0_struck, .int h0_beating, .ref h0_text, .int h0_texts, .int h0_seed, .ref h0_line, .ref h0_written, .int h0_lineMany, .int h0_hasWritten, .ref h0_node, .int h0_nodes, .int h0_onesMany, .int h0_within, .int h0_top])), (aI ca h0_tape 940 F_h0_tape)] (oQv D (fun (u : Int32 × Int32 × Int32 × Int32 × Int32 × Int64) => (rg 0 940 u.1) ∧ (rg (-2147483648) 940 u.2.1) ∧ (rg 0 4 u.2.2.1) ∧ (rl 0 h0_taped h0_taped) ∧ ((u.1, u.2.1, u.2.2.1, u.2.2.2.1, u.2.2.2.2.1, u.2.2.2.2.2) = y_X12_begin a1 h0_taped h0_number h0_sign h0_word F_h0_tape)) (fun (u : Int32 × Int32 × Int32 × Int32 × Int32 × Int64) => [(h0, .inr (11, [.int 0, .ref h0_tape, .int 0, .int h0_taped, .int a1, .int u.1, .int u.2.1, .int u.2.2.1, .int u.2.2.2.1, .int u.2.2.2.2.1, .int 0, .int h0_place, .long u.2.2.2.2.2, .int h0_told, .ref h0_now, .ref h0_read, .ref h0_kept, .ref h0_snaps, .ref h0_aside, .ref h0_name, .ref h0_readName, .ref h0_keptName, .ref h0_isKept, .ref h0_onces, .int h0_snapMany, .int h0_lowest, .int h0_highest, .int h0_agreed, .int h0_jurors, .int h0_panelled, .ref h0_inSets, .int h0_surely, .int h0_asked, .ref h0_frees, .int h0_struck, .int h0_beating, .ref h0_text, .int h0_texts, .int h0_seed, .ref h0_line, .ref h0_written, .int h0_lineMany, .int h0_hasWritten, .ref h0_node, .int h0_nodes, .int h0_onesMany, .int h0_within, .int h0_top])), (aI ca h0_tape 940 F_h0_tape)])) 0 0 := by
  refine oM (cc := cX12_begin) (maxL := 2) (ret := none) (by decide) rfl (Nat.le_of_ble_eq_true rfl) [(0, .ref h0), (1, .int a1)] rfl ?_
  intro p e s m below meth c A H locs ls hx hb hr hml hts hown hlocks hin hK hP hD hA hS hl
  have hown : s.vm.findClass RX12 = some m.cls := hown
  have hY := y_X12_begin_s a1 h0_taped h0_number h0_sign h0_word F_h0_tape
  have k1 := hts (.fieldLink RX12 1 "LidCourtModel" "thrown" "I") (by decide +kernel)
  have k2 : ∀ w ∈ wsX120, w ∈ wsX12_begin := fun _ h => List.mem_cons_of_mem _ (List.mem_append_right _ h)
  have k3 := hts (.fieldLink RX12 18 "LidCourtModel" "size" "I") (by decide +kernel)
  have k4 := hts (.fieldLink RX12 27 "LidCourtModel" "limit" "I") (by decide +kernel)
  have k5 := hts (.fieldLink RX12 66 "LidCourtModel" "fault" "I") (by decide +kernel)
  have k6 := hts (.fieldLink RX12 21 "LidCourtModel" "to" "I") (by decide +kernel)
  refine lv_aload_n hx hb dX12_begin_0 rfl (lv_at hl 0 rfl) ?_
  refine lv_iconst (v := 0) hx hb dX12_begin_1 (by decide) ?_
  refine va_put (D := D) (ci := 11) (v := .int 0) (ty := .int) (C := RX12) (T := TX12) (N := 48) hx hb hts k2 tyX12 tyX12_ok nmX12 hown hK.1 hP hD hS 0 rfl rfl 0 (by decide) k1 (fun _ h9 => h9) rfl (by decide +kernel) rfl rfl (Nat.le_of_ble_eq_true rfl) dX12_begin_2 (fun H locs hP hD hS => ?_)
  have hP : va_P D vwCl [(h0, .inr (11, [.int 0, .ref h0_tape, .int h0_taped, .int h0_size, .int h0_limit, .int h0_to, .int h0_from, .int h0_kind, .int h0_number, .int h0_sign, .int h0_fault, .int h0_place, .long h0_word, .int h0_told, .ref h0_now, .ref h0_read, .ref h0_kept, .ref h0_snaps, .ref h0_aside, .ref h0_name, .ref h0_readName, .ref h0_keptName, .ref h0_isKept, .ref h0_onces, .int h0_snapMany, .int h0_lowest, .int h0_highest, .int h0_agreed, .int h0_jurors, .int h0_panelled, .ref h0_inSets, .int h0_surely, .int h0_asked, .ref h0_frees, .int h0_struck, .int h0_beating, .ref h0_text, .int h0_texts, .int h0_seed, .ref h0_line, .ref h0_written, .int h0_lineMany, .int h0_hasWritten, .ref h0_node, .int h0_nodes, .int h0_onesMany, .int h0_within, .int h0_top])), (aI ca h0_tape 940 F_h0_tape)] H := hP
  have hD : va_D A [(h0, .inr (11, [.int 0, .ref h0_tape, .int h0_taped, .int h0_size, .int h0_limit, .int h0_to, .int h0_from, .int h0_kind, .int h0_number, .int h0_sign, .int h0_fault, .int h0_place, .long h0_word, .int h0_told, .ref h0_now, .ref h0_read, .ref h0_kept, .ref h0_snaps, .ref h0_aside, .ref h0_name, .ref h0_readName, .ref h0_keptName, .ref h0_isKept, .ref h0_onces, .int h0_snapMany, .int h0_lowest, .int h0_highest, .int h0_agreed, .int h0_jurors, .int h0_panelled, .ref h0_inSets, .int h0_surely, .int h0_asked, .ref h0_frees, .int h0_struck, .int h0_beating, .ref h0_text, .int h0_texts, .int h0_seed, .ref h0_line, .ref h0_written, .int h0_lineMany, .int h0_hasWritten, .ref h0_node, .int h0_nodes, .int h0_onesMany, .int h0_within, .int h0_top])), (aI ca h0_tape 940 F_h0_tape)] := hD
  refine lv_aload_n hx hb dX12_begin_5 rfl (lv_at hl 0 rfl) ?_
  refine lv_aload_n hx hb dX12_begin_6 rfl (lv_at hl 0 rfl) ?_
  refine oC_i (Wc := [(h0, .inr (11, [.int 0, .ref h0_tape, .int h0_taped, .int h0_size, .int h0_limit, .int h0_to, .int h0_from, .int h0_kind, .int h0_number, .int h0_sign, .int h0_fault, .int h0_place, .long h0_word, .int h0_told, .ref h0_now, .ref h0_read, .ref h0_kept, .ref h0_snaps, .ref h0_aside, .ref h0_name, .ref h0_readName, .ref h0_keptName, .ref h0_isKept, .ref h0_onces, .int h0_snapMany, .int h0_lowest, .int h0_highest, .int h0_agreed, .int h0_jurors, .int h0_panelled, .ref h0_inSets, .int h0_surely, .int h0_asked, .ref h0_frees, .int h0_struck, .int h0_beating, .ref h0_text, .int h0_texts, .int h0_seed, .ref h0_line, .ref h0_written, .int h0_lineMany, .int h0_hasWritten, .ref h0_node, .int h0_nodes, .int h0_onesMany, .int h0_within, .int h0_top]))]) (Wr := [(aI ca h0_tape 940 F_h0_tape)]) (va_runV (As := []) (rest := [.ref h0]) ⟨hx, hb, hml, hown, hts⟩ (e_X12_take l D ca H.size h0 0 h0_tape h0_taped h0_size h0_limit h0_to h0_from h0_kind h0_number h0_sign h0_fault h0_place h0_word h0_told h0_now h0_read h0_kept h0_snaps h0_aside h0_name h0_readName h0_keptName h0_isKept h0_onces h0_snapMany h0_lowest h0_highest h0_agreed h0_jurors h0_panelled h0_inSets h0_surely h0_asked h0_frees h0_struck h0_beating h0_text h0_texts h0_seed h0_line h0_written h0_lineMany h0_hasWritten h0_node h0_nodes h0_onesMany h0_within h0_top i_h0_taped i_h0_size i_h0_to i_h0_kind i_h0_snapMany i_h0_texts i_h0_lineMany i_h0_hasWritten i_h0_nodes i_h0_onesMany) (cwV 0 hts gX12_begin_X12_take rfl rfl rfl (by decide +kernel) ⟨Nat.le_of_ble_eq_true rfl, Nat.le_of_ble_eq_true rfl⟩) (oPV (C := RX12) hK hP hD [0] rfl (by decide) 0 rfl (ci := 11) rfl rfl) rfl rfl hl.1 rfl (lv_room (Nat.le_of_ble_eq_true rfl)) dX12_begin_7 ⟨Nat.le_of_ble_eq_true rfl, Nat.le_of_ble_eq_true rfl⟩) hP hD hS hA [0] [1] rfl rfl (by decide) (by decide) (fun r_21 u H locs w_22 hP hD hS => ?_)
  obtain ⟨⟩ := u
  have hP : va_P D vwCl [(aI ca h0_tape 940 F_h0_tape), (h0, .inr (11, [.int 0, .ref h0_tape, .int 0, .int h0_size, .int h0_limit, .int h0_to, .int h0_from, .int h0_kind, .int h0_number, .int h0_sign, .int h0_fault, .int h0_place, .long h0_word, .int h0_told, .ref h0_now, .ref h0_read, .ref h0_kept, .ref h0_snaps, .ref h0_aside, .ref h0_name, .ref h0_readName, .ref h0_keptName, .ref h0_isKept, .ref h0_onces, .int h0_snapMany, .int h0_lowest, .int h0_highest, .int h0_agreed, .int h0_jurors, .int h0_panelled, .ref h0_inSets, .int h0_surely, .int h0_asked, .ref h0_frees, .int h0_struck, .int h0_beating, .ref h0_text, .int h0_texts, .int h0_seed, .ref h0_line, .ref h0_written, .int h0_lineMany, .int h0_hasWritten, .ref h0_node, .int h0_nodes, .int h0_onesMany, .int h0_within, .int h0_top]))] H := hP
  have hD : va_D A [(aI ca h0_tape 940 F_h0_tape), (h0, .inr (11, [.int 0, .ref h0_tape, .int 0, .int h0_size, .int h0_limit, .int h0_to, .int h0_from, .int h0_kind, .int h0_number, .int h0_sign, .int h0_fault, .int h0_place, .long h0_word, .int h0_told, .ref h0_now, .ref h0_read, .ref h0_kept, .ref h0_snaps, .ref h0_aside, .ref h0_name, .ref h0_readName, .ref h0_keptName, .ref h0_isKept, .ref h0_onces, .int h0_snapMany, .int h0_lowest, .int h0_highest, .int h0_agreed, .int h0_jurors, .int h0_panelled, .ref h0_inSets, .int h0_surely, .int h0_asked, .ref h0_frees, .int h0_struck, .int h0_beating, .ref h0_text, .int h0_texts, .int h0_seed, .ref h0_line, .ref h0_written, .int h0_lineMany, .int h0_hasWritten, .ref h0_node, .int h0_nodes, .int h0_onesMany, .int h0_within, .int h0_top]))] := hD
  try dsimp only at w_22
  obtain ⟨h_23, h_24, h_25, h_26⟩ := w_22
  have h_23' := h_23.symm
  subst h_23'
  have hY := hY.trans (lt1_e h_26)
  refine va_put (D := D) (ci := 11) (v := .int h0_taped) (ty := .int) (C := RX12) (T := TX12) (N := 48) hx hb hts k2 tyX12 tyX12_ok nmX12 hown hK.1 hP hD hS 1 rfl rfl 3 (by decide) k3 (fun _ h9 => h9) rfl (by decide +kernel) rfl rfl (Nat.le_of_ble_eq_true rfl) dX12_begin_10 (fun H locs hP hD hS => ?_)
  have hP : va_P D vwCl [(aI ca h0_tape 940 F_h0_tape), (h0, .inr (11, [.int 0, .ref h0_tape, .int 0, .int h0_taped, .int h0_limit, .int h0_to, .int h0_from, .int h0_kind, .int h0_number, .int h0_sign, .int h0_fault, .int h0_place, .long h0_word, .int h0_told, .ref h0_now, .ref h0_read, .ref h0_kept, .ref h0_snaps, .ref h0_aside, .ref h0_name, .ref h0_readName, .ref h0_keptName, .ref h0_isKept, .ref h0_onces, .int h0_snapMany, .int h0_lowest, .int h0_highest, .int h0_agreed, .int h0_jurors, .int h0_panelled, .ref h0_inSets, .int h0_surely, .int h0_asked, .ref h0_frees, .int h0_struck, .int h0_beating, .ref h0_text, .int h0_texts, .int h0_seed, .ref h0_line, .ref h0_written, .int h0_lineMany, .int h0_hasWritten, .ref h0_node, .int h0_nodes, .int h0_onesMany, .int h0_within, .int h0_top]))] H := hP
  have hD : va_D A [(aI ca h0_tape 940 F_h0_tape), (h0, .inr (11, [.int 0, .ref h0_tape, .int 0, .int h0_taped, .int h0_limit, .int h0_to, .int h0_from, .int h0_kind, .int h0_number, .int h0_sign, .int h0_fault, .int h0_place, .long h0_word, .int h0_told, .ref h0_now, .ref h0_read, .ref h0_kept, .ref h0_snaps, .ref h0_aside, .ref h0_name, .ref h0_readName, .ref h0_keptName, .ref h0_isKept, .ref h0_onces, .int h0_snapMany, .int h0_lowest, .int h0_highest, .int h0_agreed, .int h0_jurors, .int h0_panelled, .ref h0_inSets, .int h0_surely, .int h0_asked, .ref h0_frees, .int h0_struck, .int h0_beating, .ref h0_text, .int h0_texts, .int h0_seed, .ref h0_line, .ref h0_written, .int h0_lineMany, .int h0_hasWritten, .ref h0_node, .int h0_nodes, .int h0_onesMany, .int h0_within, .int h0_top]))] := hD
  refine lv_aload_n hx hb dX12_begin_13 rfl (lv_at hl 0 rfl) ?_
  refine lv_iload_n hx hb dX12_begin_14 rfl (lv_at hl 1 rfl) ?_
  refine va_put (D := D) (ci := 11) (v := .int a1) (ty := .int) (C := RX12) (T := TX12) (N := 48) hx hb hts k2 tyX12 tyX12_ok nmX12 hown hK.1 hP hD hS 1 rfl rfl 4 (by decide) k4 (fun _ h9 => h9) rfl (by decide +kernel) rfl rfl (Nat.le_of_ble_eq_true rfl) dX12_begin_15 (fun H locs hP hD hS => ?_)
  have hP : va_P D vwCl [(aI ca h0_tape 940 F_h0_tape), (h0, .inr (11, [.int 0, .ref h0_tape, .int 0, .int h0_taped, .int a1, .int h0_to, .int h0_from, .int h0_kind, .int h0_number, .int h0_sign, .int h0_fault, .int h0_place, .long h0_word, .int h0_told, .ref h0_now, .ref h0_read, .ref h0_kept, .ref h0_snaps, .ref h0_aside, .ref h0_name, .ref h0_readName, .ref h0_keptName, .ref h0_isKept, .ref h0_onces, .int h0_snapMany, .int h0_lowest, .int h0_highest, .int h0_agreed, .int h0_jurors, .int h0_panelled, .ref h0_inSets, .int h0_surely, .int h0_asked, .ref h0_frees, .int h0_struck, .int h0_beating, .ref h0_text, .int h0_texts, .int h0_seed, .ref h0_line, .ref h0_written, .int h0_lineMany, .int h0_hasWritten, .ref h0_node, .int h0_nodes, .int h0_onesMany, .int h0_within, .int h0_top]))] H := hP
  have hD : va_D A [(aI ca h0_tape 940 F_h0_tape), (h0, .inr (11, [.int 0, .ref h0_tape, .int 0, .int h0_taped, .int a1, .int h0_to, .int h0_from, .int h0_kind, .int h0_number, .int h0_sign, .int h0_fault, .int h0_place, .long h0_word, .int h0_told, .ref h0_now, .ref h0_read, .ref h0_kept, .ref h0_snaps, .ref h0_aside, .ref h0_name, .ref h0_readName, .ref h0_keptName, .ref h0_isKept, .ref h0_onces, .int h0_snapMany, .int h0_lowest, .int h0_highest, .int h0_agreed, .int h0_jurors, .int h0_panelled, .ref h0_inSets, .int h0_surely, .int h0_asked, .ref h0_frees, .int h0_struck, .int h0_beating, .ref h0_text, .int h0_texts, .int h0_seed, .ref h0_line, .ref h0_written, .int h0_lineMany, .int h0_hasWritten, .ref h0_node, .int h0_nodes, .int h0_onesMany, .int h0_within, .int h0_top]))] := hD
  refine lv_aload_n hx hb dX12_begin_18 rfl (lv_at hl 0 rfl) ?_
  refine lv_iconst (v := 0) hx hb dX12_begin_19 (by decide) ?_
  refine va_put (D := D) (ci := 11) (v := .int 0) (ty := .int) (C := RX12) (T := TX12) (N := 48) hx hb hts k2 tyX12 tyX12_ok nmX12 hown hK.1 hP hD hS 1 rfl rfl 10 (by decide) k5 (fun _ h9 => h9) rfl (by decide +kernel) rfl rfl (Nat.le_of_ble_eq_true rfl) dX12_begin_20 (fun H locs hP hD hS => ?_)
  have hP : va_P D vwCl [(aI ca h0_tape 940 F_h0_tape), (h0, .inr (11, [.int 0, .ref h0_tape, .int 0, .int h0_taped, .int a1, .int h0_to, .int h0_from, .int h0_kind, .int h0_number, .int h0_sign, .int 0, .int h0_place, .long h0_word, .int h0_told, .ref h0_now, .ref h0_read, .ref h0_kept, .ref h0_snaps, .ref h0_aside, .ref h0_name, .ref h0_readName, .ref h0_keptName, .ref h0_isKept, .ref h0_onces, .int h0_snapMany, .int h0_lowest, .int h0_highest, .int h0_agreed, .int h0_jurors, .int h0_panelled, .ref h0_inSets, .int h0_surely, .int h0_asked, .ref h0_frees, .int h0_struck, .int h0_beating, .ref h0_text, .int h0_texts, .int h0_seed, .ref h0_line, .ref h0_written, .int h0_lineMany, .int h0_hasWritten, .ref h0_node, .int h0_nodes, .int h0_onesMany, .int h0_within, .int h0_top]))] H := hP
  have hD : va_D A [(aI ca h0_tape 940 F_h0_tape), (h0, .inr (11, [.int 0, .ref h0_tape, .int 0, .int h0_taped, .int a1, .int h0_to, .int h0_from, .int h0_kind, .int h0_number, .int h0_sign, .int 0, .int h0_place, .long h0_word, .int h0_told, .ref h0_now, .ref h0_read, .ref h0_kept, .ref h0_snaps, .ref h0_aside, .ref h0_name, .ref h0_readName, .ref h0_keptName, .ref h0_isKept, .ref h0_onces, .int h0_snapMany, .int h0_lowest, .int h0_highest, .int h0_agreed, .int h0_jurors, .int h0_panelled, .ref h0_inSets, .int h0_surely, .int h0_asked, .ref h0_frees, .int h0_struck, .int h0_beating, .ref h0_text, .int h0_texts, .int h0_seed, .ref h0_line, .ref h0_written, .int h0_lineMany, .int h0_hasWritten, .ref h0_node, .int h0_nodes, .int h0_onesMany, .int h0_within, .int h0_top]))] := hD
  refine lv_aload_n hx hb dX12_begin_23 rfl (lv_at hl 0 rfl) ?_
  refine lv_iconst (v := 0) hx hb dX12_begin_24 (by decide) ?_
  refine va_put (D := D) (ci := 11) (v := .int 0) (ty := .int) (C := RX12) (T := TX12) (N := 48) hx hb hts k2 tyX12 tyX12_ok nmX12 hown hK.1 hP hD hS 1 rfl rfl 5 (by decide) k6 (fun _ h9 => h9) rfl (by decide +kernel) rfl rfl (Nat.le_of_ble_eq_true rfl) dX12_begin_25 (fun H locs hP hD hS => ?_)
  have hP : va_P D vwCl [(aI ca h0_tape 940 F_h0_tape), (h0, .inr (11, [.int 0, .ref h0_tape, .int 0, .int h0_taped, .int a1, .int 0, .int h0_from, .int h0_kind, .int h0_number, .int h0_sign, .int 0, .int h0_place, .long h0_word, .int h0_told, .ref h0_now, .ref h0_read, .ref h0_kept, .ref h0_snaps, .ref h0_aside, .ref h0_name, .ref h0_readName, .ref h0_keptName, .ref h0_isKept, .ref h0_onces, .int h0_snapMany, .int h0_lowest, .int h0_highest, .int h0_agreed, .int h0_jurors, .int h0_panelled, .ref h0_inSets, .int h0_surely, .int h0_asked, .ref h0_frees, .int h0_struck, .int h0_beating, .ref h0_text, .int h0_texts, .int h0_seed, .ref h0_line, .ref h0_written, .int h0_lineMany, .int h0_hasWritten, .ref h0_node, .int h0_nodes, .int h0_onesMany, .int h0_within, .int h0_top]))] H := hP
  have hD : va_D A [(aI ca h0_tape 940 F_h0_tape), (h0, .inr (11, [.int 0, .ref h0_tape, .int 0, .int h0_taped, .int a1, .int 0, .int h0_from, .int h0_kind, .int h0_number, .int h0_sign, .int 0, .int h0_place, .long h0_word, .int h0_told, .ref h0_now, .ref h0_read, .ref h0_kept, .ref h0_snaps, .ref h0_aside, .ref h0_name, .ref h0_readName, .ref h0_keptName, .ref h0_isKept, .ref h0_onces, .int h0_snapMany, .int h0_lowest, .int h0_highest, .int h0_agreed, .int h0_jurors, .int h0_panelled, .ref h0_inSets, .int h0_surely, .int h0_asked, .ref h0_frees, .int h0_struck, .int h0_beating, .ref h0_text, .int h0_texts, .int h0_seed, .ref h0_line, .ref h0_written, .int h0_lineMany, .int h0_hasWritten, .ref h0_node, .int h0_nodes, .int h0_onesMany, .int h0_within, .int h0_top]))] := hD
  refine lv_aload_n hx hb dX12_begin_28 rfl (lv_at hl 0 rfl) ?_
  refine oC_v (Wc := [(h0, .inr (11, [.int 0, .ref h0_tape, .int 0, .int h0_taped, .int a1, .int 0, .int h0_from, .int h0_kind, .int h0_number, .int h0_sign, .int 0, .int h0_place, .long h0_word, .int h0_told, .ref h0_now, .ref h0_read, .ref h0_kept, .ref h0_snaps, .ref h0_aside, .ref h0_name, .ref h0_readName, .ref h0_keptName, .ref h0_isKept, .ref h0_onces, .int h0_snapMany, .int h0_lowest, .int h0_highest, .int h0_agreed, .int h0_jurors, .int h0_panelled, .ref h0_inSets, .int h0_surely, .int h0_asked, .ref h0_frees, .int h0_struck, .int h0_beating, .ref h0_text, .int h0_texts, .int h0_seed, .ref h0_line, .ref h0_written, .int h0_lineMany, .int h0_hasWritten, .ref h0_node, .int h0_nodes, .int h0_onesMany, .int h0_within, .int h0_top])), (aI ca h0_tape 940 F_h0_tape)]) (Wr := []) (va_runV (As := []) (rest := []) ⟨hx, hb, hml, hown, hts⟩ (e_X12_go l D ca H.size h0 0 h0_tape 0 h0_taped a1 0 h0_from h0_kind h0_number h0_sign 0 h0_place h0_word h0_told h0_now h0_read h0_kept h0_snaps h0_aside h0_name h0_readName h0_keptName h0_isKept h0_onces h0_snapMany h0_lowest h0_highest h0_agreed h0_jurors h0_panelled h0_inSets h0_surely h0_asked h0_frees h0_struck h0_beating h0_text h0_texts h0_seed h0_line h0_written h0_lineMany h0_hasWritten h0_node h0_nodes h0_onesMany h0_within h0_top F_h0_tape (⟨by decide, by decide⟩ : rg 0 940 (0 : Int32)) i_h0_taped (⟨by decide, by decide⟩ : rg 0 940 (0 : Int32)) i_h0_kind i_h0_snapMany i_h0_texts i_h0_lineMany i_h0_hasWritten i_h0_nodes i_h0_onesMany s_h0_tape_0) (cwV 0 hts gX12_begin_X12_go rfl rfl rfl (by decide +kernel) ⟨Nat.le_of_ble_eq_true rfl, Nat.le_of_ble_eq_true rfl⟩) (oPV (C := RX12) hK hP hD [1, 0] rfl (by decide) 0 rfl (ci := 11) rfl rfl) rfl rfl hl.1 rfl (lv_room (Nat.le_of_ble_eq_true rfl)) dX12_begin_29 ⟨Nat.le_of_ble_eq_true rfl, Nat.le_of_ble_eq_true rfl⟩) hP hD hS hA [1, 0] [] rfl rfl (by decide) (by decide) (fun u H locs w_28 hP hD hS => ?_)
  obtain ⟨u_29, u_30, u_31, u_32, u_33, u_34⟩ := u
  have hP : va_P D vwCl [(h0, .inr (11, [.int 0, .ref h0_tape, .int 0, .int h0_taped, .int a1, .int u_29, .int u_30, .int u_31, .int u_32, .int u_33, .int 0, .int h0_place, .long u_34, .int h0_told, .ref h0_now, .ref h0_read, .ref h0_kept, .ref h0_snaps, .ref h0_aside, .ref h0_name, .ref h0_readName, .ref h0_keptName, .ref h0_isKept, .ref h0_onces, .int h0_snapMany, .int h0_lowest, .int h0_highest, .int h0_agreed, .int h0_jurors, .int h0_panelled, .ref h0_inSets, .int h0_surely, .int h0_asked, .ref h0_frees, .int h0_struck, .int h0_beating, .ref h0_text, .int h0_texts, .int h0_seed, .ref h0_line, .ref h0_written, .int h0_lineMany, .int h0_hasWritten, .ref h0_node, .int h0_nodes, .int h0_onesMany, .int h0_within, .int h0_top])), (aI ca h0_tape 940 F_h0_tape)] H := hP
  have hD : va_D A [(h0, .inr (11, [.int 0, .ref h0_tape, .int 0, .int h0_taped, .int a1, .int u_29, .int u_30, .int u_31, .int u_32, .int u_33, .int 0, .int h0_place, .long u_34, .int h0_told, .ref h0_now, .ref h0_read, .ref h0_kept, .ref h0_snaps, .ref h0_aside, .ref h0_name, .ref h0_readName, .ref h0_keptName, .ref h0_isKept, .ref h0_onces, .int h0_snapMany, .int h0_lowest, .int h0_highest, .int h0_agreed, .int h0_jurors, .int h0_panelled, .ref h0_inSets, .int h0_surely, .int h0_asked, .ref h0_frees, .int h0_struck, .int h0_beating, .ref h0_text, .int h0_texts, .int h0_seed, .ref h0_line, .ref h0_written, .int h0_lineMany, .int h0_hasWritten, .ref h0_node, .int h0_nodes, .int h0_onesMany, .int h0_within, .int h0_top])), (aI ca h0_tape 940 F_h0_tape)] := hD
  try dsimp only at w_28
  obtain ⟨h_35, h_36, h_37, h_38, h_39, h_40⟩ := w_28
  have hY := hY.trans (lt6_e h_40)
  exact oE_v hx hb hr hlocks hP hD hS (u_29, u_30, u_31, u_32, u_33, u_34) [0, 1] rfl (by decide) ⟨h_35, h_36, h_37, (show rl 0 h0_taped h0_taped from rlm (by omega)), hY.symm⟩ (Nat.le_of_ble_eq_true rfl) (Nat.le_of_ble_eq_true rfl) dX12_begin_32
theorem dX12_startRead_0 : decode cX12_startRead 0 = .ok (.iconst 0, 1) := by decide +kernel
theorem dX12_startRead_1 : decode cX12_startRead 1 = .ok (.istore_n 1, 1) := by decide +kernel
theorem dX12_startRead_2 : decode cX12_startRead 2 = .ok (.iload_n 1, 1) := by decide +kernel
theorem dX12_startRead_3 : decode cX12_startRead 3 = .ok (.bipush 89, 2) := by decide +kernel
theorem dX12_startRead_5 : decode cX12_startRead 5 = .ok (.if_icmp .ge 16, 3) := by decide +kernel
theorem dX12_startRead_8 : decode cX12_startRead 8 = .ok (.aload_n 0, 1) := by decide +kernel
theorem dX12_startRead_9 : decode cX12_startRead 9 = .ok (.getfield 101, 3) := by decide +kernel
theorem dX12_startRead_12 : decode cX12_startRead 12 = .ok (.iload_n 1, 1) := by decide +kernel
theorem dX12_startRead_13 : decode cX12_startRead 13 = .ok (.iconst 0, 1) := by decide +kernel
theorem dX12_startRead_14 : decode cX12_startRead 14 = .ok (.iastore, 1) := by decide +kernel
theorem dX12_startRead_15 : decode cX12_startRead 15 = .ok (.iinc 1 1, 3) := by decide +kernel
theorem dX12_startRead_18 : decode cX12_startRead 18 = .ok (.goto (-16), 3) := by decide +kernel
theorem dX12_startRead_21 : decode cX12_startRead 21 = .ok (.bipush 49, 2) := by decide +kernel
theorem dX12_startRead_23 : decode cX12_startRead 23 = .ok (.istore_n 1, 1) := by decide +kernel
theorem dX12_startRead_24 : decode cX12_startRead 24 = .ok (.iload_n 1, 1) := by decide +kernel
theorem dX12_startRead_25 : decode cX12_startRead 25 = .ok (.bipush 89, 2) := by decide +kernel
theorem dX12_startRead_27 : decode cX12_startRead 27 = .ok (.if_icmp .ge 16, 3) := by decide +kernel
theorem dX12_startRead_30 : decode cX12_startRead 30 = .ok (.aload_n 0, 1) := by decide +kernel
theorem dX12_startRead_31 : decode cX12_startRead 31 = .ok (.getfield 101, 3) := by decide +kernel
theorem dX12_startRead_34 : decode cX12_startRead 34 = .ok (.iload_n 1, 1) := by decide +kernel
theorem dX12_startRead_35 : decode cX12_startRead 35 = .ok (.iconst (-1), 1) := by decide +kernel
theorem dX12_startRead_36 : decode cX12_startRead 36 = .ok (.iastore, 1) := by decide +kernel
theorem dX12_startRead_37 : decode cX12_startRead 37 = .ok (.iinc 1 1, 3) := by decide +kernel
theorem dX12_startRead_40 : decode cX12_startRead 40 = .ok (.goto (-16), 3) := by decide +kernel
theorem dX12_startRead_43 : decode cX12_startRead 43 = .ok (.aload_n 0, 1) := by decide +kernel
theorem dX12_startRead_44 : decode cX12_startRead 44 = .ok (.getfield 127, 3) := by decide +kernel
theorem dX12_startRead_47 : decode cX12_startRead 47 = .ok (.iconst 0, 1) := by decide +kernel
theorem dX12_startRead_48 : decode cX12_startRead 48 = .ok (.iconst 0, 1) := by decide +kernel
theorem dX12_startRead_49 : decode cX12_startRead 49 = .ok (.bastore, 1) := by decide +kernel
theorem dX12_startRead_50 : decode cX12_startRead 50 = .ok (.aload_n 0, 1) := by decide +kernel
theorem dX12_startRead_51 : decode cX12_startRead 51 = .ok (.getfield 127, 3) := by decide +kernel
theorem dX12_startRead_54 : decode cX12_startRead 54 = .ok (.iconst 1, 1) := by decide +kernel
theorem dX12_startRead_55 : decode cX12_startRead 55 = .ok (.iconst 0, 1) := by decide +kernel
theorem dX12_startRead_56 : decode cX12_startRead 56 = .ok (.bastore, 1) := by decide +kernel
theorem dX12_startRead_57 : decode cX12_startRead 57 = .ok (.aload_n 0, 1) := by decide +kernel
theorem dX12_startRead_58 : decode cX12_startRead 58 = .ok (.getfield 101, 3) := by decide +kernel
theorem dX12_startRead_61 : decode cX12_startRead 61 = .ok (.iconst 3, 1) := by decide +kernel
theorem dX12_startRead_62 : decode cX12_startRead 62 = .ok (.iconst 3, 1) := by decide +kernel
theorem dX12_startRead_63 : decode cX12_startRead 63 = .ok (.iastore, 1) := by decide +kernel
theorem dX12_startRead_64 : decode cX12_startRead 64 = .ok (.aload_n 0, 1) := by decide +kernel
theorem dX12_startRead_65 : decode cX12_startRead 65 = .ok (.getfield 101, 3) := by decide +kernel
theorem dX12_startRead_68 : decode cX12_startRead 68 = .ok (.iconst 4, 1) := by decide +kernel
theorem dX12_startRead_69 : decode cX12_startRead 69 = .ok (.iconst 1, 1) := by decide +kernel
theorem dX12_startRead_70 : decode cX12_startRead 70 = .ok (.iastore, 1) := by decide +kernel
theorem dX12_startRead_71 : decode cX12_startRead 71 = .ok (.return_, 1) := by decide +kernel
set_option maxHeartbeats 4000000 in
set_option maxRecDepth 100000 in
theorem e_X12_startRead (l : Launch) (D : va_G) (ca : Nat → ClassId) (sz : Nat) (h0 : Nat) (h0_thrown : Int32) (h0_tape : Nat) (h0_taped : Int32) (h0_size : Int32) (h0_limit : Int32) (h0_to : Int32) (h0_from : Int32) (h0_kind : Int32) (h0_number : Int32) (h0_sign : Int32) (h0_fault : Int32) (h0_place : Int32) (h0_word : Int64) (h0_told : Int32) (h0_now : Nat) (h0_read : Nat) (h0_kept : Nat) (h0_snaps : Nat) (h0_aside : Nat) (h0_name : Nat) (h0_readName : Nat) (h0_keptName : Nat) (h0_isKept : Nat) (h0_onces : Nat) (h0_snapMany : Int32) (h0_lowest : Int32) (h0_highest : Int32) (h0_agreed : Int32) (h0_jurors : Int32) (h0_panelled : Int32) (h0_inSets : Nat) (h0_surely : Int32) (h0_asked : Int32) (h0_frees : Nat) (h0_struck : Int32) (h0_beating : Int32) (h0_text : Nat) (h0_texts : Int32) (h0_seed : Int32) (h0_line : Nat) (h0_written : Nat) (h0_lineMany : Int32) (h0_hasWritten : Int32) (h0_node : Nat) (h0_nodes : Int32) (h0_onesMany : Int32) (h0_within : Int32) (h0_top : Int32) (F_h0_read : Nat → Int32) (F_h0_onces : Nat → Int32) (i_h0_taped : rg 0 940 h0_taped) (i_h0_size : rg 0 940 h0_size) (i_h0_to : rg 0 940 h0_to) (i_h0_kind : rg 0 4 h0_kind) (i_h0_snapMany : rg 0 8 h0_snapMany) (i_h0_texts : rg 0 64 h0_texts) (i_h0_lineMany : rg 0 40 h0_lineMany) (i_h0_hasWritten : rg 0 1 h0_hasWritten) (i_h0_nodes : rg 0 60 h0_nodes) (i_h0_onesMany : rg 0 20 h0_onesMany) (s_h0_read_0 : sg 0 1 0 10 F_h0_read) (s_h0_read_1 : sg 1 2 0 4 F_h0_read) (s_h0_read_2 : sg 2 3 0 5 F_h0_read) (s_h0_read_3 : sg 35 36 0 1023 F_h0_read) (s_h0_read_4 : sg 44 49 0 3 F_h0_read) : oMet l yX12_startRead wsX12_startRead ({ frames := 0, cells := 0, slots := 0, locals := 0 } : Room) [.ref h0] D ca sz [(h0, .inr (11, [.int h0_thrown, .ref h0_tape, .int h0_taped, .int h0_size, .int h0_limit, .int h0_to, .int h0_from, .int h0_kind, .int h0_number, .int h0_sign, .int h0_fault, .int h0_place, .long h0_word, .int h0_told, .ref h0_now, .ref h0_read, .ref h0_kept, .ref h0_snaps, .ref h0_aside, .ref h0_name, .ref h0_readName, .ref h0_keptName, .ref h0_isKept, .ref h0_onces, .int h0_snapMany, .int h0_lowest, .int h0_highest, .int h0_agreed, .int h0_jurors, .int h0_panelled, .ref h0_inSets, .int h0_surely, .int h0_asked, .ref h0_frees, .int h0_struck, .int h0_beating, .ref h0_text, .int h0_texts, .int h0_seed, .ref h0_line, .ref h0_written, .int h0_lineMany, .int h0_hasWritten, .ref h0_node, .int h0_nodes, .int h0_onesMany, .int h0_within, .int h0_top])), (aI ca h0_read 89 F_h0_read), (aZ ca h0_onces 2 F_h0_onces)] (oQv D (fun (u : (Nat → Int32) × (Nat → Int32)) => (sg 0 1 0 10 u.1) ∧ (sg 1 2 0 4 u.1) ∧ (sg 2 3 0 5 u.1) ∧ (sg 35 36 0 1023 u.1) ∧ (sg 44 49 0 3 u.1) ∧ (sg 3 4 3 3 u.1) ∧ (sg 4 5 1 1 u.1) ∧ ((u.1, u.2) = y_X12_startRead F_h0_read F_h0_onces)) (fun (u : (Nat → Int32) × (Nat → Int32)) => [(h0, .inr (11, [.int h0_thrown, .ref h0_tape, .int h0_taped, .int h0_size, .int h0_limit, .int h0_to, .int h0_from, .int h0_kind, .int h0_number, .int h0_sign, .int h0_fault, .int h0_place, .long h0_word, .int h0_told, .ref h0_now, .ref h0_read, .ref h0_kept, .ref h0_snaps, .ref h0_aside, .ref h0_name, .ref h0_readName, .ref h0_keptName, .ref h0_isKept, .ref h0_onces, .int h0_snapMany, .int h0_lowest, .int h0_highest, .int h0_agreed, .int h0_jurors, .int h0_panelled, .ref h0_inSets, .int h0_surely, .int h0_asked, .ref h0_frees, .int h0_struck, .int h0_beating, .ref h0_text, .int h0_texts, .int h0_seed, .ref h0_line, .ref h0_written, .int h0_lineMany, .int h0_hasWritten, .ref h0_node, .int h0_nodes, .int h0_onesMany, .int h0_within, .int h0_top])), (aI ca h0_read 89 u.1), (aZ ca h0_onces 2 u.2)])) 0 0 := by
  refine oM (cc := cX12_startRead) (maxL := 2) (ret := none) (by decide) rfl (Nat.le_of_ble_eq_true rfl) [(0, .ref h0)] rfl ?_
  intro p e s m below meth c A H locs ls hx hb hr hml hts hown hlocks hin hK hP hD hA hS hl
  have hown : s.vm.findClass RX12 = some m.cls := hown
  have hY := y_X12_startRead_s F_h0_read F_h0_onces
  have k1 := hts (.fieldLink RX12 127 "LidCourtModel" "onces" "[Z") (by decide +kernel)
  have k2 : ∀ w ∈ wsX120, w ∈ wsX12_startRead := fun _ h => List.mem_cons_of_mem _ (List.mem_append_right _ h)
  have k3 := hts (.fieldLink RX12 101 "LidCourtModel" "read" "[I") (by decide +kernel)
  have J24_303 : ∀ (n24 : Nat) (y24_0 : Int32) (f24_1 : Nat → Int32), True → rg 49 89 y24_0 → sg 0 1 0 10 f24_1 → sg 1 2 0 4 f24_1 → sg 2 3 0 5 f24_1 → sg 35 36 0 1023 f24_1 → sg 44 49 0 3 f24_1 → 89 < y24_0.toInt + (n24 : Int) → y_X12_startRead F_h0_read F_h0_onces = y_X12_startRead_24 F_h0_onces n24 y24_0 f24_1 → ∀ (H : Heap) (locs : List Loc) (ls : Array Slot), va_P D vwCl [(h0, .inr (11, [.int h0_thrown, .ref h0_tape, .int h0_taped, .int h0_size, .int h0_limit, .int h0_to, .int h0_from, .int h0_kind, .int h0_number, .int h0_sign, .int h0_fault, .int h0_place, .long h0_word, .int h0_told, .ref h0_now, .ref h0_read, .ref h0_kept, .ref h0_snaps, .ref h0_aside, .ref h0_name, .ref h0_readName, .ref h0_keptName, .ref h0_isKept, .ref h0_onces, .int h0_snapMany, .int h0_lowest, .int h0_highest, .int h0_agreed, .int h0_jurors, .int h0_panelled, .ref h0_inSets, .int h0_surely, .int h0_asked, .ref h0_frees, .int h0_struck, .int h0_beating, .ref h0_text, .int h0_texts, .int h0_seed, .ref h0_line, .ref h0_written, .int h0_lineMany, .int h0_hasWritten, .ref h0_node, .int h0_nodes, .int h0_onesMany, .int h0_within, .int h0_top])), (aI ca h0_read 89 f24_1), (aZ ca h0_onces 2 F_h0_onces)] H → va_D A [(h0, .inr (11, [.int h0_thrown, .ref h0_tape, .int h0_taped, .int h0_size, .int h0_limit, .int h0_to, .int h0_from, .int h0_kind, .int h0_number, .int h0_sign, .int h0_fault, .int h0_place, .long h0_word, .int h0_told, .ref h0_now, .ref h0_read, .ref h0_kept, .ref h0_snaps, .ref h0_aside, .ref h0_name, .ref h0_readName, .ref h0_keptName, .ref h0_isKept, .ref h0_onces, .int h0_snapMany, .int h0_lowest, .int h0_highest, .int h0_agreed, .int h0_jurors, .int h0_panelled, .ref h0_inSets, .int h0_surely, .int h0_asked, .ref h0_frees, .int h0_struck, .int h0_beating, .ref h0_text, .int h0_texts, .int h0_seed, .ref h0_line, .ref h0_written, .int h0_lineMany, .int h0_hasWritten, .ref h0_node, .int h0_nodes, .int h0_onesMany, .int h0_within, .int h0_top])), (aI ca h0_read 89 f24_1), (aZ ca h0_onces 2 F_h0_onces)] → va_S A s.heap H locs → lv_has ls 2 [(0, .ref h0), (1, .int y24_0)] → W p l e ({ frames := 0, cells := 0, slots := 0, locals := 0 } : Room) s m ([.ref h0] : List Value).toArray below meth c H locs 0 0 (MQ below ((oQv D (fun (u : (Nat → Int32) × (Nat → Int32)) => (sg 0 1 0 10 u.1) ∧ (sg 1 2 0 4 u.1) ∧ (sg 2 3 0 5 u.1) ∧ (sg 35 36 0 1023 u.1) ∧ (sg 44 49 0 3 u.1) ∧ (sg 3 4 3 3 u.1) ∧ (sg 4 5 1 1 u.1) ∧ ((u.1, u.2) = y_X12_startRead F_h0_read F_h0_onces)) (fun (u : (Nat → Int32) × (Nat → Int32)) => [(h0, .inr (11, [.int h0_thrown, .ref h0_tape, .int h0_taped, .int h0_size, .int h0_limit, .int h0_to, .int h0_from, .int h0_kind, .int h0_number, .int h0_sign, .int h0_fault, .int h0_place, .long h0_word, .int h0_told, .ref h0_now, .ref h0_read, .ref h0_kept, .ref h0_snaps, .ref h0_aside, .ref h0_name, .ref h0_readName, .ref h0_keptName, .ref h0_isKept, .ref h0_onces, .int h0_snapMany, .int h0_lowest, .int h0_highest, .int h0_agreed, .int h0_jurors, .int h0_panelled, .ref h0_inSets, .int h0_surely, .int h0_asked, .ref h0_frees, .int h0_struck, .int h0_beating, .ref h0_text, .int h0_texts, .int h0_seed, .ref h0_line, .ref h0_written, .int h0_lineMany, .int h0_hasWritten, .ref h0_node, .int h0_nodes, .int h0_onesMany, .int h0_within, .int h0_top])), (aI ca h0_read 89 u.1), (aZ ca h0_onces 2 u.2)])) A) ([.ref h0] : List Value).toArray s 0 0 A) (F0 m 24 ls []) := by
    intro n24
    induction n24 with
    | zero => intro y24_0 f24_1 _ hy24_0 s24_2 s24_3 s24_4 s24_5 s24_6 hn hY; exact absurd hn (by have q9 := hy24_0.2; omega)
    | succ n24 ih24 =>
      intro y24_0 f24_1 _ hy24_0 s24_2 s24_3 s24_4 s24_5 s24_6 hn hY H locs ls hP hD hS hl
      have hY := hY.trans (y_X12_startRead_24_s F_h0_onces _ y24_0 f24_1)
      refine lv_iload_n hx hb dX12_startRead_24 rfl (lv_at hl 1 rfl) ?_
      refine lv_bipush (v := 89) hx hb dX12_startRead_25 (by decide) ?_
      refine lv_icmp_ge (tgt := 43) hx hb dX12_startRead_27 (by decide) (fun c_335 => ?_) (fun c_335 => ?_)
      · skip
        have hY := hY.trans (if_pos c_335)
        have o_336 : rl 0 89 y24_0 := rl_le c_335
        have h_337 : rg 89 89 y24_0 := rl_y o_336 (⟨by decide, by decide⟩ : rg 89 89 (89 : Int32)) hy24_0 (by decide) (by decide)
        refine lv_aload_n hx hb dX12_startRead_43 rfl (lv_at hl 0 rfl) ?_
        refine va_get (D := D) (ci := 11) (v := .ref h0_onces) (C := RX12) (T := TX12) (N := 48) hx hb hts k2 hown hK.1 hP 0 rfl rfl 23 (by decide) k1 (fun _ h9 => h9) rfl dX12_startRead_44 ?_
        refine lv_iconst (v := 0) hx hb dX12_startRead_47 (by decide) ?_
        refine lv_iconst (v := 0) hx hb dX12_startRead_48 (by decide) ?_
        refine va_zast hx hb hK.1 hP hD hS 2 2 rfl rfl (rg_in (⟨by decide, by decide⟩ : rg 0 0 (0 : Int32)) (by decide) (by decide)) dX12_startRead_49 (fun H locs hP hD hS => ?_)
        obtain ⟨g_338, eg_338⟩ : ∃ y : Nat → Int32, y = upd F_h0_onces (0 : Int32).toNatClampNeg (vp_nar .boolean 0) := ⟨_, rfl⟩
        rw [← eg_338] at hP hD
        have hY := hY.trans (lt1_e eg_338)
        have hP : va_P D vwCl [(h0, .inr (11, [.int h0_thrown, .ref h0_tape, .int h0_taped, .int h0_size, .int h0_limit, .int h0_to, .int h0_from, .int h0_kind, .int h0_number, .int h0_sign, .int h0_fault, .int h0_place, .long h0_word, .int h0_told, .ref h0_now, .ref h0_read, .ref h0_kept, .ref h0_snaps, .ref h0_aside, .ref h0_name, .ref h0_readName, .ref h0_keptName, .ref h0_isKept, .ref h0_onces, .int h0_snapMany, .int h0_lowest, .int h0_highest, .int h0_agreed, .int h0_jurors, .int h0_panelled, .ref h0_inSets, .int h0_surely, .int h0_asked, .ref h0_frees, .int h0_struck, .int h0_beating, .ref h0_text, .int h0_texts, .int h0_seed, .ref h0_line, .ref h0_written, .int h0_lineMany, .int h0_hasWritten, .ref h0_node, .int h0_nodes, .int h0_onesMany, .int h0_within, .int h0_top])), (aI ca h0_read 89 f24_1), (aZ ca h0_onces 2 g_338)] H := hP
        have hD : va_D A [(h0, .inr (11, [.int h0_thrown, .ref h0_tape, .int h0_taped, .int h0_size, .int h0_limit, .int h0_to, .int h0_from, .int h0_kind, .int h0_number, .int h0_sign, .int h0_fault, .int h0_place, .long h0_word, .int h0_told, .ref h0_now, .ref h0_read, .ref h0_kept, .ref h0_snaps, .ref h0_aside, .ref h0_name, .ref h0_readName, .ref h0_keptName, .ref h0_isKept, .ref h0_onces, .int h0_snapMany, .int h0_lowest, .int h0_highest, .int h0_agreed, .int h0_jurors, .int h0_panelled, .ref h0_inSets, .int h0_surely, .int h0_asked, .ref h0_frees, .int h0_struck, .int h0_beating, .ref h0_text, .int h0_texts, .int h0_seed, .ref h0_line, .ref h0_written, .int h0_lineMany, .int h0_hasWritten, .ref h0_node, .int h0_nodes, .int h0_onesMany, .int h0_within, .int h0_top])), (aI ca h0_read 89 f24_1), (aZ ca h0_onces 2 g_338)] := hD
        refine lv_aload_n hx hb dX12_startRead_50 rfl (lv_at hl 0 rfl) ?_
        refine va_get (D := D) (ci := 11) (v := .ref h0_onces) (C := RX12) (T := TX12) (N := 48) hx hb hts k2 hown hK.1 hP 0 rfl rfl 23 (by decide) k1 (fun _ h9 => h9) rfl dX12_startRead_51 ?_
        refine lv_iconst (v := 1) hx hb dX12_startRead_54 (by decide) ?_
        refine lv_iconst (v := 0) hx hb dX12_startRead_55 (by decide) ?_
        refine va_zast hx hb hK.1 hP hD hS 2 2 rfl rfl (rg_in (⟨by decide, by decide⟩ : rg 1 1 (1 : Int32)) (by decide) (by decide)) dX12_startRead_56 (fun H locs hP hD hS => ?_)
        obtain ⟨g_339, eg_339⟩ : ∃ y : Nat → Int32, y = upd g_338 (1 : Int32).toNatClampNeg (vp_nar .boolean 0) := ⟨_, rfl⟩
        rw [← eg_339] at hP hD
        have hY := hY.trans (lt1_e eg_339)
        have hP : va_P D vwCl [(h0, .inr (11, [.int h0_thrown, .ref h0_tape, .int h0_taped, .int h0_size, .int h0_limit, .int h0_to, .int h0_from, .int h0_kind, .int h0_number, .int h0_sign, .int h0_fault, .int h0_place, .long h0_word, .int h0_told, .ref h0_now, .ref h0_read, .ref h0_kept, .ref h0_snaps, .ref h0_aside, .ref h0_name, .ref h0_readName, .ref h0_keptName, .ref h0_isKept, .ref h0_onces, .int h0_snapMany, .int h0_lowest, .int h0_highest, .int h0_agreed, .int h0_jurors, .int h0_panelled, .ref h0_inSets, .int h0_surely, .int h0_asked, .ref h0_frees, .int h0_struck, .int h0_beating, .ref h0_text, .int h0_texts, .int h0_seed, .ref h0_line, .ref h0_written, .int h0_lineMany, .int h0_hasWritten, .ref h0_node, .int h0_nodes, .int h0_onesMany, .int h0_within, .int h0_top])), (aI ca h0_read 89 f24_1), (aZ ca h0_onces 2 g_339)] H := hP
        have hD : va_D A [(h0, .inr (11, [.int h0_thrown, .ref h0_tape, .int h0_taped, .int h0_size, .int h0_limit, .int h0_to, .int h0_from, .int h0_kind, .int h0_number, .int h0_sign, .int h0_fault, .int h0_place, .long h0_word, .int h0_told, .ref h0_now, .ref h0_read, .ref h0_kept, .ref h0_snaps, .ref h0_aside, .ref h0_name, .ref h0_readName, .ref h0_keptName, .ref h0_isKept, .ref h0_onces, .int h0_snapMany, .int h0_lowest, .int h0_highest, .int h0_agreed, .int h0_jurors, .int h0_panelled, .ref h0_inSets, .int h0_surely, .int h0_asked, .ref h0_frees, .int h0_struck, .int h0_beating, .ref h0_text, .int h0_texts, .int h0_seed, .ref h0_line, .ref h0_written, .int h0_lineMany, .int h0_hasWritten, .ref h0_node, .int h0_nodes, .int h0_onesMany, .int h0_within, .int h0_top])), (aI ca h0_read 89 f24_1), (aZ ca h0_onces 2 g_339)] := hD
        refine lv_aload_n hx hb dX12_startRead_57 rfl (lv_at hl 0 rfl) ?_
        refine va_get (D := D) (ci := 11) (v := .ref h0_read) (C := RX12) (T := TX12) (N := 48) hx hb hts k2 hown hK.1 hP 0 rfl rfl 15 (by decide) k3 (fun _ h9 => h9) rfl dX12_startRead_58 ?_
        refine lv_iconst (v := 3) hx hb dX12_startRead_61 (by decide) ?_
        refine lv_iconst (v := 3) hx hb dX12_startRead_62 (by decide) ?_
        refine va_iast hx hb hK.1 hP hD hS 1 0 rfl rfl (rg_in (⟨by decide, by decide⟩ : rg 3 3 (3 : Int32)) (by decide) (by decide)) dX12_startRead_63 (fun H locs hP hD hS => ?_)
        obtain ⟨g_340, eg_340⟩ : ∃ y : Nat → Int32, y = upd f24_1 (3 : Int32).toNatClampNeg (3 : Int32) := ⟨_, rfl⟩
        rw [← eg_340] at hP hD
        have hY := hY.trans (lt1_e eg_340)
        have s_341 : sg 0 1 0 10 g_340 := sg_out s24_2 eg_340 (⟨by decide, by decide⟩ : rg 3 3 (3 : Int32)) (by decide) (by decide)
        have s_342 : sg 1 2 0 4 g_340 := sg_out s24_3 eg_340 (⟨by decide, by decide⟩ : rg 3 3 (3 : Int32)) (by decide) (by decide)
        have s_343 : sg 2 3 0 5 g_340 := sg_out s24_4 eg_340 (⟨by decide, by decide⟩ : rg 3 3 (3 : Int32)) (by decide) (by decide)
        have s_344 : sg 35 36 0 1023 g_340 := sg_out s24_5 eg_340 (⟨by decide, by decide⟩ : rg 3 3 (3 : Int32)) (by decide) (by decide)
        have s_345 : sg 44 49 0 3 g_340 := sg_out s24_6 eg_340 (⟨by decide, by decide⟩ : rg 3 3 (3 : Int32)) (by decide) (by decide)
        have s_346 : sg 3 4 3 3 g_340 := sg_one eg_340 (⟨by decide, by decide⟩ : rg 3 3 (3 : Int32))
        have hP : va_P D vwCl [(h0, .inr (11, [.int h0_thrown, .ref h0_tape, .int h0_taped, .int h0_size, .int h0_limit, .int h0_to, .int h0_from, .int h0_kind, .int h0_number, .int h0_sign, .int h0_fault, .int h0_place, .long h0_word, .int h0_told, .ref h0_now, .ref h0_read, .ref h0_kept, .ref h0_snaps, .ref h0_aside, .ref h0_name, .ref h0_readName, .ref h0_keptName, .ref h0_isKept, .ref h0_onces, .int h0_snapMany, .int h0_lowest, .int h0_highest, .int h0_agreed, .int h0_jurors, .int h0_panelled, .ref h0_inSets, .int h0_surely, .int h0_asked, .ref h0_frees, .int h0_struck, .int h0_beating, .ref h0_text, .int h0_texts, .int h0_seed, .ref h0_line, .ref h0_written, .int h0_lineMany, .int h0_hasWritten, .ref h0_node, .int h0_nodes, .int h0_onesMany, .int h0_within, .int h0_top])), (aI ca h0_read 89 g_340), (aZ ca h0_onces 2 g_339)] H := hP
        have hD : va_D A [(h0, .inr (11, [.int h0_thrown, .ref h0_tape, .int h0_taped, .int h0_size, .int h0_limit, .int h0_to, .int h0_from, .int h0_kind, .int h0_number, .int h0_sign, .int h0_fault, .int h0_place, .long h0_word, .int h0_told, .ref h0_now, .ref h0_read, .ref h0_kept, .ref h0_snaps, .ref h0_aside, .ref h0_name, .ref h0_readName, .ref h0_keptName, .ref h0_isKept, .ref h0_onces, .int h0_snapMany, .int h0_lowest, .int h0_highest, .int h0_agreed, .int h0_jurors, .int h0_panelled, .ref h0_inSets, .int h0_surely, .int h0_asked, .ref h0_frees, .int h0_struck, .int h0_beating, .ref h0_text, .int h0_texts, .int h0_seed, .ref h0_line, .ref h0_written, .int h0_lineMany, .int h0_hasWritten, .ref h0_node, .int h0_nodes, .int h0_onesMany, .int h0_within, .int h0_top])), (aI ca h0_read 89 g_340), (aZ ca h0_onces 2 g_339)] := hD
        refine lv_aload_n hx hb dX12_startRead_64 rfl (lv_at hl 0 rfl) ?_
        refine va_get (D := D) (ci := 11) (v := .ref h0_read) (C := RX12) (T := TX12) (N := 48) hx hb hts k2 hown hK.1 hP 0 rfl rfl 15 (by decide) k3 (fun _ h9 => h9) rfl dX12_startRead_65 ?_
        refine lv_iconst (v := 4) hx hb dX12_startRead_68 (by decide) ?_
        refine lv_iconst (v := 1) hx hb dX12_startRead_69 (by decide) ?_
        refine va_iast hx hb hK.1 hP hD hS 1 0 rfl rfl (rg_in (⟨by decide, by decide⟩ : rg 4 4 (4 : Int32)) (by decide) (by decide)) dX12_startRead_70 (fun H locs hP hD hS => ?_)
        obtain ⟨g_347, eg_347⟩ : ∃ y : Nat → Int32, y = upd g_340 (4 : Int32).toNatClampNeg (1 : Int32) := ⟨_, rfl⟩
        rw [← eg_347] at hP hD
        have hY := hY.trans (lt1_e eg_347)
        have s_348 : sg 0 1 0 10 g_347 := sg_out s_341 eg_347 (⟨by decide, by decide⟩ : rg 4 4 (4 : Int32)) (by decide) (by decide)
        have s_349 : sg 1 2 0 4 g_347 := sg_out s_342 eg_347 (⟨by decide, by decide⟩ : rg 4 4 (4 : Int32)) (by decide) (by decide)
        have s_350 : sg 2 3 0 5 g_347 := sg_out s_343 eg_347 (⟨by decide, by decide⟩ : rg 4 4 (4 : Int32)) (by decide) (by decide)
        have s_351 : sg 35 36 0 1023 g_347 := sg_out s_344 eg_347 (⟨by decide, by decide⟩ : rg 4 4 (4 : Int32)) (by decide) (by decide)
        have s_352 : sg 44 49 0 3 g_347 := sg_out s_345 eg_347 (⟨by decide, by decide⟩ : rg 4 4 (4 : Int32)) (by decide) (by decide)
        have s_353 : sg 3 4 3 3 g_347 := sg_out s_346 eg_347 (⟨by decide, by decide⟩ : rg 4 4 (4 : Int32)) (by decide) (by decide)
        have s_354 : sg 4 5 1 1 g_347 := sg_one eg_347 (⟨by decide, by decide⟩ : rg 1 1 (1 : Int32))
        have hP : va_P D vwCl [(h0, .inr (11, [.int h0_thrown, .ref h0_tape, .int h0_taped, .int h0_size, .int h0_limit, .int h0_to, .int h0_from, .int h0_kind, .int h0_number, .int h0_sign, .int h0_fault, .int h0_place, .long h0_word, .int h0_told, .ref h0_now, .ref h0_read, .ref h0_kept, .ref h0_snaps, .ref h0_aside, .ref h0_name, .ref h0_readName, .ref h0_keptName, .ref h0_isKept, .ref h0_onces, .int h0_snapMany, .int h0_lowest, .int h0_highest, .int h0_agreed, .int h0_jurors, .int h0_panelled, .ref h0_inSets, .int h0_surely, .int h0_asked, .ref h0_frees, .int h0_struck, .int h0_beating, .ref h0_text, .int h0_texts, .int h0_seed, .ref h0_line, .ref h0_written, .int h0_lineMany, .int h0_hasWritten, .ref h0_node, .int h0_nodes, .int h0_onesMany, .int h0_within, .int h0_top])), (aI ca h0_read 89 g_347), (aZ ca h0_onces 2 g_339)] H := hP
        have hD : va_D A [(h0, .inr (11, [.int h0_thrown, .ref h0_tape, .int h0_taped, .int h0_size, .int h0_limit, .int h0_to, .int h0_from, .int h0_kind, .int h0_number, .int h0_sign, .int h0_fault, .int h0_place, .long h0_word, .int h0_told, .ref h0_now, .ref h0_read, .ref h0_kept, .ref h0_snaps, .ref h0_aside, .ref h0_name, .ref h0_readName, .ref h0_keptName, .ref h0_isKept, .ref h0_onces, .int h0_snapMany, .int h0_lowest, .int h0_highest, .int h0_agreed, .int h0_jurors, .int h0_panelled, .ref h0_inSets, .int h0_surely, .int h0_asked, .ref h0_frees, .int h0_struck, .int h0_beating, .ref h0_text, .int h0_texts, .int h0_seed, .ref h0_line, .ref h0_written, .int h0_lineMany, .int h0_hasWritten, .ref h0_node, .int h0_nodes, .int h0_onesMany, .int h0_within, .int h0_top])), (aI ca h0_read 89 g_347), (aZ ca h0_onces 2 g_339)] := hD
        exact oE_v hx hb hr hlocks hP hD hS (g_347, g_339) [0, 1, 2] rfl (by decide) ⟨s_348, s_349, s_350, s_351, s_352, s_353, s_354, hY.symm⟩ (Nat.le_of_ble_eq_true rfl) (Nat.le_of_ble_eq_true rfl) dX12_startRead_71
      · skip
        have hY := hY.trans (if_neg c_335)
        have o_355 : rl 1 y24_0 89 := rl_nle c_335
        have h_356 : rg 49 88 y24_0 := rl_x o_355 hy24_0 (⟨by decide, by decide⟩ : rg 89 89 (89 : Int32)) (by decide) (by decide)
        refine lv_aload_n hx hb dX12_startRead_30 rfl (lv_at hl 0 rfl) ?_
        refine va_get (D := D) (ci := 11) (v := .ref h0_read) (C := RX12) (T := TX12) (N := 48) hx hb hts k2 hown hK.1 hP 0 rfl rfl 15 (by decide) k3 (fun _ h9 => h9) rfl dX12_startRead_31 ?_
        refine lv_iload_n hx hb dX12_startRead_34 rfl (lv_at hl 1 rfl) ?_
        refine lv_iconst (v := (-1)) hx hb dX12_startRead_35 (by decide) ?_
        refine va_iast hx hb hK.1 hP hD hS 1 0 rfl rfl (rg_in h_356 (by decide) (by decide)) dX12_startRead_36 (fun H locs hP hD hS => ?_)
        obtain ⟨g_357, eg_357⟩ : ∃ y : Nat → Int32, y = upd f24_1 (y24_0 : Int32).toNatClampNeg ((-1) : Int32) := ⟨_, rfl⟩
        rw [← eg_357] at hP hD
        have hY := hY.trans (lt1_e eg_357)
        have s_358 : sg 0 1 0 10 g_357 := sg_out s24_2 eg_357 h_356 (by decide) (by decide)
        have s_359 : sg 1 2 0 4 g_357 := sg_out s24_3 eg_357 h_356 (by decide) (by decide)
        have s_360 : sg 2 3 0 5 g_357 := sg_out s24_4 eg_357 h_356 (by decide) (by decide)
        have s_361 : sg 35 36 0 1023 g_357 := sg_out s24_5 eg_357 h_356 (by decide) (by decide)
        have s_362 : sg 44 49 0 3 g_357 := sg_out s24_6 eg_357 h_356 (by decide) (by decide)
        have hP : va_P D vwCl [(h0, .inr (11, [.int h0_thrown, .ref h0_tape, .int h0_taped, .int h0_size, .int h0_limit, .int h0_to, .int h0_from, .int h0_kind, .int h0_number, .int h0_sign, .int h0_fault, .int h0_place, .long h0_word, .int h0_told, .ref h0_now, .ref h0_read, .ref h0_kept, .ref h0_snaps, .ref h0_aside, .ref h0_name, .ref h0_readName, .ref h0_keptName, .ref h0_isKept, .ref h0_onces, .int h0_snapMany, .int h0_lowest, .int h0_highest, .int h0_agreed, .int h0_jurors, .int h0_panelled, .ref h0_inSets, .int h0_surely, .int h0_asked, .ref h0_frees, .int h0_struck, .int h0_beating, .ref h0_text, .int h0_texts, .int h0_seed, .ref h0_line, .ref h0_written, .int h0_lineMany, .int h0_hasWritten, .ref h0_node, .int h0_nodes, .int h0_onesMany, .int h0_within, .int h0_top])), (aI ca h0_read 89 g_357), (aZ ca h0_onces 2 F_h0_onces)] H := hP
        have hD : va_D A [(h0, .inr (11, [.int h0_thrown, .ref h0_tape, .int h0_taped, .int h0_size, .int h0_limit, .int h0_to, .int h0_from, .int h0_kind, .int h0_number, .int h0_sign, .int h0_fault, .int h0_place, .long h0_word, .int h0_told, .ref h0_now, .ref h0_read, .ref h0_kept, .ref h0_snaps, .ref h0_aside, .ref h0_name, .ref h0_readName, .ref h0_keptName, .ref h0_isKept, .ref h0_onces, .int h0_snapMany, .int h0_lowest, .int h0_highest, .int h0_agreed, .int h0_jurors, .int h0_panelled, .ref h0_inSets, .int h0_surely, .int h0_asked, .ref h0_frees, .int h0_struck, .int h0_beating, .ref h0_text, .int h0_texts, .int h0_seed, .ref h0_line, .ref h0_written, .int h0_lineMany, .int h0_hasWritten, .ref h0_node, .int h0_nodes, .int h0_onesMany, .int h0_within, .int h0_top])), (aI ca h0_read 89 g_357), (aZ ca h0_onces 2 F_h0_onces)] := hD
        obtain ⟨x_363, ex_363⟩ : ∃ y : Int32, y = y24_0 + 1 := ⟨_, rfl⟩
        have hY := hY.trans (lt1_e ex_363)
        have h_364 : rg 50 89 x_363 := by rw [ex_363]; exact rg_add h_356 (⟨by decide, by decide⟩ : rg 1 1 (1 : Int32)) (by decide) (by decide) (by decide) (by decide)
        have l_365 : lq x_363.toInt (y24_0.toInt + 1) := lqm (by rw [ex_363]; have q := tadd h_356 (⟨by decide, by decide⟩ : rg 1 1 (1 : Int32)) (by decide) (by decide); have r1 := lqe (lqm (by decide) : lq (1 : Int32).toInt 1); omega)
        refine lv_iinc (v := x_363) (lv' := [(1, .int x_363), (0, .ref h0)]) hx hb dX12_startRead_37 hl (k := 1) rfl (by rw [ex_363]; rfl) (by decide) rfl (fun ls hl => ?_)
        refine lv_goto (tgt := 24) hx hb dX12_startRead_40 (by decide) ?_
        exact ih24 x_363 g_357 trivial (rgw (lo := 49) (hi := 89) h_364 (by decide) (by decide)) s_358 s_359 s_360 s_361 s_362 (by have q0 := lqe l_365; omega) hY H locs ls (oPsub hP [0, 1, 2] rfl) (hD.sub [0, 1, 2] (by decide) rfl) hS (lv_sub hl [1, 0] rfl)
  have J2_366 : ∀ (n2 : Nat) (y2_0 : Int32) (f2_1 : Nat → Int32), True → rg 0 89 y2_0 → sg 0 1 0 10 f2_1 → sg 1 2 0 4 f2_1 → sg 2 3 0 5 f2_1 → sg 35 36 0 1023 f2_1 → sg 44 49 0 3 f2_1 → 89 < y2_0.toInt + (n2 : Int) → y_X12_startRead F_h0_read F_h0_onces = y_X12_startRead_2 F_h0_onces n2 y2_0 f2_1 → ∀ (H : Heap) (locs : List Loc) (ls : Array Slot), va_P D vwCl [(h0, .inr (11, [.int h0_thrown, .ref h0_tape, .int h0_taped, .int h0_size, .int h0_limit, .int h0_to, .int h0_from, .int h0_kind, .int h0_number, .int h0_sign, .int h0_fault, .int h0_place, .long h0_word, .int h0_told, .ref h0_now, .ref h0_read, .ref h0_kept, .ref h0_snaps, .ref h0_aside, .ref h0_name, .ref h0_readName, .ref h0_keptName, .ref h0_isKept, .ref h0_onces, .int h0_snapMany, .int h0_lowest, .int h0_highest, .int h0_agreed, .int h0_jurors, .int h0_panelled, .ref h0_inSets, .int h0_surely, .int h0_asked, .ref h0_frees, .int h0_struck, .int h0_beating, .ref h0_text, .int h0_texts, .int h0_seed, .ref h0_line, .ref h0_written, .int h0_lineMany, .int h0_hasWritten, .ref h0_node, .int h0_nodes, .int h0_onesMany, .int h0_within, .int h0_top])), (aI ca h0_read 89 f2_1), (aZ ca h0_onces 2 F_h0_onces)] H → va_D A [(h0, .inr (11, [.int h0_thrown, .ref h0_tape, .int h0_taped, .int h0_size, .int h0_limit, .int h0_to, .int h0_from, .int h0_kind, .int h0_number, .int h0_sign, .int h0_fault, .int h0_place, .long h0_word, .int h0_told, .ref h0_now, .ref h0_read, .ref h0_kept, .ref h0_snaps, .ref h0_aside, .ref h0_name, .ref h0_readName, .ref h0_keptName, .ref h0_isKept, .ref h0_onces, .int h0_snapMany, .int h0_lowest, .int h0_highest, .int h0_agreed, .int h0_jurors, .int h0_panelled, .ref h0_inSets, .int h0_surely, .int h0_asked, .ref h0_frees, .int h0_struck, .int h0_beating, .ref h0_text, .int h0_texts, .int h0_seed, .ref h0_line, .ref h0_written, .int h0_lineMany, .int h0_hasWritten, .ref h0_node, .int h0_nodes, .int h0_onesMany, .int h0_within, .int h0_top])), (aI ca h0_read 89 f2_1), (aZ ca h0_onces 2 F_h0_onces)] → va_S A s.heap H locs → lv_has ls 2 [(0, .ref h0), (1, .int y2_0)] → W p l e ({ frames := 0, cells := 0, slots := 0, locals := 0 } : Room) s m ([.ref h0] : List Value).toArray below meth c H locs 0 0 (MQ below ((oQv D (fun (u : (Nat → Int32) × (Nat → Int32)) => (sg 0 1 0 10 u.1) ∧ (sg 1 2 0 4 u.1) ∧ (sg 2 3 0 5 u.1) ∧ (sg 35 36 0 1023 u.1) ∧ (sg 44 49 0 3 u.1) ∧ (sg 3 4 3 3 u.1) ∧ (sg 4 5 1 1 u.1) ∧ ((u.1, u.2) = y_X12_startRead F_h0_read F_h0_onces)) (fun (u : (Nat → Int32) × (Nat → Int32)) => [(h0, .inr (11, [.int h0_thrown, .ref h0_tape, .int h0_taped, .int h0_size, .int h0_limit, .int h0_to, .int h0_from, .int h0_kind, .int h0_number, .int h0_sign, .int h0_fault, .int h0_place, .long h0_word, .int h0_told, .ref h0_now, .ref h0_read, .ref h0_kept, .ref h0_snaps, .ref h0_aside, .ref h0_name, .ref h0_readName, .ref h0_keptName, .ref h0_isKept, .ref h0_onces, .int h0_snapMany, .int h0_lowest, .int h0_highest, .int h0_agreed, .int h0_jurors, .int h0_panelled, .ref h0_inSets, .int h0_surely, .int h0_asked, .ref h0_frees, .int h0_struck, .int h0_beating, .ref h0_text, .int h0_texts, .int h0_seed, .ref h0_line, .ref h0_written, .int h0_lineMany, .int h0_hasWritten, .ref h0_node, .int h0_nodes, .int h0_onesMany, .int h0_within, .int h0_top])), (aI ca h0_read 89 u.1), (aZ ca h0_onces 2 u.2)])) A) ([.ref h0] : List Value).toArray s 0 0 A) (F0 m 2 ls []) := by
    intro n2
    induction n2 with
    | zero => intro y2_0 f2_1 _ hy2_0 s2_2 s2_3 s2_4 s2_5 s2_6 hn hY; exact absurd hn (by have q9 := hy2_0.2; omega)
    | succ n2 ih2 =>
      intro y2_0 f2_1 _ hy2_0 s2_2 s2_3 s2_4 s2_5 s2_6 hn hY H locs ls hP hD hS hl
      have hY := hY.trans (y_X12_startRead_2_s F_h0_onces _ y2_0 f2_1)
      refine lv_iload_n hx hb dX12_startRead_2 rfl (lv_at hl 1 rfl) ?_
      refine lv_bipush (v := 89) hx hb dX12_startRead_3 (by decide) ?_
      refine lv_icmp_ge (tgt := 21) hx hb dX12_startRead_5 (by decide) (fun c_381 => ?_) (fun c_381 => ?_)
      · skip
        have hY := hY.trans (if_pos c_381)
        have o_382 : rl 0 89 y2_0 := rl_le c_381
        have h_383 : rg 89 89 y2_0 := rl_y o_382 (⟨by decide, by decide⟩ : rg 89 89 (89 : Int32)) hy2_0 (by decide) (by decide)
        refine lv_bipush (v := 49) hx hb dX12_startRead_21 (by decide) ?_
        refine lv_istore_n (lv' := [(1, .int 49), (0, .ref h0)]) hx hb dX12_startRead_23 rfl hl (by decide) rfl (fun ls hl => ?_)
        exact J24_303 41 49 f2_1 trivial (⟨by decide, by decide⟩ : rg 49 89 (49 : Int32)) s2_2 s2_3 s2_4 s2_5 s2_6 (by have q0 := (⟨by decide, by decide⟩ : rg 49 49 (49 : Int32)).1; omega) hY H locs ls (oPsub hP [0, 1, 2] rfl) (hD.sub [0, 1, 2] (by decide) rfl) hS (lv_sub hl [1, 0] rfl)
      · skip
        have hY := hY.trans (if_neg c_381)
        have o_384 : rl 1 y2_0 89 := rl_nle c_381
        have h_385 : rg 0 88 y2_0 := rl_x o_384 hy2_0 (⟨by decide, by decide⟩ : rg 89 89 (89 : Int32)) (by decide) (by decide)
        refine lv_aload_n hx hb dX12_startRead_8 rfl (lv_at hl 0 rfl) ?_
        refine va_get (D := D) (ci := 11) (v := .ref h0_read) (C := RX12) (T := TX12) (N := 48) hx hb hts k2 hown hK.1 hP 0 rfl rfl 15 (by decide) k3 (fun _ h9 => h9) rfl dX12_startRead_9 ?_
        refine lv_iload_n hx hb dX12_startRead_12 rfl (lv_at hl 1 rfl) ?_
        refine lv_iconst (v := 0) hx hb dX12_startRead_13 (by decide) ?_
        refine va_iast hx hb hK.1 hP hD hS 1 0 rfl rfl (rg_in h_385 (by decide) (by decide)) dX12_startRead_14 (fun H locs hP hD hS => ?_)
        obtain ⟨g_386, eg_386⟩ : ∃ y : Nat → Int32, y = upd f2_1 (y2_0 : Int32).toNatClampNeg (0 : Int32) := ⟨_, rfl⟩
        rw [← eg_386] at hP hD
        have hY := hY.trans (lt1_e eg_386)
        have s_387 : sg 0 1 0 10 g_386 := sg_val s2_2 eg_386 (⟨by decide, by decide⟩ : rg 0 10 (0 : Int32))
        have s_388 : sg 1 2 0 4 g_386 := sg_val s2_3 eg_386 (⟨by decide, by decide⟩ : rg 0 4 (0 : Int32))
        have s_389 : sg 2 3 0 5 g_386 := sg_val s2_4 eg_386 (⟨by decide, by decide⟩ : rg 0 5 (0 : Int32))
        have s_390 : sg 35 36 0 1023 g_386 := sg_val s2_5 eg_386 (⟨by decide, by decide⟩ : rg 0 1023 (0 : Int32))
        have s_391 : sg 44 49 0 3 g_386 := sg_val s2_6 eg_386 (⟨by decide, by decide⟩ : rg 0 3 (0 : Int32))
        have hP : va_P D vwCl [(h0, .inr (11, [.int h0_thrown, .ref h0_tape, .int h0_taped, .int h0_size, .int h0_limit, .int h0_to, .int h0_from, .int h0_kind, .int h0_number, .int h0_sign, .int h0_fault, .int h0_place, .long h0_word, .int h0_told, .ref h0_now, .ref h0_read, .ref h0_kept, .ref h0_snaps, .ref h0_aside, .ref h0_name, .ref h0_readName, .ref h0_keptName, .ref h0_isKept, .ref h0_onces, .int h0_snapMany, .int h0_lowest, .int h0_highest, .int h0_agreed, .int h0_jurors, .int h0_panelled, .ref h0_inSets, .int h0_surely, .int h0_asked, .ref h0_frees, .int h0_struck, .int h0_beating, .ref h0_text, .int h0_texts, .int h0_seed, .ref h0_line, .ref h0_written, .int h0_lineMany, .int h0_hasWritten, .ref h0_node, .int h0_nodes, .int h0_onesMany, .int h0_within, .int h0_top])), (aI ca h0_read 89 g_386), (aZ ca h0_onces 2 F_h0_onces)] H := hP
        have hD : va_D A [(h0, .inr (11, [.int h0_thrown, .ref h0_tape, .int h0_taped, .int h0_size, .int h0_limit, .int h0_to, .int h0_from, .int h0_kind, .int h0_number, .int h0_sign, .int h0_fault, .int h0_place, .long h0_word, .int h0_told, .ref h0_now, .ref h0_read, .ref h0_kept, .ref h0_snaps, .ref h0_aside, .ref h0_name, .ref h0_readName, .ref h0_keptName, .ref h0_isKept, .ref h0_onces, .int h0_snapMany, .int h0_lowest, .int h0_highest, .int h0_agreed, .int h0_jurors, .int h0_panelled, .ref h0_inSets, .int h0_surely, .int h0_asked, .ref h0_frees, .int h0_struck, .int h0_beating, .ref h0_text, .int h0_texts, .int h0_seed, .ref h0_line, .ref h0_written, .int h0_lineMany, .int h0_hasWritten, .ref h0_node, .int h0_nodes, .int h0_onesMany, .int h0_within, .int h0_top])), (aI ca h0_read 89 g_386), (aZ ca h0_onces 2 F_h0_onces)] := hD
        obtain ⟨x_392, ex_392⟩ : ∃ y : Int32, y = y2_0 + 1 := ⟨_, rfl⟩
        have hY := hY.trans (lt1_e ex_392)
        have h_393 : rg 1 89 x_392 := by rw [ex_392]; exact rg_add h_385 (⟨by decide, by decide⟩ : rg 1 1 (1 : Int32)) (by decide) (by decide) (by decide) (by decide)
        have l_394 : lq x_392.toInt (y2_0.toInt + 1) := lqm (by rw [ex_392]; have q := tadd h_385 (⟨by decide, by decide⟩ : rg 1 1 (1 : Int32)) (by decide) (by decide); have r1 := lqe (lqm (by decide) : lq (1 : Int32).toInt 1); omega)
        refine lv_iinc (v := x_392) (lv' := [(1, .int x_392), (0, .ref h0)]) hx hb dX12_startRead_15 hl (k := 1) rfl (by rw [ex_392]; rfl) (by decide) rfl (fun ls hl => ?_)
        refine lv_goto (tgt := 2) hx hb dX12_startRead_18 (by decide) ?_
        exact ih2 x_392 g_386 trivial (rgw (lo := 0) (hi := 89) h_393 (by decide) (by decide)) s_387 s_388 s_389 s_390 s_391 (by have q0 := lqe l_394; omega) hY H locs ls (oPsub hP [0, 1, 2] rfl) (hD.sub [0, 1, 2] (by decide) rfl) hS (lv_sub hl [1, 0] rfl)
  refine lv_iconst (v := 0) hx hb dX12_startRead_0 (by decide) ?_
  refine lv_istore_n (lv' := [(1, .int 0), (0, .ref h0)]) hx hb dX12_startRead_1 rfl hl (by decide) rfl (fun ls hl => ?_)
  exact J2_366 90 0 F_h0_read trivial (⟨by decide, by decide⟩ : rg 0 89 (0 : Int32)) s_h0_read_0 s_h0_read_1 s_h0_read_2 s_h0_read_3 s_h0_read_4 (by have q0 := (⟨by decide, by decide⟩ : rg 0 0 (0 : Int32)).1; omega) hY H locs ls (oPsub hP [0, 1, 2] rfl) (hD.sub [0, 1, 2] (by decide) rfl) hS (lv_sub hl [1, 0] rfl)
theorem dX12_spelt_0 : decode cX12_spelt 0 = .ok (.ldc2_w 54, 3) := by decide +kernel
theorem dX12_spelt_3 : decode cX12_spelt 3 = .ok (.iload_n 0, 1) := by decide +kernel
theorem dX12_spelt_4 : decode cX12_spelt 4 = .ok (.i2l, 1) := by decide +kernel
theorem dX12_spelt_5 : decode cX12_spelt 5 = .ok (.ldc2_w 56, 3) := by decide +kernel
theorem dX12_spelt_8 : decode cX12_spelt 8 = .ok (.lsub, 1) := by decide +kernel
theorem dX12_spelt_9 : decode cX12_spelt 9 = .ok (.lmul, 1) := by decide +kernel
theorem dX12_spelt_10 : decode cX12_spelt 10 = .ok (.iload_n 1, 1) := by decide +kernel
theorem dX12_spelt_11 : decode cX12_spelt 11 = .ok (.i2l, 1) := by decide +kernel
theorem dX12_spelt_12 : decode cX12_spelt 12 = .ok (.ladd, 1) := by decide +kernel
theorem dX12_spelt_13 : decode cX12_spelt 13 = .ok (.ldc2_w 56, 3) := by decide +kernel
theorem dX12_spelt_16 : decode cX12_spelt 16 = .ok (.lsub, 1) := by decide +kernel
theorem dX12_spelt_17 : decode cX12_spelt 17 = .ok (.lstore 7, 2) := by decide +kernel
theorem dX12_spelt_19 : decode cX12_spelt 19 = .ok (.iload_n 2, 1) := by decide +kernel
theorem dX12_spelt_20 : decode cX12_spelt 20 = .ok (.ifCond .le 18, 3) := by decide +kernel
theorem dX12_spelt_23 : decode cX12_spelt 23 = .ok (.ldc2_w 54, 3) := by decide +kernel
theorem dX12_spelt_26 : decode cX12_spelt 26 = .ok (.lload 7, 2) := by decide +kernel
theorem dX12_spelt_28 : decode cX12_spelt 28 = .ok (.lmul, 1) := by decide +kernel
theorem dX12_spelt_29 : decode cX12_spelt 29 = .ok (.iload_n 2, 1) := by decide +kernel
theorem dX12_spelt_30 : decode cX12_spelt 30 = .ok (.i2l, 1) := by decide +kernel
theorem dX12_spelt_31 : decode cX12_spelt 31 = .ok (.ladd, 1) := by decide +kernel
theorem dX12_spelt_32 : decode cX12_spelt 32 = .ok (.ldc2_w 56, 3) := by decide +kernel
theorem dX12_spelt_35 : decode cX12_spelt 35 = .ok (.lsub, 1) := by decide +kernel
theorem dX12_spelt_36 : decode cX12_spelt 36 = .ok (.lstore 7, 2) := by decide +kernel
theorem dX12_spelt_38 : decode cX12_spelt 38 = .ok (.iload_n 3, 1) := by decide +kernel
theorem dX12_spelt_39 : decode cX12_spelt 39 = .ok (.ifCond .le 18, 3) := by decide +kernel
theorem dX12_spelt_57 : decode cX12_spelt 57 = .ok (.iload 4, 2) := by decide +kernel
theorem dX12_spelt_59 : decode cX12_spelt 59 = .ok (.ifCond .le 19, 3) := by decide +kernel
theorem dX12_spelt_78 : decode cX12_spelt 78 = .ok (.iload 5, 2) := by decide +kernel
theorem dX12_spelt_80 : decode cX12_spelt 80 = .ok (.ifCond .le 19, 3) := by decide +kernel
theorem dX12_spelt_99 : decode cX12_spelt 99 = .ok (.iload 6, 2) := by decide +kernel
theorem dX12_spelt_101 : decode cX12_spelt 101 = .ok (.ifCond .le 19, 3) := by decide +kernel
theorem dX12_spelt_120 : decode cX12_spelt 120 = .ok (.lload 7, 2) := by decide +kernel
theorem dX12_spelt_122 : decode cX12_spelt 122 = .ok (.lreturn, 1) := by decide +kernel
set_option maxHeartbeats 4000000 in
set_option maxRecDepth 100000 in
theorem s_X12_spelt_12 (l : Launch) (D : va_G) (ca : Nat → ClassId) (sz : Nat)   : oMet l yX12_spelt wsX12_spelt ({ frames := 0, cells := 0, slots := 0, locals := 0 } : Room) [.int 116, .int 114, .int 121, .int 0, .int 0, .int 0, .int 0] D ca sz [] (oQl D (fun (r : Int64) (u : Unit) => (r = 15091)) (fun (u : Unit) => [])) 0 0 := by
  refine oM (cc := cX12_spelt) (maxL := 9) (ret := (some .long)) (by decide) rfl (Nat.le_of_ble_eq_true rfl) [(0, .int 116), (1, .int 114), (2, .int 121), (3, .int 0), (4, .int 0), (5, .int 0), (6, .int 0)] rfl ?_
  intro p e s m below meth c A H locs ls hx hb hr hml hts hown hlocks hin hK hP hD hA hS hl
  have hown : s.vm.findClass RX12 = some m.cls := hown
  have k1 := hts (.constantLong RX12 54 27) (by decide +kernel)
  have k2 := hts (.constantLong RX12 56 96) (by decide +kernel)
  have J99_1 : ∀ (_ : Unit), ∀ (H : Heap) (locs : List Loc) (ls : Array Slot), va_P D vwCl [] H → va_D A [] → va_S A s.heap H locs → lv_has ls 9 [(6, .int 0), (7, .long 15091)] → W p l e ({ frames := 0, cells := 0, slots := 0, locals := 0 } : Room) s m ([.int 116, .int 114, .int 121, .int 0, .int 0, .int 0, .int 0] : List Value).toArray below meth c H locs 0 0 (MQ below ((oQl D (fun (r : Int64) (u : Unit) => (r = 15091)) (fun (u : Unit) => [])) A) ([.int 116, .int 114, .int 121, .int 0, .int 0, .int 0, .int 0] : List Value).toArray s 0 0 A) (F0 m 99 ls []) := by
    intro _  H locs ls hP hD hS hl
    refine lv_iload hx hb dX12_spelt_99 (lv_at hl 0 rfl) ?_
    refine lv_if_le (tgt := 120) hx hb dX12_spelt_101 (by decide) (fun _ => ?_) (fun c => absurd (by decide) c)
    refine lv_lload hx hb dX12_spelt_120 (lv_at hl 1 rfl) ?_
    exact oE_l hx hb hr hlocks hP hD hS () [] rfl (by decide) rfl (Nat.le_of_ble_eq_true rfl) (Nat.le_of_ble_eq_true rfl) dX12_spelt_122
  have J78_2 : ∀ (_ : Unit), ∀ (H : Heap) (locs : List Loc) (ls : Array Slot), va_P D vwCl [] H → va_D A [] → va_S A s.heap H locs → lv_has ls 9 [(5, .int 0), (6, .int 0), (7, .long 15091)] → W p l e ({ frames := 0, cells := 0, slots := 0, locals := 0 } : Room) s m ([.int 116, .int 114, .int 121, .int 0, .int 0, .int 0, .int 0] : List Value).toArray below meth c H locs 0 0 (MQ below ((oQl D (fun (r : Int64) (u : Unit) => (r = 15091)) (fun (u : Unit) => [])) A) ([.int 116, .int 114, .int 121, .int 0, .int 0, .int 0, .int 0] : List Value).toArray s 0 0 A) (F0 m 78 ls []) := by
    intro _  H locs ls hP hD hS hl
    refine lv_iload hx hb dX12_spelt_78 (lv_at hl 0 rfl) ?_
    refine lv_if_le (tgt := 99) hx hb dX12_spelt_80 (by decide) (fun _ => ?_) (fun c => absurd (by decide) c)
    exact J99_1 ()  H locs ls (oPsub hP [] rfl) (hD.sub [] (by decide) rfl) hS (lv_sub hl [1, 2] rfl)
  have J57_3 : ∀ (_ : Unit), ∀ (H : Heap) (locs : List Loc) (ls : Array Slot), va_P D vwCl [] H → va_D A [] → va_S A s.heap H locs → lv_has ls 9 [(4, .int 0), (5, .int 0), (6, .int 0), (7, .long 15091)] → W p l e ({ frames := 0, cells := 0, slots := 0, locals := 0 } : Room) s m ([.int 116, .int 114, .int 121, .int 0, .int 0, .int 0, .int 0] : List Value).toArray below meth c H locs 0 0 (MQ below ((oQl D (fun (r : Int64) (u : Unit) => (r = 15091)) (fun (u : Unit) => [])) A) ([.int 116, .int 114, .int 121, .int 0, .int 0, .int 0, .int 0] : List Value).toArray s 0 0 A) (F0 m 57 ls []) := by
    intro _  H locs ls hP hD hS hl
    refine lv_iload hx hb dX12_spelt_57 (lv_at hl 0 rfl) ?_
    refine lv_if_le (tgt := 78) hx hb dX12_spelt_59 (by decide) (fun _ => ?_) (fun c => absurd (by decide) c)
    exact J78_2 ()  H locs ls (oPsub hP [] rfl) (hD.sub [] (by decide) rfl) hS (lv_sub hl [1, 2, 3] rfl)
  have J38_4 : ∀ (_ : Unit), ∀ (H : Heap) (locs : List Loc) (ls : Array Slot), va_P D vwCl [] H → va_D A [] → va_S A s.heap H locs → lv_has ls 9 [(3, .int 0), (4, .int 0), (5, .int 0), (6, .int 0), (7, .long 15091)] → W p l e ({ frames := 0, cells := 0, slots := 0, locals := 0 } : Room) s m ([.int 116, .int 114, .int 121, .int 0, .int 0, .int 0, .int 0] : List Value).toArray below meth c H locs 0 0 (MQ below ((oQl D (fun (r : Int64) (u : Unit) => (r = 15091)) (fun (u : Unit) => [])) A) ([.int 116, .int 114, .int 121, .int 0, .int 0, .int 0, .int 0] : List Value).toArray s 0 0 A) (F0 m 38 ls []) := by
    intro _  H locs ls hP hD hS hl
    refine lv_iload_n hx hb dX12_spelt_38 rfl (lv_at hl 0 rfl) ?_
    refine lv_if_le (tgt := 57) hx hb dX12_spelt_39 (by decide) (fun _ => ?_) (fun c => absurd (by decide) c)
    exact J57_3 ()  H locs ls (oPsub hP [] rfl) (hD.sub [] (by decide) rfl) hS (lv_sub hl [1, 2, 3, 4] rfl)
  refine lv_ldc2 (v := 27) hx hb hown k1 dX12_spelt_0 ?_
  refine lv_iload_n hx hb dX12_spelt_3 rfl (lv_at hl 0 rfl) ?_
  refine lv_i2l (v := 116) hx hb dX12_spelt_4 (by decide) ?_
  refine lv_ldc2 (v := 96) hx hb hown k2 dX12_spelt_5 ?_
  refine lv_lsub hx hb dX12_spelt_8 ?_
  refine otl 20 (by decide +kernel) ?_
  refine lv_lmul hx hb dX12_spelt_9 ?_
  refine otl 540 (by decide +kernel) ?_
  refine lv_iload_n hx hb dX12_spelt_10 rfl (lv_at hl 1 rfl) ?_
  refine lv_i2l (v := 114) hx hb dX12_spelt_11 (by decide) ?_
  refine lv_ladd hx hb dX12_spelt_12 ?_
  refine otl 654 (by decide +kernel) ?_
  refine lv_ldc2 (v := 96) hx hb hown k2 dX12_spelt_13 ?_
  refine lv_lsub hx hb dX12_spelt_16 ?_
  refine otl 558 (by decide +kernel) ?_
  refine lv_lstore (lv' := [(7, .long 558), (0, .int 116), (1, .int 114), (2, .int 121), (3, .int 0), (4, .int 0), (5, .int 0), (6, .int 0)]) hx hb dX12_spelt_17 hl (by decide) rfl (fun ls hl => ?_)
  refine lv_iload_n hx hb dX12_spelt_19 rfl (lv_at hl 3 rfl) ?_
  refine lv_if_le (tgt := 38) hx hb dX12_spelt_20 (by decide) (fun c => absurd c (by decide)) (fun _ => ?_)
  refine lv_ldc2 (v := 27) hx hb hown k1 dX12_spelt_23 ?_
  refine lv_lload hx hb dX12_spelt_26 (lv_at hl 0 rfl) ?_
  refine lv_lmul hx hb dX12_spelt_28 ?_
  refine otl 15066 (by decide +kernel) ?_
  refine lv_iload_n hx hb dX12_spelt_29 rfl (lv_at hl 3 rfl) ?_
  refine lv_i2l (v := 121) hx hb dX12_spelt_30 (by decide) ?_
  refine lv_ladd hx hb dX12_spelt_31 ?_
  refine otl 15187 (by decide +kernel) ?_
  refine lv_ldc2 (v := 96) hx hb hown k2 dX12_spelt_32 ?_
  refine lv_lsub hx hb dX12_spelt_35 ?_
  refine otl 15091 (by decide +kernel) ?_
  refine lv_lstore (lv' := [(7, .long 15091), (0, .int 116), (1, .int 114), (2, .int 121), (3, .int 0), (4, .int 0), (5, .int 0), (6, .int 0)]) hx hb dX12_spelt_36 hl (by decide) rfl (fun ls hl => ?_)
  exact J38_4 ()  H locs ls (oPsub hP [] rfl) (hD.sub [] (by decide) rfl) hS (lv_sub hl [4, 5, 6, 7, 0] rfl)
theorem dX12_spelt_42 : decode cX12_spelt 42 = .ok (.ldc2_w 54, 3) := by decide +kernel
theorem dX12_spelt_45 : decode cX12_spelt 45 = .ok (.lload 7, 2) := by decide +kernel
theorem dX12_spelt_47 : decode cX12_spelt 47 = .ok (.lmul, 1) := by decide +kernel
theorem dX12_spelt_48 : decode cX12_spelt 48 = .ok (.iload_n 3, 1) := by decide +kernel
theorem dX12_spelt_49 : decode cX12_spelt 49 = .ok (.i2l, 1) := by decide +kernel
theorem dX12_spelt_50 : decode cX12_spelt 50 = .ok (.ladd, 1) := by decide +kernel
theorem dX12_spelt_51 : decode cX12_spelt 51 = .ok (.ldc2_w 56, 3) := by decide +kernel
theorem dX12_spelt_54 : decode cX12_spelt 54 = .ok (.lsub, 1) := by decide +kernel
theorem dX12_spelt_55 : decode cX12_spelt 55 = .ok (.lstore 7, 2) := by decide +kernel
theorem dX12_spelt_62 : decode cX12_spelt 62 = .ok (.ldc2_w 54, 3) := by decide +kernel
theorem dX12_spelt_65 : decode cX12_spelt 65 = .ok (.lload 7, 2) := by decide +kernel
theorem dX12_spelt_67 : decode cX12_spelt 67 = .ok (.lmul, 1) := by decide +kernel
theorem dX12_spelt_68 : decode cX12_spelt 68 = .ok (.iload 4, 2) := by decide +kernel
theorem dX12_spelt_70 : decode cX12_spelt 70 = .ok (.i2l, 1) := by decide +kernel
theorem dX12_spelt_71 : decode cX12_spelt 71 = .ok (.ladd, 1) := by decide +kernel
theorem dX12_spelt_72 : decode cX12_spelt 72 = .ok (.ldc2_w 56, 3) := by decide +kernel
theorem dX12_spelt_75 : decode cX12_spelt 75 = .ok (.lsub, 1) := by decide +kernel
theorem dX12_spelt_76 : decode cX12_spelt 76 = .ok (.lstore 7, 2) := by decide +kernel
theorem dX12_spelt_83 : decode cX12_spelt 83 = .ok (.ldc2_w 54, 3) := by decide +kernel
theorem dX12_spelt_86 : decode cX12_spelt 86 = .ok (.lload 7, 2) := by decide +kernel
theorem dX12_spelt_88 : decode cX12_spelt 88 = .ok (.lmul, 1) := by decide +kernel
theorem dX12_spelt_89 : decode cX12_spelt 89 = .ok (.iload 5, 2) := by decide +kernel
theorem dX12_spelt_91 : decode cX12_spelt 91 = .ok (.i2l, 1) := by decide +kernel
theorem dX12_spelt_92 : decode cX12_spelt 92 = .ok (.ladd, 1) := by decide +kernel
theorem dX12_spelt_93 : decode cX12_spelt 93 = .ok (.ldc2_w 56, 3) := by decide +kernel
theorem dX12_spelt_96 : decode cX12_spelt 96 = .ok (.lsub, 1) := by decide +kernel
theorem dX12_spelt_97 : decode cX12_spelt 97 = .ok (.lstore 7, 2) := by decide +kernel
set_option maxHeartbeats 4000000 in
set_option maxRecDepth 100000 in
theorem s_X12_spelt_13 (l : Launch) (D : va_G) (ca : Nat → ClassId) (sz : Nat)   : oMet l yX12_spelt wsX12_spelt ({ frames := 0, cells := 0, slots := 0, locals := 0 } : Room) [.int 97, .int 112, .int 112, .int 101, .int 97, .int 108, .int 0] D ca sz [] (oQl D (fun (r : Int64) (u : Unit) => (r = 23170575)) (fun (u : Unit) => [])) 0 0 := by
  refine oM (cc := cX12_spelt) (maxL := 9) (ret := (some .long)) (by decide) rfl (Nat.le_of_ble_eq_true rfl) [(0, .int 97), (1, .int 112), (2, .int 112), (3, .int 101), (4, .int 97), (5, .int 108), (6, .int 0)] rfl ?_
  intro p e s m below meth c A H locs ls hx hb hr hml hts hown hlocks hin hK hP hD hA hS hl
  have hown : s.vm.findClass RX12 = some m.cls := hown
  have k1 := hts (.constantLong RX12 54 27) (by decide +kernel)
  have k2 := hts (.constantLong RX12 56 96) (by decide +kernel)
  have J99_1 : ∀ (_ : Unit), ∀ (H : Heap) (locs : List Loc) (ls : Array Slot), va_P D vwCl [] H → va_D A [] → va_S A s.heap H locs → lv_has ls 9 [(6, .int 0), (7, .long 23170575)] → W p l e ({ frames := 0, cells := 0, slots := 0, locals := 0 } : Room) s m ([.int 97, .int 112, .int 112, .int 101, .int 97, .int 108, .int 0] : List Value).toArray below meth c H locs 0 0 (MQ below ((oQl D (fun (r : Int64) (u : Unit) => (r = 23170575)) (fun (u : Unit) => [])) A) ([.int 97, .int 112, .int 112, .int 101, .int 97, .int 108, .int 0] : List Value).toArray s 0 0 A) (F0 m 99 ls []) := by
    intro _  H locs ls hP hD hS hl
    refine lv_iload hx hb dX12_spelt_99 (lv_at hl 0 rfl) ?_
    refine lv_if_le (tgt := 120) hx hb dX12_spelt_101 (by decide) (fun _ => ?_) (fun c => absurd (by decide) c)
    refine lv_lload hx hb dX12_spelt_120 (lv_at hl 1 rfl) ?_
    exact oE_l hx hb hr hlocks hP hD hS () [] rfl (by decide) rfl (Nat.le_of_ble_eq_true rfl) (Nat.le_of_ble_eq_true rfl) dX12_spelt_122
  have J78_2 : ∀ (_ : Unit), ∀ (H : Heap) (locs : List Loc) (ls : Array Slot), va_P D vwCl [] H → va_D A [] → va_S A s.heap H locs → lv_has ls 9 [(5, .int 108), (6, .int 0), (7, .long 858169)] → W p l e ({ frames := 0, cells := 0, slots := 0, locals := 0 } : Room) s m ([.int 97, .int 112, .int 112, .int 101, .int 97, .int 108, .int 0] : List Value).toArray below meth c H locs 0 0 (MQ below ((oQl D (fun (r : Int64) (u : Unit) => (r = 23170575)) (fun (u : Unit) => [])) A) ([.int 97, .int 112, .int 112, .int 101, .int 97, .int 108, .int 0] : List Value).toArray s 0 0 A) (F0 m 78 ls []) := by
    intro _  H locs ls hP hD hS hl
    refine lv_iload hx hb dX12_spelt_78 (lv_at hl 0 rfl) ?_
    refine lv_if_le (tgt := 99) hx hb dX12_spelt_80 (by decide) (fun c => absurd c (by decide)) (fun _ => ?_)
    refine lv_ldc2 (v := 27) hx hb hown k1 dX12_spelt_83 ?_
    refine lv_lload hx hb dX12_spelt_86 (lv_at hl 2 rfl) ?_
    refine lv_lmul hx hb dX12_spelt_88 ?_
    refine otl 23170563 (by decide +kernel) ?_
    refine lv_iload hx hb dX12_spelt_89 (lv_at hl 0 rfl) ?_
    refine lv_i2l (v := 108) hx hb dX12_spelt_91 (by decide) ?_
    refine lv_ladd hx hb dX12_spelt_92 ?_
    refine otl 23170671 (by decide +kernel) ?_
    refine lv_ldc2 (v := 96) hx hb hown k2 dX12_spelt_93 ?_
    refine lv_lsub hx hb dX12_spelt_96 ?_
    refine otl 23170575 (by decide +kernel) ?_
    refine lv_lstore (lv' := [(7, .long 23170575), (5, .int 108), (6, .int 0)]) hx hb dX12_spelt_97 hl (by decide) rfl (fun ls hl => ?_)
    exact J99_1 ()  H locs ls (oPsub hP [] rfl) (hD.sub [] (by decide) rfl) hS (lv_sub hl [2, 0] rfl)
  have J57_3 : ∀ (_ : Unit), ∀ (H : Heap) (locs : List Loc) (ls : Array Slot), va_P D vwCl [] H → va_D A [] → va_S A s.heap H locs → lv_has ls 9 [(4, .int 97), (5, .int 108), (6, .int 0), (7, .long 31784)] → W p l e ({ frames := 0, cells := 0, slots := 0, locals := 0 } : Room) s m ([.int 97, .int 112, .int 112, .int 101, .int 97, .int 108, .int 0] : List Value).toArray below meth c H locs 0 0 (MQ below ((oQl D (fun (r : Int64) (u : Unit) => (r = 23170575)) (fun (u : Unit) => [])) A) ([.int 97, .int 112, .int 112, .int 101, .int 97, .int 108, .int 0] : List Value).toArray s 0 0 A) (F0 m 57 ls []) := by
    intro _  H locs ls hP hD hS hl
    refine lv_iload hx hb dX12_spelt_57 (lv_at hl 0 rfl) ?_
    refine lv_if_le (tgt := 78) hx hb dX12_spelt_59 (by decide) (fun c => absurd c (by decide)) (fun _ => ?_)
    refine lv_ldc2 (v := 27) hx hb hown k1 dX12_spelt_62 ?_
    refine lv_lload hx hb dX12_spelt_65 (lv_at hl 3 rfl) ?_
    refine lv_lmul hx hb dX12_spelt_67 ?_
    refine otl 858168 (by decide +kernel) ?_
    refine lv_iload hx hb dX12_spelt_68 (lv_at hl 0 rfl) ?_
    refine lv_i2l (v := 97) hx hb dX12_spelt_70 (by decide) ?_
    refine lv_ladd hx hb dX12_spelt_71 ?_
    refine otl 858265 (by decide +kernel) ?_
    refine lv_ldc2 (v := 96) hx hb hown k2 dX12_spelt_72 ?_
    refine lv_lsub hx hb dX12_spelt_75 ?_
    refine otl 858169 (by decide +kernel) ?_
    refine lv_lstore (lv' := [(7, .long 858169), (4, .int 97), (5, .int 108), (6, .int 0)]) hx hb dX12_spelt_76 hl (by decide) rfl (fun ls hl => ?_)
    exact J78_2 ()  H locs ls (oPsub hP [] rfl) (hD.sub [] (by decide) rfl) hS (lv_sub hl [2, 3, 0] rfl)
  have J38_4 : ∀ (_ : Unit), ∀ (H : Heap) (locs : List Loc) (ls : Array Slot), va_P D vwCl [] H → va_D A [] → va_S A s.heap H locs → lv_has ls 9 [(3, .int 101), (4, .int 97), (5, .int 108), (6, .int 0), (7, .long 1177)] → W p l e ({ frames := 0, cells := 0, slots := 0, locals := 0 } : Room) s m ([.int 97, .int 112, .int 112, .int 101, .int 97, .int 108, .int 0] : List Value).toArray below meth c H locs 0 0 (MQ below ((oQl D (fun (r : Int64) (u : Unit) => (r = 23170575)) (fun (u : Unit) => [])) A) ([.int 97, .int 112, .int 112, .int 101, .int 97, .int 108, .int 0] : List Value).toArray s 0 0 A) (F0 m 38 ls []) := by
    intro _  H locs ls hP hD hS hl
    refine lv_iload_n hx hb dX12_spelt_38 rfl (lv_at hl 0 rfl) ?_
    refine lv_if_le (tgt := 57) hx hb dX12_spelt_39 (by decide) (fun c => absurd c (by decide)) (fun _ => ?_)
    refine lv_ldc2 (v := 27) hx hb hown k1 dX12_spelt_42 ?_
    refine lv_lload hx hb dX12_spelt_45 (lv_at hl 4 rfl) ?_
    refine lv_lmul hx hb dX12_spelt_47 ?_
    refine otl 31779 (by decide +kernel) ?_
    refine lv_iload_n hx hb dX12_spelt_48 rfl (lv_at hl 0 rfl) ?_
    refine lv_i2l (v := 101) hx hb dX12_spelt_49 (by decide) ?_
    refine lv_ladd hx hb dX12_spelt_50 ?_
    refine otl 31880 (by decide +kernel) ?_
    refine lv_ldc2 (v := 96) hx hb hown k2 dX12_spelt_51 ?_
    refine lv_lsub hx hb dX12_spelt_54 ?_
    refine otl 31784 (by decide +kernel) ?_
    refine lv_lstore (lv' := [(7, .long 31784), (3, .int 101), (4, .int 97), (5, .int 108), (6, .int 0)]) hx hb dX12_spelt_55 hl (by decide) rfl (fun ls hl => ?_)
    exact J57_3 ()  H locs ls (oPsub hP [] rfl) (hD.sub [] (by decide) rfl) hS (lv_sub hl [2, 3, 4, 0] rfl)
  refine lv_ldc2 (v := 27) hx hb hown k1 dX12_spelt_0 ?_
  refine lv_iload_n hx hb dX12_spelt_3 rfl (lv_at hl 0 rfl) ?_
  refine lv_i2l (v := 97) hx hb dX12_spelt_4 (by decide) ?_
  refine lv_ldc2 (v := 96) hx hb hown k2 dX12_spelt_5 ?_
  refine lv_lsub hx hb dX12_spelt_8 ?_
  refine otl 1 (by decide +kernel) ?_
  refine lv_lmul hx hb dX12_spelt_9 ?_
  refine otl 27 (by decide +kernel) ?_
  refine lv_iload_n hx hb dX12_spelt_10 rfl (lv_at hl 1 rfl) ?_
  refine lv_i2l (v := 112) hx hb dX12_spelt_11 (by decide) ?_
  refine lv_ladd hx hb dX12_spelt_12 ?_
  refine otl 139 (by decide +kernel) ?_
  refine lv_ldc2 (v := 96) hx hb hown k2 dX12_spelt_13 ?_
  refine lv_lsub hx hb dX12_spelt_16 ?_
  refine otl 43 (by decide +kernel) ?_
  refine lv_lstore (lv' := [(7, .long 43), (0, .int 97), (1, .int 112), (2, .int 112), (3, .int 101), (4, .int 97), (5, .int 108), (6, .int 0)]) hx hb dX12_spelt_17 hl (by decide) rfl (fun ls hl => ?_)
  refine lv_iload_n hx hb dX12_spelt_19 rfl (lv_at hl 3 rfl) ?_
  refine lv_if_le (tgt := 38) hx hb dX12_spelt_20 (by decide) (fun c => absurd c (by decide)) (fun _ => ?_)
  refine lv_ldc2 (v := 27) hx hb hown k1 dX12_spelt_23 ?_
  refine lv_lload hx hb dX12_spelt_26 (lv_at hl 0 rfl) ?_
  refine lv_lmul hx hb dX12_spelt_28 ?_
  refine otl 1161 (by decide +kernel) ?_
  refine lv_iload_n hx hb dX12_spelt_29 rfl (lv_at hl 3 rfl) ?_
  refine lv_i2l (v := 112) hx hb dX12_spelt_30 (by decide) ?_
  refine lv_ladd hx hb dX12_spelt_31 ?_
  refine otl 1273 (by decide +kernel) ?_
  refine lv_ldc2 (v := 96) hx hb hown k2 dX12_spelt_32 ?_
  refine lv_lsub hx hb dX12_spelt_35 ?_
  refine otl 1177 (by decide +kernel) ?_
  refine lv_lstore (lv' := [(7, .long 1177), (0, .int 97), (1, .int 112), (2, .int 112), (3, .int 101), (4, .int 97), (5, .int 108), (6, .int 0)]) hx hb dX12_spelt_36 hl (by decide) rfl (fun ls hl => ?_)
  exact J38_4 ()  H locs ls (oPsub hP [] rfl) (hD.sub [] (by decide) rfl) hS (lv_sub hl [4, 5, 6, 7, 0] rfl)
set_option maxHeartbeats 4000000 in
set_option maxRecDepth 100000 in
theorem s_X12_spelt_14 (l : Launch) (D : va_G) (ca : Nat → ClassId) (sz : Nat)   : oMet l yX12_spelt wsX12_spelt ({ frames := 0, cells := 0, slots := 0, locals := 0 } : Room) [.int 100, .int 97, .int 121, .int 0, .int 0, .int 0, .int 0] D ca sz [] (oQl D (fun (r : Int64) (u : Unit) => (r = 2968)) (fun (u : Unit) => [])) 0 0 := by
  refine oM (cc := cX12_spelt) (maxL := 9) (ret := (some .long)) (by decide) rfl (Nat.le_of_ble_eq_true rfl) [(0, .int 100), (1, .int 97), (2, .int 121), (3, .int 0), (4, .int 0), (5, .int 0), (6, .int 0)] rfl ?_
  intro p e s m below meth c A H locs ls hx hb hr hml hts hown hlocks hin hK hP hD hA hS hl
  have hown : s.vm.findClass RX12 = some m.cls := hown
  have k1 := hts (.constantLong RX12 54 27) (by decide +kernel)
  have k2 := hts (.constantLong RX12 56 96) (by decide +kernel)
  have J99_1 : ∀ (_ : Unit), ∀ (H : Heap) (locs : List Loc) (ls : Array Slot), va_P D vwCl [] H → va_D A [] → va_S A s.heap H locs → lv_has ls 9 [(6, .int 0), (7, .long 2968)] → W p l e ({ frames := 0, cells := 0, slots := 0, locals := 0 } : Room) s m ([.int 100, .int 97, .int 121, .int 0, .int 0, .int 0, .int 0] : List Value).toArray below meth c H locs 0 0 (MQ below ((oQl D (fun (r : Int64) (u : Unit) => (r = 2968)) (fun (u : Unit) => [])) A) ([.int 100, .int 97, .int 121, .int 0, .int 0, .int 0, .int 0] : List Value).toArray s 0 0 A) (F0 m 99 ls []) := by
    intro _  H locs ls hP hD hS hl
    refine lv_iload hx hb dX12_spelt_99 (lv_at hl 0 rfl) ?_
    refine lv_if_le (tgt := 120) hx hb dX12_spelt_101 (by decide) (fun _ => ?_) (fun c => absurd (by decide) c)
    refine lv_lload hx hb dX12_spelt_120 (lv_at hl 1 rfl) ?_
    exact oE_l hx hb hr hlocks hP hD hS () [] rfl (by decide) rfl (Nat.le_of_ble_eq_true rfl) (Nat.le_of_ble_eq_true rfl) dX12_spelt_122
  have J78_2 : ∀ (_ : Unit), ∀ (H : Heap) (locs : List Loc) (ls : Array Slot), va_P D vwCl [] H → va_D A [] → va_S A s.heap H locs → lv_has ls 9 [(5, .int 0), (6, .int 0), (7, .long 2968)] → W p l e ({ frames := 0, cells := 0, slots := 0, locals := 0 } : Room) s m ([.int 100, .int 97, .int 121, .int 0, .int 0, .int 0, .int 0] : List Value).toArray below meth c H locs 0 0 (MQ below ((oQl D (fun (r : Int64) (u : Unit) => (r = 2968)) (fun (u : Unit) => [])) A) ([.int 100, .int 97, .int 121, .int 0, .int 0, .int 0, .int 0] : List Value).toArray s 0 0 A) (F0 m 78 ls []) := by
    intro _  H locs ls hP hD hS hl
    refine lv_iload hx hb dX12_spelt_78 (lv_at hl 0 rfl) ?_
    refine lv_if_le (tgt := 99) hx hb dX12_spelt_80 (by decide) (fun _ => ?_) (fun c => absurd (by decide) c)
    exact J99_1 ()  H locs ls (oPsub hP [] rfl) (hD.sub [] (by decide) rfl) hS (lv_sub hl [1, 2] rfl)
  have J57_3 : ∀ (_ : Unit), ∀ (H : Heap) (locs : List Loc) (ls : Array Slot), va_P D vwCl [] H → va_D A [] → va_S A s.heap H locs → lv_has ls 9 [(4, .int 0), (5, .int 0), (6, .int 0), (7, .long 2968)] → W p l e ({ frames := 0, cells := 0, slots := 0, locals := 0 } : Room) s m ([.int 100, .int 97, .int 121, .int 0, .int 0, .int 0, .int 0] : List Value).toArray below meth c H locs 0 0 (MQ below ((oQl D (fun (r : Int64) (u : Unit) => (r = 2968)) (fun (u : Unit) => [])) A) ([.int 100, .int 97, .int 121, .int 0, .int 0, .int 0, .int 0] : List Value).toArray s 0 0 A) (F0 m 57 ls []) := by
    intro _  H locs ls hP hD hS hl
    refine lv_iload hx hb dX12_spelt_57 (lv_at hl 0 rfl) ?_
    refine lv_if_le (tgt := 78) hx hb dX12_spelt_59 (by decide) (fun _ => ?_) (fun c => absurd (by decide) c)
    exact J78_2 ()  H locs ls (oPsub hP [] rfl) (hD.sub [] (by decide) rfl) hS (lv_sub hl [1, 2, 3] rfl)
  have J38_4 : ∀ (_ : Unit), ∀ (H : Heap) (locs : List Loc) (ls : Array Slot), va_P D vwCl [] H → va_D A [] → va_S A s.heap H locs → lv_has ls 9 [(3, .int 0), (4, .int 0), (5, .int 0), (6, .int 0), (7, .long 2968)] → W p l e ({ frames := 0, cells := 0, slots := 0, locals := 0 } : Room) s m ([.int 100, .int 97, .int 121, .int 0, .int 0, .int 0, .int 0] : List Value).toArray below meth c H locs 0 0 (MQ below ((oQl D (fun (r : Int64) (u : Unit) => (r = 2968)) (fun (u : Unit) => [])) A) ([.int 100, .int 97, .int 121, .int 0, .int 0, .int 0, .int 0] : List Value).toArray s 0 0 A) (F0 m 38 ls []) := by
    intro _  H locs ls hP hD hS hl
    refine lv_iload_n hx hb dX12_spelt_38 rfl (lv_at hl 0 rfl) ?_
    refine lv_if_le (tgt := 57) hx hb dX12_spelt_39 (by decide) (fun _ => ?_) (fun c => absurd (by decide) c)
    exact J57_3 ()  H locs ls (oPsub hP [] rfl) (hD.sub [] (by decide) rfl) hS (lv_sub hl [1, 2, 3, 4] rfl)
  refine lv_ldc2 (v := 27) hx hb hown k1 dX12_spelt_0 ?_
  refine lv_iload_n hx hb dX12_spelt_3 rfl (lv_at hl 0 rfl) ?_
  refine lv_i2l (v := 100) hx hb dX12_spelt_4 (by decide) ?_
  refine lv_ldc2 (v := 96) hx hb hown k2 dX12_spelt_5 ?_
  refine lv_lsub hx hb dX12_spelt_8 ?_
  refine otl 4 (by decide +kernel) ?_
  refine lv_lmul hx hb dX12_spelt_9 ?_
  refine otl 108 (by decide +kernel) ?_
  refine lv_iload_n hx hb dX12_spelt_10 rfl (lv_at hl 1 rfl) ?_
  refine lv_i2l (v := 97) hx hb dX12_spelt_11 (by decide) ?_
  refine lv_ladd hx hb dX12_spelt_12 ?_
  refine otl 205 (by decide +kernel) ?_
  refine lv_ldc2 (v := 96) hx hb hown k2 dX12_spelt_13 ?_
  refine lv_lsub hx hb dX12_spelt_16 ?_
  refine otl 109 (by decide +kernel) ?_
  refine lv_lstore (lv' := [(7, .long 109), (0, .int 100), (1, .int 97), (2, .int 121), (3, .int 0), (4, .int 0), (5, .int 0), (6, .int 0)]) hx hb dX12_spelt_17 hl (by decide) rfl (fun ls hl => ?_)
  refine lv_iload_n hx hb dX12_spelt_19 rfl (lv_at hl 3 rfl) ?_
  refine lv_if_le (tgt := 38) hx hb dX12_spelt_20 (by decide) (fun c => absurd c (by decide)) (fun _ => ?_)
  refine lv_ldc2 (v := 27) hx hb hown k1 dX12_spelt_23 ?_
  refine lv_lload hx hb dX12_spelt_26 (lv_at hl 0 rfl) ?_
  refine lv_lmul hx hb dX12_spelt_28 ?_
  refine otl 2943 (by decide +kernel) ?_
  refine lv_iload_n hx hb dX12_spelt_29 rfl (lv_at hl 3 rfl) ?_
  refine lv_i2l (v := 121) hx hb dX12_spelt_30 (by decide) ?_
  refine lv_ladd hx hb dX12_spelt_31 ?_
  refine otl 3064 (by decide +kernel) ?_
  refine lv_ldc2 (v := 96) hx hb hown k2 dX12_spelt_32 ?_
  refine lv_lsub hx hb dX12_spelt_35 ?_
  refine otl 2968 (by decide +kernel) ?_
  refine lv_lstore (lv' := [(7, .long 2968), (0, .int 100), (1, .int 97), (2, .int 121), (3, .int 0), (4, .int 0), (5, .int 0), (6, .int 0)]) hx hb dX12_spelt_36 hl (by decide) rfl (fun ls hl => ?_)
  exact J38_4 ()  H locs ls (oPsub hP [] rfl) (hD.sub [] (by decide) rfl) hS (lv_sub hl [4, 5, 6, 7, 0] rfl)
theorem dX12_spelt_104 : decode cX12_spelt 104 = .ok (.ldc2_w 54, 3) := by decide +kernel
theorem dX12_spelt_107 : decode cX12_spelt 107 = .ok (.lload 7, 2) := by decide +kernel
theorem dX12_spelt_109 : decode cX12_spelt 109 = .ok (.lmul, 1) := by decide +kernel
theorem dX12_spelt_110 : decode cX12_spelt 110 = .ok (.iload 6, 2) := by decide +kernel
theorem dX12_spelt_112 : decode cX12_spelt 112 = .ok (.i2l, 1) := by decide +kernel
theorem dX12_spelt_113 : decode cX12_spelt 113 = .ok (.ladd, 1) := by decide +kernel
theorem dX12_spelt_114 : decode cX12_spelt 114 = .ok (.ldc2_w 56, 3) := by decide +kernel
theorem dX12_spelt_117 : decode cX12_spelt 117 = .ok (.lsub, 1) := by decide +kernel
theorem dX12_spelt_118 : decode cX12_spelt 118 = .ok (.lstore 7, 2) := by decide +kernel
set_option maxHeartbeats 4000000 in
set_option maxRecDepth 100000 in
theorem s_X12_spelt (l : Launch) (D : va_G) (ca : Nat → ClassId) (sz : Nat) (a1 : Int32) (a2 : Int32) (a3 : Int32) (a4 : Int32) (a5 : Int32) (a6 : Int32) (a7 : Int32)  : oMet l yX12_spelt wsX12_spelt ({ frames := 0, cells := 0, slots := 0, locals := 0 } : Room) [.int a1, .int a2, .int a3, .int a4, .int a5, .int a6, .int a7] D ca sz [] (oQl D (fun (r : Int64) (u : Unit) => True) (fun (u : Unit) => [])) 0 0 := by
  refine oM (cc := cX12_spelt) (maxL := 9) (ret := (some .long)) (by decide) rfl (Nat.le_of_ble_eq_true rfl) [(0, .int a1), (1, .int a2), (2, .int a3), (3, .int a4), (4, .int a5), (5, .int a6), (6, .int a7)] rfl ?_
  intro p e s m below meth c A H locs ls hx hb hr hml hts hown hlocks hin hK hP hD hA hS hl
  have hown : s.vm.findClass RX12 = some m.cls := hown
  have k1 := hts (.constantLong RX12 54 27) (by decide +kernel)
  have k2 := hts (.constantLong RX12 56 96) (by decide +kernel)
  have J99_52 : ∀ (y99_0 : Int64), ∀ (H : Heap) (locs : List Loc) (ls : Array Slot), va_P D vwCl [] H → va_D A [] → va_S A s.heap H locs → lv_has ls 9 [(6, .int a7), (7, .long y99_0)] → W p l e ({ frames := 0, cells := 0, slots := 0, locals := 0 } : Room) s m ([.int a1, .int a2, .int a3, .int a4, .int a5, .int a6, .int a7] : List Value).toArray below meth c H locs 0 0 (MQ below ((oQl D (fun (r : Int64) (u : Unit) => True) (fun (u : Unit) => [])) A) ([.int a1, .int a2, .int a3, .int a4, .int a5, .int a6, .int a7] : List Value).toArray s 0 0 A) (F0 m 99 ls []) := by
    intro y99_0  H locs ls hP hD hS hl
    refine lv_iload hx hb dX12_spelt_99 (lv_at hl 0 rfl) ?_
    refine lv_if_le (tgt := 120) hx hb dX12_spelt_101 (by decide) (fun c_53 => ?_) (fun c_53 => ?_)
    · skip
      have o_54 : rl 0 a7 0 := rl_le c_53
      have h_55 : rg (-2147483648) 0 a7 := rl_x o_54 (rga a7) (⟨by decide, by decide⟩ : rg 0 0 (0 : Int32)) (by decide) (by decide)
      refine lv_lload hx hb dX12_spelt_120 (lv_at hl 1 rfl) ?_
      exact oE_l hx hb hr hlocks hP hD hS () [] rfl (by decide) trivial (Nat.le_of_ble_eq_true rfl) (Nat.le_of_ble_eq_true rfl) dX12_spelt_122
    · skip
      have o_56 : rl 1 0 a7 := rl_nle c_53
      have h_57 : rg 1 2147483647 a7 := rl_y o_56 (⟨by decide, by decide⟩ : rg 0 0 (0 : Int32)) (rga a7) (by decide) (by decide)
      refine lv_ldc2 (v := 27) hx hb hown k1 dX12_spelt_104 ?_
      refine lv_lload hx hb dX12_spelt_107 (lv_at hl 1 rfl) ?_
      refine lv_lmul hx hb dX12_spelt_109 ?_
      refine lv_topl (fun x_58 ex_58 => ?_)
      refine lv_iload hx hb dX12_spelt_110 (lv_at hl 0 rfl) ?_
      refine lv_i2l hx hb dX12_spelt_112 rfl ?_
      refine lv_topl (fun x_59 ex_59 => ?_)
      refine lv_ladd hx hb dX12_spelt_113 ?_
      refine lv_topl (fun x_60 ex_60 => ?_)
      refine lv_ldc2 (v := 96) hx hb hown k2 dX12_spelt_114 ?_
      refine lv_lsub hx hb dX12_spelt_117 ?_
      refine lv_topl (fun x_61 ex_61 => ?_)
      refine lv_lstore (lv' := [(7, .long x_61), (6, .int a7)]) hx hb dX12_spelt_118 hl (by decide) rfl (fun ls hl => ?_)
      refine lv_lload hx hb dX12_spelt_120 (lv_at hl 0 rfl) ?_
      exact oE_l hx hb hr hlocks hP hD hS () [] rfl (by decide) trivial (Nat.le_of_ble_eq_true rfl) (Nat.le_of_ble_eq_true rfl) dX12_spelt_122
  have J78_62 : ∀ (y78_0 : Int64), ∀ (H : Heap) (locs : List Loc) (ls : Array Slot), va_P D vwCl [] H → va_D A [] → va_S A s.heap H locs → lv_has ls 9 [(5, .int a6), (6, .int a7), (7, .long y78_0)] → W p l e ({ frames := 0, cells := 0, slots := 0, locals := 0 } : Room) s m ([.int a1, .int a2, .int a3, .int a4, .int a5, .int a6, .int a7] : List Value).toArray below meth c H locs 0 0 (MQ below ((oQl D (fun (r : Int64) (u : Unit) => True) (fun (u : Unit) => [])) A) ([.int a1, .int a2, .int a3, .int a4, .int a5, .int a6, .int a7] : List Value).toArray s 0 0 A) (F0 m 78 ls []) := by
    intro y78_0  H locs ls hP hD hS hl
    refine lv_iload hx hb dX12_spelt_78 (lv_at hl 0 rfl) ?_
    refine lv_if_le (tgt := 99) hx hb dX12_spelt_80 (by decide) (fun c_63 => ?_) (fun c_63 => ?_)
    · skip
      have o_64 : rl 0 a6 0 := rl_le c_63
      have h_65 : rg (-2147483648) 0 a6 := rl_x o_64 (rga a6) (⟨by decide, by decide⟩ : rg 0 0 (0 : Int32)) (by decide) (by decide)
      exact J99_52 y78_0  H locs ls (oPsub hP [] rfl) (hD.sub [] (by decide) rfl) hS (lv_sub hl [1, 2] rfl)
    · skip
      have o_66 : rl 1 0 a6 := rl_nle c_63
      have h_67 : rg 1 2147483647 a6 := rl_y o_66 (⟨by decide, by decide⟩ : rg 0 0 (0 : Int32)) (rga a6) (by decide) (by decide)
      refine lv_ldc2 (v := 27) hx hb hown k1 dX12_spelt_83 ?_
      refine lv_lload hx hb dX12_spelt_86 (lv_at hl 2 rfl) ?_
      refine lv_lmul hx hb dX12_spelt_88 ?_
      refine lv_topl (fun x_68 ex_68 => ?_)
      refine lv_iload hx hb dX12_spelt_89 (lv_at hl 0 rfl) ?_
      refine lv_i2l hx hb dX12_spelt_91 rfl ?_
      refine lv_topl (fun x_69 ex_69 => ?_)
      refine lv_ladd hx hb dX12_spelt_92 ?_
      refine lv_topl (fun x_70 ex_70 => ?_)
      refine lv_ldc2 (v := 96) hx hb hown k2 dX12_spelt_93 ?_
      refine lv_lsub hx hb dX12_spelt_96 ?_
      refine lv_topl (fun x_71 ex_71 => ?_)
      refine lv_lstore (lv' := [(7, .long x_71), (5, .int a6), (6, .int a7)]) hx hb dX12_spelt_97 hl (by decide) rfl (fun ls hl => ?_)
      exact J99_52 x_71  H locs ls (oPsub hP [] rfl) (hD.sub [] (by decide) rfl) hS (lv_sub hl [2, 0] rfl)
  have J57_72 : ∀ (y57_0 : Int64), ∀ (H : Heap) (locs : List Loc) (ls : Array Slot), va_P D vwCl [] H → va_D A [] → va_S A s.heap H locs → lv_has ls 9 [(4, .int a5), (5, .int a6), (6, .int a7), (7, .long y57_0)] → W p l e ({ frames := 0, cells := 0, slots := 0, locals := 0 } : Room) s m ([.int a1, .int a2, .int a3, .int a4, .int a5, .int a6, .int a7] : List Value).toArray below meth c H locs 0 0 (MQ below ((oQl D (fun (r : Int64) (u : Unit) => True) (fun (u : Unit) => [])) A) ([.int a1, .int a2, .int a3, .int a4, .int a5, .int a6, .int a7] : List Value).toArray s 0 0 A) (F0 m 57 ls []) := by
    intro y57_0  H locs ls hP hD hS hl
    refine lv_iload hx hb dX12_spelt_57 (lv_at hl 0 rfl) ?_
    refine lv_if_le (tgt := 78) hx hb dX12_spelt_59 (by decide) (fun c_73 => ?_) (fun c_73 => ?_)
    · skip
      have o_74 : rl 0 a5 0 := rl_le c_73
      have h_75 : rg (-2147483648) 0 a5 := rl_x o_74 (rga a5) (⟨by decide, by decide⟩ : rg 0 0 (0 : Int32)) (by decide) (by decide)
      exact J78_62 y57_0  H locs ls (oPsub hP [] rfl) (hD.sub [] (by decide) rfl) hS (lv_sub hl [1, 2, 3] rfl)
    · skip
      have o_76 : rl 1 0 a5 := rl_nle c_73
      have h_77 : rg 1 2147483647 a5 := rl_y o_76 (⟨by decide, by decide⟩ : rg 0 0 (0 : Int32)) (rga a5) (by decide) (by decide)
      refine lv_ldc2 (v := 27) hx hb hown k1 dX12_spelt_62 ?_
      refine lv_lload hx hb dX12_spelt_65 (lv_at hl 3 rfl) ?_
      refine lv_lmul hx hb dX12_spelt_67 ?_
      refine lv_topl (fun x_78 ex_78 => ?_)
      refine lv_iload hx hb dX12_spelt_68 (lv_at hl 0 rfl) ?_
      refine lv_i2l hx hb dX12_spelt_70 rfl ?_
      refine lv_topl (fun x_79 ex_79 => ?_)
      refine lv_ladd hx hb dX12_spelt_71 ?_
      refine lv_topl (fun x_80 ex_80 => ?_)
      refine lv_ldc2 (v := 96) hx hb hown k2 dX12_spelt_72 ?_
      refine lv_lsub hx hb dX12_spelt_75 ?_
      refine lv_topl (fun x_81 ex_81 => ?_)
      refine lv_lstore (lv' := [(7, .long x_81), (4, .int a5), (5, .int a6), (6, .int a7)]) hx hb dX12_spelt_76 hl (by decide) rfl (fun ls hl => ?_)
      exact J78_62 x_81  H locs ls (oPsub hP [] rfl) (hD.sub [] (by decide) rfl) hS (lv_sub hl [2, 3, 0] rfl)
  have J38_82 : ∀ (y38_0 : Int64), ∀ (H : Heap) (locs : List Loc) (ls : Array Slot), va_P D vwCl [] H → va_D A [] → va_S A s.heap H locs → lv_has ls 9 [(3, .int a4), (4, .int a5), (5, .int a6), (6, .int a7), (7, .long y38_0)] → W p l e ({ frames := 0, cells := 0, slots := 0, locals := 0 } : Room) s m ([.int a1, .int a2, .int a3, .int a4, .int a5, .int a6, .int a7] : List Value).toArray below meth c H locs 0 0 (MQ below ((oQl D (fun (r : Int64) (u : Unit) => True) (fun (u : Unit) => [])) A) ([.int a1, .int a2, .int a3, .int a4, .int a5, .int a6, .int a7] : List Value).toArray s 0 0 A) (F0 m 38 ls []) := by
    intro y38_0  H locs ls hP hD hS hl
    refine lv_iload_n hx hb dX12_spelt_38 rfl (lv_at hl 0 rfl) ?_
    refine lv_if_le (tgt := 57) hx hb dX12_spelt_39 (by decide) (fun c_83 => ?_) (fun c_83 => ?_)
    · skip
      have o_84 : rl 0 a4 0 := rl_le c_83
      have h_85 : rg (-2147483648) 0 a4 := rl_x o_84 (rga a4) (⟨by decide, by decide⟩ : rg 0 0 (0 : Int32)) (by decide) (by decide)
      exact J57_72 y38_0  H locs ls (oPsub hP [] rfl) (hD.sub [] (by decide) rfl) hS (lv_sub hl [1, 2, 3, 4] rfl)
    · skip
      have o_86 : rl 1 0 a4 := rl_nle c_83
      have h_87 : rg 1 2147483647 a4 := rl_y o_86 (⟨by decide, by decide⟩ : rg 0 0 (0 : Int32)) (rga a4) (by decide) (by decide)
      refine lv_ldc2 (v := 27) hx hb hown k1 dX12_spelt_42 ?_
      refine lv_lload hx hb dX12_spelt_45 (lv_at hl 4 rfl) ?_
      refine lv_lmul hx hb dX12_spelt_47 ?_
      refine lv_topl (fun x_88 ex_88 => ?_)
      refine lv_iload_n hx hb dX12_spelt_48 rfl (lv_at hl 0 rfl) ?_
      refine lv_i2l hx hb dX12_spelt_49 rfl ?_
      refine lv_topl (fun x_89 ex_89 => ?_)
      refine lv_ladd hx hb dX12_spelt_50 ?_
      refine lv_topl (fun x_90 ex_90 => ?_)
      refine lv_ldc2 (v := 96) hx hb hown k2 dX12_spelt_51 ?_
      refine lv_lsub hx hb dX12_spelt_54 ?_
      refine lv_topl (fun x_91 ex_91 => ?_)
      refine lv_lstore (lv' := [(7, .long x_91), (3, .int a4), (4, .int a5), (5, .int a6), (6, .int a7)]) hx hb dX12_spelt_55 hl (by decide) rfl (fun ls hl => ?_)
      exact J57_72 x_91  H locs ls (oPsub hP [] rfl) (hD.sub [] (by decide) rfl) hS (lv_sub hl [2, 3, 4, 0] rfl)
  refine lv_ldc2 (v := 27) hx hb hown k1 dX12_spelt_0 ?_
  refine lv_iload_n hx hb dX12_spelt_3 rfl (lv_at hl 0 rfl) ?_
  refine lv_i2l hx hb dX12_spelt_4 rfl ?_
  refine lv_topl (fun x_92 ex_92 => ?_)
  refine lv_ldc2 (v := 96) hx hb hown k2 dX12_spelt_5 ?_
  refine lv_lsub hx hb dX12_spelt_8 ?_
  refine lv_topl (fun x_93 ex_93 => ?_)
  refine lv_lmul hx hb dX12_spelt_9 ?_
  refine lv_topl (fun x_94 ex_94 => ?_)
  refine lv_iload_n hx hb dX12_spelt_10 rfl (lv_at hl 1 rfl) ?_
  refine lv_i2l hx hb dX12_spelt_11 rfl ?_
  refine lv_topl (fun x_95 ex_95 => ?_)
  refine lv_ladd hx hb dX12_spelt_12 ?_
  refine lv_topl (fun x_96 ex_96 => ?_)
  refine lv_ldc2 (v := 96) hx hb hown k2 dX12_spelt_13 ?_
  refine lv_lsub hx hb dX12_spelt_16 ?_
  refine lv_topl (fun x_97 ex_97 => ?_)
  refine lv_lstore (lv' := [(7, .long x_97), (0, .int a1), (1, .int a2), (2, .int a3), (3, .int a4), (4, .int a5), (5, .int a6), (6, .int a7)]) hx hb dX12_spelt_17 hl (by decide) rfl (fun ls hl => ?_)
  refine lv_iload_n hx hb dX12_spelt_19 rfl (lv_at hl 3 rfl) ?_
  refine lv_if_le (tgt := 38) hx hb dX12_spelt_20 (by decide) (fun c_98 => ?_) (fun c_98 => ?_)
  · skip
    have o_99 : rl 0 a3 0 := rl_le c_98
    have h_100 : rg (-2147483648) 0 a3 := rl_x o_99 (rga a3) (⟨by decide, by decide⟩ : rg 0 0 (0 : Int32)) (by decide) (by decide)
    exact J38_82 x_97  H locs ls (oPsub hP [] rfl) (hD.sub [] (by decide) rfl) hS (lv_sub hl [4, 5, 6, 7, 0] rfl)
  · skip
    have o_101 : rl 1 0 a3 := rl_nle c_98
    have h_102 : rg 1 2147483647 a3 := rl_y o_101 (⟨by decide, by decide⟩ : rg 0 0 (0 : Int32)) (rga a3) (by decide) (by decide)
    refine lv_ldc2 (v := 27) hx hb hown k1 dX12_spelt_23 ?_
    refine lv_lload hx hb dX12_spelt_26 (lv_at hl 0 rfl) ?_
    refine lv_lmul hx hb dX12_spelt_28 ?_
    refine lv_topl (fun x_103 ex_103 => ?_)
    refine lv_iload_n hx hb dX12_spelt_29 rfl (lv_at hl 3 rfl) ?_
    refine lv_i2l hx hb dX12_spelt_30 rfl ?_
    refine lv_topl (fun x_104 ex_104 => ?_)
    refine lv_ladd hx hb dX12_spelt_31 ?_
    refine lv_topl (fun x_105 ex_105 => ?_)
    refine lv_ldc2 (v := 96) hx hb hown k2 dX12_spelt_32 ?_
    refine lv_lsub hx hb dX12_spelt_35 ?_
    refine lv_topl (fun x_106 ex_106 => ?_)
    refine lv_lstore (lv' := [(7, .long x_106), (0, .int a1), (1, .int a2), (2, .int a3), (3, .int a4), (4, .int a5), (5, .int a6), (6, .int a7)]) hx hb dX12_spelt_36 hl (by decide) rfl (fun ls hl => ?_)
    exact J38_82 x_106  H locs ls (oPsub hP [] rfl) (hD.sub [] (by decide) rfl) hS (lv_sub hl [4, 5, 6, 7, 0] rfl)
theorem dX12_wordOf_0 : decode cX12_wordOf 0 = .ok (.iload_n 0, 1) := by decide +kernel
theorem dX12_wordOf_1 : decode cX12_wordOf 1 = .ok (.tableswitch 508 0 24 #[115, 131, 148, 164, 179, 195, 209, 224, 239, 255, 271, 287, 304, 318, 335, 349, 362, 376, 390, 408, 426, 443, 459, 475, 492], 115) := by decide +kernel
theorem dX12_wordOf_305 : decode cX12_wordOf 305 = .ok (.bipush 116, 2) := by decide +kernel
theorem dX12_wordOf_307 : decode cX12_wordOf 307 = .ok (.bipush 114, 2) := by decide +kernel
theorem dX12_wordOf_309 : decode cX12_wordOf 309 = .ok (.bipush 121, 2) := by decide +kernel
theorem dX12_wordOf_311 : decode cX12_wordOf 311 = .ok (.iconst 0, 1) := by decide +kernel
theorem dX12_wordOf_312 : decode cX12_wordOf 312 = .ok (.iconst 0, 1) := by decide +kernel
theorem dX12_wordOf_313 : decode cX12_wordOf 313 = .ok (.iconst 0, 1) := by decide +kernel
theorem dX12_wordOf_314 : decode cX12_wordOf 314 = .ok (.iconst 0, 1) := by decide +kernel
theorem dX12_wordOf_315 : decode cX12_wordOf 315 = .ok (.invokestatic 58, 3) := by decide +kernel
theorem dX12_wordOf_318 : decode cX12_wordOf 318 = .ok (.lreturn, 1) := by decide +kernel
set_option maxRecDepth 20000 in
theorem ggX12_wordOf_X12_spelt : GoodIn wsX12_wordOf wsX12_spelt := goodIn_r _ [4, 5, 6] rfl (by decide +kernel)
set_option maxRecDepth 20000 in
theorem gX12_wordOf_X12_spelt : GoodIn wsX12_wordOf (va_wsS RX12 58 yX12_spelt wsX12_spelt) := goodIn_app (goodIn_of _ (by decide +kernel)) ggX12_wordOf_X12_spelt
set_option maxHeartbeats 4000000 in
set_option maxRecDepth 100000 in
theorem s_X12_wordOf_12 (l : Launch) (D : va_G) (ca : Nat → ClassId) (sz : Nat)   : oMet l yX12_wordOf wsX12_wordOf ({ frames := 1, cells := 0, slots := 0, locals := 28 } : Room) [.int 12] D ca sz [] (oQl D (fun (r : Int64) (u : Unit) => (r = 15091)) (fun (u : Unit) => [])) 0 0 := by
  refine oM (cc := cX12_wordOf) (maxL := 1) (ret := (some .long)) (by decide) rfl (Nat.le_of_ble_eq_true rfl) [(0, .int 12)] rfl ?_
  intro p e s m below meth c A H locs ls hx hb hr hml hts hown hlocks hin hK hP hD hA hS hl
  have hown : s.vm.findClass RX12 = some m.cls := hown
  refine lv_iload_n hx hb dX12_wordOf_0 rfl (lv_at hl 0 rfl) ?_
  refine lv_tableIn (off := 304) (tgt := 305) hx hb dX12_wordOf_1 (by decide) (by decide) (by decide) (by decide) ?_
  refine lv_bipush (v := 116) hx hb dX12_wordOf_305 (by decide) ?_
  refine lv_bipush (v := 114) hx hb dX12_wordOf_307 (by decide) ?_
  refine lv_bipush (v := 121) hx hb dX12_wordOf_309 (by decide) ?_
  refine lv_iconst (v := 0) hx hb dX12_wordOf_311 (by decide) ?_
  refine lv_iconst (v := 0) hx hb dX12_wordOf_312 (by decide) ?_
  refine lv_iconst (v := 0) hx hb dX12_wordOf_313 (by decide) ?_
  refine lv_iconst (v := 0) hx hb dX12_wordOf_314 (by decide) ?_
  refine oC_l (Wc := []) (Wr := []) (va_runS (As := [.int 116, .int 114, .int 121, .int 0, .int 0, .int 0, .int 0]) (rest := []) ⟨hx, hb, hml, hown, hts⟩ (s_X12_spelt_12 l D ca H.size ) (va_cwS 7 hts gX12_wordOf_X12_spelt rfl rfl rfl (by decide +kernel) ⟨Nat.le_of_ble_eq_true rfl, Nat.le_of_ble_eq_true rfl⟩) (oPS hK hP hD [] rfl (by decide)) rfl rfl hl.1 rfl (lv_room (Nat.le_of_ble_eq_true rfl)) dX12_wordOf_315 ⟨Nat.le_of_ble_eq_true rfl, Nat.le_of_ble_eq_true rfl⟩) hP hD hS hA [] [] rfl rfl (by decide) (by decide) (fun r_4 u H locs w_5 hP hD hS => ?_)
  obtain ⟨⟩ := u
  have hP : va_P D vwCl [] H := hP
  have hD : va_D A [] := hD
  try dsimp only at w_5
  have h_6 := w_5
  subst h_6
  exact oE_l hx hb hr hlocks hP hD hS () [] rfl (by decide) rfl (Nat.le_of_ble_eq_true rfl) (Nat.le_of_ble_eq_true rfl) dX12_wordOf_318
theorem dX12_wordOf_319 : decode cX12_wordOf 319 = .ok (.bipush 97, 2) := by decide +kernel
theorem dX12_wordOf_321 : decode cX12_wordOf 321 = .ok (.bipush 112, 2) := by decide +kernel
theorem dX12_wordOf_323 : decode cX12_wordOf 323 = .ok (.bipush 112, 2) := by decide +kernel
theorem dX12_wordOf_325 : decode cX12_wordOf 325 = .ok (.bipush 101, 2) := by decide +kernel
theorem dX12_wordOf_327 : decode cX12_wordOf 327 = .ok (.bipush 97, 2) := by decide +kernel
theorem dX12_wordOf_329 : decode cX12_wordOf 329 = .ok (.bipush 108, 2) := by decide +kernel
theorem dX12_wordOf_331 : decode cX12_wordOf 331 = .ok (.iconst 0, 1) := by decide +kernel
theorem dX12_wordOf_332 : decode cX12_wordOf 332 = .ok (.invokestatic 58, 3) := by decide +kernel
theorem dX12_wordOf_335 : decode cX12_wordOf 335 = .ok (.lreturn, 1) := by decide +kernel
set_option maxHeartbeats 4000000 in
set_option maxRecDepth 100000 in
theorem s_X12_wordOf_13 (l : Launch) (D : va_G) (ca : Nat → ClassId) (sz : Nat)   : oMet l yX12_wordOf wsX12_wordOf ({ frames := 1, cells := 0, slots := 0, locals := 28 } : Room) [.int 13] D ca sz [] (oQl D (fun (r : Int64) (u : Unit) => (r = 23170575)) (fun (u : Unit) => [])) 0 0 := by
  refine oM (cc := cX12_wordOf) (maxL := 1) (ret := (some .long)) (by decide) rfl (Nat.le_of_ble_eq_true rfl) [(0, .int 13)] rfl ?_
  intro p e s m below meth c A H locs ls hx hb hr hml hts hown hlocks hin hK hP hD hA hS hl
  have hown : s.vm.findClass RX12 = some m.cls := hown
  refine lv_iload_n hx hb dX12_wordOf_0 rfl (lv_at hl 0 rfl) ?_
  refine lv_tableIn (off := 318) (tgt := 319) hx hb dX12_wordOf_1 (by decide) (by decide) (by decide) (by decide) ?_
  refine lv_bipush (v := 97) hx hb dX12_wordOf_319 (by decide) ?_
  refine lv_bipush (v := 112) hx hb dX12_wordOf_321 (by decide) ?_
  refine lv_bipush (v := 112) hx hb dX12_wordOf_323 (by decide) ?_
  refine lv_bipush (v := 101) hx hb dX12_wordOf_325 (by decide) ?_
  refine lv_bipush (v := 97) hx hb dX12_wordOf_327 (by decide) ?_
  refine lv_bipush (v := 108) hx hb dX12_wordOf_329 (by decide) ?_
  refine lv_iconst (v := 0) hx hb dX12_wordOf_331 (by decide) ?_
  refine oC_l (Wc := []) (Wr := []) (va_runS (As := [.int 97, .int 112, .int 112, .int 101, .int 97, .int 108, .int 0]) (rest := []) ⟨hx, hb, hml, hown, hts⟩ (s_X12_spelt_13 l D ca H.size ) (va_cwS 7 hts gX12_wordOf_X12_spelt rfl rfl rfl (by decide +kernel) ⟨Nat.le_of_ble_eq_true rfl, Nat.le_of_ble_eq_true rfl⟩) (oPS hK hP hD [] rfl (by decide)) rfl rfl hl.1 rfl (lv_room (Nat.le_of_ble_eq_true rfl)) dX12_wordOf_332 ⟨Nat.le_of_ble_eq_true rfl, Nat.le_of_ble_eq_true rfl⟩) hP hD hS hA [] [] rfl rfl (by decide) (by decide) (fun r_4 u H locs w_5 hP hD hS => ?_)
  obtain ⟨⟩ := u
  have hP : va_P D vwCl [] H := hP
  have hD : va_D A [] := hD
  try dsimp only at w_5
  have h_6 := w_5
  subst h_6
  exact oE_l hx hb hr hlocks hP hD hS () [] rfl (by decide) rfl (Nat.le_of_ble_eq_true rfl) (Nat.le_of_ble_eq_true rfl) dX12_wordOf_335
theorem dX12_wordOf_336 : decode cX12_wordOf 336 = .ok (.bipush 100, 2) := by decide +kernel
theorem dX12_wordOf_338 : decode cX12_wordOf 338 = .ok (.bipush 97, 2) := by decide +kernel
theorem dX12_wordOf_340 : decode cX12_wordOf 340 = .ok (.bipush 121, 2) := by decide +kernel
theorem dX12_wordOf_342 : decode cX12_wordOf 342 = .ok (.iconst 0, 1) := by decide +kernel
theorem dX12_wordOf_343 : decode cX12_wordOf 343 = .ok (.iconst 0, 1) := by decide +kernel
theorem dX12_wordOf_344 : decode cX12_wordOf 344 = .ok (.iconst 0, 1) := by decide +kernel
theorem dX12_wordOf_345 : decode cX12_wordOf 345 = .ok (.iconst 0, 1) := by decide +kernel
theorem dX12_wordOf_346 : decode cX12_wordOf 346 = .ok (.invokestatic 58, 3) := by decide +kernel
theorem dX12_wordOf_349 : decode cX12_wordOf 349 = .ok (.lreturn, 1) := by decide +kernel
set_option maxHeartbeats 4000000 in
set_option maxRecDepth 100000 in
theorem s_X12_wordOf_14 (l : Launch) (D : va_G) (ca : Nat → ClassId) (sz : Nat)   : oMet l yX12_wordOf wsX12_wordOf ({ frames := 1, cells := 0, slots := 0, locals := 28 } : Room) [.int 14] D ca sz [] (oQl D (fun (r : Int64) (u : Unit) => (r = 2968)) (fun (u : Unit) => [])) 0 0 := by
  refine oM (cc := cX12_wordOf) (maxL := 1) (ret := (some .long)) (by decide) rfl (Nat.le_of_ble_eq_true rfl) [(0, .int 14)] rfl ?_
  intro p e s m below meth c A H locs ls hx hb hr hml hts hown hlocks hin hK hP hD hA hS hl
  have hown : s.vm.findClass RX12 = some m.cls := hown
  refine lv_iload_n hx hb dX12_wordOf_0 rfl (lv_at hl 0 rfl) ?_
  refine lv_tableIn (off := 335) (tgt := 336) hx hb dX12_wordOf_1 (by decide) (by decide) (by decide) (by decide) ?_
  refine lv_bipush (v := 100) hx hb dX12_wordOf_336 (by decide) ?_
  refine lv_bipush (v := 97) hx hb dX12_wordOf_338 (by decide) ?_
  refine lv_bipush (v := 121) hx hb dX12_wordOf_340 (by decide) ?_
  refine lv_iconst (v := 0) hx hb dX12_wordOf_342 (by decide) ?_
  refine lv_iconst (v := 0) hx hb dX12_wordOf_343 (by decide) ?_
  refine lv_iconst (v := 0) hx hb dX12_wordOf_344 (by decide) ?_
  refine lv_iconst (v := 0) hx hb dX12_wordOf_345 (by decide) ?_
  refine oC_l (Wc := []) (Wr := []) (va_runS (As := [.int 100, .int 97, .int 121, .int 0, .int 0, .int 0, .int 0]) (rest := []) ⟨hx, hb, hml, hown, hts⟩ (s_X12_spelt_14 l D ca H.size ) (va_cwS 7 hts gX12_wordOf_X12_spelt rfl rfl rfl (by decide +kernel) ⟨Nat.le_of_ble_eq_true rfl, Nat.le_of_ble_eq_true rfl⟩) (oPS hK hP hD [] rfl (by decide)) rfl rfl hl.1 rfl (lv_room (Nat.le_of_ble_eq_true rfl)) dX12_wordOf_346 ⟨Nat.le_of_ble_eq_true rfl, Nat.le_of_ble_eq_true rfl⟩) hP hD hS hA [] [] rfl rfl (by decide) (by decide) (fun r_4 u H locs w_5 hP hD hS => ?_)
  obtain ⟨⟩ := u
  have hP : va_P D vwCl [] H := hP
  have hD : va_D A [] := hD
  try dsimp only at w_5
  have h_6 := w_5
  subst h_6
  exact oE_l hx hb hr hlocks hP hD hS () [] rfl (by decide) rfl (Nat.le_of_ble_eq_true rfl) (Nat.le_of_ble_eq_true rfl) dX12_wordOf_349
theorem dX12_wordOf_116 : decode cX12_wordOf 116 = .ok (.bipush 106, 2) := by decide +kernel
theorem dX12_wordOf_118 : decode cX12_wordOf 118 = .ok (.bipush 117, 2) := by decide +kernel
theorem dX12_wordOf_120 : decode cX12_wordOf 120 = .ok (.bipush 114, 2) := by decide +kernel
theorem dX12_wordOf_122 : decode cX12_wordOf 122 = .ok (.bipush 111, 2) := by decide +kernel
theorem dX12_wordOf_124 : decode cX12_wordOf 124 = .ok (.bipush 114, 2) := by decide +kernel
theorem dX12_wordOf_126 : decode cX12_wordOf 126 = .ok (.iconst 0, 1) := by decide +kernel
theorem dX12_wordOf_127 : decode cX12_wordOf 127 = .ok (.iconst 0, 1) := by decide +kernel
theorem dX12_wordOf_128 : decode cX12_wordOf 128 = .ok (.invokestatic 58, 3) := by decide +kernel
theorem dX12_wordOf_131 : decode cX12_wordOf 131 = .ok (.lreturn, 1) := by decide +kernel
theorem dX12_wordOf_132 : decode cX12_wordOf 132 = .ok (.bipush 115, 2) := by decide +kernel
theorem dX12_wordOf_134 : decode cX12_wordOf 134 = .ok (.bipush 101, 2) := by decide +kernel
theorem dX12_wordOf_136 : decode cX12_wordOf 136 = .ok (.bipush 97, 2) := by decide +kernel
theorem dX12_wordOf_138 : decode cX12_wordOf 138 = .ok (.bipush 116, 2) := by decide +kernel
theorem dX12_wordOf_140 : decode cX12_wordOf 140 = .ok (.bipush 101, 2) := by decide +kernel
theorem dX12_wordOf_142 : decode cX12_wordOf 142 = .ok (.bipush 100, 2) := by decide +kernel
theorem dX12_wordOf_144 : decode cX12_wordOf 144 = .ok (.iconst 0, 1) := by decide +kernel
theorem dX12_wordOf_145 : decode cX12_wordOf 145 = .ok (.invokestatic 58, 3) := by decide +kernel
theorem dX12_wordOf_148 : decode cX12_wordOf 148 = .ok (.lreturn, 1) := by decide +kernel
theorem dX12_wordOf_149 : decode cX12_wordOf 149 = .ok (.bipush 102, 2) := by decide +kernel
theorem dX12_wordOf_151 : decode cX12_wordOf 151 = .ok (.bipush 108, 2) := by decide +kernel
theorem dX12_wordOf_153 : decode cX12_wordOf 153 = .ok (.bipush 111, 2) := by decide +kernel
theorem dX12_wordOf_155 : decode cX12_wordOf 155 = .ok (.bipush 111, 2) := by decide +kernel
theorem dX12_wordOf_157 : decode cX12_wordOf 157 = .ok (.bipush 114, 2) := by decide +kernel
theorem dX12_wordOf_159 : decode cX12_wordOf 159 = .ok (.iconst 0, 1) := by decide +kernel
theorem dX12_wordOf_160 : decode cX12_wordOf 160 = .ok (.iconst 0, 1) := by decide +kernel
theorem dX12_wordOf_161 : decode cX12_wordOf 161 = .ok (.invokestatic 58, 3) := by decide +kernel
theorem dX12_wordOf_164 : decode cX12_wordOf 164 = .ok (.lreturn, 1) := by decide +kernel
theorem dX12_wordOf_165 : decode cX12_wordOf 165 = .ok (.bipush 99, 2) := by decide +kernel
theorem dX12_wordOf_167 : decode cX12_wordOf 167 = .ok (.bipush 97, 2) := by decide +kernel
theorem dX12_wordOf_169 : decode cX12_wordOf 169 = .ok (.bipush 115, 2) := by decide +kernel
theorem dX12_wordOf_171 : decode cX12_wordOf 171 = .ok (.bipush 101, 2) := by decide +kernel
theorem dX12_wordOf_173 : decode cX12_wordOf 173 = .ok (.iconst 0, 1) := by decide +kernel
theorem dX12_wordOf_174 : decode cX12_wordOf 174 = .ok (.iconst 0, 1) := by decide +kernel
theorem dX12_wordOf_175 : decode cX12_wordOf 175 = .ok (.iconst 0, 1) := by decide +kernel
theorem dX12_wordOf_176 : decode cX12_wordOf 176 = .ok (.invokestatic 58, 3) := by decide +kernel
theorem dX12_wordOf_179 : decode cX12_wordOf 179 = .ok (.lreturn, 1) := by decide +kernel
theorem dX12_wordOf_180 : decode cX12_wordOf 180 = .ok (.bipush 116, 2) := by decide +kernel
theorem dX12_wordOf_182 : decode cX12_wordOf 182 = .ok (.bipush 117, 2) := by decide +kernel
theorem dX12_wordOf_184 : decode cX12_wordOf 184 = .ok (.bipush 110, 2) := by decide +kernel
theorem dX12_wordOf_186 : decode cX12_wordOf 186 = .ok (.bipush 101, 2) := by decide +kernel
theorem dX12_wordOf_188 : decode cX12_wordOf 188 = .ok (.bipush 100, 2) := by decide +kernel
theorem dX12_wordOf_190 : decode cX12_wordOf 190 = .ok (.iconst 0, 1) := by decide +kernel
theorem dX12_wordOf_191 : decode cX12_wordOf 191 = .ok (.iconst 0, 1) := by decide +kernel
theorem dX12_wordOf_192 : decode cX12_wordOf 192 = .ok (.invokestatic 58, 3) := by decide +kernel
theorem dX12_wordOf_195 : decode cX12_wordOf 195 = .ok (.lreturn, 1) := by decide +kernel
theorem dX12_wordOf_196 : decode cX12_wordOf 196 = .ok (.bipush 111, 2) := by decide +kernel
theorem dX12_wordOf_198 : decode cX12_wordOf 198 = .ok (.bipush 110, 2) := by decide +kernel
theorem dX12_wordOf_200 : decode cX12_wordOf 200 = .ok (.bipush 101, 2) := by decide +kernel
theorem dX12_wordOf_202 : decode cX12_wordOf 202 = .ok (.iconst 0, 1) := by decide +kernel
theorem dX12_wordOf_203 : decode cX12_wordOf 203 = .ok (.iconst 0, 1) := by decide +kernel
theorem dX12_wordOf_204 : decode cX12_wordOf 204 = .ok (.iconst 0, 1) := by decide +kernel
theorem dX12_wordOf_205 : decode cX12_wordOf 205 = .ok (.iconst 0, 1) := by decide +kernel
theorem dX12_wordOf_206 : decode cX12_wordOf 206 = .ok (.invokestatic 58, 3) := by decide +kernel
theorem dX12_wordOf_209 : decode cX12_wordOf 209 = .ok (.lreturn, 1) := by decide +kernel
theorem dX12_wordOf_210 : decode cX12_wordOf 210 = .ok (.bipush 100, 2) := by decide +kernel
theorem dX12_wordOf_212 : decode cX12_wordOf 212 = .ok (.bipush 101, 2) := by decide +kernel
theorem dX12_wordOf_214 : decode cX12_wordOf 214 = .ok (.bipush 110, 2) := by decide +kernel
theorem dX12_wordOf_216 : decode cX12_wordOf 216 = .ok (.bipush 116, 2) := by decide +kernel
theorem dX12_wordOf_218 : decode cX12_wordOf 218 = .ok (.iconst 0, 1) := by decide +kernel
theorem dX12_wordOf_219 : decode cX12_wordOf 219 = .ok (.iconst 0, 1) := by decide +kernel
theorem dX12_wordOf_220 : decode cX12_wordOf 220 = .ok (.iconst 0, 1) := by decide +kernel
theorem dX12_wordOf_221 : decode cX12_wordOf 221 = .ok (.invokestatic 58, 3) := by decide +kernel
theorem dX12_wordOf_224 : decode cX12_wordOf 224 = .ok (.lreturn, 1) := by decide +kernel
theorem dX12_wordOf_225 : decode cX12_wordOf 225 = .ok (.bipush 115, 2) := by decide +kernel
theorem dX12_wordOf_227 : decode cX12_wordOf 227 = .ok (.bipush 105, 2) := by decide +kernel
theorem dX12_wordOf_229 : decode cX12_wordOf 229 = .ok (.bipush 116, 2) := by decide +kernel
theorem dX12_wordOf_231 : decode cX12_wordOf 231 = .ok (.bipush 115, 2) := by decide +kernel
theorem dX12_wordOf_233 : decode cX12_wordOf 233 = .ok (.iconst 0, 1) := by decide +kernel
theorem dX12_wordOf_234 : decode cX12_wordOf 234 = .ok (.iconst 0, 1) := by decide +kernel
theorem dX12_wordOf_235 : decode cX12_wordOf 235 = .ok (.iconst 0, 1) := by decide +kernel
theorem dX12_wordOf_236 : decode cX12_wordOf 236 = .ok (.invokestatic 58, 3) := by decide +kernel
theorem dX12_wordOf_239 : decode cX12_wordOf 239 = .ok (.lreturn, 1) := by decide +kernel
theorem dX12_wordOf_240 : decode cX12_wordOf 240 = .ok (.bipush 114, 2) := by decide +kernel
theorem dX12_wordOf_242 : decode cX12_wordOf 242 = .ok (.bipush 105, 2) := by decide +kernel
theorem dX12_wordOf_244 : decode cX12_wordOf 244 = .ok (.bipush 115, 2) := by decide +kernel
theorem dX12_wordOf_246 : decode cX12_wordOf 246 = .ok (.bipush 101, 2) := by decide +kernel
theorem dX12_wordOf_248 : decode cX12_wordOf 248 = .ok (.bipush 115, 2) := by decide +kernel
theorem dX12_wordOf_250 : decode cX12_wordOf 250 = .ok (.iconst 0, 1) := by decide +kernel
theorem dX12_wordOf_251 : decode cX12_wordOf 251 = .ok (.iconst 0, 1) := by decide +kernel
theorem dX12_wordOf_252 : decode cX12_wordOf 252 = .ok (.invokestatic 58, 3) := by decide +kernel
theorem dX12_wordOf_255 : decode cX12_wordOf 255 = .ok (.lreturn, 1) := by decide +kernel
theorem dX12_wordOf_256 : decode cX12_wordOf 256 = .ok (.bipush 104, 2) := by decide +kernel
theorem dX12_wordOf_258 : decode cX12_wordOf 258 = .ok (.bipush 111, 2) := by decide +kernel
theorem dX12_wordOf_260 : decode cX12_wordOf 260 = .ok (.bipush 108, 2) := by decide +kernel
theorem dX12_wordOf_262 : decode cX12_wordOf 262 = .ok (.bipush 100, 2) := by decide +kernel
theorem dX12_wordOf_264 : decode cX12_wordOf 264 = .ok (.bipush 115, 2) := by decide +kernel
theorem dX12_wordOf_266 : decode cX12_wordOf 266 = .ok (.iconst 0, 1) := by decide +kernel
theorem dX12_wordOf_267 : decode cX12_wordOf 267 = .ok (.iconst 0, 1) := by decide +kernel
theorem dX12_wordOf_268 : decode cX12_wordOf 268 = .ok (.invokestatic 58, 3) := by decide +kernel
theorem dX12_wordOf_271 : decode cX12_wordOf 271 = .ok (.lreturn, 1) := by decide +kernel
theorem dX12_wordOf_272 : decode cX12_wordOf 272 = .ok (.bipush 100, 2) := by decide +kernel
theorem dX12_wordOf_274 : decode cX12_wordOf 274 = .ok (.bipush 114, 2) := by decide +kernel
theorem dX12_wordOf_276 : decode cX12_wordOf 276 = .ok (.bipush 111, 2) := by decide +kernel
theorem dX12_wordOf_278 : decode cX12_wordOf 278 = .ok (.bipush 112, 2) := by decide +kernel
theorem dX12_wordOf_280 : decode cX12_wordOf 280 = .ok (.bipush 115, 2) := by decide +kernel
theorem dX12_wordOf_282 : decode cX12_wordOf 282 = .ok (.iconst 0, 1) := by decide +kernel
theorem dX12_wordOf_283 : decode cX12_wordOf 283 = .ok (.iconst 0, 1) := by decide +kernel
theorem dX12_wordOf_284 : decode cX12_wordOf 284 = .ok (.invokestatic 58, 3) := by decide +kernel
theorem dX12_wordOf_287 : decode cX12_wordOf 287 = .ok (.lreturn, 1) := by decide +kernel
theorem dX12_wordOf_288 : decode cX12_wordOf 288 = .ok (.bipush 98, 2) := by decide +kernel
theorem dX12_wordOf_290 : decode cX12_wordOf 290 = .ok (.bipush 101, 2) := by decide +kernel
theorem dX12_wordOf_292 : decode cX12_wordOf 292 = .ok (.bipush 97, 2) := by decide +kernel
theorem dX12_wordOf_294 : decode cX12_wordOf 294 = .ok (.bipush 116, 2) := by decide +kernel
theorem dX12_wordOf_296 : decode cX12_wordOf 296 = .ok (.bipush 101, 2) := by decide +kernel
theorem dX12_wordOf_298 : decode cX12_wordOf 298 = .ok (.bipush 110, 2) := by decide +kernel
theorem dX12_wordOf_300 : decode cX12_wordOf 300 = .ok (.iconst 0, 1) := by decide +kernel
theorem dX12_wordOf_301 : decode cX12_wordOf 301 = .ok (.invokestatic 58, 3) := by decide +kernel
theorem dX12_wordOf_304 : decode cX12_wordOf 304 = .ok (.lreturn, 1) := by decide +kernel
theorem dX12_wordOf_350 : decode cX12_wordOf 350 = .ok (.bipush 111, 2) := by decide +kernel
theorem dX12_wordOf_352 : decode cX12_wordOf 352 = .ok (.bipush 114, 2) := by decide +kernel
theorem dX12_wordOf_354 : decode cX12_wordOf 354 = .ok (.iconst 0, 1) := by decide +kernel
theorem dX12_wordOf_355 : decode cX12_wordOf 355 = .ok (.iconst 0, 1) := by decide +kernel
theorem dX12_wordOf_356 : decode cX12_wordOf 356 = .ok (.iconst 0, 1) := by decide +kernel
theorem dX12_wordOf_357 : decode cX12_wordOf 357 = .ok (.iconst 0, 1) := by decide +kernel
theorem dX12_wordOf_358 : decode cX12_wordOf 358 = .ok (.iconst 0, 1) := by decide +kernel
theorem dX12_wordOf_359 : decode cX12_wordOf 359 = .ok (.invokestatic 58, 3) := by decide +kernel
theorem dX12_wordOf_362 : decode cX12_wordOf 362 = .ok (.lreturn, 1) := by decide +kernel
theorem dX12_wordOf_363 : decode cX12_wordOf 363 = .ok (.bipush 97, 2) := by decide +kernel
theorem dX12_wordOf_365 : decode cX12_wordOf 365 = .ok (.bipush 110, 2) := by decide +kernel
theorem dX12_wordOf_367 : decode cX12_wordOf 367 = .ok (.bipush 100, 2) := by decide +kernel
theorem dX12_wordOf_369 : decode cX12_wordOf 369 = .ok (.iconst 0, 1) := by decide +kernel
theorem dX12_wordOf_370 : decode cX12_wordOf 370 = .ok (.iconst 0, 1) := by decide +kernel
theorem dX12_wordOf_371 : decode cX12_wordOf 371 = .ok (.iconst 0, 1) := by decide +kernel
theorem dX12_wordOf_372 : decode cX12_wordOf 372 = .ok (.iconst 0, 1) := by decide +kernel
theorem dX12_wordOf_373 : decode cX12_wordOf 373 = .ok (.invokestatic 58, 3) := by decide +kernel
theorem dX12_wordOf_376 : decode cX12_wordOf 376 = .ok (.lreturn, 1) := by decide +kernel
theorem dX12_wordOf_377 : decode cX12_wordOf 377 = .ok (.bipush 110, 2) := by decide +kernel
theorem dX12_wordOf_379 : decode cX12_wordOf 379 = .ok (.bipush 111, 2) := by decide +kernel
theorem dX12_wordOf_381 : decode cX12_wordOf 381 = .ok (.bipush 116, 2) := by decide +kernel
theorem dX12_wordOf_383 : decode cX12_wordOf 383 = .ok (.iconst 0, 1) := by decide +kernel
theorem dX12_wordOf_384 : decode cX12_wordOf 384 = .ok (.iconst 0, 1) := by decide +kernel
theorem dX12_wordOf_385 : decode cX12_wordOf 385 = .ok (.iconst 0, 1) := by decide +kernel
theorem dX12_wordOf_386 : decode cX12_wordOf 386 = .ok (.iconst 0, 1) := by decide +kernel
theorem dX12_wordOf_387 : decode cX12_wordOf 387 = .ok (.invokestatic 58, 3) := by decide +kernel
theorem dX12_wordOf_390 : decode cX12_wordOf 390 = .ok (.lreturn, 1) := by decide +kernel
theorem dX12_wordOf_391 : decode cX12_wordOf 391 = .ok (.bipush 115, 2) := by decide +kernel
theorem dX12_wordOf_393 : decode cX12_wordOf 393 = .ok (.bipush 105, 2) := by decide +kernel
theorem dX12_wordOf_395 : decode cX12_wordOf 395 = .ok (.bipush 116, 2) := by decide +kernel
theorem dX12_wordOf_397 : decode cX12_wordOf 397 = .ok (.bipush 116, 2) := by decide +kernel
theorem dX12_wordOf_399 : decode cX12_wordOf 399 = .ok (.bipush 105, 2) := by decide +kernel
theorem dX12_wordOf_401 : decode cX12_wordOf 401 = .ok (.bipush 110, 2) := by decide +kernel
theorem dX12_wordOf_403 : decode cX12_wordOf 403 = .ok (.bipush 103, 2) := by decide +kernel
theorem dX12_wordOf_405 : decode cX12_wordOf 405 = .ok (.invokestatic 58, 3) := by decide +kernel
theorem dX12_wordOf_408 : decode cX12_wordOf 408 = .ok (.lreturn, 1) := by decide +kernel
theorem dX12_wordOf_409 : decode cX12_wordOf 409 = .ok (.bipush 104, 2) := by decide +kernel
theorem dX12_wordOf_411 : decode cX12_wordOf 411 = .ok (.bipush 111, 2) := by decide +kernel
theorem dX12_wordOf_413 : decode cX12_wordOf 413 = .ok (.bipush 108, 2) := by decide +kernel
theorem dX12_wordOf_415 : decode cX12_wordOf 415 = .ok (.bipush 100, 2) := by decide +kernel
theorem dX12_wordOf_417 : decode cX12_wordOf 417 = .ok (.bipush 105, 2) := by decide +kernel
theorem dX12_wordOf_419 : decode cX12_wordOf 419 = .ok (.bipush 110, 2) := by decide +kernel
theorem dX12_wordOf_421 : decode cX12_wordOf 421 = .ok (.bipush 103, 2) := by decide +kernel
theorem dX12_wordOf_423 : decode cX12_wordOf 423 = .ok (.invokestatic 58, 3) := by decide +kernel
theorem dX12_wordOf_426 : decode cX12_wordOf 426 = .ok (.lreturn, 1) := by decide +kernel
theorem dX12_wordOf_427 : decode cX12_wordOf 427 = .ok (.bipush 100, 2) := by decide +kernel
theorem dX12_wordOf_429 : decode cX12_wordOf 429 = .ok (.bipush 101, 2) := by decide +kernel
theorem dX12_wordOf_431 : decode cX12_wordOf 431 = .ok (.bipush 110, 2) := by decide +kernel
theorem dX12_wordOf_433 : decode cX12_wordOf 433 = .ok (.bipush 116, 2) := by decide +kernel
theorem dX12_wordOf_435 : decode cX12_wordOf 435 = .ok (.bipush 101, 2) := by decide +kernel
theorem dX12_wordOf_437 : decode cX12_wordOf 437 = .ok (.bipush 100, 2) := by decide +kernel
theorem dX12_wordOf_439 : decode cX12_wordOf 439 = .ok (.iconst 0, 1) := by decide +kernel
theorem dX12_wordOf_440 : decode cX12_wordOf 440 = .ok (.invokestatic 58, 3) := by decide +kernel
theorem dX12_wordOf_443 : decode cX12_wordOf 443 = .ok (.lreturn, 1) := by decide +kernel
theorem dX12_wordOf_444 : decode cX12_wordOf 444 = .ok (.bipush 114, 2) := by decide +kernel
theorem dX12_wordOf_446 : decode cX12_wordOf 446 = .ok (.bipush 105, 2) := by decide +kernel
theorem dX12_wordOf_448 : decode cX12_wordOf 448 = .ok (.bipush 110, 2) := by decide +kernel
theorem dX12_wordOf_450 : decode cX12_wordOf 450 = .ok (.bipush 103, 2) := by decide +kernel
theorem dX12_wordOf_452 : decode cX12_wordOf 452 = .ok (.bipush 115, 2) := by decide +kernel
theorem dX12_wordOf_454 : decode cX12_wordOf 454 = .ok (.iconst 0, 1) := by decide +kernel
theorem dX12_wordOf_455 : decode cX12_wordOf 455 = .ok (.iconst 0, 1) := by decide +kernel
theorem dX12_wordOf_456 : decode cX12_wordOf 456 = .ok (.invokestatic 58, 3) := by decide +kernel
theorem dX12_wordOf_459 : decode cX12_wordOf 459 = .ok (.lreturn, 1) := by decide +kernel
theorem dX12_wordOf_460 : decode cX12_wordOf 460 = .ok (.bipush 112, 2) := by decide +kernel
theorem dX12_wordOf_462 : decode cX12_wordOf 462 = .ok (.bipush 105, 2) := by decide +kernel
theorem dX12_wordOf_464 : decode cX12_wordOf 464 = .ok (.bipush 116, 2) := by decide +kernel
theorem dX12_wordOf_466 : decode cX12_wordOf 466 = .ok (.bipush 99, 2) := by decide +kernel
theorem dX12_wordOf_468 : decode cX12_wordOf 468 = .ok (.bipush 104, 2) := by decide +kernel
theorem dX12_wordOf_470 : decode cX12_wordOf 470 = .ok (.iconst 0, 1) := by decide +kernel
theorem dX12_wordOf_471 : decode cX12_wordOf 471 = .ok (.iconst 0, 1) := by decide +kernel
theorem dX12_wordOf_472 : decode cX12_wordOf 472 = .ok (.invokestatic 58, 3) := by decide +kernel
theorem dX12_wordOf_475 : decode cX12_wordOf 475 = .ok (.lreturn, 1) := by decide +kernel
theorem dX12_wordOf_476 : decode cX12_wordOf 476 = .ok (.bipush 108, 2) := by decide +kernel
theorem dX12_wordOf_478 : decode cX12_wordOf 478 = .ok (.bipush 101, 2) := by decide +kernel
theorem dX12_wordOf_480 : decode cX12_wordOf 480 = .ok (.bipush 110, 2) := by decide +kernel
theorem dX12_wordOf_482 : decode cX12_wordOf 482 = .ok (.bipush 103, 2) := by decide +kernel
theorem dX12_wordOf_484 : decode cX12_wordOf 484 = .ok (.bipush 116, 2) := by decide +kernel
theorem dX12_wordOf_486 : decode cX12_wordOf 486 = .ok (.bipush 104, 2) := by decide +kernel
theorem dX12_wordOf_488 : decode cX12_wordOf 488 = .ok (.iconst 0, 1) := by decide +kernel
theorem dX12_wordOf_489 : decode cX12_wordOf 489 = .ok (.invokestatic 58, 3) := by decide +kernel
theorem dX12_wordOf_492 : decode cX12_wordOf 492 = .ok (.lreturn, 1) := by decide +kernel
theorem dX12_wordOf_493 : decode cX12_wordOf 493 = .ok (.bipush 100, 2) := by decide +kernel
theorem dX12_wordOf_495 : decode cX12_wordOf 495 = .ok (.bipush 101, 2) := by decide +kernel
theorem dX12_wordOf_497 : decode cX12_wordOf 497 = .ok (.bipush 110, 2) := by decide +kernel
theorem dX12_wordOf_499 : decode cX12_wordOf 499 = .ok (.bipush 116, 2) := by decide +kernel
theorem dX12_wordOf_501 : decode cX12_wordOf 501 = .ok (.bipush 115, 2) := by decide +kernel
theorem dX12_wordOf_503 : decode cX12_wordOf 503 = .ok (.iconst 0, 1) := by decide +kernel
theorem dX12_wordOf_504 : decode cX12_wordOf 504 = .ok (.iconst 0, 1) := by decide +kernel
theorem dX12_wordOf_505 : decode cX12_wordOf 505 = .ok (.invokestatic 58, 3) := by decide +kernel
theorem dX12_wordOf_508 : decode cX12_wordOf 508 = .ok (.lreturn, 1) := by decide +kernel
theorem dX12_wordOf_509 : decode cX12_wordOf 509 = .ok (.bipush 110, 2) := by decide +kernel
theorem dX12_wordOf_511 : decode cX12_wordOf 511 = .ok (.bipush 117, 2) := by decide +kernel
theorem dX12_wordOf_513 : decode cX12_wordOf 513 = .ok (.bipush 109, 2) := by decide +kernel
theorem dX12_wordOf_515 : decode cX12_wordOf 515 = .ok (.bipush 98, 2) := by decide +kernel
theorem dX12_wordOf_517 : decode cX12_wordOf 517 = .ok (.bipush 101, 2) := by decide +kernel
theorem dX12_wordOf_519 : decode cX12_wordOf 519 = .ok (.bipush 114, 2) := by decide +kernel
theorem dX12_wordOf_521 : decode cX12_wordOf 521 = .ok (.iconst 0, 1) := by decide +kernel
theorem dX12_wordOf_522 : decode cX12_wordOf 522 = .ok (.invokestatic 58, 3) := by decide +kernel
theorem dX12_wordOf_525 : decode cX12_wordOf 525 = .ok (.lreturn, 1) := by decide +kernel
set_option maxHeartbeats 4000000 in
set_option maxRecDepth 100000 in
theorem s_X12_wordOf (l : Launch) (D : va_G) (ca : Nat → ClassId) (sz : Nat) (a1 : Int32)  : oMet l yX12_wordOf wsX12_wordOf ({ frames := 1, cells := 0, slots := 0, locals := 28 } : Room) [.int a1] D ca sz [] (oQl D (fun (r : Int64) (u : Unit) => True) (fun (u : Unit) => [])) 0 0 := by
  refine oM (cc := cX12_wordOf) (maxL := 1) (ret := (some .long)) (by decide) rfl (Nat.le_of_ble_eq_true rfl) [(0, .int a1)] rfl ?_
  intro p e s m below meth c A H locs ls hx hb hr hml hts hown hlocks hin hK hP hD hA hS hl
  have hown : s.vm.findClass RX12 = some m.cls := hown
  refine lv_iload_n hx hb dX12_wordOf_0 rfl (lv_at hl 0 rfl) ?_
  by_cases c_81 : a1 = 0
  · skip
    refine oti 0 c_81 ?_
    refine lv_tableIn (off := 115) (tgt := 116) hx hb dX12_wordOf_1 (by decide) (by decide) (by decide) (by decide) ?_
    refine lv_bipush (v := 106) hx hb dX12_wordOf_116 (by decide) ?_
    refine lv_bipush (v := 117) hx hb dX12_wordOf_118 (by decide) ?_
    refine lv_bipush (v := 114) hx hb dX12_wordOf_120 (by decide) ?_
    refine lv_bipush (v := 111) hx hb dX12_wordOf_122 (by decide) ?_
    refine lv_bipush (v := 114) hx hb dX12_wordOf_124 (by decide) ?_
    refine lv_iconst (v := 0) hx hb dX12_wordOf_126 (by decide) ?_
    refine lv_iconst (v := 0) hx hb dX12_wordOf_127 (by decide) ?_
    refine oC_l (Wc := []) (Wr := []) (va_runS (As := [.int 106, .int 117, .int 114, .int 111, .int 114, .int 0, .int 0]) (rest := []) ⟨hx, hb, hml, hown, hts⟩ (s_X12_spelt l D ca H.size 106 117 114 111 114 0 0) (va_cwS 7 hts gX12_wordOf_X12_spelt rfl rfl rfl (by decide +kernel) ⟨Nat.le_of_ble_eq_true rfl, Nat.le_of_ble_eq_true rfl⟩) (oPS hK hP hD [] rfl (by decide)) rfl rfl hl.1 rfl (lv_room (Nat.le_of_ble_eq_true rfl)) dX12_wordOf_128 ⟨Nat.le_of_ble_eq_true rfl, Nat.le_of_ble_eq_true rfl⟩) hP hD hS hA [] [] rfl rfl (by decide) (by decide) (fun r_82 u H locs w_83 hP hD hS => ?_)
    obtain ⟨⟩ := u
    have hP : va_P D vwCl [] H := hP
    have hD : va_D A [] := hD
    try dsimp only at w_83
    exact oE_l hx hb hr hlocks hP hD hS () [] rfl (by decide) trivial (Nat.le_of_ble_eq_true rfl) (Nat.le_of_ble_eq_true rfl) dX12_wordOf_131
  by_cases c_84 : a1 = 1
  · skip
    refine oti 1 c_84 ?_
    refine lv_tableIn (off := 131) (tgt := 132) hx hb dX12_wordOf_1 (by decide) (by decide) (by decide) (by decide) ?_
    refine lv_bipush (v := 115) hx hb dX12_wordOf_132 (by decide) ?_
    refine lv_bipush (v := 101) hx hb dX12_wordOf_134 (by decide) ?_
    refine lv_bipush (v := 97) hx hb dX12_wordOf_136 (by decide) ?_
    refine lv_bipush (v := 116) hx hb dX12_wordOf_138 (by decide) ?_
    refine lv_bipush (v := 101) hx hb dX12_wordOf_140 (by decide) ?_
    refine lv_bipush (v := 100) hx hb dX12_wordOf_142 (by decide) ?_
    refine lv_iconst (v := 0) hx hb dX12_wordOf_144 (by decide) ?_
    refine oC_l (Wc := []) (Wr := []) (va_runS (As := [.int 115, .int 101, .int 97, .int 116, .int 101, .int 100, .int 0]) (rest := []) ⟨hx, hb, hml, hown, hts⟩ (s_X12_spelt l D ca H.size 115 101 97 116 101 100 0) (va_cwS 7 hts gX12_wordOf_X12_spelt rfl rfl rfl (by decide +kernel) ⟨Nat.le_of_ble_eq_true rfl, Nat.le_of_ble_eq_true rfl⟩) (oPS hK hP hD [] rfl (by decide)) rfl rfl hl.1 rfl (lv_room (Nat.le_of_ble_eq_true rfl)) dX12_wordOf_145 ⟨Nat.le_of_ble_eq_true rfl, Nat.le_of_ble_eq_true rfl⟩) hP hD hS hA [] [] rfl rfl (by decide) (by decide) (fun r_85 u H locs w_86 hP hD hS => ?_)
    obtain ⟨⟩ := u
    have hP : va_P D vwCl [] H := hP
    have hD : va_D A [] := hD
    try dsimp only at w_86
    exact oE_l hx hb hr hlocks hP hD hS () [] rfl (by decide) trivial (Nat.le_of_ble_eq_true rfl) (Nat.le_of_ble_eq_true rfl) dX12_wordOf_148
  by_cases c_87 : a1 = 2
  · skip
    refine oti 2 c_87 ?_
    refine lv_tableIn (off := 148) (tgt := 149) hx hb dX12_wordOf_1 (by decide) (by decide) (by decide) (by decide) ?_
    refine lv_bipush (v := 102) hx hb dX12_wordOf_149 (by decide) ?_
    refine lv_bipush (v := 108) hx hb dX12_wordOf_151 (by decide) ?_
    refine lv_bipush (v := 111) hx hb dX12_wordOf_153 (by decide) ?_
    refine lv_bipush (v := 111) hx hb dX12_wordOf_155 (by decide) ?_
    refine lv_bipush (v := 114) hx hb dX12_wordOf_157 (by decide) ?_
    refine lv_iconst (v := 0) hx hb dX12_wordOf_159 (by decide) ?_
    refine lv_iconst (v := 0) hx hb dX12_wordOf_160 (by decide) ?_
    refine oC_l (Wc := []) (Wr := []) (va_runS (As := [.int 102, .int 108, .int 111, .int 111, .int 114, .int 0, .int 0]) (rest := []) ⟨hx, hb, hml, hown, hts⟩ (s_X12_spelt l D ca H.size 102 108 111 111 114 0 0) (va_cwS 7 hts gX12_wordOf_X12_spelt rfl rfl rfl (by decide +kernel) ⟨Nat.le_of_ble_eq_true rfl, Nat.le_of_ble_eq_true rfl⟩) (oPS hK hP hD [] rfl (by decide)) rfl rfl hl.1 rfl (lv_room (Nat.le_of_ble_eq_true rfl)) dX12_wordOf_161 ⟨Nat.le_of_ble_eq_true rfl, Nat.le_of_ble_eq_true rfl⟩) hP hD hS hA [] [] rfl rfl (by decide) (by decide) (fun r_88 u H locs w_89 hP hD hS => ?_)
    obtain ⟨⟩ := u
    have hP : va_P D vwCl [] H := hP
    have hD : va_D A [] := hD
    try dsimp only at w_89
    exact oE_l hx hb hr hlocks hP hD hS () [] rfl (by decide) trivial (Nat.le_of_ble_eq_true rfl) (Nat.le_of_ble_eq_true rfl) dX12_wordOf_164
  by_cases c_90 : a1 = 3
  · skip
    refine oti 3 c_90 ?_
    refine lv_tableIn (off := 164) (tgt := 165) hx hb dX12_wordOf_1 (by decide) (by decide) (by decide) (by decide) ?_
    refine lv_bipush (v := 99) hx hb dX12_wordOf_165 (by decide) ?_
    refine lv_bipush (v := 97) hx hb dX12_wordOf_167 (by decide) ?_
    refine lv_bipush (v := 115) hx hb dX12_wordOf_169 (by decide) ?_
    refine lv_bipush (v := 101) hx hb dX12_wordOf_171 (by decide) ?_
    refine lv_iconst (v := 0) hx hb dX12_wordOf_173 (by decide) ?_
    refine lv_iconst (v := 0) hx hb dX12_wordOf_174 (by decide) ?_
    refine lv_iconst (v := 0) hx hb dX12_wordOf_175 (by decide) ?_
    refine oC_l (Wc := []) (Wr := []) (va_runS (As := [.int 99, .int 97, .int 115, .int 101, .int 0, .int 0, .int 0]) (rest := []) ⟨hx, hb, hml, hown, hts⟩ (s_X12_spelt l D ca H.size 99 97 115 101 0 0 0) (va_cwS 7 hts gX12_wordOf_X12_spelt rfl rfl rfl (by decide +kernel) ⟨Nat.le_of_ble_eq_true rfl, Nat.le_of_ble_eq_true rfl⟩) (oPS hK hP hD [] rfl (by decide)) rfl rfl hl.1 rfl (lv_room (Nat.le_of_ble_eq_true rfl)) dX12_wordOf_176 ⟨Nat.le_of_ble_eq_true rfl, Nat.le_of_ble_eq_true rfl⟩) hP hD hS hA [] [] rfl rfl (by decide) (by decide) (fun r_91 u H locs w_92 hP hD hS => ?_)
    obtain ⟨⟩ := u
    have hP : va_P D vwCl [] H := hP
    have hD : va_D A [] := hD
    try dsimp only at w_92
    exact oE_l hx hb hr hlocks hP hD hS () [] rfl (by decide) trivial (Nat.le_of_ble_eq_true rfl) (Nat.le_of_ble_eq_true rfl) dX12_wordOf_179
  by_cases c_93 : a1 = 4
  · skip
    refine oti 4 c_93 ?_
    refine lv_tableIn (off := 179) (tgt := 180) hx hb dX12_wordOf_1 (by decide) (by decide) (by decide) (by decide) ?_
    refine lv_bipush (v := 116) hx hb dX12_wordOf_180 (by decide) ?_
    refine lv_bipush (v := 117) hx hb dX12_wordOf_182 (by decide) ?_
    refine lv_bipush (v := 110) hx hb dX12_wordOf_184 (by decide) ?_
    refine lv_bipush (v := 101) hx hb dX12_wordOf_186 (by decide) ?_
    refine lv_bipush (v := 100) hx hb dX12_wordOf_188 (by decide) ?_
    refine lv_iconst (v := 0) hx hb dX12_wordOf_190 (by decide) ?_
    refine lv_iconst (v := 0) hx hb dX12_wordOf_191 (by decide) ?_
    refine oC_l (Wc := []) (Wr := []) (va_runS (As := [.int 116, .int 117, .int 110, .int 101, .int 100, .int 0, .int 0]) (rest := []) ⟨hx, hb, hml, hown, hts⟩ (s_X12_spelt l D ca H.size 116 117 110 101 100 0 0) (va_cwS 7 hts gX12_wordOf_X12_spelt rfl rfl rfl (by decide +kernel) ⟨Nat.le_of_ble_eq_true rfl, Nat.le_of_ble_eq_true rfl⟩) (oPS hK hP hD [] rfl (by decide)) rfl rfl hl.1 rfl (lv_room (Nat.le_of_ble_eq_true rfl)) dX12_wordOf_192 ⟨Nat.le_of_ble_eq_true rfl, Nat.le_of_ble_eq_true rfl⟩) hP hD hS hA [] [] rfl rfl (by decide) (by decide) (fun r_94 u H locs w_95 hP hD hS => ?_)
    obtain ⟨⟩ := u
    have hP : va_P D vwCl [] H := hP
    have hD : va_D A [] := hD
    try dsimp only at w_95
    exact oE_l hx hb hr hlocks hP hD hS () [] rfl (by decide) trivial (Nat.le_of_ble_eq_true rfl) (Nat.le_of_ble_eq_true rfl) dX12_wordOf_195
  by_cases c_96 : a1 = 5
  · skip
    refine oti 5 c_96 ?_
    refine lv_tableIn (off := 195) (tgt := 196) hx hb dX12_wordOf_1 (by decide) (by decide) (by decide) (by decide) ?_
    refine lv_bipush (v := 111) hx hb dX12_wordOf_196 (by decide) ?_
    refine lv_bipush (v := 110) hx hb dX12_wordOf_198 (by decide) ?_
    refine lv_bipush (v := 101) hx hb dX12_wordOf_200 (by decide) ?_
    refine lv_iconst (v := 0) hx hb dX12_wordOf_202 (by decide) ?_
    refine lv_iconst (v := 0) hx hb dX12_wordOf_203 (by decide) ?_
    refine lv_iconst (v := 0) hx hb dX12_wordOf_204 (by decide) ?_
    refine lv_iconst (v := 0) hx hb dX12_wordOf_205 (by decide) ?_
    refine oC_l (Wc := []) (Wr := []) (va_runS (As := [.int 111, .int 110, .int 101, .int 0, .int 0, .int 0, .int 0]) (rest := []) ⟨hx, hb, hml, hown, hts⟩ (s_X12_spelt l D ca H.size 111 110 101 0 0 0 0) (va_cwS 7 hts gX12_wordOf_X12_spelt rfl rfl rfl (by decide +kernel) ⟨Nat.le_of_ble_eq_true rfl, Nat.le_of_ble_eq_true rfl⟩) (oPS hK hP hD [] rfl (by decide)) rfl rfl hl.1 rfl (lv_room (Nat.le_of_ble_eq_true rfl)) dX12_wordOf_206 ⟨Nat.le_of_ble_eq_true rfl, Nat.le_of_ble_eq_true rfl⟩) hP hD hS hA [] [] rfl rfl (by decide) (by decide) (fun r_97 u H locs w_98 hP hD hS => ?_)
    obtain ⟨⟩ := u
    have hP : va_P D vwCl [] H := hP
    have hD : va_D A [] := hD
    try dsimp only at w_98
    exact oE_l hx hb hr hlocks hP hD hS () [] rfl (by decide) trivial (Nat.le_of_ble_eq_true rfl) (Nat.le_of_ble_eq_true rfl) dX12_wordOf_209
  by_cases c_99 : a1 = 6
  · skip
    refine oti 6 c_99 ?_
    refine lv_tableIn (off := 209) (tgt := 210) hx hb dX12_wordOf_1 (by decide) (by decide) (by decide) (by decide) ?_
    refine lv_bipush (v := 100) hx hb dX12_wordOf_210 (by decide) ?_
    refine lv_bipush (v := 101) hx hb dX12_wordOf_212 (by decide) ?_
    refine lv_bipush (v := 110) hx hb dX12_wordOf_214 (by decide) ?_
    refine lv_bipush (v := 116) hx hb dX12_wordOf_216 (by decide) ?_
    refine lv_iconst (v := 0) hx hb dX12_wordOf_218 (by decide) ?_
    refine lv_iconst (v := 0) hx hb dX12_wordOf_219 (by decide) ?_
    refine lv_iconst (v := 0) hx hb dX12_wordOf_220 (by decide) ?_
    refine oC_l (Wc := []) (Wr := []) (va_runS (As := [.int 100, .int 101, .int 110, .int 116, .int 0, .int 0, .int 0]) (rest := []) ⟨hx, hb, hml, hown, hts⟩ (s_X12_spelt l D ca H.size 100 101 110 116 0 0 0) (va_cwS 7 hts gX12_wordOf_X12_spelt rfl rfl rfl (by decide +kernel) ⟨Nat.le_of_ble_eq_true rfl, Nat.le_of_ble_eq_true rfl⟩) (oPS hK hP hD [] rfl (by decide)) rfl rfl hl.1 rfl (lv_room (Nat.le_of_ble_eq_true rfl)) dX12_wordOf_221 ⟨Nat.le_of_ble_eq_true rfl, Nat.le_of_ble_eq_true rfl⟩) hP hD hS hA [] [] rfl rfl (by decide) (by decide) (fun r_100 u H locs w_101 hP hD hS => ?_)
    obtain ⟨⟩ := u
    have hP : va_P D vwCl [] H := hP
    have hD : va_D A [] := hD
    try dsimp only at w_101
    exact oE_l hx hb hr hlocks hP hD hS () [] rfl (by decide) trivial (Nat.le_of_ble_eq_true rfl) (Nat.le_of_ble_eq_true rfl) dX12_wordOf_224
  by_cases c_102 : a1 = 7
  · skip
    refine oti 7 c_102 ?_
    refine lv_tableIn (off := 224) (tgt := 225) hx hb dX12_wordOf_1 (by decide) (by decide) (by decide) (by decide) ?_
    refine lv_bipush (v := 115) hx hb dX12_wordOf_225 (by decide) ?_
    refine lv_bipush (v := 105) hx hb dX12_wordOf_227 (by decide) ?_
    refine lv_bipush (v := 116) hx hb dX12_wordOf_229 (by decide) ?_
    refine lv_bipush (v := 115) hx hb dX12_wordOf_231 (by decide) ?_
    refine lv_iconst (v := 0) hx hb dX12_wordOf_233 (by decide) ?_
    refine lv_iconst (v := 0) hx hb dX12_wordOf_234 (by decide) ?_
    refine lv_iconst (v := 0) hx hb dX12_wordOf_235 (by decide) ?_
    refine oC_l (Wc := []) (Wr := []) (va_runS (As := [.int 115, .int 105, .int 116, .int 115, .int 0, .int 0, .int 0]) (rest := []) ⟨hx, hb, hml, hown, hts⟩ (s_X12_spelt l D ca H.size 115 105 116 115 0 0 0) (va_cwS 7 hts gX12_wordOf_X12_spelt rfl rfl rfl (by decide +kernel) ⟨Nat.le_of_ble_eq_true rfl, Nat.le_of_ble_eq_true rfl⟩) (oPS hK hP hD [] rfl (by decide)) rfl rfl hl.1 rfl (lv_room (Nat.le_of_ble_eq_true rfl)) dX12_wordOf_236 ⟨Nat.le_of_ble_eq_true rfl, Nat.le_of_ble_eq_true rfl⟩) hP hD hS hA [] [] rfl rfl (by decide) (by decide) (fun r_103 u H locs w_104 hP hD hS => ?_)
    obtain ⟨⟩ := u
    have hP : va_P D vwCl [] H := hP
    have hD : va_D A [] := hD
    try dsimp only at w_104
    exact oE_l hx hb hr hlocks hP hD hS () [] rfl (by decide) trivial (Nat.le_of_ble_eq_true rfl) (Nat.le_of_ble_eq_true rfl) dX12_wordOf_239
  by_cases c_105 : a1 = 8
  · skip
    refine oti 8 c_105 ?_
    refine lv_tableIn (off := 239) (tgt := 240) hx hb dX12_wordOf_1 (by decide) (by decide) (by decide) (by decide) ?_
    refine lv_bipush (v := 114) hx hb dX12_wordOf_240 (by decide) ?_
    refine lv_bipush (v := 105) hx hb dX12_wordOf_242 (by decide) ?_
    refine lv_bipush (v := 115) hx hb dX12_wordOf_244 (by decide) ?_
    refine lv_bipush (v := 101) hx hb dX12_wordOf_246 (by decide) ?_
    refine lv_bipush (v := 115) hx hb dX12_wordOf_248 (by decide) ?_
    refine lv_iconst (v := 0) hx hb dX12_wordOf_250 (by decide) ?_
    refine lv_iconst (v := 0) hx hb dX12_wordOf_251 (by decide) ?_
    refine oC_l (Wc := []) (Wr := []) (va_runS (As := [.int 114, .int 105, .int 115, .int 101, .int 115, .int 0, .int 0]) (rest := []) ⟨hx, hb, hml, hown, hts⟩ (s_X12_spelt l D ca H.size 114 105 115 101 115 0 0) (va_cwS 7 hts gX12_wordOf_X12_spelt rfl rfl rfl (by decide +kernel) ⟨Nat.le_of_ble_eq_true rfl, Nat.le_of_ble_eq_true rfl⟩) (oPS hK hP hD [] rfl (by decide)) rfl rfl hl.1 rfl (lv_room (Nat.le_of_ble_eq_true rfl)) dX12_wordOf_252 ⟨Nat.le_of_ble_eq_true rfl, Nat.le_of_ble_eq_true rfl⟩) hP hD hS hA [] [] rfl rfl (by decide) (by decide) (fun r_106 u H locs w_107 hP hD hS => ?_)
    obtain ⟨⟩ := u
    have hP : va_P D vwCl [] H := hP
    have hD : va_D A [] := hD
    try dsimp only at w_107
    exact oE_l hx hb hr hlocks hP hD hS () [] rfl (by decide) trivial (Nat.le_of_ble_eq_true rfl) (Nat.le_of_ble_eq_true rfl) dX12_wordOf_255
  by_cases c_108 : a1 = 9
  · skip
    refine oti 9 c_108 ?_
    refine lv_tableIn (off := 255) (tgt := 256) hx hb dX12_wordOf_1 (by decide) (by decide) (by decide) (by decide) ?_
    refine lv_bipush (v := 104) hx hb dX12_wordOf_256 (by decide) ?_
    refine lv_bipush (v := 111) hx hb dX12_wordOf_258 (by decide) ?_
    refine lv_bipush (v := 108) hx hb dX12_wordOf_260 (by decide) ?_
    refine lv_bipush (v := 100) hx hb dX12_wordOf_262 (by decide) ?_
    refine lv_bipush (v := 115) hx hb dX12_wordOf_264 (by decide) ?_
    refine lv_iconst (v := 0) hx hb dX12_wordOf_266 (by decide) ?_
    refine lv_iconst (v := 0) hx hb dX12_wordOf_267 (by decide) ?_
    refine oC_l (Wc := []) (Wr := []) (va_runS (As := [.int 104, .int 111, .int 108, .int 100, .int 115, .int 0, .int 0]) (rest := []) ⟨hx, hb, hml, hown, hts⟩ (s_X12_spelt l D ca H.size 104 111 108 100 115 0 0) (va_cwS 7 hts gX12_wordOf_X12_spelt rfl rfl rfl (by decide +kernel) ⟨Nat.le_of_ble_eq_true rfl, Nat.le_of_ble_eq_true rfl⟩) (oPS hK hP hD [] rfl (by decide)) rfl rfl hl.1 rfl (lv_room (Nat.le_of_ble_eq_true rfl)) dX12_wordOf_268 ⟨Nat.le_of_ble_eq_true rfl, Nat.le_of_ble_eq_true rfl⟩) hP hD hS hA [] [] rfl rfl (by decide) (by decide) (fun r_109 u H locs w_110 hP hD hS => ?_)
    obtain ⟨⟩ := u
    have hP : va_P D vwCl [] H := hP
    have hD : va_D A [] := hD
    try dsimp only at w_110
    exact oE_l hx hb hr hlocks hP hD hS () [] rfl (by decide) trivial (Nat.le_of_ble_eq_true rfl) (Nat.le_of_ble_eq_true rfl) dX12_wordOf_271
  by_cases c_111 : a1 = 10
  · skip
    refine oti 10 c_111 ?_
    refine lv_tableIn (off := 271) (tgt := 272) hx hb dX12_wordOf_1 (by decide) (by decide) (by decide) (by decide) ?_
    refine lv_bipush (v := 100) hx hb dX12_wordOf_272 (by decide) ?_
    refine lv_bipush (v := 114) hx hb dX12_wordOf_274 (by decide) ?_
    refine lv_bipush (v := 111) hx hb dX12_wordOf_276 (by decide) ?_
    refine lv_bipush (v := 112) hx hb dX12_wordOf_278 (by decide) ?_
    refine lv_bipush (v := 115) hx hb dX12_wordOf_280 (by decide) ?_
    refine lv_iconst (v := 0) hx hb dX12_wordOf_282 (by decide) ?_
    refine lv_iconst (v := 0) hx hb dX12_wordOf_283 (by decide) ?_
    refine oC_l (Wc := []) (Wr := []) (va_runS (As := [.int 100, .int 114, .int 111, .int 112, .int 115, .int 0, .int 0]) (rest := []) ⟨hx, hb, hml, hown, hts⟩ (s_X12_spelt l D ca H.size 100 114 111 112 115 0 0) (va_cwS 7 hts gX12_wordOf_X12_spelt rfl rfl rfl (by decide +kernel) ⟨Nat.le_of_ble_eq_true rfl, Nat.le_of_ble_eq_true rfl⟩) (oPS hK hP hD [] rfl (by decide)) rfl rfl hl.1 rfl (lv_room (Nat.le_of_ble_eq_true rfl)) dX12_wordOf_284 ⟨Nat.le_of_ble_eq_true rfl, Nat.le_of_ble_eq_true rfl⟩) hP hD hS hA [] [] rfl rfl (by decide) (by decide) (fun r_112 u H locs w_113 hP hD hS => ?_)
    obtain ⟨⟩ := u
    have hP : va_P D vwCl [] H := hP
    have hD : va_D A [] := hD
    try dsimp only at w_113
    exact oE_l hx hb hr hlocks hP hD hS () [] rfl (by decide) trivial (Nat.le_of_ble_eq_true rfl) (Nat.le_of_ble_eq_true rfl) dX12_wordOf_287
  by_cases c_114 : a1 = 11
  · skip
    refine oti 11 c_114 ?_
    refine lv_tableIn (off := 287) (tgt := 288) hx hb dX12_wordOf_1 (by decide) (by decide) (by decide) (by decide) ?_
    refine lv_bipush (v := 98) hx hb dX12_wordOf_288 (by decide) ?_
    refine lv_bipush (v := 101) hx hb dX12_wordOf_290 (by decide) ?_
    refine lv_bipush (v := 97) hx hb dX12_wordOf_292 (by decide) ?_
    refine lv_bipush (v := 116) hx hb dX12_wordOf_294 (by decide) ?_
    refine lv_bipush (v := 101) hx hb dX12_wordOf_296 (by decide) ?_
    refine lv_bipush (v := 110) hx hb dX12_wordOf_298 (by decide) ?_
    refine lv_iconst (v := 0) hx hb dX12_wordOf_300 (by decide) ?_
    refine oC_l (Wc := []) (Wr := []) (va_runS (As := [.int 98, .int 101, .int 97, .int 116, .int 101, .int 110, .int 0]) (rest := []) ⟨hx, hb, hml, hown, hts⟩ (s_X12_spelt l D ca H.size 98 101 97 116 101 110 0) (va_cwS 7 hts gX12_wordOf_X12_spelt rfl rfl rfl (by decide +kernel) ⟨Nat.le_of_ble_eq_true rfl, Nat.le_of_ble_eq_true rfl⟩) (oPS hK hP hD [] rfl (by decide)) rfl rfl hl.1 rfl (lv_room (Nat.le_of_ble_eq_true rfl)) dX12_wordOf_301 ⟨Nat.le_of_ble_eq_true rfl, Nat.le_of_ble_eq_true rfl⟩) hP hD hS hA [] [] rfl rfl (by decide) (by decide) (fun r_115 u H locs w_116 hP hD hS => ?_)
    obtain ⟨⟩ := u
    have hP : va_P D vwCl [] H := hP
    have hD : va_D A [] := hD
    try dsimp only at w_116
    exact oE_l hx hb hr hlocks hP hD hS () [] rfl (by decide) trivial (Nat.le_of_ble_eq_true rfl) (Nat.le_of_ble_eq_true rfl) dX12_wordOf_304
  by_cases c_117 : a1 = 12
  · skip
    refine oti 12 c_117 ?_
    refine lv_tableIn (off := 304) (tgt := 305) hx hb dX12_wordOf_1 (by decide) (by decide) (by decide) (by decide) ?_
    refine lv_bipush (v := 116) hx hb dX12_wordOf_305 (by decide) ?_
    refine lv_bipush (v := 114) hx hb dX12_wordOf_307 (by decide) ?_
    refine lv_bipush (v := 121) hx hb dX12_wordOf_309 (by decide) ?_
    refine lv_iconst (v := 0) hx hb dX12_wordOf_311 (by decide) ?_
    refine lv_iconst (v := 0) hx hb dX12_wordOf_312 (by decide) ?_
    refine lv_iconst (v := 0) hx hb dX12_wordOf_313 (by decide) ?_
    refine lv_iconst (v := 0) hx hb dX12_wordOf_314 (by decide) ?_
    refine oC_l (Wc := []) (Wr := []) (va_runS (As := [.int 116, .int 114, .int 121, .int 0, .int 0, .int 0, .int 0]) (rest := []) ⟨hx, hb, hml, hown, hts⟩ (s_X12_spelt_12 l D ca H.size ) (va_cwS 7 hts gX12_wordOf_X12_spelt rfl rfl rfl (by decide +kernel) ⟨Nat.le_of_ble_eq_true rfl, Nat.le_of_ble_eq_true rfl⟩) (oPS hK hP hD [] rfl (by decide)) rfl rfl hl.1 rfl (lv_room (Nat.le_of_ble_eq_true rfl)) dX12_wordOf_315 ⟨Nat.le_of_ble_eq_true rfl, Nat.le_of_ble_eq_true rfl⟩) hP hD hS hA [] [] rfl rfl (by decide) (by decide) (fun r_118 u H locs w_119 hP hD hS => ?_)
    obtain ⟨⟩ := u
    have hP : va_P D vwCl [] H := hP
    have hD : va_D A [] := hD
    try dsimp only at w_119
    have h_120 := w_119
    subst h_120
    exact oE_l hx hb hr hlocks hP hD hS () [] rfl (by decide) trivial (Nat.le_of_ble_eq_true rfl) (Nat.le_of_ble_eq_true rfl) dX12_wordOf_318
  by_cases c_121 : a1 = 13
  · skip
    refine oti 13 c_121 ?_
    refine lv_tableIn (off := 318) (tgt := 319) hx hb dX12_wordOf_1 (by decide) (by decide) (by decide) (by decide) ?_
    refine lv_bipush (v := 97) hx hb dX12_wordOf_319 (by decide) ?_
    refine lv_bipush (v := 112) hx hb dX12_wordOf_321 (by decide) ?_
    refine lv_bipush (v := 112) hx hb dX12_wordOf_323 (by decide) ?_
    refine lv_bipush (v := 101) hx hb dX12_wordOf_325 (by decide) ?_
    refine lv_bipush (v := 97) hx hb dX12_wordOf_327 (by decide) ?_
    refine lv_bipush (v := 108) hx hb dX12_wordOf_329 (by decide) ?_
    refine lv_iconst (v := 0) hx hb dX12_wordOf_331 (by decide) ?_
    refine oC_l (Wc := []) (Wr := []) (va_runS (As := [.int 97, .int 112, .int 112, .int 101, .int 97, .int 108, .int 0]) (rest := []) ⟨hx, hb, hml, hown, hts⟩ (s_X12_spelt_13 l D ca H.size ) (va_cwS 7 hts gX12_wordOf_X12_spelt rfl rfl rfl (by decide +kernel) ⟨Nat.le_of_ble_eq_true rfl, Nat.le_of_ble_eq_true rfl⟩) (oPS hK hP hD [] rfl (by decide)) rfl rfl hl.1 rfl (lv_room (Nat.le_of_ble_eq_true rfl)) dX12_wordOf_332 ⟨Nat.le_of_ble_eq_true rfl, Nat.le_of_ble_eq_true rfl⟩) hP hD hS hA [] [] rfl rfl (by decide) (by decide) (fun r_122 u H locs w_123 hP hD hS => ?_)
    obtain ⟨⟩ := u
    have hP : va_P D vwCl [] H := hP
    have hD : va_D A [] := hD
    try dsimp only at w_123
    have h_124 := w_123
    subst h_124
    exact oE_l hx hb hr hlocks hP hD hS () [] rfl (by decide) trivial (Nat.le_of_ble_eq_true rfl) (Nat.le_of_ble_eq_true rfl) dX12_wordOf_335
  by_cases c_125 : a1 = 14
  · skip
    refine oti 14 c_125 ?_
    refine lv_tableIn (off := 335) (tgt := 336) hx hb dX12_wordOf_1 (by decide) (by decide) (by decide) (by decide) ?_
    refine lv_bipush (v := 100) hx hb dX12_wordOf_336 (by decide) ?_
    refine lv_bipush (v := 97) hx hb dX12_wordOf_338 (by decide) ?_
    refine lv_bipush (v := 121) hx hb dX12_wordOf_340 (by decide) ?_
    refine lv_iconst (v := 0) hx hb dX12_wordOf_342 (by decide) ?_
    refine lv_iconst (v := 0) hx hb dX12_wordOf_343 (by decide) ?_
    refine lv_iconst (v := 0) hx hb dX12_wordOf_344 (by decide) ?_
    refine lv_iconst (v := 0) hx hb dX12_wordOf_345 (by decide) ?_
    refine oC_l (Wc := []) (Wr := []) (va_runS (As := [.int 100, .int 97, .int 121, .int 0, .int 0, .int 0, .int 0]) (rest := []) ⟨hx, hb, hml, hown, hts⟩ (s_X12_spelt_14 l D ca H.size ) (va_cwS 7 hts gX12_wordOf_X12_spelt rfl rfl rfl (by decide +kernel) ⟨Nat.le_of_ble_eq_true rfl, Nat.le_of_ble_eq_true rfl⟩) (oPS hK hP hD [] rfl (by decide)) rfl rfl hl.1 rfl (lv_room (Nat.le_of_ble_eq_true rfl)) dX12_wordOf_346 ⟨Nat.le_of_ble_eq_true rfl, Nat.le_of_ble_eq_true rfl⟩) hP hD hS hA [] [] rfl rfl (by decide) (by decide) (fun r_126 u H locs w_127 hP hD hS => ?_)
    obtain ⟨⟩ := u
    have hP : va_P D vwCl [] H := hP
    have hD : va_D A [] := hD
    try dsimp only at w_127
    have h_128 := w_127
    subst h_128
    exact oE_l hx hb hr hlocks hP hD hS () [] rfl (by decide) trivial (Nat.le_of_ble_eq_true rfl) (Nat.le_of_ble_eq_true rfl) dX12_wordOf_349
  by_cases c_129 : a1 = 15
  · skip
    refine oti 15 c_129 ?_
    refine lv_tableIn (off := 349) (tgt := 350) hx hb dX12_wordOf_1 (by decide) (by decide) (by decide) (by decide) ?_
    refine lv_bipush (v := 111) hx hb dX12_wordOf_350 (by decide) ?_
    refine lv_bipush (v := 114) hx hb dX12_wordOf_352 (by decide) ?_
    refine lv_iconst (v := 0) hx hb dX12_wordOf_354 (by decide) ?_
    refine lv_iconst (v := 0) hx hb dX12_wordOf_355 (by decide) ?_
    refine lv_iconst (v := 0) hx hb dX12_wordOf_356 (by decide) ?_
    refine lv_iconst (v := 0) hx hb dX12_wordOf_357 (by decide) ?_
    refine lv_iconst (v := 0) hx hb dX12_wordOf_358 (by decide) ?_
    refine oC_l (Wc := []) (Wr := []) (va_runS (As := [.int 111, .int 114, .int 0, .int 0, .int 0, .int 0, .int 0]) (rest := []) ⟨hx, hb, hml, hown, hts⟩ (s_X12_spelt l D ca H.size 111 114 0 0 0 0 0) (va_cwS 7 hts gX12_wordOf_X12_spelt rfl rfl rfl (by decide +kernel) ⟨Nat.le_of_ble_eq_true rfl, Nat.le_of_ble_eq_true rfl⟩) (oPS hK hP hD [] rfl (by decide)) rfl rfl hl.1 rfl (lv_room (Nat.le_of_ble_eq_true rfl)) dX12_wordOf_359 ⟨Nat.le_of_ble_eq_true rfl, Nat.le_of_ble_eq_true rfl⟩) hP hD hS hA [] [] rfl rfl (by decide) (by decide) (fun r_130 u H locs w_131 hP hD hS => ?_)
    obtain ⟨⟩ := u
    have hP : va_P D vwCl [] H := hP
    have hD : va_D A [] := hD
    try dsimp only at w_131
    exact oE_l hx hb hr hlocks hP hD hS () [] rfl (by decide) trivial (Nat.le_of_ble_eq_true rfl) (Nat.le_of_ble_eq_true rfl) dX12_wordOf_362
  by_cases c_132 : a1 = 16
  · skip
    refine oti 16 c_132 ?_
    refine lv_tableIn (off := 362) (tgt := 363) hx hb dX12_wordOf_1 (by decide) (by decide) (by decide) (by decide) ?_
    refine lv_bipush (v := 97) hx hb dX12_wordOf_363 (by decide) ?_
    refine lv_bipush (v := 110) hx hb dX12_wordOf_365 (by decide) ?_
    refine lv_bipush (v := 100) hx hb dX12_wordOf_367 (by decide) ?_
    refine lv_iconst (v := 0) hx hb dX12_wordOf_369 (by decide) ?_
    refine lv_iconst (v := 0) hx hb dX12_wordOf_370 (by decide) ?_
    refine lv_iconst (v := 0) hx hb dX12_wordOf_371 (by decide) ?_
    refine lv_iconst (v := 0) hx hb dX12_wordOf_372 (by decide) ?_
    refine oC_l (Wc := []) (Wr := []) (va_runS (As := [.int 97, .int 110, .int 100, .int 0, .int 0, .int 0, .int 0]) (rest := []) ⟨hx, hb, hml, hown, hts⟩ (s_X12_spelt l D ca H.size 97 110 100 0 0 0 0) (va_cwS 7 hts gX12_wordOf_X12_spelt rfl rfl rfl (by decide +kernel) ⟨Nat.le_of_ble_eq_true rfl, Nat.le_of_ble_eq_true rfl⟩) (oPS hK hP hD [] rfl (by decide)) rfl rfl hl.1 rfl (lv_room (Nat.le_of_ble_eq_true rfl)) dX12_wordOf_373 ⟨Nat.le_of_ble_eq_true rfl, Nat.le_of_ble_eq_true rfl⟩) hP hD hS hA [] [] rfl rfl (by decide) (by decide) (fun r_133 u H locs w_134 hP hD hS => ?_)
    obtain ⟨⟩ := u
    have hP : va_P D vwCl [] H := hP
    have hD : va_D A [] := hD
    try dsimp only at w_134
    exact oE_l hx hb hr hlocks hP hD hS () [] rfl (by decide) trivial (Nat.le_of_ble_eq_true rfl) (Nat.le_of_ble_eq_true rfl) dX12_wordOf_376
  by_cases c_135 : a1 = 17
  · skip
    refine oti 17 c_135 ?_
    refine lv_tableIn (off := 376) (tgt := 377) hx hb dX12_wordOf_1 (by decide) (by decide) (by decide) (by decide) ?_
    refine lv_bipush (v := 110) hx hb dX12_wordOf_377 (by decide) ?_
    refine lv_bipush (v := 111) hx hb dX12_wordOf_379 (by decide) ?_
    refine lv_bipush (v := 116) hx hb dX12_wordOf_381 (by decide) ?_
    refine lv_iconst (v := 0) hx hb dX12_wordOf_383 (by decide) ?_
    refine lv_iconst (v := 0) hx hb dX12_wordOf_384 (by decide) ?_
    refine lv_iconst (v := 0) hx hb dX12_wordOf_385 (by decide) ?_
    refine lv_iconst (v := 0) hx hb dX12_wordOf_386 (by decide) ?_
    refine oC_l (Wc := []) (Wr := []) (va_runS (As := [.int 110, .int 111, .int 116, .int 0, .int 0, .int 0, .int 0]) (rest := []) ⟨hx, hb, hml, hown, hts⟩ (s_X12_spelt l D ca H.size 110 111 116 0 0 0 0) (va_cwS 7 hts gX12_wordOf_X12_spelt rfl rfl rfl (by decide +kernel) ⟨Nat.le_of_ble_eq_true rfl, Nat.le_of_ble_eq_true rfl⟩) (oPS hK hP hD [] rfl (by decide)) rfl rfl hl.1 rfl (lv_room (Nat.le_of_ble_eq_true rfl)) dX12_wordOf_387 ⟨Nat.le_of_ble_eq_true rfl, Nat.le_of_ble_eq_true rfl⟩) hP hD hS hA [] [] rfl rfl (by decide) (by decide) (fun r_136 u H locs w_137 hP hD hS => ?_)
    obtain ⟨⟩ := u
    have hP : va_P D vwCl [] H := hP
    have hD : va_D A [] := hD
    try dsimp only at w_137
    exact oE_l hx hb hr hlocks hP hD hS () [] rfl (by decide) trivial (Nat.le_of_ble_eq_true rfl) (Nat.le_of_ble_eq_true rfl) dX12_wordOf_390
  by_cases c_138 : a1 = 18
  · skip
    refine oti 18 c_138 ?_
    refine lv_tableIn (off := 390) (tgt := 391) hx hb dX12_wordOf_1 (by decide) (by decide) (by decide) (by decide) ?_
    refine lv_bipush (v := 115) hx hb dX12_wordOf_391 (by decide) ?_
    refine lv_bipush (v := 105) hx hb dX12_wordOf_393 (by decide) ?_
    refine lv_bipush (v := 116) hx hb dX12_wordOf_395 (by decide) ?_
    refine lv_bipush (v := 116) hx hb dX12_wordOf_397 (by decide) ?_
    refine lv_bipush (v := 105) hx hb dX12_wordOf_399 (by decide) ?_
    refine lv_bipush (v := 110) hx hb dX12_wordOf_401 (by decide) ?_
    refine lv_bipush (v := 103) hx hb dX12_wordOf_403 (by decide) ?_
    refine oC_l (Wc := []) (Wr := []) (va_runS (As := [.int 115, .int 105, .int 116, .int 116, .int 105, .int 110, .int 103]) (rest := []) ⟨hx, hb, hml, hown, hts⟩ (s_X12_spelt l D ca H.size 115 105 116 116 105 110 103) (va_cwS 7 hts gX12_wordOf_X12_spelt rfl rfl rfl (by decide +kernel) ⟨Nat.le_of_ble_eq_true rfl, Nat.le_of_ble_eq_true rfl⟩) (oPS hK hP hD [] rfl (by decide)) rfl rfl hl.1 rfl (lv_room (Nat.le_of_ble_eq_true rfl)) dX12_wordOf_405 ⟨Nat.le_of_ble_eq_true rfl, Nat.le_of_ble_eq_true rfl⟩) hP hD hS hA [] [] rfl rfl (by decide) (by decide) (fun r_139 u H locs w_140 hP hD hS => ?_)
    obtain ⟨⟩ := u
    have hP : va_P D vwCl [] H := hP
    have hD : va_D A [] := hD
    try dsimp only at w_140
    exact oE_l hx hb hr hlocks hP hD hS () [] rfl (by decide) trivial (Nat.le_of_ble_eq_true rfl) (Nat.le_of_ble_eq_true rfl) dX12_wordOf_408
  by_cases c_141 : a1 = 19
  · skip
    refine oti 19 c_141 ?_
    refine lv_tableIn (off := 408) (tgt := 409) hx hb dX12_wordOf_1 (by decide) (by decide) (by decide) (by decide) ?_
    refine lv_bipush (v := 104) hx hb dX12_wordOf_409 (by decide) ?_
    refine lv_bipush (v := 111) hx hb dX12_wordOf_411 (by decide) ?_
    refine lv_bipush (v := 108) hx hb dX12_wordOf_413 (by decide) ?_
    refine lv_bipush (v := 100) hx hb dX12_wordOf_415 (by decide) ?_
    refine lv_bipush (v := 105) hx hb dX12_wordOf_417 (by decide) ?_
    refine lv_bipush (v := 110) hx hb dX12_wordOf_419 (by decide) ?_
    refine lv_bipush (v := 103) hx hb dX12_wordOf_421 (by decide) ?_
    refine oC_l (Wc := []) (Wr := []) (va_runS (As := [.int 104, .int 111, .int 108, .int 100, .int 105, .int 110, .int 103]) (rest := []) ⟨hx, hb, hml, hown, hts⟩ (s_X12_spelt l D ca H.size 104 111 108 100 105 110 103) (va_cwS 7 hts gX12_wordOf_X12_spelt rfl rfl rfl (by decide +kernel) ⟨Nat.le_of_ble_eq_true rfl, Nat.le_of_ble_eq_true rfl⟩) (oPS hK hP hD [] rfl (by decide)) rfl rfl hl.1 rfl (lv_room (Nat.le_of_ble_eq_true rfl)) dX12_wordOf_423 ⟨Nat.le_of_ble_eq_true rfl, Nat.le_of_ble_eq_true rfl⟩) hP hD hS hA [] [] rfl rfl (by decide) (by decide) (fun r_142 u H locs w_143 hP hD hS => ?_)
    obtain ⟨⟩ := u
    have hP : va_P D vwCl [] H := hP
    have hD : va_D A [] := hD
    try dsimp only at w_143
    exact oE_l hx hb hr hlocks hP hD hS () [] rfl (by decide) trivial (Nat.le_of_ble_eq_true rfl) (Nat.le_of_ble_eq_true rfl) dX12_wordOf_426
  by_cases c_144 : a1 = 20
  · skip
    refine oti 20 c_144 ?_
    refine lv_tableIn (off := 426) (tgt := 427) hx hb dX12_wordOf_1 (by decide) (by decide) (by decide) (by decide) ?_
    refine lv_bipush (v := 100) hx hb dX12_wordOf_427 (by decide) ?_
    refine lv_bipush (v := 101) hx hb dX12_wordOf_429 (by decide) ?_
    refine lv_bipush (v := 110) hx hb dX12_wordOf_431 (by decide) ?_
    refine lv_bipush (v := 116) hx hb dX12_wordOf_433 (by decide) ?_
    refine lv_bipush (v := 101) hx hb dX12_wordOf_435 (by decide) ?_
    refine lv_bipush (v := 100) hx hb dX12_wordOf_437 (by decide) ?_
    refine lv_iconst (v := 0) hx hb dX12_wordOf_439 (by decide) ?_
    refine oC_l (Wc := []) (Wr := []) (va_runS (As := [.int 100, .int 101, .int 110, .int 116, .int 101, .int 100, .int 0]) (rest := []) ⟨hx, hb, hml, hown, hts⟩ (s_X12_spelt l D ca H.size 100 101 110 116 101 100 0) (va_cwS 7 hts gX12_wordOf_X12_spelt rfl rfl rfl (by decide +kernel) ⟨Nat.le_of_ble_eq_true rfl, Nat.le_of_ble_eq_true rfl⟩) (oPS hK hP hD [] rfl (by decide)) rfl rfl hl.1 rfl (lv_room (Nat.le_of_ble_eq_true rfl)) dX12_wordOf_440 ⟨Nat.le_of_ble_eq_true rfl, Nat.le_of_ble_eq_true rfl⟩) hP hD hS hA [] [] rfl rfl (by decide) (by decide) (fun r_145 u H locs w_146 hP hD hS => ?_)
    obtain ⟨⟩ := u
    have hP : va_P D vwCl [] H := hP
    have hD : va_D A [] := hD
    try dsimp only at w_146
    exact oE_l hx hb hr hlocks hP hD hS () [] rfl (by decide) trivial (Nat.le_of_ble_eq_true rfl) (Nat.le_of_ble_eq_true rfl) dX12_wordOf_443
  by_cases c_147 : a1 = 21
  · skip
    refine oti 21 c_147 ?_
    refine lv_tableIn (off := 443) (tgt := 444) hx hb dX12_wordOf_1 (by decide) (by decide) (by decide) (by decide) ?_
    refine lv_bipush (v := 114) hx hb dX12_wordOf_444 (by decide) ?_
    refine lv_bipush (v := 105) hx hb dX12_wordOf_446 (by decide) ?_
    refine lv_bipush (v := 110) hx hb dX12_wordOf_448 (by decide) ?_
    refine lv_bipush (v := 103) hx hb dX12_wordOf_450 (by decide) ?_
    refine lv_bipush (v := 115) hx hb dX12_wordOf_452 (by decide) ?_
    refine lv_iconst (v := 0) hx hb dX12_wordOf_454 (by decide) ?_
    refine lv_iconst (v := 0) hx hb dX12_wordOf_455 (by decide) ?_
    refine oC_l (Wc := []) (Wr := []) (va_runS (As := [.int 114, .int 105, .int 110, .int 103, .int 115, .int 0, .int 0]) (rest := []) ⟨hx, hb, hml, hown, hts⟩ (s_X12_spelt l D ca H.size 114 105 110 103 115 0 0) (va_cwS 7 hts gX12_wordOf_X12_spelt rfl rfl rfl (by decide +kernel) ⟨Nat.le_of_ble_eq_true rfl, Nat.le_of_ble_eq_true rfl⟩) (oPS hK hP hD [] rfl (by decide)) rfl rfl hl.1 rfl (lv_room (Nat.le_of_ble_eq_true rfl)) dX12_wordOf_456 ⟨Nat.le_of_ble_eq_true rfl, Nat.le_of_ble_eq_true rfl⟩) hP hD hS hA [] [] rfl rfl (by decide) (by decide) (fun r_148 u H locs w_149 hP hD hS => ?_)
    obtain ⟨⟩ := u
    have hP : va_P D vwCl [] H := hP
    have hD : va_D A [] := hD
    try dsimp only at w_149
    exact oE_l hx hb hr hlocks hP hD hS () [] rfl (by decide) trivial (Nat.le_of_ble_eq_true rfl) (Nat.le_of_ble_eq_true rfl) dX12_wordOf_459
  by_cases c_150 : a1 = 22
  · skip
    refine oti 22 c_150 ?_
    refine lv_tableIn (off := 459) (tgt := 460) hx hb dX12_wordOf_1 (by decide) (by decide) (by decide) (by decide) ?_
    refine lv_bipush (v := 112) hx hb dX12_wordOf_460 (by decide) ?_
    refine lv_bipush (v := 105) hx hb dX12_wordOf_462 (by decide) ?_
    refine lv_bipush (v := 116) hx hb dX12_wordOf_464 (by decide) ?_
    refine lv_bipush (v := 99) hx hb dX12_wordOf_466 (by decide) ?_
    refine lv_bipush (v := 104) hx hb dX12_wordOf_468 (by decide) ?_
    refine lv_iconst (v := 0) hx hb dX12_wordOf_470 (by decide) ?_
    refine lv_iconst (v := 0) hx hb dX12_wordOf_471 (by decide) ?_
    refine oC_l (Wc := []) (Wr := []) (va_runS (As := [.int 112, .int 105, .int 116, .int 99, .int 104, .int 0, .int 0]) (rest := []) ⟨hx, hb, hml, hown, hts⟩ (s_X12_spelt l D ca H.size 112 105 116 99 104 0 0) (va_cwS 7 hts gX12_wordOf_X12_spelt rfl rfl rfl (by decide +kernel) ⟨Nat.le_of_ble_eq_true rfl, Nat.le_of_ble_eq_true rfl⟩) (oPS hK hP hD [] rfl (by decide)) rfl rfl hl.1 rfl (lv_room (Nat.le_of_ble_eq_true rfl)) dX12_wordOf_472 ⟨Nat.le_of_ble_eq_true rfl, Nat.le_of_ble_eq_true rfl⟩) hP hD hS hA [] [] rfl rfl (by decide) (by decide) (fun r_151 u H locs w_152 hP hD hS => ?_)
    obtain ⟨⟩ := u
    have hP : va_P D vwCl [] H := hP
    have hD : va_D A [] := hD
    try dsimp only at w_152
    exact oE_l hx hb hr hlocks hP hD hS () [] rfl (by decide) trivial (Nat.le_of_ble_eq_true rfl) (Nat.le_of_ble_eq_true rfl) dX12_wordOf_475
  by_cases c_153 : a1 = 23
  · skip
    refine oti 23 c_153 ?_
    refine lv_tableIn (off := 475) (tgt := 476) hx hb dX12_wordOf_1 (by decide) (by decide) (by decide) (by decide) ?_
    refine lv_bipush (v := 108) hx hb dX12_wordOf_476 (by decide) ?_
    refine lv_bipush (v := 101) hx hb dX12_wordOf_478 (by decide) ?_
    refine lv_bipush (v := 110) hx hb dX12_wordOf_480 (by decide) ?_
    refine lv_bipush (v := 103) hx hb dX12_wordOf_482 (by decide) ?_
    refine lv_bipush (v := 116) hx hb dX12_wordOf_484 (by decide) ?_
    refine lv_bipush (v := 104) hx hb dX12_wordOf_486 (by decide) ?_
    refine lv_iconst (v := 0) hx hb dX12_wordOf_488 (by decide) ?_
    refine oC_l (Wc := []) (Wr := []) (va_runS (As := [.int 108, .int 101, .int 110, .int 103, .int 116, .int 104, .int 0]) (rest := []) ⟨hx, hb, hml, hown, hts⟩ (s_X12_spelt l D ca H.size 108 101 110 103 116 104 0) (va_cwS 7 hts gX12_wordOf_X12_spelt rfl rfl rfl (by decide +kernel) ⟨Nat.le_of_ble_eq_true rfl, Nat.le_of_ble_eq_true rfl⟩) (oPS hK hP hD [] rfl (by decide)) rfl rfl hl.1 rfl (lv_room (Nat.le_of_ble_eq_true rfl)) dX12_wordOf_489 ⟨Nat.le_of_ble_eq_true rfl, Nat.le_of_ble_eq_true rfl⟩) hP hD hS hA [] [] rfl rfl (by decide) (by decide) (fun r_154 u H locs w_155 hP hD hS => ?_)
    obtain ⟨⟩ := u
    have hP : va_P D vwCl [] H := hP
    have hD : va_D A [] := hD
    try dsimp only at w_155
    exact oE_l hx hb hr hlocks hP hD hS () [] rfl (by decide) trivial (Nat.le_of_ble_eq_true rfl) (Nat.le_of_ble_eq_true rfl) dX12_wordOf_492
  by_cases c_156 : a1 = 24
  · skip
    refine oti 24 c_156 ?_
    refine lv_tableIn (off := 492) (tgt := 493) hx hb dX12_wordOf_1 (by decide) (by decide) (by decide) (by decide) ?_
    refine lv_bipush (v := 100) hx hb dX12_wordOf_493 (by decide) ?_
    refine lv_bipush (v := 101) hx hb dX12_wordOf_495 (by decide) ?_
    refine lv_bipush (v := 110) hx hb dX12_wordOf_497 (by decide) ?_
    refine lv_bipush (v := 116) hx hb dX12_wordOf_499 (by decide) ?_
    refine lv_bipush (v := 115) hx hb dX12_wordOf_501 (by decide) ?_
    refine lv_iconst (v := 0) hx hb dX12_wordOf_503 (by decide) ?_
    refine lv_iconst (v := 0) hx hb dX12_wordOf_504 (by decide) ?_
    refine oC_l (Wc := []) (Wr := []) (va_runS (As := [.int 100, .int 101, .int 110, .int 116, .int 115, .int 0, .int 0]) (rest := []) ⟨hx, hb, hml, hown, hts⟩ (s_X12_spelt l D ca H.size 100 101 110 116 115 0 0) (va_cwS 7 hts gX12_wordOf_X12_spelt rfl rfl rfl (by decide +kernel) ⟨Nat.le_of_ble_eq_true rfl, Nat.le_of_ble_eq_true rfl⟩) (oPS hK hP hD [] rfl (by decide)) rfl rfl hl.1 rfl (lv_room (Nat.le_of_ble_eq_true rfl)) dX12_wordOf_505 ⟨Nat.le_of_ble_eq_true rfl, Nat.le_of_ble_eq_true rfl⟩) hP hD hS hA [] [] rfl rfl (by decide) (by decide) (fun r_157 u H locs w_158 hP hD hS => ?_)
    obtain ⟨⟩ := u
    have hP : va_P D vwCl [] H := hP
    have hD : va_D A [] := hD
    try dsimp only at w_158
    exact oE_l hx hb hr hlocks hP hD hS () [] rfl (by decide) trivial (Nat.le_of_ble_eq_true rfl) (Nat.le_of_ble_eq_true rfl) dX12_wordOf_508
  have t0 := lv_neT c_81 (show (0 : Int32).toInt = 0 by decide)
  have t1 := lv_neT c_84 (show (1 : Int32).toInt = 1 by decide)
  have t2 := lv_neT c_87 (show (2 : Int32).toInt = 2 by decide)
  have t3 := lv_neT c_90 (show (3 : Int32).toInt = 3 by decide)
  have t4 := lv_neT c_93 (show (4 : Int32).toInt = 4 by decide)
  have t5 := lv_neT c_96 (show (5 : Int32).toInt = 5 by decide)
  have t6 := lv_neT c_99 (show (6 : Int32).toInt = 6 by decide)
  have t7 := lv_neT c_102 (show (7 : Int32).toInt = 7 by decide)
  have t8 := lv_neT c_105 (show (8 : Int32).toInt = 8 by decide)
  have t9 := lv_neT c_108 (show (9 : Int32).toInt = 9 by decide)
  have t10 := lv_neT c_111 (show (10 : Int32).toInt = 10 by decide)
  have t11 := lv_neT c_114 (show (11 : Int32).toInt = 11 by decide)
  have t12 := lv_neT c_117 (show (12 : Int32).toInt = 12 by decide)
  have t13 := lv_neT c_121 (show (13 : Int32).toInt = 13 by decide)
  have t14 := lv_neT c_125 (show (14 : Int32).toInt = 14 by decide)
  have t15 := lv_neT c_129 (show (15 : Int32).toInt = 15 by decide)
  have t16 := lv_neT c_132 (show (16 : Int32).toInt = 16 by decide)
  have t17 := lv_neT c_135 (show (17 : Int32).toInt = 17 by decide)
  have t18 := lv_neT c_138 (show (18 : Int32).toInt = 18 by decide)
  have t19 := lv_neT c_141 (show (19 : Int32).toInt = 19 by decide)
  have t20 := lv_neT c_144 (show (20 : Int32).toInt = 20 by decide)
  have t21 := lv_neT c_147 (show (21 : Int32).toInt = 21 by decide)
  have t22 := lv_neT c_150 (show (22 : Int32).toInt = 22 by decide)
  have t23 := lv_neT c_153 (show (23 : Int32).toInt = 23 by decide)
  have t24 := lv_neT c_156 (show (24 : Int32).toInt = 24 by decide)
  have t97 := ((rga a1)).1
  have t98 := ((rga a1)).2
  refine lv_tableOut (tgt := 509) hx hb dX12_wordOf_1 (by omega) (by decide) ?_
  refine lv_bipush (v := 110) hx hb dX12_wordOf_509 (by decide) ?_
  refine lv_bipush (v := 117) hx hb dX12_wordOf_511 (by decide) ?_
  refine lv_bipush (v := 109) hx hb dX12_wordOf_513 (by decide) ?_
  refine lv_bipush (v := 98) hx hb dX12_wordOf_515 (by decide) ?_
  refine lv_bipush (v := 101) hx hb dX12_wordOf_517 (by decide) ?_
  refine lv_bipush (v := 114) hx hb dX12_wordOf_519 (by decide) ?_
  refine lv_iconst (v := 0) hx hb dX12_wordOf_521 (by decide) ?_
  refine oC_l (Wc := []) (Wr := []) (va_runS (As := [.int 110, .int 117, .int 109, .int 98, .int 101, .int 114, .int 0]) (rest := []) ⟨hx, hb, hml, hown, hts⟩ (s_X12_spelt l D ca H.size 110 117 109 98 101 114 0) (va_cwS 7 hts gX12_wordOf_X12_spelt rfl rfl rfl (by decide +kernel) ⟨Nat.le_of_ble_eq_true rfl, Nat.le_of_ble_eq_true rfl⟩) (oPS hK hP hD [] rfl (by decide)) rfl rfl hl.1 rfl (lv_room (Nat.le_of_ble_eq_true rfl)) dX12_wordOf_522 ⟨Nat.le_of_ble_eq_true rfl, Nat.le_of_ble_eq_true rfl⟩) hP hD hS hA [] [] rfl rfl (by decide) (by decide) (fun r_159 u H locs w_160 hP hD hS => ?_)
  obtain ⟨⟩ := u
  have hP : va_P D vwCl [] H := hP
  have hD : va_D A [] := hD
  try dsimp only at w_160
  exact oE_l hx hb hr hlocks hP hD hS () [] rfl (by decide) trivial (Nat.le_of_ble_eq_true rfl) (Nat.le_of_ble_eq_true rfl) dX12_wordOf_525
set_option maxHeartbeats 4000000 in
set_option maxRecDepth 100000 in
theorem e_X12_spelt_0 (l : Launch) (D : va_G) (ca : Nat → ClassId) (sz : Nat)   : oMet l yX12_spelt wsX12_spelt ({ frames := 0, cells := 0, slots := 0, locals := 0 } : Room) [.int 106, .int 117, .int 114, .int 111, .int 114, .int 0, .int 0] D ca sz [] (oQl D (fun (r : Int64) (u : Unit) => (r = 5741298) ∧ (r = y_X12_spelt_0)) (fun (u : Unit) => [])) 0 0 := by
  refine oM (cc := cX12_spelt) (maxL := 9) (ret := (some .long)) (by decide) rfl (Nat.le_of_ble_eq_true rfl) [(0, .int 106), (1, .int 117), (2, .int 114), (3, .int 111), (4, .int 114), (5, .int 0), (6, .int 0)] rfl ?_
  intro p e s m below meth c A H locs ls hx hb hr hml hts hown hlocks hin hK hP hD hA hS hl
  have hown : s.vm.findClass RX12 = some m.cls := hown
  have hY := y_X12_spelt_0_s 
  have k1 := hts (.constantLong RX12 54 27) (by decide +kernel)
  have k2 := hts (.constantLong RX12 56 96) (by decide +kernel)
  have J99_1 : ∀ (_ : Unit), y_X12_spelt_0 = y_X12_spelt_0_99  → ∀ (H : Heap) (locs : List Loc) (ls : Array Slot), va_P D vwCl [] H → va_D A [] → va_S A s.heap H locs → lv_has ls 9 [(6, .int 0), (7, .long 5741298)] → W p l e ({ frames := 0, cells := 0, slots := 0, locals := 0 } : Room) s m ([.int 106, .int 117, .int 114, .int 111, .int 114, .int 0, .int 0] : List Value).toArray below meth c H locs 0 0 (MQ below ((oQl D (fun (r : Int64) (u : Unit) => (r = 5741298) ∧ (r = y_X12_spelt_0)) (fun (u : Unit) => [])) A) ([.int 106, .int 117, .int 114, .int 111, .int 114, .int 0, .int 0] : List Value).toArray s 0 0 A) (F0 m 99 ls []) := by
    intro _  hY H locs ls hP hD hS hl
    have hY := hY.trans (y_X12_spelt_0_99_s )
    refine lv_iload hx hb dX12_spelt_99 (lv_at hl 0 rfl) ?_
    refine lv_if_le (tgt := 120) hx hb dX12_spelt_101 (by decide) (fun _ => ?_) (fun c => absurd (by decide) c)
    refine lv_lload hx hb dX12_spelt_120 (lv_at hl 1 rfl) ?_
    exact oE_l hx hb hr hlocks hP hD hS () [] rfl (by decide) ⟨rfl, hY.symm⟩ (Nat.le_of_ble_eq_true rfl) (Nat.le_of_ble_eq_true rfl) dX12_spelt_122
  have J78_2 : ∀ (_ : Unit), y_X12_spelt_0 = y_X12_spelt_0_78  → ∀ (H : Heap) (locs : List Loc) (ls : Array Slot), va_P D vwCl [] H → va_D A [] → va_S A s.heap H locs → lv_has ls 9 [(5, .int 0), (6, .int 0), (7, .long 5741298)] → W p l e ({ frames := 0, cells := 0, slots := 0, locals := 0 } : Room) s m ([.int 106, .int 117, .int 114, .int 111, .int 114, .int 0, .int 0] : List Value).toArray below meth c H locs 0 0 (MQ below ((oQl D (fun (r : Int64) (u : Unit) => (r = 5741298) ∧ (r = y_X12_spelt_0)) (fun (u : Unit) => [])) A) ([.int 106, .int 117, .int 114, .int 111, .int 114, .int 0, .int 0] : List Value).toArray s 0 0 A) (F0 m 78 ls []) := by
    intro _  hY H locs ls hP hD hS hl
    have hY := hY.trans (y_X12_spelt_0_78_s )
    refine lv_iload hx hb dX12_spelt_78 (lv_at hl 0 rfl) ?_
    refine lv_if_le (tgt := 99) hx hb dX12_spelt_80 (by decide) (fun _ => ?_) (fun c => absurd (by decide) c)
    exact J99_1 ()  hY H locs ls (oPsub hP [] rfl) (hD.sub [] (by decide) rfl) hS (lv_sub hl [1, 2] rfl)
  have J57_3 : ∀ (_ : Unit), y_X12_spelt_0 = y_X12_spelt_0_57  → ∀ (H : Heap) (locs : List Loc) (ls : Array Slot), va_P D vwCl [] H → va_D A [] → va_S A s.heap H locs → lv_has ls 9 [(4, .int 114), (5, .int 0), (6, .int 0), (7, .long 212640)] → W p l e ({ frames := 0, cells := 0, slots := 0, locals := 0 } : Room) s m ([.int 106, .int 117, .int 114, .int 111, .int 114, .int 0, .int 0] : List Value).toArray below meth c H locs 0 0 (MQ below ((oQl D (fun (r : Int64) (u : Unit) => (r = 5741298) ∧ (r = y_X12_spelt_0)) (fun (u : Unit) => [])) A) ([.int 106, .int 117, .int 114, .int 111, .int 114, .int 0, .int 0] : List Value).toArray s 0 0 A) (F0 m 57 ls []) := by
    intro _  hY H locs ls hP hD hS hl
    have hY := hY.trans (y_X12_spelt_0_57_s )
    refine lv_iload hx hb dX12_spelt_57 (lv_at hl 0 rfl) ?_
    refine lv_if_le (tgt := 78) hx hb dX12_spelt_59 (by decide) (fun c => absurd c (by decide)) (fun _ => ?_)
    refine lv_ldc2 (v := 27) hx hb hown k1 dX12_spelt_62 ?_
    refine lv_lload hx hb dX12_spelt_65 (lv_at hl 3 rfl) ?_
    refine lv_lmul hx hb dX12_spelt_67 ?_
    refine otl 5741280 (by decide +kernel) ?_
    refine lv_iload hx hb dX12_spelt_68 (lv_at hl 0 rfl) ?_
    refine lv_i2l (v := 114) hx hb dX12_spelt_70 (by decide) ?_
    refine lv_ladd hx hb dX12_spelt_71 ?_
    refine otl 5741394 (by decide +kernel) ?_
    refine lv_ldc2 (v := 96) hx hb hown k2 dX12_spelt_72 ?_
    refine lv_lsub hx hb dX12_spelt_75 ?_
    refine otl 5741298 (by decide +kernel) ?_
    refine lv_lstore (lv' := [(7, .long 5741298), (4, .int 114), (5, .int 0), (6, .int 0)]) hx hb dX12_spelt_76 hl (by decide) rfl (fun ls hl => ?_)
    exact J78_2 ()  hY H locs ls (oPsub hP [] rfl) (hD.sub [] (by decide) rfl) hS (lv_sub hl [2, 3, 0] rfl)
  have J38_4 : ∀ (_ : Unit), y_X12_spelt_0 = y_X12_spelt_0_38  → ∀ (H : Heap) (locs : List Loc) (ls : Array Slot), va_P D vwCl [] H → va_D A [] → va_S A s.heap H locs → lv_has ls 9 [(3, .int 111), (4, .int 114), (5, .int 0), (6, .int 0), (7, .long 7875)] → W p l e ({ frames := 0, cells := 0, slots := 0, locals := 0 } : Room) s m ([.int 106, .int 117, .int 114, .int 111, .int 114, .int 0, .int 0] : List Value).toArray below meth c H locs 0 0 (MQ below ((oQl D (fun (r : Int64) (u : Unit) => (r = 5741298) ∧ (r = y_X12_spelt_0)) (fun (u : Unit) => [])) A) ([.int 106, .int 117, .int 114, .int 111, .int 114, .int 0, .int 0] : List Value).toArray s 0 0 A) (F0 m 38 ls []) := by
    intro _  hY H locs ls hP hD hS hl
    have hY := hY.trans (y_X12_spelt_0_38_s )
    refine lv_iload_n hx hb dX12_spelt_38 rfl (lv_at hl 0 rfl) ?_
    refine lv_if_le (tgt := 57) hx hb dX12_spelt_39 (by decide) (fun c => absurd c (by decide)) (fun _ => ?_)
    refine lv_ldc2 (v := 27) hx hb hown k1 dX12_spelt_42 ?_
    refine lv_lload hx hb dX12_spelt_45 (lv_at hl 4 rfl) ?_
    refine lv_lmul hx hb dX12_spelt_47 ?_
    refine otl 212625 (by decide +kernel) ?_
    refine lv_iload_n hx hb dX12_spelt_48 rfl (lv_at hl 0 rfl) ?_
    refine lv_i2l (v := 111) hx hb dX12_spelt_49 (by decide) ?_
    refine lv_ladd hx hb dX12_spelt_50 ?_
    refine otl 212736 (by decide +kernel) ?_
    refine lv_ldc2 (v := 96) hx hb hown k2 dX12_spelt_51 ?_
    refine lv_lsub hx hb dX12_spelt_54 ?_
    refine otl 212640 (by decide +kernel) ?_
    refine lv_lstore (lv' := [(7, .long 212640), (3, .int 111), (4, .int 114), (5, .int 0), (6, .int 0)]) hx hb dX12_spelt_55 hl (by decide) rfl (fun ls hl => ?_)
    exact J57_3 ()  hY H locs ls (oPsub hP [] rfl) (hD.sub [] (by decide) rfl) hS (lv_sub hl [2, 3, 4, 0] rfl)
  refine lv_ldc2 (v := 27) hx hb hown k1 dX12_spelt_0 ?_
  refine lv_iload_n hx hb dX12_spelt_3 rfl (lv_at hl 0 rfl) ?_
  refine lv_i2l (v := 106) hx hb dX12_spelt_4 (by decide) ?_
  refine lv_ldc2 (v := 96) hx hb hown k2 dX12_spelt_5 ?_
  refine lv_lsub hx hb dX12_spelt_8 ?_
  refine otl 10 (by decide +kernel) ?_
  refine lv_lmul hx hb dX12_spelt_9 ?_
  refine otl 270 (by decide +kernel) ?_
  refine lv_iload_n hx hb dX12_spelt_10 rfl (lv_at hl 1 rfl) ?_
  refine lv_i2l (v := 117) hx hb dX12_spelt_11 (by decide) ?_
  refine lv_ladd hx hb dX12_spelt_12 ?_
  refine otl 387 (by decide +kernel) ?_
  refine lv_ldc2 (v := 96) hx hb hown k2 dX12_spelt_13 ?_
  refine lv_lsub hx hb dX12_spelt_16 ?_
  refine otl 291 (by decide +kernel) ?_
  refine lv_lstore (lv' := [(7, .long 291), (0, .int 106), (1, .int 117), (2, .int 114), (3, .int 111), (4, .int 114), (5, .int 0), (6, .int 0)]) hx hb dX12_spelt_17 hl (by decide) rfl (fun ls hl => ?_)
  refine lv_iload_n hx hb dX12_spelt_19 rfl (lv_at hl 3 rfl) ?_
  refine lv_if_le (tgt := 38) hx hb dX12_spelt_20 (by decide) (fun c => absurd c (by decide)) (fun _ => ?_)
  refine lv_ldc2 (v := 27) hx hb hown k1 dX12_spelt_23 ?_
  refine lv_lload hx hb dX12_spelt_26 (lv_at hl 0 rfl) ?_
  refine lv_lmul hx hb dX12_spelt_28 ?_
  refine otl 7857 (by decide +kernel) ?_
  refine lv_iload_n hx hb dX12_spelt_29 rfl (lv_at hl 3 rfl) ?_
  refine lv_i2l (v := 114) hx hb dX12_spelt_30 (by decide) ?_
  refine lv_ladd hx hb dX12_spelt_31 ?_
  refine otl 7971 (by decide +kernel) ?_
  refine lv_ldc2 (v := 96) hx hb hown k2 dX12_spelt_32 ?_
  refine lv_lsub hx hb dX12_spelt_35 ?_
  refine otl 7875 (by decide +kernel) ?_
  refine lv_lstore (lv' := [(7, .long 7875), (0, .int 106), (1, .int 117), (2, .int 114), (3, .int 111), (4, .int 114), (5, .int 0), (6, .int 0)]) hx hb dX12_spelt_36 hl (by decide) rfl (fun ls hl => ?_)
  exact J38_4 ()  hY H locs ls (oPsub hP [] rfl) (hD.sub [] (by decide) rfl) hS (lv_sub hl [4, 5, 6, 7, 0] rfl)
set_option maxHeartbeats 4000000 in
set_option maxRecDepth 100000 in
theorem e_X12_spelt_1 (l : Launch) (D : va_G) (ca : Nat → ClassId) (sz : Nat)   : oMet l yX12_spelt wsX12_spelt ({ frames := 0, cells := 0, slots := 0, locals := 0 } : Room) [.int 115, .int 101, .int 97, .int 116, .int 101, .int 100, .int 0] D ca sz [] (oQl D (fun (r : Int64) (u : Unit) => (r = 275320840) ∧ (r = y_X12_spelt_1)) (fun (u : Unit) => [])) 0 0 := by
  refine oM (cc := cX12_spelt) (maxL := 9) (ret := (some .long)) (by decide) rfl (Nat.le_of_ble_eq_true rfl) [(0, .int 115), (1, .int 101), (2, .int 97), (3, .int 116), (4, .int 101), (5, .int 100), (6, .int 0)] rfl ?_
  intro p e s m below meth c A H locs ls hx hb hr hml hts hown hlocks hin hK hP hD hA hS hl
  have hown : s.vm.findClass RX12 = some m.cls := hown
  have hY := y_X12_spelt_1_s 
  have k1 := hts (.constantLong RX12 54 27) (by decide +kernel)
  have k2 := hts (.constantLong RX12 56 96) (by decide +kernel)
  have J99_1 : ∀ (_ : Unit), y_X12_spelt_1 = y_X12_spelt_1_99  → ∀ (H : Heap) (locs : List Loc) (ls : Array Slot), va_P D vwCl [] H → va_D A [] → va_S A s.heap H locs → lv_has ls 9 [(6, .int 0), (7, .long 275320840)] → W p l e ({ frames := 0, cells := 0, slots := 0, locals := 0 } : Room) s m ([.int 115, .int 101, .int 97, .int 116, .int 101, .int 100, .int 0] : List Value).toArray below meth c H locs 0 0 (MQ below ((oQl D (fun (r : Int64) (u : Unit) => (r = 275320840) ∧ (r = y_X12_spelt_1)) (fun (u : Unit) => [])) A) ([.int 115, .int 101, .int 97, .int 116, .int 101, .int 100, .int 0] : List Value).toArray s 0 0 A) (F0 m 99 ls []) := by
    intro _  hY H locs ls hP hD hS hl
    have hY := hY.trans (y_X12_spelt_1_99_s )
    refine lv_iload hx hb dX12_spelt_99 (lv_at hl 0 rfl) ?_
    refine lv_if_le (tgt := 120) hx hb dX12_spelt_101 (by decide) (fun _ => ?_) (fun c => absurd (by decide) c)
    refine lv_lload hx hb dX12_spelt_120 (lv_at hl 1 rfl) ?_
    exact oE_l hx hb hr hlocks hP hD hS () [] rfl (by decide) ⟨rfl, hY.symm⟩ (Nat.le_of_ble_eq_true rfl) (Nat.le_of_ble_eq_true rfl) dX12_spelt_122
  have J78_2 : ∀ (_ : Unit), y_X12_spelt_1 = y_X12_spelt_1_78  → ∀ (H : Heap) (locs : List Loc) (ls : Array Slot), va_P D vwCl [] H → va_D A [] → va_S A s.heap H locs → lv_has ls 9 [(5, .int 100), (6, .int 0), (7, .long 10197068)] → W p l e ({ frames := 0, cells := 0, slots := 0, locals := 0 } : Room) s m ([.int 115, .int 101, .int 97, .int 116, .int 101, .int 100, .int 0] : List Value).toArray below meth c H locs 0 0 (MQ below ((oQl D (fun (r : Int64) (u : Unit) => (r = 275320840) ∧ (r = y_X12_spelt_1)) (fun (u : Unit) => [])) A) ([.int 115, .int 101, .int 97, .int 116, .int 101, .int 100, .int 0] : List Value).toArray s 0 0 A) (F0 m 78 ls []) := by
    intro _  hY H locs ls hP hD hS hl
    have hY := hY.trans (y_X12_spelt_1_78_s )
    refine lv_iload hx hb dX12_spelt_78 (lv_at hl 0 rfl) ?_
    refine lv_if_le (tgt := 99) hx hb dX12_spelt_80 (by decide) (fun c => absurd c (by decide)) (fun _ => ?_)
    refine lv_ldc2 (v := 27) hx hb hown k1 dX12_spelt_83 ?_
    refine lv_lload hx hb dX12_spelt_86 (lv_at hl 2 rfl) ?_
    refine lv_lmul hx hb dX12_spelt_88 ?_
    refine otl 275320836 (by decide +kernel) ?_
    refine lv_iload hx hb dX12_spelt_89 (lv_at hl 0 rfl) ?_
    refine lv_i2l (v := 100) hx hb dX12_spelt_91 (by decide) ?_
    refine lv_ladd hx hb dX12_spelt_92 ?_
    refine otl 275320936 (by decide +kernel) ?_
    refine lv_ldc2 (v := 96) hx hb hown k2 dX12_spelt_93 ?_
    refine lv_lsub hx hb dX12_spelt_96 ?_
    refine otl 275320840 (by decide +kernel) ?_
    refine lv_lstore (lv' := [(7, .long 275320840), (5, .int 100), (6, .int 0)]) hx hb dX12_spelt_97 hl (by decide) rfl (fun ls hl => ?_)
    exact J99_1 ()  hY H locs ls (oPsub hP [] rfl) (hD.sub [] (by decide) rfl) hS (lv_sub hl [2, 0] rfl)
  have J57_3 : ∀ (_ : Unit), y_X12_spelt_1 = y_X12_spelt_1_57  → ∀ (H : Heap) (locs : List Loc) (ls : Array Slot), va_P D vwCl [] H → va_D A [] → va_S A s.heap H locs → lv_has ls 9 [(4, .int 101), (5, .int 100), (6, .int 0), (7, .long 377669)] → W p l e ({ frames := 0, cells := 0, slots := 0, locals := 0 } : Room) s m ([.int 115, .int 101, .int 97, .int 116, .int 101, .int 100, .int 0] : List Value).toArray below meth c H locs 0 0 (MQ below ((oQl D (fun (r : Int64) (u : Unit) => (r = 275320840) ∧ (r = y_X12_spelt_1)) (fun (u : Unit) => [])) A) ([.int 115, .int 101, .int 97, .int 116, .int 101, .int 100, .int 0] : List Value).toArray s 0 0 A) (F0 m 57 ls []) := by
    intro _  hY H locs ls hP hD hS hl
    have hY := hY.trans (y_X12_spelt_1_57_s )
    refine lv_iload hx hb dX12_spelt_57 (lv_at hl 0 rfl) ?_
    refine lv_if_le (tgt := 78) hx hb dX12_spelt_59 (by decide) (fun c => absurd c (by decide)) (fun _ => ?_)
    refine lv_ldc2 (v := 27) hx hb hown k1 dX12_spelt_62 ?_
    refine lv_lload hx hb dX12_spelt_65 (lv_at hl 3 rfl) ?_
    refine lv_lmul hx hb dX12_spelt_67 ?_
    refine otl 10197063 (by decide +kernel) ?_
    refine lv_iload hx hb dX12_spelt_68 (lv_at hl 0 rfl) ?_
    refine lv_i2l (v := 101) hx hb dX12_spelt_70 (by decide) ?_
    refine lv_ladd hx hb dX12_spelt_71 ?_
    refine otl 10197164 (by decide +kernel) ?_
    refine lv_ldc2 (v := 96) hx hb hown k2 dX12_spelt_72 ?_
    refine lv_lsub hx hb dX12_spelt_75 ?_
    refine otl 10197068 (by decide +kernel) ?_
    refine lv_lstore (lv' := [(7, .long 10197068), (4, .int 101), (5, .int 100), (6, .int 0)]) hx hb dX12_spelt_76 hl (by decide) rfl (fun ls hl => ?_)
    exact J78_2 ()  hY H locs ls (oPsub hP [] rfl) (hD.sub [] (by decide) rfl) hS (lv_sub hl [2, 3, 0] rfl)
  have J38_4 : ∀ (_ : Unit), y_X12_spelt_1 = y_X12_spelt_1_38  → ∀ (H : Heap) (locs : List Loc) (ls : Array Slot), va_P D vwCl [] H → va_D A [] → va_S A s.heap H locs → lv_has ls 9 [(3, .int 116), (4, .int 101), (5, .int 100), (6, .int 0), (7, .long 13987)] → W p l e ({ frames := 0, cells := 0, slots := 0, locals := 0 } : Room) s m ([.int 115, .int 101, .int 97, .int 116, .int 101, .int 100, .int 0] : List Value).toArray below meth c H locs 0 0 (MQ below ((oQl D (fun (r : Int64) (u : Unit) => (r = 275320840) ∧ (r = y_X12_spelt_1)) (fun (u : Unit) => [])) A) ([.int 115, .int 101, .int 97, .int 116, .int 101, .int 100, .int 0] : List Value).toArray s 0 0 A) (F0 m 38 ls []) := by
    intro _  hY H locs ls hP hD hS hl
    have hY := hY.trans (y_X12_spelt_1_38_s )
    refine lv_iload_n hx hb dX12_spelt_38 rfl (lv_at hl 0 rfl) ?_
    refine lv_if_le (tgt := 57) hx hb dX12_spelt_39 (by decide) (fun c => absurd c (by decide)) (fun _ => ?_)
    refine lv_ldc2 (v := 27) hx hb hown k1 dX12_spelt_42 ?_
    refine lv_lload hx hb dX12_spelt_45 (lv_at hl 4 rfl) ?_
    refine lv_lmul hx hb dX12_spelt_47 ?_
    refine otl 377649 (by decide +kernel) ?_
    refine lv_iload_n hx hb dX12_spelt_48 rfl (lv_at hl 0 rfl) ?_
    refine lv_i2l (v := 116) hx hb dX12_spelt_49 (by decide) ?_
    refine lv_ladd hx hb dX12_spelt_50 ?_
    refine otl 377765 (by decide +kernel) ?_
    refine lv_ldc2 (v := 96) hx hb hown k2 dX12_spelt_51 ?_
    refine lv_lsub hx hb dX12_spelt_54 ?_
    refine otl 377669 (by decide +kernel) ?_
    refine lv_lstore (lv' := [(7, .long 377669), (3, .int 116), (4, .int 101), (5, .int 100), (6, .int 0)]) hx hb dX12_spelt_55 hl (by decide) rfl (fun ls hl => ?_)
    exact J57_3 ()  hY H locs ls (oPsub hP [] rfl) (hD.sub [] (by decide) rfl) hS (lv_sub hl [2, 3, 4, 0] rfl)
  refine lv_ldc2 (v := 27) hx hb hown k1 dX12_spelt_0 ?_
  refine lv_iload_n hx hb dX12_spelt_3 rfl (lv_at hl 0 rfl) ?_
  refine lv_i2l (v := 115) hx hb dX12_spelt_4 (by decide) ?_
  refine lv_ldc2 (v := 96) hx hb hown k2 dX12_spelt_5 ?_
  refine lv_lsub hx hb dX12_spelt_8 ?_
  refine otl 19 (by decide +kernel) ?_
  refine lv_lmul hx hb dX12_spelt_9 ?_
  refine otl 513 (by decide +kernel) ?_
  refine lv_iload_n hx hb dX12_spelt_10 rfl (lv_at hl 1 rfl) ?_
  refine lv_i2l (v := 101) hx hb dX12_spelt_11 (by decide) ?_
  refine lv_ladd hx hb dX12_spelt_12 ?_
  refine otl 614 (by decide +kernel) ?_
  refine lv_ldc2 (v := 96) hx hb hown k2 dX12_spelt_13 ?_
  refine lv_lsub hx hb dX12_spelt_16 ?_
  refine otl 518 (by decide +kernel) ?_
  refine lv_lstore (lv' := [(7, .long 518), (0, .int 115), (1, .int 101), (2, .int 97), (3, .int 116), (4, .int 101), (5, .int 100), (6, .int 0)]) hx hb dX12_spelt_17 hl (by decide) rfl (fun ls hl => ?_)
  refine lv_iload_n hx hb dX12_spelt_19 rfl (lv_at hl 3 rfl) ?_
  refine lv_if_le (tgt := 38) hx hb dX12_spelt_20 (by decide) (fun c => absurd c (by decide)) (fun _ => ?_)
  refine lv_ldc2 (v := 27) hx hb hown k1 dX12_spelt_23 ?_
  refine lv_lload hx hb dX12_spelt_26 (lv_at hl 0 rfl) ?_
  refine lv_lmul hx hb dX12_spelt_28 ?_
  refine otl 13986 (by decide +kernel) ?_
  refine lv_iload_n hx hb dX12_spelt_29 rfl (lv_at hl 3 rfl) ?_
  refine lv_i2l (v := 97) hx hb dX12_spelt_30 (by decide) ?_
  refine lv_ladd hx hb dX12_spelt_31 ?_
  refine otl 14083 (by decide +kernel) ?_
  refine lv_ldc2 (v := 96) hx hb hown k2 dX12_spelt_32 ?_
  refine lv_lsub hx hb dX12_spelt_35 ?_
  refine otl 13987 (by decide +kernel) ?_
  refine lv_lstore (lv' := [(7, .long 13987), (0, .int 115), (1, .int 101), (2, .int 97), (3, .int 116), (4, .int 101), (5, .int 100), (6, .int 0)]) hx hb dX12_spelt_36 hl (by decide) rfl (fun ls hl => ?_)
  exact J38_4 ()  hY H locs ls (oPsub hP [] rfl) (hD.sub [] (by decide) rfl) hS (lv_sub hl [4, 5, 6, 7, 0] rfl)
set_option maxHeartbeats 4000000 in
set_option maxRecDepth 100000 in
theorem e_X12_spelt_2 (l : Launch) (D : va_G) (ca : Nat → ClassId) (sz : Nat)   : oMet l yX12_spelt wsX12_spelt ({ frames := 0, cells := 0, slots := 0, locals := 0 } : Room) [.int 102, .int 108, .int 111, .int 111, .int 114, .int 0, .int 0] D ca sz [] (oQl D (fun (r : Int64) (u : Unit) => (r = 3436200) ∧ (r = y_X12_spelt_2)) (fun (u : Unit) => [])) 0 0 := by
  refine oM (cc := cX12_spelt) (maxL := 9) (ret := (some .long)) (by decide) rfl (Nat.le_of_ble_eq_true rfl) [(0, .int 102), (1, .int 108), (2, .int 111), (3, .int 111), (4, .int 114), (5, .int 0), (6, .int 0)] rfl ?_
  intro p e s m below meth c A H locs ls hx hb hr hml hts hown hlocks hin hK hP hD hA hS hl
  have hown : s.vm.findClass RX12 = some m.cls := hown
  have hY := y_X12_spelt_2_s 
  have k1 := hts (.constantLong RX12 54 27) (by decide +kernel)
  have k2 := hts (.constantLong RX12 56 96) (by decide +kernel)
  have J99_1 : ∀ (_ : Unit), y_X12_spelt_2 = y_X12_spelt_2_99  → ∀ (H : Heap) (locs : List Loc) (ls : Array Slot), va_P D vwCl [] H → va_D A [] → va_S A s.heap H locs → lv_has ls 9 [(6, .int 0), (7, .long 3436200)] → W p l e ({ frames := 0, cells := 0, slots := 0, locals := 0 } : Room) s m ([.int 102, .int 108, .int 111, .int 111, .int 114, .int 0, .int 0] : List Value).toArray below meth c H locs 0 0 (MQ below ((oQl D (fun (r : Int64) (u : Unit) => (r = 3436200) ∧ (r = y_X12_spelt_2)) (fun (u : Unit) => [])) A) ([.int 102, .int 108, .int 111, .int 111, .int 114, .int 0, .int 0] : List Value).toArray s 0 0 A) (F0 m 99 ls []) := by
    intro _  hY H locs ls hP hD hS hl
    have hY := hY.trans (y_X12_spelt_2_99_s )
    refine lv_iload hx hb dX12_spelt_99 (lv_at hl 0 rfl) ?_
    refine lv_if_le (tgt := 120) hx hb dX12_spelt_101 (by decide) (fun _ => ?_) (fun c => absurd (by decide) c)
    refine lv_lload hx hb dX12_spelt_120 (lv_at hl 1 rfl) ?_
    exact oE_l hx hb hr hlocks hP hD hS () [] rfl (by decide) ⟨rfl, hY.symm⟩ (Nat.le_of_ble_eq_true rfl) (Nat.le_of_ble_eq_true rfl) dX12_spelt_122
  have J78_2 : ∀ (_ : Unit), y_X12_spelt_2 = y_X12_spelt_2_78  → ∀ (H : Heap) (locs : List Loc) (ls : Array Slot), va_P D vwCl [] H → va_D A [] → va_S A s.heap H locs → lv_has ls 9 [(5, .int 0), (6, .int 0), (7, .long 3436200)] → W p l e ({ frames := 0, cells := 0, slots := 0, locals := 0 } : Room) s m ([.int 102, .int 108, .int 111, .int 111, .int 114, .int 0, .int 0] : List Value).toArray below meth c H locs 0 0 (MQ below ((oQl D (fun (r : Int64) (u : Unit) => (r = 3436200) ∧ (r = y_X12_spelt_2)) (fun (u : Unit) => [])) A) ([.int 102, .int 108, .int 111, .int 111, .int 114, .int 0, .int 0] : List Value).toArray s 0 0 A) (F0 m 78 ls []) := by
    intro _  hY H locs ls hP hD hS hl
    have hY := hY.trans (y_X12_spelt_2_78_s )
    refine lv_iload hx hb dX12_spelt_78 (lv_at hl 0 rfl) ?_
    refine lv_if_le (tgt := 99) hx hb dX12_spelt_80 (by decide) (fun _ => ?_) (fun c => absurd (by decide) c)
    exact J99_1 ()  hY H locs ls (oPsub hP [] rfl) (hD.sub [] (by decide) rfl) hS (lv_sub hl [1, 2] rfl)
  have J57_3 : ∀ (_ : Unit), y_X12_spelt_2 = y_X12_spelt_2_57  → ∀ (H : Heap) (locs : List Loc) (ls : Array Slot), va_P D vwCl [] H → va_D A [] → va_S A s.heap H locs → lv_has ls 9 [(4, .int 114), (5, .int 0), (6, .int 0), (7, .long 127266)] → W p l e ({ frames := 0, cells := 0, slots := 0, locals := 0 } : Room) s m ([.int 102, .int 108, .int 111, .int 111, .int 114, .int 0, .int 0] : List Value).toArray below meth c H locs 0 0 (MQ below ((oQl D (fun (r : Int64) (u : Unit) => (r = 3436200) ∧ (r = y_X12_spelt_2)) (fun (u : Unit) => [])) A) ([.int 102, .int 108, .int 111, .int 111, .int 114, .int 0, .int 0] : List Value).toArray s 0 0 A) (F0 m 57 ls []) := by
    intro _  hY H locs ls hP hD hS hl
    have hY := hY.trans (y_X12_spelt_2_57_s )
    refine lv_iload hx hb dX12_spelt_57 (lv_at hl 0 rfl) ?_
    refine lv_if_le (tgt := 78) hx hb dX12_spelt_59 (by decide) (fun c => absurd c (by decide)) (fun _ => ?_)
    refine lv_ldc2 (v := 27) hx hb hown k1 dX12_spelt_62 ?_
    refine lv_lload hx hb dX12_spelt_65 (lv_at hl 3 rfl) ?_
    refine lv_lmul hx hb dX12_spelt_67 ?_
    refine otl 3436182 (by decide +kernel) ?_
    refine lv_iload hx hb dX12_spelt_68 (lv_at hl 0 rfl) ?_
    refine lv_i2l (v := 114) hx hb dX12_spelt_70 (by decide) ?_
    refine lv_ladd hx hb dX12_spelt_71 ?_
    refine otl 3436296 (by decide +kernel) ?_
    refine lv_ldc2 (v := 96) hx hb hown k2 dX12_spelt_72 ?_
    refine lv_lsub hx hb dX12_spelt_75 ?_
    refine otl 3436200 (by decide +kernel) ?_
    refine lv_lstore (lv' := [(7, .long 3436200), (4, .int 114), (5, .int 0), (6, .int 0)]) hx hb dX12_spelt_76 hl (by decide) rfl (fun ls hl => ?_)
    exact J78_2 ()  hY H locs ls (oPsub hP [] rfl) (hD.sub [] (by decide) rfl) hS (lv_sub hl [2, 3, 0] rfl)
  have J38_4 : ∀ (_ : Unit), y_X12_spelt_2 = y_X12_spelt_2_38  → ∀ (H : Heap) (locs : List Loc) (ls : Array Slot), va_P D vwCl [] H → va_D A [] → va_S A s.heap H locs → lv_has ls 9 [(3, .int 111), (4, .int 114), (5, .int 0), (6, .int 0), (7, .long 4713)] → W p l e ({ frames := 0, cells := 0, slots := 0, locals := 0 } : Room) s m ([.int 102, .int 108, .int 111, .int 111, .int 114, .int 0, .int 0] : List Value).toArray below meth c H locs 0 0 (MQ below ((oQl D (fun (r : Int64) (u : Unit) => (r = 3436200) ∧ (r = y_X12_spelt_2)) (fun (u : Unit) => [])) A) ([.int 102, .int 108, .int 111, .int 111, .int 114, .int 0, .int 0] : List Value).toArray s 0 0 A) (F0 m 38 ls []) := by
    intro _  hY H locs ls hP hD hS hl
    have hY := hY.trans (y_X12_spelt_2_38_s )
    refine lv_iload_n hx hb dX12_spelt_38 rfl (lv_at hl 0 rfl) ?_
    refine lv_if_le (tgt := 57) hx hb dX12_spelt_39 (by decide) (fun c => absurd c (by decide)) (fun _ => ?_)
    refine lv_ldc2 (v := 27) hx hb hown k1 dX12_spelt_42 ?_
    refine lv_lload hx hb dX12_spelt_45 (lv_at hl 4 rfl) ?_
    refine lv_lmul hx hb dX12_spelt_47 ?_
    refine otl 127251 (by decide +kernel) ?_
    refine lv_iload_n hx hb dX12_spelt_48 rfl (lv_at hl 0 rfl) ?_
    refine lv_i2l (v := 111) hx hb dX12_spelt_49 (by decide) ?_
    refine lv_ladd hx hb dX12_spelt_50 ?_
    refine otl 127362 (by decide +kernel) ?_
    refine lv_ldc2 (v := 96) hx hb hown k2 dX12_spelt_51 ?_
    refine lv_lsub hx hb dX12_spelt_54 ?_
    refine otl 127266 (by decide +kernel) ?_
    refine lv_lstore (lv' := [(7, .long 127266), (3, .int 111), (4, .int 114), (5, .int 0), (6, .int 0)]) hx hb dX12_spelt_55 hl (by decide) rfl (fun ls hl => ?_)
    exact J57_3 ()  hY H locs ls (oPsub hP [] rfl) (hD.sub [] (by decide) rfl) hS (lv_sub hl [2, 3, 4, 0] rfl)
  refine lv_ldc2 (v := 27) hx hb hown k1 dX12_spelt_0 ?_
  refine lv_iload_n hx hb dX12_spelt_3 rfl (lv_at hl 0 rfl) ?_
  refine lv_i2l (v := 102) hx hb dX12_spelt_4 (by decide) ?_
  refine lv_ldc2 (v := 96) hx hb hown k2 dX12_spelt_5 ?_
  refine lv_lsub hx hb dX12_spelt_8 ?_
  refine otl 6 (by decide +kernel) ?_
  refine lv_lmul hx hb dX12_spelt_9 ?_
  refine otl 162 (by decide +kernel) ?_
  refine lv_iload_n hx hb dX12_spelt_10 rfl (lv_at hl 1 rfl) ?_
  refine lv_i2l (v := 108) hx hb dX12_spelt_11 (by decide) ?_
  refine lv_ladd hx hb dX12_spelt_12 ?_
  refine otl 270 (by decide +kernel) ?_
  refine lv_ldc2 (v := 96) hx hb hown k2 dX12_spelt_13 ?_
  refine lv_lsub hx hb dX12_spelt_16 ?_
  refine otl 174 (by decide +kernel) ?_
  refine lv_lstore (lv' := [(7, .long 174), (0, .int 102), (1, .int 108), (2, .int 111), (3, .int 111), (4, .int 114), (5, .int 0), (6, .int 0)]) hx hb dX12_spelt_17 hl (by decide) rfl (fun ls hl => ?_)
  refine lv_iload_n hx hb dX12_spelt_19 rfl (lv_at hl 3 rfl) ?_
  refine lv_if_le (tgt := 38) hx hb dX12_spelt_20 (by decide) (fun c => absurd c (by decide)) (fun _ => ?_)
  refine lv_ldc2 (v := 27) hx hb hown k1 dX12_spelt_23 ?_
  refine lv_lload hx hb dX12_spelt_26 (lv_at hl 0 rfl) ?_
  refine lv_lmul hx hb dX12_spelt_28 ?_
  refine otl 4698 (by decide +kernel) ?_
  refine lv_iload_n hx hb dX12_spelt_29 rfl (lv_at hl 3 rfl) ?_
  refine lv_i2l (v := 111) hx hb dX12_spelt_30 (by decide) ?_
  refine lv_ladd hx hb dX12_spelt_31 ?_
  refine otl 4809 (by decide +kernel) ?_
  refine lv_ldc2 (v := 96) hx hb hown k2 dX12_spelt_32 ?_
  refine lv_lsub hx hb dX12_spelt_35 ?_
  refine otl 4713 (by decide +kernel) ?_
  refine lv_lstore (lv' := [(7, .long 4713), (0, .int 102), (1, .int 108), (2, .int 111), (3, .int 111), (4, .int 114), (5, .int 0), (6, .int 0)]) hx hb dX12_spelt_36 hl (by decide) rfl (fun ls hl => ?_)
  exact J38_4 ()  hY H locs ls (oPsub hP [] rfl) (hD.sub [] (by decide) rfl) hS (lv_sub hl [4, 5, 6, 7, 0] rfl)
set_option maxHeartbeats 4000000 in
set_option maxRecDepth 100000 in
theorem e_X12_spelt_3 (l : Launch) (D : va_G) (ca : Nat → ClassId) (sz : Nat)   : oMet l yX12_spelt wsX12_spelt ({ frames := 0, cells := 0, slots := 0, locals := 0 } : Room) [.int 99, .int 97, .int 115, .int 101, .int 0, .int 0, .int 0] D ca sz [] (oQl D (fun (r : Int64) (u : Unit) => (r = 60296) ∧ (r = y_X12_spelt_3)) (fun (u : Unit) => [])) 0 0 := by
  refine oM (cc := cX12_spelt) (maxL := 9) (ret := (some .long)) (by decide) rfl (Nat.le_of_ble_eq_true rfl) [(0, .int 99), (1, .int 97), (2, .int 115), (3, .int 101), (4, .int 0), (5, .int 0), (6, .int 0)] rfl ?_
  intro p e s m below meth c A H locs ls hx hb hr hml hts hown hlocks hin hK hP hD hA hS hl
  have hown : s.vm.findClass RX12 = some m.cls := hown
  have hY := y_X12_spelt_3_s 
  have k1 := hts (.constantLong RX12 54 27) (by decide +kernel)
  have k2 := hts (.constantLong RX12 56 96) (by decide +kernel)
  have J99_1 : ∀ (_ : Unit), y_X12_spelt_3 = y_X12_spelt_3_99  → ∀ (H : Heap) (locs : List Loc) (ls : Array Slot), va_P D vwCl [] H → va_D A [] → va_S A s.heap H locs → lv_has ls 9 [(6, .int 0), (7, .long 60296)] → W p l e ({ frames := 0, cells := 0, slots := 0, locals := 0 } : Room) s m ([.int 99, .int 97, .int 115, .int 101, .int 0, .int 0, .int 0] : List Value).toArray below meth c H locs 0 0 (MQ below ((oQl D (fun (r : Int64) (u : Unit) => (r = 60296) ∧ (r = y_X12_spelt_3)) (fun (u : Unit) => [])) A) ([.int 99, .int 97, .int 115, .int 101, .int 0, .int 0, .int 0] : List Value).toArray s 0 0 A) (F0 m 99 ls []) := by
    intro _  hY H locs ls hP hD hS hl
    have hY := hY.trans (y_X12_spelt_3_99_s )
    refine lv_iload hx hb dX12_spelt_99 (lv_at hl 0 rfl) ?_
    refine lv_if_le (tgt := 120) hx hb dX12_spelt_101 (by decide) (fun _ => ?_) (fun c => absurd (by decide) c)
    refine lv_lload hx hb dX12_spelt_120 (lv_at hl 1 rfl) ?_
    exact oE_l hx hb hr hlocks hP hD hS () [] rfl (by decide) ⟨rfl, hY.symm⟩ (Nat.le_of_ble_eq_true rfl) (Nat.le_of_ble_eq_true rfl) dX12_spelt_122
  have J78_2 : ∀ (_ : Unit), y_X12_spelt_3 = y_X12_spelt_3_78  → ∀ (H : Heap) (locs : List Loc) (ls : Array Slot), va_P D vwCl [] H → va_D A [] → va_S A s.heap H locs → lv_has ls 9 [(5, .int 0), (6, .int 0), (7, .long 60296)] → W p l e ({ frames := 0, cells := 0, slots := 0, locals := 0 } : Room) s m ([.int 99, .int 97, .int 115, .int 101, .int 0, .int 0, .int 0] : List Value).toArray below meth c H locs 0 0 (MQ below ((oQl D (fun (r : Int64) (u : Unit) => (r = 60296) ∧ (r = y_X12_spelt_3)) (fun (u : Unit) => [])) A) ([.int 99, .int 97, .int 115, .int 101, .int 0, .int 0, .int 0] : List Value).toArray s 0 0 A) (F0 m 78 ls []) := by
    intro _  hY H locs ls hP hD hS hl
    have hY := hY.trans (y_X12_spelt_3_78_s )
    refine lv_iload hx hb dX12_spelt_78 (lv_at hl 0 rfl) ?_
    refine lv_if_le (tgt := 99) hx hb dX12_spelt_80 (by decide) (fun _ => ?_) (fun c => absurd (by decide) c)
    exact J99_1 ()  hY H locs ls (oPsub hP [] rfl) (hD.sub [] (by decide) rfl) hS (lv_sub hl [1, 2] rfl)
  have J57_3 : ∀ (_ : Unit), y_X12_spelt_3 = y_X12_spelt_3_57  → ∀ (H : Heap) (locs : List Loc) (ls : Array Slot), va_P D vwCl [] H → va_D A [] → va_S A s.heap H locs → lv_has ls 9 [(4, .int 0), (5, .int 0), (6, .int 0), (7, .long 60296)] → W p l e ({ frames := 0, cells := 0, slots := 0, locals := 0 } : Room) s m ([.int 99, .int 97, .int 115, .int 101, .int 0, .int 0, .int 0] : List Value).toArray below meth c H locs 0 0 (MQ below ((oQl D (fun (r : Int64) (u : Unit) => (r = 60296) ∧ (r = y_X12_spelt_3)) (fun (u : Unit) => [])) A) ([.int 99, .int 97, .int 115, .int 101, .int 0, .int 0, .int 0] : List Value).toArray s 0 0 A) (F0 m 57 ls []) := by
    intro _  hY H locs ls hP hD hS hl
    have hY := hY.trans (y_X12_spelt_3_57_s )
    refine lv_iload hx hb dX12_spelt_57 (lv_at hl 0 rfl) ?_
    refine lv_if_le (tgt := 78) hx hb dX12_spelt_59 (by decide) (fun _ => ?_) (fun c => absurd (by decide) c)
    exact J78_2 ()  hY H locs ls (oPsub hP [] rfl) (hD.sub [] (by decide) rfl) hS (lv_sub hl [1, 2, 3] rfl)
  have J38_4 : ∀ (_ : Unit), y_X12_spelt_3 = y_X12_spelt_3_38  → ∀ (H : Heap) (locs : List Loc) (ls : Array Slot), va_P D vwCl [] H → va_D A [] → va_S A s.heap H locs → lv_has ls 9 [(3, .int 101), (4, .int 0), (5, .int 0), (6, .int 0), (7, .long 2233)] → W p l e ({ frames := 0, cells := 0, slots := 0, locals := 0 } : Room) s m ([.int 99, .int 97, .int 115, .int 101, .int 0, .int 0, .int 0] : List Value).toArray below meth c H locs 0 0 (MQ below ((oQl D (fun (r : Int64) (u : Unit) => (r = 60296) ∧ (r = y_X12_spelt_3)) (fun (u : Unit) => [])) A) ([.int 99, .int 97, .int 115, .int 101, .int 0, .int 0, .int 0] : List Value).toArray s 0 0 A) (F0 m 38 ls []) := by
    intro _  hY H locs ls hP hD hS hl
    have hY := hY.trans (y_X12_spelt_3_38_s )
    refine lv_iload_n hx hb dX12_spelt_38 rfl (lv_at hl 0 rfl) ?_
    refine lv_if_le (tgt := 57) hx hb dX12_spelt_39 (by decide) (fun c => absurd c (by decide)) (fun _ => ?_)
    refine lv_ldc2 (v := 27) hx hb hown k1 dX12_spelt_42 ?_
    refine lv_lload hx hb dX12_spelt_45 (lv_at hl 4 rfl) ?_
    refine lv_lmul hx hb dX12_spelt_47 ?_
    refine otl 60291 (by decide +kernel) ?_
    refine lv_iload_n hx hb dX12_spelt_48 rfl (lv_at hl 0 rfl) ?_
    refine lv_i2l (v := 101) hx hb dX12_spelt_49 (by decide) ?_
    refine lv_ladd hx hb dX12_spelt_50 ?_
    refine otl 60392 (by decide +kernel) ?_
    refine lv_ldc2 (v := 96) hx hb hown k2 dX12_spelt_51 ?_
    refine lv_lsub hx hb dX12_spelt_54 ?_
    refine otl 60296 (by decide +kernel) ?_
    refine lv_lstore (lv' := [(7, .long 60296), (3, .int 101), (4, .int 0), (5, .int 0), (6, .int 0)]) hx hb dX12_spelt_55 hl (by decide) rfl (fun ls hl => ?_)
    exact J57_3 ()  hY H locs ls (oPsub hP [] rfl) (hD.sub [] (by decide) rfl) hS (lv_sub hl [2, 3, 4, 0] rfl)
  refine lv_ldc2 (v := 27) hx hb hown k1 dX12_spelt_0 ?_
  refine lv_iload_n hx hb dX12_spelt_3 rfl (lv_at hl 0 rfl) ?_
  refine lv_i2l (v := 99) hx hb dX12_spelt_4 (by decide) ?_
  refine lv_ldc2 (v := 96) hx hb hown k2 dX12_spelt_5 ?_
  refine lv_lsub hx hb dX12_spelt_8 ?_
  refine otl 3 (by decide +kernel) ?_
  refine lv_lmul hx hb dX12_spelt_9 ?_
  refine otl 81 (by decide +kernel) ?_
  refine lv_iload_n hx hb dX12_spelt_10 rfl (lv_at hl 1 rfl) ?_
  refine lv_i2l (v := 97) hx hb dX12_spelt_11 (by decide) ?_
  refine lv_ladd hx hb dX12_spelt_12 ?_
  refine otl 178 (by decide +kernel) ?_
  refine lv_ldc2 (v := 96) hx hb hown k2 dX12_spelt_13 ?_
  refine lv_lsub hx hb dX12_spelt_16 ?_
  refine otl 82 (by decide +kernel) ?_
  refine lv_lstore (lv' := [(7, .long 82), (0, .int 99), (1, .int 97), (2, .int 115), (3, .int 101), (4, .int 0), (5, .int 0), (6, .int 0)]) hx hb dX12_spelt_17 hl (by decide) rfl (fun ls hl => ?_)
  refine lv_iload_n hx hb dX12_spelt_19 rfl (lv_at hl 3 rfl) ?_
  refine lv_if_le (tgt := 38) hx hb dX12_spelt_20 (by decide) (fun c => absurd c (by decide)) (fun _ => ?_)
  refine lv_ldc2 (v := 27) hx hb hown k1 dX12_spelt_23 ?_
  refine lv_lload hx hb dX12_spelt_26 (lv_at hl 0 rfl) ?_
  refine lv_lmul hx hb dX12_spelt_28 ?_
  refine otl 2214 (by decide +kernel) ?_
  refine lv_iload_n hx hb dX12_spelt_29 rfl (lv_at hl 3 rfl) ?_
  refine lv_i2l (v := 115) hx hb dX12_spelt_30 (by decide) ?_
  refine lv_ladd hx hb dX12_spelt_31 ?_
  refine otl 2329 (by decide +kernel) ?_
  refine lv_ldc2 (v := 96) hx hb hown k2 dX12_spelt_32 ?_
  refine lv_lsub hx hb dX12_spelt_35 ?_
  refine otl 2233 (by decide +kernel) ?_
  refine lv_lstore (lv' := [(7, .long 2233), (0, .int 99), (1, .int 97), (2, .int 115), (3, .int 101), (4, .int 0), (5, .int 0), (6, .int 0)]) hx hb dX12_spelt_36 hl (by decide) rfl (fun ls hl => ?_)
  exact J38_4 ()  hY H locs ls (oPsub hP [] rfl) (hD.sub [] (by decide) rfl) hS (lv_sub hl [4, 5, 6, 7, 0] rfl)
set_option maxHeartbeats 4000000 in
set_option maxRecDepth 100000 in
theorem e_X12_spelt_4 (l : Launch) (D : va_G) (ca : Nat → ClassId) (sz : Nat)   : oMet l yX12_spelt wsX12_spelt ({ frames := 0, cells := 0, slots := 0, locals := 0 } : Room) [.int 116, .int 117, .int 110, .int 101, .int 100, .int 0, .int 0] D ca sz [] (oQl D (fun (r : Int64) (u : Unit) => (r = 11052508) ∧ (r = y_X12_spelt_4)) (fun (u : Unit) => [])) 0 0 := by
  refine oM (cc := cX12_spelt) (maxL := 9) (ret := (some .long)) (by decide) rfl (Nat.le_of_ble_eq_true rfl) [(0, .int 116), (1, .int 117), (2, .int 110), (3, .int 101), (4, .int 100), (5, .int 0), (6, .int 0)] rfl ?_
  intro p e s m below meth c A H locs ls hx hb hr hml hts hown hlocks hin hK hP hD hA hS hl
  have hown : s.vm.findClass RX12 = some m.cls := hown
  have hY := y_X12_spelt_4_s 
  have k1 := hts (.constantLong RX12 54 27) (by decide +kernel)
  have k2 := hts (.constantLong RX12 56 96) (by decide +kernel)
  have J99_1 : ∀ (_ : Unit), y_X12_spelt_4 = y_X12_spelt_4_99  → ∀ (H : Heap) (locs : List Loc) (ls : Array Slot), va_P D vwCl [] H → va_D A [] → va_S A s.heap H locs → lv_has ls 9 [(6, .int 0), (7, .long 11052508)] → W p l e ({ frames := 0, cells := 0, slots := 0, locals := 0 } : Room) s m ([.int 116, .int 117, .int 110, .int 101, .int 100, .int 0, .int 0] : List Value).toArray below meth c H locs 0 0 (MQ below ((oQl D (fun (r : Int64) (u : Unit) => (r = 11052508) ∧ (r = y_X12_spelt_4)) (fun (u : Unit) => [])) A) ([.int 116, .int 117, .int 110, .int 101, .int 100, .int 0, .int 0] : List Value).toArray s 0 0 A) (F0 m 99 ls []) := by
    intro _  hY H locs ls hP hD hS hl
    have hY := hY.trans (y_X12_spelt_4_99_s )
    refine lv_iload hx hb dX12_spelt_99 (lv_at hl 0 rfl) ?_
    refine lv_if_le (tgt := 120) hx hb dX12_spelt_101 (by decide) (fun _ => ?_) (fun c => absurd (by decide) c)
    refine lv_lload hx hb dX12_spelt_120 (lv_at hl 1 rfl) ?_
    exact oE_l hx hb hr hlocks hP hD hS () [] rfl (by decide) ⟨rfl, hY.symm⟩ (Nat.le_of_ble_eq_true rfl) (Nat.le_of_ble_eq_true rfl) dX12_spelt_122
  have J78_2 : ∀ (_ : Unit), y_X12_spelt_4 = y_X12_spelt_4_78  → ∀ (H : Heap) (locs : List Loc) (ls : Array Slot), va_P D vwCl [] H → va_D A [] → va_S A s.heap H locs → lv_has ls 9 [(5, .int 0), (6, .int 0), (7, .long 11052508)] → W p l e ({ frames := 0, cells := 0, slots := 0, locals := 0 } : Room) s m ([.int 116, .int 117, .int 110, .int 101, .int 100, .int 0, .int 0] : List Value).toArray below meth c H locs 0 0 (MQ below ((oQl D (fun (r : Int64) (u : Unit) => (r = 11052508) ∧ (r = y_X12_spelt_4)) (fun (u : Unit) => [])) A) ([.int 116, .int 117, .int 110, .int 101, .int 100, .int 0, .int 0] : List Value).toArray s 0 0 A) (F0 m 78 ls []) := by
    intro _  hY H locs ls hP hD hS hl
    have hY := hY.trans (y_X12_spelt_4_78_s )
    refine lv_iload hx hb dX12_spelt_78 (lv_at hl 0 rfl) ?_
    refine lv_if_le (tgt := 99) hx hb dX12_spelt_80 (by decide) (fun _ => ?_) (fun c => absurd (by decide) c)
    exact J99_1 ()  hY H locs ls (oPsub hP [] rfl) (hD.sub [] (by decide) rfl) hS (lv_sub hl [1, 2] rfl)
  have J57_3 : ∀ (_ : Unit), y_X12_spelt_4 = y_X12_spelt_4_57  → ∀ (H : Heap) (locs : List Loc) (ls : Array Slot), va_P D vwCl [] H → va_D A [] → va_S A s.heap H locs → lv_has ls 9 [(4, .int 100), (5, .int 0), (6, .int 0), (7, .long 409352)] → W p l e ({ frames := 0, cells := 0, slots := 0, locals := 0 } : Room) s m ([.int 116, .int 117, .int 110, .int 101, .int 100, .int 0, .int 0] : List Value).toArray below meth c H locs 0 0 (MQ below ((oQl D (fun (r : Int64) (u : Unit) => (r = 11052508) ∧ (r = y_X12_spelt_4)) (fun (u : Unit) => [])) A) ([.int 116, .int 117, .int 110, .int 101, .int 100, .int 0, .int 0] : List Value).toArray s 0 0 A) (F0 m 57 ls []) := by
    intro _  hY H locs ls hP hD hS hl
    have hY := hY.trans (y_X12_spelt_4_57_s )
    refine lv_iload hx hb dX12_spelt_57 (lv_at hl 0 rfl) ?_
    refine lv_if_le (tgt := 78) hx hb dX12_spelt_59 (by decide) (fun c => absurd c (by decide)) (fun _ => ?_)
    refine lv_ldc2 (v := 27) hx hb hown k1 dX12_spelt_62 ?_
    refine lv_lload hx hb dX12_spelt_65 (lv_at hl 3 rfl) ?_
    refine lv_lmul hx hb dX12_spelt_67 ?_
    refine otl 11052504 (by decide +kernel) ?_
    refine lv_iload hx hb dX12_spelt_68 (lv_at hl 0 rfl) ?_
    refine lv_i2l (v := 100) hx hb dX12_spelt_70 (by decide) ?_
    refine lv_ladd hx hb dX12_spelt_71 ?_
    refine otl 11052604 (by decide +kernel) ?_
    refine lv_ldc2 (v := 96) hx hb hown k2 dX12_spelt_72 ?_
    refine lv_lsub hx hb dX12_spelt_75 ?_
    refine otl 11052508 (by decide +kernel) ?_
    refine lv_lstore (lv' := [(7, .long 11052508), (4, .int 100), (5, .int 0), (6, .int 0)]) hx hb dX12_spelt_76 hl (by decide) rfl (fun ls hl => ?_)
    exact J78_2 ()  hY H locs ls (oPsub hP [] rfl) (hD.sub [] (by decide) rfl) hS (lv_sub hl [2, 3, 0] rfl)
  have J38_4 : ∀ (_ : Unit), y_X12_spelt_4 = y_X12_spelt_4_38  → ∀ (H : Heap) (locs : List Loc) (ls : Array Slot), va_P D vwCl [] H → va_D A [] → va_S A s.heap H locs → lv_has ls 9 [(3, .int 101), (4, .int 100), (5, .int 0), (6, .int 0), (7, .long 15161)] → W p l e ({ frames := 0, cells := 0, slots := 0, locals := 0 } : Room) s m ([.int 116, .int 117, .int 110, .int 101, .int 100, .int 0, .int 0] : List Value).toArray below meth c H locs 0 0 (MQ below ((oQl D (fun (r : Int64) (u : Unit) => (r = 11052508) ∧ (r = y_X12_spelt_4)) (fun (u : Unit) => [])) A) ([.int 116, .int 117, .int 110, .int 101, .int 100, .int 0, .int 0] : List Value).toArray s 0 0 A) (F0 m 38 ls []) := by
    intro _  hY H locs ls hP hD hS hl
    have hY := hY.trans (y_X12_spelt_4_38_s )
    refine lv_iload_n hx hb dX12_spelt_38 rfl (lv_at hl 0 rfl) ?_
    refine lv_if_le (tgt := 57) hx hb dX12_spelt_39 (by decide) (fun c => absurd c (by decide)) (fun _ => ?_)
    refine lv_ldc2 (v := 27) hx hb hown k1 dX12_spelt_42 ?_
    refine lv_lload hx hb dX12_spelt_45 (lv_at hl 4 rfl) ?_
    refine lv_lmul hx hb dX12_spelt_47 ?_
    refine otl 409347 (by decide +kernel) ?_
    refine lv_iload_n hx hb dX12_spelt_48 rfl (lv_at hl 0 rfl) ?_
    refine lv_i2l (v := 101) hx hb dX12_spelt_49 (by decide) ?_
    refine lv_ladd hx hb dX12_spelt_50 ?_
    refine otl 409448 (by decide +kernel) ?_
    refine lv_ldc2 (v := 96) hx hb hown k2 dX12_spelt_51 ?_
    refine lv_lsub hx hb dX12_spelt_54 ?_
    refine otl 409352 (by decide +kernel) ?_
    refine lv_lstore (lv' := [(7, .long 409352), (3, .int 101), (4, .int 100), (5, .int 0), (6, .int 0)]) hx hb dX12_spelt_55 hl (by decide) rfl (fun ls hl => ?_)
    exact J57_3 ()  hY H locs ls (oPsub hP [] rfl) (hD.sub [] (by decide) rfl) hS (lv_sub hl [2, 3, 4, 0] rfl)
  refine lv_ldc2 (v := 27) hx hb hown k1 dX12_spelt_0 ?_
  refine lv_iload_n hx hb dX12_spelt_3 rfl (lv_at hl 0 rfl) ?_
  refine lv_i2l (v := 116) hx hb dX12_spelt_4 (by decide) ?_
  refine lv_ldc2 (v := 96) hx hb hown k2 dX12_spelt_5 ?_
  refine lv_lsub hx hb dX12_spelt_8 ?_
  refine otl 20 (by decide +kernel) ?_
  refine lv_lmul hx hb dX12_spelt_9 ?_
  refine otl 540 (by decide +kernel) ?_
  refine lv_iload_n hx hb dX12_spelt_10 rfl (lv_at hl 1 rfl) ?_
  refine lv_i2l (v := 117) hx hb dX12_spelt_11 (by decide) ?_
  refine lv_ladd hx hb dX12_spelt_12 ?_
  refine otl 657 (by decide +kernel) ?_
  refine lv_ldc2 (v := 96) hx hb hown k2 dX12_spelt_13 ?_
  refine lv_lsub hx hb dX12_spelt_16 ?_
  refine otl 561 (by decide +kernel) ?_
  refine lv_lstore (lv' := [(7, .long 561), (0, .int 116), (1, .int 117), (2, .int 110), (3, .int 101), (4, .int 100), (5, .int 0), (6, .int 0)]) hx hb dX12_spelt_17 hl (by decide) rfl (fun ls hl => ?_)
  refine lv_iload_n hx hb dX12_spelt_19 rfl (lv_at hl 3 rfl) ?_
  refine lv_if_le (tgt := 38) hx hb dX12_spelt_20 (by decide) (fun c => absurd c (by decide)) (fun _ => ?_)
  refine lv_ldc2 (v := 27) hx hb hown k1 dX12_spelt_23 ?_
  refine lv_lload hx hb dX12_spelt_26 (lv_at hl 0 rfl) ?_
  refine lv_lmul hx hb dX12_spelt_28 ?_
  refine otl 15147 (by decide +kernel) ?_
  refine lv_iload_n hx hb dX12_spelt_29 rfl (lv_at hl 3 rfl) ?_
  refine lv_i2l (v := 110) hx hb dX12_spelt_30 (by decide) ?_
  refine lv_ladd hx hb dX12_spelt_31 ?_
  refine otl 15257 (by decide +kernel) ?_
  refine lv_ldc2 (v := 96) hx hb hown k2 dX12_spelt_32 ?_
  refine lv_lsub hx hb dX12_spelt_35 ?_
  refine otl 15161 (by decide +kernel) ?_
  refine lv_lstore (lv' := [(7, .long 15161), (0, .int 116), (1, .int 117), (2, .int 110), (3, .int 101), (4, .int 100), (5, .int 0), (6, .int 0)]) hx hb dX12_spelt_36 hl (by decide) rfl (fun ls hl => ?_)
  exact J38_4 ()  hY H locs ls (oPsub hP [] rfl) (hD.sub [] (by decide) rfl) hS (lv_sub hl [4, 5, 6, 7, 0] rfl)
set_option maxHeartbeats 4000000 in
set_option maxRecDepth 100000 in
theorem e_X12_spelt_5 (l : Launch) (D : va_G) (ca : Nat → ClassId) (sz : Nat)   : oMet l yX12_spelt wsX12_spelt ({ frames := 0, cells := 0, slots := 0, locals := 0 } : Room) [.int 111, .int 110, .int 101, .int 0, .int 0, .int 0, .int 0] D ca sz [] (oQl D (fun (r : Int64) (u : Unit) => (r = 11318) ∧ (r = y_X12_spelt_5)) (fun (u : Unit) => [])) 0 0 := by
  refine oM (cc := cX12_spelt) (maxL := 9) (ret := (some .long)) (by decide) rfl (Nat.le_of_ble_eq_true rfl) [(0, .int 111), (1, .int 110), (2, .int 101), (3, .int 0), (4, .int 0), (5, .int 0), (6, .int 0)] rfl ?_
  intro p e s m below meth c A H locs ls hx hb hr hml hts hown hlocks hin hK hP hD hA hS hl
  have hown : s.vm.findClass RX12 = some m.cls := hown
  have hY := y_X12_spelt_5_s 
  have k1 := hts (.constantLong RX12 54 27) (by decide +kernel)
  have k2 := hts (.constantLong RX12 56 96) (by decide +kernel)
  have J99_1 : ∀ (_ : Unit), y_X12_spelt_5 = y_X12_spelt_5_99  → ∀ (H : Heap) (locs : List Loc) (ls : Array Slot), va_P D vwCl [] H → va_D A [] → va_S A s.heap H locs → lv_has ls 9 [(6, .int 0), (7, .long 11318)] → W p l e ({ frames := 0, cells := 0, slots := 0, locals := 0 } : Room) s m ([.int 111, .int 110, .int 101, .int 0, .int 0, .int 0, .int 0] : List Value).toArray below meth c H locs 0 0 (MQ below ((oQl D (fun (r : Int64) (u : Unit) => (r = 11318) ∧ (r = y_X12_spelt_5)) (fun (u : Unit) => [])) A) ([.int 111, .int 110, .int 101, .int 0, .int 0, .int 0, .int 0] : List Value).toArray s 0 0 A) (F0 m 99 ls []) := by
    intro _  hY H locs ls hP hD hS hl
    have hY := hY.trans (y_X12_spelt_5_99_s )
    refine lv_iload hx hb dX12_spelt_99 (lv_at hl 0 rfl) ?_
    refine lv_if_le (tgt := 120) hx hb dX12_spelt_101 (by decide) (fun _ => ?_) (fun c => absurd (by decide) c)
    refine lv_lload hx hb dX12_spelt_120 (lv_at hl 1 rfl) ?_
    exact oE_l hx hb hr hlocks hP hD hS () [] rfl (by decide) ⟨rfl, hY.symm⟩ (Nat.le_of_ble_eq_true rfl) (Nat.le_of_ble_eq_true rfl) dX12_spelt_122
  have J78_2 : ∀ (_ : Unit), y_X12_spelt_5 = y_X12_spelt_5_78  → ∀ (H : Heap) (locs : List Loc) (ls : Array Slot), va_P D vwCl [] H → va_D A [] → va_S A s.heap H locs → lv_has ls 9 [(5, .int 0), (6, .int 0), (7, .long 11318)] → W p l e ({ frames := 0, cells := 0, slots := 0, locals := 0 } : Room) s m ([.int 111, .int 110, .int 101, .int 0, .int 0, .int 0, .int 0] : List Value).toArray below meth c H locs 0 0 (MQ below ((oQl D (fun (r : Int64) (u : Unit) => (r = 11318) ∧ (r = y_X12_spelt_5)) (fun (u : Unit) => [])) A) ([.int 111, .int 110, .int 101, .int 0, .int 0, .int 0, .int 0] : List Value).toArray s 0 0 A) (F0 m 78 ls []) := by
    intro _  hY H locs ls hP hD hS hl
    have hY := hY.trans (y_X12_spelt_5_78_s )
    refine lv_iload hx hb dX12_spelt_78 (lv_at hl 0 rfl) ?_
    refine lv_if_le (tgt := 99) hx hb dX12_spelt_80 (by decide) (fun _ => ?_) (fun c => absurd (by decide) c)
    exact J99_1 ()  hY H locs ls (oPsub hP [] rfl) (hD.sub [] (by decide) rfl) hS (lv_sub hl [1, 2] rfl)
  have J57_3 : ∀ (_ : Unit), y_X12_spelt_5 = y_X12_spelt_5_57  → ∀ (H : Heap) (locs : List Loc) (ls : Array Slot), va_P D vwCl [] H → va_D A [] → va_S A s.heap H locs → lv_has ls 9 [(4, .int 0), (5, .int 0), (6, .int 0), (7, .long 11318)] → W p l e ({ frames := 0, cells := 0, slots := 0, locals := 0 } : Room) s m ([.int 111, .int 110, .int 101, .int 0, .int 0, .int 0, .int 0] : List Value).toArray below meth c H locs 0 0 (MQ below ((oQl D (fun (r : Int64) (u : Unit) => (r = 11318) ∧ (r = y_X12_spelt_5)) (fun (u : Unit) => [])) A) ([.int 111, .int 110, .int 101, .int 0, .int 0, .int 0, .int 0] : List Value).toArray s 0 0 A) (F0 m 57 ls []) := by
    intro _  hY H locs ls hP hD hS hl
    have hY := hY.trans (y_X12_spelt_5_57_s )
    refine lv_iload hx hb dX12_spelt_57 (lv_at hl 0 rfl) ?_
    refine lv_if_le (tgt := 78) hx hb dX12_spelt_59 (by decide) (fun _ => ?_) (fun c => absurd (by decide) c)
    exact J78_2 ()  hY H locs ls (oPsub hP [] rfl) (hD.sub [] (by decide) rfl) hS (lv_sub hl [1, 2, 3] rfl)
  have J38_4 : ∀ (_ : Unit), y_X12_spelt_5 = y_X12_spelt_5_38  → ∀ (H : Heap) (locs : List Loc) (ls : Array Slot), va_P D vwCl [] H → va_D A [] → va_S A s.heap H locs → lv_has ls 9 [(3, .int 0), (4, .int 0), (5, .int 0), (6, .int 0), (7, .long 11318)] → W p l e ({ frames := 0, cells := 0, slots := 0, locals := 0 } : Room) s m ([.int 111, .int 110, .int 101, .int 0, .int 0, .int 0, .int 0] : List Value).toArray below meth c H locs 0 0 (MQ below ((oQl D (fun (r : Int64) (u : Unit) => (r = 11318) ∧ (r = y_X12_spelt_5)) (fun (u : Unit) => [])) A) ([.int 111, .int 110, .int 101, .int 0, .int 0, .int 0, .int 0] : List Value).toArray s 0 0 A) (F0 m 38 ls []) := by
    intro _  hY H locs ls hP hD hS hl
    have hY := hY.trans (y_X12_spelt_5_38_s )
    refine lv_iload_n hx hb dX12_spelt_38 rfl (lv_at hl 0 rfl) ?_
    refine lv_if_le (tgt := 57) hx hb dX12_spelt_39 (by decide) (fun _ => ?_) (fun c => absurd (by decide) c)
    exact J57_3 ()  hY H locs ls (oPsub hP [] rfl) (hD.sub [] (by decide) rfl) hS (lv_sub hl [1, 2, 3, 4] rfl)
  refine lv_ldc2 (v := 27) hx hb hown k1 dX12_spelt_0 ?_
  refine lv_iload_n hx hb dX12_spelt_3 rfl (lv_at hl 0 rfl) ?_
  refine lv_i2l (v := 111) hx hb dX12_spelt_4 (by decide) ?_
  refine lv_ldc2 (v := 96) hx hb hown k2 dX12_spelt_5 ?_
  refine lv_lsub hx hb dX12_spelt_8 ?_
  refine otl 15 (by decide +kernel) ?_
  refine lv_lmul hx hb dX12_spelt_9 ?_
  refine otl 405 (by decide +kernel) ?_
  refine lv_iload_n hx hb dX12_spelt_10 rfl (lv_at hl 1 rfl) ?_
  refine lv_i2l (v := 110) hx hb dX12_spelt_11 (by decide) ?_
  refine lv_ladd hx hb dX12_spelt_12 ?_
  refine otl 515 (by decide +kernel) ?_
  refine lv_ldc2 (v := 96) hx hb hown k2 dX12_spelt_13 ?_
  refine lv_lsub hx hb dX12_spelt_16 ?_
  refine otl 419 (by decide +kernel) ?_
  refine lv_lstore (lv' := [(7, .long 419), (0, .int 111), (1, .int 110), (2, .int 101), (3, .int 0), (4, .int 0), (5, .int 0), (6, .int 0)]) hx hb dX12_spelt_17 hl (by decide) rfl (fun ls hl => ?_)
  refine lv_iload_n hx hb dX12_spelt_19 rfl (lv_at hl 3 rfl) ?_
  refine lv_if_le (tgt := 38) hx hb dX12_spelt_20 (by decide) (fun c => absurd c (by decide)) (fun _ => ?_)
  refine lv_ldc2 (v := 27) hx hb hown k1 dX12_spelt_23 ?_
  refine lv_lload hx hb dX12_spelt_26 (lv_at hl 0 rfl) ?_
  refine lv_lmul hx hb dX12_spelt_28 ?_
  refine otl 11313 (by decide +kernel) ?_
  refine lv_iload_n hx hb dX12_spelt_29 rfl (lv_at hl 3 rfl) ?_
  refine lv_i2l (v := 101) hx hb dX12_spelt_30 (by decide) ?_
  refine lv_ladd hx hb dX12_spelt_31 ?_
  refine otl 11414 (by decide +kernel) ?_
  refine lv_ldc2 (v := 96) hx hb hown k2 dX12_spelt_32 ?_
  refine lv_lsub hx hb dX12_spelt_35 ?_
  refine otl 11318 (by decide +kernel) ?_
  refine lv_lstore (lv' := [(7, .long 11318), (0, .int 111), (1, .int 110), (2, .int 101), (3, .int 0), (4, .int 0), (5, .int 0), (6, .int 0)]) hx hb dX12_spelt_36 hl (by decide) rfl (fun ls hl => ?_)
  exact J38_4 ()  hY H locs ls (oPsub hP [] rfl) (hD.sub [] (by decide) rfl) hS (lv_sub hl [4, 5, 6, 7, 0] rfl)
set_option maxHeartbeats 4000000 in
set_option maxRecDepth 100000 in
theorem e_X12_spelt_6 (l : Launch) (D : va_G) (ca : Nat → ClassId) (sz : Nat)   : oMet l yX12_spelt wsX12_spelt ({ frames := 0, cells := 0, slots := 0, locals := 0 } : Room) [.int 100, .int 101, .int 110, .int 116, .int 0, .int 0, .int 0] D ca sz [] (oQl D (fun (r : Int64) (u : Unit) => (r = 82775) ∧ (r = y_X12_spelt_6)) (fun (u : Unit) => [])) 0 0 := by
  refine oM (cc := cX12_spelt) (maxL := 9) (ret := (some .long)) (by decide) rfl (Nat.le_of_ble_eq_true rfl) [(0, .int 100), (1, .int 101), (2, .int 110), (3, .int 116), (4, .int 0), (5, .int 0), (6, .int 0)] rfl ?_
  intro p e s m below meth c A H locs ls hx hb hr hml hts hown hlocks hin hK hP hD hA hS hl
  have hown : s.vm.findClass RX12 = some m.cls := hown
  have hY := y_X12_spelt_6_s 
  have k1 := hts (.constantLong RX12 54 27) (by decide +kernel)
  have k2 := hts (.constantLong RX12 56 96) (by decide +kernel)
  have J99_1 : ∀ (_ : Unit), y_X12_spelt_6 = y_X12_spelt_6_99  → ∀ (H : Heap) (locs : List Loc) (ls : Array Slot), va_P D vwCl [] H → va_D A [] → va_S A s.heap H locs → lv_has ls 9 [(6, .int 0), (7, .long 82775)] → W p l e ({ frames := 0, cells := 0, slots := 0, locals := 0 } : Room) s m ([.int 100, .int 101, .int 110, .int 116, .int 0, .int 0, .int 0] : List Value).toArray below meth c H locs 0 0 (MQ below ((oQl D (fun (r : Int64) (u : Unit) => (r = 82775) ∧ (r = y_X12_spelt_6)) (fun (u : Unit) => [])) A) ([.int 100, .int 101, .int 110, .int 116, .int 0, .int 0, .int 0] : List Value).toArray s 0 0 A) (F0 m 99 ls []) := by
    intro _  hY H locs ls hP hD hS hl
    have hY := hY.trans (y_X12_spelt_6_99_s )
    refine lv_iload hx hb dX12_spelt_99 (lv_at hl 0 rfl) ?_
    refine lv_if_le (tgt := 120) hx hb dX12_spelt_101 (by decide) (fun _ => ?_) (fun c => absurd (by decide) c)
    refine lv_lload hx hb dX12_spelt_120 (lv_at hl 1 rfl) ?_
    exact oE_l hx hb hr hlocks hP hD hS () [] rfl (by decide) ⟨rfl, hY.symm⟩ (Nat.le_of_ble_eq_true rfl) (Nat.le_of_ble_eq_true rfl) dX12_spelt_122
  have J78_2 : ∀ (_ : Unit), y_X12_spelt_6 = y_X12_spelt_6_78  → ∀ (H : Heap) (locs : List Loc) (ls : Array Slot), va_P D vwCl [] H → va_D A [] → va_S A s.heap H locs → lv_has ls 9 [(5, .int 0), (6, .int 0), (7, .long 82775)] → W p l e ({ frames := 0, cells := 0, slots := 0, locals := 0 } : Room) s m ([.int 100, .int 101, .int 110, .int 116, .int 0, .int 0, .int 0] : List Value).toArray below meth c H locs 0 0 (MQ below ((oQl D (fun (r : Int64) (u : Unit) => (r = 82775) ∧ (r = y_X12_spelt_6)) (fun (u : Unit) => [])) A) ([.int 100, .int 101, .int 110, .int 116, .int 0, .int 0, .int 0] : List Value).toArray s 0 0 A) (F0 m 78 ls []) := by
    intro _  hY H locs ls hP hD hS hl
    have hY := hY.trans (y_X12_spelt_6_78_s )
    refine lv_iload hx hb dX12_spelt_78 (lv_at hl 0 rfl) ?_
    refine lv_if_le (tgt := 99) hx hb dX12_spelt_80 (by decide) (fun _ => ?_) (fun c => absurd (by decide) c)
    exact J99_1 ()  hY H locs ls (oPsub hP [] rfl) (hD.sub [] (by decide) rfl) hS (lv_sub hl [1, 2] rfl)
  have J57_3 : ∀ (_ : Unit), y_X12_spelt_6 = y_X12_spelt_6_57  → ∀ (H : Heap) (locs : List Loc) (ls : Array Slot), va_P D vwCl [] H → va_D A [] → va_S A s.heap H locs → lv_has ls 9 [(4, .int 0), (5, .int 0), (6, .int 0), (7, .long 82775)] → W p l e ({ frames := 0, cells := 0, slots := 0, locals := 0 } : Room) s m ([.int 100, .int 101, .int 110, .int 116, .int 0, .int 0, .int 0] : List Value).toArray below meth c H locs 0 0 (MQ below ((oQl D (fun (r : Int64) (u : Unit) => (r = 82775) ∧ (r = y_X12_spelt_6)) (fun (u : Unit) => [])) A) ([.int 100, .int 101, .int 110, .int 116, .int 0, .int 0, .int 0] : List Value).toArray s 0 0 A) (F0 m 57 ls []) := by
    intro _  hY H locs ls hP hD hS hl
    have hY := hY.trans (y_X12_spelt_6_57_s )
    refine lv_iload hx hb dX12_spelt_57 (lv_at hl 0 rfl) ?_
    refine lv_if_le (tgt := 78) hx hb dX12_spelt_59 (by decide) (fun _ => ?_) (fun c => absurd (by decide) c)
    exact J78_2 ()  hY H locs ls (oPsub hP [] rfl) (hD.sub [] (by decide) rfl) hS (lv_sub hl [1, 2, 3] rfl)
  have J38_4 : ∀ (_ : Unit), y_X12_spelt_6 = y_X12_spelt_6_38  → ∀ (H : Heap) (locs : List Loc) (ls : Array Slot), va_P D vwCl [] H → va_D A [] → va_S A s.heap H locs → lv_has ls 9 [(3, .int 116), (4, .int 0), (5, .int 0), (6, .int 0), (7, .long 3065)] → W p l e ({ frames := 0, cells := 0, slots := 0, locals := 0 } : Room) s m ([.int 100, .int 101, .int 110, .int 116, .int 0, .int 0, .int 0] : List Value).toArray below meth c H locs 0 0 (MQ below ((oQl D (fun (r : Int64) (u : Unit) => (r = 82775) ∧ (r = y_X12_spelt_6)) (fun (u : Unit) => [])) A) ([.int 100, .int 101, .int 110, .int 116, .int 0, .int 0, .int 0] : List Value).toArray s 0 0 A) (F0 m 38 ls []) := by
    intro _  hY H locs ls hP hD hS hl
    have hY := hY.trans (y_X12_spelt_6_38_s )
    refine lv_iload_n hx hb dX12_spelt_38 rfl (lv_at hl 0 rfl) ?_
    refine lv_if_le (tgt := 57) hx hb dX12_spelt_39 (by decide) (fun c => absurd c (by decide)) (fun _ => ?_)
    refine lv_ldc2 (v := 27) hx hb hown k1 dX12_spelt_42 ?_
    refine lv_lload hx hb dX12_spelt_45 (lv_at hl 4 rfl) ?_
    refine lv_lmul hx hb dX12_spelt_47 ?_
    refine otl 82755 (by decide +kernel) ?_
    refine lv_iload_n hx hb dX12_spelt_48 rfl (lv_at hl 0 rfl) ?_
    refine lv_i2l (v := 116) hx hb dX12_spelt_49 (by decide) ?_
    refine lv_ladd hx hb dX12_spelt_50 ?_
    refine otl 82871 (by decide +kernel) ?_
    refine lv_ldc2 (v := 96) hx hb hown k2 dX12_spelt_51 ?_
    refine lv_lsub hx hb dX12_spelt_54 ?_
    refine otl 82775 (by decide +kernel) ?_
    refine lv_lstore (lv' := [(7, .long 82775), (3, .int 116), (4, .int 0), (5, .int 0), (6, .int 0)]) hx hb dX12_spelt_55 hl (by decide) rfl (fun ls hl => ?_)
    exact J57_3 ()  hY H locs ls (oPsub hP [] rfl) (hD.sub [] (by decide) rfl) hS (lv_sub hl [2, 3, 4, 0] rfl)
  refine lv_ldc2 (v := 27) hx hb hown k1 dX12_spelt_0 ?_
  refine lv_iload_n hx hb dX12_spelt_3 rfl (lv_at hl 0 rfl) ?_
  refine lv_i2l (v := 100) hx hb dX12_spelt_4 (by decide) ?_
  refine lv_ldc2 (v := 96) hx hb hown k2 dX12_spelt_5 ?_
  refine lv_lsub hx hb dX12_spelt_8 ?_
  refine otl 4 (by decide +kernel) ?_
  refine lv_lmul hx hb dX12_spelt_9 ?_
  refine otl 108 (by decide +kernel) ?_
  refine lv_iload_n hx hb dX12_spelt_10 rfl (lv_at hl 1 rfl) ?_
  refine lv_i2l (v := 101) hx hb dX12_spelt_11 (by decide) ?_
  refine lv_ladd hx hb dX12_spelt_12 ?_
  refine otl 209 (by decide +kernel) ?_
  refine lv_ldc2 (v := 96) hx hb hown k2 dX12_spelt_13 ?_
  refine lv_lsub hx hb dX12_spelt_16 ?_
  refine otl 113 (by decide +kernel) ?_
  refine lv_lstore (lv' := [(7, .long 113), (0, .int 100), (1, .int 101), (2, .int 110), (3, .int 116), (4, .int 0), (5, .int 0), (6, .int 0)]) hx hb dX12_spelt_17 hl (by decide) rfl (fun ls hl => ?_)
  refine lv_iload_n hx hb dX12_spelt_19 rfl (lv_at hl 3 rfl) ?_
  refine lv_if_le (tgt := 38) hx hb dX12_spelt_20 (by decide) (fun c => absurd c (by decide)) (fun _ => ?_)
  refine lv_ldc2 (v := 27) hx hb hown k1 dX12_spelt_23 ?_
  refine lv_lload hx hb dX12_spelt_26 (lv_at hl 0 rfl) ?_
  refine lv_lmul hx hb dX12_spelt_28 ?_
  refine otl 3051 (by decide +kernel) ?_
  refine lv_iload_n hx hb dX12_spelt_29 rfl (lv_at hl 3 rfl) ?_
  refine lv_i2l (v := 110) hx hb dX12_spelt_30 (by decide) ?_
  refine lv_ladd hx hb dX12_spelt_31 ?_
  refine otl 3161 (by decide +kernel) ?_
  refine lv_ldc2 (v := 96) hx hb hown k2 dX12_spelt_32 ?_
  refine lv_lsub hx hb dX12_spelt_35 ?_
  refine otl 3065 (by decide +kernel) ?_
  refine lv_lstore (lv' := [(7, .long 3065), (0, .int 100), (1, .int 101), (2, .int 110), (3, .int 116), (4, .int 0), (5, .int 0), (6, .int 0)]) hx hb dX12_spelt_36 hl (by decide) rfl (fun ls hl => ?_)
  exact J38_4 ()  hY H locs ls (oPsub hP [] rfl) (hD.sub [] (by decide) rfl) hS (lv_sub hl [4, 5, 6, 7, 0] rfl)
set_option maxHeartbeats 4000000 in
set_option maxRecDepth 100000 in
theorem e_X12_spelt_7 (l : Launch) (D : va_G) (ca : Nat → ClassId) (sz : Nat)   : oMet l yX12_spelt wsX12_spelt ({ frames := 0, cells := 0, slots := 0, locals := 0 } : Room) [.int 115, .int 105, .int 116, .int 115, .int 0, .int 0, .int 0] D ca sz [] (oQl D (fun (r : Int64) (u : Unit) => (r = 381097) ∧ (r = y_X12_spelt_7)) (fun (u : Unit) => [])) 0 0 := by
  refine oM (cc := cX12_spelt) (maxL := 9) (ret := (some .long)) (by decide) rfl (Nat.le_of_ble_eq_true rfl) [(0, .int 115), (1, .int 105), (2, .int 116), (3, .int 115), (4, .int 0), (5, .int 0), (6, .int 0)] rfl ?_
  intro p e s m below meth c A H locs ls hx hb hr hml hts hown hlocks hin hK hP hD hA hS hl
  have hown : s.vm.findClass RX12 = some m.cls := hown
  have hY := y_X12_spelt_7_s 
  have k1 := hts (.constantLong RX12 54 27) (by decide +kernel)
  have k2 := hts (.constantLong RX12 56 96) (by decide +kernel)
  have J99_1 : ∀ (_ : Unit), y_X12_spelt_7 = y_X12_spelt_7_99  → ∀ (H : Heap) (locs : List Loc) (ls : Array Slot), va_P D vwCl [] H → va_D A [] → va_S A s.heap H locs → lv_has ls 9 [(6, .int 0), (7, .long 381097)] → W p l e ({ frames := 0, cells := 0, slots := 0, locals := 0 } : Room) s m ([.int 115, .int 105, .int 116, .int 115, .int 0, .int 0, .int 0] : List Value).toArray below meth c H locs 0 0 (MQ below ((oQl D (fun (r : Int64) (u : Unit) => (r = 381097) ∧ (r = y_X12_spelt_7)) (fun (u : Unit) => [])) A) ([.int 115, .int 105, .int 116, .int 115, .int 0, .int 0, .int 0] : List Value).toArray s 0 0 A) (F0 m 99 ls []) := by
    intro _  hY H locs ls hP hD hS hl
    have hY := hY.trans (y_X12_spelt_7_99_s )
    refine lv_iload hx hb dX12_spelt_99 (lv_at hl 0 rfl) ?_
    refine lv_if_le (tgt := 120) hx hb dX12_spelt_101 (by decide) (fun _ => ?_) (fun c => absurd (by decide) c)
    refine lv_lload hx hb dX12_spelt_120 (lv_at hl 1 rfl) ?_
    exact oE_l hx hb hr hlocks hP hD hS () [] rfl (by decide) ⟨rfl, hY.symm⟩ (Nat.le_of_ble_eq_true rfl) (Nat.le_of_ble_eq_true rfl) dX12_spelt_122
  have J78_2 : ∀ (_ : Unit), y_X12_spelt_7 = y_X12_spelt_7_78  → ∀ (H : Heap) (locs : List Loc) (ls : Array Slot), va_P D vwCl [] H → va_D A [] → va_S A s.heap H locs → lv_has ls 9 [(5, .int 0), (6, .int 0), (7, .long 381097)] → W p l e ({ frames := 0, cells := 0, slots := 0, locals := 0 } : Room) s m ([.int 115, .int 105, .int 116, .int 115, .int 0, .int 0, .int 0] : List Value).toArray below meth c H locs 0 0 (MQ below ((oQl D (fun (r : Int64) (u : Unit) => (r = 381097) ∧ (r = y_X12_spelt_7)) (fun (u : Unit) => [])) A) ([.int 115, .int 105, .int 116, .int 115, .int 0, .int 0, .int 0] : List Value).toArray s 0 0 A) (F0 m 78 ls []) := by
    intro _  hY H locs ls hP hD hS hl
    have hY := hY.trans (y_X12_spelt_7_78_s )
    refine lv_iload hx hb dX12_spelt_78 (lv_at hl 0 rfl) ?_
    refine lv_if_le (tgt := 99) hx hb dX12_spelt_80 (by decide) (fun _ => ?_) (fun c => absurd (by decide) c)
    exact J99_1 ()  hY H locs ls (oPsub hP [] rfl) (hD.sub [] (by decide) rfl) hS (lv_sub hl [1, 2] rfl)
  have J57_3 : ∀ (_ : Unit), y_X12_spelt_7 = y_X12_spelt_7_57  → ∀ (H : Heap) (locs : List Loc) (ls : Array Slot), va_P D vwCl [] H → va_D A [] → va_S A s.heap H locs → lv_has ls 9 [(4, .int 0), (5, .int 0), (6, .int 0), (7, .long 381097)] → W p l e ({ frames := 0, cells := 0, slots := 0, locals := 0 } : Room) s m ([.int 115, .int 105, .int 116, .int 115, .int 0, .int 0, .int 0] : List Value).toArray below meth c H locs 0 0 (MQ below ((oQl D (fun (r : Int64) (u : Unit) => (r = 381097) ∧ (r = y_X12_spelt_7)) (fun (u : Unit) => [])) A) ([.int 115, .int 105, .int 116, .int 115, .int 0, .int 0, .int 0] : List Value).toArray s 0 0 A) (F0 m 57 ls []) := by
    intro _  hY H locs ls hP hD hS hl
    have hY := hY.trans (y_X12_spelt_7_57_s )
    refine lv_iload hx hb dX12_spelt_57 (lv_at hl 0 rfl) ?_
    refine lv_if_le (tgt := 78) hx hb dX12_spelt_59 (by decide) (fun _ => ?_) (fun c => absurd (by decide) c)
    exact J78_2 ()  hY H locs ls (oPsub hP [] rfl) (hD.sub [] (by decide) rfl) hS (lv_sub hl [1, 2, 3] rfl)
  have J38_4 : ∀ (_ : Unit), y_X12_spelt_7 = y_X12_spelt_7_38  → ∀ (H : Heap) (locs : List Loc) (ls : Array Slot), va_P D vwCl [] H → va_D A [] → va_S A s.heap H locs → lv_has ls 9 [(3, .int 115), (4, .int 0), (5, .int 0), (6, .int 0), (7, .long 14114)] → W p l e ({ frames := 0, cells := 0, slots := 0, locals := 0 } : Room) s m ([.int 115, .int 105, .int 116, .int 115, .int 0, .int 0, .int 0] : List Value).toArray below meth c H locs 0 0 (MQ below ((oQl D (fun (r : Int64) (u : Unit) => (r = 381097) ∧ (r = y_X12_spelt_7)) (fun (u : Unit) => [])) A) ([.int 115, .int 105, .int 116, .int 115, .int 0, .int 0, .int 0] : List Value).toArray s 0 0 A) (F0 m 38 ls []) := by
    intro _  hY H locs ls hP hD hS hl
    have hY := hY.trans (y_X12_spelt_7_38_s )
    refine lv_iload_n hx hb dX12_spelt_38 rfl (lv_at hl 0 rfl) ?_
    refine lv_if_le (tgt := 57) hx hb dX12_spelt_39 (by decide) (fun c => absurd c (by decide)) (fun _ => ?_)
    refine lv_ldc2 (v := 27) hx hb hown k1 dX12_spelt_42 ?_
    refine lv_lload hx hb dX12_spelt_45 (lv_at hl 4 rfl) ?_
    refine lv_lmul hx hb dX12_spelt_47 ?_
    refine otl 381078 (by decide +kernel) ?_
    refine lv_iload_n hx hb dX12_spelt_48 rfl (lv_at hl 0 rfl) ?_
    refine lv_i2l (v := 115) hx hb dX12_spelt_49 (by decide) ?_
    refine lv_ladd hx hb dX12_spelt_50 ?_
    refine otl 381193 (by decide +kernel) ?_
    refine lv_ldc2 (v := 96) hx hb hown k2 dX12_spelt_51 ?_
    refine lv_lsub hx hb dX12_spelt_54 ?_
    refine otl 381097 (by decide +kernel) ?_
    refine lv_lstore (lv' := [(7, .long 381097), (3, .int 115), (4, .int 0), (5, .int 0), (6, .int 0)]) hx hb dX12_spelt_55 hl (by decide) rfl (fun ls hl => ?_)
    exact J57_3 ()  hY H locs ls (oPsub hP [] rfl) (hD.sub [] (by decide) rfl) hS (lv_sub hl [2, 3, 4, 0] rfl)
  refine lv_ldc2 (v := 27) hx hb hown k1 dX12_spelt_0 ?_
  refine lv_iload_n hx hb dX12_spelt_3 rfl (lv_at hl 0 rfl) ?_
  refine lv_i2l (v := 115) hx hb dX12_spelt_4 (by decide) ?_
  refine lv_ldc2 (v := 96) hx hb hown k2 dX12_spelt_5 ?_
  refine lv_lsub hx hb dX12_spelt_8 ?_
  refine otl 19 (by decide +kernel) ?_
  refine lv_lmul hx hb dX12_spelt_9 ?_
  refine otl 513 (by decide +kernel) ?_
  refine lv_iload_n hx hb dX12_spelt_10 rfl (lv_at hl 1 rfl) ?_
  refine lv_i2l (v := 105) hx hb dX12_spelt_11 (by decide) ?_
  refine lv_ladd hx hb dX12_spelt_12 ?_
  refine otl 618 (by decide +kernel) ?_
  refine lv_ldc2 (v := 96) hx hb hown k2 dX12_spelt_13 ?_
  refine lv_lsub hx hb dX12_spelt_16 ?_
  refine otl 522 (by decide +kernel) ?_
  refine lv_lstore (lv' := [(7, .long 522), (0, .int 115), (1, .int 105), (2, .int 116), (3, .int 115), (4, .int 0), (5, .int 0), (6, .int 0)]) hx hb dX12_spelt_17 hl (by decide) rfl (fun ls hl => ?_)
  refine lv_iload_n hx hb dX12_spelt_19 rfl (lv_at hl 3 rfl) ?_
  refine lv_if_le (tgt := 38) hx hb dX12_spelt_20 (by decide) (fun c => absurd c (by decide)) (fun _ => ?_)
  refine lv_ldc2 (v := 27) hx hb hown k1 dX12_spelt_23 ?_
  refine lv_lload hx hb dX12_spelt_26 (lv_at hl 0 rfl) ?_
  refine lv_lmul hx hb dX12_spelt_28 ?_
  refine otl 14094 (by decide +kernel) ?_
  refine lv_iload_n hx hb dX12_spelt_29 rfl (lv_at hl 3 rfl) ?_
  refine lv_i2l (v := 116) hx hb dX12_spelt_30 (by decide) ?_
  refine lv_ladd hx hb dX12_spelt_31 ?_
  refine otl 14210 (by decide +kernel) ?_
  refine lv_ldc2 (v := 96) hx hb hown k2 dX12_spelt_32 ?_
  refine lv_lsub hx hb dX12_spelt_35 ?_
  refine otl 14114 (by decide +kernel) ?_
  refine lv_lstore (lv' := [(7, .long 14114), (0, .int 115), (1, .int 105), (2, .int 116), (3, .int 115), (4, .int 0), (5, .int 0), (6, .int 0)]) hx hb dX12_spelt_36 hl (by decide) rfl (fun ls hl => ?_)
  exact J38_4 ()  hY H locs ls (oPsub hP [] rfl) (hD.sub [] (by decide) rfl) hS (lv_sub hl [4, 5, 6, 7, 0] rfl)
set_option maxHeartbeats 4000000 in
set_option maxRecDepth 100000 in
theorem e_X12_spelt_8 (l : Launch) (D : va_G) (ca : Nat → ClassId) (sz : Nat)   : oMet l yX12_spelt wsX12_spelt ({ frames := 0, cells := 0, slots := 0, locals := 0 } : Room) [.int 114, .int 105, .int 115, .int 101, .int 115, .int 0, .int 0] D ca sz [] (oQl D (fun (r : Int64) (u : Unit) => (r = 9757090) ∧ (r = y_X12_spelt_8)) (fun (u : Unit) => [])) 0 0 := by
  refine oM (cc := cX12_spelt) (maxL := 9) (ret := (some .long)) (by decide) rfl (Nat.le_of_ble_eq_true rfl) [(0, .int 114), (1, .int 105), (2, .int 115), (3, .int 101), (4, .int 115), (5, .int 0), (6, .int 0)] rfl ?_
  intro p e s m below meth c A H locs ls hx hb hr hml hts hown hlocks hin hK hP hD hA hS hl
  have hown : s.vm.findClass RX12 = some m.cls := hown
  have hY := y_X12_spelt_8_s 
  have k1 := hts (.constantLong RX12 54 27) (by decide +kernel)
  have k2 := hts (.constantLong RX12 56 96) (by decide +kernel)
  have J99_1 : ∀ (_ : Unit), y_X12_spelt_8 = y_X12_spelt_8_99  → ∀ (H : Heap) (locs : List Loc) (ls : Array Slot), va_P D vwCl [] H → va_D A [] → va_S A s.heap H locs → lv_has ls 9 [(6, .int 0), (7, .long 9757090)] → W p l e ({ frames := 0, cells := 0, slots := 0, locals := 0 } : Room) s m ([.int 114, .int 105, .int 115, .int 101, .int 115, .int 0, .int 0] : List Value).toArray below meth c H locs 0 0 (MQ below ((oQl D (fun (r : Int64) (u : Unit) => (r = 9757090) ∧ (r = y_X12_spelt_8)) (fun (u : Unit) => [])) A) ([.int 114, .int 105, .int 115, .int 101, .int 115, .int 0, .int 0] : List Value).toArray s 0 0 A) (F0 m 99 ls []) := by
    intro _  hY H locs ls hP hD hS hl
    have hY := hY.trans (y_X12_spelt_8_99_s )
    refine lv_iload hx hb dX12_spelt_99 (lv_at hl 0 rfl) ?_
    refine lv_if_le (tgt := 120) hx hb dX12_spelt_101 (by decide) (fun _ => ?_) (fun c => absurd (by decide) c)
    refine lv_lload hx hb dX12_spelt_120 (lv_at hl 1 rfl) ?_
    exact oE_l hx hb hr hlocks hP hD hS () [] rfl (by decide) ⟨rfl, hY.symm⟩ (Nat.le_of_ble_eq_true rfl) (Nat.le_of_ble_eq_true rfl) dX12_spelt_122
  have J78_2 : ∀ (_ : Unit), y_X12_spelt_8 = y_X12_spelt_8_78  → ∀ (H : Heap) (locs : List Loc) (ls : Array Slot), va_P D vwCl [] H → va_D A [] → va_S A s.heap H locs → lv_has ls 9 [(5, .int 0), (6, .int 0), (7, .long 9757090)] → W p l e ({ frames := 0, cells := 0, slots := 0, locals := 0 } : Room) s m ([.int 114, .int 105, .int 115, .int 101, .int 115, .int 0, .int 0] : List Value).toArray below meth c H locs 0 0 (MQ below ((oQl D (fun (r : Int64) (u : Unit) => (r = 9757090) ∧ (r = y_X12_spelt_8)) (fun (u : Unit) => [])) A) ([.int 114, .int 105, .int 115, .int 101, .int 115, .int 0, .int 0] : List Value).toArray s 0 0 A) (F0 m 78 ls []) := by
    intro _  hY H locs ls hP hD hS hl
    have hY := hY.trans (y_X12_spelt_8_78_s )
    refine lv_iload hx hb dX12_spelt_78 (lv_at hl 0 rfl) ?_
    refine lv_if_le (tgt := 99) hx hb dX12_spelt_80 (by decide) (fun _ => ?_) (fun c => absurd (by decide) c)
    exact J99_1 ()  hY H locs ls (oPsub hP [] rfl) (hD.sub [] (by decide) rfl) hS (lv_sub hl [1, 2] rfl)
  have J57_3 : ∀ (_ : Unit), y_X12_spelt_8 = y_X12_spelt_8_57  → ∀ (H : Heap) (locs : List Loc) (ls : Array Slot), va_P D vwCl [] H → va_D A [] → va_S A s.heap H locs → lv_has ls 9 [(4, .int 115), (5, .int 0), (6, .int 0), (7, .long 361373)] → W p l e ({ frames := 0, cells := 0, slots := 0, locals := 0 } : Room) s m ([.int 114, .int 105, .int 115, .int 101, .int 115, .int 0, .int 0] : List Value).toArray below meth c H locs 0 0 (MQ below ((oQl D (fun (r : Int64) (u : Unit) => (r = 9757090) ∧ (r = y_X12_spelt_8)) (fun (u : Unit) => [])) A) ([.int 114, .int 105, .int 115, .int 101, .int 115, .int 0, .int 0] : List Value).toArray s 0 0 A) (F0 m 57 ls []) := by
    intro _  hY H locs ls hP hD hS hl
    have hY := hY.trans (y_X12_spelt_8_57_s )
    refine lv_iload hx hb dX12_spelt_57 (lv_at hl 0 rfl) ?_
    refine lv_if_le (tgt := 78) hx hb dX12_spelt_59 (by decide) (fun c => absurd c (by decide)) (fun _ => ?_)
    refine lv_ldc2 (v := 27) hx hb hown k1 dX12_spelt_62 ?_
    refine lv_lload hx hb dX12_spelt_65 (lv_at hl 3 rfl) ?_
    refine lv_lmul hx hb dX12_spelt_67 ?_
    refine otl 9757071 (by decide +kernel) ?_
    refine lv_iload hx hb dX12_spelt_68 (lv_at hl 0 rfl) ?_
    refine lv_i2l (v := 115) hx hb dX12_spelt_70 (by decide) ?_
    refine lv_ladd hx hb dX12_spelt_71 ?_
    refine otl 9757186 (by decide +kernel) ?_
    refine lv_ldc2 (v := 96) hx hb hown k2 dX12_spelt_72 ?_
    refine lv_lsub hx hb dX12_spelt_75 ?_
    refine otl 9757090 (by decide +kernel) ?_
    refine lv_lstore (lv' := [(7, .long 9757090), (4, .int 115), (5, .int 0), (6, .int 0)]) hx hb dX12_spelt_76 hl (by decide) rfl (fun ls hl => ?_)
    exact J78_2 ()  hY H locs ls (oPsub hP [] rfl) (hD.sub [] (by decide) rfl) hS (lv_sub hl [2, 3, 0] rfl)
  have J38_4 : ∀ (_ : Unit), y_X12_spelt_8 = y_X12_spelt_8_38  → ∀ (H : Heap) (locs : List Loc) (ls : Array Slot), va_P D vwCl [] H → va_D A [] → va_S A s.heap H locs → lv_has ls 9 [(3, .int 101), (4, .int 115), (5, .int 0), (6, .int 0), (7, .long 13384)] → W p l e ({ frames := 0, cells := 0, slots := 0, locals := 0 } : Room) s m ([.int 114, .int 105, .int 115, .int 101, .int 115, .int 0, .int 0] : List Value).toArray below meth c H locs 0 0 (MQ below ((oQl D (fun (r : Int64) (u : Unit) => (r = 9757090) ∧ (r = y_X12_spelt_8)) (fun (u : Unit) => [])) A) ([.int 114, .int 105, .int 115, .int 101, .int 115, .int 0, .int 0] : List Value).toArray s 0 0 A) (F0 m 38 ls []) := by
    intro _  hY H locs ls hP hD hS hl
    have hY := hY.trans (y_X12_spelt_8_38_s )
    refine lv_iload_n hx hb dX12_spelt_38 rfl (lv_at hl 0 rfl) ?_
    refine lv_if_le (tgt := 57) hx hb dX12_spelt_39 (by decide) (fun c => absurd c (by decide)) (fun _ => ?_)
    refine lv_ldc2 (v := 27) hx hb hown k1 dX12_spelt_42 ?_
    refine lv_lload hx hb dX12_spelt_45 (lv_at hl 4 rfl) ?_
    refine lv_lmul hx hb dX12_spelt_47 ?_
    refine otl 361368 (by decide +kernel) ?_
    refine lv_iload_n hx hb dX12_spelt_48 rfl (lv_at hl 0 rfl) ?_
    refine lv_i2l (v := 101) hx hb dX12_spelt_49 (by decide) ?_
    refine lv_ladd hx hb dX12_spelt_50 ?_
    refine otl 361469 (by decide +kernel) ?_
    refine lv_ldc2 (v := 96) hx hb hown k2 dX12_spelt_51 ?_
    refine lv_lsub hx hb dX12_spelt_54 ?_
    refine otl 361373 (by decide +kernel) ?_
    refine lv_lstore (lv' := [(7, .long 361373), (3, .int 101), (4, .int 115), (5, .int 0), (6, .int 0)]) hx hb dX12_spelt_55 hl (by decide) rfl (fun ls hl => ?_)
    exact J57_3 ()  hY H locs ls (oPsub hP [] rfl) (hD.sub [] (by decide) rfl) hS (lv_sub hl [2, 3, 4, 0] rfl)
  refine lv_ldc2 (v := 27) hx hb hown k1 dX12_spelt_0 ?_
  refine lv_iload_n hx hb dX12_spelt_3 rfl (lv_at hl 0 rfl) ?_
  refine lv_i2l (v := 114) hx hb dX12_spelt_4 (by decide) ?_
  refine lv_ldc2 (v := 96) hx hb hown k2 dX12_spelt_5 ?_
  refine lv_lsub hx hb dX12_spelt_8 ?_
  refine otl 18 (by decide +kernel) ?_
  refine lv_lmul hx hb dX12_spelt_9 ?_
  refine otl 486 (by decide +kernel) ?_
  refine lv_iload_n hx hb dX12_spelt_10 rfl (lv_at hl 1 rfl) ?_
  refine lv_i2l (v := 105) hx hb dX12_spelt_11 (by decide) ?_
  refine lv_ladd hx hb dX12_spelt_12 ?_
  refine otl 591 (by decide +kernel) ?_
  refine lv_ldc2 (v := 96) hx hb hown k2 dX12_spelt_13 ?_
  refine lv_lsub hx hb dX12_spelt_16 ?_
  refine otl 495 (by decide +kernel) ?_
  refine lv_lstore (lv' := [(7, .long 495), (0, .int 114), (1, .int 105), (2, .int 115), (3, .int 101), (4, .int 115), (5, .int 0), (6, .int 0)]) hx hb dX12_spelt_17 hl (by decide) rfl (fun ls hl => ?_)
  refine lv_iload_n hx hb dX12_spelt_19 rfl (lv_at hl 3 rfl) ?_
  refine lv_if_le (tgt := 38) hx hb dX12_spelt_20 (by decide) (fun c => absurd c (by decide)) (fun _ => ?_)
  refine lv_ldc2 (v := 27) hx hb hown k1 dX12_spelt_23 ?_
  refine lv_lload hx hb dX12_spelt_26 (lv_at hl 0 rfl) ?_
  refine lv_lmul hx hb dX12_spelt_28 ?_
  refine otl 13365 (by decide +kernel) ?_
  refine lv_iload_n hx hb dX12_spelt_29 rfl (lv_at hl 3 rfl) ?_
  refine lv_i2l (v := 115) hx hb dX12_spelt_30 (by decide) ?_
  refine lv_ladd hx hb dX12_spelt_31 ?_
  refine otl 13480 (by decide +kernel) ?_
  refine lv_ldc2 (v := 96) hx hb hown k2 dX12_spelt_32 ?_
  refine lv_lsub hx hb dX12_spelt_35 ?_
  refine otl 13384 (by decide +kernel) ?_
  refine lv_lstore (lv' := [(7, .long 13384), (0, .int 114), (1, .int 105), (2, .int 115), (3, .int 101), (4, .int 115), (5, .int 0), (6, .int 0)]) hx hb dX12_spelt_36 hl (by decide) rfl (fun ls hl => ?_)
  exact J38_4 ()  hY H locs ls (oPsub hP [] rfl) (hD.sub [] (by decide) rfl) hS (lv_sub hl [4, 5, 6, 7, 0] rfl)
set_option maxHeartbeats 4000000 in
set_option maxRecDepth 100000 in
theorem e_X12_spelt_9 (l : Launch) (D : va_G) (ca : Nat → ClassId) (sz : Nat)   : oMet l yX12_spelt wsX12_spelt ({ frames := 0, cells := 0, slots := 0, locals := 0 } : Room) [.int 104, .int 111, .int 108, .int 100, .int 115, .int 0, .int 0] D ca sz [] (oQl D (fun (r : Int64) (u : Unit) => (r = 4555648) ∧ (r = y_X12_spelt_9)) (fun (u : Unit) => [])) 0 0 := by
  refine oM (cc := cX12_spelt) (maxL := 9) (ret := (some .long)) (by decide) rfl (Nat.le_of_ble_eq_true rfl) [(0, .int 104), (1, .int 111), (2, .int 108), (3, .int 100), (4, .int 115), (5, .int 0), (6, .int 0)] rfl ?_
  intro p e s m below meth c A H locs ls hx hb hr hml hts hown hlocks hin hK hP hD hA hS hl
  have hown : s.vm.findClass RX12 = some m.cls := hown
  have hY := y_X12_spelt_9_s 
  have k1 := hts (.constantLong RX12 54 27) (by decide +kernel)
  have k2 := hts (.constantLong RX12 56 96) (by decide +kernel)
  have J99_1 : ∀ (_ : Unit), y_X12_spelt_9 = y_X12_spelt_9_99  → ∀ (H : Heap) (locs : List Loc) (ls : Array Slot), va_P D vwCl [] H → va_D A [] → va_S A s.heap H locs → lv_has ls 9 [(6, .int 0), (7, .long 4555648)] → W p l e ({ frames := 0, cells := 0, slots := 0, locals := 0 } : Room) s m ([.int 104, .int 111, .int 108, .int 100, .int 115, .int 0, .int 0] : List Value).toArray below meth c H locs 0 0 (MQ below ((oQl D (fun (r : Int64) (u : Unit) => (r = 4555648) ∧ (r = y_X12_spelt_9)) (fun (u : Unit) => [])) A) ([.int 104, .int 111, .int 108, .int 100, .int 115, .int 0, .int 0] : List Value).toArray s 0 0 A) (F0 m 99 ls []) := by
    intro _  hY H locs ls hP hD hS hl
    have hY := hY.trans (y_X12_spelt_9_99_s )
    refine lv_iload hx hb dX12_spelt_99 (lv_at hl 0 rfl) ?_
    refine lv_if_le (tgt := 120) hx hb dX12_spelt_101 (by decide) (fun _ => ?_) (fun c => absurd (by decide) c)
    refine lv_lload hx hb dX12_spelt_120 (lv_at hl 1 rfl) ?_
    exact oE_l hx hb hr hlocks hP hD hS () [] rfl (by decide) ⟨rfl, hY.symm⟩ (Nat.le_of_ble_eq_true rfl) (Nat.le_of_ble_eq_true rfl) dX12_spelt_122
  have J78_2 : ∀ (_ : Unit), y_X12_spelt_9 = y_X12_spelt_9_78  → ∀ (H : Heap) (locs : List Loc) (ls : Array Slot), va_P D vwCl [] H → va_D A [] → va_S A s.heap H locs → lv_has ls 9 [(5, .int 0), (6, .int 0), (7, .long 4555648)] → W p l e ({ frames := 0, cells := 0, slots := 0, locals := 0 } : Room) s m ([.int 104, .int 111, .int 108, .int 100, .int 115, .int 0, .int 0] : List Value).toArray below meth c H locs 0 0 (MQ below ((oQl D (fun (r : Int64) (u : Unit) => (r = 4555648) ∧ (r = y_X12_spelt_9)) (fun (u : Unit) => [])) A) ([.int 104, .int 111, .int 108, .int 100, .int 115, .int 0, .int 0] : List Value).toArray s 0 0 A) (F0 m 78 ls []) := by
    intro _  hY H locs ls hP hD hS hl
    have hY := hY.trans (y_X12_spelt_9_78_s )
    refine lv_iload hx hb dX12_spelt_78 (lv_at hl 0 rfl) ?_
    refine lv_if_le (tgt := 99) hx hb dX12_spelt_80 (by decide) (fun _ => ?_) (fun c => absurd (by decide) c)
    exact J99_1 ()  hY H locs ls (oPsub hP [] rfl) (hD.sub [] (by decide) rfl) hS (lv_sub hl [1, 2] rfl)
  have J57_3 : ∀ (_ : Unit), y_X12_spelt_9 = y_X12_spelt_9_57  → ∀ (H : Heap) (locs : List Loc) (ls : Array Slot), va_P D vwCl [] H → va_D A [] → va_S A s.heap H locs → lv_has ls 9 [(4, .int 115), (5, .int 0), (6, .int 0), (7, .long 168727)] → W p l e ({ frames := 0, cells := 0, slots := 0, locals := 0 } : Room) s m ([.int 104, .int 111, .int 108, .int 100, .int 115, .int 0, .int 0] : List Value).toArray below meth c H locs 0 0 (MQ below ((oQl D (fun (r : Int64) (u : Unit) => (r = 4555648) ∧ (r = y_X12_spelt_9)) (fun (u : Unit) => [])) A) ([.int 104, .int 111, .int 108, .int 100, .int 115, .int 0, .int 0] : List Value).toArray s 0 0 A) (F0 m 57 ls []) := by
    intro _  hY H locs ls hP hD hS hl
    have hY := hY.trans (y_X12_spelt_9_57_s )
    refine lv_iload hx hb dX12_spelt_57 (lv_at hl 0 rfl) ?_
    refine lv_if_le (tgt := 78) hx hb dX12_spelt_59 (by decide) (fun c => absurd c (by decide)) (fun _ => ?_)
    refine lv_ldc2 (v := 27) hx hb hown k1 dX12_spelt_62 ?_
    refine lv_lload hx hb dX12_spelt_65 (lv_at hl 3 rfl) ?_
    refine lv_lmul hx hb dX12_spelt_67 ?_
    refine otl 4555629 (by decide +kernel) ?_
    refine lv_iload hx hb dX12_spelt_68 (lv_at hl 0 rfl) ?_
    refine lv_i2l (v := 115) hx hb dX12_spelt_70 (by decide) ?_
    refine lv_ladd hx hb dX12_spelt_71 ?_
    refine otl 4555744 (by decide +kernel) ?_
    refine lv_ldc2 (v := 96) hx hb hown k2 dX12_spelt_72 ?_
    refine lv_lsub hx hb dX12_spelt_75 ?_
    refine otl 4555648 (by decide +kernel) ?_
    refine lv_lstore (lv' := [(7, .long 4555648), (4, .int 115), (5, .int 0), (6, .int 0)]) hx hb dX12_spelt_76 hl (by decide) rfl (fun ls hl => ?_)
    exact J78_2 ()  hY H locs ls (oPsub hP [] rfl) (hD.sub [] (by decide) rfl) hS (lv_sub hl [2, 3, 0] rfl)
  have J38_4 : ∀ (_ : Unit), y_X12_spelt_9 = y_X12_spelt_9_38  → ∀ (H : Heap) (locs : List Loc) (ls : Array Slot), va_P D vwCl [] H → va_D A [] → va_S A s.heap H locs → lv_has ls 9 [(3, .int 100), (4, .int 115), (5, .int 0), (6, .int 0), (7, .long 6249)] → W p l e ({ frames := 0, cells := 0, slots := 0, locals := 0 } : Room) s m ([.int 104, .int 111, .int 108, .int 100, .int 115, .int 0, .int 0] : List Value).toArray below meth c H locs 0 0 (MQ below ((oQl D (fun (r : Int64) (u : Unit) => (r = 4555648) ∧ (r = y_X12_spelt_9)) (fun (u : Unit) => [])) A) ([.int 104, .int 111, .int 108, .int 100, .int 115, .int 0, .int 0] : List Value).toArray s 0 0 A) (F0 m 38 ls []) := by
    intro _  hY H locs ls hP hD hS hl
    have hY := hY.trans (y_X12_spelt_9_38_s )
    refine lv_iload_n hx hb dX12_spelt_38 rfl (lv_at hl 0 rfl) ?_
    refine lv_if_le (tgt := 57) hx hb dX12_spelt_39 (by decide) (fun c => absurd c (by decide)) (fun _ => ?_)
    refine lv_ldc2 (v := 27) hx hb hown k1 dX12_spelt_42 ?_
    refine lv_lload hx hb dX12_spelt_45 (lv_at hl 4 rfl) ?_
    refine lv_lmul hx hb dX12_spelt_47 ?_
    refine otl 168723 (by decide +kernel) ?_
    refine lv_iload_n hx hb dX12_spelt_48 rfl (lv_at hl 0 rfl) ?_
    refine lv_i2l (v := 100) hx hb dX12_spelt_49 (by decide) ?_
    refine lv_ladd hx hb dX12_spelt_50 ?_
    refine otl 168823 (by decide +kernel) ?_
    refine lv_ldc2 (v := 96) hx hb hown k2 dX12_spelt_51 ?_
    refine lv_lsub hx hb dX12_spelt_54 ?_
    refine otl 168727 (by decide +kernel) ?_
    refine lv_lstore (lv' := [(7, .long 168727), (3, .int 100), (4, .int 115), (5, .int 0), (6, .int 0)]) hx hb dX12_spelt_55 hl (by decide) rfl (fun ls hl => ?_)
    exact J57_3 ()  hY H locs ls (oPsub hP [] rfl) (hD.sub [] (by decide) rfl) hS (lv_sub hl [2, 3, 4, 0] rfl)
  refine lv_ldc2 (v := 27) hx hb hown k1 dX12_spelt_0 ?_
  refine lv_iload_n hx hb dX12_spelt_3 rfl (lv_at hl 0 rfl) ?_
  refine lv_i2l (v := 104) hx hb dX12_spelt_4 (by decide) ?_
  refine lv_ldc2 (v := 96) hx hb hown k2 dX12_spelt_5 ?_
  refine lv_lsub hx hb dX12_spelt_8 ?_
  refine otl 8 (by decide +kernel) ?_
  refine lv_lmul hx hb dX12_spelt_9 ?_
  refine otl 216 (by decide +kernel) ?_
  refine lv_iload_n hx hb dX12_spelt_10 rfl (lv_at hl 1 rfl) ?_
  refine lv_i2l (v := 111) hx hb dX12_spelt_11 (by decide) ?_
  refine lv_ladd hx hb dX12_spelt_12 ?_
  refine otl 327 (by decide +kernel) ?_
  refine lv_ldc2 (v := 96) hx hb hown k2 dX12_spelt_13 ?_
  refine lv_lsub hx hb dX12_spelt_16 ?_
  refine otl 231 (by decide +kernel) ?_
  refine lv_lstore (lv' := [(7, .long 231), (0, .int 104), (1, .int 111), (2, .int 108), (3, .int 100), (4, .int 115), (5, .int 0), (6, .int 0)]) hx hb dX12_spelt_17 hl (by decide) rfl (fun ls hl => ?_)
  refine lv_iload_n hx hb dX12_spelt_19 rfl (lv_at hl 3 rfl) ?_
  refine lv_if_le (tgt := 38) hx hb dX12_spelt_20 (by decide) (fun c => absurd c (by decide)) (fun _ => ?_)
  refine lv_ldc2 (v := 27) hx hb hown k1 dX12_spelt_23 ?_
  refine lv_lload hx hb dX12_spelt_26 (lv_at hl 0 rfl) ?_
  refine lv_lmul hx hb dX12_spelt_28 ?_
  refine otl 6237 (by decide +kernel) ?_
  refine lv_iload_n hx hb dX12_spelt_29 rfl (lv_at hl 3 rfl) ?_
  refine lv_i2l (v := 108) hx hb dX12_spelt_30 (by decide) ?_
  refine lv_ladd hx hb dX12_spelt_31 ?_
  refine otl 6345 (by decide +kernel) ?_
  refine lv_ldc2 (v := 96) hx hb hown k2 dX12_spelt_32 ?_
  refine lv_lsub hx hb dX12_spelt_35 ?_
  refine otl 6249 (by decide +kernel) ?_
  refine lv_lstore (lv' := [(7, .long 6249), (0, .int 104), (1, .int 111), (2, .int 108), (3, .int 100), (4, .int 115), (5, .int 0), (6, .int 0)]) hx hb dX12_spelt_36 hl (by decide) rfl (fun ls hl => ?_)
  exact J38_4 ()  hY H locs ls (oPsub hP [] rfl) (hD.sub [] (by decide) rfl) hS (lv_sub hl [4, 5, 6, 7, 0] rfl)
set_option maxHeartbeats 4000000 in
set_option maxRecDepth 100000 in
theorem e_X12_spelt_10 (l : Launch) (D : va_G) (ca : Nat → ClassId) (sz : Nat)   : oMet l yX12_spelt wsX12_spelt ({ frames := 0, cells := 0, slots := 0, locals := 0 } : Room) [.int 100, .int 114, .int 111, .int 112, .int 115, .int 0, .int 0] D ca sz [] (oQl D (fun (r : Int64) (u : Unit) => (r = 2491444) ∧ (r = y_X12_spelt_10)) (fun (u : Unit) => [])) 0 0 := by
  refine oM (cc := cX12_spelt) (maxL := 9) (ret := (some .long)) (by decide) rfl (Nat.le_of_ble_eq_true rfl) [(0, .int 100), (1, .int 114), (2, .int 111), (3, .int 112), (4, .int 115), (5, .int 0), (6, .int 0)] rfl ?_
  intro p e s m below meth c A H locs ls hx hb hr hml hts hown hlocks hin hK hP hD hA hS hl
  have hown : s.vm.findClass RX12 = some m.cls := hown
  have hY := y_X12_spelt_10_s 
  have k1 := hts (.constantLong RX12 54 27) (by decide +kernel)
  have k2 := hts (.constantLong RX12 56 96) (by decide +kernel)
  have J99_1 : ∀ (_ : Unit), y_X12_spelt_10 = y_X12_spelt_10_99  → ∀ (H : Heap) (locs : List Loc) (ls : Array Slot), va_P D vwCl [] H → va_D A [] → va_S A s.heap H locs → lv_has ls 9 [(6, .int 0), (7, .long 2491444)] → W p l e ({ frames := 0, cells := 0, slots := 0, locals := 0 } : Room) s m ([.int 100, .int 114, .int 111, .int 112, .int 115, .int 0, .int 0] : List Value).toArray below meth c H locs 0 0 (MQ below ((oQl D (fun (r : Int64) (u : Unit) => (r = 2491444) ∧ (r = y_X12_spelt_10)) (fun (u : Unit) => [])) A) ([.int 100, .int 114, .int 111, .int 112, .int 115, .int 0, .int 0] : List Value).toArray s 0 0 A) (F0 m 99 ls []) := by
    intro _  hY H locs ls hP hD hS hl
    have hY := hY.trans (y_X12_spelt_10_99_s )
    refine lv_iload hx hb dX12_spelt_99 (lv_at hl 0 rfl) ?_
    refine lv_if_le (tgt := 120) hx hb dX12_spelt_101 (by decide) (fun _ => ?_) (fun c => absurd (by decide) c)
    refine lv_lload hx hb dX12_spelt_120 (lv_at hl 1 rfl) ?_
    exact oE_l hx hb hr hlocks hP hD hS () [] rfl (by decide) ⟨rfl, hY.symm⟩ (Nat.le_of_ble_eq_true rfl) (Nat.le_of_ble_eq_true rfl) dX12_spelt_122
  have J78_2 : ∀ (_ : Unit), y_X12_spelt_10 = y_X12_spelt_10_78  → ∀ (H : Heap) (locs : List Loc) (ls : Array Slot), va_P D vwCl [] H → va_D A [] → va_S A s.heap H locs → lv_has ls 9 [(5, .int 0), (6, .int 0), (7, .long 2491444)] → W p l e ({ frames := 0, cells := 0, slots := 0, locals := 0 } : Room) s m ([.int 100, .int 114, .int 111, .int 112, .int 115, .int 0, .int 0] : List Value).toArray below meth c H locs 0 0 (MQ below ((oQl D (fun (r : Int64) (u : Unit) => (r = 2491444) ∧ (r = y_X12_spelt_10)) (fun (u : Unit) => [])) A) ([.int 100, .int 114, .int 111, .int 112, .int 115, .int 0, .int 0] : List Value).toArray s 0 0 A) (F0 m 78 ls []) := by
    intro _  hY H locs ls hP hD hS hl
    have hY := hY.trans (y_X12_spelt_10_78_s )
    refine lv_iload hx hb dX12_spelt_78 (lv_at hl 0 rfl) ?_
    refine lv_if_le (tgt := 99) hx hb dX12_spelt_80 (by decide) (fun _ => ?_) (fun c => absurd (by decide) c)
    exact J99_1 ()  hY H locs ls (oPsub hP [] rfl) (hD.sub [] (by decide) rfl) hS (lv_sub hl [1, 2] rfl)
  have J57_3 : ∀ (_ : Unit), y_X12_spelt_10 = y_X12_spelt_10_57  → ∀ (H : Heap) (locs : List Loc) (ls : Array Slot), va_P D vwCl [] H → va_D A [] → va_S A s.heap H locs → lv_has ls 9 [(4, .int 115), (5, .int 0), (6, .int 0), (7, .long 92275)] → W p l e ({ frames := 0, cells := 0, slots := 0, locals := 0 } : Room) s m ([.int 100, .int 114, .int 111, .int 112, .int 115, .int 0, .int 0] : List Value).toArray below meth c H locs 0 0 (MQ below ((oQl D (fun (r : Int64) (u : Unit) => (r = 2491444) ∧ (r = y_X12_spelt_10)) (fun (u : Unit) => [])) A) ([.int 100, .int 114, .int 111, .int 112, .int 115, .int 0, .int 0] : List Value).toArray s 0 0 A) (F0 m 57 ls []) := by
    intro _  hY H locs ls hP hD hS hl
    have hY := hY.trans (y_X12_spelt_10_57_s )
    refine lv_iload hx hb dX12_spelt_57 (lv_at hl 0 rfl) ?_
    refine lv_if_le (tgt := 78) hx hb dX12_spelt_59 (by decide) (fun c => absurd c (by decide)) (fun _ => ?_)
    refine lv_ldc2 (v := 27) hx hb hown k1 dX12_spelt_62 ?_
    refine lv_lload hx hb dX12_spelt_65 (lv_at hl 3 rfl) ?_
    refine lv_lmul hx hb dX12_spelt_67 ?_
    refine otl 2491425 (by decide +kernel) ?_
    refine lv_iload hx hb dX12_spelt_68 (lv_at hl 0 rfl) ?_
    refine lv_i2l (v := 115) hx hb dX12_spelt_70 (by decide) ?_
    refine lv_ladd hx hb dX12_spelt_71 ?_
    refine otl 2491540 (by decide +kernel) ?_
    refine lv_ldc2 (v := 96) hx hb hown k2 dX12_spelt_72 ?_
    refine lv_lsub hx hb dX12_spelt_75 ?_
    refine otl 2491444 (by decide +kernel) ?_
    refine lv_lstore (lv' := [(7, .long 2491444), (4, .int 115), (5, .int 0), (6, .int 0)]) hx hb dX12_spelt_76 hl (by decide) rfl (fun ls hl => ?_)
    exact J78_2 ()  hY H locs ls (oPsub hP [] rfl) (hD.sub [] (by decide) rfl) hS (lv_sub hl [2, 3, 0] rfl)
  have J38_4 : ∀ (_ : Unit), y_X12_spelt_10 = y_X12_spelt_10_38  → ∀ (H : Heap) (locs : List Loc) (ls : Array Slot), va_P D vwCl [] H → va_D A [] → va_S A s.heap H locs → lv_has ls 9 [(3, .int 112), (4, .int 115), (5, .int 0), (6, .int 0), (7, .long 3417)] → W p l e ({ frames := 0, cells := 0, slots := 0, locals := 0 } : Room) s m ([.int 100, .int 114, .int 111, .int 112, .int 115, .int 0, .int 0] : List Value).toArray below meth c H locs 0 0 (MQ below ((oQl D (fun (r : Int64) (u : Unit) => (r = 2491444) ∧ (r = y_X12_spelt_10)) (fun (u : Unit) => [])) A) ([.int 100, .int 114, .int 111, .int 112, .int 115, .int 0, .int 0] : List Value).toArray s 0 0 A) (F0 m 38 ls []) := by
    intro _  hY H locs ls hP hD hS hl
    have hY := hY.trans (y_X12_spelt_10_38_s )
    refine lv_iload_n hx hb dX12_spelt_38 rfl (lv_at hl 0 rfl) ?_
    refine lv_if_le (tgt := 57) hx hb dX12_spelt_39 (by decide) (fun c => absurd c (by decide)) (fun _ => ?_)
    refine lv_ldc2 (v := 27) hx hb hown k1 dX12_spelt_42 ?_
    refine lv_lload hx hb dX12_spelt_45 (lv_at hl 4 rfl) ?_
    refine lv_lmul hx hb dX12_spelt_47 ?_
    refine otl 92259 (by decide +kernel) ?_
    refine lv_iload_n hx hb dX12_spelt_48 rfl (lv_at hl 0 rfl) ?_
    refine lv_i2l (v := 112) hx hb dX12_spelt_49 (by decide) ?_
    refine lv_ladd hx hb dX12_spelt_50 ?_
    refine otl 92371 (by decide +kernel) ?_
    refine lv_ldc2 (v := 96) hx hb hown k2 dX12_spelt_51 ?_
    refine lv_lsub hx hb dX12_spelt_54 ?_
    refine otl 92275 (by decide +kernel) ?_
    refine lv_lstore (lv' := [(7, .long 92275), (3, .int 112), (4, .int 115), (5, .int 0), (6, .int 0)]) hx hb dX12_spelt_55 hl (by decide) rfl (fun ls hl => ?_)
    exact J57_3 ()  hY H locs ls (oPsub hP [] rfl) (hD.sub [] (by decide) rfl) hS (lv_sub hl [2, 3, 4, 0] rfl)
  refine lv_ldc2 (v := 27) hx hb hown k1 dX12_spelt_0 ?_
  refine lv_iload_n hx hb dX12_spelt_3 rfl (lv_at hl 0 rfl) ?_
  refine lv_i2l (v := 100) hx hb dX12_spelt_4 (by decide) ?_
  refine lv_ldc2 (v := 96) hx hb hown k2 dX12_spelt_5 ?_
  refine lv_lsub hx hb dX12_spelt_8 ?_
  refine otl 4 (by decide +kernel) ?_
  refine lv_lmul hx hb dX12_spelt_9 ?_
  refine otl 108 (by decide +kernel) ?_
  refine lv_iload_n hx hb dX12_spelt_10 rfl (lv_at hl 1 rfl) ?_
  refine lv_i2l (v := 114) hx hb dX12_spelt_11 (by decide) ?_
  refine lv_ladd hx hb dX12_spelt_12 ?_
  refine otl 222 (by decide +kernel) ?_
  refine lv_ldc2 (v := 96) hx hb hown k2 dX12_spelt_13 ?_
  refine lv_lsub hx hb dX12_spelt_16 ?_
  refine otl 126 (by decide +kernel) ?_
  refine lv_lstore (lv' := [(7, .long 126), (0, .int 100), (1, .int 114), (2, .int 111), (3, .int 112), (4, .int 115), (5, .int 0), (6, .int 0)]) hx hb dX12_spelt_17 hl (by decide) rfl (fun ls hl => ?_)
  refine lv_iload_n hx hb dX12_spelt_19 rfl (lv_at hl 3 rfl) ?_
  refine lv_if_le (tgt := 38) hx hb dX12_spelt_20 (by decide) (fun c => absurd c (by decide)) (fun _ => ?_)
  refine lv_ldc2 (v := 27) hx hb hown k1 dX12_spelt_23 ?_
  refine lv_lload hx hb dX12_spelt_26 (lv_at hl 0 rfl) ?_
  refine lv_lmul hx hb dX12_spelt_28 ?_
  refine otl 3402 (by decide +kernel) ?_
  refine lv_iload_n hx hb dX12_spelt_29 rfl (lv_at hl 3 rfl) ?_
  refine lv_i2l (v := 111) hx hb dX12_spelt_30 (by decide) ?_
  refine lv_ladd hx hb dX12_spelt_31 ?_
  refine otl 3513 (by decide +kernel) ?_
  refine lv_ldc2 (v := 96) hx hb hown k2 dX12_spelt_32 ?_
  refine lv_lsub hx hb dX12_spelt_35 ?_
  refine otl 3417 (by decide +kernel) ?_
  refine lv_lstore (lv' := [(7, .long 3417), (0, .int 100), (1, .int 114), (2, .int 111), (3, .int 112), (4, .int 115), (5, .int 0), (6, .int 0)]) hx hb dX12_spelt_36 hl (by decide) rfl (fun ls hl => ?_)
  exact J38_4 ()  hY H locs ls (oPsub hP [] rfl) (hD.sub [] (by decide) rfl) hS (lv_sub hl [4, 5, 6, 7, 0] rfl)
set_option maxHeartbeats 4000000 in
set_option maxRecDepth 100000 in
theorem e_X12_spelt_11 (l : Launch) (D : va_G) (ca : Nat → ClassId) (sz : Nat)   : oMet l yX12_spelt wsX12_spelt ({ frames := 0, cells := 0, slots := 0, locals := 0 } : Room) [.int 98, .int 101, .int 97, .int 116, .int 101, .int 110, .int 0] D ca sz [] (oQl D (fun (r : Int64) (u : Unit) => (r = 31389431) ∧ (r = y_X12_spelt_11)) (fun (u : Unit) => [])) 0 0 := by
  refine oM (cc := cX12_spelt) (maxL := 9) (ret := (some .long)) (by decide) rfl (Nat.le_of_ble_eq_true rfl) [(0, .int 98), (1, .int 101), (2, .int 97), (3, .int 116), (4, .int 101), (5, .int 110), (6, .int 0)] rfl ?_
  intro p e s m below meth c A H locs ls hx hb hr hml hts hown hlocks hin hK hP hD hA hS hl
  have hown : s.vm.findClass RX12 = some m.cls := hown
  have hY := y_X12_spelt_11_s 
  have k1 := hts (.constantLong RX12 54 27) (by decide +kernel)
  have k2 := hts (.constantLong RX12 56 96) (by decide +kernel)
  have J99_1 : ∀ (_ : Unit), y_X12_spelt_11 = y_X12_spelt_11_99  → ∀ (H : Heap) (locs : List Loc) (ls : Array Slot), va_P D vwCl [] H → va_D A [] → va_S A s.heap H locs → lv_has ls 9 [(6, .int 0), (7, .long 31389431)] → W p l e ({ frames := 0, cells := 0, slots := 0, locals := 0 } : Room) s m ([.int 98, .int 101, .int 97, .int 116, .int 101, .int 110, .int 0] : List Value).toArray below meth c H locs 0 0 (MQ below ((oQl D (fun (r : Int64) (u : Unit) => (r = 31389431) ∧ (r = y_X12_spelt_11)) (fun (u : Unit) => [])) A) ([.int 98, .int 101, .int 97, .int 116, .int 101, .int 110, .int 0] : List Value).toArray s 0 0 A) (F0 m 99 ls []) := by
    intro _  hY H locs ls hP hD hS hl
    have hY := hY.trans (y_X12_spelt_11_99_s )
    refine lv_iload hx hb dX12_spelt_99 (lv_at hl 0 rfl) ?_
    refine lv_if_le (tgt := 120) hx hb dX12_spelt_101 (by decide) (fun _ => ?_) (fun c => absurd (by decide) c)
    refine lv_lload hx hb dX12_spelt_120 (lv_at hl 1 rfl) ?_
    exact oE_l hx hb hr hlocks hP hD hS () [] rfl (by decide) ⟨rfl, hY.symm⟩ (Nat.le_of_ble_eq_true rfl) (Nat.le_of_ble_eq_true rfl) dX12_spelt_122
  have J78_2 : ∀ (_ : Unit), y_X12_spelt_11 = y_X12_spelt_11_78  → ∀ (H : Heap) (locs : List Loc) (ls : Array Slot), va_P D vwCl [] H → va_D A [] → va_S A s.heap H locs → lv_has ls 9 [(5, .int 110), (6, .int 0), (7, .long 1162571)] → W p l e ({ frames := 0, cells := 0, slots := 0, locals := 0 } : Room) s m ([.int 98, .int 101, .int 97, .int 116, .int 101, .int 110, .int 0] : List Value).toArray below meth c H locs 0 0 (MQ below ((oQl D (fun (r : Int64) (u : Unit) => (r = 31389431) ∧ (r = y_X12_spelt_11)) (fun (u : Unit) => [])) A) ([.int 98, .int 101, .int 97, .int 116, .int 101, .int 110, .int 0] : List Value).toArray s 0 0 A) (F0 m 78 ls []) := by
    intro _  hY H locs ls hP hD hS hl
    have hY := hY.trans (y_X12_spelt_11_78_s )
    refine lv_iload hx hb dX12_spelt_78 (lv_at hl 0 rfl) ?_
    refine lv_if_le (tgt := 99) hx hb dX12_spelt_80 (by decide) (fun c => absurd c (by decide)) (fun _ => ?_)
    refine lv_ldc2 (v := 27) hx hb hown k1 dX12_spelt_83 ?_
    refine lv_lload hx hb dX12_spelt_86 (lv_at hl 2 rfl) ?_
    refine lv_lmul hx hb dX12_spelt_88 ?_
    refine otl 31389417 (by decide +kernel) ?_
    refine lv_iload hx hb dX12_spelt_89 (lv_at hl 0 rfl) ?_
    refine lv_i2l (v := 110) hx hb dX12_spelt_91 (by decide) ?_
    refine lv_ladd hx hb dX12_spelt_92 ?_
    refine otl 31389527 (by decide +kernel) ?_
    refine lv_ldc2 (v := 96) hx hb hown k2 dX12_spelt_93 ?_
    refine lv_lsub hx hb dX12_spelt_96 ?_
    refine otl 31389431 (by decide +kernel) ?_
    refine lv_lstore (lv' := [(7, .long 31389431), (5, .int 110), (6, .int 0)]) hx hb dX12_spelt_97 hl (by decide) rfl (fun ls hl => ?_)
    exact J99_1 ()  hY H locs ls (oPsub hP [] rfl) (hD.sub [] (by decide) rfl) hS (lv_sub hl [2, 0] rfl)
  have J57_3 : ∀ (_ : Unit), y_X12_spelt_11 = y_X12_spelt_11_57  → ∀ (H : Heap) (locs : List Loc) (ls : Array Slot), va_P D vwCl [] H → va_D A [] → va_S A s.heap H locs → lv_has ls 9 [(4, .int 101), (5, .int 110), (6, .int 0), (7, .long 43058)] → W p l e ({ frames := 0, cells := 0, slots := 0, locals := 0 } : Room) s m ([.int 98, .int 101, .int 97, .int 116, .int 101, .int 110, .int 0] : List Value).toArray below meth c H locs 0 0 (MQ below ((oQl D (fun (r : Int64) (u : Unit) => (r = 31389431) ∧ (r = y_X12_spelt_11)) (fun (u : Unit) => [])) A) ([.int 98, .int 101, .int 97, .int 116, .int 101, .int 110, .int 0] : List Value).toArray s 0 0 A) (F0 m 57 ls []) := by
    intro _  hY H locs ls hP hD hS hl
    have hY := hY.trans (y_X12_spelt_11_57_s )
    refine lv_iload hx hb dX12_spelt_57 (lv_at hl 0 rfl) ?_
    refine lv_if_le (tgt := 78) hx hb dX12_spelt_59 (by decide) (fun c => absurd c (by decide)) (fun _ => ?_)
    refine lv_ldc2 (v := 27) hx hb hown k1 dX12_spelt_62 ?_
    refine lv_lload hx hb dX12_spelt_65 (lv_at hl 3 rfl) ?_
    refine lv_lmul hx hb dX12_spelt_67 ?_
    refine otl 1162566 (by decide +kernel) ?_
    refine lv_iload hx hb dX12_spelt_68 (lv_at hl 0 rfl) ?_
    refine lv_i2l (v := 101) hx hb dX12_spelt_70 (by decide) ?_
    refine lv_ladd hx hb dX12_spelt_71 ?_
    refine otl 1162667 (by decide +kernel) ?_
    refine lv_ldc2 (v := 96) hx hb hown k2 dX12_spelt_72 ?_
    refine lv_lsub hx hb dX12_spelt_75 ?_
    refine otl 1162571 (by decide +kernel) ?_
    refine lv_lstore (lv' := [(7, .long 1162571), (4, .int 101), (5, .int 110), (6, .int 0)]) hx hb dX12_spelt_76 hl (by decide) rfl (fun ls hl => ?_)
    exact J78_2 ()  hY H locs ls (oPsub hP [] rfl) (hD.sub [] (by decide) rfl) hS (lv_sub hl [2, 3, 0] rfl)
  have J38_4 : ∀ (_ : Unit), y_X12_spelt_11 = y_X12_spelt_11_38  → ∀ (H : Heap) (locs : List Loc) (ls : Array Slot), va_P D vwCl [] H → va_D A [] → va_S A s.heap H locs → lv_has ls 9 [(3, .int 116), (4, .int 101), (5, .int 110), (6, .int 0), (7, .long 1594)] → W p l e ({ frames := 0, cells := 0, slots := 0, locals := 0 } : Room) s m ([.int 98, .int 101, .int 97, .int 116, .int 101, .int 110, .int 0] : List Value).toArray below meth c H locs 0 0 (MQ below ((oQl D (fun (r : Int64) (u : Unit) => (r = 31389431) ∧ (r = y_X12_spelt_11)) (fun (u : Unit) => [])) A) ([.int 98, .int 101, .int 97, .int 116, .int 101, .int 110, .int 0] : List Value).toArray s 0 0 A) (F0 m 38 ls []) := by
    intro _  hY H locs ls hP hD hS hl
    have hY := hY.trans (y_X12_spelt_11_38_s )
    refine lv_iload_n hx hb dX12_spelt_38 rfl (lv_at hl 0 rfl) ?_
    refine lv_if_le (tgt := 57) hx hb dX12_spelt_39 (by decide) (fun c => absurd c (by decide)) (fun _ => ?_)
    refine lv_ldc2 (v := 27) hx hb hown k1 dX12_spelt_42 ?_
    refine lv_lload hx hb dX12_spelt_45 (lv_at hl 4 rfl) ?_
    refine lv_lmul hx hb dX12_spelt_47 ?_
    refine otl 43038 (by decide +kernel) ?_
    refine lv_iload_n hx hb dX12_spelt_48 rfl (lv_at hl 0 rfl) ?_
    refine lv_i2l (v := 116) hx hb dX12_spelt_49 (by decide) ?_
    refine lv_ladd hx hb dX12_spelt_50 ?_
    refine otl 43154 (by decide +kernel) ?_
    refine lv_ldc2 (v := 96) hx hb hown k2 dX12_spelt_51 ?_
    refine lv_lsub hx hb dX12_spelt_54 ?_
    refine otl 43058 (by decide +kernel) ?_
    refine lv_lstore (lv' := [(7, .long 43058), (3, .int 116), (4, .int 101), (5, .int 110), (6, .int 0)]) hx hb dX12_spelt_55 hl (by decide) rfl (fun ls hl => ?_)
    exact J57_3 ()  hY H locs ls (oPsub hP [] rfl) (hD.sub [] (by decide) rfl) hS (lv_sub hl [2, 3, 4, 0] rfl)
  refine lv_ldc2 (v := 27) hx hb hown k1 dX12_spelt_0 ?_
  refine lv_iload_n hx hb dX12_spelt_3 rfl (lv_at hl 0 rfl) ?_
  refine lv_i2l (v := 98) hx hb dX12_spelt_4 (by decide) ?_
  refine lv_ldc2 (v := 96) hx hb hown k2 dX12_spelt_5 ?_
  refine lv_lsub hx hb dX12_spelt_8 ?_
  refine otl 2 (by decide +kernel) ?_
  refine lv_lmul hx hb dX12_spelt_9 ?_
  refine otl 54 (by decide +kernel) ?_
  refine lv_iload_n hx hb dX12_spelt_10 rfl (lv_at hl 1 rfl) ?_
  refine lv_i2l (v := 101) hx hb dX12_spelt_11 (by decide) ?_
  refine lv_ladd hx hb dX12_spelt_12 ?_
  refine otl 155 (by decide +kernel) ?_
  refine lv_ldc2 (v := 96) hx hb hown k2 dX12_spelt_13 ?_
  refine lv_lsub hx hb dX12_spelt_16 ?_
  refine otl 59 (by decide +kernel) ?_
  refine lv_lstore (lv' := [(7, .long 59), (0, .int 98), (1, .int 101), (2, .int 97), (3, .int 116), (4, .int 101), (5, .int 110), (6, .int 0)]) hx hb dX12_spelt_17 hl (by decide) rfl (fun ls hl => ?_)
  refine lv_iload_n hx hb dX12_spelt_19 rfl (lv_at hl 3 rfl) ?_
  refine lv_if_le (tgt := 38) hx hb dX12_spelt_20 (by decide) (fun c => absurd c (by decide)) (fun _ => ?_)
  refine lv_ldc2 (v := 27) hx hb hown k1 dX12_spelt_23 ?_
  refine lv_lload hx hb dX12_spelt_26 (lv_at hl 0 rfl) ?_
  refine lv_lmul hx hb dX12_spelt_28 ?_
  refine otl 1593 (by decide +kernel) ?_
  refine lv_iload_n hx hb dX12_spelt_29 rfl (lv_at hl 3 rfl) ?_
  refine lv_i2l (v := 97) hx hb dX12_spelt_30 (by decide) ?_
  refine lv_ladd hx hb dX12_spelt_31 ?_
  refine otl 1690 (by decide +kernel) ?_
  refine lv_ldc2 (v := 96) hx hb hown k2 dX12_spelt_32 ?_
  refine lv_lsub hx hb dX12_spelt_35 ?_
  refine otl 1594 (by decide +kernel) ?_
  refine lv_lstore (lv' := [(7, .long 1594), (0, .int 98), (1, .int 101), (2, .int 97), (3, .int 116), (4, .int 101), (5, .int 110), (6, .int 0)]) hx hb dX12_spelt_36 hl (by decide) rfl (fun ls hl => ?_)
  exact J38_4 ()  hY H locs ls (oPsub hP [] rfl) (hD.sub [] (by decide) rfl) hS (lv_sub hl [4, 5, 6, 7, 0] rfl)
set_option maxHeartbeats 4000000 in
set_option maxRecDepth 100000 in
theorem e_X12_spelt_12 (l : Launch) (D : va_G) (ca : Nat → ClassId) (sz : Nat)   : oMet l yX12_spelt wsX12_spelt ({ frames := 0, cells := 0, slots := 0, locals := 0 } : Room) [.int 116, .int 114, .int 121, .int 0, .int 0, .int 0, .int 0] D ca sz [] (oQl D (fun (r : Int64) (u : Unit) => (r = 15091) ∧ (r = y_X12_spelt_12)) (fun (u : Unit) => [])) 0 0 := by
  refine oM (cc := cX12_spelt) (maxL := 9) (ret := (some .long)) (by decide) rfl (Nat.le_of_ble_eq_true rfl) [(0, .int 116), (1, .int 114), (2, .int 121), (3, .int 0), (4, .int 0), (5, .int 0), (6, .int 0)] rfl ?_
  intro p e s m below meth c A H locs ls hx hb hr hml hts hown hlocks hin hK hP hD hA hS hl
  have hown : s.vm.findClass RX12 = some m.cls := hown
  have hY := y_X12_spelt_12_s 
  have k1 := hts (.constantLong RX12 54 27) (by decide +kernel)
  have k2 := hts (.constantLong RX12 56 96) (by decide +kernel)
  have J99_1 : ∀ (_ : Unit), y_X12_spelt_12 = y_X12_spelt_12_99  → ∀ (H : Heap) (locs : List Loc) (ls : Array Slot), va_P D vwCl [] H → va_D A [] → va_S A s.heap H locs → lv_has ls 9 [(6, .int 0), (7, .long 15091)] → W p l e ({ frames := 0, cells := 0, slots := 0, locals := 0 } : Room) s m ([.int 116, .int 114, .int 121, .int 0, .int 0, .int 0, .int 0] : List Value).toArray below meth c H locs 0 0 (MQ below ((oQl D (fun (r : Int64) (u : Unit) => (r = 15091) ∧ (r = y_X12_spelt_12)) (fun (u : Unit) => [])) A) ([.int 116, .int 114, .int 121, .int 0, .int 0, .int 0, .int 0] : List Value).toArray s 0 0 A) (F0 m 99 ls []) := by
    intro _  hY H locs ls hP hD hS hl
    have hY := hY.trans (y_X12_spelt_12_99_s )
    refine lv_iload hx hb dX12_spelt_99 (lv_at hl 0 rfl) ?_
    refine lv_if_le (tgt := 120) hx hb dX12_spelt_101 (by decide) (fun _ => ?_) (fun c => absurd (by decide) c)
    refine lv_lload hx hb dX12_spelt_120 (lv_at hl 1 rfl) ?_
    exact oE_l hx hb hr hlocks hP hD hS () [] rfl (by decide) ⟨rfl, hY.symm⟩ (Nat.le_of_ble_eq_true rfl) (Nat.le_of_ble_eq_true rfl) dX12_spelt_122
  have J78_2 : ∀ (_ : Unit), y_X12_spelt_12 = y_X12_spelt_12_78  → ∀ (H : Heap) (locs : List Loc) (ls : Array Slot), va_P D vwCl [] H → va_D A [] → va_S A s.heap H locs → lv_has ls 9 [(5, .int 0), (6, .int 0), (7, .long 15091)] → W p l e ({ frames := 0, cells := 0, slots := 0, locals := 0 } : Room) s m ([.int 116, .int 114, .int 121, .int 0, .int 0, .int 0, .int 0] : List Value).toArray below meth c H locs 0 0 (MQ below ((oQl D (fun (r : Int64) (u : Unit) => (r = 15091) ∧ (r = y_X12_spelt_12)) (fun (u : Unit) => [])) A) ([.int 116, .int 114, .int 121, .int 0, .int 0, .int 0, .int 0] : List Value).toArray s 0 0 A) (F0 m 78 ls []) := by
    intro _  hY H locs ls hP hD hS hl
    have hY := hY.trans (y_X12_spelt_12_78_s )
    refine lv_iload hx hb dX12_spelt_78 (lv_at hl 0 rfl) ?_
    refine lv_if_le (tgt := 99) hx hb dX12_spelt_80 (by decide) (fun _ => ?_) (fun c => absurd (by decide) c)
    exact J99_1 ()  hY H locs ls (oPsub hP [] rfl) (hD.sub [] (by decide) rfl) hS (lv_sub hl [1, 2] rfl)
  have J57_3 : ∀ (_ : Unit), y_X12_spelt_12 = y_X12_spelt_12_57  → ∀ (H : Heap) (locs : List Loc) (ls : Array Slot), va_P D vwCl [] H → va_D A [] → va_S A s.heap H locs → lv_has ls 9 [(4, .int 0), (5, .int 0), (6, .int 0), (7, .long 15091)] → W p l e ({ frames := 0, cells := 0, slots := 0, locals := 0 } : Room) s m ([.int 116, .int 114, .int 121, .int 0, .int 0, .int 0, .int 0] : List Value).toArray below meth c H locs 0 0 (MQ below ((oQl D (fun (r : Int64) (u : Unit) => (r = 15091) ∧ (r = y_X12_spelt_12)) (fun (u : Unit) => [])) A) ([.int 116, .int 114, .int 121, .int 0, .int 0, .int 0, .int 0] : List Value).toArray s 0 0 A) (F0 m 57 ls []) := by
    intro _  hY H locs ls hP hD hS hl
    have hY := hY.trans (y_X12_spelt_12_57_s )
    refine lv_iload hx hb dX12_spelt_57 (lv_at hl 0 rfl) ?_
    refine lv_if_le (tgt := 78) hx hb dX12_spelt_59 (by decide) (fun _ => ?_) (fun c => absurd (by decide) c)
    exact J78_2 ()  hY H locs ls (oPsub hP [] rfl) (hD.sub [] (by decide) rfl) hS (lv_sub hl [1, 2, 3] rfl)
  have J38_4 : ∀ (_ : Unit), y_X12_spelt_12 = y_X12_spelt_12_38  → ∀ (H : Heap) (locs : List Loc) (ls : Array Slot), va_P D vwCl [] H → va_D A [] → va_S A s.heap H locs → lv_has ls 9 [(3, .int 0), (4, .int 0), (5, .int 0), (6, .int 0), (7, .long 15091)] → W p l e ({ frames := 0, cells := 0, slots := 0, locals := 0 } : Room) s m ([.int 116, .int 114, .int 121, .int 0, .int 0, .int 0, .int 0] : List Value).toArray below meth c H locs 0 0 (MQ below ((oQl D (fun (r : Int64) (u : Unit) => (r = 15091) ∧ (r = y_X12_spelt_12)) (fun (u : Unit) => [])) A) ([.int 116, .int 114, .int 121, .int 0, .int 0, .int 0, .int 0] : List Value).toArray s 0 0 A) (F0 m 38 ls []) := by
    intro _  hY H locs ls hP hD hS hl
    have hY := hY.trans (y_X12_spelt_12_38_s )
    refine lv_iload_n hx hb dX12_spelt_38 rfl (lv_at hl 0 rfl) ?_
    refine lv_if_le (tgt := 57) hx hb dX12_spelt_39 (by decide) (fun _ => ?_) (fun c => absurd (by decide) c)
    exact J57_3 ()  hY H locs ls (oPsub hP [] rfl) (hD.sub [] (by decide) rfl) hS (lv_sub hl [1, 2, 3, 4] rfl)
  refine lv_ldc2 (v := 27) hx hb hown k1 dX12_spelt_0 ?_
  refine lv_iload_n hx hb dX12_spelt_3 rfl (lv_at hl 0 rfl) ?_
  refine lv_i2l (v := 116) hx hb dX12_spelt_4 (by decide) ?_
  refine lv_ldc2 (v := 96) hx hb hown k2 dX12_spelt_5 ?_
  refine lv_lsub hx hb dX12_spelt_8 ?_
  refine otl 20 (by decide +kernel) ?_
  refine lv_lmul hx hb dX12_spelt_9 ?_
  refine otl 540 (by decide +kernel) ?_
  refine lv_iload_n hx hb dX12_spelt_10 rfl (lv_at hl 1 rfl) ?_
  refine lv_i2l (v := 114) hx hb dX12_spelt_11 (by decide) ?_
  refine lv_ladd hx hb dX12_spelt_12 ?_
  refine otl 654 (by decide +kernel) ?_
  refine lv_ldc2 (v := 96) hx hb hown k2 dX12_spelt_13 ?_
  refine lv_lsub hx hb dX12_spelt_16 ?_
  refine otl 558 (by decide +kernel) ?_
  refine lv_lstore (lv' := [(7, .long 558), (0, .int 116), (1, .int 114), (2, .int 121), (3, .int 0), (4, .int 0), (5, .int 0), (6, .int 0)]) hx hb dX12_spelt_17 hl (by decide) rfl (fun ls hl => ?_)
  refine lv_iload_n hx hb dX12_spelt_19 rfl (lv_at hl 3 rfl) ?_
  refine lv_if_le (tgt := 38) hx hb dX12_spelt_20 (by decide) (fun c => absurd c (by decide)) (fun _ => ?_)
  refine lv_ldc2 (v := 27) hx hb hown k1 dX12_spelt_23 ?_
  refine lv_lload hx hb dX12_spelt_26 (lv_at hl 0 rfl) ?_
  refine lv_lmul hx hb dX12_spelt_28 ?_
  refine otl 15066 (by decide +kernel) ?_
  refine lv_iload_n hx hb dX12_spelt_29 rfl (lv_at hl 3 rfl) ?_
  refine lv_i2l (v := 121) hx hb dX12_spelt_30 (by decide) ?_
  refine lv_ladd hx hb dX12_spelt_31 ?_
  refine otl 15187 (by decide +kernel) ?_
  refine lv_ldc2 (v := 96) hx hb hown k2 dX12_spelt_32 ?_
  refine lv_lsub hx hb dX12_spelt_35 ?_
  refine otl 15091 (by decide +kernel) ?_
  refine lv_lstore (lv' := [(7, .long 15091), (0, .int 116), (1, .int 114), (2, .int 121), (3, .int 0), (4, .int 0), (5, .int 0), (6, .int 0)]) hx hb dX12_spelt_36 hl (by decide) rfl (fun ls hl => ?_)
  exact J38_4 ()  hY H locs ls (oPsub hP [] rfl) (hD.sub [] (by decide) rfl) hS (lv_sub hl [4, 5, 6, 7, 0] rfl)
set_option maxHeartbeats 4000000 in
set_option maxRecDepth 100000 in
theorem e_X12_spelt_13 (l : Launch) (D : va_G) (ca : Nat → ClassId) (sz : Nat)   : oMet l yX12_spelt wsX12_spelt ({ frames := 0, cells := 0, slots := 0, locals := 0 } : Room) [.int 97, .int 112, .int 112, .int 101, .int 97, .int 108, .int 0] D ca sz [] (oQl D (fun (r : Int64) (u : Unit) => (r = 23170575) ∧ (r = y_X12_spelt_13)) (fun (u : Unit) => [])) 0 0 := by
  refine oM (cc := cX12_spelt) (maxL := 9) (ret := (some .long)) (by decide) rfl (Nat.le_of_ble_eq_true rfl) [(0, .int 97), (1, .int 112), (2, .int 112), (3, .int 101), (4, .int 97), (5, .int 108), (6, .int 0)] rfl ?_
  intro p e s m below meth c A H locs ls hx hb hr hml hts hown hlocks hin hK hP hD hA hS hl
  have hown : s.vm.findClass RX12 = some m.cls := hown
  have hY := y_X12_spelt_13_s 
  have k1 := hts (.constantLong RX12 54 27) (by decide +kernel)
  have k2 := hts (.constantLong RX12 56 96) (by decide +kernel)
  have J99_1 : ∀ (_ : Unit), y_X12_spelt_13 = y_X12_spelt_13_99  → ∀ (H : Heap) (locs : List Loc) (ls : Array Slot), va_P D vwCl [] H → va_D A [] → va_S A s.heap H locs → lv_has ls 9 [(6, .int 0), (7, .long 23170575)] → W p l e ({ frames := 0, cells := 0, slots := 0, locals := 0 } : Room) s m ([.int 97, .int 112, .int 112, .int 101, .int 97, .int 108, .int 0] : List Value).toArray below meth c H locs 0 0 (MQ below ((oQl D (fun (r : Int64) (u : Unit) => (r = 23170575) ∧ (r = y_X12_spelt_13)) (fun (u : Unit) => [])) A) ([.int 97, .int 112, .int 112, .int 101, .int 97, .int 108, .int 0] : List Value).toArray s 0 0 A) (F0 m 99 ls []) := by
    intro _  hY H locs ls hP hD hS hl
    have hY := hY.trans (y_X12_spelt_13_99_s )
    refine lv_iload hx hb dX12_spelt_99 (lv_at hl 0 rfl) ?_
    refine lv_if_le (tgt := 120) hx hb dX12_spelt_101 (by decide) (fun _ => ?_) (fun c => absurd (by decide) c)
    refine lv_lload hx hb dX12_spelt_120 (lv_at hl 1 rfl) ?_
    exact oE_l hx hb hr hlocks hP hD hS () [] rfl (by decide) ⟨rfl, hY.symm⟩ (Nat.le_of_ble_eq_true rfl) (Nat.le_of_ble_eq_true rfl) dX12_spelt_122
  have J78_2 : ∀ (_ : Unit), y_X12_spelt_13 = y_X12_spelt_13_78  → ∀ (H : Heap) (locs : List Loc) (ls : Array Slot), va_P D vwCl [] H → va_D A [] → va_S A s.heap H locs → lv_has ls 9 [(5, .int 108), (6, .int 0), (7, .long 858169)] → W p l e ({ frames := 0, cells := 0, slots := 0, locals := 0 } : Room) s m ([.int 97, .int 112, .int 112, .int 101, .int 97, .int 108, .int 0] : List Value).toArray below meth c H locs 0 0 (MQ below ((oQl D (fun (r : Int64) (u : Unit) => (r = 23170575) ∧ (r = y_X12_spelt_13)) (fun (u : Unit) => [])) A) ([.int 97, .int 112, .int 112, .int 101, .int 97, .int 108, .int 0] : List Value).toArray s 0 0 A) (F0 m 78 ls []) := by
    intro _  hY H locs ls hP hD hS hl
    have hY := hY.trans (y_X12_spelt_13_78_s )
    refine lv_iload hx hb dX12_spelt_78 (lv_at hl 0 rfl) ?_
    refine lv_if_le (tgt := 99) hx hb dX12_spelt_80 (by decide) (fun c => absurd c (by decide)) (fun _ => ?_)
    refine lv_ldc2 (v := 27) hx hb hown k1 dX12_spelt_83 ?_
    refine lv_lload hx hb dX12_spelt_86 (lv_at hl 2 rfl) ?_
    refine lv_lmul hx hb dX12_spelt_88 ?_
    refine otl 23170563 (by decide +kernel) ?_
    refine lv_iload hx hb dX12_spelt_89 (lv_at hl 0 rfl) ?_
    refine lv_i2l (v := 108) hx hb dX12_spelt_91 (by decide) ?_
    refine lv_ladd hx hb dX12_spelt_92 ?_
    refine otl 23170671 (by decide +kernel) ?_
    refine lv_ldc2 (v := 96) hx hb hown k2 dX12_spelt_93 ?_
    refine lv_lsub hx hb dX12_spelt_96 ?_
    refine otl 23170575 (by decide +kernel) ?_
    refine lv_lstore (lv' := [(7, .long 23170575), (5, .int 108), (6, .int 0)]) hx hb dX12_spelt_97 hl (by decide) rfl (fun ls hl => ?_)
    exact J99_1 ()  hY H locs ls (oPsub hP [] rfl) (hD.sub [] (by decide) rfl) hS (lv_sub hl [2, 0] rfl)
  have J57_3 : ∀ (_ : Unit), y_X12_spelt_13 = y_X12_spelt_13_57  → ∀ (H : Heap) (locs : List Loc) (ls : Array Slot), va_P D vwCl [] H → va_D A [] → va_S A s.heap H locs → lv_has ls 9 [(4, .int 97), (5, .int 108), (6, .int 0), (7, .long 31784)] → W p l e ({ frames := 0, cells := 0, slots := 0, locals := 0 } : Room) s m ([.int 97, .int 112, .int 112, .int 101, .int 97, .int 108, .int 0] : List Value).toArray below meth c H locs 0 0 (MQ below ((oQl D (fun (r : Int64) (u : Unit) => (r = 23170575) ∧ (r = y_X12_spelt_13)) (fun (u : Unit) => [])) A) ([.int 97, .int 112, .int 112, .int 101, .int 97, .int 108, .int 0] : List Value).toArray s 0 0 A) (F0 m 57 ls []) := by
    intro _  hY H locs ls hP hD hS hl
    have hY := hY.trans (y_X12_spelt_13_57_s )
    refine lv_iload hx hb dX12_spelt_57 (lv_at hl 0 rfl) ?_
    refine lv_if_le (tgt := 78) hx hb dX12_spelt_59 (by decide) (fun c => absurd c (by decide)) (fun _ => ?_)
    refine lv_ldc2 (v := 27) hx hb hown k1 dX12_spelt_62 ?_
    refine lv_lload hx hb dX12_spelt_65 (lv_at hl 3 rfl) ?_
    refine lv_lmul hx hb dX12_spelt_67 ?_
    refine otl 858168 (by decide +kernel) ?_
    refine lv_iload hx hb dX12_spelt_68 (lv_at hl 0 rfl) ?_
    refine lv_i2l (v := 97) hx hb dX12_spelt_70 (by decide) ?_
    refine lv_ladd hx hb dX12_spelt_71 ?_
    refine otl 858265 (by decide +kernel) ?_
    refine lv_ldc2 (v := 96) hx hb hown k2 dX12_spelt_72 ?_
    refine lv_lsub hx hb dX12_spelt_75 ?_
    refine otl 858169 (by decide +kernel) ?_
    refine lv_lstore (lv' := [(7, .long 858169), (4, .int 97), (5, .int 108), (6, .int 0)]) hx hb dX12_spelt_76 hl (by decide) rfl (fun ls hl => ?_)
    exact J78_2 ()  hY H locs ls (oPsub hP [] rfl) (hD.sub [] (by decide) rfl) hS (lv_sub hl [2, 3, 0] rfl)
  have J38_4 : ∀ (_ : Unit), y_X12_spelt_13 = y_X12_spelt_13_38  → ∀ (H : Heap) (locs : List Loc) (ls : Array Slot), va_P D vwCl [] H → va_D A [] → va_S A s.heap H locs → lv_has ls 9 [(3, .int 101), (4, .int 97), (5, .int 108), (6, .int 0), (7, .long 1177)] → W p l e ({ frames := 0, cells := 0, slots := 0, locals := 0 } : Room) s m ([.int 97, .int 112, .int 112, .int 101, .int 97, .int 108, .int 0] : List Value).toArray below meth c H locs 0 0 (MQ below ((oQl D (fun (r : Int64) (u : Unit) => (r = 23170575) ∧ (r = y_X12_spelt_13)) (fun (u : Unit) => [])) A) ([.int 97, .int 112, .int 112, .int 101, .int 97, .int 108, .int 0] : List Value).toArray s 0 0 A) (F0 m 38 ls []) := by
    intro _  hY H locs ls hP hD hS hl
    have hY := hY.trans (y_X12_spelt_13_38_s )
    refine lv_iload_n hx hb dX12_spelt_38 rfl (lv_at hl 0 rfl) ?_
    refine lv_if_le (tgt := 57) hx hb dX12_spelt_39 (by decide) (fun c => absurd c (by decide)) (fun _ => ?_)
    refine lv_ldc2 (v := 27) hx hb hown k1 dX12_spelt_42 ?_
    refine lv_lload hx hb dX12_spelt_45 (lv_at hl 4 rfl) ?_
    refine lv_lmul hx hb dX12_spelt_47 ?_
    refine otl 31779 (by decide +kernel) ?_
    refine lv_iload_n hx hb dX12_spelt_48 rfl (lv_at hl 0 rfl) ?_
    refine lv_i2l (v := 101) hx hb dX12_spelt_49 (by decide) ?_
    refine lv_ladd hx hb dX12_spelt_50 ?_
    refine otl 31880 (by decide +kernel) ?_
    refine lv_ldc2 (v := 96) hx hb hown k2 dX12_spelt_51 ?_
    refine lv_lsub hx hb dX12_spelt_54 ?_
    refine otl 31784 (by decide +kernel) ?_
    refine lv_lstore (lv' := [(7, .long 31784), (3, .int 101), (4, .int 97), (5, .int 108), (6, .int 0)]) hx hb dX12_spelt_55 hl (by decide) rfl (fun ls hl => ?_)
    exact J57_3 ()  hY H locs ls (oPsub hP [] rfl) (hD.sub [] (by decide) rfl) hS (lv_sub hl [2, 3, 4, 0] rfl)
  refine lv_ldc2 (v := 27) hx hb hown k1 dX12_spelt_0 ?_
  refine lv_iload_n hx hb dX12_spelt_3 rfl (lv_at hl 0 rfl) ?_
  refine lv_i2l (v := 97) hx hb dX12_spelt_4 (by decide) ?_
  refine lv_ldc2 (v := 96) hx hb hown k2 dX12_spelt_5 ?_
  refine lv_lsub hx hb dX12_spelt_8 ?_
  refine otl 1 (by decide +kernel) ?_
  refine lv_lmul hx hb dX12_spelt_9 ?_
  refine otl 27 (by decide +kernel) ?_
  refine lv_iload_n hx hb dX12_spelt_10 rfl (lv_at hl 1 rfl) ?_
  refine lv_i2l (v := 112) hx hb dX12_spelt_11 (by decide) ?_
  refine lv_ladd hx hb dX12_spelt_12 ?_
  refine otl 139 (by decide +kernel) ?_
  refine lv_ldc2 (v := 96) hx hb hown k2 dX12_spelt_13 ?_
  refine lv_lsub hx hb dX12_spelt_16 ?_
  refine otl 43 (by decide +kernel) ?_
  refine lv_lstore (lv' := [(7, .long 43), (0, .int 97), (1, .int 112), (2, .int 112), (3, .int 101), (4, .int 97), (5, .int 108), (6, .int 0)]) hx hb dX12_spelt_17 hl (by decide) rfl (fun ls hl => ?_)
  refine lv_iload_n hx hb dX12_spelt_19 rfl (lv_at hl 3 rfl) ?_
  refine lv_if_le (tgt := 38) hx hb dX12_spelt_20 (by decide) (fun c => absurd c (by decide)) (fun _ => ?_)
  refine lv_ldc2 (v := 27) hx hb hown k1 dX12_spelt_23 ?_
  refine lv_lload hx hb dX12_spelt_26 (lv_at hl 0 rfl) ?_
  refine lv_lmul hx hb dX12_spelt_28 ?_
  refine otl 1161 (by decide +kernel) ?_
  refine lv_iload_n hx hb dX12_spelt_29 rfl (lv_at hl 3 rfl) ?_
  refine lv_i2l (v := 112) hx hb dX12_spelt_30 (by decide) ?_
  refine lv_ladd hx hb dX12_spelt_31 ?_
  refine otl 1273 (by decide +kernel) ?_
  refine lv_ldc2 (v := 96) hx hb hown k2 dX12_spelt_32 ?_
  refine lv_lsub hx hb dX12_spelt_35 ?_
  refine otl 1177 (by decide +kernel) ?_
  refine lv_lstore (lv' := [(7, .long 1177), (0, .int 97), (1, .int 112), (2, .int 112), (3, .int 101), (4, .int 97), (5, .int 108), (6, .int 0)]) hx hb dX12_spelt_36 hl (by decide) rfl (fun ls hl => ?_)
  exact J38_4 ()  hY H locs ls (oPsub hP [] rfl) (hD.sub [] (by decide) rfl) hS (lv_sub hl [4, 5, 6, 7, 0] rfl)
set_option maxHeartbeats 4000000 in
set_option maxRecDepth 100000 in
theorem e_X12_spelt_14 (l : Launch) (D : va_G) (ca : Nat → ClassId) (sz : Nat)   : oMet l yX12_spelt wsX12_spelt ({ frames := 0, cells := 0, slots := 0, locals := 0 } : Room) [.int 100, .int 97, .int 121, .int 0, .int 0, .int 0, .int 0] D ca sz [] (oQl D (fun (r : Int64) (u : Unit) => (r = 2968) ∧ (r = y_X12_spelt_14)) (fun (u : Unit) => [])) 0 0 := by
  refine oM (cc := cX12_spelt) (maxL := 9) (ret := (some .long)) (by decide) rfl (Nat.le_of_ble_eq_true rfl) [(0, .int 100), (1, .int 97), (2, .int 121), (3, .int 0), (4, .int 0), (5, .int 0), (6, .int 0)] rfl ?_
  intro p e s m below meth c A H locs ls hx hb hr hml hts hown hlocks hin hK hP hD hA hS hl
  have hown : s.vm.findClass RX12 = some m.cls := hown
  have hY := y_X12_spelt_14_s 
  have k1 := hts (.constantLong RX12 54 27) (by decide +kernel)
  have k2 := hts (.constantLong RX12 56 96) (by decide +kernel)
  have J99_1 : ∀ (_ : Unit), y_X12_spelt_14 = y_X12_spelt_14_99  → ∀ (H : Heap) (locs : List Loc) (ls : Array Slot), va_P D vwCl [] H → va_D A [] → va_S A s.heap H locs → lv_has ls 9 [(6, .int 0), (7, .long 2968)] → W p l e ({ frames := 0, cells := 0, slots := 0, locals := 0 } : Room) s m ([.int 100, .int 97, .int 121, .int 0, .int 0, .int 0, .int 0] : List Value).toArray below meth c H locs 0 0 (MQ below ((oQl D (fun (r : Int64) (u : Unit) => (r = 2968) ∧ (r = y_X12_spelt_14)) (fun (u : Unit) => [])) A) ([.int 100, .int 97, .int 121, .int 0, .int 0, .int 0, .int 0] : List Value).toArray s 0 0 A) (F0 m 99 ls []) := by
    intro _  hY H locs ls hP hD hS hl
    have hY := hY.trans (y_X12_spelt_14_99_s )
    refine lv_iload hx hb dX12_spelt_99 (lv_at hl 0 rfl) ?_
    refine lv_if_le (tgt := 120) hx hb dX12_spelt_101 (by decide) (fun _ => ?_) (fun c => absurd (by decide) c)
    refine lv_lload hx hb dX12_spelt_120 (lv_at hl 1 rfl) ?_
    exact oE_l hx hb hr hlocks hP hD hS () [] rfl (by decide) ⟨rfl, hY.symm⟩ (Nat.le_of_ble_eq_true rfl) (Nat.le_of_ble_eq_true rfl) dX12_spelt_122
  have J78_2 : ∀ (_ : Unit), y_X12_spelt_14 = y_X12_spelt_14_78  → ∀ (H : Heap) (locs : List Loc) (ls : Array Slot), va_P D vwCl [] H → va_D A [] → va_S A s.heap H locs → lv_has ls 9 [(5, .int 0), (6, .int 0), (7, .long 2968)] → W p l e ({ frames := 0, cells := 0, slots := 0, locals := 0 } : Room) s m ([.int 100, .int 97, .int 121, .int 0, .int 0, .int 0, .int 0] : List Value).toArray below meth c H locs 0 0 (MQ below ((oQl D (fun (r : Int64) (u : Unit) => (r = 2968) ∧ (r = y_X12_spelt_14)) (fun (u : Unit) => [])) A) ([.int 100, .int 97, .int 121, .int 0, .int 0, .int 0, .int 0] : List Value).toArray s 0 0 A) (F0 m 78 ls []) := by
    intro _  hY H locs ls hP hD hS hl
    have hY := hY.trans (y_X12_spelt_14_78_s )
    refine lv_iload hx hb dX12_spelt_78 (lv_at hl 0 rfl) ?_
    refine lv_if_le (tgt := 99) hx hb dX12_spelt_80 (by decide) (fun _ => ?_) (fun c => absurd (by decide) c)
    exact J99_1 ()  hY H locs ls (oPsub hP [] rfl) (hD.sub [] (by decide) rfl) hS (lv_sub hl [1, 2] rfl)
  have J57_3 : ∀ (_ : Unit), y_X12_spelt_14 = y_X12_spelt_14_57  → ∀ (H : Heap) (locs : List Loc) (ls : Array Slot), va_P D vwCl [] H → va_D A [] → va_S A s.heap H locs → lv_has ls 9 [(4, .int 0), (5, .int 0), (6, .int 0), (7, .long 2968)] → W p l e ({ frames := 0, cells := 0, slots := 0, locals := 0 } : Room) s m ([.int 100, .int 97, .int 121, .int 0, .int 0, .int 0, .int 0] : List Value).toArray below meth c H locs 0 0 (MQ below ((oQl D (fun (r : Int64) (u : Unit) => (r = 2968) ∧ (r = y_X12_spelt_14)) (fun (u : Unit) => [])) A) ([.int 100, .int 97, .int 121, .int 0, .int 0, .int 0, .int 0] : List Value).toArray s 0 0 A) (F0 m 57 ls []) := by
    intro _  hY H locs ls hP hD hS hl
    have hY := hY.trans (y_X12_spelt_14_57_s )
    refine lv_iload hx hb dX12_spelt_57 (lv_at hl 0 rfl) ?_
    refine lv_if_le (tgt := 78) hx hb dX12_spelt_59 (by decide) (fun _ => ?_) (fun c => absurd (by decide) c)
    exact J78_2 ()  hY H locs ls (oPsub hP [] rfl) (hD.sub [] (by decide) rfl) hS (lv_sub hl [1, 2, 3] rfl)
  have J38_4 : ∀ (_ : Unit), y_X12_spelt_14 = y_X12_spelt_14_38  → ∀ (H : Heap) (locs : List Loc) (ls : Array Slot), va_P D vwCl [] H → va_D A [] → va_S A s.heap H locs → lv_has ls 9 [(3, .int 0), (4, .int 0), (5, .int 0), (6, .int 0), (7, .long 2968)] → W p l e ({ frames := 0, cells := 0, slots := 0, locals := 0 } : Room) s m ([.int 100, .int 97, .int 121, .int 0, .int 0, .int 0, .int 0] : List Value).toArray below meth c H locs 0 0 (MQ below ((oQl D (fun (r : Int64) (u : Unit) => (r = 2968) ∧ (r = y_X12_spelt_14)) (fun (u : Unit) => [])) A) ([.int 100, .int 97, .int 121, .int 0, .int 0, .int 0, .int 0] : List Value).toArray s 0 0 A) (F0 m 38 ls []) := by
    intro _  hY H locs ls hP hD hS hl
    have hY := hY.trans (y_X12_spelt_14_38_s )
    refine lv_iload_n hx hb dX12_spelt_38 rfl (lv_at hl 0 rfl) ?_
    refine lv_if_le (tgt := 57) hx hb dX12_spelt_39 (by decide) (fun _ => ?_) (fun c => absurd (by decide) c)
    exact J57_3 ()  hY H locs ls (oPsub hP [] rfl) (hD.sub [] (by decide) rfl) hS (lv_sub hl [1, 2, 3, 4] rfl)
  refine lv_ldc2 (v := 27) hx hb hown k1 dX12_spelt_0 ?_
  refine lv_iload_n hx hb dX12_spelt_3 rfl (lv_at hl 0 rfl) ?_
  refine lv_i2l (v := 100) hx hb dX12_spelt_4 (by decide) ?_
  refine lv_ldc2 (v := 96) hx hb hown k2 dX12_spelt_5 ?_
  refine lv_lsub hx hb dX12_spelt_8 ?_
  refine otl 4 (by decide +kernel) ?_
  refine lv_lmul hx hb dX12_spelt_9 ?_
  refine otl 108 (by decide +kernel) ?_
  refine lv_iload_n hx hb dX12_spelt_10 rfl (lv_at hl 1 rfl) ?_
  refine lv_i2l (v := 97) hx hb dX12_spelt_11 (by decide) ?_
  refine lv_ladd hx hb dX12_spelt_12 ?_
  refine otl 205 (by decide +kernel) ?_
  refine lv_ldc2 (v := 96) hx hb hown k2 dX12_spelt_13 ?_
  refine lv_lsub hx hb dX12_spelt_16 ?_
  refine otl 109 (by decide +kernel) ?_
  refine lv_lstore (lv' := [(7, .long 109), (0, .int 100), (1, .int 97), (2, .int 121), (3, .int 0), (4, .int 0), (5, .int 0), (6, .int 0)]) hx hb dX12_spelt_17 hl (by decide) rfl (fun ls hl => ?_)
  refine lv_iload_n hx hb dX12_spelt_19 rfl (lv_at hl 3 rfl) ?_
  refine lv_if_le (tgt := 38) hx hb dX12_spelt_20 (by decide) (fun c => absurd c (by decide)) (fun _ => ?_)
  refine lv_ldc2 (v := 27) hx hb hown k1 dX12_spelt_23 ?_
  refine lv_lload hx hb dX12_spelt_26 (lv_at hl 0 rfl) ?_
  refine lv_lmul hx hb dX12_spelt_28 ?_
  refine otl 2943 (by decide +kernel) ?_
  refine lv_iload_n hx hb dX12_spelt_29 rfl (lv_at hl 3 rfl) ?_
  refine lv_i2l (v := 121) hx hb dX12_spelt_30 (by decide) ?_
  refine lv_ladd hx hb dX12_spelt_31 ?_
  refine otl 3064 (by decide +kernel) ?_
  refine lv_ldc2 (v := 96) hx hb hown k2 dX12_spelt_32 ?_
  refine lv_lsub hx hb dX12_spelt_35 ?_
  refine otl 2968 (by decide +kernel) ?_
  refine lv_lstore (lv' := [(7, .long 2968), (0, .int 100), (1, .int 97), (2, .int 121), (3, .int 0), (4, .int 0), (5, .int 0), (6, .int 0)]) hx hb dX12_spelt_36 hl (by decide) rfl (fun ls hl => ?_)
  exact J38_4 ()  hY H locs ls (oPsub hP [] rfl) (hD.sub [] (by decide) rfl) hS (lv_sub hl [4, 5, 6, 7, 0] rfl)
set_option maxHeartbeats 4000000 in
set_option maxRecDepth 100000 in
theorem e_X12_spelt_15 (l : Launch) (D : va_G) (ca : Nat → ClassId) (sz : Nat)   : oMet l yX12_spelt wsX12_spelt ({ frames := 0, cells := 0, slots := 0, locals := 0 } : Room) [.int 111, .int 114, .int 0, .int 0, .int 0, .int 0, .int 0] D ca sz [] (oQl D (fun (r : Int64) (u : Unit) => (r = 423) ∧ (r = y_X12_spelt_15)) (fun (u : Unit) => [])) 0 0 := by
  refine oM (cc := cX12_spelt) (maxL := 9) (ret := (some .long)) (by decide) rfl (Nat.le_of_ble_eq_true rfl) [(0, .int 111), (1, .int 114), (2, .int 0), (3, .int 0), (4, .int 0), (5, .int 0), (6, .int 0)] rfl ?_
  intro p e s m below meth c A H locs ls hx hb hr hml hts hown hlocks hin hK hP hD hA hS hl
  have hown : s.vm.findClass RX12 = some m.cls := hown
  have hY := y_X12_spelt_15_s 
  have k1 := hts (.constantLong RX12 54 27) (by decide +kernel)
  have k2 := hts (.constantLong RX12 56 96) (by decide +kernel)
  have J99_1 : ∀ (_ : Unit), y_X12_spelt_15 = y_X12_spelt_15_99  → ∀ (H : Heap) (locs : List Loc) (ls : Array Slot), va_P D vwCl [] H → va_D A [] → va_S A s.heap H locs → lv_has ls 9 [(6, .int 0), (7, .long 423)] → W p l e ({ frames := 0, cells := 0, slots := 0, locals := 0 } : Room) s m ([.int 111, .int 114, .int 0, .int 0, .int 0, .int 0, .int 0] : List Value).toArray below meth c H locs 0 0 (MQ below ((oQl D (fun (r : Int64) (u : Unit) => (r = 423) ∧ (r = y_X12_spelt_15)) (fun (u : Unit) => [])) A) ([.int 111, .int 114, .int 0, .int 0, .int 0, .int 0, .int 0] : List Value).toArray s 0 0 A) (F0 m 99 ls []) := by
    intro _  hY H locs ls hP hD hS hl
    have hY := hY.trans (y_X12_spelt_15_99_s )
    refine lv_iload hx hb dX12_spelt_99 (lv_at hl 0 rfl) ?_
    refine lv_if_le (tgt := 120) hx hb dX12_spelt_101 (by decide) (fun _ => ?_) (fun c => absurd (by decide) c)
    refine lv_lload hx hb dX12_spelt_120 (lv_at hl 1 rfl) ?_
    exact oE_l hx hb hr hlocks hP hD hS () [] rfl (by decide) ⟨rfl, hY.symm⟩ (Nat.le_of_ble_eq_true rfl) (Nat.le_of_ble_eq_true rfl) dX12_spelt_122
  have J78_2 : ∀ (_ : Unit), y_X12_spelt_15 = y_X12_spelt_15_78  → ∀ (H : Heap) (locs : List Loc) (ls : Array Slot), va_P D vwCl [] H → va_D A [] → va_S A s.heap H locs → lv_has ls 9 [(5, .int 0), (6, .int 0), (7, .long 423)] → W p l e ({ frames := 0, cells := 0, slots := 0, locals := 0 } : Room) s m ([.int 111, .int 114, .int 0, .int 0, .int 0, .int 0, .int 0] : List Value).toArray below meth c H locs 0 0 (MQ below ((oQl D (fun (r : Int64) (u : Unit) => (r = 423) ∧ (r = y_X12_spelt_15)) (fun (u : Unit) => [])) A) ([.int 111, .int 114, .int 0, .int 0, .int 0, .int 0, .int 0] : List Value).toArray s 0 0 A) (F0 m 78 ls []) := by
    intro _  hY H locs ls hP hD hS hl
    have hY := hY.trans (y_X12_spelt_15_78_s )
    refine lv_iload hx hb dX12_spelt_78 (lv_at hl 0 rfl) ?_
    refine lv_if_le (tgt := 99) hx hb dX12_spelt_80 (by decide) (fun _ => ?_) (fun c => absurd (by decide) c)
    exact J99_1 ()  hY H locs ls (oPsub hP [] rfl) (hD.sub [] (by decide) rfl) hS (lv_sub hl [1, 2] rfl)
  have J57_3 : ∀ (_ : Unit), y_X12_spelt_15 = y_X12_spelt_15_57  → ∀ (H : Heap) (locs : List Loc) (ls : Array Slot), va_P D vwCl [] H → va_D A [] → va_S A s.heap H locs → lv_has ls 9 [(4, .int 0), (5, .int 0), (6, .int 0), (7, .long 423)] → W p l e ({ frames := 0, cells := 0, slots := 0, locals := 0 } : Room) s m ([.int 111, .int 114, .int 0, .int 0, .int 0, .int 0, .int 0] : List Value).toArray below meth c H locs 0 0 (MQ below ((oQl D (fun (r : Int64) (u : Unit) => (r = 423) ∧ (r = y_X12_spelt_15)) (fun (u : Unit) => [])) A) ([.int 111, .int 114, .int 0, .int 0, .int 0, .int 0, .int 0] : List Value).toArray s 0 0 A) (F0 m 57 ls []) := by
    intro _  hY H locs ls hP hD hS hl
    have hY := hY.trans (y_X12_spelt_15_57_s )
    refine lv_iload hx hb dX12_spelt_57 (lv_at hl 0 rfl) ?_
    refine lv_if_le (tgt := 78) hx hb dX12_spelt_59 (by decide) (fun _ => ?_) (fun c => absurd (by decide) c)
    exact J78_2 ()  hY H locs ls (oPsub hP [] rfl) (hD.sub [] (by decide) rfl) hS (lv_sub hl [1, 2, 3] rfl)
  have J38_4 : ∀ (_ : Unit), y_X12_spelt_15 = y_X12_spelt_15_38  → ∀ (H : Heap) (locs : List Loc) (ls : Array Slot), va_P D vwCl [] H → va_D A [] → va_S A s.heap H locs → lv_has ls 9 [(3, .int 0), (4, .int 0), (5, .int 0), (6, .int 0), (7, .long 423)] → W p l e ({ frames := 0, cells := 0, slots := 0, locals := 0 } : Room) s m ([.int 111, .int 114, .int 0, .int 0, .int 0, .int 0, .int 0] : List Value).toArray below meth c H locs 0 0 (MQ below ((oQl D (fun (r : Int64) (u : Unit) => (r = 423) ∧ (r = y_X12_spelt_15)) (fun (u : Unit) => [])) A) ([.int 111, .int 114, .int 0, .int 0, .int 0, .int 0, .int 0] : List Value).toArray s 0 0 A) (F0 m 38 ls []) := by
    intro _  hY H locs ls hP hD hS hl
    have hY := hY.trans (y_X12_spelt_15_38_s )
    refine lv_iload_n hx hb dX12_spelt_38 rfl (lv_at hl 0 rfl) ?_
    refine lv_if_le (tgt := 57) hx hb dX12_spelt_39 (by decide) (fun _ => ?_) (fun c => absurd (by decide) c)
    exact J57_3 ()  hY H locs ls (oPsub hP [] rfl) (hD.sub [] (by decide) rfl) hS (lv_sub hl [1, 2, 3, 4] rfl)
  refine lv_ldc2 (v := 27) hx hb hown k1 dX12_spelt_0 ?_
  refine lv_iload_n hx hb dX12_spelt_3 rfl (lv_at hl 0 rfl) ?_
  refine lv_i2l (v := 111) hx hb dX12_spelt_4 (by decide) ?_
  refine lv_ldc2 (v := 96) hx hb hown k2 dX12_spelt_5 ?_
  refine lv_lsub hx hb dX12_spelt_8 ?_
  refine otl 15 (by decide +kernel) ?_
  refine lv_lmul hx hb dX12_spelt_9 ?_
  refine otl 405 (by decide +kernel) ?_
  refine lv_iload_n hx hb dX12_spelt_10 rfl (lv_at hl 1 rfl) ?_
  refine lv_i2l (v := 114) hx hb dX12_spelt_11 (by decide) ?_
  refine lv_ladd hx hb dX12_spelt_12 ?_
  refine otl 519 (by decide +kernel) ?_
  refine lv_ldc2 (v := 96) hx hb hown k2 dX12_spelt_13 ?_
  refine lv_lsub hx hb dX12_spelt_16 ?_
  refine otl 423 (by decide +kernel) ?_
  refine lv_lstore (lv' := [(7, .long 423), (0, .int 111), (1, .int 114), (2, .int 0), (3, .int 0), (4, .int 0), (5, .int 0), (6, .int 0)]) hx hb dX12_spelt_17 hl (by decide) rfl (fun ls hl => ?_)
  refine lv_iload_n hx hb dX12_spelt_19 rfl (lv_at hl 3 rfl) ?_
  refine lv_if_le (tgt := 38) hx hb dX12_spelt_20 (by decide) (fun _ => ?_) (fun c => absurd (by decide) c)
  exact J38_4 ()  hY H locs ls (oPsub hP [] rfl) (hD.sub [] (by decide) rfl) hS (lv_sub hl [4, 5, 6, 7, 0] rfl)
set_option maxHeartbeats 4000000 in
set_option maxRecDepth 100000 in
theorem e_X12_spelt_16 (l : Launch) (D : va_G) (ca : Nat → ClassId) (sz : Nat)   : oMet l yX12_spelt wsX12_spelt ({ frames := 0, cells := 0, slots := 0, locals := 0 } : Room) [.int 97, .int 110, .int 100, .int 0, .int 0, .int 0, .int 0] D ca sz [] (oQl D (fun (r : Int64) (u : Unit) => (r = 1111) ∧ (r = y_X12_spelt_16)) (fun (u : Unit) => [])) 0 0 := by
  refine oM (cc := cX12_spelt) (maxL := 9) (ret := (some .long)) (by decide) rfl (Nat.le_of_ble_eq_true rfl) [(0, .int 97), (1, .int 110), (2, .int 100), (3, .int 0), (4, .int 0), (5, .int 0), (6, .int 0)] rfl ?_
  intro p e s m below meth c A H locs ls hx hb hr hml hts hown hlocks hin hK hP hD hA hS hl
  have hown : s.vm.findClass RX12 = some m.cls := hown
  have hY := y_X12_spelt_16_s 
  have k1 := hts (.constantLong RX12 54 27) (by decide +kernel)
  have k2 := hts (.constantLong RX12 56 96) (by decide +kernel)
  have J99_1 : ∀ (_ : Unit), y_X12_spelt_16 = y_X12_spelt_16_99  → ∀ (H : Heap) (locs : List Loc) (ls : Array Slot), va_P D vwCl [] H → va_D A [] → va_S A s.heap H locs → lv_has ls 9 [(6, .int 0), (7, .long 1111)] → W p l e ({ frames := 0, cells := 0, slots := 0, locals := 0 } : Room) s m ([.int 97, .int 110, .int 100, .int 0, .int 0, .int 0, .int 0] : List Value).toArray below meth c H locs 0 0 (MQ below ((oQl D (fun (r : Int64) (u : Unit) => (r = 1111) ∧ (r = y_X12_spelt_16)) (fun (u : Unit) => [])) A) ([.int 97, .int 110, .int 100, .int 0, .int 0, .int 0, .int 0] : List Value).toArray s 0 0 A) (F0 m 99 ls []) := by
    intro _  hY H locs ls hP hD hS hl
    have hY := hY.trans (y_X12_spelt_16_99_s )
    refine lv_iload hx hb dX12_spelt_99 (lv_at hl 0 rfl) ?_
    refine lv_if_le (tgt := 120) hx hb dX12_spelt_101 (by decide) (fun _ => ?_) (fun c => absurd (by decide) c)
    refine lv_lload hx hb dX12_spelt_120 (lv_at hl 1 rfl) ?_
    exact oE_l hx hb hr hlocks hP hD hS () [] rfl (by decide) ⟨rfl, hY.symm⟩ (Nat.le_of_ble_eq_true rfl) (Nat.le_of_ble_eq_true rfl) dX12_spelt_122
  have J78_2 : ∀ (_ : Unit), y_X12_spelt_16 = y_X12_spelt_16_78  → ∀ (H : Heap) (locs : List Loc) (ls : Array Slot), va_P D vwCl [] H → va_D A [] → va_S A s.heap H locs → lv_has ls 9 [(5, .int 0), (6, .int 0), (7, .long 1111)] → W p l e ({ frames := 0, cells := 0, slots := 0, locals := 0 } : Room) s m ([.int 97, .int 110, .int 100, .int 0, .int 0, .int 0, .int 0] : List Value).toArray below meth c H locs 0 0 (MQ below ((oQl D (fun (r : Int64) (u : Unit) => (r = 1111) ∧ (r = y_X12_spelt_16)) (fun (u : Unit) => [])) A) ([.int 97, .int 110, .int 100, .int 0, .int 0, .int 0, .int 0] : List Value).toArray s 0 0 A) (F0 m 78 ls []) := by
    intro _  hY H locs ls hP hD hS hl
    have hY := hY.trans (y_X12_spelt_16_78_s )
    refine lv_iload hx hb dX12_spelt_78 (lv_at hl 0 rfl) ?_
    refine lv_if_le (tgt := 99) hx hb dX12_spelt_80 (by decide) (fun _ => ?_) (fun c => absurd (by decide) c)
    exact J99_1 ()  hY H locs ls (oPsub hP [] rfl) (hD.sub [] (by decide) rfl) hS (lv_sub hl [1, 2] rfl)
  have J57_3 : ∀ (_ : Unit), y_X12_spelt_16 = y_X12_spelt_16_57  → ∀ (H : Heap) (locs : List Loc) (ls : Array Slot), va_P D vwCl [] H → va_D A [] → va_S A s.heap H locs → lv_has ls 9 [(4, .int 0), (5, .int 0), (6, .int 0), (7, .long 1111)] → W p l e ({ frames := 0, cells := 0, slots := 0, locals := 0 } : Room) s m ([.int 97, .int 110, .int 100, .int 0, .int 0, .int 0, .int 0] : List Value).toArray below meth c H locs 0 0 (MQ below ((oQl D (fun (r : Int64) (u : Unit) => (r = 1111) ∧ (r = y_X12_spelt_16)) (fun (u : Unit) => [])) A) ([.int 97, .int 110, .int 100, .int 0, .int 0, .int 0, .int 0] : List Value).toArray s 0 0 A) (F0 m 57 ls []) := by
    intro _  hY H locs ls hP hD hS hl
    have hY := hY.trans (y_X12_spelt_16_57_s )
    refine lv_iload hx hb dX12_spelt_57 (lv_at hl 0 rfl) ?_
    refine lv_if_le (tgt := 78) hx hb dX12_spelt_59 (by decide) (fun _ => ?_) (fun c => absurd (by decide) c)
    exact J78_2 ()  hY H locs ls (oPsub hP [] rfl) (hD.sub [] (by decide) rfl) hS (lv_sub hl [1, 2, 3] rfl)
  have J38_4 : ∀ (_ : Unit), y_X12_spelt_16 = y_X12_spelt_16_38  → ∀ (H : Heap) (locs : List Loc) (ls : Array Slot), va_P D vwCl [] H → va_D A [] → va_S A s.heap H locs → lv_has ls 9 [(3, .int 0), (4, .int 0), (5, .int 0), (6, .int 0), (7, .long 1111)] → W p l e ({ frames := 0, cells := 0, slots := 0, locals := 0 } : Room) s m ([.int 97, .int 110, .int 100, .int 0, .int 0, .int 0, .int 0] : List Value).toArray below meth c H locs 0 0 (MQ below ((oQl D (fun (r : Int64) (u : Unit) => (r = 1111) ∧ (r = y_X12_spelt_16)) (fun (u : Unit) => [])) A) ([.int 97, .int 110, .int 100, .int 0, .int 0, .int 0, .int 0] : List Value).toArray s 0 0 A) (F0 m 38 ls []) := by
    intro _  hY H locs ls hP hD hS hl
    have hY := hY.trans (y_X12_spelt_16_38_s )
    refine lv_iload_n hx hb dX12_spelt_38 rfl (lv_at hl 0 rfl) ?_
    refine lv_if_le (tgt := 57) hx hb dX12_spelt_39 (by decide) (fun _ => ?_) (fun c => absurd (by decide) c)
    exact J57_3 ()  hY H locs ls (oPsub hP [] rfl) (hD.sub [] (by decide) rfl) hS (lv_sub hl [1, 2, 3, 4] rfl)
  refine lv_ldc2 (v := 27) hx hb hown k1 dX12_spelt_0 ?_
  refine lv_iload_n hx hb dX12_spelt_3 rfl (lv_at hl 0 rfl) ?_
  refine lv_i2l (v := 97) hx hb dX12_spelt_4 (by decide) ?_
  refine lv_ldc2 (v := 96) hx hb hown k2 dX12_spelt_5 ?_
  refine lv_lsub hx hb dX12_spelt_8 ?_
  refine otl 1 (by decide +kernel) ?_
  refine lv_lmul hx hb dX12_spelt_9 ?_
  refine otl 27 (by decide +kernel) ?_
  refine lv_iload_n hx hb dX12_spelt_10 rfl (lv_at hl 1 rfl) ?_
  refine lv_i2l (v := 110) hx hb dX12_spelt_11 (by decide) ?_
  refine lv_ladd hx hb dX12_spelt_12 ?_
  refine otl 137 (by decide +kernel) ?_
  refine lv_ldc2 (v := 96) hx hb hown k2 dX12_spelt_13 ?_
  refine lv_lsub hx hb dX12_spelt_16 ?_
  refine otl 41 (by decide +kernel) ?_
  refine lv_lstore (lv' := [(7, .long 41), (0, .int 97), (1, .int 110), (2, .int 100), (3, .int 0), (4, .int 0), (5, .int 0), (6, .int 0)]) hx hb dX12_spelt_17 hl (by decide) rfl (fun ls hl => ?_)
  refine lv_iload_n hx hb dX12_spelt_19 rfl (lv_at hl 3 rfl) ?_
  refine lv_if_le (tgt := 38) hx hb dX12_spelt_20 (by decide) (fun c => absurd c (by decide)) (fun _ => ?_)
  refine lv_ldc2 (v := 27) hx hb hown k1 dX12_spelt_23 ?_
  refine lv_lload hx hb dX12_spelt_26 (lv_at hl 0 rfl) ?_
  refine lv_lmul hx hb dX12_spelt_28 ?_
  refine otl 1107 (by decide +kernel) ?_
  refine lv_iload_n hx hb dX12_spelt_29 rfl (lv_at hl 3 rfl) ?_
  refine lv_i2l (v := 100) hx hb dX12_spelt_30 (by decide) ?_
  refine lv_ladd hx hb dX12_spelt_31 ?_
  refine otl 1207 (by decide +kernel) ?_
  refine lv_ldc2 (v := 96) hx hb hown k2 dX12_spelt_32 ?_
  refine lv_lsub hx hb dX12_spelt_35 ?_
  refine otl 1111 (by decide +kernel) ?_
  refine lv_lstore (lv' := [(7, .long 1111), (0, .int 97), (1, .int 110), (2, .int 100), (3, .int 0), (4, .int 0), (5, .int 0), (6, .int 0)]) hx hb dX12_spelt_36 hl (by decide) rfl (fun ls hl => ?_)
  exact J38_4 ()  hY H locs ls (oPsub hP [] rfl) (hD.sub [] (by decide) rfl) hS (lv_sub hl [4, 5, 6, 7, 0] rfl)
set_option maxHeartbeats 4000000 in
set_option maxRecDepth 100000 in
theorem e_X12_spelt_17 (l : Launch) (D : va_G) (ca : Nat → ClassId) (sz : Nat)   : oMet l yX12_spelt wsX12_spelt ({ frames := 0, cells := 0, slots := 0, locals := 0 } : Room) [.int 110, .int 111, .int 116, .int 0, .int 0, .int 0, .int 0] D ca sz [] (oQl D (fun (r : Int64) (u : Unit) => (r = 10631) ∧ (r = y_X12_spelt_17)) (fun (u : Unit) => [])) 0 0 := by
  refine oM (cc := cX12_spelt) (maxL := 9) (ret := (some .long)) (by decide) rfl (Nat.le_of_ble_eq_true rfl) [(0, .int 110), (1, .int 111), (2, .int 116), (3, .int 0), (4, .int 0), (5, .int 0), (6, .int 0)] rfl ?_
  intro p e s m below meth c A H locs ls hx hb hr hml hts hown hlocks hin hK hP hD hA hS hl
  have hown : s.vm.findClass RX12 = some m.cls := hown
  have hY := y_X12_spelt_17_s 
  have k1 := hts (.constantLong RX12 54 27) (by decide +kernel)
  have k2 := hts (.constantLong RX12 56 96) (by decide +kernel)
  have J99_1 : ∀ (_ : Unit), y_X12_spelt_17 = y_X12_spelt_17_99  → ∀ (H : Heap) (locs : List Loc) (ls : Array Slot), va_P D vwCl [] H → va_D A [] → va_S A s.heap H locs → lv_has ls 9 [(6, .int 0), (7, .long 10631)] → W p l e ({ frames := 0, cells := 0, slots := 0, locals := 0 } : Room) s m ([.int 110, .int 111, .int 116, .int 0, .int 0, .int 0, .int 0] : List Value).toArray below meth c H locs 0 0 (MQ below ((oQl D (fun (r : Int64) (u : Unit) => (r = 10631) ∧ (r = y_X12_spelt_17)) (fun (u : Unit) => [])) A) ([.int 110, .int 111, .int 116, .int 0, .int 0, .int 0, .int 0] : List Value).toArray s 0 0 A) (F0 m 99 ls []) := by
    intro _  hY H locs ls hP hD hS hl
    have hY := hY.trans (y_X12_spelt_17_99_s )
    refine lv_iload hx hb dX12_spelt_99 (lv_at hl 0 rfl) ?_
    refine lv_if_le (tgt := 120) hx hb dX12_spelt_101 (by decide) (fun _ => ?_) (fun c => absurd (by decide) c)
    refine lv_lload hx hb dX12_spelt_120 (lv_at hl 1 rfl) ?_
    exact oE_l hx hb hr hlocks hP hD hS () [] rfl (by decide) ⟨rfl, hY.symm⟩ (Nat.le_of_ble_eq_true rfl) (Nat.le_of_ble_eq_true rfl) dX12_spelt_122
  have J78_2 : ∀ (_ : Unit), y_X12_spelt_17 = y_X12_spelt_17_78  → ∀ (H : Heap) (locs : List Loc) (ls : Array Slot), va_P D vwCl [] H → va_D A [] → va_S A s.heap H locs → lv_has ls 9 [(5, .int 0), (6, .int 0), (7, .long 10631)] → W p l e ({ frames := 0, cells := 0, slots := 0, locals := 0 } : Room) s m ([.int 110, .int 111, .int 116, .int 0, .int 0, .int 0, .int 0] : List Value).toArray below meth c H locs 0 0 (MQ below ((oQl D (fun (r : Int64) (u : Unit) => (r = 10631) ∧ (r = y_X12_spelt_17)) (fun (u : Unit) => [])) A) ([.int 110, .int 111, .int 116, .int 0, .int 0, .int 0, .int 0] : List Value).toArray s 0 0 A) (F0 m 78 ls []) := by
    intro _  hY H locs ls hP hD hS hl
    have hY := hY.trans (y_X12_spelt_17_78_s )
    refine lv_iload hx hb dX12_spelt_78 (lv_at hl 0 rfl) ?_
    refine lv_if_le (tgt := 99) hx hb dX12_spelt_80 (by decide) (fun _ => ?_) (fun c => absurd (by decide) c)
    exact J99_1 ()  hY H locs ls (oPsub hP [] rfl) (hD.sub [] (by decide) rfl) hS (lv_sub hl [1, 2] rfl)
  have J57_3 : ∀ (_ : Unit), y_X12_spelt_17 = y_X12_spelt_17_57  → ∀ (H : Heap) (locs : List Loc) (ls : Array Slot), va_P D vwCl [] H → va_D A [] → va_S A s.heap H locs → lv_has ls 9 [(4, .int 0), (5, .int 0), (6, .int 0), (7, .long 10631)] → W p l e ({ frames := 0, cells := 0, slots := 0, locals := 0 } : Room) s m ([.int 110, .int 111, .int 116, .int 0, .int 0, .int 0, .int 0] : List Value).toArray below meth c H locs 0 0 (MQ below ((oQl D (fun (r : Int64) (u : Unit) => (r = 10631) ∧ (r = y_X12_spelt_17)) (fun (u : Unit) => [])) A) ([.int 110, .int 111, .int 116, .int 0, .int 0, .int 0, .int 0] : List Value).toArray s 0 0 A) (F0 m 57 ls []) := by
    intro _  hY H locs ls hP hD hS hl
    have hY := hY.trans (y_X12_spelt_17_57_s )
    refine lv_iload hx hb dX12_spelt_57 (lv_at hl 0 rfl) ?_
    refine lv_if_le (tgt := 78) hx hb dX12_spelt_59 (by decide) (fun _ => ?_) (fun c => absurd (by decide) c)
    exact J78_2 ()  hY H locs ls (oPsub hP [] rfl) (hD.sub [] (by decide) rfl) hS (lv_sub hl [1, 2, 3] rfl)
  have J38_4 : ∀ (_ : Unit), y_X12_spelt_17 = y_X12_spelt_17_38  → ∀ (H : Heap) (locs : List Loc) (ls : Array Slot), va_P D vwCl [] H → va_D A [] → va_S A s.heap H locs → lv_has ls 9 [(3, .int 0), (4, .int 0), (5, .int 0), (6, .int 0), (7, .long 10631)] → W p l e ({ frames := 0, cells := 0, slots := 0, locals := 0 } : Room) s m ([.int 110, .int 111, .int 116, .int 0, .int 0, .int 0, .int 0] : List Value).toArray below meth c H locs 0 0 (MQ below ((oQl D (fun (r : Int64) (u : Unit) => (r = 10631) ∧ (r = y_X12_spelt_17)) (fun (u : Unit) => [])) A) ([.int 110, .int 111, .int 116, .int 0, .int 0, .int 0, .int 0] : List Value).toArray s 0 0 A) (F0 m 38 ls []) := by
    intro _  hY H locs ls hP hD hS hl
    have hY := hY.trans (y_X12_spelt_17_38_s )
    refine lv_iload_n hx hb dX12_spelt_38 rfl (lv_at hl 0 rfl) ?_
    refine lv_if_le (tgt := 57) hx hb dX12_spelt_39 (by decide) (fun _ => ?_) (fun c => absurd (by decide) c)
    exact J57_3 ()  hY H locs ls (oPsub hP [] rfl) (hD.sub [] (by decide) rfl) hS (lv_sub hl [1, 2, 3, 4] rfl)
  refine lv_ldc2 (v := 27) hx hb hown k1 dX12_spelt_0 ?_
  refine lv_iload_n hx hb dX12_spelt_3 rfl (lv_at hl 0 rfl) ?_
  refine lv_i2l (v := 110) hx hb dX12_spelt_4 (by decide) ?_
  refine lv_ldc2 (v := 96) hx hb hown k2 dX12_spelt_5 ?_
  refine lv_lsub hx hb dX12_spelt_8 ?_
  refine otl 14 (by decide +kernel) ?_
  refine lv_lmul hx hb dX12_spelt_9 ?_
  refine otl 378 (by decide +kernel) ?_
  refine lv_iload_n hx hb dX12_spelt_10 rfl (lv_at hl 1 rfl) ?_
  refine lv_i2l (v := 111) hx hb dX12_spelt_11 (by decide) ?_
  refine lv_ladd hx hb dX12_spelt_12 ?_
  refine otl 489 (by decide +kernel) ?_
  refine lv_ldc2 (v := 96) hx hb hown k2 dX12_spelt_13 ?_
  refine lv_lsub hx hb dX12_spelt_16 ?_
  refine otl 393 (by decide +kernel) ?_
  refine lv_lstore (lv' := [(7, .long 393), (0, .int 110), (1, .int 111), (2, .int 116), (3, .int 0), (4, .int 0), (5, .int 0), (6, .int 0)]) hx hb dX12_spelt_17 hl (by decide) rfl (fun ls hl => ?_)
  refine lv_iload_n hx hb dX12_spelt_19 rfl (lv_at hl 3 rfl) ?_
  refine lv_if_le (tgt := 38) hx hb dX12_spelt_20 (by decide) (fun c => absurd c (by decide)) (fun _ => ?_)
  refine lv_ldc2 (v := 27) hx hb hown k1 dX12_spelt_23 ?_
  refine lv_lload hx hb dX12_spelt_26 (lv_at hl 0 rfl) ?_
  refine lv_lmul hx hb dX12_spelt_28 ?_
  refine otl 10611 (by decide +kernel) ?_
  refine lv_iload_n hx hb dX12_spelt_29 rfl (lv_at hl 3 rfl) ?_
  refine lv_i2l (v := 116) hx hb dX12_spelt_30 (by decide) ?_
  refine lv_ladd hx hb dX12_spelt_31 ?_
  refine otl 10727 (by decide +kernel) ?_
  refine lv_ldc2 (v := 96) hx hb hown k2 dX12_spelt_32 ?_
  refine lv_lsub hx hb dX12_spelt_35 ?_
  refine otl 10631 (by decide +kernel) ?_
  refine lv_lstore (lv' := [(7, .long 10631), (0, .int 110), (1, .int 111), (2, .int 116), (3, .int 0), (4, .int 0), (5, .int 0), (6, .int 0)]) hx hb dX12_spelt_36 hl (by decide) rfl (fun ls hl => ?_)
  exact J38_4 ()  hY H locs ls (oPsub hP [] rfl) (hD.sub [] (by decide) rfl) hS (lv_sub hl [4, 5, 6, 7, 0] rfl)
set_option maxHeartbeats 4000000 in
set_option maxRecDepth 100000 in
theorem e_X12_spelt_18 (l : Launch) (D : va_G) (ca : Nat → ClassId) (sz : Nat)   : oMet l yX12_spelt wsX12_spelt ({ frames := 0, cells := 0, slots := 0, locals := 0 } : Room) [.int 115, .int 105, .int 116, .int 116, .int 105, .int 110, .int 103] D ca sz [] (oQl D (fun (r : Int64) (u : Unit) => (r = 7501158880) ∧ (r = y_X12_spelt_18)) (fun (u : Unit) => [])) 0 0 := by
  refine oM (cc := cX12_spelt) (maxL := 9) (ret := (some .long)) (by decide) rfl (Nat.le_of_ble_eq_true rfl) [(0, .int 115), (1, .int 105), (2, .int 116), (3, .int 116), (4, .int 105), (5, .int 110), (6, .int 103)] rfl ?_
  intro p e s m below meth c A H locs ls hx hb hr hml hts hown hlocks hin hK hP hD hA hS hl
  have hown : s.vm.findClass RX12 = some m.cls := hown
  have hY := y_X12_spelt_18_s 
  have k1 := hts (.constantLong RX12 54 27) (by decide +kernel)
  have k2 := hts (.constantLong RX12 56 96) (by decide +kernel)
  have J99_1 : ∀ (_ : Unit), y_X12_spelt_18 = y_X12_spelt_18_99  → ∀ (H : Heap) (locs : List Loc) (ls : Array Slot), va_P D vwCl [] H → va_D A [] → va_S A s.heap H locs → lv_has ls 9 [(6, .int 103), (7, .long 277820699)] → W p l e ({ frames := 0, cells := 0, slots := 0, locals := 0 } : Room) s m ([.int 115, .int 105, .int 116, .int 116, .int 105, .int 110, .int 103] : List Value).toArray below meth c H locs 0 0 (MQ below ((oQl D (fun (r : Int64) (u : Unit) => (r = 7501158880) ∧ (r = y_X12_spelt_18)) (fun (u : Unit) => [])) A) ([.int 115, .int 105, .int 116, .int 116, .int 105, .int 110, .int 103] : List Value).toArray s 0 0 A) (F0 m 99 ls []) := by
    intro _  hY H locs ls hP hD hS hl
    have hY := hY.trans (y_X12_spelt_18_99_s )
    refine lv_iload hx hb dX12_spelt_99 (lv_at hl 0 rfl) ?_
    refine lv_if_le (tgt := 120) hx hb dX12_spelt_101 (by decide) (fun c => absurd c (by decide)) (fun _ => ?_)
    refine lv_ldc2 (v := 27) hx hb hown k1 dX12_spelt_104 ?_
    refine lv_lload hx hb dX12_spelt_107 (lv_at hl 1 rfl) ?_
    refine lv_lmul hx hb dX12_spelt_109 ?_
    refine otl 7501158873 (by decide +kernel) ?_
    refine lv_iload hx hb dX12_spelt_110 (lv_at hl 0 rfl) ?_
    refine lv_i2l (v := 103) hx hb dX12_spelt_112 (by decide) ?_
    refine lv_ladd hx hb dX12_spelt_113 ?_
    refine otl 7501158976 (by decide +kernel) ?_
    refine lv_ldc2 (v := 96) hx hb hown k2 dX12_spelt_114 ?_
    refine lv_lsub hx hb dX12_spelt_117 ?_
    refine otl 7501158880 (by decide +kernel) ?_
    refine lv_lstore (lv' := [(7, .long 7501158880), (6, .int 103)]) hx hb dX12_spelt_118 hl (by decide) rfl (fun ls hl => ?_)
    refine lv_lload hx hb dX12_spelt_120 (lv_at hl 0 rfl) ?_
    exact oE_l hx hb hr hlocks hP hD hS () [] rfl (by decide) ⟨rfl, hY.symm⟩ (Nat.le_of_ble_eq_true rfl) (Nat.le_of_ble_eq_true rfl) dX12_spelt_122
  have J78_2 : ∀ (_ : Unit), y_X12_spelt_18 = y_X12_spelt_18_78  → ∀ (H : Heap) (locs : List Loc) (ls : Array Slot), va_P D vwCl [] H → va_D A [] → va_S A s.heap H locs → lv_has ls 9 [(5, .int 110), (6, .int 103), (7, .long 10289655)] → W p l e ({ frames := 0, cells := 0, slots := 0, locals := 0 } : Room) s m ([.int 115, .int 105, .int 116, .int 116, .int 105, .int 110, .int 103] : List Value).toArray below meth c H locs 0 0 (MQ below ((oQl D (fun (r : Int64) (u : Unit) => (r = 7501158880) ∧ (r = y_X12_spelt_18)) (fun (u : Unit) => [])) A) ([.int 115, .int 105, .int 116, .int 116, .int 105, .int 110, .int 103] : List Value).toArray s 0 0 A) (F0 m 78 ls []) := by
    intro _  hY H locs ls hP hD hS hl
    have hY := hY.trans (y_X12_spelt_18_78_s )
    refine lv_iload hx hb dX12_spelt_78 (lv_at hl 0 rfl) ?_
    refine lv_if_le (tgt := 99) hx hb dX12_spelt_80 (by decide) (fun c => absurd c (by decide)) (fun _ => ?_)
    refine lv_ldc2 (v := 27) hx hb hown k1 dX12_spelt_83 ?_
    refine lv_lload hx hb dX12_spelt_86 (lv_at hl 2 rfl) ?_
    refine lv_lmul hx hb dX12_spelt_88 ?_
    refine otl 277820685 (by decide +kernel) ?_
    refine lv_iload hx hb dX12_spelt_89 (lv_at hl 0 rfl) ?_
    refine lv_i2l (v := 110) hx hb dX12_spelt_91 (by decide) ?_
    refine lv_ladd hx hb dX12_spelt_92 ?_
    refine otl 277820795 (by decide +kernel) ?_
    refine lv_ldc2 (v := 96) hx hb hown k2 dX12_spelt_93 ?_
    refine lv_lsub hx hb dX12_spelt_96 ?_
    refine otl 277820699 (by decide +kernel) ?_
    refine lv_lstore (lv' := [(7, .long 277820699), (5, .int 110), (6, .int 103)]) hx hb dX12_spelt_97 hl (by decide) rfl (fun ls hl => ?_)
    exact J99_1 ()  hY H locs ls (oPsub hP [] rfl) (hD.sub [] (by decide) rfl) hS (lv_sub hl [2, 0] rfl)
  have J57_3 : ∀ (_ : Unit), y_X12_spelt_18 = y_X12_spelt_18_57  → ∀ (H : Heap) (locs : List Loc) (ls : Array Slot), va_P D vwCl [] H → va_D A [] → va_S A s.heap H locs → lv_has ls 9 [(4, .int 105), (5, .int 110), (6, .int 103), (7, .long 381098)] → W p l e ({ frames := 0, cells := 0, slots := 0, locals := 0 } : Room) s m ([.int 115, .int 105, .int 116, .int 116, .int 105, .int 110, .int 103] : List Value).toArray below meth c H locs 0 0 (MQ below ((oQl D (fun (r : Int64) (u : Unit) => (r = 7501158880) ∧ (r = y_X12_spelt_18)) (fun (u : Unit) => [])) A) ([.int 115, .int 105, .int 116, .int 116, .int 105, .int 110, .int 103] : List Value).toArray s 0 0 A) (F0 m 57 ls []) := by
    intro _  hY H locs ls hP hD hS hl
    have hY := hY.trans (y_X12_spelt_18_57_s )
    refine lv_iload hx hb dX12_spelt_57 (lv_at hl 0 rfl) ?_
    refine lv_if_le (tgt := 78) hx hb dX12_spelt_59 (by decide) (fun c => absurd c (by decide)) (fun _ => ?_)
    refine lv_ldc2 (v := 27) hx hb hown k1 dX12_spelt_62 ?_
    refine lv_lload hx hb dX12_spelt_65 (lv_at hl 3 rfl) ?_
    refine lv_lmul hx hb dX12_spelt_67 ?_
    refine otl 10289646 (by decide +kernel) ?_
    refine lv_iload hx hb dX12_spelt_68 (lv_at hl 0 rfl) ?_
    refine lv_i2l (v := 105) hx hb dX12_spelt_70 (by decide) ?_
    refine lv_ladd hx hb dX12_spelt_71 ?_
    refine otl 10289751 (by decide +kernel) ?_
    refine lv_ldc2 (v := 96) hx hb hown k2 dX12_spelt_72 ?_
    refine lv_lsub hx hb dX12_spelt_75 ?_
    refine otl 10289655 (by decide +kernel) ?_
    refine lv_lstore (lv' := [(7, .long 10289655), (4, .int 105), (5, .int 110), (6, .int 103)]) hx hb dX12_spelt_76 hl (by decide) rfl (fun ls hl => ?_)
    exact J78_2 ()  hY H locs ls (oPsub hP [] rfl) (hD.sub [] (by decide) rfl) hS (lv_sub hl [2, 3, 0] rfl)
  have J38_4 : ∀ (_ : Unit), y_X12_spelt_18 = y_X12_spelt_18_38  → ∀ (H : Heap) (locs : List Loc) (ls : Array Slot), va_P D vwCl [] H → va_D A [] → va_S A s.heap H locs → lv_has ls 9 [(3, .int 116), (4, .int 105), (5, .int 110), (6, .int 103), (7, .long 14114)] → W p l e ({ frames := 0, cells := 0, slots := 0, locals := 0 } : Room) s m ([.int 115, .int 105, .int 116, .int 116, .int 105, .int 110, .int 103] : List Value).toArray below meth c H locs 0 0 (MQ below ((oQl D (fun (r : Int64) (u : Unit) => (r = 7501158880) ∧ (r = y_X12_spelt_18)) (fun (u : Unit) => [])) A) ([.int 115, .int 105, .int 116, .int 116, .int 105, .int 110, .int 103] : List Value).toArray s 0 0 A) (F0 m 38 ls []) := by
    intro _  hY H locs ls hP hD hS hl
    have hY := hY.trans (y_X12_spelt_18_38_s )
    refine lv_iload_n hx hb dX12_spelt_38 rfl (lv_at hl 0 rfl) ?_
    refine lv_if_le (tgt := 57) hx hb dX12_spelt_39 (by decide) (fun c => absurd c (by decide)) (fun _ => ?_)
    refine lv_ldc2 (v := 27) hx hb hown k1 dX12_spelt_42 ?_
    refine lv_lload hx hb dX12_spelt_45 (lv_at hl 4 rfl) ?_
    refine lv_lmul hx hb dX12_spelt_47 ?_
    refine otl 381078 (by decide +kernel) ?_
    refine lv_iload_n hx hb dX12_spelt_48 rfl (lv_at hl 0 rfl) ?_
    refine lv_i2l (v := 116) hx hb dX12_spelt_49 (by decide) ?_
    refine lv_ladd hx hb dX12_spelt_50 ?_
    refine otl 381194 (by decide +kernel) ?_
    refine lv_ldc2 (v := 96) hx hb hown k2 dX12_spelt_51 ?_
    refine lv_lsub hx hb dX12_spelt_54 ?_
    refine otl 381098 (by decide +kernel) ?_
    refine lv_lstore (lv' := [(7, .long 381098), (3, .int 116), (4, .int 105), (5, .int 110), (6, .int 103)]) hx hb dX12_spelt_55 hl (by decide) rfl (fun ls hl => ?_)
    exact J57_3 ()  hY H locs ls (oPsub hP [] rfl) (hD.sub [] (by decide) rfl) hS (lv_sub hl [2, 3, 4, 0] rfl)
  refine lv_ldc2 (v := 27) hx hb hown k1 dX12_spelt_0 ?_
  refine lv_iload_n hx hb dX12_spelt_3 rfl (lv_at hl 0 rfl) ?_
  refine lv_i2l (v := 115) hx hb dX12_spelt_4 (by decide) ?_
  refine lv_ldc2 (v := 96) hx hb hown k2 dX12_spelt_5 ?_
  refine lv_lsub hx hb dX12_spelt_8 ?_
  refine otl 19 (by decide +kernel) ?_
  refine lv_lmul hx hb dX12_spelt_9 ?_
  refine otl 513 (by decide +kernel) ?_
  refine lv_iload_n hx hb dX12_spelt_10 rfl (lv_at hl 1 rfl) ?_
  refine lv_i2l (v := 105) hx hb dX12_spelt_11 (by decide) ?_
  refine lv_ladd hx hb dX12_spelt_12 ?_
  refine otl 618 (by decide +kernel) ?_
  refine lv_ldc2 (v := 96) hx hb hown k2 dX12_spelt_13 ?_
  refine lv_lsub hx hb dX12_spelt_16 ?_
  refine otl 522 (by decide +kernel) ?_
  refine lv_lstore (lv' := [(7, .long 522), (0, .int 115), (1, .int 105), (2, .int 116), (3, .int 116), (4, .int 105), (5, .int 110), (6, .int 103)]) hx hb dX12_spelt_17 hl (by decide) rfl (fun ls hl => ?_)
  refine lv_iload_n hx hb dX12_spelt_19 rfl (lv_at hl 3 rfl) ?_
  refine lv_if_le (tgt := 38) hx hb dX12_spelt_20 (by decide) (fun c => absurd c (by decide)) (fun _ => ?_)
  refine lv_ldc2 (v := 27) hx hb hown k1 dX12_spelt_23 ?_
  refine lv_lload hx hb dX12_spelt_26 (lv_at hl 0 rfl) ?_
  refine lv_lmul hx hb dX12_spelt_28 ?_
  refine otl 14094 (by decide +kernel) ?_
  refine lv_iload_n hx hb dX12_spelt_29 rfl (lv_at hl 3 rfl) ?_
  refine lv_i2l (v := 116) hx hb dX12_spelt_30 (by decide) ?_
  refine lv_ladd hx hb dX12_spelt_31 ?_
  refine otl 14210 (by decide +kernel) ?_
  refine lv_ldc2 (v := 96) hx hb hown k2 dX12_spelt_32 ?_
  refine lv_lsub hx hb dX12_spelt_35 ?_
  refine otl 14114 (by decide +kernel) ?_
  refine lv_lstore (lv' := [(7, .long 14114), (0, .int 115), (1, .int 105), (2, .int 116), (3, .int 116), (4, .int 105), (5, .int 110), (6, .int 103)]) hx hb dX12_spelt_36 hl (by decide) rfl (fun ls hl => ?_)
  exact J38_4 ()  hY H locs ls (oPsub hP [] rfl) (hD.sub [] (by decide) rfl) hS (lv_sub hl [4, 5, 6, 7, 0] rfl)
set_option maxHeartbeats 4000000 in
set_option maxRecDepth 100000 in
theorem e_X12_spelt_19 (l : Launch) (D : va_G) (ca : Nat → ClassId) (sz : Nat)   : oMet l yX12_spelt wsX12_spelt ({ frames := 0, cells := 0, slots := 0, locals := 0 } : Room) [.int 104, .int 111, .int 108, .int 100, .int 105, .int 110, .int 103] D ca sz [] (oQl D (fun (r : Int64) (u : Unit) => (r = 3321060487) ∧ (r = y_X12_spelt_19)) (fun (u : Unit) => [])) 0 0 := by
  refine oM (cc := cX12_spelt) (maxL := 9) (ret := (some .long)) (by decide) rfl (Nat.le_of_ble_eq_true rfl) [(0, .int 104), (1, .int 111), (2, .int 108), (3, .int 100), (4, .int 105), (5, .int 110), (6, .int 103)] rfl ?_
  intro p e s m below meth c A H locs ls hx hb hr hml hts hown hlocks hin hK hP hD hA hS hl
  have hown : s.vm.findClass RX12 = some m.cls := hown
  have hY := y_X12_spelt_19_s 
  have k1 := hts (.constantLong RX12 54 27) (by decide +kernel)
  have k2 := hts (.constantLong RX12 56 96) (by decide +kernel)
  have J99_1 : ∀ (_ : Unit), y_X12_spelt_19 = y_X12_spelt_19_99  → ∀ (H : Heap) (locs : List Loc) (ls : Array Slot), va_P D vwCl [] H → va_D A [] → va_S A s.heap H locs → lv_has ls 9 [(6, .int 103), (7, .long 123002240)] → W p l e ({ frames := 0, cells := 0, slots := 0, locals := 0 } : Room) s m ([.int 104, .int 111, .int 108, .int 100, .int 105, .int 110, .int 103] : List Value).toArray below meth c H locs 0 0 (MQ below ((oQl D (fun (r : Int64) (u : Unit) => (r = 3321060487) ∧ (r = y_X12_spelt_19)) (fun (u : Unit) => [])) A) ([.int 104, .int 111, .int 108, .int 100, .int 105, .int 110, .int 103] : List Value).toArray s 0 0 A) (F0 m 99 ls []) := by
    intro _  hY H locs ls hP hD hS hl
    have hY := hY.trans (y_X12_spelt_19_99_s )
    refine lv_iload hx hb dX12_spelt_99 (lv_at hl 0 rfl) ?_
    refine lv_if_le (tgt := 120) hx hb dX12_spelt_101 (by decide) (fun c => absurd c (by decide)) (fun _ => ?_)
    refine lv_ldc2 (v := 27) hx hb hown k1 dX12_spelt_104 ?_
    refine lv_lload hx hb dX12_spelt_107 (lv_at hl 1 rfl) ?_
    refine lv_lmul hx hb dX12_spelt_109 ?_
    refine otl 3321060480 (by decide +kernel) ?_
    refine lv_iload hx hb dX12_spelt_110 (lv_at hl 0 rfl) ?_
    refine lv_i2l (v := 103) hx hb dX12_spelt_112 (by decide) ?_
    refine lv_ladd hx hb dX12_spelt_113 ?_
    refine otl 3321060583 (by decide +kernel) ?_
    refine lv_ldc2 (v := 96) hx hb hown k2 dX12_spelt_114 ?_
    refine lv_lsub hx hb dX12_spelt_117 ?_
    refine otl 3321060487 (by decide +kernel) ?_
    refine lv_lstore (lv' := [(7, .long 3321060487), (6, .int 103)]) hx hb dX12_spelt_118 hl (by decide) rfl (fun ls hl => ?_)
    refine lv_lload hx hb dX12_spelt_120 (lv_at hl 0 rfl) ?_
    exact oE_l hx hb hr hlocks hP hD hS () [] rfl (by decide) ⟨rfl, hY.symm⟩ (Nat.le_of_ble_eq_true rfl) (Nat.le_of_ble_eq_true rfl) dX12_spelt_122
  have J78_2 : ∀ (_ : Unit), y_X12_spelt_19 = y_X12_spelt_19_78  → ∀ (H : Heap) (locs : List Loc) (ls : Array Slot), va_P D vwCl [] H → va_D A [] → va_S A s.heap H locs → lv_has ls 9 [(5, .int 110), (6, .int 103), (7, .long 4555638)] → W p l e ({ frames := 0, cells := 0, slots := 0, locals := 0 } : Room) s m ([.int 104, .int 111, .int 108, .int 100, .int 105, .int 110, .int 103] : List Value).toArray below meth c H locs 0 0 (MQ below ((oQl D (fun (r : Int64) (u : Unit) => (r = 3321060487) ∧ (r = y_X12_spelt_19)) (fun (u : Unit) => [])) A) ([.int 104, .int 111, .int 108, .int 100, .int 105, .int 110, .int 103] : List Value).toArray s 0 0 A) (F0 m 78 ls []) := by
    intro _  hY H locs ls hP hD hS hl
    have hY := hY.trans (y_X12_spelt_19_78_s )
    refine lv_iload hx hb dX12_spelt_78 (lv_at hl 0 rfl) ?_
    refine lv_if_le (tgt := 99) hx hb dX12_spelt_80 (by decide) (fun c => absurd c (by decide)) (fun _ => ?_)
    refine lv_ldc2 (v := 27) hx hb hown k1 dX12_spelt_83 ?_
    refine lv_lload hx hb dX12_spelt_86 (lv_at hl 2 rfl) ?_
    refine lv_lmul hx hb dX12_spelt_88 ?_
    refine otl 123002226 (by decide +kernel) ?_
    refine lv_iload hx hb dX12_spelt_89 (lv_at hl 0 rfl) ?_
    refine lv_i2l (v := 110) hx hb dX12_spelt_91 (by decide) ?_
    refine lv_ladd hx hb dX12_spelt_92 ?_
    refine otl 123002336 (by decide +kernel) ?_
    refine lv_ldc2 (v := 96) hx hb hown k2 dX12_spelt_93 ?_
    refine lv_lsub hx hb dX12_spelt_96 ?_
    refine otl 123002240 (by decide +kernel) ?_
    refine lv_lstore (lv' := [(7, .long 123002240), (5, .int 110), (6, .int 103)]) hx hb dX12_spelt_97 hl (by decide) rfl (fun ls hl => ?_)
    exact J99_1 ()  hY H locs ls (oPsub hP [] rfl) (hD.sub [] (by decide) rfl) hS (lv_sub hl [2, 0] rfl)
  have J57_3 : ∀ (_ : Unit), y_X12_spelt_19 = y_X12_spelt_19_57  → ∀ (H : Heap) (locs : List Loc) (ls : Array Slot), va_P D vwCl [] H → va_D A [] → va_S A s.heap H locs → lv_has ls 9 [(4, .int 105), (5, .int 110), (6, .int 103), (7, .long 168727)] → W p l e ({ frames := 0, cells := 0, slots := 0, locals := 0 } : Room) s m ([.int 104, .int 111, .int 108, .int 100, .int 105, .int 110, .int 103] : List Value).toArray below meth c H locs 0 0 (MQ below ((oQl D (fun (r : Int64) (u : Unit) => (r = 3321060487) ∧ (r = y_X12_spelt_19)) (fun (u : Unit) => [])) A) ([.int 104, .int 111, .int 108, .int 100, .int 105, .int 110, .int 103] : List Value).toArray s 0 0 A) (F0 m 57 ls []) := by
    intro _  hY H locs ls hP hD hS hl
    have hY := hY.trans (y_X12_spelt_19_57_s )
    refine lv_iload hx hb dX12_spelt_57 (lv_at hl 0 rfl) ?_
    refine lv_if_le (tgt := 78) hx hb dX12_spelt_59 (by decide) (fun c => absurd c (by decide)) (fun _ => ?_)
    refine lv_ldc2 (v := 27) hx hb hown k1 dX12_spelt_62 ?_
    refine lv_lload hx hb dX12_spelt_65 (lv_at hl 3 rfl) ?_
    refine lv_lmul hx hb dX12_spelt_67 ?_
    refine otl 4555629 (by decide +kernel) ?_
    refine lv_iload hx hb dX12_spelt_68 (lv_at hl 0 rfl) ?_
    refine lv_i2l (v := 105) hx hb dX12_spelt_70 (by decide) ?_
    refine lv_ladd hx hb dX12_spelt_71 ?_
    refine otl 4555734 (by decide +kernel) ?_
    refine lv_ldc2 (v := 96) hx hb hown k2 dX12_spelt_72 ?_
    refine lv_lsub hx hb dX12_spelt_75 ?_
    refine otl 4555638 (by decide +kernel) ?_
    refine lv_lstore (lv' := [(7, .long 4555638), (4, .int 105), (5, .int 110), (6, .int 103)]) hx hb dX12_spelt_76 hl (by decide) rfl (fun ls hl => ?_)
    exact J78_2 ()  hY H locs ls (oPsub hP [] rfl) (hD.sub [] (by decide) rfl) hS (lv_sub hl [2, 3, 0] rfl)
  have J38_4 : ∀ (_ : Unit), y_X12_spelt_19 = y_X12_spelt_19_38  → ∀ (H : Heap) (locs : List Loc) (ls : Array Slot), va_P D vwCl [] H → va_D A [] → va_S A s.heap H locs → lv_has ls 9 [(3, .int 100), (4, .int 105), (5, .int 110), (6, .int 103), (7, .long 6249)] → W p l e ({ frames := 0, cells := 0, slots := 0, locals := 0 } : Room) s m ([.int 104, .int 111, .int 108, .int 100, .int 105, .int 110, .int 103] : List Value).toArray below meth c H locs 0 0 (MQ below ((oQl D (fun (r : Int64) (u : Unit) => (r = 3321060487) ∧ (r = y_X12_spelt_19)) (fun (u : Unit) => [])) A) ([.int 104, .int 111, .int 108, .int 100, .int 105, .int 110, .int 103] : List Value).toArray s 0 0 A) (F0 m 38 ls []) := by
    intro _  hY H locs ls hP hD hS hl
    have hY := hY.trans (y_X12_spelt_19_38_s )
    refine lv_iload_n hx hb dX12_spelt_38 rfl (lv_at hl 0 rfl) ?_
    refine lv_if_le (tgt := 57) hx hb dX12_spelt_39 (by decide) (fun c => absurd c (by decide)) (fun _ => ?_)
    refine lv_ldc2 (v := 27) hx hb hown k1 dX12_spelt_42 ?_
    refine lv_lload hx hb dX12_spelt_45 (lv_at hl 4 rfl) ?_
    refine lv_lmul hx hb dX12_spelt_47 ?_
    refine otl 168723 (by decide +kernel) ?_
    refine lv_iload_n hx hb dX12_spelt_48 rfl (lv_at hl 0 rfl) ?_
    refine lv_i2l (v := 100) hx hb dX12_spelt_49 (by decide) ?_
    refine lv_ladd hx hb dX12_spelt_50 ?_
    refine otl 168823 (by decide +kernel) ?_
    refine lv_ldc2 (v := 96) hx hb hown k2 dX12_spelt_51 ?_
    refine lv_lsub hx hb dX12_spelt_54 ?_
    refine otl 168727 (by decide +kernel) ?_
    refine lv_lstore (lv' := [(7, .long 168727), (3, .int 100), (4, .int 105), (5, .int 110), (6, .int 103)]) hx hb dX12_spelt_55 hl (by decide) rfl (fun ls hl => ?_)
    exact J57_3 ()  hY H locs ls (oPsub hP [] rfl) (hD.sub [] (by decide) rfl) hS (lv_sub hl [2, 3, 4, 0] rfl)
  refine lv_ldc2 (v := 27) hx hb hown k1 dX12_spelt_0 ?_
  refine lv_iload_n hx hb dX12_spelt_3 rfl (lv_at hl 0 rfl) ?_
  refine lv_i2l (v := 104) hx hb dX12_spelt_4 (by decide) ?_
  refine lv_ldc2 (v := 96) hx hb hown k2 dX12_spelt_5 ?_
  refine lv_lsub hx hb dX12_spelt_8 ?_
  refine otl 8 (by decide +kernel) ?_
  refine lv_lmul hx hb dX12_spelt_9 ?_
  refine otl 216 (by decide +kernel) ?_
  refine lv_iload_n hx hb dX12_spelt_10 rfl (lv_at hl 1 rfl) ?_
  refine lv_i2l (v := 111) hx hb dX12_spelt_11 (by decide) ?_
  refine lv_ladd hx hb dX12_spelt_12 ?_
  refine otl 327 (by decide +kernel) ?_
  refine lv_ldc2 (v := 96) hx hb hown k2 dX12_spelt_13 ?_
  refine lv_lsub hx hb dX12_spelt_16 ?_
  refine otl 231 (by decide +kernel) ?_
  refine lv_lstore (lv' := [(7, .long 231), (0, .int 104), (1, .int 111), (2, .int 108), (3, .int 100), (4, .int 105), (5, .int 110), (6, .int 103)]) hx hb dX12_spelt_17 hl (by decide) rfl (fun ls hl => ?_)
  refine lv_iload_n hx hb dX12_spelt_19 rfl (lv_at hl 3 rfl) ?_
  refine lv_if_le (tgt := 38) hx hb dX12_spelt_20 (by decide) (fun c => absurd c (by decide)) (fun _ => ?_)
  refine lv_ldc2 (v := 27) hx hb hown k1 dX12_spelt_23 ?_
  refine lv_lload hx hb dX12_spelt_26 (lv_at hl 0 rfl) ?_
  refine lv_lmul hx hb dX12_spelt_28 ?_
  refine otl 6237 (by decide +kernel) ?_
  refine lv_iload_n hx hb dX12_spelt_29 rfl (lv_at hl 3 rfl) ?_
  refine lv_i2l (v := 108) hx hb dX12_spelt_30 (by decide) ?_
  refine lv_ladd hx hb dX12_spelt_31 ?_
  refine otl 6345 (by decide +kernel) ?_
  refine lv_ldc2 (v := 96) hx hb hown k2 dX12_spelt_32 ?_
  refine lv_lsub hx hb dX12_spelt_35 ?_
  refine otl 6249 (by decide +kernel) ?_
  refine lv_lstore (lv' := [(7, .long 6249), (0, .int 104), (1, .int 111), (2, .int 108), (3, .int 100), (4, .int 105), (5, .int 110), (6, .int 103)]) hx hb dX12_spelt_36 hl (by decide) rfl (fun ls hl => ?_)
  exact J38_4 ()  hY H locs ls (oPsub hP [] rfl) (hD.sub [] (by decide) rfl) hS (lv_sub hl [4, 5, 6, 7, 0] rfl)
set_option maxHeartbeats 4000000 in
set_option maxRecDepth 100000 in
theorem e_X12_spelt_20 (l : Launch) (D : va_G) (ca : Nat → ClassId) (sz : Nat)   : oMet l yX12_spelt wsX12_spelt ({ frames := 0, cells := 0, slots := 0, locals := 0 } : Room) [.int 100, .int 101, .int 110, .int 116, .int 101, .int 100, .int 0] D ca sz [] (oQl D (fun (r : Int64) (u : Unit) => (r = 60343114) ∧ (r = y_X12_spelt_20)) (fun (u : Unit) => [])) 0 0 := by
  refine oM (cc := cX12_spelt) (maxL := 9) (ret := (some .long)) (by decide) rfl (Nat.le_of_ble_eq_true rfl) [(0, .int 100), (1, .int 101), (2, .int 110), (3, .int 116), (4, .int 101), (5, .int 100), (6, .int 0)] rfl ?_
  intro p e s m below meth c A H locs ls hx hb hr hml hts hown hlocks hin hK hP hD hA hS hl
  have hown : s.vm.findClass RX12 = some m.cls := hown
  have hY := y_X12_spelt_20_s 
  have k1 := hts (.constantLong RX12 54 27) (by decide +kernel)
  have k2 := hts (.constantLong RX12 56 96) (by decide +kernel)
  have J99_1 : ∀ (_ : Unit), y_X12_spelt_20 = y_X12_spelt_20_99  → ∀ (H : Heap) (locs : List Loc) (ls : Array Slot), va_P D vwCl [] H → va_D A [] → va_S A s.heap H locs → lv_has ls 9 [(6, .int 0), (7, .long 60343114)] → W p l e ({ frames := 0, cells := 0, slots := 0, locals := 0 } : Room) s m ([.int 100, .int 101, .int 110, .int 116, .int 101, .int 100, .int 0] : List Value).toArray below meth c H locs 0 0 (MQ below ((oQl D (fun (r : Int64) (u : Unit) => (r = 60343114) ∧ (r = y_X12_spelt_20)) (fun (u : Unit) => [])) A) ([.int 100, .int 101, .int 110, .int 116, .int 101, .int 100, .int 0] : List Value).toArray s 0 0 A) (F0 m 99 ls []) := by
    intro _  hY H locs ls hP hD hS hl
    have hY := hY.trans (y_X12_spelt_20_99_s )
    refine lv_iload hx hb dX12_spelt_99 (lv_at hl 0 rfl) ?_
    refine lv_if_le (tgt := 120) hx hb dX12_spelt_101 (by decide) (fun _ => ?_) (fun c => absurd (by decide) c)
    refine lv_lload hx hb dX12_spelt_120 (lv_at hl 1 rfl) ?_
    exact oE_l hx hb hr hlocks hP hD hS () [] rfl (by decide) ⟨rfl, hY.symm⟩ (Nat.le_of_ble_eq_true rfl) (Nat.le_of_ble_eq_true rfl) dX12_spelt_122
  have J78_2 : ∀ (_ : Unit), y_X12_spelt_20 = y_X12_spelt_20_78  → ∀ (H : Heap) (locs : List Loc) (ls : Array Slot), va_P D vwCl [] H → va_D A [] → va_S A s.heap H locs → lv_has ls 9 [(5, .int 100), (6, .int 0), (7, .long 2234930)] → W p l e ({ frames := 0, cells := 0, slots := 0, locals := 0 } : Room) s m ([.int 100, .int 101, .int 110, .int 116, .int 101, .int 100, .int 0] : List Value).toArray below meth c H locs 0 0 (MQ below ((oQl D (fun (r : Int64) (u : Unit) => (r = 60343114) ∧ (r = y_X12_spelt_20)) (fun (u : Unit) => [])) A) ([.int 100, .int 101, .int 110, .int 116, .int 101, .int 100, .int 0] : List Value).toArray s 0 0 A) (F0 m 78 ls []) := by
    intro _  hY H locs ls hP hD hS hl
    have hY := hY.trans (y_X12_spelt_20_78_s )
    refine lv_iload hx hb dX12_spelt_78 (lv_at hl 0 rfl) ?_
    refine lv_if_le (tgt := 99) hx hb dX12_spelt_80 (by decide) (fun c => absurd c (by decide)) (fun _ => ?_)
    refine lv_ldc2 (v := 27) hx hb hown k1 dX12_spelt_83 ?_
    refine lv_lload hx hb dX12_spelt_86 (lv_at hl 2 rfl) ?_
    refine lv_lmul hx hb dX12_spelt_88 ?_
    refine otl 60343110 (by decide +kernel) ?_
    refine lv_iload hx hb dX12_spelt_89 (lv_at hl 0 rfl) ?_
    refine lv_i2l (v := 100) hx hb dX12_spelt_91 (by decide) ?_
    refine lv_ladd hx hb dX12_spelt_92 ?_
    refine otl 60343210 (by decide +kernel) ?_
    refine lv_ldc2 (v := 96) hx hb hown k2 dX12_spelt_93 ?_
    refine lv_lsub hx hb dX12_spelt_96 ?_
    refine otl 60343114 (by decide +kernel) ?_
    refine lv_lstore (lv' := [(7, .long 60343114), (5, .int 100), (6, .int 0)]) hx hb dX12_spelt_97 hl (by decide) rfl (fun ls hl => ?_)
    exact J99_1 ()  hY H locs ls (oPsub hP [] rfl) (hD.sub [] (by decide) rfl) hS (lv_sub hl [2, 0] rfl)
  have J57_3 : ∀ (_ : Unit), y_X12_spelt_20 = y_X12_spelt_20_57  → ∀ (H : Heap) (locs : List Loc) (ls : Array Slot), va_P D vwCl [] H → va_D A [] → va_S A s.heap H locs → lv_has ls 9 [(4, .int 101), (5, .int 100), (6, .int 0), (7, .long 82775)] → W p l e ({ frames := 0, cells := 0, slots := 0, locals := 0 } : Room) s m ([.int 100, .int 101, .int 110, .int 116, .int 101, .int 100, .int 0] : List Value).toArray below meth c H locs 0 0 (MQ below ((oQl D (fun (r : Int64) (u : Unit) => (r = 60343114) ∧ (r = y_X12_spelt_20)) (fun (u : Unit) => [])) A) ([.int 100, .int 101, .int 110, .int 116, .int 101, .int 100, .int 0] : List Value).toArray s 0 0 A) (F0 m 57 ls []) := by
    intro _  hY H locs ls hP hD hS hl
    have hY := hY.trans (y_X12_spelt_20_57_s )
    refine lv_iload hx hb dX12_spelt_57 (lv_at hl 0 rfl) ?_
    refine lv_if_le (tgt := 78) hx hb dX12_spelt_59 (by decide) (fun c => absurd c (by decide)) (fun _ => ?_)
    refine lv_ldc2 (v := 27) hx hb hown k1 dX12_spelt_62 ?_
    refine lv_lload hx hb dX12_spelt_65 (lv_at hl 3 rfl) ?_
    refine lv_lmul hx hb dX12_spelt_67 ?_
    refine otl 2234925 (by decide +kernel) ?_
    refine lv_iload hx hb dX12_spelt_68 (lv_at hl 0 rfl) ?_
    refine lv_i2l (v := 101) hx hb dX12_spelt_70 (by decide) ?_
    refine lv_ladd hx hb dX12_spelt_71 ?_
    refine otl 2235026 (by decide +kernel) ?_
    refine lv_ldc2 (v := 96) hx hb hown k2 dX12_spelt_72 ?_
    refine lv_lsub hx hb dX12_spelt_75 ?_
    refine otl 2234930 (by decide +kernel) ?_
    refine lv_lstore (lv' := [(7, .long 2234930), (4, .int 101), (5, .int 100), (6, .int 0)]) hx hb dX12_spelt_76 hl (by decide) rfl (fun ls hl => ?_)
    exact J78_2 ()  hY H locs ls (oPsub hP [] rfl) (hD.sub [] (by decide) rfl) hS (lv_sub hl [2, 3, 0] rfl)
  have J38_4 : ∀ (_ : Unit), y_X12_spelt_20 = y_X12_spelt_20_38  → ∀ (H : Heap) (locs : List Loc) (ls : Array Slot), va_P D vwCl [] H → va_D A [] → va_S A s.heap H locs → lv_has ls 9 [(3, .int 116), (4, .int 101), (5, .int 100), (6, .int 0), (7, .long 3065)] → W p l e ({ frames := 0, cells := 0, slots := 0, locals := 0 } : Room) s m ([.int 100, .int 101, .int 110, .int 116, .int 101, .int 100, .int 0] : List Value).toArray below meth c H locs 0 0 (MQ below ((oQl D (fun (r : Int64) (u : Unit) => (r = 60343114) ∧ (r = y_X12_spelt_20)) (fun (u : Unit) => [])) A) ([.int 100, .int 101, .int 110, .int 116, .int 101, .int 100, .int 0] : List Value).toArray s 0 0 A) (F0 m 38 ls []) := by
    intro _  hY H locs ls hP hD hS hl
    have hY := hY.trans (y_X12_spelt_20_38_s )
    refine lv_iload_n hx hb dX12_spelt_38 rfl (lv_at hl 0 rfl) ?_
    refine lv_if_le (tgt := 57) hx hb dX12_spelt_39 (by decide) (fun c => absurd c (by decide)) (fun _ => ?_)
    refine lv_ldc2 (v := 27) hx hb hown k1 dX12_spelt_42 ?_
    refine lv_lload hx hb dX12_spelt_45 (lv_at hl 4 rfl) ?_
    refine lv_lmul hx hb dX12_spelt_47 ?_
    refine otl 82755 (by decide +kernel) ?_
    refine lv_iload_n hx hb dX12_spelt_48 rfl (lv_at hl 0 rfl) ?_
    refine lv_i2l (v := 116) hx hb dX12_spelt_49 (by decide) ?_
    refine lv_ladd hx hb dX12_spelt_50 ?_
    refine otl 82871 (by decide +kernel) ?_
    refine lv_ldc2 (v := 96) hx hb hown k2 dX12_spelt_51 ?_
    refine lv_lsub hx hb dX12_spelt_54 ?_
    refine otl 82775 (by decide +kernel) ?_
    refine lv_lstore (lv' := [(7, .long 82775), (3, .int 116), (4, .int 101), (5, .int 100), (6, .int 0)]) hx hb dX12_spelt_55 hl (by decide) rfl (fun ls hl => ?_)
    exact J57_3 ()  hY H locs ls (oPsub hP [] rfl) (hD.sub [] (by decide) rfl) hS (lv_sub hl [2, 3, 4, 0] rfl)
  refine lv_ldc2 (v := 27) hx hb hown k1 dX12_spelt_0 ?_
  refine lv_iload_n hx hb dX12_spelt_3 rfl (lv_at hl 0 rfl) ?_
  refine lv_i2l (v := 100) hx hb dX12_spelt_4 (by decide) ?_
  refine lv_ldc2 (v := 96) hx hb hown k2 dX12_spelt_5 ?_
  refine lv_lsub hx hb dX12_spelt_8 ?_
  refine otl 4 (by decide +kernel) ?_
  refine lv_lmul hx hb dX12_spelt_9 ?_
  refine otl 108 (by decide +kernel) ?_
  refine lv_iload_n hx hb dX12_spelt_10 rfl (lv_at hl 1 rfl) ?_
  refine lv_i2l (v := 101) hx hb dX12_spelt_11 (by decide) ?_
  refine lv_ladd hx hb dX12_spelt_12 ?_
  refine otl 209 (by decide +kernel) ?_
  refine lv_ldc2 (v := 96) hx hb hown k2 dX12_spelt_13 ?_
  refine lv_lsub hx hb dX12_spelt_16 ?_
  refine otl 113 (by decide +kernel) ?_
  refine lv_lstore (lv' := [(7, .long 113), (0, .int 100), (1, .int 101), (2, .int 110), (3, .int 116), (4, .int 101), (5, .int 100), (6, .int 0)]) hx hb dX12_spelt_17 hl (by decide) rfl (fun ls hl => ?_)
  refine lv_iload_n hx hb dX12_spelt_19 rfl (lv_at hl 3 rfl) ?_
  refine lv_if_le (tgt := 38) hx hb dX12_spelt_20 (by decide) (fun c => absurd c (by decide)) (fun _ => ?_)
  refine lv_ldc2 (v := 27) hx hb hown k1 dX12_spelt_23 ?_
  refine lv_lload hx hb dX12_spelt_26 (lv_at hl 0 rfl) ?_
  refine lv_lmul hx hb dX12_spelt_28 ?_
  refine otl 3051 (by decide +kernel) ?_
  refine lv_iload_n hx hb dX12_spelt_29 rfl (lv_at hl 3 rfl) ?_
  refine lv_i2l (v := 110) hx hb dX12_spelt_30 (by decide) ?_
  refine lv_ladd hx hb dX12_spelt_31 ?_
  refine otl 3161 (by decide +kernel) ?_
  refine lv_ldc2 (v := 96) hx hb hown k2 dX12_spelt_32 ?_
  refine lv_lsub hx hb dX12_spelt_35 ?_
  refine otl 3065 (by decide +kernel) ?_
  refine lv_lstore (lv' := [(7, .long 3065), (0, .int 100), (1, .int 101), (2, .int 110), (3, .int 116), (4, .int 101), (5, .int 100), (6, .int 0)]) hx hb dX12_spelt_36 hl (by decide) rfl (fun ls hl => ?_)
  exact J38_4 ()  hY H locs ls (oPsub hP [] rfl) (hD.sub [] (by decide) rfl) hS (lv_sub hl [4, 5, 6, 7, 0] rfl)
set_option maxHeartbeats 4000000 in
set_option maxRecDepth 100000 in
theorem e_X12_spelt_21 (l : Launch) (D : va_G) (ca : Nat → ClassId) (sz : Nat)   : oMet l yX12_spelt wsX12_spelt ({ frames := 0, cells := 0, slots := 0, locals := 0 } : Room) [.int 114, .int 105, .int 110, .int 103, .int 115, .int 0, .int 0] D ca sz [] (oQl D (fun (r : Int64) (u : Unit) => (r = 9753499) ∧ (r = y_X12_spelt_21)) (fun (u : Unit) => [])) 0 0 := by
  refine oM (cc := cX12_spelt) (maxL := 9) (ret := (some .long)) (by decide) rfl (Nat.le_of_ble_eq_true rfl) [(0, .int 114), (1, .int 105), (2, .int 110), (3, .int 103), (4, .int 115), (5, .int 0), (6, .int 0)] rfl ?_
  intro p e s m below meth c A H locs ls hx hb hr hml hts hown hlocks hin hK hP hD hA hS hl
  have hown : s.vm.findClass RX12 = some m.cls := hown
  have hY := y_X12_spelt_21_s 
  have k1 := hts (.constantLong RX12 54 27) (by decide +kernel)
  have k2 := hts (.constantLong RX12 56 96) (by decide +kernel)
  have J99_1 : ∀ (_ : Unit), y_X12_spelt_21 = y_X12_spelt_21_99  → ∀ (H : Heap) (locs : List Loc) (ls : Array Slot), va_P D vwCl [] H → va_D A [] → va_S A s.heap H locs → lv_has ls 9 [(6, .int 0), (7, .long 9753499)] → W p l e ({ frames := 0, cells := 0, slots := 0, locals := 0 } : Room) s m ([.int 114, .int 105, .int 110, .int 103, .int 115, .int 0, .int 0] : List Value).toArray below meth c H locs 0 0 (MQ below ((oQl D (fun (r : Int64) (u : Unit) => (r = 9753499) ∧ (r = y_X12_spelt_21)) (fun (u : Unit) => [])) A) ([.int 114, .int 105, .int 110, .int 103, .int 115, .int 0, .int 0] : List Value).toArray s 0 0 A) (F0 m 99 ls []) := by
    intro _  hY H locs ls hP hD hS hl
    have hY := hY.trans (y_X12_spelt_21_99_s )
    refine lv_iload hx hb dX12_spelt_99 (lv_at hl 0 rfl) ?_
    refine lv_if_le (tgt := 120) hx hb dX12_spelt_101 (by decide) (fun _ => ?_) (fun c => absurd (by decide) c)
    refine lv_lload hx hb dX12_spelt_120 (lv_at hl 1 rfl) ?_
    exact oE_l hx hb hr hlocks hP hD hS () [] rfl (by decide) ⟨rfl, hY.symm⟩ (Nat.le_of_ble_eq_true rfl) (Nat.le_of_ble_eq_true rfl) dX12_spelt_122
  have J78_2 : ∀ (_ : Unit), y_X12_spelt_21 = y_X12_spelt_21_78  → ∀ (H : Heap) (locs : List Loc) (ls : Array Slot), va_P D vwCl [] H → va_D A [] → va_S A s.heap H locs → lv_has ls 9 [(5, .int 0), (6, .int 0), (7, .long 9753499)] → W p l e ({ frames := 0, cells := 0, slots := 0, locals := 0 } : Room) s m ([.int 114, .int 105, .int 110, .int 103, .int 115, .int 0, .int 0] : List Value).toArray below meth c H locs 0 0 (MQ below ((oQl D (fun (r : Int64) (u : Unit) => (r = 9753499) ∧ (r = y_X12_spelt_21)) (fun (u : Unit) => [])) A) ([.int 114, .int 105, .int 110, .int 103, .int 115, .int 0, .int 0] : List Value).toArray s 0 0 A) (F0 m 78 ls []) := by
    intro _  hY H locs ls hP hD hS hl
    have hY := hY.trans (y_X12_spelt_21_78_s )
    refine lv_iload hx hb dX12_spelt_78 (lv_at hl 0 rfl) ?_
    refine lv_if_le (tgt := 99) hx hb dX12_spelt_80 (by decide) (fun _ => ?_) (fun c => absurd (by decide) c)
    exact J99_1 ()  hY H locs ls (oPsub hP [] rfl) (hD.sub [] (by decide) rfl) hS (lv_sub hl [1, 2] rfl)
  have J57_3 : ∀ (_ : Unit), y_X12_spelt_21 = y_X12_spelt_21_57  → ∀ (H : Heap) (locs : List Loc) (ls : Array Slot), va_P D vwCl [] H → va_D A [] → va_S A s.heap H locs → lv_has ls 9 [(4, .int 115), (5, .int 0), (6, .int 0), (7, .long 361240)] → W p l e ({ frames := 0, cells := 0, slots := 0, locals := 0 } : Room) s m ([.int 114, .int 105, .int 110, .int 103, .int 115, .int 0, .int 0] : List Value).toArray below meth c H locs 0 0 (MQ below ((oQl D (fun (r : Int64) (u : Unit) => (r = 9753499) ∧ (r = y_X12_spelt_21)) (fun (u : Unit) => [])) A) ([.int 114, .int 105, .int 110, .int 103, .int 115, .int 0, .int 0] : List Value).toArray s 0 0 A) (F0 m 57 ls []) := by
    intro _  hY H locs ls hP hD hS hl
    have hY := hY.trans (y_X12_spelt_21_57_s )
    refine lv_iload hx hb dX12_spelt_57 (lv_at hl 0 rfl) ?_
    refine lv_if_le (tgt := 78) hx hb dX12_spelt_59 (by decide) (fun c => absurd c (by decide)) (fun _ => ?_)
    refine lv_ldc2 (v := 27) hx hb hown k1 dX12_spelt_62 ?_
    refine lv_lload hx hb dX12_spelt_65 (lv_at hl 3 rfl) ?_
    refine lv_lmul hx hb dX12_spelt_67 ?_
    refine otl 9753480 (by decide +kernel) ?_
    refine lv_iload hx hb dX12_spelt_68 (lv_at hl 0 rfl) ?_
    refine lv_i2l (v := 115) hx hb dX12_spelt_70 (by decide) ?_
    refine lv_ladd hx hb dX12_spelt_71 ?_
    refine otl 9753595 (by decide +kernel) ?_
    refine lv_ldc2 (v := 96) hx hb hown k2 dX12_spelt_72 ?_
    refine lv_lsub hx hb dX12_spelt_75 ?_
    refine otl 9753499 (by decide +kernel) ?_
    refine lv_lstore (lv' := [(7, .long 9753499), (4, .int 115), (5, .int 0), (6, .int 0)]) hx hb dX12_spelt_76 hl (by decide) rfl (fun ls hl => ?_)
    exact J78_2 ()  hY H locs ls (oPsub hP [] rfl) (hD.sub [] (by decide) rfl) hS (lv_sub hl [2, 3, 0] rfl)
  have J38_4 : ∀ (_ : Unit), y_X12_spelt_21 = y_X12_spelt_21_38  → ∀ (H : Heap) (locs : List Loc) (ls : Array Slot), va_P D vwCl [] H → va_D A [] → va_S A s.heap H locs → lv_has ls 9 [(3, .int 103), (4, .int 115), (5, .int 0), (6, .int 0), (7, .long 13379)] → W p l e ({ frames := 0, cells := 0, slots := 0, locals := 0 } : Room) s m ([.int 114, .int 105, .int 110, .int 103, .int 115, .int 0, .int 0] : List Value).toArray below meth c H locs 0 0 (MQ below ((oQl D (fun (r : Int64) (u : Unit) => (r = 9753499) ∧ (r = y_X12_spelt_21)) (fun (u : Unit) => [])) A) ([.int 114, .int 105, .int 110, .int 103, .int 115, .int 0, .int 0] : List Value).toArray s 0 0 A) (F0 m 38 ls []) := by
    intro _  hY H locs ls hP hD hS hl
    have hY := hY.trans (y_X12_spelt_21_38_s )
    refine lv_iload_n hx hb dX12_spelt_38 rfl (lv_at hl 0 rfl) ?_
    refine lv_if_le (tgt := 57) hx hb dX12_spelt_39 (by decide) (fun c => absurd c (by decide)) (fun _ => ?_)
    refine lv_ldc2 (v := 27) hx hb hown k1 dX12_spelt_42 ?_
    refine lv_lload hx hb dX12_spelt_45 (lv_at hl 4 rfl) ?_
    refine lv_lmul hx hb dX12_spelt_47 ?_
    refine otl 361233 (by decide +kernel) ?_
    refine lv_iload_n hx hb dX12_spelt_48 rfl (lv_at hl 0 rfl) ?_
    refine lv_i2l (v := 103) hx hb dX12_spelt_49 (by decide) ?_
    refine lv_ladd hx hb dX12_spelt_50 ?_
    refine otl 361336 (by decide +kernel) ?_
    refine lv_ldc2 (v := 96) hx hb hown k2 dX12_spelt_51 ?_
    refine lv_lsub hx hb dX12_spelt_54 ?_
    refine otl 361240 (by decide +kernel) ?_
    refine lv_lstore (lv' := [(7, .long 361240), (3, .int 103), (4, .int 115), (5, .int 0), (6, .int 0)]) hx hb dX12_spelt_55 hl (by decide) rfl (fun ls hl => ?_)
    exact J57_3 ()  hY H locs ls (oPsub hP [] rfl) (hD.sub [] (by decide) rfl) hS (lv_sub hl [2, 3, 4, 0] rfl)
  refine lv_ldc2 (v := 27) hx hb hown k1 dX12_spelt_0 ?_
  refine lv_iload_n hx hb dX12_spelt_3 rfl (lv_at hl 0 rfl) ?_
  refine lv_i2l (v := 114) hx hb dX12_spelt_4 (by decide) ?_
  refine lv_ldc2 (v := 96) hx hb hown k2 dX12_spelt_5 ?_
  refine lv_lsub hx hb dX12_spelt_8 ?_
  refine otl 18 (by decide +kernel) ?_
  refine lv_lmul hx hb dX12_spelt_9 ?_
  refine otl 486 (by decide +kernel) ?_
  refine lv_iload_n hx hb dX12_spelt_10 rfl (lv_at hl 1 rfl) ?_
  refine lv_i2l (v := 105) hx hb dX12_spelt_11 (by decide) ?_
  refine lv_ladd hx hb dX12_spelt_12 ?_
  refine otl 591 (by decide +kernel) ?_
  refine lv_ldc2 (v := 96) hx hb hown k2 dX12_spelt_13 ?_
  refine lv_lsub hx hb dX12_spelt_16 ?_
  refine otl 495 (by decide +kernel) ?_
  refine lv_lstore (lv' := [(7, .long 495), (0, .int 114), (1, .int 105), (2, .int 110), (3, .int 103), (4, .int 115), (5, .int 0), (6, .int 0)]) hx hb dX12_spelt_17 hl (by decide) rfl (fun ls hl => ?_)
  refine lv_iload_n hx hb dX12_spelt_19 rfl (lv_at hl 3 rfl) ?_
  refine lv_if_le (tgt := 38) hx hb dX12_spelt_20 (by decide) (fun c => absurd c (by decide)) (fun _ => ?_)
  refine lv_ldc2 (v := 27) hx hb hown k1 dX12_spelt_23 ?_
  refine lv_lload hx hb dX12_spelt_26 (lv_at hl 0 rfl) ?_
  refine lv_lmul hx hb dX12_spelt_28 ?_
  refine otl 13365 (by decide +kernel) ?_
  refine lv_iload_n hx hb dX12_spelt_29 rfl (lv_at hl 3 rfl) ?_
  refine lv_i2l (v := 110) hx hb dX12_spelt_30 (by decide) ?_
  refine lv_ladd hx hb dX12_spelt_31 ?_
  refine otl 13475 (by decide +kernel) ?_
  refine lv_ldc2 (v := 96) hx hb hown k2 dX12_spelt_32 ?_
  refine lv_lsub hx hb dX12_spelt_35 ?_
  refine otl 13379 (by decide +kernel) ?_
  refine lv_lstore (lv' := [(7, .long 13379), (0, .int 114), (1, .int 105), (2, .int 110), (3, .int 103), (4, .int 115), (5, .int 0), (6, .int 0)]) hx hb dX12_spelt_36 hl (by decide) rfl (fun ls hl => ?_)
  exact J38_4 ()  hY H locs ls (oPsub hP [] rfl) (hD.sub [] (by decide) rfl) hS (lv_sub hl [4, 5, 6, 7, 0] rfl)
set_option maxHeartbeats 4000000 in
set_option maxRecDepth 100000 in
theorem e_X12_spelt_22 (l : Launch) (D : va_G) (ca : Nat → ClassId) (sz : Nat)   : oMet l yX12_spelt wsX12_spelt ({ frames := 0, cells := 0, slots := 0, locals := 0 } : Room) [.int 112, .int 105, .int 116, .int 99, .int 104, .int 0, .int 0] D ca sz [] (oQl D (fun (r : Int64) (u : Unit) => (r = 8694872) ∧ (r = y_X12_spelt_22)) (fun (u : Unit) => [])) 0 0 := by
  refine oM (cc := cX12_spelt) (maxL := 9) (ret := (some .long)) (by decide) rfl (Nat.le_of_ble_eq_true rfl) [(0, .int 112), (1, .int 105), (2, .int 116), (3, .int 99), (4, .int 104), (5, .int 0), (6, .int 0)] rfl ?_
  intro p e s m below meth c A H locs ls hx hb hr hml hts hown hlocks hin hK hP hD hA hS hl
  have hown : s.vm.findClass RX12 = some m.cls := hown
  have hY := y_X12_spelt_22_s 
  have k1 := hts (.constantLong RX12 54 27) (by decide +kernel)
  have k2 := hts (.constantLong RX12 56 96) (by decide +kernel)
  have J99_1 : ∀ (_ : Unit), y_X12_spelt_22 = y_X12_spelt_22_99  → ∀ (H : Heap) (locs : List Loc) (ls : Array Slot), va_P D vwCl [] H → va_D A [] → va_S A s.heap H locs → lv_has ls 9 [(6, .int 0), (7, .long 8694872)] → W p l e ({ frames := 0, cells := 0, slots := 0, locals := 0 } : Room) s m ([.int 112, .int 105, .int 116, .int 99, .int 104, .int 0, .int 0] : List Value).toArray below meth c H locs 0 0 (MQ below ((oQl D (fun (r : Int64) (u : Unit) => (r = 8694872) ∧ (r = y_X12_spelt_22)) (fun (u : Unit) => [])) A) ([.int 112, .int 105, .int 116, .int 99, .int 104, .int 0, .int 0] : List Value).toArray s 0 0 A) (F0 m 99 ls []) := by
    intro _  hY H locs ls hP hD hS hl
    have hY := hY.trans (y_X12_spelt_22_99_s )
    refine lv_iload hx hb dX12_spelt_99 (lv_at hl 0 rfl) ?_
    refine lv_if_le (tgt := 120) hx hb dX12_spelt_101 (by decide) (fun _ => ?_) (fun c => absurd (by decide) c)
    refine lv_lload hx hb dX12_spelt_120 (lv_at hl 1 rfl) ?_
    exact oE_l hx hb hr hlocks hP hD hS () [] rfl (by decide) ⟨rfl, hY.symm⟩ (Nat.le_of_ble_eq_true rfl) (Nat.le_of_ble_eq_true rfl) dX12_spelt_122
  have J78_2 : ∀ (_ : Unit), y_X12_spelt_22 = y_X12_spelt_22_78  → ∀ (H : Heap) (locs : List Loc) (ls : Array Slot), va_P D vwCl [] H → va_D A [] → va_S A s.heap H locs → lv_has ls 9 [(5, .int 0), (6, .int 0), (7, .long 8694872)] → W p l e ({ frames := 0, cells := 0, slots := 0, locals := 0 } : Room) s m ([.int 112, .int 105, .int 116, .int 99, .int 104, .int 0, .int 0] : List Value).toArray below meth c H locs 0 0 (MQ below ((oQl D (fun (r : Int64) (u : Unit) => (r = 8694872) ∧ (r = y_X12_spelt_22)) (fun (u : Unit) => [])) A) ([.int 112, .int 105, .int 116, .int 99, .int 104, .int 0, .int 0] : List Value).toArray s 0 0 A) (F0 m 78 ls []) := by
    intro _  hY H locs ls hP hD hS hl
    have hY := hY.trans (y_X12_spelt_22_78_s )
    refine lv_iload hx hb dX12_spelt_78 (lv_at hl 0 rfl) ?_
    refine lv_if_le (tgt := 99) hx hb dX12_spelt_80 (by decide) (fun _ => ?_) (fun c => absurd (by decide) c)
    exact J99_1 ()  hY H locs ls (oPsub hP [] rfl) (hD.sub [] (by decide) rfl) hS (lv_sub hl [1, 2] rfl)
  have J57_3 : ∀ (_ : Unit), y_X12_spelt_22 = y_X12_spelt_22_57  → ∀ (H : Heap) (locs : List Loc) (ls : Array Slot), va_P D vwCl [] H → va_D A [] → va_S A s.heap H locs → lv_has ls 9 [(4, .int 104), (5, .int 0), (6, .int 0), (7, .long 322032)] → W p l e ({ frames := 0, cells := 0, slots := 0, locals := 0 } : Room) s m ([.int 112, .int 105, .int 116, .int 99, .int 104, .int 0, .int 0] : List Value).toArray below meth c H locs 0 0 (MQ below ((oQl D (fun (r : Int64) (u : Unit) => (r = 8694872) ∧ (r = y_X12_spelt_22)) (fun (u : Unit) => [])) A) ([.int 112, .int 105, .int 116, .int 99, .int 104, .int 0, .int 0] : List Value).toArray s 0 0 A) (F0 m 57 ls []) := by
    intro _  hY H locs ls hP hD hS hl
    have hY := hY.trans (y_X12_spelt_22_57_s )
    refine lv_iload hx hb dX12_spelt_57 (lv_at hl 0 rfl) ?_
    refine lv_if_le (tgt := 78) hx hb dX12_spelt_59 (by decide) (fun c => absurd c (by decide)) (fun _ => ?_)
    refine lv_ldc2 (v := 27) hx hb hown k1 dX12_spelt_62 ?_
    refine lv_lload hx hb dX12_spelt_65 (lv_at hl 3 rfl) ?_
    refine lv_lmul hx hb dX12_spelt_67 ?_
    refine otl 8694864 (by decide +kernel) ?_
    refine lv_iload hx hb dX12_spelt_68 (lv_at hl 0 rfl) ?_
    refine lv_i2l (v := 104) hx hb dX12_spelt_70 (by decide) ?_
    refine lv_ladd hx hb dX12_spelt_71 ?_
    refine otl 8694968 (by decide +kernel) ?_
    refine lv_ldc2 (v := 96) hx hb hown k2 dX12_spelt_72 ?_
    refine lv_lsub hx hb dX12_spelt_75 ?_
    refine otl 8694872 (by decide +kernel) ?_
    refine lv_lstore (lv' := [(7, .long 8694872), (4, .int 104), (5, .int 0), (6, .int 0)]) hx hb dX12_spelt_76 hl (by decide) rfl (fun ls hl => ?_)
    exact J78_2 ()  hY H locs ls (oPsub hP [] rfl) (hD.sub [] (by decide) rfl) hS (lv_sub hl [2, 3, 0] rfl)
  have J38_4 : ∀ (_ : Unit), y_X12_spelt_22 = y_X12_spelt_22_38  → ∀ (H : Heap) (locs : List Loc) (ls : Array Slot), va_P D vwCl [] H → va_D A [] → va_S A s.heap H locs → lv_has ls 9 [(3, .int 99), (4, .int 104), (5, .int 0), (6, .int 0), (7, .long 11927)] → W p l e ({ frames := 0, cells := 0, slots := 0, locals := 0 } : Room) s m ([.int 112, .int 105, .int 116, .int 99, .int 104, .int 0, .int 0] : List Value).toArray below meth c H locs 0 0 (MQ below ((oQl D (fun (r : Int64) (u : Unit) => (r = 8694872) ∧ (r = y_X12_spelt_22)) (fun (u : Unit) => [])) A) ([.int 112, .int 105, .int 116, .int 99, .int 104, .int 0, .int 0] : List Value).toArray s 0 0 A) (F0 m 38 ls []) := by
    intro _  hY H locs ls hP hD hS hl
    have hY := hY.trans (y_X12_spelt_22_38_s )
    refine lv_iload_n hx hb dX12_spelt_38 rfl (lv_at hl 0 rfl) ?_
    refine lv_if_le (tgt := 57) hx hb dX12_spelt_39 (by decide) (fun c => absurd c (by decide)) (fun _ => ?_)
    refine lv_ldc2 (v := 27) hx hb hown k1 dX12_spelt_42 ?_
    refine lv_lload hx hb dX12_spelt_45 (lv_at hl 4 rfl) ?_
    refine lv_lmul hx hb dX12_spelt_47 ?_
    refine otl 322029 (by decide +kernel) ?_
    refine lv_iload_n hx hb dX12_spelt_48 rfl (lv_at hl 0 rfl) ?_
    refine lv_i2l (v := 99) hx hb dX12_spelt_49 (by decide) ?_
    refine lv_ladd hx hb dX12_spelt_50 ?_
    refine otl 322128 (by decide +kernel) ?_
    refine lv_ldc2 (v := 96) hx hb hown k2 dX12_spelt_51 ?_
    refine lv_lsub hx hb dX12_spelt_54 ?_
    refine otl 322032 (by decide +kernel) ?_
    refine lv_lstore (lv' := [(7, .long 322032), (3, .int 99), (4, .int 104), (5, .int 0), (6, .int 0)]) hx hb dX12_spelt_55 hl (by decide) rfl (fun ls hl => ?_)
    exact J57_3 ()  hY H locs ls (oPsub hP [] rfl) (hD.sub [] (by decide) rfl) hS (lv_sub hl [2, 3, 4, 0] rfl)
  refine lv_ldc2 (v := 27) hx hb hown k1 dX12_spelt_0 ?_
  refine lv_iload_n hx hb dX12_spelt_3 rfl (lv_at hl 0 rfl) ?_
  refine lv_i2l (v := 112) hx hb dX12_spelt_4 (by decide) ?_
  refine lv_ldc2 (v := 96) hx hb hown k2 dX12_spelt_5 ?_
  refine lv_lsub hx hb dX12_spelt_8 ?_
  refine otl 16 (by decide +kernel) ?_
  refine lv_lmul hx hb dX12_spelt_9 ?_
  refine otl 432 (by decide +kernel) ?_
  refine lv_iload_n hx hb dX12_spelt_10 rfl (lv_at hl 1 rfl) ?_
  refine lv_i2l (v := 105) hx hb dX12_spelt_11 (by decide) ?_
  refine lv_ladd hx hb dX12_spelt_12 ?_
  refine otl 537 (by decide +kernel) ?_
  refine lv_ldc2 (v := 96) hx hb hown k2 dX12_spelt_13 ?_
  refine lv_lsub hx hb dX12_spelt_16 ?_
  refine otl 441 (by decide +kernel) ?_
  refine lv_lstore (lv' := [(7, .long 441), (0, .int 112), (1, .int 105), (2, .int 116), (3, .int 99), (4, .int 104), (5, .int 0), (6, .int 0)]) hx hb dX12_spelt_17 hl (by decide) rfl (fun ls hl => ?_)
  refine lv_iload_n hx hb dX12_spelt_19 rfl (lv_at hl 3 rfl) ?_
  refine lv_if_le (tgt := 38) hx hb dX12_spelt_20 (by decide) (fun c => absurd c (by decide)) (fun _ => ?_)
  refine lv_ldc2 (v := 27) hx hb hown k1 dX12_spelt_23 ?_
  refine lv_lload hx hb dX12_spelt_26 (lv_at hl 0 rfl) ?_
  refine lv_lmul hx hb dX12_spelt_28 ?_
  refine otl 11907 (by decide +kernel) ?_
  refine lv_iload_n hx hb dX12_spelt_29 rfl (lv_at hl 3 rfl) ?_
  refine lv_i2l (v := 116) hx hb dX12_spelt_30 (by decide) ?_
  refine lv_ladd hx hb dX12_spelt_31 ?_
  refine otl 12023 (by decide +kernel) ?_
  refine lv_ldc2 (v := 96) hx hb hown k2 dX12_spelt_32 ?_
  refine lv_lsub hx hb dX12_spelt_35 ?_
  refine otl 11927 (by decide +kernel) ?_
  refine lv_lstore (lv' := [(7, .long 11927), (0, .int 112), (1, .int 105), (2, .int 116), (3, .int 99), (4, .int 104), (5, .int 0), (6, .int 0)]) hx hb dX12_spelt_36 hl (by decide) rfl (fun ls hl => ?_)
  exact J38_4 ()  hY H locs ls (oPsub hP [] rfl) (hD.sub [] (by decide) rfl) hS (lv_sub hl [4, 5, 6, 7, 0] rfl)
set_option maxHeartbeats 4000000 in
set_option maxRecDepth 100000 in
theorem e_X12_spelt_23 (l : Launch) (D : va_G) (ca : Nat → ClassId) (sz : Nat)   : oMet l yX12_spelt wsX12_spelt ({ frames := 0, cells := 0, slots := 0, locals := 0 } : Room) [.int 108, .int 101, .int 110, .int 103, .int 116, .int 104, .int 0] D ca sz [] (oQl D (fun (r : Int64) (u : Unit) => (r = 175125302) ∧ (r = y_X12_spelt_23)) (fun (u : Unit) => [])) 0 0 := by
  refine oM (cc := cX12_spelt) (maxL := 9) (ret := (some .long)) (by decide) rfl (Nat.le_of_ble_eq_true rfl) [(0, .int 108), (1, .int 101), (2, .int 110), (3, .int 103), (4, .int 116), (5, .int 104), (6, .int 0)] rfl ?_
  intro p e s m below meth c A H locs ls hx hb hr hml hts hown hlocks hin hK hP hD hA hS hl
  have hown : s.vm.findClass RX12 = some m.cls := hown
  have hY := y_X12_spelt_23_s 
  have k1 := hts (.constantLong RX12 54 27) (by decide +kernel)
  have k2 := hts (.constantLong RX12 56 96) (by decide +kernel)
  have J99_1 : ∀ (_ : Unit), y_X12_spelt_23 = y_X12_spelt_23_99  → ∀ (H : Heap) (locs : List Loc) (ls : Array Slot), va_P D vwCl [] H → va_D A [] → va_S A s.heap H locs → lv_has ls 9 [(6, .int 0), (7, .long 175125302)] → W p l e ({ frames := 0, cells := 0, slots := 0, locals := 0 } : Room) s m ([.int 108, .int 101, .int 110, .int 103, .int 116, .int 104, .int 0] : List Value).toArray below meth c H locs 0 0 (MQ below ((oQl D (fun (r : Int64) (u : Unit) => (r = 175125302) ∧ (r = y_X12_spelt_23)) (fun (u : Unit) => [])) A) ([.int 108, .int 101, .int 110, .int 103, .int 116, .int 104, .int 0] : List Value).toArray s 0 0 A) (F0 m 99 ls []) := by
    intro _  hY H locs ls hP hD hS hl
    have hY := hY.trans (y_X12_spelt_23_99_s )
    refine lv_iload hx hb dX12_spelt_99 (lv_at hl 0 rfl) ?_
    refine lv_if_le (tgt := 120) hx hb dX12_spelt_101 (by decide) (fun _ => ?_) (fun c => absurd (by decide) c)
    refine lv_lload hx hb dX12_spelt_120 (lv_at hl 1 rfl) ?_
    exact oE_l hx hb hr hlocks hP hD hS () [] rfl (by decide) ⟨rfl, hY.symm⟩ (Nat.le_of_ble_eq_true rfl) (Nat.le_of_ble_eq_true rfl) dX12_spelt_122
  have J78_2 : ∀ (_ : Unit), y_X12_spelt_23 = y_X12_spelt_23_78  → ∀ (H : Heap) (locs : List Loc) (ls : Array Slot), va_P D vwCl [] H → va_D A [] → va_S A s.heap H locs → lv_has ls 9 [(5, .int 104), (6, .int 0), (7, .long 6486122)] → W p l e ({ frames := 0, cells := 0, slots := 0, locals := 0 } : Room) s m ([.int 108, .int 101, .int 110, .int 103, .int 116, .int 104, .int 0] : List Value).toArray below meth c H locs 0 0 (MQ below ((oQl D (fun (r : Int64) (u : Unit) => (r = 175125302) ∧ (r = y_X12_spelt_23)) (fun (u : Unit) => [])) A) ([.int 108, .int 101, .int 110, .int 103, .int 116, .int 104, .int 0] : List Value).toArray s 0 0 A) (F0 m 78 ls []) := by
    intro _  hY H locs ls hP hD hS hl
    have hY := hY.trans (y_X12_spelt_23_78_s )
    refine lv_iload hx hb dX12_spelt_78 (lv_at hl 0 rfl) ?_
    refine lv_if_le (tgt := 99) hx hb dX12_spelt_80 (by decide) (fun c => absurd c (by decide)) (fun _ => ?_)
    refine lv_ldc2 (v := 27) hx hb hown k1 dX12_spelt_83 ?_
    refine lv_lload hx hb dX12_spelt_86 (lv_at hl 2 rfl) ?_
    refine lv_lmul hx hb dX12_spelt_88 ?_
    refine otl 175125294 (by decide +kernel) ?_
    refine lv_iload hx hb dX12_spelt_89 (lv_at hl 0 rfl) ?_
    refine lv_i2l (v := 104) hx hb dX12_spelt_91 (by decide) ?_
    refine lv_ladd hx hb dX12_spelt_92 ?_
    refine otl 175125398 (by decide +kernel) ?_
    refine lv_ldc2 (v := 96) hx hb hown k2 dX12_spelt_93 ?_
    refine lv_lsub hx hb dX12_spelt_96 ?_
    refine otl 175125302 (by decide +kernel) ?_
    refine lv_lstore (lv' := [(7, .long 175125302), (5, .int 104), (6, .int 0)]) hx hb dX12_spelt_97 hl (by decide) rfl (fun ls hl => ?_)
    exact J99_1 ()  hY H locs ls (oPsub hP [] rfl) (hD.sub [] (by decide) rfl) hS (lv_sub hl [2, 0] rfl)
  have J57_3 : ∀ (_ : Unit), y_X12_spelt_23 = y_X12_spelt_23_57  → ∀ (H : Heap) (locs : List Loc) (ls : Array Slot), va_P D vwCl [] H → va_D A [] → va_S A s.heap H locs → lv_has ls 9 [(4, .int 116), (5, .int 104), (6, .int 0), (7, .long 240226)] → W p l e ({ frames := 0, cells := 0, slots := 0, locals := 0 } : Room) s m ([.int 108, .int 101, .int 110, .int 103, .int 116, .int 104, .int 0] : List Value).toArray below meth c H locs 0 0 (MQ below ((oQl D (fun (r : Int64) (u : Unit) => (r = 175125302) ∧ (r = y_X12_spelt_23)) (fun (u : Unit) => [])) A) ([.int 108, .int 101, .int 110, .int 103, .int 116, .int 104, .int 0] : List Value).toArray s 0 0 A) (F0 m 57 ls []) := by
    intro _  hY H locs ls hP hD hS hl
    have hY := hY.trans (y_X12_spelt_23_57_s )
    refine lv_iload hx hb dX12_spelt_57 (lv_at hl 0 rfl) ?_
    refine lv_if_le (tgt := 78) hx hb dX12_spelt_59 (by decide) (fun c => absurd c (by decide)) (fun _ => ?_)
    refine lv_ldc2 (v := 27) hx hb hown k1 dX12_spelt_62 ?_
    refine lv_lload hx hb dX12_spelt_65 (lv_at hl 3 rfl) ?_
    refine lv_lmul hx hb dX12_spelt_67 ?_
    refine otl 6486102 (by decide +kernel) ?_
    refine lv_iload hx hb dX12_spelt_68 (lv_at hl 0 rfl) ?_
    refine lv_i2l (v := 116) hx hb dX12_spelt_70 (by decide) ?_
    refine lv_ladd hx hb dX12_spelt_71 ?_
    refine otl 6486218 (by decide +kernel) ?_
    refine lv_ldc2 (v := 96) hx hb hown k2 dX12_spelt_72 ?_
    refine lv_lsub hx hb dX12_spelt_75 ?_
    refine otl 6486122 (by decide +kernel) ?_
    refine lv_lstore (lv' := [(7, .long 6486122), (4, .int 116), (5, .int 104), (6, .int 0)]) hx hb dX12_spelt_76 hl (by decide) rfl (fun ls hl => ?_)
    exact J78_2 ()  hY H locs ls (oPsub hP [] rfl) (hD.sub [] (by decide) rfl) hS (lv_sub hl [2, 3, 0] rfl)
  have J38_4 : ∀ (_ : Unit), y_X12_spelt_23 = y_X12_spelt_23_38  → ∀ (H : Heap) (locs : List Loc) (ls : Array Slot), va_P D vwCl [] H → va_D A [] → va_S A s.heap H locs → lv_has ls 9 [(3, .int 103), (4, .int 116), (5, .int 104), (6, .int 0), (7, .long 8897)] → W p l e ({ frames := 0, cells := 0, slots := 0, locals := 0 } : Room) s m ([.int 108, .int 101, .int 110, .int 103, .int 116, .int 104, .int 0] : List Value).toArray below meth c H locs 0 0 (MQ below ((oQl D (fun (r : Int64) (u : Unit) => (r = 175125302) ∧ (r = y_X12_spelt_23)) (fun (u : Unit) => [])) A) ([.int 108, .int 101, .int 110, .int 103, .int 116, .int 104, .int 0] : List Value).toArray s 0 0 A) (F0 m 38 ls []) := by
    intro _  hY H locs ls hP hD hS hl
    have hY := hY.trans (y_X12_spelt_23_38_s )
    refine lv_iload_n hx hb dX12_spelt_38 rfl (lv_at hl 0 rfl) ?_
    refine lv_if_le (tgt := 57) hx hb dX12_spelt_39 (by decide) (fun c => absurd c (by decide)) (fun _ => ?_)
    refine lv_ldc2 (v := 27) hx hb hown k1 dX12_spelt_42 ?_
    refine lv_lload hx hb dX12_spelt_45 (lv_at hl 4 rfl) ?_
    refine lv_lmul hx hb dX12_spelt_47 ?_
    refine otl 240219 (by decide +kernel) ?_
    refine lv_iload_n hx hb dX12_spelt_48 rfl (lv_at hl 0 rfl) ?_
    refine lv_i2l (v := 103) hx hb dX12_spelt_49 (by decide) ?_
    refine lv_ladd hx hb dX12_spelt_50 ?_
    refine otl 240322 (by decide +kernel) ?_
    refine lv_ldc2 (v := 96) hx hb hown k2 dX12_spelt_51 ?_
    refine lv_lsub hx hb dX12_spelt_54 ?_
    refine otl 240226 (by decide +kernel) ?_
    refine lv_lstore (lv' := [(7, .long 240226), (3, .int 103), (4, .int 116), (5, .int 104), (6, .int 0)]) hx hb dX12_spelt_55 hl (by decide) rfl (fun ls hl => ?_)
    exact J57_3 ()  hY H locs ls (oPsub hP [] rfl) (hD.sub [] (by decide) rfl) hS (lv_sub hl [2, 3, 4, 0] rfl)
  refine lv_ldc2 (v := 27) hx hb hown k1 dX12_spelt_0 ?_
  refine lv_iload_n hx hb dX12_spelt_3 rfl (lv_at hl 0 rfl) ?_
  refine lv_i2l (v := 108) hx hb dX12_spelt_4 (by decide) ?_
  refine lv_ldc2 (v := 96) hx hb hown k2 dX12_spelt_5 ?_
  refine lv_lsub hx hb dX12_spelt_8 ?_
  refine otl 12 (by decide +kernel) ?_
  refine lv_lmul hx hb dX12_spelt_9 ?_
  refine otl 324 (by decide +kernel) ?_
  refine lv_iload_n hx hb dX12_spelt_10 rfl (lv_at hl 1 rfl) ?_
  refine lv_i2l (v := 101) hx hb dX12_spelt_11 (by decide) ?_
  refine lv_ladd hx hb dX12_spelt_12 ?_
  refine otl 425 (by decide +kernel) ?_
  refine lv_ldc2 (v := 96) hx hb hown k2 dX12_spelt_13 ?_
  refine lv_lsub hx hb dX12_spelt_16 ?_
  refine otl 329 (by decide +kernel) ?_
  refine lv_lstore (lv' := [(7, .long 329), (0, .int 108), (1, .int 101), (2, .int 110), (3, .int 103), (4, .int 116), (5, .int 104), (6, .int 0)]) hx hb dX12_spelt_17 hl (by decide) rfl (fun ls hl => ?_)
  refine lv_iload_n hx hb dX12_spelt_19 rfl (lv_at hl 3 rfl) ?_
  refine lv_if_le (tgt := 38) hx hb dX12_spelt_20 (by decide) (fun c => absurd c (by decide)) (fun _ => ?_)
  refine lv_ldc2 (v := 27) hx hb hown k1 dX12_spelt_23 ?_
  refine lv_lload hx hb dX12_spelt_26 (lv_at hl 0 rfl) ?_
  refine lv_lmul hx hb dX12_spelt_28 ?_
  refine otl 8883 (by decide +kernel) ?_
  refine lv_iload_n hx hb dX12_spelt_29 rfl (lv_at hl 3 rfl) ?_
  refine lv_i2l (v := 110) hx hb dX12_spelt_30 (by decide) ?_
  refine lv_ladd hx hb dX12_spelt_31 ?_
  refine otl 8993 (by decide +kernel) ?_
  refine lv_ldc2 (v := 96) hx hb hown k2 dX12_spelt_32 ?_
  refine lv_lsub hx hb dX12_spelt_35 ?_
  refine otl 8897 (by decide +kernel) ?_
  refine lv_lstore (lv' := [(7, .long 8897), (0, .int 108), (1, .int 101), (2, .int 110), (3, .int 103), (4, .int 116), (5, .int 104), (6, .int 0)]) hx hb dX12_spelt_36 hl (by decide) rfl (fun ls hl => ?_)
  exact J38_4 ()  hY H locs ls (oPsub hP [] rfl) (hD.sub [] (by decide) rfl) hS (lv_sub hl [4, 5, 6, 7, 0] rfl)
set_option maxHeartbeats 4000000 in
set_option maxRecDepth 100000 in
theorem e_X12_spelt_24 (l : Launch) (D : va_G) (ca : Nat → ClassId) (sz : Nat)   : oMet l yX12_spelt wsX12_spelt ({ frames := 0, cells := 0, slots := 0, locals := 0 } : Room) [.int 100, .int 101, .int 110, .int 116, .int 115, .int 0, .int 0] D ca sz [] (oQl D (fun (r : Int64) (u : Unit) => (r = 2234944) ∧ (r = y_X12_spelt_24)) (fun (u : Unit) => [])) 0 0 := by
  refine oM (cc := cX12_spelt) (maxL := 9) (ret := (some .long)) (by decide) rfl (Nat.le_of_ble_eq_true rfl) [(0, .int 100), (1, .int 101), (2, .int 110), (3, .int 116), (4, .int 115), (5, .int 0), (6, .int 0)] rfl ?_
  intro p e s m below meth c A H locs ls hx hb hr hml hts hown hlocks hin hK hP hD hA hS hl
  have hown : s.vm.findClass RX12 = some m.cls := hown
  have hY := y_X12_spelt_24_s 
  have k1 := hts (.constantLong RX12 54 27) (by decide +kernel)
  have k2 := hts (.constantLong RX12 56 96) (by decide +kernel)
  have J99_1 : ∀ (_ : Unit), y_X12_spelt_24 = y_X12_spelt_24_99  → ∀ (H : Heap) (locs : List Loc) (ls : Array Slot), va_P D vwCl [] H → va_D A [] → va_S A s.heap H locs → lv_has ls 9 [(6, .int 0), (7, .long 2234944)] → W p l e ({ frames := 0, cells := 0, slots := 0, locals := 0 } : Room) s m ([.int 100, .int 101, .int 110, .int 116, .int 115, .int 0, .int 0] : List Value).toArray below meth c H locs 0 0 (MQ below ((oQl D (fun (r : Int64) (u : Unit) => (r = 2234944) ∧ (r = y_X12_spelt_24)) (fun (u : Unit) => [])) A) ([.int 100, .int 101, .int 110, .int 116, .int 115, .int 0, .int 0] : List Value).toArray s 0 0 A) (F0 m 99 ls []) := by
    intro _  hY H locs ls hP hD hS hl
    have hY := hY.trans (y_X12_spelt_24_99_s )
    refine lv_iload hx hb dX12_spelt_99 (lv_at hl 0 rfl) ?_
    refine lv_if_le (tgt := 120) hx hb dX12_spelt_101 (by decide) (fun _ => ?_) (fun c => absurd (by decide) c)
    refine lv_lload hx hb dX12_spelt_120 (lv_at hl 1 rfl) ?_
    exact oE_l hx hb hr hlocks hP hD hS () [] rfl (by decide) ⟨rfl, hY.symm⟩ (Nat.le_of_ble_eq_true rfl) (Nat.le_of_ble_eq_true rfl) dX12_spelt_122
  have J78_2 : ∀ (_ : Unit), y_X12_spelt_24 = y_X12_spelt_24_78  → ∀ (H : Heap) (locs : List Loc) (ls : Array Slot), va_P D vwCl [] H → va_D A [] → va_S A s.heap H locs → lv_has ls 9 [(5, .int 0), (6, .int 0), (7, .long 2234944)] → W p l e ({ frames := 0, cells := 0, slots := 0, locals := 0 } : Room) s m ([.int 100, .int 101, .int 110, .int 116, .int 115, .int 0, .int 0] : List Value).toArray below meth c H locs 0 0 (MQ below ((oQl D (fun (r : Int64) (u : Unit) => (r = 2234944) ∧ (r = y_X12_spelt_24)) (fun (u : Unit) => [])) A) ([.int 100, .int 101, .int 110, .int 116, .int 115, .int 0, .int 0] : List Value).toArray s 0 0 A) (F0 m 78 ls []) := by
    intro _  hY H locs ls hP hD hS hl
    have hY := hY.trans (y_X12_spelt_24_78_s )
    refine lv_iload hx hb dX12_spelt_78 (lv_at hl 0 rfl) ?_
    refine lv_if_le (tgt := 99) hx hb dX12_spelt_80 (by decide) (fun _ => ?_) (fun c => absurd (by decide) c)
    exact J99_1 ()  hY H locs ls (oPsub hP [] rfl) (hD.sub [] (by decide) rfl) hS (lv_sub hl [1, 2] rfl)
  have J57_3 : ∀ (_ : Unit), y_X12_spelt_24 = y_X12_spelt_24_57  → ∀ (H : Heap) (locs : List Loc) (ls : Array Slot), va_P D vwCl [] H → va_D A [] → va_S A s.heap H locs → lv_has ls 9 [(4, .int 115), (5, .int 0), (6, .int 0), (7, .long 82775)] → W p l e ({ frames := 0, cells := 0, slots := 0, locals := 0 } : Room) s m ([.int 100, .int 101, .int 110, .int 116, .int 115, .int 0, .int 0] : List Value).toArray below meth c H locs 0 0 (MQ below ((oQl D (fun (r : Int64) (u : Unit) => (r = 2234944) ∧ (r = y_X12_spelt_24)) (fun (u : Unit) => [])) A) ([.int 100, .int 101, .int 110, .int 116, .int 115, .int 0, .int 0] : List Value).toArray s 0 0 A) (F0 m 57 ls []) := by
    intro _  hY H locs ls hP hD hS hl
    have hY := hY.trans (y_X12_spelt_24_57_s )
    refine lv_iload hx hb dX12_spelt_57 (lv_at hl 0 rfl) ?_
    refine lv_if_le (tgt := 78) hx hb dX12_spelt_59 (by decide) (fun c => absurd c (by decide)) (fun _ => ?_)
    refine lv_ldc2 (v := 27) hx hb hown k1 dX12_spelt_62 ?_
    refine lv_lload hx hb dX12_spelt_65 (lv_at hl 3 rfl) ?_
    refine lv_lmul hx hb dX12_spelt_67 ?_
    refine otl 2234925 (by decide +kernel) ?_
    refine lv_iload hx hb dX12_spelt_68 (lv_at hl 0 rfl) ?_
    refine lv_i2l (v := 115) hx hb dX12_spelt_70 (by decide) ?_
    refine lv_ladd hx hb dX12_spelt_71 ?_
    refine otl 2235040 (by decide +kernel) ?_
    refine lv_ldc2 (v := 96) hx hb hown k2 dX12_spelt_72 ?_
    refine lv_lsub hx hb dX12_spelt_75 ?_
    refine otl 2234944 (by decide +kernel) ?_
    refine lv_lstore (lv' := [(7, .long 2234944), (4, .int 115), (5, .int 0), (6, .int 0)]) hx hb dX12_spelt_76 hl (by decide) rfl (fun ls hl => ?_)
    exact J78_2 ()  hY H locs ls (oPsub hP [] rfl) (hD.sub [] (by decide) rfl) hS (lv_sub hl [2, 3, 0] rfl)
  have J38_4 : ∀ (_ : Unit), y_X12_spelt_24 = y_X12_spelt_24_38  → ∀ (H : Heap) (locs : List Loc) (ls : Array Slot), va_P D vwCl [] H → va_D A [] → va_S A s.heap H locs → lv_has ls 9 [(3, .int 116), (4, .int 115), (5, .int 0), (6, .int 0), (7, .long 3065)] → W p l e ({ frames := 0, cells := 0, slots := 0, locals := 0 } : Room) s m ([.int 100, .int 101, .int 110, .int 116, .int 115, .int 0, .int 0] : List Value).toArray below meth c H locs 0 0 (MQ below ((oQl D (fun (r : Int64) (u : Unit) => (r = 2234944) ∧ (r = y_X12_spelt_24)) (fun (u : Unit) => [])) A) ([.int 100, .int 101, .int 110, .int 116, .int 115, .int 0, .int 0] : List Value).toArray s 0 0 A) (F0 m 38 ls []) := by
    intro _  hY H locs ls hP hD hS hl
    have hY := hY.trans (y_X12_spelt_24_38_s )
    refine lv_iload_n hx hb dX12_spelt_38 rfl (lv_at hl 0 rfl) ?_
    refine lv_if_le (tgt := 57) hx hb dX12_spelt_39 (by decide) (fun c => absurd c (by decide)) (fun _ => ?_)
    refine lv_ldc2 (v := 27) hx hb hown k1 dX12_spelt_42 ?_
    refine lv_lload hx hb dX12_spelt_45 (lv_at hl 4 rfl) ?_
    refine lv_lmul hx hb dX12_spelt_47 ?_
    refine otl 82755 (by decide +kernel) ?_
    refine lv_iload_n hx hb dX12_spelt_48 rfl (lv_at hl 0 rfl) ?_
    refine lv_i2l (v := 116) hx hb dX12_spelt_49 (by decide) ?_
    refine lv_ladd hx hb dX12_spelt_50 ?_
    refine otl 82871 (by decide +kernel) ?_
    refine lv_ldc2 (v := 96) hx hb hown k2 dX12_spelt_51 ?_
    refine lv_lsub hx hb dX12_spelt_54 ?_
    refine otl 82775 (by decide +kernel) ?_
    refine lv_lstore (lv' := [(7, .long 82775), (3, .int 116), (4, .int 115), (5, .int 0), (6, .int 0)]) hx hb dX12_spelt_55 hl (by decide) rfl (fun ls hl => ?_)
    exact J57_3 ()  hY H locs ls (oPsub hP [] rfl) (hD.sub [] (by decide) rfl) hS (lv_sub hl [2, 3, 4, 0] rfl)
  refine lv_ldc2 (v := 27) hx hb hown k1 dX12_spelt_0 ?_
  refine lv_iload_n hx hb dX12_spelt_3 rfl (lv_at hl 0 rfl) ?_
  refine lv_i2l (v := 100) hx hb dX12_spelt_4 (by decide) ?_
  refine lv_ldc2 (v := 96) hx hb hown k2 dX12_spelt_5 ?_
  refine lv_lsub hx hb dX12_spelt_8 ?_
  refine otl 4 (by decide +kernel) ?_
  refine lv_lmul hx hb dX12_spelt_9 ?_
  refine otl 108 (by decide +kernel) ?_
  refine lv_iload_n hx hb dX12_spelt_10 rfl (lv_at hl 1 rfl) ?_
  refine lv_i2l (v := 101) hx hb dX12_spelt_11 (by decide) ?_
  refine lv_ladd hx hb dX12_spelt_12 ?_
  refine otl 209 (by decide +kernel) ?_
  refine lv_ldc2 (v := 96) hx hb hown k2 dX12_spelt_13 ?_
  refine lv_lsub hx hb dX12_spelt_16 ?_
  refine otl 113 (by decide +kernel) ?_
  refine lv_lstore (lv' := [(7, .long 113), (0, .int 100), (1, .int 101), (2, .int 110), (3, .int 116), (4, .int 115), (5, .int 0), (6, .int 0)]) hx hb dX12_spelt_17 hl (by decide) rfl (fun ls hl => ?_)
  refine lv_iload_n hx hb dX12_spelt_19 rfl (lv_at hl 3 rfl) ?_
  refine lv_if_le (tgt := 38) hx hb dX12_spelt_20 (by decide) (fun c => absurd c (by decide)) (fun _ => ?_)
  refine lv_ldc2 (v := 27) hx hb hown k1 dX12_spelt_23 ?_
  refine lv_lload hx hb dX12_spelt_26 (lv_at hl 0 rfl) ?_
  refine lv_lmul hx hb dX12_spelt_28 ?_
  refine otl 3051 (by decide +kernel) ?_
  refine lv_iload_n hx hb dX12_spelt_29 rfl (lv_at hl 3 rfl) ?_
  refine lv_i2l (v := 110) hx hb dX12_spelt_30 (by decide) ?_
  refine lv_ladd hx hb dX12_spelt_31 ?_
  refine otl 3161 (by decide +kernel) ?_
  refine lv_ldc2 (v := 96) hx hb hown k2 dX12_spelt_32 ?_
  refine lv_lsub hx hb dX12_spelt_35 ?_
  refine otl 3065 (by decide +kernel) ?_
  refine lv_lstore (lv' := [(7, .long 3065), (0, .int 100), (1, .int 101), (2, .int 110), (3, .int 116), (4, .int 115), (5, .int 0), (6, .int 0)]) hx hb dX12_spelt_36 hl (by decide) rfl (fun ls hl => ?_)
  exact J38_4 ()  hY H locs ls (oPsub hP [] rfl) (hD.sub [] (by decide) rfl) hS (lv_sub hl [4, 5, 6, 7, 0] rfl)
set_option maxHeartbeats 4000000 in
set_option maxRecDepth 100000 in
theorem e_X12_spelt_25 (l : Launch) (D : va_G) (ca : Nat → ClassId) (sz : Nat)   : oMet l yX12_spelt wsX12_spelt ({ frames := 0, cells := 0, slots := 0, locals := 0 } : Room) [.int 110, .int 117, .int 109, .int 98, .int 101, .int 114, .int 0] D ca sz [] (oQl D (fun (r : Int64) (u : Unit) => (r = 212302449) ∧ (r = y_X12_spelt_25)) (fun (u : Unit) => [])) 0 0 := by
  refine oM (cc := cX12_spelt) (maxL := 9) (ret := (some .long)) (by decide) rfl (Nat.le_of_ble_eq_true rfl) [(0, .int 110), (1, .int 117), (2, .int 109), (3, .int 98), (4, .int 101), (5, .int 114), (6, .int 0)] rfl ?_
  intro p e s m below meth c A H locs ls hx hb hr hml hts hown hlocks hin hK hP hD hA hS hl
  have hown : s.vm.findClass RX12 = some m.cls := hown
  have hY := y_X12_spelt_25_s 
  have k1 := hts (.constantLong RX12 54 27) (by decide +kernel)
  have k2 := hts (.constantLong RX12 56 96) (by decide +kernel)
  have J99_1 : ∀ (_ : Unit), y_X12_spelt_25 = y_X12_spelt_25_99  → ∀ (H : Heap) (locs : List Loc) (ls : Array Slot), va_P D vwCl [] H → va_D A [] → va_S A s.heap H locs → lv_has ls 9 [(6, .int 0), (7, .long 212302449)] → W p l e ({ frames := 0, cells := 0, slots := 0, locals := 0 } : Room) s m ([.int 110, .int 117, .int 109, .int 98, .int 101, .int 114, .int 0] : List Value).toArray below meth c H locs 0 0 (MQ below ((oQl D (fun (r : Int64) (u : Unit) => (r = 212302449) ∧ (r = y_X12_spelt_25)) (fun (u : Unit) => [])) A) ([.int 110, .int 117, .int 109, .int 98, .int 101, .int 114, .int 0] : List Value).toArray s 0 0 A) (F0 m 99 ls []) := by
    intro _  hY H locs ls hP hD hS hl
    have hY := hY.trans (y_X12_spelt_25_99_s )
    refine lv_iload hx hb dX12_spelt_99 (lv_at hl 0 rfl) ?_
    refine lv_if_le (tgt := 120) hx hb dX12_spelt_101 (by decide) (fun _ => ?_) (fun c => absurd (by decide) c)
    refine lv_lload hx hb dX12_spelt_120 (lv_at hl 1 rfl) ?_
    exact oE_l hx hb hr hlocks hP hD hS () [] rfl (by decide) ⟨rfl, hY.symm⟩ (Nat.le_of_ble_eq_true rfl) (Nat.le_of_ble_eq_true rfl) dX12_spelt_122
  have J78_2 : ∀ (_ : Unit), y_X12_spelt_25 = y_X12_spelt_25_78  → ∀ (H : Heap) (locs : List Loc) (ls : Array Slot), va_P D vwCl [] H → va_D A [] → va_S A s.heap H locs → lv_has ls 9 [(5, .int 114), (6, .int 0), (7, .long 7863053)] → W p l e ({ frames := 0, cells := 0, slots := 0, locals := 0 } : Room) s m ([.int 110, .int 117, .int 109, .int 98, .int 101, .int 114, .int 0] : List Value).toArray below meth c H locs 0 0 (MQ below ((oQl D (fun (r : Int64) (u : Unit) => (r = 212302449) ∧ (r = y_X12_spelt_25)) (fun (u : Unit) => [])) A) ([.int 110, .int 117, .int 109, .int 98, .int 101, .int 114, .int 0] : List Value).toArray s 0 0 A) (F0 m 78 ls []) := by
    intro _  hY H locs ls hP hD hS hl
    have hY := hY.trans (y_X12_spelt_25_78_s )
    refine lv_iload hx hb dX12_spelt_78 (lv_at hl 0 rfl) ?_
    refine lv_if_le (tgt := 99) hx hb dX12_spelt_80 (by decide) (fun c => absurd c (by decide)) (fun _ => ?_)
    refine lv_ldc2 (v := 27) hx hb hown k1 dX12_spelt_83 ?_
    refine lv_lload hx hb dX12_spelt_86 (lv_at hl 2 rfl) ?_
    refine lv_lmul hx hb dX12_spelt_88 ?_
    refine otl 212302431 (by decide +kernel) ?_
    refine lv_iload hx hb dX12_spelt_89 (lv_at hl 0 rfl) ?_
    refine lv_i2l (v := 114) hx hb dX12_spelt_91 (by decide) ?_
    refine lv_ladd hx hb dX12_spelt_92 ?_
    refine otl 212302545 (by decide +kernel) ?_
    refine lv_ldc2 (v := 96) hx hb hown k2 dX12_spelt_93 ?_
    refine lv_lsub hx hb dX12_spelt_96 ?_
    refine otl 212302449 (by decide +kernel) ?_
    refine lv_lstore (lv' := [(7, .long 212302449), (5, .int 114), (6, .int 0)]) hx hb dX12_spelt_97 hl (by decide) rfl (fun ls hl => ?_)
    exact J99_1 ()  hY H locs ls (oPsub hP [] rfl) (hD.sub [] (by decide) rfl) hS (lv_sub hl [2, 0] rfl)
  have J57_3 : ∀ (_ : Unit), y_X12_spelt_25 = y_X12_spelt_25_57  → ∀ (H : Heap) (locs : List Loc) (ls : Array Slot), va_P D vwCl [] H → va_D A [] → va_S A s.heap H locs → lv_has ls 9 [(4, .int 101), (5, .int 114), (6, .int 0), (7, .long 291224)] → W p l e ({ frames := 0, cells := 0, slots := 0, locals := 0 } : Room) s m ([.int 110, .int 117, .int 109, .int 98, .int 101, .int 114, .int 0] : List Value).toArray below meth c H locs 0 0 (MQ below ((oQl D (fun (r : Int64) (u : Unit) => (r = 212302449) ∧ (r = y_X12_spelt_25)) (fun (u : Unit) => [])) A) ([.int 110, .int 117, .int 109, .int 98, .int 101, .int 114, .int 0] : List Value).toArray s 0 0 A) (F0 m 57 ls []) := by
    intro _  hY H locs ls hP hD hS hl
    have hY := hY.trans (y_X12_spelt_25_57_s )
    refine lv_iload hx hb dX12_spelt_57 (lv_at hl 0 rfl) ?_
    refine lv_if_le (tgt := 78) hx hb dX12_spelt_59 (by decide) (fun c => absurd c (by decide)) (fun _ => ?_)
    refine lv_ldc2 (v := 27) hx hb hown k1 dX12_spelt_62 ?_
    refine lv_lload hx hb dX12_spelt_65 (lv_at hl 3 rfl) ?_
    refine lv_lmul hx hb dX12_spelt_67 ?_
    refine otl 7863048 (by decide +kernel) ?_
    refine lv_iload hx hb dX12_spelt_68 (lv_at hl 0 rfl) ?_
    refine lv_i2l (v := 101) hx hb dX12_spelt_70 (by decide) ?_
    refine lv_ladd hx hb dX12_spelt_71 ?_
    refine otl 7863149 (by decide +kernel) ?_
    refine lv_ldc2 (v := 96) hx hb hown k2 dX12_spelt_72 ?_
    refine lv_lsub hx hb dX12_spelt_75 ?_
    refine otl 7863053 (by decide +kernel) ?_
    refine lv_lstore (lv' := [(7, .long 7863053), (4, .int 101), (5, .int 114), (6, .int 0)]) hx hb dX12_spelt_76 hl (by decide) rfl (fun ls hl => ?_)
    exact J78_2 ()  hY H locs ls (oPsub hP [] rfl) (hD.sub [] (by decide) rfl) hS (lv_sub hl [2, 3, 0] rfl)
  have J38_4 : ∀ (_ : Unit), y_X12_spelt_25 = y_X12_spelt_25_38  → ∀ (H : Heap) (locs : List Loc) (ls : Array Slot), va_P D vwCl [] H → va_D A [] → va_S A s.heap H locs → lv_has ls 9 [(3, .int 98), (4, .int 101), (5, .int 114), (6, .int 0), (7, .long 10786)] → W p l e ({ frames := 0, cells := 0, slots := 0, locals := 0 } : Room) s m ([.int 110, .int 117, .int 109, .int 98, .int 101, .int 114, .int 0] : List Value).toArray below meth c H locs 0 0 (MQ below ((oQl D (fun (r : Int64) (u : Unit) => (r = 212302449) ∧ (r = y_X12_spelt_25)) (fun (u : Unit) => [])) A) ([.int 110, .int 117, .int 109, .int 98, .int 101, .int 114, .int 0] : List Value).toArray s 0 0 A) (F0 m 38 ls []) := by
    intro _  hY H locs ls hP hD hS hl
    have hY := hY.trans (y_X12_spelt_25_38_s )
    refine lv_iload_n hx hb dX12_spelt_38 rfl (lv_at hl 0 rfl) ?_
    refine lv_if_le (tgt := 57) hx hb dX12_spelt_39 (by decide) (fun c => absurd c (by decide)) (fun _ => ?_)
    refine lv_ldc2 (v := 27) hx hb hown k1 dX12_spelt_42 ?_
    refine lv_lload hx hb dX12_spelt_45 (lv_at hl 4 rfl) ?_
    refine lv_lmul hx hb dX12_spelt_47 ?_
    refine otl 291222 (by decide +kernel) ?_
    refine lv_iload_n hx hb dX12_spelt_48 rfl (lv_at hl 0 rfl) ?_
    refine lv_i2l (v := 98) hx hb dX12_spelt_49 (by decide) ?_
    refine lv_ladd hx hb dX12_spelt_50 ?_
    refine otl 291320 (by decide +kernel) ?_
    refine lv_ldc2 (v := 96) hx hb hown k2 dX12_spelt_51 ?_
    refine lv_lsub hx hb dX12_spelt_54 ?_
    refine otl 291224 (by decide +kernel) ?_
    refine lv_lstore (lv' := [(7, .long 291224), (3, .int 98), (4, .int 101), (5, .int 114), (6, .int 0)]) hx hb dX12_spelt_55 hl (by decide) rfl (fun ls hl => ?_)
    exact J57_3 ()  hY H locs ls (oPsub hP [] rfl) (hD.sub [] (by decide) rfl) hS (lv_sub hl [2, 3, 4, 0] rfl)
  refine lv_ldc2 (v := 27) hx hb hown k1 dX12_spelt_0 ?_
  refine lv_iload_n hx hb dX12_spelt_3 rfl (lv_at hl 0 rfl) ?_
  refine lv_i2l (v := 110) hx hb dX12_spelt_4 (by decide) ?_
  refine lv_ldc2 (v := 96) hx hb hown k2 dX12_spelt_5 ?_
  refine lv_lsub hx hb dX12_spelt_8 ?_
  refine otl 14 (by decide +kernel) ?_
  refine lv_lmul hx hb dX12_spelt_9 ?_
  refine otl 378 (by decide +kernel) ?_
  refine lv_iload_n hx hb dX12_spelt_10 rfl (lv_at hl 1 rfl) ?_
  refine lv_i2l (v := 117) hx hb dX12_spelt_11 (by decide) ?_
  refine lv_ladd hx hb dX12_spelt_12 ?_
  refine otl 495 (by decide +kernel) ?_
  refine lv_ldc2 (v := 96) hx hb hown k2 dX12_spelt_13 ?_
  refine lv_lsub hx hb dX12_spelt_16 ?_
  refine otl 399 (by decide +kernel) ?_
  refine lv_lstore (lv' := [(7, .long 399), (0, .int 110), (1, .int 117), (2, .int 109), (3, .int 98), (4, .int 101), (5, .int 114), (6, .int 0)]) hx hb dX12_spelt_17 hl (by decide) rfl (fun ls hl => ?_)
  refine lv_iload_n hx hb dX12_spelt_19 rfl (lv_at hl 3 rfl) ?_
  refine lv_if_le (tgt := 38) hx hb dX12_spelt_20 (by decide) (fun c => absurd c (by decide)) (fun _ => ?_)
  refine lv_ldc2 (v := 27) hx hb hown k1 dX12_spelt_23 ?_
  refine lv_lload hx hb dX12_spelt_26 (lv_at hl 0 rfl) ?_
  refine lv_lmul hx hb dX12_spelt_28 ?_
  refine otl 10773 (by decide +kernel) ?_
  refine lv_iload_n hx hb dX12_spelt_29 rfl (lv_at hl 3 rfl) ?_
  refine lv_i2l (v := 109) hx hb dX12_spelt_30 (by decide) ?_
  refine lv_ladd hx hb dX12_spelt_31 ?_
  refine otl 10882 (by decide +kernel) ?_
  refine lv_ldc2 (v := 96) hx hb hown k2 dX12_spelt_32 ?_
  refine lv_lsub hx hb dX12_spelt_35 ?_
  refine otl 10786 (by decide +kernel) ?_
  refine lv_lstore (lv' := [(7, .long 10786), (0, .int 110), (1, .int 117), (2, .int 109), (3, .int 98), (4, .int 101), (5, .int 114), (6, .int 0)]) hx hb dX12_spelt_36 hl (by decide) rfl (fun ls hl => ?_)
  exact J38_4 ()  hY H locs ls (oPsub hP [] rfl) (hD.sub [] (by decide) rfl) hS (lv_sub hl [4, 5, 6, 7, 0] rfl)
set_option maxHeartbeats 4000000 in
set_option maxRecDepth 100000 in
theorem e_X12_wordOf_0 (l : Launch) (D : va_G) (ca : Nat → ClassId) (sz : Nat)   : oMet l yX12_wordOf wsX12_wordOf ({ frames := 1, cells := 0, slots := 0, locals := 28 } : Room) [.int 0] D ca sz [] (oQl D (fun (r : Int64) (u : Unit) => (r = 5741298) ∧ (r = y_X12_wordOf_0)) (fun (u : Unit) => [])) 0 0 := by
  refine oM (cc := cX12_wordOf) (maxL := 1) (ret := (some .long)) (by decide) rfl (Nat.le_of_ble_eq_true rfl) [(0, .int 0)] rfl ?_
  intro p e s m below meth c A H locs ls hx hb hr hml hts hown hlocks hin hK hP hD hA hS hl
  have hown : s.vm.findClass RX12 = some m.cls := hown
  have hY := y_X12_wordOf_0_s 
  refine lv_iload_n hx hb dX12_wordOf_0 rfl (lv_at hl 0 rfl) ?_
  refine lv_tableIn (off := 115) (tgt := 116) hx hb dX12_wordOf_1 (by decide) (by decide) (by decide) (by decide) ?_
  refine lv_bipush (v := 106) hx hb dX12_wordOf_116 (by decide) ?_
  refine lv_bipush (v := 117) hx hb dX12_wordOf_118 (by decide) ?_
  refine lv_bipush (v := 114) hx hb dX12_wordOf_120 (by decide) ?_
  refine lv_bipush (v := 111) hx hb dX12_wordOf_122 (by decide) ?_
  refine lv_bipush (v := 114) hx hb dX12_wordOf_124 (by decide) ?_
  refine lv_iconst (v := 0) hx hb dX12_wordOf_126 (by decide) ?_
  refine lv_iconst (v := 0) hx hb dX12_wordOf_127 (by decide) ?_
  refine oC_l (Wc := []) (Wr := []) (va_runS (As := [.int 106, .int 117, .int 114, .int 111, .int 114, .int 0, .int 0]) (rest := []) ⟨hx, hb, hml, hown, hts⟩ (e_X12_spelt_0 l D ca H.size ) (va_cwS 7 hts gX12_wordOf_X12_spelt rfl rfl rfl (by decide +kernel) ⟨Nat.le_of_ble_eq_true rfl, Nat.le_of_ble_eq_true rfl⟩) (oPS hK hP hD [] rfl (by decide)) rfl rfl hl.1 rfl (lv_room (Nat.le_of_ble_eq_true rfl)) dX12_wordOf_128 ⟨Nat.le_of_ble_eq_true rfl, Nat.le_of_ble_eq_true rfl⟩) hP hD hS hA [] [] rfl rfl (by decide) (by decide) (fun r_5 u H locs w_6 hP hD hS => ?_)
  obtain ⟨⟩ := u
  have hP : va_P D vwCl [] H := hP
  have hD : va_D A [] := hD
  try dsimp only at w_6
  obtain ⟨h_7, h_8⟩ := w_6
  subst h_7
  have hY := hY.trans (lt1_e h_8)
  exact oE_l hx hb hr hlocks hP hD hS () [] rfl (by decide) ⟨rfl, hY.symm⟩ (Nat.le_of_ble_eq_true rfl) (Nat.le_of_ble_eq_true rfl) dX12_wordOf_131
set_option maxHeartbeats 4000000 in
set_option maxRecDepth 100000 in
theorem e_X12_wordOf_1 (l : Launch) (D : va_G) (ca : Nat → ClassId) (sz : Nat)   : oMet l yX12_wordOf wsX12_wordOf ({ frames := 1, cells := 0, slots := 0, locals := 28 } : Room) [.int 1] D ca sz [] (oQl D (fun (r : Int64) (u : Unit) => (r = 275320840) ∧ (r = y_X12_wordOf_1)) (fun (u : Unit) => [])) 0 0 := by
  refine oM (cc := cX12_wordOf) (maxL := 1) (ret := (some .long)) (by decide) rfl (Nat.le_of_ble_eq_true rfl) [(0, .int 1)] rfl ?_
  intro p e s m below meth c A H locs ls hx hb hr hml hts hown hlocks hin hK hP hD hA hS hl
  have hown : s.vm.findClass RX12 = some m.cls := hown
  have hY := y_X12_wordOf_1_s 
  refine lv_iload_n hx hb dX12_wordOf_0 rfl (lv_at hl 0 rfl) ?_
  refine lv_tableIn (off := 131) (tgt := 132) hx hb dX12_wordOf_1 (by decide) (by decide) (by decide) (by decide) ?_
  refine lv_bipush (v := 115) hx hb dX12_wordOf_132 (by decide) ?_
  refine lv_bipush (v := 101) hx hb dX12_wordOf_134 (by decide) ?_
  refine lv_bipush (v := 97) hx hb dX12_wordOf_136 (by decide) ?_
  refine lv_bipush (v := 116) hx hb dX12_wordOf_138 (by decide) ?_
  refine lv_bipush (v := 101) hx hb dX12_wordOf_140 (by decide) ?_
  refine lv_bipush (v := 100) hx hb dX12_wordOf_142 (by decide) ?_
  refine lv_iconst (v := 0) hx hb dX12_wordOf_144 (by decide) ?_
  refine oC_l (Wc := []) (Wr := []) (va_runS (As := [.int 115, .int 101, .int 97, .int 116, .int 101, .int 100, .int 0]) (rest := []) ⟨hx, hb, hml, hown, hts⟩ (e_X12_spelt_1 l D ca H.size ) (va_cwS 7 hts gX12_wordOf_X12_spelt rfl rfl rfl (by decide +kernel) ⟨Nat.le_of_ble_eq_true rfl, Nat.le_of_ble_eq_true rfl⟩) (oPS hK hP hD [] rfl (by decide)) rfl rfl hl.1 rfl (lv_room (Nat.le_of_ble_eq_true rfl)) dX12_wordOf_145 ⟨Nat.le_of_ble_eq_true rfl, Nat.le_of_ble_eq_true rfl⟩) hP hD hS hA [] [] rfl rfl (by decide) (by decide) (fun r_5 u H locs w_6 hP hD hS => ?_)
  obtain ⟨⟩ := u
  have hP : va_P D vwCl [] H := hP
  have hD : va_D A [] := hD
  try dsimp only at w_6
  obtain ⟨h_7, h_8⟩ := w_6
  subst h_7
  have hY := hY.trans (lt1_e h_8)
  exact oE_l hx hb hr hlocks hP hD hS () [] rfl (by decide) ⟨rfl, hY.symm⟩ (Nat.le_of_ble_eq_true rfl) (Nat.le_of_ble_eq_true rfl) dX12_wordOf_148
set_option maxHeartbeats 4000000 in
set_option maxRecDepth 100000 in
theorem e_X12_wordOf_2 (l : Launch) (D : va_G) (ca : Nat → ClassId) (sz : Nat)   : oMet l yX12_wordOf wsX12_wordOf ({ frames := 1, cells := 0, slots := 0, locals := 28 } : Room) [.int 2] D ca sz [] (oQl D (fun (r : Int64) (u : Unit) => (r = 3436200) ∧ (r = y_X12_wordOf_2)) (fun (u : Unit) => [])) 0 0 := by
  refine oM (cc := cX12_wordOf) (maxL := 1) (ret := (some .long)) (by decide) rfl (Nat.le_of_ble_eq_true rfl) [(0, .int 2)] rfl ?_
  intro p e s m below meth c A H locs ls hx hb hr hml hts hown hlocks hin hK hP hD hA hS hl
  have hown : s.vm.findClass RX12 = some m.cls := hown
  have hY := y_X12_wordOf_2_s 
  refine lv_iload_n hx hb dX12_wordOf_0 rfl (lv_at hl 0 rfl) ?_
  refine lv_tableIn (off := 148) (tgt := 149) hx hb dX12_wordOf_1 (by decide) (by decide) (by decide) (by decide) ?_
  refine lv_bipush (v := 102) hx hb dX12_wordOf_149 (by decide) ?_
  refine lv_bipush (v := 108) hx hb dX12_wordOf_151 (by decide) ?_
  refine lv_bipush (v := 111) hx hb dX12_wordOf_153 (by decide) ?_
  refine lv_bipush (v := 111) hx hb dX12_wordOf_155 (by decide) ?_
  refine lv_bipush (v := 114) hx hb dX12_wordOf_157 (by decide) ?_
  refine lv_iconst (v := 0) hx hb dX12_wordOf_159 (by decide) ?_
  refine lv_iconst (v := 0) hx hb dX12_wordOf_160 (by decide) ?_
  refine oC_l (Wc := []) (Wr := []) (va_runS (As := [.int 102, .int 108, .int 111, .int 111, .int 114, .int 0, .int 0]) (rest := []) ⟨hx, hb, hml, hown, hts⟩ (e_X12_spelt_2 l D ca H.size ) (va_cwS 7 hts gX12_wordOf_X12_spelt rfl rfl rfl (by decide +kernel) ⟨Nat.le_of_ble_eq_true rfl, Nat.le_of_ble_eq_true rfl⟩) (oPS hK hP hD [] rfl (by decide)) rfl rfl hl.1 rfl (lv_room (Nat.le_of_ble_eq_true rfl)) dX12_wordOf_161 ⟨Nat.le_of_ble_eq_true rfl, Nat.le_of_ble_eq_true rfl⟩) hP hD hS hA [] [] rfl rfl (by decide) (by decide) (fun r_5 u H locs w_6 hP hD hS => ?_)
  obtain ⟨⟩ := u
  have hP : va_P D vwCl [] H := hP
  have hD : va_D A [] := hD
  try dsimp only at w_6
  obtain ⟨h_7, h_8⟩ := w_6
  subst h_7
  have hY := hY.trans (lt1_e h_8)
  exact oE_l hx hb hr hlocks hP hD hS () [] rfl (by decide) ⟨rfl, hY.symm⟩ (Nat.le_of_ble_eq_true rfl) (Nat.le_of_ble_eq_true rfl) dX12_wordOf_164
set_option maxHeartbeats 4000000 in
set_option maxRecDepth 100000 in
theorem e_X12_wordOf_3 (l : Launch) (D : va_G) (ca : Nat → ClassId) (sz : Nat)   : oMet l yX12_wordOf wsX12_wordOf ({ frames := 1, cells := 0, slots := 0, locals := 28 } : Room) [.int 3] D ca sz [] (oQl D (fun (r : Int64) (u : Unit) => (r = 60296) ∧ (r = y_X12_wordOf_3)) (fun (u : Unit) => [])) 0 0 := by
  refine oM (cc := cX12_wordOf) (maxL := 1) (ret := (some .long)) (by decide) rfl (Nat.le_of_ble_eq_true rfl) [(0, .int 3)] rfl ?_
  intro p e s m below meth c A H locs ls hx hb hr hml hts hown hlocks hin hK hP hD hA hS hl
  have hown : s.vm.findClass RX12 = some m.cls := hown
  have hY := y_X12_wordOf_3_s 
  refine lv_iload_n hx hb dX12_wordOf_0 rfl (lv_at hl 0 rfl) ?_
  refine lv_tableIn (off := 164) (tgt := 165) hx hb dX12_wordOf_1 (by decide) (by decide) (by decide) (by decide) ?_
  refine lv_bipush (v := 99) hx hb dX12_wordOf_165 (by decide) ?_
  refine lv_bipush (v := 97) hx hb dX12_wordOf_167 (by decide) ?_
  refine lv_bipush (v := 115) hx hb dX12_wordOf_169 (by decide) ?_
  refine lv_bipush (v := 101) hx hb dX12_wordOf_171 (by decide) ?_
  refine lv_iconst (v := 0) hx hb dX12_wordOf_173 (by decide) ?_
  refine lv_iconst (v := 0) hx hb dX12_wordOf_174 (by decide) ?_
  refine lv_iconst (v := 0) hx hb dX12_wordOf_175 (by decide) ?_
  refine oC_l (Wc := []) (Wr := []) (va_runS (As := [.int 99, .int 97, .int 115, .int 101, .int 0, .int 0, .int 0]) (rest := []) ⟨hx, hb, hml, hown, hts⟩ (e_X12_spelt_3 l D ca H.size ) (va_cwS 7 hts gX12_wordOf_X12_spelt rfl rfl rfl (by decide +kernel) ⟨Nat.le_of_ble_eq_true rfl, Nat.le_of_ble_eq_true rfl⟩) (oPS hK hP hD [] rfl (by decide)) rfl rfl hl.1 rfl (lv_room (Nat.le_of_ble_eq_true rfl)) dX12_wordOf_176 ⟨Nat.le_of_ble_eq_true rfl, Nat.le_of_ble_eq_true rfl⟩) hP hD hS hA [] [] rfl rfl (by decide) (by decide) (fun r_5 u H locs w_6 hP hD hS => ?_)
  obtain ⟨⟩ := u
  have hP : va_P D vwCl [] H := hP
  have hD : va_D A [] := hD
  try dsimp only at w_6
  obtain ⟨h_7, h_8⟩ := w_6
  subst h_7
  have hY := hY.trans (lt1_e h_8)
  exact oE_l hx hb hr hlocks hP hD hS () [] rfl (by decide) ⟨rfl, hY.symm⟩ (Nat.le_of_ble_eq_true rfl) (Nat.le_of_ble_eq_true rfl) dX12_wordOf_179
set_option maxHeartbeats 4000000 in
set_option maxRecDepth 100000 in
theorem e_X12_wordOf_4 (l : Launch) (D : va_G) (ca : Nat → ClassId) (sz : Nat)   : oMet l yX12_wordOf wsX12_wordOf ({ frames := 1, cells := 0, slots := 0, locals := 28 } : Room) [.int 4] D ca sz [] (oQl D (fun (r : Int64) (u : Unit) => (r = 11052508) ∧ (r = y_X12_wordOf_4)) (fun (u : Unit) => [])) 0 0 := by
  refine oM (cc := cX12_wordOf) (maxL := 1) (ret := (some .long)) (by decide) rfl (Nat.le_of_ble_eq_true rfl) [(0, .int 4)] rfl ?_
  intro p e s m below meth c A H locs ls hx hb hr hml hts hown hlocks hin hK hP hD hA hS hl
  have hown : s.vm.findClass RX12 = some m.cls := hown
  have hY := y_X12_wordOf_4_s 
  refine lv_iload_n hx hb dX12_wordOf_0 rfl (lv_at hl 0 rfl) ?_
  refine lv_tableIn (off := 179) (tgt := 180) hx hb dX12_wordOf_1 (by decide) (by decide) (by decide) (by decide) ?_
  refine lv_bipush (v := 116) hx hb dX12_wordOf_180 (by decide) ?_
  refine lv_bipush (v := 117) hx hb dX12_wordOf_182 (by decide) ?_
  refine lv_bipush (v := 110) hx hb dX12_wordOf_184 (by decide) ?_
  refine lv_bipush (v := 101) hx hb dX12_wordOf_186 (by decide) ?_
  refine lv_bipush (v := 100) hx hb dX12_wordOf_188 (by decide) ?_
  refine lv_iconst (v := 0) hx hb dX12_wordOf_190 (by decide) ?_
  refine lv_iconst (v := 0) hx hb dX12_wordOf_191 (by decide) ?_
  refine oC_l (Wc := []) (Wr := []) (va_runS (As := [.int 116, .int 117, .int 110, .int 101, .int 100, .int 0, .int 0]) (rest := []) ⟨hx, hb, hml, hown, hts⟩ (e_X12_spelt_4 l D ca H.size ) (va_cwS 7 hts gX12_wordOf_X12_spelt rfl rfl rfl (by decide +kernel) ⟨Nat.le_of_ble_eq_true rfl, Nat.le_of_ble_eq_true rfl⟩) (oPS hK hP hD [] rfl (by decide)) rfl rfl hl.1 rfl (lv_room (Nat.le_of_ble_eq_true rfl)) dX12_wordOf_192 ⟨Nat.le_of_ble_eq_true rfl, Nat.le_of_ble_eq_true rfl⟩) hP hD hS hA [] [] rfl rfl (by decide) (by decide) (fun r_5 u H locs w_6 hP hD hS => ?_)
  obtain ⟨⟩ := u
  have hP : va_P D vwCl [] H := hP
  have hD : va_D A [] := hD
  try dsimp only at w_6
  obtain ⟨h_7, h_8⟩ := w_6
  subst h_7
  have hY := hY.trans (lt1_e h_8)
  exact oE_l hx hb hr hlocks hP hD hS () [] rfl (by decide) ⟨rfl, hY.symm⟩ (Nat.le_of_ble_eq_true rfl) (Nat.le_of_ble_eq_true rfl) dX12_wordOf_195
set_option maxHeartbeats 4000000 in
set_option maxRecDepth 100000 in
theorem e_X12_wordOf_5 (l : Launch) (D : va_G) (ca : Nat → ClassId) (sz : Nat)   : oMet l yX12_wordOf wsX12_wordOf ({ frames := 1, cells := 0, slots := 0, locals := 28 } : Room) [.int 5] D ca sz [] (oQl D (fun (r : Int64) (u : Unit) => (r = 11318) ∧ (r = y_X12_wordOf_5)) (fun (u : Unit) => [])) 0 0 := by
  refine oM (cc := cX12_wordOf) (maxL := 1) (ret := (some .long)) (by decide) rfl (Nat.le_of_ble_eq_true rfl) [(0, .int 5)] rfl ?_
  intro p e s m below meth c A H locs ls hx hb hr hml hts hown hlocks hin hK hP hD hA hS hl
  have hown : s.vm.findClass RX12 = some m.cls := hown
  have hY := y_X12_wordOf_5_s 
  refine lv_iload_n hx hb dX12_wordOf_0 rfl (lv_at hl 0 rfl) ?_
  refine lv_tableIn (off := 195) (tgt := 196) hx hb dX12_wordOf_1 (by decide) (by decide) (by decide) (by decide) ?_
  refine lv_bipush (v := 111) hx hb dX12_wordOf_196 (by decide) ?_
  refine lv_bipush (v := 110) hx hb dX12_wordOf_198 (by decide) ?_
  refine lv_bipush (v := 101) hx hb dX12_wordOf_200 (by decide) ?_
  refine lv_iconst (v := 0) hx hb dX12_wordOf_202 (by decide) ?_
  refine lv_iconst (v := 0) hx hb dX12_wordOf_203 (by decide) ?_
  refine lv_iconst (v := 0) hx hb dX12_wordOf_204 (by decide) ?_
  refine lv_iconst (v := 0) hx hb dX12_wordOf_205 (by decide) ?_
  refine oC_l (Wc := []) (Wr := []) (va_runS (As := [.int 111, .int 110, .int 101, .int 0, .int 0, .int 0, .int 0]) (rest := []) ⟨hx, hb, hml, hown, hts⟩ (e_X12_spelt_5 l D ca H.size ) (va_cwS 7 hts gX12_wordOf_X12_spelt rfl rfl rfl (by decide +kernel) ⟨Nat.le_of_ble_eq_true rfl, Nat.le_of_ble_eq_true rfl⟩) (oPS hK hP hD [] rfl (by decide)) rfl rfl hl.1 rfl (lv_room (Nat.le_of_ble_eq_true rfl)) dX12_wordOf_206 ⟨Nat.le_of_ble_eq_true rfl, Nat.le_of_ble_eq_true rfl⟩) hP hD hS hA [] [] rfl rfl (by decide) (by decide) (fun r_5 u H locs w_6 hP hD hS => ?_)
  obtain ⟨⟩ := u
  have hP : va_P D vwCl [] H := hP
  have hD : va_D A [] := hD
  try dsimp only at w_6
  obtain ⟨h_7, h_8⟩ := w_6
  subst h_7
  have hY := hY.trans (lt1_e h_8)
  exact oE_l hx hb hr hlocks hP hD hS () [] rfl (by decide) ⟨rfl, hY.symm⟩ (Nat.le_of_ble_eq_true rfl) (Nat.le_of_ble_eq_true rfl) dX12_wordOf_209
set_option maxHeartbeats 4000000 in
set_option maxRecDepth 100000 in
theorem e_X12_wordOf_6 (l : Launch) (D : va_G) (ca : Nat → ClassId) (sz : Nat)   : oMet l yX12_wordOf wsX12_wordOf ({ frames := 1, cells := 0, slots := 0, locals := 28 } : Room) [.int 6] D ca sz [] (oQl D (fun (r : Int64) (u : Unit) => (r = 82775) ∧ (r = y_X12_wordOf_6)) (fun (u : Unit) => [])) 0 0 := by
  refine oM (cc := cX12_wordOf) (maxL := 1) (ret := (some .long)) (by decide) rfl (Nat.le_of_ble_eq_true rfl) [(0, .int 6)] rfl ?_
  intro p e s m below meth c A H locs ls hx hb hr hml hts hown hlocks hin hK hP hD hA hS hl
  have hown : s.vm.findClass RX12 = some m.cls := hown
  have hY := y_X12_wordOf_6_s 
  refine lv_iload_n hx hb dX12_wordOf_0 rfl (lv_at hl 0 rfl) ?_
  refine lv_tableIn (off := 209) (tgt := 210) hx hb dX12_wordOf_1 (by decide) (by decide) (by decide) (by decide) ?_
  refine lv_bipush (v := 100) hx hb dX12_wordOf_210 (by decide) ?_
  refine lv_bipush (v := 101) hx hb dX12_wordOf_212 (by decide) ?_
  refine lv_bipush (v := 110) hx hb dX12_wordOf_214 (by decide) ?_
  refine lv_bipush (v := 116) hx hb dX12_wordOf_216 (by decide) ?_
  refine lv_iconst (v := 0) hx hb dX12_wordOf_218 (by decide) ?_
  refine lv_iconst (v := 0) hx hb dX12_wordOf_219 (by decide) ?_
  refine lv_iconst (v := 0) hx hb dX12_wordOf_220 (by decide) ?_
  refine oC_l (Wc := []) (Wr := []) (va_runS (As := [.int 100, .int 101, .int 110, .int 116, .int 0, .int 0, .int 0]) (rest := []) ⟨hx, hb, hml, hown, hts⟩ (e_X12_spelt_6 l D ca H.size ) (va_cwS 7 hts gX12_wordOf_X12_spelt rfl rfl rfl (by decide +kernel) ⟨Nat.le_of_ble_eq_true rfl, Nat.le_of_ble_eq_true rfl⟩) (oPS hK hP hD [] rfl (by decide)) rfl rfl hl.1 rfl (lv_room (Nat.le_of_ble_eq_true rfl)) dX12_wordOf_221 ⟨Nat.le_of_ble_eq_true rfl, Nat.le_of_ble_eq_true rfl⟩) hP hD hS hA [] [] rfl rfl (by decide) (by decide) (fun r_5 u H locs w_6 hP hD hS => ?_)
  obtain ⟨⟩ := u
  have hP : va_P D vwCl [] H := hP
  have hD : va_D A [] := hD
  try dsimp only at w_6
  obtain ⟨h_7, h_8⟩ := w_6
  subst h_7
  have hY := hY.trans (lt1_e h_8)
  exact oE_l hx hb hr hlocks hP hD hS () [] rfl (by decide) ⟨rfl, hY.symm⟩ (Nat.le_of_ble_eq_true rfl) (Nat.le_of_ble_eq_true rfl) dX12_wordOf_224
set_option maxHeartbeats 4000000 in
set_option maxRecDepth 100000 in
theorem e_X12_wordOf_7 (l : Launch) (D : va_G) (ca : Nat → ClassId) (sz : Nat)   : oMet l yX12_wordOf wsX12_wordOf ({ frames := 1, cells := 0, slots := 0, locals := 28 } : Room) [.int 7] D ca sz [] (oQl D (fun (r : Int64) (u : Unit) => (r = 381097) ∧ (r = y_X12_wordOf_7)) (fun (u : Unit) => [])) 0 0 := by
  refine oM (cc := cX12_wordOf) (maxL := 1) (ret := (some .long)) (by decide) rfl (Nat.le_of_ble_eq_true rfl) [(0, .int 7)] rfl ?_
  intro p e s m below meth c A H locs ls hx hb hr hml hts hown hlocks hin hK hP hD hA hS hl
  have hown : s.vm.findClass RX12 = some m.cls := hown
  have hY := y_X12_wordOf_7_s 
  refine lv_iload_n hx hb dX12_wordOf_0 rfl (lv_at hl 0 rfl) ?_
  refine lv_tableIn (off := 224) (tgt := 225) hx hb dX12_wordOf_1 (by decide) (by decide) (by decide) (by decide) ?_
  refine lv_bipush (v := 115) hx hb dX12_wordOf_225 (by decide) ?_
  refine lv_bipush (v := 105) hx hb dX12_wordOf_227 (by decide) ?_
  refine lv_bipush (v := 116) hx hb dX12_wordOf_229 (by decide) ?_
  refine lv_bipush (v := 115) hx hb dX12_wordOf_231 (by decide) ?_
  refine lv_iconst (v := 0) hx hb dX12_wordOf_233 (by decide) ?_
  refine lv_iconst (v := 0) hx hb dX12_wordOf_234 (by decide) ?_
  refine lv_iconst (v := 0) hx hb dX12_wordOf_235 (by decide) ?_
  refine oC_l (Wc := []) (Wr := []) (va_runS (As := [.int 115, .int 105, .int 116, .int 115, .int 0, .int 0, .int 0]) (rest := []) ⟨hx, hb, hml, hown, hts⟩ (e_X12_spelt_7 l D ca H.size ) (va_cwS 7 hts gX12_wordOf_X12_spelt rfl rfl rfl (by decide +kernel) ⟨Nat.le_of_ble_eq_true rfl, Nat.le_of_ble_eq_true rfl⟩) (oPS hK hP hD [] rfl (by decide)) rfl rfl hl.1 rfl (lv_room (Nat.le_of_ble_eq_true rfl)) dX12_wordOf_236 ⟨Nat.le_of_ble_eq_true rfl, Nat.le_of_ble_eq_true rfl⟩) hP hD hS hA [] [] rfl rfl (by decide) (by decide) (fun r_5 u H locs w_6 hP hD hS => ?_)
  obtain ⟨⟩ := u
  have hP : va_P D vwCl [] H := hP
  have hD : va_D A [] := hD
  try dsimp only at w_6
  obtain ⟨h_7, h_8⟩ := w_6
  subst h_7
  have hY := hY.trans (lt1_e h_8)
  exact oE_l hx hb hr hlocks hP hD hS () [] rfl (by decide) ⟨rfl, hY.symm⟩ (Nat.le_of_ble_eq_true rfl) (Nat.le_of_ble_eq_true rfl) dX12_wordOf_239
set_option maxHeartbeats 4000000 in
set_option maxRecDepth 100000 in
theorem e_X12_wordOf_8 (l : Launch) (D : va_G) (ca : Nat → ClassId) (sz : Nat)   : oMet l yX12_wordOf wsX12_wordOf ({ frames := 1, cells := 0, slots := 0, locals := 28 } : Room) [.int 8] D ca sz [] (oQl D (fun (r : Int64) (u : Unit) => (r = 9757090) ∧ (r = y_X12_wordOf_8)) (fun (u : Unit) => [])) 0 0 := by
  refine oM (cc := cX12_wordOf) (maxL := 1) (ret := (some .long)) (by decide) rfl (Nat.le_of_ble_eq_true rfl) [(0, .int 8)] rfl ?_
  intro p e s m below meth c A H locs ls hx hb hr hml hts hown hlocks hin hK hP hD hA hS hl
  have hown : s.vm.findClass RX12 = some m.cls := hown
  have hY := y_X12_wordOf_8_s 
  refine lv_iload_n hx hb dX12_wordOf_0 rfl (lv_at hl 0 rfl) ?_
  refine lv_tableIn (off := 239) (tgt := 240) hx hb dX12_wordOf_1 (by decide) (by decide) (by decide) (by decide) ?_
  refine lv_bipush (v := 114) hx hb dX12_wordOf_240 (by decide) ?_
  refine lv_bipush (v := 105) hx hb dX12_wordOf_242 (by decide) ?_
  refine lv_bipush (v := 115) hx hb dX12_wordOf_244 (by decide) ?_
  refine lv_bipush (v := 101) hx hb dX12_wordOf_246 (by decide) ?_
  refine lv_bipush (v := 115) hx hb dX12_wordOf_248 (by decide) ?_
  refine lv_iconst (v := 0) hx hb dX12_wordOf_250 (by decide) ?_
  refine lv_iconst (v := 0) hx hb dX12_wordOf_251 (by decide) ?_
  refine oC_l (Wc := []) (Wr := []) (va_runS (As := [.int 114, .int 105, .int 115, .int 101, .int 115, .int 0, .int 0]) (rest := []) ⟨hx, hb, hml, hown, hts⟩ (e_X12_spelt_8 l D ca H.size ) (va_cwS 7 hts gX12_wordOf_X12_spelt rfl rfl rfl (by decide +kernel) ⟨Nat.le_of_ble_eq_true rfl, Nat.le_of_ble_eq_true rfl⟩) (oPS hK hP hD [] rfl (by decide)) rfl rfl hl.1 rfl (lv_room (Nat.le_of_ble_eq_true rfl)) dX12_wordOf_252 ⟨Nat.le_of_ble_eq_true rfl, Nat.le_of_ble_eq_true rfl⟩) hP hD hS hA [] [] rfl rfl (by decide) (by decide) (fun r_5 u H locs w_6 hP hD hS => ?_)
  obtain ⟨⟩ := u
  have hP : va_P D vwCl [] H := hP
  have hD : va_D A [] := hD
  try dsimp only at w_6
  obtain ⟨h_7, h_8⟩ := w_6
  subst h_7
  have hY := hY.trans (lt1_e h_8)
  exact oE_l hx hb hr hlocks hP hD hS () [] rfl (by decide) ⟨rfl, hY.symm⟩ (Nat.le_of_ble_eq_true rfl) (Nat.le_of_ble_eq_true rfl) dX12_wordOf_255
set_option maxHeartbeats 4000000 in
set_option maxRecDepth 100000 in
theorem e_X12_wordOf_9 (l : Launch) (D : va_G) (ca : Nat → ClassId) (sz : Nat)   : oMet l yX12_wordOf wsX12_wordOf ({ frames := 1, cells := 0, slots := 0, locals := 28 } : Room) [.int 9] D ca sz [] (oQl D (fun (r : Int64) (u : Unit) => (r = 4555648) ∧ (r = y_X12_wordOf_9)) (fun (u : Unit) => [])) 0 0 := by
  refine oM (cc := cX12_wordOf) (maxL := 1) (ret := (some .long)) (by decide) rfl (Nat.le_of_ble_eq_true rfl) [(0, .int 9)] rfl ?_
  intro p e s m below meth c A H locs ls hx hb hr hml hts hown hlocks hin hK hP hD hA hS hl
  have hown : s.vm.findClass RX12 = some m.cls := hown
  have hY := y_X12_wordOf_9_s 
  refine lv_iload_n hx hb dX12_wordOf_0 rfl (lv_at hl 0 rfl) ?_
  refine lv_tableIn (off := 255) (tgt := 256) hx hb dX12_wordOf_1 (by decide) (by decide) (by decide) (by decide) ?_
  refine lv_bipush (v := 104) hx hb dX12_wordOf_256 (by decide) ?_
  refine lv_bipush (v := 111) hx hb dX12_wordOf_258 (by decide) ?_
  refine lv_bipush (v := 108) hx hb dX12_wordOf_260 (by decide) ?_
  refine lv_bipush (v := 100) hx hb dX12_wordOf_262 (by decide) ?_
  refine lv_bipush (v := 115) hx hb dX12_wordOf_264 (by decide) ?_
  refine lv_iconst (v := 0) hx hb dX12_wordOf_266 (by decide) ?_
  refine lv_iconst (v := 0) hx hb dX12_wordOf_267 (by decide) ?_
  refine oC_l (Wc := []) (Wr := []) (va_runS (As := [.int 104, .int 111, .int 108, .int 100, .int 115, .int 0, .int 0]) (rest := []) ⟨hx, hb, hml, hown, hts⟩ (e_X12_spelt_9 l D ca H.size ) (va_cwS 7 hts gX12_wordOf_X12_spelt rfl rfl rfl (by decide +kernel) ⟨Nat.le_of_ble_eq_true rfl, Nat.le_of_ble_eq_true rfl⟩) (oPS hK hP hD [] rfl (by decide)) rfl rfl hl.1 rfl (lv_room (Nat.le_of_ble_eq_true rfl)) dX12_wordOf_268 ⟨Nat.le_of_ble_eq_true rfl, Nat.le_of_ble_eq_true rfl⟩) hP hD hS hA [] [] rfl rfl (by decide) (by decide) (fun r_5 u H locs w_6 hP hD hS => ?_)
  obtain ⟨⟩ := u
  have hP : va_P D vwCl [] H := hP
  have hD : va_D A [] := hD
  try dsimp only at w_6
  obtain ⟨h_7, h_8⟩ := w_6
  subst h_7
  have hY := hY.trans (lt1_e h_8)
  exact oE_l hx hb hr hlocks hP hD hS () [] rfl (by decide) ⟨rfl, hY.symm⟩ (Nat.le_of_ble_eq_true rfl) (Nat.le_of_ble_eq_true rfl) dX12_wordOf_271
set_option maxHeartbeats 4000000 in
set_option maxRecDepth 100000 in
theorem e_X12_wordOf_10 (l : Launch) (D : va_G) (ca : Nat → ClassId) (sz : Nat)   : oMet l yX12_wordOf wsX12_wordOf ({ frames := 1, cells := 0, slots := 0, locals := 28 } : Room) [.int 10] D ca sz [] (oQl D (fun (r : Int64) (u : Unit) => (r = 2491444) ∧ (r = y_X12_wordOf_10)) (fun (u : Unit) => [])) 0 0 := by
  refine oM (cc := cX12_wordOf) (maxL := 1) (ret := (some .long)) (by decide) rfl (Nat.le_of_ble_eq_true rfl) [(0, .int 10)] rfl ?_
  intro p e s m below meth c A H locs ls hx hb hr hml hts hown hlocks hin hK hP hD hA hS hl
  have hown : s.vm.findClass RX12 = some m.cls := hown
  have hY := y_X12_wordOf_10_s 
  refine lv_iload_n hx hb dX12_wordOf_0 rfl (lv_at hl 0 rfl) ?_
  refine lv_tableIn (off := 271) (tgt := 272) hx hb dX12_wordOf_1 (by decide) (by decide) (by decide) (by decide) ?_
  refine lv_bipush (v := 100) hx hb dX12_wordOf_272 (by decide) ?_
  refine lv_bipush (v := 114) hx hb dX12_wordOf_274 (by decide) ?_
  refine lv_bipush (v := 111) hx hb dX12_wordOf_276 (by decide) ?_
  refine lv_bipush (v := 112) hx hb dX12_wordOf_278 (by decide) ?_
  refine lv_bipush (v := 115) hx hb dX12_wordOf_280 (by decide) ?_
  refine lv_iconst (v := 0) hx hb dX12_wordOf_282 (by decide) ?_
  refine lv_iconst (v := 0) hx hb dX12_wordOf_283 (by decide) ?_
  refine oC_l (Wc := []) (Wr := []) (va_runS (As := [.int 100, .int 114, .int 111, .int 112, .int 115, .int 0, .int 0]) (rest := []) ⟨hx, hb, hml, hown, hts⟩ (e_X12_spelt_10 l D ca H.size ) (va_cwS 7 hts gX12_wordOf_X12_spelt rfl rfl rfl (by decide +kernel) ⟨Nat.le_of_ble_eq_true rfl, Nat.le_of_ble_eq_true rfl⟩) (oPS hK hP hD [] rfl (by decide)) rfl rfl hl.1 rfl (lv_room (Nat.le_of_ble_eq_true rfl)) dX12_wordOf_284 ⟨Nat.le_of_ble_eq_true rfl, Nat.le_of_ble_eq_true rfl⟩) hP hD hS hA [] [] rfl rfl (by decide) (by decide) (fun r_5 u H locs w_6 hP hD hS => ?_)
  obtain ⟨⟩ := u
  have hP : va_P D vwCl [] H := hP
  have hD : va_D A [] := hD
  try dsimp only at w_6
  obtain ⟨h_7, h_8⟩ := w_6
  subst h_7
  have hY := hY.trans (lt1_e h_8)
  exact oE_l hx hb hr hlocks hP hD hS () [] rfl (by decide) ⟨rfl, hY.symm⟩ (Nat.le_of_ble_eq_true rfl) (Nat.le_of_ble_eq_true rfl) dX12_wordOf_287
set_option maxHeartbeats 4000000 in
set_option maxRecDepth 100000 in
theorem e_X12_wordOf_11 (l : Launch) (D : va_G) (ca : Nat → ClassId) (sz : Nat)   : oMet l yX12_wordOf wsX12_wordOf ({ frames := 1, cells := 0, slots := 0, locals := 28 } : Room) [.int 11] D ca sz [] (oQl D (fun (r : Int64) (u : Unit) => (r = 31389431) ∧ (r = y_X12_wordOf_11)) (fun (u : Unit) => [])) 0 0 := by
  refine oM (cc := cX12_wordOf) (maxL := 1) (ret := (some .long)) (by decide) rfl (Nat.le_of_ble_eq_true rfl) [(0, .int 11)] rfl ?_
  intro p e s m below meth c A H locs ls hx hb hr hml hts hown hlocks hin hK hP hD hA hS hl
  have hown : s.vm.findClass RX12 = some m.cls := hown
  have hY := y_X12_wordOf_11_s 
  refine lv_iload_n hx hb dX12_wordOf_0 rfl (lv_at hl 0 rfl) ?_
  refine lv_tableIn (off := 287) (tgt := 288) hx hb dX12_wordOf_1 (by decide) (by decide) (by decide) (by decide) ?_
  refine lv_bipush (v := 98) hx hb dX12_wordOf_288 (by decide) ?_
  refine lv_bipush (v := 101) hx hb dX12_wordOf_290 (by decide) ?_
  refine lv_bipush (v := 97) hx hb dX12_wordOf_292 (by decide) ?_
  refine lv_bipush (v := 116) hx hb dX12_wordOf_294 (by decide) ?_
  refine lv_bipush (v := 101) hx hb dX12_wordOf_296 (by decide) ?_
  refine lv_bipush (v := 110) hx hb dX12_wordOf_298 (by decide) ?_
  refine lv_iconst (v := 0) hx hb dX12_wordOf_300 (by decide) ?_
  refine oC_l (Wc := []) (Wr := []) (va_runS (As := [.int 98, .int 101, .int 97, .int 116, .int 101, .int 110, .int 0]) (rest := []) ⟨hx, hb, hml, hown, hts⟩ (e_X12_spelt_11 l D ca H.size ) (va_cwS 7 hts gX12_wordOf_X12_spelt rfl rfl rfl (by decide +kernel) ⟨Nat.le_of_ble_eq_true rfl, Nat.le_of_ble_eq_true rfl⟩) (oPS hK hP hD [] rfl (by decide)) rfl rfl hl.1 rfl (lv_room (Nat.le_of_ble_eq_true rfl)) dX12_wordOf_301 ⟨Nat.le_of_ble_eq_true rfl, Nat.le_of_ble_eq_true rfl⟩) hP hD hS hA [] [] rfl rfl (by decide) (by decide) (fun r_5 u H locs w_6 hP hD hS => ?_)
  obtain ⟨⟩ := u
  have hP : va_P D vwCl [] H := hP
  have hD : va_D A [] := hD
  try dsimp only at w_6
  obtain ⟨h_7, h_8⟩ := w_6
  subst h_7
  have hY := hY.trans (lt1_e h_8)
  exact oE_l hx hb hr hlocks hP hD hS () [] rfl (by decide) ⟨rfl, hY.symm⟩ (Nat.le_of_ble_eq_true rfl) (Nat.le_of_ble_eq_true rfl) dX12_wordOf_304
set_option maxHeartbeats 4000000 in
set_option maxRecDepth 100000 in
theorem e_X12_wordOf_12 (l : Launch) (D : va_G) (ca : Nat → ClassId) (sz : Nat)   : oMet l yX12_wordOf wsX12_wordOf ({ frames := 1, cells := 0, slots := 0, locals := 28 } : Room) [.int 12] D ca sz [] (oQl D (fun (r : Int64) (u : Unit) => (r = 15091) ∧ (r = y_X12_wordOf_12)) (fun (u : Unit) => [])) 0 0 := by
  refine oM (cc := cX12_wordOf) (maxL := 1) (ret := (some .long)) (by decide) rfl (Nat.le_of_ble_eq_true rfl) [(0, .int 12)] rfl ?_
  intro p e s m below meth c A H locs ls hx hb hr hml hts hown hlocks hin hK hP hD hA hS hl
  have hown : s.vm.findClass RX12 = some m.cls := hown
  have hY := y_X12_wordOf_12_s 
  refine lv_iload_n hx hb dX12_wordOf_0 rfl (lv_at hl 0 rfl) ?_
  refine lv_tableIn (off := 304) (tgt := 305) hx hb dX12_wordOf_1 (by decide) (by decide) (by decide) (by decide) ?_
  refine lv_bipush (v := 116) hx hb dX12_wordOf_305 (by decide) ?_
  refine lv_bipush (v := 114) hx hb dX12_wordOf_307 (by decide) ?_
  refine lv_bipush (v := 121) hx hb dX12_wordOf_309 (by decide) ?_
  refine lv_iconst (v := 0) hx hb dX12_wordOf_311 (by decide) ?_
  refine lv_iconst (v := 0) hx hb dX12_wordOf_312 (by decide) ?_
  refine lv_iconst (v := 0) hx hb dX12_wordOf_313 (by decide) ?_
  refine lv_iconst (v := 0) hx hb dX12_wordOf_314 (by decide) ?_
  refine oC_l (Wc := []) (Wr := []) (va_runS (As := [.int 116, .int 114, .int 121, .int 0, .int 0, .int 0, .int 0]) (rest := []) ⟨hx, hb, hml, hown, hts⟩ (e_X12_spelt_12 l D ca H.size ) (va_cwS 7 hts gX12_wordOf_X12_spelt rfl rfl rfl (by decide +kernel) ⟨Nat.le_of_ble_eq_true rfl, Nat.le_of_ble_eq_true rfl⟩) (oPS hK hP hD [] rfl (by decide)) rfl rfl hl.1 rfl (lv_room (Nat.le_of_ble_eq_true rfl)) dX12_wordOf_315 ⟨Nat.le_of_ble_eq_true rfl, Nat.le_of_ble_eq_true rfl⟩) hP hD hS hA [] [] rfl rfl (by decide) (by decide) (fun r_5 u H locs w_6 hP hD hS => ?_)
  obtain ⟨⟩ := u
  have hP : va_P D vwCl [] H := hP
  have hD : va_D A [] := hD
  try dsimp only at w_6
  obtain ⟨h_7, h_8⟩ := w_6
  subst h_7
  have hY := hY.trans (lt1_e h_8)
  exact oE_l hx hb hr hlocks hP hD hS () [] rfl (by decide) ⟨rfl, hY.symm⟩ (Nat.le_of_ble_eq_true rfl) (Nat.le_of_ble_eq_true rfl) dX12_wordOf_318
set_option maxHeartbeats 4000000 in
set_option maxRecDepth 100000 in
theorem e_X12_wordOf_13 (l : Launch) (D : va_G) (ca : Nat → ClassId) (sz : Nat)   : oMet l yX12_wordOf wsX12_wordOf ({ frames := 1, cells := 0, slots := 0, locals := 28 } : Room) [.int 13] D ca sz [] (oQl D (fun (r : Int64) (u : Unit) => (r = 23170575) ∧ (r = y_X12_wordOf_13)) (fun (u : Unit) => [])) 0 0 := by
  refine oM (cc := cX12_wordOf) (maxL := 1) (ret := (some .long)) (by decide) rfl (Nat.le_of_ble_eq_true rfl) [(0, .int 13)] rfl ?_
  intro p e s m below meth c A H locs ls hx hb hr hml hts hown hlocks hin hK hP hD hA hS hl
  have hown : s.vm.findClass RX12 = some m.cls := hown
  have hY := y_X12_wordOf_13_s 
  refine lv_iload_n hx hb dX12_wordOf_0 rfl (lv_at hl 0 rfl) ?_
  refine lv_tableIn (off := 318) (tgt := 319) hx hb dX12_wordOf_1 (by decide) (by decide) (by decide) (by decide) ?_
  refine lv_bipush (v := 97) hx hb dX12_wordOf_319 (by decide) ?_
  refine lv_bipush (v := 112) hx hb dX12_wordOf_321 (by decide) ?_
  refine lv_bipush (v := 112) hx hb dX12_wordOf_323 (by decide) ?_
  refine lv_bipush (v := 101) hx hb dX12_wordOf_325 (by decide) ?_
  refine lv_bipush (v := 97) hx hb dX12_wordOf_327 (by decide) ?_
  refine lv_bipush (v := 108) hx hb dX12_wordOf_329 (by decide) ?_
  refine lv_iconst (v := 0) hx hb dX12_wordOf_331 (by decide) ?_
  refine oC_l (Wc := []) (Wr := []) (va_runS (As := [.int 97, .int 112, .int 112, .int 101, .int 97, .int 108, .int 0]) (rest := []) ⟨hx, hb, hml, hown, hts⟩ (e_X12_spelt_13 l D ca H.size ) (va_cwS 7 hts gX12_wordOf_X12_spelt rfl rfl rfl (by decide +kernel) ⟨Nat.le_of_ble_eq_true rfl, Nat.le_of_ble_eq_true rfl⟩) (oPS hK hP hD [] rfl (by decide)) rfl rfl hl.1 rfl (lv_room (Nat.le_of_ble_eq_true rfl)) dX12_wordOf_332 ⟨Nat.le_of_ble_eq_true rfl, Nat.le_of_ble_eq_true rfl⟩) hP hD hS hA [] [] rfl rfl (by decide) (by decide) (fun r_5 u H locs w_6 hP hD hS => ?_)
  obtain ⟨⟩ := u
  have hP : va_P D vwCl [] H := hP
  have hD : va_D A [] := hD
  try dsimp only at w_6
  obtain ⟨h_7, h_8⟩ := w_6
  subst h_7
  have hY := hY.trans (lt1_e h_8)
  exact oE_l hx hb hr hlocks hP hD hS () [] rfl (by decide) ⟨rfl, hY.symm⟩ (Nat.le_of_ble_eq_true rfl) (Nat.le_of_ble_eq_true rfl) dX12_wordOf_335
set_option maxHeartbeats 4000000 in
set_option maxRecDepth 100000 in
theorem e_X12_wordOf_14 (l : Launch) (D : va_G) (ca : Nat → ClassId) (sz : Nat)   : oMet l yX12_wordOf wsX12_wordOf ({ frames := 1, cells := 0, slots := 0, locals := 28 } : Room) [.int 14] D ca sz [] (oQl D (fun (r : Int64) (u : Unit) => (r = 2968) ∧ (r = y_X12_wordOf_14)) (fun (u : Unit) => [])) 0 0 := by
  refine oM (cc := cX12_wordOf) (maxL := 1) (ret := (some .long)) (by decide) rfl (Nat.le_of_ble_eq_true rfl) [(0, .int 14)] rfl ?_
  intro p e s m below meth c A H locs ls hx hb hr hml hts hown hlocks hin hK hP hD hA hS hl
  have hown : s.vm.findClass RX12 = some m.cls := hown
  have hY := y_X12_wordOf_14_s 
  refine lv_iload_n hx hb dX12_wordOf_0 rfl (lv_at hl 0 rfl) ?_
  refine lv_tableIn (off := 335) (tgt := 336) hx hb dX12_wordOf_1 (by decide) (by decide) (by decide) (by decide) ?_
  refine lv_bipush (v := 100) hx hb dX12_wordOf_336 (by decide) ?_
  refine lv_bipush (v := 97) hx hb dX12_wordOf_338 (by decide) ?_
  refine lv_bipush (v := 121) hx hb dX12_wordOf_340 (by decide) ?_
  refine lv_iconst (v := 0) hx hb dX12_wordOf_342 (by decide) ?_
  refine lv_iconst (v := 0) hx hb dX12_wordOf_343 (by decide) ?_
  refine lv_iconst (v := 0) hx hb dX12_wordOf_344 (by decide) ?_
  refine lv_iconst (v := 0) hx hb dX12_wordOf_345 (by decide) ?_
  refine oC_l (Wc := []) (Wr := []) (va_runS (As := [.int 100, .int 97, .int 121, .int 0, .int 0, .int 0, .int 0]) (rest := []) ⟨hx, hb, hml, hown, hts⟩ (e_X12_spelt_14 l D ca H.size ) (va_cwS 7 hts gX12_wordOf_X12_spelt rfl rfl rfl (by decide +kernel) ⟨Nat.le_of_ble_eq_true rfl, Nat.le_of_ble_eq_true rfl⟩) (oPS hK hP hD [] rfl (by decide)) rfl rfl hl.1 rfl (lv_room (Nat.le_of_ble_eq_true rfl)) dX12_wordOf_346 ⟨Nat.le_of_ble_eq_true rfl, Nat.le_of_ble_eq_true rfl⟩) hP hD hS hA [] [] rfl rfl (by decide) (by decide) (fun r_5 u H locs w_6 hP hD hS => ?_)
  obtain ⟨⟩ := u
  have hP : va_P D vwCl [] H := hP
  have hD : va_D A [] := hD
  try dsimp only at w_6
  obtain ⟨h_7, h_8⟩ := w_6
  subst h_7
  have hY := hY.trans (lt1_e h_8)
  exact oE_l hx hb hr hlocks hP hD hS () [] rfl (by decide) ⟨rfl, hY.symm⟩ (Nat.le_of_ble_eq_true rfl) (Nat.le_of_ble_eq_true rfl) dX12_wordOf_349
set_option maxHeartbeats 4000000 in
set_option maxRecDepth 100000 in
theorem e_X12_wordOf_15 (l : Launch) (D : va_G) (ca : Nat → ClassId) (sz : Nat)   : oMet l yX12_wordOf wsX12_wordOf ({ frames := 1, cells := 0, slots := 0, locals := 28 } : Room) [.int 15] D ca sz [] (oQl D (fun (r : Int64) (u : Unit) => (r = 423) ∧ (r = y_X12_wordOf_15)) (fun (u : Unit) => [])) 0 0 := by
  refine oM (cc := cX12_wordOf) (maxL := 1) (ret := (some .long)) (by decide) rfl (Nat.le_of_ble_eq_true rfl) [(0, .int 15)] rfl ?_
  intro p e s m below meth c A H locs ls hx hb hr hml hts hown hlocks hin hK hP hD hA hS hl
  have hown : s.vm.findClass RX12 = some m.cls := hown
  have hY := y_X12_wordOf_15_s 
  refine lv_iload_n hx hb dX12_wordOf_0 rfl (lv_at hl 0 rfl) ?_
  refine lv_tableIn (off := 349) (tgt := 350) hx hb dX12_wordOf_1 (by decide) (by decide) (by decide) (by decide) ?_
  refine lv_bipush (v := 111) hx hb dX12_wordOf_350 (by decide) ?_
  refine lv_bipush (v := 114) hx hb dX12_wordOf_352 (by decide) ?_
  refine lv_iconst (v := 0) hx hb dX12_wordOf_354 (by decide) ?_
  refine lv_iconst (v := 0) hx hb dX12_wordOf_355 (by decide) ?_
  refine lv_iconst (v := 0) hx hb dX12_wordOf_356 (by decide) ?_
  refine lv_iconst (v := 0) hx hb dX12_wordOf_357 (by decide) ?_
  refine lv_iconst (v := 0) hx hb dX12_wordOf_358 (by decide) ?_
  refine oC_l (Wc := []) (Wr := []) (va_runS (As := [.int 111, .int 114, .int 0, .int 0, .int 0, .int 0, .int 0]) (rest := []) ⟨hx, hb, hml, hown, hts⟩ (e_X12_spelt_15 l D ca H.size ) (va_cwS 7 hts gX12_wordOf_X12_spelt rfl rfl rfl (by decide +kernel) ⟨Nat.le_of_ble_eq_true rfl, Nat.le_of_ble_eq_true rfl⟩) (oPS hK hP hD [] rfl (by decide)) rfl rfl hl.1 rfl (lv_room (Nat.le_of_ble_eq_true rfl)) dX12_wordOf_359 ⟨Nat.le_of_ble_eq_true rfl, Nat.le_of_ble_eq_true rfl⟩) hP hD hS hA [] [] rfl rfl (by decide) (by decide) (fun r_5 u H locs w_6 hP hD hS => ?_)
  obtain ⟨⟩ := u
  have hP : va_P D vwCl [] H := hP
  have hD : va_D A [] := hD
  try dsimp only at w_6
  obtain ⟨h_7, h_8⟩ := w_6
  subst h_7
  have hY := hY.trans (lt1_e h_8)
  exact oE_l hx hb hr hlocks hP hD hS () [] rfl (by decide) ⟨rfl, hY.symm⟩ (Nat.le_of_ble_eq_true rfl) (Nat.le_of_ble_eq_true rfl) dX12_wordOf_362
set_option maxHeartbeats 4000000 in
set_option maxRecDepth 100000 in
theorem e_X12_wordOf_16 (l : Launch) (D : va_G) (ca : Nat → ClassId) (sz : Nat)   : oMet l yX12_wordOf wsX12_wordOf ({ frames := 1, cells := 0, slots := 0, locals := 28 } : Room) [.int 16] D ca sz [] (oQl D (fun (r : Int64) (u : Unit) => (r = 1111) ∧ (r = y_X12_wordOf_16)) (fun (u : Unit) => [])) 0 0 := by
  refine oM (cc := cX12_wordOf) (maxL := 1) (ret := (some .long)) (by decide) rfl (Nat.le_of_ble_eq_true rfl) [(0, .int 16)] rfl ?_
  intro p e s m below meth c A H locs ls hx hb hr hml hts hown hlocks hin hK hP hD hA hS hl
  have hown : s.vm.findClass RX12 = some m.cls := hown
  have hY := y_X12_wordOf_16_s 
  refine lv_iload_n hx hb dX12_wordOf_0 rfl (lv_at hl 0 rfl) ?_
  refine lv_tableIn (off := 362) (tgt := 363) hx hb dX12_wordOf_1 (by decide) (by decide) (by decide) (by decide) ?_
  refine lv_bipush (v := 97) hx hb dX12_wordOf_363 (by decide) ?_
  refine lv_bipush (v := 110) hx hb dX12_wordOf_365 (by decide) ?_
  refine lv_bipush (v := 100) hx hb dX12_wordOf_367 (by decide) ?_
  refine lv_iconst (v := 0) hx hb dX12_wordOf_369 (by decide) ?_
  refine lv_iconst (v := 0) hx hb dX12_wordOf_370 (by decide) ?_
  refine lv_iconst (v := 0) hx hb dX12_wordOf_371 (by decide) ?_
  refine lv_iconst (v := 0) hx hb dX12_wordOf_372 (by decide) ?_
  refine oC_l (Wc := []) (Wr := []) (va_runS (As := [.int 97, .int 110, .int 100, .int 0, .int 0, .int 0, .int 0]) (rest := []) ⟨hx, hb, hml, hown, hts⟩ (e_X12_spelt_16 l D ca H.size ) (va_cwS 7 hts gX12_wordOf_X12_spelt rfl rfl rfl (by decide +kernel) ⟨Nat.le_of_ble_eq_true rfl, Nat.le_of_ble_eq_true rfl⟩) (oPS hK hP hD [] rfl (by decide)) rfl rfl hl.1 rfl (lv_room (Nat.le_of_ble_eq_true rfl)) dX12_wordOf_373 ⟨Nat.le_of_ble_eq_true rfl, Nat.le_of_ble_eq_true rfl⟩) hP hD hS hA [] [] rfl rfl (by decide) (by decide) (fun r_5 u H locs w_6 hP hD hS => ?_)
  obtain ⟨⟩ := u
  have hP : va_P D vwCl [] H := hP
  have hD : va_D A [] := hD
  try dsimp only at w_6
  obtain ⟨h_7, h_8⟩ := w_6
  subst h_7
  have hY := hY.trans (lt1_e h_8)
  exact oE_l hx hb hr hlocks hP hD hS () [] rfl (by decide) ⟨rfl, hY.symm⟩ (Nat.le_of_ble_eq_true rfl) (Nat.le_of_ble_eq_true rfl) dX12_wordOf_376
set_option maxHeartbeats 4000000 in
set_option maxRecDepth 100000 in
theorem e_X12_wordOf_17 (l : Launch) (D : va_G) (ca : Nat → ClassId) (sz : Nat)   : oMet l yX12_wordOf wsX12_wordOf ({ frames := 1, cells := 0, slots := 0, locals := 28 } : Room) [.int 17] D ca sz [] (oQl D (fun (r : Int64) (u : Unit) => (r = 10631) ∧ (r = y_X12_wordOf_17)) (fun (u : Unit) => [])) 0 0 := by
  refine oM (cc := cX12_wordOf) (maxL := 1) (ret := (some .long)) (by decide) rfl (Nat.le_of_ble_eq_true rfl) [(0, .int 17)] rfl ?_
  intro p e s m below meth c A H locs ls hx hb hr hml hts hown hlocks hin hK hP hD hA hS hl
  have hown : s.vm.findClass RX12 = some m.cls := hown
  have hY := y_X12_wordOf_17_s 
  refine lv_iload_n hx hb dX12_wordOf_0 rfl (lv_at hl 0 rfl) ?_
  refine lv_tableIn (off := 376) (tgt := 377) hx hb dX12_wordOf_1 (by decide) (by decide) (by decide) (by decide) ?_
  refine lv_bipush (v := 110) hx hb dX12_wordOf_377 (by decide) ?_
  refine lv_bipush (v := 111) hx hb dX12_wordOf_379 (by decide) ?_
  refine lv_bipush (v := 116) hx hb dX12_wordOf_381 (by decide) ?_
  refine lv_iconst (v := 0) hx hb dX12_wordOf_383 (by decide) ?_
  refine lv_iconst (v := 0) hx hb dX12_wordOf_384 (by decide) ?_
  refine lv_iconst (v := 0) hx hb dX12_wordOf_385 (by decide) ?_
  refine lv_iconst (v := 0) hx hb dX12_wordOf_386 (by decide) ?_
  refine oC_l (Wc := []) (Wr := []) (va_runS (As := [.int 110, .int 111, .int 116, .int 0, .int 0, .int 0, .int 0]) (rest := []) ⟨hx, hb, hml, hown, hts⟩ (e_X12_spelt_17 l D ca H.size ) (va_cwS 7 hts gX12_wordOf_X12_spelt rfl rfl rfl (by decide +kernel) ⟨Nat.le_of_ble_eq_true rfl, Nat.le_of_ble_eq_true rfl⟩) (oPS hK hP hD [] rfl (by decide)) rfl rfl hl.1 rfl (lv_room (Nat.le_of_ble_eq_true rfl)) dX12_wordOf_387 ⟨Nat.le_of_ble_eq_true rfl, Nat.le_of_ble_eq_true rfl⟩) hP hD hS hA [] [] rfl rfl (by decide) (by decide) (fun r_5 u H locs w_6 hP hD hS => ?_)
  obtain ⟨⟩ := u
  have hP : va_P D vwCl [] H := hP
  have hD : va_D A [] := hD
  try dsimp only at w_6
  obtain ⟨h_7, h_8⟩ := w_6
  subst h_7
  have hY := hY.trans (lt1_e h_8)
  exact oE_l hx hb hr hlocks hP hD hS () [] rfl (by decide) ⟨rfl, hY.symm⟩ (Nat.le_of_ble_eq_true rfl) (Nat.le_of_ble_eq_true rfl) dX12_wordOf_390
set_option maxHeartbeats 4000000 in
set_option maxRecDepth 100000 in
theorem e_X12_wordOf_18 (l : Launch) (D : va_G) (ca : Nat → ClassId) (sz : Nat)   : oMet l yX12_wordOf wsX12_wordOf ({ frames := 1, cells := 0, slots := 0, locals := 28 } : Room) [.int 18] D ca sz [] (oQl D (fun (r : Int64) (u : Unit) => (r = 7501158880) ∧ (r = y_X12_wordOf_18)) (fun (u : Unit) => [])) 0 0 := by
  refine oM (cc := cX12_wordOf) (maxL := 1) (ret := (some .long)) (by decide) rfl (Nat.le_of_ble_eq_true rfl) [(0, .int 18)] rfl ?_
  intro p e s m below meth c A H locs ls hx hb hr hml hts hown hlocks hin hK hP hD hA hS hl
  have hown : s.vm.findClass RX12 = some m.cls := hown
  have hY := y_X12_wordOf_18_s 
  refine lv_iload_n hx hb dX12_wordOf_0 rfl (lv_at hl 0 rfl) ?_
  refine lv_tableIn (off := 390) (tgt := 391) hx hb dX12_wordOf_1 (by decide) (by decide) (by decide) (by decide) ?_
  refine lv_bipush (v := 115) hx hb dX12_wordOf_391 (by decide) ?_
  refine lv_bipush (v := 105) hx hb dX12_wordOf_393 (by decide) ?_
  refine lv_bipush (v := 116) hx hb dX12_wordOf_395 (by decide) ?_
  refine lv_bipush (v := 116) hx hb dX12_wordOf_397 (by decide) ?_
  refine lv_bipush (v := 105) hx hb dX12_wordOf_399 (by decide) ?_
  refine lv_bipush (v := 110) hx hb dX12_wordOf_401 (by decide) ?_
  refine lv_bipush (v := 103) hx hb dX12_wordOf_403 (by decide) ?_
  refine oC_l (Wc := []) (Wr := []) (va_runS (As := [.int 115, .int 105, .int 116, .int 116, .int 105, .int 110, .int 103]) (rest := []) ⟨hx, hb, hml, hown, hts⟩ (e_X12_spelt_18 l D ca H.size ) (va_cwS 7 hts gX12_wordOf_X12_spelt rfl rfl rfl (by decide +kernel) ⟨Nat.le_of_ble_eq_true rfl, Nat.le_of_ble_eq_true rfl⟩) (oPS hK hP hD [] rfl (by decide)) rfl rfl hl.1 rfl (lv_room (Nat.le_of_ble_eq_true rfl)) dX12_wordOf_405 ⟨Nat.le_of_ble_eq_true rfl, Nat.le_of_ble_eq_true rfl⟩) hP hD hS hA [] [] rfl rfl (by decide) (by decide) (fun r_5 u H locs w_6 hP hD hS => ?_)
  obtain ⟨⟩ := u
  have hP : va_P D vwCl [] H := hP
  have hD : va_D A [] := hD
  try dsimp only at w_6
  obtain ⟨h_7, h_8⟩ := w_6
  subst h_7
  have hY := hY.trans (lt1_e h_8)
  exact oE_l hx hb hr hlocks hP hD hS () [] rfl (by decide) ⟨rfl, hY.symm⟩ (Nat.le_of_ble_eq_true rfl) (Nat.le_of_ble_eq_true rfl) dX12_wordOf_408
set_option maxHeartbeats 4000000 in
set_option maxRecDepth 100000 in
theorem e_X12_wordOf_19 (l : Launch) (D : va_G) (ca : Nat → ClassId) (sz : Nat)   : oMet l yX12_wordOf wsX12_wordOf ({ frames := 1, cells := 0, slots := 0, locals := 28 } : Room) [.int 19] D ca sz [] (oQl D (fun (r : Int64) (u : Unit) => (r = 3321060487) ∧ (r = y_X12_wordOf_19)) (fun (u : Unit) => [])) 0 0 := by
  refine oM (cc := cX12_wordOf) (maxL := 1) (ret := (some .long)) (by decide) rfl (Nat.le_of_ble_eq_true rfl) [(0, .int 19)] rfl ?_
  intro p e s m below meth c A H locs ls hx hb hr hml hts hown hlocks hin hK hP hD hA hS hl
  have hown : s.vm.findClass RX12 = some m.cls := hown
  have hY := y_X12_wordOf_19_s 
  refine lv_iload_n hx hb dX12_wordOf_0 rfl (lv_at hl 0 rfl) ?_
  refine lv_tableIn (off := 408) (tgt := 409) hx hb dX12_wordOf_1 (by decide) (by decide) (by decide) (by decide) ?_
  refine lv_bipush (v := 104) hx hb dX12_wordOf_409 (by decide) ?_
  refine lv_bipush (v := 111) hx hb dX12_wordOf_411 (by decide) ?_
  refine lv_bipush (v := 108) hx hb dX12_wordOf_413 (by decide) ?_
  refine lv_bipush (v := 100) hx hb dX12_wordOf_415 (by decide) ?_
  refine lv_bipush (v := 105) hx hb dX12_wordOf_417 (by decide) ?_
  refine lv_bipush (v := 110) hx hb dX12_wordOf_419 (by decide) ?_
  refine lv_bipush (v := 103) hx hb dX12_wordOf_421 (by decide) ?_
  refine oC_l (Wc := []) (Wr := []) (va_runS (As := [.int 104, .int 111, .int 108, .int 100, .int 105, .int 110, .int 103]) (rest := []) ⟨hx, hb, hml, hown, hts⟩ (e_X12_spelt_19 l D ca H.size ) (va_cwS 7 hts gX12_wordOf_X12_spelt rfl rfl rfl (by decide +kernel) ⟨Nat.le_of_ble_eq_true rfl, Nat.le_of_ble_eq_true rfl⟩) (oPS hK hP hD [] rfl (by decide)) rfl rfl hl.1 rfl (lv_room (Nat.le_of_ble_eq_true rfl)) dX12_wordOf_423 ⟨Nat.le_of_ble_eq_true rfl, Nat.le_of_ble_eq_true rfl⟩) hP hD hS hA [] [] rfl rfl (by decide) (by decide) (fun r_5 u H locs w_6 hP hD hS => ?_)
  obtain ⟨⟩ := u
  have hP : va_P D vwCl [] H := hP
  have hD : va_D A [] := hD
  try dsimp only at w_6
  obtain ⟨h_7, h_8⟩ := w_6
  subst h_7
  have hY := hY.trans (lt1_e h_8)
  exact oE_l hx hb hr hlocks hP hD hS () [] rfl (by decide) ⟨rfl, hY.symm⟩ (Nat.le_of_ble_eq_true rfl) (Nat.le_of_ble_eq_true rfl) dX12_wordOf_426
set_option maxHeartbeats 4000000 in
set_option maxRecDepth 100000 in
theorem e_X12_wordOf_20 (l : Launch) (D : va_G) (ca : Nat → ClassId) (sz : Nat)   : oMet l yX12_wordOf wsX12_wordOf ({ frames := 1, cells := 0, slots := 0, locals := 28 } : Room) [.int 20] D ca sz [] (oQl D (fun (r : Int64) (u : Unit) => (r = 60343114) ∧ (r = y_X12_wordOf_20)) (fun (u : Unit) => [])) 0 0 := by
  refine oM (cc := cX12_wordOf) (maxL := 1) (ret := (some .long)) (by decide) rfl (Nat.le_of_ble_eq_true rfl) [(0, .int 20)] rfl ?_
  intro p e s m below meth c A H locs ls hx hb hr hml hts hown hlocks hin hK hP hD hA hS hl
  have hown : s.vm.findClass RX12 = some m.cls := hown
  have hY := y_X12_wordOf_20_s 
  refine lv_iload_n hx hb dX12_wordOf_0 rfl (lv_at hl 0 rfl) ?_
  refine lv_tableIn (off := 426) (tgt := 427) hx hb dX12_wordOf_1 (by decide) (by decide) (by decide) (by decide) ?_
  refine lv_bipush (v := 100) hx hb dX12_wordOf_427 (by decide) ?_
  refine lv_bipush (v := 101) hx hb dX12_wordOf_429 (by decide) ?_
  refine lv_bipush (v := 110) hx hb dX12_wordOf_431 (by decide) ?_
  refine lv_bipush (v := 116) hx hb dX12_wordOf_433 (by decide) ?_
  refine lv_bipush (v := 101) hx hb dX12_wordOf_435 (by decide) ?_
  refine lv_bipush (v := 100) hx hb dX12_wordOf_437 (by decide) ?_
  refine lv_iconst (v := 0) hx hb dX12_wordOf_439 (by decide) ?_
  refine oC_l (Wc := []) (Wr := []) (va_runS (As := [.int 100, .int 101, .int 110, .int 116, .int 101, .int 100, .int 0]) (rest := []) ⟨hx, hb, hml, hown, hts⟩ (e_X12_spelt_20 l D ca H.size ) (va_cwS 7 hts gX12_wordOf_X12_spelt rfl rfl rfl (by decide +kernel) ⟨Nat.le_of_ble_eq_true rfl, Nat.le_of_ble_eq_true rfl⟩) (oPS hK hP hD [] rfl (by decide)) rfl rfl hl.1 rfl (lv_room (Nat.le_of_ble_eq_true rfl)) dX12_wordOf_440 ⟨Nat.le_of_ble_eq_true rfl, Nat.le_of_ble_eq_true rfl⟩) hP hD hS hA [] [] rfl rfl (by decide) (by decide) (fun r_5 u H locs w_6 hP hD hS => ?_)
  obtain ⟨⟩ := u
  have hP : va_P D vwCl [] H := hP
  have hD : va_D A [] := hD
  try dsimp only at w_6
  obtain ⟨h_7, h_8⟩ := w_6
  subst h_7
  have hY := hY.trans (lt1_e h_8)
  exact oE_l hx hb hr hlocks hP hD hS () [] rfl (by decide) ⟨rfl, hY.symm⟩ (Nat.le_of_ble_eq_true rfl) (Nat.le_of_ble_eq_true rfl) dX12_wordOf_443
set_option maxHeartbeats 4000000 in
set_option maxRecDepth 100000 in
theorem e_X12_wordOf_21 (l : Launch) (D : va_G) (ca : Nat → ClassId) (sz : Nat)   : oMet l yX12_wordOf wsX12_wordOf ({ frames := 1, cells := 0, slots := 0, locals := 28 } : Room) [.int 21] D ca sz [] (oQl D (fun (r : Int64) (u : Unit) => (r = 9753499) ∧ (r = y_X12_wordOf_21)) (fun (u : Unit) => [])) 0 0 := by
  refine oM (cc := cX12_wordOf) (maxL := 1) (ret := (some .long)) (by decide) rfl (Nat.le_of_ble_eq_true rfl) [(0, .int 21)] rfl ?_
  intro p e s m below meth c A H locs ls hx hb hr hml hts hown hlocks hin hK hP hD hA hS hl
  have hown : s.vm.findClass RX12 = some m.cls := hown
  have hY := y_X12_wordOf_21_s 
  refine lv_iload_n hx hb dX12_wordOf_0 rfl (lv_at hl 0 rfl) ?_
  refine lv_tableIn (off := 443) (tgt := 444) hx hb dX12_wordOf_1 (by decide) (by decide) (by decide) (by decide) ?_
  refine lv_bipush (v := 114) hx hb dX12_wordOf_444 (by decide) ?_
  refine lv_bipush (v := 105) hx hb dX12_wordOf_446 (by decide) ?_
  refine lv_bipush (v := 110) hx hb dX12_wordOf_448 (by decide) ?_
  refine lv_bipush (v := 103) hx hb dX12_wordOf_450 (by decide) ?_
  refine lv_bipush (v := 115) hx hb dX12_wordOf_452 (by decide) ?_
  refine lv_iconst (v := 0) hx hb dX12_wordOf_454 (by decide) ?_
  refine lv_iconst (v := 0) hx hb dX12_wordOf_455 (by decide) ?_
  refine oC_l (Wc := []) (Wr := []) (va_runS (As := [.int 114, .int 105, .int 110, .int 103, .int 115, .int 0, .int 0]) (rest := []) ⟨hx, hb, hml, hown, hts⟩ (e_X12_spelt_21 l D ca H.size ) (va_cwS 7 hts gX12_wordOf_X12_spelt rfl rfl rfl (by decide +kernel) ⟨Nat.le_of_ble_eq_true rfl, Nat.le_of_ble_eq_true rfl⟩) (oPS hK hP hD [] rfl (by decide)) rfl rfl hl.1 rfl (lv_room (Nat.le_of_ble_eq_true rfl)) dX12_wordOf_456 ⟨Nat.le_of_ble_eq_true rfl, Nat.le_of_ble_eq_true rfl⟩) hP hD hS hA [] [] rfl rfl (by decide) (by decide) (fun r_5 u H locs w_6 hP hD hS => ?_)
  obtain ⟨⟩ := u
  have hP : va_P D vwCl [] H := hP
  have hD : va_D A [] := hD
  try dsimp only at w_6
  obtain ⟨h_7, h_8⟩ := w_6
  subst h_7
  have hY := hY.trans (lt1_e h_8)
  exact oE_l hx hb hr hlocks hP hD hS () [] rfl (by decide) ⟨rfl, hY.symm⟩ (Nat.le_of_ble_eq_true rfl) (Nat.le_of_ble_eq_true rfl) dX12_wordOf_459
set_option maxHeartbeats 4000000 in
set_option maxRecDepth 100000 in
theorem e_X12_wordOf_22 (l : Launch) (D : va_G) (ca : Nat → ClassId) (sz : Nat)   : oMet l yX12_wordOf wsX12_wordOf ({ frames := 1, cells := 0, slots := 0, locals := 28 } : Room) [.int 22] D ca sz [] (oQl D (fun (r : Int64) (u : Unit) => (r = 8694872) ∧ (r = y_X12_wordOf_22)) (fun (u : Unit) => [])) 0 0 := by
  refine oM (cc := cX12_wordOf) (maxL := 1) (ret := (some .long)) (by decide) rfl (Nat.le_of_ble_eq_true rfl) [(0, .int 22)] rfl ?_
  intro p e s m below meth c A H locs ls hx hb hr hml hts hown hlocks hin hK hP hD hA hS hl
  have hown : s.vm.findClass RX12 = some m.cls := hown
  have hY := y_X12_wordOf_22_s 
  refine lv_iload_n hx hb dX12_wordOf_0 rfl (lv_at hl 0 rfl) ?_
  refine lv_tableIn (off := 459) (tgt := 460) hx hb dX12_wordOf_1 (by decide) (by decide) (by decide) (by decide) ?_
  refine lv_bipush (v := 112) hx hb dX12_wordOf_460 (by decide) ?_
  refine lv_bipush (v := 105) hx hb dX12_wordOf_462 (by decide) ?_
  refine lv_bipush (v := 116) hx hb dX12_wordOf_464 (by decide) ?_
  refine lv_bipush (v := 99) hx hb dX12_wordOf_466 (by decide) ?_
  refine lv_bipush (v := 104) hx hb dX12_wordOf_468 (by decide) ?_
  refine lv_iconst (v := 0) hx hb dX12_wordOf_470 (by decide) ?_
  refine lv_iconst (v := 0) hx hb dX12_wordOf_471 (by decide) ?_
  refine oC_l (Wc := []) (Wr := []) (va_runS (As := [.int 112, .int 105, .int 116, .int 99, .int 104, .int 0, .int 0]) (rest := []) ⟨hx, hb, hml, hown, hts⟩ (e_X12_spelt_22 l D ca H.size ) (va_cwS 7 hts gX12_wordOf_X12_spelt rfl rfl rfl (by decide +kernel) ⟨Nat.le_of_ble_eq_true rfl, Nat.le_of_ble_eq_true rfl⟩) (oPS hK hP hD [] rfl (by decide)) rfl rfl hl.1 rfl (lv_room (Nat.le_of_ble_eq_true rfl)) dX12_wordOf_472 ⟨Nat.le_of_ble_eq_true rfl, Nat.le_of_ble_eq_true rfl⟩) hP hD hS hA [] [] rfl rfl (by decide) (by decide) (fun r_5 u H locs w_6 hP hD hS => ?_)
  obtain ⟨⟩ := u
  have hP : va_P D vwCl [] H := hP
  have hD : va_D A [] := hD
  try dsimp only at w_6
  obtain ⟨h_7, h_8⟩ := w_6
  subst h_7
  have hY := hY.trans (lt1_e h_8)
  exact oE_l hx hb hr hlocks hP hD hS () [] rfl (by decide) ⟨rfl, hY.symm⟩ (Nat.le_of_ble_eq_true rfl) (Nat.le_of_ble_eq_true rfl) dX12_wordOf_475
set_option maxHeartbeats 4000000 in
set_option maxRecDepth 100000 in
theorem e_X12_wordOf_23 (l : Launch) (D : va_G) (ca : Nat → ClassId) (sz : Nat)   : oMet l yX12_wordOf wsX12_wordOf ({ frames := 1, cells := 0, slots := 0, locals := 28 } : Room) [.int 23] D ca sz [] (oQl D (fun (r : Int64) (u : Unit) => (r = 175125302) ∧ (r = y_X12_wordOf_23)) (fun (u : Unit) => [])) 0 0 := by
  refine oM (cc := cX12_wordOf) (maxL := 1) (ret := (some .long)) (by decide) rfl (Nat.le_of_ble_eq_true rfl) [(0, .int 23)] rfl ?_
  intro p e s m below meth c A H locs ls hx hb hr hml hts hown hlocks hin hK hP hD hA hS hl
  have hown : s.vm.findClass RX12 = some m.cls := hown
  have hY := y_X12_wordOf_23_s 
  refine lv_iload_n hx hb dX12_wordOf_0 rfl (lv_at hl 0 rfl) ?_
  refine lv_tableIn (off := 475) (tgt := 476) hx hb dX12_wordOf_1 (by decide) (by decide) (by decide) (by decide) ?_
  refine lv_bipush (v := 108) hx hb dX12_wordOf_476 (by decide) ?_
  refine lv_bipush (v := 101) hx hb dX12_wordOf_478 (by decide) ?_
  refine lv_bipush (v := 110) hx hb dX12_wordOf_480 (by decide) ?_
  refine lv_bipush (v := 103) hx hb dX12_wordOf_482 (by decide) ?_
  refine lv_bipush (v := 116) hx hb dX12_wordOf_484 (by decide) ?_
  refine lv_bipush (v := 104) hx hb dX12_wordOf_486 (by decide) ?_
  refine lv_iconst (v := 0) hx hb dX12_wordOf_488 (by decide) ?_
  refine oC_l (Wc := []) (Wr := []) (va_runS (As := [.int 108, .int 101, .int 110, .int 103, .int 116, .int 104, .int 0]) (rest := []) ⟨hx, hb, hml, hown, hts⟩ (e_X12_spelt_23 l D ca H.size ) (va_cwS 7 hts gX12_wordOf_X12_spelt rfl rfl rfl (by decide +kernel) ⟨Nat.le_of_ble_eq_true rfl, Nat.le_of_ble_eq_true rfl⟩) (oPS hK hP hD [] rfl (by decide)) rfl rfl hl.1 rfl (lv_room (Nat.le_of_ble_eq_true rfl)) dX12_wordOf_489 ⟨Nat.le_of_ble_eq_true rfl, Nat.le_of_ble_eq_true rfl⟩) hP hD hS hA [] [] rfl rfl (by decide) (by decide) (fun r_5 u H locs w_6 hP hD hS => ?_)
  obtain ⟨⟩ := u
  have hP : va_P D vwCl [] H := hP
  have hD : va_D A [] := hD
  try dsimp only at w_6
  obtain ⟨h_7, h_8⟩ := w_6
  subst h_7
  have hY := hY.trans (lt1_e h_8)
  exact oE_l hx hb hr hlocks hP hD hS () [] rfl (by decide) ⟨rfl, hY.symm⟩ (Nat.le_of_ble_eq_true rfl) (Nat.le_of_ble_eq_true rfl) dX12_wordOf_492
set_option maxHeartbeats 4000000 in
set_option maxRecDepth 100000 in
theorem e_X12_wordOf_24 (l : Launch) (D : va_G) (ca : Nat → ClassId) (sz : Nat)   : oMet l yX12_wordOf wsX12_wordOf ({ frames := 1, cells := 0, slots := 0, locals := 28 } : Room) [.int 24] D ca sz [] (oQl D (fun (r : Int64) (u : Unit) => (r = 2234944) ∧ (r = y_X12_wordOf_24)) (fun (u : Unit) => [])) 0 0 := by
  refine oM (cc := cX12_wordOf) (maxL := 1) (ret := (some .long)) (by decide) rfl (Nat.le_of_ble_eq_true rfl) [(0, .int 24)] rfl ?_
  intro p e s m below meth c A H locs ls hx hb hr hml hts hown hlocks hin hK hP hD hA hS hl
  have hown : s.vm.findClass RX12 = some m.cls := hown
  have hY := y_X12_wordOf_24_s 
  refine lv_iload_n hx hb dX12_wordOf_0 rfl (lv_at hl 0 rfl) ?_
  refine lv_tableIn (off := 492) (tgt := 493) hx hb dX12_wordOf_1 (by decide) (by decide) (by decide) (by decide) ?_
  refine lv_bipush (v := 100) hx hb dX12_wordOf_493 (by decide) ?_
  refine lv_bipush (v := 101) hx hb dX12_wordOf_495 (by decide) ?_
  refine lv_bipush (v := 110) hx hb dX12_wordOf_497 (by decide) ?_
  refine lv_bipush (v := 116) hx hb dX12_wordOf_499 (by decide) ?_
  refine lv_bipush (v := 115) hx hb dX12_wordOf_501 (by decide) ?_
  refine lv_iconst (v := 0) hx hb dX12_wordOf_503 (by decide) ?_
  refine lv_iconst (v := 0) hx hb dX12_wordOf_504 (by decide) ?_
  refine oC_l (Wc := []) (Wr := []) (va_runS (As := [.int 100, .int 101, .int 110, .int 116, .int 115, .int 0, .int 0]) (rest := []) ⟨hx, hb, hml, hown, hts⟩ (e_X12_spelt_24 l D ca H.size ) (va_cwS 7 hts gX12_wordOf_X12_spelt rfl rfl rfl (by decide +kernel) ⟨Nat.le_of_ble_eq_true rfl, Nat.le_of_ble_eq_true rfl⟩) (oPS hK hP hD [] rfl (by decide)) rfl rfl hl.1 rfl (lv_room (Nat.le_of_ble_eq_true rfl)) dX12_wordOf_505 ⟨Nat.le_of_ble_eq_true rfl, Nat.le_of_ble_eq_true rfl⟩) hP hD hS hA [] [] rfl rfl (by decide) (by decide) (fun r_5 u H locs w_6 hP hD hS => ?_)
  obtain ⟨⟩ := u
  have hP : va_P D vwCl [] H := hP
  have hD : va_D A [] := hD
  try dsimp only at w_6
  obtain ⟨h_7, h_8⟩ := w_6
  subst h_7
  have hY := hY.trans (lt1_e h_8)
  exact oE_l hx hb hr hlocks hP hD hS () [] rfl (by decide) ⟨rfl, hY.symm⟩ (Nat.le_of_ble_eq_true rfl) (Nat.le_of_ble_eq_true rfl) dX12_wordOf_508
set_option maxHeartbeats 4000000 in
set_option maxRecDepth 100000 in
theorem e_X12_wordOf_25 (l : Launch) (D : va_G) (ca : Nat → ClassId) (sz : Nat)   : oMet l yX12_wordOf wsX12_wordOf ({ frames := 1, cells := 0, slots := 0, locals := 28 } : Room) [.int 25] D ca sz [] (oQl D (fun (r : Int64) (u : Unit) => (r = 212302449) ∧ (r = y_X12_wordOf_25)) (fun (u : Unit) => [])) 0 0 := by
  refine oM (cc := cX12_wordOf) (maxL := 1) (ret := (some .long)) (by decide) rfl (Nat.le_of_ble_eq_true rfl) [(0, .int 25)] rfl ?_
  intro p e s m below meth c A H locs ls hx hb hr hml hts hown hlocks hin hK hP hD hA hS hl
  have hown : s.vm.findClass RX12 = some m.cls := hown
  have hY := y_X12_wordOf_25_s 
  refine lv_iload_n hx hb dX12_wordOf_0 rfl (lv_at hl 0 rfl) ?_
  refine lv_tableOut (tgt := 509) hx hb dX12_wordOf_1 (by decide) (by decide) ?_
  refine lv_bipush (v := 110) hx hb dX12_wordOf_509 (by decide) ?_
  refine lv_bipush (v := 117) hx hb dX12_wordOf_511 (by decide) ?_
  refine lv_bipush (v := 109) hx hb dX12_wordOf_513 (by decide) ?_
  refine lv_bipush (v := 98) hx hb dX12_wordOf_515 (by decide) ?_
  refine lv_bipush (v := 101) hx hb dX12_wordOf_517 (by decide) ?_
  refine lv_bipush (v := 114) hx hb dX12_wordOf_519 (by decide) ?_
  refine lv_iconst (v := 0) hx hb dX12_wordOf_521 (by decide) ?_
  refine oC_l (Wc := []) (Wr := []) (va_runS (As := [.int 110, .int 117, .int 109, .int 98, .int 101, .int 114, .int 0]) (rest := []) ⟨hx, hb, hml, hown, hts⟩ (e_X12_spelt_25 l D ca H.size ) (va_cwS 7 hts gX12_wordOf_X12_spelt rfl rfl rfl (by decide +kernel) ⟨Nat.le_of_ble_eq_true rfl, Nat.le_of_ble_eq_true rfl⟩) (oPS hK hP hD [] rfl (by decide)) rfl rfl hl.1 rfl (lv_room (Nat.le_of_ble_eq_true rfl)) dX12_wordOf_522 ⟨Nat.le_of_ble_eq_true rfl, Nat.le_of_ble_eq_true rfl⟩) hP hD hS hA [] [] rfl rfl (by decide) (by decide) (fun r_5 u H locs w_6 hP hD hS => ?_)
  obtain ⟨⟩ := u
  have hP : va_P D vwCl [] H := hP
  have hD : va_D A [] := hD
  try dsimp only at w_6
  obtain ⟨h_7, h_8⟩ := w_6
  subst h_7
  have hY := hY.trans (lt1_e h_8)
  exact oE_l hx hb hr hlocks hP hD hS () [] rfl (by decide) ⟨rfl, hY.symm⟩ (Nat.le_of_ble_eq_true rfl) (Nat.le_of_ble_eq_true rfl) dX12_wordOf_525
set_option maxHeartbeats 4000000 in
set_option maxRecDepth 100000 in
theorem e_X12_wordOf (l : Launch) (D : va_G) (ca : Nat → ClassId) (sz : Nat) (a1 : Int32) (i_a1 : rg 0 25 a1) : oMet l yX12_wordOf wsX12_wordOf ({ frames := 1, cells := 0, slots := 0, locals := 28 } : Room) [.int a1] D ca sz [] (oQl D (fun (r : Int64) (u : Unit) => (¬ r = 0) ∧ (r = y_X12_wordOf a1)) (fun (u : Unit) => [])) 0 0 := by
  refine oM (cc := cX12_wordOf) (maxL := 1) (ret := (some .long)) (by decide) rfl (Nat.le_of_ble_eq_true rfl) [(0, .int a1)] rfl ?_
  intro p e s m below meth c A H locs ls hx hb hr hml hts hown hlocks hin hK hP hD hA hS hl
  have hown : s.vm.findClass RX12 = some m.cls := hown
  have hY := y_X12_wordOf_s a1
  refine lv_iload_n hx hb dX12_wordOf_0 rfl (lv_at hl 0 rfl) ?_
  by_cases c_130 : a1 = 0
  · skip
    refine oti 0 c_130 ?_
    have hY := hY.trans (if_pos c_130)
    refine lv_tableIn (off := 115) (tgt := 116) hx hb dX12_wordOf_1 (by decide) (by decide) (by decide) (by decide) ?_
    refine lv_bipush (v := 106) hx hb dX12_wordOf_116 (by decide) ?_
    refine lv_bipush (v := 117) hx hb dX12_wordOf_118 (by decide) ?_
    refine lv_bipush (v := 114) hx hb dX12_wordOf_120 (by decide) ?_
    refine lv_bipush (v := 111) hx hb dX12_wordOf_122 (by decide) ?_
    refine lv_bipush (v := 114) hx hb dX12_wordOf_124 (by decide) ?_
    refine lv_iconst (v := 0) hx hb dX12_wordOf_126 (by decide) ?_
    refine lv_iconst (v := 0) hx hb dX12_wordOf_127 (by decide) ?_
    refine oC_l (Wc := []) (Wr := []) (va_runS (As := [.int 106, .int 117, .int 114, .int 111, .int 114, .int 0, .int 0]) (rest := []) ⟨hx, hb, hml, hown, hts⟩ (e_X12_spelt_0 l D ca H.size ) (va_cwS 7 hts gX12_wordOf_X12_spelt rfl rfl rfl (by decide +kernel) ⟨Nat.le_of_ble_eq_true rfl, Nat.le_of_ble_eq_true rfl⟩) (oPS hK hP hD [] rfl (by decide)) rfl rfl hl.1 rfl (lv_room (Nat.le_of_ble_eq_true rfl)) dX12_wordOf_128 ⟨Nat.le_of_ble_eq_true rfl, Nat.le_of_ble_eq_true rfl⟩) hP hD hS hA [] [] rfl rfl (by decide) (by decide) (fun r_131 u H locs w_132 hP hD hS => ?_)
    obtain ⟨⟩ := u
    have hP : va_P D vwCl [] H := hP
    have hD : va_D A [] := hD
    try dsimp only at w_132
    obtain ⟨h_133, h_134⟩ := w_132
    subst h_133
    have hY := hY.trans (lt1_e h_134)
    exact oE_l hx hb hr hlocks hP hD hS () [] rfl (by decide) ⟨(by decide), hY.symm⟩ (Nat.le_of_ble_eq_true rfl) (Nat.le_of_ble_eq_true rfl) dX12_wordOf_131
  have hY := hY.trans (if_neg c_130)
  by_cases c_135 : a1 = 1
  · skip
    refine oti 1 c_135 ?_
    have hY := hY.trans (if_pos c_135)
    refine lv_tableIn (off := 131) (tgt := 132) hx hb dX12_wordOf_1 (by decide) (by decide) (by decide) (by decide) ?_
    refine lv_bipush (v := 115) hx hb dX12_wordOf_132 (by decide) ?_
    refine lv_bipush (v := 101) hx hb dX12_wordOf_134 (by decide) ?_
    refine lv_bipush (v := 97) hx hb dX12_wordOf_136 (by decide) ?_
    refine lv_bipush (v := 116) hx hb dX12_wordOf_138 (by decide) ?_
    refine lv_bipush (v := 101) hx hb dX12_wordOf_140 (by decide) ?_
    refine lv_bipush (v := 100) hx hb dX12_wordOf_142 (by decide) ?_
    refine lv_iconst (v := 0) hx hb dX12_wordOf_144 (by decide) ?_
    refine oC_l (Wc := []) (Wr := []) (va_runS (As := [.int 115, .int 101, .int 97, .int 116, .int 101, .int 100, .int 0]) (rest := []) ⟨hx, hb, hml, hown, hts⟩ (e_X12_spelt_1 l D ca H.size ) (va_cwS 7 hts gX12_wordOf_X12_spelt rfl rfl rfl (by decide +kernel) ⟨Nat.le_of_ble_eq_true rfl, Nat.le_of_ble_eq_true rfl⟩) (oPS hK hP hD [] rfl (by decide)) rfl rfl hl.1 rfl (lv_room (Nat.le_of_ble_eq_true rfl)) dX12_wordOf_145 ⟨Nat.le_of_ble_eq_true rfl, Nat.le_of_ble_eq_true rfl⟩) hP hD hS hA [] [] rfl rfl (by decide) (by decide) (fun r_136 u H locs w_137 hP hD hS => ?_)
    obtain ⟨⟩ := u
    have hP : va_P D vwCl [] H := hP
    have hD : va_D A [] := hD
    try dsimp only at w_137
    obtain ⟨h_138, h_139⟩ := w_137
    subst h_138
    have hY := hY.trans (lt1_e h_139)
    exact oE_l hx hb hr hlocks hP hD hS () [] rfl (by decide) ⟨(by decide), hY.symm⟩ (Nat.le_of_ble_eq_true rfl) (Nat.le_of_ble_eq_true rfl) dX12_wordOf_148
  have hY := hY.trans (if_neg c_135)
  by_cases c_140 : a1 = 2
  · skip
    refine oti 2 c_140 ?_
    have hY := hY.trans (if_pos c_140)
    refine lv_tableIn (off := 148) (tgt := 149) hx hb dX12_wordOf_1 (by decide) (by decide) (by decide) (by decide) ?_
    refine lv_bipush (v := 102) hx hb dX12_wordOf_149 (by decide) ?_
    refine lv_bipush (v := 108) hx hb dX12_wordOf_151 (by decide) ?_
    refine lv_bipush (v := 111) hx hb dX12_wordOf_153 (by decide) ?_
    refine lv_bipush (v := 111) hx hb dX12_wordOf_155 (by decide) ?_
    refine lv_bipush (v := 114) hx hb dX12_wordOf_157 (by decide) ?_
    refine lv_iconst (v := 0) hx hb dX12_wordOf_159 (by decide) ?_
    refine lv_iconst (v := 0) hx hb dX12_wordOf_160 (by decide) ?_
    refine oC_l (Wc := []) (Wr := []) (va_runS (As := [.int 102, .int 108, .int 111, .int 111, .int 114, .int 0, .int 0]) (rest := []) ⟨hx, hb, hml, hown, hts⟩ (e_X12_spelt_2 l D ca H.size ) (va_cwS 7 hts gX12_wordOf_X12_spelt rfl rfl rfl (by decide +kernel) ⟨Nat.le_of_ble_eq_true rfl, Nat.le_of_ble_eq_true rfl⟩) (oPS hK hP hD [] rfl (by decide)) rfl rfl hl.1 rfl (lv_room (Nat.le_of_ble_eq_true rfl)) dX12_wordOf_161 ⟨Nat.le_of_ble_eq_true rfl, Nat.le_of_ble_eq_true rfl⟩) hP hD hS hA [] [] rfl rfl (by decide) (by decide) (fun r_141 u H locs w_142 hP hD hS => ?_)
    obtain ⟨⟩ := u
    have hP : va_P D vwCl [] H := hP
    have hD : va_D A [] := hD
    try dsimp only at w_142
    obtain ⟨h_143, h_144⟩ := w_142
    subst h_143
    have hY := hY.trans (lt1_e h_144)
    exact oE_l hx hb hr hlocks hP hD hS () [] rfl (by decide) ⟨(by decide), hY.symm⟩ (Nat.le_of_ble_eq_true rfl) (Nat.le_of_ble_eq_true rfl) dX12_wordOf_164
  have hY := hY.trans (if_neg c_140)
  by_cases c_145 : a1 = 3
  · skip
    refine oti 3 c_145 ?_
    have hY := hY.trans (if_pos c_145)
    refine lv_tableIn (off := 164) (tgt := 165) hx hb dX12_wordOf_1 (by decide) (by decide) (by decide) (by decide) ?_
    refine lv_bipush (v := 99) hx hb dX12_wordOf_165 (by decide) ?_
    refine lv_bipush (v := 97) hx hb dX12_wordOf_167 (by decide) ?_
    refine lv_bipush (v := 115) hx hb dX12_wordOf_169 (by decide) ?_
    refine lv_bipush (v := 101) hx hb dX12_wordOf_171 (by decide) ?_
    refine lv_iconst (v := 0) hx hb dX12_wordOf_173 (by decide) ?_
    refine lv_iconst (v := 0) hx hb dX12_wordOf_174 (by decide) ?_
    refine lv_iconst (v := 0) hx hb dX12_wordOf_175 (by decide) ?_
    refine oC_l (Wc := []) (Wr := []) (va_runS (As := [.int 99, .int 97, .int 115, .int 101, .int 0, .int 0, .int 0]) (rest := []) ⟨hx, hb, hml, hown, hts⟩ (e_X12_spelt_3 l D ca H.size ) (va_cwS 7 hts gX12_wordOf_X12_spelt rfl rfl rfl (by decide +kernel) ⟨Nat.le_of_ble_eq_true rfl, Nat.le_of_ble_eq_true rfl⟩) (oPS hK hP hD [] rfl (by decide)) rfl rfl hl.1 rfl (lv_room (Nat.le_of_ble_eq_true rfl)) dX12_wordOf_176 ⟨Nat.le_of_ble_eq_true rfl, Nat.le_of_ble_eq_true rfl⟩) hP hD hS hA [] [] rfl rfl (by decide) (by decide) (fun r_146 u H locs w_147 hP hD hS => ?_)
    obtain ⟨⟩ := u
    have hP : va_P D vwCl [] H := hP
    have hD : va_D A [] := hD
    try dsimp only at w_147
    obtain ⟨h_148, h_149⟩ := w_147
    subst h_148
    have hY := hY.trans (lt1_e h_149)
    exact oE_l hx hb hr hlocks hP hD hS () [] rfl (by decide) ⟨(by decide), hY.symm⟩ (Nat.le_of_ble_eq_true rfl) (Nat.le_of_ble_eq_true rfl) dX12_wordOf_179
  have hY := hY.trans (if_neg c_145)
  by_cases c_150 : a1 = 4
  · skip
    refine oti 4 c_150 ?_
    have hY := hY.trans (if_pos c_150)
    refine lv_tableIn (off := 179) (tgt := 180) hx hb dX12_wordOf_1 (by decide) (by decide) (by decide) (by decide) ?_
    refine lv_bipush (v := 116) hx hb dX12_wordOf_180 (by decide) ?_
    refine lv_bipush (v := 117) hx hb dX12_wordOf_182 (by decide) ?_
    refine lv_bipush (v := 110) hx hb dX12_wordOf_184 (by decide) ?_
    refine lv_bipush (v := 101) hx hb dX12_wordOf_186 (by decide) ?_
    refine lv_bipush (v := 100) hx hb dX12_wordOf_188 (by decide) ?_
    refine lv_iconst (v := 0) hx hb dX12_wordOf_190 (by decide) ?_
    refine lv_iconst (v := 0) hx hb dX12_wordOf_191 (by decide) ?_
    refine oC_l (Wc := []) (Wr := []) (va_runS (As := [.int 116, .int 117, .int 110, .int 101, .int 100, .int 0, .int 0]) (rest := []) ⟨hx, hb, hml, hown, hts⟩ (e_X12_spelt_4 l D ca H.size ) (va_cwS 7 hts gX12_wordOf_X12_spelt rfl rfl rfl (by decide +kernel) ⟨Nat.le_of_ble_eq_true rfl, Nat.le_of_ble_eq_true rfl⟩) (oPS hK hP hD [] rfl (by decide)) rfl rfl hl.1 rfl (lv_room (Nat.le_of_ble_eq_true rfl)) dX12_wordOf_192 ⟨Nat.le_of_ble_eq_true rfl, Nat.le_of_ble_eq_true rfl⟩) hP hD hS hA [] [] rfl rfl (by decide) (by decide) (fun r_151 u H locs w_152 hP hD hS => ?_)
    obtain ⟨⟩ := u
    have hP : va_P D vwCl [] H := hP
    have hD : va_D A [] := hD
    try dsimp only at w_152
    obtain ⟨h_153, h_154⟩ := w_152
    subst h_153
    have hY := hY.trans (lt1_e h_154)
    exact oE_l hx hb hr hlocks hP hD hS () [] rfl (by decide) ⟨(by decide), hY.symm⟩ (Nat.le_of_ble_eq_true rfl) (Nat.le_of_ble_eq_true rfl) dX12_wordOf_195
  have hY := hY.trans (if_neg c_150)
  by_cases c_155 : a1 = 5
  · skip
    refine oti 5 c_155 ?_
    have hY := hY.trans (if_pos c_155)
    refine lv_tableIn (off := 195) (tgt := 196) hx hb dX12_wordOf_1 (by decide) (by decide) (by decide) (by decide) ?_
    refine lv_bipush (v := 111) hx hb dX12_wordOf_196 (by decide) ?_
    refine lv_bipush (v := 110) hx hb dX12_wordOf_198 (by decide) ?_
    refine lv_bipush (v := 101) hx hb dX12_wordOf_200 (by decide) ?_
    refine lv_iconst (v := 0) hx hb dX12_wordOf_202 (by decide) ?_
    refine lv_iconst (v := 0) hx hb dX12_wordOf_203 (by decide) ?_
    refine lv_iconst (v := 0) hx hb dX12_wordOf_204 (by decide) ?_
    refine lv_iconst (v := 0) hx hb dX12_wordOf_205 (by decide) ?_
    refine oC_l (Wc := []) (Wr := []) (va_runS (As := [.int 111, .int 110, .int 101, .int 0, .int 0, .int 0, .int 0]) (rest := []) ⟨hx, hb, hml, hown, hts⟩ (e_X12_spelt_5 l D ca H.size ) (va_cwS 7 hts gX12_wordOf_X12_spelt rfl rfl rfl (by decide +kernel) ⟨Nat.le_of_ble_eq_true rfl, Nat.le_of_ble_eq_true rfl⟩) (oPS hK hP hD [] rfl (by decide)) rfl rfl hl.1 rfl (lv_room (Nat.le_of_ble_eq_true rfl)) dX12_wordOf_206 ⟨Nat.le_of_ble_eq_true rfl, Nat.le_of_ble_eq_true rfl⟩) hP hD hS hA [] [] rfl rfl (by decide) (by decide) (fun r_156 u H locs w_157 hP hD hS => ?_)
    obtain ⟨⟩ := u
    have hP : va_P D vwCl [] H := hP
    have hD : va_D A [] := hD
    try dsimp only at w_157
    obtain ⟨h_158, h_159⟩ := w_157
    subst h_158
    have hY := hY.trans (lt1_e h_159)
    exact oE_l hx hb hr hlocks hP hD hS () [] rfl (by decide) ⟨(by decide), hY.symm⟩ (Nat.le_of_ble_eq_true rfl) (Nat.le_of_ble_eq_true rfl) dX12_wordOf_209
  have hY := hY.trans (if_neg c_155)
  by_cases c_160 : a1 = 6
  · skip
    refine oti 6 c_160 ?_
    have hY := hY.trans (if_pos c_160)
    refine lv_tableIn (off := 209) (tgt := 210) hx hb dX12_wordOf_1 (by decide) (by decide) (by decide) (by decide) ?_
    refine lv_bipush (v := 100) hx hb dX12_wordOf_210 (by decide) ?_
    refine lv_bipush (v := 101) hx hb dX12_wordOf_212 (by decide) ?_
    refine lv_bipush (v := 110) hx hb dX12_wordOf_214 (by decide) ?_
    refine lv_bipush (v := 116) hx hb dX12_wordOf_216 (by decide) ?_
    refine lv_iconst (v := 0) hx hb dX12_wordOf_218 (by decide) ?_
    refine lv_iconst (v := 0) hx hb dX12_wordOf_219 (by decide) ?_
    refine lv_iconst (v := 0) hx hb dX12_wordOf_220 (by decide) ?_
    refine oC_l (Wc := []) (Wr := []) (va_runS (As := [.int 100, .int 101, .int 110, .int 116, .int 0, .int 0, .int 0]) (rest := []) ⟨hx, hb, hml, hown, hts⟩ (e_X12_spelt_6 l D ca H.size ) (va_cwS 7 hts gX12_wordOf_X12_spelt rfl rfl rfl (by decide +kernel) ⟨Nat.le_of_ble_eq_true rfl, Nat.le_of_ble_eq_true rfl⟩) (oPS hK hP hD [] rfl (by decide)) rfl rfl hl.1 rfl (lv_room (Nat.le_of_ble_eq_true rfl)) dX12_wordOf_221 ⟨Nat.le_of_ble_eq_true rfl, Nat.le_of_ble_eq_true rfl⟩) hP hD hS hA [] [] rfl rfl (by decide) (by decide) (fun r_161 u H locs w_162 hP hD hS => ?_)
    obtain ⟨⟩ := u
    have hP : va_P D vwCl [] H := hP
    have hD : va_D A [] := hD
    try dsimp only at w_162
    obtain ⟨h_163, h_164⟩ := w_162
    subst h_163
    have hY := hY.trans (lt1_e h_164)
    exact oE_l hx hb hr hlocks hP hD hS () [] rfl (by decide) ⟨(by decide), hY.symm⟩ (Nat.le_of_ble_eq_true rfl) (Nat.le_of_ble_eq_true rfl) dX12_wordOf_224
  have hY := hY.trans (if_neg c_160)
  by_cases c_165 : a1 = 7
  · skip
    refine oti 7 c_165 ?_
    have hY := hY.trans (if_pos c_165)
    refine lv_tableIn (off := 224) (tgt := 225) hx hb dX12_wordOf_1 (by decide) (by decide) (by decide) (by decide) ?_
    refine lv_bipush (v := 115) hx hb dX12_wordOf_225 (by decide) ?_
    refine lv_bipush (v := 105) hx hb dX12_wordOf_227 (by decide) ?_
    refine lv_bipush (v := 116) hx hb dX12_wordOf_229 (by decide) ?_
    refine lv_bipush (v := 115) hx hb dX12_wordOf_231 (by decide) ?_
    refine lv_iconst (v := 0) hx hb dX12_wordOf_233 (by decide) ?_
    refine lv_iconst (v := 0) hx hb dX12_wordOf_234 (by decide) ?_
    refine lv_iconst (v := 0) hx hb dX12_wordOf_235 (by decide) ?_
    refine oC_l (Wc := []) (Wr := []) (va_runS (As := [.int 115, .int 105, .int 116, .int 115, .int 0, .int 0, .int 0]) (rest := []) ⟨hx, hb, hml, hown, hts⟩ (e_X12_spelt_7 l D ca H.size ) (va_cwS 7 hts gX12_wordOf_X12_spelt rfl rfl rfl (by decide +kernel) ⟨Nat.le_of_ble_eq_true rfl, Nat.le_of_ble_eq_true rfl⟩) (oPS hK hP hD [] rfl (by decide)) rfl rfl hl.1 rfl (lv_room (Nat.le_of_ble_eq_true rfl)) dX12_wordOf_236 ⟨Nat.le_of_ble_eq_true rfl, Nat.le_of_ble_eq_true rfl⟩) hP hD hS hA [] [] rfl rfl (by decide) (by decide) (fun r_166 u H locs w_167 hP hD hS => ?_)
    obtain ⟨⟩ := u
    have hP : va_P D vwCl [] H := hP
    have hD : va_D A [] := hD
    try dsimp only at w_167
    obtain ⟨h_168, h_169⟩ := w_167
    subst h_168
    have hY := hY.trans (lt1_e h_169)
    exact oE_l hx hb hr hlocks hP hD hS () [] rfl (by decide) ⟨(by decide), hY.symm⟩ (Nat.le_of_ble_eq_true rfl) (Nat.le_of_ble_eq_true rfl) dX12_wordOf_239
  have hY := hY.trans (if_neg c_165)
  by_cases c_170 : a1 = 8
  · skip
    refine oti 8 c_170 ?_
    have hY := hY.trans (if_pos c_170)
    refine lv_tableIn (off := 239) (tgt := 240) hx hb dX12_wordOf_1 (by decide) (by decide) (by decide) (by decide) ?_
    refine lv_bipush (v := 114) hx hb dX12_wordOf_240 (by decide) ?_
    refine lv_bipush (v := 105) hx hb dX12_wordOf_242 (by decide) ?_
    refine lv_bipush (v := 115) hx hb dX12_wordOf_244 (by decide) ?_
    refine lv_bipush (v := 101) hx hb dX12_wordOf_246 (by decide) ?_
    refine lv_bipush (v := 115) hx hb dX12_wordOf_248 (by decide) ?_
    refine lv_iconst (v := 0) hx hb dX12_wordOf_250 (by decide) ?_
    refine lv_iconst (v := 0) hx hb dX12_wordOf_251 (by decide) ?_
    refine oC_l (Wc := []) (Wr := []) (va_runS (As := [.int 114, .int 105, .int 115, .int 101, .int 115, .int 0, .int 0]) (rest := []) ⟨hx, hb, hml, hown, hts⟩ (e_X12_spelt_8 l D ca H.size ) (va_cwS 7 hts gX12_wordOf_X12_spelt rfl rfl rfl (by decide +kernel) ⟨Nat.le_of_ble_eq_true rfl, Nat.le_of_ble_eq_true rfl⟩) (oPS hK hP hD [] rfl (by decide)) rfl rfl hl.1 rfl (lv_room (Nat.le_of_ble_eq_true rfl)) dX12_wordOf_252 ⟨Nat.le_of_ble_eq_true rfl, Nat.le_of_ble_eq_true rfl⟩) hP hD hS hA [] [] rfl rfl (by decide) (by decide) (fun r_171 u H locs w_172 hP hD hS => ?_)
    obtain ⟨⟩ := u
    have hP : va_P D vwCl [] H := hP
    have hD : va_D A [] := hD
    try dsimp only at w_172
    obtain ⟨h_173, h_174⟩ := w_172
    subst h_173
    have hY := hY.trans (lt1_e h_174)
    exact oE_l hx hb hr hlocks hP hD hS () [] rfl (by decide) ⟨(by decide), hY.symm⟩ (Nat.le_of_ble_eq_true rfl) (Nat.le_of_ble_eq_true rfl) dX12_wordOf_255
  have hY := hY.trans (if_neg c_170)
  by_cases c_175 : a1 = 9
  · skip
    refine oti 9 c_175 ?_
    have hY := hY.trans (if_pos c_175)
    refine lv_tableIn (off := 255) (tgt := 256) hx hb dX12_wordOf_1 (by decide) (by decide) (by decide) (by decide) ?_
    refine lv_bipush (v := 104) hx hb dX12_wordOf_256 (by decide) ?_
    refine lv_bipush (v := 111) hx hb dX12_wordOf_258 (by decide) ?_
    refine lv_bipush (v := 108) hx hb dX12_wordOf_260 (by decide) ?_
    refine lv_bipush (v := 100) hx hb dX12_wordOf_262 (by decide) ?_
    refine lv_bipush (v := 115) hx hb dX12_wordOf_264 (by decide) ?_
    refine lv_iconst (v := 0) hx hb dX12_wordOf_266 (by decide) ?_
    refine lv_iconst (v := 0) hx hb dX12_wordOf_267 (by decide) ?_
    refine oC_l (Wc := []) (Wr := []) (va_runS (As := [.int 104, .int 111, .int 108, .int 100, .int 115, .int 0, .int 0]) (rest := []) ⟨hx, hb, hml, hown, hts⟩ (e_X12_spelt_9 l D ca H.size ) (va_cwS 7 hts gX12_wordOf_X12_spelt rfl rfl rfl (by decide +kernel) ⟨Nat.le_of_ble_eq_true rfl, Nat.le_of_ble_eq_true rfl⟩) (oPS hK hP hD [] rfl (by decide)) rfl rfl hl.1 rfl (lv_room (Nat.le_of_ble_eq_true rfl)) dX12_wordOf_268 ⟨Nat.le_of_ble_eq_true rfl, Nat.le_of_ble_eq_true rfl⟩) hP hD hS hA [] [] rfl rfl (by decide) (by decide) (fun r_176 u H locs w_177 hP hD hS => ?_)
    obtain ⟨⟩ := u
    have hP : va_P D vwCl [] H := hP
    have hD : va_D A [] := hD
    try dsimp only at w_177
    obtain ⟨h_178, h_179⟩ := w_177
    subst h_178
    have hY := hY.trans (lt1_e h_179)
    exact oE_l hx hb hr hlocks hP hD hS () [] rfl (by decide) ⟨(by decide), hY.symm⟩ (Nat.le_of_ble_eq_true rfl) (Nat.le_of_ble_eq_true rfl) dX12_wordOf_271
  have hY := hY.trans (if_neg c_175)
  by_cases c_180 : a1 = 10
  · skip
    refine oti 10 c_180 ?_
    have hY := hY.trans (if_pos c_180)
    refine lv_tableIn (off := 271) (tgt := 272) hx hb dX12_wordOf_1 (by decide) (by decide) (by decide) (by decide) ?_
    refine lv_bipush (v := 100) hx hb dX12_wordOf_272 (by decide) ?_
    refine lv_bipush (v := 114) hx hb dX12_wordOf_274 (by decide) ?_
    refine lv_bipush (v := 111) hx hb dX12_wordOf_276 (by decide) ?_
    refine lv_bipush (v := 112) hx hb dX12_wordOf_278 (by decide) ?_
    refine lv_bipush (v := 115) hx hb dX12_wordOf_280 (by decide) ?_
    refine lv_iconst (v := 0) hx hb dX12_wordOf_282 (by decide) ?_
    refine lv_iconst (v := 0) hx hb dX12_wordOf_283 (by decide) ?_
    refine oC_l (Wc := []) (Wr := []) (va_runS (As := [.int 100, .int 114, .int 111, .int 112, .int 115, .int 0, .int 0]) (rest := []) ⟨hx, hb, hml, hown, hts⟩ (e_X12_spelt_10 l D ca H.size ) (va_cwS 7 hts gX12_wordOf_X12_spelt rfl rfl rfl (by decide +kernel) ⟨Nat.le_of_ble_eq_true rfl, Nat.le_of_ble_eq_true rfl⟩) (oPS hK hP hD [] rfl (by decide)) rfl rfl hl.1 rfl (lv_room (Nat.le_of_ble_eq_true rfl)) dX12_wordOf_284 ⟨Nat.le_of_ble_eq_true rfl, Nat.le_of_ble_eq_true rfl⟩) hP hD hS hA [] [] rfl rfl (by decide) (by decide) (fun r_181 u H locs w_182 hP hD hS => ?_)
    obtain ⟨⟩ := u
    have hP : va_P D vwCl [] H := hP
    have hD : va_D A [] := hD
    try dsimp only at w_182
    obtain ⟨h_183, h_184⟩ := w_182
    subst h_183
    have hY := hY.trans (lt1_e h_184)
    exact oE_l hx hb hr hlocks hP hD hS () [] rfl (by decide) ⟨(by decide), hY.symm⟩ (Nat.le_of_ble_eq_true rfl) (Nat.le_of_ble_eq_true rfl) dX12_wordOf_287
  have hY := hY.trans (if_neg c_180)
  by_cases c_185 : a1 = 11
  · skip
    refine oti 11 c_185 ?_
    have hY := hY.trans (if_pos c_185)
    refine lv_tableIn (off := 287) (tgt := 288) hx hb dX12_wordOf_1 (by decide) (by decide) (by decide) (by decide) ?_
    refine lv_bipush (v := 98) hx hb dX12_wordOf_288 (by decide) ?_
    refine lv_bipush (v := 101) hx hb dX12_wordOf_290 (by decide) ?_
    refine lv_bipush (v := 97) hx hb dX12_wordOf_292 (by decide) ?_
    refine lv_bipush (v := 116) hx hb dX12_wordOf_294 (by decide) ?_
    refine lv_bipush (v := 101) hx hb dX12_wordOf_296 (by decide) ?_
    refine lv_bipush (v := 110) hx hb dX12_wordOf_298 (by decide) ?_
    refine lv_iconst (v := 0) hx hb dX12_wordOf_300 (by decide) ?_
    refine oC_l (Wc := []) (Wr := []) (va_runS (As := [.int 98, .int 101, .int 97, .int 116, .int 101, .int 110, .int 0]) (rest := []) ⟨hx, hb, hml, hown, hts⟩ (e_X12_spelt_11 l D ca H.size ) (va_cwS 7 hts gX12_wordOf_X12_spelt rfl rfl rfl (by decide +kernel) ⟨Nat.le_of_ble_eq_true rfl, Nat.le_of_ble_eq_true rfl⟩) (oPS hK hP hD [] rfl (by decide)) rfl rfl hl.1 rfl (lv_room (Nat.le_of_ble_eq_true rfl)) dX12_wordOf_301 ⟨Nat.le_of_ble_eq_true rfl, Nat.le_of_ble_eq_true rfl⟩) hP hD hS hA [] [] rfl rfl (by decide) (by decide) (fun r_186 u H locs w_187 hP hD hS => ?_)
    obtain ⟨⟩ := u
    have hP : va_P D vwCl [] H := hP
    have hD : va_D A [] := hD
    try dsimp only at w_187
    obtain ⟨h_188, h_189⟩ := w_187
    subst h_188
    have hY := hY.trans (lt1_e h_189)
    exact oE_l hx hb hr hlocks hP hD hS () [] rfl (by decide) ⟨(by decide), hY.symm⟩ (Nat.le_of_ble_eq_true rfl) (Nat.le_of_ble_eq_true rfl) dX12_wordOf_304
  have hY := hY.trans (if_neg c_185)
  by_cases c_190 : a1 = 12
  · skip
    refine oti 12 c_190 ?_
    have hY := hY.trans (if_pos c_190)
    refine lv_tableIn (off := 304) (tgt := 305) hx hb dX12_wordOf_1 (by decide) (by decide) (by decide) (by decide) ?_
    refine lv_bipush (v := 116) hx hb dX12_wordOf_305 (by decide) ?_
    refine lv_bipush (v := 114) hx hb dX12_wordOf_307 (by decide) ?_
    refine lv_bipush (v := 121) hx hb dX12_wordOf_309 (by decide) ?_
    refine lv_iconst (v := 0) hx hb dX12_wordOf_311 (by decide) ?_
    refine lv_iconst (v := 0) hx hb dX12_wordOf_312 (by decide) ?_
    refine lv_iconst (v := 0) hx hb dX12_wordOf_313 (by decide) ?_
    refine lv_iconst (v := 0) hx hb dX12_wordOf_314 (by decide) ?_
    refine oC_l (Wc := []) (Wr := []) (va_runS (As := [.int 116, .int 114, .int 121, .int 0, .int 0, .int 0, .int 0]) (rest := []) ⟨hx, hb, hml, hown, hts⟩ (e_X12_spelt_12 l D ca H.size ) (va_cwS 7 hts gX12_wordOf_X12_spelt rfl rfl rfl (by decide +kernel) ⟨Nat.le_of_ble_eq_true rfl, Nat.le_of_ble_eq_true rfl⟩) (oPS hK hP hD [] rfl (by decide)) rfl rfl hl.1 rfl (lv_room (Nat.le_of_ble_eq_true rfl)) dX12_wordOf_315 ⟨Nat.le_of_ble_eq_true rfl, Nat.le_of_ble_eq_true rfl⟩) hP hD hS hA [] [] rfl rfl (by decide) (by decide) (fun r_191 u H locs w_192 hP hD hS => ?_)
    obtain ⟨⟩ := u
    have hP : va_P D vwCl [] H := hP
    have hD : va_D A [] := hD
    try dsimp only at w_192
    obtain ⟨h_193, h_194⟩ := w_192
    subst h_193
    have hY := hY.trans (lt1_e h_194)
    exact oE_l hx hb hr hlocks hP hD hS () [] rfl (by decide) ⟨(by decide), hY.symm⟩ (Nat.le_of_ble_eq_true rfl) (Nat.le_of_ble_eq_true rfl) dX12_wordOf_318
  have hY := hY.trans (if_neg c_190)
  by_cases c_195 : a1 = 13
  · skip
    refine oti 13 c_195 ?_
    have hY := hY.trans (if_pos c_195)
    refine lv_tableIn (off := 318) (tgt := 319) hx hb dX12_wordOf_1 (by decide) (by decide) (by decide) (by decide) ?_
    refine lv_bipush (v := 97) hx hb dX12_wordOf_319 (by decide) ?_
    refine lv_bipush (v := 112) hx hb dX12_wordOf_321 (by decide) ?_
    refine lv_bipush (v := 112) hx hb dX12_wordOf_323 (by decide) ?_
    refine lv_bipush (v := 101) hx hb dX12_wordOf_325 (by decide) ?_
    refine lv_bipush (v := 97) hx hb dX12_wordOf_327 (by decide) ?_
    refine lv_bipush (v := 108) hx hb dX12_wordOf_329 (by decide) ?_
    refine lv_iconst (v := 0) hx hb dX12_wordOf_331 (by decide) ?_
    refine oC_l (Wc := []) (Wr := []) (va_runS (As := [.int 97, .int 112, .int 112, .int 101, .int 97, .int 108, .int 0]) (rest := []) ⟨hx, hb, hml, hown, hts⟩ (e_X12_spelt_13 l D ca H.size ) (va_cwS 7 hts gX12_wordOf_X12_spelt rfl rfl rfl (by decide +kernel) ⟨Nat.le_of_ble_eq_true rfl, Nat.le_of_ble_eq_true rfl⟩) (oPS hK hP hD [] rfl (by decide)) rfl rfl hl.1 rfl (lv_room (Nat.le_of_ble_eq_true rfl)) dX12_wordOf_332 ⟨Nat.le_of_ble_eq_true rfl, Nat.le_of_ble_eq_true rfl⟩) hP hD hS hA [] [] rfl rfl (by decide) (by decide) (fun r_196 u H locs w_197 hP hD hS => ?_)
    obtain ⟨⟩ := u
    have hP : va_P D vwCl [] H := hP
    have hD : va_D A [] := hD
    try dsimp only at w_197
    obtain ⟨h_198, h_199⟩ := w_197
    subst h_198
    have hY := hY.trans (lt1_e h_199)
    exact oE_l hx hb hr hlocks hP hD hS () [] rfl (by decide) ⟨(by decide), hY.symm⟩ (Nat.le_of_ble_eq_true rfl) (Nat.le_of_ble_eq_true rfl) dX12_wordOf_335
  have hY := hY.trans (if_neg c_195)
  by_cases c_200 : a1 = 14
  · skip
    refine oti 14 c_200 ?_
    have hY := hY.trans (if_pos c_200)
    refine lv_tableIn (off := 335) (tgt := 336) hx hb dX12_wordOf_1 (by decide) (by decide) (by decide) (by decide) ?_
    refine lv_bipush (v := 100) hx hb dX12_wordOf_336 (by decide) ?_
    refine lv_bipush (v := 97) hx hb dX12_wordOf_338 (by decide) ?_
    refine lv_bipush (v := 121) hx hb dX12_wordOf_340 (by decide) ?_
    refine lv_iconst (v := 0) hx hb dX12_wordOf_342 (by decide) ?_
    refine lv_iconst (v := 0) hx hb dX12_wordOf_343 (by decide) ?_
    refine lv_iconst (v := 0) hx hb dX12_wordOf_344 (by decide) ?_
    refine lv_iconst (v := 0) hx hb dX12_wordOf_345 (by decide) ?_
    refine oC_l (Wc := []) (Wr := []) (va_runS (As := [.int 100, .int 97, .int 121, .int 0, .int 0, .int 0, .int 0]) (rest := []) ⟨hx, hb, hml, hown, hts⟩ (e_X12_spelt_14 l D ca H.size ) (va_cwS 7 hts gX12_wordOf_X12_spelt rfl rfl rfl (by decide +kernel) ⟨Nat.le_of_ble_eq_true rfl, Nat.le_of_ble_eq_true rfl⟩) (oPS hK hP hD [] rfl (by decide)) rfl rfl hl.1 rfl (lv_room (Nat.le_of_ble_eq_true rfl)) dX12_wordOf_346 ⟨Nat.le_of_ble_eq_true rfl, Nat.le_of_ble_eq_true rfl⟩) hP hD hS hA [] [] rfl rfl (by decide) (by decide) (fun r_201 u H locs w_202 hP hD hS => ?_)
    obtain ⟨⟩ := u
    have hP : va_P D vwCl [] H := hP
    have hD : va_D A [] := hD
    try dsimp only at w_202
    obtain ⟨h_203, h_204⟩ := w_202
    subst h_203
    have hY := hY.trans (lt1_e h_204)
    exact oE_l hx hb hr hlocks hP hD hS () [] rfl (by decide) ⟨(by decide), hY.symm⟩ (Nat.le_of_ble_eq_true rfl) (Nat.le_of_ble_eq_true rfl) dX12_wordOf_349
  have hY := hY.trans (if_neg c_200)
  by_cases c_205 : a1 = 15
  · skip
    refine oti 15 c_205 ?_
    have hY := hY.trans (if_pos c_205)
    refine lv_tableIn (off := 349) (tgt := 350) hx hb dX12_wordOf_1 (by decide) (by decide) (by decide) (by decide) ?_
    refine lv_bipush (v := 111) hx hb dX12_wordOf_350 (by decide) ?_
    refine lv_bipush (v := 114) hx hb dX12_wordOf_352 (by decide) ?_
    refine lv_iconst (v := 0) hx hb dX12_wordOf_354 (by decide) ?_
    refine lv_iconst (v := 0) hx hb dX12_wordOf_355 (by decide) ?_
    refine lv_iconst (v := 0) hx hb dX12_wordOf_356 (by decide) ?_
    refine lv_iconst (v := 0) hx hb dX12_wordOf_357 (by decide) ?_
    refine lv_iconst (v := 0) hx hb dX12_wordOf_358 (by decide) ?_
    refine oC_l (Wc := []) (Wr := []) (va_runS (As := [.int 111, .int 114, .int 0, .int 0, .int 0, .int 0, .int 0]) (rest := []) ⟨hx, hb, hml, hown, hts⟩ (e_X12_spelt_15 l D ca H.size ) (va_cwS 7 hts gX12_wordOf_X12_spelt rfl rfl rfl (by decide +kernel) ⟨Nat.le_of_ble_eq_true rfl, Nat.le_of_ble_eq_true rfl⟩) (oPS hK hP hD [] rfl (by decide)) rfl rfl hl.1 rfl (lv_room (Nat.le_of_ble_eq_true rfl)) dX12_wordOf_359 ⟨Nat.le_of_ble_eq_true rfl, Nat.le_of_ble_eq_true rfl⟩) hP hD hS hA [] [] rfl rfl (by decide) (by decide) (fun r_206 u H locs w_207 hP hD hS => ?_)
    obtain ⟨⟩ := u
    have hP : va_P D vwCl [] H := hP
    have hD : va_D A [] := hD
    try dsimp only at w_207
    obtain ⟨h_208, h_209⟩ := w_207
    subst h_208
    have hY := hY.trans (lt1_e h_209)
    exact oE_l hx hb hr hlocks hP hD hS () [] rfl (by decide) ⟨(by decide), hY.symm⟩ (Nat.le_of_ble_eq_true rfl) (Nat.le_of_ble_eq_true rfl) dX12_wordOf_362
  have hY := hY.trans (if_neg c_205)
  by_cases c_210 : a1 = 16
  · skip
    refine oti 16 c_210 ?_
    have hY := hY.trans (if_pos c_210)
    refine lv_tableIn (off := 362) (tgt := 363) hx hb dX12_wordOf_1 (by decide) (by decide) (by decide) (by decide) ?_
    refine lv_bipush (v := 97) hx hb dX12_wordOf_363 (by decide) ?_
    refine lv_bipush (v := 110) hx hb dX12_wordOf_365 (by decide) ?_
    refine lv_bipush (v := 100) hx hb dX12_wordOf_367 (by decide) ?_
    refine lv_iconst (v := 0) hx hb dX12_wordOf_369 (by decide) ?_
    refine lv_iconst (v := 0) hx hb dX12_wordOf_370 (by decide) ?_
    refine lv_iconst (v := 0) hx hb dX12_wordOf_371 (by decide) ?_
    refine lv_iconst (v := 0) hx hb dX12_wordOf_372 (by decide) ?_
    refine oC_l (Wc := []) (Wr := []) (va_runS (As := [.int 97, .int 110, .int 100, .int 0, .int 0, .int 0, .int 0]) (rest := []) ⟨hx, hb, hml, hown, hts⟩ (e_X12_spelt_16 l D ca H.size ) (va_cwS 7 hts gX12_wordOf_X12_spelt rfl rfl rfl (by decide +kernel) ⟨Nat.le_of_ble_eq_true rfl, Nat.le_of_ble_eq_true rfl⟩) (oPS hK hP hD [] rfl (by decide)) rfl rfl hl.1 rfl (lv_room (Nat.le_of_ble_eq_true rfl)) dX12_wordOf_373 ⟨Nat.le_of_ble_eq_true rfl, Nat.le_of_ble_eq_true rfl⟩) hP hD hS hA [] [] rfl rfl (by decide) (by decide) (fun r_211 u H locs w_212 hP hD hS => ?_)
    obtain ⟨⟩ := u
    have hP : va_P D vwCl [] H := hP
    have hD : va_D A [] := hD
    try dsimp only at w_212
    obtain ⟨h_213, h_214⟩ := w_212
    subst h_213
    have hY := hY.trans (lt1_e h_214)
    exact oE_l hx hb hr hlocks hP hD hS () [] rfl (by decide) ⟨(by decide), hY.symm⟩ (Nat.le_of_ble_eq_true rfl) (Nat.le_of_ble_eq_true rfl) dX12_wordOf_376
  have hY := hY.trans (if_neg c_210)
  by_cases c_215 : a1 = 17
  · skip
    refine oti 17 c_215 ?_
    have hY := hY.trans (if_pos c_215)
    refine lv_tableIn (off := 376) (tgt := 377) hx hb dX12_wordOf_1 (by decide) (by decide) (by decide) (by decide) ?_
    refine lv_bipush (v := 110) hx hb dX12_wordOf_377 (by decide) ?_
    refine lv_bipush (v := 111) hx hb dX12_wordOf_379 (by decide) ?_
    refine lv_bipush (v := 116) hx hb dX12_wordOf_381 (by decide) ?_
    refine lv_iconst (v := 0) hx hb dX12_wordOf_383 (by decide) ?_
    refine lv_iconst (v := 0) hx hb dX12_wordOf_384 (by decide) ?_
    refine lv_iconst (v := 0) hx hb dX12_wordOf_385 (by decide) ?_
    refine lv_iconst (v := 0) hx hb dX12_wordOf_386 (by decide) ?_
    refine oC_l (Wc := []) (Wr := []) (va_runS (As := [.int 110, .int 111, .int 116, .int 0, .int 0, .int 0, .int 0]) (rest := []) ⟨hx, hb, hml, hown, hts⟩ (e_X12_spelt_17 l D ca H.size ) (va_cwS 7 hts gX12_wordOf_X12_spelt rfl rfl rfl (by decide +kernel) ⟨Nat.le_of_ble_eq_true rfl, Nat.le_of_ble_eq_true rfl⟩) (oPS hK hP hD [] rfl (by decide)) rfl rfl hl.1 rfl (lv_room (Nat.le_of_ble_eq_true rfl)) dX12_wordOf_387 ⟨Nat.le_of_ble_eq_true rfl, Nat.le_of_ble_eq_true rfl⟩) hP hD hS hA [] [] rfl rfl (by decide) (by decide) (fun r_216 u H locs w_217 hP hD hS => ?_)
    obtain ⟨⟩ := u
    have hP : va_P D vwCl [] H := hP
    have hD : va_D A [] := hD
    try dsimp only at w_217
    obtain ⟨h_218, h_219⟩ := w_217
    subst h_218
    have hY := hY.trans (lt1_e h_219)
    exact oE_l hx hb hr hlocks hP hD hS () [] rfl (by decide) ⟨(by decide), hY.symm⟩ (Nat.le_of_ble_eq_true rfl) (Nat.le_of_ble_eq_true rfl) dX12_wordOf_390
  have hY := hY.trans (if_neg c_215)
  by_cases c_220 : a1 = 18
  · skip
    refine oti 18 c_220 ?_
    have hY := hY.trans (if_pos c_220)
    refine lv_tableIn (off := 390) (tgt := 391) hx hb dX12_wordOf_1 (by decide) (by decide) (by decide) (by decide) ?_
    refine lv_bipush (v := 115) hx hb dX12_wordOf_391 (by decide) ?_
    refine lv_bipush (v := 105) hx hb dX12_wordOf_393 (by decide) ?_
    refine lv_bipush (v := 116) hx hb dX12_wordOf_395 (by decide) ?_
    refine lv_bipush (v := 116) hx hb dX12_wordOf_397 (by decide) ?_
    refine lv_bipush (v := 105) hx hb dX12_wordOf_399 (by decide) ?_
    refine lv_bipush (v := 110) hx hb dX12_wordOf_401 (by decide) ?_
    refine lv_bipush (v := 103) hx hb dX12_wordOf_403 (by decide) ?_
    refine oC_l (Wc := []) (Wr := []) (va_runS (As := [.int 115, .int 105, .int 116, .int 116, .int 105, .int 110, .int 103]) (rest := []) ⟨hx, hb, hml, hown, hts⟩ (e_X12_spelt_18 l D ca H.size ) (va_cwS 7 hts gX12_wordOf_X12_spelt rfl rfl rfl (by decide +kernel) ⟨Nat.le_of_ble_eq_true rfl, Nat.le_of_ble_eq_true rfl⟩) (oPS hK hP hD [] rfl (by decide)) rfl rfl hl.1 rfl (lv_room (Nat.le_of_ble_eq_true rfl)) dX12_wordOf_405 ⟨Nat.le_of_ble_eq_true rfl, Nat.le_of_ble_eq_true rfl⟩) hP hD hS hA [] [] rfl rfl (by decide) (by decide) (fun r_221 u H locs w_222 hP hD hS => ?_)
    obtain ⟨⟩ := u
    have hP : va_P D vwCl [] H := hP
    have hD : va_D A [] := hD
    try dsimp only at w_222
    obtain ⟨h_223, h_224⟩ := w_222
    subst h_223
    have hY := hY.trans (lt1_e h_224)
    exact oE_l hx hb hr hlocks hP hD hS () [] rfl (by decide) ⟨(by decide), hY.symm⟩ (Nat.le_of_ble_eq_true rfl) (Nat.le_of_ble_eq_true rfl) dX12_wordOf_408
  have hY := hY.trans (if_neg c_220)
  by_cases c_225 : a1 = 19
  · skip
    refine oti 19 c_225 ?_
    have hY := hY.trans (if_pos c_225)
    refine lv_tableIn (off := 408) (tgt := 409) hx hb dX12_wordOf_1 (by decide) (by decide) (by decide) (by decide) ?_
    refine lv_bipush (v := 104) hx hb dX12_wordOf_409 (by decide) ?_
    refine lv_bipush (v := 111) hx hb dX12_wordOf_411 (by decide) ?_
    refine lv_bipush (v := 108) hx hb dX12_wordOf_413 (by decide) ?_
    refine lv_bipush (v := 100) hx hb dX12_wordOf_415 (by decide) ?_
    refine lv_bipush (v := 105) hx hb dX12_wordOf_417 (by decide) ?_
    refine lv_bipush (v := 110) hx hb dX12_wordOf_419 (by decide) ?_
    refine lv_bipush (v := 103) hx hb dX12_wordOf_421 (by decide) ?_
    refine oC_l (Wc := []) (Wr := []) (va_runS (As := [.int 104, .int 111, .int 108, .int 100, .int 105, .int 110, .int 103]) (rest := []) ⟨hx, hb, hml, hown, hts⟩ (e_X12_spelt_19 l D ca H.size ) (va_cwS 7 hts gX12_wordOf_X12_spelt rfl rfl rfl (by decide +kernel) ⟨Nat.le_of_ble_eq_true rfl, Nat.le_of_ble_eq_true rfl⟩) (oPS hK hP hD [] rfl (by decide)) rfl rfl hl.1 rfl (lv_room (Nat.le_of_ble_eq_true rfl)) dX12_wordOf_423 ⟨Nat.le_of_ble_eq_true rfl, Nat.le_of_ble_eq_true rfl⟩) hP hD hS hA [] [] rfl rfl (by decide) (by decide) (fun r_226 u H locs w_227 hP hD hS => ?_)
    obtain ⟨⟩ := u
    have hP : va_P D vwCl [] H := hP
    have hD : va_D A [] := hD
    try dsimp only at w_227
    obtain ⟨h_228, h_229⟩ := w_227
    subst h_228
    have hY := hY.trans (lt1_e h_229)
    exact oE_l hx hb hr hlocks hP hD hS () [] rfl (by decide) ⟨(by decide), hY.symm⟩ (Nat.le_of_ble_eq_true rfl) (Nat.le_of_ble_eq_true rfl) dX12_wordOf_426
  have hY := hY.trans (if_neg c_225)
  by_cases c_230 : a1 = 20
  · skip
    refine oti 20 c_230 ?_
    have hY := hY.trans (if_pos c_230)
    refine lv_tableIn (off := 426) (tgt := 427) hx hb dX12_wordOf_1 (by decide) (by decide) (by decide) (by decide) ?_
    refine lv_bipush (v := 100) hx hb dX12_wordOf_427 (by decide) ?_
    refine lv_bipush (v := 101) hx hb dX12_wordOf_429 (by decide) ?_
    refine lv_bipush (v := 110) hx hb dX12_wordOf_431 (by decide) ?_
    refine lv_bipush (v := 116) hx hb dX12_wordOf_433 (by decide) ?_
    refine lv_bipush (v := 101) hx hb dX12_wordOf_435 (by decide) ?_
    refine lv_bipush (v := 100) hx hb dX12_wordOf_437 (by decide) ?_
    refine lv_iconst (v := 0) hx hb dX12_wordOf_439 (by decide) ?_
    refine oC_l (Wc := []) (Wr := []) (va_runS (As := [.int 100, .int 101, .int 110, .int 116, .int 101, .int 100, .int 0]) (rest := []) ⟨hx, hb, hml, hown, hts⟩ (e_X12_spelt_20 l D ca H.size ) (va_cwS 7 hts gX12_wordOf_X12_spelt rfl rfl rfl (by decide +kernel) ⟨Nat.le_of_ble_eq_true rfl, Nat.le_of_ble_eq_true rfl⟩) (oPS hK hP hD [] rfl (by decide)) rfl rfl hl.1 rfl (lv_room (Nat.le_of_ble_eq_true rfl)) dX12_wordOf_440 ⟨Nat.le_of_ble_eq_true rfl, Nat.le_of_ble_eq_true rfl⟩) hP hD hS hA [] [] rfl rfl (by decide) (by decide) (fun r_231 u H locs w_232 hP hD hS => ?_)
    obtain ⟨⟩ := u
    have hP : va_P D vwCl [] H := hP
    have hD : va_D A [] := hD
    try dsimp only at w_232
    obtain ⟨h_233, h_234⟩ := w_232
    subst h_233
    have hY := hY.trans (lt1_e h_234)
    exact oE_l hx hb hr hlocks hP hD hS () [] rfl (by decide) ⟨(by decide), hY.symm⟩ (Nat.le_of_ble_eq_true rfl) (Nat.le_of_ble_eq_true rfl) dX12_wordOf_443
  have hY := hY.trans (if_neg c_230)
  by_cases c_235 : a1 = 21
  · skip
    refine oti 21 c_235 ?_
    have hY := hY.trans (if_pos c_235)
    refine lv_tableIn (off := 443) (tgt := 444) hx hb dX12_wordOf_1 (by decide) (by decide) (by decide) (by decide) ?_
    refine lv_bipush (v := 114) hx hb dX12_wordOf_444 (by decide) ?_
    refine lv_bipush (v := 105) hx hb dX12_wordOf_446 (by decide) ?_
    refine lv_bipush (v := 110) hx hb dX12_wordOf_448 (by decide) ?_
    refine lv_bipush (v := 103) hx hb dX12_wordOf_450 (by decide) ?_
    refine lv_bipush (v := 115) hx hb dX12_wordOf_452 (by decide) ?_
    refine lv_iconst (v := 0) hx hb dX12_wordOf_454 (by decide) ?_
    refine lv_iconst (v := 0) hx hb dX12_wordOf_455 (by decide) ?_
    refine oC_l (Wc := []) (Wr := []) (va_runS (As := [.int 114, .int 105, .int 110, .int 103, .int 115, .int 0, .int 0]) (rest := []) ⟨hx, hb, hml, hown, hts⟩ (e_X12_spelt_21 l D ca H.size ) (va_cwS 7 hts gX12_wordOf_X12_spelt rfl rfl rfl (by decide +kernel) ⟨Nat.le_of_ble_eq_true rfl, Nat.le_of_ble_eq_true rfl⟩) (oPS hK hP hD [] rfl (by decide)) rfl rfl hl.1 rfl (lv_room (Nat.le_of_ble_eq_true rfl)) dX12_wordOf_456 ⟨Nat.le_of_ble_eq_true rfl, Nat.le_of_ble_eq_true rfl⟩) hP hD hS hA [] [] rfl rfl (by decide) (by decide) (fun r_236 u H locs w_237 hP hD hS => ?_)
    obtain ⟨⟩ := u
    have hP : va_P D vwCl [] H := hP
    have hD : va_D A [] := hD
    try dsimp only at w_237
    obtain ⟨h_238, h_239⟩ := w_237
    subst h_238
    have hY := hY.trans (lt1_e h_239)
    exact oE_l hx hb hr hlocks hP hD hS () [] rfl (by decide) ⟨(by decide), hY.symm⟩ (Nat.le_of_ble_eq_true rfl) (Nat.le_of_ble_eq_true rfl) dX12_wordOf_459
  have hY := hY.trans (if_neg c_235)
  by_cases c_240 : a1 = 22
  · skip
    refine oti 22 c_240 ?_
    have hY := hY.trans (if_pos c_240)
    refine lv_tableIn (off := 459) (tgt := 460) hx hb dX12_wordOf_1 (by decide) (by decide) (by decide) (by decide) ?_
    refine lv_bipush (v := 112) hx hb dX12_wordOf_460 (by decide) ?_
    refine lv_bipush (v := 105) hx hb dX12_wordOf_462 (by decide) ?_
    refine lv_bipush (v := 116) hx hb dX12_wordOf_464 (by decide) ?_
    refine lv_bipush (v := 99) hx hb dX12_wordOf_466 (by decide) ?_
    refine lv_bipush (v := 104) hx hb dX12_wordOf_468 (by decide) ?_
    refine lv_iconst (v := 0) hx hb dX12_wordOf_470 (by decide) ?_
    refine lv_iconst (v := 0) hx hb dX12_wordOf_471 (by decide) ?_
    refine oC_l (Wc := []) (Wr := []) (va_runS (As := [.int 112, .int 105, .int 116, .int 99, .int 104, .int 0, .int 0]) (rest := []) ⟨hx, hb, hml, hown, hts⟩ (e_X12_spelt_22 l D ca H.size ) (va_cwS 7 hts gX12_wordOf_X12_spelt rfl rfl rfl (by decide +kernel) ⟨Nat.le_of_ble_eq_true rfl, Nat.le_of_ble_eq_true rfl⟩) (oPS hK hP hD [] rfl (by decide)) rfl rfl hl.1 rfl (lv_room (Nat.le_of_ble_eq_true rfl)) dX12_wordOf_472 ⟨Nat.le_of_ble_eq_true rfl, Nat.le_of_ble_eq_true rfl⟩) hP hD hS hA [] [] rfl rfl (by decide) (by decide) (fun r_241 u H locs w_242 hP hD hS => ?_)
    obtain ⟨⟩ := u
    have hP : va_P D vwCl [] H := hP
    have hD : va_D A [] := hD
    try dsimp only at w_242
    obtain ⟨h_243, h_244⟩ := w_242
    subst h_243
    have hY := hY.trans (lt1_e h_244)
    exact oE_l hx hb hr hlocks hP hD hS () [] rfl (by decide) ⟨(by decide), hY.symm⟩ (Nat.le_of_ble_eq_true rfl) (Nat.le_of_ble_eq_true rfl) dX12_wordOf_475
  have hY := hY.trans (if_neg c_240)
  by_cases c_245 : a1 = 23
  · skip
    refine oti 23 c_245 ?_
    have hY := hY.trans (if_pos c_245)
    refine lv_tableIn (off := 475) (tgt := 476) hx hb dX12_wordOf_1 (by decide) (by decide) (by decide) (by decide) ?_
    refine lv_bipush (v := 108) hx hb dX12_wordOf_476 (by decide) ?_
    refine lv_bipush (v := 101) hx hb dX12_wordOf_478 (by decide) ?_
    refine lv_bipush (v := 110) hx hb dX12_wordOf_480 (by decide) ?_
    refine lv_bipush (v := 103) hx hb dX12_wordOf_482 (by decide) ?_
    refine lv_bipush (v := 116) hx hb dX12_wordOf_484 (by decide) ?_
    refine lv_bipush (v := 104) hx hb dX12_wordOf_486 (by decide) ?_
    refine lv_iconst (v := 0) hx hb dX12_wordOf_488 (by decide) ?_
    refine oC_l (Wc := []) (Wr := []) (va_runS (As := [.int 108, .int 101, .int 110, .int 103, .int 116, .int 104, .int 0]) (rest := []) ⟨hx, hb, hml, hown, hts⟩ (e_X12_spelt_23 l D ca H.size ) (va_cwS 7 hts gX12_wordOf_X12_spelt rfl rfl rfl (by decide +kernel) ⟨Nat.le_of_ble_eq_true rfl, Nat.le_of_ble_eq_true rfl⟩) (oPS hK hP hD [] rfl (by decide)) rfl rfl hl.1 rfl (lv_room (Nat.le_of_ble_eq_true rfl)) dX12_wordOf_489 ⟨Nat.le_of_ble_eq_true rfl, Nat.le_of_ble_eq_true rfl⟩) hP hD hS hA [] [] rfl rfl (by decide) (by decide) (fun r_246 u H locs w_247 hP hD hS => ?_)
    obtain ⟨⟩ := u
    have hP : va_P D vwCl [] H := hP
    have hD : va_D A [] := hD
    try dsimp only at w_247
    obtain ⟨h_248, h_249⟩ := w_247
    subst h_248
    have hY := hY.trans (lt1_e h_249)
    exact oE_l hx hb hr hlocks hP hD hS () [] rfl (by decide) ⟨(by decide), hY.symm⟩ (Nat.le_of_ble_eq_true rfl) (Nat.le_of_ble_eq_true rfl) dX12_wordOf_492
  have hY := hY.trans (if_neg c_245)
  by_cases c_250 : a1 = 24
  · skip
    refine oti 24 c_250 ?_
    have hY := hY.trans (if_pos c_250)
    refine lv_tableIn (off := 492) (tgt := 493) hx hb dX12_wordOf_1 (by decide) (by decide) (by decide) (by decide) ?_
    refine lv_bipush (v := 100) hx hb dX12_wordOf_493 (by decide) ?_
    refine lv_bipush (v := 101) hx hb dX12_wordOf_495 (by decide) ?_
    refine lv_bipush (v := 110) hx hb dX12_wordOf_497 (by decide) ?_
    refine lv_bipush (v := 116) hx hb dX12_wordOf_499 (by decide) ?_
    refine lv_bipush (v := 115) hx hb dX12_wordOf_501 (by decide) ?_
    refine lv_iconst (v := 0) hx hb dX12_wordOf_503 (by decide) ?_
    refine lv_iconst (v := 0) hx hb dX12_wordOf_504 (by decide) ?_
    refine oC_l (Wc := []) (Wr := []) (va_runS (As := [.int 100, .int 101, .int 110, .int 116, .int 115, .int 0, .int 0]) (rest := []) ⟨hx, hb, hml, hown, hts⟩ (e_X12_spelt_24 l D ca H.size ) (va_cwS 7 hts gX12_wordOf_X12_spelt rfl rfl rfl (by decide +kernel) ⟨Nat.le_of_ble_eq_true rfl, Nat.le_of_ble_eq_true rfl⟩) (oPS hK hP hD [] rfl (by decide)) rfl rfl hl.1 rfl (lv_room (Nat.le_of_ble_eq_true rfl)) dX12_wordOf_505 ⟨Nat.le_of_ble_eq_true rfl, Nat.le_of_ble_eq_true rfl⟩) hP hD hS hA [] [] rfl rfl (by decide) (by decide) (fun r_251 u H locs w_252 hP hD hS => ?_)
    obtain ⟨⟩ := u
    have hP : va_P D vwCl [] H := hP
    have hD : va_D A [] := hD
    try dsimp only at w_252
    obtain ⟨h_253, h_254⟩ := w_252
    subst h_253
    have hY := hY.trans (lt1_e h_254)
    exact oE_l hx hb hr hlocks hP hD hS () [] rfl (by decide) ⟨(by decide), hY.symm⟩ (Nat.le_of_ble_eq_true rfl) (Nat.le_of_ble_eq_true rfl) dX12_wordOf_508
  have hY := hY.trans (if_neg c_250)
  have t0 := lv_neT c_130 (show (0 : Int32).toInt = 0 by decide)
  have t1 := lv_neT c_135 (show (1 : Int32).toInt = 1 by decide)
  have t2 := lv_neT c_140 (show (2 : Int32).toInt = 2 by decide)
  have t3 := lv_neT c_145 (show (3 : Int32).toInt = 3 by decide)
  have t4 := lv_neT c_150 (show (4 : Int32).toInt = 4 by decide)
  have t5 := lv_neT c_155 (show (5 : Int32).toInt = 5 by decide)
  have t6 := lv_neT c_160 (show (6 : Int32).toInt = 6 by decide)
  have t7 := lv_neT c_165 (show (7 : Int32).toInt = 7 by decide)
  have t8 := lv_neT c_170 (show (8 : Int32).toInt = 8 by decide)
  have t9 := lv_neT c_175 (show (9 : Int32).toInt = 9 by decide)
  have t10 := lv_neT c_180 (show (10 : Int32).toInt = 10 by decide)
  have t11 := lv_neT c_185 (show (11 : Int32).toInt = 11 by decide)
  have t12 := lv_neT c_190 (show (12 : Int32).toInt = 12 by decide)
  have t13 := lv_neT c_195 (show (13 : Int32).toInt = 13 by decide)
  have t14 := lv_neT c_200 (show (14 : Int32).toInt = 14 by decide)
  have t15 := lv_neT c_205 (show (15 : Int32).toInt = 15 by decide)
  have t16 := lv_neT c_210 (show (16 : Int32).toInt = 16 by decide)
  have t17 := lv_neT c_215 (show (17 : Int32).toInt = 17 by decide)
  have t18 := lv_neT c_220 (show (18 : Int32).toInt = 18 by decide)
  have t19 := lv_neT c_225 (show (19 : Int32).toInt = 19 by decide)
  have t20 := lv_neT c_230 (show (20 : Int32).toInt = 20 by decide)
  have t21 := lv_neT c_235 (show (21 : Int32).toInt = 21 by decide)
  have t22 := lv_neT c_240 (show (22 : Int32).toInt = 22 by decide)
  have t23 := lv_neT c_245 (show (23 : Int32).toInt = 23 by decide)
  have t24 := lv_neT c_250 (show (24 : Int32).toInt = 24 by decide)
  have t97 := (i_a1).1
  have t98 := (i_a1).2
  refine lv_tableOut (tgt := 509) hx hb dX12_wordOf_1 (by omega) (by decide) ?_
  refine lv_bipush (v := 110) hx hb dX12_wordOf_509 (by decide) ?_
  refine lv_bipush (v := 117) hx hb dX12_wordOf_511 (by decide) ?_
  refine lv_bipush (v := 109) hx hb dX12_wordOf_513 (by decide) ?_
  refine lv_bipush (v := 98) hx hb dX12_wordOf_515 (by decide) ?_
  refine lv_bipush (v := 101) hx hb dX12_wordOf_517 (by decide) ?_
  refine lv_bipush (v := 114) hx hb dX12_wordOf_519 (by decide) ?_
  refine lv_iconst (v := 0) hx hb dX12_wordOf_521 (by decide) ?_
  refine oC_l (Wc := []) (Wr := []) (va_runS (As := [.int 110, .int 117, .int 109, .int 98, .int 101, .int 114, .int 0]) (rest := []) ⟨hx, hb, hml, hown, hts⟩ (e_X12_spelt_25 l D ca H.size ) (va_cwS 7 hts gX12_wordOf_X12_spelt rfl rfl rfl (by decide +kernel) ⟨Nat.le_of_ble_eq_true rfl, Nat.le_of_ble_eq_true rfl⟩) (oPS hK hP hD [] rfl (by decide)) rfl rfl hl.1 rfl (lv_room (Nat.le_of_ble_eq_true rfl)) dX12_wordOf_522 ⟨Nat.le_of_ble_eq_true rfl, Nat.le_of_ble_eq_true rfl⟩) hP hD hS hA [] [] rfl rfl (by decide) (by decide) (fun r_255 u H locs w_256 hP hD hS => ?_)
  obtain ⟨⟩ := u
  have hP : va_P D vwCl [] H := hP
  have hD : va_D A [] := hD
  try dsimp only at w_256
  obtain ⟨h_257, h_258⟩ := w_256
  subst h_257
  have hY := hY.trans (lt1_e h_258)
  exact oE_l hx hb hr hlocks hP hD hS () [] rfl (by decide) ⟨(by decide), hY.symm⟩ (Nat.le_of_ble_eq_true rfl) (Nat.le_of_ble_eq_true rfl) dX12_wordOf_525
theorem dX12_isWord_0 : decode cX12_isWord 0 = .ok (.aload_n 0, 1) := by decide +kernel
theorem dX12_isWord_1 : decode cX12_isWord 1 = .ok (.getfield 30, 3) := by decide +kernel
theorem dX12_isWord_4 : decode cX12_isWord 4 = .ok (.iconst 2, 1) := by decide +kernel
theorem dX12_isWord_5 : decode cX12_isWord 5 = .ok (.if_icmp .ne 19, 3) := by decide +kernel
theorem dX12_isWord_8 : decode cX12_isWord 8 = .ok (.aload_n 0, 1) := by decide +kernel
theorem dX12_isWord_9 : decode cX12_isWord 9 = .ok (.getfield 43, 3) := by decide +kernel
theorem dX12_isWord_12 : decode cX12_isWord 12 = .ok (.iload_n 1, 1) := by decide +kernel
theorem dX12_isWord_13 : decode cX12_isWord 13 = .ok (.invokestatic 62, 3) := by decide +kernel
theorem dX12_isWord_16 : decode cX12_isWord 16 = .ok (.lcmp, 1) := by decide +kernel
theorem dX12_isWord_17 : decode cX12_isWord 17 = .ok (.ifCond .ne 7, 3) := by decide +kernel
theorem dX12_isWord_20 : decode cX12_isWord 20 = .ok (.iconst 1, 1) := by decide +kernel
theorem dX12_isWord_21 : decode cX12_isWord 21 = .ok (.goto 4, 3) := by decide +kernel
theorem dX12_isWord_24 : decode cX12_isWord 24 = .ok (.iconst 0, 1) := by decide +kernel
theorem dX12_isWord_25 : decode cX12_isWord 25 = .ok (.ireturn, 1) := by decide +kernel
set_option maxRecDepth 20000 in
theorem ggX12_isWord_X12_wordOf : GoodIn wsX12_isWord wsX12_wordOf := goodIn_r _ [6, 7, 8, 5, 9, 10, 11] rfl (by decide +kernel)
set_option maxRecDepth 20000 in
theorem gX12_isWord_X12_wordOf : GoodIn wsX12_isWord (va_wsS RX12 62 yX12_wordOf wsX12_wordOf) := goodIn_app (goodIn_of _ (by decide +kernel)) ggX12_isWord_X12_wordOf
set_option maxHeartbeats 4000000 in
set_option maxRecDepth 100000 in
theorem e_X12_isWord_0 (l : Launch) (D : va_G) (ca : Nat → ClassId) (sz : Nat) (h0 : Nat) (h0_thrown : Int32) (h0_tape : Nat) (h0_taped : Int32) (h0_size : Int32) (h0_limit : Int32) (h0_to : Int32) (h0_from : Int32) (h0_kind : Int32) (h0_number : Int32) (h0_sign : Int32) (h0_fault : Int32) (h0_place : Int32) (h0_word : Int64) (h0_told : Int32) (h0_now : Nat) (h0_read : Nat) (h0_kept : Nat) (h0_snaps : Nat) (h0_aside : Nat) (h0_name : Nat) (h0_readName : Nat) (h0_keptName : Nat) (h0_isKept : Nat) (h0_onces : Nat) (h0_snapMany : Int32) (h0_lowest : Int32) (h0_highest : Int32) (h0_agreed : Int32) (h0_jurors : Int32) (h0_panelled : Int32) (h0_inSets : Nat) (h0_surely : Int32) (h0_asked : Int32) (h0_frees : Nat) (h0_struck : Int32) (h0_beating : Int32) (h0_text : Nat) (h0_texts : Int32) (h0_seed : Int32) (h0_line : Nat) (h0_written : Nat) (h0_lineMany : Int32) (h0_hasWritten : Int32) (h0_node : Nat) (h0_nodes : Int32) (h0_onesMany : Int32) (h0_within : Int32) (h0_top : Int32) (i_h0_taped : rg 0 940 h0_taped) (i_h0_size : rg 0 940 h0_size) (i_h0_to : rg 0 940 h0_to) (i_h0_kind : rg 0 4 h0_kind) (i_h0_snapMany : rg 0 8 h0_snapMany) (i_h0_texts : rg 0 64 h0_texts) (i_h0_lineMany : rg 0 40 h0_lineMany) (i_h0_hasWritten : rg 0 1 h0_hasWritten) (i_h0_nodes : rg 0 60 h0_nodes) (i_h0_onesMany : rg 0 20 h0_onesMany) : oMet l yX12_isWord wsX12_isWord ({ frames := 2, cells := 0, slots := 0, locals := 48 } : Room) [.ref h0, .int 0] D ca sz [(h0, .inr (11, [.int h0_thrown, .ref h0_tape, .int h0_taped, .int h0_size, .int h0_limit, .int h0_to, .int h0_from, .int h0_kind, .int h0_number, .int h0_sign, .int h0_fault, .int h0_place, .long h0_word, .int h0_told, .ref h0_now, .ref h0_read, .ref h0_kept, .ref h0_snaps, .ref h0_aside, .ref h0_name, .ref h0_readName, .ref h0_keptName, .ref h0_isKept, .ref h0_onces, .int h0_snapMany, .int h0_lowest, .int h0_highest, .int h0_agreed, .int h0_jurors, .int h0_panelled, .ref h0_inSets, .int h0_surely, .int h0_asked, .ref h0_frees, .int h0_struck, .int h0_beating, .ref h0_text, .int h0_texts, .int h0_seed, .ref h0_line, .ref h0_written, .int h0_lineMany, .int h0_hasWritten, .ref h0_node, .int h0_nodes, .int h0_onesMany, .int h0_within, .int h0_top]))] (oQi D (fun (r : Int32) (u : Unit) => ((r = 0) ∧ (r = y_X12_isWord_0 h0_kind h0_word)) ∨ ((r = 1) ∧ (rg 2 2 h0_kind) ∧ (r = y_X12_isWord_0 h0_kind h0_word))) (fun (u : Unit) => [(h0, .inr (11, [.int h0_thrown, .ref h0_tape, .int h0_taped, .int h0_size, .int h0_limit, .int h0_to, .int h0_from, .int h0_kind, .int h0_number, .int h0_sign, .int h0_fault, .int h0_place, .long h0_word, .int h0_told, .ref h0_now, .ref h0_read, .ref h0_kept, .ref h0_snaps, .ref h0_aside, .ref h0_name, .ref h0_readName, .ref h0_keptName, .ref h0_isKept, .ref h0_onces, .int h0_snapMany, .int h0_lowest, .int h0_highest, .int h0_agreed, .int h0_jurors, .int h0_panelled, .ref h0_inSets, .int h0_surely, .int h0_asked, .ref h0_frees, .int h0_struck, .int h0_beating, .ref h0_text, .int h0_texts, .int h0_seed, .ref h0_line, .ref h0_written, .int h0_lineMany, .int h0_hasWritten, .ref h0_node, .int h0_nodes, .int h0_onesMany, .int h0_within, .int h0_top]))])) 0 0 := by
  refine oM (cc := cX12_isWord) (maxL := 2) (ret := (some .boolean)) (by decide) rfl (Nat.le_of_ble_eq_true rfl) [(0, .ref h0), (1, .int 0)] rfl ?_
  intro p e s m below meth c A H locs ls hx hb hr hml hts hown hlocks hin hK hP hD hA hS hl
  have hown : s.vm.findClass RX12 = some m.cls := hown
  have hY := y_X12_isWord_0_s h0_kind h0_word
  have k1 := hts (.fieldLink RX12 30 "LidCourtModel" "kind" "I") (by decide +kernel)
  have k2 : ∀ w ∈ wsX120, w ∈ wsX12_isWord := fun _ h => List.mem_cons_of_mem _ (List.mem_append_right _ h)
  have k3 := hts (.fieldLink RX12 43 "LidCourtModel" "word" "J") (by decide +kernel)
  refine lv_aload_n hx hb dX12_isWord_0 rfl (lv_at hl 0 rfl) ?_
  refine va_get (D := D) (ci := 11) (v := .int h0_kind) (C := RX12) (T := TX12) (N := 48) hx hb hts k2 hown hK.1 hP 0 rfl rfl 7 (by decide) k1 (fun _ h9 => h9) rfl dX12_isWord_1 ?_
  refine lv_iconst (v := 2) hx hb dX12_isWord_4 (by decide) ?_
  refine lv_icmp_ne (tgt := 24) hx hb dX12_isWord_5 (by decide) (fun c_18 => ?_) (fun c_18 => ?_)
  · skip
    have hY := hY.trans (if_neg c_18)
    refine lv_iconst (v := 0) hx hb dX12_isWord_24 (by decide) ?_
    exact oE_i hx hb hr (by decide) hlocks hP hD hS () [0] rfl (by decide) (Or.inl ⟨rfl, hY.symm⟩) (Nat.le_of_ble_eq_true rfl) (Nat.le_of_ble_eq_true rfl) dX12_isWord_25
  · skip
    have hY := hY.trans (if_pos c_18)
    have o_19 : rl 0 h0_kind 2 := rl_eq c_18
    have h_20 : rg 0 2 h0_kind := rl_x o_19 i_h0_kind (⟨by decide, by decide⟩ : rg 2 2 (2 : Int32)) (by decide) (by decide)
    have o_21 : rl 0 2 h0_kind := rl_eq c_18.symm
    have h_22 : rg 2 2 h0_kind := rl_y o_21 (⟨by decide, by decide⟩ : rg 2 2 (2 : Int32)) h_20 (by decide) (by decide)
    refine lv_aload_n hx hb dX12_isWord_8 rfl (lv_at hl 0 rfl) ?_
    refine va_get (D := D) (ci := 11) (v := .long h0_word) (C := RX12) (T := TX12) (N := 48) hx hb hts k2 hown hK.1 hP 0 rfl rfl 12 (by decide) k3 (fun _ h9 => h9) rfl dX12_isWord_9 ?_
    refine lv_iload_n hx hb dX12_isWord_12 rfl (lv_at hl 1 rfl) ?_
    refine oC_l (Wc := []) (Wr := [(h0, .inr (11, [.int h0_thrown, .ref h0_tape, .int h0_taped, .int h0_size, .int h0_limit, .int h0_to, .int h0_from, .int h0_kind, .int h0_number, .int h0_sign, .int h0_fault, .int h0_place, .long h0_word, .int h0_told, .ref h0_now, .ref h0_read, .ref h0_kept, .ref h0_snaps, .ref h0_aside, .ref h0_name, .ref h0_readName, .ref h0_keptName, .ref h0_isKept, .ref h0_onces, .int h0_snapMany, .int h0_lowest, .int h0_highest, .int h0_agreed, .int h0_jurors, .int h0_panelled, .ref h0_inSets, .int h0_surely, .int h0_asked, .ref h0_frees, .int h0_struck, .int h0_beating, .ref h0_text, .int h0_texts, .int h0_seed, .ref h0_line, .ref h0_written, .int h0_lineMany, .int h0_hasWritten, .ref h0_node, .int h0_nodes, .int h0_onesMany, .int h0_within, .int h0_top]))]) (va_runS (As := [.int 0]) (rest := [.long h0_word]) ⟨hx, hb, hml, hown, hts⟩ (e_X12_wordOf_0 l D ca H.size ) (va_cwS 1 hts gX12_isWord_X12_wordOf rfl rfl rfl (by decide +kernel) ⟨Nat.le_of_ble_eq_true rfl, Nat.le_of_ble_eq_true rfl⟩) (oPS hK hP hD [] rfl (by decide)) rfl rfl hl.1 rfl (lv_room (Nat.le_of_ble_eq_true rfl)) dX12_isWord_13 ⟨Nat.le_of_ble_eq_true rfl, Nat.le_of_ble_eq_true rfl⟩) hP hD hS hA [] [0] rfl rfl (by decide) (by decide) (fun r_23 u H locs w_24 hP hD hS => ?_)
    obtain ⟨⟩ := u
    have hP : va_P D vwCl [(h0, .inr (11, [.int h0_thrown, .ref h0_tape, .int h0_taped, .int h0_size, .int h0_limit, .int h0_to, .int h0_from, .int h0_kind, .int h0_number, .int h0_sign, .int h0_fault, .int h0_place, .long h0_word, .int h0_told, .ref h0_now, .ref h0_read, .ref h0_kept, .ref h0_snaps, .ref h0_aside, .ref h0_name, .ref h0_readName, .ref h0_keptName, .ref h0_isKept, .ref h0_onces, .int h0_snapMany, .int h0_lowest, .int h0_highest, .int h0_agreed, .int h0_jurors, .int h0_panelled, .ref h0_inSets, .int h0_surely, .int h0_asked, .ref h0_frees, .int h0_struck, .int h0_beating, .ref h0_text, .int h0_texts, .int h0_seed, .ref h0_line, .ref h0_written, .int h0_lineMany, .int h0_hasWritten, .ref h0_node, .int h0_nodes, .int h0_onesMany, .int h0_within, .int h0_top]))] H := hP
    have hD : va_D A [(h0, .inr (11, [.int h0_thrown, .ref h0_tape, .int h0_taped, .int h0_size, .int h0_limit, .int h0_to, .int h0_from, .int h0_kind, .int h0_number, .int h0_sign, .int h0_fault, .int h0_place, .long h0_word, .int h0_told, .ref h0_now, .ref h0_read, .ref h0_kept, .ref h0_snaps, .ref h0_aside, .ref h0_name, .ref h0_readName, .ref h0_keptName, .ref h0_isKept, .ref h0_onces, .int h0_snapMany, .int h0_lowest, .int h0_highest, .int h0_agreed, .int h0_jurors, .int h0_panelled, .ref h0_inSets, .int h0_surely, .int h0_asked, .ref h0_frees, .int h0_struck, .int h0_beating, .ref h0_text, .int h0_texts, .int h0_seed, .ref h0_line, .ref h0_written, .int h0_lineMany, .int h0_hasWritten, .ref h0_node, .int h0_nodes, .int h0_onesMany, .int h0_within, .int h0_top]))] := hD
    try dsimp only at w_24
    obtain ⟨h_25, h_26⟩ := w_24
    subst h_25
    have hY := hY.trans (lt1_e h_26)
    refine W.lcmp hx hb dX12_isWord_16 ?_
    refine lv_topi (fun x_27 ex_27 => ?_)
    have hY := hY.trans (lt1_e ex_27)
    refine lv_if_ne (tgt := 24) hx hb dX12_isWord_17 (by decide) (fun c_28 => ?_) (fun c_28 => ?_)
    · skip
      have hY := hY.trans (if_neg c_28)
      have h_29 : ¬ (h0_word : Int64) = 5741298 := cmp_nn ex_27 c_28
      refine lv_iconst (v := 0) hx hb dX12_isWord_24 (by decide) ?_
      exact oE_i hx hb hr (by decide) hlocks hP hD hS () [0] rfl (by decide) (Or.inl ⟨rfl, hY.symm⟩) (Nat.le_of_ble_eq_true rfl) (Nat.le_of_ble_eq_true rfl) dX12_isWord_25
    · skip
      have hY := hY.trans (if_pos c_28)
      have o_30 : rl 0 x_27 0 := rl_eq c_28
      have h_31 : rg (-2147483648) 0 x_27 := rl_x o_30 (rga x_27) (⟨by decide, by decide⟩ : rg 0 0 (0 : Int32)) (by decide) (by decide)
      have o_32 : rl 0 0 x_27 := rl_eq c_28.symm
      have h_33 : rg 0 0 x_27 := rl_y o_32 (⟨by decide, by decide⟩ : rg 0 0 (0 : Int32)) h_31 (by decide) (by decide)
      have h_34 : (h0_word : Int64) = 5741298 := cmp_eq ex_27 c_28
      refine lv_iconst (v := 1) hx hb dX12_isWord_20 (by decide) ?_
      refine lv_goto (tgt := 25) hx hb dX12_isWord_21 (by decide) ?_
      exact oE_i hx hb hr (by decide) hlocks hP hD hS () [0] rfl (by decide) (Or.inr (⟨rfl, h_22, hY.symm⟩)) (Nat.le_of_ble_eq_true rfl) (Nat.le_of_ble_eq_true rfl) dX12_isWord_25
set_option maxHeartbeats 4000000 in
set_option maxRecDepth 100000 in
theorem e_X12_isWord_1 (l : Launch) (D : va_G) (ca : Nat → ClassId) (sz : Nat) (h0 : Nat) (h0_thrown : Int32) (h0_tape : Nat) (h0_taped : Int32) (h0_size : Int32) (h0_limit : Int32) (h0_to : Int32) (h0_from : Int32) (h0_kind : Int32) (h0_number : Int32) (h0_sign : Int32) (h0_fault : Int32) (h0_place : Int32) (h0_word : Int64) (h0_told : Int32) (h0_now : Nat) (h0_read : Nat) (h0_kept : Nat) (h0_snaps : Nat) (h0_aside : Nat) (h0_name : Nat) (h0_readName : Nat) (h0_keptName : Nat) (h0_isKept : Nat) (h0_onces : Nat) (h0_snapMany : Int32) (h0_lowest : Int32) (h0_highest : Int32) (h0_agreed : Int32) (h0_jurors : Int32) (h0_panelled : Int32) (h0_inSets : Nat) (h0_surely : Int32) (h0_asked : Int32) (h0_frees : Nat) (h0_struck : Int32) (h0_beating : Int32) (h0_text : Nat) (h0_texts : Int32) (h0_seed : Int32) (h0_line : Nat) (h0_written : Nat) (h0_lineMany : Int32) (h0_hasWritten : Int32) (h0_node : Nat) (h0_nodes : Int32) (h0_onesMany : Int32) (h0_within : Int32) (h0_top : Int32) (i_h0_taped : rg 0 940 h0_taped) (i_h0_size : rg 0 940 h0_size) (i_h0_to : rg 0 940 h0_to) (i_h0_kind : rg 0 4 h0_kind) (i_h0_snapMany : rg 0 8 h0_snapMany) (i_h0_texts : rg 0 64 h0_texts) (i_h0_lineMany : rg 0 40 h0_lineMany) (i_h0_hasWritten : rg 0 1 h0_hasWritten) (i_h0_nodes : rg 0 60 h0_nodes) (i_h0_onesMany : rg 0 20 h0_onesMany) : oMet l yX12_isWord wsX12_isWord ({ frames := 2, cells := 0, slots := 0, locals := 48 } : Room) [.ref h0, .int 1] D ca sz [(h0, .inr (11, [.int h0_thrown, .ref h0_tape, .int h0_taped, .int h0_size, .int h0_limit, .int h0_to, .int h0_from, .int h0_kind, .int h0_number, .int h0_sign, .int h0_fault, .int h0_place, .long h0_word, .int h0_told, .ref h0_now, .ref h0_read, .ref h0_kept, .ref h0_snaps, .ref h0_aside, .ref h0_name, .ref h0_readName, .ref h0_keptName, .ref h0_isKept, .ref h0_onces, .int h0_snapMany, .int h0_lowest, .int h0_highest, .int h0_agreed, .int h0_jurors, .int h0_panelled, .ref h0_inSets, .int h0_surely, .int h0_asked, .ref h0_frees, .int h0_struck, .int h0_beating, .ref h0_text, .int h0_texts, .int h0_seed, .ref h0_line, .ref h0_written, .int h0_lineMany, .int h0_hasWritten, .ref h0_node, .int h0_nodes, .int h0_onesMany, .int h0_within, .int h0_top]))] (oQi D (fun (r : Int32) (u : Unit) => ((r = 0) ∧ (r = y_X12_isWord_1 h0_kind h0_word)) ∨ ((r = 1) ∧ (rg 2 2 h0_kind) ∧ (r = y_X12_isWord_1 h0_kind h0_word))) (fun (u : Unit) => [(h0, .inr (11, [.int h0_thrown, .ref h0_tape, .int h0_taped, .int h0_size, .int h0_limit, .int h0_to, .int h0_from, .int h0_kind, .int h0_number, .int h0_sign, .int h0_fault, .int h0_place, .long h0_word, .int h0_told, .ref h0_now, .ref h0_read, .ref h0_kept, .ref h0_snaps, .ref h0_aside, .ref h0_name, .ref h0_readName, .ref h0_keptName, .ref h0_isKept, .ref h0_onces, .int h0_snapMany, .int h0_lowest, .int h0_highest, .int h0_agreed, .int h0_jurors, .int h0_panelled, .ref h0_inSets, .int h0_surely, .int h0_asked, .ref h0_frees, .int h0_struck, .int h0_beating, .ref h0_text, .int h0_texts, .int h0_seed, .ref h0_line, .ref h0_written, .int h0_lineMany, .int h0_hasWritten, .ref h0_node, .int h0_nodes, .int h0_onesMany, .int h0_within, .int h0_top]))])) 0 0 := by
  refine oM (cc := cX12_isWord) (maxL := 2) (ret := (some .boolean)) (by decide) rfl (Nat.le_of_ble_eq_true rfl) [(0, .ref h0), (1, .int 1)] rfl ?_
  intro p e s m below meth c A H locs ls hx hb hr hml hts hown hlocks hin hK hP hD hA hS hl
  have hown : s.vm.findClass RX12 = some m.cls := hown
  have hY := y_X12_isWord_1_s h0_kind h0_word
  have k1 := hts (.fieldLink RX12 30 "LidCourtModel" "kind" "I") (by decide +kernel)
  have k2 : ∀ w ∈ wsX120, w ∈ wsX12_isWord := fun _ h => List.mem_cons_of_mem _ (List.mem_append_right _ h)
  have k3 := hts (.fieldLink RX12 43 "LidCourtModel" "word" "J") (by decide +kernel)
  refine lv_aload_n hx hb dX12_isWord_0 rfl (lv_at hl 0 rfl) ?_
  refine va_get (D := D) (ci := 11) (v := .int h0_kind) (C := RX12) (T := TX12) (N := 48) hx hb hts k2 hown hK.1 hP 0 rfl rfl 7 (by decide) k1 (fun _ h9 => h9) rfl dX12_isWord_1 ?_
  refine lv_iconst (v := 2) hx hb dX12_isWord_4 (by decide) ?_
  refine lv_icmp_ne (tgt := 24) hx hb dX12_isWord_5 (by decide) (fun c_18 => ?_) (fun c_18 => ?_)
  · skip
    have hY := hY.trans (if_neg c_18)
    refine lv_iconst (v := 0) hx hb dX12_isWord_24 (by decide) ?_
    exact oE_i hx hb hr (by decide) hlocks hP hD hS () [0] rfl (by decide) (Or.inl ⟨rfl, hY.symm⟩) (Nat.le_of_ble_eq_true rfl) (Nat.le_of_ble_eq_true rfl) dX12_isWord_25
  · skip
    have hY := hY.trans (if_pos c_18)
    have o_19 : rl 0 h0_kind 2 := rl_eq c_18
    have h_20 : rg 0 2 h0_kind := rl_x o_19 i_h0_kind (⟨by decide, by decide⟩ : rg 2 2 (2 : Int32)) (by decide) (by decide)
    have o_21 : rl 0 2 h0_kind := rl_eq c_18.symm
    have h_22 : rg 2 2 h0_kind := rl_y o_21 (⟨by decide, by decide⟩ : rg 2 2 (2 : Int32)) h_20 (by decide) (by decide)
    refine lv_aload_n hx hb dX12_isWord_8 rfl (lv_at hl 0 rfl) ?_
    refine va_get (D := D) (ci := 11) (v := .long h0_word) (C := RX12) (T := TX12) (N := 48) hx hb hts k2 hown hK.1 hP 0 rfl rfl 12 (by decide) k3 (fun _ h9 => h9) rfl dX12_isWord_9 ?_
    refine lv_iload_n hx hb dX12_isWord_12 rfl (lv_at hl 1 rfl) ?_
    refine oC_l (Wc := []) (Wr := [(h0, .inr (11, [.int h0_thrown, .ref h0_tape, .int h0_taped, .int h0_size, .int h0_limit, .int h0_to, .int h0_from, .int h0_kind, .int h0_number, .int h0_sign, .int h0_fault, .int h0_place, .long h0_word, .int h0_told, .ref h0_now, .ref h0_read, .ref h0_kept, .ref h0_snaps, .ref h0_aside, .ref h0_name, .ref h0_readName, .ref h0_keptName, .ref h0_isKept, .ref h0_onces, .int h0_snapMany, .int h0_lowest, .int h0_highest, .int h0_agreed, .int h0_jurors, .int h0_panelled, .ref h0_inSets, .int h0_surely, .int h0_asked, .ref h0_frees, .int h0_struck, .int h0_beating, .ref h0_text, .int h0_texts, .int h0_seed, .ref h0_line, .ref h0_written, .int h0_lineMany, .int h0_hasWritten, .ref h0_node, .int h0_nodes, .int h0_onesMany, .int h0_within, .int h0_top]))]) (va_runS (As := [.int 1]) (rest := [.long h0_word]) ⟨hx, hb, hml, hown, hts⟩ (e_X12_wordOf_1 l D ca H.size ) (va_cwS 1 hts gX12_isWord_X12_wordOf rfl rfl rfl (by decide +kernel) ⟨Nat.le_of_ble_eq_true rfl, Nat.le_of_ble_eq_true rfl⟩) (oPS hK hP hD [] rfl (by decide)) rfl rfl hl.1 rfl (lv_room (Nat.le_of_ble_eq_true rfl)) dX12_isWord_13 ⟨Nat.le_of_ble_eq_true rfl, Nat.le_of_ble_eq_true rfl⟩) hP hD hS hA [] [0] rfl rfl (by decide) (by decide) (fun r_23 u H locs w_24 hP hD hS => ?_)
    obtain ⟨⟩ := u
    have hP : va_P D vwCl [(h0, .inr (11, [.int h0_thrown, .ref h0_tape, .int h0_taped, .int h0_size, .int h0_limit, .int h0_to, .int h0_from, .int h0_kind, .int h0_number, .int h0_sign, .int h0_fault, .int h0_place, .long h0_word, .int h0_told, .ref h0_now, .ref h0_read, .ref h0_kept, .ref h0_snaps, .ref h0_aside, .ref h0_name, .ref h0_readName, .ref h0_keptName, .ref h0_isKept, .ref h0_onces, .int h0_snapMany, .int h0_lowest, .int h0_highest, .int h0_agreed, .int h0_jurors, .int h0_panelled, .ref h0_inSets, .int h0_surely, .int h0_asked, .ref h0_frees, .int h0_struck, .int h0_beating, .ref h0_text, .int h0_texts, .int h0_seed, .ref h0_line, .ref h0_written, .int h0_lineMany, .int h0_hasWritten, .ref h0_node, .int h0_nodes, .int h0_onesMany, .int h0_within, .int h0_top]))] H := hP
    have hD : va_D A [(h0, .inr (11, [.int h0_thrown, .ref h0_tape, .int h0_taped, .int h0_size, .int h0_limit, .int h0_to, .int h0_from, .int h0_kind, .int h0_number, .int h0_sign, .int h0_fault, .int h0_place, .long h0_word, .int h0_told, .ref h0_now, .ref h0_read, .ref h0_kept, .ref h0_snaps, .ref h0_aside, .ref h0_name, .ref h0_readName, .ref h0_keptName, .ref h0_isKept, .ref h0_onces, .int h0_snapMany, .int h0_lowest, .int h0_highest, .int h0_agreed, .int h0_jurors, .int h0_panelled, .ref h0_inSets, .int h0_surely, .int h0_asked, .ref h0_frees, .int h0_struck, .int h0_beating, .ref h0_text, .int h0_texts, .int h0_seed, .ref h0_line, .ref h0_written, .int h0_lineMany, .int h0_hasWritten, .ref h0_node, .int h0_nodes, .int h0_onesMany, .int h0_within, .int h0_top]))] := hD
    try dsimp only at w_24
    obtain ⟨h_25, h_26⟩ := w_24
    subst h_25
    have hY := hY.trans (lt1_e h_26)
    refine W.lcmp hx hb dX12_isWord_16 ?_
    refine lv_topi (fun x_27 ex_27 => ?_)
    have hY := hY.trans (lt1_e ex_27)
    refine lv_if_ne (tgt := 24) hx hb dX12_isWord_17 (by decide) (fun c_28 => ?_) (fun c_28 => ?_)
    · skip
      have hY := hY.trans (if_neg c_28)
      have h_29 : ¬ (h0_word : Int64) = 275320840 := cmp_nn ex_27 c_28
      refine lv_iconst (v := 0) hx hb dX12_isWord_24 (by decide) ?_
      exact oE_i hx hb hr (by decide) hlocks hP hD hS () [0] rfl (by decide) (Or.inl ⟨rfl, hY.symm⟩) (Nat.le_of_ble_eq_true rfl) (Nat.le_of_ble_eq_true rfl) dX12_isWord_25
    · skip
      have hY := hY.trans (if_pos c_28)
      have o_30 : rl 0 x_27 0 := rl_eq c_28
      have h_31 : rg (-2147483648) 0 x_27 := rl_x o_30 (rga x_27) (⟨by decide, by decide⟩ : rg 0 0 (0 : Int32)) (by decide) (by decide)
      have o_32 : rl 0 0 x_27 := rl_eq c_28.symm
      have h_33 : rg 0 0 x_27 := rl_y o_32 (⟨by decide, by decide⟩ : rg 0 0 (0 : Int32)) h_31 (by decide) (by decide)
      have h_34 : (h0_word : Int64) = 275320840 := cmp_eq ex_27 c_28
      refine lv_iconst (v := 1) hx hb dX12_isWord_20 (by decide) ?_
      refine lv_goto (tgt := 25) hx hb dX12_isWord_21 (by decide) ?_
      exact oE_i hx hb hr (by decide) hlocks hP hD hS () [0] rfl (by decide) (Or.inr (⟨rfl, h_22, hY.symm⟩)) (Nat.le_of_ble_eq_true rfl) (Nat.le_of_ble_eq_true rfl) dX12_isWord_25
set_option maxHeartbeats 4000000 in
set_option maxRecDepth 100000 in
theorem e_X12_isWord_2 (l : Launch) (D : va_G) (ca : Nat → ClassId) (sz : Nat) (h0 : Nat) (h0_thrown : Int32) (h0_tape : Nat) (h0_taped : Int32) (h0_size : Int32) (h0_limit : Int32) (h0_to : Int32) (h0_from : Int32) (h0_kind : Int32) (h0_number : Int32) (h0_sign : Int32) (h0_fault : Int32) (h0_place : Int32) (h0_word : Int64) (h0_told : Int32) (h0_now : Nat) (h0_read : Nat) (h0_kept : Nat) (h0_snaps : Nat) (h0_aside : Nat) (h0_name : Nat) (h0_readName : Nat) (h0_keptName : Nat) (h0_isKept : Nat) (h0_onces : Nat) (h0_snapMany : Int32) (h0_lowest : Int32) (h0_highest : Int32) (h0_agreed : Int32) (h0_jurors : Int32) (h0_panelled : Int32) (h0_inSets : Nat) (h0_surely : Int32) (h0_asked : Int32) (h0_frees : Nat) (h0_struck : Int32) (h0_beating : Int32) (h0_text : Nat) (h0_texts : Int32) (h0_seed : Int32) (h0_line : Nat) (h0_written : Nat) (h0_lineMany : Int32) (h0_hasWritten : Int32) (h0_node : Nat) (h0_nodes : Int32) (h0_onesMany : Int32) (h0_within : Int32) (h0_top : Int32) (i_h0_taped : rg 0 940 h0_taped) (i_h0_size : rg 0 940 h0_size) (i_h0_to : rg 0 940 h0_to) (i_h0_kind : rg 0 4 h0_kind) (i_h0_snapMany : rg 0 8 h0_snapMany) (i_h0_texts : rg 0 64 h0_texts) (i_h0_lineMany : rg 0 40 h0_lineMany) (i_h0_hasWritten : rg 0 1 h0_hasWritten) (i_h0_nodes : rg 0 60 h0_nodes) (i_h0_onesMany : rg 0 20 h0_onesMany) : oMet l yX12_isWord wsX12_isWord ({ frames := 2, cells := 0, slots := 0, locals := 48 } : Room) [.ref h0, .int 2] D ca sz [(h0, .inr (11, [.int h0_thrown, .ref h0_tape, .int h0_taped, .int h0_size, .int h0_limit, .int h0_to, .int h0_from, .int h0_kind, .int h0_number, .int h0_sign, .int h0_fault, .int h0_place, .long h0_word, .int h0_told, .ref h0_now, .ref h0_read, .ref h0_kept, .ref h0_snaps, .ref h0_aside, .ref h0_name, .ref h0_readName, .ref h0_keptName, .ref h0_isKept, .ref h0_onces, .int h0_snapMany, .int h0_lowest, .int h0_highest, .int h0_agreed, .int h0_jurors, .int h0_panelled, .ref h0_inSets, .int h0_surely, .int h0_asked, .ref h0_frees, .int h0_struck, .int h0_beating, .ref h0_text, .int h0_texts, .int h0_seed, .ref h0_line, .ref h0_written, .int h0_lineMany, .int h0_hasWritten, .ref h0_node, .int h0_nodes, .int h0_onesMany, .int h0_within, .int h0_top]))] (oQi D (fun (r : Int32) (u : Unit) => ((r = 0) ∧ (r = y_X12_isWord_2 h0_kind h0_word)) ∨ ((r = 1) ∧ (rg 2 2 h0_kind) ∧ (r = y_X12_isWord_2 h0_kind h0_word))) (fun (u : Unit) => [(h0, .inr (11, [.int h0_thrown, .ref h0_tape, .int h0_taped, .int h0_size, .int h0_limit, .int h0_to, .int h0_from, .int h0_kind, .int h0_number, .int h0_sign, .int h0_fault, .int h0_place, .long h0_word, .int h0_told, .ref h0_now, .ref h0_read, .ref h0_kept, .ref h0_snaps, .ref h0_aside, .ref h0_name, .ref h0_readName, .ref h0_keptName, .ref h0_isKept, .ref h0_onces, .int h0_snapMany, .int h0_lowest, .int h0_highest, .int h0_agreed, .int h0_jurors, .int h0_panelled, .ref h0_inSets, .int h0_surely, .int h0_asked, .ref h0_frees, .int h0_struck, .int h0_beating, .ref h0_text, .int h0_texts, .int h0_seed, .ref h0_line, .ref h0_written, .int h0_lineMany, .int h0_hasWritten, .ref h0_node, .int h0_nodes, .int h0_onesMany, .int h0_within, .int h0_top]))])) 0 0 := by
  refine oM (cc := cX12_isWord) (maxL := 2) (ret := (some .boolean)) (by decide) rfl (Nat.le_of_ble_eq_true rfl) [(0, .ref h0), (1, .int 2)] rfl ?_
  intro p e s m below meth c A H locs ls hx hb hr hml hts hown hlocks hin hK hP hD hA hS hl
  have hown : s.vm.findClass RX12 = some m.cls := hown
  have hY := y_X12_isWord_2_s h0_kind h0_word
  have k1 := hts (.fieldLink RX12 30 "LidCourtModel" "kind" "I") (by decide +kernel)
  have k2 : ∀ w ∈ wsX120, w ∈ wsX12_isWord := fun _ h => List.mem_cons_of_mem _ (List.mem_append_right _ h)
  have k3 := hts (.fieldLink RX12 43 "LidCourtModel" "word" "J") (by decide +kernel)
  refine lv_aload_n hx hb dX12_isWord_0 rfl (lv_at hl 0 rfl) ?_
  refine va_get (D := D) (ci := 11) (v := .int h0_kind) (C := RX12) (T := TX12) (N := 48) hx hb hts k2 hown hK.1 hP 0 rfl rfl 7 (by decide) k1 (fun _ h9 => h9) rfl dX12_isWord_1 ?_
  refine lv_iconst (v := 2) hx hb dX12_isWord_4 (by decide) ?_
  refine lv_icmp_ne (tgt := 24) hx hb dX12_isWord_5 (by decide) (fun c_18 => ?_) (fun c_18 => ?_)
  · skip
    have hY := hY.trans (if_neg c_18)
    refine lv_iconst (v := 0) hx hb dX12_isWord_24 (by decide) ?_
    exact oE_i hx hb hr (by decide) hlocks hP hD hS () [0] rfl (by decide) (Or.inl ⟨rfl, hY.symm⟩) (Nat.le_of_ble_eq_true rfl) (Nat.le_of_ble_eq_true rfl) dX12_isWord_25
  · skip
    have hY := hY.trans (if_pos c_18)
    have o_19 : rl 0 h0_kind 2 := rl_eq c_18
    have h_20 : rg 0 2 h0_kind := rl_x o_19 i_h0_kind (⟨by decide, by decide⟩ : rg 2 2 (2 : Int32)) (by decide) (by decide)
    have o_21 : rl 0 2 h0_kind := rl_eq c_18.symm
    have h_22 : rg 2 2 h0_kind := rl_y o_21 (⟨by decide, by decide⟩ : rg 2 2 (2 : Int32)) h_20 (by decide) (by decide)
    refine lv_aload_n hx hb dX12_isWord_8 rfl (lv_at hl 0 rfl) ?_
    refine va_get (D := D) (ci := 11) (v := .long h0_word) (C := RX12) (T := TX12) (N := 48) hx hb hts k2 hown hK.1 hP 0 rfl rfl 12 (by decide) k3 (fun _ h9 => h9) rfl dX12_isWord_9 ?_
    refine lv_iload_n hx hb dX12_isWord_12 rfl (lv_at hl 1 rfl) ?_
    refine oC_l (Wc := []) (Wr := [(h0, .inr (11, [.int h0_thrown, .ref h0_tape, .int h0_taped, .int h0_size, .int h0_limit, .int h0_to, .int h0_from, .int h0_kind, .int h0_number, .int h0_sign, .int h0_fault, .int h0_place, .long h0_word, .int h0_told, .ref h0_now, .ref h0_read, .ref h0_kept, .ref h0_snaps, .ref h0_aside, .ref h0_name, .ref h0_readName, .ref h0_keptName, .ref h0_isKept, .ref h0_onces, .int h0_snapMany, .int h0_lowest, .int h0_highest, .int h0_agreed, .int h0_jurors, .int h0_panelled, .ref h0_inSets, .int h0_surely, .int h0_asked, .ref h0_frees, .int h0_struck, .int h0_beating, .ref h0_text, .int h0_texts, .int h0_seed, .ref h0_line, .ref h0_written, .int h0_lineMany, .int h0_hasWritten, .ref h0_node, .int h0_nodes, .int h0_onesMany, .int h0_within, .int h0_top]))]) (va_runS (As := [.int 2]) (rest := [.long h0_word]) ⟨hx, hb, hml, hown, hts⟩ (e_X12_wordOf_2 l D ca H.size ) (va_cwS 1 hts gX12_isWord_X12_wordOf rfl rfl rfl (by decide +kernel) ⟨Nat.le_of_ble_eq_true rfl, Nat.le_of_ble_eq_true rfl⟩) (oPS hK hP hD [] rfl (by decide)) rfl rfl hl.1 rfl (lv_room (Nat.le_of_ble_eq_true rfl)) dX12_isWord_13 ⟨Nat.le_of_ble_eq_true rfl, Nat.le_of_ble_eq_true rfl⟩) hP hD hS hA [] [0] rfl rfl (by decide) (by decide) (fun r_23 u H locs w_24 hP hD hS => ?_)
    obtain ⟨⟩ := u
    have hP : va_P D vwCl [(h0, .inr (11, [.int h0_thrown, .ref h0_tape, .int h0_taped, .int h0_size, .int h0_limit, .int h0_to, .int h0_from, .int h0_kind, .int h0_number, .int h0_sign, .int h0_fault, .int h0_place, .long h0_word, .int h0_told, .ref h0_now, .ref h0_read, .ref h0_kept, .ref h0_snaps, .ref h0_aside, .ref h0_name, .ref h0_readName, .ref h0_keptName, .ref h0_isKept, .ref h0_onces, .int h0_snapMany, .int h0_lowest, .int h0_highest, .int h0_agreed, .int h0_jurors, .int h0_panelled, .ref h0_inSets, .int h0_surely, .int h0_asked, .ref h0_frees, .int h0_struck, .int h0_beating, .ref h0_text, .int h0_texts, .int h0_seed, .ref h0_line, .ref h0_written, .int h0_lineMany, .int h0_hasWritten, .ref h0_node, .int h0_nodes, .int h0_onesMany, .int h0_within, .int h0_top]))] H := hP
    have hD : va_D A [(h0, .inr (11, [.int h0_thrown, .ref h0_tape, .int h0_taped, .int h0_size, .int h0_limit, .int h0_to, .int h0_from, .int h0_kind, .int h0_number, .int h0_sign, .int h0_fault, .int h0_place, .long h0_word, .int h0_told, .ref h0_now, .ref h0_read, .ref h0_kept, .ref h0_snaps, .ref h0_aside, .ref h0_name, .ref h0_readName, .ref h0_keptName, .ref h0_isKept, .ref h0_onces, .int h0_snapMany, .int h0_lowest, .int h0_highest, .int h0_agreed, .int h0_jurors, .int h0_panelled, .ref h0_inSets, .int h0_surely, .int h0_asked, .ref h0_frees, .int h0_struck, .int h0_beating, .ref h0_text, .int h0_texts, .int h0_seed, .ref h0_line, .ref h0_written, .int h0_lineMany, .int h0_hasWritten, .ref h0_node, .int h0_nodes, .int h0_onesMany, .int h0_within, .int h0_top]))] := hD
    try dsimp only at w_24
    obtain ⟨h_25, h_26⟩ := w_24
    subst h_25
    have hY := hY.trans (lt1_e h_26)
    refine W.lcmp hx hb dX12_isWord_16 ?_
    refine lv_topi (fun x_27 ex_27 => ?_)
    have hY := hY.trans (lt1_e ex_27)
    refine lv_if_ne (tgt := 24) hx hb dX12_isWord_17 (by decide) (fun c_28 => ?_) (fun c_28 => ?_)
    · skip
      have hY := hY.trans (if_neg c_28)
      have h_29 : ¬ (h0_word : Int64) = 3436200 := cmp_nn ex_27 c_28
      refine lv_iconst (v := 0) hx hb dX12_isWord_24 (by decide) ?_
      exact oE_i hx hb hr (by decide) hlocks hP hD hS () [0] rfl (by decide) (Or.inl ⟨rfl, hY.symm⟩) (Nat.le_of_ble_eq_true rfl) (Nat.le_of_ble_eq_true rfl) dX12_isWord_25
    · skip
      have hY := hY.trans (if_pos c_28)
      have o_30 : rl 0 x_27 0 := rl_eq c_28
      have h_31 : rg (-2147483648) 0 x_27 := rl_x o_30 (rga x_27) (⟨by decide, by decide⟩ : rg 0 0 (0 : Int32)) (by decide) (by decide)
      have o_32 : rl 0 0 x_27 := rl_eq c_28.symm
      have h_33 : rg 0 0 x_27 := rl_y o_32 (⟨by decide, by decide⟩ : rg 0 0 (0 : Int32)) h_31 (by decide) (by decide)
      have h_34 : (h0_word : Int64) = 3436200 := cmp_eq ex_27 c_28
      refine lv_iconst (v := 1) hx hb dX12_isWord_20 (by decide) ?_
      refine lv_goto (tgt := 25) hx hb dX12_isWord_21 (by decide) ?_
      exact oE_i hx hb hr (by decide) hlocks hP hD hS () [0] rfl (by decide) (Or.inr (⟨rfl, h_22, hY.symm⟩)) (Nat.le_of_ble_eq_true rfl) (Nat.le_of_ble_eq_true rfl) dX12_isWord_25
set_option maxHeartbeats 4000000 in
set_option maxRecDepth 100000 in
theorem e_X12_isWord_3 (l : Launch) (D : va_G) (ca : Nat → ClassId) (sz : Nat) (h0 : Nat) (h0_thrown : Int32) (h0_tape : Nat) (h0_taped : Int32) (h0_size : Int32) (h0_limit : Int32) (h0_to : Int32) (h0_from : Int32) (h0_kind : Int32) (h0_number : Int32) (h0_sign : Int32) (h0_fault : Int32) (h0_place : Int32) (h0_word : Int64) (h0_told : Int32) (h0_now : Nat) (h0_read : Nat) (h0_kept : Nat) (h0_snaps : Nat) (h0_aside : Nat) (h0_name : Nat) (h0_readName : Nat) (h0_keptName : Nat) (h0_isKept : Nat) (h0_onces : Nat) (h0_snapMany : Int32) (h0_lowest : Int32) (h0_highest : Int32) (h0_agreed : Int32) (h0_jurors : Int32) (h0_panelled : Int32) (h0_inSets : Nat) (h0_surely : Int32) (h0_asked : Int32) (h0_frees : Nat) (h0_struck : Int32) (h0_beating : Int32) (h0_text : Nat) (h0_texts : Int32) (h0_seed : Int32) (h0_line : Nat) (h0_written : Nat) (h0_lineMany : Int32) (h0_hasWritten : Int32) (h0_node : Nat) (h0_nodes : Int32) (h0_onesMany : Int32) (h0_within : Int32) (h0_top : Int32) (i_h0_taped : rg 0 940 h0_taped) (i_h0_size : rg 0 940 h0_size) (i_h0_to : rg 0 940 h0_to) (i_h0_kind : rg 0 4 h0_kind) (i_h0_snapMany : rg 0 8 h0_snapMany) (i_h0_texts : rg 0 64 h0_texts) (i_h0_lineMany : rg 0 40 h0_lineMany) (i_h0_hasWritten : rg 0 1 h0_hasWritten) (i_h0_nodes : rg 0 60 h0_nodes) (i_h0_onesMany : rg 0 20 h0_onesMany) : oMet l yX12_isWord wsX12_isWord ({ frames := 2, cells := 0, slots := 0, locals := 48 } : Room) [.ref h0, .int 3] D ca sz [(h0, .inr (11, [.int h0_thrown, .ref h0_tape, .int h0_taped, .int h0_size, .int h0_limit, .int h0_to, .int h0_from, .int h0_kind, .int h0_number, .int h0_sign, .int h0_fault, .int h0_place, .long h0_word, .int h0_told, .ref h0_now, .ref h0_read, .ref h0_kept, .ref h0_snaps, .ref h0_aside, .ref h0_name, .ref h0_readName, .ref h0_keptName, .ref h0_isKept, .ref h0_onces, .int h0_snapMany, .int h0_lowest, .int h0_highest, .int h0_agreed, .int h0_jurors, .int h0_panelled, .ref h0_inSets, .int h0_surely, .int h0_asked, .ref h0_frees, .int h0_struck, .int h0_beating, .ref h0_text, .int h0_texts, .int h0_seed, .ref h0_line, .ref h0_written, .int h0_lineMany, .int h0_hasWritten, .ref h0_node, .int h0_nodes, .int h0_onesMany, .int h0_within, .int h0_top]))] (oQi D (fun (r : Int32) (u : Unit) => ((r = 0) ∧ (r = y_X12_isWord_3 h0_kind h0_word)) ∨ ((r = 1) ∧ (rg 2 2 h0_kind) ∧ (r = y_X12_isWord_3 h0_kind h0_word))) (fun (u : Unit) => [(h0, .inr (11, [.int h0_thrown, .ref h0_tape, .int h0_taped, .int h0_size, .int h0_limit, .int h0_to, .int h0_from, .int h0_kind, .int h0_number, .int h0_sign, .int h0_fault, .int h0_place, .long h0_word, .int h0_told, .ref h0_now, .ref h0_read, .ref h0_kept, .ref h0_snaps, .ref h0_aside, .ref h0_name, .ref h0_readName, .ref h0_keptName, .ref h0_isKept, .ref h0_onces, .int h0_snapMany, .int h0_lowest, .int h0_highest, .int h0_agreed, .int h0_jurors, .int h0_panelled, .ref h0_inSets, .int h0_surely, .int h0_asked, .ref h0_frees, .int h0_struck, .int h0_beating, .ref h0_text, .int h0_texts, .int h0_seed, .ref h0_line, .ref h0_written, .int h0_lineMany, .int h0_hasWritten, .ref h0_node, .int h0_nodes, .int h0_onesMany, .int h0_within, .int h0_top]))])) 0 0 := by
  refine oM (cc := cX12_isWord) (maxL := 2) (ret := (some .boolean)) (by decide) rfl (Nat.le_of_ble_eq_true rfl) [(0, .ref h0), (1, .int 3)] rfl ?_
  intro p e s m below meth c A H locs ls hx hb hr hml hts hown hlocks hin hK hP hD hA hS hl
  have hown : s.vm.findClass RX12 = some m.cls := hown
  have hY := y_X12_isWord_3_s h0_kind h0_word
  have k1 := hts (.fieldLink RX12 30 "LidCourtModel" "kind" "I") (by decide +kernel)
  have k2 : ∀ w ∈ wsX120, w ∈ wsX12_isWord := fun _ h => List.mem_cons_of_mem _ (List.mem_append_right _ h)
  have k3 := hts (.fieldLink RX12 43 "LidCourtModel" "word" "J") (by decide +kernel)
  refine lv_aload_n hx hb dX12_isWord_0 rfl (lv_at hl 0 rfl) ?_
  refine va_get (D := D) (ci := 11) (v := .int h0_kind) (C := RX12) (T := TX12) (N := 48) hx hb hts k2 hown hK.1 hP 0 rfl rfl 7 (by decide) k1 (fun _ h9 => h9) rfl dX12_isWord_1 ?_
  refine lv_iconst (v := 2) hx hb dX12_isWord_4 (by decide) ?_
  refine lv_icmp_ne (tgt := 24) hx hb dX12_isWord_5 (by decide) (fun c_18 => ?_) (fun c_18 => ?_)
  · skip
    have hY := hY.trans (if_neg c_18)
    refine lv_iconst (v := 0) hx hb dX12_isWord_24 (by decide) ?_
    exact oE_i hx hb hr (by decide) hlocks hP hD hS () [0] rfl (by decide) (Or.inl ⟨rfl, hY.symm⟩) (Nat.le_of_ble_eq_true rfl) (Nat.le_of_ble_eq_true rfl) dX12_isWord_25
  · skip
    have hY := hY.trans (if_pos c_18)
    have o_19 : rl 0 h0_kind 2 := rl_eq c_18
    have h_20 : rg 0 2 h0_kind := rl_x o_19 i_h0_kind (⟨by decide, by decide⟩ : rg 2 2 (2 : Int32)) (by decide) (by decide)
    have o_21 : rl 0 2 h0_kind := rl_eq c_18.symm
    have h_22 : rg 2 2 h0_kind := rl_y o_21 (⟨by decide, by decide⟩ : rg 2 2 (2 : Int32)) h_20 (by decide) (by decide)
    refine lv_aload_n hx hb dX12_isWord_8 rfl (lv_at hl 0 rfl) ?_
    refine va_get (D := D) (ci := 11) (v := .long h0_word) (C := RX12) (T := TX12) (N := 48) hx hb hts k2 hown hK.1 hP 0 rfl rfl 12 (by decide) k3 (fun _ h9 => h9) rfl dX12_isWord_9 ?_
    refine lv_iload_n hx hb dX12_isWord_12 rfl (lv_at hl 1 rfl) ?_
    refine oC_l (Wc := []) (Wr := [(h0, .inr (11, [.int h0_thrown, .ref h0_tape, .int h0_taped, .int h0_size, .int h0_limit, .int h0_to, .int h0_from, .int h0_kind, .int h0_number, .int h0_sign, .int h0_fault, .int h0_place, .long h0_word, .int h0_told, .ref h0_now, .ref h0_read, .ref h0_kept, .ref h0_snaps, .ref h0_aside, .ref h0_name, .ref h0_readName, .ref h0_keptName, .ref h0_isKept, .ref h0_onces, .int h0_snapMany, .int h0_lowest, .int h0_highest, .int h0_agreed, .int h0_jurors, .int h0_panelled, .ref h0_inSets, .int h0_surely, .int h0_asked, .ref h0_frees, .int h0_struck, .int h0_beating, .ref h0_text, .int h0_texts, .int h0_seed, .ref h0_line, .ref h0_written, .int h0_lineMany, .int h0_hasWritten, .ref h0_node, .int h0_nodes, .int h0_onesMany, .int h0_within, .int h0_top]))]) (va_runS (As := [.int 3]) (rest := [.long h0_word]) ⟨hx, hb, hml, hown, hts⟩ (e_X12_wordOf_3 l D ca H.size ) (va_cwS 1 hts gX12_isWord_X12_wordOf rfl rfl rfl (by decide +kernel) ⟨Nat.le_of_ble_eq_true rfl, Nat.le_of_ble_eq_true rfl⟩) (oPS hK hP hD [] rfl (by decide)) rfl rfl hl.1 rfl (lv_room (Nat.le_of_ble_eq_true rfl)) dX12_isWord_13 ⟨Nat.le_of_ble_eq_true rfl, Nat.le_of_ble_eq_true rfl⟩) hP hD hS hA [] [0] rfl rfl (by decide) (by decide) (fun r_23 u H locs w_24 hP hD hS => ?_)
    obtain ⟨⟩ := u
    have hP : va_P D vwCl [(h0, .inr (11, [.int h0_thrown, .ref h0_tape, .int h0_taped, .int h0_size, .int h0_limit, .int h0_to, .int h0_from, .int h0_kind, .int h0_number, .int h0_sign, .int h0_fault, .int h0_place, .long h0_word, .int h0_told, .ref h0_now, .ref h0_read, .ref h0_kept, .ref h0_snaps, .ref h0_aside, .ref h0_name, .ref h0_readName, .ref h0_keptName, .ref h0_isKept, .ref h0_onces, .int h0_snapMany, .int h0_lowest, .int h0_highest, .int h0_agreed, .int h0_jurors, .int h0_panelled, .ref h0_inSets, .int h0_surely, .int h0_asked, .ref h0_frees, .int h0_struck, .int h0_beating, .ref h0_text, .int h0_texts, .int h0_seed, .ref h0_line, .ref h0_written, .int h0_lineMany, .int h0_hasWritten, .ref h0_node, .int h0_nodes, .int h0_onesMany, .int h0_within, .int h0_top]))] H := hP
    have hD : va_D A [(h0, .inr (11, [.int h0_thrown, .ref h0_tape, .int h0_taped, .int h0_size, .int h0_limit, .int h0_to, .int h0_from, .int h0_kind, .int h0_number, .int h0_sign, .int h0_fault, .int h0_place, .long h0_word, .int h0_told, .ref h0_now, .ref h0_read, .ref h0_kept, .ref h0_snaps, .ref h0_aside, .ref h0_name, .ref h0_readName, .ref h0_keptName, .ref h0_isKept, .ref h0_onces, .int h0_snapMany, .int h0_lowest, .int h0_highest, .int h0_agreed, .int h0_jurors, .int h0_panelled, .ref h0_inSets, .int h0_surely, .int h0_asked, .ref h0_frees, .int h0_struck, .int h0_beating, .ref h0_text, .int h0_texts, .int h0_seed, .ref h0_line, .ref h0_written, .int h0_lineMany, .int h0_hasWritten, .ref h0_node, .int h0_nodes, .int h0_onesMany, .int h0_within, .int h0_top]))] := hD
    try dsimp only at w_24
    obtain ⟨h_25, h_26⟩ := w_24
    subst h_25
    have hY := hY.trans (lt1_e h_26)
    refine W.lcmp hx hb dX12_isWord_16 ?_
    refine lv_topi (fun x_27 ex_27 => ?_)
    have hY := hY.trans (lt1_e ex_27)
    refine lv_if_ne (tgt := 24) hx hb dX12_isWord_17 (by decide) (fun c_28 => ?_) (fun c_28 => ?_)
    · skip
      have hY := hY.trans (if_neg c_28)
      have h_29 : ¬ (h0_word : Int64) = 60296 := cmp_nn ex_27 c_28
      refine lv_iconst (v := 0) hx hb dX12_isWord_24 (by decide) ?_
      exact oE_i hx hb hr (by decide) hlocks hP hD hS () [0] rfl (by decide) (Or.inl ⟨rfl, hY.symm⟩) (Nat.le_of_ble_eq_true rfl) (Nat.le_of_ble_eq_true rfl) dX12_isWord_25
    · skip
      have hY := hY.trans (if_pos c_28)
      have o_30 : rl 0 x_27 0 := rl_eq c_28
      have h_31 : rg (-2147483648) 0 x_27 := rl_x o_30 (rga x_27) (⟨by decide, by decide⟩ : rg 0 0 (0 : Int32)) (by decide) (by decide)
      have o_32 : rl 0 0 x_27 := rl_eq c_28.symm
      have h_33 : rg 0 0 x_27 := rl_y o_32 (⟨by decide, by decide⟩ : rg 0 0 (0 : Int32)) h_31 (by decide) (by decide)
      have h_34 : (h0_word : Int64) = 60296 := cmp_eq ex_27 c_28
      refine lv_iconst (v := 1) hx hb dX12_isWord_20 (by decide) ?_
      refine lv_goto (tgt := 25) hx hb dX12_isWord_21 (by decide) ?_
      exact oE_i hx hb hr (by decide) hlocks hP hD hS () [0] rfl (by decide) (Or.inr (⟨rfl, h_22, hY.symm⟩)) (Nat.le_of_ble_eq_true rfl) (Nat.le_of_ble_eq_true rfl) dX12_isWord_25
set_option maxHeartbeats 4000000 in
set_option maxRecDepth 100000 in
theorem e_X12_isWord_4 (l : Launch) (D : va_G) (ca : Nat → ClassId) (sz : Nat) (h0 : Nat) (h0_thrown : Int32) (h0_tape : Nat) (h0_taped : Int32) (h0_size : Int32) (h0_limit : Int32) (h0_to : Int32) (h0_from : Int32) (h0_kind : Int32) (h0_number : Int32) (h0_sign : Int32) (h0_fault : Int32) (h0_place : Int32) (h0_word : Int64) (h0_told : Int32) (h0_now : Nat) (h0_read : Nat) (h0_kept : Nat) (h0_snaps : Nat) (h0_aside : Nat) (h0_name : Nat) (h0_readName : Nat) (h0_keptName : Nat) (h0_isKept : Nat) (h0_onces : Nat) (h0_snapMany : Int32) (h0_lowest : Int32) (h0_highest : Int32) (h0_agreed : Int32) (h0_jurors : Int32) (h0_panelled : Int32) (h0_inSets : Nat) (h0_surely : Int32) (h0_asked : Int32) (h0_frees : Nat) (h0_struck : Int32) (h0_beating : Int32) (h0_text : Nat) (h0_texts : Int32) (h0_seed : Int32) (h0_line : Nat) (h0_written : Nat) (h0_lineMany : Int32) (h0_hasWritten : Int32) (h0_node : Nat) (h0_nodes : Int32) (h0_onesMany : Int32) (h0_within : Int32) (h0_top : Int32) (i_h0_taped : rg 0 940 h0_taped) (i_h0_size : rg 0 940 h0_size) (i_h0_to : rg 0 940 h0_to) (i_h0_kind : rg 0 4 h0_kind) (i_h0_snapMany : rg 0 8 h0_snapMany) (i_h0_texts : rg 0 64 h0_texts) (i_h0_lineMany : rg 0 40 h0_lineMany) (i_h0_hasWritten : rg 0 1 h0_hasWritten) (i_h0_nodes : rg 0 60 h0_nodes) (i_h0_onesMany : rg 0 20 h0_onesMany) : oMet l yX12_isWord wsX12_isWord ({ frames := 2, cells := 0, slots := 0, locals := 48 } : Room) [.ref h0, .int 4] D ca sz [(h0, .inr (11, [.int h0_thrown, .ref h0_tape, .int h0_taped, .int h0_size, .int h0_limit, .int h0_to, .int h0_from, .int h0_kind, .int h0_number, .int h0_sign, .int h0_fault, .int h0_place, .long h0_word, .int h0_told, .ref h0_now, .ref h0_read, .ref h0_kept, .ref h0_snaps, .ref h0_aside, .ref h0_name, .ref h0_readName, .ref h0_keptName, .ref h0_isKept, .ref h0_onces, .int h0_snapMany, .int h0_lowest, .int h0_highest, .int h0_agreed, .int h0_jurors, .int h0_panelled, .ref h0_inSets, .int h0_surely, .int h0_asked, .ref h0_frees, .int h0_struck, .int h0_beating, .ref h0_text, .int h0_texts, .int h0_seed, .ref h0_line, .ref h0_written, .int h0_lineMany, .int h0_hasWritten, .ref h0_node, .int h0_nodes, .int h0_onesMany, .int h0_within, .int h0_top]))] (oQi D (fun (r : Int32) (u : Unit) => ((r = 0) ∧ (r = y_X12_isWord_4 h0_kind h0_word)) ∨ ((r = 1) ∧ (rg 2 2 h0_kind) ∧ (r = y_X12_isWord_4 h0_kind h0_word))) (fun (u : Unit) => [(h0, .inr (11, [.int h0_thrown, .ref h0_tape, .int h0_taped, .int h0_size, .int h0_limit, .int h0_to, .int h0_from, .int h0_kind, .int h0_number, .int h0_sign, .int h0_fault, .int h0_place, .long h0_word, .int h0_told, .ref h0_now, .ref h0_read, .ref h0_kept, .ref h0_snaps, .ref h0_aside, .ref h0_name, .ref h0_readName, .ref h0_keptName, .ref h0_isKept, .ref h0_onces, .int h0_snapMany, .int h0_lowest, .int h0_highest, .int h0_agreed, .int h0_jurors, .int h0_panelled, .ref h0_inSets, .int h0_surely, .int h0_asked, .ref h0_frees, .int h0_struck, .int h0_beating, .ref h0_text, .int h0_texts, .int h0_seed, .ref h0_line, .ref h0_written, .int h0_lineMany, .int h0_hasWritten, .ref h0_node, .int h0_nodes, .int h0_onesMany, .int h0_within, .int h0_top]))])) 0 0 := by
  refine oM (cc := cX12_isWord) (maxL := 2) (ret := (some .boolean)) (by decide) rfl (Nat.le_of_ble_eq_true rfl) [(0, .ref h0), (1, .int 4)] rfl ?_
  intro p e s m below meth c A H locs ls hx hb hr hml hts hown hlocks hin hK hP hD hA hS hl
  have hown : s.vm.findClass RX12 = some m.cls := hown
  have hY := y_X12_isWord_4_s h0_kind h0_word
  have k1 := hts (.fieldLink RX12 30 "LidCourtModel" "kind" "I") (by decide +kernel)
  have k2 : ∀ w ∈ wsX120, w ∈ wsX12_isWord := fun _ h => List.mem_cons_of_mem _ (List.mem_append_right _ h)
  have k3 := hts (.fieldLink RX12 43 "LidCourtModel" "word" "J") (by decide +kernel)
  refine lv_aload_n hx hb dX12_isWord_0 rfl (lv_at hl 0 rfl) ?_
  refine va_get (D := D) (ci := 11) (v := .int h0_kind) (C := RX12) (T := TX12) (N := 48) hx hb hts k2 hown hK.1 hP 0 rfl rfl 7 (by decide) k1 (fun _ h9 => h9) rfl dX12_isWord_1 ?_
  refine lv_iconst (v := 2) hx hb dX12_isWord_4 (by decide) ?_
  refine lv_icmp_ne (tgt := 24) hx hb dX12_isWord_5 (by decide) (fun c_18 => ?_) (fun c_18 => ?_)
  · skip
    have hY := hY.trans (if_neg c_18)
    refine lv_iconst (v := 0) hx hb dX12_isWord_24 (by decide) ?_
    exact oE_i hx hb hr (by decide) hlocks hP hD hS () [0] rfl (by decide) (Or.inl ⟨rfl, hY.symm⟩) (Nat.le_of_ble_eq_true rfl) (Nat.le_of_ble_eq_true rfl) dX12_isWord_25
  · skip
    have hY := hY.trans (if_pos c_18)
    have o_19 : rl 0 h0_kind 2 := rl_eq c_18
    have h_20 : rg 0 2 h0_kind := rl_x o_19 i_h0_kind (⟨by decide, by decide⟩ : rg 2 2 (2 : Int32)) (by decide) (by decide)
    have o_21 : rl 0 2 h0_kind := rl_eq c_18.symm
    have h_22 : rg 2 2 h0_kind := rl_y o_21 (⟨by decide, by decide⟩ : rg 2 2 (2 : Int32)) h_20 (by decide) (by decide)
    refine lv_aload_n hx hb dX12_isWord_8 rfl (lv_at hl 0 rfl) ?_
    refine va_get (D := D) (ci := 11) (v := .long h0_word) (C := RX12) (T := TX12) (N := 48) hx hb hts k2 hown hK.1 hP 0 rfl rfl 12 (by decide) k3 (fun _ h9 => h9) rfl dX12_isWord_9 ?_
    refine lv_iload_n hx hb dX12_isWord_12 rfl (lv_at hl 1 rfl) ?_
    refine oC_l (Wc := []) (Wr := [(h0, .inr (11, [.int h0_thrown, .ref h0_tape, .int h0_taped, .int h0_size, .int h0_limit, .int h0_to, .int h0_from, .int h0_kind, .int h0_number, .int h0_sign, .int h0_fault, .int h0_place, .long h0_word, .int h0_told, .ref h0_now, .ref h0_read, .ref h0_kept, .ref h0_snaps, .ref h0_aside, .ref h0_name, .ref h0_readName, .ref h0_keptName, .ref h0_isKept, .ref h0_onces, .int h0_snapMany, .int h0_lowest, .int h0_highest, .int h0_agreed, .int h0_jurors, .int h0_panelled, .ref h0_inSets, .int h0_surely, .int h0_asked, .ref h0_frees, .int h0_struck, .int h0_beating, .ref h0_text, .int h0_texts, .int h0_seed, .ref h0_line, .ref h0_written, .int h0_lineMany, .int h0_hasWritten, .ref h0_node, .int h0_nodes, .int h0_onesMany, .int h0_within, .int h0_top]))]) (va_runS (As := [.int 4]) (rest := [.long h0_word]) ⟨hx, hb, hml, hown, hts⟩ (e_X12_wordOf_4 l D ca H.size ) (va_cwS 1 hts gX12_isWord_X12_wordOf rfl rfl rfl (by decide +kernel) ⟨Nat.le_of_ble_eq_true rfl, Nat.le_of_ble_eq_true rfl⟩) (oPS hK hP hD [] rfl (by decide)) rfl rfl hl.1 rfl (lv_room (Nat.le_of_ble_eq_true rfl)) dX12_isWord_13 ⟨Nat.le_of_ble_eq_true rfl, Nat.le_of_ble_eq_true rfl⟩) hP hD hS hA [] [0] rfl rfl (by decide) (by decide) (fun r_23 u H locs w_24 hP hD hS => ?_)
    obtain ⟨⟩ := u
    have hP : va_P D vwCl [(h0, .inr (11, [.int h0_thrown, .ref h0_tape, .int h0_taped, .int h0_size, .int h0_limit, .int h0_to, .int h0_from, .int h0_kind, .int h0_number, .int h0_sign, .int h0_fault, .int h0_place, .long h0_word, .int h0_told, .ref h0_now, .ref h0_read, .ref h0_kept, .ref h0_snaps, .ref h0_aside, .ref h0_name, .ref h0_readName, .ref h0_keptName, .ref h0_isKept, .ref h0_onces, .int h0_snapMany, .int h0_lowest, .int h0_highest, .int h0_agreed, .int h0_jurors, .int h0_panelled, .ref h0_inSets, .int h0_surely, .int h0_asked, .ref h0_frees, .int h0_struck, .int h0_beating, .ref h0_text, .int h0_texts, .int h0_seed, .ref h0_line, .ref h0_written, .int h0_lineMany, .int h0_hasWritten, .ref h0_node, .int h0_nodes, .int h0_onesMany, .int h0_within, .int h0_top]))] H := hP
    have hD : va_D A [(h0, .inr (11, [.int h0_thrown, .ref h0_tape, .int h0_taped, .int h0_size, .int h0_limit, .int h0_to, .int h0_from, .int h0_kind, .int h0_number, .int h0_sign, .int h0_fault, .int h0_place, .long h0_word, .int h0_told, .ref h0_now, .ref h0_read, .ref h0_kept, .ref h0_snaps, .ref h0_aside, .ref h0_name, .ref h0_readName, .ref h0_keptName, .ref h0_isKept, .ref h0_onces, .int h0_snapMany, .int h0_lowest, .int h0_highest, .int h0_agreed, .int h0_jurors, .int h0_panelled, .ref h0_inSets, .int h0_surely, .int h0_asked, .ref h0_frees, .int h0_struck, .int h0_beating, .ref h0_text, .int h0_texts, .int h0_seed, .ref h0_line, .ref h0_written, .int h0_lineMany, .int h0_hasWritten, .ref h0_node, .int h0_nodes, .int h0_onesMany, .int h0_within, .int h0_top]))] := hD
    try dsimp only at w_24
    obtain ⟨h_25, h_26⟩ := w_24
    subst h_25
    have hY := hY.trans (lt1_e h_26)
    refine W.lcmp hx hb dX12_isWord_16 ?_
    refine lv_topi (fun x_27 ex_27 => ?_)
    have hY := hY.trans (lt1_e ex_27)
    refine lv_if_ne (tgt := 24) hx hb dX12_isWord_17 (by decide) (fun c_28 => ?_) (fun c_28 => ?_)
    · skip
      have hY := hY.trans (if_neg c_28)
      have h_29 : ¬ (h0_word : Int64) = 11052508 := cmp_nn ex_27 c_28
      refine lv_iconst (v := 0) hx hb dX12_isWord_24 (by decide) ?_
      exact oE_i hx hb hr (by decide) hlocks hP hD hS () [0] rfl (by decide) (Or.inl ⟨rfl, hY.symm⟩) (Nat.le_of_ble_eq_true rfl) (Nat.le_of_ble_eq_true rfl) dX12_isWord_25
    · skip
      have hY := hY.trans (if_pos c_28)
      have o_30 : rl 0 x_27 0 := rl_eq c_28
      have h_31 : rg (-2147483648) 0 x_27 := rl_x o_30 (rga x_27) (⟨by decide, by decide⟩ : rg 0 0 (0 : Int32)) (by decide) (by decide)
      have o_32 : rl 0 0 x_27 := rl_eq c_28.symm
      have h_33 : rg 0 0 x_27 := rl_y o_32 (⟨by decide, by decide⟩ : rg 0 0 (0 : Int32)) h_31 (by decide) (by decide)
      have h_34 : (h0_word : Int64) = 11052508 := cmp_eq ex_27 c_28
      refine lv_iconst (v := 1) hx hb dX12_isWord_20 (by decide) ?_
      refine lv_goto (tgt := 25) hx hb dX12_isWord_21 (by decide) ?_
      exact oE_i hx hb hr (by decide) hlocks hP hD hS () [0] rfl (by decide) (Or.inr (⟨rfl, h_22, hY.symm⟩)) (Nat.le_of_ble_eq_true rfl) (Nat.le_of_ble_eq_true rfl) dX12_isWord_25
set_option maxHeartbeats 4000000 in
set_option maxRecDepth 100000 in
theorem e_X12_isWord_5 (l : Launch) (D : va_G) (ca : Nat → ClassId) (sz : Nat) (h0 : Nat) (h0_thrown : Int32) (h0_tape : Nat) (h0_taped : Int32) (h0_size : Int32) (h0_limit : Int32) (h0_to : Int32) (h0_from : Int32) (h0_kind : Int32) (h0_number : Int32) (h0_sign : Int32) (h0_fault : Int32) (h0_place : Int32) (h0_word : Int64) (h0_told : Int32) (h0_now : Nat) (h0_read : Nat) (h0_kept : Nat) (h0_snaps : Nat) (h0_aside : Nat) (h0_name : Nat) (h0_readName : Nat) (h0_keptName : Nat) (h0_isKept : Nat) (h0_onces : Nat) (h0_snapMany : Int32) (h0_lowest : Int32) (h0_highest : Int32) (h0_agreed : Int32) (h0_jurors : Int32) (h0_panelled : Int32) (h0_inSets : Nat) (h0_surely : Int32) (h0_asked : Int32) (h0_frees : Nat) (h0_struck : Int32) (h0_beating : Int32) (h0_text : Nat) (h0_texts : Int32) (h0_seed : Int32) (h0_line : Nat) (h0_written : Nat) (h0_lineMany : Int32) (h0_hasWritten : Int32) (h0_node : Nat) (h0_nodes : Int32) (h0_onesMany : Int32) (h0_within : Int32) (h0_top : Int32) (i_h0_taped : rg 0 940 h0_taped) (i_h0_size : rg 0 940 h0_size) (i_h0_to : rg 0 940 h0_to) (i_h0_kind : rg 0 4 h0_kind) (i_h0_snapMany : rg 0 8 h0_snapMany) (i_h0_texts : rg 0 64 h0_texts) (i_h0_lineMany : rg 0 40 h0_lineMany) (i_h0_hasWritten : rg 0 1 h0_hasWritten) (i_h0_nodes : rg 0 60 h0_nodes) (i_h0_onesMany : rg 0 20 h0_onesMany) : oMet l yX12_isWord wsX12_isWord ({ frames := 2, cells := 0, slots := 0, locals := 48 } : Room) [.ref h0, .int 5] D ca sz [(h0, .inr (11, [.int h0_thrown, .ref h0_tape, .int h0_taped, .int h0_size, .int h0_limit, .int h0_to, .int h0_from, .int h0_kind, .int h0_number, .int h0_sign, .int h0_fault, .int h0_place, .long h0_word, .int h0_told, .ref h0_now, .ref h0_read, .ref h0_kept, .ref h0_snaps, .ref h0_aside, .ref h0_name, .ref h0_readName, .ref h0_keptName, .ref h0_isKept, .ref h0_onces, .int h0_snapMany, .int h0_lowest, .int h0_highest, .int h0_agreed, .int h0_jurors, .int h0_panelled, .ref h0_inSets, .int h0_surely, .int h0_asked, .ref h0_frees, .int h0_struck, .int h0_beating, .ref h0_text, .int h0_texts, .int h0_seed, .ref h0_line, .ref h0_written, .int h0_lineMany, .int h0_hasWritten, .ref h0_node, .int h0_nodes, .int h0_onesMany, .int h0_within, .int h0_top]))] (oQi D (fun (r : Int32) (u : Unit) => ((r = 0) ∧ (r = y_X12_isWord_5 h0_kind h0_word)) ∨ ((r = 1) ∧ (rg 2 2 h0_kind) ∧ (r = y_X12_isWord_5 h0_kind h0_word))) (fun (u : Unit) => [(h0, .inr (11, [.int h0_thrown, .ref h0_tape, .int h0_taped, .int h0_size, .int h0_limit, .int h0_to, .int h0_from, .int h0_kind, .int h0_number, .int h0_sign, .int h0_fault, .int h0_place, .long h0_word, .int h0_told, .ref h0_now, .ref h0_read, .ref h0_kept, .ref h0_snaps, .ref h0_aside, .ref h0_name, .ref h0_readName, .ref h0_keptName, .ref h0_isKept, .ref h0_onces, .int h0_snapMany, .int h0_lowest, .int h0_highest, .int h0_agreed, .int h0_jurors, .int h0_panelled, .ref h0_inSets, .int h0_surely, .int h0_asked, .ref h0_frees, .int h0_struck, .int h0_beating, .ref h0_text, .int h0_texts, .int h0_seed, .ref h0_line, .ref h0_written, .int h0_lineMany, .int h0_hasWritten, .ref h0_node, .int h0_nodes, .int h0_onesMany, .int h0_within, .int h0_top]))])) 0 0 := by
  refine oM (cc := cX12_isWord) (maxL := 2) (ret := (some .boolean)) (by decide) rfl (Nat.le_of_ble_eq_true rfl) [(0, .ref h0), (1, .int 5)] rfl ?_
  intro p e s m below meth c A H locs ls hx hb hr hml hts hown hlocks hin hK hP hD hA hS hl
  have hown : s.vm.findClass RX12 = some m.cls := hown
  have hY := y_X12_isWord_5_s h0_kind h0_word
  have k1 := hts (.fieldLink RX12 30 "LidCourtModel" "kind" "I") (by decide +kernel)
  have k2 : ∀ w ∈ wsX120, w ∈ wsX12_isWord := fun _ h => List.mem_cons_of_mem _ (List.mem_append_right _ h)
  have k3 := hts (.fieldLink RX12 43 "LidCourtModel" "word" "J") (by decide +kernel)
  refine lv_aload_n hx hb dX12_isWord_0 rfl (lv_at hl 0 rfl) ?_
  refine va_get (D := D) (ci := 11) (v := .int h0_kind) (C := RX12) (T := TX12) (N := 48) hx hb hts k2 hown hK.1 hP 0 rfl rfl 7 (by decide) k1 (fun _ h9 => h9) rfl dX12_isWord_1 ?_
  refine lv_iconst (v := 2) hx hb dX12_isWord_4 (by decide) ?_
  refine lv_icmp_ne (tgt := 24) hx hb dX12_isWord_5 (by decide) (fun c_18 => ?_) (fun c_18 => ?_)
  · skip
    have hY := hY.trans (if_neg c_18)
    refine lv_iconst (v := 0) hx hb dX12_isWord_24 (by decide) ?_
    exact oE_i hx hb hr (by decide) hlocks hP hD hS () [0] rfl (by decide) (Or.inl ⟨rfl, hY.symm⟩) (Nat.le_of_ble_eq_true rfl) (Nat.le_of_ble_eq_true rfl) dX12_isWord_25
  · skip
    have hY := hY.trans (if_pos c_18)
    have o_19 : rl 0 h0_kind 2 := rl_eq c_18
    have h_20 : rg 0 2 h0_kind := rl_x o_19 i_h0_kind (⟨by decide, by decide⟩ : rg 2 2 (2 : Int32)) (by decide) (by decide)
    have o_21 : rl 0 2 h0_kind := rl_eq c_18.symm
    have h_22 : rg 2 2 h0_kind := rl_y o_21 (⟨by decide, by decide⟩ : rg 2 2 (2 : Int32)) h_20 (by decide) (by decide)
    refine lv_aload_n hx hb dX12_isWord_8 rfl (lv_at hl 0 rfl) ?_
    refine va_get (D := D) (ci := 11) (v := .long h0_word) (C := RX12) (T := TX12) (N := 48) hx hb hts k2 hown hK.1 hP 0 rfl rfl 12 (by decide) k3 (fun _ h9 => h9) rfl dX12_isWord_9 ?_
    refine lv_iload_n hx hb dX12_isWord_12 rfl (lv_at hl 1 rfl) ?_
    refine oC_l (Wc := []) (Wr := [(h0, .inr (11, [.int h0_thrown, .ref h0_tape, .int h0_taped, .int h0_size, .int h0_limit, .int h0_to, .int h0_from, .int h0_kind, .int h0_number, .int h0_sign, .int h0_fault, .int h0_place, .long h0_word, .int h0_told, .ref h0_now, .ref h0_read, .ref h0_kept, .ref h0_snaps, .ref h0_aside, .ref h0_name, .ref h0_readName, .ref h0_keptName, .ref h0_isKept, .ref h0_onces, .int h0_snapMany, .int h0_lowest, .int h0_highest, .int h0_agreed, .int h0_jurors, .int h0_panelled, .ref h0_inSets, .int h0_surely, .int h0_asked, .ref h0_frees, .int h0_struck, .int h0_beating, .ref h0_text, .int h0_texts, .int h0_seed, .ref h0_line, .ref h0_written, .int h0_lineMany, .int h0_hasWritten, .ref h0_node, .int h0_nodes, .int h0_onesMany, .int h0_within, .int h0_top]))]) (va_runS (As := [.int 5]) (rest := [.long h0_word]) ⟨hx, hb, hml, hown, hts⟩ (e_X12_wordOf_5 l D ca H.size ) (va_cwS 1 hts gX12_isWord_X12_wordOf rfl rfl rfl (by decide +kernel) ⟨Nat.le_of_ble_eq_true rfl, Nat.le_of_ble_eq_true rfl⟩) (oPS hK hP hD [] rfl (by decide)) rfl rfl hl.1 rfl (lv_room (Nat.le_of_ble_eq_true rfl)) dX12_isWord_13 ⟨Nat.le_of_ble_eq_true rfl, Nat.le_of_ble_eq_true rfl⟩) hP hD hS hA [] [0] rfl rfl (by decide) (by decide) (fun r_23 u H locs w_24 hP hD hS => ?_)
    obtain ⟨⟩ := u
    have hP : va_P D vwCl [(h0, .inr (11, [.int h0_thrown, .ref h0_tape, .int h0_taped, .int h0_size, .int h0_limit, .int h0_to, .int h0_from, .int h0_kind, .int h0_number, .int h0_sign, .int h0_fault, .int h0_place, .long h0_word, .int h0_told, .ref h0_now, .ref h0_read, .ref h0_kept, .ref h0_snaps, .ref h0_aside, .ref h0_name, .ref h0_readName, .ref h0_keptName, .ref h0_isKept, .ref h0_onces, .int h0_snapMany, .int h0_lowest, .int h0_highest, .int h0_agreed, .int h0_jurors, .int h0_panelled, .ref h0_inSets, .int h0_surely, .int h0_asked, .ref h0_frees, .int h0_struck, .int h0_beating, .ref h0_text, .int h0_texts, .int h0_seed, .ref h0_line, .ref h0_written, .int h0_lineMany, .int h0_hasWritten, .ref h0_node, .int h0_nodes, .int h0_onesMany, .int h0_within, .int h0_top]))] H := hP
    have hD : va_D A [(h0, .inr (11, [.int h0_thrown, .ref h0_tape, .int h0_taped, .int h0_size, .int h0_limit, .int h0_to, .int h0_from, .int h0_kind, .int h0_number, .int h0_sign, .int h0_fault, .int h0_place, .long h0_word, .int h0_told, .ref h0_now, .ref h0_read, .ref h0_kept, .ref h0_snaps, .ref h0_aside, .ref h0_name, .ref h0_readName, .ref h0_keptName, .ref h0_isKept, .ref h0_onces, .int h0_snapMany, .int h0_lowest, .int h0_highest, .int h0_agreed, .int h0_jurors, .int h0_panelled, .ref h0_inSets, .int h0_surely, .int h0_asked, .ref h0_frees, .int h0_struck, .int h0_beating, .ref h0_text, .int h0_texts, .int h0_seed, .ref h0_line, .ref h0_written, .int h0_lineMany, .int h0_hasWritten, .ref h0_node, .int h0_nodes, .int h0_onesMany, .int h0_within, .int h0_top]))] := hD
    try dsimp only at w_24
    obtain ⟨h_25, h_26⟩ := w_24
    subst h_25
    have hY := hY.trans (lt1_e h_26)
    refine W.lcmp hx hb dX12_isWord_16 ?_
    refine lv_topi (fun x_27 ex_27 => ?_)
    have hY := hY.trans (lt1_e ex_27)
    refine lv_if_ne (tgt := 24) hx hb dX12_isWord_17 (by decide) (fun c_28 => ?_) (fun c_28 => ?_)
    · skip
      have hY := hY.trans (if_neg c_28)
      have h_29 : ¬ (h0_word : Int64) = 11318 := cmp_nn ex_27 c_28
      refine lv_iconst (v := 0) hx hb dX12_isWord_24 (by decide) ?_
      exact oE_i hx hb hr (by decide) hlocks hP hD hS () [0] rfl (by decide) (Or.inl ⟨rfl, hY.symm⟩) (Nat.le_of_ble_eq_true rfl) (Nat.le_of_ble_eq_true rfl) dX12_isWord_25
    · skip
      have hY := hY.trans (if_pos c_28)
      have o_30 : rl 0 x_27 0 := rl_eq c_28
      have h_31 : rg (-2147483648) 0 x_27 := rl_x o_30 (rga x_27) (⟨by decide, by decide⟩ : rg 0 0 (0 : Int32)) (by decide) (by decide)
      have o_32 : rl 0 0 x_27 := rl_eq c_28.symm
      have h_33 : rg 0 0 x_27 := rl_y o_32 (⟨by decide, by decide⟩ : rg 0 0 (0 : Int32)) h_31 (by decide) (by decide)
      have h_34 : (h0_word : Int64) = 11318 := cmp_eq ex_27 c_28
      refine lv_iconst (v := 1) hx hb dX12_isWord_20 (by decide) ?_
      refine lv_goto (tgt := 25) hx hb dX12_isWord_21 (by decide) ?_
      exact oE_i hx hb hr (by decide) hlocks hP hD hS () [0] rfl (by decide) (Or.inr (⟨rfl, h_22, hY.symm⟩)) (Nat.le_of_ble_eq_true rfl) (Nat.le_of_ble_eq_true rfl) dX12_isWord_25
set_option maxHeartbeats 4000000 in
set_option maxRecDepth 100000 in
theorem e_X12_isWord_6 (l : Launch) (D : va_G) (ca : Nat → ClassId) (sz : Nat) (h0 : Nat) (h0_thrown : Int32) (h0_tape : Nat) (h0_taped : Int32) (h0_size : Int32) (h0_limit : Int32) (h0_to : Int32) (h0_from : Int32) (h0_kind : Int32) (h0_number : Int32) (h0_sign : Int32) (h0_fault : Int32) (h0_place : Int32) (h0_word : Int64) (h0_told : Int32) (h0_now : Nat) (h0_read : Nat) (h0_kept : Nat) (h0_snaps : Nat) (h0_aside : Nat) (h0_name : Nat) (h0_readName : Nat) (h0_keptName : Nat) (h0_isKept : Nat) (h0_onces : Nat) (h0_snapMany : Int32) (h0_lowest : Int32) (h0_highest : Int32) (h0_agreed : Int32) (h0_jurors : Int32) (h0_panelled : Int32) (h0_inSets : Nat) (h0_surely : Int32) (h0_asked : Int32) (h0_frees : Nat) (h0_struck : Int32) (h0_beating : Int32) (h0_text : Nat) (h0_texts : Int32) (h0_seed : Int32) (h0_line : Nat) (h0_written : Nat) (h0_lineMany : Int32) (h0_hasWritten : Int32) (h0_node : Nat) (h0_nodes : Int32) (h0_onesMany : Int32) (h0_within : Int32) (h0_top : Int32) (i_h0_taped : rg 0 940 h0_taped) (i_h0_size : rg 0 940 h0_size) (i_h0_to : rg 0 940 h0_to) (i_h0_kind : rg 0 4 h0_kind) (i_h0_snapMany : rg 0 8 h0_snapMany) (i_h0_texts : rg 0 64 h0_texts) (i_h0_lineMany : rg 0 40 h0_lineMany) (i_h0_hasWritten : rg 0 1 h0_hasWritten) (i_h0_nodes : rg 0 60 h0_nodes) (i_h0_onesMany : rg 0 20 h0_onesMany) : oMet l yX12_isWord wsX12_isWord ({ frames := 2, cells := 0, slots := 0, locals := 48 } : Room) [.ref h0, .int 6] D ca sz [(h0, .inr (11, [.int h0_thrown, .ref h0_tape, .int h0_taped, .int h0_size, .int h0_limit, .int h0_to, .int h0_from, .int h0_kind, .int h0_number, .int h0_sign, .int h0_fault, .int h0_place, .long h0_word, .int h0_told, .ref h0_now, .ref h0_read, .ref h0_kept, .ref h0_snaps, .ref h0_aside, .ref h0_name, .ref h0_readName, .ref h0_keptName, .ref h0_isKept, .ref h0_onces, .int h0_snapMany, .int h0_lowest, .int h0_highest, .int h0_agreed, .int h0_jurors, .int h0_panelled, .ref h0_inSets, .int h0_surely, .int h0_asked, .ref h0_frees, .int h0_struck, .int h0_beating, .ref h0_text, .int h0_texts, .int h0_seed, .ref h0_line, .ref h0_written, .int h0_lineMany, .int h0_hasWritten, .ref h0_node, .int h0_nodes, .int h0_onesMany, .int h0_within, .int h0_top]))] (oQi D (fun (r : Int32) (u : Unit) => ((r = 0) ∧ (r = y_X12_isWord_6 h0_kind h0_word)) ∨ ((r = 1) ∧ (rg 2 2 h0_kind) ∧ (r = y_X12_isWord_6 h0_kind h0_word))) (fun (u : Unit) => [(h0, .inr (11, [.int h0_thrown, .ref h0_tape, .int h0_taped, .int h0_size, .int h0_limit, .int h0_to, .int h0_from, .int h0_kind, .int h0_number, .int h0_sign, .int h0_fault, .int h0_place, .long h0_word, .int h0_told, .ref h0_now, .ref h0_read, .ref h0_kept, .ref h0_snaps, .ref h0_aside, .ref h0_name, .ref h0_readName, .ref h0_keptName, .ref h0_isKept, .ref h0_onces, .int h0_snapMany, .int h0_lowest, .int h0_highest, .int h0_agreed, .int h0_jurors, .int h0_panelled, .ref h0_inSets, .int h0_surely, .int h0_asked, .ref h0_frees, .int h0_struck, .int h0_beating, .ref h0_text, .int h0_texts, .int h0_seed, .ref h0_line, .ref h0_written, .int h0_lineMany, .int h0_hasWritten, .ref h0_node, .int h0_nodes, .int h0_onesMany, .int h0_within, .int h0_top]))])) 0 0 := by
  refine oM (cc := cX12_isWord) (maxL := 2) (ret := (some .boolean)) (by decide) rfl (Nat.le_of_ble_eq_true rfl) [(0, .ref h0), (1, .int 6)] rfl ?_
  intro p e s m below meth c A H locs ls hx hb hr hml hts hown hlocks hin hK hP hD hA hS hl
  have hown : s.vm.findClass RX12 = some m.cls := hown
  have hY := y_X12_isWord_6_s h0_kind h0_word
  have k1 := hts (.fieldLink RX12 30 "LidCourtModel" "kind" "I") (by decide +kernel)
  have k2 : ∀ w ∈ wsX120, w ∈ wsX12_isWord := fun _ h => List.mem_cons_of_mem _ (List.mem_append_right _ h)
  have k3 := hts (.fieldLink RX12 43 "LidCourtModel" "word" "J") (by decide +kernel)
  refine lv_aload_n hx hb dX12_isWord_0 rfl (lv_at hl 0 rfl) ?_
  refine va_get (D := D) (ci := 11) (v := .int h0_kind) (C := RX12) (T := TX12) (N := 48) hx hb hts k2 hown hK.1 hP 0 rfl rfl 7 (by decide) k1 (fun _ h9 => h9) rfl dX12_isWord_1 ?_
  refine lv_iconst (v := 2) hx hb dX12_isWord_4 (by decide) ?_
  refine lv_icmp_ne (tgt := 24) hx hb dX12_isWord_5 (by decide) (fun c_18 => ?_) (fun c_18 => ?_)
  · skip
    have hY := hY.trans (if_neg c_18)
    refine lv_iconst (v := 0) hx hb dX12_isWord_24 (by decide) ?_
    exact oE_i hx hb hr (by decide) hlocks hP hD hS () [0] rfl (by decide) (Or.inl ⟨rfl, hY.symm⟩) (Nat.le_of_ble_eq_true rfl) (Nat.le_of_ble_eq_true rfl) dX12_isWord_25
  · skip
    have hY := hY.trans (if_pos c_18)
    have o_19 : rl 0 h0_kind 2 := rl_eq c_18
    have h_20 : rg 0 2 h0_kind := rl_x o_19 i_h0_kind (⟨by decide, by decide⟩ : rg 2 2 (2 : Int32)) (by decide) (by decide)
    have o_21 : rl 0 2 h0_kind := rl_eq c_18.symm
    have h_22 : rg 2 2 h0_kind := rl_y o_21 (⟨by decide, by decide⟩ : rg 2 2 (2 : Int32)) h_20 (by decide) (by decide)
    refine lv_aload_n hx hb dX12_isWord_8 rfl (lv_at hl 0 rfl) ?_
    refine va_get (D := D) (ci := 11) (v := .long h0_word) (C := RX12) (T := TX12) (N := 48) hx hb hts k2 hown hK.1 hP 0 rfl rfl 12 (by decide) k3 (fun _ h9 => h9) rfl dX12_isWord_9 ?_
    refine lv_iload_n hx hb dX12_isWord_12 rfl (lv_at hl 1 rfl) ?_
    refine oC_l (Wc := []) (Wr := [(h0, .inr (11, [.int h0_thrown, .ref h0_tape, .int h0_taped, .int h0_size, .int h0_limit, .int h0_to, .int h0_from, .int h0_kind, .int h0_number, .int h0_sign, .int h0_fault, .int h0_place, .long h0_word, .int h0_told, .ref h0_now, .ref h0_read, .ref h0_kept, .ref h0_snaps, .ref h0_aside, .ref h0_name, .ref h0_readName, .ref h0_keptName, .ref h0_isKept, .ref h0_onces, .int h0_snapMany, .int h0_lowest, .int h0_highest, .int h0_agreed, .int h0_jurors, .int h0_panelled, .ref h0_inSets, .int h0_surely, .int h0_asked, .ref h0_frees, .int h0_struck, .int h0_beating, .ref h0_text, .int h0_texts, .int h0_seed, .ref h0_line, .ref h0_written, .int h0_lineMany, .int h0_hasWritten, .ref h0_node, .int h0_nodes, .int h0_onesMany, .int h0_within, .int h0_top]))]) (va_runS (As := [.int 6]) (rest := [.long h0_word]) ⟨hx, hb, hml, hown, hts⟩ (e_X12_wordOf_6 l D ca H.size ) (va_cwS 1 hts gX12_isWord_X12_wordOf rfl rfl rfl (by decide +kernel) ⟨Nat.le_of_ble_eq_true rfl, Nat.le_of_ble_eq_true rfl⟩) (oPS hK hP hD [] rfl (by decide)) rfl rfl hl.1 rfl (lv_room (Nat.le_of_ble_eq_true rfl)) dX12_isWord_13 ⟨Nat.le_of_ble_eq_true rfl, Nat.le_of_ble_eq_true rfl⟩) hP hD hS hA [] [0] rfl rfl (by decide) (by decide) (fun r_23 u H locs w_24 hP hD hS => ?_)
    obtain ⟨⟩ := u
    have hP : va_P D vwCl [(h0, .inr (11, [.int h0_thrown, .ref h0_tape, .int h0_taped, .int h0_size, .int h0_limit, .int h0_to, .int h0_from, .int h0_kind, .int h0_number, .int h0_sign, .int h0_fault, .int h0_place, .long h0_word, .int h0_told, .ref h0_now, .ref h0_read, .ref h0_kept, .ref h0_snaps, .ref h0_aside, .ref h0_name, .ref h0_readName, .ref h0_keptName, .ref h0_isKept, .ref h0_onces, .int h0_snapMany, .int h0_lowest, .int h0_highest, .int h0_agreed, .int h0_jurors, .int h0_panelled, .ref h0_inSets, .int h0_surely, .int h0_asked, .ref h0_frees, .int h0_struck, .int h0_beating, .ref h0_text, .int h0_texts, .int h0_seed, .ref h0_line, .ref h0_written, .int h0_lineMany, .int h0_hasWritten, .ref h0_node, .int h0_nodes, .int h0_onesMany, .int h0_within, .int h0_top]))] H := hP
    have hD : va_D A [(h0, .inr (11, [.int h0_thrown, .ref h0_tape, .int h0_taped, .int h0_size, .int h0_limit, .int h0_to, .int h0_from, .int h0_kind, .int h0_number, .int h0_sign, .int h0_fault, .int h0_place, .long h0_word, .int h0_told, .ref h0_now, .ref h0_read, .ref h0_kept, .ref h0_snaps, .ref h0_aside, .ref h0_name, .ref h0_readName, .ref h0_keptName, .ref h0_isKept, .ref h0_onces, .int h0_snapMany, .int h0_lowest, .int h0_highest, .int h0_agreed, .int h0_jurors, .int h0_panelled, .ref h0_inSets, .int h0_surely, .int h0_asked, .ref h0_frees, .int h0_struck, .int h0_beating, .ref h0_text, .int h0_texts, .int h0_seed, .ref h0_line, .ref h0_written, .int h0_lineMany, .int h0_hasWritten, .ref h0_node, .int h0_nodes, .int h0_onesMany, .int h0_within, .int h0_top]))] := hD
    try dsimp only at w_24
    obtain ⟨h_25, h_26⟩ := w_24
    subst h_25
    have hY := hY.trans (lt1_e h_26)
    refine W.lcmp hx hb dX12_isWord_16 ?_
    refine lv_topi (fun x_27 ex_27 => ?_)
    have hY := hY.trans (lt1_e ex_27)
    refine lv_if_ne (tgt := 24) hx hb dX12_isWord_17 (by decide) (fun c_28 => ?_) (fun c_28 => ?_)
    · skip
      have hY := hY.trans (if_neg c_28)
      have h_29 : ¬ (h0_word : Int64) = 82775 := cmp_nn ex_27 c_28
      refine lv_iconst (v := 0) hx hb dX12_isWord_24 (by decide) ?_
      exact oE_i hx hb hr (by decide) hlocks hP hD hS () [0] rfl (by decide) (Or.inl ⟨rfl, hY.symm⟩) (Nat.le_of_ble_eq_true rfl) (Nat.le_of_ble_eq_true rfl) dX12_isWord_25
    · skip
      have hY := hY.trans (if_pos c_28)
      have o_30 : rl 0 x_27 0 := rl_eq c_28
      have h_31 : rg (-2147483648) 0 x_27 := rl_x o_30 (rga x_27) (⟨by decide, by decide⟩ : rg 0 0 (0 : Int32)) (by decide) (by decide)
      have o_32 : rl 0 0 x_27 := rl_eq c_28.symm
      have h_33 : rg 0 0 x_27 := rl_y o_32 (⟨by decide, by decide⟩ : rg 0 0 (0 : Int32)) h_31 (by decide) (by decide)
      have h_34 : (h0_word : Int64) = 82775 := cmp_eq ex_27 c_28
      refine lv_iconst (v := 1) hx hb dX12_isWord_20 (by decide) ?_
      refine lv_goto (tgt := 25) hx hb dX12_isWord_21 (by decide) ?_
      exact oE_i hx hb hr (by decide) hlocks hP hD hS () [0] rfl (by decide) (Or.inr (⟨rfl, h_22, hY.symm⟩)) (Nat.le_of_ble_eq_true rfl) (Nat.le_of_ble_eq_true rfl) dX12_isWord_25
set_option maxHeartbeats 4000000 in
set_option maxRecDepth 100000 in
theorem e_X12_isWord_7 (l : Launch) (D : va_G) (ca : Nat → ClassId) (sz : Nat) (h0 : Nat) (h0_thrown : Int32) (h0_tape : Nat) (h0_taped : Int32) (h0_size : Int32) (h0_limit : Int32) (h0_to : Int32) (h0_from : Int32) (h0_kind : Int32) (h0_number : Int32) (h0_sign : Int32) (h0_fault : Int32) (h0_place : Int32) (h0_word : Int64) (h0_told : Int32) (h0_now : Nat) (h0_read : Nat) (h0_kept : Nat) (h0_snaps : Nat) (h0_aside : Nat) (h0_name : Nat) (h0_readName : Nat) (h0_keptName : Nat) (h0_isKept : Nat) (h0_onces : Nat) (h0_snapMany : Int32) (h0_lowest : Int32) (h0_highest : Int32) (h0_agreed : Int32) (h0_jurors : Int32) (h0_panelled : Int32) (h0_inSets : Nat) (h0_surely : Int32) (h0_asked : Int32) (h0_frees : Nat) (h0_struck : Int32) (h0_beating : Int32) (h0_text : Nat) (h0_texts : Int32) (h0_seed : Int32) (h0_line : Nat) (h0_written : Nat) (h0_lineMany : Int32) (h0_hasWritten : Int32) (h0_node : Nat) (h0_nodes : Int32) (h0_onesMany : Int32) (h0_within : Int32) (h0_top : Int32) (i_h0_taped : rg 0 940 h0_taped) (i_h0_size : rg 0 940 h0_size) (i_h0_to : rg 0 940 h0_to) (i_h0_kind : rg 0 4 h0_kind) (i_h0_snapMany : rg 0 8 h0_snapMany) (i_h0_texts : rg 0 64 h0_texts) (i_h0_lineMany : rg 0 40 h0_lineMany) (i_h0_hasWritten : rg 0 1 h0_hasWritten) (i_h0_nodes : rg 0 60 h0_nodes) (i_h0_onesMany : rg 0 20 h0_onesMany) : oMet l yX12_isWord wsX12_isWord ({ frames := 2, cells := 0, slots := 0, locals := 48 } : Room) [.ref h0, .int 7] D ca sz [(h0, .inr (11, [.int h0_thrown, .ref h0_tape, .int h0_taped, .int h0_size, .int h0_limit, .int h0_to, .int h0_from, .int h0_kind, .int h0_number, .int h0_sign, .int h0_fault, .int h0_place, .long h0_word, .int h0_told, .ref h0_now, .ref h0_read, .ref h0_kept, .ref h0_snaps, .ref h0_aside, .ref h0_name, .ref h0_readName, .ref h0_keptName, .ref h0_isKept, .ref h0_onces, .int h0_snapMany, .int h0_lowest, .int h0_highest, .int h0_agreed, .int h0_jurors, .int h0_panelled, .ref h0_inSets, .int h0_surely, .int h0_asked, .ref h0_frees, .int h0_struck, .int h0_beating, .ref h0_text, .int h0_texts, .int h0_seed, .ref h0_line, .ref h0_written, .int h0_lineMany, .int h0_hasWritten, .ref h0_node, .int h0_nodes, .int h0_onesMany, .int h0_within, .int h0_top]))] (oQi D (fun (r : Int32) (u : Unit) => ((r = 0) ∧ (r = y_X12_isWord_7 h0_kind h0_word)) ∨ ((r = 1) ∧ (rg 2 2 h0_kind) ∧ (r = y_X12_isWord_7 h0_kind h0_word))) (fun (u : Unit) => [(h0, .inr (11, [.int h0_thrown, .ref h0_tape, .int h0_taped, .int h0_size, .int h0_limit, .int h0_to, .int h0_from, .int h0_kind, .int h0_number, .int h0_sign, .int h0_fault, .int h0_place, .long h0_word, .int h0_told, .ref h0_now, .ref h0_read, .ref h0_kept, .ref h0_snaps, .ref h0_aside, .ref h0_name, .ref h0_readName, .ref h0_keptName, .ref h0_isKept, .ref h0_onces, .int h0_snapMany, .int h0_lowest, .int h0_highest, .int h0_agreed, .int h0_jurors, .int h0_panelled, .ref h0_inSets, .int h0_surely, .int h0_asked, .ref h0_frees, .int h0_struck, .int h0_beating, .ref h0_text, .int h0_texts, .int h0_seed, .ref h0_line, .ref h0_written, .int h0_lineMany, .int h0_hasWritten, .ref h0_node, .int h0_nodes, .int h0_onesMany, .int h0_within, .int h0_top]))])) 0 0 := by
  refine oM (cc := cX12_isWord) (maxL := 2) (ret := (some .boolean)) (by decide) rfl (Nat.le_of_ble_eq_true rfl) [(0, .ref h0), (1, .int 7)] rfl ?_
  intro p e s m below meth c A H locs ls hx hb hr hml hts hown hlocks hin hK hP hD hA hS hl
  have hown : s.vm.findClass RX12 = some m.cls := hown
  have hY := y_X12_isWord_7_s h0_kind h0_word
  have k1 := hts (.fieldLink RX12 30 "LidCourtModel" "kind" "I") (by decide +kernel)
  have k2 : ∀ w ∈ wsX120, w ∈ wsX12_isWord := fun _ h => List.mem_cons_of_mem _ (List.mem_append_right _ h)
  have k3 := hts (.fieldLink RX12 43 "LidCourtModel" "word" "J") (by decide +kernel)
  refine lv_aload_n hx hb dX12_isWord_0 rfl (lv_at hl 0 rfl) ?_
  refine va_get (D := D) (ci := 11) (v := .int h0_kind) (C := RX12) (T := TX12) (N := 48) hx hb hts k2 hown hK.1 hP 0 rfl rfl 7 (by decide) k1 (fun _ h9 => h9) rfl dX12_isWord_1 ?_
  refine lv_iconst (v := 2) hx hb dX12_isWord_4 (by decide) ?_
  refine lv_icmp_ne (tgt := 24) hx hb dX12_isWord_5 (by decide) (fun c_18 => ?_) (fun c_18 => ?_)
  · skip
    have hY := hY.trans (if_neg c_18)
    refine lv_iconst (v := 0) hx hb dX12_isWord_24 (by decide) ?_
    exact oE_i hx hb hr (by decide) hlocks hP hD hS () [0] rfl (by decide) (Or.inl ⟨rfl, hY.symm⟩) (Nat.le_of_ble_eq_true rfl) (Nat.le_of_ble_eq_true rfl) dX12_isWord_25
  · skip
    have hY := hY.trans (if_pos c_18)
    have o_19 : rl 0 h0_kind 2 := rl_eq c_18
    have h_20 : rg 0 2 h0_kind := rl_x o_19 i_h0_kind (⟨by decide, by decide⟩ : rg 2 2 (2 : Int32)) (by decide) (by decide)
    have o_21 : rl 0 2 h0_kind := rl_eq c_18.symm
    have h_22 : rg 2 2 h0_kind := rl_y o_21 (⟨by decide, by decide⟩ : rg 2 2 (2 : Int32)) h_20 (by decide) (by decide)
    refine lv_aload_n hx hb dX12_isWord_8 rfl (lv_at hl 0 rfl) ?_
    refine va_get (D := D) (ci := 11) (v := .long h0_word) (C := RX12) (T := TX12) (N := 48) hx hb hts k2 hown hK.1 hP 0 rfl rfl 12 (by decide) k3 (fun _ h9 => h9) rfl dX12_isWord_9 ?_
    refine lv_iload_n hx hb dX12_isWord_12 rfl (lv_at hl 1 rfl) ?_
    refine oC_l (Wc := []) (Wr := [(h0, .inr (11, [.int h0_thrown, .ref h0_tape, .int h0_taped, .int h0_size, .int h0_limit, .int h0_to, .int h0_from, .int h0_kind, .int h0_number, .int h0_sign, .int h0_fault, .int h0_place, .long h0_word, .int h0_told, .ref h0_now, .ref h0_read, .ref h0_kept, .ref h0_snaps, .ref h0_aside, .ref h0_name, .ref h0_readName, .ref h0_keptName, .ref h0_isKept, .ref h0_onces, .int h0_snapMany, .int h0_lowest, .int h0_highest, .int h0_agreed, .int h0_jurors, .int h0_panelled, .ref h0_inSets, .int h0_surely, .int h0_asked, .ref h0_frees, .int h0_struck, .int h0_beating, .ref h0_text, .int h0_texts, .int h0_seed, .ref h0_line, .ref h0_written, .int h0_lineMany, .int h0_hasWritten, .ref h0_node, .int h0_nodes, .int h0_onesMany, .int h0_within, .int h0_top]))]) (va_runS (As := [.int 7]) (rest := [.long h0_word]) ⟨hx, hb, hml, hown, hts⟩ (e_X12_wordOf_7 l D ca H.size ) (va_cwS 1 hts gX12_isWord_X12_wordOf rfl rfl rfl (by decide +kernel) ⟨Nat.le_of_ble_eq_true rfl, Nat.le_of_ble_eq_true rfl⟩) (oPS hK hP hD [] rfl (by decide)) rfl rfl hl.1 rfl (lv_room (Nat.le_of_ble_eq_true rfl)) dX12_isWord_13 ⟨Nat.le_of_ble_eq_true rfl, Nat.le_of_ble_eq_true rfl⟩) hP hD hS hA [] [0] rfl rfl (by decide) (by decide) (fun r_23 u H locs w_24 hP hD hS => ?_)
    obtain ⟨⟩ := u
    have hP : va_P D vwCl [(h0, .inr (11, [.int h0_thrown, .ref h0_tape, .int h0_taped, .int h0_size, .int h0_limit, .int h0_to, .int h0_from, .int h0_kind, .int h0_number, .int h0_sign, .int h0_fault, .int h0_place, .long h0_word, .int h0_told, .ref h0_now, .ref h0_read, .ref h0_kept, .ref h0_snaps, .ref h0_aside, .ref h0_name, .ref h0_readName, .ref h0_keptName, .ref h0_isKept, .ref h0_onces, .int h0_snapMany, .int h0_lowest, .int h0_highest, .int h0_agreed, .int h0_jurors, .int h0_panelled, .ref h0_inSets, .int h0_surely, .int h0_asked, .ref h0_frees, .int h0_struck, .int h0_beating, .ref h0_text, .int h0_texts, .int h0_seed, .ref h0_line, .ref h0_written, .int h0_lineMany, .int h0_hasWritten, .ref h0_node, .int h0_nodes, .int h0_onesMany, .int h0_within, .int h0_top]))] H := hP
    have hD : va_D A [(h0, .inr (11, [.int h0_thrown, .ref h0_tape, .int h0_taped, .int h0_size, .int h0_limit, .int h0_to, .int h0_from, .int h0_kind, .int h0_number, .int h0_sign, .int h0_fault, .int h0_place, .long h0_word, .int h0_told, .ref h0_now, .ref h0_read, .ref h0_kept, .ref h0_snaps, .ref h0_aside, .ref h0_name, .ref h0_readName, .ref h0_keptName, .ref h0_isKept, .ref h0_onces, .int h0_snapMany, .int h0_lowest, .int h0_highest, .int h0_agreed, .int h0_jurors, .int h0_panelled, .ref h0_inSets, .int h0_surely, .int h0_asked, .ref h0_frees, .int h0_struck, .int h0_beating, .ref h0_text, .int h0_texts, .int h0_seed, .ref h0_line, .ref h0_written, .int h0_lineMany, .int h0_hasWritten, .ref h0_node, .int h0_nodes, .int h0_onesMany, .int h0_within, .int h0_top]))] := hD
    try dsimp only at w_24
    obtain ⟨h_25, h_26⟩ := w_24
    subst h_25
    have hY := hY.trans (lt1_e h_26)
    refine W.lcmp hx hb dX12_isWord_16 ?_
    refine lv_topi (fun x_27 ex_27 => ?_)
    have hY := hY.trans (lt1_e ex_27)
    refine lv_if_ne (tgt := 24) hx hb dX12_isWord_17 (by decide) (fun c_28 => ?_) (fun c_28 => ?_)
    · skip
      have hY := hY.trans (if_neg c_28)
      have h_29 : ¬ (h0_word : Int64) = 381097 := cmp_nn ex_27 c_28
      refine lv_iconst (v := 0) hx hb dX12_isWord_24 (by decide) ?_
      exact oE_i hx hb hr (by decide) hlocks hP hD hS () [0] rfl (by decide) (Or.inl ⟨rfl, hY.symm⟩) (Nat.le_of_ble_eq_true rfl) (Nat.le_of_ble_eq_true rfl) dX12_isWord_25
    · skip
      have hY := hY.trans (if_pos c_28)
      have o_30 : rl 0 x_27 0 := rl_eq c_28
      have h_31 : rg (-2147483648) 0 x_27 := rl_x o_30 (rga x_27) (⟨by decide, by decide⟩ : rg 0 0 (0 : Int32)) (by decide) (by decide)
      have o_32 : rl 0 0 x_27 := rl_eq c_28.symm
      have h_33 : rg 0 0 x_27 := rl_y o_32 (⟨by decide, by decide⟩ : rg 0 0 (0 : Int32)) h_31 (by decide) (by decide)
      have h_34 : (h0_word : Int64) = 381097 := cmp_eq ex_27 c_28
      refine lv_iconst (v := 1) hx hb dX12_isWord_20 (by decide) ?_
      refine lv_goto (tgt := 25) hx hb dX12_isWord_21 (by decide) ?_
      exact oE_i hx hb hr (by decide) hlocks hP hD hS () [0] rfl (by decide) (Or.inr (⟨rfl, h_22, hY.symm⟩)) (Nat.le_of_ble_eq_true rfl) (Nat.le_of_ble_eq_true rfl) dX12_isWord_25
set_option maxHeartbeats 4000000 in
set_option maxRecDepth 100000 in
theorem e_X12_isWord_8 (l : Launch) (D : va_G) (ca : Nat → ClassId) (sz : Nat) (h0 : Nat) (h0_thrown : Int32) (h0_tape : Nat) (h0_taped : Int32) (h0_size : Int32) (h0_limit : Int32) (h0_to : Int32) (h0_from : Int32) (h0_kind : Int32) (h0_number : Int32) (h0_sign : Int32) (h0_fault : Int32) (h0_place : Int32) (h0_word : Int64) (h0_told : Int32) (h0_now : Nat) (h0_read : Nat) (h0_kept : Nat) (h0_snaps : Nat) (h0_aside : Nat) (h0_name : Nat) (h0_readName : Nat) (h0_keptName : Nat) (h0_isKept : Nat) (h0_onces : Nat) (h0_snapMany : Int32) (h0_lowest : Int32) (h0_highest : Int32) (h0_agreed : Int32) (h0_jurors : Int32) (h0_panelled : Int32) (h0_inSets : Nat) (h0_surely : Int32) (h0_asked : Int32) (h0_frees : Nat) (h0_struck : Int32) (h0_beating : Int32) (h0_text : Nat) (h0_texts : Int32) (h0_seed : Int32) (h0_line : Nat) (h0_written : Nat) (h0_lineMany : Int32) (h0_hasWritten : Int32) (h0_node : Nat) (h0_nodes : Int32) (h0_onesMany : Int32) (h0_within : Int32) (h0_top : Int32) (i_h0_taped : rg 0 940 h0_taped) (i_h0_size : rg 0 940 h0_size) (i_h0_to : rg 0 940 h0_to) (i_h0_kind : rg 0 4 h0_kind) (i_h0_snapMany : rg 0 8 h0_snapMany) (i_h0_texts : rg 0 64 h0_texts) (i_h0_lineMany : rg 0 40 h0_lineMany) (i_h0_hasWritten : rg 0 1 h0_hasWritten) (i_h0_nodes : rg 0 60 h0_nodes) (i_h0_onesMany : rg 0 20 h0_onesMany) : oMet l yX12_isWord wsX12_isWord ({ frames := 2, cells := 0, slots := 0, locals := 48 } : Room) [.ref h0, .int 8] D ca sz [(h0, .inr (11, [.int h0_thrown, .ref h0_tape, .int h0_taped, .int h0_size, .int h0_limit, .int h0_to, .int h0_from, .int h0_kind, .int h0_number, .int h0_sign, .int h0_fault, .int h0_place, .long h0_word, .int h0_told, .ref h0_now, .ref h0_read, .ref h0_kept, .ref h0_snaps, .ref h0_aside, .ref h0_name, .ref h0_readName, .ref h0_keptName, .ref h0_isKept, .ref h0_onces, .int h0_snapMany, .int h0_lowest, .int h0_highest, .int h0_agreed, .int h0_jurors, .int h0_panelled, .ref h0_inSets, .int h0_surely, .int h0_asked, .ref h0_frees, .int h0_struck, .int h0_beating, .ref h0_text, .int h0_texts, .int h0_seed, .ref h0_line, .ref h0_written, .int h0_lineMany, .int h0_hasWritten, .ref h0_node, .int h0_nodes, .int h0_onesMany, .int h0_within, .int h0_top]))] (oQi D (fun (r : Int32) (u : Unit) => ((r = 0) ∧ (r = y_X12_isWord_8 h0_kind h0_word)) ∨ ((r = 1) ∧ (rg 2 2 h0_kind) ∧ (r = y_X12_isWord_8 h0_kind h0_word))) (fun (u : Unit) => [(h0, .inr (11, [.int h0_thrown, .ref h0_tape, .int h0_taped, .int h0_size, .int h0_limit, .int h0_to, .int h0_from, .int h0_kind, .int h0_number, .int h0_sign, .int h0_fault, .int h0_place, .long h0_word, .int h0_told, .ref h0_now, .ref h0_read, .ref h0_kept, .ref h0_snaps, .ref h0_aside, .ref h0_name, .ref h0_readName, .ref h0_keptName, .ref h0_isKept, .ref h0_onces, .int h0_snapMany, .int h0_lowest, .int h0_highest, .int h0_agreed, .int h0_jurors, .int h0_panelled, .ref h0_inSets, .int h0_surely, .int h0_asked, .ref h0_frees, .int h0_struck, .int h0_beating, .ref h0_text, .int h0_texts, .int h0_seed, .ref h0_line, .ref h0_written, .int h0_lineMany, .int h0_hasWritten, .ref h0_node, .int h0_nodes, .int h0_onesMany, .int h0_within, .int h0_top]))])) 0 0 := by
  refine oM (cc := cX12_isWord) (maxL := 2) (ret := (some .boolean)) (by decide) rfl (Nat.le_of_ble_eq_true rfl) [(0, .ref h0), (1, .int 8)] rfl ?_
  intro p e s m below meth c A H locs ls hx hb hr hml hts hown hlocks hin hK hP hD hA hS hl
  have hown : s.vm.findClass RX12 = some m.cls := hown
  have hY := y_X12_isWord_8_s h0_kind h0_word
  have k1 := hts (.fieldLink RX12 30 "LidCourtModel" "kind" "I") (by decide +kernel)
  have k2 : ∀ w ∈ wsX120, w ∈ wsX12_isWord := fun _ h => List.mem_cons_of_mem _ (List.mem_append_right _ h)
  have k3 := hts (.fieldLink RX12 43 "LidCourtModel" "word" "J") (by decide +kernel)
  refine lv_aload_n hx hb dX12_isWord_0 rfl (lv_at hl 0 rfl) ?_
  refine va_get (D := D) (ci := 11) (v := .int h0_kind) (C := RX12) (T := TX12) (N := 48) hx hb hts k2 hown hK.1 hP 0 rfl rfl 7 (by decide) k1 (fun _ h9 => h9) rfl dX12_isWord_1 ?_
  refine lv_iconst (v := 2) hx hb dX12_isWord_4 (by decide) ?_
  refine lv_icmp_ne (tgt := 24) hx hb dX12_isWord_5 (by decide) (fun c_18 => ?_) (fun c_18 => ?_)
  · skip
    have hY := hY.trans (if_neg c_18)
    refine lv_iconst (v := 0) hx hb dX12_isWord_24 (by decide) ?_
    exact oE_i hx hb hr (by decide) hlocks hP hD hS () [0] rfl (by decide) (Or.inl ⟨rfl, hY.symm⟩) (Nat.le_of_ble_eq_true rfl) (Nat.le_of_ble_eq_true rfl) dX12_isWord_25
  · skip
    have hY := hY.trans (if_pos c_18)
    have o_19 : rl 0 h0_kind 2 := rl_eq c_18
    have h_20 : rg 0 2 h0_kind := rl_x o_19 i_h0_kind (⟨by decide, by decide⟩ : rg 2 2 (2 : Int32)) (by decide) (by decide)
    have o_21 : rl 0 2 h0_kind := rl_eq c_18.symm
    have h_22 : rg 2 2 h0_kind := rl_y o_21 (⟨by decide, by decide⟩ : rg 2 2 (2 : Int32)) h_20 (by decide) (by decide)
    refine lv_aload_n hx hb dX12_isWord_8 rfl (lv_at hl 0 rfl) ?_
    refine va_get (D := D) (ci := 11) (v := .long h0_word) (C := RX12) (T := TX12) (N := 48) hx hb hts k2 hown hK.1 hP 0 rfl rfl 12 (by decide) k3 (fun _ h9 => h9) rfl dX12_isWord_9 ?_
    refine lv_iload_n hx hb dX12_isWord_12 rfl (lv_at hl 1 rfl) ?_
    refine oC_l (Wc := []) (Wr := [(h0, .inr (11, [.int h0_thrown, .ref h0_tape, .int h0_taped, .int h0_size, .int h0_limit, .int h0_to, .int h0_from, .int h0_kind, .int h0_number, .int h0_sign, .int h0_fault, .int h0_place, .long h0_word, .int h0_told, .ref h0_now, .ref h0_read, .ref h0_kept, .ref h0_snaps, .ref h0_aside, .ref h0_name, .ref h0_readName, .ref h0_keptName, .ref h0_isKept, .ref h0_onces, .int h0_snapMany, .int h0_lowest, .int h0_highest, .int h0_agreed, .int h0_jurors, .int h0_panelled, .ref h0_inSets, .int h0_surely, .int h0_asked, .ref h0_frees, .int h0_struck, .int h0_beating, .ref h0_text, .int h0_texts, .int h0_seed, .ref h0_line, .ref h0_written, .int h0_lineMany, .int h0_hasWritten, .ref h0_node, .int h0_nodes, .int h0_onesMany, .int h0_within, .int h0_top]))]) (va_runS (As := [.int 8]) (rest := [.long h0_word]) ⟨hx, hb, hml, hown, hts⟩ (e_X12_wordOf_8 l D ca H.size ) (va_cwS 1 hts gX12_isWord_X12_wordOf rfl rfl rfl (by decide +kernel) ⟨Nat.le_of_ble_eq_true rfl, Nat.le_of_ble_eq_true rfl⟩) (oPS hK hP hD [] rfl (by decide)) rfl rfl hl.1 rfl (lv_room (Nat.le_of_ble_eq_true rfl)) dX12_isWord_13 ⟨Nat.le_of_ble_eq_true rfl, Nat.le_of_ble_eq_true rfl⟩) hP hD hS hA [] [0] rfl rfl (by decide) (by decide) (fun r_23 u H locs w_24 hP hD hS => ?_)
    obtain ⟨⟩ := u
    have hP : va_P D vwCl [(h0, .inr (11, [.int h0_thrown, .ref h0_tape, .int h0_taped, .int h0_size, .int h0_limit, .int h0_to, .int h0_from, .int h0_kind, .int h0_number, .int h0_sign, .int h0_fault, .int h0_place, .long h0_word, .int h0_told, .ref h0_now, .ref h0_read, .ref h0_kept, .ref h0_snaps, .ref h0_aside, .ref h0_name, .ref h0_readName, .ref h0_keptName, .ref h0_isKept, .ref h0_onces, .int h0_snapMany, .int h0_lowest, .int h0_highest, .int h0_agreed, .int h0_jurors, .int h0_panelled, .ref h0_inSets, .int h0_surely, .int h0_asked, .ref h0_frees, .int h0_struck, .int h0_beating, .ref h0_text, .int h0_texts, .int h0_seed, .ref h0_line, .ref h0_written, .int h0_lineMany, .int h0_hasWritten, .ref h0_node, .int h0_nodes, .int h0_onesMany, .int h0_within, .int h0_top]))] H := hP
    have hD : va_D A [(h0, .inr (11, [.int h0_thrown, .ref h0_tape, .int h0_taped, .int h0_size, .int h0_limit, .int h0_to, .int h0_from, .int h0_kind, .int h0_number, .int h0_sign, .int h0_fault, .int h0_place, .long h0_word, .int h0_told, .ref h0_now, .ref h0_read, .ref h0_kept, .ref h0_snaps, .ref h0_aside, .ref h0_name, .ref h0_readName, .ref h0_keptName, .ref h0_isKept, .ref h0_onces, .int h0_snapMany, .int h0_lowest, .int h0_highest, .int h0_agreed, .int h0_jurors, .int h0_panelled, .ref h0_inSets, .int h0_surely, .int h0_asked, .ref h0_frees, .int h0_struck, .int h0_beating, .ref h0_text, .int h0_texts, .int h0_seed, .ref h0_line, .ref h0_written, .int h0_lineMany, .int h0_hasWritten, .ref h0_node, .int h0_nodes, .int h0_onesMany, .int h0_within, .int h0_top]))] := hD
    try dsimp only at w_24
    obtain ⟨h_25, h_26⟩ := w_24
    subst h_25
    have hY := hY.trans (lt1_e h_26)
    refine W.lcmp hx hb dX12_isWord_16 ?_
    refine lv_topi (fun x_27 ex_27 => ?_)
    have hY := hY.trans (lt1_e ex_27)
    refine lv_if_ne (tgt := 24) hx hb dX12_isWord_17 (by decide) (fun c_28 => ?_) (fun c_28 => ?_)
    · skip
      have hY := hY.trans (if_neg c_28)
      have h_29 : ¬ (h0_word : Int64) = 9757090 := cmp_nn ex_27 c_28
      refine lv_iconst (v := 0) hx hb dX12_isWord_24 (by decide) ?_
      exact oE_i hx hb hr (by decide) hlocks hP hD hS () [0] rfl (by decide) (Or.inl ⟨rfl, hY.symm⟩) (Nat.le_of_ble_eq_true rfl) (Nat.le_of_ble_eq_true rfl) dX12_isWord_25
    · skip
      have hY := hY.trans (if_pos c_28)
      have o_30 : rl 0 x_27 0 := rl_eq c_28
      have h_31 : rg (-2147483648) 0 x_27 := rl_x o_30 (rga x_27) (⟨by decide, by decide⟩ : rg 0 0 (0 : Int32)) (by decide) (by decide)
      have o_32 : rl 0 0 x_27 := rl_eq c_28.symm
      have h_33 : rg 0 0 x_27 := rl_y o_32 (⟨by decide, by decide⟩ : rg 0 0 (0 : Int32)) h_31 (by decide) (by decide)
      have h_34 : (h0_word : Int64) = 9757090 := cmp_eq ex_27 c_28
      refine lv_iconst (v := 1) hx hb dX12_isWord_20 (by decide) ?_
      refine lv_goto (tgt := 25) hx hb dX12_isWord_21 (by decide) ?_
      exact oE_i hx hb hr (by decide) hlocks hP hD hS () [0] rfl (by decide) (Or.inr (⟨rfl, h_22, hY.symm⟩)) (Nat.le_of_ble_eq_true rfl) (Nat.le_of_ble_eq_true rfl) dX12_isWord_25
set_option maxHeartbeats 4000000 in
set_option maxRecDepth 100000 in
theorem e_X12_isWord_9 (l : Launch) (D : va_G) (ca : Nat → ClassId) (sz : Nat) (h0 : Nat) (h0_thrown : Int32) (h0_tape : Nat) (h0_taped : Int32) (h0_size : Int32) (h0_limit : Int32) (h0_to : Int32) (h0_from : Int32) (h0_kind : Int32) (h0_number : Int32) (h0_sign : Int32) (h0_fault : Int32) (h0_place : Int32) (h0_word : Int64) (h0_told : Int32) (h0_now : Nat) (h0_read : Nat) (h0_kept : Nat) (h0_snaps : Nat) (h0_aside : Nat) (h0_name : Nat) (h0_readName : Nat) (h0_keptName : Nat) (h0_isKept : Nat) (h0_onces : Nat) (h0_snapMany : Int32) (h0_lowest : Int32) (h0_highest : Int32) (h0_agreed : Int32) (h0_jurors : Int32) (h0_panelled : Int32) (h0_inSets : Nat) (h0_surely : Int32) (h0_asked : Int32) (h0_frees : Nat) (h0_struck : Int32) (h0_beating : Int32) (h0_text : Nat) (h0_texts : Int32) (h0_seed : Int32) (h0_line : Nat) (h0_written : Nat) (h0_lineMany : Int32) (h0_hasWritten : Int32) (h0_node : Nat) (h0_nodes : Int32) (h0_onesMany : Int32) (h0_within : Int32) (h0_top : Int32) (i_h0_taped : rg 0 940 h0_taped) (i_h0_size : rg 0 940 h0_size) (i_h0_to : rg 0 940 h0_to) (i_h0_kind : rg 0 4 h0_kind) (i_h0_snapMany : rg 0 8 h0_snapMany) (i_h0_texts : rg 0 64 h0_texts) (i_h0_lineMany : rg 0 40 h0_lineMany) (i_h0_hasWritten : rg 0 1 h0_hasWritten) (i_h0_nodes : rg 0 60 h0_nodes) (i_h0_onesMany : rg 0 20 h0_onesMany) : oMet l yX12_isWord wsX12_isWord ({ frames := 2, cells := 0, slots := 0, locals := 48 } : Room) [.ref h0, .int 9] D ca sz [(h0, .inr (11, [.int h0_thrown, .ref h0_tape, .int h0_taped, .int h0_size, .int h0_limit, .int h0_to, .int h0_from, .int h0_kind, .int h0_number, .int h0_sign, .int h0_fault, .int h0_place, .long h0_word, .int h0_told, .ref h0_now, .ref h0_read, .ref h0_kept, .ref h0_snaps, .ref h0_aside, .ref h0_name, .ref h0_readName, .ref h0_keptName, .ref h0_isKept, .ref h0_onces, .int h0_snapMany, .int h0_lowest, .int h0_highest, .int h0_agreed, .int h0_jurors, .int h0_panelled, .ref h0_inSets, .int h0_surely, .int h0_asked, .ref h0_frees, .int h0_struck, .int h0_beating, .ref h0_text, .int h0_texts, .int h0_seed, .ref h0_line, .ref h0_written, .int h0_lineMany, .int h0_hasWritten, .ref h0_node, .int h0_nodes, .int h0_onesMany, .int h0_within, .int h0_top]))] (oQi D (fun (r : Int32) (u : Unit) => ((r = 0) ∧ (r = y_X12_isWord_9 h0_kind h0_word)) ∨ ((r = 1) ∧ (rg 2 2 h0_kind) ∧ (r = y_X12_isWord_9 h0_kind h0_word))) (fun (u : Unit) => [(h0, .inr (11, [.int h0_thrown, .ref h0_tape, .int h0_taped, .int h0_size, .int h0_limit, .int h0_to, .int h0_from, .int h0_kind, .int h0_number, .int h0_sign, .int h0_fault, .int h0_place, .long h0_word, .int h0_told, .ref h0_now, .ref h0_read, .ref h0_kept, .ref h0_snaps, .ref h0_aside, .ref h0_name, .ref h0_readName, .ref h0_keptName, .ref h0_isKept, .ref h0_onces, .int h0_snapMany, .int h0_lowest, .int h0_highest, .int h0_agreed, .int h0_jurors, .int h0_panelled, .ref h0_inSets, .int h0_surely, .int h0_asked, .ref h0_frees, .int h0_struck, .int h0_beating, .ref h0_text, .int h0_texts, .int h0_seed, .ref h0_line, .ref h0_written, .int h0_lineMany, .int h0_hasWritten, .ref h0_node, .int h0_nodes, .int h0_onesMany, .int h0_within, .int h0_top]))])) 0 0 := by
  refine oM (cc := cX12_isWord) (maxL := 2) (ret := (some .boolean)) (by decide) rfl (Nat.le_of_ble_eq_true rfl) [(0, .ref h0), (1, .int 9)] rfl ?_
  intro p e s m below meth c A H locs ls hx hb hr hml hts hown hlocks hin hK hP hD hA hS hl
  have hown : s.vm.findClass RX12 = some m.cls := hown
  have hY := y_X12_isWord_9_s h0_kind h0_word
  have k1 := hts (.fieldLink RX12 30 "LidCourtModel" "kind" "I") (by decide +kernel)
  have k2 : ∀ w ∈ wsX120, w ∈ wsX12_isWord := fun _ h => List.mem_cons_of_mem _ (List.mem_append_right _ h)
  have k3 := hts (.fieldLink RX12 43 "LidCourtModel" "word" "J") (by decide +kernel)
  refine lv_aload_n hx hb dX12_isWord_0 rfl (lv_at hl 0 rfl) ?_
  refine va_get (D := D) (ci := 11) (v := .int h0_kind) (C := RX12) (T := TX12) (N := 48) hx hb hts k2 hown hK.1 hP 0 rfl rfl 7 (by decide) k1 (fun _ h9 => h9) rfl dX12_isWord_1 ?_
  refine lv_iconst (v := 2) hx hb dX12_isWord_4 (by decide) ?_
  refine lv_icmp_ne (tgt := 24) hx hb dX12_isWord_5 (by decide) (fun c_18 => ?_) (fun c_18 => ?_)
  · skip
    have hY := hY.trans (if_neg c_18)
    refine lv_iconst (v := 0) hx hb dX12_isWord_24 (by decide) ?_
    exact oE_i hx hb hr (by decide) hlocks hP hD hS () [0] rfl (by decide) (Or.inl ⟨rfl, hY.symm⟩) (Nat.le_of_ble_eq_true rfl) (Nat.le_of_ble_eq_true rfl) dX12_isWord_25
  · skip
    have hY := hY.trans (if_pos c_18)
    have o_19 : rl 0 h0_kind 2 := rl_eq c_18
    have h_20 : rg 0 2 h0_kind := rl_x o_19 i_h0_kind (⟨by decide, by decide⟩ : rg 2 2 (2 : Int32)) (by decide) (by decide)
    have o_21 : rl 0 2 h0_kind := rl_eq c_18.symm
    have h_22 : rg 2 2 h0_kind := rl_y o_21 (⟨by decide, by decide⟩ : rg 2 2 (2 : Int32)) h_20 (by decide) (by decide)
    refine lv_aload_n hx hb dX12_isWord_8 rfl (lv_at hl 0 rfl) ?_
    refine va_get (D := D) (ci := 11) (v := .long h0_word) (C := RX12) (T := TX12) (N := 48) hx hb hts k2 hown hK.1 hP 0 rfl rfl 12 (by decide) k3 (fun _ h9 => h9) rfl dX12_isWord_9 ?_
    refine lv_iload_n hx hb dX12_isWord_12 rfl (lv_at hl 1 rfl) ?_
    refine oC_l (Wc := []) (Wr := [(h0, .inr (11, [.int h0_thrown, .ref h0_tape, .int h0_taped, .int h0_size, .int h0_limit, .int h0_to, .int h0_from, .int h0_kind, .int h0_number, .int h0_sign, .int h0_fault, .int h0_place, .long h0_word, .int h0_told, .ref h0_now, .ref h0_read, .ref h0_kept, .ref h0_snaps, .ref h0_aside, .ref h0_name, .ref h0_readName, .ref h0_keptName, .ref h0_isKept, .ref h0_onces, .int h0_snapMany, .int h0_lowest, .int h0_highest, .int h0_agreed, .int h0_jurors, .int h0_panelled, .ref h0_inSets, .int h0_surely, .int h0_asked, .ref h0_frees, .int h0_struck, .int h0_beating, .ref h0_text, .int h0_texts, .int h0_seed, .ref h0_line, .ref h0_written, .int h0_lineMany, .int h0_hasWritten, .ref h0_node, .int h0_nodes, .int h0_onesMany, .int h0_within, .int h0_top]))]) (va_runS (As := [.int 9]) (rest := [.long h0_word]) ⟨hx, hb, hml, hown, hts⟩ (e_X12_wordOf_9 l D ca H.size ) (va_cwS 1 hts gX12_isWord_X12_wordOf rfl rfl rfl (by decide +kernel) ⟨Nat.le_of_ble_eq_true rfl, Nat.le_of_ble_eq_true rfl⟩) (oPS hK hP hD [] rfl (by decide)) rfl rfl hl.1 rfl (lv_room (Nat.le_of_ble_eq_true rfl)) dX12_isWord_13 ⟨Nat.le_of_ble_eq_true rfl, Nat.le_of_ble_eq_true rfl⟩) hP hD hS hA [] [0] rfl rfl (by decide) (by decide) (fun r_23 u H locs w_24 hP hD hS => ?_)
    obtain ⟨⟩ := u
    have hP : va_P D vwCl [(h0, .inr (11, [.int h0_thrown, .ref h0_tape, .int h0_taped, .int h0_size, .int h0_limit, .int h0_to, .int h0_from, .int h0_kind, .int h0_number, .int h0_sign, .int h0_fault, .int h0_place, .long h0_word, .int h0_told, .ref h0_now, .ref h0_read, .ref h0_kept, .ref h0_snaps, .ref h0_aside, .ref h0_name, .ref h0_readName, .ref h0_keptName, .ref h0_isKept, .ref h0_onces, .int h0_snapMany, .int h0_lowest, .int h0_highest, .int h0_agreed, .int h0_jurors, .int h0_panelled, .ref h0_inSets, .int h0_surely, .int h0_asked, .ref h0_frees, .int h0_struck, .int h0_beating, .ref h0_text, .int h0_texts, .int h0_seed, .ref h0_line, .ref h0_written, .int h0_lineMany, .int h0_hasWritten, .ref h0_node, .int h0_nodes, .int h0_onesMany, .int h0_within, .int h0_top]))] H := hP
    have hD : va_D A [(h0, .inr (11, [.int h0_thrown, .ref h0_tape, .int h0_taped, .int h0_size, .int h0_limit, .int h0_to, .int h0_from, .int h0_kind, .int h0_number, .int h0_sign, .int h0_fault, .int h0_place, .long h0_word, .int h0_told, .ref h0_now, .ref h0_read, .ref h0_kept, .ref h0_snaps, .ref h0_aside, .ref h0_name, .ref h0_readName, .ref h0_keptName, .ref h0_isKept, .ref h0_onces, .int h0_snapMany, .int h0_lowest, .int h0_highest, .int h0_agreed, .int h0_jurors, .int h0_panelled, .ref h0_inSets, .int h0_surely, .int h0_asked, .ref h0_frees, .int h0_struck, .int h0_beating, .ref h0_text, .int h0_texts, .int h0_seed, .ref h0_line, .ref h0_written, .int h0_lineMany, .int h0_hasWritten, .ref h0_node, .int h0_nodes, .int h0_onesMany, .int h0_within, .int h0_top]))] := hD
    try dsimp only at w_24
    obtain ⟨h_25, h_26⟩ := w_24
    subst h_25
    have hY := hY.trans (lt1_e h_26)
    refine W.lcmp hx hb dX12_isWord_16 ?_
    refine lv_topi (fun x_27 ex_27 => ?_)
    have hY := hY.trans (lt1_e ex_27)
    refine lv_if_ne (tgt := 24) hx hb dX12_isWord_17 (by decide) (fun c_28 => ?_) (fun c_28 => ?_)
    · skip
      have hY := hY.trans (if_neg c_28)
      have h_29 : ¬ (h0_word : Int64) = 4555648 := cmp_nn ex_27 c_28
      refine lv_iconst (v := 0) hx hb dX12_isWord_24 (by decide) ?_
      exact oE_i hx hb hr (by decide) hlocks hP hD hS () [0] rfl (by decide) (Or.inl ⟨rfl, hY.symm⟩) (Nat.le_of_ble_eq_true rfl) (Nat.le_of_ble_eq_true rfl) dX12_isWord_25
    · skip
      have hY := hY.trans (if_pos c_28)
      have o_30 : rl 0 x_27 0 := rl_eq c_28
      have h_31 : rg (-2147483648) 0 x_27 := rl_x o_30 (rga x_27) (⟨by decide, by decide⟩ : rg 0 0 (0 : Int32)) (by decide) (by decide)
      have o_32 : rl 0 0 x_27 := rl_eq c_28.symm
      have h_33 : rg 0 0 x_27 := rl_y o_32 (⟨by decide, by decide⟩ : rg 0 0 (0 : Int32)) h_31 (by decide) (by decide)
      have h_34 : (h0_word : Int64) = 4555648 := cmp_eq ex_27 c_28
      refine lv_iconst (v := 1) hx hb dX12_isWord_20 (by decide) ?_
      refine lv_goto (tgt := 25) hx hb dX12_isWord_21 (by decide) ?_
      exact oE_i hx hb hr (by decide) hlocks hP hD hS () [0] rfl (by decide) (Or.inr (⟨rfl, h_22, hY.symm⟩)) (Nat.le_of_ble_eq_true rfl) (Nat.le_of_ble_eq_true rfl) dX12_isWord_25
set_option maxHeartbeats 4000000 in
set_option maxRecDepth 100000 in
theorem e_X12_isWord_10 (l : Launch) (D : va_G) (ca : Nat → ClassId) (sz : Nat) (h0 : Nat) (h0_thrown : Int32) (h0_tape : Nat) (h0_taped : Int32) (h0_size : Int32) (h0_limit : Int32) (h0_to : Int32) (h0_from : Int32) (h0_kind : Int32) (h0_number : Int32) (h0_sign : Int32) (h0_fault : Int32) (h0_place : Int32) (h0_word : Int64) (h0_told : Int32) (h0_now : Nat) (h0_read : Nat) (h0_kept : Nat) (h0_snaps : Nat) (h0_aside : Nat) (h0_name : Nat) (h0_readName : Nat) (h0_keptName : Nat) (h0_isKept : Nat) (h0_onces : Nat) (h0_snapMany : Int32) (h0_lowest : Int32) (h0_highest : Int32) (h0_agreed : Int32) (h0_jurors : Int32) (h0_panelled : Int32) (h0_inSets : Nat) (h0_surely : Int32) (h0_asked : Int32) (h0_frees : Nat) (h0_struck : Int32) (h0_beating : Int32) (h0_text : Nat) (h0_texts : Int32) (h0_seed : Int32) (h0_line : Nat) (h0_written : Nat) (h0_lineMany : Int32) (h0_hasWritten : Int32) (h0_node : Nat) (h0_nodes : Int32) (h0_onesMany : Int32) (h0_within : Int32) (h0_top : Int32) (i_h0_taped : rg 0 940 h0_taped) (i_h0_size : rg 0 940 h0_size) (i_h0_to : rg 0 940 h0_to) (i_h0_kind : rg 0 4 h0_kind) (i_h0_snapMany : rg 0 8 h0_snapMany) (i_h0_texts : rg 0 64 h0_texts) (i_h0_lineMany : rg 0 40 h0_lineMany) (i_h0_hasWritten : rg 0 1 h0_hasWritten) (i_h0_nodes : rg 0 60 h0_nodes) (i_h0_onesMany : rg 0 20 h0_onesMany) : oMet l yX12_isWord wsX12_isWord ({ frames := 2, cells := 0, slots := 0, locals := 48 } : Room) [.ref h0, .int 10] D ca sz [(h0, .inr (11, [.int h0_thrown, .ref h0_tape, .int h0_taped, .int h0_size, .int h0_limit, .int h0_to, .int h0_from, .int h0_kind, .int h0_number, .int h0_sign, .int h0_fault, .int h0_place, .long h0_word, .int h0_told, .ref h0_now, .ref h0_read, .ref h0_kept, .ref h0_snaps, .ref h0_aside, .ref h0_name, .ref h0_readName, .ref h0_keptName, .ref h0_isKept, .ref h0_onces, .int h0_snapMany, .int h0_lowest, .int h0_highest, .int h0_agreed, .int h0_jurors, .int h0_panelled, .ref h0_inSets, .int h0_surely, .int h0_asked, .ref h0_frees, .int h0_struck, .int h0_beating, .ref h0_text, .int h0_texts, .int h0_seed, .ref h0_line, .ref h0_written, .int h0_lineMany, .int h0_hasWritten, .ref h0_node, .int h0_nodes, .int h0_onesMany, .int h0_within, .int h0_top]))] (oQi D (fun (r : Int32) (u : Unit) => ((r = 0) ∧ (r = y_X12_isWord_10 h0_kind h0_word)) ∨ ((r = 1) ∧ (rg 2 2 h0_kind) ∧ (r = y_X12_isWord_10 h0_kind h0_word))) (fun (u : Unit) => [(h0, .inr (11, [.int h0_thrown, .ref h0_tape, .int h0_taped, .int h0_size, .int h0_limit, .int h0_to, .int h0_from, .int h0_kind, .int h0_number, .int h0_sign, .int h0_fault, .int h0_place, .long h0_word, .int h0_told, .ref h0_now, .ref h0_read, .ref h0_kept, .ref h0_snaps, .ref h0_aside, .ref h0_name, .ref h0_readName, .ref h0_keptName, .ref h0_isKept, .ref h0_onces, .int h0_snapMany, .int h0_lowest, .int h0_highest, .int h0_agreed, .int h0_jurors, .int h0_panelled, .ref h0_inSets, .int h0_surely, .int h0_asked, .ref h0_frees, .int h0_struck, .int h0_beating, .ref h0_text, .int h0_texts, .int h0_seed, .ref h0_line, .ref h0_written, .int h0_lineMany, .int h0_hasWritten, .ref h0_node, .int h0_nodes, .int h0_onesMany, .int h0_within, .int h0_top]))])) 0 0 := by
  refine oM (cc := cX12_isWord) (maxL := 2) (ret := (some .boolean)) (by decide) rfl (Nat.le_of_ble_eq_true rfl) [(0, .ref h0), (1, .int 10)] rfl ?_
  intro p e s m below meth c A H locs ls hx hb hr hml hts hown hlocks hin hK hP hD hA hS hl
  have hown : s.vm.findClass RX12 = some m.cls := hown
  have hY := y_X12_isWord_10_s h0_kind h0_word
  have k1 := hts (.fieldLink RX12 30 "LidCourtModel" "kind" "I") (by decide +kernel)
  have k2 : ∀ w ∈ wsX120, w ∈ wsX12_isWord := fun _ h => List.mem_cons_of_mem _ (List.mem_append_right _ h)
  have k3 := hts (.fieldLink RX12 43 "LidCourtModel" "word" "J") (by decide +kernel)
  refine lv_aload_n hx hb dX12_isWord_0 rfl (lv_at hl 0 rfl) ?_
  refine va_get (D := D) (ci := 11) (v := .int h0_kind) (C := RX12) (T := TX12) (N := 48) hx hb hts k2 hown hK.1 hP 0 rfl rfl 7 (by decide) k1 (fun _ h9 => h9) rfl dX12_isWord_1 ?_
  refine lv_iconst (v := 2) hx hb dX12_isWord_4 (by decide) ?_
  refine lv_icmp_ne (tgt := 24) hx hb dX12_isWord_5 (by decide) (fun c_18 => ?_) (fun c_18 => ?_)
  · skip
    have hY := hY.trans (if_neg c_18)
    refine lv_iconst (v := 0) hx hb dX12_isWord_24 (by decide) ?_
    exact oE_i hx hb hr (by decide) hlocks hP hD hS () [0] rfl (by decide) (Or.inl ⟨rfl, hY.symm⟩) (Nat.le_of_ble_eq_true rfl) (Nat.le_of_ble_eq_true rfl) dX12_isWord_25
  · skip
    have hY := hY.trans (if_pos c_18)
    have o_19 : rl 0 h0_kind 2 := rl_eq c_18
    have h_20 : rg 0 2 h0_kind := rl_x o_19 i_h0_kind (⟨by decide, by decide⟩ : rg 2 2 (2 : Int32)) (by decide) (by decide)
    have o_21 : rl 0 2 h0_kind := rl_eq c_18.symm
    have h_22 : rg 2 2 h0_kind := rl_y o_21 (⟨by decide, by decide⟩ : rg 2 2 (2 : Int32)) h_20 (by decide) (by decide)
    refine lv_aload_n hx hb dX12_isWord_8 rfl (lv_at hl 0 rfl) ?_
    refine va_get (D := D) (ci := 11) (v := .long h0_word) (C := RX12) (T := TX12) (N := 48) hx hb hts k2 hown hK.1 hP 0 rfl rfl 12 (by decide) k3 (fun _ h9 => h9) rfl dX12_isWord_9 ?_
    refine lv_iload_n hx hb dX12_isWord_12 rfl (lv_at hl 1 rfl) ?_
    refine oC_l (Wc := []) (Wr := [(h0, .inr (11, [.int h0_thrown, .ref h0_tape, .int h0_taped, .int h0_size, .int h0_limit, .int h0_to, .int h0_from, .int h0_kind, .int h0_number, .int h0_sign, .int h0_fault, .int h0_place, .long h0_word, .int h0_told, .ref h0_now, .ref h0_read, .ref h0_kept, .ref h0_snaps, .ref h0_aside, .ref h0_name, .ref h0_readName, .ref h0_keptName, .ref h0_isKept, .ref h0_onces, .int h0_snapMany, .int h0_lowest, .int h0_highest, .int h0_agreed, .int h0_jurors, .int h0_panelled, .ref h0_inSets, .int h0_surely, .int h0_asked, .ref h0_frees, .int h0_struck, .int h0_beating, .ref h0_text, .int h0_texts, .int h0_seed, .ref h0_line, .ref h0_written, .int h0_lineMany, .int h0_hasWritten, .ref h0_node, .int h0_nodes, .int h0_onesMany, .int h0_within, .int h0_top]))]) (va_runS (As := [.int 10]) (rest := [.long h0_word]) ⟨hx, hb, hml, hown, hts⟩ (e_X12_wordOf_10 l D ca H.size ) (va_cwS 1 hts gX12_isWord_X12_wordOf rfl rfl rfl (by decide +kernel) ⟨Nat.le_of_ble_eq_true rfl, Nat.le_of_ble_eq_true rfl⟩) (oPS hK hP hD [] rfl (by decide)) rfl rfl hl.1 rfl (lv_room (Nat.le_of_ble_eq_true rfl)) dX12_isWord_13 ⟨Nat.le_of_ble_eq_true rfl, Nat.le_of_ble_eq_true rfl⟩) hP hD hS hA [] [0] rfl rfl (by decide) (by decide) (fun r_23 u H locs w_24 hP hD hS => ?_)
    obtain ⟨⟩ := u
    have hP : va_P D vwCl [(h0, .inr (11, [.int h0_thrown, .ref h0_tape, .int h0_taped, .int h0_size, .int h0_limit, .int h0_to, .int h0_from, .int h0_kind, .int h0_number, .int h0_sign, .int h0_fault, .int h0_place, .long h0_word, .int h0_told, .ref h0_now, .ref h0_read, .ref h0_kept, .ref h0_snaps, .ref h0_aside, .ref h0_name, .ref h0_readName, .ref h0_keptName, .ref h0_isKept, .ref h0_onces, .int h0_snapMany, .int h0_lowest, .int h0_highest, .int h0_agreed, .int h0_jurors, .int h0_panelled, .ref h0_inSets, .int h0_surely, .int h0_asked, .ref h0_frees, .int h0_struck, .int h0_beating, .ref h0_text, .int h0_texts, .int h0_seed, .ref h0_line, .ref h0_written, .int h0_lineMany, .int h0_hasWritten, .ref h0_node, .int h0_nodes, .int h0_onesMany, .int h0_within, .int h0_top]))] H := hP
    have hD : va_D A [(h0, .inr (11, [.int h0_thrown, .ref h0_tape, .int h0_taped, .int h0_size, .int h0_limit, .int h0_to, .int h0_from, .int h0_kind, .int h0_number, .int h0_sign, .int h0_fault, .int h0_place, .long h0_word, .int h0_told, .ref h0_now, .ref h0_read, .ref h0_kept, .ref h0_snaps, .ref h0_aside, .ref h0_name, .ref h0_readName, .ref h0_keptName, .ref h0_isKept, .ref h0_onces, .int h0_snapMany, .int h0_lowest, .int h0_highest, .int h0_agreed, .int h0_jurors, .int h0_panelled, .ref h0_inSets, .int h0_surely, .int h0_asked, .ref h0_frees, .int h0_struck, .int h0_beating, .ref h0_text, .int h0_texts, .int h0_seed, .ref h0_line, .ref h0_written, .int h0_lineMany, .int h0_hasWritten, .ref h0_node, .int h0_nodes, .int h0_onesMany, .int h0_within, .int h0_top]))] := hD
    try dsimp only at w_24
    obtain ⟨h_25, h_26⟩ := w_24
    subst h_25
    have hY := hY.trans (lt1_e h_26)
    refine W.lcmp hx hb dX12_isWord_16 ?_
    refine lv_topi (fun x_27 ex_27 => ?_)
    have hY := hY.trans (lt1_e ex_27)
    refine lv_if_ne (tgt := 24) hx hb dX12_isWord_17 (by decide) (fun c_28 => ?_) (fun c_28 => ?_)
    · skip
      have hY := hY.trans (if_neg c_28)
      have h_29 : ¬ (h0_word : Int64) = 2491444 := cmp_nn ex_27 c_28
      refine lv_iconst (v := 0) hx hb dX12_isWord_24 (by decide) ?_
      exact oE_i hx hb hr (by decide) hlocks hP hD hS () [0] rfl (by decide) (Or.inl ⟨rfl, hY.symm⟩) (Nat.le_of_ble_eq_true rfl) (Nat.le_of_ble_eq_true rfl) dX12_isWord_25
    · skip
      have hY := hY.trans (if_pos c_28)
      have o_30 : rl 0 x_27 0 := rl_eq c_28
      have h_31 : rg (-2147483648) 0 x_27 := rl_x o_30 (rga x_27) (⟨by decide, by decide⟩ : rg 0 0 (0 : Int32)) (by decide) (by decide)
      have o_32 : rl 0 0 x_27 := rl_eq c_28.symm
      have h_33 : rg 0 0 x_27 := rl_y o_32 (⟨by decide, by decide⟩ : rg 0 0 (0 : Int32)) h_31 (by decide) (by decide)
      have h_34 : (h0_word : Int64) = 2491444 := cmp_eq ex_27 c_28
      refine lv_iconst (v := 1) hx hb dX12_isWord_20 (by decide) ?_
      refine lv_goto (tgt := 25) hx hb dX12_isWord_21 (by decide) ?_
      exact oE_i hx hb hr (by decide) hlocks hP hD hS () [0] rfl (by decide) (Or.inr (⟨rfl, h_22, hY.symm⟩)) (Nat.le_of_ble_eq_true rfl) (Nat.le_of_ble_eq_true rfl) dX12_isWord_25
set_option maxHeartbeats 4000000 in
set_option maxRecDepth 100000 in
theorem e_X12_isWord_11 (l : Launch) (D : va_G) (ca : Nat → ClassId) (sz : Nat) (h0 : Nat) (h0_thrown : Int32) (h0_tape : Nat) (h0_taped : Int32) (h0_size : Int32) (h0_limit : Int32) (h0_to : Int32) (h0_from : Int32) (h0_kind : Int32) (h0_number : Int32) (h0_sign : Int32) (h0_fault : Int32) (h0_place : Int32) (h0_word : Int64) (h0_told : Int32) (h0_now : Nat) (h0_read : Nat) (h0_kept : Nat) (h0_snaps : Nat) (h0_aside : Nat) (h0_name : Nat) (h0_readName : Nat) (h0_keptName : Nat) (h0_isKept : Nat) (h0_onces : Nat) (h0_snapMany : Int32) (h0_lowest : Int32) (h0_highest : Int32) (h0_agreed : Int32) (h0_jurors : Int32) (h0_panelled : Int32) (h0_inSets : Nat) (h0_surely : Int32) (h0_asked : Int32) (h0_frees : Nat) (h0_struck : Int32) (h0_beating : Int32) (h0_text : Nat) (h0_texts : Int32) (h0_seed : Int32) (h0_line : Nat) (h0_written : Nat) (h0_lineMany : Int32) (h0_hasWritten : Int32) (h0_node : Nat) (h0_nodes : Int32) (h0_onesMany : Int32) (h0_within : Int32) (h0_top : Int32) (i_h0_taped : rg 0 940 h0_taped) (i_h0_size : rg 0 940 h0_size) (i_h0_to : rg 0 940 h0_to) (i_h0_kind : rg 0 4 h0_kind) (i_h0_snapMany : rg 0 8 h0_snapMany) (i_h0_texts : rg 0 64 h0_texts) (i_h0_lineMany : rg 0 40 h0_lineMany) (i_h0_hasWritten : rg 0 1 h0_hasWritten) (i_h0_nodes : rg 0 60 h0_nodes) (i_h0_onesMany : rg 0 20 h0_onesMany) : oMet l yX12_isWord wsX12_isWord ({ frames := 2, cells := 0, slots := 0, locals := 48 } : Room) [.ref h0, .int 11] D ca sz [(h0, .inr (11, [.int h0_thrown, .ref h0_tape, .int h0_taped, .int h0_size, .int h0_limit, .int h0_to, .int h0_from, .int h0_kind, .int h0_number, .int h0_sign, .int h0_fault, .int h0_place, .long h0_word, .int h0_told, .ref h0_now, .ref h0_read, .ref h0_kept, .ref h0_snaps, .ref h0_aside, .ref h0_name, .ref h0_readName, .ref h0_keptName, .ref h0_isKept, .ref h0_onces, .int h0_snapMany, .int h0_lowest, .int h0_highest, .int h0_agreed, .int h0_jurors, .int h0_panelled, .ref h0_inSets, .int h0_surely, .int h0_asked, .ref h0_frees, .int h0_struck, .int h0_beating, .ref h0_text, .int h0_texts, .int h0_seed, .ref h0_line, .ref h0_written, .int h0_lineMany, .int h0_hasWritten, .ref h0_node, .int h0_nodes, .int h0_onesMany, .int h0_within, .int h0_top]))] (oQi D (fun (r : Int32) (u : Unit) => ((r = 0) ∧ (r = y_X12_isWord_11 h0_kind h0_word)) ∨ ((r = 1) ∧ (rg 2 2 h0_kind) ∧ (r = y_X12_isWord_11 h0_kind h0_word))) (fun (u : Unit) => [(h0, .inr (11, [.int h0_thrown, .ref h0_tape, .int h0_taped, .int h0_size, .int h0_limit, .int h0_to, .int h0_from, .int h0_kind, .int h0_number, .int h0_sign, .int h0_fault, .int h0_place, .long h0_word, .int h0_told, .ref h0_now, .ref h0_read, .ref h0_kept, .ref h0_snaps, .ref h0_aside, .ref h0_name, .ref h0_readName, .ref h0_keptName, .ref h0_isKept, .ref h0_onces, .int h0_snapMany, .int h0_lowest, .int h0_highest, .int h0_agreed, .int h0_jurors, .int h0_panelled, .ref h0_inSets, .int h0_surely, .int h0_asked, .ref h0_frees, .int h0_struck, .int h0_beating, .ref h0_text, .int h0_texts, .int h0_seed, .ref h0_line, .ref h0_written, .int h0_lineMany, .int h0_hasWritten, .ref h0_node, .int h0_nodes, .int h0_onesMany, .int h0_within, .int h0_top]))])) 0 0 := by
  refine oM (cc := cX12_isWord) (maxL := 2) (ret := (some .boolean)) (by decide) rfl (Nat.le_of_ble_eq_true rfl) [(0, .ref h0), (1, .int 11)] rfl ?_
  intro p e s m below meth c A H locs ls hx hb hr hml hts hown hlocks hin hK hP hD hA hS hl
  have hown : s.vm.findClass RX12 = some m.cls := hown
  have hY := y_X12_isWord_11_s h0_kind h0_word
  have k1 := hts (.fieldLink RX12 30 "LidCourtModel" "kind" "I") (by decide +kernel)
  have k2 : ∀ w ∈ wsX120, w ∈ wsX12_isWord := fun _ h => List.mem_cons_of_mem _ (List.mem_append_right _ h)
  have k3 := hts (.fieldLink RX12 43 "LidCourtModel" "word" "J") (by decide +kernel)
  refine lv_aload_n hx hb dX12_isWord_0 rfl (lv_at hl 0 rfl) ?_
  refine va_get (D := D) (ci := 11) (v := .int h0_kind) (C := RX12) (T := TX12) (N := 48) hx hb hts k2 hown hK.1 hP 0 rfl rfl 7 (by decide) k1 (fun _ h9 => h9) rfl dX12_isWord_1 ?_
  refine lv_iconst (v := 2) hx hb dX12_isWord_4 (by decide) ?_
  refine lv_icmp_ne (tgt := 24) hx hb dX12_isWord_5 (by decide) (fun c_18 => ?_) (fun c_18 => ?_)
  · skip
    have hY := hY.trans (if_neg c_18)
    refine lv_iconst (v := 0) hx hb dX12_isWord_24 (by decide) ?_
    exact oE_i hx hb hr (by decide) hlocks hP hD hS () [0] rfl (by decide) (Or.inl ⟨rfl, hY.symm⟩) (Nat.le_of_ble_eq_true rfl) (Nat.le_of_ble_eq_true rfl) dX12_isWord_25
  · skip
    have hY := hY.trans (if_pos c_18)
    have o_19 : rl 0 h0_kind 2 := rl_eq c_18
    have h_20 : rg 0 2 h0_kind := rl_x o_19 i_h0_kind (⟨by decide, by decide⟩ : rg 2 2 (2 : Int32)) (by decide) (by decide)
    have o_21 : rl 0 2 h0_kind := rl_eq c_18.symm
    have h_22 : rg 2 2 h0_kind := rl_y o_21 (⟨by decide, by decide⟩ : rg 2 2 (2 : Int32)) h_20 (by decide) (by decide)
    refine lv_aload_n hx hb dX12_isWord_8 rfl (lv_at hl 0 rfl) ?_
    refine va_get (D := D) (ci := 11) (v := .long h0_word) (C := RX12) (T := TX12) (N := 48) hx hb hts k2 hown hK.1 hP 0 rfl rfl 12 (by decide) k3 (fun _ h9 => h9) rfl dX12_isWord_9 ?_
    refine lv_iload_n hx hb dX12_isWord_12 rfl (lv_at hl 1 rfl) ?_
    refine oC_l (Wc := []) (Wr := [(h0, .inr (11, [.int h0_thrown, .ref h0_tape, .int h0_taped, .int h0_size, .int h0_limit, .int h0_to, .int h0_from, .int h0_kind, .int h0_number, .int h0_sign, .int h0_fault, .int h0_place, .long h0_word, .int h0_told, .ref h0_now, .ref h0_read, .ref h0_kept, .ref h0_snaps, .ref h0_aside, .ref h0_name, .ref h0_readName, .ref h0_keptName, .ref h0_isKept, .ref h0_onces, .int h0_snapMany, .int h0_lowest, .int h0_highest, .int h0_agreed, .int h0_jurors, .int h0_panelled, .ref h0_inSets, .int h0_surely, .int h0_asked, .ref h0_frees, .int h0_struck, .int h0_beating, .ref h0_text, .int h0_texts, .int h0_seed, .ref h0_line, .ref h0_written, .int h0_lineMany, .int h0_hasWritten, .ref h0_node, .int h0_nodes, .int h0_onesMany, .int h0_within, .int h0_top]))]) (va_runS (As := [.int 11]) (rest := [.long h0_word]) ⟨hx, hb, hml, hown, hts⟩ (e_X12_wordOf_11 l D ca H.size ) (va_cwS 1 hts gX12_isWord_X12_wordOf rfl rfl rfl (by decide +kernel) ⟨Nat.le_of_ble_eq_true rfl, Nat.le_of_ble_eq_true rfl⟩) (oPS hK hP hD [] rfl (by decide)) rfl rfl hl.1 rfl (lv_room (Nat.le_of_ble_eq_true rfl)) dX12_isWord_13 ⟨Nat.le_of_ble_eq_true rfl, Nat.le_of_ble_eq_true rfl⟩) hP hD hS hA [] [0] rfl rfl (by decide) (by decide) (fun r_23 u H locs w_24 hP hD hS => ?_)
    obtain ⟨⟩ := u
    have hP : va_P D vwCl [(h0, .inr (11, [.int h0_thrown, .ref h0_tape, .int h0_taped, .int h0_size, .int h0_limit, .int h0_to, .int h0_from, .int h0_kind, .int h0_number, .int h0_sign, .int h0_fault, .int h0_place, .long h0_word, .int h0_told, .ref h0_now, .ref h0_read, .ref h0_kept, .ref h0_snaps, .ref h0_aside, .ref h0_name, .ref h0_readName, .ref h0_keptName, .ref h0_isKept, .ref h0_onces, .int h0_snapMany, .int h0_lowest, .int h0_highest, .int h0_agreed, .int h0_jurors, .int h0_panelled, .ref h0_inSets, .int h0_surely, .int h0_asked, .ref h0_frees, .int h0_struck, .int h0_beating, .ref h0_text, .int h0_texts, .int h0_seed, .ref h0_line, .ref h0_written, .int h0_lineMany, .int h0_hasWritten, .ref h0_node, .int h0_nodes, .int h0_onesMany, .int h0_within, .int h0_top]))] H := hP
    have hD : va_D A [(h0, .inr (11, [.int h0_thrown, .ref h0_tape, .int h0_taped, .int h0_size, .int h0_limit, .int h0_to, .int h0_from, .int h0_kind, .int h0_number, .int h0_sign, .int h0_fault, .int h0_place, .long h0_word, .int h0_told, .ref h0_now, .ref h0_read, .ref h0_kept, .ref h0_snaps, .ref h0_aside, .ref h0_name, .ref h0_readName, .ref h0_keptName, .ref h0_isKept, .ref h0_onces, .int h0_snapMany, .int h0_lowest, .int h0_highest, .int h0_agreed, .int h0_jurors, .int h0_panelled, .ref h0_inSets, .int h0_surely, .int h0_asked, .ref h0_frees, .int h0_struck, .int h0_beating, .ref h0_text, .int h0_texts, .int h0_seed, .ref h0_line, .ref h0_written, .int h0_lineMany, .int h0_hasWritten, .ref h0_node, .int h0_nodes, .int h0_onesMany, .int h0_within, .int h0_top]))] := hD
    try dsimp only at w_24
    obtain ⟨h_25, h_26⟩ := w_24
    subst h_25
    have hY := hY.trans (lt1_e h_26)
    refine W.lcmp hx hb dX12_isWord_16 ?_
    refine lv_topi (fun x_27 ex_27 => ?_)
    have hY := hY.trans (lt1_e ex_27)
    refine lv_if_ne (tgt := 24) hx hb dX12_isWord_17 (by decide) (fun c_28 => ?_) (fun c_28 => ?_)
    · skip
      have hY := hY.trans (if_neg c_28)
      have h_29 : ¬ (h0_word : Int64) = 31389431 := cmp_nn ex_27 c_28
      refine lv_iconst (v := 0) hx hb dX12_isWord_24 (by decide) ?_
      exact oE_i hx hb hr (by decide) hlocks hP hD hS () [0] rfl (by decide) (Or.inl ⟨rfl, hY.symm⟩) (Nat.le_of_ble_eq_true rfl) (Nat.le_of_ble_eq_true rfl) dX12_isWord_25
    · skip
      have hY := hY.trans (if_pos c_28)
      have o_30 : rl 0 x_27 0 := rl_eq c_28
      have h_31 : rg (-2147483648) 0 x_27 := rl_x o_30 (rga x_27) (⟨by decide, by decide⟩ : rg 0 0 (0 : Int32)) (by decide) (by decide)
      have o_32 : rl 0 0 x_27 := rl_eq c_28.symm
      have h_33 : rg 0 0 x_27 := rl_y o_32 (⟨by decide, by decide⟩ : rg 0 0 (0 : Int32)) h_31 (by decide) (by decide)
      have h_34 : (h0_word : Int64) = 31389431 := cmp_eq ex_27 c_28
      refine lv_iconst (v := 1) hx hb dX12_isWord_20 (by decide) ?_
      refine lv_goto (tgt := 25) hx hb dX12_isWord_21 (by decide) ?_
      exact oE_i hx hb hr (by decide) hlocks hP hD hS () [0] rfl (by decide) (Or.inr (⟨rfl, h_22, hY.symm⟩)) (Nat.le_of_ble_eq_true rfl) (Nat.le_of_ble_eq_true rfl) dX12_isWord_25
set_option maxHeartbeats 4000000 in
set_option maxRecDepth 100000 in
theorem e_X12_isWord_12 (l : Launch) (D : va_G) (ca : Nat → ClassId) (sz : Nat) (h0 : Nat) (h0_thrown : Int32) (h0_tape : Nat) (h0_taped : Int32) (h0_size : Int32) (h0_limit : Int32) (h0_to : Int32) (h0_from : Int32) (h0_kind : Int32) (h0_number : Int32) (h0_sign : Int32) (h0_fault : Int32) (h0_place : Int32) (h0_word : Int64) (h0_told : Int32) (h0_now : Nat) (h0_read : Nat) (h0_kept : Nat) (h0_snaps : Nat) (h0_aside : Nat) (h0_name : Nat) (h0_readName : Nat) (h0_keptName : Nat) (h0_isKept : Nat) (h0_onces : Nat) (h0_snapMany : Int32) (h0_lowest : Int32) (h0_highest : Int32) (h0_agreed : Int32) (h0_jurors : Int32) (h0_panelled : Int32) (h0_inSets : Nat) (h0_surely : Int32) (h0_asked : Int32) (h0_frees : Nat) (h0_struck : Int32) (h0_beating : Int32) (h0_text : Nat) (h0_texts : Int32) (h0_seed : Int32) (h0_line : Nat) (h0_written : Nat) (h0_lineMany : Int32) (h0_hasWritten : Int32) (h0_node : Nat) (h0_nodes : Int32) (h0_onesMany : Int32) (h0_within : Int32) (h0_top : Int32) (i_h0_taped : rg 0 940 h0_taped) (i_h0_size : rg 0 940 h0_size) (i_h0_to : rg 0 940 h0_to) (i_h0_kind : rg 0 4 h0_kind) (i_h0_snapMany : rg 0 8 h0_snapMany) (i_h0_texts : rg 0 64 h0_texts) (i_h0_lineMany : rg 0 40 h0_lineMany) (i_h0_hasWritten : rg 0 1 h0_hasWritten) (i_h0_nodes : rg 0 60 h0_nodes) (i_h0_onesMany : rg 0 20 h0_onesMany) : oMet l yX12_isWord wsX12_isWord ({ frames := 2, cells := 0, slots := 0, locals := 48 } : Room) [.ref h0, .int 12] D ca sz [(h0, .inr (11, [.int h0_thrown, .ref h0_tape, .int h0_taped, .int h0_size, .int h0_limit, .int h0_to, .int h0_from, .int h0_kind, .int h0_number, .int h0_sign, .int h0_fault, .int h0_place, .long h0_word, .int h0_told, .ref h0_now, .ref h0_read, .ref h0_kept, .ref h0_snaps, .ref h0_aside, .ref h0_name, .ref h0_readName, .ref h0_keptName, .ref h0_isKept, .ref h0_onces, .int h0_snapMany, .int h0_lowest, .int h0_highest, .int h0_agreed, .int h0_jurors, .int h0_panelled, .ref h0_inSets, .int h0_surely, .int h0_asked, .ref h0_frees, .int h0_struck, .int h0_beating, .ref h0_text, .int h0_texts, .int h0_seed, .ref h0_line, .ref h0_written, .int h0_lineMany, .int h0_hasWritten, .ref h0_node, .int h0_nodes, .int h0_onesMany, .int h0_within, .int h0_top]))] (oQi D (fun (r : Int32) (u : Unit) => ((r = 0) ∧ (r = y_X12_isWord_12 h0_kind h0_word)) ∨ ((r = 1) ∧ (rg 2 2 h0_kind) ∧ (r = y_X12_isWord_12 h0_kind h0_word))) (fun (u : Unit) => [(h0, .inr (11, [.int h0_thrown, .ref h0_tape, .int h0_taped, .int h0_size, .int h0_limit, .int h0_to, .int h0_from, .int h0_kind, .int h0_number, .int h0_sign, .int h0_fault, .int h0_place, .long h0_word, .int h0_told, .ref h0_now, .ref h0_read, .ref h0_kept, .ref h0_snaps, .ref h0_aside, .ref h0_name, .ref h0_readName, .ref h0_keptName, .ref h0_isKept, .ref h0_onces, .int h0_snapMany, .int h0_lowest, .int h0_highest, .int h0_agreed, .int h0_jurors, .int h0_panelled, .ref h0_inSets, .int h0_surely, .int h0_asked, .ref h0_frees, .int h0_struck, .int h0_beating, .ref h0_text, .int h0_texts, .int h0_seed, .ref h0_line, .ref h0_written, .int h0_lineMany, .int h0_hasWritten, .ref h0_node, .int h0_nodes, .int h0_onesMany, .int h0_within, .int h0_top]))])) 0 0 := by
  refine oM (cc := cX12_isWord) (maxL := 2) (ret := (some .boolean)) (by decide) rfl (Nat.le_of_ble_eq_true rfl) [(0, .ref h0), (1, .int 12)] rfl ?_
  intro p e s m below meth c A H locs ls hx hb hr hml hts hown hlocks hin hK hP hD hA hS hl
  have hown : s.vm.findClass RX12 = some m.cls := hown
  have hY := y_X12_isWord_12_s h0_kind h0_word
  have k1 := hts (.fieldLink RX12 30 "LidCourtModel" "kind" "I") (by decide +kernel)
  have k2 : ∀ w ∈ wsX120, w ∈ wsX12_isWord := fun _ h => List.mem_cons_of_mem _ (List.mem_append_right _ h)
  have k3 := hts (.fieldLink RX12 43 "LidCourtModel" "word" "J") (by decide +kernel)
  refine lv_aload_n hx hb dX12_isWord_0 rfl (lv_at hl 0 rfl) ?_
  refine va_get (D := D) (ci := 11) (v := .int h0_kind) (C := RX12) (T := TX12) (N := 48) hx hb hts k2 hown hK.1 hP 0 rfl rfl 7 (by decide) k1 (fun _ h9 => h9) rfl dX12_isWord_1 ?_
  refine lv_iconst (v := 2) hx hb dX12_isWord_4 (by decide) ?_
  refine lv_icmp_ne (tgt := 24) hx hb dX12_isWord_5 (by decide) (fun c_18 => ?_) (fun c_18 => ?_)
  · skip
    have hY := hY.trans (if_neg c_18)
    refine lv_iconst (v := 0) hx hb dX12_isWord_24 (by decide) ?_
    exact oE_i hx hb hr (by decide) hlocks hP hD hS () [0] rfl (by decide) (Or.inl ⟨rfl, hY.symm⟩) (Nat.le_of_ble_eq_true rfl) (Nat.le_of_ble_eq_true rfl) dX12_isWord_25
  · skip
    have hY := hY.trans (if_pos c_18)
    have o_19 : rl 0 h0_kind 2 := rl_eq c_18
    have h_20 : rg 0 2 h0_kind := rl_x o_19 i_h0_kind (⟨by decide, by decide⟩ : rg 2 2 (2 : Int32)) (by decide) (by decide)
    have o_21 : rl 0 2 h0_kind := rl_eq c_18.symm
    have h_22 : rg 2 2 h0_kind := rl_y o_21 (⟨by decide, by decide⟩ : rg 2 2 (2 : Int32)) h_20 (by decide) (by decide)
    refine lv_aload_n hx hb dX12_isWord_8 rfl (lv_at hl 0 rfl) ?_
    refine va_get (D := D) (ci := 11) (v := .long h0_word) (C := RX12) (T := TX12) (N := 48) hx hb hts k2 hown hK.1 hP 0 rfl rfl 12 (by decide) k3 (fun _ h9 => h9) rfl dX12_isWord_9 ?_
    refine lv_iload_n hx hb dX12_isWord_12 rfl (lv_at hl 1 rfl) ?_
    refine oC_l (Wc := []) (Wr := [(h0, .inr (11, [.int h0_thrown, .ref h0_tape, .int h0_taped, .int h0_size, .int h0_limit, .int h0_to, .int h0_from, .int h0_kind, .int h0_number, .int h0_sign, .int h0_fault, .int h0_place, .long h0_word, .int h0_told, .ref h0_now, .ref h0_read, .ref h0_kept, .ref h0_snaps, .ref h0_aside, .ref h0_name, .ref h0_readName, .ref h0_keptName, .ref h0_isKept, .ref h0_onces, .int h0_snapMany, .int h0_lowest, .int h0_highest, .int h0_agreed, .int h0_jurors, .int h0_panelled, .ref h0_inSets, .int h0_surely, .int h0_asked, .ref h0_frees, .int h0_struck, .int h0_beating, .ref h0_text, .int h0_texts, .int h0_seed, .ref h0_line, .ref h0_written, .int h0_lineMany, .int h0_hasWritten, .ref h0_node, .int h0_nodes, .int h0_onesMany, .int h0_within, .int h0_top]))]) (va_runS (As := [.int 12]) (rest := [.long h0_word]) ⟨hx, hb, hml, hown, hts⟩ (e_X12_wordOf_12 l D ca H.size ) (va_cwS 1 hts gX12_isWord_X12_wordOf rfl rfl rfl (by decide +kernel) ⟨Nat.le_of_ble_eq_true rfl, Nat.le_of_ble_eq_true rfl⟩) (oPS hK hP hD [] rfl (by decide)) rfl rfl hl.1 rfl (lv_room (Nat.le_of_ble_eq_true rfl)) dX12_isWord_13 ⟨Nat.le_of_ble_eq_true rfl, Nat.le_of_ble_eq_true rfl⟩) hP hD hS hA [] [0] rfl rfl (by decide) (by decide) (fun r_23 u H locs w_24 hP hD hS => ?_)
    obtain ⟨⟩ := u
    have hP : va_P D vwCl [(h0, .inr (11, [.int h0_thrown, .ref h0_tape, .int h0_taped, .int h0_size, .int h0_limit, .int h0_to, .int h0_from, .int h0_kind, .int h0_number, .int h0_sign, .int h0_fault, .int h0_place, .long h0_word, .int h0_told, .ref h0_now, .ref h0_read, .ref h0_kept, .ref h0_snaps, .ref h0_aside, .ref h0_name, .ref h0_readName, .ref h0_keptName, .ref h0_isKept, .ref h0_onces, .int h0_snapMany, .int h0_lowest, .int h0_highest, .int h0_agreed, .int h0_jurors, .int h0_panelled, .ref h0_inSets, .int h0_surely, .int h0_asked, .ref h0_frees, .int h0_struck, .int h0_beating, .ref h0_text, .int h0_texts, .int h0_seed, .ref h0_line, .ref h0_written, .int h0_lineMany, .int h0_hasWritten, .ref h0_node, .int h0_nodes, .int h0_onesMany, .int h0_within, .int h0_top]))] H := hP
    have hD : va_D A [(h0, .inr (11, [.int h0_thrown, .ref h0_tape, .int h0_taped, .int h0_size, .int h0_limit, .int h0_to, .int h0_from, .int h0_kind, .int h0_number, .int h0_sign, .int h0_fault, .int h0_place, .long h0_word, .int h0_told, .ref h0_now, .ref h0_read, .ref h0_kept, .ref h0_snaps, .ref h0_aside, .ref h0_name, .ref h0_readName, .ref h0_keptName, .ref h0_isKept, .ref h0_onces, .int h0_snapMany, .int h0_lowest, .int h0_highest, .int h0_agreed, .int h0_jurors, .int h0_panelled, .ref h0_inSets, .int h0_surely, .int h0_asked, .ref h0_frees, .int h0_struck, .int h0_beating, .ref h0_text, .int h0_texts, .int h0_seed, .ref h0_line, .ref h0_written, .int h0_lineMany, .int h0_hasWritten, .ref h0_node, .int h0_nodes, .int h0_onesMany, .int h0_within, .int h0_top]))] := hD
    try dsimp only at w_24
    obtain ⟨h_25, h_26⟩ := w_24
    subst h_25
    have hY := hY.trans (lt1_e h_26)
    refine W.lcmp hx hb dX12_isWord_16 ?_
    refine lv_topi (fun x_27 ex_27 => ?_)
    have hY := hY.trans (lt1_e ex_27)
    refine lv_if_ne (tgt := 24) hx hb dX12_isWord_17 (by decide) (fun c_28 => ?_) (fun c_28 => ?_)
    · skip
      have hY := hY.trans (if_neg c_28)
      have h_29 : ¬ (h0_word : Int64) = 15091 := cmp_nn ex_27 c_28
      refine lv_iconst (v := 0) hx hb dX12_isWord_24 (by decide) ?_
      exact oE_i hx hb hr (by decide) hlocks hP hD hS () [0] rfl (by decide) (Or.inl ⟨rfl, hY.symm⟩) (Nat.le_of_ble_eq_true rfl) (Nat.le_of_ble_eq_true rfl) dX12_isWord_25
    · skip
      have hY := hY.trans (if_pos c_28)
      have o_30 : rl 0 x_27 0 := rl_eq c_28
      have h_31 : rg (-2147483648) 0 x_27 := rl_x o_30 (rga x_27) (⟨by decide, by decide⟩ : rg 0 0 (0 : Int32)) (by decide) (by decide)
      have o_32 : rl 0 0 x_27 := rl_eq c_28.symm
      have h_33 : rg 0 0 x_27 := rl_y o_32 (⟨by decide, by decide⟩ : rg 0 0 (0 : Int32)) h_31 (by decide) (by decide)
      have h_34 : (h0_word : Int64) = 15091 := cmp_eq ex_27 c_28
      refine lv_iconst (v := 1) hx hb dX12_isWord_20 (by decide) ?_
      refine lv_goto (tgt := 25) hx hb dX12_isWord_21 (by decide) ?_
      exact oE_i hx hb hr (by decide) hlocks hP hD hS () [0] rfl (by decide) (Or.inr (⟨rfl, h_22, hY.symm⟩)) (Nat.le_of_ble_eq_true rfl) (Nat.le_of_ble_eq_true rfl) dX12_isWord_25
set_option maxHeartbeats 4000000 in
set_option maxRecDepth 100000 in
theorem e_X12_isWord_13 (l : Launch) (D : va_G) (ca : Nat → ClassId) (sz : Nat) (h0 : Nat) (h0_thrown : Int32) (h0_tape : Nat) (h0_taped : Int32) (h0_size : Int32) (h0_limit : Int32) (h0_to : Int32) (h0_from : Int32) (h0_kind : Int32) (h0_number : Int32) (h0_sign : Int32) (h0_fault : Int32) (h0_place : Int32) (h0_word : Int64) (h0_told : Int32) (h0_now : Nat) (h0_read : Nat) (h0_kept : Nat) (h0_snaps : Nat) (h0_aside : Nat) (h0_name : Nat) (h0_readName : Nat) (h0_keptName : Nat) (h0_isKept : Nat) (h0_onces : Nat) (h0_snapMany : Int32) (h0_lowest : Int32) (h0_highest : Int32) (h0_agreed : Int32) (h0_jurors : Int32) (h0_panelled : Int32) (h0_inSets : Nat) (h0_surely : Int32) (h0_asked : Int32) (h0_frees : Nat) (h0_struck : Int32) (h0_beating : Int32) (h0_text : Nat) (h0_texts : Int32) (h0_seed : Int32) (h0_line : Nat) (h0_written : Nat) (h0_lineMany : Int32) (h0_hasWritten : Int32) (h0_node : Nat) (h0_nodes : Int32) (h0_onesMany : Int32) (h0_within : Int32) (h0_top : Int32) (i_h0_taped : rg 0 940 h0_taped) (i_h0_size : rg 0 940 h0_size) (i_h0_to : rg 0 940 h0_to) (i_h0_kind : rg 0 4 h0_kind) (i_h0_snapMany : rg 0 8 h0_snapMany) (i_h0_texts : rg 0 64 h0_texts) (i_h0_lineMany : rg 0 40 h0_lineMany) (i_h0_hasWritten : rg 0 1 h0_hasWritten) (i_h0_nodes : rg 0 60 h0_nodes) (i_h0_onesMany : rg 0 20 h0_onesMany) : oMet l yX12_isWord wsX12_isWord ({ frames := 2, cells := 0, slots := 0, locals := 48 } : Room) [.ref h0, .int 13] D ca sz [(h0, .inr (11, [.int h0_thrown, .ref h0_tape, .int h0_taped, .int h0_size, .int h0_limit, .int h0_to, .int h0_from, .int h0_kind, .int h0_number, .int h0_sign, .int h0_fault, .int h0_place, .long h0_word, .int h0_told, .ref h0_now, .ref h0_read, .ref h0_kept, .ref h0_snaps, .ref h0_aside, .ref h0_name, .ref h0_readName, .ref h0_keptName, .ref h0_isKept, .ref h0_onces, .int h0_snapMany, .int h0_lowest, .int h0_highest, .int h0_agreed, .int h0_jurors, .int h0_panelled, .ref h0_inSets, .int h0_surely, .int h0_asked, .ref h0_frees, .int h0_struck, .int h0_beating, .ref h0_text, .int h0_texts, .int h0_seed, .ref h0_line, .ref h0_written, .int h0_lineMany, .int h0_hasWritten, .ref h0_node, .int h0_nodes, .int h0_onesMany, .int h0_within, .int h0_top]))] (oQi D (fun (r : Int32) (u : Unit) => ((r = 0) ∧ (r = y_X12_isWord_13 h0_kind h0_word)) ∨ ((r = 1) ∧ (rg 2 2 h0_kind) ∧ (r = y_X12_isWord_13 h0_kind h0_word))) (fun (u : Unit) => [(h0, .inr (11, [.int h0_thrown, .ref h0_tape, .int h0_taped, .int h0_size, .int h0_limit, .int h0_to, .int h0_from, .int h0_kind, .int h0_number, .int h0_sign, .int h0_fault, .int h0_place, .long h0_word, .int h0_told, .ref h0_now, .ref h0_read, .ref h0_kept, .ref h0_snaps, .ref h0_aside, .ref h0_name, .ref h0_readName, .ref h0_keptName, .ref h0_isKept, .ref h0_onces, .int h0_snapMany, .int h0_lowest, .int h0_highest, .int h0_agreed, .int h0_jurors, .int h0_panelled, .ref h0_inSets, .int h0_surely, .int h0_asked, .ref h0_frees, .int h0_struck, .int h0_beating, .ref h0_text, .int h0_texts, .int h0_seed, .ref h0_line, .ref h0_written, .int h0_lineMany, .int h0_hasWritten, .ref h0_node, .int h0_nodes, .int h0_onesMany, .int h0_within, .int h0_top]))])) 0 0 := by
  refine oM (cc := cX12_isWord) (maxL := 2) (ret := (some .boolean)) (by decide) rfl (Nat.le_of_ble_eq_true rfl) [(0, .ref h0), (1, .int 13)] rfl ?_
  intro p e s m below meth c A H locs ls hx hb hr hml hts hown hlocks hin hK hP hD hA hS hl
  have hown : s.vm.findClass RX12 = some m.cls := hown
  have hY := y_X12_isWord_13_s h0_kind h0_word
  have k1 := hts (.fieldLink RX12 30 "LidCourtModel" "kind" "I") (by decide +kernel)
  have k2 : ∀ w ∈ wsX120, w ∈ wsX12_isWord := fun _ h => List.mem_cons_of_mem _ (List.mem_append_right _ h)
  have k3 := hts (.fieldLink RX12 43 "LidCourtModel" "word" "J") (by decide +kernel)
  refine lv_aload_n hx hb dX12_isWord_0 rfl (lv_at hl 0 rfl) ?_
  refine va_get (D := D) (ci := 11) (v := .int h0_kind) (C := RX12) (T := TX12) (N := 48) hx hb hts k2 hown hK.1 hP 0 rfl rfl 7 (by decide) k1 (fun _ h9 => h9) rfl dX12_isWord_1 ?_
  refine lv_iconst (v := 2) hx hb dX12_isWord_4 (by decide) ?_
  refine lv_icmp_ne (tgt := 24) hx hb dX12_isWord_5 (by decide) (fun c_18 => ?_) (fun c_18 => ?_)
  · skip
    have hY := hY.trans (if_neg c_18)
    refine lv_iconst (v := 0) hx hb dX12_isWord_24 (by decide) ?_
    exact oE_i hx hb hr (by decide) hlocks hP hD hS () [0] rfl (by decide) (Or.inl ⟨rfl, hY.symm⟩) (Nat.le_of_ble_eq_true rfl) (Nat.le_of_ble_eq_true rfl) dX12_isWord_25
  · skip
    have hY := hY.trans (if_pos c_18)
    have o_19 : rl 0 h0_kind 2 := rl_eq c_18
    have h_20 : rg 0 2 h0_kind := rl_x o_19 i_h0_kind (⟨by decide, by decide⟩ : rg 2 2 (2 : Int32)) (by decide) (by decide)
    have o_21 : rl 0 2 h0_kind := rl_eq c_18.symm
    have h_22 : rg 2 2 h0_kind := rl_y o_21 (⟨by decide, by decide⟩ : rg 2 2 (2 : Int32)) h_20 (by decide) (by decide)
    refine lv_aload_n hx hb dX12_isWord_8 rfl (lv_at hl 0 rfl) ?_
    refine va_get (D := D) (ci := 11) (v := .long h0_word) (C := RX12) (T := TX12) (N := 48) hx hb hts k2 hown hK.1 hP 0 rfl rfl 12 (by decide) k3 (fun _ h9 => h9) rfl dX12_isWord_9 ?_
    refine lv_iload_n hx hb dX12_isWord_12 rfl (lv_at hl 1 rfl) ?_
    refine oC_l (Wc := []) (Wr := [(h0, .inr (11, [.int h0_thrown, .ref h0_tape, .int h0_taped, .int h0_size, .int h0_limit, .int h0_to, .int h0_from, .int h0_kind, .int h0_number, .int h0_sign, .int h0_fault, .int h0_place, .long h0_word, .int h0_told, .ref h0_now, .ref h0_read, .ref h0_kept, .ref h0_snaps, .ref h0_aside, .ref h0_name, .ref h0_readName, .ref h0_keptName, .ref h0_isKept, .ref h0_onces, .int h0_snapMany, .int h0_lowest, .int h0_highest, .int h0_agreed, .int h0_jurors, .int h0_panelled, .ref h0_inSets, .int h0_surely, .int h0_asked, .ref h0_frees, .int h0_struck, .int h0_beating, .ref h0_text, .int h0_texts, .int h0_seed, .ref h0_line, .ref h0_written, .int h0_lineMany, .int h0_hasWritten, .ref h0_node, .int h0_nodes, .int h0_onesMany, .int h0_within, .int h0_top]))]) (va_runS (As := [.int 13]) (rest := [.long h0_word]) ⟨hx, hb, hml, hown, hts⟩ (e_X12_wordOf_13 l D ca H.size ) (va_cwS 1 hts gX12_isWord_X12_wordOf rfl rfl rfl (by decide +kernel) ⟨Nat.le_of_ble_eq_true rfl, Nat.le_of_ble_eq_true rfl⟩) (oPS hK hP hD [] rfl (by decide)) rfl rfl hl.1 rfl (lv_room (Nat.le_of_ble_eq_true rfl)) dX12_isWord_13 ⟨Nat.le_of_ble_eq_true rfl, Nat.le_of_ble_eq_true rfl⟩) hP hD hS hA [] [0] rfl rfl (by decide) (by decide) (fun r_23 u H locs w_24 hP hD hS => ?_)
    obtain ⟨⟩ := u
    have hP : va_P D vwCl [(h0, .inr (11, [.int h0_thrown, .ref h0_tape, .int h0_taped, .int h0_size, .int h0_limit, .int h0_to, .int h0_from, .int h0_kind, .int h0_number, .int h0_sign, .int h0_fault, .int h0_place, .long h0_word, .int h0_told, .ref h0_now, .ref h0_read, .ref h0_kept, .ref h0_snaps, .ref h0_aside, .ref h0_name, .ref h0_readName, .ref h0_keptName, .ref h0_isKept, .ref h0_onces, .int h0_snapMany, .int h0_lowest, .int h0_highest, .int h0_agreed, .int h0_jurors, .int h0_panelled, .ref h0_inSets, .int h0_surely, .int h0_asked, .ref h0_frees, .int h0_struck, .int h0_beating, .ref h0_text, .int h0_texts, .int h0_seed, .ref h0_line, .ref h0_written, .int h0_lineMany, .int h0_hasWritten, .ref h0_node, .int h0_nodes, .int h0_onesMany, .int h0_within, .int h0_top]))] H := hP
    have hD : va_D A [(h0, .inr (11, [.int h0_thrown, .ref h0_tape, .int h0_taped, .int h0_size, .int h0_limit, .int h0_to, .int h0_from, .int h0_kind, .int h0_number, .int h0_sign, .int h0_fault, .int h0_place, .long h0_word, .int h0_told, .ref h0_now, .ref h0_read, .ref h0_kept, .ref h0_snaps, .ref h0_aside, .ref h0_name, .ref h0_readName, .ref h0_keptName, .ref h0_isKept, .ref h0_onces, .int h0_snapMany, .int h0_lowest, .int h0_highest, .int h0_agreed, .int h0_jurors, .int h0_panelled, .ref h0_inSets, .int h0_surely, .int h0_asked, .ref h0_frees, .int h0_struck, .int h0_beating, .ref h0_text, .int h0_texts, .int h0_seed, .ref h0_line, .ref h0_written, .int h0_lineMany, .int h0_hasWritten, .ref h0_node, .int h0_nodes, .int h0_onesMany, .int h0_within, .int h0_top]))] := hD
    try dsimp only at w_24
    obtain ⟨h_25, h_26⟩ := w_24
    subst h_25
    have hY := hY.trans (lt1_e h_26)
    refine W.lcmp hx hb dX12_isWord_16 ?_
    refine lv_topi (fun x_27 ex_27 => ?_)
    have hY := hY.trans (lt1_e ex_27)
    refine lv_if_ne (tgt := 24) hx hb dX12_isWord_17 (by decide) (fun c_28 => ?_) (fun c_28 => ?_)
    · skip
      have hY := hY.trans (if_neg c_28)
      have h_29 : ¬ (h0_word : Int64) = 23170575 := cmp_nn ex_27 c_28
      refine lv_iconst (v := 0) hx hb dX12_isWord_24 (by decide) ?_
      exact oE_i hx hb hr (by decide) hlocks hP hD hS () [0] rfl (by decide) (Or.inl ⟨rfl, hY.symm⟩) (Nat.le_of_ble_eq_true rfl) (Nat.le_of_ble_eq_true rfl) dX12_isWord_25
    · skip
      have hY := hY.trans (if_pos c_28)
      have o_30 : rl 0 x_27 0 := rl_eq c_28
      have h_31 : rg (-2147483648) 0 x_27 := rl_x o_30 (rga x_27) (⟨by decide, by decide⟩ : rg 0 0 (0 : Int32)) (by decide) (by decide)
      have o_32 : rl 0 0 x_27 := rl_eq c_28.symm
      have h_33 : rg 0 0 x_27 := rl_y o_32 (⟨by decide, by decide⟩ : rg 0 0 (0 : Int32)) h_31 (by decide) (by decide)
      have h_34 : (h0_word : Int64) = 23170575 := cmp_eq ex_27 c_28
      refine lv_iconst (v := 1) hx hb dX12_isWord_20 (by decide) ?_
      refine lv_goto (tgt := 25) hx hb dX12_isWord_21 (by decide) ?_
      exact oE_i hx hb hr (by decide) hlocks hP hD hS () [0] rfl (by decide) (Or.inr (⟨rfl, h_22, hY.symm⟩)) (Nat.le_of_ble_eq_true rfl) (Nat.le_of_ble_eq_true rfl) dX12_isWord_25
set_option maxHeartbeats 4000000 in
set_option maxRecDepth 100000 in
theorem e_X12_isWord_14 (l : Launch) (D : va_G) (ca : Nat → ClassId) (sz : Nat) (h0 : Nat) (h0_thrown : Int32) (h0_tape : Nat) (h0_taped : Int32) (h0_size : Int32) (h0_limit : Int32) (h0_to : Int32) (h0_from : Int32) (h0_kind : Int32) (h0_number : Int32) (h0_sign : Int32) (h0_fault : Int32) (h0_place : Int32) (h0_word : Int64) (h0_told : Int32) (h0_now : Nat) (h0_read : Nat) (h0_kept : Nat) (h0_snaps : Nat) (h0_aside : Nat) (h0_name : Nat) (h0_readName : Nat) (h0_keptName : Nat) (h0_isKept : Nat) (h0_onces : Nat) (h0_snapMany : Int32) (h0_lowest : Int32) (h0_highest : Int32) (h0_agreed : Int32) (h0_jurors : Int32) (h0_panelled : Int32) (h0_inSets : Nat) (h0_surely : Int32) (h0_asked : Int32) (h0_frees : Nat) (h0_struck : Int32) (h0_beating : Int32) (h0_text : Nat) (h0_texts : Int32) (h0_seed : Int32) (h0_line : Nat) (h0_written : Nat) (h0_lineMany : Int32) (h0_hasWritten : Int32) (h0_node : Nat) (h0_nodes : Int32) (h0_onesMany : Int32) (h0_within : Int32) (h0_top : Int32) (i_h0_taped : rg 0 940 h0_taped) (i_h0_size : rg 0 940 h0_size) (i_h0_to : rg 0 940 h0_to) (i_h0_kind : rg 0 4 h0_kind) (i_h0_snapMany : rg 0 8 h0_snapMany) (i_h0_texts : rg 0 64 h0_texts) (i_h0_lineMany : rg 0 40 h0_lineMany) (i_h0_hasWritten : rg 0 1 h0_hasWritten) (i_h0_nodes : rg 0 60 h0_nodes) (i_h0_onesMany : rg 0 20 h0_onesMany) : oMet l yX12_isWord wsX12_isWord ({ frames := 2, cells := 0, slots := 0, locals := 48 } : Room) [.ref h0, .int 14] D ca sz [(h0, .inr (11, [.int h0_thrown, .ref h0_tape, .int h0_taped, .int h0_size, .int h0_limit, .int h0_to, .int h0_from, .int h0_kind, .int h0_number, .int h0_sign, .int h0_fault, .int h0_place, .long h0_word, .int h0_told, .ref h0_now, .ref h0_read, .ref h0_kept, .ref h0_snaps, .ref h0_aside, .ref h0_name, .ref h0_readName, .ref h0_keptName, .ref h0_isKept, .ref h0_onces, .int h0_snapMany, .int h0_lowest, .int h0_highest, .int h0_agreed, .int h0_jurors, .int h0_panelled, .ref h0_inSets, .int h0_surely, .int h0_asked, .ref h0_frees, .int h0_struck, .int h0_beating, .ref h0_text, .int h0_texts, .int h0_seed, .ref h0_line, .ref h0_written, .int h0_lineMany, .int h0_hasWritten, .ref h0_node, .int h0_nodes, .int h0_onesMany, .int h0_within, .int h0_top]))] (oQi D (fun (r : Int32) (u : Unit) => ((r = 0) ∧ (r = y_X12_isWord_14 h0_kind h0_word)) ∨ ((r = 1) ∧ (rg 2 2 h0_kind) ∧ (r = y_X12_isWord_14 h0_kind h0_word))) (fun (u : Unit) => [(h0, .inr (11, [.int h0_thrown, .ref h0_tape, .int h0_taped, .int h0_size, .int h0_limit, .int h0_to, .int h0_from, .int h0_kind, .int h0_number, .int h0_sign, .int h0_fault, .int h0_place, .long h0_word, .int h0_told, .ref h0_now, .ref h0_read, .ref h0_kept, .ref h0_snaps, .ref h0_aside, .ref h0_name, .ref h0_readName, .ref h0_keptName, .ref h0_isKept, .ref h0_onces, .int h0_snapMany, .int h0_lowest, .int h0_highest, .int h0_agreed, .int h0_jurors, .int h0_panelled, .ref h0_inSets, .int h0_surely, .int h0_asked, .ref h0_frees, .int h0_struck, .int h0_beating, .ref h0_text, .int h0_texts, .int h0_seed, .ref h0_line, .ref h0_written, .int h0_lineMany, .int h0_hasWritten, .ref h0_node, .int h0_nodes, .int h0_onesMany, .int h0_within, .int h0_top]))])) 0 0 := by
  refine oM (cc := cX12_isWord) (maxL := 2) (ret := (some .boolean)) (by decide) rfl (Nat.le_of_ble_eq_true rfl) [(0, .ref h0), (1, .int 14)] rfl ?_
  intro p e s m below meth c A H locs ls hx hb hr hml hts hown hlocks hin hK hP hD hA hS hl
  have hown : s.vm.findClass RX12 = some m.cls := hown
  have hY := y_X12_isWord_14_s h0_kind h0_word
  have k1 := hts (.fieldLink RX12 30 "LidCourtModel" "kind" "I") (by decide +kernel)
  have k2 : ∀ w ∈ wsX120, w ∈ wsX12_isWord := fun _ h => List.mem_cons_of_mem _ (List.mem_append_right _ h)
  have k3 := hts (.fieldLink RX12 43 "LidCourtModel" "word" "J") (by decide +kernel)
  refine lv_aload_n hx hb dX12_isWord_0 rfl (lv_at hl 0 rfl) ?_
  refine va_get (D := D) (ci := 11) (v := .int h0_kind) (C := RX12) (T := TX12) (N := 48) hx hb hts k2 hown hK.1 hP 0 rfl rfl 7 (by decide) k1 (fun _ h9 => h9) rfl dX12_isWord_1 ?_
  refine lv_iconst (v := 2) hx hb dX12_isWord_4 (by decide) ?_
  refine lv_icmp_ne (tgt := 24) hx hb dX12_isWord_5 (by decide) (fun c_18 => ?_) (fun c_18 => ?_)
  · skip
    have hY := hY.trans (if_neg c_18)
    refine lv_iconst (v := 0) hx hb dX12_isWord_24 (by decide) ?_
    exact oE_i hx hb hr (by decide) hlocks hP hD hS () [0] rfl (by decide) (Or.inl ⟨rfl, hY.symm⟩) (Nat.le_of_ble_eq_true rfl) (Nat.le_of_ble_eq_true rfl) dX12_isWord_25
  · skip
    have hY := hY.trans (if_pos c_18)
    have o_19 : rl 0 h0_kind 2 := rl_eq c_18
    have h_20 : rg 0 2 h0_kind := rl_x o_19 i_h0_kind (⟨by decide, by decide⟩ : rg 2 2 (2 : Int32)) (by decide) (by decide)
    have o_21 : rl 0 2 h0_kind := rl_eq c_18.symm
    have h_22 : rg 2 2 h0_kind := rl_y o_21 (⟨by decide, by decide⟩ : rg 2 2 (2 : Int32)) h_20 (by decide) (by decide)
    refine lv_aload_n hx hb dX12_isWord_8 rfl (lv_at hl 0 rfl) ?_
    refine va_get (D := D) (ci := 11) (v := .long h0_word) (C := RX12) (T := TX12) (N := 48) hx hb hts k2 hown hK.1 hP 0 rfl rfl 12 (by decide) k3 (fun _ h9 => h9) rfl dX12_isWord_9 ?_
    refine lv_iload_n hx hb dX12_isWord_12 rfl (lv_at hl 1 rfl) ?_
    refine oC_l (Wc := []) (Wr := [(h0, .inr (11, [.int h0_thrown, .ref h0_tape, .int h0_taped, .int h0_size, .int h0_limit, .int h0_to, .int h0_from, .int h0_kind, .int h0_number, .int h0_sign, .int h0_fault, .int h0_place, .long h0_word, .int h0_told, .ref h0_now, .ref h0_read, .ref h0_kept, .ref h0_snaps, .ref h0_aside, .ref h0_name, .ref h0_readName, .ref h0_keptName, .ref h0_isKept, .ref h0_onces, .int h0_snapMany, .int h0_lowest, .int h0_highest, .int h0_agreed, .int h0_jurors, .int h0_panelled, .ref h0_inSets, .int h0_surely, .int h0_asked, .ref h0_frees, .int h0_struck, .int h0_beating, .ref h0_text, .int h0_texts, .int h0_seed, .ref h0_line, .ref h0_written, .int h0_lineMany, .int h0_hasWritten, .ref h0_node, .int h0_nodes, .int h0_onesMany, .int h0_within, .int h0_top]))]) (va_runS (As := [.int 14]) (rest := [.long h0_word]) ⟨hx, hb, hml, hown, hts⟩ (e_X12_wordOf_14 l D ca H.size ) (va_cwS 1 hts gX12_isWord_X12_wordOf rfl rfl rfl (by decide +kernel) ⟨Nat.le_of_ble_eq_true rfl, Nat.le_of_ble_eq_true rfl⟩) (oPS hK hP hD [] rfl (by decide)) rfl rfl hl.1 rfl (lv_room (Nat.le_of_ble_eq_true rfl)) dX12_isWord_13 ⟨Nat.le_of_ble_eq_true rfl, Nat.le_of_ble_eq_true rfl⟩) hP hD hS hA [] [0] rfl rfl (by decide) (by decide) (fun r_23 u H locs w_24 hP hD hS => ?_)
    obtain ⟨⟩ := u
    have hP : va_P D vwCl [(h0, .inr (11, [.int h0_thrown, .ref h0_tape, .int h0_taped, .int h0_size, .int h0_limit, .int h0_to, .int h0_from, .int h0_kind, .int h0_number, .int h0_sign, .int h0_fault, .int h0_place, .long h0_word, .int h0_told, .ref h0_now, .ref h0_read, .ref h0_kept, .ref h0_snaps, .ref h0_aside, .ref h0_name, .ref h0_readName, .ref h0_keptName, .ref h0_isKept, .ref h0_onces, .int h0_snapMany, .int h0_lowest, .int h0_highest, .int h0_agreed, .int h0_jurors, .int h0_panelled, .ref h0_inSets, .int h0_surely, .int h0_asked, .ref h0_frees, .int h0_struck, .int h0_beating, .ref h0_text, .int h0_texts, .int h0_seed, .ref h0_line, .ref h0_written, .int h0_lineMany, .int h0_hasWritten, .ref h0_node, .int h0_nodes, .int h0_onesMany, .int h0_within, .int h0_top]))] H := hP
    have hD : va_D A [(h0, .inr (11, [.int h0_thrown, .ref h0_tape, .int h0_taped, .int h0_size, .int h0_limit, .int h0_to, .int h0_from, .int h0_kind, .int h0_number, .int h0_sign, .int h0_fault, .int h0_place, .long h0_word, .int h0_told, .ref h0_now, .ref h0_read, .ref h0_kept, .ref h0_snaps, .ref h0_aside, .ref h0_name, .ref h0_readName, .ref h0_keptName, .ref h0_isKept, .ref h0_onces, .int h0_snapMany, .int h0_lowest, .int h0_highest, .int h0_agreed, .int h0_jurors, .int h0_panelled, .ref h0_inSets, .int h0_surely, .int h0_asked, .ref h0_frees, .int h0_struck, .int h0_beating, .ref h0_text, .int h0_texts, .int h0_seed, .ref h0_line, .ref h0_written, .int h0_lineMany, .int h0_hasWritten, .ref h0_node, .int h0_nodes, .int h0_onesMany, .int h0_within, .int h0_top]))] := hD
    try dsimp only at w_24
    obtain ⟨h_25, h_26⟩ := w_24
    subst h_25
    have hY := hY.trans (lt1_e h_26)
    refine W.lcmp hx hb dX12_isWord_16 ?_
    refine lv_topi (fun x_27 ex_27 => ?_)
    have hY := hY.trans (lt1_e ex_27)
    refine lv_if_ne (tgt := 24) hx hb dX12_isWord_17 (by decide) (fun c_28 => ?_) (fun c_28 => ?_)
    · skip
      have hY := hY.trans (if_neg c_28)
      have h_29 : ¬ (h0_word : Int64) = 2968 := cmp_nn ex_27 c_28
      refine lv_iconst (v := 0) hx hb dX12_isWord_24 (by decide) ?_
      exact oE_i hx hb hr (by decide) hlocks hP hD hS () [0] rfl (by decide) (Or.inl ⟨rfl, hY.symm⟩) (Nat.le_of_ble_eq_true rfl) (Nat.le_of_ble_eq_true rfl) dX12_isWord_25
    · skip
      have hY := hY.trans (if_pos c_28)
      have o_30 : rl 0 x_27 0 := rl_eq c_28
      have h_31 : rg (-2147483648) 0 x_27 := rl_x o_30 (rga x_27) (⟨by decide, by decide⟩ : rg 0 0 (0 : Int32)) (by decide) (by decide)
      have o_32 : rl 0 0 x_27 := rl_eq c_28.symm
      have h_33 : rg 0 0 x_27 := rl_y o_32 (⟨by decide, by decide⟩ : rg 0 0 (0 : Int32)) h_31 (by decide) (by decide)
      have h_34 : (h0_word : Int64) = 2968 := cmp_eq ex_27 c_28
      refine lv_iconst (v := 1) hx hb dX12_isWord_20 (by decide) ?_
      refine lv_goto (tgt := 25) hx hb dX12_isWord_21 (by decide) ?_
      exact oE_i hx hb hr (by decide) hlocks hP hD hS () [0] rfl (by decide) (Or.inr (⟨rfl, h_22, hY.symm⟩)) (Nat.le_of_ble_eq_true rfl) (Nat.le_of_ble_eq_true rfl) dX12_isWord_25
set_option maxHeartbeats 4000000 in
set_option maxRecDepth 100000 in
theorem e_X12_isWord_15 (l : Launch) (D : va_G) (ca : Nat → ClassId) (sz : Nat) (h0 : Nat) (h0_thrown : Int32) (h0_tape : Nat) (h0_taped : Int32) (h0_size : Int32) (h0_limit : Int32) (h0_to : Int32) (h0_from : Int32) (h0_kind : Int32) (h0_number : Int32) (h0_sign : Int32) (h0_fault : Int32) (h0_place : Int32) (h0_word : Int64) (h0_told : Int32) (h0_now : Nat) (h0_read : Nat) (h0_kept : Nat) (h0_snaps : Nat) (h0_aside : Nat) (h0_name : Nat) (h0_readName : Nat) (h0_keptName : Nat) (h0_isKept : Nat) (h0_onces : Nat) (h0_snapMany : Int32) (h0_lowest : Int32) (h0_highest : Int32) (h0_agreed : Int32) (h0_jurors : Int32) (h0_panelled : Int32) (h0_inSets : Nat) (h0_surely : Int32) (h0_asked : Int32) (h0_frees : Nat) (h0_struck : Int32) (h0_beating : Int32) (h0_text : Nat) (h0_texts : Int32) (h0_seed : Int32) (h0_line : Nat) (h0_written : Nat) (h0_lineMany : Int32) (h0_hasWritten : Int32) (h0_node : Nat) (h0_nodes : Int32) (h0_onesMany : Int32) (h0_within : Int32) (h0_top : Int32) (i_h0_taped : rg 0 940 h0_taped) (i_h0_size : rg 0 940 h0_size) (i_h0_to : rg 0 940 h0_to) (i_h0_kind : rg 0 4 h0_kind) (i_h0_snapMany : rg 0 8 h0_snapMany) (i_h0_texts : rg 0 64 h0_texts) (i_h0_lineMany : rg 0 40 h0_lineMany) (i_h0_hasWritten : rg 0 1 h0_hasWritten) (i_h0_nodes : rg 0 60 h0_nodes) (i_h0_onesMany : rg 0 20 h0_onesMany) : oMet l yX12_isWord wsX12_isWord ({ frames := 2, cells := 0, slots := 0, locals := 48 } : Room) [.ref h0, .int 15] D ca sz [(h0, .inr (11, [.int h0_thrown, .ref h0_tape, .int h0_taped, .int h0_size, .int h0_limit, .int h0_to, .int h0_from, .int h0_kind, .int h0_number, .int h0_sign, .int h0_fault, .int h0_place, .long h0_word, .int h0_told, .ref h0_now, .ref h0_read, .ref h0_kept, .ref h0_snaps, .ref h0_aside, .ref h0_name, .ref h0_readName, .ref h0_keptName, .ref h0_isKept, .ref h0_onces, .int h0_snapMany, .int h0_lowest, .int h0_highest, .int h0_agreed, .int h0_jurors, .int h0_panelled, .ref h0_inSets, .int h0_surely, .int h0_asked, .ref h0_frees, .int h0_struck, .int h0_beating, .ref h0_text, .int h0_texts, .int h0_seed, .ref h0_line, .ref h0_written, .int h0_lineMany, .int h0_hasWritten, .ref h0_node, .int h0_nodes, .int h0_onesMany, .int h0_within, .int h0_top]))] (oQi D (fun (r : Int32) (u : Unit) => ((r = 0) ∧ (r = y_X12_isWord_15 h0_kind h0_word)) ∨ ((r = 1) ∧ (rg 2 2 h0_kind) ∧ (r = y_X12_isWord_15 h0_kind h0_word))) (fun (u : Unit) => [(h0, .inr (11, [.int h0_thrown, .ref h0_tape, .int h0_taped, .int h0_size, .int h0_limit, .int h0_to, .int h0_from, .int h0_kind, .int h0_number, .int h0_sign, .int h0_fault, .int h0_place, .long h0_word, .int h0_told, .ref h0_now, .ref h0_read, .ref h0_kept, .ref h0_snaps, .ref h0_aside, .ref h0_name, .ref h0_readName, .ref h0_keptName, .ref h0_isKept, .ref h0_onces, .int h0_snapMany, .int h0_lowest, .int h0_highest, .int h0_agreed, .int h0_jurors, .int h0_panelled, .ref h0_inSets, .int h0_surely, .int h0_asked, .ref h0_frees, .int h0_struck, .int h0_beating, .ref h0_text, .int h0_texts, .int h0_seed, .ref h0_line, .ref h0_written, .int h0_lineMany, .int h0_hasWritten, .ref h0_node, .int h0_nodes, .int h0_onesMany, .int h0_within, .int h0_top]))])) 0 0 := by
  refine oM (cc := cX12_isWord) (maxL := 2) (ret := (some .boolean)) (by decide) rfl (Nat.le_of_ble_eq_true rfl) [(0, .ref h0), (1, .int 15)] rfl ?_
  intro p e s m below meth c A H locs ls hx hb hr hml hts hown hlocks hin hK hP hD hA hS hl
  have hown : s.vm.findClass RX12 = some m.cls := hown
  have hY := y_X12_isWord_15_s h0_kind h0_word
  have k1 := hts (.fieldLink RX12 30 "LidCourtModel" "kind" "I") (by decide +kernel)
  have k2 : ∀ w ∈ wsX120, w ∈ wsX12_isWord := fun _ h => List.mem_cons_of_mem _ (List.mem_append_right _ h)
  have k3 := hts (.fieldLink RX12 43 "LidCourtModel" "word" "J") (by decide +kernel)
  refine lv_aload_n hx hb dX12_isWord_0 rfl (lv_at hl 0 rfl) ?_
  refine va_get (D := D) (ci := 11) (v := .int h0_kind) (C := RX12) (T := TX12) (N := 48) hx hb hts k2 hown hK.1 hP 0 rfl rfl 7 (by decide) k1 (fun _ h9 => h9) rfl dX12_isWord_1 ?_
  refine lv_iconst (v := 2) hx hb dX12_isWord_4 (by decide) ?_
  refine lv_icmp_ne (tgt := 24) hx hb dX12_isWord_5 (by decide) (fun c_18 => ?_) (fun c_18 => ?_)
  · skip
    have hY := hY.trans (if_neg c_18)
    refine lv_iconst (v := 0) hx hb dX12_isWord_24 (by decide) ?_
    exact oE_i hx hb hr (by decide) hlocks hP hD hS () [0] rfl (by decide) (Or.inl ⟨rfl, hY.symm⟩) (Nat.le_of_ble_eq_true rfl) (Nat.le_of_ble_eq_true rfl) dX12_isWord_25
  · skip
    have hY := hY.trans (if_pos c_18)
    have o_19 : rl 0 h0_kind 2 := rl_eq c_18
    have h_20 : rg 0 2 h0_kind := rl_x o_19 i_h0_kind (⟨by decide, by decide⟩ : rg 2 2 (2 : Int32)) (by decide) (by decide)
    have o_21 : rl 0 2 h0_kind := rl_eq c_18.symm
    have h_22 : rg 2 2 h0_kind := rl_y o_21 (⟨by decide, by decide⟩ : rg 2 2 (2 : Int32)) h_20 (by decide) (by decide)
    refine lv_aload_n hx hb dX12_isWord_8 rfl (lv_at hl 0 rfl) ?_
    refine va_get (D := D) (ci := 11) (v := .long h0_word) (C := RX12) (T := TX12) (N := 48) hx hb hts k2 hown hK.1 hP 0 rfl rfl 12 (by decide) k3 (fun _ h9 => h9) rfl dX12_isWord_9 ?_
    refine lv_iload_n hx hb dX12_isWord_12 rfl (lv_at hl 1 rfl) ?_
    refine oC_l (Wc := []) (Wr := [(h0, .inr (11, [.int h0_thrown, .ref h0_tape, .int h0_taped, .int h0_size, .int h0_limit, .int h0_to, .int h0_from, .int h0_kind, .int h0_number, .int h0_sign, .int h0_fault, .int h0_place, .long h0_word, .int h0_told, .ref h0_now, .ref h0_read, .ref h0_kept, .ref h0_snaps, .ref h0_aside, .ref h0_name, .ref h0_readName, .ref h0_keptName, .ref h0_isKept, .ref h0_onces, .int h0_snapMany, .int h0_lowest, .int h0_highest, .int h0_agreed, .int h0_jurors, .int h0_panelled, .ref h0_inSets, .int h0_surely, .int h0_asked, .ref h0_frees, .int h0_struck, .int h0_beating, .ref h0_text, .int h0_texts, .int h0_seed, .ref h0_line, .ref h0_written, .int h0_lineMany, .int h0_hasWritten, .ref h0_node, .int h0_nodes, .int h0_onesMany, .int h0_within, .int h0_top]))]) (va_runS (As := [.int 15]) (rest := [.long h0_word]) ⟨hx, hb, hml, hown, hts⟩ (e_X12_wordOf_15 l D ca H.size ) (va_cwS 1 hts gX12_isWord_X12_wordOf rfl rfl rfl (by decide +kernel) ⟨Nat.le_of_ble_eq_true rfl, Nat.le_of_ble_eq_true rfl⟩) (oPS hK hP hD [] rfl (by decide)) rfl rfl hl.1 rfl (lv_room (Nat.le_of_ble_eq_true rfl)) dX12_isWord_13 ⟨Nat.le_of_ble_eq_true rfl, Nat.le_of_ble_eq_true rfl⟩) hP hD hS hA [] [0] rfl rfl (by decide) (by decide) (fun r_23 u H locs w_24 hP hD hS => ?_)
    obtain ⟨⟩ := u
    have hP : va_P D vwCl [(h0, .inr (11, [.int h0_thrown, .ref h0_tape, .int h0_taped, .int h0_size, .int h0_limit, .int h0_to, .int h0_from, .int h0_kind, .int h0_number, .int h0_sign, .int h0_fault, .int h0_place, .long h0_word, .int h0_told, .ref h0_now, .ref h0_read, .ref h0_kept, .ref h0_snaps, .ref h0_aside, .ref h0_name, .ref h0_readName, .ref h0_keptName, .ref h0_isKept, .ref h0_onces, .int h0_snapMany, .int h0_lowest, .int h0_highest, .int h0_agreed, .int h0_jurors, .int h0_panelled, .ref h0_inSets, .int h0_surely, .int h0_asked, .ref h0_frees, .int h0_struck, .int h0_beating, .ref h0_text, .int h0_texts, .int h0_seed, .ref h0_line, .ref h0_written, .int h0_lineMany, .int h0_hasWritten, .ref h0_node, .int h0_nodes, .int h0_onesMany, .int h0_within, .int h0_top]))] H := hP
    have hD : va_D A [(h0, .inr (11, [.int h0_thrown, .ref h0_tape, .int h0_taped, .int h0_size, .int h0_limit, .int h0_to, .int h0_from, .int h0_kind, .int h0_number, .int h0_sign, .int h0_fault, .int h0_place, .long h0_word, .int h0_told, .ref h0_now, .ref h0_read, .ref h0_kept, .ref h0_snaps, .ref h0_aside, .ref h0_name, .ref h0_readName, .ref h0_keptName, .ref h0_isKept, .ref h0_onces, .int h0_snapMany, .int h0_lowest, .int h0_highest, .int h0_agreed, .int h0_jurors, .int h0_panelled, .ref h0_inSets, .int h0_surely, .int h0_asked, .ref h0_frees, .int h0_struck, .int h0_beating, .ref h0_text, .int h0_texts, .int h0_seed, .ref h0_line, .ref h0_written, .int h0_lineMany, .int h0_hasWritten, .ref h0_node, .int h0_nodes, .int h0_onesMany, .int h0_within, .int h0_top]))] := hD
    try dsimp only at w_24
    obtain ⟨h_25, h_26⟩ := w_24
    subst h_25
    have hY := hY.trans (lt1_e h_26)
    refine W.lcmp hx hb dX12_isWord_16 ?_
    refine lv_topi (fun x_27 ex_27 => ?_)
    have hY := hY.trans (lt1_e ex_27)
    refine lv_if_ne (tgt := 24) hx hb dX12_isWord_17 (by decide) (fun c_28 => ?_) (fun c_28 => ?_)
    · skip
      have hY := hY.trans (if_neg c_28)
      have h_29 : ¬ (h0_word : Int64) = 423 := cmp_nn ex_27 c_28
      refine lv_iconst (v := 0) hx hb dX12_isWord_24 (by decide) ?_
      exact oE_i hx hb hr (by decide) hlocks hP hD hS () [0] rfl (by decide) (Or.inl ⟨rfl, hY.symm⟩) (Nat.le_of_ble_eq_true rfl) (Nat.le_of_ble_eq_true rfl) dX12_isWord_25
    · skip
      have hY := hY.trans (if_pos c_28)
      have o_30 : rl 0 x_27 0 := rl_eq c_28
      have h_31 : rg (-2147483648) 0 x_27 := rl_x o_30 (rga x_27) (⟨by decide, by decide⟩ : rg 0 0 (0 : Int32)) (by decide) (by decide)
      have o_32 : rl 0 0 x_27 := rl_eq c_28.symm
      have h_33 : rg 0 0 x_27 := rl_y o_32 (⟨by decide, by decide⟩ : rg 0 0 (0 : Int32)) h_31 (by decide) (by decide)
      have h_34 : (h0_word : Int64) = 423 := cmp_eq ex_27 c_28
      refine lv_iconst (v := 1) hx hb dX12_isWord_20 (by decide) ?_
      refine lv_goto (tgt := 25) hx hb dX12_isWord_21 (by decide) ?_
      exact oE_i hx hb hr (by decide) hlocks hP hD hS () [0] rfl (by decide) (Or.inr (⟨rfl, h_22, hY.symm⟩)) (Nat.le_of_ble_eq_true rfl) (Nat.le_of_ble_eq_true rfl) dX12_isWord_25
set_option maxHeartbeats 4000000 in
set_option maxRecDepth 100000 in
theorem e_X12_isWord_16 (l : Launch) (D : va_G) (ca : Nat → ClassId) (sz : Nat) (h0 : Nat) (h0_thrown : Int32) (h0_tape : Nat) (h0_taped : Int32) (h0_size : Int32) (h0_limit : Int32) (h0_to : Int32) (h0_from : Int32) (h0_kind : Int32) (h0_number : Int32) (h0_sign : Int32) (h0_fault : Int32) (h0_place : Int32) (h0_word : Int64) (h0_told : Int32) (h0_now : Nat) (h0_read : Nat) (h0_kept : Nat) (h0_snaps : Nat) (h0_aside : Nat) (h0_name : Nat) (h0_readName : Nat) (h0_keptName : Nat) (h0_isKept : Nat) (h0_onces : Nat) (h0_snapMany : Int32) (h0_lowest : Int32) (h0_highest : Int32) (h0_agreed : Int32) (h0_jurors : Int32) (h0_panelled : Int32) (h0_inSets : Nat) (h0_surely : Int32) (h0_asked : Int32) (h0_frees : Nat) (h0_struck : Int32) (h0_beating : Int32) (h0_text : Nat) (h0_texts : Int32) (h0_seed : Int32) (h0_line : Nat) (h0_written : Nat) (h0_lineMany : Int32) (h0_hasWritten : Int32) (h0_node : Nat) (h0_nodes : Int32) (h0_onesMany : Int32) (h0_within : Int32) (h0_top : Int32) (i_h0_taped : rg 0 940 h0_taped) (i_h0_size : rg 0 940 h0_size) (i_h0_to : rg 0 940 h0_to) (i_h0_kind : rg 0 4 h0_kind) (i_h0_snapMany : rg 0 8 h0_snapMany) (i_h0_texts : rg 0 64 h0_texts) (i_h0_lineMany : rg 0 40 h0_lineMany) (i_h0_hasWritten : rg 0 1 h0_hasWritten) (i_h0_nodes : rg 0 60 h0_nodes) (i_h0_onesMany : rg 0 20 h0_onesMany) : oMet l yX12_isWord wsX12_isWord ({ frames := 2, cells := 0, slots := 0, locals := 48 } : Room) [.ref h0, .int 16] D ca sz [(h0, .inr (11, [.int h0_thrown, .ref h0_tape, .int h0_taped, .int h0_size, .int h0_limit, .int h0_to, .int h0_from, .int h0_kind, .int h0_number, .int h0_sign, .int h0_fault, .int h0_place, .long h0_word, .int h0_told, .ref h0_now, .ref h0_read, .ref h0_kept, .ref h0_snaps, .ref h0_aside, .ref h0_name, .ref h0_readName, .ref h0_keptName, .ref h0_isKept, .ref h0_onces, .int h0_snapMany, .int h0_lowest, .int h0_highest, .int h0_agreed, .int h0_jurors, .int h0_panelled, .ref h0_inSets, .int h0_surely, .int h0_asked, .ref h0_frees, .int h0_struck, .int h0_beating, .ref h0_text, .int h0_texts, .int h0_seed, .ref h0_line, .ref h0_written, .int h0_lineMany, .int h0_hasWritten, .ref h0_node, .int h0_nodes, .int h0_onesMany, .int h0_within, .int h0_top]))] (oQi D (fun (r : Int32) (u : Unit) => ((r = 0) ∧ (r = y_X12_isWord_16 h0_kind h0_word)) ∨ ((r = 1) ∧ (rg 2 2 h0_kind) ∧ (r = y_X12_isWord_16 h0_kind h0_word))) (fun (u : Unit) => [(h0, .inr (11, [.int h0_thrown, .ref h0_tape, .int h0_taped, .int h0_size, .int h0_limit, .int h0_to, .int h0_from, .int h0_kind, .int h0_number, .int h0_sign, .int h0_fault, .int h0_place, .long h0_word, .int h0_told, .ref h0_now, .ref h0_read, .ref h0_kept, .ref h0_snaps, .ref h0_aside, .ref h0_name, .ref h0_readName, .ref h0_keptName, .ref h0_isKept, .ref h0_onces, .int h0_snapMany, .int h0_lowest, .int h0_highest, .int h0_agreed, .int h0_jurors, .int h0_panelled, .ref h0_inSets, .int h0_surely, .int h0_asked, .ref h0_frees, .int h0_struck, .int h0_beating, .ref h0_text, .int h0_texts, .int h0_seed, .ref h0_line, .ref h0_written, .int h0_lineMany, .int h0_hasWritten, .ref h0_node, .int h0_nodes, .int h0_onesMany, .int h0_within, .int h0_top]))])) 0 0 := by
  refine oM (cc := cX12_isWord) (maxL := 2) (ret := (some .boolean)) (by decide) rfl (Nat.le_of_ble_eq_true rfl) [(0, .ref h0), (1, .int 16)] rfl ?_
  intro p e s m below meth c A H locs ls hx hb hr hml hts hown hlocks hin hK hP hD hA hS hl
  have hown : s.vm.findClass RX12 = some m.cls := hown
  have hY := y_X12_isWord_16_s h0_kind h0_word
  have k1 := hts (.fieldLink RX12 30 "LidCourtModel" "kind" "I") (by decide +kernel)
  have k2 : ∀ w ∈ wsX120, w ∈ wsX12_isWord := fun _ h => List.mem_cons_of_mem _ (List.mem_append_right _ h)
  have k3 := hts (.fieldLink RX12 43 "LidCourtModel" "word" "J") (by decide +kernel)
  refine lv_aload_n hx hb dX12_isWord_0 rfl (lv_at hl 0 rfl) ?_
  refine va_get (D := D) (ci := 11) (v := .int h0_kind) (C := RX12) (T := TX12) (N := 48) hx hb hts k2 hown hK.1 hP 0 rfl rfl 7 (by decide) k1 (fun _ h9 => h9) rfl dX12_isWord_1 ?_
  refine lv_iconst (v := 2) hx hb dX12_isWord_4 (by decide) ?_
  refine lv_icmp_ne (tgt := 24) hx hb dX12_isWord_5 (by decide) (fun c_18 => ?_) (fun c_18 => ?_)
  · skip
    have hY := hY.trans (if_neg c_18)
    refine lv_iconst (v := 0) hx hb dX12_isWord_24 (by decide) ?_
    exact oE_i hx hb hr (by decide) hlocks hP hD hS () [0] rfl (by decide) (Or.inl ⟨rfl, hY.symm⟩) (Nat.le_of_ble_eq_true rfl) (Nat.le_of_ble_eq_true rfl) dX12_isWord_25
  · skip
    have hY := hY.trans (if_pos c_18)
    have o_19 : rl 0 h0_kind 2 := rl_eq c_18
    have h_20 : rg 0 2 h0_kind := rl_x o_19 i_h0_kind (⟨by decide, by decide⟩ : rg 2 2 (2 : Int32)) (by decide) (by decide)
    have o_21 : rl 0 2 h0_kind := rl_eq c_18.symm
    have h_22 : rg 2 2 h0_kind := rl_y o_21 (⟨by decide, by decide⟩ : rg 2 2 (2 : Int32)) h_20 (by decide) (by decide)
    refine lv_aload_n hx hb dX12_isWord_8 rfl (lv_at hl 0 rfl) ?_
    refine va_get (D := D) (ci := 11) (v := .long h0_word) (C := RX12) (T := TX12) (N := 48) hx hb hts k2 hown hK.1 hP 0 rfl rfl 12 (by decide) k3 (fun _ h9 => h9) rfl dX12_isWord_9 ?_
    refine lv_iload_n hx hb dX12_isWord_12 rfl (lv_at hl 1 rfl) ?_
    refine oC_l (Wc := []) (Wr := [(h0, .inr (11, [.int h0_thrown, .ref h0_tape, .int h0_taped, .int h0_size, .int h0_limit, .int h0_to, .int h0_from, .int h0_kind, .int h0_number, .int h0_sign, .int h0_fault, .int h0_place, .long h0_word, .int h0_told, .ref h0_now, .ref h0_read, .ref h0_kept, .ref h0_snaps, .ref h0_aside, .ref h0_name, .ref h0_readName, .ref h0_keptName, .ref h0_isKept, .ref h0_onces, .int h0_snapMany, .int h0_lowest, .int h0_highest, .int h0_agreed, .int h0_jurors, .int h0_panelled, .ref h0_inSets, .int h0_surely, .int h0_asked, .ref h0_frees, .int h0_struck, .int h0_beating, .ref h0_text, .int h0_texts, .int h0_seed, .ref h0_line, .ref h0_written, .int h0_lineMany, .int h0_hasWritten, .ref h0_node, .int h0_nodes, .int h0_onesMany, .int h0_within, .int h0_top]))]) (va_runS (As := [.int 16]) (rest := [.long h0_word]) ⟨hx, hb, hml, hown, hts⟩ (e_X12_wordOf_16 l D ca H.size ) (va_cwS 1 hts gX12_isWord_X12_wordOf rfl rfl rfl (by decide +kernel) ⟨Nat.le_of_ble_eq_true rfl, Nat.le_of_ble_eq_true rfl⟩) (oPS hK hP hD [] rfl (by decide)) rfl rfl hl.1 rfl (lv_room (Nat.le_of_ble_eq_true rfl)) dX12_isWord_13 ⟨Nat.le_of_ble_eq_true rfl, Nat.le_of_ble_eq_true rfl⟩) hP hD hS hA [] [0] rfl rfl (by decide) (by decide) (fun r_23 u H locs w_24 hP hD hS => ?_)
    obtain ⟨⟩ := u
    have hP : va_P D vwCl [(h0, .inr (11, [.int h0_thrown, .ref h0_tape, .int h0_taped, .int h0_size, .int h0_limit, .int h0_to, .int h0_from, .int h0_kind, .int h0_number, .int h0_sign, .int h0_fault, .int h0_place, .long h0_word, .int h0_told, .ref h0_now, .ref h0_read, .ref h0_kept, .ref h0_snaps, .ref h0_aside, .ref h0_name, .ref h0_readName, .ref h0_keptName, .ref h0_isKept, .ref h0_onces, .int h0_snapMany, .int h0_lowest, .int h0_highest, .int h0_agreed, .int h0_jurors, .int h0_panelled, .ref h0_inSets, .int h0_surely, .int h0_asked, .ref h0_frees, .int h0_struck, .int h0_beating, .ref h0_text, .int h0_texts, .int h0_seed, .ref h0_line, .ref h0_written, .int h0_lineMany, .int h0_hasWritten, .ref h0_node, .int h0_nodes, .int h0_onesMany, .int h0_within, .int h0_top]))] H := hP
    have hD : va_D A [(h0, .inr (11, [.int h0_thrown, .ref h0_tape, .int h0_taped, .int h0_size, .int h0_limit, .int h0_to, .int h0_from, .int h0_kind, .int h0_number, .int h0_sign, .int h0_fault, .int h0_place, .long h0_word, .int h0_told, .ref h0_now, .ref h0_read, .ref h0_kept, .ref h0_snaps, .ref h0_aside, .ref h0_name, .ref h0_readName, .ref h0_keptName, .ref h0_isKept, .ref h0_onces, .int h0_snapMany, .int h0_lowest, .int h0_highest, .int h0_agreed, .int h0_jurors, .int h0_panelled, .ref h0_inSets, .int h0_surely, .int h0_asked, .ref h0_frees, .int h0_struck, .int h0_beating, .ref h0_text, .int h0_texts, .int h0_seed, .ref h0_line, .ref h0_written, .int h0_lineMany, .int h0_hasWritten, .ref h0_node, .int h0_nodes, .int h0_onesMany, .int h0_within, .int h0_top]))] := hD
    try dsimp only at w_24
    obtain ⟨h_25, h_26⟩ := w_24
    subst h_25
    have hY := hY.trans (lt1_e h_26)
    refine W.lcmp hx hb dX12_isWord_16 ?_
    refine lv_topi (fun x_27 ex_27 => ?_)
    have hY := hY.trans (lt1_e ex_27)
    refine lv_if_ne (tgt := 24) hx hb dX12_isWord_17 (by decide) (fun c_28 => ?_) (fun c_28 => ?_)
    · skip
      have hY := hY.trans (if_neg c_28)
      have h_29 : ¬ (h0_word : Int64) = 1111 := cmp_nn ex_27 c_28
      refine lv_iconst (v := 0) hx hb dX12_isWord_24 (by decide) ?_
      exact oE_i hx hb hr (by decide) hlocks hP hD hS () [0] rfl (by decide) (Or.inl ⟨rfl, hY.symm⟩) (Nat.le_of_ble_eq_true rfl) (Nat.le_of_ble_eq_true rfl) dX12_isWord_25
    · skip
      have hY := hY.trans (if_pos c_28)
      have o_30 : rl 0 x_27 0 := rl_eq c_28
      have h_31 : rg (-2147483648) 0 x_27 := rl_x o_30 (rga x_27) (⟨by decide, by decide⟩ : rg 0 0 (0 : Int32)) (by decide) (by decide)
      have o_32 : rl 0 0 x_27 := rl_eq c_28.symm
      have h_33 : rg 0 0 x_27 := rl_y o_32 (⟨by decide, by decide⟩ : rg 0 0 (0 : Int32)) h_31 (by decide) (by decide)
      have h_34 : (h0_word : Int64) = 1111 := cmp_eq ex_27 c_28
      refine lv_iconst (v := 1) hx hb dX12_isWord_20 (by decide) ?_
      refine lv_goto (tgt := 25) hx hb dX12_isWord_21 (by decide) ?_
      exact oE_i hx hb hr (by decide) hlocks hP hD hS () [0] rfl (by decide) (Or.inr (⟨rfl, h_22, hY.symm⟩)) (Nat.le_of_ble_eq_true rfl) (Nat.le_of_ble_eq_true rfl) dX12_isWord_25
set_option maxHeartbeats 4000000 in
set_option maxRecDepth 100000 in
theorem e_X12_isWord_17 (l : Launch) (D : va_G) (ca : Nat → ClassId) (sz : Nat) (h0 : Nat) (h0_thrown : Int32) (h0_tape : Nat) (h0_taped : Int32) (h0_size : Int32) (h0_limit : Int32) (h0_to : Int32) (h0_from : Int32) (h0_kind : Int32) (h0_number : Int32) (h0_sign : Int32) (h0_fault : Int32) (h0_place : Int32) (h0_word : Int64) (h0_told : Int32) (h0_now : Nat) (h0_read : Nat) (h0_kept : Nat) (h0_snaps : Nat) (h0_aside : Nat) (h0_name : Nat) (h0_readName : Nat) (h0_keptName : Nat) (h0_isKept : Nat) (h0_onces : Nat) (h0_snapMany : Int32) (h0_lowest : Int32) (h0_highest : Int32) (h0_agreed : Int32) (h0_jurors : Int32) (h0_panelled : Int32) (h0_inSets : Nat) (h0_surely : Int32) (h0_asked : Int32) (h0_frees : Nat) (h0_struck : Int32) (h0_beating : Int32) (h0_text : Nat) (h0_texts : Int32) (h0_seed : Int32) (h0_line : Nat) (h0_written : Nat) (h0_lineMany : Int32) (h0_hasWritten : Int32) (h0_node : Nat) (h0_nodes : Int32) (h0_onesMany : Int32) (h0_within : Int32) (h0_top : Int32) (i_h0_taped : rg 0 940 h0_taped) (i_h0_size : rg 0 940 h0_size) (i_h0_to : rg 0 940 h0_to) (i_h0_kind : rg 0 4 h0_kind) (i_h0_snapMany : rg 0 8 h0_snapMany) (i_h0_texts : rg 0 64 h0_texts) (i_h0_lineMany : rg 0 40 h0_lineMany) (i_h0_hasWritten : rg 0 1 h0_hasWritten) (i_h0_nodes : rg 0 60 h0_nodes) (i_h0_onesMany : rg 0 20 h0_onesMany) : oMet l yX12_isWord wsX12_isWord ({ frames := 2, cells := 0, slots := 0, locals := 48 } : Room) [.ref h0, .int 17] D ca sz [(h0, .inr (11, [.int h0_thrown, .ref h0_tape, .int h0_taped, .int h0_size, .int h0_limit, .int h0_to, .int h0_from, .int h0_kind, .int h0_number, .int h0_sign, .int h0_fault, .int h0_place, .long h0_word, .int h0_told, .ref h0_now, .ref h0_read, .ref h0_kept, .ref h0_snaps, .ref h0_aside, .ref h0_name, .ref h0_readName, .ref h0_keptName, .ref h0_isKept, .ref h0_onces, .int h0_snapMany, .int h0_lowest, .int h0_highest, .int h0_agreed, .int h0_jurors, .int h0_panelled, .ref h0_inSets, .int h0_surely, .int h0_asked, .ref h0_frees, .int h0_struck, .int h0_beating, .ref h0_text, .int h0_texts, .int h0_seed, .ref h0_line, .ref h0_written, .int h0_lineMany, .int h0_hasWritten, .ref h0_node, .int h0_nodes, .int h0_onesMany, .int h0_within, .int h0_top]))] (oQi D (fun (r : Int32) (u : Unit) => ((r = 0) ∧ (r = y_X12_isWord_17 h0_kind h0_word)) ∨ ((r = 1) ∧ (rg 2 2 h0_kind) ∧ (r = y_X12_isWord_17 h0_kind h0_word))) (fun (u : Unit) => [(h0, .inr (11, [.int h0_thrown, .ref h0_tape, .int h0_taped, .int h0_size, .int h0_limit, .int h0_to, .int h0_from, .int h0_kind, .int h0_number, .int h0_sign, .int h0_fault, .int h0_place, .long h0_word, .int h0_told, .ref h0_now, .ref h0_read, .ref h0_kept, .ref h0_snaps, .ref h0_aside, .ref h0_name, .ref h0_readName, .ref h0_keptName, .ref h0_isKept, .ref h0_onces, .int h0_snapMany, .int h0_lowest, .int h0_highest, .int h0_agreed, .int h0_jurors, .int h0_panelled, .ref h0_inSets, .int h0_surely, .int h0_asked, .ref h0_frees, .int h0_struck, .int h0_beating, .ref h0_text, .int h0_texts, .int h0_seed, .ref h0_line, .ref h0_written, .int h0_lineMany, .int h0_hasWritten, .ref h0_node, .int h0_nodes, .int h0_onesMany, .int h0_within, .int h0_top]))])) 0 0 := by
  refine oM (cc := cX12_isWord) (maxL := 2) (ret := (some .boolean)) (by decide) rfl (Nat.le_of_ble_eq_true rfl) [(0, .ref h0), (1, .int 17)] rfl ?_
  intro p e s m below meth c A H locs ls hx hb hr hml hts hown hlocks hin hK hP hD hA hS hl
  have hown : s.vm.findClass RX12 = some m.cls := hown
  have hY := y_X12_isWord_17_s h0_kind h0_word
  have k1 := hts (.fieldLink RX12 30 "LidCourtModel" "kind" "I") (by decide +kernel)
  have k2 : ∀ w ∈ wsX120, w ∈ wsX12_isWord := fun _ h => List.mem_cons_of_mem _ (List.mem_append_right _ h)
  have k3 := hts (.fieldLink RX12 43 "LidCourtModel" "word" "J") (by decide +kernel)
  refine lv_aload_n hx hb dX12_isWord_0 rfl (lv_at hl 0 rfl) ?_
  refine va_get (D := D) (ci := 11) (v := .int h0_kind) (C := RX12) (T := TX12) (N := 48) hx hb hts k2 hown hK.1 hP 0 rfl rfl 7 (by decide) k1 (fun _ h9 => h9) rfl dX12_isWord_1 ?_
  refine lv_iconst (v := 2) hx hb dX12_isWord_4 (by decide) ?_
  refine lv_icmp_ne (tgt := 24) hx hb dX12_isWord_5 (by decide) (fun c_18 => ?_) (fun c_18 => ?_)
  · skip
    have hY := hY.trans (if_neg c_18)
    refine lv_iconst (v := 0) hx hb dX12_isWord_24 (by decide) ?_
    exact oE_i hx hb hr (by decide) hlocks hP hD hS () [0] rfl (by decide) (Or.inl ⟨rfl, hY.symm⟩) (Nat.le_of_ble_eq_true rfl) (Nat.le_of_ble_eq_true rfl) dX12_isWord_25
  · skip
    have hY := hY.trans (if_pos c_18)
    have o_19 : rl 0 h0_kind 2 := rl_eq c_18
    have h_20 : rg 0 2 h0_kind := rl_x o_19 i_h0_kind (⟨by decide, by decide⟩ : rg 2 2 (2 : Int32)) (by decide) (by decide)
    have o_21 : rl 0 2 h0_kind := rl_eq c_18.symm
    have h_22 : rg 2 2 h0_kind := rl_y o_21 (⟨by decide, by decide⟩ : rg 2 2 (2 : Int32)) h_20 (by decide) (by decide)
    refine lv_aload_n hx hb dX12_isWord_8 rfl (lv_at hl 0 rfl) ?_
    refine va_get (D := D) (ci := 11) (v := .long h0_word) (C := RX12) (T := TX12) (N := 48) hx hb hts k2 hown hK.1 hP 0 rfl rfl 12 (by decide) k3 (fun _ h9 => h9) rfl dX12_isWord_9 ?_
    refine lv_iload_n hx hb dX12_isWord_12 rfl (lv_at hl 1 rfl) ?_
    refine oC_l (Wc := []) (Wr := [(h0, .inr (11, [.int h0_thrown, .ref h0_tape, .int h0_taped, .int h0_size, .int h0_limit, .int h0_to, .int h0_from, .int h0_kind, .int h0_number, .int h0_sign, .int h0_fault, .int h0_place, .long h0_word, .int h0_told, .ref h0_now, .ref h0_read, .ref h0_kept, .ref h0_snaps, .ref h0_aside, .ref h0_name, .ref h0_readName, .ref h0_keptName, .ref h0_isKept, .ref h0_onces, .int h0_snapMany, .int h0_lowest, .int h0_highest, .int h0_agreed, .int h0_jurors, .int h0_panelled, .ref h0_inSets, .int h0_surely, .int h0_asked, .ref h0_frees, .int h0_struck, .int h0_beating, .ref h0_text, .int h0_texts, .int h0_seed, .ref h0_line, .ref h0_written, .int h0_lineMany, .int h0_hasWritten, .ref h0_node, .int h0_nodes, .int h0_onesMany, .int h0_within, .int h0_top]))]) (va_runS (As := [.int 17]) (rest := [.long h0_word]) ⟨hx, hb, hml, hown, hts⟩ (e_X12_wordOf_17 l D ca H.size ) (va_cwS 1 hts gX12_isWord_X12_wordOf rfl rfl rfl (by decide +kernel) ⟨Nat.le_of_ble_eq_true rfl, Nat.le_of_ble_eq_true rfl⟩) (oPS hK hP hD [] rfl (by decide)) rfl rfl hl.1 rfl (lv_room (Nat.le_of_ble_eq_true rfl)) dX12_isWord_13 ⟨Nat.le_of_ble_eq_true rfl, Nat.le_of_ble_eq_true rfl⟩) hP hD hS hA [] [0] rfl rfl (by decide) (by decide) (fun r_23 u H locs w_24 hP hD hS => ?_)
    obtain ⟨⟩ := u
    have hP : va_P D vwCl [(h0, .inr (11, [.int h0_thrown, .ref h0_tape, .int h0_taped, .int h0_size, .int h0_limit, .int h0_to, .int h0_from, .int h0_kind, .int h0_number, .int h0_sign, .int h0_fault, .int h0_place, .long h0_word, .int h0_told, .ref h0_now, .ref h0_read, .ref h0_kept, .ref h0_snaps, .ref h0_aside, .ref h0_name, .ref h0_readName, .ref h0_keptName, .ref h0_isKept, .ref h0_onces, .int h0_snapMany, .int h0_lowest, .int h0_highest, .int h0_agreed, .int h0_jurors, .int h0_panelled, .ref h0_inSets, .int h0_surely, .int h0_asked, .ref h0_frees, .int h0_struck, .int h0_beating, .ref h0_text, .int h0_texts, .int h0_seed, .ref h0_line, .ref h0_written, .int h0_lineMany, .int h0_hasWritten, .ref h0_node, .int h0_nodes, .int h0_onesMany, .int h0_within, .int h0_top]))] H := hP
    have hD : va_D A [(h0, .inr (11, [.int h0_thrown, .ref h0_tape, .int h0_taped, .int h0_size, .int h0_limit, .int h0_to, .int h0_from, .int h0_kind, .int h0_number, .int h0_sign, .int h0_fault, .int h0_place, .long h0_word, .int h0_told, .ref h0_now, .ref h0_read, .ref h0_kept, .ref h0_snaps, .ref h0_aside, .ref h0_name, .ref h0_readName, .ref h0_keptName, .ref h0_isKept, .ref h0_onces, .int h0_snapMany, .int h0_lowest, .int h0_highest, .int h0_agreed, .int h0_jurors, .int h0_panelled, .ref h0_inSets, .int h0_surely, .int h0_asked, .ref h0_frees, .int h0_struck, .int h0_beating, .ref h0_text, .int h0_texts, .int h0_seed, .ref h0_line, .ref h0_written, .int h0_lineMany, .int h0_hasWritten, .ref h0_node, .int h0_nodes, .int h0_onesMany, .int h0_within, .int h0_top]))] := hD
    try dsimp only at w_24
    obtain ⟨h_25, h_26⟩ := w_24
    subst h_25
    have hY := hY.trans (lt1_e h_26)
    refine W.lcmp hx hb dX12_isWord_16 ?_
    refine lv_topi (fun x_27 ex_27 => ?_)
    have hY := hY.trans (lt1_e ex_27)
    refine lv_if_ne (tgt := 24) hx hb dX12_isWord_17 (by decide) (fun c_28 => ?_) (fun c_28 => ?_)
    · skip
      have hY := hY.trans (if_neg c_28)
      have h_29 : ¬ (h0_word : Int64) = 10631 := cmp_nn ex_27 c_28
      refine lv_iconst (v := 0) hx hb dX12_isWord_24 (by decide) ?_
      exact oE_i hx hb hr (by decide) hlocks hP hD hS () [0] rfl (by decide) (Or.inl ⟨rfl, hY.symm⟩) (Nat.le_of_ble_eq_true rfl) (Nat.le_of_ble_eq_true rfl) dX12_isWord_25
    · skip
      have hY := hY.trans (if_pos c_28)
      have o_30 : rl 0 x_27 0 := rl_eq c_28
      have h_31 : rg (-2147483648) 0 x_27 := rl_x o_30 (rga x_27) (⟨by decide, by decide⟩ : rg 0 0 (0 : Int32)) (by decide) (by decide)
      have o_32 : rl 0 0 x_27 := rl_eq c_28.symm
      have h_33 : rg 0 0 x_27 := rl_y o_32 (⟨by decide, by decide⟩ : rg 0 0 (0 : Int32)) h_31 (by decide) (by decide)
      have h_34 : (h0_word : Int64) = 10631 := cmp_eq ex_27 c_28
      refine lv_iconst (v := 1) hx hb dX12_isWord_20 (by decide) ?_
      refine lv_goto (tgt := 25) hx hb dX12_isWord_21 (by decide) ?_
      exact oE_i hx hb hr (by decide) hlocks hP hD hS () [0] rfl (by decide) (Or.inr (⟨rfl, h_22, hY.symm⟩)) (Nat.le_of_ble_eq_true rfl) (Nat.le_of_ble_eq_true rfl) dX12_isWord_25
set_option maxHeartbeats 4000000 in
set_option maxRecDepth 100000 in
theorem e_X12_isWord_18 (l : Launch) (D : va_G) (ca : Nat → ClassId) (sz : Nat) (h0 : Nat) (h0_thrown : Int32) (h0_tape : Nat) (h0_taped : Int32) (h0_size : Int32) (h0_limit : Int32) (h0_to : Int32) (h0_from : Int32) (h0_kind : Int32) (h0_number : Int32) (h0_sign : Int32) (h0_fault : Int32) (h0_place : Int32) (h0_word : Int64) (h0_told : Int32) (h0_now : Nat) (h0_read : Nat) (h0_kept : Nat) (h0_snaps : Nat) (h0_aside : Nat) (h0_name : Nat) (h0_readName : Nat) (h0_keptName : Nat) (h0_isKept : Nat) (h0_onces : Nat) (h0_snapMany : Int32) (h0_lowest : Int32) (h0_highest : Int32) (h0_agreed : Int32) (h0_jurors : Int32) (h0_panelled : Int32) (h0_inSets : Nat) (h0_surely : Int32) (h0_asked : Int32) (h0_frees : Nat) (h0_struck : Int32) (h0_beating : Int32) (h0_text : Nat) (h0_texts : Int32) (h0_seed : Int32) (h0_line : Nat) (h0_written : Nat) (h0_lineMany : Int32) (h0_hasWritten : Int32) (h0_node : Nat) (h0_nodes : Int32) (h0_onesMany : Int32) (h0_within : Int32) (h0_top : Int32) (i_h0_taped : rg 0 940 h0_taped) (i_h0_size : rg 0 940 h0_size) (i_h0_to : rg 0 940 h0_to) (i_h0_kind : rg 0 4 h0_kind) (i_h0_snapMany : rg 0 8 h0_snapMany) (i_h0_texts : rg 0 64 h0_texts) (i_h0_lineMany : rg 0 40 h0_lineMany) (i_h0_hasWritten : rg 0 1 h0_hasWritten) (i_h0_nodes : rg 0 60 h0_nodes) (i_h0_onesMany : rg 0 20 h0_onesMany) : oMet l yX12_isWord wsX12_isWord ({ frames := 2, cells := 0, slots := 0, locals := 48 } : Room) [.ref h0, .int 18] D ca sz [(h0, .inr (11, [.int h0_thrown, .ref h0_tape, .int h0_taped, .int h0_size, .int h0_limit, .int h0_to, .int h0_from, .int h0_kind, .int h0_number, .int h0_sign, .int h0_fault, .int h0_place, .long h0_word, .int h0_told, .ref h0_now, .ref h0_read, .ref h0_kept, .ref h0_snaps, .ref h0_aside, .ref h0_name, .ref h0_readName, .ref h0_keptName, .ref h0_isKept, .ref h0_onces, .int h0_snapMany, .int h0_lowest, .int h0_highest, .int h0_agreed, .int h0_jurors, .int h0_panelled, .ref h0_inSets, .int h0_surely, .int h0_asked, .ref h0_frees, .int h0_struck, .int h0_beating, .ref h0_text, .int h0_texts, .int h0_seed, .ref h0_line, .ref h0_written, .int h0_lineMany, .int h0_hasWritten, .ref h0_node, .int h0_nodes, .int h0_onesMany, .int h0_within, .int h0_top]))] (oQi D (fun (r : Int32) (u : Unit) => ((r = 0) ∧ (r = y_X12_isWord_18 h0_kind h0_word)) ∨ ((r = 1) ∧ (rg 2 2 h0_kind) ∧ (r = y_X12_isWord_18 h0_kind h0_word))) (fun (u : Unit) => [(h0, .inr (11, [.int h0_thrown, .ref h0_tape, .int h0_taped, .int h0_size, .int h0_limit, .int h0_to, .int h0_from, .int h0_kind, .int h0_number, .int h0_sign, .int h0_fault, .int h0_place, .long h0_word, .int h0_told, .ref h0_now, .ref h0_read, .ref h0_kept, .ref h0_snaps, .ref h0_aside, .ref h0_name, .ref h0_readName, .ref h0_keptName, .ref h0_isKept, .ref h0_onces, .int h0_snapMany, .int h0_lowest, .int h0_highest, .int h0_agreed, .int h0_jurors, .int h0_panelled, .ref h0_inSets, .int h0_surely, .int h0_asked, .ref h0_frees, .int h0_struck, .int h0_beating, .ref h0_text, .int h0_texts, .int h0_seed, .ref h0_line, .ref h0_written, .int h0_lineMany, .int h0_hasWritten, .ref h0_node, .int h0_nodes, .int h0_onesMany, .int h0_within, .int h0_top]))])) 0 0 := by
  refine oM (cc := cX12_isWord) (maxL := 2) (ret := (some .boolean)) (by decide) rfl (Nat.le_of_ble_eq_true rfl) [(0, .ref h0), (1, .int 18)] rfl ?_
  intro p e s m below meth c A H locs ls hx hb hr hml hts hown hlocks hin hK hP hD hA hS hl
  have hown : s.vm.findClass RX12 = some m.cls := hown
  have hY := y_X12_isWord_18_s h0_kind h0_word
  have k1 := hts (.fieldLink RX12 30 "LidCourtModel" "kind" "I") (by decide +kernel)
  have k2 : ∀ w ∈ wsX120, w ∈ wsX12_isWord := fun _ h => List.mem_cons_of_mem _ (List.mem_append_right _ h)
  have k3 := hts (.fieldLink RX12 43 "LidCourtModel" "word" "J") (by decide +kernel)
  refine lv_aload_n hx hb dX12_isWord_0 rfl (lv_at hl 0 rfl) ?_
  refine va_get (D := D) (ci := 11) (v := .int h0_kind) (C := RX12) (T := TX12) (N := 48) hx hb hts k2 hown hK.1 hP 0 rfl rfl 7 (by decide) k1 (fun _ h9 => h9) rfl dX12_isWord_1 ?_
  refine lv_iconst (v := 2) hx hb dX12_isWord_4 (by decide) ?_
  refine lv_icmp_ne (tgt := 24) hx hb dX12_isWord_5 (by decide) (fun c_18 => ?_) (fun c_18 => ?_)
  · skip
    have hY := hY.trans (if_neg c_18)
    refine lv_iconst (v := 0) hx hb dX12_isWord_24 (by decide) ?_
    exact oE_i hx hb hr (by decide) hlocks hP hD hS () [0] rfl (by decide) (Or.inl ⟨rfl, hY.symm⟩) (Nat.le_of_ble_eq_true rfl) (Nat.le_of_ble_eq_true rfl) dX12_isWord_25
  · skip
    have hY := hY.trans (if_pos c_18)
    have o_19 : rl 0 h0_kind 2 := rl_eq c_18
    have h_20 : rg 0 2 h0_kind := rl_x o_19 i_h0_kind (⟨by decide, by decide⟩ : rg 2 2 (2 : Int32)) (by decide) (by decide)
    have o_21 : rl 0 2 h0_kind := rl_eq c_18.symm
    have h_22 : rg 2 2 h0_kind := rl_y o_21 (⟨by decide, by decide⟩ : rg 2 2 (2 : Int32)) h_20 (by decide) (by decide)
    refine lv_aload_n hx hb dX12_isWord_8 rfl (lv_at hl 0 rfl) ?_
    refine va_get (D := D) (ci := 11) (v := .long h0_word) (C := RX12) (T := TX12) (N := 48) hx hb hts k2 hown hK.1 hP 0 rfl rfl 12 (by decide) k3 (fun _ h9 => h9) rfl dX12_isWord_9 ?_
    refine lv_iload_n hx hb dX12_isWord_12 rfl (lv_at hl 1 rfl) ?_
    refine oC_l (Wc := []) (Wr := [(h0, .inr (11, [.int h0_thrown, .ref h0_tape, .int h0_taped, .int h0_size, .int h0_limit, .int h0_to, .int h0_from, .int h0_kind, .int h0_number, .int h0_sign, .int h0_fault, .int h0_place, .long h0_word, .int h0_told, .ref h0_now, .ref h0_read, .ref h0_kept, .ref h0_snaps, .ref h0_aside, .ref h0_name, .ref h0_readName, .ref h0_keptName, .ref h0_isKept, .ref h0_onces, .int h0_snapMany, .int h0_lowest, .int h0_highest, .int h0_agreed, .int h0_jurors, .int h0_panelled, .ref h0_inSets, .int h0_surely, .int h0_asked, .ref h0_frees, .int h0_struck, .int h0_beating, .ref h0_text, .int h0_texts, .int h0_seed, .ref h0_line, .ref h0_written, .int h0_lineMany, .int h0_hasWritten, .ref h0_node, .int h0_nodes, .int h0_onesMany, .int h0_within, .int h0_top]))]) (va_runS (As := [.int 18]) (rest := [.long h0_word]) ⟨hx, hb, hml, hown, hts⟩ (e_X12_wordOf_18 l D ca H.size ) (va_cwS 1 hts gX12_isWord_X12_wordOf rfl rfl rfl (by decide +kernel) ⟨Nat.le_of_ble_eq_true rfl, Nat.le_of_ble_eq_true rfl⟩) (oPS hK hP hD [] rfl (by decide)) rfl rfl hl.1 rfl (lv_room (Nat.le_of_ble_eq_true rfl)) dX12_isWord_13 ⟨Nat.le_of_ble_eq_true rfl, Nat.le_of_ble_eq_true rfl⟩) hP hD hS hA [] [0] rfl rfl (by decide) (by decide) (fun r_23 u H locs w_24 hP hD hS => ?_)
    obtain ⟨⟩ := u
    have hP : va_P D vwCl [(h0, .inr (11, [.int h0_thrown, .ref h0_tape, .int h0_taped, .int h0_size, .int h0_limit, .int h0_to, .int h0_from, .int h0_kind, .int h0_number, .int h0_sign, .int h0_fault, .int h0_place, .long h0_word, .int h0_told, .ref h0_now, .ref h0_read, .ref h0_kept, .ref h0_snaps, .ref h0_aside, .ref h0_name, .ref h0_readName, .ref h0_keptName, .ref h0_isKept, .ref h0_onces, .int h0_snapMany, .int h0_lowest, .int h0_highest, .int h0_agreed, .int h0_jurors, .int h0_panelled, .ref h0_inSets, .int h0_surely, .int h0_asked, .ref h0_frees, .int h0_struck, .int h0_beating, .ref h0_text, .int h0_texts, .int h0_seed, .ref h0_line, .ref h0_written, .int h0_lineMany, .int h0_hasWritten, .ref h0_node, .int h0_nodes, .int h0_onesMany, .int h0_within, .int h0_top]))] H := hP
    have hD : va_D A [(h0, .inr (11, [.int h0_thrown, .ref h0_tape, .int h0_taped, .int h0_size, .int h0_limit, .int h0_to, .int h0_from, .int h0_kind, .int h0_number, .int h0_sign, .int h0_fault, .int h0_place, .long h0_word, .int h0_told, .ref h0_now, .ref h0_read, .ref h0_kept, .ref h0_snaps, .ref h0_aside, .ref h0_name, .ref h0_readName, .ref h0_keptName, .ref h0_isKept, .ref h0_onces, .int h0_snapMany, .int h0_lowest, .int h0_highest, .int h0_agreed, .int h0_jurors, .int h0_panelled, .ref h0_inSets, .int h0_surely, .int h0_asked, .ref h0_frees, .int h0_struck, .int h0_beating, .ref h0_text, .int h0_texts, .int h0_seed, .ref h0_line, .ref h0_written, .int h0_lineMany, .int h0_hasWritten, .ref h0_node, .int h0_nodes, .int h0_onesMany, .int h0_within, .int h0_top]))] := hD
    try dsimp only at w_24
    obtain ⟨h_25, h_26⟩ := w_24
    subst h_25
    have hY := hY.trans (lt1_e h_26)
    refine W.lcmp hx hb dX12_isWord_16 ?_
    refine lv_topi (fun x_27 ex_27 => ?_)
    have hY := hY.trans (lt1_e ex_27)
    refine lv_if_ne (tgt := 24) hx hb dX12_isWord_17 (by decide) (fun c_28 => ?_) (fun c_28 => ?_)
    · skip
      have hY := hY.trans (if_neg c_28)
      have h_29 : ¬ (h0_word : Int64) = 7501158880 := cmp_nn ex_27 c_28
      refine lv_iconst (v := 0) hx hb dX12_isWord_24 (by decide) ?_
      exact oE_i hx hb hr (by decide) hlocks hP hD hS () [0] rfl (by decide) (Or.inl ⟨rfl, hY.symm⟩) (Nat.le_of_ble_eq_true rfl) (Nat.le_of_ble_eq_true rfl) dX12_isWord_25
    · skip
      have hY := hY.trans (if_pos c_28)
      have o_30 : rl 0 x_27 0 := rl_eq c_28
      have h_31 : rg (-2147483648) 0 x_27 := rl_x o_30 (rga x_27) (⟨by decide, by decide⟩ : rg 0 0 (0 : Int32)) (by decide) (by decide)
      have o_32 : rl 0 0 x_27 := rl_eq c_28.symm
      have h_33 : rg 0 0 x_27 := rl_y o_32 (⟨by decide, by decide⟩ : rg 0 0 (0 : Int32)) h_31 (by decide) (by decide)
      have h_34 : (h0_word : Int64) = 7501158880 := cmp_eq ex_27 c_28
      refine lv_iconst (v := 1) hx hb dX12_isWord_20 (by decide) ?_
      refine lv_goto (tgt := 25) hx hb dX12_isWord_21 (by decide) ?_
      exact oE_i hx hb hr (by decide) hlocks hP hD hS () [0] rfl (by decide) (Or.inr (⟨rfl, h_22, hY.symm⟩)) (Nat.le_of_ble_eq_true rfl) (Nat.le_of_ble_eq_true rfl) dX12_isWord_25
set_option maxHeartbeats 4000000 in
set_option maxRecDepth 100000 in
theorem e_X12_isWord_19 (l : Launch) (D : va_G) (ca : Nat → ClassId) (sz : Nat) (h0 : Nat) (h0_thrown : Int32) (h0_tape : Nat) (h0_taped : Int32) (h0_size : Int32) (h0_limit : Int32) (h0_to : Int32) (h0_from : Int32) (h0_kind : Int32) (h0_number : Int32) (h0_sign : Int32) (h0_fault : Int32) (h0_place : Int32) (h0_word : Int64) (h0_told : Int32) (h0_now : Nat) (h0_read : Nat) (h0_kept : Nat) (h0_snaps : Nat) (h0_aside : Nat) (h0_name : Nat) (h0_readName : Nat) (h0_keptName : Nat) (h0_isKept : Nat) (h0_onces : Nat) (h0_snapMany : Int32) (h0_lowest : Int32) (h0_highest : Int32) (h0_agreed : Int32) (h0_jurors : Int32) (h0_panelled : Int32) (h0_inSets : Nat) (h0_surely : Int32) (h0_asked : Int32) (h0_frees : Nat) (h0_struck : Int32) (h0_beating : Int32) (h0_text : Nat) (h0_texts : Int32) (h0_seed : Int32) (h0_line : Nat) (h0_written : Nat) (h0_lineMany : Int32) (h0_hasWritten : Int32) (h0_node : Nat) (h0_nodes : Int32) (h0_onesMany : Int32) (h0_within : Int32) (h0_top : Int32) (i_h0_taped : rg 0 940 h0_taped) (i_h0_size : rg 0 940 h0_size) (i_h0_to : rg 0 940 h0_to) (i_h0_kind : rg 0 4 h0_kind) (i_h0_snapMany : rg 0 8 h0_snapMany) (i_h0_texts : rg 0 64 h0_texts) (i_h0_lineMany : rg 0 40 h0_lineMany) (i_h0_hasWritten : rg 0 1 h0_hasWritten) (i_h0_nodes : rg 0 60 h0_nodes) (i_h0_onesMany : rg 0 20 h0_onesMany) : oMet l yX12_isWord wsX12_isWord ({ frames := 2, cells := 0, slots := 0, locals := 48 } : Room) [.ref h0, .int 19] D ca sz [(h0, .inr (11, [.int h0_thrown, .ref h0_tape, .int h0_taped, .int h0_size, .int h0_limit, .int h0_to, .int h0_from, .int h0_kind, .int h0_number, .int h0_sign, .int h0_fault, .int h0_place, .long h0_word, .int h0_told, .ref h0_now, .ref h0_read, .ref h0_kept, .ref h0_snaps, .ref h0_aside, .ref h0_name, .ref h0_readName, .ref h0_keptName, .ref h0_isKept, .ref h0_onces, .int h0_snapMany, .int h0_lowest, .int h0_highest, .int h0_agreed, .int h0_jurors, .int h0_panelled, .ref h0_inSets, .int h0_surely, .int h0_asked, .ref h0_frees, .int h0_struck, .int h0_beating, .ref h0_text, .int h0_texts, .int h0_seed, .ref h0_line, .ref h0_written, .int h0_lineMany, .int h0_hasWritten, .ref h0_node, .int h0_nodes, .int h0_onesMany, .int h0_within, .int h0_top]))] (oQi D (fun (r : Int32) (u : Unit) => ((r = 0) ∧ (r = y_X12_isWord_19 h0_kind h0_word)) ∨ ((r = 1) ∧ (rg 2 2 h0_kind) ∧ (r = y_X12_isWord_19 h0_kind h0_word))) (fun (u : Unit) => [(h0, .inr (11, [.int h0_thrown, .ref h0_tape, .int h0_taped, .int h0_size, .int h0_limit, .int h0_to, .int h0_from, .int h0_kind, .int h0_number, .int h0_sign, .int h0_fault, .int h0_place, .long h0_word, .int h0_told, .ref h0_now, .ref h0_read, .ref h0_kept, .ref h0_snaps, .ref h0_aside, .ref h0_name, .ref h0_readName, .ref h0_keptName, .ref h0_isKept, .ref h0_onces, .int h0_snapMany, .int h0_lowest, .int h0_highest, .int h0_agreed, .int h0_jurors, .int h0_panelled, .ref h0_inSets, .int h0_surely, .int h0_asked, .ref h0_frees, .int h0_struck, .int h0_beating, .ref h0_text, .int h0_texts, .int h0_seed, .ref h0_line, .ref h0_written, .int h0_lineMany, .int h0_hasWritten, .ref h0_node, .int h0_nodes, .int h0_onesMany, .int h0_within, .int h0_top]))])) 0 0 := by
  refine oM (cc := cX12_isWord) (maxL := 2) (ret := (some .boolean)) (by decide) rfl (Nat.le_of_ble_eq_true rfl) [(0, .ref h0), (1, .int 19)] rfl ?_
  intro p e s m below meth c A H locs ls hx hb hr hml hts hown hlocks hin hK hP hD hA hS hl
  have hown : s.vm.findClass RX12 = some m.cls := hown
  have hY := y_X12_isWord_19_s h0_kind h0_word
  have k1 := hts (.fieldLink RX12 30 "LidCourtModel" "kind" "I") (by decide +kernel)
  have k2 : ∀ w ∈ wsX120, w ∈ wsX12_isWord := fun _ h => List.mem_cons_of_mem _ (List.mem_append_right _ h)
  have k3 := hts (.fieldLink RX12 43 "LidCourtModel" "word" "J") (by decide +kernel)
  refine lv_aload_n hx hb dX12_isWord_0 rfl (lv_at hl 0 rfl) ?_
  refine va_get (D := D) (ci := 11) (v := .int h0_kind) (C := RX12) (T := TX12) (N := 48) hx hb hts k2 hown hK.1 hP 0 rfl rfl 7 (by decide) k1 (fun _ h9 => h9) rfl dX12_isWord_1 ?_
  refine lv_iconst (v := 2) hx hb dX12_isWord_4 (by decide) ?_
  refine lv_icmp_ne (tgt := 24) hx hb dX12_isWord_5 (by decide) (fun c_18 => ?_) (fun c_18 => ?_)
  · skip
    have hY := hY.trans (if_neg c_18)
    refine lv_iconst (v := 0) hx hb dX12_isWord_24 (by decide) ?_
    exact oE_i hx hb hr (by decide) hlocks hP hD hS () [0] rfl (by decide) (Or.inl ⟨rfl, hY.symm⟩) (Nat.le_of_ble_eq_true rfl) (Nat.le_of_ble_eq_true rfl) dX12_isWord_25
  · skip
    have hY := hY.trans (if_pos c_18)
    have o_19 : rl 0 h0_kind 2 := rl_eq c_18
    have h_20 : rg 0 2 h0_kind := rl_x o_19 i_h0_kind (⟨by decide, by decide⟩ : rg 2 2 (2 : Int32)) (by decide) (by decide)
    have o_21 : rl 0 2 h0_kind := rl_eq c_18.symm
    have h_22 : rg 2 2 h0_kind := rl_y o_21 (⟨by decide, by decide⟩ : rg 2 2 (2 : Int32)) h_20 (by decide) (by decide)
    refine lv_aload_n hx hb dX12_isWord_8 rfl (lv_at hl 0 rfl) ?_
    refine va_get (D := D) (ci := 11) (v := .long h0_word) (C := RX12) (T := TX12) (N := 48) hx hb hts k2 hown hK.1 hP 0 rfl rfl 12 (by decide) k3 (fun _ h9 => h9) rfl dX12_isWord_9 ?_
    refine lv_iload_n hx hb dX12_isWord_12 rfl (lv_at hl 1 rfl) ?_
    refine oC_l (Wc := []) (Wr := [(h0, .inr (11, [.int h0_thrown, .ref h0_tape, .int h0_taped, .int h0_size, .int h0_limit, .int h0_to, .int h0_from, .int h0_kind, .int h0_number, .int h0_sign, .int h0_fault, .int h0_place, .long h0_word, .int h0_told, .ref h0_now, .ref h0_read, .ref h0_kept, .ref h0_snaps, .ref h0_aside, .ref h0_name, .ref h0_readName, .ref h0_keptName, .ref h0_isKept, .ref h0_onces, .int h0_snapMany, .int h0_lowest, .int h0_highest, .int h0_agreed, .int h0_jurors, .int h0_panelled, .ref h0_inSets, .int h0_surely, .int h0_asked, .ref h0_frees, .int h0_struck, .int h0_beating, .ref h0_text, .int h0_texts, .int h0_seed, .ref h0_line, .ref h0_written, .int h0_lineMany, .int h0_hasWritten, .ref h0_node, .int h0_nodes, .int h0_onesMany, .int h0_within, .int h0_top]))]) (va_runS (As := [.int 19]) (rest := [.long h0_word]) ⟨hx, hb, hml, hown, hts⟩ (e_X12_wordOf_19 l D ca H.size ) (va_cwS 1 hts gX12_isWord_X12_wordOf rfl rfl rfl (by decide +kernel) ⟨Nat.le_of_ble_eq_true rfl, Nat.le_of_ble_eq_true rfl⟩) (oPS hK hP hD [] rfl (by decide)) rfl rfl hl.1 rfl (lv_room (Nat.le_of_ble_eq_true rfl)) dX12_isWord_13 ⟨Nat.le_of_ble_eq_true rfl, Nat.le_of_ble_eq_true rfl⟩) hP hD hS hA [] [0] rfl rfl (by decide) (by decide) (fun r_23 u H locs w_24 hP hD hS => ?_)
    obtain ⟨⟩ := u
    have hP : va_P D vwCl [(h0, .inr (11, [.int h0_thrown, .ref h0_tape, .int h0_taped, .int h0_size, .int h0_limit, .int h0_to, .int h0_from, .int h0_kind, .int h0_number, .int h0_sign, .int h0_fault, .int h0_place, .long h0_word, .int h0_told, .ref h0_now, .ref h0_read, .ref h0_kept, .ref h0_snaps, .ref h0_aside, .ref h0_name, .ref h0_readName, .ref h0_keptName, .ref h0_isKept, .ref h0_onces, .int h0_snapMany, .int h0_lowest, .int h0_highest, .int h0_agreed, .int h0_jurors, .int h0_panelled, .ref h0_inSets, .int h0_surely, .int h0_asked, .ref h0_frees, .int h0_struck, .int h0_beating, .ref h0_text, .int h0_texts, .int h0_seed, .ref h0_line, .ref h0_written, .int h0_lineMany, .int h0_hasWritten, .ref h0_node, .int h0_nodes, .int h0_onesMany, .int h0_within, .int h0_top]))] H := hP
    have hD : va_D A [(h0, .inr (11, [.int h0_thrown, .ref h0_tape, .int h0_taped, .int h0_size, .int h0_limit, .int h0_to, .int h0_from, .int h0_kind, .int h0_number, .int h0_sign, .int h0_fault, .int h0_place, .long h0_word, .int h0_told, .ref h0_now, .ref h0_read, .ref h0_kept, .ref h0_snaps, .ref h0_aside, .ref h0_name, .ref h0_readName, .ref h0_keptName, .ref h0_isKept, .ref h0_onces, .int h0_snapMany, .int h0_lowest, .int h0_highest, .int h0_agreed, .int h0_jurors, .int h0_panelled, .ref h0_inSets, .int h0_surely, .int h0_asked, .ref h0_frees, .int h0_struck, .int h0_beating, .ref h0_text, .int h0_texts, .int h0_seed, .ref h0_line, .ref h0_written, .int h0_lineMany, .int h0_hasWritten, .ref h0_node, .int h0_nodes, .int h0_onesMany, .int h0_within, .int h0_top]))] := hD
    try dsimp only at w_24
    obtain ⟨h_25, h_26⟩ := w_24
    subst h_25
    have hY := hY.trans (lt1_e h_26)
    refine W.lcmp hx hb dX12_isWord_16 ?_
    refine lv_topi (fun x_27 ex_27 => ?_)
    have hY := hY.trans (lt1_e ex_27)
    refine lv_if_ne (tgt := 24) hx hb dX12_isWord_17 (by decide) (fun c_28 => ?_) (fun c_28 => ?_)
    · skip
      have hY := hY.trans (if_neg c_28)
      have h_29 : ¬ (h0_word : Int64) = 3321060487 := cmp_nn ex_27 c_28
      refine lv_iconst (v := 0) hx hb dX12_isWord_24 (by decide) ?_
      exact oE_i hx hb hr (by decide) hlocks hP hD hS () [0] rfl (by decide) (Or.inl ⟨rfl, hY.symm⟩) (Nat.le_of_ble_eq_true rfl) (Nat.le_of_ble_eq_true rfl) dX12_isWord_25
    · skip
      have hY := hY.trans (if_pos c_28)
      have o_30 : rl 0 x_27 0 := rl_eq c_28
      have h_31 : rg (-2147483648) 0 x_27 := rl_x o_30 (rga x_27) (⟨by decide, by decide⟩ : rg 0 0 (0 : Int32)) (by decide) (by decide)
      have o_32 : rl 0 0 x_27 := rl_eq c_28.symm
      have h_33 : rg 0 0 x_27 := rl_y o_32 (⟨by decide, by decide⟩ : rg 0 0 (0 : Int32)) h_31 (by decide) (by decide)
      have h_34 : (h0_word : Int64) = 3321060487 := cmp_eq ex_27 c_28
      refine lv_iconst (v := 1) hx hb dX12_isWord_20 (by decide) ?_
      refine lv_goto (tgt := 25) hx hb dX12_isWord_21 (by decide) ?_
      exact oE_i hx hb hr (by decide) hlocks hP hD hS () [0] rfl (by decide) (Or.inr (⟨rfl, h_22, hY.symm⟩)) (Nat.le_of_ble_eq_true rfl) (Nat.le_of_ble_eq_true rfl) dX12_isWord_25
set_option maxHeartbeats 4000000 in
set_option maxRecDepth 100000 in
theorem e_X12_isWord_20 (l : Launch) (D : va_G) (ca : Nat → ClassId) (sz : Nat) (h0 : Nat) (h0_thrown : Int32) (h0_tape : Nat) (h0_taped : Int32) (h0_size : Int32) (h0_limit : Int32) (h0_to : Int32) (h0_from : Int32) (h0_kind : Int32) (h0_number : Int32) (h0_sign : Int32) (h0_fault : Int32) (h0_place : Int32) (h0_word : Int64) (h0_told : Int32) (h0_now : Nat) (h0_read : Nat) (h0_kept : Nat) (h0_snaps : Nat) (h0_aside : Nat) (h0_name : Nat) (h0_readName : Nat) (h0_keptName : Nat) (h0_isKept : Nat) (h0_onces : Nat) (h0_snapMany : Int32) (h0_lowest : Int32) (h0_highest : Int32) (h0_agreed : Int32) (h0_jurors : Int32) (h0_panelled : Int32) (h0_inSets : Nat) (h0_surely : Int32) (h0_asked : Int32) (h0_frees : Nat) (h0_struck : Int32) (h0_beating : Int32) (h0_text : Nat) (h0_texts : Int32) (h0_seed : Int32) (h0_line : Nat) (h0_written : Nat) (h0_lineMany : Int32) (h0_hasWritten : Int32) (h0_node : Nat) (h0_nodes : Int32) (h0_onesMany : Int32) (h0_within : Int32) (h0_top : Int32) (i_h0_taped : rg 0 940 h0_taped) (i_h0_size : rg 0 940 h0_size) (i_h0_to : rg 0 940 h0_to) (i_h0_kind : rg 0 4 h0_kind) (i_h0_snapMany : rg 0 8 h0_snapMany) (i_h0_texts : rg 0 64 h0_texts) (i_h0_lineMany : rg 0 40 h0_lineMany) (i_h0_hasWritten : rg 0 1 h0_hasWritten) (i_h0_nodes : rg 0 60 h0_nodes) (i_h0_onesMany : rg 0 20 h0_onesMany) : oMet l yX12_isWord wsX12_isWord ({ frames := 2, cells := 0, slots := 0, locals := 48 } : Room) [.ref h0, .int 20] D ca sz [(h0, .inr (11, [.int h0_thrown, .ref h0_tape, .int h0_taped, .int h0_size, .int h0_limit, .int h0_to, .int h0_from, .int h0_kind, .int h0_number, .int h0_sign, .int h0_fault, .int h0_place, .long h0_word, .int h0_told, .ref h0_now, .ref h0_read, .ref h0_kept, .ref h0_snaps, .ref h0_aside, .ref h0_name, .ref h0_readName, .ref h0_keptName, .ref h0_isKept, .ref h0_onces, .int h0_snapMany, .int h0_lowest, .int h0_highest, .int h0_agreed, .int h0_jurors, .int h0_panelled, .ref h0_inSets, .int h0_surely, .int h0_asked, .ref h0_frees, .int h0_struck, .int h0_beating, .ref h0_text, .int h0_texts, .int h0_seed, .ref h0_line, .ref h0_written, .int h0_lineMany, .int h0_hasWritten, .ref h0_node, .int h0_nodes, .int h0_onesMany, .int h0_within, .int h0_top]))] (oQi D (fun (r : Int32) (u : Unit) => ((r = 0) ∧ (r = y_X12_isWord_20 h0_kind h0_word)) ∨ ((r = 1) ∧ (rg 2 2 h0_kind) ∧ (r = y_X12_isWord_20 h0_kind h0_word))) (fun (u : Unit) => [(h0, .inr (11, [.int h0_thrown, .ref h0_tape, .int h0_taped, .int h0_size, .int h0_limit, .int h0_to, .int h0_from, .int h0_kind, .int h0_number, .int h0_sign, .int h0_fault, .int h0_place, .long h0_word, .int h0_told, .ref h0_now, .ref h0_read, .ref h0_kept, .ref h0_snaps, .ref h0_aside, .ref h0_name, .ref h0_readName, .ref h0_keptName, .ref h0_isKept, .ref h0_onces, .int h0_snapMany, .int h0_lowest, .int h0_highest, .int h0_agreed, .int h0_jurors, .int h0_panelled, .ref h0_inSets, .int h0_surely, .int h0_asked, .ref h0_frees, .int h0_struck, .int h0_beating, .ref h0_text, .int h0_texts, .int h0_seed, .ref h0_line, .ref h0_written, .int h0_lineMany, .int h0_hasWritten, .ref h0_node, .int h0_nodes, .int h0_onesMany, .int h0_within, .int h0_top]))])) 0 0 := by
  refine oM (cc := cX12_isWord) (maxL := 2) (ret := (some .boolean)) (by decide) rfl (Nat.le_of_ble_eq_true rfl) [(0, .ref h0), (1, .int 20)] rfl ?_
  intro p e s m below meth c A H locs ls hx hb hr hml hts hown hlocks hin hK hP hD hA hS hl
  have hown : s.vm.findClass RX12 = some m.cls := hown
  have hY := y_X12_isWord_20_s h0_kind h0_word
  have k1 := hts (.fieldLink RX12 30 "LidCourtModel" "kind" "I") (by decide +kernel)
  have k2 : ∀ w ∈ wsX120, w ∈ wsX12_isWord := fun _ h => List.mem_cons_of_mem _ (List.mem_append_right _ h)
  have k3 := hts (.fieldLink RX12 43 "LidCourtModel" "word" "J") (by decide +kernel)
  refine lv_aload_n hx hb dX12_isWord_0 rfl (lv_at hl 0 rfl) ?_
  refine va_get (D := D) (ci := 11) (v := .int h0_kind) (C := RX12) (T := TX12) (N := 48) hx hb hts k2 hown hK.1 hP 0 rfl rfl 7 (by decide) k1 (fun _ h9 => h9) rfl dX12_isWord_1 ?_
  refine lv_iconst (v := 2) hx hb dX12_isWord_4 (by decide) ?_
  refine lv_icmp_ne (tgt := 24) hx hb dX12_isWord_5 (by decide) (fun c_18 => ?_) (fun c_18 => ?_)
  · skip
    have hY := hY.trans (if_neg c_18)
    refine lv_iconst (v := 0) hx hb dX12_isWord_24 (by decide) ?_
    exact oE_i hx hb hr (by decide) hlocks hP hD hS () [0] rfl (by decide) (Or.inl ⟨rfl, hY.symm⟩) (Nat.le_of_ble_eq_true rfl) (Nat.le_of_ble_eq_true rfl) dX12_isWord_25
  · skip
    have hY := hY.trans (if_pos c_18)
    have o_19 : rl 0 h0_kind 2 := rl_eq c_18
    have h_20 : rg 0 2 h0_kind := rl_x o_19 i_h0_kind (⟨by decide, by decide⟩ : rg 2 2 (2 : Int32)) (by decide) (by decide)
    have o_21 : rl 0 2 h0_kind := rl_eq c_18.symm
    have h_22 : rg 2 2 h0_kind := rl_y o_21 (⟨by decide, by decide⟩ : rg 2 2 (2 : Int32)) h_20 (by decide) (by decide)
    refine lv_aload_n hx hb dX12_isWord_8 rfl (lv_at hl 0 rfl) ?_
    refine va_get (D := D) (ci := 11) (v := .long h0_word) (C := RX12) (T := TX12) (N := 48) hx hb hts k2 hown hK.1 hP 0 rfl rfl 12 (by decide) k3 (fun _ h9 => h9) rfl dX12_isWord_9 ?_
    refine lv_iload_n hx hb dX12_isWord_12 rfl (lv_at hl 1 rfl) ?_
    refine oC_l (Wc := []) (Wr := [(h0, .inr (11, [.int h0_thrown, .ref h0_tape, .int h0_taped, .int h0_size, .int h0_limit, .int h0_to, .int h0_from, .int h0_kind, .int h0_number, .int h0_sign, .int h0_fault, .int h0_place, .long h0_word, .int h0_told, .ref h0_now, .ref h0_read, .ref h0_kept, .ref h0_snaps, .ref h0_aside, .ref h0_name, .ref h0_readName, .ref h0_keptName, .ref h0_isKept, .ref h0_onces, .int h0_snapMany, .int h0_lowest, .int h0_highest, .int h0_agreed, .int h0_jurors, .int h0_panelled, .ref h0_inSets, .int h0_surely, .int h0_asked, .ref h0_frees, .int h0_struck, .int h0_beating, .ref h0_text, .int h0_texts, .int h0_seed, .ref h0_line, .ref h0_written, .int h0_lineMany, .int h0_hasWritten, .ref h0_node, .int h0_nodes, .int h0_onesMany, .int h0_within, .int h0_top]))]) (va_runS (As := [.int 20]) (rest := [.long h0_word]) ⟨hx, hb, hml, hown, hts⟩ (e_X12_wordOf_20 l D ca H.size ) (va_cwS 1 hts gX12_isWord_X12_wordOf rfl rfl rfl (by decide +kernel) ⟨Nat.le_of_ble_eq_true rfl, Nat.le_of_ble_eq_true rfl⟩) (oPS hK hP hD [] rfl (by decide)) rfl rfl hl.1 rfl (lv_room (Nat.le_of_ble_eq_true rfl)) dX12_isWord_13 ⟨Nat.le_of_ble_eq_true rfl, Nat.le_of_ble_eq_true rfl⟩) hP hD hS hA [] [0] rfl rfl (by decide) (by decide) (fun r_23 u H locs w_24 hP hD hS => ?_)
    obtain ⟨⟩ := u
    have hP : va_P D vwCl [(h0, .inr (11, [.int h0_thrown, .ref h0_tape, .int h0_taped, .int h0_size, .int h0_limit, .int h0_to, .int h0_from, .int h0_kind, .int h0_number, .int h0_sign, .int h0_fault, .int h0_place, .long h0_word, .int h0_told, .ref h0_now, .ref h0_read, .ref h0_kept, .ref h0_snaps, .ref h0_aside, .ref h0_name, .ref h0_readName, .ref h0_keptName, .ref h0_isKept, .ref h0_onces, .int h0_snapMany, .int h0_lowest, .int h0_highest, .int h0_agreed, .int h0_jurors, .int h0_panelled, .ref h0_inSets, .int h0_surely, .int h0_asked, .ref h0_frees, .int h0_struck, .int h0_beating, .ref h0_text, .int h0_texts, .int h0_seed, .ref h0_line, .ref h0_written, .int h0_lineMany, .int h0_hasWritten, .ref h0_node, .int h0_nodes, .int h0_onesMany, .int h0_within, .int h0_top]))] H := hP
    have hD : va_D A [(h0, .inr (11, [.int h0_thrown, .ref h0_tape, .int h0_taped, .int h0_size, .int h0_limit, .int h0_to, .int h0_from, .int h0_kind, .int h0_number, .int h0_sign, .int h0_fault, .int h0_place, .long h0_word, .int h0_told, .ref h0_now, .ref h0_read, .ref h0_kept, .ref h0_snaps, .ref h0_aside, .ref h0_name, .ref h0_readName, .ref h0_keptName, .ref h0_isKept, .ref h0_onces, .int h0_snapMany, .int h0_lowest, .int h0_highest, .int h0_agreed, .int h0_jurors, .int h0_panelled, .ref h0_inSets, .int h0_surely, .int h0_asked, .ref h0_frees, .int h0_struck, .int h0_beating, .ref h0_text, .int h0_texts, .int h0_seed, .ref h0_line, .ref h0_written, .int h0_lineMany, .int h0_hasWritten, .ref h0_node, .int h0_nodes, .int h0_onesMany, .int h0_within, .int h0_top]))] := hD
    try dsimp only at w_24
    obtain ⟨h_25, h_26⟩ := w_24
    subst h_25
    have hY := hY.trans (lt1_e h_26)
    refine W.lcmp hx hb dX12_isWord_16 ?_
    refine lv_topi (fun x_27 ex_27 => ?_)
    have hY := hY.trans (lt1_e ex_27)
    refine lv_if_ne (tgt := 24) hx hb dX12_isWord_17 (by decide) (fun c_28 => ?_) (fun c_28 => ?_)
    · skip
      have hY := hY.trans (if_neg c_28)
      have h_29 : ¬ (h0_word : Int64) = 60343114 := cmp_nn ex_27 c_28
      refine lv_iconst (v := 0) hx hb dX12_isWord_24 (by decide) ?_
      exact oE_i hx hb hr (by decide) hlocks hP hD hS () [0] rfl (by decide) (Or.inl ⟨rfl, hY.symm⟩) (Nat.le_of_ble_eq_true rfl) (Nat.le_of_ble_eq_true rfl) dX12_isWord_25
    · skip
      have hY := hY.trans (if_pos c_28)
      have o_30 : rl 0 x_27 0 := rl_eq c_28
      have h_31 : rg (-2147483648) 0 x_27 := rl_x o_30 (rga x_27) (⟨by decide, by decide⟩ : rg 0 0 (0 : Int32)) (by decide) (by decide)
      have o_32 : rl 0 0 x_27 := rl_eq c_28.symm
      have h_33 : rg 0 0 x_27 := rl_y o_32 (⟨by decide, by decide⟩ : rg 0 0 (0 : Int32)) h_31 (by decide) (by decide)
      have h_34 : (h0_word : Int64) = 60343114 := cmp_eq ex_27 c_28
      refine lv_iconst (v := 1) hx hb dX12_isWord_20 (by decide) ?_
      refine lv_goto (tgt := 25) hx hb dX12_isWord_21 (by decide) ?_
      exact oE_i hx hb hr (by decide) hlocks hP hD hS () [0] rfl (by decide) (Or.inr (⟨rfl, h_22, hY.symm⟩)) (Nat.le_of_ble_eq_true rfl) (Nat.le_of_ble_eq_true rfl) dX12_isWord_25
set_option maxHeartbeats 4000000 in
set_option maxRecDepth 100000 in
theorem e_X12_isWord_21 (l : Launch) (D : va_G) (ca : Nat → ClassId) (sz : Nat) (h0 : Nat) (h0_thrown : Int32) (h0_tape : Nat) (h0_taped : Int32) (h0_size : Int32) (h0_limit : Int32) (h0_to : Int32) (h0_from : Int32) (h0_kind : Int32) (h0_number : Int32) (h0_sign : Int32) (h0_fault : Int32) (h0_place : Int32) (h0_word : Int64) (h0_told : Int32) (h0_now : Nat) (h0_read : Nat) (h0_kept : Nat) (h0_snaps : Nat) (h0_aside : Nat) (h0_name : Nat) (h0_readName : Nat) (h0_keptName : Nat) (h0_isKept : Nat) (h0_onces : Nat) (h0_snapMany : Int32) (h0_lowest : Int32) (h0_highest : Int32) (h0_agreed : Int32) (h0_jurors : Int32) (h0_panelled : Int32) (h0_inSets : Nat) (h0_surely : Int32) (h0_asked : Int32) (h0_frees : Nat) (h0_struck : Int32) (h0_beating : Int32) (h0_text : Nat) (h0_texts : Int32) (h0_seed : Int32) (h0_line : Nat) (h0_written : Nat) (h0_lineMany : Int32) (h0_hasWritten : Int32) (h0_node : Nat) (h0_nodes : Int32) (h0_onesMany : Int32) (h0_within : Int32) (h0_top : Int32) (i_h0_taped : rg 0 940 h0_taped) (i_h0_size : rg 0 940 h0_size) (i_h0_to : rg 0 940 h0_to) (i_h0_kind : rg 0 4 h0_kind) (i_h0_snapMany : rg 0 8 h0_snapMany) (i_h0_texts : rg 0 64 h0_texts) (i_h0_lineMany : rg 0 40 h0_lineMany) (i_h0_hasWritten : rg 0 1 h0_hasWritten) (i_h0_nodes : rg 0 60 h0_nodes) (i_h0_onesMany : rg 0 20 h0_onesMany) : oMet l yX12_isWord wsX12_isWord ({ frames := 2, cells := 0, slots := 0, locals := 48 } : Room) [.ref h0, .int 21] D ca sz [(h0, .inr (11, [.int h0_thrown, .ref h0_tape, .int h0_taped, .int h0_size, .int h0_limit, .int h0_to, .int h0_from, .int h0_kind, .int h0_number, .int h0_sign, .int h0_fault, .int h0_place, .long h0_word, .int h0_told, .ref h0_now, .ref h0_read, .ref h0_kept, .ref h0_snaps, .ref h0_aside, .ref h0_name, .ref h0_readName, .ref h0_keptName, .ref h0_isKept, .ref h0_onces, .int h0_snapMany, .int h0_lowest, .int h0_highest, .int h0_agreed, .int h0_jurors, .int h0_panelled, .ref h0_inSets, .int h0_surely, .int h0_asked, .ref h0_frees, .int h0_struck, .int h0_beating, .ref h0_text, .int h0_texts, .int h0_seed, .ref h0_line, .ref h0_written, .int h0_lineMany, .int h0_hasWritten, .ref h0_node, .int h0_nodes, .int h0_onesMany, .int h0_within, .int h0_top]))] (oQi D (fun (r : Int32) (u : Unit) => ((r = 0) ∧ (r = y_X12_isWord_21 h0_kind h0_word)) ∨ ((r = 1) ∧ (rg 2 2 h0_kind) ∧ (r = y_X12_isWord_21 h0_kind h0_word))) (fun (u : Unit) => [(h0, .inr (11, [.int h0_thrown, .ref h0_tape, .int h0_taped, .int h0_size, .int h0_limit, .int h0_to, .int h0_from, .int h0_kind, .int h0_number, .int h0_sign, .int h0_fault, .int h0_place, .long h0_word, .int h0_told, .ref h0_now, .ref h0_read, .ref h0_kept, .ref h0_snaps, .ref h0_aside, .ref h0_name, .ref h0_readName, .ref h0_keptName, .ref h0_isKept, .ref h0_onces, .int h0_snapMany, .int h0_lowest, .int h0_highest, .int h0_agreed, .int h0_jurors, .int h0_panelled, .ref h0_inSets, .int h0_surely, .int h0_asked, .ref h0_frees, .int h0_struck, .int h0_beating, .ref h0_text, .int h0_texts, .int h0_seed, .ref h0_line, .ref h0_written, .int h0_lineMany, .int h0_hasWritten, .ref h0_node, .int h0_nodes, .int h0_onesMany, .int h0_within, .int h0_top]))])) 0 0 := by
  refine oM (cc := cX12_isWord) (maxL := 2) (ret := (some .boolean)) (by decide) rfl (Nat.le_of_ble_eq_true rfl) [(0, .ref h0), (1, .int 21)] rfl ?_
  intro p e s m below meth c A H locs ls hx hb hr hml hts hown hlocks hin hK hP hD hA hS hl
  have hown : s.vm.findClass RX12 = some m.cls := hown
  have hY := y_X12_isWord_21_s h0_kind h0_word
  have k1 := hts (.fieldLink RX12 30 "LidCourtModel" "kind" "I") (by decide +kernel)
  have k2 : ∀ w ∈ wsX120, w ∈ wsX12_isWord := fun _ h => List.mem_cons_of_mem _ (List.mem_append_right _ h)
  have k3 := hts (.fieldLink RX12 43 "LidCourtModel" "word" "J") (by decide +kernel)
  refine lv_aload_n hx hb dX12_isWord_0 rfl (lv_at hl 0 rfl) ?_
  refine va_get (D := D) (ci := 11) (v := .int h0_kind) (C := RX12) (T := TX12) (N := 48) hx hb hts k2 hown hK.1 hP 0 rfl rfl 7 (by decide) k1 (fun _ h9 => h9) rfl dX12_isWord_1 ?_
  refine lv_iconst (v := 2) hx hb dX12_isWord_4 (by decide) ?_
  refine lv_icmp_ne (tgt := 24) hx hb dX12_isWord_5 (by decide) (fun c_18 => ?_) (fun c_18 => ?_)
  · skip
    have hY := hY.trans (if_neg c_18)
    refine lv_iconst (v := 0) hx hb dX12_isWord_24 (by decide) ?_
    exact oE_i hx hb hr (by decide) hlocks hP hD hS () [0] rfl (by decide) (Or.inl ⟨rfl, hY.symm⟩) (Nat.le_of_ble_eq_true rfl) (Nat.le_of_ble_eq_true rfl) dX12_isWord_25
  · skip
    have hY := hY.trans (if_pos c_18)
    have o_19 : rl 0 h0_kind 2 := rl_eq c_18
    have h_20 : rg 0 2 h0_kind := rl_x o_19 i_h0_kind (⟨by decide, by decide⟩ : rg 2 2 (2 : Int32)) (by decide) (by decide)
    have o_21 : rl 0 2 h0_kind := rl_eq c_18.symm
    have h_22 : rg 2 2 h0_kind := rl_y o_21 (⟨by decide, by decide⟩ : rg 2 2 (2 : Int32)) h_20 (by decide) (by decide)
    refine lv_aload_n hx hb dX12_isWord_8 rfl (lv_at hl 0 rfl) ?_
    refine va_get (D := D) (ci := 11) (v := .long h0_word) (C := RX12) (T := TX12) (N := 48) hx hb hts k2 hown hK.1 hP 0 rfl rfl 12 (by decide) k3 (fun _ h9 => h9) rfl dX12_isWord_9 ?_
    refine lv_iload_n hx hb dX12_isWord_12 rfl (lv_at hl 1 rfl) ?_
    refine oC_l (Wc := []) (Wr := [(h0, .inr (11, [.int h0_thrown, .ref h0_tape, .int h0_taped, .int h0_size, .int h0_limit, .int h0_to, .int h0_from, .int h0_kind, .int h0_number, .int h0_sign, .int h0_fault, .int h0_place, .long h0_word, .int h0_told, .ref h0_now, .ref h0_read, .ref h0_kept, .ref h0_snaps, .ref h0_aside, .ref h0_name, .ref h0_readName, .ref h0_keptName, .ref h0_isKept, .ref h0_onces, .int h0_snapMany, .int h0_lowest, .int h0_highest, .int h0_agreed, .int h0_jurors, .int h0_panelled, .ref h0_inSets, .int h0_surely, .int h0_asked, .ref h0_frees, .int h0_struck, .int h0_beating, .ref h0_text, .int h0_texts, .int h0_seed, .ref h0_line, .ref h0_written, .int h0_lineMany, .int h0_hasWritten, .ref h0_node, .int h0_nodes, .int h0_onesMany, .int h0_within, .int h0_top]))]) (va_runS (As := [.int 21]) (rest := [.long h0_word]) ⟨hx, hb, hml, hown, hts⟩ (e_X12_wordOf_21 l D ca H.size ) (va_cwS 1 hts gX12_isWord_X12_wordOf rfl rfl rfl (by decide +kernel) ⟨Nat.le_of_ble_eq_true rfl, Nat.le_of_ble_eq_true rfl⟩) (oPS hK hP hD [] rfl (by decide)) rfl rfl hl.1 rfl (lv_room (Nat.le_of_ble_eq_true rfl)) dX12_isWord_13 ⟨Nat.le_of_ble_eq_true rfl, Nat.le_of_ble_eq_true rfl⟩) hP hD hS hA [] [0] rfl rfl (by decide) (by decide) (fun r_23 u H locs w_24 hP hD hS => ?_)
    obtain ⟨⟩ := u
    have hP : va_P D vwCl [(h0, .inr (11, [.int h0_thrown, .ref h0_tape, .int h0_taped, .int h0_size, .int h0_limit, .int h0_to, .int h0_from, .int h0_kind, .int h0_number, .int h0_sign, .int h0_fault, .int h0_place, .long h0_word, .int h0_told, .ref h0_now, .ref h0_read, .ref h0_kept, .ref h0_snaps, .ref h0_aside, .ref h0_name, .ref h0_readName, .ref h0_keptName, .ref h0_isKept, .ref h0_onces, .int h0_snapMany, .int h0_lowest, .int h0_highest, .int h0_agreed, .int h0_jurors, .int h0_panelled, .ref h0_inSets, .int h0_surely, .int h0_asked, .ref h0_frees, .int h0_struck, .int h0_beating, .ref h0_text, .int h0_texts, .int h0_seed, .ref h0_line, .ref h0_written, .int h0_lineMany, .int h0_hasWritten, .ref h0_node, .int h0_nodes, .int h0_onesMany, .int h0_within, .int h0_top]))] H := hP
    have hD : va_D A [(h0, .inr (11, [.int h0_thrown, .ref h0_tape, .int h0_taped, .int h0_size, .int h0_limit, .int h0_to, .int h0_from, .int h0_kind, .int h0_number, .int h0_sign, .int h0_fault, .int h0_place, .long h0_word, .int h0_told, .ref h0_now, .ref h0_read, .ref h0_kept, .ref h0_snaps, .ref h0_aside, .ref h0_name, .ref h0_readName, .ref h0_keptName, .ref h0_isKept, .ref h0_onces, .int h0_snapMany, .int h0_lowest, .int h0_highest, .int h0_agreed, .int h0_jurors, .int h0_panelled, .ref h0_inSets, .int h0_surely, .int h0_asked, .ref h0_frees, .int h0_struck, .int h0_beating, .ref h0_text, .int h0_texts, .int h0_seed, .ref h0_line, .ref h0_written, .int h0_lineMany, .int h0_hasWritten, .ref h0_node, .int h0_nodes, .int h0_onesMany, .int h0_within, .int h0_top]))] := hD
    try dsimp only at w_24
    obtain ⟨h_25, h_26⟩ := w_24
    subst h_25
    have hY := hY.trans (lt1_e h_26)
    refine W.lcmp hx hb dX12_isWord_16 ?_
    refine lv_topi (fun x_27 ex_27 => ?_)
    have hY := hY.trans (lt1_e ex_27)
    refine lv_if_ne (tgt := 24) hx hb dX12_isWord_17 (by decide) (fun c_28 => ?_) (fun c_28 => ?_)
    · skip
      have hY := hY.trans (if_neg c_28)
      have h_29 : ¬ (h0_word : Int64) = 9753499 := cmp_nn ex_27 c_28
      refine lv_iconst (v := 0) hx hb dX12_isWord_24 (by decide) ?_
      exact oE_i hx hb hr (by decide) hlocks hP hD hS () [0] rfl (by decide) (Or.inl ⟨rfl, hY.symm⟩) (Nat.le_of_ble_eq_true rfl) (Nat.le_of_ble_eq_true rfl) dX12_isWord_25
    · skip
      have hY := hY.trans (if_pos c_28)
      have o_30 : rl 0 x_27 0 := rl_eq c_28
      have h_31 : rg (-2147483648) 0 x_27 := rl_x o_30 (rga x_27) (⟨by decide, by decide⟩ : rg 0 0 (0 : Int32)) (by decide) (by decide)
      have o_32 : rl 0 0 x_27 := rl_eq c_28.symm
      have h_33 : rg 0 0 x_27 := rl_y o_32 (⟨by decide, by decide⟩ : rg 0 0 (0 : Int32)) h_31 (by decide) (by decide)
      have h_34 : (h0_word : Int64) = 9753499 := cmp_eq ex_27 c_28
      refine lv_iconst (v := 1) hx hb dX12_isWord_20 (by decide) ?_
      refine lv_goto (tgt := 25) hx hb dX12_isWord_21 (by decide) ?_
      exact oE_i hx hb hr (by decide) hlocks hP hD hS () [0] rfl (by decide) (Or.inr (⟨rfl, h_22, hY.symm⟩)) (Nat.le_of_ble_eq_true rfl) (Nat.le_of_ble_eq_true rfl) dX12_isWord_25
set_option maxHeartbeats 4000000 in
set_option maxRecDepth 100000 in
theorem e_X12_isWord_22 (l : Launch) (D : va_G) (ca : Nat → ClassId) (sz : Nat) (h0 : Nat) (h0_thrown : Int32) (h0_tape : Nat) (h0_taped : Int32) (h0_size : Int32) (h0_limit : Int32) (h0_to : Int32) (h0_from : Int32) (h0_kind : Int32) (h0_number : Int32) (h0_sign : Int32) (h0_fault : Int32) (h0_place : Int32) (h0_word : Int64) (h0_told : Int32) (h0_now : Nat) (h0_read : Nat) (h0_kept : Nat) (h0_snaps : Nat) (h0_aside : Nat) (h0_name : Nat) (h0_readName : Nat) (h0_keptName : Nat) (h0_isKept : Nat) (h0_onces : Nat) (h0_snapMany : Int32) (h0_lowest : Int32) (h0_highest : Int32) (h0_agreed : Int32) (h0_jurors : Int32) (h0_panelled : Int32) (h0_inSets : Nat) (h0_surely : Int32) (h0_asked : Int32) (h0_frees : Nat) (h0_struck : Int32) (h0_beating : Int32) (h0_text : Nat) (h0_texts : Int32) (h0_seed : Int32) (h0_line : Nat) (h0_written : Nat) (h0_lineMany : Int32) (h0_hasWritten : Int32) (h0_node : Nat) (h0_nodes : Int32) (h0_onesMany : Int32) (h0_within : Int32) (h0_top : Int32) (i_h0_taped : rg 0 940 h0_taped) (i_h0_size : rg 0 940 h0_size) (i_h0_to : rg 0 940 h0_to) (i_h0_kind : rg 0 4 h0_kind) (i_h0_snapMany : rg 0 8 h0_snapMany) (i_h0_texts : rg 0 64 h0_texts) (i_h0_lineMany : rg 0 40 h0_lineMany) (i_h0_hasWritten : rg 0 1 h0_hasWritten) (i_h0_nodes : rg 0 60 h0_nodes) (i_h0_onesMany : rg 0 20 h0_onesMany) : oMet l yX12_isWord wsX12_isWord ({ frames := 2, cells := 0, slots := 0, locals := 48 } : Room) [.ref h0, .int 22] D ca sz [(h0, .inr (11, [.int h0_thrown, .ref h0_tape, .int h0_taped, .int h0_size, .int h0_limit, .int h0_to, .int h0_from, .int h0_kind, .int h0_number, .int h0_sign, .int h0_fault, .int h0_place, .long h0_word, .int h0_told, .ref h0_now, .ref h0_read, .ref h0_kept, .ref h0_snaps, .ref h0_aside, .ref h0_name, .ref h0_readName, .ref h0_keptName, .ref h0_isKept, .ref h0_onces, .int h0_snapMany, .int h0_lowest, .int h0_highest, .int h0_agreed, .int h0_jurors, .int h0_panelled, .ref h0_inSets, .int h0_surely, .int h0_asked, .ref h0_frees, .int h0_struck, .int h0_beating, .ref h0_text, .int h0_texts, .int h0_seed, .ref h0_line, .ref h0_written, .int h0_lineMany, .int h0_hasWritten, .ref h0_node, .int h0_nodes, .int h0_onesMany, .int h0_within, .int h0_top]))] (oQi D (fun (r : Int32) (u : Unit) => ((r = 0) ∧ (r = y_X12_isWord_22 h0_kind h0_word)) ∨ ((r = 1) ∧ (rg 2 2 h0_kind) ∧ (r = y_X12_isWord_22 h0_kind h0_word))) (fun (u : Unit) => [(h0, .inr (11, [.int h0_thrown, .ref h0_tape, .int h0_taped, .int h0_size, .int h0_limit, .int h0_to, .int h0_from, .int h0_kind, .int h0_number, .int h0_sign, .int h0_fault, .int h0_place, .long h0_word, .int h0_told, .ref h0_now, .ref h0_read, .ref h0_kept, .ref h0_snaps, .ref h0_aside, .ref h0_name, .ref h0_readName, .ref h0_keptName, .ref h0_isKept, .ref h0_onces, .int h0_snapMany, .int h0_lowest, .int h0_highest, .int h0_agreed, .int h0_jurors, .int h0_panelled, .ref h0_inSets, .int h0_surely, .int h0_asked, .ref h0_frees, .int h0_struck, .int h0_beating, .ref h0_text, .int h0_texts, .int h0_seed, .ref h0_line, .ref h0_written, .int h0_lineMany, .int h0_hasWritten, .ref h0_node, .int h0_nodes, .int h0_onesMany, .int h0_within, .int h0_top]))])) 0 0 := by
  refine oM (cc := cX12_isWord) (maxL := 2) (ret := (some .boolean)) (by decide) rfl (Nat.le_of_ble_eq_true rfl) [(0, .ref h0), (1, .int 22)] rfl ?_
  intro p e s m below meth c A H locs ls hx hb hr hml hts hown hlocks hin hK hP hD hA hS hl
  have hown : s.vm.findClass RX12 = some m.cls := hown
  have hY := y_X12_isWord_22_s h0_kind h0_word
  have k1 := hts (.fieldLink RX12 30 "LidCourtModel" "kind" "I") (by decide +kernel)
  have k2 : ∀ w ∈ wsX120, w ∈ wsX12_isWord := fun _ h => List.mem_cons_of_mem _ (List.mem_append_right _ h)
  have k3 := hts (.fieldLink RX12 43 "LidCourtModel" "word" "J") (by decide +kernel)
  refine lv_aload_n hx hb dX12_isWord_0 rfl (lv_at hl 0 rfl) ?_
  refine va_get (D := D) (ci := 11) (v := .int h0_kind) (C := RX12) (T := TX12) (N := 48) hx hb hts k2 hown hK.1 hP 0 rfl rfl 7 (by decide) k1 (fun _ h9 => h9) rfl dX12_isWord_1 ?_
  refine lv_iconst (v := 2) hx hb dX12_isWord_4 (by decide) ?_
  refine lv_icmp_ne (tgt := 24) hx hb dX12_isWord_5 (by decide) (fun c_18 => ?_) (fun c_18 => ?_)
  · skip
    have hY := hY.trans (if_neg c_18)
    refine lv_iconst (v := 0) hx hb dX12_isWord_24 (by decide) ?_
    exact oE_i hx hb hr (by decide) hlocks hP hD hS () [0] rfl (by decide) (Or.inl ⟨rfl, hY.symm⟩) (Nat.le_of_ble_eq_true rfl) (Nat.le_of_ble_eq_true rfl) dX12_isWord_25
  · skip
    have hY := hY.trans (if_pos c_18)
    have o_19 : rl 0 h0_kind 2 := rl_eq c_18
    have h_20 : rg 0 2 h0_kind := rl_x o_19 i_h0_kind (⟨by decide, by decide⟩ : rg 2 2 (2 : Int32)) (by decide) (by decide)
    have o_21 : rl 0 2 h0_kind := rl_eq c_18.symm
    have h_22 : rg 2 2 h0_kind := rl_y o_21 (⟨by decide, by decide⟩ : rg 2 2 (2 : Int32)) h_20 (by decide) (by decide)
    refine lv_aload_n hx hb dX12_isWord_8 rfl (lv_at hl 0 rfl) ?_
    refine va_get (D := D) (ci := 11) (v := .long h0_word) (C := RX12) (T := TX12) (N := 48) hx hb hts k2 hown hK.1 hP 0 rfl rfl 12 (by decide) k3 (fun _ h9 => h9) rfl dX12_isWord_9 ?_
    refine lv_iload_n hx hb dX12_isWord_12 rfl (lv_at hl 1 rfl) ?_
    refine oC_l (Wc := []) (Wr := [(h0, .inr (11, [.int h0_thrown, .ref h0_tape, .int h0_taped, .int h0_size, .int h0_limit, .int h0_to, .int h0_from, .int h0_kind, .int h0_number, .int h0_sign, .int h0_fault, .int h0_place, .long h0_word, .int h0_told, .ref h0_now, .ref h0_read, .ref h0_kept, .ref h0_snaps, .ref h0_aside, .ref h0_name, .ref h0_readName, .ref h0_keptName, .ref h0_isKept, .ref h0_onces, .int h0_snapMany, .int h0_lowest, .int h0_highest, .int h0_agreed, .int h0_jurors, .int h0_panelled, .ref h0_inSets, .int h0_surely, .int h0_asked, .ref h0_frees, .int h0_struck, .int h0_beating, .ref h0_text, .int h0_texts, .int h0_seed, .ref h0_line, .ref h0_written, .int h0_lineMany, .int h0_hasWritten, .ref h0_node, .int h0_nodes, .int h0_onesMany, .int h0_within, .int h0_top]))]) (va_runS (As := [.int 22]) (rest := [.long h0_word]) ⟨hx, hb, hml, hown, hts⟩ (e_X12_wordOf_22 l D ca H.size ) (va_cwS 1 hts gX12_isWord_X12_wordOf rfl rfl rfl (by decide +kernel) ⟨Nat.le_of_ble_eq_true rfl, Nat.le_of_ble_eq_true rfl⟩) (oPS hK hP hD [] rfl (by decide)) rfl rfl hl.1 rfl (lv_room (Nat.le_of_ble_eq_true rfl)) dX12_isWord_13 ⟨Nat.le_of_ble_eq_true rfl, Nat.le_of_ble_eq_true rfl⟩) hP hD hS hA [] [0] rfl rfl (by decide) (by decide) (fun r_23 u H locs w_24 hP hD hS => ?_)
    obtain ⟨⟩ := u
    have hP : va_P D vwCl [(h0, .inr (11, [.int h0_thrown, .ref h0_tape, .int h0_taped, .int h0_size, .int h0_limit, .int h0_to, .int h0_from, .int h0_kind, .int h0_number, .int h0_sign, .int h0_fault, .int h0_place, .long h0_word, .int h0_told, .ref h0_now, .ref h0_read, .ref h0_kept, .ref h0_snaps, .ref h0_aside, .ref h0_name, .ref h0_readName, .ref h0_keptName, .ref h0_isKept, .ref h0_onces, .int h0_snapMany, .int h0_lowest, .int h0_highest, .int h0_agreed, .int h0_jurors, .int h0_panelled, .ref h0_inSets, .int h0_surely, .int h0_asked, .ref h0_frees, .int h0_struck, .int h0_beating, .ref h0_text, .int h0_texts, .int h0_seed, .ref h0_line, .ref h0_written, .int h0_lineMany, .int h0_hasWritten, .ref h0_node, .int h0_nodes, .int h0_onesMany, .int h0_within, .int h0_top]))] H := hP
    have hD : va_D A [(h0, .inr (11, [.int h0_thrown, .ref h0_tape, .int h0_taped, .int h0_size, .int h0_limit, .int h0_to, .int h0_from, .int h0_kind, .int h0_number, .int h0_sign, .int h0_fault, .int h0_place, .long h0_word, .int h0_told, .ref h0_now, .ref h0_read, .ref h0_kept, .ref h0_snaps, .ref h0_aside, .ref h0_name, .ref h0_readName, .ref h0_keptName, .ref h0_isKept, .ref h0_onces, .int h0_snapMany, .int h0_lowest, .int h0_highest, .int h0_agreed, .int h0_jurors, .int h0_panelled, .ref h0_inSets, .int h0_surely, .int h0_asked, .ref h0_frees, .int h0_struck, .int h0_beating, .ref h0_text, .int h0_texts, .int h0_seed, .ref h0_line, .ref h0_written, .int h0_lineMany, .int h0_hasWritten, .ref h0_node, .int h0_nodes, .int h0_onesMany, .int h0_within, .int h0_top]))] := hD
    try dsimp only at w_24
    obtain ⟨h_25, h_26⟩ := w_24
    subst h_25
    have hY := hY.trans (lt1_e h_26)
    refine W.lcmp hx hb dX12_isWord_16 ?_
    refine lv_topi (fun x_27 ex_27 => ?_)
    have hY := hY.trans (lt1_e ex_27)
    refine lv_if_ne (tgt := 24) hx hb dX12_isWord_17 (by decide) (fun c_28 => ?_) (fun c_28 => ?_)
    · skip
      have hY := hY.trans (if_neg c_28)
      have h_29 : ¬ (h0_word : Int64) = 8694872 := cmp_nn ex_27 c_28
      refine lv_iconst (v := 0) hx hb dX12_isWord_24 (by decide) ?_
      exact oE_i hx hb hr (by decide) hlocks hP hD hS () [0] rfl (by decide) (Or.inl ⟨rfl, hY.symm⟩) (Nat.le_of_ble_eq_true rfl) (Nat.le_of_ble_eq_true rfl) dX12_isWord_25
    · skip
      have hY := hY.trans (if_pos c_28)
      have o_30 : rl 0 x_27 0 := rl_eq c_28
      have h_31 : rg (-2147483648) 0 x_27 := rl_x o_30 (rga x_27) (⟨by decide, by decide⟩ : rg 0 0 (0 : Int32)) (by decide) (by decide)
      have o_32 : rl 0 0 x_27 := rl_eq c_28.symm
      have h_33 : rg 0 0 x_27 := rl_y o_32 (⟨by decide, by decide⟩ : rg 0 0 (0 : Int32)) h_31 (by decide) (by decide)
      have h_34 : (h0_word : Int64) = 8694872 := cmp_eq ex_27 c_28
      refine lv_iconst (v := 1) hx hb dX12_isWord_20 (by decide) ?_
      refine lv_goto (tgt := 25) hx hb dX12_isWord_21 (by decide) ?_
      exact oE_i hx hb hr (by decide) hlocks hP hD hS () [0] rfl (by decide) (Or.inr (⟨rfl, h_22, hY.symm⟩)) (Nat.le_of_ble_eq_true rfl) (Nat.le_of_ble_eq_true rfl) dX12_isWord_25
set_option maxHeartbeats 4000000 in
set_option maxRecDepth 100000 in
theorem e_X12_isWord_23 (l : Launch) (D : va_G) (ca : Nat → ClassId) (sz : Nat) (h0 : Nat) (h0_thrown : Int32) (h0_tape : Nat) (h0_taped : Int32) (h0_size : Int32) (h0_limit : Int32) (h0_to : Int32) (h0_from : Int32) (h0_kind : Int32) (h0_number : Int32) (h0_sign : Int32) (h0_fault : Int32) (h0_place : Int32) (h0_word : Int64) (h0_told : Int32) (h0_now : Nat) (h0_read : Nat) (h0_kept : Nat) (h0_snaps : Nat) (h0_aside : Nat) (h0_name : Nat) (h0_readName : Nat) (h0_keptName : Nat) (h0_isKept : Nat) (h0_onces : Nat) (h0_snapMany : Int32) (h0_lowest : Int32) (h0_highest : Int32) (h0_agreed : Int32) (h0_jurors : Int32) (h0_panelled : Int32) (h0_inSets : Nat) (h0_surely : Int32) (h0_asked : Int32) (h0_frees : Nat) (h0_struck : Int32) (h0_beating : Int32) (h0_text : Nat) (h0_texts : Int32) (h0_seed : Int32) (h0_line : Nat) (h0_written : Nat) (h0_lineMany : Int32) (h0_hasWritten : Int32) (h0_node : Nat) (h0_nodes : Int32) (h0_onesMany : Int32) (h0_within : Int32) (h0_top : Int32) (i_h0_taped : rg 0 940 h0_taped) (i_h0_size : rg 0 940 h0_size) (i_h0_to : rg 0 940 h0_to) (i_h0_kind : rg 0 4 h0_kind) (i_h0_snapMany : rg 0 8 h0_snapMany) (i_h0_texts : rg 0 64 h0_texts) (i_h0_lineMany : rg 0 40 h0_lineMany) (i_h0_hasWritten : rg 0 1 h0_hasWritten) (i_h0_nodes : rg 0 60 h0_nodes) (i_h0_onesMany : rg 0 20 h0_onesMany) : oMet l yX12_isWord wsX12_isWord ({ frames := 2, cells := 0, slots := 0, locals := 48 } : Room) [.ref h0, .int 23] D ca sz [(h0, .inr (11, [.int h0_thrown, .ref h0_tape, .int h0_taped, .int h0_size, .int h0_limit, .int h0_to, .int h0_from, .int h0_kind, .int h0_number, .int h0_sign, .int h0_fault, .int h0_place, .long h0_word, .int h0_told, .ref h0_now, .ref h0_read, .ref h0_kept, .ref h0_snaps, .ref h0_aside, .ref h0_name, .ref h0_readName, .ref h0_keptName, .ref h0_isKept, .ref h0_onces, .int h0_snapMany, .int h0_lowest, .int h0_highest, .int h0_agreed, .int h0_jurors, .int h0_panelled, .ref h0_inSets, .int h0_surely, .int h0_asked, .ref h0_frees, .int h0_struck, .int h0_beating, .ref h0_text, .int h0_texts, .int h0_seed, .ref h0_line, .ref h0_written, .int h0_lineMany, .int h0_hasWritten, .ref h0_node, .int h0_nodes, .int h0_onesMany, .int h0_within, .int h0_top]))] (oQi D (fun (r : Int32) (u : Unit) => ((r = 0) ∧ (r = y_X12_isWord_23 h0_kind h0_word)) ∨ ((r = 1) ∧ (rg 2 2 h0_kind) ∧ (r = y_X12_isWord_23 h0_kind h0_word))) (fun (u : Unit) => [(h0, .inr (11, [.int h0_thrown, .ref h0_tape, .int h0_taped, .int h0_size, .int h0_limit, .int h0_to, .int h0_from, .int h0_kind, .int h0_number, .int h0_sign, .int h0_fault, .int h0_place, .long h0_word, .int h0_told, .ref h0_now, .ref h0_read, .ref h0_kept, .ref h0_snaps, .ref h0_aside, .ref h0_name, .ref h0_readName, .ref h0_keptName, .ref h0_isKept, .ref h0_onces, .int h0_snapMany, .int h0_lowest, .int h0_highest, .int h0_agreed, .int h0_jurors, .int h0_panelled, .ref h0_inSets, .int h0_surely, .int h0_asked, .ref h0_frees, .int h0_struck, .int h0_beating, .ref h0_text, .int h0_texts, .int h0_seed, .ref h0_line, .ref h0_written, .int h0_lineMany, .int h0_hasWritten, .ref h0_node, .int h0_nodes, .int h0_onesMany, .int h0_within, .int h0_top]))])) 0 0 := by
  refine oM (cc := cX12_isWord) (maxL := 2) (ret := (some .boolean)) (by decide) rfl (Nat.le_of_ble_eq_true rfl) [(0, .ref h0), (1, .int 23)] rfl ?_
  intro p e s m below meth c A H locs ls hx hb hr hml hts hown hlocks hin hK hP hD hA hS hl
  have hown : s.vm.findClass RX12 = some m.cls := hown
  have hY := y_X12_isWord_23_s h0_kind h0_word
  have k1 := hts (.fieldLink RX12 30 "LidCourtModel" "kind" "I") (by decide +kernel)
  have k2 : ∀ w ∈ wsX120, w ∈ wsX12_isWord := fun _ h => List.mem_cons_of_mem _ (List.mem_append_right _ h)
  have k3 := hts (.fieldLink RX12 43 "LidCourtModel" "word" "J") (by decide +kernel)
  refine lv_aload_n hx hb dX12_isWord_0 rfl (lv_at hl 0 rfl) ?_
  refine va_get (D := D) (ci := 11) (v := .int h0_kind) (C := RX12) (T := TX12) (N := 48) hx hb hts k2 hown hK.1 hP 0 rfl rfl 7 (by decide) k1 (fun _ h9 => h9) rfl dX12_isWord_1 ?_
  refine lv_iconst (v := 2) hx hb dX12_isWord_4 (by decide) ?_
  refine lv_icmp_ne (tgt := 24) hx hb dX12_isWord_5 (by decide) (fun c_18 => ?_) (fun c_18 => ?_)
  · skip
    have hY := hY.trans (if_neg c_18)
    refine lv_iconst (v := 0) hx hb dX12_isWord_24 (by decide) ?_
    exact oE_i hx hb hr (by decide) hlocks hP hD hS () [0] rfl (by decide) (Or.inl ⟨rfl, hY.symm⟩) (Nat.le_of_ble_eq_true rfl) (Nat.le_of_ble_eq_true rfl) dX12_isWord_25
  · skip
    have hY := hY.trans (if_pos c_18)
    have o_19 : rl 0 h0_kind 2 := rl_eq c_18
    have h_20 : rg 0 2 h0_kind := rl_x o_19 i_h0_kind (⟨by decide, by decide⟩ : rg 2 2 (2 : Int32)) (by decide) (by decide)
    have o_21 : rl 0 2 h0_kind := rl_eq c_18.symm
    have h_22 : rg 2 2 h0_kind := rl_y o_21 (⟨by decide, by decide⟩ : rg 2 2 (2 : Int32)) h_20 (by decide) (by decide)
    refine lv_aload_n hx hb dX12_isWord_8 rfl (lv_at hl 0 rfl) ?_
    refine va_get (D := D) (ci := 11) (v := .long h0_word) (C := RX12) (T := TX12) (N := 48) hx hb hts k2 hown hK.1 hP 0 rfl rfl 12 (by decide) k3 (fun _ h9 => h9) rfl dX12_isWord_9 ?_
    refine lv_iload_n hx hb dX12_isWord_12 rfl (lv_at hl 1 rfl) ?_
    refine oC_l (Wc := []) (Wr := [(h0, .inr (11, [.int h0_thrown, .ref h0_tape, .int h0_taped, .int h0_size, .int h0_limit, .int h0_to, .int h0_from, .int h0_kind, .int h0_number, .int h0_sign, .int h0_fault, .int h0_place, .long h0_word, .int h0_told, .ref h0_now, .ref h0_read, .ref h0_kept, .ref h0_snaps, .ref h0_aside, .ref h0_name, .ref h0_readName, .ref h0_keptName, .ref h0_isKept, .ref h0_onces, .int h0_snapMany, .int h0_lowest, .int h0_highest, .int h0_agreed, .int h0_jurors, .int h0_panelled, .ref h0_inSets, .int h0_surely, .int h0_asked, .ref h0_frees, .int h0_struck, .int h0_beating, .ref h0_text, .int h0_texts, .int h0_seed, .ref h0_line, .ref h0_written, .int h0_lineMany, .int h0_hasWritten, .ref h0_node, .int h0_nodes, .int h0_onesMany, .int h0_within, .int h0_top]))]) (va_runS (As := [.int 23]) (rest := [.long h0_word]) ⟨hx, hb, hml, hown, hts⟩ (e_X12_wordOf_23 l D ca H.size ) (va_cwS 1 hts gX12_isWord_X12_wordOf rfl rfl rfl (by decide +kernel) ⟨Nat.le_of_ble_eq_true rfl, Nat.le_of_ble_eq_true rfl⟩) (oPS hK hP hD [] rfl (by decide)) rfl rfl hl.1 rfl (lv_room (Nat.le_of_ble_eq_true rfl)) dX12_isWord_13 ⟨Nat.le_of_ble_eq_true rfl, Nat.le_of_ble_eq_true rfl⟩) hP hD hS hA [] [0] rfl rfl (by decide) (by decide) (fun r_23 u H locs w_24 hP hD hS => ?_)
    obtain ⟨⟩ := u
    have hP : va_P D vwCl [(h0, .inr (11, [.int h0_thrown, .ref h0_tape, .int h0_taped, .int h0_size, .int h0_limit, .int h0_to, .int h0_from, .int h0_kind, .int h0_number, .int h0_sign, .int h0_fault, .int h0_place, .long h0_word, .int h0_told, .ref h0_now, .ref h0_read, .ref h0_kept, .ref h0_snaps, .ref h0_aside, .ref h0_name, .ref h0_readName, .ref h0_keptName, .ref h0_isKept, .ref h0_onces, .int h0_snapMany, .int h0_lowest, .int h0_highest, .int h0_agreed, .int h0_jurors, .int h0_panelled, .ref h0_inSets, .int h0_surely, .int h0_asked, .ref h0_frees, .int h0_struck, .int h0_beating, .ref h0_text, .int h0_texts, .int h0_seed, .ref h0_line, .ref h0_written, .int h0_lineMany, .int h0_hasWritten, .ref h0_node, .int h0_nodes, .int h0_onesMany, .int h0_within, .int h0_top]))] H := hP
    have hD : va_D A [(h0, .inr (11, [.int h0_thrown, .ref h0_tape, .int h0_taped, .int h0_size, .int h0_limit, .int h0_to, .int h0_from, .int h0_kind, .int h0_number, .int h0_sign, .int h0_fault, .int h0_place, .long h0_word, .int h0_told, .ref h0_now, .ref h0_read, .ref h0_kept, .ref h0_snaps, .ref h0_aside, .ref h0_name, .ref h0_readName, .ref h0_keptName, .ref h0_isKept, .ref h0_onces, .int h0_snapMany, .int h0_lowest, .int h0_highest, .int h0_agreed, .int h0_jurors, .int h0_panelled, .ref h0_inSets, .int h0_surely, .int h0_asked, .ref h0_frees, .int h0_struck, .int h0_beating, .ref h0_text, .int h0_texts, .int h0_seed, .ref h0_line, .ref h0_written, .int h0_lineMany, .int h0_hasWritten, .ref h0_node, .int h0_nodes, .int h0_onesMany, .int h0_within, .int h0_top]))] := hD
    try dsimp only at w_24
    obtain ⟨h_25, h_26⟩ := w_24
    subst h_25
    have hY := hY.trans (lt1_e h_26)
    refine W.lcmp hx hb dX12_isWord_16 ?_
    refine lv_topi (fun x_27 ex_27 => ?_)
    have hY := hY.trans (lt1_e ex_27)
    refine lv_if_ne (tgt := 24) hx hb dX12_isWord_17 (by decide) (fun c_28 => ?_) (fun c_28 => ?_)
    · skip
      have hY := hY.trans (if_neg c_28)
      have h_29 : ¬ (h0_word : Int64) = 175125302 := cmp_nn ex_27 c_28
      refine lv_iconst (v := 0) hx hb dX12_isWord_24 (by decide) ?_
      exact oE_i hx hb hr (by decide) hlocks hP hD hS () [0] rfl (by decide) (Or.inl ⟨rfl, hY.symm⟩) (Nat.le_of_ble_eq_true rfl) (Nat.le_of_ble_eq_true rfl) dX12_isWord_25
    · skip
      have hY := hY.trans (if_pos c_28)
      have o_30 : rl 0 x_27 0 := rl_eq c_28
      have h_31 : rg (-2147483648) 0 x_27 := rl_x o_30 (rga x_27) (⟨by decide, by decide⟩ : rg 0 0 (0 : Int32)) (by decide) (by decide)
      have o_32 : rl 0 0 x_27 := rl_eq c_28.symm
      have h_33 : rg 0 0 x_27 := rl_y o_32 (⟨by decide, by decide⟩ : rg 0 0 (0 : Int32)) h_31 (by decide) (by decide)
      have h_34 : (h0_word : Int64) = 175125302 := cmp_eq ex_27 c_28
      refine lv_iconst (v := 1) hx hb dX12_isWord_20 (by decide) ?_
      refine lv_goto (tgt := 25) hx hb dX12_isWord_21 (by decide) ?_
      exact oE_i hx hb hr (by decide) hlocks hP hD hS () [0] rfl (by decide) (Or.inr (⟨rfl, h_22, hY.symm⟩)) (Nat.le_of_ble_eq_true rfl) (Nat.le_of_ble_eq_true rfl) dX12_isWord_25
set_option maxHeartbeats 4000000 in
set_option maxRecDepth 100000 in
theorem e_X12_isWord_24 (l : Launch) (D : va_G) (ca : Nat → ClassId) (sz : Nat) (h0 : Nat) (h0_thrown : Int32) (h0_tape : Nat) (h0_taped : Int32) (h0_size : Int32) (h0_limit : Int32) (h0_to : Int32) (h0_from : Int32) (h0_kind : Int32) (h0_number : Int32) (h0_sign : Int32) (h0_fault : Int32) (h0_place : Int32) (h0_word : Int64) (h0_told : Int32) (h0_now : Nat) (h0_read : Nat) (h0_kept : Nat) (h0_snaps : Nat) (h0_aside : Nat) (h0_name : Nat) (h0_readName : Nat) (h0_keptName : Nat) (h0_isKept : Nat) (h0_onces : Nat) (h0_snapMany : Int32) (h0_lowest : Int32) (h0_highest : Int32) (h0_agreed : Int32) (h0_jurors : Int32) (h0_panelled : Int32) (h0_inSets : Nat) (h0_surely : Int32) (h0_asked : Int32) (h0_frees : Nat) (h0_struck : Int32) (h0_beating : Int32) (h0_text : Nat) (h0_texts : Int32) (h0_seed : Int32) (h0_line : Nat) (h0_written : Nat) (h0_lineMany : Int32) (h0_hasWritten : Int32) (h0_node : Nat) (h0_nodes : Int32) (h0_onesMany : Int32) (h0_within : Int32) (h0_top : Int32) (i_h0_taped : rg 0 940 h0_taped) (i_h0_size : rg 0 940 h0_size) (i_h0_to : rg 0 940 h0_to) (i_h0_kind : rg 0 4 h0_kind) (i_h0_snapMany : rg 0 8 h0_snapMany) (i_h0_texts : rg 0 64 h0_texts) (i_h0_lineMany : rg 0 40 h0_lineMany) (i_h0_hasWritten : rg 0 1 h0_hasWritten) (i_h0_nodes : rg 0 60 h0_nodes) (i_h0_onesMany : rg 0 20 h0_onesMany) : oMet l yX12_isWord wsX12_isWord ({ frames := 2, cells := 0, slots := 0, locals := 48 } : Room) [.ref h0, .int 24] D ca sz [(h0, .inr (11, [.int h0_thrown, .ref h0_tape, .int h0_taped, .int h0_size, .int h0_limit, .int h0_to, .int h0_from, .int h0_kind, .int h0_number, .int h0_sign, .int h0_fault, .int h0_place, .long h0_word, .int h0_told, .ref h0_now, .ref h0_read, .ref h0_kept, .ref h0_snaps, .ref h0_aside, .ref h0_name, .ref h0_readName, .ref h0_keptName, .ref h0_isKept, .ref h0_onces, .int h0_snapMany, .int h0_lowest, .int h0_highest, .int h0_agreed, .int h0_jurors, .int h0_panelled, .ref h0_inSets, .int h0_surely, .int h0_asked, .ref h0_frees, .int h0_struck, .int h0_beating, .ref h0_text, .int h0_texts, .int h0_seed, .ref h0_line, .ref h0_written, .int h0_lineMany, .int h0_hasWritten, .ref h0_node, .int h0_nodes, .int h0_onesMany, .int h0_within, .int h0_top]))] (oQi D (fun (r : Int32) (u : Unit) => ((r = 0) ∧ (r = y_X12_isWord_24 h0_kind h0_word)) ∨ ((r = 1) ∧ (rg 2 2 h0_kind) ∧ (r = y_X12_isWord_24 h0_kind h0_word))) (fun (u : Unit) => [(h0, .inr (11, [.int h0_thrown, .ref h0_tape, .int h0_taped, .int h0_size, .int h0_limit, .int h0_to, .int h0_from, .int h0_kind, .int h0_number, .int h0_sign, .int h0_fault, .int h0_place, .long h0_word, .int h0_told, .ref h0_now, .ref h0_read, .ref h0_kept, .ref h0_snaps, .ref h0_aside, .ref h0_name, .ref h0_readName, .ref h0_keptName, .ref h0_isKept, .ref h0_onces, .int h0_snapMany, .int h0_lowest, .int h0_highest, .int h0_agreed, .int h0_jurors, .int h0_panelled, .ref h0_inSets, .int h0_surely, .int h0_asked, .ref h0_frees, .int h0_struck, .int h0_beating, .ref h0_text, .int h0_texts, .int h0_seed, .ref h0_line, .ref h0_written, .int h0_lineMany, .int h0_hasWritten, .ref h0_node, .int h0_nodes, .int h0_onesMany, .int h0_within, .int h0_top]))])) 0 0 := by
  refine oM (cc := cX12_isWord) (maxL := 2) (ret := (some .boolean)) (by decide) rfl (Nat.le_of_ble_eq_true rfl) [(0, .ref h0), (1, .int 24)] rfl ?_
  intro p e s m below meth c A H locs ls hx hb hr hml hts hown hlocks hin hK hP hD hA hS hl
  have hown : s.vm.findClass RX12 = some m.cls := hown
  have hY := y_X12_isWord_24_s h0_kind h0_word
  have k1 := hts (.fieldLink RX12 30 "LidCourtModel" "kind" "I") (by decide +kernel)
  have k2 : ∀ w ∈ wsX120, w ∈ wsX12_isWord := fun _ h => List.mem_cons_of_mem _ (List.mem_append_right _ h)
  have k3 := hts (.fieldLink RX12 43 "LidCourtModel" "word" "J") (by decide +kernel)
  refine lv_aload_n hx hb dX12_isWord_0 rfl (lv_at hl 0 rfl) ?_
  refine va_get (D := D) (ci := 11) (v := .int h0_kind) (C := RX12) (T := TX12) (N := 48) hx hb hts k2 hown hK.1 hP 0 rfl rfl 7 (by decide) k1 (fun _ h9 => h9) rfl dX12_isWord_1 ?_
  refine lv_iconst (v := 2) hx hb dX12_isWord_4 (by decide) ?_
  refine lv_icmp_ne (tgt := 24) hx hb dX12_isWord_5 (by decide) (fun c_18 => ?_) (fun c_18 => ?_)
  · skip
    have hY := hY.trans (if_neg c_18)
    refine lv_iconst (v := 0) hx hb dX12_isWord_24 (by decide) ?_
    exact oE_i hx hb hr (by decide) hlocks hP hD hS () [0] rfl (by decide) (Or.inl ⟨rfl, hY.symm⟩) (Nat.le_of_ble_eq_true rfl) (Nat.le_of_ble_eq_true rfl) dX12_isWord_25
  · skip
    have hY := hY.trans (if_pos c_18)
    have o_19 : rl 0 h0_kind 2 := rl_eq c_18
    have h_20 : rg 0 2 h0_kind := rl_x o_19 i_h0_kind (⟨by decide, by decide⟩ : rg 2 2 (2 : Int32)) (by decide) (by decide)
    have o_21 : rl 0 2 h0_kind := rl_eq c_18.symm
    have h_22 : rg 2 2 h0_kind := rl_y o_21 (⟨by decide, by decide⟩ : rg 2 2 (2 : Int32)) h_20 (by decide) (by decide)
    refine lv_aload_n hx hb dX12_isWord_8 rfl (lv_at hl 0 rfl) ?_
    refine va_get (D := D) (ci := 11) (v := .long h0_word) (C := RX12) (T := TX12) (N := 48) hx hb hts k2 hown hK.1 hP 0 rfl rfl 12 (by decide) k3 (fun _ h9 => h9) rfl dX12_isWord_9 ?_
    refine lv_iload_n hx hb dX12_isWord_12 rfl (lv_at hl 1 rfl) ?_
    refine oC_l (Wc := []) (Wr := [(h0, .inr (11, [.int h0_thrown, .ref h0_tape, .int h0_taped, .int h0_size, .int h0_limit, .int h0_to, .int h0_from, .int h0_kind, .int h0_number, .int h0_sign, .int h0_fault, .int h0_place, .long h0_word, .int h0_told, .ref h0_now, .ref h0_read, .ref h0_kept, .ref h0_snaps, .ref h0_aside, .ref h0_name, .ref h0_readName, .ref h0_keptName, .ref h0_isKept, .ref h0_onces, .int h0_snapMany, .int h0_lowest, .int h0_highest, .int h0_agreed, .int h0_jurors, .int h0_panelled, .ref h0_inSets, .int h0_surely, .int h0_asked, .ref h0_frees, .int h0_struck, .int h0_beating, .ref h0_text, .int h0_texts, .int h0_seed, .ref h0_line, .ref h0_written, .int h0_lineMany, .int h0_hasWritten, .ref h0_node, .int h0_nodes, .int h0_onesMany, .int h0_within, .int h0_top]))]) (va_runS (As := [.int 24]) (rest := [.long h0_word]) ⟨hx, hb, hml, hown, hts⟩ (e_X12_wordOf_24 l D ca H.size ) (va_cwS 1 hts gX12_isWord_X12_wordOf rfl rfl rfl (by decide +kernel) ⟨Nat.le_of_ble_eq_true rfl, Nat.le_of_ble_eq_true rfl⟩) (oPS hK hP hD [] rfl (by decide)) rfl rfl hl.1 rfl (lv_room (Nat.le_of_ble_eq_true rfl)) dX12_isWord_13 ⟨Nat.le_of_ble_eq_true rfl, Nat.le_of_ble_eq_true rfl⟩) hP hD hS hA [] [0] rfl rfl (by decide) (by decide) (fun r_23 u H locs w_24 hP hD hS => ?_)
    obtain ⟨⟩ := u
    have hP : va_P D vwCl [(h0, .inr (11, [.int h0_thrown, .ref h0_tape, .int h0_taped, .int h0_size, .int h0_limit, .int h0_to, .int h0_from, .int h0_kind, .int h0_number, .int h0_sign, .int h0_fault, .int h0_place, .long h0_word, .int h0_told, .ref h0_now, .ref h0_read, .ref h0_kept, .ref h0_snaps, .ref h0_aside, .ref h0_name, .ref h0_readName, .ref h0_keptName, .ref h0_isKept, .ref h0_onces, .int h0_snapMany, .int h0_lowest, .int h0_highest, .int h0_agreed, .int h0_jurors, .int h0_panelled, .ref h0_inSets, .int h0_surely, .int h0_asked, .ref h0_frees, .int h0_struck, .int h0_beating, .ref h0_text, .int h0_texts, .int h0_seed, .ref h0_line, .ref h0_written, .int h0_lineMany, .int h0_hasWritten, .ref h0_node, .int h0_nodes, .int h0_onesMany, .int h0_within, .int h0_top]))] H := hP
    have hD : va_D A [(h0, .inr (11, [.int h0_thrown, .ref h0_tape, .int h0_taped, .int h0_size, .int h0_limit, .int h0_to, .int h0_from, .int h0_kind, .int h0_number, .int h0_sign, .int h0_fault, .int h0_place, .long h0_word, .int h0_told, .ref h0_now, .ref h0_read, .ref h0_kept, .ref h0_snaps, .ref h0_aside, .ref h0_name, .ref h0_readName, .ref h0_keptName, .ref h0_isKept, .ref h0_onces, .int h0_snapMany, .int h0_lowest, .int h0_highest, .int h0_agreed, .int h0_jurors, .int h0_panelled, .ref h0_inSets, .int h0_surely, .int h0_asked, .ref h0_frees, .int h0_struck, .int h0_beating, .ref h0_text, .int h0_texts, .int h0_seed, .ref h0_line, .ref h0_written, .int h0_lineMany, .int h0_hasWritten, .ref h0_node, .int h0_nodes, .int h0_onesMany, .int h0_within, .int h0_top]))] := hD
    try dsimp only at w_24
    obtain ⟨h_25, h_26⟩ := w_24
    subst h_25
    have hY := hY.trans (lt1_e h_26)
    refine W.lcmp hx hb dX12_isWord_16 ?_
    refine lv_topi (fun x_27 ex_27 => ?_)
    have hY := hY.trans (lt1_e ex_27)
    refine lv_if_ne (tgt := 24) hx hb dX12_isWord_17 (by decide) (fun c_28 => ?_) (fun c_28 => ?_)
    · skip
      have hY := hY.trans (if_neg c_28)
      have h_29 : ¬ (h0_word : Int64) = 2234944 := cmp_nn ex_27 c_28
      refine lv_iconst (v := 0) hx hb dX12_isWord_24 (by decide) ?_
      exact oE_i hx hb hr (by decide) hlocks hP hD hS () [0] rfl (by decide) (Or.inl ⟨rfl, hY.symm⟩) (Nat.le_of_ble_eq_true rfl) (Nat.le_of_ble_eq_true rfl) dX12_isWord_25
    · skip
      have hY := hY.trans (if_pos c_28)
      have o_30 : rl 0 x_27 0 := rl_eq c_28
      have h_31 : rg (-2147483648) 0 x_27 := rl_x o_30 (rga x_27) (⟨by decide, by decide⟩ : rg 0 0 (0 : Int32)) (by decide) (by decide)
      have o_32 : rl 0 0 x_27 := rl_eq c_28.symm
      have h_33 : rg 0 0 x_27 := rl_y o_32 (⟨by decide, by decide⟩ : rg 0 0 (0 : Int32)) h_31 (by decide) (by decide)
      have h_34 : (h0_word : Int64) = 2234944 := cmp_eq ex_27 c_28
      refine lv_iconst (v := 1) hx hb dX12_isWord_20 (by decide) ?_
      refine lv_goto (tgt := 25) hx hb dX12_isWord_21 (by decide) ?_
      exact oE_i hx hb hr (by decide) hlocks hP hD hS () [0] rfl (by decide) (Or.inr (⟨rfl, h_22, hY.symm⟩)) (Nat.le_of_ble_eq_true rfl) (Nat.le_of_ble_eq_true rfl) dX12_isWord_25
set_option maxHeartbeats 4000000 in
set_option maxRecDepth 100000 in
theorem e_X12_isWord_25 (l : Launch) (D : va_G) (ca : Nat → ClassId) (sz : Nat) (h0 : Nat) (h0_thrown : Int32) (h0_tape : Nat) (h0_taped : Int32) (h0_size : Int32) (h0_limit : Int32) (h0_to : Int32) (h0_from : Int32) (h0_kind : Int32) (h0_number : Int32) (h0_sign : Int32) (h0_fault : Int32) (h0_place : Int32) (h0_word : Int64) (h0_told : Int32) (h0_now : Nat) (h0_read : Nat) (h0_kept : Nat) (h0_snaps : Nat) (h0_aside : Nat) (h0_name : Nat) (h0_readName : Nat) (h0_keptName : Nat) (h0_isKept : Nat) (h0_onces : Nat) (h0_snapMany : Int32) (h0_lowest : Int32) (h0_highest : Int32) (h0_agreed : Int32) (h0_jurors : Int32) (h0_panelled : Int32) (h0_inSets : Nat) (h0_surely : Int32) (h0_asked : Int32) (h0_frees : Nat) (h0_struck : Int32) (h0_beating : Int32) (h0_text : Nat) (h0_texts : Int32) (h0_seed : Int32) (h0_line : Nat) (h0_written : Nat) (h0_lineMany : Int32) (h0_hasWritten : Int32) (h0_node : Nat) (h0_nodes : Int32) (h0_onesMany : Int32) (h0_within : Int32) (h0_top : Int32) (i_h0_taped : rg 0 940 h0_taped) (i_h0_size : rg 0 940 h0_size) (i_h0_to : rg 0 940 h0_to) (i_h0_kind : rg 0 4 h0_kind) (i_h0_snapMany : rg 0 8 h0_snapMany) (i_h0_texts : rg 0 64 h0_texts) (i_h0_lineMany : rg 0 40 h0_lineMany) (i_h0_hasWritten : rg 0 1 h0_hasWritten) (i_h0_nodes : rg 0 60 h0_nodes) (i_h0_onesMany : rg 0 20 h0_onesMany) : oMet l yX12_isWord wsX12_isWord ({ frames := 2, cells := 0, slots := 0, locals := 48 } : Room) [.ref h0, .int 25] D ca sz [(h0, .inr (11, [.int h0_thrown, .ref h0_tape, .int h0_taped, .int h0_size, .int h0_limit, .int h0_to, .int h0_from, .int h0_kind, .int h0_number, .int h0_sign, .int h0_fault, .int h0_place, .long h0_word, .int h0_told, .ref h0_now, .ref h0_read, .ref h0_kept, .ref h0_snaps, .ref h0_aside, .ref h0_name, .ref h0_readName, .ref h0_keptName, .ref h0_isKept, .ref h0_onces, .int h0_snapMany, .int h0_lowest, .int h0_highest, .int h0_agreed, .int h0_jurors, .int h0_panelled, .ref h0_inSets, .int h0_surely, .int h0_asked, .ref h0_frees, .int h0_struck, .int h0_beating, .ref h0_text, .int h0_texts, .int h0_seed, .ref h0_line, .ref h0_written, .int h0_lineMany, .int h0_hasWritten, .ref h0_node, .int h0_nodes, .int h0_onesMany, .int h0_within, .int h0_top]))] (oQi D (fun (r : Int32) (u : Unit) => ((r = 0) ∧ (r = y_X12_isWord_25 h0_kind h0_word)) ∨ ((r = 1) ∧ (rg 2 2 h0_kind) ∧ (r = y_X12_isWord_25 h0_kind h0_word))) (fun (u : Unit) => [(h0, .inr (11, [.int h0_thrown, .ref h0_tape, .int h0_taped, .int h0_size, .int h0_limit, .int h0_to, .int h0_from, .int h0_kind, .int h0_number, .int h0_sign, .int h0_fault, .int h0_place, .long h0_word, .int h0_told, .ref h0_now, .ref h0_read, .ref h0_kept, .ref h0_snaps, .ref h0_aside, .ref h0_name, .ref h0_readName, .ref h0_keptName, .ref h0_isKept, .ref h0_onces, .int h0_snapMany, .int h0_lowest, .int h0_highest, .int h0_agreed, .int h0_jurors, .int h0_panelled, .ref h0_inSets, .int h0_surely, .int h0_asked, .ref h0_frees, .int h0_struck, .int h0_beating, .ref h0_text, .int h0_texts, .int h0_seed, .ref h0_line, .ref h0_written, .int h0_lineMany, .int h0_hasWritten, .ref h0_node, .int h0_nodes, .int h0_onesMany, .int h0_within, .int h0_top]))])) 0 0 := by
  refine oM (cc := cX12_isWord) (maxL := 2) (ret := (some .boolean)) (by decide) rfl (Nat.le_of_ble_eq_true rfl) [(0, .ref h0), (1, .int 25)] rfl ?_
  intro p e s m below meth c A H locs ls hx hb hr hml hts hown hlocks hin hK hP hD hA hS hl
  have hown : s.vm.findClass RX12 = some m.cls := hown
  have hY := y_X12_isWord_25_s h0_kind h0_word
  have k1 := hts (.fieldLink RX12 30 "LidCourtModel" "kind" "I") (by decide +kernel)
  have k2 : ∀ w ∈ wsX120, w ∈ wsX12_isWord := fun _ h => List.mem_cons_of_mem _ (List.mem_append_right _ h)
  have k3 := hts (.fieldLink RX12 43 "LidCourtModel" "word" "J") (by decide +kernel)
  refine lv_aload_n hx hb dX12_isWord_0 rfl (lv_at hl 0 rfl) ?_
  refine va_get (D := D) (ci := 11) (v := .int h0_kind) (C := RX12) (T := TX12) (N := 48) hx hb hts k2 hown hK.1 hP 0 rfl rfl 7 (by decide) k1 (fun _ h9 => h9) rfl dX12_isWord_1 ?_
  refine lv_iconst (v := 2) hx hb dX12_isWord_4 (by decide) ?_
  refine lv_icmp_ne (tgt := 24) hx hb dX12_isWord_5 (by decide) (fun c_18 => ?_) (fun c_18 => ?_)
  · skip
    have hY := hY.trans (if_neg c_18)
    refine lv_iconst (v := 0) hx hb dX12_isWord_24 (by decide) ?_
    exact oE_i hx hb hr (by decide) hlocks hP hD hS () [0] rfl (by decide) (Or.inl ⟨rfl, hY.symm⟩) (Nat.le_of_ble_eq_true rfl) (Nat.le_of_ble_eq_true rfl) dX12_isWord_25
  · skip
    have hY := hY.trans (if_pos c_18)
    have o_19 : rl 0 h0_kind 2 := rl_eq c_18
    have h_20 : rg 0 2 h0_kind := rl_x o_19 i_h0_kind (⟨by decide, by decide⟩ : rg 2 2 (2 : Int32)) (by decide) (by decide)
    have o_21 : rl 0 2 h0_kind := rl_eq c_18.symm
    have h_22 : rg 2 2 h0_kind := rl_y o_21 (⟨by decide, by decide⟩ : rg 2 2 (2 : Int32)) h_20 (by decide) (by decide)
    refine lv_aload_n hx hb dX12_isWord_8 rfl (lv_at hl 0 rfl) ?_
    refine va_get (D := D) (ci := 11) (v := .long h0_word) (C := RX12) (T := TX12) (N := 48) hx hb hts k2 hown hK.1 hP 0 rfl rfl 12 (by decide) k3 (fun _ h9 => h9) rfl dX12_isWord_9 ?_
    refine lv_iload_n hx hb dX12_isWord_12 rfl (lv_at hl 1 rfl) ?_
    refine oC_l (Wc := []) (Wr := [(h0, .inr (11, [.int h0_thrown, .ref h0_tape, .int h0_taped, .int h0_size, .int h0_limit, .int h0_to, .int h0_from, .int h0_kind, .int h0_number, .int h0_sign, .int h0_fault, .int h0_place, .long h0_word, .int h0_told, .ref h0_now, .ref h0_read, .ref h0_kept, .ref h0_snaps, .ref h0_aside, .ref h0_name, .ref h0_readName, .ref h0_keptName, .ref h0_isKept, .ref h0_onces, .int h0_snapMany, .int h0_lowest, .int h0_highest, .int h0_agreed, .int h0_jurors, .int h0_panelled, .ref h0_inSets, .int h0_surely, .int h0_asked, .ref h0_frees, .int h0_struck, .int h0_beating, .ref h0_text, .int h0_texts, .int h0_seed, .ref h0_line, .ref h0_written, .int h0_lineMany, .int h0_hasWritten, .ref h0_node, .int h0_nodes, .int h0_onesMany, .int h0_within, .int h0_top]))]) (va_runS (As := [.int 25]) (rest := [.long h0_word]) ⟨hx, hb, hml, hown, hts⟩ (e_X12_wordOf_25 l D ca H.size ) (va_cwS 1 hts gX12_isWord_X12_wordOf rfl rfl rfl (by decide +kernel) ⟨Nat.le_of_ble_eq_true rfl, Nat.le_of_ble_eq_true rfl⟩) (oPS hK hP hD [] rfl (by decide)) rfl rfl hl.1 rfl (lv_room (Nat.le_of_ble_eq_true rfl)) dX12_isWord_13 ⟨Nat.le_of_ble_eq_true rfl, Nat.le_of_ble_eq_true rfl⟩) hP hD hS hA [] [0] rfl rfl (by decide) (by decide) (fun r_23 u H locs w_24 hP hD hS => ?_)
    obtain ⟨⟩ := u
    have hP : va_P D vwCl [(h0, .inr (11, [.int h0_thrown, .ref h0_tape, .int h0_taped, .int h0_size, .int h0_limit, .int h0_to, .int h0_from, .int h0_kind, .int h0_number, .int h0_sign, .int h0_fault, .int h0_place, .long h0_word, .int h0_told, .ref h0_now, .ref h0_read, .ref h0_kept, .ref h0_snaps, .ref h0_aside, .ref h0_name, .ref h0_readName, .ref h0_keptName, .ref h0_isKept, .ref h0_onces, .int h0_snapMany, .int h0_lowest, .int h0_highest, .int h0_agreed, .int h0_jurors, .int h0_panelled, .ref h0_inSets, .int h0_surely, .int h0_asked, .ref h0_frees, .int h0_struck, .int h0_beating, .ref h0_text, .int h0_texts, .int h0_seed, .ref h0_line, .ref h0_written, .int h0_lineMany, .int h0_hasWritten, .ref h0_node, .int h0_nodes, .int h0_onesMany, .int h0_within, .int h0_top]))] H := hP
    have hD : va_D A [(h0, .inr (11, [.int h0_thrown, .ref h0_tape, .int h0_taped, .int h0_size, .int h0_limit, .int h0_to, .int h0_from, .int h0_kind, .int h0_number, .int h0_sign, .int h0_fault, .int h0_place, .long h0_word, .int h0_told, .ref h0_now, .ref h0_read, .ref h0_kept, .ref h0_snaps, .ref h0_aside, .ref h0_name, .ref h0_readName, .ref h0_keptName, .ref h0_isKept, .ref h0_onces, .int h0_snapMany, .int h0_lowest, .int h0_highest, .int h0_agreed, .int h0_jurors, .int h0_panelled, .ref h0_inSets, .int h0_surely, .int h0_asked, .ref h0_frees, .int h0_struck, .int h0_beating, .ref h0_text, .int h0_texts, .int h0_seed, .ref h0_line, .ref h0_written, .int h0_lineMany, .int h0_hasWritten, .ref h0_node, .int h0_nodes, .int h0_onesMany, .int h0_within, .int h0_top]))] := hD
    try dsimp only at w_24
    obtain ⟨h_25, h_26⟩ := w_24
    subst h_25
    have hY := hY.trans (lt1_e h_26)
    refine W.lcmp hx hb dX12_isWord_16 ?_
    refine lv_topi (fun x_27 ex_27 => ?_)
    have hY := hY.trans (lt1_e ex_27)
    refine lv_if_ne (tgt := 24) hx hb dX12_isWord_17 (by decide) (fun c_28 => ?_) (fun c_28 => ?_)
    · skip
      have hY := hY.trans (if_neg c_28)
      have h_29 : ¬ (h0_word : Int64) = 212302449 := cmp_nn ex_27 c_28
      refine lv_iconst (v := 0) hx hb dX12_isWord_24 (by decide) ?_
      exact oE_i hx hb hr (by decide) hlocks hP hD hS () [0] rfl (by decide) (Or.inl ⟨rfl, hY.symm⟩) (Nat.le_of_ble_eq_true rfl) (Nat.le_of_ble_eq_true rfl) dX12_isWord_25
    · skip
      have hY := hY.trans (if_pos c_28)
      have o_30 : rl 0 x_27 0 := rl_eq c_28
      have h_31 : rg (-2147483648) 0 x_27 := rl_x o_30 (rga x_27) (⟨by decide, by decide⟩ : rg 0 0 (0 : Int32)) (by decide) (by decide)
      have o_32 : rl 0 0 x_27 := rl_eq c_28.symm
      have h_33 : rg 0 0 x_27 := rl_y o_32 (⟨by decide, by decide⟩ : rg 0 0 (0 : Int32)) h_31 (by decide) (by decide)
      have h_34 : (h0_word : Int64) = 212302449 := cmp_eq ex_27 c_28
      refine lv_iconst (v := 1) hx hb dX12_isWord_20 (by decide) ?_
      refine lv_goto (tgt := 25) hx hb dX12_isWord_21 (by decide) ?_
      exact oE_i hx hb hr (by decide) hlocks hP hD hS () [0] rfl (by decide) (Or.inr (⟨rfl, h_22, hY.symm⟩)) (Nat.le_of_ble_eq_true rfl) (Nat.le_of_ble_eq_true rfl) dX12_isWord_25
set_option maxHeartbeats 4000000 in
set_option maxRecDepth 100000 in
theorem s_X12_isWord_12 (l : Launch) (D : va_G) (ca : Nat → ClassId) (sz : Nat) (h0 : Nat) (h0_thrown : Int32) (h0_tape : Nat) (h0_taped : Int32) (h0_size : Int32) (h0_limit : Int32) (h0_to : Int32) (h0_from : Int32) (h0_kind : Int32) (h0_number : Int32) (h0_sign : Int32) (h0_fault : Int32) (h0_place : Int32) (h0_word : Int64) (h0_told : Int32) (h0_now : Nat) (h0_read : Nat) (h0_kept : Nat) (h0_snaps : Nat) (h0_aside : Nat) (h0_name : Nat) (h0_readName : Nat) (h0_keptName : Nat) (h0_isKept : Nat) (h0_onces : Nat) (h0_snapMany : Int32) (h0_lowest : Int32) (h0_highest : Int32) (h0_agreed : Int32) (h0_jurors : Int32) (h0_panelled : Int32) (h0_inSets : Nat) (h0_surely : Int32) (h0_asked : Int32) (h0_frees : Nat) (h0_struck : Int32) (h0_beating : Int32) (h0_text : Nat) (h0_texts : Int32) (h0_seed : Int32) (h0_line : Nat) (h0_written : Nat) (h0_lineMany : Int32) (h0_hasWritten : Int32) (h0_node : Nat) (h0_nodes : Int32) (h0_onesMany : Int32) (h0_within : Int32) (h0_top : Int32) (i_h0_taped : rg 0 940 h0_taped) (i_h0_size : rg 0 940 h0_size) (i_h0_to : rg 0 940 h0_to) (i_h0_kind : rg 0 4 h0_kind) (i_h0_snapMany : rg 0 8 h0_snapMany) (i_h0_texts : rg 0 64 h0_texts) (i_h0_lineMany : rg 0 40 h0_lineMany) (i_h0_hasWritten : rg 0 1 h0_hasWritten) (i_h0_nodes : rg 0 60 h0_nodes) (i_h0_onesMany : rg 0 20 h0_onesMany) : oMet l yX12_isWord wsX12_isWord ({ frames := 2, cells := 0, slots := 0, locals := 48 } : Room) [.ref h0, .int 12] D ca sz [(h0, .inr (11, [.int h0_thrown, .ref h0_tape, .int h0_taped, .int h0_size, .int h0_limit, .int h0_to, .int h0_from, .int h0_kind, .int h0_number, .int h0_sign, .int h0_fault, .int h0_place, .long h0_word, .int h0_told, .ref h0_now, .ref h0_read, .ref h0_kept, .ref h0_snaps, .ref h0_aside, .ref h0_name, .ref h0_readName, .ref h0_keptName, .ref h0_isKept, .ref h0_onces, .int h0_snapMany, .int h0_lowest, .int h0_highest, .int h0_agreed, .int h0_jurors, .int h0_panelled, .ref h0_inSets, .int h0_surely, .int h0_asked, .ref h0_frees, .int h0_struck, .int h0_beating, .ref h0_text, .int h0_texts, .int h0_seed, .ref h0_line, .ref h0_written, .int h0_lineMany, .int h0_hasWritten, .ref h0_node, .int h0_nodes, .int h0_onesMany, .int h0_within, .int h0_top]))] (oQi D (fun (r : Int32) (u : Unit) => ((r = 0)) ∨ ((r = 1) ∧ (rg 2 2 h0_kind) ∧ (h0_word = 15091))) (fun (u : Unit) => [(h0, .inr (11, [.int h0_thrown, .ref h0_tape, .int h0_taped, .int h0_size, .int h0_limit, .int h0_to, .int h0_from, .int h0_kind, .int h0_number, .int h0_sign, .int h0_fault, .int h0_place, .long h0_word, .int h0_told, .ref h0_now, .ref h0_read, .ref h0_kept, .ref h0_snaps, .ref h0_aside, .ref h0_name, .ref h0_readName, .ref h0_keptName, .ref h0_isKept, .ref h0_onces, .int h0_snapMany, .int h0_lowest, .int h0_highest, .int h0_agreed, .int h0_jurors, .int h0_panelled, .ref h0_inSets, .int h0_surely, .int h0_asked, .ref h0_frees, .int h0_struck, .int h0_beating, .ref h0_text, .int h0_texts, .int h0_seed, .ref h0_line, .ref h0_written, .int h0_lineMany, .int h0_hasWritten, .ref h0_node, .int h0_nodes, .int h0_onesMany, .int h0_within, .int h0_top]))])) 0 0 := by
  refine oM (cc := cX12_isWord) (maxL := 2) (ret := (some .boolean)) (by decide) rfl (Nat.le_of_ble_eq_true rfl) [(0, .ref h0), (1, .int 12)] rfl ?_
  intro p e s m below meth c A H locs ls hx hb hr hml hts hown hlocks hin hK hP hD hA hS hl
  have hown : s.vm.findClass RX12 = some m.cls := hown
  have k1 := hts (.fieldLink RX12 30 "LidCourtModel" "kind" "I") (by decide +kernel)
  have k2 : ∀ w ∈ wsX120, w ∈ wsX12_isWord := fun _ h => List.mem_cons_of_mem _ (List.mem_append_right _ h)
  have k3 := hts (.fieldLink RX12 43 "LidCourtModel" "word" "J") (by decide +kernel)
  refine lv_aload_n hx hb dX12_isWord_0 rfl (lv_at hl 0 rfl) ?_
  refine va_get (D := D) (ci := 11) (v := .int h0_kind) (C := RX12) (T := TX12) (N := 48) hx hb hts k2 hown hK.1 hP 0 rfl rfl 7 (by decide) k1 (fun _ h9 => h9) rfl dX12_isWord_1 ?_
  refine lv_iconst (v := 2) hx hb dX12_isWord_4 (by decide) ?_
  refine lv_icmp_ne (tgt := 24) hx hb dX12_isWord_5 (by decide) (fun c_17 => ?_) (fun c_17 => ?_)
  · skip
    refine lv_iconst (v := 0) hx hb dX12_isWord_24 (by decide) ?_
    exact oE_i hx hb hr (by decide) hlocks hP hD hS () [0] rfl (by decide) (Or.inl rfl) (Nat.le_of_ble_eq_true rfl) (Nat.le_of_ble_eq_true rfl) dX12_isWord_25
  · skip
    have o_18 : rl 0 h0_kind 2 := rl_eq c_17
    have h_19 : rg 0 2 h0_kind := rl_x o_18 i_h0_kind (⟨by decide, by decide⟩ : rg 2 2 (2 : Int32)) (by decide) (by decide)
    have o_20 : rl 0 2 h0_kind := rl_eq c_17.symm
    have h_21 : rg 2 2 h0_kind := rl_y o_20 (⟨by decide, by decide⟩ : rg 2 2 (2 : Int32)) h_19 (by decide) (by decide)
    refine lv_aload_n hx hb dX12_isWord_8 rfl (lv_at hl 0 rfl) ?_
    refine va_get (D := D) (ci := 11) (v := .long h0_word) (C := RX12) (T := TX12) (N := 48) hx hb hts k2 hown hK.1 hP 0 rfl rfl 12 (by decide) k3 (fun _ h9 => h9) rfl dX12_isWord_9 ?_
    refine lv_iload_n hx hb dX12_isWord_12 rfl (lv_at hl 1 rfl) ?_
    refine oC_l (Wc := []) (Wr := [(h0, .inr (11, [.int h0_thrown, .ref h0_tape, .int h0_taped, .int h0_size, .int h0_limit, .int h0_to, .int h0_from, .int h0_kind, .int h0_number, .int h0_sign, .int h0_fault, .int h0_place, .long h0_word, .int h0_told, .ref h0_now, .ref h0_read, .ref h0_kept, .ref h0_snaps, .ref h0_aside, .ref h0_name, .ref h0_readName, .ref h0_keptName, .ref h0_isKept, .ref h0_onces, .int h0_snapMany, .int h0_lowest, .int h0_highest, .int h0_agreed, .int h0_jurors, .int h0_panelled, .ref h0_inSets, .int h0_surely, .int h0_asked, .ref h0_frees, .int h0_struck, .int h0_beating, .ref h0_text, .int h0_texts, .int h0_seed, .ref h0_line, .ref h0_written, .int h0_lineMany, .int h0_hasWritten, .ref h0_node, .int h0_nodes, .int h0_onesMany, .int h0_within, .int h0_top]))]) (va_runS (As := [.int 12]) (rest := [.long h0_word]) ⟨hx, hb, hml, hown, hts⟩ (s_X12_wordOf_12 l D ca H.size ) (va_cwS 1 hts gX12_isWord_X12_wordOf rfl rfl rfl (by decide +kernel) ⟨Nat.le_of_ble_eq_true rfl, Nat.le_of_ble_eq_true rfl⟩) (oPS hK hP hD [] rfl (by decide)) rfl rfl hl.1 rfl (lv_room (Nat.le_of_ble_eq_true rfl)) dX12_isWord_13 ⟨Nat.le_of_ble_eq_true rfl, Nat.le_of_ble_eq_true rfl⟩) hP hD hS hA [] [0] rfl rfl (by decide) (by decide) (fun r_22 u H locs w_23 hP hD hS => ?_)
    obtain ⟨⟩ := u
    have hP : va_P D vwCl [(h0, .inr (11, [.int h0_thrown, .ref h0_tape, .int h0_taped, .int h0_size, .int h0_limit, .int h0_to, .int h0_from, .int h0_kind, .int h0_number, .int h0_sign, .int h0_fault, .int h0_place, .long h0_word, .int h0_told, .ref h0_now, .ref h0_read, .ref h0_kept, .ref h0_snaps, .ref h0_aside, .ref h0_name, .ref h0_readName, .ref h0_keptName, .ref h0_isKept, .ref h0_onces, .int h0_snapMany, .int h0_lowest, .int h0_highest, .int h0_agreed, .int h0_jurors, .int h0_panelled, .ref h0_inSets, .int h0_surely, .int h0_asked, .ref h0_frees, .int h0_struck, .int h0_beating, .ref h0_text, .int h0_texts, .int h0_seed, .ref h0_line, .ref h0_written, .int h0_lineMany, .int h0_hasWritten, .ref h0_node, .int h0_nodes, .int h0_onesMany, .int h0_within, .int h0_top]))] H := hP
    have hD : va_D A [(h0, .inr (11, [.int h0_thrown, .ref h0_tape, .int h0_taped, .int h0_size, .int h0_limit, .int h0_to, .int h0_from, .int h0_kind, .int h0_number, .int h0_sign, .int h0_fault, .int h0_place, .long h0_word, .int h0_told, .ref h0_now, .ref h0_read, .ref h0_kept, .ref h0_snaps, .ref h0_aside, .ref h0_name, .ref h0_readName, .ref h0_keptName, .ref h0_isKept, .ref h0_onces, .int h0_snapMany, .int h0_lowest, .int h0_highest, .int h0_agreed, .int h0_jurors, .int h0_panelled, .ref h0_inSets, .int h0_surely, .int h0_asked, .ref h0_frees, .int h0_struck, .int h0_beating, .ref h0_text, .int h0_texts, .int h0_seed, .ref h0_line, .ref h0_written, .int h0_lineMany, .int h0_hasWritten, .ref h0_node, .int h0_nodes, .int h0_onesMany, .int h0_within, .int h0_top]))] := hD
    try dsimp only at w_23
    have h_24 := w_23
    subst h_24
    refine W.lcmp hx hb dX12_isWord_16 ?_
    refine lv_topi (fun x_25 ex_25 => ?_)
    refine lv_if_ne (tgt := 24) hx hb dX12_isWord_17 (by decide) (fun c_26 => ?_) (fun c_26 => ?_)
    · skip
      have h_27 : ¬ (h0_word : Int64) = 15091 := cmp_nn ex_25 c_26
      refine lv_iconst (v := 0) hx hb dX12_isWord_24 (by decide) ?_
      exact oE_i hx hb hr (by decide) hlocks hP hD hS () [0] rfl (by decide) (Or.inl rfl) (Nat.le_of_ble_eq_true rfl) (Nat.le_of_ble_eq_true rfl) dX12_isWord_25
    · skip
      have o_28 : rl 0 x_25 0 := rl_eq c_26
      have h_29 : rg (-2147483648) 0 x_25 := rl_x o_28 (rga x_25) (⟨by decide, by decide⟩ : rg 0 0 (0 : Int32)) (by decide) (by decide)
      have o_30 : rl 0 0 x_25 := rl_eq c_26.symm
      have h_31 : rg 0 0 x_25 := rl_y o_30 (⟨by decide, by decide⟩ : rg 0 0 (0 : Int32)) h_29 (by decide) (by decide)
      have h_32 : (h0_word : Int64) = 15091 := cmp_eq ex_25 c_26
      refine lv_iconst (v := 1) hx hb dX12_isWord_20 (by decide) ?_
      refine lv_goto (tgt := 25) hx hb dX12_isWord_21 (by decide) ?_
      exact oE_i hx hb hr (by decide) hlocks hP hD hS () [0] rfl (by decide) (Or.inr (⟨rfl, h_21, h_32⟩)) (Nat.le_of_ble_eq_true rfl) (Nat.le_of_ble_eq_true rfl) dX12_isWord_25
set_option maxHeartbeats 4000000 in
set_option maxRecDepth 100000 in
theorem s_X12_isWord_13 (l : Launch) (D : va_G) (ca : Nat → ClassId) (sz : Nat) (h0 : Nat) (h0_thrown : Int32) (h0_tape : Nat) (h0_taped : Int32) (h0_size : Int32) (h0_limit : Int32) (h0_to : Int32) (h0_from : Int32) (h0_kind : Int32) (h0_number : Int32) (h0_sign : Int32) (h0_fault : Int32) (h0_place : Int32) (h0_word : Int64) (h0_told : Int32) (h0_now : Nat) (h0_read : Nat) (h0_kept : Nat) (h0_snaps : Nat) (h0_aside : Nat) (h0_name : Nat) (h0_readName : Nat) (h0_keptName : Nat) (h0_isKept : Nat) (h0_onces : Nat) (h0_snapMany : Int32) (h0_lowest : Int32) (h0_highest : Int32) (h0_agreed : Int32) (h0_jurors : Int32) (h0_panelled : Int32) (h0_inSets : Nat) (h0_surely : Int32) (h0_asked : Int32) (h0_frees : Nat) (h0_struck : Int32) (h0_beating : Int32) (h0_text : Nat) (h0_texts : Int32) (h0_seed : Int32) (h0_line : Nat) (h0_written : Nat) (h0_lineMany : Int32) (h0_hasWritten : Int32) (h0_node : Nat) (h0_nodes : Int32) (h0_onesMany : Int32) (h0_within : Int32) (h0_top : Int32) (i_h0_taped : rg 0 940 h0_taped) (i_h0_size : rg 0 940 h0_size) (i_h0_to : rg 0 940 h0_to) (i_h0_kind : rg 0 4 h0_kind) (i_h0_snapMany : rg 0 8 h0_snapMany) (i_h0_texts : rg 0 64 h0_texts) (i_h0_lineMany : rg 0 40 h0_lineMany) (i_h0_hasWritten : rg 0 1 h0_hasWritten) (i_h0_nodes : rg 0 60 h0_nodes) (i_h0_onesMany : rg 0 20 h0_onesMany) : oMet l yX12_isWord wsX12_isWord ({ frames := 2, cells := 0, slots := 0, locals := 48 } : Room) [.ref h0, .int 13] D ca sz [(h0, .inr (11, [.int h0_thrown, .ref h0_tape, .int h0_taped, .int h0_size, .int h0_limit, .int h0_to, .int h0_from, .int h0_kind, .int h0_number, .int h0_sign, .int h0_fault, .int h0_place, .long h0_word, .int h0_told, .ref h0_now, .ref h0_read, .ref h0_kept, .ref h0_snaps, .ref h0_aside, .ref h0_name, .ref h0_readName, .ref h0_keptName, .ref h0_isKept, .ref h0_onces, .int h0_snapMany, .int h0_lowest, .int h0_highest, .int h0_agreed, .int h0_jurors, .int h0_panelled, .ref h0_inSets, .int h0_surely, .int h0_asked, .ref h0_frees, .int h0_struck, .int h0_beating, .ref h0_text, .int h0_texts, .int h0_seed, .ref h0_line, .ref h0_written, .int h0_lineMany, .int h0_hasWritten, .ref h0_node, .int h0_nodes, .int h0_onesMany, .int h0_within, .int h0_top]))] (oQi D (fun (r : Int32) (u : Unit) => ((r = 0)) ∨ ((r = 1) ∧ (rg 2 2 h0_kind) ∧ (h0_word = 23170575))) (fun (u : Unit) => [(h0, .inr (11, [.int h0_thrown, .ref h0_tape, .int h0_taped, .int h0_size, .int h0_limit, .int h0_to, .int h0_from, .int h0_kind, .int h0_number, .int h0_sign, .int h0_fault, .int h0_place, .long h0_word, .int h0_told, .ref h0_now, .ref h0_read, .ref h0_kept, .ref h0_snaps, .ref h0_aside, .ref h0_name, .ref h0_readName, .ref h0_keptName, .ref h0_isKept, .ref h0_onces, .int h0_snapMany, .int h0_lowest, .int h0_highest, .int h0_agreed, .int h0_jurors, .int h0_panelled, .ref h0_inSets, .int h0_surely, .int h0_asked, .ref h0_frees, .int h0_struck, .int h0_beating, .ref h0_text, .int h0_texts, .int h0_seed, .ref h0_line, .ref h0_written, .int h0_lineMany, .int h0_hasWritten, .ref h0_node, .int h0_nodes, .int h0_onesMany, .int h0_within, .int h0_top]))])) 0 0 := by
  refine oM (cc := cX12_isWord) (maxL := 2) (ret := (some .boolean)) (by decide) rfl (Nat.le_of_ble_eq_true rfl) [(0, .ref h0), (1, .int 13)] rfl ?_
  intro p e s m below meth c A H locs ls hx hb hr hml hts hown hlocks hin hK hP hD hA hS hl
  have hown : s.vm.findClass RX12 = some m.cls := hown
  have k1 := hts (.fieldLink RX12 30 "LidCourtModel" "kind" "I") (by decide +kernel)
  have k2 : ∀ w ∈ wsX120, w ∈ wsX12_isWord := fun _ h => List.mem_cons_of_mem _ (List.mem_append_right _ h)
  have k3 := hts (.fieldLink RX12 43 "LidCourtModel" "word" "J") (by decide +kernel)
  refine lv_aload_n hx hb dX12_isWord_0 rfl (lv_at hl 0 rfl) ?_
  refine va_get (D := D) (ci := 11) (v := .int h0_kind) (C := RX12) (T := TX12) (N := 48) hx hb hts k2 hown hK.1 hP 0 rfl rfl 7 (by decide) k1 (fun _ h9 => h9) rfl dX12_isWord_1 ?_
  refine lv_iconst (v := 2) hx hb dX12_isWord_4 (by decide) ?_
  refine lv_icmp_ne (tgt := 24) hx hb dX12_isWord_5 (by decide) (fun c_17 => ?_) (fun c_17 => ?_)
  · skip
    refine lv_iconst (v := 0) hx hb dX12_isWord_24 (by decide) ?_
    exact oE_i hx hb hr (by decide) hlocks hP hD hS () [0] rfl (by decide) (Or.inl rfl) (Nat.le_of_ble_eq_true rfl) (Nat.le_of_ble_eq_true rfl) dX12_isWord_25
  · skip
    have o_18 : rl 0 h0_kind 2 := rl_eq c_17
    have h_19 : rg 0 2 h0_kind := rl_x o_18 i_h0_kind (⟨by decide, by decide⟩ : rg 2 2 (2 : Int32)) (by decide) (by decide)
    have o_20 : rl 0 2 h0_kind := rl_eq c_17.symm
    have h_21 : rg 2 2 h0_kind := rl_y o_20 (⟨by decide, by decide⟩ : rg 2 2 (2 : Int32)) h_19 (by decide) (by decide)
    refine lv_aload_n hx hb dX12_isWord_8 rfl (lv_at hl 0 rfl) ?_
    refine va_get (D := D) (ci := 11) (v := .long h0_word) (C := RX12) (T := TX12) (N := 48) hx hb hts k2 hown hK.1 hP 0 rfl rfl 12 (by decide) k3 (fun _ h9 => h9) rfl dX12_isWord_9 ?_
    refine lv_iload_n hx hb dX12_isWord_12 rfl (lv_at hl 1 rfl) ?_
    refine oC_l (Wc := []) (Wr := [(h0, .inr (11, [.int h0_thrown, .ref h0_tape, .int h0_taped, .int h0_size, .int h0_limit, .int h0_to, .int h0_from, .int h0_kind, .int h0_number, .int h0_sign, .int h0_fault, .int h0_place, .long h0_word, .int h0_told, .ref h0_now, .ref h0_read, .ref h0_kept, .ref h0_snaps, .ref h0_aside, .ref h0_name, .ref h0_readName, .ref h0_keptName, .ref h0_isKept, .ref h0_onces, .int h0_snapMany, .int h0_lowest, .int h0_highest, .int h0_agreed, .int h0_jurors, .int h0_panelled, .ref h0_inSets, .int h0_surely, .int h0_asked, .ref h0_frees, .int h0_struck, .int h0_beating, .ref h0_text, .int h0_texts, .int h0_seed, .ref h0_line, .ref h0_written, .int h0_lineMany, .int h0_hasWritten, .ref h0_node, .int h0_nodes, .int h0_onesMany, .int h0_within, .int h0_top]))]) (va_runS (As := [.int 13]) (rest := [.long h0_word]) ⟨hx, hb, hml, hown, hts⟩ (s_X12_wordOf_13 l D ca H.size ) (va_cwS 1 hts gX12_isWord_X12_wordOf rfl rfl rfl (by decide +kernel) ⟨Nat.le_of_ble_eq_true rfl, Nat.le_of_ble_eq_true rfl⟩) (oPS hK hP hD [] rfl (by decide)) rfl rfl hl.1 rfl (lv_room (Nat.le_of_ble_eq_true rfl)) dX12_isWord_13 ⟨Nat.le_of_ble_eq_true rfl, Nat.le_of_ble_eq_true rfl⟩) hP hD hS hA [] [0] rfl rfl (by decide) (by decide) (fun r_22 u H locs w_23 hP hD hS => ?_)
    obtain ⟨⟩ := u
    have hP : va_P D vwCl [(h0, .inr (11, [.int h0_thrown, .ref h0_tape, .int h0_taped, .int h0_size, .int h0_limit, .int h0_to, .int h0_from, .int h0_kind, .int h0_number, .int h0_sign, .int h0_fault, .int h0_place, .long h0_word, .int h0_told, .ref h0_now, .ref h0_read, .ref h0_kept, .ref h0_snaps, .ref h0_aside, .ref h0_name, .ref h0_readName, .ref h0_keptName, .ref h0_isKept, .ref h0_onces, .int h0_snapMany, .int h0_lowest, .int h0_highest, .int h0_agreed, .int h0_jurors, .int h0_panelled, .ref h0_inSets, .int h0_surely, .int h0_asked, .ref h0_frees, .int h0_struck, .int h0_beating, .ref h0_text, .int h0_texts, .int h0_seed, .ref h0_line, .ref h0_written, .int h0_lineMany, .int h0_hasWritten, .ref h0_node, .int h0_nodes, .int h0_onesMany, .int h0_within, .int h0_top]))] H := hP
    have hD : va_D A [(h0, .inr (11, [.int h0_thrown, .ref h0_tape, .int h0_taped, .int h0_size, .int h0_limit, .int h0_to, .int h0_from, .int h0_kind, .int h0_number, .int h0_sign, .int h0_fault, .int h0_place, .long h0_word, .int h0_told, .ref h0_now, .ref h0_read, .ref h0_kept, .ref h0_snaps, .ref h0_aside, .ref h0_name, .ref h0_readName, .ref h0_keptName, .ref h0_isKept, .ref h0_onces, .int h0_snapMany, .int h0_lowest, .int h0_highest, .int h0_agreed, .int h0_jurors, .int h0_panelled, .ref h0_inSets, .int h0_surely, .int h0_asked, .ref h0_frees, .int h0_struck, .int h0_beating, .ref h0_text, .int h0_texts, .int h0_seed, .ref h0_line, .ref h0_written, .int h0_lineMany, .int h0_hasWritten, .ref h0_node, .int h0_nodes, .int h0_onesMany, .int h0_within, .int h0_top]))] := hD
    try dsimp only at w_23
    have h_24 := w_23
    subst h_24
    refine W.lcmp hx hb dX12_isWord_16 ?_
    refine lv_topi (fun x_25 ex_25 => ?_)
    refine lv_if_ne (tgt := 24) hx hb dX12_isWord_17 (by decide) (fun c_26 => ?_) (fun c_26 => ?_)
    · skip
      have h_27 : ¬ (h0_word : Int64) = 23170575 := cmp_nn ex_25 c_26
      refine lv_iconst (v := 0) hx hb dX12_isWord_24 (by decide) ?_
      exact oE_i hx hb hr (by decide) hlocks hP hD hS () [0] rfl (by decide) (Or.inl rfl) (Nat.le_of_ble_eq_true rfl) (Nat.le_of_ble_eq_true rfl) dX12_isWord_25
    · skip
      have o_28 : rl 0 x_25 0 := rl_eq c_26
      have h_29 : rg (-2147483648) 0 x_25 := rl_x o_28 (rga x_25) (⟨by decide, by decide⟩ : rg 0 0 (0 : Int32)) (by decide) (by decide)
      have o_30 : rl 0 0 x_25 := rl_eq c_26.symm
      have h_31 : rg 0 0 x_25 := rl_y o_30 (⟨by decide, by decide⟩ : rg 0 0 (0 : Int32)) h_29 (by decide) (by decide)
      have h_32 : (h0_word : Int64) = 23170575 := cmp_eq ex_25 c_26
      refine lv_iconst (v := 1) hx hb dX12_isWord_20 (by decide) ?_
      refine lv_goto (tgt := 25) hx hb dX12_isWord_21 (by decide) ?_
      exact oE_i hx hb hr (by decide) hlocks hP hD hS () [0] rfl (by decide) (Or.inr (⟨rfl, h_21, h_32⟩)) (Nat.le_of_ble_eq_true rfl) (Nat.le_of_ble_eq_true rfl) dX12_isWord_25
set_option maxHeartbeats 4000000 in
set_option maxRecDepth 100000 in
theorem s_X12_isWord_14 (l : Launch) (D : va_G) (ca : Nat → ClassId) (sz : Nat) (h0 : Nat) (h0_thrown : Int32) (h0_tape : Nat) (h0_taped : Int32) (h0_size : Int32) (h0_limit : Int32) (h0_to : Int32) (h0_from : Int32) (h0_kind : Int32) (h0_number : Int32) (h0_sign : Int32) (h0_fault : Int32) (h0_place : Int32) (h0_word : Int64) (h0_told : Int32) (h0_now : Nat) (h0_read : Nat) (h0_kept : Nat) (h0_snaps : Nat) (h0_aside : Nat) (h0_name : Nat) (h0_readName : Nat) (h0_keptName : Nat) (h0_isKept : Nat) (h0_onces : Nat) (h0_snapMany : Int32) (h0_lowest : Int32) (h0_highest : Int32) (h0_agreed : Int32) (h0_jurors : Int32) (h0_panelled : Int32) (h0_inSets : Nat) (h0_surely : Int32) (h0_asked : Int32) (h0_frees : Nat) (h0_struck : Int32) (h0_beating : Int32) (h0_text : Nat) (h0_texts : Int32) (h0_seed : Int32) (h0_line : Nat) (h0_written : Nat) (h0_lineMany : Int32) (h0_hasWritten : Int32) (h0_node : Nat) (h0_nodes : Int32) (h0_onesMany : Int32) (h0_within : Int32) (h0_top : Int32) (i_h0_taped : rg 0 940 h0_taped) (i_h0_size : rg 0 940 h0_size) (i_h0_to : rg 0 940 h0_to) (i_h0_kind : rg 0 4 h0_kind) (i_h0_snapMany : rg 0 8 h0_snapMany) (i_h0_texts : rg 0 64 h0_texts) (i_h0_lineMany : rg 0 40 h0_lineMany) (i_h0_hasWritten : rg 0 1 h0_hasWritten) (i_h0_nodes : rg 0 60 h0_nodes) (i_h0_onesMany : rg 0 20 h0_onesMany) : oMet l yX12_isWord wsX12_isWord ({ frames := 2, cells := 0, slots := 0, locals := 48 } : Room) [.ref h0, .int 14] D ca sz [(h0, .inr (11, [.int h0_thrown, .ref h0_tape, .int h0_taped, .int h0_size, .int h0_limit, .int h0_to, .int h0_from, .int h0_kind, .int h0_number, .int h0_sign, .int h0_fault, .int h0_place, .long h0_word, .int h0_told, .ref h0_now, .ref h0_read, .ref h0_kept, .ref h0_snaps, .ref h0_aside, .ref h0_name, .ref h0_readName, .ref h0_keptName, .ref h0_isKept, .ref h0_onces, .int h0_snapMany, .int h0_lowest, .int h0_highest, .int h0_agreed, .int h0_jurors, .int h0_panelled, .ref h0_inSets, .int h0_surely, .int h0_asked, .ref h0_frees, .int h0_struck, .int h0_beating, .ref h0_text, .int h0_texts, .int h0_seed, .ref h0_line, .ref h0_written, .int h0_lineMany, .int h0_hasWritten, .ref h0_node, .int h0_nodes, .int h0_onesMany, .int h0_within, .int h0_top]))] (oQi D (fun (r : Int32) (u : Unit) => ((r = 0)) ∨ ((r = 1) ∧ (rg 2 2 h0_kind) ∧ (h0_word = 2968))) (fun (u : Unit) => [(h0, .inr (11, [.int h0_thrown, .ref h0_tape, .int h0_taped, .int h0_size, .int h0_limit, .int h0_to, .int h0_from, .int h0_kind, .int h0_number, .int h0_sign, .int h0_fault, .int h0_place, .long h0_word, .int h0_told, .ref h0_now, .ref h0_read, .ref h0_kept, .ref h0_snaps, .ref h0_aside, .ref h0_name, .ref h0_readName, .ref h0_keptName, .ref h0_isKept, .ref h0_onces, .int h0_snapMany, .int h0_lowest, .int h0_highest, .int h0_agreed, .int h0_jurors, .int h0_panelled, .ref h0_inSets, .int h0_surely, .int h0_asked, .ref h0_frees, .int h0_struck, .int h0_beating, .ref h0_text, .int h0_texts, .int h0_seed, .ref h0_line, .ref h0_written, .int h0_lineMany, .int h0_hasWritten, .ref h0_node, .int h0_nodes, .int h0_onesMany, .int h0_within, .int h0_top]))])) 0 0 := by
  refine oM (cc := cX12_isWord) (maxL := 2) (ret := (some .boolean)) (by decide) rfl (Nat.le_of_ble_eq_true rfl) [(0, .ref h0), (1, .int 14)] rfl ?_
  intro p e s m below meth c A H locs ls hx hb hr hml hts hown hlocks hin hK hP hD hA hS hl
  have hown : s.vm.findClass RX12 = some m.cls := hown
  have k1 := hts (.fieldLink RX12 30 "LidCourtModel" "kind" "I") (by decide +kernel)
  have k2 : ∀ w ∈ wsX120, w ∈ wsX12_isWord := fun _ h => List.mem_cons_of_mem _ (List.mem_append_right _ h)
  have k3 := hts (.fieldLink RX12 43 "LidCourtModel" "word" "J") (by decide +kernel)
  refine lv_aload_n hx hb dX12_isWord_0 rfl (lv_at hl 0 rfl) ?_
  refine va_get (D := D) (ci := 11) (v := .int h0_kind) (C := RX12) (T := TX12) (N := 48) hx hb hts k2 hown hK.1 hP 0 rfl rfl 7 (by decide) k1 (fun _ h9 => h9) rfl dX12_isWord_1 ?_
  refine lv_iconst (v := 2) hx hb dX12_isWord_4 (by decide) ?_
  refine lv_icmp_ne (tgt := 24) hx hb dX12_isWord_5 (by decide) (fun c_17 => ?_) (fun c_17 => ?_)
  · skip
    refine lv_iconst (v := 0) hx hb dX12_isWord_24 (by decide) ?_
    exact oE_i hx hb hr (by decide) hlocks hP hD hS () [0] rfl (by decide) (Or.inl rfl) (Nat.le_of_ble_eq_true rfl) (Nat.le_of_ble_eq_true rfl) dX12_isWord_25
  · skip
    have o_18 : rl 0 h0_kind 2 := rl_eq c_17
    have h_19 : rg 0 2 h0_kind := rl_x o_18 i_h0_kind (⟨by decide, by decide⟩ : rg 2 2 (2 : Int32)) (by decide) (by decide)
    have o_20 : rl 0 2 h0_kind := rl_eq c_17.symm
    have h_21 : rg 2 2 h0_kind := rl_y o_20 (⟨by decide, by decide⟩ : rg 2 2 (2 : Int32)) h_19 (by decide) (by decide)
    refine lv_aload_n hx hb dX12_isWord_8 rfl (lv_at hl 0 rfl) ?_
    refine va_get (D := D) (ci := 11) (v := .long h0_word) (C := RX12) (T := TX12) (N := 48) hx hb hts k2 hown hK.1 hP 0 rfl rfl 12 (by decide) k3 (fun _ h9 => h9) rfl dX12_isWord_9 ?_
    refine lv_iload_n hx hb dX12_isWord_12 rfl (lv_at hl 1 rfl) ?_
    refine oC_l (Wc := []) (Wr := [(h0, .inr (11, [.int h0_thrown, .ref h0_tape, .int h0_taped, .int h0_size, .int h0_limit, .int h0_to, .int h0_from, .int h0_kind, .int h0_number, .int h0_sign, .int h0_fault, .int h0_place, .long h0_word, .int h0_told, .ref h0_now, .ref h0_read, .ref h0_kept, .ref h0_snaps, .ref h0_aside, .ref h0_name, .ref h0_readName, .ref h0_keptName, .ref h0_isKept, .ref h0_onces, .int h0_snapMany, .int h0_lowest, .int h0_highest, .int h0_agreed, .int h0_jurors, .int h0_panelled, .ref h0_inSets, .int h0_surely, .int h0_asked, .ref h0_frees, .int h0_struck, .int h0_beating, .ref h0_text, .int h0_texts, .int h0_seed, .ref h0_line, .ref h0_written, .int h0_lineMany, .int h0_hasWritten, .ref h0_node, .int h0_nodes, .int h0_onesMany, .int h0_within, .int h0_top]))]) (va_runS (As := [.int 14]) (rest := [.long h0_word]) ⟨hx, hb, hml, hown, hts⟩ (s_X12_wordOf_14 l D ca H.size ) (va_cwS 1 hts gX12_isWord_X12_wordOf rfl rfl rfl (by decide +kernel) ⟨Nat.le_of_ble_eq_true rfl, Nat.le_of_ble_eq_true rfl⟩) (oPS hK hP hD [] rfl (by decide)) rfl rfl hl.1 rfl (lv_room (Nat.le_of_ble_eq_true rfl)) dX12_isWord_13 ⟨Nat.le_of_ble_eq_true rfl, Nat.le_of_ble_eq_true rfl⟩) hP hD hS hA [] [0] rfl rfl (by decide) (by decide) (fun r_22 u H locs w_23 hP hD hS => ?_)
    obtain ⟨⟩ := u
    have hP : va_P D vwCl [(h0, .inr (11, [.int h0_thrown, .ref h0_tape, .int h0_taped, .int h0_size, .int h0_limit, .int h0_to, .int h0_from, .int h0_kind, .int h0_number, .int h0_sign, .int h0_fault, .int h0_place, .long h0_word, .int h0_told, .ref h0_now, .ref h0_read, .ref h0_kept, .ref h0_snaps, .ref h0_aside, .ref h0_name, .ref h0_readName, .ref h0_keptName, .ref h0_isKept, .ref h0_onces, .int h0_snapMany, .int h0_lowest, .int h0_highest, .int h0_agreed, .int h0_jurors, .int h0_panelled, .ref h0_inSets, .int h0_surely, .int h0_asked, .ref h0_frees, .int h0_struck, .int h0_beating, .ref h0_text, .int h0_texts, .int h0_seed, .ref h0_line, .ref h0_written, .int h0_lineMany, .int h0_hasWritten, .ref h0_node, .int h0_nodes, .int h0_onesMany, .int h0_within, .int h0_top]))] H := hP
    have hD : va_D A [(h0, .inr (11, [.int h0_thrown, .ref h0_tape, .int h0_taped, .int h0_size, .int h0_limit, .int h0_to, .int h0_from, .int h0_kind, .int h0_number, .int h0_sign, .int h0_fault, .int h0_place, .long h0_word, .int h0_told, .ref h0_now, .ref h0_read, .ref h0_kept, .ref h0_snaps, .ref h0_aside, .ref h0_name, .ref h0_readName, .ref h0_keptName, .ref h0_isKept, .ref h0_onces, .int h0_snapMany, .int h0_lowest, .int h0_highest, .int h0_agreed, .int h0_jurors, .int h0_panelled, .ref h0_inSets, .int h0_surely, .int h0_asked, .ref h0_frees, .int h0_struck, .int h0_beating, .ref h0_text, .int h0_texts, .int h0_seed, .ref h0_line, .ref h0_written, .int h0_lineMany, .int h0_hasWritten, .ref h0_node, .int h0_nodes, .int h0_onesMany, .int h0_within, .int h0_top]))] := hD
    try dsimp only at w_23
    have h_24 := w_23
    subst h_24
    refine W.lcmp hx hb dX12_isWord_16 ?_
    refine lv_topi (fun x_25 ex_25 => ?_)
    refine lv_if_ne (tgt := 24) hx hb dX12_isWord_17 (by decide) (fun c_26 => ?_) (fun c_26 => ?_)
    · skip
      have h_27 : ¬ (h0_word : Int64) = 2968 := cmp_nn ex_25 c_26
      refine lv_iconst (v := 0) hx hb dX12_isWord_24 (by decide) ?_
      exact oE_i hx hb hr (by decide) hlocks hP hD hS () [0] rfl (by decide) (Or.inl rfl) (Nat.le_of_ble_eq_true rfl) (Nat.le_of_ble_eq_true rfl) dX12_isWord_25
    · skip
      have o_28 : rl 0 x_25 0 := rl_eq c_26
      have h_29 : rg (-2147483648) 0 x_25 := rl_x o_28 (rga x_25) (⟨by decide, by decide⟩ : rg 0 0 (0 : Int32)) (by decide) (by decide)
      have o_30 : rl 0 0 x_25 := rl_eq c_26.symm
      have h_31 : rg 0 0 x_25 := rl_y o_30 (⟨by decide, by decide⟩ : rg 0 0 (0 : Int32)) h_29 (by decide) (by decide)
      have h_32 : (h0_word : Int64) = 2968 := cmp_eq ex_25 c_26
      refine lv_iconst (v := 1) hx hb dX12_isWord_20 (by decide) ?_
      refine lv_goto (tgt := 25) hx hb dX12_isWord_21 (by decide) ?_
      exact oE_i hx hb hr (by decide) hlocks hP hD hS () [0] rfl (by decide) (Or.inr (⟨rfl, h_21, h_32⟩)) (Nat.le_of_ble_eq_true rfl) (Nat.le_of_ble_eq_true rfl) dX12_isWord_25
set_option maxHeartbeats 4000000 in
set_option maxRecDepth 100000 in
theorem s_X12_isWord (l : Launch) (D : va_G) (ca : Nat → ClassId) (sz : Nat) (h0 : Nat) (a1 : Int32) (h0_thrown : Int32) (h0_tape : Nat) (h0_taped : Int32) (h0_size : Int32) (h0_limit : Int32) (h0_to : Int32) (h0_from : Int32) (h0_kind : Int32) (h0_number : Int32) (h0_sign : Int32) (h0_fault : Int32) (h0_place : Int32) (h0_word : Int64) (h0_told : Int32) (h0_now : Nat) (h0_read : Nat) (h0_kept : Nat) (h0_snaps : Nat) (h0_aside : Nat) (h0_name : Nat) (h0_readName : Nat) (h0_keptName : Nat) (h0_isKept : Nat) (h0_onces : Nat) (h0_snapMany : Int32) (h0_lowest : Int32) (h0_highest : Int32) (h0_agreed : Int32) (h0_jurors : Int32) (h0_panelled : Int32) (h0_inSets : Nat) (h0_surely : Int32) (h0_asked : Int32) (h0_frees : Nat) (h0_struck : Int32) (h0_beating : Int32) (h0_text : Nat) (h0_texts : Int32) (h0_seed : Int32) (h0_line : Nat) (h0_written : Nat) (h0_lineMany : Int32) (h0_hasWritten : Int32) (h0_node : Nat) (h0_nodes : Int32) (h0_onesMany : Int32) (h0_within : Int32) (h0_top : Int32) (i_h0_taped : rg 0 940 h0_taped) (i_h0_size : rg 0 940 h0_size) (i_h0_to : rg 0 940 h0_to) (i_h0_kind : rg 0 4 h0_kind) (i_h0_snapMany : rg 0 8 h0_snapMany) (i_h0_texts : rg 0 64 h0_texts) (i_h0_lineMany : rg 0 40 h0_lineMany) (i_h0_hasWritten : rg 0 1 h0_hasWritten) (i_h0_nodes : rg 0 60 h0_nodes) (i_h0_onesMany : rg 0 20 h0_onesMany) : oMet l yX12_isWord wsX12_isWord ({ frames := 2, cells := 0, slots := 0, locals := 48 } : Room) [.ref h0, .int a1] D ca sz [(h0, .inr (11, [.int h0_thrown, .ref h0_tape, .int h0_taped, .int h0_size, .int h0_limit, .int h0_to, .int h0_from, .int h0_kind, .int h0_number, .int h0_sign, .int h0_fault, .int h0_place, .long h0_word, .int h0_told, .ref h0_now, .ref h0_read, .ref h0_kept, .ref h0_snaps, .ref h0_aside, .ref h0_name, .ref h0_readName, .ref h0_keptName, .ref h0_isKept, .ref h0_onces, .int h0_snapMany, .int h0_lowest, .int h0_highest, .int h0_agreed, .int h0_jurors, .int h0_panelled, .ref h0_inSets, .int h0_surely, .int h0_asked, .ref h0_frees, .int h0_struck, .int h0_beating, .ref h0_text, .int h0_texts, .int h0_seed, .ref h0_line, .ref h0_written, .int h0_lineMany, .int h0_hasWritten, .ref h0_node, .int h0_nodes, .int h0_onesMany, .int h0_within, .int h0_top]))] (oQi D (fun (r : Int32) (u : Unit) => ((r = 0)) ∨ ((r = 1) ∧ (rg 2 2 h0_kind))) (fun (u : Unit) => [(h0, .inr (11, [.int h0_thrown, .ref h0_tape, .int h0_taped, .int h0_size, .int h0_limit, .int h0_to, .int h0_from, .int h0_kind, .int h0_number, .int h0_sign, .int h0_fault, .int h0_place, .long h0_word, .int h0_told, .ref h0_now, .ref h0_read, .ref h0_kept, .ref h0_snaps, .ref h0_aside, .ref h0_name, .ref h0_readName, .ref h0_keptName, .ref h0_isKept, .ref h0_onces, .int h0_snapMany, .int h0_lowest, .int h0_highest, .int h0_agreed, .int h0_jurors, .int h0_panelled, .ref h0_inSets, .int h0_surely, .int h0_asked, .ref h0_frees, .int h0_struck, .int h0_beating, .ref h0_text, .int h0_texts, .int h0_seed, .ref h0_line, .ref h0_written, .int h0_lineMany, .int h0_hasWritten, .ref h0_node, .int h0_nodes, .int h0_onesMany, .int h0_within, .int h0_top]))])) 0 0 := by
  refine oM (cc := cX12_isWord) (maxL := 2) (ret := (some .boolean)) (by decide) rfl (Nat.le_of_ble_eq_true rfl) [(0, .ref h0), (1, .int a1)] rfl ?_
  intro p e s m below meth c A H locs ls hx hb hr hml hts hown hlocks hin hK hP hD hA hS hl
  have hown : s.vm.findClass RX12 = some m.cls := hown
  have k1 := hts (.fieldLink RX12 30 "LidCourtModel" "kind" "I") (by decide +kernel)
  have k2 : ∀ w ∈ wsX120, w ∈ wsX12_isWord := fun _ h => List.mem_cons_of_mem _ (List.mem_append_right _ h)
  have k3 := hts (.fieldLink RX12 43 "LidCourtModel" "word" "J") (by decide +kernel)
  refine lv_aload_n hx hb dX12_isWord_0 rfl (lv_at hl 0 rfl) ?_
  refine va_get (D := D) (ci := 11) (v := .int h0_kind) (C := RX12) (T := TX12) (N := 48) hx hb hts k2 hown hK.1 hP 0 rfl rfl 7 (by decide) k1 (fun _ h9 => h9) rfl dX12_isWord_1 ?_
  refine lv_iconst (v := 2) hx hb dX12_isWord_4 (by decide) ?_
  refine lv_icmp_ne (tgt := 24) hx hb dX12_isWord_5 (by decide) (fun c_16 => ?_) (fun c_16 => ?_)
  · skip
    refine lv_iconst (v := 0) hx hb dX12_isWord_24 (by decide) ?_
    exact oE_i hx hb hr (by decide) hlocks hP hD hS () [0] rfl (by decide) (Or.inl rfl) (Nat.le_of_ble_eq_true rfl) (Nat.le_of_ble_eq_true rfl) dX12_isWord_25
  · skip
    have o_17 : rl 0 h0_kind 2 := rl_eq c_16
    have h_18 : rg 0 2 h0_kind := rl_x o_17 i_h0_kind (⟨by decide, by decide⟩ : rg 2 2 (2 : Int32)) (by decide) (by decide)
    have o_19 : rl 0 2 h0_kind := rl_eq c_16.symm
    have h_20 : rg 2 2 h0_kind := rl_y o_19 (⟨by decide, by decide⟩ : rg 2 2 (2 : Int32)) h_18 (by decide) (by decide)
    refine lv_aload_n hx hb dX12_isWord_8 rfl (lv_at hl 0 rfl) ?_
    refine va_get (D := D) (ci := 11) (v := .long h0_word) (C := RX12) (T := TX12) (N := 48) hx hb hts k2 hown hK.1 hP 0 rfl rfl 12 (by decide) k3 (fun _ h9 => h9) rfl dX12_isWord_9 ?_
    refine lv_iload_n hx hb dX12_isWord_12 rfl (lv_at hl 1 rfl) ?_
    refine oC_l (Wc := []) (Wr := [(h0, .inr (11, [.int h0_thrown, .ref h0_tape, .int h0_taped, .int h0_size, .int h0_limit, .int h0_to, .int h0_from, .int h0_kind, .int h0_number, .int h0_sign, .int h0_fault, .int h0_place, .long h0_word, .int h0_told, .ref h0_now, .ref h0_read, .ref h0_kept, .ref h0_snaps, .ref h0_aside, .ref h0_name, .ref h0_readName, .ref h0_keptName, .ref h0_isKept, .ref h0_onces, .int h0_snapMany, .int h0_lowest, .int h0_highest, .int h0_agreed, .int h0_jurors, .int h0_panelled, .ref h0_inSets, .int h0_surely, .int h0_asked, .ref h0_frees, .int h0_struck, .int h0_beating, .ref h0_text, .int h0_texts, .int h0_seed, .ref h0_line, .ref h0_written, .int h0_lineMany, .int h0_hasWritten, .ref h0_node, .int h0_nodes, .int h0_onesMany, .int h0_within, .int h0_top]))]) (va_runS (As := [.int a1]) (rest := [.long h0_word]) ⟨hx, hb, hml, hown, hts⟩ (s_X12_wordOf l D ca H.size a1) (va_cwS 1 hts gX12_isWord_X12_wordOf rfl rfl rfl (by decide +kernel) ⟨Nat.le_of_ble_eq_true rfl, Nat.le_of_ble_eq_true rfl⟩) (oPS hK hP hD [] rfl (by decide)) rfl rfl hl.1 rfl (lv_room (Nat.le_of_ble_eq_true rfl)) dX12_isWord_13 ⟨Nat.le_of_ble_eq_true rfl, Nat.le_of_ble_eq_true rfl⟩) hP hD hS hA [] [0] rfl rfl (by decide) (by decide) (fun r_21 u H locs w_22 hP hD hS => ?_)
    obtain ⟨⟩ := u
    have hP : va_P D vwCl [(h0, .inr (11, [.int h0_thrown, .ref h0_tape, .int h0_taped, .int h0_size, .int h0_limit, .int h0_to, .int h0_from, .int h0_kind, .int h0_number, .int h0_sign, .int h0_fault, .int h0_place, .long h0_word, .int h0_told, .ref h0_now, .ref h0_read, .ref h0_kept, .ref h0_snaps, .ref h0_aside, .ref h0_name, .ref h0_readName, .ref h0_keptName, .ref h0_isKept, .ref h0_onces, .int h0_snapMany, .int h0_lowest, .int h0_highest, .int h0_agreed, .int h0_jurors, .int h0_panelled, .ref h0_inSets, .int h0_surely, .int h0_asked, .ref h0_frees, .int h0_struck, .int h0_beating, .ref h0_text, .int h0_texts, .int h0_seed, .ref h0_line, .ref h0_written, .int h0_lineMany, .int h0_hasWritten, .ref h0_node, .int h0_nodes, .int h0_onesMany, .int h0_within, .int h0_top]))] H := hP
    have hD : va_D A [(h0, .inr (11, [.int h0_thrown, .ref h0_tape, .int h0_taped, .int h0_size, .int h0_limit, .int h0_to, .int h0_from, .int h0_kind, .int h0_number, .int h0_sign, .int h0_fault, .int h0_place, .long h0_word, .int h0_told, .ref h0_now, .ref h0_read, .ref h0_kept, .ref h0_snaps, .ref h0_aside, .ref h0_name, .ref h0_readName, .ref h0_keptName, .ref h0_isKept, .ref h0_onces, .int h0_snapMany, .int h0_lowest, .int h0_highest, .int h0_agreed, .int h0_jurors, .int h0_panelled, .ref h0_inSets, .int h0_surely, .int h0_asked, .ref h0_frees, .int h0_struck, .int h0_beating, .ref h0_text, .int h0_texts, .int h0_seed, .ref h0_line, .ref h0_written, .int h0_lineMany, .int h0_hasWritten, .ref h0_node, .int h0_nodes, .int h0_onesMany, .int h0_within, .int h0_top]))] := hD
    try dsimp only at w_22
    refine W.lcmp hx hb dX12_isWord_16 ?_
    refine lv_topi (fun x_23 ex_23 => ?_)
    refine lv_if_ne (tgt := 24) hx hb dX12_isWord_17 (by decide) (fun c_24 => ?_) (fun c_24 => ?_)
    · skip
      have h_25 : ¬ (h0_word : Int64) = r_21 := cmp_nn ex_23 c_24
      refine lv_iconst (v := 0) hx hb dX12_isWord_24 (by decide) ?_
      exact oE_i hx hb hr (by decide) hlocks hP hD hS () [0] rfl (by decide) (Or.inl rfl) (Nat.le_of_ble_eq_true rfl) (Nat.le_of_ble_eq_true rfl) dX12_isWord_25
    · skip
      have o_26 : rl 0 x_23 0 := rl_eq c_24
      have h_27 : rg (-2147483648) 0 x_23 := rl_x o_26 (rga x_23) (⟨by decide, by decide⟩ : rg 0 0 (0 : Int32)) (by decide) (by decide)
      have o_28 : rl 0 0 x_23 := rl_eq c_24.symm
      have h_29 : rg 0 0 x_23 := rl_y o_28 (⟨by decide, by decide⟩ : rg 0 0 (0 : Int32)) h_27 (by decide) (by decide)
      have h_30 : (h0_word : Int64) = r_21 := cmp_eq ex_23 c_24
      refine lv_iconst (v := 1) hx hb dX12_isWord_20 (by decide) ?_
      refine lv_goto (tgt := 25) hx hb dX12_isWord_21 (by decide) ?_
      exact oE_i hx hb hr (by decide) hlocks hP hD hS () [0] rfl (by decide) (Or.inr (⟨rfl, h_20⟩)) (Nat.le_of_ble_eq_true rfl) (Nat.le_of_ble_eq_true rfl) dX12_isWord_25
