theorem dX12_end_0 : decode cX12_end 0 = .ok (.aload_n 0, 1) := by decide +kernel
theorem dX12_end_1 : decode cX12_end 1 = .ok (.iconst 0, 1) := by decide +kernel
theorem dX12_end_2 : decode cX12_end 2 = .ok (.putfield 1, 3) := by decide +kernel
theorem dX12_end_5 : decode cX12_end 5 = .ok (.iload_n 1, 1) := by decide +kernel
theorem dX12_end_6 : decode cX12_end 6 = .ok (.ifCond .lt 11, 3) := by decide +kernel
theorem dX12_end_9 : decode cX12_end 9 = .ok (.iload_n 1, 1) := by decide +kernel
theorem dX12_end_10 : decode cX12_end 10 = .ok (.aload_n 0, 1) := by decide +kernel
theorem dX12_end_11 : decode cX12_end 11 = .ok (.getfield 11, 3) := by decide +kernel
theorem dX12_end_14 : decode cX12_end 14 = .ok (.if_icmp .le 5, 3) := by decide +kernel
theorem dX12_end_17 : decode cX12_end 17 = .ok (.iconst 0, 1) := by decide +kernel
theorem dX12_end_18 : decode cX12_end 18 = .ok (.ireturn, 1) := by decide +kernel
theorem dX12_end_19 : decode cX12_end 19 = .ok (.aload_n 0, 1) := by decide +kernel
theorem dX12_end_20 : decode cX12_end 20 = .ok (.iload_n 1, 1) := by decide +kernel
theorem dX12_end_21 : decode cX12_end 21 = .ok (.putfield 11, 3) := by decide +kernel
theorem dX12_end_24 : decode cX12_end 24 = .ok (.iconst 1, 1) := by decide +kernel
theorem dX12_end_25 : decode cX12_end 25 = .ok (.ireturn, 1) := by decide +kernel
set_option maxHeartbeats 4000000 in
set_option maxRecDepth 100000 in
theorem s_X12_end (l : Launch) (D : va_G) (ca : Nat → ClassId) (sz : Nat) (h0 : Nat) (a1 : Int32) (h0_thrown : Int32) (h0_tape : Nat) (h0_taped : Int32) (h0_size : Int32) (h0_limit : Int32) (h0_to : Int32) (h0_from : Int32) (h0_kind : Int32) (h0_number : Int32) (h0_sign : Int32) (h0_fault : Int32) (h0_place : Int32) (h0_word : Int64) (h0_told : Int32) (h0_now : Nat) (h0_read : Nat) (h0_kept : Nat) (h0_snaps : Nat) (h0_aside : Nat) (h0_name : Nat) (h0_readName : Nat) (h0_keptName : Nat) (h0_isKept : Nat) (h0_onces : Nat) (h0_snapMany : Int32) (h0_lowest : Int32) (h0_highest : Int32) (h0_agreed : Int32) (h0_jurors : Int32) (h0_panelled : Int32) (h0_inSets : Nat) (h0_surely : Int32) (h0_asked : Int32) (h0_frees : Nat) (h0_struck : Int32) (h0_beating : Int32) (h0_text : Nat) (h0_texts : Int32) (h0_seed : Int32) (h0_line : Nat) (h0_written : Nat) (h0_lineMany : Int32) (h0_hasWritten : Int32) (h0_node : Nat) (h0_nodes : Int32) (h0_onesMany : Int32) (h0_within : Int32) (h0_top : Int32) (i_h0_taped : rg 0 940 h0_taped) (i_h0_size : rg 0 940 h0_size) (i_h0_to : rg 0 940 h0_to) (i_h0_kind : rg 0 4 h0_kind) (i_h0_snapMany : rg 0 8 h0_snapMany) (i_h0_texts : rg 0 64 h0_texts) (i_h0_lineMany : rg 0 40 h0_lineMany) (i_h0_hasWritten : rg 0 1 h0_hasWritten) (i_h0_nodes : rg 0 60 h0_nodes) (i_h0_onesMany : rg 0 20 h0_onesMany) : oMet l yX12_end wsX12_end ({ frames := 0, cells := 0, slots := 0, locals := 0 } : Room) [.ref h0, .int a1] D ca sz [(h0, .inr (11, [.int h0_thrown, .ref h0_tape, .int h0_taped, .int h0_size, .int h0_limit, .int h0_to, .int h0_from, .int h0_kind, .int h0_number, .int h0_sign, .int h0_fault, .int h0_place, .long h0_word, .int h0_told, .ref h0_now, .ref h0_read, .ref h0_kept, .ref h0_snaps, .ref h0_aside, .ref h0_name, .ref h0_readName, .ref h0_keptName, .ref h0_isKept, .ref h0_onces, .int h0_snapMany, .int h0_lowest, .int h0_highest, .int h0_agreed, .int h0_jurors, .int h0_panelled, .ref h0_inSets, .int h0_surely, .int h0_asked, .ref h0_frees, .int h0_struck, .int h0_beating, .ref h0_text, .int h0_texts, .int h0_seed, .ref h0_line, .ref h0_written, .int h0_lineMany, .int h0_hasWritten, .ref h0_node, .int h0_nodes, .int h0_onesMany, .int h0_within, .int h0_top]))] (oQi D (fun (r : Int32) (u : Int32) => ((r = 0) ∧ (rg 0 940 u) ∧ (rl 0 h0_taped u) ∧ (rl 0 u h0_taped)) ∨ ((r = 1) ∧ (rg 0 940 u) ∧ (rg 0 940 a1) ∧ (rl 0 u h0_taped) ∧ (rl 0 a1 h0_taped))) (fun (u : Int32) => [(h0, .inr (11, [.int 0, .ref h0_tape, .int u, .int h0_size, .int h0_limit, .int h0_to, .int h0_from, .int h0_kind, .int h0_number, .int h0_sign, .int h0_fault, .int h0_place, .long h0_word, .int h0_told, .ref h0_now, .ref h0_read, .ref h0_kept, .ref h0_snaps, .ref h0_aside, .ref h0_name, .ref h0_readName, .ref h0_keptName, .ref h0_isKept, .ref h0_onces, .int h0_snapMany, .int h0_lowest, .int h0_highest, .int h0_agreed, .int h0_jurors, .int h0_panelled, .ref h0_inSets, .int h0_surely, .int h0_asked, .ref h0_frees, .int h0_struck, .int h0_beating, .ref h0_text, .int h0_texts, .int h0_seed, .ref h0_line, .ref h0_written, .int h0_lineMany, .int h0_hasWritten, .ref h0_node, .int h0_nodes, .int h0_onesMany, .int h0_within, .int h0_top]))])) 0 0 := by
  refine oM (cc := cX12_end) (maxL := 2) (ret := (some .boolean)) (by decide) rfl (Nat.le_of_ble_eq_true rfl) [(0, .ref h0), (1, .int a1)] rfl ?_
  intro p e s m below meth c A H locs ls hx hb hr hml hts hown hlocks hin hK hP hD hA hS hl
  have hown : s.vm.findClass RX12 = some m.cls := hown
  have k1 := hts (.fieldLink RX12 1 "LidCourtModel" "thrown" "I") (by decide +kernel)
  have k2 : ∀ w ∈ wsX120, w ∈ wsX12_end := fun _ h => List.mem_cons_of_mem _ (List.mem_append_right _ h)
  have k3 := hts (.fieldLink RX12 11 "LidCourtModel" "taped" "I") (by decide +kernel)
  refine lv_aload_n hx hb dX12_end_0 rfl (lv_at hl 0 rfl) ?_
  refine lv_iconst (v := 0) hx hb dX12_end_1 (by decide) ?_
  refine va_put (D := D) (ci := 11) (v := .int 0) (ty := .int) (C := RX12) (T := TX12) (N := 48) hx hb hts k2 tyX12 tyX12_ok nmX12 hown hK.1 hP hD hS 0 rfl rfl 0 (by decide) k1 (fun _ h9 => h9) rfl (by decide +kernel) rfl rfl (Nat.le_of_ble_eq_true rfl) dX12_end_2 (fun H locs hP hD hS => ?_)
  have hP : va_P D vwCl [(h0, .inr (11, [.int 0, .ref h0_tape, .int h0_taped, .int h0_size, .int h0_limit, .int h0_to, .int h0_from, .int h0_kind, .int h0_number, .int h0_sign, .int h0_fault, .int h0_place, .long h0_word, .int h0_told, .ref h0_now, .ref h0_read, .ref h0_kept, .ref h0_snaps, .ref h0_aside, .ref h0_name, .ref h0_readName, .ref h0_keptName, .ref h0_isKept, .ref h0_onces, .int h0_snapMany, .int h0_lowest, .int h0_highest, .int h0_agreed, .int h0_jurors, .int h0_panelled, .ref h0_inSets, .int h0_surely, .int h0_asked, .ref h0_frees, .int h0_struck, .int h0_beating, .ref h0_text, .int h0_texts, .int h0_seed, .ref h0_line, .ref h0_written, .int h0_lineMany, .int h0_hasWritten, .ref h0_node, .int h0_nodes, .int h0_onesMany, .int h0_within, .int h0_top]))] H := hP
  have hD : va_D A [(h0, .inr (11, [.int 0, .ref h0_tape, .int h0_taped, .int h0_size, .int h0_limit, .int h0_to, .int h0_from, .int h0_kind, .int h0_number, .int h0_sign, .int h0_fault, .int h0_place, .long h0_word, .int h0_told, .ref h0_now, .ref h0_read, .ref h0_kept, .ref h0_snaps, .ref h0_aside, .ref h0_name, .ref h0_readName, .ref h0_keptName, .ref h0_isKept, .ref h0_onces, .int h0_snapMany, .int h0_lowest, .int h0_highest, .int h0_agreed, .int h0_jurors, .int h0_panelled, .ref h0_inSets, .int h0_surely, .int h0_asked, .ref h0_frees, .int h0_struck, .int h0_beating, .ref h0_text, .int h0_texts, .int h0_seed, .ref h0_line, .ref h0_written, .int h0_lineMany, .int h0_hasWritten, .ref h0_node, .int h0_nodes, .int h0_onesMany, .int h0_within, .int h0_top]))] := hD
  refine lv_iload_n hx hb dX12_end_5 rfl (lv_at hl 1 rfl) ?_
  refine lv_if_lt (tgt := 17) hx hb dX12_end_6 (by decide) (fun c_11 => ?_) (fun c_11 => ?_)
  · skip
    have o_12 : rl 1 a1 0 := rl_lt c_11
    have h_13 : rg (-2147483648) (-1) a1 := rl_x o_12 (rga a1) (⟨by decide, by decide⟩ : rg 0 0 (0 : Int32)) (by decide) (by decide)
    refine lv_iconst (v := 0) hx hb dX12_end_17 (by decide) ?_
    exact oE_i hx hb hr (by decide) hlocks hP hD hS h0_taped [0] rfl (by decide) (Or.inl ⟨rfl, i_h0_taped, (show rl 0 h0_taped h0_taped from rlm (by omega)), (show rl 0 h0_taped h0_taped from rlm (by omega))⟩) (Nat.le_of_ble_eq_true rfl) (Nat.le_of_ble_eq_true rfl) dX12_end_18
  · skip
    have o_14 : rl 0 0 a1 := rl_nlt c_11
    have h_15 : rg 0 2147483647 a1 := rl_y o_14 (⟨by decide, by decide⟩ : rg 0 0 (0 : Int32)) (rga a1) (by decide) (by decide)
    refine lv_iload_n hx hb dX12_end_9 rfl (lv_at hl 1 rfl) ?_
    refine lv_aload_n hx hb dX12_end_10 rfl (lv_at hl 0 rfl) ?_
    refine va_get (D := D) (ci := 11) (v := .int h0_taped) (C := RX12) (T := TX12) (N := 48) hx hb hts k2 hown hK.1 hP 0 rfl rfl 2 (by decide) k3 (fun _ h9 => h9) rfl dX12_end_11 ?_
    refine lv_icmp_le (tgt := 19) hx hb dX12_end_14 (by decide) (fun c_16 => ?_) (fun c_16 => ?_)
    · skip
      have o_17 : rl 0 a1 h0_taped := rl_le c_16
      have h_18 : rg 0 940 a1 := rl_x o_17 h_15 i_h0_taped (by decide) (by decide)
      refine lv_aload_n hx hb dX12_end_19 rfl (lv_at hl 0 rfl) ?_
      refine lv_iload_n hx hb dX12_end_20 rfl (lv_at hl 1 rfl) ?_
      refine va_put (D := D) (ci := 11) (v := .int a1) (ty := .int) (C := RX12) (T := TX12) (N := 48) hx hb hts k2 tyX12 tyX12_ok nmX12 hown hK.1 hP hD hS 0 rfl rfl 2 (by decide) k3 (fun _ h9 => h9) rfl (by decide +kernel) rfl rfl (Nat.le_of_ble_eq_true rfl) dX12_end_21 (fun H locs hP hD hS => ?_)
      have hP : va_P D vwCl [(h0, .inr (11, [.int 0, .ref h0_tape, .int a1, .int h0_size, .int h0_limit, .int h0_to, .int h0_from, .int h0_kind, .int h0_number, .int h0_sign, .int h0_fault, .int h0_place, .long h0_word, .int h0_told, .ref h0_now, .ref h0_read, .ref h0_kept, .ref h0_snaps, .ref h0_aside, .ref h0_name, .ref h0_readName, .ref h0_keptName, .ref h0_isKept, .ref h0_onces, .int h0_snapMany, .int h0_lowest, .int h0_highest, .int h0_agreed, .int h0_jurors, .int h0_panelled, .ref h0_inSets, .int h0_surely, .int h0_asked, .ref h0_frees, .int h0_struck, .int h0_beating, .ref h0_text, .int h0_texts, .int h0_seed, .ref h0_line, .ref h0_written, .int h0_lineMany, .int h0_hasWritten, .ref h0_node, .int h0_nodes, .int h0_onesMany, .int h0_within, .int h0_top]))] H := hP
      have hD : va_D A [(h0, .inr (11, [.int 0, .ref h0_tape, .int a1, .int h0_size, .int h0_limit, .int h0_to, .int h0_from, .int h0_kind, .int h0_number, .int h0_sign, .int h0_fault, .int h0_place, .long h0_word, .int h0_told, .ref h0_now, .ref h0_read, .ref h0_kept, .ref h0_snaps, .ref h0_aside, .ref h0_name, .ref h0_readName, .ref h0_keptName, .ref h0_isKept, .ref h0_onces, .int h0_snapMany, .int h0_lowest, .int h0_highest, .int h0_agreed, .int h0_jurors, .int h0_panelled, .ref h0_inSets, .int h0_surely, .int h0_asked, .ref h0_frees, .int h0_struck, .int h0_beating, .ref h0_text, .int h0_texts, .int h0_seed, .ref h0_line, .ref h0_written, .int h0_lineMany, .int h0_hasWritten, .ref h0_node, .int h0_nodes, .int h0_onesMany, .int h0_within, .int h0_top]))] := hD
      refine lv_iconst (v := 1) hx hb dX12_end_24 (by decide) ?_
      exact oE_i hx hb hr (by decide) hlocks hP hD hS a1 [0] rfl (by decide) (Or.inr (⟨rfl, h_18, h_18, (show rl 0 a1 h0_taped from rlm (by have q0 := rle o_17; omega)), (show rl 0 a1 h0_taped from rlm (by have q0 := rle o_17; omega))⟩)) (Nat.le_of_ble_eq_true rfl) (Nat.le_of_ble_eq_true rfl) dX12_end_25
    · skip
      have o_19 : rl 1 h0_taped a1 := rl_nle c_16
      have h_20 : rg 1 2147483647 a1 := rl_y o_19 i_h0_taped h_15 (by decide) (by decide)
      refine lv_iconst (v := 0) hx hb dX12_end_17 (by decide) ?_
      exact oE_i hx hb hr (by decide) hlocks hP hD hS h0_taped [0] rfl (by decide) (Or.inl ⟨rfl, i_h0_taped, (show rl 0 h0_taped h0_taped from rlm (by omega)), (show rl 0 h0_taped h0_taped from rlm (by omega))⟩) (Nat.le_of_ble_eq_true rfl) (Nat.le_of_ble_eq_true rfl) dX12_end_18
theorem dX12_take_0 : decode cX12_take 0 = .ok (.aload_n 0, 1) := by decide +kernel
theorem dX12_take_1 : decode cX12_take 1 = .ok (.getfield 11, 3) := by decide +kernel
theorem dX12_take_4 : decode cX12_take 4 = .ok (.istore_n 1, 1) := by decide +kernel
theorem dX12_take_5 : decode cX12_take 5 = .ok (.aload_n 0, 1) := by decide +kernel
theorem dX12_take_6 : decode cX12_take 6 = .ok (.iconst 0, 1) := by decide +kernel
theorem dX12_take_7 : decode cX12_take 7 = .ok (.putfield 11, 3) := by decide +kernel
theorem dX12_take_10 : decode cX12_take 10 = .ok (.iload_n 1, 1) := by decide +kernel
theorem dX12_take_11 : decode cX12_take 11 = .ok (.ireturn, 1) := by decide +kernel
set_option maxHeartbeats 4000000 in
set_option maxRecDepth 100000 in
theorem e_X12_take (l : Launch) (D : va_G) (ca : Nat → ClassId) (sz : Nat) (h0 : Nat) (h0_thrown : Int32) (h0_tape : Nat) (h0_taped : Int32) (h0_size : Int32) (h0_limit : Int32) (h0_to : Int32) (h0_from : Int32) (h0_kind : Int32) (h0_number : Int32) (h0_sign : Int32) (h0_fault : Int32) (h0_place : Int32) (h0_word : Int64) (h0_told : Int32) (h0_now : Nat) (h0_read : Nat) (h0_kept : Nat) (h0_snaps : Nat) (h0_aside : Nat) (h0_name : Nat) (h0_readName : Nat) (h0_keptName : Nat) (h0_isKept : Nat) (h0_onces : Nat) (h0_snapMany : Int32) (h0_lowest : Int32) (h0_highest : Int32) (h0_agreed : Int32) (h0_jurors : Int32) (h0_panelled : Int32) (h0_inSets : Nat) (h0_surely : Int32) (h0_asked : Int32) (h0_frees : Nat) (h0_struck : Int32) (h0_beating : Int32) (h0_text : Nat) (h0_texts : Int32) (h0_seed : Int32) (h0_line : Nat) (h0_written : Nat) (h0_lineMany : Int32) (h0_hasWritten : Int32) (h0_node : Nat) (h0_nodes : Int32) (h0_onesMany : Int32) (h0_within : Int32) (h0_top : Int32) (i_h0_taped : rg 0 940 h0_taped) (i_h0_size : rg 0 940 h0_size) (i_h0_to : rg 0 940 h0_to) (i_h0_kind : rg 0 4 h0_kind) (i_h0_snapMany : rg 0 8 h0_snapMany) (i_h0_texts : rg 0 64 h0_texts) (i_h0_lineMany : rg 0 40 h0_lineMany) (i_h0_hasWritten : rg 0 1 h0_hasWritten) (i_h0_nodes : rg 0 60 h0_nodes) (i_h0_onesMany : rg 0 20 h0_onesMany) : oMet l yX12_take wsX12_take ({ frames := 0, cells := 0, slots := 0, locals := 0 } : Room) [.ref h0] D ca sz [(h0, .inr (11, [.int h0_thrown, .ref h0_tape, .int h0_taped, .int h0_size, .int h0_limit, .int h0_to, .int h0_from, .int h0_kind, .int h0_number, .int h0_sign, .int h0_fault, .int h0_place, .long h0_word, .int h0_told, .ref h0_now, .ref h0_read, .ref h0_kept, .ref h0_snaps, .ref h0_aside, .ref h0_name, .ref h0_readName, .ref h0_keptName, .ref h0_isKept, .ref h0_onces, .int h0_snapMany, .int h0_lowest, .int h0_highest, .int h0_agreed, .int h0_jurors, .int h0_panelled, .ref h0_inSets, .int h0_surely, .int h0_asked, .ref h0_frees, .int h0_struck, .int h0_beating, .ref h0_text, .int h0_texts, .int h0_seed, .ref h0_line, .ref h0_written, .int h0_lineMany, .int h0_hasWritten, .ref h0_node, .int h0_nodes, .int h0_onesMany, .int h0_within, .int h0_top]))] (oQi D (fun (r : Int32) (u : Unit) => (r = h0_taped) ∧ (rl 0 h0_taped r) ∧ (rl 0 r h0_taped) ∧ (r = y_X12_take h0_taped)) (fun (u : Unit) => [(h0, .inr (11, [.int h0_thrown, .ref h0_tape, .int 0, .int h0_size, .int h0_limit, .int h0_to, .int h0_from, .int h0_kind, .int h0_number, .int h0_sign, .int h0_fault, .int h0_place, .long h0_word, .int h0_told, .ref h0_now, .ref h0_read, .ref h0_kept, .ref h0_snaps, .ref h0_aside, .ref h0_name, .ref h0_readName, .ref h0_keptName, .ref h0_isKept, .ref h0_onces, .int h0_snapMany, .int h0_lowest, .int h0_highest, .int h0_agreed, .int h0_jurors, .int h0_panelled, .ref h0_inSets, .int h0_surely, .int h0_asked, .ref h0_frees, .int h0_struck, .int h0_beating, .ref h0_text, .int h0_texts, .int h0_seed, .ref h0_line, .ref h0_written, .int h0_lineMany, .int h0_hasWritten, .ref h0_node, .int h0_nodes, .int h0_onesMany, .int h0_within, .int h0_top]))])) 0 0 := by
  refine oM (cc := cX12_take) (maxL := 2) (ret := (some .int)) (by decide) rfl (Nat.le_of_ble_eq_true rfl) [(0, .ref h0)] rfl ?_
  intro p e s m below meth c A H locs ls hx hb hr hml hts hown hlocks hin hK hP hD hA hS hl
  have hown : s.vm.findClass RX12 = some m.cls := hown
  have hY := y_X12_take_s h0_taped
  have k1 := hts (.fieldLink RX12 11 "LidCourtModel" "taped" "I") (by decide +kernel)
  have k2 : ∀ w ∈ wsX120, w ∈ wsX12_take := fun _ h => List.mem_cons_of_mem _ (List.mem_append_right _ h)
  refine lv_aload_n hx hb dX12_take_0 rfl (lv_at hl 0 rfl) ?_
  refine va_get (D := D) (ci := 11) (v := .int h0_taped) (C := RX12) (T := TX12) (N := 48) hx hb hts k2 hown hK.1 hP 0 rfl rfl 2 (by decide) k1 (fun _ h9 => h9) rfl dX12_take_1 ?_
  refine lv_istore_n (lv' := [(1, .int h0_taped), (0, .ref h0)]) hx hb dX12_take_4 rfl hl (by decide) rfl (fun ls hl => ?_)
  refine lv_aload_n hx hb dX12_take_5 rfl (lv_at hl 1 rfl) ?_
  refine lv_iconst (v := 0) hx hb dX12_take_6 (by decide) ?_
  refine va_put (D := D) (ci := 11) (v := .int 0) (ty := .int) (C := RX12) (T := TX12) (N := 48) hx hb hts k2 tyX12 tyX12_ok nmX12 hown hK.1 hP hD hS 0 rfl rfl 2 (by decide) k1 (fun _ h9 => h9) rfl (by decide +kernel) rfl rfl (Nat.le_of_ble_eq_true rfl) dX12_take_7 (fun H locs hP hD hS => ?_)
  have hP : va_P D vwCl [(h0, .inr (11, [.int h0_thrown, .ref h0_tape, .int 0, .int h0_size, .int h0_limit, .int h0_to, .int h0_from, .int h0_kind, .int h0_number, .int h0_sign, .int h0_fault, .int h0_place, .long h0_word, .int h0_told, .ref h0_now, .ref h0_read, .ref h0_kept, .ref h0_snaps, .ref h0_aside, .ref h0_name, .ref h0_readName, .ref h0_keptName, .ref h0_isKept, .ref h0_onces, .int h0_snapMany, .int h0_lowest, .int h0_highest, .int h0_agreed, .int h0_jurors, .int h0_panelled, .ref h0_inSets, .int h0_surely, .int h0_asked, .ref h0_frees, .int h0_struck, .int h0_beating, .ref h0_text, .int h0_texts, .int h0_seed, .ref h0_line, .ref h0_written, .int h0_lineMany, .int h0_hasWritten, .ref h0_node, .int h0_nodes, .int h0_onesMany, .int h0_within, .int h0_top]))] H := hP
  have hD : va_D A [(h0, .inr (11, [.int h0_thrown, .ref h0_tape, .int 0, .int h0_size, .int h0_limit, .int h0_to, .int h0_from, .int h0_kind, .int h0_number, .int h0_sign, .int h0_fault, .int h0_place, .long h0_word, .int h0_told, .ref h0_now, .ref h0_read, .ref h0_kept, .ref h0_snaps, .ref h0_aside, .ref h0_name, .ref h0_readName, .ref h0_keptName, .ref h0_isKept, .ref h0_onces, .int h0_snapMany, .int h0_lowest, .int h0_highest, .int h0_agreed, .int h0_jurors, .int h0_panelled, .ref h0_inSets, .int h0_surely, .int h0_asked, .ref h0_frees, .int h0_struck, .int h0_beating, .ref h0_text, .int h0_texts, .int h0_seed, .ref h0_line, .ref h0_written, .int h0_lineMany, .int h0_hasWritten, .ref h0_node, .int h0_nodes, .int h0_onesMany, .int h0_within, .int h0_top]))] := hD
  refine lv_iload_n hx hb dX12_take_10 rfl (lv_at hl 0 rfl) ?_
  exact oE_i hx hb hr rfl hlocks hP hD hS () [0] rfl (by decide) ⟨rfl, (show rl 0 h0_taped h0_taped from rlm (by omega)), (show rl 0 h0_taped h0_taped from rlm (by omega)), hY.symm⟩ (Nat.le_of_ble_eq_true rfl) (Nat.le_of_ble_eq_true rfl) dX12_take_11
theorem dX12_isLetter_0 : decode cX12_isLetter 0 = .ok (.iload_n 0, 1) := by decide +kernel
theorem dX12_isLetter_1 : decode cX12_isLetter 1 = .ok (.bipush 97, 2) := by decide +kernel
theorem dX12_isLetter_3 : decode cX12_isLetter 3 = .ok (.if_icmp .lt 13, 3) := by decide +kernel
theorem dX12_isLetter_6 : decode cX12_isLetter 6 = .ok (.iload_n 0, 1) := by decide +kernel
theorem dX12_isLetter_7 : decode cX12_isLetter 7 = .ok (.bipush 122, 2) := by decide +kernel
theorem dX12_isLetter_9 : decode cX12_isLetter 9 = .ok (.if_icmp .gt 7, 3) := by decide +kernel
theorem dX12_isLetter_12 : decode cX12_isLetter 12 = .ok (.iconst 1, 1) := by decide +kernel
theorem dX12_isLetter_13 : decode cX12_isLetter 13 = .ok (.goto 4, 3) := by decide +kernel
theorem dX12_isLetter_16 : decode cX12_isLetter 16 = .ok (.iconst 0, 1) := by decide +kernel
theorem dX12_isLetter_17 : decode cX12_isLetter 17 = .ok (.ireturn, 1) := by decide +kernel
set_option maxHeartbeats 4000000 in
set_option maxRecDepth 100000 in
theorem e_X12_isLetter (l : Launch) (D : va_G) (ca : Nat → ClassId) (sz : Nat) (a1 : Int32)  : oMet l yX12_isLetter wsX12_isLetter ({ frames := 0, cells := 0, slots := 0, locals := 0 } : Room) [.int a1] D ca sz [] (oQi D (fun (r : Int32) (u : Unit) => ((r = 0) ∧ (rg (-2147483648) 96 a1) ∧ ((a1 : Int32) < 97) ∧ (r = y_X12_isLetter a1)) ∨ ((r = 0) ∧ (rg 123 2147483647 a1) ∧ (¬ ((a1 : Int32) < 97)) ∧ ((122 : Int32) < a1) ∧ (r = y_X12_isLetter a1)) ∨ ((r = 1) ∧ (rg 97 122 a1) ∧ (¬ ((a1 : Int32) < 97)) ∧ (¬ ((122 : Int32) < a1)) ∧ (r = y_X12_isLetter a1))) (fun (u : Unit) => [])) 0 0 := by
  refine oM (cc := cX12_isLetter) (maxL := 1) (ret := (some .boolean)) (by decide) rfl (Nat.le_of_ble_eq_true rfl) [(0, .int a1)] rfl ?_
  intro p e s m below meth c A H locs ls hx hb hr hml hts hown hlocks hin hK hP hD hA hS hl
  have hown : s.vm.findClass RX12 = some m.cls := hown
  have hY := y_X12_isLetter_s a1
  refine lv_iload_n hx hb dX12_isLetter_0 rfl (lv_at hl 0 rfl) ?_
  refine lv_bipush (v := 97) hx hb dX12_isLetter_1 (by decide) ?_
  refine lv_icmp_lt (tgt := 16) hx hb dX12_isLetter_3 (by decide) (fun c_11 => ?_) (fun c_11 => ?_)
  · skip
    have hY := hY.trans (if_pos c_11)
    have o_12 : rl 1 a1 97 := rl_lt c_11
    have h_13 : rg (-2147483648) 96 a1 := rl_x o_12 (rga a1) (⟨by decide, by decide⟩ : rg 97 97 (97 : Int32)) (by decide) (by decide)
    refine lv_iconst (v := 0) hx hb dX12_isLetter_16 (by decide) ?_
    exact oE_i hx hb hr (by decide) hlocks hP hD hS () [] rfl (by decide) (Or.inl ⟨rfl, h_13, c_11, hY.symm⟩) (Nat.le_of_ble_eq_true rfl) (Nat.le_of_ble_eq_true rfl) dX12_isLetter_17
  · skip
    have hY := hY.trans (if_neg c_11)
    have o_14 : rl 0 97 a1 := rl_nlt c_11
    have h_15 : rg 97 2147483647 a1 := rl_y o_14 (⟨by decide, by decide⟩ : rg 97 97 (97 : Int32)) (rga a1) (by decide) (by decide)
    refine lv_iload_n hx hb dX12_isLetter_6 rfl (lv_at hl 0 rfl) ?_
    refine lv_bipush (v := 122) hx hb dX12_isLetter_7 (by decide) ?_
    refine lv_icmp_gt (tgt := 16) hx hb dX12_isLetter_9 (by decide) (fun c_16 => ?_) (fun c_16 => ?_)
    · skip
      have hY := hY.trans (if_pos c_16)
      have o_17 : rl 1 122 a1 := rl_lt c_16
      have h_18 : rg 123 2147483647 a1 := rl_y o_17 (⟨by decide, by decide⟩ : rg 122 122 (122 : Int32)) h_15 (by decide) (by decide)
      refine lv_iconst (v := 0) hx hb dX12_isLetter_16 (by decide) ?_
      exact oE_i hx hb hr (by decide) hlocks hP hD hS () [] rfl (by decide) (Or.inr (Or.inl ⟨rfl, h_18, c_11, c_16, hY.symm⟩)) (Nat.le_of_ble_eq_true rfl) (Nat.le_of_ble_eq_true rfl) dX12_isLetter_17
    · skip
      have hY := hY.trans (if_neg c_16)
      have o_19 : rl 0 a1 122 := rl_nlt c_16
      have h_20 : rg 97 122 a1 := rl_x o_19 h_15 (⟨by decide, by decide⟩ : rg 122 122 (122 : Int32)) (by decide) (by decide)
      refine lv_iconst (v := 1) hx hb dX12_isLetter_12 (by decide) ?_
      refine lv_goto (tgt := 17) hx hb dX12_isLetter_13 (by decide) ?_
      exact oE_i hx hb hr (by decide) hlocks hP hD hS () [] rfl (by decide) (Or.inr (Or.inr (⟨rfl, h_20, c_11, c_16, hY.symm⟩))) (Nat.le_of_ble_eq_true rfl) (Nat.le_of_ble_eq_true rfl) dX12_isLetter_17
theorem dX12_isDigit_0 : decode cX12_isDigit 0 = .ok (.iload_n 0, 1) := by decide +kernel
theorem dX12_isDigit_1 : decode cX12_isDigit 1 = .ok (.bipush 48, 2) := by decide +kernel
theorem dX12_isDigit_3 : decode cX12_isDigit 3 = .ok (.if_icmp .lt 13, 3) := by decide +kernel
theorem dX12_isDigit_6 : decode cX12_isDigit 6 = .ok (.iload_n 0, 1) := by decide +kernel
theorem dX12_isDigit_7 : decode cX12_isDigit 7 = .ok (.bipush 57, 2) := by decide +kernel
theorem dX12_isDigit_9 : decode cX12_isDigit 9 = .ok (.if_icmp .gt 7, 3) := by decide +kernel
theorem dX12_isDigit_12 : decode cX12_isDigit 12 = .ok (.iconst 1, 1) := by decide +kernel
theorem dX12_isDigit_13 : decode cX12_isDigit 13 = .ok (.goto 4, 3) := by decide +kernel
theorem dX12_isDigit_16 : decode cX12_isDigit 16 = .ok (.iconst 0, 1) := by decide +kernel
theorem dX12_isDigit_17 : decode cX12_isDigit 17 = .ok (.ireturn, 1) := by decide +kernel
set_option maxHeartbeats 4000000 in
set_option maxRecDepth 100000 in
theorem e_X12_isDigit (l : Launch) (D : va_G) (ca : Nat → ClassId) (sz : Nat) (a1 : Int32)  : oMet l yX12_isDigit wsX12_isDigit ({ frames := 0, cells := 0, slots := 0, locals := 0 } : Room) [.int a1] D ca sz [] (oQi D (fun (r : Int32) (u : Unit) => ((r = 0) ∧ (rg (-2147483648) 47 a1) ∧ ((a1 : Int32) < 48) ∧ (r = y_X12_isDigit a1)) ∨ ((r = 0) ∧ (rg 58 2147483647 a1) ∧ (¬ ((a1 : Int32) < 48)) ∧ ((57 : Int32) < a1) ∧ (r = y_X12_isDigit a1)) ∨ ((r = 1) ∧ (rg 48 57 a1) ∧ (¬ ((a1 : Int32) < 48)) ∧ (¬ ((57 : Int32) < a1)) ∧ (r = y_X12_isDigit a1))) (fun (u : Unit) => [])) 0 0 := by
  refine oM (cc := cX12_isDigit) (maxL := 1) (ret := (some .boolean)) (by decide) rfl (Nat.le_of_ble_eq_true rfl) [(0, .int a1)] rfl ?_
  intro p e s m below meth c A H locs ls hx hb hr hml hts hown hlocks hin hK hP hD hA hS hl
  have hown : s.vm.findClass RX12 = some m.cls := hown
  have hY := y_X12_isDigit_s a1
  refine lv_iload_n hx hb dX12_isDigit_0 rfl (lv_at hl 0 rfl) ?_
  refine lv_bipush (v := 48) hx hb dX12_isDigit_1 (by decide) ?_
  refine lv_icmp_lt (tgt := 16) hx hb dX12_isDigit_3 (by decide) (fun c_11 => ?_) (fun c_11 => ?_)
  · skip
    have hY := hY.trans (if_pos c_11)
    have o_12 : rl 1 a1 48 := rl_lt c_11
    have h_13 : rg (-2147483648) 47 a1 := rl_x o_12 (rga a1) (⟨by decide, by decide⟩ : rg 48 48 (48 : Int32)) (by decide) (by decide)
    refine lv_iconst (v := 0) hx hb dX12_isDigit_16 (by decide) ?_
    exact oE_i hx hb hr (by decide) hlocks hP hD hS () [] rfl (by decide) (Or.inl ⟨rfl, h_13, c_11, hY.symm⟩) (Nat.le_of_ble_eq_true rfl) (Nat.le_of_ble_eq_true rfl) dX12_isDigit_17
  · skip
    have hY := hY.trans (if_neg c_11)
    have o_14 : rl 0 48 a1 := rl_nlt c_11
    have h_15 : rg 48 2147483647 a1 := rl_y o_14 (⟨by decide, by decide⟩ : rg 48 48 (48 : Int32)) (rga a1) (by decide) (by decide)
    refine lv_iload_n hx hb dX12_isDigit_6 rfl (lv_at hl 0 rfl) ?_
    refine lv_bipush (v := 57) hx hb dX12_isDigit_7 (by decide) ?_
    refine lv_icmp_gt (tgt := 16) hx hb dX12_isDigit_9 (by decide) (fun c_16 => ?_) (fun c_16 => ?_)
    · skip
      have hY := hY.trans (if_pos c_16)
      have o_17 : rl 1 57 a1 := rl_lt c_16
      have h_18 : rg 58 2147483647 a1 := rl_y o_17 (⟨by decide, by decide⟩ : rg 57 57 (57 : Int32)) h_15 (by decide) (by decide)
      refine lv_iconst (v := 0) hx hb dX12_isDigit_16 (by decide) ?_
      exact oE_i hx hb hr (by decide) hlocks hP hD hS () [] rfl (by decide) (Or.inr (Or.inl ⟨rfl, h_18, c_11, c_16, hY.symm⟩)) (Nat.le_of_ble_eq_true rfl) (Nat.le_of_ble_eq_true rfl) dX12_isDigit_17
    · skip
      have hY := hY.trans (if_neg c_16)
      have o_19 : rl 0 a1 57 := rl_nlt c_16
      have h_20 : rg 48 57 a1 := rl_x o_19 h_15 (⟨by decide, by decide⟩ : rg 57 57 (57 : Int32)) (by decide) (by decide)
      refine lv_iconst (v := 1) hx hb dX12_isDigit_12 (by decide) ?_
      refine lv_goto (tgt := 17) hx hb dX12_isDigit_13 (by decide) ?_
      exact oE_i hx hb hr (by decide) hlocks hP hD hS () [] rfl (by decide) (Or.inr (Or.inr (⟨rfl, h_20, c_11, c_16, hY.symm⟩))) (Nat.le_of_ble_eq_true rfl) (Nat.le_of_ble_eq_true rfl) dX12_isDigit_17
theorem dX12_tapeAt_0 : decode cX12_tapeAt 0 = .ok (.iload_n 1, 1) := by decide +kernel
theorem dX12_tapeAt_1 : decode cX12_tapeAt 1 = .ok (.aload_n 0, 1) := by decide +kernel
theorem dX12_tapeAt_2 : decode cX12_tapeAt 2 = .ok (.getfield 18, 3) := by decide +kernel
theorem dX12_tapeAt_5 : decode cX12_tapeAt 5 = .ok (.if_icmp .ge 12, 3) := by decide +kernel
theorem dX12_tapeAt_8 : decode cX12_tapeAt 8 = .ok (.aload_n 0, 1) := by decide +kernel
theorem dX12_tapeAt_9 : decode cX12_tapeAt 9 = .ok (.getfield 7, 3) := by decide +kernel
theorem dX12_tapeAt_12 : decode cX12_tapeAt 12 = .ok (.iload_n 1, 1) := by decide +kernel
theorem dX12_tapeAt_13 : decode cX12_tapeAt 13 = .ok (.iaload, 1) := by decide +kernel
theorem dX12_tapeAt_14 : decode cX12_tapeAt 14 = .ok (.goto 4, 3) := by decide +kernel
theorem dX12_tapeAt_17 : decode cX12_tapeAt 17 = .ok (.iconst 0, 1) := by decide +kernel
theorem dX12_tapeAt_18 : decode cX12_tapeAt 18 = .ok (.ireturn, 1) := by decide +kernel
set_option maxHeartbeats 4000000 in
set_option maxRecDepth 100000 in
theorem e_X12_tapeAt (l : Launch) (D : va_G) (ca : Nat → ClassId) (sz : Nat) (h0 : Nat) (a1 : Int32) (h0_thrown : Int32) (h0_tape : Nat) (h0_taped : Int32) (h0_size : Int32) (h0_limit : Int32) (h0_to : Int32) (h0_from : Int32) (h0_kind : Int32) (h0_number : Int32) (h0_sign : Int32) (h0_fault : Int32) (h0_place : Int32) (h0_word : Int64) (h0_told : Int32) (h0_now : Nat) (h0_read : Nat) (h0_kept : Nat) (h0_snaps : Nat) (h0_aside : Nat) (h0_name : Nat) (h0_readName : Nat) (h0_keptName : Nat) (h0_isKept : Nat) (h0_onces : Nat) (h0_snapMany : Int32) (h0_lowest : Int32) (h0_highest : Int32) (h0_agreed : Int32) (h0_jurors : Int32) (h0_panelled : Int32) (h0_inSets : Nat) (h0_surely : Int32) (h0_asked : Int32) (h0_frees : Nat) (h0_struck : Int32) (h0_beating : Int32) (h0_text : Nat) (h0_texts : Int32) (h0_seed : Int32) (h0_line : Nat) (h0_written : Nat) (h0_lineMany : Int32) (h0_hasWritten : Int32) (h0_node : Nat) (h0_nodes : Int32) (h0_onesMany : Int32) (h0_within : Int32) (h0_top : Int32) (F_h0_tape : Nat → Int32) (i_a1 : rg 0 940 a1) (i_h0_taped : rg 0 940 h0_taped) (i_h0_size : rg 0 940 h0_size) (i_h0_to : rg 0 940 h0_to) (i_h0_kind : rg 0 4 h0_kind) (i_h0_snapMany : rg 0 8 h0_snapMany) (i_h0_texts : rg 0 64 h0_texts) (i_h0_lineMany : rg 0 40 h0_lineMany) (i_h0_hasWritten : rg 0 1 h0_hasWritten) (i_h0_nodes : rg 0 60 h0_nodes) (i_h0_onesMany : rg 0 20 h0_onesMany) (s_h0_tape_0 : sg 0 940 0 255 F_h0_tape) : oMet l yX12_tapeAt wsX12_tapeAt ({ frames := 0, cells := 0, slots := 0, locals := 0 } : Room) [.ref h0, .int a1] D ca sz [(h0, .inr (11, [.int h0_thrown, .ref h0_tape, .int h0_taped, .int h0_size, .int h0_limit, .int h0_to, .int h0_from, .int h0_kind, .int h0_number, .int h0_sign, .int h0_fault, .int h0_place, .long h0_word, .int h0_told, .ref h0_now, .ref h0_read, .ref h0_kept, .ref h0_snaps, .ref h0_aside, .ref h0_name, .ref h0_readName, .ref h0_keptName, .ref h0_isKept, .ref h0_onces, .int h0_snapMany, .int h0_lowest, .int h0_highest, .int h0_agreed, .int h0_jurors, .int h0_panelled, .ref h0_inSets, .int h0_surely, .int h0_asked, .ref h0_frees, .int h0_struck, .int h0_beating, .ref h0_text, .int h0_texts, .int h0_seed, .ref h0_line, .ref h0_written, .int h0_lineMany, .int h0_hasWritten, .ref h0_node, .int h0_nodes, .int h0_onesMany, .int h0_within, .int h0_top])), (aI ca h0_tape 940 F_h0_tape)] (oQi D (fun (r : Int32) (u : Unit) => ((r = 0) ∧ (rl 0 h0_size a1) ∧ (h0_size ≤ a1) ∧ (r = y_X12_tapeAt a1 h0_size F_h0_tape)) ∨ ((r = F_h0_tape (a1 : Int32).toNatClampNeg) ∧ (rg 0 255 r) ∧ (rg 0 939 a1) ∧ (rg 1 940 h0_size) ∧ (rl 1 a1 h0_size) ∧ (¬ (h0_size ≤ a1)) ∧ (r = y_X12_tapeAt a1 h0_size F_h0_tape))) (fun (u : Unit) => [(h0, .inr (11, [.int h0_thrown, .ref h0_tape, .int h0_taped, .int h0_size, .int h0_limit, .int h0_to, .int h0_from, .int h0_kind, .int h0_number, .int h0_sign, .int h0_fault, .int h0_place, .long h0_word, .int h0_told, .ref h0_now, .ref h0_read, .ref h0_kept, .ref h0_snaps, .ref h0_aside, .ref h0_name, .ref h0_readName, .ref h0_keptName, .ref h0_isKept, .ref h0_onces, .int h0_snapMany, .int h0_lowest, .int h0_highest, .int h0_agreed, .int h0_jurors, .int h0_panelled, .ref h0_inSets, .int h0_surely, .int h0_asked, .ref h0_frees, .int h0_struck, .int h0_beating, .ref h0_text, .int h0_texts, .int h0_seed, .ref h0_line, .ref h0_written, .int h0_lineMany, .int h0_hasWritten, .ref h0_node, .int h0_nodes, .int h0_onesMany, .int h0_within, .int h0_top])), (aI ca h0_tape 940 F_h0_tape)])) 0 0 := by
  refine oM (cc := cX12_tapeAt) (maxL := 2) (ret := (some .int)) (by decide) rfl (Nat.le_of_ble_eq_true rfl) [(0, .ref h0), (1, .int a1)] rfl ?_
  intro p e s m below meth c A H locs ls hx hb hr hml hts hown hlocks hin hK hP hD hA hS hl
  have hown : s.vm.findClass RX12 = some m.cls := hown
  have hY := y_X12_tapeAt_s a1 h0_size F_h0_tape
  have k1 := hts (.fieldLink RX12 18 "LidCourtModel" "size" "I") (by decide +kernel)
  have k2 : ∀ w ∈ wsX120, w ∈ wsX12_tapeAt := fun _ h => List.mem_cons_of_mem _ (List.mem_append_right _ h)
  have k3 := hts (.fieldLink RX12 7 "LidCourtModel" "tape" "[I") (by decide +kernel)
  refine lv_iload_n hx hb dX12_tapeAt_0 rfl (lv_at hl 1 rfl) ?_
  refine lv_aload_n hx hb dX12_tapeAt_1 rfl (lv_at hl 0 rfl) ?_
  refine va_get (D := D) (ci := 11) (v := .int h0_size) (C := RX12) (T := TX12) (N := 48) hx hb hts k2 hown hK.1 hP 0 rfl rfl 3 (by decide) k1 (fun _ h9 => h9) rfl dX12_tapeAt_2 ?_
  refine lv_icmp_ge (tgt := 17) hx hb dX12_tapeAt_5 (by decide) (fun c_8 => ?_) (fun c_8 => ?_)
  · skip
    have hY := hY.trans (if_pos c_8)
    have o_9 : rl 0 h0_size a1 := rl_le c_8
    refine lv_iconst (v := 0) hx hb dX12_tapeAt_17 (by decide) ?_
    exact oE_i hx hb hr rfl hlocks hP hD hS () [0, 1] rfl (by decide) (Or.inl ⟨rfl, (show rl 0 h0_size a1 from rlm (by have q0 := rle o_9; omega)), c_8, hY.symm⟩) (Nat.le_of_ble_eq_true rfl) (Nat.le_of_ble_eq_true rfl) dX12_tapeAt_18
  · skip
    have hY := hY.trans (if_neg c_8)
    have o_10 : rl 1 a1 h0_size := rl_nle c_8
    have h_11 : rg 0 939 a1 := rl_x o_10 i_a1 i_h0_size (by decide) (by decide)
    have h_12 : rg 1 940 h0_size := rl_y o_10 i_a1 i_h0_size (by decide) (by decide)
    refine lv_aload_n hx hb dX12_tapeAt_8 rfl (lv_at hl 0 rfl) ?_
    refine va_get (D := D) (ci := 11) (v := .ref h0_tape) (C := RX12) (T := TX12) (N := 48) hx hb hts k2 hown hK.1 hP 0 rfl rfl 1 (by decide) k3 (fun _ h9 => h9) rfl dX12_tapeAt_9 ?_
    refine lv_iload_n hx hb dX12_tapeAt_12 rfl (lv_at hl 1 rfl) ?_
    refine va_iald hx hb hK.1 hP 1 0 rfl rfl (rg_in h_11 (by decide) (by decide)) dX12_tapeAt_13 ?_
    refine lv_topi (fun x_13 ex_13 => ?_)
    have hY := hY.trans (lt1_e ex_13)
    have h_14 : rg 0 255 x_13 := by rw [ex_13]; exact sg_at s_h0_tape_0 h_11 (by decide) (by decide) (by decide)
    refine lv_goto (tgt := 18) hx hb dX12_tapeAt_14 (by decide) ?_
    exact oE_i hx hb hr rfl hlocks hP hD hS () [0, 1] rfl (by decide) (Or.inr (⟨ex_13, h_14, h_11, h_12, (show rl 1 a1 h0_size from rlm (by have q0 := rle o_10; omega)), c_8, hY.symm⟩)) (Nat.le_of_ble_eq_true rfl) (Nat.le_of_ble_eq_true rfl) dX12_tapeAt_18
theorem dX12_go_0 : decode cX12_go 0 = .ok (.aload_n 0, 1) := by decide +kernel
theorem dX12_go_1 : decode cX12_go 1 = .ok (.getfield 21, 3) := by decide +kernel
theorem dX12_go_4 : decode cX12_go 4 = .ok (.aload_n 0, 1) := by decide +kernel
theorem dX12_go_5 : decode cX12_go 5 = .ok (.getfield 18, 3) := by decide +kernel
theorem dX12_go_8 : decode cX12_go 8 = .ok (.if_icmp .ge 44, 3) := by decide +kernel
theorem dX12_go_11 : decode cX12_go 11 = .ok (.aload_n 0, 1) := by decide +kernel
theorem dX12_go_12 : decode cX12_go 12 = .ok (.getfield 7, 3) := by decide +kernel
theorem dX12_go_15 : decode cX12_go 15 = .ok (.aload_n 0, 1) := by decide +kernel
theorem dX12_go_16 : decode cX12_go 16 = .ok (.getfield 21, 3) := by decide +kernel
theorem dX12_go_19 : decode cX12_go 19 = .ok (.iaload, 1) := by decide +kernel
theorem dX12_go_20 : decode cX12_go 20 = .ok (.bipush 32, 2) := by decide +kernel
theorem dX12_go_22 : decode cX12_go 22 = .ok (.if_icmp .eq 17, 3) := by decide +kernel
theorem dX12_go_25 : decode cX12_go 25 = .ok (.aload_n 0, 1) := by decide +kernel
theorem dX12_go_26 : decode cX12_go 26 = .ok (.getfield 7, 3) := by decide +kernel
theorem dX12_go_29 : decode cX12_go 29 = .ok (.aload_n 0, 1) := by decide +kernel
theorem dX12_go_30 : decode cX12_go 30 = .ok (.getfield 21, 3) := by decide +kernel
theorem dX12_go_33 : decode cX12_go 33 = .ok (.iaload, 1) := by decide +kernel
theorem dX12_go_34 : decode cX12_go 34 = .ok (.bipush 10, 2) := by decide +kernel
theorem dX12_go_36 : decode cX12_go 36 = .ok (.if_icmp .ne 16, 3) := by decide +kernel
theorem dX12_go_39 : decode cX12_go 39 = .ok (.aload_n 0, 1) := by decide +kernel
theorem dX12_go_40 : decode cX12_go 40 = .ok (.dup, 1) := by decide +kernel
theorem dX12_go_41 : decode cX12_go 41 = .ok (.getfield 21, 3) := by decide +kernel
theorem dX12_go_44 : decode cX12_go 44 = .ok (.iconst 1, 1) := by decide +kernel
theorem dX12_go_45 : decode cX12_go 45 = .ok (.iadd, 1) := by decide +kernel
theorem dX12_go_46 : decode cX12_go 46 = .ok (.putfield 21, 3) := by decide +kernel
theorem dX12_go_49 : decode cX12_go 49 = .ok (.goto (-49), 3) := by decide +kernel
theorem dX12_go_52 : decode cX12_go 52 = .ok (.aload_n 0, 1) := by decide +kernel
theorem dX12_go_53 : decode cX12_go 53 = .ok (.aload_n 0, 1) := by decide +kernel
theorem dX12_go_54 : decode cX12_go 54 = .ok (.getfield 21, 3) := by decide +kernel
theorem dX12_go_57 : decode cX12_go 57 = .ok (.putfield 24, 3) := by decide +kernel
theorem dX12_go_60 : decode cX12_go 60 = .ok (.aload_n 0, 1) := by decide +kernel
theorem dX12_go_61 : decode cX12_go 61 = .ok (.getfield 18, 3) := by decide +kernel
theorem dX12_go_64 : decode cX12_go 64 = .ok (.aload_n 0, 1) := by decide +kernel
theorem dX12_go_65 : decode cX12_go 65 = .ok (.getfield 27, 3) := by decide +kernel
theorem dX12_go_68 : decode cX12_go 68 = .ok (.if_icmp .le 28, 3) := by decide +kernel
theorem dX12_go_71 : decode cX12_go 71 = .ok (.aload_n 0, 1) := by decide +kernel
theorem dX12_go_72 : decode cX12_go 72 = .ok (.getfield 24, 3) := by decide +kernel
theorem dX12_go_75 : decode cX12_go 75 = .ok (.aload_n 0, 1) := by decide +kernel
theorem dX12_go_76 : decode cX12_go 76 = .ok (.getfield 27, 3) := by decide +kernel
theorem dX12_go_79 : decode cX12_go 79 = .ok (.if_icmp .lt 17, 3) := by decide +kernel
theorem dX12_go_82 : decode cX12_go 82 = .ok (.aload_n 0, 1) := by decide +kernel
theorem dX12_go_83 : decode cX12_go 83 = .ok (.aload_n 0, 1) := by decide +kernel
theorem dX12_go_84 : decode cX12_go 84 = .ok (.getfield 27, 3) := by decide +kernel
theorem dX12_go_87 : decode cX12_go 87 = .ok (.putfield 24, 3) := by decide +kernel
theorem dX12_go_90 : decode cX12_go 90 = .ok (.aload_n 0, 1) := by decide +kernel
theorem dX12_go_91 : decode cX12_go 91 = .ok (.iconst 1, 1) := by decide +kernel
theorem dX12_go_92 : decode cX12_go 92 = .ok (.putfield 30, 3) := by decide +kernel
theorem dX12_go_95 : decode cX12_go 95 = .ok (.return_, 1) := by decide +kernel
theorem dX12_go_96 : decode cX12_go 96 = .ok (.aload_n 0, 1) := by decide +kernel
theorem dX12_go_97 : decode cX12_go 97 = .ok (.getfield 21, 3) := by decide +kernel
theorem dX12_go_100 : decode cX12_go 100 = .ok (.aload_n 0, 1) := by decide +kernel
theorem dX12_go_101 : decode cX12_go 101 = .ok (.getfield 18, 3) := by decide +kernel
theorem dX12_go_104 : decode cX12_go 104 = .ok (.if_icmp .lt 9, 3) := by decide +kernel
theorem dX12_go_107 : decode cX12_go 107 = .ok (.aload_n 0, 1) := by decide +kernel
theorem dX12_go_108 : decode cX12_go 108 = .ok (.iconst 0, 1) := by decide +kernel
theorem dX12_go_109 : decode cX12_go 109 = .ok (.putfield 30, 3) := by decide +kernel
theorem dX12_go_112 : decode cX12_go 112 = .ok (.return_, 1) := by decide +kernel
theorem dX12_go_113 : decode cX12_go 113 = .ok (.aload_n 0, 1) := by decide +kernel
theorem dX12_go_114 : decode cX12_go 114 = .ok (.getfield 7, 3) := by decide +kernel
theorem dX12_go_117 : decode cX12_go 117 = .ok (.aload_n 0, 1) := by decide +kernel
theorem dX12_go_118 : decode cX12_go 118 = .ok (.getfield 21, 3) := by decide +kernel
theorem dX12_go_121 : decode cX12_go 121 = .ok (.iaload, 1) := by decide +kernel
theorem dX12_go_122 : decode cX12_go 122 = .ok (.istore_n 1, 1) := by decide +kernel
theorem dX12_go_123 : decode cX12_go 123 = .ok (.iload_n 1, 1) := by decide +kernel
theorem dX12_go_124 : decode cX12_go 124 = .ok (.invokestatic 33, 3) := by decide +kernel
theorem dX12_go_127 : decode cX12_go 127 = .ok (.ifCond .ne 71, 3) := by decide +kernel
theorem dX12_go_130 : decode cX12_go 130 = .ok (.iload_n 1, 1) := by decide +kernel
theorem dX12_go_131 : decode cX12_go 131 = .ok (.invokestatic 37, 3) := by decide +kernel
theorem dX12_go_134 : decode cX12_go 134 = .ok (.ifCond .ne 64, 3) := by decide +kernel
theorem dX12_go_137 : decode cX12_go 137 = .ok (.aload_n 0, 1) := by decide +kernel
theorem dX12_go_138 : decode cX12_go 138 = .ok (.iload_n 1, 1) := by decide +kernel
theorem dX12_go_139 : decode cX12_go 139 = .ok (.bipush 59, 2) := by decide +kernel
theorem dX12_go_141 : decode cX12_go 141 = .ok (.if_icmp .eq 33, 3) := by decide +kernel
theorem dX12_go_144 : decode cX12_go 144 = .ok (.iload_n 1, 1) := by decide +kernel
theorem dX12_go_145 : decode cX12_go 145 = .ok (.bipush 60, 2) := by decide +kernel
theorem dX12_go_147 : decode cX12_go 147 = .ok (.if_icmp .eq 27, 3) := by decide +kernel
theorem dX12_go_150 : decode cX12_go 150 = .ok (.iload_n 1, 1) := by decide +kernel
theorem dX12_go_151 : decode cX12_go 151 = .ok (.bipush 61, 2) := by decide +kernel
theorem dX12_go_153 : decode cX12_go 153 = .ok (.if_icmp .eq 21, 3) := by decide +kernel
theorem dX12_go_156 : decode cX12_go 156 = .ok (.iload_n 1, 1) := by decide +kernel
theorem dX12_go_157 : decode cX12_go 157 = .ok (.bipush 62, 2) := by decide +kernel
theorem dX12_go_159 : decode cX12_go 159 = .ok (.if_icmp .eq 15, 3) := by decide +kernel
theorem dX12_go_162 : decode cX12_go 162 = .ok (.iload_n 1, 1) := by decide +kernel
theorem dX12_go_163 : decode cX12_go 163 = .ok (.bipush 40, 2) := by decide +kernel
theorem dX12_go_165 : decode cX12_go 165 = .ok (.if_icmp .eq 9, 3) := by decide +kernel
theorem dX12_go_168 : decode cX12_go 168 = .ok (.iload_n 1, 1) := by decide +kernel
theorem dX12_go_169 : decode cX12_go 169 = .ok (.bipush 41, 2) := by decide +kernel
theorem dX12_go_171 : decode cX12_go 171 = .ok (.if_icmp .ne 7, 3) := by decide +kernel
theorem dX12_go_174 : decode cX12_go 174 = .ok (.iconst 4, 1) := by decide +kernel
theorem dX12_go_175 : decode cX12_go 175 = .ok (.goto 4, 3) := by decide +kernel
theorem dX12_go_178 : decode cX12_go 178 = .ok (.iconst 1, 1) := by decide +kernel
theorem dX12_go_179 : decode cX12_go 179 = .ok (.putfield 30, 3) := by decide +kernel
theorem dX12_go_182 : decode cX12_go 182 = .ok (.aload_n 0, 1) := by decide +kernel
theorem dX12_go_183 : decode cX12_go 183 = .ok (.iload_n 1, 1) := by decide +kernel
theorem dX12_go_184 : decode cX12_go 184 = .ok (.putfield 40, 3) := by decide +kernel
theorem dX12_go_187 : decode cX12_go 187 = .ok (.aload_n 0, 1) := by decide +kernel
theorem dX12_go_188 : decode cX12_go 188 = .ok (.dup, 1) := by decide +kernel
theorem dX12_go_189 : decode cX12_go 189 = .ok (.getfield 21, 3) := by decide +kernel
theorem dX12_go_192 : decode cX12_go 192 = .ok (.iconst 1, 1) := by decide +kernel
theorem dX12_go_193 : decode cX12_go 193 = .ok (.iadd, 1) := by decide +kernel
theorem dX12_go_194 : decode cX12_go 194 = .ok (.putfield 21, 3) := by decide +kernel
theorem dX12_go_197 : decode cX12_go 197 = .ok (.return_, 1) := by decide +kernel
theorem dX12_go_198 : decode cX12_go 198 = .ok (.iload_n 1, 1) := by decide +kernel
theorem dX12_go_199 : decode cX12_go 199 = .ok (.invokestatic 33, 3) := by decide +kernel
theorem dX12_go_202 : decode cX12_go 202 = .ok (.istore_n 2, 1) := by decide +kernel
theorem dX12_go_203 : decode cX12_go 203 = .ok (.iconst 1, 1) := by decide +kernel
theorem dX12_go_204 : decode cX12_go 204 = .ok (.istore_n 3, 1) := by decide +kernel
theorem dX12_go_205 : decode cX12_go 205 = .ok (.aload_n 0, 1) := by decide +kernel
theorem dX12_go_206 : decode cX12_go 206 = .ok (.lconst 0, 1) := by decide +kernel
theorem dX12_go_207 : decode cX12_go 207 = .ok (.putfield 43, 3) := by decide +kernel
theorem dX12_go_210 : decode cX12_go 210 = .ok (.aload_n 0, 1) := by decide +kernel
theorem dX12_go_211 : decode cX12_go 211 = .ok (.iconst 0, 1) := by decide +kernel
theorem dX12_go_212 : decode cX12_go 212 = .ok (.putfield 47, 3) := by decide +kernel
theorem dX12_go_215 : decode cX12_go 215 = .ok (.aload_n 0, 1) := by decide +kernel
theorem dX12_go_216 : decode cX12_go 216 = .ok (.aload_n 0, 1) := by decide +kernel
theorem dX12_go_217 : decode cX12_go 217 = .ok (.getfield 21, 3) := by decide +kernel
theorem dX12_go_220 : decode cX12_go 220 = .ok (.invokevirtual 50, 3) := by decide +kernel
theorem dX12_go_223 : decode cX12_go 223 = .ok (.invokestatic 33, 3) := by decide +kernel
theorem dX12_go_226 : decode cX12_go 226 = .ok (.ifCond .ne 17, 3) := by decide +kernel
theorem dX12_go_229 : decode cX12_go 229 = .ok (.aload_n 0, 1) := by decide +kernel
theorem dX12_go_230 : decode cX12_go 230 = .ok (.aload_n 0, 1) := by decide +kernel
theorem dX12_go_231 : decode cX12_go 231 = .ok (.getfield 21, 3) := by decide +kernel
theorem dX12_go_234 : decode cX12_go 234 = .ok (.invokevirtual 50, 3) := by decide +kernel
theorem dX12_go_237 : decode cX12_go 237 = .ok (.invokestatic 37, 3) := by decide +kernel
theorem dX12_go_240 : decode cX12_go 240 = .ok (.ifCond .eq 110, 3) := by decide +kernel
theorem dX12_go_243 : decode cX12_go 243 = .ok (.aload_n 0, 1) := by decide +kernel
theorem dX12_go_244 : decode cX12_go 244 = .ok (.getfield 7, 3) := by decide +kernel
theorem dX12_go_247 : decode cX12_go 247 = .ok (.aload_n 0, 1) := by decide +kernel
theorem dX12_go_248 : decode cX12_go 248 = .ok (.getfield 21, 3) := by decide +kernel
theorem dX12_go_251 : decode cX12_go 251 = .ok (.iaload, 1) := by decide +kernel
theorem dX12_go_252 : decode cX12_go 252 = .ok (.istore 4, 2) := by decide +kernel
theorem dX12_go_254 : decode cX12_go 254 = .ok (.iload_n 3, 1) := by decide +kernel
theorem dX12_go_255 : decode cX12_go 255 = .ok (.ifCond .eq 16, 3) := by decide +kernel
theorem dX12_go_258 : decode cX12_go 258 = .ok (.iload 4, 2) := by decide +kernel
theorem dX12_go_260 : decode cX12_go 260 = .ok (.invokestatic 33, 3) := by decide +kernel
theorem dX12_go_263 : decode cX12_go 263 = .ok (.iload_n 2, 1) := by decide +kernel
theorem dX12_go_264 : decode cX12_go 264 = .ok (.if_icmp .ne 7, 3) := by decide +kernel
theorem dX12_go_267 : decode cX12_go 267 = .ok (.iconst 1, 1) := by decide +kernel
theorem dX12_go_268 : decode cX12_go 268 = .ok (.goto 4, 3) := by decide +kernel
theorem dX12_go_271 : decode cX12_go 271 = .ok (.iconst 0, 1) := by decide +kernel
theorem dX12_go_272 : decode cX12_go 272 = .ok (.istore_n 3, 1) := by decide +kernel
theorem dX12_go_273 : decode cX12_go 273 = .ok (.aload_n 0, 1) := by decide +kernel
theorem dX12_go_274 : decode cX12_go 274 = .ok (.getfield 21, 3) := by decide +kernel
theorem dX12_go_277 : decode cX12_go 277 = .ok (.aload_n 0, 1) := by decide +kernel
theorem dX12_go_278 : decode cX12_go 278 = .ok (.getfield 24, 3) := by decide +kernel
theorem dX12_go_281 : decode cX12_go 281 = .ok (.isub, 1) := by decide +kernel
theorem dX12_go_282 : decode cX12_go 282 = .ok (.bipush 7, 2) := by decide +kernel
theorem dX12_go_284 : decode cX12_go 284 = .ok (.if_icmp .ge 23, 3) := by decide +kernel
theorem dX12_go_287 : decode cX12_go 287 = .ok (.aload_n 0, 1) := by decide +kernel
theorem dX12_go_288 : decode cX12_go 288 = .ok (.ldc2_w 54, 3) := by decide +kernel
theorem dX12_go_291 : decode cX12_go 291 = .ok (.aload_n 0, 1) := by decide +kernel
theorem dX12_go_292 : decode cX12_go 292 = .ok (.getfield 43, 3) := by decide +kernel
theorem dX12_go_295 : decode cX12_go 295 = .ok (.lmul, 1) := by decide +kernel
theorem dX12_go_296 : decode cX12_go 296 = .ok (.iload 4, 2) := by decide +kernel
theorem dX12_go_298 : decode cX12_go 298 = .ok (.i2l, 1) := by decide +kernel
theorem dX12_go_299 : decode cX12_go 299 = .ok (.ladd, 1) := by decide +kernel
theorem dX12_go_300 : decode cX12_go 300 = .ok (.ldc2_w 56, 3) := by decide +kernel
theorem dX12_go_303 : decode cX12_go 303 = .ok (.lsub, 1) := by decide +kernel
theorem dX12_go_304 : decode cX12_go 304 = .ok (.putfield 43, 3) := by decide +kernel
theorem dX12_go_307 : decode cX12_go 307 = .ok (.aload_n 0, 1) := by decide +kernel
theorem dX12_go_308 : decode cX12_go 308 = .ok (.getfield 21, 3) := by decide +kernel
theorem dX12_go_311 : decode cX12_go 311 = .ok (.aload_n 0, 1) := by decide +kernel
theorem dX12_go_312 : decode cX12_go 312 = .ok (.getfield 24, 3) := by decide +kernel
theorem dX12_go_315 : decode cX12_go 315 = .ok (.isub, 1) := by decide +kernel
theorem dX12_go_316 : decode cX12_go 316 = .ok (.iconst 3, 1) := by decide +kernel
theorem dX12_go_317 : decode cX12_go 317 = .ok (.if_icmp .ge 20, 3) := by decide +kernel
theorem dX12_go_320 : decode cX12_go 320 = .ok (.aload_n 0, 1) := by decide +kernel
theorem dX12_go_321 : decode cX12_go 321 = .ok (.bipush 10, 2) := by decide +kernel
theorem dX12_go_323 : decode cX12_go 323 = .ok (.aload_n 0, 1) := by decide +kernel
theorem dX12_go_324 : decode cX12_go 324 = .ok (.getfield 47, 3) := by decide +kernel
theorem dX12_go_327 : decode cX12_go 327 = .ok (.imul, 1) := by decide +kernel
theorem dX12_go_328 : decode cX12_go 328 = .ok (.iload 4, 2) := by decide +kernel
theorem dX12_go_330 : decode cX12_go 330 = .ok (.iadd, 1) := by decide +kernel
theorem dX12_go_331 : decode cX12_go 331 = .ok (.bipush 48, 2) := by decide +kernel
theorem dX12_go_333 : decode cX12_go 333 = .ok (.isub, 1) := by decide +kernel
theorem dX12_go_334 : decode cX12_go 334 = .ok (.putfield 47, 3) := by decide +kernel
theorem dX12_go_337 : decode cX12_go 337 = .ok (.aload_n 0, 1) := by decide +kernel
theorem dX12_go_338 : decode cX12_go 338 = .ok (.dup, 1) := by decide +kernel
theorem dX12_go_339 : decode cX12_go 339 = .ok (.getfield 21, 3) := by decide +kernel
theorem dX12_go_342 : decode cX12_go 342 = .ok (.iconst 1, 1) := by decide +kernel
theorem dX12_go_343 : decode cX12_go 343 = .ok (.iadd, 1) := by decide +kernel
theorem dX12_go_344 : decode cX12_go 344 = .ok (.putfield 21, 3) := by decide +kernel
theorem dX12_go_347 : decode cX12_go 347 = .ok (.goto (-132), 3) := by decide +kernel
theorem dX12_go_350 : decode cX12_go 350 = .ok (.aload_n 0, 1) := by decide +kernel
theorem dX12_go_351 : decode cX12_go 351 = .ok (.iload_n 3, 1) := by decide +kernel
theorem dX12_go_352 : decode cX12_go 352 = .ok (.ifCond .eq 25, 3) := by decide +kernel
theorem dX12_go_355 : decode cX12_go 355 = .ok (.aload_n 0, 1) := by decide +kernel
theorem dX12_go_356 : decode cX12_go 356 = .ok (.getfield 21, 3) := by decide +kernel
theorem dX12_go_359 : decode cX12_go 359 = .ok (.aload_n 0, 1) := by decide +kernel
theorem dX12_go_360 : decode cX12_go 360 = .ok (.getfield 24, 3) := by decide +kernel
theorem dX12_go_363 : decode cX12_go 363 = .ok (.isub, 1) := by decide +kernel
theorem dX12_go_364 : decode cX12_go 364 = .ok (.iload_n 2, 1) := by decide +kernel
theorem dX12_go_365 : decode cX12_go 365 = .ok (.ifCond .eq 8, 3) := by decide +kernel
theorem dX12_go_368 : decode cX12_go 368 = .ok (.bipush 7, 2) := by decide +kernel
theorem dX12_go_370 : decode cX12_go 370 = .ok (.goto 4, 3) := by decide +kernel
theorem dX12_go_373 : decode cX12_go 373 = .ok (.iconst 3, 1) := by decide +kernel
theorem dX12_go_374 : decode cX12_go 374 = .ok (.if_icmp .le 7, 3) := by decide +kernel
theorem dX12_go_377 : decode cX12_go 377 = .ok (.iconst 1, 1) := by decide +kernel
theorem dX12_go_378 : decode cX12_go 378 = .ok (.goto 12, 3) := by decide +kernel
theorem dX12_go_381 : decode cX12_go 381 = .ok (.iload_n 2, 1) := by decide +kernel
theorem dX12_go_382 : decode cX12_go 382 = .ok (.ifCond .eq 7, 3) := by decide +kernel
theorem dX12_go_385 : decode cX12_go 385 = .ok (.iconst 2, 1) := by decide +kernel
theorem dX12_go_386 : decode cX12_go 386 = .ok (.goto 4, 3) := by decide +kernel
theorem dX12_go_389 : decode cX12_go 389 = .ok (.iconst 3, 1) := by decide +kernel
theorem dX12_go_390 : decode cX12_go 390 = .ok (.putfield 30, 3) := by decide +kernel
theorem dX12_go_393 : decode cX12_go 393 = .ok (.return_, 1) := by decide +kernel
set_option maxRecDepth 20000 in
theorem ggX12_go_X12_isLetter : GoodIn wsX12_go wsX12_isLetter := goodIn_r _ [15] rfl (by decide +kernel)
set_option maxRecDepth 20000 in
theorem gX12_go_X12_isLetter : GoodIn wsX12_go (va_wsS RX12 33 yX12_isLetter wsX12_isLetter) := goodIn_app (goodIn_of _ (by decide +kernel)) ggX12_go_X12_isLetter
set_option maxRecDepth 20000 in
theorem ggX12_go_X12_isDigit : GoodIn wsX12_go wsX12_isDigit := goodIn_r _ [18] rfl (by decide +kernel)
set_option maxRecDepth 20000 in
theorem gX12_go_X12_isDigit : GoodIn wsX12_go (va_wsS RX12 37 yX12_isDigit wsX12_isDigit) := goodIn_app (goodIn_of _ (by decide +kernel)) ggX12_go_X12_isDigit
set_option maxRecDepth 20000 in
theorem ggX12_go_X12_tapeAt : GoodIn wsX12_go wsX12_tapeAt := goodIn_r _ [22, 2, 3, 23, 24, 25, 26, 27, 28, 29, 30, 31, 32, 33, 34, 35, 36, 37, 38, 39, 40, 41, 42, 43, 44, 45, 46, 47, 48, 49, 50, 51, 52, 53, 54, 55, 56, 57, 58, 59, 60, 61, 62, 63, 64, 65, 66, 67, 68, 69, 70] rfl (by decide +kernel)
set_option maxRecDepth 20000 in
theorem gX12_go_X12_tapeAt : GoodIn wsX12_go (wsV RX12 50 RX12 yX12_tapeAt wsX12_tapeAt) := goodIn_app (goodIn_of _ (by decide +kernel)) ggX12_go_X12_tapeAt
set_option maxHeartbeats 4000000 in
set_option maxRecDepth 100000 in
theorem e_X12_go (l : Launch) (D : va_G) (ca : Nat → ClassId) (sz : Nat) (h0 : Nat) (h0_thrown : Int32) (h0_tape : Nat) (h0_taped : Int32) (h0_size : Int32) (h0_limit : Int32) (h0_to : Int32) (h0_from : Int32) (h0_kind : Int32) (h0_number : Int32) (h0_sign : Int32) (h0_fault : Int32) (h0_place : Int32) (h0_word : Int64) (h0_told : Int32) (h0_now : Nat) (h0_read : Nat) (h0_kept : Nat) (h0_snaps : Nat) (h0_aside : Nat) (h0_name : Nat) (h0_readName : Nat) (h0_keptName : Nat) (h0_isKept : Nat) (h0_onces : Nat) (h0_snapMany : Int32) (h0_lowest : Int32) (h0_highest : Int32) (h0_agreed : Int32) (h0_jurors : Int32) (h0_panelled : Int32) (h0_inSets : Nat) (h0_surely : Int32) (h0_asked : Int32) (h0_frees : Nat) (h0_struck : Int32) (h0_beating : Int32) (h0_text : Nat) (h0_texts : Int32) (h0_seed : Int32) (h0_line : Nat) (h0_written : Nat) (h0_lineMany : Int32) (h0_hasWritten : Int32) (h0_node : Nat) (h0_nodes : Int32) (h0_onesMany : Int32) (h0_within : Int32) (h0_top : Int32) (F_h0_tape : Nat → Int32) (i_h0_taped : rg 0 940 h0_taped) (i_h0_size : rg 0 940 h0_size) (i_h0_to : rg 0 940 h0_to) (i_h0_kind : rg 0 4 h0_kind) (i_h0_snapMany : rg 0 8 h0_snapMany) (i_h0_texts : rg 0 64 h0_texts) (i_h0_lineMany : rg 0 40 h0_lineMany) (i_h0_hasWritten : rg 0 1 h0_hasWritten) (i_h0_nodes : rg 0 60 h0_nodes) (i_h0_onesMany : rg 0 20 h0_onesMany) (s_h0_tape_0 : sg 0 940 0 255 F_h0_tape) : oMet l yX12_go wsX12_go ({ frames := 1, cells := 0, slots := 0, locals := 21 } : Room) [.ref h0] D ca sz [(h0, .inr (11, [.int h0_thrown, .ref h0_tape, .int h0_taped, .int h0_size, .int h0_limit, .int h0_to, .int h0_from, .int h0_kind, .int h0_number, .int h0_sign, .int h0_fault, .int h0_place, .long h0_word, .int h0_told, .ref h0_now, .ref h0_read, .ref h0_kept, .ref h0_snaps, .ref h0_aside, .ref h0_name, .ref h0_readName, .ref h0_keptName, .ref h0_isKept, .ref h0_onces, .int h0_snapMany, .int h0_lowest, .int h0_highest, .int h0_agreed, .int h0_jurors, .int h0_panelled, .ref h0_inSets, .int h0_surely, .int h0_asked, .ref h0_frees, .int h0_struck, .int h0_beating, .ref h0_text, .int h0_texts, .int h0_seed, .ref h0_line, .ref h0_written, .int h0_lineMany, .int h0_hasWritten, .ref h0_node, .int h0_nodes, .int h0_onesMany, .int h0_within, .int h0_top])), (aI ca h0_tape 940 F_h0_tape)] (oQv D (fun (u : Int32 × Int32 × Int32 × Int32 × Int32 × Int64) => (rg 0 940 u.1) ∧ (rg (-2147483648) 940 u.2.1) ∧ (rg 0 4 u.2.2.1) ∧ (rl 0 h0_to u.1) ∧ (lk h0_to u.2.2.1 u.1) ∧ ((u.1, u.2.1, u.2.2.1, u.2.2.2.1, u.2.2.2.2.1, u.2.2.2.2.2) = y_X12_go h0_size h0_limit h0_to h0_number h0_sign h0_word F_h0_tape)) (fun (u : Int32 × Int32 × Int32 × Int32 × Int32 × Int64) => [(h0, .inr (11, [.int h0_thrown, .ref h0_tape, .int h0_taped, .int h0_size, .int h0_limit, .int u.1, .int u.2.1, .int u.2.2.1, .int u.2.2.2.1, .int u.2.2.2.2.1, .int h0_fault, .int h0_place, .long u.2.2.2.2.2, .int h0_told, .ref h0_now, .ref h0_read, .ref h0_kept, .ref h0_snaps, .ref h0_aside, .ref h0_name, .ref h0_readName, .ref h0_keptName, .ref h0_isKept, .ref h0_onces, .int h0_snapMany, .int h0_lowest, .int h0_highest, .int h0_agreed, .int h0_jurors, .int h0_panelled, .ref h0_inSets, .int h0_surely, .int h0_asked, .ref h0_frees, .int h0_struck, .int h0_beating, .ref h0_text, .int h0_texts, .int h0_seed, .ref h0_line, .ref h0_written, .int h0_lineMany, .int h0_hasWritten, .ref h0_node, .int h0_nodes, .int h0_onesMany, .int h0_within, .int h0_top])), (aI ca h0_tape 940 F_h0_tape)])) 0 0 := by
  refine oM (cc := cX12_go) (maxL := 5) (ret := none) (by decide) rfl (Nat.le_of_ble_eq_true rfl) [(0, .ref h0)] rfl ?_
  intro p e s m below meth c A H locs ls hx hb hr hml hts hown hlocks hin hK hP hD hA hS hl
  have hown : s.vm.findClass RX12 = some m.cls := hown
  have hY := y_X12_go_s h0_size h0_limit h0_to h0_number h0_sign h0_word F_h0_tape
  have k1 := hts (.fieldLink RX12 30 "LidCourtModel" "kind" "I") (by decide +kernel)
  have k2 : ∀ w ∈ wsX120, w ∈ wsX12_go := fun _ h => List.mem_cons_of_mem _ (List.mem_append_right _ h)
  have k3 := hts (.fieldLink RX12 21 "LidCourtModel" "to" "I") (by decide +kernel)
  have k4 := hts (.fieldLink RX12 24 "LidCourtModel" "from" "I") (by decide +kernel)
  have k5 := hts (.fieldLink RX12 7 "LidCourtModel" "tape" "[I") (by decide +kernel)
  have k6 := hts (.fieldLink RX12 47 "LidCourtModel" "number" "I") (by decide +kernel)
  have k7 := hts (.constantLong RX12 54 27) (by decide +kernel)
  have k8 := hts (.fieldLink RX12 43 "LidCourtModel" "word" "J") (by decide +kernel)
  have k9 := hts (.constantLong RX12 56 96) (by decide +kernel)
  have k10 := hts (.fieldLink RX12 40 "LidCourtModel" "sign" "I") (by decide +kernel)
  have k11 := hts (.fieldLink RX12 18 "LidCourtModel" "size" "I") (by decide +kernel)
  have k12 := hts (.fieldLink RX12 27 "LidCourtModel" "limit" "I") (by decide +kernel)
  have J390_2543 : ∀ (y390_0 : Int32) (y390_1 : Int32) (y390_2 : Int32) (y390_3 : Int32) (y390_4 : Int64), rg 1 3 y390_0 → rg 1 940 y390_1 → rl 1 h0_to y390_1 → rg 0 940 y390_2 → rl 0 h0_to y390_2 → rg 0 2147483647 h0_limit → rg 1 940 h0_size → y_X12_go h0_size h0_limit h0_to h0_number h0_sign h0_word F_h0_tape = y_X12_go_390 h0_sign y390_0 y390_1 y390_2 y390_3 y390_4 → ∀ (H : Heap) (locs : List Loc) (ls : Array Slot), va_P D vwCl [(h0, .inr (11, [.int h0_thrown, .ref h0_tape, .int h0_taped, .int h0_size, .int h0_limit, .int y390_1, .int y390_2, .int h0_kind, .int y390_3, .int h0_sign, .int h0_fault, .int h0_place, .long y390_4, .int h0_told, .ref h0_now, .ref h0_read, .ref h0_kept, .ref h0_snaps, .ref h0_aside, .ref h0_name, .ref h0_readName, .ref h0_keptName, .ref h0_isKept, .ref h0_onces, .int h0_snapMany, .int h0_lowest, .int h0_highest, .int h0_agreed, .int h0_jurors, .int h0_panelled, .ref h0_inSets, .int h0_surely, .int h0_asked, .ref h0_frees, .int h0_struck, .int h0_beating, .ref h0_text, .int h0_texts, .int h0_seed, .ref h0_line, .ref h0_written, .int h0_lineMany, .int h0_hasWritten, .ref h0_node, .int h0_nodes, .int h0_onesMany, .int h0_within, .int h0_top])), (aI ca h0_tape 940 F_h0_tape)] H → va_D A [(h0, .inr (11, [.int h0_thrown, .ref h0_tape, .int h0_taped, .int h0_size, .int h0_limit, .int y390_1, .int y390_2, .int h0_kind, .int y390_3, .int h0_sign, .int h0_fault, .int h0_place, .long y390_4, .int h0_told, .ref h0_now, .ref h0_read, .ref h0_kept, .ref h0_snaps, .ref h0_aside, .ref h0_name, .ref h0_readName, .ref h0_keptName, .ref h0_isKept, .ref h0_onces, .int h0_snapMany, .int h0_lowest, .int h0_highest, .int h0_agreed, .int h0_jurors, .int h0_panelled, .ref h0_inSets, .int h0_surely, .int h0_asked, .ref h0_frees, .int h0_struck, .int h0_beating, .ref h0_text, .int h0_texts, .int h0_seed, .ref h0_line, .ref h0_written, .int h0_lineMany, .int h0_hasWritten, .ref h0_node, .int h0_nodes, .int h0_onesMany, .int h0_within, .int h0_top])), (aI ca h0_tape 940 F_h0_tape)] → va_S A s.heap H locs → lv_has ls 5 [] → W p l e ({ frames := 1, cells := 0, slots := 0, locals := 21 } : Room) s m ([.ref h0] : List Value).toArray below meth c H locs 0 0 (MQ below ((oQv D (fun (u : Int32 × Int32 × Int32 × Int32 × Int32 × Int64) => (rg 0 940 u.1) ∧ (rg (-2147483648) 940 u.2.1) ∧ (rg 0 4 u.2.2.1) ∧ (rl 0 h0_to u.1) ∧ (lk h0_to u.2.2.1 u.1) ∧ ((u.1, u.2.1, u.2.2.1, u.2.2.2.1, u.2.2.2.2.1, u.2.2.2.2.2) = y_X12_go h0_size h0_limit h0_to h0_number h0_sign h0_word F_h0_tape)) (fun (u : Int32 × Int32 × Int32 × Int32 × Int32 × Int64) => [(h0, .inr (11, [.int h0_thrown, .ref h0_tape, .int h0_taped, .int h0_size, .int h0_limit, .int u.1, .int u.2.1, .int u.2.2.1, .int u.2.2.2.1, .int u.2.2.2.2.1, .int h0_fault, .int h0_place, .long u.2.2.2.2.2, .int h0_told, .ref h0_now, .ref h0_read, .ref h0_kept, .ref h0_snaps, .ref h0_aside, .ref h0_name, .ref h0_readName, .ref h0_keptName, .ref h0_isKept, .ref h0_onces, .int h0_snapMany, .int h0_lowest, .int h0_highest, .int h0_agreed, .int h0_jurors, .int h0_panelled, .ref h0_inSets, .int h0_surely, .int h0_asked, .ref h0_frees, .int h0_struck, .int h0_beating, .ref h0_text, .int h0_texts, .int h0_seed, .ref h0_line, .ref h0_written, .int h0_lineMany, .int h0_hasWritten, .ref h0_node, .int h0_nodes, .int h0_onesMany, .int h0_within, .int h0_top])), (aI ca h0_tape 940 F_h0_tape)])) A) ([.ref h0] : List Value).toArray s 0 0 A) (F0 m 390 ls [.int y390_0, .ref h0]) := by
    intro y390_0 y390_1 y390_2 y390_3 y390_4 hy390_0 hy390_1 py390_1_h0_to hy390_2 py390_2_h0_to t390_h0_limit t390_h0_size hY H locs ls hP hD hS hl
    have hY := hY.trans (y_X12_go_390_s h0_sign y390_0 y390_1 y390_2 y390_3 y390_4)
    refine va_put (D := D) (ci := 11) (v := .int y390_0) (ty := .int) (C := RX12) (T := TX12) (N := 48) hx hb hts k2 tyX12 tyX12_ok nmX12 hown hK.1 hP hD hS 0 rfl rfl 7 (by decide) k1 (fun _ h9 => h9) rfl (by decide +kernel) rfl rfl (Nat.le_of_ble_eq_true rfl) dX12_go_390 (fun H locs hP hD hS => ?_)
    have hP : va_P D vwCl [(h0, .inr (11, [.int h0_thrown, .ref h0_tape, .int h0_taped, .int h0_size, .int h0_limit, .int y390_1, .int y390_2, .int y390_0, .int y390_3, .int h0_sign, .int h0_fault, .int h0_place, .long y390_4, .int h0_told, .ref h0_now, .ref h0_read, .ref h0_kept, .ref h0_snaps, .ref h0_aside, .ref h0_name, .ref h0_readName, .ref h0_keptName, .ref h0_isKept, .ref h0_onces, .int h0_snapMany, .int h0_lowest, .int h0_highest, .int h0_agreed, .int h0_jurors, .int h0_panelled, .ref h0_inSets, .int h0_surely, .int h0_asked, .ref h0_frees, .int h0_struck, .int h0_beating, .ref h0_text, .int h0_texts, .int h0_seed, .ref h0_line, .ref h0_written, .int h0_lineMany, .int h0_hasWritten, .ref h0_node, .int h0_nodes, .int h0_onesMany, .int h0_within, .int h0_top])), (aI ca h0_tape 940 F_h0_tape)] H := hP
    have hD : va_D A [(h0, .inr (11, [.int h0_thrown, .ref h0_tape, .int h0_taped, .int h0_size, .int h0_limit, .int y390_1, .int y390_2, .int y390_0, .int y390_3, .int h0_sign, .int h0_fault, .int h0_place, .long y390_4, .int h0_told, .ref h0_now, .ref h0_read, .ref h0_kept, .ref h0_snaps, .ref h0_aside, .ref h0_name, .ref h0_readName, .ref h0_keptName, .ref h0_isKept, .ref h0_onces, .int h0_snapMany, .int h0_lowest, .int h0_highest, .int h0_agreed, .int h0_jurors, .int h0_panelled, .ref h0_inSets, .int h0_surely, .int h0_asked, .ref h0_frees, .int h0_struck, .int h0_beating, .ref h0_text, .int h0_texts, .int h0_seed, .ref h0_line, .ref h0_written, .int h0_lineMany, .int h0_hasWritten, .ref h0_node, .int h0_nodes, .int h0_onesMany, .int h0_within, .int h0_top])), (aI ca h0_tape 940 F_h0_tape)] := hD
    exact oE_v hx hb hr hlocks hP hD hS (y390_1, y390_2, y390_0, y390_3, h0_sign, y390_4) [0, 1] rfl (by decide) ⟨(rgw (lo := 0) (hi := 940) hy390_1 (by decide) (by decide)), (rgw (lo := (-2147483648)) (hi := 940) hy390_2 (by decide) (by decide)), (rgw (lo := 0) (hi := 4) hy390_0 (by decide) (by decide)), (show rl 0 h0_to y390_1 from rlm (by have q0 := rle py390_1_h0_to; omega)), (show lk h0_to y390_0 y390_1 from lkm (by have z0 := (hy390_0).2; have q0 := rle py390_1_h0_to; omega)), hY.symm⟩ (Nat.le_of_ble_eq_true rfl) (Nat.le_of_ble_eq_true rfl) dX12_go_393
  have J377_2544 : ∀ (y377_0 : Int32) (y377_1 : Int32) (y377_2 : Int32) (y377_3 : Int64), rg 1 940 y377_0 → rl 1 h0_to y377_0 → rg 0 940 y377_1 → rl 0 h0_to y377_1 → rg 0 2147483647 h0_limit → rg 1 940 h0_size → y_X12_go h0_size h0_limit h0_to h0_number h0_sign h0_word F_h0_tape = y_X12_go_377 h0_sign y377_0 y377_1 y377_2 y377_3 → ∀ (H : Heap) (locs : List Loc) (ls : Array Slot), va_P D vwCl [(h0, .inr (11, [.int h0_thrown, .ref h0_tape, .int h0_taped, .int h0_size, .int h0_limit, .int y377_0, .int y377_1, .int h0_kind, .int y377_2, .int h0_sign, .int h0_fault, .int h0_place, .long y377_3, .int h0_told, .ref h0_now, .ref h0_read, .ref h0_kept, .ref h0_snaps, .ref h0_aside, .ref h0_name, .ref h0_readName, .ref h0_keptName, .ref h0_isKept, .ref h0_onces, .int h0_snapMany, .int h0_lowest, .int h0_highest, .int h0_agreed, .int h0_jurors, .int h0_panelled, .ref h0_inSets, .int h0_surely, .int h0_asked, .ref h0_frees, .int h0_struck, .int h0_beating, .ref h0_text, .int h0_texts, .int h0_seed, .ref h0_line, .ref h0_written, .int h0_lineMany, .int h0_hasWritten, .ref h0_node, .int h0_nodes, .int h0_onesMany, .int h0_within, .int h0_top])), (aI ca h0_tape 940 F_h0_tape)] H → va_D A [(h0, .inr (11, [.int h0_thrown, .ref h0_tape, .int h0_taped, .int h0_size, .int h0_limit, .int y377_0, .int y377_1, .int h0_kind, .int y377_2, .int h0_sign, .int h0_fault, .int h0_place, .long y377_3, .int h0_told, .ref h0_now, .ref h0_read, .ref h0_kept, .ref h0_snaps, .ref h0_aside, .ref h0_name, .ref h0_readName, .ref h0_keptName, .ref h0_isKept, .ref h0_onces, .int h0_snapMany, .int h0_lowest, .int h0_highest, .int h0_agreed, .int h0_jurors, .int h0_panelled, .ref h0_inSets, .int h0_surely, .int h0_asked, .ref h0_frees, .int h0_struck, .int h0_beating, .ref h0_text, .int h0_texts, .int h0_seed, .ref h0_line, .ref h0_written, .int h0_lineMany, .int h0_hasWritten, .ref h0_node, .int h0_nodes, .int h0_onesMany, .int h0_within, .int h0_top])), (aI ca h0_tape 940 F_h0_tape)] → va_S A s.heap H locs → lv_has ls 5 [] → W p l e ({ frames := 1, cells := 0, slots := 0, locals := 21 } : Room) s m ([.ref h0] : List Value).toArray below meth c H locs 0 0 (MQ below ((oQv D (fun (u : Int32 × Int32 × Int32 × Int32 × Int32 × Int64) => (rg 0 940 u.1) ∧ (rg (-2147483648) 940 u.2.1) ∧ (rg 0 4 u.2.2.1) ∧ (rl 0 h0_to u.1) ∧ (lk h0_to u.2.2.1 u.1) ∧ ((u.1, u.2.1, u.2.2.1, u.2.2.2.1, u.2.2.2.2.1, u.2.2.2.2.2) = y_X12_go h0_size h0_limit h0_to h0_number h0_sign h0_word F_h0_tape)) (fun (u : Int32 × Int32 × Int32 × Int32 × Int32 × Int64) => [(h0, .inr (11, [.int h0_thrown, .ref h0_tape, .int h0_taped, .int h0_size, .int h0_limit, .int u.1, .int u.2.1, .int u.2.2.1, .int u.2.2.2.1, .int u.2.2.2.2.1, .int h0_fault, .int h0_place, .long u.2.2.2.2.2, .int h0_told, .ref h0_now, .ref h0_read, .ref h0_kept, .ref h0_snaps, .ref h0_aside, .ref h0_name, .ref h0_readName, .ref h0_keptName, .ref h0_isKept, .ref h0_onces, .int h0_snapMany, .int h0_lowest, .int h0_highest, .int h0_agreed, .int h0_jurors, .int h0_panelled, .ref h0_inSets, .int h0_surely, .int h0_asked, .ref h0_frees, .int h0_struck, .int h0_beating, .ref h0_text, .int h0_texts, .int h0_seed, .ref h0_line, .ref h0_written, .int h0_lineMany, .int h0_hasWritten, .ref h0_node, .int h0_nodes, .int h0_onesMany, .int h0_within, .int h0_top])), (aI ca h0_tape 940 F_h0_tape)])) A) ([.ref h0] : List Value).toArray s 0 0 A) (F0 m 377 ls [.ref h0]) := by
    intro y377_0 y377_1 y377_2 y377_3 hy377_0 py377_0_h0_to hy377_1 py377_1_h0_to t377_h0_limit t377_h0_size hY H locs ls hP hD hS hl
    have hY := hY.trans (y_X12_go_377_s h0_sign y377_0 y377_1 y377_2 y377_3)
    refine lv_iconst (v := 1) hx hb dX12_go_377 (by decide) ?_
    refine lv_goto (tgt := 390) hx hb dX12_go_378 (by decide) ?_
    exact J390_2543 1 y377_0 y377_1 y377_2 y377_3 (⟨by decide, by decide⟩ : rg 1 3 (1 : Int32)) hy377_0 (rlm (by have q0 := rle py377_0_h0_to; omega)) hy377_1 (rlm (by have q0 := rle py377_1_h0_to; omega)) t377_h0_limit t377_h0_size hY H locs ls (oPsub hP [0, 1] rfl) (hD.sub [0, 1] (by decide) rfl) hS (lv_sub hl [] rfl)
  have J374_2545 : ∀ (y374_0 : Int32) (y374_1 : Int32) (y374_2 : Int32) (y374_3 : Int32) (y374_4 : Int32) (y374_5 : Int32) (y374_6 : Int64), rg 0 1 y374_0 → rg 3 7 y374_1 → rg (-939) 940 y374_2 → rg 1 940 y374_3 → rl 1 h0_to y374_3 → rg 0 940 y374_4 → rl 0 h0_to y374_4 → rg 0 2147483647 h0_limit → rg 1 940 h0_size → y_X12_go h0_size h0_limit h0_to h0_number h0_sign h0_word F_h0_tape = y_X12_go_374 h0_sign y374_0 y374_1 y374_2 y374_3 y374_4 y374_5 y374_6 → ∀ (H : Heap) (locs : List Loc) (ls : Array Slot), va_P D vwCl [(h0, .inr (11, [.int h0_thrown, .ref h0_tape, .int h0_taped, .int h0_size, .int h0_limit, .int y374_3, .int y374_4, .int h0_kind, .int y374_5, .int h0_sign, .int h0_fault, .int h0_place, .long y374_6, .int h0_told, .ref h0_now, .ref h0_read, .ref h0_kept, .ref h0_snaps, .ref h0_aside, .ref h0_name, .ref h0_readName, .ref h0_keptName, .ref h0_isKept, .ref h0_onces, .int h0_snapMany, .int h0_lowest, .int h0_highest, .int h0_agreed, .int h0_jurors, .int h0_panelled, .ref h0_inSets, .int h0_surely, .int h0_asked, .ref h0_frees, .int h0_struck, .int h0_beating, .ref h0_text, .int h0_texts, .int h0_seed, .ref h0_line, .ref h0_written, .int h0_lineMany, .int h0_hasWritten, .ref h0_node, .int h0_nodes, .int h0_onesMany, .int h0_within, .int h0_top])), (aI ca h0_tape 940 F_h0_tape)] H → va_D A [(h0, .inr (11, [.int h0_thrown, .ref h0_tape, .int h0_taped, .int h0_size, .int h0_limit, .int y374_3, .int y374_4, .int h0_kind, .int y374_5, .int h0_sign, .int h0_fault, .int h0_place, .long y374_6, .int h0_told, .ref h0_now, .ref h0_read, .ref h0_kept, .ref h0_snaps, .ref h0_aside, .ref h0_name, .ref h0_readName, .ref h0_keptName, .ref h0_isKept, .ref h0_onces, .int h0_snapMany, .int h0_lowest, .int h0_highest, .int h0_agreed, .int h0_jurors, .int h0_panelled, .ref h0_inSets, .int h0_surely, .int h0_asked, .ref h0_frees, .int h0_struck, .int h0_beating, .ref h0_text, .int h0_texts, .int h0_seed, .ref h0_line, .ref h0_written, .int h0_lineMany, .int h0_hasWritten, .ref h0_node, .int h0_nodes, .int h0_onesMany, .int h0_within, .int h0_top])), (aI ca h0_tape 940 F_h0_tape)] → va_S A s.heap H locs → lv_has ls 5 [(2, .int y374_0)] → W p l e ({ frames := 1, cells := 0, slots := 0, locals := 21 } : Room) s m ([.ref h0] : List Value).toArray below meth c H locs 0 0 (MQ below ((oQv D (fun (u : Int32 × Int32 × Int32 × Int32 × Int32 × Int64) => (rg 0 940 u.1) ∧ (rg (-2147483648) 940 u.2.1) ∧ (rg 0 4 u.2.2.1) ∧ (rl 0 h0_to u.1) ∧ (lk h0_to u.2.2.1 u.1) ∧ ((u.1, u.2.1, u.2.2.1, u.2.2.2.1, u.2.2.2.2.1, u.2.2.2.2.2) = y_X12_go h0_size h0_limit h0_to h0_number h0_sign h0_word F_h0_tape)) (fun (u : Int32 × Int32 × Int32 × Int32 × Int32 × Int64) => [(h0, .inr (11, [.int h0_thrown, .ref h0_tape, .int h0_taped, .int h0_size, .int h0_limit, .int u.1, .int u.2.1, .int u.2.2.1, .int u.2.2.2.1, .int u.2.2.2.2.1, .int h0_fault, .int h0_place, .long u.2.2.2.2.2, .int h0_told, .ref h0_now, .ref h0_read, .ref h0_kept, .ref h0_snaps, .ref h0_aside, .ref h0_name, .ref h0_readName, .ref h0_keptName, .ref h0_isKept, .ref h0_onces, .int h0_snapMany, .int h0_lowest, .int h0_highest, .int h0_agreed, .int h0_jurors, .int h0_panelled, .ref h0_inSets, .int h0_surely, .int h0_asked, .ref h0_frees, .int h0_struck, .int h0_beating, .ref h0_text, .int h0_texts, .int h0_seed, .ref h0_line, .ref h0_written, .int h0_lineMany, .int h0_hasWritten, .ref h0_node, .int h0_nodes, .int h0_onesMany, .int h0_within, .int h0_top])), (aI ca h0_tape 940 F_h0_tape)])) A) ([.ref h0] : List Value).toArray s 0 0 A) (F0 m 374 ls [.int y374_1, .int y374_2, .ref h0]) := by
    intro y374_0 y374_1 y374_2 y374_3 y374_4 y374_5 y374_6 hy374_0 hy374_1 hy374_2 hy374_3 py374_3_h0_to hy374_4 py374_4_h0_to t374_h0_limit t374_h0_size hY H locs ls hP hD hS hl
    have hY := hY.trans (y_X12_go_374_s h0_sign y374_0 y374_1 y374_2 y374_3 y374_4 y374_5 y374_6)
    refine lv_icmp_le (tgt := 381) hx hb dX12_go_374 (by decide) (fun c_2546 => ?_) (fun c_2546 => ?_)
    · skip
      have hY := hY.trans (if_pos c_2546)
      have o_2547 : rl 0 y374_2 y374_1 := rl_le c_2546
      have h_2548 : rg (-939) 7 y374_2 := rl_x o_2547 hy374_2 hy374_1 (by decide) (by decide)
      refine lv_iload_n hx hb dX12_go_381 rfl (lv_at hl 0 rfl) ?_
      refine lv_if_eq (tgt := 389) hx hb dX12_go_382 (by decide) (fun c_2549 => ?_) (fun c_2549 => ?_)
      · skip
        have hY := hY.trans (if_pos c_2549)
        have o_2550 : rl 0 y374_0 0 := rl_eq c_2549
        have h_2551 : rg 0 0 y374_0 := rl_x o_2550 hy374_0 (⟨by decide, by decide⟩ : rg 0 0 (0 : Int32)) (by decide) (by decide)
        have o_2552 : rl 0 0 y374_0 := rl_eq c_2549.symm
        refine lv_iconst (v := 3) hx hb dX12_go_389 (by decide) ?_
        exact J390_2543 3 y374_3 y374_4 y374_5 y374_6 (⟨by decide, by decide⟩ : rg 1 3 (3 : Int32)) hy374_3 (rlm (by have q0 := rle py374_3_h0_to; omega)) hy374_4 (rlm (by have q0 := rle py374_4_h0_to; omega)) t374_h0_limit t374_h0_size hY H locs ls (oPsub hP [0, 1] rfl) (hD.sub [0, 1] (by decide) rfl) hS (lv_sub hl [] rfl)
      · skip
        have hY := hY.trans (if_neg c_2549)
        have h_2553 : rg 1 1 y374_0 := cl_nlo c_2549 hy374_0 (show (0 : Int32).toInt = 0 by decide) (by decide) (by decide)
        refine lv_iconst (v := 2) hx hb dX12_go_385 (by decide) ?_
        refine lv_goto (tgt := 390) hx hb dX12_go_386 (by decide) ?_
        exact J390_2543 2 y374_3 y374_4 y374_5 y374_6 (⟨by decide, by decide⟩ : rg 1 3 (2 : Int32)) hy374_3 (rlm (by have q0 := rle py374_3_h0_to; omega)) hy374_4 (rlm (by have q0 := rle py374_4_h0_to; omega)) t374_h0_limit t374_h0_size hY H locs ls (oPsub hP [0, 1] rfl) (hD.sub [0, 1] (by decide) rfl) hS (lv_sub hl [] rfl)
    · skip
      have hY := hY.trans (if_neg c_2546)
      have o_2554 : rl 1 y374_1 y374_2 := rl_nle c_2546
      have h_2555 : rg 4 940 y374_2 := rl_y o_2554 hy374_1 hy374_2 (by decide) (by decide)
      exact J377_2544 y374_3 y374_4 y374_5 y374_6 hy374_3 (rlm (by have q0 := rle py374_3_h0_to; omega)) hy374_4 (rlm (by have q0 := rle py374_4_h0_to; omega)) t374_h0_limit t374_h0_size hY H locs ls (oPsub hP [0, 1] rfl) (hD.sub [0, 1] (by decide) rfl) hS (lv_sub hl [] rfl)
  have J215_2556 : ∀ (n215 : Nat) (y215_0 : Int32) (y215_1 : Int32) (y215_2 : Int32) (y215_3 : Int32) (y215_4 : Int32) (y215_5 : Int64), True → rg 0 1 y215_0 → rg 0 1 y215_1 → rg 1 940 y215_2 → rl 1 h0_to y215_2 → rg 0 940 y215_3 → rl 0 h0_to y215_3 → rg 0 2147483647 h0_limit → rg 1 940 h0_size → 940 < y215_2.toInt + (n215 : Int) → y_X12_go h0_size h0_limit h0_to h0_number h0_sign h0_word F_h0_tape = y_X12_go_215 h0_size h0_sign F_h0_tape n215 y215_0 y215_1 y215_2 y215_3 y215_4 y215_5 → ∀ (H : Heap) (locs : List Loc) (ls : Array Slot), va_P D vwCl [(h0, .inr (11, [.int h0_thrown, .ref h0_tape, .int h0_taped, .int h0_size, .int h0_limit, .int y215_2, .int y215_3, .int h0_kind, .int y215_4, .int h0_sign, .int h0_fault, .int h0_place, .long y215_5, .int h0_told, .ref h0_now, .ref h0_read, .ref h0_kept, .ref h0_snaps, .ref h0_aside, .ref h0_name, .ref h0_readName, .ref h0_keptName, .ref h0_isKept, .ref h0_onces, .int h0_snapMany, .int h0_lowest, .int h0_highest, .int h0_agreed, .int h0_jurors, .int h0_panelled, .ref h0_inSets, .int h0_surely, .int h0_asked, .ref h0_frees, .int h0_struck, .int h0_beating, .ref h0_text, .int h0_texts, .int h0_seed, .ref h0_line, .ref h0_written, .int h0_lineMany, .int h0_hasWritten, .ref h0_node, .int h0_nodes, .int h0_onesMany, .int h0_within, .int h0_top])), (aI ca h0_tape 940 F_h0_tape)] H → va_D A [(h0, .inr (11, [.int h0_thrown, .ref h0_tape, .int h0_taped, .int h0_size, .int h0_limit, .int y215_2, .int y215_3, .int h0_kind, .int y215_4, .int h0_sign, .int h0_fault, .int h0_place, .long y215_5, .int h0_told, .ref h0_now, .ref h0_read, .ref h0_kept, .ref h0_snaps, .ref h0_aside, .ref h0_name, .ref h0_readName, .ref h0_keptName, .ref h0_isKept, .ref h0_onces, .int h0_snapMany, .int h0_lowest, .int h0_highest, .int h0_agreed, .int h0_jurors, .int h0_panelled, .ref h0_inSets, .int h0_surely, .int h0_asked, .ref h0_frees, .int h0_struck, .int h0_beating, .ref h0_text, .int h0_texts, .int h0_seed, .ref h0_line, .ref h0_written, .int h0_lineMany, .int h0_hasWritten, .ref h0_node, .int h0_nodes, .int h0_onesMany, .int h0_within, .int h0_top])), (aI ca h0_tape 940 F_h0_tape)] → va_S A s.heap H locs → lv_has ls 5 [(0, .ref h0), (2, .int y215_0), (3, .int y215_1)] → W p l e ({ frames := 1, cells := 0, slots := 0, locals := 21 } : Room) s m ([.ref h0] : List Value).toArray below meth c H locs 0 0 (MQ below ((oQv D (fun (u : Int32 × Int32 × Int32 × Int32 × Int32 × Int64) => (rg 0 940 u.1) ∧ (rg (-2147483648) 940 u.2.1) ∧ (rg 0 4 u.2.2.1) ∧ (rl 0 h0_to u.1) ∧ (lk h0_to u.2.2.1 u.1) ∧ ((u.1, u.2.1, u.2.2.1, u.2.2.2.1, u.2.2.2.2.1, u.2.2.2.2.2) = y_X12_go h0_size h0_limit h0_to h0_number h0_sign h0_word F_h0_tape)) (fun (u : Int32 × Int32 × Int32 × Int32 × Int32 × Int64) => [(h0, .inr (11, [.int h0_thrown, .ref h0_tape, .int h0_taped, .int h0_size, .int h0_limit, .int u.1, .int u.2.1, .int u.2.2.1, .int u.2.2.2.1, .int u.2.2.2.2.1, .int h0_fault, .int h0_place, .long u.2.2.2.2.2, .int h0_told, .ref h0_now, .ref h0_read, .ref h0_kept, .ref h0_snaps, .ref h0_aside, .ref h0_name, .ref h0_readName, .ref h0_keptName, .ref h0_isKept, .ref h0_onces, .int h0_snapMany, .int h0_lowest, .int h0_highest, .int h0_agreed, .int h0_jurors, .int h0_panelled, .ref h0_inSets, .int h0_surely, .int h0_asked, .ref h0_frees, .int h0_struck, .int h0_beating, .ref h0_text, .int h0_texts, .int h0_seed, .ref h0_line, .ref h0_written, .int h0_lineMany, .int h0_hasWritten, .ref h0_node, .int h0_nodes, .int h0_onesMany, .int h0_within, .int h0_top])), (aI ca h0_tape 940 F_h0_tape)])) A) ([.ref h0] : List Value).toArray s 0 0 A) (F0 m 215 ls []) := by
    intro n215
    induction n215 with
    | zero => intro y215_0 y215_1 y215_2 y215_3 y215_4 y215_5 _ hy215_0 hy215_1 hy215_2 py215_2_h0_to hy215_3 py215_3_h0_to t215_h0_limit t215_h0_size hn hY; exact absurd hn (by have q9 := hy215_2.2; omega)
    | succ n215 ih215 =>
      intro y215_0 y215_1 y215_2 y215_3 y215_4 y215_5 _ hy215_0 hy215_1 hy215_2 py215_2_h0_to hy215_3 py215_3_h0_to t215_h0_limit t215_h0_size hn hY H locs ls hP hD hS hl
      have hY := hY.trans (y_X12_go_215_s h0_size h0_sign F_h0_tape _ y215_0 y215_1 y215_2 y215_3 y215_4 y215_5)
      refine lv_aload_n hx hb dX12_go_215 rfl (lv_at hl 0 rfl) ?_
      refine lv_aload_n hx hb dX12_go_216 rfl (lv_at hl 0 rfl) ?_
      refine va_get (D := D) (ci := 11) (v := .int y215_2) (C := RX12) (T := TX12) (N := 48) hx hb hts k2 hown hK.1 hP 0 rfl rfl 5 (by decide) k3 (fun _ h9 => h9) rfl dX12_go_217 ?_
      refine oC_i (Wc := [(h0, .inr (11, [.int h0_thrown, .ref h0_tape, .int h0_taped, .int h0_size, .int h0_limit, .int y215_2, .int y215_3, .int h0_kind, .int y215_4, .int h0_sign, .int h0_fault, .int h0_place, .long y215_5, .int h0_told, .ref h0_now, .ref h0_read, .ref h0_kept, .ref h0_snaps, .ref h0_aside, .ref h0_name, .ref h0_readName, .ref h0_keptName, .ref h0_isKept, .ref h0_onces, .int h0_snapMany, .int h0_lowest, .int h0_highest, .int h0_agreed, .int h0_jurors, .int h0_panelled, .ref h0_inSets, .int h0_surely, .int h0_asked, .ref h0_frees, .int h0_struck, .int h0_beating, .ref h0_text, .int h0_texts, .int h0_seed, .ref h0_line, .ref h0_written, .int h0_lineMany, .int h0_hasWritten, .ref h0_node, .int h0_nodes, .int h0_onesMany, .int h0_within, .int h0_top])), (aI ca h0_tape 940 F_h0_tape)]) (Wr := []) (va_runV (As := [.int y215_2]) (rest := []) ⟨hx, hb, hml, hown, hts⟩ (e_X12_tapeAt l D ca H.size h0 y215_2 h0_thrown h0_tape h0_taped h0_size h0_limit y215_2 y215_3 h0_kind y215_4 h0_sign h0_fault h0_place y215_5 h0_told h0_now h0_read h0_kept h0_snaps h0_aside h0_name h0_readName h0_keptName h0_isKept h0_onces h0_snapMany h0_lowest h0_highest h0_agreed h0_jurors h0_panelled h0_inSets h0_surely h0_asked h0_frees h0_struck h0_beating h0_text h0_texts h0_seed h0_line h0_written h0_lineMany h0_hasWritten h0_node h0_nodes h0_onesMany h0_within h0_top F_h0_tape (rgw (lo := 0) (hi := 940) hy215_2 (by decide) (by decide)) i_h0_taped (rgw (lo := 0) (hi := 940) t215_h0_size (by decide) (by decide)) (rgw (lo := 0) (hi := 940) hy215_2 (by decide) (by decide)) i_h0_kind i_h0_snapMany i_h0_texts i_h0_lineMany i_h0_hasWritten i_h0_nodes i_h0_onesMany (sg_w (a' := 0) (b' := 940) (lo' := 0) (hi' := 255) s_h0_tape_0 (by decide) (by decide) (by decide) (by decide))) (cwV 1 hts gX12_go_X12_tapeAt rfl rfl rfl (by decide +kernel) ⟨Nat.le_of_ble_eq_true rfl, Nat.le_of_ble_eq_true rfl⟩) (oPV (C := RX12) hK hP hD [0, 1] rfl (by decide) 0 rfl (ci := 11) rfl rfl) rfl rfl hl.1 rfl (lv_room (Nat.le_of_ble_eq_true rfl)) dX12_go_220 ⟨Nat.le_of_ble_eq_true rfl, Nat.le_of_ble_eq_true rfl⟩) hP hD hS hA [0, 1] [] rfl rfl (by decide) (by decide) (fun r_3078 u H locs w_3079 hP hD hS => ?_)
      obtain ⟨⟩ := u
      have hP : va_P D vwCl [(h0, .inr (11, [.int h0_thrown, .ref h0_tape, .int h0_taped, .int h0_size, .int h0_limit, .int y215_2, .int y215_3, .int h0_kind, .int y215_4, .int h0_sign, .int h0_fault, .int h0_place, .long y215_5, .int h0_told, .ref h0_now, .ref h0_read, .ref h0_kept, .ref h0_snaps, .ref h0_aside, .ref h0_name, .ref h0_readName, .ref h0_keptName, .ref h0_isKept, .ref h0_onces, .int h0_snapMany, .int h0_lowest, .int h0_highest, .int h0_agreed, .int h0_jurors, .int h0_panelled, .ref h0_inSets, .int h0_surely, .int h0_asked, .ref h0_frees, .int h0_struck, .int h0_beating, .ref h0_text, .int h0_texts, .int h0_seed, .ref h0_line, .ref h0_written, .int h0_lineMany, .int h0_hasWritten, .ref h0_node, .int h0_nodes, .int h0_onesMany, .int h0_within, .int h0_top])), (aI ca h0_tape 940 F_h0_tape)] H := hP
      have hD : va_D A [(h0, .inr (11, [.int h0_thrown, .ref h0_tape, .int h0_taped, .int h0_size, .int h0_limit, .int y215_2, .int y215_3, .int h0_kind, .int y215_4, .int h0_sign, .int h0_fault, .int h0_place, .long y215_5, .int h0_told, .ref h0_now, .ref h0_read, .ref h0_kept, .ref h0_snaps, .ref h0_aside, .ref h0_name, .ref h0_readName, .ref h0_keptName, .ref h0_isKept, .ref h0_onces, .int h0_snapMany, .int h0_lowest, .int h0_highest, .int h0_agreed, .int h0_jurors, .int h0_panelled, .ref h0_inSets, .int h0_surely, .int h0_asked, .ref h0_frees, .int h0_struck, .int h0_beating, .ref h0_text, .int h0_texts, .int h0_seed, .ref h0_line, .ref h0_written, .int h0_lineMany, .int h0_hasWritten, .ref h0_node, .int h0_nodes, .int h0_onesMany, .int h0_within, .int h0_top])), (aI ca h0_tape 940 F_h0_tape)] := hD
      try dsimp only at w_3079
      rcases w_3079 with ⟨h_3080, h_3081, h_3082, h_3083⟩ | ⟨h_3084, h_3085, h_3086, h_3087, h_3088, h_3089, h_3090⟩
      · skip
        subst h_3080
        have hY := hY.trans (lt1_e h_3083)
        have hY := hY.trans (if_pos h_3082)
        refine oC_i (Wc := []) (Wr := [(h0, .inr (11, [.int h0_thrown, .ref h0_tape, .int h0_taped, .int h0_size, .int h0_limit, .int y215_2, .int y215_3, .int h0_kind, .int y215_4, .int h0_sign, .int h0_fault, .int h0_place, .long y215_5, .int h0_told, .ref h0_now, .ref h0_read, .ref h0_kept, .ref h0_snaps, .ref h0_aside, .ref h0_name, .ref h0_readName, .ref h0_keptName, .ref h0_isKept, .ref h0_onces, .int h0_snapMany, .int h0_lowest, .int h0_highest, .int h0_agreed, .int h0_jurors, .int h0_panelled, .ref h0_inSets, .int h0_surely, .int h0_asked, .ref h0_frees, .int h0_struck, .int h0_beating, .ref h0_text, .int h0_texts, .int h0_seed, .ref h0_line, .ref h0_written, .int h0_lineMany, .int h0_hasWritten, .ref h0_node, .int h0_nodes, .int h0_onesMany, .int h0_within, .int h0_top])), (aI ca h0_tape 940 F_h0_tape)]) (va_runS (As := [.int 0]) (rest := []) ⟨hx, hb, hml, hown, hts⟩ (e_X12_isLetter l D ca H.size 0) (va_cwS 1 hts gX12_go_X12_isLetter rfl rfl rfl (by decide +kernel) ⟨Nat.le_of_ble_eq_true rfl, Nat.le_of_ble_eq_true rfl⟩) (oPS hK hP hD [] rfl (by decide)) rfl rfl hl.1 rfl (lv_room (Nat.le_of_ble_eq_true rfl)) dX12_go_223 ⟨Nat.le_of_ble_eq_true rfl, Nat.le_of_ble_eq_true rfl⟩) hP hD hS hA [] [0, 1] rfl rfl (by decide) (by decide) (fun r_3091 u H locs w_3092 hP hD hS => ?_)
        obtain ⟨⟩ := u
        have hP : va_P D vwCl [(h0, .inr (11, [.int h0_thrown, .ref h0_tape, .int h0_taped, .int h0_size, .int h0_limit, .int y215_2, .int y215_3, .int h0_kind, .int y215_4, .int h0_sign, .int h0_fault, .int h0_place, .long y215_5, .int h0_told, .ref h0_now, .ref h0_read, .ref h0_kept, .ref h0_snaps, .ref h0_aside, .ref h0_name, .ref h0_readName, .ref h0_keptName, .ref h0_isKept, .ref h0_onces, .int h0_snapMany, .int h0_lowest, .int h0_highest, .int h0_agreed, .int h0_jurors, .int h0_panelled, .ref h0_inSets, .int h0_surely, .int h0_asked, .ref h0_frees, .int h0_struck, .int h0_beating, .ref h0_text, .int h0_texts, .int h0_seed, .ref h0_line, .ref h0_written, .int h0_lineMany, .int h0_hasWritten, .ref h0_node, .int h0_nodes, .int h0_onesMany, .int h0_within, .int h0_top])), (aI ca h0_tape 940 F_h0_tape)] H := hP
        have hD : va_D A [(h0, .inr (11, [.int h0_thrown, .ref h0_tape, .int h0_taped, .int h0_size, .int h0_limit, .int y215_2, .int y215_3, .int h0_kind, .int y215_4, .int h0_sign, .int h0_fault, .int h0_place, .long y215_5, .int h0_told, .ref h0_now, .ref h0_read, .ref h0_kept, .ref h0_snaps, .ref h0_aside, .ref h0_name, .ref h0_readName, .ref h0_keptName, .ref h0_isKept, .ref h0_onces, .int h0_snapMany, .int h0_lowest, .int h0_highest, .int h0_agreed, .int h0_jurors, .int h0_panelled, .ref h0_inSets, .int h0_surely, .int h0_asked, .ref h0_frees, .int h0_struck, .int h0_beating, .ref h0_text, .int h0_texts, .int h0_seed, .ref h0_line, .ref h0_written, .int h0_lineMany, .int h0_hasWritten, .ref h0_node, .int h0_nodes, .int h0_onesMany, .int h0_within, .int h0_top])), (aI ca h0_tape 940 F_h0_tape)] := hD
        try dsimp only at w_3092
        rcases w_3092 with ⟨h_3093, h_3094, h_3095, h_3096⟩ | ⟨h_3097, h_3098, h_3099, h_3100, h_3101⟩ | ⟨h_3102, h_3103, h_3104, h_3105, h_3106⟩
        · skip
          subst h_3093
          have hY := hY.trans (lt1_e h_3096)
          have hY := hY.trans (if_pos h_3095)
          refine lv_if_ne (tgt := 243) hx hb dX12_go_226 (by decide) (fun c => absurd (by decide) c) (fun _ => ?_)
          refine lv_aload_n hx hb dX12_go_229 rfl (lv_at hl 0 rfl) ?_
          refine lv_aload_n hx hb dX12_go_230 rfl (lv_at hl 0 rfl) ?_
          refine va_get (D := D) (ci := 11) (v := .int y215_2) (C := RX12) (T := TX12) (N := 48) hx hb hts k2 hown hK.1 hP 0 rfl rfl 5 (by decide) k3 (fun _ h9 => h9) rfl dX12_go_231 ?_
          refine oC_i (Wc := [(h0, .inr (11, [.int h0_thrown, .ref h0_tape, .int h0_taped, .int h0_size, .int h0_limit, .int y215_2, .int y215_3, .int h0_kind, .int y215_4, .int h0_sign, .int h0_fault, .int h0_place, .long y215_5, .int h0_told, .ref h0_now, .ref h0_read, .ref h0_kept, .ref h0_snaps, .ref h0_aside, .ref h0_name, .ref h0_readName, .ref h0_keptName, .ref h0_isKept, .ref h0_onces, .int h0_snapMany, .int h0_lowest, .int h0_highest, .int h0_agreed, .int h0_jurors, .int h0_panelled, .ref h0_inSets, .int h0_surely, .int h0_asked, .ref h0_frees, .int h0_struck, .int h0_beating, .ref h0_text, .int h0_texts, .int h0_seed, .ref h0_line, .ref h0_written, .int h0_lineMany, .int h0_hasWritten, .ref h0_node, .int h0_nodes, .int h0_onesMany, .int h0_within, .int h0_top])), (aI ca h0_tape 940 F_h0_tape)]) (Wr := []) (va_runV (As := [.int y215_2]) (rest := []) ⟨hx, hb, hml, hown, hts⟩ (e_X12_tapeAt l D ca H.size h0 y215_2 h0_thrown h0_tape h0_taped h0_size h0_limit y215_2 y215_3 h0_kind y215_4 h0_sign h0_fault h0_place y215_5 h0_told h0_now h0_read h0_kept h0_snaps h0_aside h0_name h0_readName h0_keptName h0_isKept h0_onces h0_snapMany h0_lowest h0_highest h0_agreed h0_jurors h0_panelled h0_inSets h0_surely h0_asked h0_frees h0_struck h0_beating h0_text h0_texts h0_seed h0_line h0_written h0_lineMany h0_hasWritten h0_node h0_nodes h0_onesMany h0_within h0_top F_h0_tape (rgw (lo := 0) (hi := 940) hy215_2 (by decide) (by decide)) i_h0_taped (rgw (lo := 0) (hi := 940) t215_h0_size (by decide) (by decide)) (rgw (lo := 0) (hi := 940) hy215_2 (by decide) (by decide)) i_h0_kind i_h0_snapMany i_h0_texts i_h0_lineMany i_h0_hasWritten i_h0_nodes i_h0_onesMany (sg_w (a' := 0) (b' := 940) (lo' := 0) (hi' := 255) s_h0_tape_0 (by decide) (by decide) (by decide) (by decide))) (cwV 1 hts gX12_go_X12_tapeAt rfl rfl rfl (by decide +kernel) ⟨Nat.le_of_ble_eq_true rfl, Nat.le_of_ble_eq_true rfl⟩) (oPV (C := RX12) hK hP hD [0, 1] rfl (by decide) 0 rfl (ci := 11) rfl rfl) rfl rfl hl.1 rfl (lv_room (Nat.le_of_ble_eq_true rfl)) dX12_go_234 ⟨Nat.le_of_ble_eq_true rfl, Nat.le_of_ble_eq_true rfl⟩) hP hD hS hA [0, 1] [] rfl rfl (by decide) (by decide) (fun r_3107 u H locs w_3108 hP hD hS => ?_)
          obtain ⟨⟩ := u
          have hP : va_P D vwCl [(h0, .inr (11, [.int h0_thrown, .ref h0_tape, .int h0_taped, .int h0_size, .int h0_limit, .int y215_2, .int y215_3, .int h0_kind, .int y215_4, .int h0_sign, .int h0_fault, .int h0_place, .long y215_5, .int h0_told, .ref h0_now, .ref h0_read, .ref h0_kept, .ref h0_snaps, .ref h0_aside, .ref h0_name, .ref h0_readName, .ref h0_keptName, .ref h0_isKept, .ref h0_onces, .int h0_snapMany, .int h0_lowest, .int h0_highest, .int h0_agreed, .int h0_jurors, .int h0_panelled, .ref h0_inSets, .int h0_surely, .int h0_asked, .ref h0_frees, .int h0_struck, .int h0_beating, .ref h0_text, .int h0_texts, .int h0_seed, .ref h0_line, .ref h0_written, .int h0_lineMany, .int h0_hasWritten, .ref h0_node, .int h0_nodes, .int h0_onesMany, .int h0_within, .int h0_top])), (aI ca h0_tape 940 F_h0_tape)] H := hP
          have hD : va_D A [(h0, .inr (11, [.int h0_thrown, .ref h0_tape, .int h0_taped, .int h0_size, .int h0_limit, .int y215_2, .int y215_3, .int h0_kind, .int y215_4, .int h0_sign, .int h0_fault, .int h0_place, .long y215_5, .int h0_told, .ref h0_now, .ref h0_read, .ref h0_kept, .ref h0_snaps, .ref h0_aside, .ref h0_name, .ref h0_readName, .ref h0_keptName, .ref h0_isKept, .ref h0_onces, .int h0_snapMany, .int h0_lowest, .int h0_highest, .int h0_agreed, .int h0_jurors, .int h0_panelled, .ref h0_inSets, .int h0_surely, .int h0_asked, .ref h0_frees, .int h0_struck, .int h0_beating, .ref h0_text, .int h0_texts, .int h0_seed, .ref h0_line, .ref h0_written, .int h0_lineMany, .int h0_hasWritten, .ref h0_node, .int h0_nodes, .int h0_onesMany, .int h0_within, .int h0_top])), (aI ca h0_tape 940 F_h0_tape)] := hD
          try dsimp only at w_3108
          rcases w_3108 with ⟨h_3109, h_3110, h_3111, h_3112⟩ | ⟨h_3113, h_3114, h_3115, h_3116, h_3117, h_3118, h_3119⟩
          · skip
            subst h_3109
            have hY := hY.trans (lt1_e h_3112)
            have hY := hY.trans (if_pos h_3111)
            refine oC_i (Wc := []) (Wr := [(h0, .inr (11, [.int h0_thrown, .ref h0_tape, .int h0_taped, .int h0_size, .int h0_limit, .int y215_2, .int y215_3, .int h0_kind, .int y215_4, .int h0_sign, .int h0_fault, .int h0_place, .long y215_5, .int h0_told, .ref h0_now, .ref h0_read, .ref h0_kept, .ref h0_snaps, .ref h0_aside, .ref h0_name, .ref h0_readName, .ref h0_keptName, .ref h0_isKept, .ref h0_onces, .int h0_snapMany, .int h0_lowest, .int h0_highest, .int h0_agreed, .int h0_jurors, .int h0_panelled, .ref h0_inSets, .int h0_surely, .int h0_asked, .ref h0_frees, .int h0_struck, .int h0_beating, .ref h0_text, .int h0_texts, .int h0_seed, .ref h0_line, .ref h0_written, .int h0_lineMany, .int h0_hasWritten, .ref h0_node, .int h0_nodes, .int h0_onesMany, .int h0_within, .int h0_top])), (aI ca h0_tape 940 F_h0_tape)]) (va_runS (As := [.int 0]) (rest := []) ⟨hx, hb, hml, hown, hts⟩ (e_X12_isDigit l D ca H.size 0) (va_cwS 1 hts gX12_go_X12_isDigit rfl rfl rfl (by decide +kernel) ⟨Nat.le_of_ble_eq_true rfl, Nat.le_of_ble_eq_true rfl⟩) (oPS hK hP hD [] rfl (by decide)) rfl rfl hl.1 rfl (lv_room (Nat.le_of_ble_eq_true rfl)) dX12_go_237 ⟨Nat.le_of_ble_eq_true rfl, Nat.le_of_ble_eq_true rfl⟩) hP hD hS hA [] [0, 1] rfl rfl (by decide) (by decide) (fun r_3120 u H locs w_3121 hP hD hS => ?_)
            obtain ⟨⟩ := u
            have hP : va_P D vwCl [(h0, .inr (11, [.int h0_thrown, .ref h0_tape, .int h0_taped, .int h0_size, .int h0_limit, .int y215_2, .int y215_3, .int h0_kind, .int y215_4, .int h0_sign, .int h0_fault, .int h0_place, .long y215_5, .int h0_told, .ref h0_now, .ref h0_read, .ref h0_kept, .ref h0_snaps, .ref h0_aside, .ref h0_name, .ref h0_readName, .ref h0_keptName, .ref h0_isKept, .ref h0_onces, .int h0_snapMany, .int h0_lowest, .int h0_highest, .int h0_agreed, .int h0_jurors, .int h0_panelled, .ref h0_inSets, .int h0_surely, .int h0_asked, .ref h0_frees, .int h0_struck, .int h0_beating, .ref h0_text, .int h0_texts, .int h0_seed, .ref h0_line, .ref h0_written, .int h0_lineMany, .int h0_hasWritten, .ref h0_node, .int h0_nodes, .int h0_onesMany, .int h0_within, .int h0_top])), (aI ca h0_tape 940 F_h0_tape)] H := hP
            have hD : va_D A [(h0, .inr (11, [.int h0_thrown, .ref h0_tape, .int h0_taped, .int h0_size, .int h0_limit, .int y215_2, .int y215_3, .int h0_kind, .int y215_4, .int h0_sign, .int h0_fault, .int h0_place, .long y215_5, .int h0_told, .ref h0_now, .ref h0_read, .ref h0_kept, .ref h0_snaps, .ref h0_aside, .ref h0_name, .ref h0_readName, .ref h0_keptName, .ref h0_isKept, .ref h0_onces, .int h0_snapMany, .int h0_lowest, .int h0_highest, .int h0_agreed, .int h0_jurors, .int h0_panelled, .ref h0_inSets, .int h0_surely, .int h0_asked, .ref h0_frees, .int h0_struck, .int h0_beating, .ref h0_text, .int h0_texts, .int h0_seed, .ref h0_line, .ref h0_written, .int h0_lineMany, .int h0_hasWritten, .ref h0_node, .int h0_nodes, .int h0_onesMany, .int h0_within, .int h0_top])), (aI ca h0_tape 940 F_h0_tape)] := hD
            try dsimp only at w_3121
            rcases w_3121 with ⟨h_3122, h_3123, h_3124, h_3125⟩ | ⟨h_3126, h_3127, h_3128, h_3129, h_3130⟩ | ⟨h_3131, h_3132, h_3133, h_3134, h_3135⟩
            · skip
              subst h_3122
              have hY := hY.trans (lt1_e h_3125)
              have hY := hY.trans (if_pos h_3124)
              refine lv_if_eq (tgt := 350) hx hb dX12_go_240 (by decide) (fun _ => ?_) (fun c => absurd (by decide) c)
              refine lv_aload_n hx hb dX12_go_350 rfl (lv_at hl 0 rfl) ?_
              refine lv_iload_n hx hb dX12_go_351 rfl (lv_at hl 2 rfl) ?_
              refine lv_if_eq (tgt := 377) hx hb dX12_go_352 (by decide) (fun c_3136 => ?_) (fun c_3136 => ?_)
              · skip
                have hY := hY.trans (if_pos c_3136)
                have o_3137 : rl 0 y215_1 0 := rl_eq c_3136
                have h_3138 : rg 0 0 y215_1 := rl_x o_3137 hy215_1 (⟨by decide, by decide⟩ : rg 0 0 (0 : Int32)) (by decide) (by decide)
                have o_3139 : rl 0 0 y215_1 := rl_eq c_3136.symm
                exact J377_2544 y215_2 y215_3 y215_4 y215_5 hy215_2 (rlm (by have q0 := rle py215_2_h0_to; omega)) hy215_3 (rlm (by have q0 := rle py215_3_h0_to; omega)) t215_h0_limit t215_h0_size hY H locs ls (oPsub hP [0, 1] rfl) (hD.sub [0, 1] (by decide) rfl) hS (lv_sub hl [] rfl)
              · skip
                have hY := hY.trans (if_neg c_3136)
                have h_3140 : rg 1 1 y215_1 := cl_nlo c_3136 hy215_1 (show (0 : Int32).toInt = 0 by decide) (by decide) (by decide)
                refine lv_aload_n hx hb dX12_go_355 rfl (lv_at hl 0 rfl) ?_
                refine va_get (D := D) (ci := 11) (v := .int y215_2) (C := RX12) (T := TX12) (N := 48) hx hb hts k2 hown hK.1 hP 0 rfl rfl 5 (by decide) k3 (fun _ h9 => h9) rfl dX12_go_356 ?_
                refine lv_aload_n hx hb dX12_go_359 rfl (lv_at hl 0 rfl) ?_
                refine va_get (D := D) (ci := 11) (v := .int y215_3) (C := RX12) (T := TX12) (N := 48) hx hb hts k2 hown hK.1 hP 0 rfl rfl 6 (by decide) k4 (fun _ h9 => h9) rfl dX12_go_360 ?_
                refine lv_isub hx hb dX12_go_363 ?_
                refine lv_topi (fun x_3141 ex_3141 => ?_)
                have hY := hY.trans (lt1_e ex_3141)
                have h_3142 : rg (-939) 940 x_3141 := by rw [ex_3141]; exact rg_sub hy215_2 hy215_3 (by decide) (by decide) (by decide) (by decide)
                have l_3143 : lq x_3141.toInt (y215_2.toInt + (-1) * y215_3.toInt) := lqm (by rw [ex_3141]; have q := tsub hy215_2 hy215_3 (by decide) (by decide); omega)
                refine lv_iload_n hx hb dX12_go_364 rfl (lv_at hl 1 rfl) ?_
                refine lv_if_eq (tgt := 373) hx hb dX12_go_365 (by decide) (fun c_3144 => ?_) (fun c_3144 => ?_)
                · skip
                  have hY := hY.trans (if_pos c_3144)
                  have o_3145 : rl 0 y215_0 0 := rl_eq c_3144
                  have h_3146 : rg 0 0 y215_0 := rl_x o_3145 hy215_0 (⟨by decide, by decide⟩ : rg 0 0 (0 : Int32)) (by decide) (by decide)
                  have o_3147 : rl 0 0 y215_0 := rl_eq c_3144.symm
                  refine lv_iconst (v := 3) hx hb dX12_go_373 (by decide) ?_
                  exact J374_2545 y215_0 3 x_3141 y215_2 y215_3 y215_4 y215_5 (rgw (lo := 0) (hi := 1) h_3146 (by decide) (by decide)) (⟨by decide, by decide⟩ : rg 3 7 (3 : Int32)) h_3142 hy215_2 (rlm (by have q0 := rle py215_2_h0_to; omega)) hy215_3 (rlm (by have q0 := rle py215_3_h0_to; omega)) t215_h0_limit t215_h0_size hY H locs ls (oPsub hP [0, 1] rfl) (hD.sub [0, 1] (by decide) rfl) hS (lv_sub hl [1] rfl)
                · skip
                  have hY := hY.trans (if_neg c_3144)
                  have h_3148 : rg 1 1 y215_0 := cl_nlo c_3144 hy215_0 (show (0 : Int32).toInt = 0 by decide) (by decide) (by decide)
                  refine lv_bipush (v := 7) hx hb dX12_go_368 (by decide) ?_
                  refine lv_goto (tgt := 374) hx hb dX12_go_370 (by decide) ?_
                  exact J374_2545 y215_0 7 x_3141 y215_2 y215_3 y215_4 y215_5 (rgw (lo := 0) (hi := 1) h_3148 (by decide) (by decide)) (⟨by decide, by decide⟩ : rg 3 7 (7 : Int32)) h_3142 hy215_2 (rlm (by have q0 := rle py215_2_h0_to; omega)) hy215_3 (rlm (by have q0 := rle py215_3_h0_to; omega)) t215_h0_limit t215_h0_size hY H locs ls (oPsub hP [0, 1] rfl) (hD.sub [0, 1] (by decide) rfl) hS (lv_sub hl [1] rfl)
            · skip
              subst h_3126
              exact (rg_no h_3127 (⟨by decide, by decide⟩ : rg 0 0 (0 : Int32)) (by decide)).elim
            · skip
              subst h_3131
              exact (rg_no h_3132 (⟨by decide, by decide⟩ : rg 0 0 (0 : Int32)) (by decide)).elim
          · skip
            have h_3149 : rg 1 939 y215_2 := rg_i h_3115 hy215_2 (by decide) (by decide)
            exact False.elim (by have z0 := rle h_3117; have q0 := rle h_3081; omega)
        · skip
          subst h_3097
          exact (rg_no h_3098 (⟨by decide, by decide⟩ : rg 0 0 (0 : Int32)) (by decide)).elim
        · skip
          subst h_3102
          exact (rg_no h_3103 (⟨by decide, by decide⟩ : rg 0 0 (0 : Int32)) (by decide)).elim
      · skip
        have h_3150 : rg 1 939 y215_2 := rg_i h_3086 hy215_2 (by decide) (by decide)
        have h_3151 : rg 2 940 h0_size := rl_y h_3088 h_3150 t215_h0_size (by decide) (by decide)
        have hY := hY.trans (lt1_e h_3090)
        have hY := hY.trans (if_neg h_3089)
        refine oC_i (Wc := []) (Wr := [(h0, .inr (11, [.int h0_thrown, .ref h0_tape, .int h0_taped, .int h0_size, .int h0_limit, .int y215_2, .int y215_3, .int h0_kind, .int y215_4, .int h0_sign, .int h0_fault, .int h0_place, .long y215_5, .int h0_told, .ref h0_now, .ref h0_read, .ref h0_kept, .ref h0_snaps, .ref h0_aside, .ref h0_name, .ref h0_readName, .ref h0_keptName, .ref h0_isKept, .ref h0_onces, .int h0_snapMany, .int h0_lowest, .int h0_highest, .int h0_agreed, .int h0_jurors, .int h0_panelled, .ref h0_inSets, .int h0_surely, .int h0_asked, .ref h0_frees, .int h0_struck, .int h0_beating, .ref h0_text, .int h0_texts, .int h0_seed, .ref h0_line, .ref h0_written, .int h0_lineMany, .int h0_hasWritten, .ref h0_node, .int h0_nodes, .int h0_onesMany, .int h0_within, .int h0_top])), (aI ca h0_tape 940 F_h0_tape)]) (va_runS (As := [.int r_3078]) (rest := []) ⟨hx, hb, hml, hown, hts⟩ (e_X12_isLetter l D ca H.size r_3078) (va_cwS 1 hts gX12_go_X12_isLetter rfl rfl rfl (by decide +kernel) ⟨Nat.le_of_ble_eq_true rfl, Nat.le_of_ble_eq_true rfl⟩) (oPS hK hP hD [] rfl (by decide)) rfl rfl hl.1 rfl (lv_room (Nat.le_of_ble_eq_true rfl)) dX12_go_223 ⟨Nat.le_of_ble_eq_true rfl, Nat.le_of_ble_eq_true rfl⟩) hP hD hS hA [] [0, 1] rfl rfl (by decide) (by decide) (fun r_3152 u H locs w_3153 hP hD hS => ?_)
        obtain ⟨⟩ := u
        have hP : va_P D vwCl [(h0, .inr (11, [.int h0_thrown, .ref h0_tape, .int h0_taped, .int h0_size, .int h0_limit, .int y215_2, .int y215_3, .int h0_kind, .int y215_4, .int h0_sign, .int h0_fault, .int h0_place, .long y215_5, .int h0_told, .ref h0_now, .ref h0_read, .ref h0_kept, .ref h0_snaps, .ref h0_aside, .ref h0_name, .ref h0_readName, .ref h0_keptName, .ref h0_isKept, .ref h0_onces, .int h0_snapMany, .int h0_lowest, .int h0_highest, .int h0_agreed, .int h0_jurors, .int h0_panelled, .ref h0_inSets, .int h0_surely, .int h0_asked, .ref h0_frees, .int h0_struck, .int h0_beating, .ref h0_text, .int h0_texts, .int h0_seed, .ref h0_line, .ref h0_written, .int h0_lineMany, .int h0_hasWritten, .ref h0_node, .int h0_nodes, .int h0_onesMany, .int h0_within, .int h0_top])), (aI ca h0_tape 940 F_h0_tape)] H := hP
        have hD : va_D A [(h0, .inr (11, [.int h0_thrown, .ref h0_tape, .int h0_taped, .int h0_size, .int h0_limit, .int y215_2, .int y215_3, .int h0_kind, .int y215_4, .int h0_sign, .int h0_fault, .int h0_place, .long y215_5, .int h0_told, .ref h0_now, .ref h0_read, .ref h0_kept, .ref h0_snaps, .ref h0_aside, .ref h0_name, .ref h0_readName, .ref h0_keptName, .ref h0_isKept, .ref h0_onces, .int h0_snapMany, .int h0_lowest, .int h0_highest, .int h0_agreed, .int h0_jurors, .int h0_panelled, .ref h0_inSets, .int h0_surely, .int h0_asked, .ref h0_frees, .int h0_struck, .int h0_beating, .ref h0_text, .int h0_texts, .int h0_seed, .ref h0_line, .ref h0_written, .int h0_lineMany, .int h0_hasWritten, .ref h0_node, .int h0_nodes, .int h0_onesMany, .int h0_within, .int h0_top])), (aI ca h0_tape 940 F_h0_tape)] := hD
        try dsimp only at w_3153
        rcases w_3153 with ⟨h_3154, h_3155, h_3156, h_3157⟩ | ⟨h_3158, h_3159, h_3160, h_3161, h_3162⟩ | ⟨h_3163, h_3164, h_3165, h_3166, h_3167⟩
        · skip
          subst h_3154
          have h_3168 : rg 0 96 r_3078 := rg_i h_3155 h_3085 (by decide) (by decide)
          have hY := hY.trans (lt1_e h_3157)
          have hY := hY.trans (if_pos h_3156)
          refine lv_if_ne (tgt := 243) hx hb dX12_go_226 (by decide) (fun c => absurd (by decide) c) (fun _ => ?_)
          refine lv_aload_n hx hb dX12_go_229 rfl (lv_at hl 0 rfl) ?_
          refine lv_aload_n hx hb dX12_go_230 rfl (lv_at hl 0 rfl) ?_
          refine va_get (D := D) (ci := 11) (v := .int y215_2) (C := RX12) (T := TX12) (N := 48) hx hb hts k2 hown hK.1 hP 0 rfl rfl 5 (by decide) k3 (fun _ h9 => h9) rfl dX12_go_231 ?_
          refine oC_i (Wc := [(h0, .inr (11, [.int h0_thrown, .ref h0_tape, .int h0_taped, .int h0_size, .int h0_limit, .int y215_2, .int y215_3, .int h0_kind, .int y215_4, .int h0_sign, .int h0_fault, .int h0_place, .long y215_5, .int h0_told, .ref h0_now, .ref h0_read, .ref h0_kept, .ref h0_snaps, .ref h0_aside, .ref h0_name, .ref h0_readName, .ref h0_keptName, .ref h0_isKept, .ref h0_onces, .int h0_snapMany, .int h0_lowest, .int h0_highest, .int h0_agreed, .int h0_jurors, .int h0_panelled, .ref h0_inSets, .int h0_surely, .int h0_asked, .ref h0_frees, .int h0_struck, .int h0_beating, .ref h0_text, .int h0_texts, .int h0_seed, .ref h0_line, .ref h0_written, .int h0_lineMany, .int h0_hasWritten, .ref h0_node, .int h0_nodes, .int h0_onesMany, .int h0_within, .int h0_top])), (aI ca h0_tape 940 F_h0_tape)]) (Wr := []) (va_runV (As := [.int y215_2]) (rest := []) ⟨hx, hb, hml, hown, hts⟩ (e_X12_tapeAt l D ca H.size h0 y215_2 h0_thrown h0_tape h0_taped h0_size h0_limit y215_2 y215_3 h0_kind y215_4 h0_sign h0_fault h0_place y215_5 h0_told h0_now h0_read h0_kept h0_snaps h0_aside h0_name h0_readName h0_keptName h0_isKept h0_onces h0_snapMany h0_lowest h0_highest h0_agreed h0_jurors h0_panelled h0_inSets h0_surely h0_asked h0_frees h0_struck h0_beating h0_text h0_texts h0_seed h0_line h0_written h0_lineMany h0_hasWritten h0_node h0_nodes h0_onesMany h0_within h0_top F_h0_tape (rgw (lo := 0) (hi := 940) h_3150 (by decide) (by decide)) i_h0_taped (rgw (lo := 0) (hi := 940) h_3151 (by decide) (by decide)) (rgw (lo := 0) (hi := 940) h_3150 (by decide) (by decide)) i_h0_kind i_h0_snapMany i_h0_texts i_h0_lineMany i_h0_hasWritten i_h0_nodes i_h0_onesMany (sg_w (a' := 0) (b' := 940) (lo' := 0) (hi' := 255) s_h0_tape_0 (by decide) (by decide) (by decide) (by decide))) (cwV 1 hts gX12_go_X12_tapeAt rfl rfl rfl (by decide +kernel) ⟨Nat.le_of_ble_eq_true rfl, Nat.le_of_ble_eq_true rfl⟩) (oPV (C := RX12) hK hP hD [0, 1] rfl (by decide) 0 rfl (ci := 11) rfl rfl) rfl rfl hl.1 rfl (lv_room (Nat.le_of_ble_eq_true rfl)) dX12_go_234 ⟨Nat.le_of_ble_eq_true rfl, Nat.le_of_ble_eq_true rfl⟩) hP hD hS hA [0, 1] [] rfl rfl (by decide) (by decide) (fun r_3169 u H locs w_3170 hP hD hS => ?_)
          obtain ⟨⟩ := u
          have hP : va_P D vwCl [(h0, .inr (11, [.int h0_thrown, .ref h0_tape, .int h0_taped, .int h0_size, .int h0_limit, .int y215_2, .int y215_3, .int h0_kind, .int y215_4, .int h0_sign, .int h0_fault, .int h0_place, .long y215_5, .int h0_told, .ref h0_now, .ref h0_read, .ref h0_kept, .ref h0_snaps, .ref h0_aside, .ref h0_name, .ref h0_readName, .ref h0_keptName, .ref h0_isKept, .ref h0_onces, .int h0_snapMany, .int h0_lowest, .int h0_highest, .int h0_agreed, .int h0_jurors, .int h0_panelled, .ref h0_inSets, .int h0_surely, .int h0_asked, .ref h0_frees, .int h0_struck, .int h0_beating, .ref h0_text, .int h0_texts, .int h0_seed, .ref h0_line, .ref h0_written, .int h0_lineMany, .int h0_hasWritten, .ref h0_node, .int h0_nodes, .int h0_onesMany, .int h0_within, .int h0_top])), (aI ca h0_tape 940 F_h0_tape)] H := hP
          have hD : va_D A [(h0, .inr (11, [.int h0_thrown, .ref h0_tape, .int h0_taped, .int h0_size, .int h0_limit, .int y215_2, .int y215_3, .int h0_kind, .int y215_4, .int h0_sign, .int h0_fault, .int h0_place, .long y215_5, .int h0_told, .ref h0_now, .ref h0_read, .ref h0_kept, .ref h0_snaps, .ref h0_aside, .ref h0_name, .ref h0_readName, .ref h0_keptName, .ref h0_isKept, .ref h0_onces, .int h0_snapMany, .int h0_lowest, .int h0_highest, .int h0_agreed, .int h0_jurors, .int h0_panelled, .ref h0_inSets, .int h0_surely, .int h0_asked, .ref h0_frees, .int h0_struck, .int h0_beating, .ref h0_text, .int h0_texts, .int h0_seed, .ref h0_line, .ref h0_written, .int h0_lineMany, .int h0_hasWritten, .ref h0_node, .int h0_nodes, .int h0_onesMany, .int h0_within, .int h0_top])), (aI ca h0_tape 940 F_h0_tape)] := hD
          try dsimp only at w_3170
          rcases w_3170 with ⟨h_3171, h_3172, h_3173, h_3174⟩ | ⟨h_3175, h_3176, h_3177, h_3178, h_3179, h_3180, h_3181⟩
          · skip
            subst h_3171
            exact False.elim (by have z0 := rle h_3172; have q0 := rle h_3088; omega)
          · skip
            have h_3182 := (h_3175.trans h_3084.symm).symm
            subst h_3182
            have hY := hY.trans (lt1_e h_3181)
            have hY := hY.trans (if_neg h_3180)
            refine oC_i (Wc := []) (Wr := [(h0, .inr (11, [.int h0_thrown, .ref h0_tape, .int h0_taped, .int h0_size, .int h0_limit, .int y215_2, .int y215_3, .int h0_kind, .int y215_4, .int h0_sign, .int h0_fault, .int h0_place, .long y215_5, .int h0_told, .ref h0_now, .ref h0_read, .ref h0_kept, .ref h0_snaps, .ref h0_aside, .ref h0_name, .ref h0_readName, .ref h0_keptName, .ref h0_isKept, .ref h0_onces, .int h0_snapMany, .int h0_lowest, .int h0_highest, .int h0_agreed, .int h0_jurors, .int h0_panelled, .ref h0_inSets, .int h0_surely, .int h0_asked, .ref h0_frees, .int h0_struck, .int h0_beating, .ref h0_text, .int h0_texts, .int h0_seed, .ref h0_line, .ref h0_written, .int h0_lineMany, .int h0_hasWritten, .ref h0_node, .int h0_nodes, .int h0_onesMany, .int h0_within, .int h0_top])), (aI ca h0_tape 940 F_h0_tape)]) (va_runS (As := [.int r_3078]) (rest := []) ⟨hx, hb, hml, hown, hts⟩ (e_X12_isDigit l D ca H.size r_3078) (va_cwS 1 hts gX12_go_X12_isDigit rfl rfl rfl (by decide +kernel) ⟨Nat.le_of_ble_eq_true rfl, Nat.le_of_ble_eq_true rfl⟩) (oPS hK hP hD [] rfl (by decide)) rfl rfl hl.1 rfl (lv_room (Nat.le_of_ble_eq_true rfl)) dX12_go_237 ⟨Nat.le_of_ble_eq_true rfl, Nat.le_of_ble_eq_true rfl⟩) hP hD hS hA [] [0, 1] rfl rfl (by decide) (by decide) (fun r_3183 u H locs w_3184 hP hD hS => ?_)
            obtain ⟨⟩ := u
            have hP : va_P D vwCl [(h0, .inr (11, [.int h0_thrown, .ref h0_tape, .int h0_taped, .int h0_size, .int h0_limit, .int y215_2, .int y215_3, .int h0_kind, .int y215_4, .int h0_sign, .int h0_fault, .int h0_place, .long y215_5, .int h0_told, .ref h0_now, .ref h0_read, .ref h0_kept, .ref h0_snaps, .ref h0_aside, .ref h0_name, .ref h0_readName, .ref h0_keptName, .ref h0_isKept, .ref h0_onces, .int h0_snapMany, .int h0_lowest, .int h0_highest, .int h0_agreed, .int h0_jurors, .int h0_panelled, .ref h0_inSets, .int h0_surely, .int h0_asked, .ref h0_frees, .int h0_struck, .int h0_beating, .ref h0_text, .int h0_texts, .int h0_seed, .ref h0_line, .ref h0_written, .int h0_lineMany, .int h0_hasWritten, .ref h0_node, .int h0_nodes, .int h0_onesMany, .int h0_within, .int h0_top])), (aI ca h0_tape 940 F_h0_tape)] H := hP
            have hD : va_D A [(h0, .inr (11, [.int h0_thrown, .ref h0_tape, .int h0_taped, .int h0_size, .int h0_limit, .int y215_2, .int y215_3, .int h0_kind, .int y215_4, .int h0_sign, .int h0_fault, .int h0_place, .long y215_5, .int h0_told, .ref h0_now, .ref h0_read, .ref h0_kept, .ref h0_snaps, .ref h0_aside, .ref h0_name, .ref h0_readName, .ref h0_keptName, .ref h0_isKept, .ref h0_onces, .int h0_snapMany, .int h0_lowest, .int h0_highest, .int h0_agreed, .int h0_jurors, .int h0_panelled, .ref h0_inSets, .int h0_surely, .int h0_asked, .ref h0_frees, .int h0_struck, .int h0_beating, .ref h0_text, .int h0_texts, .int h0_seed, .ref h0_line, .ref h0_written, .int h0_lineMany, .int h0_hasWritten, .ref h0_node, .int h0_nodes, .int h0_onesMany, .int h0_within, .int h0_top])), (aI ca h0_tape 940 F_h0_tape)] := hD
            try dsimp only at w_3184
            rcases w_3184 with ⟨h_3185, h_3186, h_3187, h_3188⟩ | ⟨h_3189, h_3190, h_3191, h_3192, h_3193⟩ | ⟨h_3194, h_3195, h_3196, h_3197, h_3198⟩
            · skip
              subst h_3185
              have h_3199 : rg 0 47 r_3078 := rg_i h_3186 h_3168 (by decide) (by decide)
              have hY := hY.trans (lt1_e h_3188)
              have hY := hY.trans (if_pos h_3187)
              refine lv_if_eq (tgt := 350) hx hb dX12_go_240 (by decide) (fun _ => ?_) (fun c => absurd (by decide) c)
              refine lv_aload_n hx hb dX12_go_350 rfl (lv_at hl 0 rfl) ?_
              refine lv_iload_n hx hb dX12_go_351 rfl (lv_at hl 2 rfl) ?_
              refine lv_if_eq (tgt := 377) hx hb dX12_go_352 (by decide) (fun c_3200 => ?_) (fun c_3200 => ?_)
              · skip
                have hY := hY.trans (if_pos c_3200)
                have o_3201 : rl 0 y215_1 0 := rl_eq c_3200
                have h_3202 : rg 0 0 y215_1 := rl_x o_3201 hy215_1 (⟨by decide, by decide⟩ : rg 0 0 (0 : Int32)) (by decide) (by decide)
                have o_3203 : rl 0 0 y215_1 := rl_eq c_3200.symm
                exact J377_2544 y215_2 y215_3 y215_4 y215_5 (rgw (lo := 1) (hi := 940) h_3150 (by decide) (by decide)) (rlm (by have q0 := rle py215_2_h0_to; omega)) hy215_3 (rlm (by have q0 := rle py215_3_h0_to; omega)) t215_h0_limit (rgw (lo := 1) (hi := 940) h_3151 (by decide) (by decide)) hY H locs ls (oPsub hP [0, 1] rfl) (hD.sub [0, 1] (by decide) rfl) hS (lv_sub hl [] rfl)
              · skip
                have hY := hY.trans (if_neg c_3200)
                have h_3204 : rg 1 1 y215_1 := cl_nlo c_3200 hy215_1 (show (0 : Int32).toInt = 0 by decide) (by decide) (by decide)
                refine lv_aload_n hx hb dX12_go_355 rfl (lv_at hl 0 rfl) ?_
                refine va_get (D := D) (ci := 11) (v := .int y215_2) (C := RX12) (T := TX12) (N := 48) hx hb hts k2 hown hK.1 hP 0 rfl rfl 5 (by decide) k3 (fun _ h9 => h9) rfl dX12_go_356 ?_
                refine lv_aload_n hx hb dX12_go_359 rfl (lv_at hl 0 rfl) ?_
                refine va_get (D := D) (ci := 11) (v := .int y215_3) (C := RX12) (T := TX12) (N := 48) hx hb hts k2 hown hK.1 hP 0 rfl rfl 6 (by decide) k4 (fun _ h9 => h9) rfl dX12_go_360 ?_
                refine lv_isub hx hb dX12_go_363 ?_
                refine lv_topi (fun x_3205 ex_3205 => ?_)
                have hY := hY.trans (lt1_e ex_3205)
                have h_3206 : rg (-939) 939 x_3205 := by rw [ex_3205]; exact rg_sub h_3150 hy215_3 (by decide) (by decide) (by decide) (by decide)
                have l_3207 : lq x_3205.toInt (y215_2.toInt + (-1) * y215_3.toInt) := lqm (by rw [ex_3205]; have q := tsub h_3150 hy215_3 (by decide) (by decide); omega)
                refine lv_iload_n hx hb dX12_go_364 rfl (lv_at hl 1 rfl) ?_
                refine lv_if_eq (tgt := 373) hx hb dX12_go_365 (by decide) (fun c_3208 => ?_) (fun c_3208 => ?_)
                · skip
                  have hY := hY.trans (if_pos c_3208)
                  have o_3209 : rl 0 y215_0 0 := rl_eq c_3208
                  have h_3210 : rg 0 0 y215_0 := rl_x o_3209 hy215_0 (⟨by decide, by decide⟩ : rg 0 0 (0 : Int32)) (by decide) (by decide)
                  have o_3211 : rl 0 0 y215_0 := rl_eq c_3208.symm
                  refine lv_iconst (v := 3) hx hb dX12_go_373 (by decide) ?_
                  exact J374_2545 y215_0 3 x_3205 y215_2 y215_3 y215_4 y215_5 (rgw (lo := 0) (hi := 1) h_3210 (by decide) (by decide)) (⟨by decide, by decide⟩ : rg 3 7 (3 : Int32)) (rgw (lo := (-939)) (hi := 940) h_3206 (by decide) (by decide)) (rgw (lo := 1) (hi := 940) h_3150 (by decide) (by decide)) (rlm (by have q0 := rle py215_2_h0_to; omega)) hy215_3 (rlm (by have q0 := rle py215_3_h0_to; omega)) t215_h0_limit (rgw (lo := 1) (hi := 940) h_3151 (by decide) (by decide)) hY H locs ls (oPsub hP [0, 1] rfl) (hD.sub [0, 1] (by decide) rfl) hS (lv_sub hl [1] rfl)
                · skip
                  have hY := hY.trans (if_neg c_3208)
                  have h_3212 : rg 1 1 y215_0 := cl_nlo c_3208 hy215_0 (show (0 : Int32).toInt = 0 by decide) (by decide) (by decide)
                  refine lv_bipush (v := 7) hx hb dX12_go_368 (by decide) ?_
                  refine lv_goto (tgt := 374) hx hb dX12_go_370 (by decide) ?_
                  exact J374_2545 y215_0 7 x_3205 y215_2 y215_3 y215_4 y215_5 (rgw (lo := 0) (hi := 1) h_3212 (by decide) (by decide)) (⟨by decide, by decide⟩ : rg 3 7 (7 : Int32)) (rgw (lo := (-939)) (hi := 940) h_3206 (by decide) (by decide)) (rgw (lo := 1) (hi := 940) h_3150 (by decide) (by decide)) (rlm (by have q0 := rle py215_2_h0_to; omega)) hy215_3 (rlm (by have q0 := rle py215_3_h0_to; omega)) t215_h0_limit (rgw (lo := 1) (hi := 940) h_3151 (by decide) (by decide)) hY H locs ls (oPsub hP [0, 1] rfl) (hD.sub [0, 1] (by decide) rfl) hS (lv_sub hl [1] rfl)
            · skip
              subst h_3189
              have h_3213 : rg 58 96 r_3078 := rg_i h_3190 h_3168 (by decide) (by decide)
              have hY := hY.trans (lt1_e h_3193)
              have hY := hY.trans (if_neg h_3191)
              have hY := hY.trans (if_pos h_3192)
              refine lv_if_eq (tgt := 350) hx hb dX12_go_240 (by decide) (fun _ => ?_) (fun c => absurd (by decide) c)
              refine lv_aload_n hx hb dX12_go_350 rfl (lv_at hl 0 rfl) ?_
              refine lv_iload_n hx hb dX12_go_351 rfl (lv_at hl 2 rfl) ?_
              refine lv_if_eq (tgt := 377) hx hb dX12_go_352 (by decide) (fun c_3214 => ?_) (fun c_3214 => ?_)
              · skip
                have hY := hY.trans (if_pos c_3214)
                have o_3215 : rl 0 y215_1 0 := rl_eq c_3214
                have h_3216 : rg 0 0 y215_1 := rl_x o_3215 hy215_1 (⟨by decide, by decide⟩ : rg 0 0 (0 : Int32)) (by decide) (by decide)
                have o_3217 : rl 0 0 y215_1 := rl_eq c_3214.symm
                exact J377_2544 y215_2 y215_3 y215_4 y215_5 (rgw (lo := 1) (hi := 940) h_3150 (by decide) (by decide)) (rlm (by have q0 := rle py215_2_h0_to; omega)) hy215_3 (rlm (by have q0 := rle py215_3_h0_to; omega)) t215_h0_limit (rgw (lo := 1) (hi := 940) h_3151 (by decide) (by decide)) hY H locs ls (oPsub hP [0, 1] rfl) (hD.sub [0, 1] (by decide) rfl) hS (lv_sub hl [] rfl)
              · skip
                have hY := hY.trans (if_neg c_3214)
                have h_3218 : rg 1 1 y215_1 := cl_nlo c_3214 hy215_1 (show (0 : Int32).toInt = 0 by decide) (by decide) (by decide)
                refine lv_aload_n hx hb dX12_go_355 rfl (lv_at hl 0 rfl) ?_
                refine va_get (D := D) (ci := 11) (v := .int y215_2) (C := RX12) (T := TX12) (N := 48) hx hb hts k2 hown hK.1 hP 0 rfl rfl 5 (by decide) k3 (fun _ h9 => h9) rfl dX12_go_356 ?_
                refine lv_aload_n hx hb dX12_go_359 rfl (lv_at hl 0 rfl) ?_
                refine va_get (D := D) (ci := 11) (v := .int y215_3) (C := RX12) (T := TX12) (N := 48) hx hb hts k2 hown hK.1 hP 0 rfl rfl 6 (by decide) k4 (fun _ h9 => h9) rfl dX12_go_360 ?_
                refine lv_isub hx hb dX12_go_363 ?_
                refine lv_topi (fun x_3219 ex_3219 => ?_)
                have hY := hY.trans (lt1_e ex_3219)
                have h_3220 : rg (-939) 939 x_3219 := by rw [ex_3219]; exact rg_sub h_3150 hy215_3 (by decide) (by decide) (by decide) (by decide)
                have l_3221 : lq x_3219.toInt (y215_2.toInt + (-1) * y215_3.toInt) := lqm (by rw [ex_3219]; have q := tsub h_3150 hy215_3 (by decide) (by decide); omega)
                refine lv_iload_n hx hb dX12_go_364 rfl (lv_at hl 1 rfl) ?_
                refine lv_if_eq (tgt := 373) hx hb dX12_go_365 (by decide) (fun c_3222 => ?_) (fun c_3222 => ?_)
                · skip
                  have hY := hY.trans (if_pos c_3222)
                  have o_3223 : rl 0 y215_0 0 := rl_eq c_3222
                  have h_3224 : rg 0 0 y215_0 := rl_x o_3223 hy215_0 (⟨by decide, by decide⟩ : rg 0 0 (0 : Int32)) (by decide) (by decide)
                  have o_3225 : rl 0 0 y215_0 := rl_eq c_3222.symm
                  refine lv_iconst (v := 3) hx hb dX12_go_373 (by decide) ?_
                  exact J374_2545 y215_0 3 x_3219 y215_2 y215_3 y215_4 y215_5 (rgw (lo := 0) (hi := 1) h_3224 (by decide) (by decide)) (⟨by decide, by decide⟩ : rg 3 7 (3 : Int32)) (rgw (lo := (-939)) (hi := 940) h_3220 (by decide) (by decide)) (rgw (lo := 1) (hi := 940) h_3150 (by decide) (by decide)) (rlm (by have q0 := rle py215_2_h0_to; omega)) hy215_3 (rlm (by have q0 := rle py215_3_h0_to; omega)) t215_h0_limit (rgw (lo := 1) (hi := 940) h_3151 (by decide) (by decide)) hY H locs ls (oPsub hP [0, 1] rfl) (hD.sub [0, 1] (by decide) rfl) hS (lv_sub hl [1] rfl)
                · skip
                  have hY := hY.trans (if_neg c_3222)
                  have h_3226 : rg 1 1 y215_0 := cl_nlo c_3222 hy215_0 (show (0 : Int32).toInt = 0 by decide) (by decide) (by decide)
                  refine lv_bipush (v := 7) hx hb dX12_go_368 (by decide) ?_
                  refine lv_goto (tgt := 374) hx hb dX12_go_370 (by decide) ?_
                  exact J374_2545 y215_0 7 x_3219 y215_2 y215_3 y215_4 y215_5 (rgw (lo := 0) (hi := 1) h_3226 (by decide) (by decide)) (⟨by decide, by decide⟩ : rg 3 7 (7 : Int32)) (rgw (lo := (-939)) (hi := 940) h_3220 (by decide) (by decide)) (rgw (lo := 1) (hi := 940) h_3150 (by decide) (by decide)) (rlm (by have q0 := rle py215_2_h0_to; omega)) hy215_3 (rlm (by have q0 := rle py215_3_h0_to; omega)) t215_h0_limit (rgw (lo := 1) (hi := 940) h_3151 (by decide) (by decide)) hY H locs ls (oPsub hP [0, 1] rfl) (hD.sub [0, 1] (by decide) rfl) hS (lv_sub hl [1] rfl)
            · skip
              subst h_3194
              have hY := hY.trans (lt1_e h_3198)
              have hY := hY.trans (if_neg h_3196)
              have hY := hY.trans (if_neg h_3197)
              refine lv_if_eq (tgt := 350) hx hb dX12_go_240 (by decide) (fun c => absurd c (by decide)) (fun _ => ?_)
              refine lv_aload_n hx hb dX12_go_243 rfl (lv_at hl 0 rfl) ?_
              refine va_get (D := D) (ci := 11) (v := .ref h0_tape) (C := RX12) (T := TX12) (N := 48) hx hb hts k2 hown hK.1 hP 0 rfl rfl 1 (by decide) k5 (fun _ h9 => h9) rfl dX12_go_244 ?_
              refine lv_aload_n hx hb dX12_go_247 rfl (lv_at hl 0 rfl) ?_
              refine va_get (D := D) (ci := 11) (v := .int y215_2) (C := RX12) (T := TX12) (N := 48) hx hb hts k2 hown hK.1 hP 0 rfl rfl 5 (by decide) k3 (fun _ h9 => h9) rfl dX12_go_248 ?_
              refine va_iald hx hb hK.1 hP 1 0 rfl rfl (rg_in h_3150 (by decide) (by decide)) dX12_go_251 ?_
              refine oti r_3078 h_3084.symm ?_
              refine lv_istore (lv' := [(4, .int r_3078), (0, .ref h0), (2, .int y215_0), (3, .int y215_1)]) hx hb dX12_go_252 hl (by decide) rfl (fun ls hl => ?_)
              refine lv_iload_n hx hb dX12_go_254 rfl (lv_at hl 3 rfl) ?_
              refine lv_if_eq (tgt := 271) hx hb dX12_go_255 (by decide) (fun c_3227 => ?_) (fun c_3227 => ?_)
              · skip
                have hY := hY.trans (if_pos c_3227)
                have o_3228 : rl 0 y215_1 0 := rl_eq c_3227
                have h_3229 : rg 0 0 y215_1 := rl_x o_3228 hy215_1 (⟨by decide, by decide⟩ : rg 0 0 (0 : Int32)) (by decide) (by decide)
                have o_3230 : rl 0 0 y215_1 := rl_eq c_3227.symm
                refine lv_iconst (v := 0) hx hb dX12_go_271 (by decide) ?_
                refine lv_istore_n (lv' := [(3, .int 0), (4, .int r_3078), (0, .ref h0), (2, .int y215_0)]) hx hb dX12_go_272 rfl hl (by decide) rfl (fun ls hl => ?_)
                refine lv_aload_n hx hb dX12_go_273 rfl (lv_at hl 2 rfl) ?_
                refine va_get (D := D) (ci := 11) (v := .int y215_2) (C := RX12) (T := TX12) (N := 48) hx hb hts k2 hown hK.1 hP 0 rfl rfl 5 (by decide) k3 (fun _ h9 => h9) rfl dX12_go_274 ?_
                refine lv_aload_n hx hb dX12_go_277 rfl (lv_at hl 2 rfl) ?_
                refine va_get (D := D) (ci := 11) (v := .int y215_3) (C := RX12) (T := TX12) (N := 48) hx hb hts k2 hown hK.1 hP 0 rfl rfl 6 (by decide) k4 (fun _ h9 => h9) rfl dX12_go_278 ?_
                refine lv_isub hx hb dX12_go_281 ?_
                refine lv_topi (fun x_3231 ex_3231 => ?_)
                have hY := hY.trans (lt1_e ex_3231)
                have h_3232 : rg (-939) 939 x_3231 := by rw [ex_3231]; exact rg_sub h_3150 hy215_3 (by decide) (by decide) (by decide) (by decide)
                have l_3233 : lq x_3231.toInt (y215_2.toInt + (-1) * y215_3.toInt) := lqm (by rw [ex_3231]; have q := tsub h_3150 hy215_3 (by decide) (by decide); omega)
                refine lv_bipush (v := 7) hx hb dX12_go_282 (by decide) ?_
                refine lv_icmp_ge (tgt := 307) hx hb dX12_go_284 (by decide) (fun c_3234 => ?_) (fun c_3234 => ?_)
                · skip
                  have hY := hY.trans (if_pos c_3234)
                  have o_3235 : rl 0 7 x_3231 := rl_le c_3234
                  have h_3236 : rg 7 939 x_3231 := rl_y o_3235 (⟨by decide, by decide⟩ : rg 7 7 (7 : Int32)) h_3232 (by decide) (by decide)
                  refine lv_aload_n hx hb dX12_go_307 rfl (lv_at hl 2 rfl) ?_
                  refine va_get (D := D) (ci := 11) (v := .int y215_2) (C := RX12) (T := TX12) (N := 48) hx hb hts k2 hown hK.1 hP 0 rfl rfl 5 (by decide) k3 (fun _ h9 => h9) rfl dX12_go_308 ?_
                  refine lv_aload_n hx hb dX12_go_311 rfl (lv_at hl 2 rfl) ?_
                  refine va_get (D := D) (ci := 11) (v := .int y215_3) (C := RX12) (T := TX12) (N := 48) hx hb hts k2 hown hK.1 hP 0 rfl rfl 6 (by decide) k4 (fun _ h9 => h9) rfl dX12_go_312 ?_
                  refine lv_isub hx hb dX12_go_315 ?_
                  refine lv_topi (fun x_3237 ex_3237 => ?_)
                  have hY := hY.trans (lt1_e ex_3237)
                  have h_3238 : rg (-939) 939 x_3237 := by rw [ex_3237]; exact rg_sub h_3150 hy215_3 (by decide) (by decide) (by decide) (by decide)
                  have l_3239 : lq x_3237.toInt (y215_2.toInt + (-1) * y215_3.toInt) := lqm (by rw [ex_3237]; have q := tsub h_3150 hy215_3 (by decide) (by decide); omega)
                  refine lv_iconst (v := 3) hx hb dX12_go_316 (by decide) ?_
                  refine lv_icmp_ge (tgt := 337) hx hb dX12_go_317 (by decide) (fun c_3240 => ?_) (fun c_3240 => ?_)
                  · skip
                    have hY := hY.trans (if_pos c_3240)
                    have o_3241 : rl 0 3 x_3237 := rl_le c_3240
                    have h_3242 : rg 3 939 x_3237 := rl_y o_3241 (⟨by decide, by decide⟩ : rg 3 3 (3 : Int32)) h_3238 (by decide) (by decide)
                    refine lv_aload_n hx hb dX12_go_337 rfl (lv_at hl 2 rfl) ?_
                    refine lv_dup hx hb dX12_go_338 rfl ?_
                    refine va_get (D := D) (ci := 11) (v := .int y215_2) (C := RX12) (T := TX12) (N := 48) hx hb hts k2 hown hK.1 hP 0 rfl rfl 5 (by decide) k3 (fun _ h9 => h9) rfl dX12_go_339 ?_
                    refine lv_iconst (v := 1) hx hb dX12_go_342 (by decide) ?_
                    refine lv_iadd hx hb dX12_go_343 ?_
                    refine lv_topi (fun x_3243 ex_3243 => ?_)
                    have hY := hY.trans (lt1_e ex_3243)
                    have h_3244 : rg 2 940 x_3243 := by rw [ex_3243]; exact rg_add h_3150 (⟨by decide, by decide⟩ : rg 1 1 (1 : Int32)) (by decide) (by decide) (by decide) (by decide)
                    have l_3245 : lq x_3243.toInt (y215_2.toInt + 1) := lqm (by rw [ex_3243]; have q := tadd h_3150 (⟨by decide, by decide⟩ : rg 1 1 (1 : Int32)) (by decide) (by decide); have r1 := lqe (lqm (by decide) : lq (1 : Int32).toInt 1); omega)
                    refine va_put (D := D) (ci := 11) (v := .int x_3243) (ty := .int) (C := RX12) (T := TX12) (N := 48) hx hb hts k2 tyX12 tyX12_ok nmX12 hown hK.1 hP hD hS 0 rfl rfl 5 (by decide) k3 (fun _ h9 => h9) rfl (by decide +kernel) rfl rfl (Nat.le_of_ble_eq_true rfl) dX12_go_344 (fun H locs hP hD hS => ?_)
                    have hP : va_P D vwCl [(h0, .inr (11, [.int h0_thrown, .ref h0_tape, .int h0_taped, .int h0_size, .int h0_limit, .int x_3243, .int y215_3, .int h0_kind, .int y215_4, .int h0_sign, .int h0_fault, .int h0_place, .long y215_5, .int h0_told, .ref h0_now, .ref h0_read, .ref h0_kept, .ref h0_snaps, .ref h0_aside, .ref h0_name, .ref h0_readName, .ref h0_keptName, .ref h0_isKept, .ref h0_onces, .int h0_snapMany, .int h0_lowest, .int h0_highest, .int h0_agreed, .int h0_jurors, .int h0_panelled, .ref h0_inSets, .int h0_surely, .int h0_asked, .ref h0_frees, .int h0_struck, .int h0_beating, .ref h0_text, .int h0_texts, .int h0_seed, .ref h0_line, .ref h0_written, .int h0_lineMany, .int h0_hasWritten, .ref h0_node, .int h0_nodes, .int h0_onesMany, .int h0_within, .int h0_top])), (aI ca h0_tape 940 F_h0_tape)] H := hP
                    have hD : va_D A [(h0, .inr (11, [.int h0_thrown, .ref h0_tape, .int h0_taped, .int h0_size, .int h0_limit, .int x_3243, .int y215_3, .int h0_kind, .int y215_4, .int h0_sign, .int h0_fault, .int h0_place, .long y215_5, .int h0_told, .ref h0_now, .ref h0_read, .ref h0_kept, .ref h0_snaps, .ref h0_aside, .ref h0_name, .ref h0_readName, .ref h0_keptName, .ref h0_isKept, .ref h0_onces, .int h0_snapMany, .int h0_lowest, .int h0_highest, .int h0_agreed, .int h0_jurors, .int h0_panelled, .ref h0_inSets, .int h0_surely, .int h0_asked, .ref h0_frees, .int h0_struck, .int h0_beating, .ref h0_text, .int h0_texts, .int h0_seed, .ref h0_line, .ref h0_written, .int h0_lineMany, .int h0_hasWritten, .ref h0_node, .int h0_nodes, .int h0_onesMany, .int h0_within, .int h0_top])), (aI ca h0_tape 940 F_h0_tape)] := hD
                    refine lv_goto (tgt := 215) hx hb dX12_go_347 (by decide) ?_
                    exact ih215 y215_0 0 x_3243 y215_3 y215_4 y215_5 trivial hy215_0 (⟨by decide, by decide⟩ : rg 0 1 (0 : Int32)) (rgw (lo := 1) (hi := 940) h_3244 (by decide) (by decide)) (rlm (by have q0 := lqe l_3245; have q1 := rle py215_2_h0_to; omega)) hy215_3 (rlm (by have q0 := rle py215_3_h0_to; omega)) t215_h0_limit (rgw (lo := 1) (hi := 940) h_3151 (by decide) (by decide)) (by have q0 := lqe l_3245; omega) hY H locs ls (oPsub hP [0, 1] rfl) (hD.sub [0, 1] (by decide) rfl) hS (lv_sub hl [2, 3, 0] rfl)
                  · skip
                    have hY := hY.trans (if_neg c_3240)
                    have o_3246 : rl 1 x_3237 3 := rl_nle c_3240
                    have h_3247 : rg (-939) 2 x_3237 := rl_x o_3246 h_3238 (⟨by decide, by decide⟩ : rg 3 3 (3 : Int32)) (by decide) (by decide)
                    refine lv_aload_n hx hb dX12_go_320 rfl (lv_at hl 2 rfl) ?_
                    refine lv_bipush (v := 10) hx hb dX12_go_321 (by decide) ?_
                    refine lv_aload_n hx hb dX12_go_323 rfl (lv_at hl 2 rfl) ?_
                    refine va_get (D := D) (ci := 11) (v := .int y215_4) (C := RX12) (T := TX12) (N := 48) hx hb hts k2 hown hK.1 hP 0 rfl rfl 8 (by decide) k6 (fun _ h9 => h9) rfl dX12_go_324 ?_
                    refine lv_imul hx hb dX12_go_327 ?_
                    refine lv_topi (fun x_3248 ex_3248 => ?_)
                    have hY := hY.trans (lt1_e ex_3248)
                    refine lv_iload hx hb dX12_go_328 (lv_at hl 1 rfl) ?_
                    refine lv_iadd hx hb dX12_go_330 ?_
                    refine lv_topi (fun x_3249 ex_3249 => ?_)
                    have hY := hY.trans (lt1_e ex_3249)
                    refine lv_bipush (v := 48) hx hb dX12_go_331 (by decide) ?_
                    refine lv_isub hx hb dX12_go_333 ?_
                    refine lv_topi (fun x_3250 ex_3250 => ?_)
                    have hY := hY.trans (lt1_e ex_3250)
                    refine va_put (D := D) (ci := 11) (v := .int x_3250) (ty := .int) (C := RX12) (T := TX12) (N := 48) hx hb hts k2 tyX12 tyX12_ok nmX12 hown hK.1 hP hD hS 0 rfl rfl 8 (by decide) k6 (fun _ h9 => h9) rfl (by decide +kernel) rfl rfl (Nat.le_of_ble_eq_true rfl) dX12_go_334 (fun H locs hP hD hS => ?_)
                    have hP : va_P D vwCl [(h0, .inr (11, [.int h0_thrown, .ref h0_tape, .int h0_taped, .int h0_size, .int h0_limit, .int y215_2, .int y215_3, .int h0_kind, .int x_3250, .int h0_sign, .int h0_fault, .int h0_place, .long y215_5, .int h0_told, .ref h0_now, .ref h0_read, .ref h0_kept, .ref h0_snaps, .ref h0_aside, .ref h0_name, .ref h0_readName, .ref h0_keptName, .ref h0_isKept, .ref h0_onces, .int h0_snapMany, .int h0_lowest, .int h0_highest, .int h0_agreed, .int h0_jurors, .int h0_panelled, .ref h0_inSets, .int h0_surely, .int h0_asked, .ref h0_frees, .int h0_struck, .int h0_beating, .ref h0_text, .int h0_texts, .int h0_seed, .ref h0_line, .ref h0_written, .int h0_lineMany, .int h0_hasWritten, .ref h0_node, .int h0_nodes, .int h0_onesMany, .int h0_within, .int h0_top])), (aI ca h0_tape 940 F_h0_tape)] H := hP
                    have hD : va_D A [(h0, .inr (11, [.int h0_thrown, .ref h0_tape, .int h0_taped, .int h0_size, .int h0_limit, .int y215_2, .int y215_3, .int h0_kind, .int x_3250, .int h0_sign, .int h0_fault, .int h0_place, .long y215_5, .int h0_told, .ref h0_now, .ref h0_read, .ref h0_kept, .ref h0_snaps, .ref h0_aside, .ref h0_name, .ref h0_readName, .ref h0_keptName, .ref h0_isKept, .ref h0_onces, .int h0_snapMany, .int h0_lowest, .int h0_highest, .int h0_agreed, .int h0_jurors, .int h0_panelled, .ref h0_inSets, .int h0_surely, .int h0_asked, .ref h0_frees, .int h0_struck, .int h0_beating, .ref h0_text, .int h0_texts, .int h0_seed, .ref h0_line, .ref h0_written, .int h0_lineMany, .int h0_hasWritten, .ref h0_node, .int h0_nodes, .int h0_onesMany, .int h0_within, .int h0_top])), (aI ca h0_tape 940 F_h0_tape)] := hD
                    refine lv_aload_n hx hb dX12_go_337 rfl (lv_at hl 2 rfl) ?_
                    refine lv_dup hx hb dX12_go_338 rfl ?_
                    refine va_get (D := D) (ci := 11) (v := .int y215_2) (C := RX12) (T := TX12) (N := 48) hx hb hts k2 hown hK.1 hP 0 rfl rfl 5 (by decide) k3 (fun _ h9 => h9) rfl dX12_go_339 ?_
                    refine lv_iconst (v := 1) hx hb dX12_go_342 (by decide) ?_
                    refine lv_iadd hx hb dX12_go_343 ?_
                    refine lv_topi (fun x_3251 ex_3251 => ?_)
                    have hY := hY.trans (lt1_e ex_3251)
                    have h_3252 : rg 2 940 x_3251 := by rw [ex_3251]; exact rg_add h_3150 (⟨by decide, by decide⟩ : rg 1 1 (1 : Int32)) (by decide) (by decide) (by decide) (by decide)
                    have l_3253 : lq x_3251.toInt (y215_2.toInt + 1) := lqm (by rw [ex_3251]; have q := tadd h_3150 (⟨by decide, by decide⟩ : rg 1 1 (1 : Int32)) (by decide) (by decide); have r1 := lqe (lqm (by decide) : lq (1 : Int32).toInt 1); omega)
                    refine va_put (D := D) (ci := 11) (v := .int x_3251) (ty := .int) (C := RX12) (T := TX12) (N := 48) hx hb hts k2 tyX12 tyX12_ok nmX12 hown hK.1 hP hD hS 0 rfl rfl 5 (by decide) k3 (fun _ h9 => h9) rfl (by decide +kernel) rfl rfl (Nat.le_of_ble_eq_true rfl) dX12_go_344 (fun H locs hP hD hS => ?_)
                    have hP : va_P D vwCl [(h0, .inr (11, [.int h0_thrown, .ref h0_tape, .int h0_taped, .int h0_size, .int h0_limit, .int x_3251, .int y215_3, .int h0_kind, .int x_3250, .int h0_sign, .int h0_fault, .int h0_place, .long y215_5, .int h0_told, .ref h0_now, .ref h0_read, .ref h0_kept, .ref h0_snaps, .ref h0_aside, .ref h0_name, .ref h0_readName, .ref h0_keptName, .ref h0_isKept, .ref h0_onces, .int h0_snapMany, .int h0_lowest, .int h0_highest, .int h0_agreed, .int h0_jurors, .int h0_panelled, .ref h0_inSets, .int h0_surely, .int h0_asked, .ref h0_frees, .int h0_struck, .int h0_beating, .ref h0_text, .int h0_texts, .int h0_seed, .ref h0_line, .ref h0_written, .int h0_lineMany, .int h0_hasWritten, .ref h0_node, .int h0_nodes, .int h0_onesMany, .int h0_within, .int h0_top])), (aI ca h0_tape 940 F_h0_tape)] H := hP
                    have hD : va_D A [(h0, .inr (11, [.int h0_thrown, .ref h0_tape, .int h0_taped, .int h0_size, .int h0_limit, .int x_3251, .int y215_3, .int h0_kind, .int x_3250, .int h0_sign, .int h0_fault, .int h0_place, .long y215_5, .int h0_told, .ref h0_now, .ref h0_read, .ref h0_kept, .ref h0_snaps, .ref h0_aside, .ref h0_name, .ref h0_readName, .ref h0_keptName, .ref h0_isKept, .ref h0_onces, .int h0_snapMany, .int h0_lowest, .int h0_highest, .int h0_agreed, .int h0_jurors, .int h0_panelled, .ref h0_inSets, .int h0_surely, .int h0_asked, .ref h0_frees, .int h0_struck, .int h0_beating, .ref h0_text, .int h0_texts, .int h0_seed, .ref h0_line, .ref h0_written, .int h0_lineMany, .int h0_hasWritten, .ref h0_node, .int h0_nodes, .int h0_onesMany, .int h0_within, .int h0_top])), (aI ca h0_tape 940 F_h0_tape)] := hD
                    refine lv_goto (tgt := 215) hx hb dX12_go_347 (by decide) ?_
                    exact ih215 y215_0 0 x_3251 y215_3 x_3250 y215_5 trivial hy215_0 (⟨by decide, by decide⟩ : rg 0 1 (0 : Int32)) (rgw (lo := 1) (hi := 940) h_3252 (by decide) (by decide)) (rlm (by have q0 := lqe l_3253; have q1 := rle py215_2_h0_to; omega)) hy215_3 (rlm (by have q0 := rle py215_3_h0_to; omega)) t215_h0_limit (rgw (lo := 1) (hi := 940) h_3151 (by decide) (by decide)) (by have q0 := lqe l_3253; omega) hY H locs ls (oPsub hP [0, 1] rfl) (hD.sub [0, 1] (by decide) rfl) hS (lv_sub hl [2, 3, 0] rfl)
                · skip
                  have hY := hY.trans (if_neg c_3234)
                  have o_3254 : rl 1 x_3231 7 := rl_nle c_3234
                  have h_3255 : rg (-939) 6 x_3231 := rl_x o_3254 h_3232 (⟨by decide, by decide⟩ : rg 7 7 (7 : Int32)) (by decide) (by decide)
                  refine lv_aload_n hx hb dX12_go_287 rfl (lv_at hl 2 rfl) ?_
                  refine lv_ldc2 (v := 27) hx hb hown k7 dX12_go_288 ?_
                  refine lv_aload_n hx hb dX12_go_291 rfl (lv_at hl 2 rfl) ?_
                  refine va_get (D := D) (ci := 11) (v := .long y215_5) (C := RX12) (T := TX12) (N := 48) hx hb hts k2 hown hK.1 hP 0 rfl rfl 12 (by decide) k8 (fun _ h9 => h9) rfl dX12_go_292 ?_
                  refine lv_lmul hx hb dX12_go_295 ?_
                  refine lv_topl (fun x_3256 ex_3256 => ?_)
                  have hY := hY.trans (lt1_e ex_3256)
                  refine lv_iload hx hb dX12_go_296 (lv_at hl 1 rfl) ?_
                  refine lv_i2l hx hb dX12_go_298 rfl ?_
                  refine lv_topl (fun x_3257 ex_3257 => ?_)
                  have hY := hY.trans (lt1_e ex_3257)
                  refine lv_ladd hx hb dX12_go_299 ?_
                  refine lv_topl (fun x_3258 ex_3258 => ?_)
                  have hY := hY.trans (lt1_e ex_3258)
                  refine lv_ldc2 (v := 96) hx hb hown k9 dX12_go_300 ?_
                  refine lv_lsub hx hb dX12_go_303 ?_
                  refine lv_topl (fun x_3259 ex_3259 => ?_)
                  have hY := hY.trans (lt1_e ex_3259)
                  refine va_put (D := D) (ci := 11) (v := .long x_3259) (ty := .long) (C := RX12) (T := TX12) (N := 48) hx hb hts k2 tyX12 tyX12_ok nmX12 hown hK.1 hP hD hS 0 rfl rfl 12 (by decide) k8 (fun _ h9 => h9) rfl (by decide +kernel) rfl rfl (Nat.le_of_ble_eq_true rfl) dX12_go_304 (fun H locs hP hD hS => ?_)
                  have hP : va_P D vwCl [(h0, .inr (11, [.int h0_thrown, .ref h0_tape, .int h0_taped, .int h0_size, .int h0_limit, .int y215_2, .int y215_3, .int h0_kind, .int y215_4, .int h0_sign, .int h0_fault, .int h0_place, .long x_3259, .int h0_told, .ref h0_now, .ref h0_read, .ref h0_kept, .ref h0_snaps, .ref h0_aside, .ref h0_name, .ref h0_readName, .ref h0_keptName, .ref h0_isKept, .ref h0_onces, .int h0_snapMany, .int h0_lowest, .int h0_highest, .int h0_agreed, .int h0_jurors, .int h0_panelled, .ref h0_inSets, .int h0_surely, .int h0_asked, .ref h0_frees, .int h0_struck, .int h0_beating, .ref h0_text, .int h0_texts, .int h0_seed, .ref h0_line, .ref h0_written, .int h0_lineMany, .int h0_hasWritten, .ref h0_node, .int h0_nodes, .int h0_onesMany, .int h0_within, .int h0_top])), (aI ca h0_tape 940 F_h0_tape)] H := hP
                  have hD : va_D A [(h0, .inr (11, [.int h0_thrown, .ref h0_tape, .int h0_taped, .int h0_size, .int h0_limit, .int y215_2, .int y215_3, .int h0_kind, .int y215_4, .int h0_sign, .int h0_fault, .int h0_place, .long x_3259, .int h0_told, .ref h0_now, .ref h0_read, .ref h0_kept, .ref h0_snaps, .ref h0_aside, .ref h0_name, .ref h0_readName, .ref h0_keptName, .ref h0_isKept, .ref h0_onces, .int h0_snapMany, .int h0_lowest, .int h0_highest, .int h0_agreed, .int h0_jurors, .int h0_panelled, .ref h0_inSets, .int h0_surely, .int h0_asked, .ref h0_frees, .int h0_struck, .int h0_beating, .ref h0_text, .int h0_texts, .int h0_seed, .ref h0_line, .ref h0_written, .int h0_lineMany, .int h0_hasWritten, .ref h0_node, .int h0_nodes, .int h0_onesMany, .int h0_within, .int h0_top])), (aI ca h0_tape 940 F_h0_tape)] := hD
                  refine lv_aload_n hx hb dX12_go_307 rfl (lv_at hl 2 rfl) ?_
                  refine va_get (D := D) (ci := 11) (v := .int y215_2) (C := RX12) (T := TX12) (N := 48) hx hb hts k2 hown hK.1 hP 0 rfl rfl 5 (by decide) k3 (fun _ h9 => h9) rfl dX12_go_308 ?_
                  refine lv_aload_n hx hb dX12_go_311 rfl (lv_at hl 2 rfl) ?_
                  refine va_get (D := D) (ci := 11) (v := .int y215_3) (C := RX12) (T := TX12) (N := 48) hx hb hts k2 hown hK.1 hP 0 rfl rfl 6 (by decide) k4 (fun _ h9 => h9) rfl dX12_go_312 ?_
                  refine lv_isub hx hb dX12_go_315 ?_
                  refine lv_topi (fun x_3260 ex_3260 => ?_)
                  have hY := hY.trans (lt1_e ex_3260)
                  have h_3261 : rg (-939) 939 x_3260 := by rw [ex_3260]; exact rg_sub h_3150 hy215_3 (by decide) (by decide) (by decide) (by decide)
                  have l_3262 : lq x_3260.toInt (y215_2.toInt + (-1) * y215_3.toInt) := lqm (by rw [ex_3260]; have q := tsub h_3150 hy215_3 (by decide) (by decide); omega)
                  refine lv_iconst (v := 3) hx hb dX12_go_316 (by decide) ?_
                  refine lv_icmp_ge (tgt := 337) hx hb dX12_go_317 (by decide) (fun c_3263 => ?_) (fun c_3263 => ?_)
                  · skip
                    have hY := hY.trans (if_pos c_3263)
                    have o_3264 : rl 0 3 x_3260 := rl_le c_3263
                    have h_3265 : rg 3 939 x_3260 := rl_y o_3264 (⟨by decide, by decide⟩ : rg 3 3 (3 : Int32)) h_3261 (by decide) (by decide)
                    refine lv_aload_n hx hb dX12_go_337 rfl (lv_at hl 2 rfl) ?_
                    refine lv_dup hx hb dX12_go_338 rfl ?_
                    refine va_get (D := D) (ci := 11) (v := .int y215_2) (C := RX12) (T := TX12) (N := 48) hx hb hts k2 hown hK.1 hP 0 rfl rfl 5 (by decide) k3 (fun _ h9 => h9) rfl dX12_go_339 ?_
                    refine lv_iconst (v := 1) hx hb dX12_go_342 (by decide) ?_
                    refine lv_iadd hx hb dX12_go_343 ?_
                    refine lv_topi (fun x_3266 ex_3266 => ?_)
                    have hY := hY.trans (lt1_e ex_3266)
                    have h_3267 : rg 2 940 x_3266 := by rw [ex_3266]; exact rg_add h_3150 (⟨by decide, by decide⟩ : rg 1 1 (1 : Int32)) (by decide) (by decide) (by decide) (by decide)
                    have l_3268 : lq x_3266.toInt (y215_2.toInt + 1) := lqm (by rw [ex_3266]; have q := tadd h_3150 (⟨by decide, by decide⟩ : rg 1 1 (1 : Int32)) (by decide) (by decide); have r1 := lqe (lqm (by decide) : lq (1 : Int32).toInt 1); omega)
                    refine va_put (D := D) (ci := 11) (v := .int x_3266) (ty := .int) (C := RX12) (T := TX12) (N := 48) hx hb hts k2 tyX12 tyX12_ok nmX12 hown hK.1 hP hD hS 0 rfl rfl 5 (by decide) k3 (fun _ h9 => h9) rfl (by decide +kernel) rfl rfl (Nat.le_of_ble_eq_true rfl) dX12_go_344 (fun H locs hP hD hS => ?_)
                    have hP : va_P D vwCl [(h0, .inr (11, [.int h0_thrown, .ref h0_tape, .int h0_taped, .int h0_size, .int h0_limit, .int x_3266, .int y215_3, .int h0_kind, .int y215_4, .int h0_sign, .int h0_fault, .int h0_place, .long x_3259, .int h0_told, .ref h0_now, .ref h0_read, .ref h0_kept, .ref h0_snaps, .ref h0_aside, .ref h0_name, .ref h0_readName, .ref h0_keptName, .ref h0_isKept, .ref h0_onces, .int h0_snapMany, .int h0_lowest, .int h0_highest, .int h0_agreed, .int h0_jurors, .int h0_panelled, .ref h0_inSets, .int h0_surely, .int h0_asked, .ref h0_frees, .int h0_struck, .int h0_beating, .ref h0_text, .int h0_texts, .int h0_seed, .ref h0_line, .ref h0_written, .int h0_lineMany, .int h0_hasWritten, .ref h0_node, .int h0_nodes, .int h0_onesMany, .int h0_within, .int h0_top])), (aI ca h0_tape 940 F_h0_tape)] H := hP
                    have hD : va_D A [(h0, .inr (11, [.int h0_thrown, .ref h0_tape, .int h0_taped, .int h0_size, .int h0_limit, .int x_3266, .int y215_3, .int h0_kind, .int y215_4, .int h0_sign, .int h0_fault, .int h0_place, .long x_3259, .int h0_told, .ref h0_now, .ref h0_read, .ref h0_kept, .ref h0_snaps, .ref h0_aside, .ref h0_name, .ref h0_readName, .ref h0_keptName, .ref h0_isKept, .ref h0_onces, .int h0_snapMany, .int h0_lowest, .int h0_highest, .int h0_agreed, .int h0_jurors, .int h0_panelled, .ref h0_inSets, .int h0_surely, .int h0_asked, .ref h0_frees, .int h0_struck, .int h0_beating, .ref h0_text, .int h0_texts, .int h0_seed, .ref h0_line, .ref h0_written, .int h0_lineMany, .int h0_hasWritten, .ref h0_node, .int h0_nodes, .int h0_onesMany, .int h0_within, .int h0_top])), (aI ca h0_tape 940 F_h0_tape)] := hD
                    refine lv_goto (tgt := 215) hx hb dX12_go_347 (by decide) ?_
                    exact ih215 y215_0 0 x_3266 y215_3 y215_4 x_3259 trivial hy215_0 (⟨by decide, by decide⟩ : rg 0 1 (0 : Int32)) (rgw (lo := 1) (hi := 940) h_3267 (by decide) (by decide)) (rlm (by have q0 := lqe l_3268; have q1 := rle py215_2_h0_to; omega)) hy215_3 (rlm (by have q0 := rle py215_3_h0_to; omega)) t215_h0_limit (rgw (lo := 1) (hi := 940) h_3151 (by decide) (by decide)) (by have q0 := lqe l_3268; omega) hY H locs ls (oPsub hP [0, 1] rfl) (hD.sub [0, 1] (by decide) rfl) hS (lv_sub hl [2, 3, 0] rfl)
                  · skip
                    have hY := hY.trans (if_neg c_3263)
                    have o_3269 : rl 1 x_3260 3 := rl_nle c_3263
                    have h_3270 : rg (-939) 2 x_3260 := rl_x o_3269 h_3261 (⟨by decide, by decide⟩ : rg 3 3 (3 : Int32)) (by decide) (by decide)
                    refine lv_aload_n hx hb dX12_go_320 rfl (lv_at hl 2 rfl) ?_
                    refine lv_bipush (v := 10) hx hb dX12_go_321 (by decide) ?_
                    refine lv_aload_n hx hb dX12_go_323 rfl (lv_at hl 2 rfl) ?_
                    refine va_get (D := D) (ci := 11) (v := .int y215_4) (C := RX12) (T := TX12) (N := 48) hx hb hts k2 hown hK.1 hP 0 rfl rfl 8 (by decide) k6 (fun _ h9 => h9) rfl dX12_go_324 ?_
                    refine lv_imul hx hb dX12_go_327 ?_
                    refine lv_topi (fun x_3271 ex_3271 => ?_)
                    have hY := hY.trans (lt1_e ex_3271)
                    refine lv_iload hx hb dX12_go_328 (lv_at hl 1 rfl) ?_
                    refine lv_iadd hx hb dX12_go_330 ?_
                    refine lv_topi (fun x_3272 ex_3272 => ?_)
                    have hY := hY.trans (lt1_e ex_3272)
                    refine lv_bipush (v := 48) hx hb dX12_go_331 (by decide) ?_
                    refine lv_isub hx hb dX12_go_333 ?_
                    refine lv_topi (fun x_3273 ex_3273 => ?_)
                    have hY := hY.trans (lt1_e ex_3273)
                    refine va_put (D := D) (ci := 11) (v := .int x_3273) (ty := .int) (C := RX12) (T := TX12) (N := 48) hx hb hts k2 tyX12 tyX12_ok nmX12 hown hK.1 hP hD hS 0 rfl rfl 8 (by decide) k6 (fun _ h9 => h9) rfl (by decide +kernel) rfl rfl (Nat.le_of_ble_eq_true rfl) dX12_go_334 (fun H locs hP hD hS => ?_)
                    have hP : va_P D vwCl [(h0, .inr (11, [.int h0_thrown, .ref h0_tape, .int h0_taped, .int h0_size, .int h0_limit, .int y215_2, .int y215_3, .int h0_kind, .int x_3273, .int h0_sign, .int h0_fault, .int h0_place, .long x_3259, .int h0_told, .ref h0_now, .ref h0_read, .ref h0_kept, .ref h0_snaps, .ref h0_aside, .ref h0_name, .ref h0_readName, .ref h0_keptName, .ref h0_isKept, .ref h0_onces, .int h0_snapMany, .int h0_lowest, .int h0_highest, .int h0_agreed, .int h0_jurors, .int h0_panelled, .ref h0_inSets, .int h0_surely, .int h0_asked, .ref h0_frees, .int h0_struck, .int h0_beating, .ref h0_text, .int h0_texts, .int h0_seed, .ref h0_line, .ref h0_written, .int h0_lineMany, .int h0_hasWritten, .ref h0_node, .int h0_nodes, .int h0_onesMany, .int h0_within, .int h0_top])), (aI ca h0_tape 940 F_h0_tape)] H := hP
                    have hD : va_D A [(h0, .inr (11, [.int h0_thrown, .ref h0_tape, .int h0_taped, .int h0_size, .int h0_limit, .int y215_2, .int y215_3, .int h0_kind, .int x_3273, .int h0_sign, .int h0_fault, .int h0_place, .long x_3259, .int h0_told, .ref h0_now, .ref h0_read, .ref h0_kept, .ref h0_snaps, .ref h0_aside, .ref h0_name, .ref h0_readName, .ref h0_keptName, .ref h0_isKept, .ref h0_onces, .int h0_snapMany, .int h0_lowest, .int h0_highest, .int h0_agreed, .int h0_jurors, .int h0_panelled, .ref h0_inSets, .int h0_surely, .int h0_asked, .ref h0_frees, .int h0_struck, .int h0_beating, .ref h0_text, .int h0_texts, .int h0_seed, .ref h0_line, .ref h0_written, .int h0_lineMany, .int h0_hasWritten, .ref h0_node, .int h0_nodes, .int h0_onesMany, .int h0_within, .int h0_top])), (aI ca h0_tape 940 F_h0_tape)] := hD
                    refine lv_aload_n hx hb dX12_go_337 rfl (lv_at hl 2 rfl) ?_
                    refine lv_dup hx hb dX12_go_338 rfl ?_
                    refine va_get (D := D) (ci := 11) (v := .int y215_2) (C := RX12) (T := TX12) (N := 48) hx hb hts k2 hown hK.1 hP 0 rfl rfl 5 (by decide) k3 (fun _ h9 => h9) rfl dX12_go_339 ?_
                    refine lv_iconst (v := 1) hx hb dX12_go_342 (by decide) ?_
                    refine lv_iadd hx hb dX12_go_343 ?_
                    refine lv_topi (fun x_3274 ex_3274 => ?_)
                    have hY := hY.trans (lt1_e ex_3274)
                    have h_3275 : rg 2 940 x_3274 := by rw [ex_3274]; exact rg_add h_3150 (⟨by decide, by decide⟩ : rg 1 1 (1 : Int32)) (by decide) (by decide) (by decide) (by decide)
                    have l_3276 : lq x_3274.toInt (y215_2.toInt + 1) := lqm (by rw [ex_3274]; have q := tadd h_3150 (⟨by decide, by decide⟩ : rg 1 1 (1 : Int32)) (by decide) (by decide); have r1 := lqe (lqm (by decide) : lq (1 : Int32).toInt 1); omega)
                    refine va_put (D := D) (ci := 11) (v := .int x_3274) (ty := .int) (C := RX12) (T := TX12) (N := 48) hx hb hts k2 tyX12 tyX12_ok nmX12 hown hK.1 hP hD hS 0 rfl rfl 5 (by decide) k3 (fun _ h9 => h9) rfl (by decide +kernel) rfl rfl (Nat.le_of_ble_eq_true rfl) dX12_go_344 (fun H locs hP hD hS => ?_)
                    have hP : va_P D vwCl [(h0, .inr (11, [.int h0_thrown, .ref h0_tape, .int h0_taped, .int h0_size, .int h0_limit, .int x_3274, .int y215_3, .int h0_kind, .int x_3273, .int h0_sign, .int h0_fault, .int h0_place, .long x_3259, .int h0_told, .ref h0_now, .ref h0_read, .ref h0_kept, .ref h0_snaps, .ref h0_aside, .ref h0_name, .ref h0_readName, .ref h0_keptName, .ref h0_isKept, .ref h0_onces, .int h0_snapMany, .int h0_lowest, .int h0_highest, .int h0_agreed, .int h0_jurors, .int h0_panelled, .ref h0_inSets, .int h0_surely, .int h0_asked, .ref h0_frees, .int h0_struck, .int h0_beating, .ref h0_text, .int h0_texts, .int h0_seed, .ref h0_line, .ref h0_written, .int h0_lineMany, .int h0_hasWritten, .ref h0_node, .int h0_nodes, .int h0_onesMany, .int h0_within, .int h0_top])), (aI ca h0_tape 940 F_h0_tape)] H := hP
                    have hD : va_D A [(h0, .inr (11, [.int h0_thrown, .ref h0_tape, .int h0_taped, .int h0_size, .int h0_limit, .int x_3274, .int y215_3, .int h0_kind, .int x_3273, .int h0_sign, .int h0_fault, .int h0_place, .long x_3259, .int h0_told, .ref h0_now, .ref h0_read, .ref h0_kept, .ref h0_snaps, .ref h0_aside, .ref h0_name, .ref h0_readName, .ref h0_keptName, .ref h0_isKept, .ref h0_onces, .int h0_snapMany, .int h0_lowest, .int h0_highest, .int h0_agreed, .int h0_jurors, .int h0_panelled, .ref h0_inSets, .int h0_surely, .int h0_asked, .ref h0_frees, .int h0_struck, .int h0_beating, .ref h0_text, .int h0_texts, .int h0_seed, .ref h0_line, .ref h0_written, .int h0_lineMany, .int h0_hasWritten, .ref h0_node, .int h0_nodes, .int h0_onesMany, .int h0_within, .int h0_top])), (aI ca h0_tape 940 F_h0_tape)] := hD
                    refine lv_goto (tgt := 215) hx hb dX12_go_347 (by decide) ?_
                    exact ih215 y215_0 0 x_3274 y215_3 x_3273 x_3259 trivial hy215_0 (⟨by decide, by decide⟩ : rg 0 1 (0 : Int32)) (rgw (lo := 1) (hi := 940) h_3275 (by decide) (by decide)) (rlm (by have q0 := lqe l_3276; have q1 := rle py215_2_h0_to; omega)) hy215_3 (rlm (by have q0 := rle py215_3_h0_to; omega)) t215_h0_limit (rgw (lo := 1) (hi := 940) h_3151 (by decide) (by decide)) (by have q0 := lqe l_3276; omega) hY H locs ls (oPsub hP [0, 1] rfl) (hD.sub [0, 1] (by decide) rfl) hS (lv_sub hl [2, 3, 0] rfl)
              · skip
                have hY := hY.trans (if_neg c_3227)
                have h_3277 : rg 1 1 y215_1 := cl_nlo c_3227 hy215_1 (show (0 : Int32).toInt = 0 by decide) (by decide) (by decide)
                refine lv_iload hx hb dX12_go_258 (lv_at hl 0 rfl) ?_
                refine oC_i (Wc := []) (Wr := [(h0, .inr (11, [.int h0_thrown, .ref h0_tape, .int h0_taped, .int h0_size, .int h0_limit, .int y215_2, .int y215_3, .int h0_kind, .int y215_4, .int h0_sign, .int h0_fault, .int h0_place, .long y215_5, .int h0_told, .ref h0_now, .ref h0_read, .ref h0_kept, .ref h0_snaps, .ref h0_aside, .ref h0_name, .ref h0_readName, .ref h0_keptName, .ref h0_isKept, .ref h0_onces, .int h0_snapMany, .int h0_lowest, .int h0_highest, .int h0_agreed, .int h0_jurors, .int h0_panelled, .ref h0_inSets, .int h0_surely, .int h0_asked, .ref h0_frees, .int h0_struck, .int h0_beating, .ref h0_text, .int h0_texts, .int h0_seed, .ref h0_line, .ref h0_written, .int h0_lineMany, .int h0_hasWritten, .ref h0_node, .int h0_nodes, .int h0_onesMany, .int h0_within, .int h0_top])), (aI ca h0_tape 940 F_h0_tape)]) (va_runS (As := [.int r_3078]) (rest := []) ⟨hx, hb, hml, hown, hts⟩ (e_X12_isLetter l D ca H.size r_3078) (va_cwS 1 hts gX12_go_X12_isLetter rfl rfl rfl (by decide +kernel) ⟨Nat.le_of_ble_eq_true rfl, Nat.le_of_ble_eq_true rfl⟩) (oPS hK hP hD [] rfl (by decide)) rfl rfl hl.1 rfl (lv_room (Nat.le_of_ble_eq_true rfl)) dX12_go_260 ⟨Nat.le_of_ble_eq_true rfl, Nat.le_of_ble_eq_true rfl⟩) hP hD hS hA [] [0, 1] rfl rfl (by decide) (by decide) (fun r_3278 u H locs w_3279 hP hD hS => ?_)
                obtain ⟨⟩ := u
                have hP : va_P D vwCl [(h0, .inr (11, [.int h0_thrown, .ref h0_tape, .int h0_taped, .int h0_size, .int h0_limit, .int y215_2, .int y215_3, .int h0_kind, .int y215_4, .int h0_sign, .int h0_fault, .int h0_place, .long y215_5, .int h0_told, .ref h0_now, .ref h0_read, .ref h0_kept, .ref h0_snaps, .ref h0_aside, .ref h0_name, .ref h0_readName, .ref h0_keptName, .ref h0_isKept, .ref h0_onces, .int h0_snapMany, .int h0_lowest, .int h0_highest, .int h0_agreed, .int h0_jurors, .int h0_panelled, .ref h0_inSets, .int h0_surely, .int h0_asked, .ref h0_frees, .int h0_struck, .int h0_beating, .ref h0_text, .int h0_texts, .int h0_seed, .ref h0_line, .ref h0_written, .int h0_lineMany, .int h0_hasWritten, .ref h0_node, .int h0_nodes, .int h0_onesMany, .int h0_within, .int h0_top])), (aI ca h0_tape 940 F_h0_tape)] H := hP
                have hD : va_D A [(h0, .inr (11, [.int h0_thrown, .ref h0_tape, .int h0_taped, .int h0_size, .int h0_limit, .int y215_2, .int y215_3, .int h0_kind, .int y215_4, .int h0_sign, .int h0_fault, .int h0_place, .long y215_5, .int h0_told, .ref h0_now, .ref h0_read, .ref h0_kept, .ref h0_snaps, .ref h0_aside, .ref h0_name, .ref h0_readName, .ref h0_keptName, .ref h0_isKept, .ref h0_onces, .int h0_snapMany, .int h0_lowest, .int h0_highest, .int h0_agreed, .int h0_jurors, .int h0_panelled, .ref h0_inSets, .int h0_surely, .int h0_asked, .ref h0_frees, .int h0_struck, .int h0_beating, .ref h0_text, .int h0_texts, .int h0_seed, .ref h0_line, .ref h0_written, .int h0_lineMany, .int h0_hasWritten, .ref h0_node, .int h0_nodes, .int h0_onesMany, .int h0_within, .int h0_top])), (aI ca h0_tape 940 F_h0_tape)] := hD
                try dsimp only at w_3279
                rcases w_3279 with ⟨h_3280, h_3281, h_3282, h_3283⟩ | ⟨h_3284, h_3285, h_3286, h_3287, h_3288⟩ | ⟨h_3289, h_3290, h_3291, h_3292, h_3293⟩
                · skip
                  subst h_3280
                  have hY := hY.trans (lt1_e h_3283)
                  have hY := hY.trans (if_pos h_3282)
                  refine lv_iload_n hx hb dX12_go_263 rfl (lv_at hl 2 rfl) ?_
                  refine lv_icmp_ne (tgt := 271) hx hb dX12_go_264 (by decide) (fun c_3294 => ?_) (fun c_3294 => ?_)
                  · skip
                    have hY := hY.trans (if_neg c_3294)
                    have h_3295 : rg 1 1 y215_0 := cl_nlo (fun z => c_3294 z.symm) hy215_0 (show (0 : Int32).toInt = 0 by decide) (by decide) (by decide)
                    refine lv_iconst (v := 0) hx hb dX12_go_271 (by decide) ?_
                    refine lv_istore_n (lv' := [(3, .int 0), (4, .int r_3078), (0, .ref h0), (2, .int y215_0)]) hx hb dX12_go_272 rfl hl (by decide) rfl (fun ls hl => ?_)
                    refine lv_aload_n hx hb dX12_go_273 rfl (lv_at hl 2 rfl) ?_
                    refine va_get (D := D) (ci := 11) (v := .int y215_2) (C := RX12) (T := TX12) (N := 48) hx hb hts k2 hown hK.1 hP 0 rfl rfl 5 (by decide) k3 (fun _ h9 => h9) rfl dX12_go_274 ?_
                    refine lv_aload_n hx hb dX12_go_277 rfl (lv_at hl 2 rfl) ?_
                    refine va_get (D := D) (ci := 11) (v := .int y215_3) (C := RX12) (T := TX12) (N := 48) hx hb hts k2 hown hK.1 hP 0 rfl rfl 6 (by decide) k4 (fun _ h9 => h9) rfl dX12_go_278 ?_
                    refine lv_isub hx hb dX12_go_281 ?_
                    refine lv_topi (fun x_3296 ex_3296 => ?_)
                    have hY := hY.trans (lt1_e ex_3296)
                    have h_3297 : rg (-939) 939 x_3296 := by rw [ex_3296]; exact rg_sub h_3150 hy215_3 (by decide) (by decide) (by decide) (by decide)
                    have l_3298 : lq x_3296.toInt (y215_2.toInt + (-1) * y215_3.toInt) := lqm (by rw [ex_3296]; have q := tsub h_3150 hy215_3 (by decide) (by decide); omega)
                    refine lv_bipush (v := 7) hx hb dX12_go_282 (by decide) ?_
                    refine lv_icmp_ge (tgt := 307) hx hb dX12_go_284 (by decide) (fun c_3299 => ?_) (fun c_3299 => ?_)
                    · skip
                      have hY := hY.trans (if_pos c_3299)
                      have o_3300 : rl 0 7 x_3296 := rl_le c_3299
                      have h_3301 : rg 7 939 x_3296 := rl_y o_3300 (⟨by decide, by decide⟩ : rg 7 7 (7 : Int32)) h_3297 (by decide) (by decide)
                      refine lv_aload_n hx hb dX12_go_307 rfl (lv_at hl 2 rfl) ?_
                      refine va_get (D := D) (ci := 11) (v := .int y215_2) (C := RX12) (T := TX12) (N := 48) hx hb hts k2 hown hK.1 hP 0 rfl rfl 5 (by decide) k3 (fun _ h9 => h9) rfl dX12_go_308 ?_
                      refine lv_aload_n hx hb dX12_go_311 rfl (lv_at hl 2 rfl) ?_
                      refine va_get (D := D) (ci := 11) (v := .int y215_3) (C := RX12) (T := TX12) (N := 48) hx hb hts k2 hown hK.1 hP 0 rfl rfl 6 (by decide) k4 (fun _ h9 => h9) rfl dX12_go_312 ?_
                      refine lv_isub hx hb dX12_go_315 ?_
                      refine lv_topi (fun x_3302 ex_3302 => ?_)
                      have hY := hY.trans (lt1_e ex_3302)
                      have h_3303 : rg (-939) 939 x_3302 := by rw [ex_3302]; exact rg_sub h_3150 hy215_3 (by decide) (by decide) (by decide) (by decide)
                      have l_3304 : lq x_3302.toInt (y215_2.toInt + (-1) * y215_3.toInt) := lqm (by rw [ex_3302]; have q := tsub h_3150 hy215_3 (by decide) (by decide); omega)
                      refine lv_iconst (v := 3) hx hb dX12_go_316 (by decide) ?_
                      refine lv_icmp_ge (tgt := 337) hx hb dX12_go_317 (by decide) (fun c_3305 => ?_) (fun c_3305 => ?_)
                      · skip
                        have hY := hY.trans (if_pos c_3305)
                        have o_3306 : rl 0 3 x_3302 := rl_le c_3305
                        have h_3307 : rg 3 939 x_3302 := rl_y o_3306 (⟨by decide, by decide⟩ : rg 3 3 (3 : Int32)) h_3303 (by decide) (by decide)
                        refine lv_aload_n hx hb dX12_go_337 rfl (lv_at hl 2 rfl) ?_
                        refine lv_dup hx hb dX12_go_338 rfl ?_
                        refine va_get (D := D) (ci := 11) (v := .int y215_2) (C := RX12) (T := TX12) (N := 48) hx hb hts k2 hown hK.1 hP 0 rfl rfl 5 (by decide) k3 (fun _ h9 => h9) rfl dX12_go_339 ?_
                        refine lv_iconst (v := 1) hx hb dX12_go_342 (by decide) ?_
                        refine lv_iadd hx hb dX12_go_343 ?_
                        refine lv_topi (fun x_3308 ex_3308 => ?_)
                        have hY := hY.trans (lt1_e ex_3308)
                        have h_3309 : rg 2 940 x_3308 := by rw [ex_3308]; exact rg_add h_3150 (⟨by decide, by decide⟩ : rg 1 1 (1 : Int32)) (by decide) (by decide) (by decide) (by decide)
                        have l_3310 : lq x_3308.toInt (y215_2.toInt + 1) := lqm (by rw [ex_3308]; have q := tadd h_3150 (⟨by decide, by decide⟩ : rg 1 1 (1 : Int32)) (by decide) (by decide); have r1 := lqe (lqm (by decide) : lq (1 : Int32).toInt 1); omega)
                        refine va_put (D := D) (ci := 11) (v := .int x_3308) (ty := .int) (C := RX12) (T := TX12) (N := 48) hx hb hts k2 tyX12 tyX12_ok nmX12 hown hK.1 hP hD hS 0 rfl rfl 5 (by decide) k3 (fun _ h9 => h9) rfl (by decide +kernel) rfl rfl (Nat.le_of_ble_eq_true rfl) dX12_go_344 (fun H locs hP hD hS => ?_)
                        have hP : va_P D vwCl [(h0, .inr (11, [.int h0_thrown, .ref h0_tape, .int h0_taped, .int h0_size, .int h0_limit, .int x_3308, .int y215_3, .int h0_kind, .int y215_4, .int h0_sign, .int h0_fault, .int h0_place, .long y215_5, .int h0_told, .ref h0_now, .ref h0_read, .ref h0_kept, .ref h0_snaps, .ref h0_aside, .ref h0_name, .ref h0_readName, .ref h0_keptName, .ref h0_isKept, .ref h0_onces, .int h0_snapMany, .int h0_lowest, .int h0_highest, .int h0_agreed, .int h0_jurors, .int h0_panelled, .ref h0_inSets, .int h0_surely, .int h0_asked, .ref h0_frees, .int h0_struck, .int h0_beating, .ref h0_text, .int h0_texts, .int h0_seed, .ref h0_line, .ref h0_written, .int h0_lineMany, .int h0_hasWritten, .ref h0_node, .int h0_nodes, .int h0_onesMany, .int h0_within, .int h0_top])), (aI ca h0_tape 940 F_h0_tape)] H := hP
                        have hD : va_D A [(h0, .inr (11, [.int h0_thrown, .ref h0_tape, .int h0_taped, .int h0_size, .int h0_limit, .int x_3308, .int y215_3, .int h0_kind, .int y215_4, .int h0_sign, .int h0_fault, .int h0_place, .long y215_5, .int h0_told, .ref h0_now, .ref h0_read, .ref h0_kept, .ref h0_snaps, .ref h0_aside, .ref h0_name, .ref h0_readName, .ref h0_keptName, .ref h0_isKept, .ref h0_onces, .int h0_snapMany, .int h0_lowest, .int h0_highest, .int h0_agreed, .int h0_jurors, .int h0_panelled, .ref h0_inSets, .int h0_surely, .int h0_asked, .ref h0_frees, .int h0_struck, .int h0_beating, .ref h0_text, .int h0_texts, .int h0_seed, .ref h0_line, .ref h0_written, .int h0_lineMany, .int h0_hasWritten, .ref h0_node, .int h0_nodes, .int h0_onesMany, .int h0_within, .int h0_top])), (aI ca h0_tape 940 F_h0_tape)] := hD
                        refine lv_goto (tgt := 215) hx hb dX12_go_347 (by decide) ?_
                        exact ih215 y215_0 0 x_3308 y215_3 y215_4 y215_5 trivial (rgw (lo := 0) (hi := 1) h_3295 (by decide) (by decide)) (⟨by decide, by decide⟩ : rg 0 1 (0 : Int32)) (rgw (lo := 1) (hi := 940) h_3309 (by decide) (by decide)) (rlm (by have q0 := lqe l_3310; have q1 := rle py215_2_h0_to; omega)) hy215_3 (rlm (by have q0 := rle py215_3_h0_to; omega)) t215_h0_limit (rgw (lo := 1) (hi := 940) h_3151 (by decide) (by decide)) (by have q0 := lqe l_3310; omega) hY H locs ls (oPsub hP [0, 1] rfl) (hD.sub [0, 1] (by decide) rfl) hS (lv_sub hl [2, 3, 0] rfl)
                      · skip
                        have hY := hY.trans (if_neg c_3305)
                        have o_3311 : rl 1 x_3302 3 := rl_nle c_3305
                        have h_3312 : rg (-939) 2 x_3302 := rl_x o_3311 h_3303 (⟨by decide, by decide⟩ : rg 3 3 (3 : Int32)) (by decide) (by decide)
                        refine lv_aload_n hx hb dX12_go_320 rfl (lv_at hl 2 rfl) ?_
                        refine lv_bipush (v := 10) hx hb dX12_go_321 (by decide) ?_
                        refine lv_aload_n hx hb dX12_go_323 rfl (lv_at hl 2 rfl) ?_
                        refine va_get (D := D) (ci := 11) (v := .int y215_4) (C := RX12) (T := TX12) (N := 48) hx hb hts k2 hown hK.1 hP 0 rfl rfl 8 (by decide) k6 (fun _ h9 => h9) rfl dX12_go_324 ?_
                        refine lv_imul hx hb dX12_go_327 ?_
                        refine lv_topi (fun x_3313 ex_3313 => ?_)
                        have hY := hY.trans (lt1_e ex_3313)
                        refine lv_iload hx hb dX12_go_328 (lv_at hl 1 rfl) ?_
                        refine lv_iadd hx hb dX12_go_330 ?_
                        refine lv_topi (fun x_3314 ex_3314 => ?_)
                        have hY := hY.trans (lt1_e ex_3314)
                        refine lv_bipush (v := 48) hx hb dX12_go_331 (by decide) ?_
                        refine lv_isub hx hb dX12_go_333 ?_
                        refine lv_topi (fun x_3315 ex_3315 => ?_)
                        have hY := hY.trans (lt1_e ex_3315)
                        refine va_put (D := D) (ci := 11) (v := .int x_3315) (ty := .int) (C := RX12) (T := TX12) (N := 48) hx hb hts k2 tyX12 tyX12_ok nmX12 hown hK.1 hP hD hS 0 rfl rfl 8 (by decide) k6 (fun _ h9 => h9) rfl (by decide +kernel) rfl rfl (Nat.le_of_ble_eq_true rfl) dX12_go_334 (fun H locs hP hD hS => ?_)
                        have hP : va_P D vwCl [(h0, .inr (11, [.int h0_thrown, .ref h0_tape, .int h0_taped, .int h0_size, .int h0_limit, .int y215_2, .int y215_3, .int h0_kind, .int x_3315, .int h0_sign, .int h0_fault, .int h0_place, .long y215_5, .int h0_told, .ref h0_now, .ref h0_read, .ref h0_kept, .ref h0_snaps, .ref h0_aside, .ref h0_name, .ref h0_readName, .ref h0_keptName, .ref h0_isKept, .ref h0_onces, .int h0_snapMany, .int h0_lowest, .int h0_highest, .int h0_agreed, .int h0_jurors, .int h0_panelled, .ref h0_inSets, .int h0_surely, .int h0_asked, .ref h0_frees, .int h0_struck, .int h0_beating, .ref h0_text, .int h0_texts, .int h0_seed, .ref h0_line, .ref h0_written, .int h0_lineMany, .int h0_hasWritten, .ref h0_node, .int h0_nodes, .int h0_onesMany, .int h0_within, .int h0_top])), (aI ca h0_tape 940 F_h0_tape)] H := hP
                        have hD : va_D A [(h0, .inr (11, [.int h0_thrown, .ref h0_tape, .int h0_taped, .int h0_size, .int h0_limit, .int y215_2, .int y215_3, .int h0_kind, .int x_3315, .int h0_sign, .int h0_fault, .int h0_place, .long y215_5, .int h0_told, .ref h0_now, .ref h0_read, .ref h0_kept, .ref h0_snaps, .ref h0_aside, .ref h0_name, .ref h0_readName, .ref h0_keptName, .ref h0_isKept, .ref h0_onces, .int h0_snapMany, .int h0_lowest, .int h0_highest, .int h0_agreed, .int h0_jurors, .int h0_panelled, .ref h0_inSets, .int h0_surely, .int h0_asked, .ref h0_frees, .int h0_struck, .int h0_beating, .ref h0_text, .int h0_texts, .int h0_seed, .ref h0_line, .ref h0_written, .int h0_lineMany, .int h0_hasWritten, .ref h0_node, .int h0_nodes, .int h0_onesMany, .int h0_within, .int h0_top])), (aI ca h0_tape 940 F_h0_tape)] := hD
                        refine lv_aload_n hx hb dX12_go_337 rfl (lv_at hl 2 rfl) ?_
                        refine lv_dup hx hb dX12_go_338 rfl ?_
                        refine va_get (D := D) (ci := 11) (v := .int y215_2) (C := RX12) (T := TX12) (N := 48) hx hb hts k2 hown hK.1 hP 0 rfl rfl 5 (by decide) k3 (fun _ h9 => h9) rfl dX12_go_339 ?_
                        refine lv_iconst (v := 1) hx hb dX12_go_342 (by decide) ?_
                        refine lv_iadd hx hb dX12_go_343 ?_
                        refine lv_topi (fun x_3316 ex_3316 => ?_)
                        have hY := hY.trans (lt1_e ex_3316)
                        have h_3317 : rg 2 940 x_3316 := by rw [ex_3316]; exact rg_add h_3150 (⟨by decide, by decide⟩ : rg 1 1 (1 : Int32)) (by decide) (by decide) (by decide) (by decide)
                        have l_3318 : lq x_3316.toInt (y215_2.toInt + 1) := lqm (by rw [ex_3316]; have q := tadd h_3150 (⟨by decide, by decide⟩ : rg 1 1 (1 : Int32)) (by decide) (by decide); have r1 := lqe (lqm (by decide) : lq (1 : Int32).toInt 1); omega)
                        refine va_put (D := D) (ci := 11) (v := .int x_3316) (ty := .int) (C := RX12) (T := TX12) (N := 48) hx hb hts k2 tyX12 tyX12_ok nmX12 hown hK.1 hP hD hS 0 rfl rfl 5 (by decide) k3 (fun _ h9 => h9) rfl (by decide +kernel) rfl rfl (Nat.le_of_ble_eq_true rfl) dX12_go_344 (fun H locs hP hD hS => ?_)
                        have hP : va_P D vwCl [(h0, .inr (11, [.int h0_thrown, .ref h0_tape, .int h0_taped, .int h0_size, .int h0_limit, .int x_3316, .int y215_3, .int h0_kind, .int x_3315, .int h0_sign, .int h0_fault, .int h0_place, .long y215_5, .int h0_told, .ref h0_now, .ref h0_read, .ref h0_kept, .ref h0_snaps, .ref h0_aside, .ref h0_name, .ref h0_readName, .ref h0_keptName, .ref h0_isKept, .ref h0_onces, .int h0_snapMany, .int h0_lowest, .int h0_highest, .int h0_agreed, .int h0_jurors, .int h0_panelled, .ref h0_inSets, .int h0_surely, .int h0_asked, .ref h0_frees, .int h0_struck, .int h0_beating, .ref h0_text, .int h0_texts, .int h0_seed, .ref h0_line, .ref h0_written, .int h0_lineMany, .int h0_hasWritten, .ref h0_node, .int h0_nodes, .int h0_onesMany, .int h0_within, .int h0_top])), (aI ca h0_tape 940 F_h0_tape)] H := hP
                        have hD : va_D A [(h0, .inr (11, [.int h0_thrown, .ref h0_tape, .int h0_taped, .int h0_size, .int h0_limit, .int x_3316, .int y215_3, .int h0_kind, .int x_3315, .int h0_sign, .int h0_fault, .int h0_place, .long y215_5, .int h0_told, .ref h0_now, .ref h0_read, .ref h0_kept, .ref h0_snaps, .ref h0_aside, .ref h0_name, .ref h0_readName, .ref h0_keptName, .ref h0_isKept, .ref h0_onces, .int h0_snapMany, .int h0_lowest, .int h0_highest, .int h0_agreed, .int h0_jurors, .int h0_panelled, .ref h0_inSets, .int h0_surely, .int h0_asked, .ref h0_frees, .int h0_struck, .int h0_beating, .ref h0_text, .int h0_texts, .int h0_seed, .ref h0_line, .ref h0_written, .int h0_lineMany, .int h0_hasWritten, .ref h0_node, .int h0_nodes, .int h0_onesMany, .int h0_within, .int h0_top])), (aI ca h0_tape 940 F_h0_tape)] := hD
                        refine lv_goto (tgt := 215) hx hb dX12_go_347 (by decide) ?_
                        exact ih215 y215_0 0 x_3316 y215_3 x_3315 y215_5 trivial (rgw (lo := 0) (hi := 1) h_3295 (by decide) (by decide)) (⟨by decide, by decide⟩ : rg 0 1 (0 : Int32)) (rgw (lo := 1) (hi := 940) h_3317 (by decide) (by decide)) (rlm (by have q0 := lqe l_3318; have q1 := rle py215_2_h0_to; omega)) hy215_3 (rlm (by have q0 := rle py215_3_h0_to; omega)) t215_h0_limit (rgw (lo := 1) (hi := 940) h_3151 (by decide) (by decide)) (by have q0 := lqe l_3318; omega) hY H locs ls (oPsub hP [0, 1] rfl) (hD.sub [0, 1] (by decide) rfl) hS (lv_sub hl [2, 3, 0] rfl)
                    · skip
                      have hY := hY.trans (if_neg c_3299)
                      have o_3319 : rl 1 x_3296 7 := rl_nle c_3299
                      have h_3320 : rg (-939) 6 x_3296 := rl_x o_3319 h_3297 (⟨by decide, by decide⟩ : rg 7 7 (7 : Int32)) (by decide) (by decide)
                      refine lv_aload_n hx hb dX12_go_287 rfl (lv_at hl 2 rfl) ?_
                      refine lv_ldc2 (v := 27) hx hb hown k7 dX12_go_288 ?_
                      refine lv_aload_n hx hb dX12_go_291 rfl (lv_at hl 2 rfl) ?_
                      refine va_get (D := D) (ci := 11) (v := .long y215_5) (C := RX12) (T := TX12) (N := 48) hx hb hts k2 hown hK.1 hP 0 rfl rfl 12 (by decide) k8 (fun _ h9 => h9) rfl dX12_go_292 ?_
                      refine lv_lmul hx hb dX12_go_295 ?_
                      refine lv_topl (fun x_3321 ex_3321 => ?_)
                      have hY := hY.trans (lt1_e ex_3321)
                      refine lv_iload hx hb dX12_go_296 (lv_at hl 1 rfl) ?_
                      refine lv_i2l hx hb dX12_go_298 rfl ?_
                      refine lv_topl (fun x_3322 ex_3322 => ?_)
                      have hY := hY.trans (lt1_e ex_3322)
                      refine lv_ladd hx hb dX12_go_299 ?_
                      refine lv_topl (fun x_3323 ex_3323 => ?_)
                      have hY := hY.trans (lt1_e ex_3323)
                      refine lv_ldc2 (v := 96) hx hb hown k9 dX12_go_300 ?_
                      refine lv_lsub hx hb dX12_go_303 ?_
                      refine lv_topl (fun x_3324 ex_3324 => ?_)
                      have hY := hY.trans (lt1_e ex_3324)
                      refine va_put (D := D) (ci := 11) (v := .long x_3324) (ty := .long) (C := RX12) (T := TX12) (N := 48) hx hb hts k2 tyX12 tyX12_ok nmX12 hown hK.1 hP hD hS 0 rfl rfl 12 (by decide) k8 (fun _ h9 => h9) rfl (by decide +kernel) rfl rfl (Nat.le_of_ble_eq_true rfl) dX12_go_304 (fun H locs hP hD hS => ?_)
                      have hP : va_P D vwCl [(h0, .inr (11, [.int h0_thrown, .ref h0_tape, .int h0_taped, .int h0_size, .int h0_limit, .int y215_2, .int y215_3, .int h0_kind, .int y215_4, .int h0_sign, .int h0_fault, .int h0_place, .long x_3324, .int h0_told, .ref h0_now, .ref h0_read, .ref h0_kept, .ref h0_snaps, .ref h0_aside, .ref h0_name, .ref h0_readName, .ref h0_keptName, .ref h0_isKept, .ref h0_onces, .int h0_snapMany, .int h0_lowest, .int h0_highest, .int h0_agreed, .int h0_jurors, .int h0_panelled, .ref h0_inSets, .int h0_surely, .int h0_asked, .ref h0_frees, .int h0_struck, .int h0_beating, .ref h0_text, .int h0_texts, .int h0_seed, .ref h0_line, .ref h0_written, .int h0_lineMany, .int h0_hasWritten, .ref h0_node, .int h0_nodes, .int h0_onesMany, .int h0_within, .int h0_top])), (aI ca h0_tape 940 F_h0_tape)] H := hP
                      have hD : va_D A [(h0, .inr (11, [.int h0_thrown, .ref h0_tape, .int h0_taped, .int h0_size, .int h0_limit, .int y215_2, .int y215_3, .int h0_kind, .int y215_4, .int h0_sign, .int h0_fault, .int h0_place, .long x_3324, .int h0_told, .ref h0_now, .ref h0_read, .ref h0_kept, .ref h0_snaps, .ref h0_aside, .ref h0_name, .ref h0_readName, .ref h0_keptName, .ref h0_isKept, .ref h0_onces, .int h0_snapMany, .int h0_lowest, .int h0_highest, .int h0_agreed, .int h0_jurors, .int h0_panelled, .ref h0_inSets, .int h0_surely, .int h0_asked, .ref h0_frees, .int h0_struck, .int h0_beating, .ref h0_text, .int h0_texts, .int h0_seed, .ref h0_line, .ref h0_written, .int h0_lineMany, .int h0_hasWritten, .ref h0_node, .int h0_nodes, .int h0_onesMany, .int h0_within, .int h0_top])), (aI ca h0_tape 940 F_h0_tape)] := hD
                      refine lv_aload_n hx hb dX12_go_307 rfl (lv_at hl 2 rfl) ?_
                      refine va_get (D := D) (ci := 11) (v := .int y215_2) (C := RX12) (T := TX12) (N := 48) hx hb hts k2 hown hK.1 hP 0 rfl rfl 5 (by decide) k3 (fun _ h9 => h9) rfl dX12_go_308 ?_
                      refine lv_aload_n hx hb dX12_go_311 rfl (lv_at hl 2 rfl) ?_
                      refine va_get (D := D) (ci := 11) (v := .int y215_3) (C := RX12) (T := TX12) (N := 48) hx hb hts k2 hown hK.1 hP 0 rfl rfl 6 (by decide) k4 (fun _ h9 => h9) rfl dX12_go_312 ?_
                      refine lv_isub hx hb dX12_go_315 ?_
                      refine lv_topi (fun x_3325 ex_3325 => ?_)
                      have hY := hY.trans (lt1_e ex_3325)
                      have h_3326 : rg (-939) 939 x_3325 := by rw [ex_3325]; exact rg_sub h_3150 hy215_3 (by decide) (by decide) (by decide) (by decide)
                      have l_3327 : lq x_3325.toInt (y215_2.toInt + (-1) * y215_3.toInt) := lqm (by rw [ex_3325]; have q := tsub h_3150 hy215_3 (by decide) (by decide); omega)
                      refine lv_iconst (v := 3) hx hb dX12_go_316 (by decide) ?_
                      refine lv_icmp_ge (tgt := 337) hx hb dX12_go_317 (by decide) (fun c_3328 => ?_) (fun c_3328 => ?_)
                      · skip
                        have hY := hY.trans (if_pos c_3328)
                        have o_3329 : rl 0 3 x_3325 := rl_le c_3328
                        have h_3330 : rg 3 939 x_3325 := rl_y o_3329 (⟨by decide, by decide⟩ : rg 3 3 (3 : Int32)) h_3326 (by decide) (by decide)
                        refine lv_aload_n hx hb dX12_go_337 rfl (lv_at hl 2 rfl) ?_
                        refine lv_dup hx hb dX12_go_338 rfl ?_
                        refine va_get (D := D) (ci := 11) (v := .int y215_2) (C := RX12) (T := TX12) (N := 48) hx hb hts k2 hown hK.1 hP 0 rfl rfl 5 (by decide) k3 (fun _ h9 => h9) rfl dX12_go_339 ?_
                        refine lv_iconst (v := 1) hx hb dX12_go_342 (by decide) ?_
                        refine lv_iadd hx hb dX12_go_343 ?_
                        refine lv_topi (fun x_3331 ex_3331 => ?_)
                        have hY := hY.trans (lt1_e ex_3331)
                        have h_3332 : rg 2 940 x_3331 := by rw [ex_3331]; exact rg_add h_3150 (⟨by decide, by decide⟩ : rg 1 1 (1 : Int32)) (by decide) (by decide) (by decide) (by decide)
                        have l_3333 : lq x_3331.toInt (y215_2.toInt + 1) := lqm (by rw [ex_3331]; have q := tadd h_3150 (⟨by decide, by decide⟩ : rg 1 1 (1 : Int32)) (by decide) (by decide); have r1 := lqe (lqm (by decide) : lq (1 : Int32).toInt 1); omega)
                        refine va_put (D := D) (ci := 11) (v := .int x_3331) (ty := .int) (C := RX12) (T := TX12) (N := 48) hx hb hts k2 tyX12 tyX12_ok nmX12 hown hK.1 hP hD hS 0 rfl rfl 5 (by decide) k3 (fun _ h9 => h9) rfl (by decide +kernel) rfl rfl (Nat.le_of_ble_eq_true rfl) dX12_go_344 (fun H locs hP hD hS => ?_)
                        have hP : va_P D vwCl [(h0, .inr (11, [.int h0_thrown, .ref h0_tape, .int h0_taped, .int h0_size, .int h0_limit, .int x_3331, .int y215_3, .int h0_kind, .int y215_4, .int h0_sign, .int h0_fault, .int h0_place, .long x_3324, .int h0_told, .ref h0_now, .ref h0_read, .ref h0_kept, .ref h0_snaps, .ref h0_aside, .ref h0_name, .ref h0_readName, .ref h0_keptName, .ref h0_isKept, .ref h0_onces, .int h0_snapMany, .int h0_lowest, .int h0_highest, .int h0_agreed, .int h0_jurors, .int h0_panelled, .ref h0_inSets, .int h0_surely, .int h0_asked, .ref h0_frees, .int h0_struck, .int h0_beating, .ref h0_text, .int h0_texts, .int h0_seed, .ref h0_line, .ref h0_written, .int h0_lineMany, .int h0_hasWritten, .ref h0_node, .int h0_nodes, .int h0_onesMany, .int h0_within, .int h0_top])), (aI ca h0_tape 940 F_h0_tape)] H := hP
                        have hD : va_D A [(h0, .inr (11, [.int h0_thrown, .ref h0_tape, .int h0_taped, .int h0_size, .int h0_limit, .int x_3331, .int y215_3, .int h0_kind, .int y215_4, .int h0_sign, .int h0_fault, .int h0_place, .long x_3324, .int h0_told, .ref h0_now, .ref h0_read, .ref h0_kept, .ref h0_snaps, .ref h0_aside, .ref h0_name, .ref h0_readName, .ref h0_keptName, .ref h0_isKept, .ref h0_onces, .int h0_snapMany, .int h0_lowest, .int h0_highest, .int h0_agreed, .int h0_jurors, .int h0_panelled, .ref h0_inSets, .int h0_surely, .int h0_asked, .ref h0_frees, .int h0_struck, .int h0_beating, .ref h0_text, .int h0_texts, .int h0_seed, .ref h0_line, .ref h0_written, .int h0_lineMany, .int h0_hasWritten, .ref h0_node, .int h0_nodes, .int h0_onesMany, .int h0_within, .int h0_top])), (aI ca h0_tape 940 F_h0_tape)] := hD
                        refine lv_goto (tgt := 215) hx hb dX12_go_347 (by decide) ?_
                        exact ih215 y215_0 0 x_3331 y215_3 y215_4 x_3324 trivial (rgw (lo := 0) (hi := 1) h_3295 (by decide) (by decide)) (⟨by decide, by decide⟩ : rg 0 1 (0 : Int32)) (rgw (lo := 1) (hi := 940) h_3332 (by decide) (by decide)) (rlm (by have q0 := lqe l_3333; have q1 := rle py215_2_h0_to; omega)) hy215_3 (rlm (by have q0 := rle py215_3_h0_to; omega)) t215_h0_limit (rgw (lo := 1) (hi := 940) h_3151 (by decide) (by decide)) (by have q0 := lqe l_3333; omega) hY H locs ls (oPsub hP [0, 1] rfl) (hD.sub [0, 1] (by decide) rfl) hS (lv_sub hl [2, 3, 0] rfl)
                      · skip
                        have hY := hY.trans (if_neg c_3328)
                        have o_3334 : rl 1 x_3325 3 := rl_nle c_3328
                        have h_3335 : rg (-939) 2 x_3325 := rl_x o_3334 h_3326 (⟨by decide, by decide⟩ : rg 3 3 (3 : Int32)) (by decide) (by decide)
                        refine lv_aload_n hx hb dX12_go_320 rfl (lv_at hl 2 rfl) ?_
                        refine lv_bipush (v := 10) hx hb dX12_go_321 (by decide) ?_
                        refine lv_aload_n hx hb dX12_go_323 rfl (lv_at hl 2 rfl) ?_
                        refine va_get (D := D) (ci := 11) (v := .int y215_4) (C := RX12) (T := TX12) (N := 48) hx hb hts k2 hown hK.1 hP 0 rfl rfl 8 (by decide) k6 (fun _ h9 => h9) rfl dX12_go_324 ?_
                        refine lv_imul hx hb dX12_go_327 ?_
                        refine lv_topi (fun x_3336 ex_3336 => ?_)
                        have hY := hY.trans (lt1_e ex_3336)
                        refine lv_iload hx hb dX12_go_328 (lv_at hl 1 rfl) ?_
                        refine lv_iadd hx hb dX12_go_330 ?_
                        refine lv_topi (fun x_3337 ex_3337 => ?_)
                        have hY := hY.trans (lt1_e ex_3337)
                        refine lv_bipush (v := 48) hx hb dX12_go_331 (by decide) ?_
                        refine lv_isub hx hb dX12_go_333 ?_
                        refine lv_topi (fun x_3338 ex_3338 => ?_)
                        have hY := hY.trans (lt1_e ex_3338)
                        refine va_put (D := D) (ci := 11) (v := .int x_3338) (ty := .int) (C := RX12) (T := TX12) (N := 48) hx hb hts k2 tyX12 tyX12_ok nmX12 hown hK.1 hP hD hS 0 rfl rfl 8 (by decide) k6 (fun _ h9 => h9) rfl (by decide +kernel) rfl rfl (Nat.le_of_ble_eq_true rfl) dX12_go_334 (fun H locs hP hD hS => ?_)
                        have hP : va_P D vwCl [(h0, .inr (11, [.int h0_thrown, .ref h0_tape, .int h0_taped, .int h0_size, .int h0_limit, .int y215_2, .int y215_3, .int h0_kind, .int x_3338, .int h0_sign, .int h0_fault, .int h0_place, .long x_3324, .int h0_told, .ref h0_now, .ref h0_read, .ref h0_kept, .ref h0_snaps, .ref h0_aside, .ref h0_name, .ref h0_readName, .ref h0_keptName, .ref h0_isKept, .ref h0_onces, .int h0_snapMany, .int h0_lowest, .int h0_highest, .int h0_agreed, .int h0_jurors, .int h0_panelled, .ref h0_inSets, .int h0_surely, .int h0_asked, .ref h0_frees, .int h0_struck, .int h0_beating, .ref h0_text, .int h0_texts, .int h0_seed, .ref h0_line, .ref h0_written, .int h0_lineMany, .int h0_hasWritten, .ref h0_node, .int h0_nodes, .int h0_onesMany, .int h0_within, .int h0_top])), (aI ca h0_tape 940 F_h0_tape)] H := hP
                        have hD : va_D A [(h0, .inr (11, [.int h0_thrown, .ref h0_tape, .int h0_taped, .int h0_size, .int h0_limit, .int y215_2, .int y215_3, .int h0_kind, .int x_3338, .int h0_sign, .int h0_fault, .int h0_place, .long x_3324, .int h0_told, .ref h0_now, .ref h0_read, .ref h0_kept, .ref h0_snaps, .ref h0_aside, .ref h0_name, .ref h0_readName, .ref h0_keptName, .ref h0_isKept, .ref h0_onces, .int h0_snapMany, .int h0_lowest, .int h0_highest, .int h0_agreed, .int h0_jurors, .int h0_panelled, .ref h0_inSets, .int h0_surely, .int h0_asked, .ref h0_frees, .int h0_struck, .int h0_beating, .ref h0_text, .int h0_texts, .int h0_seed, .ref h0_line, .ref h0_written, .int h0_lineMany, .int h0_hasWritten, .ref h0_node, .int h0_nodes, .int h0_onesMany, .int h0_within, .int h0_top])), (aI ca h0_tape 940 F_h0_tape)] := hD
                        refine lv_aload_n hx hb dX12_go_337 rfl (lv_at hl 2 rfl) ?_
                        refine lv_dup hx hb dX12_go_338 rfl ?_
                        refine va_get (D := D) (ci := 11) (v := .int y215_2) (C := RX12) (T := TX12) (N := 48) hx hb hts k2 hown hK.1 hP 0 rfl rfl 5 (by decide) k3 (fun _ h9 => h9) rfl dX12_go_339 ?_
                        refine lv_iconst (v := 1) hx hb dX12_go_342 (by decide) ?_
                        refine lv_iadd hx hb dX12_go_343 ?_
                        refine lv_topi (fun x_3339 ex_3339 => ?_)
                        have hY := hY.trans (lt1_e ex_3339)
                        have h_3340 : rg 2 940 x_3339 := by rw [ex_3339]; exact rg_add h_3150 (⟨by decide, by decide⟩ : rg 1 1 (1 : Int32)) (by decide) (by decide) (by decide) (by decide)
                        have l_3341 : lq x_3339.toInt (y215_2.toInt + 1) := lqm (by rw [ex_3339]; have q := tadd h_3150 (⟨by decide, by decide⟩ : rg 1 1 (1 : Int32)) (by decide) (by decide); have r1 := lqe (lqm (by decide) : lq (1 : Int32).toInt 1); omega)
                        refine va_put (D := D) (ci := 11) (v := .int x_3339) (ty := .int) (C := RX12) (T := TX12) (N := 48) hx hb hts k2 tyX12 tyX12_ok nmX12 hown hK.1 hP hD hS 0 rfl rfl 5 (by decide) k3 (fun _ h9 => h9) rfl (by decide +kernel) rfl rfl (Nat.le_of_ble_eq_true rfl) dX12_go_344 (fun H locs hP hD hS => ?_)
                        have hP : va_P D vwCl [(h0, .inr (11, [.int h0_thrown, .ref h0_tape, .int h0_taped, .int h0_size, .int h0_limit, .int x_3339, .int y215_3, .int h0_kind, .int x_3338, .int h0_sign, .int h0_fault, .int h0_place, .long x_3324, .int h0_told, .ref h0_now, .ref h0_read, .ref h0_kept, .ref h0_snaps, .ref h0_aside, .ref h0_name, .ref h0_readName, .ref h0_keptName, .ref h0_isKept, .ref h0_onces, .int h0_snapMany, .int h0_lowest, .int h0_highest, .int h0_agreed, .int h0_jurors, .int h0_panelled, .ref h0_inSets, .int h0_surely, .int h0_asked, .ref h0_frees, .int h0_struck, .int h0_beating, .ref h0_text, .int h0_texts, .int h0_seed, .ref h0_line, .ref h0_written, .int h0_lineMany, .int h0_hasWritten, .ref h0_node, .int h0_nodes, .int h0_onesMany, .int h0_within, .int h0_top])), (aI ca h0_tape 940 F_h0_tape)] H := hP
                        have hD : va_D A [(h0, .inr (11, [.int h0_thrown, .ref h0_tape, .int h0_taped, .int h0_size, .int h0_limit, .int x_3339, .int y215_3, .int h0_kind, .int x_3338, .int h0_sign, .int h0_fault, .int h0_place, .long x_3324, .int h0_told, .ref h0_now, .ref h0_read, .ref h0_kept, .ref h0_snaps, .ref h0_aside, .ref h0_name, .ref h0_readName, .ref h0_keptName, .ref h0_isKept, .ref h0_onces, .int h0_snapMany, .int h0_lowest, .int h0_highest, .int h0_agreed, .int h0_jurors, .int h0_panelled, .ref h0_inSets, .int h0_surely, .int h0_asked, .ref h0_frees, .int h0_struck, .int h0_beating, .ref h0_text, .int h0_texts, .int h0_seed, .ref h0_line, .ref h0_written, .int h0_lineMany, .int h0_hasWritten, .ref h0_node, .int h0_nodes, .int h0_onesMany, .int h0_within, .int h0_top])), (aI ca h0_tape 940 F_h0_tape)] := hD
                        refine lv_goto (tgt := 215) hx hb dX12_go_347 (by decide) ?_
                        exact ih215 y215_0 0 x_3339 y215_3 x_3338 x_3324 trivial (rgw (lo := 0) (hi := 1) h_3295 (by decide) (by decide)) (⟨by decide, by decide⟩ : rg 0 1 (0 : Int32)) (rgw (lo := 1) (hi := 940) h_3340 (by decide) (by decide)) (rlm (by have q0 := lqe l_3341; have q1 := rle py215_2_h0_to; omega)) hy215_3 (rlm (by have q0 := rle py215_3_h0_to; omega)) t215_h0_limit (rgw (lo := 1) (hi := 940) h_3151 (by decide) (by decide)) (by have q0 := lqe l_3341; omega) hY H locs ls (oPsub hP [0, 1] rfl) (hD.sub [0, 1] (by decide) rfl) hS (lv_sub hl [2, 3, 0] rfl)
                  · skip
                    have hY := hY.trans (if_pos c_3294)
                    have o_3342 : rl 0 0 y215_0 := rl_eq c_3294
                    have o_3343 : rl 0 y215_0 0 := rl_eq c_3294.symm
                    have h_3344 : rg 0 0 y215_0 := rl_x o_3343 hy215_0 (⟨by decide, by decide⟩ : rg 0 0 (0 : Int32)) (by decide) (by decide)
                    refine lv_iconst (v := 1) hx hb dX12_go_267 (by decide) ?_
                    refine lv_goto (tgt := 272) hx hb dX12_go_268 (by decide) ?_
                    refine lv_istore_n (lv' := [(3, .int 1), (4, .int r_3078), (0, .ref h0), (2, .int y215_0)]) hx hb dX12_go_272 rfl hl (by decide) rfl (fun ls hl => ?_)
                    refine lv_aload_n hx hb dX12_go_273 rfl (lv_at hl 2 rfl) ?_
                    refine va_get (D := D) (ci := 11) (v := .int y215_2) (C := RX12) (T := TX12) (N := 48) hx hb hts k2 hown hK.1 hP 0 rfl rfl 5 (by decide) k3 (fun _ h9 => h9) rfl dX12_go_274 ?_
                    refine lv_aload_n hx hb dX12_go_277 rfl (lv_at hl 2 rfl) ?_
                    refine va_get (D := D) (ci := 11) (v := .int y215_3) (C := RX12) (T := TX12) (N := 48) hx hb hts k2 hown hK.1 hP 0 rfl rfl 6 (by decide) k4 (fun _ h9 => h9) rfl dX12_go_278 ?_
                    refine lv_isub hx hb dX12_go_281 ?_
                    refine lv_topi (fun x_3345 ex_3345 => ?_)
                    have hY := hY.trans (lt1_e ex_3345)
                    have h_3346 : rg (-939) 939 x_3345 := by rw [ex_3345]; exact rg_sub h_3150 hy215_3 (by decide) (by decide) (by decide) (by decide)
                    have l_3347 : lq x_3345.toInt (y215_2.toInt + (-1) * y215_3.toInt) := lqm (by rw [ex_3345]; have q := tsub h_3150 hy215_3 (by decide) (by decide); omega)
                    refine lv_bipush (v := 7) hx hb dX12_go_282 (by decide) ?_
                    refine lv_icmp_ge (tgt := 307) hx hb dX12_go_284 (by decide) (fun c_3348 => ?_) (fun c_3348 => ?_)
                    · skip
                      have hY := hY.trans (if_pos c_3348)
                      have o_3349 : rl 0 7 x_3345 := rl_le c_3348
                      have h_3350 : rg 7 939 x_3345 := rl_y o_3349 (⟨by decide, by decide⟩ : rg 7 7 (7 : Int32)) h_3346 (by decide) (by decide)
                      refine lv_aload_n hx hb dX12_go_307 rfl (lv_at hl 2 rfl) ?_
                      refine va_get (D := D) (ci := 11) (v := .int y215_2) (C := RX12) (T := TX12) (N := 48) hx hb hts k2 hown hK.1 hP 0 rfl rfl 5 (by decide) k3 (fun _ h9 => h9) rfl dX12_go_308 ?_
                      refine lv_aload_n hx hb dX12_go_311 rfl (lv_at hl 2 rfl) ?_
                      refine va_get (D := D) (ci := 11) (v := .int y215_3) (C := RX12) (T := TX12) (N := 48) hx hb hts k2 hown hK.1 hP 0 rfl rfl 6 (by decide) k4 (fun _ h9 => h9) rfl dX12_go_312 ?_
                      refine lv_isub hx hb dX12_go_315 ?_
                      refine lv_topi (fun x_3351 ex_3351 => ?_)
                      have hY := hY.trans (lt1_e ex_3351)
                      have h_3352 : rg (-939) 939 x_3351 := by rw [ex_3351]; exact rg_sub h_3150 hy215_3 (by decide) (by decide) (by decide) (by decide)
                      have l_3353 : lq x_3351.toInt (y215_2.toInt + (-1) * y215_3.toInt) := lqm (by rw [ex_3351]; have q := tsub h_3150 hy215_3 (by decide) (by decide); omega)
                      refine lv_iconst (v := 3) hx hb dX12_go_316 (by decide) ?_
                      refine lv_icmp_ge (tgt := 337) hx hb dX12_go_317 (by decide) (fun c_3354 => ?_) (fun c_3354 => ?_)
                      · skip
                        have hY := hY.trans (if_pos c_3354)
                        have o_3355 : rl 0 3 x_3351 := rl_le c_3354
                        have h_3356 : rg 3 939 x_3351 := rl_y o_3355 (⟨by decide, by decide⟩ : rg 3 3 (3 : Int32)) h_3352 (by decide) (by decide)
                        refine lv_aload_n hx hb dX12_go_337 rfl (lv_at hl 2 rfl) ?_
                        refine lv_dup hx hb dX12_go_338 rfl ?_
                        refine va_get (D := D) (ci := 11) (v := .int y215_2) (C := RX12) (T := TX12) (N := 48) hx hb hts k2 hown hK.1 hP 0 rfl rfl 5 (by decide) k3 (fun _ h9 => h9) rfl dX12_go_339 ?_
                        refine lv_iconst (v := 1) hx hb dX12_go_342 (by decide) ?_
                        refine lv_iadd hx hb dX12_go_343 ?_
                        refine lv_topi (fun x_3357 ex_3357 => ?_)
                        have hY := hY.trans (lt1_e ex_3357)
                        have h_3358 : rg 2 940 x_3357 := by rw [ex_3357]; exact rg_add h_3150 (⟨by decide, by decide⟩ : rg 1 1 (1 : Int32)) (by decide) (by decide) (by decide) (by decide)
                        have l_3359 : lq x_3357.toInt (y215_2.toInt + 1) := lqm (by rw [ex_3357]; have q := tadd h_3150 (⟨by decide, by decide⟩ : rg 1 1 (1 : Int32)) (by decide) (by decide); have r1 := lqe (lqm (by decide) : lq (1 : Int32).toInt 1); omega)
                        refine va_put (D := D) (ci := 11) (v := .int x_3357) (ty := .int) (C := RX12) (T := TX12) (N := 48) hx hb hts k2 tyX12 tyX12_ok nmX12 hown hK.1 hP hD hS 0 rfl rfl 5 (by decide) k3 (fun _ h9 => h9) rfl (by decide +kernel) rfl rfl (Nat.le_of_ble_eq_true rfl) dX12_go_344 (fun H locs hP hD hS => ?_)
                        have hP : va_P D vwCl [(h0, .inr (11, [.int h0_thrown, .ref h0_tape, .int h0_taped, .int h0_size, .int h0_limit, .int x_3357, .int y215_3, .int h0_kind, .int y215_4, .int h0_sign, .int h0_fault, .int h0_place, .long y215_5, .int h0_told, .ref h0_now, .ref h0_read, .ref h0_kept, .ref h0_snaps, .ref h0_aside, .ref h0_name, .ref h0_readName, .ref h0_keptName, .ref h0_isKept, .ref h0_onces, .int h0_snapMany, .int h0_lowest, .int h0_highest, .int h0_agreed, .int h0_jurors, .int h0_panelled, .ref h0_inSets, .int h0_surely, .int h0_asked, .ref h0_frees, .int h0_struck, .int h0_beating, .ref h0_text, .int h0_texts, .int h0_seed, .ref h0_line, .ref h0_written, .int h0_lineMany, .int h0_hasWritten, .ref h0_node, .int h0_nodes, .int h0_onesMany, .int h0_within, .int h0_top])), (aI ca h0_tape 940 F_h0_tape)] H := hP
                        have hD : va_D A [(h0, .inr (11, [.int h0_thrown, .ref h0_tape, .int h0_taped, .int h0_size, .int h0_limit, .int x_3357, .int y215_3, .int h0_kind, .int y215_4, .int h0_sign, .int h0_fault, .int h0_place, .long y215_5, .int h0_told, .ref h0_now, .ref h0_read, .ref h0_kept, .ref h0_snaps, .ref h0_aside, .ref h0_name, .ref h0_readName, .ref h0_keptName, .ref h0_isKept, .ref h0_onces, .int h0_snapMany, .int h0_lowest, .int h0_highest, .int h0_agreed, .int h0_jurors, .int h0_panelled, .ref h0_inSets, .int h0_surely, .int h0_asked, .ref h0_frees, .int h0_struck, .int h0_beating, .ref h0_text, .int h0_texts, .int h0_seed, .ref h0_line, .ref h0_written, .int h0_lineMany, .int h0_hasWritten, .ref h0_node, .int h0_nodes, .int h0_onesMany, .int h0_within, .int h0_top])), (aI ca h0_tape 940 F_h0_tape)] := hD
                        refine lv_goto (tgt := 215) hx hb dX12_go_347 (by decide) ?_
                        exact ih215 y215_0 1 x_3357 y215_3 y215_4 y215_5 trivial (rgw (lo := 0) (hi := 1) h_3344 (by decide) (by decide)) (⟨by decide, by decide⟩ : rg 0 1 (1 : Int32)) (rgw (lo := 1) (hi := 940) h_3358 (by decide) (by decide)) (rlm (by have q0 := lqe l_3359; have q1 := rle py215_2_h0_to; omega)) hy215_3 (rlm (by have q0 := rle py215_3_h0_to; omega)) t215_h0_limit (rgw (lo := 1) (hi := 940) h_3151 (by decide) (by decide)) (by have q0 := lqe l_3359; omega) hY H locs ls (oPsub hP [0, 1] rfl) (hD.sub [0, 1] (by decide) rfl) hS (lv_sub hl [2, 3, 0] rfl)
                      · skip
                        have hY := hY.trans (if_neg c_3354)
                        have o_3360 : rl 1 x_3351 3 := rl_nle c_3354
                        have h_3361 : rg (-939) 2 x_3351 := rl_x o_3360 h_3352 (⟨by decide, by decide⟩ : rg 3 3 (3 : Int32)) (by decide) (by decide)
                        refine lv_aload_n hx hb dX12_go_320 rfl (lv_at hl 2 rfl) ?_
                        refine lv_bipush (v := 10) hx hb dX12_go_321 (by decide) ?_
                        refine lv_aload_n hx hb dX12_go_323 rfl (lv_at hl 2 rfl) ?_
                        refine va_get (D := D) (ci := 11) (v := .int y215_4) (C := RX12) (T := TX12) (N := 48) hx hb hts k2 hown hK.1 hP 0 rfl rfl 8 (by decide) k6 (fun _ h9 => h9) rfl dX12_go_324 ?_
                        refine lv_imul hx hb dX12_go_327 ?_
                        refine lv_topi (fun x_3362 ex_3362 => ?_)
                        have hY := hY.trans (lt1_e ex_3362)
                        refine lv_iload hx hb dX12_go_328 (lv_at hl 1 rfl) ?_
                        refine lv_iadd hx hb dX12_go_330 ?_
                        refine lv_topi (fun x_3363 ex_3363 => ?_)
                        have hY := hY.trans (lt1_e ex_3363)
                        refine lv_bipush (v := 48) hx hb dX12_go_331 (by decide) ?_
                        refine lv_isub hx hb dX12_go_333 ?_
                        refine lv_topi (fun x_3364 ex_3364 => ?_)
                        have hY := hY.trans (lt1_e ex_3364)
                        refine va_put (D := D) (ci := 11) (v := .int x_3364) (ty := .int) (C := RX12) (T := TX12) (N := 48) hx hb hts k2 tyX12 tyX12_ok nmX12 hown hK.1 hP hD hS 0 rfl rfl 8 (by decide) k6 (fun _ h9 => h9) rfl (by decide +kernel) rfl rfl (Nat.le_of_ble_eq_true rfl) dX12_go_334 (fun H locs hP hD hS => ?_)
                        have hP : va_P D vwCl [(h0, .inr (11, [.int h0_thrown, .ref h0_tape, .int h0_taped, .int h0_size, .int h0_limit, .int y215_2, .int y215_3, .int h0_kind, .int x_3364, .int h0_sign, .int h0_fault, .int h0_place, .long y215_5, .int h0_told, .ref h0_now, .ref h0_read, .ref h0_kept, .ref h0_snaps, .ref h0_aside, .ref h0_name, .ref h0_readName, .ref h0_keptName, .ref h0_isKept, .ref h0_onces, .int h0_snapMany, .int h0_lowest, .int h0_highest, .int h0_agreed, .int h0_jurors, .int h0_panelled, .ref h0_inSets, .int h0_surely, .int h0_asked, .ref h0_frees, .int h0_struck, .int h0_beating, .ref h0_text, .int h0_texts, .int h0_seed, .ref h0_line, .ref h0_written, .int h0_lineMany, .int h0_hasWritten, .ref h0_node, .int h0_nodes, .int h0_onesMany, .int h0_within, .int h0_top])), (aI ca h0_tape 940 F_h0_tape)] H := hP
                        have hD : va_D A [(h0, .inr (11, [.int h0_thrown, .ref h0_tape, .int h0_taped, .int h0_size, .int h0_limit, .int y215_2, .int y215_3, .int h0_kind, .int x_3364, .int h0_sign, .int h0_fault, .int h0_place, .long y215_5, .int h0_told, .ref h0_now, .ref h0_read, .ref h0_kept, .ref h0_snaps, .ref h0_aside, .ref h0_name, .ref h0_readName, .ref h0_keptName, .ref h0_isKept, .ref h0_onces, .int h0_snapMany, .int h0_lowest, .int h0_highest, .int h0_agreed, .int h0_jurors, .int h0_panelled, .ref h0_inSets, .int h0_surely, .int h0_asked, .ref h0_frees, .int h0_struck, .int h0_beating, .ref h0_text, .int h0_texts, .int h0_seed, .ref h0_line, .ref h0_written, .int h0_lineMany, .int h0_hasWritten, .ref h0_node, .int h0_nodes, .int h0_onesMany, .int h0_within, .int h0_top])), (aI ca h0_tape 940 F_h0_tape)] := hD
                        refine lv_aload_n hx hb dX12_go_337 rfl (lv_at hl 2 rfl) ?_
                        refine lv_dup hx hb dX12_go_338 rfl ?_
                        refine va_get (D := D) (ci := 11) (v := .int y215_2) (C := RX12) (T := TX12) (N := 48) hx hb hts k2 hown hK.1 hP 0 rfl rfl 5 (by decide) k3 (fun _ h9 => h9) rfl dX12_go_339 ?_
                        refine lv_iconst (v := 1) hx hb dX12_go_342 (by decide) ?_
                        refine lv_iadd hx hb dX12_go_343 ?_
                        refine lv_topi (fun x_3365 ex_3365 => ?_)
                        have hY := hY.trans (lt1_e ex_3365)
                        have h_3366 : rg 2 940 x_3365 := by rw [ex_3365]; exact rg_add h_3150 (⟨by decide, by decide⟩ : rg 1 1 (1 : Int32)) (by decide) (by decide) (by decide) (by decide)
                        have l_3367 : lq x_3365.toInt (y215_2.toInt + 1) := lqm (by rw [ex_3365]; have q := tadd h_3150 (⟨by decide, by decide⟩ : rg 1 1 (1 : Int32)) (by decide) (by decide); have r1 := lqe (lqm (by decide) : lq (1 : Int32).toInt 1); omega)
                        refine va_put (D := D) (ci := 11) (v := .int x_3365) (ty := .int) (C := RX12) (T := TX12) (N := 48) hx hb hts k2 tyX12 tyX12_ok nmX12 hown hK.1 hP hD hS 0 rfl rfl 5 (by decide) k3 (fun _ h9 => h9) rfl (by decide +kernel) rfl rfl (Nat.le_of_ble_eq_true rfl) dX12_go_344 (fun H locs hP hD hS => ?_)
                        have hP : va_P D vwCl [(h0, .inr (11, [.int h0_thrown, .ref h0_tape, .int h0_taped, .int h0_size, .int h0_limit, .int x_3365, .int y215_3, .int h0_kind, .int x_3364, .int h0_sign, .int h0_fault, .int h0_place, .long y215_5, .int h0_told, .ref h0_now, .ref h0_read, .ref h0_kept, .ref h0_snaps, .ref h0_aside, .ref h0_name, .ref h0_readName, .ref h0_keptName, .ref h0_isKept, .ref h0_onces, .int h0_snapMany, .int h0_lowest, .int h0_highest, .int h0_agreed, .int h0_jurors, .int h0_panelled, .ref h0_inSets, .int h0_surely, .int h0_asked, .ref h0_frees, .int h0_struck, .int h0_beating, .ref h0_text, .int h0_texts, .int h0_seed, .ref h0_line, .ref h0_written, .int h0_lineMany, .int h0_hasWritten, .ref h0_node, .int h0_nodes, .int h0_onesMany, .int h0_within, .int h0_top])), (aI ca h0_tape 940 F_h0_tape)] H := hP
                        have hD : va_D A [(h0, .inr (11, [.int h0_thrown, .ref h0_tape, .int h0_taped, .int h0_size, .int h0_limit, .int x_3365, .int y215_3, .int h0_kind, .int x_3364, .int h0_sign, .int h0_fault, .int h0_place, .long y215_5, .int h0_told, .ref h0_now, .ref h0_read, .ref h0_kept, .ref h0_snaps, .ref h0_aside, .ref h0_name, .ref h0_readName, .ref h0_keptName, .ref h0_isKept, .ref h0_onces, .int h0_snapMany, .int h0_lowest, .int h0_highest, .int h0_agreed, .int h0_jurors, .int h0_panelled, .ref h0_inSets, .int h0_surely, .int h0_asked, .ref h0_frees, .int h0_struck, .int h0_beating, .ref h0_text, .int h0_texts, .int h0_seed, .ref h0_line, .ref h0_written, .int h0_lineMany, .int h0_hasWritten, .ref h0_node, .int h0_nodes, .int h0_onesMany, .int h0_within, .int h0_top])), (aI ca h0_tape 940 F_h0_tape)] := hD
                        refine lv_goto (tgt := 215) hx hb dX12_go_347 (by decide) ?_
                        exact ih215 y215_0 1 x_3365 y215_3 x_3364 y215_5 trivial (rgw (lo := 0) (hi := 1) h_3344 (by decide) (by decide)) (⟨by decide, by decide⟩ : rg 0 1 (1 : Int32)) (rgw (lo := 1) (hi := 940) h_3366 (by decide) (by decide)) (rlm (by have q0 := lqe l_3367; have q1 := rle py215_2_h0_to; omega)) hy215_3 (rlm (by have q0 := rle py215_3_h0_to; omega)) t215_h0_limit (rgw (lo := 1) (hi := 940) h_3151 (by decide) (by decide)) (by have q0 := lqe l_3367; omega) hY H locs ls (oPsub hP [0, 1] rfl) (hD.sub [0, 1] (by decide) rfl) hS (lv_sub hl [2, 3, 0] rfl)
                    · skip
                      have hY := hY.trans (if_neg c_3348)
                      have o_3368 : rl 1 x_3345 7 := rl_nle c_3348
                      have h_3369 : rg (-939) 6 x_3345 := rl_x o_3368 h_3346 (⟨by decide, by decide⟩ : rg 7 7 (7 : Int32)) (by decide) (by decide)
                      refine lv_aload_n hx hb dX12_go_287 rfl (lv_at hl 2 rfl) ?_
                      refine lv_ldc2 (v := 27) hx hb hown k7 dX12_go_288 ?_
                      refine lv_aload_n hx hb dX12_go_291 rfl (lv_at hl 2 rfl) ?_
                      refine va_get (D := D) (ci := 11) (v := .long y215_5) (C := RX12) (T := TX12) (N := 48) hx hb hts k2 hown hK.1 hP 0 rfl rfl 12 (by decide) k8 (fun _ h9 => h9) rfl dX12_go_292 ?_
                      refine lv_lmul hx hb dX12_go_295 ?_
                      refine lv_topl (fun x_3370 ex_3370 => ?_)
                      have hY := hY.trans (lt1_e ex_3370)
                      refine lv_iload hx hb dX12_go_296 (lv_at hl 1 rfl) ?_
                      refine lv_i2l hx hb dX12_go_298 rfl ?_
                      refine lv_topl (fun x_3371 ex_3371 => ?_)
                      have hY := hY.trans (lt1_e ex_3371)
                      refine lv_ladd hx hb dX12_go_299 ?_
                      refine lv_topl (fun x_3372 ex_3372 => ?_)
                      have hY := hY.trans (lt1_e ex_3372)
                      refine lv_ldc2 (v := 96) hx hb hown k9 dX12_go_300 ?_
                      refine lv_lsub hx hb dX12_go_303 ?_
                      refine lv_topl (fun x_3373 ex_3373 => ?_)
                      have hY := hY.trans (lt1_e ex_3373)
                      refine va_put (D := D) (ci := 11) (v := .long x_3373) (ty := .long) (C := RX12) (T := TX12) (N := 48) hx hb hts k2 tyX12 tyX12_ok nmX12 hown hK.1 hP hD hS 0 rfl rfl 12 (by decide) k8 (fun _ h9 => h9) rfl (by decide +kernel) rfl rfl (Nat.le_of_ble_eq_true rfl) dX12_go_304 (fun H locs hP hD hS => ?_)
                      have hP : va_P D vwCl [(h0, .inr (11, [.int h0_thrown, .ref h0_tape, .int h0_taped, .int h0_size, .int h0_limit, .int y215_2, .int y215_3, .int h0_kind, .int y215_4, .int h0_sign, .int h0_fault, .int h0_place, .long x_3373, .int h0_told, .ref h0_now, .ref h0_read, .ref h0_kept, .ref h0_snaps, .ref h0_aside, .ref h0_name, .ref h0_readName, .ref h0_keptName, .ref h0_isKept, .ref h0_onces, .int h0_snapMany, .int h0_lowest, .int h0_highest, .int h0_agreed, .int h0_jurors, .int h0_panelled, .ref h0_inSets, .int h0_surely, .int h0_asked, .ref h0_frees, .int h0_struck, .int h0_beating, .ref h0_text, .int h0_texts, .int h0_seed, .ref h0_line, .ref h0_written, .int h0_lineMany, .int h0_hasWritten, .ref h0_node, .int h0_nodes, .int h0_onesMany, .int h0_within, .int h0_top])), (aI ca h0_tape 940 F_h0_tape)] H := hP
                      have hD : va_D A [(h0, .inr (11, [.int h0_thrown, .ref h0_tape, .int h0_taped, .int h0_size, .int h0_limit, .int y215_2, .int y215_3, .int h0_kind, .int y215_4, .int h0_sign, .int h0_fault, .int h0_place, .long x_3373, .int h0_told, .ref h0_now, .ref h0_read, .ref h0_kept, .ref h0_snaps, .ref h0_aside, .ref h0_name, .ref h0_readName, .ref h0_keptName, .ref h0_isKept, .ref h0_onces, .int h0_snapMany, .int h0_lowest, .int h0_highest, .int h0_agreed, .int h0_jurors, .int h0_panelled, .ref h0_inSets, .int h0_surely, .int h0_asked, .ref h0_frees, .int h0_struck, .int h0_beating, .ref h0_text, .int h0_texts, .int h0_seed, .ref h0_line, .ref h0_written, .int h0_lineMany, .int h0_hasWritten, .ref h0_node, .int h0_nodes, .int h0_onesMany, .int h0_within, .int h0_top])), (aI ca h0_tape 940 F_h0_tape)] := hD
                      refine lv_aload_n hx hb dX12_go_307 rfl (lv_at hl 2 rfl) ?_
                      refine va_get (D := D) (ci := 11) (v := .int y215_2) (C := RX12) (T := TX12) (N := 48) hx hb hts k2 hown hK.1 hP 0 rfl rfl 5 (by decide) k3 (fun _ h9 => h9) rfl dX12_go_308 ?_
                      refine lv_aload_n hx hb dX12_go_311 rfl (lv_at hl 2 rfl) ?_
                      refine va_get (D := D) (ci := 11) (v := .int y215_3) (C := RX12) (T := TX12) (N := 48) hx hb hts k2 hown hK.1 hP 0 rfl rfl 6 (by decide) k4 (fun _ h9 => h9) rfl dX12_go_312 ?_
                      refine lv_isub hx hb dX12_go_315 ?_
                      refine lv_topi (fun x_3374 ex_3374 => ?_)
                      have hY := hY.trans (lt1_e ex_3374)
                      have h_3375 : rg (-939) 939 x_3374 := by rw [ex_3374]; exact rg_sub h_3150 hy215_3 (by decide) (by decide) (by decide) (by decide)
                      have l_3376 : lq x_3374.toInt (y215_2.toInt + (-1) * y215_3.toInt) := lqm (by rw [ex_3374]; have q := tsub h_3150 hy215_3 (by decide) (by decide); omega)
                      refine lv_iconst (v := 3) hx hb dX12_go_316 (by decide) ?_
                      refine lv_icmp_ge (tgt := 337) hx hb dX12_go_317 (by decide) (fun c_3377 => ?_) (fun c_3377 => ?_)
                      · skip
                        have hY := hY.trans (if_pos c_3377)
                        have o_3378 : rl 0 3 x_3374 := rl_le c_3377
                        have h_3379 : rg 3 939 x_3374 := rl_y o_3378 (⟨by decide, by decide⟩ : rg 3 3 (3 : Int32)) h_3375 (by decide) (by decide)
                        refine lv_aload_n hx hb dX12_go_337 rfl (lv_at hl 2 rfl) ?_
                        refine lv_dup hx hb dX12_go_338 rfl ?_
                        refine va_get (D := D) (ci := 11) (v := .int y215_2) (C := RX12) (T := TX12) (N := 48) hx hb hts k2 hown hK.1 hP 0 rfl rfl 5 (by decide) k3 (fun _ h9 => h9) rfl dX12_go_339 ?_
                        refine lv_iconst (v := 1) hx hb dX12_go_342 (by decide) ?_
                        refine lv_iadd hx hb dX12_go_343 ?_
                        refine lv_topi (fun x_3380 ex_3380 => ?_)
                        have hY := hY.trans (lt1_e ex_3380)
                        have h_3381 : rg 2 940 x_3380 := by rw [ex_3380]; exact rg_add h_3150 (⟨by decide, by decide⟩ : rg 1 1 (1 : Int32)) (by decide) (by decide) (by decide) (by decide)
                        have l_3382 : lq x_3380.toInt (y215_2.toInt + 1) := lqm (by rw [ex_3380]; have q := tadd h_3150 (⟨by decide, by decide⟩ : rg 1 1 (1 : Int32)) (by decide) (by decide); have r1 := lqe (lqm (by decide) : lq (1 : Int32).toInt 1); omega)
                        refine va_put (D := D) (ci := 11) (v := .int x_3380) (ty := .int) (C := RX12) (T := TX12) (N := 48) hx hb hts k2 tyX12 tyX12_ok nmX12 hown hK.1 hP hD hS 0 rfl rfl 5 (by decide) k3 (fun _ h9 => h9) rfl (by decide +kernel) rfl rfl (Nat.le_of_ble_eq_true rfl) dX12_go_344 (fun H locs hP hD hS => ?_)
                        have hP : va_P D vwCl [(h0, .inr (11, [.int h0_thrown, .ref h0_tape, .int h0_taped, .int h0_size, .int h0_limit, .int x_3380, .int y215_3, .int h0_kind, .int y215_4, .int h0_sign, .int h0_fault, .int h0_place, .long x_3373, .int h0_told, .ref h0_now, .ref h0_read, .ref h0_kept, .ref h0_snaps, .ref h0_aside, .ref h0_name, .ref h0_readName, .ref h0_keptName, .ref h0_isKept, .ref h0_onces, .int h0_snapMany, .int h0_lowest, .int h0_highest, .int h0_agreed, .int h0_jurors, .int h0_panelled, .ref h0_inSets, .int h0_surely, .int h0_asked, .ref h0_frees, .int h0_struck, .int h0_beating, .ref h0_text, .int h0_texts, .int h0_seed, .ref h0_line, .ref h0_written, .int h0_lineMany, .int h0_hasWritten, .ref h0_node, .int h0_nodes, .int h0_onesMany, .int h0_within, .int h0_top])), (aI ca h0_tape 940 F_h0_tape)] H := hP
                        have hD : va_D A [(h0, .inr (11, [.int h0_thrown, .ref h0_tape, .int h0_taped, .int h0_size, .int h0_limit, .int x_3380, .int y215_3, .int h0_kind, .int y215_4, .int h0_sign, .int h0_fault, .int h0_place, .long x_3373, .int h0_told, .ref h0_now, .ref h0_read, .ref h0_kept, .ref h0_snaps, .ref h0_aside, .ref h0_name, .ref h0_readName, .ref h0_keptName, .ref h0_isKept, .ref h0_onces, .int h0_snapMany, .int h0_lowest, .int h0_highest, .int h0_agreed, .int h0_jurors, .int h0_panelled, .ref h0_inSets, .int h0_surely, .int h0_asked, .ref h0_frees, .int h0_struck, .int h0_beating, .ref h0_text, .int h0_texts, .int h0_seed, .ref h0_line, .ref h0_written, .int h0_lineMany, .int h0_hasWritten, .ref h0_node, .int h0_nodes, .int h0_onesMany, .int h0_within, .int h0_top])), (aI ca h0_tape 940 F_h0_tape)] := hD
                        refine lv_goto (tgt := 215) hx hb dX12_go_347 (by decide) ?_
                        exact ih215 y215_0 1 x_3380 y215_3 y215_4 x_3373 trivial (rgw (lo := 0) (hi := 1) h_3344 (by decide) (by decide)) (⟨by decide, by decide⟩ : rg 0 1 (1 : Int32)) (rgw (lo := 1) (hi := 940) h_3381 (by decide) (by decide)) (rlm (by have q0 := lqe l_3382; have q1 := rle py215_2_h0_to; omega)) hy215_3 (rlm (by have q0 := rle py215_3_h0_to; omega)) t215_h0_limit (rgw (lo := 1) (hi := 940) h_3151 (by decide) (by decide)) (by have q0 := lqe l_3382; omega) hY H locs ls (oPsub hP [0, 1] rfl) (hD.sub [0, 1] (by decide) rfl) hS (lv_sub hl [2, 3, 0] rfl)
                      · skip
                        have hY := hY.trans (if_neg c_3377)
                        have o_3383 : rl 1 x_3374 3 := rl_nle c_3377
                        have h_3384 : rg (-939) 2 x_3374 := rl_x o_3383 h_3375 (⟨by decide, by decide⟩ : rg 3 3 (3 : Int32)) (by decide) (by decide)
                        refine lv_aload_n hx hb dX12_go_320 rfl (lv_at hl 2 rfl) ?_
                        refine lv_bipush (v := 10) hx hb dX12_go_321 (by decide) ?_
                        refine lv_aload_n hx hb dX12_go_323 rfl (lv_at hl 2 rfl) ?_
                        refine va_get (D := D) (ci := 11) (v := .int y215_4) (C := RX12) (T := TX12) (N := 48) hx hb hts k2 hown hK.1 hP 0 rfl rfl 8 (by decide) k6 (fun _ h9 => h9) rfl dX12_go_324 ?_
                        refine lv_imul hx hb dX12_go_327 ?_
                        refine lv_topi (fun x_3385 ex_3385 => ?_)
                        have hY := hY.trans (lt1_e ex_3385)
                        refine lv_iload hx hb dX12_go_328 (lv_at hl 1 rfl) ?_
                        refine lv_iadd hx hb dX12_go_330 ?_
                        refine lv_topi (fun x_3386 ex_3386 => ?_)
                        have hY := hY.trans (lt1_e ex_3386)
                        refine lv_bipush (v := 48) hx hb dX12_go_331 (by decide) ?_
                        refine lv_isub hx hb dX12_go_333 ?_
                        refine lv_topi (fun x_3387 ex_3387 => ?_)
                        have hY := hY.trans (lt1_e ex_3387)
                        refine va_put (D := D) (ci := 11) (v := .int x_3387) (ty := .int) (C := RX12) (T := TX12) (N := 48) hx hb hts k2 tyX12 tyX12_ok nmX12 hown hK.1 hP hD hS 0 rfl rfl 8 (by decide) k6 (fun _ h9 => h9) rfl (by decide +kernel) rfl rfl (Nat.le_of_ble_eq_true rfl) dX12_go_334 (fun H locs hP hD hS => ?_)
                        have hP : va_P D vwCl [(h0, .inr (11, [.int h0_thrown, .ref h0_tape, .int h0_taped, .int h0_size, .int h0_limit, .int y215_2, .int y215_3, .int h0_kind, .int x_3387, .int h0_sign, .int h0_fault, .int h0_place, .long x_3373, .int h0_told, .ref h0_now, .ref h0_read, .ref h0_kept, .ref h0_snaps, .ref h0_aside, .ref h0_name, .ref h0_readName, .ref h0_keptName, .ref h0_isKept, .ref h0_onces, .int h0_snapMany, .int h0_lowest, .int h0_highest, .int h0_agreed, .int h0_jurors, .int h0_panelled, .ref h0_inSets, .int h0_surely, .int h0_asked, .ref h0_frees, .int h0_struck, .int h0_beating, .ref h0_text, .int h0_texts, .int h0_seed, .ref h0_line, .ref h0_written, .int h0_lineMany, .int h0_hasWritten, .ref h0_node, .int h0_nodes, .int h0_onesMany, .int h0_within, .int h0_top])), (aI ca h0_tape 940 F_h0_tape)] H := hP
                        have hD : va_D A [(h0, .inr (11, [.int h0_thrown, .ref h0_tape, .int h0_taped, .int h0_size, .int h0_limit, .int y215_2, .int y215_3, .int h0_kind, .int x_3387, .int h0_sign, .int h0_fault, .int h0_place, .long x_3373, .int h0_told, .ref h0_now, .ref h0_read, .ref h0_kept, .ref h0_snaps, .ref h0_aside, .ref h0_name, .ref h0_readName, .ref h0_keptName, .ref h0_isKept, .ref h0_onces, .int h0_snapMany, .int h0_lowest, .int h0_highest, .int h0_agreed, .int h0_jurors, .int h0_panelled, .ref h0_inSets, .int h0_surely, .int h0_asked, .ref h0_frees, .int h0_struck, .int h0_beating, .ref h0_text, .int h0_texts, .int h0_seed, .ref h0_line, .ref h0_written, .int h0_lineMany, .int h0_hasWritten, .ref h0_node, .int h0_nodes, .int h0_onesMany, .int h0_within, .int h0_top])), (aI ca h0_tape 940 F_h0_tape)] := hD
                        refine lv_aload_n hx hb dX12_go_337 rfl (lv_at hl 2 rfl) ?_
                        refine lv_dup hx hb dX12_go_338 rfl ?_
                        refine va_get (D := D) (ci := 11) (v := .int y215_2) (C := RX12) (T := TX12) (N := 48) hx hb hts k2 hown hK.1 hP 0 rfl rfl 5 (by decide) k3 (fun _ h9 => h9) rfl dX12_go_339 ?_
                        refine lv_iconst (v := 1) hx hb dX12_go_342 (by decide) ?_
                        refine lv_iadd hx hb dX12_go_343 ?_
                        refine lv_topi (fun x_3388 ex_3388 => ?_)
                        have hY := hY.trans (lt1_e ex_3388)
                        have h_3389 : rg 2 940 x_3388 := by rw [ex_3388]; exact rg_add h_3150 (⟨by decide, by decide⟩ : rg 1 1 (1 : Int32)) (by decide) (by decide) (by decide) (by decide)
                        have l_3390 : lq x_3388.toInt (y215_2.toInt + 1) := lqm (by rw [ex_3388]; have q := tadd h_3150 (⟨by decide, by decide⟩ : rg 1 1 (1 : Int32)) (by decide) (by decide); have r1 := lqe (lqm (by decide) : lq (1 : Int32).toInt 1); omega)
                        refine va_put (D := D) (ci := 11) (v := .int x_3388) (ty := .int) (C := RX12) (T := TX12) (N := 48) hx hb hts k2 tyX12 tyX12_ok nmX12 hown hK.1 hP hD hS 0 rfl rfl 5 (by decide) k3 (fun _ h9 => h9) rfl (by decide +kernel) rfl rfl (Nat.le_of_ble_eq_true rfl) dX12_go_344 (fun H locs hP hD hS => ?_)
                        have hP : va_P D vwCl [(h0, .inr (11, [.int h0_thrown, .ref h0_tape, .int h0_taped, .int h0_size, .int h0_limit, .int x_3388, .int y215_3, .int h0_kind, .int x_3387, .int h0_sign, .int h0_fault, .int h0_place, .long x_3373, .int h0_told, .ref h0_now, .ref h0_read, .ref h0_kept, .ref h0_snaps, .ref h0_aside, .ref h0_name, .ref h0_readName, .ref h0_keptName, .ref h0_isKept, .ref h0_onces, .int h0_snapMany, .int h0_lowest, .int h0_highest, .int h0_agreed, .int h0_jurors, .int h0_panelled, .ref h0_inSets, .int h0_surely, .int h0_asked, .ref h0_frees, .int h0_struck, .int h0_beating, .ref h0_text, .int h0_texts, .int h0_seed, .ref h0_line, .ref h0_written, .int h0_lineMany, .int h0_hasWritten, .ref h0_node, .int h0_nodes, .int h0_onesMany, .int h0_within, .int h0_top])), (aI ca h0_tape 940 F_h0_tape)] H := hP
                        have hD : va_D A [(h0, .inr (11, [.int h0_thrown, .ref h0_tape, .int h0_taped, .int h0_size, .int h0_limit, .int x_3388, .int y215_3, .int h0_kind, .int x_3387, .int h0_sign, .int h0_fault, .int h0_place, .long x_3373, .int h0_told, .ref h0_now, .ref h0_read, .ref h0_kept, .ref h0_snaps, .ref h0_aside, .ref h0_name, .ref h0_readName, .ref h0_keptName, .ref h0_isKept, .ref h0_onces, .int h0_snapMany, .int h0_lowest, .int h0_highest, .int h0_agreed, .int h0_jurors, .int h0_panelled, .ref h0_inSets, .int h0_surely, .int h0_asked, .ref h0_frees, .int h0_struck, .int h0_beating, .ref h0_text, .int h0_texts, .int h0_seed, .ref h0_line, .ref h0_written, .int h0_lineMany, .int h0_hasWritten, .ref h0_node, .int h0_nodes, .int h0_onesMany, .int h0_within, .int h0_top])), (aI ca h0_tape 940 F_h0_tape)] := hD
                        refine lv_goto (tgt := 215) hx hb dX12_go_347 (by decide) ?_
                        exact ih215 y215_0 1 x_3388 y215_3 x_3387 x_3373 trivial (rgw (lo := 0) (hi := 1) h_3344 (by decide) (by decide)) (⟨by decide, by decide⟩ : rg 0 1 (1 : Int32)) (rgw (lo := 1) (hi := 940) h_3389 (by decide) (by decide)) (rlm (by have q0 := lqe l_3390; have q1 := rle py215_2_h0_to; omega)) hy215_3 (rlm (by have q0 := rle py215_3_h0_to; omega)) t215_h0_limit (rgw (lo := 1) (hi := 940) h_3151 (by decide) (by decide)) (by have q0 := lqe l_3390; omega) hY H locs ls (oPsub hP [0, 1] rfl) (hD.sub [0, 1] (by decide) rfl) hS (lv_sub hl [2, 3, 0] rfl)
                · skip
                  subst h_3284
                  exact (rg_no h_3285 h_3195 (by decide)).elim
                · skip
                  subst h_3289
                  exact (rg_no h_3290 h_3195 (by decide)).elim
        · skip
          subst h_3158
          have h_3391 : rg 123 255 r_3078 := rg_i h_3159 h_3085 (by decide) (by decide)
          have hY := hY.trans (lt1_e h_3162)
          have hY := hY.trans (if_neg h_3160)
          have hY := hY.trans (if_pos h_3161)
          refine lv_if_ne (tgt := 243) hx hb dX12_go_226 (by decide) (fun c => absurd (by decide) c) (fun _ => ?_)
          refine lv_aload_n hx hb dX12_go_229 rfl (lv_at hl 0 rfl) ?_
          refine lv_aload_n hx hb dX12_go_230 rfl (lv_at hl 0 rfl) ?_
          refine va_get (D := D) (ci := 11) (v := .int y215_2) (C := RX12) (T := TX12) (N := 48) hx hb hts k2 hown hK.1 hP 0 rfl rfl 5 (by decide) k3 (fun _ h9 => h9) rfl dX12_go_231 ?_
          refine oC_i (Wc := [(h0, .inr (11, [.int h0_thrown, .ref h0_tape, .int h0_taped, .int h0_size, .int h0_limit, .int y215_2, .int y215_3, .int h0_kind, .int y215_4, .int h0_sign, .int h0_fault, .int h0_place, .long y215_5, .int h0_told, .ref h0_now, .ref h0_read, .ref h0_kept, .ref h0_snaps, .ref h0_aside, .ref h0_name, .ref h0_readName, .ref h0_keptName, .ref h0_isKept, .ref h0_onces, .int h0_snapMany, .int h0_lowest, .int h0_highest, .int h0_agreed, .int h0_jurors, .int h0_panelled, .ref h0_inSets, .int h0_surely, .int h0_asked, .ref h0_frees, .int h0_struck, .int h0_beating, .ref h0_text, .int h0_texts, .int h0_seed, .ref h0_line, .ref h0_written, .int h0_lineMany, .int h0_hasWritten, .ref h0_node, .int h0_nodes, .int h0_onesMany, .int h0_within, .int h0_top])), (aI ca h0_tape 940 F_h0_tape)]) (Wr := []) (va_runV (As := [.int y215_2]) (rest := []) ⟨hx, hb, hml, hown, hts⟩ (e_X12_tapeAt l D ca H.size h0 y215_2 h0_thrown h0_tape h0_taped h0_size h0_limit y215_2 y215_3 h0_kind y215_4 h0_sign h0_fault h0_place y215_5 h0_told h0_now h0_read h0_kept h0_snaps h0_aside h0_name h0_readName h0_keptName h0_isKept h0_onces h0_snapMany h0_lowest h0_highest h0_agreed h0_jurors h0_panelled h0_inSets h0_surely h0_asked h0_frees h0_struck h0_beating h0_text h0_texts h0_seed h0_line h0_written h0_lineMany h0_hasWritten h0_node h0_nodes h0_onesMany h0_within h0_top F_h0_tape (rgw (lo := 0) (hi := 940) h_3150 (by decide) (by decide)) i_h0_taped (rgw (lo := 0) (hi := 940) h_3151 (by decide) (by decide)) (rgw (lo := 0) (hi := 940) h_3150 (by decide) (by decide)) i_h0_kind i_h0_snapMany i_h0_texts i_h0_lineMany i_h0_hasWritten i_h0_nodes i_h0_onesMany (sg_w (a' := 0) (b' := 940) (lo' := 0) (hi' := 255) s_h0_tape_0 (by decide) (by decide) (by decide) (by decide))) (cwV 1 hts gX12_go_X12_tapeAt rfl rfl rfl (by decide +kernel) ⟨Nat.le_of_ble_eq_true rfl, Nat.le_of_ble_eq_true rfl⟩) (oPV (C := RX12) hK hP hD [0, 1] rfl (by decide) 0 rfl (ci := 11) rfl rfl) rfl rfl hl.1 rfl (lv_room (Nat.le_of_ble_eq_true rfl)) dX12_go_234 ⟨Nat.le_of_ble_eq_true rfl, Nat.le_of_ble_eq_true rfl⟩) hP hD hS hA [0, 1] [] rfl rfl (by decide) (by decide) (fun r_3392 u H locs w_3393 hP hD hS => ?_)
          obtain ⟨⟩ := u
          have hP : va_P D vwCl [(h0, .inr (11, [.int h0_thrown, .ref h0_tape, .int h0_taped, .int h0_size, .int h0_limit, .int y215_2, .int y215_3, .int h0_kind, .int y215_4, .int h0_sign, .int h0_fault, .int h0_place, .long y215_5, .int h0_told, .ref h0_now, .ref h0_read, .ref h0_kept, .ref h0_snaps, .ref h0_aside, .ref h0_name, .ref h0_readName, .ref h0_keptName, .ref h0_isKept, .ref h0_onces, .int h0_snapMany, .int h0_lowest, .int h0_highest, .int h0_agreed, .int h0_jurors, .int h0_panelled, .ref h0_inSets, .int h0_surely, .int h0_asked, .ref h0_frees, .int h0_struck, .int h0_beating, .ref h0_text, .int h0_texts, .int h0_seed, .ref h0_line, .ref h0_written, .int h0_lineMany, .int h0_hasWritten, .ref h0_node, .int h0_nodes, .int h0_onesMany, .int h0_within, .int h0_top])), (aI ca h0_tape 940 F_h0_tape)] H := hP
          have hD : va_D A [(h0, .inr (11, [.int h0_thrown, .ref h0_tape, .int h0_taped, .int h0_size, .int h0_limit, .int y215_2, .int y215_3, .int h0_kind, .int y215_4, .int h0_sign, .int h0_fault, .int h0_place, .long y215_5, .int h0_told, .ref h0_now, .ref h0_read, .ref h0_kept, .ref h0_snaps, .ref h0_aside, .ref h0_name, .ref h0_readName, .ref h0_keptName, .ref h0_isKept, .ref h0_onces, .int h0_snapMany, .int h0_lowest, .int h0_highest, .int h0_agreed, .int h0_jurors, .int h0_panelled, .ref h0_inSets, .int h0_surely, .int h0_asked, .ref h0_frees, .int h0_struck, .int h0_beating, .ref h0_text, .int h0_texts, .int h0_seed, .ref h0_line, .ref h0_written, .int h0_lineMany, .int h0_hasWritten, .ref h0_node, .int h0_nodes, .int h0_onesMany, .int h0_within, .int h0_top])), (aI ca h0_tape 940 F_h0_tape)] := hD
          try dsimp only at w_3393
          rcases w_3393 with ⟨h_3394, h_3395, h_3396, h_3397⟩ | ⟨h_3398, h_3399, h_3400, h_3401, h_3402, h_3403, h_3404⟩
          · skip
            subst h_3394
            exact False.elim (by have z0 := rle h_3395; have q0 := rle h_3088; omega)
          · skip
            have h_3405 := (h_3398.trans h_3084.symm).symm
            subst h_3405
            have hY := hY.trans (lt1_e h_3404)
            have hY := hY.trans (if_neg h_3403)
            refine oC_i (Wc := []) (Wr := [(h0, .inr (11, [.int h0_thrown, .ref h0_tape, .int h0_taped, .int h0_size, .int h0_limit, .int y215_2, .int y215_3, .int h0_kind, .int y215_4, .int h0_sign, .int h0_fault, .int h0_place, .long y215_5, .int h0_told, .ref h0_now, .ref h0_read, .ref h0_kept, .ref h0_snaps, .ref h0_aside, .ref h0_name, .ref h0_readName, .ref h0_keptName, .ref h0_isKept, .ref h0_onces, .int h0_snapMany, .int h0_lowest, .int h0_highest, .int h0_agreed, .int h0_jurors, .int h0_panelled, .ref h0_inSets, .int h0_surely, .int h0_asked, .ref h0_frees, .int h0_struck, .int h0_beating, .ref h0_text, .int h0_texts, .int h0_seed, .ref h0_line, .ref h0_written, .int h0_lineMany, .int h0_hasWritten, .ref h0_node, .int h0_nodes, .int h0_onesMany, .int h0_within, .int h0_top])), (aI ca h0_tape 940 F_h0_tape)]) (va_runS (As := [.int r_3078]) (rest := []) ⟨hx, hb, hml, hown, hts⟩ (e_X12_isDigit l D ca H.size r_3078) (va_cwS 1 hts gX12_go_X12_isDigit rfl rfl rfl (by decide +kernel) ⟨Nat.le_of_ble_eq_true rfl, Nat.le_of_ble_eq_true rfl⟩) (oPS hK hP hD [] rfl (by decide)) rfl rfl hl.1 rfl (lv_room (Nat.le_of_ble_eq_true rfl)) dX12_go_237 ⟨Nat.le_of_ble_eq_true rfl, Nat.le_of_ble_eq_true rfl⟩) hP hD hS hA [] [0, 1] rfl rfl (by decide) (by decide) (fun r_3406 u H locs w_3407 hP hD hS => ?_)
            obtain ⟨⟩ := u
            have hP : va_P D vwCl [(h0, .inr (11, [.int h0_thrown, .ref h0_tape, .int h0_taped, .int h0_size, .int h0_limit, .int y215_2, .int y215_3, .int h0_kind, .int y215_4, .int h0_sign, .int h0_fault, .int h0_place, .long y215_5, .int h0_told, .ref h0_now, .ref h0_read, .ref h0_kept, .ref h0_snaps, .ref h0_aside, .ref h0_name, .ref h0_readName, .ref h0_keptName, .ref h0_isKept, .ref h0_onces, .int h0_snapMany, .int h0_lowest, .int h0_highest, .int h0_agreed, .int h0_jurors, .int h0_panelled, .ref h0_inSets, .int h0_surely, .int h0_asked, .ref h0_frees, .int h0_struck, .int h0_beating, .ref h0_text, .int h0_texts, .int h0_seed, .ref h0_line, .ref h0_written, .int h0_lineMany, .int h0_hasWritten, .ref h0_node, .int h0_nodes, .int h0_onesMany, .int h0_within, .int h0_top])), (aI ca h0_tape 940 F_h0_tape)] H := hP
            have hD : va_D A [(h0, .inr (11, [.int h0_thrown, .ref h0_tape, .int h0_taped, .int h0_size, .int h0_limit, .int y215_2, .int y215_3, .int h0_kind, .int y215_4, .int h0_sign, .int h0_fault, .int h0_place, .long y215_5, .int h0_told, .ref h0_now, .ref h0_read, .ref h0_kept, .ref h0_snaps, .ref h0_aside, .ref h0_name, .ref h0_readName, .ref h0_keptName, .ref h0_isKept, .ref h0_onces, .int h0_snapMany, .int h0_lowest, .int h0_highest, .int h0_agreed, .int h0_jurors, .int h0_panelled, .ref h0_inSets, .int h0_surely, .int h0_asked, .ref h0_frees, .int h0_struck, .int h0_beating, .ref h0_text, .int h0_texts, .int h0_seed, .ref h0_line, .ref h0_written, .int h0_lineMany, .int h0_hasWritten, .ref h0_node, .int h0_nodes, .int h0_onesMany, .int h0_within, .int h0_top])), (aI ca h0_tape 940 F_h0_tape)] := hD
            try dsimp only at w_3407
            rcases w_3407 with ⟨h_3408, h_3409, h_3410, h_3411⟩ | ⟨h_3412, h_3413, h_3414, h_3415, h_3416⟩ | ⟨h_3417, h_3418, h_3419, h_3420, h_3421⟩
            · skip
              subst h_3408
              exact (rg_no h_3409 h_3391 (by decide)).elim
            · skip
              subst h_3412
              have hY := hY.trans (lt1_e h_3416)
              have hY := hY.trans (if_neg h_3414)
              have hY := hY.trans (if_pos h_3415)
              refine lv_if_eq (tgt := 350) hx hb dX12_go_240 (by decide) (fun _ => ?_) (fun c => absurd (by decide) c)
              refine lv_aload_n hx hb dX12_go_350 rfl (lv_at hl 0 rfl) ?_
              refine lv_iload_n hx hb dX12_go_351 rfl (lv_at hl 2 rfl) ?_
              refine lv_if_eq (tgt := 377) hx hb dX12_go_352 (by decide) (fun c_3422 => ?_) (fun c_3422 => ?_)
              · skip
                have hY := hY.trans (if_pos c_3422)
                have o_3423 : rl 0 y215_1 0 := rl_eq c_3422
                have h_3424 : rg 0 0 y215_1 := rl_x o_3423 hy215_1 (⟨by decide, by decide⟩ : rg 0 0 (0 : Int32)) (by decide) (by decide)
                have o_3425 : rl 0 0 y215_1 := rl_eq c_3422.symm
                exact J377_2544 y215_2 y215_3 y215_4 y215_5 (rgw (lo := 1) (hi := 940) h_3150 (by decide) (by decide)) (rlm (by have q0 := rle py215_2_h0_to; omega)) hy215_3 (rlm (by have q0 := rle py215_3_h0_to; omega)) t215_h0_limit (rgw (lo := 1) (hi := 940) h_3151 (by decide) (by decide)) hY H locs ls (oPsub hP [0, 1] rfl) (hD.sub [0, 1] (by decide) rfl) hS (lv_sub hl [] rfl)
              · skip
                have hY := hY.trans (if_neg c_3422)
                have h_3426 : rg 1 1 y215_1 := cl_nlo c_3422 hy215_1 (show (0 : Int32).toInt = 0 by decide) (by decide) (by decide)
                refine lv_aload_n hx hb dX12_go_355 rfl (lv_at hl 0 rfl) ?_
                refine va_get (D := D) (ci := 11) (v := .int y215_2) (C := RX12) (T := TX12) (N := 48) hx hb hts k2 hown hK.1 hP 0 rfl rfl 5 (by decide) k3 (fun _ h9 => h9) rfl dX12_go_356 ?_
                refine lv_aload_n hx hb dX12_go_359 rfl (lv_at hl 0 rfl) ?_
                refine va_get (D := D) (ci := 11) (v := .int y215_3) (C := RX12) (T := TX12) (N := 48) hx hb hts k2 hown hK.1 hP 0 rfl rfl 6 (by decide) k4 (fun _ h9 => h9) rfl dX12_go_360 ?_
                refine lv_isub hx hb dX12_go_363 ?_
                refine lv_topi (fun x_3427 ex_3427 => ?_)
                have hY := hY.trans (lt1_e ex_3427)
                have h_3428 : rg (-939) 939 x_3427 := by rw [ex_3427]; exact rg_sub h_3150 hy215_3 (by decide) (by decide) (by decide) (by decide)
                have l_3429 : lq x_3427.toInt (y215_2.toInt + (-1) * y215_3.toInt) := lqm (by rw [ex_3427]; have q := tsub h_3150 hy215_3 (by decide) (by decide); omega)
                refine lv_iload_n hx hb dX12_go_364 rfl (lv_at hl 1 rfl) ?_
                refine lv_if_eq (tgt := 373) hx hb dX12_go_365 (by decide) (fun c_3430 => ?_) (fun c_3430 => ?_)
                · skip
                  have hY := hY.trans (if_pos c_3430)
                  have o_3431 : rl 0 y215_0 0 := rl_eq c_3430
                  have h_3432 : rg 0 0 y215_0 := rl_x o_3431 hy215_0 (⟨by decide, by decide⟩ : rg 0 0 (0 : Int32)) (by decide) (by decide)
                  have o_3433 : rl 0 0 y215_0 := rl_eq c_3430.symm
                  refine lv_iconst (v := 3) hx hb dX12_go_373 (by decide) ?_
                  exact J374_2545 y215_0 3 x_3427 y215_2 y215_3 y215_4 y215_5 (rgw (lo := 0) (hi := 1) h_3432 (by decide) (by decide)) (⟨by decide, by decide⟩ : rg 3 7 (3 : Int32)) (rgw (lo := (-939)) (hi := 940) h_3428 (by decide) (by decide)) (rgw (lo := 1) (hi := 940) h_3150 (by decide) (by decide)) (rlm (by have q0 := rle py215_2_h0_to; omega)) hy215_3 (rlm (by have q0 := rle py215_3_h0_to; omega)) t215_h0_limit (rgw (lo := 1) (hi := 940) h_3151 (by decide) (by decide)) hY H locs ls (oPsub hP [0, 1] rfl) (hD.sub [0, 1] (by decide) rfl) hS (lv_sub hl [1] rfl)
                · skip
                  have hY := hY.trans (if_neg c_3430)
                  have h_3434 : rg 1 1 y215_0 := cl_nlo c_3430 hy215_0 (show (0 : Int32).toInt = 0 by decide) (by decide) (by decide)
                  refine lv_bipush (v := 7) hx hb dX12_go_368 (by decide) ?_
                  refine lv_goto (tgt := 374) hx hb dX12_go_370 (by decide) ?_
                  exact J374_2545 y215_0 7 x_3427 y215_2 y215_3 y215_4 y215_5 (rgw (lo := 0) (hi := 1) h_3434 (by decide) (by decide)) (⟨by decide, by decide⟩ : rg 3 7 (7 : Int32)) (rgw (lo := (-939)) (hi := 940) h_3428 (by decide) (by decide)) (rgw (lo := 1) (hi := 940) h_3150 (by decide) (by decide)) (rlm (by have q0 := rle py215_2_h0_to; omega)) hy215_3 (rlm (by have q0 := rle py215_3_h0_to; omega)) t215_h0_limit (rgw (lo := 1) (hi := 940) h_3151 (by decide) (by decide)) hY H locs ls (oPsub hP [0, 1] rfl) (hD.sub [0, 1] (by decide) rfl) hS (lv_sub hl [1] rfl)
            · skip
              subst h_3417
              exact (rg_no h_3418 h_3391 (by decide)).elim
        · skip
          subst h_3163
          have hY := hY.trans (lt1_e h_3167)
          have hY := hY.trans (if_neg h_3165)
          have hY := hY.trans (if_neg h_3166)
          refine lv_if_ne (tgt := 243) hx hb dX12_go_226 (by decide) (fun _ => ?_) (fun c => absurd c (by decide))
          refine lv_aload_n hx hb dX12_go_243 rfl (lv_at hl 0 rfl) ?_
          refine va_get (D := D) (ci := 11) (v := .ref h0_tape) (C := RX12) (T := TX12) (N := 48) hx hb hts k2 hown hK.1 hP 0 rfl rfl 1 (by decide) k5 (fun _ h9 => h9) rfl dX12_go_244 ?_
          refine lv_aload_n hx hb dX12_go_247 rfl (lv_at hl 0 rfl) ?_
          refine va_get (D := D) (ci := 11) (v := .int y215_2) (C := RX12) (T := TX12) (N := 48) hx hb hts k2 hown hK.1 hP 0 rfl rfl 5 (by decide) k3 (fun _ h9 => h9) rfl dX12_go_248 ?_
          refine va_iald hx hb hK.1 hP 1 0 rfl rfl (rg_in h_3150 (by decide) (by decide)) dX12_go_251 ?_
          refine oti r_3078 h_3084.symm ?_
          refine lv_istore (lv' := [(4, .int r_3078), (0, .ref h0), (2, .int y215_0), (3, .int y215_1)]) hx hb dX12_go_252 hl (by decide) rfl (fun ls hl => ?_)
          refine lv_iload_n hx hb dX12_go_254 rfl (lv_at hl 3 rfl) ?_
          refine lv_if_eq (tgt := 271) hx hb dX12_go_255 (by decide) (fun c_3435 => ?_) (fun c_3435 => ?_)
          · skip
            have hY := hY.trans (if_pos c_3435)
            have o_3436 : rl 0 y215_1 0 := rl_eq c_3435
            have h_3437 : rg 0 0 y215_1 := rl_x o_3436 hy215_1 (⟨by decide, by decide⟩ : rg 0 0 (0 : Int32)) (by decide) (by decide)
            have o_3438 : rl 0 0 y215_1 := rl_eq c_3435.symm
            refine lv_iconst (v := 0) hx hb dX12_go_271 (by decide) ?_
            refine lv_istore_n (lv' := [(3, .int 0), (4, .int r_3078), (0, .ref h0), (2, .int y215_0)]) hx hb dX12_go_272 rfl hl (by decide) rfl (fun ls hl => ?_)
            refine lv_aload_n hx hb dX12_go_273 rfl (lv_at hl 2 rfl) ?_
            refine va_get (D := D) (ci := 11) (v := .int y215_2) (C := RX12) (T := TX12) (N := 48) hx hb hts k2 hown hK.1 hP 0 rfl rfl 5 (by decide) k3 (fun _ h9 => h9) rfl dX12_go_274 ?_
            refine lv_aload_n hx hb dX12_go_277 rfl (lv_at hl 2 rfl) ?_
            refine va_get (D := D) (ci := 11) (v := .int y215_3) (C := RX12) (T := TX12) (N := 48) hx hb hts k2 hown hK.1 hP 0 rfl rfl 6 (by decide) k4 (fun _ h9 => h9) rfl dX12_go_278 ?_
            refine lv_isub hx hb dX12_go_281 ?_
            refine lv_topi (fun x_3439 ex_3439 => ?_)
            have hY := hY.trans (lt1_e ex_3439)
            have h_3440 : rg (-939) 939 x_3439 := by rw [ex_3439]; exact rg_sub h_3150 hy215_3 (by decide) (by decide) (by decide) (by decide)
            have l_3441 : lq x_3439.toInt (y215_2.toInt + (-1) * y215_3.toInt) := lqm (by rw [ex_3439]; have q := tsub h_3150 hy215_3 (by decide) (by decide); omega)
            refine lv_bipush (v := 7) hx hb dX12_go_282 (by decide) ?_
            refine lv_icmp_ge (tgt := 307) hx hb dX12_go_284 (by decide) (fun c_3442 => ?_) (fun c_3442 => ?_)
            · skip
              have hY := hY.trans (if_pos c_3442)
              have o_3443 : rl 0 7 x_3439 := rl_le c_3442
              have h_3444 : rg 7 939 x_3439 := rl_y o_3443 (⟨by decide, by decide⟩ : rg 7 7 (7 : Int32)) h_3440 (by decide) (by decide)
              refine lv_aload_n hx hb dX12_go_307 rfl (lv_at hl 2 rfl) ?_
              refine va_get (D := D) (ci := 11) (v := .int y215_2) (C := RX12) (T := TX12) (N := 48) hx hb hts k2 hown hK.1 hP 0 rfl rfl 5 (by decide) k3 (fun _ h9 => h9) rfl dX12_go_308 ?_
              refine lv_aload_n hx hb dX12_go_311 rfl (lv_at hl 2 rfl) ?_
              refine va_get (D := D) (ci := 11) (v := .int y215_3) (C := RX12) (T := TX12) (N := 48) hx hb hts k2 hown hK.1 hP 0 rfl rfl 6 (by decide) k4 (fun _ h9 => h9) rfl dX12_go_312 ?_
              refine lv_isub hx hb dX12_go_315 ?_
              refine lv_topi (fun x_3445 ex_3445 => ?_)
              have hY := hY.trans (lt1_e ex_3445)
              have h_3446 : rg (-939) 939 x_3445 := by rw [ex_3445]; exact rg_sub h_3150 hy215_3 (by decide) (by decide) (by decide) (by decide)
              have l_3447 : lq x_3445.toInt (y215_2.toInt + (-1) * y215_3.toInt) := lqm (by rw [ex_3445]; have q := tsub h_3150 hy215_3 (by decide) (by decide); omega)
              refine lv_iconst (v := 3) hx hb dX12_go_316 (by decide) ?_
              refine lv_icmp_ge (tgt := 337) hx hb dX12_go_317 (by decide) (fun c_3448 => ?_) (fun c_3448 => ?_)
              · skip
                have hY := hY.trans (if_pos c_3448)
                have o_3449 : rl 0 3 x_3445 := rl_le c_3448
                have h_3450 : rg 3 939 x_3445 := rl_y o_3449 (⟨by decide, by decide⟩ : rg 3 3 (3 : Int32)) h_3446 (by decide) (by decide)
                refine lv_aload_n hx hb dX12_go_337 rfl (lv_at hl 2 rfl) ?_
                refine lv_dup hx hb dX12_go_338 rfl ?_
                refine va_get (D := D) (ci := 11) (v := .int y215_2) (C := RX12) (T := TX12) (N := 48) hx hb hts k2 hown hK.1 hP 0 rfl rfl 5 (by decide) k3 (fun _ h9 => h9) rfl dX12_go_339 ?_
                refine lv_iconst (v := 1) hx hb dX12_go_342 (by decide) ?_
                refine lv_iadd hx hb dX12_go_343 ?_
                refine lv_topi (fun x_3451 ex_3451 => ?_)
                have hY := hY.trans (lt1_e ex_3451)
                have h_3452 : rg 2 940 x_3451 := by rw [ex_3451]; exact rg_add h_3150 (⟨by decide, by decide⟩ : rg 1 1 (1 : Int32)) (by decide) (by decide) (by decide) (by decide)
                have l_3453 : lq x_3451.toInt (y215_2.toInt + 1) := lqm (by rw [ex_3451]; have q := tadd h_3150 (⟨by decide, by decide⟩ : rg 1 1 (1 : Int32)) (by decide) (by decide); have r1 := lqe (lqm (by decide) : lq (1 : Int32).toInt 1); omega)
                refine va_put (D := D) (ci := 11) (v := .int x_3451) (ty := .int) (C := RX12) (T := TX12) (N := 48) hx hb hts k2 tyX12 tyX12_ok nmX12 hown hK.1 hP hD hS 0 rfl rfl 5 (by decide) k3 (fun _ h9 => h9) rfl (by decide +kernel) rfl rfl (Nat.le_of_ble_eq_true rfl) dX12_go_344 (fun H locs hP hD hS => ?_)
                have hP : va_P D vwCl [(h0, .inr (11, [.int h0_thrown, .ref h0_tape, .int h0_taped, .int h0_size, .int h0_limit, .int x_3451, .int y215_3, .int h0_kind, .int y215_4, .int h0_sign, .int h0_fault, .int h0_place, .long y215_5, .int h0_told, .ref h0_now, .ref h0_read, .ref h0_kept, .ref h0_snaps, .ref h0_aside, .ref h0_name, .ref h0_readName, .ref h0_keptName, .ref h0_isKept, .ref h0_onces, .int h0_snapMany, .int h0_lowest, .int h0_highest, .int h0_agreed, .int h0_jurors, .int h0_panelled, .ref h0_inSets, .int h0_surely, .int h0_asked, .ref h0_frees, .int h0_struck, .int h0_beating, .ref h0_text, .int h0_texts, .int h0_seed, .ref h0_line, .ref h0_written, .int h0_lineMany, .int h0_hasWritten, .ref h0_node, .int h0_nodes, .int h0_onesMany, .int h0_within, .int h0_top])), (aI ca h0_tape 940 F_h0_tape)] H := hP
                have hD : va_D A [(h0, .inr (11, [.int h0_thrown, .ref h0_tape, .int h0_taped, .int h0_size, .int h0_limit, .int x_3451, .int y215_3, .int h0_kind, .int y215_4, .int h0_sign, .int h0_fault, .int h0_place, .long y215_5, .int h0_told, .ref h0_now, .ref h0_read, .ref h0_kept, .ref h0_snaps, .ref h0_aside, .ref h0_name, .ref h0_readName, .ref h0_keptName, .ref h0_isKept, .ref h0_onces, .int h0_snapMany, .int h0_lowest, .int h0_highest, .int h0_agreed, .int h0_jurors, .int h0_panelled, .ref h0_inSets, .int h0_surely, .int h0_asked, .ref h0_frees, .int h0_struck, .int h0_beating, .ref h0_text, .int h0_texts, .int h0_seed, .ref h0_line, .ref h0_written, .int h0_lineMany, .int h0_hasWritten, .ref h0_node, .int h0_nodes, .int h0_onesMany, .int h0_within, .int h0_top])), (aI ca h0_tape 940 F_h0_tape)] := hD
                refine lv_goto (tgt := 215) hx hb dX12_go_347 (by decide) ?_
                exact ih215 y215_0 0 x_3451 y215_3 y215_4 y215_5 trivial hy215_0 (⟨by decide, by decide⟩ : rg 0 1 (0 : Int32)) (rgw (lo := 1) (hi := 940) h_3452 (by decide) (by decide)) (rlm (by have q0 := lqe l_3453; have q1 := rle py215_2_h0_to; omega)) hy215_3 (rlm (by have q0 := rle py215_3_h0_to; omega)) t215_h0_limit (rgw (lo := 1) (hi := 940) h_3151 (by decide) (by decide)) (by have q0 := lqe l_3453; omega) hY H locs ls (oPsub hP [0, 1] rfl) (hD.sub [0, 1] (by decide) rfl) hS (lv_sub hl [2, 3, 0] rfl)
              · skip
                have hY := hY.trans (if_neg c_3448)
                have o_3454 : rl 1 x_3445 3 := rl_nle c_3448
                have h_3455 : rg (-939) 2 x_3445 := rl_x o_3454 h_3446 (⟨by decide, by decide⟩ : rg 3 3 (3 : Int32)) (by decide) (by decide)
                refine lv_aload_n hx hb dX12_go_320 rfl (lv_at hl 2 rfl) ?_
                refine lv_bipush (v := 10) hx hb dX12_go_321 (by decide) ?_
                refine lv_aload_n hx hb dX12_go_323 rfl (lv_at hl 2 rfl) ?_
                refine va_get (D := D) (ci := 11) (v := .int y215_4) (C := RX12) (T := TX12) (N := 48) hx hb hts k2 hown hK.1 hP 0 rfl rfl 8 (by decide) k6 (fun _ h9 => h9) rfl dX12_go_324 ?_
                refine lv_imul hx hb dX12_go_327 ?_
                refine lv_topi (fun x_3456 ex_3456 => ?_)
                have hY := hY.trans (lt1_e ex_3456)
                refine lv_iload hx hb dX12_go_328 (lv_at hl 1 rfl) ?_
                refine lv_iadd hx hb dX12_go_330 ?_
                refine lv_topi (fun x_3457 ex_3457 => ?_)
                have hY := hY.trans (lt1_e ex_3457)
                refine lv_bipush (v := 48) hx hb dX12_go_331 (by decide) ?_
                refine lv_isub hx hb dX12_go_333 ?_
                refine lv_topi (fun x_3458 ex_3458 => ?_)
                have hY := hY.trans (lt1_e ex_3458)
                refine va_put (D := D) (ci := 11) (v := .int x_3458) (ty := .int) (C := RX12) (T := TX12) (N := 48) hx hb hts k2 tyX12 tyX12_ok nmX12 hown hK.1 hP hD hS 0 rfl rfl 8 (by decide) k6 (fun _ h9 => h9) rfl (by decide +kernel) rfl rfl (Nat.le_of_ble_eq_true rfl) dX12_go_334 (fun H locs hP hD hS => ?_)
                have hP : va_P D vwCl [(h0, .inr (11, [.int h0_thrown, .ref h0_tape, .int h0_taped, .int h0_size, .int h0_limit, .int y215_2, .int y215_3, .int h0_kind, .int x_3458, .int h0_sign, .int h0_fault, .int h0_place, .long y215_5, .int h0_told, .ref h0_now, .ref h0_read, .ref h0_kept, .ref h0_snaps, .ref h0_aside, .ref h0_name, .ref h0_readName, .ref h0_keptName, .ref h0_isKept, .ref h0_onces, .int h0_snapMany, .int h0_lowest, .int h0_highest, .int h0_agreed, .int h0_jurors, .int h0_panelled, .ref h0_inSets, .int h0_surely, .int h0_asked, .ref h0_frees, .int h0_struck, .int h0_beating, .ref h0_text, .int h0_texts, .int h0_seed, .ref h0_line, .ref h0_written, .int h0_lineMany, .int h0_hasWritten, .ref h0_node, .int h0_nodes, .int h0_onesMany, .int h0_within, .int h0_top])), (aI ca h0_tape 940 F_h0_tape)] H := hP
                have hD : va_D A [(h0, .inr (11, [.int h0_thrown, .ref h0_tape, .int h0_taped, .int h0_size, .int h0_limit, .int y215_2, .int y215_3, .int h0_kind, .int x_3458, .int h0_sign, .int h0_fault, .int h0_place, .long y215_5, .int h0_told, .ref h0_now, .ref h0_read, .ref h0_kept, .ref h0_snaps, .ref h0_aside, .ref h0_name, .ref h0_readName, .ref h0_keptName, .ref h0_isKept, .ref h0_onces, .int h0_snapMany, .int h0_lowest, .int h0_highest, .int h0_agreed, .int h0_jurors, .int h0_panelled, .ref h0_inSets, .int h0_surely, .int h0_asked, .ref h0_frees, .int h0_struck, .int h0_beating, .ref h0_text, .int h0_texts, .int h0_seed, .ref h0_line, .ref h0_written, .int h0_lineMany, .int h0_hasWritten, .ref h0_node, .int h0_nodes, .int h0_onesMany, .int h0_within, .int h0_top])), (aI ca h0_tape 940 F_h0_tape)] := hD
                refine lv_aload_n hx hb dX12_go_337 rfl (lv_at hl 2 rfl) ?_
                refine lv_dup hx hb dX12_go_338 rfl ?_
                refine va_get (D := D) (ci := 11) (v := .int y215_2) (C := RX12) (T := TX12) (N := 48) hx hb hts k2 hown hK.1 hP 0 rfl rfl 5 (by decide) k3 (fun _ h9 => h9) rfl dX12_go_339 ?_
                refine lv_iconst (v := 1) hx hb dX12_go_342 (by decide) ?_
                refine lv_iadd hx hb dX12_go_343 ?_
                refine lv_topi (fun x_3459 ex_3459 => ?_)
                have hY := hY.trans (lt1_e ex_3459)
                have h_3460 : rg 2 940 x_3459 := by rw [ex_3459]; exact rg_add h_3150 (⟨by decide, by decide⟩ : rg 1 1 (1 : Int32)) (by decide) (by decide) (by decide) (by decide)
                have l_3461 : lq x_3459.toInt (y215_2.toInt + 1) := lqm (by rw [ex_3459]; have q := tadd h_3150 (⟨by decide, by decide⟩ : rg 1 1 (1 : Int32)) (by decide) (by decide); have r1 := lqe (lqm (by decide) : lq (1 : Int32).toInt 1); omega)
                refine va_put (D := D) (ci := 11) (v := .int x_3459) (ty := .int) (C := RX12) (T := TX12) (N := 48) hx hb hts k2 tyX12 tyX12_ok nmX12 hown hK.1 hP hD hS 0 rfl rfl 5 (by decide) k3 (fun _ h9 => h9) rfl (by decide +kernel) rfl rfl (Nat.le_of_ble_eq_true rfl) dX12_go_344 (fun H locs hP hD hS => ?_)
                have hP : va_P D vwCl [(h0, .inr (11, [.int h0_thrown, .ref h0_tape, .int h0_taped, .int h0_size, .int h0_limit, .int x_3459, .int y215_3, .int h0_kind, .int x_3458, .int h0_sign, .int h0_fault, .int h0_place, .long y215_5, .int h0_told, .ref h0_now, .ref h0_read, .ref h0_kept, .ref h0_snaps, .ref h0_aside, .ref h0_name, .ref h0_readName, .ref h0_keptName, .ref h0_isKept, .ref h0_onces, .int h0_snapMany, .int h0_lowest, .int h0_highest, .int h0_agreed, .int h0_jurors, .int h0_panelled, .ref h0_inSets, .int h0_surely, .int h0_asked, .ref h0_frees, .int h0_struck, .int h0_beating, .ref h0_text, .int h0_texts, .int h0_seed, .ref h0_line, .ref h0_written, .int h0_lineMany, .int h0_hasWritten, .ref h0_node, .int h0_nodes, .int h0_onesMany, .int h0_within, .int h0_top])), (aI ca h0_tape 940 F_h0_tape)] H := hP
                have hD : va_D A [(h0, .inr (11, [.int h0_thrown, .ref h0_tape, .int h0_taped, .int h0_size, .int h0_limit, .int x_3459, .int y215_3, .int h0_kind, .int x_3458, .int h0_sign, .int h0_fault, .int h0_place, .long y215_5, .int h0_told, .ref h0_now, .ref h0_read, .ref h0_kept, .ref h0_snaps, .ref h0_aside, .ref h0_name, .ref h0_readName, .ref h0_keptName, .ref h0_isKept, .ref h0_onces, .int h0_snapMany, .int h0_lowest, .int h0_highest, .int h0_agreed, .int h0_jurors, .int h0_panelled, .ref h0_inSets, .int h0_surely, .int h0_asked, .ref h0_frees, .int h0_struck, .int h0_beating, .ref h0_text, .int h0_texts, .int h0_seed, .ref h0_line, .ref h0_written, .int h0_lineMany, .int h0_hasWritten, .ref h0_node, .int h0_nodes, .int h0_onesMany, .int h0_within, .int h0_top])), (aI ca h0_tape 940 F_h0_tape)] := hD
                refine lv_goto (tgt := 215) hx hb dX12_go_347 (by decide) ?_
                exact ih215 y215_0 0 x_3459 y215_3 x_3458 y215_5 trivial hy215_0 (⟨by decide, by decide⟩ : rg 0 1 (0 : Int32)) (rgw (lo := 1) (hi := 940) h_3460 (by decide) (by decide)) (rlm (by have q0 := lqe l_3461; have q1 := rle py215_2_h0_to; omega)) hy215_3 (rlm (by have q0 := rle py215_3_h0_to; omega)) t215_h0_limit (rgw (lo := 1) (hi := 940) h_3151 (by decide) (by decide)) (by have q0 := lqe l_3461; omega) hY H locs ls (oPsub hP [0, 1] rfl) (hD.sub [0, 1] (by decide) rfl) hS (lv_sub hl [2, 3, 0] rfl)
            · skip
              have hY := hY.trans (if_neg c_3442)
              have o_3462 : rl 1 x_3439 7 := rl_nle c_3442
              have h_3463 : rg (-939) 6 x_3439 := rl_x o_3462 h_3440 (⟨by decide, by decide⟩ : rg 7 7 (7 : Int32)) (by decide) (by decide)
              refine lv_aload_n hx hb dX12_go_287 rfl (lv_at hl 2 rfl) ?_
              refine lv_ldc2 (v := 27) hx hb hown k7 dX12_go_288 ?_
              refine lv_aload_n hx hb dX12_go_291 rfl (lv_at hl 2 rfl) ?_
              refine va_get (D := D) (ci := 11) (v := .long y215_5) (C := RX12) (T := TX12) (N := 48) hx hb hts k2 hown hK.1 hP 0 rfl rfl 12 (by decide) k8 (fun _ h9 => h9) rfl dX12_go_292 ?_
              refine lv_lmul hx hb dX12_go_295 ?_
              refine lv_topl (fun x_3464 ex_3464 => ?_)
              have hY := hY.trans (lt1_e ex_3464)
              refine lv_iload hx hb dX12_go_296 (lv_at hl 1 rfl) ?_
              refine lv_i2l hx hb dX12_go_298 rfl ?_
              refine lv_topl (fun x_3465 ex_3465 => ?_)
              have hY := hY.trans (lt1_e ex_3465)
              refine lv_ladd hx hb dX12_go_299 ?_
              refine lv_topl (fun x_3466 ex_3466 => ?_)
              have hY := hY.trans (lt1_e ex_3466)
              refine lv_ldc2 (v := 96) hx hb hown k9 dX12_go_300 ?_
              refine lv_lsub hx hb dX12_go_303 ?_
              refine lv_topl (fun x_3467 ex_3467 => ?_)
              have hY := hY.trans (lt1_e ex_3467)
              refine va_put (D := D) (ci := 11) (v := .long x_3467) (ty := .long) (C := RX12) (T := TX12) (N := 48) hx hb hts k2 tyX12 tyX12_ok nmX12 hown hK.1 hP hD hS 0 rfl rfl 12 (by decide) k8 (fun _ h9 => h9) rfl (by decide +kernel) rfl rfl (Nat.le_of_ble_eq_true rfl) dX12_go_304 (fun H locs hP hD hS => ?_)
              have hP : va_P D vwCl [(h0, .inr (11, [.int h0_thrown, .ref h0_tape, .int h0_taped, .int h0_size, .int h0_limit, .int y215_2, .int y215_3, .int h0_kind, .int y215_4, .int h0_sign, .int h0_fault, .int h0_place, .long x_3467, .int h0_told, .ref h0_now, .ref h0_read, .ref h0_kept, .ref h0_snaps, .ref h0_aside, .ref h0_name, .ref h0_readName, .ref h0_keptName, .ref h0_isKept, .ref h0_onces, .int h0_snapMany, .int h0_lowest, .int h0_highest, .int h0_agreed, .int h0_jurors, .int h0_panelled, .ref h0_inSets, .int h0_surely, .int h0_asked, .ref h0_frees, .int h0_struck, .int h0_beating, .ref h0_text, .int h0_texts, .int h0_seed, .ref h0_line, .ref h0_written, .int h0_lineMany, .int h0_hasWritten, .ref h0_node, .int h0_nodes, .int h0_onesMany, .int h0_within, .int h0_top])), (aI ca h0_tape 940 F_h0_tape)] H := hP
              have hD : va_D A [(h0, .inr (11, [.int h0_thrown, .ref h0_tape, .int h0_taped, .int h0_size, .int h0_limit, .int y215_2, .int y215_3, .int h0_kind, .int y215_4, .int h0_sign, .int h0_fault, .int h0_place, .long x_3467, .int h0_told, .ref h0_now, .ref h0_read, .ref h0_kept, .ref h0_snaps, .ref h0_aside, .ref h0_name, .ref h0_readName, .ref h0_keptName, .ref h0_isKept, .ref h0_onces, .int h0_snapMany, .int h0_lowest, .int h0_highest, .int h0_agreed, .int h0_jurors, .int h0_panelled, .ref h0_inSets, .int h0_surely, .int h0_asked, .ref h0_frees, .int h0_struck, .int h0_beating, .ref h0_text, .int h0_texts, .int h0_seed, .ref h0_line, .ref h0_written, .int h0_lineMany, .int h0_hasWritten, .ref h0_node, .int h0_nodes, .int h0_onesMany, .int h0_within, .int h0_top])), (aI ca h0_tape 940 F_h0_tape)] := hD
              refine lv_aload_n hx hb dX12_go_307 rfl (lv_at hl 2 rfl) ?_
              refine va_get (D := D) (ci := 11) (v := .int y215_2) (C := RX12) (T := TX12) (N := 48) hx hb hts k2 hown hK.1 hP 0 rfl rfl 5 (by decide) k3 (fun _ h9 => h9) rfl dX12_go_308 ?_
              refine lv_aload_n hx hb dX12_go_311 rfl (lv_at hl 2 rfl) ?_
              refine va_get (D := D) (ci := 11) (v := .int y215_3) (C := RX12) (T := TX12) (N := 48) hx hb hts k2 hown hK.1 hP 0 rfl rfl 6 (by decide) k4 (fun _ h9 => h9) rfl dX12_go_312 ?_
              refine lv_isub hx hb dX12_go_315 ?_
              refine lv_topi (fun x_3468 ex_3468 => ?_)
              have hY := hY.trans (lt1_e ex_3468)
              have h_3469 : rg (-939) 939 x_3468 := by rw [ex_3468]; exact rg_sub h_3150 hy215_3 (by decide) (by decide) (by decide) (by decide)
              have l_3470 : lq x_3468.toInt (y215_2.toInt + (-1) * y215_3.toInt) := lqm (by rw [ex_3468]; have q := tsub h_3150 hy215_3 (by decide) (by decide); omega)
              refine lv_iconst (v := 3) hx hb dX12_go_316 (by decide) ?_
              refine lv_icmp_ge (tgt := 337) hx hb dX12_go_317 (by decide) (fun c_3471 => ?_) (fun c_3471 => ?_)
              · skip
                have hY := hY.trans (if_pos c_3471)
                have o_3472 : rl 0 3 x_3468 := rl_le c_3471
                have h_3473 : rg 3 939 x_3468 := rl_y o_3472 (⟨by decide, by decide⟩ : rg 3 3 (3 : Int32)) h_3469 (by decide) (by decide)
                refine lv_aload_n hx hb dX12_go_337 rfl (lv_at hl 2 rfl) ?_
                refine lv_dup hx hb dX12_go_338 rfl ?_
                refine va_get (D := D) (ci := 11) (v := .int y215_2) (C := RX12) (T := TX12) (N := 48) hx hb hts k2 hown hK.1 hP 0 rfl rfl 5 (by decide) k3 (fun _ h9 => h9) rfl dX12_go_339 ?_
                refine lv_iconst (v := 1) hx hb dX12_go_342 (by decide) ?_
                refine lv_iadd hx hb dX12_go_343 ?_
                refine lv_topi (fun x_3474 ex_3474 => ?_)
                have hY := hY.trans (lt1_e ex_3474)
                have h_3475 : rg 2 940 x_3474 := by rw [ex_3474]; exact rg_add h_3150 (⟨by decide, by decide⟩ : rg 1 1 (1 : Int32)) (by decide) (by decide) (by decide) (by decide)
                have l_3476 : lq x_3474.toInt (y215_2.toInt + 1) := lqm (by rw [ex_3474]; have q := tadd h_3150 (⟨by decide, by decide⟩ : rg 1 1 (1 : Int32)) (by decide) (by decide); have r1 := lqe (lqm (by decide) : lq (1 : Int32).toInt 1); omega)
                refine va_put (D := D) (ci := 11) (v := .int x_3474) (ty := .int) (C := RX12) (T := TX12) (N := 48) hx hb hts k2 tyX12 tyX12_ok nmX12 hown hK.1 hP hD hS 0 rfl rfl 5 (by decide) k3 (fun _ h9 => h9) rfl (by decide +kernel) rfl rfl (Nat.le_of_ble_eq_true rfl) dX12_go_344 (fun H locs hP hD hS => ?_)
                have hP : va_P D vwCl [(h0, .inr (11, [.int h0_thrown, .ref h0_tape, .int h0_taped, .int h0_size, .int h0_limit, .int x_3474, .int y215_3, .int h0_kind, .int y215_4, .int h0_sign, .int h0_fault, .int h0_place, .long x_3467, .int h0_told, .ref h0_now, .ref h0_read, .ref h0_kept, .ref h0_snaps, .ref h0_aside, .ref h0_name, .ref h0_readName, .ref h0_keptName, .ref h0_isKept, .ref h0_onces, .int h0_snapMany, .int h0_lowest, .int h0_highest, .int h0_agreed, .int h0_jurors, .int h0_panelled, .ref h0_inSets, .int h0_surely, .int h0_asked, .ref h0_frees, .int h0_struck, .int h0_beating, .ref h0_text, .int h0_texts, .int h0_seed, .ref h0_line, .ref h0_written, .int h0_lineMany, .int h0_hasWritten, .ref h0_node, .int h0_nodes, .int h0_onesMany, .int h0_within, .int h0_top])), (aI ca h0_tape 940 F_h0_tape)] H := hP
                have hD : va_D A [(h0, .inr (11, [.int h0_thrown, .ref h0_tape, .int h0_taped, .int h0_size, .int h0_limit, .int x_3474, .int y215_3, .int h0_kind, .int y215_4, .int h0_sign, .int h0_fault, .int h0_place, .long x_3467, .int h0_told, .ref h0_now, .ref h0_read, .ref h0_kept, .ref h0_snaps, .ref h0_aside, .ref h0_name, .ref h0_readName, .ref h0_keptName, .ref h0_isKept, .ref h0_onces, .int h0_snapMany, .int h0_lowest, .int h0_highest, .int h0_agreed, .int h0_jurors, .int h0_panelled, .ref h0_inSets, .int h0_surely, .int h0_asked, .ref h0_frees, .int h0_struck, .int h0_beating, .ref h0_text, .int h0_texts, .int h0_seed, .ref h0_line, .ref h0_written, .int h0_lineMany, .int h0_hasWritten, .ref h0_node, .int h0_nodes, .int h0_onesMany, .int h0_within, .int h0_top])), (aI ca h0_tape 940 F_h0_tape)] := hD
                refine lv_goto (tgt := 215) hx hb dX12_go_347 (by decide) ?_
                exact ih215 y215_0 0 x_3474 y215_3 y215_4 x_3467 trivial hy215_0 (⟨by decide, by decide⟩ : rg 0 1 (0 : Int32)) (rgw (lo := 1) (hi := 940) h_3475 (by decide) (by decide)) (rlm (by have q0 := lqe l_3476; have q1 := rle py215_2_h0_to; omega)) hy215_3 (rlm (by have q0 := rle py215_3_h0_to; omega)) t215_h0_limit (rgw (lo := 1) (hi := 940) h_3151 (by decide) (by decide)) (by have q0 := lqe l_3476; omega) hY H locs ls (oPsub hP [0, 1] rfl) (hD.sub [0, 1] (by decide) rfl) hS (lv_sub hl [2, 3, 0] rfl)
              · skip
                have hY := hY.trans (if_neg c_3471)
                have o_3477 : rl 1 x_3468 3 := rl_nle c_3471
                have h_3478 : rg (-939) 2 x_3468 := rl_x o_3477 h_3469 (⟨by decide, by decide⟩ : rg 3 3 (3 : Int32)) (by decide) (by decide)
                refine lv_aload_n hx hb dX12_go_320 rfl (lv_at hl 2 rfl) ?_
                refine lv_bipush (v := 10) hx hb dX12_go_321 (by decide) ?_
                refine lv_aload_n hx hb dX12_go_323 rfl (lv_at hl 2 rfl) ?_
                refine va_get (D := D) (ci := 11) (v := .int y215_4) (C := RX12) (T := TX12) (N := 48) hx hb hts k2 hown hK.1 hP 0 rfl rfl 8 (by decide) k6 (fun _ h9 => h9) rfl dX12_go_324 ?_
                refine lv_imul hx hb dX12_go_327 ?_
                refine lv_topi (fun x_3479 ex_3479 => ?_)
                have hY := hY.trans (lt1_e ex_3479)
                refine lv_iload hx hb dX12_go_328 (lv_at hl 1 rfl) ?_
                refine lv_iadd hx hb dX12_go_330 ?_
                refine lv_topi (fun x_3480 ex_3480 => ?_)
                have hY := hY.trans (lt1_e ex_3480)
                refine lv_bipush (v := 48) hx hb dX12_go_331 (by decide) ?_
                refine lv_isub hx hb dX12_go_333 ?_
                refine lv_topi (fun x_3481 ex_3481 => ?_)
                have hY := hY.trans (lt1_e ex_3481)
                refine va_put (D := D) (ci := 11) (v := .int x_3481) (ty := .int) (C := RX12) (T := TX12) (N := 48) hx hb hts k2 tyX12 tyX12_ok nmX12 hown hK.1 hP hD hS 0 rfl rfl 8 (by decide) k6 (fun _ h9 => h9) rfl (by decide +kernel) rfl rfl (Nat.le_of_ble_eq_true rfl) dX12_go_334 (fun H locs hP hD hS => ?_)
                have hP : va_P D vwCl [(h0, .inr (11, [.int h0_thrown, .ref h0_tape, .int h0_taped, .int h0_size, .int h0_limit, .int y215_2, .int y215_3, .int h0_kind, .int x_3481, .int h0_sign, .int h0_fault, .int h0_place, .long x_3467, .int h0_told, .ref h0_now, .ref h0_read, .ref h0_kept, .ref h0_snaps, .ref h0_aside, .ref h0_name, .ref h0_readName, .ref h0_keptName, .ref h0_isKept, .ref h0_onces, .int h0_snapMany, .int h0_lowest, .int h0_highest, .int h0_agreed, .int h0_jurors, .int h0_panelled, .ref h0_inSets, .int h0_surely, .int h0_asked, .ref h0_frees, .int h0_struck, .int h0_beating, .ref h0_text, .int h0_texts, .int h0_seed, .ref h0_line, .ref h0_written, .int h0_lineMany, .int h0_hasWritten, .ref h0_node, .int h0_nodes, .int h0_onesMany, .int h0_within, .int h0_top])), (aI ca h0_tape 940 F_h0_tape)] H := hP
                have hD : va_D A [(h0, .inr (11, [.int h0_thrown, .ref h0_tape, .int h0_taped, .int h0_size, .int h0_limit, .int y215_2, .int y215_3, .int h0_kind, .int x_3481, .int h0_sign, .int h0_fault, .int h0_place, .long x_3467, .int h0_told, .ref h0_now, .ref h0_read, .ref h0_kept, .ref h0_snaps, .ref h0_aside, .ref h0_name, .ref h0_readName, .ref h0_keptName, .ref h0_isKept, .ref h0_onces, .int h0_snapMany, .int h0_lowest, .int h0_highest, .int h0_agreed, .int h0_jurors, .int h0_panelled, .ref h0_inSets, .int h0_surely, .int h0_asked, .ref h0_frees, .int h0_struck, .int h0_beating, .ref h0_text, .int h0_texts, .int h0_seed, .ref h0_line, .ref h0_written, .int h0_lineMany, .int h0_hasWritten, .ref h0_node, .int h0_nodes, .int h0_onesMany, .int h0_within, .int h0_top])), (aI ca h0_tape 940 F_h0_tape)] := hD
                refine lv_aload_n hx hb dX12_go_337 rfl (lv_at hl 2 rfl) ?_
                refine lv_dup hx hb dX12_go_338 rfl ?_
                refine va_get (D := D) (ci := 11) (v := .int y215_2) (C := RX12) (T := TX12) (N := 48) hx hb hts k2 hown hK.1 hP 0 rfl rfl 5 (by decide) k3 (fun _ h9 => h9) rfl dX12_go_339 ?_
                refine lv_iconst (v := 1) hx hb dX12_go_342 (by decide) ?_
                refine lv_iadd hx hb dX12_go_343 ?_
                refine lv_topi (fun x_3482 ex_3482 => ?_)
                have hY := hY.trans (lt1_e ex_3482)
                have h_3483 : rg 2 940 x_3482 := by rw [ex_3482]; exact rg_add h_3150 (⟨by decide, by decide⟩ : rg 1 1 (1 : Int32)) (by decide) (by decide) (by decide) (by decide)
                have l_3484 : lq x_3482.toInt (y215_2.toInt + 1) := lqm (by rw [ex_3482]; have q := tadd h_3150 (⟨by decide, by decide⟩ : rg 1 1 (1 : Int32)) (by decide) (by decide); have r1 := lqe (lqm (by decide) : lq (1 : Int32).toInt 1); omega)
                refine va_put (D := D) (ci := 11) (v := .int x_3482) (ty := .int) (C := RX12) (T := TX12) (N := 48) hx hb hts k2 tyX12 tyX12_ok nmX12 hown hK.1 hP hD hS 0 rfl rfl 5 (by decide) k3 (fun _ h9 => h9) rfl (by decide +kernel) rfl rfl (Nat.le_of_ble_eq_true rfl) dX12_go_344 (fun H locs hP hD hS => ?_)
                have hP : va_P D vwCl [(h0, .inr (11, [.int h0_thrown, .ref h0_tape, .int h0_taped, .int h0_size, .int h0_limit, .int x_3482, .int y215_3, .int h0_kind, .int x_3481, .int h0_sign, .int h0_fault, .int h0_place, .long x_3467, .int h0_told, .ref h0_now, .ref h0_read, .ref h0_kept, .ref h0_snaps, .ref h0_aside, .ref h0_name, .ref h0_readName, .ref h0_keptName, .ref h0_isKept, .ref h0_onces, .int h0_snapMany, .int h0_lowest, .int h0_highest, .int h0_agreed, .int h0_jurors, .int h0_panelled, .ref h0_inSets, .int h0_surely, .int h0_asked, .ref h0_frees, .int h0_struck, .int h0_beating, .ref h0_text, .int h0_texts, .int h0_seed, .ref h0_line, .ref h0_written, .int h0_lineMany, .int h0_hasWritten, .ref h0_node, .int h0_nodes, .int h0_onesMany, .int h0_within, .int h0_top])), (aI ca h0_tape 940 F_h0_tape)] H := hP
                have hD : va_D A [(h0, .inr (11, [.int h0_thrown, .ref h0_tape, .int h0_taped, .int h0_size, .int h0_limit, .int x_3482, .int y215_3, .int h0_kind, .int x_3481, .int h0_sign, .int h0_fault, .int h0_place, .long x_3467, .int h0_told, .ref h0_now, .ref h0_read, .ref h0_kept, .ref h0_snaps, .ref h0_aside, .ref h0_name, .ref h0_readName, .ref h0_keptName, .ref h0_isKept, .ref h0_onces, .int h0_snapMany, .int h0_lowest, .int h0_highest, .int h0_agreed, .int h0_jurors, .int h0_panelled, .ref h0_inSets, .int h0_surely, .int h0_asked, .ref h0_frees, .int h0_struck, .int h0_beating, .ref h0_text, .int h0_texts, .int h0_seed, .ref h0_line, .ref h0_written, .int h0_lineMany, .int h0_hasWritten, .ref h0_node, .int h0_nodes, .int h0_onesMany, .int h0_within, .int h0_top])), (aI ca h0_tape 940 F_h0_tape)] := hD
                refine lv_goto (tgt := 215) hx hb dX12_go_347 (by decide) ?_
                exact ih215 y215_0 0 x_3482 y215_3 x_3481 x_3467 trivial hy215_0 (⟨by decide, by decide⟩ : rg 0 1 (0 : Int32)) (rgw (lo := 1) (hi := 940) h_3483 (by decide) (by decide)) (rlm (by have q0 := lqe l_3484; have q1 := rle py215_2_h0_to; omega)) hy215_3 (rlm (by have q0 := rle py215_3_h0_to; omega)) t215_h0_limit (rgw (lo := 1) (hi := 940) h_3151 (by decide) (by decide)) (by have q0 := lqe l_3484; omega) hY H locs ls (oPsub hP [0, 1] rfl) (hD.sub [0, 1] (by decide) rfl) hS (lv_sub hl [2, 3, 0] rfl)
          · skip
            have hY := hY.trans (if_neg c_3435)
            have h_3485 : rg 1 1 y215_1 := cl_nlo c_3435 hy215_1 (show (0 : Int32).toInt = 0 by decide) (by decide) (by decide)
            refine lv_iload hx hb dX12_go_258 (lv_at hl 0 rfl) ?_
            refine oC_i (Wc := []) (Wr := [(h0, .inr (11, [.int h0_thrown, .ref h0_tape, .int h0_taped, .int h0_size, .int h0_limit, .int y215_2, .int y215_3, .int h0_kind, .int y215_4, .int h0_sign, .int h0_fault, .int h0_place, .long y215_5, .int h0_told, .ref h0_now, .ref h0_read, .ref h0_kept, .ref h0_snaps, .ref h0_aside, .ref h0_name, .ref h0_readName, .ref h0_keptName, .ref h0_isKept, .ref h0_onces, .int h0_snapMany, .int h0_lowest, .int h0_highest, .int h0_agreed, .int h0_jurors, .int h0_panelled, .ref h0_inSets, .int h0_surely, .int h0_asked, .ref h0_frees, .int h0_struck, .int h0_beating, .ref h0_text, .int h0_texts, .int h0_seed, .ref h0_line, .ref h0_written, .int h0_lineMany, .int h0_hasWritten, .ref h0_node, .int h0_nodes, .int h0_onesMany, .int h0_within, .int h0_top])), (aI ca h0_tape 940 F_h0_tape)]) (va_runS (As := [.int r_3078]) (rest := []) ⟨hx, hb, hml, hown, hts⟩ (e_X12_isLetter l D ca H.size r_3078) (va_cwS 1 hts gX12_go_X12_isLetter rfl rfl rfl (by decide +kernel) ⟨Nat.le_of_ble_eq_true rfl, Nat.le_of_ble_eq_true rfl⟩) (oPS hK hP hD [] rfl (by decide)) rfl rfl hl.1 rfl (lv_room (Nat.le_of_ble_eq_true rfl)) dX12_go_260 ⟨Nat.le_of_ble_eq_true rfl, Nat.le_of_ble_eq_true rfl⟩) hP hD hS hA [] [0, 1] rfl rfl (by decide) (by decide) (fun r_3486 u H locs w_3487 hP hD hS => ?_)
            obtain ⟨⟩ := u
            have hP : va_P D vwCl [(h0, .inr (11, [.int h0_thrown, .ref h0_tape, .int h0_taped, .int h0_size, .int h0_limit, .int y215_2, .int y215_3, .int h0_kind, .int y215_4, .int h0_sign, .int h0_fault, .int h0_place, .long y215_5, .int h0_told, .ref h0_now, .ref h0_read, .ref h0_kept, .ref h0_snaps, .ref h0_aside, .ref h0_name, .ref h0_readName, .ref h0_keptName, .ref h0_isKept, .ref h0_onces, .int h0_snapMany, .int h0_lowest, .int h0_highest, .int h0_agreed, .int h0_jurors, .int h0_panelled, .ref h0_inSets, .int h0_surely, .int h0_asked, .ref h0_frees, .int h0_struck, .int h0_beating, .ref h0_text, .int h0_texts, .int h0_seed, .ref h0_line, .ref h0_written, .int h0_lineMany, .int h0_hasWritten, .ref h0_node, .int h0_nodes, .int h0_onesMany, .int h0_within, .int h0_top])), (aI ca h0_tape 940 F_h0_tape)] H := hP
            have hD : va_D A [(h0, .inr (11, [.int h0_thrown, .ref h0_tape, .int h0_taped, .int h0_size, .int h0_limit, .int y215_2, .int y215_3, .int h0_kind, .int y215_4, .int h0_sign, .int h0_fault, .int h0_place, .long y215_5, .int h0_told, .ref h0_now, .ref h0_read, .ref h0_kept, .ref h0_snaps, .ref h0_aside, .ref h0_name, .ref h0_readName, .ref h0_keptName, .ref h0_isKept, .ref h0_onces, .int h0_snapMany, .int h0_lowest, .int h0_highest, .int h0_agreed, .int h0_jurors, .int h0_panelled, .ref h0_inSets, .int h0_surely, .int h0_asked, .ref h0_frees, .int h0_struck, .int h0_beating, .ref h0_text, .int h0_texts, .int h0_seed, .ref h0_line, .ref h0_written, .int h0_lineMany, .int h0_hasWritten, .ref h0_node, .int h0_nodes, .int h0_onesMany, .int h0_within, .int h0_top])), (aI ca h0_tape 940 F_h0_tape)] := hD
            try dsimp only at w_3487
            rcases w_3487 with ⟨h_3488, h_3489, h_3490, h_3491⟩ | ⟨h_3492, h_3493, h_3494, h_3495, h_3496⟩ | ⟨h_3497, h_3498, h_3499, h_3500, h_3501⟩
            · skip
              subst h_3488
              exact (rg_no h_3489 h_3164 (by decide)).elim
            · skip
              subst h_3492
              exact (rg_no h_3493 h_3164 (by decide)).elim
            · skip
              subst h_3497
              have hY := hY.trans (lt1_e h_3501)
              have hY := hY.trans (if_neg h_3499)
              have hY := hY.trans (if_neg h_3500)
              refine lv_iload_n hx hb dX12_go_263 rfl (lv_at hl 2 rfl) ?_
              refine lv_icmp_ne (tgt := 271) hx hb dX12_go_264 (by decide) (fun c_3502 => ?_) (fun c_3502 => ?_)
              · skip
                have hY := hY.trans (if_neg c_3502)
                have h_3503 : rg 0 0 y215_0 := cl_nhi (fun z => c_3502 z.symm) hy215_0 (show (1 : Int32).toInt = 1 by decide) (by decide) (by decide)
                refine lv_iconst (v := 0) hx hb dX12_go_271 (by decide) ?_
                refine lv_istore_n (lv' := [(3, .int 0), (4, .int r_3078), (0, .ref h0), (2, .int y215_0)]) hx hb dX12_go_272 rfl hl (by decide) rfl (fun ls hl => ?_)
                refine lv_aload_n hx hb dX12_go_273 rfl (lv_at hl 2 rfl) ?_
                refine va_get (D := D) (ci := 11) (v := .int y215_2) (C := RX12) (T := TX12) (N := 48) hx hb hts k2 hown hK.1 hP 0 rfl rfl 5 (by decide) k3 (fun _ h9 => h9) rfl dX12_go_274 ?_
                refine lv_aload_n hx hb dX12_go_277 rfl (lv_at hl 2 rfl) ?_
                refine va_get (D := D) (ci := 11) (v := .int y215_3) (C := RX12) (T := TX12) (N := 48) hx hb hts k2 hown hK.1 hP 0 rfl rfl 6 (by decide) k4 (fun _ h9 => h9) rfl dX12_go_278 ?_
                refine lv_isub hx hb dX12_go_281 ?_
                refine lv_topi (fun x_3504 ex_3504 => ?_)
                have hY := hY.trans (lt1_e ex_3504)
                have h_3505 : rg (-939) 939 x_3504 := by rw [ex_3504]; exact rg_sub h_3150 hy215_3 (by decide) (by decide) (by decide) (by decide)
                have l_3506 : lq x_3504.toInt (y215_2.toInt + (-1) * y215_3.toInt) := lqm (by rw [ex_3504]; have q := tsub h_3150 hy215_3 (by decide) (by decide); omega)
                refine lv_bipush (v := 7) hx hb dX12_go_282 (by decide) ?_
                refine lv_icmp_ge (tgt := 307) hx hb dX12_go_284 (by decide) (fun c_3507 => ?_) (fun c_3507 => ?_)
                · skip
                  have hY := hY.trans (if_pos c_3507)
                  have o_3508 : rl 0 7 x_3504 := rl_le c_3507
                  have h_3509 : rg 7 939 x_3504 := rl_y o_3508 (⟨by decide, by decide⟩ : rg 7 7 (7 : Int32)) h_3505 (by decide) (by decide)
                  refine lv_aload_n hx hb dX12_go_307 rfl (lv_at hl 2 rfl) ?_
                  refine va_get (D := D) (ci := 11) (v := .int y215_2) (C := RX12) (T := TX12) (N := 48) hx hb hts k2 hown hK.1 hP 0 rfl rfl 5 (by decide) k3 (fun _ h9 => h9) rfl dX12_go_308 ?_
                  refine lv_aload_n hx hb dX12_go_311 rfl (lv_at hl 2 rfl) ?_
                  refine va_get (D := D) (ci := 11) (v := .int y215_3) (C := RX12) (T := TX12) (N := 48) hx hb hts k2 hown hK.1 hP 0 rfl rfl 6 (by decide) k4 (fun _ h9 => h9) rfl dX12_go_312 ?_
                  refine lv_isub hx hb dX12_go_315 ?_
                  refine lv_topi (fun x_3510 ex_3510 => ?_)
                  have hY := hY.trans (lt1_e ex_3510)
                  have h_3511 : rg (-939) 939 x_3510 := by rw [ex_3510]; exact rg_sub h_3150 hy215_3 (by decide) (by decide) (by decide) (by decide)
                  have l_3512 : lq x_3510.toInt (y215_2.toInt + (-1) * y215_3.toInt) := lqm (by rw [ex_3510]; have q := tsub h_3150 hy215_3 (by decide) (by decide); omega)
                  refine lv_iconst (v := 3) hx hb dX12_go_316 (by decide) ?_
                  refine lv_icmp_ge (tgt := 337) hx hb dX12_go_317 (by decide) (fun c_3513 => ?_) (fun c_3513 => ?_)
                  · skip
                    have hY := hY.trans (if_pos c_3513)
                    have o_3514 : rl 0 3 x_3510 := rl_le c_3513
                    have h_3515 : rg 3 939 x_3510 := rl_y o_3514 (⟨by decide, by decide⟩ : rg 3 3 (3 : Int32)) h_3511 (by decide) (by decide)
                    refine lv_aload_n hx hb dX12_go_337 rfl (lv_at hl 2 rfl) ?_
                    refine lv_dup hx hb dX12_go_338 rfl ?_
                    refine va_get (D := D) (ci := 11) (v := .int y215_2) (C := RX12) (T := TX12) (N := 48) hx hb hts k2 hown hK.1 hP 0 rfl rfl 5 (by decide) k3 (fun _ h9 => h9) rfl dX12_go_339 ?_
                    refine lv_iconst (v := 1) hx hb dX12_go_342 (by decide) ?_
                    refine lv_iadd hx hb dX12_go_343 ?_
                    refine lv_topi (fun x_3516 ex_3516 => ?_)
                    have hY := hY.trans (lt1_e ex_3516)
                    have h_3517 : rg 2 940 x_3516 := by rw [ex_3516]; exact rg_add h_3150 (⟨by decide, by decide⟩ : rg 1 1 (1 : Int32)) (by decide) (by decide) (by decide) (by decide)
                    have l_3518 : lq x_3516.toInt (y215_2.toInt + 1) := lqm (by rw [ex_3516]; have q := tadd h_3150 (⟨by decide, by decide⟩ : rg 1 1 (1 : Int32)) (by decide) (by decide); have r1 := lqe (lqm (by decide) : lq (1 : Int32).toInt 1); omega)
                    refine va_put (D := D) (ci := 11) (v := .int x_3516) (ty := .int) (C := RX12) (T := TX12) (N := 48) hx hb hts k2 tyX12 tyX12_ok nmX12 hown hK.1 hP hD hS 0 rfl rfl 5 (by decide) k3 (fun _ h9 => h9) rfl (by decide +kernel) rfl rfl (Nat.le_of_ble_eq_true rfl) dX12_go_344 (fun H locs hP hD hS => ?_)
                    have hP : va_P D vwCl [(h0, .inr (11, [.int h0_thrown, .ref h0_tape, .int h0_taped, .int h0_size, .int h0_limit, .int x_3516, .int y215_3, .int h0_kind, .int y215_4, .int h0_sign, .int h0_fault, .int h0_place, .long y215_5, .int h0_told, .ref h0_now, .ref h0_read, .ref h0_kept, .ref h0_snaps, .ref h0_aside, .ref h0_name, .ref h0_readName, .ref h0_keptName, .ref h0_isKept, .ref h0_onces, .int h0_snapMany, .int h0_lowest, .int h0_highest, .int h0_agreed, .int h0_jurors, .int h0_panelled, .ref h0_inSets, .int h0_surely, .int h0_asked, .ref h0_frees, .int h0_struck, .int h0_beating, .ref h0_text, .int h0_texts, .int h0_seed, .ref h0_line, .ref h0_written, .int h0_lineMany, .int h0_hasWritten, .ref h0_node, .int h0_nodes, .int h0_onesMany, .int h0_within, .int h0_top])), (aI ca h0_tape 940 F_h0_tape)] H := hP
                    have hD : va_D A [(h0, .inr (11, [.int h0_thrown, .ref h0_tape, .int h0_taped, .int h0_size, .int h0_limit, .int x_3516, .int y215_3, .int h0_kind, .int y215_4, .int h0_sign, .int h0_fault, .int h0_place, .long y215_5, .int h0_told, .ref h0_now, .ref h0_read, .ref h0_kept, .ref h0_snaps, .ref h0_aside, .ref h0_name, .ref h0_readName, .ref h0_keptName, .ref h0_isKept, .ref h0_onces, .int h0_snapMany, .int h0_lowest, .int h0_highest, .int h0_agreed, .int h0_jurors, .int h0_panelled, .ref h0_inSets, .int h0_surely, .int h0_asked, .ref h0_frees, .int h0_struck, .int h0_beating, .ref h0_text, .int h0_texts, .int h0_seed, .ref h0_line, .ref h0_written, .int h0_lineMany, .int h0_hasWritten, .ref h0_node, .int h0_nodes, .int h0_onesMany, .int h0_within, .int h0_top])), (aI ca h0_tape 940 F_h0_tape)] := hD
                    refine lv_goto (tgt := 215) hx hb dX12_go_347 (by decide) ?_
                    exact ih215 y215_0 0 x_3516 y215_3 y215_4 y215_5 trivial (rgw (lo := 0) (hi := 1) h_3503 (by decide) (by decide)) (⟨by decide, by decide⟩ : rg 0 1 (0 : Int32)) (rgw (lo := 1) (hi := 940) h_3517 (by decide) (by decide)) (rlm (by have q0 := lqe l_3518; have q1 := rle py215_2_h0_to; omega)) hy215_3 (rlm (by have q0 := rle py215_3_h0_to; omega)) t215_h0_limit (rgw (lo := 1) (hi := 940) h_3151 (by decide) (by decide)) (by have q0 := lqe l_3518; omega) hY H locs ls (oPsub hP [0, 1] rfl) (hD.sub [0, 1] (by decide) rfl) hS (lv_sub hl [2, 3, 0] rfl)
                  · skip
                    have hY := hY.trans (if_neg c_3513)
                    have o_3519 : rl 1 x_3510 3 := rl_nle c_3513
                    have h_3520 : rg (-939) 2 x_3510 := rl_x o_3519 h_3511 (⟨by decide, by decide⟩ : rg 3 3 (3 : Int32)) (by decide) (by decide)
                    refine lv_aload_n hx hb dX12_go_320 rfl (lv_at hl 2 rfl) ?_
                    refine lv_bipush (v := 10) hx hb dX12_go_321 (by decide) ?_
                    refine lv_aload_n hx hb dX12_go_323 rfl (lv_at hl 2 rfl) ?_
                    refine va_get (D := D) (ci := 11) (v := .int y215_4) (C := RX12) (T := TX12) (N := 48) hx hb hts k2 hown hK.1 hP 0 rfl rfl 8 (by decide) k6 (fun _ h9 => h9) rfl dX12_go_324 ?_
                    refine lv_imul hx hb dX12_go_327 ?_
                    refine lv_topi (fun x_3521 ex_3521 => ?_)
                    have hY := hY.trans (lt1_e ex_3521)
                    refine lv_iload hx hb dX12_go_328 (lv_at hl 1 rfl) ?_
                    refine lv_iadd hx hb dX12_go_330 ?_
                    refine lv_topi (fun x_3522 ex_3522 => ?_)
                    have hY := hY.trans (lt1_e ex_3522)
                    refine lv_bipush (v := 48) hx hb dX12_go_331 (by decide) ?_
                    refine lv_isub hx hb dX12_go_333 ?_
                    refine lv_topi (fun x_3523 ex_3523 => ?_)
                    have hY := hY.trans (lt1_e ex_3523)
                    refine va_put (D := D) (ci := 11) (v := .int x_3523) (ty := .int) (C := RX12) (T := TX12) (N := 48) hx hb hts k2 tyX12 tyX12_ok nmX12 hown hK.1 hP hD hS 0 rfl rfl 8 (by decide) k6 (fun _ h9 => h9) rfl (by decide +kernel) rfl rfl (Nat.le_of_ble_eq_true rfl) dX12_go_334 (fun H locs hP hD hS => ?_)
                    have hP : va_P D vwCl [(h0, .inr (11, [.int h0_thrown, .ref h0_tape, .int h0_taped, .int h0_size, .int h0_limit, .int y215_2, .int y215_3, .int h0_kind, .int x_3523, .int h0_sign, .int h0_fault, .int h0_place, .long y215_5, .int h0_told, .ref h0_now, .ref h0_read, .ref h0_kept, .ref h0_snaps, .ref h0_aside, .ref h0_name, .ref h0_readName, .ref h0_keptName, .ref h0_isKept, .ref h0_onces, .int h0_snapMany, .int h0_lowest, .int h0_highest, .int h0_agreed, .int h0_jurors, .int h0_panelled, .ref h0_inSets, .int h0_surely, .int h0_asked, .ref h0_frees, .int h0_struck, .int h0_beating, .ref h0_text, .int h0_texts, .int h0_seed, .ref h0_line, .ref h0_written, .int h0_lineMany, .int h0_hasWritten, .ref h0_node, .int h0_nodes, .int h0_onesMany, .int h0_within, .int h0_top])), (aI ca h0_tape 940 F_h0_tape)] H := hP
                    have hD : va_D A [(h0, .inr (11, [.int h0_thrown, .ref h0_tape, .int h0_taped, .int h0_size, .int h0_limit, .int y215_2, .int y215_3, .int h0_kind, .int x_3523, .int h0_sign, .int h0_fault, .int h0_place, .long y215_5, .int h0_told, .ref h0_now, .ref h0_read, .ref h0_kept, .ref h0_snaps, .ref h0_aside, .ref h0_name, .ref h0_readName, .ref h0_keptName, .ref h0_isKept, .ref h0_onces, .int h0_snapMany, .int h0_lowest, .int h0_highest, .int h0_agreed, .int h0_jurors, .int h0_panelled, .ref h0_inSets, .int h0_surely, .int h0_asked, .ref h0_frees, .int h0_struck, .int h0_beating, .ref h0_text, .int h0_texts, .int h0_seed, .ref h0_line, .ref h0_written, .int h0_lineMany, .int h0_hasWritten, .ref h0_node, .int h0_nodes, .int h0_onesMany, .int h0_within, .int h0_top])), (aI ca h0_tape 940 F_h0_tape)] := hD
                    refine lv_aload_n hx hb dX12_go_337 rfl (lv_at hl 2 rfl) ?_
                    refine lv_dup hx hb dX12_go_338 rfl ?_
                    refine va_get (D := D) (ci := 11) (v := .int y215_2) (C := RX12) (T := TX12) (N := 48) hx hb hts k2 hown hK.1 hP 0 rfl rfl 5 (by decide) k3 (fun _ h9 => h9) rfl dX12_go_339 ?_
                    refine lv_iconst (v := 1) hx hb dX12_go_342 (by decide) ?_
                    refine lv_iadd hx hb dX12_go_343 ?_
                    refine lv_topi (fun x_3524 ex_3524 => ?_)
                    have hY := hY.trans (lt1_e ex_3524)
                    have h_3525 : rg 2 940 x_3524 := by rw [ex_3524]; exact rg_add h_3150 (⟨by decide, by decide⟩ : rg 1 1 (1 : Int32)) (by decide) (by decide) (by decide) (by decide)
                    have l_3526 : lq x_3524.toInt (y215_2.toInt + 1) := lqm (by rw [ex_3524]; have q := tadd h_3150 (⟨by decide, by decide⟩ : rg 1 1 (1 : Int32)) (by decide) (by decide); have r1 := lqe (lqm (by decide) : lq (1 : Int32).toInt 1); omega)
                    refine va_put (D := D) (ci := 11) (v := .int x_3524) (ty := .int) (C := RX12) (T := TX12) (N := 48) hx hb hts k2 tyX12 tyX12_ok nmX12 hown hK.1 hP hD hS 0 rfl rfl 5 (by decide) k3 (fun _ h9 => h9) rfl (by decide +kernel) rfl rfl (Nat.le_of_ble_eq_true rfl) dX12_go_344 (fun H locs hP hD hS => ?_)
                    have hP : va_P D vwCl [(h0, .inr (11, [.int h0_thrown, .ref h0_tape, .int h0_taped, .int h0_size, .int h0_limit, .int x_3524, .int y215_3, .int h0_kind, .int x_3523, .int h0_sign, .int h0_fault, .int h0_place, .long y215_5, .int h0_told, .ref h0_now, .ref h0_read, .ref h0_kept, .ref h0_snaps, .ref h0_aside, .ref h0_name, .ref h0_readName, .ref h0_keptName, .ref h0_isKept, .ref h0_onces, .int h0_snapMany, .int h0_lowest, .int h0_highest, .int h0_agreed, .int h0_jurors, .int h0_panelled, .ref h0_inSets, .int h0_surely, .int h0_asked, .ref h0_frees, .int h0_struck, .int h0_beating, .ref h0_text, .int h0_texts, .int h0_seed, .ref h0_line, .ref h0_written, .int h0_lineMany, .int h0_hasWritten, .ref h0_node, .int h0_nodes, .int h0_onesMany, .int h0_within, .int h0_top])), (aI ca h0_tape 940 F_h0_tape)] H := hP
                    have hD : va_D A [(h0, .inr (11, [.int h0_thrown, .ref h0_tape, .int h0_taped, .int h0_size, .int h0_limit, .int x_3524, .int y215_3, .int h0_kind, .int x_3523, .int h0_sign, .int h0_fault, .int h0_place, .long y215_5, .int h0_told, .ref h0_now, .ref h0_read, .ref h0_kept, .ref h0_snaps, .ref h0_aside, .ref h0_name, .ref h0_readName, .ref h0_keptName, .ref h0_isKept, .ref h0_onces, .int h0_snapMany, .int h0_lowest, .int h0_highest, .int h0_agreed, .int h0_jurors, .int h0_panelled, .ref h0_inSets, .int h0_surely, .int h0_asked, .ref h0_frees, .int h0_struck, .int h0_beating, .ref h0_text, .int h0_texts, .int h0_seed, .ref h0_line, .ref h0_written, .int h0_lineMany, .int h0_hasWritten, .ref h0_node, .int h0_nodes, .int h0_onesMany, .int h0_within, .int h0_top])), (aI ca h0_tape 940 F_h0_tape)] := hD
                    refine lv_goto (tgt := 215) hx hb dX12_go_347 (by decide) ?_
                    exact ih215 y215_0 0 x_3524 y215_3 x_3523 y215_5 trivial (rgw (lo := 0) (hi := 1) h_3503 (by decide) (by decide)) (⟨by decide, by decide⟩ : rg 0 1 (0 : Int32)) (rgw (lo := 1) (hi := 940) h_3525 (by decide) (by decide)) (rlm (by have q0 := lqe l_3526; have q1 := rle py215_2_h0_to; omega)) hy215_3 (rlm (by have q0 := rle py215_3_h0_to; omega)) t215_h0_limit (rgw (lo := 1) (hi := 940) h_3151 (by decide) (by decide)) (by have q0 := lqe l_3526; omega) hY H locs ls (oPsub hP [0, 1] rfl) (hD.sub [0, 1] (by decide) rfl) hS (lv_sub hl [2, 3, 0] rfl)
                · skip
                  have hY := hY.trans (if_neg c_3507)
                  have o_3527 : rl 1 x_3504 7 := rl_nle c_3507
                  have h_3528 : rg (-939) 6 x_3504 := rl_x o_3527 h_3505 (⟨by decide, by decide⟩ : rg 7 7 (7 : Int32)) (by decide) (by decide)
                  refine lv_aload_n hx hb dX12_go_287 rfl (lv_at hl 2 rfl) ?_
                  refine lv_ldc2 (v := 27) hx hb hown k7 dX12_go_288 ?_
                  refine lv_aload_n hx hb dX12_go_291 rfl (lv_at hl 2 rfl) ?_
                  refine va_get (D := D) (ci := 11) (v := .long y215_5) (C := RX12) (T := TX12) (N := 48) hx hb hts k2 hown hK.1 hP 0 rfl rfl 12 (by decide) k8 (fun _ h9 => h9) rfl dX12_go_292 ?_
                  refine lv_lmul hx hb dX12_go_295 ?_
                  refine lv_topl (fun x_3529 ex_3529 => ?_)
                  have hY := hY.trans (lt1_e ex_3529)
                  refine lv_iload hx hb dX12_go_296 (lv_at hl 1 rfl) ?_
                  refine lv_i2l hx hb dX12_go_298 rfl ?_
                  refine lv_topl (fun x_3530 ex_3530 => ?_)
                  have hY := hY.trans (lt1_e ex_3530)
                  refine lv_ladd hx hb dX12_go_299 ?_
                  refine lv_topl (fun x_3531 ex_3531 => ?_)
                  have hY := hY.trans (lt1_e ex_3531)
                  refine lv_ldc2 (v := 96) hx hb hown k9 dX12_go_300 ?_
                  refine lv_lsub hx hb dX12_go_303 ?_
                  refine lv_topl (fun x_3532 ex_3532 => ?_)
                  have hY := hY.trans (lt1_e ex_3532)
                  refine va_put (D := D) (ci := 11) (v := .long x_3532) (ty := .long) (C := RX12) (T := TX12) (N := 48) hx hb hts k2 tyX12 tyX12_ok nmX12 hown hK.1 hP hD hS 0 rfl rfl 12 (by decide) k8 (fun _ h9 => h9) rfl (by decide +kernel) rfl rfl (Nat.le_of_ble_eq_true rfl) dX12_go_304 (fun H locs hP hD hS => ?_)
                  have hP : va_P D vwCl [(h0, .inr (11, [.int h0_thrown, .ref h0_tape, .int h0_taped, .int h0_size, .int h0_limit, .int y215_2, .int y215_3, .int h0_kind, .int y215_4, .int h0_sign, .int h0_fault, .int h0_place, .long x_3532, .int h0_told, .ref h0_now, .ref h0_read, .ref h0_kept, .ref h0_snaps, .ref h0_aside, .ref h0_name, .ref h0_readName, .ref h0_keptName, .ref h0_isKept, .ref h0_onces, .int h0_snapMany, .int h0_lowest, .int h0_highest, .int h0_agreed, .int h0_jurors, .int h0_panelled, .ref h0_inSets, .int h0_surely, .int h0_asked, .ref h0_frees, .int h0_struck, .int h0_beating, .ref h0_text, .int h0_texts, .int h0_seed, .ref h0_line, .ref h0_written, .int h0_lineMany, .int h0_hasWritten, .ref h0_node, .int h0_nodes, .int h0_onesMany, .int h0_within, .int h0_top])), (aI ca h0_tape 940 F_h0_tape)] H := hP
                  have hD : va_D A [(h0, .inr (11, [.int h0_thrown, .ref h0_tape, .int h0_taped, .int h0_size, .int h0_limit, .int y215_2, .int y215_3, .int h0_kind, .int y215_4, .int h0_sign, .int h0_fault, .int h0_place, .long x_3532, .int h0_told, .ref h0_now, .ref h0_read, .ref h0_kept, .ref h0_snaps, .ref h0_aside, .ref h0_name, .ref h0_readName, .ref h0_keptName, .ref h0_isKept, .ref h0_onces, .int h0_snapMany, .int h0_lowest, .int h0_highest, .int h0_agreed, .int h0_jurors, .int h0_panelled, .ref h0_inSets, .int h0_surely, .int h0_asked, .ref h0_frees, .int h0_struck, .int h0_beating, .ref h0_text, .int h0_texts, .int h0_seed, .ref h0_line, .ref h0_written, .int h0_lineMany, .int h0_hasWritten, .ref h0_node, .int h0_nodes, .int h0_onesMany, .int h0_within, .int h0_top])), (aI ca h0_tape 940 F_h0_tape)] := hD
                  refine lv_aload_n hx hb dX12_go_307 rfl (lv_at hl 2 rfl) ?_
                  refine va_get (D := D) (ci := 11) (v := .int y215_2) (C := RX12) (T := TX12) (N := 48) hx hb hts k2 hown hK.1 hP 0 rfl rfl 5 (by decide) k3 (fun _ h9 => h9) rfl dX12_go_308 ?_
                  refine lv_aload_n hx hb dX12_go_311 rfl (lv_at hl 2 rfl) ?_
                  refine va_get (D := D) (ci := 11) (v := .int y215_3) (C := RX12) (T := TX12) (N := 48) hx hb hts k2 hown hK.1 hP 0 rfl rfl 6 (by decide) k4 (fun _ h9 => h9) rfl dX12_go_312 ?_
                  refine lv_isub hx hb dX12_go_315 ?_
                  refine lv_topi (fun x_3533 ex_3533 => ?_)
                  have hY := hY.trans (lt1_e ex_3533)
                  have h_3534 : rg (-939) 939 x_3533 := by rw [ex_3533]; exact rg_sub h_3150 hy215_3 (by decide) (by decide) (by decide) (by decide)
                  have l_3535 : lq x_3533.toInt (y215_2.toInt + (-1) * y215_3.toInt) := lqm (by rw [ex_3533]; have q := tsub h_3150 hy215_3 (by decide) (by decide); omega)
                  refine lv_iconst (v := 3) hx hb dX12_go_316 (by decide) ?_
                  refine lv_icmp_ge (tgt := 337) hx hb dX12_go_317 (by decide) (fun c_3536 => ?_) (fun c_3536 => ?_)
                  · skip
                    have hY := hY.trans (if_pos c_3536)
                    have o_3537 : rl 0 3 x_3533 := rl_le c_3536
                    have h_3538 : rg 3 939 x_3533 := rl_y o_3537 (⟨by decide, by decide⟩ : rg 3 3 (3 : Int32)) h_3534 (by decide) (by decide)
                    refine lv_aload_n hx hb dX12_go_337 rfl (lv_at hl 2 rfl) ?_
                    refine lv_dup hx hb dX12_go_338 rfl ?_
                    refine va_get (D := D) (ci := 11) (v := .int y215_2) (C := RX12) (T := TX12) (N := 48) hx hb hts k2 hown hK.1 hP 0 rfl rfl 5 (by decide) k3 (fun _ h9 => h9) rfl dX12_go_339 ?_
                    refine lv_iconst (v := 1) hx hb dX12_go_342 (by decide) ?_
                    refine lv_iadd hx hb dX12_go_343 ?_
                    refine lv_topi (fun x_3539 ex_3539 => ?_)
                    have hY := hY.trans (lt1_e ex_3539)
                    have h_3540 : rg 2 940 x_3539 := by rw [ex_3539]; exact rg_add h_3150 (⟨by decide, by decide⟩ : rg 1 1 (1 : Int32)) (by decide) (by decide) (by decide) (by decide)
                    have l_3541 : lq x_3539.toInt (y215_2.toInt + 1) := lqm (by rw [ex_3539]; have q := tadd h_3150 (⟨by decide, by decide⟩ : rg 1 1 (1 : Int32)) (by decide) (by decide); have r1 := lqe (lqm (by decide) : lq (1 : Int32).toInt 1); omega)
                    refine va_put (D := D) (ci := 11) (v := .int x_3539) (ty := .int) (C := RX12) (T := TX12) (N := 48) hx hb hts k2 tyX12 tyX12_ok nmX12 hown hK.1 hP hD hS 0 rfl rfl 5 (by decide) k3 (fun _ h9 => h9) rfl (by decide +kernel) rfl rfl (Nat.le_of_ble_eq_true rfl) dX12_go_344 (fun H locs hP hD hS => ?_)
                    have hP : va_P D vwCl [(h0, .inr (11, [.int h0_thrown, .ref h0_tape, .int h0_taped, .int h0_size, .int h0_limit, .int x_3539, .int y215_3, .int h0_kind, .int y215_4, .int h0_sign, .int h0_fault, .int h0_place, .long x_3532, .int h0_told, .ref h0_now, .ref h0_read, .ref h0_kept, .ref h0_snaps, .ref h0_aside, .ref h0_name, .ref h0_readName, .ref h0_keptName, .ref h0_isKept, .ref h0_onces, .int h0_snapMany, .int h0_lowest, .int h0_highest, .int h0_agreed, .int h0_jurors, .int h0_panelled, .ref h0_inSets, .int h0_surely, .int h0_asked, .ref h0_frees, .int h0_struck, .int h0_beating, .ref h0_text, .int h0_texts, .int h0_seed, .ref h0_line, .ref h0_written, .int h0_lineMany, .int h0_hasWritten, .ref h0_node, .int h0_nodes, .int h0_onesMany, .int h0_within, .int h0_top])), (aI ca h0_tape 940 F_h0_tape)] H := hP
                    have hD : va_D A [(h0, .inr (11, [.int h0_thrown, .ref h0_tape, .int h0_taped, .int h0_size, .int h0_limit, .int x_3539, .int y215_3, .int h0_kind, .int y215_4, .int h0_sign, .int h0_fault, .int h0_place, .long x_3532, .int h0_told, .ref h0_now, .ref h0_read, .ref h0_kept, .ref h0_snaps, .ref h0_aside, .ref h0_name, .ref h0_readName, .ref h0_keptName, .ref h0_isKept, .ref h0_onces, .int h0_snapMany, .int h0_lowest, .int h0_highest, .int h0_agreed, .int h0_jurors, .int h0_panelled, .ref h0_inSets, .int h0_surely, .int h0_asked, .ref h0_frees, .int h0_struck, .int h0_beating, .ref h0_text, .int h0_texts, .int h0_seed, .ref h0_line, .ref h0_written, .int h0_lineMany, .int h0_hasWritten, .ref h0_node, .int h0_nodes, .int h0_onesMany, .int h0_within, .int h0_top])), (aI ca h0_tape 940 F_h0_tape)] := hD
                    refine lv_goto (tgt := 215) hx hb dX12_go_347 (by decide) ?_
                    exact ih215 y215_0 0 x_3539 y215_3 y215_4 x_3532 trivial (rgw (lo := 0) (hi := 1) h_3503 (by decide) (by decide)) (⟨by decide, by decide⟩ : rg 0 1 (0 : Int32)) (rgw (lo := 1) (hi := 940) h_3540 (by decide) (by decide)) (rlm (by have q0 := lqe l_3541; have q1 := rle py215_2_h0_to; omega)) hy215_3 (rlm (by have q0 := rle py215_3_h0_to; omega)) t215_h0_limit (rgw (lo := 1) (hi := 940) h_3151 (by decide) (by decide)) (by have q0 := lqe l_3541; omega) hY H locs ls (oPsub hP [0, 1] rfl) (hD.sub [0, 1] (by decide) rfl) hS (lv_sub hl [2, 3, 0] rfl)
                  · skip
                    have hY := hY.trans (if_neg c_3536)
                    have o_3542 : rl 1 x_3533 3 := rl_nle c_3536
                    have h_3543 : rg (-939) 2 x_3533 := rl_x o_3542 h_3534 (⟨by decide, by decide⟩ : rg 3 3 (3 : Int32)) (by decide) (by decide)
                    refine lv_aload_n hx hb dX12_go_320 rfl (lv_at hl 2 rfl) ?_
                    refine lv_bipush (v := 10) hx hb dX12_go_321 (by decide) ?_
                    refine lv_aload_n hx hb dX12_go_323 rfl (lv_at hl 2 rfl) ?_
                    refine va_get (D := D) (ci := 11) (v := .int y215_4) (C := RX12) (T := TX12) (N := 48) hx hb hts k2 hown hK.1 hP 0 rfl rfl 8 (by decide) k6 (fun _ h9 => h9) rfl dX12_go_324 ?_
                    refine lv_imul hx hb dX12_go_327 ?_
                    refine lv_topi (fun x_3544 ex_3544 => ?_)
                    have hY := hY.trans (lt1_e ex_3544)
                    refine lv_iload hx hb dX12_go_328 (lv_at hl 1 rfl) ?_
                    refine lv_iadd hx hb dX12_go_330 ?_
                    refine lv_topi (fun x_3545 ex_3545 => ?_)
                    have hY := hY.trans (lt1_e ex_3545)
                    refine lv_bipush (v := 48) hx hb dX12_go_331 (by decide) ?_
                    refine lv_isub hx hb dX12_go_333 ?_
                    refine lv_topi (fun x_3546 ex_3546 => ?_)
                    have hY := hY.trans (lt1_e ex_3546)
                    refine va_put (D := D) (ci := 11) (v := .int x_3546) (ty := .int) (C := RX12) (T := TX12) (N := 48) hx hb hts k2 tyX12 tyX12_ok nmX12 hown hK.1 hP hD hS 0 rfl rfl 8 (by decide) k6 (fun _ h9 => h9) rfl (by decide +kernel) rfl rfl (Nat.le_of_ble_eq_true rfl) dX12_go_334 (fun H locs hP hD hS => ?_)
                    have hP : va_P D vwCl [(h0, .inr (11, [.int h0_thrown, .ref h0_tape, .int h0_taped, .int h0_size, .int h0_limit, .int y215_2, .int y215_3, .int h0_kind, .int x_3546, .int h0_sign, .int h0_fault, .int h0_place, .long x_3532, .int h0_told, .ref h0_now, .ref h0_read, .ref h0_kept, .ref h0_snaps, .ref h0_aside, .ref h0_name, .ref h0_readName, .ref h0_keptName, .ref h0_isKept, .ref h0_onces, .int h0_snapMany, .int h0_lowest, .int h0_highest, .int h0_agreed, .int h0_jurors, .int h0_panelled, .ref h0_inSets, .int h0_surely, .int h0_asked, .ref h0_frees, .int h0_struck, .int h0_beating, .ref h0_text, .int h0_texts, .int h0_seed, .ref h0_line, .ref h0_written, .int h0_lineMany, .int h0_hasWritten, .ref h0_node, .int h0_nodes, .int h0_onesMany, .int h0_within, .int h0_top])), (aI ca h0_tape 940 F_h0_tape)] H := hP
                    have hD : va_D A [(h0, .inr (11, [.int h0_thrown, .ref h0_tape, .int h0_taped, .int h0_size, .int h0_limit, .int y215_2, .int y215_3, .int h0_kind, .int x_3546, .int h0_sign, .int h0_fault, .int h0_place, .long x_3532, .int h0_told, .ref h0_now, .ref h0_read, .ref h0_kept, .ref h0_snaps, .ref h0_aside, .ref h0_name, .ref h0_readName, .ref h0_keptName, .ref h0_isKept, .ref h0_onces, .int h0_snapMany, .int h0_lowest, .int h0_highest, .int h0_agreed, .int h0_jurors, .int h0_panelled, .ref h0_inSets, .int h0_surely, .int h0_asked, .ref h0_frees, .int h0_struck, .int h0_beating, .ref h0_text, .int h0_texts, .int h0_seed, .ref h0_line, .ref h0_written, .int h0_lineMany, .int h0_hasWritten, .ref h0_node, .int h0_nodes, .int h0_onesMany, .int h0_within, .int h0_top])), (aI ca h0_tape 940 F_h0_tape)] := hD
                    refine lv_aload_n hx hb dX12_go_337 rfl (lv_at hl 2 rfl) ?_
                    refine lv_dup hx hb dX12_go_338 rfl ?_
                    refine va_get (D := D) (ci := 11) (v := .int y215_2) (C := RX12) (T := TX12) (N := 48) hx hb hts k2 hown hK.1 hP 0 rfl rfl 5 (by decide) k3 (fun _ h9 => h9) rfl dX12_go_339 ?_
                    refine lv_iconst (v := 1) hx hb dX12_go_342 (by decide) ?_
                    refine lv_iadd hx hb dX12_go_343 ?_
                    refine lv_topi (fun x_3547 ex_3547 => ?_)
                    have hY := hY.trans (lt1_e ex_3547)
                    have h_3548 : rg 2 940 x_3547 := by rw [ex_3547]; exact rg_add h_3150 (⟨by decide, by decide⟩ : rg 1 1 (1 : Int32)) (by decide) (by decide) (by decide) (by decide)
                    have l_3549 : lq x_3547.toInt (y215_2.toInt + 1) := lqm (by rw [ex_3547]; have q := tadd h_3150 (⟨by decide, by decide⟩ : rg 1 1 (1 : Int32)) (by decide) (by decide); have r1 := lqe (lqm (by decide) : lq (1 : Int32).toInt 1); omega)
                    refine va_put (D := D) (ci := 11) (v := .int x_3547) (ty := .int) (C := RX12) (T := TX12) (N := 48) hx hb hts k2 tyX12 tyX12_ok nmX12 hown hK.1 hP hD hS 0 rfl rfl 5 (by decide) k3 (fun _ h9 => h9) rfl (by decide +kernel) rfl rfl (Nat.le_of_ble_eq_true rfl) dX12_go_344 (fun H locs hP hD hS => ?_)
                    have hP : va_P D vwCl [(h0, .inr (11, [.int h0_thrown, .ref h0_tape, .int h0_taped, .int h0_size, .int h0_limit, .int x_3547, .int y215_3, .int h0_kind, .int x_3546, .int h0_sign, .int h0_fault, .int h0_place, .long x_3532, .int h0_told, .ref h0_now, .ref h0_read, .ref h0_kept, .ref h0_snaps, .ref h0_aside, .ref h0_name, .ref h0_readName, .ref h0_keptName, .ref h0_isKept, .ref h0_onces, .int h0_snapMany, .int h0_lowest, .int h0_highest, .int h0_agreed, .int h0_jurors, .int h0_panelled, .ref h0_inSets, .int h0_surely, .int h0_asked, .ref h0_frees, .int h0_struck, .int h0_beating, .ref h0_text, .int h0_texts, .int h0_seed, .ref h0_line, .ref h0_written, .int h0_lineMany, .int h0_hasWritten, .ref h0_node, .int h0_nodes, .int h0_onesMany, .int h0_within, .int h0_top])), (aI ca h0_tape 940 F_h0_tape)] H := hP
                    have hD : va_D A [(h0, .inr (11, [.int h0_thrown, .ref h0_tape, .int h0_taped, .int h0_size, .int h0_limit, .int x_3547, .int y215_3, .int h0_kind, .int x_3546, .int h0_sign, .int h0_fault, .int h0_place, .long x_3532, .int h0_told, .ref h0_now, .ref h0_read, .ref h0_kept, .ref h0_snaps, .ref h0_aside, .ref h0_name, .ref h0_readName, .ref h0_keptName, .ref h0_isKept, .ref h0_onces, .int h0_snapMany, .int h0_lowest, .int h0_highest, .int h0_agreed, .int h0_jurors, .int h0_panelled, .ref h0_inSets, .int h0_surely, .int h0_asked, .ref h0_frees, .int h0_struck, .int h0_beating, .ref h0_text, .int h0_texts, .int h0_seed, .ref h0_line, .ref h0_written, .int h0_lineMany, .int h0_hasWritten, .ref h0_node, .int h0_nodes, .int h0_onesMany, .int h0_within, .int h0_top])), (aI ca h0_tape 940 F_h0_tape)] := hD
                    refine lv_goto (tgt := 215) hx hb dX12_go_347 (by decide) ?_
                    exact ih215 y215_0 0 x_3547 y215_3 x_3546 x_3532 trivial (rgw (lo := 0) (hi := 1) h_3503 (by decide) (by decide)) (⟨by decide, by decide⟩ : rg 0 1 (0 : Int32)) (rgw (lo := 1) (hi := 940) h_3548 (by decide) (by decide)) (rlm (by have q0 := lqe l_3549; have q1 := rle py215_2_h0_to; omega)) hy215_3 (rlm (by have q0 := rle py215_3_h0_to; omega)) t215_h0_limit (rgw (lo := 1) (hi := 940) h_3151 (by decide) (by decide)) (by have q0 := lqe l_3549; omega) hY H locs ls (oPsub hP [0, 1] rfl) (hD.sub [0, 1] (by decide) rfl) hS (lv_sub hl [2, 3, 0] rfl)
              · skip
                have hY := hY.trans (if_pos c_3502)
                have o_3550 : rl 0 1 y215_0 := rl_eq c_3502
                have h_3551 : rg 1 1 y215_0 := rl_y o_3550 (⟨by decide, by decide⟩ : rg 1 1 (1 : Int32)) hy215_0 (by decide) (by decide)
                have o_3552 : rl 0 y215_0 1 := rl_eq c_3502.symm
                refine lv_iconst (v := 1) hx hb dX12_go_267 (by decide) ?_
                refine lv_goto (tgt := 272) hx hb dX12_go_268 (by decide) ?_
                refine lv_istore_n (lv' := [(3, .int 1), (4, .int r_3078), (0, .ref h0), (2, .int y215_0)]) hx hb dX12_go_272 rfl hl (by decide) rfl (fun ls hl => ?_)
                refine lv_aload_n hx hb dX12_go_273 rfl (lv_at hl 2 rfl) ?_
                refine va_get (D := D) (ci := 11) (v := .int y215_2) (C := RX12) (T := TX12) (N := 48) hx hb hts k2 hown hK.1 hP 0 rfl rfl 5 (by decide) k3 (fun _ h9 => h9) rfl dX12_go_274 ?_
                refine lv_aload_n hx hb dX12_go_277 rfl (lv_at hl 2 rfl) ?_
                refine va_get (D := D) (ci := 11) (v := .int y215_3) (C := RX12) (T := TX12) (N := 48) hx hb hts k2 hown hK.1 hP 0 rfl rfl 6 (by decide) k4 (fun _ h9 => h9) rfl dX12_go_278 ?_
                refine lv_isub hx hb dX12_go_281 ?_
                refine lv_topi (fun x_3553 ex_3553 => ?_)
                have hY := hY.trans (lt1_e ex_3553)
                have h_3554 : rg (-939) 939 x_3553 := by rw [ex_3553]; exact rg_sub h_3150 hy215_3 (by decide) (by decide) (by decide) (by decide)
                have l_3555 : lq x_3553.toInt (y215_2.toInt + (-1) * y215_3.toInt) := lqm (by rw [ex_3553]; have q := tsub h_3150 hy215_3 (by decide) (by decide); omega)
                refine lv_bipush (v := 7) hx hb dX12_go_282 (by decide) ?_
                refine lv_icmp_ge (tgt := 307) hx hb dX12_go_284 (by decide) (fun c_3556 => ?_) (fun c_3556 => ?_)
                · skip
                  have hY := hY.trans (if_pos c_3556)
                  have o_3557 : rl 0 7 x_3553 := rl_le c_3556
                  have h_3558 : rg 7 939 x_3553 := rl_y o_3557 (⟨by decide, by decide⟩ : rg 7 7 (7 : Int32)) h_3554 (by decide) (by decide)
                  refine lv_aload_n hx hb dX12_go_307 rfl (lv_at hl 2 rfl) ?_
                  refine va_get (D := D) (ci := 11) (v := .int y215_2) (C := RX12) (T := TX12) (N := 48) hx hb hts k2 hown hK.1 hP 0 rfl rfl 5 (by decide) k3 (fun _ h9 => h9) rfl dX12_go_308 ?_
                  refine lv_aload_n hx hb dX12_go_311 rfl (lv_at hl 2 rfl) ?_
                  refine va_get (D := D) (ci := 11) (v := .int y215_3) (C := RX12) (T := TX12) (N := 48) hx hb hts k2 hown hK.1 hP 0 rfl rfl 6 (by decide) k4 (fun _ h9 => h9) rfl dX12_go_312 ?_
                  refine lv_isub hx hb dX12_go_315 ?_
                  refine lv_topi (fun x_3559 ex_3559 => ?_)
                  have hY := hY.trans (lt1_e ex_3559)
                  have h_3560 : rg (-939) 939 x_3559 := by rw [ex_3559]; exact rg_sub h_3150 hy215_3 (by decide) (by decide) (by decide) (by decide)
                  have l_3561 : lq x_3559.toInt (y215_2.toInt + (-1) * y215_3.toInt) := lqm (by rw [ex_3559]; have q := tsub h_3150 hy215_3 (by decide) (by decide); omega)
                  refine lv_iconst (v := 3) hx hb dX12_go_316 (by decide) ?_
                  refine lv_icmp_ge (tgt := 337) hx hb dX12_go_317 (by decide) (fun c_3562 => ?_) (fun c_3562 => ?_)
                  · skip
                    have hY := hY.trans (if_pos c_3562)
                    have o_3563 : rl 0 3 x_3559 := rl_le c_3562
                    have h_3564 : rg 3 939 x_3559 := rl_y o_3563 (⟨by decide, by decide⟩ : rg 3 3 (3 : Int32)) h_3560 (by decide) (by decide)
                    refine lv_aload_n hx hb dX12_go_337 rfl (lv_at hl 2 rfl) ?_
                    refine lv_dup hx hb dX12_go_338 rfl ?_
                    refine va_get (D := D) (ci := 11) (v := .int y215_2) (C := RX12) (T := TX12) (N := 48) hx hb hts k2 hown hK.1 hP 0 rfl rfl 5 (by decide) k3 (fun _ h9 => h9) rfl dX12_go_339 ?_
                    refine lv_iconst (v := 1) hx hb dX12_go_342 (by decide) ?_
                    refine lv_iadd hx hb dX12_go_343 ?_
                    refine lv_topi (fun x_3565 ex_3565 => ?_)
                    have hY := hY.trans (lt1_e ex_3565)
                    have h_3566 : rg 2 940 x_3565 := by rw [ex_3565]; exact rg_add h_3150 (⟨by decide, by decide⟩ : rg 1 1 (1 : Int32)) (by decide) (by decide) (by decide) (by decide)
                    have l_3567 : lq x_3565.toInt (y215_2.toInt + 1) := lqm (by rw [ex_3565]; have q := tadd h_3150 (⟨by decide, by decide⟩ : rg 1 1 (1 : Int32)) (by decide) (by decide); have r1 := lqe (lqm (by decide) : lq (1 : Int32).toInt 1); omega)
                    refine va_put (D := D) (ci := 11) (v := .int x_3565) (ty := .int) (C := RX12) (T := TX12) (N := 48) hx hb hts k2 tyX12 tyX12_ok nmX12 hown hK.1 hP hD hS 0 rfl rfl 5 (by decide) k3 (fun _ h9 => h9) rfl (by decide +kernel) rfl rfl (Nat.le_of_ble_eq_true rfl) dX12_go_344 (fun H locs hP hD hS => ?_)
                    have hP : va_P D vwCl [(h0, .inr (11, [.int h0_thrown, .ref h0_tape, .int h0_taped, .int h0_size, .int h0_limit, .int x_3565, .int y215_3, .int h0_kind, .int y215_4, .int h0_sign, .int h0_fault, .int h0_place, .long y215_5, .int h0_told, .ref h0_now, .ref h0_read, .ref h0_kept, .ref h0_snaps, .ref h0_aside, .ref h0_name, .ref h0_readName, .ref h0_keptName, .ref h0_isKept, .ref h0_onces, .int h0_snapMany, .int h0_lowest, .int h0_highest, .int h0_agreed, .int h0_jurors, .int h0_panelled, .ref h0_inSets, .int h0_surely, .int h0_asked, .ref h0_frees, .int h0_struck, .int h0_beating, .ref h0_text, .int h0_texts, .int h0_seed, .ref h0_line, .ref h0_written, .int h0_lineMany, .int h0_hasWritten, .ref h0_node, .int h0_nodes, .int h0_onesMany, .int h0_within, .int h0_top])), (aI ca h0_tape 940 F_h0_tape)] H := hP
                    have hD : va_D A [(h0, .inr (11, [.int h0_thrown, .ref h0_tape, .int h0_taped, .int h0_size, .int h0_limit, .int x_3565, .int y215_3, .int h0_kind, .int y215_4, .int h0_sign, .int h0_fault, .int h0_place, .long y215_5, .int h0_told, .ref h0_now, .ref h0_read, .ref h0_kept, .ref h0_snaps, .ref h0_aside, .ref h0_name, .ref h0_readName, .ref h0_keptName, .ref h0_isKept, .ref h0_onces, .int h0_snapMany, .int h0_lowest, .int h0_highest, .int h0_agreed, .int h0_jurors, .int h0_panelled, .ref h0_inSets, .int h0_surely, .int h0_asked, .ref h0_frees, .int h0_struck, .int h0_beating, .ref h0_text, .int h0_texts, .int h0_seed, .ref h0_line, .ref h0_written, .int h0_lineMany, .int h0_hasWritten, .ref h0_node, .int h0_nodes, .int h0_onesMany, .int h0_within, .int h0_top])), (aI ca h0_tape 940 F_h0_tape)] := hD
                    refine lv_goto (tgt := 215) hx hb dX12_go_347 (by decide) ?_
                    exact ih215 y215_0 1 x_3565 y215_3 y215_4 y215_5 trivial (rgw (lo := 0) (hi := 1) h_3551 (by decide) (by decide)) (⟨by decide, by decide⟩ : rg 0 1 (1 : Int32)) (rgw (lo := 1) (hi := 940) h_3566 (by decide) (by decide)) (rlm (by have q0 := lqe l_3567; have q1 := rle py215_2_h0_to; omega)) hy215_3 (rlm (by have q0 := rle py215_3_h0_to; omega)) t215_h0_limit (rgw (lo := 1) (hi := 940) h_3151 (by decide) (by decide)) (by have q0 := lqe l_3567; omega) hY H locs ls (oPsub hP [0, 1] rfl) (hD.sub [0, 1] (by decide) rfl) hS (lv_sub hl [2, 3, 0] rfl)
                  · skip
                    have hY := hY.trans (if_neg c_3562)
                    have o_3568 : rl 1 x_3559 3 := rl_nle c_3562
                    have h_3569 : rg (-939) 2 x_3559 := rl_x o_3568 h_3560 (⟨by decide, by decide⟩ : rg 3 3 (3 : Int32)) (by decide) (by decide)
                    refine lv_aload_n hx hb dX12_go_320 rfl (lv_at hl 2 rfl) ?_
                    refine lv_bipush (v := 10) hx hb dX12_go_321 (by decide) ?_
                    refine lv_aload_n hx hb dX12_go_323 rfl (lv_at hl 2 rfl) ?_
                    refine va_get (D := D) (ci := 11) (v := .int y215_4) (C := RX12) (T := TX12) (N := 48) hx hb hts k2 hown hK.1 hP 0 rfl rfl 8 (by decide) k6 (fun _ h9 => h9) rfl dX12_go_324 ?_
                    refine lv_imul hx hb dX12_go_327 ?_
                    refine lv_topi (fun x_3570 ex_3570 => ?_)
                    have hY := hY.trans (lt1_e ex_3570)
                    refine lv_iload hx hb dX12_go_328 (lv_at hl 1 rfl) ?_
                    refine lv_iadd hx hb dX12_go_330 ?_
                    refine lv_topi (fun x_3571 ex_3571 => ?_)
                    have hY := hY.trans (lt1_e ex_3571)
                    refine lv_bipush (v := 48) hx hb dX12_go_331 (by decide) ?_
                    refine lv_isub hx hb dX12_go_333 ?_
                    refine lv_topi (fun x_3572 ex_3572 => ?_)
                    have hY := hY.trans (lt1_e ex_3572)
                    refine va_put (D := D) (ci := 11) (v := .int x_3572) (ty := .int) (C := RX12) (T := TX12) (N := 48) hx hb hts k2 tyX12 tyX12_ok nmX12 hown hK.1 hP hD hS 0 rfl rfl 8 (by decide) k6 (fun _ h9 => h9) rfl (by decide +kernel) rfl rfl (Nat.le_of_ble_eq_true rfl) dX12_go_334 (fun H locs hP hD hS => ?_)
                    have hP : va_P D vwCl [(h0, .inr (11, [.int h0_thrown, .ref h0_tape, .int h0_taped, .int h0_size, .int h0_limit, .int y215_2, .int y215_3, .int h0_kind, .int x_3572, .int h0_sign, .int h0_fault, .int h0_place, .long y215_5, .int h0_told, .ref h0_now, .ref h0_read, .ref h0_kept, .ref h0_snaps, .ref h0_aside, .ref h0_name, .ref h0_readName, .ref h0_keptName, .ref h0_isKept, .ref h0_onces, .int h0_snapMany, .int h0_lowest, .int h0_highest, .int h0_agreed, .int h0_jurors, .int h0_panelled, .ref h0_inSets, .int h0_surely, .int h0_asked, .ref h0_frees, .int h0_struck, .int h0_beating, .ref h0_text, .int h0_texts, .int h0_seed, .ref h0_line, .ref h0_written, .int h0_lineMany, .int h0_hasWritten, .ref h0_node, .int h0_nodes, .int h0_onesMany, .int h0_within, .int h0_top])), (aI ca h0_tape 940 F_h0_tape)] H := hP
                    have hD : va_D A [(h0, .inr (11, [.int h0_thrown, .ref h0_tape, .int h0_taped, .int h0_size, .int h0_limit, .int y215_2, .int y215_3, .int h0_kind, .int x_3572, .int h0_sign, .int h0_fault, .int h0_place, .long y215_5, .int h0_told, .ref h0_now, .ref h0_read, .ref h0_kept, .ref h0_snaps, .ref h0_aside, .ref h0_name, .ref h0_readName, .ref h0_keptName, .ref h0_isKept, .ref h0_onces, .int h0_snapMany, .int h0_lowest, .int h0_highest, .int h0_agreed, .int h0_jurors, .int h0_panelled, .ref h0_inSets, .int h0_surely, .int h0_asked, .ref h0_frees, .int h0_struck, .int h0_beating, .ref h0_text, .int h0_texts, .int h0_seed, .ref h0_line, .ref h0_written, .int h0_lineMany, .int h0_hasWritten, .ref h0_node, .int h0_nodes, .int h0_onesMany, .int h0_within, .int h0_top])), (aI ca h0_tape 940 F_h0_tape)] := hD
                    refine lv_aload_n hx hb dX12_go_337 rfl (lv_at hl 2 rfl) ?_
                    refine lv_dup hx hb dX12_go_338 rfl ?_
                    refine va_get (D := D) (ci := 11) (v := .int y215_2) (C := RX12) (T := TX12) (N := 48) hx hb hts k2 hown hK.1 hP 0 rfl rfl 5 (by decide) k3 (fun _ h9 => h9) rfl dX12_go_339 ?_
                    refine lv_iconst (v := 1) hx hb dX12_go_342 (by decide) ?_
                    refine lv_iadd hx hb dX12_go_343 ?_
                    refine lv_topi (fun x_3573 ex_3573 => ?_)
                    have hY := hY.trans (lt1_e ex_3573)
                    have h_3574 : rg 2 940 x_3573 := by rw [ex_3573]; exact rg_add h_3150 (⟨by decide, by decide⟩ : rg 1 1 (1 : Int32)) (by decide) (by decide) (by decide) (by decide)
                    have l_3575 : lq x_3573.toInt (y215_2.toInt + 1) := lqm (by rw [ex_3573]; have q := tadd h_3150 (⟨by decide, by decide⟩ : rg 1 1 (1 : Int32)) (by decide) (by decide); have r1 := lqe (lqm (by decide) : lq (1 : Int32).toInt 1); omega)
                    refine va_put (D := D) (ci := 11) (v := .int x_3573) (ty := .int) (C := RX12) (T := TX12) (N := 48) hx hb hts k2 tyX12 tyX12_ok nmX12 hown hK.1 hP hD hS 0 rfl rfl 5 (by decide) k3 (fun _ h9 => h9) rfl (by decide +kernel) rfl rfl (Nat.le_of_ble_eq_true rfl) dX12_go_344 (fun H locs hP hD hS => ?_)
                    have hP : va_P D vwCl [(h0, .inr (11, [.int h0_thrown, .ref h0_tape, .int h0_taped, .int h0_size, .int h0_limit, .int x_3573, .int y215_3, .int h0_kind, .int x_3572, .int h0_sign, .int h0_fault, .int h0_place, .long y215_5, .int h0_told, .ref h0_now, .ref h0_read, .ref h0_kept, .ref h0_snaps, .ref h0_aside, .ref h0_name, .ref h0_readName, .ref h0_keptName, .ref h0_isKept, .ref h0_onces, .int h0_snapMany, .int h0_lowest, .int h0_highest, .int h0_agreed, .int h0_jurors, .int h0_panelled, .ref h0_inSets, .int h0_surely, .int h0_asked, .ref h0_frees, .int h0_struck, .int h0_beating, .ref h0_text, .int h0_texts, .int h0_seed, .ref h0_line, .ref h0_written, .int h0_lineMany, .int h0_hasWritten, .ref h0_node, .int h0_nodes, .int h0_onesMany, .int h0_within, .int h0_top])), (aI ca h0_tape 940 F_h0_tape)] H := hP
                    have hD : va_D A [(h0, .inr (11, [.int h0_thrown, .ref h0_tape, .int h0_taped, .int h0_size, .int h0_limit, .int x_3573, .int y215_3, .int h0_kind, .int x_3572, .int h0_sign, .int h0_fault, .int h0_place, .long y215_5, .int h0_told, .ref h0_now, .ref h0_read, .ref h0_kept, .ref h0_snaps, .ref h0_aside, .ref h0_name, .ref h0_readName, .ref h0_keptName, .ref h0_isKept, .ref h0_onces, .int h0_snapMany, .int h0_lowest, .int h0_highest, .int h0_agreed, .int h0_jurors, .int h0_panelled, .ref h0_inSets, .int h0_surely, .int h0_asked, .ref h0_frees, .int h0_struck, .int h0_beating, .ref h0_text, .int h0_texts, .int h0_seed, .ref h0_line, .ref h0_written, .int h0_lineMany, .int h0_hasWritten, .ref h0_node, .int h0_nodes, .int h0_onesMany, .int h0_within, .int h0_top])), (aI ca h0_tape 940 F_h0_tape)] := hD
                    refine lv_goto (tgt := 215) hx hb dX12_go_347 (by decide) ?_
                    exact ih215 y215_0 1 x_3573 y215_3 x_3572 y215_5 trivial (rgw (lo := 0) (hi := 1) h_3551 (by decide) (by decide)) (⟨by decide, by decide⟩ : rg 0 1 (1 : Int32)) (rgw (lo := 1) (hi := 940) h_3574 (by decide) (by decide)) (rlm (by have q0 := lqe l_3575; have q1 := rle py215_2_h0_to; omega)) hy215_3 (rlm (by have q0 := rle py215_3_h0_to; omega)) t215_h0_limit (rgw (lo := 1) (hi := 940) h_3151 (by decide) (by decide)) (by have q0 := lqe l_3575; omega) hY H locs ls (oPsub hP [0, 1] rfl) (hD.sub [0, 1] (by decide) rfl) hS (lv_sub hl [2, 3, 0] rfl)
                · skip
                  have hY := hY.trans (if_neg c_3556)
                  have o_3576 : rl 1 x_3553 7 := rl_nle c_3556
                  have h_3577 : rg (-939) 6 x_3553 := rl_x o_3576 h_3554 (⟨by decide, by decide⟩ : rg 7 7 (7 : Int32)) (by decide) (by decide)
                  refine lv_aload_n hx hb dX12_go_287 rfl (lv_at hl 2 rfl) ?_
                  refine lv_ldc2 (v := 27) hx hb hown k7 dX12_go_288 ?_
                  refine lv_aload_n hx hb dX12_go_291 rfl (lv_at hl 2 rfl) ?_
                  refine va_get (D := D) (ci := 11) (v := .long y215_5) (C := RX12) (T := TX12) (N := 48) hx hb hts k2 hown hK.1 hP 0 rfl rfl 12 (by decide) k8 (fun _ h9 => h9) rfl dX12_go_292 ?_
                  refine lv_lmul hx hb dX12_go_295 ?_
                  refine lv_topl (fun x_3578 ex_3578 => ?_)
                  have hY := hY.trans (lt1_e ex_3578)
                  refine lv_iload hx hb dX12_go_296 (lv_at hl 1 rfl) ?_
                  refine lv_i2l hx hb dX12_go_298 rfl ?_
                  refine lv_topl (fun x_3579 ex_3579 => ?_)
                  have hY := hY.trans (lt1_e ex_3579)
                  refine lv_ladd hx hb dX12_go_299 ?_
                  refine lv_topl (fun x_3580 ex_3580 => ?_)
                  have hY := hY.trans (lt1_e ex_3580)
                  refine lv_ldc2 (v := 96) hx hb hown k9 dX12_go_300 ?_
                  refine lv_lsub hx hb dX12_go_303 ?_
                  refine lv_topl (fun x_3581 ex_3581 => ?_)
                  have hY := hY.trans (lt1_e ex_3581)
                  refine va_put (D := D) (ci := 11) (v := .long x_3581) (ty := .long) (C := RX12) (T := TX12) (N := 48) hx hb hts k2 tyX12 tyX12_ok nmX12 hown hK.1 hP hD hS 0 rfl rfl 12 (by decide) k8 (fun _ h9 => h9) rfl (by decide +kernel) rfl rfl (Nat.le_of_ble_eq_true rfl) dX12_go_304 (fun H locs hP hD hS => ?_)
                  have hP : va_P D vwCl [(h0, .inr (11, [.int h0_thrown, .ref h0_tape, .int h0_taped, .int h0_size, .int h0_limit, .int y215_2, .int y215_3, .int h0_kind, .int y215_4, .int h0_sign, .int h0_fault, .int h0_place, .long x_3581, .int h0_told, .ref h0_now, .ref h0_read, .ref h0_kept, .ref h0_snaps, .ref h0_aside, .ref h0_name, .ref h0_readName, .ref h0_keptName, .ref h0_isKept, .ref h0_onces, .int h0_snapMany, .int h0_lowest, .int h0_highest, .int h0_agreed, .int h0_jurors, .int h0_panelled, .ref h0_inSets, .int h0_surely, .int h0_asked, .ref h0_frees, .int h0_struck, .int h0_beating, .ref h0_text, .int h0_texts, .int h0_seed, .ref h0_line, .ref h0_written, .int h0_lineMany, .int h0_hasWritten, .ref h0_node, .int h0_nodes, .int h0_onesMany, .int h0_within, .int h0_top])), (aI ca h0_tape 940 F_h0_tape)] H := hP
                  have hD : va_D A [(h0, .inr (11, [.int h0_thrown, .ref h0_tape, .int h0_taped, .int h0_size, .int h0_limit, .int y215_2, .int y215_3, .int h0_kind, .int y215_4, .int h0_sign, .int h0_fault, .int h0_place, .long x_3581, .int h0_told, .ref h0_now, .ref h0_read, .ref h0_kept, .ref h0_snaps, .ref h0_aside, .ref h0_name, .ref h0_readName, .ref h0_keptName, .ref h0_isKept, .ref h0_onces, .int h0_snapMany, .int h0_lowest, .int h0_highest, .int h0_agreed, .int h0_jurors, .int h0_panelled, .ref h0_inSets, .int h0_surely, .int h0_asked, .ref h0_frees, .int h0_struck, .int h0_beating, .ref h0_text, .int h0_texts, .int h0_seed, .ref h0_line, .ref h0_written, .int h0_lineMany, .int h0_hasWritten, .ref h0_node, .int h0_nodes, .int h0_onesMany, .int h0_within, .int h0_top])), (aI ca h0_tape 940 F_h0_tape)] := hD
                  refine lv_aload_n hx hb dX12_go_307 rfl (lv_at hl 2 rfl) ?_
                  refine va_get (D := D) (ci := 11) (v := .int y215_2) (C := RX12) (T := TX12) (N := 48) hx hb hts k2 hown hK.1 hP 0 rfl rfl 5 (by decide) k3 (fun _ h9 => h9) rfl dX12_go_308 ?_
                  refine lv_aload_n hx hb dX12_go_311 rfl (lv_at hl 2 rfl) ?_
                  refine va_get (D := D) (ci := 11) (v := .int y215_3) (C := RX12) (T := TX12) (N := 48) hx hb hts k2 hown hK.1 hP 0 rfl rfl 6 (by decide) k4 (fun _ h9 => h9) rfl dX12_go_312 ?_
                  refine lv_isub hx hb dX12_go_315 ?_
                  refine lv_topi (fun x_3582 ex_3582 => ?_)
                  have hY := hY.trans (lt1_e ex_3582)
                  have h_3583 : rg (-939) 939 x_3582 := by rw [ex_3582]; exact rg_sub h_3150 hy215_3 (by decide) (by decide) (by decide) (by decide)
                  have l_3584 : lq x_3582.toInt (y215_2.toInt + (-1) * y215_3.toInt) := lqm (by rw [ex_3582]; have q := tsub h_3150 hy215_3 (by decide) (by decide); omega)
                  refine lv_iconst (v := 3) hx hb dX12_go_316 (by decide) ?_
                  refine lv_icmp_ge (tgt := 337) hx hb dX12_go_317 (by decide) (fun c_3585 => ?_) (fun c_3585 => ?_)
                  · skip
                    have hY := hY.trans (if_pos c_3585)
                    have o_3586 : rl 0 3 x_3582 := rl_le c_3585
                    have h_3587 : rg 3 939 x_3582 := rl_y o_3586 (⟨by decide, by decide⟩ : rg 3 3 (3 : Int32)) h_3583 (by decide) (by decide)
                    refine lv_aload_n hx hb dX12_go_337 rfl (lv_at hl 2 rfl) ?_
                    refine lv_dup hx hb dX12_go_338 rfl ?_
                    refine va_get (D := D) (ci := 11) (v := .int y215_2) (C := RX12) (T := TX12) (N := 48) hx hb hts k2 hown hK.1 hP 0 rfl rfl 5 (by decide) k3 (fun _ h9 => h9) rfl dX12_go_339 ?_
                    refine lv_iconst (v := 1) hx hb dX12_go_342 (by decide) ?_
                    refine lv_iadd hx hb dX12_go_343 ?_
                    refine lv_topi (fun x_3588 ex_3588 => ?_)
                    have hY := hY.trans (lt1_e ex_3588)
                    have h_3589 : rg 2 940 x_3588 := by rw [ex_3588]; exact rg_add h_3150 (⟨by decide, by decide⟩ : rg 1 1 (1 : Int32)) (by decide) (by decide) (by decide) (by decide)
                    have l_3590 : lq x_3588.toInt (y215_2.toInt + 1) := lqm (by rw [ex_3588]; have q := tadd h_3150 (⟨by decide, by decide⟩ : rg 1 1 (1 : Int32)) (by decide) (by decide); have r1 := lqe (lqm (by decide) : lq (1 : Int32).toInt 1); omega)
                    refine va_put (D := D) (ci := 11) (v := .int x_3588) (ty := .int) (C := RX12) (T := TX12) (N := 48) hx hb hts k2 tyX12 tyX12_ok nmX12 hown hK.1 hP hD hS 0 rfl rfl 5 (by decide) k3 (fun _ h9 => h9) rfl (by decide +kernel) rfl rfl (Nat.le_of_ble_eq_true rfl) dX12_go_344 (fun H locs hP hD hS => ?_)
                    have hP : va_P D vwCl [(h0, .inr (11, [.int h0_thrown, .ref h0_tape, .int h0_taped, .int h0_size, .int h0_limit, .int x_3588, .int y215_3, .int h0_kind, .int y215_4, .int h0_sign, .int h0_fault, .int h0_place, .long x_3581, .int h0_told, .ref h0_now, .ref h0_read, .ref h0_kept, .ref h0_snaps, .ref h0_aside, .ref h0_name, .ref h0_readName, .ref h0_keptName, .ref h0_isKept, .ref h0_onces, .int h0_snapMany, .int h0_lowest, .int h0_highest, .int h0_agreed, .int h0_jurors, .int h0_panelled, .ref h0_inSets, .int h0_surely, .int h0_asked, .ref h0_frees, .int h0_struck, .int h0_beating, .ref h0_text, .int h0_texts, .int h0_seed, .ref h0_line, .ref h0_written, .int h0_lineMany, .int h0_hasWritten, .ref h0_node, .int h0_nodes, .int h0_onesMany, .int h0_within, .int h0_top])), (aI ca h0_tape 940 F_h0_tape)] H := hP
                    have hD : va_D A [(h0, .inr (11, [.int h0_thrown, .ref h0_tape, .int h0_taped, .int h0_size, .int h0_limit, .int x_3588, .int y215_3, .int h0_kind, .int y215_4, .int h0_sign, .int h0_fault, .int h0_place, .long x_3581, .int h0_told, .ref h0_now, .ref h0_read, .ref h0_kept, .ref h0_snaps, .ref h0_aside, .ref h0_name, .ref h0_readName, .ref h0_keptName, .ref h0_isKept, .ref h0_onces, .int h0_snapMany, .int h0_lowest, .int h0_highest, .int h0_agreed, .int h0_jurors, .int h0_panelled, .ref h0_inSets, .int h0_surely, .int h0_asked, .ref h0_frees, .int h0_struck, .int h0_beating, .ref h0_text, .int h0_texts, .int h0_seed, .ref h0_line, .ref h0_written, .int h0_lineMany, .int h0_hasWritten, .ref h0_node, .int h0_nodes, .int h0_onesMany, .int h0_within, .int h0_top])), (aI ca h0_tape 940 F_h0_tape)] := hD
                    refine lv_goto (tgt := 215) hx hb dX12_go_347 (by decide) ?_
                    exact ih215 y215_0 1 x_3588 y215_3 y215_4 x_3581 trivial (rgw (lo := 0) (hi := 1) h_3551 (by decide) (by decide)) (⟨by decide, by decide⟩ : rg 0 1 (1 : Int32)) (rgw (lo := 1) (hi := 940) h_3589 (by decide) (by decide)) (rlm (by have q0 := lqe l_3590; have q1 := rle py215_2_h0_to; omega)) hy215_3 (rlm (by have q0 := rle py215_3_h0_to; omega)) t215_h0_limit (rgw (lo := 1) (hi := 940) h_3151 (by decide) (by decide)) (by have q0 := lqe l_3590; omega) hY H locs ls (oPsub hP [0, 1] rfl) (hD.sub [0, 1] (by decide) rfl) hS (lv_sub hl [2, 3, 0] rfl)
                  · skip
                    have hY := hY.trans (if_neg c_3585)
                    have o_3591 : rl 1 x_3582 3 := rl_nle c_3585
                    have h_3592 : rg (-939) 2 x_3582 := rl_x o_3591 h_3583 (⟨by decide, by decide⟩ : rg 3 3 (3 : Int32)) (by decide) (by decide)
                    refine lv_aload_n hx hb dX12_go_320 rfl (lv_at hl 2 rfl) ?_
                    refine lv_bipush (v := 10) hx hb dX12_go_321 (by decide) ?_
                    refine lv_aload_n hx hb dX12_go_323 rfl (lv_at hl 2 rfl) ?_
                    refine va_get (D := D) (ci := 11) (v := .int y215_4) (C := RX12) (T := TX12) (N := 48) hx hb hts k2 hown hK.1 hP 0 rfl rfl 8 (by decide) k6 (fun _ h9 => h9) rfl dX12_go_324 ?_
                    refine lv_imul hx hb dX12_go_327 ?_
                    refine lv_topi (fun x_3593 ex_3593 => ?_)
                    have hY := hY.trans (lt1_e ex_3593)
                    refine lv_iload hx hb dX12_go_328 (lv_at hl 1 rfl) ?_
                    refine lv_iadd hx hb dX12_go_330 ?_
                    refine lv_topi (fun x_3594 ex_3594 => ?_)
                    have hY := hY.trans (lt1_e ex_3594)
                    refine lv_bipush (v := 48) hx hb dX12_go_331 (by decide) ?_
                    refine lv_isub hx hb dX12_go_333 ?_
                    refine lv_topi (fun x_3595 ex_3595 => ?_)
                    have hY := hY.trans (lt1_e ex_3595)
                    refine va_put (D := D) (ci := 11) (v := .int x_3595) (ty := .int) (C := RX12) (T := TX12) (N := 48) hx hb hts k2 tyX12 tyX12_ok nmX12 hown hK.1 hP hD hS 0 rfl rfl 8 (by decide) k6 (fun _ h9 => h9) rfl (by decide +kernel) rfl rfl (Nat.le_of_ble_eq_true rfl) dX12_go_334 (fun H locs hP hD hS => ?_)
                    have hP : va_P D vwCl [(h0, .inr (11, [.int h0_thrown, .ref h0_tape, .int h0_taped, .int h0_size, .int h0_limit, .int y215_2, .int y215_3, .int h0_kind, .int x_3595, .int h0_sign, .int h0_fault, .int h0_place, .long x_3581, .int h0_told, .ref h0_now, .ref h0_read, .ref h0_kept, .ref h0_snaps, .ref h0_aside, .ref h0_name, .ref h0_readName, .ref h0_keptName, .ref h0_isKept, .ref h0_onces, .int h0_snapMany, .int h0_lowest, .int h0_highest, .int h0_agreed, .int h0_jurors, .int h0_panelled, .ref h0_inSets, .int h0_surely, .int h0_asked, .ref h0_frees, .int h0_struck, .int h0_beating, .ref h0_text, .int h0_texts, .int h0_seed, .ref h0_line, .ref h0_written, .int h0_lineMany, .int h0_hasWritten, .ref h0_node, .int h0_nodes, .int h0_onesMany, .int h0_within, .int h0_top])), (aI ca h0_tape 940 F_h0_tape)] H := hP
                    have hD : va_D A [(h0, .inr (11, [.int h0_thrown, .ref h0_tape, .int h0_taped, .int h0_size, .int h0_limit, .int y215_2, .int y215_3, .int h0_kind, .int x_3595, .int h0_sign, .int h0_fault, .int h0_place, .long x_3581, .int h0_told, .ref h0_now, .ref h0_read, .ref h0_kept, .ref h0_snaps, .ref h0_aside, .ref h0_name, .ref h0_readName, .ref h0_keptName, .ref h0_isKept, .ref h0_onces, .int h0_snapMany, .int h0_lowest, .int h0_highest, .int h0_agreed, .int h0_jurors, .int h0_panelled, .ref h0_inSets, .int h0_surely, .int h0_asked, .ref h0_frees, .int h0_struck, .int h0_beating, .ref h0_text, .int h0_texts, .int h0_seed, .ref h0_line, .ref h0_written, .int h0_lineMany, .int h0_hasWritten, .ref h0_node, .int h0_nodes, .int h0_onesMany, .int h0_within, .int h0_top])), (aI ca h0_tape 940 F_h0_tape)] := hD
                    refine lv_aload_n hx hb dX12_go_337 rfl (lv_at hl 2 rfl) ?_
                    refine lv_dup hx hb dX12_go_338 rfl ?_
                    refine va_get (D := D) (ci := 11) (v := .int y215_2) (C := RX12) (T := TX12) (N := 48) hx hb hts k2 hown hK.1 hP 0 rfl rfl 5 (by decide) k3 (fun _ h9 => h9) rfl dX12_go_339 ?_
                    refine lv_iconst (v := 1) hx hb dX12_go_342 (by decide) ?_
                    refine lv_iadd hx hb dX12_go_343 ?_
                    refine lv_topi (fun x_3596 ex_3596 => ?_)
                    have hY := hY.trans (lt1_e ex_3596)
                    have h_3597 : rg 2 940 x_3596 := by rw [ex_3596]; exact rg_add h_3150 (⟨by decide, by decide⟩ : rg 1 1 (1 : Int32)) (by decide) (by decide) (by decide) (by decide)
                    have l_3598 : lq x_3596.toInt (y215_2.toInt + 1) := lqm (by rw [ex_3596]; have q := tadd h_3150 (⟨by decide, by decide⟩ : rg 1 1 (1 : Int32)) (by decide) (by decide); have r1 := lqe (lqm (by decide) : lq (1 : Int32).toInt 1); omega)
                    refine va_put (D := D) (ci := 11) (v := .int x_3596) (ty := .int) (C := RX12) (T := TX12) (N := 48) hx hb hts k2 tyX12 tyX12_ok nmX12 hown hK.1 hP hD hS 0 rfl rfl 5 (by decide) k3 (fun _ h9 => h9) rfl (by decide +kernel) rfl rfl (Nat.le_of_ble_eq_true rfl) dX12_go_344 (fun H locs hP hD hS => ?_)
                    have hP : va_P D vwCl [(h0, .inr (11, [.int h0_thrown, .ref h0_tape, .int h0_taped, .int h0_size, .int h0_limit, .int x_3596, .int y215_3, .int h0_kind, .int x_3595, .int h0_sign, .int h0_fault, .int h0_place, .long x_3581, .int h0_told, .ref h0_now, .ref h0_read, .ref h0_kept, .ref h0_snaps, .ref h0_aside, .ref h0_name, .ref h0_readName, .ref h0_keptName, .ref h0_isKept, .ref h0_onces, .int h0_snapMany, .int h0_lowest, .int h0_highest, .int h0_agreed, .int h0_jurors, .int h0_panelled, .ref h0_inSets, .int h0_surely, .int h0_asked, .ref h0_frees, .int h0_struck, .int h0_beating, .ref h0_text, .int h0_texts, .int h0_seed, .ref h0_line, .ref h0_written, .int h0_lineMany, .int h0_hasWritten, .ref h0_node, .int h0_nodes, .int h0_onesMany, .int h0_within, .int h0_top])), (aI ca h0_tape 940 F_h0_tape)] H := hP
                    have hD : va_D A [(h0, .inr (11, [.int h0_thrown, .ref h0_tape, .int h0_taped, .int h0_size, .int h0_limit, .int x_3596, .int y215_3, .int h0_kind, .int x_3595, .int h0_sign, .int h0_fault, .int h0_place, .long x_3581, .int h0_told, .ref h0_now, .ref h0_read, .ref h0_kept, .ref h0_snaps, .ref h0_aside, .ref h0_name, .ref h0_readName, .ref h0_keptName, .ref h0_isKept, .ref h0_onces, .int h0_snapMany, .int h0_lowest, .int h0_highest, .int h0_agreed, .int h0_jurors, .int h0_panelled, .ref h0_inSets, .int h0_surely, .int h0_asked, .ref h0_frees, .int h0_struck, .int h0_beating, .ref h0_text, .int h0_texts, .int h0_seed, .ref h0_line, .ref h0_written, .int h0_lineMany, .int h0_hasWritten, .ref h0_node, .int h0_nodes, .int h0_onesMany, .int h0_within, .int h0_top])), (aI ca h0_tape 940 F_h0_tape)] := hD
                    refine lv_goto (tgt := 215) hx hb dX12_go_347 (by decide) ?_
                    exact ih215 y215_0 1 x_3596 y215_3 x_3595 x_3581 trivial (rgw (lo := 0) (hi := 1) h_3551 (by decide) (by decide)) (⟨by decide, by decide⟩ : rg 0 1 (1 : Int32)) (rgw (lo := 1) (hi := 940) h_3597 (by decide) (by decide)) (rlm (by have q0 := lqe l_3598; have q1 := rle py215_2_h0_to; omega)) hy215_3 (rlm (by have q0 := rle py215_3_h0_to; omega)) t215_h0_limit (rgw (lo := 1) (hi := 940) h_3151 (by decide) (by decide)) (by have q0 := lqe l_3598; omega) hY H locs ls (oPsub hP [0, 1] rfl) (hD.sub [0, 1] (by decide) rfl) hS (lv_sub hl [2, 3, 0] rfl)
  have J179_3599 : ∀ (y179_0 : Int32) (y179_1 : Int32) (y179_2 : Int32) (y179_3 : Int32), rg 0 255 y179_0 → rg 1 4 y179_1 → rg 0 939 y179_2 → rl 0 h0_to y179_2 → rl 1 y179_2 h0_size → rg 0 940 y179_3 → rl 0 h0_to y179_3 → rg 0 2147483647 h0_limit → rg 1 940 h0_size → y_X12_go h0_size h0_limit h0_to h0_number h0_sign h0_word F_h0_tape = y_X12_go_179 h0_number h0_word y179_0 y179_1 y179_2 y179_3 → ∀ (H : Heap) (locs : List Loc) (ls : Array Slot), va_P D vwCl [(h0, .inr (11, [.int h0_thrown, .ref h0_tape, .int h0_taped, .int h0_size, .int h0_limit, .int y179_2, .int y179_3, .int h0_kind, .int h0_number, .int h0_sign, .int h0_fault, .int h0_place, .long h0_word, .int h0_told, .ref h0_now, .ref h0_read, .ref h0_kept, .ref h0_snaps, .ref h0_aside, .ref h0_name, .ref h0_readName, .ref h0_keptName, .ref h0_isKept, .ref h0_onces, .int h0_snapMany, .int h0_lowest, .int h0_highest, .int h0_agreed, .int h0_jurors, .int h0_panelled, .ref h0_inSets, .int h0_surely, .int h0_asked, .ref h0_frees, .int h0_struck, .int h0_beating, .ref h0_text, .int h0_texts, .int h0_seed, .ref h0_line, .ref h0_written, .int h0_lineMany, .int h0_hasWritten, .ref h0_node, .int h0_nodes, .int h0_onesMany, .int h0_within, .int h0_top])), (aI ca h0_tape 940 F_h0_tape)] H → va_D A [(h0, .inr (11, [.int h0_thrown, .ref h0_tape, .int h0_taped, .int h0_size, .int h0_limit, .int y179_2, .int y179_3, .int h0_kind, .int h0_number, .int h0_sign, .int h0_fault, .int h0_place, .long h0_word, .int h0_told, .ref h0_now, .ref h0_read, .ref h0_kept, .ref h0_snaps, .ref h0_aside, .ref h0_name, .ref h0_readName, .ref h0_keptName, .ref h0_isKept, .ref h0_onces, .int h0_snapMany, .int h0_lowest, .int h0_highest, .int h0_agreed, .int h0_jurors, .int h0_panelled, .ref h0_inSets, .int h0_surely, .int h0_asked, .ref h0_frees, .int h0_struck, .int h0_beating, .ref h0_text, .int h0_texts, .int h0_seed, .ref h0_line, .ref h0_written, .int h0_lineMany, .int h0_hasWritten, .ref h0_node, .int h0_nodes, .int h0_onesMany, .int h0_within, .int h0_top])), (aI ca h0_tape 940 F_h0_tape)] → va_S A s.heap H locs → lv_has ls 5 [(0, .ref h0), (1, .int y179_0)] → W p l e ({ frames := 1, cells := 0, slots := 0, locals := 21 } : Room) s m ([.ref h0] : List Value).toArray below meth c H locs 0 0 (MQ below ((oQv D (fun (u : Int32 × Int32 × Int32 × Int32 × Int32 × Int64) => (rg 0 940 u.1) ∧ (rg (-2147483648) 940 u.2.1) ∧ (rg 0 4 u.2.2.1) ∧ (rl 0 h0_to u.1) ∧ (lk h0_to u.2.2.1 u.1) ∧ ((u.1, u.2.1, u.2.2.1, u.2.2.2.1, u.2.2.2.2.1, u.2.2.2.2.2) = y_X12_go h0_size h0_limit h0_to h0_number h0_sign h0_word F_h0_tape)) (fun (u : Int32 × Int32 × Int32 × Int32 × Int32 × Int64) => [(h0, .inr (11, [.int h0_thrown, .ref h0_tape, .int h0_taped, .int h0_size, .int h0_limit, .int u.1, .int u.2.1, .int u.2.2.1, .int u.2.2.2.1, .int u.2.2.2.2.1, .int h0_fault, .int h0_place, .long u.2.2.2.2.2, .int h0_told, .ref h0_now, .ref h0_read, .ref h0_kept, .ref h0_snaps, .ref h0_aside, .ref h0_name, .ref h0_readName, .ref h0_keptName, .ref h0_isKept, .ref h0_onces, .int h0_snapMany, .int h0_lowest, .int h0_highest, .int h0_agreed, .int h0_jurors, .int h0_panelled, .ref h0_inSets, .int h0_surely, .int h0_asked, .ref h0_frees, .int h0_struck, .int h0_beating, .ref h0_text, .int h0_texts, .int h0_seed, .ref h0_line, .ref h0_written, .int h0_lineMany, .int h0_hasWritten, .ref h0_node, .int h0_nodes, .int h0_onesMany, .int h0_within, .int h0_top])), (aI ca h0_tape 940 F_h0_tape)])) A) ([.ref h0] : List Value).toArray s 0 0 A) (F0 m 179 ls [.int y179_1, .ref h0]) := by
    intro y179_0 y179_1 y179_2 y179_3 hy179_0 hy179_1 hy179_2 py179_2_h0_to qy179_2_h0_size hy179_3 py179_3_h0_to t179_h0_limit t179_h0_size hY H locs ls hP hD hS hl
    have hY := hY.trans (y_X12_go_179_s h0_number h0_word y179_0 y179_1 y179_2 y179_3)
    refine va_put (D := D) (ci := 11) (v := .int y179_1) (ty := .int) (C := RX12) (T := TX12) (N := 48) hx hb hts k2 tyX12 tyX12_ok nmX12 hown hK.1 hP hD hS 0 rfl rfl 7 (by decide) k1 (fun _ h9 => h9) rfl (by decide +kernel) rfl rfl (Nat.le_of_ble_eq_true rfl) dX12_go_179 (fun H locs hP hD hS => ?_)
    have hP : va_P D vwCl [(h0, .inr (11, [.int h0_thrown, .ref h0_tape, .int h0_taped, .int h0_size, .int h0_limit, .int y179_2, .int y179_3, .int y179_1, .int h0_number, .int h0_sign, .int h0_fault, .int h0_place, .long h0_word, .int h0_told, .ref h0_now, .ref h0_read, .ref h0_kept, .ref h0_snaps, .ref h0_aside, .ref h0_name, .ref h0_readName, .ref h0_keptName, .ref h0_isKept, .ref h0_onces, .int h0_snapMany, .int h0_lowest, .int h0_highest, .int h0_agreed, .int h0_jurors, .int h0_panelled, .ref h0_inSets, .int h0_surely, .int h0_asked, .ref h0_frees, .int h0_struck, .int h0_beating, .ref h0_text, .int h0_texts, .int h0_seed, .ref h0_line, .ref h0_written, .int h0_lineMany, .int h0_hasWritten, .ref h0_node, .int h0_nodes, .int h0_onesMany, .int h0_within, .int h0_top])), (aI ca h0_tape 940 F_h0_tape)] H := hP
    have hD : va_D A [(h0, .inr (11, [.int h0_thrown, .ref h0_tape, .int h0_taped, .int h0_size, .int h0_limit, .int y179_2, .int y179_3, .int y179_1, .int h0_number, .int h0_sign, .int h0_fault, .int h0_place, .long h0_word, .int h0_told, .ref h0_now, .ref h0_read, .ref h0_kept, .ref h0_snaps, .ref h0_aside, .ref h0_name, .ref h0_readName, .ref h0_keptName, .ref h0_isKept, .ref h0_onces, .int h0_snapMany, .int h0_lowest, .int h0_highest, .int h0_agreed, .int h0_jurors, .int h0_panelled, .ref h0_inSets, .int h0_surely, .int h0_asked, .ref h0_frees, .int h0_struck, .int h0_beating, .ref h0_text, .int h0_texts, .int h0_seed, .ref h0_line, .ref h0_written, .int h0_lineMany, .int h0_hasWritten, .ref h0_node, .int h0_nodes, .int h0_onesMany, .int h0_within, .int h0_top])), (aI ca h0_tape 940 F_h0_tape)] := hD
    refine lv_aload_n hx hb dX12_go_182 rfl (lv_at hl 0 rfl) ?_
    refine lv_iload_n hx hb dX12_go_183 rfl (lv_at hl 1 rfl) ?_
    refine va_put (D := D) (ci := 11) (v := .int y179_0) (ty := .int) (C := RX12) (T := TX12) (N := 48) hx hb hts k2 tyX12 tyX12_ok nmX12 hown hK.1 hP hD hS 0 rfl rfl 9 (by decide) k10 (fun _ h9 => h9) rfl (by decide +kernel) rfl rfl (Nat.le_of_ble_eq_true rfl) dX12_go_184 (fun H locs hP hD hS => ?_)
    have hP : va_P D vwCl [(h0, .inr (11, [.int h0_thrown, .ref h0_tape, .int h0_taped, .int h0_size, .int h0_limit, .int y179_2, .int y179_3, .int y179_1, .int h0_number, .int y179_0, .int h0_fault, .int h0_place, .long h0_word, .int h0_told, .ref h0_now, .ref h0_read, .ref h0_kept, .ref h0_snaps, .ref h0_aside, .ref h0_name, .ref h0_readName, .ref h0_keptName, .ref h0_isKept, .ref h0_onces, .int h0_snapMany, .int h0_lowest, .int h0_highest, .int h0_agreed, .int h0_jurors, .int h0_panelled, .ref h0_inSets, .int h0_surely, .int h0_asked, .ref h0_frees, .int h0_struck, .int h0_beating, .ref h0_text, .int h0_texts, .int h0_seed, .ref h0_line, .ref h0_written, .int h0_lineMany, .int h0_hasWritten, .ref h0_node, .int h0_nodes, .int h0_onesMany, .int h0_within, .int h0_top])), (aI ca h0_tape 940 F_h0_tape)] H := hP
    have hD : va_D A [(h0, .inr (11, [.int h0_thrown, .ref h0_tape, .int h0_taped, .int h0_size, .int h0_limit, .int y179_2, .int y179_3, .int y179_1, .int h0_number, .int y179_0, .int h0_fault, .int h0_place, .long h0_word, .int h0_told, .ref h0_now, .ref h0_read, .ref h0_kept, .ref h0_snaps, .ref h0_aside, .ref h0_name, .ref h0_readName, .ref h0_keptName, .ref h0_isKept, .ref h0_onces, .int h0_snapMany, .int h0_lowest, .int h0_highest, .int h0_agreed, .int h0_jurors, .int h0_panelled, .ref h0_inSets, .int h0_surely, .int h0_asked, .ref h0_frees, .int h0_struck, .int h0_beating, .ref h0_text, .int h0_texts, .int h0_seed, .ref h0_line, .ref h0_written, .int h0_lineMany, .int h0_hasWritten, .ref h0_node, .int h0_nodes, .int h0_onesMany, .int h0_within, .int h0_top])), (aI ca h0_tape 940 F_h0_tape)] := hD
    refine lv_aload_n hx hb dX12_go_187 rfl (lv_at hl 0 rfl) ?_
    refine lv_dup hx hb dX12_go_188 rfl ?_
    refine va_get (D := D) (ci := 11) (v := .int y179_2) (C := RX12) (T := TX12) (N := 48) hx hb hts k2 hown hK.1 hP 0 rfl rfl 5 (by decide) k3 (fun _ h9 => h9) rfl dX12_go_189 ?_
    refine lv_iconst (v := 1) hx hb dX12_go_192 (by decide) ?_
    refine lv_iadd hx hb dX12_go_193 ?_
    refine lv_topi (fun x_3600 ex_3600 => ?_)
    have hY := hY.trans (lt1_e ex_3600)
    have h_3601 : rg 1 940 x_3600 := by rw [ex_3600]; exact rg_add hy179_2 (⟨by decide, by decide⟩ : rg 1 1 (1 : Int32)) (by decide) (by decide) (by decide) (by decide)
    have l_3602 : lq x_3600.toInt (y179_2.toInt + 1) := lqm (by rw [ex_3600]; have q := tadd hy179_2 (⟨by decide, by decide⟩ : rg 1 1 (1 : Int32)) (by decide) (by decide); have r1 := lqe (lqm (by decide) : lq (1 : Int32).toInt 1); omega)
    refine va_put (D := D) (ci := 11) (v := .int x_3600) (ty := .int) (C := RX12) (T := TX12) (N := 48) hx hb hts k2 tyX12 tyX12_ok nmX12 hown hK.1 hP hD hS 0 rfl rfl 5 (by decide) k3 (fun _ h9 => h9) rfl (by decide +kernel) rfl rfl (Nat.le_of_ble_eq_true rfl) dX12_go_194 (fun H locs hP hD hS => ?_)
    have hP : va_P D vwCl [(h0, .inr (11, [.int h0_thrown, .ref h0_tape, .int h0_taped, .int h0_size, .int h0_limit, .int x_3600, .int y179_3, .int y179_1, .int h0_number, .int y179_0, .int h0_fault, .int h0_place, .long h0_word, .int h0_told, .ref h0_now, .ref h0_read, .ref h0_kept, .ref h0_snaps, .ref h0_aside, .ref h0_name, .ref h0_readName, .ref h0_keptName, .ref h0_isKept, .ref h0_onces, .int h0_snapMany, .int h0_lowest, .int h0_highest, .int h0_agreed, .int h0_jurors, .int h0_panelled, .ref h0_inSets, .int h0_surely, .int h0_asked, .ref h0_frees, .int h0_struck, .int h0_beating, .ref h0_text, .int h0_texts, .int h0_seed, .ref h0_line, .ref h0_written, .int h0_lineMany, .int h0_hasWritten, .ref h0_node, .int h0_nodes, .int h0_onesMany, .int h0_within, .int h0_top])), (aI ca h0_tape 940 F_h0_tape)] H := hP
    have hD : va_D A [(h0, .inr (11, [.int h0_thrown, .ref h0_tape, .int h0_taped, .int h0_size, .int h0_limit, .int x_3600, .int y179_3, .int y179_1, .int h0_number, .int y179_0, .int h0_fault, .int h0_place, .long h0_word, .int h0_told, .ref h0_now, .ref h0_read, .ref h0_kept, .ref h0_snaps, .ref h0_aside, .ref h0_name, .ref h0_readName, .ref h0_keptName, .ref h0_isKept, .ref h0_onces, .int h0_snapMany, .int h0_lowest, .int h0_highest, .int h0_agreed, .int h0_jurors, .int h0_panelled, .ref h0_inSets, .int h0_surely, .int h0_asked, .ref h0_frees, .int h0_struck, .int h0_beating, .ref h0_text, .int h0_texts, .int h0_seed, .ref h0_line, .ref h0_written, .int h0_lineMany, .int h0_hasWritten, .ref h0_node, .int h0_nodes, .int h0_onesMany, .int h0_within, .int h0_top])), (aI ca h0_tape 940 F_h0_tape)] := hD
    exact oE_v hx hb hr hlocks hP hD hS (x_3600, y179_3, y179_1, h0_number, y179_0, h0_word) [0, 1] rfl (by decide) ⟨(rgw (lo := 0) (hi := 940) h_3601 (by decide) (by decide)), (rgw (lo := (-2147483648)) (hi := 940) hy179_3 (by decide) (by decide)), (rgw (lo := 0) (hi := 4) hy179_1 (by decide) (by decide)), (show rl 0 h0_to x_3600 from rlm (by have q0 := lqe l_3602; have q1 := rle py179_2_h0_to; omega)), (show lk h0_to y179_1 x_3600 from lkm (by have z0 := (hy179_1).2; have q0 := lqe l_3602; have q1 := rle py179_2_h0_to; omega)), hY.symm⟩ (Nat.le_of_ble_eq_true rfl) (Nat.le_of_ble_eq_true rfl) dX12_go_197
  have J174_3603 : ∀ (y174_0 : Int32) (y174_1 : Int32) (y174_2 : Int32), rg 40 62 y174_0 → rg 0 939 y174_1 → rl 0 h0_to y174_1 → rl 1 y174_1 h0_size → rg 0 940 y174_2 → rl 0 h0_to y174_2 → rg 0 2147483647 h0_limit → rg 1 940 h0_size → y_X12_go h0_size h0_limit h0_to h0_number h0_sign h0_word F_h0_tape = y_X12_go_174 h0_number h0_word y174_0 y174_1 y174_2 → ∀ (H : Heap) (locs : List Loc) (ls : Array Slot), va_P D vwCl [(h0, .inr (11, [.int h0_thrown, .ref h0_tape, .int h0_taped, .int h0_size, .int h0_limit, .int y174_1, .int y174_2, .int h0_kind, .int h0_number, .int h0_sign, .int h0_fault, .int h0_place, .long h0_word, .int h0_told, .ref h0_now, .ref h0_read, .ref h0_kept, .ref h0_snaps, .ref h0_aside, .ref h0_name, .ref h0_readName, .ref h0_keptName, .ref h0_isKept, .ref h0_onces, .int h0_snapMany, .int h0_lowest, .int h0_highest, .int h0_agreed, .int h0_jurors, .int h0_panelled, .ref h0_inSets, .int h0_surely, .int h0_asked, .ref h0_frees, .int h0_struck, .int h0_beating, .ref h0_text, .int h0_texts, .int h0_seed, .ref h0_line, .ref h0_written, .int h0_lineMany, .int h0_hasWritten, .ref h0_node, .int h0_nodes, .int h0_onesMany, .int h0_within, .int h0_top])), (aI ca h0_tape 940 F_h0_tape)] H → va_D A [(h0, .inr (11, [.int h0_thrown, .ref h0_tape, .int h0_taped, .int h0_size, .int h0_limit, .int y174_1, .int y174_2, .int h0_kind, .int h0_number, .int h0_sign, .int h0_fault, .int h0_place, .long h0_word, .int h0_told, .ref h0_now, .ref h0_read, .ref h0_kept, .ref h0_snaps, .ref h0_aside, .ref h0_name, .ref h0_readName, .ref h0_keptName, .ref h0_isKept, .ref h0_onces, .int h0_snapMany, .int h0_lowest, .int h0_highest, .int h0_agreed, .int h0_jurors, .int h0_panelled, .ref h0_inSets, .int h0_surely, .int h0_asked, .ref h0_frees, .int h0_struck, .int h0_beating, .ref h0_text, .int h0_texts, .int h0_seed, .ref h0_line, .ref h0_written, .int h0_lineMany, .int h0_hasWritten, .ref h0_node, .int h0_nodes, .int h0_onesMany, .int h0_within, .int h0_top])), (aI ca h0_tape 940 F_h0_tape)] → va_S A s.heap H locs → lv_has ls 5 [(0, .ref h0), (1, .int y174_0)] → W p l e ({ frames := 1, cells := 0, slots := 0, locals := 21 } : Room) s m ([.ref h0] : List Value).toArray below meth c H locs 0 0 (MQ below ((oQv D (fun (u : Int32 × Int32 × Int32 × Int32 × Int32 × Int64) => (rg 0 940 u.1) ∧ (rg (-2147483648) 940 u.2.1) ∧ (rg 0 4 u.2.2.1) ∧ (rl 0 h0_to u.1) ∧ (lk h0_to u.2.2.1 u.1) ∧ ((u.1, u.2.1, u.2.2.1, u.2.2.2.1, u.2.2.2.2.1, u.2.2.2.2.2) = y_X12_go h0_size h0_limit h0_to h0_number h0_sign h0_word F_h0_tape)) (fun (u : Int32 × Int32 × Int32 × Int32 × Int32 × Int64) => [(h0, .inr (11, [.int h0_thrown, .ref h0_tape, .int h0_taped, .int h0_size, .int h0_limit, .int u.1, .int u.2.1, .int u.2.2.1, .int u.2.2.2.1, .int u.2.2.2.2.1, .int h0_fault, .int h0_place, .long u.2.2.2.2.2, .int h0_told, .ref h0_now, .ref h0_read, .ref h0_kept, .ref h0_snaps, .ref h0_aside, .ref h0_name, .ref h0_readName, .ref h0_keptName, .ref h0_isKept, .ref h0_onces, .int h0_snapMany, .int h0_lowest, .int h0_highest, .int h0_agreed, .int h0_jurors, .int h0_panelled, .ref h0_inSets, .int h0_surely, .int h0_asked, .ref h0_frees, .int h0_struck, .int h0_beating, .ref h0_text, .int h0_texts, .int h0_seed, .ref h0_line, .ref h0_written, .int h0_lineMany, .int h0_hasWritten, .ref h0_node, .int h0_nodes, .int h0_onesMany, .int h0_within, .int h0_top])), (aI ca h0_tape 940 F_h0_tape)])) A) ([.ref h0] : List Value).toArray s 0 0 A) (F0 m 174 ls [.ref h0]) := by
    intro y174_0 y174_1 y174_2 hy174_0 hy174_1 py174_1_h0_to qy174_1_h0_size hy174_2 py174_2_h0_to t174_h0_limit t174_h0_size hY H locs ls hP hD hS hl
    have hY := hY.trans (y_X12_go_174_s h0_number h0_word y174_0 y174_1 y174_2)
    refine lv_iconst (v := 4) hx hb dX12_go_174 (by decide) ?_
    refine lv_goto (tgt := 179) hx hb dX12_go_175 (by decide) ?_
    exact J179_3599 y174_0 4 y174_1 y174_2 (rgw (lo := 0) (hi := 255) hy174_0 (by decide) (by decide)) (⟨by decide, by decide⟩ : rg 1 4 (4 : Int32)) hy174_1 (rlm (by have q0 := rle py174_1_h0_to; omega)) (rlm (by have q0 := rle qy174_1_h0_size; omega)) hy174_2 (rlm (by have q0 := rle py174_2_h0_to; omega)) t174_h0_limit t174_h0_size hY H locs ls (oPsub hP [0, 1] rfl) (hD.sub [0, 1] (by decide) rfl) hS (lv_sub hl [0, 1] rfl)
  have J96_3604 : ∀ (y96_0 : Int32) (y96_1 : Int32), rg 0 940 y96_0 → rl 0 h0_to y96_0 → rg 0 940 y96_1 → rl 0 h0_to y96_1 → rg 0 2147483647 h0_limit → y_X12_go h0_size h0_limit h0_to h0_number h0_sign h0_word F_h0_tape = y_X12_go_96 h0_size h0_number h0_sign h0_word F_h0_tape y96_0 y96_1 → ∀ (H : Heap) (locs : List Loc) (ls : Array Slot), va_P D vwCl [(h0, .inr (11, [.int h0_thrown, .ref h0_tape, .int h0_taped, .int h0_size, .int h0_limit, .int y96_0, .int y96_1, .int h0_kind, .int h0_number, .int h0_sign, .int h0_fault, .int h0_place, .long h0_word, .int h0_told, .ref h0_now, .ref h0_read, .ref h0_kept, .ref h0_snaps, .ref h0_aside, .ref h0_name, .ref h0_readName, .ref h0_keptName, .ref h0_isKept, .ref h0_onces, .int h0_snapMany, .int h0_lowest, .int h0_highest, .int h0_agreed, .int h0_jurors, .int h0_panelled, .ref h0_inSets, .int h0_surely, .int h0_asked, .ref h0_frees, .int h0_struck, .int h0_beating, .ref h0_text, .int h0_texts, .int h0_seed, .ref h0_line, .ref h0_written, .int h0_lineMany, .int h0_hasWritten, .ref h0_node, .int h0_nodes, .int h0_onesMany, .int h0_within, .int h0_top])), (aI ca h0_tape 940 F_h0_tape)] H → va_D A [(h0, .inr (11, [.int h0_thrown, .ref h0_tape, .int h0_taped, .int h0_size, .int h0_limit, .int y96_0, .int y96_1, .int h0_kind, .int h0_number, .int h0_sign, .int h0_fault, .int h0_place, .long h0_word, .int h0_told, .ref h0_now, .ref h0_read, .ref h0_kept, .ref h0_snaps, .ref h0_aside, .ref h0_name, .ref h0_readName, .ref h0_keptName, .ref h0_isKept, .ref h0_onces, .int h0_snapMany, .int h0_lowest, .int h0_highest, .int h0_agreed, .int h0_jurors, .int h0_panelled, .ref h0_inSets, .int h0_surely, .int h0_asked, .ref h0_frees, .int h0_struck, .int h0_beating, .ref h0_text, .int h0_texts, .int h0_seed, .ref h0_line, .ref h0_written, .int h0_lineMany, .int h0_hasWritten, .ref h0_node, .int h0_nodes, .int h0_onesMany, .int h0_within, .int h0_top])), (aI ca h0_tape 940 F_h0_tape)] → va_S A s.heap H locs → lv_has ls 5 [(0, .ref h0)] → W p l e ({ frames := 1, cells := 0, slots := 0, locals := 21 } : Room) s m ([.ref h0] : List Value).toArray below meth c H locs 0 0 (MQ below ((oQv D (fun (u : Int32 × Int32 × Int32 × Int32 × Int32 × Int64) => (rg 0 940 u.1) ∧ (rg (-2147483648) 940 u.2.1) ∧ (rg 0 4 u.2.2.1) ∧ (rl 0 h0_to u.1) ∧ (lk h0_to u.2.2.1 u.1) ∧ ((u.1, u.2.1, u.2.2.1, u.2.2.2.1, u.2.2.2.2.1, u.2.2.2.2.2) = y_X12_go h0_size h0_limit h0_to h0_number h0_sign h0_word F_h0_tape)) (fun (u : Int32 × Int32 × Int32 × Int32 × Int32 × Int64) => [(h0, .inr (11, [.int h0_thrown, .ref h0_tape, .int h0_taped, .int h0_size, .int h0_limit, .int u.1, .int u.2.1, .int u.2.2.1, .int u.2.2.2.1, .int u.2.2.2.2.1, .int h0_fault, .int h0_place, .long u.2.2.2.2.2, .int h0_told, .ref h0_now, .ref h0_read, .ref h0_kept, .ref h0_snaps, .ref h0_aside, .ref h0_name, .ref h0_readName, .ref h0_keptName, .ref h0_isKept, .ref h0_onces, .int h0_snapMany, .int h0_lowest, .int h0_highest, .int h0_agreed, .int h0_jurors, .int h0_panelled, .ref h0_inSets, .int h0_surely, .int h0_asked, .ref h0_frees, .int h0_struck, .int h0_beating, .ref h0_text, .int h0_texts, .int h0_seed, .ref h0_line, .ref h0_written, .int h0_lineMany, .int h0_hasWritten, .ref h0_node, .int h0_nodes, .int h0_onesMany, .int h0_within, .int h0_top])), (aI ca h0_tape 940 F_h0_tape)])) A) ([.ref h0] : List Value).toArray s 0 0 A) (F0 m 96 ls []) := by
    intro y96_0 y96_1 hy96_0 py96_0_h0_to hy96_1 py96_1_h0_to t96_h0_limit hY H locs ls hP hD hS hl
    have hY := hY.trans (y_X12_go_96_s h0_size h0_number h0_sign h0_word F_h0_tape y96_0 y96_1)
    refine lv_aload_n hx hb dX12_go_96 rfl (lv_at hl 0 rfl) ?_
    refine va_get (D := D) (ci := 11) (v := .int y96_0) (C := RX12) (T := TX12) (N := 48) hx hb hts k2 hown hK.1 hP 0 rfl rfl 5 (by decide) k3 (fun _ h9 => h9) rfl dX12_go_97 ?_
    refine lv_aload_n hx hb dX12_go_100 rfl (lv_at hl 0 rfl) ?_
    refine va_get (D := D) (ci := 11) (v := .int h0_size) (C := RX12) (T := TX12) (N := 48) hx hb hts k2 hown hK.1 hP 0 rfl rfl 3 (by decide) k11 (fun _ h9 => h9) rfl dX12_go_101 ?_
    refine lv_icmp_lt (tgt := 113) hx hb dX12_go_104 (by decide) (fun c_3605 => ?_) (fun c_3605 => ?_)
    · skip
      have hY := hY.trans (if_pos c_3605)
      have o_3606 : rl 1 y96_0 h0_size := rl_lt c_3605
      have h_3607 : rg 0 939 y96_0 := rl_x o_3606 hy96_0 i_h0_size (by decide) (by decide)
      have h_3608 : rg 1 940 h0_size := rl_y o_3606 hy96_0 i_h0_size (by decide) (by decide)
      refine lv_aload_n hx hb dX12_go_113 rfl (lv_at hl 0 rfl) ?_
      refine va_get (D := D) (ci := 11) (v := .ref h0_tape) (C := RX12) (T := TX12) (N := 48) hx hb hts k2 hown hK.1 hP 0 rfl rfl 1 (by decide) k5 (fun _ h9 => h9) rfl dX12_go_114 ?_
      refine lv_aload_n hx hb dX12_go_117 rfl (lv_at hl 0 rfl) ?_
      refine va_get (D := D) (ci := 11) (v := .int y96_0) (C := RX12) (T := TX12) (N := 48) hx hb hts k2 hown hK.1 hP 0 rfl rfl 5 (by decide) k3 (fun _ h9 => h9) rfl dX12_go_118 ?_
      refine va_iald hx hb hK.1 hP 1 0 rfl rfl (rg_in h_3607 (by decide) (by decide)) dX12_go_121 ?_
      refine lv_topi (fun x_3609 ex_3609 => ?_)
      have hY := hY.trans (lt1_e ex_3609)
      have h_3610 : rg 0 255 x_3609 := by rw [ex_3609]; exact sg_at (sg_w (a' := 0) (b' := 940) (lo' := 0) (hi' := 255) s_h0_tape_0 (by decide) (by decide) (by decide) (by decide)) h_3607 (by decide) (by decide) (by decide)
      refine lv_istore_n (lv' := [(1, .int x_3609), (0, .ref h0)]) hx hb dX12_go_122 rfl hl (by decide) rfl (fun ls hl => ?_)
      refine lv_iload_n hx hb dX12_go_123 rfl (lv_at hl 0 rfl) ?_
      refine oC_i (Wc := []) (Wr := [(h0, .inr (11, [.int h0_thrown, .ref h0_tape, .int h0_taped, .int h0_size, .int h0_limit, .int y96_0, .int y96_1, .int h0_kind, .int h0_number, .int h0_sign, .int h0_fault, .int h0_place, .long h0_word, .int h0_told, .ref h0_now, .ref h0_read, .ref h0_kept, .ref h0_snaps, .ref h0_aside, .ref h0_name, .ref h0_readName, .ref h0_keptName, .ref h0_isKept, .ref h0_onces, .int h0_snapMany, .int h0_lowest, .int h0_highest, .int h0_agreed, .int h0_jurors, .int h0_panelled, .ref h0_inSets, .int h0_surely, .int h0_asked, .ref h0_frees, .int h0_struck, .int h0_beating, .ref h0_text, .int h0_texts, .int h0_seed, .ref h0_line, .ref h0_written, .int h0_lineMany, .int h0_hasWritten, .ref h0_node, .int h0_nodes, .int h0_onesMany, .int h0_within, .int h0_top])), (aI ca h0_tape 940 F_h0_tape)]) (va_runS (As := [.int x_3609]) (rest := []) ⟨hx, hb, hml, hown, hts⟩ (e_X12_isLetter l D ca H.size x_3609) (va_cwS 1 hts gX12_go_X12_isLetter rfl rfl rfl (by decide +kernel) ⟨Nat.le_of_ble_eq_true rfl, Nat.le_of_ble_eq_true rfl⟩) (oPS hK hP hD [] rfl (by decide)) rfl rfl hl.1 rfl (lv_room (Nat.le_of_ble_eq_true rfl)) dX12_go_124 ⟨Nat.le_of_ble_eq_true rfl, Nat.le_of_ble_eq_true rfl⟩) hP hD hS hA [] [0, 1] rfl rfl (by decide) (by decide) (fun r_3611 u H locs w_3612 hP hD hS => ?_)
      obtain ⟨⟩ := u
      have hP : va_P D vwCl [(h0, .inr (11, [.int h0_thrown, .ref h0_tape, .int h0_taped, .int h0_size, .int h0_limit, .int y96_0, .int y96_1, .int h0_kind, .int h0_number, .int h0_sign, .int h0_fault, .int h0_place, .long h0_word, .int h0_told, .ref h0_now, .ref h0_read, .ref h0_kept, .ref h0_snaps, .ref h0_aside, .ref h0_name, .ref h0_readName, .ref h0_keptName, .ref h0_isKept, .ref h0_onces, .int h0_snapMany, .int h0_lowest, .int h0_highest, .int h0_agreed, .int h0_jurors, .int h0_panelled, .ref h0_inSets, .int h0_surely, .int h0_asked, .ref h0_frees, .int h0_struck, .int h0_beating, .ref h0_text, .int h0_texts, .int h0_seed, .ref h0_line, .ref h0_written, .int h0_lineMany, .int h0_hasWritten, .ref h0_node, .int h0_nodes, .int h0_onesMany, .int h0_within, .int h0_top])), (aI ca h0_tape 940 F_h0_tape)] H := hP
      have hD : va_D A [(h0, .inr (11, [.int h0_thrown, .ref h0_tape, .int h0_taped, .int h0_size, .int h0_limit, .int y96_0, .int y96_1, .int h0_kind, .int h0_number, .int h0_sign, .int h0_fault, .int h0_place, .long h0_word, .int h0_told, .ref h0_now, .ref h0_read, .ref h0_kept, .ref h0_snaps, .ref h0_aside, .ref h0_name, .ref h0_readName, .ref h0_keptName, .ref h0_isKept, .ref h0_onces, .int h0_snapMany, .int h0_lowest, .int h0_highest, .int h0_agreed, .int h0_jurors, .int h0_panelled, .ref h0_inSets, .int h0_surely, .int h0_asked, .ref h0_frees, .int h0_struck, .int h0_beating, .ref h0_text, .int h0_texts, .int h0_seed, .ref h0_line, .ref h0_written, .int h0_lineMany, .int h0_hasWritten, .ref h0_node, .int h0_nodes, .int h0_onesMany, .int h0_within, .int h0_top])), (aI ca h0_tape 940 F_h0_tape)] := hD
      try dsimp only at w_3612
      rcases w_3612 with ⟨h_3613, h_3614, h_3615, h_3616⟩ | ⟨h_3617, h_3618, h_3619, h_3620, h_3621⟩ | ⟨h_3622, h_3623, h_3624, h_3625, h_3626⟩
      · skip
        subst h_3613
        have h_3627 : rg 0 96 x_3609 := rg_i h_3614 h_3610 (by decide) (by decide)
        have hY := hY.trans (lt1_e h_3616)
        have hY := hY.trans (if_pos h_3615)
        refine lv_if_ne (tgt := 198) hx hb dX12_go_127 (by decide) (fun c => absurd (by decide) c) (fun _ => ?_)
        refine lv_iload_n hx hb dX12_go_130 rfl (lv_at hl 0 rfl) ?_
        refine oC_i (Wc := []) (Wr := [(h0, .inr (11, [.int h0_thrown, .ref h0_tape, .int h0_taped, .int h0_size, .int h0_limit, .int y96_0, .int y96_1, .int h0_kind, .int h0_number, .int h0_sign, .int h0_fault, .int h0_place, .long h0_word, .int h0_told, .ref h0_now, .ref h0_read, .ref h0_kept, .ref h0_snaps, .ref h0_aside, .ref h0_name, .ref h0_readName, .ref h0_keptName, .ref h0_isKept, .ref h0_onces, .int h0_snapMany, .int h0_lowest, .int h0_highest, .int h0_agreed, .int h0_jurors, .int h0_panelled, .ref h0_inSets, .int h0_surely, .int h0_asked, .ref h0_frees, .int h0_struck, .int h0_beating, .ref h0_text, .int h0_texts, .int h0_seed, .ref h0_line, .ref h0_written, .int h0_lineMany, .int h0_hasWritten, .ref h0_node, .int h0_nodes, .int h0_onesMany, .int h0_within, .int h0_top])), (aI ca h0_tape 940 F_h0_tape)]) (va_runS (As := [.int x_3609]) (rest := []) ⟨hx, hb, hml, hown, hts⟩ (e_X12_isDigit l D ca H.size x_3609) (va_cwS 1 hts gX12_go_X12_isDigit rfl rfl rfl (by decide +kernel) ⟨Nat.le_of_ble_eq_true rfl, Nat.le_of_ble_eq_true rfl⟩) (oPS hK hP hD [] rfl (by decide)) rfl rfl hl.1 rfl (lv_room (Nat.le_of_ble_eq_true rfl)) dX12_go_131 ⟨Nat.le_of_ble_eq_true rfl, Nat.le_of_ble_eq_true rfl⟩) hP hD hS hA [] [0, 1] rfl rfl (by decide) (by decide) (fun r_3628 u H locs w_3629 hP hD hS => ?_)
        obtain ⟨⟩ := u
        have hP : va_P D vwCl [(h0, .inr (11, [.int h0_thrown, .ref h0_tape, .int h0_taped, .int h0_size, .int h0_limit, .int y96_0, .int y96_1, .int h0_kind, .int h0_number, .int h0_sign, .int h0_fault, .int h0_place, .long h0_word, .int h0_told, .ref h0_now, .ref h0_read, .ref h0_kept, .ref h0_snaps, .ref h0_aside, .ref h0_name, .ref h0_readName, .ref h0_keptName, .ref h0_isKept, .ref h0_onces, .int h0_snapMany, .int h0_lowest, .int h0_highest, .int h0_agreed, .int h0_jurors, .int h0_panelled, .ref h0_inSets, .int h0_surely, .int h0_asked, .ref h0_frees, .int h0_struck, .int h0_beating, .ref h0_text, .int h0_texts, .int h0_seed, .ref h0_line, .ref h0_written, .int h0_lineMany, .int h0_hasWritten, .ref h0_node, .int h0_nodes, .int h0_onesMany, .int h0_within, .int h0_top])), (aI ca h0_tape 940 F_h0_tape)] H := hP
        have hD : va_D A [(h0, .inr (11, [.int h0_thrown, .ref h0_tape, .int h0_taped, .int h0_size, .int h0_limit, .int y96_0, .int y96_1, .int h0_kind, .int h0_number, .int h0_sign, .int h0_fault, .int h0_place, .long h0_word, .int h0_told, .ref h0_now, .ref h0_read, .ref h0_kept, .ref h0_snaps, .ref h0_aside, .ref h0_name, .ref h0_readName, .ref h0_keptName, .ref h0_isKept, .ref h0_onces, .int h0_snapMany, .int h0_lowest, .int h0_highest, .int h0_agreed, .int h0_jurors, .int h0_panelled, .ref h0_inSets, .int h0_surely, .int h0_asked, .ref h0_frees, .int h0_struck, .int h0_beating, .ref h0_text, .int h0_texts, .int h0_seed, .ref h0_line, .ref h0_written, .int h0_lineMany, .int h0_hasWritten, .ref h0_node, .int h0_nodes, .int h0_onesMany, .int h0_within, .int h0_top])), (aI ca h0_tape 940 F_h0_tape)] := hD
        try dsimp only at w_3629
        rcases w_3629 with ⟨h_3630, h_3631, h_3632, h_3633⟩ | ⟨h_3634, h_3635, h_3636, h_3637, h_3638⟩ | ⟨h_3639, h_3640, h_3641, h_3642, h_3643⟩
        · skip
          subst h_3630
          have h_3644 : rg 0 47 x_3609 := rg_i h_3631 h_3627 (by decide) (by decide)
          have hY := hY.trans (lt1_e h_3633)
          have hY := hY.trans (if_pos h_3632)
          refine lv_if_ne (tgt := 198) hx hb dX12_go_134 (by decide) (fun c => absurd (by decide) c) (fun _ => ?_)
          refine lv_aload_n hx hb dX12_go_137 rfl (lv_at hl 1 rfl) ?_
          refine lv_iload_n hx hb dX12_go_138 rfl (lv_at hl 0 rfl) ?_
          refine lv_bipush (v := 59) hx hb dX12_go_139 (by decide) ?_
          refine lv_icmp_eq (tgt := 174) hx hb dX12_go_141 (by decide) (fun c => absurd c (no_eq h_3644 (⟨by decide, by decide⟩ : rg 59 59 (59 : Int32)) (by decide))) (fun _ => ?_)
          refine lv_iload_n hx hb dX12_go_144 rfl (lv_at hl 0 rfl) ?_
          refine lv_bipush (v := 60) hx hb dX12_go_145 (by decide) ?_
          refine lv_icmp_eq (tgt := 174) hx hb dX12_go_147 (by decide) (fun c => absurd c (no_eq h_3644 (⟨by decide, by decide⟩ : rg 60 60 (60 : Int32)) (by decide))) (fun _ => ?_)
          refine lv_iload_n hx hb dX12_go_150 rfl (lv_at hl 0 rfl) ?_
          refine lv_bipush (v := 61) hx hb dX12_go_151 (by decide) ?_
          refine lv_icmp_eq (tgt := 174) hx hb dX12_go_153 (by decide) (fun c => absurd c (no_eq h_3644 (⟨by decide, by decide⟩ : rg 61 61 (61 : Int32)) (by decide))) (fun _ => ?_)
          refine lv_iload_n hx hb dX12_go_156 rfl (lv_at hl 0 rfl) ?_
          refine lv_bipush (v := 62) hx hb dX12_go_157 (by decide) ?_
          refine lv_icmp_eq (tgt := 174) hx hb dX12_go_159 (by decide) (fun c => absurd c (no_eq h_3644 (⟨by decide, by decide⟩ : rg 62 62 (62 : Int32)) (by decide))) (fun _ => ?_)
          refine lv_iload_n hx hb dX12_go_162 rfl (lv_at hl 0 rfl) ?_
          refine lv_bipush (v := 40) hx hb dX12_go_163 (by decide) ?_
          refine lv_icmp_eq (tgt := 174) hx hb dX12_go_165 (by decide) (fun c_3645 => ?_) (fun c_3645 => ?_)
          · skip
            have hY := hY.trans (if_pos c_3645)
            have o_3646 : rl 0 x_3609 40 := rl_eq c_3645
            have h_3647 : rg 0 40 x_3609 := rl_x o_3646 h_3644 (⟨by decide, by decide⟩ : rg 40 40 (40 : Int32)) (by decide) (by decide)
            have o_3648 : rl 0 40 x_3609 := rl_eq c_3645.symm
            have h_3649 : rg 40 40 x_3609 := rl_y o_3648 (⟨by decide, by decide⟩ : rg 40 40 (40 : Int32)) h_3647 (by decide) (by decide)
            exact J174_3603 x_3609 y96_0 y96_1 (rgw (lo := 40) (hi := 62) h_3649 (by decide) (by decide)) h_3607 (rlm (by have q0 := rle py96_0_h0_to; omega)) (rlm (by have q0 := rle o_3606; omega)) hy96_1 (rlm (by have q0 := rle py96_1_h0_to; omega)) t96_h0_limit h_3608 hY H locs ls (oPsub hP [0, 1] rfl) (hD.sub [0, 1] (by decide) rfl) hS (lv_sub hl [1, 0] rfl)
          · skip
            have hY := hY.trans (if_neg c_3645)
            refine lv_iload_n hx hb dX12_go_168 rfl (lv_at hl 0 rfl) ?_
            refine lv_bipush (v := 41) hx hb dX12_go_169 (by decide) ?_
            refine lv_icmp_ne (tgt := 178) hx hb dX12_go_171 (by decide) (fun c_3650 => ?_) (fun c_3650 => ?_)
            · skip
              have hY := hY.trans (if_neg c_3650)
              refine lv_iconst (v := 1) hx hb dX12_go_178 (by decide) ?_
              exact J179_3599 x_3609 1 y96_0 y96_1 (rgw (lo := 0) (hi := 255) h_3644 (by decide) (by decide)) (⟨by decide, by decide⟩ : rg 1 4 (1 : Int32)) h_3607 (rlm (by have q0 := rle py96_0_h0_to; omega)) (rlm (by have q0 := rle o_3606; omega)) hy96_1 (rlm (by have q0 := rle py96_1_h0_to; omega)) t96_h0_limit h_3608 hY H locs ls (oPsub hP [0, 1] rfl) (hD.sub [0, 1] (by decide) rfl) hS (lv_sub hl [1, 0] rfl)
            · skip
              have hY := hY.trans (if_pos c_3650)
              have o_3651 : rl 0 x_3609 41 := rl_eq c_3650
              have h_3652 : rg 0 41 x_3609 := rl_x o_3651 h_3644 (⟨by decide, by decide⟩ : rg 41 41 (41 : Int32)) (by decide) (by decide)
              have o_3653 : rl 0 41 x_3609 := rl_eq c_3650.symm
              have h_3654 : rg 41 41 x_3609 := rl_y o_3653 (⟨by decide, by decide⟩ : rg 41 41 (41 : Int32)) h_3652 (by decide) (by decide)
              exact J174_3603 x_3609 y96_0 y96_1 (rgw (lo := 40) (hi := 62) h_3654 (by decide) (by decide)) h_3607 (rlm (by have q0 := rle py96_0_h0_to; omega)) (rlm (by have q0 := rle o_3606; omega)) hy96_1 (rlm (by have q0 := rle py96_1_h0_to; omega)) t96_h0_limit h_3608 hY H locs ls (oPsub hP [0, 1] rfl) (hD.sub [0, 1] (by decide) rfl) hS (lv_sub hl [1, 0] rfl)
        · skip
          subst h_3634
          have h_3655 : rg 58 96 x_3609 := rg_i h_3635 h_3627 (by decide) (by decide)
          have hY := hY.trans (lt1_e h_3638)
          have hY := hY.trans (if_neg h_3636)
          have hY := hY.trans (if_pos h_3637)
          refine lv_if_ne (tgt := 198) hx hb dX12_go_134 (by decide) (fun c => absurd (by decide) c) (fun _ => ?_)
          refine lv_aload_n hx hb dX12_go_137 rfl (lv_at hl 1 rfl) ?_
          refine lv_iload_n hx hb dX12_go_138 rfl (lv_at hl 0 rfl) ?_
          refine lv_bipush (v := 59) hx hb dX12_go_139 (by decide) ?_
          refine lv_icmp_eq (tgt := 174) hx hb dX12_go_141 (by decide) (fun c_3656 => ?_) (fun c_3656 => ?_)
          · skip
            have hY := hY.trans (if_pos c_3656)
            have o_3657 : rl 0 x_3609 59 := rl_eq c_3656
            have h_3658 : rg 58 59 x_3609 := rl_x o_3657 h_3655 (⟨by decide, by decide⟩ : rg 59 59 (59 : Int32)) (by decide) (by decide)
            have o_3659 : rl 0 59 x_3609 := rl_eq c_3656.symm
            have h_3660 : rg 59 59 x_3609 := rl_y o_3659 (⟨by decide, by decide⟩ : rg 59 59 (59 : Int32)) h_3658 (by decide) (by decide)
            exact J174_3603 x_3609 y96_0 y96_1 (rgw (lo := 40) (hi := 62) h_3660 (by decide) (by decide)) h_3607 (rlm (by have q0 := rle py96_0_h0_to; omega)) (rlm (by have q0 := rle o_3606; omega)) hy96_1 (rlm (by have q0 := rle py96_1_h0_to; omega)) t96_h0_limit h_3608 hY H locs ls (oPsub hP [0, 1] rfl) (hD.sub [0, 1] (by decide) rfl) hS (lv_sub hl [1, 0] rfl)
          · skip
            have hY := hY.trans (if_neg c_3656)
            refine lv_iload_n hx hb dX12_go_144 rfl (lv_at hl 0 rfl) ?_
            refine lv_bipush (v := 60) hx hb dX12_go_145 (by decide) ?_
            refine lv_icmp_eq (tgt := 174) hx hb dX12_go_147 (by decide) (fun c_3661 => ?_) (fun c_3661 => ?_)
            · skip
              have hY := hY.trans (if_pos c_3661)
              have o_3662 : rl 0 x_3609 60 := rl_eq c_3661
              have h_3663 : rg 58 60 x_3609 := rl_x o_3662 h_3655 (⟨by decide, by decide⟩ : rg 60 60 (60 : Int32)) (by decide) (by decide)
              have o_3664 : rl 0 60 x_3609 := rl_eq c_3661.symm
              have h_3665 : rg 60 60 x_3609 := rl_y o_3664 (⟨by decide, by decide⟩ : rg 60 60 (60 : Int32)) h_3663 (by decide) (by decide)
              exact J174_3603 x_3609 y96_0 y96_1 (rgw (lo := 40) (hi := 62) h_3665 (by decide) (by decide)) h_3607 (rlm (by have q0 := rle py96_0_h0_to; omega)) (rlm (by have q0 := rle o_3606; omega)) hy96_1 (rlm (by have q0 := rle py96_1_h0_to; omega)) t96_h0_limit h_3608 hY H locs ls (oPsub hP [0, 1] rfl) (hD.sub [0, 1] (by decide) rfl) hS (lv_sub hl [1, 0] rfl)
            · skip
              have hY := hY.trans (if_neg c_3661)
              refine lv_iload_n hx hb dX12_go_150 rfl (lv_at hl 0 rfl) ?_
              refine lv_bipush (v := 61) hx hb dX12_go_151 (by decide) ?_
              refine lv_icmp_eq (tgt := 174) hx hb dX12_go_153 (by decide) (fun c_3666 => ?_) (fun c_3666 => ?_)
              · skip
                have hY := hY.trans (if_pos c_3666)
                have o_3667 : rl 0 x_3609 61 := rl_eq c_3666
                have h_3668 : rg 58 61 x_3609 := rl_x o_3667 h_3655 (⟨by decide, by decide⟩ : rg 61 61 (61 : Int32)) (by decide) (by decide)
                have o_3669 : rl 0 61 x_3609 := rl_eq c_3666.symm
                have h_3670 : rg 61 61 x_3609 := rl_y o_3669 (⟨by decide, by decide⟩ : rg 61 61 (61 : Int32)) h_3668 (by decide) (by decide)
                exact J174_3603 x_3609 y96_0 y96_1 (rgw (lo := 40) (hi := 62) h_3670 (by decide) (by decide)) h_3607 (rlm (by have q0 := rle py96_0_h0_to; omega)) (rlm (by have q0 := rle o_3606; omega)) hy96_1 (rlm (by have q0 := rle py96_1_h0_to; omega)) t96_h0_limit h_3608 hY H locs ls (oPsub hP [0, 1] rfl) (hD.sub [0, 1] (by decide) rfl) hS (lv_sub hl [1, 0] rfl)
              · skip
                have hY := hY.trans (if_neg c_3666)
                refine lv_iload_n hx hb dX12_go_156 rfl (lv_at hl 0 rfl) ?_
                refine lv_bipush (v := 62) hx hb dX12_go_157 (by decide) ?_
                refine lv_icmp_eq (tgt := 174) hx hb dX12_go_159 (by decide) (fun c_3671 => ?_) (fun c_3671 => ?_)
                · skip
                  have hY := hY.trans (if_pos c_3671)
                  have o_3672 : rl 0 x_3609 62 := rl_eq c_3671
                  have h_3673 : rg 58 62 x_3609 := rl_x o_3672 h_3655 (⟨by decide, by decide⟩ : rg 62 62 (62 : Int32)) (by decide) (by decide)
                  have o_3674 : rl 0 62 x_3609 := rl_eq c_3671.symm
                  have h_3675 : rg 62 62 x_3609 := rl_y o_3674 (⟨by decide, by decide⟩ : rg 62 62 (62 : Int32)) h_3673 (by decide) (by decide)
                  exact J174_3603 x_3609 y96_0 y96_1 (rgw (lo := 40) (hi := 62) h_3675 (by decide) (by decide)) h_3607 (rlm (by have q0 := rle py96_0_h0_to; omega)) (rlm (by have q0 := rle o_3606; omega)) hy96_1 (rlm (by have q0 := rle py96_1_h0_to; omega)) t96_h0_limit h_3608 hY H locs ls (oPsub hP [0, 1] rfl) (hD.sub [0, 1] (by decide) rfl) hS (lv_sub hl [1, 0] rfl)
                · skip
                  have hY := hY.trans (if_neg c_3671)
                  refine lv_iload_n hx hb dX12_go_162 rfl (lv_at hl 0 rfl) ?_
                  refine lv_bipush (v := 40) hx hb dX12_go_163 (by decide) ?_
                  refine lv_icmp_eq (tgt := 174) hx hb dX12_go_165 (by decide) (fun c => absurd c (no_eq h_3655 (⟨by decide, by decide⟩ : rg 40 40 (40 : Int32)) (by decide))) (fun _ => ?_)
                  refine lv_iload_n hx hb dX12_go_168 rfl (lv_at hl 0 rfl) ?_
                  refine lv_bipush (v := 41) hx hb dX12_go_169 (by decide) ?_
                  refine lv_icmp_ne (tgt := 178) hx hb dX12_go_171 (by decide) (fun _ => ?_) (fun c => absurd c (no_eq h_3655 (⟨by decide, by decide⟩ : rg 41 41 (41 : Int32)) (by decide)))
                  refine lv_iconst (v := 1) hx hb dX12_go_178 (by decide) ?_
                  exact J179_3599 x_3609 1 y96_0 y96_1 (rgw (lo := 0) (hi := 255) h_3655 (by decide) (by decide)) (⟨by decide, by decide⟩ : rg 1 4 (1 : Int32)) h_3607 (rlm (by have q0 := rle py96_0_h0_to; omega)) (rlm (by have q0 := rle o_3606; omega)) hy96_1 (rlm (by have q0 := rle py96_1_h0_to; omega)) t96_h0_limit h_3608 hY H locs ls (oPsub hP [0, 1] rfl) (hD.sub [0, 1] (by decide) rfl) hS (lv_sub hl [1, 0] rfl)
        · skip
          subst h_3639
          have hY := hY.trans (lt1_e h_3643)
          have hY := hY.trans (if_neg h_3641)
          have hY := hY.trans (if_neg h_3642)
          refine lv_if_ne (tgt := 198) hx hb dX12_go_134 (by decide) (fun _ => ?_) (fun c => absurd c (by decide))
          refine lv_iload_n hx hb dX12_go_198 rfl (lv_at hl 0 rfl) ?_
          refine oC_i (Wc := []) (Wr := [(h0, .inr (11, [.int h0_thrown, .ref h0_tape, .int h0_taped, .int h0_size, .int h0_limit, .int y96_0, .int y96_1, .int h0_kind, .int h0_number, .int h0_sign, .int h0_fault, .int h0_place, .long h0_word, .int h0_told, .ref h0_now, .ref h0_read, .ref h0_kept, .ref h0_snaps, .ref h0_aside, .ref h0_name, .ref h0_readName, .ref h0_keptName, .ref h0_isKept, .ref h0_onces, .int h0_snapMany, .int h0_lowest, .int h0_highest, .int h0_agreed, .int h0_jurors, .int h0_panelled, .ref h0_inSets, .int h0_surely, .int h0_asked, .ref h0_frees, .int h0_struck, .int h0_beating, .ref h0_text, .int h0_texts, .int h0_seed, .ref h0_line, .ref h0_written, .int h0_lineMany, .int h0_hasWritten, .ref h0_node, .int h0_nodes, .int h0_onesMany, .int h0_within, .int h0_top])), (aI ca h0_tape 940 F_h0_tape)]) (va_runS (As := [.int x_3609]) (rest := []) ⟨hx, hb, hml, hown, hts⟩ (e_X12_isLetter l D ca H.size x_3609) (va_cwS 1 hts gX12_go_X12_isLetter rfl rfl rfl (by decide +kernel) ⟨Nat.le_of_ble_eq_true rfl, Nat.le_of_ble_eq_true rfl⟩) (oPS hK hP hD [] rfl (by decide)) rfl rfl hl.1 rfl (lv_room (Nat.le_of_ble_eq_true rfl)) dX12_go_199 ⟨Nat.le_of_ble_eq_true rfl, Nat.le_of_ble_eq_true rfl⟩) hP hD hS hA [] [0, 1] rfl rfl (by decide) (by decide) (fun r_3676 u H locs w_3677 hP hD hS => ?_)
          obtain ⟨⟩ := u
          have hP : va_P D vwCl [(h0, .inr (11, [.int h0_thrown, .ref h0_tape, .int h0_taped, .int h0_size, .int h0_limit, .int y96_0, .int y96_1, .int h0_kind, .int h0_number, .int h0_sign, .int h0_fault, .int h0_place, .long h0_word, .int h0_told, .ref h0_now, .ref h0_read, .ref h0_kept, .ref h0_snaps, .ref h0_aside, .ref h0_name, .ref h0_readName, .ref h0_keptName, .ref h0_isKept, .ref h0_onces, .int h0_snapMany, .int h0_lowest, .int h0_highest, .int h0_agreed, .int h0_jurors, .int h0_panelled, .ref h0_inSets, .int h0_surely, .int h0_asked, .ref h0_frees, .int h0_struck, .int h0_beating, .ref h0_text, .int h0_texts, .int h0_seed, .ref h0_line, .ref h0_written, .int h0_lineMany, .int h0_hasWritten, .ref h0_node, .int h0_nodes, .int h0_onesMany, .int h0_within, .int h0_top])), (aI ca h0_tape 940 F_h0_tape)] H := hP
          have hD : va_D A [(h0, .inr (11, [.int h0_thrown, .ref h0_tape, .int h0_taped, .int h0_size, .int h0_limit, .int y96_0, .int y96_1, .int h0_kind, .int h0_number, .int h0_sign, .int h0_fault, .int h0_place, .long h0_word, .int h0_told, .ref h0_now, .ref h0_read, .ref h0_kept, .ref h0_snaps, .ref h0_aside, .ref h0_name, .ref h0_readName, .ref h0_keptName, .ref h0_isKept, .ref h0_onces, .int h0_snapMany, .int h0_lowest, .int h0_highest, .int h0_agreed, .int h0_jurors, .int h0_panelled, .ref h0_inSets, .int h0_surely, .int h0_asked, .ref h0_frees, .int h0_struck, .int h0_beating, .ref h0_text, .int h0_texts, .int h0_seed, .ref h0_line, .ref h0_written, .int h0_lineMany, .int h0_hasWritten, .ref h0_node, .int h0_nodes, .int h0_onesMany, .int h0_within, .int h0_top])), (aI ca h0_tape 940 F_h0_tape)] := hD
          try dsimp only at w_3677
          rcases w_3677 with ⟨h_3678, h_3679, h_3680, h_3681⟩ | ⟨h_3682, h_3683, h_3684, h_3685, h_3686⟩ | ⟨h_3687, h_3688, h_3689, h_3690, h_3691⟩
          · skip
            subst h_3678
            have hY := hY.trans (lt1_e h_3681)
            have hY := hY.trans (if_pos h_3680)
            refine lv_istore_n (lv' := [(2, .int 0), (1, .int x_3609), (0, .ref h0)]) hx hb dX12_go_202 rfl hl (by decide) rfl (fun ls hl => ?_)
            refine lv_iconst (v := 1) hx hb dX12_go_203 (by decide) ?_
            refine lv_istore_n (lv' := [(3, .int 1), (2, .int 0), (1, .int x_3609), (0, .ref h0)]) hx hb dX12_go_204 rfl hl (by decide) rfl (fun ls hl => ?_)
            refine lv_aload_n hx hb dX12_go_205 rfl (lv_at hl 3 rfl) ?_
            refine lv_lconst (v := 0) hx hb dX12_go_206 (by decide) ?_
            refine va_put (D := D) (ci := 11) (v := .long 0) (ty := .long) (C := RX12) (T := TX12) (N := 48) hx hb hts k2 tyX12 tyX12_ok nmX12 hown hK.1 hP hD hS 0 rfl rfl 12 (by decide) k8 (fun _ h9 => h9) rfl (by decide +kernel) rfl rfl (Nat.le_of_ble_eq_true rfl) dX12_go_207 (fun H locs hP hD hS => ?_)
            have hP : va_P D vwCl [(h0, .inr (11, [.int h0_thrown, .ref h0_tape, .int h0_taped, .int h0_size, .int h0_limit, .int y96_0, .int y96_1, .int h0_kind, .int h0_number, .int h0_sign, .int h0_fault, .int h0_place, .long 0, .int h0_told, .ref h0_now, .ref h0_read, .ref h0_kept, .ref h0_snaps, .ref h0_aside, .ref h0_name, .ref h0_readName, .ref h0_keptName, .ref h0_isKept, .ref h0_onces, .int h0_snapMany, .int h0_lowest, .int h0_highest, .int h0_agreed, .int h0_jurors, .int h0_panelled, .ref h0_inSets, .int h0_surely, .int h0_asked, .ref h0_frees, .int h0_struck, .int h0_beating, .ref h0_text, .int h0_texts, .int h0_seed, .ref h0_line, .ref h0_written, .int h0_lineMany, .int h0_hasWritten, .ref h0_node, .int h0_nodes, .int h0_onesMany, .int h0_within, .int h0_top])), (aI ca h0_tape 940 F_h0_tape)] H := hP
            have hD : va_D A [(h0, .inr (11, [.int h0_thrown, .ref h0_tape, .int h0_taped, .int h0_size, .int h0_limit, .int y96_0, .int y96_1, .int h0_kind, .int h0_number, .int h0_sign, .int h0_fault, .int h0_place, .long 0, .int h0_told, .ref h0_now, .ref h0_read, .ref h0_kept, .ref h0_snaps, .ref h0_aside, .ref h0_name, .ref h0_readName, .ref h0_keptName, .ref h0_isKept, .ref h0_onces, .int h0_snapMany, .int h0_lowest, .int h0_highest, .int h0_agreed, .int h0_jurors, .int h0_panelled, .ref h0_inSets, .int h0_surely, .int h0_asked, .ref h0_frees, .int h0_struck, .int h0_beating, .ref h0_text, .int h0_texts, .int h0_seed, .ref h0_line, .ref h0_written, .int h0_lineMany, .int h0_hasWritten, .ref h0_node, .int h0_nodes, .int h0_onesMany, .int h0_within, .int h0_top])), (aI ca h0_tape 940 F_h0_tape)] := hD
            refine lv_aload_n hx hb dX12_go_210 rfl (lv_at hl 3 rfl) ?_
            refine lv_iconst (v := 0) hx hb dX12_go_211 (by decide) ?_
            refine va_put (D := D) (ci := 11) (v := .int 0) (ty := .int) (C := RX12) (T := TX12) (N := 48) hx hb hts k2 tyX12 tyX12_ok nmX12 hown hK.1 hP hD hS 0 rfl rfl 8 (by decide) k6 (fun _ h9 => h9) rfl (by decide +kernel) rfl rfl (Nat.le_of_ble_eq_true rfl) dX12_go_212 (fun H locs hP hD hS => ?_)
            have hP : va_P D vwCl [(h0, .inr (11, [.int h0_thrown, .ref h0_tape, .int h0_taped, .int h0_size, .int h0_limit, .int y96_0, .int y96_1, .int h0_kind, .int 0, .int h0_sign, .int h0_fault, .int h0_place, .long 0, .int h0_told, .ref h0_now, .ref h0_read, .ref h0_kept, .ref h0_snaps, .ref h0_aside, .ref h0_name, .ref h0_readName, .ref h0_keptName, .ref h0_isKept, .ref h0_onces, .int h0_snapMany, .int h0_lowest, .int h0_highest, .int h0_agreed, .int h0_jurors, .int h0_panelled, .ref h0_inSets, .int h0_surely, .int h0_asked, .ref h0_frees, .int h0_struck, .int h0_beating, .ref h0_text, .int h0_texts, .int h0_seed, .ref h0_line, .ref h0_written, .int h0_lineMany, .int h0_hasWritten, .ref h0_node, .int h0_nodes, .int h0_onesMany, .int h0_within, .int h0_top])), (aI ca h0_tape 940 F_h0_tape)] H := hP
            have hD : va_D A [(h0, .inr (11, [.int h0_thrown, .ref h0_tape, .int h0_taped, .int h0_size, .int h0_limit, .int y96_0, .int y96_1, .int h0_kind, .int 0, .int h0_sign, .int h0_fault, .int h0_place, .long 0, .int h0_told, .ref h0_now, .ref h0_read, .ref h0_kept, .ref h0_snaps, .ref h0_aside, .ref h0_name, .ref h0_readName, .ref h0_keptName, .ref h0_isKept, .ref h0_onces, .int h0_snapMany, .int h0_lowest, .int h0_highest, .int h0_agreed, .int h0_jurors, .int h0_panelled, .ref h0_inSets, .int h0_surely, .int h0_asked, .ref h0_frees, .int h0_struck, .int h0_beating, .ref h0_text, .int h0_texts, .int h0_seed, .ref h0_line, .ref h0_written, .int h0_lineMany, .int h0_hasWritten, .ref h0_node, .int h0_nodes, .int h0_onesMany, .int h0_within, .int h0_top])), (aI ca h0_tape 940 F_h0_tape)] := hD
            refine lv_aload_n hx hb dX12_go_215 rfl (lv_at hl 3 rfl) ?_
            refine lv_aload_n hx hb dX12_go_216 rfl (lv_at hl 3 rfl) ?_
            refine va_get (D := D) (ci := 11) (v := .int y96_0) (C := RX12) (T := TX12) (N := 48) hx hb hts k2 hown hK.1 hP 0 rfl rfl 5 (by decide) k3 (fun _ h9 => h9) rfl dX12_go_217 ?_
            refine oC_i (Wc := [(h0, .inr (11, [.int h0_thrown, .ref h0_tape, .int h0_taped, .int h0_size, .int h0_limit, .int y96_0, .int y96_1, .int h0_kind, .int 0, .int h0_sign, .int h0_fault, .int h0_place, .long 0, .int h0_told, .ref h0_now, .ref h0_read, .ref h0_kept, .ref h0_snaps, .ref h0_aside, .ref h0_name, .ref h0_readName, .ref h0_keptName, .ref h0_isKept, .ref h0_onces, .int h0_snapMany, .int h0_lowest, .int h0_highest, .int h0_agreed, .int h0_jurors, .int h0_panelled, .ref h0_inSets, .int h0_surely, .int h0_asked, .ref h0_frees, .int h0_struck, .int h0_beating, .ref h0_text, .int h0_texts, .int h0_seed, .ref h0_line, .ref h0_written, .int h0_lineMany, .int h0_hasWritten, .ref h0_node, .int h0_nodes, .int h0_onesMany, .int h0_within, .int h0_top])), (aI ca h0_tape 940 F_h0_tape)]) (Wr := []) (va_runV (As := [.int y96_0]) (rest := []) ⟨hx, hb, hml, hown, hts⟩ (e_X12_tapeAt l D ca H.size h0 y96_0 h0_thrown h0_tape h0_taped h0_size h0_limit y96_0 y96_1 h0_kind 0 h0_sign h0_fault h0_place 0 h0_told h0_now h0_read h0_kept h0_snaps h0_aside h0_name h0_readName h0_keptName h0_isKept h0_onces h0_snapMany h0_lowest h0_highest h0_agreed h0_jurors h0_panelled h0_inSets h0_surely h0_asked h0_frees h0_struck h0_beating h0_text h0_texts h0_seed h0_line h0_written h0_lineMany h0_hasWritten h0_node h0_nodes h0_onesMany h0_within h0_top F_h0_tape (rgw (lo := 0) (hi := 940) h_3607 (by decide) (by decide)) i_h0_taped (rgw (lo := 0) (hi := 940) h_3608 (by decide) (by decide)) (rgw (lo := 0) (hi := 940) h_3607 (by decide) (by decide)) i_h0_kind i_h0_snapMany i_h0_texts i_h0_lineMany i_h0_hasWritten i_h0_nodes i_h0_onesMany (sg_w (a' := 0) (b' := 940) (lo' := 0) (hi' := 255) s_h0_tape_0 (by decide) (by decide) (by decide) (by decide))) (cwV 1 hts gX12_go_X12_tapeAt rfl rfl rfl (by decide +kernel) ⟨Nat.le_of_ble_eq_true rfl, Nat.le_of_ble_eq_true rfl⟩) (oPV (C := RX12) hK hP hD [0, 1] rfl (by decide) 0 rfl (ci := 11) rfl rfl) rfl rfl hl.1 rfl (lv_room (Nat.le_of_ble_eq_true rfl)) dX12_go_220 ⟨Nat.le_of_ble_eq_true rfl, Nat.le_of_ble_eq_true rfl⟩) hP hD hS hA [0, 1] [] rfl rfl (by decide) (by decide) (fun r_3692 u H locs w_3693 hP hD hS => ?_)
            obtain ⟨⟩ := u
            have hP : va_P D vwCl [(h0, .inr (11, [.int h0_thrown, .ref h0_tape, .int h0_taped, .int h0_size, .int h0_limit, .int y96_0, .int y96_1, .int h0_kind, .int 0, .int h0_sign, .int h0_fault, .int h0_place, .long 0, .int h0_told, .ref h0_now, .ref h0_read, .ref h0_kept, .ref h0_snaps, .ref h0_aside, .ref h0_name, .ref h0_readName, .ref h0_keptName, .ref h0_isKept, .ref h0_onces, .int h0_snapMany, .int h0_lowest, .int h0_highest, .int h0_agreed, .int h0_jurors, .int h0_panelled, .ref h0_inSets, .int h0_surely, .int h0_asked, .ref h0_frees, .int h0_struck, .int h0_beating, .ref h0_text, .int h0_texts, .int h0_seed, .ref h0_line, .ref h0_written, .int h0_lineMany, .int h0_hasWritten, .ref h0_node, .int h0_nodes, .int h0_onesMany, .int h0_within, .int h0_top])), (aI ca h0_tape 940 F_h0_tape)] H := hP
            have hD : va_D A [(h0, .inr (11, [.int h0_thrown, .ref h0_tape, .int h0_taped, .int h0_size, .int h0_limit, .int y96_0, .int y96_1, .int h0_kind, .int 0, .int h0_sign, .int h0_fault, .int h0_place, .long 0, .int h0_told, .ref h0_now, .ref h0_read, .ref h0_kept, .ref h0_snaps, .ref h0_aside, .ref h0_name, .ref h0_readName, .ref h0_keptName, .ref h0_isKept, .ref h0_onces, .int h0_snapMany, .int h0_lowest, .int h0_highest, .int h0_agreed, .int h0_jurors, .int h0_panelled, .ref h0_inSets, .int h0_surely, .int h0_asked, .ref h0_frees, .int h0_struck, .int h0_beating, .ref h0_text, .int h0_texts, .int h0_seed, .ref h0_line, .ref h0_written, .int h0_lineMany, .int h0_hasWritten, .ref h0_node, .int h0_nodes, .int h0_onesMany, .int h0_within, .int h0_top])), (aI ca h0_tape 940 F_h0_tape)] := hD
            try dsimp only at w_3693
            rcases w_3693 with ⟨h_3694, h_3695, h_3696, h_3697⟩ | ⟨h_3698, h_3699, h_3700, h_3701, h_3702, h_3703, h_3704⟩
            · skip
              subst h_3694
              exact False.elim (by have z0 := rle h_3695; have q0 := rle o_3606; omega)
            · skip
              have h_3705 := (h_3698.trans ex_3609.symm).symm
              subst h_3705
              have hY := hY.trans (lt1_e h_3704)
              have hY := hY.trans (if_neg h_3703)
              refine oC_i (Wc := []) (Wr := [(h0, .inr (11, [.int h0_thrown, .ref h0_tape, .int h0_taped, .int h0_size, .int h0_limit, .int y96_0, .int y96_1, .int h0_kind, .int 0, .int h0_sign, .int h0_fault, .int h0_place, .long 0, .int h0_told, .ref h0_now, .ref h0_read, .ref h0_kept, .ref h0_snaps, .ref h0_aside, .ref h0_name, .ref h0_readName, .ref h0_keptName, .ref h0_isKept, .ref h0_onces, .int h0_snapMany, .int h0_lowest, .int h0_highest, .int h0_agreed, .int h0_jurors, .int h0_panelled, .ref h0_inSets, .int h0_surely, .int h0_asked, .ref h0_frees, .int h0_struck, .int h0_beating, .ref h0_text, .int h0_texts, .int h0_seed, .ref h0_line, .ref h0_written, .int h0_lineMany, .int h0_hasWritten, .ref h0_node, .int h0_nodes, .int h0_onesMany, .int h0_within, .int h0_top])), (aI ca h0_tape 940 F_h0_tape)]) (va_runS (As := [.int x_3609]) (rest := []) ⟨hx, hb, hml, hown, hts⟩ (e_X12_isLetter l D ca H.size x_3609) (va_cwS 1 hts gX12_go_X12_isLetter rfl rfl rfl (by decide +kernel) ⟨Nat.le_of_ble_eq_true rfl, Nat.le_of_ble_eq_true rfl⟩) (oPS hK hP hD [] rfl (by decide)) rfl rfl hl.1 rfl (lv_room (Nat.le_of_ble_eq_true rfl)) dX12_go_223 ⟨Nat.le_of_ble_eq_true rfl, Nat.le_of_ble_eq_true rfl⟩) hP hD hS hA [] [0, 1] rfl rfl (by decide) (by decide) (fun r_3706 u H locs w_3707 hP hD hS => ?_)
              obtain ⟨⟩ := u
              have hP : va_P D vwCl [(h0, .inr (11, [.int h0_thrown, .ref h0_tape, .int h0_taped, .int h0_size, .int h0_limit, .int y96_0, .int y96_1, .int h0_kind, .int 0, .int h0_sign, .int h0_fault, .int h0_place, .long 0, .int h0_told, .ref h0_now, .ref h0_read, .ref h0_kept, .ref h0_snaps, .ref h0_aside, .ref h0_name, .ref h0_readName, .ref h0_keptName, .ref h0_isKept, .ref h0_onces, .int h0_snapMany, .int h0_lowest, .int h0_highest, .int h0_agreed, .int h0_jurors, .int h0_panelled, .ref h0_inSets, .int h0_surely, .int h0_asked, .ref h0_frees, .int h0_struck, .int h0_beating, .ref h0_text, .int h0_texts, .int h0_seed, .ref h0_line, .ref h0_written, .int h0_lineMany, .int h0_hasWritten, .ref h0_node, .int h0_nodes, .int h0_onesMany, .int h0_within, .int h0_top])), (aI ca h0_tape 940 F_h0_tape)] H := hP
              have hD : va_D A [(h0, .inr (11, [.int h0_thrown, .ref h0_tape, .int h0_taped, .int h0_size, .int h0_limit, .int y96_0, .int y96_1, .int h0_kind, .int 0, .int h0_sign, .int h0_fault, .int h0_place, .long 0, .int h0_told, .ref h0_now, .ref h0_read, .ref h0_kept, .ref h0_snaps, .ref h0_aside, .ref h0_name, .ref h0_readName, .ref h0_keptName, .ref h0_isKept, .ref h0_onces, .int h0_snapMany, .int h0_lowest, .int h0_highest, .int h0_agreed, .int h0_jurors, .int h0_panelled, .ref h0_inSets, .int h0_surely, .int h0_asked, .ref h0_frees, .int h0_struck, .int h0_beating, .ref h0_text, .int h0_texts, .int h0_seed, .ref h0_line, .ref h0_written, .int h0_lineMany, .int h0_hasWritten, .ref h0_node, .int h0_nodes, .int h0_onesMany, .int h0_within, .int h0_top])), (aI ca h0_tape 940 F_h0_tape)] := hD
              try dsimp only at w_3707
              rcases w_3707 with ⟨h_3708, h_3709, h_3710, h_3711⟩ | ⟨h_3712, h_3713, h_3714, h_3715, h_3716⟩ | ⟨h_3717, h_3718, h_3719, h_3720, h_3721⟩
              · skip
                subst h_3708
                have hY := hY.trans (lt1_e h_3711)
                have hY := hY.trans (if_pos h_3710)
                refine lv_if_ne (tgt := 243) hx hb dX12_go_226 (by decide) (fun c => absurd (by decide) c) (fun _ => ?_)
                refine lv_aload_n hx hb dX12_go_229 rfl (lv_at hl 3 rfl) ?_
                refine lv_aload_n hx hb dX12_go_230 rfl (lv_at hl 3 rfl) ?_
                refine va_get (D := D) (ci := 11) (v := .int y96_0) (C := RX12) (T := TX12) (N := 48) hx hb hts k2 hown hK.1 hP 0 rfl rfl 5 (by decide) k3 (fun _ h9 => h9) rfl dX12_go_231 ?_
                refine oC_i (Wc := [(h0, .inr (11, [.int h0_thrown, .ref h0_tape, .int h0_taped, .int h0_size, .int h0_limit, .int y96_0, .int y96_1, .int h0_kind, .int 0, .int h0_sign, .int h0_fault, .int h0_place, .long 0, .int h0_told, .ref h0_now, .ref h0_read, .ref h0_kept, .ref h0_snaps, .ref h0_aside, .ref h0_name, .ref h0_readName, .ref h0_keptName, .ref h0_isKept, .ref h0_onces, .int h0_snapMany, .int h0_lowest, .int h0_highest, .int h0_agreed, .int h0_jurors, .int h0_panelled, .ref h0_inSets, .int h0_surely, .int h0_asked, .ref h0_frees, .int h0_struck, .int h0_beating, .ref h0_text, .int h0_texts, .int h0_seed, .ref h0_line, .ref h0_written, .int h0_lineMany, .int h0_hasWritten, .ref h0_node, .int h0_nodes, .int h0_onesMany, .int h0_within, .int h0_top])), (aI ca h0_tape 940 F_h0_tape)]) (Wr := []) (va_runV (As := [.int y96_0]) (rest := []) ⟨hx, hb, hml, hown, hts⟩ (e_X12_tapeAt l D ca H.size h0 y96_0 h0_thrown h0_tape h0_taped h0_size h0_limit y96_0 y96_1 h0_kind 0 h0_sign h0_fault h0_place 0 h0_told h0_now h0_read h0_kept h0_snaps h0_aside h0_name h0_readName h0_keptName h0_isKept h0_onces h0_snapMany h0_lowest h0_highest h0_agreed h0_jurors h0_panelled h0_inSets h0_surely h0_asked h0_frees h0_struck h0_beating h0_text h0_texts h0_seed h0_line h0_written h0_lineMany h0_hasWritten h0_node h0_nodes h0_onesMany h0_within h0_top F_h0_tape (rgw (lo := 0) (hi := 940) h_3607 (by decide) (by decide)) i_h0_taped (rgw (lo := 0) (hi := 940) h_3608 (by decide) (by decide)) (rgw (lo := 0) (hi := 940) h_3607 (by decide) (by decide)) i_h0_kind i_h0_snapMany i_h0_texts i_h0_lineMany i_h0_hasWritten i_h0_nodes i_h0_onesMany (sg_w (a' := 0) (b' := 940) (lo' := 0) (hi' := 255) s_h0_tape_0 (by decide) (by decide) (by decide) (by decide))) (cwV 1 hts gX12_go_X12_tapeAt rfl rfl rfl (by decide +kernel) ⟨Nat.le_of_ble_eq_true rfl, Nat.le_of_ble_eq_true rfl⟩) (oPV (C := RX12) hK hP hD [0, 1] rfl (by decide) 0 rfl (ci := 11) rfl rfl) rfl rfl hl.1 rfl (lv_room (Nat.le_of_ble_eq_true rfl)) dX12_go_234 ⟨Nat.le_of_ble_eq_true rfl, Nat.le_of_ble_eq_true rfl⟩) hP hD hS hA [0, 1] [] rfl rfl (by decide) (by decide) (fun r_3722 u H locs w_3723 hP hD hS => ?_)
                obtain ⟨⟩ := u
                have hP : va_P D vwCl [(h0, .inr (11, [.int h0_thrown, .ref h0_tape, .int h0_taped, .int h0_size, .int h0_limit, .int y96_0, .int y96_1, .int h0_kind, .int 0, .int h0_sign, .int h0_fault, .int h0_place, .long 0, .int h0_told, .ref h0_now, .ref h0_read, .ref h0_kept, .ref h0_snaps, .ref h0_aside, .ref h0_name, .ref h0_readName, .ref h0_keptName, .ref h0_isKept, .ref h0_onces, .int h0_snapMany, .int h0_lowest, .int h0_highest, .int h0_agreed, .int h0_jurors, .int h0_panelled, .ref h0_inSets, .int h0_surely, .int h0_asked, .ref h0_frees, .int h0_struck, .int h0_beating, .ref h0_text, .int h0_texts, .int h0_seed, .ref h0_line, .ref h0_written, .int h0_lineMany, .int h0_hasWritten, .ref h0_node, .int h0_nodes, .int h0_onesMany, .int h0_within, .int h0_top])), (aI ca h0_tape 940 F_h0_tape)] H := hP
                have hD : va_D A [(h0, .inr (11, [.int h0_thrown, .ref h0_tape, .int h0_taped, .int h0_size, .int h0_limit, .int y96_0, .int y96_1, .int h0_kind, .int 0, .int h0_sign, .int h0_fault, .int h0_place, .long 0, .int h0_told, .ref h0_now, .ref h0_read, .ref h0_kept, .ref h0_snaps, .ref h0_aside, .ref h0_name, .ref h0_readName, .ref h0_keptName, .ref h0_isKept, .ref h0_onces, .int h0_snapMany, .int h0_lowest, .int h0_highest, .int h0_agreed, .int h0_jurors, .int h0_panelled, .ref h0_inSets, .int h0_surely, .int h0_asked, .ref h0_frees, .int h0_struck, .int h0_beating, .ref h0_text, .int h0_texts, .int h0_seed, .ref h0_line, .ref h0_written, .int h0_lineMany, .int h0_hasWritten, .ref h0_node, .int h0_nodes, .int h0_onesMany, .int h0_within, .int h0_top])), (aI ca h0_tape 940 F_h0_tape)] := hD
                try dsimp only at w_3723
                rcases w_3723 with ⟨h_3724, h_3725, h_3726, h_3727⟩ | ⟨h_3728, h_3729, h_3730, h_3731, h_3732, h_3733, h_3734⟩
                · skip
                  subst h_3724
                  exact False.elim (by have z0 := rle h_3725; have q0 := rle o_3606; omega)
                · skip
                  have h_3735 := (h_3728.trans ex_3609.symm).symm
                  subst h_3735
                  have hY := hY.trans (lt1_e h_3734)
                  have hY := hY.trans (if_neg h_3733)
                  refine oC_i (Wc := []) (Wr := [(h0, .inr (11, [.int h0_thrown, .ref h0_tape, .int h0_taped, .int h0_size, .int h0_limit, .int y96_0, .int y96_1, .int h0_kind, .int 0, .int h0_sign, .int h0_fault, .int h0_place, .long 0, .int h0_told, .ref h0_now, .ref h0_read, .ref h0_kept, .ref h0_snaps, .ref h0_aside, .ref h0_name, .ref h0_readName, .ref h0_keptName, .ref h0_isKept, .ref h0_onces, .int h0_snapMany, .int h0_lowest, .int h0_highest, .int h0_agreed, .int h0_jurors, .int h0_panelled, .ref h0_inSets, .int h0_surely, .int h0_asked, .ref h0_frees, .int h0_struck, .int h0_beating, .ref h0_text, .int h0_texts, .int h0_seed, .ref h0_line, .ref h0_written, .int h0_lineMany, .int h0_hasWritten, .ref h0_node, .int h0_nodes, .int h0_onesMany, .int h0_within, .int h0_top])), (aI ca h0_tape 940 F_h0_tape)]) (va_runS (As := [.int x_3609]) (rest := []) ⟨hx, hb, hml, hown, hts⟩ (e_X12_isDigit l D ca H.size x_3609) (va_cwS 1 hts gX12_go_X12_isDigit rfl rfl rfl (by decide +kernel) ⟨Nat.le_of_ble_eq_true rfl, Nat.le_of_ble_eq_true rfl⟩) (oPS hK hP hD [] rfl (by decide)) rfl rfl hl.1 rfl (lv_room (Nat.le_of_ble_eq_true rfl)) dX12_go_237 ⟨Nat.le_of_ble_eq_true rfl, Nat.le_of_ble_eq_true rfl⟩) hP hD hS hA [] [0, 1] rfl rfl (by decide) (by decide) (fun r_3736 u H locs w_3737 hP hD hS => ?_)
                  obtain ⟨⟩ := u
                  have hP : va_P D vwCl [(h0, .inr (11, [.int h0_thrown, .ref h0_tape, .int h0_taped, .int h0_size, .int h0_limit, .int y96_0, .int y96_1, .int h0_kind, .int 0, .int h0_sign, .int h0_fault, .int h0_place, .long 0, .int h0_told, .ref h0_now, .ref h0_read, .ref h0_kept, .ref h0_snaps, .ref h0_aside, .ref h0_name, .ref h0_readName, .ref h0_keptName, .ref h0_isKept, .ref h0_onces, .int h0_snapMany, .int h0_lowest, .int h0_highest, .int h0_agreed, .int h0_jurors, .int h0_panelled, .ref h0_inSets, .int h0_surely, .int h0_asked, .ref h0_frees, .int h0_struck, .int h0_beating, .ref h0_text, .int h0_texts, .int h0_seed, .ref h0_line, .ref h0_written, .int h0_lineMany, .int h0_hasWritten, .ref h0_node, .int h0_nodes, .int h0_onesMany, .int h0_within, .int h0_top])), (aI ca h0_tape 940 F_h0_tape)] H := hP
                  have hD : va_D A [(h0, .inr (11, [.int h0_thrown, .ref h0_tape, .int h0_taped, .int h0_size, .int h0_limit, .int y96_0, .int y96_1, .int h0_kind, .int 0, .int h0_sign, .int h0_fault, .int h0_place, .long 0, .int h0_told, .ref h0_now, .ref h0_read, .ref h0_kept, .ref h0_snaps, .ref h0_aside, .ref h0_name, .ref h0_readName, .ref h0_keptName, .ref h0_isKept, .ref h0_onces, .int h0_snapMany, .int h0_lowest, .int h0_highest, .int h0_agreed, .int h0_jurors, .int h0_panelled, .ref h0_inSets, .int h0_surely, .int h0_asked, .ref h0_frees, .int h0_struck, .int h0_beating, .ref h0_text, .int h0_texts, .int h0_seed, .ref h0_line, .ref h0_written, .int h0_lineMany, .int h0_hasWritten, .ref h0_node, .int h0_nodes, .int h0_onesMany, .int h0_within, .int h0_top])), (aI ca h0_tape 940 F_h0_tape)] := hD
                  try dsimp only at w_3737
                  rcases w_3737 with ⟨h_3738, h_3739, h_3740, h_3741⟩ | ⟨h_3742, h_3743, h_3744, h_3745, h_3746⟩ | ⟨h_3747, h_3748, h_3749, h_3750, h_3751⟩
                  · skip
                    subst h_3738
                    exact (rg_no h_3739 h_3640 (by decide)).elim
                  · skip
                    subst h_3742
                    exact (rg_no h_3743 h_3640 (by decide)).elim
                  · skip
                    subst h_3747
                    have hY := hY.trans (lt1_e h_3751)
                    have hY := hY.trans (if_neg h_3749)
                    have hY := hY.trans (if_neg h_3750)
                    refine lv_if_eq (tgt := 350) hx hb dX12_go_240 (by decide) (fun c => absurd c (by decide)) (fun _ => ?_)
                    refine lv_aload_n hx hb dX12_go_243 rfl (lv_at hl 3 rfl) ?_
                    refine va_get (D := D) (ci := 11) (v := .ref h0_tape) (C := RX12) (T := TX12) (N := 48) hx hb hts k2 hown hK.1 hP 0 rfl rfl 1 (by decide) k5 (fun _ h9 => h9) rfl dX12_go_244 ?_
                    refine lv_aload_n hx hb dX12_go_247 rfl (lv_at hl 3 rfl) ?_
                    refine va_get (D := D) (ci := 11) (v := .int y96_0) (C := RX12) (T := TX12) (N := 48) hx hb hts k2 hown hK.1 hP 0 rfl rfl 5 (by decide) k3 (fun _ h9 => h9) rfl dX12_go_248 ?_
                    refine va_iald hx hb hK.1 hP 1 0 rfl rfl (rg_in h_3607 (by decide) (by decide)) dX12_go_251 ?_
                    refine oti x_3609 ex_3609.symm ?_
                    refine lv_istore (lv' := [(4, .int x_3609), (3, .int 1), (2, .int 0), (1, .int x_3609), (0, .ref h0)]) hx hb dX12_go_252 hl (by decide) rfl (fun ls hl => ?_)
                    refine lv_iload_n hx hb dX12_go_254 rfl (lv_at hl 1 rfl) ?_
                    refine lv_if_eq (tgt := 271) hx hb dX12_go_255 (by decide) (fun c => absurd c (by decide)) (fun _ => ?_)
                    refine lv_iload hx hb dX12_go_258 (lv_at hl 0 rfl) ?_
                    refine oC_i (Wc := []) (Wr := [(h0, .inr (11, [.int h0_thrown, .ref h0_tape, .int h0_taped, .int h0_size, .int h0_limit, .int y96_0, .int y96_1, .int h0_kind, .int 0, .int h0_sign, .int h0_fault, .int h0_place, .long 0, .int h0_told, .ref h0_now, .ref h0_read, .ref h0_kept, .ref h0_snaps, .ref h0_aside, .ref h0_name, .ref h0_readName, .ref h0_keptName, .ref h0_isKept, .ref h0_onces, .int h0_snapMany, .int h0_lowest, .int h0_highest, .int h0_agreed, .int h0_jurors, .int h0_panelled, .ref h0_inSets, .int h0_surely, .int h0_asked, .ref h0_frees, .int h0_struck, .int h0_beating, .ref h0_text, .int h0_texts, .int h0_seed, .ref h0_line, .ref h0_written, .int h0_lineMany, .int h0_hasWritten, .ref h0_node, .int h0_nodes, .int h0_onesMany, .int h0_within, .int h0_top])), (aI ca h0_tape 940 F_h0_tape)]) (va_runS (As := [.int x_3609]) (rest := []) ⟨hx, hb, hml, hown, hts⟩ (e_X12_isLetter l D ca H.size x_3609) (va_cwS 1 hts gX12_go_X12_isLetter rfl rfl rfl (by decide +kernel) ⟨Nat.le_of_ble_eq_true rfl, Nat.le_of_ble_eq_true rfl⟩) (oPS hK hP hD [] rfl (by decide)) rfl rfl hl.1 rfl (lv_room (Nat.le_of_ble_eq_true rfl)) dX12_go_260 ⟨Nat.le_of_ble_eq_true rfl, Nat.le_of_ble_eq_true rfl⟩) hP hD hS hA [] [0, 1] rfl rfl (by decide) (by decide) (fun r_3752 u H locs w_3753 hP hD hS => ?_)
                    obtain ⟨⟩ := u
                    have hP : va_P D vwCl [(h0, .inr (11, [.int h0_thrown, .ref h0_tape, .int h0_taped, .int h0_size, .int h0_limit, .int y96_0, .int y96_1, .int h0_kind, .int 0, .int h0_sign, .int h0_fault, .int h0_place, .long 0, .int h0_told, .ref h0_now, .ref h0_read, .ref h0_kept, .ref h0_snaps, .ref h0_aside, .ref h0_name, .ref h0_readName, .ref h0_keptName, .ref h0_isKept, .ref h0_onces, .int h0_snapMany, .int h0_lowest, .int h0_highest, .int h0_agreed, .int h0_jurors, .int h0_panelled, .ref h0_inSets, .int h0_surely, .int h0_asked, .ref h0_frees, .int h0_struck, .int h0_beating, .ref h0_text, .int h0_texts, .int h0_seed, .ref h0_line, .ref h0_written, .int h0_lineMany, .int h0_hasWritten, .ref h0_node, .int h0_nodes, .int h0_onesMany, .int h0_within, .int h0_top])), (aI ca h0_tape 940 F_h0_tape)] H := hP
                    have hD : va_D A [(h0, .inr (11, [.int h0_thrown, .ref h0_tape, .int h0_taped, .int h0_size, .int h0_limit, .int y96_0, .int y96_1, .int h0_kind, .int 0, .int h0_sign, .int h0_fault, .int h0_place, .long 0, .int h0_told, .ref h0_now, .ref h0_read, .ref h0_kept, .ref h0_snaps, .ref h0_aside, .ref h0_name, .ref h0_readName, .ref h0_keptName, .ref h0_isKept, .ref h0_onces, .int h0_snapMany, .int h0_lowest, .int h0_highest, .int h0_agreed, .int h0_jurors, .int h0_panelled, .ref h0_inSets, .int h0_surely, .int h0_asked, .ref h0_frees, .int h0_struck, .int h0_beating, .ref h0_text, .int h0_texts, .int h0_seed, .ref h0_line, .ref h0_written, .int h0_lineMany, .int h0_hasWritten, .ref h0_node, .int h0_nodes, .int h0_onesMany, .int h0_within, .int h0_top])), (aI ca h0_tape 940 F_h0_tape)] := hD
                    try dsimp only at w_3753
                    rcases w_3753 with ⟨h_3754, h_3755, h_3756, h_3757⟩ | ⟨h_3758, h_3759, h_3760, h_3761, h_3762⟩ | ⟨h_3763, h_3764, h_3765, h_3766, h_3767⟩
                    · skip
                      subst h_3754
                      have hY := hY.trans (lt1_e h_3757)
                      have hY := hY.trans (if_pos h_3756)
                      refine lv_iload_n hx hb dX12_go_263 rfl (lv_at hl 2 rfl) ?_
                      refine lv_icmp_ne (tgt := 271) hx hb dX12_go_264 (by decide) (fun c => absurd (by decide) c) (fun _ => ?_)
                      refine lv_iconst (v := 1) hx hb dX12_go_267 (by decide) ?_
                      refine lv_goto (tgt := 272) hx hb dX12_go_268 (by decide) ?_
                      refine lv_istore_n (lv' := [(3, .int 1), (4, .int x_3609), (2, .int 0), (1, .int x_3609), (0, .ref h0)]) hx hb dX12_go_272 rfl hl (by decide) rfl (fun ls hl => ?_)
                      refine lv_aload_n hx hb dX12_go_273 rfl (lv_at hl 4 rfl) ?_
                      refine va_get (D := D) (ci := 11) (v := .int y96_0) (C := RX12) (T := TX12) (N := 48) hx hb hts k2 hown hK.1 hP 0 rfl rfl 5 (by decide) k3 (fun _ h9 => h9) rfl dX12_go_274 ?_
                      refine lv_aload_n hx hb dX12_go_277 rfl (lv_at hl 4 rfl) ?_
                      refine va_get (D := D) (ci := 11) (v := .int y96_1) (C := RX12) (T := TX12) (N := 48) hx hb hts k2 hown hK.1 hP 0 rfl rfl 6 (by decide) k4 (fun _ h9 => h9) rfl dX12_go_278 ?_
                      refine lv_isub hx hb dX12_go_281 ?_
                      refine lv_topi (fun x_3768 ex_3768 => ?_)
                      have hY := hY.trans (lt1_e ex_3768)
                      have h_3769 : rg (-940) 939 x_3768 := by rw [ex_3768]; exact rg_sub h_3607 hy96_1 (by decide) (by decide) (by decide) (by decide)
                      have l_3770 : lq x_3768.toInt (y96_0.toInt + (-1) * y96_1.toInt) := lqm (by rw [ex_3768]; have q := tsub h_3607 hy96_1 (by decide) (by decide); omega)
                      refine lv_bipush (v := 7) hx hb dX12_go_282 (by decide) ?_
                      refine lv_icmp_ge (tgt := 307) hx hb dX12_go_284 (by decide) (fun c_3771 => ?_) (fun c_3771 => ?_)
                      · skip
                        have hY := hY.trans (if_pos c_3771)
                        have o_3772 : rl 0 7 x_3768 := rl_le c_3771
                        have h_3773 : rg 7 939 x_3768 := rl_y o_3772 (⟨by decide, by decide⟩ : rg 7 7 (7 : Int32)) h_3769 (by decide) (by decide)
                        refine lv_aload_n hx hb dX12_go_307 rfl (lv_at hl 4 rfl) ?_
                        refine va_get (D := D) (ci := 11) (v := .int y96_0) (C := RX12) (T := TX12) (N := 48) hx hb hts k2 hown hK.1 hP 0 rfl rfl 5 (by decide) k3 (fun _ h9 => h9) rfl dX12_go_308 ?_
                        refine lv_aload_n hx hb dX12_go_311 rfl (lv_at hl 4 rfl) ?_
                        refine va_get (D := D) (ci := 11) (v := .int y96_1) (C := RX12) (T := TX12) (N := 48) hx hb hts k2 hown hK.1 hP 0 rfl rfl 6 (by decide) k4 (fun _ h9 => h9) rfl dX12_go_312 ?_
                        refine lv_isub hx hb dX12_go_315 ?_
                        refine lv_topi (fun x_3774 ex_3774 => ?_)
                        have hY := hY.trans (lt1_e ex_3774)
                        have h_3775 : rg (-940) 939 x_3774 := by rw [ex_3774]; exact rg_sub h_3607 hy96_1 (by decide) (by decide) (by decide) (by decide)
                        have l_3776 : lq x_3774.toInt (y96_0.toInt + (-1) * y96_1.toInt) := lqm (by rw [ex_3774]; have q := tsub h_3607 hy96_1 (by decide) (by decide); omega)
                        refine lv_iconst (v := 3) hx hb dX12_go_316 (by decide) ?_
                        refine lv_icmp_ge (tgt := 337) hx hb dX12_go_317 (by decide) (fun c_3777 => ?_) (fun c_3777 => ?_)
                        · skip
                          have hY := hY.trans (if_pos c_3777)
                          have o_3778 : rl 0 3 x_3774 := rl_le c_3777
                          have h_3779 : rg 3 939 x_3774 := rl_y o_3778 (⟨by decide, by decide⟩ : rg 3 3 (3 : Int32)) h_3775 (by decide) (by decide)
                          refine lv_aload_n hx hb dX12_go_337 rfl (lv_at hl 4 rfl) ?_
                          refine lv_dup hx hb dX12_go_338 rfl ?_
                          refine va_get (D := D) (ci := 11) (v := .int y96_0) (C := RX12) (T := TX12) (N := 48) hx hb hts k2 hown hK.1 hP 0 rfl rfl 5 (by decide) k3 (fun _ h9 => h9) rfl dX12_go_339 ?_
                          refine lv_iconst (v := 1) hx hb dX12_go_342 (by decide) ?_
                          refine lv_iadd hx hb dX12_go_343 ?_
                          refine lv_topi (fun x_3780 ex_3780 => ?_)
                          have hY := hY.trans (lt1_e ex_3780)
                          have h_3781 : rg 1 940 x_3780 := by rw [ex_3780]; exact rg_add h_3607 (⟨by decide, by decide⟩ : rg 1 1 (1 : Int32)) (by decide) (by decide) (by decide) (by decide)
                          have l_3782 : lq x_3780.toInt (y96_0.toInt + 1) := lqm (by rw [ex_3780]; have q := tadd h_3607 (⟨by decide, by decide⟩ : rg 1 1 (1 : Int32)) (by decide) (by decide); have r1 := lqe (lqm (by decide) : lq (1 : Int32).toInt 1); omega)
                          refine va_put (D := D) (ci := 11) (v := .int x_3780) (ty := .int) (C := RX12) (T := TX12) (N := 48) hx hb hts k2 tyX12 tyX12_ok nmX12 hown hK.1 hP hD hS 0 rfl rfl 5 (by decide) k3 (fun _ h9 => h9) rfl (by decide +kernel) rfl rfl (Nat.le_of_ble_eq_true rfl) dX12_go_344 (fun H locs hP hD hS => ?_)
                          have hP : va_P D vwCl [(h0, .inr (11, [.int h0_thrown, .ref h0_tape, .int h0_taped, .int h0_size, .int h0_limit, .int x_3780, .int y96_1, .int h0_kind, .int 0, .int h0_sign, .int h0_fault, .int h0_place, .long 0, .int h0_told, .ref h0_now, .ref h0_read, .ref h0_kept, .ref h0_snaps, .ref h0_aside, .ref h0_name, .ref h0_readName, .ref h0_keptName, .ref h0_isKept, .ref h0_onces, .int h0_snapMany, .int h0_lowest, .int h0_highest, .int h0_agreed, .int h0_jurors, .int h0_panelled, .ref h0_inSets, .int h0_surely, .int h0_asked, .ref h0_frees, .int h0_struck, .int h0_beating, .ref h0_text, .int h0_texts, .int h0_seed, .ref h0_line, .ref h0_written, .int h0_lineMany, .int h0_hasWritten, .ref h0_node, .int h0_nodes, .int h0_onesMany, .int h0_within, .int h0_top])), (aI ca h0_tape 940 F_h0_tape)] H := hP
                          have hD : va_D A [(h0, .inr (11, [.int h0_thrown, .ref h0_tape, .int h0_taped, .int h0_size, .int h0_limit, .int x_3780, .int y96_1, .int h0_kind, .int 0, .int h0_sign, .int h0_fault, .int h0_place, .long 0, .int h0_told, .ref h0_now, .ref h0_read, .ref h0_kept, .ref h0_snaps, .ref h0_aside, .ref h0_name, .ref h0_readName, .ref h0_keptName, .ref h0_isKept, .ref h0_onces, .int h0_snapMany, .int h0_lowest, .int h0_highest, .int h0_agreed, .int h0_jurors, .int h0_panelled, .ref h0_inSets, .int h0_surely, .int h0_asked, .ref h0_frees, .int h0_struck, .int h0_beating, .ref h0_text, .int h0_texts, .int h0_seed, .ref h0_line, .ref h0_written, .int h0_lineMany, .int h0_hasWritten, .ref h0_node, .int h0_nodes, .int h0_onesMany, .int h0_within, .int h0_top])), (aI ca h0_tape 940 F_h0_tape)] := hD
                          refine lv_goto (tgt := 215) hx hb dX12_go_347 (by decide) ?_
                          exact J215_2556 940 0 1 x_3780 y96_1 0 0 trivial (⟨by decide, by decide⟩ : rg 0 1 (0 : Int32)) (⟨by decide, by decide⟩ : rg 0 1 (1 : Int32)) h_3781 (rlm (by have q0 := lqe l_3782; have q1 := rle py96_0_h0_to; omega)) hy96_1 (rlm (by have q0 := rle py96_1_h0_to; omega)) t96_h0_limit h_3608 (by have q0 := h_3781.1; omega) hY H locs ls (oPsub hP [0, 1] rfl) (hD.sub [0, 1] (by decide) rfl) hS (lv_sub hl [4, 2, 0] rfl)
                        · skip
                          have hY := hY.trans (if_neg c_3777)
                          have o_3783 : rl 1 x_3774 3 := rl_nle c_3777
                          have h_3784 : rg (-940) 2 x_3774 := rl_x o_3783 h_3775 (⟨by decide, by decide⟩ : rg 3 3 (3 : Int32)) (by decide) (by decide)
                          refine lv_aload_n hx hb dX12_go_320 rfl (lv_at hl 4 rfl) ?_
                          refine lv_bipush (v := 10) hx hb dX12_go_321 (by decide) ?_
                          refine lv_aload_n hx hb dX12_go_323 rfl (lv_at hl 4 rfl) ?_
                          refine va_get (D := D) (ci := 11) (v := .int 0) (C := RX12) (T := TX12) (N := 48) hx hb hts k2 hown hK.1 hP 0 rfl rfl 8 (by decide) k6 (fun _ h9 => h9) rfl dX12_go_324 ?_
                          refine lv_imul hx hb dX12_go_327 ?_
                          refine oti 0 (by decide) ?_
                          refine lv_iload hx hb dX12_go_328 (lv_at hl 1 rfl) ?_
                          refine lv_iadd hx hb dX12_go_330 ?_
                          refine lv_topi (fun x_3785 ex_3785 => ?_)
                          have hY := hY.trans (lt1_e ex_3785)
                          have h_3786 : rg 48 57 x_3785 := by rw [ex_3785]; exact rg_add (⟨by decide, by decide⟩ : rg 0 0 (0 : Int32)) h_3640 (by decide) (by decide) (by decide) (by decide)
                          have l_3787 : lq x_3785.toInt (x_3609.toInt) := lqm (by rw [ex_3785]; have q := tadd (⟨by decide, by decide⟩ : rg 0 0 (0 : Int32)) h_3640 (by decide) (by decide); have r0 := lqe (lqm (by decide) : lq (0 : Int32).toInt 0); omega)
                          refine lv_bipush (v := 48) hx hb dX12_go_331 (by decide) ?_
                          refine lv_isub hx hb dX12_go_333 ?_
                          refine lv_topi (fun x_3788 ex_3788 => ?_)
                          have hY := hY.trans (lt1_e ex_3788)
                          have h_3789 : rg 0 9 x_3788 := by rw [ex_3788]; exact rg_sub h_3786 (⟨by decide, by decide⟩ : rg 48 48 (48 : Int32)) (by decide) (by decide) (by decide) (by decide)
                          have l_3790 : lq x_3788.toInt (x_3609.toInt + (-48)) := lqm (by rw [ex_3788]; have q := tsub h_3786 (⟨by decide, by decide⟩ : rg 48 48 (48 : Int32)) (by decide) (by decide); have r0 := lqe l_3787; have r1 := lqe (lqm (by decide) : lq (48 : Int32).toInt 48); omega)
                          refine va_put (D := D) (ci := 11) (v := .int x_3788) (ty := .int) (C := RX12) (T := TX12) (N := 48) hx hb hts k2 tyX12 tyX12_ok nmX12 hown hK.1 hP hD hS 0 rfl rfl 8 (by decide) k6 (fun _ h9 => h9) rfl (by decide +kernel) rfl rfl (Nat.le_of_ble_eq_true rfl) dX12_go_334 (fun H locs hP hD hS => ?_)
                          have hP : va_P D vwCl [(h0, .inr (11, [.int h0_thrown, .ref h0_tape, .int h0_taped, .int h0_size, .int h0_limit, .int y96_0, .int y96_1, .int h0_kind, .int x_3788, .int h0_sign, .int h0_fault, .int h0_place, .long 0, .int h0_told, .ref h0_now, .ref h0_read, .ref h0_kept, .ref h0_snaps, .ref h0_aside, .ref h0_name, .ref h0_readName, .ref h0_keptName, .ref h0_isKept, .ref h0_onces, .int h0_snapMany, .int h0_lowest, .int h0_highest, .int h0_agreed, .int h0_jurors, .int h0_panelled, .ref h0_inSets, .int h0_surely, .int h0_asked, .ref h0_frees, .int h0_struck, .int h0_beating, .ref h0_text, .int h0_texts, .int h0_seed, .ref h0_line, .ref h0_written, .int h0_lineMany, .int h0_hasWritten, .ref h0_node, .int h0_nodes, .int h0_onesMany, .int h0_within, .int h0_top])), (aI ca h0_tape 940 F_h0_tape)] H := hP
                          have hD : va_D A [(h0, .inr (11, [.int h0_thrown, .ref h0_tape, .int h0_taped, .int h0_size, .int h0_limit, .int y96_0, .int y96_1, .int h0_kind, .int x_3788, .int h0_sign, .int h0_fault, .int h0_place, .long 0, .int h0_told, .ref h0_now, .ref h0_read, .ref h0_kept, .ref h0_snaps, .ref h0_aside, .ref h0_name, .ref h0_readName, .ref h0_keptName, .ref h0_isKept, .ref h0_onces, .int h0_snapMany, .int h0_lowest, .int h0_highest, .int h0_agreed, .int h0_jurors, .int h0_panelled, .ref h0_inSets, .int h0_surely, .int h0_asked, .ref h0_frees, .int h0_struck, .int h0_beating, .ref h0_text, .int h0_texts, .int h0_seed, .ref h0_line, .ref h0_written, .int h0_lineMany, .int h0_hasWritten, .ref h0_node, .int h0_nodes, .int h0_onesMany, .int h0_within, .int h0_top])), (aI ca h0_tape 940 F_h0_tape)] := hD
                          refine lv_aload_n hx hb dX12_go_337 rfl (lv_at hl 4 rfl) ?_
                          refine lv_dup hx hb dX12_go_338 rfl ?_
                          refine va_get (D := D) (ci := 11) (v := .int y96_0) (C := RX12) (T := TX12) (N := 48) hx hb hts k2 hown hK.1 hP 0 rfl rfl 5 (by decide) k3 (fun _ h9 => h9) rfl dX12_go_339 ?_
                          refine lv_iconst (v := 1) hx hb dX12_go_342 (by decide) ?_
                          refine lv_iadd hx hb dX12_go_343 ?_
                          refine lv_topi (fun x_3791 ex_3791 => ?_)
                          have hY := hY.trans (lt1_e ex_3791)
                          have h_3792 : rg 1 940 x_3791 := by rw [ex_3791]; exact rg_add h_3607 (⟨by decide, by decide⟩ : rg 1 1 (1 : Int32)) (by decide) (by decide) (by decide) (by decide)
                          have l_3793 : lq x_3791.toInt (y96_0.toInt + 1) := lqm (by rw [ex_3791]; have q := tadd h_3607 (⟨by decide, by decide⟩ : rg 1 1 (1 : Int32)) (by decide) (by decide); have r1 := lqe (lqm (by decide) : lq (1 : Int32).toInt 1); omega)
                          refine va_put (D := D) (ci := 11) (v := .int x_3791) (ty := .int) (C := RX12) (T := TX12) (N := 48) hx hb hts k2 tyX12 tyX12_ok nmX12 hown hK.1 hP hD hS 0 rfl rfl 5 (by decide) k3 (fun _ h9 => h9) rfl (by decide +kernel) rfl rfl (Nat.le_of_ble_eq_true rfl) dX12_go_344 (fun H locs hP hD hS => ?_)
                          have hP : va_P D vwCl [(h0, .inr (11, [.int h0_thrown, .ref h0_tape, .int h0_taped, .int h0_size, .int h0_limit, .int x_3791, .int y96_1, .int h0_kind, .int x_3788, .int h0_sign, .int h0_fault, .int h0_place, .long 0, .int h0_told, .ref h0_now, .ref h0_read, .ref h0_kept, .ref h0_snaps, .ref h0_aside, .ref h0_name, .ref h0_readName, .ref h0_keptName, .ref h0_isKept, .ref h0_onces, .int h0_snapMany, .int h0_lowest, .int h0_highest, .int h0_agreed, .int h0_jurors, .int h0_panelled, .ref h0_inSets, .int h0_surely, .int h0_asked, .ref h0_frees, .int h0_struck, .int h0_beating, .ref h0_text, .int h0_texts, .int h0_seed, .ref h0_line, .ref h0_written, .int h0_lineMany, .int h0_hasWritten, .ref h0_node, .int h0_nodes, .int h0_onesMany, .int h0_within, .int h0_top])), (aI ca h0_tape 940 F_h0_tape)] H := hP
                          have hD : va_D A [(h0, .inr (11, [.int h0_thrown, .ref h0_tape, .int h0_taped, .int h0_size, .int h0_limit, .int x_3791, .int y96_1, .int h0_kind, .int x_3788, .int h0_sign, .int h0_fault, .int h0_place, .long 0, .int h0_told, .ref h0_now, .ref h0_read, .ref h0_kept, .ref h0_snaps, .ref h0_aside, .ref h0_name, .ref h0_readName, .ref h0_keptName, .ref h0_isKept, .ref h0_onces, .int h0_snapMany, .int h0_lowest, .int h0_highest, .int h0_agreed, .int h0_jurors, .int h0_panelled, .ref h0_inSets, .int h0_surely, .int h0_asked, .ref h0_frees, .int h0_struck, .int h0_beating, .ref h0_text, .int h0_texts, .int h0_seed, .ref h0_line, .ref h0_written, .int h0_lineMany, .int h0_hasWritten, .ref h0_node, .int h0_nodes, .int h0_onesMany, .int h0_within, .int h0_top])), (aI ca h0_tape 940 F_h0_tape)] := hD
                          refine lv_goto (tgt := 215) hx hb dX12_go_347 (by decide) ?_
                          exact J215_2556 940 0 1 x_3791 y96_1 x_3788 0 trivial (⟨by decide, by decide⟩ : rg 0 1 (0 : Int32)) (⟨by decide, by decide⟩ : rg 0 1 (1 : Int32)) h_3792 (rlm (by have q0 := lqe l_3793; have q1 := rle py96_0_h0_to; omega)) hy96_1 (rlm (by have q0 := rle py96_1_h0_to; omega)) t96_h0_limit h_3608 (by have q0 := h_3792.1; omega) hY H locs ls (oPsub hP [0, 1] rfl) (hD.sub [0, 1] (by decide) rfl) hS (lv_sub hl [4, 2, 0] rfl)
                      · skip
                        have hY := hY.trans (if_neg c_3771)
                        have o_3794 : rl 1 x_3768 7 := rl_nle c_3771
                        have h_3795 : rg (-940) 6 x_3768 := rl_x o_3794 h_3769 (⟨by decide, by decide⟩ : rg 7 7 (7 : Int32)) (by decide) (by decide)
                        refine lv_aload_n hx hb dX12_go_287 rfl (lv_at hl 4 rfl) ?_
                        refine lv_ldc2 (v := 27) hx hb hown k7 dX12_go_288 ?_
                        refine lv_aload_n hx hb dX12_go_291 rfl (lv_at hl 4 rfl) ?_
                        refine va_get (D := D) (ci := 11) (v := .long 0) (C := RX12) (T := TX12) (N := 48) hx hb hts k2 hown hK.1 hP 0 rfl rfl 12 (by decide) k8 (fun _ h9 => h9) rfl dX12_go_292 ?_
                        refine lv_lmul hx hb dX12_go_295 ?_
                        refine otl 0 (by decide +kernel) ?_
                        refine lv_iload hx hb dX12_go_296 (lv_at hl 1 rfl) ?_
                        refine lv_i2l hx hb dX12_go_298 rfl ?_
                        refine lv_topl (fun x_3796 ex_3796 => ?_)
                        have hY := hY.trans (lt1_e ex_3796)
                        refine lv_ladd hx hb dX12_go_299 ?_
                        refine lv_topl (fun x_3797 ex_3797 => ?_)
                        have hY := hY.trans (lt1_e ex_3797)
                        refine lv_ldc2 (v := 96) hx hb hown k9 dX12_go_300 ?_
                        refine lv_lsub hx hb dX12_go_303 ?_
                        refine lv_topl (fun x_3798 ex_3798 => ?_)
                        have hY := hY.trans (lt1_e ex_3798)
                        refine va_put (D := D) (ci := 11) (v := .long x_3798) (ty := .long) (C := RX12) (T := TX12) (N := 48) hx hb hts k2 tyX12 tyX12_ok nmX12 hown hK.1 hP hD hS 0 rfl rfl 12 (by decide) k8 (fun _ h9 => h9) rfl (by decide +kernel) rfl rfl (Nat.le_of_ble_eq_true rfl) dX12_go_304 (fun H locs hP hD hS => ?_)
                        have hP : va_P D vwCl [(h0, .inr (11, [.int h0_thrown, .ref h0_tape, .int h0_taped, .int h0_size, .int h0_limit, .int y96_0, .int y96_1, .int h0_kind, .int 0, .int h0_sign, .int h0_fault, .int h0_place, .long x_3798, .int h0_told, .ref h0_now, .ref h0_read, .ref h0_kept, .ref h0_snaps, .ref h0_aside, .ref h0_name, .ref h0_readName, .ref h0_keptName, .ref h0_isKept, .ref h0_onces, .int h0_snapMany, .int h0_lowest, .int h0_highest, .int h0_agreed, .int h0_jurors, .int h0_panelled, .ref h0_inSets, .int h0_surely, .int h0_asked, .ref h0_frees, .int h0_struck, .int h0_beating, .ref h0_text, .int h0_texts, .int h0_seed, .ref h0_line, .ref h0_written, .int h0_lineMany, .int h0_hasWritten, .ref h0_node, .int h0_nodes, .int h0_onesMany, .int h0_within, .int h0_top])), (aI ca h0_tape 940 F_h0_tape)] H := hP
                        have hD : va_D A [(h0, .inr (11, [.int h0_thrown, .ref h0_tape, .int h0_taped, .int h0_size, .int h0_limit, .int y96_0, .int y96_1, .int h0_kind, .int 0, .int h0_sign, .int h0_fault, .int h0_place, .long x_3798, .int h0_told, .ref h0_now, .ref h0_read, .ref h0_kept, .ref h0_snaps, .ref h0_aside, .ref h0_name, .ref h0_readName, .ref h0_keptName, .ref h0_isKept, .ref h0_onces, .int h0_snapMany, .int h0_lowest, .int h0_highest, .int h0_agreed, .int h0_jurors, .int h0_panelled, .ref h0_inSets, .int h0_surely, .int h0_asked, .ref h0_frees, .int h0_struck, .int h0_beating, .ref h0_text, .int h0_texts, .int h0_seed, .ref h0_line, .ref h0_written, .int h0_lineMany, .int h0_hasWritten, .ref h0_node, .int h0_nodes, .int h0_onesMany, .int h0_within, .int h0_top])), (aI ca h0_tape 940 F_h0_tape)] := hD
                        refine lv_aload_n hx hb dX12_go_307 rfl (lv_at hl 4 rfl) ?_
                        refine va_get (D := D) (ci := 11) (v := .int y96_0) (C := RX12) (T := TX12) (N := 48) hx hb hts k2 hown hK.1 hP 0 rfl rfl 5 (by decide) k3 (fun _ h9 => h9) rfl dX12_go_308 ?_
                        refine lv_aload_n hx hb dX12_go_311 rfl (lv_at hl 4 rfl) ?_
                        refine va_get (D := D) (ci := 11) (v := .int y96_1) (C := RX12) (T := TX12) (N := 48) hx hb hts k2 hown hK.1 hP 0 rfl rfl 6 (by decide) k4 (fun _ h9 => h9) rfl dX12_go_312 ?_
                        refine lv_isub hx hb dX12_go_315 ?_
                        refine lv_topi (fun x_3799 ex_3799 => ?_)
                        have hY := hY.trans (lt1_e ex_3799)
                        have h_3800 : rg (-940) 939 x_3799 := by rw [ex_3799]; exact rg_sub h_3607 hy96_1 (by decide) (by decide) (by decide) (by decide)
                        have l_3801 : lq x_3799.toInt (y96_0.toInt + (-1) * y96_1.toInt) := lqm (by rw [ex_3799]; have q := tsub h_3607 hy96_1 (by decide) (by decide); omega)
                        refine lv_iconst (v := 3) hx hb dX12_go_316 (by decide) ?_
                        refine lv_icmp_ge (tgt := 337) hx hb dX12_go_317 (by decide) (fun c_3802 => ?_) (fun c_3802 => ?_)
                        · skip
                          have hY := hY.trans (if_pos c_3802)
                          have o_3803 : rl 0 3 x_3799 := rl_le c_3802
                          have h_3804 : rg 3 939 x_3799 := rl_y o_3803 (⟨by decide, by decide⟩ : rg 3 3 (3 : Int32)) h_3800 (by decide) (by decide)
                          refine lv_aload_n hx hb dX12_go_337 rfl (lv_at hl 4 rfl) ?_
                          refine lv_dup hx hb dX12_go_338 rfl ?_
                          refine va_get (D := D) (ci := 11) (v := .int y96_0) (C := RX12) (T := TX12) (N := 48) hx hb hts k2 hown hK.1 hP 0 rfl rfl 5 (by decide) k3 (fun _ h9 => h9) rfl dX12_go_339 ?_
                          refine lv_iconst (v := 1) hx hb dX12_go_342 (by decide) ?_
                          refine lv_iadd hx hb dX12_go_343 ?_
                          refine lv_topi (fun x_3805 ex_3805 => ?_)
                          have hY := hY.trans (lt1_e ex_3805)
                          have h_3806 : rg 1 940 x_3805 := by rw [ex_3805]; exact rg_add h_3607 (⟨by decide, by decide⟩ : rg 1 1 (1 : Int32)) (by decide) (by decide) (by decide) (by decide)
                          have l_3807 : lq x_3805.toInt (y96_0.toInt + 1) := lqm (by rw [ex_3805]; have q := tadd h_3607 (⟨by decide, by decide⟩ : rg 1 1 (1 : Int32)) (by decide) (by decide); have r1 := lqe (lqm (by decide) : lq (1 : Int32).toInt 1); omega)
                          refine va_put (D := D) (ci := 11) (v := .int x_3805) (ty := .int) (C := RX12) (T := TX12) (N := 48) hx hb hts k2 tyX12 tyX12_ok nmX12 hown hK.1 hP hD hS 0 rfl rfl 5 (by decide) k3 (fun _ h9 => h9) rfl (by decide +kernel) rfl rfl (Nat.le_of_ble_eq_true rfl) dX12_go_344 (fun H locs hP hD hS => ?_)
                          have hP : va_P D vwCl [(h0, .inr (11, [.int h0_thrown, .ref h0_tape, .int h0_taped, .int h0_size, .int h0_limit, .int x_3805, .int y96_1, .int h0_kind, .int 0, .int h0_sign, .int h0_fault, .int h0_place, .long x_3798, .int h0_told, .ref h0_now, .ref h0_read, .ref h0_kept, .ref h0_snaps, .ref h0_aside, .ref h0_name, .ref h0_readName, .ref h0_keptName, .ref h0_isKept, .ref h0_onces, .int h0_snapMany, .int h0_lowest, .int h0_highest, .int h0_agreed, .int h0_jurors, .int h0_panelled, .ref h0_inSets, .int h0_surely, .int h0_asked, .ref h0_frees, .int h0_struck, .int h0_beating, .ref h0_text, .int h0_texts, .int h0_seed, .ref h0_line, .ref h0_written, .int h0_lineMany, .int h0_hasWritten, .ref h0_node, .int h0_nodes, .int h0_onesMany, .int h0_within, .int h0_top])), (aI ca h0_tape 940 F_h0_tape)] H := hP
                          have hD : va_D A [(h0, .inr (11, [.int h0_thrown, .ref h0_tape, .int h0_taped, .int h0_size, .int h0_limit, .int x_3805, .int y96_1, .int h0_kind, .int 0, .int h0_sign, .int h0_fault, .int h0_place, .long x_3798, .int h0_told, .ref h0_now, .ref h0_read, .ref h0_kept, .ref h0_snaps, .ref h0_aside, .ref h0_name, .ref h0_readName, .ref h0_keptName, .ref h0_isKept, .ref h0_onces, .int h0_snapMany, .int h0_lowest, .int h0_highest, .int h0_agreed, .int h0_jurors, .int h0_panelled, .ref h0_inSets, .int h0_surely, .int h0_asked, .ref h0_frees, .int h0_struck, .int h0_beating, .ref h0_text, .int h0_texts, .int h0_seed, .ref h0_line, .ref h0_written, .int h0_lineMany, .int h0_hasWritten, .ref h0_node, .int h0_nodes, .int h0_onesMany, .int h0_within, .int h0_top])), (aI ca h0_tape 940 F_h0_tape)] := hD
                          refine lv_goto (tgt := 215) hx hb dX12_go_347 (by decide) ?_
                          exact J215_2556 940 0 1 x_3805 y96_1 0 x_3798 trivial (⟨by decide, by decide⟩ : rg 0 1 (0 : Int32)) (⟨by decide, by decide⟩ : rg 0 1 (1 : Int32)) h_3806 (rlm (by have q0 := lqe l_3807; have q1 := rle py96_0_h0_to; omega)) hy96_1 (rlm (by have q0 := rle py96_1_h0_to; omega)) t96_h0_limit h_3608 (by have q0 := h_3806.1; omega) hY H locs ls (oPsub hP [0, 1] rfl) (hD.sub [0, 1] (by decide) rfl) hS (lv_sub hl [4, 2, 0] rfl)
                        · skip
                          have hY := hY.trans (if_neg c_3802)
                          have o_3808 : rl 1 x_3799 3 := rl_nle c_3802
                          have h_3809 : rg (-940) 2 x_3799 := rl_x o_3808 h_3800 (⟨by decide, by decide⟩ : rg 3 3 (3 : Int32)) (by decide) (by decide)
                          refine lv_aload_n hx hb dX12_go_320 rfl (lv_at hl 4 rfl) ?_
                          refine lv_bipush (v := 10) hx hb dX12_go_321 (by decide) ?_
                          refine lv_aload_n hx hb dX12_go_323 rfl (lv_at hl 4 rfl) ?_
                          refine va_get (D := D) (ci := 11) (v := .int 0) (C := RX12) (T := TX12) (N := 48) hx hb hts k2 hown hK.1 hP 0 rfl rfl 8 (by decide) k6 (fun _ h9 => h9) rfl dX12_go_324 ?_
                          refine lv_imul hx hb dX12_go_327 ?_
                          refine oti 0 (by decide) ?_
                          refine lv_iload hx hb dX12_go_328 (lv_at hl 1 rfl) ?_
                          refine lv_iadd hx hb dX12_go_330 ?_
                          refine lv_topi (fun x_3810 ex_3810 => ?_)
                          have hY := hY.trans (lt1_e ex_3810)
                          have h_3811 : rg 48 57 x_3810 := by rw [ex_3810]; exact rg_add (⟨by decide, by decide⟩ : rg 0 0 (0 : Int32)) h_3640 (by decide) (by decide) (by decide) (by decide)
                          have l_3812 : lq x_3810.toInt (x_3609.toInt) := lqm (by rw [ex_3810]; have q := tadd (⟨by decide, by decide⟩ : rg 0 0 (0 : Int32)) h_3640 (by decide) (by decide); have r0 := lqe (lqm (by decide) : lq (0 : Int32).toInt 0); omega)
                          refine lv_bipush (v := 48) hx hb dX12_go_331 (by decide) ?_
                          refine lv_isub hx hb dX12_go_333 ?_
                          refine lv_topi (fun x_3813 ex_3813 => ?_)
                          have hY := hY.trans (lt1_e ex_3813)
                          have h_3814 : rg 0 9 x_3813 := by rw [ex_3813]; exact rg_sub h_3811 (⟨by decide, by decide⟩ : rg 48 48 (48 : Int32)) (by decide) (by decide) (by decide) (by decide)
                          have l_3815 : lq x_3813.toInt (x_3609.toInt + (-48)) := lqm (by rw [ex_3813]; have q := tsub h_3811 (⟨by decide, by decide⟩ : rg 48 48 (48 : Int32)) (by decide) (by decide); have r0 := lqe l_3812; have r1 := lqe (lqm (by decide) : lq (48 : Int32).toInt 48); omega)
                          refine va_put (D := D) (ci := 11) (v := .int x_3813) (ty := .int) (C := RX12) (T := TX12) (N := 48) hx hb hts k2 tyX12 tyX12_ok nmX12 hown hK.1 hP hD hS 0 rfl rfl 8 (by decide) k6 (fun _ h9 => h9) rfl (by decide +kernel) rfl rfl (Nat.le_of_ble_eq_true rfl) dX12_go_334 (fun H locs hP hD hS => ?_)
                          have hP : va_P D vwCl [(h0, .inr (11, [.int h0_thrown, .ref h0_tape, .int h0_taped, .int h0_size, .int h0_limit, .int y96_0, .int y96_1, .int h0_kind, .int x_3813, .int h0_sign, .int h0_fault, .int h0_place, .long x_3798, .int h0_told, .ref h0_now, .ref h0_read, .ref h0_kept, .ref h0_snaps, .ref h0_aside, .ref h0_name, .ref h0_readName, .ref h0_keptName, .ref h0_isKept, .ref h0_onces, .int h0_snapMany, .int h0_lowest, .int h0_highest, .int h0_agreed, .int h0_jurors, .int h0_panelled, .ref h0_inSets, .int h0_surely, .int h0_asked, .ref h0_frees, .int h0_struck, .int h0_beating, .ref h0_text, .int h0_texts, .int h0_seed, .ref h0_line, .ref h0_written, .int h0_lineMany, .int h0_hasWritten, .ref h0_node, .int h0_nodes, .int h0_onesMany, .int h0_within, .int h0_top])), (aI ca h0_tape 940 F_h0_tape)] H := hP
                          have hD : va_D A [(h0, .inr (11, [.int h0_thrown, .ref h0_tape, .int h0_taped, .int h0_size, .int h0_limit, .int y96_0, .int y96_1, .int h0_kind, .int x_3813, .int h0_sign, .int h0_fault, .int h0_place, .long x_3798, .int h0_told, .ref h0_now, .ref h0_read, .ref h0_kept, .ref h0_snaps, .ref h0_aside, .ref h0_name, .ref h0_readName, .ref h0_keptName, .ref h0_isKept, .ref h0_onces, .int h0_snapMany, .int h0_lowest, .int h0_highest, .int h0_agreed, .int h0_jurors, .int h0_panelled, .ref h0_inSets, .int h0_surely, .int h0_asked, .ref h0_frees, .int h0_struck, .int h0_beating, .ref h0_text, .int h0_texts, .int h0_seed, .ref h0_line, .ref h0_written, .int h0_lineMany, .int h0_hasWritten, .ref h0_node, .int h0_nodes, .int h0_onesMany, .int h0_within, .int h0_top])), (aI ca h0_tape 940 F_h0_tape)] := hD
                          refine lv_aload_n hx hb dX12_go_337 rfl (lv_at hl 4 rfl) ?_
                          refine lv_dup hx hb dX12_go_338 rfl ?_
                          refine va_get (D := D) (ci := 11) (v := .int y96_0) (C := RX12) (T := TX12) (N := 48) hx hb hts k2 hown hK.1 hP 0 rfl rfl 5 (by decide) k3 (fun _ h9 => h9) rfl dX12_go_339 ?_
                          refine lv_iconst (v := 1) hx hb dX12_go_342 (by decide) ?_
                          refine lv_iadd hx hb dX12_go_343 ?_
                          refine lv_topi (fun x_3816 ex_3816 => ?_)
                          have hY := hY.trans (lt1_e ex_3816)
                          have h_3817 : rg 1 940 x_3816 := by rw [ex_3816]; exact rg_add h_3607 (⟨by decide, by decide⟩ : rg 1 1 (1 : Int32)) (by decide) (by decide) (by decide) (by decide)
                          have l_3818 : lq x_3816.toInt (y96_0.toInt + 1) := lqm (by rw [ex_3816]; have q := tadd h_3607 (⟨by decide, by decide⟩ : rg 1 1 (1 : Int32)) (by decide) (by decide); have r1 := lqe (lqm (by decide) : lq (1 : Int32).toInt 1); omega)
                          refine va_put (D := D) (ci := 11) (v := .int x_3816) (ty := .int) (C := RX12) (T := TX12) (N := 48) hx hb hts k2 tyX12 tyX12_ok nmX12 hown hK.1 hP hD hS 0 rfl rfl 5 (by decide) k3 (fun _ h9 => h9) rfl (by decide +kernel) rfl rfl (Nat.le_of_ble_eq_true rfl) dX12_go_344 (fun H locs hP hD hS => ?_)
                          have hP : va_P D vwCl [(h0, .inr (11, [.int h0_thrown, .ref h0_tape, .int h0_taped, .int h0_size, .int h0_limit, .int x_3816, .int y96_1, .int h0_kind, .int x_3813, .int h0_sign, .int h0_fault, .int h0_place, .long x_3798, .int h0_told, .ref h0_now, .ref h0_read, .ref h0_kept, .ref h0_snaps, .ref h0_aside, .ref h0_name, .ref h0_readName, .ref h0_keptName, .ref h0_isKept, .ref h0_onces, .int h0_snapMany, .int h0_lowest, .int h0_highest, .int h0_agreed, .int h0_jurors, .int h0_panelled, .ref h0_inSets, .int h0_surely, .int h0_asked, .ref h0_frees, .int h0_struck, .int h0_beating, .ref h0_text, .int h0_texts, .int h0_seed, .ref h0_line, .ref h0_written, .int h0_lineMany, .int h0_hasWritten, .ref h0_node, .int h0_nodes, .int h0_onesMany, .int h0_within, .int h0_top])), (aI ca h0_tape 940 F_h0_tape)] H := hP
                          have hD : va_D A [(h0, .inr (11, [.int h0_thrown, .ref h0_tape, .int h0_taped, .int h0_size, .int h0_limit, .int x_3816, .int y96_1, .int h0_kind, .int x_3813, .int h0_sign, .int h0_fault, .int h0_place, .long x_3798, .int h0_told, .ref h0_now, .ref h0_read, .ref h0_kept, .ref h0_snaps, .ref h0_aside, .ref h0_name, .ref h0_readName, .ref h0_keptName, .ref h0_isKept, .ref h0_onces, .int h0_snapMany, .int h0_lowest, .int h0_highest, .int h0_agreed, .int h0_jurors, .int h0_panelled, .ref h0_inSets, .int h0_surely, .int h0_asked, .ref h0_frees, .int h0_struck, .int h0_beating, .ref h0_text, .int h0_texts, .int h0_seed, .ref h0_line, .ref h0_written, .int h0_lineMany, .int h0_hasWritten, .ref h0_node, .int h0_nodes, .int h0_onesMany, .int h0_within, .int h0_top])), (aI ca h0_tape 940 F_h0_tape)] := hD
                          refine lv_goto (tgt := 215) hx hb dX12_go_347 (by decide) ?_
                          exact J215_2556 940 0 1 x_3816 y96_1 x_3813 x_3798 trivial (⟨by decide, by decide⟩ : rg 0 1 (0 : Int32)) (⟨by decide, by decide⟩ : rg 0 1 (1 : Int32)) h_3817 (rlm (by have q0 := lqe l_3818; have q1 := rle py96_0_h0_to; omega)) hy96_1 (rlm (by have q0 := rle py96_1_h0_to; omega)) t96_h0_limit h_3608 (by have q0 := h_3817.1; omega) hY H locs ls (oPsub hP [0, 1] rfl) (hD.sub [0, 1] (by decide) rfl) hS (lv_sub hl [4, 2, 0] rfl)
                    · skip
                      subst h_3758
                      exact (rg_no h_3759 h_3640 (by decide)).elim
                    · skip
                      subst h_3763
                      exact (rg_no h_3764 h_3640 (by decide)).elim
              · skip
                subst h_3712
                exact (rg_no h_3713 h_3640 (by decide)).elim
              · skip
                subst h_3717
                exact (rg_no h_3718 h_3640 (by decide)).elim
          · skip
            subst h_3682
            exact (rg_no h_3683 h_3640 (by decide)).elim
          · skip
            subst h_3687
            exact (rg_no h_3688 h_3640 (by decide)).elim
      · skip
        subst h_3617
        have h_3819 : rg 123 255 x_3609 := rg_i h_3618 h_3610 (by decide) (by decide)
        have hY := hY.trans (lt1_e h_3621)
        have hY := hY.trans (if_neg h_3619)
        have hY := hY.trans (if_pos h_3620)
        refine lv_if_ne (tgt := 198) hx hb dX12_go_127 (by decide) (fun c => absurd (by decide) c) (fun _ => ?_)
        refine lv_iload_n hx hb dX12_go_130 rfl (lv_at hl 0 rfl) ?_
        refine oC_i (Wc := []) (Wr := [(h0, .inr (11, [.int h0_thrown, .ref h0_tape, .int h0_taped, .int h0_size, .int h0_limit, .int y96_0, .int y96_1, .int h0_kind, .int h0_number, .int h0_sign, .int h0_fault, .int h0_place, .long h0_word, .int h0_told, .ref h0_now, .ref h0_read, .ref h0_kept, .ref h0_snaps, .ref h0_aside, .ref h0_name, .ref h0_readName, .ref h0_keptName, .ref h0_isKept, .ref h0_onces, .int h0_snapMany, .int h0_lowest, .int h0_highest, .int h0_agreed, .int h0_jurors, .int h0_panelled, .ref h0_inSets, .int h0_surely, .int h0_asked, .ref h0_frees, .int h0_struck, .int h0_beating, .ref h0_text, .int h0_texts, .int h0_seed, .ref h0_line, .ref h0_written, .int h0_lineMany, .int h0_hasWritten, .ref h0_node, .int h0_nodes, .int h0_onesMany, .int h0_within, .int h0_top])), (aI ca h0_tape 940 F_h0_tape)]) (va_runS (As := [.int x_3609]) (rest := []) ⟨hx, hb, hml, hown, hts⟩ (e_X12_isDigit l D ca H.size x_3609) (va_cwS 1 hts gX12_go_X12_isDigit rfl rfl rfl (by decide +kernel) ⟨Nat.le_of_ble_eq_true rfl, Nat.le_of_ble_eq_true rfl⟩) (oPS hK hP hD [] rfl (by decide)) rfl rfl hl.1 rfl (lv_room (Nat.le_of_ble_eq_true rfl)) dX12_go_131 ⟨Nat.le_of_ble_eq_true rfl, Nat.le_of_ble_eq_true rfl⟩) hP hD hS hA [] [0, 1] rfl rfl (by decide) (by decide) (fun r_3820 u H locs w_3821 hP hD hS => ?_)
        obtain ⟨⟩ := u
        have hP : va_P D vwCl [(h0, .inr (11, [.int h0_thrown, .ref h0_tape, .int h0_taped, .int h0_size, .int h0_limit, .int y96_0, .int y96_1, .int h0_kind, .int h0_number, .int h0_sign, .int h0_fault, .int h0_place, .long h0_word, .int h0_told, .ref h0_now, .ref h0_read, .ref h0_kept, .ref h0_snaps, .ref h0_aside, .ref h0_name, .ref h0_readName, .ref h0_keptName, .ref h0_isKept, .ref h0_onces, .int h0_snapMany, .int h0_lowest, .int h0_highest, .int h0_agreed, .int h0_jurors, .int h0_panelled, .ref h0_inSets, .int h0_surely, .int h0_asked, .ref h0_frees, .int h0_struck, .int h0_beating, .ref h0_text, .int h0_texts, .int h0_seed, .ref h0_line, .ref h0_written, .int h0_lineMany, .int h0_hasWritten, .ref h0_node, .int h0_nodes, .int h0_onesMany, .int h0_within, .int h0_top])), (aI ca h0_tape 940 F_h0_tape)] H := hP
        have hD : va_D A [(h0, .inr (11, [.int h0_thrown, .ref h0_tape, .int h0_taped, .int h0_size, .int h0_limit, .int y96_0, .int y96_1, .int h0_kind, .int h0_number, .int h0_sign, .int h0_fault, .int h0_place, .long h0_word, .int h0_told, .ref h0_now, .ref h0_read, .ref h0_kept, .ref h0_snaps, .ref h0_aside, .ref h0_name, .ref h0_readName, .ref h0_keptName, .ref h0_isKept, .ref h0_onces, .int h0_snapMany, .int h0_lowest, .int h0_highest, .int h0_agreed, .int h0_jurors, .int h0_panelled, .ref h0_inSets, .int h0_surely, .int h0_asked, .ref h0_frees, .int h0_struck, .int h0_beating, .ref h0_text, .int h0_texts, .int h0_seed, .ref h0_line, .ref h0_written, .int h0_lineMany, .int h0_hasWritten, .ref h0_node, .int h0_nodes, .int h0_onesMany, .int h0_within, .int h0_top])), (aI ca h0_tape 940 F_h0_tape)] := hD
        try dsimp only at w_3821
        rcases w_3821 with ⟨h_3822, h_3823, h_3824, h_3825⟩ | ⟨h_3826, h_3827, h_3828, h_3829, h_3830⟩ | ⟨h_3831, h_3832, h_3833, h_3834, h_3835⟩
        · skip
          subst h_3822
          exact (rg_no h_3823 h_3819 (by decide)).elim
        · skip
          subst h_3826
          have hY := hY.trans (lt1_e h_3830)
          have hY := hY.trans (if_neg h_3828)
          have hY := hY.trans (if_pos h_3829)
          refine lv_if_ne (tgt := 198) hx hb dX12_go_134 (by decide) (fun c => absurd (by decide) c) (fun _ => ?_)
          refine lv_aload_n hx hb dX12_go_137 rfl (lv_at hl 1 rfl) ?_
          refine lv_iload_n hx hb dX12_go_138 rfl (lv_at hl 0 rfl) ?_
          refine lv_bipush (v := 59) hx hb dX12_go_139 (by decide) ?_
          refine lv_icmp_eq (tgt := 174) hx hb dX12_go_141 (by decide) (fun c => absurd c (no_eq h_3819 (⟨by decide, by decide⟩ : rg 59 59 (59 : Int32)) (by decide))) (fun _ => ?_)
          refine lv_iload_n hx hb dX12_go_144 rfl (lv_at hl 0 rfl) ?_
          refine lv_bipush (v := 60) hx hb dX12_go_145 (by decide) ?_
          refine lv_icmp_eq (tgt := 174) hx hb dX12_go_147 (by decide) (fun c => absurd c (no_eq h_3819 (⟨by decide, by decide⟩ : rg 60 60 (60 : Int32)) (by decide))) (fun _ => ?_)
          refine lv_iload_n hx hb dX12_go_150 rfl (lv_at hl 0 rfl) ?_
          refine lv_bipush (v := 61) hx hb dX12_go_151 (by decide) ?_
          refine lv_icmp_eq (tgt := 174) hx hb dX12_go_153 (by decide) (fun c => absurd c (no_eq h_3819 (⟨by decide, by decide⟩ : rg 61 61 (61 : Int32)) (by decide))) (fun _ => ?_)
          refine lv_iload_n hx hb dX12_go_156 rfl (lv_at hl 0 rfl) ?_
          refine lv_bipush (v := 62) hx hb dX12_go_157 (by decide) ?_
          refine lv_icmp_eq (tgt := 174) hx hb dX12_go_159 (by decide) (fun c => absurd c (no_eq h_3819 (⟨by decide, by decide⟩ : rg 62 62 (62 : Int32)) (by decide))) (fun _ => ?_)
          refine lv_iload_n hx hb dX12_go_162 rfl (lv_at hl 0 rfl) ?_
          refine lv_bipush (v := 40) hx hb dX12_go_163 (by decide) ?_
          refine lv_icmp_eq (tgt := 174) hx hb dX12_go_165 (by decide) (fun c => absurd c (no_eq h_3819 (⟨by decide, by decide⟩ : rg 40 40 (40 : Int32)) (by decide))) (fun _ => ?_)
          refine lv_iload_n hx hb dX12_go_168 rfl (lv_at hl 0 rfl) ?_
          refine lv_bipush (v := 41) hx hb dX12_go_169 (by decide) ?_
          refine lv_icmp_ne (tgt := 178) hx hb dX12_go_171 (by decide) (fun _ => ?_) (fun c => absurd c (no_eq h_3819 (⟨by decide, by decide⟩ : rg 41 41 (41 : Int32)) (by decide)))
          refine lv_iconst (v := 1) hx hb dX12_go_178 (by decide) ?_
          exact J179_3599 x_3609 1 y96_0 y96_1 (rgw (lo := 0) (hi := 255) h_3819 (by decide) (by decide)) (⟨by decide, by decide⟩ : rg 1 4 (1 : Int32)) h_3607 (rlm (by have q0 := rle py96_0_h0_to; omega)) (rlm (by have q0 := rle o_3606; omega)) hy96_1 (rlm (by have q0 := rle py96_1_h0_to; omega)) t96_h0_limit h_3608 hY H locs ls (oPsub hP [0, 1] rfl) (hD.sub [0, 1] (by decide) rfl) hS (lv_sub hl [1, 0] rfl)
        · skip
          subst h_3831
          exact (rg_no h_3832 h_3819 (by decide)).elim
      · skip
        subst h_3622
        have hY := hY.trans (lt1_e h_3626)
        have hY := hY.trans (if_neg h_3624)
        have hY := hY.trans (if_neg h_3625)
        refine lv_if_ne (tgt := 198) hx hb dX12_go_127 (by decide) (fun _ => ?_) (fun c => absurd c (by decide))
        refine lv_iload_n hx hb dX12_go_198 rfl (lv_at hl 0 rfl) ?_
        refine oC_i (Wc := []) (Wr := [(h0, .inr (11, [.int h0_thrown, .ref h0_tape, .int h0_taped, .int h0_size, .int h0_limit, .int y96_0, .int y96_1, .int h0_kind, .int h0_number, .int h0_sign, .int h0_fault, .int h0_place, .long h0_word, .int h0_told, .ref h0_now, .ref h0_read, .ref h0_kept, .ref h0_snaps, .ref h0_aside, .ref h0_name, .ref h0_readName, .ref h0_keptName, .ref h0_isKept, .ref h0_onces, .int h0_snapMany, .int h0_lowest, .int h0_highest, .int h0_agreed, .int h0_jurors, .int h0_panelled, .ref h0_inSets, .int h0_surely, .int h0_asked, .ref h0_frees, .int h0_struck, .int h0_beating, .ref h0_text, .int h0_texts, .int h0_seed, .ref h0_line, .ref h0_written, .int h0_lineMany, .int h0_hasWritten, .ref h0_node, .int h0_nodes, .int h0_onesMany, .int h0_within, .int h0_top])), (aI ca h0_tape 940 F_h0_tape)]) (va_runS (As := [.int x_3609]) (rest := []) ⟨hx, hb, hml, hown, hts⟩ (e_X12_isLetter l D ca H.size x_3609) (va_cwS 1 hts gX12_go_X12_isLetter rfl rfl rfl (by decide +kernel) ⟨Nat.le_of_ble_eq_true rfl, Nat.le_of_ble_eq_true rfl⟩) (oPS hK hP hD [] rfl (by decide)) rfl rfl hl.1 rfl (lv_room (Nat.le_of_ble_eq_true rfl)) dX12_go_199 ⟨Nat.le_of_ble_eq_true rfl, Nat.le_of_ble_eq_true rfl⟩) hP hD hS hA [] [0, 1] rfl rfl (by decide) (by decide) (fun r_3836 u H locs w_3837 hP hD hS => ?_)
        obtain ⟨⟩ := u
        have hP : va_P D vwCl [(h0, .inr (11, [.int h0_thrown, .ref h0_tape, .int h0_taped, .int h0_size, .int h0_limit, .int y96_0, .int y96_1, .int h0_kind, .int h0_number, .int h0_sign, .int h0_fault, .int h0_place, .long h0_word, .int h0_told, .ref h0_now, .ref h0_read, .ref h0_kept, .ref h0_snaps, .ref h0_aside, .ref h0_name, .ref h0_readName, .ref h0_keptName, .ref h0_isKept, .ref h0_onces, .int h0_snapMany, .int h0_lowest, .int h0_highest, .int h0_agreed, .int h0_jurors, .int h0_panelled, .ref h0_inSets, .int h0_surely, .int h0_asked, .ref h0_frees, .int h0_struck, .int h0_beating, .ref h0_text, .int h0_texts, .int h0_seed, .ref h0_line, .ref h0_written, .int h0_lineMany, .int h0_hasWritten, .ref h0_node, .int h0_nodes, .int h0_onesMany, .int h0_within, .int h0_top])), (aI ca h0_tape 940 F_h0_tape)] H := hP
        have hD : va_D A [(h0, .inr (11, [.int h0_thrown, .ref h0_tape, .int h0_taped, .int h0_size, .int h0_limit, .int y96_0, .int y96_1, .int h0_kind, .int h0_number, .int h0_sign, .int h0_fault, .int h0_place, .long h0_word, .int h0_told, .ref h0_now, .ref h0_read, .ref h0_kept, .ref h0_snaps, .ref h0_aside, .ref h0_name, .ref h0_readName, .ref h0_keptName, .ref h0_isKept, .ref h0_onces, .int h0_snapMany, .int h0_lowest, .int h0_highest, .int h0_agreed, .int h0_jurors, .int h0_panelled, .ref h0_inSets, .int h0_surely, .int h0_asked, .ref h0_frees, .int h0_struck, .int h0_beating, .ref h0_text, .int h0_texts, .int h0_seed, .ref h0_line, .ref h0_written, .int h0_lineMany, .int h0_hasWritten, .ref h0_node, .int h0_nodes, .int h0_onesMany, .int h0_within, .int h0_top])), (aI ca h0_tape 940 F_h0_tape)] := hD
        try dsimp only at w_3837
        rcases w_3837 with ⟨h_3838, h_3839, h_3840, h_3841⟩ | ⟨h_3842, h_3843, h_3844, h_3845, h_3846⟩ | ⟨h_3847, h_3848, h_3849, h_3850, h_3851⟩
        · skip
          subst h_3838
          exact (rg_no h_3839 h_3623 (by decide)).elim
        · skip
          subst h_3842
          exact (rg_no h_3843 h_3623 (by decide)).elim
        · skip
          subst h_3847
          have hY := hY.trans (lt1_e h_3851)
          have hY := hY.trans (if_neg h_3849)
          have hY := hY.trans (if_neg h_3850)
          refine lv_istore_n (lv' := [(2, .int 1), (1, .int x_3609), (0, .ref h0)]) hx hb dX12_go_202 rfl hl (by decide) rfl (fun ls hl => ?_)
          refine lv_iconst (v := 1) hx hb dX12_go_203 (by decide) ?_
          refine lv_istore_n (lv' := [(3, .int 1), (2, .int 1), (1, .int x_3609), (0, .ref h0)]) hx hb dX12_go_204 rfl hl (by decide) rfl (fun ls hl => ?_)
          refine lv_aload_n hx hb dX12_go_205 rfl (lv_at hl 3 rfl) ?_
          refine lv_lconst (v := 0) hx hb dX12_go_206 (by decide) ?_
          refine va_put (D := D) (ci := 11) (v := .long 0) (ty := .long) (C := RX12) (T := TX12) (N := 48) hx hb hts k2 tyX12 tyX12_ok nmX12 hown hK.1 hP hD hS 0 rfl rfl 12 (by decide) k8 (fun _ h9 => h9) rfl (by decide +kernel) rfl rfl (Nat.le_of_ble_eq_true rfl) dX12_go_207 (fun H locs hP hD hS => ?_)
          have hP : va_P D vwCl [(h0, .inr (11, [.int h0_thrown, .ref h0_tape, .int h0_taped, .int h0_size, .int h0_limit, .int y96_0, .int y96_1, .int h0_kind, .int h0_number, .int h0_sign, .int h0_fault, .int h0_place, .long 0, .int h0_told, .ref h0_now, .ref h0_read, .ref h0_kept, .ref h0_snaps, .ref h0_aside, .ref h0_name, .ref h0_readName, .ref h0_keptName, .ref h0_isKept, .ref h0_onces, .int h0_snapMany, .int h0_lowest, .int h0_highest, .int h0_agreed, .int h0_jurors, .int h0_panelled, .ref h0_inSets, .int h0_surely, .int h0_asked, .ref h0_frees, .int h0_struck, .int h0_beating, .ref h0_text, .int h0_texts, .int h0_seed, .ref h0_line, .ref h0_written, .int h0_lineMany, .int h0_hasWritten, .ref h0_node, .int h0_nodes, .int h0_onesMany, .int h0_within, .int h0_top])), (aI ca h0_tape 940 F_h0_tape)] H := hP
          have hD : va_D A [(h0, .inr (11, [.int h0_thrown, .ref h0_tape, .int h0_taped, .int h0_size, .int h0_limit, .int y96_0, .int y96_1, .int h0_kind, .int h0_number, .int h0_sign, .int h0_fault, .int h0_place, .long 0, .int h0_told, .ref h0_now, .ref h0_read, .ref h0_kept, .ref h0_snaps, .ref h0_aside, .ref h0_name, .ref h0_readName, .ref h0_keptName, .ref h0_isKept, .ref h0_onces, .int h0_snapMany, .int h0_lowest, .int h0_highest, .int h0_agreed, .int h0_jurors, .int h0_panelled, .ref h0_inSets, .int h0_surely, .int h0_asked, .ref h0_frees, .int h0_struck, .int h0_beating, .ref h0_text, .int h0_texts, .int h0_seed, .ref h0_line, .ref h0_written, .int h0_lineMany, .int h0_hasWritten, .ref h0_node, .int h0_nodes, .int h0_onesMany, .int h0_within, .int h0_top])), (aI ca h0_tape 940 F_h0_tape)] := hD
          refine lv_aload_n hx hb dX12_go_210 rfl (lv_at hl 3 rfl) ?_
          refine lv_iconst (v := 0) hx hb dX12_go_211 (by decide) ?_
          refine va_put (D := D) (ci := 11) (v := .int 0) (ty := .int) (C := RX12) (T := TX12) (N := 48) hx hb hts k2 tyX12 tyX12_ok nmX12 hown hK.1 hP hD hS 0 rfl rfl 8 (by decide) k6 (fun _ h9 => h9) rfl (by decide +kernel) rfl rfl (Nat.le_of_ble_eq_true rfl) dX12_go_212 (fun H locs hP hD hS => ?_)
          have hP : va_P D vwCl [(h0, .inr (11, [.int h0_thrown, .ref h0_tape, .int h0_taped, .int h0_size, .int h0_limit, .int y96_0, .int y96_1, .int h0_kind, .int 0, .int h0_sign, .int h0_fault, .int h0_place, .long 0, .int h0_told, .ref h0_now, .ref h0_read, .ref h0_kept, .ref h0_snaps, .ref h0_aside, .ref h0_name, .ref h0_readName, .ref h0_keptName, .ref h0_isKept, .ref h0_onces, .int h0_snapMany, .int h0_lowest, .int h0_highest, .int h0_agreed, .int h0_jurors, .int h0_panelled, .ref h0_inSets, .int h0_surely, .int h0_asked, .ref h0_frees, .int h0_struck, .int h0_beating, .ref h0_text, .int h0_texts, .int h0_seed, .ref h0_line, .ref h0_written, .int h0_lineMany, .int h0_hasWritten, .ref h0_node, .int h0_nodes, .int h0_onesMany, .int h0_within, .int h0_top])), (aI ca h0_tape 940 F_h0_tape)] H := hP
          have hD : va_D A [(h0, .inr (11, [.int h0_thrown, .ref h0_tape, .int h0_taped, .int h0_size, .int h0_limit, .int y96_0, .int y96_1, .int h0_kind, .int 0, .int h0_sign, .int h0_fault, .int h0_place, .long 0, .int h0_told, .ref h0_now, .ref h0_read, .ref h0_kept, .ref h0_snaps, .ref h0_aside, .ref h0_name, .ref h0_readName, .ref h0_keptName, .ref h0_isKept, .ref h0_onces, .int h0_snapMany, .int h0_lowest, .int h0_highest, .int h0_agreed, .int h0_jurors, .int h0_panelled, .ref h0_inSets, .int h0_surely, .int h0_asked, .ref h0_frees, .int h0_struck, .int h0_beating, .ref h0_text, .int h0_texts, .int h0_seed, .ref h0_line, .ref h0_written, .int h0_lineMany, .int h0_hasWritten, .ref h0_node, .int h0_nodes, .int h0_onesMany, .int h0_within, .int h0_top])), (aI ca h0_tape 940 F_h0_tape)] := hD
          refine lv_aload_n hx hb dX12_go_215 rfl (lv_at hl 3 rfl) ?_
          refine lv_aload_n hx hb dX12_go_216 rfl (lv_at hl 3 rfl) ?_
          refine va_get (D := D) (ci := 11) (v := .int y96_0) (C := RX12) (T := TX12) (N := 48) hx hb hts k2 hown hK.1 hP 0 rfl rfl 5 (by decide) k3 (fun _ h9 => h9) rfl dX12_go_217 ?_
          refine oC_i (Wc := [(h0, .inr (11, [.int h0_thrown, .ref h0_tape, .int h0_taped, .int h0_size, .int h0_limit, .int y96_0, .int y96_1, .int h0_kind, .int 0, .int h0_sign, .int h0_fault, .int h0_place, .long 0, .int h0_told, .ref h0_now, .ref h0_read, .ref h0_kept, .ref h0_snaps, .ref h0_aside, .ref h0_name, .ref h0_readName, .ref h0_keptName, .ref h0_isKept, .ref h0_onces, .int h0_snapMany, .int h0_lowest, .int h0_highest, .int h0_agreed, .int h0_jurors, .int h0_panelled, .ref h0_inSets, .int h0_surely, .int h0_asked, .ref h0_frees, .int h0_struck, .int h0_beating, .ref h0_text, .int h0_texts, .int h0_seed, .ref h0_line, .ref h0_written, .int h0_lineMany, .int h0_hasWritten, .ref h0_node, .int h0_nodes, .int h0_onesMany, .int h0_within, .int h0_top])), (aI ca h0_tape 940 F_h0_tape)]) (Wr := []) (va_runV (As := [.int y96_0]) (rest := []) ⟨hx, hb, hml, hown, hts⟩ (e_X12_tapeAt l D ca H.size h0 y96_0 h0_thrown h0_tape h0_taped h0_size h0_limit y96_0 y96_1 h0_kind 0 h0_sign h0_fault h0_place 0 h0_told h0_now h0_read h0_kept h0_snaps h0_aside h0_name h0_readName h0_keptName h0_isKept h0_onces h0_snapMany h0_lowest h0_highest h0_agreed h0_jurors h0_panelled h0_inSets h0_surely h0_asked h0_frees h0_struck h0_beating h0_text h0_texts h0_seed h0_line h0_written h0_lineMany h0_hasWritten h0_node h0_nodes h0_onesMany h0_within h0_top F_h0_tape (rgw (lo := 0) (hi := 940) h_3607 (by decide) (by decide)) i_h0_taped (rgw (lo := 0) (hi := 940) h_3608 (by decide) (by decide)) (rgw (lo := 0) (hi := 940) h_3607 (by decide) (by decide)) i_h0_kind i_h0_snapMany i_h0_texts i_h0_lineMany i_h0_hasWritten i_h0_nodes i_h0_onesMany (sg_w (a' := 0) (b' := 940) (lo' := 0) (hi' := 255) s_h0_tape_0 (by decide) (by decide) (by decide) (by decide))) (cwV 1 hts gX12_go_X12_tapeAt rfl rfl rfl (by decide +kernel) ⟨Nat.le_of_ble_eq_true rfl, Nat.le_of_ble_eq_true rfl⟩) (oPV (C := RX12) hK hP hD [0, 1] rfl (by decide) 0 rfl (ci := 11) rfl rfl) rfl rfl hl.1 rfl (lv_room (Nat.le_of_ble_eq_true rfl)) dX12_go_220 ⟨Nat.le_of_ble_eq_true rfl, Nat.le_of_ble_eq_true rfl⟩) hP hD hS hA [0, 1] [] rfl rfl (by decide) (by decide) (fun r_3852 u H locs w_3853 hP hD hS => ?_)
          obtain ⟨⟩ := u
          have hP : va_P D vwCl [(h0, .inr (11, [.int h0_thrown, .ref h0_tape, .int h0_taped, .int h0_size, .int h0_limit, .int y96_0, .int y96_1, .int h0_kind, .int 0, .int h0_sign, .int h0_fault, .int h0_place, .long 0, .int h0_told, .ref h0_now, .ref h0_read, .ref h0_kept, .ref h0_snaps, .ref h0_aside, .ref h0_name, .ref h0_readName, .ref h0_keptName, .ref h0_isKept, .ref h0_onces, .int h0_snapMany, .int h0_lowest, .int h0_highest, .int h0_agreed, .int h0_jurors, .int h0_panelled, .ref h0_inSets, .int h0_surely, .int h0_asked, .ref h0_frees, .int h0_struck, .int h0_beating, .ref h0_text, .int h0_texts, .int h0_seed, .ref h0_line, .ref h0_written, .int h0_lineMany, .int h0_hasWritten, .ref h0_node, .int h0_nodes, .int h0_onesMany, .int h0_within, .int h0_top])), (aI ca h0_tape 940 F_h0_tape)] H := hP
          have hD : va_D A [(h0, .inr (11, [.int h0_thrown, .ref h0_tape, .int h0_taped, .int h0_size, .int h0_limit, .int y96_0, .int y96_1, .int h0_kind, .int 0, .int h0_sign, .int h0_fault, .int h0_place, .long 0, .int h0_told, .ref h0_now, .ref h0_read, .ref h0_kept, .ref h0_snaps, .ref h0_aside, .ref h0_name, .ref h0_readName, .ref h0_keptName, .ref h0_isKept, .ref h0_onces, .int h0_snapMany, .int h0_lowest, .int h0_highest, .int h0_agreed, .int h0_jurors, .int h0_panelled, .ref h0_inSets, .int h0_surely, .int h0_asked, .ref h0_frees, .int h0_struck, .int h0_beating, .ref h0_text, .int h0_texts, .int h0_seed, .ref h0_line, .ref h0_written, .int h0_lineMany, .int h0_hasWritten, .ref h0_node, .int h0_nodes, .int h0_onesMany, .int h0_within, .int h0_top])), (aI ca h0_tape 940 F_h0_tape)] := hD
          try dsimp only at w_3853
          rcases w_3853 with ⟨h_3854, h_3855, h_3856, h_3857⟩ | ⟨h_3858, h_3859, h_3860, h_3861, h_3862, h_3863, h_3864⟩
          · skip
            subst h_3854
            exact False.elim (by have z0 := rle h_3855; have q0 := rle o_3606; omega)
          · skip
            have h_3865 := (h_3858.trans ex_3609.symm).symm
            subst h_3865
            have hY := hY.trans (lt1_e h_3864)
            have hY := hY.trans (if_neg h_3863)
            refine oC_i (Wc := []) (Wr := [(h0, .inr (11, [.int h0_thrown, .ref h0_tape, .int h0_taped, .int h0_size, .int h0_limit, .int y96_0, .int y96_1, .int h0_kind, .int 0, .int h0_sign, .int h0_fault, .int h0_place, .long 0, .int h0_told, .ref h0_now, .ref h0_read, .ref h0_kept, .ref h0_snaps, .ref h0_aside, .ref h0_name, .ref h0_readName, .ref h0_keptName, .ref h0_isKept, .ref h0_onces, .int h0_snapMany, .int h0_lowest, .int h0_highest, .int h0_agreed, .int h0_jurors, .int h0_panelled, .ref h0_inSets, .int h0_surely, .int h0_asked, .ref h0_frees, .int h0_struck, .int h0_beating, .ref h0_text, .int h0_texts, .int h0_seed, .ref h0_line, .ref h0_written, .int h0_lineMany, .int h0_hasWritten, .ref h0_node, .int h0_nodes, .int h0_onesMany, .int h0_within, .int h0_top])), (aI ca h0_tape 940 F_h0_tape)]) (va_runS (As := [.int x_3609]) (rest := []) ⟨hx, hb, hml, hown, hts⟩ (e_X12_isLetter l D ca H.size x_3609) (va_cwS 1 hts gX12_go_X12_isLetter rfl rfl rfl (by decide +kernel) ⟨Nat.le_of_ble_eq_true rfl, Nat.le_of_ble_eq_true rfl⟩) (oPS hK hP hD [] rfl (by decide)) rfl rfl hl.1 rfl (lv_room (Nat.le_of_ble_eq_true rfl)) dX12_go_223 ⟨Nat.le_of_ble_eq_true rfl, Nat.le_of_ble_eq_true rfl⟩) hP hD hS hA [] [0, 1] rfl rfl (by decide) (by decide) (fun r_3866 u H locs w_3867 hP hD hS => ?_)
            obtain ⟨⟩ := u
            have hP : va_P D vwCl [(h0, .inr (11, [.int h0_thrown, .ref h0_tape, .int h0_taped, .int h0_size, .int h0_limit, .int y96_0, .int y96_1, .int h0_kind, .int 0, .int h0_sign, .int h0_fault, .int h0_place, .long 0, .int h0_told, .ref h0_now, .ref h0_read, .ref h0_kept, .ref h0_snaps, .ref h0_aside, .ref h0_name, .ref h0_readName, .ref h0_keptName, .ref h0_isKept, .ref h0_onces, .int h0_snapMany, .int h0_lowest, .int h0_highest, .int h0_agreed, .int h0_jurors, .int h0_panelled, .ref h0_inSets, .int h0_surely, .int h0_asked, .ref h0_frees, .int h0_struck, .int h0_beating, .ref h0_text, .int h0_texts, .int h0_seed, .ref h0_line, .ref h0_written, .int h0_lineMany, .int h0_hasWritten, .ref h0_node, .int h0_nodes, .int h0_onesMany, .int h0_within, .int h0_top])), (aI ca h0_tape 940 F_h0_tape)] H := hP
            have hD : va_D A [(h0, .inr (11, [.int h0_thrown, .ref h0_tape, .int h0_taped, .int h0_size, .int h0_limit, .int y96_0, .int y96_1, .int h0_kind, .int 0, .int h0_sign, .int h0_fault, .int h0_place, .long 0, .int h0_told, .ref h0_now, .ref h0_read, .ref h0_kept, .ref h0_snaps, .ref h0_aside, .ref h0_name, .ref h0_readName, .ref h0_keptName, .ref h0_isKept, .ref h0_onces, .int h0_snapMany, .int h0_lowest, .int h0_highest, .int h0_agreed, .int h0_jurors, .int h0_panelled, .ref h0_inSets, .int h0_surely, .int h0_asked, .ref h0_frees, .int h0_struck, .int h0_beating, .ref h0_text, .int h0_texts, .int h0_seed, .ref h0_line, .ref h0_written, .int h0_lineMany, .int h0_hasWritten, .ref h0_node, .int h0_nodes, .int h0_onesMany, .int h0_within, .int h0_top])), (aI ca h0_tape 940 F_h0_tape)] := hD
            try dsimp only at w_3867
            rcases w_3867 with ⟨h_3868, h_3869, h_3870, h_3871⟩ | ⟨h_3872, h_3873, h_3874, h_3875, h_3876⟩ | ⟨h_3877, h_3878, h_3879, h_3880, h_3881⟩
            · skip
              subst h_3868
              exact (rg_no h_3869 h_3623 (by decide)).elim
            · skip
              subst h_3872
              exact (rg_no h_3873 h_3623 (by decide)).elim
            · skip
              subst h_3877
              have hY := hY.trans (lt1_e h_3881)
              have hY := hY.trans (if_neg h_3879)
              have hY := hY.trans (if_neg h_3880)
              refine lv_if_ne (tgt := 243) hx hb dX12_go_226 (by decide) (fun _ => ?_) (fun c => absurd c (by decide))
              refine lv_aload_n hx hb dX12_go_243 rfl (lv_at hl 3 rfl) ?_
              refine va_get (D := D) (ci := 11) (v := .ref h0_tape) (C := RX12) (T := TX12) (N := 48) hx hb hts k2 hown hK.1 hP 0 rfl rfl 1 (by decide) k5 (fun _ h9 => h9) rfl dX12_go_244 ?_
              refine lv_aload_n hx hb dX12_go_247 rfl (lv_at hl 3 rfl) ?_
              refine va_get (D := D) (ci := 11) (v := .int y96_0) (C := RX12) (T := TX12) (N := 48) hx hb hts k2 hown hK.1 hP 0 rfl rfl 5 (by decide) k3 (fun _ h9 => h9) rfl dX12_go_248 ?_
              refine va_iald hx hb hK.1 hP 1 0 rfl rfl (rg_in h_3607 (by decide) (by decide)) dX12_go_251 ?_
              refine oti x_3609 ex_3609.symm ?_
              refine lv_istore (lv' := [(4, .int x_3609), (3, .int 1), (2, .int 1), (1, .int x_3609), (0, .ref h0)]) hx hb dX12_go_252 hl (by decide) rfl (fun ls hl => ?_)
              refine lv_iload_n hx hb dX12_go_254 rfl (lv_at hl 1 rfl) ?_
              refine lv_if_eq (tgt := 271) hx hb dX12_go_255 (by decide) (fun c => absurd c (by decide)) (fun _ => ?_)
              refine lv_iload hx hb dX12_go_258 (lv_at hl 0 rfl) ?_
              refine oC_i (Wc := []) (Wr := [(h0, .inr (11, [.int h0_thrown, .ref h0_tape, .int h0_taped, .int h0_size, .int h0_limit, .int y96_0, .int y96_1, .int h0_kind, .int 0, .int h0_sign, .int h0_fault, .int h0_place, .long 0, .int h0_told, .ref h0_now, .ref h0_read, .ref h0_kept, .ref h0_snaps, .ref h0_aside, .ref h0_name, .ref h0_readName, .ref h0_keptName, .ref h0_isKept, .ref h0_onces, .int h0_snapMany, .int h0_lowest, .int h0_highest, .int h0_agreed, .int h0_jurors, .int h0_panelled, .ref h0_inSets, .int h0_surely, .int h0_asked, .ref h0_frees, .int h0_struck, .int h0_beating, .ref h0_text, .int h0_texts, .int h0_seed, .ref h0_line, .ref h0_written, .int h0_lineMany, .int h0_hasWritten, .ref h0_node, .int h0_nodes, .int h0_onesMany, .int h0_within, .int h0_top])), (aI ca h0_tape 940 F_h0_tape)]) (va_runS (As := [.int x_3609]) (rest := []) ⟨hx, hb, hml, hown, hts⟩ (e_X12_isLetter l D ca H.size x_3609) (va_cwS 1 hts gX12_go_X12_isLetter rfl rfl rfl (by decide +kernel) ⟨Nat.le_of_ble_eq_true rfl, Nat.le_of_ble_eq_true rfl⟩) (oPS hK hP hD [] rfl (by decide)) rfl rfl hl.1 rfl (lv_room (Nat.le_of_ble_eq_true rfl)) dX12_go_260 ⟨Nat.le_of_ble_eq_true rfl, Nat.le_of_ble_eq_true rfl⟩) hP hD hS hA [] [0, 1] rfl rfl (by decide) (by decide) (fun r_3882 u H locs w_3883 hP hD hS => ?_)
              obtain ⟨⟩ := u
              have hP : va_P D vwCl [(h0, .inr (11, [.int h0_thrown, .ref h0_tape, .int h0_taped, .int h0_size, .int h0_limit, .int y96_0, .int y96_1, .int h0_kind, .int 0, .int h0_sign, .int h0_fault, .int h0_place, .long 0, .int h0_told, .ref h0_now, .ref h0_read, .ref h0_kept, .ref h0_snaps, .ref h0_aside, .ref h0_name, .ref h0_readName, .ref h0_keptName, .ref h0_isKept, .ref h0_onces, .int h0_snapMany, .int h0_lowest, .int h0_highest, .int h0_agreed, .int h0_jurors, .int h0_panelled, .ref h0_inSets, .int h0_surely, .int h0_asked, .ref h0_frees, .int h0_struck, .int h0_beating, .ref h0_text, .int h0_texts, .int h0_seed, .ref h0_line, .ref h0_written, .int h0_lineMany, .int h0_hasWritten, .ref h0_node, .int h0_nodes, .int h0_onesMany, .int h0_within, .int h0_top])), (aI ca h0_tape 940 F_h0_tape)] H := hP
              have hD : va_D A [(h0, .inr (11, [.int h0_thrown, .ref h0_tape, .int h0_taped, .int h0_size, .int h0_limit, .int y96_0, .int y96_1, .int h0_kind, .int 0, .int h0_sign, .int h0_fault, .int h0_place, .long 0, .int h0_told, .ref h0_now, .ref h0_read, .ref h0_kept, .ref h0_snaps, .ref h0_aside, .ref h0_name, .ref h0_readName, .ref h0_keptName, .ref h0_isKept, .ref h0_onces, .int h0_snapMany, .int h0_lowest, .int h0_highest, .int h0_agreed, .int h0_jurors, .int h0_panelled, .ref h0_inSets, .int h0_surely, .int h0_asked, .ref h0_frees, .int h0_struck, .int h0_beating, .ref h0_text, .int h0_texts, .int h0_seed, .ref h0_line, .ref h0_written, .int h0_lineMany, .int h0_hasWritten, .ref h0_node, .int h0_nodes, .int h0_onesMany, .int h0_within, .int h0_top])), (aI ca h0_tape 940 F_h0_tape)] := hD
              try dsimp only at w_3883
              rcases w_3883 with ⟨h_3884, h_3885, h_3886, h_3887⟩ | ⟨h_3888, h_3889, h_3890, h_3891, h_3892⟩ | ⟨h_3893, h_3894, h_3895, h_3896, h_3897⟩
              · skip
                subst h_3884
                exact (rg_no h_3885 h_3623 (by decide)).elim
              · skip
                subst h_3888
                exact (rg_no h_3889 h_3623 (by decide)).elim
              · skip
                subst h_3893
                have hY := hY.trans (lt1_e h_3897)
                have hY := hY.trans (if_neg h_3895)
                have hY := hY.trans (if_neg h_3896)
                refine lv_iload_n hx hb dX12_go_263 rfl (lv_at hl 2 rfl) ?_
                refine lv_icmp_ne (tgt := 271) hx hb dX12_go_264 (by decide) (fun c => absurd (by decide) c) (fun _ => ?_)
                refine lv_iconst (v := 1) hx hb dX12_go_267 (by decide) ?_
                refine lv_goto (tgt := 272) hx hb dX12_go_268 (by decide) ?_
                refine lv_istore_n (lv' := [(3, .int 1), (4, .int x_3609), (2, .int 1), (1, .int x_3609), (0, .ref h0)]) hx hb dX12_go_272 rfl hl (by decide) rfl (fun ls hl => ?_)
                refine lv_aload_n hx hb dX12_go_273 rfl (lv_at hl 4 rfl) ?_
                refine va_get (D := D) (ci := 11) (v := .int y96_0) (C := RX12) (T := TX12) (N := 48) hx hb hts k2 hown hK.1 hP 0 rfl rfl 5 (by decide) k3 (fun _ h9 => h9) rfl dX12_go_274 ?_
                refine lv_aload_n hx hb dX12_go_277 rfl (lv_at hl 4 rfl) ?_
                refine va_get (D := D) (ci := 11) (v := .int y96_1) (C := RX12) (T := TX12) (N := 48) hx hb hts k2 hown hK.1 hP 0 rfl rfl 6 (by decide) k4 (fun _ h9 => h9) rfl dX12_go_278 ?_
                refine lv_isub hx hb dX12_go_281 ?_
                refine lv_topi (fun x_3898 ex_3898 => ?_)
                have hY := hY.trans (lt1_e ex_3898)
                have h_3899 : rg (-940) 939 x_3898 := by rw [ex_3898]; exact rg_sub h_3607 hy96_1 (by decide) (by decide) (by decide) (by decide)
                have l_3900 : lq x_3898.toInt (y96_0.toInt + (-1) * y96_1.toInt) := lqm (by rw [ex_3898]; have q := tsub h_3607 hy96_1 (by decide) (by decide); omega)
                refine lv_bipush (v := 7) hx hb dX12_go_282 (by decide) ?_
                refine lv_icmp_ge (tgt := 307) hx hb dX12_go_284 (by decide) (fun c_3901 => ?_) (fun c_3901 => ?_)
                · skip
                  have hY := hY.trans (if_pos c_3901)
                  have o_3902 : rl 0 7 x_3898 := rl_le c_3901
                  have h_3903 : rg 7 939 x_3898 := rl_y o_3902 (⟨by decide, by decide⟩ : rg 7 7 (7 : Int32)) h_3899 (by decide) (by decide)
                  refine lv_aload_n hx hb dX12_go_307 rfl (lv_at hl 4 rfl) ?_
                  refine va_get (D := D) (ci := 11) (v := .int y96_0) (C := RX12) (T := TX12) (N := 48) hx hb hts k2 hown hK.1 hP 0 rfl rfl 5 (by decide) k3 (fun _ h9 => h9) rfl dX12_go_308 ?_
                  refine lv_aload_n hx hb dX12_go_311 rfl (lv_at hl 4 rfl) ?_
                  refine va_get (D := D) (ci := 11) (v := .int y96_1) (C := RX12) (T := TX12) (N := 48) hx hb hts k2 hown hK.1 hP 0 rfl rfl 6 (by decide) k4 (fun _ h9 => h9) rfl dX12_go_312 ?_
                  refine lv_isub hx hb dX12_go_315 ?_
                  refine lv_topi (fun x_3904 ex_3904 => ?_)
                  have hY := hY.trans (lt1_e ex_3904)
                  have h_3905 : rg (-940) 939 x_3904 := by rw [ex_3904]; exact rg_sub h_3607 hy96_1 (by decide) (by decide) (by decide) (by decide)
                  have l_3906 : lq x_3904.toInt (y96_0.toInt + (-1) * y96_1.toInt) := lqm (by rw [ex_3904]; have q := tsub h_3607 hy96_1 (by decide) (by decide); omega)
                  refine lv_iconst (v := 3) hx hb dX12_go_316 (by decide) ?_
                  refine lv_icmp_ge (tgt := 337) hx hb dX12_go_317 (by decide) (fun c_3907 => ?_) (fun c_3907 => ?_)
                  · skip
                    have hY := hY.trans (if_pos c_3907)
                    have o_3908 : rl 0 3 x_3904 := rl_le c_3907
                    have h_3909 : rg 3 939 x_3904 := rl_y o_3908 (⟨by decide, by decide⟩ : rg 3 3 (3 : Int32)) h_3905 (by decide) (by decide)
                    refine lv_aload_n hx hb dX12_go_337 rfl (lv_at hl 4 rfl) ?_
                    refine lv_dup hx hb dX12_go_338 rfl ?_
                    refine va_get (D := D) (ci := 11) (v := .int y96_0) (C := RX12) (T := TX12) (N := 48) hx hb hts k2 hown hK.1 hP 0 rfl rfl 5 (by decide) k3 (fun _ h9 => h9) rfl dX12_go_339 ?_
                    refine lv_iconst (v := 1) hx hb dX12_go_342 (by decide) ?_
                    refine lv_iadd hx hb dX12_go_343 ?_
                    refine lv_topi (fun x_3910 ex_3910 => ?_)
                    have hY := hY.trans (lt1_e ex_3910)
                    have h_3911 : rg 1 940 x_3910 := by rw [ex_3910]; exact rg_add h_3607 (⟨by decide, by decide⟩ : rg 1 1 (1 : Int32)) (by decide) (by decide) (by decide) (by decide)
                    have l_3912 : lq x_3910.toInt (y96_0.toInt + 1) := lqm (by rw [ex_3910]; have q := tadd h_3607 (⟨by decide, by decide⟩ : rg 1 1 (1 : Int32)) (by decide) (by decide); have r1 := lqe (lqm (by decide) : lq (1 : Int32).toInt 1); omega)
                    refine va_put (D := D) (ci := 11) (v := .int x_3910) (ty := .int) (C := RX12) (T := TX12) (N := 48) hx hb hts k2 tyX12 tyX12_ok nmX12 hown hK.1 hP hD hS 0 rfl rfl 5 (by decide) k3 (fun _ h9 => h9) rfl (by decide +kernel) rfl rfl (Nat.le_of_ble_eq_true rfl) dX12_go_344 (fun H locs hP hD hS => ?_)
                    have hP : va_P D vwCl [(h0, .inr (11, [.int h0_thrown, .ref h0_tape, .int h0_taped, .int h0_size, .int h0_limit, .int x_3910, .int y96_1, .int h0_kind, .int 0, .int h0_sign, .int h0_fault, .int h0_place, .long 0, .int h0_told, .ref h0_now, .ref h0_read, .ref h0_kept, .ref h0_snaps, .ref h0_aside, .ref h0_name, .ref h0_readName, .ref h0_keptName, .ref h0_isKept, .ref h0_onces, .int h0_snapMany, .int h0_lowest, .int h0_highest, .int h0_agreed, .int h0_jurors, .int h0_panelled, .ref h0_inSets, .int h0_surely, .int h0_asked, .ref h0_frees, .int h0_struck, .int h0_beating, .ref h0_text, .int h0_texts, .int h0_seed, .ref h0_line, .ref h0_written, .int h0_lineMany, .int h0_hasWritten, .ref h0_node, .int h0_nodes, .int h0_onesMany, .int h0_within, .int h0_top])), (aI ca h0_tape 940 F_h0_tape)] H := hP
                    have hD : va_D A [(h0, .inr (11, [.int h0_thrown, .ref h0_tape, .int h0_taped, .int h0_size, .int h0_limit, .int x_3910, .int y96_1, .int h0_kind, .int 0, .int h0_sign, .int h0_fault, .int h0_place, .long 0, .int h0_told, .ref h0_now, .ref h0_read, .ref h0_kept, .ref h0_snaps, .ref h0_aside, .ref h0_name, .ref h0_readName, .ref h0_keptName, .ref h0_isKept, .ref h0_onces, .int h0_snapMany, .int h0_lowest, .int h0_highest, .int h0_agreed, .int h0_jurors, .int h0_panelled, .ref h0_inSets, .int h0_surely, .int h0_asked, .ref h0_frees, .int h0_struck, .int h0_beating, .ref h0_text, .int h0_texts, .int h0_seed, .ref h0_line, .ref h0_written, .int h0_lineMany, .int h0_hasWritten, .ref h0_node, .int h0_nodes, .int h0_onesMany, .int h0_within, .int h0_top])), (aI ca h0_tape 940 F_h0_tape)] := hD
                    refine lv_goto (tgt := 215) hx hb dX12_go_347 (by decide) ?_
                    exact J215_2556 940 1 1 x_3910 y96_1 0 0 trivial (⟨by decide, by decide⟩ : rg 0 1 (1 : Int32)) (⟨by decide, by decide⟩ : rg 0 1 (1 : Int32)) h_3911 (rlm (by have q0 := lqe l_3912; have q1 := rle py96_0_h0_to; omega)) hy96_1 (rlm (by have q0 := rle py96_1_h0_to; omega)) t96_h0_limit h_3608 (by have q0 := h_3911.1; omega) hY H locs ls (oPsub hP [0, 1] rfl) (hD.sub [0, 1] (by decide) rfl) hS (lv_sub hl [4, 2, 0] rfl)
                  · skip
                    have hY := hY.trans (if_neg c_3907)
                    have o_3913 : rl 1 x_3904 3 := rl_nle c_3907
                    have h_3914 : rg (-940) 2 x_3904 := rl_x o_3913 h_3905 (⟨by decide, by decide⟩ : rg 3 3 (3 : Int32)) (by decide) (by decide)
                    refine lv_aload_n hx hb dX12_go_320 rfl (lv_at hl 4 rfl) ?_
                    refine lv_bipush (v := 10) hx hb dX12_go_321 (by decide) ?_
                    refine lv_aload_n hx hb dX12_go_323 rfl (lv_at hl 4 rfl) ?_
                    refine va_get (D := D) (ci := 11) (v := .int 0) (C := RX12) (T := TX12) (N := 48) hx hb hts k2 hown hK.1 hP 0 rfl rfl 8 (by decide) k6 (fun _ h9 => h9) rfl dX12_go_324 ?_
                    refine lv_imul hx hb dX12_go_327 ?_
                    refine oti 0 (by decide) ?_
                    refine lv_iload hx hb dX12_go_328 (lv_at hl 1 rfl) ?_
                    refine lv_iadd hx hb dX12_go_330 ?_
                    refine lv_topi (fun x_3915 ex_3915 => ?_)
                    have hY := hY.trans (lt1_e ex_3915)
                    have h_3916 : rg 97 122 x_3915 := by rw [ex_3915]; exact rg_add (⟨by decide, by decide⟩ : rg 0 0 (0 : Int32)) h_3623 (by decide) (by decide) (by decide) (by decide)
                    have l_3917 : lq x_3915.toInt (x_3609.toInt) := lqm (by rw [ex_3915]; have q := tadd (⟨by decide, by decide⟩ : rg 0 0 (0 : Int32)) h_3623 (by decide) (by decide); have r0 := lqe (lqm (by decide) : lq (0 : Int32).toInt 0); omega)
                    refine lv_bipush (v := 48) hx hb dX12_go_331 (by decide) ?_
                    refine lv_isub hx hb dX12_go_333 ?_
                    refine lv_topi (fun x_3918 ex_3918 => ?_)
                    have hY := hY.trans (lt1_e ex_3918)
                    have h_3919 : rg 49 74 x_3918 := by rw [ex_3918]; exact rg_sub h_3916 (⟨by decide, by decide⟩ : rg 48 48 (48 : Int32)) (by decide) (by decide) (by decide) (by decide)
                    have l_3920 : lq x_3918.toInt (x_3609.toInt + (-48)) := lqm (by rw [ex_3918]; have q := tsub h_3916 (⟨by decide, by decide⟩ : rg 48 48 (48 : Int32)) (by decide) (by decide); have r0 := lqe l_3917; have r1 := lqe (lqm (by decide) : lq (48 : Int32).toInt 48); omega)
                    refine va_put (D := D) (ci := 11) (v := .int x_3918) (ty := .int) (C := RX12) (T := TX12) (N := 48) hx hb hts k2 tyX12 tyX12_ok nmX12 hown hK.1 hP hD hS 0 rfl rfl 8 (by decide) k6 (fun _ h9 => h9) rfl (by decide +kernel) rfl rfl (Nat.le_of_ble_eq_true rfl) dX12_go_334 (fun H locs hP hD hS => ?_)
                    have hP : va_P D vwCl [(h0, .inr (11, [.int h0_thrown, .ref h0_tape, .int h0_taped, .int h0_size, .int h0_limit, .int y96_0, .int y96_1, .int h0_kind, .int x_3918, .int h0_sign, .int h0_fault, .int h0_place, .long 0, .int h0_told, .ref h0_now, .ref h0_read, .ref h0_kept, .ref h0_snaps, .ref h0_aside, .ref h0_name, .ref h0_readName, .ref h0_keptName, .ref h0_isKept, .ref h0_onces, .int h0_snapMany, .int h0_lowest, .int h0_highest, .int h0_agreed, .int h0_jurors, .int h0_panelled, .ref h0_inSets, .int h0_surely, .int h0_asked, .ref h0_frees, .int h0_struck, .int h0_beating, .ref h0_text, .int h0_texts, .int h0_seed, .ref h0_line, .ref h0_written, .int h0_lineMany, .int h0_hasWritten, .ref h0_node, .int h0_nodes, .int h0_onesMany, .int h0_within, .int h0_top])), (aI ca h0_tape 940 F_h0_tape)] H := hP
                    have hD : va_D A [(h0, .inr (11, [.int h0_thrown, .ref h0_tape, .int h0_taped, .int h0_size, .int h0_limit, .int y96_0, .int y96_1, .int h0_kind, .int x_3918, .int h0_sign, .int h0_fault, .int h0_place, .long 0, .int h0_told, .ref h0_now, .ref h0_read, .ref h0_kept, .ref h0_snaps, .ref h0_aside, .ref h0_name, .ref h0_readName, .ref h0_keptName, .ref h0_isKept, .ref h0_onces, .int h0_snapMany, .int h0_lowest, .int h0_highest, .int h0_agreed, .int h0_jurors, .int h0_panelled, .ref h0_inSets, .int h0_surely, .int h0_asked, .ref h0_frees, .int h0_struck, .int h0_beating, .ref h0_text, .int h0_texts, .int h0_seed, .ref h0_line, .ref h0_written, .int h0_lineMany, .int h0_hasWritten, .ref h0_node, .int h0_nodes, .int h0_onesMany, .int h0_within, .int h0_top])), (aI ca h0_tape 940 F_h0_tape)] := hD
                    refine lv_aload_n hx hb dX12_go_337 rfl (lv_at hl 4 rfl) ?_
                    refine lv_dup hx hb dX12_go_338 rfl ?_
                    refine va_get (D := D) (ci := 11) (v := .int y96_0) (C := RX12) (T := TX12) (N := 48) hx hb hts k2 hown hK.1 hP 0 rfl rfl 5 (by decide) k3 (fun _ h9 => h9) rfl dX12_go_339 ?_
                    refine lv_iconst (v := 1) hx hb dX12_go_342 (by decide) ?_
                    refine lv_iadd hx hb dX12_go_343 ?_
                    refine lv_topi (fun x_3921 ex_3921 => ?_)
                    have hY := hY.trans (lt1_e ex_3921)
                    have h_3922 : rg 1 940 x_3921 := by rw [ex_3921]; exact rg_add h_3607 (⟨by decide, by decide⟩ : rg 1 1 (1 : Int32)) (by decide) (by decide) (by decide) (by decide)
                    have l_3923 : lq x_3921.toInt (y96_0.toInt + 1) := lqm (by rw [ex_3921]; have q := tadd h_3607 (⟨by decide, by decide⟩ : rg 1 1 (1 : Int32)) (by decide) (by decide); have r1 := lqe (lqm (by decide) : lq (1 : Int32).toInt 1); omega)
                    refine va_put (D := D) (ci := 11) (v := .int x_3921) (ty := .int) (C := RX12) (T := TX12) (N := 48) hx hb hts k2 tyX12 tyX12_ok nmX12 hown hK.1 hP hD hS 0 rfl rfl 5 (by decide) k3 (fun _ h9 => h9) rfl (by decide +kernel) rfl rfl (Nat.le_of_ble_eq_true rfl) dX12_go_344 (fun H locs hP hD hS => ?_)
                    have hP : va_P D vwCl [(h0, .inr (11, [.int h0_thrown, .ref h0_tape, .int h0_taped, .int h0_size, .int h0_limit, .int x_3921, .int y96_1, .int h0_kind, .int x_3918, .int h0_sign, .int h0_fault, .int h0_place, .long 0, .int h0_told, .ref h0_now, .ref h0_read, .ref h0_kept, .ref h0_snaps, .ref h0_aside, .ref h0_name, .ref h0_readName, .ref h0_keptName, .ref h0_isKept, .ref h0_onces, .int h0_snapMany, .int h0_lowest, .int h0_highest, .int h0_agreed, .int h0_jurors, .int h0_panelled, .ref h0_inSets, .int h0_surely, .int h0_asked, .ref h0_frees, .int h0_struck, .int h0_beating, .ref h0_text, .int h0_texts, .int h0_seed, .ref h0_line, .ref h0_written, .int h0_lineMany, .int h0_hasWritten, .ref h0_node, .int h0_nodes, .int h0_onesMany, .int h0_within, .int h0_top])), (aI ca h0_tape 940 F_h0_tape)] H := hP
                    have hD : va_D A [(h0, .inr (11, [.int h0_thrown, .ref h0_tape, .int h0_taped, .int h0_size, .int h0_limit, .int x_3921, .int y96_1, .int h0_kind, .int x_3918, .int h0_sign, .int h0_fault, .int h0_place, .long 0, .int h0_told, .ref h0_now, .ref h0_read, .ref h0_kept, .ref h0_snaps, .ref h0_aside, .ref h0_name, .ref h0_readName, .ref h0_keptName, .ref h0_isKept, .ref h0_onces, .int h0_snapMany, .int h0_lowest, .int h0_highest, .int h0_agreed, .int h0_jurors, .int h0_panelled, .ref h0_inSets, .int h0_surely, .int h0_asked, .ref h0_frees, .int h0_struck, .int h0_beating, .ref h0_text, .int h0_texts, .int h0_seed, .ref h0_line, .ref h0_written, .int h0_lineMany, .int h0_hasWritten, .ref h0_node, .int h0_nodes, .int h0_onesMany, .int h0_within, .int h0_top])), (aI ca h0_tape 940 F_h0_tape)] := hD
                    refine lv_goto (tgt := 215) hx hb dX12_go_347 (by decide) ?_
                    exact J215_2556 940 1 1 x_3921 y96_1 x_3918 0 trivial (⟨by decide, by decide⟩ : rg 0 1 (1 : Int32)) (⟨by decide, by decide⟩ : rg 0 1 (1 : Int32)) h_3922 (rlm (by have q0 := lqe l_3923; have q1 := rle py96_0_h0_to; omega)) hy96_1 (rlm (by have q0 := rle py96_1_h0_to; omega)) t96_h0_limit h_3608 (by have q0 := h_3922.1; omega) hY H locs ls (oPsub hP [0, 1] rfl) (hD.sub [0, 1] (by decide) rfl) hS (lv_sub hl [4, 2, 0] rfl)
                · skip
                  have hY := hY.trans (if_neg c_3901)
                  have o_3924 : rl 1 x_3898 7 := rl_nle c_3901
                  have h_3925 : rg (-940) 6 x_3898 := rl_x o_3924 h_3899 (⟨by decide, by decide⟩ : rg 7 7 (7 : Int32)) (by decide) (by decide)
                  refine lv_aload_n hx hb dX12_go_287 rfl (lv_at hl 4 rfl) ?_
                  refine lv_ldc2 (v := 27) hx hb hown k7 dX12_go_288 ?_
                  refine lv_aload_n hx hb dX12_go_291 rfl (lv_at hl 4 rfl) ?_
                  refine va_get (D := D) (ci := 11) (v := .long 0) (C := RX12) (T := TX12) (N := 48) hx hb hts k2 hown hK.1 hP 0 rfl rfl 12 (by decide) k8 (fun _ h9 => h9) rfl dX12_go_292 ?_
                  refine lv_lmul hx hb dX12_go_295 ?_
                  refine otl 0 (by decide +kernel) ?_
                  refine lv_iload hx hb dX12_go_296 (lv_at hl 1 rfl) ?_
                  refine lv_i2l hx hb dX12_go_298 rfl ?_
                  refine lv_topl (fun x_3926 ex_3926 => ?_)
                  have hY := hY.trans (lt1_e ex_3926)
                  refine lv_ladd hx hb dX12_go_299 ?_
                  refine lv_topl (fun x_3927 ex_3927 => ?_)
                  have hY := hY.trans (lt1_e ex_3927)
                  refine lv_ldc2 (v := 96) hx hb hown k9 dX12_go_300 ?_
                  refine lv_lsub hx hb dX12_go_303 ?_
                  refine lv_topl (fun x_3928 ex_3928 => ?_)
                  have hY := hY.trans (lt1_e ex_3928)
                  refine va_put (D := D) (ci := 11) (v := .long x_3928) (ty := .long) (C := RX12) (T := TX12) (N := 48) hx hb hts k2 tyX12 tyX12_ok nmX12 hown hK.1 hP hD hS 0 rfl rfl 12 (by decide) k8 (fun _ h9 => h9) rfl (by decide +kernel) rfl rfl (Nat.le_of_ble_eq_true rfl) dX12_go_304 (fun H locs hP hD hS => ?_)
                  have hP : va_P D vwCl [(h0, .inr (11, [.int h0_thrown, .ref h0_tape, .int h0_taped, .int h0_size, .int h0_limit, .int y96_0, .int y96_1, .int h0_kind, .int 0, .int h0_sign, .int h0_fault, .int h0_place, .long x_3928, .int h0_told, .ref h0_now, .ref h0_read, .ref h0_kept, .ref h0_snaps, .ref h0_aside, .ref h0_name, .ref h0_readName, .ref h0_keptName, .ref h0_isKept, .ref h0_onces, .int h0_snapMany, .int h0_lowest, .int h0_highest, .int h0_agreed, .int h0_jurors, .int h0_panelled, .ref h0_inSets, .int h0_surely, .int h0_asked, .ref h0_frees, .int h0_struck, .int h0_beating, .ref h0_text, .int h0_texts, .int h0_seed, .ref h0_line, .ref h0_written, .int h0_lineMany, .int h0_hasWritten, .ref h0_node, .int h0_nodes, .int h0_onesMany, .int h0_within, .int h0_top])), (aI ca h0_tape 940 F_h0_tape)] H := hP
                  have hD : va_D A [(h0, .inr (11, [.int h0_thrown, .ref h0_tape, .int h0_taped, .int h0_size, .int h0_limit, .int y96_0, .int y96_1, .int h0_kind, .int 0, .int h0_sign, .int h0_fault, .int h0_place, .long x_3928, .int h0_told, .ref h0_now, .ref h0_read, .ref h0_kept, .ref h0_snaps, .ref h0_aside, .ref h0_name, .ref h0_readName, .ref h0_keptName, .ref h0_isKept, .ref h0_onces, .int h0_snapMany, .int h0_lowest, .int h0_highest, .int h0_agreed, .int h0_jurors, .int h0_panelled, .ref h0_inSets, .int h0_surely, .int h0_asked, .ref h0_frees, .int h0_struck, .int h0_beating, .ref h0_text, .int h0_texts, .int h0_seed, .ref h0_line, .ref h0_written, .int h0_lineMany, .int h0_hasWritten, .ref h0_node, .int h0_nodes, .int h0_onesMany, .int h0_within, .int h0_top])), (aI ca h0_tape 940 F_h0_tape)] := hD
                  refine lv_aload_n hx hb dX12_go_307 rfl (lv_at hl 4 rfl) ?_
                  refine va_get (D := D) (ci := 11) (v := .int y96_0) (C := RX12) (T := TX12) (N := 48) hx hb hts k2 hown hK.1 hP 0 rfl rfl 5 (by decide) k3 (fun _ h9 => h9) rfl dX12_go_308 ?_
                  refine lv_aload_n hx hb dX12_go_311 rfl (lv_at hl 4 rfl) ?_
                  refine va_get (D := D) (ci := 11) (v := .int y96_1) (C := RX12) (T := TX12) (N := 48) hx hb hts k2 hown hK.1 hP 0 rfl rfl 6 (by decide) k4 (fun _ h9 => h9) rfl dX12_go_312 ?_
                  refine lv_isub hx hb dX12_go_315 ?_
                  refine lv_topi (fun x_3929 ex_3929 => ?_)
                  have hY := hY.trans (lt1_e ex_3929)
                  have h_3930 : rg (-940) 939 x_3929 := by rw [ex_3929]; exact rg_sub h_3607 hy96_1 (by decide) (by decide) (by decide) (by decide)
                  have l_3931 : lq x_3929.toInt (y96_0.toInt + (-1) * y96_1.toInt) := lqm (by rw [ex_3929]; have q := tsub h_3607 hy96_1 (by decide) (by decide); omega)
                  refine lv_iconst (v := 3) hx hb dX12_go_316 (by decide) ?_
                  refine lv_icmp_ge (tgt := 337) hx hb dX12_go_317 (by decide) (fun c_3932 => ?_) (fun c_3932 => ?_)
                  · skip
                    have hY := hY.trans (if_pos c_3932)
                    have o_3933 : rl 0 3 x_3929 := rl_le c_3932
                    have h_3934 : rg 3 939 x_3929 := rl_y o_3933 (⟨by decide, by decide⟩ : rg 3 3 (3 : Int32)) h_3930 (by decide) (by decide)
                    refine lv_aload_n hx hb dX12_go_337 rfl (lv_at hl 4 rfl) ?_
                    refine lv_dup hx hb dX12_go_338 rfl ?_
                    refine va_get (D := D) (ci := 11) (v := .int y96_0) (C := RX12) (T := TX12) (N := 48) hx hb hts k2 hown hK.1 hP 0 rfl rfl 5 (by decide) k3 (fun _ h9 => h9) rfl dX12_go_339 ?_
                    refine lv_iconst (v := 1) hx hb dX12_go_342 (by decide) ?_
                    refine lv_iadd hx hb dX12_go_343 ?_
                    refine lv_topi (fun x_3935 ex_3935 => ?_)
                    have hY := hY.trans (lt1_e ex_3935)
                    have h_3936 : rg 1 940 x_3935 := by rw [ex_3935]; exact rg_add h_3607 (⟨by decide, by decide⟩ : rg 1 1 (1 : Int32)) (by decide) (by decide) (by decide) (by decide)
                    have l_3937 : lq x_3935.toInt (y96_0.toInt + 1) := lqm (by rw [ex_3935]; have q := tadd h_3607 (⟨by decide, by decide⟩ : rg 1 1 (1 : Int32)) (by decide) (by decide); have r1 := lqe (lqm (by decide) : lq (1 : Int32).toInt 1); omega)
                    refine va_put (D := D) (ci := 11) (v := .int x_3935) (ty := .int) (C := RX12) (T := TX12) (N := 48) hx hb hts k2 tyX12 tyX12_ok nmX12 hown hK.1 hP hD hS 0 rfl rfl 5 (by decide) k3 (fun _ h9 => h9) rfl (by decide +kernel) rfl rfl (Nat.le_of_ble_eq_true rfl) dX12_go_344 (fun H locs hP hD hS => ?_)
                    have hP : va_P D vwCl [(h0, .inr (11, [.int h0_thrown, .ref h0_tape, .int h0_taped, .int h0_size, .int h0_limit, .int x_3935, .int y96_1, .int h0_kind, .int 0, .int h0_sign, .int h0_fault, .int h0_place, .long x_3928, .int h0_told, .ref h0_now, .ref h0_read, .ref h0_kept, .ref h0_snaps, .ref h0_aside, .ref h0_name, .ref h0_readName, .ref h0_keptName, .ref h0_isKept, .ref h0_onces, .int h0_snapMany, .int h0_lowest, .int h0_highest, .int h0_agreed, .int h0_jurors, .int h0_panelled, .ref h0_inSets, .int h0_surely, .int h0_asked, .ref h0_frees, .int h0_struck, .int h0_beating, .ref h0_text, .int h0_texts, .int h0_seed, .ref h0_line, .ref h0_written, .int h0_lineMany, .int h0_hasWritten, .ref h0_node, .int h0_nodes, .int h0_onesMany, .int h0_within, .int h0_top])), (aI ca h0_tape 940 F_h0_tape)] H := hP
                    have hD : va_D A [(h0, .inr (11, [.int h0_thrown, .ref h0_tape, .int h0_taped, .int h0_size, .int h0_limit, .int x_3935, .int y96_1, .int h0_kind, .int 0, .int h0_sign, .int h0_fault, .int h0_place, .long x_3928, .int h0_told, .ref h0_now, .ref h0_read, .ref h0_kept, .ref h0_snaps, .ref h0_aside, .ref h0_name, .ref h0_readName, .ref h0_keptName, .ref h0_isKept, .ref h0_onces, .int h0_snapMany, .int h0_lowest, .int h0_highest, .int h0_agreed, .int h0_jurors, .int h0_panelled, .ref h0_inSets, .int h0_surely, .int h0_asked, .ref h0_frees, .int h0_struck, .int h0_beating, .ref h0_text, .int h0_texts, .int h0_seed, .ref h0_line, .ref h0_written, .int h0_lineMany, .int h0_hasWritten, .ref h0_node, .int h0_nodes, .int h0_onesMany, .int h0_within, .int h0_top])), (aI ca h0_tape 940 F_h0_tape)] := hD
                    refine lv_goto (tgt := 215) hx hb dX12_go_347 (by decide) ?_
                    exact J215_2556 940 1 1 x_3935 y96_1 0 x_3928 trivial (⟨by decide, by decide⟩ : rg 0 1 (1 : Int32)) (⟨by decide, by decide⟩ : rg 0 1 (1 : Int32)) h_3936 (rlm (by have q0 := lqe l_3937; have q1 := rle py96_0_h0_to; omega)) hy96_1 (rlm (by have q0 := rle py96_1_h0_to; omega)) t96_h0_limit h_3608 (by have q0 := h_3936.1; omega) hY H locs ls (oPsub hP [0, 1] rfl) (hD.sub [0, 1] (by decide) rfl) hS (lv_sub hl [4, 2, 0] rfl)
                  · skip
                    have hY := hY.trans (if_neg c_3932)
                    have o_3938 : rl 1 x_3929 3 := rl_nle c_3932
                    have h_3939 : rg (-940) 2 x_3929 := rl_x o_3938 h_3930 (⟨by decide, by decide⟩ : rg 3 3 (3 : Int32)) (by decide) (by decide)
                    refine lv_aload_n hx hb dX12_go_320 rfl (lv_at hl 4 rfl) ?_
                    refine lv_bipush (v := 10) hx hb dX12_go_321 (by decide) ?_
                    refine lv_aload_n hx hb dX12_go_323 rfl (lv_at hl 4 rfl) ?_
                    refine va_get (D := D) (ci := 11) (v := .int 0) (C := RX12) (T := TX12) (N := 48) hx hb hts k2 hown hK.1 hP 0 rfl rfl 8 (by decide) k6 (fun _ h9 => h9) rfl dX12_go_324 ?_
                    refine lv_imul hx hb dX12_go_327 ?_
                    refine oti 0 (by decide) ?_
                    refine lv_iload hx hb dX12_go_328 (lv_at hl 1 rfl) ?_
                    refine lv_iadd hx hb dX12_go_330 ?_
                    refine lv_topi (fun x_3940 ex_3940 => ?_)
                    have hY := hY.trans (lt1_e ex_3940)
                    have h_3941 : rg 97 122 x_3940 := by rw [ex_3940]; exact rg_add (⟨by decide, by decide⟩ : rg 0 0 (0 : Int32)) h_3623 (by decide) (by decide) (by decide) (by decide)
                    have l_3942 : lq x_3940.toInt (x_3609.toInt) := lqm (by rw [ex_3940]; have q := tadd (⟨by decide, by decide⟩ : rg 0 0 (0 : Int32)) h_3623 (by decide) (by decide); have r0 := lqe (lqm (by decide) : lq (0 : Int32).toInt 0); omega)
                    refine lv_bipush (v := 48) hx hb dX12_go_331 (by decide) ?_
                    refine lv_isub hx hb dX12_go_333 ?_
                    refine lv_topi (fun x_3943 ex_3943 => ?_)
                    have hY := hY.trans (lt1_e ex_3943)
                    have h_3944 : rg 49 74 x_3943 := by rw [ex_3943]; exact rg_sub h_3941 (⟨by decide, by decide⟩ : rg 48 48 (48 : Int32)) (by decide) (by decide) (by decide) (by decide)
                    have l_3945 : lq x_3943.toInt (x_3609.toInt + (-48)) := lqm (by rw [ex_3943]; have q := tsub h_3941 (⟨by decide, by decide⟩ : rg 48 48 (48 : Int32)) (by decide) (by decide); have r0 := lqe l_3942; have r1 := lqe (lqm (by decide) : lq (48 : Int32).toInt 48); omega)
                    refine va_put (D := D) (ci := 11) (v := .int x_3943) (ty := .int) (C := RX12) (T := TX12) (N := 48) hx hb hts k2 tyX12 tyX12_ok nmX12 hown hK.1 hP hD hS 0 rfl rfl 8 (by decide) k6 (fun _ h9 => h9) rfl (by decide +kernel) rfl rfl (Nat.le_of_ble_eq_true rfl) dX12_go_334 (fun H locs hP hD hS => ?_)
                    have hP : va_P D vwCl [(h0, .inr (11, [.int h0_thrown, .ref h0_tape, .int h0_taped, .int h0_size, .int h0_limit, .int y96_0, .int y96_1, .int h0_kind, .int x_3943, .int h0_sign, .int h0_fault, .int h0_place, .long x_3928, .int h0_told, .ref h0_now, .ref h0_read, .ref h0_kept, .ref h0_snaps, .ref h0_aside, .ref h0_name, .ref h0_readName, .ref h0_keptName, .ref h0_isKept, .ref h0_onces, .int h0_snapMany, .int h0_lowest, .int h0_highest, .int h0_agreed, .int h0_jurors, .int h0_panelled, .ref h0_inSets, .int h0_surely, .int h0_asked, .ref h0_frees, .int h0_struck, .int h0_beating, .ref h0_text, .int h0_texts, .int h0_seed, .ref h0_line, .ref h0_written, .int h0_lineMany, .int h0_hasWritten, .ref h0_node, .int h0_nodes, .int h0_onesMany, .int h0_within, .int h0_top])), (aI ca h0_tape 940 F_h0_tape)] H := hP
                    have hD : va_D A [(h0, .inr (11, [.int h0_thrown, .ref h0_tape, .int h0_taped, .int h0_size, .int h0_limit, .int y96_0, .int y96_1, .int h0_kind, .int x_3943, .int h0_sign, .int h0_fault, .int h0_place, .long x_3928, .int h0_told, .ref h0_now, .ref h0_read, .ref h0_kept, .ref h0_snaps, .ref h0_aside, .ref h0_name, .ref h0_readName, .ref h0_keptName, .ref h0_isKept, .ref h0_onces, .int h0_snapMany, .int h0_lowest, .int h0_highest, .int h0_agreed, .int h0_jurors, .int h0_panelled, .ref h0_inSets, .int h0_surely, .int h0_asked, .ref h0_frees, .int h0_struck, .int h0_beating, .ref h0_text, .int h0_texts, .int h0_seed, .ref h0_line, .ref h0_written, .int h0_lineMany, .int h0_hasWritten, .ref h0_node, .int h0_nodes, .int h0_onesMany, .int h0_within, .int h0_top])), (aI ca h0_tape 940 F_h0_tape)] := hD
                    refine lv_aload_n hx hb dX12_go_337 rfl (lv_at hl 4 rfl) ?_
                    refine lv_dup hx hb dX12_go_338 rfl ?_
                    refine va_get (D := D) (ci := 11) (v := .int y96_0) (C := RX12) (T := TX12) (N := 48) hx hb hts k2 hown hK.1 hP 0 rfl rfl 5 (by decide) k3 (fun _ h9 => h9) rfl dX12_go_339 ?_
                    refine lv_iconst (v := 1) hx hb dX12_go_342 (by decide) ?_
                    refine lv_iadd hx hb dX12_go_343 ?_
                    refine lv_topi (fun x_3946 ex_3946 => ?_)
                    have hY := hY.trans (lt1_e ex_3946)
                    have h_3947 : rg 1 940 x_3946 := by rw [ex_3946]; exact rg_add h_3607 (⟨by decide, by decide⟩ : rg 1 1 (1 : Int32)) (by decide) (by decide) (by decide) (by decide)
                    have l_3948 : lq x_3946.toInt (y96_0.toInt + 1) := lqm (by rw [ex_3946]; have q := tadd h_3607 (⟨by decide, by decide⟩ : rg 1 1 (1 : Int32)) (by decide) (by decide); have r1 := lqe (lqm (by decide) : lq (1 : Int32).toInt 1); omega)
                    refine va_put (D := D) (ci := 11) (v := .int x_3946) (ty := .int) (C := RX12) (T := TX12) (N := 48) hx hb hts k2 tyX12 tyX12_ok nmX12 hown hK.1 hP hD hS 0 rfl rfl 5 (by decide) k3 (fun _ h9 => h9) rfl (by decide +kernel) rfl rfl (Nat.le_of_ble_eq_true rfl) dX12_go_344 (fun H locs hP hD hS => ?_)
                    have hP : va_P D vwCl [(h0, .inr (11, [.int h0_thrown, .ref h0_tape, .int h0_taped, .int h0_size, .int h0_limit, .int x_3946, .int y96_1, .int h0_kind, .int x_3943, .int h0_sign, .int h0_fault, .int h0_place, .long x_3928, .int h0_told, .ref h0_now, .ref h0_read, .ref h0_kept, .ref h0_snaps, .ref h0_aside, .ref h0_name, .ref h0_readName, .ref h0_keptName, .ref h0_isKept, .ref h0_onces, .int h0_snapMany, .int h0_lowest, .int h0_highest, .int h0_agreed, .int h0_jurors, .int h0_panelled, .ref h0_inSets, .int h0_surely, .int h0_asked, .ref h0_frees, .int h0_struck, .int h0_beating, .ref h0_text, .int h0_texts, .int h0_seed, .ref h0_line, .ref h0_written, .int h0_lineMany, .int h0_hasWritten, .ref h0_node, .int h0_nodes, .int h0_onesMany, .int h0_within, .int h0_top])), (aI ca h0_tape 940 F_h0_tape)] H := hP
                    have hD : va_D A [(h0, .inr (11, [.int h0_thrown, .ref h0_tape, .int h0_taped, .int h0_size, .int h0_limit, .int x_3946, .int y96_1, .int h0_kind, .int x_3943, .int h0_sign, .int h0_fault, .int h0_place, .long x_3928, .int h0_told, .ref h0_now, .ref h0_read, .ref h0_kept, .ref h0_snaps, .ref h0_aside, .ref h0_name, .ref h0_readName, .ref h0_keptName, .ref h0_isKept, .ref h0_onces, .int h0_snapMany, .int h0_lowest, .int h0_highest, .int h0_agreed, .int h0_jurors, .int h0_panelled, .ref h0_inSets, .int h0_surely, .int h0_asked, .ref h0_frees, .int h0_struck, .int h0_beating, .ref h0_text, .int h0_texts, .int h0_seed, .ref h0_line, .ref h0_written, .int h0_lineMany, .int h0_hasWritten, .ref h0_node, .int h0_nodes, .int h0_onesMany, .int h0_within, .int h0_top])), (aI ca h0_tape 940 F_h0_tape)] := hD
                    refine lv_goto (tgt := 215) hx hb dX12_go_347 (by decide) ?_
                    exact J215_2556 940 1 1 x_3946 y96_1 x_3943 x_3928 trivial (⟨by decide, by decide⟩ : rg 0 1 (1 : Int32)) (⟨by decide, by decide⟩ : rg 0 1 (1 : Int32)) h_3947 (rlm (by have q0 := lqe l_3948; have q1 := rle py96_0_h0_to; omega)) hy96_1 (rlm (by have q0 := rle py96_1_h0_to; omega)) t96_h0_limit h_3608 (by have q0 := h_3947.1; omega) hY H locs ls (oPsub hP [0, 1] rfl) (hD.sub [0, 1] (by decide) rfl) hS (lv_sub hl [4, 2, 0] rfl)
    · skip
      have hY := hY.trans (if_neg c_3605)
      have o_3949 : rl 0 h0_size y96_0 := rl_nlt c_3605
      refine lv_aload_n hx hb dX12_go_107 rfl (lv_at hl 0 rfl) ?_
      refine lv_iconst (v := 0) hx hb dX12_go_108 (by decide) ?_
      refine va_put (D := D) (ci := 11) (v := .int 0) (ty := .int) (C := RX12) (T := TX12) (N := 48) hx hb hts k2 tyX12 tyX12_ok nmX12 hown hK.1 hP hD hS 0 rfl rfl 7 (by decide) k1 (fun _ h9 => h9) rfl (by decide +kernel) rfl rfl (Nat.le_of_ble_eq_true rfl) dX12_go_109 (fun H locs hP hD hS => ?_)
      have hP : va_P D vwCl [(h0, .inr (11, [.int h0_thrown, .ref h0_tape, .int h0_taped, .int h0_size, .int h0_limit, .int y96_0, .int y96_1, .int 0, .int h0_number, .int h0_sign, .int h0_fault, .int h0_place, .long h0_word, .int h0_told, .ref h0_now, .ref h0_read, .ref h0_kept, .ref h0_snaps, .ref h0_aside, .ref h0_name, .ref h0_readName, .ref h0_keptName, .ref h0_isKept, .ref h0_onces, .int h0_snapMany, .int h0_lowest, .int h0_highest, .int h0_agreed, .int h0_jurors, .int h0_panelled, .ref h0_inSets, .int h0_surely, .int h0_asked, .ref h0_frees, .int h0_struck, .int h0_beating, .ref h0_text, .int h0_texts, .int h0_seed, .ref h0_line, .ref h0_written, .int h0_lineMany, .int h0_hasWritten, .ref h0_node, .int h0_nodes, .int h0_onesMany, .int h0_within, .int h0_top])), (aI ca h0_tape 940 F_h0_tape)] H := hP
      have hD : va_D A [(h0, .inr (11, [.int h0_thrown, .ref h0_tape, .int h0_taped, .int h0_size, .int h0_limit, .int y96_0, .int y96_1, .int 0, .int h0_number, .int h0_sign, .int h0_fault, .int h0_place, .long h0_word, .int h0_told, .ref h0_now, .ref h0_read, .ref h0_kept, .ref h0_snaps, .ref h0_aside, .ref h0_name, .ref h0_readName, .ref h0_keptName, .ref h0_isKept, .ref h0_onces, .int h0_snapMany, .int h0_lowest, .int h0_highest, .int h0_agreed, .int h0_jurors, .int h0_panelled, .ref h0_inSets, .int h0_surely, .int h0_asked, .ref h0_frees, .int h0_struck, .int h0_beating, .ref h0_text, .int h0_texts, .int h0_seed, .ref h0_line, .ref h0_written, .int h0_lineMany, .int h0_hasWritten, .ref h0_node, .int h0_nodes, .int h0_onesMany, .int h0_within, .int h0_top])), (aI ca h0_tape 940 F_h0_tape)] := hD
      exact oE_v hx hb hr hlocks hP hD hS (y96_0, y96_1, 0, h0_number, h0_sign, h0_word) [0, 1] rfl (by decide) ⟨hy96_0, (rgw (lo := (-2147483648)) (hi := 940) hy96_1 (by decide) (by decide)), (⟨by decide, by decide⟩ : rg 0 4 (0 : Int32)), (show rl 0 h0_to y96_0 from rlm (by have q0 := rle py96_0_h0_to; omega)), (show lk h0_to 0 y96_0 from lkm (by have z0 := ((⟨by decide, by decide⟩ : rg 0 0 (0 : Int32))).2; have q0 := rle py96_0_h0_to; omega)), hY.symm⟩ (Nat.le_of_ble_eq_true rfl) (Nat.le_of_ble_eq_true rfl) dX12_go_112
  have J52_3950 : ∀ (y52_0 : Int32), rg 0 940 y52_0 → rl 0 h0_to y52_0 → y_X12_go h0_size h0_limit h0_to h0_number h0_sign h0_word F_h0_tape = y_X12_go_52 h0_size h0_limit h0_number h0_sign h0_word F_h0_tape y52_0 → ∀ (H : Heap) (locs : List Loc) (ls : Array Slot), va_P D vwCl [(h0, .inr (11, [.int h0_thrown, .ref h0_tape, .int h0_taped, .int h0_size, .int h0_limit, .int y52_0, .int h0_from, .int h0_kind, .int h0_number, .int h0_sign, .int h0_fault, .int h0_place, .long h0_word, .int h0_told, .ref h0_now, .ref h0_read, .ref h0_kept, .ref h0_snaps, .ref h0_aside, .ref h0_name, .ref h0_readName, .ref h0_keptName, .ref h0_isKept, .ref h0_onces, .int h0_snapMany, .int h0_lowest, .int h0_highest, .int h0_agreed, .int h0_jurors, .int h0_panelled, .ref h0_inSets, .int h0_surely, .int h0_asked, .ref h0_frees, .int h0_struck, .int h0_beating, .ref h0_text, .int h0_texts, .int h0_seed, .ref h0_line, .ref h0_written, .int h0_lineMany, .int h0_hasWritten, .ref h0_node, .int h0_nodes, .int h0_onesMany, .int h0_within, .int h0_top])), (aI ca h0_tape 940 F_h0_tape)] H → va_D A [(h0, .inr (11, [.int h0_thrown, .ref h0_tape, .int h0_taped, .int h0_size, .int h0_limit, .int y52_0, .int h0_from, .int h0_kind, .int h0_number, .int h0_sign, .int h0_fault, .int h0_place, .long h0_word, .int h0_told, .ref h0_now, .ref h0_read, .ref h0_kept, .ref h0_snaps, .ref h0_aside, .ref h0_name, .ref h0_readName, .ref h0_keptName, .ref h0_isKept, .ref h0_onces, .int h0_snapMany, .int h0_lowest, .int h0_highest, .int h0_agreed, .int h0_jurors, .int h0_panelled, .ref h0_inSets, .int h0_surely, .int h0_asked, .ref h0_frees, .int h0_struck, .int h0_beating, .ref h0_text, .int h0_texts, .int h0_seed, .ref h0_line, .ref h0_written, .int h0_lineMany, .int h0_hasWritten, .ref h0_node, .int h0_nodes, .int h0_onesMany, .int h0_within, .int h0_top])), (aI ca h0_tape 940 F_h0_tape)] → va_S A s.heap H locs → lv_has ls 5 [(0, .ref h0)] → W p l e ({ frames := 1, cells := 0, slots := 0, locals := 21 } : Room) s m ([.ref h0] : List Value).toArray below meth c H locs 0 0 (MQ below ((oQv D (fun (u : Int32 × Int32 × Int32 × Int32 × Int32 × Int64) => (rg 0 940 u.1) ∧ (rg (-2147483648) 940 u.2.1) ∧ (rg 0 4 u.2.2.1) ∧ (rl 0 h0_to u.1) ∧ (lk h0_to u.2.2.1 u.1) ∧ ((u.1, u.2.1, u.2.2.1, u.2.2.2.1, u.2.2.2.2.1, u.2.2.2.2.2) = y_X12_go h0_size h0_limit h0_to h0_number h0_sign h0_word F_h0_tape)) (fun (u : Int32 × Int32 × Int32 × Int32 × Int32 × Int64) => [(h0, .inr (11, [.int h0_thrown, .ref h0_tape, .int h0_taped, .int h0_size, .int h0_limit, .int u.1, .int u.2.1, .int u.2.2.1, .int u.2.2.2.1, .int u.2.2.2.2.1, .int h0_fault, .int h0_place, .long u.2.2.2.2.2, .int h0_told, .ref h0_now, .ref h0_read, .ref h0_kept, .ref h0_snaps, .ref h0_aside, .ref h0_name, .ref h0_readName, .ref h0_keptName, .ref h0_isKept, .ref h0_onces, .int h0_snapMany, .int h0_lowest, .int h0_highest, .int h0_agreed, .int h0_jurors, .int h0_panelled, .ref h0_inSets, .int h0_surely, .int h0_asked, .ref h0_frees, .int h0_struck, .int h0_beating, .ref h0_text, .int h0_texts, .int h0_seed, .ref h0_line, .ref h0_written, .int h0_lineMany, .int h0_hasWritten, .ref h0_node, .int h0_nodes, .int h0_onesMany, .int h0_within, .int h0_top])), (aI ca h0_tape 940 F_h0_tape)])) A) ([.ref h0] : List Value).toArray s 0 0 A) (F0 m 52 ls []) := by
    intro y52_0 hy52_0 py52_0_h0_to hY H locs ls hP hD hS hl
    have hY := hY.trans (y_X12_go_52_s h0_size h0_limit h0_number h0_sign h0_word F_h0_tape y52_0)
    refine lv_aload_n hx hb dX12_go_52 rfl (lv_at hl 0 rfl) ?_
    refine lv_aload_n hx hb dX12_go_53 rfl (lv_at hl 0 rfl) ?_
    refine va_get (D := D) (ci := 11) (v := .int y52_0) (C := RX12) (T := TX12) (N := 48) hx hb hts k2 hown hK.1 hP 0 rfl rfl 5 (by decide) k3 (fun _ h9 => h9) rfl dX12_go_54 ?_
    refine va_put (D := D) (ci := 11) (v := .int y52_0) (ty := .int) (C := RX12) (T := TX12) (N := 48) hx hb hts k2 tyX12 tyX12_ok nmX12 hown hK.1 hP hD hS 0 rfl rfl 6 (by decide) k4 (fun _ h9 => h9) rfl (by decide +kernel) rfl rfl (Nat.le_of_ble_eq_true rfl) dX12_go_57 (fun H locs hP hD hS => ?_)
    have hP : va_P D vwCl [(h0, .inr (11, [.int h0_thrown, .ref h0_tape, .int h0_taped, .int h0_size, .int h0_limit, .int y52_0, .int y52_0, .int h0_kind, .int h0_number, .int h0_sign, .int h0_fault, .int h0_place, .long h0_word, .int h0_told, .ref h0_now, .ref h0_read, .ref h0_kept, .ref h0_snaps, .ref h0_aside, .ref h0_name, .ref h0_readName, .ref h0_keptName, .ref h0_isKept, .ref h0_onces, .int h0_snapMany, .int h0_lowest, .int h0_highest, .int h0_agreed, .int h0_jurors, .int h0_panelled, .ref h0_inSets, .int h0_surely, .int h0_asked, .ref h0_frees, .int h0_struck, .int h0_beating, .ref h0_text, .int h0_texts, .int h0_seed, .ref h0_line, .ref h0_written, .int h0_lineMany, .int h0_hasWritten, .ref h0_node, .int h0_nodes, .int h0_onesMany, .int h0_within, .int h0_top])), (aI ca h0_tape 940 F_h0_tape)] H := hP
    have hD : va_D A [(h0, .inr (11, [.int h0_thrown, .ref h0_tape, .int h0_taped, .int h0_size, .int h0_limit, .int y52_0, .int y52_0, .int h0_kind, .int h0_number, .int h0_sign, .int h0_fault, .int h0_place, .long h0_word, .int h0_told, .ref h0_now, .ref h0_read, .ref h0_kept, .ref h0_snaps, .ref h0_aside, .ref h0_name, .ref h0_readName, .ref h0_keptName, .ref h0_isKept, .ref h0_onces, .int h0_snapMany, .int h0_lowest, .int h0_highest, .int h0_agreed, .int h0_jurors, .int h0_panelled, .ref h0_inSets, .int h0_surely, .int h0_asked, .ref h0_frees, .int h0_struck, .int h0_beating, .ref h0_text, .int h0_texts, .int h0_seed, .ref h0_line, .ref h0_written, .int h0_lineMany, .int h0_hasWritten, .ref h0_node, .int h0_nodes, .int h0_onesMany, .int h0_within, .int h0_top])), (aI ca h0_tape 940 F_h0_tape)] := hD
    refine lv_aload_n hx hb dX12_go_60 rfl (lv_at hl 0 rfl) ?_
    refine va_get (D := D) (ci := 11) (v := .int h0_size) (C := RX12) (T := TX12) (N := 48) hx hb hts k2 hown hK.1 hP 0 rfl rfl 3 (by decide) k11 (fun _ h9 => h9) rfl dX12_go_61 ?_
    refine lv_aload_n hx hb dX12_go_64 rfl (lv_at hl 0 rfl) ?_
    refine va_get (D := D) (ci := 11) (v := .int h0_limit) (C := RX12) (T := TX12) (N := 48) hx hb hts k2 hown hK.1 hP 0 rfl rfl 4 (by decide) k12 (fun _ h9 => h9) rfl dX12_go_65 ?_
    refine lv_icmp_le (tgt := 96) hx hb dX12_go_68 (by decide) (fun c_3951 => ?_) (fun c_3951 => ?_)
    · skip
      have hY := hY.trans (if_pos c_3951)
      have o_3952 : rl 0 h0_size h0_limit := rl_le c_3951
      have h_3953 : rg 0 2147483647 h0_limit := rl_y o_3952 i_h0_size (rga h0_limit) (by decide) (by decide)
      exact J96_3604 y52_0 y52_0 hy52_0 (rlm (by have q0 := rle py52_0_h0_to; omega)) hy52_0 (rlm (by have q0 := rle py52_0_h0_to; omega)) h_3953 hY H locs ls (oPsub hP [0, 1] rfl) (hD.sub [0, 1] (by decide) rfl) hS (lv_sub hl [0] rfl)
    · skip
      have hY := hY.trans (if_neg c_3951)
      have o_3954 : rl 1 h0_limit h0_size := rl_nle c_3951
      have h_3955 : rg (-2147483648) 939 h0_limit := rl_x o_3954 (rga h0_limit) i_h0_size (by decide) (by decide)
      refine lv_aload_n hx hb dX12_go_71 rfl (lv_at hl 0 rfl) ?_
      refine va_get (D := D) (ci := 11) (v := .int y52_0) (C := RX12) (T := TX12) (N := 48) hx hb hts k2 hown hK.1 hP 0 rfl rfl 6 (by decide) k4 (fun _ h9 => h9) rfl dX12_go_72 ?_
      refine lv_aload_n hx hb dX12_go_75 rfl (lv_at hl 0 rfl) ?_
      refine va_get (D := D) (ci := 11) (v := .int h0_limit) (C := RX12) (T := TX12) (N := 48) hx hb hts k2 hown hK.1 hP 0 rfl rfl 4 (by decide) k12 (fun _ h9 => h9) rfl dX12_go_76 ?_
      refine lv_icmp_lt (tgt := 96) hx hb dX12_go_79 (by decide) (fun c_3956 => ?_) (fun c_3956 => ?_)
      · skip
        have hY := hY.trans (if_pos c_3956)
        have o_3957 : rl 1 y52_0 h0_limit := rl_lt c_3956
        have h_3958 : rg 0 938 y52_0 := rl_x o_3957 hy52_0 h_3955 (by decide) (by decide)
        have h_3959 : rg 1 939 h0_limit := rl_y o_3957 hy52_0 h_3955 (by decide) (by decide)
        exact J96_3604 y52_0 y52_0 (rgw (lo := 0) (hi := 940) h_3958 (by decide) (by decide)) (rlm (by have q0 := rle py52_0_h0_to; omega)) (rgw (lo := 0) (hi := 940) h_3958 (by decide) (by decide)) (rlm (by have q0 := rle py52_0_h0_to; omega)) (rgw (lo := 0) (hi := 2147483647) h_3959 (by decide) (by decide)) hY H locs ls (oPsub hP [0, 1] rfl) (hD.sub [0, 1] (by decide) rfl) hS (lv_sub hl [0] rfl)
      · skip
        have hY := hY.trans (if_neg c_3956)
        have o_3960 : rl 0 h0_limit y52_0 := rl_nlt c_3956
        refine lv_aload_n hx hb dX12_go_82 rfl (lv_at hl 0 rfl) ?_
        refine lv_aload_n hx hb dX12_go_83 rfl (lv_at hl 0 rfl) ?_
        refine va_get (D := D) (ci := 11) (v := .int h0_limit) (C := RX12) (T := TX12) (N := 48) hx hb hts k2 hown hK.1 hP 0 rfl rfl 4 (by decide) k12 (fun _ h9 => h9) rfl dX12_go_84 ?_
        refine va_put (D := D) (ci := 11) (v := .int h0_limit) (ty := .int) (C := RX12) (T := TX12) (N := 48) hx hb hts k2 tyX12 tyX12_ok nmX12 hown hK.1 hP hD hS 0 rfl rfl 6 (by decide) k4 (fun _ h9 => h9) rfl (by decide +kernel) rfl rfl (Nat.le_of_ble_eq_true rfl) dX12_go_87 (fun H locs hP hD hS => ?_)
        have hP : va_P D vwCl [(h0, .inr (11, [.int h0_thrown, .ref h0_tape, .int h0_taped, .int h0_size, .int h0_limit, .int y52_0, .int h0_limit, .int h0_kind, .int h0_number, .int h0_sign, .int h0_fault, .int h0_place, .long h0_word, .int h0_told, .ref h0_now, .ref h0_read, .ref h0_kept, .ref h0_snaps, .ref h0_aside, .ref h0_name, .ref h0_readName, .ref h0_keptName, .ref h0_isKept, .ref h0_onces, .int h0_snapMany, .int h0_lowest, .int h0_highest, .int h0_agreed, .int h0_jurors, .int h0_panelled, .ref h0_inSets, .int h0_surely, .int h0_asked, .ref h0_frees, .int h0_struck, .int h0_beating, .ref h0_text, .int h0_texts, .int h0_seed, .ref h0_line, .ref h0_written, .int h0_lineMany, .int h0_hasWritten, .ref h0_node, .int h0_nodes, .int h0_onesMany, .int h0_within, .int h0_top])), (aI ca h0_tape 940 F_h0_tape)] H := hP
        have hD : va_D A [(h0, .inr (11, [.int h0_thrown, .ref h0_tape, .int h0_taped, .int h0_size, .int h0_limit, .int y52_0, .int h0_limit, .int h0_kind, .int h0_number, .int h0_sign, .int h0_fault, .int h0_place, .long h0_word, .int h0_told, .ref h0_now, .ref h0_read, .ref h0_kept, .ref h0_snaps, .ref h0_aside, .ref h0_name, .ref h0_readName, .ref h0_keptName, .ref h0_isKept, .ref h0_onces, .int h0_snapMany, .int h0_lowest, .int h0_highest, .int h0_agreed, .int h0_jurors, .int h0_panelled, .ref h0_inSets, .int h0_surely, .int h0_asked, .ref h0_frees, .int h0_struck, .int h0_beating, .ref h0_text, .int h0_texts, .int h0_seed, .ref h0_line, .ref h0_written, .int h0_lineMany, .int h0_hasWritten, .ref h0_node, .int h0_nodes, .int h0_onesMany, .int h0_within, .int h0_top])), (aI ca h0_tape 940 F_h0_tape)] := hD
        refine lv_aload_n hx hb dX12_go_90 rfl (lv_at hl 0 rfl) ?_
        refine lv_iconst (v := 1) hx hb dX12_go_91 (by decide) ?_
        refine va_put (D := D) (ci := 11) (v := .int 1) (ty := .int) (C := RX12) (T := TX12) (N := 48) hx hb hts k2 tyX12 tyX12_ok nmX12 hown hK.1 hP hD hS 0 rfl rfl 7 (by decide) k1 (fun _ h9 => h9) rfl (by decide +kernel) rfl rfl (Nat.le_of_ble_eq_true rfl) dX12_go_92 (fun H locs hP hD hS => ?_)
        have hP : va_P D vwCl [(h0, .inr (11, [.int h0_thrown, .ref h0_tape, .int h0_taped, .int h0_size, .int h0_limit, .int y52_0, .int h0_limit, .int 1, .int h0_number, .int h0_sign, .int h0_fault, .int h0_place, .long h0_word, .int h0_told, .ref h0_now, .ref h0_read, .ref h0_kept, .ref h0_snaps, .ref h0_aside, .ref h0_name, .ref h0_readName, .ref h0_keptName, .ref h0_isKept, .ref h0_onces, .int h0_snapMany, .int h0_lowest, .int h0_highest, .int h0_agreed, .int h0_jurors, .int h0_panelled, .ref h0_inSets, .int h0_surely, .int h0_asked, .ref h0_frees, .int h0_struck, .int h0_beating, .ref h0_text, .int h0_texts, .int h0_seed, .ref h0_line, .ref h0_written, .int h0_lineMany, .int h0_hasWritten, .ref h0_node, .int h0_nodes, .int h0_onesMany, .int h0_within, .int h0_top])), (aI ca h0_tape 940 F_h0_tape)] H := hP
        have hD : va_D A [(h0, .inr (11, [.int h0_thrown, .ref h0_tape, .int h0_taped, .int h0_size, .int h0_limit, .int y52_0, .int h0_limit, .int 1, .int h0_number, .int h0_sign, .int h0_fault, .int h0_place, .long h0_word, .int h0_told, .ref h0_now, .ref h0_read, .ref h0_kept, .ref h0_snaps, .ref h0_aside, .ref h0_name, .ref h0_readName, .ref h0_keptName, .ref h0_isKept, .ref h0_onces, .int h0_snapMany, .int h0_lowest, .int h0_highest, .int h0_agreed, .int h0_jurors, .int h0_panelled, .ref h0_inSets, .int h0_surely, .int h0_asked, .ref h0_frees, .int h0_struck, .int h0_beating, .ref h0_text, .int h0_texts, .int h0_seed, .ref h0_line, .ref h0_written, .int h0_lineMany, .int h0_hasWritten, .ref h0_node, .int h0_nodes, .int h0_onesMany, .int h0_within, .int h0_top])), (aI ca h0_tape 940 F_h0_tape)] := hD
        exact oE_v hx hb hr hlocks hP hD hS (y52_0, h0_limit, 1, h0_number, h0_sign, h0_word) [0, 1] rfl (by decide) ⟨hy52_0, (rgw (lo := (-2147483648)) (hi := 940) h_3955 (by decide) (by decide)), (⟨by decide, by decide⟩ : rg 0 4 (1 : Int32)), (show rl 0 h0_to y52_0 from rlm (by have q0 := rle py52_0_h0_to; omega)), (show lk h0_to 1 y52_0 from lkm (by have z0 := ((⟨by decide, by decide⟩ : rg 1 1 (1 : Int32))).2; have q0 := rle py52_0_h0_to; omega)), hY.symm⟩ (Nat.le_of_ble_eq_true rfl) (Nat.le_of_ble_eq_true rfl) dX12_go_95
  have J0_3961 : ∀ (n0 : Nat) (y0_0 : Int32), True → rg 1 940 y0_0 → rl 1 h0_to y0_0 → rg 1 940 h0_size → rg 0 939 h0_to → rl 1 h0_to h0_size → 940 < y0_0.toInt + (n0 : Int) → y_X12_go h0_size h0_limit h0_to h0_number h0_sign h0_word F_h0_tape = y_X12_go_0 h0_size h0_limit h0_number h0_sign h0_word F_h0_tape n0 y0_0 → ∀ (H : Heap) (locs : List Loc) (ls : Array Slot), va_P D vwCl [(h0, .inr (11, [.int h0_thrown, .ref h0_tape, .int h0_taped, .int h0_size, .int h0_limit, .int y0_0, .int h0_from, .int h0_kind, .int h0_number, .int h0_sign, .int h0_fault, .int h0_place, .long h0_word, .int h0_told, .ref h0_now, .ref h0_read, .ref h0_kept, .ref h0_snaps, .ref h0_aside, .ref h0_name, .ref h0_readName, .ref h0_keptName, .ref h0_isKept, .ref h0_onces, .int h0_snapMany, .int h0_lowest, .int h0_highest, .int h0_agreed, .int h0_jurors, .int h0_panelled, .ref h0_inSets, .int h0_surely, .int h0_asked, .ref h0_frees, .int h0_struck, .int h0_beating, .ref h0_text, .int h0_texts, .int h0_seed, .ref h0_line, .ref h0_written, .int h0_lineMany, .int h0_hasWritten, .ref h0_node, .int h0_nodes, .int h0_onesMany, .int h0_within, .int h0_top])), (aI ca h0_tape 940 F_h0_tape)] H → va_D A [(h0, .inr (11, [.int h0_thrown, .ref h0_tape, .int h0_taped, .int h0_size, .int h0_limit, .int y0_0, .int h0_from, .int h0_kind, .int h0_number, .int h0_sign, .int h0_fault, .int h0_place, .long h0_word, .int h0_told, .ref h0_now, .ref h0_read, .ref h0_kept, .ref h0_snaps, .ref h0_aside, .ref h0_name, .ref h0_readName, .ref h0_keptName, .ref h0_isKept, .ref h0_onces, .int h0_snapMany, .int h0_lowest, .int h0_highest, .int h0_agreed, .int h0_jurors, .int h0_panelled, .ref h0_inSets, .int h0_surely, .int h0_asked, .ref h0_frees, .int h0_struck, .int h0_beating, .ref h0_text, .int h0_texts, .int h0_seed, .ref h0_line, .ref h0_written, .int h0_lineMany, .int h0_hasWritten, .ref h0_node, .int h0_nodes, .int h0_onesMany, .int h0_within, .int h0_top])), (aI ca h0_tape 940 F_h0_tape)] → va_S A s.heap H locs → lv_has ls 5 [(0, .ref h0)] → W p l e ({ frames := 1, cells := 0, slots := 0, locals := 21 } : Room) s m ([.ref h0] : List Value).toArray below meth c H locs 0 0 (MQ below ((oQv D (fun (u : Int32 × Int32 × Int32 × Int32 × Int32 × Int64) => (rg 0 940 u.1) ∧ (rg (-2147483648) 940 u.2.1) ∧ (rg 0 4 u.2.2.1) ∧ (rl 0 h0_to u.1) ∧ (lk h0_to u.2.2.1 u.1) ∧ ((u.1, u.2.1, u.2.2.1, u.2.2.2.1, u.2.2.2.2.1, u.2.2.2.2.2) = y_X12_go h0_size h0_limit h0_to h0_number h0_sign h0_word F_h0_tape)) (fun (u : Int32 × Int32 × Int32 × Int32 × Int32 × Int64) => [(h0, .inr (11, [.int h0_thrown, .ref h0_tape, .int h0_taped, .int h0_size, .int h0_limit, .int u.1, .int u.2.1, .int u.2.2.1, .int u.2.2.2.1, .int u.2.2.2.2.1, .int h0_fault, .int h0_place, .long u.2.2.2.2.2, .int h0_told, .ref h0_now, .ref h0_read, .ref h0_kept, .ref h0_snaps, .ref h0_aside, .ref h0_name, .ref h0_readName, .ref h0_keptName, .ref h0_isKept, .ref h0_onces, .int h0_snapMany, .int h0_lowest, .int h0_highest, .int h0_agreed, .int h0_jurors, .int h0_panelled, .ref h0_inSets, .int h0_surely, .int h0_asked, .ref h0_frees, .int h0_struck, .int h0_beating, .ref h0_text, .int h0_texts, .int h0_seed, .ref h0_line, .ref h0_written, .int h0_lineMany, .int h0_hasWritten, .ref h0_node, .int h0_nodes, .int h0_onesMany, .int h0_within, .int h0_top])), (aI ca h0_tape 940 F_h0_tape)])) A) ([.ref h0] : List Value).toArray s 0 0 A) (F0 m 0 ls []) := by
    intro n0
    induction n0 with
    | zero => intro y0_0 _ hy0_0 py0_0_h0_to t0_h0_size t0_h0_to o0_h0_to_h0_size hn hY; exact absurd hn (by have q9 := hy0_0.2; omega)
    | succ n0 ih0 =>
      intro y0_0 _ hy0_0 py0_0_h0_to t0_h0_size t0_h0_to o0_h0_to_h0_size hn hY H locs ls hP hD hS hl
      have hY := hY.trans (y_X12_go_0_s h0_size h0_limit h0_number h0_sign h0_word F_h0_tape _ y0_0)
      refine lv_aload_n hx hb dX12_go_0 rfl (lv_at hl 0 rfl) ?_
      refine va_get (D := D) (ci := 11) (v := .int y0_0) (C := RX12) (T := TX12) (N := 48) hx hb hts k2 hown hK.1 hP 0 rfl rfl 5 (by decide) k3 (fun _ h9 => h9) rfl dX12_go_1 ?_
      refine lv_aload_n hx hb dX12_go_4 rfl (lv_at hl 0 rfl) ?_
      refine va_get (D := D) (ci := 11) (v := .int h0_size) (C := RX12) (T := TX12) (N := 48) hx hb hts k2 hown hK.1 hP 0 rfl rfl 3 (by decide) k11 (fun _ h9 => h9) rfl dX12_go_5 ?_
      refine lv_icmp_ge (tgt := 52) hx hb dX12_go_8 (by decide) (fun c_3985 => ?_) (fun c_3985 => ?_)
      · skip
        have hY := hY.trans (if_pos c_3985)
        have o_3986 : rl 0 h0_size y0_0 := rl_le c_3985
        exact J52_3950 y0_0 (rgw (lo := 0) (hi := 940) hy0_0 (by decide) (by decide)) (rlm (by have q0 := rle o0_h0_to_h0_size; have q1 := rle o_3986; omega)) hY H locs ls (oPsub hP [0, 1] rfl) (hD.sub [0, 1] (by decide) rfl) hS (lv_sub hl [0] rfl)
      · skip
        have hY := hY.trans (if_neg c_3985)
        have o_3987 : rl 1 y0_0 h0_size := rl_nle c_3985
        have h_3988 : rg 1 939 y0_0 := rl_x o_3987 hy0_0 t0_h0_size (by decide) (by decide)
        have h_3989 : rg 2 940 h0_size := rl_y o_3987 hy0_0 t0_h0_size (by decide) (by decide)
        refine lv_aload_n hx hb dX12_go_11 rfl (lv_at hl 0 rfl) ?_
        refine va_get (D := D) (ci := 11) (v := .ref h0_tape) (C := RX12) (T := TX12) (N := 48) hx hb hts k2 hown hK.1 hP 0 rfl rfl 1 (by decide) k5 (fun _ h9 => h9) rfl dX12_go_12 ?_
        refine lv_aload_n hx hb dX12_go_15 rfl (lv_at hl 0 rfl) ?_
        refine va_get (D := D) (ci := 11) (v := .int y0_0) (C := RX12) (T := TX12) (N := 48) hx hb hts k2 hown hK.1 hP 0 rfl rfl 5 (by decide) k3 (fun _ h9 => h9) rfl dX12_go_16 ?_
        refine va_iald hx hb hK.1 hP 1 0 rfl rfl (rg_in h_3988 (by decide) (by decide)) dX12_go_19 ?_
        refine lv_topi (fun x_3990 ex_3990 => ?_)
        have hY := hY.trans (lt1_e ex_3990)
        have h_3991 : rg 0 255 x_3990 := by rw [ex_3990]; exact sg_at (sg_w (a' := 1) (b' := 940) (lo' := 0) (hi' := 255) (sg_w (a' := 0) (b' := 940) (lo' := 0) (hi' := 255) s_h0_tape_0 (by decide) (by decide) (by decide) (by decide)) (by decide) (by decide) (by decide) (by decide)) h_3988 (by decide) (by decide) (by decide)
        refine lv_bipush (v := 32) hx hb dX12_go_20 (by decide) ?_
        refine lv_icmp_eq (tgt := 39) hx hb dX12_go_22 (by decide) (fun c_3992 => ?_) (fun c_3992 => ?_)
        · skip
          have hY := hY.trans (if_pos c_3992)
          have o_3993 : rl 0 x_3990 32 := rl_eq c_3992
          have h_3994 : rg 0 32 x_3990 := rl_x o_3993 h_3991 (⟨by decide, by decide⟩ : rg 32 32 (32 : Int32)) (by decide) (by decide)
          have o_3995 : rl 0 32 x_3990 := rl_eq c_3992.symm
          have h_3996 : rg 32 32 x_3990 := rl_y o_3995 (⟨by decide, by decide⟩ : rg 32 32 (32 : Int32)) h_3994 (by decide) (by decide)
          refine lv_aload_n hx hb dX12_go_39 rfl (lv_at hl 0 rfl) ?_
          refine lv_dup hx hb dX12_go_40 rfl ?_
          refine va_get (D := D) (ci := 11) (v := .int y0_0) (C := RX12) (T := TX12) (N := 48) hx hb hts k2 hown hK.1 hP 0 rfl rfl 5 (by decide) k3 (fun _ h9 => h9) rfl dX12_go_41 ?_
          refine lv_iconst (v := 1) hx hb dX12_go_44 (by decide) ?_
          refine lv_iadd hx hb dX12_go_45 ?_
          refine lv_topi (fun x_3997 ex_3997 => ?_)
          have hY := hY.trans (lt1_e ex_3997)
          have h_3998 : rg 2 940 x_3997 := by rw [ex_3997]; exact rg_add h_3988 (⟨by decide, by decide⟩ : rg 1 1 (1 : Int32)) (by decide) (by decide) (by decide) (by decide)
          have l_3999 : lq x_3997.toInt (y0_0.toInt + 1) := lqm (by rw [ex_3997]; have q := tadd h_3988 (⟨by decide, by decide⟩ : rg 1 1 (1 : Int32)) (by decide) (by decide); have r1 := lqe (lqm (by decide) : lq (1 : Int32).toInt 1); omega)
          refine va_put (D := D) (ci := 11) (v := .int x_3997) (ty := .int) (C := RX12) (T := TX12) (N := 48) hx hb hts k2 tyX12 tyX12_ok nmX12 hown hK.1 hP hD hS 0 rfl rfl 5 (by decide) k3 (fun _ h9 => h9) rfl (by decide +kernel) rfl rfl (Nat.le_of_ble_eq_true rfl) dX12_go_46 (fun H locs hP hD hS => ?_)
          have hP : va_P D vwCl [(h0, .inr (11, [.int h0_thrown, .ref h0_tape, .int h0_taped, .int h0_size, .int h0_limit, .int x_3997, .int h0_from, .int h0_kind, .int h0_number, .int h0_sign, .int h0_fault, .int h0_place, .long h0_word, .int h0_told, .ref h0_now, .ref h0_read, .ref h0_kept, .ref h0_snaps, .ref h0_aside, .ref h0_name, .ref h0_readName, .ref h0_keptName, .ref h0_isKept, .ref h0_onces, .int h0_snapMany, .int h0_lowest, .int h0_highest, .int h0_agreed, .int h0_jurors, .int h0_panelled, .ref h0_inSets, .int h0_surely, .int h0_asked, .ref h0_frees, .int h0_struck, .int h0_beating, .ref h0_text, .int h0_texts, .int h0_seed, .ref h0_line, .ref h0_written, .int h0_lineMany, .int h0_hasWritten, .ref h0_node, .int h0_nodes, .int h0_onesMany, .int h0_within, .int h0_top])), (aI ca h0_tape 940 F_h0_tape)] H := hP
          have hD : va_D A [(h0, .inr (11, [.int h0_thrown, .ref h0_tape, .int h0_taped, .int h0_size, .int h0_limit, .int x_3997, .int h0_from, .int h0_kind, .int h0_number, .int h0_sign, .int h0_fault, .int h0_place, .long h0_word, .int h0_told, .ref h0_now, .ref h0_read, .ref h0_kept, .ref h0_snaps, .ref h0_aside, .ref h0_name, .ref h0_readName, .ref h0_keptName, .ref h0_isKept, .ref h0_onces, .int h0_snapMany, .int h0_lowest, .int h0_highest, .int h0_agreed, .int h0_jurors, .int h0_panelled, .ref h0_inSets, .int h0_surely, .int h0_asked, .ref h0_frees, .int h0_struck, .int h0_beating, .ref h0_text, .int h0_texts, .int h0_seed, .ref h0_line, .ref h0_written, .int h0_lineMany, .int h0_hasWritten, .ref h0_node, .int h0_nodes, .int h0_onesMany, .int h0_within, .int h0_top])), (aI ca h0_tape 940 F_h0_tape)] := hD
          refine lv_goto (tgt := 0) hx hb dX12_go_49 (by decide) ?_
          exact ih0 x_3997 trivial (rgw (lo := 1) (hi := 940) h_3998 (by decide) (by decide)) (rlm (by have q0 := lqe l_3999; have q1 := rle py0_0_h0_to; omega)) (rgw (lo := 1) (hi := 940) h_3989 (by decide) (by decide)) t0_h0_to o0_h0_to_h0_size (by have q0 := lqe l_3999; omega) hY H locs ls (oPsub hP [0, 1] rfl) (hD.sub [0, 1] (by decide) rfl) hS (lv_sub hl [0] rfl)
        · skip
          have hY := hY.trans (if_neg c_3992)
          refine lv_aload_n hx hb dX12_go_25 rfl (lv_at hl 0 rfl) ?_
          refine va_get (D := D) (ci := 11) (v := .ref h0_tape) (C := RX12) (T := TX12) (N := 48) hx hb hts k2 hown hK.1 hP 0 rfl rfl 1 (by decide) k5 (fun _ h9 => h9) rfl dX12_go_26 ?_
          refine lv_aload_n hx hb dX12_go_29 rfl (lv_at hl 0 rfl) ?_
          refine va_get (D := D) (ci := 11) (v := .int y0_0) (C := RX12) (T := TX12) (N := 48) hx hb hts k2 hown hK.1 hP 0 rfl rfl 5 (by decide) k3 (fun _ h9 => h9) rfl dX12_go_30 ?_
          refine va_iald hx hb hK.1 hP 1 0 rfl rfl (rg_in h_3988 (by decide) (by decide)) dX12_go_33 ?_
          refine oti x_3990 ex_3990.symm ?_
          refine lv_bipush (v := 10) hx hb dX12_go_34 (by decide) ?_
          refine lv_icmp_ne (tgt := 52) hx hb dX12_go_36 (by decide) (fun c_4000 => ?_) (fun c_4000 => ?_)
          · skip
            have hY := hY.trans (if_neg c_4000)
            exact J52_3950 y0_0 (rgw (lo := 0) (hi := 940) h_3988 (by decide) (by decide)) (rlm (by have q0 := rle py0_0_h0_to; omega)) hY H locs ls (oPsub hP [0, 1] rfl) (hD.sub [0, 1] (by decide) rfl) hS (lv_sub hl [0] rfl)
          · skip
            have hY := hY.trans (if_pos c_4000)
            have o_4001 : rl 0 x_3990 10 := rl_eq c_4000
            have h_4002 : rg 0 10 x_3990 := rl_x o_4001 h_3991 (⟨by decide, by decide⟩ : rg 10 10 (10 : Int32)) (by decide) (by decide)
            have o_4003 : rl 0 10 x_3990 := rl_eq c_4000.symm
            have h_4004 : rg 10 10 x_3990 := rl_y o_4003 (⟨by decide, by decide⟩ : rg 10 10 (10 : Int32)) h_4002 (by decide) (by decide)
            refine lv_aload_n hx hb dX12_go_39 rfl (lv_at hl 0 rfl) ?_
            refine lv_dup hx hb dX12_go_40 rfl ?_
            refine va_get (D := D) (ci := 11) (v := .int y0_0) (C := RX12) (T := TX12) (N := 48) hx hb hts k2 hown hK.1 hP 0 rfl rfl 5 (by decide) k3 (fun _ h9 => h9) rfl dX12_go_41 ?_
            refine lv_iconst (v := 1) hx hb dX12_go_44 (by decide) ?_
            refine lv_iadd hx hb dX12_go_45 ?_
            refine lv_topi (fun x_4005 ex_4005 => ?_)
            have hY := hY.trans (lt1_e ex_4005)
            have h_4006 : rg 2 940 x_4005 := by rw [ex_4005]; exact rg_add h_3988 (⟨by decide, by decide⟩ : rg 1 1 (1 : Int32)) (by decide) (by decide) (by decide) (by decide)
            have l_4007 : lq x_4005.toInt (y0_0.toInt + 1) := lqm (by rw [ex_4005]; have q := tadd h_3988 (⟨by decide, by decide⟩ : rg 1 1 (1 : Int32)) (by decide) (by decide); have r1 := lqe (lqm (by decide) : lq (1 : Int32).toInt 1); omega)
            refine va_put (D := D) (ci := 11) (v := .int x_4005) (ty := .int) (C := RX12) (T := TX12) (N := 48) hx hb hts k2 tyX12 tyX12_ok nmX12 hown hK.1 hP hD hS 0 rfl rfl 5 (by decide) k3 (fun _ h9 => h9) rfl (by decide +kernel) rfl rfl (Nat.le_of_ble_eq_true rfl) dX12_go_46 (fun H locs hP hD hS => ?_)
            have hP : va_P D vwCl [(h0, .inr (11, [.int h0_thrown, .ref h0_tape, .int h0_taped, .int h0_size, .int h0_limit, .int x_4005, .int h0_from, .int h0_kind, .int h0_number, .int h0_sign, .int h0_fault, .int h0_place, .long h0_word, .int h0_told, .ref h0_now, .ref h0_read, .ref h0_kept, .ref h0_snaps, .ref h0_aside, .ref h0_name, .ref h0_readName, .ref h0_keptName, .ref h0_isKept, .ref h0_onces, .int h0_snapMany, .int h0_lowest, .int h0_highest, .int h0_agreed, .int h0_jurors, .int h0_panelled, .ref h0_inSets, .int h0_surely, .int h0_asked, .ref h0_frees, .int h0_struck, .int h0_beating, .ref h0_text, .int h0_texts, .int h0_seed, .ref h0_line, .ref h0_written, .int h0_lineMany, .int h0_hasWritten, .ref h0_node, .int h0_nodes, .int h0_onesMany, .int h0_within, .int h0_top])), (aI ca h0_tape 940 F_h0_tape)] H := hP
            have hD : va_D A [(h0, .inr (11, [.int h0_thrown, .ref h0_tape, .int h0_taped, .int h0_size, .int h0_limit, .int x_4005, .int h0_from, .int h0_kind, .int h0_number, .int h0_sign, .int h0_fault, .int h0_place, .long h0_word, .int h0_told, .ref h0_now, .ref h0_read, .ref h0_kept, .ref h0_snaps, .ref h0_aside, .ref h0_name, .ref h0_readName, .ref h0_keptName, .ref h0_isKept, .ref h0_onces, .int h0_snapMany, .int h0_lowest, .int h0_highest, .int h0_agreed, .int h0_jurors, .int h0_panelled, .ref h0_inSets, .int h0_surely, .int h0_asked, .ref h0_frees, .int h0_struck, .int h0_beating, .ref h0_text, .int h0_texts, .int h0_seed, .ref h0_line, .ref h0_written, .int h0_lineMany, .int h0_hasWritten, .ref h0_node, .int h0_nodes, .int h0_onesMany, .int h0_within, .int h0_top])), (aI ca h0_tape 940 F_h0_tape)] := hD
            refine lv_goto (tgt := 0) hx hb dX12_go_49 (by decide) ?_
            exact ih0 x_4005 trivial (rgw (lo := 1) (hi := 940) h_4006 (by decide) (by decide)) (rlm (by have q0 := lqe l_4007; have q1 := rle py0_0_h0_to; omega)) (rgw (lo := 1) (hi := 940) h_3989 (by decide) (by decide)) t0_h0_to o0_h0_to_h0_size (by have q0 := lqe l_4007; omega) hY H locs ls (oPsub hP [0, 1] rfl) (hD.sub [0, 1] (by decide) rfl) hS (lv_sub hl [0] rfl)
  refine lv_aload_n hx hb dX12_go_0 rfl (lv_at hl 0 rfl) ?_
  refine va_get (D := D) (ci := 11) (v := .int h0_to) (C := RX12) (T := TX12) (N := 48) hx hb hts k2 hown hK.1 hP 0 rfl rfl 5 (by decide) k3 (fun _ h9 => h9) rfl dX12_go_1 ?_
  refine lv_aload_n hx hb dX12_go_4 rfl (lv_at hl 0 rfl) ?_
  refine va_get (D := D) (ci := 11) (v := .int h0_size) (C := RX12) (T := TX12) (N := 48) hx hb hts k2 hown hK.1 hP 0 rfl rfl 3 (by decide) k11 (fun _ h9 => h9) rfl dX12_go_5 ?_
  refine lv_icmp_ge (tgt := 52) hx hb dX12_go_8 (by decide) (fun c_4008 => ?_) (fun c_4008 => ?_)
  · skip
    have hY := hY.trans (if_pos c_4008)
    have o_4009 : rl 0 h0_size h0_to := rl_le c_4008
    exact J52_3950 h0_to i_h0_to (rlm (by omega)) hY H locs ls (oPsub hP [0, 1] rfl) (hD.sub [0, 1] (by decide) rfl) hS (lv_sub hl [0] rfl)
  · skip
    have hY := hY.trans (if_neg c_4008)
    have o_4010 : rl 1 h0_to h0_size := rl_nle c_4008
    have h_4011 : rg 0 939 h0_to := rl_x o_4010 i_h0_to i_h0_size (by decide) (by decide)
    have h_4012 : rg 1 940 h0_size := rl_y o_4010 i_h0_to i_h0_size (by decide) (by decide)
    refine lv_aload_n hx hb dX12_go_11 rfl (lv_at hl 0 rfl) ?_
    refine va_get (D := D) (ci := 11) (v := .ref h0_tape) (C := RX12) (T := TX12) (N := 48) hx hb hts k2 hown hK.1 hP 0 rfl rfl 1 (by decide) k5 (fun _ h9 => h9) rfl dX12_go_12 ?_
    refine lv_aload_n hx hb dX12_go_15 rfl (lv_at hl 0 rfl) ?_
    refine va_get (D := D) (ci := 11) (v := .int h0_to) (C := RX12) (T := TX12) (N := 48) hx hb hts k2 hown hK.1 hP 0 rfl rfl 5 (by decide) k3 (fun _ h9 => h9) rfl dX12_go_16 ?_
    refine va_iald hx hb hK.1 hP 1 0 rfl rfl (rg_in h_4011 (by decide) (by decide)) dX12_go_19 ?_
    refine lv_topi (fun x_4013 ex_4013 => ?_)
    have hY := hY.trans (lt1_e ex_4013)
    have h_4014 : rg 0 255 x_4013 := by rw [ex_4013]; exact sg_at s_h0_tape_0 h_4011 (by decide) (by decide) (by decide)
    refine lv_bipush (v := 32) hx hb dX12_go_20 (by decide) ?_
    refine lv_icmp_eq (tgt := 39) hx hb dX12_go_22 (by decide) (fun c_4015 => ?_) (fun c_4015 => ?_)
    · skip
      have hY := hY.trans (if_pos c_4015)
      have o_4016 : rl 0 x_4013 32 := rl_eq c_4015
      have h_4017 : rg 0 32 x_4013 := rl_x o_4016 h_4014 (⟨by decide, by decide⟩ : rg 32 32 (32 : Int32)) (by decide) (by decide)
      have o_4018 : rl 0 32 x_4013 := rl_eq c_4015.symm
      have h_4019 : rg 32 32 x_4013 := rl_y o_4018 (⟨by decide, by decide⟩ : rg 32 32 (32 : Int32)) h_4017 (by decide) (by decide)
      refine lv_aload_n hx hb dX12_go_39 rfl (lv_at hl 0 rfl) ?_
      refine lv_dup hx hb dX12_go_40 rfl ?_
      refine va_get (D := D) (ci := 11) (v := .int h0_to) (C := RX12) (T := TX12) (N := 48) hx hb hts k2 hown hK.1 hP 0 rfl rfl 5 (by decide) k3 (fun _ h9 => h9) rfl dX12_go_41 ?_
      refine lv_iconst (v := 1) hx hb dX12_go_44 (by decide) ?_
      refine lv_iadd hx hb dX12_go_45 ?_
      refine lv_topi (fun x_4020 ex_4020 => ?_)
      have hY := hY.trans (lt1_e ex_4020)
      have h_4021 : rg 1 940 x_4020 := by rw [ex_4020]; exact rg_add h_4011 (⟨by decide, by decide⟩ : rg 1 1 (1 : Int32)) (by decide) (by decide) (by decide) (by decide)
      have l_4022 : lq x_4020.toInt (h0_to.toInt + 1) := lqm (by rw [ex_4020]; have q := tadd h_4011 (⟨by decide, by decide⟩ : rg 1 1 (1 : Int32)) (by decide) (by decide); have r1 := lqe (lqm (by decide) : lq (1 : Int32).toInt 1); omega)
      refine va_put (D := D) (ci := 11) (v := .int x_4020) (ty := .int) (C := RX12) (T := TX12) (N := 48) hx hb hts k2 tyX12 tyX12_ok nmX12 hown hK.1 hP hD hS 0 rfl rfl 5 (by decide) k3 (fun _ h9 => h9) rfl (by decide +kernel) rfl rfl (Nat.le_of_ble_eq_true rfl) dX12_go_46 (fun H locs hP hD hS => ?_)
      have hP : va_P D vwCl [(h0, .inr (11, [.int h0_thrown, .ref h0_tape, .int h0_taped, .int h0_size, .int h0_limit, .int x_4020, .int h0_from, .int h0_kind, .int h0_number, .int h0_sign, .int h0_fault, .int h0_place, .long h0_word, .int h0_told, .ref h0_now, .ref h0_read, .ref h0_kept, .ref h0_snaps, .ref h0_aside, .ref h0_name, .ref h0_readName, .ref h0_keptName, .ref h0_isKept, .ref h0_onces, .int h0_snapMany, .int h0_lowest, .int h0_highest, .int h0_agreed, .int h0_jurors, .int h0_panelled, .ref h0_inSets, .int h0_surely, .int h0_asked, .ref h0_frees, .int h0_struck, .int h0_beating, .ref h0_text, .int h0_texts, .int h0_seed, .ref h0_line, .ref h0_written, .int h0_lineMany, .int h0_hasWritten, .ref h0_node, .int h0_nodes, .int h0_onesMany, .int h0_within, .int h0_top])), (aI ca h0_tape 940 F_h0_tape)] H := hP
      have hD : va_D A [(h0, .inr (11, [.int h0_thrown, .ref h0_tape, .int h0_taped, .int h0_size, .int h0_limit, .int x_4020, .int h0_from, .int h0_kind, .int h0_number, .int h0_sign, .int h0_fault, .int h0_place, .long h0_word, .int h0_told, .ref h0_now, .ref h0_read, .ref h0_kept, .ref h0_snaps, .ref h0_aside, .ref h0_name, .ref h0_readName, .ref h0_keptName, .ref h0_isKept, .ref h0_onces, .int h0_snapMany, .int h0_lowest, .int h0_highest, .int h0_agreed, .int h0_jurors, .int h0_panelled, .ref h0_inSets, .int h0_surely, .int h0_asked, .ref h0_frees, .int h0_struck, .int h0_beating, .ref h0_text, .int h0_texts, .int h0_seed, .ref h0_line, .ref h0_written, .int h0_lineMany, .int h0_hasWritten, .ref h0_node, .int h0_nodes, .int h0_onesMany, .int h0_within, .int h0_top])), (aI ca h0_tape 940 F_h0_tape)] := hD
      refine lv_goto (tgt := 0) hx hb dX12_go_49 (by decide) ?_
      exact J0_3961 940 x_4020 trivial h_4021 (rlm (by have q0 := lqe l_4022; omega)) h_4012 h_4011 o_4010 (by have q0 := h_4021.1; omega) hY H locs ls (oPsub hP [0, 1] rfl) (hD.sub [0, 1] (by decide) rfl) hS (lv_sub hl [0] rfl)
    · skip
      have hY := hY.trans (if_neg c_4015)
      refine lv_aload_n hx hb dX12_go_25 rfl (lv_at hl 0 rfl) ?_
      refine va_get (D := D) (ci := 11) (v := .ref h0_tape) (C := RX12) (T := TX12) (N := 48) hx hb hts k2 hown hK.1 hP 0 rfl rfl 1 (by decide) k5 (fun _ h9 => h9) rfl dX12_go_26 ?_
      refine lv_aload_n hx hb dX12_go_29 rfl (lv_at hl 0 rfl) ?_
      refine va_get (D := D) (ci := 11) (v := .int h0_to) (C := RX12) (T := TX12) (N := 48) hx hb hts k2 hown hK.1 hP 0 rfl rfl 5 (by decide) k3 (fun _ h9 => h9) rfl dX12_go_30 ?_
      refine va_iald hx hb hK.1 hP 1 0 rfl rfl (rg_in h_4011 (by decide) (by decide)) dX12_go_33 ?_
      refine oti x_4013 ex_4013.symm ?_
      refine lv_bipush (v := 10) hx hb dX12_go_34 (by decide) ?_
      refine lv_icmp_ne (tgt := 52) hx hb dX12_go_36 (by decide) (fun c_4023 => ?_) (fun c_4023 => ?_)
      · skip
        have hY := hY.trans (if_neg c_4023)
        exact J52_3950 h0_to (rgw (lo := 0) (hi := 940) h_4011 (by decide) (by decide)) (rlm (by omega)) hY H locs ls (oPsub hP [0, 1] rfl) (hD.sub [0, 1] (by decide) rfl) hS (lv_sub hl [0] rfl)
      · skip
        have hY := hY.trans (if_pos c_4023)
        have o_4024 : rl 0 x_4013 10 := rl_eq c_4023
        have h_4025 : rg 0 10 x_4013 := rl_x o_4024 h_4014 (⟨by decide, by decide⟩ : rg 10 10 (10 : Int32)) (by decide) (by decide)
        have o_4026 : rl 0 10 x_4013 := rl_eq c_4023.symm
        have h_4027 : rg 10 10 x_4013 := rl_y o_4026 (⟨by decide, by decide⟩ : rg 10 10 (10 : Int32)) h_4025 (by decide) (by decide)
        refine lv_aload_n hx hb dX12_go_39 rfl (lv_at hl 0 rfl) ?_
        refine lv_dup hx hb dX12_go_40 rfl ?_
        refine va_get (D := D) (ci := 11) (v := .int h0_to) (C := RX12) (T := TX12) (N := 48) hx hb hts k2 hown hK.1 hP 0 rfl rfl 5 (by decide) k3 (fun _ h9 => h9) rfl dX12_go_41 ?_
        refine lv_iconst (v := 1) hx hb dX12_go_44 (by decide) ?_
        refine lv_iadd hx hb dX12_go_45 ?_
        refine lv_topi (fun x_4028 ex_4028 => ?_)
        have hY := hY.trans (lt1_e ex_4028)
        have h_4029 : rg 1 940 x_4028 := by rw [ex_4028]; exact rg_add h_4011 (⟨by decide, by decide⟩ : rg 1 1 (1 : Int32)) (by decide) (by decide) (by decide) (by decide)
        have l_4030 : lq x_4028.toInt (h0_to.toInt + 1) := lqm (by rw [ex_4028]; have q := tadd h_4011 (⟨by decide, by decide⟩ : rg 1 1 (1 : Int32)) (by decide) (by decide); have r1 := lqe (lqm (by decide) : lq (1 : Int32).toInt 1); omega)
        refine va_put (D := D) (ci := 11) (v := .int x_4028) (ty := .int) (C := RX12) (T := TX12) (N := 48) hx hb hts k2 tyX12 tyX12_ok nmX12 hown hK.1 hP hD hS 0 rfl rfl 5 (by decide) k3 (fun _ h9 => h9) rfl (by decide +kernel) rfl rfl (Nat.le_of_ble_eq_true rfl) dX12_go_46 (fun H locs hP hD hS => ?_)
        have hP : va_P D vwCl [(h0, .inr (11, [.int h0_thrown, .ref h0_tape, .int h0_taped, .int h0_size, .int h0_limit, .int x_4028, .int h0_from, .int h0_kind, .int h0_number, .int h0_sign, .int h0_fault, .int h0_place, .long h0_word, .int h0_told, .ref h0_now, .ref h0_read, .ref h0_kept, .ref h0_snaps, .ref h0_aside, .ref h0_name, .ref h0_readName, .ref h0_keptName, .ref h0_isKept, .ref h0_onces, .int h0_snapMany, .int h0_lowest, .int h0_highest, .int h0_agreed, .int h0_jurors, .int h0_panelled, .ref h0_inSets, .int h0_surely, .int h0_asked, .ref h0_frees, .int h0_struck, .int h0_beating, .ref h0_text, .int h0_texts, .int h0_seed, .ref h0_line, .ref h0_written, .int h0_lineMany, .int h0_hasWritten, .ref h0_node, .int h0_nodes, .int h0_onesMany, .int h0_within, .int h0_top])), (aI ca h0_tape 940 F_h0_tape)] H := hP
        have hD : va_D A [(h0, .inr (11, [.int h0_thrown, .ref h0_tape, .int h0_taped, .int h0_size, .int h0_limit, .int x_4028, .int h0_from, .int h0_kind, .int h0_number, .int h0_sign, .int h0_fault, .int h0_place, .long h0_word, .int h0_told, .ref h0_now, .ref h0_read, .ref h0_kept, .ref h0_snaps, .ref h0_aside, .ref h0_name, .ref h0_readName, .ref h0_keptName, .ref h0_isKept, .ref h0_onces, .int h0_snapMany, .int h0_lowest, .int h0_highest, .int h0_agreed, .int h0_jurors, .int h0_panelled, .ref h0_inSets, .int h0_surely, .int h0_asked, .ref h0_frees, .int h0_struck, .int h0_beating, .ref h0_text, .int h0_texts, .int h0_seed, .ref h0_line, .ref h0_written, .int h0_lineMany, .int h0_hasWritten, .ref h0_node, .int h0_nodes, .int h0_onesMany, .int h0_within, .int h0_top])), (aI ca h0_tape 940 F_h0_tape)] := hD
        refine lv_goto (tgt := 0) hx hb dX12_go_49 (by decide) ?_
        exact J0_3961 940 x_4028 trivial h_4029 (rlm (by have q0 := lqe l_4030; omega)) h_4012 h_4011 o_4010 (by have q0 := h_4029.1; omega) hY H locs ls (oPsub hP [0, 1] rfl) (hD.sub [0, 1] (by decide) rfl) hS (lv_sub hl [0] rfl)
