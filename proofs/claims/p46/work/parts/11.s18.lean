theorem dX12_end_0 : decode cX12_end 0 = .ok (.aload_n 0, 1) := by decide +kernel
theorem dX12_end_1 : decode cX12_end 1 = .ok (.iconst 0, 1) := by decide +kernel
theorem dX12_end_2 : decode cX12_end 2 = .ok (.putfield 1, 3) := by decide +kernel
theorem dX12_end_5 : decode cX12_end 5 = .ok (.iload_n 1, 1) := by decide +kernel
theorem dX12_end_6 : decode cX12_end 6 = .ok (.ifCond .lt 11, 3) := by decide +kernel
theorem dX12_end_9 : decode cX12_end 9 = .ok (.iload_n 1, 1) := by decide +kernel
theorem dX12_end_10 : decode cX12_end 10 = .ok (.aload_n 0, 1) := by decide +kernel
theorem dX12_end_11 : decode cX12_end 11 = .ok (.getfield 11, 3) := by decide +kernel
theorem dX12_end_14 : decode cX12_end 14 = .ok (.if_icmp .le 5, 3) := by decide +kernel
theorem dX12_end_17 : decode cX12_end 17 = .ok (.iconst 0, 1) := by decide +kernel
theorem dX12_end_18 : decode cX12_end 18 = .ok (.ireturn, 1) := by decide +kernel
theorem dX12_end_19 : decode cX12_end 19 = .ok (.aload_n 0, 1) := by decide +kernel
theorem dX12_end_20 : decode cX12_end 20 = .ok (.iload_n 1, 1) := by decide +kernel
theorem dX12_end_21 : decode cX12_end 21 = .ok (.putfield 11, 3) := by decide +kernel
theorem dX12_end_24 : decode cX12_end 24 = .ok (.iconst 1, 1) := by decide +kernel
theorem dX12_end_25 : decode cX12_end 25 = .ok (.ireturn, 1) := by decide +kernel
set_option maxHeartbeats 4000000 in
set_option maxRecDepth 100000 in
theorem s_X12_end (l : Launch) (D : va_G) (ca : Nat → ClassId) (sz : Nat) (h0 : Nat) (a1 : Int32) (h0_thrown : Int32) (h0_tape : Nat) (h0_taped : Int32) (h0_size : Int32) (h0_limit : Int32) (h0_to : Int32) (h0_from : Int32) (h0_kind : Int32) (h0_number : Int32) (h0_sign : Int32) (h0_fault : Int32) (h0_place : Int32) (h0_word : Int64) (h0_told : Int32) (h0_now : Nat) (h0_read : Nat) (h0_kept : Nat) (h0_snaps : Nat) (h0_aside : Nat) (h0_name : Nat) (h0_readName : Nat) (h0_keptName : Nat) (h0_isKept : Nat) (h0_onces : Nat) (h0_snapMany : Int32) (h0_lowest : Int32) (h0_highest : Int32) (h0_agreed : Int32) (h0_jurors : Int32) (h0_panelled : Int32) (h0_inSets : Nat) (h0_surely : Int32) (h0_asked : Int32) (h0_frees : Nat) (h0_struck : Int32) (h0_beating : Int32) (h0_text : Nat) (h0_texts : Int32) (h0_seed : Int32) (h0_line : Nat) (h0_written : Nat) (h0_lineMany : Int32) (h0_hasWritten : Int32) (h0_node : Nat) (h0_nodes : Int32) (h0_onesMany : Int32) (h0_within : Int32) (h0_top : Int32) (i_h0_taped : rg 0 940 h0_taped) (i_h0_size : rg 0 940 h0_size) (i_h0_to : rg 0 940 h0_to) (i_h0_kind : rg 0 4 h0_kind) (i_h0_snapMany : rg 0 8 h0_snapMany) (i_h0_texts : rg 0 64 h0_texts) (i_h0_lineMany : rg 0 40 h0_lineMany) (i_h0_hasWritten : rg 0 1 h0_hasWritten) (i_h0_nodes : rg 0 60 h0_nodes) (i_h0_onesMany : rg 0 20 h0_onesMany) : oMet l yX12_end wsX12_end ({ frames := 0, cells := 0, slots := 0, locals := 0 } : Room) [.ref h0, .int a1] D ca sz [(h0, .inr (11, [.int h0_thrown, .ref h0_tape, .int h0_taped, .int h0_size, .int h0_limit, .int h0_to, .int h0_from, .int h0_kind, .int h0_number, .int h0_sign, .int h0_fault, .int h0_place, .long h0_word, .int h0_told, .ref h0_now, .ref h0_read, .ref h0_kept, .ref h0_snaps, .ref h0_aside, .ref h0_name, .ref h0_readName, .ref h0_keptName, .ref h0_isKept, .ref h0_onces, .int h0_snapMany, .int h0_lowest, .int h0_highest, .int h0_agreed, .int h0_jurors, .int h0_panelled, .ref h0_inSets, .int h0_surely, .int h0_asked, .ref h0_frees, .int h0_struck, .int h0_beating, .ref h0_text, .int h0_texts, .int h0_seed, .ref h0_line, .ref h0_written, .int h0_lineMany, .int h0_hasWritten, .ref h0_node, .int h0_nodes, .int h0_onesMany, .int h0_within, .int h0_top]))] (oQi D (fun (r : Int32) (u : Int32) => ((r = 0) ∧ (rg 0 940 u) ∧ (rl 0 h0_taped u) ∧ (rl 0 u h0_taped)) ∨ ((r = 1) ∧ (rg 0 940 u) ∧ (rg 0 940 a1) ∧ (rl 0 u h0_taped) ∧ (rl 0 a1 h0_taped))) (fun (u : Int32) => [(h0, .inr (11, [.int 0, .ref h0_tape, .int u, .int h0_size, .int h0_limit, .int h0_to, .int h0_from, .int h0_kind, .int h0_number, .int h0_sign, .int h0_fault, .int h0_place, .long h0_word, .int h0_told, .ref h0_now, .ref h0_read, .ref h0_kept, .ref h0_snaps, .ref h0_aside, .ref h0_name, .ref h0_readName, .ref h0_keptName, .ref h0_isKept, .ref h0_onces, .int h0_snapMany, .int h0_lowest, .int h0_highest, .int h0_agreed, .int h0_jurors, .int h0_panelled, .ref h0_inSets, .int h0_surely, .int h0_asked, .ref h0_frees, .int h0_struck, .int h0_beating, .ref h0_text, .int h0_texts, .int h0_seed, .ref h0_line, .ref h0_written, .int h0_lineMany, .int h0_hasWritten, .ref h0_node, .int h0_nodes, .int h0_onesMany, .int h0_within, .int h0_top]))])) 0 0 := by
  refine oM (cc := cX12_end) (maxL := 2) (ret := (some .boolean)) (by decide) rfl (Nat.le_of_ble_eq_true rfl) [(0, .ref h0), (1, .int a1)] rfl ?_
  intro p e s m below meth c A H locs ls hx hb hr hml hts hown hlocks hin hK hP hD hA hS hl
  have hown : s.vm.findClass RX12 = some m.cls := hown
  have k1 := hts (.fieldLink RX12 1 "LidCourtModel" "thrown" "I") (by decide +kernel)
  have k2 : ∀ w ∈ wsX120, w ∈ wsX12_end := fun _ h => List.mem_cons_of_mem _ (List.mem_append_right _ h)
  have k3 := hts (.fieldLink RX12 11 "LidCourtModel" "taped" "I") (by decide +kernel)
  refine lv_aload_n hx hb dX12_end_0 rfl (lv_at hl 0 rfl) ?_
  refine lv_iconst (v := 0) hx hb dX12_end_1 (by decide) ?_
  refine va_put (D := D) (ci := 11) (v := .int 0) (ty := .int) (C := RX12) (T := TX12) (N := 48) hx hb hts k2 tyX12 tyX12_ok nmX12 hown hK.1 hP hD hS 0 rfl rfl 0 (by decide) k1 (fun _ h9 => h9) rfl (by decide +kernel) rfl rfl (Nat.le_of_ble_eq_true rfl) dX12_end_2 (fun H locs hP hD hS => ?_)
  have hP : va_P D vwCl [(h0, .inr (11, [.int 0, .ref h0_tape, .int h0_taped, .int h0_size, .int h0_limit, .int h0_to, .int h0_from, .int h0_kind, .int h0_number, .int h0_sign, .int h0_fault, .int h0_place, .long h0_word, .int h0_told, .ref h0_now, .ref h0_read, .ref h0_kept, .ref h0_snaps, .ref h0_aside, .ref h0_name, .ref h0_readName, .ref h0_keptName, .ref h0_isKept, .ref h0_onces, .int h0_snapMany, .int h0_lowest, .int h0_highest, .int h0_agreed, .int h0_jurors, .int h0_panelled, .ref h0_inSets, .int h0_surely, .int h0_asked, .ref h0_frees, .int h0_struck, .int h0_beating, .ref h0_text, .int h0_texts, .int h0_seed, .ref h0_line, .ref h0_written, .int h0_lineMany, .int h0_hasWritten, .ref h0_node, .int h0_nodes, .int h0_onesMany, .int h0_within, .int h0_top]))] H := hP
  have hD : va_D A [(h0, .inr (11, [.int 0, .ref h0_tape, .int h0_taped, .int h0_size, .int h0_limit, .int h0_to, .int h0_from, .int h0_kind, .int h0_number, .int h0_sign, .int h0_fault, .int h0_place, .long h0_word, .int h0_told, .ref h0_now, .ref h0_read, .ref h0_kept, .ref h0_snaps, .ref h0_aside, .ref h0_name, .ref h0_readName, .ref h0_keptName, .ref h0_isKept, .ref h0_onces, .int h0_snapMany, .int h0_lowest, .int h0_highest, .int h0_agreed, .int h0_jurors, .int h0_panelled, .ref h0_inSets, .int h0_surely, .int h0_asked, .ref h0_frees, .int h0_struck, .int h0_beating, .ref h0_text, .int h0_texts, .int h0_seed, .ref h0_line, .ref h0_written, .int h0_lineMany, .int h0_hasWritten, .ref h0_node, .int h0_nodes, .int h0_onesMany, .int h0_within, .int h0_top]))] := hD
  refine lv_iload_n hx hb dX12_end_5 rfl (lv_at hl 1 rfl) ?_
  refine lv_if_lt (tgt := 17) hx hb dX12_end_6 (by decide) (fun c_11 => ?_) (fun c_11 => ?_)
  · skip
    have o_12 : rl 1 a1 0 := rl_lt c_11
    have h_13 : rg (-2147483648) (-1) a1 := rl_x o_12 (rga a1) (⟨by decide, by decide⟩ : rg 0 0 (0 : Int32)) (by decide) (by decide)
    refine lv_iconst (v := 0) hx hb dX12_end_17 (by decide) ?_
    exact oE_i hx hb hr (by decide) hlocks hP hD hS h0_taped [0] rfl (by decide) (Or.inl ⟨rfl, i_h0_taped, (show rl 0 h0_taped h0_taped from rlm (by omega)), (show rl 0 h0_taped h0_taped from rlm (by omega))⟩) (Nat.le_of_ble_eq_true rfl) (Nat.le_of_ble_eq_true rfl) dX12_end_18
  · skip
    have o_14 : rl 0 0 a1 := rl_nlt c_11
    have h_15 : rg 0 2147483647 a1 := rl_y o_14 (⟨by decide, by decide⟩ : rg 0 0 (0 : Int32)) (rga a1) (by decide) (by decide)
    refine lv_iload_n hx hb dX12_end_9 rfl (lv_at hl 1 rfl) ?_
    refine lv_aload_n hx hb dX12_end_10 rfl (lv_at hl 0 rfl) ?_
    refine va_get (D := D) (ci := 11) (v := .int h0_taped) (C := RX12) (T := TX12) (N := 48) hx hb hts k2 hown hK.1 hP 0 rfl rfl 2 (by decide) k3 (fun _ h9 => h9) rfl dX12_end_11 ?_
    refine lv_icmp_le (tgt := 19) hx hb dX12_end_14 (by decide) (fun c_16 => ?_) (fun c_16 => ?_)
    · skip
      have o_17 : rl 0 a1 h0_taped := rl_le c_16
      have h_18 : rg 0 940 a1 := rl_x o_17 h_15 i_h0_taped (by decide) (by decide)
      refine lv_aload_n hx hb dX12_end_19 rfl (lv_at hl 0 rfl) ?_
      refine lv_iload_n hx hb dX12_end_20 rfl (lv_at hl 1 rfl) ?_
      refine va_put (D := D) (ci := 11) (v := .int a1) (ty := .int) (C := RX12) (T := TX12) (N := 48) hx hb hts k2 tyX12 tyX12_ok nmX12 hown hK.1 hP hD hS 0 rfl rfl 2 (by decide) k3 (fun _ h9 => h9) rfl (by decide +kernel) rfl rfl (Nat.le_of_ble_eq_true rfl) dX12_end_21 (fun H locs hP hD hS => ?_)
      have hP : va_P D vwCl [(h0, .inr (11, [.int 0, .ref h0_tape, .int a1, .int h0_size, .int h0_limit, .int h0_to, .int h0_from, .int h0_kind, .int h0_number, .int h0_sign, .int h0_fault, .int h0_place, .long h0_word, .int h0_told, .ref h0_now, .ref h0_read, .ref h0_kept, .ref h0_snaps, .ref h0_aside, .ref h0_name, .ref h0_readName, .ref h0_keptName, .ref h0_isKept, .ref h0_onces, .int h0_snapMany, .int h0_lowest, .int h0_highest, .int h0_agreed, .int h0_jurors, .int h0_panelled, .ref h0_inSets, .int h0_surely, .int h0_asked, .ref h0_frees, .int h0_struck, .int h0_beating, .ref h0_text, .int h0_texts, .int h0_seed, .ref h0_line, .ref h0_written, .int h0_lineMany, .int h0_hasWritten, .ref h0_node, .int h0_nodes, .int h0_onesMany, .int h0_within, .int h0_top]))] H := hP
      have hD : va_D A [(h0, .inr (11, [.int 0, .ref h0_tape, .int a1, .int h0_size, .int h0_limit, .int h0_to, .int h0_from, .int h0_kind, .int h0_number, .int h0_sign, .int h0_fault, .int h0_place, .long h0_word, .int h0_told, .ref h0_now, .ref h0_read, .ref h0_kept, .ref h0_snaps, .ref h0_aside, .ref h0_name, .ref h0_readName, .ref h0_keptName, .ref h0_isKept, .ref h0_onces, .int h0_snapMany, .int h0_lowest, .int h0_highest, .int h0_agreed, .int h0_jurors, .int h0_panelled, .ref h0_inSets, .int h0_surely, .int h0_asked, .ref h0_frees, .int h0_struck, .int h0_beating, .ref h0_text, .int h0_texts, .int h0_seed, .ref h0_line, .ref h0_written, .int h0_lineMany, .int h0_hasWritten, .ref h0_node, .int h0_nodes, .int h0_onesMany, .int h0_within, .int h0_top]))] := hD
      refine lv_iconst (v := 1) hx hb dX12_end_24 (by decide) ?_
      exact oE_i hx hb hr (by decide) hlocks hP hD hS a1 [0] rfl (by decide) (Or.inr (⟨rfl, h_18, h_18, (show rl 0 a1 h0_taped from rlm (by have q0 := rle o_17; omega)), (show rl 0 a1 h0_taped from rlm (by have q0 := rle o_17; omega))⟩)) (Nat.le_of_ble_eq_true rfl) (Nat.le_of_ble_eq_true rfl) dX12_end_25
    · skip
      have o_19 : rl 1 h0_taped a1 := rl_nle c_16
      have h_20 : rg 1 2147483647 a1 := rl_y o_19 i_h0_taped h_15 (by decide) (by decide)
      refine lv_iconst (v := 0) hx hb dX12_end_17 (by decide) ?_
      exact oE_i hx hb hr (by decide) hlocks hP hD hS h0_taped [0] rfl (by decide) (Or.inl ⟨rfl, i_h0_taped, (show rl 0 h0_taped h0_taped from rlm (by omega)), (show rl 0 h0_taped h0_taped from rlm (by omega))⟩) (Nat.le_of_ble_eq_true rfl) (Nat.le_of_ble_eq_true rfl) dX12_end_18
theorem dX12_take_0 : decode cX12_take 0 = .ok (.aload_n 0, 1) := by decide +kernel
theorem dX12_take_1 : decode cX12_take 1 = .ok (.getfield 11, 3) := by decide +kernel
theorem dX12_take_4 : decode cX12_take 4 = .ok (.istore_n 1, 1) := by decide +kernel
theorem dX12_take_5 : decode cX12_take 5 = .ok (.aload_n 0, 1) := by decide +kernel
theorem dX12_take_6 : decode cX12_take 6 = .ok (.iconst 0, 1) := by decide +kernel
theorem dX12_take_7 : decode cX12_take 7 = .ok (.putfield 11, 3) := by decide +kernel
theorem dX12_take_10 : decode cX12_take 10 = .ok (.iload_n 1, 1) := by decide +kernel
theorem dX12_take_11 : decode cX12_take 11 = .ok (.ireturn, 1) := by decide +kernel
set_option maxHeartbeats 4000000 in
set_option maxRecDepth 100000 in
theorem s_X12_take (l : Launch) (D : va_G) (ca : Nat → ClassId) (sz : Nat) (h0 : Nat) (h0_thrown : Int32) (h0_tape : Nat) (h0_taped : Int32) (h0_size : Int32) (h0_limit : Int32) (h0_to : Int32) (h0_from : Int32) (h0_kind : Int32) (h0_number : Int32) (h0_sign : Int32) (h0_fault : Int32) (h0_place : Int32) (h0_word : Int64) (h0_told : Int32) (h0_now : Nat) (h0_read : Nat) (h0_kept : Nat) (h0_snaps : Nat) (h0_aside : Nat) (h0_name : Nat) (h0_readName : Nat) (h0_keptName : Nat) (h0_isKept : Nat) (h0_onces : Nat) (h0_snapMany : Int32) (h0_lowest : Int32) (h0_highest : Int32) (h0_agreed : Int32) (h0_jurors : Int32) (h0_panelled : Int32) (h0_inSets : Nat) (h0_surely : Int32) (h0_asked : Int32) (h0_frees : Nat) (h0_struck : Int32) (h0_beating : Int32) (h0_text : Nat) (h0_texts : Int32) (h0_seed : Int32) (h0_line : Nat) (h0_written : Nat) (h0_lineMany : Int32) (h0_hasWritten : Int32) (h0_node : Nat) (h0_nodes : Int32) (h0_onesMany : Int32) (h0_within : Int32) (h0_top : Int32) (i_h0_taped : rg 0 940 h0_taped) (i_h0_size : rg 0 940 h0_size) (i_h0_to : rg 0 940 h0_to) (i_h0_kind : rg 0 4 h0_kind) (i_h0_snapMany : rg 0 8 h0_snapMany) (i_h0_texts : rg 0 64 h0_texts) (i_h0_lineMany : rg 0 40 h0_lineMany) (i_h0_hasWritten : rg 0 1 h0_hasWritten) (i_h0_nodes : rg 0 60 h0_nodes) (i_h0_onesMany : rg 0 20 h0_onesMany) : oMet l yX12_take wsX12_take ({ frames := 0, cells := 0, slots := 0, locals := 0 } : Room) [.ref h0] D ca sz [(h0, .inr (11, [.int h0_thrown, .ref h0_tape, .int h0_taped, .int h0_size, .int h0_limit, .int h0_to, .int h0_from, .int h0_kind, .int h0_number, .int h0_sign, .int h0_fault, .int h0_place, .long h0_word, .int h0_told, .ref h0_now, .ref h0_read, .ref h0_kept, .ref h0_snaps, .ref h0_aside, .ref h0_name, .ref h0_readName, .ref h0_keptName, .ref h0_isKept, .ref h0_onces, .int h0_snapMany, .int h0_lowest, .int h0_highest, .int h0_agreed, .int h0_jurors, .int h0_panelled, .ref h0_inSets, .int h0_surely, .int h0_asked, .ref h0_frees, .int h0_struck, .int h0_beating, .ref h0_text, .int h0_texts, .int h0_seed, .ref h0_line, .ref h0_written, .int h0_lineMany, .int h0_hasWritten, .ref h0_node, .int h0_nodes, .int h0_onesMany, .int h0_within, .int h0_top]))] (oQi D (fun (r : Int32) (u : Unit) => (r = h0_taped) ∧ (rl 0 h0_taped r) ∧ (rl 0 r h0_taped)) (fun (u : Unit) => [(h0, .inr (11, [.int h0_thrown, .ref h0_tape, .int 0, .int h0_size, .int h0_limit, .int h0_to, .int h0_from, .int h0_kind, .int h0_number, .int h0_sign, .int h0_fault, .int h0_place, .long h0_word, .int h0_told, .ref h0_now, .ref h0_read, .ref h0_kept, .ref h0_snaps, .ref h0_aside, .ref h0_name, .ref h0_readName, .ref h0_keptName, .ref h0_isKept, .ref h0_onces, .int h0_snapMany, .int h0_lowest, .int h0_highest, .int h0_agreed, .int h0_jurors, .int h0_panelled, .ref h0_inSets, .int h0_surely, .int h0_asked, .ref h0_frees, .int h0_struck, .int h0_beating, .ref h0_text, .int h0_texts, .int h0_seed, .ref h0_line, .ref h0_written, .int h0_lineMany, .int h0_hasWritten, .ref h0_node, .int h0_nodes, .int h0_onesMany, .int h0_within, .int h0_top]))])) 0 0 := by
  refine oM (cc := cX12_take) (maxL := 2) (ret := (some .int)) (by decide) rfl (Nat.le_of_ble_eq_true rfl) [(0, .ref h0)] rfl ?_
  intro p e s m below meth c A H locs ls hx hb hr hml hts hown hlocks hin hK hP hD hA hS hl
  have hown : s.vm.findClass RX12 = some m.cls := hown
  have k1 := hts (.fieldLink RX12 11 "LidCourtModel" "taped" "I") (by decide +kernel)
  have k2 : ∀ w ∈ wsX120, w ∈ wsX12_take := fun _ h => List.mem_cons_of_mem _ (List.mem_append_right _ h)
  refine lv_aload_n hx hb dX12_take_0 rfl (lv_at hl 0 rfl) ?_
  refine va_get (D := D) (ci := 11) (v := .int h0_taped) (C := RX12) (T := TX12) (N := 48) hx hb hts k2 hown hK.1 hP 0 rfl rfl 2 (by decide) k1 (fun _ h9 => h9) rfl dX12_take_1 ?_
  refine lv_istore_n (lv' := [(1, .int h0_taped), (0, .ref h0)]) hx hb dX12_take_4 rfl hl (by decide) rfl (fun ls hl => ?_)
  refine lv_aload_n hx hb dX12_take_5 rfl (lv_at hl 1 rfl) ?_
  refine lv_iconst (v := 0) hx hb dX12_take_6 (by decide) ?_
  refine va_put (D := D) (ci := 11) (v := .int 0) (ty := .int) (C := RX12) (T := TX12) (N := 48) hx hb hts k2 tyX12 tyX12_ok nmX12 hown hK.1 hP hD hS 0 rfl rfl 2 (by decide) k1 (fun _ h9 => h9) rfl (by decide +kernel) rfl rfl (Nat.le_of_ble_eq_true rfl) dX12_take_7 (fun H locs hP hD hS => ?_)
  have hP : va_P D vwCl [(h0, .inr (11, [.int h0_thrown, .ref h0_tape, .int 0, .int h0_size, .int h0_limit, .int h0_to, .int h0_from, .int h0_kind, .int h0_number, .int h0_sign, .int h0_fault, .int h0_place, .long h0_word, .int h0_told, .ref h0_now, .ref h0_read, .ref h0_kept, .ref h0_snaps, .ref h0_aside, .ref h0_name, .ref h0_readName, .ref h0_keptName, .ref h0_isKept, .ref h0_onces, .int h0_snapMany, .int h0_lowest, .int h0_highest, .int h0_agreed, .int h0_jurors, .int h0_panelled, .ref h0_inSets, .int h0_surely, .int h0_asked, .ref h0_frees, .int h0_struck, .int h0_beating, .ref h0_text, .int h0_texts, .int h0_seed, .ref h0_line, .ref h0_written, .int h0_lineMany, .int h0_hasWritten, .ref h0_node, .int h0_nodes, .int h0_onesMany, .int h0_within, .int h0_top]))] H := hP
  have hD : va_D A [(h0, .inr (11, [.int h0_thrown, .ref h0_tape, .int 0, .int h0_size, .int h0_limit, .int h0_to, .int h0_from, .int h0_kind, .int h0_number, .int h0_sign, .int h0_fault, .int h0_place, .long h0_word, .int h0_told, .ref h0_now, .ref h0_read, .ref h0_kept, .ref h0_snaps, .ref h0_aside, .ref h0_name, .ref h0_readName, .ref h0_keptName, .ref h0_isKept, .ref h0_onces, .int h0_snapMany, .int h0_lowest, .int h0_highest, .int h0_agreed, .int h0_jurors, .int h0_panelled, .ref h0_inSets, .int h0_surely, .int h0_asked, .ref h0_frees, .int h0_struck, .int h0_beating, .ref h0_text, .int h0_texts, .int h0_seed, .ref h0_line, .ref h0_written, .int h0_lineMany, .int h0_hasWritten, .ref h0_node, .int h0_nodes, .int h0_onesMany, .int h0_within, .int h0_top]))] := hD
  refine lv_iload_n hx hb dX12_take_10 rfl (lv_at hl 0 rfl) ?_
  exact oE_i hx hb hr rfl hlocks hP hD hS () [0] rfl (by decide) ⟨rfl, (show rl 0 h0_taped h0_taped from rlm (by omega)), (show rl 0 h0_taped h0_taped from rlm (by omega))⟩ (Nat.le_of_ble_eq_true rfl) (Nat.le_of_ble_eq_true rfl) dX12_take_11
theorem dX12_isLetter_0 : decode cX12_isLetter 0 = .ok (.iload_n 0, 1) := by decide +kernel
theorem dX12_isLetter_1 : decode cX12_isLetter 1 = .ok (.bipush 97, 2) := by decide +kernel
theorem dX12_isLetter_3 : decode cX12_isLetter 3 = .ok (.if_icmp .lt 13, 3) := by decide +kernel
theorem dX12_isLetter_6 : decode cX12_isLetter 6 = .ok (.iload_n 0, 1) := by decide +kernel
theorem dX12_isLetter_7 : decode cX12_isLetter 7 = .ok (.bipush 122, 2) := by decide +kernel
theorem dX12_isLetter_9 : decode cX12_isLetter 9 = .ok (.if_icmp .gt 7, 3) := by decide +kernel
theorem dX12_isLetter_12 : decode cX12_isLetter 12 = .ok (.iconst 1, 1) := by decide +kernel
theorem dX12_isLetter_13 : decode cX12_isLetter 13 = .ok (.goto 4, 3) := by decide +kernel
theorem dX12_isLetter_16 : decode cX12_isLetter 16 = .ok (.iconst 0, 1) := by decide +kernel
theorem dX12_isLetter_17 : decode cX12_isLetter 17 = .ok (.ireturn, 1) := by decide +kernel
set_option maxHeartbeats 4000000 in
set_option maxRecDepth 100000 in
theorem s_X12_isLetter (l : Launch) (D : va_G) (ca : Nat → ClassId) (sz : Nat) (a1 : Int32)  : oMet l yX12_isLetter wsX12_isLetter ({ frames := 0, cells := 0, slots := 0, locals := 0 } : Room) [.int a1] D ca sz [] (oQi D (fun (r : Int32) (u : Unit) => ((r = 0) ∧ (rg (-2147483648) 96 a1)) ∨ ((r = 0) ∧ (rg 123 2147483647 a1)) ∨ ((r = 1) ∧ (rg 97 122 a1))) (fun (u : Unit) => [])) 0 0 := by
  refine oM (cc := cX12_isLetter) (maxL := 1) (ret := (some .boolean)) (by decide) rfl (Nat.le_of_ble_eq_true rfl) [(0, .int a1)] rfl ?_
  intro p e s m below meth c A H locs ls hx hb hr hml hts hown hlocks hin hK hP hD hA hS hl
  have hown : s.vm.findClass RX12 = some m.cls := hown
  refine lv_iload_n hx hb dX12_isLetter_0 rfl (lv_at hl 0 rfl) ?_
  refine lv_bipush (v := 97) hx hb dX12_isLetter_1 (by decide) ?_
  refine lv_icmp_lt (tgt := 16) hx hb dX12_isLetter_3 (by decide) (fun c_11 => ?_) (fun c_11 => ?_)
  · skip
    have o_12 : rl 1 a1 97 := rl_lt c_11
    have h_13 : rg (-2147483648) 96 a1 := rl_x o_12 (rga a1) (⟨by decide, by decide⟩ : rg 97 97 (97 : Int32)) (by decide) (by decide)
    refine lv_iconst (v := 0) hx hb dX12_isLetter_16 (by decide) ?_
    exact oE_i hx hb hr (by decide) hlocks hP hD hS () [] rfl (by decide) (Or.inl ⟨rfl, h_13⟩) (Nat.le_of_ble_eq_true rfl) (Nat.le_of_ble_eq_true rfl) dX12_isLetter_17
  · skip
    have o_14 : rl 0 97 a1 := rl_nlt c_11
    have h_15 : rg 97 2147483647 a1 := rl_y o_14 (⟨by decide, by decide⟩ : rg 97 97 (97 : Int32)) (rga a1) (by decide) (by decide)
    refine lv_iload_n hx hb dX12_isLetter_6 rfl (lv_at hl 0 rfl) ?_
    refine lv_bipush (v := 122) hx hb dX12_isLetter_7 (by decide) ?_
    refine lv_icmp_gt (tgt := 16) hx hb dX12_isLetter_9 (by decide) (fun c_16 => ?_) (fun c_16 => ?_)
    · skip
      have o_17 : rl 1 122 a1 := rl_lt c_16
      have h_18 : rg 123 2147483647 a1 := rl_y o_17 (⟨by decide, by decide⟩ : rg 122 122 (122 : Int32)) h_15 (by decide) (by decide)
      refine lv_iconst (v := 0) hx hb dX12_isLetter_16 (by decide) ?_
      exact oE_i hx hb hr (by decide) hlocks hP hD hS () [] rfl (by decide) (Or.inr (Or.inl ⟨rfl, h_18⟩)) (Nat.le_of_ble_eq_true rfl) (Nat.le_of_ble_eq_true rfl) dX12_isLetter_17
    · skip
      have o_19 : rl 0 a1 122 := rl_nlt c_16
      have h_20 : rg 97 122 a1 := rl_x o_19 h_15 (⟨by decide, by decide⟩ : rg 122 122 (122 : Int32)) (by decide) (by decide)
      refine lv_iconst (v := 1) hx hb dX12_isLetter_12 (by decide) ?_
      refine lv_goto (tgt := 17) hx hb dX12_isLetter_13 (by decide) ?_
      exact oE_i hx hb hr (by decide) hlocks hP hD hS () [] rfl (by decide) (Or.inr (Or.inr (⟨rfl, h_20⟩))) (Nat.le_of_ble_eq_true rfl) (Nat.le_of_ble_eq_true rfl) dX12_isLetter_17
theorem dX12_isDigit_0 : decode cX12_isDigit 0 = .ok (.iload_n 0, 1) := by decide +kernel
theorem dX12_isDigit_1 : decode cX12_isDigit 1 = .ok (.bipush 48, 2) := by decide +kernel
theorem dX12_isDigit_3 : decode cX12_isDigit 3 = .ok (.if_icmp .lt 13, 3) := by decide +kernel
theorem dX12_isDigit_6 : decode cX12_isDigit 6 = .ok (.iload_n 0, 1) := by decide +kernel
theorem dX12_isDigit_7 : decode cX12_isDigit 7 = .ok (.bipush 57, 2) := by decide +kernel
theorem dX12_isDigit_9 : decode cX12_isDigit 9 = .ok (.if_icmp .gt 7, 3) := by decide +kernel
theorem dX12_isDigit_12 : decode cX12_isDigit 12 = .ok (.iconst 1, 1) := by decide +kernel
theorem dX12_isDigit_13 : decode cX12_isDigit 13 = .ok (.goto 4, 3) := by decide +kernel
theorem dX12_isDigit_16 : decode cX12_isDigit 16 = .ok (.iconst 0, 1) := by decide +kernel
theorem dX12_isDigit_17 : decode cX12_isDigit 17 = .ok (.ireturn, 1) := by decide +kernel
set_option maxHeartbeats 4000000 in
set_option maxRecDepth 100000 in
theorem s_X12_isDigit (l : Launch) (D : va_G) (ca : Nat → ClassId) (sz : Nat) (a1 : Int32)  : oMet l yX12_isDigit wsX12_isDigit ({ frames := 0, cells := 0, slots := 0, locals := 0 } : Room) [.int a1] D ca sz [] (oQi D (fun (r : Int32) (u : Unit) => ((r = 0) ∧ (rg (-2147483648) 47 a1)) ∨ ((r = 0) ∧ (rg 58 2147483647 a1)) ∨ ((r = 1) ∧ (rg 48 57 a1))) (fun (u : Unit) => [])) 0 0 := by
  refine oM (cc := cX12_isDigit) (maxL := 1) (ret := (some .boolean)) (by decide) rfl (Nat.le_of_ble_eq_true rfl) [(0, .int a1)] rfl ?_
  intro p e s m below meth c A H locs ls hx hb hr hml hts hown hlocks hin hK hP hD hA hS hl
  have hown : s.vm.findClass RX12 = some m.cls := hown
  refine lv_iload_n hx hb dX12_isDigit_0 rfl (lv_at hl 0 rfl) ?_
  refine lv_bipush (v := 48) hx hb dX12_isDigit_1 (by decide) ?_
  refine lv_icmp_lt (tgt := 16) hx hb dX12_isDigit_3 (by decide) (fun c_11 => ?_) (fun c_11 => ?_)
  · skip
    have o_12 : rl 1 a1 48 := rl_lt c_11
    have h_13 : rg (-2147483648) 47 a1 := rl_x o_12 (rga a1) (⟨by decide, by decide⟩ : rg 48 48 (48 : Int32)) (by decide) (by decide)
    refine lv_iconst (v := 0) hx hb dX12_isDigit_16 (by decide) ?_
    exact oE_i hx hb hr (by decide) hlocks hP hD hS () [] rfl (by decide) (Or.inl ⟨rfl, h_13⟩) (Nat.le_of_ble_eq_true rfl) (Nat.le_of_ble_eq_true rfl) dX12_isDigit_17
  · skip
    have o_14 : rl 0 48 a1 := rl_nlt c_11
    have h_15 : rg 48 2147483647 a1 := rl_y o_14 (⟨by decide, by decide⟩ : rg 48 48 (48 : Int32)) (rga a1) (by decide) (by decide)
    refine lv_iload_n hx hb dX12_isDigit_6 rfl (lv_at hl 0 rfl) ?_
    refine lv_bipush (v := 57) hx hb dX12_isDigit_7 (by decide) ?_
    refine lv_icmp_gt (tgt := 16) hx hb dX12_isDigit_9 (by decide) (fun c_16 => ?_) (fun c_16 => ?_)
    · skip
      have o_17 : rl 1 57 a1 := rl_lt c_16
      have h_18 : rg 58 2147483647 a1 := rl_y o_17 (⟨by decide, by decide⟩ : rg 57 57 (57 : Int32)) h_15 (by decide) (by decide)
      refine lv_iconst (v := 0) hx hb dX12_isDigit_16 (by decide) ?_
      exact oE_i hx hb hr (by decide) hlocks hP hD hS () [] rfl (by decide) (Or.inr (Or.inl ⟨rfl, h_18⟩)) (Nat.le_of_ble_eq_true rfl) (Nat.le_of_ble_eq_true rfl) dX12_isDigit_17
    · skip
      have o_19 : rl 0 a1 57 := rl_nlt c_16
      have h_20 : rg 48 57 a1 := rl_x o_19 h_15 (⟨by decide, by decide⟩ : rg 57 57 (57 : Int32)) (by decide) (by decide)
      refine lv_iconst (v := 1) hx hb dX12_isDigit_12 (by decide) ?_
      refine lv_goto (tgt := 17) hx hb dX12_isDigit_13 (by decide) ?_
      exact oE_i hx hb hr (by decide) hlocks hP hD hS () [] rfl (by decide) (Or.inr (Or.inr (⟨rfl, h_20⟩))) (Nat.le_of_ble_eq_true rfl) (Nat.le_of_ble_eq_true rfl) dX12_isDigit_17
theorem dX12_tapeAt_0 : decode cX12_tapeAt 0 = .ok (.iload_n 1, 1) := by decide +kernel
theorem dX12_tapeAt_1 : decode cX12_tapeAt 1 = .ok (.aload_n 0, 1) := by decide +kernel
theorem dX12_tapeAt_2 : decode cX12_tapeAt 2 = .ok (.getfield 18, 3) := by decide +kernel
theorem dX12_tapeAt_5 : decode cX12_tapeAt 5 = .ok (.if_icmp .ge 12, 3) := by decide +kernel
theorem dX12_tapeAt_8 : decode cX12_tapeAt 8 = .ok (.aload_n 0, 1) := by decide +kernel
theorem dX12_tapeAt_9 : decode cX12_tapeAt 9 = .ok (.getfield 7, 3) := by decide +kernel
theorem dX12_tapeAt_12 : decode cX12_tapeAt 12 = .ok (.iload_n 1, 1) := by decide +kernel
theorem dX12_tapeAt_13 : decode cX12_tapeAt 13 = .ok (.iaload, 1) := by decide +kernel
theorem dX12_tapeAt_14 : decode cX12_tapeAt 14 = .ok (.goto 4, 3) := by decide +kernel
theorem dX12_tapeAt_17 : decode cX12_tapeAt 17 = .ok (.iconst 0, 1) := by decide +kernel
theorem dX12_tapeAt_18 : decode cX12_tapeAt 18 = .ok (.ireturn, 1) := by decide +kernel
set_option maxHeartbeats 4000000 in
set_option maxRecDepth 100000 in
theorem s_X12_tapeAt (l : Launch) (D : va_G) (ca : Nat → ClassId) (sz : Nat) (h0 : Nat) (a1 : Int32) (h0_thrown : Int32) (h0_tape : Nat) (h0_taped : Int32) (h0_size : Int32) (h0_limit : Int32) (h0_to : Int32) (h0_from : Int32) (h0_kind : Int32) (h0_number : Int32) (h0_sign : Int32) (h0_fault : Int32) (h0_place : Int32) (h0_word : Int64) (h0_told : Int32) (h0_now : Nat) (h0_read : Nat) (h0_kept : Nat) (h0_snaps : Nat) (h0_aside : Nat) (h0_name : Nat) (h0_readName : Nat) (h0_keptName : Nat) (h0_isKept : Nat) (h0_onces : Nat) (h0_snapMany : Int32) (h0_lowest : Int32) (h0_highest : Int32) (h0_agreed : Int32) (h0_jurors : Int32) (h0_panelled : Int32) (h0_inSets : Nat) (h0_surely : Int32) (h0_asked : Int32) (h0_frees : Nat) (h0_struck : Int32) (h0_beating : Int32) (h0_text : Nat) (h0_texts : Int32) (h0_seed : Int32) (h0_line : Nat) (h0_written : Nat) (h0_lineMany : Int32) (h0_hasWritten : Int32) (h0_node : Nat) (h0_nodes : Int32) (h0_onesMany : Int32) (h0_within : Int32) (h0_top : Int32) (F_h0_tape : Nat → Int32) (i_a1 : rg 0 940 a1) (i_h0_taped : rg 0 940 h0_taped) (i_h0_size : rg 0 940 h0_size) (i_h0_to : rg 0 940 h0_to) (i_h0_kind : rg 0 4 h0_kind) (i_h0_snapMany : rg 0 8 h0_snapMany) (i_h0_texts : rg 0 64 h0_texts) (i_h0_lineMany : rg 0 40 h0_lineMany) (i_h0_hasWritten : rg 0 1 h0_hasWritten) (i_h0_nodes : rg 0 60 h0_nodes) (i_h0_onesMany : rg 0 20 h0_onesMany) (s_h0_tape_0 : sg 0 940 0 255 F_h0_tape) : oMet l yX12_tapeAt wsX12_tapeAt ({ frames := 0, cells := 0, slots := 0, locals := 0 } : Room) [.ref h0, .int a1] D ca sz [(h0, .inr (11, [.int h0_thrown, .ref h0_tape, .int h0_taped, .int h0_size, .int h0_limit, .int h0_to, .int h0_from, .int h0_kind, .int h0_number, .int h0_sign, .int h0_fault, .int h0_place, .long h0_word, .int h0_told, .ref h0_now, .ref h0_read, .ref h0_kept, .ref h0_snaps, .ref h0_aside, .ref h0_name, .ref h0_readName, .ref h0_keptName, .ref h0_isKept, .ref h0_onces, .int h0_snapMany, .int h0_lowest, .int h0_highest, .int h0_agreed, .int h0_jurors, .int h0_panelled, .ref h0_inSets, .int h0_surely, .int h0_asked, .ref h0_frees, .int h0_struck, .int h0_beating, .ref h0_text, .int h0_texts, .int h0_seed, .ref h0_line, .ref h0_written, .int h0_lineMany, .int h0_hasWritten, .ref h0_node, .int h0_nodes, .int h0_onesMany, .int h0_within, .int h0_top])), (aI ca h0_tape 940 F_h0_tape)] (oQi D (fun (r : Int32) (u : Unit) => ((r = 0) ∧ (rl 0 h0_size a1)) ∨ ((r = F_h0_tape (a1 : Int32).toNatClampNeg) ∧ (rg 0 255 r) ∧ (rg 0 939 a1) ∧ (rg 1 940 h0_size) ∧ (rl 1 a1 h0_size))) (fun (u : Unit) => [(h0, .inr (11, [.int h0_thrown, .ref h0_tape, .int h0_taped, .int h0_size, .int h0_limit, .int h0_to, .int h0_from, .int h0_kind, .int h0_number, .int h0_sign, .int h0_fault, .int h0_place, .long h0_word, .int h0_told, .ref h0_now, .ref h0_read, .ref h0_kept, .ref h0_snaps, .ref h0_aside, .ref h0_name, .ref h0_readName, .ref h0_keptName, .ref h0_isKept, .ref h0_onces, .int h0_snapMany, .int h0_lowest, .int h0_highest, .int h0_agreed, .int h0_jurors, .int h0_panelled, .ref h0_inSets, .int h0_surely, .int h0_asked, .ref h0_frees, .int h0_struck, .int h0_beating, .ref h0_text, .int h0_texts, .int h0_seed, .ref h0_line, .ref h0_written, .int h0_lineMany, .int h0_hasWritten, .ref h0_node, .int h0_nodes, .int h0_onesMany, .int h0_within, .int h0_top])), (aI ca h0_tape 940 F_h0_tape)])) 0 0 := by
  refine oM (cc := cX12_tapeAt) (maxL := 2) (ret := (some .int)) (by decide) rfl (Nat.le_of_ble_eq_true rfl) [(0, .ref h0), (1, .int a1)] rfl ?_
  intro p e s m below meth c A H locs ls hx hb hr hml hts hown hlocks hin hK hP hD hA hS hl
  have hown : s.vm.findClass RX12 = some m.cls := hown
  have k1 := hts (.fieldLink RX12 18 "LidCourtModel" "size" "I") (by decide +kernel)
  have k2 : ∀ w ∈ wsX120, w ∈ wsX12_tapeAt := fun _ h => List.mem_cons_of_mem _ (List.mem_append_right _ h)
  have k3 := hts (.fieldLink RX12 7 "LidCourtModel" "tape" "[I") (by decide +kernel)
  refine lv_iload_n hx hb dX12_tapeAt_0 rfl (lv_at hl 1 rfl) ?_
  refine lv_aload_n hx hb dX12_tapeAt_1 rfl (lv_at hl 0 rfl) ?_
  refine va_get (D := D) (ci := 11) (v := .int h0_size) (C := RX12) (T := TX12) (N := 48) hx hb hts k2 hown hK.1 hP 0 rfl rfl 3 (by decide) k1 (fun _ h9 => h9) rfl dX12_tapeAt_2 ?_
  refine lv_icmp_ge (tgt := 17) hx hb dX12_tapeAt_5 (by decide) (fun c_8 => ?_) (fun c_8 => ?_)
  · skip
    have o_9 : rl 0 h0_size a1 := rl_le c_8
    refine lv_iconst (v := 0) hx hb dX12_tapeAt_17 (by decide) ?_
    exact oE_i hx hb hr rfl hlocks hP hD hS () [0, 1] rfl (by decide) (Or.inl ⟨rfl, (show rl 0 h0_size a1 from rlm (by have q0 := rle o_9; omega))⟩) (Nat.le_of_ble_eq_true rfl) (Nat.le_of_ble_eq_true rfl) dX12_tapeAt_18
  · skip
    have o_10 : rl 1 a1 h0_size := rl_nle c_8
    have h_11 : rg 0 939 a1 := rl_x o_10 i_a1 i_h0_size (by decide) (by decide)
    have h_12 : rg 1 940 h0_size := rl_y o_10 i_a1 i_h0_size (by decide) (by decide)
    refine lv_aload_n hx hb dX12_tapeAt_8 rfl (lv_at hl 0 rfl) ?_
    refine va_get (D := D) (ci := 11) (v := .ref h0_tape) (C := RX12) (T := TX12) (N := 48) hx hb hts k2 hown hK.1 hP 0 rfl rfl 1 (by decide) k3 (fun _ h9 => h9) rfl dX12_tapeAt_9 ?_
    refine lv_iload_n hx hb dX12_tapeAt_12 rfl (lv_at hl 1 rfl) ?_
    refine va_iald hx hb hK.1 hP 1 0 rfl rfl (rg_in h_11 (by decide) (by decide)) dX12_tapeAt_13 ?_
    refine lv_topi (fun x_13 ex_13 => ?_)
    have h_14 : rg 0 255 x_13 := by rw [ex_13]; exact sg_at s_h0_tape_0 h_11 (by decide) (by decide) (by decide)
    refine lv_goto (tgt := 18) hx hb dX12_tapeAt_14 (by decide) ?_
    exact oE_i hx hb hr rfl hlocks hP hD hS () [0, 1] rfl (by decide) (Or.inr (⟨ex_13, h_14, h_11, h_12, (show rl 1 a1 h0_size from rlm (by have q0 := rle o_10; omega))⟩)) (Nat.le_of_ble_eq_true rfl) (Nat.le_of_ble_eq_true rfl) dX12_tapeAt_18
theorem dX12_go_0 : decode cX12_go 0 = .ok (.aload_n 0, 1) := by decide +kernel
theorem dX12_go_1 : decode cX12_go 1 = .ok (.getfield 21, 3) := by decide +kernel
theorem dX12_go_4 : decode cX12_go 4 = .ok (.aload_n 0, 1) := by decide +kernel
theorem dX12_go_5 : decode cX12_go 5 = .ok (.getfield 18, 3) := by decide +kernel
theorem dX12_go_8 : decode cX12_go 8 = .ok (.if_icmp .ge 44, 3) := by decide +kernel
theorem dX12_go_11 : decode cX12_go 11 = .ok (.aload_n 0, 1) := by decide +kernel
theorem dX12_go_12 : decode cX12_go 12 = .ok (.getfield 7, 3) := by decide +kernel
theorem dX12_go_15 : decode cX12_go 15 = .ok (.aload_n 0, 1) := by decide +kernel
theorem dX12_go_16 : decode cX12_go 16 = .ok (.getfield 21, 3) := by decide +kernel
theorem dX12_go_19 : decode cX12_go 19 = .ok (.iaload, 1) := by decide +kernel
theorem dX12_go_20 : decode cX12_go 20 = .ok (.bipush 32, 2) := by decide +kernel
theorem dX12_go_22 : decode cX12_go 22 = .ok (.if_icmp .eq 17, 3) := by decide +kernel
theorem dX12_go_25 : decode cX12_go 25 = .ok (.aload_n 0, 1) := by decide +kernel
theorem dX12_go_26 : decode cX12_go 26 = .ok (.getfield 7, 3) := by decide +kernel
theorem dX12_go_29 : decode cX12_go 29 = .ok (.aload_n 0, 1) := by decide +kernel
theorem dX12_go_30 : decode cX12_go 30 = .ok (.getfield 21, 3) := by decide +kernel
theorem dX12_go_33 : decode cX12_go 33 = .ok (.iaload, 1) := by decide +kernel
theorem dX12_go_34 : decode cX12_go 34 = .ok (.bipush 10, 2) := by decide +kernel
theorem dX12_go_36 : decode cX12_go 36 = .ok (.if_icmp .ne 16, 3) := by decide +kernel
theorem dX12_go_39 : decode cX12_go 39 = .ok (.aload_n 0, 1) := by decide +kernel
theorem dX12_go_40 : decode cX12_go 40 = .ok (.dup, 1) := by decide +kernel
theorem dX12_go_41 : decode cX12_go 41 = .ok (.getfield 21, 3) := by decide +kernel
theorem dX12_go_44 : decode cX12_go 44 = .ok (.iconst 1, 1) := by decide +kernel
theorem dX12_go_45 : decode cX12_go 45 = .ok (.iadd, 1) := by decide +kernel
theorem dX12_go_46 : decode cX12_go 46 = .ok (.putfield 21, 3) := by decide +kernel
theorem dX12_go_49 : decode cX12_go 49 = .ok (.goto (-49), 3) := by decide +kernel
theorem dX12_go_52 : decode cX12_go 52 = .ok (.aload_n 0, 1) := by decide +kernel
theorem dX12_go_53 : decode cX12_go 53 = .ok (.aload_n 0, 1) := by decide +kernel
theorem dX12_go_54 : decode cX12_go 54 = .ok (.getfield 21, 3) := by decide +kernel
theorem dX12_go_57 : decode cX12_go 57 = .ok (.putfield 24, 3) := by decide +kernel
theorem dX12_go_60 : decode cX12_go 60 = .ok (.aload_n 0, 1) := by decide +kernel
theorem dX12_go_61 : decode cX12_go 61 = .ok (.getfield 18, 3) := by decide +kernel
theorem dX12_go_64 : decode cX12_go 64 = .ok (.aload_n 0, 1) := by decide +kernel
theorem dX12_go_65 : decode cX12_go 65 = .ok (.getfield 27, 3) := by decide +kernel
theorem dX12_go_68 : decode cX12_go 68 = .ok (.if_icmp .le 28, 3) := by decide +kernel
theorem dX12_go_71 : decode cX12_go 71 = .ok (.aload_n 0, 1) := by decide +kernel
theorem dX12_go_72 : decode cX12_go 72 = .ok (.getfield 24, 3) := by decide +kernel
theorem dX12_go_75 : decode cX12_go 75 = .ok (.aload_n 0, 1) := by decide +kernel
theorem dX12_go_76 : decode cX12_go 76 = .ok (.getfield 27, 3) := by decide +kernel
theorem dX12_go_79 : decode cX12_go 79 = .ok (.if_icmp .lt 17, 3) := by decide +kernel
theorem dX12_go_82 : decode cX12_go 82 = .ok (.aload_n 0, 1) := by decide +kernel
theorem dX12_go_83 : decode cX12_go 83 = .ok (.aload_n 0, 1) := by decide +kernel
theorem dX12_go_84 : decode cX12_go 84 = .ok (.getfield 27, 3) := by decide +kernel
theorem dX12_go_87 : decode cX12_go 87 = .ok (.putfield 24, 3) := by decide +kernel
theorem dX12_go_90 : decode cX12_go 90 = .ok (.aload_n 0, 1) := by decide +kernel
theorem dX12_go_91 : decode cX12_go 91 = .ok (.iconst 1, 1) := by decide +kernel
theorem dX12_go_92 : decode cX12_go 92 = .ok (.putfield 30, 3) := by decide +kernel
theorem dX12_go_95 : decode cX12_go 95 = .ok (.return_, 1) := by decide +kernel
theorem dX12_go_96 : decode cX12_go 96 = .ok (.aload_n 0, 1) := by decide +kernel
theorem dX12_go_97 : decode cX12_go 97 = .ok (.getfield 21, 3) := by decide +kernel
theorem dX12_go_100 : decode cX12_go 100 = .ok (.aload_n 0, 1) := by decide +kernel
theorem dX12_go_101 : decode cX12_go 101 = .ok (.getfield 18, 3) := by decide +kernel
theorem dX12_go_104 : decode cX12_go 104 = .ok (.if_icmp .lt 9, 3) := by decide +kernel
theorem dX12_go_107 : decode cX12_go 107 = .ok (.aload_n 0, 1) := by decide +kernel
theorem dX12_go_108 : decode cX12_go 108 = .ok (.iconst 0, 1) := by decide +kernel
theorem dX12_go_109 : decode cX12_go 109 = .ok (.putfield 30, 3) := by decide +kernel
theorem dX12_go_112 : decode cX12_go 112 = .ok (.return_, 1) := by decide +kernel
theorem dX12_go_113 : decode cX12_go 113 = .ok (.aload_n 0, 1) := by decide +kernel
theorem dX12_go_114 : decode cX12_go 114 = .ok (.getfield 7, 3) := by decide +kernel
theorem dX12_go_117 : decode cX12_go 117 = .ok (.aload_n 0, 1) := by decide +kernel
theorem dX12_go_118 : decode cX12_go 118 = .ok (.getfield 21, 3) := by decide +kernel
theorem dX12_go_121 : decode cX12_go 121 = .ok (.iaload, 1) := by decide +kernel
theorem dX12_go_122 : decode cX12_go 122 = .ok (.istore_n 1, 1) := by decide +kernel
theorem dX12_go_123 : decode cX12_go 123 = .ok (.iload_n 1, 1) := by decide +kernel
theorem dX12_go_124 : decode cX12_go 124 = .ok (.invokestatic 33, 3) := by decide +kernel
theorem dX12_go_127 : decode cX12_go 127 = .ok (.ifCond .ne 71, 3) := by decide +kernel
theorem dX12_go_130 : decode cX12_go 130 = .ok (.iload_n 1, 1) := by decide +kernel
theorem dX12_go_131 : decode cX12_go 131 = .ok (.invokestatic 37, 3) := by decide +kernel
theorem dX12_go_134 : decode cX12_go 134 = .ok (.ifCond .ne 64, 3) := by decide +kernel
theorem dX12_go_137 : decode cX12_go 137 = .ok (.aload_n 0, 1) := by decide +kernel
theorem dX12_go_138 : decode cX12_go 138 = .ok (.iload_n 1, 1) := by decide +kernel
theorem dX12_go_139 : decode cX12_go 139 = .ok (.bipush 59, 2) := by decide +kernel
theorem dX12_go_141 : decode cX12_go 141 = .ok (.if_icmp .eq 33, 3) := by decide +kernel
theorem dX12_go_144 : decode cX12_go 144 = .ok (.iload_n 1, 1) := by decide +kernel
theorem dX12_go_145 : decode cX12_go 145 = .ok (.bipush 60, 2) := by decide +kernel
theorem dX12_go_147 : decode cX12_go 147 = .ok (.if_icmp .eq 27, 3) := by decide +kernel
theorem dX12_go_150 : decode cX12_go 150 = .ok (.iload_n 1, 1) := by decide +kernel
theorem dX12_go_151 : decode cX12_go 151 = .ok (.bipush 61, 2) := by decide +kernel
theorem dX12_go_153 : decode cX12_go 153 = .ok (.if_icmp .eq 21, 3) := by decide +kernel
theorem dX12_go_156 : decode cX12_go 156 = .ok (.iload_n 1, 1) := by decide +kernel
theorem dX12_go_157 : decode cX12_go 157 = .ok (.bipush 62, 2) := by decide +kernel
theorem dX12_go_159 : decode cX12_go 159 = .ok (.if_icmp .eq 15, 3) := by decide +kernel
theorem dX12_go_162 : decode cX12_go 162 = .ok (.iload_n 1, 1) := by decide +kernel
theorem dX12_go_163 : decode cX12_go 163 = .ok (.bipush 40, 2) := by decide +kernel
theorem dX12_go_165 : decode cX12_go 165 = .ok (.if_icmp .eq 9, 3) := by decide +kernel
theorem dX12_go_168 : decode cX12_go 168 = .ok (.iload_n 1, 1) := by decide +kernel
theorem dX12_go_169 : decode cX12_go 169 = .ok (.bipush 41, 2) := by decide +kernel
theorem dX12_go_171 : decode cX12_go 171 = .ok (.if_icmp .ne 7, 3) := by decide +kernel
theorem dX12_go_174 : decode cX12_go 174 = .ok (.iconst 4, 1) := by decide +kernel
theorem dX12_go_175 : decode cX12_go 175 = .ok (.goto 4, 3) := by decide +kernel
theorem dX12_go_178 : decode cX12_go 178 = .ok (.iconst 1, 1) := by decide +kernel
theorem dX12_go_179 : decode cX12_go 179 = .ok (.putfield 30, 3) := by decide +kernel
theorem dX12_go_182 : decode cX12_go 182 = .ok (.aload_n 0, 1) := by decide +kernel
theorem dX12_go_183 : decode cX12_go 183 = .ok (.iload_n 1, 1) := by decide +kernel
theorem dX12_go_184 : decode cX12_go 184 = .ok (.putfield 40, 3) := by decide +kernel
theorem dX12_go_187 : decode cX12_go 187 = .ok (.aload_n 0, 1) := by decide +kernel
theorem dX12_go_188 : decode cX12_go 188 = .ok (.dup, 1) := by decide +kernel
theorem dX12_go_189 : decode cX12_go 189 = .ok (.getfield 21, 3) := by decide +kernel
theorem dX12_go_192 : decode cX12_go 192 = .ok (.iconst 1, 1) := by decide +kernel
theorem dX12_go_193 : decode cX12_go 193 = .ok (.iadd, 1) := by decide +kernel
theorem dX12_go_194 : decode cX12_go 194 = .ok (.putfield 21, 3) := by decide +kernel
theorem dX12_go_197 : decode cX12_go 197 = .ok (.return_, 1) := by decide +kernel
theorem dX12_go_198 : decode cX12_go 198 = .ok (.iload_n 1, 1) := by decide +kernel
theorem dX12_go_199 : decode cX12_go 199 = .ok (.invokestatic 33, 3) := by decide +kernel
theorem dX12_go_202 : decode cX12_go 202 = .ok (.istore_n 2, 1) := by decide +kernel
theorem dX12_go_203 : decode cX12_go 203 = .ok (.iconst 1, 1) := by decide +kernel
theorem dX12_go_204 : decode cX12_go 204 = .ok (.istore_n 3, 1) := by decide +kernel
theorem dX12_go_205 : decode cX12_go 205 = .ok (.aload_n 0, 1) := by decide +kernel
theorem dX12_go_206 : decode cX12_go 206 = .ok (.lconst 0, 1) := by decide +kernel
theorem dX12_go_207 : decode cX12_go 207 = .ok (.putfield 43, 3) := by decide +kernel
theorem dX12_go_210 : decode cX12_go 210 = .ok (.aload_n 0, 1) := by decide +kernel
theorem dX12_go_211 : decode cX12_go 211 = .ok (.iconst 0, 1) := by decide +kernel
theorem dX12_go_212 : decode cX12_go 212 = .ok (.putfield 47, 3) := by decide +kernel
theorem dX12_go_215 : decode cX12_go 215 = .ok (.aload_n 0, 1) := by decide +kernel
theorem dX12_go_216 : decode cX12_go 216 = .ok (.aload_n 0, 1) := by decide +kernel
theorem dX12_go_217 : decode cX12_go 217 = .ok (.getfield 21, 3) := by decide +kernel
theorem dX12_go_220 : decode cX12_go 220 = .ok (.invokevirtual 50, 3) := by decide +kernel
theorem dX12_go_223 : decode cX12_go 223 = .ok (.invokestatic 33, 3) := by decide +kernel
theorem dX12_go_226 : decode cX12_go 226 = .ok (.ifCond .ne 17, 3) := by decide +kernel
theorem dX12_go_229 : decode cX12_go 229 = .ok (.aload_n 0, 1) := by decide +kernel
theorem dX12_go_230 : decode cX12_go 230 = .ok (.aload_n 0, 1) := by decide +kernel
theorem dX12_go_231 : decode cX12_go 231 = .ok (.getfield 21, 3) := by decide +kernel
theorem dX12_go_234 : decode cX12_go 234 = .ok (.invokevirtual 50, 3) := by decide +kernel
theorem dX12_go_237 : decode cX12_go 237 = .ok (.invokestatic 37, 3) := by decide +kernel
theorem dX12_go_240 : decode cX12_go 240 = .ok (.ifCond .eq 110, 3) := by decide +kernel
theorem dX12_go_243 : decode cX12_go 243 = .ok (.aload_n 0, 1) := by decide +kernel
theorem dX12_go_244 : decode cX12_go 244 = .ok (.getfield 7, 3) := by decide +kernel
theorem dX12_go_247 : decode cX12_go 247 = .ok (.aload_n 0, 1) := by decide +kernel
theorem dX12_go_248 : decode cX12_go 248 = .ok (.getfield 21, 3) := by decide +kernel
theorem dX12_go_251 : decode cX12_go 251 = .ok (.iaload, 1) := by decide +kernel
theorem dX12_go_252 : decode cX12_go 252 = .ok (.istore 4, 2) := by decide +kernel
theorem dX12_go_254 : decode cX12_go 254 = .ok (.iload_n 3, 1) := by decide +kernel
theorem dX12_go_255 : decode cX12_go 255 = .ok (.ifCond .eq 16, 3) := by decide +kernel
theorem dX12_go_258 : decode cX12_go 258 = .ok (.iload 4, 2) := by decide +kernel
theorem dX12_go_260 : decode cX12_go 260 = .ok (.invokestatic 33, 3) := by decide +kernel
theorem dX12_go_263 : decode cX12_go 263 = .ok (.iload_n 2, 1) := by decide +kernel
theorem dX12_go_264 : decode cX12_go 264 = .ok (.if_icmp .ne 7, 3) := by decide +kernel
theorem dX12_go_267 : decode cX12_go 267 = .ok (.iconst 1, 1) := by decide +kernel
theorem dX12_go_268 : decode cX12_go 268 = .ok (.goto 4, 3) := by decide +kernel
theorem dX12_go_271 : decode cX12_go 271 = .ok (.iconst 0, 1) := by decide +kernel
theorem dX12_go_272 : decode cX12_go 272 = .ok (.istore_n 3, 1) := by decide +kernel
theorem dX12_go_273 : decode cX12_go 273 = .ok (.aload_n 0, 1) := by decide +kernel
theorem dX12_go_274 : decode cX12_go 274 = .ok (.getfield 21, 3) := by decide +kernel
theorem dX12_go_277 : decode cX12_go 277 = .ok (.aload_n 0, 1) := by decide +kernel
theorem dX12_go_278 : decode cX12_go 278 = .ok (.getfield 24, 3) := by decide +kernel
theorem dX12_go_281 : decode cX12_go 281 = .ok (.isub, 1) := by decide +kernel
theorem dX12_go_282 : decode cX12_go 282 = .ok (.bipush 7, 2) := by decide +kernel
theorem dX12_go_284 : decode cX12_go 284 = .ok (.if_icmp .ge 23, 3) := by decide +kernel
theorem dX12_go_287 : decode cX12_go 287 = .ok (.aload_n 0, 1) := by decide +kernel
theorem dX12_go_288 : decode cX12_go 288 = .ok (.ldc2_w 54, 3) := by decide +kernel
theorem dX12_go_291 : decode cX12_go 291 = .ok (.aload_n 0, 1) := by decide +kernel
theorem dX12_go_292 : decode cX12_go 292 = .ok (.getfield 43, 3) := by decide +kernel
theorem dX12_go_295 : decode cX12_go 295 = .ok (.lmul, 1) := by decide +kernel
theorem dX12_go_296 : decode cX12_go 296 = .ok (.iload 4, 2) := by decide +kernel
theorem dX12_go_298 : decode cX12_go 298 = .ok (.i2l, 1) := by decide +kernel
theorem dX12_go_299 : decode cX12_go 299 = .ok (.ladd, 1) := by decide +kernel
theorem dX12_go_300 : decode cX12_go 300 = .ok (.ldc2_w 56, 3) := by decide +kernel
theorem dX12_go_303 : decode cX12_go 303 = .ok (.lsub, 1) := by decide +kernel
theorem dX12_go_304 : decode cX12_go 304 = .ok (.putfield 43, 3) := by decide +kernel
theorem dX12_go_307 : decode cX12_go 307 = .ok (.aload_n 0, 1) := by decide +kernel
theorem dX12_go_308 : decode cX12_go 308 = .ok (.getfield 21, 3) := by decide +kernel
theorem dX12_go_311 : decode cX12_go 311 = .ok (.aload_n 0, 1) := by decide +kernel
theorem dX12_go_312 : decode cX12_go 312 = .ok (.getfield 24, 3) := by decide +kernel
theorem dX12_go_315 : decode cX12_go 315 = .ok (.isub, 1) := by decide +kernel
theorem dX12_go_316 : decode cX12_go 316 = .ok (.iconst 3, 1) := by decide +kernel
theorem dX12_go_317 : decode cX12_go 317 = .ok (.if_icmp .ge 20, 3) := by decide +kernel
theorem dX12_go_320 : decode cX12_go 320 = .ok (.aload_n 0, 1) := by decide +kernel
theorem dX12_go_321 : decode cX12_go 321 = .ok (.bipush 10, 2) := by decide +kernel
theorem dX12_go_323 : decode cX12_go 323 = .ok (.aload_n 0, 1) := by decide +kernel
theorem dX12_go_324 : decode cX12_go 324 = .ok (.getfield 47, 3) := by decide +kernel
theorem dX12_go_327 : decode cX12_go 327 = .ok (.imul, 1) := by decide +kernel
theorem dX12_go_328 : decode cX12_go 328 = .ok (.iload 4, 2) := by decide +kernel
theorem dX12_go_330 : decode cX12_go 330 = .ok (.iadd, 1) := by decide +kernel
theorem dX12_go_331 : decode cX12_go 331 = .ok (.bipush 48, 2) := by decide +kernel
theorem dX12_go_333 : decode cX12_go 333 = .ok (.isub, 1) := by decide +kernel
theorem dX12_go_334 : decode cX12_go 334 = .ok (.putfield 47, 3) := by decide +kernel
theorem dX12_go_337 : decode cX12_go 337 = .ok (.aload_n 0, 1) := by decide +kernel
theorem dX12_go_338 : decode cX12_go 338 = .ok (.dup, 1) := by decide +kernel
theorem dX12_go_339 : decode cX12_go 339 = .ok (.getfield 21, 3) := by decide +kernel
theorem dX12_go_342 : decode cX12_go 342 = .ok (.iconst 1, 1) := by decide +kernel
theorem dX12_go_343 : decode cX12_go 343 = .ok (.iadd, 1) := by decide +kernel
theorem dX12_go_344 : decode cX12_go 344 = .ok (.putfield 21, 3) := by decide +kernel
theorem dX12_go_347 : decode cX12_go 347 = .ok (.goto (-132), 3) := by decide +kernel
theorem dX12_go_350 : decode cX12_go 350 = .ok (.aload_n 0, 1) := by decide +kernel
theorem dX12_go_351 : decode cX12_go 351 = .ok (.iload_n 3, 1) := by decide +kernel
theorem dX12_go_352 : decode cX12_go 352 = .ok (.ifCond .eq 25, 3) := by decide +kernel
theorem dX12_go_355 : decode cX12_go 355 = .ok (.aload_n 0, 1) := by decide +kernel
theorem dX12_go_356 : decode cX12_go 356 = .ok (.getfield 21, 3) := by decide +kernel
theorem dX12_go_359 : decode cX12_go 359 = .ok (.aload_n 0, 1) := by decide +kernel
theorem dX12_go_360 : decode cX12_go 360 = .ok (.getfield 24, 3) := by decide +kernel
theorem dX12_go_363 : decode cX12_go 363 = .ok (.isub, 1) := by decide +kernel
theorem dX12_go_364 : decode cX12_go 364 = .ok (.iload_n 2, 1) := by decide +kernel
theorem dX12_go_365 : decode cX12_go 365 = .ok (.ifCond .eq 8, 3) := by decide +kernel
theorem dX12_go_368 : decode cX12_go 368 = .ok (.bipush 7, 2) := by decide +kernel
theorem dX12_go_370 : decode cX12_go 370 = .ok (.goto 4, 3) := by decide +kernel
theorem dX12_go_373 : decode cX12_go 373 = .ok (.iconst 3, 1) := by decide +kernel
theorem dX12_go_374 : decode cX12_go 374 = .ok (.if_icmp .le 7, 3) := by decide +kernel
theorem dX12_go_377 : decode cX12_go 377 = .ok (.iconst 1, 1) := by decide +kernel
theorem dX12_go_378 : decode cX12_go 378 = .ok (.goto 12, 3) := by decide +kernel
theorem dX12_go_381 : decode cX12_go 381 = .ok (.iload_n 2, 1) := by decide +kernel
theorem dX12_go_382 : decode cX12_go 382 = .ok (.ifCond .eq 7, 3) := by decide +kernel
theorem dX12_go_385 : decode cX12_go 385 = .ok (.iconst 2, 1) := by decide +kernel
theorem dX12_go_386 : decode cX12_go 386 = .ok (.goto 4, 3) := by decide +kernel
theorem dX12_go_389 : decode cX12_go 389 = .ok (.iconst 3, 1) := by decide +kernel
theorem dX12_go_390 : decode cX12_go 390 = .ok (.putfield 30, 3) := by decide +kernel
theorem dX12_go_393 : decode cX12_go 393 = .ok (.return_, 1) := by decide +kernel
set_option maxRecDepth 20000 in
theorem ggX12_go_X12_isLetter : GoodIn wsX12_go wsX12_isLetter := goodIn_r _ [15] rfl (by decide +kernel)
set_option maxRecDepth 20000 in
theorem gX12_go_X12_isLetter : GoodIn wsX12_go (va_wsS RX12 33 yX12_isLetter wsX12_isLetter) := goodIn_app (goodIn_of _ (by decide +kernel)) ggX12_go_X12_isLetter
set_option maxRecDepth 20000 in
theorem ggX12_go_X12_isDigit : GoodIn wsX12_go wsX12_isDigit := goodIn_r _ [18] rfl (by decide +kernel)
set_option maxRecDepth 20000 in
theorem gX12_go_X12_isDigit : GoodIn wsX12_go (va_wsS RX12 37 yX12_isDigit wsX12_isDigit) := goodIn_app (goodIn_of _ (by decide +kernel)) ggX12_go_X12_isDigit
set_option maxRecDepth 20000 in
theorem ggX12_go_X12_tapeAt : GoodIn wsX12_go wsX12_tapeAt := goodIn_r _ [22, 2, 3, 23, 24, 25, 26, 27, 28, 29, 30, 31, 32, 33, 34, 35, 36, 37, 38, 39, 40, 41, 42, 43, 44, 45, 46, 47, 48, 49, 50, 51, 52, 53, 54, 55, 56, 57, 58, 59, 60, 61, 62, 63, 64, 65, 66, 67, 68, 69, 70] rfl (by decide +kernel)
set_option maxRecDepth 20000 in
theorem gX12_go_X12_tapeAt : GoodIn wsX12_go (wsV RX12 50 RX12 yX12_tapeAt wsX12_tapeAt) := goodIn_app (goodIn_of _ (by decide +kernel)) ggX12_go_X12_tapeAt
set_option maxHeartbeats 4000000 in
set_option maxRecDepth 100000 in
theorem s_X12_go (l : Launch) (D : va_G) (ca : Nat → ClassId) (sz : Nat) (h0 : Nat) (h0_thrown : Int32) (h0_tape : Nat) (h0_taped : Int32) (h0_size : Int32) (h0_limit : Int32) (h0_to : Int32) (h0_from : Int32) (h0_kind : Int32) (h0_number : Int32) (h0_sign : Int32) (h0_fault : Int32) (h0_place : Int32) (h0_word : Int64) (h0_told : Int32) (h0_now : Nat) (h0_read : Nat) (h0_kept : Nat) (h0_snaps : Nat) (h0_aside : Nat) (h0_name : Nat) (h0_readName : Nat) (h0_keptName : Nat) (h0_isKept : Nat) (h0_onces : Nat) (h0_snapMany : Int32) (h0_lowest : Int32) (h0_highest : Int32) (h0_agreed : Int32) (h0_jurors : Int32) (h0_panelled : Int32) (h0_inSets : Nat) (h0_surely : Int32) (h0_asked : Int32) (h0_frees : Nat) (h0_struck : Int32) (h0_beating : Int32) (h0_text : Nat) (h0_texts : Int32) (h0_seed : Int32) (h0_line : Nat) (h0_written : Nat) (h0_lineMany : Int32) (h0_hasWritten : Int32) (h0_node : Nat) (h0_nodes : Int32) (h0_onesMany : Int32) (h0_within : Int32) (h0_top : Int32) (F_h0_tape : Nat → Int32) (i_h0_taped : rg 0 940 h0_taped) (i_h0_size : rg 0 940 h0_size) (i_h0_to : rg 0 940 h0_to) (i_h0_kind : rg 0 4 h0_kind) (i_h0_snapMany : rg 0 8 h0_snapMany) (i_h0_texts : rg 0 64 h0_texts) (i_h0_lineMany : rg 0 40 h0_lineMany) (i_h0_hasWritten : rg 0 1 h0_hasWritten) (i_h0_nodes : rg 0 60 h0_nodes) (i_h0_onesMany : rg 0 20 h0_onesMany) (s_h0_tape_0 : sg 0 940 0 255 F_h0_tape) : oMet l yX12_go wsX12_go ({ frames := 1, cells := 0, slots := 0, locals := 21 } : Room) [.ref h0] D ca sz [(h0, .inr (11, [.int h0_thrown, .ref h0_tape, .int h0_taped, .int h0_size, .int h0_limit, .int h0_to, .int h0_from, .int h0_kind, .int h0_number, .int h0_sign, .int h0_fault, .int h0_place, .long h0_word, .int h0_told, .ref h0_now, .ref h0_read, .ref h0_kept, .ref h0_snaps, .ref h0_aside, .ref h0_name, .ref h0_readName, .ref h0_keptName, .ref h0_isKept, .ref h0_onces, .int h0_snapMany, .int h0_lowest, .int h0_highest, .int h0_agreed, .int h0_jurors, .int h0_panelled, .ref h0_inSets, .int h0_surely, .int h0_asked, .ref h0_frees, .int h0_struck, .int h0_beating, .ref h0_text, .int h0_texts, .int h0_seed, .ref h0_line, .ref h0_written, .int h0_lineMany, .int h0_hasWritten, .ref h0_node, .int h0_nodes, .int h0_onesMany, .int h0_within, .int h0_top])), (aI ca h0_tape 940 F_h0_tape)] (oQv D (fun (u : Int32 × Int32 × Int32 × Int32 × Int32 × Int64) => (rg 0 940 u.1) ∧ (rg (-2147483648) 940 u.2.1) ∧ (rg 0 4 u.2.2.1) ∧ (rl 0 h0_to u.1) ∧ (lk h0_to u.2.2.1 u.1)) (fun (u : Int32 × Int32 × Int32 × Int32 × Int32 × Int64) => [(h0, .inr (11, [.int h0_thrown, .ref h0_tape, .int h0_taped, .int h0_size, .int h0_limit, .int u.1, .int u.2.1, .int u.2.2.1, .int u.2.2.2.1, .int u.2.2.2.2.1, .int h0_fault, .int h0_place, .long u.2.2.2.2.2, .int h0_told, .ref h0_now, .ref h0_read, .ref h0_kept, .ref h0_snaps, .ref h0_aside, .ref h0_name, .ref h0_readName, .ref h0_keptName, .ref h0_isKept, .ref h0_onces, .int h0_snapMany, .int h0_lowest, .int h0_highest, .int h0_agreed, .int h0_jurors, .int h0_panelled, .ref h0_inSets, .int h0_surely, .int h0_asked, .ref h0_frees, .int h0_struck, .int h0_beating, .ref h0_text, .int h0_texts, .int h0_seed, .ref h0_line, .ref h0_written, .int h0_lineMany, .int h0_hasWritten, .ref h0_node, .int h0_nodes, .int h0_onesMany, .int h0_within, .int h0_top])), (aI ca h0_tape 940 F_h0_tape)])) 0 0 := by
  refine oM (cc := cX12_go) (maxL := 5) (ret := none) (by decide) rfl (Nat.le_of_ble_eq_true rfl) [(0, .ref h0)] rfl ?_
  intro p e s m below meth c A H locs ls hx hb hr hml hts hown hlocks hin hK hP hD hA hS hl
  have hown : s.vm.findClass RX12 = some m.cls := hown
  have k1 := hts (.fieldLink RX12 30 "LidCourtModel" "kind" "I") (by decide +kernel)
  have k2 : ∀ w ∈ wsX120, w ∈ wsX12_go := fun _ h => List.mem_cons_of_mem _ (List.mem_append_right _ h)
  have k3 := hts (.fieldLink RX12 21 "LidCourtModel" "to" "I") (by decide +kernel)
  have k4 := hts (.fieldLink RX12 24 "LidCourtModel" "from" "I") (by decide +kernel)
  have k5 := hts (.fieldLink RX12 47 "LidCourtModel" "number" "I") (by decide +kernel)
  have k6 := hts (.constantLong RX12 54 27) (by decide +kernel)
  have k7 := hts (.fieldLink RX12 43 "LidCourtModel" "word" "J") (by decide +kernel)
  have k8 := hts (.constantLong RX12 56 96) (by decide +kernel)
  have k9 := hts (.fieldLink RX12 7 "LidCourtModel" "tape" "[I") (by decide +kernel)
  have k10 := hts (.fieldLink RX12 40 "LidCourtModel" "sign" "I") (by decide +kernel)
  have k11 := hts (.fieldLink RX12 18 "LidCourtModel" "size" "I") (by decide +kernel)
  have k12 := hts (.fieldLink RX12 27 "LidCourtModel" "limit" "I") (by decide +kernel)
  have J390_932 : ∀ (y390_0 : Int32) (y390_1 : Int32) (y390_2 : Int32) (y390_3 : Int32) (y390_4 : Int64), rg 1 3 y390_0 → rg 1 940 y390_1 → rl 1 h0_to y390_1 → rg 0 940 y390_2 → rl 0 h0_to y390_2 → rg 0 2147483647 h0_limit → rg 1 940 h0_size → ∀ (H : Heap) (locs : List Loc) (ls : Array Slot), va_P D vwCl [(h0, .inr (11, [.int h0_thrown, .ref h0_tape, .int h0_taped, .int h0_size, .int h0_limit, .int y390_1, .int y390_2, .int h0_kind, .int y390_3, .int h0_sign, .int h0_fault, .int h0_place, .long y390_4, .int h0_told, .ref h0_now, .ref h0_read, .ref h0_kept, .ref h0_snaps, .ref h0_aside, .ref h0_name, .ref h0_readName, .ref h0_keptName, .ref h0_isKept, .ref h0_onces, .int h0_snapMany, .int h0_lowest, .int h0_highest, .int h0_agreed, .int h0_jurors, .int h0_panelled, .ref h0_inSets, .int h0_surely, .int h0_asked, .ref h0_frees, .int h0_struck, .int h0_beating, .ref h0_text, .int h0_texts, .int h0_seed, .ref h0_line, .ref h0_written, .int h0_lineMany, .int h0_hasWritten, .ref h0_node, .int h0_nodes, .int h0_onesMany, .int h0_within, .int h0_top])), (aI ca h0_tape 940 F_h0_tape)] H → va_D A [(h0, .inr (11, [.int h0_thrown, .ref h0_tape, .int h0_taped, .int h0_size, .int h0_limit, .int y390_1, .int y390_2, .int h0_kind, .int y390_3, .int h0_sign, .int h0_fault, .int h0_place, .long y390_4, .int h0_told, .ref h0_now, .ref h0_read, .ref h0_kept, .ref h0_snaps, .ref h0_aside, .ref h0_name, .ref h0_readName, .ref h0_keptName, .ref h0_isKept, .ref h0_onces, .int h0_snapMany, .int h0_lowest, .int h0_highest, .int h0_agreed, .int h0_jurors, .int h0_panelled, .ref h0_inSets, .int h0_surely, .int h0_asked, .ref h0_frees, .int h0_struck, .int h0_beating, .ref h0_text, .int h0_texts, .int h0_seed, .ref h0_line, .ref h0_written, .int h0_lineMany, .int h0_hasWritten, .ref h0_node, .int h0_nodes, .int h0_onesMany, .int h0_within, .int h0_top])), (aI ca h0_tape 940 F_h0_tape)] → va_S A s.heap H locs → lv_has ls 5 [] → W p l e ({ frames := 1, cells := 0, slots := 0, locals := 21 } : Room) s m ([.ref h0] : List Value).toArray below meth c H locs 0 0 (MQ below ((oQv D (fun (u : Int32 × Int32 × Int32 × Int32 × Int32 × Int64) => (rg 0 940 u.1) ∧ (rg (-2147483648) 940 u.2.1) ∧ (rg 0 4 u.2.2.1) ∧ (rl 0 h0_to u.1) ∧ (lk h0_to u.2.2.1 u.1)) (fun (u : Int32 × Int32 × Int32 × Int32 × Int32 × Int64) => [(h0, .inr (11, [.int h0_thrown, .ref h0_tape, .int h0_taped, .int h0_size, .int h0_limit, .int u.1, .int u.2.1, .int u.2.2.1, .int u.2.2.2.1, .int u.2.2.2.2.1, .int h0_fault, .int h0_place, .long u.2.2.2.2.2, .int h0_told, .ref h0_now, .ref h0_read, .ref h0_kept, .ref h0_snaps, .ref h0_aside, .ref h0_name, .ref h0_readName, .ref h0_keptName, .ref h0_isKept, .ref h0_onces, .int h0_snapMany, .int h0_lowest, .int h0_highest, .int h0_agreed, .int h0_jurors, .int h0_panelled, .ref h0_inSets, .int h0_surely, .int h0_asked, .ref h0_frees, .int h0_struck, .int h0_beating, .ref h0_text, .int h0_texts, .int h0_seed, .ref h0_line, .ref h0_written, .int h0_lineMany, .int h0_hasWritten, .ref h0_node, .int h0_nodes, .int h0_onesMany, .int h0_within, .int h0_top])), (aI ca h0_tape 940 F_h0_tape)])) A) ([.ref h0] : List Value).toArray s 0 0 A) (F0 m 390 ls [.int y390_0, .ref h0]) := by
    intro y390_0 y390_1 y390_2 y390_3 y390_4 hy390_0 hy390_1 py390_1_h0_to hy390_2 py390_2_h0_to t390_h0_limit t390_h0_size H locs ls hP hD hS hl
    refine va_put (D := D) (ci := 11) (v := .int y390_0) (ty := .int) (C := RX12) (T := TX12) (N := 48) hx hb hts k2 tyX12 tyX12_ok nmX12 hown hK.1 hP hD hS 0 rfl rfl 7 (by decide) k1 (fun _ h9 => h9) rfl (by decide +kernel) rfl rfl (Nat.le_of_ble_eq_true rfl) dX12_go_390 (fun H locs hP hD hS => ?_)
    have hP : va_P D vwCl [(h0, .inr (11, [.int h0_thrown, .ref h0_tape, .int h0_taped, .int h0_size, .int h0_limit, .int y390_1, .int y390_2, .int y390_0, .int y390_3, .int h0_sign, .int h0_fault, .int h0_place, .long y390_4, .int h0_told, .ref h0_now, .ref h0_read, .ref h0_kept, .ref h0_snaps, .ref h0_aside, .ref h0_name, .ref h0_readName, .ref h0_keptName, .ref h0_isKept, .ref h0_onces, .int h0_snapMany, .int h0_lowest, .int h0_highest, .int h0_agreed, .int h0_jurors, .int h0_panelled, .ref h0_inSets, .int h0_surely, .int h0_asked, .ref h0_frees, .int h0_struck, .int h0_beating, .ref h0_text, .int h0_texts, .int h0_seed, .ref h0_line, .ref h0_written, .int h0_lineMany, .int h0_hasWritten, .ref h0_node, .int h0_nodes, .int h0_onesMany, .int h0_within, .int h0_top])), (aI ca h0_tape 940 F_h0_tape)] H := hP
    have hD : va_D A [(h0, .inr (11, [.int h0_thrown, .ref h0_tape, .int h0_taped, .int h0_size, .int h0_limit, .int y390_1, .int y390_2, .int y390_0, .int y390_3, .int h0_sign, .int h0_fault, .int h0_place, .long y390_4, .int h0_told, .ref h0_now, .ref h0_read, .ref h0_kept, .ref h0_snaps, .ref h0_aside, .ref h0_name, .ref h0_readName, .ref h0_keptName, .ref h0_isKept, .ref h0_onces, .int h0_snapMany, .int h0_lowest, .int h0_highest, .int h0_agreed, .int h0_jurors, .int h0_panelled, .ref h0_inSets, .int h0_surely, .int h0_asked, .ref h0_frees, .int h0_struck, .int h0_beating, .ref h0_text, .int h0_texts, .int h0_seed, .ref h0_line, .ref h0_written, .int h0_lineMany, .int h0_hasWritten, .ref h0_node, .int h0_nodes, .int h0_onesMany, .int h0_within, .int h0_top])), (aI ca h0_tape 940 F_h0_tape)] := hD
    exact oE_v hx hb hr hlocks hP hD hS (y390_1, y390_2, y390_0, y390_3, h0_sign, y390_4) [0, 1] rfl (by decide) ⟨(rgw (lo := 0) (hi := 940) hy390_1 (by decide) (by decide)), (rgw (lo := (-2147483648)) (hi := 940) hy390_2 (by decide) (by decide)), (rgw (lo := 0) (hi := 4) hy390_0 (by decide) (by decide)), (show rl 0 h0_to y390_1 from rlm (by have q0 := rle py390_1_h0_to; omega)), (show lk h0_to y390_0 y390_1 from lkm (by have z0 := (hy390_0).2; have q0 := rle py390_1_h0_to; omega))⟩ (Nat.le_of_ble_eq_true rfl) (Nat.le_of_ble_eq_true rfl) dX12_go_393
  have J377_933 : ∀ (y377_0 : Int32) (y377_1 : Int32) (y377_2 : Int32) (y377_3 : Int64), rg 1 940 y377_0 → rl 1 h0_to y377_0 → rg 0 940 y377_1 → rl 0 h0_to y377_1 → rg 0 2147483647 h0_limit → rg 1 940 h0_size → ∀ (H : Heap) (locs : List Loc) (ls : Array Slot), va_P D vwCl [(h0, .inr (11, [.int h0_thrown, .ref h0_tape, .int h0_taped, .int h0_size, .int h0_limit, .int y377_0, .int y377_1, .int h0_kind, .int y377_2, .int h0_sign, .int h0_fault, .int h0_place, .long y377_3, .int h0_told, .ref h0_now, .ref h0_read, .ref h0_kept, .ref h0_snaps, .ref h0_aside, .ref h0_name, .ref h0_readName, .ref h0_keptName, .ref h0_isKept, .ref h0_onces, .int h0_snapMany, .int h0_lowest, .int h0_highest, .int h0_agreed, .int h0_jurors, .int h0_panelled, .ref h0_inSets, .int h0_surely, .int h0_asked, .ref h0_frees, .int h0_struck, .int h0_beating, .ref h0_text, .int h0_texts, .int h0_seed, .ref h0_line, .ref h0_written, .int h0_lineMany, .int h0_hasWritten, .ref h0_node, .int h0_nodes, .int h0_onesMany, .int h0_within, .int h0_top])), (aI ca h0_tape 940 F_h0_tape)] H → va_D A [(h0, .inr (11, [.int h0_thrown, .ref h0_tape, .int h0_taped, .int h0_size, .int h0_limit, .int y377_0, .int y377_1, .int h0_kind, .int y377_2, .int h0_sign, .int h0_fault, .int h0_place, .long y377_3, .int h0_told, .ref h0_now, .ref h0_read, .ref h0_kept, .ref h0_snaps, .ref h0_aside, .ref h0_name, .ref h0_readName, .ref h0_keptName, .ref h0_isKept, .ref h0_onces, .int h0_snapMany, .int h0_lowest, .int h0_highest, .int h0_agreed, .int h0_jurors, .int h0_panelled, .ref h0_inSets, .int h0_surely, .int h0_asked, .ref h0_frees, .int h0_struck, .int h0_beating, .ref h0_text, .int h0_texts, .int h0_seed, .ref h0_line, .ref h0_written, .int h0_lineMany, .int h0_hasWritten, .ref h0_node, .int h0_nodes, .int h0_onesMany, .int h0_within, .int h0_top])), (aI ca h0_tape 940 F_h0_tape)] → va_S A s.heap H locs → lv_has ls 5 [] → W p l e ({ frames := 1, cells := 0, slots := 0, locals := 21 } : Room) s m ([.ref h0] : List Value).toArray below meth c H locs 0 0 (MQ below ((oQv D (fun (u : Int32 × Int32 × Int32 × Int32 × Int32 × Int64) => (rg 0 940 u.1) ∧ (rg (-2147483648) 940 u.2.1) ∧ (rg 0 4 u.2.2.1) ∧ (rl 0 h0_to u.1) ∧ (lk h0_to u.2.2.1 u.1)) (fun (u : Int32 × Int32 × Int32 × Int32 × Int32 × Int64) => [(h0, .inr (11, [.int h0_thrown, .ref h0_tape, .int h0_taped, .int h0_size, .int h0_limit, .int u.1, .int u.2.1, .int u.2.2.1, .int u.2.2.2.1, .int u.2.2.2.2.1, .int h0_fault, .int h0_place, .long u.2.2.2.2.2, .int h0_told, .ref h0_now, .ref h0_read, .ref h0_kept, .ref h0_snaps, .ref h0_aside, .ref h0_name, .ref h0_readName, .ref h0_keptName, .ref h0_isKept, .ref h0_onces, .int h0_snapMany, .int h0_lowest, .int h0_highest, .int h0_agreed, .int h0_jurors, .int h0_panelled, .ref h0_inSets, .int h0_surely, .int h0_asked, .ref h0_frees, .int h0_struck, .int h0_beating, .ref h0_text, .int h0_texts, .int h0_seed, .ref h0_line, .ref h0_written, .int h0_lineMany, .int h0_hasWritten, .ref h0_node, .int h0_nodes, .int h0_onesMany, .int h0_within, .int h0_top])), (aI ca h0_tape 940 F_h0_tape)])) A) ([.ref h0] : List Value).toArray s 0 0 A) (F0 m 377 ls [.ref h0]) := by
    intro y377_0 y377_1 y377_2 y377_3 hy377_0 py377_0_h0_to hy377_1 py377_1_h0_to t377_h0_limit t377_h0_size H locs ls hP hD hS hl
    refine lv_iconst (v := 1) hx hb dX12_go_377 (by decide) ?_
    refine lv_goto (tgt := 390) hx hb dX12_go_378 (by decide) ?_
    exact J390_932 1 y377_0 y377_1 y377_2 y377_3 (⟨by decide, by decide⟩ : rg 1 3 (1 : Int32)) hy377_0 (rlm (by have q0 := rle py377_0_h0_to; omega)) hy377_1 (rlm (by have q0 := rle py377_1_h0_to; omega)) t377_h0_limit t377_h0_size H locs ls (oPsub hP [0, 1] rfl) (hD.sub [0, 1] (by decide) rfl) hS (lv_sub hl [] rfl)
  have J374_934 : ∀ (y374_0 : Int32) (y374_1 : Int32) (y374_2 : Int32) (y374_3 : Int32) (y374_4 : Int32) (y374_5 : Int32) (y374_6 : Int64), rg 0 1 y374_0 → rg 3 7 y374_1 → rg (-939) 940 y374_2 → rg 1 940 y374_3 → rl 1 h0_to y374_3 → rg 0 940 y374_4 → rl 0 h0_to y374_4 → rg 0 2147483647 h0_limit → rg 1 940 h0_size → ∀ (H : Heap) (locs : List Loc) (ls : Array Slot), va_P D vwCl [(h0, .inr (11, [.int h0_thrown, .ref h0_tape, .int h0_taped, .int h0_size, .int h0_limit, .int y374_3, .int y374_4, .int h0_kind, .int y374_5, .int h0_sign, .int h0_fault, .int h0_place, .long y374_6, .int h0_told, .ref h0_now, .ref h0_read, .ref h0_kept, .ref h0_snaps, .ref h0_aside, .ref h0_name, .ref h0_readName, .ref h0_keptName, .ref h0_isKept, .ref h0_onces, .int h0_snapMany, .int h0_lowest, .int h0_highest, .int h0_agreed, .int h0_jurors, .int h0_panelled, .ref h0_inSets, .int h0_surely, .int h0_asked, .ref h0_frees, .int h0_struck, .int h0_beating, .ref h0_text, .int h0_texts, .int h0_seed, .ref h0_line, .ref h0_written, .int h0_lineMany, .int h0_hasWritten, .ref h0_node, .int h0_nodes, .int h0_onesMany, .int h0_within, .int h0_top])), (aI ca h0_tape 940 F_h0_tape)] H → va_D A [(h0, .inr (11, [.int h0_thrown, .ref h0_tape, .int h0_taped, .int h0_size, .int h0_limit, .int y374_3, .int y374_4, .int h0_kind, .int y374_5, .int h0_sign, .int h0_fault, .int h0_place, .long y374_6, .int h0_told, .ref h0_now, .ref h0_read, .ref h0_kept, .ref h0_snaps, .ref h0_aside, .ref h0_name, .ref h0_readName, .ref h0_keptName, .ref h0_isKept, .ref h0_onces, .int h0_snapMany, .int h0_lowest, .int h0_highest, .int h0_agreed, .int h0_jurors, .int h0_panelled, .ref h0_inSets, .int h0_surely, .int h0_asked, .ref h0_frees, .int h0_struck, .int h0_beating, .ref h0_text, .int h0_texts, .int h0_seed, .ref h0_line, .ref h0_written, .int h0_lineMany, .int h0_hasWritten, .ref h0_node, .int h0_nodes, .int h0_onesMany, .int h0_within, .int h0_top])), (aI ca h0_tape 940 F_h0_tape)] → va_S A s.heap H locs → lv_has ls 5 [(2, .int y374_0)] → W p l e ({ frames := 1, cells := 0, slots := 0, locals := 21 } : Room) s m ([.ref h0] : List Value).toArray below meth c H locs 0 0 (MQ below ((oQv D (fun (u : Int32 × Int32 × Int32 × Int32 × Int32 × Int64) => (rg 0 940 u.1) ∧ (rg (-2147483648) 940 u.2.1) ∧ (rg 0 4 u.2.2.1) ∧ (rl 0 h0_to u.1) ∧ (lk h0_to u.2.2.1 u.1)) (fun (u : Int32 × Int32 × Int32 × Int32 × Int32 × Int64) => [(h0, .inr (11, [.int h0_thrown, .ref h0_tape, .int h0_taped, .int h0_size, .int h0_limit, .int u.1, .int u.2.1, .int u.2.2.1, .int u.2.2.2.1, .int u.2.2.2.2.1, .int h0_fault, .int h0_place, .long u.2.2.2.2.2, .int h0_told, .ref h0_now, .ref h0_read, .ref h0_kept, .ref h0_snaps, .ref h0_aside, .ref h0_name, .ref h0_readName, .ref h0_keptName, .ref h0_isKept, .ref h0_onces, .int h0_snapMany, .int h0_lowest, .int h0_highest, .int h0_agreed, .int h0_jurors, .int h0_panelled, .ref h0_inSets, .int h0_surely, .int h0_asked, .ref h0_frees, .int h0_struck, .int h0_beating, .ref h0_text, .int h0_texts, .int h0_seed, .ref h0_line, .ref h0_written, .int h0_lineMany, .int h0_hasWritten, .ref h0_node, .int h0_nodes, .int h0_onesMany, .int h0_within, .int h0_top])), (aI ca h0_tape 940 F_h0_tape)])) A) ([.ref h0] : List Value).toArray s 0 0 A) (F0 m 374 ls [.int y374_1, .int y374_2, .ref h0]) := by
    intro y374_0 y374_1 y374_2 y374_3 y374_4 y374_5 y374_6 hy374_0 hy374_1 hy374_2 hy374_3 py374_3_h0_to hy374_4 py374_4_h0_to t374_h0_limit t374_h0_size H locs ls hP hD hS hl
    refine lv_icmp_le (tgt := 381) hx hb dX12_go_374 (by decide) (fun c_935 => ?_) (fun c_935 => ?_)
    · skip
      have o_936 : rl 0 y374_2 y374_1 := rl_le c_935
      have h_937 : rg (-939) 7 y374_2 := rl_x o_936 hy374_2 hy374_1 (by decide) (by decide)
      refine lv_iload_n hx hb dX12_go_381 rfl (lv_at hl 0 rfl) ?_
      refine lv_if_eq (tgt := 389) hx hb dX12_go_382 (by decide) (fun c_938 => ?_) (fun c_938 => ?_)
      · skip
        have o_939 : rl 0 y374_0 0 := rl_eq c_938
        have h_940 : rg 0 0 y374_0 := rl_x o_939 hy374_0 (⟨by decide, by decide⟩ : rg 0 0 (0 : Int32)) (by decide) (by decide)
        have o_941 : rl 0 0 y374_0 := rl_eq c_938.symm
        refine lv_iconst (v := 3) hx hb dX12_go_389 (by decide) ?_
        exact J390_932 3 y374_3 y374_4 y374_5 y374_6 (⟨by decide, by decide⟩ : rg 1 3 (3 : Int32)) hy374_3 (rlm (by have q0 := rle py374_3_h0_to; omega)) hy374_4 (rlm (by have q0 := rle py374_4_h0_to; omega)) t374_h0_limit t374_h0_size H locs ls (oPsub hP [0, 1] rfl) (hD.sub [0, 1] (by decide) rfl) hS (lv_sub hl [] rfl)
      · skip
        have h_942 : rg 1 1 y374_0 := cl_nlo c_938 hy374_0 (show (0 : Int32).toInt = 0 by decide) (by decide) (by decide)
        refine lv_iconst (v := 2) hx hb dX12_go_385 (by decide) ?_
        refine lv_goto (tgt := 390) hx hb dX12_go_386 (by decide) ?_
        exact J390_932 2 y374_3 y374_4 y374_5 y374_6 (⟨by decide, by decide⟩ : rg 1 3 (2 : Int32)) hy374_3 (rlm (by have q0 := rle py374_3_h0_to; omega)) hy374_4 (rlm (by have q0 := rle py374_4_h0_to; omega)) t374_h0_limit t374_h0_size H locs ls (oPsub hP [0, 1] rfl) (hD.sub [0, 1] (by decide) rfl) hS (lv_sub hl [] rfl)
    · skip
      have o_943 : rl 1 y374_1 y374_2 := rl_nle c_935
      have h_944 : rg 4 940 y374_2 := rl_y o_943 hy374_1 hy374_2 (by decide) (by decide)
      exact J377_933 y374_3 y374_4 y374_5 y374_6 hy374_3 (rlm (by have q0 := rle py374_3_h0_to; omega)) hy374_4 (rlm (by have q0 := rle py374_4_h0_to; omega)) t374_h0_limit t374_h0_size H locs ls (oPsub hP [0, 1] rfl) (hD.sub [0, 1] (by decide) rfl) hS (lv_sub hl [] rfl)
  have J215_945 : ∀ (n : Nat) (y215_0 : Int32) (y215_1 : Int32) (y215_2 : Int32) (y215_3 : Int32) (y215_4 : Int32) (y215_5 : Int64), True → rg 0 1 y215_0 → rg 0 1 y215_1 → rg 1 940 y215_2 → rl 1 h0_to y215_2 → rg 0 940 y215_3 → rl 0 h0_to y215_3 → rg 0 2147483647 h0_limit → rg 1 940 h0_size → 940 < y215_2.toInt + (n : Int) → ∀ (H : Heap) (locs : List Loc) (ls : Array Slot), va_P D vwCl [(h0, .inr (11, [.int h0_thrown, .ref h0_tape, .int h0_taped, .int h0_size, .int h0_limit, .int y215_2, .int y215_3, .int h0_kind, .int y215_4, .int h0_sign, .int h0_fault, .int h0_place, .long y215_5, .int h0_told, .ref h0_now, .ref h0_read, .ref h0_kept, .ref h0_snaps, .ref h0_aside, .ref h0_name, .ref h0_readName, .ref h0_keptName, .ref h0_isKept, .ref h0_onces, .int h0_snapMany, .int h0_lowest, .int h0_highest, .int h0_agreed, .int h0_jurors, .int h0_panelled, .ref h0_inSets, .int h0_surely, .int h0_asked, .ref h0_frees, .int h0_struck, .int h0_beating, .ref h0_text, .int h0_texts, .int h0_seed, .ref h0_line, .ref h0_written, .int h0_lineMany, .int h0_hasWritten, .ref h0_node, .int h0_nodes, .int h0_onesMany, .int h0_within, .int h0_top])), (aI ca h0_tape 940 F_h0_tape)] H → va_D A [(h0, .inr (11, [.int h0_thrown, .ref h0_tape, .int h0_taped, .int h0_size, .int h0_limit, .int y215_2, .int y215_3, .int h0_kind, .int y215_4, .int h0_sign, .int h0_fault, .int h0_place, .long y215_5, .int h0_told, .ref h0_now, .ref h0_read, .ref h0_kept, .ref h0_snaps, .ref h0_aside, .ref h0_name, .ref h0_readName, .ref h0_keptName, .ref h0_isKept, .ref h0_onces, .int h0_snapMany, .int h0_lowest, .int h0_highest, .int h0_agreed, .int h0_jurors, .int h0_panelled, .ref h0_inSets, .int h0_surely, .int h0_asked, .ref h0_frees, .int h0_struck, .int h0_beating, .ref h0_text, .int h0_texts, .int h0_seed, .ref h0_line, .ref h0_written, .int h0_lineMany, .int h0_hasWritten, .ref h0_node, .int h0_nodes, .int h0_onesMany, .int h0_within, .int h0_top])), (aI ca h0_tape 940 F_h0_tape)] → va_S A s.heap H locs → lv_has ls 5 [(0, .ref h0), (2, .int y215_0), (3, .int y215_1)] → W p l e ({ frames := 1, cells := 0, slots := 0, locals := 21 } : Room) s m ([.ref h0] : List Value).toArray below meth c H locs 0 0 (MQ below ((oQv D (fun (u : Int32 × Int32 × Int32 × Int32 × Int32 × Int64) => (rg 0 940 u.1) ∧ (rg (-2147483648) 940 u.2.1) ∧ (rg 0 4 u.2.2.1) ∧ (rl 0 h0_to u.1) ∧ (lk h0_to u.2.2.1 u.1)) (fun (u : Int32 × Int32 × Int32 × Int32 × Int32 × Int64) => [(h0, .inr (11, [.int h0_thrown, .ref h0_tape, .int h0_taped, .int h0_size, .int h0_limit, .int u.1, .int u.2.1, .int u.2.2.1, .int u.2.2.2.1, .int u.2.2.2.2.1, .int h0_fault, .int h0_place, .long u.2.2.2.2.2, .int h0_told, .ref h0_now, .ref h0_read, .ref h0_kept, .ref h0_snaps, .ref h0_aside, .ref h0_name, .ref h0_readName, .ref h0_keptName, .ref h0_isKept, .ref h0_onces, .int h0_snapMany, .int h0_lowest, .int h0_highest, .int h0_agreed, .int h0_jurors, .int h0_panelled, .ref h0_inSets, .int h0_surely, .int h0_asked, .ref h0_frees, .int h0_struck, .int h0_beating, .ref h0_text, .int h0_texts, .int h0_seed, .ref h0_line, .ref h0_written, .int h0_lineMany, .int h0_hasWritten, .ref h0_node, .int h0_nodes, .int h0_onesMany, .int h0_within, .int h0_top])), (aI ca h0_tape 940 F_h0_tape)])) A) ([.ref h0] : List Value).toArray s 0 0 A) (F0 m 215 ls []) := by
    intro n
    induction n with
    | zero => intro y215_0 y215_1 y215_2 y215_3 y215_4 y215_5 _ hy215_0 hy215_1 hy215_2 py215_2_h0_to hy215_3 py215_3_h0_to t215_h0_limit t215_h0_size hn; exact absurd hn (by have q9 := hy215_2.2; omega)
    | succ n ih =>
      intro y215_0 y215_1 y215_2 y215_3 y215_4 y215_5 _ hy215_0 hy215_1 hy215_2 py215_2_h0_to hy215_3 py215_3_h0_to t215_h0_limit t215_h0_size hn H locs ls hP hD hS hl
      have J337_1141 : ∀ (y337_0 : Int32) (y337_1 : Int32) (y337_2 : Int64), rg 0 1 y337_0 → rg 2 940 h0_size → rg 1 939 y215_2 → rl 1 y215_2 h0_size → ∀ (H : Heap) (locs : List Loc) (ls : Array Slot), va_P D vwCl [(h0, .inr (11, [.int h0_thrown, .ref h0_tape, .int h0_taped, .int h0_size, .int h0_limit, .int y215_2, .int y215_3, .int h0_kind, .int y337_1, .int h0_sign, .int h0_fault, .int h0_place, .long y337_2, .int h0_told, .ref h0_now, .ref h0_read, .ref h0_kept, .ref h0_snaps, .ref h0_aside, .ref h0_name, .ref h0_readName, .ref h0_keptName, .ref h0_isKept, .ref h0_onces, .int h0_snapMany, .int h0_lowest, .int h0_highest, .int h0_agreed, .int h0_jurors, .int h0_panelled, .ref h0_inSets, .int h0_surely, .int h0_asked, .ref h0_frees, .int h0_struck, .int h0_beating, .ref h0_text, .int h0_texts, .int h0_seed, .ref h0_line, .ref h0_written, .int h0_lineMany, .int h0_hasWritten, .ref h0_node, .int h0_nodes, .int h0_onesMany, .int h0_within, .int h0_top])), (aI ca h0_tape 940 F_h0_tape)] H → va_D A [(h0, .inr (11, [.int h0_thrown, .ref h0_tape, .int h0_taped, .int h0_size, .int h0_limit, .int y215_2, .int y215_3, .int h0_kind, .int y337_1, .int h0_sign, .int h0_fault, .int h0_place, .long y337_2, .int h0_told, .ref h0_now, .ref h0_read, .ref h0_kept, .ref h0_snaps, .ref h0_aside, .ref h0_name, .ref h0_readName, .ref h0_keptName, .ref h0_isKept, .ref h0_onces, .int h0_snapMany, .int h0_lowest, .int h0_highest, .int h0_agreed, .int h0_jurors, .int h0_panelled, .ref h0_inSets, .int h0_surely, .int h0_asked, .ref h0_frees, .int h0_struck, .int h0_beating, .ref h0_text, .int h0_texts, .int h0_seed, .ref h0_line, .ref h0_written, .int h0_lineMany, .int h0_hasWritten, .ref h0_node, .int h0_nodes, .int h0_onesMany, .int h0_within, .int h0_top])), (aI ca h0_tape 940 F_h0_tape)] → va_S A s.heap H locs → lv_has ls 5 [(0, .ref h0), (2, .int y215_0), (3, .int y337_0)] → W p l e ({ frames := 1, cells := 0, slots := 0, locals := 21 } : Room) s m ([.ref h0] : List Value).toArray below meth c H locs 0 0 (MQ below ((oQv D (fun (u : Int32 × Int32 × Int32 × Int32 × Int32 × Int64) => (rg 0 940 u.1) ∧ (rg (-2147483648) 940 u.2.1) ∧ (rg 0 4 u.2.2.1) ∧ (rl 0 h0_to u.1) ∧ (lk h0_to u.2.2.1 u.1)) (fun (u : Int32 × Int32 × Int32 × Int32 × Int32 × Int64) => [(h0, .inr (11, [.int h0_thrown, .ref h0_tape, .int h0_taped, .int h0_size, .int h0_limit, .int u.1, .int u.2.1, .int u.2.2.1, .int u.2.2.2.1, .int u.2.2.2.2.1, .int h0_fault, .int h0_place, .long u.2.2.2.2.2, .int h0_told, .ref h0_now, .ref h0_read, .ref h0_kept, .ref h0_snaps, .ref h0_aside, .ref h0_name, .ref h0_readName, .ref h0_keptName, .ref h0_isKept, .ref h0_onces, .int h0_snapMany, .int h0_lowest, .int h0_highest, .int h0_agreed, .int h0_jurors, .int h0_panelled, .ref h0_inSets, .int h0_surely, .int h0_asked, .ref h0_frees, .int h0_struck, .int h0_beating, .ref h0_text, .int h0_texts, .int h0_seed, .ref h0_line, .ref h0_written, .int h0_lineMany, .int h0_hasWritten, .ref h0_node, .int h0_nodes, .int h0_onesMany, .int h0_within, .int h0_top])), (aI ca h0_tape 940 F_h0_tape)])) A) ([.ref h0] : List Value).toArray s 0 0 A) (F0 m 337 ls []) := by
        intro y337_0 y337_1 y337_2 hy337_0 t337_h0_size t337_y215_2 o337_y215_2_h0_size H locs ls hP hD hS hl
        refine lv_aload_n hx hb dX12_go_337 rfl (lv_at hl 0 rfl) ?_
        refine lv_dup hx hb dX12_go_338 rfl ?_
        refine va_get (D := D) (ci := 11) (v := .int y215_2) (C := RX12) (T := TX12) (N := 48) hx hb hts k2 hown hK.1 hP 0 rfl rfl 5 (by decide) k3 (fun _ h9 => h9) rfl dX12_go_339 ?_
        refine lv_iconst (v := 1) hx hb dX12_go_342 (by decide) ?_
        refine lv_iadd hx hb dX12_go_343 ?_
        refine lv_topi (fun x_1142 ex_1142 => ?_)
        have h_1143 : rg 2 940 x_1142 := by rw [ex_1142]; exact rg_add t337_y215_2 (⟨by decide, by decide⟩ : rg 1 1 (1 : Int32)) (by decide) (by decide) (by decide) (by decide)
        have l_1144 : lq x_1142.toInt (y215_2.toInt + 1) := lqm (by rw [ex_1142]; have q := tadd t337_y215_2 (⟨by decide, by decide⟩ : rg 1 1 (1 : Int32)) (by decide) (by decide); have r1 := lqe (lqm (by decide) : lq (1 : Int32).toInt 1); omega)
        refine va_put (D := D) (ci := 11) (v := .int x_1142) (ty := .int) (C := RX12) (T := TX12) (N := 48) hx hb hts k2 tyX12 tyX12_ok nmX12 hown hK.1 hP hD hS 0 rfl rfl 5 (by decide) k3 (fun _ h9 => h9) rfl (by decide +kernel) rfl rfl (Nat.le_of_ble_eq_true rfl) dX12_go_344 (fun H locs hP hD hS => ?_)
        have hP : va_P D vwCl [(h0, .inr (11, [.int h0_thrown, .ref h0_tape, .int h0_taped, .int h0_size, .int h0_limit, .int x_1142, .int y215_3, .int h0_kind, .int y337_1, .int h0_sign, .int h0_fault, .int h0_place, .long y337_2, .int h0_told, .ref h0_now, .ref h0_read, .ref h0_kept, .ref h0_snaps, .ref h0_aside, .ref h0_name, .ref h0_readName, .ref h0_keptName, .ref h0_isKept, .ref h0_onces, .int h0_snapMany, .int h0_lowest, .int h0_highest, .int h0_agreed, .int h0_jurors, .int h0_panelled, .ref h0_inSets, .int h0_surely, .int h0_asked, .ref h0_frees, .int h0_struck, .int h0_beating, .ref h0_text, .int h0_texts, .int h0_seed, .ref h0_line, .ref h0_written, .int h0_lineMany, .int h0_hasWritten, .ref h0_node, .int h0_nodes, .int h0_onesMany, .int h0_within, .int h0_top])), (aI ca h0_tape 940 F_h0_tape)] H := hP
        have hD : va_D A [(h0, .inr (11, [.int h0_thrown, .ref h0_tape, .int h0_taped, .int h0_size, .int h0_limit, .int x_1142, .int y215_3, .int h0_kind, .int y337_1, .int h0_sign, .int h0_fault, .int h0_place, .long y337_2, .int h0_told, .ref h0_now, .ref h0_read, .ref h0_kept, .ref h0_snaps, .ref h0_aside, .ref h0_name, .ref h0_readName, .ref h0_keptName, .ref h0_isKept, .ref h0_onces, .int h0_snapMany, .int h0_lowest, .int h0_highest, .int h0_agreed, .int h0_jurors, .int h0_panelled, .ref h0_inSets, .int h0_surely, .int h0_asked, .ref h0_frees, .int h0_struck, .int h0_beating, .ref h0_text, .int h0_texts, .int h0_seed, .ref h0_line, .ref h0_written, .int h0_lineMany, .int h0_hasWritten, .ref h0_node, .int h0_nodes, .int h0_onesMany, .int h0_within, .int h0_top])), (aI ca h0_tape 940 F_h0_tape)] := hD
        refine lv_goto (tgt := 215) hx hb dX12_go_347 (by decide) ?_
        exact ih y215_0 y337_0 x_1142 y215_3 y337_1 y337_2 trivial hy215_0 hy337_0 (rgw (lo := 1) (hi := 940) h_1143 (by decide) (by decide)) (rlm (by have q0 := lqe l_1144; have q1 := rle py215_2_h0_to; omega)) hy215_3 (rlm (by have q0 := rle py215_3_h0_to; omega)) t215_h0_limit (rgw (lo := 1) (hi := 940) t337_h0_size (by decide) (by decide)) (by have q0 := lqe l_1144; omega) H locs ls (oPsub hP [0, 1] rfl) (hD.sub [0, 1] (by decide) rfl) hS (lv_sub hl [0, 1, 2] rfl)
      have J307_1145 : ∀ (y307_0 : Int32) (y307_1 : Int32) (y307_2 : Int64), rg 0 1 y307_0 → rg 0 255 y307_1 → rg 2 940 h0_size → rg 1 939 y215_2 → rl 1 y215_2 h0_size → ∀ (H : Heap) (locs : List Loc) (ls : Array Slot), va_P D vwCl [(h0, .inr (11, [.int h0_thrown, .ref h0_tape, .int h0_taped, .int h0_size, .int h0_limit, .int y215_2, .int y215_3, .int h0_kind, .int y215_4, .int h0_sign, .int h0_fault, .int h0_place, .long y307_2, .int h0_told, .ref h0_now, .ref h0_read, .ref h0_kept, .ref h0_snaps, .ref h0_aside, .ref h0_name, .ref h0_readName, .ref h0_keptName, .ref h0_isKept, .ref h0_onces, .int h0_snapMany, .int h0_lowest, .int h0_highest, .int h0_agreed, .int h0_jurors, .int h0_panelled, .ref h0_inSets, .int h0_surely, .int h0_asked, .ref h0_frees, .int h0_struck, .int h0_beating, .ref h0_text, .int h0_texts, .int h0_seed, .ref h0_line, .ref h0_written, .int h0_lineMany, .int h0_hasWritten, .ref h0_node, .int h0_nodes, .int h0_onesMany, .int h0_within, .int h0_top])), (aI ca h0_tape 940 F_h0_tape)] H → va_D A [(h0, .inr (11, [.int h0_thrown, .ref h0_tape, .int h0_taped, .int h0_size, .int h0_limit, .int y215_2, .int y215_3, .int h0_kind, .int y215_4, .int h0_sign, .int h0_fault, .int h0_place, .long y307_2, .int h0_told, .ref h0_now, .ref h0_read, .ref h0_kept, .ref h0_snaps, .ref h0_aside, .ref h0_name, .ref h0_readName, .ref h0_keptName, .ref h0_isKept, .ref h0_onces, .int h0_snapMany, .int h0_lowest, .int h0_highest, .int h0_agreed, .int h0_jurors, .int h0_panelled, .ref h0_inSets, .int h0_surely, .int h0_asked, .ref h0_frees, .int h0_struck, .int h0_beating, .ref h0_text, .int h0_texts, .int h0_seed, .ref h0_line, .ref h0_written, .int h0_lineMany, .int h0_hasWritten, .ref h0_node, .int h0_nodes, .int h0_onesMany, .int h0_within, .int h0_top])), (aI ca h0_tape 940 F_h0_tape)] → va_S A s.heap H locs → lv_has ls 5 [(0, .ref h0), (2, .int y215_0), (3, .int y307_0), (4, .int y307_1)] → W p l e ({ frames := 1, cells := 0, slots := 0, locals := 21 } : Room) s m ([.ref h0] : List Value).toArray below meth c H locs 0 0 (MQ below ((oQv D (fun (u : Int32 × Int32 × Int32 × Int32 × Int32 × Int64) => (rg 0 940 u.1) ∧ (rg (-2147483648) 940 u.2.1) ∧ (rg 0 4 u.2.2.1) ∧ (rl 0 h0_to u.1) ∧ (lk h0_to u.2.2.1 u.1)) (fun (u : Int32 × Int32 × Int32 × Int32 × Int32 × Int64) => [(h0, .inr (11, [.int h0_thrown, .ref h0_tape, .int h0_taped, .int h0_size, .int h0_limit, .int u.1, .int u.2.1, .int u.2.2.1, .int u.2.2.2.1, .int u.2.2.2.2.1, .int h0_fault, .int h0_place, .long u.2.2.2.2.2, .int h0_told, .ref h0_now, .ref h0_read, .ref h0_kept, .ref h0_snaps, .ref h0_aside, .ref h0_name, .ref h0_readName, .ref h0_keptName, .ref h0_isKept, .ref h0_onces, .int h0_snapMany, .int h0_lowest, .int h0_highest, .int h0_agreed, .int h0_jurors, .int h0_panelled, .ref h0_inSets, .int h0_surely, .int h0_asked, .ref h0_frees, .int h0_struck, .int h0_beating, .ref h0_text, .int h0_texts, .int h0_seed, .ref h0_line, .ref h0_written, .int h0_lineMany, .int h0_hasWritten, .ref h0_node, .int h0_nodes, .int h0_onesMany, .int h0_within, .int h0_top])), (aI ca h0_tape 940 F_h0_tape)])) A) ([.ref h0] : List Value).toArray s 0 0 A) (F0 m 307 ls []) := by
        intro y307_0 y307_1 y307_2 hy307_0 hy307_1 t307_h0_size t307_y215_2 o307_y215_2_h0_size H locs ls hP hD hS hl
        refine lv_aload_n hx hb dX12_go_307 rfl (lv_at hl 0 rfl) ?_
        refine va_get (D := D) (ci := 11) (v := .int y215_2) (C := RX12) (T := TX12) (N := 48) hx hb hts k2 hown hK.1 hP 0 rfl rfl 5 (by decide) k3 (fun _ h9 => h9) rfl dX12_go_308 ?_
        refine lv_aload_n hx hb dX12_go_311 rfl (lv_at hl 0 rfl) ?_
        refine va_get (D := D) (ci := 11) (v := .int y215_3) (C := RX12) (T := TX12) (N := 48) hx hb hts k2 hown hK.1 hP 0 rfl rfl 6 (by decide) k4 (fun _ h9 => h9) rfl dX12_go_312 ?_
        refine lv_isub hx hb dX12_go_315 ?_
        refine lv_topi (fun x_1146 ex_1146 => ?_)
        have h_1147 : rg (-939) 939 x_1146 := by rw [ex_1146]; exact rg_sub t307_y215_2 hy215_3 (by decide) (by decide) (by decide) (by decide)
        have l_1148 : lq x_1146.toInt (y215_2.toInt + (-1) * y215_3.toInt) := lqm (by rw [ex_1146]; have q := tsub t307_y215_2 hy215_3 (by decide) (by decide); omega)
        refine lv_iconst (v := 3) hx hb dX12_go_316 (by decide) ?_
        refine lv_icmp_ge (tgt := 337) hx hb dX12_go_317 (by decide) (fun c_1149 => ?_) (fun c_1149 => ?_)
        · skip
          have o_1150 : rl 0 3 x_1146 := rl_le c_1149
          have h_1151 : rg 3 939 x_1146 := rl_y o_1150 (⟨by decide, by decide⟩ : rg 3 3 (3 : Int32)) h_1147 (by decide) (by decide)
          exact J337_1141 y307_0 y215_4 y307_2 hy307_0 t307_h0_size t307_y215_2 o307_y215_2_h0_size H locs ls (oPsub hP [0, 1] rfl) (hD.sub [0, 1] (by decide) rfl) hS (lv_sub hl [0, 1, 2] rfl)
        · skip
          have o_1152 : rl 1 x_1146 3 := rl_nle c_1149
          have h_1153 : rg (-939) 2 x_1146 := rl_x o_1152 h_1147 (⟨by decide, by decide⟩ : rg 3 3 (3 : Int32)) (by decide) (by decide)
          refine lv_aload_n hx hb dX12_go_320 rfl (lv_at hl 0 rfl) ?_
          refine lv_bipush (v := 10) hx hb dX12_go_321 (by decide) ?_
          refine lv_aload_n hx hb dX12_go_323 rfl (lv_at hl 0 rfl) ?_
          refine va_get (D := D) (ci := 11) (v := .int y215_4) (C := RX12) (T := TX12) (N := 48) hx hb hts k2 hown hK.1 hP 0 rfl rfl 8 (by decide) k5 (fun _ h9 => h9) rfl dX12_go_324 ?_
          refine lv_imul hx hb dX12_go_327 ?_
          refine lv_topi (fun x_1154 ex_1154 => ?_)
          refine lv_iload hx hb dX12_go_328 (lv_at hl 3 rfl) ?_
          refine lv_iadd hx hb dX12_go_330 ?_
          refine lv_topi (fun x_1155 ex_1155 => ?_)
          refine lv_bipush (v := 48) hx hb dX12_go_331 (by decide) ?_
          refine lv_isub hx hb dX12_go_333 ?_
          refine lv_topi (fun x_1156 ex_1156 => ?_)
          refine va_put (D := D) (ci := 11) (v := .int x_1156) (ty := .int) (C := RX12) (T := TX12) (N := 48) hx hb hts k2 tyX12 tyX12_ok nmX12 hown hK.1 hP hD hS 0 rfl rfl 8 (by decide) k5 (fun _ h9 => h9) rfl (by decide +kernel) rfl rfl (Nat.le_of_ble_eq_true rfl) dX12_go_334 (fun H locs hP hD hS => ?_)
          have hP : va_P D vwCl [(h0, .inr (11, [.int h0_thrown, .ref h0_tape, .int h0_taped, .int h0_size, .int h0_limit, .int y215_2, .int y215_3, .int h0_kind, .int x_1156, .int h0_sign, .int h0_fault, .int h0_place, .long y307_2, .int h0_told, .ref h0_now, .ref h0_read, .ref h0_kept, .ref h0_snaps, .ref h0_aside, .ref h0_name, .ref h0_readName, .ref h0_keptName, .ref h0_isKept, .ref h0_onces, .int h0_snapMany, .int h0_lowest, .int h0_highest, .int h0_agreed, .int h0_jurors, .int h0_panelled, .ref h0_inSets, .int h0_surely, .int h0_asked, .ref h0_frees, .int h0_struck, .int h0_beating, .ref h0_text, .int h0_texts, .int h0_seed, .ref h0_line, .ref h0_written, .int h0_lineMany, .int h0_hasWritten, .ref h0_node, .int h0_nodes, .int h0_onesMany, .int h0_within, .int h0_top])), (aI ca h0_tape 940 F_h0_tape)] H := hP
          have hD : va_D A [(h0, .inr (11, [.int h0_thrown, .ref h0_tape, .int h0_taped, .int h0_size, .int h0_limit, .int y215_2, .int y215_3, .int h0_kind, .int x_1156, .int h0_sign, .int h0_fault, .int h0_place, .long y307_2, .int h0_told, .ref h0_now, .ref h0_read, .ref h0_kept, .ref h0_snaps, .ref h0_aside, .ref h0_name, .ref h0_readName, .ref h0_keptName, .ref h0_isKept, .ref h0_onces, .int h0_snapMany, .int h0_lowest, .int h0_highest, .int h0_agreed, .int h0_jurors, .int h0_panelled, .ref h0_inSets, .int h0_surely, .int h0_asked, .ref h0_frees, .int h0_struck, .int h0_beating, .ref h0_text, .int h0_texts, .int h0_seed, .ref h0_line, .ref h0_written, .int h0_lineMany, .int h0_hasWritten, .ref h0_node, .int h0_nodes, .int h0_onesMany, .int h0_within, .int h0_top])), (aI ca h0_tape 940 F_h0_tape)] := hD
          exact J337_1141 y307_0 x_1156 y307_2 hy307_0 t307_h0_size t307_y215_2 o307_y215_2_h0_size H locs ls (oPsub hP [0, 1] rfl) (hD.sub [0, 1] (by decide) rfl) hS (lv_sub hl [0, 1, 2] rfl)
      have J272_1157 : ∀ (y272_0 : Int32) (y272_1 : Int32), rg 0 255 y272_0 → rg 0 1 y272_1 → rg 2 940 h0_size → rg 1 939 y215_2 → rl 1 y215_2 h0_size → ∀ (H : Heap) (locs : List Loc) (ls : Array Slot), va_P D vwCl [(h0, .inr (11, [.int h0_thrown, .ref h0_tape, .int h0_taped, .int h0_size, .int h0_limit, .int y215_2, .int y215_3, .int h0_kind, .int y215_4, .int h0_sign, .int h0_fault, .int h0_place, .long y215_5, .int h0_told, .ref h0_now, .ref h0_read, .ref h0_kept, .ref h0_snaps, .ref h0_aside, .ref h0_name, .ref h0_readName, .ref h0_keptName, .ref h0_isKept, .ref h0_onces, .int h0_snapMany, .int h0_lowest, .int h0_highest, .int h0_agreed, .int h0_jurors, .int h0_panelled, .ref h0_inSets, .int h0_surely, .int h0_asked, .ref h0_frees, .int h0_struck, .int h0_beating, .ref h0_text, .int h0_texts, .int h0_seed, .ref h0_line, .ref h0_written, .int h0_lineMany, .int h0_hasWritten, .ref h0_node, .int h0_nodes, .int h0_onesMany, .int h0_within, .int h0_top])), (aI ca h0_tape 940 F_h0_tape)] H → va_D A [(h0, .inr (11, [.int h0_thrown, .ref h0_tape, .int h0_taped, .int h0_size, .int h0_limit, .int y215_2, .int y215_3, .int h0_kind, .int y215_4, .int h0_sign, .int h0_fault, .int h0_place, .long y215_5, .int h0_told, .ref h0_now, .ref h0_read, .ref h0_kept, .ref h0_snaps, .ref h0_aside, .ref h0_name, .ref h0_readName, .ref h0_keptName, .ref h0_isKept, .ref h0_onces, .int h0_snapMany, .int h0_lowest, .int h0_highest, .int h0_agreed, .int h0_jurors, .int h0_panelled, .ref h0_inSets, .int h0_surely, .int h0_asked, .ref h0_frees, .int h0_struck, .int h0_beating, .ref h0_text, .int h0_texts, .int h0_seed, .ref h0_line, .ref h0_written, .int h0_lineMany, .int h0_hasWritten, .ref h0_node, .int h0_nodes, .int h0_onesMany, .int h0_within, .int h0_top])), (aI ca h0_tape 940 F_h0_tape)] → va_S A s.heap H locs → lv_has ls 5 [(0, .ref h0), (2, .int y215_0), (4, .int y272_0)] → W p l e ({ frames := 1, cells := 0, slots := 0, locals := 21 } : Room) s m ([.ref h0] : List Value).toArray below meth c H locs 0 0 (MQ below ((oQv D (fun (u : Int32 × Int32 × Int32 × Int32 × Int32 × Int64) => (rg 0 940 u.1) ∧ (rg (-2147483648) 940 u.2.1) ∧ (rg 0 4 u.2.2.1) ∧ (rl 0 h0_to u.1) ∧ (lk h0_to u.2.2.1 u.1)) (fun (u : Int32 × Int32 × Int32 × Int32 × Int32 × Int64) => [(h0, .inr (11, [.int h0_thrown, .ref h0_tape, .int h0_taped, .int h0_size, .int h0_limit, .int u.1, .int u.2.1, .int u.2.2.1, .int u.2.2.2.1, .int u.2.2.2.2.1, .int h0_fault, .int h0_place, .long u.2.2.2.2.2, .int h0_told, .ref h0_now, .ref h0_read, .ref h0_kept, .ref h0_snaps, .ref h0_aside, .ref h0_name, .ref h0_readName, .ref h0_keptName, .ref h0_isKept, .ref h0_onces, .int h0_snapMany, .int h0_lowest, .int h0_highest, .int h0_agreed, .int h0_jurors, .int h0_panelled, .ref h0_inSets, .int h0_surely, .int h0_asked, .ref h0_frees, .int h0_struck, .int h0_beating, .ref h0_text, .int h0_texts, .int h0_seed, .ref h0_line, .ref h0_written, .int h0_lineMany, .int h0_hasWritten, .ref h0_node, .int h0_nodes, .int h0_onesMany, .int h0_within, .int h0_top])), (aI ca h0_tape 940 F_h0_tape)])) A) ([.ref h0] : List Value).toArray s 0 0 A) (F0 m 272 ls [.int y272_1]) := by
        intro y272_0 y272_1 hy272_0 hy272_1 t272_h0_size t272_y215_2 o272_y215_2_h0_size H locs ls hP hD hS hl
        refine lv_istore_n (lv' := [(3, .int y272_1), (0, .ref h0), (2, .int y215_0), (4, .int y272_0)]) hx hb dX12_go_272 rfl hl (by decide) rfl (fun ls hl => ?_)
        refine lv_aload_n hx hb dX12_go_273 rfl (lv_at hl 1 rfl) ?_
        refine va_get (D := D) (ci := 11) (v := .int y215_2) (C := RX12) (T := TX12) (N := 48) hx hb hts k2 hown hK.1 hP 0 rfl rfl 5 (by decide) k3 (fun _ h9 => h9) rfl dX12_go_274 ?_
        refine lv_aload_n hx hb dX12_go_277 rfl (lv_at hl 1 rfl) ?_
        refine va_get (D := D) (ci := 11) (v := .int y215_3) (C := RX12) (T := TX12) (N := 48) hx hb hts k2 hown hK.1 hP 0 rfl rfl 6 (by decide) k4 (fun _ h9 => h9) rfl dX12_go_278 ?_
        refine lv_isub hx hb dX12_go_281 ?_
        refine lv_topi (fun x_1158 ex_1158 => ?_)
        have h_1159 : rg (-939) 939 x_1158 := by rw [ex_1158]; exact rg_sub t272_y215_2 hy215_3 (by decide) (by decide) (by decide) (by decide)
        have l_1160 : lq x_1158.toInt (y215_2.toInt + (-1) * y215_3.toInt) := lqm (by rw [ex_1158]; have q := tsub t272_y215_2 hy215_3 (by decide) (by decide); omega)
        refine lv_bipush (v := 7) hx hb dX12_go_282 (by decide) ?_
        refine lv_icmp_ge (tgt := 307) hx hb dX12_go_284 (by decide) (fun c_1161 => ?_) (fun c_1161 => ?_)
        · skip
          have o_1162 : rl 0 7 x_1158 := rl_le c_1161
          have h_1163 : rg 7 939 x_1158 := rl_y o_1162 (⟨by decide, by decide⟩ : rg 7 7 (7 : Int32)) h_1159 (by decide) (by decide)
          exact J307_1145 y272_1 y272_0 y215_5 hy272_1 hy272_0 t272_h0_size t272_y215_2 o272_y215_2_h0_size H locs ls (oPsub hP [0, 1] rfl) (hD.sub [0, 1] (by decide) rfl) hS (lv_sub hl [1, 2, 0, 3] rfl)
        · skip
          have o_1164 : rl 1 x_1158 7 := rl_nle c_1161
          have h_1165 : rg (-939) 6 x_1158 := rl_x o_1164 h_1159 (⟨by decide, by decide⟩ : rg 7 7 (7 : Int32)) (by decide) (by decide)
          refine lv_aload_n hx hb dX12_go_287 rfl (lv_at hl 1 rfl) ?_
          refine lv_ldc2 (v := 27) hx hb hown k6 dX12_go_288 ?_
          refine lv_aload_n hx hb dX12_go_291 rfl (lv_at hl 1 rfl) ?_
          refine va_get (D := D) (ci := 11) (v := .long y215_5) (C := RX12) (T := TX12) (N := 48) hx hb hts k2 hown hK.1 hP 0 rfl rfl 12 (by decide) k7 (fun _ h9 => h9) rfl dX12_go_292 ?_
          refine lv_lmul hx hb dX12_go_295 ?_
          refine lv_topl (fun x_1166 ex_1166 => ?_)
          refine lv_iload hx hb dX12_go_296 (lv_at hl 3 rfl) ?_
          refine lv_i2l hx hb dX12_go_298 rfl ?_
          refine lv_topl (fun x_1167 ex_1167 => ?_)
          refine lv_ladd hx hb dX12_go_299 ?_
          refine lv_topl (fun x_1168 ex_1168 => ?_)
          refine lv_ldc2 (v := 96) hx hb hown k8 dX12_go_300 ?_
          refine lv_lsub hx hb dX12_go_303 ?_
          refine lv_topl (fun x_1169 ex_1169 => ?_)
          refine va_put (D := D) (ci := 11) (v := .long x_1169) (ty := .long) (C := RX12) (T := TX12) (N := 48) hx hb hts k2 tyX12 tyX12_ok nmX12 hown hK.1 hP hD hS 0 rfl rfl 12 (by decide) k7 (fun _ h9 => h9) rfl (by decide +kernel) rfl rfl (Nat.le_of_ble_eq_true rfl) dX12_go_304 (fun H locs hP hD hS => ?_)
          have hP : va_P D vwCl [(h0, .inr (11, [.int h0_thrown, .ref h0_tape, .int h0_taped, .int h0_size, .int h0_limit, .int y215_2, .int y215_3, .int h0_kind, .int y215_4, .int h0_sign, .int h0_fault, .int h0_place, .long x_1169, .int h0_told, .ref h0_now, .ref h0_read, .ref h0_kept, .ref h0_snaps, .ref h0_aside, .ref h0_name, .ref h0_readName, .ref h0_keptName, .ref h0_isKept, .ref h0_onces, .int h0_snapMany, .int h0_lowest, .int h0_highest, .int h0_agreed, .int h0_jurors, .int h0_panelled, .ref h0_inSets, .int h0_surely, .int h0_asked, .ref h0_frees, .int h0_struck, .int h0_beating, .ref h0_text, .int h0_texts, .int h0_seed, .ref h0_line, .ref h0_written, .int h0_lineMany, .int h0_hasWritten, .ref h0_node, .int h0_nodes, .int h0_onesMany, .int h0_within, .int h0_top])), (aI ca h0_tape 940 F_h0_tape)] H := hP
          have hD : va_D A [(h0, .inr (11, [.int h0_thrown, .ref h0_tape, .int h0_taped, .int h0_size, .int h0_limit, .int y215_2, .int y215_3, .int h0_kind, .int y215_4, .int h0_sign, .int h0_fault, .int h0_place, .long x_1169, .int h0_told, .ref h0_now, .ref h0_read, .ref h0_kept, .ref h0_snaps, .ref h0_aside, .ref h0_name, .ref h0_readName, .ref h0_keptName, .ref h0_isKept, .ref h0_onces, .int h0_snapMany, .int h0_lowest, .int h0_highest, .int h0_agreed, .int h0_jurors, .int h0_panelled, .ref h0_inSets, .int h0_surely, .int h0_asked, .ref h0_frees, .int h0_struck, .int h0_beating, .ref h0_text, .int h0_texts, .int h0_seed, .ref h0_line, .ref h0_written, .int h0_lineMany, .int h0_hasWritten, .ref h0_node, .int h0_nodes, .int h0_onesMany, .int h0_within, .int h0_top])), (aI ca h0_tape 940 F_h0_tape)] := hD
          exact J307_1145 y272_1 y272_0 x_1169 hy272_1 hy272_0 t272_h0_size t272_y215_2 o272_y215_2_h0_size H locs ls (oPsub hP [0, 1] rfl) (hD.sub [0, 1] (by decide) rfl) hS (lv_sub hl [1, 2, 0, 3] rfl)
      have J271_1170 : ∀ (y271_0 : Int32), rg 0 255 y271_0 → rg 2 940 h0_size → rg 1 939 y215_2 → rl 1 y215_2 h0_size → ∀ (H : Heap) (locs : List Loc) (ls : Array Slot), va_P D vwCl [(h0, .inr (11, [.int h0_thrown, .ref h0_tape, .int h0_taped, .int h0_size, .int h0_limit, .int y215_2, .int y215_3, .int h0_kind, .int y215_4, .int h0_sign, .int h0_fault, .int h0_place, .long y215_5, .int h0_told, .ref h0_now, .ref h0_read, .ref h0_kept, .ref h0_snaps, .ref h0_aside, .ref h0_name, .ref h0_readName, .ref h0_keptName, .ref h0_isKept, .ref h0_onces, .int h0_snapMany, .int h0_lowest, .int h0_highest, .int h0_agreed, .int h0_jurors, .int h0_panelled, .ref h0_inSets, .int h0_surely, .int h0_asked, .ref h0_frees, .int h0_struck, .int h0_beating, .ref h0_text, .int h0_texts, .int h0_seed, .ref h0_line, .ref h0_written, .int h0_lineMany, .int h0_hasWritten, .ref h0_node, .int h0_nodes, .int h0_onesMany, .int h0_within, .int h0_top])), (aI ca h0_tape 940 F_h0_tape)] H → va_D A [(h0, .inr (11, [.int h0_thrown, .ref h0_tape, .int h0_taped, .int h0_size, .int h0_limit, .int y215_2, .int y215_3, .int h0_kind, .int y215_4, .int h0_sign, .int h0_fault, .int h0_place, .long y215_5, .int h0_told, .ref h0_now, .ref h0_read, .ref h0_kept, .ref h0_snaps, .ref h0_aside, .ref h0_name, .ref h0_readName, .ref h0_keptName, .ref h0_isKept, .ref h0_onces, .int h0_snapMany, .int h0_lowest, .int h0_highest, .int h0_agreed, .int h0_jurors, .int h0_panelled, .ref h0_inSets, .int h0_surely, .int h0_asked, .ref h0_frees, .int h0_struck, .int h0_beating, .ref h0_text, .int h0_texts, .int h0_seed, .ref h0_line, .ref h0_written, .int h0_lineMany, .int h0_hasWritten, .ref h0_node, .int h0_nodes, .int h0_onesMany, .int h0_within, .int h0_top])), (aI ca h0_tape 940 F_h0_tape)] → va_S A s.heap H locs → lv_has ls 5 [(0, .ref h0), (2, .int y215_0), (4, .int y271_0)] → W p l e ({ frames := 1, cells := 0, slots := 0, locals := 21 } : Room) s m ([.ref h0] : List Value).toArray below meth c H locs 0 0 (MQ below ((oQv D (fun (u : Int32 × Int32 × Int32 × Int32 × Int32 × Int64) => (rg 0 940 u.1) ∧ (rg (-2147483648) 940 u.2.1) ∧ (rg 0 4 u.2.2.1) ∧ (rl 0 h0_to u.1) ∧ (lk h0_to u.2.2.1 u.1)) (fun (u : Int32 × Int32 × Int32 × Int32 × Int32 × Int64) => [(h0, .inr (11, [.int h0_thrown, .ref h0_tape, .int h0_taped, .int h0_size, .int h0_limit, .int u.1, .int u.2.1, .int u.2.2.1, .int u.2.2.2.1, .int u.2.2.2.2.1, .int h0_fault, .int h0_place, .long u.2.2.2.2.2, .int h0_told, .ref h0_now, .ref h0_read, .ref h0_kept, .ref h0_snaps, .ref h0_aside, .ref h0_name, .ref h0_readName, .ref h0_keptName, .ref h0_isKept, .ref h0_onces, .int h0_snapMany, .int h0_lowest, .int h0_highest, .int h0_agreed, .int h0_jurors, .int h0_panelled, .ref h0_inSets, .int h0_surely, .int h0_asked, .ref h0_frees, .int h0_struck, .int h0_beating, .ref h0_text, .int h0_texts, .int h0_seed, .ref h0_line, .ref h0_written, .int h0_lineMany, .int h0_hasWritten, .ref h0_node, .int h0_nodes, .int h0_onesMany, .int h0_within, .int h0_top])), (aI ca h0_tape 940 F_h0_tape)])) A) ([.ref h0] : List Value).toArray s 0 0 A) (F0 m 271 ls []) := by
        intro y271_0 hy271_0 t271_h0_size t271_y215_2 o271_y215_2_h0_size H locs ls hP hD hS hl
        refine lv_iconst (v := 0) hx hb dX12_go_271 (by decide) ?_
        exact J272_1157 y271_0 0 hy271_0 (⟨by decide, by decide⟩ : rg 0 1 (0 : Int32)) t271_h0_size t271_y215_2 o271_y215_2_h0_size H locs ls (oPsub hP [0, 1] rfl) (hD.sub [0, 1] (by decide) rfl) hS (lv_sub hl [0, 1, 2] rfl)
      have J243_1171 : ∀ (_ : Unit), rg 2 940 h0_size → rg 1 939 y215_2 → rl 1 y215_2 h0_size → ∀ (H : Heap) (locs : List Loc) (ls : Array Slot), va_P D vwCl [(h0, .inr (11, [.int h0_thrown, .ref h0_tape, .int h0_taped, .int h0_size, .int h0_limit, .int y215_2, .int y215_3, .int h0_kind, .int y215_4, .int h0_sign, .int h0_fault, .int h0_place, .long y215_5, .int h0_told, .ref h0_now, .ref h0_read, .ref h0_kept, .ref h0_snaps, .ref h0_aside, .ref h0_name, .ref h0_readName, .ref h0_keptName, .ref h0_isKept, .ref h0_onces, .int h0_snapMany, .int h0_lowest, .int h0_highest, .int h0_agreed, .int h0_jurors, .int h0_panelled, .ref h0_inSets, .int h0_surely, .int h0_asked, .ref h0_frees, .int h0_struck, .int h0_beating, .ref h0_text, .int h0_texts, .int h0_seed, .ref h0_line, .ref h0_written, .int h0_lineMany, .int h0_hasWritten, .ref h0_node, .int h0_nodes, .int h0_onesMany, .int h0_within, .int h0_top])), (aI ca h0_tape 940 F_h0_tape)] H → va_D A [(h0, .inr (11, [.int h0_thrown, .ref h0_tape, .int h0_taped, .int h0_size, .int h0_limit, .int y215_2, .int y215_3, .int h0_kind, .int y215_4, .int h0_sign, .int h0_fault, .int h0_place, .long y215_5, .int h0_told, .ref h0_now, .ref h0_read, .ref h0_kept, .ref h0_snaps, .ref h0_aside, .ref h0_name, .ref h0_readName, .ref h0_keptName, .ref h0_isKept, .ref h0_onces, .int h0_snapMany, .int h0_lowest, .int h0_highest, .int h0_agreed, .int h0_jurors, .int h0_panelled, .ref h0_inSets, .int h0_surely, .int h0_asked, .ref h0_frees, .int h0_struck, .int h0_beating, .ref h0_text, .int h0_texts, .int h0_seed, .ref h0_line, .ref h0_written, .int h0_lineMany, .int h0_hasWritten, .ref h0_node, .int h0_nodes, .int h0_onesMany, .int h0_within, .int h0_top])), (aI ca h0_tape 940 F_h0_tape)] → va_S A s.heap H locs → lv_has ls 5 [(0, .ref h0), (2, .int y215_0), (3, .int y215_1)] → W p l e ({ frames := 1, cells := 0, slots := 0, locals := 21 } : Room) s m ([.ref h0] : List Value).toArray below meth c H locs 0 0 (MQ below ((oQv D (fun (u : Int32 × Int32 × Int32 × Int32 × Int32 × Int64) => (rg 0 940 u.1) ∧ (rg (-2147483648) 940 u.2.1) ∧ (rg 0 4 u.2.2.1) ∧ (rl 0 h0_to u.1) ∧ (lk h0_to u.2.2.1 u.1)) (fun (u : Int32 × Int32 × Int32 × Int32 × Int32 × Int64) => [(h0, .inr (11, [.int h0_thrown, .ref h0_tape, .int h0_taped, .int h0_size, .int h0_limit, .int u.1, .int u.2.1, .int u.2.2.1, .int u.2.2.2.1, .int u.2.2.2.2.1, .int h0_fault, .int h0_place, .long u.2.2.2.2.2, .int h0_told, .ref h0_now, .ref h0_read, .ref h0_kept, .ref h0_snaps, .ref h0_aside, .ref h0_name, .ref h0_readName, .ref h0_keptName, .ref h0_isKept, .ref h0_onces, .int h0_snapMany, .int h0_lowest, .int h0_highest, .int h0_agreed, .int h0_jurors, .int h0_panelled, .ref h0_inSets, .int h0_surely, .int h0_asked, .ref h0_frees, .int h0_struck, .int h0_beating, .ref h0_text, .int h0_texts, .int h0_seed, .ref h0_line, .ref h0_written, .int h0_lineMany, .int h0_hasWritten, .ref h0_node, .int h0_nodes, .int h0_onesMany, .int h0_within, .int h0_top])), (aI ca h0_tape 940 F_h0_tape)])) A) ([.ref h0] : List Value).toArray s 0 0 A) (F0 m 243 ls []) := by
        intro _ t243_h0_size t243_y215_2 o243_y215_2_h0_size H locs ls hP hD hS hl
        refine lv_aload_n hx hb dX12_go_243 rfl (lv_at hl 0 rfl) ?_
        refine va_get (D := D) (ci := 11) (v := .ref h0_tape) (C := RX12) (T := TX12) (N := 48) hx hb hts k2 hown hK.1 hP 0 rfl rfl 1 (by decide) k9 (fun _ h9 => h9) rfl dX12_go_244 ?_
        refine lv_aload_n hx hb dX12_go_247 rfl (lv_at hl 0 rfl) ?_
        refine va_get (D := D) (ci := 11) (v := .int y215_2) (C := RX12) (T := TX12) (N := 48) hx hb hts k2 hown hK.1 hP 0 rfl rfl 5 (by decide) k3 (fun _ h9 => h9) rfl dX12_go_248 ?_
        refine va_iald hx hb hK.1 hP 1 0 rfl rfl (rg_in t243_y215_2 (by decide) (by decide)) dX12_go_251 ?_
        refine lv_topi (fun x_1172 ex_1172 => ?_)
        have h_1173 : rg 0 255 x_1172 := by rw [ex_1172]; exact sg_at (sg_w (a' := 1) (b' := 940) (lo' := 0) (hi' := 255) (sg_w (a' := 0) (b' := 940) (lo' := 0) (hi' := 255) (sg_w (a' := 0) (b' := 940) (lo' := 0) (hi' := 255) s_h0_tape_0 (by decide) (by decide) (by decide) (by decide)) (by decide) (by decide) (by decide) (by decide)) (by decide) (by decide) (by decide) (by decide)) t243_y215_2 (by decide) (by decide) (by decide)
        refine lv_istore (lv' := [(4, .int x_1172), (0, .ref h0), (2, .int y215_0), (3, .int y215_1)]) hx hb dX12_go_252 hl (by decide) rfl (fun ls hl => ?_)
        refine lv_iload_n hx hb dX12_go_254 rfl (lv_at hl 3 rfl) ?_
        refine lv_if_eq (tgt := 271) hx hb dX12_go_255 (by decide) (fun c_1174 => ?_) (fun c_1174 => ?_)
        · skip
          have o_1175 : rl 0 y215_1 0 := rl_eq c_1174
          have h_1176 : rg 0 0 y215_1 := rl_x o_1175 hy215_1 (⟨by decide, by decide⟩ : rg 0 0 (0 : Int32)) (by decide) (by decide)
          have o_1177 : rl 0 0 y215_1 := rl_eq c_1174.symm
          exact J271_1170 x_1172 h_1173 t243_h0_size t243_y215_2 o243_y215_2_h0_size H locs ls (oPsub hP [0, 1] rfl) (hD.sub [0, 1] (by decide) rfl) hS (lv_sub hl [1, 2, 0] rfl)
        · skip
          have h_1178 : rg 1 1 y215_1 := cl_nlo c_1174 hy215_1 (show (0 : Int32).toInt = 0 by decide) (by decide) (by decide)
          refine lv_iload hx hb dX12_go_258 (lv_at hl 0 rfl) ?_
          refine oC_i (Wc := []) (Wr := [(h0, .inr (11, [.int h0_thrown, .ref h0_tape, .int h0_taped, .int h0_size, .int h0_limit, .int y215_2, .int y215_3, .int h0_kind, .int y215_4, .int h0_sign, .int h0_fault, .int h0_place, .long y215_5, .int h0_told, .ref h0_now, .ref h0_read, .ref h0_kept, .ref h0_snaps, .ref h0_aside, .ref h0_name, .ref h0_readName, .ref h0_keptName, .ref h0_isKept, .ref h0_onces, .int h0_snapMany, .int h0_lowest, .int h0_highest, .int h0_agreed, .int h0_jurors, .int h0_panelled, .ref h0_inSets, .int h0_surely, .int h0_asked, .ref h0_frees, .int h0_struck, .int h0_beating, .ref h0_text, .int h0_texts, .int h0_seed, .ref h0_line, .ref h0_written, .int h0_lineMany, .int h0_hasWritten, .ref h0_node, .int h0_nodes, .int h0_onesMany, .int h0_within, .int h0_top])), (aI ca h0_tape 940 F_h0_tape)]) (va_runS (As := [.int x_1172]) (rest := []) ⟨hx, hb, hml, hown, hts⟩ (s_X12_isLetter l D ca H.size x_1172) (va_cwS 1 hts gX12_go_X12_isLetter rfl rfl rfl (by decide +kernel) ⟨Nat.le_of_ble_eq_true rfl, Nat.le_of_ble_eq_true rfl⟩) (oPS hK hP hD [] rfl (by decide)) rfl rfl hl.1 rfl (lv_room (Nat.le_of_ble_eq_true rfl)) dX12_go_260 ⟨Nat.le_of_ble_eq_true rfl, Nat.le_of_ble_eq_true rfl⟩) hP hD hS hA [] [0, 1] rfl rfl (by decide) (by decide) (fun r_1179 u H locs w_1180 hP hD hS => ?_)
          obtain ⟨⟩ := u
          have hP : va_P D vwCl [(h0, .inr (11, [.int h0_thrown, .ref h0_tape, .int h0_taped, .int h0_size, .int h0_limit, .int y215_2, .int y215_3, .int h0_kind, .int y215_4, .int h0_sign, .int h0_fault, .int h0_place, .long y215_5, .int h0_told, .ref h0_now, .ref h0_read, .ref h0_kept, .ref h0_snaps, .ref h0_aside, .ref h0_name, .ref h0_readName, .ref h0_keptName, .ref h0_isKept, .ref h0_onces, .int h0_snapMany, .int h0_lowest, .int h0_highest, .int h0_agreed, .int h0_jurors, .int h0_panelled, .ref h0_inSets, .int h0_surely, .int h0_asked, .ref h0_frees, .int h0_struck, .int h0_beating, .ref h0_text, .int h0_texts, .int h0_seed, .ref h0_line, .ref h0_written, .int h0_lineMany, .int h0_hasWritten, .ref h0_node, .int h0_nodes, .int h0_onesMany, .int h0_within, .int h0_top])), (aI ca h0_tape 940 F_h0_tape)] H := hP
          have hD : va_D A [(h0, .inr (11, [.int h0_thrown, .ref h0_tape, .int h0_taped, .int h0_size, .int h0_limit, .int y215_2, .int y215_3, .int h0_kind, .int y215_4, .int h0_sign, .int h0_fault, .int h0_place, .long y215_5, .int h0_told, .ref h0_now, .ref h0_read, .ref h0_kept, .ref h0_snaps, .ref h0_aside, .ref h0_name, .ref h0_readName, .ref h0_keptName, .ref h0_isKept, .ref h0_onces, .int h0_snapMany, .int h0_lowest, .int h0_highest, .int h0_agreed, .int h0_jurors, .int h0_panelled, .ref h0_inSets, .int h0_surely, .int h0_asked, .ref h0_frees, .int h0_struck, .int h0_beating, .ref h0_text, .int h0_texts, .int h0_seed, .ref h0_line, .ref h0_written, .int h0_lineMany, .int h0_hasWritten, .ref h0_node, .int h0_nodes, .int h0_onesMany, .int h0_within, .int h0_top])), (aI ca h0_tape 940 F_h0_tape)] := hD
          try dsimp only at w_1180
          rcases w_1180 with ⟨h_1181, h_1182⟩ | ⟨h_1183, h_1184⟩ | ⟨h_1185, h_1186⟩
          · skip
            subst h_1181
            have h_1187 : rg 0 96 x_1172 := rg_i h_1182 h_1173 (by decide) (by decide)
            refine lv_iload_n hx hb dX12_go_263 rfl (lv_at hl 2 rfl) ?_
            refine lv_icmp_ne (tgt := 271) hx hb dX12_go_264 (by decide) (fun c_1188 => ?_) (fun c_1188 => ?_)
            · skip
              have h_1189 : rg 1 1 y215_0 := cl_nlo (fun z => c_1188 z.symm) hy215_0 (show (0 : Int32).toInt = 0 by decide) (by decide) (by decide)
              exact J271_1170 x_1172 (rgw (lo := 0) (hi := 255) h_1187 (by decide) (by decide)) t243_h0_size t243_y215_2 o243_y215_2_h0_size H locs ls (oPsub hP [0, 1] rfl) (hD.sub [0, 1] (by decide) rfl) hS (lv_sub hl [1, 2, 0] rfl)
            · skip
              have o_1190 : rl 0 0 y215_0 := rl_eq c_1188
              have o_1191 : rl 0 y215_0 0 := rl_eq c_1188.symm
              have h_1192 : rg 0 0 y215_0 := rl_x o_1191 hy215_0 (⟨by decide, by decide⟩ : rg 0 0 (0 : Int32)) (by decide) (by decide)
              refine lv_iconst (v := 1) hx hb dX12_go_267 (by decide) ?_
              refine lv_goto (tgt := 272) hx hb dX12_go_268 (by decide) ?_
              exact J272_1157 x_1172 1 (rgw (lo := 0) (hi := 255) h_1187 (by decide) (by decide)) (⟨by decide, by decide⟩ : rg 0 1 (1 : Int32)) t243_h0_size t243_y215_2 o243_y215_2_h0_size H locs ls (oPsub hP [0, 1] rfl) (hD.sub [0, 1] (by decide) rfl) hS (lv_sub hl [1, 2, 0] rfl)
          · skip
            subst h_1183
            have h_1193 : rg 123 255 x_1172 := rg_i h_1184 h_1173 (by decide) (by decide)
            refine lv_iload_n hx hb dX12_go_263 rfl (lv_at hl 2 rfl) ?_
            refine lv_icmp_ne (tgt := 271) hx hb dX12_go_264 (by decide) (fun c_1194 => ?_) (fun c_1194 => ?_)
            · skip
              have h_1195 : rg 1 1 y215_0 := cl_nlo (fun z => c_1194 z.symm) hy215_0 (show (0 : Int32).toInt = 0 by decide) (by decide) (by decide)
              exact J271_1170 x_1172 (rgw (lo := 0) (hi := 255) h_1193 (by decide) (by decide)) t243_h0_size t243_y215_2 o243_y215_2_h0_size H locs ls (oPsub hP [0, 1] rfl) (hD.sub [0, 1] (by decide) rfl) hS (lv_sub hl [1, 2, 0] rfl)
            · skip
              have o_1196 : rl 0 0 y215_0 := rl_eq c_1194
              have o_1197 : rl 0 y215_0 0 := rl_eq c_1194.symm
              have h_1198 : rg 0 0 y215_0 := rl_x o_1197 hy215_0 (⟨by decide, by decide⟩ : rg 0 0 (0 : Int32)) (by decide) (by decide)
              refine lv_iconst (v := 1) hx hb dX12_go_267 (by decide) ?_
              refine lv_goto (tgt := 272) hx hb dX12_go_268 (by decide) ?_
              exact J272_1157 x_1172 1 (rgw (lo := 0) (hi := 255) h_1193 (by decide) (by decide)) (⟨by decide, by decide⟩ : rg 0 1 (1 : Int32)) t243_h0_size t243_y215_2 o243_y215_2_h0_size H locs ls (oPsub hP [0, 1] rfl) (hD.sub [0, 1] (by decide) rfl) hS (lv_sub hl [1, 2, 0] rfl)
          · skip
            subst h_1185
            refine lv_iload_n hx hb dX12_go_263 rfl (lv_at hl 2 rfl) ?_
            refine lv_icmp_ne (tgt := 271) hx hb dX12_go_264 (by decide) (fun c_1199 => ?_) (fun c_1199 => ?_)
            · skip
              have h_1200 : rg 0 0 y215_0 := cl_nhi (fun z => c_1199 z.symm) hy215_0 (show (1 : Int32).toInt = 1 by decide) (by decide) (by decide)
              exact J271_1170 x_1172 (rgw (lo := 0) (hi := 255) h_1186 (by decide) (by decide)) t243_h0_size t243_y215_2 o243_y215_2_h0_size H locs ls (oPsub hP [0, 1] rfl) (hD.sub [0, 1] (by decide) rfl) hS (lv_sub hl [1, 2, 0] rfl)
            · skip
              have o_1201 : rl 0 1 y215_0 := rl_eq c_1199
              have h_1202 : rg 1 1 y215_0 := rl_y o_1201 (⟨by decide, by decide⟩ : rg 1 1 (1 : Int32)) hy215_0 (by decide) (by decide)
              have o_1203 : rl 0 y215_0 1 := rl_eq c_1199.symm
              refine lv_iconst (v := 1) hx hb dX12_go_267 (by decide) ?_
              refine lv_goto (tgt := 272) hx hb dX12_go_268 (by decide) ?_
              exact J272_1157 x_1172 1 (rgw (lo := 0) (hi := 255) h_1186 (by decide) (by decide)) (⟨by decide, by decide⟩ : rg 0 1 (1 : Int32)) t243_h0_size t243_y215_2 o243_y215_2_h0_size H locs ls (oPsub hP [0, 1] rfl) (hD.sub [0, 1] (by decide) rfl) hS (lv_sub hl [1, 2, 0] rfl)
      refine lv_aload_n hx hb dX12_go_215 rfl (lv_at hl 0 rfl) ?_
      refine lv_aload_n hx hb dX12_go_216 rfl (lv_at hl 0 rfl) ?_
      refine va_get (D := D) (ci := 11) (v := .int y215_2) (C := RX12) (T := TX12) (N := 48) hx hb hts k2 hown hK.1 hP 0 rfl rfl 5 (by decide) k3 (fun _ h9 => h9) rfl dX12_go_217 ?_
      refine oC_i (Wc := [(h0, .inr (11, [.int h0_thrown, .ref h0_tape, .int h0_taped, .int h0_size, .int h0_limit, .int y215_2, .int y215_3, .int h0_kind, .int y215_4, .int h0_sign, .int h0_fault, .int h0_place, .long y215_5, .int h0_told, .ref h0_now, .ref h0_read, .ref h0_kept, .ref h0_snaps, .ref h0_aside, .ref h0_name, .ref h0_readName, .ref h0_keptName, .ref h0_isKept, .ref h0_onces, .int h0_snapMany, .int h0_lowest, .int h0_highest, .int h0_agreed, .int h0_jurors, .int h0_panelled, .ref h0_inSets, .int h0_surely, .int h0_asked, .ref h0_frees, .int h0_struck, .int h0_beating, .ref h0_text, .int h0_texts, .int h0_seed, .ref h0_line, .ref h0_written, .int h0_lineMany, .int h0_hasWritten, .ref h0_node, .int h0_nodes, .int h0_onesMany, .int h0_within, .int h0_top])), (aI ca h0_tape 940 F_h0_tape)]) (Wr := []) (va_runV (As := [.int y215_2]) (rest := []) ⟨hx, hb, hml, hown, hts⟩ (s_X12_tapeAt l D ca H.size h0 y215_2 h0_thrown h0_tape h0_taped h0_size h0_limit y215_2 y215_3 h0_kind y215_4 h0_sign h0_fault h0_place y215_5 h0_told h0_now h0_read h0_kept h0_snaps h0_aside h0_name h0_readName h0_keptName h0_isKept h0_onces h0_snapMany h0_lowest h0_highest h0_agreed h0_jurors h0_panelled h0_inSets h0_surely h0_asked h0_frees h0_struck h0_beating h0_text h0_texts h0_seed h0_line h0_written h0_lineMany h0_hasWritten h0_node h0_nodes h0_onesMany h0_within h0_top F_h0_tape (rgw (lo := 0) (hi := 940) hy215_2 (by decide) (by decide)) i_h0_taped (rgw (lo := 0) (hi := 940) t215_h0_size (by decide) (by decide)) (rgw (lo := 0) (hi := 940) hy215_2 (by decide) (by decide)) i_h0_kind i_h0_snapMany i_h0_texts i_h0_lineMany i_h0_hasWritten i_h0_nodes i_h0_onesMany (sg_w (a' := 0) (b' := 940) (lo' := 0) (hi' := 255) s_h0_tape_0 (by decide) (by decide) (by decide) (by decide))) (cwV 1 hts gX12_go_X12_tapeAt rfl rfl rfl (by decide +kernel) ⟨Nat.le_of_ble_eq_true rfl, Nat.le_of_ble_eq_true rfl⟩) (oPV (C := RX12) hK hP hD [0, 1] rfl (by decide) 0 rfl (ci := 11) rfl rfl) rfl rfl hl.1 rfl (lv_room (Nat.le_of_ble_eq_true rfl)) dX12_go_220 ⟨Nat.le_of_ble_eq_true rfl, Nat.le_of_ble_eq_true rfl⟩) hP hD hS hA [0, 1] [] rfl rfl (by decide) (by decide) (fun r_1204 u H locs w_1205 hP hD hS => ?_)
      obtain ⟨⟩ := u
      have hP : va_P D vwCl [(h0, .inr (11, [.int h0_thrown, .ref h0_tape, .int h0_taped, .int h0_size, .int h0_limit, .int y215_2, .int y215_3, .int h0_kind, .int y215_4, .int h0_sign, .int h0_fault, .int h0_place, .long y215_5, .int h0_told, .ref h0_now, .ref h0_read, .ref h0_kept, .ref h0_snaps, .ref h0_aside, .ref h0_name, .ref h0_readName, .ref h0_keptName, .ref h0_isKept, .ref h0_onces, .int h0_snapMany, .int h0_lowest, .int h0_highest, .int h0_agreed, .int h0_jurors, .int h0_panelled, .ref h0_inSets, .int h0_surely, .int h0_asked, .ref h0_frees, .int h0_struck, .int h0_beating, .ref h0_text, .int h0_texts, .int h0_seed, .ref h0_line, .ref h0_written, .int h0_lineMany, .int h0_hasWritten, .ref h0_node, .int h0_nodes, .int h0_onesMany, .int h0_within, .int h0_top])), (aI ca h0_tape 940 F_h0_tape)] H := hP
      have hD : va_D A [(h0, .inr (11, [.int h0_thrown, .ref h0_tape, .int h0_taped, .int h0_size, .int h0_limit, .int y215_2, .int y215_3, .int h0_kind, .int y215_4, .int h0_sign, .int h0_fault, .int h0_place, .long y215_5, .int h0_told, .ref h0_now, .ref h0_read, .ref h0_kept, .ref h0_snaps, .ref h0_aside, .ref h0_name, .ref h0_readName, .ref h0_keptName, .ref h0_isKept, .ref h0_onces, .int h0_snapMany, .int h0_lowest, .int h0_highest, .int h0_agreed, .int h0_jurors, .int h0_panelled, .ref h0_inSets, .int h0_surely, .int h0_asked, .ref h0_frees, .int h0_struck, .int h0_beating, .ref h0_text, .int h0_texts, .int h0_seed, .ref h0_line, .ref h0_written, .int h0_lineMany, .int h0_hasWritten, .ref h0_node, .int h0_nodes, .int h0_onesMany, .int h0_within, .int h0_top])), (aI ca h0_tape 940 F_h0_tape)] := hD
      try dsimp only at w_1205
      rcases w_1205 with ⟨h_1206, h_1207⟩ | ⟨h_1208, h_1209, h_1210, h_1211, h_1212⟩
      · skip
        subst h_1206
        refine oC_i (Wc := []) (Wr := [(h0, .inr (11, [.int h0_thrown, .ref h0_tape, .int h0_taped, .int h0_size, .int h0_limit, .int y215_2, .int y215_3, .int h0_kind, .int y215_4, .int h0_sign, .int h0_fault, .int h0_place, .long y215_5, .int h0_told, .ref h0_now, .ref h0_read, .ref h0_kept, .ref h0_snaps, .ref h0_aside, .ref h0_name, .ref h0_readName, .ref h0_keptName, .ref h0_isKept, .ref h0_onces, .int h0_snapMany, .int h0_lowest, .int h0_highest, .int h0_agreed, .int h0_jurors, .int h0_panelled, .ref h0_inSets, .int h0_surely, .int h0_asked, .ref h0_frees, .int h0_struck, .int h0_beating, .ref h0_text, .int h0_texts, .int h0_seed, .ref h0_line, .ref h0_written, .int h0_lineMany, .int h0_hasWritten, .ref h0_node, .int h0_nodes, .int h0_onesMany, .int h0_within, .int h0_top])), (aI ca h0_tape 940 F_h0_tape)]) (va_runS (As := [.int 0]) (rest := []) ⟨hx, hb, hml, hown, hts⟩ (s_X12_isLetter l D ca H.size 0) (va_cwS 1 hts gX12_go_X12_isLetter rfl rfl rfl (by decide +kernel) ⟨Nat.le_of_ble_eq_true rfl, Nat.le_of_ble_eq_true rfl⟩) (oPS hK hP hD [] rfl (by decide)) rfl rfl hl.1 rfl (lv_room (Nat.le_of_ble_eq_true rfl)) dX12_go_223 ⟨Nat.le_of_ble_eq_true rfl, Nat.le_of_ble_eq_true rfl⟩) hP hD hS hA [] [0, 1] rfl rfl (by decide) (by decide) (fun r_1213 u H locs w_1214 hP hD hS => ?_)
        obtain ⟨⟩ := u
        have hP : va_P D vwCl [(h0, .inr (11, [.int h0_thrown, .ref h0_tape, .int h0_taped, .int h0_size, .int h0_limit, .int y215_2, .int y215_3, .int h0_kind, .int y215_4, .int h0_sign, .int h0_fault, .int h0_place, .long y215_5, .int h0_told, .ref h0_now, .ref h0_read, .ref h0_kept, .ref h0_snaps, .ref h0_aside, .ref h0_name, .ref h0_readName, .ref h0_keptName, .ref h0_isKept, .ref h0_onces, .int h0_snapMany, .int h0_lowest, .int h0_highest, .int h0_agreed, .int h0_jurors, .int h0_panelled, .ref h0_inSets, .int h0_surely, .int h0_asked, .ref h0_frees, .int h0_struck, .int h0_beating, .ref h0_text, .int h0_texts, .int h0_seed, .ref h0_line, .ref h0_written, .int h0_lineMany, .int h0_hasWritten, .ref h0_node, .int h0_nodes, .int h0_onesMany, .int h0_within, .int h0_top])), (aI ca h0_tape 940 F_h0_tape)] H := hP
        have hD : va_D A [(h0, .inr (11, [.int h0_thrown, .ref h0_tape, .int h0_taped, .int h0_size, .int h0_limit, .int y215_2, .int y215_3, .int h0_kind, .int y215_4, .int h0_sign, .int h0_fault, .int h0_place, .long y215_5, .int h0_told, .ref h0_now, .ref h0_read, .ref h0_kept, .ref h0_snaps, .ref h0_aside, .ref h0_name, .ref h0_readName, .ref h0_keptName, .ref h0_isKept, .ref h0_onces, .int h0_snapMany, .int h0_lowest, .int h0_highest, .int h0_agreed, .int h0_jurors, .int h0_panelled, .ref h0_inSets, .int h0_surely, .int h0_asked, .ref h0_frees, .int h0_struck, .int h0_beating, .ref h0_text, .int h0_texts, .int h0_seed, .ref h0_line, .ref h0_written, .int h0_lineMany, .int h0_hasWritten, .ref h0_node, .int h0_nodes, .int h0_onesMany, .int h0_within, .int h0_top])), (aI ca h0_tape 940 F_h0_tape)] := hD
        try dsimp only at w_1214
        rcases w_1214 with ⟨h_1215, h_1216⟩ | ⟨h_1217, h_1218⟩ | ⟨h_1219, h_1220⟩
        · skip
          subst h_1215
          refine lv_if_ne (tgt := 243) hx hb dX12_go_226 (by decide) (fun c => absurd (by decide) c) (fun _ => ?_)
          refine lv_aload_n hx hb dX12_go_229 rfl (lv_at hl 0 rfl) ?_
          refine lv_aload_n hx hb dX12_go_230 rfl (lv_at hl 0 rfl) ?_
          refine va_get (D := D) (ci := 11) (v := .int y215_2) (C := RX12) (T := TX12) (N := 48) hx hb hts k2 hown hK.1 hP 0 rfl rfl 5 (by decide) k3 (fun _ h9 => h9) rfl dX12_go_231 ?_
          refine oC_i (Wc := [(h0, .inr (11, [.int h0_thrown, .ref h0_tape, .int h0_taped, .int h0_size, .int h0_limit, .int y215_2, .int y215_3, .int h0_kind, .int y215_4, .int h0_sign, .int h0_fault, .int h0_place, .long y215_5, .int h0_told, .ref h0_now, .ref h0_read, .ref h0_kept, .ref h0_snaps, .ref h0_aside, .ref h0_name, .ref h0_readName, .ref h0_keptName, .ref h0_isKept, .ref h0_onces, .int h0_snapMany, .int h0_lowest, .int h0_highest, .int h0_agreed, .int h0_jurors, .int h0_panelled, .ref h0_inSets, .int h0_surely, .int h0_asked, .ref h0_frees, .int h0_struck, .int h0_beating, .ref h0_text, .int h0_texts, .int h0_seed, .ref h0_line, .ref h0_written, .int h0_lineMany, .int h0_hasWritten, .ref h0_node, .int h0_nodes, .int h0_onesMany, .int h0_within, .int h0_top])), (aI ca h0_tape 940 F_h0_tape)]) (Wr := []) (va_runV (As := [.int y215_2]) (rest := []) ⟨hx, hb, hml, hown, hts⟩ (s_X12_tapeAt l D ca H.size h0 y215_2 h0_thrown h0_tape h0_taped h0_size h0_limit y215_2 y215_3 h0_kind y215_4 h0_sign h0_fault h0_place y215_5 h0_told h0_now h0_read h0_kept h0_snaps h0_aside h0_name h0_readName h0_keptName h0_isKept h0_onces h0_snapMany h0_lowest h0_highest h0_agreed h0_jurors h0_panelled h0_inSets h0_surely h0_asked h0_frees h0_struck h0_beating h0_text h0_texts h0_seed h0_line h0_written h0_lineMany h0_hasWritten h0_node h0_nodes h0_onesMany h0_within h0_top F_h0_tape (rgw (lo := 0) (hi := 940) hy215_2 (by decide) (by decide)) i_h0_taped (rgw (lo := 0) (hi := 940) t215_h0_size (by decide) (by decide)) (rgw (lo := 0) (hi := 940) hy215_2 (by decide) (by decide)) i_h0_kind i_h0_snapMany i_h0_texts i_h0_lineMany i_h0_hasWritten i_h0_nodes i_h0_onesMany (sg_w (a' := 0) (b' := 940) (lo' := 0) (hi' := 255) s_h0_tape_0 (by decide) (by decide) (by decide) (by decide))) (cwV 1 hts gX12_go_X12_tapeAt rfl rfl rfl (by decide +kernel) ⟨Nat.le_of_ble_eq_true rfl, Nat.le_of_ble_eq_true rfl⟩) (oPV (C := RX12) hK hP hD [0, 1] rfl (by decide) 0 rfl (ci := 11) rfl rfl) rfl rfl hl.1 rfl (lv_room (Nat.le_of_ble_eq_true rfl)) dX12_go_234 ⟨Nat.le_of_ble_eq_true rfl, Nat.le_of_ble_eq_true rfl⟩) hP hD hS hA [0, 1] [] rfl rfl (by decide) (by decide) (fun r_1221 u H locs w_1222 hP hD hS => ?_)
          obtain ⟨⟩ := u
          have hP : va_P D vwCl [(h0, .inr (11, [.int h0_thrown, .ref h0_tape, .int h0_taped, .int h0_size, .int h0_limit, .int y215_2, .int y215_3, .int h0_kind, .int y215_4, .int h0_sign, .int h0_fault, .int h0_place, .long y215_5, .int h0_told, .ref h0_now, .ref h0_read, .ref h0_kept, .ref h0_snaps, .ref h0_aside, .ref h0_name, .ref h0_readName, .ref h0_keptName, .ref h0_isKept, .ref h0_onces, .int h0_snapMany, .int h0_lowest, .int h0_highest, .int h0_agreed, .int h0_jurors, .int h0_panelled, .ref h0_inSets, .int h0_surely, .int h0_asked, .ref h0_frees, .int h0_struck, .int h0_beating, .ref h0_text, .int h0_texts, .int h0_seed, .ref h0_line, .ref h0_written, .int h0_lineMany, .int h0_hasWritten, .ref h0_node, .int h0_nodes, .int h0_onesMany, .int h0_within, .int h0_top])), (aI ca h0_tape 940 F_h0_tape)] H := hP
          have hD : va_D A [(h0, .inr (11, [.int h0_thrown, .ref h0_tape, .int h0_taped, .int h0_size, .int h0_limit, .int y215_2, .int y215_3, .int h0_kind, .int y215_4, .int h0_sign, .int h0_fault, .int h0_place, .long y215_5, .int h0_told, .ref h0_now, .ref h0_read, .ref h0_kept, .ref h0_snaps, .ref h0_aside, .ref h0_name, .ref h0_readName, .ref h0_keptName, .ref h0_isKept, .ref h0_onces, .int h0_snapMany, .int h0_lowest, .int h0_highest, .int h0_agreed, .int h0_jurors, .int h0_panelled, .ref h0_inSets, .int h0_surely, .int h0_asked, .ref h0_frees, .int h0_struck, .int h0_beating, .ref h0_text, .int h0_texts, .int h0_seed, .ref h0_line, .ref h0_written, .int h0_lineMany, .int h0_hasWritten, .ref h0_node, .int h0_nodes, .int h0_onesMany, .int h0_within, .int h0_top])), (aI ca h0_tape 940 F_h0_tape)] := hD
          try dsimp only at w_1222
          rcases w_1222 with ⟨h_1223, h_1224⟩ | ⟨h_1225, h_1226, h_1227, h_1228, h_1229⟩
          · skip
            subst h_1223
            refine oC_i (Wc := []) (Wr := [(h0, .inr (11, [.int h0_thrown, .ref h0_tape, .int h0_taped, .int h0_size, .int h0_limit, .int y215_2, .int y215_3, .int h0_kind, .int y215_4, .int h0_sign, .int h0_fault, .int h0_place, .long y215_5, .int h0_told, .ref h0_now, .ref h0_read, .ref h0_kept, .ref h0_snaps, .ref h0_aside, .ref h0_name, .ref h0_readName, .ref h0_keptName, .ref h0_isKept, .ref h0_onces, .int h0_snapMany, .int h0_lowest, .int h0_highest, .int h0_agreed, .int h0_jurors, .int h0_panelled, .ref h0_inSets, .int h0_surely, .int h0_asked, .ref h0_frees, .int h0_struck, .int h0_beating, .ref h0_text, .int h0_texts, .int h0_seed, .ref h0_line, .ref h0_written, .int h0_lineMany, .int h0_hasWritten, .ref h0_node, .int h0_nodes, .int h0_onesMany, .int h0_within, .int h0_top])), (aI ca h0_tape 940 F_h0_tape)]) (va_runS (As := [.int 0]) (rest := []) ⟨hx, hb, hml, hown, hts⟩ (s_X12_isDigit l D ca H.size 0) (va_cwS 1 hts gX12_go_X12_isDigit rfl rfl rfl (by decide +kernel) ⟨Nat.le_of_ble_eq_true rfl, Nat.le_of_ble_eq_true rfl⟩) (oPS hK hP hD [] rfl (by decide)) rfl rfl hl.1 rfl (lv_room (Nat.le_of_ble_eq_true rfl)) dX12_go_237 ⟨Nat.le_of_ble_eq_true rfl, Nat.le_of_ble_eq_true rfl⟩) hP hD hS hA [] [0, 1] rfl rfl (by decide) (by decide) (fun r_1230 u H locs w_1231 hP hD hS => ?_)
            obtain ⟨⟩ := u
            have hP : va_P D vwCl [(h0, .inr (11, [.int h0_thrown, .ref h0_tape, .int h0_taped, .int h0_size, .int h0_limit, .int y215_2, .int y215_3, .int h0_kind, .int y215_4, .int h0_sign, .int h0_fault, .int h0_place, .long y215_5, .int h0_told, .ref h0_now, .ref h0_read, .ref h0_kept, .ref h0_snaps, .ref h0_aside, .ref h0_name, .ref h0_readName, .ref h0_keptName, .ref h0_isKept, .ref h0_onces, .int h0_snapMany, .int h0_lowest, .int h0_highest, .int h0_agreed, .int h0_jurors, .int h0_panelled, .ref h0_inSets, .int h0_surely, .int h0_asked, .ref h0_frees, .int h0_struck, .int h0_beating, .ref h0_text, .int h0_texts, .int h0_seed, .ref h0_line, .ref h0_written, .int h0_lineMany, .int h0_hasWritten, .ref h0_node, .int h0_nodes, .int h0_onesMany, .int h0_within, .int h0_top])), (aI ca h0_tape 940 F_h0_tape)] H := hP
            have hD : va_D A [(h0, .inr (11, [.int h0_thrown, .ref h0_tape, .int h0_taped, .int h0_size, .int h0_limit, .int y215_2, .int y215_3, .int h0_kind, .int y215_4, .int h0_sign, .int h0_fault, .int h0_place, .long y215_5, .int h0_told, .ref h0_now, .ref h0_read, .ref h0_kept, .ref h0_snaps, .ref h0_aside, .ref h0_name, .ref h0_readName, .ref h0_keptName, .ref h0_isKept, .ref h0_onces, .int h0_snapMany, .int h0_lowest, .int h0_highest, .int h0_agreed, .int h0_jurors, .int h0_panelled, .ref h0_inSets, .int h0_surely, .int h0_asked, .ref h0_frees, .int h0_struck, .int h0_beating, .ref h0_text, .int h0_texts, .int h0_seed, .ref h0_line, .ref h0_written, .int h0_lineMany, .int h0_hasWritten, .ref h0_node, .int h0_nodes, .int h0_onesMany, .int h0_within, .int h0_top])), (aI ca h0_tape 940 F_h0_tape)] := hD
            try dsimp only at w_1231
            rcases w_1231 with ⟨h_1232, h_1233⟩ | ⟨h_1234, h_1235⟩ | ⟨h_1236, h_1237⟩
            · skip
              subst h_1232
              refine lv_if_eq (tgt := 350) hx hb dX12_go_240 (by decide) (fun _ => ?_) (fun c => absurd (by decide) c)
              refine lv_aload_n hx hb dX12_go_350 rfl (lv_at hl 0 rfl) ?_
              refine lv_iload_n hx hb dX12_go_351 rfl (lv_at hl 2 rfl) ?_
              refine lv_if_eq (tgt := 377) hx hb dX12_go_352 (by decide) (fun c_1238 => ?_) (fun c_1238 => ?_)
              · skip
                have o_1239 : rl 0 y215_1 0 := rl_eq c_1238
                have h_1240 : rg 0 0 y215_1 := rl_x o_1239 hy215_1 (⟨by decide, by decide⟩ : rg 0 0 (0 : Int32)) (by decide) (by decide)
                have o_1241 : rl 0 0 y215_1 := rl_eq c_1238.symm
                exact J377_933 y215_2 y215_3 y215_4 y215_5 hy215_2 (rlm (by have q0 := rle py215_2_h0_to; omega)) hy215_3 (rlm (by have q0 := rle py215_3_h0_to; omega)) t215_h0_limit t215_h0_size H locs ls (oPsub hP [0, 1] rfl) (hD.sub [0, 1] (by decide) rfl) hS (lv_sub hl [] rfl)
              · skip
                have h_1242 : rg 1 1 y215_1 := cl_nlo c_1238 hy215_1 (show (0 : Int32).toInt = 0 by decide) (by decide) (by decide)
                refine lv_aload_n hx hb dX12_go_355 rfl (lv_at hl 0 rfl) ?_
                refine va_get (D := D) (ci := 11) (v := .int y215_2) (C := RX12) (T := TX12) (N := 48) hx hb hts k2 hown hK.1 hP 0 rfl rfl 5 (by decide) k3 (fun _ h9 => h9) rfl dX12_go_356 ?_
                refine lv_aload_n hx hb dX12_go_359 rfl (lv_at hl 0 rfl) ?_
                refine va_get (D := D) (ci := 11) (v := .int y215_3) (C := RX12) (T := TX12) (N := 48) hx hb hts k2 hown hK.1 hP 0 rfl rfl 6 (by decide) k4 (fun _ h9 => h9) rfl dX12_go_360 ?_
                refine lv_isub hx hb dX12_go_363 ?_
                refine lv_topi (fun x_1243 ex_1243 => ?_)
                have h_1244 : rg (-939) 940 x_1243 := by rw [ex_1243]; exact rg_sub hy215_2 hy215_3 (by decide) (by decide) (by decide) (by decide)
                have l_1245 : lq x_1243.toInt (y215_2.toInt + (-1) * y215_3.toInt) := lqm (by rw [ex_1243]; have q := tsub hy215_2 hy215_3 (by decide) (by decide); omega)
                refine lv_iload_n hx hb dX12_go_364 rfl (lv_at hl 1 rfl) ?_
                refine lv_if_eq (tgt := 373) hx hb dX12_go_365 (by decide) (fun c_1246 => ?_) (fun c_1246 => ?_)
                · skip
                  have o_1247 : rl 0 y215_0 0 := rl_eq c_1246
                  have h_1248 : rg 0 0 y215_0 := rl_x o_1247 hy215_0 (⟨by decide, by decide⟩ : rg 0 0 (0 : Int32)) (by decide) (by decide)
                  have o_1249 : rl 0 0 y215_0 := rl_eq c_1246.symm
                  refine lv_iconst (v := 3) hx hb dX12_go_373 (by decide) ?_
                  exact J374_934 y215_0 3 x_1243 y215_2 y215_3 y215_4 y215_5 (rgw (lo := 0) (hi := 1) h_1248 (by decide) (by decide)) (⟨by decide, by decide⟩ : rg 3 7 (3 : Int32)) h_1244 hy215_2 (rlm (by have q0 := rle py215_2_h0_to; omega)) hy215_3 (rlm (by have q0 := rle py215_3_h0_to; omega)) t215_h0_limit t215_h0_size H locs ls (oPsub hP [0, 1] rfl) (hD.sub [0, 1] (by decide) rfl) hS (lv_sub hl [1] rfl)
                · skip
                  have h_1250 : rg 1 1 y215_0 := cl_nlo c_1246 hy215_0 (show (0 : Int32).toInt = 0 by decide) (by decide) (by decide)
                  refine lv_bipush (v := 7) hx hb dX12_go_368 (by decide) ?_
                  refine lv_goto (tgt := 374) hx hb dX12_go_370 (by decide) ?_
                  exact J374_934 y215_0 7 x_1243 y215_2 y215_3 y215_4 y215_5 (rgw (lo := 0) (hi := 1) h_1250 (by decide) (by decide)) (⟨by decide, by decide⟩ : rg 3 7 (7 : Int32)) h_1244 hy215_2 (rlm (by have q0 := rle py215_2_h0_to; omega)) hy215_3 (rlm (by have q0 := rle py215_3_h0_to; omega)) t215_h0_limit t215_h0_size H locs ls (oPsub hP [0, 1] rfl) (hD.sub [0, 1] (by decide) rfl) hS (lv_sub hl [1] rfl)
            · skip
              subst h_1234
              exact (rg_no h_1235 (⟨by decide, by decide⟩ : rg 0 0 (0 : Int32)) (by decide)).elim
            · skip
              subst h_1236
              exact (rg_no h_1237 (⟨by decide, by decide⟩ : rg 0 0 (0 : Int32)) (by decide)).elim
          · skip
            have h_1251 : rg 1 939 y215_2 := rg_i h_1227 hy215_2 (by decide) (by decide)
            exact False.elim (by have z0 := rle h_1229; have q0 := rle h_1207; omega)
        · skip
          subst h_1217
          exact (rg_no h_1218 (⟨by decide, by decide⟩ : rg 0 0 (0 : Int32)) (by decide)).elim
        · skip
          subst h_1219
          exact (rg_no h_1220 (⟨by decide, by decide⟩ : rg 0 0 (0 : Int32)) (by decide)).elim
      · skip
        have h_1252 : rg 1 939 y215_2 := rg_i h_1210 hy215_2 (by decide) (by decide)
        have h_1253 : rg 2 940 h0_size := rl_y h_1212 h_1252 t215_h0_size (by decide) (by decide)
        refine oC_i (Wc := []) (Wr := [(h0, .inr (11, [.int h0_thrown, .ref h0_tape, .int h0_taped, .int h0_size, .int h0_limit, .int y215_2, .int y215_3, .int h0_kind, .int y215_4, .int h0_sign, .int h0_fault, .int h0_place, .long y215_5, .int h0_told, .ref h0_now, .ref h0_read, .ref h0_kept, .ref h0_snaps, .ref h0_aside, .ref h0_name, .ref h0_readName, .ref h0_keptName, .ref h0_isKept, .ref h0_onces, .int h0_snapMany, .int h0_lowest, .int h0_highest, .int h0_agreed, .int h0_jurors, .int h0_panelled, .ref h0_inSets, .int h0_surely, .int h0_asked, .ref h0_frees, .int h0_struck, .int h0_beating, .ref h0_text, .int h0_texts, .int h0_seed, .ref h0_line, .ref h0_written, .int h0_lineMany, .int h0_hasWritten, .ref h0_node, .int h0_nodes, .int h0_onesMany, .int h0_within, .int h0_top])), (aI ca h0_tape 940 F_h0_tape)]) (va_runS (As := [.int r_1204]) (rest := []) ⟨hx, hb, hml, hown, hts⟩ (s_X12_isLetter l D ca H.size r_1204) (va_cwS 1 hts gX12_go_X12_isLetter rfl rfl rfl (by decide +kernel) ⟨Nat.le_of_ble_eq_true rfl, Nat.le_of_ble_eq_true rfl⟩) (oPS hK hP hD [] rfl (by decide)) rfl rfl hl.1 rfl (lv_room (Nat.le_of_ble_eq_true rfl)) dX12_go_223 ⟨Nat.le_of_ble_eq_true rfl, Nat.le_of_ble_eq_true rfl⟩) hP hD hS hA [] [0, 1] rfl rfl (by decide) (by decide) (fun r_1254 u H locs w_1255 hP hD hS => ?_)
        obtain ⟨⟩ := u
        have hP : va_P D vwCl [(h0, .inr (11, [.int h0_thrown, .ref h0_tape, .int h0_taped, .int h0_size, .int h0_limit, .int y215_2, .int y215_3, .int h0_kind, .int y215_4, .int h0_sign, .int h0_fault, .int h0_place, .long y215_5, .int h0_told, .ref h0_now, .ref h0_read, .ref h0_kept, .ref h0_snaps, .ref h0_aside, .ref h0_name, .ref h0_readName, .ref h0_keptName, .ref h0_isKept, .ref h0_onces, .int h0_snapMany, .int h0_lowest, .int h0_highest, .int h0_agreed, .int h0_jurors, .int h0_panelled, .ref h0_inSets, .int h0_surely, .int h0_asked, .ref h0_frees, .int h0_struck, .int h0_beating, .ref h0_text, .int h0_texts, .int h0_seed, .ref h0_line, .ref h0_written, .int h0_lineMany, .int h0_hasWritten, .ref h0_node, .int h0_nodes, .int h0_onesMany, .int h0_within, .int h0_top])), (aI ca h0_tape 940 F_h0_tape)] H := hP
        have hD : va_D A [(h0, .inr (11, [.int h0_thrown, .ref h0_tape, .int h0_taped, .int h0_size, .int h0_limit, .int y215_2, .int y215_3, .int h0_kind, .int y215_4, .int h0_sign, .int h0_fault, .int h0_place, .long y215_5, .int h0_told, .ref h0_now, .ref h0_read, .ref h0_kept, .ref h0_snaps, .ref h0_aside, .ref h0_name, .ref h0_readName, .ref h0_keptName, .ref h0_isKept, .ref h0_onces, .int h0_snapMany, .int h0_lowest, .int h0_highest, .int h0_agreed, .int h0_jurors, .int h0_panelled, .ref h0_inSets, .int h0_surely, .int h0_asked, .ref h0_frees, .int h0_struck, .int h0_beating, .ref h0_text, .int h0_texts, .int h0_seed, .ref h0_line, .ref h0_written, .int h0_lineMany, .int h0_hasWritten, .ref h0_node, .int h0_nodes, .int h0_onesMany, .int h0_within, .int h0_top])), (aI ca h0_tape 940 F_h0_tape)] := hD
        try dsimp only at w_1255
        rcases w_1255 with ⟨h_1256, h_1257⟩ | ⟨h_1258, h_1259⟩ | ⟨h_1260, h_1261⟩
        · skip
          subst h_1256
          have h_1262 : rg 0 96 r_1204 := rg_i h_1257 h_1209 (by decide) (by decide)
          refine lv_if_ne (tgt := 243) hx hb dX12_go_226 (by decide) (fun c => absurd (by decide) c) (fun _ => ?_)
          refine lv_aload_n hx hb dX12_go_229 rfl (lv_at hl 0 rfl) ?_
          refine lv_aload_n hx hb dX12_go_230 rfl (lv_at hl 0 rfl) ?_
          refine va_get (D := D) (ci := 11) (v := .int y215_2) (C := RX12) (T := TX12) (N := 48) hx hb hts k2 hown hK.1 hP 0 rfl rfl 5 (by decide) k3 (fun _ h9 => h9) rfl dX12_go_231 ?_
          refine oC_i (Wc := [(h0, .inr (11, [.int h0_thrown, .ref h0_tape, .int h0_taped, .int h0_size, .int h0_limit, .int y215_2, .int y215_3, .int h0_kind, .int y215_4, .int h0_sign, .int h0_fault, .int h0_place, .long y215_5, .int h0_told, .ref h0_now, .ref h0_read, .ref h0_kept, .ref h0_snaps, .ref h0_aside, .ref h0_name, .ref h0_readName, .ref h0_keptName, .ref h0_isKept, .ref h0_onces, .int h0_snapMany, .int h0_lowest, .int h0_highest, .int h0_agreed, .int h0_jurors, .int h0_panelled, .ref h0_inSets, .int h0_surely, .int h0_asked, .ref h0_frees, .int h0_struck, .int h0_beating, .ref h0_text, .int h0_texts, .int h0_seed, .ref h0_line, .ref h0_written, .int h0_lineMany, .int h0_hasWritten, .ref h0_node, .int h0_nodes, .int h0_onesMany, .int h0_within, .int h0_top])), (aI ca h0_tape 940 F_h0_tape)]) (Wr := []) (va_runV (As := [.int y215_2]) (rest := []) ⟨hx, hb, hml, hown, hts⟩ (s_X12_tapeAt l D ca H.size h0 y215_2 h0_thrown h0_tape h0_taped h0_size h0_limit y215_2 y215_3 h0_kind y215_4 h0_sign h0_fault h0_place y215_5 h0_told h0_now h0_read h0_kept h0_snaps h0_aside h0_name h0_readName h0_keptName h0_isKept h0_onces h0_snapMany h0_lowest h0_highest h0_agreed h0_jurors h0_panelled h0_inSets h0_surely h0_asked h0_frees h0_struck h0_beating h0_text h0_texts h0_seed h0_line h0_written h0_lineMany h0_hasWritten h0_node h0_nodes h0_onesMany h0_within h0_top F_h0_tape (rgw (lo := 0) (hi := 940) h_1252 (by decide) (by decide)) i_h0_taped (rgw (lo := 0) (hi := 940) h_1253 (by decide) (by decide)) (rgw (lo := 0) (hi := 940) h_1252 (by decide) (by decide)) i_h0_kind i_h0_snapMany i_h0_texts i_h0_lineMany i_h0_hasWritten i_h0_nodes i_h0_onesMany (sg_w (a' := 0) (b' := 940) (lo' := 0) (hi' := 255) s_h0_tape_0 (by decide) (by decide) (by decide) (by decide))) (cwV 1 hts gX12_go_X12_tapeAt rfl rfl rfl (by decide +kernel) ⟨Nat.le_of_ble_eq_true rfl, Nat.le_of_ble_eq_true rfl⟩) (oPV (C := RX12) hK hP hD [0, 1] rfl (by decide) 0 rfl (ci := 11) rfl rfl) rfl rfl hl.1 rfl (lv_room (Nat.le_of_ble_eq_true rfl)) dX12_go_234 ⟨Nat.le_of_ble_eq_true rfl, Nat.le_of_ble_eq_true rfl⟩) hP hD hS hA [0, 1] [] rfl rfl (by decide) (by decide) (fun r_1263 u H locs w_1264 hP hD hS => ?_)
          obtain ⟨⟩ := u
          have hP : va_P D vwCl [(h0, .inr (11, [.int h0_thrown, .ref h0_tape, .int h0_taped, .int h0_size, .int h0_limit, .int y215_2, .int y215_3, .int h0_kind, .int y215_4, .int h0_sign, .int h0_fault, .int h0_place, .long y215_5, .int h0_told, .ref h0_now, .ref h0_read, .ref h0_kept, .ref h0_snaps, .ref h0_aside, .ref h0_name, .ref h0_readName, .ref h0_keptName, .ref h0_isKept, .ref h0_onces, .int h0_snapMany, .int h0_lowest, .int h0_highest, .int h0_agreed, .int h0_jurors, .int h0_panelled, .ref h0_inSets, .int h0_surely, .int h0_asked, .ref h0_frees, .int h0_struck, .int h0_beating, .ref h0_text, .int h0_texts, .int h0_seed, .ref h0_line, .ref h0_written, .int h0_lineMany, .int h0_hasWritten, .ref h0_node, .int h0_nodes, .int h0_onesMany, .int h0_within, .int h0_top])), (aI ca h0_tape 940 F_h0_tape)] H := hP
          have hD : va_D A [(h0, .inr (11, [.int h0_thrown, .ref h0_tape, .int h0_taped, .int h0_size, .int h0_limit, .int y215_2, .int y215_3, .int h0_kind, .int y215_4, .int h0_sign, .int h0_fault, .int h0_place, .long y215_5, .int h0_told, .ref h0_now, .ref h0_read, .ref h0_kept, .ref h0_snaps, .ref h0_aside, .ref h0_name, .ref h0_readName, .ref h0_keptName, .ref h0_isKept, .ref h0_onces, .int h0_snapMany, .int h0_lowest, .int h0_highest, .int h0_agreed, .int h0_jurors, .int h0_panelled, .ref h0_inSets, .int h0_surely, .int h0_asked, .ref h0_frees, .int h0_struck, .int h0_beating, .ref h0_text, .int h0_texts, .int h0_seed, .ref h0_line, .ref h0_written, .int h0_lineMany, .int h0_hasWritten, .ref h0_node, .int h0_nodes, .int h0_onesMany, .int h0_within, .int h0_top])), (aI ca h0_tape 940 F_h0_tape)] := hD
          try dsimp only at w_1264
          rcases w_1264 with ⟨h_1265, h_1266⟩ | ⟨h_1267, h_1268, h_1269, h_1270, h_1271⟩
          · skip
            subst h_1265
            exact False.elim (by have z0 := rle h_1266; have q0 := rle h_1212; omega)
          · skip
            have h_1272 := (h_1267.trans h_1208.symm).symm
            subst h_1272
            refine oC_i (Wc := []) (Wr := [(h0, .inr (11, [.int h0_thrown, .ref h0_tape, .int h0_taped, .int h0_size, .int h0_limit, .int y215_2, .int y215_3, .int h0_kind, .int y215_4, .int h0_sign, .int h0_fault, .int h0_place, .long y215_5, .int h0_told, .ref h0_now, .ref h0_read, .ref h0_kept, .ref h0_snaps, .ref h0_aside, .ref h0_name, .ref h0_readName, .ref h0_keptName, .ref h0_isKept, .ref h0_onces, .int h0_snapMany, .int h0_lowest, .int h0_highest, .int h0_agreed, .int h0_jurors, .int h0_panelled, .ref h0_inSets, .int h0_surely, .int h0_asked, .ref h0_frees, .int h0_struck, .int h0_beating, .ref h0_text, .int h0_texts, .int h0_seed, .ref h0_line, .ref h0_written, .int h0_lineMany, .int h0_hasWritten, .ref h0_node, .int h0_nodes, .int h0_onesMany, .int h0_within, .int h0_top])), (aI ca h0_tape 940 F_h0_tape)]) (va_runS (As := [.int r_1204]) (rest := []) ⟨hx, hb, hml, hown, hts⟩ (s_X12_isDigit l D ca H.size r_1204) (va_cwS 1 hts gX12_go_X12_isDigit rfl rfl rfl (by decide +kernel) ⟨Nat.le_of_ble_eq_true rfl, Nat.le_of_ble_eq_true rfl⟩) (oPS hK hP hD [] rfl (by decide)) rfl rfl hl.1 rfl (lv_room (Nat.le_of_ble_eq_true rfl)) dX12_go_237 ⟨Nat.le_of_ble_eq_true rfl, Nat.le_of_ble_eq_true rfl⟩) hP hD hS hA [] [0, 1] rfl rfl (by decide) (by decide) (fun r_1273 u H locs w_1274 hP hD hS => ?_)
            obtain ⟨⟩ := u
            have hP : va_P D vwCl [(h0, .inr (11, [.int h0_thrown, .ref h0_tape, .int h0_taped, .int h0_size, .int h0_limit, .int y215_2, .int y215_3, .int h0_kind, .int y215_4, .int h0_sign, .int h0_fault, .int h0_place, .long y215_5, .int h0_told, .ref h0_now, .ref h0_read, .ref h0_kept, .ref h0_snaps, .ref h0_aside, .ref h0_name, .ref h0_readName, .ref h0_keptName, .ref h0_isKept, .ref h0_onces, .int h0_snapMany, .int h0_lowest, .int h0_highest, .int h0_agreed, .int h0_jurors, .int h0_panelled, .ref h0_inSets, .int h0_surely, .int h0_asked, .ref h0_frees, .int h0_struck, .int h0_beating, .ref h0_text, .int h0_texts, .int h0_seed, .ref h0_line, .ref h0_written, .int h0_lineMany, .int h0_hasWritten, .ref h0_node, .int h0_nodes, .int h0_onesMany, .int h0_within, .int h0_top])), (aI ca h0_tape 940 F_h0_tape)] H := hP
            have hD : va_D A [(h0, .inr (11, [.int h0_thrown, .ref h0_tape, .int h0_taped, .int h0_size, .int h0_limit, .int y215_2, .int y215_3, .int h0_kind, .int y215_4, .int h0_sign, .int h0_fault, .int h0_place, .long y215_5, .int h0_told, .ref h0_now, .ref h0_read, .ref h0_kept, .ref h0_snaps, .ref h0_aside, .ref h0_name, .ref h0_readName, .ref h0_keptName, .ref h0_isKept, .ref h0_onces, .int h0_snapMany, .int h0_lowest, .int h0_highest, .int h0_agreed, .int h0_jurors, .int h0_panelled, .ref h0_inSets, .int h0_surely, .int h0_asked, .ref h0_frees, .int h0_struck, .int h0_beating, .ref h0_text, .int h0_texts, .int h0_seed, .ref h0_line, .ref h0_written, .int h0_lineMany, .int h0_hasWritten, .ref h0_node, .int h0_nodes, .int h0_onesMany, .int h0_within, .int h0_top])), (aI ca h0_tape 940 F_h0_tape)] := hD
            try dsimp only at w_1274
            rcases w_1274 with ⟨h_1275, h_1276⟩ | ⟨h_1277, h_1278⟩ | ⟨h_1279, h_1280⟩
            · skip
              subst h_1275
              have h_1281 : rg 0 47 r_1204 := rg_i h_1276 h_1262 (by decide) (by decide)
              refine lv_if_eq (tgt := 350) hx hb dX12_go_240 (by decide) (fun _ => ?_) (fun c => absurd (by decide) c)
              refine lv_aload_n hx hb dX12_go_350 rfl (lv_at hl 0 rfl) ?_
              refine lv_iload_n hx hb dX12_go_351 rfl (lv_at hl 2 rfl) ?_
              refine lv_if_eq (tgt := 377) hx hb dX12_go_352 (by decide) (fun c_1282 => ?_) (fun c_1282 => ?_)
              · skip
                have o_1283 : rl 0 y215_1 0 := rl_eq c_1282
                have h_1284 : rg 0 0 y215_1 := rl_x o_1283 hy215_1 (⟨by decide, by decide⟩ : rg 0 0 (0 : Int32)) (by decide) (by decide)
                have o_1285 : rl 0 0 y215_1 := rl_eq c_1282.symm
                exact J377_933 y215_2 y215_3 y215_4 y215_5 (rgw (lo := 1) (hi := 940) h_1252 (by decide) (by decide)) (rlm (by have q0 := rle py215_2_h0_to; omega)) hy215_3 (rlm (by have q0 := rle py215_3_h0_to; omega)) t215_h0_limit (rgw (lo := 1) (hi := 940) h_1253 (by decide) (by decide)) H locs ls (oPsub hP [0, 1] rfl) (hD.sub [0, 1] (by decide) rfl) hS (lv_sub hl [] rfl)
              · skip
                have h_1286 : rg 1 1 y215_1 := cl_nlo c_1282 hy215_1 (show (0 : Int32).toInt = 0 by decide) (by decide) (by decide)
                refine lv_aload_n hx hb dX12_go_355 rfl (lv_at hl 0 rfl) ?_
                refine va_get (D := D) (ci := 11) (v := .int y215_2) (C := RX12) (T := TX12) (N := 48) hx hb hts k2 hown hK.1 hP 0 rfl rfl 5 (by decide) k3 (fun _ h9 => h9) rfl dX12_go_356 ?_
                refine lv_aload_n hx hb dX12_go_359 rfl (lv_at hl 0 rfl) ?_
                refine va_get (D := D) (ci := 11) (v := .int y215_3) (C := RX12) (T := TX12) (N := 48) hx hb hts k2 hown hK.1 hP 0 rfl rfl 6 (by decide) k4 (fun _ h9 => h9) rfl dX12_go_360 ?_
                refine lv_isub hx hb dX12_go_363 ?_
                refine lv_topi (fun x_1287 ex_1287 => ?_)
                have h_1288 : rg (-939) 939 x_1287 := by rw [ex_1287]; exact rg_sub h_1252 hy215_3 (by decide) (by decide) (by decide) (by decide)
                have l_1289 : lq x_1287.toInt (y215_2.toInt + (-1) * y215_3.toInt) := lqm (by rw [ex_1287]; have q := tsub h_1252 hy215_3 (by decide) (by decide); omega)
                refine lv_iload_n hx hb dX12_go_364 rfl (lv_at hl 1 rfl) ?_
                refine lv_if_eq (tgt := 373) hx hb dX12_go_365 (by decide) (fun c_1290 => ?_) (fun c_1290 => ?_)
                · skip
                  have o_1291 : rl 0 y215_0 0 := rl_eq c_1290
                  have h_1292 : rg 0 0 y215_0 := rl_x o_1291 hy215_0 (⟨by decide, by decide⟩ : rg 0 0 (0 : Int32)) (by decide) (by decide)
                  have o_1293 : rl 0 0 y215_0 := rl_eq c_1290.symm
                  refine lv_iconst (v := 3) hx hb dX12_go_373 (by decide) ?_
                  exact J374_934 y215_0 3 x_1287 y215_2 y215_3 y215_4 y215_5 (rgw (lo := 0) (hi := 1) h_1292 (by decide) (by decide)) (⟨by decide, by decide⟩ : rg 3 7 (3 : Int32)) (rgw (lo := (-939)) (hi := 940) h_1288 (by decide) (by decide)) (rgw (lo := 1) (hi := 940) h_1252 (by decide) (by decide)) (rlm (by have q0 := rle py215_2_h0_to; omega)) hy215_3 (rlm (by have q0 := rle py215_3_h0_to; omega)) t215_h0_limit (rgw (lo := 1) (hi := 940) h_1253 (by decide) (by decide)) H locs ls (oPsub hP [0, 1] rfl) (hD.sub [0, 1] (by decide) rfl) hS (lv_sub hl [1] rfl)
                · skip
                  have h_1294 : rg 1 1 y215_0 := cl_nlo c_1290 hy215_0 (show (0 : Int32).toInt = 0 by decide) (by decide) (by decide)
                  refine lv_bipush (v := 7) hx hb dX12_go_368 (by decide) ?_
                  refine lv_goto (tgt := 374) hx hb dX12_go_370 (by decide) ?_
                  exact J374_934 y215_0 7 x_1287 y215_2 y215_3 y215_4 y215_5 (rgw (lo := 0) (hi := 1) h_1294 (by decide) (by decide)) (⟨by decide, by decide⟩ : rg 3 7 (7 : Int32)) (rgw (lo := (-939)) (hi := 940) h_1288 (by decide) (by decide)) (rgw (lo := 1) (hi := 940) h_1252 (by decide) (by decide)) (rlm (by have q0 := rle py215_2_h0_to; omega)) hy215_3 (rlm (by have q0 := rle py215_3_h0_to; omega)) t215_h0_limit (rgw (lo := 1) (hi := 940) h_1253 (by decide) (by decide)) H locs ls (oPsub hP [0, 1] rfl) (hD.sub [0, 1] (by decide) rfl) hS (lv_sub hl [1] rfl)
            · skip
              subst h_1277
              have h_1295 : rg 58 96 r_1204 := rg_i h_1278 h_1262 (by decide) (by decide)
              refine lv_if_eq (tgt := 350) hx hb dX12_go_240 (by decide) (fun _ => ?_) (fun c => absurd (by decide) c)
              refine lv_aload_n hx hb dX12_go_350 rfl (lv_at hl 0 rfl) ?_
              refine lv_iload_n hx hb dX12_go_351 rfl (lv_at hl 2 rfl) ?_
              refine lv_if_eq (tgt := 377) hx hb dX12_go_352 (by decide) (fun c_1296 => ?_) (fun c_1296 => ?_)
              · skip
                have o_1297 : rl 0 y215_1 0 := rl_eq c_1296
                have h_1298 : rg 0 0 y215_1 := rl_x o_1297 hy215_1 (⟨by decide, by decide⟩ : rg 0 0 (0 : Int32)) (by decide) (by decide)
                have o_1299 : rl 0 0 y215_1 := rl_eq c_1296.symm
                exact J377_933 y215_2 y215_3 y215_4 y215_5 (rgw (lo := 1) (hi := 940) h_1252 (by decide) (by decide)) (rlm (by have q0 := rle py215_2_h0_to; omega)) hy215_3 (rlm (by have q0 := rle py215_3_h0_to; omega)) t215_h0_limit (rgw (lo := 1) (hi := 940) h_1253 (by decide) (by decide)) H locs ls (oPsub hP [0, 1] rfl) (hD.sub [0, 1] (by decide) rfl) hS (lv_sub hl [] rfl)
              · skip
                have h_1300 : rg 1 1 y215_1 := cl_nlo c_1296 hy215_1 (show (0 : Int32).toInt = 0 by decide) (by decide) (by decide)
                refine lv_aload_n hx hb dX12_go_355 rfl (lv_at hl 0 rfl) ?_
                refine va_get (D := D) (ci := 11) (v := .int y215_2) (C := RX12) (T := TX12) (N := 48) hx hb hts k2 hown hK.1 hP 0 rfl rfl 5 (by decide) k3 (fun _ h9 => h9) rfl dX12_go_356 ?_
                refine lv_aload_n hx hb dX12_go_359 rfl (lv_at hl 0 rfl) ?_
                refine va_get (D := D) (ci := 11) (v := .int y215_3) (C := RX12) (T := TX12) (N := 48) hx hb hts k2 hown hK.1 hP 0 rfl rfl 6 (by decide) k4 (fun _ h9 => h9) rfl dX12_go_360 ?_
                refine lv_isub hx hb dX12_go_363 ?_
                refine lv_topi (fun x_1301 ex_1301 => ?_)
                have h_1302 : rg (-939) 939 x_1301 := by rw [ex_1301]; exact rg_sub h_1252 hy215_3 (by decide) (by decide) (by decide) (by decide)
                have l_1303 : lq x_1301.toInt (y215_2.toInt + (-1) * y215_3.toInt) := lqm (by rw [ex_1301]; have q := tsub h_1252 hy215_3 (by decide) (by decide); omega)
                refine lv_iload_n hx hb dX12_go_364 rfl (lv_at hl 1 rfl) ?_
                refine lv_if_eq (tgt := 373) hx hb dX12_go_365 (by decide) (fun c_1304 => ?_) (fun c_1304 => ?_)
                · skip
                  have o_1305 : rl 0 y215_0 0 := rl_eq c_1304
                  have h_1306 : rg 0 0 y215_0 := rl_x o_1305 hy215_0 (⟨by decide, by decide⟩ : rg 0 0 (0 : Int32)) (by decide) (by decide)
                  have o_1307 : rl 0 0 y215_0 := rl_eq c_1304.symm
                  refine lv_iconst (v := 3) hx hb dX12_go_373 (by decide) ?_
                  exact J374_934 y215_0 3 x_1301 y215_2 y215_3 y215_4 y215_5 (rgw (lo := 0) (hi := 1) h_1306 (by decide) (by decide)) (⟨by decide, by decide⟩ : rg 3 7 (3 : Int32)) (rgw (lo := (-939)) (hi := 940) h_1302 (by decide) (by decide)) (rgw (lo := 1) (hi := 940) h_1252 (by decide) (by decide)) (rlm (by have q0 := rle py215_2_h0_to; omega)) hy215_3 (rlm (by have q0 := rle py215_3_h0_to; omega)) t215_h0_limit (rgw (lo := 1) (hi := 940) h_1253 (by decide) (by decide)) H locs ls (oPsub hP [0, 1] rfl) (hD.sub [0, 1] (by decide) rfl) hS (lv_sub hl [1] rfl)
                · skip
                  have h_1308 : rg 1 1 y215_0 := cl_nlo c_1304 hy215_0 (show (0 : Int32).toInt = 0 by decide) (by decide) (by decide)
                  refine lv_bipush (v := 7) hx hb dX12_go_368 (by decide) ?_
                  refine lv_goto (tgt := 374) hx hb dX12_go_370 (by decide) ?_
                  exact J374_934 y215_0 7 x_1301 y215_2 y215_3 y215_4 y215_5 (rgw (lo := 0) (hi := 1) h_1308 (by decide) (by decide)) (⟨by decide, by decide⟩ : rg 3 7 (7 : Int32)) (rgw (lo := (-939)) (hi := 940) h_1302 (by decide) (by decide)) (rgw (lo := 1) (hi := 940) h_1252 (by decide) (by decide)) (rlm (by have q0 := rle py215_2_h0_to; omega)) hy215_3 (rlm (by have q0 := rle py215_3_h0_to; omega)) t215_h0_limit (rgw (lo := 1) (hi := 940) h_1253 (by decide) (by decide)) H locs ls (oPsub hP [0, 1] rfl) (hD.sub [0, 1] (by decide) rfl) hS (lv_sub hl [1] rfl)
            · skip
              subst h_1279
              refine lv_if_eq (tgt := 350) hx hb dX12_go_240 (by decide) (fun c => absurd c (by decide)) (fun _ => ?_)
              exact J243_1171 () h_1253 h_1252 h_1212 H locs ls (oPsub hP [0, 1] rfl) (hD.sub [0, 1] (by decide) rfl) hS (lv_sub hl [0, 1, 2] rfl)
        · skip
          subst h_1258
          have h_1309 : rg 123 255 r_1204 := rg_i h_1259 h_1209 (by decide) (by decide)
          refine lv_if_ne (tgt := 243) hx hb dX12_go_226 (by decide) (fun c => absurd (by decide) c) (fun _ => ?_)
          refine lv_aload_n hx hb dX12_go_229 rfl (lv_at hl 0 rfl) ?_
          refine lv_aload_n hx hb dX12_go_230 rfl (lv_at hl 0 rfl) ?_
          refine va_get (D := D) (ci := 11) (v := .int y215_2) (C := RX12) (T := TX12) (N := 48) hx hb hts k2 hown hK.1 hP 0 rfl rfl 5 (by decide) k3 (fun _ h9 => h9) rfl dX12_go_231 ?_
          refine oC_i (Wc := [(h0, .inr (11, [.int h0_thrown, .ref h0_tape, .int h0_taped, .int h0_size, .int h0_limit, .int y215_2, .int y215_3, .int h0_kind, .int y215_4, .int h0_sign, .int h0_fault, .int h0_place, .long y215_5, .int h0_told, .ref h0_now, .ref h0_read, .ref h0_kept, .ref h0_snaps, .ref h0_aside, .ref h0_name, .ref h0_readName, .ref h0_keptName, .ref h0_isKept, .ref h0_onces, .int h0_snapMany, .int h0_lowest, .int h0_highest, .int h0_agreed, .int h0_jurors, .int h0_panelled, .ref h0_inSets, .int h0_surely, .int h0_asked, .ref h0_frees, .int h0_struck, .int h0_beating, .ref h0_text, .int h0_texts, .int h0_seed, .ref h0_line, .ref h0_written, .int h0_lineMany, .int h0_hasWritten, .ref h0_node, .int h0_nodes, .int h0_onesMany, .int h0_within, .int h0_top])), (aI ca h0_tape 940 F_h0_tape)]) (Wr := []) (va_runV (As := [.int y215_2]) (rest := []) ⟨hx, hb, hml, hown, hts⟩ (s_X12_tapeAt l D ca H.size h0 y215_2 h0_thrown h0_tape h0_taped h0_size h0_limit y215_2 y215_3 h0_kind y215_4 h0_sign h0_fault h0_place y215_5 h0_told h0_now h0_read h0_kept h0_snaps h0_aside h0_name h0_readName h0_keptName h0_isKept h0_onces h0_snapMany h0_lowest h0_highest h0_agreed h0_jurors h0_panelled h0_inSets h0_surely h0_asked h0_frees h0_struck h0_beating h0_text h0_texts h0_seed h0_line h0_written h0_lineMany h0_hasWritten h0_node h0_nodes h0_onesMany h0_within h0_top F_h0_tape (rgw (lo := 0) (hi := 940) h_1252 (by decide) (by decide)) i_h0_taped (rgw (lo := 0) (hi := 940) h_1253 (by decide) (by decide)) (rgw (lo := 0) (hi := 940) h_1252 (by decide) (by decide)) i_h0_kind i_h0_snapMany i_h0_texts i_h0_lineMany i_h0_hasWritten i_h0_nodes i_h0_onesMany (sg_w (a' := 0) (b' := 940) (lo' := 0) (hi' := 255) s_h0_tape_0 (by decide) (by decide) (by decide) (by decide))) (cwV 1 hts gX12_go_X12_tapeAt rfl rfl rfl (by decide +kernel) ⟨Nat.le_of_ble_eq_true rfl, Nat.le_of_ble_eq_true rfl⟩) (oPV (C := RX12) hK hP hD [0, 1] rfl (by decide) 0 rfl (ci := 11) rfl rfl) rfl rfl hl.1 rfl (lv_room (Nat.le_of_ble_eq_true rfl)) dX12_go_234 ⟨Nat.le_of_ble_eq_true rfl, Nat.le_of_ble_eq_true rfl⟩) hP hD hS hA [0, 1] [] rfl rfl (by decide) (by decide) (fun r_1310 u H locs w_1311 hP hD hS => ?_)
          obtain ⟨⟩ := u
          have hP : va_P D vwCl [(h0, .inr (11, [.int h0_thrown, .ref h0_tape, .int h0_taped, .int h0_size, .int h0_limit, .int y215_2, .int y215_3, .int h0_kind, .int y215_4, .int h0_sign, .int h0_fault, .int h0_place, .long y215_5, .int h0_told, .ref h0_now, .ref h0_read, .ref h0_kept, .ref h0_snaps, .ref h0_aside, .ref h0_name, .ref h0_readName, .ref h0_keptName, .ref h0_isKept, .ref h0_onces, .int h0_snapMany, .int h0_lowest, .int h0_highest, .int h0_agreed, .int h0_jurors, .int h0_panelled, .ref h0_inSets, .int h0_surely, .int h0_asked, .ref h0_frees, .int h0_struck, .int h0_beating, .ref h0_text, .int h0_texts, .int h0_seed, .ref h0_line, .ref h0_written, .int h0_lineMany, .int h0_hasWritten, .ref h0_node, .int h0_nodes, .int h0_onesMany, .int h0_within, .int h0_top])), (aI ca h0_tape 940 F_h0_tape)] H := hP
          have hD : va_D A [(h0, .inr (11, [.int h0_thrown, .ref h0_tape, .int h0_taped, .int h0_size, .int h0_limit, .int y215_2, .int y215_3, .int h0_kind, .int y215_4, .int h0_sign, .int h0_fault, .int h0_place, .long y215_5, .int h0_told, .ref h0_now, .ref h0_read, .ref h0_kept, .ref h0_snaps, .ref h0_aside, .ref h0_name, .ref h0_readName, .ref h0_keptName, .ref h0_isKept, .ref h0_onces, .int h0_snapMany, .int h0_lowest, .int h0_highest, .int h0_agreed, .int h0_jurors, .int h0_panelled, .ref h0_inSets, .int h0_surely, .int h0_asked, .ref h0_frees, .int h0_struck, .int h0_beating, .ref h0_text, .int h0_texts, .int h0_seed, .ref h0_line, .ref h0_written, .int h0_lineMany, .int h0_hasWritten, .ref h0_node, .int h0_nodes, .int h0_onesMany, .int h0_within, .int h0_top])), (aI ca h0_tape 940 F_h0_tape)] := hD
          try dsimp only at w_1311
          rcases w_1311 with ⟨h_1312, h_1313⟩ | ⟨h_1314, h_1315, h_1316, h_1317, h_1318⟩
          · skip
            subst h_1312
            exact False.elim (by have z0 := rle h_1313; have q0 := rle h_1212; omega)
          · skip
            have h_1319 := (h_1314.trans h_1208.symm).symm
            subst h_1319
            refine oC_i (Wc := []) (Wr := [(h0, .inr (11, [.int h0_thrown, .ref h0_tape, .int h0_taped, .int h0_size, .int h0_limit, .int y215_2, .int y215_3, .int h0_kind, .int y215_4, .int h0_sign, .int h0_fault, .int h0_place, .long y215_5, .int h0_told, .ref h0_now, .ref h0_read, .ref h0_kept, .ref h0_snaps, .ref h0_aside, .ref h0_name, .ref h0_readName, .ref h0_keptName, .ref h0_isKept, .ref h0_onces, .int h0_snapMany, .int h0_lowest, .int h0_highest, .int h0_agreed, .int h0_jurors, .int h0_panelled, .ref h0_inSets, .int h0_surely, .int h0_asked, .ref h0_frees, .int h0_struck, .int h0_beating, .ref h0_text, .int h0_texts, .int h0_seed, .ref h0_line, .ref h0_written, .int h0_lineMany, .int h0_hasWritten, .ref h0_node, .int h0_nodes, .int h0_onesMany, .int h0_within, .int h0_top])), (aI ca h0_tape 940 F_h0_tape)]) (va_runS (As := [.int r_1204]) (rest := []) ⟨hx, hb, hml, hown, hts⟩ (s_X12_isDigit l D ca H.size r_1204) (va_cwS 1 hts gX12_go_X12_isDigit rfl rfl rfl (by decide +kernel) ⟨Nat.le_of_ble_eq_true rfl, Nat.le_of_ble_eq_true rfl⟩) (oPS hK hP hD [] rfl (by decide)) rfl rfl hl.1 rfl (lv_room (Nat.le_of_ble_eq_true rfl)) dX12_go_237 ⟨Nat.le_of_ble_eq_true rfl, Nat.le_of_ble_eq_true rfl⟩) hP hD hS hA [] [0, 1] rfl rfl (by decide) (by decide) (fun r_1320 u H locs w_1321 hP hD hS => ?_)
            obtain ⟨⟩ := u
            have hP : va_P D vwCl [(h0, .inr (11, [.int h0_thrown, .ref h0_tape, .int h0_taped, .int h0_size, .int h0_limit, .int y215_2, .int y215_3, .int h0_kind, .int y215_4, .int h0_sign, .int h0_fault, .int h0_place, .long y215_5, .int h0_told, .ref h0_now, .ref h0_read, .ref h0_kept, .ref h0_snaps, .ref h0_aside, .ref h0_name, .ref h0_readName, .ref h0_keptName, .ref h0_isKept, .ref h0_onces, .int h0_snapMany, .int h0_lowest, .int h0_highest, .int h0_agreed, .int h0_jurors, .int h0_panelled, .ref h0_inSets, .int h0_surely, .int h0_asked, .ref h0_frees, .int h0_struck, .int h0_beating, .ref h0_text, .int h0_texts, .int h0_seed, .ref h0_line, .ref h0_written, .int h0_lineMany, .int h0_hasWritten, .ref h0_node, .int h0_nodes, .int h0_onesMany, .int h0_within, .int h0_top])), (aI ca h0_tape 940 F_h0_tape)] H := hP
            have hD : va_D A [(h0, .inr (11, [.int h0_thrown, .ref h0_tape, .int h0_taped, .int h0_size, .int h0_limit, .int y215_2, .int y215_3, .int h0_kind, .int y215_4, .int h0_sign, .int h0_fault, .int h0_place, .long y215_5, .int h0_told, .ref h0_now, .ref h0_read, .ref h0_kept, .ref h0_snaps, .ref h0_aside, .ref h0_name, .ref h0_readName, .ref h0_keptName, .ref h0_isKept, .ref h0_onces, .int h0_snapMany, .int h0_lowest, .int h0_highest, .int h0_agreed, .int h0_jurors, .int h0_panelled, .ref h0_inSets, .int h0_surely, .int h0_asked, .ref h0_frees, .int h0_struck, .int h0_beating, .ref h0_text, .int h0_texts, .int h0_seed, .ref h0_line, .ref h0_written, .int h0_lineMany, .int h0_hasWritten, .ref h0_node, .int h0_nodes, .int h0_onesMany, .int h0_within, .int h0_top])), (aI ca h0_tape 940 F_h0_tape)] := hD
            try dsimp only at w_1321
            rcases w_1321 with ⟨h_1322, h_1323⟩ | ⟨h_1324, h_1325⟩ | ⟨h_1326, h_1327⟩
            · skip
              subst h_1322
              exact (rg_no h_1323 h_1309 (by decide)).elim
            · skip
              subst h_1324
              refine lv_if_eq (tgt := 350) hx hb dX12_go_240 (by decide) (fun _ => ?_) (fun c => absurd (by decide) c)
              refine lv_aload_n hx hb dX12_go_350 rfl (lv_at hl 0 rfl) ?_
              refine lv_iload_n hx hb dX12_go_351 rfl (lv_at hl 2 rfl) ?_
              refine lv_if_eq (tgt := 377) hx hb dX12_go_352 (by decide) (fun c_1328 => ?_) (fun c_1328 => ?_)
              · skip
                have o_1329 : rl 0 y215_1 0 := rl_eq c_1328
                have h_1330 : rg 0 0 y215_1 := rl_x o_1329 hy215_1 (⟨by decide, by decide⟩ : rg 0 0 (0 : Int32)) (by decide) (by decide)
                have o_1331 : rl 0 0 y215_1 := rl_eq c_1328.symm
                exact J377_933 y215_2 y215_3 y215_4 y215_5 (rgw (lo := 1) (hi := 940) h_1252 (by decide) (by decide)) (rlm (by have q0 := rle py215_2_h0_to; omega)) hy215_3 (rlm (by have q0 := rle py215_3_h0_to; omega)) t215_h0_limit (rgw (lo := 1) (hi := 940) h_1253 (by decide) (by decide)) H locs ls (oPsub hP [0, 1] rfl) (hD.sub [0, 1] (by decide) rfl) hS (lv_sub hl [] rfl)
              · skip
                have h_1332 : rg 1 1 y215_1 := cl_nlo c_1328 hy215_1 (show (0 : Int32).toInt = 0 by decide) (by decide) (by decide)
                refine lv_aload_n hx hb dX12_go_355 rfl (lv_at hl 0 rfl) ?_
                refine va_get (D := D) (ci := 11) (v := .int y215_2) (C := RX12) (T := TX12) (N := 48) hx hb hts k2 hown hK.1 hP 0 rfl rfl 5 (by decide) k3 (fun _ h9 => h9) rfl dX12_go_356 ?_
                refine lv_aload_n hx hb dX12_go_359 rfl (lv_at hl 0 rfl) ?_
                refine va_get (D := D) (ci := 11) (v := .int y215_3) (C := RX12) (T := TX12) (N := 48) hx hb hts k2 hown hK.1 hP 0 rfl rfl 6 (by decide) k4 (fun _ h9 => h9) rfl dX12_go_360 ?_
                refine lv_isub hx hb dX12_go_363 ?_
                refine lv_topi (fun x_1333 ex_1333 => ?_)
                have h_1334 : rg (-939) 939 x_1333 := by rw [ex_1333]; exact rg_sub h_1252 hy215_3 (by decide) (by decide) (by decide) (by decide)
                have l_1335 : lq x_1333.toInt (y215_2.toInt + (-1) * y215_3.toInt) := lqm (by rw [ex_1333]; have q := tsub h_1252 hy215_3 (by decide) (by decide); omega)
                refine lv_iload_n hx hb dX12_go_364 rfl (lv_at hl 1 rfl) ?_
                refine lv_if_eq (tgt := 373) hx hb dX12_go_365 (by decide) (fun c_1336 => ?_) (fun c_1336 => ?_)
                · skip
                  have o_1337 : rl 0 y215_0 0 := rl_eq c_1336
                  have h_1338 : rg 0 0 y215_0 := rl_x o_1337 hy215_0 (⟨by decide, by decide⟩ : rg 0 0 (0 : Int32)) (by decide) (by decide)
                  have o_1339 : rl 0 0 y215_0 := rl_eq c_1336.symm
                  refine lv_iconst (v := 3) hx hb dX12_go_373 (by decide) ?_
                  exact J374_934 y215_0 3 x_1333 y215_2 y215_3 y215_4 y215_5 (rgw (lo := 0) (hi := 1) h_1338 (by decide) (by decide)) (⟨by decide, by decide⟩ : rg 3 7 (3 : Int32)) (rgw (lo := (-939)) (hi := 940) h_1334 (by decide) (by decide)) (rgw (lo := 1) (hi := 940) h_1252 (by decide) (by decide)) (rlm (by have q0 := rle py215_2_h0_to; omega)) hy215_3 (rlm (by have q0 := rle py215_3_h0_to; omega)) t215_h0_limit (rgw (lo := 1) (hi := 940) h_1253 (by decide) (by decide)) H locs ls (oPsub hP [0, 1] rfl) (hD.sub [0, 1] (by decide) rfl) hS (lv_sub hl [1] rfl)
                · skip
                  have h_1340 : rg 1 1 y215_0 := cl_nlo c_1336 hy215_0 (show (0 : Int32).toInt = 0 by decide) (by decide) (by decide)
                  refine lv_bipush (v := 7) hx hb dX12_go_368 (by decide) ?_
                  refine lv_goto (tgt := 374) hx hb dX12_go_370 (by decide) ?_
                  exact J374_934 y215_0 7 x_1333 y215_2 y215_3 y215_4 y215_5 (rgw (lo := 0) (hi := 1) h_1340 (by decide) (by decide)) (⟨by decide, by decide⟩ : rg 3 7 (7 : Int32)) (rgw (lo := (-939)) (hi := 940) h_1334 (by decide) (by decide)) (rgw (lo := 1) (hi := 940) h_1252 (by decide) (by decide)) (rlm (by have q0 := rle py215_2_h0_to; omega)) hy215_3 (rlm (by have q0 := rle py215_3_h0_to; omega)) t215_h0_limit (rgw (lo := 1) (hi := 940) h_1253 (by decide) (by decide)) H locs ls (oPsub hP [0, 1] rfl) (hD.sub [0, 1] (by decide) rfl) hS (lv_sub hl [1] rfl)
            · skip
              subst h_1326
              exact (rg_no h_1327 h_1309 (by decide)).elim
        · skip
          subst h_1260
          refine lv_if_ne (tgt := 243) hx hb dX12_go_226 (by decide) (fun _ => ?_) (fun c => absurd c (by decide))
          exact J243_1171 () h_1253 h_1252 h_1212 H locs ls (oPsub hP [0, 1] rfl) (hD.sub [0, 1] (by decide) rfl) hS (lv_sub hl [0, 1, 2] rfl)
  have J179_1341 : ∀ (y179_0 : Int32) (y179_1 : Int32) (y179_2 : Int32) (y179_3 : Int32), rg 0 255 y179_0 → rg 1 4 y179_1 → rg 0 939 y179_2 → rl 0 h0_to y179_2 → rl 1 y179_2 h0_size → rg 0 940 y179_3 → rl 0 h0_to y179_3 → rg 0 2147483647 h0_limit → rg 1 940 h0_size → ∀ (H : Heap) (locs : List Loc) (ls : Array Slot), va_P D vwCl [(h0, .inr (11, [.int h0_thrown, .ref h0_tape, .int h0_taped, .int h0_size, .int h0_limit, .int y179_2, .int y179_3, .int h0_kind, .int h0_number, .int h0_sign, .int h0_fault, .int h0_place, .long h0_word, .int h0_told, .ref h0_now, .ref h0_read, .ref h0_kept, .ref h0_snaps, .ref h0_aside, .ref h0_name, .ref h0_readName, .ref h0_keptName, .ref h0_isKept, .ref h0_onces, .int h0_snapMany, .int h0_lowest, .int h0_highest, .int h0_agreed, .int h0_jurors, .int h0_panelled, .ref h0_inSets, .int h0_surely, .int h0_asked, .ref h0_frees, .int h0_struck, .int h0_beating, .ref h0_text, .int h0_texts, .int h0_seed, .ref h0_line, .ref h0_written, .int h0_lineMany, .int h0_hasWritten, .ref h0_node, .int h0_nodes, .int h0_onesMany, .int h0_within, .int h0_top])), (aI ca h0_tape 940 F_h0_tape)] H → va_D A [(h0, .inr (11, [.int h0_thrown, .ref h0_tape, .int h0_taped, .int h0_size, .int h0_limit, .int y179_2, .int y179_3, .int h0_kind, .int h0_number, .int h0_sign, .int h0_fault, .int h0_place, .long h0_word, .int h0_told, .ref h0_now, .ref h0_read, .ref h0_kept, .ref h0_snaps, .ref h0_aside, .ref h0_name, .ref h0_readName, .ref h0_keptName, .ref h0_isKept, .ref h0_onces, .int h0_snapMany, .int h0_lowest, .int h0_highest, .int h0_agreed, .int h0_jurors, .int h0_panelled, .ref h0_inSets, .int h0_surely, .int h0_asked, .ref h0_frees, .int h0_struck, .int h0_beating, .ref h0_text, .int h0_texts, .int h0_seed, .ref h0_line, .ref h0_written, .int h0_lineMany, .int h0_hasWritten, .ref h0_node, .int h0_nodes, .int h0_onesMany, .int h0_within, .int h0_top])), (aI ca h0_tape 940 F_h0_tape)] → va_S A s.heap H locs → lv_has ls 5 [(0, .ref h0), (1, .int y179_0)] → W p l e ({ frames := 1, cells := 0, slots := 0, locals := 21 } : Room) s m ([.ref h0] : List Value).toArray below meth c H locs 0 0 (MQ below ((oQv D (fun (u : Int32 × Int32 × Int32 × Int32 × Int32 × Int64) => (rg 0 940 u.1) ∧ (rg (-2147483648) 940 u.2.1) ∧ (rg 0 4 u.2.2.1) ∧ (rl 0 h0_to u.1) ∧ (lk h0_to u.2.2.1 u.1)) (fun (u : Int32 × Int32 × Int32 × Int32 × Int32 × Int64) => [(h0, .inr (11, [.int h0_thrown, .ref h0_tape, .int h0_taped, .int h0_size, .int h0_limit, .int u.1, .int u.2.1, .int u.2.2.1, .int u.2.2.2.1, .int u.2.2.2.2.1, .int h0_fault, .int h0_place, .long u.2.2.2.2.2, .int h0_told, .ref h0_now, .ref h0_read, .ref h0_kept, .ref h0_snaps, .ref h0_aside, .ref h0_name, .ref h0_readName, .ref h0_keptName, .ref h0_isKept, .ref h0_onces, .int h0_snapMany, .int h0_lowest, .int h0_highest, .int h0_agreed, .int h0_jurors, .int h0_panelled, .ref h0_inSets, .int h0_surely, .int h0_asked, .ref h0_frees, .int h0_struck, .int h0_beating, .ref h0_text, .int h0_texts, .int h0_seed, .ref h0_line, .ref h0_written, .int h0_lineMany, .int h0_hasWritten, .ref h0_node, .int h0_nodes, .int h0_onesMany, .int h0_within, .int h0_top])), (aI ca h0_tape 940 F_h0_tape)])) A) ([.ref h0] : List Value).toArray s 0 0 A) (F0 m 179 ls [.int y179_1, .ref h0]) := by
    intro y179_0 y179_1 y179_2 y179_3 hy179_0 hy179_1 hy179_2 py179_2_h0_to qy179_2_h0_size hy179_3 py179_3_h0_to t179_h0_limit t179_h0_size H locs ls hP hD hS hl
    refine va_put (D := D) (ci := 11) (v := .int y179_1) (ty := .int) (C := RX12) (T := TX12) (N := 48) hx hb hts k2 tyX12 tyX12_ok nmX12 hown hK.1 hP hD hS 0 rfl rfl 7 (by decide) k1 (fun _ h9 => h9) rfl (by decide +kernel) rfl rfl (Nat.le_of_ble_eq_true rfl) dX12_go_179 (fun H locs hP hD hS => ?_)
    have hP : va_P D vwCl [(h0, .inr (11, [.int h0_thrown, .ref h0_tape, .int h0_taped, .int h0_size, .int h0_limit, .int y179_2, .int y179_3, .int y179_1, .int h0_number, .int h0_sign, .int h0_fault, .int h0_place, .long h0_word, .int h0_told, .ref h0_now, .ref h0_read, .ref h0_kept, .ref h0_snaps, .ref h0_aside, .ref h0_name, .ref h0_readName, .ref h0_keptName, .ref h0_isKept, .ref h0_onces, .int h0_snapMany, .int h0_lowest, .int h0_highest, .int h0_agreed, .int h0_jurors, .int h0_panelled, .ref h0_inSets, .int h0_surely, .int h0_asked, .ref h0_frees, .int h0_struck, .int h0_beating, .ref h0_text, .int h0_texts, .int h0_seed, .ref h0_line, .ref h0_written, .int h0_lineMany, .int h0_hasWritten, .ref h0_node, .int h0_nodes, .int h0_onesMany, .int h0_within, .int h0_top])), (aI ca h0_tape 940 F_h0_tape)] H := hP
    have hD : va_D A [(h0, .inr (11, [.int h0_thrown, .ref h0_tape, .int h0_taped, .int h0_size, .int h0_limit, .int y179_2, .int y179_3, .int y179_1, .int h0_number, .int h0_sign, .int h0_fault, .int h0_place, .long h0_word, .int h0_told, .ref h0_now, .ref h0_read, .ref h0_kept, .ref h0_snaps, .ref h0_aside, .ref h0_name, .ref h0_readName, .ref h0_keptName, .ref h0_isKept, .ref h0_onces, .int h0_snapMany, .int h0_lowest, .int h0_highest, .int h0_agreed, .int h0_jurors, .int h0_panelled, .ref h0_inSets, .int h0_surely, .int h0_asked, .ref h0_frees, .int h0_struck, .int h0_beating, .ref h0_text, .int h0_texts, .int h0_seed, .ref h0_line, .ref h0_written, .int h0_lineMany, .int h0_hasWritten, .ref h0_node, .int h0_nodes, .int h0_onesMany, .int h0_within, .int h0_top])), (aI ca h0_tape 940 F_h0_tape)] := hD
    refine lv_aload_n hx hb dX12_go_182 rfl (lv_at hl 0 rfl) ?_
    refine lv_iload_n hx hb dX12_go_183 rfl (lv_at hl 1 rfl) ?_
    refine va_put (D := D) (ci := 11) (v := .int y179_0) (ty := .int) (C := RX12) (T := TX12) (N := 48) hx hb hts k2 tyX12 tyX12_ok nmX12 hown hK.1 hP hD hS 0 rfl rfl 9 (by decide) k10 (fun _ h9 => h9) rfl (by decide +kernel) rfl rfl (Nat.le_of_ble_eq_true rfl) dX12_go_184 (fun H locs hP hD hS => ?_)
    have hP : va_P D vwCl [(h0, .inr (11, [.int h0_thrown, .ref h0_tape, .int h0_taped, .int h0_size, .int h0_limit, .int y179_2, .int y179_3, .int y179_1, .int h0_number, .int y179_0, .int h0_fault, .int h0_place, .long h0_word, .int h0_told, .ref h0_now, .ref h0_read, .ref h0_kept, .ref h0_snaps, .ref h0_aside, .ref h0_name, .ref h0_readName, .ref h0_keptName, .ref h0_isKept, .ref h0_onces, .int h0_snapMany, .int h0_lowest, .int h0_highest, .int h0_agreed, .int h0_jurors, .int h0_panelled, .ref h0_inSets, .int h0_surely, .int h0_asked, .ref h0_frees, .int h0_struck, .int h0_beating, .ref h0_text, .int h0_texts, .int h0_seed, .ref h0_line, .ref h0_written, .int h0_lineMany, .int h0_hasWritten, .ref h0_node, .int h0_nodes, .int h0_onesMany, .int h0_within, .int h0_top])), (aI ca h0_tape 940 F_h0_tape)] H := hP
    have hD : va_D A [(h0, .inr (11, [.int h0_thrown, .ref h0_tape, .int h0_taped, .int h0_size, .int h0_limit, .int y179_2, .int y179_3, .int y179_1, .int h0_number, .int y179_0, .int h0_fault, .int h0_place, .long h0_word, .int h0_told, .ref h0_now, .ref h0_read, .ref h0_kept, .ref h0_snaps, .ref h0_aside, .ref h0_name, .ref h0_readName, .ref h0_keptName, .ref h0_isKept, .ref h0_onces, .int h0_snapMany, .int h0_lowest, .int h0_highest, .int h0_agreed, .int h0_jurors, .int h0_panelled, .ref h0_inSets, .int h0_surely, .int h0_asked, .ref h0_frees, .int h0_struck, .int h0_beating, .ref h0_text, .int h0_texts, .int h0_seed, .ref h0_line, .ref h0_written, .int h0_lineMany, .int h0_hasWritten, .ref h0_node, .int h0_nodes, .int h0_onesMany, .int h0_within, .int h0_top])), (aI ca h0_tape 940 F_h0_tape)] := hD
    refine lv_aload_n hx hb dX12_go_187 rfl (lv_at hl 0 rfl) ?_
    refine lv_dup hx hb dX12_go_188 rfl ?_
    refine va_get (D := D) (ci := 11) (v := .int y179_2) (C := RX12) (T := TX12) (N := 48) hx hb hts k2 hown hK.1 hP 0 rfl rfl 5 (by decide) k3 (fun _ h9 => h9) rfl dX12_go_189 ?_
    refine lv_iconst (v := 1) hx hb dX12_go_192 (by decide) ?_
    refine lv_iadd hx hb dX12_go_193 ?_
    refine lv_topi (fun x_1342 ex_1342 => ?_)
    have h_1343 : rg 1 940 x_1342 := by rw [ex_1342]; exact rg_add hy179_2 (⟨by decide, by decide⟩ : rg 1 1 (1 : Int32)) (by decide) (by decide) (by decide) (by decide)
    have l_1344 : lq x_1342.toInt (y179_2.toInt + 1) := lqm (by rw [ex_1342]; have q := tadd hy179_2 (⟨by decide, by decide⟩ : rg 1 1 (1 : Int32)) (by decide) (by decide); have r1 := lqe (lqm (by decide) : lq (1 : Int32).toInt 1); omega)
    refine va_put (D := D) (ci := 11) (v := .int x_1342) (ty := .int) (C := RX12) (T := TX12) (N := 48) hx hb hts k2 tyX12 tyX12_ok nmX12 hown hK.1 hP hD hS 0 rfl rfl 5 (by decide) k3 (fun _ h9 => h9) rfl (by decide +kernel) rfl rfl (Nat.le_of_ble_eq_true rfl) dX12_go_194 (fun H locs hP hD hS => ?_)
    have hP : va_P D vwCl [(h0, .inr (11, [.int h0_thrown, .ref h0_tape, .int h0_taped, .int h0_size, .int h0_limit, .int x_1342, .int y179_3, .int y179_1, .int h0_number, .int y179_0, .int h0_fault, .int h0_place, .long h0_word, .int h0_told, .ref h0_now, .ref h0_read, .ref h0_kept, .ref h0_snaps, .ref h0_aside, .ref h0_name, .ref h0_readName, .ref h0_keptName, .ref h0_isKept, .ref h0_onces, .int h0_snapMany, .int h0_lowest, .int h0_highest, .int h0_agreed, .int h0_jurors, .int h0_panelled, .ref h0_inSets, .int h0_surely, .int h0_asked, .ref h0_frees, .int h0_struck, .int h0_beating, .ref h0_text, .int h0_texts, .int h0_seed, .ref h0_line, .ref h0_written, .int h0_lineMany, .int h0_hasWritten, .ref h0_node, .int h0_nodes, .int h0_onesMany, .int h0_within, .int h0_top])), (aI ca h0_tape 940 F_h0_tape)] H := hP
    have hD : va_D A [(h0, .inr (11, [.int h0_thrown, .ref h0_tape, .int h0_taped, .int h0_size, .int h0_limit, .int x_1342, .int y179_3, .int y179_1, .int h0_number, .int y179_0, .int h0_fault, .int h0_place, .long h0_word, .int h0_told, .ref h0_now, .ref h0_read, .ref h0_kept, .ref h0_snaps, .ref h0_aside, .ref h0_name, .ref h0_readName, .ref h0_keptName, .ref h0_isKept, .ref h0_onces, .int h0_snapMany, .int h0_lowest, .int h0_highest, .int h0_agreed, .int h0_jurors, .int h0_panelled, .ref h0_inSets, .int h0_surely, .int h0_asked, .ref h0_frees, .int h0_struck, .int h0_beating, .ref h0_text, .int h0_texts, .int h0_seed, .ref h0_line, .ref h0_written, .int h0_lineMany, .int h0_hasWritten, .ref h0_node, .int h0_nodes, .int h0_onesMany, .int h0_within, .int h0_top])), (aI ca h0_tape 940 F_h0_tape)] := hD
    exact oE_v hx hb hr hlocks hP hD hS (x_1342, y179_3, y179_1, h0_number, y179_0, h0_word) [0, 1] rfl (by decide) ⟨(rgw (lo := 0) (hi := 940) h_1343 (by decide) (by decide)), (rgw (lo := (-2147483648)) (hi := 940) hy179_3 (by decide) (by decide)), (rgw (lo := 0) (hi := 4) hy179_1 (by decide) (by decide)), (show rl 0 h0_to x_1342 from rlm (by have q0 := lqe l_1344; have q1 := rle py179_2_h0_to; omega)), (show lk h0_to y179_1 x_1342 from lkm (by have z0 := (hy179_1).2; have q0 := lqe l_1344; have q1 := rle py179_2_h0_to; omega))⟩ (Nat.le_of_ble_eq_true rfl) (Nat.le_of_ble_eq_true rfl) dX12_go_197
  have J174_1345 : ∀ (y174_0 : Int32) (y174_1 : Int32) (y174_2 : Int32), rg 40 62 y174_0 → rg 0 939 y174_1 → rl 0 h0_to y174_1 → rl 1 y174_1 h0_size → rg 0 940 y174_2 → rl 0 h0_to y174_2 → rg 0 2147483647 h0_limit → rg 1 940 h0_size → ∀ (H : Heap) (locs : List Loc) (ls : Array Slot), va_P D vwCl [(h0, .inr (11, [.int h0_thrown, .ref h0_tape, .int h0_taped, .int h0_size, .int h0_limit, .int y174_1, .int y174_2, .int h0_kind, .int h0_number, .int h0_sign, .int h0_fault, .int h0_place, .long h0_word, .int h0_told, .ref h0_now, .ref h0_read, .ref h0_kept, .ref h0_snaps, .ref h0_aside, .ref h0_name, .ref h0_readName, .ref h0_keptName, .ref h0_isKept, .ref h0_onces, .int h0_snapMany, .int h0_lowest, .int h0_highest, .int h0_agreed, .int h0_jurors, .int h0_panelled, .ref h0_inSets, .int h0_surely, .int h0_asked, .ref h0_frees, .int h0_struck, .int h0_beating, .ref h0_text, .int h0_texts, .int h0_seed, .ref h0_line, .ref h0_written, .int h0_lineMany, .int h0_hasWritten, .ref h0_node, .int h0_nodes, .int h0_onesMany, .int h0_within, .int h0_top])), (aI ca h0_tape 940 F_h0_tape)] H → va_D A [(h0, .inr (11, [.int h0_thrown, .ref h0_tape, .int h0_taped, .int h0_size, .int h0_limit, .int y174_1, .int y174_2, .int h0_kind, .int h0_number, .int h0_sign, .int h0_fault, .int h0_place, .long h0_word, .int h0_told, .ref h0_now, .ref h0_read, .ref h0_kept, .ref h0_snaps, .ref h0_aside, .ref h0_name, .ref h0_readName, .ref h0_keptName, .ref h0_isKept, .ref h0_onces, .int h0_snapMany, .int h0_lowest, .int h0_highest, .int h0_agreed, .int h0_jurors, .int h0_panelled, .ref h0_inSets, .int h0_surely, .int h0_asked, .ref h0_frees, .int h0_struck, .int h0_beating, .ref h0_text, .int h0_texts, .int h0_seed, .ref h0_line, .ref h0_written, .int h0_lineMany, .int h0_hasWritten, .ref h0_node, .int h0_nodes, .int h0_onesMany, .int h0_within, .int h0_top])), (aI ca h0_tape 940 F_h0_tape)] → va_S A s.heap H locs → lv_has ls 5 [(0, .ref h0), (1, .int y174_0)] → W p l e ({ frames := 1, cells := 0, slots := 0, locals := 21 } : Room) s m ([.ref h0] : List Value).toArray below meth c H locs 0 0 (MQ below ((oQv D (fun (u : Int32 × Int32 × Int32 × Int32 × Int32 × Int64) => (rg 0 940 u.1) ∧ (rg (-2147483648) 940 u.2.1) ∧ (rg 0 4 u.2.2.1) ∧ (rl 0 h0_to u.1) ∧ (lk h0_to u.2.2.1 u.1)) (fun (u : Int32 × Int32 × Int32 × Int32 × Int32 × Int64) => [(h0, .inr (11, [.int h0_thrown, .ref h0_tape, .int h0_taped, .int h0_size, .int h0_limit, .int u.1, .int u.2.1, .int u.2.2.1, .int u.2.2.2.1, .int u.2.2.2.2.1, .int h0_fault, .int h0_place, .long u.2.2.2.2.2, .int h0_told, .ref h0_now, .ref h0_read, .ref h0_kept, .ref h0_snaps, .ref h0_aside, .ref h0_name, .ref h0_readName, .ref h0_keptName, .ref h0_isKept, .ref h0_onces, .int h0_snapMany, .int h0_lowest, .int h0_highest, .int h0_agreed, .int h0_jurors, .int h0_panelled, .ref h0_inSets, .int h0_surely, .int h0_asked, .ref h0_frees, .int h0_struck, .int h0_beating, .ref h0_text, .int h0_texts, .int h0_seed, .ref h0_line, .ref h0_written, .int h0_lineMany, .int h0_hasWritten, .ref h0_node, .int h0_nodes, .int h0_onesMany, .int h0_within, .int h0_top])), (aI ca h0_tape 940 F_h0_tape)])) A) ([.ref h0] : List Value).toArray s 0 0 A) (F0 m 174 ls [.ref h0]) := by
    intro y174_0 y174_1 y174_2 hy174_0 hy174_1 py174_1_h0_to qy174_1_h0_size hy174_2 py174_2_h0_to t174_h0_limit t174_h0_size H locs ls hP hD hS hl
    refine lv_iconst (v := 4) hx hb dX12_go_174 (by decide) ?_
    refine lv_goto (tgt := 179) hx hb dX12_go_175 (by decide) ?_
    exact J179_1341 y174_0 4 y174_1 y174_2 (rgw (lo := 0) (hi := 255) hy174_0 (by decide) (by decide)) (⟨by decide, by decide⟩ : rg 1 4 (4 : Int32)) hy174_1 (rlm (by have q0 := rle py174_1_h0_to; omega)) (rlm (by have q0 := rle qy174_1_h0_size; omega)) hy174_2 (rlm (by have q0 := rle py174_2_h0_to; omega)) t174_h0_limit t174_h0_size H locs ls (oPsub hP [0, 1] rfl) (hD.sub [0, 1] (by decide) rfl) hS (lv_sub hl [0, 1] rfl)
  have J96_1346 : ∀ (y96_0 : Int32) (y96_1 : Int32), rg 0 940 y96_0 → rl 0 h0_to y96_0 → rg 0 940 y96_1 → rl 0 h0_to y96_1 → rg 0 2147483647 h0_limit → ∀ (H : Heap) (locs : List Loc) (ls : Array Slot), va_P D vwCl [(h0, .inr (11, [.int h0_thrown, .ref h0_tape, .int h0_taped, .int h0_size, .int h0_limit, .int y96_0, .int y96_1, .int h0_kind, .int h0_number, .int h0_sign, .int h0_fault, .int h0_place, .long h0_word, .int h0_told, .ref h0_now, .ref h0_read, .ref h0_kept, .ref h0_snaps, .ref h0_aside, .ref h0_name, .ref h0_readName, .ref h0_keptName, .ref h0_isKept, .ref h0_onces, .int h0_snapMany, .int h0_lowest, .int h0_highest, .int h0_agreed, .int h0_jurors, .int h0_panelled, .ref h0_inSets, .int h0_surely, .int h0_asked, .ref h0_frees, .int h0_struck, .int h0_beating, .ref h0_text, .int h0_texts, .int h0_seed, .ref h0_line, .ref h0_written, .int h0_lineMany, .int h0_hasWritten, .ref h0_node, .int h0_nodes, .int h0_onesMany, .int h0_within, .int h0_top])), (aI ca h0_tape 940 F_h0_tape)] H → va_D A [(h0, .inr (11, [.int h0_thrown, .ref h0_tape, .int h0_taped, .int h0_size, .int h0_limit, .int y96_0, .int y96_1, .int h0_kind, .int h0_number, .int h0_sign, .int h0_fault, .int h0_place, .long h0_word, .int h0_told, .ref h0_now, .ref h0_read, .ref h0_kept, .ref h0_snaps, .ref h0_aside, .ref h0_name, .ref h0_readName, .ref h0_keptName, .ref h0_isKept, .ref h0_onces, .int h0_snapMany, .int h0_lowest, .int h0_highest, .int h0_agreed, .int h0_jurors, .int h0_panelled, .ref h0_inSets, .int h0_surely, .int h0_asked, .ref h0_frees, .int h0_struck, .int h0_beating, .ref h0_text, .int h0_texts, .int h0_seed, .ref h0_line, .ref h0_written, .int h0_lineMany, .int h0_hasWritten, .ref h0_node, .int h0_nodes, .int h0_onesMany, .int h0_within, .int h0_top])), (aI ca h0_tape 940 F_h0_tape)] → va_S A s.heap H locs → lv_has ls 5 [(0, .ref h0)] → W p l e ({ frames := 1, cells := 0, slots := 0, locals := 21 } : Room) s m ([.ref h0] : List Value).toArray below meth c H locs 0 0 (MQ below ((oQv D (fun (u : Int32 × Int32 × Int32 × Int32 × Int32 × Int64) => (rg 0 940 u.1) ∧ (rg (-2147483648) 940 u.2.1) ∧ (rg 0 4 u.2.2.1) ∧ (rl 0 h0_to u.1) ∧ (lk h0_to u.2.2.1 u.1)) (fun (u : Int32 × Int32 × Int32 × Int32 × Int32 × Int64) => [(h0, .inr (11, [.int h0_thrown, .ref h0_tape, .int h0_taped, .int h0_size, .int h0_limit, .int u.1, .int u.2.1, .int u.2.2.1, .int u.2.2.2.1, .int u.2.2.2.2.1, .int h0_fault, .int h0_place, .long u.2.2.2.2.2, .int h0_told, .ref h0_now, .ref h0_read, .ref h0_kept, .ref h0_snaps, .ref h0_aside, .ref h0_name, .ref h0_readName, .ref h0_keptName, .ref h0_isKept, .ref h0_onces, .int h0_snapMany, .int h0_lowest, .int h0_highest, .int h0_agreed, .int h0_jurors, .int h0_panelled, .ref h0_inSets, .int h0_surely, .int h0_asked, .ref h0_frees, .int h0_struck, .int h0_beating, .ref h0_text, .int h0_texts, .int h0_seed, .ref h0_line, .ref h0_written, .int h0_lineMany, .int h0_hasWritten, .ref h0_node, .int h0_nodes, .int h0_onesMany, .int h0_within, .int h0_top])), (aI ca h0_tape 940 F_h0_tape)])) A) ([.ref h0] : List Value).toArray s 0 0 A) (F0 m 96 ls []) := by
    intro y96_0 y96_1 hy96_0 py96_0_h0_to hy96_1 py96_1_h0_to t96_h0_limit H locs ls hP hD hS hl
    refine lv_aload_n hx hb dX12_go_96 rfl (lv_at hl 0 rfl) ?_
    refine va_get (D := D) (ci := 11) (v := .int y96_0) (C := RX12) (T := TX12) (N := 48) hx hb hts k2 hown hK.1 hP 0 rfl rfl 5 (by decide) k3 (fun _ h9 => h9) rfl dX12_go_97 ?_
    refine lv_aload_n hx hb dX12_go_100 rfl (lv_at hl 0 rfl) ?_
    refine va_get (D := D) (ci := 11) (v := .int h0_size) (C := RX12) (T := TX12) (N := 48) hx hb hts k2 hown hK.1 hP 0 rfl rfl 3 (by decide) k11 (fun _ h9 => h9) rfl dX12_go_101 ?_
    refine lv_icmp_lt (tgt := 113) hx hb dX12_go_104 (by decide) (fun c_1347 => ?_) (fun c_1347 => ?_)
    · skip
      have o_1348 : rl 1 y96_0 h0_size := rl_lt c_1347
      have h_1349 : rg 0 939 y96_0 := rl_x o_1348 hy96_0 i_h0_size (by decide) (by decide)
      have h_1350 : rg 1 940 h0_size := rl_y o_1348 hy96_0 i_h0_size (by decide) (by decide)
      refine lv_aload_n hx hb dX12_go_113 rfl (lv_at hl 0 rfl) ?_
      refine va_get (D := D) (ci := 11) (v := .ref h0_tape) (C := RX12) (T := TX12) (N := 48) hx hb hts k2 hown hK.1 hP 0 rfl rfl 1 (by decide) k9 (fun _ h9 => h9) rfl dX12_go_114 ?_
      refine lv_aload_n hx hb dX12_go_117 rfl (lv_at hl 0 rfl) ?_
      refine va_get (D := D) (ci := 11) (v := .int y96_0) (C := RX12) (T := TX12) (N := 48) hx hb hts k2 hown hK.1 hP 0 rfl rfl 5 (by decide) k3 (fun _ h9 => h9) rfl dX12_go_118 ?_
      refine va_iald hx hb hK.1 hP 1 0 rfl rfl (rg_in h_1349 (by decide) (by decide)) dX12_go_121 ?_
      refine lv_topi (fun x_1351 ex_1351 => ?_)
      have h_1352 : rg 0 255 x_1351 := by rw [ex_1351]; exact sg_at (sg_w (a' := 0) (b' := 940) (lo' := 0) (hi' := 255) s_h0_tape_0 (by decide) (by decide) (by decide) (by decide)) h_1349 (by decide) (by decide) (by decide)
      refine lv_istore_n (lv' := [(1, .int x_1351), (0, .ref h0)]) hx hb dX12_go_122 rfl hl (by decide) rfl (fun ls hl => ?_)
      refine lv_iload_n hx hb dX12_go_123 rfl (lv_at hl 0 rfl) ?_
      refine oC_i (Wc := []) (Wr := [(h0, .inr (11, [.int h0_thrown, .ref h0_tape, .int h0_taped, .int h0_size, .int h0_limit, .int y96_0, .int y96_1, .int h0_kind, .int h0_number, .int h0_sign, .int h0_fault, .int h0_place, .long h0_word, .int h0_told, .ref h0_now, .ref h0_read, .ref h0_kept, .ref h0_snaps, .ref h0_aside, .ref h0_name, .ref h0_readName, .ref h0_keptName, .ref h0_isKept, .ref h0_onces, .int h0_snapMany, .int h0_lowest, .int h0_highest, .int h0_agreed, .int h0_jurors, .int h0_panelled, .ref h0_inSets, .int h0_surely, .int h0_asked, .ref h0_frees, .int h0_struck, .int h0_beating, .ref h0_text, .int h0_texts, .int h0_seed, .ref h0_line, .ref h0_written, .int h0_lineMany, .int h0_hasWritten, .ref h0_node, .int h0_nodes, .int h0_onesMany, .int h0_within, .int h0_top])), (aI ca h0_tape 940 F_h0_tape)]) (va_runS (As := [.int x_1351]) (rest := []) ⟨hx, hb, hml, hown, hts⟩ (s_X12_isLetter l D ca H.size x_1351) (va_cwS 1 hts gX12_go_X12_isLetter rfl rfl rfl (by decide +kernel) ⟨Nat.le_of_ble_eq_true rfl, Nat.le_of_ble_eq_true rfl⟩) (oPS hK hP hD [] rfl (by decide)) rfl rfl hl.1 rfl (lv_room (Nat.le_of_ble_eq_true rfl)) dX12_go_124 ⟨Nat.le_of_ble_eq_true rfl, Nat.le_of_ble_eq_true rfl⟩) hP hD hS hA [] [0, 1] rfl rfl (by decide) (by decide) (fun r_1353 u H locs w_1354 hP hD hS => ?_)
      obtain ⟨⟩ := u
      have hP : va_P D vwCl [(h0, .inr (11, [.int h0_thrown, .ref h0_tape, .int h0_taped, .int h0_size, .int h0_limit, .int y96_0, .int y96_1, .int h0_kind, .int h0_number, .int h0_sign, .int h0_fault, .int h0_place, .long h0_word, .int h0_told, .ref h0_now, .ref h0_read, .ref h0_kept, .ref h0_snaps, .ref h0_aside, .ref h0_name, .ref h0_readName, .ref h0_keptName, .ref h0_isKept, .ref h0_onces, .int h0_snapMany, .int h0_lowest, .int h0_highest, .int h0_agreed, .int h0_jurors, .int h0_panelled, .ref h0_inSets, .int h0_surely, .int h0_asked, .ref h0_frees, .int h0_struck, .int h0_beating, .ref h0_text, .int h0_texts, .int h0_seed, .ref h0_line, .ref h0_written, .int h0_lineMany, .int h0_hasWritten, .ref h0_node, .int h0_nodes, .int h0_onesMany, .int h0_within, .int h0_top])), (aI ca h0_tape 940 F_h0_tape)] H := hP
      have hD : va_D A [(h0, .inr (11, [.int h0_thrown, .ref h0_tape, .int h0_taped, .int h0_size, .int h0_limit, .int y96_0, .int y96_1, .int h0_kind, .int h0_number, .int h0_sign, .int h0_fault, .int h0_place, .long h0_word, .int h0_told, .ref h0_now, .ref h0_read, .ref h0_kept, .ref h0_snaps, .ref h0_aside, .ref h0_name, .ref h0_readName, .ref h0_keptName, .ref h0_isKept, .ref h0_onces, .int h0_snapMany, .int h0_lowest, .int h0_highest, .int h0_agreed, .int h0_jurors, .int h0_panelled, .ref h0_inSets, .int h0_surely, .int h0_asked, .ref h0_frees, .int h0_struck, .int h0_beating, .ref h0_text, .int h0_texts, .int h0_seed, .ref h0_line, .ref h0_written, .int h0_lineMany, .int h0_hasWritten, .ref h0_node, .int h0_nodes, .int h0_onesMany, .int h0_within, .int h0_top])), (aI ca h0_tape 940 F_h0_tape)] := hD
      try dsimp only at w_1354
      rcases w_1354 with ⟨h_1355, h_1356⟩ | ⟨h_1357, h_1358⟩ | ⟨h_1359, h_1360⟩
      · skip
        subst h_1355
        have h_1361 : rg 0 96 x_1351 := rg_i h_1356 h_1352 (by decide) (by decide)
        refine lv_if_ne (tgt := 198) hx hb dX12_go_127 (by decide) (fun c => absurd (by decide) c) (fun _ => ?_)
        refine lv_iload_n hx hb dX12_go_130 rfl (lv_at hl 0 rfl) ?_
        refine oC_i (Wc := []) (Wr := [(h0, .inr (11, [.int h0_thrown, .ref h0_tape, .int h0_taped, .int h0_size, .int h0_limit, .int y96_0, .int y96_1, .int h0_kind, .int h0_number, .int h0_sign, .int h0_fault, .int h0_place, .long h0_word, .int h0_told, .ref h0_now, .ref h0_read, .ref h0_kept, .ref h0_snaps, .ref h0_aside, .ref h0_name, .ref h0_readName, .ref h0_keptName, .ref h0_isKept, .ref h0_onces, .int h0_snapMany, .int h0_lowest, .int h0_highest, .int h0_agreed, .int h0_jurors, .int h0_panelled, .ref h0_inSets, .int h0_surely, .int h0_asked, .ref h0_frees, .int h0_struck, .int h0_beating, .ref h0_text, .int h0_texts, .int h0_seed, .ref h0_line, .ref h0_written, .int h0_lineMany, .int h0_hasWritten, .ref h0_node, .int h0_nodes, .int h0_onesMany, .int h0_within, .int h0_top])), (aI ca h0_tape 940 F_h0_tape)]) (va_runS (As := [.int x_1351]) (rest := []) ⟨hx, hb, hml, hown, hts⟩ (s_X12_isDigit l D ca H.size x_1351) (va_cwS 1 hts gX12_go_X12_isDigit rfl rfl rfl (by decide +kernel) ⟨Nat.le_of_ble_eq_true rfl, Nat.le_of_ble_eq_true rfl⟩) (oPS hK hP hD [] rfl (by decide)) rfl rfl hl.1 rfl (lv_room (Nat.le_of_ble_eq_true rfl)) dX12_go_131 ⟨Nat.le_of_ble_eq_true rfl, Nat.le_of_ble_eq_true rfl⟩) hP hD hS hA [] [0, 1] rfl rfl (by decide) (by decide) (fun r_1362 u H locs w_1363 hP hD hS => ?_)
        obtain ⟨⟩ := u
        have hP : va_P D vwCl [(h0, .inr (11, [.int h0_thrown, .ref h0_tape, .int h0_taped, .int h0_size, .int h0_limit, .int y96_0, .int y96_1, .int h0_kind, .int h0_number, .int h0_sign, .int h0_fault, .int h0_place, .long h0_word, .int h0_told, .ref h0_now, .ref h0_read, .ref h0_kept, .ref h0_snaps, .ref h0_aside, .ref h0_name, .ref h0_readName, .ref h0_keptName, .ref h0_isKept, .ref h0_onces, .int h0_snapMany, .int h0_lowest, .int h0_highest, .int h0_agreed, .int h0_jurors, .int h0_panelled, .ref h0_inSets, .int h0_surely, .int h0_asked, .ref h0_frees, .int h0_struck, .int h0_beating, .ref h0_text, .int h0_texts, .int h0_seed, .ref h0_line, .ref h0_written, .int h0_lineMany, .int h0_hasWritten, .ref h0_node, .int h0_nodes, .int h0_onesMany, .int h0_within, .int h0_top])), (aI ca h0_tape 940 F_h0_tape)] H := hP
        have hD : va_D A [(h0, .inr (11, [.int h0_thrown, .ref h0_tape, .int h0_taped, .int h0_size, .int h0_limit, .int y96_0, .int y96_1, .int h0_kind, .int h0_number, .int h0_sign, .int h0_fault, .int h0_place, .long h0_word, .int h0_told, .ref h0_now, .ref h0_read, .ref h0_kept, .ref h0_snaps, .ref h0_aside, .ref h0_name, .ref h0_readName, .ref h0_keptName, .ref h0_isKept, .ref h0_onces, .int h0_snapMany, .int h0_lowest, .int h0_highest, .int h0_agreed, .int h0_jurors, .int h0_panelled, .ref h0_inSets, .int h0_surely, .int h0_asked, .ref h0_frees, .int h0_struck, .int h0_beating, .ref h0_text, .int h0_texts, .int h0_seed, .ref h0_line, .ref h0_written, .int h0_lineMany, .int h0_hasWritten, .ref h0_node, .int h0_nodes, .int h0_onesMany, .int h0_within, .int h0_top])), (aI ca h0_tape 940 F_h0_tape)] := hD
        try dsimp only at w_1363
        rcases w_1363 with ⟨h_1364, h_1365⟩ | ⟨h_1366, h_1367⟩ | ⟨h_1368, h_1369⟩
        · skip
          subst h_1364
          have h_1370 : rg 0 47 x_1351 := rg_i h_1365 h_1361 (by decide) (by decide)
          refine lv_if_ne (tgt := 198) hx hb dX12_go_134 (by decide) (fun c => absurd (by decide) c) (fun _ => ?_)
          refine lv_aload_n hx hb dX12_go_137 rfl (lv_at hl 1 rfl) ?_
          refine lv_iload_n hx hb dX12_go_138 rfl (lv_at hl 0 rfl) ?_
          refine lv_bipush (v := 59) hx hb dX12_go_139 (by decide) ?_
          refine lv_icmp_eq (tgt := 174) hx hb dX12_go_141 (by decide) (fun c => absurd c (no_eq h_1370 (⟨by decide, by decide⟩ : rg 59 59 (59 : Int32)) (by decide))) (fun _ => ?_)
          refine lv_iload_n hx hb dX12_go_144 rfl (lv_at hl 0 rfl) ?_
          refine lv_bipush (v := 60) hx hb dX12_go_145 (by decide) ?_
          refine lv_icmp_eq (tgt := 174) hx hb dX12_go_147 (by decide) (fun c => absurd c (no_eq h_1370 (⟨by decide, by decide⟩ : rg 60 60 (60 : Int32)) (by decide))) (fun _ => ?_)
          refine lv_iload_n hx hb dX12_go_150 rfl (lv_at hl 0 rfl) ?_
          refine lv_bipush (v := 61) hx hb dX12_go_151 (by decide) ?_
          refine lv_icmp_eq (tgt := 174) hx hb dX12_go_153 (by decide) (fun c => absurd c (no_eq h_1370 (⟨by decide, by decide⟩ : rg 61 61 (61 : Int32)) (by decide))) (fun _ => ?_)
          refine lv_iload_n hx hb dX12_go_156 rfl (lv_at hl 0 rfl) ?_
          refine lv_bipush (v := 62) hx hb dX12_go_157 (by decide) ?_
          refine lv_icmp_eq (tgt := 174) hx hb dX12_go_159 (by decide) (fun c => absurd c (no_eq h_1370 (⟨by decide, by decide⟩ : rg 62 62 (62 : Int32)) (by decide))) (fun _ => ?_)
          refine lv_iload_n hx hb dX12_go_162 rfl (lv_at hl 0 rfl) ?_
          refine lv_bipush (v := 40) hx hb dX12_go_163 (by decide) ?_
          refine lv_icmp_eq (tgt := 174) hx hb dX12_go_165 (by decide) (fun c_1371 => ?_) (fun c_1371 => ?_)
          · skip
            have o_1372 : rl 0 x_1351 40 := rl_eq c_1371
            have h_1373 : rg 0 40 x_1351 := rl_x o_1372 h_1370 (⟨by decide, by decide⟩ : rg 40 40 (40 : Int32)) (by decide) (by decide)
            have o_1374 : rl 0 40 x_1351 := rl_eq c_1371.symm
            have h_1375 : rg 40 40 x_1351 := rl_y o_1374 (⟨by decide, by decide⟩ : rg 40 40 (40 : Int32)) h_1373 (by decide) (by decide)
            exact J174_1345 x_1351 y96_0 y96_1 (rgw (lo := 40) (hi := 62) h_1375 (by decide) (by decide)) h_1349 (rlm (by have q0 := rle py96_0_h0_to; omega)) (rlm (by have q0 := rle o_1348; omega)) hy96_1 (rlm (by have q0 := rle py96_1_h0_to; omega)) t96_h0_limit h_1350 H locs ls (oPsub hP [0, 1] rfl) (hD.sub [0, 1] (by decide) rfl) hS (lv_sub hl [1, 0] rfl)
          · skip
            refine lv_iload_n hx hb dX12_go_168 rfl (lv_at hl 0 rfl) ?_
            refine lv_bipush (v := 41) hx hb dX12_go_169 (by decide) ?_
            refine lv_icmp_ne (tgt := 178) hx hb dX12_go_171 (by decide) (fun c_1376 => ?_) (fun c_1376 => ?_)
            · skip
              refine lv_iconst (v := 1) hx hb dX12_go_178 (by decide) ?_
              exact J179_1341 x_1351 1 y96_0 y96_1 (rgw (lo := 0) (hi := 255) h_1370 (by decide) (by decide)) (⟨by decide, by decide⟩ : rg 1 4 (1 : Int32)) h_1349 (rlm (by have q0 := rle py96_0_h0_to; omega)) (rlm (by have q0 := rle o_1348; omega)) hy96_1 (rlm (by have q0 := rle py96_1_h0_to; omega)) t96_h0_limit h_1350 H locs ls (oPsub hP [0, 1] rfl) (hD.sub [0, 1] (by decide) rfl) hS (lv_sub hl [1, 0] rfl)
            · skip
              have o_1377 : rl 0 x_1351 41 := rl_eq c_1376
              have h_1378 : rg 0 41 x_1351 := rl_x o_1377 h_1370 (⟨by decide, by decide⟩ : rg 41 41 (41 : Int32)) (by decide) (by decide)
              have o_1379 : rl 0 41 x_1351 := rl_eq c_1376.symm
              have h_1380 : rg 41 41 x_1351 := rl_y o_1379 (⟨by decide, by decide⟩ : rg 41 41 (41 : Int32)) h_1378 (by decide) (by decide)
              exact J174_1345 x_1351 y96_0 y96_1 (rgw (lo := 40) (hi := 62) h_1380 (by decide) (by decide)) h_1349 (rlm (by have q0 := rle py96_0_h0_to; omega)) (rlm (by have q0 := rle o_1348; omega)) hy96_1 (rlm (by have q0 := rle py96_1_h0_to; omega)) t96_h0_limit h_1350 H locs ls (oPsub hP [0, 1] rfl) (hD.sub [0, 1] (by decide) rfl) hS (lv_sub hl [1, 0] rfl)
        · skip
          subst h_1366
          have h_1381 : rg 58 96 x_1351 := rg_i h_1367 h_1361 (by decide) (by decide)
          refine lv_if_ne (tgt := 198) hx hb dX12_go_134 (by decide) (fun c => absurd (by decide) c) (fun _ => ?_)
          refine lv_aload_n hx hb dX12_go_137 rfl (lv_at hl 1 rfl) ?_
          refine lv_iload_n hx hb dX12_go_138 rfl (lv_at hl 0 rfl) ?_
          refine lv_bipush (v := 59) hx hb dX12_go_139 (by decide) ?_
          refine lv_icmp_eq (tgt := 174) hx hb dX12_go_141 (by decide) (fun c_1382 => ?_) (fun c_1382 => ?_)
          · skip
            have o_1383 : rl 0 x_1351 59 := rl_eq c_1382
            have h_1384 : rg 58 59 x_1351 := rl_x o_1383 h_1381 (⟨by decide, by decide⟩ : rg 59 59 (59 : Int32)) (by decide) (by decide)
            have o_1385 : rl 0 59 x_1351 := rl_eq c_1382.symm
            have h_1386 : rg 59 59 x_1351 := rl_y o_1385 (⟨by decide, by decide⟩ : rg 59 59 (59 : Int32)) h_1384 (by decide) (by decide)
            exact J174_1345 x_1351 y96_0 y96_1 (rgw (lo := 40) (hi := 62) h_1386 (by decide) (by decide)) h_1349 (rlm (by have q0 := rle py96_0_h0_to; omega)) (rlm (by have q0 := rle o_1348; omega)) hy96_1 (rlm (by have q0 := rle py96_1_h0_to; omega)) t96_h0_limit h_1350 H locs ls (oPsub hP [0, 1] rfl) (hD.sub [0, 1] (by decide) rfl) hS (lv_sub hl [1, 0] rfl)
          · skip
            refine lv_iload_n hx hb dX12_go_144 rfl (lv_at hl 0 rfl) ?_
            refine lv_bipush (v := 60) hx hb dX12_go_145 (by decide) ?_
            refine lv_icmp_eq (tgt := 174) hx hb dX12_go_147 (by decide) (fun c_1387 => ?_) (fun c_1387 => ?_)
            · skip
              have o_1388 : rl 0 x_1351 60 := rl_eq c_1387
              have h_1389 : rg 58 60 x_1351 := rl_x o_1388 h_1381 (⟨by decide, by decide⟩ : rg 60 60 (60 : Int32)) (by decide) (by decide)
              have o_1390 : rl 0 60 x_1351 := rl_eq c_1387.symm
              have h_1391 : rg 60 60 x_1351 := rl_y o_1390 (⟨by decide, by decide⟩ : rg 60 60 (60 : Int32)) h_1389 (by decide) (by decide)
              exact J174_1345 x_1351 y96_0 y96_1 (rgw (lo := 40) (hi := 62) h_1391 (by decide) (by decide)) h_1349 (rlm (by have q0 := rle py96_0_h0_to; omega)) (rlm (by have q0 := rle o_1348; omega)) hy96_1 (rlm (by have q0 := rle py96_1_h0_to; omega)) t96_h0_limit h_1350 H locs ls (oPsub hP [0, 1] rfl) (hD.sub [0, 1] (by decide) rfl) hS (lv_sub hl [1, 0] rfl)
            · skip
              refine lv_iload_n hx hb dX12_go_150 rfl (lv_at hl 0 rfl) ?_
              refine lv_bipush (v := 61) hx hb dX12_go_151 (by decide) ?_
              refine lv_icmp_eq (tgt := 174) hx hb dX12_go_153 (by decide) (fun c_1392 => ?_) (fun c_1392 => ?_)
              · skip
                have o_1393 : rl 0 x_1351 61 := rl_eq c_1392
                have h_1394 : rg 58 61 x_1351 := rl_x o_1393 h_1381 (⟨by decide, by decide⟩ : rg 61 61 (61 : Int32)) (by decide) (by decide)
                have o_1395 : rl 0 61 x_1351 := rl_eq c_1392.symm
                have h_1396 : rg 61 61 x_1351 := rl_y o_1395 (⟨by decide, by decide⟩ : rg 61 61 (61 : Int32)) h_1394 (by decide) (by decide)
                exact J174_1345 x_1351 y96_0 y96_1 (rgw (lo := 40) (hi := 62) h_1396 (by decide) (by decide)) h_1349 (rlm (by have q0 := rle py96_0_h0_to; omega)) (rlm (by have q0 := rle o_1348; omega)) hy96_1 (rlm (by have q0 := rle py96_1_h0_to; omega)) t96_h0_limit h_1350 H locs ls (oPsub hP [0, 1] rfl) (hD.sub [0, 1] (by decide) rfl) hS (lv_sub hl [1, 0] rfl)
              · skip
                refine lv_iload_n hx hb dX12_go_156 rfl (lv_at hl 0 rfl) ?_
                refine lv_bipush (v := 62) hx hb dX12_go_157 (by decide) ?_
                refine lv_icmp_eq (tgt := 174) hx hb dX12_go_159 (by decide) (fun c_1397 => ?_) (fun c_1397 => ?_)
                · skip
                  have o_1398 : rl 0 x_1351 62 := rl_eq c_1397
                  have h_1399 : rg 58 62 x_1351 := rl_x o_1398 h_1381 (⟨by decide, by decide⟩ : rg 62 62 (62 : Int32)) (by decide) (by decide)
                  have o_1400 : rl 0 62 x_1351 := rl_eq c_1397.symm
                  have h_1401 : rg 62 62 x_1351 := rl_y o_1400 (⟨by decide, by decide⟩ : rg 62 62 (62 : Int32)) h_1399 (by decide) (by decide)
                  exact J174_1345 x_1351 y96_0 y96_1 (rgw (lo := 40) (hi := 62) h_1401 (by decide) (by decide)) h_1349 (rlm (by have q0 := rle py96_0_h0_to; omega)) (rlm (by have q0 := rle o_1348; omega)) hy96_1 (rlm (by have q0 := rle py96_1_h0_to; omega)) t96_h0_limit h_1350 H locs ls (oPsub hP [0, 1] rfl) (hD.sub [0, 1] (by decide) rfl) hS (lv_sub hl [1, 0] rfl)
                · skip
                  refine lv_iload_n hx hb dX12_go_162 rfl (lv_at hl 0 rfl) ?_
                  refine lv_bipush (v := 40) hx hb dX12_go_163 (by decide) ?_
                  refine lv_icmp_eq (tgt := 174) hx hb dX12_go_165 (by decide) (fun c => absurd c (no_eq h_1381 (⟨by decide, by decide⟩ : rg 40 40 (40 : Int32)) (by decide))) (fun _ => ?_)
                  refine lv_iload_n hx hb dX12_go_168 rfl (lv_at hl 0 rfl) ?_
                  refine lv_bipush (v := 41) hx hb dX12_go_169 (by decide) ?_
                  refine lv_icmp_ne (tgt := 178) hx hb dX12_go_171 (by decide) (fun _ => ?_) (fun c => absurd c (no_eq h_1381 (⟨by decide, by decide⟩ : rg 41 41 (41 : Int32)) (by decide)))
                  refine lv_iconst (v := 1) hx hb dX12_go_178 (by decide) ?_
                  exact J179_1341 x_1351 1 y96_0 y96_1 (rgw (lo := 0) (hi := 255) h_1381 (by decide) (by decide)) (⟨by decide, by decide⟩ : rg 1 4 (1 : Int32)) h_1349 (rlm (by have q0 := rle py96_0_h0_to; omega)) (rlm (by have q0 := rle o_1348; omega)) hy96_1 (rlm (by have q0 := rle py96_1_h0_to; omega)) t96_h0_limit h_1350 H locs ls (oPsub hP [0, 1] rfl) (hD.sub [0, 1] (by decide) rfl) hS (lv_sub hl [1, 0] rfl)
        · skip
          subst h_1368
          refine lv_if_ne (tgt := 198) hx hb dX12_go_134 (by decide) (fun _ => ?_) (fun c => absurd c (by decide))
          refine lv_iload_n hx hb dX12_go_198 rfl (lv_at hl 0 rfl) ?_
          refine oC_i (Wc := []) (Wr := [(h0, .inr (11, [.int h0_thrown, .ref h0_tape, .int h0_taped, .int h0_size, .int h0_limit, .int y96_0, .int y96_1, .int h0_kind, .int h0_number, .int h0_sign, .int h0_fault, .int h0_place, .long h0_word, .int h0_told, .ref h0_now, .ref h0_read, .ref h0_kept, .ref h0_snaps, .ref h0_aside, .ref h0_name, .ref h0_readName, .ref h0_keptName, .ref h0_isKept, .ref h0_onces, .int h0_snapMany, .int h0_lowest, .int h0_highest, .int h0_agreed, .int h0_jurors, .int h0_panelled, .ref h0_inSets, .int h0_surely, .int h0_asked, .ref h0_frees, .int h0_struck, .int h0_beating, .ref h0_text, .int h0_texts, .int h0_seed, .ref h0_line, .ref h0_written, .int h0_lineMany, .int h0_hasWritten, .ref h0_node, .int h0_nodes, .int h0_onesMany, .int h0_within, .int h0_top])), (aI ca h0_tape 940 F_h0_tape)]) (va_runS (As := [.int x_1351]) (rest := []) ⟨hx, hb, hml, hown, hts⟩ (s_X12_isLetter l D ca H.size x_1351) (va_cwS 1 hts gX12_go_X12_isLetter rfl rfl rfl (by decide +kernel) ⟨Nat.le_of_ble_eq_true rfl, Nat.le_of_ble_eq_true rfl⟩) (oPS hK hP hD [] rfl (by decide)) rfl rfl hl.1 rfl (lv_room (Nat.le_of_ble_eq_true rfl)) dX12_go_199 ⟨Nat.le_of_ble_eq_true rfl, Nat.le_of_ble_eq_true rfl⟩) hP hD hS hA [] [0, 1] rfl rfl (by decide) (by decide) (fun r_1402 u H locs w_1403 hP hD hS => ?_)
          obtain ⟨⟩ := u
          have hP : va_P D vwCl [(h0, .inr (11, [.int h0_thrown, .ref h0_tape, .int h0_taped, .int h0_size, .int h0_limit, .int y96_0, .int y96_1, .int h0_kind, .int h0_number, .int h0_sign, .int h0_fault, .int h0_place, .long h0_word, .int h0_told, .ref h0_now, .ref h0_read, .ref h0_kept, .ref h0_snaps, .ref h0_aside, .ref h0_name, .ref h0_readName, .ref h0_keptName, .ref h0_isKept, .ref h0_onces, .int h0_snapMany, .int h0_lowest, .int h0_highest, .int h0_agreed, .int h0_jurors, .int h0_panelled, .ref h0_inSets, .int h0_surely, .int h0_asked, .ref h0_frees, .int h0_struck, .int h0_beating, .ref h0_text, .int h0_texts, .int h0_seed, .ref h0_line, .ref h0_written, .int h0_lineMany, .int h0_hasWritten, .ref h0_node, .int h0_nodes, .int h0_onesMany, .int h0_within, .int h0_top])), (aI ca h0_tape 940 F_h0_tape)] H := hP
          have hD : va_D A [(h0, .inr (11, [.int h0_thrown, .ref h0_tape, .int h0_taped, .int h0_size, .int h0_limit, .int y96_0, .int y96_1, .int h0_kind, .int h0_number, .int h0_sign, .int h0_fault, .int h0_place, .long h0_word, .int h0_told, .ref h0_now, .ref h0_read, .ref h0_kept, .ref h0_snaps, .ref h0_aside, .ref h0_name, .ref h0_readName, .ref h0_keptName, .ref h0_isKept, .ref h0_onces, .int h0_snapMany, .int h0_lowest, .int h0_highest, .int h0_agreed, .int h0_jurors, .int h0_panelled, .ref h0_inSets, .int h0_surely, .int h0_asked, .ref h0_frees, .int h0_struck, .int h0_beating, .ref h0_text, .int h0_texts, .int h0_seed, .ref h0_line, .ref h0_written, .int h0_lineMany, .int h0_hasWritten, .ref h0_node, .int h0_nodes, .int h0_onesMany, .int h0_within, .int h0_top])), (aI ca h0_tape 940 F_h0_tape)] := hD
          try dsimp only at w_1403
          rcases w_1403 with ⟨h_1404, h_1405⟩ | ⟨h_1406, h_1407⟩ | ⟨h_1408, h_1409⟩
          · skip
            subst h_1404
            refine lv_istore_n (lv' := [(2, .int 0), (1, .int x_1351), (0, .ref h0)]) hx hb dX12_go_202 rfl hl (by decide) rfl (fun ls hl => ?_)
            refine lv_iconst (v := 1) hx hb dX12_go_203 (by decide) ?_
            refine lv_istore_n (lv' := [(3, .int 1), (2, .int 0), (1, .int x_1351), (0, .ref h0)]) hx hb dX12_go_204 rfl hl (by decide) rfl (fun ls hl => ?_)
            refine lv_aload_n hx hb dX12_go_205 rfl (lv_at hl 3 rfl) ?_
            refine lv_lconst (v := 0) hx hb dX12_go_206 (by decide) ?_
            refine va_put (D := D) (ci := 11) (v := .long 0) (ty := .long) (C := RX12) (T := TX12) (N := 48) hx hb hts k2 tyX12 tyX12_ok nmX12 hown hK.1 hP hD hS 0 rfl rfl 12 (by decide) k7 (fun _ h9 => h9) rfl (by decide +kernel) rfl rfl (Nat.le_of_ble_eq_true rfl) dX12_go_207 (fun H locs hP hD hS => ?_)
            have hP : va_P D vwCl [(h0, .inr (11, [.int h0_thrown, .ref h0_tape, .int h0_taped, .int h0_size, .int h0_limit, .int y96_0, .int y96_1, .int h0_kind, .int h0_number, .int h0_sign, .int h0_fault, .int h0_place, .long 0, .int h0_told, .ref h0_now, .ref h0_read, .ref h0_kept, .ref h0_snaps, .ref h0_aside, .ref h0_name, .ref h0_readName, .ref h0_keptName, .ref h0_isKept, .ref h0_onces, .int h0_snapMany, .int h0_lowest, .int h0_highest, .int h0_agreed, .int h0_jurors, .int h0_panelled, .ref h0_inSets, .int h0_surely, .int h0_asked, .ref h0_frees, .int h0_struck, .int h0_beating, .ref h0_text, .int h0_texts, .int h0_seed, .ref h0_line, .ref h0_written, .int h0_lineMany, .int h0_hasWritten, .ref h0_node, .int h0_nodes, .int h0_onesMany, .int h0_within, .int h0_top])), (aI ca h0_tape 940 F_h0_tape)] H := hP
            have hD : va_D A [(h0, .inr (11, [.int h0_thrown, .ref h0_tape, .int h0_taped, .int h0_size, .int h0_limit, .int y96_0, .int y96_1, .int h0_kind, .int h0_number, .int h0_sign, .int h0_fault, .int h0_place, .long 0, .int h0_told, .ref h0_now, .ref h0_read, .ref h0_kept, .ref h0_snaps, .ref h0_aside, .ref h0_name, .ref h0_readName, .ref h0_keptName, .ref h0_isKept, .ref h0_onces, .int h0_snapMany, .int h0_lowest, .int h0_highest, .int h0_agreed, .int h0_jurors, .int h0_panelled, .ref h0_inSets, .int h0_surely, .int h0_asked, .ref h0_frees, .int h0_struck, .int h0_beating, .ref h0_text, .int h0_texts, .int h0_seed, .ref h0_line, .ref h0_written, .int h0_lineMany, .int h0_hasWritten, .ref h0_node, .int h0_nodes, .int h0_onesMany, .int h0_within, .int h0_top])), (aI ca h0_tape 940 F_h0_tape)] := hD
            refine lv_aload_n hx hb dX12_go_210 rfl (lv_at hl 3 rfl) ?_
            refine lv_iconst (v := 0) hx hb dX12_go_211 (by decide) ?_
            refine va_put (D := D) (ci := 11) (v := .int 0) (ty := .int) (C := RX12) (T := TX12) (N := 48) hx hb hts k2 tyX12 tyX12_ok nmX12 hown hK.1 hP hD hS 0 rfl rfl 8 (by decide) k5 (fun _ h9 => h9) rfl (by decide +kernel) rfl rfl (Nat.le_of_ble_eq_true rfl) dX12_go_212 (fun H locs hP hD hS => ?_)
            have hP : va_P D vwCl [(h0, .inr (11, [.int h0_thrown, .ref h0_tape, .int h0_taped, .int h0_size, .int h0_limit, .int y96_0, .int y96_1, .int h0_kind, .int 0, .int h0_sign, .int h0_fault, .int h0_place, .long 0, .int h0_told, .ref h0_now, .ref h0_read, .ref h0_kept, .ref h0_snaps, .ref h0_aside, .ref h0_name, .ref h0_readName, .ref h0_keptName, .ref h0_isKept, .ref h0_onces, .int h0_snapMany, .int h0_lowest, .int h0_highest, .int h0_agreed, .int h0_jurors, .int h0_panelled, .ref h0_inSets, .int h0_surely, .int h0_asked, .ref h0_frees, .int h0_struck, .int h0_beating, .ref h0_text, .int h0_texts, .int h0_seed, .ref h0_line, .ref h0_written, .int h0_lineMany, .int h0_hasWritten, .ref h0_node, .int h0_nodes, .int h0_onesMany, .int h0_within, .int h0_top])), (aI ca h0_tape 940 F_h0_tape)] H := hP
            have hD : va_D A [(h0, .inr (11, [.int h0_thrown, .ref h0_tape, .int h0_taped, .int h0_size, .int h0_limit, .int y96_0, .int y96_1, .int h0_kind, .int 0, .int h0_sign, .int h0_fault, .int h0_place, .long 0, .int h0_told, .ref h0_now, .ref h0_read, .ref h0_kept, .ref h0_snaps, .ref h0_aside, .ref h0_name, .ref h0_readName, .ref h0_keptName, .ref h0_isKept, .ref h0_onces, .int h0_snapMany, .int h0_lowest, .int h0_highest, .int h0_agreed, .int h0_jurors, .int h0_panelled, .ref h0_inSets, .int h0_surely, .int h0_asked, .ref h0_frees, .int h0_struck, .int h0_beating, .ref h0_text, .int h0_texts, .int h0_seed, .ref h0_line, .ref h0_written, .int h0_lineMany, .int h0_hasWritten, .ref h0_node, .int h0_nodes, .int h0_onesMany, .int h0_within, .int h0_top])), (aI ca h0_tape 940 F_h0_tape)] := hD
            refine lv_aload_n hx hb dX12_go_215 rfl (lv_at hl 3 rfl) ?_
            refine lv_aload_n hx hb dX12_go_216 rfl (lv_at hl 3 rfl) ?_
            refine va_get (D := D) (ci := 11) (v := .int y96_0) (C := RX12) (T := TX12) (N := 48) hx hb hts k2 hown hK.1 hP 0 rfl rfl 5 (by decide) k3 (fun _ h9 => h9) rfl dX12_go_217 ?_
            refine oC_i (Wc := [(h0, .inr (11, [.int h0_thrown, .ref h0_tape, .int h0_taped, .int h0_size, .int h0_limit, .int y96_0, .int y96_1, .int h0_kind, .int 0, .int h0_sign, .int h0_fault, .int h0_place, .long 0, .int h0_told, .ref h0_now, .ref h0_read, .ref h0_kept, .ref h0_snaps, .ref h0_aside, .ref h0_name, .ref h0_readName, .ref h0_keptName, .ref h0_isKept, .ref h0_onces, .int h0_snapMany, .int h0_lowest, .int h0_highest, .int h0_agreed, .int h0_jurors, .int h0_panelled, .ref h0_inSets, .int h0_surely, .int h0_asked, .ref h0_frees, .int h0_struck, .int h0_beating, .ref h0_text, .int h0_texts, .int h0_seed, .ref h0_line, .ref h0_written, .int h0_lineMany, .int h0_hasWritten, .ref h0_node, .int h0_nodes, .int h0_onesMany, .int h0_within, .int h0_top])), (aI ca h0_tape 940 F_h0_tape)]) (Wr := []) (va_runV (As := [.int y96_0]) (rest := []) ⟨hx, hb, hml, hown, hts⟩ (s_X12_tapeAt l D ca H.size h0 y96_0 h0_thrown h0_tape h0_taped h0_size h0_limit y96_0 y96_1 h0_kind 0 h0_sign h0_fault h0_place 0 h0_told h0_now h0_read h0_kept h0_snaps h0_aside h0_name h0_readName h0_keptName h0_isKept h0_onces h0_snapMany h0_lowest h0_highest h0_agreed h0_jurors h0_panelled h0_inSets h0_surely h0_asked h0_frees h0_struck h0_beating h0_text h0_texts h0_seed h0_line h0_written h0_lineMany h0_hasWritten h0_node h0_nodes h0_onesMany h0_within h0_top F_h0_tape (rgw (lo := 0) (hi := 940) h_1349 (by decide) (by decide)) i_h0_taped (rgw (lo := 0) (hi := 940) h_1350 (by decide) (by decide)) (rgw (lo := 0) (hi := 940) h_1349 (by decide) (by decide)) i_h0_kind i_h0_snapMany i_h0_texts i_h0_lineMany i_h0_hasWritten i_h0_nodes i_h0_onesMany (sg_w (a' := 0) (b' := 940) (lo' := 0) (hi' := 255) s_h0_tape_0 (by decide) (by decide) (by decide) (by decide))) (cwV 1 hts gX12_go_X12_tapeAt rfl rfl rfl (by decide +kernel) ⟨Nat.le_of_ble_eq_true rfl, Nat.le_of_ble_eq_true rfl⟩) (oPV (C := RX12) hK hP hD [0, 1] rfl (by decide) 0 rfl (ci := 11) rfl rfl) rfl rfl hl.1 rfl (lv_room (Nat.le_of_ble_eq_true rfl)) dX12_go_220 ⟨Nat.le_of_ble_eq_true rfl, Nat.le_of_ble_eq_true rfl⟩) hP hD hS hA [0, 1] [] rfl rfl (by decide) (by decide) (fun r_1410 u H locs w_1411 hP hD hS => ?_)
            obtain ⟨⟩ := u
            have hP : va_P D vwCl [(h0, .inr (11, [.int h0_thrown, .ref h0_tape, .int h0_taped, .int h0_size, .int h0_limit, .int y96_0, .int y96_1, .int h0_kind, .int 0, .int h0_sign, .int h0_fault, .int h0_place, .long 0, .int h0_told, .ref h0_now, .ref h0_read, .ref h0_kept, .ref h0_snaps, .ref h0_aside, .ref h0_name, .ref h0_readName, .ref h0_keptName, .ref h0_isKept, .ref h0_onces, .int h0_snapMany, .int h0_lowest, .int h0_highest, .int h0_agreed, .int h0_jurors, .int h0_panelled, .ref h0_inSets, .int h0_surely, .int h0_asked, .ref h0_frees, .int h0_struck, .int h0_beating, .ref h0_text, .int h0_texts, .int h0_seed, .ref h0_line, .ref h0_written, .int h0_lineMany, .int h0_hasWritten, .ref h0_node, .int h0_nodes, .int h0_onesMany, .int h0_within, .int h0_top])), (aI ca h0_tape 940 F_h0_tape)] H := hP
            have hD : va_D A [(h0, .inr (11, [.int h0_thrown, .ref h0_tape, .int h0_taped, .int h0_size, .int h0_limit, .int y96_0, .int y96_1, .int h0_kind, .int 0, .int h0_sign, .int h0_fault, .int h0_place, .long 0, .int h0_told, .ref h0_now, .ref h0_read, .ref h0_kept, .ref h0_snaps, .ref h0_aside, .ref h0_name, .ref h0_readName, .ref h0_keptName, .ref h0_isKept, .ref h0_onces, .int h0_snapMany, .int h0_lowest, .int h0_highest, .int h0_agreed, .int h0_jurors, .int h0_panelled, .ref h0_inSets, .int h0_surely, .int h0_asked, .ref h0_frees, .int h0_struck, .int h0_beating, .ref h0_text, .int h0_texts, .int h0_seed, .ref h0_line, .ref h0_written, .int h0_lineMany, .int h0_hasWritten, .ref h0_node, .int h0_nodes, .int h0_onesMany, .int h0_within, .int h0_top])), (aI ca h0_tape 940 F_h0_tape)] := hD
            try dsimp only at w_1411
            rcases w_1411 with ⟨h_1412, h_1413⟩ | ⟨h_1414, h_1415, h_1416, h_1417, h_1418⟩
            · skip
              subst h_1412
              exact False.elim (by have z0 := rle h_1413; have q0 := rle o_1348; omega)
            · skip
              have h_1419 := (h_1414.trans ex_1351.symm).symm
              subst h_1419
              refine oC_i (Wc := []) (Wr := [(h0, .inr (11, [.int h0_thrown, .ref h0_tape, .int h0_taped, .int h0_size, .int h0_limit, .int y96_0, .int y96_1, .int h0_kind, .int 0, .int h0_sign, .int h0_fault, .int h0_place, .long 0, .int h0_told, .ref h0_now, .ref h0_read, .ref h0_kept, .ref h0_snaps, .ref h0_aside, .ref h0_name, .ref h0_readName, .ref h0_keptName, .ref h0_isKept, .ref h0_onces, .int h0_snapMany, .int h0_lowest, .int h0_highest, .int h0_agreed, .int h0_jurors, .int h0_panelled, .ref h0_inSets, .int h0_surely, .int h0_asked, .ref h0_frees, .int h0_struck, .int h0_beating, .ref h0_text, .int h0_texts, .int h0_seed, .ref h0_line, .ref h0_written, .int h0_lineMany, .int h0_hasWritten, .ref h0_node, .int h0_nodes, .int h0_onesMany, .int h0_within, .int h0_top])), (aI ca h0_tape 940 F_h0_tape)]) (va_runS (As := [.int x_1351]) (rest := []) ⟨hx, hb, hml, hown, hts⟩ (s_X12_isLetter l D ca H.size x_1351) (va_cwS 1 hts gX12_go_X12_isLetter rfl rfl rfl (by decide +kernel) ⟨Nat.le_of_ble_eq_true rfl, Nat.le_of_ble_eq_true rfl⟩) (oPS hK hP hD [] rfl (by decide)) rfl rfl hl.1 rfl (lv_room (Nat.le_of_ble_eq_true rfl)) dX12_go_223 ⟨Nat.le_of_ble_eq_true rfl, Nat.le_of_ble_eq_true rfl⟩) hP hD hS hA [] [0, 1] rfl rfl (by decide) (by decide) (fun r_1420 u H locs w_1421 hP hD hS => ?_)
              obtain ⟨⟩ := u
              have hP : va_P D vwCl [(h0, .inr (11, [.int h0_thrown, .ref h0_tape, .int h0_taped, .int h0_size, .int h0_limit, .int y96_0, .int y96_1, .int h0_kind, .int 0, .int h0_sign, .int h0_fault, .int h0_place, .long 0, .int h0_told, .ref h0_now, .ref h0_read, .ref h0_kept, .ref h0_snaps, .ref h0_aside, .ref h0_name, .ref h0_readName, .ref h0_keptName, .ref h0_isKept, .ref h0_onces, .int h0_snapMany, .int h0_lowest, .int h0_highest, .int h0_agreed, .int h0_jurors, .int h0_panelled, .ref h0_inSets, .int h0_surely, .int h0_asked, .ref h0_frees, .int h0_struck, .int h0_beating, .ref h0_text, .int h0_texts, .int h0_seed, .ref h0_line, .ref h0_written, .int h0_lineMany, .int h0_hasWritten, .ref h0_node, .int h0_nodes, .int h0_onesMany, .int h0_within, .int h0_top])), (aI ca h0_tape 940 F_h0_tape)] H := hP
              have hD : va_D A [(h0, .inr (11, [.int h0_thrown, .ref h0_tape, .int h0_taped, .int h0_size, .int h0_limit, .int y96_0, .int y96_1, .int h0_kind, .int 0, .int h0_sign, .int h0_fault, .int h0_place, .long 0, .int h0_told, .ref h0_now, .ref h0_read, .ref h0_kept, .ref h0_snaps, .ref h0_aside, .ref h0_name, .ref h0_readName, .ref h0_keptName, .ref h0_isKept, .ref h0_onces, .int h0_snapMany, .int h0_lowest, .int h0_highest, .int h0_agreed, .int h0_jurors, .int h0_panelled, .ref h0_inSets, .int h0_surely, .int h0_asked, .ref h0_frees, .int h0_struck, .int h0_beating, .ref h0_text, .int h0_texts, .int h0_seed, .ref h0_line, .ref h0_written, .int h0_lineMany, .int h0_hasWritten, .ref h0_node, .int h0_nodes, .int h0_onesMany, .int h0_within, .int h0_top])), (aI ca h0_tape 940 F_h0_tape)] := hD
              try dsimp only at w_1421
              rcases w_1421 with ⟨h_1422, h_1423⟩ | ⟨h_1424, h_1425⟩ | ⟨h_1426, h_1427⟩
              · skip
                subst h_1422
                refine lv_if_ne (tgt := 243) hx hb dX12_go_226 (by decide) (fun c => absurd (by decide) c) (fun _ => ?_)
                refine lv_aload_n hx hb dX12_go_229 rfl (lv_at hl 3 rfl) ?_
                refine lv_aload_n hx hb dX12_go_230 rfl (lv_at hl 3 rfl) ?_
                refine va_get (D := D) (ci := 11) (v := .int y96_0) (C := RX12) (T := TX12) (N := 48) hx hb hts k2 hown hK.1 hP 0 rfl rfl 5 (by decide) k3 (fun _ h9 => h9) rfl dX12_go_231 ?_
                refine oC_i (Wc := [(h0, .inr (11, [.int h0_thrown, .ref h0_tape, .int h0_taped, .int h0_size, .int h0_limit, .int y96_0, .int y96_1, .int h0_kind, .int 0, .int h0_sign, .int h0_fault, .int h0_place, .long 0, .int h0_told, .ref h0_now, .ref h0_read, .ref h0_kept, .ref h0_snaps, .ref h0_aside, .ref h0_name, .ref h0_readName, .ref h0_keptName, .ref h0_isKept, .ref h0_onces, .int h0_snapMany, .int h0_lowest, .int h0_highest, .int h0_agreed, .int h0_jurors, .int h0_panelled, .ref h0_inSets, .int h0_surely, .int h0_asked, .ref h0_frees, .int h0_struck, .int h0_beating, .ref h0_text, .int h0_texts, .int h0_seed, .ref h0_line, .ref h0_written, .int h0_lineMany, .int h0_hasWritten, .ref h0_node, .int h0_nodes, .int h0_onesMany, .int h0_within, .int h0_top])), (aI ca h0_tape 940 F_h0_tape)]) (Wr := []) (va_runV (As := [.int y96_0]) (rest := []) ⟨hx, hb, hml, hown, hts⟩ (s_X12_tapeAt l D ca H.size h0 y96_0 h0_thrown h0_tape h0_taped h0_size h0_limit y96_0 y96_1 h0_kind 0 h0_sign h0_fault h0_place 0 h0_told h0_now h0_read h0_kept h0_snaps h0_aside h0_name h0_readName h0_keptName h0_isKept h0_onces h0_snapMany h0_lowest h0_highest h0_agreed h0_jurors h0_panelled h0_inSets h0_surely h0_asked h0_frees h0_struck h0_beating h0_text h0_texts h0_seed h0_line h0_written h0_lineMany h0_hasWritten h0_node h0_nodes h0_onesMany h0_within h0_top F_h0_tape (rgw (lo := 0) (hi := 940) h_1349 (by decide) (by decide)) i_h0_taped (rgw (lo := 0) (hi := 940) h_1350 (by decide) (by decide)) (rgw (lo := 0) (hi := 940) h_1349 (by decide) (by decide)) i_h0_kind i_h0_snapMany i_h0_texts i_h0_lineMany i_h0_hasWritten i_h0_nodes i_h0_onesMany (sg_w (a' := 0) (b' := 940) (lo' := 0) (hi' := 255) s_h0_tape_0 (by decide) (by decide) (by decide) (by decide))) (cwV 1 hts gX12_go_X12_tapeAt rfl rfl rfl (by decide +kernel) ⟨Nat.le_of_ble_eq_true rfl, Nat.le_of_ble_eq_true rfl⟩) (oPV (C := RX12) hK hP hD [0, 1] rfl (by decide) 0 rfl (ci := 11) rfl rfl) rfl rfl hl.1 rfl (lv_room (Nat.le_of_ble_eq_true rfl)) dX12_go_234 ⟨Nat.le_of_ble_eq_true rfl, Nat.le_of_ble_eq_true rfl⟩) hP hD hS hA [0, 1] [] rfl rfl (by decide) (by decide) (fun r_1428 u H locs w_1429 hP hD hS => ?_)
                obtain ⟨⟩ := u
                have hP : va_P D vwCl [(h0, .inr (11, [.int h0_thrown, .ref h0_tape, .int h0_taped, .int h0_size, .int h0_limit, .int y96_0, .int y96_1, .int h0_kind, .int 0, .int h0_sign, .int h0_fault, .int h0_place, .long 0, .int h0_told, .ref h0_now, .ref h0_read, .ref h0_kept, .ref h0_snaps, .ref h0_aside, .ref h0_name, .ref h0_readName, .ref h0_keptName, .ref h0_isKept, .ref h0_onces, .int h0_snapMany, .int h0_lowest, .int h0_highest, .int h0_agreed, .int h0_jurors, .int h0_panelled, .ref h0_inSets, .int h0_surely, .int h0_asked, .ref h0_frees, .int h0_struck, .int h0_beating, .ref h0_text, .int h0_texts, .int h0_seed, .ref h0_line, .ref h0_written, .int h0_lineMany, .int h0_hasWritten, .ref h0_node, .int h0_nodes, .int h0_onesMany, .int h0_within, .int h0_top])), (aI ca h0_tape 940 F_h0_tape)] H := hP
                have hD : va_D A [(h0, .inr (11, [.int h0_thrown, .ref h0_tape, .int h0_taped, .int h0_size, .int h0_limit, .int y96_0, .int y96_1, .int h0_kind, .int 0, .int h0_sign, .int h0_fault, .int h0_place, .long 0, .int h0_told, .ref h0_now, .ref h0_read, .ref h0_kept, .ref h0_snaps, .ref h0_aside, .ref h0_name, .ref h0_readName, .ref h0_keptName, .ref h0_isKept, .ref h0_onces, .int h0_snapMany, .int h0_lowest, .int h0_highest, .int h0_agreed, .int h0_jurors, .int h0_panelled, .ref h0_inSets, .int h0_surely, .int h0_asked, .ref h0_frees, .int h0_struck, .int h0_beating, .ref h0_text, .int h0_texts, .int h0_seed, .ref h0_line, .ref h0_written, .int h0_lineMany, .int h0_hasWritten, .ref h0_node, .int h0_nodes, .int h0_onesMany, .int h0_within, .int h0_top])), (aI ca h0_tape 940 F_h0_tape)] := hD
                try dsimp only at w_1429
                rcases w_1429 with ⟨h_1430, h_1431⟩ | ⟨h_1432, h_1433, h_1434, h_1435, h_1436⟩
                · skip
                  subst h_1430
                  exact False.elim (by have z0 := rle h_1431; have q0 := rle o_1348; omega)
                · skip
                  have h_1437 := (h_1432.trans ex_1351.symm).symm
                  subst h_1437
                  refine oC_i (Wc := []) (Wr := [(h0, .inr (11, [.int h0_thrown, .ref h0_tape, .int h0_taped, .int h0_size, .int h0_limit, .int y96_0, .int y96_1, .int h0_kind, .int 0, .int h0_sign, .int h0_fault, .int h0_place, .long 0, .int h0_told, .ref h0_now, .ref h0_read, .ref h0_kept, .ref h0_snaps, .ref h0_aside, .ref h0_name, .ref h0_readName, .ref h0_keptName, .ref h0_isKept, .ref h0_onces, .int h0_snapMany, .int h0_lowest, .int h0_highest, .int h0_agreed, .int h0_jurors, .int h0_panelled, .ref h0_inSets, .int h0_surely, .int h0_asked, .ref h0_frees, .int h0_struck, .int h0_beating, .ref h0_text, .int h0_texts, .int h0_seed, .ref h0_line, .ref h0_written, .int h0_lineMany, .int h0_hasWritten, .ref h0_node, .int h0_nodes, .int h0_onesMany, .int h0_within, .int h0_top])), (aI ca h0_tape 940 F_h0_tape)]) (va_runS (As := [.int x_1351]) (rest := []) ⟨hx, hb, hml, hown, hts⟩ (s_X12_isDigit l D ca H.size x_1351) (va_cwS 1 hts gX12_go_X12_isDigit rfl rfl rfl (by decide +kernel) ⟨Nat.le_of_ble_eq_true rfl, Nat.le_of_ble_eq_true rfl⟩) (oPS hK hP hD [] rfl (by decide)) rfl rfl hl.1 rfl (lv_room (Nat.le_of_ble_eq_true rfl)) dX12_go_237 ⟨Nat.le_of_ble_eq_true rfl, Nat.le_of_ble_eq_true rfl⟩) hP hD hS hA [] [0, 1] rfl rfl (by decide) (by decide) (fun r_1438 u H locs w_1439 hP hD hS => ?_)
                  obtain ⟨⟩ := u
                  have hP : va_P D vwCl [(h0, .inr (11, [.int h0_thrown, .ref h0_tape, .int h0_taped, .int h0_size, .int h0_limit, .int y96_0, .int y96_1, .int h0_kind, .int 0, .int h0_sign, .int h0_fault, .int h0_place, .long 0, .int h0_told, .ref h0_now, .ref h0_read, .ref h0_kept, .ref h0_snaps, .ref h0_aside, .ref h0_name, .ref h0_readName, .ref h0_keptName, .ref h0_isKept, .ref h0_onces, .int h0_snapMany, .int h0_lowest, .int h0_highest, .int h0_agreed, .int h0_jurors, .int h0_panelled, .ref h0_inSets, .int h0_surely, .int h0_asked, .ref h0_frees, .int h0_struck, .int h0_beating, .ref h0_text, .int h0_texts, .int h0_seed, .ref h0_line, .ref h0_written, .int h0_lineMany, .int h0_hasWritten, .ref h0_node, .int h0_nodes, .int h0_onesMany, .int h0_within, .int h0_top])), (aI ca h0_tape 940 F_h0_tape)] H := hP
                  have hD : va_D A [(h0, .inr (11, [.int h0_thrown, .ref h0_tape, .int h0_taped, .int h0_size, .int h0_limit, .int y96_0, .int y96_1, .int h0_kind, .int 0, .int h0_sign, .int h0_fault, .int h0_place, .long 0, .int h0_told, .ref h0_now, .ref h0_read, .ref h0_kept, .ref h0_snaps, .ref h0_aside, .ref h0_name, .ref h0_readName, .ref h0_keptName, .ref h0_isKept, .ref h0_onces, .int h0_snapMany, .int h0_lowest, .int h0_highest, .int h0_agreed, .int h0_jurors, .int h0_panelled, .ref h0_inSets, .int h0_surely, .int h0_asked, .ref h0_frees, .int h0_struck, .int h0_beating, .ref h0_text, .int h0_texts, .int h0_seed, .ref h0_line, .ref h0_written, .int h0_lineMany, .int h0_hasWritten, .ref h0_node, .int h0_nodes, .int h0_onesMany, .int h0_within, .int h0_top])), (aI ca h0_tape 940 F_h0_tape)] := hD
                  try dsimp only at w_1439
                  rcases w_1439 with ⟨h_1440, h_1441⟩ | ⟨h_1442, h_1443⟩ | ⟨h_1444, h_1445⟩
                  · skip
                    subst h_1440
                    exact (rg_no h_1441 h_1369 (by decide)).elim
                  · skip
                    subst h_1442
                    exact (rg_no h_1443 h_1369 (by decide)).elim
                  · skip
                    subst h_1444
                    refine lv_if_eq (tgt := 350) hx hb dX12_go_240 (by decide) (fun c => absurd c (by decide)) (fun _ => ?_)
                    refine lv_aload_n hx hb dX12_go_243 rfl (lv_at hl 3 rfl) ?_
                    refine va_get (D := D) (ci := 11) (v := .ref h0_tape) (C := RX12) (T := TX12) (N := 48) hx hb hts k2 hown hK.1 hP 0 rfl rfl 1 (by decide) k9 (fun _ h9 => h9) rfl dX12_go_244 ?_
                    refine lv_aload_n hx hb dX12_go_247 rfl (lv_at hl 3 rfl) ?_
                    refine va_get (D := D) (ci := 11) (v := .int y96_0) (C := RX12) (T := TX12) (N := 48) hx hb hts k2 hown hK.1 hP 0 rfl rfl 5 (by decide) k3 (fun _ h9 => h9) rfl dX12_go_248 ?_
                    refine va_iald hx hb hK.1 hP 1 0 rfl rfl (rg_in h_1349 (by decide) (by decide)) dX12_go_251 ?_
                    refine oti x_1351 ex_1351.symm ?_
                    refine lv_istore (lv' := [(4, .int x_1351), (3, .int 1), (2, .int 0), (1, .int x_1351), (0, .ref h0)]) hx hb dX12_go_252 hl (by decide) rfl (fun ls hl => ?_)
                    refine lv_iload_n hx hb dX12_go_254 rfl (lv_at hl 1 rfl) ?_
                    refine lv_if_eq (tgt := 271) hx hb dX12_go_255 (by decide) (fun c => absurd c (by decide)) (fun _ => ?_)
                    refine lv_iload hx hb dX12_go_258 (lv_at hl 0 rfl) ?_
                    refine oC_i (Wc := []) (Wr := [(h0, .inr (11, [.int h0_thrown, .ref h0_tape, .int h0_taped, .int h0_size, .int h0_limit, .int y96_0, .int y96_1, .int h0_kind, .int 0, .int h0_sign, .int h0_fault, .int h0_place, .long 0, .int h0_told, .ref h0_now, .ref h0_read, .ref h0_kept, .ref h0_snaps, .ref h0_aside, .ref h0_name, .ref h0_readName, .ref h0_keptName, .ref h0_isKept, .ref h0_onces, .int h0_snapMany, .int h0_lowest, .int h0_highest, .int h0_agreed, .int h0_jurors, .int h0_panelled, .ref h0_inSets, .int h0_surely, .int h0_asked, .ref h0_frees, .int h0_struck, .int h0_beating, .ref h0_text, .int h0_texts, .int h0_seed, .ref h0_line, .ref h0_written, .int h0_lineMany, .int h0_hasWritten, .ref h0_node, .int h0_nodes, .int h0_onesMany, .int h0_within, .int h0_top])), (aI ca h0_tape 940 F_h0_tape)]) (va_runS (As := [.int x_1351]) (rest := []) ⟨hx, hb, hml, hown, hts⟩ (s_X12_isLetter l D ca H.size x_1351) (va_cwS 1 hts gX12_go_X12_isLetter rfl rfl rfl (by decide +kernel) ⟨Nat.le_of_ble_eq_true rfl, Nat.le_of_ble_eq_true rfl⟩) (oPS hK hP hD [] rfl (by decide)) rfl rfl hl.1 rfl (lv_room (Nat.le_of_ble_eq_true rfl)) dX12_go_260 ⟨Nat.le_of_ble_eq_true rfl, Nat.le_of_ble_eq_true rfl⟩) hP hD hS hA [] [0, 1] rfl rfl (by decide) (by decide) (fun r_1446 u H locs w_1447 hP hD hS => ?_)
                    obtain ⟨⟩ := u
                    have hP : va_P D vwCl [(h0, .inr (11, [.int h0_thrown, .ref h0_tape, .int h0_taped, .int h0_size, .int h0_limit, .int y96_0, .int y96_1, .int h0_kind, .int 0, .int h0_sign, .int h0_fault, .int h0_place, .long 0, .int h0_told, .ref h0_now, .ref h0_read, .ref h0_kept, .ref h0_snaps, .ref h0_aside, .ref h0_name, .ref h0_readName, .ref h0_keptName, .ref h0_isKept, .ref h0_onces, .int h0_snapMany, .int h0_lowest, .int h0_highest, .int h0_agreed, .int h0_jurors, .int h0_panelled, .ref h0_inSets, .int h0_surely, .int h0_asked, .ref h0_frees, .int h0_struck, .int h0_beating, .ref h0_text, .int h0_texts, .int h0_seed, .ref h0_line, .ref h0_written, .int h0_lineMany, .int h0_hasWritten, .ref h0_node, .int h0_nodes, .int h0_onesMany, .int h0_within, .int h0_top])), (aI ca h0_tape 940 F_h0_tape)] H := hP
                    have hD : va_D A [(h0, .inr (11, [.int h0_thrown, .ref h0_tape, .int h0_taped, .int h0_size, .int h0_limit, .int y96_0, .int y96_1, .int h0_kind, .int 0, .int h0_sign, .int h0_fault, .int h0_place, .long 0, .int h0_told, .ref h0_now, .ref h0_read, .ref h0_kept, .ref h0_snaps, .ref h0_aside, .ref h0_name, .ref h0_readName, .ref h0_keptName, .ref h0_isKept, .ref h0_onces, .int h0_snapMany, .int h0_lowest, .int h0_highest, .int h0_agreed, .int h0_jurors, .int h0_panelled, .ref h0_inSets, .int h0_surely, .int h0_asked, .ref h0_frees, .int h0_struck, .int h0_beating, .ref h0_text, .int h0_texts, .int h0_seed, .ref h0_line, .ref h0_written, .int h0_lineMany, .int h0_hasWritten, .ref h0_node, .int h0_nodes, .int h0_onesMany, .int h0_within, .int h0_top])), (aI ca h0_tape 940 F_h0_tape)] := hD
                    try dsimp only at w_1447
                    rcases w_1447 with ⟨h_1448, h_1449⟩ | ⟨h_1450, h_1451⟩ | ⟨h_1452, h_1453⟩
                    · skip
                      subst h_1448
                      refine lv_iload_n hx hb dX12_go_263 rfl (lv_at hl 2 rfl) ?_
                      refine lv_icmp_ne (tgt := 271) hx hb dX12_go_264 (by decide) (fun c => absurd (by decide) c) (fun _ => ?_)
                      refine lv_iconst (v := 1) hx hb dX12_go_267 (by decide) ?_
                      refine lv_goto (tgt := 272) hx hb dX12_go_268 (by decide) ?_
                      refine lv_istore_n (lv' := [(3, .int 1), (4, .int x_1351), (2, .int 0), (1, .int x_1351), (0, .ref h0)]) hx hb dX12_go_272 rfl hl (by decide) rfl (fun ls hl => ?_)
                      refine lv_aload_n hx hb dX12_go_273 rfl (lv_at hl 4 rfl) ?_
                      refine va_get (D := D) (ci := 11) (v := .int y96_0) (C := RX12) (T := TX12) (N := 48) hx hb hts k2 hown hK.1 hP 0 rfl rfl 5 (by decide) k3 (fun _ h9 => h9) rfl dX12_go_274 ?_
                      refine lv_aload_n hx hb dX12_go_277 rfl (lv_at hl 4 rfl) ?_
                      refine va_get (D := D) (ci := 11) (v := .int y96_1) (C := RX12) (T := TX12) (N := 48) hx hb hts k2 hown hK.1 hP 0 rfl rfl 6 (by decide) k4 (fun _ h9 => h9) rfl dX12_go_278 ?_
                      refine lv_isub hx hb dX12_go_281 ?_
                      refine lv_topi (fun x_1454 ex_1454 => ?_)
                      have h_1455 : rg (-940) 939 x_1454 := by rw [ex_1454]; exact rg_sub h_1349 hy96_1 (by decide) (by decide) (by decide) (by decide)
                      have l_1456 : lq x_1454.toInt (y96_0.toInt + (-1) * y96_1.toInt) := lqm (by rw [ex_1454]; have q := tsub h_1349 hy96_1 (by decide) (by decide); omega)
                      refine lv_bipush (v := 7) hx hb dX12_go_282 (by decide) ?_
                      refine lv_icmp_ge (tgt := 307) hx hb dX12_go_284 (by decide) (fun c_1457 => ?_) (fun c_1457 => ?_)
                      · skip
                        have o_1458 : rl 0 7 x_1454 := rl_le c_1457
                        have h_1459 : rg 7 939 x_1454 := rl_y o_1458 (⟨by decide, by decide⟩ : rg 7 7 (7 : Int32)) h_1455 (by decide) (by decide)
                        refine lv_aload_n hx hb dX12_go_307 rfl (lv_at hl 4 rfl) ?_
                        refine va_get (D := D) (ci := 11) (v := .int y96_0) (C := RX12) (T := TX12) (N := 48) hx hb hts k2 hown hK.1 hP 0 rfl rfl 5 (by decide) k3 (fun _ h9 => h9) rfl dX12_go_308 ?_
                        refine lv_aload_n hx hb dX12_go_311 rfl (lv_at hl 4 rfl) ?_
                        refine va_get (D := D) (ci := 11) (v := .int y96_1) (C := RX12) (T := TX12) (N := 48) hx hb hts k2 hown hK.1 hP 0 rfl rfl 6 (by decide) k4 (fun _ h9 => h9) rfl dX12_go_312 ?_
                        refine lv_isub hx hb dX12_go_315 ?_
                        refine lv_topi (fun x_1460 ex_1460 => ?_)
                        have h_1461 : rg (-940) 939 x_1460 := by rw [ex_1460]; exact rg_sub h_1349 hy96_1 (by decide) (by decide) (by decide) (by decide)
                        have l_1462 : lq x_1460.toInt (y96_0.toInt + (-1) * y96_1.toInt) := lqm (by rw [ex_1460]; have q := tsub h_1349 hy96_1 (by decide) (by decide); omega)
                        refine lv_iconst (v := 3) hx hb dX12_go_316 (by decide) ?_
                        refine lv_icmp_ge (tgt := 337) hx hb dX12_go_317 (by decide) (fun c_1463 => ?_) (fun c_1463 => ?_)
                        · skip
                          have o_1464 : rl 0 3 x_1460 := rl_le c_1463
                          have h_1465 : rg 3 939 x_1460 := rl_y o_1464 (⟨by decide, by decide⟩ : rg 3 3 (3 : Int32)) h_1461 (by decide) (by decide)
                          refine lv_aload_n hx hb dX12_go_337 rfl (lv_at hl 4 rfl) ?_
                          refine lv_dup hx hb dX12_go_338 rfl ?_
                          refine va_get (D := D) (ci := 11) (v := .int y96_0) (C := RX12) (T := TX12) (N := 48) hx hb hts k2 hown hK.1 hP 0 rfl rfl 5 (by decide) k3 (fun _ h9 => h9) rfl dX12_go_339 ?_
                          refine lv_iconst (v := 1) hx hb dX12_go_342 (by decide) ?_
                          refine lv_iadd hx hb dX12_go_343 ?_
                          refine lv_topi (fun x_1466 ex_1466 => ?_)
                          have h_1467 : rg 1 940 x_1466 := by rw [ex_1466]; exact rg_add h_1349 (⟨by decide, by decide⟩ : rg 1 1 (1 : Int32)) (by decide) (by decide) (by decide) (by decide)
                          have l_1468 : lq x_1466.toInt (y96_0.toInt + 1) := lqm (by rw [ex_1466]; have q := tadd h_1349 (⟨by decide, by decide⟩ : rg 1 1 (1 : Int32)) (by decide) (by decide); have r1 := lqe (lqm (by decide) : lq (1 : Int32).toInt 1); omega)
                          refine va_put (D := D) (ci := 11) (v := .int x_1466) (ty := .int) (C := RX12) (T := TX12) (N := 48) hx hb hts k2 tyX12 tyX12_ok nmX12 hown hK.1 hP hD hS 0 rfl rfl 5 (by decide) k3 (fun _ h9 => h9) rfl (by decide +kernel) rfl rfl (Nat.le_of_ble_eq_true rfl) dX12_go_344 (fun H locs hP hD hS => ?_)
                          have hP : va_P D vwCl [(h0, .inr (11, [.int h0_thrown, .ref h0_tape, .int h0_taped, .int h0_size, .int h0_limit, .int x_1466, .int y96_1, .int h0_kind, .int 0, .int h0_sign, .int h0_fault, .int h0_place, .long 0, .int h0_told, .ref h0_now, .ref h0_read, .ref h0_kept, .ref h0_snaps, .ref h0_aside, .ref h0_name, .ref h0_readName, .ref h0_keptName, .ref h0_isKept, .ref h0_onces, .int h0_snapMany, .int h0_lowest, .int h0_highest, .int h0_agreed, .int h0_jurors, .int h0_panelled, .ref h0_inSets, .int h0_surely, .int h0_asked, .ref h0_frees, .int h0_struck, .int h0_beating, .ref h0_text, .int h0_texts, .int h0_seed, .ref h0_line, .ref h0_written, .int h0_lineMany, .int h0_hasWritten, .ref h0_node, .int h0_nodes, .int h0_onesMany, .int h0_within, .int h0_top])), (aI ca h0_tape 940 F_h0_tape)] H := hP
                          have hD : va_D A [(h0, .inr (11, [.int h0_thrown, .ref h0_tape, .int h0_taped, .int h0_size, .int h0_limit, .int x_1466, .int y96_1, .int h0_kind, .int 0, .int h0_sign, .int h0_fault, .int h0_place, .long 0, .int h0_told, .ref h0_now, .ref h0_read, .ref h0_kept, .ref h0_snaps, .ref h0_aside, .ref h0_name, .ref h0_readName, .ref h0_keptName, .ref h0_isKept, .ref h0_onces, .int h0_snapMany, .int h0_lowest, .int h0_highest, .int h0_agreed, .int h0_jurors, .int h0_panelled, .ref h0_inSets, .int h0_surely, .int h0_asked, .ref h0_frees, .int h0_struck, .int h0_beating, .ref h0_text, .int h0_texts, .int h0_seed, .ref h0_line, .ref h0_written, .int h0_lineMany, .int h0_hasWritten, .ref h0_node, .int h0_nodes, .int h0_onesMany, .int h0_within, .int h0_top])), (aI ca h0_tape 940 F_h0_tape)] := hD
                          refine lv_goto (tgt := 215) hx hb dX12_go_347 (by decide) ?_
                          exact J215_945 940 0 1 x_1466 y96_1 0 0 trivial (⟨by decide, by decide⟩ : rg 0 1 (0 : Int32)) (⟨by decide, by decide⟩ : rg 0 1 (1 : Int32)) h_1467 (rlm (by have q0 := lqe l_1468; have q1 := rle py96_0_h0_to; omega)) hy96_1 (rlm (by have q0 := rle py96_1_h0_to; omega)) t96_h0_limit h_1350 (by have q0 := h_1467.1; omega) H locs ls (oPsub hP [0, 1] rfl) (hD.sub [0, 1] (by decide) rfl) hS (lv_sub hl [4, 2, 0] rfl)
                        · skip
                          have o_1469 : rl 1 x_1460 3 := rl_nle c_1463
                          have h_1470 : rg (-940) 2 x_1460 := rl_x o_1469 h_1461 (⟨by decide, by decide⟩ : rg 3 3 (3 : Int32)) (by decide) (by decide)
                          refine lv_aload_n hx hb dX12_go_320 rfl (lv_at hl 4 rfl) ?_
                          refine lv_bipush (v := 10) hx hb dX12_go_321 (by decide) ?_
                          refine lv_aload_n hx hb dX12_go_323 rfl (lv_at hl 4 rfl) ?_
                          refine va_get (D := D) (ci := 11) (v := .int 0) (C := RX12) (T := TX12) (N := 48) hx hb hts k2 hown hK.1 hP 0 rfl rfl 8 (by decide) k5 (fun _ h9 => h9) rfl dX12_go_324 ?_
                          refine lv_imul hx hb dX12_go_327 ?_
                          refine oti 0 (by decide) ?_
                          refine lv_iload hx hb dX12_go_328 (lv_at hl 1 rfl) ?_
                          refine lv_iadd hx hb dX12_go_330 ?_
                          refine lv_topi (fun x_1471 ex_1471 => ?_)
                          have h_1472 : rg 48 57 x_1471 := by rw [ex_1471]; exact rg_add (⟨by decide, by decide⟩ : rg 0 0 (0 : Int32)) h_1369 (by decide) (by decide) (by decide) (by decide)
                          have l_1473 : lq x_1471.toInt (x_1351.toInt) := lqm (by rw [ex_1471]; have q := tadd (⟨by decide, by decide⟩ : rg 0 0 (0 : Int32)) h_1369 (by decide) (by decide); have r0 := lqe (lqm (by decide) : lq (0 : Int32).toInt 0); omega)
                          refine lv_bipush (v := 48) hx hb dX12_go_331 (by decide) ?_
                          refine lv_isub hx hb dX12_go_333 ?_
                          refine lv_topi (fun x_1474 ex_1474 => ?_)
                          have h_1475 : rg 0 9 x_1474 := by rw [ex_1474]; exact rg_sub h_1472 (⟨by decide, by decide⟩ : rg 48 48 (48 : Int32)) (by decide) (by decide) (by decide) (by decide)
                          have l_1476 : lq x_1474.toInt (x_1351.toInt + (-48)) := lqm (by rw [ex_1474]; have q := tsub h_1472 (⟨by decide, by decide⟩ : rg 48 48 (48 : Int32)) (by decide) (by decide); have r0 := lqe l_1473; have r1 := lqe (lqm (by decide) : lq (48 : Int32).toInt 48); omega)
                          refine va_put (D := D) (ci := 11) (v := .int x_1474) (ty := .int) (C := RX12) (T := TX12) (N := 48) hx hb hts k2 tyX12 tyX12_ok nmX12 hown hK.1 hP hD hS 0 rfl rfl 8 (by decide) k5 (fun _ h9 => h9) rfl (by decide +kernel) rfl rfl (Nat.le_of_ble_eq_true rfl) dX12_go_334 (fun H locs hP hD hS => ?_)
                          have hP : va_P D vwCl [(h0, .inr (11, [.int h0_thrown, .ref h0_tape, .int h0_taped, .int h0_size, .int h0_limit, .int y96_0, .int y96_1, .int h0_kind, .int x_1474, .int h0_sign, .int h0_fault, .int h0_place, .long 0, .int h0_told, .ref h0_now, .ref h0_read, .ref h0_kept, .ref h0_snaps, .ref h0_aside, .ref h0_name, .ref h0_readName, .ref h0_keptName, .ref h0_isKept, .ref h0_onces, .int h0_snapMany, .int h0_lowest, .int h0_highest, .int h0_agreed, .int h0_jurors, .int h0_panelled, .ref h0_inSets, .int h0_surely, .int h0_asked, .ref h0_frees, .int h0_struck, .int h0_beating, .ref h0_text, .int h0_texts, .int h0_seed, .ref h0_line, .ref h0_written, .int h0_lineMany, .int h0_hasWritten, .ref h0_node, .int h0_nodes, .int h0_onesMany, .int h0_within, .int h0_top])), (aI ca h0_tape 940 F_h0_tape)] H := hP
                          have hD : va_D A [(h0, .inr (11, [.int h0_thrown, .ref h0_tape, .int h0_taped, .int h0_size, .int h0_limit, .int y96_0, .int y96_1, .int h0_kind, .int x_1474, .int h0_sign, .int h0_fault, .int h0_place, .long 0, .int h0_told, .ref h0_now, .ref h0_read, .ref h0_kept, .ref h0_snaps, .ref h0_aside, .ref h0_name, .ref h0_readName, .ref h0_keptName, .ref h0_isKept, .ref h0_onces, .int h0_snapMany, .int h0_lowest, .int h0_highest, .int h0_agreed, .int h0_jurors, .int h0_panelled, .ref h0_inSets, .int h0_surely, .int h0_asked, .ref h0_frees, .int h0_struck, .int h0_beating, .ref h0_text, .int h0_texts, .int h0_seed, .ref h0_line, .ref h0_written, .int h0_lineMany, .int h0_hasWritten, .ref h0_node, .int h0_nodes, .int h0_onesMany, .int h0_within, .int h0_top])), (aI ca h0_tape 940 F_h0_tape)] := hD
                          refine lv_aload_n hx hb dX12_go_337 rfl (lv_at hl 4 rfl) ?_
                          refine lv_dup hx hb dX12_go_338 rfl ?_
                          refine va_get (D := D) (ci := 11) (v := .int y96_0) (C := RX12) (T := TX12) (N := 48) hx hb hts k2 hown hK.1 hP 0 rfl rfl 5 (by decide) k3 (fun _ h9 => h9) rfl dX12_go_339 ?_
                          refine lv_iconst (v := 1) hx hb dX12_go_342 (by decide) ?_
                          refine lv_iadd hx hb dX12_go_343 ?_
                          refine lv_topi (fun x_1477 ex_1477 => ?_)
                          have h_1478 : rg 1 940 x_1477 := by rw [ex_1477]; exact rg_add h_1349 (⟨by decide, by decide⟩ : rg 1 1 (1 : Int32)) (by decide) (by decide) (by decide) (by decide)
                          have l_1479 : lq x_1477.toInt (y96_0.toInt + 1) := lqm (by rw [ex_1477]; have q := tadd h_1349 (⟨by decide, by decide⟩ : rg 1 1 (1 : Int32)) (by decide) (by decide); have r1 := lqe (lqm (by decide) : lq (1 : Int32).toInt 1); omega)
                          refine va_put (D := D) (ci := 11) (v := .int x_1477) (ty := .int) (C := RX12) (T := TX12) (N := 48) hx hb hts k2 tyX12 tyX12_ok nmX12 hown hK.1 hP hD hS 0 rfl rfl 5 (by decide) k3 (fun _ h9 => h9) rfl (by decide +kernel) rfl rfl (Nat.le_of_ble_eq_true rfl) dX12_go_344 (fun H locs hP hD hS => ?_)
                          have hP : va_P D vwCl [(h0, .inr (11, [.int h0_thrown, .ref h0_tape, .int h0_taped, .int h0_size, .int h0_limit, .int x_1477, .int y96_1, .int h0_kind, .int x_1474, .int h0_sign, .int h0_fault, .int h0_place, .long 0, .int h0_told, .ref h0_now, .ref h0_read, .ref h0_kept, .ref h0_snaps, .ref h0_aside, .ref h0_name, .ref h0_readName, .ref h0_keptName, .ref h0_isKept, .ref h0_onces, .int h0_snapMany, .int h0_lowest, .int h0_highest, .int h0_agreed, .int h0_jurors, .int h0_panelled, .ref h0_inSets, .int h0_surely, .int h0_asked, .ref h0_frees, .int h0_struck, .int h0_beating, .ref h0_text, .int h0_texts, .int h0_seed, .ref h0_line, .ref h0_written, .int h0_lineMany, .int h0_hasWritten, .ref h0_node, .int h0_nodes, .int h0_onesMany, .int h0_within, .int h0_top])), (aI ca h0_tape 940 F_h0_tape)] H := hP
                          have hD : va_D A [(h0, .inr (11, [.int h0_thrown, .ref h0_tape, .int h0_taped, .int h0_size, .int h0_limit, .int x_1477, .int y96_1, .int h0_kind, .int x_1474, .int h0_sign, .int h0_fault, .int h0_place, .long 0, .int h0_told, .ref h0_now, .ref h0_read, .ref h0_kept, .ref h0_snaps, .ref h0_aside, .ref h0_name, .ref h0_readName, .ref h0_keptName, .ref h0_isKept, .ref h0_onces, .int h0_snapMany, .int h0_lowest, .int h0_highest, .int h0_agreed, .int h0_jurors, .int h0_panelled, .ref h0_inSets, .int h0_surely, .int h0_asked, .ref h0_frees, .int h0_struck, .int h0_beating, .ref h0_text, .int h0_texts, .int h0_seed, .ref h0_line, .ref h0_written, .int h0_lineMany, .int h0_hasWritten, .ref h0_node, .int h0_nodes, .int h0_onesMany, .int h0_within, .int h0_top])), (aI ca h0_tape 940 F_h0_tape)] := hD
                          refine lv_goto (tgt := 215) hx hb dX12_go_347 (by decide) ?_
                          exact J215_945 940 0 1 x_1477 y96_1 x_1474 0 trivial (⟨by decide, by decide⟩ : rg 0 1 (0 : Int32)) (⟨by decide, by decide⟩ : rg 0 1 (1 : Int32)) h_1478 (rlm (by have q0 := lqe l_1479; have q1 := rle py96_0_h0_to; omega)) hy96_1 (rlm (by have q0 := rle py96_1_h0_to; omega)) t96_h0_limit h_1350 (by have q0 := h_1478.1; omega) H locs ls (oPsub hP [0, 1] rfl) (hD.sub [0, 1] (by decide) rfl) hS (lv_sub hl [4, 2, 0] rfl)
                      · skip
                        have o_1480 : rl 1 x_1454 7 := rl_nle c_1457
                        have h_1481 : rg (-940) 6 x_1454 := rl_x o_1480 h_1455 (⟨by decide, by decide⟩ : rg 7 7 (7 : Int32)) (by decide) (by decide)
                        refine lv_aload_n hx hb dX12_go_287 rfl (lv_at hl 4 rfl) ?_
                        refine lv_ldc2 (v := 27) hx hb hown k6 dX12_go_288 ?_
                        refine lv_aload_n hx hb dX12_go_291 rfl (lv_at hl 4 rfl) ?_
                        refine va_get (D := D) (ci := 11) (v := .long 0) (C := RX12) (T := TX12) (N := 48) hx hb hts k2 hown hK.1 hP 0 rfl rfl 12 (by decide) k7 (fun _ h9 => h9) rfl dX12_go_292 ?_
                        refine lv_lmul hx hb dX12_go_295 ?_
                        refine otl 0 (by decide +kernel) ?_
                        refine lv_iload hx hb dX12_go_296 (lv_at hl 1 rfl) ?_
                        refine lv_i2l hx hb dX12_go_298 rfl ?_
                        refine lv_topl (fun x_1482 ex_1482 => ?_)
                        refine lv_ladd hx hb dX12_go_299 ?_
                        refine lv_topl (fun x_1483 ex_1483 => ?_)
                        refine lv_ldc2 (v := 96) hx hb hown k8 dX12_go_300 ?_
                        refine lv_lsub hx hb dX12_go_303 ?_
                        refine lv_topl (fun x_1484 ex_1484 => ?_)
                        refine va_put (D := D) (ci := 11) (v := .long x_1484) (ty := .long) (C := RX12) (T := TX12) (N := 48) hx hb hts k2 tyX12 tyX12_ok nmX12 hown hK.1 hP hD hS 0 rfl rfl 12 (by decide) k7 (fun _ h9 => h9) rfl (by decide +kernel) rfl rfl (Nat.le_of_ble_eq_true rfl) dX12_go_304 (fun H locs hP hD hS => ?_)
                        have hP : va_P D vwCl [(h0, .inr (11, [.int h0_thrown, .ref h0_tape, .int h0_taped, .int h0_size, .int h0_limit, .int y96_0, .int y96_1, .int h0_kind, .int 0, .int h0_sign, .int h0_fault, .int h0_place, .long x_1484, .int h0_told, .ref h0_now, .ref h0_read, .ref h0_kept, .ref h0_snaps, .ref h0_aside, .ref h0_name, .ref h0_readName, .ref h0_keptName, .ref h0_isKept, .ref h0_onces, .int h0_snapMany, .int h0_lowest, .int h0_highest, .int h0_agreed, .int h0_jurors, .int h0_panelled, .ref h0_inSets, .int h0_surely, .int h0_asked, .ref h0_frees, .int h0_struck, .int h0_beating, .ref h0_text, .int h0_texts, .int h0_seed, .ref h0_line, .ref h0_written, .int h0_lineMany, .int h0_hasWritten, .ref h0_node, .int h0_nodes, .int h0_onesMany, .int h0_within, .int h0_top])), (aI ca h0_tape 940 F_h0_tape)] H := hP
                        have hD : va_D A [(h0, .inr (11, [.int h0_thrown, .ref h0_tape, .int h0_taped, .int h0_size, .int h0_limit, .int y96_0, .int y96_1, .int h0_kind, .int 0, .int h0_sign, .int h0_fault, .int h0_place, .long x_1484, .int h0_told, .ref h0_now, .ref h0_read, .ref h0_kept, .ref h0_snaps, .ref h0_aside, .ref h0_name, .ref h0_readName, .ref h0_keptName, .ref h0_isKept, .ref h0_onces, .int h0_snapMany, .int h0_lowest, .int h0_highest, .int h0_agreed, .int h0_jurors, .int h0_panelled, .ref h0_inSets, .int h0_surely, .int h0_asked, .ref h0_frees, .int h0_struck, .int h0_beating, .ref h0_text, .int h0_texts, .int h0_seed, .ref h0_line, .ref h0_written, .int h0_lineMany, .int h0_hasWritten, .ref h0_node, .int h0_nodes, .int h0_onesMany, .int h0_within, .int h0_top])), (aI ca h0_tape 940 F_h0_tape)] := hD
                        refine lv_aload_n hx hb dX12_go_307 rfl (lv_at hl 4 rfl) ?_
                        refine va_get (D := D) (ci := 11) (v := .int y96_0) (C := RX12) (T := TX12) (N := 48) hx hb hts k2 hown hK.1 hP 0 rfl rfl 5 (by decide) k3 (fun _ h9 => h9) rfl dX12_go_308 ?_
                        refine lv_aload_n hx hb dX12_go_311 rfl (lv_at hl 4 rfl) ?_
                        refine va_get (D := D) (ci := 11) (v := .int y96_1) (C := RX12) (T := TX12) (N := 48) hx hb hts k2 hown hK.1 hP 0 rfl rfl 6 (by decide) k4 (fun _ h9 => h9) rfl dX12_go_312 ?_
                        refine lv_isub hx hb dX12_go_315 ?_
                        refine lv_topi (fun x_1485 ex_1485 => ?_)
                        have h_1486 : rg (-940) 939 x_1485 := by rw [ex_1485]; exact rg_sub h_1349 hy96_1 (by decide) (by decide) (by decide) (by decide)
                        have l_1487 : lq x_1485.toInt (y96_0.toInt + (-1) * y96_1.toInt) := lqm (by rw [ex_1485]; have q := tsub h_1349 hy96_1 (by decide) (by decide); omega)
                        refine lv_iconst (v := 3) hx hb dX12_go_316 (by decide) ?_
                        refine lv_icmp_ge (tgt := 337) hx hb dX12_go_317 (by decide) (fun c_1488 => ?_) (fun c_1488 => ?_)
                        · skip
                          have o_1489 : rl 0 3 x_1485 := rl_le c_1488
                          have h_1490 : rg 3 939 x_1485 := rl_y o_1489 (⟨by decide, by decide⟩ : rg 3 3 (3 : Int32)) h_1486 (by decide) (by decide)
                          refine lv_aload_n hx hb dX12_go_337 rfl (lv_at hl 4 rfl) ?_
                          refine lv_dup hx hb dX12_go_338 rfl ?_
                          refine va_get (D := D) (ci := 11) (v := .int y96_0) (C := RX12) (T := TX12) (N := 48) hx hb hts k2 hown hK.1 hP 0 rfl rfl 5 (by decide) k3 (fun _ h9 => h9) rfl dX12_go_339 ?_
                          refine lv_iconst (v := 1) hx hb dX12_go_342 (by decide) ?_
                          refine lv_iadd hx hb dX12_go_343 ?_
                          refine lv_topi (fun x_1491 ex_1491 => ?_)
                          have h_1492 : rg 1 940 x_1491 := by rw [ex_1491]; exact rg_add h_1349 (⟨by decide, by decide⟩ : rg 1 1 (1 : Int32)) (by decide) (by decide) (by decide) (by decide)
                          have l_1493 : lq x_1491.toInt (y96_0.toInt + 1) := lqm (by rw [ex_1491]; have q := tadd h_1349 (⟨by decide, by decide⟩ : rg 1 1 (1 : Int32)) (by decide) (by decide); have r1 := lqe (lqm (by decide) : lq (1 : Int32).toInt 1); omega)
                          refine va_put (D := D) (ci := 11) (v := .int x_1491) (ty := .int) (C := RX12) (T := TX12) (N := 48) hx hb hts k2 tyX12 tyX12_ok nmX12 hown hK.1 hP hD hS 0 rfl rfl 5 (by decide) k3 (fun _ h9 => h9) rfl (by decide +kernel) rfl rfl (Nat.le_of_ble_eq_true rfl) dX12_go_344 (fun H locs hP hD hS => ?_)
                          have hP : va_P D vwCl [(h0, .inr (11, [.int h0_thrown, .ref h0_tape, .int h0_taped, .int h0_size, .int h0_limit, .int x_1491, .int y96_1, .int h0_kind, .int 0, .int h0_sign, .int h0_fault, .int h0_place, .long x_1484, .int h0_told, .ref h0_now, .ref h0_read, .ref h0_kept, .ref h0_snaps, .ref h0_aside, .ref h0_name, .ref h0_readName, .ref h0_keptName, .ref h0_isKept, .ref h0_onces, .int h0_snapMany, .int h0_lowest, .int h0_highest, .int h0_agreed, .int h0_jurors, .int h0_panelled, .ref h0_inSets, .int h0_surely, .int h0_asked, .ref h0_frees, .int h0_struck, .int h0_beating, .ref h0_text, .int h0_texts, .int h0_seed, .ref h0_line, .ref h0_written, .int h0_lineMany, .int h0_hasWritten, .ref h0_node, .int h0_nodes, .int h0_onesMany, .int h0_within, .int h0_top])), (aI ca h0_tape 940 F_h0_tape)] H := hP
                          have hD : va_D A [(h0, .inr (11, [.int h0_thrown, .ref h0_tape, .int h0_taped, .int h0_size, .int h0_limit, .int x_1491, .int y96_1, .int h0_kind, .int 0, .int h0_sign, .int h0_fault, .int h0_place, .long x_1484, .int h0_told, .ref h0_now, .ref h0_read, .ref h0_kept, .ref h0_snaps, .ref h0_aside, .ref h0_name, .ref h0_readName, .ref h0_keptName, .ref h0_isKept, .ref h0_onces, .int h0_snapMany, .int h0_lowest, .int h0_highest, .int h0_agreed, .int h0_jurors, .int h0_panelled, .ref h0_inSets, .int h0_surely, .int h0_asked, .ref h0_frees, .int h0_struck, .int h0_beating, .ref h0_text, .int h0_texts, .int h0_seed, .ref h0_line, .ref h0_written, .int h0_lineMany, .int h0_hasWritten, .ref h0_node, .int h0_nodes, .int h0_onesMany, .int h0_within, .int h0_top])), (aI ca h0_tape 940 F_h0_tape)] := hD
                          refine lv_goto (tgt := 215) hx hb dX12_go_347 (by decide) ?_
                          exact J215_945 940 0 1 x_1491 y96_1 0 x_1484 trivial (⟨by decide, by decide⟩ : rg 0 1 (0 : Int32)) (⟨by decide, by decide⟩ : rg 0 1 (1 : Int32)) h_1492 (rlm (by have q0 := lqe l_1493; have q1 := rle py96_0_h0_to; omega)) hy96_1 (rlm (by have q0 := rle py96_1_h0_to; omega)) t96_h0_limit h_1350 (by have q0 := h_1492.1; omega) H locs ls (oPsub hP [0, 1] rfl) (hD.sub [0, 1] (by decide) rfl) hS (lv_sub hl [4, 2, 0] rfl)
                        · skip
                          have o_1494 : rl 1 x_1485 3 := rl_nle c_1488
                          have h_1495 : rg (-940) 2 x_1485 := rl_x o_1494 h_1486 (⟨by decide, by decide⟩ : rg 3 3 (3 : Int32)) (by decide) (by decide)
                          refine lv_aload_n hx hb dX12_go_320 rfl (lv_at hl 4 rfl) ?_
                          refine lv_bipush (v := 10) hx hb dX12_go_321 (by decide) ?_
                          refine lv_aload_n hx hb dX12_go_323 rfl (lv_at hl 4 rfl) ?_
                          refine va_get (D := D) (ci := 11) (v := .int 0) (C := RX12) (T := TX12) (N := 48) hx hb hts k2 hown hK.1 hP 0 rfl rfl 8 (by decide) k5 (fun _ h9 => h9) rfl dX12_go_324 ?_
                          refine lv_imul hx hb dX12_go_327 ?_
                          refine oti 0 (by decide) ?_
                          refine lv_iload hx hb dX12_go_328 (lv_at hl 1 rfl) ?_
                          refine lv_iadd hx hb dX12_go_330 ?_
                          refine lv_topi (fun x_1496 ex_1496 => ?_)
                          have h_1497 : rg 48 57 x_1496 := by rw [ex_1496]; exact rg_add (⟨by decide, by decide⟩ : rg 0 0 (0 : Int32)) h_1369 (by decide) (by decide) (by decide) (by decide)
                          have l_1498 : lq x_1496.toInt (x_1351.toInt) := lqm (by rw [ex_1496]; have q := tadd (⟨by decide, by decide⟩ : rg 0 0 (0 : Int32)) h_1369 (by decide) (by decide); have r0 := lqe (lqm (by decide) : lq (0 : Int32).toInt 0); omega)
                          refine lv_bipush (v := 48) hx hb dX12_go_331 (by decide) ?_
                          refine lv_isub hx hb dX12_go_333 ?_
                          refine lv_topi (fun x_1499 ex_1499 => ?_)
                          have h_1500 : rg 0 9 x_1499 := by rw [ex_1499]; exact rg_sub h_1497 (⟨by decide, by decide⟩ : rg 48 48 (48 : Int32)) (by decide) (by decide) (by decide) (by decide)
                          have l_1501 : lq x_1499.toInt (x_1351.toInt + (-48)) := lqm (by rw [ex_1499]; have q := tsub h_1497 (⟨by decide, by decide⟩ : rg 48 48 (48 : Int32)) (by decide) (by decide); have r0 := lqe l_1498; have r1 := lqe (lqm (by decide) : lq (48 : Int32).toInt 48); omega)
                          refine va_put (D := D) (ci := 11) (v := .int x_1499) (ty := .int) (C := RX12) (T := TX12) (N := 48) hx hb hts k2 tyX12 tyX12_ok nmX12 hown hK.1 hP hD hS 0 rfl rfl 8 (by decide) k5 (fun _ h9 => h9) rfl (by decide +kernel) rfl rfl (Nat.le_of_ble_eq_true rfl) dX12_go_334 (fun H locs hP hD hS => ?_)
                          have hP : va_P D vwCl [(h0, .inr (11, [.int h0_thrown, .ref h0_tape, .int h0_taped, .int h0_size, .int h0_limit, .int y96_0, .int y96_1, .int h0_kind, .int x_1499, .int h0_sign, .int h0_fault, .int h0_place, .long x_1484, .int h0_told, .ref h0_now, .ref h0_read, .ref h0_kept, .ref h0_snaps, .ref h0_aside, .ref h0_name, .ref h0_readName, .ref h0_keptName, .ref h0_isKept, .ref h0_onces, .int h0_snapMany, .int h0_lowest, .int h0_highest, .int h0_agreed, .int h0_jurors, .int h0_panelled, .ref h0_inSets, .int h0_surely, .int h0_asked, .ref h0_frees, .int h0_struck, .int h0_beating, .ref h0_text, .int h0_texts, .int h0_seed, .ref h0_line, .ref h0_written, .int h0_lineMany, .int h0_hasWritten, .ref h0_node, .int h0_nodes, .int h0_onesMany, .int h0_within, .int h0_top])), (aI ca h0_tape 940 F_h0_tape)] H := hP
                          have hD : va_D A [(h0, .inr (11, [.int h0_thrown, .ref h0_tape, .int h0_taped, .int h0_size, .int h0_limit, .int y96_0, .int y96_1, .int h0_kind, .int x_1499, .int h0_sign, .int h0_fault, .int h0_place, .long x_1484, .int h0_told, .ref h0_now, .ref h0_read, .ref h0_kept, .ref h0_snaps, .ref h0_aside, .ref h0_name, .ref h0_readName, .ref h0_keptName, .ref h0_isKept, .ref h0_onces, .int h0_snapMany, .int h0_lowest, .int h0_highest, .int h0_agreed, .int h0_jurors, .int h0_panelled, .ref h0_inSets, .int h0_surely, .int h0_asked, .ref h0_frees, .int h0_struck, .int h0_beating, .ref h0_text, .int h0_texts, .int h0_seed, .ref h0_line, .ref h0_written, .int h0_lineMany, .int h0_hasWritten, .ref h0_node, .int h0_nodes, .int h0_onesMany, .int h0_within, .int h0_top])), (aI ca h0_tape 940 F_h0_tape)] := hD
                          refine lv_aload_n hx hb dX12_go_337 rfl (lv_at hl 4 rfl) ?_
                          refine lv_dup hx hb dX12_go_338 rfl ?_
                          refine va_get (D := D) (ci := 11) (v := .int y96_0) (C := RX12) (T := TX12) (N := 48) hx hb hts k2 hown hK.1 hP 0 rfl rfl 5 (by decide) k3 (fun _ h9 => h9) rfl dX12_go_339 ?_
                          refine lv_iconst (v := 1) hx hb dX12_go_342 (by decide) ?_
                          refine lv_iadd hx hb dX12_go_343 ?_
                          refine lv_topi (fun x_1502 ex_1502 => ?_)
                          have h_1503 : rg 1 940 x_1502 := by rw [ex_1502]; exact rg_add h_1349 (⟨by decide, by decide⟩ : rg 1 1 (1 : Int32)) (by decide) (by decide) (by decide) (by decide)
                          have l_1504 : lq x_1502.toInt (y96_0.toInt + 1) := lqm (by rw [ex_1502]; have q := tadd h_1349 (⟨by decide, by decide⟩ : rg 1 1 (1 : Int32)) (by decide) (by decide); have r1 := lqe (lqm (by decide) : lq (1 : Int32).toInt 1); omega)
                          refine va_put (D := D) (ci := 11) (v := .int x_1502) (ty := .int) (C := RX12) (T := TX12) (N := 48) hx hb hts k2 tyX12 tyX12_ok nmX12 hown hK.1 hP hD hS 0 rfl rfl 5 (by decide) k3 (fun _ h9 => h9) rfl (by decide +kernel) rfl rfl (Nat.le_of_ble_eq_true rfl) dX12_go_344 (fun H locs hP hD hS => ?_)
                          have hP : va_P D vwCl [(h0, .inr (11, [.int h0_thrown, .ref h0_tape, .int h0_taped, .int h0_size, .int h0_limit, .int x_1502, .int y96_1, .int h0_kind, .int x_1499, .int h0_sign, .int h0_fault, .int h0_place, .long x_1484, .int h0_told, .ref h0_now, .ref h0_read, .ref h0_kept, .ref h0_snaps, .ref h0_aside, .ref h0_name, .ref h0_readName, .ref h0_keptName, .ref h0_isKept, .ref h0_onces, .int h0_snapMany, .int h0_lowest, .int h0_highest, .int h0_agreed, .int h0_jurors, .int h0_panelled, .ref h0_inSets, .int h0_surely, .int h0_asked, .ref h0_frees, .int h0_struck, .int h0_beating, .ref h0_text, .int h0_texts, .int h0_seed, .ref h0_line, .ref h0_written, .int h0_lineMany, .int h0_hasWritten, .ref h0_node, .int h0_nodes, .int h0_onesMany, .int h0_within, .int h0_top])), (aI ca h0_tape 940 F_h0_tape)] H := hP
                          have hD : va_D A [(h0, .inr (11, [.int h0_thrown, .ref h0_tape, .int h0_taped, .int h0_size, .int h0_limit, .int x_1502, .int y96_1, .int h0_kind, .int x_1499, .int h0_sign, .int h0_fault, .int h0_place, .long x_1484, .int h0_told, .ref h0_now, .ref h0_read, .ref h0_kept, .ref h0_snaps, .ref h0_aside, .ref h0_name, .ref h0_readName, .ref h0_keptName, .ref h0_isKept, .ref h0_onces, .int h0_snapMany, .int h0_lowest, .int h0_highest, .int h0_agreed, .int h0_jurors, .int h0_panelled, .ref h0_inSets, .int h0_surely, .int h0_asked, .ref h0_frees, .int h0_struck, .int h0_beating, .ref h0_text, .int h0_texts, .int h0_seed, .ref h0_line, .ref h0_written, .int h0_lineMany, .int h0_hasWritten, .ref h0_node, .int h0_nodes, .int h0_onesMany, .int h0_within, .int h0_top])), (aI ca h0_tape 940 F_h0_tape)] := hD
                          refine lv_goto (tgt := 215) hx hb dX12_go_347 (by decide) ?_
                          exact J215_945 940 0 1 x_1502 y96_1 x_1499 x_1484 trivial (⟨by decide, by decide⟩ : rg 0 1 (0 : Int32)) (⟨by decide, by decide⟩ : rg 0 1 (1 : Int32)) h_1503 (rlm (by have q0 := lqe l_1504; have q1 := rle py96_0_h0_to; omega)) hy96_1 (rlm (by have q0 := rle py96_1_h0_to; omega)) t96_h0_limit h_1350 (by have q0 := h_1503.1; omega) H locs ls (oPsub hP [0, 1] rfl) (hD.sub [0, 1] (by decide) rfl) hS (lv_sub hl [4, 2, 0] rfl)
                    · skip
                      subst h_1450
                      exact (rg_no h_1451 h_1369 (by decide)).elim
                    · skip
                      subst h_1452
                      exact (rg_no h_1453 h_1369 (by decide)).elim
              · skip
                subst h_1424
                exact (rg_no h_1425 h_1369 (by decide)).elim
              · skip
                subst h_1426
                exact (rg_no h_1427 h_1369 (by decide)).elim
          · skip
            subst h_1406
            exact (rg_no h_1407 h_1369 (by decide)).elim
          · skip
            subst h_1408
            exact (rg_no h_1409 h_1369 (by decide)).elim
      · skip
        subst h_1357
        have h_1505 : rg 123 255 x_1351 := rg_i h_1358 h_1352 (by decide) (by decide)
        refine lv_if_ne (tgt := 198) hx hb dX12_go_127 (by decide) (fun c => absurd (by decide) c) (fun _ => ?_)
        refine lv_iload_n hx hb dX12_go_130 rfl (lv_at hl 0 rfl) ?_
        refine oC_i (Wc := []) (Wr := [(h0, .inr (11, [.int h0_thrown, .ref h0_tape, .int h0_taped, .int h0_size, .int h0_limit, .int y96_0, .int y96_1, .int h0_kind, .int h0_number, .int h0_sign, .int h0_fault, .int h0_place, .long h0_word, .int h0_told, .ref h0_now, .ref h0_read, .ref h0_kept, .ref h0_snaps, .ref h0_aside, .ref h0_name, .ref h0_readName, .ref h0_keptName, .ref h0_isKept, .ref h0_onces, .int h0_snapMany, .int h0_lowest, .int h0_highest, .int h0_agreed, .int h0_jurors, .int h0_panelled, .ref h0_inSets, .int h0_surely, .int h0_asked, .ref h0_frees, .int h0_struck, .int h0_beating, .ref h0_text, .int h0_texts, .int h0_seed, .ref h0_line, .ref h0_written, .int h0_lineMany, .int h0_hasWritten, .ref h0_node, .int h0_nodes, .int h0_onesMany, .int h0_within, .int h0_top])), (aI ca h0_tape 940 F_h0_tape)]) (va_runS (As := [.int x_1351]) (rest := []) ⟨hx, hb, hml, hown, hts⟩ (s_X12_isDigit l D ca H.size x_1351) (va_cwS 1 hts gX12_go_X12_isDigit rfl rfl rfl (by decide +kernel) ⟨Nat.le_of_ble_eq_true rfl, Nat.le_of_ble_eq_true rfl⟩) (oPS hK hP hD [] rfl (by decide)) rfl rfl hl.1 rfl (lv_room (Nat.le_of_ble_eq_true rfl)) dX12_go_131 ⟨Nat.le_of_ble_eq_true rfl, Nat.le_of_ble_eq_true rfl⟩) hP hD hS hA [] [0, 1] rfl rfl (by decide) (by decide) (fun r_1506 u H locs w_1507 hP hD hS => ?_)
        obtain ⟨⟩ := u
        have hP : va_P D vwCl [(h0, .inr (11, [.int h0_thrown, .ref h0_tape, .int h0_taped, .int h0_size, .int h0_limit, .int y96_0, .int y96_1, .int h0_kind, .int h0_number, .int h0_sign, .int h0_fault, .int h0_place, .long h0_word, .int h0_told, .ref h0_now, .ref h0_read, .ref h0_kept, .ref h0_snaps, .ref h0_aside, .ref h0_name, .ref h0_readName, .ref h0_keptName, .ref h0_isKept, .ref h0_onces, .int h0_snapMany, .int h0_lowest, .int h0_highest, .int h0_agreed, .int h0_jurors, .int h0_panelled, .ref h0_inSets, .int h0_surely, .int h0_asked, .ref h0_frees, .int h0_struck, .int h0_beating, .ref h0_text, .int h0_texts, .int h0_seed, .ref h0_line, .ref h0_written, .int h0_lineMany, .int h0_hasWritten, .ref h0_node, .int h0_nodes, .int h0_onesMany, .int h0_within, .int h0_top])), (aI ca h0_tape 940 F_h0_tape)] H := hP
        have hD : va_D A [(h0, .inr (11, [.int h0_thrown, .ref h0_tape, .int h0_taped, .int h0_size, .int h0_limit, .int y96_0, .int y96_1, .int h0_kind, .int h0_number, .int h0_sign, .int h0_fault, .int h0_place, .long h0_word, .int h0_told, .ref h0_now, .ref h0_read, .ref h0_kept, .ref h0_snaps, .ref h0_aside, .ref h0_name, .ref h0_readName, .ref h0_keptName, .ref h0_isKept, .ref h0_onces, .int h0_snapMany, .int h0_lowest, .int h0_highest, .int h0_agreed, .int h0_jurors, .int h0_panelled, .ref h0_inSets, .int h0_surely, .int h0_asked, .ref h0_frees, .int h0_struck, .int h0_beating, .ref h0_text, .int h0_texts, .int h0_seed, .ref h0_line, .ref h0_written, .int h0_lineMany, .int h0_hasWritten, .ref h0_node, .int h0_nodes, .int h0_onesMany, .int h0_within, .int h0_top])), (aI ca h0_tape 940 F_h0_tape)] := hD
        try dsimp only at w_1507
        rcases w_1507 with ⟨h_1508, h_1509⟩ | ⟨h_1510, h_1511⟩ | ⟨h_1512, h_1513⟩
        · skip
          subst h_1508
          exact (rg_no h_1509 h_1505 (by decide)).elim
        · skip
          subst h_1510
          refine lv_if_ne (tgt := 198) hx hb dX12_go_134 (by decide) (fun c => absurd (by decide) c) (fun _ => ?_)
          refine lv_aload_n hx hb dX12_go_137 rfl (lv_at hl 1 rfl) ?_
          refine lv_iload_n hx hb dX12_go_138 rfl (lv_at hl 0 rfl) ?_
          refine lv_bipush (v := 59) hx hb dX12_go_139 (by decide) ?_
          refine lv_icmp_eq (tgt := 174) hx hb dX12_go_141 (by decide) (fun c => absurd c (no_eq h_1505 (⟨by decide, by decide⟩ : rg 59 59 (59 : Int32)) (by decide))) (fun _ => ?_)
          refine lv_iload_n hx hb dX12_go_144 rfl (lv_at hl 0 rfl) ?_
          refine lv_bipush (v := 60) hx hb dX12_go_145 (by decide) ?_
          refine lv_icmp_eq (tgt := 174) hx hb dX12_go_147 (by decide) (fun c => absurd c (no_eq h_1505 (⟨by decide, by decide⟩ : rg 60 60 (60 : Int32)) (by decide))) (fun _ => ?_)
          refine lv_iload_n hx hb dX12_go_150 rfl (lv_at hl 0 rfl) ?_
          refine lv_bipush (v := 61) hx hb dX12_go_151 (by decide) ?_
          refine lv_icmp_eq (tgt := 174) hx hb dX12_go_153 (by decide) (fun c => absurd c (no_eq h_1505 (⟨by decide, by decide⟩ : rg 61 61 (61 : Int32)) (by decide))) (fun _ => ?_)
          refine lv_iload_n hx hb dX12_go_156 rfl (lv_at hl 0 rfl) ?_
          refine lv_bipush (v := 62) hx hb dX12_go_157 (by decide) ?_
          refine lv_icmp_eq (tgt := 174) hx hb dX12_go_159 (by decide) (fun c => absurd c (no_eq h_1505 (⟨by decide, by decide⟩ : rg 62 62 (62 : Int32)) (by decide))) (fun _ => ?_)
          refine lv_iload_n hx hb dX12_go_162 rfl (lv_at hl 0 rfl) ?_
          refine lv_bipush (v := 40) hx hb dX12_go_163 (by decide) ?_
          refine lv_icmp_eq (tgt := 174) hx hb dX12_go_165 (by decide) (fun c => absurd c (no_eq h_1505 (⟨by decide, by decide⟩ : rg 40 40 (40 : Int32)) (by decide))) (fun _ => ?_)
          refine lv_iload_n hx hb dX12_go_168 rfl (lv_at hl 0 rfl) ?_
          refine lv_bipush (v := 41) hx hb dX12_go_169 (by decide) ?_
          refine lv_icmp_ne (tgt := 178) hx hb dX12_go_171 (by decide) (fun _ => ?_) (fun c => absurd c (no_eq h_1505 (⟨by decide, by decide⟩ : rg 41 41 (41 : Int32)) (by decide)))
          refine lv_iconst (v := 1) hx hb dX12_go_178 (by decide) ?_
          exact J179_1341 x_1351 1 y96_0 y96_1 (rgw (lo := 0) (hi := 255) h_1505 (by decide) (by decide)) (⟨by decide, by decide⟩ : rg 1 4 (1 : Int32)) h_1349 (rlm (by have q0 := rle py96_0_h0_to; omega)) (rlm (by have q0 := rle o_1348; omega)) hy96_1 (rlm (by have q0 := rle py96_1_h0_to; omega)) t96_h0_limit h_1350 H locs ls (oPsub hP [0, 1] rfl) (hD.sub [0, 1] (by decide) rfl) hS (lv_sub hl [1, 0] rfl)
        · skip
          subst h_1512
          exact (rg_no h_1513 h_1505 (by decide)).elim
      · skip
        subst h_1359
        refine lv_if_ne (tgt := 198) hx hb dX12_go_127 (by decide) (fun _ => ?_) (fun c => absurd c (by decide))
        refine lv_iload_n hx hb dX12_go_198 rfl (lv_at hl 0 rfl) ?_
        refine oC_i (Wc := []) (Wr := [(h0, .inr (11, [.int h0_thrown, .ref h0_tape, .int h0_taped, .int h0_size, .int h0_limit, .int y96_0, .int y96_1, .int h0_kind, .int h0_number, .int h0_sign, .int h0_fault, .int h0_place, .long h0_word, .int h0_told, .ref h0_now, .ref h0_read, .ref h0_kept, .ref h0_snaps, .ref h0_aside, .ref h0_name, .ref h0_readName, .ref h0_keptName, .ref h0_isKept, .ref h0_onces, .int h0_snapMany, .int h0_lowest, .int h0_highest, .int h0_agreed, .int h0_jurors, .int h0_panelled, .ref h0_inSets, .int h0_surely, .int h0_asked, .ref h0_frees, .int h0_struck, .int h0_beating, .ref h0_text, .int h0_texts, .int h0_seed, .ref h0_line, .ref h0_written, .int h0_lineMany, .int h0_hasWritten, .ref h0_node, .int h0_nodes, .int h0_onesMany, .int h0_within, .int h0_top])), (aI ca h0_tape 940 F_h0_tape)]) (va_runS (As := [.int x_1351]) (rest := []) ⟨hx, hb, hml, hown, hts⟩ (s_X12_isLetter l D ca H.size x_1351) (va_cwS 1 hts gX12_go_X12_isLetter rfl rfl rfl (by decide +kernel) ⟨Nat.le_of_ble_eq_true rfl, Nat.le_of_ble_eq_true rfl⟩) (oPS hK hP hD [] rfl (by decide)) rfl rfl hl.1 rfl (lv_room (Nat.le_of_ble_eq_true rfl)) dX12_go_199 ⟨Nat.le_of_ble_eq_true rfl, Nat.le_of_ble_eq_true rfl⟩) hP hD hS hA [] [0, 1] rfl rfl (by decide) (by decide) (fun r_1514 u H locs w_1515 hP hD hS => ?_)
        obtain ⟨⟩ := u
        have hP : va_P D vwCl [(h0, .inr (11, [.int h0_thrown, .ref h0_tape, .int h0_taped, .int h0_size, .int h0_limit, .int y96_0, .int y96_1, .int h0_kind, .int h0_number, .int h0_sign, .int h0_fault, .int h0_place, .long h0_word, .int h0_told, .ref h0_now, .ref h0_read, .ref h0_kept, .ref h0_snaps, .ref h0_aside, .ref h0_name, .ref h0_readName, .ref h0_keptName, .ref h0_isKept, .ref h0_onces, .int h0_snapMany, .int h0_lowest, .int h0_highest, .int h0_agreed, .int h0_jurors, .int h0_panelled, .ref h0_inSets, .int h0_surely, .int h0_asked, .ref h0_frees, .int h0_struck, .int h0_beating, .ref h0_text, .int h0_texts, .int h0_seed, .ref h0_line, .ref h0_written, .int h0_lineMany, .int h0_hasWritten, .ref h0_node, .int h0_nodes, .int h0_onesMany, .int h0_within, .int h0_top])), (aI ca h0_tape 940 F_h0_tape)] H := hP
        have hD : va_D A [(h0, .inr (11, [.int h0_thrown, .ref h0_tape, .int h0_taped, .int h0_size, .int h0_limit, .int y96_0, .int y96_1, .int h0_kind, .int h0_number, .int h0_sign, .int h0_fault, .int h0_place, .long h0_word, .int h0_told, .ref h0_now, .ref h0_read, .ref h0_kept, .ref h0_snaps, .ref h0_aside, .ref h0_name, .ref h0_readName, .ref h0_keptName, .ref h0_isKept, .ref h0_onces, .int h0_snapMany, .int h0_lowest, .int h0_highest, .int h0_agreed, .int h0_jurors, .int h0_panelled, .ref h0_inSets, .int h0_surely, .int h0_asked, .ref h0_frees, .int h0_struck, .int h0_beating, .ref h0_text, .int h0_texts, .int h0_seed, .ref h0_line, .ref h0_written, .int h0_lineMany, .int h0_hasWritten, .ref h0_node, .int h0_nodes, .int h0_onesMany, .int h0_within, .int h0_top])), (aI ca h0_tape 940 F_h0_tape)] := hD
        try dsimp only at w_1515
        rcases w_1515 with ⟨h_1516, h_1517⟩ | ⟨h_1518, h_1519⟩ | ⟨h_1520, h_1521⟩
        · skip
          subst h_1516
          exact (rg_no h_1517 h_1360 (by decide)).elim
        · skip
          subst h_1518
          exact (rg_no h_1519 h_1360 (by decide)).elim
        · skip
          subst h_1520
          refine lv_istore_n (lv' := [(2, .int 1), (1, .int x_1351), (0, .ref h0)]) hx hb dX12_go_202 rfl hl (by decide) rfl (fun ls hl => ?_)
          refine lv_iconst (v := 1) hx hb dX12_go_203 (by decide) ?_
          refine lv_istore_n (lv' := [(3, .int 1), (2, .int 1), (1, .int x_1351), (0, .ref h0)]) hx hb dX12_go_204 rfl hl (by decide) rfl (fun ls hl => ?_)
          refine lv_aload_n hx hb dX12_go_205 rfl (lv_at hl 3 rfl) ?_
          refine lv_lconst (v := 0) hx hb dX12_go_206 (by decide) ?_
          refine va_put (D := D) (ci := 11) (v := .long 0) (ty := .long) (C := RX12) (T := TX12) (N := 48) hx hb hts k2 tyX12 tyX12_ok nmX12 hown hK.1 hP hD hS 0 rfl rfl 12 (by decide) k7 (fun _ h9 => h9) rfl (by decide +kernel) rfl rfl (Nat.le_of_ble_eq_true rfl) dX12_go_207 (fun H locs hP hD hS => ?_)
          have hP : va_P D vwCl [(h0, .inr (11, [.int h0_thrown, .ref h0_tape, .int h0_taped, .int h0_size, .int h0_limit, .int y96_0, .int y96_1, .int h0_kind, .int h0_number, .int h0_sign, .int h0_fault, .int h0_place, .long 0, .int h0_told, .ref h0_now, .ref h0_read, .ref h0_kept, .ref h0_snaps, .ref h0_aside, .ref h0_name, .ref h0_readName, .ref h0_keptName, .ref h0_isKept, .ref h0_onces, .int h0_snapMany, .int h0_lowest, .int h0_highest, .int h0_agreed, .int h0_jurors, .int h0_panelled, .ref h0_inSets, .int h0_surely, .int h0_asked, .ref h0_frees, .int h0_struck, .int h0_beating, .ref h0_text, .int h0_texts, .int h0_seed, .ref h0_line, .ref h0_written, .int h0_lineMany, .int h0_hasWritten, .ref h0_node, .int h0_nodes, .int h0_onesMany, .int h0_within, .int h0_top])), (aI ca h0_tape 940 F_h0_tape)] H := hP
          have hD : va_D A [(h0, .inr (11, [.int h0_thrown, .ref h0_tape, .int h0_taped, .int h0_size, .int h0_limit, .int y96_0, .int y96_1, .int h0_kind, .int h0_number, .int h0_sign, .int h0_fault, .int h0_place, .long 0, .int h0_told, .ref h0_now, .ref h0_read, .ref h0_kept, .ref h0_snaps, .ref h0_aside, .ref h0_name, .ref h0_readName, .ref h0_keptName, .ref h0_isKept, .ref h0_onces, .int h0_snapMany, .int h0_lowest, .int h0_highest, .int h0_agreed, .int h0_jurors, .int h0_panelled, .ref h0_inSets, .int h0_surely, .int h0_asked, .ref h0_frees, .int h0_struck, .int h0_beating, .ref h0_text, .int h0_texts, .int h0_seed, .ref h0_line, .ref h0_written, .int h0_lineMany, .int h0_hasWritten, .ref h0_node, .int h0_nodes, .int h0_onesMany, .int h0_within, .int h0_top])), (aI ca h0_tape 940 F_h0_tape)] := hD
          refine lv_aload_n hx hb dX12_go_210 rfl (lv_at hl 3 rfl) ?_
          refine lv_iconst (v := 0) hx hb dX12_go_211 (by decide) ?_
          refine va_put (D := D) (ci := 11) (v := .int 0) (ty := .int) (C := RX12) (T := TX12) (N := 48) hx hb hts k2 tyX12 tyX12_ok nmX12 hown hK.1 hP hD hS 0 rfl rfl 8 (by decide) k5 (fun _ h9 => h9) rfl (by decide +kernel) rfl rfl (Nat.le_of_ble_eq_true rfl) dX12_go_212 (fun H locs hP hD hS => ?_)
          have hP : va_P D vwCl [(h0, .inr (11, [.int h0_thrown, .ref h0_tape, .int h0_taped, .int h0_size, .int h0_limit, .int y96_0, .int y96_1, .int h0_kind, .int 0, .int h0_sign, .int h0_fault, .int h0_place, .long 0, .int h0_told, .ref h0_now, .ref h0_read, .ref h0_kept, .ref h0_snaps, .ref h0_aside, .ref h0_name, .ref h0_readName, .ref h0_keptName, .ref h0_isKept, .ref h0_onces, .int h0_snapMany, .int h0_lowest, .int h0_highest, .int h0_agreed, .int h0_jurors, .int h0_panelled, .ref h0_inSets, .int h0_surely, .int h0_asked, .ref h0_frees, .int h0_struck, .int h0_beating, .ref h0_text, .int h0_texts, .int h0_seed, .ref h0_line, .ref h0_written, .int h0_lineMany, .int h0_hasWritten, .ref h0_node, .int h0_nodes, .int h0_onesMany, .int h0_within, .int h0_top])), (aI ca h0_tape 940 F_h0_tape)] H := hP
          have hD : va_D A [(h0, .inr (11, [.int h0_thrown, .ref h0_tape, .int h0_taped, .int h0_size, .int h0_limit, .int y96_0, .int y96_1, .int h0_kind, .int 0, .int h0_sign, .int h0_fault, .int h0_place, .long 0, .int h0_told, .ref h0_now, .ref h0_read, .ref h0_kept, .ref h0_snaps, .ref h0_aside, .ref h0_name, .ref h0_readName, .ref h0_keptName, .ref h0_isKept, .ref h0_onces, .int h0_snapMany, .int h0_lowest, .int h0_highest, .int h0_agreed, .int h0_jurors, .int h0_panelled, .ref h0_inSets, .int h0_surely, .int h0_asked, .ref h0_frees, .int h0_struck, .int h0_beating, .ref h0_text, .int h0_texts, .int h0_seed, .ref h0_line, .ref h0_written, .int h0_lineMany, .int h0_hasWritten, .ref h0_node, .int h0_nodes, .int h0_onesMany, .int h0_within, .int h0_top])), (aI ca h0_tape 940 F_h0_tape)] := hD
          refine lv_aload_n hx hb dX12_go_215 rfl (lv_at hl 3 rfl) ?_
          refine lv_aload_n hx hb dX12_go_216 rfl (lv_at hl 3 rfl) ?_
          refine va_get (D := D) (ci := 11) (v := .int y96_0) (C := RX12) (T := TX12) (N := 48) hx hb hts k2 hown hK.1 hP 0 rfl rfl 5 (by decide) k3 (fun _ h9 => h9) rfl dX12_go_217 ?_
          refine oC_i (Wc := [(h0, .inr (11, [.int h0_thrown, .ref h0_tape, .int h0_taped, .int h0_size, .int h0_limit, .int y96_0, .int y96_1, .int h0_kind, .int 0, .int h0_sign, .int h0_fault, .int h0_place, .long 0, .int h0_told, .ref h0_now, .ref h0_read, .ref h0_kept, .ref h0_snaps, .ref h0_aside, .ref h0_name, .ref h0_readName, .ref h0_keptName, .ref h0_isKept, .ref h0_onces, .int h0_snapMany, .int h0_lowest, .int h0_highest, .int h0_agreed, .int h0_jurors, .int h0_panelled, .ref h0_inSets, .int h0_surely, .int h0_asked, .ref h0_frees, .int h0_struck, .int h0_beating, .ref h0_text, .int h0_texts, .int h0_seed, .ref h0_line, .ref h0_written, .int h0_lineMany, .int h0_hasWritten, .ref h0_node, .int h0_nodes, .int h0_onesMany, .int h0_within, .int h0_top])), (aI ca h0_tape 940 F_h0_tape)]) (Wr := []) (va_runV (As := [.int y96_0]) (rest := []) ⟨hx, hb, hml, hown, hts⟩ (s_X12_tapeAt l D ca H.size h0 y96_0 h0_thrown h0_tape h0_taped h0_size h0_limit y96_0 y96_1 h0_kind 0 h0_sign h0_fault h0_place 0 h0_told h0_now h0_read h0_kept h0_snaps h0_aside h0_name h0_readName h0_keptName h0_isKept h0_onces h0_snapMany h0_lowest h0_highest h0_agreed h0_jurors h0_panelled h0_inSets h0_surely h0_asked h0_frees h0_struck h0_beating h0_text h0_texts h0_seed h0_line h0_written h0_lineMany h0_hasWritten h0_node h0_nodes h0_onesMany h0_within h0_top F_h0_tape (rgw (lo := 0) (hi := 940) h_1349 (by decide) (by decide)) i_h0_taped (rgw (lo := 0) (hi := 940) h_1350 (by decide) (by decide)) (rgw (lo := 0) (hi := 940) h_1349 (by decide) (by decide)) i_h0_kind i_h0_snapMany i_h0_texts i_h0_lineMany i_h0_hasWritten i_h0_nodes i_h0_onesMany (sg_w (a' := 0) (b' := 940) (lo' := 0) (hi' := 255) s_h0_tape_0 (by decide) (by decide) (by decide) (by decide))) (cwV 1 hts gX12_go_X12_tapeAt rfl rfl rfl (by decide +kernel) ⟨Nat.le_of_ble_eq_true rfl, Nat.le_of_ble_eq_true rfl⟩) (oPV (C := RX12) hK hP hD [0, 1] rfl (by decide) 0 rfl (ci := 11) rfl rfl) rfl rfl hl.1 rfl (lv_room (Nat.le_of_ble_eq_true rfl)) dX12_go_220 ⟨Nat.le_of_ble_eq_true rfl, Nat.le_of_ble_eq_true rfl⟩) hP hD hS hA [0, 1] [] rfl rfl (by decide) (by decide) (fun r_1522 u H locs w_1523 hP hD hS => ?_)
          obtain ⟨⟩ := u
          have hP : va_P D vwCl [(h0, .inr (11, [.int h0_thrown, .ref h0_tape, .int h0_taped, .int h0_size, .int h0_limit, .int y96_0, .int y96_1, .int h0_kind, .int 0, .int h0_sign, .int h0_fault, .int h0_place, .long 0, .int h0_told, .ref h0_now, .ref h0_read, .ref h0_kept, .ref h0_snaps, .ref h0_aside, .ref h0_name, .ref h0_readName, .ref h0_keptName, .ref h0_isKept, .ref h0_onces, .int h0_snapMany, .int h0_lowest, .int h0_highest, .int h0_agreed, .int h0_jurors, .int h0_panelled, .ref h0_inSets, .int h0_surely, .int h0_asked, .ref h0_frees, .int h0_struck, .int h0_beating, .ref h0_text, .int h0_texts, .int h0_seed, .ref h0_line, .ref h0_written, .int h0_lineMany, .int h0_hasWritten, .ref h0_node, .int h0_nodes, .int h0_onesMany, .int h0_within, .int h0_top])), (aI ca h0_tape 940 F_h0_tape)] H := hP
          have hD : va_D A [(h0, .inr (11, [.int h0_thrown, .ref h0_tape, .int h0_taped, .int h0_size, .int h0_limit, .int y96_0, .int y96_1, .int h0_kind, .int 0, .int h0_sign, .int h0_fault, .int h0_place, .long 0, .int h0_told, .ref h0_now, .ref h0_read, .ref h0_kept, .ref h0_snaps, .ref h0_aside, .ref h0_name, .ref h0_readName, .ref h0_keptName, .ref h0_isKept, .ref h0_onces, .int h0_snapMany, .int h0_lowest, .int h0_highest, .int h0_agreed, .int h0_jurors, .int h0_panelled, .ref h0_inSets, .int h0_surely, .int h0_asked, .ref h0_frees, .int h0_struck, .int h0_beating, .ref h0_text, .int h0_texts, .int h0_seed, .ref h0_line, .ref h0_written, .int h0_lineMany, .int h0_hasWritten, .ref h0_node, .int h0_nodes, .int h0_onesMany, .int h0_within, .int h0_top])), (aI ca h0_tape 940 F_h0_tape)] := hD
          try dsimp only at w_1523
          rcases w_1523 with ⟨h_1524, h_1525⟩ | ⟨h_1526, h_1527, h_1528, h_1529, h_1530⟩
          · skip
            subst h_1524
            exact False.elim (by have z0 := rle h_1525; have q0 := rle o_1348; omega)
          · skip
            have h_1531 := (h_1526.trans ex_1351.symm).symm
            subst h_1531
            refine oC_i (Wc := []) (Wr := [(h0, .inr (11, [.int h0_thrown, .ref h0_tape, .int h0_taped, .int h0_size, .int h0_limit, .int y96_0, .int y96_1, .int h0_kind, .int 0, .int h0_sign, .int h0_fault, .int h0_place, .long 0, .int h0_told, .ref h0_now, .ref h0_read, .ref h0_kept, .ref h0_snaps, .ref h0_aside, .ref h0_name, .ref h0_readName, .ref h0_keptName, .ref h0_isKept, .ref h0_onces, .int h0_snapMany, .int h0_lowest, .int h0_highest, .int h0_agreed, .int h0_jurors, .int h0_panelled, .ref h0_inSets, .int h0_surely, .int h0_asked, .ref h0_frees, .int h0_struck, .int h0_beating, .ref h0_text, .int h0_texts, .int h0_seed, .ref h0_line, .ref h0_written, .int h0_lineMany, .int h0_hasWritten, .ref h0_node, .int h0_nodes, .int h0_onesMany, .int h0_within, .int h0_top])), (aI ca h0_tape 940 F_h0_tape)]) (va_runS (As := [.int x_1351]) (rest := []) ⟨hx, hb, hml, hown, hts⟩ (s_X12_isLetter l D ca H.size x_1351) (va_cwS 1 hts gX12_go_X12_isLetter rfl rfl rfl (by decide +kernel) ⟨Nat.le_of_ble_eq_true rfl, Nat.le_of_ble_eq_true rfl⟩) (oPS hK hP hD [] rfl (by decide)) rfl rfl hl.1 rfl (lv_room (Nat.le_of_ble_eq_true rfl)) dX12_go_223 ⟨Nat.le_of_ble_eq_true rfl, Nat.le_of_ble_eq_true rfl⟩) hP hD hS hA [] [0, 1] rfl rfl (by decide) (by decide) (fun r_1532 u H locs w_1533 hP hD hS => ?_)
            obtain ⟨⟩ := u
            have hP : va_P D vwCl [(h0, .inr (11, [.int h0_thrown, .ref h0_tape, .int h0_taped, .int h0_size, .int h0_limit, .int y96_0, .int y96_1, .int h0_kind, .int 0, .int h0_sign, .int h0_fault, .int h0_place, .long 0, .int h0_told, .ref h0_now, .ref h0_read, .ref h0_kept, .ref h0_snaps, .ref h0_aside, .ref h0_name, .ref h0_readName, .ref h0_keptName, .ref h0_isKept, .ref h0_onces, .int h0_snapMany, .int h0_lowest, .int h0_highest, .int h0_agreed, .int h0_jurors, .int h0_panelled, .ref h0_inSets, .int h0_surely, .int h0_asked, .ref h0_frees, .int h0_struck, .int h0_beating, .ref h0_text, .int h0_texts, .int h0_seed, .ref h0_line, .ref h0_written, .int h0_lineMany, .int h0_hasWritten, .ref h0_node, .int h0_nodes, .int h0_onesMany, .int h0_within, .int h0_top])), (aI ca h0_tape 940 F_h0_tape)] H := hP
            have hD : va_D A [(h0, .inr (11, [.int h0_thrown, .ref h0_tape, .int h0_taped, .int h0_size, .int h0_limit, .int y96_0, .int y96_1, .int h0_kind, .int 0, .int h0_sign, .int h0_fault, .int h0_place, .long 0, .int h0_told, .ref h0_now, .ref h0_read, .ref h0_kept, .ref h0_snaps, .ref h0_aside, .ref h0_name, .ref h0_readName, .ref h0_keptName, .ref h0_isKept, .ref h0_onces, .int h0_snapMany, .int h0_lowest, .int h0_highest, .int h0_agreed, .int h0_jurors, .int h0_panelled, .ref h0_inSets, .int h0_surely, .int h0_asked, .ref h0_frees, .int h0_struck, .int h0_beating, .ref h0_text, .int h0_texts, .int h0_seed, .ref h0_line, .ref h0_written, .int h0_lineMany, .int h0_hasWritten, .ref h0_node, .int h0_nodes, .int h0_onesMany, .int h0_within, .int h0_top])), (aI ca h0_tape 940 F_h0_tape)] := hD
            try dsimp only at w_1533
            rcases w_1533 with ⟨h_1534, h_1535⟩ | ⟨h_1536, h_1537⟩ | ⟨h_1538, h_1539⟩
            · skip
              subst h_1534
              exact (rg_no h_1535 h_1360 (by decide)).elim
            · skip
              subst h_1536
              exact (rg_no h_1537 h_1360 (by decide)).elim
            · skip
              subst h_1538
              refine lv_if_ne (tgt := 243) hx hb dX12_go_226 (by decide) (fun _ => ?_) (fun c => absurd c (by decide))
              refine lv_aload_n hx hb dX12_go_243 rfl (lv_at hl 3 rfl) ?_
              refine va_get (D := D) (ci := 11) (v := .ref h0_tape) (C := RX12) (T := TX12) (N := 48) hx hb hts k2 hown hK.1 hP 0 rfl rfl 1 (by decide) k9 (fun _ h9 => h9) rfl dX12_go_244 ?_
              refine lv_aload_n hx hb dX12_go_247 rfl (lv_at hl 3 rfl) ?_
              refine va_get (D := D) (ci := 11) (v := .int y96_0) (C := RX12) (T := TX12) (N := 48) hx hb hts k2 hown hK.1 hP 0 rfl rfl 5 (by decide) k3 (fun _ h9 => h9) rfl dX12_go_248 ?_
              refine va_iald hx hb hK.1 hP 1 0 rfl rfl (rg_in h_1349 (by decide) (by decide)) dX12_go_251 ?_
              refine oti x_1351 ex_1351.symm ?_
              refine lv_istore (lv' := [(4, .int x_1351), (3, .int 1), (2, .int 1), (1, .int x_1351), (0, .ref h0)]) hx hb dX12_go_252 hl (by decide) rfl (fun ls hl => ?_)
              refine lv_iload_n hx hb dX12_go_254 rfl (lv_at hl 1 rfl) ?_
              refine lv_if_eq (tgt := 271) hx hb dX12_go_255 (by decide) (fun c => absurd c (by decide)) (fun _ => ?_)
              refine lv_iload hx hb dX12_go_258 (lv_at hl 0 rfl) ?_
              refine oC_i (Wc := []) (Wr := [(h0, .inr (11, [.int h0_thrown, .ref h0_tape, .int h0_taped, .int h0_size, .int h0_limit, .int y96_0, .int y96_1, .int h0_kind, .int 0, .int h0_sign, .int h0_fault, .int h0_place, .long 0, .int h0_told, .ref h0_now, .ref h0_read, .ref h0_kept, .ref h0_snaps, .ref h0_aside, .ref h0_name, .ref h0_readName, .ref h0_keptName, .ref h0_isKept, .ref h0_onces, .int h0_snapMany, .int h0_lowest, .int h0_highest, .int h0_agreed, .int h0_jurors, .int h0_panelled, .ref h0_inSets, .int h0_surely, .int h0_asked, .ref h0_frees, .int h0_struck, .int h0_beating, .ref h0_text, .int h0_texts, .int h0_seed, .ref h0_line, .ref h0_written, .int h0_lineMany, .int h0_hasWritten, .ref h0_node, .int h0_nodes, .int h0_onesMany, .int h0_within, .int h0_top])), (aI ca h0_tape 940 F_h0_tape)]) (va_runS (As := [.int x_1351]) (rest := []) ⟨hx, hb, hml, hown, hts⟩ (s_X12_isLetter l D ca H.size x_1351) (va_cwS 1 hts gX12_go_X12_isLetter rfl rfl rfl (by decide +kernel) ⟨Nat.le_of_ble_eq_true rfl, Nat.le_of_ble_eq_true rfl⟩) (oPS hK hP hD [] rfl (by decide)) rfl rfl hl.1 rfl (lv_room (Nat.le_of_ble_eq_true rfl)) dX12_go_260 ⟨Nat.le_of_ble_eq_true rfl, Nat.le_of_ble_eq_true rfl⟩) hP hD hS hA [] [0, 1] rfl rfl (by decide) (by decide) (fun r_1540 u H locs w_1541 hP hD hS => ?_)
              obtain ⟨⟩ := u
              have hP : va_P D vwCl [(h0, .inr (11, [.int h0_thrown, .ref h0_tape, .int h0_taped, .int h0_size, .int h0_limit, .int y96_0, .int y96_1, .int h0_kind, .int 0, .int h0_sign, .int h0_fault, .int h0_place, .long 0, .int h0_told, .ref h0_now, .ref h0_read, .ref h0_kept, .ref h0_snaps, .ref h0_aside, .ref h0_name, .ref h0_readName, .ref h0_keptName, .ref h0_isKept, .ref h0_onces, .int h0_snapMany, .int h0_lowest, .int h0_highest, .int h0_agreed, .int h0_jurors, .int h0_panelled, .ref h0_inSets, .int h0_surely, .int h0_asked, .ref h0_frees, .int h0_struck, .int h0_beating, .ref h0_text, .int h0_texts, .int h0_seed, .ref h0_line, .ref h0_written, .int h0_lineMany, .int h0_hasWritten, .ref h0_node, .int h0_nodes, .int h0_onesMany, .int h0_within, .int h0_top])), (aI ca h0_tape 940 F_h0_tape)] H := hP
              have hD : va_D A [(h0, .inr (11, [.int h0_thrown, .ref h0_tape, .int h0_taped, .int h0_size, .int h0_limit, .int y96_0, .int y96_1, .int h0_kind, .int 0, .int h0_sign, .int h0_fault, .int h0_place, .long 0, .int h0_told, .ref h0_now, .ref h0_read, .ref h0_kept, .ref h0_snaps, .ref h0_aside, .ref h0_name, .ref h0_readName, .ref h0_keptName, .ref h0_isKept, .ref h0_onces, .int h0_snapMany, .int h0_lowest, .int h0_highest, .int h0_agreed, .int h0_jurors, .int h0_panelled, .ref h0_inSets, .int h0_surely, .int h0_asked, .ref h0_frees, .int h0_struck, .int h0_beating, .ref h0_text, .int h0_texts, .int h0_seed, .ref h0_line, .ref h0_written, .int h0_lineMany, .int h0_hasWritten, .ref h0_node, .int h0_nodes, .int h0_onesMany, .int h0_within, .int h0_top])), (aI ca h0_tape 940 F_h0_tape)] := hD
              try dsimp only at w_1541
              rcases w_1541 with ⟨h_1542, h_1543⟩ | ⟨h_1544, h_1545⟩ | ⟨h_1546, h_1547⟩
              · skip
                subst h_1542
                exact (rg_no h_1543 h_1360 (by decide)).elim
              · skip
                subst h_1544
                exact (rg_no h_1545 h_1360 (by decide)).elim
              · skip
                subst h_1546
                refine lv_iload_n hx hb dX12_go_263 rfl (lv_at hl 2 rfl) ?_
                refine lv_icmp_ne (tgt := 271) hx hb dX12_go_264 (by decide) (fun c => absurd (by decide) c) (fun _ => ?_)
                refine lv_iconst (v := 1) hx hb dX12_go_267 (by decide) ?_
                refine lv_goto (tgt := 272) hx hb dX12_go_268 (by decide) ?_
                refine lv_istore_n (lv' := [(3, .int 1), (4, .int x_1351), (2, .int 1), (1, .int x_1351), (0, .ref h0)]) hx hb dX12_go_272 rfl hl (by decide) rfl (fun ls hl => ?_)
                refine lv_aload_n hx hb dX12_go_273 rfl (lv_at hl 4 rfl) ?_
                refine va_get (D := D) (ci := 11) (v := .int y96_0) (C := RX12) (T := TX12) (N := 48) hx hb hts k2 hown hK.1 hP 0 rfl rfl 5 (by decide) k3 (fun _ h9 => h9) rfl dX12_go_274 ?_
                refine lv_aload_n hx hb dX12_go_277 rfl (lv_at hl 4 rfl) ?_
                refine va_get (D := D) (ci := 11) (v := .int y96_1) (C := RX12) (T := TX12) (N := 48) hx hb hts k2 hown hK.1 hP 0 rfl rfl 6 (by decide) k4 (fun _ h9 => h9) rfl dX12_go_278 ?_
                refine lv_isub hx hb dX12_go_281 ?_
                refine lv_topi (fun x_1548 ex_1548 => ?_)
                have h_1549 : rg (-940) 939 x_1548 := by rw [ex_1548]; exact rg_sub h_1349 hy96_1 (by decide) (by decide) (by decide) (by decide)
                have l_1550 : lq x_1548.toInt (y96_0.toInt + (-1) * y96_1.toInt) := lqm (by rw [ex_1548]; have q := tsub h_1349 hy96_1 (by decide) (by decide); omega)
                refine lv_bipush (v := 7) hx hb dX12_go_282 (by decide) ?_
                refine lv_icmp_ge (tgt := 307) hx hb dX12_go_284 (by decide) (fun c_1551 => ?_) (fun c_1551 => ?_)
                · skip
                  have o_1552 : rl 0 7 x_1548 := rl_le c_1551
                  have h_1553 : rg 7 939 x_1548 := rl_y o_1552 (⟨by decide, by decide⟩ : rg 7 7 (7 : Int32)) h_1549 (by decide) (by decide)
                  refine lv_aload_n hx hb dX12_go_307 rfl (lv_at hl 4 rfl) ?_
                  refine va_get (D := D) (ci := 11) (v := .int y96_0) (C := RX12) (T := TX12) (N := 48) hx hb hts k2 hown hK.1 hP 0 rfl rfl 5 (by decide) k3 (fun _ h9 => h9) rfl dX12_go_308 ?_
                  refine lv_aload_n hx hb dX12_go_311 rfl (lv_at hl 4 rfl) ?_
                  refine va_get (D := D) (ci := 11) (v := .int y96_1) (C := RX12) (T := TX12) (N := 48) hx hb hts k2 hown hK.1 hP 0 rfl rfl 6 (by decide) k4 (fun _ h9 => h9) rfl dX12_go_312 ?_
                  refine lv_isub hx hb dX12_go_315 ?_
                  refine lv_topi (fun x_1554 ex_1554 => ?_)
                  have h_1555 : rg (-940) 939 x_1554 := by rw [ex_1554]; exact rg_sub h_1349 hy96_1 (by decide) (by decide) (by decide) (by decide)
                  have l_1556 : lq x_1554.toInt (y96_0.toInt + (-1) * y96_1.toInt) := lqm (by rw [ex_1554]; have q := tsub h_1349 hy96_1 (by decide) (by decide); omega)
                  refine lv_iconst (v := 3) hx hb dX12_go_316 (by decide) ?_
                  refine lv_icmp_ge (tgt := 337) hx hb dX12_go_317 (by decide) (fun c_1557 => ?_) (fun c_1557 => ?_)
                  · skip
                    have o_1558 : rl 0 3 x_1554 := rl_le c_1557
                    have h_1559 : rg 3 939 x_1554 := rl_y o_1558 (⟨by decide, by decide⟩ : rg 3 3 (3 : Int32)) h_1555 (by decide) (by decide)
                    refine lv_aload_n hx hb dX12_go_337 rfl (lv_at hl 4 rfl) ?_
                    refine lv_dup hx hb dX12_go_338 rfl ?_
                    refine va_get (D := D) (ci := 11) (v := .int y96_0) (C := RX12) (T := TX12) (N := 48) hx hb hts k2 hown hK.1 hP 0 rfl rfl 5 (by decide) k3 (fun _ h9 => h9) rfl dX12_go_339 ?_
                    refine lv_iconst (v := 1) hx hb dX12_go_342 (by decide) ?_
                    refine lv_iadd hx hb dX12_go_343 ?_
                    refine lv_topi (fun x_1560 ex_1560 => ?_)
                    have h_1561 : rg 1 940 x_1560 := by rw [ex_1560]; exact rg_add h_1349 (⟨by decide, by decide⟩ : rg 1 1 (1 : Int32)) (by decide) (by decide) (by decide) (by decide)
                    have l_1562 : lq x_1560.toInt (y96_0.toInt + 1) := lqm (by rw [ex_1560]; have q := tadd h_1349 (⟨by decide, by decide⟩ : rg 1 1 (1 : Int32)) (by decide) (by decide); have r1 := lqe (lqm (by decide) : lq (1 : Int32).toInt 1); omega)
                    refine va_put (D := D) (ci := 11) (v := .int x_1560) (ty := .int) (C := RX12) (T := TX12) (N := 48) hx hb hts k2 tyX12 tyX12_ok nmX12 hown hK.1 hP hD hS 0 rfl rfl 5 (by decide) k3 (fun _ h9 => h9) rfl (by decide +kernel) rfl rfl (Nat.le_of_ble_eq_true rfl) dX12_go_344 (fun H locs hP hD hS => ?_)
                    have hP : va_P D vwCl [(h0, .inr (11, [.int h0_thrown, .ref h0_tape, .int h0_taped, .int h0_size, .int h0_limit, .int x_1560, .int y96_1, .int h0_kind, .int 0, .int h0_sign, .int h0_fault, .int h0_place, .long 0, .int h0_told, .ref h0_now, .ref h0_read, .ref h0_kept, .ref h0_snaps, .ref h0_aside, .ref h0_name, .ref h0_readName, .ref h0_keptName, .ref h0_isKept, .ref h0_onces, .int h0_snapMany, .int h0_lowest, .int h0_highest, .int h0_agreed, .int h0_jurors, .int h0_panelled, .ref h0_inSets, .int h0_surely, .int h0_asked, .ref h0_frees, .int h0_struck, .int h0_beating, .ref h0_text, .int h0_texts, .int h0_seed, .ref h0_line, .ref h0_written, .int h0_lineMany, .int h0_hasWritten, .ref h0_node, .int h0_nodes, .int h0_onesMany, .int h0_within, .int h0_top])), (aI ca h0_tape 940 F_h0_tape)] H := hP
                    have hD : va_D A [(h0, .inr (11, [.int h0_thrown, .ref h0_tape, .int h0_taped, .int h0_size, .int h0_limit, .int x_1560, .int y96_1, .int h0_kind, .int 0, .int h0_sign, .int h0_fault, .int h0_place, .long 0, .int h0_told, .ref h0_now, .ref h0_read, .ref h0_kept, .ref h0_snaps, .ref h0_aside, .ref h0_name, .ref h0_readName, .ref h0_keptName, .ref h0_isKept, .ref h0_onces, .int h0_snapMany, .int h0_lowest, .int h0_highest, .int h0_agreed, .int h0_jurors, .int h0_panelled, .ref h0_inSets, .int h0_surely, .int h0_asked, .ref h0_frees, .int h0_struck, .int h0_beating, .ref h0_text, .int h0_texts, .int h0_seed, .ref h0_line, .ref h0_written, .int h0_lineMany, .int h0_hasWritten, .ref h0_node, .int h0_nodes, .int h0_onesMany, .int h0_within, .int h0_top])), (aI ca h0_tape 940 F_h0_tape)] := hD
                    refine lv_goto (tgt := 215) hx hb dX12_go_347 (by decide) ?_
                    exact J215_945 940 1 1 x_1560 y96_1 0 0 trivial (⟨by decide, by decide⟩ : rg 0 1 (1 : Int32)) (⟨by decide, by decide⟩ : rg 0 1 (1 : Int32)) h_1561 (rlm (by have q0 := lqe l_1562; have q1 := rle py96_0_h0_to; omega)) hy96_1 (rlm (by have q0 := rle py96_1_h0_to; omega)) t96_h0_limit h_1350 (by have q0 := h_1561.1; omega) H locs ls (oPsub hP [0, 1] rfl) (hD.sub [0, 1] (by decide) rfl) hS (lv_sub hl [4, 2, 0] rfl)
                  · skip
                    have o_1563 : rl 1 x_1554 3 := rl_nle c_1557
                    have h_1564 : rg (-940) 2 x_1554 := rl_x o_1563 h_1555 (⟨by decide, by decide⟩ : rg 3 3 (3 : Int32)) (by decide) (by decide)
                    refine lv_aload_n hx hb dX12_go_320 rfl (lv_at hl 4 rfl) ?_
                    refine lv_bipush (v := 10) hx hb dX12_go_321 (by decide) ?_
                    refine lv_aload_n hx hb dX12_go_323 rfl (lv_at hl 4 rfl) ?_
                    refine va_get (D := D) (ci := 11) (v := .int 0) (C := RX12) (T := TX12) (N := 48) hx hb hts k2 hown hK.1 hP 0 rfl rfl 8 (by decide) k5 (fun _ h9 => h9) rfl dX12_go_324 ?_
                    refine lv_imul hx hb dX12_go_327 ?_
                    refine oti 0 (by decide) ?_
                    refine lv_iload hx hb dX12_go_328 (lv_at hl 1 rfl) ?_
                    refine lv_iadd hx hb dX12_go_330 ?_
                    refine lv_topi (fun x_1565 ex_1565 => ?_)
                    have h_1566 : rg 97 122 x_1565 := by rw [ex_1565]; exact rg_add (⟨by decide, by decide⟩ : rg 0 0 (0 : Int32)) h_1360 (by decide) (by decide) (by decide) (by decide)
                    have l_1567 : lq x_1565.toInt (x_1351.toInt) := lqm (by rw [ex_1565]; have q := tadd (⟨by decide, by decide⟩ : rg 0 0 (0 : Int32)) h_1360 (by decide) (by decide); have r0 := lqe (lqm (by decide) : lq (0 : Int32).toInt 0); omega)
                    refine lv_bipush (v := 48) hx hb dX12_go_331 (by decide) ?_
                    refine lv_isub hx hb dX12_go_333 ?_
                    refine lv_topi (fun x_1568 ex_1568 => ?_)
                    have h_1569 : rg 49 74 x_1568 := by rw [ex_1568]; exact rg_sub h_1566 (⟨by decide, by decide⟩ : rg 48 48 (48 : Int32)) (by decide) (by decide) (by decide) (by decide)
                    have l_1570 : lq x_1568.toInt (x_1351.toInt + (-48)) := lqm (by rw [ex_1568]; have q := tsub h_1566 (⟨by decide, by decide⟩ : rg 48 48 (48 : Int32)) (by decide) (by decide); have r0 := lqe l_1567; have r1 := lqe (lqm (by decide) : lq (48 : Int32).toInt 48); omega)
                    refine va_put (D := D) (ci := 11) (v := .int x_1568) (ty := .int) (C := RX12) (T := TX12) (N := 48) hx hb hts k2 tyX12 tyX12_ok nmX12 hown hK.1 hP hD hS 0 rfl rfl 8 (by decide) k5 (fun _ h9 => h9) rfl (by decide +kernel) rfl rfl (Nat.le_of_ble_eq_true rfl) dX12_go_334 (fun H locs hP hD hS => ?_)
                    have hP : va_P D vwCl [(h0, .inr (11, [.int h0_thrown, .ref h0_tape, .int h0_taped, .int h0_size, .int h0_limit, .int y96_0, .int y96_1, .int h0_kind, .int x_1568, .int h0_sign, .int h0_fault, .int h0_place, .long 0, .int h0_told, .ref h0_now, .ref h0_read, .ref h0_kept, .ref h0_snaps, .ref h0_aside, .ref h0_name, .ref h0_readName, .ref h0_keptName, .ref h0_isKept, .ref h0_onces, .int h0_snapMany, .int h0_lowest, .int h0_highest, .int h0_agreed, .int h0_jurors, .int h0_panelled, .ref h0_inSets, .int h0_surely, .int h0_asked, .ref h0_frees, .int h0_struck, .int h0_beating, .ref h0_text, .int h0_texts, .int h0_seed, .ref h0_line, .ref h0_written, .int h0_lineMany, .int h0_hasWritten, .ref h0_node, .int h0_nodes, .int h0_onesMany, .int h0_within, .int h0_top])), (aI ca h0_tape 940 F_h0_tape)] H := hP
                    have hD : va_D A [(h0, .inr (11, [.int h0_thrown, .ref h0_tape, .int h0_taped, .int h0_size, .int h0_limit, .int y96_0, .int y96_1, .int h0_kind, .int x_1568, .int h0_sign, .int h0_fault, .int h0_place, .long 0, .int h0_told, .ref h0_now, .ref h0_read, .ref h0_kept, .ref h0_snaps, .ref h0_aside, .ref h0_name, .ref h0_readName, .ref h0_keptName, .ref h0_isKept, .ref h0_onces, .int h0_snapMany, .int h0_lowest, .int h0_highest, .int h0_agreed, .int h0_jurors, .int h0_panelled, .ref h0_inSets, .int h0_surely, .int h0_asked, .ref h0_frees, .int h0_struck, .int h0_beating, .ref h0_text, .int h0_texts, .int h0_seed, .ref h0_line, .ref h0_written, .int h0_lineMany, .int h0_hasWritten, .ref h0_node, .int h0_nodes, .int h0_onesMany, .int h0_within, .int h0_top])), (aI ca h0_tape 940 F_h0_tape)] := hD
                    refine lv_aload_n hx hb dX12_go_337 rfl (lv_at hl 4 rfl) ?_
                    refine lv_dup hx hb dX12_go_338 rfl ?_
                    refine va_get (D := D) (ci := 11) (v := .int y96_0) (C := RX12) (T := TX12) (N := 48) hx hb hts k2 hown hK.1 hP 0 rfl rfl 5 (by decide) k3 (fun _ h9 => h9) rfl dX12_go_339 ?_
                    refine lv_iconst (v := 1) hx hb dX12_go_342 (by decide) ?_
                    refine lv_iadd hx hb dX12_go_343 ?_
                    refine lv_topi (fun x_1571 ex_1571 => ?_)
                    have h_1572 : rg 1 940 x_1571 := by rw [ex_1571]; exact rg_add h_1349 (⟨by decide, by decide⟩ : rg 1 1 (1 : Int32)) (by decide) (by decide) (by decide) (by decide)
                    have l_1573 : lq x_1571.toInt (y96_0.toInt + 1) := lqm (by rw [ex_1571]; have q := tadd h_1349 (⟨by decide, by decide⟩ : rg 1 1 (1 : Int32)) (by decide) (by decide); have r1 := lqe (lqm (by decide) : lq (1 : Int32).toInt 1); omega)
                    refine va_put (D := D) (ci := 11) (v := .int x_1571) (ty := .int) (C := RX12) (T := TX12) (N := 48) hx hb hts k2 tyX12 tyX12_ok nmX12 hown hK.1 hP hD hS 0 rfl rfl 5 (by decide) k3 (fun _ h9 => h9) rfl (by decide +kernel) rfl rfl (Nat.le_of_ble_eq_true rfl) dX12_go_344 (fun H locs hP hD hS => ?_)
                    have hP : va_P D vwCl [(h0, .inr (11, [.int h0_thrown, .ref h0_tape, .int h0_taped, .int h0_size, .int h0_limit, .int x_1571, .int y96_1, .int h0_kind, .int x_1568, .int h0_sign, .int h0_fault, .int h0_place, .long 0, .int h0_told, .ref h0_now, .ref h0_read, .ref h0_kept, .ref h0_snaps, .ref h0_aside, .ref h0_name, .ref h0_readName, .ref h0_keptName, .ref h0_isKept, .ref h0_onces, .int h0_snapMany, .int h0_lowest, .int h0_highest, .int h0_agreed, .int h0_jurors, .int h0_panelled, .ref h0_inSets, .int h0_surely, .int h0_asked, .ref h0_frees, .int h0_struck, .int h0_beating, .ref h0_text, .int h0_texts, .int h0_seed, .ref h0_line, .ref h0_written, .int h0_lineMany, .int h0_hasWritten, .ref h0_node, .int h0_nodes, .int h0_onesMany, .int h0_within, .int h0_top])), (aI ca h0_tape 940 F_h0_tape)] H := hP
                    have hD : va_D A [(h0, .inr (11, [.int h0_thrown, .ref h0_tape, .int h0_taped, .int h0_size, .int h0_limit, .int x_1571, .int y96_1, .int h0_kind, .int x_1568, .int h0_sign, .int h0_fault, .int h0_place, .long 0, .int h0_told, .ref h0_now, .ref h0_read, .ref h0_kept, .ref h0_snaps, .ref h0_aside, .ref h0_name, .ref h0_readName, .ref h0_keptName, .ref h0_isKept, .ref h0_onces, .int h0_snapMany, .int h0_lowest, .int h0_highest, .int h0_agreed, .int h0_jurors, .int h0_panelled, .ref h0_inSets, .int h0_surely, .int h0_asked, .ref h0_frees, .int h0_struck, .int h0_beating, .ref h0_text, .int h0_texts, .int h0_seed, .ref h0_line, .ref h0_written, .int h0_lineMany, .int h0_hasWritten, .ref h0_node, .int h0_nodes, .int h0_onesMany, .int h0_within, .int h0_top])), (aI ca h0_tape 940 F_h0_tape)] := hD
                    refine lv_goto (tgt := 215) hx hb dX12_go_347 (by decide) ?_
                    exact J215_945 940 1 1 x_1571 y96_1 x_1568 0 trivial (⟨by decide, by decide⟩ : rg 0 1 (1 : Int32)) (⟨by decide, by decide⟩ : rg 0 1 (1 : Int32)) h_1572 (rlm (by have q0 := lqe l_1573; have q1 := rle py96_0_h0_to; omega)) hy96_1 (rlm (by have q0 := rle py96_1_h0_to; omega)) t96_h0_limit h_1350 (by have q0 := h_1572.1; omega) H locs ls (oPsub hP [0, 1] rfl) (hD.sub [0, 1] (by decide) rfl) hS (lv_sub hl [4, 2, 0] rfl)
                · skip
                  have o_1574 : rl 1 x_1548 7 := rl_nle c_1551
                  have h_1575 : rg (-940) 6 x_1548 := rl_x o_1574 h_1549 (⟨by decide, by decide⟩ : rg 7 7 (7 : Int32)) (by decide) (by decide)
                  refine lv_aload_n hx hb dX12_go_287 rfl (lv_at hl 4 rfl) ?_
                  refine lv_ldc2 (v := 27) hx hb hown k6 dX12_go_288 ?_
                  refine lv_aload_n hx hb dX12_go_291 rfl (lv_at hl 4 rfl) ?_
                  refine va_get (D := D) (ci := 11) (v := .long 0) (C := RX12) (T := TX12) (N := 48) hx hb hts k2 hown hK.1 hP 0 rfl rfl 12 (by decide) k7 (fun _ h9 => h9) rfl dX12_go_292 ?_
                  refine lv_lmul hx hb dX12_go_295 ?_
                  refine otl 0 (by decide +kernel) ?_
                  refine lv_iload hx hb dX12_go_296 (lv_at hl 1 rfl) ?_
                  refine lv_i2l hx hb dX12_go_298 rfl ?_
                  refine lv_topl (fun x_1576 ex_1576 => ?_)
                  refine lv_ladd hx hb dX12_go_299 ?_
                  refine lv_topl (fun x_1577 ex_1577 => ?_)
                  refine lv_ldc2 (v := 96) hx hb hown k8 dX12_go_300 ?_
                  refine lv_lsub hx hb dX12_go_303 ?_
                  refine lv_topl (fun x_1578 ex_1578 => ?_)
                  refine va_put (D := D) (ci := 11) (v := .long x_1578) (ty := .long) (C := RX12) (T := TX12) (N := 48) hx hb hts k2 tyX12 tyX12_ok nmX12 hown hK.1 hP hD hS 0 rfl rfl 12 (by decide) k7 (fun _ h9 => h9) rfl (by decide +kernel) rfl rfl (Nat.le_of_ble_eq_true rfl) dX12_go_304 (fun H locs hP hD hS => ?_)
                  have hP : va_P D vwCl [(h0, .inr (11, [.int h0_thrown, .ref h0_tape, .int h0_taped, .int h0_size, .int h0_limit, .int y96_0, .int y96_1, .int h0_kind, .int 0, .int h0_sign, .int h0_fault, .int h0_place, .long x_1578, .int h0_told, .ref h0_now, .ref h0_read, .ref h0_kept, .ref h0_snaps, .ref h0_aside, .ref h0_name, .ref h0_readName, .ref h0_keptName, .ref h0_isKept, .ref h0_onces, .int h0_snapMany, .int h0_lowest, .int h0_highest, .int h0_agreed, .int h0_jurors, .int h0_panelled, .ref h0_inSets, .int h0_surely, .int h0_asked, .ref h0_frees, .int h0_struck, .int h0_beating, .ref h0_text, .int h0_texts, .int h0_seed, .ref h0_line, .ref h0_written, .int h0_lineMany, .int h0_hasWritten, .ref h0_node, .int h0_nodes, .int h0_onesMany, .int h0_within, .int h0_top])), (aI ca h0_tape 940 F_h0_tape)] H := hP
                  have hD : va_D A [(h0, .inr (11, [.int h0_thrown, .ref h0_tape, .int h0_taped, .int h0_size, .int h0_limit, .int y96_0, .int y96_1, .int h0_kind, .int 0, .int h0_sign, .int h0_fault, .int h0_place, .long x_1578, .int h0_told, .ref h0_now, .ref h0_read, .ref h0_kept, .ref h0_snaps, .ref h0_aside, .ref h0_name, .ref h0_readName, .ref h0_keptName, .ref h0_isKept, .ref h0_onces, .int h0_snapMany, .int h0_lowest, .int h0_highest, .int h0_agreed, .int h0_jurors, .int h0_panelled, .ref h0_inSets, .int h0_surely, .int h0_asked, .ref h0_frees, .int h0_struck, .int h0_beating, .ref h0_text, .int h0_texts, .int h0_seed, .ref h0_line, .ref h0_written, .int h0_lineMany, .int h0_hasWritten, .ref h0_node, .int h0_nodes, .int h0_onesMany, .int h0_within, .int h0_top])), (aI ca h0_tape 940 F_h0_tape)] := hD
                  refine lv_aload_n hx hb dX12_go_307 rfl (lv_at hl 4 rfl) ?_
                  refine va_get (D := D) (ci := 11) (v := .int y96_0) (C := RX12) (T := TX12) (N := 48) hx hb hts k2 hown hK.1 hP 0 rfl rfl 5 (by decide) k3 (fun _ h9 => h9) rfl dX12_go_308 ?_
                  refine lv_aload_n hx hb dX12_go_311 rfl (lv_at hl 4 rfl) ?_
                  refine va_get (D := D) (ci := 11) (v := .int y96_1) (C := RX12) (T := TX12) (N := 48) hx hb hts k2 hown hK.1 hP 0 rfl rfl 6 (by decide) k4 (fun _ h9 => h9) rfl dX12_go_312 ?_
                  refine lv_isub hx hb dX12_go_315 ?_
                  refine lv_topi (fun x_1579 ex_1579 => ?_)
                  have h_1580 : rg (-940) 939 x_1579 := by rw [ex_1579]; exact rg_sub h_1349 hy96_1 (by decide) (by decide) (by decide) (by decide)
                  have l_1581 : lq x_1579.toInt (y96_0.toInt + (-1) * y96_1.toInt) := lqm (by rw [ex_1579]; have q := tsub h_1349 hy96_1 (by decide) (by decide); omega)
                  refine lv_iconst (v := 3) hx hb dX12_go_316 (by decide) ?_
                  refine lv_icmp_ge (tgt := 337) hx hb dX12_go_317 (by decide) (fun c_1582 => ?_) (fun c_1582 => ?_)
                  · skip
                    have o_1583 : rl 0 3 x_1579 := rl_le c_1582
                    have h_1584 : rg 3 939 x_1579 := rl_y o_1583 (⟨by decide, by decide⟩ : rg 3 3 (3 : Int32)) h_1580 (by decide) (by decide)
                    refine lv_aload_n hx hb dX12_go_337 rfl (lv_at hl 4 rfl) ?_
                    refine lv_dup hx hb dX12_go_338 rfl ?_
                    refine va_get (D := D) (ci := 11) (v := .int y96_0) (C := RX12) (T := TX12) (N := 48) hx hb hts k2 hown hK.1 hP 0 rfl rfl 5 (by decide) k3 (fun _ h9 => h9) rfl dX12_go_339 ?_
                    refine lv_iconst (v := 1) hx hb dX12_go_342 (by decide) ?_
                    refine lv_iadd hx hb dX12_go_343 ?_
                    refine lv_topi (fun x_1585 ex_1585 => ?_)
                    have h_1586 : rg 1 940 x_1585 := by rw [ex_1585]; exact rg_add h_1349 (⟨by decide, by decide⟩ : rg 1 1 (1 : Int32)) (by decide) (by decide) (by decide) (by decide)
                    have l_1587 : lq x_1585.toInt (y96_0.toInt + 1) := lqm (by rw [ex_1585]; have q := tadd h_1349 (⟨by decide, by decide⟩ : rg 1 1 (1 : Int32)) (by decide) (by decide); have r1 := lqe (lqm (by decide) : lq (1 : Int32).toInt 1); omega)
                    refine va_put (D := D) (ci := 11) (v := .int x_1585) (ty := .int) (C := RX12) (T := TX12) (N := 48) hx hb hts k2 tyX12 tyX12_ok nmX12 hown hK.1 hP hD hS 0 rfl rfl 5 (by decide) k3 (fun _ h9 => h9) rfl (by decide +kernel) rfl rfl (Nat.le_of_ble_eq_true rfl) dX12_go_344 (fun H locs hP hD hS => ?_)
                    have hP : va_P D vwCl [(h0, .inr (11, [.int h0_thrown, .ref h0_tape, .int h0_taped, .int h0_size, .int h0_limit, .int x_1585, .int y96_1, .int h0_kind, .int 0, .int h0_sign, .int h0_fault, .int h0_place, .long x_1578, .int h0_told, .ref h0_now, .ref h0_read, .ref h0_kept, .ref h0_snaps, .ref h0_aside, .ref h0_name, .ref h0_readName, .ref h0_keptName, .ref h0_isKept, .ref h0_onces, .int h0_snapMany, .int h0_lowest, .int h0_highest, .int h0_agreed, .int h0_jurors, .int h0_panelled, .ref h0_inSets, .int h0_surely, .int h0_asked, .ref h0_frees, .int h0_struck, .int h0_beating, .ref h0_text, .int h0_texts, .int h0_seed, .ref h0_line, .ref h0_written, .int h0_lineMany, .int h0_hasWritten, .ref h0_node, .int h0_nodes, .int h0_onesMany, .int h0_within, .int h0_top])), (aI ca h0_tape 940 F_h0_tape)] H := hP
                    have hD : va_D A [(h0, .inr (11, [.int h0_thrown, .ref h0_tape, .int h0_taped, .int h0_size, .int h0_limit, .int x_1585, .int y96_1, .int h0_kind, .int 0, .int h0_sign, .int h0_fault, .int h0_place, .long x_1578, .int h0_told, .ref h0_now, .ref h0_read, .ref h0_kept, .ref h0_snaps, .ref h0_aside, .ref h0_name, .ref h0_readName, .ref h0_keptName, .ref h0_isKept, .ref h0_onces, .int h0_snapMany, .int h0_lowest, .int h0_highest, .int h0_agreed, .int h0_jurors, .int h0_panelled, .ref h0_inSets, .int h0_surely, .int h0_asked, .ref h0_frees, .int h0_struck, .int h0_beating, .ref h0_text, .int h0_texts, .int h0_seed, .ref h0_line, .ref h0_written, .int h0_lineMany, .int h0_hasWritten, .ref h0_node, .int h0_nodes, .int h0_onesMany, .int h0_within, .int h0_top])), (aI ca h0_tape 940 F_h0_tape)] := hD
                    refine lv_goto (tgt := 215) hx hb dX12_go_347 (by decide) ?_
                    exact J215_945 940 1 1 x_1585 y96_1 0 x_1578 trivial (⟨by decide, by decide⟩ : rg 0 1 (1 : Int32)) (⟨by decide, by decide⟩ : rg 0 1 (1 : Int32)) h_1586 (rlm (by have q0 := lqe l_1587; have q1 := rle py96_0_h0_to; omega)) hy96_1 (rlm (by have q0 := rle py96_1_h0_to; omega)) t96_h0_limit h_1350 (by have q0 := h_1586.1; omega) H locs ls (oPsub hP [0, 1] rfl) (hD.sub [0, 1] (by decide) rfl) hS (lv_sub hl [4, 2, 0] rfl)
                  · skip
                    have o_1588 : rl 1 x_1579 3 := rl_nle c_1582
                    have h_1589 : rg (-940) 2 x_1579 := rl_x o_1588 h_1580 (⟨by decide, by decide⟩ : rg 3 3 (3 : Int32)) (by decide) (by decide)
                    refine lv_aload_n hx hb dX12_go_320 rfl (lv_at hl 4 rfl) ?_
                    refine lv_bipush (v := 10) hx hb dX12_go_321 (by decide) ?_
                    refine lv_aload_n hx hb dX12_go_323 rfl (lv_at hl 4 rfl) ?_
                    refine va_get (D := D) (ci := 11) (v := .int 0) (C := RX12) (T := TX12) (N := 48) hx hb hts k2 hown hK.1 hP 0 rfl rfl 8 (by decide) k5 (fun _ h9 => h9) rfl dX12_go_324 ?_
                    refine lv_imul hx hb dX12_go_327 ?_
                    refine oti 0 (by decide) ?_
                    refine lv_iload hx hb dX12_go_328 (lv_at hl 1 rfl) ?_
                    refine lv_iadd hx hb dX12_go_330 ?_
                    refine lv_topi (fun x_1590 ex_1590 => ?_)
                    have h_1591 : rg 97 122 x_1590 := by rw [ex_1590]; exact rg_add (⟨by decide, by decide⟩ : rg 0 0 (0 : Int32)) h_1360 (by decide) (by decide) (by decide) (by decide)
                    have l_1592 : lq x_1590.toInt (x_1351.toInt) := lqm (by rw [ex_1590]; have q := tadd (⟨by decide, by decide⟩ : rg 0 0 (0 : Int32)) h_1360 (by decide) (by decide); have r0 := lqe (lqm (by decide) : lq (0 : Int32).toInt 0); omega)
                    refine lv_bipush (v := 48) hx hb dX12_go_331 (by decide) ?_
                    refine lv_isub hx hb dX12_go_333 ?_
                    refine lv_topi (fun x_1593 ex_1593 => ?_)
                    have h_1594 : rg 49 74 x_1593 := by rw [ex_1593]; exact rg_sub h_1591 (⟨by decide, by decide⟩ : rg 48 48 (48 : Int32)) (by decide) (by decide) (by decide) (by decide)
                    have l_1595 : lq x_1593.toInt (x_1351.toInt + (-48)) := lqm (by rw [ex_1593]; have q := tsub h_1591 (⟨by decide, by decide⟩ : rg 48 48 (48 : Int32)) (by decide) (by decide); have r0 := lqe l_1592; have r1 := lqe (lqm (by decide) : lq (48 : Int32).toInt 48); omega)
                    refine va_put (D := D) (ci := 11) (v := .int x_1593) (ty := .int) (C := RX12) (T := TX12) (N := 48) hx hb hts k2 tyX12 tyX12_ok nmX12 hown hK.1 hP hD hS 0 rfl rfl 8 (by decide) k5 (fun _ h9 => h9) rfl (by decide +kernel) rfl rfl (Nat.le_of_ble_eq_true rfl) dX12_go_334 (fun H locs hP hD hS => ?_)
                    have hP : va_P D vwCl [(h0, .inr (11, [.int h0_thrown, .ref h0_tape, .int h0_taped, .int h0_size, .int h0_limit, .int y96_0, .int y96_1, .int h0_kind, .int x_1593, .int h0_sign, .int h0_fault, .int h0_place, .long x_1578, .int h0_told, .ref h0_now, .ref h0_read, .ref h0_kept, .ref h0_snaps, .ref h0_aside, .ref h0_name, .ref h0_readName, .ref h0_keptName, .ref h0_isKept, .ref h0_onces, .int h0_snapMany, .int h0_lowest, .int h0_highest, .int h0_agreed, .int h0_jurors, .int h0_panelled, .ref h0_inSets, .int h0_surely, .int h0_asked, .ref h0_frees, .int h0_struck, .int h0_beating, .ref h0_text, .int h0_texts, .int h0_seed, .ref h0_line, .ref h0_written, .int h0_lineMany, .int h0_hasWritten, .ref h0_node, .int h0_nodes, .int h0_onesMany, .int h0_within, .int h0_top])), (aI ca h0_tape 940 F_h0_tape)] H := hP
                    have hD : va_D A [(h0, .inr (11, [.int h0_thrown, .ref h0_tape, .int h0_taped, .int h0_size, .int h0_limit, .int y96_0, .int y96_1, .int h0_kind, .int x_1593, .int h0_sign, .int h0_fault, .int h0_place, .long x_1578, .int h0_told, .ref h0_now, .ref h0_read, .ref h0_kept, .ref h0_snaps, .ref h0_aside, .ref h0_name, .ref h0_readName, .ref h0_keptName, .ref h0_isKept, .ref h0_onces, .int h0_snapMany, .int h0_lowest, .int h0_highest, .int h0_agreed, .int h0_jurors, .int h0_panelled, .ref h0_inSets, .int h0_surely, .int h0_asked, .ref h0_frees, .int h0_struck, .int h0_beating, .ref h0_text, .int h0_texts, .int h0_seed, .ref h0_line, .ref h0_written, .int h0_lineMany, .int h0_hasWritten, .ref h0_node, .int h0_nodes, .int h0_onesMany, .int h0_within, .int h0_top])), (aI ca h0_tape 940 F_h0_tape)] := hD
                    refine lv_aload_n hx hb dX12_go_337 rfl (lv_at hl 4 rfl) ?_
                    refine lv_dup hx hb dX12_go_338 rfl ?_
                    refine va_get (D := D) (ci := 11) (v := .int y96_0) (C := RX12) (T := TX12) (N := 48) hx hb hts k2 hown hK.1 hP 0 rfl rfl 5 (by decide) k3 (fun _ h9 => h9) rfl dX12_go_339 ?_
                    refine lv_iconst (v := 1) hx hb dX12_go_342 (by decide) ?_
                    refine lv_iadd hx hb dX12_go_343 ?_
                    refine lv_topi (fun x_1596 ex_1596 => ?_)
                    have h_1597 : rg 1 940 x_1596 := by rw [ex_1596]; exact rg_add h_1349 (⟨by decide, by decide⟩ : rg 1 1 (1 : Int32)) (by decide) (by decide) (by decide) (by decide)
                    have l_1598 : lq x_1596.toInt (y96_0.toInt + 1) := lqm (by rw [ex_1596]; have q := tadd h_1349 (⟨by decide, by decide⟩ : rg 1 1 (1 : Int32)) (by decide) (by decide); have r1 := lqe (lqm (by decide) : lq (1 : Int32).toInt 1); omega)
                    refine va_put (D := D) (ci := 11) (v := .int x_1596) (ty := .int) (C := RX12) (T := TX12) (N := 48) hx hb hts k2 tyX12 tyX12_ok nmX12 hown hK.1 hP hD hS 0 rfl rfl 5 (by decide) k3 (fun _ h9 => h9) rfl (by decide +kernel) rfl rfl (Nat.le_of_ble_eq_true rfl) dX12_go_344 (fun H locs hP hD hS => ?_)
                    have hP : va_P D vwCl [(h0, .inr (11, [.int h0_thrown, .ref h0_tape, .int h0_taped, .int h0_size, .int h0_limit, .int x_1596, .int y96_1, .int h0_kind, .int x_1593, .int h0_sign, .int h0_fault, .int h0_place, .long x_1578, .int h0_told, .ref h0_now, .ref h0_read, .ref h0_kept, .ref h0_snaps, .ref h0_aside, .ref h0_name, .ref h0_readName, .ref h0_keptName, .ref h0_isKept, .ref h0_onces, .int h0_snapMany, .int h0_lowest, .int h0_highest, .int h0_agreed, .int h0_jurors, .int h0_panelled, .ref h0_inSets, .int h0_surely, .int h0_asked, .ref h0_frees, .int h0_struck, .int h0_beating, .ref h0_text, .int h0_texts, .int h0_seed, .ref h0_line, .ref h0_written, .int h0_lineMany, .int h0_hasWritten, .ref h0_node, .int h0_nodes, .int h0_onesMany, .int h0_within, .int h0_top])), (aI ca h0_tape 940 F_h0_tape)] H := hP
                    have hD : va_D A [(h0, .inr (11, [.int h0_thrown, .ref h0_tape, .int h0_taped, .int h0_size, .int h0_limit, .int x_1596, .int y96_1, .int h0_kind, .int x_1593, .int h0_sign, .int h0_fault, .int h0_place, .long x_1578, .int h0_told, .ref h0_now, .ref h0_read, .ref h0_kept, .ref h0_snaps, .ref h0_aside, .ref h0_name, .ref h0_readName, .ref h0_keptName, .ref h0_isKept, .ref h0_onces, .int h0_snapMany, .int h0_lowest, .int h0_highest, .int h0_agreed, .int h0_jurors, .int h0_panelled, .ref h0_inSets, .int h0_surely, .int h0_asked, .ref h0_frees, .int h0_struck, .int h0_beating, .ref h0_text, .int h0_texts, .int h0_seed, .ref h0_line, .ref h0_written, .int h0_lineMany, .int h0_hasWritten, .ref h0_node, .int h0_nodes, .int h0_onesMany, .int h0_within, .int h0_top])), (aI ca h0_tape 940 F_h0_tape)] := hD
                    refine lv_goto (tgt := 215) hx hb dX12_go_347 (by decide) ?_
                    exact J215_945 940 1 1 x_1596 y96_1 x_1593 x_1578 trivial (⟨by decide, by decide⟩ : rg 0 1 (1 : Int32)) (⟨by decide, by decide⟩ : rg 0 1 (1 : Int32)) h_1597 (rlm (by have q0 := lqe l_1598; have q1 := rle py96_0_h0_to; omega)) hy96_1 (rlm (by have q0 := rle py96_1_h0_to; omega)) t96_h0_limit h_1350 (by have q0 := h_1597.1; omega) H locs ls (oPsub hP [0, 1] rfl) (hD.sub [0, 1] (by decide) rfl) hS (lv_sub hl [4, 2, 0] rfl)
    · skip
      have o_1599 : rl 0 h0_size y96_0 := rl_nlt c_1347
      refine lv_aload_n hx hb dX12_go_107 rfl (lv_at hl 0 rfl) ?_
      refine lv_iconst (v := 0) hx hb dX12_go_108 (by decide) ?_
      refine va_put (D := D) (ci := 11) (v := .int 0) (ty := .int) (C := RX12) (T := TX12) (N := 48) hx hb hts k2 tyX12 tyX12_ok nmX12 hown hK.1 hP hD hS 0 rfl rfl 7 (by decide) k1 (fun _ h9 => h9) rfl (by decide +kernel) rfl rfl (Nat.le_of_ble_eq_true rfl) dX12_go_109 (fun H locs hP hD hS => ?_)
      have hP : va_P D vwCl [(h0, .inr (11, [.int h0_thrown, .ref h0_tape, .int h0_taped, .int h0_size, .int h0_limit, .int y96_0, .int y96_1, .int 0, .int h0_number, .int h0_sign, .int h0_fault, .int h0_place, .long h0_word, .int h0_told, .ref h0_now, .ref h0_read, .ref h0_kept, .ref h0_snaps, .ref h0_aside, .ref h0_name, .ref h0_readName, .ref h0_keptName, .ref h0_isKept, .ref h0_onces, .int h0_snapMany, .int h0_lowest, .int h0_highest, .int h0_agreed, .int h0_jurors, .int h0_panelled, .ref h0_inSets, .int h0_surely, .int h0_asked, .ref h0_frees, .int h0_struck, .int h0_beating, .ref h0_text, .int h0_texts, .int h0_seed, .ref h0_line, .ref h0_written, .int h0_lineMany, .int h0_hasWritten, .ref h0_node, .int h0_nodes, .int h0_onesMany, .int h0_within, .int h0_top])), (aI ca h0_tape 940 F_h0_tape)] H := hP
      have hD : va_D A [(h0, .inr (11, [.int h0_thrown, .ref h0_tape, .int h0_taped, .int h0_size, .int h0_limit, .int y96_0, .int y96_1, .int 0, .int h0_number, .int h0_sign, .int h0_fault, .int h0_place, .long h0_word, .int h0_told, .ref h0_now, .ref h0_read, .ref h0_kept, .ref h0_snaps, .ref h0_aside, .ref h0_name, .ref h0_readName, .ref h0_keptName, .ref h0_isKept, .ref h0_onces, .int h0_snapMany, .int h0_lowest, .int h0_highest, .int h0_agreed, .int h0_jurors, .int h0_panelled, .ref h0_inSets, .int h0_surely, .int h0_asked, .ref h0_frees, .int h0_struck, .int h0_beating, .ref h0_text, .int h0_texts, .int h0_seed, .ref h0_line, .ref h0_written, .int h0_lineMany, .int h0_hasWritten, .ref h0_node, .int h0_nodes, .int h0_onesMany, .int h0_within, .int h0_top])), (aI ca h0_tape 940 F_h0_tape)] := hD
      exact oE_v hx hb hr hlocks hP hD hS (y96_0, y96_1, 0, h0_number, h0_sign, h0_word) [0, 1] rfl (by decide) ⟨hy96_0, (rgw (lo := (-2147483648)) (hi := 940) hy96_1 (by decide) (by decide)), (⟨by decide, by decide⟩ : rg 0 4 (0 : Int32)), (show rl 0 h0_to y96_0 from rlm (by have q0 := rle py96_0_h0_to; omega)), (show lk h0_to 0 y96_0 from lkm (by have z0 := ((⟨by decide, by decide⟩ : rg 0 0 (0 : Int32))).2; have q0 := rle py96_0_h0_to; omega))⟩ (Nat.le_of_ble_eq_true rfl) (Nat.le_of_ble_eq_true rfl) dX12_go_112
  have J52_1600 : ∀ (y52_0 : Int32), rg 0 940 y52_0 → rl 0 h0_to y52_0 → ∀ (H : Heap) (locs : List Loc) (ls : Array Slot), va_P D vwCl [(h0, .inr (11, [.int h0_thrown, .ref h0_tape, .int h0_taped, .int h0_size, .int h0_limit, .int y52_0, .int h0_from, .int h0_kind, .int h0_number, .int h0_sign, .int h0_fault, .int h0_place, .long h0_word, .int h0_told, .ref h0_now, .ref h0_read, .ref h0_kept, .ref h0_snaps, .ref h0_aside, .ref h0_name, .ref h0_readName, .ref h0_keptName, .ref h0_isKept, .ref h0_onces, .int h0_snapMany, .int h0_lowest, .int h0_highest, .int h0_agreed, .int h0_jurors, .int h0_panelled, .ref h0_inSets, .int h0_surely, .int h0_asked, .ref h0_frees, .int h0_struck, .int h0_beating, .ref h0_text, .int h0_texts, .int h0_seed, .ref h0_line, .ref h0_written, .int h0_lineMany, .int h0_hasWritten, .ref h0_node, .int h0_nodes, .int h0_onesMany, .int h0_within, .int h0_top])), (aI ca h0_tape 940 F_h0_tape)] H → va_D A [(h0, .inr (11, [.int h0_thrown, .ref h0_tape, .int h0_taped, .int h0_size, .int h0_limit, .int y52_0, .int h0_from, .int h0_kind, .int h0_number, .int h0_sign, .int h0_fault, .int h0_place, .long h0_word, .int h0_told, .ref h0_now, .ref h0_read, .ref h0_kept, .ref h0_snaps, .ref h0_aside, .ref h0_name, .ref h0_readName, .ref h0_keptName, .ref h0_isKept, .ref h0_onces, .int h0_snapMany, .int h0_lowest, .int h0_highest, .int h0_agreed, .int h0_jurors, .int h0_panelled, .ref h0_inSets, .int h0_surely, .int h0_asked, .ref h0_frees, .int h0_struck, .int h0_beating, .ref h0_text, .int h0_texts, .int h0_seed, .ref h0_line, .ref h0_written, .int h0_lineMany, .int h0_hasWritten, .ref h0_node, .int h0_nodes, .int h0_onesMany, .int h0_within, .int h0_top])), (aI ca h0_tape 940 F_h0_tape)] → va_S A s.heap H locs → lv_has ls 5 [(0, .ref h0)] → W p l e ({ frames := 1, cells := 0, slots := 0, locals := 21 } : Room) s m ([.ref h0] : List Value).toArray below meth c H locs 0 0 (MQ below ((oQv D (fun (u : Int32 × Int32 × Int32 × Int32 × Int32 × Int64) => (rg 0 940 u.1) ∧ (rg (-2147483648) 940 u.2.1) ∧ (rg 0 4 u.2.2.1) ∧ (rl 0 h0_to u.1) ∧ (lk h0_to u.2.2.1 u.1)) (fun (u : Int32 × Int32 × Int32 × Int32 × Int32 × Int64) => [(h0, .inr (11, [.int h0_thrown, .ref h0_tape, .int h0_taped, .int h0_size, .int h0_limit, .int u.1, .int u.2.1, .int u.2.2.1, .int u.2.2.2.1, .int u.2.2.2.2.1, .int h0_fault, .int h0_place, .long u.2.2.2.2.2, .int h0_told, .ref h0_now, .ref h0_read, .ref h0_kept, .ref h0_snaps, .ref h0_aside, .ref h0_name, .ref h0_readName, .ref h0_keptName, .ref h0_isKept, .ref h0_onces, .int h0_snapMany, .int h0_lowest, .int h0_highest, .int h0_agreed, .int h0_jurors, .int h0_panelled, .ref h0_inSets, .int h0_surely, .int h0_asked, .ref h0_frees, .int h0_struck, .int h0_beating, .ref h0_text, .int h0_texts, .int h0_seed, .ref h0_line, .ref h0_written, .int h0_lineMany, .int h0_hasWritten, .ref h0_node, .int h0_nodes, .int h0_onesMany, .int h0_within, .int h0_top])), (aI ca h0_tape 940 F_h0_tape)])) A) ([.ref h0] : List Value).toArray s 0 0 A) (F0 m 52 ls []) := by
    intro y52_0 hy52_0 py52_0_h0_to H locs ls hP hD hS hl
    refine lv_aload_n hx hb dX12_go_52 rfl (lv_at hl 0 rfl) ?_
    refine lv_aload_n hx hb dX12_go_53 rfl (lv_at hl 0 rfl) ?_
    refine va_get (D := D) (ci := 11) (v := .int y52_0) (C := RX12) (T := TX12) (N := 48) hx hb hts k2 hown hK.1 hP 0 rfl rfl 5 (by decide) k3 (fun _ h9 => h9) rfl dX12_go_54 ?_
    refine va_put (D := D) (ci := 11) (v := .int y52_0) (ty := .int) (C := RX12) (T := TX12) (N := 48) hx hb hts k2 tyX12 tyX12_ok nmX12 hown hK.1 hP hD hS 0 rfl rfl 6 (by decide) k4 (fun _ h9 => h9) rfl (by decide +kernel) rfl rfl (Nat.le_of_ble_eq_true rfl) dX12_go_57 (fun H locs hP hD hS => ?_)
    have hP : va_P D vwCl [(h0, .inr (11, [.int h0_thrown, .ref h0_tape, .int h0_taped, .int h0_size, .int h0_limit, .int y52_0, .int y52_0, .int h0_kind, .int h0_number, .int h0_sign, .int h0_fault, .int h0_place, .long h0_word, .int h0_told, .ref h0_now, .ref h0_read, .ref h0_kept, .ref h0_snaps, .ref h0_aside, .ref h0_name, .ref h0_readName, .ref h0_keptName, .ref h0_isKept, .ref h0_onces, .int h0_snapMany, .int h0_lowest, .int h0_highest, .int h0_agreed, .int h0_jurors, .int h0_panelled, .ref h0_inSets, .int h0_surely, .int h0_asked, .ref h0_frees, .int h0_struck, .int h0_beating, .ref h0_text, .int h0_texts, .int h0_seed, .ref h0_line, .ref h0_written, .int h0_lineMany, .int h0_hasWritten, .ref h0_node, .int h0_nodes, .int h0_onesMany, .int h0_within, .int h0_top])), (aI ca h0_tape 940 F_h0_tape)] H := hP
    have hD : va_D A [(h0, .inr (11, [.int h0_thrown, .ref h0_tape, .int h0_taped, .int h0_size, .int h0_limit, .int y52_0, .int y52_0, .int h0_kind, .int h0_number, .int h0_sign, .int h0_fault, .int h0_place, .long h0_word, .int h0_told, .ref h0_now, .ref h0_read, .ref h0_kept, .ref h0_snaps, .ref h0_aside, .ref h0_name, .ref h0_readName, .ref h0_keptName, .ref h0_isKept, .ref h0_onces, .int h0_snapMany, .int h0_lowest, .int h0_highest, .int h0_agreed, .int h0_jurors, .int h0_panelled, .ref h0_inSets, .int h0_surely, .int h0_asked, .ref h0_frees, .int h0_struck, .int h0_beating, .ref h0_text, .int h0_texts, .int h0_seed, .ref h0_line, .ref h0_written, .int h0_lineMany, .int h0_hasWritten, .ref h0_node, .int h0_nodes, .int h0_onesMany, .int h0_within, .int h0_top])), (aI ca h0_tape 940 F_h0_tape)] := hD
    refine lv_aload_n hx hb dX12_go_60 rfl (lv_at hl 0 rfl) ?_
    refine va_get (D := D) (ci := 11) (v := .int h0_size) (C := RX12) (T := TX12) (N := 48) hx hb hts k2 hown hK.1 hP 0 rfl rfl 3 (by decide) k11 (fun _ h9 => h9) rfl dX12_go_61 ?_
    refine lv_aload_n hx hb dX12_go_64 rfl (lv_at hl 0 rfl) ?_
    refine va_get (D := D) (ci := 11) (v := .int h0_limit) (C := RX12) (T := TX12) (N := 48) hx hb hts k2 hown hK.1 hP 0 rfl rfl 4 (by decide) k12 (fun _ h9 => h9) rfl dX12_go_65 ?_
    refine lv_icmp_le (tgt := 96) hx hb dX12_go_68 (by decide) (fun c_1601 => ?_) (fun c_1601 => ?_)
    · skip
      have o_1602 : rl 0 h0_size h0_limit := rl_le c_1601
      have h_1603 : rg 0 2147483647 h0_limit := rl_y o_1602 i_h0_size (rga h0_limit) (by decide) (by decide)
      exact J96_1346 y52_0 y52_0 hy52_0 (rlm (by have q0 := rle py52_0_h0_to; omega)) hy52_0 (rlm (by have q0 := rle py52_0_h0_to; omega)) h_1603 H locs ls (oPsub hP [0, 1] rfl) (hD.sub [0, 1] (by decide) rfl) hS (lv_sub hl [0] rfl)
    · skip
      have o_1604 : rl 1 h0_limit h0_size := rl_nle c_1601
      have h_1605 : rg (-2147483648) 939 h0_limit := rl_x o_1604 (rga h0_limit) i_h0_size (by decide) (by decide)
      refine lv_aload_n hx hb dX12_go_71 rfl (lv_at hl 0 rfl) ?_
      refine va_get (D := D) (ci := 11) (v := .int y52_0) (C := RX12) (T := TX12) (N := 48) hx hb hts k2 hown hK.1 hP 0 rfl rfl 6 (by decide) k4 (fun _ h9 => h9) rfl dX12_go_72 ?_
      refine lv_aload_n hx hb dX12_go_75 rfl (lv_at hl 0 rfl) ?_
      refine va_get (D := D) (ci := 11) (v := .int h0_limit) (C := RX12) (T := TX12) (N := 48) hx hb hts k2 hown hK.1 hP 0 rfl rfl 4 (by decide) k12 (fun _ h9 => h9) rfl dX12_go_76 ?_
      refine lv_icmp_lt (tgt := 96) hx hb dX12_go_79 (by decide) (fun c_1606 => ?_) (fun c_1606 => ?_)
      · skip
        have o_1607 : rl 1 y52_0 h0_limit := rl_lt c_1606
        have h_1608 : rg 0 938 y52_0 := rl_x o_1607 hy52_0 h_1605 (by decide) (by decide)
        have h_1609 : rg 1 939 h0_limit := rl_y o_1607 hy52_0 h_1605 (by decide) (by decide)
        exact J96_1346 y52_0 y52_0 (rgw (lo := 0) (hi := 940) h_1608 (by decide) (by decide)) (rlm (by have q0 := rle py52_0_h0_to; omega)) (rgw (lo := 0) (hi := 940) h_1608 (by decide) (by decide)) (rlm (by have q0 := rle py52_0_h0_to; omega)) (rgw (lo := 0) (hi := 2147483647) h_1609 (by decide) (by decide)) H locs ls (oPsub hP [0, 1] rfl) (hD.sub [0, 1] (by decide) rfl) hS (lv_sub hl [0] rfl)
      · skip
        have o_1610 : rl 0 h0_limit y52_0 := rl_nlt c_1606
        refine lv_aload_n hx hb dX12_go_82 rfl (lv_at hl 0 rfl) ?_
        refine lv_aload_n hx hb dX12_go_83 rfl (lv_at hl 0 rfl) ?_
        refine va_get (D := D) (ci := 11) (v := .int h0_limit) (C := RX12) (T := TX12) (N := 48) hx hb hts k2 hown hK.1 hP 0 rfl rfl 4 (by decide) k12 (fun _ h9 => h9) rfl dX12_go_84 ?_
        refine va_put (D := D) (ci := 11) (v := .int h0_limit) (ty := .int) (C := RX12) (T := TX12) (N := 48) hx hb hts k2 tyX12 tyX12_ok nmX12 hown hK.1 hP hD hS 0 rfl rfl 6 (by decide) k4 (fun _ h9 => h9) rfl (by decide +kernel) rfl rfl (Nat.le_of_ble_eq_true rfl) dX12_go_87 (fun H locs hP hD hS => ?_)
        have hP : va_P D vwCl [(h0, .inr (11, [.int h0_thrown, .ref h0_tape, .int h0_taped, .int h0_size, .int h0_limit, .int y52_0, .int h0_limit, .int h0_kind, .int h0_number, .int h0_sign, .int h0_fault, .int h0_place, .long h0_word, .int h0_told, .ref h0_now, .ref h0_read, .ref h0_kept, .ref h0_snaps, .ref h0_aside, .ref h0_name, .ref h0_readName, .ref h0_keptName, .ref h0_isKept, .ref h0_onces, .int h0_snapMany, .int h0_lowest, .int h0_highest, .int h0_agreed, .int h0_jurors, .int h0_panelled, .ref h0_inSets, .int h0_surely, .int h0_asked, .ref h0_frees, .int h0_struck, .int h0_beating, .ref h0_text, .int h0_texts, .int h0_seed, .ref h0_line, .ref h0_written, .int h0_lineMany, .int h0_hasWritten, .ref h0_node, .int h0_nodes, .int h0_onesMany, .int h0_within, .int h0_top])), (aI ca h0_tape 940 F_h0_tape)] H := hP
        have hD : va_D A [(h0, .inr (11, [.int h0_thrown, .ref h0_tape, .int h0_taped, .int h0_size, .int h0_limit, .int y52_0, .int h0_limit, .int h0_kind, .int h0_number, .int h0_sign, .int h0_fault, .int h0_place, .long h0_word, .int h0_told, .ref h0_now, .ref h0_read, .ref h0_kept, .ref h0_snaps, .ref h0_aside, .ref h0_name, .ref h0_readName, .ref h0_keptName, .ref h0_isKept, .ref h0_onces, .int h0_snapMany, .int h0_lowest, .int h0_highest, .int h0_agreed, .int h0_jurors, .int h0_panelled, .ref h0_inSets, .int h0_surely, .int h0_asked, .ref h0_frees, .int h0_struck, .int h0_beating, .ref h0_text, .int h0_texts, .int h0_seed, .ref h0_line, .ref h0_written, .int h0_lineMany, .int h0_hasWritten, .ref h0_node, .int h0_nodes, .int h0_onesMany, .int h0_within, .int h0_top])), (aI ca h0_tape 940 F_h0_tape)] := hD
        refine lv_aload_n hx hb dX12_go_90 rfl (lv_at hl 0 rfl) ?_
        refine lv_iconst (v := 1) hx hb dX12_go_91 (by decide) ?_
        refine va_put (D := D) (ci := 11) (v := .int 1) (ty := .int) (C := RX12) (T := TX12) (N := 48) hx hb hts k2 tyX12 tyX12_ok nmX12 hown hK.1 hP hD hS 0 rfl rfl 7 (by decide) k1 (fun _ h9 => h9) rfl (by decide +kernel) rfl rfl (Nat.le_of_ble_eq_true rfl) dX12_go_92 (fun H locs hP hD hS => ?_)
        have hP : va_P D vwCl [(h0, .inr (11, [.int h0_thrown, .ref h0_tape, .int h0_taped, .int h0_size, .int h0_limit, .int y52_0, .int h0_limit, .int 1, .int h0_number, .int h0_sign, .int h0_fault, .int h0_place, .long h0_word, .int h0_told, .ref h0_now, .ref h0_read, .ref h0_kept, .ref h0_snaps, .ref h0_aside, .ref h0_name, .ref h0_readName, .ref h0_keptName, .ref h0_isKept, .ref h0_onces, .int h0_snapMany, .int h0_lowest, .int h0_highest, .int h0_agreed, .int h0_jurors, .int h0_panelled, .ref h0_inSets, .int h0_surely, .int h0_asked, .ref h0_frees, .int h0_struck, .int h0_beating, .ref h0_text, .int h0_texts, .int h0_seed, .ref h0_line, .ref h0_written, .int h0_lineMany, .int h0_hasWritten, .ref h0_node, .int h0_nodes, .int h0_onesMany, .int h0_within, .int h0_top])), (aI ca h0_tape 940 F_h0_tape)] H := hP
        have hD : va_D A [(h0, .inr (11, [.int h0_thrown, .ref h0_tape, .int h0_taped, .int h0_size, .int h0_limit, .int y52_0, .int h0_limit, .int 1, .int h0_number, .int h0_sign, .int h0_fault, .int h0_place, .long h0_word, .int h0_told, .ref h0_now, .ref h0_read, .ref h0_kept, .ref h0_snaps, .ref h0_aside, .ref h0_name, .ref h0_readName, .ref h0_keptName, .ref h0_isKept, .ref h0_onces, .int h0_snapMany, .int h0_lowest, .int h0_highest, .int h0_agreed, .int h0_jurors, .int h0_panelled, .ref h0_inSets, .int h0_surely, .int h0_asked, .ref h0_frees, .int h0_struck, .int h0_beating, .ref h0_text, .int h0_texts, .int h0_seed, .ref h0_line, .ref h0_written, .int h0_lineMany, .int h0_hasWritten, .ref h0_node, .int h0_nodes, .int h0_onesMany, .int h0_within, .int h0_top])), (aI ca h0_tape 940 F_h0_tape)] := hD
        exact oE_v hx hb hr hlocks hP hD hS (y52_0, h0_limit, 1, h0_number, h0_sign, h0_word) [0, 1] rfl (by decide) ⟨hy52_0, (rgw (lo := (-2147483648)) (hi := 940) h_1605 (by decide) (by decide)), (⟨by decide, by decide⟩ : rg 0 4 (1 : Int32)), (show rl 0 h0_to y52_0 from rlm (by have q0 := rle py52_0_h0_to; omega)), (show lk h0_to 1 y52_0 from lkm (by have z0 := ((⟨by decide, by decide⟩ : rg 1 1 (1 : Int32))).2; have q0 := rle py52_0_h0_to; omega))⟩ (Nat.le_of_ble_eq_true rfl) (Nat.le_of_ble_eq_true rfl) dX12_go_95
  have J0_1611 : ∀ (n : Nat) (y0_0 : Int32), True → rg 1 940 y0_0 → rl 1 h0_to y0_0 → rg 1 940 h0_size → rg 0 939 h0_to → rl 1 h0_to h0_size → 940 < y0_0.toInt + (n : Int) → ∀ (H : Heap) (locs : List Loc) (ls : Array Slot), va_P D vwCl [(h0, .inr (11, [.int h0_thrown, .ref h0_tape, .int h0_taped, .int h0_size, .int h0_limit, .int y0_0, .int h0_from, .int h0_kind, .int h0_number, .int h0_sign, .int h0_fault, .int h0_place, .long h0_word, .int h0_told, .ref h0_now, .ref h0_read, .ref h0_kept, .ref h0_snaps, .ref h0_aside, .ref h0_name, .ref h0_readName, .ref h0_keptName, .ref h0_isKept, .ref h0_onces, .int h0_snapMany, .int h0_lowest, .int h0_highest, .int h0_agreed, .int h0_jurors, .int h0_panelled, .ref h0_inSets, .int h0_surely, .int h0_asked, .ref h0_frees, .int h0_struck, .int h0_beating, .ref h0_text, .int h0_texts, .int h0_seed, .ref h0_line, .ref h0_written, .int h0_lineMany, .int h0_hasWritten, .ref h0_node, .int h0_nodes, .int h0_onesMany, .int h0_within, .int h0_top])), (aI ca h0_tape 940 F_h0_tape)] H → va_D A [(h0, .inr (11, [.int h0_thrown, .ref h0_tape, .int h0_taped, .int h0_size, .int h0_limit, .int y0_0, .int h0_from, .int h0_kind, .int h0_number, .int h0_sign, .int h0_fault, .int h0_place, .long h0_word, .int h0_told, .ref h0_now, .ref h0_read, .ref h0_kept, .ref h0_snaps, .ref h0_aside, .ref h0_name, .ref h0_readName, .ref h0_keptName, .ref h0_isKept, .ref h0_onces, .int h0_snapMany, .int h0_lowest, .int h0_highest, .int h0_agreed, .int h0_jurors, .int h0_panelled, .ref h0_inSets, .int h0_surely, .int h0_asked, .ref h0_frees, .int h0_struck, .int h0_beating, .ref h0_text, .int h0_texts, .int h0_seed, .ref h0_line, .ref h0_written, .int h0_lineMany, .int h0_hasWritten, .ref h0_node, .int h0_nodes, .int h0_onesMany, .int h0_within, .int h0_top])), (aI ca h0_tape 940 F_h0_tape)] → va_S A s.heap H locs → lv_has ls 5 [(0, .ref h0)] → W p l e ({ frames := 1, cells := 0, slots := 0, locals := 21 } : Room) s m ([.ref h0] : List Value).toArray below meth c H locs 0 0 (MQ below ((oQv D (fun (u : Int32 × Int32 × Int32 × Int32 × Int32 × Int64) => (rg 0 940 u.1) ∧ (rg (-2147483648) 940 u.2.1) ∧ (rg 0 4 u.2.2.1) ∧ (rl 0 h0_to u.1) ∧ (lk h0_to u.2.2.1 u.1)) (fun (u : Int32 × Int32 × Int32 × Int32 × Int32 × Int64) => [(h0, .inr (11, [.int h0_thrown, .ref h0_tape, .int h0_taped, .int h0_size, .int h0_limit, .int u.1, .int u.2.1, .int u.2.2.1, .int u.2.2.2.1, .int u.2.2.2.2.1, .int h0_fault, .int h0_place, .long u.2.2.2.2.2, .int h0_told, .ref h0_now, .ref h0_read, .ref h0_kept, .ref h0_snaps, .ref h0_aside, .ref h0_name, .ref h0_readName, .ref h0_keptName, .ref h0_isKept, .ref h0_onces, .int h0_snapMany, .int h0_lowest, .int h0_highest, .int h0_agreed, .int h0_jurors, .int h0_panelled, .ref h0_inSets, .int h0_surely, .int h0_asked, .ref h0_frees, .int h0_struck, .int h0_beating, .ref h0_text, .int h0_texts, .int h0_seed, .ref h0_line, .ref h0_written, .int h0_lineMany, .int h0_hasWritten, .ref h0_node, .int h0_nodes, .int h0_onesMany, .int h0_within, .int h0_top])), (aI ca h0_tape 940 F_h0_tape)])) A) ([.ref h0] : List Value).toArray s 0 0 A) (F0 m 0 ls []) := by
    intro n
    induction n with
    | zero => intro y0_0 _ hy0_0 py0_0_h0_to t0_h0_size t0_h0_to o0_h0_to_h0_size hn; exact absurd hn (by have q9 := hy0_0.2; omega)
    | succ n ih =>
      intro y0_0 _ hy0_0 py0_0_h0_to t0_h0_size t0_h0_to o0_h0_to_h0_size hn H locs ls hP hD hS hl
      have J39_1632 : ∀ (_ : Unit), rg 2 940 h0_size → rg 1 939 y0_0 → rl 1 y0_0 h0_size → ∀ (H : Heap) (locs : List Loc) (ls : Array Slot), va_P D vwCl [(h0, .inr (11, [.int h0_thrown, .ref h0_tape, .int h0_taped, .int h0_size, .int h0_limit, .int y0_0, .int h0_from, .int h0_kind, .int h0_number, .int h0_sign, .int h0_fault, .int h0_place, .long h0_word, .int h0_told, .ref h0_now, .ref h0_read, .ref h0_kept, .ref h0_snaps, .ref h0_aside, .ref h0_name, .ref h0_readName, .ref h0_keptName, .ref h0_isKept, .ref h0_onces, .int h0_snapMany, .int h0_lowest, .int h0_highest, .int h0_agreed, .int h0_jurors, .int h0_panelled, .ref h0_inSets, .int h0_surely, .int h0_asked, .ref h0_frees, .int h0_struck, .int h0_beating, .ref h0_text, .int h0_texts, .int h0_seed, .ref h0_line, .ref h0_written, .int h0_lineMany, .int h0_hasWritten, .ref h0_node, .int h0_nodes, .int h0_onesMany, .int h0_within, .int h0_top])), (aI ca h0_tape 940 F_h0_tape)] H → va_D A [(h0, .inr (11, [.int h0_thrown, .ref h0_tape, .int h0_taped, .int h0_size, .int h0_limit, .int y0_0, .int h0_from, .int h0_kind, .int h0_number, .int h0_sign, .int h0_fault, .int h0_place, .long h0_word, .int h0_told, .ref h0_now, .ref h0_read, .ref h0_kept, .ref h0_snaps, .ref h0_aside, .ref h0_name, .ref h0_readName, .ref h0_keptName, .ref h0_isKept, .ref h0_onces, .int h0_snapMany, .int h0_lowest, .int h0_highest, .int h0_agreed, .int h0_jurors, .int h0_panelled, .ref h0_inSets, .int h0_surely, .int h0_asked, .ref h0_frees, .int h0_struck, .int h0_beating, .ref h0_text, .int h0_texts, .int h0_seed, .ref h0_line, .ref h0_written, .int h0_lineMany, .int h0_hasWritten, .ref h0_node, .int h0_nodes, .int h0_onesMany, .int h0_within, .int h0_top])), (aI ca h0_tape 940 F_h0_tape)] → va_S A s.heap H locs → lv_has ls 5 [(0, .ref h0)] → W p l e ({ frames := 1, cells := 0, slots := 0, locals := 21 } : Room) s m ([.ref h0] : List Value).toArray below meth c H locs 0 0 (MQ below ((oQv D (fun (u : Int32 × Int32 × Int32 × Int32 × Int32 × Int64) => (rg 0 940 u.1) ∧ (rg (-2147483648) 940 u.2.1) ∧ (rg 0 4 u.2.2.1) ∧ (rl 0 h0_to u.1) ∧ (lk h0_to u.2.2.1 u.1)) (fun (u : Int32 × Int32 × Int32 × Int32 × Int32 × Int64) => [(h0, .inr (11, [.int h0_thrown, .ref h0_tape, .int h0_taped, .int h0_size, .int h0_limit, .int u.1, .int u.2.1, .int u.2.2.1, .int u.2.2.2.1, .int u.2.2.2.2.1, .int h0_fault, .int h0_place, .long u.2.2.2.2.2, .int h0_told, .ref h0_now, .ref h0_read, .ref h0_kept, .ref h0_snaps, .ref h0_aside, .ref h0_name, .ref h0_readName, .ref h0_keptName, .ref h0_isKept, .ref h0_onces, .int h0_snapMany, .int h0_lowest, .int h0_highest, .int h0_agreed, .int h0_jurors, .int h0_panelled, .ref h0_inSets, .int h0_surely, .int h0_asked, .ref h0_frees, .int h0_struck, .int h0_beating, .ref h0_text, .int h0_texts, .int h0_seed, .ref h0_line, .ref h0_written, .int h0_lineMany, .int h0_hasWritten, .ref h0_node, .int h0_nodes, .int h0_onesMany, .int h0_within, .int h0_top])), (aI ca h0_tape 940 F_h0_tape)])) A) ([.ref h0] : List Value).toArray s 0 0 A) (F0 m 39 ls []) := by
        intro _ t39_h0_size t39_y0_0 o39_y0_0_h0_size H locs ls hP hD hS hl
        refine lv_aload_n hx hb dX12_go_39 rfl (lv_at hl 0 rfl) ?_
        refine lv_dup hx hb dX12_go_40 rfl ?_
        refine va_get (D := D) (ci := 11) (v := .int y0_0) (C := RX12) (T := TX12) (N := 48) hx hb hts k2 hown hK.1 hP 0 rfl rfl 5 (by decide) k3 (fun _ h9 => h9) rfl dX12_go_41 ?_
        refine lv_iconst (v := 1) hx hb dX12_go_44 (by decide) ?_
        refine lv_iadd hx hb dX12_go_45 ?_
        refine lv_topi (fun x_1633 ex_1633 => ?_)
        have h_1634 : rg 2 940 x_1633 := by rw [ex_1633]; exact rg_add t39_y0_0 (⟨by decide, by decide⟩ : rg 1 1 (1 : Int32)) (by decide) (by decide) (by decide) (by decide)
        have l_1635 : lq x_1633.toInt (y0_0.toInt + 1) := lqm (by rw [ex_1633]; have q := tadd t39_y0_0 (⟨by decide, by decide⟩ : rg 1 1 (1 : Int32)) (by decide) (by decide); have r1 := lqe (lqm (by decide) : lq (1 : Int32).toInt 1); omega)
        refine va_put (D := D) (ci := 11) (v := .int x_1633) (ty := .int) (C := RX12) (T := TX12) (N := 48) hx hb hts k2 tyX12 tyX12_ok nmX12 hown hK.1 hP hD hS 0 rfl rfl 5 (by decide) k3 (fun _ h9 => h9) rfl (by decide +kernel) rfl rfl (Nat.le_of_ble_eq_true rfl) dX12_go_46 (fun H locs hP hD hS => ?_)
        have hP : va_P D vwCl [(h0, .inr (11, [.int h0_thrown, .ref h0_tape, .int h0_taped, .int h0_size, .int h0_limit, .int x_1633, .int h0_from, .int h0_kind, .int h0_number, .int h0_sign, .int h0_fault, .int h0_place, .long h0_word, .int h0_told, .ref h0_now, .ref h0_read, .ref h0_kept, .ref h0_snaps, .ref h0_aside, .ref h0_name, .ref h0_readName, .ref h0_keptName, .ref h0_isKept, .ref h0_onces, .int h0_snapMany, .int h0_lowest, .int h0_highest, .int h0_agreed, .int h0_jurors, .int h0_panelled, .ref h0_inSets, .int h0_surely, .int h0_asked, .ref h0_frees, .int h0_struck, .int h0_beating, .ref h0_text, .int h0_texts, .int h0_seed, .ref h0_line, .ref h0_written, .int h0_lineMany, .int h0_hasWritten, .ref h0_node, .int h0_nodes, .int h0_onesMany, .int h0_within, .int h0_top])), (aI ca h0_tape 940 F_h0_tape)] H := hP
        have hD : va_D A [(h0, .inr (11, [.int h0_thrown, .ref h0_tape, .int h0_taped, .int h0_size, .int h0_limit, .int x_1633, .int h0_from, .int h0_kind, .int h0_number, .int h0_sign, .int h0_fault, .int h0_place, .long h0_word, .int h0_told, .ref h0_now, .ref h0_read, .ref h0_kept, .ref h0_snaps, .ref h0_aside, .ref h0_name, .ref h0_readName, .ref h0_keptName, .ref h0_isKept, .ref h0_onces, .int h0_snapMany, .int h0_lowest, .int h0_highest, .int h0_agreed, .int h0_jurors, .int h0_panelled, .ref h0_inSets, .int h0_surely, .int h0_asked, .ref h0_frees, .int h0_struck, .int h0_beating, .ref h0_text, .int h0_texts, .int h0_seed, .ref h0_line, .ref h0_written, .int h0_lineMany, .int h0_hasWritten, .ref h0_node, .int h0_nodes, .int h0_onesMany, .int h0_within, .int h0_top])), (aI ca h0_tape 940 F_h0_tape)] := hD
        refine lv_goto (tgt := 0) hx hb dX12_go_49 (by decide) ?_
        exact ih x_1633 trivial (rgw (lo := 1) (hi := 940) h_1634 (by decide) (by decide)) (rlm (by have q0 := lqe l_1635; have q1 := rle py0_0_h0_to; omega)) (rgw (lo := 1) (hi := 940) t39_h0_size (by decide) (by decide)) t0_h0_to o0_h0_to_h0_size (by have q0 := lqe l_1635; omega) H locs ls (oPsub hP [0, 1] rfl) (hD.sub [0, 1] (by decide) rfl) hS (lv_sub hl [0] rfl)
      refine lv_aload_n hx hb dX12_go_0 rfl (lv_at hl 0 rfl) ?_
      refine va_get (D := D) (ci := 11) (v := .int y0_0) (C := RX12) (T := TX12) (N := 48) hx hb hts k2 hown hK.1 hP 0 rfl rfl 5 (by decide) k3 (fun _ h9 => h9) rfl dX12_go_1 ?_
      refine lv_aload_n hx hb dX12_go_4 rfl (lv_at hl 0 rfl) ?_
      refine va_get (D := D) (ci := 11) (v := .int h0_size) (C := RX12) (T := TX12) (N := 48) hx hb hts k2 hown hK.1 hP 0 rfl rfl 3 (by decide) k11 (fun _ h9 => h9) rfl dX12_go_5 ?_
      refine lv_icmp_ge (tgt := 52) hx hb dX12_go_8 (by decide) (fun c_1636 => ?_) (fun c_1636 => ?_)
      · skip
        have o_1637 : rl 0 h0_size y0_0 := rl_le c_1636
        exact J52_1600 y0_0 (rgw (lo := 0) (hi := 940) hy0_0 (by decide) (by decide)) (rlm (by have q0 := rle o0_h0_to_h0_size; have q1 := rle o_1637; omega)) H locs ls (oPsub hP [0, 1] rfl) (hD.sub [0, 1] (by decide) rfl) hS (lv_sub hl [0] rfl)
      · skip
        have o_1638 : rl 1 y0_0 h0_size := rl_nle c_1636
        have h_1639 : rg 1 939 y0_0 := rl_x o_1638 hy0_0 t0_h0_size (by decide) (by decide)
        have h_1640 : rg 2 940 h0_size := rl_y o_1638 hy0_0 t0_h0_size (by decide) (by decide)
        refine lv_aload_n hx hb dX12_go_11 rfl (lv_at hl 0 rfl) ?_
        refine va_get (D := D) (ci := 11) (v := .ref h0_tape) (C := RX12) (T := TX12) (N := 48) hx hb hts k2 hown hK.1 hP 0 rfl rfl 1 (by decide) k9 (fun _ h9 => h9) rfl dX12_go_12 ?_
        refine lv_aload_n hx hb dX12_go_15 rfl (lv_at hl 0 rfl) ?_
        refine va_get (D := D) (ci := 11) (v := .int y0_0) (C := RX12) (T := TX12) (N := 48) hx hb hts k2 hown hK.1 hP 0 rfl rfl 5 (by decide) k3 (fun _ h9 => h9) rfl dX12_go_16 ?_
        refine va_iald hx hb hK.1 hP 1 0 rfl rfl (rg_in h_1639 (by decide) (by decide)) dX12_go_19 ?_
        refine lv_topi (fun x_1641 ex_1641 => ?_)
        have h_1642 : rg 0 255 x_1641 := by rw [ex_1641]; exact sg_at (sg_w (a' := 1) (b' := 940) (lo' := 0) (hi' := 255) (sg_w (a' := 0) (b' := 940) (lo' := 0) (hi' := 255) s_h0_tape_0 (by decide) (by decide) (by decide) (by decide)) (by decide) (by decide) (by decide) (by decide)) h_1639 (by decide) (by decide) (by decide)
        refine lv_bipush (v := 32) hx hb dX12_go_20 (by decide) ?_
        refine lv_icmp_eq (tgt := 39) hx hb dX12_go_22 (by decide) (fun c_1643 => ?_) (fun c_1643 => ?_)
        · skip
          have o_1644 : rl 0 x_1641 32 := rl_eq c_1643
          have h_1645 : rg 0 32 x_1641 := rl_x o_1644 h_1642 (⟨by decide, by decide⟩ : rg 32 32 (32 : Int32)) (by decide) (by decide)
          have o_1646 : rl 0 32 x_1641 := rl_eq c_1643.symm
          have h_1647 : rg 32 32 x_1641 := rl_y o_1646 (⟨by decide, by decide⟩ : rg 32 32 (32 : Int32)) h_1645 (by decide) (by decide)
          exact J39_1632 () h_1640 h_1639 o_1638 H locs ls (oPsub hP [0, 1] rfl) (hD.sub [0, 1] (by decide) rfl) hS (lv_sub hl [0] rfl)
        · skip
          refine lv_aload_n hx hb dX12_go_25 rfl (lv_at hl 0 rfl) ?_
          refine va_get (D := D) (ci := 11) (v := .ref h0_tape) (C := RX12) (T := TX12) (N := 48) hx hb hts k2 hown hK.1 hP 0 rfl rfl 1 (by decide) k9 (fun _ h9 => h9) rfl dX12_go_26 ?_
          refine lv_aload_n hx hb dX12_go_29 rfl (lv_at hl 0 rfl) ?_
          refine va_get (D := D) (ci := 11) (v := .int y0_0) (C := RX12) (T := TX12) (N := 48) hx hb hts k2 hown hK.1 hP 0 rfl rfl 5 (by decide) k3 (fun _ h9 => h9) rfl dX12_go_30 ?_
          refine va_iald hx hb hK.1 hP 1 0 rfl rfl (rg_in h_1639 (by decide) (by decide)) dX12_go_33 ?_
          refine oti x_1641 ex_1641.symm ?_
          refine lv_bipush (v := 10) hx hb dX12_go_34 (by decide) ?_
          refine lv_icmp_ne (tgt := 52) hx hb dX12_go_36 (by decide) (fun c_1648 => ?_) (fun c_1648 => ?_)
          · skip
            exact J52_1600 y0_0 (rgw (lo := 0) (hi := 940) h_1639 (by decide) (by decide)) (rlm (by have q0 := rle py0_0_h0_to; omega)) H locs ls (oPsub hP [0, 1] rfl) (hD.sub [0, 1] (by decide) rfl) hS (lv_sub hl [0] rfl)
          · skip
            have o_1649 : rl 0 x_1641 10 := rl_eq c_1648
            have h_1650 : rg 0 10 x_1641 := rl_x o_1649 h_1642 (⟨by decide, by decide⟩ : rg 10 10 (10 : Int32)) (by decide) (by decide)
            have o_1651 : rl 0 10 x_1641 := rl_eq c_1648.symm
            have h_1652 : rg 10 10 x_1641 := rl_y o_1651 (⟨by decide, by decide⟩ : rg 10 10 (10 : Int32)) h_1650 (by decide) (by decide)
            exact J39_1632 () h_1640 h_1639 o_1638 H locs ls (oPsub hP [0, 1] rfl) (hD.sub [0, 1] (by decide) rfl) hS (lv_sub hl [0] rfl)
  refine lv_aload_n hx hb dX12_go_0 rfl (lv_at hl 0 rfl) ?_
  refine va_get (D := D) (ci := 11) (v := .int h0_to) (C := RX12) (T := TX12) (N := 48) hx hb hts k2 hown hK.1 hP 0 rfl rfl 5 (by decide) k3 (fun _ h9 => h9) rfl dX12_go_1 ?_
  refine lv_aload_n hx hb dX12_go_4 rfl (lv_at hl 0 rfl) ?_
  refine va_get (D := D) (ci := 11) (v := .int h0_size) (C := RX12) (T := TX12) (N := 48) hx hb hts k2 hown hK.1 hP 0 rfl rfl 3 (by decide) k11 (fun _ h9 => h9) rfl dX12_go_5 ?_
  refine lv_icmp_ge (tgt := 52) hx hb dX12_go_8 (by decide) (fun c_1653 => ?_) (fun c_1653 => ?_)
  · skip
    have o_1654 : rl 0 h0_size h0_to := rl_le c_1653
    exact J52_1600 h0_to i_h0_to (rlm (by omega)) H locs ls (oPsub hP [0, 1] rfl) (hD.sub [0, 1] (by decide) rfl) hS (lv_sub hl [0] rfl)
  · skip
    have o_1655 : rl 1 h0_to h0_size := rl_nle c_1653
    have h_1656 : rg 0 939 h0_to := rl_x o_1655 i_h0_to i_h0_size (by decide) (by decide)
    have h_1657 : rg 1 940 h0_size := rl_y o_1655 i_h0_to i_h0_size (by decide) (by decide)
    refine lv_aload_n hx hb dX12_go_11 rfl (lv_at hl 0 rfl) ?_
    refine va_get (D := D) (ci := 11) (v := .ref h0_tape) (C := RX12) (T := TX12) (N := 48) hx hb hts k2 hown hK.1 hP 0 rfl rfl 1 (by decide) k9 (fun _ h9 => h9) rfl dX12_go_12 ?_
    refine lv_aload_n hx hb dX12_go_15 rfl (lv_at hl 0 rfl) ?_
    refine va_get (D := D) (ci := 11) (v := .int h0_to) (C := RX12) (T := TX12) (N := 48) hx hb hts k2 hown hK.1 hP 0 rfl rfl 5 (by decide) k3 (fun _ h9 => h9) rfl dX12_go_16 ?_
    refine va_iald hx hb hK.1 hP 1 0 rfl rfl (rg_in h_1656 (by decide) (by decide)) dX12_go_19 ?_
    refine lv_topi (fun x_1658 ex_1658 => ?_)
    have h_1659 : rg 0 255 x_1658 := by rw [ex_1658]; exact sg_at s_h0_tape_0 h_1656 (by decide) (by decide) (by decide)
    refine lv_bipush (v := 32) hx hb dX12_go_20 (by decide) ?_
    refine lv_icmp_eq (tgt := 39) hx hb dX12_go_22 (by decide) (fun c_1660 => ?_) (fun c_1660 => ?_)
    · skip
      have o_1661 : rl 0 x_1658 32 := rl_eq c_1660
      have h_1662 : rg 0 32 x_1658 := rl_x o_1661 h_1659 (⟨by decide, by decide⟩ : rg 32 32 (32 : Int32)) (by decide) (by decide)
      have o_1663 : rl 0 32 x_1658 := rl_eq c_1660.symm
      have h_1664 : rg 32 32 x_1658 := rl_y o_1663 (⟨by decide, by decide⟩ : rg 32 32 (32 : Int32)) h_1662 (by decide) (by decide)
      refine lv_aload_n hx hb dX12_go_39 rfl (lv_at hl 0 rfl) ?_
      refine lv_dup hx hb dX12_go_40 rfl ?_
      refine va_get (D := D) (ci := 11) (v := .int h0_to) (C := RX12) (T := TX12) (N := 48) hx hb hts k2 hown hK.1 hP 0 rfl rfl 5 (by decide) k3 (fun _ h9 => h9) rfl dX12_go_41 ?_
      refine lv_iconst (v := 1) hx hb dX12_go_44 (by decide) ?_
      refine lv_iadd hx hb dX12_go_45 ?_
      refine lv_topi (fun x_1665 ex_1665 => ?_)
      have h_1666 : rg 1 940 x_1665 := by rw [ex_1665]; exact rg_add h_1656 (⟨by decide, by decide⟩ : rg 1 1 (1 : Int32)) (by decide) (by decide) (by decide) (by decide)
      have l_1667 : lq x_1665.toInt (h0_to.toInt + 1) := lqm (by rw [ex_1665]; have q := tadd h_1656 (⟨by decide, by decide⟩ : rg 1 1 (1 : Int32)) (by decide) (by decide); have r1 := lqe (lqm (by decide) : lq (1 : Int32).toInt 1); omega)
      refine va_put (D := D) (ci := 11) (v := .int x_1665) (ty := .int) (C := RX12) (T := TX12) (N := 48) hx hb hts k2 tyX12 tyX12_ok nmX12 hown hK.1 hP hD hS 0 rfl rfl 5 (by decide) k3 (fun _ h9 => h9) rfl (by decide +kernel) rfl rfl (Nat.le_of_ble_eq_true rfl) dX12_go_46 (fun H locs hP hD hS => ?_)
      have hP : va_P D vwCl [(h0, .inr (11, [.int h0_thrown, .ref h0_tape, .int h0_taped, .int h0_size, .int h0_limit, .int x_1665, .int h0_from, .int h0_kind, .int h0_number, .int h0_sign, .int h0_fault, .int h0_place, .long h0_word, .int h0_told, .ref h0_now, .ref h0_read, .ref h0_kept, .ref h0_snaps, .ref h0_aside, .ref h0_name, .ref h0_readName, .ref h0_keptName, .ref h0_isKept, .ref h0_onces, .int h0_snapMany, .int h0_lowest, .int h0_highest, .int h0_agreed, .int h0_jurors, .int h0_panelled, .ref h0_inSets, .int h0_surely, .int h0_asked, .ref h0_frees, .int h0_struck, .int h0_beating, .ref h0_text, .int h0_texts, .int h0_seed, .ref h0_line, .ref h0_written, .int h0_lineMany, .int h0_hasWritten, .ref h0_node, .int h0_nodes, .int h0_onesMany, .int h0_within, .int h0_top])), (aI ca h0_tape 940 F_h0_tape)] H := hP
      have hD : va_D A [(h0, .inr (11, [.int h0_thrown, .ref h0_tape, .int h0_taped, .int h0_size, .int h0_limit, .int x_1665, .int h0_from, .int h0_kind, .int h0_number, .int h0_sign, .int h0_fault, .int h0_place, .long h0_word, .int h0_told, .ref h0_now, .ref h0_read, .ref h0_kept, .ref h0_snaps, .ref h0_aside, .ref h0_name, .ref h0_readName, .ref h0_keptName, .ref h0_isKept, .ref h0_onces, .int h0_snapMany, .int h0_lowest, .int h0_highest, .int h0_agreed, .int h0_jurors, .int h0_panelled, .ref h0_inSets, .int h0_surely, .int h0_asked, .ref h0_frees, .int h0_struck, .int h0_beating, .ref h0_text, .int h0_texts, .int h0_seed, .ref h0_line, .ref h0_written, .int h0_lineMany, .int h0_hasWritten, .ref h0_node, .int h0_nodes, .int h0_onesMany, .int h0_within, .int h0_top])), (aI ca h0_tape 940 F_h0_tape)] := hD
      refine lv_goto (tgt := 0) hx hb dX12_go_49 (by decide) ?_
      exact J0_1611 940 x_1665 trivial h_1666 (rlm (by have q0 := lqe l_1667; omega)) h_1657 h_1656 o_1655 (by have q0 := h_1666.1; omega) H locs ls (oPsub hP [0, 1] rfl) (hD.sub [0, 1] (by decide) rfl) hS (lv_sub hl [0] rfl)
    · skip
      refine lv_aload_n hx hb dX12_go_25 rfl (lv_at hl 0 rfl) ?_
      refine va_get (D := D) (ci := 11) (v := .ref h0_tape) (C := RX12) (T := TX12) (N := 48) hx hb hts k2 hown hK.1 hP 0 rfl rfl 1 (by decide) k9 (fun _ h9 => h9) rfl dX12_go_26 ?_
      refine lv_aload_n hx hb dX12_go_29 rfl (lv_at hl 0 rfl) ?_
      refine va_get (D := D) (ci := 11) (v := .int h0_to) (C := RX12) (T := TX12) (N := 48) hx hb hts k2 hown hK.1 hP 0 rfl rfl 5 (by decide) k3 (fun _ h9 => h9) rfl dX12_go_30 ?_
      refine va_iald hx hb hK.1 hP 1 0 rfl rfl (rg_in h_1656 (by decide) (by decide)) dX12_go_33 ?_
      refine oti x_1658 ex_1658.symm ?_
      refine lv_bipush (v := 10) hx hb dX12_go_34 (by decide) ?_
      refine lv_icmp_ne (tgt := 52) hx hb dX12_go_36 (by decide) (fun c_1668 => ?_) (fun c_1668 => ?_)
      · skip
        exact J52_1600 h0_to (rgw (lo := 0) (hi := 940) h_1656 (by decide) (by decide)) (rlm (by omega)) H locs ls (oPsub hP [0, 1] rfl) (hD.sub [0, 1] (by decide) rfl) hS (lv_sub hl [0] rfl)
      · skip
        have o_1669 : rl 0 x_1658 10 := rl_eq c_1668
        have h_1670 : rg 0 10 x_1658 := rl_x o_1669 h_1659 (⟨by decide, by decide⟩ : rg 10 10 (10 : Int32)) (by decide) (by decide)
        have o_1671 : rl 0 10 x_1658 := rl_eq c_1668.symm
        have h_1672 : rg 10 10 x_1658 := rl_y o_1671 (⟨by decide, by decide⟩ : rg 10 10 (10 : Int32)) h_1670 (by decide) (by decide)
        refine lv_aload_n hx hb dX12_go_39 rfl (lv_at hl 0 rfl) ?_
        refine lv_dup hx hb dX12_go_40 rfl ?_
        refine va_get (D := D) (ci := 11) (v := .int h0_to) (C := RX12) (T := TX12) (N := 48) hx hb hts k2 hown hK.1 hP 0 rfl rfl 5 (by decide) k3 (fun _ h9 => h9) rfl dX12_go_41 ?_
        refine lv_iconst (v := 1) hx hb dX12_go_44 (by decide) ?_
        refine lv_iadd hx hb dX12_go_45 ?_
        refine lv_topi (fun x_1673 ex_1673 => ?_)
        have h_1674 : rg 1 940 x_1673 := by rw [ex_1673]; exact rg_add h_1656 (⟨by decide, by decide⟩ : rg 1 1 (1 : Int32)) (by decide) (by decide) (by decide) (by decide)
        have l_1675 : lq x_1673.toInt (h0_to.toInt + 1) := lqm (by rw [ex_1673]; have q := tadd h_1656 (⟨by decide, by decide⟩ : rg 1 1 (1 : Int32)) (by decide) (by decide); have r1 := lqe (lqm (by decide) : lq (1 : Int32).toInt 1); omega)
        refine va_put (D := D) (ci := 11) (v := .int x_1673) (ty := .int) (C := RX12) (T := TX12) (N := 48) hx hb hts k2 tyX12 tyX12_ok nmX12 hown hK.1 hP hD hS 0 rfl rfl 5 (by decide) k3 (fun _ h9 => h9) rfl (by decide +kernel) rfl rfl (Nat.le_of_ble_eq_true rfl) dX12_go_46 (fun H locs hP hD hS => ?_)
        have hP : va_P D vwCl [(h0, .inr (11, [.int h0_thrown, .ref h0_tape, .int h0_taped, .int h0_size, .int h0_limit, .int x_1673, .int h0_from, .int h0_kind, .int h0_number, .int h0_sign, .int h0_fault, .int h0_place, .long h0_word, .int h0_told, .ref h0_now, .ref h0_read, .ref h0_kept, .ref h0_snaps, .ref h0_aside, .ref h0_name, .ref h0_readName, .ref h0_keptName, .ref h0_isKept, .ref h0_onces, .int h0_snapMany, .int h0_lowest, .int h0_highest, .int h0_agreed, .int h0_jurors, .int h0_panelled, .ref h0_inSets, .int h0_surely, .int h0_asked, .ref h0_frees, .int h0_struck, .int h0_beating, .ref h0_text, .int h0_texts, .int h0_seed, .ref h0_line, .ref h0_written, .int h0_lineMany, .int h0_hasWritten, .ref h0_node, .int h0_nodes, .int h0_onesMany, .int h0_within, .int h0_top])), (aI ca h0_tape 940 F_h0_tape)] H := hP
        have hD : va_D A [(h0, .inr (11, [.int h0_thrown, .ref h0_tape, .int h0_taped, .int h0_size, .int h0_limit, .int x_1673, .int h0_from, .int h0_kind, .int h0_number, .int h0_sign, .int h0_fault, .int h0_place, .long h0_word, .int h0_told, .ref h0_now, .ref h0_read, .ref h0_kept, .ref h0_snaps, .ref h0_aside, .ref h0_name, .ref h0_readName, .ref h0_keptName, .ref h0_isKept, .ref h0_onces, .int h0_snapMany, .int h0_lowest, .int h0_highest, .int h0_agreed, .int h0_jurors, .int h0_panelled, .ref h0_inSets, .int h0_surely, .int h0_asked, .ref h0_frees, .int h0_struck, .int h0_beating, .ref h0_text, .int h0_texts, .int h0_seed, .ref h0_line, .ref h0_written, .int h0_lineMany, .int h0_hasWritten, .ref h0_node, .int h0_nodes, .int h0_onesMany, .int h0_within, .int h0_top])), (aI ca h0_tape 940 F_h0_tape)] := hD
        refine lv_goto (tgt := 0) hx hb dX12_go_49 (by decide) ?_
        exact J0_1611 940 x_1673 trivial h_1674 (rlm (by have q0 := lqe l_1675; omega)) h_1657 h_1656 o_1655 (by have q0 := h_1674.1; omega) H locs ls (oPsub hP [0, 1] rfl) (hD.sub [0, 1] (by decide) rfl) hS (lv_sub hl [0] rfl)
