theorem dX12_readBracket_0 : decode cX12_readBracket 0 = .ok (.aload_n 0, 1) := by decide +kernel
theorem dX12_readBracket_1 : decode cX12_readBracket 1 = .ok (.invokevirtual 415, 3) := by decide +kernel
theorem dX12_saysOne_0 : decode cX12_saysOne 0 = .ok (.iconst 4, 1) := by decide +kernel
theorem dX12_saysOne_1 : decode cX12_saysOne 1 = .ok (.aload_n 0, 1) := by decide +kernel
theorem dX12_saysOne_2 : decode cX12_saysOne 2 = .ok (.getfield 381, 3) := by decide +kernel
theorem dX12_saysOne_5 : decode cX12_saysOne 5 = .ok (.imul, 1) := by decide +kernel
theorem dX12_saysOne_6 : decode cX12_saysOne 6 = .ok (.istore 5, 2) := by decide +kernel
theorem dX12_saysOne_8 : decode cX12_saysOne 8 = .ok (.aload_n 0, 1) := by decide +kernel
theorem dX12_saysOne_9 : decode cX12_saysOne 9 = .ok (.getfield 166, 3) := by decide +kernel
theorem dX12_saysOne_12 : decode cX12_saysOne 12 = .ok (.iload 5, 2) := by decide +kernel
theorem dX12_saysOne_14 : decode cX12_saysOne 14 = .ok (.iload_n 1, 1) := by decide +kernel
theorem dX12_saysOne_15 : decode cX12_saysOne 15 = .ok (.iastore, 1) := by decide +kernel
theorem dX12_saysOne_16 : decode cX12_saysOne 16 = .ok (.aload_n 0, 1) := by decide +kernel
theorem dX12_saysOne_17 : decode cX12_saysOne 17 = .ok (.getfield 166, 3) := by decide +kernel
theorem dX12_saysOne_20 : decode cX12_saysOne 20 = .ok (.iload 5, 2) := by decide +kernel
theorem dX12_saysOne_22 : decode cX12_saysOne 22 = .ok (.iconst 1, 1) := by decide +kernel
theorem dX12_saysOne_23 : decode cX12_saysOne 23 = .ok (.iadd, 1) := by decide +kernel
theorem dX12_saysOne_24 : decode cX12_saysOne 24 = .ok (.iload_n 2, 1) := by decide +kernel
theorem dX12_saysOne_25 : decode cX12_saysOne 25 = .ok (.iastore, 1) := by decide +kernel
theorem dX12_saysOne_26 : decode cX12_saysOne 26 = .ok (.aload_n 0, 1) := by decide +kernel
theorem dX12_saysOne_27 : decode cX12_saysOne 27 = .ok (.getfield 166, 3) := by decide +kernel
theorem dX12_saysOne_30 : decode cX12_saysOne 30 = .ok (.iload 5, 2) := by decide +kernel
theorem dX12_saysOne_32 : decode cX12_saysOne 32 = .ok (.iconst 2, 1) := by decide +kernel
theorem dX12_saysOne_33 : decode cX12_saysOne 33 = .ok (.iadd, 1) := by decide +kernel
theorem dX12_saysOne_34 : decode cX12_saysOne 34 = .ok (.iload_n 3, 1) := by decide +kernel
theorem dX12_saysOne_35 : decode cX12_saysOne 35 = .ok (.iastore, 1) := by decide +kernel
theorem dX12_saysOne_36 : decode cX12_saysOne 36 = .ok (.aload_n 0, 1) := by decide +kernel
theorem dX12_saysOne_37 : decode cX12_saysOne 37 = .ok (.getfield 166, 3) := by decide +kernel
theorem dX12_saysOne_40 : decode cX12_saysOne 40 = .ok (.iload 5, 2) := by decide +kernel
theorem dX12_saysOne_42 : decode cX12_saysOne 42 = .ok (.iconst 3, 1) := by decide +kernel
theorem dX12_saysOne_43 : decode cX12_saysOne 43 = .ok (.iadd, 1) := by decide +kernel
theorem dX12_saysOne_44 : decode cX12_saysOne 44 = .ok (.iload 4, 2) := by decide +kernel
theorem dX12_saysOne_46 : decode cX12_saysOne 46 = .ok (.iastore, 1) := by decide +kernel
theorem dX12_saysOne_47 : decode cX12_saysOne 47 = .ok (.aload_n 0, 1) := by decide +kernel
theorem dX12_saysOne_48 : decode cX12_saysOne 48 = .ok (.dup, 1) := by decide +kernel
theorem dX12_saysOne_49 : decode cX12_saysOne 49 = .ok (.getfield 381, 3) := by decide +kernel
theorem dX12_saysOne_52 : decode cX12_saysOne 52 = .ok (.iconst 1, 1) := by decide +kernel
theorem dX12_saysOne_53 : decode cX12_saysOne 53 = .ok (.iadd, 1) := by decide +kernel
theorem dX12_saysOne_54 : decode cX12_saysOne 54 = .ok (.putfield 381, 3) := by decide +kernel
theorem dX12_saysOne_57 : decode cX12_saysOne 57 = .ok (.aload_n 0, 1) := by decide +kernel
theorem dX12_saysOne_58 : decode cX12_saysOne 58 = .ok (.getfield 381, 3) := by decide +kernel
theorem dX12_saysOne_61 : decode cX12_saysOne 61 = .ok (.iconst 1, 1) := by decide +kernel
theorem dX12_saysOne_62 : decode cX12_saysOne 62 = .ok (.isub, 1) := by decide +kernel
theorem dX12_saysOne_63 : decode cX12_saysOne 63 = .ok (.ireturn, 1) := by decide +kernel
set_option maxHeartbeats 4000000 in
set_option maxRecDepth 100000 in
theorem s_X12_saysOne (l : Launch) (D : va_G) (ca : Nat → ClassId) (sz : Nat) (h0 : Nat) (a1 : Int32) (a2 : Int32) (a3 : Int32) (a4 : Int32) (h0_thrown : Int32) (h0_tape : Nat) (h0_taped : Int32) (h0_size : Int32) (h0_limit : Int32) (h0_to : Int32) (h0_from : Int32) (h0_kind : Int32) (h0_number : Int32) (h0_sign : Int32) (h0_fault : Int32) (h0_place : Int32) (h0_word : Int64) (h0_told : Int32) (h0_now : Nat) (h0_read : Nat) (h0_kept : Nat) (h0_snaps : Nat) (h0_aside : Nat) (h0_name : Nat) (h0_readName : Nat) (h0_keptName : Nat) (h0_isKept : Nat) (h0_onces : Nat) (h0_snapMany : Int32) (h0_lowest : Int32) (h0_highest : Int32) (h0_agreed : Int32) (h0_jurors : Int32) (h0_panelled : Int32) (h0_inSets : Nat) (h0_surely : Int32) (h0_asked : Int32) (h0_frees : Nat) (h0_struck : Int32) (h0_beating : Int32) (h0_text : Nat) (h0_texts : Int32) (h0_seed : Int32) (h0_line : Nat) (h0_written : Nat) (h0_lineMany : Int32) (h0_hasWritten : Int32) (h0_node : Nat) (h0_nodes : Int32) (h0_onesMany : Int32) (h0_within : Int32) (h0_top : Int32) (F_h0_node : Nat → Int32) (i_h0_taped : rg 0 940 h0_taped) (i_h0_size : rg 0 940 h0_size) (i_h0_to : rg 0 940 h0_to) (i_h0_snapMany : rg 0 8 h0_snapMany) (i_h0_texts : rg 0 64 h0_texts) (i_h0_lineMany : rg 0 40 h0_lineMany) (i_h0_hasWritten : rg 0 1 h0_hasWritten) (i_h0_nodes : rg 0 59 h0_nodes) : oMet l yX12_saysOne wsX12_saysOne ({ frames := 0, cells := 0, slots := 0, locals := 0 } : Room) [.ref h0, .int a1, .int a2, .int a3, .int a4] D ca sz [(h0, .inr (11, [.int h0_thrown, .ref h0_tape, .int h0_taped, .int h0_size, .int h0_limit, .int h0_to, .int h0_from, .int h0_kind, .int h0_number, .int h0_sign, .int h0_fault, .int h0_place, .long h0_word, .int h0_told, .ref h0_now, .ref h0_read, .ref h0_kept, .ref h0_snaps, .ref h0_aside, .ref h0_name, .ref h0_readName, .ref h0_keptName, .ref h0_isKept, .ref h0_onces, .int h0_snapMany, .int h0_lowest, .int h0_highest, .int h0_agreed, .int h0_jurors, .int h0_panelled, .ref h0_inSets, .int h0_surely, .int h0_asked, .ref h0_frees, .int h0_struck, .int h0_beating, .ref h0_text, .int h0_texts, .int h0_seed, .ref h0_line, .ref h0_written, .int h0_lineMany, .int h0_hasWritten, .ref h0_node, .int h0_nodes, .int h0_onesMany, .int h0_within, .int h0_top])), (aI ca h0_node 240 F_h0_node)] (oQi D (fun (r : Int32) (u : Int32 × (Nat → Int32)) => (rg 0 59 r) ∧ (rg 1 60 u.1) ∧ (rl 1 h0_nodes u.1) ∧ (rl (-1) u.1 h0_nodes) ∧ (rl 0 h0_nodes r) ∧ (rl 0 r h0_nodes) ∧ (rl (-1) u.1 r) ∧ (rl 1 r u.1)) (fun (u : Int32 × (Nat → Int32)) => [(h0, .inr (11, [.int h0_thrown, .ref h0_tape, .int h0_taped, .int h0_size, .int h0_limit, .int h0_to, .int h0_from, .int h0_kind, .int h0_number, .int h0_sign, .int h0_fault, .int h0_place, .long h0_word, .int h0_told, .ref h0_now, .ref h0_read, .ref h0_kept, .ref h0_snaps, .ref h0_aside, .ref h0_name, .ref h0_readName, .ref h0_keptName, .ref h0_isKept, .ref h0_onces, .int h0_snapMany, .int h0_lowest, .int h0_highest, .int h0_agreed, .int h0_jurors, .int h0_panelled, .ref h0_inSets, .int h0_surely, .int h0_asked, .ref h0_frees, .int h0_struck, .int h0_beating, .ref h0_text, .int h0_texts, .int h0_seed, .ref h0_line, .ref h0_written, .int h0_lineMany, .int h0_hasWritten, .ref h0_node, .int u.1, .int h0_onesMany, .int h0_within, .int h0_top])), (aI ca h0_node 240 u.2)])) 0 0 := by
  refine oM (cc := cX12_saysOne) (maxL := 6) (ret := (some .int)) (by decide) rfl (Nat.le_of_ble_eq_true rfl) [(0, .ref h0), (1, .int a1), (2, .int a2), (3, .int a3), (4, .int a4)] rfl ?_
  intro p e s m below meth c A H locs ls hx hb hr hml hts hown hlocks hin hK hP hD hA hS hl
  have hown : s.vm.findClass RX12 = some m.cls := hown
  have k1 := hts (.fieldLink RX12 381 "LidCourtModel" "nodes" "I") (by decide +kernel)
  have k2 : ∀ w ∈ wsX120, w ∈ wsX12_saysOne := fun _ h => List.mem_cons_of_mem _ (List.mem_append_right _ h)
  have k3 := hts (.fieldLink RX12 166 "LidCourtModel" "node" "[I") (by decide +kernel)
  refine lv_iconst (v := 4) hx hb dX12_saysOne_0 (by decide) ?_
  refine lv_aload_n hx hb dX12_saysOne_1 rfl (lv_at hl 0 rfl) ?_
  refine va_get (D := D) (ci := 11) (v := .int h0_nodes) (C := RX12) (T := TX12) (N := 48) hx hb hts k2 hown hK.1 hP 0 rfl rfl 44 (by decide) k1 (fun _ h9 => h9) rfl dX12_saysOne_2 ?_
  refine lv_imul hx hb dX12_saysOne_5 ?_
  refine lv_topi (fun x_26 ex_26 => ?_)
  have h_27 : rg 0 236 x_26 := by rw [ex_26]; exact rg_mul' (k := 4) i_h0_nodes (by decide) (by decide) (by decide) (by decide) (by decide) (by decide)
  have l_28 : lq x_26.toInt (4 * h0_nodes.toInt) := lqm (by rw [ex_26]; have q := tmul' (k := 4) (y := 4) i_h0_nodes (by decide) (by decide) (by decide) (by decide); omega)
  refine lv_istore (lv' := [(5, .int x_26), (0, .ref h0), (1, .int a1), (2, .int a2), (3, .int a3), (4, .int a4)]) hx hb dX12_saysOne_6 hl (by decide) rfl (fun ls hl => ?_)
  refine lv_aload_n hx hb dX12_saysOne_8 rfl (lv_at hl 1 rfl) ?_
  refine va_get (D := D) (ci := 11) (v := .ref h0_node) (C := RX12) (T := TX12) (N := 48) hx hb hts k2 hown hK.1 hP 0 rfl rfl 43 (by decide) k3 (fun _ h9 => h9) rfl dX12_saysOne_9 ?_
  refine lv_iload hx hb dX12_saysOne_12 (lv_at hl 0 rfl) ?_
  refine lv_iload_n hx hb dX12_saysOne_14 rfl (lv_at hl 2 rfl) ?_
  refine va_iast hx hb hK.1 hP hD hS 1 0 rfl rfl (rg_in h_27 (by decide) (by decide)) dX12_saysOne_15 (fun H locs hP hD hS => ?_)
  obtain ⟨g_29, eg_29⟩ : ∃ y : Nat → Int32, y = upd F_h0_node (x_26 : Int32).toNatClampNeg (a1 : Int32) := ⟨_, rfl⟩
  rw [← eg_29] at hP hD
  have q_30 : eqs 237 240 g_29 F_h0_node := eqs_out (eqs_rf (a := 0) (b := 240) F_h0_node) eg_29 h_27 (by decide) (by decide) (by decide) (by decide)
  have hP : va_P D vwCl [(h0, .inr (11, [.int h0_thrown, .ref h0_tape, .int h0_taped, .int h0_size, .int h0_limit, .int h0_to, .int h0_from, .int h0_kind, .int h0_number, .int h0_sign, .int h0_fault, .int h0_place, .long h0_word, .int h0_told, .ref h0_now, .ref h0_read, .ref h0_kept, .ref h0_snaps, .ref h0_aside, .ref h0_name, .ref h0_readName, .ref h0_keptName, .ref h0_isKept, .ref h0_onces, .int h0_snapMany, .int h0_lowest, .int h0_highest, .int h0_agreed, .int h0_jurors, .int h0_panelled, .ref h0_inSets, .int h0_surely, .int h0_asked, .ref h0_frees, .int h0_struck, .int h0_beating, .ref h0_text, .int h0_texts, .int h0_seed, .ref h0_line, .ref h0_written, .int h0_lineMany, .int h0_hasWritten, .ref h0_node, .int h0_nodes, .int h0_onesMany, .int h0_within, .int h0_top])), (aI ca h0_node 240 g_29)] H := hP
  have hD : va_D A [(h0, .inr (11, [.int h0_thrown, .ref h0_tape, .int h0_taped, .int h0_size, .int h0_limit, .int h0_to, .int h0_from, .int h0_kind, .int h0_number, .int h0_sign, .int h0_fault, .int h0_place, .long h0_word, .int h0_told, .ref h0_now, .ref h0_read, .ref h0_kept, .ref h0_snaps, .ref h0_aside, .ref h0_name, .ref h0_readName, .ref h0_keptName, .ref h0_isKept, .ref h0_onces, .int h0_snapMany, .int h0_lowest, .int h0_highest, .int h0_agreed, .int h0_jurors, .int h0_panelled, .ref h0_inSets, .int h0_surely, .int h0_asked, .ref h0_frees, .int h0_struck, .int h0_beating, .ref h0_text, .int h0_texts, .int h0_seed, .ref h0_line, .ref h0_written, .int h0_lineMany, .int h0_hasWritten, .ref h0_node, .int h0_nodes, .int h0_onesMany, .int h0_within, .int h0_top])), (aI ca h0_node 240 g_29)] := hD
  refine lv_aload_n hx hb dX12_saysOne_16 rfl (lv_at hl 1 rfl) ?_
  refine va_get (D := D) (ci := 11) (v := .ref h0_node) (C := RX12) (T := TX12) (N := 48) hx hb hts k2 hown hK.1 hP 0 rfl rfl 43 (by decide) k3 (fun _ h9 => h9) rfl dX12_saysOne_17 ?_
  refine lv_iload hx hb dX12_saysOne_20 (lv_at hl 0 rfl) ?_
  refine lv_iconst (v := 1) hx hb dX12_saysOne_22 (by decide) ?_
  refine lv_iadd hx hb dX12_saysOne_23 ?_
  refine lv_topi (fun x_31 ex_31 => ?_)
  have h_32 : rg 1 237 x_31 := by rw [ex_31]; exact rg_add h_27 (⟨by decide, by decide⟩ : rg 1 1 (1 : Int32)) (by decide) (by decide) (by decide) (by decide)
  have l_33 : lq x_31.toInt (4 * h0_nodes.toInt + 1) := lqm (by rw [ex_31]; have q := tadd h_27 (⟨by decide, by decide⟩ : rg 1 1 (1 : Int32)) (by decide) (by decide); have r0 := lqe l_28; have r1 := lqe (lqm (by decide) : lq (1 : Int32).toInt 1); omega)
  refine lv_iload_n hx hb dX12_saysOne_24 rfl (lv_at hl 3 rfl) ?_
  refine va_iast hx hb hK.1 hP hD hS 1 0 rfl rfl (rg_in h_32 (by decide) (by decide)) dX12_saysOne_25 (fun H locs hP hD hS => ?_)
  obtain ⟨g_34, eg_34⟩ : ∃ y : Nat → Int32, y = upd g_29 (x_31 : Int32).toNatClampNeg (a2 : Int32) := ⟨_, rfl⟩
  rw [← eg_34] at hP hD
  have q_35 : eqs 238 240 g_34 F_h0_node := eqs_out q_30 eg_34 h_32 (by decide) (by decide) (by decide) (by decide)
  have hP : va_P D vwCl [(h0, .inr (11, [.int h0_thrown, .ref h0_tape, .int h0_taped, .int h0_size, .int h0_limit, .int h0_to, .int h0_from, .int h0_kind, .int h0_number, .int h0_sign, .int h0_fault, .int h0_place, .long h0_word, .int h0_told, .ref h0_now, .ref h0_read, .ref h0_kept, .ref h0_snaps, .ref h0_aside, .ref h0_name, .ref h0_readName, .ref h0_keptName, .ref h0_isKept, .ref h0_onces, .int h0_snapMany, .int h0_lowest, .int h0_highest, .int h0_agreed, .int h0_jurors, .int h0_panelled, .ref h0_inSets, .int h0_surely, .int h0_asked, .ref h0_frees, .int h0_struck, .int h0_beating, .ref h0_text, .int h0_texts, .int h0_seed, .ref h0_line, .ref h0_written, .int h0_lineMany, .int h0_hasWritten, .ref h0_node, .int h0_nodes, .int h0_onesMany, .int h0_within, .int h0_top])), (aI ca h0_node 240 g_34)] H := hP
  have hD : va_D A [(h0, .inr (11, [.int h0_thrown, .ref h0_tape, .int h0_taped, .int h0_size, .int h0_limit, .int h0_to, .int h0_from, .int h0_kind, .int h0_number, .int h0_sign, .int h0_fault, .int h0_place, .long h0_word, .int h0_told, .ref h0_now, .ref h0_read, .ref h0_kept, .ref h0_snaps, .ref h0_aside, .ref h0_name, .ref h0_readName, .ref h0_keptName, .ref h0_isKept, .ref h0_onces, .int h0_snapMany, .int h0_lowest, .int h0_highest, .int h0_agreed, .int h0_jurors, .int h0_panelled, .ref h0_inSets, .int h0_surely, .int h0_asked, .ref h0_frees, .int h0_struck, .int h0_beating, .ref h0_text, .int h0_texts, .int h0_seed, .ref h0_line, .ref h0_written, .int h0_lineMany, .int h0_hasWritten, .ref h0_node, .int h0_nodes, .int h0_onesMany, .int h0_within, .int h0_top])), (aI ca h0_node 240 g_34)] := hD
  refine lv_aload_n hx hb dX12_saysOne_26 rfl (lv_at hl 1 rfl) ?_
  refine va_get (D := D) (ci := 11) (v := .ref h0_node) (C := RX12) (T := TX12) (N := 48) hx hb hts k2 hown hK.1 hP 0 rfl rfl 43 (by decide) k3 (fun _ h9 => h9) rfl dX12_saysOne_27 ?_
  refine lv_iload hx hb dX12_saysOne_30 (lv_at hl 0 rfl) ?_
  refine lv_iconst (v := 2) hx hb dX12_saysOne_32 (by decide) ?_
  refine lv_iadd hx hb dX12_saysOne_33 ?_
  refine lv_topi (fun x_36 ex_36 => ?_)
  have h_37 : rg 2 238 x_36 := by rw [ex_36]; exact rg_add h_27 (⟨by decide, by decide⟩ : rg 2 2 (2 : Int32)) (by decide) (by decide) (by decide) (by decide)
  have l_38 : lq x_36.toInt (4 * h0_nodes.toInt + 2) := lqm (by rw [ex_36]; have q := tadd h_27 (⟨by decide, by decide⟩ : rg 2 2 (2 : Int32)) (by decide) (by decide); have r0 := lqe l_28; have r1 := lqe (lqm (by decide) : lq (2 : Int32).toInt 2); omega)
  refine lv_iload_n hx hb dX12_saysOne_34 rfl (lv_at hl 4 rfl) ?_
  refine va_iast hx hb hK.1 hP hD hS 1 0 rfl rfl (rg_in h_37 (by decide) (by decide)) dX12_saysOne_35 (fun H locs hP hD hS => ?_)
  obtain ⟨g_39, eg_39⟩ : ∃ y : Nat → Int32, y = upd g_34 (x_36 : Int32).toNatClampNeg (a3 : Int32) := ⟨_, rfl⟩
  rw [← eg_39] at hP hD
  have q_40 : eqs 239 240 g_39 F_h0_node := eqs_out q_35 eg_39 h_37 (by decide) (by decide) (by decide) (by decide)
  have hP : va_P D vwCl [(h0, .inr (11, [.int h0_thrown, .ref h0_tape, .int h0_taped, .int h0_size, .int h0_limit, .int h0_to, .int h0_from, .int h0_kind, .int h0_number, .int h0_sign, .int h0_fault, .int h0_place, .long h0_word, .int h0_told, .ref h0_now, .ref h0_read, .ref h0_kept, .ref h0_snaps, .ref h0_aside, .ref h0_name, .ref h0_readName, .ref h0_keptName, .ref h0_isKept, .ref h0_onces, .int h0_snapMany, .int h0_lowest, .int h0_highest, .int h0_agreed, .int h0_jurors, .int h0_panelled, .ref h0_inSets, .int h0_surely, .int h0_asked, .ref h0_frees, .int h0_struck, .int h0_beating, .ref h0_text, .int h0_texts, .int h0_seed, .ref h0_line, .ref h0_written, .int h0_lineMany, .int h0_hasWritten, .ref h0_node, .int h0_nodes, .int h0_onesMany, .int h0_within, .int h0_top])), (aI ca h0_node 240 g_39)] H := hP
  have hD : va_D A [(h0, .inr (11, [.int h0_thrown, .ref h0_tape, .int h0_taped, .int h0_size, .int h0_limit, .int h0_to, .int h0_from, .int h0_kind, .int h0_number, .int h0_sign, .int h0_fault, .int h0_place, .long h0_word, .int h0_told, .ref h0_now, .ref h0_read, .ref h0_kept, .ref h0_snaps, .ref h0_aside, .ref h0_name, .ref h0_readName, .ref h0_keptName, .ref h0_isKept, .ref h0_onces, .int h0_snapMany, .int h0_lowest, .int h0_highest, .int h0_agreed, .int h0_jurors, .int h0_panelled, .ref h0_inSets, .int h0_surely, .int h0_asked, .ref h0_frees, .int h0_struck, .int h0_beating, .ref h0_text, .int h0_texts, .int h0_seed, .ref h0_line, .ref h0_written, .int h0_lineMany, .int h0_hasWritten, .ref h0_node, .int h0_nodes, .int h0_onesMany, .int h0_within, .int h0_top])), (aI ca h0_node 240 g_39)] := hD
  refine lv_aload_n hx hb dX12_saysOne_36 rfl (lv_at hl 1 rfl) ?_
  refine va_get (D := D) (ci := 11) (v := .ref h0_node) (C := RX12) (T := TX12) (N := 48) hx hb hts k2 hown hK.1 hP 0 rfl rfl 43 (by decide) k3 (fun _ h9 => h9) rfl dX12_saysOne_37 ?_
  refine lv_iload hx hb dX12_saysOne_40 (lv_at hl 0 rfl) ?_
  refine lv_iconst (v := 3) hx hb dX12_saysOne_42 (by decide) ?_
  refine lv_iadd hx hb dX12_saysOne_43 ?_
  refine lv_topi (fun x_41 ex_41 => ?_)
  have h_42 : rg 3 239 x_41 := by rw [ex_41]; exact rg_add h_27 (⟨by decide, by decide⟩ : rg 3 3 (3 : Int32)) (by decide) (by decide) (by decide) (by decide)
  have l_43 : lq x_41.toInt (4 * h0_nodes.toInt + 3) := lqm (by rw [ex_41]; have q := tadd h_27 (⟨by decide, by decide⟩ : rg 3 3 (3 : Int32)) (by decide) (by decide); have r0 := lqe l_28; have r1 := lqe (lqm (by decide) : lq (3 : Int32).toInt 3); omega)
  refine lv_iload hx hb dX12_saysOne_44 (lv_at hl 5 rfl) ?_
  refine va_iast hx hb hK.1 hP hD hS 1 0 rfl rfl (rg_in h_42 (by decide) (by decide)) dX12_saysOne_46 (fun H locs hP hD hS => ?_)
  obtain ⟨g_44, eg_44⟩ : ∃ y : Nat → Int32, y = upd g_39 (x_41 : Int32).toNatClampNeg (a4 : Int32) := ⟨_, rfl⟩
  rw [← eg_44] at hP hD
  have hP : va_P D vwCl [(h0, .inr (11, [.int h0_thrown, .ref h0_tape, .int h0_taped, .int h0_size, .int h0_limit, .int h0_to, .int h0_from, .int h0_kind, .int h0_number, .int h0_sign, .int h0_fault, .int h0_place, .long h0_word, .int h0_told, .ref h0_now, .ref h0_read, .ref h0_kept, .ref h0_snaps, .ref h0_aside, .ref h0_name, .ref h0_readName, .ref h0_keptName, .ref h0_isKept, .ref h0_onces, .int h0_snapMany, .int h0_lowest, .int h0_highest, .int h0_agreed, .int h0_jurors, .int h0_panelled, .ref h0_inSets, .int h0_surely, .int h0_asked, .ref h0_frees, .int h0_struck, .int h0_beating, .ref h0_text, .int h0_texts, .int h0_seed, .ref h0_line, .ref h0_written, .int h0_lineMany, .int h0_hasWritten, .ref h0_node, .int h0_nodes, .int h0_onesMany, .int h0_within, .int h0_top])), (aI ca h0_node 240 g_44)] H := hP
  have hD : va_D A [(h0, .inr (11, [.int h0_thrown, .ref h0_tape, .int h0_taped, .int h0_size, .int h0_limit, .int h0_to, .int h0_from, .int h0_kind, .int h0_number, .int h0_sign, .int h0_fault, .int h0_place, .long h0_word, .int h0_told, .ref h0_now, .ref h0_read, .ref h0_kept, .ref h0_snaps, .ref h0_aside, .ref h0_name, .ref h0_readName, .ref h0_keptName, .ref h0_isKept, .ref h0_onces, .int h0_snapMany, .int h0_lowest, .int h0_highest, .int h0_agreed, .int h0_jurors, .int h0_panelled, .ref h0_inSets, .int h0_surely, .int h0_asked, .ref h0_frees, .int h0_struck, .int h0_beating, .ref h0_text, .int h0_texts, .int h0_seed, .ref h0_line, .ref h0_written, .int h0_lineMany, .int h0_hasWritten, .ref h0_node, .int h0_nodes, .int h0_onesMany, .int h0_within, .int h0_top])), (aI ca h0_node 240 g_44)] := hD
  refine lv_aload_n hx hb dX12_saysOne_47 rfl (lv_at hl 1 rfl) ?_
  refine lv_dup hx hb dX12_saysOne_48 rfl ?_
  refine va_get (D := D) (ci := 11) (v := .int h0_nodes) (C := RX12) (T := TX12) (N := 48) hx hb hts k2 hown hK.1 hP 0 rfl rfl 44 (by decide) k1 (fun _ h9 => h9) rfl dX12_saysOne_49 ?_
  refine lv_iconst (v := 1) hx hb dX12_saysOne_52 (by decide) ?_
  refine lv_iadd hx hb dX12_saysOne_53 ?_
  refine lv_topi (fun x_45 ex_45 => ?_)
  have h_46 : rg 1 60 x_45 := by rw [ex_45]; exact rg_add i_h0_nodes (⟨by decide, by decide⟩ : rg 1 1 (1 : Int32)) (by decide) (by decide) (by decide) (by decide)
  have l_47 : lq x_45.toInt (h0_nodes.toInt + 1) := lqm (by rw [ex_45]; have q := tadd i_h0_nodes (⟨by decide, by decide⟩ : rg 1 1 (1 : Int32)) (by decide) (by decide); have r1 := lqe (lqm (by decide) : lq (1 : Int32).toInt 1); omega)
  refine va_put (D := D) (ci := 11) (v := .int x_45) (ty := .int) (C := RX12) (T := TX12) (N := 48) hx hb hts k2 tyX12 tyX12_ok nmX12 hown hK.1 hP hD hS 0 rfl rfl 44 (by decide) k1 (fun _ h9 => h9) rfl (by decide +kernel) rfl rfl (Nat.le_of_ble_eq_true rfl) dX12_saysOne_54 (fun H locs hP hD hS => ?_)
  have hP : va_P D vwCl [(h0, .inr (11, [.int h0_thrown, .ref h0_tape, .int h0_taped, .int h0_size, .int h0_limit, .int h0_to, .int h0_from, .int h0_kind, .int h0_number, .int h0_sign, .int h0_fault, .int h0_place, .long h0_word, .int h0_told, .ref h0_now, .ref h0_read, .ref h0_kept, .ref h0_snaps, .ref h0_aside, .ref h0_name, .ref h0_readName, .ref h0_keptName, .ref h0_isKept, .ref h0_onces, .int h0_snapMany, .int h0_lowest, .int h0_highest, .int h0_agreed, .int h0_jurors, .int h0_panelled, .ref h0_inSets, .int h0_surely, .int h0_asked, .ref h0_frees, .int h0_struck, .int h0_beating, .ref h0_text, .int h0_texts, .int h0_seed, .ref h0_line, .ref h0_written, .int h0_lineMany, .int h0_hasWritten, .ref h0_node, .int x_45, .int h0_onesMany, .int h0_within, .int h0_top])), (aI ca h0_node 240 g_44)] H := hP
  have hD : va_D A [(h0, .inr (11, [.int h0_thrown, .ref h0_tape, .int h0_taped, .int h0_size, .int h0_limit, .int h0_to, .int h0_from, .int h0_kind, .int h0_number, .int h0_sign, .int h0_fault, .int h0_place, .long h0_word, .int h0_told, .ref h0_now, .ref h0_read, .ref h0_kept, .ref h0_snaps, .ref h0_aside, .ref h0_name, .ref h0_readName, .ref h0_keptName, .ref h0_isKept, .ref h0_onces, .int h0_snapMany, .int h0_lowest, .int h0_highest, .int h0_agreed, .int h0_jurors, .int h0_panelled, .ref h0_inSets, .int h0_surely, .int h0_asked, .ref h0_frees, .int h0_struck, .int h0_beating, .ref h0_text, .int h0_texts, .int h0_seed, .ref h0_line, .ref h0_written, .int h0_lineMany, .int h0_hasWritten, .ref h0_node, .int x_45, .int h0_onesMany, .int h0_within, .int h0_top])), (aI ca h0_node 240 g_44)] := hD
  refine lv_aload_n hx hb dX12_saysOne_57 rfl (lv_at hl 1 rfl) ?_
  refine va_get (D := D) (ci := 11) (v := .int x_45) (C := RX12) (T := TX12) (N := 48) hx hb hts k2 hown hK.1 hP 0 rfl rfl 44 (by decide) k1 (fun _ h9 => h9) rfl dX12_saysOne_58 ?_
  refine lv_iconst (v := 1) hx hb dX12_saysOne_61 (by decide) ?_
  refine lv_isub hx hb dX12_saysOne_62 ?_
  refine lv_topi (fun x_48 ex_48 => ?_)
  have h_49 : rg 0 59 x_48 := by rw [ex_48]; exact rg_sub h_46 (⟨by decide, by decide⟩ : rg 1 1 (1 : Int32)) (by decide) (by decide) (by decide) (by decide)
  have l_50 : lq x_48.toInt (h0_nodes.toInt) := lqm (by rw [ex_48]; have q := tsub h_46 (⟨by decide, by decide⟩ : rg 1 1 (1 : Int32)) (by decide) (by decide); have r0 := lqe l_47; have r1 := lqe (lqm (by decide) : lq (1 : Int32).toInt 1); omega)
  exact oE_i hx hb hr rfl hlocks hP hD hS (x_45, g_44) [0, 1] rfl (by decide) ⟨h_49, h_46, (show rl 1 h0_nodes x_45 from rlm (by have q0 := lqe l_47; omega)), (show rl (-1) x_45 h0_nodes from rlm (by have q0 := lqe l_47; omega)), (show rl 0 h0_nodes x_48 from rlm (by have q0 := lqe l_50; omega)), (show rl 0 x_48 h0_nodes from rlm (by have q0 := lqe l_50; omega)), (show rl (-1) x_45 x_48 from rlm (by have q0 := lqe l_50; have q1 := lqe l_47; omega)), (show rl 1 x_48 x_45 from rlm (by have q0 := lqe l_47; have q1 := lqe l_50; omega))⟩ (Nat.le_of_ble_eq_true rfl) (Nat.le_of_ble_eq_true rfl) dX12_saysOne_63
theorem dX12_readNot_0 : decode cX12_readNot 0 = .ok (.aload_n 0, 1) := by decide +kernel
theorem dX12_readNot_1 : decode cX12_readNot 1 = .ok (.invokevirtual 394, 3) := by decide +kernel
theorem dX12_readRing_0 : decode cX12_readRing 0 = .ok (.aload_n 0, 1) := by decide +kernel
theorem dX12_readRing_1 : decode cX12_readRing 1 = .ok (.bipush 10, 2) := by decide +kernel
theorem dX12_readRing_3 : decode cX12_readRing 3 = .ok (.aload_n 0, 1) := by decide +kernel
theorem dX12_readRing_4 : decode cX12_readRing 4 = .ok (.getfield 98, 3) := by decide +kernel
theorem dX12_readRing_7 : decode cX12_readRing 7 = .ok (.iconst 1, 1) := by decide +kernel
theorem dX12_readRing_8 : decode cX12_readRing 8 = .ok (.iaload, 1) := by decide +kernel
theorem dX12_readRing_9 : decode cX12_readRing 9 = .ok (.invokevirtual 364, 3) := by decide +kernel
theorem dX12_readRing_12 : decode cX12_readRing 12 = .ok (.ifCond .ne 5, 3) := by decide +kernel
theorem dX12_readRing_15 : decode cX12_readRing 15 = .ok (.iconst 0, 1) := by decide +kernel
theorem dX12_readRing_16 : decode cX12_readRing 16 = .ok (.ireturn, 1) := by decide +kernel
theorem dX12_readRing_17 : decode cX12_readRing 17 = .ok (.aload_n 0, 1) := by decide +kernel
theorem dX12_readRing_18 : decode cX12_readRing 18 = .ok (.getfield 79, 3) := by decide +kernel
theorem dX12_readRing_21 : decode cX12_readRing 21 = .ok (.istore_n 1, 1) := by decide +kernel
theorem dX12_readRing_22 : decode cX12_readRing 22 = .ok (.aload_n 0, 1) := by decide +kernel
theorem dX12_readRing_23 : decode cX12_readRing 23 = .ok (.iconst 0, 1) := by decide +kernel
theorem dX12_readRing_24 : decode cX12_readRing 24 = .ok (.aload_n 0, 1) := by decide +kernel
theorem dX12_readRing_25 : decode cX12_readRing 25 = .ok (.getfield 98, 3) := by decide +kernel
theorem dX12_readRing_28 : decode cX12_readRing 28 = .ok (.iconst 0, 1) := by decide +kernel
theorem dX12_readRing_29 : decode cX12_readRing 29 = .ok (.iaload, 1) := by decide +kernel
theorem dX12_readRing_30 : decode cX12_readRing 30 = .ok (.invokevirtual 364, 3) := by decide +kernel
theorem dX12_readRing_33 : decode cX12_readRing 33 = .ok (.ifCond .ne 5, 3) := by decide +kernel
theorem dX12_readRing_36 : decode cX12_readRing 36 = .ok (.iconst 0, 1) := by decide +kernel
theorem dX12_readRing_37 : decode cX12_readRing 37 = .ok (.ireturn, 1) := by decide +kernel
theorem dX12_readRing_38 : decode cX12_readRing 38 = .ok (.aload_n 0, 1) := by decide +kernel
theorem dX12_readRing_39 : decode cX12_readRing 39 = .ok (.dup, 1) := by decide +kernel
theorem dX12_readRing_40 : decode cX12_readRing 40 = .ok (.getfield 79, 3) := by decide +kernel
theorem dX12_readRing_43 : decode cX12_readRing 43 = .ok (.bipush 10, 2) := by decide +kernel
theorem dX12_readRing_45 : decode cX12_readRing 45 = .ok (.iload_n 1, 1) := by decide +kernel
theorem dX12_readRing_46 : decode cX12_readRing 46 = .ok (.imul, 1) := by decide +kernel
theorem dX12_readRing_47 : decode cX12_readRing 47 = .ok (.iadd, 1) := by decide +kernel
theorem dX12_readRing_48 : decode cX12_readRing 48 = .ok (.putfield 79, 3) := by decide +kernel
theorem dX12_readRing_51 : decode cX12_readRing 51 = .ok (.iconst 1, 1) := by decide +kernel
theorem dX12_readRing_52 : decode cX12_readRing 52 = .ok (.ireturn, 1) := by decide +kernel
set_option maxRecDepth 20000 in
theorem ggX12_readRing_X12_readNamed : GoodIn wsX12_readRing wsX12_readNamed := goodIn_r _ [7, 8, 9, 2, 10, 11, 12, 6, 13, 14, 15, 16, 17, 18, 19, 20, 21, 22, 23, 24, 25, 26, 27, 28, 29, 30, 31, 32, 33, 34, 35, 36, 37, 38, 39, 40, 41, 42, 43, 44, 45, 46, 47, 48, 49, 50, 51, 52, 53, 54, 55, 56, 57, 58, 59, 60, 61, 62, 63, 64, 65, 66, 67, 68, 69, 70, 71, 72, 73, 74, 75, 76, 77, 78, 79, 80, 81, 82, 83, 84, 85, 86, 87, 88, 89, 90, 91, 92, 93, 94, 95, 96, 97, 98, 99, 100] rfl (by decide +kernel)
set_option maxRecDepth 20000 in
theorem gX12_readRing_X12_readNamed : GoodIn wsX12_readRing (wsV RX12 364 RX12 yX12_readNamed wsX12_readNamed) := goodIn_app (goodIn_of _ (by decide +kernel)) ggX12_readRing_X12_readNamed
set_option maxHeartbeats 4000000 in
set_option maxRecDepth 100000 in
theorem s_X12_readRing (l : Launch) (D : va_G) (ca : Nat → ClassId) (sz : Nat) (h0 : Nat) (h0_thrown : Int32) (h0_tape : Nat) (h0_taped : Int32) (h0_size : Int32) (h0_limit : Int32) (h0_to : Int32) (h0_from : Int32) (h0_kind : Int32) (h0_number : Int32) (h0_sign : Int32) (h0_fault : Int32) (h0_place : Int32) (h0_word : Int64) (h0_told : Int32) (h0_now : Nat) (h0_read : Nat) (h0_kept : Nat) (h0_snaps : Nat) (h0_aside : Nat) (h0_name : Nat) (h0_readName : Nat) (h0_keptName : Nat) (h0_isKept : Nat) (h0_onces : Nat) (h0_snapMany : Int32) (h0_lowest : Int32) (h0_highest : Int32) (h0_agreed : Int32) (h0_jurors : Int32) (h0_panelled : Int32) (h0_inSets : Nat) (h0_surely : Int32) (h0_asked : Int32) (h0_frees : Nat) (h0_struck : Int32) (h0_beating : Int32) (h0_text : Nat) (h0_texts : Int32) (h0_seed : Int32) (h0_line : Nat) (h0_written : Nat) (h0_lineMany : Int32) (h0_hasWritten : Int32) (h0_node : Nat) (h0_nodes : Int32) (h0_onesMany : Int32) (h0_within : Int32) (h0_top : Int32) (F_h0_now : Nat → Int32) (F_h0_name : Nat → Int64) (F_h0_tape : Nat → Int32) (i_h0_taped : rg 0 940 h0_taped) (i_h0_size : rg 0 940 h0_size) (i_h0_to : rg 0 940 h0_to) (i_h0_snapMany : rg 0 8 h0_snapMany) (i_h0_texts : rg 0 64 h0_texts) (i_h0_lineMany : rg 0 40 h0_lineMany) (i_h0_hasWritten : rg 0 1 h0_hasWritten) (s_h0_now_0 : sg 0 1 0 10 F_h0_now) (s_h0_now_1 : sg 1 2 0 4 F_h0_now) (s_h0_now_2 : sg 2 3 0 5 F_h0_now) (s_h0_now_3 : sg 35 36 0 1023 F_h0_now) (s_h0_now_4 : sg 44 49 0 3 F_h0_now) (s_h0_now_5 : sg 90 91 0 1023 F_h0_now) (s_h0_tape_0 : sg 0 940 0 255 F_h0_tape) : oMet l yX12_readRing wsX12_readRing ({ frames := 4, cells := 0, slots := 0, locals := 91 } : Room) [.ref h0] D ca sz [(h0, .inr (11, [.int h0_thrown, .ref h0_tape, .int h0_taped, .int h0_size, .int h0_limit, .int h0_to, .int h0_from, .int h0_kind, .int h0_number, .int h0_sign, .int h0_fault, .int h0_place, .long h0_word, .int h0_told, .ref h0_now, .ref h0_read, .ref h0_kept, .ref h0_snaps, .ref h0_aside, .ref h0_name, .ref h0_readName, .ref h0_keptName, .ref h0_isKept, .ref h0_onces, .int h0_snapMany, .int h0_lowest, .int h0_highest, .int h0_agreed, .int h0_jurors, .int h0_panelled, .ref h0_inSets, .int h0_surely, .int h0_asked, .ref h0_frees, .int h0_struck, .int h0_beating, .ref h0_text, .int h0_texts, .int h0_seed, .ref h0_line, .ref h0_written, .int h0_lineMany, .int h0_hasWritten, .ref h0_node, .int h0_nodes, .int h0_onesMany, .int h0_within, .int h0_top])), (aI ca h0_now 376 F_h0_now), (aJ ca h0_name 19 F_h0_name), (aI ca h0_tape 940 F_h0_tape)] (oQi D (fun (r : Int32) (u : Int32 × Int32 × Int32 × Int32 × Int32 × Int32 × Int32 × Int64 × Int32) => ((r = 0) ∧ (rg 0 940 u.1)) ∨ ((r = 1) ∧ (rg 0 940 u.1) ∧ (rg (-2147483648) 940 u.2.1) ∧ (rg 0 4 u.2.2.1) ∧ (rg 0 39 u.2.2.2.2.2.2.2.2) ∧ (rg 2 2 h0_kind))) (fun (u : Int32 × Int32 × Int32 × Int32 × Int32 × Int32 × Int32 × Int64 × Int32) => [(h0, .inr (11, [.int h0_thrown, .ref h0_tape, .int h0_taped, .int h0_size, .int h0_limit, .int u.1, .int u.2.1, .int u.2.2.1, .int u.2.2.2.1, .int u.2.2.2.2.1, .int u.2.2.2.2.2.1, .int u.2.2.2.2.2.2.1, .long u.2.2.2.2.2.2.2.1, .int u.2.2.2.2.2.2.2.2, .ref h0_now, .ref h0_read, .ref h0_kept, .ref h0_snaps, .ref h0_aside, .ref h0_name, .ref h0_readName, .ref h0_keptName, .ref h0_isKept, .ref h0_onces, .int h0_snapMany, .int h0_lowest, .int h0_highest, .int h0_agreed, .int h0_jurors, .int h0_panelled, .ref h0_inSets, .int h0_surely, .int h0_asked, .ref h0_frees, .int h0_struck, .int h0_beating, .ref h0_text, .int h0_texts, .int h0_seed, .ref h0_line, .ref h0_written, .int h0_lineMany, .int h0_hasWritten, .ref h0_node, .int h0_nodes, .int h0_onesMany, .int h0_within, .int h0_top])), (aI ca h0_now 376 F_h0_now), (aJ ca h0_name 19 F_h0_name), (aI ca h0_tape 940 F_h0_tape)])) 0 0 := by
  refine oM (cc := cX12_readRing) (maxL := 2) (ret := (some .boolean)) (by decide) rfl (Nat.le_of_ble_eq_true rfl) [(0, .ref h0)] rfl ?_
  intro p e s m below meth c A H locs ls hx hb hr hml hts hown hlocks hin hK hP hD hA hS hl
  have hown : s.vm.findClass RX12 = some m.cls := hown
  have k1 := hts (.fieldLink RX12 98 "LidCourtModel" "now" "[I") (by decide +kernel)
  have k2 : ∀ w ∈ wsX120, w ∈ wsX12_readRing := fun _ h => List.mem_cons_of_mem _ (List.mem_append_right _ h)
  have k3 := hts (.fieldLink RX12 79 "LidCourtModel" "told" "I") (by decide +kernel)
  refine lv_aload_n hx hb dX12_readRing_0 rfl (lv_at hl 0 rfl) ?_
  refine lv_bipush (v := 10) hx hb dX12_readRing_1 (by decide) ?_
  refine lv_aload_n hx hb dX12_readRing_3 rfl (lv_at hl 0 rfl) ?_
  refine va_get (D := D) (ci := 11) (v := .ref h0_now) (C := RX12) (T := TX12) (N := 48) hx hb hts k2 hown hK.1 hP 0 rfl rfl 14 (by decide) k1 (fun _ h9 => h9) rfl dX12_readRing_4 ?_
  refine lv_iconst (v := 1) hx hb dX12_readRing_7 (by decide) ?_
  refine va_iald hx hb hK.1 hP 1 0 rfl rfl (rg_in (⟨by decide, by decide⟩ : rg 1 1 (1 : Int32)) (by decide) (by decide)) dX12_readRing_8 ?_
  refine lv_topi (fun x_82 ex_82 => ?_)
  have h_83 : rg 0 4 x_82 := by rw [ex_82]; exact sg_at s_h0_now_1 (⟨by decide, by decide⟩ : rg 1 1 (1 : Int32)) (by decide) (by decide) (by decide)
  refine oC_i (Wc := [(h0, .inr (11, [.int h0_thrown, .ref h0_tape, .int h0_taped, .int h0_size, .int h0_limit, .int h0_to, .int h0_from, .int h0_kind, .int h0_number, .int h0_sign, .int h0_fault, .int h0_place, .long h0_word, .int h0_told, .ref h0_now, .ref h0_read, .ref h0_kept, .ref h0_snaps, .ref h0_aside, .ref h0_name, .ref h0_readName, .ref h0_keptName, .ref h0_isKept, .ref h0_onces, .int h0_snapMany, .int h0_lowest, .int h0_highest, .int h0_agreed, .int h0_jurors, .int h0_panelled, .ref h0_inSets, .int h0_surely, .int h0_asked, .ref h0_frees, .int h0_struck, .int h0_beating, .ref h0_text, .int h0_texts, .int h0_seed, .ref h0_line, .ref h0_written, .int h0_lineMany, .int h0_hasWritten, .ref h0_node, .int h0_nodes, .int h0_onesMany, .int h0_within, .int h0_top])), (aJ ca h0_name 19 F_h0_name), (aI ca h0_tape 940 F_h0_tape)]) (Wr := [(aI ca h0_now 376 F_h0_now)]) (va_runV (As := [.int 10, .int x_82]) (rest := []) ⟨hx, hb, hml, hown, hts⟩ (s_X12_readNamed_f l D ca H.size h0 x_82 h0_thrown h0_tape h0_taped h0_size h0_limit h0_to h0_from h0_kind h0_number h0_sign h0_fault h0_place h0_word h0_told h0_now h0_read h0_kept h0_snaps h0_aside h0_name h0_readName h0_keptName h0_isKept h0_onces h0_snapMany h0_lowest h0_highest h0_agreed h0_jurors h0_panelled h0_inSets h0_surely h0_asked h0_frees h0_struck h0_beating h0_text h0_texts h0_seed h0_line h0_written h0_lineMany h0_hasWritten h0_node h0_nodes h0_onesMany h0_within h0_top F_h0_name F_h0_tape h_83 i_h0_taped i_h0_size i_h0_to i_h0_snapMany i_h0_texts i_h0_lineMany i_h0_hasWritten s_h0_tape_0) (cwV 2 hts gX12_readRing_X12_readNamed rfl rfl rfl (by decide +kernel) ⟨Nat.le_of_ble_eq_true rfl, Nat.le_of_ble_eq_true rfl⟩) (oPV (C := RX12) hK hP hD [0, 2, 3] rfl (by decide) 0 rfl (ci := 11) rfl rfl) rfl rfl hl.1 rfl (lv_room (Nat.le_of_ble_eq_true rfl)) dX12_readRing_9 ⟨Nat.le_of_ble_eq_true rfl, Nat.le_of_ble_eq_true rfl⟩) hP hD hS hA [0, 2, 3] [1] rfl rfl (by decide) (by decide) (fun r_84 u H locs w_85 hP hD hS => ?_)
  obtain ⟨u_86, u_87, u_88, u_89, u_90, u_91, u_92, u_93, u_94⟩ := u
  have hP : va_P D vwCl [(aI ca h0_now 376 F_h0_now), (h0, .inr (11, [.int h0_thrown, .ref h0_tape, .int h0_taped, .int h0_size, .int h0_limit, .int u_86, .int u_87, .int u_88, .int u_89, .int u_90, .int u_91, .int u_92, .long u_93, .int u_94, .ref h0_now, .ref h0_read, .ref h0_kept, .ref h0_snaps, .ref h0_aside, .ref h0_name, .ref h0_readName, .ref h0_keptName, .ref h0_isKept, .ref h0_onces, .int h0_snapMany, .int h0_lowest, .int h0_highest, .int h0_agreed, .int h0_jurors, .int h0_panelled, .ref h0_inSets, .int h0_surely, .int h0_asked, .ref h0_frees, .int h0_struck, .int h0_beating, .ref h0_text, .int h0_texts, .int h0_seed, .ref h0_line, .ref h0_written, .int h0_lineMany, .int h0_hasWritten, .ref h0_node, .int h0_nodes, .int h0_onesMany, .int h0_within, .int h0_top])), (aJ ca h0_name 19 F_h0_name), (aI ca h0_tape 940 F_h0_tape)] H := hP
  have hD : va_D A [(aI ca h0_now 376 F_h0_now), (h0, .inr (11, [.int h0_thrown, .ref h0_tape, .int h0_taped, .int h0_size, .int h0_limit, .int u_86, .int u_87, .int u_88, .int u_89, .int u_90, .int u_91, .int u_92, .long u_93, .int u_94, .ref h0_now, .ref h0_read, .ref h0_kept, .ref h0_snaps, .ref h0_aside, .ref h0_name, .ref h0_readName, .ref h0_keptName, .ref h0_isKept, .ref h0_onces, .int h0_snapMany, .int h0_lowest, .int h0_highest, .int h0_agreed, .int h0_jurors, .int h0_panelled, .ref h0_inSets, .int h0_surely, .int h0_asked, .ref h0_frees, .int h0_struck, .int h0_beating, .ref h0_text, .int h0_texts, .int h0_seed, .ref h0_line, .ref h0_written, .int h0_lineMany, .int h0_hasWritten, .ref h0_node, .int h0_nodes, .int h0_onesMany, .int h0_within, .int h0_top])), (aJ ca h0_name 19 F_h0_name), (aI ca h0_tape 940 F_h0_tape)] := hD
  try dsimp only at w_85
  rcases w_85 with ⟨h_95, h_96, h_97, h_98, h_99, h_100, h_101, h_102, h_103, h_104, h_105, h_106⟩ | ⟨h_107, h_108, h_109, h_110, h_111, h_112, h_113, h_114, h_115, h_116, h_117⟩
  · skip
    subst h_95
    refine lv_if_ne (tgt := 17) hx hb dX12_readRing_12 (by decide) (fun c => absurd (by decide) c) (fun _ => ?_)
    refine lv_iconst (v := 0) hx hb dX12_readRing_15 (by decide) ?_
    exact oE_i hx hb hr (by decide) hlocks hP hD hS (u_86, u_87, u_88, u_89, u_90, u_91, u_92, u_93, u_94) [1, 0, 2, 3] rfl (by decide) (Or.inl ⟨rfl, h_96⟩) (Nat.le_of_ble_eq_true rfl) (Nat.le_of_ble_eq_true rfl) dX12_readRing_16
  · skip
    subst h_107
    refine lv_if_ne (tgt := 17) hx hb dX12_readRing_12 (by decide) (fun _ => ?_) (fun c => absurd c (by decide))
    refine lv_aload_n hx hb dX12_readRing_17 rfl (lv_at hl 0 rfl) ?_
    refine va_get (D := D) (ci := 11) (v := .int u_94) (C := RX12) (T := TX12) (N := 48) hx hb hts k2 hown hK.1 hP 1 rfl rfl 13 (by decide) k3 (fun _ h9 => h9) rfl dX12_readRing_18 ?_
    refine lv_istore_n (lv' := [(1, .int u_94), (0, .ref h0)]) hx hb dX12_readRing_21 rfl hl (by decide) rfl (fun ls hl => ?_)
    refine lv_aload_n hx hb dX12_readRing_22 rfl (lv_at hl 1 rfl) ?_
    refine lv_iconst (v := 0) hx hb dX12_readRing_23 (by decide) ?_
    refine lv_aload_n hx hb dX12_readRing_24 rfl (lv_at hl 1 rfl) ?_
    refine va_get (D := D) (ci := 11) (v := .ref h0_now) (C := RX12) (T := TX12) (N := 48) hx hb hts k2 hown hK.1 hP 1 rfl rfl 14 (by decide) k1 (fun _ h9 => h9) rfl dX12_readRing_25 ?_
    refine lv_iconst (v := 0) hx hb dX12_readRing_28 (by decide) ?_
    refine va_iald hx hb hK.1 hP 0 0 rfl rfl (rg_in (⟨by decide, by decide⟩ : rg 0 0 (0 : Int32)) (by decide) (by decide)) dX12_readRing_29 ?_
    refine lv_topi (fun x_118 ex_118 => ?_)
    have h_119 : rg 0 10 x_118 := by rw [ex_118]; exact sg_at s_h0_now_0 (⟨by decide, by decide⟩ : rg 0 0 (0 : Int32)) (by decide) (by decide) (by decide)
    refine oC_i (Wc := [(h0, .inr (11, [.int h0_thrown, .ref h0_tape, .int h0_taped, .int h0_size, .int h0_limit, .int u_86, .int u_87, .int u_88, .int u_89, .int u_90, .int u_91, .int u_92, .long u_93, .int u_94, .ref h0_now, .ref h0_read, .ref h0_kept, .ref h0_snaps, .ref h0_aside, .ref h0_name, .ref h0_readName, .ref h0_keptName, .ref h0_isKept, .ref h0_onces, .int h0_snapMany, .int h0_lowest, .int h0_highest, .int h0_agreed, .int h0_jurors, .int h0_panelled, .ref h0_inSets, .int h0_surely, .int h0_asked, .ref h0_frees, .int h0_struck, .int h0_beating, .ref h0_text, .int h0_texts, .int h0_seed, .ref h0_line, .ref h0_written, .int h0_lineMany, .int h0_hasWritten, .ref h0_node, .int h0_nodes, .int h0_onesMany, .int h0_within, .int h0_top])), (aJ ca h0_name 19 F_h0_name), (aI ca h0_tape 940 F_h0_tape)]) (Wr := [(aI ca h0_now 376 F_h0_now)]) (va_runV (As := [.int 0, .int x_118]) (rest := []) ⟨hx, hb, hml, hown, hts⟩ (s_X12_readNamed_j l D ca H.size h0 x_118 h0_thrown h0_tape h0_taped h0_size h0_limit u_86 u_87 u_88 u_89 u_90 u_91 u_92 u_93 u_94 h0_now h0_read h0_kept h0_snaps h0_aside h0_name h0_readName h0_keptName h0_isKept h0_onces h0_snapMany h0_lowest h0_highest h0_agreed h0_jurors h0_panelled h0_inSets h0_surely h0_asked h0_frees h0_struck h0_beating h0_text h0_texts h0_seed h0_line h0_written h0_lineMany h0_hasWritten h0_node h0_nodes h0_onesMany h0_within h0_top F_h0_name F_h0_tape h_119 i_h0_taped i_h0_size h_108 i_h0_snapMany i_h0_texts i_h0_lineMany i_h0_hasWritten s_h0_tape_0) (cwV 2 hts gX12_readRing_X12_readNamed rfl rfl rfl (by decide +kernel) ⟨Nat.le_of_ble_eq_true rfl, Nat.le_of_ble_eq_true rfl⟩) (oPV (C := RX12) hK hP hD [1, 2, 3] rfl (by decide) 0 rfl (ci := 11) rfl rfl) rfl rfl hl.1 rfl (lv_room (Nat.le_of_ble_eq_true rfl)) dX12_readRing_30 ⟨Nat.le_of_ble_eq_true rfl, Nat.le_of_ble_eq_true rfl⟩) hP hD hS hA [1, 2, 3] [0] rfl rfl (by decide) (by decide) (fun r_120 u H locs w_121 hP hD hS => ?_)
    obtain ⟨u_122, u_123, u_124, u_125, u_126, u_127, u_128, u_129, u_130⟩ := u
    have hP : va_P D vwCl [(aI ca h0_now 376 F_h0_now), (h0, .inr (11, [.int h0_thrown, .ref h0_tape, .int h0_taped, .int h0_size, .int h0_limit, .int u_122, .int u_123, .int u_124, .int u_125, .int u_126, .int u_127, .int u_128, .long u_129, .int u_130, .ref h0_now, .ref h0_read, .ref h0_kept, .ref h0_snaps, .ref h0_aside, .ref h0_name, .ref h0_readName, .ref h0_keptName, .ref h0_isKept, .ref h0_onces, .int h0_snapMany, .int h0_lowest, .int h0_highest, .int h0_agreed, .int h0_jurors, .int h0_panelled, .ref h0_inSets, .int h0_surely, .int h0_asked, .ref h0_frees, .int h0_struck, .int h0_beating, .ref h0_text, .int h0_texts, .int h0_seed, .ref h0_line, .ref h0_written, .int h0_lineMany, .int h0_hasWritten, .ref h0_node, .int h0_nodes, .int h0_onesMany, .int h0_within, .int h0_top])), (aJ ca h0_name 19 F_h0_name), (aI ca h0_tape 940 F_h0_tape)] H := hP
    have hD : va_D A [(aI ca h0_now 376 F_h0_now), (h0, .inr (11, [.int h0_thrown, .ref h0_tape, .int h0_taped, .int h0_size, .int h0_limit, .int u_122, .int u_123, .int u_124, .int u_125, .int u_126, .int u_127, .int u_128, .long u_129, .int u_130, .ref h0_now, .ref h0_read, .ref h0_kept, .ref h0_snaps, .ref h0_aside, .ref h0_name, .ref h0_readName, .ref h0_keptName, .ref h0_isKept, .ref h0_onces, .int h0_snapMany, .int h0_lowest, .int h0_highest, .int h0_agreed, .int h0_jurors, .int h0_panelled, .ref h0_inSets, .int h0_surely, .int h0_asked, .ref h0_frees, .int h0_struck, .int h0_beating, .ref h0_text, .int h0_texts, .int h0_seed, .ref h0_line, .ref h0_written, .int h0_lineMany, .int h0_hasWritten, .ref h0_node, .int h0_nodes, .int h0_onesMany, .int h0_within, .int h0_top])), (aJ ca h0_name 19 F_h0_name), (aI ca h0_tape 940 F_h0_tape)] := hD
    try dsimp only at w_121
    rcases w_121 with ⟨h_131, h_132, h_133, h_134, h_135, h_136, h_137, h_138, h_139, h_140, h_141, h_142⟩ | ⟨h_143, h_144, h_145, h_146, h_147, h_148, h_149, h_150, h_151, h_152, h_153⟩
    · skip
      subst h_131
      have h_154 : rg (-2147483648) 940 u_123 := rl_x h_136 (rga u_123) h_109 (by decide) (by decide)
      have h_155 : rg 0 2147483647 u_124 := rl_y h_137 h_110 (rga u_124) (by decide) (by decide)
      have h_156 : rg 0 4 u_124 := rl_x h_138 h_155 h_110 (by decide) (by decide)
      refine lv_if_ne (tgt := 38) hx hb dX12_readRing_33 (by decide) (fun c => absurd (by decide) c) (fun _ => ?_)
      refine lv_iconst (v := 0) hx hb dX12_readRing_36 (by decide) ?_
      exact oE_i hx hb hr (by decide) hlocks hP hD hS (u_122, u_123, u_124, u_125, u_126, u_127, u_128, u_129, u_130) [1, 0, 2, 3] rfl (by decide) (Or.inl ⟨rfl, h_132⟩) (Nat.le_of_ble_eq_true rfl) (Nat.le_of_ble_eq_true rfl) dX12_readRing_37
    · skip
      subst h_143
      refine lv_if_ne (tgt := 38) hx hb dX12_readRing_33 (by decide) (fun _ => ?_) (fun c => absurd c (by decide))
      refine lv_aload_n hx hb dX12_readRing_38 rfl (lv_at hl 1 rfl) ?_
      refine lv_dup hx hb dX12_readRing_39 rfl ?_
      refine va_get (D := D) (ci := 11) (v := .int u_130) (C := RX12) (T := TX12) (N := 48) hx hb hts k2 hown hK.1 hP 1 rfl rfl 13 (by decide) k3 (fun _ h9 => h9) rfl dX12_readRing_40 ?_
      refine lv_bipush (v := 10) hx hb dX12_readRing_43 (by decide) ?_
      refine lv_iload_n hx hb dX12_readRing_45 rfl (lv_at hl 0 rfl) ?_
      refine lv_imul hx hb dX12_readRing_46 ?_
      refine lv_topi (fun x_157 ex_157 => ?_)
      have h_158 : rg 0 30 x_157 := by rw [ex_157]; exact rg_mul' (k := 10) h_111 (by decide) (by decide) (by decide) (by decide) (by decide) (by decide)
      have l_159 : lq x_157.toInt (10 * u_94.toInt) := lqm (by rw [ex_157]; have q := tmul' (k := 10) (y := 10) h_111 (by decide) (by decide) (by decide) (by decide); omega)
      refine lv_iadd hx hb dX12_readRing_47 ?_
      refine lv_topi (fun x_160 ex_160 => ?_)
      have h_161 : rg 0 39 x_160 := by rw [ex_160]; exact rg_add h_147 h_158 (by decide) (by decide) (by decide) (by decide)
      have l_162 : lq x_160.toInt (u_130.toInt + 10 * u_94.toInt) := lqm (by rw [ex_160]; have q := tadd h_147 h_158 (by decide) (by decide); have r1 := lqe l_159; omega)
      refine va_put (D := D) (ci := 11) (v := .int x_160) (ty := .int) (C := RX12) (T := TX12) (N := 48) hx hb hts k2 tyX12 tyX12_ok nmX12 hown hK.1 hP hD hS 1 rfl rfl 13 (by decide) k3 (fun _ h9 => h9) rfl (by decide +kernel) rfl rfl (Nat.le_of_ble_eq_true rfl) dX12_readRing_48 (fun H locs hP hD hS => ?_)
      have hP : va_P D vwCl [(aI ca h0_now 376 F_h0_now), (h0, .inr (11, [.int h0_thrown, .ref h0_tape, .int h0_taped, .int h0_size, .int h0_limit, .int u_122, .int u_123, .int u_124, .int u_125, .int u_126, .int u_127, .int u_128, .long u_129, .int x_160, .ref h0_now, .ref h0_read, .ref h0_kept, .ref h0_snaps, .ref h0_aside, .ref h0_name, .ref h0_readName, .ref h0_keptName, .ref h0_isKept, .ref h0_onces, .int h0_snapMany, .int h0_lowest, .int h0_highest, .int h0_agreed, .int h0_jurors, .int h0_panelled, .ref h0_inSets, .int h0_surely, .int h0_asked, .ref h0_frees, .int h0_struck, .int h0_beating, .ref h0_text, .int h0_texts, .int h0_seed, .ref h0_line, .ref h0_written, .int h0_lineMany, .int h0_hasWritten, .ref h0_node, .int h0_nodes, .int h0_onesMany, .int h0_within, .int h0_top])), (aJ ca h0_name 19 F_h0_name), (aI ca h0_tape 940 F_h0_tape)] H := hP
      have hD : va_D A [(aI ca h0_now 376 F_h0_now), (h0, .inr (11, [.int h0_thrown, .ref h0_tape, .int h0_taped, .int h0_size, .int h0_limit, .int u_122, .int u_123, .int u_124, .int u_125, .int u_126, .int u_127, .int u_128, .long u_129, .int x_160, .ref h0_now, .ref h0_read, .ref h0_kept, .ref h0_snaps, .ref h0_aside, .ref h0_name, .ref h0_readName, .ref h0_keptName, .ref h0_isKept, .ref h0_onces, .int h0_snapMany, .int h0_lowest, .int h0_highest, .int h0_agreed, .int h0_jurors, .int h0_panelled, .ref h0_inSets, .int h0_surely, .int h0_asked, .ref h0_frees, .int h0_struck, .int h0_beating, .ref h0_text, .int h0_texts, .int h0_seed, .ref h0_line, .ref h0_written, .int h0_lineMany, .int h0_hasWritten, .ref h0_node, .int h0_nodes, .int h0_onesMany, .int h0_within, .int h0_top])), (aJ ca h0_name 19 F_h0_name), (aI ca h0_tape 940 F_h0_tape)] := hD
      refine lv_iconst (v := 1) hx hb dX12_readRing_51 (by decide) ?_
      exact oE_i hx hb hr (by decide) hlocks hP hD hS (u_122, u_123, u_124, u_125, u_126, u_127, u_128, u_129, x_160) [1, 0, 2, 3] rfl (by decide) (Or.inr (⟨rfl, h_144, h_145, h_146, h_161, h_112⟩)) (Nat.le_of_ble_eq_true rfl) (Nat.le_of_ble_eq_true rfl) dX12_readRing_52
theorem dX12_areOneRing_0 : decode cX12_areOneRing 0 = .ok (.aload_n 0, 1) := by decide +kernel
theorem dX12_areOneRing_1 : decode cX12_areOneRing 1 = .ok (.iconst 1, 1) := by decide +kernel
theorem dX12_areOneRing_2 : decode cX12_areOneRing 2 = .ok (.iload_n 1, 1) := by decide +kernel
theorem dX12_areOneRing_3 : decode cX12_areOneRing 3 = .ok (.ishl, 1) := by decide +kernel
theorem dX12_areOneRing_4 : decode cX12_areOneRing 4 = .ok (.iconst 1, 1) := by decide +kernel
theorem dX12_areOneRing_5 : decode cX12_areOneRing 5 = .ok (.iload_n 2, 1) := by decide +kernel
theorem dX12_areOneRing_6 : decode cX12_areOneRing 6 = .ok (.bipush 10, 2) := by decide +kernel
theorem dX12_areOneRing_8 : decode cX12_areOneRing 8 = .ok (.irem, 1) := by decide +kernel
theorem dX12_areOneRing_9 : decode cX12_areOneRing 9 = .ok (.ishl, 1) := by decide +kernel
theorem dX12_areOneRing_10 : decode cX12_areOneRing 10 = .ok (.ior, 1) := by decide +kernel
theorem dX12_areOneRing_11 : decode cX12_areOneRing 11 = .ok (.iload_n 2, 1) := by decide +kernel
theorem dX12_areOneRing_12 : decode cX12_areOneRing 12 = .ok (.bipush 10, 2) := by decide +kernel
theorem dX12_areOneRing_14 : decode cX12_areOneRing 14 = .ok (.idiv, 1) := by decide +kernel
theorem dX12_areOneRing_15 : decode cX12_areOneRing 15 = .ok (.invokevirtual 277, 3) := by decide +kernel
theorem dX12_areOneRing_18 : decode cX12_areOneRing 18 = .ok (.ireturn, 1) := by decide +kernel
theorem dX12_readAnd_0 : decode cX12_readAnd 0 = .ok (.aload_n 0, 1) := by decide +kernel
theorem dX12_readAnd_1 : decode cX12_readAnd 1 = .ok (.invokevirtual 394, 3) := by decide +kernel
theorem dX12_readCompare_0 : decode cX12_readCompare 0 = .ok (.aload_n 0, 1) := by decide +kernel
theorem dX12_readCompare_1 : decode cX12_readCompare 1 = .ok (.bipush 60, 2) := by decide +kernel
theorem dX12_readCompare_3 : decode cX12_readCompare 3 = .ok (.invokevirtual 86, 3) := by decide +kernel
theorem dX12_readCompare_6 : decode cX12_readCompare 6 = .ok (.ifCond .ne 27, 3) := by decide +kernel
theorem dX12_readCompare_9 : decode cX12_readCompare 9 = .ok (.aload_n 0, 1) := by decide +kernel
theorem dX12_readCompare_10 : decode cX12_readCompare 10 = .ok (.bipush 61, 2) := by decide +kernel
theorem dX12_readCompare_12 : decode cX12_readCompare 12 = .ok (.invokevirtual 86, 3) := by decide +kernel
theorem dX12_readCompare_15 : decode cX12_readCompare 15 = .ok (.ifCond .ne 18, 3) := by decide +kernel
theorem dX12_readCompare_18 : decode cX12_readCompare 18 = .ok (.aload_n 0, 1) := by decide +kernel
theorem dX12_readCompare_19 : decode cX12_readCompare 19 = .ok (.bipush 62, 2) := by decide +kernel
theorem dX12_readCompare_21 : decode cX12_readCompare 21 = .ok (.invokevirtual 86, 3) := by decide +kernel
theorem dX12_readCompare_24 : decode cX12_readCompare 24 = .ok (.ifCond .ne 9, 3) := by decide +kernel
theorem dX12_readCompare_27 : decode cX12_readCompare 27 = .ok (.aload_n 0, 1) := by decide +kernel
theorem dX12_readCompare_28 : decode cX12_readCompare 28 = .ok (.iconst 1, 1) := by decide +kernel
theorem dX12_readCompare_29 : decode cX12_readCompare 29 = .ok (.invokevirtual 72, 3) := by decide +kernel
theorem dX12_readCompare_32 : decode cX12_readCompare 32 = .ok (.ireturn, 1) := by decide +kernel
theorem dX12_readCompare_33 : decode cX12_readCompare 33 = .ok (.aload_n 0, 1) := by decide +kernel
theorem dX12_readCompare_34 : decode cX12_readCompare 34 = .ok (.getfield 40, 3) := by decide +kernel
theorem dX12_readCompare_37 : decode cX12_readCompare 37 = .ok (.istore_n 2, 1) := by decide +kernel
theorem dX12_readCompare_38 : decode cX12_readCompare 38 = .ok (.aload_n 0, 1) := by decide +kernel
theorem dX12_readCompare_39 : decode cX12_readCompare 39 = .ok (.invokevirtual 82, 3) := by decide +kernel
theorem dX12_readCompare_42 : decode cX12_readCompare 42 = .ok (.aload_n 0, 1) := by decide +kernel
theorem dX12_readCompare_43 : decode cX12_readCompare 43 = .ok (.iconst 0, 1) := by decide +kernel
theorem dX12_readCompare_44 : decode cX12_readCompare 44 = .ok (.sipush 999, 3) := by decide +kernel
theorem dX12_readCompare_47 : decode cX12_readCompare 47 = .ok (.invokevirtual 190, 3) := by decide +kernel
theorem dX12_readCompare_50 : decode cX12_readCompare 50 = .ok (.ifCond .ne 5, 3) := by decide +kernel
theorem dX12_readCompare_53 : decode cX12_readCompare 53 = .ok (.iconst 0, 1) := by decide +kernel
theorem dX12_readCompare_54 : decode cX12_readCompare 54 = .ok (.ireturn, 1) := by decide +kernel
theorem dX12_readCompare_55 : decode cX12_readCompare 55 = .ok (.aload_n 0, 1) := by decide +kernel
theorem dX12_readCompare_56 : decode cX12_readCompare 56 = .ok (.aload_n 0, 1) := by decide +kernel
theorem dX12_readCompare_57 : decode cX12_readCompare 57 = .ok (.bipush 50, 2) := by decide +kernel
theorem dX12_readCompare_59 : decode cX12_readCompare 59 = .ok (.iload_n 1, 1) := by decide +kernel
theorem dX12_readCompare_60 : decode cX12_readCompare 60 = .ok (.iadd, 1) := by decide +kernel
theorem dX12_readCompare_61 : decode cX12_readCompare 61 = .ok (.iconst 0, 1) := by decide +kernel
theorem dX12_readCompare_62 : decode cX12_readCompare 62 = .ok (.aload_n 0, 1) := by decide +kernel
theorem dX12_readCompare_63 : decode cX12_readCompare 63 = .ok (.getfield 79, 3) := by decide +kernel
theorem dX12_readCompare_66 : decode cX12_readCompare 66 = .ok (.iload_n 2, 1) := by decide +kernel
theorem dX12_readCompare_67 : decode cX12_readCompare 67 = .ok (.invokevirtual 390, 3) := by decide +kernel
theorem dX12_readOf_0 : decode cX12_readOf 0 = .ok (.aload_n 0, 1) := by decide +kernel
theorem dX12_readOf_1 : decode cX12_readOf 1 = .ok (.invokevirtual 418, 3) := by decide +kernel
theorem dX12_readOf_4 : decode cX12_readOf 4 = .ok (.ifCond .ne 5, 3) := by decide +kernel
theorem dX12_readOf_7 : decode cX12_readOf 7 = .ok (.iconst 0, 1) := by decide +kernel
theorem dX12_readOf_8 : decode cX12_readOf 8 = .ok (.ireturn, 1) := by decide +kernel
theorem dX12_readOf_9 : decode cX12_readOf 9 = .ok (.aload_n 0, 1) := by decide +kernel
theorem dX12_readOf_10 : decode cX12_readOf 10 = .ok (.aload_n 0, 1) := by decide +kernel
theorem dX12_readOf_11 : decode cX12_readOf 11 = .ok (.bipush 50, 2) := by decide +kernel
theorem dX12_readOf_13 : decode cX12_readOf 13 = .ok (.iload_n 1, 1) := by decide +kernel
theorem dX12_readOf_14 : decode cX12_readOf 14 = .ok (.iadd, 1) := by decide +kernel
theorem dX12_readOf_15 : decode cX12_readOf 15 = .ok (.aload_n 0, 1) := by decide +kernel
theorem dX12_readOf_16 : decode cX12_readOf 16 = .ok (.getfield 79, 3) := by decide +kernel
theorem dX12_readOf_19 : decode cX12_readOf 19 = .ok (.iconst 0, 1) := by decide +kernel
theorem dX12_readOf_20 : decode cX12_readOf 20 = .ok (.iconst 0, 1) := by decide +kernel
theorem dX12_readOf_21 : decode cX12_readOf 21 = .ok (.invokevirtual 390, 3) := by decide +kernel
theorem dX12_readOr_0 : decode cX12_readOr 0 = .ok (.aload_n 0, 1) := by decide +kernel
theorem dX12_readOr_1 : decode cX12_readOr 1 = .ok (.invokevirtual 384, 3) := by decide +kernel
theorem dX12_readSaid_0 : decode cX12_readSaid 0 = .ok (.aload_n 0, 1) := by decide +kernel
theorem dX12_readSaid_1 : decode cX12_readSaid 1 = .ok (.bipush 40, 2) := by decide +kernel
theorem dX12_readSaid_3 : decode cX12_readSaid 3 = .ok (.invokevirtual 86, 3) := by decide +kernel
theorem dX12_readSaid_6 : decode cX12_readSaid 6 = .ok (.istore_n 1, 1) := by decide +kernel
theorem dX12_readSaid_7 : decode cX12_readSaid 7 = .ok (.bipush 17, 2) := by decide +kernel
theorem dX12_readSaid_9 : decode cX12_readSaid 9 = .ok (.istore_n 2, 1) := by decide +kernel
theorem dX12_readSaid_10 : decode cX12_readSaid 10 = .ok (.iload_n 2, 1) := by decide +kernel
theorem dX12_readSaid_11 : decode cX12_readSaid 11 = .ok (.bipush 25, 2) := by decide +kernel
theorem dX12_readSaid_13 : decode cX12_readSaid 13 = .ok (.if_icmp .gt 17, 3) := by decide +kernel
theorem dX12_readSaid_16 : decode cX12_readSaid 16 = .ok (.aload_n 0, 1) := by decide +kernel
theorem dX12_readSaid_17 : decode cX12_readSaid 17 = .ok (.iload_n 2, 1) := by decide +kernel
theorem dX12_readSaid_18 : decode cX12_readSaid 18 = .ok (.invokevirtual 197, 3) := by decide +kernel
theorem dX12_readSaid_21 : decode cX12_readSaid 21 = .ok (.ifCond .ne 9, 3) := by decide +kernel
theorem dX12_readSaid_24 : decode cX12_readSaid 24 = .ok (.iinc 2 1, 3) := by decide +kernel
theorem dX12_readSaid_27 : decode cX12_readSaid 27 = .ok (.goto (-17), 3) := by decide +kernel
theorem dX12_readSaid_30 : decode cX12_readSaid 30 = .ok (.iload_n 1, 1) := by decide +kernel
theorem dX12_readSaid_31 : decode cX12_readSaid 31 = .ok (.ifCond .ne 15, 3) := by decide +kernel
theorem dX12_readSaid_34 : decode cX12_readSaid 34 = .ok (.iload_n 2, 1) := by decide +kernel
theorem dX12_readSaid_35 : decode cX12_readSaid 35 = .ok (.bipush 25, 2) := by decide +kernel
theorem dX12_readSaid_37 : decode cX12_readSaid 37 = .ok (.if_icmp .le 9, 3) := by decide +kernel
theorem dX12_readSaid_40 : decode cX12_readSaid 40 = .ok (.aload_n 0, 1) := by decide +kernel
theorem dX12_readSaid_41 : decode cX12_readSaid 41 = .ok (.iconst 1, 1) := by decide +kernel
theorem dX12_readSaid_42 : decode cX12_readSaid 42 = .ok (.invokevirtual 72, 3) := by decide +kernel
theorem dX12_readSaid_45 : decode cX12_readSaid 45 = .ok (.ireturn, 1) := by decide +kernel
theorem dX12_readSaid_46 : decode cX12_readSaid 46 = .ok (.aload_n 0, 1) := by decide +kernel
theorem dX12_readSaid_47 : decode cX12_readSaid 47 = .ok (.getfield 397, 3) := by decide +kernel
theorem dX12_readSaid_50 : decode cX12_readSaid 50 = .ok (.bipush 20, 2) := by decide +kernel
theorem dX12_readSaid_52 : decode cX12_readSaid 52 = .ok (.if_icmp .eq 12, 3) := by decide +kernel
theorem dX12_readSaid_55 : decode cX12_readSaid 55 = .ok (.aload_n 0, 1) := by decide +kernel
theorem dX12_readSaid_56 : decode cX12_readSaid 56 = .ok (.getfield 400, 3) := by decide +kernel
theorem dX12_readSaid_59 : decode cX12_readSaid 59 = .ok (.bipush 8, 2) := by decide +kernel
theorem dX12_readSaid_61 : decode cX12_readSaid 61 = .ok (.if_icmp .ne 9, 3) := by decide +kernel
theorem dX12_readSaid_70 : decode cX12_readSaid 70 = .ok (.aload_n 0, 1) := by decide +kernel
theorem dX12_readSaid_71 : decode cX12_readSaid 71 = .ok (.dup, 1) := by decide +kernel
theorem dX12_readSaid_72 : decode cX12_readSaid 72 = .ok (.getfield 397, 3) := by decide +kernel
theorem dX12_readSaid_75 : decode cX12_readSaid 75 = .ok (.iconst 1, 1) := by decide +kernel
theorem dX12_readSaid_76 : decode cX12_readSaid 76 = .ok (.iadd, 1) := by decide +kernel
theorem dX12_readSaid_77 : decode cX12_readSaid 77 = .ok (.putfield 397, 3) := by decide +kernel
theorem dX12_readSaid_80 : decode cX12_readSaid 80 = .ok (.aload_n 0, 1) := by decide +kernel
theorem dX12_readSaid_81 : decode cX12_readSaid 81 = .ok (.dup, 1) := by decide +kernel
theorem dX12_readSaid_82 : decode cX12_readSaid 82 = .ok (.getfield 400, 3) := by decide +kernel
theorem dX12_readSaid_85 : decode cX12_readSaid 85 = .ok (.iconst 1, 1) := by decide +kernel
theorem dX12_readSaid_86 : decode cX12_readSaid 86 = .ok (.iadd, 1) := by decide +kernel
theorem dX12_readSaid_87 : decode cX12_readSaid 87 = .ok (.putfield 400, 3) := by decide +kernel
theorem dX12_readSaid_90 : decode cX12_readSaid 90 = .ok (.aload_n 0, 1) := by decide +kernel
theorem dX12_readSaid_91 : decode cX12_readSaid 91 = .ok (.invokevirtual 82, 3) := by decide +kernel
theorem dX12_readSaid_94 : decode cX12_readSaid 94 = .ok (.iconst 1, 1) := by decide +kernel
theorem dX12_readSaid_95 : decode cX12_readSaid 95 = .ok (.istore_n 3, 1) := by decide +kernel
theorem dX12_readSaid_96 : decode cX12_readSaid 96 = .ok (.iload_n 1, 1) := by decide +kernel
theorem dX12_readSaid_97 : decode cX12_readSaid 97 = .ok (.ifCond .eq 11, 3) := by decide +kernel
theorem dX12_readSaid_108 : decode cX12_readSaid 108 = .ok (.iload_n 2, 1) := by decide +kernel
theorem dX12_readSaid_109 : decode cX12_readSaid 109 = .ok (.bipush 17, 2) := by decide +kernel
theorem dX12_readSaid_111 : decode cX12_readSaid 111 = .ok (.if_icmp .ne 11, 3) := by decide +kernel
theorem dX12_readSaid_122 : decode cX12_readSaid 122 = .ok (.iload_n 2, 1) := by decide +kernel
theorem dX12_readSaid_123 : decode cX12_readSaid 123 = .ok (.bipush 21, 2) := by decide +kernel
theorem dX12_readSaid_125 : decode cX12_readSaid 125 = .ok (.if_icmp .ge 21, 3) := by decide +kernel
theorem dX12_readSaid_146 : decode cX12_readSaid 146 = .ok (.iload_n 2, 1) := by decide +kernel
theorem dX12_readSaid_147 : decode cX12_readSaid 147 = .ok (.bipush 22, 2) := by decide +kernel
theorem dX12_readSaid_149 : decode cX12_readSaid 149 = .ok (.if_icmp .ge 11, 3) := by decide +kernel
theorem dX12_readSaid_160 : decode cX12_readSaid 160 = .ok (.aload_n 0, 1) := by decide +kernel
theorem dX12_readSaid_161 : decode cX12_readSaid 161 = .ok (.iload_n 2, 1) := by decide +kernel
theorem dX12_readSaid_162 : decode cX12_readSaid 162 = .ok (.invokevirtual 412, 3) := by decide +kernel
theorem dX12_sentence_0 : decode cX12_sentence 0 = .ok (.aload_n 0, 1) := by decide +kernel
theorem dX12_sentence_1 : decode cX12_sentence 1 = .ok (.sipush 200, 3) := by decide +kernel
theorem dX12_sentence_4 : decode cX12_sentence 4 = .ok (.invokevirtual 218, 3) := by decide +kernel
theorem dX12_sentence_7 : decode cX12_sentence 7 = .ok (.aload_n 0, 1) := by decide +kernel
theorem dX12_sentence_8 : decode cX12_sentence 8 = .ok (.iconst 0, 1) := by decide +kernel
theorem dX12_sentence_9 : decode cX12_sentence 9 = .ok (.putfield 381, 3) := by decide +kernel
theorem dX12_sentence_12 : decode cX12_sentence 12 = .ok (.aload_n 0, 1) := by decide +kernel
theorem dX12_sentence_13 : decode cX12_sentence 13 = .ok (.iconst 0, 1) := by decide +kernel
theorem dX12_sentence_14 : decode cX12_sentence 14 = .ok (.putfield 397, 3) := by decide +kernel
theorem dX12_sentence_17 : decode cX12_sentence 17 = .ok (.aload_n 0, 1) := by decide +kernel
theorem dX12_sentence_18 : decode cX12_sentence 18 = .ok (.iconst 0, 1) := by decide +kernel
theorem dX12_sentence_19 : decode cX12_sentence 19 = .ok (.putfield 400, 3) := by decide +kernel
theorem dX12_sentence_22 : decode cX12_sentence 22 = .ok (.aload_n 0, 1) := by decide +kernel
theorem dX12_sentence_23 : decode cX12_sentence 23 = .ok (.invokevirtual 415, 3) := by decide +kernel
set_option maxRecDepth 20000 in
theorem ggX12_readOf_X12_readRing : GoodIn wsX12_readOf wsX12_readRing := goodIn_r _ [7, 8, 1, 9, 10, 11, 6, 12, 13, 14, 15, 16, 17, 18, 19, 20, 21, 22, 23, 24, 25, 26, 27, 28, 29, 30, 31, 32, 33, 34, 35, 36, 37, 38, 39, 40, 41, 42, 43, 44, 45, 46, 47, 48, 49, 50, 51, 52, 53, 54, 55, 56, 57, 64, 65, 66, 67, 68, 69, 70, 71, 72, 73, 74, 75, 76, 77, 78, 79, 80, 81, 82, 83, 84, 85, 86, 87, 88, 89, 90, 91, 92, 93, 94, 95, 96, 97, 98, 99, 100, 101, 102, 103, 104, 105, 106, 107, 108, 109, 110, 111] rfl (by decide +kernel)
set_option maxRecDepth 20000 in
theorem gX12_readOf_X12_readRing : GoodIn wsX12_readOf (wsV RX12 418 RX12 yX12_readRing wsX12_readRing) := goodIn_app (goodIn_of _ (by decide +kernel)) ggX12_readOf_X12_readRing
set_option maxRecDepth 20000 in
theorem ggX12_readCompare_X12_isSign : GoodIn wsX12_readCompare wsX12_isSign := goodIn_r _ [8, 9, 1, 52, 53, 54, 55, 56, 57, 58, 59, 60, 61, 62, 63, 64, 65, 66, 67, 68, 69, 70, 71, 72, 73, 74, 75, 76, 77, 78, 79, 80, 81, 82, 83, 84, 85, 86, 87, 88, 89, 90, 91, 92, 93, 94, 95, 96, 97, 98, 99] rfl (by decide +kernel)
set_option maxRecDepth 20000 in
theorem gX12_readCompare_X12_isSign : GoodIn wsX12_readCompare (wsV RX12 86 RX12 yX12_isSign wsX12_isSign) := goodIn_app (goodIn_of _ (by decide +kernel)) ggX12_readCompare_X12_isSign
set_option maxRecDepth 20000 in
theorem ggX12_readCompare_X12_bad : GoodIn wsX12_readCompare wsX12_bad := goodIn_r _ [13, 9, 14, 15, 16, 52, 53, 54, 55, 56, 57, 58, 59, 60, 61, 62, 63, 64, 65, 66, 67, 68, 69, 70, 71, 72, 73, 74, 75, 76, 77, 78, 79, 80, 81, 82, 83, 84, 85, 86, 87, 88, 89, 90, 91, 92, 93, 94, 95, 96, 97, 98, 99] rfl (by decide +kernel)
set_option maxRecDepth 20000 in
theorem gX12_readCompare_X12_bad : GoodIn wsX12_readCompare (wsV RX12 72 RX12 yX12_bad wsX12_bad) := goodIn_app (goodIn_of _ (by decide +kernel)) ggX12_readCompare_X12_bad
set_option maxRecDepth 20000 in
theorem ggX12_readCompare_X12_go : GoodIn wsX12_readCompare wsX12_go := goodIn_r _ [20, 21, 22, 23, 15, 24, 9, 1, 25, 26, 27, 28, 29, 30, 7, 31, 32, 33, 34, 35, 36, 37, 38, 52, 53, 54, 55, 56, 57, 58, 59, 60, 61, 62, 63, 64, 65, 66, 67, 68, 69, 70, 71, 72, 73, 74, 75, 76, 77, 78, 79, 80, 81, 82, 83, 84, 85, 86, 87, 88, 89, 90, 91, 92, 93, 94, 95, 96, 97, 98, 99] rfl (by decide +kernel)
set_option maxRecDepth 20000 in
theorem gX12_readCompare_X12_go : GoodIn wsX12_readCompare (wsV RX12 82 RX12 yX12_go wsX12_go) := goodIn_app (goodIn_of _ (by decide +kernel)) ggX12_readCompare_X12_go
set_option maxRecDepth 20000 in
theorem ggX12_readCompare_X12_readNumber : GoodIn wsX12_readCompare wsX12_readNumber := goodIn_r _ [42, 9, 26, 2, 10, 11, 12, 7, 13, 14, 15, 16, 43, 44, 45, 17, 18, 19, 20, 21, 22, 23, 24, 1, 25, 27, 28, 29, 30, 31, 32, 33, 34, 35, 36, 37, 38, 52, 53, 54, 55, 56, 57, 58, 59, 60, 61, 62, 63, 64, 65, 66, 67, 68, 69, 70, 71, 72, 73, 74, 75, 76, 77, 78, 79, 80, 81, 82, 83, 84, 85, 86, 87, 88, 89, 90, 91, 92, 93, 94, 95, 96, 97, 98, 99] rfl (by decide +kernel)
set_option maxRecDepth 20000 in
theorem gX12_readCompare_X12_readNumber : GoodIn wsX12_readCompare (wsV RX12 190 RX12 yX12_readNumber wsX12_readNumber) := goodIn_app (goodIn_of _ (by decide +kernel)) ggX12_readCompare_X12_readNumber
set_option maxRecDepth 20000 in
theorem ggX12_readSaid_X12_isSign : GoodIn wsX12_readSaid wsX12_isSign := goodIn_r _ [8, 9, 10, 108, 109, 110, 111, 112, 113, 114, 115, 116, 117, 118, 119, 120, 121, 122, 123, 124, 125, 126, 127, 128, 129, 130, 131, 132, 133, 134, 135, 136, 137, 138, 139, 140, 141, 142, 143, 144, 145, 146, 147, 148, 149, 150, 151, 152, 153, 154, 155] rfl (by decide +kernel)
set_option maxRecDepth 20000 in
theorem gX12_readSaid_X12_isSign : GoodIn wsX12_readSaid (wsV RX12 86 RX12 yX12_isSign wsX12_isSign) := goodIn_app (goodIn_of _ (by decide +kernel)) ggX12_readSaid_X12_isSign
set_option maxRecDepth 20000 in
theorem ggX12_readSaid_X12_isWord : GoodIn wsX12_readSaid wsX12_isWord := goodIn_r _ [14, 9, 15, 16, 17, 7, 18, 19, 20, 21, 22, 23, 108, 109, 110, 111, 112, 113, 114, 115, 116, 117, 118, 119, 120, 121, 122, 123, 124, 125, 126, 127, 128, 129, 130, 131, 132, 133, 134, 135, 136, 137, 138, 139, 140, 141, 142, 143, 144, 145, 146, 147, 148, 149, 150, 151, 152, 153, 154, 155] rfl (by decide +kernel)
set_option maxRecDepth 20000 in
theorem gX12_readSaid_X12_isWord : GoodIn wsX12_readSaid (wsV RX12 197 RX12 yX12_isWord wsX12_isWord) := goodIn_app (goodIn_of _ (by decide +kernel)) ggX12_readSaid_X12_isWord
set_option maxRecDepth 20000 in
theorem ggX12_readSaid_X12_bad : GoodIn wsX12_readSaid wsX12_bad := goodIn_r _ [27, 9, 28, 29, 30, 108, 109, 110, 111, 112, 113, 114, 115, 116, 117, 118, 119, 120, 121, 122, 123, 124, 125, 126, 127, 128, 129, 130, 131, 132, 133, 134, 135, 136, 137, 138, 139, 140, 141, 142, 143, 144, 145, 146, 147, 148, 149, 150, 151, 152, 153, 154, 155] rfl (by decide +kernel)
set_option maxRecDepth 20000 in
theorem gX12_readSaid_X12_bad : GoodIn wsX12_readSaid (wsV RX12 72 RX12 yX12_bad wsX12_bad) := goodIn_app (goodIn_of _ (by decide +kernel)) ggX12_readSaid_X12_bad
set_option maxRecDepth 20000 in
theorem ggX12_readSaid_X12_go : GoodIn wsX12_readSaid wsX12_go := goodIn_r _ [34, 35, 36, 37, 29, 38, 9, 10, 15, 39, 22, 23, 40, 41, 7, 42, 43, 44, 45, 46, 47, 48, 49, 108, 109, 110, 111, 112, 113, 114, 115, 116, 117, 118, 119, 120, 121, 122, 123, 124, 125, 126, 127, 128, 129, 130, 131, 132, 133, 134, 135, 136, 137, 138, 139, 140, 141, 142, 143, 144, 145, 146, 147, 148, 149, 150, 151, 152, 153, 154, 155] rfl (by decide +kernel)
set_option maxRecDepth 20000 in
theorem gX12_readSaid_X12_go : GoodIn wsX12_readSaid (wsV RX12 82 RX12 yX12_go wsX12_go) := goodIn_app (goodIn_of _ (by decide +kernel)) ggX12_readSaid_X12_go
set_option maxRecDepth 20000 in
theorem ggX12_sentence_X12_begin : GoodIn wsX12_sentence wsX12_begin := goodIn_r _ [13, 14, 15, 16, 17, 18, 19, 20, 21, 12, 22, 23, 24, 25, 26, 27, 28, 29, 5, 30, 31, 32, 33, 34, 35, 36, 37, 38, 39, 40, 41, 42, 43, 44, 119, 120, 121, 122, 123, 124, 125, 126, 127, 128, 129, 130, 131, 132, 133, 134, 135, 136, 137, 138, 139, 140, 141, 142, 143, 144, 145, 146, 147, 148, 149, 150, 151, 152, 153, 154, 155, 156, 157, 158, 159, 160, 161, 162, 163, 164, 165, 166] rfl (by decide +kernel)
set_option maxRecDepth 20000 in
theorem gX12_sentence_X12_begin : GoodIn wsX12_sentence (wsV RX12 218 RX12 yX12_begin wsX12_begin) := goodIn_app (goodIn_of _ (by decide +kernel)) ggX12_sentence_X12_begin
set_option maxRecDepth 20000 in
theorem ggX12_areOneRing_X12_isOneRing_ : GoodIn wsX12_areOneRing wsX12_isOneRing_ := goodIn_r _ [5, 6, 7, 8, 4, 9, 10, 11, 12, 13, 14, 15, 16, 17, 18, 19, 20, 21, 22, 23, 24, 25, 26, 27, 28, 29, 30, 31, 32, 33, 34, 35, 36, 37, 38, 39, 40, 41, 42, 43, 44, 45, 46, 47, 48, 49, 50, 51, 52, 53, 54, 55, 56, 57, 58, 59, 60, 61, 62, 63, 64, 65, 66, 67, 68, 69, 70, 71] rfl (by decide +kernel)
set_option maxRecDepth 20000 in
theorem gX12_areOneRing_X12_isOneRing_ : GoodIn wsX12_areOneRing (wsV RX12 277 RX12 yX12_isOneRing_ wsX12_isOneRing_) := goodIn_app (goodIn_of _ (by decide +kernel)) ggX12_areOneRing_X12_isOneRing_
set_option maxHeartbeats 4000000 in
set_option maxRecDepth 100000 in
theorem s_X12_areOneRing (l : Launch) (D : va_G) (ca : Nat → ClassId) (sz : Nat) (h0 : Nat) (a1 : Int32) (a2 : Int32) (h0_thrown : Int32) (h0_tape : Nat) (h0_taped : Int32) (h0_size : Int32) (h0_limit : Int32) (h0_to : Int32) (h0_from : Int32) (h0_kind : Int32) (h0_number : Int32) (h0_sign : Int32) (h0_fault : Int32) (h0_place : Int32) (h0_word : Int64) (h0_told : Int32) (h0_now : Nat) (h0_read : Nat) (h0_kept : Nat) (h0_snaps : Nat) (h0_aside : Nat) (h0_name : Nat) (h0_readName : Nat) (h0_keptName : Nat) (h0_isKept : Nat) (h0_onces : Nat) (h0_snapMany : Int32) (h0_lowest : Int32) (h0_highest : Int32) (h0_agreed : Int32) (h0_jurors : Int32) (h0_panelled : Int32) (h0_inSets : Nat) (h0_surely : Int32) (h0_asked : Int32) (h0_frees : Nat) (h0_struck : Int32) (h0_beating : Int32) (h0_text : Nat) (h0_texts : Int32) (h0_seed : Int32) (h0_line : Nat) (h0_written : Nat) (h0_lineMany : Int32) (h0_hasWritten : Int32) (h0_node : Nat) (h0_nodes : Int32) (h0_onesMany : Int32) (h0_within : Int32) (h0_top : Int32) (F_h0_now : Nat → Int32) (i_a1 : rg 0 9 a1) (i_a2 : rg 0 39 a2) (i_h0_taped : rg 0 940 h0_taped) (i_h0_size : rg 0 940 h0_size) (i_h0_to : rg 0 940 h0_to) (i_h0_snapMany : rg 0 8 h0_snapMany) (i_h0_texts : rg 0 64 h0_texts) (i_h0_lineMany : rg 0 40 h0_lineMany) (i_h0_hasWritten : rg 0 1 h0_hasWritten) (s_h0_now_0 : sg 0 1 0 10 F_h0_now) (s_h0_now_1 : sg 1 2 0 4 F_h0_now) (s_h0_now_2 : sg 2 3 0 5 F_h0_now) (s_h0_now_3 : sg 35 36 0 1023 F_h0_now) (s_h0_now_4 : sg 44 49 0 3 F_h0_now) (s_h0_now_5 : sg 90 91 0 1023 F_h0_now) : oMet l yX12_areOneRing wsX12_areOneRing ({ frames := 4, cells := 0, slots := 0, locals := 95 } : Room) [.ref h0, .int a1, .int a2] D ca sz [(h0, .inr (11, [.int h0_thrown, .ref h0_tape, .int h0_taped, .int h0_size, .int h0_limit, .int h0_to, .int h0_from, .int h0_kind, .int h0_number, .int h0_sign, .int h0_fault, .int h0_place, .long h0_word, .int h0_told, .ref h0_now, .ref h0_read, .ref h0_kept, .ref h0_snaps, .ref h0_aside, .ref h0_name, .ref h0_readName, .ref h0_keptName, .ref h0_isKept, .ref h0_onces, .int h0_snapMany, .int h0_lowest, .int h0_highest, .int h0_agreed, .int h0_jurors, .int h0_panelled, .ref h0_inSets, .int h0_surely, .int h0_asked, .ref h0_frees, .int h0_struck, .int h0_beating, .ref h0_text, .int h0_texts, .int h0_seed, .ref h0_line, .ref h0_written, .int h0_lineMany, .int h0_hasWritten, .ref h0_node, .int h0_nodes, .int h0_onesMany, .int h0_within, .int h0_top])), (aI ca h0_now 376 F_h0_now)] (oQi D (fun (r : Int32) (u : Int32 × Int32) => ((r = 0) ∧ (rg 0 1000 u.1) ∧ (rg (-1) 2147483647 u.2)) ∨ ((r = 1) ∧ (rg 0 1000 u.1) ∧ (rg (-1) 2147483647 u.2) ∧ (sg 3 4 (-1001) 2147483647 F_h0_now))) (fun (u : Int32 × Int32) => [(h0, .inr (11, [.int h0_thrown, .ref h0_tape, .int h0_taped, .int h0_size, .int h0_limit, .int h0_to, .int h0_from, .int h0_kind, .int h0_number, .int h0_sign, .int h0_fault, .int h0_place, .long h0_word, .int h0_told, .ref h0_now, .ref h0_read, .ref h0_kept, .ref h0_snaps, .ref h0_aside, .ref h0_name, .ref h0_readName, .ref h0_keptName, .ref h0_isKept, .ref h0_onces, .int h0_snapMany, .int u.1, .int u.2, .int h0_agreed, .int h0_jurors, .int h0_panelled, .ref h0_inSets, .int h0_surely, .int h0_asked, .ref h0_frees, .int h0_struck, .int h0_beating, .ref h0_text, .int h0_texts, .int h0_seed, .ref h0_line, .ref h0_written, .int h0_lineMany, .int h0_hasWritten, .ref h0_node, .int h0_nodes, .int h0_onesMany, .int h0_within, .int h0_top])), (aI ca h0_now 376 F_h0_now)])) 0 0 := by
  refine oM (cc := cX12_areOneRing) (maxL := 3) (ret := (some .boolean)) (by decide) rfl (Nat.le_of_ble_eq_true rfl) [(0, .ref h0), (1, .int a1), (2, .int a2)] rfl ?_
  intro p e s m below meth c A H locs ls hx hb hr hml hts hown hlocks hin hK hP hD hA hS hl
  have hown : s.vm.findClass RX12 = some m.cls := hown
  refine lv_aload_n hx hb dX12_areOneRing_0 rfl (lv_at hl 0 rfl) ?_
  refine lv_iconst (v := 1) hx hb dX12_areOneRing_1 (by decide) ?_
  refine lv_iload_n hx hb dX12_areOneRing_2 rfl (lv_at hl 1 rfl) ?_
  refine lv_ishl hx hb dX12_areOneRing_3 ?_
  refine lv_topi (fun x_22 ex_22 => ?_)
  have h_23 : rg 1 512 x_22 := by rw [ex_22]; exact rg_shl1 i_a1 (by decide) (by decide) (by decide) (by decide)
  refine lv_iconst (v := 1) hx hb dX12_areOneRing_4 (by decide) ?_
  refine lv_iload_n hx hb dX12_areOneRing_5 rfl (lv_at hl 2 rfl) ?_
  refine lv_bipush (v := 10) hx hb dX12_areOneRing_6 (by decide) ?_
  refine lv_irem hx hb dX12_areOneRing_8 (by decide) ?_
  refine lv_topi (fun x_24 ex_24 => ?_)
  have h_25 : rg 0 9 x_24 := by rw [ex_24]; exact rg_rem i_a2 (⟨by decide, by decide⟩ : rg 10 10 (10 : Int32)) (by decide) (by decide) (by decide) (by decide)
  refine lv_ishl hx hb dX12_areOneRing_9 ?_
  refine lv_topi (fun x_26 ex_26 => ?_)
  have h_27 : rg 1 512 x_26 := by rw [ex_26]; exact rg_shl1 h_25 (by decide) (by decide) (by decide) (by decide)
  refine lv_ior hx hb dX12_areOneRing_10 ?_
  refine lv_topi (fun x_28 ex_28 => ?_)
  have h_29 : rg 0 1023 x_28 := by rw [ex_28]; exact rg_or 10 h_23 h_27 (by decide) (by decide) (by decide) (by decide) (by decide) (by decide) (by decide)
  refine lv_iload_n hx hb dX12_areOneRing_11 rfl (lv_at hl 2 rfl) ?_
  refine lv_bipush (v := 10) hx hb dX12_areOneRing_12 (by decide) ?_
  refine lv_idiv hx hb dX12_areOneRing_14 (by decide) ?_
  refine lv_topi (fun x_30 ex_30 => ?_)
  have h_31 : rg 0 3 x_30 := by rw [ex_30]; exact rg_div (k := 10) i_a2 (by decide) (by decide) (by decide) (by decide) (by decide)
  refine oC_i (Wc := [(h0, .inr (11, [.int h0_thrown, .ref h0_tape, .int h0_taped, .int h0_size, .int h0_limit, .int h0_to, .int h0_from, .int h0_kind, .int h0_number, .int h0_sign, .int h0_fault, .int h0_place, .long h0_word, .int h0_told, .ref h0_now, .ref h0_read, .ref h0_kept, .ref h0_snaps, .ref h0_aside, .ref h0_name, .ref h0_readName, .ref h0_keptName, .ref h0_isKept, .ref h0_onces, .int h0_snapMany, .int h0_lowest, .int h0_highest, .int h0_agreed, .int h0_jurors, .int h0_panelled, .ref h0_inSets, .int h0_surely, .int h0_asked, .ref h0_frees, .int h0_struck, .int h0_beating, .ref h0_text, .int h0_texts, .int h0_seed, .ref h0_line, .ref h0_written, .int h0_lineMany, .int h0_hasWritten, .ref h0_node, .int h0_nodes, .int h0_onesMany, .int h0_within, .int h0_top])), (aI ca h0_now 376 F_h0_now)]) (Wr := []) (va_runV (As := [.int x_28, .int x_30]) (rest := []) ⟨hx, hb, hml, hown, hts⟩ (s_X12_isOneRing_ l D ca H.size h0 x_28 x_30 h0_thrown h0_tape h0_taped h0_size h0_limit h0_to h0_from h0_kind h0_number h0_sign h0_fault h0_place h0_word h0_told h0_now h0_read h0_kept h0_snaps h0_aside h0_name h0_readName h0_keptName h0_isKept h0_onces h0_snapMany h0_lowest h0_highest h0_agreed h0_jurors h0_panelled h0_inSets h0_surely h0_asked h0_frees h0_struck h0_beating h0_text h0_texts h0_seed h0_line h0_written h0_lineMany h0_hasWritten h0_node h0_nodes h0_onesMany h0_within h0_top F_h0_now h_31 i_h0_taped i_h0_size i_h0_to i_h0_snapMany i_h0_texts i_h0_lineMany i_h0_hasWritten s_h0_now_0 s_h0_now_1 s_h0_now_2 s_h0_now_3 s_h0_now_4 s_h0_now_5) (cwV 2 hts gX12_areOneRing_X12_isOneRing_ rfl rfl rfl (by decide +kernel) ⟨Nat.le_of_ble_eq_true rfl, Nat.le_of_ble_eq_true rfl⟩) (oPV (C := RX12) hK hP hD [0, 1] rfl (by decide) 0 rfl (ci := 11) rfl rfl) rfl rfl hl.1 rfl (lv_room (Nat.le_of_ble_eq_true rfl)) dX12_areOneRing_15 ⟨Nat.le_of_ble_eq_true rfl, Nat.le_of_ble_eq_true rfl⟩) hP hD hS hA [0, 1] [] rfl rfl (by decide) (by decide) (fun r_32 u H locs w_33 hP hD hS => ?_)
  obtain ⟨u_34, u_35⟩ := u
  have hP : va_P D vwCl [(h0, .inr (11, [.int h0_thrown, .ref h0_tape, .int h0_taped, .int h0_size, .int h0_limit, .int h0_to, .int h0_from, .int h0_kind, .int h0_number, .int h0_sign, .int h0_fault, .int h0_place, .long h0_word, .int h0_told, .ref h0_now, .ref h0_read, .ref h0_kept, .ref h0_snaps, .ref h0_aside, .ref h0_name, .ref h0_readName, .ref h0_keptName, .ref h0_isKept, .ref h0_onces, .int h0_snapMany, .int u_34, .int u_35, .int h0_agreed, .int h0_jurors, .int h0_panelled, .ref h0_inSets, .int h0_surely, .int h0_asked, .ref h0_frees, .int h0_struck, .int h0_beating, .ref h0_text, .int h0_texts, .int h0_seed, .ref h0_line, .ref h0_written, .int h0_lineMany, .int h0_hasWritten, .ref h0_node, .int h0_nodes, .int h0_onesMany, .int h0_within, .int h0_top])), (aI ca h0_now 376 F_h0_now)] H := hP
  have hD : va_D A [(h0, .inr (11, [.int h0_thrown, .ref h0_tape, .int h0_taped, .int h0_size, .int h0_limit, .int h0_to, .int h0_from, .int h0_kind, .int h0_number, .int h0_sign, .int h0_fault, .int h0_place, .long h0_word, .int h0_told, .ref h0_now, .ref h0_read, .ref h0_kept, .ref h0_snaps, .ref h0_aside, .ref h0_name, .ref h0_readName, .ref h0_keptName, .ref h0_isKept, .ref h0_onces, .int h0_snapMany, .int u_34, .int u_35, .int h0_agreed, .int h0_jurors, .int h0_panelled, .ref h0_inSets, .int h0_surely, .int h0_asked, .ref h0_frees, .int h0_struck, .int h0_beating, .ref h0_text, .int h0_texts, .int h0_seed, .ref h0_line, .ref h0_written, .int h0_lineMany, .int h0_hasWritten, .ref h0_node, .int h0_nodes, .int h0_onesMany, .int h0_within, .int h0_top])), (aI ca h0_now 376 F_h0_now)] := hD
  try dsimp only at w_33
  rcases w_33 with ⟨h_36, h_37, h_38⟩ | ⟨h_39, h_40, h_41, h_42⟩
  · skip
    subst h_36
    exact oE_i hx hb hr (by decide) hlocks hP hD hS (u_34, u_35) [0, 1] rfl (by decide) (Or.inl ⟨rfl, h_37, h_38⟩) (Nat.le_of_ble_eq_true rfl) (Nat.le_of_ble_eq_true rfl) dX12_areOneRing_18
  · skip
    subst h_39
    exact oE_i hx hb hr (by decide) hlocks hP hD hS (u_34, u_35) [0, 1] rfl (by decide) (Or.inr (⟨rfl, h_40, h_41, h_42⟩)) (Nat.le_of_ble_eq_true rfl) (Nat.le_of_ble_eq_true rfl) dX12_areOneRing_18
theorem dX12_holds_0 : decode cX12_holds 0 = .ok (.sipush 136, 3) := by decide +kernel
theorem dX12_holds_3 : decode cX12_holds 3 = .ok (.iconst 4, 1) := by decide +kernel
theorem dX12_holds_4 : decode cX12_holds 4 = .ok (.iload_n 1, 1) := by decide +kernel
theorem dX12_holds_5 : decode cX12_holds 5 = .ok (.imul, 1) := by decide +kernel
theorem dX12_holds_6 : decode cX12_holds 6 = .ok (.iadd, 1) := by decide +kernel
theorem dX12_holds_7 : decode cX12_holds 7 = .ok (.istore_n 3, 1) := by decide +kernel
theorem dX12_holds_8 : decode cX12_holds 8 = .ok (.aload_n 0, 1) := by decide +kernel
theorem dX12_holds_9 : decode cX12_holds 9 = .ok (.getfield 98, 3) := by decide +kernel
theorem dX12_holds_12 : decode cX12_holds 12 = .ok (.iload_n 3, 1) := by decide +kernel
theorem dX12_holds_13 : decode cX12_holds 13 = .ok (.iconst 1, 1) := by decide +kernel
theorem dX12_holds_14 : decode cX12_holds 14 = .ok (.iadd, 1) := by decide +kernel
theorem dX12_holds_15 : decode cX12_holds 15 = .ok (.iaload, 1) := by decide +kernel
theorem dX12_image_0 : decode cX12_image 0 = .ok (.aload_n 0, 1) := by decide +kernel
theorem dX12_image_1 : decode cX12_image 1 = .ok (.iconst 0, 1) := by decide +kernel
theorem dX12_image_2 : decode cX12_image 2 = .ok (.putfield 1, 3) := by decide +kernel
theorem dX12_image_5 : decode cX12_image 5 = .ok (.iload_n 1, 1) := by decide +kernel
theorem dX12_image_6 : decode cX12_image 6 = .ok (.iconst 0, 1) := by decide +kernel
theorem dX12_image_7 : decode cX12_image 7 = .ok (.iconst 1, 1) := by decide +kernel
theorem dX12_image_8 : decode cX12_image 8 = .ok (.invokestatic 75, 3) := by decide +kernel
theorem dX12_image_11 : decode cX12_image 11 = .ok (.ifCond .ne 5, 3) := by decide +kernel
theorem dX12_image_14 : decode cX12_image 14 = .ok (.iconst 0, 1) := by decide +kernel
theorem dX12_image_15 : decode cX12_image 15 = .ok (.ireturn, 1) := by decide +kernel
theorem dX12_image_16 : decode cX12_image 16 = .ok (.iconst 0, 1) := by decide +kernel
theorem dX12_image_17 : decode cX12_image 17 = .ok (.istore_n 2, 1) := by decide +kernel
theorem dX12_image_18 : decode cX12_image 18 = .ok (.iload_n 2, 1) := by decide +kernel
theorem dX12_image_19 : decode cX12_image 19 = .ok (.sipush 376, 3) := by decide +kernel
theorem dX12_image_22 : decode cX12_image 22 = .ok (.if_icmp .ge 27, 3) := by decide +kernel
theorem dX12_image_25 : decode cX12_image 25 = .ok (.aload_n 0, 1) := by decide +kernel
theorem dX12_image_26 : decode cX12_image 26 = .ok (.getfield 104, 3) := by decide +kernel
theorem dX12_image_29 : decode cX12_image 29 = .ok (.sipush 376, 3) := by decide +kernel
theorem dX12_image_32 : decode cX12_image 32 = .ok (.iload_n 1, 1) := by decide +kernel
theorem dX12_image_33 : decode cX12_image 33 = .ok (.imul, 1) := by decide +kernel
theorem dX12_image_34 : decode cX12_image 34 = .ok (.iload_n 2, 1) := by decide +kernel
theorem dX12_image_35 : decode cX12_image 35 = .ok (.iadd, 1) := by decide +kernel
theorem dX12_image_36 : decode cX12_image 36 = .ok (.aload_n 0, 1) := by decide +kernel
theorem dX12_image_37 : decode cX12_image 37 = .ok (.getfield 98, 3) := by decide +kernel
theorem dX12_image_40 : decode cX12_image 40 = .ok (.iload_n 2, 1) := by decide +kernel
theorem dX12_image_41 : decode cX12_image 41 = .ok (.iaload, 1) := by decide +kernel
theorem dX12_image_42 : decode cX12_image 42 = .ok (.iastore, 1) := by decide +kernel
theorem dX12_image_43 : decode cX12_image 43 = .ok (.iinc 2 1, 3) := by decide +kernel
theorem dX12_image_46 : decode cX12_image 46 = .ok (.goto (-28), 3) := by decide +kernel
theorem dX12_image_49 : decode cX12_image 49 = .ok (.iconst 0, 1) := by decide +kernel
theorem dX12_image_50 : decode cX12_image 50 = .ok (.istore_n 2, 1) := by decide +kernel
theorem dX12_image_51 : decode cX12_image 51 = .ok (.iload_n 2, 1) := by decide +kernel
theorem dX12_image_52 : decode cX12_image 52 = .ok (.bipush 19, 2) := by decide +kernel
theorem dX12_image_54 : decode cX12_image 54 = .ok (.if_icmp .ge 26, 3) := by decide +kernel
theorem dX12_image_57 : decode cX12_image 57 = .ok (.aload_n 0, 1) := by decide +kernel
theorem dX12_image_58 : decode cX12_image 58 = .ok (.getfield 120, 3) := by decide +kernel
theorem dX12_image_61 : decode cX12_image 61 = .ok (.bipush 19, 2) := by decide +kernel
theorem dX12_image_63 : decode cX12_image 63 = .ok (.iload_n 1, 1) := by decide +kernel
theorem dX12_image_64 : decode cX12_image 64 = .ok (.imul, 1) := by decide +kernel
theorem dX12_image_65 : decode cX12_image 65 = .ok (.iload_n 2, 1) := by decide +kernel
theorem dX12_image_66 : decode cX12_image 66 = .ok (.iadd, 1) := by decide +kernel
theorem dX12_image_67 : decode cX12_image 67 = .ok (.aload_n 0, 1) := by decide +kernel
theorem dX12_image_68 : decode cX12_image 68 = .ok (.getfield 113, 3) := by decide +kernel
theorem dX12_image_71 : decode cX12_image 71 = .ok (.iload_n 2, 1) := by decide +kernel
theorem dX12_image_72 : decode cX12_image 72 = .ok (.laload, 1) := by decide +kernel
theorem dX12_image_73 : decode cX12_image 73 = .ok (.lastore, 1) := by decide +kernel
theorem dX12_image_74 : decode cX12_image 74 = .ok (.iinc 2 1, 3) := by decide +kernel
theorem dX12_image_77 : decode cX12_image 77 = .ok (.goto (-26), 3) := by decide +kernel
theorem dX12_image_80 : decode cX12_image 80 = .ok (.aload_n 0, 1) := by decide +kernel
theorem dX12_image_81 : decode cX12_image 81 = .ok (.getfield 123, 3) := by decide +kernel
theorem dX12_image_84 : decode cX12_image 84 = .ok (.iload_n 1, 1) := by decide +kernel
theorem dX12_image_85 : decode cX12_image 85 = .ok (.iconst 1, 1) := by decide +kernel
theorem dX12_image_86 : decode cX12_image 86 = .ok (.bastore, 1) := by decide +kernel
theorem dX12_image_87 : decode cX12_image 87 = .ok (.iconst 1, 1) := by decide +kernel
theorem dX12_image_88 : decode cX12_image 88 = .ok (.ireturn, 1) := by decide +kernel
theorem dX12_said_0 : decode cX12_said 0 = .ok (.aload_n 0, 1) := by decide +kernel
theorem dX12_said_1 : decode cX12_said 1 = .ok (.iconst 0, 1) := by decide +kernel
theorem dX12_said_2 : decode cX12_said 2 = .ok (.putfield 1, 3) := by decide +kernel
theorem dX12_said_5 : decode cX12_said 5 = .ok (.aload_n 0, 1) := by decide +kernel
theorem dX12_said_6 : decode cX12_said 6 = .ok (.getfield 98, 3) := by decide +kernel
theorem dX12_said_9 : decode cX12_said 9 = .ok (.sipush 134, 3) := by decide +kernel
theorem dX12_said_12 : decode cX12_said 12 = .ok (.iaload, 1) := by decide +kernel
theorem dX12_said_13 : decode cX12_said 13 = .ok (.ifCond .ne 5, 3) := by decide +kernel
theorem dX12_said_16 : decode cX12_said 16 = .ok (.iconst (-1), 1) := by decide +kernel
theorem dX12_said_17 : decode cX12_said 17 = .ok (.ireturn, 1) := by decide +kernel
theorem dX12_said_18 : decode cX12_said 18 = .ok (.iconst 0, 1) := by decide +kernel
theorem dX12_said_19 : decode cX12_said 19 = .ok (.istore_n 2, 1) := by decide +kernel
theorem dX12_said_20 : decode cX12_said 20 = .ok (.iconst 0, 1) := by decide +kernel
theorem dX12_said_21 : decode cX12_said 21 = .ok (.istore_n 3, 1) := by decide +kernel
theorem dX12_said_22 : decode cX12_said 22 = .ok (.iload_n 3, 1) := by decide +kernel
theorem dX12_said_23 : decode cX12_said 23 = .ok (.aload_n 0, 1) := by decide +kernel
theorem dX12_said_24 : decode cX12_said 24 = .ok (.getfield 98, 3) := by decide +kernel
theorem dX12_said_27 : decode cX12_said 27 = .ok (.iconst 0, 1) := by decide +kernel
theorem dX12_said_28 : decode cX12_said 28 = .ok (.iaload, 1) := by decide +kernel
theorem dX12_said_29 : decode cX12_said 29 = .ok (.if_icmp .ge 38, 3) := by decide +kernel
theorem dX12_said_32 : decode cX12_said 32 = .ok (.aload_n 0, 1) := by decide +kernel
theorem dX12_said_33 : decode cX12_said 33 = .ok (.aload_n 0, 1) := by decide +kernel
theorem dX12_said_34 : decode cX12_said 34 = .ok (.getfield 98, 3) := by decide +kernel
theorem dX12_said_37 : decode cX12_said 37 = .ok (.sipush 135, 3) := by decide +kernel
theorem dX12_said_40 : decode cX12_said 40 = .ok (.iaload, 1) := by decide +kernel
theorem dX12_said_41 : decode cX12_said 41 = .ok (.iload_n 3, 1) := by decide +kernel
theorem dX12_said_42 : decode cX12_said 42 = .ok (.invokevirtual 421, 3) := by decide +kernel
theorem dX12_said_67 : decode cX12_said 67 = .ok (.iload_n 1, 1) := by decide +kernel
theorem dX12_said_68 : decode cX12_said 68 = .ok (.iconst (-1), 1) := by decide +kernel
theorem dX12_said_69 : decode cX12_said 69 = .ok (.if_icmp .ne 7, 3) := by decide +kernel
theorem dX12_said_72 : decode cX12_said 72 = .ok (.iload_n 2, 1) := by decide +kernel
theorem dX12_said_73 : decode cX12_said 73 = .ok (.goto 4, 3) := by decide +kernel
theorem dX12_said_76 : decode cX12_said 76 = .ok (.iconst (-1), 1) := by decide +kernel
theorem dX12_said_77 : decode cX12_said 77 = .ok (.ireturn, 1) := by decide +kernel
set_option maxRecDepth 20000 in
theorem ggX12_image_X12_isIn : GoodIn wsX12_image wsX12_isIn := goodIn_r _ [10] rfl (by decide +kernel)
set_option maxRecDepth 20000 in
theorem gX12_image_X12_isIn : GoodIn wsX12_image (va_wsS RX12 75 yX12_isIn wsX12_isIn) := goodIn_app (goodIn_of _ (by decide +kernel)) ggX12_image_X12_isIn
set_option maxHeartbeats 4000000 in
set_option maxRecDepth 100000 in
theorem s_X12_image (l : Launch) (D : va_G) (ca : Nat → ClassId) (sz : Nat) (h0 : Nat) (a1 : Int32) (h0_thrown : Int32) (h0_tape : Nat) (h0_taped : Int32) (h0_size : Int32) (h0_limit : Int32) (h0_to : Int32) (h0_from : Int32) (h0_kind : Int32) (h0_number : Int32) (h0_sign : Int32) (h0_fault : Int32) (h0_place : Int32) (h0_word : Int64) (h0_told : Int32) (h0_now : Nat) (h0_read : Nat) (h0_kept : Nat) (h0_snaps : Nat) (h0_aside : Nat) (h0_name : Nat) (h0_readName : Nat) (h0_keptName : Nat) (h0_isKept : Nat) (h0_onces : Nat) (h0_snapMany : Int32) (h0_lowest : Int32) (h0_highest : Int32) (h0_agreed : Int32) (h0_jurors : Int32) (h0_panelled : Int32) (h0_inSets : Nat) (h0_surely : Int32) (h0_asked : Int32) (h0_frees : Nat) (h0_struck : Int32) (h0_beating : Int32) (h0_text : Nat) (h0_texts : Int32) (h0_seed : Int32) (h0_line : Nat) (h0_written : Nat) (h0_lineMany : Int32) (h0_hasWritten : Int32) (h0_node : Nat) (h0_nodes : Int32) (h0_onesMany : Int32) (h0_within : Int32) (h0_top : Int32) (F_h0_now : Nat → Int32) (F_h0_kept : Nat → Int32) (F_h0_name : Nat → Int64) (F_h0_keptName : Nat → Int64) (F_h0_isKept : Nat → Int32) (i_h0_taped : rg 0 940 h0_taped) (i_h0_size : rg 0 940 h0_size) (i_h0_to : rg 0 940 h0_to) (i_h0_snapMany : rg 0 8 h0_snapMany) (i_h0_texts : rg 0 64 h0_texts) (i_h0_lineMany : rg 0 40 h0_lineMany) (i_h0_hasWritten : rg 0 1 h0_hasWritten) (s_h0_now_0 : sg 0 1 0 10 F_h0_now) (s_h0_now_1 : sg 1 2 0 4 F_h0_now) (s_h0_now_2 : sg 2 3 0 5 F_h0_now) (s_h0_now_3 : sg 35 36 0 1023 F_h0_now) (s_h0_now_4 : sg 44 49 0 3 F_h0_now) (s_h0_now_5 : sg 90 91 0 1023 F_h0_now) (s_h0_kept_0 : sg 0 1 0 10 F_h0_kept) (s_h0_kept_1 : sg 1 2 0 4 F_h0_kept) (s_h0_kept_2 : sg 2 3 0 5 F_h0_kept) (s_h0_kept_3 : sg 35 36 0 1023 F_h0_kept) (s_h0_kept_4 : sg 44 49 0 3 F_h0_kept) (s_h0_kept_5 : sg 90 91 0 1023 F_h0_kept) (s_h0_kept_6 : sg 376 377 0 10 F_h0_kept) (s_h0_kept_7 : sg 377 378 0 4 F_h0_kept) (s_h0_kept_8 : sg 378 379 0 5 F_h0_kept) (s_h0_kept_9 : sg 411 412 0 1023 F_h0_kept) (s_h0_kept_10 : sg 420 425 0 3 F_h0_kept) (s_h0_kept_11 : sg 466 467 0 1023 F_h0_kept) : oMet l yX12_image wsX12_image ({ frames := 1, cells := 0, slots := 0, locals := 22 } : Room) [.ref h0, .int a1] D ca sz [(h0, .inr (11, [.int h0_thrown, .ref h0_tape, .int h0_taped, .int h0_size, .int h0_limit, .int h0_to, .int h0_from, .int h0_kind, .int h0_number, .int h0_sign, .int h0_fault, .int h0_place, .long h0_word, .int h0_told, .ref h0_now, .ref h0_read, .ref h0_kept, .ref h0_snaps, .ref h0_aside, .ref h0_name, .ref h0_readName, .ref h0_keptName, .ref h0_isKept, .ref h0_onces, .int h0_snapMany, .int h0_lowest, .int h0_highest, .int h0_agreed, .int h0_jurors, .int h0_panelled, .ref h0_inSets, .int h0_surely, .int h0_asked, .ref h0_frees, .int h0_struck, .int h0_beating, .ref h0_text, .int h0_texts, .int h0_seed, .ref h0_line, .ref h0_written, .int h0_lineMany, .int h0_hasWritten, .ref h0_node, .int h0_nodes, .int h0_onesMany, .int h0_within, .int h0_top])), (aI ca h0_now 376 F_h0_now), (aI ca h0_kept 752 F_h0_kept), (aJ ca h0_name 19 F_h0_name), (aJ ca h0_keptName 38 F_h0_keptName), (aZ ca h0_isKept 2 F_h0_isKept)] (oQi D (fun (r : Int32) (u : (Nat → Int32) × (Nat → Int64) × (Nat → Int32)) => ((r = 0) ∧ (sg 0 1 0 10 u.1) ∧ (sg 1 2 0 4 u.1) ∧ (sg 2 3 0 5 u.1) ∧ (sg 35 36 0 1023 u.1) ∧ (sg 44 49 0 3 u.1) ∧ (sg 90 91 0 1023 u.1) ∧ (sg 376 377 0 10 u.1) ∧ (sg 377 378 0 4 u.1) ∧ (sg 378 379 0 5 u.1) ∧ (sg 411 412 0 1023 u.1) ∧ (sg 420 425 0 3 u.1) ∧ (sg 466 467 0 1023 u.1) ∧ (eqs 0 752 u.1 F_h0_kept)) ∨ ((r = 1) ∧ (rg 0 1 a1) ∧ (sg 0 1 0 10 u.1) ∧ (sg 376 377 0 10 u.1) ∧ (sg 377 378 0 4 u.1) ∧ (sg 378 379 0 5 u.1) ∧ (sg 411 412 0 1023 u.1) ∧ (sg 420 425 0 3 u.1) ∧ (sg 466 467 0 1023 u.1))) (fun (u : (Nat → Int32) × (Nat → Int64) × (Nat → Int32)) => [(h0, .inr (11, [.int 0, .ref h0_tape, .int h0_taped, .int h0_size, .int h0_limit, .int h0_to, .int h0_from, .int h0_kind, .int h0_number, .int h0_sign, .int h0_fault, .int h0_place, .long h0_word, .int h0_told, .ref h0_now, .ref h0_read, .ref h0_kept, .ref h0_snaps, .ref h0_aside, .ref h0_name, .ref h0_readName, .ref h0_keptName, .ref h0_isKept, .ref h0_onces, .int h0_snapMany, .int h0_lowest, .int h0_highest, .int h0_agreed, .int h0_jurors, .int h0_panelled, .ref h0_inSets, .int h0_surely, .int h0_asked, .ref h0_frees, .int h0_struck, .int h0_beating, .ref h0_text, .int h0_texts, .int h0_seed, .ref h0_line, .ref h0_written, .int h0_lineMany, .int h0_hasWritten, .ref h0_node, .int h0_nodes, .int h0_onesMany, .int h0_within, .int h0_top])), (aI ca h0_now 376 F_h0_now), (aI ca h0_kept 752 u.1), (aJ ca h0_name 19 F_h0_name), (aJ ca h0_keptName 38 u.2.1), (aZ ca h0_isKept 2 u.2.2)])) 0 0 := by
  refine oM (cc := cX12_image) (maxL := 3) (ret := (some .boolean)) (by decide) rfl (Nat.le_of_ble_eq_true rfl) [(0, .ref h0), (1, .int a1)] rfl ?_
  intro p e s m below meth c A H locs ls hx hb hr hml hts hown hlocks hin hK hP hD hA hS hl
  have hown : s.vm.findClass RX12 = some m.cls := hown
  have k1 := hts (.fieldLink RX12 123 "LidCourtModel" "isKept" "[Z") (by decide +kernel)
  have k2 : ∀ w ∈ wsX120, w ∈ wsX12_image := fun _ h => List.mem_cons_of_mem _ (List.mem_append_right _ h)
  have k3 := hts (.fieldLink RX12 120 "LidCourtModel" "keptName" "[J") (by decide +kernel)
  have k4 := hts (.fieldLink RX12 113 "LidCourtModel" "name" "[J") (by decide +kernel)
  have k5 := hts (.fieldLink RX12 104 "LidCourtModel" "kept" "[I") (by decide +kernel)
  have k6 := hts (.fieldLink RX12 98 "LidCourtModel" "now" "[I") (by decide +kernel)
  have k7 := hts (.fieldLink RX12 1 "LidCourtModel" "thrown" "I") (by decide +kernel)
  have J51_401 : ∀ (n : Nat) (y51_0 : Int32) (f51_1 : Nat → Int32) (f51_9 : Nat → Int64), True → rg 0 19 y51_0 → sg 0 1 0 10 f51_1 → sg 376 377 0 10 f51_1 → sg 377 378 0 4 f51_1 → sg 378 379 0 5 f51_1 → sg 411 412 0 1023 f51_1 → sg 420 425 0 3 f51_1 → sg 466 467 0 1023 f51_1 → rg 0 1 a1 → 19 < y51_0.toInt + (n : Int) → ∀ (H : Heap) (locs : List Loc) (ls : Array Slot), va_P D vwCl [(h0, .inr (11, [.int 0, .ref h0_tape, .int h0_taped, .int h0_size, .int h0_limit, .int h0_to, .int h0_from, .int h0_kind, .int h0_number, .int h0_sign, .int h0_fault, .int h0_place, .long h0_word, .int h0_told, .ref h0_now, .ref h0_read, .ref h0_kept, .ref h0_snaps, .ref h0_aside, .ref h0_name, .ref h0_readName, .ref h0_keptName, .ref h0_isKept, .ref h0_onces, .int h0_snapMany, .int h0_lowest, .int h0_highest, .int h0_agreed, .int h0_jurors, .int h0_panelled, .ref h0_inSets, .int h0_surely, .int h0_asked, .ref h0_frees, .int h0_struck, .int h0_beating, .ref h0_text, .int h0_texts, .int h0_seed, .ref h0_line, .ref h0_written, .int h0_lineMany, .int h0_hasWritten, .ref h0_node, .int h0_nodes, .int h0_onesMany, .int h0_within, .int h0_top])), (aI ca h0_now 376 F_h0_now), (aI ca h0_kept 752 f51_1), (aJ ca h0_name 19 F_h0_name), (aJ ca h0_keptName 38 f51_9), (aZ ca h0_isKept 2 F_h0_isKept)] H → va_D A [(h0, .inr (11, [.int 0, .ref h0_tape, .int h0_taped, .int h0_size, .int h0_limit, .int h0_to, .int h0_from, .int h0_kind, .int h0_number, .int h0_sign, .int h0_fault, .int h0_place, .long h0_word, .int h0_told, .ref h0_now, .ref h0_read, .ref h0_kept, .ref h0_snaps, .ref h0_aside, .ref h0_name, .ref h0_readName, .ref h0_keptName, .ref h0_isKept, .ref h0_onces, .int h0_snapMany, .int h0_lowest, .int h0_highest, .int h0_agreed, .int h0_jurors, .int h0_panelled, .ref h0_inSets, .int h0_surely, .int h0_asked, .ref h0_frees, .int h0_struck, .int h0_beating, .ref h0_text, .int h0_texts, .int h0_seed, .ref h0_line, .ref h0_written, .int h0_lineMany, .int h0_hasWritten, .ref h0_node, .int h0_nodes, .int h0_onesMany, .int h0_within, .int h0_top])), (aI ca h0_now 376 F_h0_now), (aI ca h0_kept 752 f51_1), (aJ ca h0_name 19 F_h0_name), (aJ ca h0_keptName 38 f51_9), (aZ ca h0_isKept 2 F_h0_isKept)] → va_S A s.heap H locs → lv_has ls 3 [(0, .ref h0), (1, .int a1), (2, .int y51_0)] → W p l e ({ frames := 1, cells := 0, slots := 0, locals := 22 } : Room) s m ([.ref h0, .int a1] : List Value).toArray below meth c H locs 0 0 (MQ below ((oQi D (fun (r : Int32) (u : (Nat → Int32) × (Nat → Int64) × (Nat → Int32)) => ((r = 0) ∧ (sg 0 1 0 10 u.1) ∧ (sg 1 2 0 4 u.1) ∧ (sg 2 3 0 5 u.1) ∧ (sg 35 36 0 1023 u.1) ∧ (sg 44 49 0 3 u.1) ∧ (sg 90 91 0 1023 u.1) ∧ (sg 376 377 0 10 u.1) ∧ (sg 377 378 0 4 u.1) ∧ (sg 378 379 0 5 u.1) ∧ (sg 411 412 0 1023 u.1) ∧ (sg 420 425 0 3 u.1) ∧ (sg 466 467 0 1023 u.1) ∧ (eqs 0 752 u.1 F_h0_kept)) ∨ ((r = 1) ∧ (rg 0 1 a1) ∧ (sg 0 1 0 10 u.1) ∧ (sg 376 377 0 10 u.1) ∧ (sg 377 378 0 4 u.1) ∧ (sg 378 379 0 5 u.1) ∧ (sg 411 412 0 1023 u.1) ∧ (sg 420 425 0 3 u.1) ∧ (sg 466 467 0 1023 u.1))) (fun (u : (Nat → Int32) × (Nat → Int64) × (Nat → Int32)) => [(h0, .inr (11, [.int 0, .ref h0_tape, .int h0_taped, .int h0_size, .int h0_limit, .int h0_to, .int h0_from, .int h0_kind, .int h0_number, .int h0_sign, .int h0_fault, .int h0_place, .long h0_word, .int h0_told, .ref h0_now, .ref h0_read, .ref h0_kept, .ref h0_snaps, .ref h0_aside, .ref h0_name, .ref h0_readName, .ref h0_keptName, .ref h0_isKept, .ref h0_onces, .int h0_snapMany, .int h0_lowest, .int h0_highest, .int h0_agreed, .int h0_jurors, .int h0_panelled, .ref h0_inSets, .int h0_surely, .int h0_asked, .ref h0_frees, .int h0_struck, .int h0_beating, .ref h0_text, .int h0_texts, .int h0_seed, .ref h0_line, .ref h0_written, .int h0_lineMany, .int h0_hasWritten, .ref h0_node, .int h0_nodes, .int h0_onesMany, .int h0_within, .int h0_top])), (aI ca h0_now 376 F_h0_now), (aI ca h0_kept 752 u.1), (aJ ca h0_name 19 F_h0_name), (aJ ca h0_keptName 38 u.2.1), (aZ ca h0_isKept 2 u.2.2)])) A) ([.ref h0, .int a1] : List Value).toArray s 0 0 A) (F0 m 51 ls []) := by
    intro n
    induction n with
    | zero => intro y51_0 f51_1 f51_9 _ hy51_0 s51_2 s51_3 s51_4 s51_5 s51_6 s51_7 s51_8 t51_a1 hn; exact absurd hn (by have q9 := hy51_0.2; omega)
    | succ n ih =>
      intro y51_0 f51_1 f51_9 _ hy51_0 s51_2 s51_3 s51_4 s51_5 s51_6 s51_7 s51_8 t51_a1 hn H locs ls hP hD hS hl
      refine lv_iload_n hx hb dX12_image_51 rfl (lv_at hl 2 rfl) ?_
      refine lv_bipush (v := 19) hx hb dX12_image_52 (by decide) ?_
      refine lv_icmp_ge (tgt := 80) hx hb dX12_image_54 (by decide) (fun c_419 => ?_) (fun c_419 => ?_)
      · skip
        have o_420 : rl 0 19 y51_0 := rl_le c_419
        have h_421 : rg 19 19 y51_0 := rl_y o_420 (⟨by decide, by decide⟩ : rg 19 19 (19 : Int32)) hy51_0 (by decide) (by decide)
        refine lv_aload_n hx hb dX12_image_80 rfl (lv_at hl 0 rfl) ?_
        refine va_get (D := D) (ci := 11) (v := .ref h0_isKept) (C := RX12) (T := TX12) (N := 48) hx hb hts k2 hown hK.1 hP 0 rfl rfl 22 (by decide) k1 (fun _ h9 => h9) rfl dX12_image_81 ?_
        refine lv_iload_n hx hb dX12_image_84 rfl (lv_at hl 1 rfl) ?_
        refine lv_iconst (v := 1) hx hb dX12_image_85 (by decide) ?_
        refine va_zast hx hb hK.1 hP hD hS 5 2 rfl rfl (rg_in t51_a1 (by decide) (by decide)) dX12_image_86 (fun H locs hP hD hS => ?_)
        obtain ⟨g_422, eg_422⟩ : ∃ y : Nat → Int32, y = upd F_h0_isKept (a1 : Int32).toNatClampNeg (vp_nar .boolean 1) := ⟨_, rfl⟩
        rw [← eg_422] at hP hD
        have hP : va_P D vwCl [(h0, .inr (11, [.int 0, .ref h0_tape, .int h0_taped, .int h0_size, .int h0_limit, .int h0_to, .int h0_from, .int h0_kind, .int h0_number, .int h0_sign, .int h0_fault, .int h0_place, .long h0_word, .int h0_told, .ref h0_now, .ref h0_read, .ref h0_kept, .ref h0_snaps, .ref h0_aside, .ref h0_name, .ref h0_readName, .ref h0_keptName, .ref h0_isKept, .ref h0_onces, .int h0_snapMany, .int h0_lowest, .int h0_highest, .int h0_agreed, .int h0_jurors, .int h0_panelled, .ref h0_inSets, .int h0_surely, .int h0_asked, .ref h0_frees, .int h0_struck, .int h0_beating, .ref h0_text, .int h0_texts, .int h0_seed, .ref h0_line, .ref h0_written, .int h0_lineMany, .int h0_hasWritten, .ref h0_node, .int h0_nodes, .int h0_onesMany, .int h0_within, .int h0_top])), (aI ca h0_now 376 F_h0_now), (aI ca h0_kept 752 f51_1), (aJ ca h0_name 19 F_h0_name), (aJ ca h0_keptName 38 f51_9), (aZ ca h0_isKept 2 g_422)] H := hP
        have hD : va_D A [(h0, .inr (11, [.int 0, .ref h0_tape, .int h0_taped, .int h0_size, .int h0_limit, .int h0_to, .int h0_from, .int h0_kind, .int h0_number, .int h0_sign, .int h0_fault, .int h0_place, .long h0_word, .int h0_told, .ref h0_now, .ref h0_read, .ref h0_kept, .ref h0_snaps, .ref h0_aside, .ref h0_name, .ref h0_readName, .ref h0_keptName, .ref h0_isKept, .ref h0_onces, .int h0_snapMany, .int h0_lowest, .int h0_highest, .int h0_agreed, .int h0_jurors, .int h0_panelled, .ref h0_inSets, .int h0_surely, .int h0_asked, .ref h0_frees, .int h0_struck, .int h0_beating, .ref h0_text, .int h0_texts, .int h0_seed, .ref h0_line, .ref h0_written, .int h0_lineMany, .int h0_hasWritten, .ref h0_node, .int h0_nodes, .int h0_onesMany, .int h0_within, .int h0_top])), (aI ca h0_now 376 F_h0_now), (aI ca h0_kept 752 f51_1), (aJ ca h0_name 19 F_h0_name), (aJ ca h0_keptName 38 f51_9), (aZ ca h0_isKept 2 g_422)] := hD
        refine lv_iconst (v := 1) hx hb dX12_image_87 (by decide) ?_
        exact oE_i hx hb hr (by decide) hlocks hP hD hS (f51_1, f51_9, g_422) [0, 1, 2, 3, 4, 5] rfl (by decide) (Or.inr (⟨rfl, t51_a1, s51_2, s51_3, s51_4, s51_5, s51_6, s51_7, s51_8⟩)) (Nat.le_of_ble_eq_true rfl) (Nat.le_of_ble_eq_true rfl) dX12_image_88
      · skip
        have o_423 : rl 1 y51_0 19 := rl_nle c_419
        have h_424 : rg 0 18 y51_0 := rl_x o_423 hy51_0 (⟨by decide, by decide⟩ : rg 19 19 (19 : Int32)) (by decide) (by decide)
        refine lv_aload_n hx hb dX12_image_57 rfl (lv_at hl 0 rfl) ?_
        refine va_get (D := D) (ci := 11) (v := .ref h0_keptName) (C := RX12) (T := TX12) (N := 48) hx hb hts k2 hown hK.1 hP 0 rfl rfl 21 (by decide) k3 (fun _ h9 => h9) rfl dX12_image_58 ?_
        refine lv_bipush (v := 19) hx hb dX12_image_61 (by decide) ?_
        refine lv_iload_n hx hb dX12_image_63 rfl (lv_at hl 1 rfl) ?_
        refine lv_imul hx hb dX12_image_64 ?_
        refine lv_topi (fun x_425 ex_425 => ?_)
        have h_426 : rg 0 19 x_425 := by rw [ex_425]; exact rg_mul' (k := 19) t51_a1 (by decide) (by decide) (by decide) (by decide) (by decide) (by decide)
        have l_427 : lq x_425.toInt (19 * a1.toInt) := lqm (by rw [ex_425]; have q := tmul' (k := 19) (y := 19) t51_a1 (by decide) (by decide) (by decide) (by decide); omega)
        refine lv_iload_n hx hb dX12_image_65 rfl (lv_at hl 2 rfl) ?_
        refine lv_iadd hx hb dX12_image_66 ?_
        refine lv_topi (fun x_428 ex_428 => ?_)
        have h_429 : rg 0 37 x_428 := by rw [ex_428]; exact rg_add h_426 h_424 (by decide) (by decide) (by decide) (by decide)
        have l_430 : lq x_428.toInt (19 * a1.toInt + y51_0.toInt) := lqm (by rw [ex_428]; have q := tadd h_426 h_424 (by decide) (by decide); have r0 := lqe l_427; omega)
        refine lv_aload_n hx hb dX12_image_67 rfl (lv_at hl 0 rfl) ?_
        refine va_get (D := D) (ci := 11) (v := .ref h0_name) (C := RX12) (T := TX12) (N := 48) hx hb hts k2 hown hK.1 hP 0 rfl rfl 19 (by decide) k4 (fun _ h9 => h9) rfl dX12_image_68 ?_
        refine lv_iload_n hx hb dX12_image_71 rfl (lv_at hl 2 rfl) ?_
        refine va_lald hx hb hK.1 hP 3 1 rfl rfl (rg_in h_424 (by decide) (by decide)) dX12_image_72 ?_
        refine lv_topl (fun x_431 ex_431 => ?_)
        refine va_last hx hb hK.1 hP hD hS 4 1 rfl rfl (rg_in h_429 (by decide) (by decide)) dX12_image_73 (fun H locs hP hD hS => ?_)
        obtain ⟨g_432, eg_432⟩ : ∃ y : Nat → Int64, y = vp_updL f51_9 (x_428 : Int32).toNatClampNeg (x_431 : Int64) := ⟨_, rfl⟩
        rw [← eg_432] at hP hD
        have hP : va_P D vwCl [(h0, .inr (11, [.int 0, .ref h0_tape, .int h0_taped, .int h0_size, .int h0_limit, .int h0_to, .int h0_from, .int h0_kind, .int h0_number, .int h0_sign, .int h0_fault, .int h0_place, .long h0_word, .int h0_told, .ref h0_now, .ref h0_read, .ref h0_kept, .ref h0_snaps, .ref h0_aside, .ref h0_name, .ref h0_readName, .ref h0_keptName, .ref h0_isKept, .ref h0_onces, .int h0_snapMany, .int h0_lowest, .int h0_highest, .int h0_agreed, .int h0_jurors, .int h0_panelled, .ref h0_inSets, .int h0_surely, .int h0_asked, .ref h0_frees, .int h0_struck, .int h0_beating, .ref h0_text, .int h0_texts, .int h0_seed, .ref h0_line, .ref h0_written, .int h0_lineMany, .int h0_hasWritten, .ref h0_node, .int h0_nodes, .int h0_onesMany, .int h0_within, .int h0_top])), (aI ca h0_now 376 F_h0_now), (aI ca h0_kept 752 f51_1), (aJ ca h0_name 19 F_h0_name), (aJ ca h0_keptName 38 g_432), (aZ ca h0_isKept 2 F_h0_isKept)] H := hP
        have hD : va_D A [(h0, .inr (11, [.int 0, .ref h0_tape, .int h0_taped, .int h0_size, .int h0_limit, .int h0_to, .int h0_from, .int h0_kind, .int h0_number, .int h0_sign, .int h0_fault, .int h0_place, .long h0_word, .int h0_told, .ref h0_now, .ref h0_read, .ref h0_kept, .ref h0_snaps, .ref h0_aside, .ref h0_name, .ref h0_readName, .ref h0_keptName, .ref h0_isKept, .ref h0_onces, .int h0_snapMany, .int h0_lowest, .int h0_highest, .int h0_agreed, .int h0_jurors, .int h0_panelled, .ref h0_inSets, .int h0_surely, .int h0_asked, .ref h0_frees, .int h0_struck, .int h0_beating, .ref h0_text, .int h0_texts, .int h0_seed, .ref h0_line, .ref h0_written, .int h0_lineMany, .int h0_hasWritten, .ref h0_node, .int h0_nodes, .int h0_onesMany, .int h0_within, .int h0_top])), (aI ca h0_now 376 F_h0_now), (aI ca h0_kept 752 f51_1), (aJ ca h0_name 19 F_h0_name), (aJ ca h0_keptName 38 g_432), (aZ ca h0_isKept 2 F_h0_isKept)] := hD
        obtain ⟨x_433, ex_433⟩ : ∃ y : Int32, y = y51_0 + 1 := ⟨_, rfl⟩
        have h_434 : rg 1 19 x_433 := by rw [ex_433]; exact rg_add h_424 (⟨by decide, by decide⟩ : rg 1 1 (1 : Int32)) (by decide) (by decide) (by decide) (by decide)
        have l_435 : lq x_433.toInt (y51_0.toInt + 1) := lqm (by rw [ex_433]; have q := tadd h_424 (⟨by decide, by decide⟩ : rg 1 1 (1 : Int32)) (by decide) (by decide); have r1 := lqe (lqm (by decide) : lq (1 : Int32).toInt 1); omega)
        refine lv_iinc (v := x_433) (lv' := [(2, .int x_433), (0, .ref h0), (1, .int a1)]) hx hb dX12_image_74 hl (k := 2) rfl (by rw [ex_433]; rfl) (by decide) rfl (fun ls hl => ?_)
        refine lv_goto (tgt := 51) hx hb dX12_image_77 (by decide) ?_
        exact ih x_433 f51_1 g_432 trivial (rgw (lo := 0) (hi := 19) h_434 (by decide) (by decide)) s51_2 s51_3 s51_4 s51_5 s51_6 s51_7 s51_8 t51_a1 (by have q0 := lqe l_435; omega) H locs ls (oPsub hP [0, 1, 2, 3, 4, 5] rfl) (hD.sub [0, 1, 2, 3, 4, 5] (by decide) rfl) hS (lv_sub hl [1, 2, 0] rfl)
  have J18_436 : ∀ (n : Nat) (y18_0 : Int32) (f18_1 : Nat → Int32), True → rg 0 376 y18_0 → sg 0 1 0 10 f18_1 → sg 376 377 0 10 f18_1 → sg 377 378 0 4 f18_1 → sg 378 379 0 5 f18_1 → sg 411 412 0 1023 f18_1 → sg 420 425 0 3 f18_1 → sg 466 467 0 1023 f18_1 → rg 0 1 a1 → 376 < y18_0.toInt + (n : Int) → ∀ (H : Heap) (locs : List Loc) (ls : Array Slot), va_P D vwCl [(h0, .inr (11, [.int 0, .ref h0_tape, .int h0_taped, .int h0_size, .int h0_limit, .int h0_to, .int h0_from, .int h0_kind, .int h0_number, .int h0_sign, .int h0_fault, .int h0_place, .long h0_word, .int h0_told, .ref h0_now, .ref h0_read, .ref h0_kept, .ref h0_snaps, .ref h0_aside, .ref h0_name, .ref h0_readName, .ref h0_keptName, .ref h0_isKept, .ref h0_onces, .int h0_snapMany, .int h0_lowest, .int h0_highest, .int h0_agreed, .int h0_jurors, .int h0_panelled, .ref h0_inSets, .int h0_surely, .int h0_asked, .ref h0_frees, .int h0_struck, .int h0_beating, .ref h0_text, .int h0_texts, .int h0_seed, .ref h0_line, .ref h0_written, .int h0_lineMany, .int h0_hasWritten, .ref h0_node, .int h0_nodes, .int h0_onesMany, .int h0_within, .int h0_top])), (aI ca h0_now 376 F_h0_now), (aI ca h0_kept 752 f18_1), (aJ ca h0_name 19 F_h0_name), (aJ ca h0_keptName 38 F_h0_keptName), (aZ ca h0_isKept 2 F_h0_isKept)] H → va_D A [(h0, .inr (11, [.int 0, .ref h0_tape, .int h0_taped, .int h0_size, .int h0_limit, .int h0_to, .int h0_from, .int h0_kind, .int h0_number, .int h0_sign, .int h0_fault, .int h0_place, .long h0_word, .int h0_told, .ref h0_now, .ref h0_read, .ref h0_kept, .ref h0_snaps, .ref h0_aside, .ref h0_name, .ref h0_readName, .ref h0_keptName, .ref h0_isKept, .ref h0_onces, .int h0_snapMany, .int h0_lowest, .int h0_highest, .int h0_agreed, .int h0_jurors, .int h0_panelled, .ref h0_inSets, .int h0_surely, .int h0_asked, .ref h0_frees, .int h0_struck, .int h0_beating, .ref h0_text, .int h0_texts, .int h0_seed, .ref h0_line, .ref h0_written, .int h0_lineMany, .int h0_hasWritten, .ref h0_node, .int h0_nodes, .int h0_onesMany, .int h0_within, .int h0_top])), (aI ca h0_now 376 F_h0_now), (aI ca h0_kept 752 f18_1), (aJ ca h0_name 19 F_h0_name), (aJ ca h0_keptName 38 F_h0_keptName), (aZ ca h0_isKept 2 F_h0_isKept)] → va_S A s.heap H locs → lv_has ls 3 [(0, .ref h0), (1, .int a1), (2, .int y18_0)] → W p l e ({ frames := 1, cells := 0, slots := 0, locals := 22 } : Room) s m ([.ref h0, .int a1] : List Value).toArray below meth c H locs 0 0 (MQ below ((oQi D (fun (r : Int32) (u : (Nat → Int32) × (Nat → Int64) × (Nat → Int32)) => ((r = 0) ∧ (sg 0 1 0 10 u.1) ∧ (sg 1 2 0 4 u.1) ∧ (sg 2 3 0 5 u.1) ∧ (sg 35 36 0 1023 u.1) ∧ (sg 44 49 0 3 u.1) ∧ (sg 90 91 0 1023 u.1) ∧ (sg 376 377 0 10 u.1) ∧ (sg 377 378 0 4 u.1) ∧ (sg 378 379 0 5 u.1) ∧ (sg 411 412 0 1023 u.1) ∧ (sg 420 425 0 3 u.1) ∧ (sg 466 467 0 1023 u.1) ∧ (eqs 0 752 u.1 F_h0_kept)) ∨ ((r = 1) ∧ (rg 0 1 a1) ∧ (sg 0 1 0 10 u.1) ∧ (sg 376 377 0 10 u.1) ∧ (sg 377 378 0 4 u.1) ∧ (sg 378 379 0 5 u.1) ∧ (sg 411 412 0 1023 u.1) ∧ (sg 420 425 0 3 u.1) ∧ (sg 466 467 0 1023 u.1))) (fun (u : (Nat → Int32) × (Nat → Int64) × (Nat → Int32)) => [(h0, .inr (11, [.int 0, .ref h0_tape, .int h0_taped, .int h0_size, .int h0_limit, .int h0_to, .int h0_from, .int h0_kind, .int h0_number, .int h0_sign, .int h0_fault, .int h0_place, .long h0_word, .int h0_told, .ref h0_now, .ref h0_read, .ref h0_kept, .ref h0_snaps, .ref h0_aside, .ref h0_name, .ref h0_readName, .ref h0_keptName, .ref h0_isKept, .ref h0_onces, .int h0_snapMany, .int h0_lowest, .int h0_highest, .int h0_agreed, .int h0_jurors, .int h0_panelled, .ref h0_inSets, .int h0_surely, .int h0_asked, .ref h0_frees, .int h0_struck, .int h0_beating, .ref h0_text, .int h0_texts, .int h0_seed, .ref h0_line, .ref h0_written, .int h0_lineMany, .int h0_hasWritten, .ref h0_node, .int h0_nodes, .int h0_onesMany, .int h0_within, .int h0_top])), (aI ca h0_now 376 F_h0_now), (aI ca h0_kept 752 u.1), (aJ ca h0_name 19 F_h0_name), (aJ ca h0_keptName 38 u.2.1), (aZ ca h0_isKept 2 u.2.2)])) A) ([.ref h0, .int a1] : List Value).toArray s 0 0 A) (F0 m 18 ls []) := by
    intro n
    induction n with
    | zero => intro y18_0 f18_1 _ hy18_0 s18_2 s18_3 s18_4 s18_5 s18_6 s18_7 s18_8 t18_a1 hn; exact absurd hn (by have q9 := hy18_0.2; omega)
    | succ n ih =>
      intro y18_0 f18_1 _ hy18_0 s18_2 s18_3 s18_4 s18_5 s18_6 s18_7 s18_8 t18_a1 hn H locs ls hP hD hS hl
      refine lv_iload_n hx hb dX12_image_18 rfl (lv_at hl 2 rfl) ?_
      refine lv_sipush (v := 376) hx hb dX12_image_19 (by decide) ?_
      refine lv_icmp_ge (tgt := 49) hx hb dX12_image_22 (by decide) (fun c_460 => ?_) (fun c_460 => ?_)
      · skip
        have o_461 : rl 0 376 y18_0 := rl_le c_460
        have h_462 : rg 376 376 y18_0 := rl_y o_461 (⟨by decide, by decide⟩ : rg 376 376 (376 : Int32)) hy18_0 (by decide) (by decide)
        refine lv_iconst (v := 0) hx hb dX12_image_49 (by decide) ?_
        refine lv_istore_n (lv' := [(2, .int 0), (0, .ref h0), (1, .int a1)]) hx hb dX12_image_50 rfl hl (by decide) rfl (fun ls hl => ?_)
        exact J51_401 20 0 f18_1 F_h0_keptName trivial (⟨by decide, by decide⟩ : rg 0 19 (0 : Int32)) s18_2 s18_3 s18_4 s18_5 s18_6 s18_7 s18_8 t18_a1 (by have q0 := (⟨by decide, by decide⟩ : rg 0 0 (0 : Int32)).1; omega) H locs ls (oPsub hP [0, 1, 2, 3, 4, 5] rfl) (hD.sub [0, 1, 2, 3, 4, 5] (by decide) rfl) hS (lv_sub hl [1, 2, 0] rfl)
      · skip
        have o_463 : rl 1 y18_0 376 := rl_nle c_460
        have h_464 : rg 0 375 y18_0 := rl_x o_463 hy18_0 (⟨by decide, by decide⟩ : rg 376 376 (376 : Int32)) (by decide) (by decide)
        refine lv_aload_n hx hb dX12_image_25 rfl (lv_at hl 0 rfl) ?_
        refine va_get (D := D) (ci := 11) (v := .ref h0_kept) (C := RX12) (T := TX12) (N := 48) hx hb hts k2 hown hK.1 hP 0 rfl rfl 16 (by decide) k5 (fun _ h9 => h9) rfl dX12_image_26 ?_
        refine lv_sipush (v := 376) hx hb dX12_image_29 (by decide) ?_
        refine lv_iload_n hx hb dX12_image_32 rfl (lv_at hl 1 rfl) ?_
        refine lv_imul hx hb dX12_image_33 ?_
        refine lv_topi (fun x_465 ex_465 => ?_)
        have h_466 : rg 0 376 x_465 := by rw [ex_465]; exact rg_mul' (k := 376) t18_a1 (by decide) (by decide) (by decide) (by decide) (by decide) (by decide)
        have l_467 : lq x_465.toInt (376 * a1.toInt) := lqm (by rw [ex_465]; have q := tmul' (k := 376) (y := 376) t18_a1 (by decide) (by decide) (by decide) (by decide); omega)
        refine lv_iload_n hx hb dX12_image_34 rfl (lv_at hl 2 rfl) ?_
        refine lv_iadd hx hb dX12_image_35 ?_
        refine lv_topi (fun x_468 ex_468 => ?_)
        have h_469 : rg 0 751 x_468 := by rw [ex_468]; exact rg_add h_466 h_464 (by decide) (by decide) (by decide) (by decide)
        have l_470 : lq x_468.toInt (376 * a1.toInt + y18_0.toInt) := lqm (by rw [ex_468]; have q := tadd h_466 h_464 (by decide) (by decide); have r0 := lqe l_467; omega)
        refine lv_aload_n hx hb dX12_image_36 rfl (lv_at hl 0 rfl) ?_
        refine va_get (D := D) (ci := 11) (v := .ref h0_now) (C := RX12) (T := TX12) (N := 48) hx hb hts k2 hown hK.1 hP 0 rfl rfl 14 (by decide) k6 (fun _ h9 => h9) rfl dX12_image_37 ?_
        refine lv_iload_n hx hb dX12_image_40 rfl (lv_at hl 2 rfl) ?_
        refine va_iald hx hb hK.1 hP 1 0 rfl rfl (rg_in h_464 (by decide) (by decide)) dX12_image_41 ?_
        refine lv_topi (fun x_471 ex_471 => ?_)
        refine va_iast hx hb hK.1 hP hD hS 2 0 rfl rfl (rg_in h_469 (by decide) (by decide)) dX12_image_42 (fun H locs hP hD hS => ?_)
        obtain ⟨g_472, eg_472⟩ : ∃ y : Nat → Int32, y = upd f18_1 (x_468 : Int32).toNatClampNeg (x_471 : Int32) := ⟨_, rfl⟩
        rw [← eg_472] at hP hD
        have s_473 : sg 0 1 0 10 g_472 := sg_src (a2 := 0) (b2 := 1) s18_2 eg_472 h_469 (by decide) ex_471 h_464 (by decide) (sg_w (a' := 0) (b' := 1) (lo' := 0) (hi' := 10) s_h0_now_0 (by decide) (by decide) (by decide) (by decide)) (fun z1 z2 => by have q0 := lqe l_470; have q1 := (t18_a1).1; have q2 := (h_464).1; have q3 := (t18_a1).2; have q4 := (h_464).2; constructor <;> omega)
        have s_474 : sg 376 377 0 10 g_472 := sg_src (a2 := 0) (b2 := 1) s18_3 eg_472 h_469 (by decide) ex_471 h_464 (by decide) (sg_w (a' := 0) (b' := 1) (lo' := 0) (hi' := 10) s_h0_now_0 (by decide) (by decide) (by decide) (by decide)) (fun z1 z2 => by have q0 := lqe l_470; have q1 := (t18_a1).1; have q2 := (h_464).1; have q3 := (t18_a1).2; have q4 := (h_464).2; constructor <;> omega)
        have s_475 : sg 377 378 0 4 g_472 := sg_src (a2 := 1) (b2 := 2) s18_4 eg_472 h_469 (by decide) ex_471 h_464 (by decide) (sg_w (a' := 1) (b' := 2) (lo' := 0) (hi' := 4) s_h0_now_1 (by decide) (by decide) (by decide) (by decide)) (fun z1 z2 => by have q0 := lqe l_470; have q1 := (t18_a1).1; have q2 := (h_464).1; have q3 := (t18_a1).2; have q4 := (h_464).2; constructor <;> omega)
        have s_476 : sg 378 379 0 5 g_472 := sg_src (a2 := 2) (b2 := 3) s18_5 eg_472 h_469 (by decide) ex_471 h_464 (by decide) (sg_w (a' := 2) (b' := 3) (lo' := 0) (hi' := 5) s_h0_now_2 (by decide) (by decide) (by decide) (by decide)) (fun z1 z2 => by have q0 := lqe l_470; have q1 := (t18_a1).1; have q2 := (h_464).1; have q3 := (t18_a1).2; have q4 := (h_464).2; constructor <;> omega)
        have s_477 : sg 411 412 0 1023 g_472 := sg_src (a2 := 35) (b2 := 36) s18_6 eg_472 h_469 (by decide) ex_471 h_464 (by decide) (sg_w (a' := 35) (b' := 36) (lo' := 0) (hi' := 1023) s_h0_now_3 (by decide) (by decide) (by decide) (by decide)) (fun z1 z2 => by have q0 := lqe l_470; have q1 := (t18_a1).1; have q2 := (h_464).1; have q3 := (t18_a1).2; have q4 := (h_464).2; constructor <;> omega)
        have s_478 : sg 420 425 0 3 g_472 := sg_src (a2 := 44) (b2 := 49) s18_7 eg_472 h_469 (by decide) ex_471 h_464 (by decide) (sg_w (a' := 44) (b' := 49) (lo' := 0) (hi' := 3) s_h0_now_4 (by decide) (by decide) (by decide) (by decide)) (fun z1 z2 => by have q0 := lqe l_470; have q1 := (t18_a1).1; have q2 := (h_464).1; have q3 := (t18_a1).2; have q4 := (h_464).2; constructor <;> omega)
        have s_479 : sg 466 467 0 1023 g_472 := sg_src (a2 := 90) (b2 := 91) s18_8 eg_472 h_469 (by decide) ex_471 h_464 (by decide) (sg_w (a' := 90) (b' := 91) (lo' := 0) (hi' := 1023) s_h0_now_5 (by decide) (by decide) (by decide) (by decide)) (fun z1 z2 => by have q0 := lqe l_470; have q1 := (t18_a1).1; have q2 := (h_464).1; have q3 := (t18_a1).2; have q4 := (h_464).2; constructor <;> omega)
        have hP : va_P D vwCl [(h0, .inr (11, [.int 0, .ref h0_tape, .int h0_taped, .int h0_size, .int h0_limit, .int h0_to, .int h0_from, .int h0_kind, .int h0_number, .int h0_sign, .int h0_fault, .int h0_place, .long h0_word, .int h0_told, .ref h0_now, .ref h0_read, .ref h0_kept, .ref h0_snaps, .ref h0_aside, .ref h0_name, .ref h0_readName, .ref h0_keptName, .ref h0_isKept, .ref h0_onces, .int h0_snapMany, .int h0_lowest, .int h0_highest, .int h0_agreed, .int h0_jurors, .int h0_panelled, .ref h0_inSets, .int h0_surely, .int h0_asked, .ref h0_frees, .int h0_struck, .int h0_beating, .ref h0_text, .int h0_texts, .int h0_seed, .ref h0_line, .ref h0_written, .int h0_lineMany, .int h0_hasWritten, .ref h0_node, .int h0_nodes, .int h0_onesMany, .int h0_within, .int h0_top])), (aI ca h0_now 376 F_h0_now), (aI ca h0_kept 752 g_472), (aJ ca h0_name 19 F_h0_name), (aJ ca h0_keptName 38 F_h0_keptName), (aZ ca h0_isKept 2 F_h0_isKept)] H := hP
        have hD : va_D A [(h0, .inr (11, [.int 0, .ref h0_tape, .int h0_taped, .int h0_size, .int h0_limit, .int h0_to, .int h0_from, .int h0_kind, .int h0_number, .int h0_sign, .int h0_fault, .int h0_place, .long h0_word, .int h0_told, .ref h0_now, .ref h0_read, .ref h0_kept, .ref h0_snaps, .ref h0_aside, .ref h0_name, .ref h0_readName, .ref h0_keptName, .ref h0_isKept, .ref h0_onces, .int h0_snapMany, .int h0_lowest, .int h0_highest, .int h0_agreed, .int h0_jurors, .int h0_panelled, .ref h0_inSets, .int h0_surely, .int h0_asked, .ref h0_frees, .int h0_struck, .int h0_beating, .ref h0_text, .int h0_texts, .int h0_seed, .ref h0_line, .ref h0_written, .int h0_lineMany, .int h0_hasWritten, .ref h0_node, .int h0_nodes, .int h0_onesMany, .int h0_within, .int h0_top])), (aI ca h0_now 376 F_h0_now), (aI ca h0_kept 752 g_472), (aJ ca h0_name 19 F_h0_name), (aJ ca h0_keptName 38 F_h0_keptName), (aZ ca h0_isKept 2 F_h0_isKept)] := hD
        obtain ⟨x_480, ex_480⟩ : ∃ y : Int32, y = y18_0 + 1 := ⟨_, rfl⟩
        have h_481 : rg 1 376 x_480 := by rw [ex_480]; exact rg_add h_464 (⟨by decide, by decide⟩ : rg 1 1 (1 : Int32)) (by decide) (by decide) (by decide) (by decide)
        have l_482 : lq x_480.toInt (y18_0.toInt + 1) := lqm (by rw [ex_480]; have q := tadd h_464 (⟨by decide, by decide⟩ : rg 1 1 (1 : Int32)) (by decide) (by decide); have r1 := lqe (lqm (by decide) : lq (1 : Int32).toInt 1); omega)
        refine lv_iinc (v := x_480) (lv' := [(2, .int x_480), (0, .ref h0), (1, .int a1)]) hx hb dX12_image_43 hl (k := 2) rfl (by rw [ex_480]; rfl) (by decide) rfl (fun ls hl => ?_)
        refine lv_goto (tgt := 18) hx hb dX12_image_46 (by decide) ?_
        exact ih x_480 g_472 trivial (rgw (lo := 0) (hi := 376) h_481 (by decide) (by decide)) s_473 s_474 s_475 s_476 s_477 s_478 s_479 t18_a1 (by have q0 := lqe l_482; omega) H locs ls (oPsub hP [0, 1, 2, 3, 4, 5] rfl) (hD.sub [0, 1, 2, 3, 4, 5] (by decide) rfl) hS (lv_sub hl [1, 2, 0] rfl)
  refine lv_aload_n hx hb dX12_image_0 rfl (lv_at hl 0 rfl) ?_
  refine lv_iconst (v := 0) hx hb dX12_image_1 (by decide) ?_
  refine va_put (D := D) (ci := 11) (v := .int 0) (ty := .int) (C := RX12) (T := TX12) (N := 48) hx hb hts k2 tyX12 tyX12_ok nmX12 hown hK.1 hP hD hS 0 rfl rfl 0 (by decide) k7 (fun _ h9 => h9) rfl (by decide +kernel) rfl rfl (Nat.le_of_ble_eq_true rfl) dX12_image_2 (fun H locs hP hD hS => ?_)
  have hP : va_P D vwCl [(h0, .inr (11, [.int 0, .ref h0_tape, .int h0_taped, .int h0_size, .int h0_limit, .int h0_to, .int h0_from, .int h0_kind, .int h0_number, .int h0_sign, .int h0_fault, .int h0_place, .long h0_word, .int h0_told, .ref h0_now, .ref h0_read, .ref h0_kept, .ref h0_snaps, .ref h0_aside, .ref h0_name, .ref h0_readName, .ref h0_keptName, .ref h0_isKept, .ref h0_onces, .int h0_snapMany, .int h0_lowest, .int h0_highest, .int h0_agreed, .int h0_jurors, .int h0_panelled, .ref h0_inSets, .int h0_surely, .int h0_asked, .ref h0_frees, .int h0_struck, .int h0_beating, .ref h0_text, .int h0_texts, .int h0_seed, .ref h0_line, .ref h0_written, .int h0_lineMany, .int h0_hasWritten, .ref h0_node, .int h0_nodes, .int h0_onesMany, .int h0_within, .int h0_top])), (aI ca h0_now 376 F_h0_now), (aI ca h0_kept 752 F_h0_kept), (aJ ca h0_name 19 F_h0_name), (aJ ca h0_keptName 38 F_h0_keptName), (aZ ca h0_isKept 2 F_h0_isKept)] H := hP
  have hD : va_D A [(h0, .inr (11, [.int 0, .ref h0_tape, .int h0_taped, .int h0_size, .int h0_limit, .int h0_to, .int h0_from, .int h0_kind, .int h0_number, .int h0_sign, .int h0_fault, .int h0_place, .long h0_word, .int h0_told, .ref h0_now, .ref h0_read, .ref h0_kept, .ref h0_snaps, .ref h0_aside, .ref h0_name, .ref h0_readName, .ref h0_keptName, .ref h0_isKept, .ref h0_onces, .int h0_snapMany, .int h0_lowest, .int h0_highest, .int h0_agreed, .int h0_jurors, .int h0_panelled, .ref h0_inSets, .int h0_surely, .int h0_asked, .ref h0_frees, .int h0_struck, .int h0_beating, .ref h0_text, .int h0_texts, .int h0_seed, .ref h0_line, .ref h0_written, .int h0_lineMany, .int h0_hasWritten, .ref h0_node, .int h0_nodes, .int h0_onesMany, .int h0_within, .int h0_top])), (aI ca h0_now 376 F_h0_now), (aI ca h0_kept 752 F_h0_kept), (aJ ca h0_name 19 F_h0_name), (aJ ca h0_keptName 38 F_h0_keptName), (aZ ca h0_isKept 2 F_h0_isKept)] := hD
  refine lv_iload_n hx hb dX12_image_5 rfl (lv_at hl 1 rfl) ?_
  refine lv_iconst (v := 0) hx hb dX12_image_6 (by decide) ?_
  refine lv_iconst (v := 1) hx hb dX12_image_7 (by decide) ?_
  refine oC_i (Wc := []) (Wr := [(h0, .inr (11, [.int 0, .ref h0_tape, .int h0_taped, .int h0_size, .int h0_limit, .int h0_to, .int h0_from, .int h0_kind, .int h0_number, .int h0_sign, .int h0_fault, .int h0_place, .long h0_word, .int h0_told, .ref h0_now, .ref h0_read, .ref h0_kept, .ref h0_snaps, .ref h0_aside, .ref h0_name, .ref h0_readName, .ref h0_keptName, .ref h0_isKept, .ref h0_onces, .int h0_snapMany, .int h0_lowest, .int h0_highest, .int h0_agreed, .int h0_jurors, .int h0_panelled, .ref h0_inSets, .int h0_surely, .int h0_asked, .ref h0_frees, .int h0_struck, .int h0_beating, .ref h0_text, .int h0_texts, .int h0_seed, .ref h0_line, .ref h0_written, .int h0_lineMany, .int h0_hasWritten, .ref h0_node, .int h0_nodes, .int h0_onesMany, .int h0_within, .int h0_top])), (aI ca h0_now 376 F_h0_now), (aI ca h0_kept 752 F_h0_kept), (aJ ca h0_name 19 F_h0_name), (aJ ca h0_keptName 38 F_h0_keptName), (aZ ca h0_isKept 2 F_h0_isKept)]) (va_runS (As := [.int a1, .int 0, .int 1]) (rest := []) ⟨hx, hb, hml, hown, hts⟩ (s_X12_isIn l D ca H.size a1 0 1) (va_cwS 3 hts gX12_image_X12_isIn rfl rfl rfl (by decide +kernel) ⟨Nat.le_of_ble_eq_true rfl, Nat.le_of_ble_eq_true rfl⟩) (oPS hK hP hD [] rfl (by decide)) rfl rfl hl.1 rfl (lv_room (Nat.le_of_ble_eq_true rfl)) dX12_image_8 ⟨Nat.le_of_ble_eq_true rfl, Nat.le_of_ble_eq_true rfl⟩) hP hD hS hA [] [0, 1, 2, 3, 4, 5] rfl rfl (by decide) (by decide) (fun r_483 u H locs w_484 hP hD hS => ?_)
  obtain ⟨⟩ := u
  have hP : va_P D vwCl [(h0, .inr (11, [.int 0, .ref h0_tape, .int h0_taped, .int h0_size, .int h0_limit, .int h0_to, .int h0_from, .int h0_kind, .int h0_number, .int h0_sign, .int h0_fault, .int h0_place, .long h0_word, .int h0_told, .ref h0_now, .ref h0_read, .ref h0_kept, .ref h0_snaps, .ref h0_aside, .ref h0_name, .ref h0_readName, .ref h0_keptName, .ref h0_isKept, .ref h0_onces, .int h0_snapMany, .int h0_lowest, .int h0_highest, .int h0_agreed, .int h0_jurors, .int h0_panelled, .ref h0_inSets, .int h0_surely, .int h0_asked, .ref h0_frees, .int h0_struck, .int h0_beating, .ref h0_text, .int h0_texts, .int h0_seed, .ref h0_line, .ref h0_written, .int h0_lineMany, .int h0_hasWritten, .ref h0_node, .int h0_nodes, .int h0_onesMany, .int h0_within, .int h0_top])), (aI ca h0_now 376 F_h0_now), (aI ca h0_kept 752 F_h0_kept), (aJ ca h0_name 19 F_h0_name), (aJ ca h0_keptName 38 F_h0_keptName), (aZ ca h0_isKept 2 F_h0_isKept)] H := hP
  have hD : va_D A [(h0, .inr (11, [.int 0, .ref h0_tape, .int h0_taped, .int h0_size, .int h0_limit, .int h0_to, .int h0_from, .int h0_kind, .int h0_number, .int h0_sign, .int h0_fault, .int h0_place, .long h0_word, .int h0_told, .ref h0_now, .ref h0_read, .ref h0_kept, .ref h0_snaps, .ref h0_aside, .ref h0_name, .ref h0_readName, .ref h0_keptName, .ref h0_isKept, .ref h0_onces, .int h0_snapMany, .int h0_lowest, .int h0_highest, .int h0_agreed, .int h0_jurors, .int h0_panelled, .ref h0_inSets, .int h0_surely, .int h0_asked, .ref h0_frees, .int h0_struck, .int h0_beating, .ref h0_text, .int h0_texts, .int h0_seed, .ref h0_line, .ref h0_written, .int h0_lineMany, .int h0_hasWritten, .ref h0_node, .int h0_nodes, .int h0_onesMany, .int h0_within, .int h0_top])), (aI ca h0_now 376 F_h0_now), (aI ca h0_kept 752 F_h0_kept), (aJ ca h0_name 19 F_h0_name), (aJ ca h0_keptName 38 F_h0_keptName), (aZ ca h0_isKept 2 F_h0_isKept)] := hD
  try dsimp only at w_484
  rcases w_484 with h_485 | ⟨h_486, h_487, h_488⟩
  · skip
    subst h_485
    refine lv_if_ne (tgt := 16) hx hb dX12_image_11 (by decide) (fun c => absurd (by decide) c) (fun _ => ?_)
    refine lv_iconst (v := 0) hx hb dX12_image_14 (by decide) ?_
    exact oE_i hx hb hr (by decide) hlocks hP hD hS (F_h0_kept, F_h0_keptName, F_h0_isKept) [0, 1, 2, 3, 4, 5] rfl (by decide) (Or.inl ⟨rfl, s_h0_kept_0, s_h0_kept_1, s_h0_kept_2, s_h0_kept_3, s_h0_kept_4, s_h0_kept_5, s_h0_kept_6, s_h0_kept_7, s_h0_kept_8, s_h0_kept_9, s_h0_kept_10, s_h0_kept_11, (eqs_rf (a := 0) (b := 752) F_h0_kept)⟩) (Nat.le_of_ble_eq_true rfl) (Nat.le_of_ble_eq_true rfl) dX12_image_15
  · skip
    subst h_486
    have h_489 : rg 0 2147483647 a1 := rl_y h_487 (⟨by decide, by decide⟩ : rg 0 0 (0 : Int32)) (rga a1) (by decide) (by decide)
    have h_490 : rg 0 1 a1 := rl_x h_488 h_489 (⟨by decide, by decide⟩ : rg 1 1 (1 : Int32)) (by decide) (by decide)
    refine lv_if_ne (tgt := 16) hx hb dX12_image_11 (by decide) (fun _ => ?_) (fun c => absurd c (by decide))
    refine lv_iconst (v := 0) hx hb dX12_image_16 (by decide) ?_
    refine lv_istore_n (lv' := [(2, .int 0), (0, .ref h0), (1, .int a1)]) hx hb dX12_image_17 rfl hl (by decide) rfl (fun ls hl => ?_)
    exact J18_436 377 0 F_h0_kept trivial (⟨by decide, by decide⟩ : rg 0 376 (0 : Int32)) s_h0_kept_0 s_h0_kept_6 s_h0_kept_7 s_h0_kept_8 s_h0_kept_9 s_h0_kept_10 s_h0_kept_11 h_490 (by have q0 := (⟨by decide, by decide⟩ : rg 0 0 (0 : Int32)).1; omega) H locs ls (oPsub hP [0, 1, 2, 3, 4, 5] rfl) (hD.sub [0, 1, 2, 3, 4, 5] (by decide) rfl) hS (lv_sub hl [1, 2, 0] rfl)
theorem dX12_restore_0 : decode cX12_restore 0 = .ok (.aload_n 0, 1) := by decide +kernel
theorem dX12_restore_1 : decode cX12_restore 1 = .ok (.iconst 0, 1) := by decide +kernel
theorem dX12_restore_2 : decode cX12_restore 2 = .ok (.putfield 1, 3) := by decide +kernel
theorem dX12_restore_5 : decode cX12_restore 5 = .ok (.iload_n 1, 1) := by decide +kernel
theorem dX12_restore_6 : decode cX12_restore 6 = .ok (.iconst 0, 1) := by decide +kernel
theorem dX12_restore_7 : decode cX12_restore 7 = .ok (.iconst 1, 1) := by decide +kernel
theorem dX12_restore_8 : decode cX12_restore 8 = .ok (.invokestatic 75, 3) := by decide +kernel
theorem dX12_restore_11 : decode cX12_restore 11 = .ok (.ifCond .eq 12, 3) := by decide +kernel
theorem dX12_restore_14 : decode cX12_restore 14 = .ok (.aload_n 0, 1) := by decide +kernel
theorem dX12_restore_15 : decode cX12_restore 15 = .ok (.getfield 123, 3) := by decide +kernel
theorem dX12_restore_18 : decode cX12_restore 18 = .ok (.iload_n 1, 1) := by decide +kernel
theorem dX12_restore_19 : decode cX12_restore 19 = .ok (.baload, 1) := by decide +kernel
theorem dX12_restore_20 : decode cX12_restore 20 = .ok (.ifCond .ne 5, 3) := by decide +kernel
theorem dX12_restore_23 : decode cX12_restore 23 = .ok (.iconst 0, 1) := by decide +kernel
theorem dX12_restore_24 : decode cX12_restore 24 = .ok (.ireturn, 1) := by decide +kernel
theorem dX12_restore_25 : decode cX12_restore 25 = .ok (.iconst 0, 1) := by decide +kernel
theorem dX12_restore_26 : decode cX12_restore 26 = .ok (.istore_n 2, 1) := by decide +kernel
theorem dX12_restore_27 : decode cX12_restore 27 = .ok (.iload_n 2, 1) := by decide +kernel
theorem dX12_restore_28 : decode cX12_restore 28 = .ok (.sipush 376, 3) := by decide +kernel
theorem dX12_restore_31 : decode cX12_restore 31 = .ok (.if_icmp .ge 27, 3) := by decide +kernel
theorem dX12_restore_34 : decode cX12_restore 34 = .ok (.aload_n 0, 1) := by decide +kernel
theorem dX12_restore_35 : decode cX12_restore 35 = .ok (.getfield 98, 3) := by decide +kernel
theorem dX12_restore_38 : decode cX12_restore 38 = .ok (.iload_n 2, 1) := by decide +kernel
theorem dX12_restore_39 : decode cX12_restore 39 = .ok (.aload_n 0, 1) := by decide +kernel
theorem dX12_restore_40 : decode cX12_restore 40 = .ok (.getfield 104, 3) := by decide +kernel
theorem dX12_restore_43 : decode cX12_restore 43 = .ok (.sipush 376, 3) := by decide +kernel
theorem dX12_restore_46 : decode cX12_restore 46 = .ok (.iload_n 1, 1) := by decide +kernel
theorem dX12_restore_47 : decode cX12_restore 47 = .ok (.imul, 1) := by decide +kernel
theorem dX12_restore_48 : decode cX12_restore 48 = .ok (.iload_n 2, 1) := by decide +kernel
theorem dX12_restore_49 : decode cX12_restore 49 = .ok (.iadd, 1) := by decide +kernel
theorem dX12_restore_50 : decode cX12_restore 50 = .ok (.iaload, 1) := by decide +kernel
theorem dX12_restore_51 : decode cX12_restore 51 = .ok (.iastore, 1) := by decide +kernel
theorem dX12_restore_52 : decode cX12_restore 52 = .ok (.iinc 2 1, 3) := by decide +kernel
theorem dX12_restore_55 : decode cX12_restore 55 = .ok (.goto (-28), 3) := by decide +kernel
theorem dX12_restore_58 : decode cX12_restore 58 = .ok (.iconst 0, 1) := by decide +kernel
theorem dX12_restore_59 : decode cX12_restore 59 = .ok (.istore_n 2, 1) := by decide +kernel
theorem dX12_restore_60 : decode cX12_restore 60 = .ok (.iload_n 2, 1) := by decide +kernel
theorem dX12_restore_61 : decode cX12_restore 61 = .ok (.bipush 19, 2) := by decide +kernel
theorem dX12_restore_63 : decode cX12_restore 63 = .ok (.if_icmp .ge 26, 3) := by decide +kernel
theorem dX12_restore_66 : decode cX12_restore 66 = .ok (.aload_n 0, 1) := by decide +kernel
theorem dX12_restore_67 : decode cX12_restore 67 = .ok (.getfield 113, 3) := by decide +kernel
theorem dX12_restore_70 : decode cX12_restore 70 = .ok (.iload_n 2, 1) := by decide +kernel
theorem dX12_restore_71 : decode cX12_restore 71 = .ok (.aload_n 0, 1) := by decide +kernel
theorem dX12_restore_72 : decode cX12_restore 72 = .ok (.getfield 120, 3) := by decide +kernel
theorem dX12_restore_75 : decode cX12_restore 75 = .ok (.bipush 19, 2) := by decide +kernel
theorem dX12_restore_77 : decode cX12_restore 77 = .ok (.iload_n 1, 1) := by decide +kernel
theorem dX12_restore_78 : decode cX12_restore 78 = .ok (.imul, 1) := by decide +kernel
theorem dX12_restore_79 : decode cX12_restore 79 = .ok (.iload_n 2, 1) := by decide +kernel
theorem dX12_restore_80 : decode cX12_restore 80 = .ok (.iadd, 1) := by decide +kernel
theorem dX12_restore_81 : decode cX12_restore 81 = .ok (.laload, 1) := by decide +kernel
theorem dX12_restore_82 : decode cX12_restore 82 = .ok (.lastore, 1) := by decide +kernel
theorem dX12_restore_83 : decode cX12_restore 83 = .ok (.iinc 2 1, 3) := by decide +kernel
theorem dX12_restore_86 : decode cX12_restore 86 = .ok (.goto (-26), 3) := by decide +kernel
theorem dX12_restore_89 : decode cX12_restore 89 = .ok (.aload_n 0, 1) := by decide +kernel
theorem dX12_restore_90 : decode cX12_restore 90 = .ok (.iconst 0, 1) := by decide +kernel
theorem dX12_restore_91 : decode cX12_restore 91 = .ok (.putfield 227, 3) := by decide +kernel
theorem dX12_restore_94 : decode cX12_restore 94 = .ok (.iconst 1, 1) := by decide +kernel
theorem dX12_restore_95 : decode cX12_restore 95 = .ok (.ireturn, 1) := by decide +kernel
set_option maxRecDepth 20000 in
theorem ggX12_restore_X12_isIn : GoodIn wsX12_restore wsX12_isIn := goodIn_r _ [11] rfl (by decide +kernel)
set_option maxRecDepth 20000 in
theorem gX12_restore_X12_isIn : GoodIn wsX12_restore (va_wsS RX12 75 yX12_isIn wsX12_isIn) := goodIn_app (goodIn_of _ (by decide +kernel)) ggX12_restore_X12_isIn
set_option maxHeartbeats 4000000 in
set_option maxRecDepth 100000 in
theorem s_X12_restore (l : Launch) (D : va_G) (ca : Nat → ClassId) (sz : Nat) (h0 : Nat) (a1 : Int32) (h0_thrown : Int32) (h0_tape : Nat) (h0_taped : Int32) (h0_size : Int32) (h0_limit : Int32) (h0_to : Int32) (h0_from : Int32) (h0_kind : Int32) (h0_number : Int32) (h0_sign : Int32) (h0_fault : Int32) (h0_place : Int32) (h0_word : Int64) (h0_told : Int32) (h0_now : Nat) (h0_read : Nat) (h0_kept : Nat) (h0_snaps : Nat) (h0_aside : Nat) (h0_name : Nat) (h0_readName : Nat) (h0_keptName : Nat) (h0_isKept : Nat) (h0_onces : Nat) (h0_snapMany : Int32) (h0_lowest : Int32) (h0_highest : Int32) (h0_agreed : Int32) (h0_jurors : Int32) (h0_panelled : Int32) (h0_inSets : Nat) (h0_surely : Int32) (h0_asked : Int32) (h0_frees : Nat) (h0_struck : Int32) (h0_beating : Int32) (h0_text : Nat) (h0_texts : Int32) (h0_seed : Int32) (h0_line : Nat) (h0_written : Nat) (h0_lineMany : Int32) (h0_hasWritten : Int32) (h0_node : Nat) (h0_nodes : Int32) (h0_onesMany : Int32) (h0_within : Int32) (h0_top : Int32) (F_h0_isKept : Nat → Int32) (F_h0_kept : Nat → Int32) (F_h0_now : Nat → Int32) (F_h0_keptName : Nat → Int64) (F_h0_name : Nat → Int64) (i_h0_taped : rg 0 940 h0_taped) (i_h0_size : rg 0 940 h0_size) (i_h0_to : rg 0 940 h0_to) (i_h0_snapMany : rg 0 8 h0_snapMany) (i_h0_texts : rg 0 64 h0_texts) (i_h0_lineMany : rg 0 40 h0_lineMany) (i_h0_hasWritten : rg 0 1 h0_hasWritten) (s_h0_kept_0 : sg 0 1 0 10 F_h0_kept) (s_h0_kept_1 : sg 1 2 0 4 F_h0_kept) (s_h0_kept_2 : sg 2 3 0 5 F_h0_kept) (s_h0_kept_3 : sg 35 36 0 1023 F_h0_kept) (s_h0_kept_4 : sg 44 49 0 3 F_h0_kept) (s_h0_kept_5 : sg 90 91 0 1023 F_h0_kept) (s_h0_kept_6 : sg 376 377 0 10 F_h0_kept) (s_h0_kept_7 : sg 377 378 0 4 F_h0_kept) (s_h0_kept_8 : sg 378 379 0 5 F_h0_kept) (s_h0_kept_9 : sg 411 412 0 1023 F_h0_kept) (s_h0_kept_10 : sg 420 425 0 3 F_h0_kept) (s_h0_kept_11 : sg 466 467 0 1023 F_h0_kept) (s_h0_now_0 : sg 0 1 0 10 F_h0_now) (s_h0_now_1 : sg 1 2 0 4 F_h0_now) (s_h0_now_2 : sg 2 3 0 5 F_h0_now) (s_h0_now_3 : sg 35 36 0 1023 F_h0_now) (s_h0_now_4 : sg 44 49 0 3 F_h0_now) (s_h0_now_5 : sg 90 91 0 1023 F_h0_now) : oMet l yX12_restore wsX12_restore ({ frames := 1, cells := 0, slots := 0, locals := 22 } : Room) [.ref h0, .int a1] D ca sz [(h0, .inr (11, [.int h0_thrown, .ref h0_tape, .int h0_taped, .int h0_size, .int h0_limit, .int h0_to, .int h0_from, .int h0_kind, .int h0_number, .int h0_sign, .int h0_fault, .int h0_place, .long h0_word, .int h0_told, .ref h0_now, .ref h0_read, .ref h0_kept, .ref h0_snaps, .ref h0_aside, .ref h0_name, .ref h0_readName, .ref h0_keptName, .ref h0_isKept, .ref h0_onces, .int h0_snapMany, .int h0_lowest, .int h0_highest, .int h0_agreed, .int h0_jurors, .int h0_panelled, .ref h0_inSets, .int h0_surely, .int h0_asked, .ref h0_frees, .int h0_struck, .int h0_beating, .ref h0_text, .int h0_texts, .int h0_seed, .ref h0_line, .ref h0_written, .int h0_lineMany, .int h0_hasWritten, .ref h0_node, .int h0_nodes, .int h0_onesMany, .int h0_within, .int h0_top])), (aZ ca h0_isKept 2 F_h0_isKept), (aI ca h0_kept 752 F_h0_kept), (aI ca h0_now 376 F_h0_now), (aJ ca h0_keptName 38 F_h0_keptName), (aJ ca h0_name 19 F_h0_name)] (oQi D (fun (r : Int32) (u : Int32 × (Nat → Int32) × (Nat → Int64)) => ((r = 0) ∧ (rg 0 8 u.1) ∧ (sg 0 1 0 10 u.2.1) ∧ (sg 1 2 0 4 u.2.1) ∧ (sg 2 3 0 5 u.2.1) ∧ (sg 35 36 0 1023 u.2.1) ∧ (sg 44 49 0 3 u.2.1) ∧ (sg 90 91 0 1023 u.2.1) ∧ (eqs 0 376 u.2.1 F_h0_now) ∧ (rl 0 h0_snapMany u.1) ∧ (rl 0 u.1 h0_snapMany)) ∨ ((r = 1) ∧ (rg 0 0 u.1) ∧ (rg 0 1 a1) ∧ (rl 1 u.1 r) ∧ (rl (-1) r u.1))) (fun (u : Int32 × (Nat → Int32) × (Nat → Int64)) => [(h0, .inr (11, [.int 0, .ref h0_tape, .int h0_taped, .int h0_size, .int h0_limit, .int h0_to, .int h0_from, .int h0_kind, .int h0_number, .int h0_sign, .int h0_fault, .int h0_place, .long h0_word, .int h0_told, .ref h0_now, .ref h0_read, .ref h0_kept, .ref h0_snaps, .ref h0_aside, .ref h0_name, .ref h0_readName, .ref h0_keptName, .ref h0_isKept, .ref h0_onces, .int u.1, .int h0_lowest, .int h0_highest, .int h0_agreed, .int h0_jurors, .int h0_panelled, .ref h0_inSets, .int h0_surely, .int h0_asked, .ref h0_frees, .int h0_struck, .int h0_beating, .ref h0_text, .int h0_texts, .int h0_seed, .ref h0_line, .ref h0_written, .int h0_lineMany, .int h0_hasWritten, .ref h0_node, .int h0_nodes, .int h0_onesMany, .int h0_within, .int h0_top])), (aZ ca h0_isKept 2 F_h0_isKept), (aI ca h0_kept 752 F_h0_kept), (aI ca h0_now 376 u.2.1), (aJ ca h0_keptName 38 F_h0_keptName), (aJ ca h0_name 19 u.2.2)])) 0 0 := by
  refine oM (cc := cX12_restore) (maxL := 3) (ret := (some .boolean)) (by decide) rfl (Nat.le_of_ble_eq_true rfl) [(0, .ref h0), (1, .int a1)] rfl ?_
  intro p e s m below meth c A H locs ls hx hb hr hml hts hown hlocks hin hK hP hD hA hS hl
  have hown : s.vm.findClass RX12 = some m.cls := hown
  have k1 := hts (.fieldLink RX12 227 "LidCourtModel" "snapMany" "I") (by decide +kernel)
  have k2 : ∀ w ∈ wsX120, w ∈ wsX12_restore := fun _ h => List.mem_cons_of_mem _ (List.mem_append_right _ h)
  have k3 := hts (.fieldLink RX12 113 "LidCourtModel" "name" "[J") (by decide +kernel)
  have k4 := hts (.fieldLink RX12 120 "LidCourtModel" "keptName" "[J") (by decide +kernel)
  have k5 := hts (.fieldLink RX12 98 "LidCourtModel" "now" "[I") (by decide +kernel)
  have k6 := hts (.fieldLink RX12 104 "LidCourtModel" "kept" "[I") (by decide +kernel)
  have k7 := hts (.fieldLink RX12 1 "LidCourtModel" "thrown" "I") (by decide +kernel)
  have k8 := hts (.fieldLink RX12 123 "LidCourtModel" "isKept" "[Z") (by decide +kernel)
  have J60_329 : ∀ (n : Nat) (y60_0 : Int32) (f60_1 : Nat → Int32) (f60_2 : Nat → Int64), True → rg 0 19 y60_0 → rg 0 1 a1 → 19 < y60_0.toInt + (n : Int) → ∀ (H : Heap) (locs : List Loc) (ls : Array Slot), va_P D vwCl [(h0, .inr (11, [.int 0, .ref h0_tape, .int h0_taped, .int h0_size, .int h0_limit, .int h0_to, .int h0_from, .int h0_kind, .int h0_number, .int h0_sign, .int h0_fault, .int h0_place, .long h0_word, .int h0_told, .ref h0_now, .ref h0_read, .ref h0_kept, .ref h0_snaps, .ref h0_aside, .ref h0_name, .ref h0_readName, .ref h0_keptName, .ref h0_isKept, .ref h0_onces, .int h0_snapMany, .int h0_lowest, .int h0_highest, .int h0_agreed, .int h0_jurors, .int h0_panelled, .ref h0_inSets, .int h0_surely, .int h0_asked, .ref h0_frees, .int h0_struck, .int h0_beating, .ref h0_text, .int h0_texts, .int h0_seed, .ref h0_line, .ref h0_written, .int h0_lineMany, .int h0_hasWritten, .ref h0_node, .int h0_nodes, .int h0_onesMany, .int h0_within, .int h0_top])), (aZ ca h0_isKept 2 F_h0_isKept), (aI ca h0_kept 752 F_h0_kept), (aI ca h0_now 376 f60_1), (aJ ca h0_keptName 38 F_h0_keptName), (aJ ca h0_name 19 f60_2)] H → va_D A [(h0, .inr (11, [.int 0, .ref h0_tape, .int h0_taped, .int h0_size, .int h0_limit, .int h0_to, .int h0_from, .int h0_kind, .int h0_number, .int h0_sign, .int h0_fault, .int h0_place, .long h0_word, .int h0_told, .ref h0_now, .ref h0_read, .ref h0_kept, .ref h0_snaps, .ref h0_aside, .ref h0_name, .ref h0_readName, .ref h0_keptName, .ref h0_isKept, .ref h0_onces, .int h0_snapMany, .int h0_lowest, .int h0_highest, .int h0_agreed, .int h0_jurors, .int h0_panelled, .ref h0_inSets, .int h0_surely, .int h0_asked, .ref h0_frees, .int h0_struck, .int h0_beating, .ref h0_text, .int h0_texts, .int h0_seed, .ref h0_line, .ref h0_written, .int h0_lineMany, .int h0_hasWritten, .ref h0_node, .int h0_nodes, .int h0_onesMany, .int h0_within, .int h0_top])), (aZ ca h0_isKept 2 F_h0_isKept), (aI ca h0_kept 752 F_h0_kept), (aI ca h0_now 376 f60_1), (aJ ca h0_keptName 38 F_h0_keptName), (aJ ca h0_name 19 f60_2)] → va_S A s.heap H locs → lv_has ls 3 [(0, .ref h0), (1, .int a1), (2, .int y60_0)] → W p l e ({ frames := 1, cells := 0, slots := 0, locals := 22 } : Room) s m ([.ref h0, .int a1] : List Value).toArray below meth c H locs 0 0 (MQ below ((oQi D (fun (r : Int32) (u : Int32 × (Nat → Int32) × (Nat → Int64)) => ((r = 0) ∧ (rg 0 8 u.1) ∧ (sg 0 1 0 10 u.2.1) ∧ (sg 1 2 0 4 u.2.1) ∧ (sg 2 3 0 5 u.2.1) ∧ (sg 35 36 0 1023 u.2.1) ∧ (sg 44 49 0 3 u.2.1) ∧ (sg 90 91 0 1023 u.2.1) ∧ (eqs 0 376 u.2.1 F_h0_now) ∧ (rl 0 h0_snapMany u.1) ∧ (rl 0 u.1 h0_snapMany)) ∨ ((r = 1) ∧ (rg 0 0 u.1) ∧ (rg 0 1 a1) ∧ (rl 1 u.1 r) ∧ (rl (-1) r u.1))) (fun (u : Int32 × (Nat → Int32) × (Nat → Int64)) => [(h0, .inr (11, [.int 0, .ref h0_tape, .int h0_taped, .int h0_size, .int h0_limit, .int h0_to, .int h0_from, .int h0_kind, .int h0_number, .int h0_sign, .int h0_fault, .int h0_place, .long h0_word, .int h0_told, .ref h0_now, .ref h0_read, .ref h0_kept, .ref h0_snaps, .ref h0_aside, .ref h0_name, .ref h0_readName, .ref h0_keptName, .ref h0_isKept, .ref h0_onces, .int u.1, .int h0_lowest, .int h0_highest, .int h0_agreed, .int h0_jurors, .int h0_panelled, .ref h0_inSets, .int h0_surely, .int h0_asked, .ref h0_frees, .int h0_struck, .int h0_beating, .ref h0_text, .int h0_texts, .int h0_seed, .ref h0_line, .ref h0_written, .int h0_lineMany, .int h0_hasWritten, .ref h0_node, .int h0_nodes, .int h0_onesMany, .int h0_within, .int h0_top])), (aZ ca h0_isKept 2 F_h0_isKept), (aI ca h0_kept 752 F_h0_kept), (aI ca h0_now 376 u.2.1), (aJ ca h0_keptName 38 F_h0_keptName), (aJ ca h0_name 19 u.2.2)])) A) ([.ref h0, .int a1] : List Value).toArray s 0 0 A) (F0 m 60 ls []) := by
    intro n
    induction n with
    | zero => intro y60_0 f60_1 f60_2 _ hy60_0 t60_a1 hn; exact absurd hn (by have q9 := hy60_0.2; omega)
    | succ n ih =>
      intro y60_0 f60_1 f60_2 _ hy60_0 t60_a1 hn H locs ls hP hD hS hl
      refine lv_iload_n hx hb dX12_restore_60 rfl (lv_at hl 2 rfl) ?_
      refine lv_bipush (v := 19) hx hb dX12_restore_61 (by decide) ?_
      refine lv_icmp_ge (tgt := 89) hx hb dX12_restore_63 (by decide) (fun c_346 => ?_) (fun c_346 => ?_)
      · skip
        have o_347 : rl 0 19 y60_0 := rl_le c_346
        have h_348 : rg 19 19 y60_0 := rl_y o_347 (⟨by decide, by decide⟩ : rg 19 19 (19 : Int32)) hy60_0 (by decide) (by decide)
        refine lv_aload_n hx hb dX12_restore_89 rfl (lv_at hl 0 rfl) ?_
        refine lv_iconst (v := 0) hx hb dX12_restore_90 (by decide) ?_
        refine va_put (D := D) (ci := 11) (v := .int 0) (ty := .int) (C := RX12) (T := TX12) (N := 48) hx hb hts k2 tyX12 tyX12_ok nmX12 hown hK.1 hP hD hS 0 rfl rfl 24 (by decide) k1 (fun _ h9 => h9) rfl (by decide +kernel) rfl rfl (Nat.le_of_ble_eq_true rfl) dX12_restore_91 (fun H locs hP hD hS => ?_)
        have hP : va_P D vwCl [(h0, .inr (11, [.int 0, .ref h0_tape, .int h0_taped, .int h0_size, .int h0_limit, .int h0_to, .int h0_from, .int h0_kind, .int h0_number, .int h0_sign, .int h0_fault, .int h0_place, .long h0_word, .int h0_told, .ref h0_now, .ref h0_read, .ref h0_kept, .ref h0_snaps, .ref h0_aside, .ref h0_name, .ref h0_readName, .ref h0_keptName, .ref h0_isKept, .ref h0_onces, .int 0, .int h0_lowest, .int h0_highest, .int h0_agreed, .int h0_jurors, .int h0_panelled, .ref h0_inSets, .int h0_surely, .int h0_asked, .ref h0_frees, .int h0_struck, .int h0_beating, .ref h0_text, .int h0_texts, .int h0_seed, .ref h0_line, .ref h0_written, .int h0_lineMany, .int h0_hasWritten, .ref h0_node, .int h0_nodes, .int h0_onesMany, .int h0_within, .int h0_top])), (aZ ca h0_isKept 2 F_h0_isKept), (aI ca h0_kept 752 F_h0_kept), (aI ca h0_now 376 f60_1), (aJ ca h0_keptName 38 F_h0_keptName), (aJ ca h0_name 19 f60_2)] H := hP
        have hD : va_D A [(h0, .inr (11, [.int 0, .ref h0_tape, .int h0_taped, .int h0_size, .int h0_limit, .int h0_to, .int h0_from, .int h0_kind, .int h0_number, .int h0_sign, .int h0_fault, .int h0_place, .long h0_word, .int h0_told, .ref h0_now, .ref h0_read, .ref h0_kept, .ref h0_snaps, .ref h0_aside, .ref h0_name, .ref h0_readName, .ref h0_keptName, .ref h0_isKept, .ref h0_onces, .int 0, .int h0_lowest, .int h0_highest, .int h0_agreed, .int h0_jurors, .int h0_panelled, .ref h0_inSets, .int h0_surely, .int h0_asked, .ref h0_frees, .int h0_struck, .int h0_beating, .ref h0_text, .int h0_texts, .int h0_seed, .ref h0_line, .ref h0_written, .int h0_lineMany, .int h0_hasWritten, .ref h0_node, .int h0_nodes, .int h0_onesMany, .int h0_within, .int h0_top])), (aZ ca h0_isKept 2 F_h0_isKept), (aI ca h0_kept 752 F_h0_kept), (aI ca h0_now 376 f60_1), (aJ ca h0_keptName 38 F_h0_keptName), (aJ ca h0_name 19 f60_2)] := hD
        refine lv_iconst (v := 1) hx hb dX12_restore_94 (by decide) ?_
        exact oE_i hx hb hr (by decide) hlocks hP hD hS (0, f60_1, f60_2) [0, 1, 2, 3, 4, 5] rfl (by decide) (Or.inr (⟨rfl, (⟨by decide, by decide⟩ : rg 0 0 (0 : Int32)), t60_a1, (show rl 1 0 1 from rlm (by have q0 := (show (1 : Int32).toInt = 1 by decide); have q1 := (show (0 : Int32).toInt = 0 by decide); omega)), (show rl (-1) 1 0 from rlm (by have q0 := (show (0 : Int32).toInt = 0 by decide); have q1 := (show (1 : Int32).toInt = 1 by decide); omega))⟩)) (Nat.le_of_ble_eq_true rfl) (Nat.le_of_ble_eq_true rfl) dX12_restore_95
      · skip
        have o_349 : rl 1 y60_0 19 := rl_nle c_346
        have h_350 : rg 0 18 y60_0 := rl_x o_349 hy60_0 (⟨by decide, by decide⟩ : rg 19 19 (19 : Int32)) (by decide) (by decide)
        refine lv_aload_n hx hb dX12_restore_66 rfl (lv_at hl 0 rfl) ?_
        refine va_get (D := D) (ci := 11) (v := .ref h0_name) (C := RX12) (T := TX12) (N := 48) hx hb hts k2 hown hK.1 hP 0 rfl rfl 19 (by decide) k3 (fun _ h9 => h9) rfl dX12_restore_67 ?_
        refine lv_iload_n hx hb dX12_restore_70 rfl (lv_at hl 2 rfl) ?_
        refine lv_aload_n hx hb dX12_restore_71 rfl (lv_at hl 0 rfl) ?_
        refine va_get (D := D) (ci := 11) (v := .ref h0_keptName) (C := RX12) (T := TX12) (N := 48) hx hb hts k2 hown hK.1 hP 0 rfl rfl 21 (by decide) k4 (fun _ h9 => h9) rfl dX12_restore_72 ?_
        refine lv_bipush (v := 19) hx hb dX12_restore_75 (by decide) ?_
        refine lv_iload_n hx hb dX12_restore_77 rfl (lv_at hl 1 rfl) ?_
        refine lv_imul hx hb dX12_restore_78 ?_
        refine lv_topi (fun x_351 ex_351 => ?_)
        have h_352 : rg 0 19 x_351 := by rw [ex_351]; exact rg_mul' (k := 19) t60_a1 (by decide) (by decide) (by decide) (by decide) (by decide) (by decide)
        have l_353 : lq x_351.toInt (19 * a1.toInt) := lqm (by rw [ex_351]; have q := tmul' (k := 19) (y := 19) t60_a1 (by decide) (by decide) (by decide) (by decide); omega)
        refine lv_iload_n hx hb dX12_restore_79 rfl (lv_at hl 2 rfl) ?_
        refine lv_iadd hx hb dX12_restore_80 ?_
        refine lv_topi (fun x_354 ex_354 => ?_)
        have h_355 : rg 0 37 x_354 := by rw [ex_354]; exact rg_add h_352 h_350 (by decide) (by decide) (by decide) (by decide)
        have l_356 : lq x_354.toInt (19 * a1.toInt + y60_0.toInt) := lqm (by rw [ex_354]; have q := tadd h_352 h_350 (by decide) (by decide); have r0 := lqe l_353; omega)
        refine va_lald hx hb hK.1 hP 4 1 rfl rfl (rg_in h_355 (by decide) (by decide)) dX12_restore_81 ?_
        refine lv_topl (fun x_357 ex_357 => ?_)
        refine va_last hx hb hK.1 hP hD hS 5 1 rfl rfl (rg_in h_350 (by decide) (by decide)) dX12_restore_82 (fun H locs hP hD hS => ?_)
        obtain ⟨g_358, eg_358⟩ : ∃ y : Nat → Int64, y = vp_updL f60_2 (y60_0 : Int32).toNatClampNeg (x_357 : Int64) := ⟨_, rfl⟩
        rw [← eg_358] at hP hD
        have hP : va_P D vwCl [(h0, .inr (11, [.int 0, .ref h0_tape, .int h0_taped, .int h0_size, .int h0_limit, .int h0_to, .int h0_from, .int h0_kind, .int h0_number, .int h0_sign, .int h0_fault, .int h0_place, .long h0_word, .int h0_told, .ref h0_now, .ref h0_read, .ref h0_kept, .ref h0_snaps, .ref h0_aside, .ref h0_name, .ref h0_readName, .ref h0_keptName, .ref h0_isKept, .ref h0_onces, .int h0_snapMany, .int h0_lowest, .int h0_highest, .int h0_agreed, .int h0_jurors, .int h0_panelled, .ref h0_inSets, .int h0_surely, .int h0_asked, .ref h0_frees, .int h0_struck, .int h0_beating, .ref h0_text, .int h0_texts, .int h0_seed, .ref h0_line, .ref h0_written, .int h0_lineMany, .int h0_hasWritten, .ref h0_node, .int h0_nodes, .int h0_onesMany, .int h0_within, .int h0_top])), (aZ ca h0_isKept 2 F_h0_isKept), (aI ca h0_kept 752 F_h0_kept), (aI ca h0_now 376 f60_1), (aJ ca h0_keptName 38 F_h0_keptName), (aJ ca h0_name 19 g_358)] H := hP
        have hD : va_D A [(h0, .inr (11, [.int 0, .ref h0_tape, .int h0_taped, .int h0_size, .int h0_limit, .int h0_to, .int h0_from, .int h0_kind, .int h0_number, .int h0_sign, .int h0_fault, .int h0_place, .long h0_word, .int h0_told, .ref h0_now, .ref h0_read, .ref h0_kept, .ref h0_snaps, .ref h0_aside, .ref h0_name, .ref h0_readName, .ref h0_keptName, .ref h0_isKept, .ref h0_onces, .int h0_snapMany, .int h0_lowest, .int h0_highest, .int h0_agreed, .int h0_jurors, .int h0_panelled, .ref h0_inSets, .int h0_surely, .int h0_asked, .ref h0_frees, .int h0_struck, .int h0_beating, .ref h0_text, .int h0_texts, .int h0_seed, .ref h0_line, .ref h0_written, .int h0_lineMany, .int h0_hasWritten, .ref h0_node, .int h0_nodes, .int h0_onesMany, .int h0_within, .int h0_top])), (aZ ca h0_isKept 2 F_h0_isKept), (aI ca h0_kept 752 F_h0_kept), (aI ca h0_now 376 f60_1), (aJ ca h0_keptName 38 F_h0_keptName), (aJ ca h0_name 19 g_358)] := hD
        obtain ⟨x_359, ex_359⟩ : ∃ y : Int32, y = y60_0 + 1 := ⟨_, rfl⟩
        have h_360 : rg 1 19 x_359 := by rw [ex_359]; exact rg_add h_350 (⟨by decide, by decide⟩ : rg 1 1 (1 : Int32)) (by decide) (by decide) (by decide) (by decide)
        have l_361 : lq x_359.toInt (y60_0.toInt + 1) := lqm (by rw [ex_359]; have q := tadd h_350 (⟨by decide, by decide⟩ : rg 1 1 (1 : Int32)) (by decide) (by decide); have r1 := lqe (lqm (by decide) : lq (1 : Int32).toInt 1); omega)
        refine lv_iinc (v := x_359) (lv' := [(2, .int x_359), (0, .ref h0), (1, .int a1)]) hx hb dX12_restore_83 hl (k := 2) rfl (by rw [ex_359]; rfl) (by decide) rfl (fun ls hl => ?_)
        refine lv_goto (tgt := 60) hx hb dX12_restore_86 (by decide) ?_
        exact ih x_359 f60_1 g_358 trivial (rgw (lo := 0) (hi := 19) h_360 (by decide) (by decide)) t60_a1 (by have q0 := lqe l_361; omega) H locs ls (oPsub hP [0, 1, 2, 3, 4, 5] rfl) (hD.sub [0, 1, 2, 3, 4, 5] (by decide) rfl) hS (lv_sub hl [1, 2, 0] rfl)
  have J27_362 : ∀ (n : Nat) (y27_0 : Int32) (f27_1 : Nat → Int32), True → rg 0 376 y27_0 → rg 0 1 a1 → 376 < y27_0.toInt + (n : Int) → ∀ (H : Heap) (locs : List Loc) (ls : Array Slot), va_P D vwCl [(h0, .inr (11, [.int 0, .ref h0_tape, .int h0_taped, .int h0_size, .int h0_limit, .int h0_to, .int h0_from, .int h0_kind, .int h0_number, .int h0_sign, .int h0_fault, .int h0_place, .long h0_word, .int h0_told, .ref h0_now, .ref h0_read, .ref h0_kept, .ref h0_snaps, .ref h0_aside, .ref h0_name, .ref h0_readName, .ref h0_keptName, .ref h0_isKept, .ref h0_onces, .int h0_snapMany, .int h0_lowest, .int h0_highest, .int h0_agreed, .int h0_jurors, .int h0_panelled, .ref h0_inSets, .int h0_surely, .int h0_asked, .ref h0_frees, .int h0_struck, .int h0_beating, .ref h0_text, .int h0_texts, .int h0_seed, .ref h0_line, .ref h0_written, .int h0_lineMany, .int h0_hasWritten, .ref h0_node, .int h0_nodes, .int h0_onesMany, .int h0_within, .int h0_top])), (aZ ca h0_isKept 2 F_h0_isKept), (aI ca h0_kept 752 F_h0_kept), (aI ca h0_now 376 f27_1), (aJ ca h0_keptName 38 F_h0_keptName), (aJ ca h0_name 19 F_h0_name)] H → va_D A [(h0, .inr (11, [.int 0, .ref h0_tape, .int h0_taped, .int h0_size, .int h0_limit, .int h0_to, .int h0_from, .int h0_kind, .int h0_number, .int h0_sign, .int h0_fault, .int h0_place, .long h0_word, .int h0_told, .ref h0_now, .ref h0_read, .ref h0_kept, .ref h0_snaps, .ref h0_aside, .ref h0_name, .ref h0_readName, .ref h0_keptName, .ref h0_isKept, .ref h0_onces, .int h0_snapMany, .int h0_lowest, .int h0_highest, .int h0_agreed, .int h0_jurors, .int h0_panelled, .ref h0_inSets, .int h0_surely, .int h0_asked, .ref h0_frees, .int h0_struck, .int h0_beating, .ref h0_text, .int h0_texts, .int h0_seed, .ref h0_line, .ref h0_written, .int h0_lineMany, .int h0_hasWritten, .ref h0_node, .int h0_nodes, .int h0_onesMany, .int h0_within, .int h0_top])), (aZ ca h0_isKept 2 F_h0_isKept), (aI ca h0_kept 752 F_h0_kept), (aI ca h0_now 376 f27_1), (aJ ca h0_keptName 38 F_h0_keptName), (aJ ca h0_name 19 F_h0_name)] → va_S A s.heap H locs → lv_has ls 3 [(0, .ref h0), (1, .int a1), (2, .int y27_0)] → W p l e ({ frames := 1, cells := 0, slots := 0, locals := 22 } : Room) s m ([.ref h0, .int a1] : List Value).toArray below meth c H locs 0 0 (MQ below ((oQi D (fun (r : Int32) (u : Int32 × (Nat → Int32) × (Nat → Int64)) => ((r = 0) ∧ (rg 0 8 u.1) ∧ (sg 0 1 0 10 u.2.1) ∧ (sg 1 2 0 4 u.2.1) ∧ (sg 2 3 0 5 u.2.1) ∧ (sg 35 36 0 1023 u.2.1) ∧ (sg 44 49 0 3 u.2.1) ∧ (sg 90 91 0 1023 u.2.1) ∧ (eqs 0 376 u.2.1 F_h0_now) ∧ (rl 0 h0_snapMany u.1) ∧ (rl 0 u.1 h0_snapMany)) ∨ ((r = 1) ∧ (rg 0 0 u.1) ∧ (rg 0 1 a1) ∧ (rl 1 u.1 r) ∧ (rl (-1) r u.1))) (fun (u : Int32 × (Nat → Int32) × (Nat → Int64)) => [(h0, .inr (11, [.int 0, .ref h0_tape, .int h0_taped, .int h0_size, .int h0_limit, .int h0_to, .int h0_from, .int h0_kind, .int h0_number, .int h0_sign, .int h0_fault, .int h0_place, .long h0_word, .int h0_told, .ref h0_now, .ref h0_read, .ref h0_kept, .ref h0_snaps, .ref h0_aside, .ref h0_name, .ref h0_readName, .ref h0_keptName, .ref h0_isKept, .ref h0_onces, .int u.1, .int h0_lowest, .int h0_highest, .int h0_agreed, .int h0_jurors, .int h0_panelled, .ref h0_inSets, .int h0_surely, .int h0_asked, .ref h0_frees, .int h0_struck, .int h0_beating, .ref h0_text, .int h0_texts, .int h0_seed, .ref h0_line, .ref h0_written, .int h0_lineMany, .int h0_hasWritten, .ref h0_node, .int h0_nodes, .int h0_onesMany, .int h0_within, .int h0_top])), (aZ ca h0_isKept 2 F_h0_isKept), (aI ca h0_kept 752 F_h0_kept), (aI ca h0_now 376 u.2.1), (aJ ca h0_keptName 38 F_h0_keptName), (aJ ca h0_name 19 u.2.2)])) A) ([.ref h0, .int a1] : List Value).toArray s 0 0 A) (F0 m 27 ls []) := by
    intro n
    induction n with
    | zero => intro y27_0 f27_1 _ hy27_0 t27_a1 hn; exact absurd hn (by have q9 := hy27_0.2; omega)
    | succ n ih =>
      intro y27_0 f27_1 _ hy27_0 t27_a1 hn H locs ls hP hD hS hl
      refine lv_iload_n hx hb dX12_restore_27 rfl (lv_at hl 2 rfl) ?_
      refine lv_sipush (v := 376) hx hb dX12_restore_28 (by decide) ?_
      refine lv_icmp_ge (tgt := 58) hx hb dX12_restore_31 (by decide) (fun c_379 => ?_) (fun c_379 => ?_)
      · skip
        have o_380 : rl 0 376 y27_0 := rl_le c_379
        have h_381 : rg 376 376 y27_0 := rl_y o_380 (⟨by decide, by decide⟩ : rg 376 376 (376 : Int32)) hy27_0 (by decide) (by decide)
        refine lv_iconst (v := 0) hx hb dX12_restore_58 (by decide) ?_
        refine lv_istore_n (lv' := [(2, .int 0), (0, .ref h0), (1, .int a1)]) hx hb dX12_restore_59 rfl hl (by decide) rfl (fun ls hl => ?_)
        exact J60_329 20 0 f27_1 F_h0_name trivial (⟨by decide, by decide⟩ : rg 0 19 (0 : Int32)) t27_a1 (by have q0 := (⟨by decide, by decide⟩ : rg 0 0 (0 : Int32)).1; omega) H locs ls (oPsub hP [0, 1, 2, 3, 4, 5] rfl) (hD.sub [0, 1, 2, 3, 4, 5] (by decide) rfl) hS (lv_sub hl [1, 2, 0] rfl)
      · skip
        have o_382 : rl 1 y27_0 376 := rl_nle c_379
        have h_383 : rg 0 375 y27_0 := rl_x o_382 hy27_0 (⟨by decide, by decide⟩ : rg 376 376 (376 : Int32)) (by decide) (by decide)
        refine lv_aload_n hx hb dX12_restore_34 rfl (lv_at hl 0 rfl) ?_
        refine va_get (D := D) (ci := 11) (v := .ref h0_now) (C := RX12) (T := TX12) (N := 48) hx hb hts k2 hown hK.1 hP 0 rfl rfl 14 (by decide) k5 (fun _ h9 => h9) rfl dX12_restore_35 ?_
        refine lv_iload_n hx hb dX12_restore_38 rfl (lv_at hl 2 rfl) ?_
        refine lv_aload_n hx hb dX12_restore_39 rfl (lv_at hl 0 rfl) ?_
        refine va_get (D := D) (ci := 11) (v := .ref h0_kept) (C := RX12) (T := TX12) (N := 48) hx hb hts k2 hown hK.1 hP 0 rfl rfl 16 (by decide) k6 (fun _ h9 => h9) rfl dX12_restore_40 ?_
        refine lv_sipush (v := 376) hx hb dX12_restore_43 (by decide) ?_
        refine lv_iload_n hx hb dX12_restore_46 rfl (lv_at hl 1 rfl) ?_
        refine lv_imul hx hb dX12_restore_47 ?_
        refine lv_topi (fun x_384 ex_384 => ?_)
        have h_385 : rg 0 376 x_384 := by rw [ex_384]; exact rg_mul' (k := 376) t27_a1 (by decide) (by decide) (by decide) (by decide) (by decide) (by decide)
        have l_386 : lq x_384.toInt (376 * a1.toInt) := lqm (by rw [ex_384]; have q := tmul' (k := 376) (y := 376) t27_a1 (by decide) (by decide) (by decide) (by decide); omega)
        refine lv_iload_n hx hb dX12_restore_48 rfl (lv_at hl 2 rfl) ?_
        refine lv_iadd hx hb dX12_restore_49 ?_
        refine lv_topi (fun x_387 ex_387 => ?_)
        have h_388 : rg 0 751 x_387 := by rw [ex_387]; exact rg_add h_385 h_383 (by decide) (by decide) (by decide) (by decide)
        have l_389 : lq x_387.toInt (376 * a1.toInt + y27_0.toInt) := lqm (by rw [ex_387]; have q := tadd h_385 h_383 (by decide) (by decide); have r0 := lqe l_386; omega)
        refine va_iald hx hb hK.1 hP 2 0 rfl rfl (rg_in h_388 (by decide) (by decide)) dX12_restore_50 ?_
        refine lv_topi (fun x_390 ex_390 => ?_)
        refine va_iast hx hb hK.1 hP hD hS 3 0 rfl rfl (rg_in h_383 (by decide) (by decide)) dX12_restore_51 (fun H locs hP hD hS => ?_)
        obtain ⟨g_391, eg_391⟩ : ∃ y : Nat → Int32, y = upd f27_1 (y27_0 : Int32).toNatClampNeg (x_390 : Int32) := ⟨_, rfl⟩
        rw [← eg_391] at hP hD
        have hP : va_P D vwCl [(h0, .inr (11, [.int 0, .ref h0_tape, .int h0_taped, .int h0_size, .int h0_limit, .int h0_to, .int h0_from, .int h0_kind, .int h0_number, .int h0_sign, .int h0_fault, .int h0_place, .long h0_word, .int h0_told, .ref h0_now, .ref h0_read, .ref h0_kept, .ref h0_snaps, .ref h0_aside, .ref h0_name, .ref h0_readName, .ref h0_keptName, .ref h0_isKept, .ref h0_onces, .int h0_snapMany, .int h0_lowest, .int h0_highest, .int h0_agreed, .int h0_jurors, .int h0_panelled, .ref h0_inSets, .int h0_surely, .int h0_asked, .ref h0_frees, .int h0_struck, .int h0_beating, .ref h0_text, .int h0_texts, .int h0_seed, .ref h0_line, .ref h0_written, .int h0_lineMany, .int h0_hasWritten, .ref h0_node, .int h0_nodes, .int h0_onesMany, .int h0_within, .int h0_top])), (aZ ca h0_isKept 2 F_h0_isKept), (aI ca h0_kept 752 F_h0_kept), (aI ca h0_now 376 g_391), (aJ ca h0_keptName 38 F_h0_keptName), (aJ ca h0_name 19 F_h0_name)] H := hP
        have hD : va_D A [(h0, .inr (11, [.int 0, .ref h0_tape, .int h0_taped, .int h0_size, .int h0_limit, .int h0_to, .int h0_from, .int h0_kind, .int h0_number, .int h0_sign, .int h0_fault, .int h0_place, .long h0_word, .int h0_told, .ref h0_now, .ref h0_read, .ref h0_kept, .ref h0_snaps, .ref h0_aside, .ref h0_name, .ref h0_readName, .ref h0_keptName, .ref h0_isKept, .ref h0_onces, .int h0_snapMany, .int h0_lowest, .int h0_highest, .int h0_agreed, .int h0_jurors, .int h0_panelled, .ref h0_inSets, .int h0_surely, .int h0_asked, .ref h0_frees, .int h0_struck, .int h0_beating, .ref h0_text, .int h0_texts, .int h0_seed, .ref h0_line, .ref h0_written, .int h0_lineMany, .int h0_hasWritten, .ref h0_node, .int h0_nodes, .int h0_onesMany, .int h0_within, .int h0_top])), (aZ ca h0_isKept 2 F_h0_isKept), (aI ca h0_kept 752 F_h0_kept), (aI ca h0_now 376 g_391), (aJ ca h0_keptName 38 F_h0_keptName), (aJ ca h0_name 19 F_h0_name)] := hD
        obtain ⟨x_392, ex_392⟩ : ∃ y : Int32, y = y27_0 + 1 := ⟨_, rfl⟩
        have h_393 : rg 1 376 x_392 := by rw [ex_392]; exact rg_add h_383 (⟨by decide, by decide⟩ : rg 1 1 (1 : Int32)) (by decide) (by decide) (by decide) (by decide)
        have l_394 : lq x_392.toInt (y27_0.toInt + 1) := lqm (by rw [ex_392]; have q := tadd h_383 (⟨by decide, by decide⟩ : rg 1 1 (1 : Int32)) (by decide) (by decide); have r1 := lqe (lqm (by decide) : lq (1 : Int32).toInt 1); omega)
        refine lv_iinc (v := x_392) (lv' := [(2, .int x_392), (0, .ref h0), (1, .int a1)]) hx hb dX12_restore_52 hl (k := 2) rfl (by rw [ex_392]; rfl) (by decide) rfl (fun ls hl => ?_)
        refine lv_goto (tgt := 27) hx hb dX12_restore_55 (by decide) ?_
        exact ih x_392 g_391 trivial (rgw (lo := 0) (hi := 376) h_393 (by decide) (by decide)) t27_a1 (by have q0 := lqe l_394; omega) H locs ls (oPsub hP [0, 1, 2, 3, 4, 5] rfl) (hD.sub [0, 1, 2, 3, 4, 5] (by decide) rfl) hS (lv_sub hl [1, 2, 0] rfl)
  refine lv_aload_n hx hb dX12_restore_0 rfl (lv_at hl 0 rfl) ?_
  refine lv_iconst (v := 0) hx hb dX12_restore_1 (by decide) ?_
  refine va_put (D := D) (ci := 11) (v := .int 0) (ty := .int) (C := RX12) (T := TX12) (N := 48) hx hb hts k2 tyX12 tyX12_ok nmX12 hown hK.1 hP hD hS 0 rfl rfl 0 (by decide) k7 (fun _ h9 => h9) rfl (by decide +kernel) rfl rfl (Nat.le_of_ble_eq_true rfl) dX12_restore_2 (fun H locs hP hD hS => ?_)
  have hP : va_P D vwCl [(h0, .inr (11, [.int 0, .ref h0_tape, .int h0_taped, .int h0_size, .int h0_limit, .int h0_to, .int h0_from, .int h0_kind, .int h0_number, .int h0_sign, .int h0_fault, .int h0_place, .long h0_word, .int h0_told, .ref h0_now, .ref h0_read, .ref h0_kept, .ref h0_snaps, .ref h0_aside, .ref h0_name, .ref h0_readName, .ref h0_keptName, .ref h0_isKept, .ref h0_onces, .int h0_snapMany, .int h0_lowest, .int h0_highest, .int h0_agreed, .int h0_jurors, .int h0_panelled, .ref h0_inSets, .int h0_surely, .int h0_asked, .ref h0_frees, .int h0_struck, .int h0_beating, .ref h0_text, .int h0_texts, .int h0_seed, .ref h0_line, .ref h0_written, .int h0_lineMany, .int h0_hasWritten, .ref h0_node, .int h0_nodes, .int h0_onesMany, .int h0_within, .int h0_top])), (aZ ca h0_isKept 2 F_h0_isKept), (aI ca h0_kept 752 F_h0_kept), (aI ca h0_now 376 F_h0_now), (aJ ca h0_keptName 38 F_h0_keptName), (aJ ca h0_name 19 F_h0_name)] H := hP
  have hD : va_D A [(h0, .inr (11, [.int 0, .ref h0_tape, .int h0_taped, .int h0_size, .int h0_limit, .int h0_to, .int h0_from, .int h0_kind, .int h0_number, .int h0_sign, .int h0_fault, .int h0_place, .long h0_word, .int h0_told, .ref h0_now, .ref h0_read, .ref h0_kept, .ref h0_snaps, .ref h0_aside, .ref h0_name, .ref h0_readName, .ref h0_keptName, .ref h0_isKept, .ref h0_onces, .int h0_snapMany, .int h0_lowest, .int h0_highest, .int h0_agreed, .int h0_jurors, .int h0_panelled, .ref h0_inSets, .int h0_surely, .int h0_asked, .ref h0_frees, .int h0_struck, .int h0_beating, .ref h0_text, .int h0_texts, .int h0_seed, .ref h0_line, .ref h0_written, .int h0_lineMany, .int h0_hasWritten, .ref h0_node, .int h0_nodes, .int h0_onesMany, .int h0_within, .int h0_top])), (aZ ca h0_isKept 2 F_h0_isKept), (aI ca h0_kept 752 F_h0_kept), (aI ca h0_now 376 F_h0_now), (aJ ca h0_keptName 38 F_h0_keptName), (aJ ca h0_name 19 F_h0_name)] := hD
  refine lv_iload_n hx hb dX12_restore_5 rfl (lv_at hl 1 rfl) ?_
  refine lv_iconst (v := 0) hx hb dX12_restore_6 (by decide) ?_
  refine lv_iconst (v := 1) hx hb dX12_restore_7 (by decide) ?_
  refine oC_i (Wc := []) (Wr := [(h0, .inr (11, [.int 0, .ref h0_tape, .int h0_taped, .int h0_size, .int h0_limit, .int h0_to, .int h0_from, .int h0_kind, .int h0_number, .int h0_sign, .int h0_fault, .int h0_place, .long h0_word, .int h0_told, .ref h0_now, .ref h0_read, .ref h0_kept, .ref h0_snaps, .ref h0_aside, .ref h0_name, .ref h0_readName, .ref h0_keptName, .ref h0_isKept, .ref h0_onces, .int h0_snapMany, .int h0_lowest, .int h0_highest, .int h0_agreed, .int h0_jurors, .int h0_panelled, .ref h0_inSets, .int h0_surely, .int h0_asked, .ref h0_frees, .int h0_struck, .int h0_beating, .ref h0_text, .int h0_texts, .int h0_seed, .ref h0_line, .ref h0_written, .int h0_lineMany, .int h0_hasWritten, .ref h0_node, .int h0_nodes, .int h0_onesMany, .int h0_within, .int h0_top])), (aZ ca h0_isKept 2 F_h0_isKept), (aI ca h0_kept 752 F_h0_kept), (aI ca h0_now 376 F_h0_now), (aJ ca h0_keptName 38 F_h0_keptName), (aJ ca h0_name 19 F_h0_name)]) (va_runS (As := [.int a1, .int 0, .int 1]) (rest := []) ⟨hx, hb, hml, hown, hts⟩ (s_X12_isIn l D ca H.size a1 0 1) (va_cwS 3 hts gX12_restore_X12_isIn rfl rfl rfl (by decide +kernel) ⟨Nat.le_of_ble_eq_true rfl, Nat.le_of_ble_eq_true rfl⟩) (oPS hK hP hD [] rfl (by decide)) rfl rfl hl.1 rfl (lv_room (Nat.le_of_ble_eq_true rfl)) dX12_restore_8 ⟨Nat.le_of_ble_eq_true rfl, Nat.le_of_ble_eq_true rfl⟩) hP hD hS hA [] [0, 1, 2, 3, 4, 5] rfl rfl (by decide) (by decide) (fun r_395 u H locs w_396 hP hD hS => ?_)
  obtain ⟨⟩ := u
  have hP : va_P D vwCl [(h0, .inr (11, [.int 0, .ref h0_tape, .int h0_taped, .int h0_size, .int h0_limit, .int h0_to, .int h0_from, .int h0_kind, .int h0_number, .int h0_sign, .int h0_fault, .int h0_place, .long h0_word, .int h0_told, .ref h0_now, .ref h0_read, .ref h0_kept, .ref h0_snaps, .ref h0_aside, .ref h0_name, .ref h0_readName, .ref h0_keptName, .ref h0_isKept, .ref h0_onces, .int h0_snapMany, .int h0_lowest, .int h0_highest, .int h0_agreed, .int h0_jurors, .int h0_panelled, .ref h0_inSets, .int h0_surely, .int h0_asked, .ref h0_frees, .int h0_struck, .int h0_beating, .ref h0_text, .int h0_texts, .int h0_seed, .ref h0_line, .ref h0_written, .int h0_lineMany, .int h0_hasWritten, .ref h0_node, .int h0_nodes, .int h0_onesMany, .int h0_within, .int h0_top])), (aZ ca h0_isKept 2 F_h0_isKept), (aI ca h0_kept 752 F_h0_kept), (aI ca h0_now 376 F_h0_now), (aJ ca h0_keptName 38 F_h0_keptName), (aJ ca h0_name 19 F_h0_name)] H := hP
  have hD : va_D A [(h0, .inr (11, [.int 0, .ref h0_tape, .int h0_taped, .int h0_size, .int h0_limit, .int h0_to, .int h0_from, .int h0_kind, .int h0_number, .int h0_sign, .int h0_fault, .int h0_place, .long h0_word, .int h0_told, .ref h0_now, .ref h0_read, .ref h0_kept, .ref h0_snaps, .ref h0_aside, .ref h0_name, .ref h0_readName, .ref h0_keptName, .ref h0_isKept, .ref h0_onces, .int h0_snapMany, .int h0_lowest, .int h0_highest, .int h0_agreed, .int h0_jurors, .int h0_panelled, .ref h0_inSets, .int h0_surely, .int h0_asked, .ref h0_frees, .int h0_struck, .int h0_beating, .ref h0_text, .int h0_texts, .int h0_seed, .ref h0_line, .ref h0_written, .int h0_lineMany, .int h0_hasWritten, .ref h0_node, .int h0_nodes, .int h0_onesMany, .int h0_within, .int h0_top])), (aZ ca h0_isKept 2 F_h0_isKept), (aI ca h0_kept 752 F_h0_kept), (aI ca h0_now 376 F_h0_now), (aJ ca h0_keptName 38 F_h0_keptName), (aJ ca h0_name 19 F_h0_name)] := hD
  try dsimp only at w_396
  rcases w_396 with h_397 | ⟨h_398, h_399, h_400⟩
  · skip
    subst h_397
    refine lv_if_eq (tgt := 23) hx hb dX12_restore_11 (by decide) (fun _ => ?_) (fun c => absurd (by decide) c)
    refine lv_iconst (v := 0) hx hb dX12_restore_23 (by decide) ?_
    exact oE_i hx hb hr (by decide) hlocks hP hD hS (h0_snapMany, F_h0_now, F_h0_name) [0, 1, 2, 3, 4, 5] rfl (by decide) (Or.inl ⟨rfl, i_h0_snapMany, s_h0_now_0, s_h0_now_1, s_h0_now_2, s_h0_now_3, s_h0_now_4, s_h0_now_5, (eqs_rf (a := 0) (b := 376) F_h0_now), (show rl 0 h0_snapMany h0_snapMany from rlm (by omega)), (show rl 0 h0_snapMany h0_snapMany from rlm (by omega))⟩) (Nat.le_of_ble_eq_true rfl) (Nat.le_of_ble_eq_true rfl) dX12_restore_24
  · skip
    subst h_398
    have h_401 : rg 0 2147483647 a1 := rl_y h_399 (⟨by decide, by decide⟩ : rg 0 0 (0 : Int32)) (rga a1) (by decide) (by decide)
    have h_402 : rg 0 1 a1 := rl_x h_400 h_401 (⟨by decide, by decide⟩ : rg 1 1 (1 : Int32)) (by decide) (by decide)
    refine lv_if_eq (tgt := 23) hx hb dX12_restore_11 (by decide) (fun c => absurd c (by decide)) (fun _ => ?_)
    refine lv_aload_n hx hb dX12_restore_14 rfl (lv_at hl 0 rfl) ?_
    refine va_get (D := D) (ci := 11) (v := .ref h0_isKept) (C := RX12) (T := TX12) (N := 48) hx hb hts k2 hown hK.1 hP 0 rfl rfl 22 (by decide) k8 (fun _ h9 => h9) rfl dX12_restore_15 ?_
    refine lv_iload_n hx hb dX12_restore_18 rfl (lv_at hl 1 rfl) ?_
    refine va_zald hx hb hK.1 hP 1 2 rfl rfl (rg_in h_402 (by decide) (by decide)) dX12_restore_19 ?_
    refine lv_topi (fun x_403 ex_403 => ?_)
    refine lv_if_ne (tgt := 25) hx hb dX12_restore_20 (by decide) (fun c_404 => ?_) (fun c_404 => ?_)
    · skip
      refine lv_iconst (v := 0) hx hb dX12_restore_25 (by decide) ?_
      refine lv_istore_n (lv' := [(2, .int 0), (0, .ref h0), (1, .int a1)]) hx hb dX12_restore_26 rfl hl (by decide) rfl (fun ls hl => ?_)
      exact J27_362 377 0 F_h0_now trivial (⟨by decide, by decide⟩ : rg 0 376 (0 : Int32)) h_402 (by have q0 := (⟨by decide, by decide⟩ : rg 0 0 (0 : Int32)).1; omega) H locs ls (oPsub hP [0, 1, 2, 3, 4, 5] rfl) (hD.sub [0, 1, 2, 3, 4, 5] (by decide) rfl) hS (lv_sub hl [1, 2, 0] rfl)
    · skip
      have o_405 : rl 0 x_403 0 := rl_eq c_404
      have h_406 : rg (-2147483648) 0 x_403 := rl_x o_405 (rga x_403) (⟨by decide, by decide⟩ : rg 0 0 (0 : Int32)) (by decide) (by decide)
      have o_407 : rl 0 0 x_403 := rl_eq c_404.symm
      have h_408 : rg 0 0 x_403 := rl_y o_407 (⟨by decide, by decide⟩ : rg 0 0 (0 : Int32)) h_406 (by decide) (by decide)
      refine lv_iconst (v := 0) hx hb dX12_restore_23 (by decide) ?_
      exact oE_i hx hb hr (by decide) hlocks hP hD hS (h0_snapMany, F_h0_now, F_h0_name) [0, 1, 2, 3, 4, 5] rfl (by decide) (Or.inl ⟨rfl, i_h0_snapMany, s_h0_now_0, s_h0_now_1, s_h0_now_2, s_h0_now_3, s_h0_now_4, s_h0_now_5, (eqs_rf (a := 0) (b := 376) F_h0_now), (show rl 0 h0_snapMany h0_snapMany from rlm (by omega)), (show rl 0 h0_snapMany h0_snapMany from rlm (by omega))⟩) (Nat.le_of_ble_eq_true rfl) (Nat.le_of_ble_eq_true rfl) dX12_restore_24
theorem dX12_count_0 : decode cX12_count 0 = .ok (.aload_n 0, 1) := by decide +kernel
theorem dX12_count_1 : decode cX12_count 1 = .ok (.iconst 0, 1) := by decide +kernel
theorem dX12_count_2 : decode cX12_count 2 = .ok (.putfield 1, 3) := by decide +kernel
theorem dX12_count_5 : decode cX12_count 5 = .ok (.iload_n 1, 1) := by decide +kernel
theorem dX12_count_6 : decode cX12_count 6 = .ok (.tableswitch 78 0 5 #[38, 45, 52, 59, 66, 73], 38) := by decide +kernel
theorem dX12_count_44 : decode cX12_count 44 = .ok (.aload_n 0, 1) := by decide +kernel
theorem dX12_count_45 : decode cX12_count 45 = .ok (.getfield 98, 3) := by decide +kernel
theorem dX12_count_48 : decode cX12_count 48 = .ok (.iconst 0, 1) := by decide +kernel
theorem dX12_count_49 : decode cX12_count 49 = .ok (.iaload, 1) := by decide +kernel
theorem dX12_count_50 : decode cX12_count 50 = .ok (.ireturn, 1) := by decide +kernel
theorem dX12_count_51 : decode cX12_count 51 = .ok (.aload_n 0, 1) := by decide +kernel
theorem dX12_count_52 : decode cX12_count 52 = .ok (.getfield 98, 3) := by decide +kernel
theorem dX12_count_55 : decode cX12_count 55 = .ok (.iconst 1, 1) := by decide +kernel
theorem dX12_count_56 : decode cX12_count 56 = .ok (.iaload, 1) := by decide +kernel
theorem dX12_count_57 : decode cX12_count 57 = .ok (.ireturn, 1) := by decide +kernel
theorem dX12_count_58 : decode cX12_count 58 = .ok (.aload_n 0, 1) := by decide +kernel
theorem dX12_count_59 : decode cX12_count 59 = .ok (.getfield 98, 3) := by decide +kernel
theorem dX12_count_62 : decode cX12_count 62 = .ok (.iconst 2, 1) := by decide +kernel
theorem dX12_count_63 : decode cX12_count 63 = .ok (.iaload, 1) := by decide +kernel
theorem dX12_count_64 : decode cX12_count 64 = .ok (.ireturn, 1) := by decide +kernel
theorem dX12_count_65 : decode cX12_count 65 = .ok (.aload_n 0, 1) := by decide +kernel
theorem dX12_count_66 : decode cX12_count 66 = .ok (.getfield 98, 3) := by decide +kernel
theorem dX12_count_69 : decode cX12_count 69 = .ok (.iconst 3, 1) := by decide +kernel
theorem dX12_count_70 : decode cX12_count 70 = .ok (.iaload, 1) := by decide +kernel
theorem dX12_count_71 : decode cX12_count 71 = .ok (.ireturn, 1) := by decide +kernel
theorem dX12_count_72 : decode cX12_count 72 = .ok (.aload_n 0, 1) := by decide +kernel
theorem dX12_count_73 : decode cX12_count 73 = .ok (.getfield 98, 3) := by decide +kernel
theorem dX12_count_76 : decode cX12_count 76 = .ok (.iconst 4, 1) := by decide +kernel
theorem dX12_count_77 : decode cX12_count 77 = .ok (.iaload, 1) := by decide +kernel
theorem dX12_count_78 : decode cX12_count 78 = .ok (.ireturn, 1) := by decide +kernel
theorem dX12_count_79 : decode cX12_count 79 = .ok (.aload_n 0, 1) := by decide +kernel
theorem dX12_count_80 : decode cX12_count 80 = .ok (.getfield 11, 3) := by decide +kernel
theorem dX12_count_83 : decode cX12_count 83 = .ok (.ireturn, 1) := by decide +kernel
theorem dX12_count_84 : decode cX12_count 84 = .ok (.iconst (-1), 1) := by decide +kernel
theorem dX12_count_85 : decode cX12_count 85 = .ok (.ireturn, 1) := by decide +kernel
set_option maxHeartbeats 4000000 in
set_option maxRecDepth 100000 in
theorem s_X12_count (l : Launch) (D : va_G) (ca : Nat → ClassId) (sz : Nat) (h0 : Nat) (a1 : Int32) (h0_thrown : Int32) (h0_tape : Nat) (h0_taped : Int32) (h0_size : Int32) (h0_limit : Int32) (h0_to : Int32) (h0_from : Int32) (h0_kind : Int32) (h0_number : Int32) (h0_sign : Int32) (h0_fault : Int32) (h0_place : Int32) (h0_word : Int64) (h0_told : Int32) (h0_now : Nat) (h0_read : Nat) (h0_kept : Nat) (h0_snaps : Nat) (h0_aside : Nat) (h0_name : Nat) (h0_readName : Nat) (h0_keptName : Nat) (h0_isKept : Nat) (h0_onces : Nat) (h0_snapMany : Int32) (h0_lowest : Int32) (h0_highest : Int32) (h0_agreed : Int32) (h0_jurors : Int32) (h0_panelled : Int32) (h0_inSets : Nat) (h0_surely : Int32) (h0_asked : Int32) (h0_frees : Nat) (h0_struck : Int32) (h0_beating : Int32) (h0_text : Nat) (h0_texts : Int32) (h0_seed : Int32) (h0_line : Nat) (h0_written : Nat) (h0_lineMany : Int32) (h0_hasWritten : Int32) (h0_node : Nat) (h0_nodes : Int32) (h0_onesMany : Int32) (h0_within : Int32) (h0_top : Int32) (F_h0_now : Nat → Int32) (i_h0_taped : rg 0 940 h0_taped) (i_h0_size : rg 0 940 h0_size) (i_h0_to : rg 0 940 h0_to) (i_h0_snapMany : rg 0 8 h0_snapMany) (i_h0_texts : rg 0 64 h0_texts) (i_h0_lineMany : rg 0 40 h0_lineMany) (i_h0_hasWritten : rg 0 1 h0_hasWritten) (s_h0_now_0 : sg 0 1 0 10 F_h0_now) (s_h0_now_1 : sg 1 2 0 4 F_h0_now) (s_h0_now_2 : sg 2 3 0 5 F_h0_now) (s_h0_now_3 : sg 35 36 0 1023 F_h0_now) (s_h0_now_4 : sg 44 49 0 3 F_h0_now) (s_h0_now_5 : sg 90 91 0 1023 F_h0_now) : oMet l yX12_count wsX12_count ({ frames := 0, cells := 0, slots := 0, locals := 0 } : Room) [.ref h0, .int a1] D ca sz [(h0, .inr (11, [.int h0_thrown, .ref h0_tape, .int h0_taped, .int h0_size, .int h0_limit, .int h0_to, .int h0_from, .int h0_kind, .int h0_number, .int h0_sign, .int h0_fault, .int h0_place, .long h0_word, .int h0_told, .ref h0_now, .ref h0_read, .ref h0_kept, .ref h0_snaps, .ref h0_aside, .ref h0_name, .ref h0_readName, .ref h0_keptName, .ref h0_isKept, .ref h0_onces, .int h0_snapMany, .int h0_lowest, .int h0_highest, .int h0_agreed, .int h0_jurors, .int h0_panelled, .ref h0_inSets, .int h0_surely, .int h0_asked, .ref h0_frees, .int h0_struck, .int h0_beating, .ref h0_text, .int h0_texts, .int h0_seed, .ref h0_line, .ref h0_written, .int h0_lineMany, .int h0_hasWritten, .ref h0_node, .int h0_nodes, .int h0_onesMany, .int h0_within, .int h0_top])), (aI ca h0_now 376 F_h0_now)] (oQi D (fun (r : Int32) (u : Unit) => True) (fun (u : Unit) => [(h0, .inr (11, [.int 0, .ref h0_tape, .int h0_taped, .int h0_size, .int h0_limit, .int h0_to, .int h0_from, .int h0_kind, .int h0_number, .int h0_sign, .int h0_fault, .int h0_place, .long h0_word, .int h0_told, .ref h0_now, .ref h0_read, .ref h0_kept, .ref h0_snaps, .ref h0_aside, .ref h0_name, .ref h0_readName, .ref h0_keptName, .ref h0_isKept, .ref h0_onces, .int h0_snapMany, .int h0_lowest, .int h0_highest, .int h0_agreed, .int h0_jurors, .int h0_panelled, .ref h0_inSets, .int h0_surely, .int h0_asked, .ref h0_frees, .int h0_struck, .int h0_beating, .ref h0_text, .int h0_texts, .int h0_seed, .ref h0_line, .ref h0_written, .int h0_lineMany, .int h0_hasWritten, .ref h0_node, .int h0_nodes, .int h0_onesMany, .int h0_within, .int h0_top])), (aI ca h0_now 376 F_h0_now)])) 0 0 := by
  refine oM (cc := cX12_count) (maxL := 2) (ret := (some .int)) (by decide) rfl (Nat.le_of_ble_eq_true rfl) [(0, .ref h0), (1, .int a1)] rfl ?_
  intro p e s m below meth c A H locs ls hx hb hr hml hts hown hlocks hin hK hP hD hA hS hl
  have hown : s.vm.findClass RX12 = some m.cls := hown
  have k1 := hts (.fieldLink RX12 1 "LidCourtModel" "thrown" "I") (by decide +kernel)
  have k2 : ∀ w ∈ wsX120, w ∈ wsX12_count := fun _ h => List.mem_cons_of_mem _ (List.mem_append_right _ h)
  have k3 := hts (.fieldLink RX12 98 "LidCourtModel" "now" "[I") (by decide +kernel)
  have k4 := hts (.fieldLink RX12 11 "LidCourtModel" "taped" "I") (by decide +kernel)
  refine lv_aload_n hx hb dX12_count_0 rfl (lv_at hl 0 rfl) ?_
  refine lv_iconst (v := 0) hx hb dX12_count_1 (by decide) ?_
  refine va_put (D := D) (ci := 11) (v := .int 0) (ty := .int) (C := RX12) (T := TX12) (N := 48) hx hb hts k2 tyX12 tyX12_ok nmX12 hown hK.1 hP hD hS 0 rfl rfl 0 (by decide) k1 (fun _ h9 => h9) rfl (by decide +kernel) rfl rfl (Nat.le_of_ble_eq_true rfl) dX12_count_2 (fun H locs hP hD hS => ?_)
  have hP : va_P D vwCl [(h0, .inr (11, [.int 0, .ref h0_tape, .int h0_taped, .int h0_size, .int h0_limit, .int h0_to, .int h0_from, .int h0_kind, .int h0_number, .int h0_sign, .int h0_fault, .int h0_place, .long h0_word, .int h0_told, .ref h0_now, .ref h0_read, .ref h0_kept, .ref h0_snaps, .ref h0_aside, .ref h0_name, .ref h0_readName, .ref h0_keptName, .ref h0_isKept, .ref h0_onces, .int h0_snapMany, .int h0_lowest, .int h0_highest, .int h0_agreed, .int h0_jurors, .int h0_panelled, .ref h0_inSets, .int h0_surely, .int h0_asked, .ref h0_frees, .int h0_struck, .int h0_beating, .ref h0_text, .int h0_texts, .int h0_seed, .ref h0_line, .ref h0_written, .int h0_lineMany, .int h0_hasWritten, .ref h0_node, .int h0_nodes, .int h0_onesMany, .int h0_within, .int h0_top])), (aI ca h0_now 376 F_h0_now)] H := hP
  have hD : va_D A [(h0, .inr (11, [.int 0, .ref h0_tape, .int h0_taped, .int h0_size, .int h0_limit, .int h0_to, .int h0_from, .int h0_kind, .int h0_number, .int h0_sign, .int h0_fault, .int h0_place, .long h0_word, .int h0_told, .ref h0_now, .ref h0_read, .ref h0_kept, .ref h0_snaps, .ref h0_aside, .ref h0_name, .ref h0_readName, .ref h0_keptName, .ref h0_isKept, .ref h0_onces, .int h0_snapMany, .int h0_lowest, .int h0_highest, .int h0_agreed, .int h0_jurors, .int h0_panelled, .ref h0_inSets, .int h0_surely, .int h0_asked, .ref h0_frees, .int h0_struck, .int h0_beating, .ref h0_text, .int h0_texts, .int h0_seed, .ref h0_line, .ref h0_written, .int h0_lineMany, .int h0_hasWritten, .ref h0_node, .int h0_nodes, .int h0_onesMany, .int h0_within, .int h0_top])), (aI ca h0_now 376 F_h0_now)] := hD
  refine lv_iload_n hx hb dX12_count_5 rfl (lv_at hl 1 rfl) ?_
  by_cases c_15 : a1 = 0
  · skip
    refine oti 0 c_15 ?_
    refine lv_tableIn (off := 38) (tgt := 44) hx hb dX12_count_6 (by decide) (by decide) (by decide) (by decide) ?_
    refine lv_aload_n hx hb dX12_count_44 rfl (lv_at hl 0 rfl) ?_
    refine va_get (D := D) (ci := 11) (v := .ref h0_now) (C := RX12) (T := TX12) (N := 48) hx hb hts k2 hown hK.1 hP 0 rfl rfl 14 (by decide) k3 (fun _ h9 => h9) rfl dX12_count_45 ?_
    refine lv_iconst (v := 0) hx hb dX12_count_48 (by decide) ?_
    refine va_iald hx hb hK.1 hP 1 0 rfl rfl (rg_in (⟨by decide, by decide⟩ : rg 0 0 (0 : Int32)) (by decide) (by decide)) dX12_count_49 ?_
    refine lv_topi (fun x_16 ex_16 => ?_)
    have h_17 : rg 0 10 x_16 := by rw [ex_16]; exact sg_at s_h0_now_0 (⟨by decide, by decide⟩ : rg 0 0 (0 : Int32)) (by decide) (by decide) (by decide)
    exact oE_i hx hb hr rfl hlocks hP hD hS () [0, 1] rfl (by decide) trivial (Nat.le_of_ble_eq_true rfl) (Nat.le_of_ble_eq_true rfl) dX12_count_50
  by_cases c_18 : a1 = 1
  · skip
    refine oti 1 c_18 ?_
    refine lv_tableIn (off := 45) (tgt := 51) hx hb dX12_count_6 (by decide) (by decide) (by decide) (by decide) ?_
    refine lv_aload_n hx hb dX12_count_51 rfl (lv_at hl 0 rfl) ?_
    refine va_get (D := D) (ci := 11) (v := .ref h0_now) (C := RX12) (T := TX12) (N := 48) hx hb hts k2 hown hK.1 hP 0 rfl rfl 14 (by decide) k3 (fun _ h9 => h9) rfl dX12_count_52 ?_
    refine lv_iconst (v := 1) hx hb dX12_count_55 (by decide) ?_
    refine va_iald hx hb hK.1 hP 1 0 rfl rfl (rg_in (⟨by decide, by decide⟩ : rg 1 1 (1 : Int32)) (by decide) (by decide)) dX12_count_56 ?_
    refine lv_topi (fun x_19 ex_19 => ?_)
    have h_20 : rg 0 4 x_19 := by rw [ex_19]; exact sg_at s_h0_now_1 (⟨by decide, by decide⟩ : rg 1 1 (1 : Int32)) (by decide) (by decide) (by decide)
    exact oE_i hx hb hr rfl hlocks hP hD hS () [0, 1] rfl (by decide) trivial (Nat.le_of_ble_eq_true rfl) (Nat.le_of_ble_eq_true rfl) dX12_count_57
  by_cases c_21 : a1 = 2
  · skip
    refine oti 2 c_21 ?_
    refine lv_tableIn (off := 52) (tgt := 58) hx hb dX12_count_6 (by decide) (by decide) (by decide) (by decide) ?_
    refine lv_aload_n hx hb dX12_count_58 rfl (lv_at hl 0 rfl) ?_
    refine va_get (D := D) (ci := 11) (v := .ref h0_now) (C := RX12) (T := TX12) (N := 48) hx hb hts k2 hown hK.1 hP 0 rfl rfl 14 (by decide) k3 (fun _ h9 => h9) rfl dX12_count_59 ?_
    refine lv_iconst (v := 2) hx hb dX12_count_62 (by decide) ?_
    refine va_iald hx hb hK.1 hP 1 0 rfl rfl (rg_in (⟨by decide, by decide⟩ : rg 2 2 (2 : Int32)) (by decide) (by decide)) dX12_count_63 ?_
    refine lv_topi (fun x_22 ex_22 => ?_)
    have h_23 : rg 0 5 x_22 := by rw [ex_22]; exact sg_at s_h0_now_2 (⟨by decide, by decide⟩ : rg 2 2 (2 : Int32)) (by decide) (by decide) (by decide)
    exact oE_i hx hb hr rfl hlocks hP hD hS () [0, 1] rfl (by decide) trivial (Nat.le_of_ble_eq_true rfl) (Nat.le_of_ble_eq_true rfl) dX12_count_64
  by_cases c_24 : a1 = 3
  · skip
    refine oti 3 c_24 ?_
    refine lv_tableIn (off := 59) (tgt := 65) hx hb dX12_count_6 (by decide) (by decide) (by decide) (by decide) ?_
    refine lv_aload_n hx hb dX12_count_65 rfl (lv_at hl 0 rfl) ?_
    refine va_get (D := D) (ci := 11) (v := .ref h0_now) (C := RX12) (T := TX12) (N := 48) hx hb hts k2 hown hK.1 hP 0 rfl rfl 14 (by decide) k3 (fun _ h9 => h9) rfl dX12_count_66 ?_
    refine lv_iconst (v := 3) hx hb dX12_count_69 (by decide) ?_
    refine va_iald hx hb hK.1 hP 1 0 rfl rfl (rg_in (⟨by decide, by decide⟩ : rg 3 3 (3 : Int32)) (by decide) (by decide)) dX12_count_70 ?_
    refine lv_topi (fun x_25 ex_25 => ?_)
    exact oE_i hx hb hr rfl hlocks hP hD hS () [0, 1] rfl (by decide) trivial (Nat.le_of_ble_eq_true rfl) (Nat.le_of_ble_eq_true rfl) dX12_count_71
  by_cases c_26 : a1 = 4
  · skip
    refine oti 4 c_26 ?_
    refine lv_tableIn (off := 66) (tgt := 72) hx hb dX12_count_6 (by decide) (by decide) (by decide) (by decide) ?_
    refine lv_aload_n hx hb dX12_count_72 rfl (lv_at hl 0 rfl) ?_
    refine va_get (D := D) (ci := 11) (v := .ref h0_now) (C := RX12) (T := TX12) (N := 48) hx hb hts k2 hown hK.1 hP 0 rfl rfl 14 (by decide) k3 (fun _ h9 => h9) rfl dX12_count_73 ?_
    refine lv_iconst (v := 4) hx hb dX12_count_76 (by decide) ?_
    refine va_iald hx hb hK.1 hP 1 0 rfl rfl (rg_in (⟨by decide, by decide⟩ : rg 4 4 (4 : Int32)) (by decide) (by decide)) dX12_count_77 ?_
    refine lv_topi (fun x_27 ex_27 => ?_)
    exact oE_i hx hb hr rfl hlocks hP hD hS () [0, 1] rfl (by decide) trivial (Nat.le_of_ble_eq_true rfl) (Nat.le_of_ble_eq_true rfl) dX12_count_78
  by_cases c_28 : a1 = 5
  · skip
    refine oti 5 c_28 ?_
    refine lv_tableIn (off := 73) (tgt := 79) hx hb dX12_count_6 (by decide) (by decide) (by decide) (by decide) ?_
    refine lv_aload_n hx hb dX12_count_79 rfl (lv_at hl 0 rfl) ?_
    refine va_get (D := D) (ci := 11) (v := .int h0_taped) (C := RX12) (T := TX12) (N := 48) hx hb hts k2 hown hK.1 hP 0 rfl rfl 2 (by decide) k4 (fun _ h9 => h9) rfl dX12_count_80 ?_
    exact oE_i hx hb hr rfl hlocks hP hD hS () [0, 1] rfl (by decide) trivial (Nat.le_of_ble_eq_true rfl) (Nat.le_of_ble_eq_true rfl) dX12_count_83
  have t0 := lv_neT c_15 (show (0 : Int32).toInt = 0 by decide)
  have t1 := lv_neT c_18 (show (1 : Int32).toInt = 1 by decide)
  have t2 := lv_neT c_21 (show (2 : Int32).toInt = 2 by decide)
  have t3 := lv_neT c_24 (show (3 : Int32).toInt = 3 by decide)
  have t4 := lv_neT c_26 (show (4 : Int32).toInt = 4 by decide)
  have t5 := lv_neT c_28 (show (5 : Int32).toInt = 5 by decide)
  have t97 := ((rga a1)).1
  have t98 := ((rga a1)).2
  refine lv_tableOut (tgt := 84) hx hb dX12_count_6 (by omega) (by decide) ?_
  refine lv_iconst (v := (-1)) hx hb dX12_count_84 (by decide) ?_
  exact oE_i hx hb hr rfl hlocks hP hD hS () [0, 1] rfl (by decide) trivial (Nat.le_of_ble_eq_true rfl) (Nat.le_of_ble_eq_true rfl) dX12_count_85
