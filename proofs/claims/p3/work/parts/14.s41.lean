theorem dX12_count_0 : decode cX12_count 0 = .ok (.aload_n 0, 1) := by decide +kernel
theorem dX12_count_1 : decode cX12_count 1 = .ok (.iconst 0, 1) := by decide +kernel
theorem dX12_count_2 : decode cX12_count 2 = .ok (.putfield 1, 3) := by decide +kernel
theorem dX12_count_5 : decode cX12_count 5 = .ok (.iload_n 1, 1) := by decide +kernel
theorem dX12_count_6 : decode cX12_count 6 = .ok (.tableswitch 78 0 5 #[38, 45, 52, 59, 66, 73], 38) := by decide +kernel
theorem dX12_count_44 : decode cX12_count 44 = .ok (.aload_n 0, 1) := by decide +kernel
theorem dX12_count_45 : decode cX12_count 45 = .ok (.getfield 98, 3) := by decide +kernel
theorem dX12_count_48 : decode cX12_count 48 = .ok (.iconst 0, 1) := by decide +kernel
theorem dX12_count_49 : decode cX12_count 49 = .ok (.iaload, 1) := by decide +kernel
theorem dX12_count_50 : decode cX12_count 50 = .ok (.ireturn, 1) := by decide +kernel
theorem dX12_count_51 : decode cX12_count 51 = .ok (.aload_n 0, 1) := by decide +kernel
theorem dX12_count_52 : decode cX12_count 52 = .ok (.getfield 98, 3) := by decide +kernel
theorem dX12_count_55 : decode cX12_count 55 = .ok (.iconst 1, 1) := by decide +kernel
theorem dX12_count_56 : decode cX12_count 56 = .ok (.iaload, 1) := by decide +kernel
theorem dX12_count_57 : decode cX12_count 57 = .ok (.ireturn, 1) := by decide +kernel
theorem dX12_count_58 : decode cX12_count 58 = .ok (.aload_n 0, 1) := by decide +kernel
theorem dX12_count_59 : decode cX12_count 59 = .ok (.getfield 98, 3) := by decide +kernel
theorem dX12_count_62 : decode cX12_count 62 = .ok (.iconst 2, 1) := by decide +kernel
theorem dX12_count_63 : decode cX12_count 63 = .ok (.iaload, 1) := by decide +kernel
theorem dX12_count_64 : decode cX12_count 64 = .ok (.ireturn, 1) := by decide +kernel
theorem dX12_count_65 : decode cX12_count 65 = .ok (.aload_n 0, 1) := by decide +kernel
theorem dX12_count_66 : decode cX12_count 66 = .ok (.getfield 98, 3) := by decide +kernel
theorem dX12_count_69 : decode cX12_count 69 = .ok (.iconst 3, 1) := by decide +kernel
theorem dX12_count_70 : decode cX12_count 70 = .ok (.iaload, 1) := by decide +kernel
theorem dX12_count_71 : decode cX12_count 71 = .ok (.ireturn, 1) := by decide +kernel
theorem dX12_count_72 : decode cX12_count 72 = .ok (.aload_n 0, 1) := by decide +kernel
theorem dX12_count_73 : decode cX12_count 73 = .ok (.getfield 98, 3) := by decide +kernel
theorem dX12_count_76 : decode cX12_count 76 = .ok (.iconst 4, 1) := by decide +kernel
theorem dX12_count_77 : decode cX12_count 77 = .ok (.iaload, 1) := by decide +kernel
theorem dX12_count_78 : decode cX12_count 78 = .ok (.ireturn, 1) := by decide +kernel
theorem dX12_count_79 : decode cX12_count 79 = .ok (.aload_n 0, 1) := by decide +kernel
theorem dX12_count_80 : decode cX12_count 80 = .ok (.getfield 11, 3) := by decide +kernel
theorem dX12_count_83 : decode cX12_count 83 = .ok (.ireturn, 1) := by decide +kernel
theorem dX12_count_84 : decode cX12_count 84 = .ok (.iconst (-1), 1) := by decide +kernel
theorem dX12_count_85 : decode cX12_count 85 = .ok (.ireturn, 1) := by decide +kernel
set_option maxHeartbeats 4000000 in
set_option maxRecDepth 100000 in
theorem s_X12_count (l : Launch) (D : va_G) (ca : Nat → ClassId) (sz : Nat) (h0 : Nat) (a1 : Int32) (h0_thrown : Int32) (h0_tape : Nat) (h0_taped : Int32) (h0_size : Int32) (h0_limit : Int32) (h0_to : Int32) (h0_from : Int32) (h0_kind : Int32) (h0_number : Int32) (h0_sign : Int32) (h0_fault : Int32) (h0_place : Int32) (h0_word : Int64) (h0_told : Int32) (h0_now : Nat) (h0_read : Nat) (h0_kept : Nat) (h0_snaps : Nat) (h0_aside : Nat) (h0_name : Nat) (h0_readName : Nat) (h0_keptName : Nat) (h0_isKept : Nat) (h0_onces : Nat) (h0_snapMany : Int32) (h0_lowest : Int32) (h0_highest : Int32) (h0_agreed : Int32) (h0_jurors : Int32) (h0_panelled : Int32) (h0_inSets : Nat) (h0_surely : Int32) (h0_asked : Int32) (h0_frees : Nat) (h0_struck : Int32) (h0_beating : Int32) (h0_text : Nat) (h0_texts : Int32) (h0_seed : Int32) (h0_line : Nat) (h0_written : Nat) (h0_lineMany : Int32) (h0_hasWritten : Int32) (h0_node : Nat) (h0_nodes : Int32) (h0_onesMany : Int32) (h0_within : Int32) (h0_top : Int32) (F_h0_now : Nat → Int32) (i_h0_taped : rg 0 940 h0_taped) (i_h0_size : rg 0 940 h0_size) (i_h0_to : rg 0 940 h0_to) (i_h0_kind : rg 0 4 h0_kind) (i_h0_snapMany : rg 0 8 h0_snapMany) (i_h0_texts : rg 0 64 h0_texts) (i_h0_lineMany : rg 0 40 h0_lineMany) (i_h0_hasWritten : rg 0 1 h0_hasWritten) (i_h0_nodes : rg 0 60 h0_nodes) (i_h0_onesMany : rg 0 20 h0_onesMany) (s_h0_now_0 : sg 0 1 0 10 F_h0_now) (s_h0_now_1 : sg 1 2 0 4 F_h0_now) (s_h0_now_2 : sg 2 3 0 5 F_h0_now) (s_h0_now_3 : sg 35 36 0 1023 F_h0_now) (s_h0_now_4 : sg 44 49 0 3 F_h0_now) (s_h0_now_5 : sg 90 91 0 1023 F_h0_now) (s_h0_now_6 : sg 124 129 0 1023 F_h0_now) (s_h0_now_7 : sg 135 136 0 39 F_h0_now) : oMet l yX12_count wsX12_count ({ frames := 0, cells := 0, slots := 0, locals := 0 } : Room) [.ref h0, .int a1] D ca sz [(h0, .inr (11, [.int h0_thrown, .ref h0_tape, .int h0_taped, .int h0_size, .int h0_limit, .int h0_to, .int h0_from, .int h0_kind, .int h0_number, .int h0_sign, .int h0_fault, .int h0_place, .long h0_word, .int h0_told, .ref h0_now, .ref h0_read, .ref h0_kept, .ref h0_snaps, .ref h0_aside, .ref h0_name, .ref h0_readName, .ref h0_keptName, .ref h0_isKept, .ref h0_onces, .int h0_snapMany, .int h0_lowest, .int h0_highest, .int h0_agreed, .int h0_jurors, .int h0_panelled, .ref h0_inSets, .int h0_surely, .int h0_asked, .ref h0_frees, .int h0_struck, .int h0_beating, .ref h0_text, .int h0_texts, .int h0_seed, .ref h0_line, .ref h0_written, .int h0_lineMany, .int h0_hasWritten, .ref h0_node, .int h0_nodes, .int h0_onesMany, .int h0_within, .int h0_top])), (aI ca h0_now 376 F_h0_now)] (oQi D (fun (r : Int32) (u : Unit) => True) (fun (u : Unit) => [(h0, .inr (11, [.int 0, .ref h0_tape, .int h0_taped, .int h0_size, .int h0_limit, .int h0_to, .int h0_from, .int h0_kind, .int h0_number, .int h0_sign, .int h0_fault, .int h0_place, .long h0_word, .int h0_told, .ref h0_now, .ref h0_read, .ref h0_kept, .ref h0_snaps, .ref h0_aside, .ref h0_name, .ref h0_readName, .ref h0_keptName, .ref h0_isKept, .ref h0_onces, .int h0_snapMany, .int h0_lowest, .int h0_highest, .int h0_agreed, .int h0_jurors, .int h0_panelled, .ref h0_inSets, .int h0_surely, .int h0_asked, .ref h0_frees, .int h0_struck, .int h0_beating, .ref h0_text, .int h0_texts, .int h0_seed, .ref h0_line, .ref h0_written, .int h0_lineMany, .int h0_hasWritten, .ref h0_node, .int h0_nodes, .int h0_onesMany, .int h0_within, .int h0_top])), (aI ca h0_now 376 F_h0_now)])) 0 0 := by
  refine oM (cc := cX12_count) (maxL := 2) (ret := (some .int)) (by decide) rfl (Nat.le_of_ble_eq_true rfl) [(0, .ref h0), (1, .int a1)] rfl ?_
  intro p e s m below meth c A H locs ls hx hb hr hml hts hown hlocks hin hK hP hD hA hS hl
  have hown : s.vm.findClass RX12 = some m.cls := hown
  have k1 := hts (.fieldLink RX12 1 "LidCourtModel" "thrown" "I") (by decide +kernel)
  have k2 : ∀ w ∈ wsX120, w ∈ wsX12_count := fun _ h => List.mem_cons_of_mem _ (List.mem_append_right _ h)
  have k3 := hts (.fieldLink RX12 98 "LidCourtModel" "now" "[I") (by decide +kernel)
  have k4 := hts (.fieldLink RX12 11 "LidCourtModel" "taped" "I") (by decide +kernel)
  refine lv_aload_n hx hb dX12_count_0 rfl (lv_at hl 0 rfl) ?_
  refine lv_iconst (v := 0) hx hb dX12_count_1 (by decide) ?_
  refine va_put (D := D) (ci := 11) (v := .int 0) (ty := .int) (C := RX12) (T := TX12) (N := 48) hx hb hts k2 tyX12 tyX12_ok nmX12 hown hK.1 hP hD hS 0 rfl rfl 0 (by decide) k1 (fun _ h9 => h9) rfl (by decide +kernel) rfl rfl (Nat.le_of_ble_eq_true rfl) dX12_count_2 (fun H locs hP hD hS => ?_)
  have hP : va_P D vwCl [(h0, .inr (11, [.int 0, .ref h0_tape, .int h0_taped, .int h0_size, .int h0_limit, .int h0_to, .int h0_from, .int h0_kind, .int h0_number, .int h0_sign, .int h0_fault, .int h0_place, .long h0_word, .int h0_told, .ref h0_now, .ref h0_read, .ref h0_kept, .ref h0_snaps, .ref h0_aside, .ref h0_name, .ref h0_readName, .ref h0_keptName, .ref h0_isKept, .ref h0_onces, .int h0_snapMany, .int h0_lowest, .int h0_highest, .int h0_agreed, .int h0_jurors, .int h0_panelled, .ref h0_inSets, .int h0_surely, .int h0_asked, .ref h0_frees, .int h0_struck, .int h0_beating, .ref h0_text, .int h0_texts, .int h0_seed, .ref h0_line, .ref h0_written, .int h0_lineMany, .int h0_hasWritten, .ref h0_node, .int h0_nodes, .int h0_onesMany, .int h0_within, .int h0_top])), (aI ca h0_now 376 F_h0_now)] H := hP
  have hD : va_D A [(h0, .inr (11, [.int 0, .ref h0_tape, .int h0_taped, .int h0_size, .int h0_limit, .int h0_to, .int h0_from, .int h0_kind, .int h0_number, .int h0_sign, .int h0_fault, .int h0_place, .long h0_word, .int h0_told, .ref h0_now, .ref h0_read, .ref h0_kept, .ref h0_snaps, .ref h0_aside, .ref h0_name, .ref h0_readName, .ref h0_keptName, .ref h0_isKept, .ref h0_onces, .int h0_snapMany, .int h0_lowest, .int h0_highest, .int h0_agreed, .int h0_jurors, .int h0_panelled, .ref h0_inSets, .int h0_surely, .int h0_asked, .ref h0_frees, .int h0_struck, .int h0_beating, .ref h0_text, .int h0_texts, .int h0_seed, .ref h0_line, .ref h0_written, .int h0_lineMany, .int h0_hasWritten, .ref h0_node, .int h0_nodes, .int h0_onesMany, .int h0_within, .int h0_top])), (aI ca h0_now 376 F_h0_now)] := hD
  refine lv_iload_n hx hb dX12_count_5 rfl (lv_at hl 1 rfl) ?_
  by_cases c_15 : a1 = 0
  · skip
    refine oti 0 c_15 ?_
    refine lv_tableIn (off := 38) (tgt := 44) hx hb dX12_count_6 (by decide) (by decide) (by decide) (by decide) ?_
    refine lv_aload_n hx hb dX12_count_44 rfl (lv_at hl 0 rfl) ?_
    refine va_get (D := D) (ci := 11) (v := .ref h0_now) (C := RX12) (T := TX12) (N := 48) hx hb hts k2 hown hK.1 hP 0 rfl rfl 14 (by decide) k3 (fun _ h9 => h9) rfl dX12_count_45 ?_
    refine lv_iconst (v := 0) hx hb dX12_count_48 (by decide) ?_
    refine va_iald hx hb hK.1 hP 1 0 rfl rfl (rg_in (⟨by decide, by decide⟩ : rg 0 0 (0 : Int32)) (by decide) (by decide)) dX12_count_49 ?_
    refine lv_topi (fun x_16 ex_16 => ?_)
    have h_17 : rg 0 10 x_16 := by rw [ex_16]; exact sg_at s_h0_now_0 (⟨by decide, by decide⟩ : rg 0 0 (0 : Int32)) (by decide) (by decide) (by decide)
    exact oE_i hx hb hr rfl hlocks hP hD hS () [0, 1] rfl (by decide) trivial (Nat.le_of_ble_eq_true rfl) (Nat.le_of_ble_eq_true rfl) dX12_count_50
  by_cases c_18 : a1 = 1
  · skip
    refine oti 1 c_18 ?_
    refine lv_tableIn (off := 45) (tgt := 51) hx hb dX12_count_6 (by decide) (by decide) (by decide) (by decide) ?_
    refine lv_aload_n hx hb dX12_count_51 rfl (lv_at hl 0 rfl) ?_
    refine va_get (D := D) (ci := 11) (v := .ref h0_now) (C := RX12) (T := TX12) (N := 48) hx hb hts k2 hown hK.1 hP 0 rfl rfl 14 (by decide) k3 (fun _ h9 => h9) rfl dX12_count_52 ?_
    refine lv_iconst (v := 1) hx hb dX12_count_55 (by decide) ?_
    refine va_iald hx hb hK.1 hP 1 0 rfl rfl (rg_in (⟨by decide, by decide⟩ : rg 1 1 (1 : Int32)) (by decide) (by decide)) dX12_count_56 ?_
    refine lv_topi (fun x_19 ex_19 => ?_)
    have h_20 : rg 0 4 x_19 := by rw [ex_19]; exact sg_at s_h0_now_1 (⟨by decide, by decide⟩ : rg 1 1 (1 : Int32)) (by decide) (by decide) (by decide)
    exact oE_i hx hb hr rfl hlocks hP hD hS () [0, 1] rfl (by decide) trivial (Nat.le_of_ble_eq_true rfl) (Nat.le_of_ble_eq_true rfl) dX12_count_57
  by_cases c_21 : a1 = 2
  · skip
    refine oti 2 c_21 ?_
    refine lv_tableIn (off := 52) (tgt := 58) hx hb dX12_count_6 (by decide) (by decide) (by decide) (by decide) ?_
    refine lv_aload_n hx hb dX12_count_58 rfl (lv_at hl 0 rfl) ?_
    refine va_get (D := D) (ci := 11) (v := .ref h0_now) (C := RX12) (T := TX12) (N := 48) hx hb hts k2 hown hK.1 hP 0 rfl rfl 14 (by decide) k3 (fun _ h9 => h9) rfl dX12_count_59 ?_
    refine lv_iconst (v := 2) hx hb dX12_count_62 (by decide) ?_
    refine va_iald hx hb hK.1 hP 1 0 rfl rfl (rg_in (⟨by decide, by decide⟩ : rg 2 2 (2 : Int32)) (by decide) (by decide)) dX12_count_63 ?_
    refine lv_topi (fun x_22 ex_22 => ?_)
    have h_23 : rg 0 5 x_22 := by rw [ex_22]; exact sg_at s_h0_now_2 (⟨by decide, by decide⟩ : rg 2 2 (2 : Int32)) (by decide) (by decide) (by decide)
    exact oE_i hx hb hr rfl hlocks hP hD hS () [0, 1] rfl (by decide) trivial (Nat.le_of_ble_eq_true rfl) (Nat.le_of_ble_eq_true rfl) dX12_count_64
  by_cases c_24 : a1 = 3
  · skip
    refine oti 3 c_24 ?_
    refine lv_tableIn (off := 59) (tgt := 65) hx hb dX12_count_6 (by decide) (by decide) (by decide) (by decide) ?_
    refine lv_aload_n hx hb dX12_count_65 rfl (lv_at hl 0 rfl) ?_
    refine va_get (D := D) (ci := 11) (v := .ref h0_now) (C := RX12) (T := TX12) (N := 48) hx hb hts k2 hown hK.1 hP 0 rfl rfl 14 (by decide) k3 (fun _ h9 => h9) rfl dX12_count_66 ?_
    refine lv_iconst (v := 3) hx hb dX12_count_69 (by decide) ?_
    refine va_iald hx hb hK.1 hP 1 0 rfl rfl (rg_in (⟨by decide, by decide⟩ : rg 3 3 (3 : Int32)) (by decide) (by decide)) dX12_count_70 ?_
    refine lv_topi (fun x_25 ex_25 => ?_)
    exact oE_i hx hb hr rfl hlocks hP hD hS () [0, 1] rfl (by decide) trivial (Nat.le_of_ble_eq_true rfl) (Nat.le_of_ble_eq_true rfl) dX12_count_71
  by_cases c_26 : a1 = 4
  · skip
    refine oti 4 c_26 ?_
    refine lv_tableIn (off := 66) (tgt := 72) hx hb dX12_count_6 (by decide) (by decide) (by decide) (by decide) ?_
    refine lv_aload_n hx hb dX12_count_72 rfl (lv_at hl 0 rfl) ?_
    refine va_get (D := D) (ci := 11) (v := .ref h0_now) (C := RX12) (T := TX12) (N := 48) hx hb hts k2 hown hK.1 hP 0 rfl rfl 14 (by decide) k3 (fun _ h9 => h9) rfl dX12_count_73 ?_
    refine lv_iconst (v := 4) hx hb dX12_count_76 (by decide) ?_
    refine va_iald hx hb hK.1 hP 1 0 rfl rfl (rg_in (⟨by decide, by decide⟩ : rg 4 4 (4 : Int32)) (by decide) (by decide)) dX12_count_77 ?_
    refine lv_topi (fun x_27 ex_27 => ?_)
    exact oE_i hx hb hr rfl hlocks hP hD hS () [0, 1] rfl (by decide) trivial (Nat.le_of_ble_eq_true rfl) (Nat.le_of_ble_eq_true rfl) dX12_count_78
  by_cases c_28 : a1 = 5
  · skip
    refine oti 5 c_28 ?_
    refine lv_tableIn (off := 73) (tgt := 79) hx hb dX12_count_6 (by decide) (by decide) (by decide) (by decide) ?_
    refine lv_aload_n hx hb dX12_count_79 rfl (lv_at hl 0 rfl) ?_
    refine va_get (D := D) (ci := 11) (v := .int h0_taped) (C := RX12) (T := TX12) (N := 48) hx hb hts k2 hown hK.1 hP 0 rfl rfl 2 (by decide) k4 (fun _ h9 => h9) rfl dX12_count_80 ?_
    exact oE_i hx hb hr rfl hlocks hP hD hS () [0, 1] rfl (by decide) trivial (Nat.le_of_ble_eq_true rfl) (Nat.le_of_ble_eq_true rfl) dX12_count_83
  have t0 := lv_neT c_15 (show (0 : Int32).toInt = 0 by decide)
  have t1 := lv_neT c_18 (show (1 : Int32).toInt = 1 by decide)
  have t2 := lv_neT c_21 (show (2 : Int32).toInt = 2 by decide)
  have t3 := lv_neT c_24 (show (3 : Int32).toInt = 3 by decide)
  have t4 := lv_neT c_26 (show (4 : Int32).toInt = 4 by decide)
  have t5 := lv_neT c_28 (show (5 : Int32).toInt = 5 by decide)
  have t97 := ((rga a1)).1
  have t98 := ((rga a1)).2
  refine lv_tableOut (tgt := 84) hx hb dX12_count_6 (by omega) (by decide) ?_
  refine lv_iconst (v := (-1)) hx hb dX12_count_84 (by decide) ?_
  exact oE_i hx hb hr rfl hlocks hP hD hS () [0, 1] rfl (by decide) trivial (Nat.le_of_ble_eq_true rfl) (Nat.le_of_ble_eq_true rfl) dX12_count_85
