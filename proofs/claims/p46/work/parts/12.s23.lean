theorem dX12_ringOf_0 : decode cX12_ringOf 0 = .ok (.aload_n 0, 1) := by decide +kernel
theorem dX12_ringOf_1 : decode cX12_ringOf 1 = .ok (.iload_n 1, 1) := by decide +kernel
theorem dX12_ringOf_2 : decode cX12_ringOf 2 = .ok (.iload_n 2, 1) := by decide +kernel
theorem dX12_ringOf_3 : decode cX12_ringOf 3 = .ok (.aload_n 0, 1) := by decide +kernel
theorem dX12_ringOf_4 : decode cX12_ringOf 4 = .ok (.getfield 98, 3) := by decide +kernel
theorem dX12_ringOf_7 : decode cX12_ringOf 7 = .ok (.bipush 94, 2) := by decide +kernel
theorem dX12_ringOf_9 : decode cX12_ringOf 9 = .ok (.iload_n 1, 1) := by decide +kernel
theorem dX12_ringOf_10 : decode cX12_ringOf 10 = .ok (.iadd, 1) := by decide +kernel
theorem dX12_ringOf_11 : decode cX12_ringOf 11 = .ok (.iaload, 1) := by decide +kernel
theorem dX12_ringOf_12 : decode cX12_ringOf 12 = .ok (.invokevirtual 230, 3) := by decide +kernel
theorem dX12_ringOf_15 : decode cX12_ringOf 15 = .ok (.ireturn, 1) := by decide +kernel
set_option maxRecDepth 20000 in
theorem ggX12_ringOf_X12_ringBy : GoodIn wsX12_ringOf wsX12_ringBy := goodIn_r _ [6, 1, 7, 8, 9, 10, 11, 12, 13, 14, 15, 16, 17, 18, 19, 20, 21, 22, 23, 24, 25, 26, 27, 28, 29, 30, 31, 32, 33, 34, 35, 36, 37, 38, 39, 40, 41, 42, 43, 44, 45, 46, 47, 48, 49, 50, 51, 52, 53, 54] rfl (by decide +kernel)
set_option maxRecDepth 20000 in
theorem gX12_ringOf_X12_ringBy : GoodIn wsX12_ringOf (wsV RX12 230 RX12 yX12_ringBy wsX12_ringBy) := goodIn_app (goodIn_of _ (by decide +kernel)) ggX12_ringOf_X12_ringBy
set_option maxHeartbeats 4000000 in
set_option maxRecDepth 100000 in
theorem s_X12_ringOf (l : Launch) (D : va_G) (ca : Nat → ClassId) (sz : Nat) (h0 : Nat) (a1 : Int32) (a2 : Int32) (h0_thrown : Int32) (h0_tape : Nat) (h0_taped : Int32) (h0_size : Int32) (h0_limit : Int32) (h0_to : Int32) (h0_from : Int32) (h0_kind : Int32) (h0_number : Int32) (h0_sign : Int32) (h0_fault : Int32) (h0_place : Int32) (h0_word : Int64) (h0_told : Int32) (h0_now : Nat) (h0_read : Nat) (h0_kept : Nat) (h0_snaps : Nat) (h0_aside : Nat) (h0_name : Nat) (h0_readName : Nat) (h0_keptName : Nat) (h0_isKept : Nat) (h0_onces : Nat) (h0_snapMany : Int32) (h0_lowest : Int32) (h0_highest : Int32) (h0_agreed : Int32) (h0_jurors : Int32) (h0_panelled : Int32) (h0_inSets : Nat) (h0_surely : Int32) (h0_asked : Int32) (h0_frees : Nat) (h0_struck : Int32) (h0_beating : Int32) (h0_text : Nat) (h0_texts : Int32) (h0_seed : Int32) (h0_line : Nat) (h0_written : Nat) (h0_lineMany : Int32) (h0_hasWritten : Int32) (h0_node : Nat) (h0_nodes : Int32) (h0_onesMany : Int32) (h0_within : Int32) (h0_top : Int32) (F_h0_now : Nat → Int32) (i_a1 : rg 0 9 a1) (i_a2 : rg 0 3 a2) (i_h0_taped : rg 0 940 h0_taped) (i_h0_size : rg 0 940 h0_size) (i_h0_to : rg 0 940 h0_to) (i_h0_kind : rg 0 4 h0_kind) (i_h0_snapMany : rg 0 8 h0_snapMany) (i_h0_texts : rg 0 64 h0_texts) (i_h0_lineMany : rg 0 40 h0_lineMany) (i_h0_hasWritten : rg 0 1 h0_hasWritten) (i_h0_nodes : rg 0 60 h0_nodes) (i_h0_onesMany : rg 0 20 h0_onesMany) (s_h0_now_0 : sg 0 1 0 10 F_h0_now) (s_h0_now_1 : sg 1 2 0 4 F_h0_now) (s_h0_now_2 : sg 2 3 0 5 F_h0_now) (s_h0_now_3 : sg 35 36 0 1023 F_h0_now) (s_h0_now_4 : sg 44 49 0 3 F_h0_now) (s_h0_now_5 : sg 90 91 0 1023 F_h0_now) (s_h0_now_6 : sg 124 129 0 1023 F_h0_now) (s_h0_now_7 : sg 135 136 0 39 F_h0_now) : oMet l yX12_ringOf wsX12_ringOf ({ frames := 1, cells := 0, slots := 0, locals := 25 } : Room) [.ref h0, .int a1, .int a2] D ca sz [(h0, .inr (11, [.int h0_thrown, .ref h0_tape, .int h0_taped, .int h0_size, .int h0_limit, .int h0_to, .int h0_from, .int h0_kind, .int h0_number, .int h0_sign, .int h0_fault, .int h0_place, .long h0_word, .int h0_told, .ref h0_now, .ref h0_read, .ref h0_kept, .ref h0_snaps, .ref h0_aside, .ref h0_name, .ref h0_readName, .ref h0_keptName, .ref h0_isKept, .ref h0_onces, .int h0_snapMany, .int h0_lowest, .int h0_highest, .int h0_agreed, .int h0_jurors, .int h0_panelled, .ref h0_inSets, .int h0_surely, .int h0_asked, .ref h0_frees, .int h0_struck, .int h0_beating, .ref h0_text, .int h0_texts, .int h0_seed, .ref h0_line, .ref h0_written, .int h0_lineMany, .int h0_hasWritten, .ref h0_node, .int h0_nodes, .int h0_onesMany, .int h0_within, .int h0_top])), (aI ca h0_now 376 F_h0_now)] (oQi D (fun (r : Int32) (u : Unit) => (rg 0 2147483647 r)) (fun (u : Unit) => [(h0, .inr (11, [.int h0_thrown, .ref h0_tape, .int h0_taped, .int h0_size, .int h0_limit, .int h0_to, .int h0_from, .int h0_kind, .int h0_number, .int h0_sign, .int h0_fault, .int h0_place, .long h0_word, .int h0_told, .ref h0_now, .ref h0_read, .ref h0_kept, .ref h0_snaps, .ref h0_aside, .ref h0_name, .ref h0_readName, .ref h0_keptName, .ref h0_isKept, .ref h0_onces, .int h0_snapMany, .int h0_lowest, .int h0_highest, .int h0_agreed, .int h0_jurors, .int h0_panelled, .ref h0_inSets, .int h0_surely, .int h0_asked, .ref h0_frees, .int h0_struck, .int h0_beating, .ref h0_text, .int h0_texts, .int h0_seed, .ref h0_line, .ref h0_written, .int h0_lineMany, .int h0_hasWritten, .ref h0_node, .int h0_nodes, .int h0_onesMany, .int h0_within, .int h0_top])), (aI ca h0_now 376 F_h0_now)])) 0 0 := by
  refine oM (cc := cX12_ringOf) (maxL := 3) (ret := (some .int)) (by decide) rfl (Nat.le_of_ble_eq_true rfl) [(0, .ref h0), (1, .int a1), (2, .int a2)] rfl ?_
  intro p e s m below meth c A H locs ls hx hb hr hml hts hown hlocks hin hK hP hD hA hS hl
  have hown : s.vm.findClass RX12 = some m.cls := hown
  have k1 := hts (.fieldLink RX12 98 "LidCourtModel" "now" "[I") (by decide +kernel)
  have k2 : ∀ w ∈ wsX120, w ∈ wsX12_ringOf := fun _ h => List.mem_cons_of_mem _ (List.mem_append_right _ h)
  refine lv_aload_n hx hb dX12_ringOf_0 rfl (lv_at hl 0 rfl) ?_
  refine lv_iload_n hx hb dX12_ringOf_1 rfl (lv_at hl 1 rfl) ?_
  refine lv_iload_n hx hb dX12_ringOf_2 rfl (lv_at hl 2 rfl) ?_
  refine lv_aload_n hx hb dX12_ringOf_3 rfl (lv_at hl 0 rfl) ?_
  refine va_get (D := D) (ci := 11) (v := .ref h0_now) (C := RX12) (T := TX12) (N := 48) hx hb hts k2 hown hK.1 hP 0 rfl rfl 14 (by decide) k1 (fun _ h9 => h9) rfl dX12_ringOf_4 ?_
  refine lv_bipush (v := 94) hx hb dX12_ringOf_7 (by decide) ?_
  refine lv_iload_n hx hb dX12_ringOf_9 rfl (lv_at hl 1 rfl) ?_
  refine lv_iadd hx hb dX12_ringOf_10 ?_
  refine lv_topi (fun x_8 ex_8 => ?_)
  have h_9 : rg 94 103 x_8 := by rw [ex_8]; exact rg_add (⟨by decide, by decide⟩ : rg 94 94 (94 : Int32)) i_a1 (by decide) (by decide) (by decide) (by decide)
  have l_10 : lq x_8.toInt (a1.toInt + 94) := lqm (by rw [ex_8]; have q := tadd (⟨by decide, by decide⟩ : rg 94 94 (94 : Int32)) i_a1 (by decide) (by decide); have r0 := lqe (lqm (by decide) : lq (94 : Int32).toInt 94); omega)
  refine va_iald hx hb hK.1 hP 1 0 rfl rfl (rg_in h_9 (by decide) (by decide)) dX12_ringOf_11 ?_
  refine lv_topi (fun x_11 ex_11 => ?_)
  refine oC_i (Wc := [(h0, .inr (11, [.int h0_thrown, .ref h0_tape, .int h0_taped, .int h0_size, .int h0_limit, .int h0_to, .int h0_from, .int h0_kind, .int h0_number, .int h0_sign, .int h0_fault, .int h0_place, .long h0_word, .int h0_told, .ref h0_now, .ref h0_read, .ref h0_kept, .ref h0_snaps, .ref h0_aside, .ref h0_name, .ref h0_readName, .ref h0_keptName, .ref h0_isKept, .ref h0_onces, .int h0_snapMany, .int h0_lowest, .int h0_highest, .int h0_agreed, .int h0_jurors, .int h0_panelled, .ref h0_inSets, .int h0_surely, .int h0_asked, .ref h0_frees, .int h0_struck, .int h0_beating, .ref h0_text, .int h0_texts, .int h0_seed, .ref h0_line, .ref h0_written, .int h0_lineMany, .int h0_hasWritten, .ref h0_node, .int h0_nodes, .int h0_onesMany, .int h0_within, .int h0_top])), (aI ca h0_now 376 F_h0_now)]) (Wr := []) (va_runV (As := [.int a1, .int a2, .int x_11]) (rest := []) ⟨hx, hb, hml, hown, hts⟩ (s_X12_ringBy l D ca H.size h0 a1 a2 x_11 h0_thrown h0_tape h0_taped h0_size h0_limit h0_to h0_from h0_kind h0_number h0_sign h0_fault h0_place h0_word h0_told h0_now h0_read h0_kept h0_snaps h0_aside h0_name h0_readName h0_keptName h0_isKept h0_onces h0_snapMany h0_lowest h0_highest h0_agreed h0_jurors h0_panelled h0_inSets h0_surely h0_asked h0_frees h0_struck h0_beating h0_text h0_texts h0_seed h0_line h0_written h0_lineMany h0_hasWritten h0_node h0_nodes h0_onesMany h0_within h0_top F_h0_now i_a1 i_a2 i_h0_taped i_h0_size i_h0_to i_h0_kind i_h0_snapMany i_h0_texts i_h0_lineMany i_h0_hasWritten i_h0_nodes i_h0_onesMany s_h0_now_0 s_h0_now_1 s_h0_now_2 s_h0_now_3 s_h0_now_4 s_h0_now_5 s_h0_now_6 s_h0_now_7) (cwV 3 hts gX12_ringOf_X12_ringBy rfl rfl rfl (by decide +kernel) ⟨Nat.le_of_ble_eq_true rfl, Nat.le_of_ble_eq_true rfl⟩) (oPV (C := RX12) hK hP hD [0, 1] rfl (by decide) 0 rfl (ci := 11) rfl rfl) rfl rfl hl.1 rfl (lv_room (Nat.le_of_ble_eq_true rfl)) dX12_ringOf_12 ⟨Nat.le_of_ble_eq_true rfl, Nat.le_of_ble_eq_true rfl⟩) hP hD hS hA [0, 1] [] rfl rfl (by decide) (by decide) (fun r_12 u H locs w_13 hP hD hS => ?_)
  obtain ⟨⟩ := u
  have hP : va_P D vwCl [(h0, .inr (11, [.int h0_thrown, .ref h0_tape, .int h0_taped, .int h0_size, .int h0_limit, .int h0_to, .int h0_from, .int h0_kind, .int h0_number, .int h0_sign, .int h0_fault, .int h0_place, .long h0_word, .int h0_told, .ref h0_now, .ref h0_read, .ref h0_kept, .ref h0_snaps, .ref h0_aside, .ref h0_name, .ref h0_readName, .ref h0_keptName, .ref h0_isKept, .ref h0_onces, .int h0_snapMany, .int h0_lowest, .int h0_highest, .int h0_agreed, .int h0_jurors, .int h0_panelled, .ref h0_inSets, .int h0_surely, .int h0_asked, .ref h0_frees, .int h0_struck, .int h0_beating, .ref h0_text, .int h0_texts, .int h0_seed, .ref h0_line, .ref h0_written, .int h0_lineMany, .int h0_hasWritten, .ref h0_node, .int h0_nodes, .int h0_onesMany, .int h0_within, .int h0_top])), (aI ca h0_now 376 F_h0_now)] H := hP
  have hD : va_D A [(h0, .inr (11, [.int h0_thrown, .ref h0_tape, .int h0_taped, .int h0_size, .int h0_limit, .int h0_to, .int h0_from, .int h0_kind, .int h0_number, .int h0_sign, .int h0_fault, .int h0_place, .long h0_word, .int h0_told, .ref h0_now, .ref h0_read, .ref h0_kept, .ref h0_snaps, .ref h0_aside, .ref h0_name, .ref h0_readName, .ref h0_keptName, .ref h0_isKept, .ref h0_onces, .int h0_snapMany, .int h0_lowest, .int h0_highest, .int h0_agreed, .int h0_jurors, .int h0_panelled, .ref h0_inSets, .int h0_surely, .int h0_asked, .ref h0_frees, .int h0_struck, .int h0_beating, .ref h0_text, .int h0_texts, .int h0_seed, .ref h0_line, .ref h0_written, .int h0_lineMany, .int h0_hasWritten, .ref h0_node, .int h0_nodes, .int h0_onesMany, .int h0_within, .int h0_top])), (aI ca h0_now 376 F_h0_now)] := hD
  try dsimp only at w_13
  have h_14 := w_13
  exact oE_i hx hb hr rfl hlocks hP hD hS () [0, 1] rfl (by decide) h_14 (Nat.le_of_ble_eq_true rfl) (Nat.le_of_ble_eq_true rfl) dX12_ringOf_15
theorem dX12_ring_0 : decode cX12_ring 0 = .ok (.aload_n 0, 1) := by decide +kernel
theorem dX12_ring_1 : decode cX12_ring 1 = .ok (.iconst 0, 1) := by decide +kernel
theorem dX12_ring_2 : decode cX12_ring 2 = .ok (.putfield 1, 3) := by decide +kernel
theorem dX12_ring_5 : decode cX12_ring 5 = .ok (.aload_n 0, 1) := by decide +kernel
theorem dX12_ring_6 : decode cX12_ring 6 = .ok (.iload_n 1, 1) := by decide +kernel
theorem dX12_ring_7 : decode cX12_ring 7 = .ok (.invokevirtual 249, 3) := by decide +kernel
theorem dX12_ring_10 : decode cX12_ring 10 = .ok (.ifCond .eq 20, 3) := by decide +kernel
theorem dX12_ring_13 : decode cX12_ring 13 = .ok (.aload_n 0, 1) := by decide +kernel
theorem dX12_ring_14 : decode cX12_ring 14 = .ok (.iload_n 2, 1) := by decide +kernel
theorem dX12_ring_15 : decode cX12_ring 15 = .ok (.invokevirtual 261, 3) := by decide +kernel
theorem dX12_ring_18 : decode cX12_ring 18 = .ok (.ifCond .eq 12, 3) := by decide +kernel
theorem dX12_ring_21 : decode cX12_ring 21 = .ok (.aload_n 0, 1) := by decide +kernel
theorem dX12_ring_22 : decode cX12_ring 22 = .ok (.iload_n 1, 1) := by decide +kernel
theorem dX12_ring_23 : decode cX12_ring 23 = .ok (.iload_n 2, 1) := by decide +kernel
theorem dX12_ring_24 : decode cX12_ring 24 = .ok (.invokevirtual 264, 3) := by decide +kernel
theorem dX12_ring_27 : decode cX12_ring 27 = .ok (.goto 4, 3) := by decide +kernel
theorem dX12_ring_30 : decode cX12_ring 30 = .ok (.iconst (-1), 1) := by decide +kernel
theorem dX12_ring_31 : decode cX12_ring 31 = .ok (.ireturn, 1) := by decide +kernel
set_option maxRecDepth 20000 in
theorem ggX12_ring_X12_isJuror : GoodIn wsX12_ring wsX12_isJuror := goodIn_r _ [6, 7, 8, 9, 5, 10, 23, 24, 25, 26, 27, 28, 29, 30, 31, 32, 33, 34, 35, 36, 37, 38, 39, 40, 41, 42, 43, 44, 45, 46, 47, 48, 49, 50, 51, 52, 53, 54, 55, 56, 57, 58, 59, 60, 61, 62, 63, 64, 65, 66, 67, 68, 69, 70] rfl (by decide +kernel)
set_option maxRecDepth 20000 in
theorem gX12_ring_X12_isJuror : GoodIn wsX12_ring (wsV RX12 249 RX12 yX12_isJuror wsX12_isJuror) := goodIn_app (goodIn_of _ (by decide +kernel)) ggX12_ring_X12_isJuror
set_option maxRecDepth 20000 in
theorem ggX12_ring_X12_isFloor : GoodIn wsX12_ring wsX12_isFloor := goodIn_r _ [14, 7, 8, 9, 5, 10, 23, 24, 25, 26, 27, 28, 29, 30, 31, 32, 33, 34, 35, 36, 37, 38, 39, 40, 41, 42, 43, 44, 45, 46, 47, 48, 49, 50, 51, 52, 53, 54, 55, 56, 57, 58, 59, 60, 61, 62, 63, 64, 65, 66, 67, 68, 69, 70] rfl (by decide +kernel)
set_option maxRecDepth 20000 in
theorem gX12_ring_X12_isFloor : GoodIn wsX12_ring (wsV RX12 261 RX12 yX12_isFloor wsX12_isFloor) := goodIn_app (goodIn_of _ (by decide +kernel)) ggX12_ring_X12_isFloor
set_option maxRecDepth 20000 in
theorem ggX12_ring_X12_ringOf : GoodIn wsX12_ring wsX12_ringOf := goodIn_r _ [18, 7, 19, 20, 21, 5, 22, 23, 24, 25, 26, 27, 28, 29, 30, 31, 32, 33, 34, 35, 36, 37, 38, 39, 40, 41, 42, 43, 44, 45, 46, 47, 48, 49, 50, 51, 52, 53, 54, 55, 56, 57, 58, 59, 60, 61, 62, 63, 64, 65, 66, 67, 68, 69, 70] rfl (by decide +kernel)
set_option maxRecDepth 20000 in
theorem gX12_ring_X12_ringOf : GoodIn wsX12_ring (wsV RX12 264 RX12 yX12_ringOf wsX12_ringOf) := goodIn_app (goodIn_of _ (by decide +kernel)) ggX12_ring_X12_ringOf
set_option maxHeartbeats 4000000 in
set_option maxRecDepth 100000 in
theorem s_X12_ring (l : Launch) (D : va_G) (ca : Nat → ClassId) (sz : Nat) (h0 : Nat) (a1 : Int32) (a2 : Int32) (h0_thrown : Int32) (h0_tape : Nat) (h0_taped : Int32) (h0_size : Int32) (h0_limit : Int32) (h0_to : Int32) (h0_from : Int32) (h0_kind : Int32) (h0_number : Int32) (h0_sign : Int32) (h0_fault : Int32) (h0_place : Int32) (h0_word : Int64) (h0_told : Int32) (h0_now : Nat) (h0_read : Nat) (h0_kept : Nat) (h0_snaps : Nat) (h0_aside : Nat) (h0_name : Nat) (h0_readName : Nat) (h0_keptName : Nat) (h0_isKept : Nat) (h0_onces : Nat) (h0_snapMany : Int32) (h0_lowest : Int32) (h0_highest : Int32) (h0_agreed : Int32) (h0_jurors : Int32) (h0_panelled : Int32) (h0_inSets : Nat) (h0_surely : Int32) (h0_asked : Int32) (h0_frees : Nat) (h0_struck : Int32) (h0_beating : Int32) (h0_text : Nat) (h0_texts : Int32) (h0_seed : Int32) (h0_line : Nat) (h0_written : Nat) (h0_lineMany : Int32) (h0_hasWritten : Int32) (h0_node : Nat) (h0_nodes : Int32) (h0_onesMany : Int32) (h0_within : Int32) (h0_top : Int32) (F_h0_now : Nat → Int32) (i_h0_taped : rg 0 940 h0_taped) (i_h0_size : rg 0 940 h0_size) (i_h0_to : rg 0 940 h0_to) (i_h0_kind : rg 0 4 h0_kind) (i_h0_snapMany : rg 0 8 h0_snapMany) (i_h0_texts : rg 0 64 h0_texts) (i_h0_lineMany : rg 0 40 h0_lineMany) (i_h0_hasWritten : rg 0 1 h0_hasWritten) (i_h0_nodes : rg 0 60 h0_nodes) (i_h0_onesMany : rg 0 20 h0_onesMany) (s_h0_now_0 : sg 0 1 0 10 F_h0_now) (s_h0_now_1 : sg 1 2 0 4 F_h0_now) (s_h0_now_2 : sg 2 3 0 5 F_h0_now) (s_h0_now_3 : sg 35 36 0 1023 F_h0_now) (s_h0_now_4 : sg 44 49 0 3 F_h0_now) (s_h0_now_5 : sg 90 91 0 1023 F_h0_now) (s_h0_now_6 : sg 124 129 0 1023 F_h0_now) (s_h0_now_7 : sg 135 136 0 39 F_h0_now) : oMet l yX12_ring wsX12_ring ({ frames := 2, cells := 0, slots := 0, locals := 47 } : Room) [.ref h0, .int a1, .int a2] D ca sz [(h0, .inr (11, [.int h0_thrown, .ref h0_tape, .int h0_taped, .int h0_size, .int h0_limit, .int h0_to, .int h0_from, .int h0_kind, .int h0_number, .int h0_sign, .int h0_fault, .int h0_place, .long h0_word, .int h0_told, .ref h0_now, .ref h0_read, .ref h0_kept, .ref h0_snaps, .ref h0_aside, .ref h0_name, .ref h0_readName, .ref h0_keptName, .ref h0_isKept, .ref h0_onces, .int h0_snapMany, .int h0_lowest, .int h0_highest, .int h0_agreed, .int h0_jurors, .int h0_panelled, .ref h0_inSets, .int h0_surely, .int h0_asked, .ref h0_frees, .int h0_struck, .int h0_beating, .ref h0_text, .int h0_texts, .int h0_seed, .ref h0_line, .ref h0_written, .int h0_lineMany, .int h0_hasWritten, .ref h0_node, .int h0_nodes, .int h0_onesMany, .int h0_within, .int h0_top])), (aI ca h0_now 376 F_h0_now)] (oQi D (fun (r : Int32) (u : Unit) => (rg (-1) 2147483647 r)) (fun (u : Unit) => [(h0, .inr (11, [.int 0, .ref h0_tape, .int h0_taped, .int h0_size, .int h0_limit, .int h0_to, .int h0_from, .int h0_kind, .int h0_number, .int h0_sign, .int h0_fault, .int h0_place, .long h0_word, .int h0_told, .ref h0_now, .ref h0_read, .ref h0_kept, .ref h0_snaps, .ref h0_aside, .ref h0_name, .ref h0_readName, .ref h0_keptName, .ref h0_isKept, .ref h0_onces, .int h0_snapMany, .int h0_lowest, .int h0_highest, .int h0_agreed, .int h0_jurors, .int h0_panelled, .ref h0_inSets, .int h0_surely, .int h0_asked, .ref h0_frees, .int h0_struck, .int h0_beating, .ref h0_text, .int h0_texts, .int h0_seed, .ref h0_line, .ref h0_written, .int h0_lineMany, .int h0_hasWritten, .ref h0_node, .int h0_nodes, .int h0_onesMany, .int h0_within, .int h0_top])), (aI ca h0_now 376 F_h0_now)])) 0 0 := by
  refine oM (cc := cX12_ring) (maxL := 3) (ret := (some .int)) (by decide) rfl (Nat.le_of_ble_eq_true rfl) [(0, .ref h0), (1, .int a1), (2, .int a2)] rfl ?_
  intro p e s m below meth c A H locs ls hx hb hr hml hts hown hlocks hin hK hP hD hA hS hl
  have hown : s.vm.findClass RX12 = some m.cls := hown
  have k1 := hts (.fieldLink RX12 1 "LidCourtModel" "thrown" "I") (by decide +kernel)
  have k2 : ∀ w ∈ wsX120, w ∈ wsX12_ring := fun _ h => List.mem_cons_of_mem _ (List.mem_append_right _ h)
  refine lv_aload_n hx hb dX12_ring_0 rfl (lv_at hl 0 rfl) ?_
  refine lv_iconst (v := 0) hx hb dX12_ring_1 (by decide) ?_
  refine va_put (D := D) (ci := 11) (v := .int 0) (ty := .int) (C := RX12) (T := TX12) (N := 48) hx hb hts k2 tyX12 tyX12_ok nmX12 hown hK.1 hP hD hS 0 rfl rfl 0 (by decide) k1 (fun _ h9 => h9) rfl (by decide +kernel) rfl rfl (Nat.le_of_ble_eq_true rfl) dX12_ring_2 (fun H locs hP hD hS => ?_)
  have hP : va_P D vwCl [(h0, .inr (11, [.int 0, .ref h0_tape, .int h0_taped, .int h0_size, .int h0_limit, .int h0_to, .int h0_from, .int h0_kind, .int h0_number, .int h0_sign, .int h0_fault, .int h0_place, .long h0_word, .int h0_told, .ref h0_now, .ref h0_read, .ref h0_kept, .ref h0_snaps, .ref h0_aside, .ref h0_name, .ref h0_readName, .ref h0_keptName, .ref h0_isKept, .ref h0_onces, .int h0_snapMany, .int h0_lowest, .int h0_highest, .int h0_agreed, .int h0_jurors, .int h0_panelled, .ref h0_inSets, .int h0_surely, .int h0_asked, .ref h0_frees, .int h0_struck, .int h0_beating, .ref h0_text, .int h0_texts, .int h0_seed, .ref h0_line, .ref h0_written, .int h0_lineMany, .int h0_hasWritten, .ref h0_node, .int h0_nodes, .int h0_onesMany, .int h0_within, .int h0_top])), (aI ca h0_now 376 F_h0_now)] H := hP
  have hD : va_D A [(h0, .inr (11, [.int 0, .ref h0_tape, .int h0_taped, .int h0_size, .int h0_limit, .int h0_to, .int h0_from, .int h0_kind, .int h0_number, .int h0_sign, .int h0_fault, .int h0_place, .long h0_word, .int h0_told, .ref h0_now, .ref h0_read, .ref h0_kept, .ref h0_snaps, .ref h0_aside, .ref h0_name, .ref h0_readName, .ref h0_keptName, .ref h0_isKept, .ref h0_onces, .int h0_snapMany, .int h0_lowest, .int h0_highest, .int h0_agreed, .int h0_jurors, .int h0_panelled, .ref h0_inSets, .int h0_surely, .int h0_asked, .ref h0_frees, .int h0_struck, .int h0_beating, .ref h0_text, .int h0_texts, .int h0_seed, .ref h0_line, .ref h0_written, .int h0_lineMany, .int h0_hasWritten, .ref h0_node, .int h0_nodes, .int h0_onesMany, .int h0_within, .int h0_top])), (aI ca h0_now 376 F_h0_now)] := hD
  refine lv_aload_n hx hb dX12_ring_5 rfl (lv_at hl 0 rfl) ?_
  refine lv_iload_n hx hb dX12_ring_6 rfl (lv_at hl 1 rfl) ?_
  refine oC_i (Wc := [(h0, .inr (11, [.int 0, .ref h0_tape, .int h0_taped, .int h0_size, .int h0_limit, .int h0_to, .int h0_from, .int h0_kind, .int h0_number, .int h0_sign, .int h0_fault, .int h0_place, .long h0_word, .int h0_told, .ref h0_now, .ref h0_read, .ref h0_kept, .ref h0_snaps, .ref h0_aside, .ref h0_name, .ref h0_readName, .ref h0_keptName, .ref h0_isKept, .ref h0_onces, .int h0_snapMany, .int h0_lowest, .int h0_highest, .int h0_agreed, .int h0_jurors, .int h0_panelled, .ref h0_inSets, .int h0_surely, .int h0_asked, .ref h0_frees, .int h0_struck, .int h0_beating, .ref h0_text, .int h0_texts, .int h0_seed, .ref h0_line, .ref h0_written, .int h0_lineMany, .int h0_hasWritten, .ref h0_node, .int h0_nodes, .int h0_onesMany, .int h0_within, .int h0_top])), (aI ca h0_now 376 F_h0_now)]) (Wr := []) (va_runV (As := [.int a1]) (rest := []) ⟨hx, hb, hml, hown, hts⟩ (s_X12_isJuror l D ca H.size h0 a1 0 h0_tape h0_taped h0_size h0_limit h0_to h0_from h0_kind h0_number h0_sign h0_fault h0_place h0_word h0_told h0_now h0_read h0_kept h0_snaps h0_aside h0_name h0_readName h0_keptName h0_isKept h0_onces h0_snapMany h0_lowest h0_highest h0_agreed h0_jurors h0_panelled h0_inSets h0_surely h0_asked h0_frees h0_struck h0_beating h0_text h0_texts h0_seed h0_line h0_written h0_lineMany h0_hasWritten h0_node h0_nodes h0_onesMany h0_within h0_top F_h0_now i_h0_taped i_h0_size i_h0_to i_h0_kind i_h0_snapMany i_h0_texts i_h0_lineMany i_h0_hasWritten i_h0_nodes i_h0_onesMany s_h0_now_0 s_h0_now_1 s_h0_now_2 s_h0_now_3 s_h0_now_4 s_h0_now_5 s_h0_now_6 s_h0_now_7) (cwV 1 hts gX12_ring_X12_isJuror rfl rfl rfl (by decide +kernel) ⟨Nat.le_of_ble_eq_true rfl, Nat.le_of_ble_eq_true rfl⟩) (oPV (C := RX12) hK hP hD [0, 1] rfl (by decide) 0 rfl (ci := 11) rfl rfl) rfl rfl hl.1 rfl (lv_room (Nat.le_of_ble_eq_true rfl)) dX12_ring_7 ⟨Nat.le_of_ble_eq_true rfl, Nat.le_of_ble_eq_true rfl⟩) hP hD hS hA [0, 1] [] rfl rfl (by decide) (by decide) (fun r_14 u H locs w_15 hP hD hS => ?_)
  obtain ⟨⟩ := u
  have hP : va_P D vwCl [(h0, .inr (11, [.int 0, .ref h0_tape, .int h0_taped, .int h0_size, .int h0_limit, .int h0_to, .int h0_from, .int h0_kind, .int h0_number, .int h0_sign, .int h0_fault, .int h0_place, .long h0_word, .int h0_told, .ref h0_now, .ref h0_read, .ref h0_kept, .ref h0_snaps, .ref h0_aside, .ref h0_name, .ref h0_readName, .ref h0_keptName, .ref h0_isKept, .ref h0_onces, .int h0_snapMany, .int h0_lowest, .int h0_highest, .int h0_agreed, .int h0_jurors, .int h0_panelled, .ref h0_inSets, .int h0_surely, .int h0_asked, .ref h0_frees, .int h0_struck, .int h0_beating, .ref h0_text, .int h0_texts, .int h0_seed, .ref h0_line, .ref h0_written, .int h0_lineMany, .int h0_hasWritten, .ref h0_node, .int h0_nodes, .int h0_onesMany, .int h0_within, .int h0_top])), (aI ca h0_now 376 F_h0_now)] H := hP
  have hD : va_D A [(h0, .inr (11, [.int 0, .ref h0_tape, .int h0_taped, .int h0_size, .int h0_limit, .int h0_to, .int h0_from, .int h0_kind, .int h0_number, .int h0_sign, .int h0_fault, .int h0_place, .long h0_word, .int h0_told, .ref h0_now, .ref h0_read, .ref h0_kept, .ref h0_snaps, .ref h0_aside, .ref h0_name, .ref h0_readName, .ref h0_keptName, .ref h0_isKept, .ref h0_onces, .int h0_snapMany, .int h0_lowest, .int h0_highest, .int h0_agreed, .int h0_jurors, .int h0_panelled, .ref h0_inSets, .int h0_surely, .int h0_asked, .ref h0_frees, .int h0_struck, .int h0_beating, .ref h0_text, .int h0_texts, .int h0_seed, .ref h0_line, .ref h0_written, .int h0_lineMany, .int h0_hasWritten, .ref h0_node, .int h0_nodes, .int h0_onesMany, .int h0_within, .int h0_top])), (aI ca h0_now 376 F_h0_now)] := hD
  try dsimp only at w_15
  rcases w_15 with h_16 | ⟨h_17, h_18⟩
  · skip
    subst h_16
    refine lv_if_eq (tgt := 30) hx hb dX12_ring_10 (by decide) (fun _ => ?_) (fun c => absurd (by decide) c)
    refine lv_iconst (v := (-1)) hx hb dX12_ring_30 (by decide) ?_
    exact oE_i hx hb hr rfl hlocks hP hD hS () [0, 1] rfl (by decide) (⟨by decide, by decide⟩ : rg (-1) 2147483647 ((-1) : Int32)) (Nat.le_of_ble_eq_true rfl) (Nat.le_of_ble_eq_true rfl) dX12_ring_31
  · skip
    subst h_17
    refine lv_if_eq (tgt := 30) hx hb dX12_ring_10 (by decide) (fun c => absurd c (by decide)) (fun _ => ?_)
    refine lv_aload_n hx hb dX12_ring_13 rfl (lv_at hl 0 rfl) ?_
    refine lv_iload_n hx hb dX12_ring_14 rfl (lv_at hl 2 rfl) ?_
    refine oC_i (Wc := [(h0, .inr (11, [.int 0, .ref h0_tape, .int h0_taped, .int h0_size, .int h0_limit, .int h0_to, .int h0_from, .int h0_kind, .int h0_number, .int h0_sign, .int h0_fault, .int h0_place, .long h0_word, .int h0_told, .ref h0_now, .ref h0_read, .ref h0_kept, .ref h0_snaps, .ref h0_aside, .ref h0_name, .ref h0_readName, .ref h0_keptName, .ref h0_isKept, .ref h0_onces, .int h0_snapMany, .int h0_lowest, .int h0_highest, .int h0_agreed, .int h0_jurors, .int h0_panelled, .ref h0_inSets, .int h0_surely, .int h0_asked, .ref h0_frees, .int h0_struck, .int h0_beating, .ref h0_text, .int h0_texts, .int h0_seed, .ref h0_line, .ref h0_written, .int h0_lineMany, .int h0_hasWritten, .ref h0_node, .int h0_nodes, .int h0_onesMany, .int h0_within, .int h0_top])), (aI ca h0_now 376 F_h0_now)]) (Wr := []) (va_runV (As := [.int a2]) (rest := []) ⟨hx, hb, hml, hown, hts⟩ (s_X12_isFloor l D ca H.size h0 a2 0 h0_tape h0_taped h0_size h0_limit h0_to h0_from h0_kind h0_number h0_sign h0_fault h0_place h0_word h0_told h0_now h0_read h0_kept h0_snaps h0_aside h0_name h0_readName h0_keptName h0_isKept h0_onces h0_snapMany h0_lowest h0_highest h0_agreed h0_jurors h0_panelled h0_inSets h0_surely h0_asked h0_frees h0_struck h0_beating h0_text h0_texts h0_seed h0_line h0_written h0_lineMany h0_hasWritten h0_node h0_nodes h0_onesMany h0_within h0_top F_h0_now i_h0_taped i_h0_size i_h0_to i_h0_kind i_h0_snapMany i_h0_texts i_h0_lineMany i_h0_hasWritten i_h0_nodes i_h0_onesMany s_h0_now_0 s_h0_now_1 s_h0_now_2 s_h0_now_3 s_h0_now_4 s_h0_now_5 s_h0_now_6 s_h0_now_7) (cwV 1 hts gX12_ring_X12_isFloor rfl rfl rfl (by decide +kernel) ⟨Nat.le_of_ble_eq_true rfl, Nat.le_of_ble_eq_true rfl⟩) (oPV (C := RX12) hK hP hD [0, 1] rfl (by decide) 0 rfl (ci := 11) rfl rfl) rfl rfl hl.1 rfl (lv_room (Nat.le_of_ble_eq_true rfl)) dX12_ring_15 ⟨Nat.le_of_ble_eq_true rfl, Nat.le_of_ble_eq_true rfl⟩) hP hD hS hA [0, 1] [] rfl rfl (by decide) (by decide) (fun r_19 u H locs w_20 hP hD hS => ?_)
    obtain ⟨⟩ := u
    have hP : va_P D vwCl [(h0, .inr (11, [.int 0, .ref h0_tape, .int h0_taped, .int h0_size, .int h0_limit, .int h0_to, .int h0_from, .int h0_kind, .int h0_number, .int h0_sign, .int h0_fault, .int h0_place, .long h0_word, .int h0_told, .ref h0_now, .ref h0_read, .ref h0_kept, .ref h0_snaps, .ref h0_aside, .ref h0_name, .ref h0_readName, .ref h0_keptName, .ref h0_isKept, .ref h0_onces, .int h0_snapMany, .int h0_lowest, .int h0_highest, .int h0_agreed, .int h0_jurors, .int h0_panelled, .ref h0_inSets, .int h0_surely, .int h0_asked, .ref h0_frees, .int h0_struck, .int h0_beating, .ref h0_text, .int h0_texts, .int h0_seed, .ref h0_line, .ref h0_written, .int h0_lineMany, .int h0_hasWritten, .ref h0_node, .int h0_nodes, .int h0_onesMany, .int h0_within, .int h0_top])), (aI ca h0_now 376 F_h0_now)] H := hP
    have hD : va_D A [(h0, .inr (11, [.int 0, .ref h0_tape, .int h0_taped, .int h0_size, .int h0_limit, .int h0_to, .int h0_from, .int h0_kind, .int h0_number, .int h0_sign, .int h0_fault, .int h0_place, .long h0_word, .int h0_told, .ref h0_now, .ref h0_read, .ref h0_kept, .ref h0_snaps, .ref h0_aside, .ref h0_name, .ref h0_readName, .ref h0_keptName, .ref h0_isKept, .ref h0_onces, .int h0_snapMany, .int h0_lowest, .int h0_highest, .int h0_agreed, .int h0_jurors, .int h0_panelled, .ref h0_inSets, .int h0_surely, .int h0_asked, .ref h0_frees, .int h0_struck, .int h0_beating, .ref h0_text, .int h0_texts, .int h0_seed, .ref h0_line, .ref h0_written, .int h0_lineMany, .int h0_hasWritten, .ref h0_node, .int h0_nodes, .int h0_onesMany, .int h0_within, .int h0_top])), (aI ca h0_now 376 F_h0_now)] := hD
    try dsimp only at w_20
    rcases w_20 with h_21 | ⟨h_22, h_23⟩
    · skip
      subst h_21
      refine lv_if_eq (tgt := 30) hx hb dX12_ring_18 (by decide) (fun _ => ?_) (fun c => absurd (by decide) c)
      refine lv_iconst (v := (-1)) hx hb dX12_ring_30 (by decide) ?_
      exact oE_i hx hb hr rfl hlocks hP hD hS () [0, 1] rfl (by decide) (⟨by decide, by decide⟩ : rg (-1) 2147483647 ((-1) : Int32)) (Nat.le_of_ble_eq_true rfl) (Nat.le_of_ble_eq_true rfl) dX12_ring_31
    · skip
      subst h_22
      refine lv_if_eq (tgt := 30) hx hb dX12_ring_18 (by decide) (fun c => absurd c (by decide)) (fun _ => ?_)
      refine lv_aload_n hx hb dX12_ring_21 rfl (lv_at hl 0 rfl) ?_
      refine lv_iload_n hx hb dX12_ring_22 rfl (lv_at hl 1 rfl) ?_
      refine lv_iload_n hx hb dX12_ring_23 rfl (lv_at hl 2 rfl) ?_
      refine oC_i (Wc := [(h0, .inr (11, [.int 0, .ref h0_tape, .int h0_taped, .int h0_size, .int h0_limit, .int h0_to, .int h0_from, .int h0_kind, .int h0_number, .int h0_sign, .int h0_fault, .int h0_place, .long h0_word, .int h0_told, .ref h0_now, .ref h0_read, .ref h0_kept, .ref h0_snaps, .ref h0_aside, .ref h0_name, .ref h0_readName, .ref h0_keptName, .ref h0_isKept, .ref h0_onces, .int h0_snapMany, .int h0_lowest, .int h0_highest, .int h0_agreed, .int h0_jurors, .int h0_panelled, .ref h0_inSets, .int h0_surely, .int h0_asked, .ref h0_frees, .int h0_struck, .int h0_beating, .ref h0_text, .int h0_texts, .int h0_seed, .ref h0_line, .ref h0_written, .int h0_lineMany, .int h0_hasWritten, .ref h0_node, .int h0_nodes, .int h0_onesMany, .int h0_within, .int h0_top])), (aI ca h0_now 376 F_h0_now)]) (Wr := []) (va_runV (As := [.int a1, .int a2]) (rest := []) ⟨hx, hb, hml, hown, hts⟩ (s_X12_ringOf l D ca H.size h0 a1 a2 0 h0_tape h0_taped h0_size h0_limit h0_to h0_from h0_kind h0_number h0_sign h0_fault h0_place h0_word h0_told h0_now h0_read h0_kept h0_snaps h0_aside h0_name h0_readName h0_keptName h0_isKept h0_onces h0_snapMany h0_lowest h0_highest h0_agreed h0_jurors h0_panelled h0_inSets h0_surely h0_asked h0_frees h0_struck h0_beating h0_text h0_texts h0_seed h0_line h0_written h0_lineMany h0_hasWritten h0_node h0_nodes h0_onesMany h0_within h0_top F_h0_now h_18 h_23 i_h0_taped i_h0_size i_h0_to i_h0_kind i_h0_snapMany i_h0_texts i_h0_lineMany i_h0_hasWritten i_h0_nodes i_h0_onesMany s_h0_now_0 s_h0_now_1 s_h0_now_2 s_h0_now_3 s_h0_now_4 s_h0_now_5 s_h0_now_6 s_h0_now_7) (cwV 2 hts gX12_ring_X12_ringOf rfl rfl rfl (by decide +kernel) ⟨Nat.le_of_ble_eq_true rfl, Nat.le_of_ble_eq_true rfl⟩) (oPV (C := RX12) hK hP hD [0, 1] rfl (by decide) 0 rfl (ci := 11) rfl rfl) rfl rfl hl.1 rfl (lv_room (Nat.le_of_ble_eq_true rfl)) dX12_ring_24 ⟨Nat.le_of_ble_eq_true rfl, Nat.le_of_ble_eq_true rfl⟩) hP hD hS hA [0, 1] [] rfl rfl (by decide) (by decide) (fun r_24 u H locs w_25 hP hD hS => ?_)
      obtain ⟨⟩ := u
      have hP : va_P D vwCl [(h0, .inr (11, [.int 0, .ref h0_tape, .int h0_taped, .int h0_size, .int h0_limit, .int h0_to, .int h0_from, .int h0_kind, .int h0_number, .int h0_sign, .int h0_fault, .int h0_place, .long h0_word, .int h0_told, .ref h0_now, .ref h0_read, .ref h0_kept, .ref h0_snaps, .ref h0_aside, .ref h0_name, .ref h0_readName, .ref h0_keptName, .ref h0_isKept, .ref h0_onces, .int h0_snapMany, .int h0_lowest, .int h0_highest, .int h0_agreed, .int h0_jurors, .int h0_panelled, .ref h0_inSets, .int h0_surely, .int h0_asked, .ref h0_frees, .int h0_struck, .int h0_beating, .ref h0_text, .int h0_texts, .int h0_seed, .ref h0_line, .ref h0_written, .int h0_lineMany, .int h0_hasWritten, .ref h0_node, .int h0_nodes, .int h0_onesMany, .int h0_within, .int h0_top])), (aI ca h0_now 376 F_h0_now)] H := hP
      have hD : va_D A [(h0, .inr (11, [.int 0, .ref h0_tape, .int h0_taped, .int h0_size, .int h0_limit, .int h0_to, .int h0_from, .int h0_kind, .int h0_number, .int h0_sign, .int h0_fault, .int h0_place, .long h0_word, .int h0_told, .ref h0_now, .ref h0_read, .ref h0_kept, .ref h0_snaps, .ref h0_aside, .ref h0_name, .ref h0_readName, .ref h0_keptName, .ref h0_isKept, .ref h0_onces, .int h0_snapMany, .int h0_lowest, .int h0_highest, .int h0_agreed, .int h0_jurors, .int h0_panelled, .ref h0_inSets, .int h0_surely, .int h0_asked, .ref h0_frees, .int h0_struck, .int h0_beating, .ref h0_text, .int h0_texts, .int h0_seed, .ref h0_line, .ref h0_written, .int h0_lineMany, .int h0_hasWritten, .ref h0_node, .int h0_nodes, .int h0_onesMany, .int h0_within, .int h0_top])), (aI ca h0_now 376 F_h0_now)] := hD
      try dsimp only at w_25
      have h_26 := w_25
      refine lv_goto (tgt := 31) hx hb dX12_ring_27 (by decide) ?_
      exact oE_i hx hb hr rfl hlocks hP hD hS () [0, 1] rfl (by decide) (rgw (lo := (-1)) (hi := 2147483647) h_26 (by decide) (by decide)) (Nat.le_of_ble_eq_true rfl) (Nat.le_of_ble_eq_true rfl) dX12_ring_31
theorem dX12_lastsOf_0 : decode cX12_lastsOf 0 = .ok (.aload_n 0, 1) := by decide +kernel
theorem dX12_lastsOf_1 : decode cX12_lastsOf 1 = .ok (.getfield 98, 3) := by decide +kernel
theorem dX12_lastsOf_4 : decode cX12_lastsOf 4 = .ok (.bipush 15, 2) := by decide +kernel
theorem dX12_lastsOf_6 : decode cX12_lastsOf 6 = .ok (.iload_n 1, 1) := by decide +kernel
theorem dX12_lastsOf_7 : decode cX12_lastsOf 7 = .ok (.iadd, 1) := by decide +kernel
theorem dX12_lastsOf_8 : decode cX12_lastsOf 8 = .ok (.iaload, 1) := by decide +kernel
theorem dX12_lastsOf_9 : decode cX12_lastsOf 9 = .ok (.aload_n 0, 1) := by decide +kernel
theorem dX12_lastsOf_10 : decode cX12_lastsOf 10 = .ok (.getfield 98, 3) := by decide +kernel
theorem dX12_lastsOf_13 : decode cX12_lastsOf 13 = .ok (.bipush 40, 2) := by decide +kernel
theorem dX12_lastsOf_15 : decode cX12_lastsOf 15 = .ok (.iload_n 2, 1) := by decide +kernel
theorem dX12_lastsOf_16 : decode cX12_lastsOf 16 = .ok (.iadd, 1) := by decide +kernel
theorem dX12_lastsOf_17 : decode cX12_lastsOf 17 = .ok (.iaload, 1) := by decide +kernel
theorem dX12_lastsOf_18 : decode cX12_lastsOf 18 = .ok (.isub, 1) := by decide +kernel
theorem dX12_lastsOf_19 : decode cX12_lastsOf 19 = .ok (.iconst 1, 1) := by decide +kernel
theorem dX12_lastsOf_20 : decode cX12_lastsOf 20 = .ok (.if_icmp .ge 7, 3) := by decide +kernel
theorem dX12_lastsOf_23 : decode cX12_lastsOf 23 = .ok (.iconst 1, 1) := by decide +kernel
theorem dX12_lastsOf_24 : decode cX12_lastsOf 24 = .ok (.goto 22, 3) := by decide +kernel
theorem dX12_lastsOf_27 : decode cX12_lastsOf 27 = .ok (.aload_n 0, 1) := by decide +kernel
theorem dX12_lastsOf_28 : decode cX12_lastsOf 28 = .ok (.getfield 98, 3) := by decide +kernel
theorem dX12_lastsOf_31 : decode cX12_lastsOf 31 = .ok (.bipush 15, 2) := by decide +kernel
theorem dX12_lastsOf_33 : decode cX12_lastsOf 33 = .ok (.iload_n 1, 1) := by decide +kernel
theorem dX12_lastsOf_34 : decode cX12_lastsOf 34 = .ok (.iadd, 1) := by decide +kernel
theorem dX12_lastsOf_35 : decode cX12_lastsOf 35 = .ok (.iaload, 1) := by decide +kernel
theorem dX12_lastsOf_36 : decode cX12_lastsOf 36 = .ok (.aload_n 0, 1) := by decide +kernel
theorem dX12_lastsOf_37 : decode cX12_lastsOf 37 = .ok (.getfield 98, 3) := by decide +kernel
theorem dX12_lastsOf_40 : decode cX12_lastsOf 40 = .ok (.bipush 40, 2) := by decide +kernel
theorem dX12_lastsOf_42 : decode cX12_lastsOf 42 = .ok (.iload_n 2, 1) := by decide +kernel
theorem dX12_lastsOf_43 : decode cX12_lastsOf 43 = .ok (.iadd, 1) := by decide +kernel
theorem dX12_lastsOf_44 : decode cX12_lastsOf 44 = .ok (.iaload, 1) := by decide +kernel
theorem dX12_lastsOf_45 : decode cX12_lastsOf 45 = .ok (.isub, 1) := by decide +kernel
theorem dX12_lastsOf_46 : decode cX12_lastsOf 46 = .ok (.ireturn, 1) := by decide +kernel
set_option maxHeartbeats 4000000 in
set_option maxRecDepth 100000 in
theorem s_X12_lastsOf (l : Launch) (D : va_G) (ca : Nat → ClassId) (sz : Nat) (h0 : Nat) (a1 : Int32) (a2 : Int32) (h0_thrown : Int32) (h0_tape : Nat) (h0_taped : Int32) (h0_size : Int32) (h0_limit : Int32) (h0_to : Int32) (h0_from : Int32) (h0_kind : Int32) (h0_number : Int32) (h0_sign : Int32) (h0_fault : Int32) (h0_place : Int32) (h0_word : Int64) (h0_told : Int32) (h0_now : Nat) (h0_read : Nat) (h0_kept : Nat) (h0_snaps : Nat) (h0_aside : Nat) (h0_name : Nat) (h0_readName : Nat) (h0_keptName : Nat) (h0_isKept : Nat) (h0_onces : Nat) (h0_snapMany : Int32) (h0_lowest : Int32) (h0_highest : Int32) (h0_agreed : Int32) (h0_jurors : Int32) (h0_panelled : Int32) (h0_inSets : Nat) (h0_surely : Int32) (h0_asked : Int32) (h0_frees : Nat) (h0_struck : Int32) (h0_beating : Int32) (h0_text : Nat) (h0_texts : Int32) (h0_seed : Int32) (h0_line : Nat) (h0_written : Nat) (h0_lineMany : Int32) (h0_hasWritten : Int32) (h0_node : Nat) (h0_nodes : Int32) (h0_onesMany : Int32) (h0_within : Int32) (h0_top : Int32) (F_h0_now : Nat → Int32) (i_a1 : rg 0 9 a1) (i_a2 : rg 0 3 a2) (i_h0_taped : rg 0 940 h0_taped) (i_h0_size : rg 0 940 h0_size) (i_h0_to : rg 0 940 h0_to) (i_h0_kind : rg 0 4 h0_kind) (i_h0_snapMany : rg 0 8 h0_snapMany) (i_h0_texts : rg 0 64 h0_texts) (i_h0_lineMany : rg 0 40 h0_lineMany) (i_h0_hasWritten : rg 0 1 h0_hasWritten) (i_h0_nodes : rg 0 60 h0_nodes) (i_h0_onesMany : rg 0 20 h0_onesMany) (s_h0_now_0 : sg 0 1 0 10 F_h0_now) (s_h0_now_1 : sg 1 2 0 4 F_h0_now) (s_h0_now_2 : sg 2 3 0 5 F_h0_now) (s_h0_now_3 : sg 35 36 0 1023 F_h0_now) (s_h0_now_4 : sg 44 49 0 3 F_h0_now) (s_h0_now_5 : sg 90 91 0 1023 F_h0_now) (s_h0_now_6 : sg 124 129 0 1023 F_h0_now) (s_h0_now_7 : sg 135 136 0 39 F_h0_now) : oMet l yX12_lastsOf wsX12_lastsOf ({ frames := 0, cells := 0, slots := 0, locals := 0 } : Room) [.ref h0, .int a1, .int a2] D ca sz [(h0, .inr (11, [.int h0_thrown, .ref h0_tape, .int h0_taped, .int h0_size, .int h0_limit, .int h0_to, .int h0_from, .int h0_kind, .int h0_number, .int h0_sign, .int h0_fault, .int h0_place, .long h0_word, .int h0_told, .ref h0_now, .ref h0_read, .ref h0_kept, .ref h0_snaps, .ref h0_aside, .ref h0_name, .ref h0_readName, .ref h0_keptName, .ref h0_isKept, .ref h0_onces, .int h0_snapMany, .int h0_lowest, .int h0_highest, .int h0_agreed, .int h0_jurors, .int h0_panelled, .ref h0_inSets, .int h0_surely, .int h0_asked, .ref h0_frees, .int h0_struck, .int h0_beating, .ref h0_text, .int h0_texts, .int h0_seed, .ref h0_line, .ref h0_written, .int h0_lineMany, .int h0_hasWritten, .ref h0_node, .int h0_nodes, .int h0_onesMany, .int h0_within, .int h0_top])), (aI ca h0_now 376 F_h0_now)] (oQi D (fun (r : Int32) (u : Unit) => True) (fun (u : Unit) => [(h0, .inr (11, [.int h0_thrown, .ref h0_tape, .int h0_taped, .int h0_size, .int h0_limit, .int h0_to, .int h0_from, .int h0_kind, .int h0_number, .int h0_sign, .int h0_fault, .int h0_place, .long h0_word, .int h0_told, .ref h0_now, .ref h0_read, .ref h0_kept, .ref h0_snaps, .ref h0_aside, .ref h0_name, .ref h0_readName, .ref h0_keptName, .ref h0_isKept, .ref h0_onces, .int h0_snapMany, .int h0_lowest, .int h0_highest, .int h0_agreed, .int h0_jurors, .int h0_panelled, .ref h0_inSets, .int h0_surely, .int h0_asked, .ref h0_frees, .int h0_struck, .int h0_beating, .ref h0_text, .int h0_texts, .int h0_seed, .ref h0_line, .ref h0_written, .int h0_lineMany, .int h0_hasWritten, .ref h0_node, .int h0_nodes, .int h0_onesMany, .int h0_within, .int h0_top])), (aI ca h0_now 376 F_h0_now)])) 0 0 := by
  refine oM (cc := cX12_lastsOf) (maxL := 3) (ret := (some .int)) (by decide) rfl (Nat.le_of_ble_eq_true rfl) [(0, .ref h0), (1, .int a1), (2, .int a2)] rfl ?_
  intro p e s m below meth c A H locs ls hx hb hr hml hts hown hlocks hin hK hP hD hA hS hl
  have hown : s.vm.findClass RX12 = some m.cls := hown
  have k1 := hts (.fieldLink RX12 98 "LidCourtModel" "now" "[I") (by decide +kernel)
  have k2 : ∀ w ∈ wsX120, w ∈ wsX12_lastsOf := fun _ h => List.mem_cons_of_mem _ (List.mem_append_right _ h)
  refine lv_aload_n hx hb dX12_lastsOf_0 rfl (lv_at hl 0 rfl) ?_
  refine va_get (D := D) (ci := 11) (v := .ref h0_now) (C := RX12) (T := TX12) (N := 48) hx hb hts k2 hown hK.1 hP 0 rfl rfl 14 (by decide) k1 (fun _ h9 => h9) rfl dX12_lastsOf_1 ?_
  refine lv_bipush (v := 15) hx hb dX12_lastsOf_4 (by decide) ?_
  refine lv_iload_n hx hb dX12_lastsOf_6 rfl (lv_at hl 1 rfl) ?_
  refine lv_iadd hx hb dX12_lastsOf_7 ?_
  refine lv_topi (fun x_24 ex_24 => ?_)
  have h_25 : rg 15 24 x_24 := by rw [ex_24]; exact rg_add (⟨by decide, by decide⟩ : rg 15 15 (15 : Int32)) i_a1 (by decide) (by decide) (by decide) (by decide)
  have l_26 : lq x_24.toInt (a1.toInt + 15) := lqm (by rw [ex_24]; have q := tadd (⟨by decide, by decide⟩ : rg 15 15 (15 : Int32)) i_a1 (by decide) (by decide); have r0 := lqe (lqm (by decide) : lq (15 : Int32).toInt 15); omega)
  refine va_iald hx hb hK.1 hP 1 0 rfl rfl (rg_in h_25 (by decide) (by decide)) dX12_lastsOf_8 ?_
  refine lv_topi (fun x_27 ex_27 => ?_)
  refine lv_aload_n hx hb dX12_lastsOf_9 rfl (lv_at hl 0 rfl) ?_
  refine va_get (D := D) (ci := 11) (v := .ref h0_now) (C := RX12) (T := TX12) (N := 48) hx hb hts k2 hown hK.1 hP 0 rfl rfl 14 (by decide) k1 (fun _ h9 => h9) rfl dX12_lastsOf_10 ?_
  refine lv_bipush (v := 40) hx hb dX12_lastsOf_13 (by decide) ?_
  refine lv_iload_n hx hb dX12_lastsOf_15 rfl (lv_at hl 2 rfl) ?_
  refine lv_iadd hx hb dX12_lastsOf_16 ?_
  refine lv_topi (fun x_28 ex_28 => ?_)
  have h_29 : rg 40 43 x_28 := by rw [ex_28]; exact rg_add (⟨by decide, by decide⟩ : rg 40 40 (40 : Int32)) i_a2 (by decide) (by decide) (by decide) (by decide)
  have l_30 : lq x_28.toInt (a2.toInt + 40) := lqm (by rw [ex_28]; have q := tadd (⟨by decide, by decide⟩ : rg 40 40 (40 : Int32)) i_a2 (by decide) (by decide); have r0 := lqe (lqm (by decide) : lq (40 : Int32).toInt 40); omega)
  refine va_iald hx hb hK.1 hP 1 0 rfl rfl (rg_in h_29 (by decide) (by decide)) dX12_lastsOf_17 ?_
  refine lv_topi (fun x_31 ex_31 => ?_)
  refine lv_isub hx hb dX12_lastsOf_18 ?_
  refine lv_topi (fun x_32 ex_32 => ?_)
  refine lv_iconst (v := 1) hx hb dX12_lastsOf_19 (by decide) ?_
  refine lv_icmp_ge (tgt := 27) hx hb dX12_lastsOf_20 (by decide) (fun c_33 => ?_) (fun c_33 => ?_)
  · skip
    have o_34 : rl 0 1 x_32 := rl_le c_33
    have h_35 : rg 1 2147483647 x_32 := rl_y o_34 (⟨by decide, by decide⟩ : rg 1 1 (1 : Int32)) (rga x_32) (by decide) (by decide)
    refine lv_aload_n hx hb dX12_lastsOf_27 rfl (lv_at hl 0 rfl) ?_
    refine va_get (D := D) (ci := 11) (v := .ref h0_now) (C := RX12) (T := TX12) (N := 48) hx hb hts k2 hown hK.1 hP 0 rfl rfl 14 (by decide) k1 (fun _ h9 => h9) rfl dX12_lastsOf_28 ?_
    refine lv_bipush (v := 15) hx hb dX12_lastsOf_31 (by decide) ?_
    refine lv_iload_n hx hb dX12_lastsOf_33 rfl (lv_at hl 1 rfl) ?_
    refine lv_iadd hx hb dX12_lastsOf_34 ?_
    refine lv_topi (fun x_36 ex_36 => ?_)
    have h_37 : rg 15 24 x_36 := by rw [ex_36]; exact rg_add (⟨by decide, by decide⟩ : rg 15 15 (15 : Int32)) i_a1 (by decide) (by decide) (by decide) (by decide)
    have l_38 : lq x_36.toInt (a1.toInt + 15) := lqm (by rw [ex_36]; have q := tadd (⟨by decide, by decide⟩ : rg 15 15 (15 : Int32)) i_a1 (by decide) (by decide); have r0 := lqe (lqm (by decide) : lq (15 : Int32).toInt 15); omega)
    refine va_iald hx hb hK.1 hP 1 0 rfl rfl (rg_in h_37 (by decide) (by decide)) dX12_lastsOf_35 ?_
    refine lv_topi (fun x_39 ex_39 => ?_)
    refine lv_aload_n hx hb dX12_lastsOf_36 rfl (lv_at hl 0 rfl) ?_
    refine va_get (D := D) (ci := 11) (v := .ref h0_now) (C := RX12) (T := TX12) (N := 48) hx hb hts k2 hown hK.1 hP 0 rfl rfl 14 (by decide) k1 (fun _ h9 => h9) rfl dX12_lastsOf_37 ?_
    refine lv_bipush (v := 40) hx hb dX12_lastsOf_40 (by decide) ?_
    refine lv_iload_n hx hb dX12_lastsOf_42 rfl (lv_at hl 2 rfl) ?_
    refine lv_iadd hx hb dX12_lastsOf_43 ?_
    refine lv_topi (fun x_40 ex_40 => ?_)
    have h_41 : rg 40 43 x_40 := by rw [ex_40]; exact rg_add (⟨by decide, by decide⟩ : rg 40 40 (40 : Int32)) i_a2 (by decide) (by decide) (by decide) (by decide)
    have l_42 : lq x_40.toInt (a2.toInt + 40) := lqm (by rw [ex_40]; have q := tadd (⟨by decide, by decide⟩ : rg 40 40 (40 : Int32)) i_a2 (by decide) (by decide); have r0 := lqe (lqm (by decide) : lq (40 : Int32).toInt 40); omega)
    refine va_iald hx hb hK.1 hP 1 0 rfl rfl (rg_in h_41 (by decide) (by decide)) dX12_lastsOf_44 ?_
    refine lv_topi (fun x_43 ex_43 => ?_)
    refine lv_isub hx hb dX12_lastsOf_45 ?_
    refine lv_topi (fun x_44 ex_44 => ?_)
    exact oE_i hx hb hr rfl hlocks hP hD hS () [0, 1] rfl (by decide) trivial (Nat.le_of_ble_eq_true rfl) (Nat.le_of_ble_eq_true rfl) dX12_lastsOf_46
  · skip
    have o_45 : rl 1 x_32 1 := rl_nle c_33
    have h_46 : rg (-2147483648) 0 x_32 := rl_x o_45 (rga x_32) (⟨by decide, by decide⟩ : rg 1 1 (1 : Int32)) (by decide) (by decide)
    refine lv_iconst (v := 1) hx hb dX12_lastsOf_23 (by decide) ?_
    refine lv_goto (tgt := 46) hx hb dX12_lastsOf_24 (by decide) ?_
    exact oE_i hx hb hr rfl hlocks hP hD hS () [0, 1] rfl (by decide) trivial (Nat.le_of_ble_eq_true rfl) (Nat.le_of_ble_eq_true rfl) dX12_lastsOf_46
theorem dX12_lasts_0 : decode cX12_lasts 0 = .ok (.aload_n 0, 1) := by decide +kernel
theorem dX12_lasts_1 : decode cX12_lasts 1 = .ok (.iconst 0, 1) := by decide +kernel
theorem dX12_lasts_2 : decode cX12_lasts 2 = .ok (.putfield 1, 3) := by decide +kernel
theorem dX12_lasts_5 : decode cX12_lasts 5 = .ok (.aload_n 0, 1) := by decide +kernel
theorem dX12_lasts_6 : decode cX12_lasts 6 = .ok (.iload_n 1, 1) := by decide +kernel
theorem dX12_lasts_7 : decode cX12_lasts 7 = .ok (.invokevirtual 249, 3) := by decide +kernel
theorem dX12_lasts_10 : decode cX12_lasts 10 = .ok (.ifCond .eq 20, 3) := by decide +kernel
theorem dX12_lasts_13 : decode cX12_lasts 13 = .ok (.aload_n 0, 1) := by decide +kernel
theorem dX12_lasts_14 : decode cX12_lasts 14 = .ok (.iload_n 2, 1) := by decide +kernel
theorem dX12_lasts_15 : decode cX12_lasts 15 = .ok (.invokevirtual 261, 3) := by decide +kernel
theorem dX12_lasts_18 : decode cX12_lasts 18 = .ok (.ifCond .eq 12, 3) := by decide +kernel
theorem dX12_lasts_21 : decode cX12_lasts 21 = .ok (.aload_n 0, 1) := by decide +kernel
theorem dX12_lasts_22 : decode cX12_lasts 22 = .ok (.iload_n 1, 1) := by decide +kernel
theorem dX12_lasts_23 : decode cX12_lasts 23 = .ok (.iload_n 2, 1) := by decide +kernel
theorem dX12_lasts_24 : decode cX12_lasts 24 = .ok (.invokevirtual 268, 3) := by decide +kernel
theorem dX12_lasts_27 : decode cX12_lasts 27 = .ok (.goto 4, 3) := by decide +kernel
theorem dX12_lasts_30 : decode cX12_lasts 30 = .ok (.iconst (-1), 1) := by decide +kernel
theorem dX12_lasts_31 : decode cX12_lasts 31 = .ok (.ireturn, 1) := by decide +kernel
set_option maxRecDepth 20000 in
theorem ggX12_lasts_X12_isJuror : GoodIn wsX12_lasts wsX12_isJuror := goodIn_r _ [6, 7, 8, 9, 5, 10, 19, 20, 21, 22, 23, 24, 25, 26, 27, 28, 29, 30, 31, 32, 33, 34, 35, 36, 37, 38, 39, 40, 41, 42, 43, 44, 45, 46, 47, 48, 49, 50, 51, 52, 53, 54, 55, 56, 57, 58, 59, 60, 61, 62, 63, 64, 65, 66] rfl (by decide +kernel)
set_option maxRecDepth 20000 in
theorem gX12_lasts_X12_isJuror : GoodIn wsX12_lasts (wsV RX12 249 RX12 yX12_isJuror wsX12_isJuror) := goodIn_app (goodIn_of _ (by decide +kernel)) ggX12_lasts_X12_isJuror
set_option maxRecDepth 20000 in
theorem ggX12_lasts_X12_isFloor : GoodIn wsX12_lasts wsX12_isFloor := goodIn_r _ [14, 7, 8, 9, 5, 10, 19, 20, 21, 22, 23, 24, 25, 26, 27, 28, 29, 30, 31, 32, 33, 34, 35, 36, 37, 38, 39, 40, 41, 42, 43, 44, 45, 46, 47, 48, 49, 50, 51, 52, 53, 54, 55, 56, 57, 58, 59, 60, 61, 62, 63, 64, 65, 66] rfl (by decide +kernel)
set_option maxRecDepth 20000 in
theorem gX12_lasts_X12_isFloor : GoodIn wsX12_lasts (wsV RX12 261 RX12 yX12_isFloor wsX12_isFloor) := goodIn_app (goodIn_of _ (by decide +kernel)) ggX12_lasts_X12_isFloor
set_option maxRecDepth 20000 in
theorem ggX12_lasts_X12_lastsOf : GoodIn wsX12_lasts wsX12_lastsOf := goodIn_r _ [18, 7, 19, 20, 21, 22, 23, 24, 25, 26, 27, 28, 29, 30, 31, 32, 33, 34, 35, 36, 37, 38, 39, 40, 41, 42, 43, 44, 45, 46, 47, 48, 49, 50, 51, 52, 53, 54, 55, 56, 57, 58, 59, 60, 61, 62, 63, 64, 65, 66] rfl (by decide +kernel)
set_option maxRecDepth 20000 in
theorem gX12_lasts_X12_lastsOf : GoodIn wsX12_lasts (wsV RX12 268 RX12 yX12_lastsOf wsX12_lastsOf) := goodIn_app (goodIn_of _ (by decide +kernel)) ggX12_lasts_X12_lastsOf
set_option maxHeartbeats 4000000 in
set_option maxRecDepth 100000 in
theorem s_X12_lasts (l : Launch) (D : va_G) (ca : Nat → ClassId) (sz : Nat) (h0 : Nat) (a1 : Int32) (a2 : Int32) (h0_thrown : Int32) (h0_tape : Nat) (h0_taped : Int32) (h0_size : Int32) (h0_limit : Int32) (h0_to : Int32) (h0_from : Int32) (h0_kind : Int32) (h0_number : Int32) (h0_sign : Int32) (h0_fault : Int32) (h0_place : Int32) (h0_word : Int64) (h0_told : Int32) (h0_now : Nat) (h0_read : Nat) (h0_kept : Nat) (h0_snaps : Nat) (h0_aside : Nat) (h0_name : Nat) (h0_readName : Nat) (h0_keptName : Nat) (h0_isKept : Nat) (h0_onces : Nat) (h0_snapMany : Int32) (h0_lowest : Int32) (h0_highest : Int32) (h0_agreed : Int32) (h0_jurors : Int32) (h0_panelled : Int32) (h0_inSets : Nat) (h0_surely : Int32) (h0_asked : Int32) (h0_frees : Nat) (h0_struck : Int32) (h0_beating : Int32) (h0_text : Nat) (h0_texts : Int32) (h0_seed : Int32) (h0_line : Nat) (h0_written : Nat) (h0_lineMany : Int32) (h0_hasWritten : Int32) (h0_node : Nat) (h0_nodes : Int32) (h0_onesMany : Int32) (h0_within : Int32) (h0_top : Int32) (F_h0_now : Nat → Int32) (i_h0_taped : rg 0 940 h0_taped) (i_h0_size : rg 0 940 h0_size) (i_h0_to : rg 0 940 h0_to) (i_h0_kind : rg 0 4 h0_kind) (i_h0_snapMany : rg 0 8 h0_snapMany) (i_h0_texts : rg 0 64 h0_texts) (i_h0_lineMany : rg 0 40 h0_lineMany) (i_h0_hasWritten : rg 0 1 h0_hasWritten) (i_h0_nodes : rg 0 60 h0_nodes) (i_h0_onesMany : rg 0 20 h0_onesMany) (s_h0_now_0 : sg 0 1 0 10 F_h0_now) (s_h0_now_1 : sg 1 2 0 4 F_h0_now) (s_h0_now_2 : sg 2 3 0 5 F_h0_now) (s_h0_now_3 : sg 35 36 0 1023 F_h0_now) (s_h0_now_4 : sg 44 49 0 3 F_h0_now) (s_h0_now_5 : sg 90 91 0 1023 F_h0_now) (s_h0_now_6 : sg 124 129 0 1023 F_h0_now) (s_h0_now_7 : sg 135 136 0 39 F_h0_now) : oMet l yX12_lasts wsX12_lasts ({ frames := 2, cells := 0, slots := 0, locals := 43 } : Room) [.ref h0, .int a1, .int a2] D ca sz [(h0, .inr (11, [.int h0_thrown, .ref h0_tape, .int h0_taped, .int h0_size, .int h0_limit, .int h0_to, .int h0_from, .int h0_kind, .int h0_number, .int h0_sign, .int h0_fault, .int h0_place, .long h0_word, .int h0_told, .ref h0_now, .ref h0_read, .ref h0_kept, .ref h0_snaps, .ref h0_aside, .ref h0_name, .ref h0_readName, .ref h0_keptName, .ref h0_isKept, .ref h0_onces, .int h0_snapMany, .int h0_lowest, .int h0_highest, .int h0_agreed, .int h0_jurors, .int h0_panelled, .ref h0_inSets, .int h0_surely, .int h0_asked, .ref h0_frees, .int h0_struck, .int h0_beating, .ref h0_text, .int h0_texts, .int h0_seed, .ref h0_line, .ref h0_written, .int h0_lineMany, .int h0_hasWritten, .ref h0_node, .int h0_nodes, .int h0_onesMany, .int h0_within, .int h0_top])), (aI ca h0_now 376 F_h0_now)] (oQi D (fun (r : Int32) (u : Unit) => True) (fun (u : Unit) => [(h0, .inr (11, [.int 0, .ref h0_tape, .int h0_taped, .int h0_size, .int h0_limit, .int h0_to, .int h0_from, .int h0_kind, .int h0_number, .int h0_sign, .int h0_fault, .int h0_place, .long h0_word, .int h0_told, .ref h0_now, .ref h0_read, .ref h0_kept, .ref h0_snaps, .ref h0_aside, .ref h0_name, .ref h0_readName, .ref h0_keptName, .ref h0_isKept, .ref h0_onces, .int h0_snapMany, .int h0_lowest, .int h0_highest, .int h0_agreed, .int h0_jurors, .int h0_panelled, .ref h0_inSets, .int h0_surely, .int h0_asked, .ref h0_frees, .int h0_struck, .int h0_beating, .ref h0_text, .int h0_texts, .int h0_seed, .ref h0_line, .ref h0_written, .int h0_lineMany, .int h0_hasWritten, .ref h0_node, .int h0_nodes, .int h0_onesMany, .int h0_within, .int h0_top])), (aI ca h0_now 376 F_h0_now)])) 0 0 := by
  refine oM (cc := cX12_lasts) (maxL := 3) (ret := (some .int)) (by decide) rfl (Nat.le_of_ble_eq_true rfl) [(0, .ref h0), (1, .int a1), (2, .int a2)] rfl ?_
  intro p e s m below meth c A H locs ls hx hb hr hml hts hown hlocks hin hK hP hD hA hS hl
  have hown : s.vm.findClass RX12 = some m.cls := hown
  have k1 := hts (.fieldLink RX12 1 "LidCourtModel" "thrown" "I") (by decide +kernel)
  have k2 : ∀ w ∈ wsX120, w ∈ wsX12_lasts := fun _ h => List.mem_cons_of_mem _ (List.mem_append_right _ h)
  refine lv_aload_n hx hb dX12_lasts_0 rfl (lv_at hl 0 rfl) ?_
  refine lv_iconst (v := 0) hx hb dX12_lasts_1 (by decide) ?_
  refine va_put (D := D) (ci := 11) (v := .int 0) (ty := .int) (C := RX12) (T := TX12) (N := 48) hx hb hts k2 tyX12 tyX12_ok nmX12 hown hK.1 hP hD hS 0 rfl rfl 0 (by decide) k1 (fun _ h9 => h9) rfl (by decide +kernel) rfl rfl (Nat.le_of_ble_eq_true rfl) dX12_lasts_2 (fun H locs hP hD hS => ?_)
  have hP : va_P D vwCl [(h0, .inr (11, [.int 0, .ref h0_tape, .int h0_taped, .int h0_size, .int h0_limit, .int h0_to, .int h0_from, .int h0_kind, .int h0_number, .int h0_sign, .int h0_fault, .int h0_place, .long h0_word, .int h0_told, .ref h0_now, .ref h0_read, .ref h0_kept, .ref h0_snaps, .ref h0_aside, .ref h0_name, .ref h0_readName, .ref h0_keptName, .ref h0_isKept, .ref h0_onces, .int h0_snapMany, .int h0_lowest, .int h0_highest, .int h0_agreed, .int h0_jurors, .int h0_panelled, .ref h0_inSets, .int h0_surely, .int h0_asked, .ref h0_frees, .int h0_struck, .int h0_beating, .ref h0_text, .int h0_texts, .int h0_seed, .ref h0_line, .ref h0_written, .int h0_lineMany, .int h0_hasWritten, .ref h0_node, .int h0_nodes, .int h0_onesMany, .int h0_within, .int h0_top])), (aI ca h0_now 376 F_h0_now)] H := hP
  have hD : va_D A [(h0, .inr (11, [.int 0, .ref h0_tape, .int h0_taped, .int h0_size, .int h0_limit, .int h0_to, .int h0_from, .int h0_kind, .int h0_number, .int h0_sign, .int h0_fault, .int h0_place, .long h0_word, .int h0_told, .ref h0_now, .ref h0_read, .ref h0_kept, .ref h0_snaps, .ref h0_aside, .ref h0_name, .ref h0_readName, .ref h0_keptName, .ref h0_isKept, .ref h0_onces, .int h0_snapMany, .int h0_lowest, .int h0_highest, .int h0_agreed, .int h0_jurors, .int h0_panelled, .ref h0_inSets, .int h0_surely, .int h0_asked, .ref h0_frees, .int h0_struck, .int h0_beating, .ref h0_text, .int h0_texts, .int h0_seed, .ref h0_line, .ref h0_written, .int h0_lineMany, .int h0_hasWritten, .ref h0_node, .int h0_nodes, .int h0_onesMany, .int h0_within, .int h0_top])), (aI ca h0_now 376 F_h0_now)] := hD
  refine lv_aload_n hx hb dX12_lasts_5 rfl (lv_at hl 0 rfl) ?_
  refine lv_iload_n hx hb dX12_lasts_6 rfl (lv_at hl 1 rfl) ?_
  refine oC_i (Wc := [(h0, .inr (11, [.int 0, .ref h0_tape, .int h0_taped, .int h0_size, .int h0_limit, .int h0_to, .int h0_from, .int h0_kind, .int h0_number, .int h0_sign, .int h0_fault, .int h0_place, .long h0_word, .int h0_told, .ref h0_now, .ref h0_read, .ref h0_kept, .ref h0_snaps, .ref h0_aside, .ref h0_name, .ref h0_readName, .ref h0_keptName, .ref h0_isKept, .ref h0_onces, .int h0_snapMany, .int h0_lowest, .int h0_highest, .int h0_agreed, .int h0_jurors, .int h0_panelled, .ref h0_inSets, .int h0_surely, .int h0_asked, .ref h0_frees, .int h0_struck, .int h0_beating, .ref h0_text, .int h0_texts, .int h0_seed, .ref h0_line, .ref h0_written, .int h0_lineMany, .int h0_hasWritten, .ref h0_node, .int h0_nodes, .int h0_onesMany, .int h0_within, .int h0_top])), (aI ca h0_now 376 F_h0_now)]) (Wr := []) (va_runV (As := [.int a1]) (rest := []) ⟨hx, hb, hml, hown, hts⟩ (s_X12_isJuror l D ca H.size h0 a1 0 h0_tape h0_taped h0_size h0_limit h0_to h0_from h0_kind h0_number h0_sign h0_fault h0_place h0_word h0_told h0_now h0_read h0_kept h0_snaps h0_aside h0_name h0_readName h0_keptName h0_isKept h0_onces h0_snapMany h0_lowest h0_highest h0_agreed h0_jurors h0_panelled h0_inSets h0_surely h0_asked h0_frees h0_struck h0_beating h0_text h0_texts h0_seed h0_line h0_written h0_lineMany h0_hasWritten h0_node h0_nodes h0_onesMany h0_within h0_top F_h0_now i_h0_taped i_h0_size i_h0_to i_h0_kind i_h0_snapMany i_h0_texts i_h0_lineMany i_h0_hasWritten i_h0_nodes i_h0_onesMany s_h0_now_0 s_h0_now_1 s_h0_now_2 s_h0_now_3 s_h0_now_4 s_h0_now_5 s_h0_now_6 s_h0_now_7) (cwV 1 hts gX12_lasts_X12_isJuror rfl rfl rfl (by decide +kernel) ⟨Nat.le_of_ble_eq_true rfl, Nat.le_of_ble_eq_true rfl⟩) (oPV (C := RX12) hK hP hD [0, 1] rfl (by decide) 0 rfl (ci := 11) rfl rfl) rfl rfl hl.1 rfl (lv_room (Nat.le_of_ble_eq_true rfl)) dX12_lasts_7 ⟨Nat.le_of_ble_eq_true rfl, Nat.le_of_ble_eq_true rfl⟩) hP hD hS hA [0, 1] [] rfl rfl (by decide) (by decide) (fun r_13 u H locs w_14 hP hD hS => ?_)
  obtain ⟨⟩ := u
  have hP : va_P D vwCl [(h0, .inr (11, [.int 0, .ref h0_tape, .int h0_taped, .int h0_size, .int h0_limit, .int h0_to, .int h0_from, .int h0_kind, .int h0_number, .int h0_sign, .int h0_fault, .int h0_place, .long h0_word, .int h0_told, .ref h0_now, .ref h0_read, .ref h0_kept, .ref h0_snaps, .ref h0_aside, .ref h0_name, .ref h0_readName, .ref h0_keptName, .ref h0_isKept, .ref h0_onces, .int h0_snapMany, .int h0_lowest, .int h0_highest, .int h0_agreed, .int h0_jurors, .int h0_panelled, .ref h0_inSets, .int h0_surely, .int h0_asked, .ref h0_frees, .int h0_struck, .int h0_beating, .ref h0_text, .int h0_texts, .int h0_seed, .ref h0_line, .ref h0_written, .int h0_lineMany, .int h0_hasWritten, .ref h0_node, .int h0_nodes, .int h0_onesMany, .int h0_within, .int h0_top])), (aI ca h0_now 376 F_h0_now)] H := hP
  have hD : va_D A [(h0, .inr (11, [.int 0, .ref h0_tape, .int h0_taped, .int h0_size, .int h0_limit, .int h0_to, .int h0_from, .int h0_kind, .int h0_number, .int h0_sign, .int h0_fault, .int h0_place, .long h0_word, .int h0_told, .ref h0_now, .ref h0_read, .ref h0_kept, .ref h0_snaps, .ref h0_aside, .ref h0_name, .ref h0_readName, .ref h0_keptName, .ref h0_isKept, .ref h0_onces, .int h0_snapMany, .int h0_lowest, .int h0_highest, .int h0_agreed, .int h0_jurors, .int h0_panelled, .ref h0_inSets, .int h0_surely, .int h0_asked, .ref h0_frees, .int h0_struck, .int h0_beating, .ref h0_text, .int h0_texts, .int h0_seed, .ref h0_line, .ref h0_written, .int h0_lineMany, .int h0_hasWritten, .ref h0_node, .int h0_nodes, .int h0_onesMany, .int h0_within, .int h0_top])), (aI ca h0_now 376 F_h0_now)] := hD
  try dsimp only at w_14
  rcases w_14 with h_15 | ⟨h_16, h_17⟩
  · skip
    subst h_15
    refine lv_if_eq (tgt := 30) hx hb dX12_lasts_10 (by decide) (fun _ => ?_) (fun c => absurd (by decide) c)
    refine lv_iconst (v := (-1)) hx hb dX12_lasts_30 (by decide) ?_
    exact oE_i hx hb hr rfl hlocks hP hD hS () [0, 1] rfl (by decide) trivial (Nat.le_of_ble_eq_true rfl) (Nat.le_of_ble_eq_true rfl) dX12_lasts_31
  · skip
    subst h_16
    refine lv_if_eq (tgt := 30) hx hb dX12_lasts_10 (by decide) (fun c => absurd c (by decide)) (fun _ => ?_)
    refine lv_aload_n hx hb dX12_lasts_13 rfl (lv_at hl 0 rfl) ?_
    refine lv_iload_n hx hb dX12_lasts_14 rfl (lv_at hl 2 rfl) ?_
    refine oC_i (Wc := [(h0, .inr (11, [.int 0, .ref h0_tape, .int h0_taped, .int h0_size, .int h0_limit, .int h0_to, .int h0_from, .int h0_kind, .int h0_number, .int h0_sign, .int h0_fault, .int h0_place, .long h0_word, .int h0_told, .ref h0_now, .ref h0_read, .ref h0_kept, .ref h0_snaps, .ref h0_aside, .ref h0_name, .ref h0_readName, .ref h0_keptName, .ref h0_isKept, .ref h0_onces, .int h0_snapMany, .int h0_lowest, .int h0_highest, .int h0_agreed, .int h0_jurors, .int h0_panelled, .ref h0_inSets, .int h0_surely, .int h0_asked, .ref h0_frees, .int h0_struck, .int h0_beating, .ref h0_text, .int h0_texts, .int h0_seed, .ref h0_line, .ref h0_written, .int h0_lineMany, .int h0_hasWritten, .ref h0_node, .int h0_nodes, .int h0_onesMany, .int h0_within, .int h0_top])), (aI ca h0_now 376 F_h0_now)]) (Wr := []) (va_runV (As := [.int a2]) (rest := []) ⟨hx, hb, hml, hown, hts⟩ (s_X12_isFloor l D ca H.size h0 a2 0 h0_tape h0_taped h0_size h0_limit h0_to h0_from h0_kind h0_number h0_sign h0_fault h0_place h0_word h0_told h0_now h0_read h0_kept h0_snaps h0_aside h0_name h0_readName h0_keptName h0_isKept h0_onces h0_snapMany h0_lowest h0_highest h0_agreed h0_jurors h0_panelled h0_inSets h0_surely h0_asked h0_frees h0_struck h0_beating h0_text h0_texts h0_seed h0_line h0_written h0_lineMany h0_hasWritten h0_node h0_nodes h0_onesMany h0_within h0_top F_h0_now i_h0_taped i_h0_size i_h0_to i_h0_kind i_h0_snapMany i_h0_texts i_h0_lineMany i_h0_hasWritten i_h0_nodes i_h0_onesMany s_h0_now_0 s_h0_now_1 s_h0_now_2 s_h0_now_3 s_h0_now_4 s_h0_now_5 s_h0_now_6 s_h0_now_7) (cwV 1 hts gX12_lasts_X12_isFloor rfl rfl rfl (by decide +kernel) ⟨Nat.le_of_ble_eq_true rfl, Nat.le_of_ble_eq_true rfl⟩) (oPV (C := RX12) hK hP hD [0, 1] rfl (by decide) 0 rfl (ci := 11) rfl rfl) rfl rfl hl.1 rfl (lv_room (Nat.le_of_ble_eq_true rfl)) dX12_lasts_15 ⟨Nat.le_of_ble_eq_true rfl, Nat.le_of_ble_eq_true rfl⟩) hP hD hS hA [0, 1] [] rfl rfl (by decide) (by decide) (fun r_18 u H locs w_19 hP hD hS => ?_)
    obtain ⟨⟩ := u
    have hP : va_P D vwCl [(h0, .inr (11, [.int 0, .ref h0_tape, .int h0_taped, .int h0_size, .int h0_limit, .int h0_to, .int h0_from, .int h0_kind, .int h0_number, .int h0_sign, .int h0_fault, .int h0_place, .long h0_word, .int h0_told, .ref h0_now, .ref h0_read, .ref h0_kept, .ref h0_snaps, .ref h0_aside, .ref h0_name, .ref h0_readName, .ref h0_keptName, .ref h0_isKept, .ref h0_onces, .int h0_snapMany, .int h0_lowest, .int h0_highest, .int h0_agreed, .int h0_jurors, .int h0_panelled, .ref h0_inSets, .int h0_surely, .int h0_asked, .ref h0_frees, .int h0_struck, .int h0_beating, .ref h0_text, .int h0_texts, .int h0_seed, .ref h0_line, .ref h0_written, .int h0_lineMany, .int h0_hasWritten, .ref h0_node, .int h0_nodes, .int h0_onesMany, .int h0_within, .int h0_top])), (aI ca h0_now 376 F_h0_now)] H := hP
    have hD : va_D A [(h0, .inr (11, [.int 0, .ref h0_tape, .int h0_taped, .int h0_size, .int h0_limit, .int h0_to, .int h0_from, .int h0_kind, .int h0_number, .int h0_sign, .int h0_fault, .int h0_place, .long h0_word, .int h0_told, .ref h0_now, .ref h0_read, .ref h0_kept, .ref h0_snaps, .ref h0_aside, .ref h0_name, .ref h0_readName, .ref h0_keptName, .ref h0_isKept, .ref h0_onces, .int h0_snapMany, .int h0_lowest, .int h0_highest, .int h0_agreed, .int h0_jurors, .int h0_panelled, .ref h0_inSets, .int h0_surely, .int h0_asked, .ref h0_frees, .int h0_struck, .int h0_beating, .ref h0_text, .int h0_texts, .int h0_seed, .ref h0_line, .ref h0_written, .int h0_lineMany, .int h0_hasWritten, .ref h0_node, .int h0_nodes, .int h0_onesMany, .int h0_within, .int h0_top])), (aI ca h0_now 376 F_h0_now)] := hD
    try dsimp only at w_19
    rcases w_19 with h_20 | ⟨h_21, h_22⟩
    · skip
      subst h_20
      refine lv_if_eq (tgt := 30) hx hb dX12_lasts_18 (by decide) (fun _ => ?_) (fun c => absurd (by decide) c)
      refine lv_iconst (v := (-1)) hx hb dX12_lasts_30 (by decide) ?_
      exact oE_i hx hb hr rfl hlocks hP hD hS () [0, 1] rfl (by decide) trivial (Nat.le_of_ble_eq_true rfl) (Nat.le_of_ble_eq_true rfl) dX12_lasts_31
    · skip
      subst h_21
      refine lv_if_eq (tgt := 30) hx hb dX12_lasts_18 (by decide) (fun c => absurd c (by decide)) (fun _ => ?_)
      refine lv_aload_n hx hb dX12_lasts_21 rfl (lv_at hl 0 rfl) ?_
      refine lv_iload_n hx hb dX12_lasts_22 rfl (lv_at hl 1 rfl) ?_
      refine lv_iload_n hx hb dX12_lasts_23 rfl (lv_at hl 2 rfl) ?_
      refine oC_i (Wc := [(h0, .inr (11, [.int 0, .ref h0_tape, .int h0_taped, .int h0_size, .int h0_limit, .int h0_to, .int h0_from, .int h0_kind, .int h0_number, .int h0_sign, .int h0_fault, .int h0_place, .long h0_word, .int h0_told, .ref h0_now, .ref h0_read, .ref h0_kept, .ref h0_snaps, .ref h0_aside, .ref h0_name, .ref h0_readName, .ref h0_keptName, .ref h0_isKept, .ref h0_onces, .int h0_snapMany, .int h0_lowest, .int h0_highest, .int h0_agreed, .int h0_jurors, .int h0_panelled, .ref h0_inSets, .int h0_surely, .int h0_asked, .ref h0_frees, .int h0_struck, .int h0_beating, .ref h0_text, .int h0_texts, .int h0_seed, .ref h0_line, .ref h0_written, .int h0_lineMany, .int h0_hasWritten, .ref h0_node, .int h0_nodes, .int h0_onesMany, .int h0_within, .int h0_top])), (aI ca h0_now 376 F_h0_now)]) (Wr := []) (va_runV (As := [.int a1, .int a2]) (rest := []) ⟨hx, hb, hml, hown, hts⟩ (s_X12_lastsOf l D ca H.size h0 a1 a2 0 h0_tape h0_taped h0_size h0_limit h0_to h0_from h0_kind h0_number h0_sign h0_fault h0_place h0_word h0_told h0_now h0_read h0_kept h0_snaps h0_aside h0_name h0_readName h0_keptName h0_isKept h0_onces h0_snapMany h0_lowest h0_highest h0_agreed h0_jurors h0_panelled h0_inSets h0_surely h0_asked h0_frees h0_struck h0_beating h0_text h0_texts h0_seed h0_line h0_written h0_lineMany h0_hasWritten h0_node h0_nodes h0_onesMany h0_within h0_top F_h0_now h_17 h_22 i_h0_taped i_h0_size i_h0_to i_h0_kind i_h0_snapMany i_h0_texts i_h0_lineMany i_h0_hasWritten i_h0_nodes i_h0_onesMany s_h0_now_0 s_h0_now_1 s_h0_now_2 s_h0_now_3 s_h0_now_4 s_h0_now_5 s_h0_now_6 s_h0_now_7) (cwV 2 hts gX12_lasts_X12_lastsOf rfl rfl rfl (by decide +kernel) ⟨Nat.le_of_ble_eq_true rfl, Nat.le_of_ble_eq_true rfl⟩) (oPV (C := RX12) hK hP hD [0, 1] rfl (by decide) 0 rfl (ci := 11) rfl rfl) rfl rfl hl.1 rfl (lv_room (Nat.le_of_ble_eq_true rfl)) dX12_lasts_24 ⟨Nat.le_of_ble_eq_true rfl, Nat.le_of_ble_eq_true rfl⟩) hP hD hS hA [0, 1] [] rfl rfl (by decide) (by decide) (fun r_23 u H locs w_24 hP hD hS => ?_)
      obtain ⟨⟩ := u
      have hP : va_P D vwCl [(h0, .inr (11, [.int 0, .ref h0_tape, .int h0_taped, .int h0_size, .int h0_limit, .int h0_to, .int h0_from, .int h0_kind, .int h0_number, .int h0_sign, .int h0_fault, .int h0_place, .long h0_word, .int h0_told, .ref h0_now, .ref h0_read, .ref h0_kept, .ref h0_snaps, .ref h0_aside, .ref h0_name, .ref h0_readName, .ref h0_keptName, .ref h0_isKept, .ref h0_onces, .int h0_snapMany, .int h0_lowest, .int h0_highest, .int h0_agreed, .int h0_jurors, .int h0_panelled, .ref h0_inSets, .int h0_surely, .int h0_asked, .ref h0_frees, .int h0_struck, .int h0_beating, .ref h0_text, .int h0_texts, .int h0_seed, .ref h0_line, .ref h0_written, .int h0_lineMany, .int h0_hasWritten, .ref h0_node, .int h0_nodes, .int h0_onesMany, .int h0_within, .int h0_top])), (aI ca h0_now 376 F_h0_now)] H := hP
      have hD : va_D A [(h0, .inr (11, [.int 0, .ref h0_tape, .int h0_taped, .int h0_size, .int h0_limit, .int h0_to, .int h0_from, .int h0_kind, .int h0_number, .int h0_sign, .int h0_fault, .int h0_place, .long h0_word, .int h0_told, .ref h0_now, .ref h0_read, .ref h0_kept, .ref h0_snaps, .ref h0_aside, .ref h0_name, .ref h0_readName, .ref h0_keptName, .ref h0_isKept, .ref h0_onces, .int h0_snapMany, .int h0_lowest, .int h0_highest, .int h0_agreed, .int h0_jurors, .int h0_panelled, .ref h0_inSets, .int h0_surely, .int h0_asked, .ref h0_frees, .int h0_struck, .int h0_beating, .ref h0_text, .int h0_texts, .int h0_seed, .ref h0_line, .ref h0_written, .int h0_lineMany, .int h0_hasWritten, .ref h0_node, .int h0_nodes, .int h0_onesMany, .int h0_within, .int h0_top])), (aI ca h0_now 376 F_h0_now)] := hD
      try dsimp only at w_24
      refine lv_goto (tgt := 31) hx hb dX12_lasts_27 (by decide) ?_
      exact oE_i hx hb hr rfl hlocks hP hD hS () [0, 1] rfl (by decide) trivial (Nat.le_of_ble_eq_true rfl) (Nat.le_of_ble_eq_true rfl) dX12_lasts_31
theorem dX12_casesThat_0 : decode cX12_casesThat 0 = .ok (.iconst 0, 1) := by decide +kernel
theorem dX12_casesThat_1 : decode cX12_casesThat 1 = .ok (.istore_n 2, 1) := by decide +kernel
theorem dX12_casesThat_2 : decode cX12_casesThat 2 = .ok (.iconst 0, 1) := by decide +kernel
theorem dX12_casesThat_3 : decode cX12_casesThat 3 = .ok (.istore_n 3, 1) := by decide +kernel
theorem dX12_casesThat_4 : decode cX12_casesThat 4 = .ok (.iload_n 3, 1) := by decide +kernel
theorem dX12_casesThat_5 : decode cX12_casesThat 5 = .ok (.aload_n 0, 1) := by decide +kernel
theorem dX12_casesThat_6 : decode cX12_casesThat 6 = .ok (.getfield 98, 3) := by decide +kernel
theorem dX12_casesThat_9 : decode cX12_casesThat 9 = .ok (.iconst 2, 1) := by decide +kernel
theorem dX12_casesThat_10 : decode cX12_casesThat 10 = .ok (.iaload, 1) := by decide +kernel
theorem dX12_casesThat_11 : decode cX12_casesThat 11 = .ok (.if_icmp .ge 28, 3) := by decide +kernel
theorem dX12_casesThat_14 : decode cX12_casesThat 14 = .ok (.aload_n 0, 1) := by decide +kernel
theorem dX12_casesThat_15 : decode cX12_casesThat 15 = .ok (.getfield 98, 3) := by decide +kernel
theorem dX12_casesThat_18 : decode cX12_casesThat 18 = .ok (.bipush 114, 2) := by decide +kernel
theorem dX12_casesThat_20 : decode cX12_casesThat 20 = .ok (.iload_n 3, 1) := by decide +kernel
theorem dX12_casesThat_21 : decode cX12_casesThat 21 = .ok (.iadd, 1) := by decide +kernel
theorem dX12_casesThat_22 : decode cX12_casesThat 22 = .ok (.iaload, 1) := by decide +kernel
theorem dX12_casesThat_23 : decode cX12_casesThat 23 = .ok (.iload_n 1, 1) := by decide +kernel
theorem dX12_casesThat_24 : decode cX12_casesThat 24 = .ok (.if_icmp .ne 9, 3) := by decide +kernel
theorem dX12_casesThat_27 : decode cX12_casesThat 27 = .ok (.iload_n 2, 1) := by decide +kernel
theorem dX12_casesThat_28 : decode cX12_casesThat 28 = .ok (.iconst 1, 1) := by decide +kernel
theorem dX12_casesThat_29 : decode cX12_casesThat 29 = .ok (.iload_n 3, 1) := by decide +kernel
theorem dX12_casesThat_30 : decode cX12_casesThat 30 = .ok (.ishl, 1) := by decide +kernel
theorem dX12_casesThat_31 : decode cX12_casesThat 31 = .ok (.ior, 1) := by decide +kernel
theorem dX12_casesThat_32 : decode cX12_casesThat 32 = .ok (.istore_n 2, 1) := by decide +kernel
theorem dX12_casesThat_33 : decode cX12_casesThat 33 = .ok (.iinc 3 1, 3) := by decide +kernel
theorem dX12_casesThat_36 : decode cX12_casesThat 36 = .ok (.goto (-32), 3) := by decide +kernel
theorem dX12_casesThat_39 : decode cX12_casesThat 39 = .ok (.iload_n 2, 1) := by decide +kernel
theorem dX12_casesThat_40 : decode cX12_casesThat 40 = .ok (.ireturn, 1) := by decide +kernel
set_option maxHeartbeats 4000000 in
set_option maxRecDepth 100000 in
theorem s_X12_casesThat (l : Launch) (D : va_G) (ca : Nat → ClassId) (sz : Nat) (h0 : Nat) (a1 : Int32) (h0_thrown : Int32) (h0_tape : Nat) (h0_taped : Int32) (h0_size : Int32) (h0_limit : Int32) (h0_to : Int32) (h0_from : Int32) (h0_kind : Int32) (h0_number : Int32) (h0_sign : Int32) (h0_fault : Int32) (h0_place : Int32) (h0_word : Int64) (h0_told : Int32) (h0_now : Nat) (h0_read : Nat) (h0_kept : Nat) (h0_snaps : Nat) (h0_aside : Nat) (h0_name : Nat) (h0_readName : Nat) (h0_keptName : Nat) (h0_isKept : Nat) (h0_onces : Nat) (h0_snapMany : Int32) (h0_lowest : Int32) (h0_highest : Int32) (h0_agreed : Int32) (h0_jurors : Int32) (h0_panelled : Int32) (h0_inSets : Nat) (h0_surely : Int32) (h0_asked : Int32) (h0_frees : Nat) (h0_struck : Int32) (h0_beating : Int32) (h0_text : Nat) (h0_texts : Int32) (h0_seed : Int32) (h0_line : Nat) (h0_written : Nat) (h0_lineMany : Int32) (h0_hasWritten : Int32) (h0_node : Nat) (h0_nodes : Int32) (h0_onesMany : Int32) (h0_within : Int32) (h0_top : Int32) (F_h0_now : Nat → Int32) (i_h0_taped : rg 0 940 h0_taped) (i_h0_size : rg 0 940 h0_size) (i_h0_to : rg 0 940 h0_to) (i_h0_kind : rg 0 4 h0_kind) (i_h0_snapMany : rg 0 8 h0_snapMany) (i_h0_texts : rg 0 64 h0_texts) (i_h0_lineMany : rg 0 40 h0_lineMany) (i_h0_hasWritten : rg 0 1 h0_hasWritten) (i_h0_nodes : rg 0 60 h0_nodes) (i_h0_onesMany : rg 0 20 h0_onesMany) (s_h0_now_0 : sg 0 1 0 10 F_h0_now) (s_h0_now_1 : sg 1 2 0 4 F_h0_now) (s_h0_now_2 : sg 2 3 0 5 F_h0_now) (s_h0_now_3 : sg 35 36 0 1023 F_h0_now) (s_h0_now_4 : sg 44 49 0 3 F_h0_now) (s_h0_now_5 : sg 90 91 0 1023 F_h0_now) (s_h0_now_6 : sg 124 129 0 1023 F_h0_now) (s_h0_now_7 : sg 135 136 0 39 F_h0_now) : oMet l yX12_casesThat wsX12_casesThat ({ frames := 0, cells := 0, slots := 0, locals := 0 } : Room) [.ref h0, .int a1] D ca sz [(h0, .inr (11, [.int h0_thrown, .ref h0_tape, .int h0_taped, .int h0_size, .int h0_limit, .int h0_to, .int h0_from, .int h0_kind, .int h0_number, .int h0_sign, .int h0_fault, .int h0_place, .long h0_word, .int h0_told, .ref h0_now, .ref h0_read, .ref h0_kept, .ref h0_snaps, .ref h0_aside, .ref h0_name, .ref h0_readName, .ref h0_keptName, .ref h0_isKept, .ref h0_onces, .int h0_snapMany, .int h0_lowest, .int h0_highest, .int h0_agreed, .int h0_jurors, .int h0_panelled, .ref h0_inSets, .int h0_surely, .int h0_asked, .ref h0_frees, .int h0_struck, .int h0_beating, .ref h0_text, .int h0_texts, .int h0_seed, .ref h0_line, .ref h0_written, .int h0_lineMany, .int h0_hasWritten, .ref h0_node, .int h0_nodes, .int h0_onesMany, .int h0_within, .int h0_top])), (aI ca h0_now 376 F_h0_now)] (oQi D (fun (r : Int32) (u : Unit) => (rg 0 1023 r)) (fun (u : Unit) => [(h0, .inr (11, [.int h0_thrown, .ref h0_tape, .int h0_taped, .int h0_size, .int h0_limit, .int h0_to, .int h0_from, .int h0_kind, .int h0_number, .int h0_sign, .int h0_fault, .int h0_place, .long h0_word, .int h0_told, .ref h0_now, .ref h0_read, .ref h0_kept, .ref h0_snaps, .ref h0_aside, .ref h0_name, .ref h0_readName, .ref h0_keptName, .ref h0_isKept, .ref h0_onces, .int h0_snapMany, .int h0_lowest, .int h0_highest, .int h0_agreed, .int h0_jurors, .int h0_panelled, .ref h0_inSets, .int h0_surely, .int h0_asked, .ref h0_frees, .int h0_struck, .int h0_beating, .ref h0_text, .int h0_texts, .int h0_seed, .ref h0_line, .ref h0_written, .int h0_lineMany, .int h0_hasWritten, .ref h0_node, .int h0_nodes, .int h0_onesMany, .int h0_within, .int h0_top])), (aI ca h0_now 376 F_h0_now)])) 0 0 := by
  refine oM (cc := cX12_casesThat) (maxL := 4) (ret := (some .int)) (by decide) rfl (Nat.le_of_ble_eq_true rfl) [(0, .ref h0), (1, .int a1)] rfl ?_
  intro p e s m below meth c A H locs ls hx hb hr hml hts hown hlocks hin hK hP hD hA hS hl
  have hown : s.vm.findClass RX12 = some m.cls := hown
  have k1 := hts (.fieldLink RX12 98 "LidCourtModel" "now" "[I") (by decide +kernel)
  have k2 : ∀ w ∈ wsX120, w ∈ wsX12_casesThat := fun _ h => List.mem_cons_of_mem _ (List.mem_append_right _ h)
  have J4_201 : ∀ (n : Nat) (y4_0 : Int32) (y4_1 : Int32), True → rg 0 1023 y4_0 → rg 0 5 y4_1 → 5 < y4_1.toInt + (n : Int) → ∀ (H : Heap) (locs : List Loc) (ls : Array Slot), va_P D vwCl [(h0, .inr (11, [.int h0_thrown, .ref h0_tape, .int h0_taped, .int h0_size, .int h0_limit, .int h0_to, .int h0_from, .int h0_kind, .int h0_number, .int h0_sign, .int h0_fault, .int h0_place, .long h0_word, .int h0_told, .ref h0_now, .ref h0_read, .ref h0_kept, .ref h0_snaps, .ref h0_aside, .ref h0_name, .ref h0_readName, .ref h0_keptName, .ref h0_isKept, .ref h0_onces, .int h0_snapMany, .int h0_lowest, .int h0_highest, .int h0_agreed, .int h0_jurors, .int h0_panelled, .ref h0_inSets, .int h0_surely, .int h0_asked, .ref h0_frees, .int h0_struck, .int h0_beating, .ref h0_text, .int h0_texts, .int h0_seed, .ref h0_line, .ref h0_written, .int h0_lineMany, .int h0_hasWritten, .ref h0_node, .int h0_nodes, .int h0_onesMany, .int h0_within, .int h0_top])), (aI ca h0_now 376 F_h0_now)] H → va_D A [(h0, .inr (11, [.int h0_thrown, .ref h0_tape, .int h0_taped, .int h0_size, .int h0_limit, .int h0_to, .int h0_from, .int h0_kind, .int h0_number, .int h0_sign, .int h0_fault, .int h0_place, .long h0_word, .int h0_told, .ref h0_now, .ref h0_read, .ref h0_kept, .ref h0_snaps, .ref h0_aside, .ref h0_name, .ref h0_readName, .ref h0_keptName, .ref h0_isKept, .ref h0_onces, .int h0_snapMany, .int h0_lowest, .int h0_highest, .int h0_agreed, .int h0_jurors, .int h0_panelled, .ref h0_inSets, .int h0_surely, .int h0_asked, .ref h0_frees, .int h0_struck, .int h0_beating, .ref h0_text, .int h0_texts, .int h0_seed, .ref h0_line, .ref h0_written, .int h0_lineMany, .int h0_hasWritten, .ref h0_node, .int h0_nodes, .int h0_onesMany, .int h0_within, .int h0_top])), (aI ca h0_now 376 F_h0_now)] → va_S A s.heap H locs → lv_has ls 4 [(0, .ref h0), (1, .int a1), (2, .int y4_0), (3, .int y4_1)] → W p l e ({ frames := 0, cells := 0, slots := 0, locals := 0 } : Room) s m ([.ref h0, .int a1] : List Value).toArray below meth c H locs 0 0 (MQ below ((oQi D (fun (r : Int32) (u : Unit) => (rg 0 1023 r)) (fun (u : Unit) => [(h0, .inr (11, [.int h0_thrown, .ref h0_tape, .int h0_taped, .int h0_size, .int h0_limit, .int h0_to, .int h0_from, .int h0_kind, .int h0_number, .int h0_sign, .int h0_fault, .int h0_place, .long h0_word, .int h0_told, .ref h0_now, .ref h0_read, .ref h0_kept, .ref h0_snaps, .ref h0_aside, .ref h0_name, .ref h0_readName, .ref h0_keptName, .ref h0_isKept, .ref h0_onces, .int h0_snapMany, .int h0_lowest, .int h0_highest, .int h0_agreed, .int h0_jurors, .int h0_panelled, .ref h0_inSets, .int h0_surely, .int h0_asked, .ref h0_frees, .int h0_struck, .int h0_beating, .ref h0_text, .int h0_texts, .int h0_seed, .ref h0_line, .ref h0_written, .int h0_lineMany, .int h0_hasWritten, .ref h0_node, .int h0_nodes, .int h0_onesMany, .int h0_within, .int h0_top])), (aI ca h0_now 376 F_h0_now)])) A) ([.ref h0, .int a1] : List Value).toArray s 0 0 A) (F0 m 4 ls []) := by
    intro n
    induction n with
    | zero => intro y4_0 y4_1 _ hy4_0 hy4_1 hn; exact absurd hn (by have q9 := hy4_1.2; omega)
    | succ n ih =>
      intro y4_0 y4_1 _ hy4_0 hy4_1 hn H locs ls hP hD hS hl
      have J33_223 : ∀ (y33_0 : Int32), rg 0 1023 y33_0 → sg 2 3 1 5 F_h0_now → rg 0 4 y4_1 → ∀ (H : Heap) (locs : List Loc) (ls : Array Slot), va_P D vwCl [(h0, .inr (11, [.int h0_thrown, .ref h0_tape, .int h0_taped, .int h0_size, .int h0_limit, .int h0_to, .int h0_from, .int h0_kind, .int h0_number, .int h0_sign, .int h0_fault, .int h0_place, .long h0_word, .int h0_told, .ref h0_now, .ref h0_read, .ref h0_kept, .ref h0_snaps, .ref h0_aside, .ref h0_name, .ref h0_readName, .ref h0_keptName, .ref h0_isKept, .ref h0_onces, .int h0_snapMany, .int h0_lowest, .int h0_highest, .int h0_agreed, .int h0_jurors, .int h0_panelled, .ref h0_inSets, .int h0_surely, .int h0_asked, .ref h0_frees, .int h0_struck, .int h0_beating, .ref h0_text, .int h0_texts, .int h0_seed, .ref h0_line, .ref h0_written, .int h0_lineMany, .int h0_hasWritten, .ref h0_node, .int h0_nodes, .int h0_onesMany, .int h0_within, .int h0_top])), (aI ca h0_now 376 F_h0_now)] H → va_D A [(h0, .inr (11, [.int h0_thrown, .ref h0_tape, .int h0_taped, .int h0_size, .int h0_limit, .int h0_to, .int h0_from, .int h0_kind, .int h0_number, .int h0_sign, .int h0_fault, .int h0_place, .long h0_word, .int h0_told, .ref h0_now, .ref h0_read, .ref h0_kept, .ref h0_snaps, .ref h0_aside, .ref h0_name, .ref h0_readName, .ref h0_keptName, .ref h0_isKept, .ref h0_onces, .int h0_snapMany, .int h0_lowest, .int h0_highest, .int h0_agreed, .int h0_jurors, .int h0_panelled, .ref h0_inSets, .int h0_surely, .int h0_asked, .ref h0_frees, .int h0_struck, .int h0_beating, .ref h0_text, .int h0_texts, .int h0_seed, .ref h0_line, .ref h0_written, .int h0_lineMany, .int h0_hasWritten, .ref h0_node, .int h0_nodes, .int h0_onesMany, .int h0_within, .int h0_top])), (aI ca h0_now 376 F_h0_now)] → va_S A s.heap H locs → lv_has ls 4 [(0, .ref h0), (1, .int a1), (2, .int y33_0), (3, .int y4_1)] → W p l e ({ frames := 0, cells := 0, slots := 0, locals := 0 } : Room) s m ([.ref h0, .int a1] : List Value).toArray below meth c H locs 0 0 (MQ below ((oQi D (fun (r : Int32) (u : Unit) => (rg 0 1023 r)) (fun (u : Unit) => [(h0, .inr (11, [.int h0_thrown, .ref h0_tape, .int h0_taped, .int h0_size, .int h0_limit, .int h0_to, .int h0_from, .int h0_kind, .int h0_number, .int h0_sign, .int h0_fault, .int h0_place, .long h0_word, .int h0_told, .ref h0_now, .ref h0_read, .ref h0_kept, .ref h0_snaps, .ref h0_aside, .ref h0_name, .ref h0_readName, .ref h0_keptName, .ref h0_isKept, .ref h0_onces, .int h0_snapMany, .int h0_lowest, .int h0_highest, .int h0_agreed, .int h0_jurors, .int h0_panelled, .ref h0_inSets, .int h0_surely, .int h0_asked, .ref h0_frees, .int h0_struck, .int h0_beating, .ref h0_text, .int h0_texts, .int h0_seed, .ref h0_line, .ref h0_written, .int h0_lineMany, .int h0_hasWritten, .ref h0_node, .int h0_nodes, .int h0_onesMany, .int h0_within, .int h0_top])), (aI ca h0_now 376 F_h0_now)])) A) ([.ref h0, .int a1] : List Value).toArray s 0 0 A) (F0 m 33 ls []) := by
        intro y33_0 hy33_0 s33_1 t33_y4_1 H locs ls hP hD hS hl
        obtain ⟨x_224, ex_224⟩ : ∃ y : Int32, y = y4_1 + 1 := ⟨_, rfl⟩
        have h_225 : rg 1 5 x_224 := by rw [ex_224]; exact rg_add t33_y4_1 (⟨by decide, by decide⟩ : rg 1 1 (1 : Int32)) (by decide) (by decide) (by decide) (by decide)
        have l_226 : lq x_224.toInt (y4_1.toInt + 1) := lqm (by rw [ex_224]; have q := tadd t33_y4_1 (⟨by decide, by decide⟩ : rg 1 1 (1 : Int32)) (by decide) (by decide); have r1 := lqe (lqm (by decide) : lq (1 : Int32).toInt 1); omega)
        refine lv_iinc (v := x_224) (lv' := [(3, .int x_224), (0, .ref h0), (1, .int a1), (2, .int y33_0)]) hx hb dX12_casesThat_33 hl (k := 3) rfl (by rw [ex_224]; rfl) (by decide) rfl (fun ls hl => ?_)
        refine lv_goto (tgt := 4) hx hb dX12_casesThat_36 (by decide) ?_
        exact ih y33_0 x_224 trivial hy33_0 (rgw (lo := 0) (hi := 5) h_225 (by decide) (by decide)) (by have q0 := lqe l_226; omega) H locs ls (oPsub hP [0, 1] rfl) (hD.sub [0, 1] (by decide) rfl) hS (lv_sub hl [1, 2, 3, 0] rfl)
      refine lv_iload_n hx hb dX12_casesThat_4 rfl (lv_at hl 3 rfl) ?_
      refine lv_aload_n hx hb dX12_casesThat_5 rfl (lv_at hl 0 rfl) ?_
      refine va_get (D := D) (ci := 11) (v := .ref h0_now) (C := RX12) (T := TX12) (N := 48) hx hb hts k2 hown hK.1 hP 0 rfl rfl 14 (by decide) k1 (fun _ h9 => h9) rfl dX12_casesThat_6 ?_
      refine lv_iconst (v := 2) hx hb dX12_casesThat_9 (by decide) ?_
      refine va_iald hx hb hK.1 hP 1 0 rfl rfl (rg_in (⟨by decide, by decide⟩ : rg 2 2 (2 : Int32)) (by decide) (by decide)) dX12_casesThat_10 ?_
      refine lv_topi (fun x_227 ex_227 => ?_)
      have h_228 : rg 0 5 x_227 := by rw [ex_227]; exact sg_at (sg_w (a' := 2) (b' := 3) (lo' := 0) (hi' := 5) s_h0_now_2 (by decide) (by decide) (by decide) (by decide)) (⟨by decide, by decide⟩ : rg 2 2 (2 : Int32)) (by decide) (by decide) (by decide)
      refine lv_icmp_ge (tgt := 39) hx hb dX12_casesThat_11 (by decide) (fun c_229 => ?_) (fun c_229 => ?_)
      · skip
        have o_230 : rl 0 x_227 y4_1 := rl_le c_229
        refine lv_iload_n hx hb dX12_casesThat_39 rfl (lv_at hl 2 rfl) ?_
        exact oE_i hx hb hr rfl hlocks hP hD hS () [0, 1] rfl (by decide) hy4_0 (Nat.le_of_ble_eq_true rfl) (Nat.le_of_ble_eq_true rfl) dX12_casesThat_40
      · skip
        have o_231 : rl 1 y4_1 x_227 := rl_nle c_229
        have h_232 : rg 0 4 y4_1 := rl_x o_231 hy4_1 h_228 (by decide) (by decide)
        have h_233 : rg 1 5 x_227 := rl_y o_231 hy4_1 h_228 (by decide) (by decide)
        refine lv_aload_n hx hb dX12_casesThat_14 rfl (lv_at hl 0 rfl) ?_
        refine va_get (D := D) (ci := 11) (v := .ref h0_now) (C := RX12) (T := TX12) (N := 48) hx hb hts k2 hown hK.1 hP 0 rfl rfl 14 (by decide) k1 (fun _ h9 => h9) rfl dX12_casesThat_15 ?_
        refine lv_bipush (v := 114) hx hb dX12_casesThat_18 (by decide) ?_
        refine lv_iload_n hx hb dX12_casesThat_20 rfl (lv_at hl 3 rfl) ?_
        refine lv_iadd hx hb dX12_casesThat_21 ?_
        refine lv_topi (fun x_234 ex_234 => ?_)
        have h_235 : rg 114 118 x_234 := by rw [ex_234]; exact rg_add (⟨by decide, by decide⟩ : rg 114 114 (114 : Int32)) h_232 (by decide) (by decide) (by decide) (by decide)
        have l_236 : lq x_234.toInt (y4_1.toInt + 114) := lqm (by rw [ex_234]; have q := tadd (⟨by decide, by decide⟩ : rg 114 114 (114 : Int32)) h_232 (by decide) (by decide); have r0 := lqe (lqm (by decide) : lq (114 : Int32).toInt 114); omega)
        refine va_iald hx hb hK.1 hP 1 0 rfl rfl (rg_in h_235 (by decide) (by decide)) dX12_casesThat_22 ?_
        refine lv_topi (fun x_237 ex_237 => ?_)
        refine lv_iload_n hx hb dX12_casesThat_23 rfl (lv_at hl 1 rfl) ?_
        refine lv_icmp_ne (tgt := 33) hx hb dX12_casesThat_24 (by decide) (fun c_238 => ?_) (fun c_238 => ?_)
        · skip
          exact J33_223 y4_0 hy4_0 (sg_of (k := 2) ex_227 h_233 (by decide)) h_232 H locs ls (oPsub hP [0, 1] rfl) (hD.sub [0, 1] (by decide) rfl) hS (lv_sub hl [0, 1, 2, 3] rfl)
        · skip
          have o_239 : rl 0 x_237 a1 := rl_eq c_238
          have o_240 : rl 0 a1 x_237 := rl_eq c_238.symm
          refine lv_iload_n hx hb dX12_casesThat_27 rfl (lv_at hl 2 rfl) ?_
          refine lv_iconst (v := 1) hx hb dX12_casesThat_28 (by decide) ?_
          refine lv_iload_n hx hb dX12_casesThat_29 rfl (lv_at hl 3 rfl) ?_
          refine lv_ishl hx hb dX12_casesThat_30 ?_
          refine lv_topi (fun x_241 ex_241 => ?_)
          have h_242 : rg 1 16 x_241 := by rw [ex_241]; exact rg_shl1 h_232 (by decide) (by decide) (by decide) (by decide)
          refine lv_ior hx hb dX12_casesThat_31 ?_
          refine lv_topi (fun x_243 ex_243 => ?_)
          have h_244 : rg 0 1023 x_243 := by rw [ex_243]; exact rg_or 10 hy4_0 h_242 (by decide) (by decide) (by decide) (by decide) (by decide) (by decide) (by decide)
          refine lv_istore_n (lv' := [(2, .int x_243), (0, .ref h0), (1, .int a1), (3, .int y4_1)]) hx hb dX12_casesThat_32 rfl hl (by decide) rfl (fun ls hl => ?_)
          exact J33_223 x_243 h_244 (sg_of (k := 2) ex_227 h_233 (by decide)) h_232 H locs ls (oPsub hP [0, 1] rfl) (hD.sub [0, 1] (by decide) rfl) hS (lv_sub hl [1, 2, 0, 3] rfl)
  refine lv_iconst (v := 0) hx hb dX12_casesThat_0 (by decide) ?_
  refine lv_istore_n (lv' := [(2, .int 0), (0, .ref h0), (1, .int a1)]) hx hb dX12_casesThat_1 rfl hl (by decide) rfl (fun ls hl => ?_)
  refine lv_iconst (v := 0) hx hb dX12_casesThat_2 (by decide) ?_
  refine lv_istore_n (lv' := [(3, .int 0), (2, .int 0), (0, .ref h0), (1, .int a1)]) hx hb dX12_casesThat_3 rfl hl (by decide) rfl (fun ls hl => ?_)
  exact J4_201 6 0 0 trivial (⟨by decide, by decide⟩ : rg 0 1023 (0 : Int32)) (⟨by decide, by decide⟩ : rg 0 5 (0 : Int32)) (by have q0 := (⟨by decide, by decide⟩ : rg 0 0 (0 : Int32)).1; omega) H locs ls (oPsub hP [0, 1] rfl) (hD.sub [0, 1] (by decide) rfl) hS (lv_sub hl [2, 3, 1, 0] rfl)
theorem dX12_now_0 : decode cX12_now 0 = .ok (.aload_n 0, 1) := by decide +kernel
theorem dX12_now_1 : decode cX12_now 1 = .ok (.iconst 0, 1) := by decide +kernel
theorem dX12_now_2 : decode cX12_now 2 = .ok (.putfield 1, 3) := by decide +kernel
theorem dX12_now_5 : decode cX12_now 5 = .ok (.iconst 0, 1) := by decide +kernel
theorem dX12_now_6 : decode cX12_now 6 = .ok (.istore_n 2, 1) := by decide +kernel
theorem dX12_now_7 : decode cX12_now 7 = .ok (.iload_n 1, 1) := by decide +kernel
theorem dX12_now_8 : decode cX12_now 8 = .ok (.tableswitch 128 0 7 #[48, 56, 64, 72, 78, 84, 112, 120], 48) := by decide +kernel
theorem dX12_now_56 : decode cX12_now 56 = .ok (.aload_n 0, 1) := by decide +kernel
theorem dX12_now_57 : decode cX12_now 57 = .ok (.getfield 98, 3) := by decide +kernel
theorem dX12_now_60 : decode cX12_now 60 = .ok (.bipush 89, 2) := by decide +kernel
theorem dX12_now_62 : decode cX12_now 62 = .ok (.iaload, 1) := by decide +kernel
theorem dX12_now_63 : decode cX12_now 63 = .ok (.ireturn, 1) := by decide +kernel
theorem dX12_now_64 : decode cX12_now 64 = .ok (.aload_n 0, 1) := by decide +kernel
theorem dX12_now_65 : decode cX12_now 65 = .ok (.getfield 98, 3) := by decide +kernel
theorem dX12_now_68 : decode cX12_now 68 = .ok (.bipush 90, 2) := by decide +kernel
theorem dX12_now_70 : decode cX12_now 70 = .ok (.iaload, 1) := by decide +kernel
theorem dX12_now_71 : decode cX12_now 71 = .ok (.ireturn, 1) := by decide +kernel
theorem dX12_now_72 : decode cX12_now 72 = .ok (.aload_n 0, 1) := by decide +kernel
theorem dX12_now_73 : decode cX12_now 73 = .ok (.getfield 98, 3) := by decide +kernel
theorem dX12_now_76 : decode cX12_now 76 = .ok (.bipush 91, 2) := by decide +kernel
theorem dX12_now_78 : decode cX12_now 78 = .ok (.iaload, 1) := by decide +kernel
theorem dX12_now_79 : decode cX12_now 79 = .ok (.ireturn, 1) := by decide +kernel
theorem dX12_now_80 : decode cX12_now 80 = .ok (.aload_n 0, 1) := by decide +kernel
theorem dX12_now_81 : decode cX12_now 81 = .ok (.iconst 1, 1) := by decide +kernel
theorem dX12_now_82 : decode cX12_now 82 = .ok (.invokevirtual 271, 3) := by decide +kernel
theorem dX12_now_85 : decode cX12_now 85 = .ok (.ireturn, 1) := by decide +kernel
theorem dX12_now_86 : decode cX12_now 86 = .ok (.aload_n 0, 1) := by decide +kernel
theorem dX12_now_87 : decode cX12_now 87 = .ok (.iconst 2, 1) := by decide +kernel
theorem dX12_now_88 : decode cX12_now 88 = .ok (.invokevirtual 271, 3) := by decide +kernel
theorem dX12_now_91 : decode cX12_now 91 = .ok (.ireturn, 1) := by decide +kernel
theorem dX12_now_92 : decode cX12_now 92 = .ok (.iconst 0, 1) := by decide +kernel
theorem dX12_now_93 : decode cX12_now 93 = .ok (.istore_n 3, 1) := by decide +kernel
theorem dX12_now_94 : decode cX12_now 94 = .ok (.iload_n 3, 1) := by decide +kernel
theorem dX12_now_95 : decode cX12_now 95 = .ok (.bipush 10, 2) := by decide +kernel
theorem dX12_now_97 : decode cX12_now 97 = .ok (.if_icmp .ge 21, 3) := by decide +kernel
theorem dX12_now_100 : decode cX12_now 100 = .ok (.iload_n 2, 1) := by decide +kernel
theorem dX12_now_101 : decode cX12_now 101 = .ok (.aload_n 0, 1) := by decide +kernel
theorem dX12_now_102 : decode cX12_now 102 = .ok (.getfield 98, 3) := by decide +kernel
theorem dX12_now_105 : decode cX12_now 105 = .ok (.bipush 94, 2) := by decide +kernel
theorem dX12_now_107 : decode cX12_now 107 = .ok (.iload_n 3, 1) := by decide +kernel
theorem dX12_now_108 : decode cX12_now 108 = .ok (.iadd, 1) := by decide +kernel
theorem dX12_now_109 : decode cX12_now 109 = .ok (.iaload, 1) := by decide +kernel
theorem dX12_now_110 : decode cX12_now 110 = .ok (.iadd, 1) := by decide +kernel
theorem dX12_now_111 : decode cX12_now 111 = .ok (.istore_n 2, 1) := by decide +kernel
theorem dX12_now_112 : decode cX12_now 112 = .ok (.iinc 3 1, 3) := by decide +kernel
theorem dX12_now_115 : decode cX12_now 115 = .ok (.goto (-21), 3) := by decide +kernel
theorem dX12_now_118 : decode cX12_now 118 = .ok (.iload_n 2, 1) := by decide +kernel
theorem dX12_now_119 : decode cX12_now 119 = .ok (.ireturn, 1) := by decide +kernel
theorem dX12_now_120 : decode cX12_now 120 = .ok (.aload_n 0, 1) := by decide +kernel
theorem dX12_now_121 : decode cX12_now 121 = .ok (.getfield 98, 3) := by decide +kernel
theorem dX12_now_124 : decode cX12_now 124 = .ok (.bipush 92, 2) := by decide +kernel
theorem dX12_now_126 : decode cX12_now 126 = .ok (.iaload, 1) := by decide +kernel
theorem dX12_now_127 : decode cX12_now 127 = .ok (.ireturn, 1) := by decide +kernel
theorem dX12_now_128 : decode cX12_now 128 = .ok (.aload_n 0, 1) := by decide +kernel
theorem dX12_now_129 : decode cX12_now 129 = .ok (.getfield 98, 3) := by decide +kernel
theorem dX12_now_132 : decode cX12_now 132 = .ok (.bipush 93, 2) := by decide +kernel
theorem dX12_now_134 : decode cX12_now 134 = .ok (.iaload, 1) := by decide +kernel
theorem dX12_now_135 : decode cX12_now 135 = .ok (.ireturn, 1) := by decide +kernel
theorem dX12_now_136 : decode cX12_now 136 = .ok (.iconst (-1), 1) := by decide +kernel
theorem dX12_now_137 : decode cX12_now 137 = .ok (.ireturn, 1) := by decide +kernel
set_option maxRecDepth 20000 in
theorem ggX12_now_X12_casesThat : GoodIn wsX12_now wsX12_casesThat := goodIn_r _ [7, 2, 8, 9, 10, 11, 12, 13, 14, 15, 16, 17, 18, 19, 20, 21, 22, 23, 24, 25, 26, 27, 28, 29, 30, 31, 32, 33, 34, 35, 36, 37, 38, 39, 40, 41, 42, 43, 44, 45, 46, 47, 48, 49, 50, 51, 52, 53, 54, 55] rfl (by decide +kernel)
set_option maxRecDepth 20000 in
theorem gX12_now_X12_casesThat : GoodIn wsX12_now (wsV RX12 271 RX12 yX12_casesThat wsX12_casesThat) := goodIn_app (goodIn_of _ (by decide +kernel)) ggX12_now_X12_casesThat
set_option maxHeartbeats 4000000 in
set_option maxRecDepth 100000 in
theorem s_X12_now (l : Launch) (D : va_G) (ca : Nat → ClassId) (sz : Nat) (h0 : Nat) (a1 : Int32) (h0_thrown : Int32) (h0_tape : Nat) (h0_taped : Int32) (h0_size : Int32) (h0_limit : Int32) (h0_to : Int32) (h0_from : Int32) (h0_kind : Int32) (h0_number : Int32) (h0_sign : Int32) (h0_fault : Int32) (h0_place : Int32) (h0_word : Int64) (h0_told : Int32) (h0_now : Nat) (h0_read : Nat) (h0_kept : Nat) (h0_snaps : Nat) (h0_aside : Nat) (h0_name : Nat) (h0_readName : Nat) (h0_keptName : Nat) (h0_isKept : Nat) (h0_onces : Nat) (h0_snapMany : Int32) (h0_lowest : Int32) (h0_highest : Int32) (h0_agreed : Int32) (h0_jurors : Int32) (h0_panelled : Int32) (h0_inSets : Nat) (h0_surely : Int32) (h0_asked : Int32) (h0_frees : Nat) (h0_struck : Int32) (h0_beating : Int32) (h0_text : Nat) (h0_texts : Int32) (h0_seed : Int32) (h0_line : Nat) (h0_written : Nat) (h0_lineMany : Int32) (h0_hasWritten : Int32) (h0_node : Nat) (h0_nodes : Int32) (h0_onesMany : Int32) (h0_within : Int32) (h0_top : Int32) (F_h0_now : Nat → Int32) (i_h0_taped : rg 0 940 h0_taped) (i_h0_size : rg 0 940 h0_size) (i_h0_to : rg 0 940 h0_to) (i_h0_kind : rg 0 4 h0_kind) (i_h0_snapMany : rg 0 8 h0_snapMany) (i_h0_texts : rg 0 64 h0_texts) (i_h0_lineMany : rg 0 40 h0_lineMany) (i_h0_hasWritten : rg 0 1 h0_hasWritten) (i_h0_nodes : rg 0 60 h0_nodes) (i_h0_onesMany : rg 0 20 h0_onesMany) (s_h0_now_0 : sg 0 1 0 10 F_h0_now) (s_h0_now_1 : sg 1 2 0 4 F_h0_now) (s_h0_now_2 : sg 2 3 0 5 F_h0_now) (s_h0_now_3 : sg 35 36 0 1023 F_h0_now) (s_h0_now_4 : sg 44 49 0 3 F_h0_now) (s_h0_now_5 : sg 90 91 0 1023 F_h0_now) (s_h0_now_6 : sg 124 129 0 1023 F_h0_now) (s_h0_now_7 : sg 135 136 0 39 F_h0_now) : oMet l yX12_now wsX12_now ({ frames := 1, cells := 0, slots := 0, locals := 23 } : Room) [.ref h0, .int a1] D ca sz [(h0, .inr (11, [.int h0_thrown, .ref h0_tape, .int h0_taped, .int h0_size, .int h0_limit, .int h0_to, .int h0_from, .int h0_kind, .int h0_number, .int h0_sign, .int h0_fault, .int h0_place, .long h0_word, .int h0_told, .ref h0_now, .ref h0_read, .ref h0_kept, .ref h0_snaps, .ref h0_aside, .ref h0_name, .ref h0_readName, .ref h0_keptName, .ref h0_isKept, .ref h0_onces, .int h0_snapMany, .int h0_lowest, .int h0_highest, .int h0_agreed, .int h0_jurors, .int h0_panelled, .ref h0_inSets, .int h0_surely, .int h0_asked, .ref h0_frees, .int h0_struck, .int h0_beating, .ref h0_text, .int h0_texts, .int h0_seed, .ref h0_line, .ref h0_written, .int h0_lineMany, .int h0_hasWritten, .ref h0_node, .int h0_nodes, .int h0_onesMany, .int h0_within, .int h0_top])), (aI ca h0_now 376 F_h0_now)] (oQi D (fun (r : Int32) (u : Unit) => True) (fun (u : Unit) => [(h0, .inr (11, [.int 0, .ref h0_tape, .int h0_taped, .int h0_size, .int h0_limit, .int h0_to, .int h0_from, .int h0_kind, .int h0_number, .int h0_sign, .int h0_fault, .int h0_place, .long h0_word, .int h0_told, .ref h0_now, .ref h0_read, .ref h0_kept, .ref h0_snaps, .ref h0_aside, .ref h0_name, .ref h0_readName, .ref h0_keptName, .ref h0_isKept, .ref h0_onces, .int h0_snapMany, .int h0_lowest, .int h0_highest, .int h0_agreed, .int h0_jurors, .int h0_panelled, .ref h0_inSets, .int h0_surely, .int h0_asked, .ref h0_frees, .int h0_struck, .int h0_beating, .ref h0_text, .int h0_texts, .int h0_seed, .ref h0_line, .ref h0_written, .int h0_lineMany, .int h0_hasWritten, .ref h0_node, .int h0_nodes, .int h0_onesMany, .int h0_within, .int h0_top])), (aI ca h0_now 376 F_h0_now)])) 0 0 := by
  refine oM (cc := cX12_now) (maxL := 4) (ret := (some .int)) (by decide) rfl (Nat.le_of_ble_eq_true rfl) [(0, .ref h0), (1, .int a1)] rfl ?_
  intro p e s m below meth c A H locs ls hx hb hr hml hts hown hlocks hin hK hP hD hA hS hl
  have hown : s.vm.findClass RX12 = some m.cls := hown
  have k1 := hts (.fieldLink RX12 98 "LidCourtModel" "now" "[I") (by decide +kernel)
  have k2 : ∀ w ∈ wsX120, w ∈ wsX12_now := fun _ h => List.mem_cons_of_mem _ (List.mem_append_right _ h)
  have k3 := hts (.fieldLink RX12 1 "LidCourtModel" "thrown" "I") (by decide +kernel)
  have J94_94 : ∀ (n : Nat) (y94_0 : Int32) (y94_1 : Int32), True → rg 0 10 y94_1 → rg 5 5 a1 → 10 < y94_1.toInt + (n : Int) → ∀ (H : Heap) (locs : List Loc) (ls : Array Slot), va_P D vwCl [(h0, .inr (11, [.int 0, .ref h0_tape, .int h0_taped, .int h0_size, .int h0_limit, .int h0_to, .int h0_from, .int h0_kind, .int h0_number, .int h0_sign, .int h0_fault, .int h0_place, .long h0_word, .int h0_told, .ref h0_now, .ref h0_read, .ref h0_kept, .ref h0_snaps, .ref h0_aside, .ref h0_name, .ref h0_readName, .ref h0_keptName, .ref h0_isKept, .ref h0_onces, .int h0_snapMany, .int h0_lowest, .int h0_highest, .int h0_agreed, .int h0_jurors, .int h0_panelled, .ref h0_inSets, .int h0_surely, .int h0_asked, .ref h0_frees, .int h0_struck, .int h0_beating, .ref h0_text, .int h0_texts, .int h0_seed, .ref h0_line, .ref h0_written, .int h0_lineMany, .int h0_hasWritten, .ref h0_node, .int h0_nodes, .int h0_onesMany, .int h0_within, .int h0_top])), (aI ca h0_now 376 F_h0_now)] H → va_D A [(h0, .inr (11, [.int 0, .ref h0_tape, .int h0_taped, .int h0_size, .int h0_limit, .int h0_to, .int h0_from, .int h0_kind, .int h0_number, .int h0_sign, .int h0_fault, .int h0_place, .long h0_word, .int h0_told, .ref h0_now, .ref h0_read, .ref h0_kept, .ref h0_snaps, .ref h0_aside, .ref h0_name, .ref h0_readName, .ref h0_keptName, .ref h0_isKept, .ref h0_onces, .int h0_snapMany, .int h0_lowest, .int h0_highest, .int h0_agreed, .int h0_jurors, .int h0_panelled, .ref h0_inSets, .int h0_surely, .int h0_asked, .ref h0_frees, .int h0_struck, .int h0_beating, .ref h0_text, .int h0_texts, .int h0_seed, .ref h0_line, .ref h0_written, .int h0_lineMany, .int h0_hasWritten, .ref h0_node, .int h0_nodes, .int h0_onesMany, .int h0_within, .int h0_top])), (aI ca h0_now 376 F_h0_now)] → va_S A s.heap H locs → lv_has ls 4 [(0, .ref h0), (2, .int y94_0), (3, .int y94_1)] → W p l e ({ frames := 1, cells := 0, slots := 0, locals := 23 } : Room) s m ([.ref h0, .int a1] : List Value).toArray below meth c H locs 0 0 (MQ below ((oQi D (fun (r : Int32) (u : Unit) => True) (fun (u : Unit) => [(h0, .inr (11, [.int 0, .ref h0_tape, .int h0_taped, .int h0_size, .int h0_limit, .int h0_to, .int h0_from, .int h0_kind, .int h0_number, .int h0_sign, .int h0_fault, .int h0_place, .long h0_word, .int h0_told, .ref h0_now, .ref h0_read, .ref h0_kept, .ref h0_snaps, .ref h0_aside, .ref h0_name, .ref h0_readName, .ref h0_keptName, .ref h0_isKept, .ref h0_onces, .int h0_snapMany, .int h0_lowest, .int h0_highest, .int h0_agreed, .int h0_jurors, .int h0_panelled, .ref h0_inSets, .int h0_surely, .int h0_asked, .ref h0_frees, .int h0_struck, .int h0_beating, .ref h0_text, .int h0_texts, .int h0_seed, .ref h0_line, .ref h0_written, .int h0_lineMany, .int h0_hasWritten, .ref h0_node, .int h0_nodes, .int h0_onesMany, .int h0_within, .int h0_top])), (aI ca h0_now 376 F_h0_now)])) A) ([.ref h0, .int a1] : List Value).toArray s 0 0 A) (F0 m 94 ls []) := by
    intro n
    induction n with
    | zero => intro y94_0 y94_1 _ hy94_1 t94_a1 hn; exact absurd hn (by have q9 := hy94_1.2; omega)
    | succ n ih =>
      intro y94_0 y94_1 _ hy94_1 t94_a1 hn H locs ls hP hD hS hl
      refine lv_iload_n hx hb dX12_now_94 rfl (lv_at hl 2 rfl) ?_
      refine lv_bipush (v := 10) hx hb dX12_now_95 (by decide) ?_
      refine lv_icmp_ge (tgt := 118) hx hb dX12_now_97 (by decide) (fun c_108 => ?_) (fun c_108 => ?_)
      · skip
        have o_109 : rl 0 10 y94_1 := rl_le c_108
        have h_110 : rg 10 10 y94_1 := rl_y o_109 (⟨by decide, by decide⟩ : rg 10 10 (10 : Int32)) hy94_1 (by decide) (by decide)
        refine lv_iload_n hx hb dX12_now_118 rfl (lv_at hl 1 rfl) ?_
        exact oE_i hx hb hr rfl hlocks hP hD hS () [0, 1] rfl (by decide) trivial (Nat.le_of_ble_eq_true rfl) (Nat.le_of_ble_eq_true rfl) dX12_now_119
      · skip
        have o_111 : rl 1 y94_1 10 := rl_nle c_108
        have h_112 : rg 0 9 y94_1 := rl_x o_111 hy94_1 (⟨by decide, by decide⟩ : rg 10 10 (10 : Int32)) (by decide) (by decide)
        refine lv_iload_n hx hb dX12_now_100 rfl (lv_at hl 1 rfl) ?_
        refine lv_aload_n hx hb dX12_now_101 rfl (lv_at hl 0 rfl) ?_
        refine va_get (D := D) (ci := 11) (v := .ref h0_now) (C := RX12) (T := TX12) (N := 48) hx hb hts k2 hown hK.1 hP 0 rfl rfl 14 (by decide) k1 (fun _ h9 => h9) rfl dX12_now_102 ?_
        refine lv_bipush (v := 94) hx hb dX12_now_105 (by decide) ?_
        refine lv_iload_n hx hb dX12_now_107 rfl (lv_at hl 2 rfl) ?_
        refine lv_iadd hx hb dX12_now_108 ?_
        refine lv_topi (fun x_113 ex_113 => ?_)
        have h_114 : rg 94 103 x_113 := by rw [ex_113]; exact rg_add (⟨by decide, by decide⟩ : rg 94 94 (94 : Int32)) h_112 (by decide) (by decide) (by decide) (by decide)
        have l_115 : lq x_113.toInt (y94_1.toInt + 94) := lqm (by rw [ex_113]; have q := tadd (⟨by decide, by decide⟩ : rg 94 94 (94 : Int32)) h_112 (by decide) (by decide); have r0 := lqe (lqm (by decide) : lq (94 : Int32).toInt 94); omega)
        refine va_iald hx hb hK.1 hP 1 0 rfl rfl (rg_in h_114 (by decide) (by decide)) dX12_now_109 ?_
        refine lv_topi (fun x_116 ex_116 => ?_)
        refine lv_iadd hx hb dX12_now_110 ?_
        refine lv_topi (fun x_117 ex_117 => ?_)
        refine lv_istore_n (lv' := [(2, .int x_117), (0, .ref h0), (3, .int y94_1)]) hx hb dX12_now_111 rfl hl (by decide) rfl (fun ls hl => ?_)
        obtain ⟨x_118, ex_118⟩ : ∃ y : Int32, y = y94_1 + 1 := ⟨_, rfl⟩
        have h_119 : rg 1 10 x_118 := by rw [ex_118]; exact rg_add h_112 (⟨by decide, by decide⟩ : rg 1 1 (1 : Int32)) (by decide) (by decide) (by decide) (by decide)
        have l_120 : lq x_118.toInt (y94_1.toInt + 1) := lqm (by rw [ex_118]; have q := tadd h_112 (⟨by decide, by decide⟩ : rg 1 1 (1 : Int32)) (by decide) (by decide); have r1 := lqe (lqm (by decide) : lq (1 : Int32).toInt 1); omega)
        refine lv_iinc (v := x_118) (lv' := [(3, .int x_118), (2, .int x_117), (0, .ref h0)]) hx hb dX12_now_112 hl (k := 2) rfl (by rw [ex_118]; rfl) (by decide) rfl (fun ls hl => ?_)
        refine lv_goto (tgt := 94) hx hb dX12_now_115 (by decide) ?_
        exact ih x_117 x_118 trivial (rgw (lo := 0) (hi := 10) h_119 (by decide) (by decide)) t94_a1 (by have q0 := lqe l_120; omega) H locs ls (oPsub hP [0, 1] rfl) (hD.sub [0, 1] (by decide) rfl) hS (lv_sub hl [2, 1, 0] rfl)
  refine lv_aload_n hx hb dX12_now_0 rfl (lv_at hl 0 rfl) ?_
  refine lv_iconst (v := 0) hx hb dX12_now_1 (by decide) ?_
  refine va_put (D := D) (ci := 11) (v := .int 0) (ty := .int) (C := RX12) (T := TX12) (N := 48) hx hb hts k2 tyX12 tyX12_ok nmX12 hown hK.1 hP hD hS 0 rfl rfl 0 (by decide) k3 (fun _ h9 => h9) rfl (by decide +kernel) rfl rfl (Nat.le_of_ble_eq_true rfl) dX12_now_2 (fun H locs hP hD hS => ?_)
  have hP : va_P D vwCl [(h0, .inr (11, [.int 0, .ref h0_tape, .int h0_taped, .int h0_size, .int h0_limit, .int h0_to, .int h0_from, .int h0_kind, .int h0_number, .int h0_sign, .int h0_fault, .int h0_place, .long h0_word, .int h0_told, .ref h0_now, .ref h0_read, .ref h0_kept, .ref h0_snaps, .ref h0_aside, .ref h0_name, .ref h0_readName, .ref h0_keptName, .ref h0_isKept, .ref h0_onces, .int h0_snapMany, .int h0_lowest, .int h0_highest, .int h0_agreed, .int h0_jurors, .int h0_panelled, .ref h0_inSets, .int h0_surely, .int h0_asked, .ref h0_frees, .int h0_struck, .int h0_beating, .ref h0_text, .int h0_texts, .int h0_seed, .ref h0_line, .ref h0_written, .int h0_lineMany, .int h0_hasWritten, .ref h0_node, .int h0_nodes, .int h0_onesMany, .int h0_within, .int h0_top])), (aI ca h0_now 376 F_h0_now)] H := hP
  have hD : va_D A [(h0, .inr (11, [.int 0, .ref h0_tape, .int h0_taped, .int h0_size, .int h0_limit, .int h0_to, .int h0_from, .int h0_kind, .int h0_number, .int h0_sign, .int h0_fault, .int h0_place, .long h0_word, .int h0_told, .ref h0_now, .ref h0_read, .ref h0_kept, .ref h0_snaps, .ref h0_aside, .ref h0_name, .ref h0_readName, .ref h0_keptName, .ref h0_isKept, .ref h0_onces, .int h0_snapMany, .int h0_lowest, .int h0_highest, .int h0_agreed, .int h0_jurors, .int h0_panelled, .ref h0_inSets, .int h0_surely, .int h0_asked, .ref h0_frees, .int h0_struck, .int h0_beating, .ref h0_text, .int h0_texts, .int h0_seed, .ref h0_line, .ref h0_written, .int h0_lineMany, .int h0_hasWritten, .ref h0_node, .int h0_nodes, .int h0_onesMany, .int h0_within, .int h0_top])), (aI ca h0_now 376 F_h0_now)] := hD
  refine lv_iconst (v := 0) hx hb dX12_now_5 (by decide) ?_
  refine lv_istore_n (lv' := [(2, .int 0), (0, .ref h0), (1, .int a1)]) hx hb dX12_now_6 rfl hl (by decide) rfl (fun ls hl => ?_)
  refine lv_iload_n hx hb dX12_now_7 rfl (lv_at hl 2 rfl) ?_
  by_cases c_121 : a1 = 0
  · skip
    refine oti 0 c_121 ?_
    refine lv_tableIn (off := 48) (tgt := 56) hx hb dX12_now_8 (by decide) (by decide) (by decide) (by decide) ?_
    refine lv_aload_n hx hb dX12_now_56 rfl (lv_at hl 1 rfl) ?_
    refine va_get (D := D) (ci := 11) (v := .ref h0_now) (C := RX12) (T := TX12) (N := 48) hx hb hts k2 hown hK.1 hP 0 rfl rfl 14 (by decide) k1 (fun _ h9 => h9) rfl dX12_now_57 ?_
    refine lv_bipush (v := 89) hx hb dX12_now_60 (by decide) ?_
    refine va_iald hx hb hK.1 hP 1 0 rfl rfl (rg_in (⟨by decide, by decide⟩ : rg 89 89 (89 : Int32)) (by decide) (by decide)) dX12_now_62 ?_
    refine lv_topi (fun x_122 ex_122 => ?_)
    exact oE_i hx hb hr rfl hlocks hP hD hS () [0, 1] rfl (by decide) trivial (Nat.le_of_ble_eq_true rfl) (Nat.le_of_ble_eq_true rfl) dX12_now_63
  by_cases c_123 : a1 = 1
  · skip
    refine oti 1 c_123 ?_
    refine lv_tableIn (off := 56) (tgt := 64) hx hb dX12_now_8 (by decide) (by decide) (by decide) (by decide) ?_
    refine lv_aload_n hx hb dX12_now_64 rfl (lv_at hl 1 rfl) ?_
    refine va_get (D := D) (ci := 11) (v := .ref h0_now) (C := RX12) (T := TX12) (N := 48) hx hb hts k2 hown hK.1 hP 0 rfl rfl 14 (by decide) k1 (fun _ h9 => h9) rfl dX12_now_65 ?_
    refine lv_bipush (v := 90) hx hb dX12_now_68 (by decide) ?_
    refine va_iald hx hb hK.1 hP 1 0 rfl rfl (rg_in (⟨by decide, by decide⟩ : rg 90 90 (90 : Int32)) (by decide) (by decide)) dX12_now_70 ?_
    refine lv_topi (fun x_124 ex_124 => ?_)
    have h_125 : rg 0 1023 x_124 := by rw [ex_124]; exact sg_at s_h0_now_5 (⟨by decide, by decide⟩ : rg 90 90 (90 : Int32)) (by decide) (by decide) (by decide)
    exact oE_i hx hb hr rfl hlocks hP hD hS () [0, 1] rfl (by decide) trivial (Nat.le_of_ble_eq_true rfl) (Nat.le_of_ble_eq_true rfl) dX12_now_71
  by_cases c_126 : a1 = 2
  · skip
    refine oti 2 c_126 ?_
    refine lv_tableIn (off := 64) (tgt := 72) hx hb dX12_now_8 (by decide) (by decide) (by decide) (by decide) ?_
    refine lv_aload_n hx hb dX12_now_72 rfl (lv_at hl 1 rfl) ?_
    refine va_get (D := D) (ci := 11) (v := .ref h0_now) (C := RX12) (T := TX12) (N := 48) hx hb hts k2 hown hK.1 hP 0 rfl rfl 14 (by decide) k1 (fun _ h9 => h9) rfl dX12_now_73 ?_
    refine lv_bipush (v := 91) hx hb dX12_now_76 (by decide) ?_
    refine va_iald hx hb hK.1 hP 1 0 rfl rfl (rg_in (⟨by decide, by decide⟩ : rg 91 91 (91 : Int32)) (by decide) (by decide)) dX12_now_78 ?_
    refine lv_topi (fun x_127 ex_127 => ?_)
    exact oE_i hx hb hr rfl hlocks hP hD hS () [0, 1] rfl (by decide) trivial (Nat.le_of_ble_eq_true rfl) (Nat.le_of_ble_eq_true rfl) dX12_now_79
  by_cases c_128 : a1 = 3
  · skip
    refine oti 3 c_128 ?_
    refine lv_tableIn (off := 72) (tgt := 80) hx hb dX12_now_8 (by decide) (by decide) (by decide) (by decide) ?_
    refine lv_aload_n hx hb dX12_now_80 rfl (lv_at hl 1 rfl) ?_
    refine lv_iconst (v := 1) hx hb dX12_now_81 (by decide) ?_
    refine oC_i (Wc := [(h0, .inr (11, [.int 0, .ref h0_tape, .int h0_taped, .int h0_size, .int h0_limit, .int h0_to, .int h0_from, .int h0_kind, .int h0_number, .int h0_sign, .int h0_fault, .int h0_place, .long h0_word, .int h0_told, .ref h0_now, .ref h0_read, .ref h0_kept, .ref h0_snaps, .ref h0_aside, .ref h0_name, .ref h0_readName, .ref h0_keptName, .ref h0_isKept, .ref h0_onces, .int h0_snapMany, .int h0_lowest, .int h0_highest, .int h0_agreed, .int h0_jurors, .int h0_panelled, .ref h0_inSets, .int h0_surely, .int h0_asked, .ref h0_frees, .int h0_struck, .int h0_beating, .ref h0_text, .int h0_texts, .int h0_seed, .ref h0_line, .ref h0_written, .int h0_lineMany, .int h0_hasWritten, .ref h0_node, .int h0_nodes, .int h0_onesMany, .int h0_within, .int h0_top])), (aI ca h0_now 376 F_h0_now)]) (Wr := []) (va_runV (As := [.int 1]) (rest := []) ⟨hx, hb, hml, hown, hts⟩ (s_X12_casesThat l D ca H.size h0 1 0 h0_tape h0_taped h0_size h0_limit h0_to h0_from h0_kind h0_number h0_sign h0_fault h0_place h0_word h0_told h0_now h0_read h0_kept h0_snaps h0_aside h0_name h0_readName h0_keptName h0_isKept h0_onces h0_snapMany h0_lowest h0_highest h0_agreed h0_jurors h0_panelled h0_inSets h0_surely h0_asked h0_frees h0_struck h0_beating h0_text h0_texts h0_seed h0_line h0_written h0_lineMany h0_hasWritten h0_node h0_nodes h0_onesMany h0_within h0_top F_h0_now i_h0_taped i_h0_size i_h0_to i_h0_kind i_h0_snapMany i_h0_texts i_h0_lineMany i_h0_hasWritten i_h0_nodes i_h0_onesMany s_h0_now_0 s_h0_now_1 s_h0_now_2 s_h0_now_3 s_h0_now_4 s_h0_now_5 s_h0_now_6 s_h0_now_7) (cwV 1 hts gX12_now_X12_casesThat rfl rfl rfl (by decide +kernel) ⟨Nat.le_of_ble_eq_true rfl, Nat.le_of_ble_eq_true rfl⟩) (oPV (C := RX12) hK hP hD [0, 1] rfl (by decide) 0 rfl (ci := 11) rfl rfl) rfl rfl hl.1 rfl (lv_room (Nat.le_of_ble_eq_true rfl)) dX12_now_82 ⟨Nat.le_of_ble_eq_true rfl, Nat.le_of_ble_eq_true rfl⟩) hP hD hS hA [0, 1] [] rfl rfl (by decide) (by decide) (fun r_129 u H locs w_130 hP hD hS => ?_)
    obtain ⟨⟩ := u
    have hP : va_P D vwCl [(h0, .inr (11, [.int 0, .ref h0_tape, .int h0_taped, .int h0_size, .int h0_limit, .int h0_to, .int h0_from, .int h0_kind, .int h0_number, .int h0_sign, .int h0_fault, .int h0_place, .long h0_word, .int h0_told, .ref h0_now, .ref h0_read, .ref h0_kept, .ref h0_snaps, .ref h0_aside, .ref h0_name, .ref h0_readName, .ref h0_keptName, .ref h0_isKept, .ref h0_onces, .int h0_snapMany, .int h0_lowest, .int h0_highest, .int h0_agreed, .int h0_jurors, .int h0_panelled, .ref h0_inSets, .int h0_surely, .int h0_asked, .ref h0_frees, .int h0_struck, .int h0_beating, .ref h0_text, .int h0_texts, .int h0_seed, .ref h0_line, .ref h0_written, .int h0_lineMany, .int h0_hasWritten, .ref h0_node, .int h0_nodes, .int h0_onesMany, .int h0_within, .int h0_top])), (aI ca h0_now 376 F_h0_now)] H := hP
    have hD : va_D A [(h0, .inr (11, [.int 0, .ref h0_tape, .int h0_taped, .int h0_size, .int h0_limit, .int h0_to, .int h0_from, .int h0_kind, .int h0_number, .int h0_sign, .int h0_fault, .int h0_place, .long h0_word, .int h0_told, .ref h0_now, .ref h0_read, .ref h0_kept, .ref h0_snaps, .ref h0_aside, .ref h0_name, .ref h0_readName, .ref h0_keptName, .ref h0_isKept, .ref h0_onces, .int h0_snapMany, .int h0_lowest, .int h0_highest, .int h0_agreed, .int h0_jurors, .int h0_panelled, .ref h0_inSets, .int h0_surely, .int h0_asked, .ref h0_frees, .int h0_struck, .int h0_beating, .ref h0_text, .int h0_texts, .int h0_seed, .ref h0_line, .ref h0_written, .int h0_lineMany, .int h0_hasWritten, .ref h0_node, .int h0_nodes, .int h0_onesMany, .int h0_within, .int h0_top])), (aI ca h0_now 376 F_h0_now)] := hD
    try dsimp only at w_130
    have h_131 := w_130
    exact oE_i hx hb hr rfl hlocks hP hD hS () [0, 1] rfl (by decide) trivial (Nat.le_of_ble_eq_true rfl) (Nat.le_of_ble_eq_true rfl) dX12_now_85
  by_cases c_132 : a1 = 4
  · skip
    refine oti 4 c_132 ?_
    refine lv_tableIn (off := 78) (tgt := 86) hx hb dX12_now_8 (by decide) (by decide) (by decide) (by decide) ?_
    refine lv_aload_n hx hb dX12_now_86 rfl (lv_at hl 1 rfl) ?_
    refine lv_iconst (v := 2) hx hb dX12_now_87 (by decide) ?_
    refine oC_i (Wc := [(h0, .inr (11, [.int 0, .ref h0_tape, .int h0_taped, .int h0_size, .int h0_limit, .int h0_to, .int h0_from, .int h0_kind, .int h0_number, .int h0_sign, .int h0_fault, .int h0_place, .long h0_word, .int h0_told, .ref h0_now, .ref h0_read, .ref h0_kept, .ref h0_snaps, .ref h0_aside, .ref h0_name, .ref h0_readName, .ref h0_keptName, .ref h0_isKept, .ref h0_onces, .int h0_snapMany, .int h0_lowest, .int h0_highest, .int h0_agreed, .int h0_jurors, .int h0_panelled, .ref h0_inSets, .int h0_surely, .int h0_asked, .ref h0_frees, .int h0_struck, .int h0_beating, .ref h0_text, .int h0_texts, .int h0_seed, .ref h0_line, .ref h0_written, .int h0_lineMany, .int h0_hasWritten, .ref h0_node, .int h0_nodes, .int h0_onesMany, .int h0_within, .int h0_top])), (aI ca h0_now 376 F_h0_now)]) (Wr := []) (va_runV (As := [.int 2]) (rest := []) ⟨hx, hb, hml, hown, hts⟩ (s_X12_casesThat l D ca H.size h0 2 0 h0_tape h0_taped h0_size h0_limit h0_to h0_from h0_kind h0_number h0_sign h0_fault h0_place h0_word h0_told h0_now h0_read h0_kept h0_snaps h0_aside h0_name h0_readName h0_keptName h0_isKept h0_onces h0_snapMany h0_lowest h0_highest h0_agreed h0_jurors h0_panelled h0_inSets h0_surely h0_asked h0_frees h0_struck h0_beating h0_text h0_texts h0_seed h0_line h0_written h0_lineMany h0_hasWritten h0_node h0_nodes h0_onesMany h0_within h0_top F_h0_now i_h0_taped i_h0_size i_h0_to i_h0_kind i_h0_snapMany i_h0_texts i_h0_lineMany i_h0_hasWritten i_h0_nodes i_h0_onesMany s_h0_now_0 s_h0_now_1 s_h0_now_2 s_h0_now_3 s_h0_now_4 s_h0_now_5 s_h0_now_6 s_h0_now_7) (cwV 1 hts gX12_now_X12_casesThat rfl rfl rfl (by decide +kernel) ⟨Nat.le_of_ble_eq_true rfl, Nat.le_of_ble_eq_true rfl⟩) (oPV (C := RX12) hK hP hD [0, 1] rfl (by decide) 0 rfl (ci := 11) rfl rfl) rfl rfl hl.1 rfl (lv_room (Nat.le_of_ble_eq_true rfl)) dX12_now_88 ⟨Nat.le_of_ble_eq_true rfl, Nat.le_of_ble_eq_true rfl⟩) hP hD hS hA [0, 1] [] rfl rfl (by decide) (by decide) (fun r_133 u H locs w_134 hP hD hS => ?_)
    obtain ⟨⟩ := u
    have hP : va_P D vwCl [(h0, .inr (11, [.int 0, .ref h0_tape, .int h0_taped, .int h0_size, .int h0_limit, .int h0_to, .int h0_from, .int h0_kind, .int h0_number, .int h0_sign, .int h0_fault, .int h0_place, .long h0_word, .int h0_told, .ref h0_now, .ref h0_read, .ref h0_kept, .ref h0_snaps, .ref h0_aside, .ref h0_name, .ref h0_readName, .ref h0_keptName, .ref h0_isKept, .ref h0_onces, .int h0_snapMany, .int h0_lowest, .int h0_highest, .int h0_agreed, .int h0_jurors, .int h0_panelled, .ref h0_inSets, .int h0_surely, .int h0_asked, .ref h0_frees, .int h0_struck, .int h0_beating, .ref h0_text, .int h0_texts, .int h0_seed, .ref h0_line, .ref h0_written, .int h0_lineMany, .int h0_hasWritten, .ref h0_node, .int h0_nodes, .int h0_onesMany, .int h0_within, .int h0_top])), (aI ca h0_now 376 F_h0_now)] H := hP
    have hD : va_D A [(h0, .inr (11, [.int 0, .ref h0_tape, .int h0_taped, .int h0_size, .int h0_limit, .int h0_to, .int h0_from, .int h0_kind, .int h0_number, .int h0_sign, .int h0_fault, .int h0_place, .long h0_word, .int h0_told, .ref h0_now, .ref h0_read, .ref h0_kept, .ref h0_snaps, .ref h0_aside, .ref h0_name, .ref h0_readName, .ref h0_keptName, .ref h0_isKept, .ref h0_onces, .int h0_snapMany, .int h0_lowest, .int h0_highest, .int h0_agreed, .int h0_jurors, .int h0_panelled, .ref h0_inSets, .int h0_surely, .int h0_asked, .ref h0_frees, .int h0_struck, .int h0_beating, .ref h0_text, .int h0_texts, .int h0_seed, .ref h0_line, .ref h0_written, .int h0_lineMany, .int h0_hasWritten, .ref h0_node, .int h0_nodes, .int h0_onesMany, .int h0_within, .int h0_top])), (aI ca h0_now 376 F_h0_now)] := hD
    try dsimp only at w_134
    have h_135 := w_134
    exact oE_i hx hb hr rfl hlocks hP hD hS () [0, 1] rfl (by decide) trivial (Nat.le_of_ble_eq_true rfl) (Nat.le_of_ble_eq_true rfl) dX12_now_91
  by_cases c_136 : a1 = 5
  · skip
    refine oti 5 c_136 ?_
    refine lv_tableIn (off := 84) (tgt := 92) hx hb dX12_now_8 (by decide) (by decide) (by decide) (by decide) ?_
    refine lv_iconst (v := 0) hx hb dX12_now_92 (by decide) ?_
    refine lv_istore_n (lv' := [(3, .int 0), (2, .int 0), (0, .ref h0), (1, .int a1)]) hx hb dX12_now_93 rfl hl (by decide) rfl (fun ls hl => ?_)
    exact J94_94 11 0 0 trivial (⟨by decide, by decide⟩ : rg 0 10 (0 : Int32)) (rgq (lo := 5) (hi := 5) c_136 ⟨by decide, by decide⟩) (by have q0 := (⟨by decide, by decide⟩ : rg 0 0 (0 : Int32)).1; omega) H locs ls (oPsub hP [0, 1] rfl) (hD.sub [0, 1] (by decide) rfl) hS (lv_sub hl [2, 1, 0] rfl)
  by_cases c_137 : a1 = 6
  · skip
    refine oti 6 c_137 ?_
    refine lv_tableIn (off := 112) (tgt := 120) hx hb dX12_now_8 (by decide) (by decide) (by decide) (by decide) ?_
    refine lv_aload_n hx hb dX12_now_120 rfl (lv_at hl 1 rfl) ?_
    refine va_get (D := D) (ci := 11) (v := .ref h0_now) (C := RX12) (T := TX12) (N := 48) hx hb hts k2 hown hK.1 hP 0 rfl rfl 14 (by decide) k1 (fun _ h9 => h9) rfl dX12_now_121 ?_
    refine lv_bipush (v := 92) hx hb dX12_now_124 (by decide) ?_
    refine va_iald hx hb hK.1 hP 1 0 rfl rfl (rg_in (⟨by decide, by decide⟩ : rg 92 92 (92 : Int32)) (by decide) (by decide)) dX12_now_126 ?_
    refine lv_topi (fun x_138 ex_138 => ?_)
    exact oE_i hx hb hr rfl hlocks hP hD hS () [0, 1] rfl (by decide) trivial (Nat.le_of_ble_eq_true rfl) (Nat.le_of_ble_eq_true rfl) dX12_now_127
  by_cases c_139 : a1 = 7
  · skip
    refine oti 7 c_139 ?_
    refine lv_tableIn (off := 120) (tgt := 128) hx hb dX12_now_8 (by decide) (by decide) (by decide) (by decide) ?_
    refine lv_aload_n hx hb dX12_now_128 rfl (lv_at hl 1 rfl) ?_
    refine va_get (D := D) (ci := 11) (v := .ref h0_now) (C := RX12) (T := TX12) (N := 48) hx hb hts k2 hown hK.1 hP 0 rfl rfl 14 (by decide) k1 (fun _ h9 => h9) rfl dX12_now_129 ?_
    refine lv_bipush (v := 93) hx hb dX12_now_132 (by decide) ?_
    refine va_iald hx hb hK.1 hP 1 0 rfl rfl (rg_in (⟨by decide, by decide⟩ : rg 93 93 (93 : Int32)) (by decide) (by decide)) dX12_now_134 ?_
    refine lv_topi (fun x_140 ex_140 => ?_)
    exact oE_i hx hb hr rfl hlocks hP hD hS () [0, 1] rfl (by decide) trivial (Nat.le_of_ble_eq_true rfl) (Nat.le_of_ble_eq_true rfl) dX12_now_135
  have t0 := lv_neT c_121 (show (0 : Int32).toInt = 0 by decide)
  have t1 := lv_neT c_123 (show (1 : Int32).toInt = 1 by decide)
  have t2 := lv_neT c_126 (show (2 : Int32).toInt = 2 by decide)
  have t3 := lv_neT c_128 (show (3 : Int32).toInt = 3 by decide)
  have t4 := lv_neT c_132 (show (4 : Int32).toInt = 4 by decide)
  have t5 := lv_neT c_136 (show (5 : Int32).toInt = 5 by decide)
  have t6 := lv_neT c_137 (show (6 : Int32).toInt = 6 by decide)
  have t7 := lv_neT c_139 (show (7 : Int32).toInt = 7 by decide)
  have t97 := ((rga a1)).1
  have t98 := ((rga a1)).2
  refine lv_tableOut (tgt := 136) hx hb dX12_now_8 (by omega) (by decide) ?_
  refine lv_iconst (v := (-1)) hx hb dX12_now_136 (by decide) ?_
  exact oE_i hx hb hr rfl hlocks hP hD hS () [0, 1] rfl (by decide) trivial (Nat.le_of_ble_eq_true rfl) (Nat.le_of_ble_eq_true rfl) dX12_now_137
theorem dX12_droppers_0 : decode cX12_droppers 0 = .ok (.aload_n 0, 1) := by decide +kernel
theorem dX12_droppers_1 : decode cX12_droppers 1 = .ok (.getfield 98, 3) := by decide +kernel
theorem dX12_droppers_4 : decode cX12_droppers 4 = .ok (.bipush 90, 2) := by decide +kernel
theorem dX12_droppers_6 : decode cX12_droppers 6 = .ok (.iaload, 1) := by decide +kernel
theorem dX12_droppers_7 : decode cX12_droppers 7 = .ok (.aload_n 0, 1) := by decide +kernel
theorem dX12_droppers_8 : decode cX12_droppers 8 = .ok (.getfield 98, 3) := by decide +kernel
theorem dX12_droppers_11 : decode cX12_droppers 11 = .ok (.bipush 91, 2) := by decide +kernel
theorem dX12_droppers_13 : decode cX12_droppers 13 = .ok (.iaload, 1) := by decide +kernel
theorem dX12_droppers_14 : decode cX12_droppers 14 = .ok (.iconst (-1), 1) := by decide +kernel
theorem dX12_droppers_15 : decode cX12_droppers 15 = .ok (.ixor, 1) := by decide +kernel
theorem dX12_droppers_16 : decode cX12_droppers 16 = .ok (.iand, 1) := by decide +kernel
theorem dX12_droppers_17 : decode cX12_droppers 17 = .ok (.ireturn, 1) := by decide +kernel
set_option maxHeartbeats 4000000 in
set_option maxRecDepth 100000 in
theorem s_X12_droppers (l : Launch) (D : va_G) (ca : Nat → ClassId) (sz : Nat) (h0 : Nat) (h0_thrown : Int32) (h0_tape : Nat) (h0_taped : Int32) (h0_size : Int32) (h0_limit : Int32) (h0_to : Int32) (h0_from : Int32) (h0_kind : Int32) (h0_number : Int32) (h0_sign : Int32) (h0_fault : Int32) (h0_place : Int32) (h0_word : Int64) (h0_told : Int32) (h0_now : Nat) (h0_read : Nat) (h0_kept : Nat) (h0_snaps : Nat) (h0_aside : Nat) (h0_name : Nat) (h0_readName : Nat) (h0_keptName : Nat) (h0_isKept : Nat) (h0_onces : Nat) (h0_snapMany : Int32) (h0_lowest : Int32) (h0_highest : Int32) (h0_agreed : Int32) (h0_jurors : Int32) (h0_panelled : Int32) (h0_inSets : Nat) (h0_surely : Int32) (h0_asked : Int32) (h0_frees : Nat) (h0_struck : Int32) (h0_beating : Int32) (h0_text : Nat) (h0_texts : Int32) (h0_seed : Int32) (h0_line : Nat) (h0_written : Nat) (h0_lineMany : Int32) (h0_hasWritten : Int32) (h0_node : Nat) (h0_nodes : Int32) (h0_onesMany : Int32) (h0_within : Int32) (h0_top : Int32) (F_h0_now : Nat → Int32) (i_h0_taped : rg 0 940 h0_taped) (i_h0_size : rg 0 940 h0_size) (i_h0_to : rg 0 940 h0_to) (i_h0_kind : rg 0 4 h0_kind) (i_h0_snapMany : rg 0 8 h0_snapMany) (i_h0_texts : rg 0 64 h0_texts) (i_h0_lineMany : rg 0 40 h0_lineMany) (i_h0_hasWritten : rg 0 1 h0_hasWritten) (i_h0_nodes : rg 0 60 h0_nodes) (i_h0_onesMany : rg 0 20 h0_onesMany) (s_h0_now_0 : sg 0 1 0 10 F_h0_now) (s_h0_now_1 : sg 1 2 0 4 F_h0_now) (s_h0_now_2 : sg 2 3 0 5 F_h0_now) (s_h0_now_3 : sg 35 36 0 1023 F_h0_now) (s_h0_now_4 : sg 44 49 0 3 F_h0_now) (s_h0_now_5 : sg 90 91 0 1023 F_h0_now) (s_h0_now_6 : sg 124 129 0 1023 F_h0_now) (s_h0_now_7 : sg 135 136 0 39 F_h0_now) : oMet l yX12_droppers wsX12_droppers ({ frames := 0, cells := 0, slots := 0, locals := 0 } : Room) [.ref h0] D ca sz [(h0, .inr (11, [.int h0_thrown, .ref h0_tape, .int h0_taped, .int h0_size, .int h0_limit, .int h0_to, .int h0_from, .int h0_kind, .int h0_number, .int h0_sign, .int h0_fault, .int h0_place, .long h0_word, .int h0_told, .ref h0_now, .ref h0_read, .ref h0_kept, .ref h0_snaps, .ref h0_aside, .ref h0_name, .ref h0_readName, .ref h0_keptName, .ref h0_isKept, .ref h0_onces, .int h0_snapMany, .int h0_lowest, .int h0_highest, .int h0_agreed, .int h0_jurors, .int h0_panelled, .ref h0_inSets, .int h0_surely, .int h0_asked, .ref h0_frees, .int h0_struck, .int h0_beating, .ref h0_text, .int h0_texts, .int h0_seed, .ref h0_line, .ref h0_written, .int h0_lineMany, .int h0_hasWritten, .ref h0_node, .int h0_nodes, .int h0_onesMany, .int h0_within, .int h0_top])), (aI ca h0_now 376 F_h0_now)] (oQi D (fun (r : Int32) (u : Unit) => (rg 0 1023 r)) (fun (u : Unit) => [(h0, .inr (11, [.int h0_thrown, .ref h0_tape, .int h0_taped, .int h0_size, .int h0_limit, .int h0_to, .int h0_from, .int h0_kind, .int h0_number, .int h0_sign, .int h0_fault, .int h0_place, .long h0_word, .int h0_told, .ref h0_now, .ref h0_read, .ref h0_kept, .ref h0_snaps, .ref h0_aside, .ref h0_name, .ref h0_readName, .ref h0_keptName, .ref h0_isKept, .ref h0_onces, .int h0_snapMany, .int h0_lowest, .int h0_highest, .int h0_agreed, .int h0_jurors, .int h0_panelled, .ref h0_inSets, .int h0_surely, .int h0_asked, .ref h0_frees, .int h0_struck, .int h0_beating, .ref h0_text, .int h0_texts, .int h0_seed, .ref h0_line, .ref h0_written, .int h0_lineMany, .int h0_hasWritten, .ref h0_node, .int h0_nodes, .int h0_onesMany, .int h0_within, .int h0_top])), (aI ca h0_now 376 F_h0_now)])) 0 0 := by
  refine oM (cc := cX12_droppers) (maxL := 1) (ret := (some .int)) (by decide) rfl (Nat.le_of_ble_eq_true rfl) [(0, .ref h0)] rfl ?_
  intro p e s m below meth c A H locs ls hx hb hr hml hts hown hlocks hin hK hP hD hA hS hl
  have hown : s.vm.findClass RX12 = some m.cls := hown
  have k1 := hts (.fieldLink RX12 98 "LidCourtModel" "now" "[I") (by decide +kernel)
  have k2 : ∀ w ∈ wsX120, w ∈ wsX12_droppers := fun _ h => List.mem_cons_of_mem _ (List.mem_append_right _ h)
  refine lv_aload_n hx hb dX12_droppers_0 rfl (lv_at hl 0 rfl) ?_
  refine va_get (D := D) (ci := 11) (v := .ref h0_now) (C := RX12) (T := TX12) (N := 48) hx hb hts k2 hown hK.1 hP 0 rfl rfl 14 (by decide) k1 (fun _ h9 => h9) rfl dX12_droppers_1 ?_
  refine lv_bipush (v := 90) hx hb dX12_droppers_4 (by decide) ?_
  refine va_iald hx hb hK.1 hP 1 0 rfl rfl (rg_in (⟨by decide, by decide⟩ : rg 90 90 (90 : Int32)) (by decide) (by decide)) dX12_droppers_6 ?_
  refine lv_topi (fun x_8 ex_8 => ?_)
  have h_9 : rg 0 1023 x_8 := by rw [ex_8]; exact sg_at s_h0_now_5 (⟨by decide, by decide⟩ : rg 90 90 (90 : Int32)) (by decide) (by decide) (by decide)
  refine lv_aload_n hx hb dX12_droppers_7 rfl (lv_at hl 0 rfl) ?_
  refine va_get (D := D) (ci := 11) (v := .ref h0_now) (C := RX12) (T := TX12) (N := 48) hx hb hts k2 hown hK.1 hP 0 rfl rfl 14 (by decide) k1 (fun _ h9 => h9) rfl dX12_droppers_8 ?_
  refine lv_bipush (v := 91) hx hb dX12_droppers_11 (by decide) ?_
  refine va_iald hx hb hK.1 hP 1 0 rfl rfl (rg_in (⟨by decide, by decide⟩ : rg 91 91 (91 : Int32)) (by decide) (by decide)) dX12_droppers_13 ?_
  refine lv_topi (fun x_10 ex_10 => ?_)
  refine lv_iconst (v := (-1)) hx hb dX12_droppers_14 (by decide) ?_
  refine lv_ixor hx hb dX12_droppers_15 ?_
  refine lv_topi (fun x_11 ex_11 => ?_)
  refine lv_iand hx hb dX12_droppers_16 ?_
  refine lv_topi (fun x_12 ex_12 => ?_)
  have h_13 : rg 0 1023 x_12 := by rw [ex_12]; exact rg_and h_9 (by decide) (by decide) (by decide)
  have o_14 : rl 0 x_12 x_8 := by rw [ex_12]; exact rl_and h_9 (by decide)
  exact oE_i hx hb hr rfl hlocks hP hD hS () [0, 1] rfl (by decide) h_13 (Nat.le_of_ble_eq_true rfl) (Nat.le_of_ble_eq_true rfl) dX12_droppers_17
theorem dX12_why_0 : decode cX12_why 0 = .ok (.iload_n 1, 1) := by decide +kernel
theorem dX12_why_1 : decode cX12_why 1 = .ok (.tableswitch 181 0 5 #[39, 59, 79, 99, 119, 137], 39) := by decide +kernel
theorem dX12_why_40 : decode cX12_why 40 = .ok (.aload_n 0, 1) := by decide +kernel
theorem dX12_why_41 : decode cX12_why 41 = .ok (.getfield 98, 3) := by decide +kernel
theorem dX12_why_44 : decode cX12_why 44 = .ok (.bipush 90, 2) := by decide +kernel
theorem dX12_why_46 : decode cX12_why 46 = .ok (.iaload, 1) := by decide +kernel
theorem dX12_why_47 : decode cX12_why 47 = .ok (.iload_n 2, 1) := by decide +kernel
theorem dX12_why_48 : decode cX12_why 48 = .ok (.invokestatic 240, 3) := by decide +kernel
theorem dX12_why_51 : decode cX12_why 51 = .ok (.ifCond .eq 7, 3) := by decide +kernel
theorem dX12_why_54 : decode cX12_why 54 = .ok (.iconst 1, 1) := by decide +kernel
theorem dX12_why_55 : decode cX12_why 55 = .ok (.goto 4, 3) := by decide +kernel
theorem dX12_why_58 : decode cX12_why 58 = .ok (.iconst 0, 1) := by decide +kernel
theorem dX12_why_59 : decode cX12_why 59 = .ok (.ireturn, 1) := by decide +kernel
theorem dX12_why_60 : decode cX12_why 60 = .ok (.aload_n 0, 1) := by decide +kernel
theorem dX12_why_61 : decode cX12_why 61 = .ok (.getfield 98, 3) := by decide +kernel
theorem dX12_why_64 : decode cX12_why 64 = .ok (.bipush 90, 2) := by decide +kernel
theorem dX12_why_66 : decode cX12_why 66 = .ok (.iaload, 1) := by decide +kernel
theorem dX12_why_67 : decode cX12_why 67 = .ok (.iload_n 2, 1) := by decide +kernel
theorem dX12_why_68 : decode cX12_why 68 = .ok (.invokestatic 240, 3) := by decide +kernel
theorem dX12_why_71 : decode cX12_why 71 = .ok (.ifCond .eq 7, 3) := by decide +kernel
theorem dX12_why_74 : decode cX12_why 74 = .ok (.iconst 0, 1) := by decide +kernel
theorem dX12_why_75 : decode cX12_why 75 = .ok (.goto 4, 3) := by decide +kernel
theorem dX12_why_78 : decode cX12_why 78 = .ok (.iconst 1, 1) := by decide +kernel
theorem dX12_why_79 : decode cX12_why 79 = .ok (.ireturn, 1) := by decide +kernel
theorem dX12_why_80 : decode cX12_why 80 = .ok (.aload_n 0, 1) := by decide +kernel
theorem dX12_why_81 : decode cX12_why 81 = .ok (.getfield 98, 3) := by decide +kernel
theorem dX12_why_84 : decode cX12_why 84 = .ok (.bipush 91, 2) := by decide +kernel
theorem dX12_why_86 : decode cX12_why 86 = .ok (.iaload, 1) := by decide +kernel
theorem dX12_why_87 : decode cX12_why 87 = .ok (.iload_n 2, 1) := by decide +kernel
theorem dX12_why_88 : decode cX12_why 88 = .ok (.invokestatic 240, 3) := by decide +kernel
theorem dX12_why_91 : decode cX12_why 91 = .ok (.ifCond .eq 7, 3) := by decide +kernel
theorem dX12_why_94 : decode cX12_why 94 = .ok (.iconst 1, 1) := by decide +kernel
theorem dX12_why_95 : decode cX12_why 95 = .ok (.goto 4, 3) := by decide +kernel
theorem dX12_why_98 : decode cX12_why 98 = .ok (.iconst 0, 1) := by decide +kernel
theorem dX12_why_99 : decode cX12_why 99 = .ok (.ireturn, 1) := by decide +kernel
theorem dX12_why_100 : decode cX12_why 100 = .ok (.aload_n 0, 1) := by decide +kernel
theorem dX12_why_101 : decode cX12_why 101 = .ok (.getfield 98, 3) := by decide +kernel
theorem dX12_why_104 : decode cX12_why 104 = .ok (.bipush 91, 2) := by decide +kernel
theorem dX12_why_106 : decode cX12_why 106 = .ok (.iaload, 1) := by decide +kernel
theorem dX12_why_107 : decode cX12_why 107 = .ok (.iload_n 2, 1) := by decide +kernel
theorem dX12_why_108 : decode cX12_why 108 = .ok (.invokestatic 240, 3) := by decide +kernel
theorem dX12_why_111 : decode cX12_why 111 = .ok (.ifCond .eq 7, 3) := by decide +kernel
theorem dX12_why_114 : decode cX12_why 114 = .ok (.iconst 0, 1) := by decide +kernel
theorem dX12_why_115 : decode cX12_why 115 = .ok (.goto 4, 3) := by decide +kernel
theorem dX12_why_118 : decode cX12_why 118 = .ok (.iconst 1, 1) := by decide +kernel
theorem dX12_why_119 : decode cX12_why 119 = .ok (.ireturn, 1) := by decide +kernel
theorem dX12_why_120 : decode cX12_why 120 = .ok (.aload_n 0, 1) := by decide +kernel
theorem dX12_why_121 : decode cX12_why 121 = .ok (.getfield 98, 3) := by decide +kernel
theorem dX12_why_124 : decode cX12_why 124 = .ok (.bipush 94, 2) := by decide +kernel
theorem dX12_why_126 : decode cX12_why 126 = .ok (.iload_n 2, 1) := by decide +kernel
theorem dX12_why_127 : decode cX12_why 127 = .ok (.iadd, 1) := by decide +kernel
theorem dX12_why_128 : decode cX12_why 128 = .ok (.iaload, 1) := by decide +kernel
theorem dX12_why_129 : decode cX12_why 129 = .ok (.ifCond .ne 7, 3) := by decide +kernel
theorem dX12_why_132 : decode cX12_why 132 = .ok (.iconst 1, 1) := by decide +kernel
theorem dX12_why_133 : decode cX12_why 133 = .ok (.goto 4, 3) := by decide +kernel
theorem dX12_why_136 : decode cX12_why 136 = .ok (.iconst 0, 1) := by decide +kernel
theorem dX12_why_137 : decode cX12_why 137 = .ok (.ireturn, 1) := by decide +kernel
set_option maxRecDepth 20000 in
theorem ggX12_why_X12_has : GoodIn wsX12_why wsX12_has := goodIn_r _ [5] rfl (by decide +kernel)
set_option maxRecDepth 20000 in
theorem gX12_why_X12_has : GoodIn wsX12_why (va_wsS RX12 240 yX12_has wsX12_has) := goodIn_app (goodIn_of _ (by decide +kernel)) ggX12_why_X12_has
set_option maxHeartbeats 4000000 in
set_option maxRecDepth 100000 in
theorem s_X12_whya (l : Launch) (D : va_G) (ca : Nat → ClassId) (sz : Nat) (h0 : Nat) (a1 : Int32) (a2 : Int32) (h0_thrown : Int32) (h0_tape : Nat) (h0_taped : Int32) (h0_size : Int32) (h0_limit : Int32) (h0_to : Int32) (h0_from : Int32) (h0_kind : Int32) (h0_number : Int32) (h0_sign : Int32) (h0_fault : Int32) (h0_place : Int32) (h0_word : Int64) (h0_told : Int32) (h0_now : Nat) (h0_read : Nat) (h0_kept : Nat) (h0_snaps : Nat) (h0_aside : Nat) (h0_name : Nat) (h0_readName : Nat) (h0_keptName : Nat) (h0_isKept : Nat) (h0_onces : Nat) (h0_snapMany : Int32) (h0_lowest : Int32) (h0_highest : Int32) (h0_agreed : Int32) (h0_jurors : Int32) (h0_panelled : Int32) (h0_inSets : Nat) (h0_surely : Int32) (h0_asked : Int32) (h0_frees : Nat) (h0_struck : Int32) (h0_beating : Int32) (h0_text : Nat) (h0_texts : Int32) (h0_seed : Int32) (h0_line : Nat) (h0_written : Nat) (h0_lineMany : Int32) (h0_hasWritten : Int32) (h0_node : Nat) (h0_nodes : Int32) (h0_onesMany : Int32) (h0_within : Int32) (h0_top : Int32) (F_h0_now : Nat → Int32) (i_a1 : rg 0 4 a1) (i_a2 : rg 0 9 a2) (i_h0_taped : rg 0 940 h0_taped) (i_h0_size : rg 0 940 h0_size) (i_h0_to : rg 0 940 h0_to) (i_h0_kind : rg 0 4 h0_kind) (i_h0_snapMany : rg 0 8 h0_snapMany) (i_h0_texts : rg 0 64 h0_texts) (i_h0_lineMany : rg 0 40 h0_lineMany) (i_h0_hasWritten : rg 0 1 h0_hasWritten) (i_h0_nodes : rg 0 60 h0_nodes) (i_h0_onesMany : rg 0 20 h0_onesMany) (s_h0_now_0 : sg 0 1 0 10 F_h0_now) (s_h0_now_1 : sg 1 2 0 4 F_h0_now) (s_h0_now_2 : sg 2 3 0 5 F_h0_now) (s_h0_now_3 : sg 35 36 0 1023 F_h0_now) (s_h0_now_4 : sg 44 49 0 3 F_h0_now) (s_h0_now_5 : sg 90 91 0 1023 F_h0_now) (s_h0_now_6 : sg 124 129 0 1023 F_h0_now) (s_h0_now_7 : sg 135 136 0 39 F_h0_now) : oMet l yX12_why wsX12_why ({ frames := 1, cells := 0, slots := 0, locals := 21 } : Room) [.ref h0, .int a1, .int a2] D ca sz [(h0, .inr (11, [.int h0_thrown, .ref h0_tape, .int h0_taped, .int h0_size, .int h0_limit, .int h0_to, .int h0_from, .int h0_kind, .int h0_number, .int h0_sign, .int h0_fault, .int h0_place, .long h0_word, .int h0_told, .ref h0_now, .ref h0_read, .ref h0_kept, .ref h0_snaps, .ref h0_aside, .ref h0_name, .ref h0_readName, .ref h0_keptName, .ref h0_isKept, .ref h0_onces, .int h0_snapMany, .int h0_lowest, .int h0_highest, .int h0_agreed, .int h0_jurors, .int h0_panelled, .ref h0_inSets, .int h0_surely, .int h0_asked, .ref h0_frees, .int h0_struck, .int h0_beating, .ref h0_text, .int h0_texts, .int h0_seed, .ref h0_line, .ref h0_written, .int h0_lineMany, .int h0_hasWritten, .ref h0_node, .int h0_nodes, .int h0_onesMany, .int h0_within, .int h0_top])), (aI ca h0_now 376 F_h0_now)] (oQi D (fun (r : Int32) (u : Unit) => (rg 0 1 r)) (fun (u : Unit) => [(h0, .inr (11, [.int h0_thrown, .ref h0_tape, .int h0_taped, .int h0_size, .int h0_limit, .int h0_to, .int h0_from, .int h0_kind, .int h0_number, .int h0_sign, .int h0_fault, .int h0_place, .long h0_word, .int h0_told, .ref h0_now, .ref h0_read, .ref h0_kept, .ref h0_snaps, .ref h0_aside, .ref h0_name, .ref h0_readName, .ref h0_keptName, .ref h0_isKept, .ref h0_onces, .int h0_snapMany, .int h0_lowest, .int h0_highest, .int h0_agreed, .int h0_jurors, .int h0_panelled, .ref h0_inSets, .int h0_surely, .int h0_asked, .ref h0_frees, .int h0_struck, .int h0_beating, .ref h0_text, .int h0_texts, .int h0_seed, .ref h0_line, .ref h0_written, .int h0_lineMany, .int h0_hasWritten, .ref h0_node, .int h0_nodes, .int h0_onesMany, .int h0_within, .int h0_top])), (aI ca h0_now 376 F_h0_now)])) 0 0 := by
  refine oM (cc := cX12_why) (maxL := 3) (ret := (some .int)) (by decide) rfl (Nat.le_of_ble_eq_true rfl) [(0, .ref h0), (1, .int a1), (2, .int a2)] rfl ?_
  intro p e s m below meth c A H locs ls hx hb hr hml hts hown hlocks hin hK hP hD hA hS hl
  have hown : s.vm.findClass RX12 = some m.cls := hown
  have k1 := hts (.fieldLink RX12 98 "LidCourtModel" "now" "[I") (by decide +kernel)
  have k2 : ∀ w ∈ wsX120, w ∈ wsX12_why := fun _ h => List.mem_cons_of_mem _ (List.mem_append_right _ h)
  refine lv_iload_n hx hb dX12_why_0 rfl (lv_at hl 1 rfl) ?_
  by_cases c_45 : a1 = 0
  · skip
    refine oti 0 c_45 ?_
    refine lv_tableIn (off := 39) (tgt := 40) hx hb dX12_why_1 (by decide) (by decide) (by decide) (by decide) ?_
    refine lv_aload_n hx hb dX12_why_40 rfl (lv_at hl 0 rfl) ?_
    refine va_get (D := D) (ci := 11) (v := .ref h0_now) (C := RX12) (T := TX12) (N := 48) hx hb hts k2 hown hK.1 hP 0 rfl rfl 14 (by decide) k1 (fun _ h9 => h9) rfl dX12_why_41 ?_
    refine lv_bipush (v := 90) hx hb dX12_why_44 (by decide) ?_
    refine va_iald hx hb hK.1 hP 1 0 rfl rfl (rg_in (⟨by decide, by decide⟩ : rg 90 90 (90 : Int32)) (by decide) (by decide)) dX12_why_46 ?_
    refine lv_topi (fun x_46 ex_46 => ?_)
    have h_47 : rg 0 1023 x_46 := by rw [ex_46]; exact sg_at s_h0_now_5 (⟨by decide, by decide⟩ : rg 90 90 (90 : Int32)) (by decide) (by decide) (by decide)
    refine lv_iload_n hx hb dX12_why_47 rfl (lv_at hl 2 rfl) ?_
    refine oC_i (Wc := []) (Wr := [(h0, .inr (11, [.int h0_thrown, .ref h0_tape, .int h0_taped, .int h0_size, .int h0_limit, .int h0_to, .int h0_from, .int h0_kind, .int h0_number, .int h0_sign, .int h0_fault, .int h0_place, .long h0_word, .int h0_told, .ref h0_now, .ref h0_read, .ref h0_kept, .ref h0_snaps, .ref h0_aside, .ref h0_name, .ref h0_readName, .ref h0_keptName, .ref h0_isKept, .ref h0_onces, .int h0_snapMany, .int h0_lowest, .int h0_highest, .int h0_agreed, .int h0_jurors, .int h0_panelled, .ref h0_inSets, .int h0_surely, .int h0_asked, .ref h0_frees, .int h0_struck, .int h0_beating, .ref h0_text, .int h0_texts, .int h0_seed, .ref h0_line, .ref h0_written, .int h0_lineMany, .int h0_hasWritten, .ref h0_node, .int h0_nodes, .int h0_onesMany, .int h0_within, .int h0_top])), (aI ca h0_now 376 F_h0_now)]) (va_runS (As := [.int x_46, .int a2]) (rest := []) ⟨hx, hb, hml, hown, hts⟩ (s_X12_has l D ca H.size x_46 a2) (va_cwS 2 hts gX12_why_X12_has rfl rfl rfl (by decide +kernel) ⟨Nat.le_of_ble_eq_true rfl, Nat.le_of_ble_eq_true rfl⟩) (oPS hK hP hD [] rfl (by decide)) rfl rfl hl.1 rfl (lv_room (Nat.le_of_ble_eq_true rfl)) dX12_why_48 ⟨Nat.le_of_ble_eq_true rfl, Nat.le_of_ble_eq_true rfl⟩) hP hD hS hA [] [0, 1] rfl rfl (by decide) (by decide) (fun r_48 u H locs w_49 hP hD hS => ?_)
    obtain ⟨⟩ := u
    have hP : va_P D vwCl [(h0, .inr (11, [.int h0_thrown, .ref h0_tape, .int h0_taped, .int h0_size, .int h0_limit, .int h0_to, .int h0_from, .int h0_kind, .int h0_number, .int h0_sign, .int h0_fault, .int h0_place, .long h0_word, .int h0_told, .ref h0_now, .ref h0_read, .ref h0_kept, .ref h0_snaps, .ref h0_aside, .ref h0_name, .ref h0_readName, .ref h0_keptName, .ref h0_isKept, .ref h0_onces, .int h0_snapMany, .int h0_lowest, .int h0_highest, .int h0_agreed, .int h0_jurors, .int h0_panelled, .ref h0_inSets, .int h0_surely, .int h0_asked, .ref h0_frees, .int h0_struck, .int h0_beating, .ref h0_text, .int h0_texts, .int h0_seed, .ref h0_line, .ref h0_written, .int h0_lineMany, .int h0_hasWritten, .ref h0_node, .int h0_nodes, .int h0_onesMany, .int h0_within, .int h0_top])), (aI ca h0_now 376 F_h0_now)] H := hP
    have hD : va_D A [(h0, .inr (11, [.int h0_thrown, .ref h0_tape, .int h0_taped, .int h0_size, .int h0_limit, .int h0_to, .int h0_from, .int h0_kind, .int h0_number, .int h0_sign, .int h0_fault, .int h0_place, .long h0_word, .int h0_told, .ref h0_now, .ref h0_read, .ref h0_kept, .ref h0_snaps, .ref h0_aside, .ref h0_name, .ref h0_readName, .ref h0_keptName, .ref h0_isKept, .ref h0_onces, .int h0_snapMany, .int h0_lowest, .int h0_highest, .int h0_agreed, .int h0_jurors, .int h0_panelled, .ref h0_inSets, .int h0_surely, .int h0_asked, .ref h0_frees, .int h0_struck, .int h0_beating, .ref h0_text, .int h0_texts, .int h0_seed, .ref h0_line, .ref h0_written, .int h0_lineMany, .int h0_hasWritten, .ref h0_node, .int h0_nodes, .int h0_onesMany, .int h0_within, .int h0_top])), (aI ca h0_now 376 F_h0_now)] := hD
    try dsimp only at w_49
    rcases w_49 with ⟨h_50, h_51⟩ | ⟨h_52, h_53⟩
    · skip
      subst h_50
      refine lv_if_eq (tgt := 58) hx hb dX12_why_51 (by decide) (fun _ => ?_) (fun c => absurd (by decide) c)
      refine lv_iconst (v := 0) hx hb dX12_why_58 (by decide) ?_
      exact oE_i hx hb hr rfl hlocks hP hD hS () [0, 1] rfl (by decide) (⟨by decide, by decide⟩ : rg 0 1 (0 : Int32)) (Nat.le_of_ble_eq_true rfl) (Nat.le_of_ble_eq_true rfl) dX12_why_59
    · skip
      subst h_52
      refine lv_if_eq (tgt := 58) hx hb dX12_why_51 (by decide) (fun c => absurd c (by decide)) (fun _ => ?_)
      refine lv_iconst (v := 1) hx hb dX12_why_54 (by decide) ?_
      refine lv_goto (tgt := 59) hx hb dX12_why_55 (by decide) ?_
      exact oE_i hx hb hr rfl hlocks hP hD hS () [0, 1] rfl (by decide) (⟨by decide, by decide⟩ : rg 0 1 (1 : Int32)) (Nat.le_of_ble_eq_true rfl) (Nat.le_of_ble_eq_true rfl) dX12_why_59
  by_cases c_54 : a1 = 1
  · skip
    refine oti 1 c_54 ?_
    refine lv_tableIn (off := 59) (tgt := 60) hx hb dX12_why_1 (by decide) (by decide) (by decide) (by decide) ?_
    refine lv_aload_n hx hb dX12_why_60 rfl (lv_at hl 0 rfl) ?_
    refine va_get (D := D) (ci := 11) (v := .ref h0_now) (C := RX12) (T := TX12) (N := 48) hx hb hts k2 hown hK.1 hP 0 rfl rfl 14 (by decide) k1 (fun _ h9 => h9) rfl dX12_why_61 ?_
    refine lv_bipush (v := 90) hx hb dX12_why_64 (by decide) ?_
    refine va_iald hx hb hK.1 hP 1 0 rfl rfl (rg_in (⟨by decide, by decide⟩ : rg 90 90 (90 : Int32)) (by decide) (by decide)) dX12_why_66 ?_
    refine lv_topi (fun x_55 ex_55 => ?_)
    have h_56 : rg 0 1023 x_55 := by rw [ex_55]; exact sg_at s_h0_now_5 (⟨by decide, by decide⟩ : rg 90 90 (90 : Int32)) (by decide) (by decide) (by decide)
    refine lv_iload_n hx hb dX12_why_67 rfl (lv_at hl 2 rfl) ?_
    refine oC_i (Wc := []) (Wr := [(h0, .inr (11, [.int h0_thrown, .ref h0_tape, .int h0_taped, .int h0_size, .int h0_limit, .int h0_to, .int h0_from, .int h0_kind, .int h0_number, .int h0_sign, .int h0_fault, .int h0_place, .long h0_word, .int h0_told, .ref h0_now, .ref h0_read, .ref h0_kept, .ref h0_snaps, .ref h0_aside, .ref h0_name, .ref h0_readName, .ref h0_keptName, .ref h0_isKept, .ref h0_onces, .int h0_snapMany, .int h0_lowest, .int h0_highest, .int h0_agreed, .int h0_jurors, .int h0_panelled, .ref h0_inSets, .int h0_surely, .int h0_asked, .ref h0_frees, .int h0_struck, .int h0_beating, .ref h0_text, .int h0_texts, .int h0_seed, .ref h0_line, .ref h0_written, .int h0_lineMany, .int h0_hasWritten, .ref h0_node, .int h0_nodes, .int h0_onesMany, .int h0_within, .int h0_top])), (aI ca h0_now 376 F_h0_now)]) (va_runS (As := [.int x_55, .int a2]) (rest := []) ⟨hx, hb, hml, hown, hts⟩ (s_X12_has l D ca H.size x_55 a2) (va_cwS 2 hts gX12_why_X12_has rfl rfl rfl (by decide +kernel) ⟨Nat.le_of_ble_eq_true rfl, Nat.le_of_ble_eq_true rfl⟩) (oPS hK hP hD [] rfl (by decide)) rfl rfl hl.1 rfl (lv_room (Nat.le_of_ble_eq_true rfl)) dX12_why_68 ⟨Nat.le_of_ble_eq_true rfl, Nat.le_of_ble_eq_true rfl⟩) hP hD hS hA [] [0, 1] rfl rfl (by decide) (by decide) (fun r_57 u H locs w_58 hP hD hS => ?_)
    obtain ⟨⟩ := u
    have hP : va_P D vwCl [(h0, .inr (11, [.int h0_thrown, .ref h0_tape, .int h0_taped, .int h0_size, .int h0_limit, .int h0_to, .int h0_from, .int h0_kind, .int h0_number, .int h0_sign, .int h0_fault, .int h0_place, .long h0_word, .int h0_told, .ref h0_now, .ref h0_read, .ref h0_kept, .ref h0_snaps, .ref h0_aside, .ref h0_name, .ref h0_readName, .ref h0_keptName, .ref h0_isKept, .ref h0_onces, .int h0_snapMany, .int h0_lowest, .int h0_highest, .int h0_agreed, .int h0_jurors, .int h0_panelled, .ref h0_inSets, .int h0_surely, .int h0_asked, .ref h0_frees, .int h0_struck, .int h0_beating, .ref h0_text, .int h0_texts, .int h0_seed, .ref h0_line, .ref h0_written, .int h0_lineMany, .int h0_hasWritten, .ref h0_node, .int h0_nodes, .int h0_onesMany, .int h0_within, .int h0_top])), (aI ca h0_now 376 F_h0_now)] H := hP
    have hD : va_D A [(h0, .inr (11, [.int h0_thrown, .ref h0_tape, .int h0_taped, .int h0_size, .int h0_limit, .int h0_to, .int h0_from, .int h0_kind, .int h0_number, .int h0_sign, .int h0_fault, .int h0_place, .long h0_word, .int h0_told, .ref h0_now, .ref h0_read, .ref h0_kept, .ref h0_snaps, .ref h0_aside, .ref h0_name, .ref h0_readName, .ref h0_keptName, .ref h0_isKept, .ref h0_onces, .int h0_snapMany, .int h0_lowest, .int h0_highest, .int h0_agreed, .int h0_jurors, .int h0_panelled, .ref h0_inSets, .int h0_surely, .int h0_asked, .ref h0_frees, .int h0_struck, .int h0_beating, .ref h0_text, .int h0_texts, .int h0_seed, .ref h0_line, .ref h0_written, .int h0_lineMany, .int h0_hasWritten, .ref h0_node, .int h0_nodes, .int h0_onesMany, .int h0_within, .int h0_top])), (aI ca h0_now 376 F_h0_now)] := hD
    try dsimp only at w_58
    rcases w_58 with ⟨h_59, h_60⟩ | ⟨h_61, h_62⟩
    · skip
      subst h_59
      refine lv_if_eq (tgt := 78) hx hb dX12_why_71 (by decide) (fun _ => ?_) (fun c => absurd (by decide) c)
      refine lv_iconst (v := 1) hx hb dX12_why_78 (by decide) ?_
      exact oE_i hx hb hr rfl hlocks hP hD hS () [0, 1] rfl (by decide) (⟨by decide, by decide⟩ : rg 0 1 (1 : Int32)) (Nat.le_of_ble_eq_true rfl) (Nat.le_of_ble_eq_true rfl) dX12_why_79
    · skip
      subst h_61
      refine lv_if_eq (tgt := 78) hx hb dX12_why_71 (by decide) (fun c => absurd c (by decide)) (fun _ => ?_)
      refine lv_iconst (v := 0) hx hb dX12_why_74 (by decide) ?_
      refine lv_goto (tgt := 79) hx hb dX12_why_75 (by decide) ?_
      exact oE_i hx hb hr rfl hlocks hP hD hS () [0, 1] rfl (by decide) (⟨by decide, by decide⟩ : rg 0 1 (0 : Int32)) (Nat.le_of_ble_eq_true rfl) (Nat.le_of_ble_eq_true rfl) dX12_why_79
  by_cases c_63 : a1 = 2
  · skip
    refine oti 2 c_63 ?_
    refine lv_tableIn (off := 79) (tgt := 80) hx hb dX12_why_1 (by decide) (by decide) (by decide) (by decide) ?_
    refine lv_aload_n hx hb dX12_why_80 rfl (lv_at hl 0 rfl) ?_
    refine va_get (D := D) (ci := 11) (v := .ref h0_now) (C := RX12) (T := TX12) (N := 48) hx hb hts k2 hown hK.1 hP 0 rfl rfl 14 (by decide) k1 (fun _ h9 => h9) rfl dX12_why_81 ?_
    refine lv_bipush (v := 91) hx hb dX12_why_84 (by decide) ?_
    refine va_iald hx hb hK.1 hP 1 0 rfl rfl (rg_in (⟨by decide, by decide⟩ : rg 91 91 (91 : Int32)) (by decide) (by decide)) dX12_why_86 ?_
    refine lv_topi (fun x_64 ex_64 => ?_)
    refine lv_iload_n hx hb dX12_why_87 rfl (lv_at hl 2 rfl) ?_
    refine oC_i (Wc := []) (Wr := [(h0, .inr (11, [.int h0_thrown, .ref h0_tape, .int h0_taped, .int h0_size, .int h0_limit, .int h0_to, .int h0_from, .int h0_kind, .int h0_number, .int h0_sign, .int h0_fault, .int h0_place, .long h0_word, .int h0_told, .ref h0_now, .ref h0_read, .ref h0_kept, .ref h0_snaps, .ref h0_aside, .ref h0_name, .ref h0_readName, .ref h0_keptName, .ref h0_isKept, .ref h0_onces, .int h0_snapMany, .int h0_lowest, .int h0_highest, .int h0_agreed, .int h0_jurors, .int h0_panelled, .ref h0_inSets, .int h0_surely, .int h0_asked, .ref h0_frees, .int h0_struck, .int h0_beating, .ref h0_text, .int h0_texts, .int h0_seed, .ref h0_line, .ref h0_written, .int h0_lineMany, .int h0_hasWritten, .ref h0_node, .int h0_nodes, .int h0_onesMany, .int h0_within, .int h0_top])), (aI ca h0_now 376 F_h0_now)]) (va_runS (As := [.int x_64, .int a2]) (rest := []) ⟨hx, hb, hml, hown, hts⟩ (s_X12_has l D ca H.size x_64 a2) (va_cwS 2 hts gX12_why_X12_has rfl rfl rfl (by decide +kernel) ⟨Nat.le_of_ble_eq_true rfl, Nat.le_of_ble_eq_true rfl⟩) (oPS hK hP hD [] rfl (by decide)) rfl rfl hl.1 rfl (lv_room (Nat.le_of_ble_eq_true rfl)) dX12_why_88 ⟨Nat.le_of_ble_eq_true rfl, Nat.le_of_ble_eq_true rfl⟩) hP hD hS hA [] [0, 1] rfl rfl (by decide) (by decide) (fun r_65 u H locs w_66 hP hD hS => ?_)
    obtain ⟨⟩ := u
    have hP : va_P D vwCl [(h0, .inr (11, [.int h0_thrown, .ref h0_tape, .int h0_taped, .int h0_size, .int h0_limit, .int h0_to, .int h0_from, .int h0_kind, .int h0_number, .int h0_sign, .int h0_fault, .int h0_place, .long h0_word, .int h0_told, .ref h0_now, .ref h0_read, .ref h0_kept, .ref h0_snaps, .ref h0_aside, .ref h0_name, .ref h0_readName, .ref h0_keptName, .ref h0_isKept, .ref h0_onces, .int h0_snapMany, .int h0_lowest, .int h0_highest, .int h0_agreed, .int h0_jurors, .int h0_panelled, .ref h0_inSets, .int h0_surely, .int h0_asked, .ref h0_frees, .int h0_struck, .int h0_beating, .ref h0_text, .int h0_texts, .int h0_seed, .ref h0_line, .ref h0_written, .int h0_lineMany, .int h0_hasWritten, .ref h0_node, .int h0_nodes, .int h0_onesMany, .int h0_within, .int h0_top])), (aI ca h0_now 376 F_h0_now)] H := hP
    have hD : va_D A [(h0, .inr (11, [.int h0_thrown, .ref h0_tape, .int h0_taped, .int h0_size, .int h0_limit, .int h0_to, .int h0_from, .int h0_kind, .int h0_number, .int h0_sign, .int h0_fault, .int h0_place, .long h0_word, .int h0_told, .ref h0_now, .ref h0_read, .ref h0_kept, .ref h0_snaps, .ref h0_aside, .ref h0_name, .ref h0_readName, .ref h0_keptName, .ref h0_isKept, .ref h0_onces, .int h0_snapMany, .int h0_lowest, .int h0_highest, .int h0_agreed, .int h0_jurors, .int h0_panelled, .ref h0_inSets, .int h0_surely, .int h0_asked, .ref h0_frees, .int h0_struck, .int h0_beating, .ref h0_text, .int h0_texts, .int h0_seed, .ref h0_line, .ref h0_written, .int h0_lineMany, .int h0_hasWritten, .ref h0_node, .int h0_nodes, .int h0_onesMany, .int h0_within, .int h0_top])), (aI ca h0_now 376 F_h0_now)] := hD
    try dsimp only at w_66
    rcases w_66 with ⟨h_67, h_68⟩ | ⟨h_69, h_70⟩
    · skip
      subst h_67
      refine lv_if_eq (tgt := 98) hx hb dX12_why_91 (by decide) (fun _ => ?_) (fun c => absurd (by decide) c)
      refine lv_iconst (v := 0) hx hb dX12_why_98 (by decide) ?_
      exact oE_i hx hb hr rfl hlocks hP hD hS () [0, 1] rfl (by decide) (⟨by decide, by decide⟩ : rg 0 1 (0 : Int32)) (Nat.le_of_ble_eq_true rfl) (Nat.le_of_ble_eq_true rfl) dX12_why_99
    · skip
      subst h_69
      refine lv_if_eq (tgt := 98) hx hb dX12_why_91 (by decide) (fun c => absurd c (by decide)) (fun _ => ?_)
      refine lv_iconst (v := 1) hx hb dX12_why_94 (by decide) ?_
      refine lv_goto (tgt := 99) hx hb dX12_why_95 (by decide) ?_
      exact oE_i hx hb hr rfl hlocks hP hD hS () [0, 1] rfl (by decide) (⟨by decide, by decide⟩ : rg 0 1 (1 : Int32)) (Nat.le_of_ble_eq_true rfl) (Nat.le_of_ble_eq_true rfl) dX12_why_99
  by_cases c_71 : a1 = 3
  · skip
    refine oti 3 c_71 ?_
    refine lv_tableIn (off := 99) (tgt := 100) hx hb dX12_why_1 (by decide) (by decide) (by decide) (by decide) ?_
    refine lv_aload_n hx hb dX12_why_100 rfl (lv_at hl 0 rfl) ?_
    refine va_get (D := D) (ci := 11) (v := .ref h0_now) (C := RX12) (T := TX12) (N := 48) hx hb hts k2 hown hK.1 hP 0 rfl rfl 14 (by decide) k1 (fun _ h9 => h9) rfl dX12_why_101 ?_
    refine lv_bipush (v := 91) hx hb dX12_why_104 (by decide) ?_
    refine va_iald hx hb hK.1 hP 1 0 rfl rfl (rg_in (⟨by decide, by decide⟩ : rg 91 91 (91 : Int32)) (by decide) (by decide)) dX12_why_106 ?_
    refine lv_topi (fun x_72 ex_72 => ?_)
    refine lv_iload_n hx hb dX12_why_107 rfl (lv_at hl 2 rfl) ?_
    refine oC_i (Wc := []) (Wr := [(h0, .inr (11, [.int h0_thrown, .ref h0_tape, .int h0_taped, .int h0_size, .int h0_limit, .int h0_to, .int h0_from, .int h0_kind, .int h0_number, .int h0_sign, .int h0_fault, .int h0_place, .long h0_word, .int h0_told, .ref h0_now, .ref h0_read, .ref h0_kept, .ref h0_snaps, .ref h0_aside, .ref h0_name, .ref h0_readName, .ref h0_keptName, .ref h0_isKept, .ref h0_onces, .int h0_snapMany, .int h0_lowest, .int h0_highest, .int h0_agreed, .int h0_jurors, .int h0_panelled, .ref h0_inSets, .int h0_surely, .int h0_asked, .ref h0_frees, .int h0_struck, .int h0_beating, .ref h0_text, .int h0_texts, .int h0_seed, .ref h0_line, .ref h0_written, .int h0_lineMany, .int h0_hasWritten, .ref h0_node, .int h0_nodes, .int h0_onesMany, .int h0_within, .int h0_top])), (aI ca h0_now 376 F_h0_now)]) (va_runS (As := [.int x_72, .int a2]) (rest := []) ⟨hx, hb, hml, hown, hts⟩ (s_X12_has l D ca H.size x_72 a2) (va_cwS 2 hts gX12_why_X12_has rfl rfl rfl (by decide +kernel) ⟨Nat.le_of_ble_eq_true rfl, Nat.le_of_ble_eq_true rfl⟩) (oPS hK hP hD [] rfl (by decide)) rfl rfl hl.1 rfl (lv_room (Nat.le_of_ble_eq_true rfl)) dX12_why_108 ⟨Nat.le_of_ble_eq_true rfl, Nat.le_of_ble_eq_true rfl⟩) hP hD hS hA [] [0, 1] rfl rfl (by decide) (by decide) (fun r_73 u H locs w_74 hP hD hS => ?_)
    obtain ⟨⟩ := u
    have hP : va_P D vwCl [(h0, .inr (11, [.int h0_thrown, .ref h0_tape, .int h0_taped, .int h0_size, .int h0_limit, .int h0_to, .int h0_from, .int h0_kind, .int h0_number, .int h0_sign, .int h0_fault, .int h0_place, .long h0_word, .int h0_told, .ref h0_now, .ref h0_read, .ref h0_kept, .ref h0_snaps, .ref h0_aside, .ref h0_name, .ref h0_readName, .ref h0_keptName, .ref h0_isKept, .ref h0_onces, .int h0_snapMany, .int h0_lowest, .int h0_highest, .int h0_agreed, .int h0_jurors, .int h0_panelled, .ref h0_inSets, .int h0_surely, .int h0_asked, .ref h0_frees, .int h0_struck, .int h0_beating, .ref h0_text, .int h0_texts, .int h0_seed, .ref h0_line, .ref h0_written, .int h0_lineMany, .int h0_hasWritten, .ref h0_node, .int h0_nodes, .int h0_onesMany, .int h0_within, .int h0_top])), (aI ca h0_now 376 F_h0_now)] H := hP
    have hD : va_D A [(h0, .inr (11, [.int h0_thrown, .ref h0_tape, .int h0_taped, .int h0_size, .int h0_limit, .int h0_to, .int h0_from, .int h0_kind, .int h0_number, .int h0_sign, .int h0_fault, .int h0_place, .long h0_word, .int h0_told, .ref h0_now, .ref h0_read, .ref h0_kept, .ref h0_snaps, .ref h0_aside, .ref h0_name, .ref h0_readName, .ref h0_keptName, .ref h0_isKept, .ref h0_onces, .int h0_snapMany, .int h0_lowest, .int h0_highest, .int h0_agreed, .int h0_jurors, .int h0_panelled, .ref h0_inSets, .int h0_surely, .int h0_asked, .ref h0_frees, .int h0_struck, .int h0_beating, .ref h0_text, .int h0_texts, .int h0_seed, .ref h0_line, .ref h0_written, .int h0_lineMany, .int h0_hasWritten, .ref h0_node, .int h0_nodes, .int h0_onesMany, .int h0_within, .int h0_top])), (aI ca h0_now 376 F_h0_now)] := hD
    try dsimp only at w_74
    rcases w_74 with ⟨h_75, h_76⟩ | ⟨h_77, h_78⟩
    · skip
      subst h_75
      refine lv_if_eq (tgt := 118) hx hb dX12_why_111 (by decide) (fun _ => ?_) (fun c => absurd (by decide) c)
      refine lv_iconst (v := 1) hx hb dX12_why_118 (by decide) ?_
      exact oE_i hx hb hr rfl hlocks hP hD hS () [0, 1] rfl (by decide) (⟨by decide, by decide⟩ : rg 0 1 (1 : Int32)) (Nat.le_of_ble_eq_true rfl) (Nat.le_of_ble_eq_true rfl) dX12_why_119
    · skip
      subst h_77
      refine lv_if_eq (tgt := 118) hx hb dX12_why_111 (by decide) (fun c => absurd c (by decide)) (fun _ => ?_)
      refine lv_iconst (v := 0) hx hb dX12_why_114 (by decide) ?_
      refine lv_goto (tgt := 119) hx hb dX12_why_115 (by decide) ?_
      exact oE_i hx hb hr rfl hlocks hP hD hS () [0, 1] rfl (by decide) (⟨by decide, by decide⟩ : rg 0 1 (0 : Int32)) (Nat.le_of_ble_eq_true rfl) (Nat.le_of_ble_eq_true rfl) dX12_why_119
  by_cases c_79 : a1 = 4
  · skip
    refine oti 4 c_79 ?_
    refine lv_tableIn (off := 119) (tgt := 120) hx hb dX12_why_1 (by decide) (by decide) (by decide) (by decide) ?_
    refine lv_aload_n hx hb dX12_why_120 rfl (lv_at hl 0 rfl) ?_
    refine va_get (D := D) (ci := 11) (v := .ref h0_now) (C := RX12) (T := TX12) (N := 48) hx hb hts k2 hown hK.1 hP 0 rfl rfl 14 (by decide) k1 (fun _ h9 => h9) rfl dX12_why_121 ?_
    refine lv_bipush (v := 94) hx hb dX12_why_124 (by decide) ?_
    refine lv_iload_n hx hb dX12_why_126 rfl (lv_at hl 2 rfl) ?_
    refine lv_iadd hx hb dX12_why_127 ?_
    refine lv_topi (fun x_80 ex_80 => ?_)
    have h_81 : rg 94 103 x_80 := by rw [ex_80]; exact rg_add (⟨by decide, by decide⟩ : rg 94 94 (94 : Int32)) i_a2 (by decide) (by decide) (by decide) (by decide)
    have l_82 : lq x_80.toInt (a2.toInt + 94) := lqm (by rw [ex_80]; have q := tadd (⟨by decide, by decide⟩ : rg 94 94 (94 : Int32)) i_a2 (by decide) (by decide); have r0 := lqe (lqm (by decide) : lq (94 : Int32).toInt 94); omega)
    refine va_iald hx hb hK.1 hP 1 0 rfl rfl (rg_in h_81 (by decide) (by decide)) dX12_why_128 ?_
    refine lv_topi (fun x_83 ex_83 => ?_)
    refine lv_if_ne (tgt := 136) hx hb dX12_why_129 (by decide) (fun c_84 => ?_) (fun c_84 => ?_)
    · skip
      refine lv_iconst (v := 0) hx hb dX12_why_136 (by decide) ?_
      exact oE_i hx hb hr rfl hlocks hP hD hS () [0, 1] rfl (by decide) (⟨by decide, by decide⟩ : rg 0 1 (0 : Int32)) (Nat.le_of_ble_eq_true rfl) (Nat.le_of_ble_eq_true rfl) dX12_why_137
    · skip
      have o_85 : rl 0 x_83 0 := rl_eq c_84
      have h_86 : rg (-2147483648) 0 x_83 := rl_x o_85 (rga x_83) (⟨by decide, by decide⟩ : rg 0 0 (0 : Int32)) (by decide) (by decide)
      have o_87 : rl 0 0 x_83 := rl_eq c_84.symm
      have h_88 : rg 0 0 x_83 := rl_y o_87 (⟨by decide, by decide⟩ : rg 0 0 (0 : Int32)) h_86 (by decide) (by decide)
      refine lv_iconst (v := 1) hx hb dX12_why_132 (by decide) ?_
      refine lv_goto (tgt := 137) hx hb dX12_why_133 (by decide) ?_
      exact oE_i hx hb hr rfl hlocks hP hD hS () [0, 1] rfl (by decide) (⟨by decide, by decide⟩ : rg 0 1 (1 : Int32)) (Nat.le_of_ble_eq_true rfl) (Nat.le_of_ble_eq_true rfl) dX12_why_137
  exact absurd trivial (by have t0 := lv_neT c_45 (show (0 : Int32).toInt = 0 by decide); have t1 := lv_neT c_54 (show (1 : Int32).toInt = 1 by decide); have t2 := lv_neT c_63 (show (2 : Int32).toInt = 2 by decide); have t3 := lv_neT c_71 (show (3 : Int32).toInt = 3 by decide); have t4 := lv_neT c_79 (show (4 : Int32).toInt = 4 by decide); have q8 := (i_a1).1; have q9 := (i_a1).2; omega)
theorem dX12_why_138 : decode cX12_why 138 = .ok (.aload_n 0, 1) := by decide +kernel
theorem dX12_why_139 : decode cX12_why 139 = .ok (.getfield 98, 3) := by decide +kernel
theorem dX12_why_142 : decode cX12_why 142 = .ok (.bipush 114, 2) := by decide +kernel
theorem dX12_why_144 : decode cX12_why 144 = .ok (.iload_n 2, 1) := by decide +kernel
theorem dX12_why_145 : decode cX12_why 145 = .ok (.iadd, 1) := by decide +kernel
theorem dX12_why_146 : decode cX12_why 146 = .ok (.iaload, 1) := by decide +kernel
theorem dX12_why_147 : decode cX12_why 147 = .ok (.ifCond .eq 7, 3) := by decide +kernel
theorem dX12_why_150 : decode cX12_why 150 = .ok (.iconst 1, 1) := by decide +kernel
theorem dX12_why_151 : decode cX12_why 151 = .ok (.goto 30, 3) := by decide +kernel
theorem dX12_why_154 : decode cX12_why 154 = .ok (.aload_n 0, 1) := by decide +kernel
theorem dX12_why_155 : decode cX12_why 155 = .ok (.getfield 98, 3) := by decide +kernel
theorem dX12_why_158 : decode cX12_why 158 = .ok (.bipush 93, 2) := by decide +kernel
theorem dX12_why_160 : decode cX12_why 160 = .ok (.iaload, 1) := by decide +kernel
theorem dX12_why_161 : decode cX12_why 161 = .ok (.iconst 1, 1) := by decide +kernel
theorem dX12_why_162 : decode cX12_why 162 = .ok (.if_icmp .ne 7, 3) := by decide +kernel
theorem dX12_why_165 : decode cX12_why 165 = .ok (.iconst 2, 1) := by decide +kernel
theorem dX12_why_166 : decode cX12_why 166 = .ok (.goto 15, 3) := by decide +kernel
theorem dX12_why_169 : decode cX12_why 169 = .ok (.aload_n 0, 1) := by decide +kernel
theorem dX12_why_170 : decode cX12_why 170 = .ok (.invokevirtual 274, 3) := by decide +kernel
theorem dX12_why_173 : decode cX12_why 173 = .ok (.ifCond .ne 7, 3) := by decide +kernel
theorem dX12_why_176 : decode cX12_why 176 = .ok (.iconst 3, 1) := by decide +kernel
theorem dX12_why_177 : decode cX12_why 177 = .ok (.goto 4, 3) := by decide +kernel
theorem dX12_why_180 : decode cX12_why 180 = .ok (.iconst 0, 1) := by decide +kernel
theorem dX12_why_181 : decode cX12_why 181 = .ok (.ireturn, 1) := by decide +kernel
theorem dX12_why_182 : decode cX12_why 182 = .ok (.aload_n 0, 1) := by decide +kernel
theorem dX12_why_183 : decode cX12_why 183 = .ok (.getfield 98, 3) := by decide +kernel
theorem dX12_why_186 : decode cX12_why 186 = .ok (.bipush 114, 2) := by decide +kernel
theorem dX12_why_188 : decode cX12_why 188 = .ok (.iload_n 2, 1) := by decide +kernel
theorem dX12_why_189 : decode cX12_why 189 = .ok (.iadd, 1) := by decide +kernel
theorem dX12_why_190 : decode cX12_why 190 = .ok (.iaload, 1) := by decide +kernel
theorem dX12_why_191 : decode cX12_why 191 = .ok (.ifCond .ne 7, 3) := by decide +kernel
theorem dX12_why_194 : decode cX12_why 194 = .ok (.iconst 1, 1) := by decide +kernel
theorem dX12_why_195 : decode cX12_why 195 = .ok (.goto 21, 3) := by decide +kernel
theorem dX12_why_198 : decode cX12_why 198 = .ok (.aload_n 0, 1) := by decide +kernel
theorem dX12_why_199 : decode cX12_why 199 = .ok (.getfield 98, 3) := by decide +kernel
theorem dX12_why_202 : decode cX12_why 202 = .ok (.sipush 129, 3) := by decide +kernel
theorem dX12_why_205 : decode cX12_why 205 = .ok (.iload_n 2, 1) := by decide +kernel
theorem dX12_why_206 : decode cX12_why 206 = .ok (.iadd, 1) := by decide +kernel
theorem dX12_why_207 : decode cX12_why 207 = .ok (.iaload, 1) := by decide +kernel
theorem dX12_why_208 : decode cX12_why 208 = .ok (.ifCond .ne 7, 3) := by decide +kernel
theorem dX12_why_211 : decode cX12_why 211 = .ok (.iconst 2, 1) := by decide +kernel
theorem dX12_why_212 : decode cX12_why 212 = .ok (.goto 4, 3) := by decide +kernel
theorem dX12_why_215 : decode cX12_why 215 = .ok (.iconst 0, 1) := by decide +kernel
theorem dX12_why_216 : decode cX12_why 216 = .ok (.ireturn, 1) := by decide +kernel
set_option maxRecDepth 20000 in
theorem ggX12_why_X12_droppers : GoodIn wsX12_why wsX12_droppers := goodIn_r _ [9, 1, 10, 11, 12, 13, 14, 15, 16, 17, 18, 19, 20, 21, 22, 23, 24, 25, 26, 27, 28, 29, 30, 31, 32, 33, 34, 35, 36, 37, 38, 39, 40, 41, 42, 43, 44, 45, 46, 47, 48, 49, 50, 51, 52, 53, 54, 55, 56, 57] rfl (by decide +kernel)
set_option maxRecDepth 20000 in
theorem gX12_why_X12_droppers : GoodIn wsX12_why (wsV RX12 274 RX12 yX12_droppers wsX12_droppers) := goodIn_app (goodIn_of _ (by decide +kernel)) ggX12_why_X12_droppers
set_option maxHeartbeats 4000000 in
set_option maxRecDepth 100000 in
theorem s_X12_whyb (l : Launch) (D : va_G) (ca : Nat → ClassId) (sz : Nat) (h0 : Nat) (a1 : Int32) (a2 : Int32) (h0_thrown : Int32) (h0_tape : Nat) (h0_taped : Int32) (h0_size : Int32) (h0_limit : Int32) (h0_to : Int32) (h0_from : Int32) (h0_kind : Int32) (h0_number : Int32) (h0_sign : Int32) (h0_fault : Int32) (h0_place : Int32) (h0_word : Int64) (h0_told : Int32) (h0_now : Nat) (h0_read : Nat) (h0_kept : Nat) (h0_snaps : Nat) (h0_aside : Nat) (h0_name : Nat) (h0_readName : Nat) (h0_keptName : Nat) (h0_isKept : Nat) (h0_onces : Nat) (h0_snapMany : Int32) (h0_lowest : Int32) (h0_highest : Int32) (h0_agreed : Int32) (h0_jurors : Int32) (h0_panelled : Int32) (h0_inSets : Nat) (h0_surely : Int32) (h0_asked : Int32) (h0_frees : Nat) (h0_struck : Int32) (h0_beating : Int32) (h0_text : Nat) (h0_texts : Int32) (h0_seed : Int32) (h0_line : Nat) (h0_written : Nat) (h0_lineMany : Int32) (h0_hasWritten : Int32) (h0_node : Nat) (h0_nodes : Int32) (h0_onesMany : Int32) (h0_within : Int32) (h0_top : Int32) (F_h0_now : Nat → Int32) (i_a1 : rg 5 6 a1) (i_a2 : rg 0 4 a2) (i_h0_taped : rg 0 940 h0_taped) (i_h0_size : rg 0 940 h0_size) (i_h0_to : rg 0 940 h0_to) (i_h0_kind : rg 0 4 h0_kind) (i_h0_snapMany : rg 0 8 h0_snapMany) (i_h0_texts : rg 0 64 h0_texts) (i_h0_lineMany : rg 0 40 h0_lineMany) (i_h0_hasWritten : rg 0 1 h0_hasWritten) (i_h0_nodes : rg 0 60 h0_nodes) (i_h0_onesMany : rg 0 20 h0_onesMany) (s_h0_now_0 : sg 0 1 0 10 F_h0_now) (s_h0_now_1 : sg 1 2 0 4 F_h0_now) (s_h0_now_2 : sg 2 3 0 5 F_h0_now) (s_h0_now_3 : sg 35 36 0 1023 F_h0_now) (s_h0_now_4 : sg 44 49 0 3 F_h0_now) (s_h0_now_5 : sg 90 91 0 1023 F_h0_now) (s_h0_now_6 : sg 124 129 0 1023 F_h0_now) (s_h0_now_7 : sg 135 136 0 39 F_h0_now) : oMet l yX12_why wsX12_why ({ frames := 1, cells := 0, slots := 0, locals := 20 } : Room) [.ref h0, .int a1, .int a2] D ca sz [(h0, .inr (11, [.int h0_thrown, .ref h0_tape, .int h0_taped, .int h0_size, .int h0_limit, .int h0_to, .int h0_from, .int h0_kind, .int h0_number, .int h0_sign, .int h0_fault, .int h0_place, .long h0_word, .int h0_told, .ref h0_now, .ref h0_read, .ref h0_kept, .ref h0_snaps, .ref h0_aside, .ref h0_name, .ref h0_readName, .ref h0_keptName, .ref h0_isKept, .ref h0_onces, .int h0_snapMany, .int h0_lowest, .int h0_highest, .int h0_agreed, .int h0_jurors, .int h0_panelled, .ref h0_inSets, .int h0_surely, .int h0_asked, .ref h0_frees, .int h0_struck, .int h0_beating, .ref h0_text, .int h0_texts, .int h0_seed, .ref h0_line, .ref h0_written, .int h0_lineMany, .int h0_hasWritten, .ref h0_node, .int h0_nodes, .int h0_onesMany, .int h0_within, .int h0_top])), (aI ca h0_now 376 F_h0_now)] (oQi D (fun (r : Int32) (u : Unit) => (rg 0 3 r)) (fun (u : Unit) => [(h0, .inr (11, [.int h0_thrown, .ref h0_tape, .int h0_taped, .int h0_size, .int h0_limit, .int h0_to, .int h0_from, .int h0_kind, .int h0_number, .int h0_sign, .int h0_fault, .int h0_place, .long h0_word, .int h0_told, .ref h0_now, .ref h0_read, .ref h0_kept, .ref h0_snaps, .ref h0_aside, .ref h0_name, .ref h0_readName, .ref h0_keptName, .ref h0_isKept, .ref h0_onces, .int h0_snapMany, .int h0_lowest, .int h0_highest, .int h0_agreed, .int h0_jurors, .int h0_panelled, .ref h0_inSets, .int h0_surely, .int h0_asked, .ref h0_frees, .int h0_struck, .int h0_beating, .ref h0_text, .int h0_texts, .int h0_seed, .ref h0_line, .ref h0_written, .int h0_lineMany, .int h0_hasWritten, .ref h0_node, .int h0_nodes, .int h0_onesMany, .int h0_within, .int h0_top])), (aI ca h0_now 376 F_h0_now)])) 0 0 := by
  refine oM (cc := cX12_why) (maxL := 3) (ret := (some .int)) (by decide) rfl (Nat.le_of_ble_eq_true rfl) [(0, .ref h0), (1, .int a1), (2, .int a2)] rfl ?_
  intro p e s m below meth c A H locs ls hx hb hr hml hts hown hlocks hin hK hP hD hA hS hl
  have hown : s.vm.findClass RX12 = some m.cls := hown
  have k1 := hts (.fieldLink RX12 98 "LidCourtModel" "now" "[I") (by decide +kernel)
  have k2 : ∀ w ∈ wsX120, w ∈ wsX12_why := fun _ h => List.mem_cons_of_mem _ (List.mem_append_right _ h)
  refine lv_iload_n hx hb dX12_why_0 rfl (lv_at hl 1 rfl) ?_
  by_cases c_43 : a1 = 5
  · skip
    refine oti 5 c_43 ?_
    refine lv_tableIn (off := 137) (tgt := 138) hx hb dX12_why_1 (by decide) (by decide) (by decide) (by decide) ?_
    refine lv_aload_n hx hb dX12_why_138 rfl (lv_at hl 0 rfl) ?_
    refine va_get (D := D) (ci := 11) (v := .ref h0_now) (C := RX12) (T := TX12) (N := 48) hx hb hts k2 hown hK.1 hP 0 rfl rfl 14 (by decide) k1 (fun _ h9 => h9) rfl dX12_why_139 ?_
    refine lv_bipush (v := 114) hx hb dX12_why_142 (by decide) ?_
    refine lv_iload_n hx hb dX12_why_144 rfl (lv_at hl 2 rfl) ?_
    refine lv_iadd hx hb dX12_why_145 ?_
    refine lv_topi (fun x_44 ex_44 => ?_)
    have h_45 : rg 114 118 x_44 := by rw [ex_44]; exact rg_add (⟨by decide, by decide⟩ : rg 114 114 (114 : Int32)) i_a2 (by decide) (by decide) (by decide) (by decide)
    have l_46 : lq x_44.toInt (a2.toInt + 114) := lqm (by rw [ex_44]; have q := tadd (⟨by decide, by decide⟩ : rg 114 114 (114 : Int32)) i_a2 (by decide) (by decide); have r0 := lqe (lqm (by decide) : lq (114 : Int32).toInt 114); omega)
    refine va_iald hx hb hK.1 hP 1 0 rfl rfl (rg_in h_45 (by decide) (by decide)) dX12_why_146 ?_
    refine lv_topi (fun x_47 ex_47 => ?_)
    refine lv_if_eq (tgt := 154) hx hb dX12_why_147 (by decide) (fun c_48 => ?_) (fun c_48 => ?_)
    · skip
      have o_49 : rl 0 x_47 0 := rl_eq c_48
      have h_50 : rg (-2147483648) 0 x_47 := rl_x o_49 (rga x_47) (⟨by decide, by decide⟩ : rg 0 0 (0 : Int32)) (by decide) (by decide)
      have o_51 : rl 0 0 x_47 := rl_eq c_48.symm
      have h_52 : rg 0 0 x_47 := rl_y o_51 (⟨by decide, by decide⟩ : rg 0 0 (0 : Int32)) h_50 (by decide) (by decide)
      refine lv_aload_n hx hb dX12_why_154 rfl (lv_at hl 0 rfl) ?_
      refine va_get (D := D) (ci := 11) (v := .ref h0_now) (C := RX12) (T := TX12) (N := 48) hx hb hts k2 hown hK.1 hP 0 rfl rfl 14 (by decide) k1 (fun _ h9 => h9) rfl dX12_why_155 ?_
      refine lv_bipush (v := 93) hx hb dX12_why_158 (by decide) ?_
      refine va_iald hx hb hK.1 hP 1 0 rfl rfl (rg_in (⟨by decide, by decide⟩ : rg 93 93 (93 : Int32)) (by decide) (by decide)) dX12_why_160 ?_
      refine lv_topi (fun x_53 ex_53 => ?_)
      refine lv_iconst (v := 1) hx hb dX12_why_161 (by decide) ?_
      refine lv_icmp_ne (tgt := 169) hx hb dX12_why_162 (by decide) (fun c_54 => ?_) (fun c_54 => ?_)
      · skip
        refine lv_aload_n hx hb dX12_why_169 rfl (lv_at hl 0 rfl) ?_
        refine oC_i (Wc := [(h0, .inr (11, [.int h0_thrown, .ref h0_tape, .int h0_taped, .int h0_size, .int h0_limit, .int h0_to, .int h0_from, .int h0_kind, .int h0_number, .int h0_sign, .int h0_fault, .int h0_place, .long h0_word, .int h0_told, .ref h0_now, .ref h0_read, .ref h0_kept, .ref h0_snaps, .ref h0_aside, .ref h0_name, .ref h0_readName, .ref h0_keptName, .ref h0_isKept, .ref h0_onces, .int h0_snapMany, .int h0_lowest, .int h0_highest, .int h0_agreed, .int h0_jurors, .int h0_panelled, .ref h0_inSets, .int h0_surely, .int h0_asked, .ref h0_frees, .int h0_struck, .int h0_beating, .ref h0_text, .int h0_texts, .int h0_seed, .ref h0_line, .ref h0_written, .int h0_lineMany, .int h0_hasWritten, .ref h0_node, .int h0_nodes, .int h0_onesMany, .int h0_within, .int h0_top])), (aI ca h0_now 376 F_h0_now)]) (Wr := []) (va_runV (As := []) (rest := []) ⟨hx, hb, hml, hown, hts⟩ (s_X12_droppers l D ca H.size h0 h0_thrown h0_tape h0_taped h0_size h0_limit h0_to h0_from h0_kind h0_number h0_sign h0_fault h0_place h0_word h0_told h0_now h0_read h0_kept h0_snaps h0_aside h0_name h0_readName h0_keptName h0_isKept h0_onces h0_snapMany h0_lowest h0_highest h0_agreed h0_jurors h0_panelled h0_inSets h0_surely h0_asked h0_frees h0_struck h0_beating h0_text h0_texts h0_seed h0_line h0_written h0_lineMany h0_hasWritten h0_node h0_nodes h0_onesMany h0_within h0_top F_h0_now i_h0_taped i_h0_size i_h0_to i_h0_kind i_h0_snapMany i_h0_texts i_h0_lineMany i_h0_hasWritten i_h0_nodes i_h0_onesMany s_h0_now_0 s_h0_now_1 s_h0_now_2 s_h0_now_3 s_h0_now_4 s_h0_now_5 s_h0_now_6 s_h0_now_7) (cwV 0 hts gX12_why_X12_droppers rfl rfl rfl (by decide +kernel) ⟨Nat.le_of_ble_eq_true rfl, Nat.le_of_ble_eq_true rfl⟩) (oPV (C := RX12) hK hP hD [0, 1] rfl (by decide) 0 rfl (ci := 11) rfl rfl) rfl rfl hl.1 rfl (lv_room (Nat.le_of_ble_eq_true rfl)) dX12_why_170 ⟨Nat.le_of_ble_eq_true rfl, Nat.le_of_ble_eq_true rfl⟩) hP hD hS hA [0, 1] [] rfl rfl (by decide) (by decide) (fun r_55 u H locs w_56 hP hD hS => ?_)
        obtain ⟨⟩ := u
        have hP : va_P D vwCl [(h0, .inr (11, [.int h0_thrown, .ref h0_tape, .int h0_taped, .int h0_size, .int h0_limit, .int h0_to, .int h0_from, .int h0_kind, .int h0_number, .int h0_sign, .int h0_fault, .int h0_place, .long h0_word, .int h0_told, .ref h0_now, .ref h0_read, .ref h0_kept, .ref h0_snaps, .ref h0_aside, .ref h0_name, .ref h0_readName, .ref h0_keptName, .ref h0_isKept, .ref h0_onces, .int h0_snapMany, .int h0_lowest, .int h0_highest, .int h0_agreed, .int h0_jurors, .int h0_panelled, .ref h0_inSets, .int h0_surely, .int h0_asked, .ref h0_frees, .int h0_struck, .int h0_beating, .ref h0_text, .int h0_texts, .int h0_seed, .ref h0_line, .ref h0_written, .int h0_lineMany, .int h0_hasWritten, .ref h0_node, .int h0_nodes, .int h0_onesMany, .int h0_within, .int h0_top])), (aI ca h0_now 376 F_h0_now)] H := hP
        have hD : va_D A [(h0, .inr (11, [.int h0_thrown, .ref h0_tape, .int h0_taped, .int h0_size, .int h0_limit, .int h0_to, .int h0_from, .int h0_kind, .int h0_number, .int h0_sign, .int h0_fault, .int h0_place, .long h0_word, .int h0_told, .ref h0_now, .ref h0_read, .ref h0_kept, .ref h0_snaps, .ref h0_aside, .ref h0_name, .ref h0_readName, .ref h0_keptName, .ref h0_isKept, .ref h0_onces, .int h0_snapMany, .int h0_lowest, .int h0_highest, .int h0_agreed, .int h0_jurors, .int h0_panelled, .ref h0_inSets, .int h0_surely, .int h0_asked, .ref h0_frees, .int h0_struck, .int h0_beating, .ref h0_text, .int h0_texts, .int h0_seed, .ref h0_line, .ref h0_written, .int h0_lineMany, .int h0_hasWritten, .ref h0_node, .int h0_nodes, .int h0_onesMany, .int h0_within, .int h0_top])), (aI ca h0_now 376 F_h0_now)] := hD
        try dsimp only at w_56
        have h_57 := w_56
        refine lv_if_ne (tgt := 180) hx hb dX12_why_173 (by decide) (fun c_58 => ?_) (fun c_58 => ?_)
        · skip
          have h_59 : rg 1 1023 r_55 := cl_nlo c_58 h_57 (show (0 : Int32).toInt = 0 by decide) (by decide) (by decide)
          refine lv_iconst (v := 0) hx hb dX12_why_180 (by decide) ?_
          exact oE_i hx hb hr rfl hlocks hP hD hS () [0, 1] rfl (by decide) (⟨by decide, by decide⟩ : rg 0 3 (0 : Int32)) (Nat.le_of_ble_eq_true rfl) (Nat.le_of_ble_eq_true rfl) dX12_why_181
        · skip
          have o_60 : rl 0 r_55 0 := rl_eq c_58
          have h_61 : rg 0 0 r_55 := rl_x o_60 h_57 (⟨by decide, by decide⟩ : rg 0 0 (0 : Int32)) (by decide) (by decide)
          have o_62 : rl 0 0 r_55 := rl_eq c_58.symm
          refine lv_iconst (v := 3) hx hb dX12_why_176 (by decide) ?_
          refine lv_goto (tgt := 181) hx hb dX12_why_177 (by decide) ?_
          exact oE_i hx hb hr rfl hlocks hP hD hS () [0, 1] rfl (by decide) (⟨by decide, by decide⟩ : rg 0 3 (3 : Int32)) (Nat.le_of_ble_eq_true rfl) (Nat.le_of_ble_eq_true rfl) dX12_why_181
      · skip
        have o_63 : rl 0 x_53 1 := rl_eq c_54
        have h_64 : rg (-2147483648) 1 x_53 := rl_x o_63 (rga x_53) (⟨by decide, by decide⟩ : rg 1 1 (1 : Int32)) (by decide) (by decide)
        have o_65 : rl 0 1 x_53 := rl_eq c_54.symm
        have h_66 : rg 1 1 x_53 := rl_y o_65 (⟨by decide, by decide⟩ : rg 1 1 (1 : Int32)) h_64 (by decide) (by decide)
        refine lv_iconst (v := 2) hx hb dX12_why_165 (by decide) ?_
        refine lv_goto (tgt := 181) hx hb dX12_why_166 (by decide) ?_
        exact oE_i hx hb hr rfl hlocks hP hD hS () [0, 1] rfl (by decide) (⟨by decide, by decide⟩ : rg 0 3 (2 : Int32)) (Nat.le_of_ble_eq_true rfl) (Nat.le_of_ble_eq_true rfl) dX12_why_181
    · skip
      refine lv_iconst (v := 1) hx hb dX12_why_150 (by decide) ?_
      refine lv_goto (tgt := 181) hx hb dX12_why_151 (by decide) ?_
      exact oE_i hx hb hr rfl hlocks hP hD hS () [0, 1] rfl (by decide) (⟨by decide, by decide⟩ : rg 0 3 (1 : Int32)) (Nat.le_of_ble_eq_true rfl) (Nat.le_of_ble_eq_true rfl) dX12_why_181
  have t0 := lv_neT c_43 (show (5 : Int32).toInt = 5 by decide)
  have t97 := (i_a1).1
  have t98 := (i_a1).2
  refine lv_tableOut (tgt := 182) hx hb dX12_why_1 (by omega) (by decide) ?_
  refine lv_aload_n hx hb dX12_why_182 rfl (lv_at hl 0 rfl) ?_
  refine va_get (D := D) (ci := 11) (v := .ref h0_now) (C := RX12) (T := TX12) (N := 48) hx hb hts k2 hown hK.1 hP 0 rfl rfl 14 (by decide) k1 (fun _ h9 => h9) rfl dX12_why_183 ?_
  refine lv_bipush (v := 114) hx hb dX12_why_186 (by decide) ?_
  refine lv_iload_n hx hb dX12_why_188 rfl (lv_at hl 2 rfl) ?_
  refine lv_iadd hx hb dX12_why_189 ?_
  refine lv_topi (fun x_67 ex_67 => ?_)
  have h_68 : rg 114 118 x_67 := by rw [ex_67]; exact rg_add (⟨by decide, by decide⟩ : rg 114 114 (114 : Int32)) i_a2 (by decide) (by decide) (by decide) (by decide)
  have l_69 : lq x_67.toInt (a2.toInt + 114) := lqm (by rw [ex_67]; have q := tadd (⟨by decide, by decide⟩ : rg 114 114 (114 : Int32)) i_a2 (by decide) (by decide); have r0 := lqe (lqm (by decide) : lq (114 : Int32).toInt 114); omega)
  refine va_iald hx hb hK.1 hP 1 0 rfl rfl (rg_in h_68 (by decide) (by decide)) dX12_why_190 ?_
  refine lv_topi (fun x_70 ex_70 => ?_)
  refine lv_if_ne (tgt := 198) hx hb dX12_why_191 (by decide) (fun c_71 => ?_) (fun c_71 => ?_)
  · skip
    refine lv_aload_n hx hb dX12_why_198 rfl (lv_at hl 0 rfl) ?_
    refine va_get (D := D) (ci := 11) (v := .ref h0_now) (C := RX12) (T := TX12) (N := 48) hx hb hts k2 hown hK.1 hP 0 rfl rfl 14 (by decide) k1 (fun _ h9 => h9) rfl dX12_why_199 ?_
    refine lv_sipush (v := 129) hx hb dX12_why_202 (by decide) ?_
    refine lv_iload_n hx hb dX12_why_205 rfl (lv_at hl 2 rfl) ?_
    refine lv_iadd hx hb dX12_why_206 ?_
    refine lv_topi (fun x_72 ex_72 => ?_)
    have h_73 : rg 129 133 x_72 := by rw [ex_72]; exact rg_add (⟨by decide, by decide⟩ : rg 129 129 (129 : Int32)) i_a2 (by decide) (by decide) (by decide) (by decide)
    have l_74 : lq x_72.toInt (a2.toInt + 129) := lqm (by rw [ex_72]; have q := tadd (⟨by decide, by decide⟩ : rg 129 129 (129 : Int32)) i_a2 (by decide) (by decide); have r0 := lqe (lqm (by decide) : lq (129 : Int32).toInt 129); omega)
    refine va_iald hx hb hK.1 hP 1 0 rfl rfl (rg_in h_73 (by decide) (by decide)) dX12_why_207 ?_
    refine lv_topi (fun x_75 ex_75 => ?_)
    refine lv_if_ne (tgt := 215) hx hb dX12_why_208 (by decide) (fun c_76 => ?_) (fun c_76 => ?_)
    · skip
      refine lv_iconst (v := 0) hx hb dX12_why_215 (by decide) ?_
      exact oE_i hx hb hr rfl hlocks hP hD hS () [0, 1] rfl (by decide) (⟨by decide, by decide⟩ : rg 0 3 (0 : Int32)) (Nat.le_of_ble_eq_true rfl) (Nat.le_of_ble_eq_true rfl) dX12_why_216
    · skip
      have o_77 : rl 0 x_75 0 := rl_eq c_76
      have h_78 : rg (-2147483648) 0 x_75 := rl_x o_77 (rga x_75) (⟨by decide, by decide⟩ : rg 0 0 (0 : Int32)) (by decide) (by decide)
      have o_79 : rl 0 0 x_75 := rl_eq c_76.symm
      have h_80 : rg 0 0 x_75 := rl_y o_79 (⟨by decide, by decide⟩ : rg 0 0 (0 : Int32)) h_78 (by decide) (by decide)
      refine lv_iconst (v := 2) hx hb dX12_why_211 (by decide) ?_
      refine lv_goto (tgt := 216) hx hb dX12_why_212 (by decide) ?_
      exact oE_i hx hb hr rfl hlocks hP hD hS () [0, 1] rfl (by decide) (⟨by decide, by decide⟩ : rg 0 3 (2 : Int32)) (Nat.le_of_ble_eq_true rfl) (Nat.le_of_ble_eq_true rfl) dX12_why_216
  · skip
    have o_81 : rl 0 x_70 0 := rl_eq c_71
    have h_82 : rg (-2147483648) 0 x_70 := rl_x o_81 (rga x_70) (⟨by decide, by decide⟩ : rg 0 0 (0 : Int32)) (by decide) (by decide)
    have o_83 : rl 0 0 x_70 := rl_eq c_71.symm
    have h_84 : rg 0 0 x_70 := rl_y o_83 (⟨by decide, by decide⟩ : rg 0 0 (0 : Int32)) h_82 (by decide) (by decide)
    refine lv_iconst (v := 1) hx hb dX12_why_194 (by decide) ?_
    refine lv_goto (tgt := 216) hx hb dX12_why_195 (by decide) ?_
    exact oE_i hx hb hr rfl hlocks hP hD hS () [0, 1] rfl (by decide) (⟨by decide, by decide⟩ : rg 0 3 (1 : Int32)) (Nat.le_of_ble_eq_true rfl) (Nat.le_of_ble_eq_true rfl) dX12_why_216
def snok (f : Nat → Int32) : Prop := ∀ k : Nat, k < 360 → (k % 45 = 1 ∨ (35 ≤ k % 45 ∧ k % 45 < 40)) → rg 0 1023 (f k)
theorem snok_sh {f g : Nat → Int32} {i j v : Int32} {p q : Int} (h : snok f) (eg : g = upd f i.toNatClampNeg v) (hi : rg p q i) (h0 : 0 ≤ p) (hq : q < 315) (ev : v = f j.toNatClampNeg) (hj : lq j.toInt (i.toInt + 45)) : snok g := by
  have c := rg_cl hi h0
  obtain ⟨r, t⟩ := hi
  have e := lqe hj
  have d : ((j.toNatClampNeg : Nat) : Int) = j.toInt := rg_cl (a := j.toInt) (b := j.toInt) ⟨Int.le_refl _, Int.le_refl _⟩ (by omega)
  intro k hk hs
  rw [eg]
  by_cases z : k = i.toNatClampNeg
  · rw [z, pk_us, ev]
    exact h _ (by omega) (by omega)
  · rw [pk_un z]; exact h k hk hs
theorem snok_cp {f g n : Nat → Int32} {i j v m k : Int32} (h : snok f) (eg : g = upd f i.toNatClampNeg v) (ev : v = n j.toNatClampNeg) (hi : lq i.toInt (45 * m.toInt + k.toInt)) (hj : lq j.toInt (89 + k.toInt)) (hm : rg 0 7 m) (hk : rg 0 44 k) (s1 : sg 90 91 0 1023 n) (s2 : sg 124 129 0 1023 n) : snok g := by
  have e1 := lqe hi
  have e2 := lqe hj
  obtain ⟨m1, m2⟩ := hm
  obtain ⟨k1, k2⟩ := hk
  have c : ((i.toNatClampNeg : Nat) : Int) = i.toInt := rg_cl (a := i.toInt) (b := i.toInt) ⟨Int.le_refl _, Int.le_refl _⟩ (by omega)
  have d : ((j.toNatClampNeg : Nat) : Int) = j.toInt := rg_cl (a := j.toInt) (b := j.toInt) ⟨Int.le_refl _, Int.le_refl _⟩ (by omega)
  intro x hx hs
  rw [eg]
  by_cases z : x = i.toNatClampNeg
  · rw [z, pk_us, ev]
    rcases hs with hs | hs
    · exact s1 _ (by omega) (by omega)
    · exact s2 _ (by omega) (by omega)
  · rw [pk_un z]; exact h x hx hs
def nok (n : Nat → Int32) : Prop := sg 90 91 0 1023 n ∧ sg 124 129 0 1023 n
theorem nok_st {f g n : Nat → Int32} {i j v m k : Int32} (h : nok n) (eg : g = upd n i.toNatClampNeg v) (ev : v = f j.toNatClampNeg) (hf : snok f) (hi : lq i.toInt (89 + k.toInt)) (hj : lq j.toInt (45 * m.toInt + k.toInt)) (hm : rg 0 7 m) (hk : rg 0 44 k) : nok g := by
  have e1 := lqe hi
  have e2 := lqe hj
  obtain ⟨m1, m2⟩ := hm
  obtain ⟨k1, k2⟩ := hk
  have c : ((i.toNatClampNeg : Nat) : Int) = i.toInt := rg_cl (a := i.toInt) (b := i.toInt) ⟨Int.le_refl _, Int.le_refl _⟩ (by omega)
  have d : ((j.toNatClampNeg : Nat) : Int) = j.toInt := rg_cl (a := j.toInt) (b := j.toInt) ⟨Int.le_refl _, Int.le_refl _⟩ (by omega)
  refine ⟨fun x a b => ?_, fun x a b => ?_⟩
  · rw [eg]
    by_cases z : x = i.toNatClampNeg
    · rw [z, pk_us, ev]; exact hf _ (by omega) (by omega)
    · rw [pk_un z]; exact h.1 x a b
  · rw [eg]
    by_cases z : x = i.toNatClampNeg
    · rw [z, pk_us, ev]; exact hf _ (by omega) (by omega)
    · rw [pk_un z]; exact h.2 x a b
theorem snok_z {f : Nat → Int32} (h : sg 0 360 0 0 f) : snok f := fun k hk _ => rgw (lo := 0) (hi := 1023) (h k (Nat.zero_le _) hk) (by decide) (by decide)
theorem tokb_sz {b e : Nat} {f : Nat → Int32} (h : sg b e 0 0 f) (he : b + 240 ≤ e) : tokb b f := fun k hk => by
  have z : f (b + 4 * k) = 0 := by
    obtain ⟨p, q⟩ := h (b + 4 * k) (by omega) (by omega)
    exact Int32.toInt_inj.mp (by rw [show (0 : Int32).toInt = 0 from rfl]; omega)
  rw [z]; exact tk_z1

theorem dX12_snap_0 : decode cX12_snap 0 = .ok (.aload_n 0, 1) := by decide +kernel
theorem dX12_snap_1 : decode cX12_snap 1 = .ok (.getfield 227, 3) := by decide +kernel
theorem dX12_snap_4 : decode cX12_snap 4 = .ok (.bipush 8, 2) := by decide +kernel
theorem dX12_snap_6 : decode cX12_snap 6 = .ok (.if_icmp .ne 43, 3) := by decide +kernel
theorem dX12_snap_9 : decode cX12_snap 9 = .ok (.iconst 0, 1) := by decide +kernel
theorem dX12_snap_10 : decode cX12_snap 10 = .ok (.istore_n 1, 1) := by decide +kernel
theorem dX12_snap_11 : decode cX12_snap 11 = .ok (.iload_n 1, 1) := by decide +kernel
theorem dX12_snap_12 : decode cX12_snap 12 = .ok (.sipush 315, 3) := by decide +kernel
theorem dX12_snap_15 : decode cX12_snap 15 = .ok (.if_icmp .ge 24, 3) := by decide +kernel
theorem dX12_snap_18 : decode cX12_snap 18 = .ok (.aload_n 0, 1) := by decide +kernel
theorem dX12_snap_19 : decode cX12_snap 19 = .ok (.getfield 107, 3) := by decide +kernel
theorem dX12_snap_22 : decode cX12_snap 22 = .ok (.iload_n 1, 1) := by decide +kernel
theorem dX12_snap_23 : decode cX12_snap 23 = .ok (.aload_n 0, 1) := by decide +kernel
theorem dX12_snap_24 : decode cX12_snap 24 = .ok (.getfield 107, 3) := by decide +kernel
theorem dX12_snap_27 : decode cX12_snap 27 = .ok (.iload_n 1, 1) := by decide +kernel
theorem dX12_snap_28 : decode cX12_snap 28 = .ok (.bipush 45, 2) := by decide +kernel
theorem dX12_snap_30 : decode cX12_snap 30 = .ok (.iadd, 1) := by decide +kernel
theorem dX12_snap_31 : decode cX12_snap 31 = .ok (.iaload, 1) := by decide +kernel
theorem dX12_snap_32 : decode cX12_snap 32 = .ok (.iastore, 1) := by decide +kernel
theorem dX12_snap_33 : decode cX12_snap 33 = .ok (.iinc 1 1, 3) := by decide +kernel
theorem dX12_snap_36 : decode cX12_snap 36 = .ok (.goto (-25), 3) := by decide +kernel
theorem dX12_snap_39 : decode cX12_snap 39 = .ok (.aload_n 0, 1) := by decide +kernel
theorem dX12_snap_40 : decode cX12_snap 40 = .ok (.dup, 1) := by decide +kernel
theorem dX12_snap_41 : decode cX12_snap 41 = .ok (.getfield 227, 3) := by decide +kernel
theorem dX12_snap_44 : decode cX12_snap 44 = .ok (.iconst 1, 1) := by decide +kernel
theorem dX12_snap_45 : decode cX12_snap 45 = .ok (.isub, 1) := by decide +kernel
theorem dX12_snap_46 : decode cX12_snap 46 = .ok (.putfield 227, 3) := by decide +kernel
theorem dX12_snap_49 : decode cX12_snap 49 = .ok (.iconst 0, 1) := by decide +kernel
theorem dX12_snap_50 : decode cX12_snap 50 = .ok (.istore_n 1, 1) := by decide +kernel
theorem dX12_snap_51 : decode cX12_snap 51 = .ok (.iload_n 1, 1) := by decide +kernel
theorem dX12_snap_52 : decode cX12_snap 52 = .ok (.bipush 45, 2) := by decide +kernel
theorem dX12_snap_54 : decode cX12_snap 54 = .ok (.if_icmp .ge 32, 3) := by decide +kernel
theorem dX12_snap_57 : decode cX12_snap 57 = .ok (.aload_n 0, 1) := by decide +kernel
theorem dX12_snap_58 : decode cX12_snap 58 = .ok (.getfield 107, 3) := by decide +kernel
theorem dX12_snap_61 : decode cX12_snap 61 = .ok (.bipush 45, 2) := by decide +kernel
theorem dX12_snap_63 : decode cX12_snap 63 = .ok (.aload_n 0, 1) := by decide +kernel
theorem dX12_snap_64 : decode cX12_snap 64 = .ok (.getfield 227, 3) := by decide +kernel
theorem dX12_snap_67 : decode cX12_snap 67 = .ok (.imul, 1) := by decide +kernel
theorem dX12_snap_68 : decode cX12_snap 68 = .ok (.iload_n 1, 1) := by decide +kernel
theorem dX12_snap_69 : decode cX12_snap 69 = .ok (.iadd, 1) := by decide +kernel
theorem dX12_snap_70 : decode cX12_snap 70 = .ok (.aload_n 0, 1) := by decide +kernel
theorem dX12_snap_71 : decode cX12_snap 71 = .ok (.getfield 98, 3) := by decide +kernel
theorem dX12_snap_74 : decode cX12_snap 74 = .ok (.bipush 89, 2) := by decide +kernel
theorem dX12_snap_76 : decode cX12_snap 76 = .ok (.iload_n 1, 1) := by decide +kernel
theorem dX12_snap_77 : decode cX12_snap 77 = .ok (.iadd, 1) := by decide +kernel
theorem dX12_snap_78 : decode cX12_snap 78 = .ok (.iaload, 1) := by decide +kernel
theorem dX12_snap_79 : decode cX12_snap 79 = .ok (.iastore, 1) := by decide +kernel
theorem dX12_snap_80 : decode cX12_snap 80 = .ok (.iinc 1 1, 3) := by decide +kernel
theorem dX12_snap_83 : decode cX12_snap 83 = .ok (.goto (-32), 3) := by decide +kernel
theorem dX12_snap_86 : decode cX12_snap 86 = .ok (.aload_n 0, 1) := by decide +kernel
theorem dX12_snap_87 : decode cX12_snap 87 = .ok (.dup, 1) := by decide +kernel
theorem dX12_snap_88 : decode cX12_snap 88 = .ok (.getfield 227, 3) := by decide +kernel
theorem dX12_snap_91 : decode cX12_snap 91 = .ok (.iconst 1, 1) := by decide +kernel
theorem dX12_snap_92 : decode cX12_snap 92 = .ok (.iadd, 1) := by decide +kernel
theorem dX12_snap_93 : decode cX12_snap 93 = .ok (.putfield 227, 3) := by decide +kernel
theorem dX12_snap_96 : decode cX12_snap 96 = .ok (.return_, 1) := by decide +kernel
set_option maxHeartbeats 4000000 in
set_option maxRecDepth 100000 in
theorem s_X12_snap (l : Launch) (D : va_G) (ca : Nat → ClassId) (sz : Nat) (h0 : Nat) (h0_thrown : Int32) (h0_tape : Nat) (h0_taped : Int32) (h0_size : Int32) (h0_limit : Int32) (h0_to : Int32) (h0_from : Int32) (h0_kind : Int32) (h0_number : Int32) (h0_sign : Int32) (h0_fault : Int32) (h0_place : Int32) (h0_word : Int64) (h0_told : Int32) (h0_now : Nat) (h0_read : Nat) (h0_kept : Nat) (h0_snaps : Nat) (h0_aside : Nat) (h0_name : Nat) (h0_readName : Nat) (h0_keptName : Nat) (h0_isKept : Nat) (h0_onces : Nat) (h0_snapMany : Int32) (h0_lowest : Int32) (h0_highest : Int32) (h0_agreed : Int32) (h0_jurors : Int32) (h0_panelled : Int32) (h0_inSets : Nat) (h0_surely : Int32) (h0_asked : Int32) (h0_frees : Nat) (h0_struck : Int32) (h0_beating : Int32) (h0_text : Nat) (h0_texts : Int32) (h0_seed : Int32) (h0_line : Nat) (h0_written : Nat) (h0_lineMany : Int32) (h0_hasWritten : Int32) (h0_node : Nat) (h0_nodes : Int32) (h0_onesMany : Int32) (h0_within : Int32) (h0_top : Int32) (F_h0_snaps : Nat → Int32) (F_h0_now : Nat → Int32) (i_h0_taped : rg 0 940 h0_taped) (i_h0_size : rg 0 940 h0_size) (i_h0_to : rg 0 940 h0_to) (i_h0_kind : rg 0 4 h0_kind) (i_h0_snapMany : rg 0 8 h0_snapMany) (i_h0_texts : rg 0 64 h0_texts) (i_h0_lineMany : rg 0 40 h0_lineMany) (i_h0_hasWritten : rg 0 1 h0_hasWritten) (i_h0_nodes : rg 0 60 h0_nodes) (i_h0_onesMany : rg 0 20 h0_onesMany) (s_h0_now_0 : sg 0 1 0 10 F_h0_now) (s_h0_now_1 : sg 1 2 0 4 F_h0_now) (s_h0_now_2 : sg 2 3 0 5 F_h0_now) (s_h0_now_3 : sg 35 36 0 1023 F_h0_now) (s_h0_now_4 : sg 44 49 0 3 F_h0_now) (s_h0_now_5 : sg 90 91 0 1023 F_h0_now) (s_h0_now_6 : sg 124 129 0 1023 F_h0_now) (s_h0_now_7 : sg 135 136 0 39 F_h0_now) (cu_snok : snok F_h0_snaps) : oMet l yX12_snap wsX12_snap ({ frames := 0, cells := 0, slots := 0, locals := 0 } : Room) [.ref h0] D ca sz [(h0, .inr (11, [.int h0_thrown, .ref h0_tape, .int h0_taped, .int h0_size, .int h0_limit, .int h0_to, .int h0_from, .int h0_kind, .int h0_number, .int h0_sign, .int h0_fault, .int h0_place, .long h0_word, .int h0_told, .ref h0_now, .ref h0_read, .ref h0_kept, .ref h0_snaps, .ref h0_aside, .ref h0_name, .ref h0_readName, .ref h0_keptName, .ref h0_isKept, .ref h0_onces, .int h0_snapMany, .int h0_lowest, .int h0_highest, .int h0_agreed, .int h0_jurors, .int h0_panelled, .ref h0_inSets, .int h0_surely, .int h0_asked, .ref h0_frees, .int h0_struck, .int h0_beating, .ref h0_text, .int h0_texts, .int h0_seed, .ref h0_line, .ref h0_written, .int h0_lineMany, .int h0_hasWritten, .ref h0_node, .int h0_nodes, .int h0_onesMany, .int h0_within, .int h0_top])), (aI ca h0_snaps 360 F_h0_snaps), (aI ca h0_now 376 F_h0_now)] (oQv D (fun (u : Int32 × (Nat → Int32)) => (rg 1 8 u.1) ∧ (rl 0 h0_snapMany u.1) ∧ (rl (-1) u.1 h0_snapMany) ∧ (snok u.2)) (fun (u : Int32 × (Nat → Int32)) => [(h0, .inr (11, [.int h0_thrown, .ref h0_tape, .int h0_taped, .int h0_size, .int h0_limit, .int h0_to, .int h0_from, .int h0_kind, .int h0_number, .int h0_sign, .int h0_fault, .int h0_place, .long h0_word, .int h0_told, .ref h0_now, .ref h0_read, .ref h0_kept, .ref h0_snaps, .ref h0_aside, .ref h0_name, .ref h0_readName, .ref h0_keptName, .ref h0_isKept, .ref h0_onces, .int u.1, .int h0_lowest, .int h0_highest, .int h0_agreed, .int h0_jurors, .int h0_panelled, .ref h0_inSets, .int h0_surely, .int h0_asked, .ref h0_frees, .int h0_struck, .int h0_beating, .ref h0_text, .int h0_texts, .int h0_seed, .ref h0_line, .ref h0_written, .int h0_lineMany, .int h0_hasWritten, .ref h0_node, .int h0_nodes, .int h0_onesMany, .int h0_within, .int h0_top])), (aI ca h0_snaps 360 u.2), (aI ca h0_now 376 F_h0_now)])) 0 0 := by
  refine oM (cc := cX12_snap) (maxL := 2) (ret := none) (by decide) rfl (Nat.le_of_ble_eq_true rfl) [(0, .ref h0)] rfl ?_
  intro p e s m below meth c A H locs ls hx hb hr hml hts hown hlocks hin hK hP hD hA hS hl
  have hown : s.vm.findClass RX12 = some m.cls := hown
  have k1 := hts (.fieldLink RX12 227 "LidCourtModel" "snapMany" "I") (by decide +kernel)
  have k2 : ∀ w ∈ wsX120, w ∈ wsX12_snap := fun _ h => List.mem_cons_of_mem _ (List.mem_append_right _ h)
  have k3 := hts (.fieldLink RX12 107 "LidCourtModel" "snaps" "[I") (by decide +kernel)
  have k4 := hts (.fieldLink RX12 98 "LidCourtModel" "now" "[I") (by decide +kernel)
  have J51_472 : ∀ (n : Nat) (y51_0 : Int32) (y51_1 : Int32) (f51_2 : Nat → Int32), True → rg 0 45 y51_0 → rg 0 7 y51_1 → rl (-1) h0_snapMany y51_1 → rl 0 y51_1 h0_snapMany → snok f51_2 → 45 < y51_0.toInt + (n : Int) → ∀ (H : Heap) (locs : List Loc) (ls : Array Slot), va_P D vwCl [(h0, .inr (11, [.int h0_thrown, .ref h0_tape, .int h0_taped, .int h0_size, .int h0_limit, .int h0_to, .int h0_from, .int h0_kind, .int h0_number, .int h0_sign, .int h0_fault, .int h0_place, .long h0_word, .int h0_told, .ref h0_now, .ref h0_read, .ref h0_kept, .ref h0_snaps, .ref h0_aside, .ref h0_name, .ref h0_readName, .ref h0_keptName, .ref h0_isKept, .ref h0_onces, .int y51_1, .int h0_lowest, .int h0_highest, .int h0_agreed, .int h0_jurors, .int h0_panelled, .ref h0_inSets, .int h0_surely, .int h0_asked, .ref h0_frees, .int h0_struck, .int h0_beating, .ref h0_text, .int h0_texts, .int h0_seed, .ref h0_line, .ref h0_written, .int h0_lineMany, .int h0_hasWritten, .ref h0_node, .int h0_nodes, .int h0_onesMany, .int h0_within, .int h0_top])), (aI ca h0_snaps 360 f51_2), (aI ca h0_now 376 F_h0_now)] H → va_D A [(h0, .inr (11, [.int h0_thrown, .ref h0_tape, .int h0_taped, .int h0_size, .int h0_limit, .int h0_to, .int h0_from, .int h0_kind, .int h0_number, .int h0_sign, .int h0_fault, .int h0_place, .long h0_word, .int h0_told, .ref h0_now, .ref h0_read, .ref h0_kept, .ref h0_snaps, .ref h0_aside, .ref h0_name, .ref h0_readName, .ref h0_keptName, .ref h0_isKept, .ref h0_onces, .int y51_1, .int h0_lowest, .int h0_highest, .int h0_agreed, .int h0_jurors, .int h0_panelled, .ref h0_inSets, .int h0_surely, .int h0_asked, .ref h0_frees, .int h0_struck, .int h0_beating, .ref h0_text, .int h0_texts, .int h0_seed, .ref h0_line, .ref h0_written, .int h0_lineMany, .int h0_hasWritten, .ref h0_node, .int h0_nodes, .int h0_onesMany, .int h0_within, .int h0_top])), (aI ca h0_snaps 360 f51_2), (aI ca h0_now 376 F_h0_now)] → va_S A s.heap H locs → lv_has ls 2 [(0, .ref h0), (1, .int y51_0)] → W p l e ({ frames := 0, cells := 0, slots := 0, locals := 0 } : Room) s m ([.ref h0] : List Value).toArray below meth c H locs 0 0 (MQ below ((oQv D (fun (u : Int32 × (Nat → Int32)) => (rg 1 8 u.1) ∧ (rl 0 h0_snapMany u.1) ∧ (rl (-1) u.1 h0_snapMany) ∧ (snok u.2)) (fun (u : Int32 × (Nat → Int32)) => [(h0, .inr (11, [.int h0_thrown, .ref h0_tape, .int h0_taped, .int h0_size, .int h0_limit, .int h0_to, .int h0_from, .int h0_kind, .int h0_number, .int h0_sign, .int h0_fault, .int h0_place, .long h0_word, .int h0_told, .ref h0_now, .ref h0_read, .ref h0_kept, .ref h0_snaps, .ref h0_aside, .ref h0_name, .ref h0_readName, .ref h0_keptName, .ref h0_isKept, .ref h0_onces, .int u.1, .int h0_lowest, .int h0_highest, .int h0_agreed, .int h0_jurors, .int h0_panelled, .ref h0_inSets, .int h0_surely, .int h0_asked, .ref h0_frees, .int h0_struck, .int h0_beating, .ref h0_text, .int h0_texts, .int h0_seed, .ref h0_line, .ref h0_written, .int h0_lineMany, .int h0_hasWritten, .ref h0_node, .int h0_nodes, .int h0_onesMany, .int h0_within, .int h0_top])), (aI ca h0_snaps 360 u.2), (aI ca h0_now 376 F_h0_now)])) A) ([.ref h0] : List Value).toArray s 0 0 A) (F0 m 51 ls []) := by
    intro n
    induction n with
    | zero => intro y51_0 y51_1 f51_2 _ hy51_0 hy51_1 py51_1_h0_snapMany qy51_1_h0_snapMany u51_snok hn; exact absurd hn (by have q9 := hy51_0.2; omega)
    | succ n ih =>
      intro y51_0 y51_1 f51_2 _ hy51_0 hy51_1 py51_1_h0_snapMany qy51_1_h0_snapMany u51_snok hn H locs ls hP hD hS hl
      refine lv_iload_n hx hb dX12_snap_51 rfl (lv_at hl 1 rfl) ?_
      refine lv_bipush (v := 45) hx hb dX12_snap_52 (by decide) ?_
      refine lv_icmp_ge (tgt := 86) hx hb dX12_snap_54 (by decide) (fun c_495 => ?_) (fun c_495 => ?_)
      · skip
        have o_496 : rl 0 45 y51_0 := rl_le c_495
        have h_497 : rg 45 45 y51_0 := rl_y o_496 (⟨by decide, by decide⟩ : rg 45 45 (45 : Int32)) hy51_0 (by decide) (by decide)
        refine lv_aload_n hx hb dX12_snap_86 rfl (lv_at hl 0 rfl) ?_
        refine lv_dup hx hb dX12_snap_87 rfl ?_
        refine va_get (D := D) (ci := 11) (v := .int y51_1) (C := RX12) (T := TX12) (N := 48) hx hb hts k2 hown hK.1 hP 0 rfl rfl 24 (by decide) k1 (fun _ h9 => h9) rfl dX12_snap_88 ?_
        refine lv_iconst (v := 1) hx hb dX12_snap_91 (by decide) ?_
        refine lv_iadd hx hb dX12_snap_92 ?_
        refine lv_topi (fun x_498 ex_498 => ?_)
        have h_499 : rg 1 8 x_498 := by rw [ex_498]; exact rg_add hy51_1 (⟨by decide, by decide⟩ : rg 1 1 (1 : Int32)) (by decide) (by decide) (by decide) (by decide)
        have l_500 : lq x_498.toInt (y51_1.toInt + 1) := lqm (by rw [ex_498]; have q := tadd hy51_1 (⟨by decide, by decide⟩ : rg 1 1 (1 : Int32)) (by decide) (by decide); have r1 := lqe (lqm (by decide) : lq (1 : Int32).toInt 1); omega)
        refine va_put (D := D) (ci := 11) (v := .int x_498) (ty := .int) (C := RX12) (T := TX12) (N := 48) hx hb hts k2 tyX12 tyX12_ok nmX12 hown hK.1 hP hD hS 0 rfl rfl 24 (by decide) k1 (fun _ h9 => h9) rfl (by decide +kernel) rfl rfl (Nat.le_of_ble_eq_true rfl) dX12_snap_93 (fun H locs hP hD hS => ?_)
        have hP : va_P D vwCl [(h0, .inr (11, [.int h0_thrown, .ref h0_tape, .int h0_taped, .int h0_size, .int h0_limit, .int h0_to, .int h0_from, .int h0_kind, .int h0_number, .int h0_sign, .int h0_fault, .int h0_place, .long h0_word, .int h0_told, .ref h0_now, .ref h0_read, .ref h0_kept, .ref h0_snaps, .ref h0_aside, .ref h0_name, .ref h0_readName, .ref h0_keptName, .ref h0_isKept, .ref h0_onces, .int x_498, .int h0_lowest, .int h0_highest, .int h0_agreed, .int h0_jurors, .int h0_panelled, .ref h0_inSets, .int h0_surely, .int h0_asked, .ref h0_frees, .int h0_struck, .int h0_beating, .ref h0_text, .int h0_texts, .int h0_seed, .ref h0_line, .ref h0_written, .int h0_lineMany, .int h0_hasWritten, .ref h0_node, .int h0_nodes, .int h0_onesMany, .int h0_within, .int h0_top])), (aI ca h0_snaps 360 f51_2), (aI ca h0_now 376 F_h0_now)] H := hP
        have hD : va_D A [(h0, .inr (11, [.int h0_thrown, .ref h0_tape, .int h0_taped, .int h0_size, .int h0_limit, .int h0_to, .int h0_from, .int h0_kind, .int h0_number, .int h0_sign, .int h0_fault, .int h0_place, .long h0_word, .int h0_told, .ref h0_now, .ref h0_read, .ref h0_kept, .ref h0_snaps, .ref h0_aside, .ref h0_name, .ref h0_readName, .ref h0_keptName, .ref h0_isKept, .ref h0_onces, .int x_498, .int h0_lowest, .int h0_highest, .int h0_agreed, .int h0_jurors, .int h0_panelled, .ref h0_inSets, .int h0_surely, .int h0_asked, .ref h0_frees, .int h0_struck, .int h0_beating, .ref h0_text, .int h0_texts, .int h0_seed, .ref h0_line, .ref h0_written, .int h0_lineMany, .int h0_hasWritten, .ref h0_node, .int h0_nodes, .int h0_onesMany, .int h0_within, .int h0_top])), (aI ca h0_snaps 360 f51_2), (aI ca h0_now 376 F_h0_now)] := hD
        exact oE_v hx hb hr hlocks hP hD hS (x_498, f51_2) [0, 1, 2] rfl (by decide) ⟨h_499, (show rl 0 h0_snapMany x_498 from rlm (by have q0 := lqe l_500; have q1 := rle py51_1_h0_snapMany; have q2 := rle qy51_1_h0_snapMany; omega)), (show rl (-1) x_498 h0_snapMany from rlm (by have q0 := lqe l_500; have q1 := rle qy51_1_h0_snapMany; have q2 := rle py51_1_h0_snapMany; omega)), u51_snok⟩ (Nat.le_of_ble_eq_true rfl) (Nat.le_of_ble_eq_true rfl) dX12_snap_96
      · skip
        have o_501 : rl 1 y51_0 45 := rl_nle c_495
        have h_502 : rg 0 44 y51_0 := rl_x o_501 hy51_0 (⟨by decide, by decide⟩ : rg 45 45 (45 : Int32)) (by decide) (by decide)
        refine lv_aload_n hx hb dX12_snap_57 rfl (lv_at hl 0 rfl) ?_
        refine va_get (D := D) (ci := 11) (v := .ref h0_snaps) (C := RX12) (T := TX12) (N := 48) hx hb hts k2 hown hK.1 hP 0 rfl rfl 17 (by decide) k3 (fun _ h9 => h9) rfl dX12_snap_58 ?_
        refine lv_bipush (v := 45) hx hb dX12_snap_61 (by decide) ?_
        refine lv_aload_n hx hb dX12_snap_63 rfl (lv_at hl 0 rfl) ?_
        refine va_get (D := D) (ci := 11) (v := .int y51_1) (C := RX12) (T := TX12) (N := 48) hx hb hts k2 hown hK.1 hP 0 rfl rfl 24 (by decide) k1 (fun _ h9 => h9) rfl dX12_snap_64 ?_
        refine lv_imul hx hb dX12_snap_67 ?_
        refine lv_topi (fun x_503 ex_503 => ?_)
        have h_504 : rg 0 315 x_503 := by rw [ex_503]; exact rg_mul' (k := 45) hy51_1 (by decide) (by decide) (by decide) (by decide) (by decide) (by decide)
        have l_505 : lq x_503.toInt (45 * y51_1.toInt) := lqm (by rw [ex_503]; have q := tmul' (k := 45) (y := 45) hy51_1 (by decide) (by decide) (by decide) (by decide); omega)
        refine lv_iload_n hx hb dX12_snap_68 rfl (lv_at hl 1 rfl) ?_
        refine lv_iadd hx hb dX12_snap_69 ?_
        refine lv_topi (fun x_506 ex_506 => ?_)
        have h_507 : rg 0 359 x_506 := by rw [ex_506]; exact rg_add h_504 h_502 (by decide) (by decide) (by decide) (by decide)
        have l_508 : lq x_506.toInt (y51_0.toInt + 45 * y51_1.toInt) := lqm (by rw [ex_506]; have q := tadd h_504 h_502 (by decide) (by decide); have r0 := lqe l_505; omega)
        refine lv_aload_n hx hb dX12_snap_70 rfl (lv_at hl 0 rfl) ?_
        refine va_get (D := D) (ci := 11) (v := .ref h0_now) (C := RX12) (T := TX12) (N := 48) hx hb hts k2 hown hK.1 hP 0 rfl rfl 14 (by decide) k4 (fun _ h9 => h9) rfl dX12_snap_71 ?_
        refine lv_bipush (v := 89) hx hb dX12_snap_74 (by decide) ?_
        refine lv_iload_n hx hb dX12_snap_76 rfl (lv_at hl 1 rfl) ?_
        refine lv_iadd hx hb dX12_snap_77 ?_
        refine lv_topi (fun x_509 ex_509 => ?_)
        have h_510 : rg 89 133 x_509 := by rw [ex_509]; exact rg_add (⟨by decide, by decide⟩ : rg 89 89 (89 : Int32)) h_502 (by decide) (by decide) (by decide) (by decide)
        have l_511 : lq x_509.toInt (y51_0.toInt + 89) := lqm (by rw [ex_509]; have q := tadd (⟨by decide, by decide⟩ : rg 89 89 (89 : Int32)) h_502 (by decide) (by decide); have r0 := lqe (lqm (by decide) : lq (89 : Int32).toInt 89); omega)
        refine va_iald hx hb hK.1 hP 2 0 rfl rfl (rg_in h_510 (by decide) (by decide)) dX12_snap_78 ?_
        refine lv_topi (fun x_512 ex_512 => ?_)
        refine va_iast hx hb hK.1 hP hD hS 1 0 rfl rfl (rg_in h_507 (by decide) (by decide)) dX12_snap_79 (fun H locs hP hD hS => ?_)
        obtain ⟨g_513, eg_513⟩ : ∃ y : Nat → Int32, y = upd f51_2 (x_506 : Int32).toNatClampNeg (x_512 : Int32) := ⟨_, rfl⟩
        rw [← eg_513] at hP hD
        have hP : va_P D vwCl [(h0, .inr (11, [.int h0_thrown, .ref h0_tape, .int h0_taped, .int h0_size, .int h0_limit, .int h0_to, .int h0_from, .int h0_kind, .int h0_number, .int h0_sign, .int h0_fault, .int h0_place, .long h0_word, .int h0_told, .ref h0_now, .ref h0_read, .ref h0_kept, .ref h0_snaps, .ref h0_aside, .ref h0_name, .ref h0_readName, .ref h0_keptName, .ref h0_isKept, .ref h0_onces, .int y51_1, .int h0_lowest, .int h0_highest, .int h0_agreed, .int h0_jurors, .int h0_panelled, .ref h0_inSets, .int h0_surely, .int h0_asked, .ref h0_frees, .int h0_struck, .int h0_beating, .ref h0_text, .int h0_texts, .int h0_seed, .ref h0_line, .ref h0_written, .int h0_lineMany, .int h0_hasWritten, .ref h0_node, .int h0_nodes, .int h0_onesMany, .int h0_within, .int h0_top])), (aI ca h0_snaps 360 g_513), (aI ca h0_now 376 F_h0_now)] H := hP
        have hD : va_D A [(h0, .inr (11, [.int h0_thrown, .ref h0_tape, .int h0_taped, .int h0_size, .int h0_limit, .int h0_to, .int h0_from, .int h0_kind, .int h0_number, .int h0_sign, .int h0_fault, .int h0_place, .long h0_word, .int h0_told, .ref h0_now, .ref h0_read, .ref h0_kept, .ref h0_snaps, .ref h0_aside, .ref h0_name, .ref h0_readName, .ref h0_keptName, .ref h0_isKept, .ref h0_onces, .int y51_1, .int h0_lowest, .int h0_highest, .int h0_agreed, .int h0_jurors, .int h0_panelled, .ref h0_inSets, .int h0_surely, .int h0_asked, .ref h0_frees, .int h0_struck, .int h0_beating, .ref h0_text, .int h0_texts, .int h0_seed, .ref h0_line, .ref h0_written, .int h0_lineMany, .int h0_hasWritten, .ref h0_node, .int h0_nodes, .int h0_onesMany, .int h0_within, .int h0_top])), (aI ca h0_snaps 360 g_513), (aI ca h0_now 376 F_h0_now)] := hD
        obtain ⟨x_514, ex_514⟩ : ∃ y : Int32, y = y51_0 + 1 := ⟨_, rfl⟩
        have h_515 : rg 1 45 x_514 := by rw [ex_514]; exact rg_add h_502 (⟨by decide, by decide⟩ : rg 1 1 (1 : Int32)) (by decide) (by decide) (by decide) (by decide)
        have l_516 : lq x_514.toInt (y51_0.toInt + 1) := lqm (by rw [ex_514]; have q := tadd h_502 (⟨by decide, by decide⟩ : rg 1 1 (1 : Int32)) (by decide) (by decide); have r1 := lqe (lqm (by decide) : lq (1 : Int32).toInt 1); omega)
        refine lv_iinc (v := x_514) (lv' := [(1, .int x_514), (0, .ref h0)]) hx hb dX12_snap_80 hl (k := 1) rfl (by rw [ex_514]; rfl) (by decide) rfl (fun ls hl => ?_)
        refine lv_goto (tgt := 51) hx hb dX12_snap_83 (by decide) ?_
        have u_517 : snok g_513 := snok_cp (m := y51_1) (k := y51_0) u51_snok eg_513 ex_512 (by have q0 : (0 : Int32).toInt = 0 := (by decide); have q5 := lqe l_508; exact lqm (by omega)) (by have q0 : (0 : Int32).toInt = 0 := (by decide); have q5 := lqe l_511; exact lqm (by omega)) hy51_1 h_502 (sg_w (a' := 90) (b' := 91) (lo' := 0) (hi' := 1023) s_h0_now_5 (by decide) (by decide) (by decide) (by decide)) (sg_w (a' := 124) (b' := 129) (lo' := 0) (hi' := 1023) s_h0_now_6 (by decide) (by decide) (by decide) (by decide))
        exact ih x_514 y51_1 g_513 trivial (rgw (lo := 0) (hi := 45) h_515 (by decide) (by decide)) hy51_1 (rlm (by have q0 := rle py51_1_h0_snapMany; have q1 := rle qy51_1_h0_snapMany; omega)) (rlm (by have q0 := rle py51_1_h0_snapMany; have q1 := rle qy51_1_h0_snapMany; omega)) u_517 (by have q0 := lqe l_516; omega) H locs ls (oPsub hP [0, 1, 2] rfl) (hD.sub [0, 1, 2] (by decide) rfl) hS (lv_sub hl [1, 0] rfl)
  have J49_518 : ∀ (y49_0 : Int32) (f49_1 : Nat → Int32), rg 0 7 y49_0 → rl (-1) h0_snapMany y49_0 → rl 0 y49_0 h0_snapMany → eqs 315 360 f49_1 F_h0_snaps → snok f49_1 → ∀ (H : Heap) (locs : List Loc) (ls : Array Slot), va_P D vwCl [(h0, .inr (11, [.int h0_thrown, .ref h0_tape, .int h0_taped, .int h0_size, .int h0_limit, .int h0_to, .int h0_from, .int h0_kind, .int h0_number, .int h0_sign, .int h0_fault, .int h0_place, .long h0_word, .int h0_told, .ref h0_now, .ref h0_read, .ref h0_kept, .ref h0_snaps, .ref h0_aside, .ref h0_name, .ref h0_readName, .ref h0_keptName, .ref h0_isKept, .ref h0_onces, .int y49_0, .int h0_lowest, .int h0_highest, .int h0_agreed, .int h0_jurors, .int h0_panelled, .ref h0_inSets, .int h0_surely, .int h0_asked, .ref h0_frees, .int h0_struck, .int h0_beating, .ref h0_text, .int h0_texts, .int h0_seed, .ref h0_line, .ref h0_written, .int h0_lineMany, .int h0_hasWritten, .ref h0_node, .int h0_nodes, .int h0_onesMany, .int h0_within, .int h0_top])), (aI ca h0_snaps 360 f49_1), (aI ca h0_now 376 F_h0_now)] H → va_D A [(h0, .inr (11, [.int h0_thrown, .ref h0_tape, .int h0_taped, .int h0_size, .int h0_limit, .int h0_to, .int h0_from, .int h0_kind, .int h0_number, .int h0_sign, .int h0_fault, .int h0_place, .long h0_word, .int h0_told, .ref h0_now, .ref h0_read, .ref h0_kept, .ref h0_snaps, .ref h0_aside, .ref h0_name, .ref h0_readName, .ref h0_keptName, .ref h0_isKept, .ref h0_onces, .int y49_0, .int h0_lowest, .int h0_highest, .int h0_agreed, .int h0_jurors, .int h0_panelled, .ref h0_inSets, .int h0_surely, .int h0_asked, .ref h0_frees, .int h0_struck, .int h0_beating, .ref h0_text, .int h0_texts, .int h0_seed, .ref h0_line, .ref h0_written, .int h0_lineMany, .int h0_hasWritten, .ref h0_node, .int h0_nodes, .int h0_onesMany, .int h0_within, .int h0_top])), (aI ca h0_snaps 360 f49_1), (aI ca h0_now 376 F_h0_now)] → va_S A s.heap H locs → lv_has ls 2 [(0, .ref h0)] → W p l e ({ frames := 0, cells := 0, slots := 0, locals := 0 } : Room) s m ([.ref h0] : List Value).toArray below meth c H locs 0 0 (MQ below ((oQv D (fun (u : Int32 × (Nat → Int32)) => (rg 1 8 u.1) ∧ (rl 0 h0_snapMany u.1) ∧ (rl (-1) u.1 h0_snapMany) ∧ (snok u.2)) (fun (u : Int32 × (Nat → Int32)) => [(h0, .inr (11, [.int h0_thrown, .ref h0_tape, .int h0_taped, .int h0_size, .int h0_limit, .int h0_to, .int h0_from, .int h0_kind, .int h0_number, .int h0_sign, .int h0_fault, .int h0_place, .long h0_word, .int h0_told, .ref h0_now, .ref h0_read, .ref h0_kept, .ref h0_snaps, .ref h0_aside, .ref h0_name, .ref h0_readName, .ref h0_keptName, .ref h0_isKept, .ref h0_onces, .int u.1, .int h0_lowest, .int h0_highest, .int h0_agreed, .int h0_jurors, .int h0_panelled, .ref h0_inSets, .int h0_surely, .int h0_asked, .ref h0_frees, .int h0_struck, .int h0_beating, .ref h0_text, .int h0_texts, .int h0_seed, .ref h0_line, .ref h0_written, .int h0_lineMany, .int h0_hasWritten, .ref h0_node, .int h0_nodes, .int h0_onesMany, .int h0_within, .int h0_top])), (aI ca h0_snaps 360 u.2), (aI ca h0_now 376 F_h0_now)])) A) ([.ref h0] : List Value).toArray s 0 0 A) (F0 m 49 ls []) := by
    intro y49_0 f49_1 hy49_0 py49_0_h0_snapMany qy49_0_h0_snapMany e49_2 u49_snok H locs ls hP hD hS hl
    refine lv_iconst (v := 0) hx hb dX12_snap_49 (by decide) ?_
    refine lv_istore_n (lv' := [(1, .int 0), (0, .ref h0)]) hx hb dX12_snap_50 rfl hl (by decide) rfl (fun ls hl => ?_)
    exact J51_472 46 0 y49_0 f49_1 trivial (⟨by decide, by decide⟩ : rg 0 45 (0 : Int32)) hy49_0 (rlm (by have q0 := rle py49_0_h0_snapMany; have q1 := rle qy49_0_h0_snapMany; omega)) (rlm (by have q0 := rle py49_0_h0_snapMany; have q1 := rle qy49_0_h0_snapMany; omega)) u49_snok (by have q0 := (⟨by decide, by decide⟩ : rg 0 0 (0 : Int32)).1; omega) H locs ls (oPsub hP [0, 1, 2] rfl) (hD.sub [0, 1, 2] (by decide) rfl) hS (lv_sub hl [1, 0] rfl)
  have J11_519 : ∀ (n : Nat) (y11_0 : Int32) (f11_1 : Nat → Int32), True → rg 0 315 y11_0 → eqs 315 360 f11_1 F_h0_snaps → snok f11_1 → rg 8 8 h0_snapMany → 315 < y11_0.toInt + (n : Int) → ∀ (H : Heap) (locs : List Loc) (ls : Array Slot), va_P D vwCl [(h0, .inr (11, [.int h0_thrown, .ref h0_tape, .int h0_taped, .int h0_size, .int h0_limit, .int h0_to, .int h0_from, .int h0_kind, .int h0_number, .int h0_sign, .int h0_fault, .int h0_place, .long h0_word, .int h0_told, .ref h0_now, .ref h0_read, .ref h0_kept, .ref h0_snaps, .ref h0_aside, .ref h0_name, .ref h0_readName, .ref h0_keptName, .ref h0_isKept, .ref h0_onces, .int h0_snapMany, .int h0_lowest, .int h0_highest, .int h0_agreed, .int h0_jurors, .int h0_panelled, .ref h0_inSets, .int h0_surely, .int h0_asked, .ref h0_frees, .int h0_struck, .int h0_beating, .ref h0_text, .int h0_texts, .int h0_seed, .ref h0_line, .ref h0_written, .int h0_lineMany, .int h0_hasWritten, .ref h0_node, .int h0_nodes, .int h0_onesMany, .int h0_within, .int h0_top])), (aI ca h0_snaps 360 f11_1), (aI ca h0_now 376 F_h0_now)] H → va_D A [(h0, .inr (11, [.int h0_thrown, .ref h0_tape, .int h0_taped, .int h0_size, .int h0_limit, .int h0_to, .int h0_from, .int h0_kind, .int h0_number, .int h0_sign, .int h0_fault, .int h0_place, .long h0_word, .int h0_told, .ref h0_now, .ref h0_read, .ref h0_kept, .ref h0_snaps, .ref h0_aside, .ref h0_name, .ref h0_readName, .ref h0_keptName, .ref h0_isKept, .ref h0_onces, .int h0_snapMany, .int h0_lowest, .int h0_highest, .int h0_agreed, .int h0_jurors, .int h0_panelled, .ref h0_inSets, .int h0_surely, .int h0_asked, .ref h0_frees, .int h0_struck, .int h0_beating, .ref h0_text, .int h0_texts, .int h0_seed, .ref h0_line, .ref h0_written, .int h0_lineMany, .int h0_hasWritten, .ref h0_node, .int h0_nodes, .int h0_onesMany, .int h0_within, .int h0_top])), (aI ca h0_snaps 360 f11_1), (aI ca h0_now 376 F_h0_now)] → va_S A s.heap H locs → lv_has ls 2 [(0, .ref h0), (1, .int y11_0)] → W p l e ({ frames := 0, cells := 0, slots := 0, locals := 0 } : Room) s m ([.ref h0] : List Value).toArray below meth c H locs 0 0 (MQ below ((oQv D (fun (u : Int32 × (Nat → Int32)) => (rg 1 8 u.1) ∧ (rl 0 h0_snapMany u.1) ∧ (rl (-1) u.1 h0_snapMany) ∧ (snok u.2)) (fun (u : Int32 × (Nat → Int32)) => [(h0, .inr (11, [.int h0_thrown, .ref h0_tape, .int h0_taped, .int h0_size, .int h0_limit, .int h0_to, .int h0_from, .int h0_kind, .int h0_number, .int h0_sign, .int h0_fault, .int h0_place, .long h0_word, .int h0_told, .ref h0_now, .ref h0_read, .ref h0_kept, .ref h0_snaps, .ref h0_aside, .ref h0_name, .ref h0_readName, .ref h0_keptName, .ref h0_isKept, .ref h0_onces, .int u.1, .int h0_lowest, .int h0_highest, .int h0_agreed, .int h0_jurors, .int h0_panelled, .ref h0_inSets, .int h0_surely, .int h0_asked, .ref h0_frees, .int h0_struck, .int h0_beating, .ref h0_text, .int h0_texts, .int h0_seed, .ref h0_line, .ref h0_written, .int h0_lineMany, .int h0_hasWritten, .ref h0_node, .int h0_nodes, .int h0_onesMany, .int h0_within, .int h0_top])), (aI ca h0_snaps 360 u.2), (aI ca h0_now 376 F_h0_now)])) A) ([.ref h0] : List Value).toArray s 0 0 A) (F0 m 11 ls []) := by
    intro n
    induction n with
    | zero => intro y11_0 f11_1 _ hy11_0 e11_2 u11_snok t11_h0_snapMany hn; exact absurd hn (by have q9 := hy11_0.2; omega)
    | succ n ih =>
      intro y11_0 f11_1 _ hy11_0 e11_2 u11_snok t11_h0_snapMany hn H locs ls hP hD hS hl
      refine lv_iload_n hx hb dX12_snap_11 rfl (lv_at hl 1 rfl) ?_
      refine lv_sipush (v := 315) hx hb dX12_snap_12 (by decide) ?_
      refine lv_icmp_ge (tgt := 39) hx hb dX12_snap_15 (by decide) (fun c_537 => ?_) (fun c_537 => ?_)
      · skip
        have o_538 : rl 0 315 y11_0 := rl_le c_537
        have h_539 : rg 315 315 y11_0 := rl_y o_538 (⟨by decide, by decide⟩ : rg 315 315 (315 : Int32)) hy11_0 (by decide) (by decide)
        refine lv_aload_n hx hb dX12_snap_39 rfl (lv_at hl 0 rfl) ?_
        refine lv_dup hx hb dX12_snap_40 rfl ?_
        refine va_get (D := D) (ci := 11) (v := .int h0_snapMany) (C := RX12) (T := TX12) (N := 48) hx hb hts k2 hown hK.1 hP 0 rfl rfl 24 (by decide) k1 (fun _ h9 => h9) rfl dX12_snap_41 ?_
        refine lv_iconst (v := 1) hx hb dX12_snap_44 (by decide) ?_
        refine lv_isub hx hb dX12_snap_45 ?_
        refine lv_topi (fun x_540 ex_540 => ?_)
        have h_541 : rg 7 7 x_540 := by rw [ex_540]; exact rg_sub t11_h0_snapMany (⟨by decide, by decide⟩ : rg 1 1 (1 : Int32)) (by decide) (by decide) (by decide) (by decide)
        have l_542 : lq x_540.toInt (h0_snapMany.toInt + (-1)) := lqm (by rw [ex_540]; have q := tsub t11_h0_snapMany (⟨by decide, by decide⟩ : rg 1 1 (1 : Int32)) (by decide) (by decide); have r1 := lqe (lqm (by decide) : lq (1 : Int32).toInt 1); omega)
        refine va_put (D := D) (ci := 11) (v := .int x_540) (ty := .int) (C := RX12) (T := TX12) (N := 48) hx hb hts k2 tyX12 tyX12_ok nmX12 hown hK.1 hP hD hS 0 rfl rfl 24 (by decide) k1 (fun _ h9 => h9) rfl (by decide +kernel) rfl rfl (Nat.le_of_ble_eq_true rfl) dX12_snap_46 (fun H locs hP hD hS => ?_)
        have hP : va_P D vwCl [(h0, .inr (11, [.int h0_thrown, .ref h0_tape, .int h0_taped, .int h0_size, .int h0_limit, .int h0_to, .int h0_from, .int h0_kind, .int h0_number, .int h0_sign, .int h0_fault, .int h0_place, .long h0_word, .int h0_told, .ref h0_now, .ref h0_read, .ref h0_kept, .ref h0_snaps, .ref h0_aside, .ref h0_name, .ref h0_readName, .ref h0_keptName, .ref h0_isKept, .ref h0_onces, .int x_540, .int h0_lowest, .int h0_highest, .int h0_agreed, .int h0_jurors, .int h0_panelled, .ref h0_inSets, .int h0_surely, .int h0_asked, .ref h0_frees, .int h0_struck, .int h0_beating, .ref h0_text, .int h0_texts, .int h0_seed, .ref h0_line, .ref h0_written, .int h0_lineMany, .int h0_hasWritten, .ref h0_node, .int h0_nodes, .int h0_onesMany, .int h0_within, .int h0_top])), (aI ca h0_snaps 360 f11_1), (aI ca h0_now 376 F_h0_now)] H := hP
        have hD : va_D A [(h0, .inr (11, [.int h0_thrown, .ref h0_tape, .int h0_taped, .int h0_size, .int h0_limit, .int h0_to, .int h0_from, .int h0_kind, .int h0_number, .int h0_sign, .int h0_fault, .int h0_place, .long h0_word, .int h0_told, .ref h0_now, .ref h0_read, .ref h0_kept, .ref h0_snaps, .ref h0_aside, .ref h0_name, .ref h0_readName, .ref h0_keptName, .ref h0_isKept, .ref h0_onces, .int x_540, .int h0_lowest, .int h0_highest, .int h0_agreed, .int h0_jurors, .int h0_panelled, .ref h0_inSets, .int h0_surely, .int h0_asked, .ref h0_frees, .int h0_struck, .int h0_beating, .ref h0_text, .int h0_texts, .int h0_seed, .ref h0_line, .ref h0_written, .int h0_lineMany, .int h0_hasWritten, .ref h0_node, .int h0_nodes, .int h0_onesMany, .int h0_within, .int h0_top])), (aI ca h0_snaps 360 f11_1), (aI ca h0_now 376 F_h0_now)] := hD
        exact J49_518 x_540 f11_1 (rgw (lo := 0) (hi := 7) h_541 (by decide) (by decide)) (rlm (by have q0 := lqe l_542; omega)) (rlm (by have q0 := lqe l_542; omega)) e11_2 u11_snok H locs ls (oPsub hP [0, 1, 2] rfl) (hD.sub [0, 1, 2] (by decide) rfl) hS (lv_sub hl [0] rfl)
      · skip
        have o_543 : rl 1 y11_0 315 := rl_nle c_537
        have h_544 : rg 0 314 y11_0 := rl_x o_543 hy11_0 (⟨by decide, by decide⟩ : rg 315 315 (315 : Int32)) (by decide) (by decide)
        refine lv_aload_n hx hb dX12_snap_18 rfl (lv_at hl 0 rfl) ?_
        refine va_get (D := D) (ci := 11) (v := .ref h0_snaps) (C := RX12) (T := TX12) (N := 48) hx hb hts k2 hown hK.1 hP 0 rfl rfl 17 (by decide) k3 (fun _ h9 => h9) rfl dX12_snap_19 ?_
        refine lv_iload_n hx hb dX12_snap_22 rfl (lv_at hl 1 rfl) ?_
        refine lv_aload_n hx hb dX12_snap_23 rfl (lv_at hl 0 rfl) ?_
        refine va_get (D := D) (ci := 11) (v := .ref h0_snaps) (C := RX12) (T := TX12) (N := 48) hx hb hts k2 hown hK.1 hP 0 rfl rfl 17 (by decide) k3 (fun _ h9 => h9) rfl dX12_snap_24 ?_
        refine lv_iload_n hx hb dX12_snap_27 rfl (lv_at hl 1 rfl) ?_
        refine lv_bipush (v := 45) hx hb dX12_snap_28 (by decide) ?_
        refine lv_iadd hx hb dX12_snap_30 ?_
        refine lv_topi (fun x_545 ex_545 => ?_)
        have h_546 : rg 45 359 x_545 := by rw [ex_545]; exact rg_add h_544 (⟨by decide, by decide⟩ : rg 45 45 (45 : Int32)) (by decide) (by decide) (by decide) (by decide)
        have l_547 : lq x_545.toInt (y11_0.toInt + 45) := lqm (by rw [ex_545]; have q := tadd h_544 (⟨by decide, by decide⟩ : rg 45 45 (45 : Int32)) (by decide) (by decide); have r1 := lqe (lqm (by decide) : lq (45 : Int32).toInt 45); omega)
        refine va_iald hx hb hK.1 hP 1 0 rfl rfl (rg_in h_546 (by decide) (by decide)) dX12_snap_31 ?_
        refine lv_topi (fun x_548 ex_548 => ?_)
        refine va_iast hx hb hK.1 hP hD hS 1 0 rfl rfl (rg_in h_544 (by decide) (by decide)) dX12_snap_32 (fun H locs hP hD hS => ?_)
        obtain ⟨g_549, eg_549⟩ : ∃ y : Nat → Int32, y = upd f11_1 (y11_0 : Int32).toNatClampNeg (x_548 : Int32) := ⟨_, rfl⟩
        rw [← eg_549] at hP hD
        have q_550 : eqs 315 360 g_549 F_h0_snaps := eqs_out e11_2 eg_549 h_544 (by decide) (by decide) (by decide) (by decide)
        have hP : va_P D vwCl [(h0, .inr (11, [.int h0_thrown, .ref h0_tape, .int h0_taped, .int h0_size, .int h0_limit, .int h0_to, .int h0_from, .int h0_kind, .int h0_number, .int h0_sign, .int h0_fault, .int h0_place, .long h0_word, .int h0_told, .ref h0_now, .ref h0_read, .ref h0_kept, .ref h0_snaps, .ref h0_aside, .ref h0_name, .ref h0_readName, .ref h0_keptName, .ref h0_isKept, .ref h0_onces, .int h0_snapMany, .int h0_lowest, .int h0_highest, .int h0_agreed, .int h0_jurors, .int h0_panelled, .ref h0_inSets, .int h0_surely, .int h0_asked, .ref h0_frees, .int h0_struck, .int h0_beating, .ref h0_text, .int h0_texts, .int h0_seed, .ref h0_line, .ref h0_written, .int h0_lineMany, .int h0_hasWritten, .ref h0_node, .int h0_nodes, .int h0_onesMany, .int h0_within, .int h0_top])), (aI ca h0_snaps 360 g_549), (aI ca h0_now 376 F_h0_now)] H := hP
        have hD : va_D A [(h0, .inr (11, [.int h0_thrown, .ref h0_tape, .int h0_taped, .int h0_size, .int h0_limit, .int h0_to, .int h0_from, .int h0_kind, .int h0_number, .int h0_sign, .int h0_fault, .int h0_place, .long h0_word, .int h0_told, .ref h0_now, .ref h0_read, .ref h0_kept, .ref h0_snaps, .ref h0_aside, .ref h0_name, .ref h0_readName, .ref h0_keptName, .ref h0_isKept, .ref h0_onces, .int h0_snapMany, .int h0_lowest, .int h0_highest, .int h0_agreed, .int h0_jurors, .int h0_panelled, .ref h0_inSets, .int h0_surely, .int h0_asked, .ref h0_frees, .int h0_struck, .int h0_beating, .ref h0_text, .int h0_texts, .int h0_seed, .ref h0_line, .ref h0_written, .int h0_lineMany, .int h0_hasWritten, .ref h0_node, .int h0_nodes, .int h0_onesMany, .int h0_within, .int h0_top])), (aI ca h0_snaps 360 g_549), (aI ca h0_now 376 F_h0_now)] := hD
        obtain ⟨x_551, ex_551⟩ : ∃ y : Int32, y = y11_0 + 1 := ⟨_, rfl⟩
        have h_552 : rg 1 315 x_551 := by rw [ex_551]; exact rg_add h_544 (⟨by decide, by decide⟩ : rg 1 1 (1 : Int32)) (by decide) (by decide) (by decide) (by decide)
        have l_553 : lq x_551.toInt (y11_0.toInt + 1) := lqm (by rw [ex_551]; have q := tadd h_544 (⟨by decide, by decide⟩ : rg 1 1 (1 : Int32)) (by decide) (by decide); have r1 := lqe (lqm (by decide) : lq (1 : Int32).toInt 1); omega)
        refine lv_iinc (v := x_551) (lv' := [(1, .int x_551), (0, .ref h0)]) hx hb dX12_snap_33 hl (k := 1) rfl (by rw [ex_551]; rfl) (by decide) rfl (fun ls hl => ?_)
        refine lv_goto (tgt := 11) hx hb dX12_snap_36 (by decide) ?_
        have u_554 : snok g_549 := snok_sh u11_snok eg_549 h_544 (by decide) (by decide) ex_548 (by have q0 : (0 : Int32).toInt = 0 := (by decide); have q5 := lqe l_547; exact lqm (by omega))
        exact ih x_551 g_549 trivial (rgw (lo := 0) (hi := 315) h_552 (by decide) (by decide)) q_550 u_554 t11_h0_snapMany (by have q0 := lqe l_553; omega) H locs ls (oPsub hP [0, 1, 2] rfl) (hD.sub [0, 1, 2] (by decide) rfl) hS (lv_sub hl [1, 0] rfl)
  refine lv_aload_n hx hb dX12_snap_0 rfl (lv_at hl 0 rfl) ?_
  refine va_get (D := D) (ci := 11) (v := .int h0_snapMany) (C := RX12) (T := TX12) (N := 48) hx hb hts k2 hown hK.1 hP 0 rfl rfl 24 (by decide) k1 (fun _ h9 => h9) rfl dX12_snap_1 ?_
  refine lv_bipush (v := 8) hx hb dX12_snap_4 (by decide) ?_
  refine lv_icmp_ne (tgt := 49) hx hb dX12_snap_6 (by decide) (fun c_555 => ?_) (fun c_555 => ?_)
  · skip
    have h_556 : rg 0 7 h0_snapMany := cl_nhi c_555 i_h0_snapMany (show (8 : Int32).toInt = 8 by decide) (by decide) (by decide)
    exact J49_518 h0_snapMany F_h0_snaps h_556 (rlm (by omega)) (rlm (by omega)) (eqs_w (a' := 315) (b' := 360) (eqs_rf (a := 0) (b := 360) F_h0_snaps) (by decide) (by decide)) cu_snok H locs ls (oPsub hP [0, 1, 2] rfl) (hD.sub [0, 1, 2] (by decide) rfl) hS (lv_sub hl [0] rfl)
  · skip
    have o_557 : rl 0 h0_snapMany 8 := rl_eq c_555
    have o_558 : rl 0 8 h0_snapMany := rl_eq c_555.symm
    have h_559 : rg 8 8 h0_snapMany := rl_y o_558 (⟨by decide, by decide⟩ : rg 8 8 (8 : Int32)) i_h0_snapMany (by decide) (by decide)
    refine lv_iconst (v := 0) hx hb dX12_snap_9 (by decide) ?_
    refine lv_istore_n (lv' := [(1, .int 0), (0, .ref h0)]) hx hb dX12_snap_10 rfl hl (by decide) rfl (fun ls hl => ?_)
    exact J11_519 316 0 F_h0_snaps trivial (⟨by decide, by decide⟩ : rg 0 315 (0 : Int32)) (eqs_w (a' := 315) (b' := 360) (eqs_rf (a := 0) (b := 360) F_h0_snaps) (by decide) (by decide)) cu_snok h_559 (by have q0 := (⟨by decide, by decide⟩ : rg 0 0 (0 : Int32)).1; omega) H locs ls (oPsub hP [0, 1, 2] rfl) (hD.sub [0, 1, 2] (by decide) rfl) hS (lv_sub hl [1, 0] rfl)
theorem dX12_layRings_0 : decode cX12_layRings 0 = .ok (.aload_n 0, 1) := by decide +kernel
theorem dX12_layRings_1 : decode cX12_layRings 1 = .ok (.sipush 1000, 3) := by decide +kernel
theorem dX12_layRings_4 : decode cX12_layRings 4 = .ok (.putfield 234, 3) := by decide +kernel
theorem dX12_layRings_7 : decode cX12_layRings 7 = .ok (.aload_n 0, 1) := by decide +kernel
theorem dX12_layRings_8 : decode cX12_layRings 8 = .ok (.iconst (-1), 1) := by decide +kernel
theorem dX12_layRings_9 : decode cX12_layRings 9 = .ok (.putfield 237, 3) := by decide +kernel
theorem dX12_layRings_12 : decode cX12_layRings 12 = .ok (.iconst 0, 1) := by decide +kernel
theorem dX12_layRings_13 : decode cX12_layRings 13 = .ok (.istore 4, 2) := by decide +kernel
theorem dX12_layRings_15 : decode cX12_layRings 15 = .ok (.iload 4, 2) := by decide +kernel
theorem dX12_layRings_17 : decode cX12_layRings 17 = .ok (.bipush 10, 2) := by decide +kernel
theorem dX12_layRings_19 : decode cX12_layRings 19 = .ok (.if_icmp .ge 83, 3) := by decide +kernel
theorem dX12_layRings_22 : decode cX12_layRings 22 = .ok (.iload_n 1, 1) := by decide +kernel
theorem dX12_layRings_23 : decode cX12_layRings 23 = .ok (.iload 4, 2) := by decide +kernel
theorem dX12_layRings_25 : decode cX12_layRings 25 = .ok (.invokestatic 240, 3) := by decide +kernel
theorem dX12_layRings_28 : decode cX12_layRings 28 = .ok (.ifCond .ne 6, 3) := by decide +kernel
theorem dX12_layRings_31 : decode cX12_layRings 31 = .ok (.goto 65, 3) := by decide +kernel
theorem dX12_layRings_34 : decode cX12_layRings 34 = .ok (.aload_n 0, 1) := by decide +kernel
theorem dX12_layRings_35 : decode cX12_layRings 35 = .ok (.iload 4, 2) := by decide +kernel
theorem dX12_layRings_37 : decode cX12_layRings 37 = .ok (.iload_n 2, 1) := by decide +kernel
theorem dX12_layRings_38 : decode cX12_layRings 38 = .ok (.iload_n 3, 1) := by decide +kernel
theorem dX12_layRings_39 : decode cX12_layRings 39 = .ok (.iload 4, 2) := by decide +kernel
theorem dX12_layRings_41 : decode cX12_layRings 41 = .ok (.invokestatic 240, 3) := by decide +kernel
theorem dX12_layRings_44 : decode cX12_layRings 44 = .ok (.ifCond .eq 7, 3) := by decide +kernel
theorem dX12_layRings_47 : decode cX12_layRings 47 = .ok (.iconst 0, 1) := by decide +kernel
theorem dX12_layRings_48 : decode cX12_layRings 48 = .ok (.goto 13, 3) := by decide +kernel
theorem dX12_layRings_51 : decode cX12_layRings 51 = .ok (.aload_n 0, 1) := by decide +kernel
theorem dX12_layRings_52 : decode cX12_layRings 52 = .ok (.getfield 98, 3) := by decide +kernel
theorem dX12_layRings_55 : decode cX12_layRings 55 = .ok (.bipush 94, 2) := by decide +kernel
theorem dX12_layRings_57 : decode cX12_layRings 57 = .ok (.iload 4, 2) := by decide +kernel
theorem dX12_layRings_59 : decode cX12_layRings 59 = .ok (.iadd, 1) := by decide +kernel
theorem dX12_layRings_60 : decode cX12_layRings 60 = .ok (.iaload, 1) := by decide +kernel
theorem dX12_layRings_61 : decode cX12_layRings 61 = .ok (.invokevirtual 230, 3) := by decide +kernel
theorem dX12_layRings_64 : decode cX12_layRings 64 = .ok (.istore 5, 2) := by decide +kernel
theorem dX12_layRings_66 : decode cX12_layRings 66 = .ok (.iload 5, 2) := by decide +kernel
theorem dX12_layRings_68 : decode cX12_layRings 68 = .ok (.aload_n 0, 1) := by decide +kernel
theorem dX12_layRings_69 : decode cX12_layRings 69 = .ok (.getfield 234, 3) := by decide +kernel
theorem dX12_layRings_72 : decode cX12_layRings 72 = .ok (.if_icmp .ge 9, 3) := by decide +kernel
theorem dX12_layRings_75 : decode cX12_layRings 75 = .ok (.aload_n 0, 1) := by decide +kernel
theorem dX12_layRings_76 : decode cX12_layRings 76 = .ok (.iload 5, 2) := by decide +kernel
theorem dX12_layRings_78 : decode cX12_layRings 78 = .ok (.putfield 234, 3) := by decide +kernel
theorem dX12_layRings_81 : decode cX12_layRings 81 = .ok (.iload 5, 2) := by decide +kernel
theorem dX12_layRings_83 : decode cX12_layRings 83 = .ok (.aload_n 0, 1) := by decide +kernel
theorem dX12_layRings_84 : decode cX12_layRings 84 = .ok (.getfield 237, 3) := by decide +kernel
theorem dX12_layRings_87 : decode cX12_layRings 87 = .ok (.if_icmp .le 9, 3) := by decide +kernel
theorem dX12_layRings_90 : decode cX12_layRings 90 = .ok (.aload_n 0, 1) := by decide +kernel
theorem dX12_layRings_91 : decode cX12_layRings 91 = .ok (.iload 5, 2) := by decide +kernel
theorem dX12_layRings_93 : decode cX12_layRings 93 = .ok (.putfield 237, 3) := by decide +kernel
theorem dX12_layRings_96 : decode cX12_layRings 96 = .ok (.iinc 4 1, 3) := by decide +kernel
theorem dX12_layRings_99 : decode cX12_layRings 99 = .ok (.goto (-84), 3) := by decide +kernel
theorem dX12_layRings_102 : decode cX12_layRings 102 = .ok (.iload_n 1, 1) := by decide +kernel
theorem dX12_layRings_103 : decode cX12_layRings 103 = .ok (.ifCond .eq 7, 3) := by decide +kernel
theorem dX12_layRings_106 : decode cX12_layRings 106 = .ok (.iconst 1, 1) := by decide +kernel
theorem dX12_layRings_107 : decode cX12_layRings 107 = .ok (.goto 4, 3) := by decide +kernel
theorem dX12_layRings_110 : decode cX12_layRings 110 = .ok (.iconst 0, 1) := by decide +kernel
theorem dX12_layRings_111 : decode cX12_layRings 111 = .ok (.ireturn, 1) := by decide +kernel
set_option maxRecDepth 20000 in
theorem ggX12_layRings_X12_has : GoodIn wsX12_layRings wsX12_has := goodIn_r _ [7] rfl (by decide +kernel)
set_option maxRecDepth 20000 in
theorem gX12_layRings_X12_has : GoodIn wsX12_layRings (va_wsS RX12 240 yX12_has wsX12_has) := goodIn_app (goodIn_of _ (by decide +kernel)) ggX12_layRings_X12_has
set_option maxRecDepth 20000 in
theorem ggX12_layRings_X12_ringBy : GoodIn wsX12_layRings wsX12_ringBy := goodIn_r _ [11, 3, 12, 13, 14, 15, 16, 17, 18, 19, 20, 21, 22, 23, 24, 25, 26, 27, 28, 29, 30, 31, 32, 33, 34, 35, 36, 37, 38, 39, 40, 41, 42, 43, 44, 45, 46, 47, 48, 49, 50, 51, 52, 53, 54, 55, 56, 57, 58, 59] rfl (by decide +kernel)
set_option maxRecDepth 20000 in
theorem gX12_layRings_X12_ringBy : GoodIn wsX12_layRings (wsV RX12 230 RX12 yX12_ringBy wsX12_ringBy) := goodIn_app (goodIn_of _ (by decide +kernel)) ggX12_layRings_X12_ringBy
set_option maxHeartbeats 4000000 in
set_option maxRecDepth 100000 in
theorem s_X12_layRings (l : Launch) (D : va_G) (ca : Nat → ClassId) (sz : Nat) (h0 : Nat) (a1 : Int32) (a2 : Int32) (a3 : Int32) (h0_thrown : Int32) (h0_tape : Nat) (h0_taped : Int32) (h0_size : Int32) (h0_limit : Int32) (h0_to : Int32) (h0_from : Int32) (h0_kind : Int32) (h0_number : Int32) (h0_sign : Int32) (h0_fault : Int32) (h0_place : Int32) (h0_word : Int64) (h0_told : Int32) (h0_now : Nat) (h0_read : Nat) (h0_kept : Nat) (h0_snaps : Nat) (h0_aside : Nat) (h0_name : Nat) (h0_readName : Nat) (h0_keptName : Nat) (h0_isKept : Nat) (h0_onces : Nat) (h0_snapMany : Int32) (h0_lowest : Int32) (h0_highest : Int32) (h0_agreed : Int32) (h0_jurors : Int32) (h0_panelled : Int32) (h0_inSets : Nat) (h0_surely : Int32) (h0_asked : Int32) (h0_frees : Nat) (h0_struck : Int32) (h0_beating : Int32) (h0_text : Nat) (h0_texts : Int32) (h0_seed : Int32) (h0_line : Nat) (h0_written : Nat) (h0_lineMany : Int32) (h0_hasWritten : Int32) (h0_node : Nat) (h0_nodes : Int32) (h0_onesMany : Int32) (h0_within : Int32) (h0_top : Int32) (F_h0_now : Nat → Int32) (i_a2 : rg 0 3 a2) (i_h0_taped : rg 0 940 h0_taped) (i_h0_size : rg 0 940 h0_size) (i_h0_to : rg 0 940 h0_to) (i_h0_kind : rg 0 4 h0_kind) (i_h0_snapMany : rg 0 8 h0_snapMany) (i_h0_texts : rg 0 64 h0_texts) (i_h0_lineMany : rg 0 40 h0_lineMany) (i_h0_hasWritten : rg 0 1 h0_hasWritten) (i_h0_nodes : rg 0 60 h0_nodes) (i_h0_onesMany : rg 0 20 h0_onesMany) (s_h0_now_0 : sg 0 1 0 10 F_h0_now) (s_h0_now_1 : sg 1 2 0 4 F_h0_now) (s_h0_now_2 : sg 2 3 0 5 F_h0_now) (s_h0_now_3 : sg 35 36 0 1023 F_h0_now) (s_h0_now_4 : sg 44 49 0 3 F_h0_now) (s_h0_now_5 : sg 90 91 0 1023 F_h0_now) (s_h0_now_6 : sg 124 129 0 1023 F_h0_now) (s_h0_now_7 : sg 135 136 0 39 F_h0_now) : oMet l yX12_layRings wsX12_layRings ({ frames := 1, cells := 0, slots := 0, locals := 25 } : Room) [.ref h0, .int a1, .int a2, .int a3] D ca sz [(h0, .inr (11, [.int h0_thrown, .ref h0_tape, .int h0_taped, .int h0_size, .int h0_limit, .int h0_to, .int h0_from, .int h0_kind, .int h0_number, .int h0_sign, .int h0_fault, .int h0_place, .long h0_word, .int h0_told, .ref h0_now, .ref h0_read, .ref h0_kept, .ref h0_snaps, .ref h0_aside, .ref h0_name, .ref h0_readName, .ref h0_keptName, .ref h0_isKept, .ref h0_onces, .int h0_snapMany, .int h0_lowest, .int h0_highest, .int h0_agreed, .int h0_jurors, .int h0_panelled, .ref h0_inSets, .int h0_surely, .int h0_asked, .ref h0_frees, .int h0_struck, .int h0_beating, .ref h0_text, .int h0_texts, .int h0_seed, .ref h0_line, .ref h0_written, .int h0_lineMany, .int h0_hasWritten, .ref h0_node, .int h0_nodes, .int h0_onesMany, .int h0_within, .int h0_top])), (aI ca h0_now 376 F_h0_now)] (oQi D (fun (r : Int32) (u : Int32 × Int32) => ((r = 0) ∧ (rg 0 1000 u.1) ∧ (rg (-1) 2147483647 u.2) ∧ (rg 0 0 a1)) ∨ ((r = 1) ∧ (rg 0 1000 u.1) ∧ (rg (-1) 2147483647 u.2))) (fun (u : Int32 × Int32) => [(h0, .inr (11, [.int h0_thrown, .ref h0_tape, .int h0_taped, .int h0_size, .int h0_limit, .int h0_to, .int h0_from, .int h0_kind, .int h0_number, .int h0_sign, .int h0_fault, .int h0_place, .long h0_word, .int h0_told, .ref h0_now, .ref h0_read, .ref h0_kept, .ref h0_snaps, .ref h0_aside, .ref h0_name, .ref h0_readName, .ref h0_keptName, .ref h0_isKept, .ref h0_onces, .int h0_snapMany, .int u.1, .int u.2, .int h0_agreed, .int h0_jurors, .int h0_panelled, .ref h0_inSets, .int h0_surely, .int h0_asked, .ref h0_frees, .int h0_struck, .int h0_beating, .ref h0_text, .int h0_texts, .int h0_seed, .ref h0_line, .ref h0_written, .int h0_lineMany, .int h0_hasWritten, .ref h0_node, .int h0_nodes, .int h0_onesMany, .int h0_within, .int h0_top])), (aI ca h0_now 376 F_h0_now)])) 0 0 := by
  refine oM (cc := cX12_layRings) (maxL := 6) (ret := (some .boolean)) (by decide) rfl (Nat.le_of_ble_eq_true rfl) [(0, .ref h0), (1, .int a1), (2, .int a2), (3, .int a3)] rfl ?_
  intro p e s m below meth c A H locs ls hx hb hr hml hts hown hlocks hin hK hP hD hA hS hl
  have hown : s.vm.findClass RX12 = some m.cls := hown
  have k1 := hts (.fieldLink RX12 237 "LidCourtModel" "highest" "I") (by decide +kernel)
  have k2 : ∀ w ∈ wsX120, w ∈ wsX12_layRings := fun _ h => List.mem_cons_of_mem _ (List.mem_append_right _ h)
  have k3 := hts (.fieldLink RX12 234 "LidCourtModel" "lowest" "I") (by decide +kernel)
  have k4 := hts (.fieldLink RX12 98 "LidCourtModel" "now" "[I") (by decide +kernel)
  have J15_288 : ∀ (n : Nat) (y15_0 : Int32) (y15_1 : Int32) (y15_2 : Int32), True → rg 0 10 y15_0 → rg 0 1000 y15_1 → rg (-1) 2147483647 y15_2 → 10 < y15_0.toInt + (n : Int) → ∀ (H : Heap) (locs : List Loc) (ls : Array Slot), va_P D vwCl [(h0, .inr (11, [.int h0_thrown, .ref h0_tape, .int h0_taped, .int h0_size, .int h0_limit, .int h0_to, .int h0_from, .int h0_kind, .int h0_number, .int h0_sign, .int h0_fault, .int h0_place, .long h0_word, .int h0_told, .ref h0_now, .ref h0_read, .ref h0_kept, .ref h0_snaps, .ref h0_aside, .ref h0_name, .ref h0_readName, .ref h0_keptName, .ref h0_isKept, .ref h0_onces, .int h0_snapMany, .int y15_1, .int y15_2, .int h0_agreed, .int h0_jurors, .int h0_panelled, .ref h0_inSets, .int h0_surely, .int h0_asked, .ref h0_frees, .int h0_struck, .int h0_beating, .ref h0_text, .int h0_texts, .int h0_seed, .ref h0_line, .ref h0_written, .int h0_lineMany, .int h0_hasWritten, .ref h0_node, .int h0_nodes, .int h0_onesMany, .int h0_within, .int h0_top])), (aI ca h0_now 376 F_h0_now)] H → va_D A [(h0, .inr (11, [.int h0_thrown, .ref h0_tape, .int h0_taped, .int h0_size, .int h0_limit, .int h0_to, .int h0_from, .int h0_kind, .int h0_number, .int h0_sign, .int h0_fault, .int h0_place, .long h0_word, .int h0_told, .ref h0_now, .ref h0_read, .ref h0_kept, .ref h0_snaps, .ref h0_aside, .ref h0_name, .ref h0_readName, .ref h0_keptName, .ref h0_isKept, .ref h0_onces, .int h0_snapMany, .int y15_1, .int y15_2, .int h0_agreed, .int h0_jurors, .int h0_panelled, .ref h0_inSets, .int h0_surely, .int h0_asked, .ref h0_frees, .int h0_struck, .int h0_beating, .ref h0_text, .int h0_texts, .int h0_seed, .ref h0_line, .ref h0_written, .int h0_lineMany, .int h0_hasWritten, .ref h0_node, .int h0_nodes, .int h0_onesMany, .int h0_within, .int h0_top])), (aI ca h0_now 376 F_h0_now)] → va_S A s.heap H locs → lv_has ls 6 [(0, .ref h0), (1, .int a1), (2, .int a2), (3, .int a3), (4, .int y15_0)] → W p l e ({ frames := 1, cells := 0, slots := 0, locals := 25 } : Room) s m ([.ref h0, .int a1, .int a2, .int a3] : List Value).toArray below meth c H locs 0 0 (MQ below ((oQi D (fun (r : Int32) (u : Int32 × Int32) => ((r = 0) ∧ (rg 0 1000 u.1) ∧ (rg (-1) 2147483647 u.2) ∧ (rg 0 0 a1)) ∨ ((r = 1) ∧ (rg 0 1000 u.1) ∧ (rg (-1) 2147483647 u.2))) (fun (u : Int32 × Int32) => [(h0, .inr (11, [.int h0_thrown, .ref h0_tape, .int h0_taped, .int h0_size, .int h0_limit, .int h0_to, .int h0_from, .int h0_kind, .int h0_number, .int h0_sign, .int h0_fault, .int h0_place, .long h0_word, .int h0_told, .ref h0_now, .ref h0_read, .ref h0_kept, .ref h0_snaps, .ref h0_aside, .ref h0_name, .ref h0_readName, .ref h0_keptName, .ref h0_isKept, .ref h0_onces, .int h0_snapMany, .int u.1, .int u.2, .int h0_agreed, .int h0_jurors, .int h0_panelled, .ref h0_inSets, .int h0_surely, .int h0_asked, .ref h0_frees, .int h0_struck, .int h0_beating, .ref h0_text, .int h0_texts, .int h0_seed, .ref h0_line, .ref h0_written, .int h0_lineMany, .int h0_hasWritten, .ref h0_node, .int h0_nodes, .int h0_onesMany, .int h0_within, .int h0_top])), (aI ca h0_now 376 F_h0_now)])) A) ([.ref h0, .int a1, .int a2, .int a3] : List Value).toArray s 0 0 A) (F0 m 15 ls []) := by
    intro n
    induction n with
    | zero => intro y15_0 y15_1 y15_2 _ hy15_0 hy15_1 hy15_2 hn; exact absurd hn (by have q9 := hy15_0.2; omega)
    | succ n ih =>
      intro y15_0 y15_1 y15_2 _ hy15_0 hy15_1 hy15_2 hn H locs ls hP hD hS hl
      have J96_331 : ∀ (y96_0 : Int32) (y96_1 : Int32), rg 0 1000 y96_0 → rl 0 y96_0 y15_1 → rg (-1) 2147483647 y96_1 → rl 0 y15_2 y96_1 → rg 0 9 y15_0 → ∀ (H : Heap) (locs : List Loc) (ls : Array Slot), va_P D vwCl [(h0, .inr (11, [.int h0_thrown, .ref h0_tape, .int h0_taped, .int h0_size, .int h0_limit, .int h0_to, .int h0_from, .int h0_kind, .int h0_number, .int h0_sign, .int h0_fault, .int h0_place, .long h0_word, .int h0_told, .ref h0_now, .ref h0_read, .ref h0_kept, .ref h0_snaps, .ref h0_aside, .ref h0_name, .ref h0_readName, .ref h0_keptName, .ref h0_isKept, .ref h0_onces, .int h0_snapMany, .int y96_0, .int y96_1, .int h0_agreed, .int h0_jurors, .int h0_panelled, .ref h0_inSets, .int h0_surely, .int h0_asked, .ref h0_frees, .int h0_struck, .int h0_beating, .ref h0_text, .int h0_texts, .int h0_seed, .ref h0_line, .ref h0_written, .int h0_lineMany, .int h0_hasWritten, .ref h0_node, .int h0_nodes, .int h0_onesMany, .int h0_within, .int h0_top])), (aI ca h0_now 376 F_h0_now)] H → va_D A [(h0, .inr (11, [.int h0_thrown, .ref h0_tape, .int h0_taped, .int h0_size, .int h0_limit, .int h0_to, .int h0_from, .int h0_kind, .int h0_number, .int h0_sign, .int h0_fault, .int h0_place, .long h0_word, .int h0_told, .ref h0_now, .ref h0_read, .ref h0_kept, .ref h0_snaps, .ref h0_aside, .ref h0_name, .ref h0_readName, .ref h0_keptName, .ref h0_isKept, .ref h0_onces, .int h0_snapMany, .int y96_0, .int y96_1, .int h0_agreed, .int h0_jurors, .int h0_panelled, .ref h0_inSets, .int h0_surely, .int h0_asked, .ref h0_frees, .int h0_struck, .int h0_beating, .ref h0_text, .int h0_texts, .int h0_seed, .ref h0_line, .ref h0_written, .int h0_lineMany, .int h0_hasWritten, .ref h0_node, .int h0_nodes, .int h0_onesMany, .int h0_within, .int h0_top])), (aI ca h0_now 376 F_h0_now)] → va_S A s.heap H locs → lv_has ls 6 [(0, .ref h0), (1, .int a1), (2, .int a2), (3, .int a3), (4, .int y15_0)] → W p l e ({ frames := 1, cells := 0, slots := 0, locals := 25 } : Room) s m ([.ref h0, .int a1, .int a2, .int a3] : List Value).toArray below meth c H locs 0 0 (MQ below ((oQi D (fun (r : Int32) (u : Int32 × Int32) => ((r = 0) ∧ (rg 0 1000 u.1) ∧ (rg (-1) 2147483647 u.2) ∧ (rg 0 0 a1)) ∨ ((r = 1) ∧ (rg 0 1000 u.1) ∧ (rg (-1) 2147483647 u.2))) (fun (u : Int32 × Int32) => [(h0, .inr (11, [.int h0_thrown, .ref h0_tape, .int h0_taped, .int h0_size, .int h0_limit, .int h0_to, .int h0_from, .int h0_kind, .int h0_number, .int h0_sign, .int h0_fault, .int h0_place, .long h0_word, .int h0_told, .ref h0_now, .ref h0_read, .ref h0_kept, .ref h0_snaps, .ref h0_aside, .ref h0_name, .ref h0_readName, .ref h0_keptName, .ref h0_isKept, .ref h0_onces, .int h0_snapMany, .int u.1, .int u.2, .int h0_agreed, .int h0_jurors, .int h0_panelled, .ref h0_inSets, .int h0_surely, .int h0_asked, .ref h0_frees, .int h0_struck, .int h0_beating, .ref h0_text, .int h0_texts, .int h0_seed, .ref h0_line, .ref h0_written, .int h0_lineMany, .int h0_hasWritten, .ref h0_node, .int h0_nodes, .int h0_onesMany, .int h0_within, .int h0_top])), (aI ca h0_now 376 F_h0_now)])) A) ([.ref h0, .int a1, .int a2, .int a3] : List Value).toArray s 0 0 A) (F0 m 96 ls []) := by
        intro y96_0 y96_1 hy96_0 qy96_0_y15_1 hy96_1 py96_1_y15_2 t96_y15_0 H locs ls hP hD hS hl
        obtain ⟨x_332, ex_332⟩ : ∃ y : Int32, y = y15_0 + 1 := ⟨_, rfl⟩
        have h_333 : rg 1 10 x_332 := by rw [ex_332]; exact rg_add t96_y15_0 (⟨by decide, by decide⟩ : rg 1 1 (1 : Int32)) (by decide) (by decide) (by decide) (by decide)
        have l_334 : lq x_332.toInt (y15_0.toInt + 1) := lqm (by rw [ex_332]; have q := tadd t96_y15_0 (⟨by decide, by decide⟩ : rg 1 1 (1 : Int32)) (by decide) (by decide); have r1 := lqe (lqm (by decide) : lq (1 : Int32).toInt 1); omega)
        refine lv_iinc (v := x_332) (lv' := [(4, .int x_332), (0, .ref h0), (1, .int a1), (2, .int a2), (3, .int a3)]) hx hb dX12_layRings_96 hl (k := 4) rfl (by rw [ex_332]; rfl) (by decide) rfl (fun ls hl => ?_)
        refine lv_goto (tgt := 15) hx hb dX12_layRings_99 (by decide) ?_
        exact ih x_332 y96_0 y96_1 trivial (rgw (lo := 0) (hi := 10) h_333 (by decide) (by decide)) hy96_0 hy96_1 (by have q0 := lqe l_334; omega) H locs ls (oPsub hP [0, 1] rfl) (hD.sub [0, 1] (by decide) rfl) hS (lv_sub hl [1, 2, 3, 4, 0] rfl)
      have J81_335 : ∀ (y81_0 : Int32) (y81_1 : Int32), rg 0 2147483647 y81_0 → rg 0 1000 y81_1 → rl 0 y81_1 y15_1 → rg 0 9 y15_0 → ∀ (H : Heap) (locs : List Loc) (ls : Array Slot), va_P D vwCl [(h0, .inr (11, [.int h0_thrown, .ref h0_tape, .int h0_taped, .int h0_size, .int h0_limit, .int h0_to, .int h0_from, .int h0_kind, .int h0_number, .int h0_sign, .int h0_fault, .int h0_place, .long h0_word, .int h0_told, .ref h0_now, .ref h0_read, .ref h0_kept, .ref h0_snaps, .ref h0_aside, .ref h0_name, .ref h0_readName, .ref h0_keptName, .ref h0_isKept, .ref h0_onces, .int h0_snapMany, .int y81_1, .int y15_2, .int h0_agreed, .int h0_jurors, .int h0_panelled, .ref h0_inSets, .int h0_surely, .int h0_asked, .ref h0_frees, .int h0_struck, .int h0_beating, .ref h0_text, .int h0_texts, .int h0_seed, .ref h0_line, .ref h0_written, .int h0_lineMany, .int h0_hasWritten, .ref h0_node, .int h0_nodes, .int h0_onesMany, .int h0_within, .int h0_top])), (aI ca h0_now 376 F_h0_now)] H → va_D A [(h0, .inr (11, [.int h0_thrown, .ref h0_tape, .int h0_taped, .int h0_size, .int h0_limit, .int h0_to, .int h0_from, .int h0_kind, .int h0_number, .int h0_sign, .int h0_fault, .int h0_place, .long h0_word, .int h0_told, .ref h0_now, .ref h0_read, .ref h0_kept, .ref h0_snaps, .ref h0_aside, .ref h0_name, .ref h0_readName, .ref h0_keptName, .ref h0_isKept, .ref h0_onces, .int h0_snapMany, .int y81_1, .int y15_2, .int h0_agreed, .int h0_jurors, .int h0_panelled, .ref h0_inSets, .int h0_surely, .int h0_asked, .ref h0_frees, .int h0_struck, .int h0_beating, .ref h0_text, .int h0_texts, .int h0_seed, .ref h0_line, .ref h0_written, .int h0_lineMany, .int h0_hasWritten, .ref h0_node, .int h0_nodes, .int h0_onesMany, .int h0_within, .int h0_top])), (aI ca h0_now 376 F_h0_now)] → va_S A s.heap H locs → lv_has ls 6 [(0, .ref h0), (1, .int a1), (2, .int a2), (3, .int a3), (4, .int y15_0), (5, .int y81_0)] → W p l e ({ frames := 1, cells := 0, slots := 0, locals := 25 } : Room) s m ([.ref h0, .int a1, .int a2, .int a3] : List Value).toArray below meth c H locs 0 0 (MQ below ((oQi D (fun (r : Int32) (u : Int32 × Int32) => ((r = 0) ∧ (rg 0 1000 u.1) ∧ (rg (-1) 2147483647 u.2) ∧ (rg 0 0 a1)) ∨ ((r = 1) ∧ (rg 0 1000 u.1) ∧ (rg (-1) 2147483647 u.2))) (fun (u : Int32 × Int32) => [(h0, .inr (11, [.int h0_thrown, .ref h0_tape, .int h0_taped, .int h0_size, .int h0_limit, .int h0_to, .int h0_from, .int h0_kind, .int h0_number, .int h0_sign, .int h0_fault, .int h0_place, .long h0_word, .int h0_told, .ref h0_now, .ref h0_read, .ref h0_kept, .ref h0_snaps, .ref h0_aside, .ref h0_name, .ref h0_readName, .ref h0_keptName, .ref h0_isKept, .ref h0_onces, .int h0_snapMany, .int u.1, .int u.2, .int h0_agreed, .int h0_jurors, .int h0_panelled, .ref h0_inSets, .int h0_surely, .int h0_asked, .ref h0_frees, .int h0_struck, .int h0_beating, .ref h0_text, .int h0_texts, .int h0_seed, .ref h0_line, .ref h0_written, .int h0_lineMany, .int h0_hasWritten, .ref h0_node, .int h0_nodes, .int h0_onesMany, .int h0_within, .int h0_top])), (aI ca h0_now 376 F_h0_now)])) A) ([.ref h0, .int a1, .int a2, .int a3] : List Value).toArray s 0 0 A) (F0 m 81 ls []) := by
        intro y81_0 y81_1 hy81_0 hy81_1 qy81_1_y15_1 t81_y15_0 H locs ls hP hD hS hl
        refine lv_iload hx hb dX12_layRings_81 (lv_at hl 5 rfl) ?_
        refine lv_aload_n hx hb dX12_layRings_83 rfl (lv_at hl 0 rfl) ?_
        refine va_get (D := D) (ci := 11) (v := .int y15_2) (C := RX12) (T := TX12) (N := 48) hx hb hts k2 hown hK.1 hP 0 rfl rfl 26 (by decide) k1 (fun _ h9 => h9) rfl dX12_layRings_84 ?_
        refine lv_icmp_le (tgt := 96) hx hb dX12_layRings_87 (by decide) (fun c_336 => ?_) (fun c_336 => ?_)
        · skip
          have o_337 : rl 0 y81_0 y15_2 := rl_le c_336
          have h_338 : rg 0 2147483647 y15_2 := rl_y o_337 hy81_0 hy15_2 (by decide) (by decide)
          exact J96_331 y81_1 y15_2 hy81_1 (rlm (by have q0 := rle qy81_1_y15_1; omega)) (rgw (lo := (-1)) (hi := 2147483647) h_338 (by decide) (by decide)) (rlm (by omega)) t81_y15_0 H locs ls (oPsub hP [0, 1] rfl) (hD.sub [0, 1] (by decide) rfl) hS (lv_sub hl [0, 1, 2, 3, 4] rfl)
        · skip
          have o_339 : rl 1 y15_2 y81_0 := rl_nle c_336
          have h_340 : rg (-1) 2147483646 y15_2 := rl_x o_339 hy15_2 hy81_0 (by decide) (by decide)
          refine lv_aload_n hx hb dX12_layRings_90 rfl (lv_at hl 0 rfl) ?_
          refine lv_iload hx hb dX12_layRings_91 (lv_at hl 5 rfl) ?_
          refine va_put (D := D) (ci := 11) (v := .int y81_0) (ty := .int) (C := RX12) (T := TX12) (N := 48) hx hb hts k2 tyX12 tyX12_ok nmX12 hown hK.1 hP hD hS 0 rfl rfl 26 (by decide) k1 (fun _ h9 => h9) rfl (by decide +kernel) rfl rfl (Nat.le_of_ble_eq_true rfl) dX12_layRings_93 (fun H locs hP hD hS => ?_)
          have hP : va_P D vwCl [(h0, .inr (11, [.int h0_thrown, .ref h0_tape, .int h0_taped, .int h0_size, .int h0_limit, .int h0_to, .int h0_from, .int h0_kind, .int h0_number, .int h0_sign, .int h0_fault, .int h0_place, .long h0_word, .int h0_told, .ref h0_now, .ref h0_read, .ref h0_kept, .ref h0_snaps, .ref h0_aside, .ref h0_name, .ref h0_readName, .ref h0_keptName, .ref h0_isKept, .ref h0_onces, .int h0_snapMany, .int y81_1, .int y81_0, .int h0_agreed, .int h0_jurors, .int h0_panelled, .ref h0_inSets, .int h0_surely, .int h0_asked, .ref h0_frees, .int h0_struck, .int h0_beating, .ref h0_text, .int h0_texts, .int h0_seed, .ref h0_line, .ref h0_written, .int h0_lineMany, .int h0_hasWritten, .ref h0_node, .int h0_nodes, .int h0_onesMany, .int h0_within, .int h0_top])), (aI ca h0_now 376 F_h0_now)] H := hP
          have hD : va_D A [(h0, .inr (11, [.int h0_thrown, .ref h0_tape, .int h0_taped, .int h0_size, .int h0_limit, .int h0_to, .int h0_from, .int h0_kind, .int h0_number, .int h0_sign, .int h0_fault, .int h0_place, .long h0_word, .int h0_told, .ref h0_now, .ref h0_read, .ref h0_kept, .ref h0_snaps, .ref h0_aside, .ref h0_name, .ref h0_readName, .ref h0_keptName, .ref h0_isKept, .ref h0_onces, .int h0_snapMany, .int y81_1, .int y81_0, .int h0_agreed, .int h0_jurors, .int h0_panelled, .ref h0_inSets, .int h0_surely, .int h0_asked, .ref h0_frees, .int h0_struck, .int h0_beating, .ref h0_text, .int h0_texts, .int h0_seed, .ref h0_line, .ref h0_written, .int h0_lineMany, .int h0_hasWritten, .ref h0_node, .int h0_nodes, .int h0_onesMany, .int h0_within, .int h0_top])), (aI ca h0_now 376 F_h0_now)] := hD
          exact J96_331 y81_1 y81_0 hy81_1 (rlm (by have q0 := rle qy81_1_y15_1; omega)) (rgw (lo := (-1)) (hi := 2147483647) hy81_0 (by decide) (by decide)) (rlm (by have q0 := rle o_339; omega)) t81_y15_0 H locs ls (oPsub hP [0, 1] rfl) (hD.sub [0, 1] (by decide) rfl) hS (lv_sub hl [0, 1, 2, 3, 4] rfl)
      have J61_341 : ∀ (y61_0 : Int32), rg 0 9 y15_0 → ∀ (H : Heap) (locs : List Loc) (ls : Array Slot), va_P D vwCl [(h0, .inr (11, [.int h0_thrown, .ref h0_tape, .int h0_taped, .int h0_size, .int h0_limit, .int h0_to, .int h0_from, .int h0_kind, .int h0_number, .int h0_sign, .int h0_fault, .int h0_place, .long h0_word, .int h0_told, .ref h0_now, .ref h0_read, .ref h0_kept, .ref h0_snaps, .ref h0_aside, .ref h0_name, .ref h0_readName, .ref h0_keptName, .ref h0_isKept, .ref h0_onces, .int h0_snapMany, .int y15_1, .int y15_2, .int h0_agreed, .int h0_jurors, .int h0_panelled, .ref h0_inSets, .int h0_surely, .int h0_asked, .ref h0_frees, .int h0_struck, .int h0_beating, .ref h0_text, .int h0_texts, .int h0_seed, .ref h0_line, .ref h0_written, .int h0_lineMany, .int h0_hasWritten, .ref h0_node, .int h0_nodes, .int h0_onesMany, .int h0_within, .int h0_top])), (aI ca h0_now 376 F_h0_now)] H → va_D A [(h0, .inr (11, [.int h0_thrown, .ref h0_tape, .int h0_taped, .int h0_size, .int h0_limit, .int h0_to, .int h0_from, .int h0_kind, .int h0_number, .int h0_sign, .int h0_fault, .int h0_place, .long h0_word, .int h0_told, .ref h0_now, .ref h0_read, .ref h0_kept, .ref h0_snaps, .ref h0_aside, .ref h0_name, .ref h0_readName, .ref h0_keptName, .ref h0_isKept, .ref h0_onces, .int h0_snapMany, .int y15_1, .int y15_2, .int h0_agreed, .int h0_jurors, .int h0_panelled, .ref h0_inSets, .int h0_surely, .int h0_asked, .ref h0_frees, .int h0_struck, .int h0_beating, .ref h0_text, .int h0_texts, .int h0_seed, .ref h0_line, .ref h0_written, .int h0_lineMany, .int h0_hasWritten, .ref h0_node, .int h0_nodes, .int h0_onesMany, .int h0_within, .int h0_top])), (aI ca h0_now 376 F_h0_now)] → va_S A s.heap H locs → lv_has ls 6 [(0, .ref h0), (1, .int a1), (2, .int a2), (3, .int a3), (4, .int y15_0)] → W p l e ({ frames := 1, cells := 0, slots := 0, locals := 25 } : Room) s m ([.ref h0, .int a1, .int a2, .int a3] : List Value).toArray below meth c H locs 0 0 (MQ below ((oQi D (fun (r : Int32) (u : Int32 × Int32) => ((r = 0) ∧ (rg 0 1000 u.1) ∧ (rg (-1) 2147483647 u.2) ∧ (rg 0 0 a1)) ∨ ((r = 1) ∧ (rg 0 1000 u.1) ∧ (rg (-1) 2147483647 u.2))) (fun (u : Int32 × Int32) => [(h0, .inr (11, [.int h0_thrown, .ref h0_tape, .int h0_taped, .int h0_size, .int h0_limit, .int h0_to, .int h0_from, .int h0_kind, .int h0_number, .int h0_sign, .int h0_fault, .int h0_place, .long h0_word, .int h0_told, .ref h0_now, .ref h0_read, .ref h0_kept, .ref h0_snaps, .ref h0_aside, .ref h0_name, .ref h0_readName, .ref h0_keptName, .ref h0_isKept, .ref h0_onces, .int h0_snapMany, .int u.1, .int u.2, .int h0_agreed, .int h0_jurors, .int h0_panelled, .ref h0_inSets, .int h0_surely, .int h0_asked, .ref h0_frees, .int h0_struck, .int h0_beating, .ref h0_text, .int h0_texts, .int h0_seed, .ref h0_line, .ref h0_written, .int h0_lineMany, .int h0_hasWritten, .ref h0_node, .int h0_nodes, .int h0_onesMany, .int h0_within, .int h0_top])), (aI ca h0_now 376 F_h0_now)])) A) ([.ref h0, .int a1, .int a2, .int a3] : List Value).toArray s 0 0 A) (F0 m 61 ls [.int y61_0, .int a2, .int y15_0, .ref h0]) := by
        intro y61_0 t61_y15_0 H locs ls hP hD hS hl
        refine oC_i (Wc := [(h0, .inr (11, [.int h0_thrown, .ref h0_tape, .int h0_taped, .int h0_size, .int h0_limit, .int h0_to, .int h0_from, .int h0_kind, .int h0_number, .int h0_sign, .int h0_fault, .int h0_place, .long h0_word, .int h0_told, .ref h0_now, .ref h0_read, .ref h0_kept, .ref h0_snaps, .ref h0_aside, .ref h0_name, .ref h0_readName, .ref h0_keptName, .ref h0_isKept, .ref h0_onces, .int h0_snapMany, .int y15_1, .int y15_2, .int h0_agreed, .int h0_jurors, .int h0_panelled, .ref h0_inSets, .int h0_surely, .int h0_asked, .ref h0_frees, .int h0_struck, .int h0_beating, .ref h0_text, .int h0_texts, .int h0_seed, .ref h0_line, .ref h0_written, .int h0_lineMany, .int h0_hasWritten, .ref h0_node, .int h0_nodes, .int h0_onesMany, .int h0_within, .int h0_top])), (aI ca h0_now 376 F_h0_now)]) (Wr := []) (va_runV (As := [.int y15_0, .int a2, .int y61_0]) (rest := []) ⟨hx, hb, hml, hown, hts⟩ (s_X12_ringBy l D ca H.size h0 y15_0 a2 y61_0 h0_thrown h0_tape h0_taped h0_size h0_limit h0_to h0_from h0_kind h0_number h0_sign h0_fault h0_place h0_word h0_told h0_now h0_read h0_kept h0_snaps h0_aside h0_name h0_readName h0_keptName h0_isKept h0_onces h0_snapMany y15_1 y15_2 h0_agreed h0_jurors h0_panelled h0_inSets h0_surely h0_asked h0_frees h0_struck h0_beating h0_text h0_texts h0_seed h0_line h0_written h0_lineMany h0_hasWritten h0_node h0_nodes h0_onesMany h0_within h0_top F_h0_now t61_y15_0 i_a2 i_h0_taped i_h0_size i_h0_to i_h0_kind i_h0_snapMany i_h0_texts i_h0_lineMany i_h0_hasWritten i_h0_nodes i_h0_onesMany (sg_w (a' := 0) (b' := 1) (lo' := 0) (hi' := 10) (sg_w (a' := 0) (b' := 1) (lo' := 0) (hi' := 10) s_h0_now_0 (by decide) (by decide) (by decide) (by decide)) (by decide) (by decide) (by decide) (by decide)) (sg_w (a' := 1) (b' := 2) (lo' := 0) (hi' := 4) (sg_w (a' := 1) (b' := 2) (lo' := 0) (hi' := 4) s_h0_now_1 (by decide) (by decide) (by decide) (by decide)) (by decide) (by decide) (by decide) (by decide)) (sg_w (a' := 2) (b' := 3) (lo' := 0) (hi' := 5) (sg_w (a' := 2) (b' := 3) (lo' := 0) (hi' := 5) s_h0_now_2 (by decide) (by decide) (by decide) (by decide)) (by decide) (by decide) (by decide) (by decide)) (sg_w (a' := 35) (b' := 36) (lo' := 0) (hi' := 1023) (sg_w (a' := 35) (b' := 36) (lo' := 0) (hi' := 1023) s_h0_now_3 (by decide) (by decide) (by decide) (by decide)) (by decide) (by decide) (by decide) (by decide)) (sg_w (a' := 44) (b' := 49) (lo' := 0) (hi' := 3) (sg_w (a' := 44) (b' := 49) (lo' := 0) (hi' := 3) s_h0_now_4 (by decide) (by decide) (by decide) (by decide)) (by decide) (by decide) (by decide) (by decide)) (sg_w (a' := 90) (b' := 91) (lo' := 0) (hi' := 1023) (sg_w (a' := 90) (b' := 91) (lo' := 0) (hi' := 1023) s_h0_now_5 (by decide) (by decide) (by decide) (by decide)) (by decide) (by decide) (by decide) (by decide)) (sg_w (a' := 124) (b' := 129) (lo' := 0) (hi' := 1023) (sg_w (a' := 124) (b' := 129) (lo' := 0) (hi' := 1023) s_h0_now_6 (by decide) (by decide) (by decide) (by decide)) (by decide) (by decide) (by decide) (by decide)) (sg_w (a' := 135) (b' := 136) (lo' := 0) (hi' := 39) (sg_w (a' := 135) (b' := 136) (lo' := 0) (hi' := 39) s_h0_now_7 (by decide) (by decide) (by decide) (by decide)) (by decide) (by decide) (by decide) (by decide))) (cwV 3 hts gX12_layRings_X12_ringBy rfl rfl rfl (by decide +kernel) ⟨Nat.le_of_ble_eq_true rfl, Nat.le_of_ble_eq_true rfl⟩) (oPV (C := RX12) hK hP hD [0, 1] rfl (by decide) 0 rfl (ci := 11) rfl rfl) rfl rfl hl.1 rfl (lv_room (Nat.le_of_ble_eq_true rfl)) dX12_layRings_61 ⟨Nat.le_of_ble_eq_true rfl, Nat.le_of_ble_eq_true rfl⟩) hP hD hS hA [0, 1] [] rfl rfl (by decide) (by decide) (fun r_342 u H locs w_343 hP hD hS => ?_)
        obtain ⟨⟩ := u
        have hP : va_P D vwCl [(h0, .inr (11, [.int h0_thrown, .ref h0_tape, .int h0_taped, .int h0_size, .int h0_limit, .int h0_to, .int h0_from, .int h0_kind, .int h0_number, .int h0_sign, .int h0_fault, .int h0_place, .long h0_word, .int h0_told, .ref h0_now, .ref h0_read, .ref h0_kept, .ref h0_snaps, .ref h0_aside, .ref h0_name, .ref h0_readName, .ref h0_keptName, .ref h0_isKept, .ref h0_onces, .int h0_snapMany, .int y15_1, .int y15_2, .int h0_agreed, .int h0_jurors, .int h0_panelled, .ref h0_inSets, .int h0_surely, .int h0_asked, .ref h0_frees, .int h0_struck, .int h0_beating, .ref h0_text, .int h0_texts, .int h0_seed, .ref h0_line, .ref h0_written, .int h0_lineMany, .int h0_hasWritten, .ref h0_node, .int h0_nodes, .int h0_onesMany, .int h0_within, .int h0_top])), (aI ca h0_now 376 F_h0_now)] H := hP
        have hD : va_D A [(h0, .inr (11, [.int h0_thrown, .ref h0_tape, .int h0_taped, .int h0_size, .int h0_limit, .int h0_to, .int h0_from, .int h0_kind, .int h0_number, .int h0_sign, .int h0_fault, .int h0_place, .long h0_word, .int h0_told, .ref h0_now, .ref h0_read, .ref h0_kept, .ref h0_snaps, .ref h0_aside, .ref h0_name, .ref h0_readName, .ref h0_keptName, .ref h0_isKept, .ref h0_onces, .int h0_snapMany, .int y15_1, .int y15_2, .int h0_agreed, .int h0_jurors, .int h0_panelled, .ref h0_inSets, .int h0_surely, .int h0_asked, .ref h0_frees, .int h0_struck, .int h0_beating, .ref h0_text, .int h0_texts, .int h0_seed, .ref h0_line, .ref h0_written, .int h0_lineMany, .int h0_hasWritten, .ref h0_node, .int h0_nodes, .int h0_onesMany, .int h0_within, .int h0_top])), (aI ca h0_now 376 F_h0_now)] := hD
        try dsimp only at w_343
        have h_344 := w_343
        refine lv_istore (lv' := [(5, .int r_342), (0, .ref h0), (1, .int a1), (2, .int a2), (3, .int a3), (4, .int y15_0)]) hx hb dX12_layRings_64 hl (by decide) rfl (fun ls hl => ?_)
        refine lv_iload hx hb dX12_layRings_66 (lv_at hl 0 rfl) ?_
        refine lv_aload_n hx hb dX12_layRings_68 rfl (lv_at hl 1 rfl) ?_
        refine va_get (D := D) (ci := 11) (v := .int y15_1) (C := RX12) (T := TX12) (N := 48) hx hb hts k2 hown hK.1 hP 0 rfl rfl 25 (by decide) k3 (fun _ h9 => h9) rfl dX12_layRings_69 ?_
        refine lv_icmp_ge (tgt := 81) hx hb dX12_layRings_72 (by decide) (fun c_345 => ?_) (fun c_345 => ?_)
        · skip
          have o_346 : rl 0 y15_1 r_342 := rl_le c_345
          exact J81_335 r_342 y15_1 h_344 hy15_1 (rlm (by omega)) t61_y15_0 H locs ls (oPsub hP [0, 1] rfl) (hD.sub [0, 1] (by decide) rfl) hS (lv_sub hl [1, 2, 3, 4, 5, 0] rfl)
        · skip
          have o_347 : rl 1 r_342 y15_1 := rl_nle c_345
          have h_348 : rg 0 999 r_342 := rl_x o_347 h_344 hy15_1 (by decide) (by decide)
          have h_349 : rg 1 1000 y15_1 := rl_y o_347 h_344 hy15_1 (by decide) (by decide)
          refine lv_aload_n hx hb dX12_layRings_75 rfl (lv_at hl 1 rfl) ?_
          refine lv_iload hx hb dX12_layRings_76 (lv_at hl 0 rfl) ?_
          refine va_put (D := D) (ci := 11) (v := .int r_342) (ty := .int) (C := RX12) (T := TX12) (N := 48) hx hb hts k2 tyX12 tyX12_ok nmX12 hown hK.1 hP hD hS 0 rfl rfl 25 (by decide) k3 (fun _ h9 => h9) rfl (by decide +kernel) rfl rfl (Nat.le_of_ble_eq_true rfl) dX12_layRings_78 (fun H locs hP hD hS => ?_)
          have hP : va_P D vwCl [(h0, .inr (11, [.int h0_thrown, .ref h0_tape, .int h0_taped, .int h0_size, .int h0_limit, .int h0_to, .int h0_from, .int h0_kind, .int h0_number, .int h0_sign, .int h0_fault, .int h0_place, .long h0_word, .int h0_told, .ref h0_now, .ref h0_read, .ref h0_kept, .ref h0_snaps, .ref h0_aside, .ref h0_name, .ref h0_readName, .ref h0_keptName, .ref h0_isKept, .ref h0_onces, .int h0_snapMany, .int r_342, .int y15_2, .int h0_agreed, .int h0_jurors, .int h0_panelled, .ref h0_inSets, .int h0_surely, .int h0_asked, .ref h0_frees, .int h0_struck, .int h0_beating, .ref h0_text, .int h0_texts, .int h0_seed, .ref h0_line, .ref h0_written, .int h0_lineMany, .int h0_hasWritten, .ref h0_node, .int h0_nodes, .int h0_onesMany, .int h0_within, .int h0_top])), (aI ca h0_now 376 F_h0_now)] H := hP
          have hD : va_D A [(h0, .inr (11, [.int h0_thrown, .ref h0_tape, .int h0_taped, .int h0_size, .int h0_limit, .int h0_to, .int h0_from, .int h0_kind, .int h0_number, .int h0_sign, .int h0_fault, .int h0_place, .long h0_word, .int h0_told, .ref h0_now, .ref h0_read, .ref h0_kept, .ref h0_snaps, .ref h0_aside, .ref h0_name, .ref h0_readName, .ref h0_keptName, .ref h0_isKept, .ref h0_onces, .int h0_snapMany, .int r_342, .int y15_2, .int h0_agreed, .int h0_jurors, .int h0_panelled, .ref h0_inSets, .int h0_surely, .int h0_asked, .ref h0_frees, .int h0_struck, .int h0_beating, .ref h0_text, .int h0_texts, .int h0_seed, .ref h0_line, .ref h0_written, .int h0_lineMany, .int h0_hasWritten, .ref h0_node, .int h0_nodes, .int h0_onesMany, .int h0_within, .int h0_top])), (aI ca h0_now 376 F_h0_now)] := hD
          exact J81_335 r_342 r_342 (rgw (lo := 0) (hi := 2147483647) h_348 (by decide) (by decide)) (rgw (lo := 0) (hi := 1000) h_348 (by decide) (by decide)) (rlm (by have q0 := rle o_347; omega)) t61_y15_0 H locs ls (oPsub hP [0, 1] rfl) (hD.sub [0, 1] (by decide) rfl) hS (lv_sub hl [1, 2, 3, 4, 5, 0] rfl)
      refine lv_iload hx hb dX12_layRings_15 (lv_at hl 4 rfl) ?_
      refine lv_bipush (v := 10) hx hb dX12_layRings_17 (by decide) ?_
      refine lv_icmp_ge (tgt := 102) hx hb dX12_layRings_19 (by decide) (fun c_350 => ?_) (fun c_350 => ?_)
      · skip
        have o_351 : rl 0 10 y15_0 := rl_le c_350
        have h_352 : rg 10 10 y15_0 := rl_y o_351 (⟨by decide, by decide⟩ : rg 10 10 (10 : Int32)) hy15_0 (by decide) (by decide)
        refine lv_iload_n hx hb dX12_layRings_102 rfl (lv_at hl 1 rfl) ?_
        refine lv_if_eq (tgt := 110) hx hb dX12_layRings_103 (by decide) (fun c_353 => ?_) (fun c_353 => ?_)
        · skip
          have o_354 : rl 0 a1 0 := rl_eq c_353
          have h_355 : rg (-2147483648) 0 a1 := rl_x o_354 (rga a1) (⟨by decide, by decide⟩ : rg 0 0 (0 : Int32)) (by decide) (by decide)
          have o_356 : rl 0 0 a1 := rl_eq c_353.symm
          have h_357 : rg 0 0 a1 := rl_y o_356 (⟨by decide, by decide⟩ : rg 0 0 (0 : Int32)) h_355 (by decide) (by decide)
          refine lv_iconst (v := 0) hx hb dX12_layRings_110 (by decide) ?_
          exact oE_i hx hb hr (by decide) hlocks hP hD hS (y15_1, y15_2) [0, 1] rfl (by decide) (Or.inl ⟨rfl, hy15_1, hy15_2, h_357⟩) (Nat.le_of_ble_eq_true rfl) (Nat.le_of_ble_eq_true rfl) dX12_layRings_111
        · skip
          refine lv_iconst (v := 1) hx hb dX12_layRings_106 (by decide) ?_
          refine lv_goto (tgt := 111) hx hb dX12_layRings_107 (by decide) ?_
          exact oE_i hx hb hr (by decide) hlocks hP hD hS (y15_1, y15_2) [0, 1] rfl (by decide) (Or.inr (⟨rfl, hy15_1, hy15_2⟩)) (Nat.le_of_ble_eq_true rfl) (Nat.le_of_ble_eq_true rfl) dX12_layRings_111
      · skip
        have o_358 : rl 1 y15_0 10 := rl_nle c_350
        have h_359 : rg 0 9 y15_0 := rl_x o_358 hy15_0 (⟨by decide, by decide⟩ : rg 10 10 (10 : Int32)) (by decide) (by decide)
        refine lv_iload_n hx hb dX12_layRings_22 rfl (lv_at hl 1 rfl) ?_
        refine lv_iload hx hb dX12_layRings_23 (lv_at hl 4 rfl) ?_
        refine oC_i (Wc := []) (Wr := [(h0, .inr (11, [.int h0_thrown, .ref h0_tape, .int h0_taped, .int h0_size, .int h0_limit, .int h0_to, .int h0_from, .int h0_kind, .int h0_number, .int h0_sign, .int h0_fault, .int h0_place, .long h0_word, .int h0_told, .ref h0_now, .ref h0_read, .ref h0_kept, .ref h0_snaps, .ref h0_aside, .ref h0_name, .ref h0_readName, .ref h0_keptName, .ref h0_isKept, .ref h0_onces, .int h0_snapMany, .int y15_1, .int y15_2, .int h0_agreed, .int h0_jurors, .int h0_panelled, .ref h0_inSets, .int h0_surely, .int h0_asked, .ref h0_frees, .int h0_struck, .int h0_beating, .ref h0_text, .int h0_texts, .int h0_seed, .ref h0_line, .ref h0_written, .int h0_lineMany, .int h0_hasWritten, .ref h0_node, .int h0_nodes, .int h0_onesMany, .int h0_within, .int h0_top])), (aI ca h0_now 376 F_h0_now)]) (va_runS (As := [.int a1, .int y15_0]) (rest := []) ⟨hx, hb, hml, hown, hts⟩ (s_X12_has l D ca H.size a1 y15_0) (va_cwS 2 hts gX12_layRings_X12_has rfl rfl rfl (by decide +kernel) ⟨Nat.le_of_ble_eq_true rfl, Nat.le_of_ble_eq_true rfl⟩) (oPS hK hP hD [] rfl (by decide)) rfl rfl hl.1 rfl (lv_room (Nat.le_of_ble_eq_true rfl)) dX12_layRings_25 ⟨Nat.le_of_ble_eq_true rfl, Nat.le_of_ble_eq_true rfl⟩) hP hD hS hA [] [0, 1] rfl rfl (by decide) (by decide) (fun r_360 u H locs w_361 hP hD hS => ?_)
        obtain ⟨⟩ := u
        have hP : va_P D vwCl [(h0, .inr (11, [.int h0_thrown, .ref h0_tape, .int h0_taped, .int h0_size, .int h0_limit, .int h0_to, .int h0_from, .int h0_kind, .int h0_number, .int h0_sign, .int h0_fault, .int h0_place, .long h0_word, .int h0_told, .ref h0_now, .ref h0_read, .ref h0_kept, .ref h0_snaps, .ref h0_aside, .ref h0_name, .ref h0_readName, .ref h0_keptName, .ref h0_isKept, .ref h0_onces, .int h0_snapMany, .int y15_1, .int y15_2, .int h0_agreed, .int h0_jurors, .int h0_panelled, .ref h0_inSets, .int h0_surely, .int h0_asked, .ref h0_frees, .int h0_struck, .int h0_beating, .ref h0_text, .int h0_texts, .int h0_seed, .ref h0_line, .ref h0_written, .int h0_lineMany, .int h0_hasWritten, .ref h0_node, .int h0_nodes, .int h0_onesMany, .int h0_within, .int h0_top])), (aI ca h0_now 376 F_h0_now)] H := hP
        have hD : va_D A [(h0, .inr (11, [.int h0_thrown, .ref h0_tape, .int h0_taped, .int h0_size, .int h0_limit, .int h0_to, .int h0_from, .int h0_kind, .int h0_number, .int h0_sign, .int h0_fault, .int h0_place, .long h0_word, .int h0_told, .ref h0_now, .ref h0_read, .ref h0_kept, .ref h0_snaps, .ref h0_aside, .ref h0_name, .ref h0_readName, .ref h0_keptName, .ref h0_isKept, .ref h0_onces, .int h0_snapMany, .int y15_1, .int y15_2, .int h0_agreed, .int h0_jurors, .int h0_panelled, .ref h0_inSets, .int h0_surely, .int h0_asked, .ref h0_frees, .int h0_struck, .int h0_beating, .ref h0_text, .int h0_texts, .int h0_seed, .ref h0_line, .ref h0_written, .int h0_lineMany, .int h0_hasWritten, .ref h0_node, .int h0_nodes, .int h0_onesMany, .int h0_within, .int h0_top])), (aI ca h0_now 376 F_h0_now)] := hD
        try dsimp only at w_361
        rcases w_361 with ⟨h_362, h_363⟩ | ⟨h_364, h_365⟩
        · skip
          subst h_362
          refine lv_if_ne (tgt := 34) hx hb dX12_layRings_28 (by decide) (fun c => absurd (by decide) c) (fun _ => ?_)
          refine lv_goto (tgt := 96) hx hb dX12_layRings_31 (by decide) ?_
          exact J96_331 y15_1 y15_2 hy15_1 (rlm (by omega)) hy15_2 (rlm (by omega)) h_359 H locs ls (oPsub hP [0, 1] rfl) (hD.sub [0, 1] (by decide) rfl) hS (lv_sub hl [0, 1, 2, 3, 4] rfl)
        · skip
          subst h_364
          refine lv_if_ne (tgt := 34) hx hb dX12_layRings_28 (by decide) (fun _ => ?_) (fun c => absurd c (by decide))
          refine lv_aload_n hx hb dX12_layRings_34 rfl (lv_at hl 0 rfl) ?_
          refine lv_iload hx hb dX12_layRings_35 (lv_at hl 4 rfl) ?_
          refine lv_iload_n hx hb dX12_layRings_37 rfl (lv_at hl 2 rfl) ?_
          refine lv_iload_n hx hb dX12_layRings_38 rfl (lv_at hl 3 rfl) ?_
          refine lv_iload hx hb dX12_layRings_39 (lv_at hl 4 rfl) ?_
          refine oC_i (Wc := []) (Wr := [(h0, .inr (11, [.int h0_thrown, .ref h0_tape, .int h0_taped, .int h0_size, .int h0_limit, .int h0_to, .int h0_from, .int h0_kind, .int h0_number, .int h0_sign, .int h0_fault, .int h0_place, .long h0_word, .int h0_told, .ref h0_now, .ref h0_read, .ref h0_kept, .ref h0_snaps, .ref h0_aside, .ref h0_name, .ref h0_readName, .ref h0_keptName, .ref h0_isKept, .ref h0_onces, .int h0_snapMany, .int y15_1, .int y15_2, .int h0_agreed, .int h0_jurors, .int h0_panelled, .ref h0_inSets, .int h0_surely, .int h0_asked, .ref h0_frees, .int h0_struck, .int h0_beating, .ref h0_text, .int h0_texts, .int h0_seed, .ref h0_line, .ref h0_written, .int h0_lineMany, .int h0_hasWritten, .ref h0_node, .int h0_nodes, .int h0_onesMany, .int h0_within, .int h0_top])), (aI ca h0_now 376 F_h0_now)]) (va_runS (As := [.int a3, .int y15_0]) (rest := [.int a2, .int y15_0, .ref h0]) ⟨hx, hb, hml, hown, hts⟩ (s_X12_has l D ca H.size a3 y15_0) (va_cwS 2 hts gX12_layRings_X12_has rfl rfl rfl (by decide +kernel) ⟨Nat.le_of_ble_eq_true rfl, Nat.le_of_ble_eq_true rfl⟩) (oPS hK hP hD [] rfl (by decide)) rfl rfl hl.1 rfl (lv_room (Nat.le_of_ble_eq_true rfl)) dX12_layRings_41 ⟨Nat.le_of_ble_eq_true rfl, Nat.le_of_ble_eq_true rfl⟩) hP hD hS hA [] [0, 1] rfl rfl (by decide) (by decide) (fun r_366 u H locs w_367 hP hD hS => ?_)
          obtain ⟨⟩ := u
          have hP : va_P D vwCl [(h0, .inr (11, [.int h0_thrown, .ref h0_tape, .int h0_taped, .int h0_size, .int h0_limit, .int h0_to, .int h0_from, .int h0_kind, .int h0_number, .int h0_sign, .int h0_fault, .int h0_place, .long h0_word, .int h0_told, .ref h0_now, .ref h0_read, .ref h0_kept, .ref h0_snaps, .ref h0_aside, .ref h0_name, .ref h0_readName, .ref h0_keptName, .ref h0_isKept, .ref h0_onces, .int h0_snapMany, .int y15_1, .int y15_2, .int h0_agreed, .int h0_jurors, .int h0_panelled, .ref h0_inSets, .int h0_surely, .int h0_asked, .ref h0_frees, .int h0_struck, .int h0_beating, .ref h0_text, .int h0_texts, .int h0_seed, .ref h0_line, .ref h0_written, .int h0_lineMany, .int h0_hasWritten, .ref h0_node, .int h0_nodes, .int h0_onesMany, .int h0_within, .int h0_top])), (aI ca h0_now 376 F_h0_now)] H := hP
          have hD : va_D A [(h0, .inr (11, [.int h0_thrown, .ref h0_tape, .int h0_taped, .int h0_size, .int h0_limit, .int h0_to, .int h0_from, .int h0_kind, .int h0_number, .int h0_sign, .int h0_fault, .int h0_place, .long h0_word, .int h0_told, .ref h0_now, .ref h0_read, .ref h0_kept, .ref h0_snaps, .ref h0_aside, .ref h0_name, .ref h0_readName, .ref h0_keptName, .ref h0_isKept, .ref h0_onces, .int h0_snapMany, .int y15_1, .int y15_2, .int h0_agreed, .int h0_jurors, .int h0_panelled, .ref h0_inSets, .int h0_surely, .int h0_asked, .ref h0_frees, .int h0_struck, .int h0_beating, .ref h0_text, .int h0_texts, .int h0_seed, .ref h0_line, .ref h0_written, .int h0_lineMany, .int h0_hasWritten, .ref h0_node, .int h0_nodes, .int h0_onesMany, .int h0_within, .int h0_top])), (aI ca h0_now 376 F_h0_now)] := hD
          try dsimp only at w_367
          rcases w_367 with ⟨h_368, h_369⟩ | ⟨h_370, h_371⟩
          · skip
            subst h_368
            refine lv_if_eq (tgt := 51) hx hb dX12_layRings_44 (by decide) (fun _ => ?_) (fun c => absurd (by decide) c)
            refine lv_aload_n hx hb dX12_layRings_51 rfl (lv_at hl 0 rfl) ?_
            refine va_get (D := D) (ci := 11) (v := .ref h0_now) (C := RX12) (T := TX12) (N := 48) hx hb hts k2 hown hK.1 hP 0 rfl rfl 14 (by decide) k4 (fun _ h9 => h9) rfl dX12_layRings_52 ?_
            refine lv_bipush (v := 94) hx hb dX12_layRings_55 (by decide) ?_
            refine lv_iload hx hb dX12_layRings_57 (lv_at hl 4 rfl) ?_
            refine lv_iadd hx hb dX12_layRings_59 ?_
            refine lv_topi (fun x_372 ex_372 => ?_)
            have h_373 : rg 94 103 x_372 := by rw [ex_372]; exact rg_add (⟨by decide, by decide⟩ : rg 94 94 (94 : Int32)) h_359 (by decide) (by decide) (by decide) (by decide)
            have l_374 : lq x_372.toInt (y15_0.toInt + 94) := lqm (by rw [ex_372]; have q := tadd (⟨by decide, by decide⟩ : rg 94 94 (94 : Int32)) h_359 (by decide) (by decide); have r0 := lqe (lqm (by decide) : lq (94 : Int32).toInt 94); omega)
            refine va_iald hx hb hK.1 hP 1 0 rfl rfl (rg_in h_373 (by decide) (by decide)) dX12_layRings_60 ?_
            refine lv_topi (fun x_375 ex_375 => ?_)
            exact J61_341 x_375 h_359 H locs ls (oPsub hP [0, 1] rfl) (hD.sub [0, 1] (by decide) rfl) hS (lv_sub hl [0, 1, 2, 3, 4] rfl)
          · skip
            subst h_370
            refine lv_if_eq (tgt := 51) hx hb dX12_layRings_44 (by decide) (fun c => absurd c (by decide)) (fun _ => ?_)
            refine lv_iconst (v := 0) hx hb dX12_layRings_47 (by decide) ?_
            refine lv_goto (tgt := 61) hx hb dX12_layRings_48 (by decide) ?_
            exact J61_341 0 h_359 H locs ls (oPsub hP [0, 1] rfl) (hD.sub [0, 1] (by decide) rfl) hS (lv_sub hl [0, 1, 2, 3, 4] rfl)
  refine lv_aload_n hx hb dX12_layRings_0 rfl (lv_at hl 0 rfl) ?_
  refine lv_sipush (v := 1000) hx hb dX12_layRings_1 (by decide) ?_
  refine va_put (D := D) (ci := 11) (v := .int 1000) (ty := .int) (C := RX12) (T := TX12) (N := 48) hx hb hts k2 tyX12 tyX12_ok nmX12 hown hK.1 hP hD hS 0 rfl rfl 25 (by decide) k3 (fun _ h9 => h9) rfl (by decide +kernel) rfl rfl (Nat.le_of_ble_eq_true rfl) dX12_layRings_4 (fun H locs hP hD hS => ?_)
  have hP : va_P D vwCl [(h0, .inr (11, [.int h0_thrown, .ref h0_tape, .int h0_taped, .int h0_size, .int h0_limit, .int h0_to, .int h0_from, .int h0_kind, .int h0_number, .int h0_sign, .int h0_fault, .int h0_place, .long h0_word, .int h0_told, .ref h0_now, .ref h0_read, .ref h0_kept, .ref h0_snaps, .ref h0_aside, .ref h0_name, .ref h0_readName, .ref h0_keptName, .ref h0_isKept, .ref h0_onces, .int h0_snapMany, .int 1000, .int h0_highest, .int h0_agreed, .int h0_jurors, .int h0_panelled, .ref h0_inSets, .int h0_surely, .int h0_asked, .ref h0_frees, .int h0_struck, .int h0_beating, .ref h0_text, .int h0_texts, .int h0_seed, .ref h0_line, .ref h0_written, .int h0_lineMany, .int h0_hasWritten, .ref h0_node, .int h0_nodes, .int h0_onesMany, .int h0_within, .int h0_top])), (aI ca h0_now 376 F_h0_now)] H := hP
  have hD : va_D A [(h0, .inr (11, [.int h0_thrown, .ref h0_tape, .int h0_taped, .int h0_size, .int h0_limit, .int h0_to, .int h0_from, .int h0_kind, .int h0_number, .int h0_sign, .int h0_fault, .int h0_place, .long h0_word, .int h0_told, .ref h0_now, .ref h0_read, .ref h0_kept, .ref h0_snaps, .ref h0_aside, .ref h0_name, .ref h0_readName, .ref h0_keptName, .ref h0_isKept, .ref h0_onces, .int h0_snapMany, .int 1000, .int h0_highest, .int h0_agreed, .int h0_jurors, .int h0_panelled, .ref h0_inSets, .int h0_surely, .int h0_asked, .ref h0_frees, .int h0_struck, .int h0_beating, .ref h0_text, .int h0_texts, .int h0_seed, .ref h0_line, .ref h0_written, .int h0_lineMany, .int h0_hasWritten, .ref h0_node, .int h0_nodes, .int h0_onesMany, .int h0_within, .int h0_top])), (aI ca h0_now 376 F_h0_now)] := hD
  refine lv_aload_n hx hb dX12_layRings_7 rfl (lv_at hl 0 rfl) ?_
  refine lv_iconst (v := (-1)) hx hb dX12_layRings_8 (by decide) ?_
  refine va_put (D := D) (ci := 11) (v := .int (-1)) (ty := .int) (C := RX12) (T := TX12) (N := 48) hx hb hts k2 tyX12 tyX12_ok nmX12 hown hK.1 hP hD hS 0 rfl rfl 26 (by decide) k1 (fun _ h9 => h9) rfl (by decide +kernel) rfl rfl (Nat.le_of_ble_eq_true rfl) dX12_layRings_9 (fun H locs hP hD hS => ?_)
  have hP : va_P D vwCl [(h0, .inr (11, [.int h0_thrown, .ref h0_tape, .int h0_taped, .int h0_size, .int h0_limit, .int h0_to, .int h0_from, .int h0_kind, .int h0_number, .int h0_sign, .int h0_fault, .int h0_place, .long h0_word, .int h0_told, .ref h0_now, .ref h0_read, .ref h0_kept, .ref h0_snaps, .ref h0_aside, .ref h0_name, .ref h0_readName, .ref h0_keptName, .ref h0_isKept, .ref h0_onces, .int h0_snapMany, .int 1000, .int (-1), .int h0_agreed, .int h0_jurors, .int h0_panelled, .ref h0_inSets, .int h0_surely, .int h0_asked, .ref h0_frees, .int h0_struck, .int h0_beating, .ref h0_text, .int h0_texts, .int h0_seed, .ref h0_line, .ref h0_written, .int h0_lineMany, .int h0_hasWritten, .ref h0_node, .int h0_nodes, .int h0_onesMany, .int h0_within, .int h0_top])), (aI ca h0_now 376 F_h0_now)] H := hP
  have hD : va_D A [(h0, .inr (11, [.int h0_thrown, .ref h0_tape, .int h0_taped, .int h0_size, .int h0_limit, .int h0_to, .int h0_from, .int h0_kind, .int h0_number, .int h0_sign, .int h0_fault, .int h0_place, .long h0_word, .int h0_told, .ref h0_now, .ref h0_read, .ref h0_kept, .ref h0_snaps, .ref h0_aside, .ref h0_name, .ref h0_readName, .ref h0_keptName, .ref h0_isKept, .ref h0_onces, .int h0_snapMany, .int 1000, .int (-1), .int h0_agreed, .int h0_jurors, .int h0_panelled, .ref h0_inSets, .int h0_surely, .int h0_asked, .ref h0_frees, .int h0_struck, .int h0_beating, .ref h0_text, .int h0_texts, .int h0_seed, .ref h0_line, .ref h0_written, .int h0_lineMany, .int h0_hasWritten, .ref h0_node, .int h0_nodes, .int h0_onesMany, .int h0_within, .int h0_top])), (aI ca h0_now 376 F_h0_now)] := hD
  refine lv_iconst (v := 0) hx hb dX12_layRings_12 (by decide) ?_
  refine lv_istore (lv' := [(4, .int 0), (0, .ref h0), (1, .int a1), (2, .int a2), (3, .int a3)]) hx hb dX12_layRings_13 hl (by decide) rfl (fun ls hl => ?_)
  exact J15_288 11 0 1000 (-1) trivial (⟨by decide, by decide⟩ : rg 0 10 (0 : Int32)) (⟨by decide, by decide⟩ : rg 0 1000 (1000 : Int32)) (⟨by decide, by decide⟩ : rg (-1) 2147483647 ((-1) : Int32)) (by have q0 := (⟨by decide, by decide⟩ : rg 0 0 (0 : Int32)).1; omega) H locs ls (oPsub hP [0, 1] rfl) (hD.sub [0, 1] (by decide) rfl) hS (lv_sub hl [1, 2, 3, 4, 0] rfl)
theorem dX12_isOneRing_0 : decode cX12_isOneRing 0 = .ok (.aload_n 0, 1) := by decide +kernel
theorem dX12_isOneRing_1 : decode cX12_isOneRing 1 = .ok (.iload_n 1, 1) := by decide +kernel
theorem dX12_isOneRing_2 : decode cX12_isOneRing 2 = .ok (.iload_n 2, 1) := by decide +kernel
theorem dX12_isOneRing_3 : decode cX12_isOneRing 3 = .ok (.iload_n 3, 1) := by decide +kernel
theorem dX12_isOneRing_4 : decode cX12_isOneRing 4 = .ok (.invokevirtual 243, 3) := by decide +kernel
theorem dX12_isOneRing_7 : decode cX12_isOneRing 7 = .ok (.ifCond .eq 25, 3) := by decide +kernel
theorem dX12_isOneRing_10 : decode cX12_isOneRing 10 = .ok (.aload_n 0, 1) := by decide +kernel
theorem dX12_isOneRing_11 : decode cX12_isOneRing 11 = .ok (.getfield 237, 3) := by decide +kernel
theorem dX12_isOneRing_14 : decode cX12_isOneRing 14 = .ok (.aload_n 0, 1) := by decide +kernel
theorem dX12_isOneRing_15 : decode cX12_isOneRing 15 = .ok (.getfield 234, 3) := by decide +kernel
theorem dX12_isOneRing_18 : decode cX12_isOneRing 18 = .ok (.isub, 1) := by decide +kernel
theorem dX12_isOneRing_19 : decode cX12_isOneRing 19 = .ok (.aload_n 0, 1) := by decide +kernel
theorem dX12_isOneRing_20 : decode cX12_isOneRing 20 = .ok (.getfield 98, 3) := by decide +kernel
theorem dX12_isOneRing_23 : decode cX12_isOneRing 23 = .ok (.iconst 3, 1) := by decide +kernel
theorem dX12_isOneRing_24 : decode cX12_isOneRing 24 = .ok (.iaload, 1) := by decide +kernel
theorem dX12_isOneRing_25 : decode cX12_isOneRing 25 = .ok (.if_icmp .gt 7, 3) := by decide +kernel
theorem dX12_isOneRing_28 : decode cX12_isOneRing 28 = .ok (.iconst 1, 1) := by decide +kernel
theorem dX12_isOneRing_29 : decode cX12_isOneRing 29 = .ok (.goto 4, 3) := by decide +kernel
theorem dX12_isOneRing_32 : decode cX12_isOneRing 32 = .ok (.iconst 0, 1) := by decide +kernel
theorem dX12_isOneRing_33 : decode cX12_isOneRing 33 = .ok (.ireturn, 1) := by decide +kernel
set_option maxRecDepth 20000 in
theorem ggX12_isOneRing_X12_layRings : GoodIn wsX12_isOneRing wsX12_layRings := goodIn_r _ [8, 2, 1, 3, 9, 10, 7, 11, 12, 13, 14, 15, 16, 17, 18, 19, 20, 21, 22, 23, 24, 25, 26, 27, 28, 29, 30, 31, 32, 33, 34, 35, 36, 37, 38, 39, 40, 41, 42, 43, 44, 45, 46, 47, 48, 49, 50, 51, 52, 53, 54, 55, 56, 57, 58, 59, 60, 61, 62, 63] rfl (by decide +kernel)
set_option maxRecDepth 20000 in
theorem gX12_isOneRing_X12_layRings : GoodIn wsX12_isOneRing (wsV RX12 243 RX12 yX12_layRings wsX12_layRings) := goodIn_app (goodIn_of _ (by decide +kernel)) ggX12_isOneRing_X12_layRings
set_option maxHeartbeats 4000000 in
set_option maxRecDepth 100000 in
theorem s_X12_isOneRing (l : Launch) (D : va_G) (ca : Nat → ClassId) (sz : Nat) (h0 : Nat) (a1 : Int32) (a2 : Int32) (a3 : Int32) (h0_thrown : Int32) (h0_tape : Nat) (h0_taped : Int32) (h0_size : Int32) (h0_limit : Int32) (h0_to : Int32) (h0_from : Int32) (h0_kind : Int32) (h0_number : Int32) (h0_sign : Int32) (h0_fault : Int32) (h0_place : Int32) (h0_word : Int64) (h0_told : Int32) (h0_now : Nat) (h0_read : Nat) (h0_kept : Nat) (h0_snaps : Nat) (h0_aside : Nat) (h0_name : Nat) (h0_readName : Nat) (h0_keptName : Nat) (h0_isKept : Nat) (h0_onces : Nat) (h0_snapMany : Int32) (h0_lowest : Int32) (h0_highest : Int32) (h0_agreed : Int32) (h0_jurors : Int32) (h0_panelled : Int32) (h0_inSets : Nat) (h0_surely : Int32) (h0_asked : Int32) (h0_frees : Nat) (h0_struck : Int32) (h0_beating : Int32) (h0_text : Nat) (h0_texts : Int32) (h0_seed : Int32) (h0_line : Nat) (h0_written : Nat) (h0_lineMany : Int32) (h0_hasWritten : Int32) (h0_node : Nat) (h0_nodes : Int32) (h0_onesMany : Int32) (h0_within : Int32) (h0_top : Int32) (F_h0_now : Nat → Int32) (i_a2 : rg 0 3 a2) (i_h0_taped : rg 0 940 h0_taped) (i_h0_size : rg 0 940 h0_size) (i_h0_to : rg 0 940 h0_to) (i_h0_kind : rg 0 4 h0_kind) (i_h0_snapMany : rg 0 8 h0_snapMany) (i_h0_texts : rg 0 64 h0_texts) (i_h0_lineMany : rg 0 40 h0_lineMany) (i_h0_hasWritten : rg 0 1 h0_hasWritten) (i_h0_nodes : rg 0 60 h0_nodes) (i_h0_onesMany : rg 0 20 h0_onesMany) (s_h0_now_0 : sg 0 1 0 10 F_h0_now) (s_h0_now_1 : sg 1 2 0 4 F_h0_now) (s_h0_now_2 : sg 2 3 0 5 F_h0_now) (s_h0_now_3 : sg 35 36 0 1023 F_h0_now) (s_h0_now_4 : sg 44 49 0 3 F_h0_now) (s_h0_now_5 : sg 90 91 0 1023 F_h0_now) (s_h0_now_6 : sg 124 129 0 1023 F_h0_now) (s_h0_now_7 : sg 135 136 0 39 F_h0_now) : oMet l yX12_isOneRing wsX12_isOneRing ({ frames := 2, cells := 0, slots := 0, locals := 50 } : Room) [.ref h0, .int a1, .int a2, .int a3] D ca sz [(h0, .inr (11, [.int h0_thrown, .ref h0_tape, .int h0_taped, .int h0_size, .int h0_limit, .int h0_to, .int h0_from, .int h0_kind, .int h0_number, .int h0_sign, .int h0_fault, .int h0_place, .long h0_word, .int h0_told, .ref h0_now, .ref h0_read, .ref h0_kept, .ref h0_snaps, .ref h0_aside, .ref h0_name, .ref h0_readName, .ref h0_keptName, .ref h0_isKept, .ref h0_onces, .int h0_snapMany, .int h0_lowest, .int h0_highest, .int h0_agreed, .int h0_jurors, .int h0_panelled, .ref h0_inSets, .int h0_surely, .int h0_asked, .ref h0_frees, .int h0_struck, .int h0_beating, .ref h0_text, .int h0_texts, .int h0_seed, .ref h0_line, .ref h0_written, .int h0_lineMany, .int h0_hasWritten, .ref h0_node, .int h0_nodes, .int h0_onesMany, .int h0_within, .int h0_top])), (aI ca h0_now 376 F_h0_now)] (oQi D (fun (r : Int32) (u : Int32 × Int32) => ((r = 0) ∧ (rg 0 1000 u.1) ∧ (rg (-1) 2147483647 u.2)) ∨ ((r = 1) ∧ (rg 0 1000 u.1) ∧ (rg (-1) 2147483647 u.2) ∧ (sg 3 4 (-1001) 2147483647 F_h0_now))) (fun (u : Int32 × Int32) => [(h0, .inr (11, [.int h0_thrown, .ref h0_tape, .int h0_taped, .int h0_size, .int h0_limit, .int h0_to, .int h0_from, .int h0_kind, .int h0_number, .int h0_sign, .int h0_fault, .int h0_place, .long h0_word, .int h0_told, .ref h0_now, .ref h0_read, .ref h0_kept, .ref h0_snaps, .ref h0_aside, .ref h0_name, .ref h0_readName, .ref h0_keptName, .ref h0_isKept, .ref h0_onces, .int h0_snapMany, .int u.1, .int u.2, .int h0_agreed, .int h0_jurors, .int h0_panelled, .ref h0_inSets, .int h0_surely, .int h0_asked, .ref h0_frees, .int h0_struck, .int h0_beating, .ref h0_text, .int h0_texts, .int h0_seed, .ref h0_line, .ref h0_written, .int h0_lineMany, .int h0_hasWritten, .ref h0_node, .int h0_nodes, .int h0_onesMany, .int h0_within, .int h0_top])), (aI ca h0_now 376 F_h0_now)])) 0 0 := by
  refine oM (cc := cX12_isOneRing) (maxL := 4) (ret := (some .boolean)) (by decide) rfl (Nat.le_of_ble_eq_true rfl) [(0, .ref h0), (1, .int a1), (2, .int a2), (3, .int a3)] rfl ?_
  intro p e s m below meth c A H locs ls hx hb hr hml hts hown hlocks hin hK hP hD hA hS hl
  have hown : s.vm.findClass RX12 = some m.cls := hown
  have k1 := hts (.fieldLink RX12 237 "LidCourtModel" "highest" "I") (by decide +kernel)
  have k2 : ∀ w ∈ wsX120, w ∈ wsX12_isOneRing := fun _ h => List.mem_cons_of_mem _ (List.mem_append_right _ h)
  have k3 := hts (.fieldLink RX12 234 "LidCourtModel" "lowest" "I") (by decide +kernel)
  have k4 := hts (.fieldLink RX12 98 "LidCourtModel" "now" "[I") (by decide +kernel)
  refine lv_aload_n hx hb dX12_isOneRing_0 rfl (lv_at hl 0 rfl) ?_
  refine lv_iload_n hx hb dX12_isOneRing_1 rfl (lv_at hl 1 rfl) ?_
  refine lv_iload_n hx hb dX12_isOneRing_2 rfl (lv_at hl 2 rfl) ?_
  refine lv_iload_n hx hb dX12_isOneRing_3 rfl (lv_at hl 3 rfl) ?_
  refine oC_i (Wc := [(h0, .inr (11, [.int h0_thrown, .ref h0_tape, .int h0_taped, .int h0_size, .int h0_limit, .int h0_to, .int h0_from, .int h0_kind, .int h0_number, .int h0_sign, .int h0_fault, .int h0_place, .long h0_word, .int h0_told, .ref h0_now, .ref h0_read, .ref h0_kept, .ref h0_snaps, .ref h0_aside, .ref h0_name, .ref h0_readName, .ref h0_keptName, .ref h0_isKept, .ref h0_onces, .int h0_snapMany, .int h0_lowest, .int h0_highest, .int h0_agreed, .int h0_jurors, .int h0_panelled, .ref h0_inSets, .int h0_surely, .int h0_asked, .ref h0_frees, .int h0_struck, .int h0_beating, .ref h0_text, .int h0_texts, .int h0_seed, .ref h0_line, .ref h0_written, .int h0_lineMany, .int h0_hasWritten, .ref h0_node, .int h0_nodes, .int h0_onesMany, .int h0_within, .int h0_top])), (aI ca h0_now 376 F_h0_now)]) (Wr := []) (va_runV (As := [.int a1, .int a2, .int a3]) (rest := []) ⟨hx, hb, hml, hown, hts⟩ (s_X12_layRings l D ca H.size h0 a1 a2 a3 h0_thrown h0_tape h0_taped h0_size h0_limit h0_to h0_from h0_kind h0_number h0_sign h0_fault h0_place h0_word h0_told h0_now h0_read h0_kept h0_snaps h0_aside h0_name h0_readName h0_keptName h0_isKept h0_onces h0_snapMany h0_lowest h0_highest h0_agreed h0_jurors h0_panelled h0_inSets h0_surely h0_asked h0_frees h0_struck h0_beating h0_text h0_texts h0_seed h0_line h0_written h0_lineMany h0_hasWritten h0_node h0_nodes h0_onesMany h0_within h0_top F_h0_now i_a2 i_h0_taped i_h0_size i_h0_to i_h0_kind i_h0_snapMany i_h0_texts i_h0_lineMany i_h0_hasWritten i_h0_nodes i_h0_onesMany s_h0_now_0 s_h0_now_1 s_h0_now_2 s_h0_now_3 s_h0_now_4 s_h0_now_5 s_h0_now_6 s_h0_now_7) (cwV 3 hts gX12_isOneRing_X12_layRings rfl rfl rfl (by decide +kernel) ⟨Nat.le_of_ble_eq_true rfl, Nat.le_of_ble_eq_true rfl⟩) (oPV (C := RX12) hK hP hD [0, 1] rfl (by decide) 0 rfl (ci := 11) rfl rfl) rfl rfl hl.1 rfl (lv_room (Nat.le_of_ble_eq_true rfl)) dX12_isOneRing_4 ⟨Nat.le_of_ble_eq_true rfl, Nat.le_of_ble_eq_true rfl⟩) hP hD hS hA [0, 1] [] rfl rfl (by decide) (by decide) (fun r_21 u H locs w_22 hP hD hS => ?_)
  obtain ⟨u_23, u_24⟩ := u
  have hP : va_P D vwCl [(h0, .inr (11, [.int h0_thrown, .ref h0_tape, .int h0_taped, .int h0_size, .int h0_limit, .int h0_to, .int h0_from, .int h0_kind, .int h0_number, .int h0_sign, .int h0_fault, .int h0_place, .long h0_word, .int h0_told, .ref h0_now, .ref h0_read, .ref h0_kept, .ref h0_snaps, .ref h0_aside, .ref h0_name, .ref h0_readName, .ref h0_keptName, .ref h0_isKept, .ref h0_onces, .int h0_snapMany, .int u_23, .int u_24, .int h0_agreed, .int h0_jurors, .int h0_panelled, .ref h0_inSets, .int h0_surely, .int h0_asked, .ref h0_frees, .int h0_struck, .int h0_beating, .ref h0_text, .int h0_texts, .int h0_seed, .ref h0_line, .ref h0_written, .int h0_lineMany, .int h0_hasWritten, .ref h0_node, .int h0_nodes, .int h0_onesMany, .int h0_within, .int h0_top])), (aI ca h0_now 376 F_h0_now)] H := hP
  have hD : va_D A [(h0, .inr (11, [.int h0_thrown, .ref h0_tape, .int h0_taped, .int h0_size, .int h0_limit, .int h0_to, .int h0_from, .int h0_kind, .int h0_number, .int h0_sign, .int h0_fault, .int h0_place, .long h0_word, .int h0_told, .ref h0_now, .ref h0_read, .ref h0_kept, .ref h0_snaps, .ref h0_aside, .ref h0_name, .ref h0_readName, .ref h0_keptName, .ref h0_isKept, .ref h0_onces, .int h0_snapMany, .int u_23, .int u_24, .int h0_agreed, .int h0_jurors, .int h0_panelled, .ref h0_inSets, .int h0_surely, .int h0_asked, .ref h0_frees, .int h0_struck, .int h0_beating, .ref h0_text, .int h0_texts, .int h0_seed, .ref h0_line, .ref h0_written, .int h0_lineMany, .int h0_hasWritten, .ref h0_node, .int h0_nodes, .int h0_onesMany, .int h0_within, .int h0_top])), (aI ca h0_now 376 F_h0_now)] := hD
  try dsimp only at w_22
  rcases w_22 with ⟨h_25, h_26, h_27, h_28⟩ | ⟨h_29, h_30, h_31⟩
  · skip
    subst h_25
    refine lv_if_eq (tgt := 32) hx hb dX12_isOneRing_7 (by decide) (fun _ => ?_) (fun c => absurd (by decide) c)
    refine lv_iconst (v := 0) hx hb dX12_isOneRing_32 (by decide) ?_
    exact oE_i hx hb hr (by decide) hlocks hP hD hS (u_23, u_24) [0, 1] rfl (by decide) (Or.inl ⟨rfl, h_26, h_27⟩) (Nat.le_of_ble_eq_true rfl) (Nat.le_of_ble_eq_true rfl) dX12_isOneRing_33
  · skip
    subst h_29
    refine lv_if_eq (tgt := 32) hx hb dX12_isOneRing_7 (by decide) (fun c => absurd c (by decide)) (fun _ => ?_)
    refine lv_aload_n hx hb dX12_isOneRing_10 rfl (lv_at hl 0 rfl) ?_
    refine va_get (D := D) (ci := 11) (v := .int u_24) (C := RX12) (T := TX12) (N := 48) hx hb hts k2 hown hK.1 hP 0 rfl rfl 26 (by decide) k1 (fun _ h9 => h9) rfl dX12_isOneRing_11 ?_
    refine lv_aload_n hx hb dX12_isOneRing_14 rfl (lv_at hl 0 rfl) ?_
    refine va_get (D := D) (ci := 11) (v := .int u_23) (C := RX12) (T := TX12) (N := 48) hx hb hts k2 hown hK.1 hP 0 rfl rfl 25 (by decide) k3 (fun _ h9 => h9) rfl dX12_isOneRing_15 ?_
    refine lv_isub hx hb dX12_isOneRing_18 ?_
    refine lv_topi (fun x_32 ex_32 => ?_)
    have h_33 : rg (-1001) 2147483647 x_32 := by rw [ex_32]; exact rg_sub h_31 h_30 (by decide) (by decide) (by decide) (by decide)
    have l_34 : lq x_32.toInt ((-1) * u_23.toInt + u_24.toInt) := lqm (by rw [ex_32]; have q := tsub h_31 h_30 (by decide) (by decide); omega)
    refine lv_aload_n hx hb dX12_isOneRing_19 rfl (lv_at hl 0 rfl) ?_
    refine va_get (D := D) (ci := 11) (v := .ref h0_now) (C := RX12) (T := TX12) (N := 48) hx hb hts k2 hown hK.1 hP 0 rfl rfl 14 (by decide) k4 (fun _ h9 => h9) rfl dX12_isOneRing_20 ?_
    refine lv_iconst (v := 3) hx hb dX12_isOneRing_23 (by decide) ?_
    refine va_iald hx hb hK.1 hP 1 0 rfl rfl (rg_in (⟨by decide, by decide⟩ : rg 3 3 (3 : Int32)) (by decide) (by decide)) dX12_isOneRing_24 ?_
    refine lv_topi (fun x_35 ex_35 => ?_)
    refine lv_icmp_gt (tgt := 32) hx hb dX12_isOneRing_25 (by decide) (fun c_36 => ?_) (fun c_36 => ?_)
    · skip
      have o_37 : rl 1 x_35 x_32 := rl_lt c_36
      have h_38 : rg (-2147483648) 2147483646 x_35 := rl_x o_37 (rga x_35) h_33 (by decide) (by decide)
      refine lv_iconst (v := 0) hx hb dX12_isOneRing_32 (by decide) ?_
      exact oE_i hx hb hr (by decide) hlocks hP hD hS (u_23, u_24) [0, 1] rfl (by decide) (Or.inl ⟨rfl, h_30, h_31⟩) (Nat.le_of_ble_eq_true rfl) (Nat.le_of_ble_eq_true rfl) dX12_isOneRing_33
    · skip
      have o_39 : rl 0 x_32 x_35 := rl_nlt c_36
      have h_40 : rg (-1001) 2147483647 x_35 := rl_y o_39 h_33 (rga x_35) (by decide) (by decide)
      refine lv_iconst (v := 1) hx hb dX12_isOneRing_28 (by decide) ?_
      refine lv_goto (tgt := 33) hx hb dX12_isOneRing_29 (by decide) ?_
      exact oE_i hx hb hr (by decide) hlocks hP hD hS (u_23, u_24) [0, 1] rfl (by decide) (Or.inr (⟨rfl, h_30, h_31, (sg_of (k := 3) ex_35 h_40 (by decide))⟩)) (Nat.le_of_ble_eq_true rfl) (Nat.le_of_ble_eq_true rfl) dX12_isOneRing_33
theorem dX12_isOneRing__0 : decode cX12_isOneRing_ 0 = .ok (.aload_n 0, 1) := by decide +kernel
theorem dX12_isOneRing__1 : decode cX12_isOneRing_ 1 = .ok (.iload_n 1, 1) := by decide +kernel
theorem dX12_isOneRing__2 : decode cX12_isOneRing_ 2 = .ok (.iload_n 2, 1) := by decide +kernel
theorem dX12_isOneRing__3 : decode cX12_isOneRing_ 3 = .ok (.iconst 0, 1) := by decide +kernel
theorem dX12_isOneRing__4 : decode cX12_isOneRing_ 4 = .ok (.invokevirtual 246, 3) := by decide +kernel
theorem dX12_isOneRing__7 : decode cX12_isOneRing_ 7 = .ok (.ireturn, 1) := by decide +kernel
set_option maxRecDepth 20000 in
theorem ggX12_isOneRing__X12_isOneRing : GoodIn wsX12_isOneRing_ wsX12_isOneRing := goodIn_r _ [5, 6, 7, 8, 9, 10, 11, 4, 12, 13, 14, 15, 16, 17, 18, 19, 20, 21, 22, 23, 24, 25, 26, 27, 28, 29, 30, 31, 32, 33, 34, 35, 36, 37, 38, 39, 40, 41, 42, 43, 44, 45, 46, 47, 48, 49, 50, 51, 52, 53, 54, 55, 56, 57, 58, 59, 60, 61, 62, 63, 64, 65, 66, 67] rfl (by decide +kernel)
set_option maxRecDepth 20000 in
theorem gX12_isOneRing__X12_isOneRing : GoodIn wsX12_isOneRing_ (wsV RX12 246 RX12 yX12_isOneRing wsX12_isOneRing) := goodIn_app (goodIn_of _ (by decide +kernel)) ggX12_isOneRing__X12_isOneRing
set_option maxHeartbeats 4000000 in
set_option maxRecDepth 100000 in
theorem s_X12_isOneRing_ (l : Launch) (D : va_G) (ca : Nat → ClassId) (sz : Nat) (h0 : Nat) (a1 : Int32) (a2 : Int32) (h0_thrown : Int32) (h0_tape : Nat) (h0_taped : Int32) (h0_size : Int32) (h0_limit : Int32) (h0_to : Int32) (h0_from : Int32) (h0_kind : Int32) (h0_number : Int32) (h0_sign : Int32) (h0_fault : Int32) (h0_place : Int32) (h0_word : Int64) (h0_told : Int32) (h0_now : Nat) (h0_read : Nat) (h0_kept : Nat) (h0_snaps : Nat) (h0_aside : Nat) (h0_name : Nat) (h0_readName : Nat) (h0_keptName : Nat) (h0_isKept : Nat) (h0_onces : Nat) (h0_snapMany : Int32) (h0_lowest : Int32) (h0_highest : Int32) (h0_agreed : Int32) (h0_jurors : Int32) (h0_panelled : Int32) (h0_inSets : Nat) (h0_surely : Int32) (h0_asked : Int32) (h0_frees : Nat) (h0_struck : Int32) (h0_beating : Int32) (h0_text : Nat) (h0_texts : Int32) (h0_seed : Int32) (h0_line : Nat) (h0_written : Nat) (h0_lineMany : Int32) (h0_hasWritten : Int32) (h0_node : Nat) (h0_nodes : Int32) (h0_onesMany : Int32) (h0_within : Int32) (h0_top : Int32) (F_h0_now : Nat → Int32) (i_a2 : rg 0 3 a2) (i_h0_taped : rg 0 940 h0_taped) (i_h0_size : rg 0 940 h0_size) (i_h0_to : rg 0 940 h0_to) (i_h0_kind : rg 0 4 h0_kind) (i_h0_snapMany : rg 0 8 h0_snapMany) (i_h0_texts : rg 0 64 h0_texts) (i_h0_lineMany : rg 0 40 h0_lineMany) (i_h0_hasWritten : rg 0 1 h0_hasWritten) (i_h0_nodes : rg 0 60 h0_nodes) (i_h0_onesMany : rg 0 20 h0_onesMany) (s_h0_now_0 : sg 0 1 0 10 F_h0_now) (s_h0_now_1 : sg 1 2 0 4 F_h0_now) (s_h0_now_2 : sg 2 3 0 5 F_h0_now) (s_h0_now_3 : sg 35 36 0 1023 F_h0_now) (s_h0_now_4 : sg 44 49 0 3 F_h0_now) (s_h0_now_5 : sg 90 91 0 1023 F_h0_now) (s_h0_now_6 : sg 124 129 0 1023 F_h0_now) (s_h0_now_7 : sg 135 136 0 39 F_h0_now) : oMet l yX12_isOneRing_ wsX12_isOneRing_ ({ frames := 3, cells := 0, slots := 0, locals := 73 } : Room) [.ref h0, .int a1, .int a2] D ca sz [(h0, .inr (11, [.int h0_thrown, .ref h0_tape, .int h0_taped, .int h0_size, .int h0_limit, .int h0_to, .int h0_from, .int h0_kind, .int h0_number, .int h0_sign, .int h0_fault, .int h0_place, .long h0_word, .int h0_told, .ref h0_now, .ref h0_read, .ref h0_kept, .ref h0_snaps, .ref h0_aside, .ref h0_name, .ref h0_readName, .ref h0_keptName, .ref h0_isKept, .ref h0_onces, .int h0_snapMany, .int h0_lowest, .int h0_highest, .int h0_agreed, .int h0_jurors, .int h0_panelled, .ref h0_inSets, .int h0_surely, .int h0_asked, .ref h0_frees, .int h0_struck, .int h0_beating, .ref h0_text, .int h0_texts, .int h0_seed, .ref h0_line, .ref h0_written, .int h0_lineMany, .int h0_hasWritten, .ref h0_node, .int h0_nodes, .int h0_onesMany, .int h0_within, .int h0_top])), (aI ca h0_now 376 F_h0_now)] (oQi D (fun (r : Int32) (u : Int32 × Int32) => ((r = 0) ∧ (rg 0 1000 u.1) ∧ (rg (-1) 2147483647 u.2)) ∨ ((r = 1) ∧ (rg 0 1000 u.1) ∧ (rg (-1) 2147483647 u.2) ∧ (sg 3 4 (-1001) 2147483647 F_h0_now))) (fun (u : Int32 × Int32) => [(h0, .inr (11, [.int h0_thrown, .ref h0_tape, .int h0_taped, .int h0_size, .int h0_limit, .int h0_to, .int h0_from, .int h0_kind, .int h0_number, .int h0_sign, .int h0_fault, .int h0_place, .long h0_word, .int h0_told, .ref h0_now, .ref h0_read, .ref h0_kept, .ref h0_snaps, .ref h0_aside, .ref h0_name, .ref h0_readName, .ref h0_keptName, .ref h0_isKept, .ref h0_onces, .int h0_snapMany, .int u.1, .int u.2, .int h0_agreed, .int h0_jurors, .int h0_panelled, .ref h0_inSets, .int h0_surely, .int h0_asked, .ref h0_frees, .int h0_struck, .int h0_beating, .ref h0_text, .int h0_texts, .int h0_seed, .ref h0_line, .ref h0_written, .int h0_lineMany, .int h0_hasWritten, .ref h0_node, .int h0_nodes, .int h0_onesMany, .int h0_within, .int h0_top])), (aI ca h0_now 376 F_h0_now)])) 0 0 := by
  refine oM (cc := cX12_isOneRing_) (maxL := 3) (ret := (some .boolean)) (by decide) rfl (Nat.le_of_ble_eq_true rfl) [(0, .ref h0), (1, .int a1), (2, .int a2)] rfl ?_
  intro p e s m below meth c A H locs ls hx hb hr hml hts hown hlocks hin hK hP hD hA hS hl
  have hown : s.vm.findClass RX12 = some m.cls := hown
  refine lv_aload_n hx hb dX12_isOneRing__0 rfl (lv_at hl 0 rfl) ?_
  refine lv_iload_n hx hb dX12_isOneRing__1 rfl (lv_at hl 1 rfl) ?_
  refine lv_iload_n hx hb dX12_isOneRing__2 rfl (lv_at hl 2 rfl) ?_
  refine lv_iconst (v := 0) hx hb dX12_isOneRing__3 (by decide) ?_
  refine oC_i (Wc := [(h0, .inr (11, [.int h0_thrown, .ref h0_tape, .int h0_taped, .int h0_size, .int h0_limit, .int h0_to, .int h0_from, .int h0_kind, .int h0_number, .int h0_sign, .int h0_fault, .int h0_place, .long h0_word, .int h0_told, .ref h0_now, .ref h0_read, .ref h0_kept, .ref h0_snaps, .ref h0_aside, .ref h0_name, .ref h0_readName, .ref h0_keptName, .ref h0_isKept, .ref h0_onces, .int h0_snapMany, .int h0_lowest, .int h0_highest, .int h0_agreed, .int h0_jurors, .int h0_panelled, .ref h0_inSets, .int h0_surely, .int h0_asked, .ref h0_frees, .int h0_struck, .int h0_beating, .ref h0_text, .int h0_texts, .int h0_seed, .ref h0_line, .ref h0_written, .int h0_lineMany, .int h0_hasWritten, .ref h0_node, .int h0_nodes, .int h0_onesMany, .int h0_within, .int h0_top])), (aI ca h0_now 376 F_h0_now)]) (Wr := []) (va_runV (As := [.int a1, .int a2, .int 0]) (rest := []) ⟨hx, hb, hml, hown, hts⟩ (s_X12_isOneRing l D ca H.size h0 a1 a2 0 h0_thrown h0_tape h0_taped h0_size h0_limit h0_to h0_from h0_kind h0_number h0_sign h0_fault h0_place h0_word h0_told h0_now h0_read h0_kept h0_snaps h0_aside h0_name h0_readName h0_keptName h0_isKept h0_onces h0_snapMany h0_lowest h0_highest h0_agreed h0_jurors h0_panelled h0_inSets h0_surely h0_asked h0_frees h0_struck h0_beating h0_text h0_texts h0_seed h0_line h0_written h0_lineMany h0_hasWritten h0_node h0_nodes h0_onesMany h0_within h0_top F_h0_now i_a2 i_h0_taped i_h0_size i_h0_to i_h0_kind i_h0_snapMany i_h0_texts i_h0_lineMany i_h0_hasWritten i_h0_nodes i_h0_onesMany s_h0_now_0 s_h0_now_1 s_h0_now_2 s_h0_now_3 s_h0_now_4 s_h0_now_5 s_h0_now_6 s_h0_now_7) (cwV 3 hts gX12_isOneRing__X12_isOneRing rfl rfl rfl (by decide +kernel) ⟨Nat.le_of_ble_eq_true rfl, Nat.le_of_ble_eq_true rfl⟩) (oPV (C := RX12) hK hP hD [0, 1] rfl (by decide) 0 rfl (ci := 11) rfl rfl) rfl rfl hl.1 rfl (lv_room (Nat.le_of_ble_eq_true rfl)) dX12_isOneRing__4 ⟨Nat.le_of_ble_eq_true rfl, Nat.le_of_ble_eq_true rfl⟩) hP hD hS hA [0, 1] [] rfl rfl (by decide) (by decide) (fun r_12 u H locs w_13 hP hD hS => ?_)
  obtain ⟨u_14, u_15⟩ := u
  have hP : va_P D vwCl [(h0, .inr (11, [.int h0_thrown, .ref h0_tape, .int h0_taped, .int h0_size, .int h0_limit, .int h0_to, .int h0_from, .int h0_kind, .int h0_number, .int h0_sign, .int h0_fault, .int h0_place, .long h0_word, .int h0_told, .ref h0_now, .ref h0_read, .ref h0_kept, .ref h0_snaps, .ref h0_aside, .ref h0_name, .ref h0_readName, .ref h0_keptName, .ref h0_isKept, .ref h0_onces, .int h0_snapMany, .int u_14, .int u_15, .int h0_agreed, .int h0_jurors, .int h0_panelled, .ref h0_inSets, .int h0_surely, .int h0_asked, .ref h0_frees, .int h0_struck, .int h0_beating, .ref h0_text, .int h0_texts, .int h0_seed, .ref h0_line, .ref h0_written, .int h0_lineMany, .int h0_hasWritten, .ref h0_node, .int h0_nodes, .int h0_onesMany, .int h0_within, .int h0_top])), (aI ca h0_now 376 F_h0_now)] H := hP
  have hD : va_D A [(h0, .inr (11, [.int h0_thrown, .ref h0_tape, .int h0_taped, .int h0_size, .int h0_limit, .int h0_to, .int h0_from, .int h0_kind, .int h0_number, .int h0_sign, .int h0_fault, .int h0_place, .long h0_word, .int h0_told, .ref h0_now, .ref h0_read, .ref h0_kept, .ref h0_snaps, .ref h0_aside, .ref h0_name, .ref h0_readName, .ref h0_keptName, .ref h0_isKept, .ref h0_onces, .int h0_snapMany, .int u_14, .int u_15, .int h0_agreed, .int h0_jurors, .int h0_panelled, .ref h0_inSets, .int h0_surely, .int h0_asked, .ref h0_frees, .int h0_struck, .int h0_beating, .ref h0_text, .int h0_texts, .int h0_seed, .ref h0_line, .ref h0_written, .int h0_lineMany, .int h0_hasWritten, .ref h0_node, .int h0_nodes, .int h0_onesMany, .int h0_within, .int h0_top])), (aI ca h0_now 376 F_h0_now)] := hD
  try dsimp only at w_13
  rcases w_13 with ⟨h_16, h_17, h_18⟩ | ⟨h_19, h_20, h_21, h_22⟩
  · skip
    subst h_16
    exact oE_i hx hb hr (by decide) hlocks hP hD hS (u_14, u_15) [0, 1] rfl (by decide) (Or.inl ⟨rfl, h_17, h_18⟩) (Nat.le_of_ble_eq_true rfl) (Nat.le_of_ble_eq_true rfl) dX12_isOneRing__7
  · skip
    subst h_19
    exact oE_i hx hb hr (by decide) hlocks hP hD hS (u_14, u_15) [0, 1] rfl (by decide) (Or.inr (⟨rfl, h_20, h_21, h_22⟩)) (Nat.le_of_ble_eq_true rfl) (Nat.le_of_ble_eq_true rfl) dX12_isOneRing__7
theorem dX12_least_0 : decode cX12_least 0 = .ok (.iload_n 0, 1) := by decide +kernel
theorem dX12_least_1 : decode cX12_least 1 = .ok (.iload_n 1, 1) := by decide +kernel
theorem dX12_least_2 : decode cX12_least 2 = .ok (.if_icmp .ge 7, 3) := by decide +kernel
theorem dX12_least_5 : decode cX12_least 5 = .ok (.iload_n 0, 1) := by decide +kernel
theorem dX12_least_6 : decode cX12_least 6 = .ok (.goto 4, 3) := by decide +kernel
theorem dX12_least_9 : decode cX12_least 9 = .ok (.iload_n 1, 1) := by decide +kernel
theorem dX12_least_10 : decode cX12_least 10 = .ok (.ireturn, 1) := by decide +kernel
set_option maxHeartbeats 4000000 in
set_option maxRecDepth 100000 in
theorem s_X12_least (l : Launch) (D : va_G) (ca : Nat → ClassId) (sz : Nat) (a1 : Int32) (a2 : Int32)  : oMet l yX12_least wsX12_least ({ frames := 0, cells := 0, slots := 0, locals := 0 } : Room) [.int a1, .int a2] D ca sz [] (oQi D (fun (r : Int32) (u : Unit) => (rl 0 r a1) ∧ (rl 0 r a2)) (fun (u : Unit) => [])) 0 0 := by
  refine oM (cc := cX12_least) (maxL := 2) (ret := (some .int)) (by decide) rfl (Nat.le_of_ble_eq_true rfl) [(0, .int a1), (1, .int a2)] rfl ?_
  intro p e s m below meth c A H locs ls hx hb hr hml hts hown hlocks hin hK hP hD hA hS hl
  have hown : s.vm.findClass RX12 = some m.cls := hown
  refine lv_iload_n hx hb dX12_least_0 rfl (lv_at hl 0 rfl) ?_
  refine lv_iload_n hx hb dX12_least_1 rfl (lv_at hl 1 rfl) ?_
  refine lv_icmp_ge (tgt := 9) hx hb dX12_least_2 (by decide) (fun c_6 => ?_) (fun c_6 => ?_)
  · skip
    have o_7 : rl 0 a2 a1 := rl_le c_6
    refine lv_iload_n hx hb dX12_least_9 rfl (lv_at hl 1 rfl) ?_
    exact oE_i hx hb hr rfl hlocks hP hD hS () [] rfl (by decide) ⟨(show rl 0 a2 a1 from rlm (by have q0 := rle o_7; omega)), (show rl 0 a2 a2 from rlm (by omega))⟩ (Nat.le_of_ble_eq_true rfl) (Nat.le_of_ble_eq_true rfl) dX12_least_10
  · skip
    have o_8 : rl 1 a1 a2 := rl_nle c_6
    have h_9 : rg (-2147483648) 2147483646 a1 := rl_x o_8 (rga a1) (rga a2) (by decide) (by decide)
    have h_10 : rg (-2147483647) 2147483647 a2 := rl_y o_8 (rga a1) (rga a2) (by decide) (by decide)
    refine lv_iload_n hx hb dX12_least_5 rfl (lv_at hl 0 rfl) ?_
    refine lv_goto (tgt := 10) hx hb dX12_least_6 (by decide) ?_
    exact oE_i hx hb hr rfl hlocks hP hD hS () [] rfl (by decide) ⟨(show rl 0 a1 a1 from rlm (by omega)), (show rl 0 a1 a2 from rlm (by have q0 := rle o_8; omega))⟩ (Nat.le_of_ble_eq_true rfl) (Nat.le_of_ble_eq_true rfl) dX12_least_10
theorem dX12_tryOne_0 : decode cX12_tryOne 0 = .ok (.aload_n 0, 1) := by decide +kernel
theorem dX12_tryOne_1 : decode cX12_tryOne 1 = .ok (.invokevirtual 274, 3) := by decide +kernel
theorem dX12_tryOne_4 : decode cX12_tryOne 4 = .ok (.istore_n 2, 1) := by decide +kernel
theorem dX12_tryOne_5 : decode cX12_tryOne 5 = .ok (.aload_n 0, 1) := by decide +kernel
theorem dX12_tryOne_6 : decode cX12_tryOne 6 = .ok (.getfield 98, 3) := by decide +kernel
theorem dX12_tryOne_9 : decode cX12_tryOne 9 = .ok (.bipush 114, 2) := by decide +kernel
theorem dX12_tryOne_11 : decode cX12_tryOne 11 = .ok (.iload_n 1, 1) := by decide +kernel
theorem dX12_tryOne_12 : decode cX12_tryOne 12 = .ok (.iadd, 1) := by decide +kernel
theorem dX12_tryOne_13 : decode cX12_tryOne 13 = .ok (.aload_n 0, 1) := by decide +kernel
theorem dX12_tryOne_14 : decode cX12_tryOne 14 = .ok (.iload_n 2, 1) := by decide +kernel
theorem dX12_tryOne_15 : decode cX12_tryOne 15 = .ok (.aload_n 0, 1) := by decide +kernel
theorem dX12_tryOne_16 : decode cX12_tryOne 16 = .ok (.iload_n 1, 1) := by decide +kernel
theorem dX12_tryOne_17 : decode cX12_tryOne 17 = .ok (.invokevirtual 258, 3) := by decide +kernel
theorem dX12_tryOne_20 : decode cX12_tryOne 20 = .ok (.invokevirtual 277, 3) := by decide +kernel
theorem dX12_tryOne_23 : decode cX12_tryOne 23 = .ok (.ifCond .eq 7, 3) := by decide +kernel
theorem dX12_tryOne_26 : decode cX12_tryOne 26 = .ok (.iconst 1, 1) := by decide +kernel
theorem dX12_tryOne_27 : decode cX12_tryOne 27 = .ok (.goto 4, 3) := by decide +kernel
theorem dX12_tryOne_30 : decode cX12_tryOne 30 = .ok (.iconst 2, 1) := by decide +kernel
theorem dX12_tryOne_31 : decode cX12_tryOne 31 = .ok (.iastore, 1) := by decide +kernel
theorem dX12_tryOne_32 : decode cX12_tryOne 32 = .ok (.aload_n 0, 1) := by decide +kernel
theorem dX12_tryOne_33 : decode cX12_tryOne 33 = .ok (.getfield 98, 3) := by decide +kernel
theorem dX12_tryOne_36 : decode cX12_tryOne 36 = .ok (.bipush 119, 2) := by decide +kernel
theorem dX12_tryOne_38 : decode cX12_tryOne 38 = .ok (.iload_n 1, 1) := by decide +kernel
theorem dX12_tryOne_39 : decode cX12_tryOne 39 = .ok (.iadd, 1) := by decide +kernel
theorem dX12_tryOne_40 : decode cX12_tryOne 40 = .ok (.aload_n 0, 1) := by decide +kernel
theorem dX12_tryOne_41 : decode cX12_tryOne 41 = .ok (.getfield 98, 3) := by decide +kernel
theorem dX12_tryOne_44 : decode cX12_tryOne 44 = .ok (.bipush 89, 2) := by decide +kernel
theorem dX12_tryOne_46 : decode cX12_tryOne 46 = .ok (.iaload, 1) := by decide +kernel
theorem dX12_tryOne_47 : decode cX12_tryOne 47 = .ok (.iastore, 1) := by decide +kernel
theorem dX12_tryOne_48 : decode cX12_tryOne 48 = .ok (.aload_n 0, 1) := by decide +kernel
theorem dX12_tryOne_49 : decode cX12_tryOne 49 = .ok (.getfield 98, 3) := by decide +kernel
theorem dX12_tryOne_52 : decode cX12_tryOne 52 = .ok (.bipush 124, 2) := by decide +kernel
theorem dX12_tryOne_54 : decode cX12_tryOne 54 = .ok (.iload_n 1, 1) := by decide +kernel
theorem dX12_tryOne_55 : decode cX12_tryOne 55 = .ok (.iadd, 1) := by decide +kernel
theorem dX12_tryOne_56 : decode cX12_tryOne 56 = .ok (.iload_n 2, 1) := by decide +kernel
theorem dX12_tryOne_57 : decode cX12_tryOne 57 = .ok (.iastore, 1) := by decide +kernel
theorem dX12_tryOne_58 : decode cX12_tryOne 58 = .ok (.aload_n 0, 1) := by decide +kernel
theorem dX12_tryOne_59 : decode cX12_tryOne 59 = .ok (.getfield 98, 3) := by decide +kernel
theorem dX12_tryOne_62 : decode cX12_tryOne 62 = .ok (.sipush 129, 3) := by decide +kernel
theorem dX12_tryOne_65 : decode cX12_tryOne 65 = .ok (.iload_n 1, 1) := by decide +kernel
theorem dX12_tryOne_66 : decode cX12_tryOne 66 = .ok (.iadd, 1) := by decide +kernel
theorem dX12_tryOne_67 : decode cX12_tryOne 67 = .ok (.aload_n 0, 1) := by decide +kernel
theorem dX12_tryOne_68 : decode cX12_tryOne 68 = .ok (.getfield 98, 3) := by decide +kernel
theorem dX12_tryOne_71 : decode cX12_tryOne 71 = .ok (.bipush 90, 2) := by decide +kernel
theorem dX12_tryOne_73 : decode cX12_tryOne 73 = .ok (.iaload, 1) := by decide +kernel
theorem dX12_tryOne_74 : decode cX12_tryOne 74 = .ok (.aload_n 0, 1) := by decide +kernel
theorem dX12_tryOne_75 : decode cX12_tryOne 75 = .ok (.getfield 98, 3) := by decide +kernel
theorem dX12_tryOne_78 : decode cX12_tryOne 78 = .ok (.bipush 91, 2) := by decide +kernel
theorem dX12_tryOne_80 : decode cX12_tryOne 80 = .ok (.iaload, 1) := by decide +kernel
theorem dX12_tryOne_81 : decode cX12_tryOne 81 = .ok (.iand, 1) := by decide +kernel
theorem dX12_tryOne_82 : decode cX12_tryOne 82 = .ok (.iastore, 1) := by decide +kernel
theorem dX12_tryOne_83 : decode cX12_tryOne 83 = .ok (.aload_n 0, 1) := by decide +kernel
theorem dX12_tryOne_84 : decode cX12_tryOne 84 = .ok (.getfield 98, 3) := by decide +kernel
theorem dX12_tryOne_87 : decode cX12_tryOne 87 = .ok (.bipush 92, 2) := by decide +kernel
theorem dX12_tryOne_89 : decode cX12_tryOne 89 = .ok (.dup2, 1) := by decide +kernel
theorem dX12_tryOne_90 : decode cX12_tryOne 90 = .ok (.iaload, 1) := by decide +kernel
theorem dX12_tryOne_91 : decode cX12_tryOne 91 = .ok (.iconst 1, 1) := by decide +kernel
theorem dX12_tryOne_92 : decode cX12_tryOne 92 = .ok (.iadd, 1) := by decide +kernel
theorem dX12_tryOne_93 : decode cX12_tryOne 93 = .ok (.iastore, 1) := by decide +kernel
theorem dX12_tryOne_94 : decode cX12_tryOne 94 = .ok (.aload_n 0, 1) := by decide +kernel
theorem dX12_tryOne_95 : decode cX12_tryOne 95 = .ok (.getfield 98, 3) := by decide +kernel
theorem dX12_tryOne_98 : decode cX12_tryOne 98 = .ok (.bipush 93, 2) := by decide +kernel
theorem dX12_tryOne_100 : decode cX12_tryOne 100 = .ok (.iconst 1, 1) := by decide +kernel
theorem dX12_tryOne_101 : decode cX12_tryOne 101 = .ok (.iastore, 1) := by decide +kernel
theorem dX12_tryOne_102 : decode cX12_tryOne 102 = .ok (.iconst 0, 1) := by decide +kernel
theorem dX12_tryOne_103 : decode cX12_tryOne 103 = .ok (.istore_n 3, 1) := by decide +kernel
theorem dX12_tryOne_104 : decode cX12_tryOne 104 = .ok (.iload_n 3, 1) := by decide +kernel
theorem dX12_tryOne_105 : decode cX12_tryOne 105 = .ok (.bipush 10, 2) := by decide +kernel
theorem dX12_tryOne_107 : decode cX12_tryOne 107 = .ok (.if_icmp .ge 58, 3) := by decide +kernel
theorem dX12_tryOne_110 : decode cX12_tryOne 110 = .ok (.iload_n 2, 1) := by decide +kernel
theorem dX12_tryOne_111 : decode cX12_tryOne 111 = .ok (.iload_n 3, 1) := by decide +kernel
theorem dX12_tryOne_112 : decode cX12_tryOne 112 = .ok (.invokestatic 240, 3) := by decide +kernel
theorem dX12_tryOne_115 : decode cX12_tryOne 115 = .ok (.ifCond .ne 6, 3) := by decide +kernel
theorem dX12_tryOne_118 : decode cX12_tryOne 118 = .ok (.goto 41, 3) := by decide +kernel
theorem dX12_tryOne_121 : decode cX12_tryOne 121 = .ok (.aload_n 0, 1) := by decide +kernel
theorem dX12_tryOne_122 : decode cX12_tryOne 122 = .ok (.getfield 98, 3) := by decide +kernel
theorem dX12_tryOne_125 : decode cX12_tryOne 125 = .ok (.bipush 104, 2) := by decide +kernel
theorem dX12_tryOne_127 : decode cX12_tryOne 127 = .ok (.iload_n 3, 1) := by decide +kernel
theorem dX12_tryOne_128 : decode cX12_tryOne 128 = .ok (.iadd, 1) := by decide +kernel
theorem dX12_tryOne_129 : decode cX12_tryOne 129 = .ok (.dup2, 1) := by decide +kernel
theorem dX12_tryOne_130 : decode cX12_tryOne 130 = .ok (.iaload, 1) := by decide +kernel
theorem dX12_tryOne_131 : decode cX12_tryOne 131 = .ok (.iconst 1, 1) := by decide +kernel
theorem dX12_tryOne_132 : decode cX12_tryOne 132 = .ok (.iadd, 1) := by decide +kernel
theorem dX12_tryOne_133 : decode cX12_tryOne 133 = .ok (.iastore, 1) := by decide +kernel
theorem dX12_tryOne_134 : decode cX12_tryOne 134 = .ok (.aload_n 0, 1) := by decide +kernel
theorem dX12_tryOne_135 : decode cX12_tryOne 135 = .ok (.getfield 98, 3) := by decide +kernel
theorem dX12_tryOne_138 : decode cX12_tryOne 138 = .ok (.bipush 94, 2) := by decide +kernel
theorem dX12_tryOne_140 : decode cX12_tryOne 140 = .ok (.iload_n 3, 1) := by decide +kernel
theorem dX12_tryOne_141 : decode cX12_tryOne 141 = .ok (.iadd, 1) := by decide +kernel
theorem dX12_tryOne_142 : decode cX12_tryOne 142 = .ok (.bipush 20, 2) := by decide +kernel
theorem dX12_tryOne_144 : decode cX12_tryOne 144 = .ok (.aload_n 0, 1) := by decide +kernel
theorem dX12_tryOne_145 : decode cX12_tryOne 145 = .ok (.getfield 98, 3) := by decide +kernel
theorem dX12_tryOne_148 : decode cX12_tryOne 148 = .ok (.bipush 94, 2) := by decide +kernel
theorem dX12_tryOne_150 : decode cX12_tryOne 150 = .ok (.iload_n 3, 1) := by decide +kernel
theorem dX12_tryOne_151 : decode cX12_tryOne 151 = .ok (.iadd, 1) := by decide +kernel
theorem dX12_tryOne_152 : decode cX12_tryOne 152 = .ok (.iaload, 1) := by decide +kernel
theorem dX12_tryOne_153 : decode cX12_tryOne 153 = .ok (.iconst 1, 1) := by decide +kernel
theorem dX12_tryOne_154 : decode cX12_tryOne 154 = .ok (.iadd, 1) := by decide +kernel
theorem dX12_tryOne_155 : decode cX12_tryOne 155 = .ok (.invokestatic 279, 3) := by decide +kernel
theorem dX12_tryOne_158 : decode cX12_tryOne 158 = .ok (.iastore, 1) := by decide +kernel
theorem dX12_tryOne_159 : decode cX12_tryOne 159 = .ok (.iinc 3 1, 3) := by decide +kernel
theorem dX12_tryOne_162 : decode cX12_tryOne 162 = .ok (.goto (-58), 3) := by decide +kernel
theorem dX12_tryOne_165 : decode cX12_tryOne 165 = .ok (.return_, 1) := by decide +kernel
set_option maxRecDepth 20000 in
theorem ggX12_tryOne_X12_droppers : GoodIn wsX12_tryOne wsX12_droppers := goodIn_r _ [6, 1, 35, 36, 37, 38, 39, 40, 41, 42, 43, 44, 45, 46, 47, 48, 49, 50, 51, 52, 53, 54, 55, 56, 57, 58, 59, 60, 61, 62, 63, 64, 65, 66, 67, 68, 69, 70, 71, 72, 73, 74, 75, 76, 77, 78, 79, 80, 81, 82] rfl (by decide +kernel)
set_option maxRecDepth 20000 in
theorem gX12_tryOne_X12_droppers : GoodIn wsX12_tryOne (wsV RX12 274 RX12 yX12_droppers wsX12_droppers) := goodIn_app (goodIn_of _ (by decide +kernel)) ggX12_tryOne_X12_droppers
set_option maxRecDepth 20000 in
theorem ggX12_tryOne_X12_floorOf : GoodIn wsX12_tryOne wsX12_floorOf := goodIn_r _ [10, 1, 35, 36, 37, 38, 39, 40, 41, 42, 43, 44, 45, 46, 47, 48, 49, 50, 51, 52, 53, 54, 55, 56, 57, 58, 59, 60, 61, 62, 63, 64, 65, 66, 67, 68, 69, 70, 71, 72, 73, 74, 75, 76, 77, 78, 79, 80, 81, 82] rfl (by decide +kernel)
set_option maxRecDepth 20000 in
theorem gX12_tryOne_X12_floorOf : GoodIn wsX12_tryOne (wsV RX12 258 RX12 yX12_floorOf wsX12_floorOf) := goodIn_app (goodIn_of _ (by decide +kernel)) ggX12_tryOne_X12_floorOf
set_option maxRecDepth 20000 in
theorem ggX12_tryOne_X12_isOneRing_ : GoodIn wsX12_tryOne wsX12_isOneRing_ := goodIn_r _ [14, 15, 16, 17, 5, 18, 19, 20, 1, 21, 22, 23, 24, 25, 26, 27, 28, 29, 30, 31, 35, 36, 37, 38, 39, 40, 41, 42, 43, 44, 45, 46, 47, 48, 49, 50, 51, 52, 53, 54, 55, 56, 57, 58, 59, 60, 61, 62, 63, 64, 65, 66, 67, 68, 69, 70, 71, 72, 73, 74, 75, 76, 77, 78, 79, 80, 81, 82] rfl (by decide +kernel)
set_option maxRecDepth 20000 in
theorem gX12_tryOne_X12_isOneRing_ : GoodIn wsX12_tryOne (wsV RX12 277 RX12 yX12_isOneRing_ wsX12_isOneRing_) := goodIn_app (goodIn_of _ (by decide +kernel)) ggX12_tryOne_X12_isOneRing_
set_option maxRecDepth 20000 in
theorem ggX12_tryOne_X12_has : GoodIn wsX12_tryOne wsX12_has := goodIn_r _ [27] rfl (by decide +kernel)
set_option maxRecDepth 20000 in
theorem gX12_tryOne_X12_has : GoodIn wsX12_tryOne (va_wsS RX12 240 yX12_has wsX12_has) := goodIn_app (goodIn_of _ (by decide +kernel)) ggX12_tryOne_X12_has
set_option maxRecDepth 20000 in
theorem ggX12_tryOne_X12_least : GoodIn wsX12_tryOne wsX12_least := goodIn_r _ [34] rfl (by decide +kernel)
set_option maxRecDepth 20000 in
theorem gX12_tryOne_X12_least : GoodIn wsX12_tryOne (va_wsS RX12 279 yX12_least wsX12_least) := goodIn_app (goodIn_of _ (by decide +kernel)) ggX12_tryOne_X12_least
set_option maxHeartbeats 4000000 in
set_option maxRecDepth 100000 in
theorem s_X12_tryOne (l : Launch) (D : va_G) (ca : Nat → ClassId) (sz : Nat) (h0 : Nat) (a1 : Int32) (h0_thrown : Int32) (h0_tape : Nat) (h0_taped : Int32) (h0_size : Int32) (h0_limit : Int32) (h0_to : Int32) (h0_from : Int32) (h0_kind : Int32) (h0_number : Int32) (h0_sign : Int32) (h0_fault : Int32) (h0_place : Int32) (h0_word : Int64) (h0_told : Int32) (h0_now : Nat) (h0_read : Nat) (h0_kept : Nat) (h0_snaps : Nat) (h0_aside : Nat) (h0_name : Nat) (h0_readName : Nat) (h0_keptName : Nat) (h0_isKept : Nat) (h0_onces : Nat) (h0_snapMany : Int32) (h0_lowest : Int32) (h0_highest : Int32) (h0_agreed : Int32) (h0_jurors : Int32) (h0_panelled : Int32) (h0_inSets : Nat) (h0_surely : Int32) (h0_asked : Int32) (h0_frees : Nat) (h0_struck : Int32) (h0_beating : Int32) (h0_text : Nat) (h0_texts : Int32) (h0_seed : Int32) (h0_line : Nat) (h0_written : Nat) (h0_lineMany : Int32) (h0_hasWritten : Int32) (h0_node : Nat) (h0_nodes : Int32) (h0_onesMany : Int32) (h0_within : Int32) (h0_top : Int32) (F_h0_now : Nat → Int32) (i_a1 : rg 0 4 a1) (i_h0_taped : rg 0 940 h0_taped) (i_h0_size : rg 0 940 h0_size) (i_h0_to : rg 0 940 h0_to) (i_h0_kind : rg 0 4 h0_kind) (i_h0_snapMany : rg 0 8 h0_snapMany) (i_h0_texts : rg 0 64 h0_texts) (i_h0_lineMany : rg 0 40 h0_lineMany) (i_h0_hasWritten : rg 0 1 h0_hasWritten) (i_h0_nodes : rg 0 60 h0_nodes) (i_h0_onesMany : rg 0 20 h0_onesMany) (s_h0_now_0 : sg 0 1 0 10 F_h0_now) (s_h0_now_1 : sg 1 2 0 4 F_h0_now) (s_h0_now_2 : sg 2 3 0 5 F_h0_now) (s_h0_now_3 : sg 35 36 0 1023 F_h0_now) (s_h0_now_4 : sg 44 49 0 3 F_h0_now) (s_h0_now_5 : sg 90 91 0 1023 F_h0_now) (s_h0_now_6 : sg 124 129 0 1023 F_h0_now) (s_h0_now_7 : sg 135 136 0 39 F_h0_now) : oMet l yX12_tryOne wsX12_tryOne ({ frames := 4, cells := 0, slots := 0, locals := 95 } : Room) [.ref h0, .int a1] D ca sz [(h0, .inr (11, [.int h0_thrown, .ref h0_tape, .int h0_taped, .int h0_size, .int h0_limit, .int h0_to, .int h0_from, .int h0_kind, .int h0_number, .int h0_sign, .int h0_fault, .int h0_place, .long h0_word, .int h0_told, .ref h0_now, .ref h0_read, .ref h0_kept, .ref h0_snaps, .ref h0_aside, .ref h0_name, .ref h0_readName, .ref h0_keptName, .ref h0_isKept, .ref h0_onces, .int h0_snapMany, .int h0_lowest, .int h0_highest, .int h0_agreed, .int h0_jurors, .int h0_panelled, .ref h0_inSets, .int h0_surely, .int h0_asked, .ref h0_frees, .int h0_struck, .int h0_beating, .ref h0_text, .int h0_texts, .int h0_seed, .ref h0_line, .ref h0_written, .int h0_lineMany, .int h0_hasWritten, .ref h0_node, .int h0_nodes, .int h0_onesMany, .int h0_within, .int h0_top])), (aI ca h0_now 376 F_h0_now)] (oQv D (fun (u : Int32 × Int32 × (Nat → Int32)) => (rg 0 1000 u.1) ∧ (rg (-1) 2147483647 u.2.1) ∧ (sg 0 1 0 10 u.2.2) ∧ (sg 1 2 0 4 u.2.2) ∧ (sg 2 3 0 5 u.2.2) ∧ (sg 35 36 0 1023 u.2.2) ∧ (sg 44 49 0 3 u.2.2) ∧ (sg 90 91 0 1023 u.2.2) ∧ (sg 124 129 0 1023 u.2.2) ∧ (sg 135 136 0 39 u.2.2) ∧ (sg 93 94 1 1 u.2.2) ∧ (eqs 134 376 u.2.2 F_h0_now) ∧ (eqs 0 92 u.2.2 F_h0_now)) (fun (u : Int32 × Int32 × (Nat → Int32)) => [(h0, .inr (11, [.int h0_thrown, .ref h0_tape, .int h0_taped, .int h0_size, .int h0_limit, .int h0_to, .int h0_from, .int h0_kind, .int h0_number, .int h0_sign, .int h0_fault, .int h0_place, .long h0_word, .int h0_told, .ref h0_now, .ref h0_read, .ref h0_kept, .ref h0_snaps, .ref h0_aside, .ref h0_name, .ref h0_readName, .ref h0_keptName, .ref h0_isKept, .ref h0_onces, .int h0_snapMany, .int u.1, .int u.2.1, .int h0_agreed, .int h0_jurors, .int h0_panelled, .ref h0_inSets, .int h0_surely, .int h0_asked, .ref h0_frees, .int h0_struck, .int h0_beating, .ref h0_text, .int h0_texts, .int h0_seed, .ref h0_line, .ref h0_written, .int h0_lineMany, .int h0_hasWritten, .ref h0_node, .int h0_nodes, .int h0_onesMany, .int h0_within, .int h0_top])), (aI ca h0_now 376 u.2.2)])) 0 0 := by
  refine oM (cc := cX12_tryOne) (maxL := 4) (ret := none) (by decide) rfl (Nat.le_of_ble_eq_true rfl) [(0, .ref h0), (1, .int a1)] rfl ?_
  intro p e s m below meth c A H locs ls hx hb hr hml hts hown hlocks hin hK hP hD hA hS hl
  have hown : s.vm.findClass RX12 = some m.cls := hown
  have k1 := hts (.fieldLink RX12 98 "LidCourtModel" "now" "[I") (by decide +kernel)
  have k2 : ∀ w ∈ wsX120, w ∈ wsX12_tryOne := fun _ h => List.mem_cons_of_mem _ (List.mem_append_right _ h)
  have J104_576 : ∀ (n : Nat) (y104_0 : Int32) (y104_1 : Int32) (y104_2 : Int32) (y104_3 : Int32) (f104_4 : Nat → Int32), True → rg 0 1023 y104_0 → rg 0 10 y104_1 → rg 0 1000 y104_2 → rg (-1) 2147483647 y104_3 → sg 0 1 0 10 f104_4 → sg 1 2 0 4 f104_4 → sg 2 3 0 5 f104_4 → sg 35 36 0 1023 f104_4 → sg 44 49 0 3 f104_4 → sg 90 91 0 1023 f104_4 → sg 124 129 0 1023 f104_4 → sg 135 136 0 39 f104_4 → sg 93 94 1 1 f104_4 → eqs 134 376 f104_4 F_h0_now → eqs 0 92 f104_4 F_h0_now → 10 < y104_1.toInt + (n : Int) → ∀ (H : Heap) (locs : List Loc) (ls : Array Slot), va_P D vwCl [(h0, .inr (11, [.int h0_thrown, .ref h0_tape, .int h0_taped, .int h0_size, .int h0_limit, .int h0_to, .int h0_from, .int h0_kind, .int h0_number, .int h0_sign, .int h0_fault, .int h0_place, .long h0_word, .int h0_told, .ref h0_now, .ref h0_read, .ref h0_kept, .ref h0_snaps, .ref h0_aside, .ref h0_name, .ref h0_readName, .ref h0_keptName, .ref h0_isKept, .ref h0_onces, .int h0_snapMany, .int y104_2, .int y104_3, .int h0_agreed, .int h0_jurors, .int h0_panelled, .ref h0_inSets, .int h0_surely, .int h0_asked, .ref h0_frees, .int h0_struck, .int h0_beating, .ref h0_text, .int h0_texts, .int h0_seed, .ref h0_line, .ref h0_written, .int h0_lineMany, .int h0_hasWritten, .ref h0_node, .int h0_nodes, .int h0_onesMany, .int h0_within, .int h0_top])), (aI ca h0_now 376 f104_4)] H → va_D A [(h0, .inr (11, [.int h0_thrown, .ref h0_tape, .int h0_taped, .int h0_size, .int h0_limit, .int h0_to, .int h0_from, .int h0_kind, .int h0_number, .int h0_sign, .int h0_fault, .int h0_place, .long h0_word, .int h0_told, .ref h0_now, .ref h0_read, .ref h0_kept, .ref h0_snaps, .ref h0_aside, .ref h0_name, .ref h0_readName, .ref h0_keptName, .ref h0_isKept, .ref h0_onces, .int h0_snapMany, .int y104_2, .int y104_3, .int h0_agreed, .int h0_jurors, .int h0_panelled, .ref h0_inSets, .int h0_surely, .int h0_asked, .ref h0_frees, .int h0_struck, .int h0_beating, .ref h0_text, .int h0_texts, .int h0_seed, .ref h0_line, .ref h0_written, .int h0_lineMany, .int h0_hasWritten, .ref h0_node, .int h0_nodes, .int h0_onesMany, .int h0_within, .int h0_top])), (aI ca h0_now 376 f104_4)] → va_S A s.heap H locs → lv_has ls 4 [(0, .ref h0), (2, .int y104_0), (3, .int y104_1)] → W p l e ({ frames := 4, cells := 0, slots := 0, locals := 95 } : Room) s m ([.ref h0, .int a1] : List Value).toArray below meth c H locs 0 0 (MQ below ((oQv D (fun (u : Int32 × Int32 × (Nat → Int32)) => (rg 0 1000 u.1) ∧ (rg (-1) 2147483647 u.2.1) ∧ (sg 0 1 0 10 u.2.2) ∧ (sg 1 2 0 4 u.2.2) ∧ (sg 2 3 0 5 u.2.2) ∧ (sg 35 36 0 1023 u.2.2) ∧ (sg 44 49 0 3 u.2.2) ∧ (sg 90 91 0 1023 u.2.2) ∧ (sg 124 129 0 1023 u.2.2) ∧ (sg 135 136 0 39 u.2.2) ∧ (sg 93 94 1 1 u.2.2) ∧ (eqs 134 376 u.2.2 F_h0_now) ∧ (eqs 0 92 u.2.2 F_h0_now)) (fun (u : Int32 × Int32 × (Nat → Int32)) => [(h0, .inr (11, [.int h0_thrown, .ref h0_tape, .int h0_taped, .int h0_size, .int h0_limit, .int h0_to, .int h0_from, .int h0_kind, .int h0_number, .int h0_sign, .int h0_fault, .int h0_place, .long h0_word, .int h0_told, .ref h0_now, .ref h0_read, .ref h0_kept, .ref h0_snaps, .ref h0_aside, .ref h0_name, .ref h0_readName, .ref h0_keptName, .ref h0_isKept, .ref h0_onces, .int h0_snapMany, .int u.1, .int u.2.1, .int h0_agreed, .int h0_jurors, .int h0_panelled, .ref h0_inSets, .int h0_surely, .int h0_asked, .ref h0_frees, .int h0_struck, .int h0_beating, .ref h0_text, .int h0_texts, .int h0_seed, .ref h0_line, .ref h0_written, .int h0_lineMany, .int h0_hasWritten, .ref h0_node, .int h0_nodes, .int h0_onesMany, .int h0_within, .int h0_top])), (aI ca h0_now 376 u.2.2)])) A) ([.ref h0, .int a1] : List Value).toArray s 0 0 A) (F0 m 104 ls []) := by
    intro n
    induction n with
    | zero => intro y104_0 y104_1 y104_2 y104_3 f104_4 _ hy104_0 hy104_1 hy104_2 hy104_3 s104_5 s104_6 s104_7 s104_8 s104_9 s104_10 s104_11 s104_12 s104_13 e104_14 e104_15 hn; exact absurd hn (by have q9 := hy104_1.2; omega)
    | succ n ih =>
      intro y104_0 y104_1 y104_2 y104_3 f104_4 _ hy104_0 hy104_1 hy104_2 hy104_3 s104_5 s104_6 s104_7 s104_8 s104_9 s104_10 s104_11 s104_12 s104_13 e104_14 e104_15 hn H locs ls hP hD hS hl
      have J159_633 : ∀ (f159_0 : Nat → Int32), sg 0 1 0 10 f159_0 → sg 1 2 0 4 f159_0 → sg 2 3 0 5 f159_0 → sg 35 36 0 1023 f159_0 → sg 44 49 0 3 f159_0 → sg 90 91 0 1023 f159_0 → sg 124 129 0 1023 f159_0 → sg 135 136 0 39 f159_0 → sg 93 94 1 1 f159_0 → eqs 134 376 f159_0 F_h0_now → eqs 0 92 f159_0 F_h0_now → rg 0 9 y104_1 → ∀ (H : Heap) (locs : List Loc) (ls : Array Slot), va_P D vwCl [(h0, .inr (11, [.int h0_thrown, .ref h0_tape, .int h0_taped, .int h0_size, .int h0_limit, .int h0_to, .int h0_from, .int h0_kind, .int h0_number, .int h0_sign, .int h0_fault, .int h0_place, .long h0_word, .int h0_told, .ref h0_now, .ref h0_read, .ref h0_kept, .ref h0_snaps, .ref h0_aside, .ref h0_name, .ref h0_readName, .ref h0_keptName, .ref h0_isKept, .ref h0_onces, .int h0_snapMany, .int y104_2, .int y104_3, .int h0_agreed, .int h0_jurors, .int h0_panelled, .ref h0_inSets, .int h0_surely, .int h0_asked, .ref h0_frees, .int h0_struck, .int h0_beating, .ref h0_text, .int h0_texts, .int h0_seed, .ref h0_line, .ref h0_written, .int h0_lineMany, .int h0_hasWritten, .ref h0_node, .int h0_nodes, .int h0_onesMany, .int h0_within, .int h0_top])), (aI ca h0_now 376 f159_0)] H → va_D A [(h0, .inr (11, [.int h0_thrown, .ref h0_tape, .int h0_taped, .int h0_size, .int h0_limit, .int h0_to, .int h0_from, .int h0_kind, .int h0_number, .int h0_sign, .int h0_fault, .int h0_place, .long h0_word, .int h0_told, .ref h0_now, .ref h0_read, .ref h0_kept, .ref h0_snaps, .ref h0_aside, .ref h0_name, .ref h0_readName, .ref h0_keptName, .ref h0_isKept, .ref h0_onces, .int h0_snapMany, .int y104_2, .int y104_3, .int h0_agreed, .int h0_jurors, .int h0_panelled, .ref h0_inSets, .int h0_surely, .int h0_asked, .ref h0_frees, .int h0_struck, .int h0_beating, .ref h0_text, .int h0_texts, .int h0_seed, .ref h0_line, .ref h0_written, .int h0_lineMany, .int h0_hasWritten, .ref h0_node, .int h0_nodes, .int h0_onesMany, .int h0_within, .int h0_top])), (aI ca h0_now 376 f159_0)] → va_S A s.heap H locs → lv_has ls 4 [(0, .ref h0), (2, .int y104_0), (3, .int y104_1)] → W p l e ({ frames := 4, cells := 0, slots := 0, locals := 95 } : Room) s m ([.ref h0, .int a1] : List Value).toArray below meth c H locs 0 0 (MQ below ((oQv D (fun (u : Int32 × Int32 × (Nat → Int32)) => (rg 0 1000 u.1) ∧ (rg (-1) 2147483647 u.2.1) ∧ (sg 0 1 0 10 u.2.2) ∧ (sg 1 2 0 4 u.2.2) ∧ (sg 2 3 0 5 u.2.2) ∧ (sg 35 36 0 1023 u.2.2) ∧ (sg 44 49 0 3 u.2.2) ∧ (sg 90 91 0 1023 u.2.2) ∧ (sg 124 129 0 1023 u.2.2) ∧ (sg 135 136 0 39 u.2.2) ∧ (sg 93 94 1 1 u.2.2) ∧ (eqs 134 376 u.2.2 F_h0_now) ∧ (eqs 0 92 u.2.2 F_h0_now)) (fun (u : Int32 × Int32 × (Nat → Int32)) => [(h0, .inr (11, [.int h0_thrown, .ref h0_tape, .int h0_taped, .int h0_size, .int h0_limit, .int h0_to, .int h0_from, .int h0_kind, .int h0_number, .int h0_sign, .int h0_fault, .int h0_place, .long h0_word, .int h0_told, .ref h0_now, .ref h0_read, .ref h0_kept, .ref h0_snaps, .ref h0_aside, .ref h0_name, .ref h0_readName, .ref h0_keptName, .ref h0_isKept, .ref h0_onces, .int h0_snapMany, .int u.1, .int u.2.1, .int h0_agreed, .int h0_jurors, .int h0_panelled, .ref h0_inSets, .int h0_surely, .int h0_asked, .ref h0_frees, .int h0_struck, .int h0_beating, .ref h0_text, .int h0_texts, .int h0_seed, .ref h0_line, .ref h0_written, .int h0_lineMany, .int h0_hasWritten, .ref h0_node, .int h0_nodes, .int h0_onesMany, .int h0_within, .int h0_top])), (aI ca h0_now 376 u.2.2)])) A) ([.ref h0, .int a1] : List Value).toArray s 0 0 A) (F0 m 159 ls []) := by
        intro f159_0 s159_1 s159_2 s159_3 s159_4 s159_5 s159_6 s159_7 s159_8 s159_9 e159_10 e159_11 t159_y104_1 H locs ls hP hD hS hl
        obtain ⟨x_634, ex_634⟩ : ∃ y : Int32, y = y104_1 + 1 := ⟨_, rfl⟩
        have h_635 : rg 1 10 x_634 := by rw [ex_634]; exact rg_add t159_y104_1 (⟨by decide, by decide⟩ : rg 1 1 (1 : Int32)) (by decide) (by decide) (by decide) (by decide)
        have l_636 : lq x_634.toInt (y104_1.toInt + 1) := lqm (by rw [ex_634]; have q := tadd t159_y104_1 (⟨by decide, by decide⟩ : rg 1 1 (1 : Int32)) (by decide) (by decide); have r1 := lqe (lqm (by decide) : lq (1 : Int32).toInt 1); omega)
        refine lv_iinc (v := x_634) (lv' := [(3, .int x_634), (0, .ref h0), (2, .int y104_0)]) hx hb dX12_tryOne_159 hl (k := 2) rfl (by rw [ex_634]; rfl) (by decide) rfl (fun ls hl => ?_)
        refine lv_goto (tgt := 104) hx hb dX12_tryOne_162 (by decide) ?_
        exact ih y104_0 x_634 y104_2 y104_3 f159_0 trivial hy104_0 (rgw (lo := 0) (hi := 10) h_635 (by decide) (by decide)) hy104_2 hy104_3 s159_1 s159_2 s159_3 s159_4 s159_5 s159_6 s159_7 s159_8 s159_9 e159_10 e159_11 (by have q0 := lqe l_636; omega) H locs ls (oPsub hP [0, 1] rfl) (hD.sub [0, 1] (by decide) rfl) hS (lv_sub hl [1, 2, 0] rfl)
      refine lv_iload_n hx hb dX12_tryOne_104 rfl (lv_at hl 2 rfl) ?_
      refine lv_bipush (v := 10) hx hb dX12_tryOne_105 (by decide) ?_
      refine lv_icmp_ge (tgt := 165) hx hb dX12_tryOne_107 (by decide) (fun c_637 => ?_) (fun c_637 => ?_)
      · skip
        have o_638 : rl 0 10 y104_1 := rl_le c_637
        have h_639 : rg 10 10 y104_1 := rl_y o_638 (⟨by decide, by decide⟩ : rg 10 10 (10 : Int32)) hy104_1 (by decide) (by decide)
        exact oE_v hx hb hr hlocks hP hD hS (y104_2, y104_3, f104_4) [0, 1] rfl (by decide) ⟨hy104_2, hy104_3, s104_5, s104_6, s104_7, s104_8, s104_9, s104_10, s104_11, s104_12, s104_13, e104_14, e104_15⟩ (Nat.le_of_ble_eq_true rfl) (Nat.le_of_ble_eq_true rfl) dX12_tryOne_165
      · skip
        have o_640 : rl 1 y104_1 10 := rl_nle c_637
        have h_641 : rg 0 9 y104_1 := rl_x o_640 hy104_1 (⟨by decide, by decide⟩ : rg 10 10 (10 : Int32)) (by decide) (by decide)
        refine lv_iload_n hx hb dX12_tryOne_110 rfl (lv_at hl 1 rfl) ?_
        refine lv_iload_n hx hb dX12_tryOne_111 rfl (lv_at hl 2 rfl) ?_
        refine oC_i (Wc := []) (Wr := [(h0, .inr (11, [.int h0_thrown, .ref h0_tape, .int h0_taped, .int h0_size, .int h0_limit, .int h0_to, .int h0_from, .int h0_kind, .int h0_number, .int h0_sign, .int h0_fault, .int h0_place, .long h0_word, .int h0_told, .ref h0_now, .ref h0_read, .ref h0_kept, .ref h0_snaps, .ref h0_aside, .ref h0_name, .ref h0_readName, .ref h0_keptName, .ref h0_isKept, .ref h0_onces, .int h0_snapMany, .int y104_2, .int y104_3, .int h0_agreed, .int h0_jurors, .int h0_panelled, .ref h0_inSets, .int h0_surely, .int h0_asked, .ref h0_frees, .int h0_struck, .int h0_beating, .ref h0_text, .int h0_texts, .int h0_seed, .ref h0_line, .ref h0_written, .int h0_lineMany, .int h0_hasWritten, .ref h0_node, .int h0_nodes, .int h0_onesMany, .int h0_within, .int h0_top])), (aI ca h0_now 376 f104_4)]) (va_runS (As := [.int y104_0, .int y104_1]) (rest := []) ⟨hx, hb, hml, hown, hts⟩ (s_X12_has l D ca H.size y104_0 y104_1) (va_cwS 2 hts gX12_tryOne_X12_has rfl rfl rfl (by decide +kernel) ⟨Nat.le_of_ble_eq_true rfl, Nat.le_of_ble_eq_true rfl⟩) (oPS hK hP hD [] rfl (by decide)) rfl rfl hl.1 rfl (lv_room (Nat.le_of_ble_eq_true rfl)) dX12_tryOne_112 ⟨Nat.le_of_ble_eq_true rfl, Nat.le_of_ble_eq_true rfl⟩) hP hD hS hA [] [0, 1] rfl rfl (by decide) (by decide) (fun r_642 u H locs w_643 hP hD hS => ?_)
        obtain ⟨⟩ := u
        have hP : va_P D vwCl [(h0, .inr (11, [.int h0_thrown, .ref h0_tape, .int h0_taped, .int h0_size, .int h0_limit, .int h0_to, .int h0_from, .int h0_kind, .int h0_number, .int h0_sign, .int h0_fault, .int h0_place, .long h0_word, .int h0_told, .ref h0_now, .ref h0_read, .ref h0_kept, .ref h0_snaps, .ref h0_aside, .ref h0_name, .ref h0_readName, .ref h0_keptName, .ref h0_isKept, .ref h0_onces, .int h0_snapMany, .int y104_2, .int y104_3, .int h0_agreed, .int h0_jurors, .int h0_panelled, .ref h0_inSets, .int h0_surely, .int h0_asked, .ref h0_frees, .int h0_struck, .int h0_beating, .ref h0_text, .int h0_texts, .int h0_seed, .ref h0_line, .ref h0_written, .int h0_lineMany, .int h0_hasWritten, .ref h0_node, .int h0_nodes, .int h0_onesMany, .int h0_within, .int h0_top])), (aI ca h0_now 376 f104_4)] H := hP
        have hD : va_D A [(h0, .inr (11, [.int h0_thrown, .ref h0_tape, .int h0_taped, .int h0_size, .int h0_limit, .int h0_to, .int h0_from, .int h0_kind, .int h0_number, .int h0_sign, .int h0_fault, .int h0_place, .long h0_word, .int h0_told, .ref h0_now, .ref h0_read, .ref h0_kept, .ref h0_snaps, .ref h0_aside, .ref h0_name, .ref h0_readName, .ref h0_keptName, .ref h0_isKept, .ref h0_onces, .int h0_snapMany, .int y104_2, .int y104_3, .int h0_agreed, .int h0_jurors, .int h0_panelled, .ref h0_inSets, .int h0_surely, .int h0_asked, .ref h0_frees, .int h0_struck, .int h0_beating, .ref h0_text, .int h0_texts, .int h0_seed, .ref h0_line, .ref h0_written, .int h0_lineMany, .int h0_hasWritten, .ref h0_node, .int h0_nodes, .int h0_onesMany, .int h0_within, .int h0_top])), (aI ca h0_now 376 f104_4)] := hD
        try dsimp only at w_643
        rcases w_643 with ⟨h_644, h_645⟩ | ⟨h_646, h_647⟩
        · skip
          subst h_644
          refine lv_if_ne (tgt := 121) hx hb dX12_tryOne_115 (by decide) (fun c => absurd (by decide) c) (fun _ => ?_)
          refine lv_goto (tgt := 159) hx hb dX12_tryOne_118 (by decide) ?_
          exact J159_633 f104_4 s104_5 s104_6 s104_7 s104_8 s104_9 s104_10 s104_11 s104_12 s104_13 e104_14 e104_15 h_641 H locs ls (oPsub hP [0, 1] rfl) (hD.sub [0, 1] (by decide) rfl) hS (lv_sub hl [0, 1, 2] rfl)
        · skip
          subst h_646
          refine lv_if_ne (tgt := 121) hx hb dX12_tryOne_115 (by decide) (fun _ => ?_) (fun c => absurd c (by decide))
          refine lv_aload_n hx hb dX12_tryOne_121 rfl (lv_at hl 0 rfl) ?_
          refine va_get (D := D) (ci := 11) (v := .ref h0_now) (C := RX12) (T := TX12) (N := 48) hx hb hts k2 hown hK.1 hP 0 rfl rfl 14 (by decide) k1 (fun _ h9 => h9) rfl dX12_tryOne_122 ?_
          refine lv_bipush (v := 104) hx hb dX12_tryOne_125 (by decide) ?_
          refine lv_iload_n hx hb dX12_tryOne_127 rfl (lv_at hl 2 rfl) ?_
          refine lv_iadd hx hb dX12_tryOne_128 ?_
          refine lv_topi (fun x_648 ex_648 => ?_)
          have h_649 : rg 104 113 x_648 := by rw [ex_648]; exact rg_add (⟨by decide, by decide⟩ : rg 104 104 (104 : Int32)) h_641 (by decide) (by decide) (by decide) (by decide)
          have l_650 : lq x_648.toInt (y104_1.toInt + 104) := lqm (by rw [ex_648]; have q := tadd (⟨by decide, by decide⟩ : rg 104 104 (104 : Int32)) h_641 (by decide) (by decide); have r0 := lqe (lqm (by decide) : lq (104 : Int32).toInt 104); omega)
          refine lv_dup2_11 hx hb dX12_tryOne_129 rfl rfl ?_
          refine va_iald hx hb hK.1 hP 1 0 rfl rfl (rg_in h_649 (by decide) (by decide)) dX12_tryOne_130 ?_
          refine lv_topi (fun x_651 ex_651 => ?_)
          refine lv_iconst (v := 1) hx hb dX12_tryOne_131 (by decide) ?_
          refine lv_iadd hx hb dX12_tryOne_132 ?_
          refine lv_topi (fun x_652 ex_652 => ?_)
          refine va_iast hx hb hK.1 hP hD hS 1 0 rfl rfl (rg_in h_649 (by decide) (by decide)) dX12_tryOne_133 (fun H locs hP hD hS => ?_)
          obtain ⟨g_653, eg_653⟩ : ∃ y : Nat → Int32, y = upd f104_4 (x_648 : Int32).toNatClampNeg (x_652 : Int32) := ⟨_, rfl⟩
          rw [← eg_653] at hP hD
          have s_654 : sg 0 1 0 10 g_653 := sg_out s104_5 eg_653 h_649 (by decide) (by decide)
          have s_655 : sg 1 2 0 4 g_653 := sg_out s104_6 eg_653 h_649 (by decide) (by decide)
          have s_656 : sg 2 3 0 5 g_653 := sg_out s104_7 eg_653 h_649 (by decide) (by decide)
          have s_657 : sg 35 36 0 1023 g_653 := sg_out s104_8 eg_653 h_649 (by decide) (by decide)
          have s_658 : sg 44 49 0 3 g_653 := sg_out s104_9 eg_653 h_649 (by decide) (by decide)
          have s_659 : sg 90 91 0 1023 g_653 := sg_out s104_10 eg_653 h_649 (by decide) (by decide)
          have s_660 : sg 124 129 0 1023 g_653 := sg_out s104_11 eg_653 h_649 (by decide) (by decide)
          have s_661 : sg 135 136 0 39 g_653 := sg_out s104_12 eg_653 h_649 (by decide) (by decide)
          have s_662 : sg 93 94 1 1 g_653 := sg_out s104_13 eg_653 h_649 (by decide) (by decide)
          have q_663 : eqs 134 376 g_653 F_h0_now := eqs_out e104_14 eg_653 h_649 (by decide) (by decide) (by decide) (by decide)
          have q_664 : eqs 0 92 g_653 F_h0_now := eqs_out e104_15 eg_653 h_649 (by decide) (by decide) (by decide) (by decide)
          have hP : va_P D vwCl [(h0, .inr (11, [.int h0_thrown, .ref h0_tape, .int h0_taped, .int h0_size, .int h0_limit, .int h0_to, .int h0_from, .int h0_kind, .int h0_number, .int h0_sign, .int h0_fault, .int h0_place, .long h0_word, .int h0_told, .ref h0_now, .ref h0_read, .ref h0_kept, .ref h0_snaps, .ref h0_aside, .ref h0_name, .ref h0_readName, .ref h0_keptName, .ref h0_isKept, .ref h0_onces, .int h0_snapMany, .int y104_2, .int y104_3, .int h0_agreed, .int h0_jurors, .int h0_panelled, .ref h0_inSets, .int h0_surely, .int h0_asked, .ref h0_frees, .int h0_struck, .int h0_beating, .ref h0_text, .int h0_texts, .int h0_seed, .ref h0_line, .ref h0_written, .int h0_lineMany, .int h0_hasWritten, .ref h0_node, .int h0_nodes, .int h0_onesMany, .int h0_within, .int h0_top])), (aI ca h0_now 376 g_653)] H := hP
          have hD : va_D A [(h0, .inr (11, [.int h0_thrown, .ref h0_tape, .int h0_taped, .int h0_size, .int h0_limit, .int h0_to, .int h0_from, .int h0_kind, .int h0_number, .int h0_sign, .int h0_fault, .int h0_place, .long h0_word, .int h0_told, .ref h0_now, .ref h0_read, .ref h0_kept, .ref h0_snaps, .ref h0_aside, .ref h0_name, .ref h0_readName, .ref h0_keptName, .ref h0_isKept, .ref h0_onces, .int h0_snapMany, .int y104_2, .int y104_3, .int h0_agreed, .int h0_jurors, .int h0_panelled, .ref h0_inSets, .int h0_surely, .int h0_asked, .ref h0_frees, .int h0_struck, .int h0_beating, .ref h0_text, .int h0_texts, .int h0_seed, .ref h0_line, .ref h0_written, .int h0_lineMany, .int h0_hasWritten, .ref h0_node, .int h0_nodes, .int h0_onesMany, .int h0_within, .int h0_top])), (aI ca h0_now 376 g_653)] := hD
          refine lv_aload_n hx hb dX12_tryOne_134 rfl (lv_at hl 0 rfl) ?_
          refine va_get (D := D) (ci := 11) (v := .ref h0_now) (C := RX12) (T := TX12) (N := 48) hx hb hts k2 hown hK.1 hP 0 rfl rfl 14 (by decide) k1 (fun _ h9 => h9) rfl dX12_tryOne_135 ?_
          refine lv_bipush (v := 94) hx hb dX12_tryOne_138 (by decide) ?_
          refine lv_iload_n hx hb dX12_tryOne_140 rfl (lv_at hl 2 rfl) ?_
          refine lv_iadd hx hb dX12_tryOne_141 ?_
          refine lv_topi (fun x_665 ex_665 => ?_)
          have h_666 : rg 94 103 x_665 := by rw [ex_665]; exact rg_add (⟨by decide, by decide⟩ : rg 94 94 (94 : Int32)) h_641 (by decide) (by decide) (by decide) (by decide)
          have l_667 : lq x_665.toInt (y104_1.toInt + 94) := lqm (by rw [ex_665]; have q := tadd (⟨by decide, by decide⟩ : rg 94 94 (94 : Int32)) h_641 (by decide) (by decide); have r0 := lqe (lqm (by decide) : lq (94 : Int32).toInt 94); omega)
          refine lv_bipush (v := 20) hx hb dX12_tryOne_142 (by decide) ?_
          refine lv_aload_n hx hb dX12_tryOne_144 rfl (lv_at hl 0 rfl) ?_
          refine va_get (D := D) (ci := 11) (v := .ref h0_now) (C := RX12) (T := TX12) (N := 48) hx hb hts k2 hown hK.1 hP 0 rfl rfl 14 (by decide) k1 (fun _ h9 => h9) rfl dX12_tryOne_145 ?_
          refine lv_bipush (v := 94) hx hb dX12_tryOne_148 (by decide) ?_
          refine lv_iload_n hx hb dX12_tryOne_150 rfl (lv_at hl 2 rfl) ?_
          refine lv_iadd hx hb dX12_tryOne_151 ?_
          refine lv_topi (fun x_668 ex_668 => ?_)
          have h_669 : rg 94 103 x_668 := by rw [ex_668]; exact rg_add (⟨by decide, by decide⟩ : rg 94 94 (94 : Int32)) h_641 (by decide) (by decide) (by decide) (by decide)
          have l_670 : lq x_668.toInt (y104_1.toInt + 94) := lqm (by rw [ex_668]; have q := tadd (⟨by decide, by decide⟩ : rg 94 94 (94 : Int32)) h_641 (by decide) (by decide); have r0 := lqe (lqm (by decide) : lq (94 : Int32).toInt 94); omega)
          refine va_iald hx hb hK.1 hP 1 0 rfl rfl (rg_in h_669 (by decide) (by decide)) dX12_tryOne_152 ?_
          refine lv_topi (fun x_671 ex_671 => ?_)
          refine lv_iconst (v := 1) hx hb dX12_tryOne_153 (by decide) ?_
          refine lv_iadd hx hb dX12_tryOne_154 ?_
          refine lv_topi (fun x_672 ex_672 => ?_)
          refine oC_i (Wc := []) (Wr := [(h0, .inr (11, [.int h0_thrown, .ref h0_tape, .int h0_taped, .int h0_size, .int h0_limit, .int h0_to, .int h0_from, .int h0_kind, .int h0_number, .int h0_sign, .int h0_fault, .int h0_place, .long h0_word, .int h0_told, .ref h0_now, .ref h0_read, .ref h0_kept, .ref h0_snaps, .ref h0_aside, .ref h0_name, .ref h0_readName, .ref h0_keptName, .ref h0_isKept, .ref h0_onces, .int h0_snapMany, .int y104_2, .int y104_3, .int h0_agreed, .int h0_jurors, .int h0_panelled, .ref h0_inSets, .int h0_surely, .int h0_asked, .ref h0_frees, .int h0_struck, .int h0_beating, .ref h0_text, .int h0_texts, .int h0_seed, .ref h0_line, .ref h0_written, .int h0_lineMany, .int h0_hasWritten, .ref h0_node, .int h0_nodes, .int h0_onesMany, .int h0_within, .int h0_top])), (aI ca h0_now 376 g_653)]) (va_runS (As := [.int 20, .int x_672]) (rest := [.int x_665, .ref h0_now]) ⟨hx, hb, hml, hown, hts⟩ (s_X12_least l D ca H.size 20 x_672) (va_cwS 2 hts gX12_tryOne_X12_least rfl rfl rfl (by decide +kernel) ⟨Nat.le_of_ble_eq_true rfl, Nat.le_of_ble_eq_true rfl⟩) (oPS hK hP hD [] rfl (by decide)) rfl rfl hl.1 rfl (lv_room (Nat.le_of_ble_eq_true rfl)) dX12_tryOne_155 ⟨Nat.le_of_ble_eq_true rfl, Nat.le_of_ble_eq_true rfl⟩) hP hD hS hA [] [0, 1] rfl rfl (by decide) (by decide) (fun r_673 u H locs w_674 hP hD hS => ?_)
          obtain ⟨⟩ := u
          have hP : va_P D vwCl [(h0, .inr (11, [.int h0_thrown, .ref h0_tape, .int h0_taped, .int h0_size, .int h0_limit, .int h0_to, .int h0_from, .int h0_kind, .int h0_number, .int h0_sign, .int h0_fault, .int h0_place, .long h0_word, .int h0_told, .ref h0_now, .ref h0_read, .ref h0_kept, .ref h0_snaps, .ref h0_aside, .ref h0_name, .ref h0_readName, .ref h0_keptName, .ref h0_isKept, .ref h0_onces, .int h0_snapMany, .int y104_2, .int y104_3, .int h0_agreed, .int h0_jurors, .int h0_panelled, .ref h0_inSets, .int h0_surely, .int h0_asked, .ref h0_frees, .int h0_struck, .int h0_beating, .ref h0_text, .int h0_texts, .int h0_seed, .ref h0_line, .ref h0_written, .int h0_lineMany, .int h0_hasWritten, .ref h0_node, .int h0_nodes, .int h0_onesMany, .int h0_within, .int h0_top])), (aI ca h0_now 376 g_653)] H := hP
          have hD : va_D A [(h0, .inr (11, [.int h0_thrown, .ref h0_tape, .int h0_taped, .int h0_size, .int h0_limit, .int h0_to, .int h0_from, .int h0_kind, .int h0_number, .int h0_sign, .int h0_fault, .int h0_place, .long h0_word, .int h0_told, .ref h0_now, .ref h0_read, .ref h0_kept, .ref h0_snaps, .ref h0_aside, .ref h0_name, .ref h0_readName, .ref h0_keptName, .ref h0_isKept, .ref h0_onces, .int h0_snapMany, .int y104_2, .int y104_3, .int h0_agreed, .int h0_jurors, .int h0_panelled, .ref h0_inSets, .int h0_surely, .int h0_asked, .ref h0_frees, .int h0_struck, .int h0_beating, .ref h0_text, .int h0_texts, .int h0_seed, .ref h0_line, .ref h0_written, .int h0_lineMany, .int h0_hasWritten, .ref h0_node, .int h0_nodes, .int h0_onesMany, .int h0_within, .int h0_top])), (aI ca h0_now 376 g_653)] := hD
          try dsimp only at w_674
          obtain ⟨h_675, h_676⟩ := w_674
          have h_677 : rg (-2147483648) 20 r_673 := rl_x h_675 (rga r_673) (⟨by decide, by decide⟩ : rg 20 20 (20 : Int32)) (by decide) (by decide)
          refine va_iast hx hb hK.1 hP hD hS 1 0 rfl rfl (rg_in h_666 (by decide) (by decide)) dX12_tryOne_158 (fun H locs hP hD hS => ?_)
          obtain ⟨g_678, eg_678⟩ : ∃ y : Nat → Int32, y = upd g_653 (x_665 : Int32).toNatClampNeg (r_673 : Int32) := ⟨_, rfl⟩
          rw [← eg_678] at hP hD
          have s_679 : sg 0 1 0 10 g_678 := sg_out s_654 eg_678 h_666 (by decide) (by decide)
          have s_680 : sg 1 2 0 4 g_678 := sg_out s_655 eg_678 h_666 (by decide) (by decide)
          have s_681 : sg 2 3 0 5 g_678 := sg_out s_656 eg_678 h_666 (by decide) (by decide)
          have s_682 : sg 35 36 0 1023 g_678 := sg_out s_657 eg_678 h_666 (by decide) (by decide)
          have s_683 : sg 44 49 0 3 g_678 := sg_out s_658 eg_678 h_666 (by decide) (by decide)
          have s_684 : sg 90 91 0 1023 g_678 := sg_out s_659 eg_678 h_666 (by decide) (by decide)
          have s_685 : sg 124 129 0 1023 g_678 := sg_out s_660 eg_678 h_666 (by decide) (by decide)
          have s_686 : sg 135 136 0 39 g_678 := sg_out s_661 eg_678 h_666 (by decide) (by decide)
          have s_687 : sg 93 94 1 1 g_678 := sg_out s_662 eg_678 h_666 (by decide) (by decide)
          have q_688 : eqs 134 376 g_678 F_h0_now := eqs_out q_663 eg_678 h_666 (by decide) (by decide) (by decide) (by decide)
          have q_689 : eqs 0 92 g_678 F_h0_now := eqs_out q_664 eg_678 h_666 (by decide) (by decide) (by decide) (by decide)
          have hP : va_P D vwCl [(h0, .inr (11, [.int h0_thrown, .ref h0_tape, .int h0_taped, .int h0_size, .int h0_limit, .int h0_to, .int h0_from, .int h0_kind, .int h0_number, .int h0_sign, .int h0_fault, .int h0_place, .long h0_word, .int h0_told, .ref h0_now, .ref h0_read, .ref h0_kept, .ref h0_snaps, .ref h0_aside, .ref h0_name, .ref h0_readName, .ref h0_keptName, .ref h0_isKept, .ref h0_onces, .int h0_snapMany, .int y104_2, .int y104_3, .int h0_agreed, .int h0_jurors, .int h0_panelled, .ref h0_inSets, .int h0_surely, .int h0_asked, .ref h0_frees, .int h0_struck, .int h0_beating, .ref h0_text, .int h0_texts, .int h0_seed, .ref h0_line, .ref h0_written, .int h0_lineMany, .int h0_hasWritten, .ref h0_node, .int h0_nodes, .int h0_onesMany, .int h0_within, .int h0_top])), (aI ca h0_now 376 g_678)] H := hP
          have hD : va_D A [(h0, .inr (11, [.int h0_thrown, .ref h0_tape, .int h0_taped, .int h0_size, .int h0_limit, .int h0_to, .int h0_from, .int h0_kind, .int h0_number, .int h0_sign, .int h0_fault, .int h0_place, .long h0_word, .int h0_told, .ref h0_now, .ref h0_read, .ref h0_kept, .ref h0_snaps, .ref h0_aside, .ref h0_name, .ref h0_readName, .ref h0_keptName, .ref h0_isKept, .ref h0_onces, .int h0_snapMany, .int y104_2, .int y104_3, .int h0_agreed, .int h0_jurors, .int h0_panelled, .ref h0_inSets, .int h0_surely, .int h0_asked, .ref h0_frees, .int h0_struck, .int h0_beating, .ref h0_text, .int h0_texts, .int h0_seed, .ref h0_line, .ref h0_written, .int h0_lineMany, .int h0_hasWritten, .ref h0_node, .int h0_nodes, .int h0_onesMany, .int h0_within, .int h0_top])), (aI ca h0_now 376 g_678)] := hD
          exact J159_633 g_678 s_679 s_680 s_681 s_682 s_683 s_684 s_685 s_686 s_687 q_688 q_689 h_641 H locs ls (oPsub hP [0, 1] rfl) (hD.sub [0, 1] (by decide) rfl) hS (lv_sub hl [0, 1, 2] rfl)
  have J31_690 : ∀ (y31_0 : Int32) (y31_1 : Int32) (y31_2 : Int32) (y31_3 : Int32) (y31_4 : Int32), rg 0 1023 y31_0 → rg 1 2 y31_1 → rg 114 118 y31_2 → rl 114 a1 y31_2 → rl (-114) y31_2 a1 → rg 0 1000 y31_3 → rg (-1) 2147483647 y31_4 → ∀ (H : Heap) (locs : List Loc) (ls : Array Slot), va_P D vwCl [(h0, .inr (11, [.int h0_thrown, .ref h0_tape, .int h0_taped, .int h0_size, .int h0_limit, .int h0_to, .int h0_from, .int h0_kind, .int h0_number, .int h0_sign, .int h0_fault, .int h0_place, .long h0_word, .int h0_told, .ref h0_now, .ref h0_read, .ref h0_kept, .ref h0_snaps, .ref h0_aside, .ref h0_name, .ref h0_readName, .ref h0_keptName, .ref h0_isKept, .ref h0_onces, .int h0_snapMany, .int y31_3, .int y31_4, .int h0_agreed, .int h0_jurors, .int h0_panelled, .ref h0_inSets, .int h0_surely, .int h0_asked, .ref h0_frees, .int h0_struck, .int h0_beating, .ref h0_text, .int h0_texts, .int h0_seed, .ref h0_line, .ref h0_written, .int h0_lineMany, .int h0_hasWritten, .ref h0_node, .int h0_nodes, .int h0_onesMany, .int h0_within, .int h0_top])), (aI ca h0_now 376 F_h0_now)] H → va_D A [(h0, .inr (11, [.int h0_thrown, .ref h0_tape, .int h0_taped, .int h0_size, .int h0_limit, .int h0_to, .int h0_from, .int h0_kind, .int h0_number, .int h0_sign, .int h0_fault, .int h0_place, .long h0_word, .int h0_told, .ref h0_now, .ref h0_read, .ref h0_kept, .ref h0_snaps, .ref h0_aside, .ref h0_name, .ref h0_readName, .ref h0_keptName, .ref h0_isKept, .ref h0_onces, .int h0_snapMany, .int y31_3, .int y31_4, .int h0_agreed, .int h0_jurors, .int h0_panelled, .ref h0_inSets, .int h0_surely, .int h0_asked, .ref h0_frees, .int h0_struck, .int h0_beating, .ref h0_text, .int h0_texts, .int h0_seed, .ref h0_line, .ref h0_written, .int h0_lineMany, .int h0_hasWritten, .ref h0_node, .int h0_nodes, .int h0_onesMany, .int h0_within, .int h0_top])), (aI ca h0_now 376 F_h0_now)] → va_S A s.heap H locs → lv_has ls 4 [(0, .ref h0), (1, .int a1), (2, .int y31_0)] → W p l e ({ frames := 4, cells := 0, slots := 0, locals := 95 } : Room) s m ([.ref h0, .int a1] : List Value).toArray below meth c H locs 0 0 (MQ below ((oQv D (fun (u : Int32 × Int32 × (Nat → Int32)) => (rg 0 1000 u.1) ∧ (rg (-1) 2147483647 u.2.1) ∧ (sg 0 1 0 10 u.2.2) ∧ (sg 1 2 0 4 u.2.2) ∧ (sg 2 3 0 5 u.2.2) ∧ (sg 35 36 0 1023 u.2.2) ∧ (sg 44 49 0 3 u.2.2) ∧ (sg 90 91 0 1023 u.2.2) ∧ (sg 124 129 0 1023 u.2.2) ∧ (sg 135 136 0 39 u.2.2) ∧ (sg 93 94 1 1 u.2.2) ∧ (eqs 134 376 u.2.2 F_h0_now) ∧ (eqs 0 92 u.2.2 F_h0_now)) (fun (u : Int32 × Int32 × (Nat → Int32)) => [(h0, .inr (11, [.int h0_thrown, .ref h0_tape, .int h0_taped, .int h0_size, .int h0_limit, .int h0_to, .int h0_from, .int h0_kind, .int h0_number, .int h0_sign, .int h0_fault, .int h0_place, .long h0_word, .int h0_told, .ref h0_now, .ref h0_read, .ref h0_kept, .ref h0_snaps, .ref h0_aside, .ref h0_name, .ref h0_readName, .ref h0_keptName, .ref h0_isKept, .ref h0_onces, .int h0_snapMany, .int u.1, .int u.2.1, .int h0_agreed, .int h0_jurors, .int h0_panelled, .ref h0_inSets, .int h0_surely, .int h0_asked, .ref h0_frees, .int h0_struck, .int h0_beating, .ref h0_text, .int h0_texts, .int h0_seed, .ref h0_line, .ref h0_written, .int h0_lineMany, .int h0_hasWritten, .ref h0_node, .int h0_nodes, .int h0_onesMany, .int h0_within, .int h0_top])), (aI ca h0_now 376 u.2.2)])) A) ([.ref h0, .int a1] : List Value).toArray s 0 0 A) (F0 m 31 ls [.int y31_1, .int y31_2, .ref h0_now]) := by
    intro y31_0 y31_1 y31_2 y31_3 y31_4 hy31_0 hy31_1 hy31_2 py31_2_a1 qy31_2_a1 hy31_3 hy31_4 H locs ls hP hD hS hl
    refine va_iast hx hb hK.1 hP hD hS 1 0 rfl rfl (rg_in hy31_2 (by decide) (by decide)) dX12_tryOne_31 (fun H locs hP hD hS => ?_)
    obtain ⟨g_691, eg_691⟩ : ∃ y : Nat → Int32, y = upd F_h0_now (y31_2 : Int32).toNatClampNeg (y31_1 : Int32) := ⟨_, rfl⟩
    rw [← eg_691] at hP hD
    have s_692 : sg 0 1 0 10 g_691 := sg_out (sg_w (a' := 0) (b' := 1) (lo' := 0) (hi' := 10) s_h0_now_0 (by decide) (by decide) (by decide) (by decide)) eg_691 hy31_2 (by decide) (by decide)
    have s_693 : sg 1 2 0 4 g_691 := sg_out (sg_w (a' := 1) (b' := 2) (lo' := 0) (hi' := 4) s_h0_now_1 (by decide) (by decide) (by decide) (by decide)) eg_691 hy31_2 (by decide) (by decide)
    have s_694 : sg 2 3 0 5 g_691 := sg_out (sg_w (a' := 2) (b' := 3) (lo' := 0) (hi' := 5) s_h0_now_2 (by decide) (by decide) (by decide) (by decide)) eg_691 hy31_2 (by decide) (by decide)
    have s_695 : sg 35 36 0 1023 g_691 := sg_out (sg_w (a' := 35) (b' := 36) (lo' := 0) (hi' := 1023) s_h0_now_3 (by decide) (by decide) (by decide) (by decide)) eg_691 hy31_2 (by decide) (by decide)
    have s_696 : sg 44 49 0 3 g_691 := sg_out (sg_w (a' := 44) (b' := 49) (lo' := 0) (hi' := 3) s_h0_now_4 (by decide) (by decide) (by decide) (by decide)) eg_691 hy31_2 (by decide) (by decide)
    have s_697 : sg 90 91 0 1023 g_691 := sg_out (sg_w (a' := 90) (b' := 91) (lo' := 0) (hi' := 1023) s_h0_now_5 (by decide) (by decide) (by decide) (by decide)) eg_691 hy31_2 (by decide) (by decide)
    have s_698 : sg 124 129 0 1023 g_691 := sg_out (sg_w (a' := 124) (b' := 129) (lo' := 0) (hi' := 1023) s_h0_now_6 (by decide) (by decide) (by decide) (by decide)) eg_691 hy31_2 (by decide) (by decide)
    have s_699 : sg 135 136 0 39 g_691 := sg_out (sg_w (a' := 135) (b' := 136) (lo' := 0) (hi' := 39) s_h0_now_7 (by decide) (by decide) (by decide) (by decide)) eg_691 hy31_2 (by decide) (by decide)
    have q_700 : eqs 119 376 g_691 F_h0_now := eqs_out (eqs_rf (a := 0) (b := 376) F_h0_now) eg_691 hy31_2 (by decide) (by decide) (by decide) (by decide)
    have q_701 : eqs 0 114 g_691 F_h0_now := eqs_out (eqs_rf (a := 0) (b := 376) F_h0_now) eg_691 hy31_2 (by decide) (by decide) (by decide) (by decide)
    have hP : va_P D vwCl [(h0, .inr (11, [.int h0_thrown, .ref h0_tape, .int h0_taped, .int h0_size, .int h0_limit, .int h0_to, .int h0_from, .int h0_kind, .int h0_number, .int h0_sign, .int h0_fault, .int h0_place, .long h0_word, .int h0_told, .ref h0_now, .ref h0_read, .ref h0_kept, .ref h0_snaps, .ref h0_aside, .ref h0_name, .ref h0_readName, .ref h0_keptName, .ref h0_isKept, .ref h0_onces, .int h0_snapMany, .int y31_3, .int y31_4, .int h0_agreed, .int h0_jurors, .int h0_panelled, .ref h0_inSets, .int h0_surely, .int h0_asked, .ref h0_frees, .int h0_struck, .int h0_beating, .ref h0_text, .int h0_texts, .int h0_seed, .ref h0_line, .ref h0_written, .int h0_lineMany, .int h0_hasWritten, .ref h0_node, .int h0_nodes, .int h0_onesMany, .int h0_within, .int h0_top])), (aI ca h0_now 376 g_691)] H := hP
    have hD : va_D A [(h0, .inr (11, [.int h0_thrown, .ref h0_tape, .int h0_taped, .int h0_size, .int h0_limit, .int h0_to, .int h0_from, .int h0_kind, .int h0_number, .int h0_sign, .int h0_fault, .int h0_place, .long h0_word, .int h0_told, .ref h0_now, .ref h0_read, .ref h0_kept, .ref h0_snaps, .ref h0_aside, .ref h0_name, .ref h0_readName, .ref h0_keptName, .ref h0_isKept, .ref h0_onces, .int h0_snapMany, .int y31_3, .int y31_4, .int h0_agreed, .int h0_jurors, .int h0_panelled, .ref h0_inSets, .int h0_surely, .int h0_asked, .ref h0_frees, .int h0_struck, .int h0_beating, .ref h0_text, .int h0_texts, .int h0_seed, .ref h0_line, .ref h0_written, .int h0_lineMany, .int h0_hasWritten, .ref h0_node, .int h0_nodes, .int h0_onesMany, .int h0_within, .int h0_top])), (aI ca h0_now 376 g_691)] := hD
    refine lv_aload_n hx hb dX12_tryOne_32 rfl (lv_at hl 0 rfl) ?_
    refine va_get (D := D) (ci := 11) (v := .ref h0_now) (C := RX12) (T := TX12) (N := 48) hx hb hts k2 hown hK.1 hP 0 rfl rfl 14 (by decide) k1 (fun _ h9 => h9) rfl dX12_tryOne_33 ?_
    refine lv_bipush (v := 119) hx hb dX12_tryOne_36 (by decide) ?_
    refine lv_iload_n hx hb dX12_tryOne_38 rfl (lv_at hl 1 rfl) ?_
    refine lv_iadd hx hb dX12_tryOne_39 ?_
    refine lv_topi (fun x_702 ex_702 => ?_)
    have h_703 : rg 119 123 x_702 := by rw [ex_702]; exact rg_add (⟨by decide, by decide⟩ : rg 119 119 (119 : Int32)) i_a1 (by decide) (by decide) (by decide) (by decide)
    have l_704 : lq x_702.toInt (a1.toInt + 119) := lqm (by rw [ex_702]; have q := tadd (⟨by decide, by decide⟩ : rg 119 119 (119 : Int32)) i_a1 (by decide) (by decide); have r0 := lqe (lqm (by decide) : lq (119 : Int32).toInt 119); omega)
    refine lv_aload_n hx hb dX12_tryOne_40 rfl (lv_at hl 0 rfl) ?_
    refine va_get (D := D) (ci := 11) (v := .ref h0_now) (C := RX12) (T := TX12) (N := 48) hx hb hts k2 hown hK.1 hP 0 rfl rfl 14 (by decide) k1 (fun _ h9 => h9) rfl dX12_tryOne_41 ?_
    refine lv_bipush (v := 89) hx hb dX12_tryOne_44 (by decide) ?_
    refine va_iald hx hb hK.1 hP 1 0 rfl rfl (rg_in (⟨by decide, by decide⟩ : rg 89 89 (89 : Int32)) (by decide) (by decide)) dX12_tryOne_46 ?_
    refine lv_topi (fun x_705 ex_705 => ?_)
    refine va_iast hx hb hK.1 hP hD hS 1 0 rfl rfl (rg_in h_703 (by decide) (by decide)) dX12_tryOne_47 (fun H locs hP hD hS => ?_)
    obtain ⟨g_706, eg_706⟩ : ∃ y : Nat → Int32, y = upd g_691 (x_702 : Int32).toNatClampNeg (x_705 : Int32) := ⟨_, rfl⟩
    rw [← eg_706] at hP hD
    have s_707 : sg 0 1 0 10 g_706 := sg_out s_692 eg_706 h_703 (by decide) (by decide)
    have s_708 : sg 1 2 0 4 g_706 := sg_out s_693 eg_706 h_703 (by decide) (by decide)
    have s_709 : sg 2 3 0 5 g_706 := sg_out s_694 eg_706 h_703 (by decide) (by decide)
    have s_710 : sg 35 36 0 1023 g_706 := sg_out s_695 eg_706 h_703 (by decide) (by decide)
    have s_711 : sg 44 49 0 3 g_706 := sg_out s_696 eg_706 h_703 (by decide) (by decide)
    have s_712 : sg 90 91 0 1023 g_706 := sg_out s_697 eg_706 h_703 (by decide) (by decide)
    have s_713 : sg 124 129 0 1023 g_706 := sg_out s_698 eg_706 h_703 (by decide) (by decide)
    have s_714 : sg 135 136 0 39 g_706 := sg_out s_699 eg_706 h_703 (by decide) (by decide)
    have q_715 : eqs 124 376 g_706 F_h0_now := eqs_out q_700 eg_706 h_703 (by decide) (by decide) (by decide) (by decide)
    have q_716 : eqs 0 114 g_706 F_h0_now := eqs_out q_701 eg_706 h_703 (by decide) (by decide) (by decide) (by decide)
    have hP : va_P D vwCl [(h0, .inr (11, [.int h0_thrown, .ref h0_tape, .int h0_taped, .int h0_size, .int h0_limit, .int h0_to, .int h0_from, .int h0_kind, .int h0_number, .int h0_sign, .int h0_fault, .int h0_place, .long h0_word, .int h0_told, .ref h0_now, .ref h0_read, .ref h0_kept, .ref h0_snaps, .ref h0_aside, .ref h0_name, .ref h0_readName, .ref h0_keptName, .ref h0_isKept, .ref h0_onces, .int h0_snapMany, .int y31_3, .int y31_4, .int h0_agreed, .int h0_jurors, .int h0_panelled, .ref h0_inSets, .int h0_surely, .int h0_asked, .ref h0_frees, .int h0_struck, .int h0_beating, .ref h0_text, .int h0_texts, .int h0_seed, .ref h0_line, .ref h0_written, .int h0_lineMany, .int h0_hasWritten, .ref h0_node, .int h0_nodes, .int h0_onesMany, .int h0_within, .int h0_top])), (aI ca h0_now 376 g_706)] H := hP
    have hD : va_D A [(h0, .inr (11, [.int h0_thrown, .ref h0_tape, .int h0_taped, .int h0_size, .int h0_limit, .int h0_to, .int h0_from, .int h0_kind, .int h0_number, .int h0_sign, .int h0_fault, .int h0_place, .long h0_word, .int h0_told, .ref h0_now, .ref h0_read, .ref h0_kept, .ref h0_snaps, .ref h0_aside, .ref h0_name, .ref h0_readName, .ref h0_keptName, .ref h0_isKept, .ref h0_onces, .int h0_snapMany, .int y31_3, .int y31_4, .int h0_agreed, .int h0_jurors, .int h0_panelled, .ref h0_inSets, .int h0_surely, .int h0_asked, .ref h0_frees, .int h0_struck, .int h0_beating, .ref h0_text, .int h0_texts, .int h0_seed, .ref h0_line, .ref h0_written, .int h0_lineMany, .int h0_hasWritten, .ref h0_node, .int h0_nodes, .int h0_onesMany, .int h0_within, .int h0_top])), (aI ca h0_now 376 g_706)] := hD
    refine lv_aload_n hx hb dX12_tryOne_48 rfl (lv_at hl 0 rfl) ?_
    refine va_get (D := D) (ci := 11) (v := .ref h0_now) (C := RX12) (T := TX12) (N := 48) hx hb hts k2 hown hK.1 hP 0 rfl rfl 14 (by decide) k1 (fun _ h9 => h9) rfl dX12_tryOne_49 ?_
    refine lv_bipush (v := 124) hx hb dX12_tryOne_52 (by decide) ?_
    refine lv_iload_n hx hb dX12_tryOne_54 rfl (lv_at hl 1 rfl) ?_
    refine lv_iadd hx hb dX12_tryOne_55 ?_
    refine lv_topi (fun x_717 ex_717 => ?_)
    have h_718 : rg 124 128 x_717 := by rw [ex_717]; exact rg_add (⟨by decide, by decide⟩ : rg 124 124 (124 : Int32)) i_a1 (by decide) (by decide) (by decide) (by decide)
    have l_719 : lq x_717.toInt (a1.toInt + 124) := lqm (by rw [ex_717]; have q := tadd (⟨by decide, by decide⟩ : rg 124 124 (124 : Int32)) i_a1 (by decide) (by decide); have r0 := lqe (lqm (by decide) : lq (124 : Int32).toInt 124); omega)
    refine lv_iload_n hx hb dX12_tryOne_56 rfl (lv_at hl 2 rfl) ?_
    refine va_iast hx hb hK.1 hP hD hS 1 0 rfl rfl (rg_in h_718 (by decide) (by decide)) dX12_tryOne_57 (fun H locs hP hD hS => ?_)
    obtain ⟨g_720, eg_720⟩ : ∃ y : Nat → Int32, y = upd g_706 (x_717 : Int32).toNatClampNeg (y31_0 : Int32) := ⟨_, rfl⟩
    rw [← eg_720] at hP hD
    have s_721 : sg 0 1 0 10 g_720 := sg_out s_707 eg_720 h_718 (by decide) (by decide)
    have s_722 : sg 1 2 0 4 g_720 := sg_out s_708 eg_720 h_718 (by decide) (by decide)
    have s_723 : sg 2 3 0 5 g_720 := sg_out s_709 eg_720 h_718 (by decide) (by decide)
    have s_724 : sg 35 36 0 1023 g_720 := sg_out s_710 eg_720 h_718 (by decide) (by decide)
    have s_725 : sg 44 49 0 3 g_720 := sg_out s_711 eg_720 h_718 (by decide) (by decide)
    have s_726 : sg 90 91 0 1023 g_720 := sg_out s_712 eg_720 h_718 (by decide) (by decide)
    have s_727 : sg 124 129 0 1023 g_720 := sg_val s_713 eg_720 hy31_0
    have s_728 : sg 135 136 0 39 g_720 := sg_out s_714 eg_720 h_718 (by decide) (by decide)
    have q_729 : eqs 129 376 g_720 F_h0_now := eqs_out q_715 eg_720 h_718 (by decide) (by decide) (by decide) (by decide)
    have q_730 : eqs 0 114 g_720 F_h0_now := eqs_out q_716 eg_720 h_718 (by decide) (by decide) (by decide) (by decide)
    have hP : va_P D vwCl [(h0, .inr (11, [.int h0_thrown, .ref h0_tape, .int h0_taped, .int h0_size, .int h0_limit, .int h0_to, .int h0_from, .int h0_kind, .int h0_number, .int h0_sign, .int h0_fault, .int h0_place, .long h0_word, .int h0_told, .ref h0_now, .ref h0_read, .ref h0_kept, .ref h0_snaps, .ref h0_aside, .ref h0_name, .ref h0_readName, .ref h0_keptName, .ref h0_isKept, .ref h0_onces, .int h0_snapMany, .int y31_3, .int y31_4, .int h0_agreed, .int h0_jurors, .int h0_panelled, .ref h0_inSets, .int h0_surely, .int h0_asked, .ref h0_frees, .int h0_struck, .int h0_beating, .ref h0_text, .int h0_texts, .int h0_seed, .ref h0_line, .ref h0_written, .int h0_lineMany, .int h0_hasWritten, .ref h0_node, .int h0_nodes, .int h0_onesMany, .int h0_within, .int h0_top])), (aI ca h0_now 376 g_720)] H := hP
    have hD : va_D A [(h0, .inr (11, [.int h0_thrown, .ref h0_tape, .int h0_taped, .int h0_size, .int h0_limit, .int h0_to, .int h0_from, .int h0_kind, .int h0_number, .int h0_sign, .int h0_fault, .int h0_place, .long h0_word, .int h0_told, .ref h0_now, .ref h0_read, .ref h0_kept, .ref h0_snaps, .ref h0_aside, .ref h0_name, .ref h0_readName, .ref h0_keptName, .ref h0_isKept, .ref h0_onces, .int h0_snapMany, .int y31_3, .int y31_4, .int h0_agreed, .int h0_jurors, .int h0_panelled, .ref h0_inSets, .int h0_surely, .int h0_asked, .ref h0_frees, .int h0_struck, .int h0_beating, .ref h0_text, .int h0_texts, .int h0_seed, .ref h0_line, .ref h0_written, .int h0_lineMany, .int h0_hasWritten, .ref h0_node, .int h0_nodes, .int h0_onesMany, .int h0_within, .int h0_top])), (aI ca h0_now 376 g_720)] := hD
    refine lv_aload_n hx hb dX12_tryOne_58 rfl (lv_at hl 0 rfl) ?_
    refine va_get (D := D) (ci := 11) (v := .ref h0_now) (C := RX12) (T := TX12) (N := 48) hx hb hts k2 hown hK.1 hP 0 rfl rfl 14 (by decide) k1 (fun _ h9 => h9) rfl dX12_tryOne_59 ?_
    refine lv_sipush (v := 129) hx hb dX12_tryOne_62 (by decide) ?_
    refine lv_iload_n hx hb dX12_tryOne_65 rfl (lv_at hl 1 rfl) ?_
    refine lv_iadd hx hb dX12_tryOne_66 ?_
    refine lv_topi (fun x_731 ex_731 => ?_)
    have h_732 : rg 129 133 x_731 := by rw [ex_731]; exact rg_add (⟨by decide, by decide⟩ : rg 129 129 (129 : Int32)) i_a1 (by decide) (by decide) (by decide) (by decide)
    have l_733 : lq x_731.toInt (a1.toInt + 129) := lqm (by rw [ex_731]; have q := tadd (⟨by decide, by decide⟩ : rg 129 129 (129 : Int32)) i_a1 (by decide) (by decide); have r0 := lqe (lqm (by decide) : lq (129 : Int32).toInt 129); omega)
    refine lv_aload_n hx hb dX12_tryOne_67 rfl (lv_at hl 0 rfl) ?_
    refine va_get (D := D) (ci := 11) (v := .ref h0_now) (C := RX12) (T := TX12) (N := 48) hx hb hts k2 hown hK.1 hP 0 rfl rfl 14 (by decide) k1 (fun _ h9 => h9) rfl dX12_tryOne_68 ?_
    refine lv_bipush (v := 90) hx hb dX12_tryOne_71 (by decide) ?_
    refine va_iald hx hb hK.1 hP 1 0 rfl rfl (rg_in (⟨by decide, by decide⟩ : rg 90 90 (90 : Int32)) (by decide) (by decide)) dX12_tryOne_73 ?_
    refine lv_topi (fun x_734 ex_734 => ?_)
    have h_735 : rg 0 1023 x_734 := by rw [ex_734]; exact sg_at s_726 (⟨by decide, by decide⟩ : rg 90 90 (90 : Int32)) (by decide) (by decide) (by decide)
    refine lv_aload_n hx hb dX12_tryOne_74 rfl (lv_at hl 0 rfl) ?_
    refine va_get (D := D) (ci := 11) (v := .ref h0_now) (C := RX12) (T := TX12) (N := 48) hx hb hts k2 hown hK.1 hP 0 rfl rfl 14 (by decide) k1 (fun _ h9 => h9) rfl dX12_tryOne_75 ?_
    refine lv_bipush (v := 91) hx hb dX12_tryOne_78 (by decide) ?_
    refine va_iald hx hb hK.1 hP 1 0 rfl rfl (rg_in (⟨by decide, by decide⟩ : rg 91 91 (91 : Int32)) (by decide) (by decide)) dX12_tryOne_80 ?_
    refine lv_topi (fun x_736 ex_736 => ?_)
    refine lv_iand hx hb dX12_tryOne_81 ?_
    refine lv_topi (fun x_737 ex_737 => ?_)
    have h_738 : rg 0 1023 x_737 := by rw [ex_737]; exact rg_and h_735 (by decide) (by decide) (by decide)
    have o_739 : rl 0 x_737 x_734 := by rw [ex_737]; exact rl_and h_735 (by decide)
    refine va_iast hx hb hK.1 hP hD hS 1 0 rfl rfl (rg_in h_732 (by decide) (by decide)) dX12_tryOne_82 (fun H locs hP hD hS => ?_)
    obtain ⟨g_740, eg_740⟩ : ∃ y : Nat → Int32, y = upd g_720 (x_731 : Int32).toNatClampNeg (x_737 : Int32) := ⟨_, rfl⟩
    rw [← eg_740] at hP hD
    have s_741 : sg 0 1 0 10 g_740 := sg_out s_721 eg_740 h_732 (by decide) (by decide)
    have s_742 : sg 1 2 0 4 g_740 := sg_out s_722 eg_740 h_732 (by decide) (by decide)
    have s_743 : sg 2 3 0 5 g_740 := sg_out s_723 eg_740 h_732 (by decide) (by decide)
    have s_744 : sg 35 36 0 1023 g_740 := sg_out s_724 eg_740 h_732 (by decide) (by decide)
    have s_745 : sg 44 49 0 3 g_740 := sg_out s_725 eg_740 h_732 (by decide) (by decide)
    have s_746 : sg 90 91 0 1023 g_740 := sg_out s_726 eg_740 h_732 (by decide) (by decide)
    have s_747 : sg 124 129 0 1023 g_740 := sg_out s_727 eg_740 h_732 (by decide) (by decide)
    have s_748 : sg 135 136 0 39 g_740 := sg_out s_728 eg_740 h_732 (by decide) (by decide)
    have q_749 : eqs 134 376 g_740 F_h0_now := eqs_out q_729 eg_740 h_732 (by decide) (by decide) (by decide) (by decide)
    have q_750 : eqs 0 114 g_740 F_h0_now := eqs_out q_730 eg_740 h_732 (by decide) (by decide) (by decide) (by decide)
    have hP : va_P D vwCl [(h0, .inr (11, [.int h0_thrown, .ref h0_tape, .int h0_taped, .int h0_size, .int h0_limit, .int h0_to, .int h0_from, .int h0_kind, .int h0_number, .int h0_sign, .int h0_fault, .int h0_place, .long h0_word, .int h0_told, .ref h0_now, .ref h0_read, .ref h0_kept, .ref h0_snaps, .ref h0_aside, .ref h0_name, .ref h0_readName, .ref h0_keptName, .ref h0_isKept, .ref h0_onces, .int h0_snapMany, .int y31_3, .int y31_4, .int h0_agreed, .int h0_jurors, .int h0_panelled, .ref h0_inSets, .int h0_surely, .int h0_asked, .ref h0_frees, .int h0_struck, .int h0_beating, .ref h0_text, .int h0_texts, .int h0_seed, .ref h0_line, .ref h0_written, .int h0_lineMany, .int h0_hasWritten, .ref h0_node, .int h0_nodes, .int h0_onesMany, .int h0_within, .int h0_top])), (aI ca h0_now 376 g_740)] H := hP
    have hD : va_D A [(h0, .inr (11, [.int h0_thrown, .ref h0_tape, .int h0_taped, .int h0_size, .int h0_limit, .int h0_to, .int h0_from, .int h0_kind, .int h0_number, .int h0_sign, .int h0_fault, .int h0_place, .long h0_word, .int h0_told, .ref h0_now, .ref h0_read, .ref h0_kept, .ref h0_snaps, .ref h0_aside, .ref h0_name, .ref h0_readName, .ref h0_keptName, .ref h0_isKept, .ref h0_onces, .int h0_snapMany, .int y31_3, .int y31_4, .int h0_agreed, .int h0_jurors, .int h0_panelled, .ref h0_inSets, .int h0_surely, .int h0_asked, .ref h0_frees, .int h0_struck, .int h0_beating, .ref h0_text, .int h0_texts, .int h0_seed, .ref h0_line, .ref h0_written, .int h0_lineMany, .int h0_hasWritten, .ref h0_node, .int h0_nodes, .int h0_onesMany, .int h0_within, .int h0_top])), (aI ca h0_now 376 g_740)] := hD
    refine lv_aload_n hx hb dX12_tryOne_83 rfl (lv_at hl 0 rfl) ?_
    refine va_get (D := D) (ci := 11) (v := .ref h0_now) (C := RX12) (T := TX12) (N := 48) hx hb hts k2 hown hK.1 hP 0 rfl rfl 14 (by decide) k1 (fun _ h9 => h9) rfl dX12_tryOne_84 ?_
    refine lv_bipush (v := 92) hx hb dX12_tryOne_87 (by decide) ?_
    refine lv_dup2_11 hx hb dX12_tryOne_89 rfl rfl ?_
    refine va_iald hx hb hK.1 hP 1 0 rfl rfl (rg_in (⟨by decide, by decide⟩ : rg 92 92 (92 : Int32)) (by decide) (by decide)) dX12_tryOne_90 ?_
    refine lv_topi (fun x_751 ex_751 => ?_)
    refine lv_iconst (v := 1) hx hb dX12_tryOne_91 (by decide) ?_
    refine lv_iadd hx hb dX12_tryOne_92 ?_
    refine lv_topi (fun x_752 ex_752 => ?_)
    refine va_iast hx hb hK.1 hP hD hS 1 0 rfl rfl (rg_in (⟨by decide, by decide⟩ : rg 92 92 (92 : Int32)) (by decide) (by decide)) dX12_tryOne_93 (fun H locs hP hD hS => ?_)
    obtain ⟨g_753, eg_753⟩ : ∃ y : Nat → Int32, y = upd g_740 (92 : Int32).toNatClampNeg (x_752 : Int32) := ⟨_, rfl⟩
    rw [← eg_753] at hP hD
    have s_754 : sg 0 1 0 10 g_753 := sg_out s_741 eg_753 (⟨by decide, by decide⟩ : rg 92 92 (92 : Int32)) (by decide) (by decide)
    have s_755 : sg 1 2 0 4 g_753 := sg_out s_742 eg_753 (⟨by decide, by decide⟩ : rg 92 92 (92 : Int32)) (by decide) (by decide)
    have s_756 : sg 2 3 0 5 g_753 := sg_out s_743 eg_753 (⟨by decide, by decide⟩ : rg 92 92 (92 : Int32)) (by decide) (by decide)
    have s_757 : sg 35 36 0 1023 g_753 := sg_out s_744 eg_753 (⟨by decide, by decide⟩ : rg 92 92 (92 : Int32)) (by decide) (by decide)
    have s_758 : sg 44 49 0 3 g_753 := sg_out s_745 eg_753 (⟨by decide, by decide⟩ : rg 92 92 (92 : Int32)) (by decide) (by decide)
    have s_759 : sg 90 91 0 1023 g_753 := sg_out s_746 eg_753 (⟨by decide, by decide⟩ : rg 92 92 (92 : Int32)) (by decide) (by decide)
    have s_760 : sg 124 129 0 1023 g_753 := sg_out s_747 eg_753 (⟨by decide, by decide⟩ : rg 92 92 (92 : Int32)) (by decide) (by decide)
    have s_761 : sg 135 136 0 39 g_753 := sg_out s_748 eg_753 (⟨by decide, by decide⟩ : rg 92 92 (92 : Int32)) (by decide) (by decide)
    have q_762 : eqs 134 376 g_753 F_h0_now := eqs_out q_749 eg_753 (⟨by decide, by decide⟩ : rg 92 92 (92 : Int32)) (by decide) (by decide) (by decide) (by decide)
    have q_763 : eqs 0 92 g_753 F_h0_now := eqs_out q_750 eg_753 (⟨by decide, by decide⟩ : rg 92 92 (92 : Int32)) (by decide) (by decide) (by decide) (by decide)
    have q_764 : eqs 93 114 g_753 F_h0_now := eqs_out q_750 eg_753 (⟨by decide, by decide⟩ : rg 92 92 (92 : Int32)) (by decide) (by decide) (by decide) (by decide)
    have hP : va_P D vwCl [(h0, .inr (11, [.int h0_thrown, .ref h0_tape, .int h0_taped, .int h0_size, .int h0_limit, .int h0_to, .int h0_from, .int h0_kind, .int h0_number, .int h0_sign, .int h0_fault, .int h0_place, .long h0_word, .int h0_told, .ref h0_now, .ref h0_read, .ref h0_kept, .ref h0_snaps, .ref h0_aside, .ref h0_name, .ref h0_readName, .ref h0_keptName, .ref h0_isKept, .ref h0_onces, .int h0_snapMany, .int y31_3, .int y31_4, .int h0_agreed, .int h0_jurors, .int h0_panelled, .ref h0_inSets, .int h0_surely, .int h0_asked, .ref h0_frees, .int h0_struck, .int h0_beating, .ref h0_text, .int h0_texts, .int h0_seed, .ref h0_line, .ref h0_written, .int h0_lineMany, .int h0_hasWritten, .ref h0_node, .int h0_nodes, .int h0_onesMany, .int h0_within, .int h0_top])), (aI ca h0_now 376 g_753)] H := hP
    have hD : va_D A [(h0, .inr (11, [.int h0_thrown, .ref h0_tape, .int h0_taped, .int h0_size, .int h0_limit, .int h0_to, .int h0_from, .int h0_kind, .int h0_number, .int h0_sign, .int h0_fault, .int h0_place, .long h0_word, .int h0_told, .ref h0_now, .ref h0_read, .ref h0_kept, .ref h0_snaps, .ref h0_aside, .ref h0_name, .ref h0_readName, .ref h0_keptName, .ref h0_isKept, .ref h0_onces, .int h0_snapMany, .int y31_3, .int y31_4, .int h0_agreed, .int h0_jurors, .int h0_panelled, .ref h0_inSets, .int h0_surely, .int h0_asked, .ref h0_frees, .int h0_struck, .int h0_beating, .ref h0_text, .int h0_texts, .int h0_seed, .ref h0_line, .ref h0_written, .int h0_lineMany, .int h0_hasWritten, .ref h0_node, .int h0_nodes, .int h0_onesMany, .int h0_within, .int h0_top])), (aI ca h0_now 376 g_753)] := hD
    refine lv_aload_n hx hb dX12_tryOne_94 rfl (lv_at hl 0 rfl) ?_
    refine va_get (D := D) (ci := 11) (v := .ref h0_now) (C := RX12) (T := TX12) (N := 48) hx hb hts k2 hown hK.1 hP 0 rfl rfl 14 (by decide) k1 (fun _ h9 => h9) rfl dX12_tryOne_95 ?_
    refine lv_bipush (v := 93) hx hb dX12_tryOne_98 (by decide) ?_
    refine lv_iconst (v := 1) hx hb dX12_tryOne_100 (by decide) ?_
    refine va_iast hx hb hK.1 hP hD hS 1 0 rfl rfl (rg_in (⟨by decide, by decide⟩ : rg 93 93 (93 : Int32)) (by decide) (by decide)) dX12_tryOne_101 (fun H locs hP hD hS => ?_)
    obtain ⟨g_765, eg_765⟩ : ∃ y : Nat → Int32, y = upd g_753 (93 : Int32).toNatClampNeg (1 : Int32) := ⟨_, rfl⟩
    rw [← eg_765] at hP hD
    have s_766 : sg 0 1 0 10 g_765 := sg_out s_754 eg_765 (⟨by decide, by decide⟩ : rg 93 93 (93 : Int32)) (by decide) (by decide)
    have s_767 : sg 1 2 0 4 g_765 := sg_out s_755 eg_765 (⟨by decide, by decide⟩ : rg 93 93 (93 : Int32)) (by decide) (by decide)
    have s_768 : sg 2 3 0 5 g_765 := sg_out s_756 eg_765 (⟨by decide, by decide⟩ : rg 93 93 (93 : Int32)) (by decide) (by decide)
    have s_769 : sg 35 36 0 1023 g_765 := sg_out s_757 eg_765 (⟨by decide, by decide⟩ : rg 93 93 (93 : Int32)) (by decide) (by decide)
    have s_770 : sg 44 49 0 3 g_765 := sg_out s_758 eg_765 (⟨by decide, by decide⟩ : rg 93 93 (93 : Int32)) (by decide) (by decide)
    have s_771 : sg 90 91 0 1023 g_765 := sg_out s_759 eg_765 (⟨by decide, by decide⟩ : rg 93 93 (93 : Int32)) (by decide) (by decide)
    have s_772 : sg 124 129 0 1023 g_765 := sg_out s_760 eg_765 (⟨by decide, by decide⟩ : rg 93 93 (93 : Int32)) (by decide) (by decide)
    have s_773 : sg 135 136 0 39 g_765 := sg_out s_761 eg_765 (⟨by decide, by decide⟩ : rg 93 93 (93 : Int32)) (by decide) (by decide)
    have s_774 : sg 93 94 1 1 g_765 := sg_one eg_765 (⟨by decide, by decide⟩ : rg 1 1 (1 : Int32))
    have q_775 : eqs 134 376 g_765 F_h0_now := eqs_out q_762 eg_765 (⟨by decide, by decide⟩ : rg 93 93 (93 : Int32)) (by decide) (by decide) (by decide) (by decide)
    have q_776 : eqs 0 92 g_765 F_h0_now := eqs_out q_763 eg_765 (⟨by decide, by decide⟩ : rg 93 93 (93 : Int32)) (by decide) (by decide) (by decide) (by decide)
    have q_777 : eqs 94 114 g_765 F_h0_now := eqs_out q_764 eg_765 (⟨by decide, by decide⟩ : rg 93 93 (93 : Int32)) (by decide) (by decide) (by decide) (by decide)
    have hP : va_P D vwCl [(h0, .inr (11, [.int h0_thrown, .ref h0_tape, .int h0_taped, .int h0_size, .int h0_limit, .int h0_to, .int h0_from, .int h0_kind, .int h0_number, .int h0_sign, .int h0_fault, .int h0_place, .long h0_word, .int h0_told, .ref h0_now, .ref h0_read, .ref h0_kept, .ref h0_snaps, .ref h0_aside, .ref h0_name, .ref h0_readName, .ref h0_keptName, .ref h0_isKept, .ref h0_onces, .int h0_snapMany, .int y31_3, .int y31_4, .int h0_agreed, .int h0_jurors, .int h0_panelled, .ref h0_inSets, .int h0_surely, .int h0_asked, .ref h0_frees, .int h0_struck, .int h0_beating, .ref h0_text, .int h0_texts, .int h0_seed, .ref h0_line, .ref h0_written, .int h0_lineMany, .int h0_hasWritten, .ref h0_node, .int h0_nodes, .int h0_onesMany, .int h0_within, .int h0_top])), (aI ca h0_now 376 g_765)] H := hP
    have hD : va_D A [(h0, .inr (11, [.int h0_thrown, .ref h0_tape, .int h0_taped, .int h0_size, .int h0_limit, .int h0_to, .int h0_from, .int h0_kind, .int h0_number, .int h0_sign, .int h0_fault, .int h0_place, .long h0_word, .int h0_told, .ref h0_now, .ref h0_read, .ref h0_kept, .ref h0_snaps, .ref h0_aside, .ref h0_name, .ref h0_readName, .ref h0_keptName, .ref h0_isKept, .ref h0_onces, .int h0_snapMany, .int y31_3, .int y31_4, .int h0_agreed, .int h0_jurors, .int h0_panelled, .ref h0_inSets, .int h0_surely, .int h0_asked, .ref h0_frees, .int h0_struck, .int h0_beating, .ref h0_text, .int h0_texts, .int h0_seed, .ref h0_line, .ref h0_written, .int h0_lineMany, .int h0_hasWritten, .ref h0_node, .int h0_nodes, .int h0_onesMany, .int h0_within, .int h0_top])), (aI ca h0_now 376 g_765)] := hD
    refine lv_iconst (v := 0) hx hb dX12_tryOne_102 (by decide) ?_
    refine lv_istore_n (lv' := [(3, .int 0), (0, .ref h0), (1, .int a1), (2, .int y31_0)]) hx hb dX12_tryOne_103 rfl hl (by decide) rfl (fun ls hl => ?_)
    exact J104_576 11 y31_0 0 y31_3 y31_4 g_765 trivial hy31_0 (⟨by decide, by decide⟩ : rg 0 10 (0 : Int32)) hy31_3 hy31_4 s_766 s_767 s_768 s_769 s_770 s_771 s_772 s_773 s_774 q_775 q_776 (by have q0 := (⟨by decide, by decide⟩ : rg 0 0 (0 : Int32)).1; omega) H locs ls (oPsub hP [0, 1] rfl) (hD.sub [0, 1] (by decide) rfl) hS (lv_sub hl [1, 3, 0] rfl)
  refine lv_aload_n hx hb dX12_tryOne_0 rfl (lv_at hl 0 rfl) ?_
  refine oC_i (Wc := [(h0, .inr (11, [.int h0_thrown, .ref h0_tape, .int h0_taped, .int h0_size, .int h0_limit, .int h0_to, .int h0_from, .int h0_kind, .int h0_number, .int h0_sign, .int h0_fault, .int h0_place, .long h0_word, .int h0_told, .ref h0_now, .ref h0_read, .ref h0_kept, .ref h0_snaps, .ref h0_aside, .ref h0_name, .ref h0_readName, .ref h0_keptName, .ref h0_isKept, .ref h0_onces, .int h0_snapMany, .int h0_lowest, .int h0_highest, .int h0_agreed, .int h0_jurors, .int h0_panelled, .ref h0_inSets, .int h0_surely, .int h0_asked, .ref h0_frees, .int h0_struck, .int h0_beating, .ref h0_text, .int h0_texts, .int h0_seed, .ref h0_line, .ref h0_written, .int h0_lineMany, .int h0_hasWritten, .ref h0_node, .int h0_nodes, .int h0_onesMany, .int h0_within, .int h0_top])), (aI ca h0_now 376 F_h0_now)]) (Wr := []) (va_runV (As := []) (rest := []) ⟨hx, hb, hml, hown, hts⟩ (s_X12_droppers l D ca H.size h0 h0_thrown h0_tape h0_taped h0_size h0_limit h0_to h0_from h0_kind h0_number h0_sign h0_fault h0_place h0_word h0_told h0_now h0_read h0_kept h0_snaps h0_aside h0_name h0_readName h0_keptName h0_isKept h0_onces h0_snapMany h0_lowest h0_highest h0_agreed h0_jurors h0_panelled h0_inSets h0_surely h0_asked h0_frees h0_struck h0_beating h0_text h0_texts h0_seed h0_line h0_written h0_lineMany h0_hasWritten h0_node h0_nodes h0_onesMany h0_within h0_top F_h0_now i_h0_taped i_h0_size i_h0_to i_h0_kind i_h0_snapMany i_h0_texts i_h0_lineMany i_h0_hasWritten i_h0_nodes i_h0_onesMany s_h0_now_0 s_h0_now_1 s_h0_now_2 s_h0_now_3 s_h0_now_4 s_h0_now_5 s_h0_now_6 s_h0_now_7) (cwV 0 hts gX12_tryOne_X12_droppers rfl rfl rfl (by decide +kernel) ⟨Nat.le_of_ble_eq_true rfl, Nat.le_of_ble_eq_true rfl⟩) (oPV (C := RX12) hK hP hD [0, 1] rfl (by decide) 0 rfl (ci := 11) rfl rfl) rfl rfl hl.1 rfl (lv_room (Nat.le_of_ble_eq_true rfl)) dX12_tryOne_1 ⟨Nat.le_of_ble_eq_true rfl, Nat.le_of_ble_eq_true rfl⟩) hP hD hS hA [0, 1] [] rfl rfl (by decide) (by decide) (fun r_778 u H locs w_779 hP hD hS => ?_)
  obtain ⟨⟩ := u
  have hP : va_P D vwCl [(h0, .inr (11, [.int h0_thrown, .ref h0_tape, .int h0_taped, .int h0_size, .int h0_limit, .int h0_to, .int h0_from, .int h0_kind, .int h0_number, .int h0_sign, .int h0_fault, .int h0_place, .long h0_word, .int h0_told, .ref h0_now, .ref h0_read, .ref h0_kept, .ref h0_snaps, .ref h0_aside, .ref h0_name, .ref h0_readName, .ref h0_keptName, .ref h0_isKept, .ref h0_onces, .int h0_snapMany, .int h0_lowest, .int h0_highest, .int h0_agreed, .int h0_jurors, .int h0_panelled, .ref h0_inSets, .int h0_surely, .int h0_asked, .ref h0_frees, .int h0_struck, .int h0_beating, .ref h0_text, .int h0_texts, .int h0_seed, .ref h0_line, .ref h0_written, .int h0_lineMany, .int h0_hasWritten, .ref h0_node, .int h0_nodes, .int h0_onesMany, .int h0_within, .int h0_top])), (aI ca h0_now 376 F_h0_now)] H := hP
  have hD : va_D A [(h0, .inr (11, [.int h0_thrown, .ref h0_tape, .int h0_taped, .int h0_size, .int h0_limit, .int h0_to, .int h0_from, .int h0_kind, .int h0_number, .int h0_sign, .int h0_fault, .int h0_place, .long h0_word, .int h0_told, .ref h0_now, .ref h0_read, .ref h0_kept, .ref h0_snaps, .ref h0_aside, .ref h0_name, .ref h0_readName, .ref h0_keptName, .ref h0_isKept, .ref h0_onces, .int h0_snapMany, .int h0_lowest, .int h0_highest, .int h0_agreed, .int h0_jurors, .int h0_panelled, .ref h0_inSets, .int h0_surely, .int h0_asked, .ref h0_frees, .int h0_struck, .int h0_beating, .ref h0_text, .int h0_texts, .int h0_seed, .ref h0_line, .ref h0_written, .int h0_lineMany, .int h0_hasWritten, .ref h0_node, .int h0_nodes, .int h0_onesMany, .int h0_within, .int h0_top])), (aI ca h0_now 376 F_h0_now)] := hD
  try dsimp only at w_779
  have h_780 := w_779
  refine lv_istore_n (lv' := [(2, .int r_778), (0, .ref h0), (1, .int a1)]) hx hb dX12_tryOne_4 rfl hl (by decide) rfl (fun ls hl => ?_)
  refine lv_aload_n hx hb dX12_tryOne_5 rfl (lv_at hl 1 rfl) ?_
  refine va_get (D := D) (ci := 11) (v := .ref h0_now) (C := RX12) (T := TX12) (N := 48) hx hb hts k2 hown hK.1 hP 0 rfl rfl 14 (by decide) k1 (fun _ h9 => h9) rfl dX12_tryOne_6 ?_
  refine lv_bipush (v := 114) hx hb dX12_tryOne_9 (by decide) ?_
  refine lv_iload_n hx hb dX12_tryOne_11 rfl (lv_at hl 2 rfl) ?_
  refine lv_iadd hx hb dX12_tryOne_12 ?_
  refine lv_topi (fun x_781 ex_781 => ?_)
  have h_782 : rg 114 118 x_781 := by rw [ex_781]; exact rg_add (⟨by decide, by decide⟩ : rg 114 114 (114 : Int32)) i_a1 (by decide) (by decide) (by decide) (by decide)
  have l_783 : lq x_781.toInt (a1.toInt + 114) := lqm (by rw [ex_781]; have q := tadd (⟨by decide, by decide⟩ : rg 114 114 (114 : Int32)) i_a1 (by decide) (by decide); have r0 := lqe (lqm (by decide) : lq (114 : Int32).toInt 114); omega)
  refine lv_aload_n hx hb dX12_tryOne_13 rfl (lv_at hl 1 rfl) ?_
  refine lv_iload_n hx hb dX12_tryOne_14 rfl (lv_at hl 0 rfl) ?_
  refine lv_aload_n hx hb dX12_tryOne_15 rfl (lv_at hl 1 rfl) ?_
  refine lv_iload_n hx hb dX12_tryOne_16 rfl (lv_at hl 2 rfl) ?_
  refine oC_i (Wc := [(h0, .inr (11, [.int h0_thrown, .ref h0_tape, .int h0_taped, .int h0_size, .int h0_limit, .int h0_to, .int h0_from, .int h0_kind, .int h0_number, .int h0_sign, .int h0_fault, .int h0_place, .long h0_word, .int h0_told, .ref h0_now, .ref h0_read, .ref h0_kept, .ref h0_snaps, .ref h0_aside, .ref h0_name, .ref h0_readName, .ref h0_keptName, .ref h0_isKept, .ref h0_onces, .int h0_snapMany, .int h0_lowest, .int h0_highest, .int h0_agreed, .int h0_jurors, .int h0_panelled, .ref h0_inSets, .int h0_surely, .int h0_asked, .ref h0_frees, .int h0_struck, .int h0_beating, .ref h0_text, .int h0_texts, .int h0_seed, .ref h0_line, .ref h0_written, .int h0_lineMany, .int h0_hasWritten, .ref h0_node, .int h0_nodes, .int h0_onesMany, .int h0_within, .int h0_top])), (aI ca h0_now 376 F_h0_now)]) (Wr := []) (va_runV (As := [.int a1]) (rest := [.int r_778, .ref h0, .int x_781, .ref h0_now]) ⟨hx, hb, hml, hown, hts⟩ (s_X12_floorOf l D ca H.size h0 a1 h0_thrown h0_tape h0_taped h0_size h0_limit h0_to h0_from h0_kind h0_number h0_sign h0_fault h0_place h0_word h0_told h0_now h0_read h0_kept h0_snaps h0_aside h0_name h0_readName h0_keptName h0_isKept h0_onces h0_snapMany h0_lowest h0_highest h0_agreed h0_jurors h0_panelled h0_inSets h0_surely h0_asked h0_frees h0_struck h0_beating h0_text h0_texts h0_seed h0_line h0_written h0_lineMany h0_hasWritten h0_node h0_nodes h0_onesMany h0_within h0_top F_h0_now i_a1 i_h0_taped i_h0_size i_h0_to i_h0_kind i_h0_snapMany i_h0_texts i_h0_lineMany i_h0_hasWritten i_h0_nodes i_h0_onesMany s_h0_now_0 s_h0_now_1 s_h0_now_2 s_h0_now_3 s_h0_now_4 s_h0_now_5 s_h0_now_6 s_h0_now_7) (cwV 1 hts gX12_tryOne_X12_floorOf rfl rfl rfl (by decide +kernel) ⟨Nat.le_of_ble_eq_true rfl, Nat.le_of_ble_eq_true rfl⟩) (oPV (C := RX12) hK hP hD [0, 1] rfl (by decide) 0 rfl (ci := 11) rfl rfl) rfl rfl hl.1 rfl (lv_room (Nat.le_of_ble_eq_true rfl)) dX12_tryOne_17 ⟨Nat.le_of_ble_eq_true rfl, Nat.le_of_ble_eq_true rfl⟩) hP hD hS hA [0, 1] [] rfl rfl (by decide) (by decide) (fun r_784 u H locs w_785 hP hD hS => ?_)
  obtain ⟨⟩ := u
  have hP : va_P D vwCl [(h0, .inr (11, [.int h0_thrown, .ref h0_tape, .int h0_taped, .int h0_size, .int h0_limit, .int h0_to, .int h0_from, .int h0_kind, .int h0_number, .int h0_sign, .int h0_fault, .int h0_place, .long h0_word, .int h0_told, .ref h0_now, .ref h0_read, .ref h0_kept, .ref h0_snaps, .ref h0_aside, .ref h0_name, .ref h0_readName, .ref h0_keptName, .ref h0_isKept, .ref h0_onces, .int h0_snapMany, .int h0_lowest, .int h0_highest, .int h0_agreed, .int h0_jurors, .int h0_panelled, .ref h0_inSets, .int h0_surely, .int h0_asked, .ref h0_frees, .int h0_struck, .int h0_beating, .ref h0_text, .int h0_texts, .int h0_seed, .ref h0_line, .ref h0_written, .int h0_lineMany, .int h0_hasWritten, .ref h0_node, .int h0_nodes, .int h0_onesMany, .int h0_within, .int h0_top])), (aI ca h0_now 376 F_h0_now)] H := hP
  have hD : va_D A [(h0, .inr (11, [.int h0_thrown, .ref h0_tape, .int h0_taped, .int h0_size, .int h0_limit, .int h0_to, .int h0_from, .int h0_kind, .int h0_number, .int h0_sign, .int h0_fault, .int h0_place, .long h0_word, .int h0_told, .ref h0_now, .ref h0_read, .ref h0_kept, .ref h0_snaps, .ref h0_aside, .ref h0_name, .ref h0_readName, .ref h0_keptName, .ref h0_isKept, .ref h0_onces, .int h0_snapMany, .int h0_lowest, .int h0_highest, .int h0_agreed, .int h0_jurors, .int h0_panelled, .ref h0_inSets, .int h0_surely, .int h0_asked, .ref h0_frees, .int h0_struck, .int h0_beating, .ref h0_text, .int h0_texts, .int h0_seed, .ref h0_line, .ref h0_written, .int h0_lineMany, .int h0_hasWritten, .ref h0_node, .int h0_nodes, .int h0_onesMany, .int h0_within, .int h0_top])), (aI ca h0_now 376 F_h0_now)] := hD
  try dsimp only at w_785
  have h_786 := w_785
  refine oC_i (Wc := [(h0, .inr (11, [.int h0_thrown, .ref h0_tape, .int h0_taped, .int h0_size, .int h0_limit, .int h0_to, .int h0_from, .int h0_kind, .int h0_number, .int h0_sign, .int h0_fault, .int h0_place, .long h0_word, .int h0_told, .ref h0_now, .ref h0_read, .ref h0_kept, .ref h0_snaps, .ref h0_aside, .ref h0_name, .ref h0_readName, .ref h0_keptName, .ref h0_isKept, .ref h0_onces, .int h0_snapMany, .int h0_lowest, .int h0_highest, .int h0_agreed, .int h0_jurors, .int h0_panelled, .ref h0_inSets, .int h0_surely, .int h0_asked, .ref h0_frees, .int h0_struck, .int h0_beating, .ref h0_text, .int h0_texts, .int h0_seed, .ref h0_line, .ref h0_written, .int h0_lineMany, .int h0_hasWritten, .ref h0_node, .int h0_nodes, .int h0_onesMany, .int h0_within, .int h0_top])), (aI ca h0_now 376 F_h0_now)]) (Wr := []) (va_runV (As := [.int r_778, .int r_784]) (rest := [.int x_781, .ref h0_now]) ⟨hx, hb, hml, hown, hts⟩ (s_X12_isOneRing_ l D ca H.size h0 r_778 r_784 h0_thrown h0_tape h0_taped h0_size h0_limit h0_to h0_from h0_kind h0_number h0_sign h0_fault h0_place h0_word h0_told h0_now h0_read h0_kept h0_snaps h0_aside h0_name h0_readName h0_keptName h0_isKept h0_onces h0_snapMany h0_lowest h0_highest h0_agreed h0_jurors h0_panelled h0_inSets h0_surely h0_asked h0_frees h0_struck h0_beating h0_text h0_texts h0_seed h0_line h0_written h0_lineMany h0_hasWritten h0_node h0_nodes h0_onesMany h0_within h0_top F_h0_now h_786 i_h0_taped i_h0_size i_h0_to i_h0_kind i_h0_snapMany i_h0_texts i_h0_lineMany i_h0_hasWritten i_h0_nodes i_h0_onesMany s_h0_now_0 s_h0_now_1 s_h0_now_2 s_h0_now_3 s_h0_now_4 s_h0_now_5 s_h0_now_6 s_h0_now_7) (cwV 2 hts gX12_tryOne_X12_isOneRing_ rfl rfl rfl (by decide +kernel) ⟨Nat.le_of_ble_eq_true rfl, Nat.le_of_ble_eq_true rfl⟩) (oPV (C := RX12) hK hP hD [0, 1] rfl (by decide) 0 rfl (ci := 11) rfl rfl) rfl rfl hl.1 rfl (lv_room (Nat.le_of_ble_eq_true rfl)) dX12_tryOne_20 ⟨Nat.le_of_ble_eq_true rfl, Nat.le_of_ble_eq_true rfl⟩) hP hD hS hA [0, 1] [] rfl rfl (by decide) (by decide) (fun r_787 u H locs w_788 hP hD hS => ?_)
  obtain ⟨u_789, u_790⟩ := u
  have hP : va_P D vwCl [(h0, .inr (11, [.int h0_thrown, .ref h0_tape, .int h0_taped, .int h0_size, .int h0_limit, .int h0_to, .int h0_from, .int h0_kind, .int h0_number, .int h0_sign, .int h0_fault, .int h0_place, .long h0_word, .int h0_told, .ref h0_now, .ref h0_read, .ref h0_kept, .ref h0_snaps, .ref h0_aside, .ref h0_name, .ref h0_readName, .ref h0_keptName, .ref h0_isKept, .ref h0_onces, .int h0_snapMany, .int u_789, .int u_790, .int h0_agreed, .int h0_jurors, .int h0_panelled, .ref h0_inSets, .int h0_surely, .int h0_asked, .ref h0_frees, .int h0_struck, .int h0_beating, .ref h0_text, .int h0_texts, .int h0_seed, .ref h0_line, .ref h0_written, .int h0_lineMany, .int h0_hasWritten, .ref h0_node, .int h0_nodes, .int h0_onesMany, .int h0_within, .int h0_top])), (aI ca h0_now 376 F_h0_now)] H := hP
  have hD : va_D A [(h0, .inr (11, [.int h0_thrown, .ref h0_tape, .int h0_taped, .int h0_size, .int h0_limit, .int h0_to, .int h0_from, .int h0_kind, .int h0_number, .int h0_sign, .int h0_fault, .int h0_place, .long h0_word, .int h0_told, .ref h0_now, .ref h0_read, .ref h0_kept, .ref h0_snaps, .ref h0_aside, .ref h0_name, .ref h0_readName, .ref h0_keptName, .ref h0_isKept, .ref h0_onces, .int h0_snapMany, .int u_789, .int u_790, .int h0_agreed, .int h0_jurors, .int h0_panelled, .ref h0_inSets, .int h0_surely, .int h0_asked, .ref h0_frees, .int h0_struck, .int h0_beating, .ref h0_text, .int h0_texts, .int h0_seed, .ref h0_line, .ref h0_written, .int h0_lineMany, .int h0_hasWritten, .ref h0_node, .int h0_nodes, .int h0_onesMany, .int h0_within, .int h0_top])), (aI ca h0_now 376 F_h0_now)] := hD
  try dsimp only at w_788
  rcases w_788 with ⟨h_791, h_792, h_793⟩ | ⟨h_794, h_795, h_796, h_797⟩
  · skip
    subst h_791
    refine lv_if_eq (tgt := 30) hx hb dX12_tryOne_23 (by decide) (fun _ => ?_) (fun c => absurd (by decide) c)
    refine lv_iconst (v := 2) hx hb dX12_tryOne_30 (by decide) ?_
    exact J31_690 r_778 2 x_781 u_789 u_790 h_780 (⟨by decide, by decide⟩ : rg 1 2 (2 : Int32)) h_782 (rlm (by have q0 := lqe l_783; omega)) (rlm (by have q0 := lqe l_783; omega)) h_792 h_793 H locs ls (oPsub hP [0, 1] rfl) (hD.sub [0, 1] (by decide) rfl) hS (lv_sub hl [1, 2, 0] rfl)
  · skip
    subst h_794
    refine lv_if_eq (tgt := 30) hx hb dX12_tryOne_23 (by decide) (fun c => absurd c (by decide)) (fun _ => ?_)
    refine lv_iconst (v := 1) hx hb dX12_tryOne_26 (by decide) ?_
    refine lv_goto (tgt := 31) hx hb dX12_tryOne_27 (by decide) ?_
    exact J31_690 r_778 1 x_781 u_789 u_790 h_780 (⟨by decide, by decide⟩ : rg 1 2 (1 : Int32)) h_782 (rlm (by have q0 := lqe l_783; omega)) (rlm (by have q0 := lqe l_783; omega)) h_795 h_796 H locs ls (oPsub hP [0, 1] rfl) (hD.sub [0, 1] (by decide) rfl) hS (lv_sub hl [1, 2, 0] rfl)
