theorem dX12_verdict_0 : decode cX12_verdict 0 = .ok (.aload_n 0, 1) := by decide +kernel
theorem dX12_verdict_1 : decode cX12_verdict 1 = .ok (.iconst 0, 1) := by decide +kernel
theorem dX12_verdict_2 : decode cX12_verdict 2 = .ok (.putfield 1, 3) := by decide +kernel
theorem dX12_verdict_5 : decode cX12_verdict 5 = .ok (.aload_n 0, 1) := by decide +kernel
theorem dX12_verdict_6 : decode cX12_verdict 6 = .ok (.iload_n 1, 1) := by decide +kernel
theorem dX12_verdict_7 : decode cX12_verdict 7 = .ok (.invokevirtual 255, 3) := by decide +kernel
theorem dX12_verdict_10 : decode cX12_verdict 10 = .ok (.ifCond .eq 10, 3) := by decide +kernel
theorem dX12_verdict_13 : decode cX12_verdict 13 = .ok (.aload_n 0, 1) := by decide +kernel
theorem dX12_verdict_14 : decode cX12_verdict 14 = .ok (.invokevirtual 274, 3) := by decide +kernel
theorem dX12_verdict_17 : decode cX12_verdict 17 = .ok (.ifCond .ne 5, 3) := by decide +kernel
theorem dX12_verdict_20 : decode cX12_verdict 20 = .ok (.iconst (-1), 1) := by decide +kernel
theorem dX12_verdict_21 : decode cX12_verdict 21 = .ok (.ireturn, 1) := by decide +kernel
theorem dX12_verdict_22 : decode cX12_verdict 22 = .ok (.aload_n 0, 1) := by decide +kernel
theorem dX12_verdict_23 : decode cX12_verdict 23 = .ok (.aload_n 0, 1) := by decide +kernel
theorem dX12_verdict_24 : decode cX12_verdict 24 = .ok (.invokevirtual 274, 3) := by decide +kernel
theorem dX12_verdict_27 : decode cX12_verdict 27 = .ok (.aload_n 0, 1) := by decide +kernel
theorem dX12_verdict_28 : decode cX12_verdict 28 = .ok (.iload_n 1, 1) := by decide +kernel
theorem dX12_verdict_29 : decode cX12_verdict 29 = .ok (.invokevirtual 258, 3) := by decide +kernel
theorem dX12_verdict_32 : decode cX12_verdict 32 = .ok (.invokevirtual 277, 3) := by decide +kernel
theorem dX12_verdict_35 : decode cX12_verdict 35 = .ok (.ifCond .eq 7, 3) := by decide +kernel
theorem dX12_verdict_38 : decode cX12_verdict 38 = .ok (.iconst 1, 1) := by decide +kernel
theorem dX12_verdict_39 : decode cX12_verdict 39 = .ok (.goto 4, 3) := by decide +kernel
theorem dX12_verdict_42 : decode cX12_verdict 42 = .ok (.iconst 0, 1) := by decide +kernel
theorem dX12_verdict_43 : decode cX12_verdict 43 = .ok (.ireturn, 1) := by decide +kernel
set_option maxRecDepth 20000 in
theorem ggX12_verdict_X12_isCase : GoodIn wsX12_verdict wsX12_isCase := goodIn_r _ [6, 7, 8, 9, 5, 10, 40, 41, 42, 43, 44, 45, 46, 47, 48, 49, 50, 51, 52, 53, 54, 55, 56, 57, 58, 59, 60, 61, 62, 63, 64, 65, 66, 67, 68, 69, 70, 71, 72, 73, 74, 75, 76, 77, 78, 79, 80, 81, 82, 83, 84, 85, 86, 87] rfl (by decide +kernel)
set_option maxRecDepth 20000 in
theorem gX12_verdict_X12_isCase : GoodIn wsX12_verdict (wsV RX12 255 RX12 yX12_isCase wsX12_isCase) := goodIn_app (goodIn_of _ (by decide +kernel)) ggX12_verdict_X12_isCase
set_option maxRecDepth 20000 in
theorem ggX12_verdict_X12_droppers : GoodIn wsX12_verdict wsX12_droppers := goodIn_r _ [14, 7, 40, 41, 42, 43, 44, 45, 46, 47, 48, 49, 50, 51, 52, 53, 54, 55, 56, 57, 58, 59, 60, 61, 62, 63, 64, 65, 66, 67, 68, 69, 70, 71, 72, 73, 74, 75, 76, 77, 78, 79, 80, 81, 82, 83, 84, 85, 86, 87] rfl (by decide +kernel)
set_option maxRecDepth 20000 in
theorem gX12_verdict_X12_droppers : GoodIn wsX12_verdict (wsV RX12 274 RX12 yX12_droppers wsX12_droppers) := goodIn_app (goodIn_of _ (by decide +kernel)) ggX12_verdict_X12_droppers
set_option maxRecDepth 20000 in
theorem ggX12_verdict_X12_floorOf : GoodIn wsX12_verdict wsX12_floorOf := goodIn_r _ [18, 7, 40, 41, 42, 43, 44, 45, 46, 47, 48, 49, 50, 51, 52, 53, 54, 55, 56, 57, 58, 59, 60, 61, 62, 63, 64, 65, 66, 67, 68, 69, 70, 71, 72, 73, 74, 75, 76, 77, 78, 79, 80, 81, 82, 83, 84, 85, 86, 87] rfl (by decide +kernel)
set_option maxRecDepth 20000 in
theorem gX12_verdict_X12_floorOf : GoodIn wsX12_verdict (wsV RX12 258 RX12 yX12_floorOf wsX12_floorOf) := goodIn_app (goodIn_of _ (by decide +kernel)) ggX12_verdict_X12_floorOf
set_option maxRecDepth 20000 in
theorem ggX12_verdict_X12_isOneRing_ : GoodIn wsX12_verdict wsX12_isOneRing_ := goodIn_r _ [22, 23, 24, 25, 5, 26, 27, 28, 7, 29, 30, 31, 32, 33, 34, 35, 36, 37, 38, 39, 40, 41, 42, 43, 44, 45, 46, 47, 48, 49, 50, 51, 52, 53, 54, 55, 56, 57, 58, 59, 60, 61, 62, 63, 64, 65, 66, 67, 68, 69, 70, 71, 72, 73, 74, 75, 76, 77, 78, 79, 80, 81, 82, 83, 84, 85, 86, 87] rfl (by decide +kernel)
set_option maxRecDepth 20000 in
theorem gX12_verdict_X12_isOneRing_ : GoodIn wsX12_verdict (wsV RX12 277 RX12 yX12_isOneRing_ wsX12_isOneRing_) := goodIn_app (goodIn_of _ (by decide +kernel)) ggX12_verdict_X12_isOneRing_
set_option maxHeartbeats 4000000 in
set_option maxRecDepth 100000 in
theorem s_X12_verdict (l : Launch) (D : va_G) (ca : Nat → ClassId) (sz : Nat) (h0 : Nat) (a1 : Int32) (h0_thrown : Int32) (h0_tape : Nat) (h0_taped : Int32) (h0_size : Int32) (h0_limit : Int32) (h0_to : Int32) (h0_from : Int32) (h0_kind : Int32) (h0_number : Int32) (h0_sign : Int32) (h0_fault : Int32) (h0_place : Int32) (h0_word : Int64) (h0_told : Int32) (h0_now : Nat) (h0_read : Nat) (h0_kept : Nat) (h0_snaps : Nat) (h0_aside : Nat) (h0_name : Nat) (h0_readName : Nat) (h0_keptName : Nat) (h0_isKept : Nat) (h0_onces : Nat) (h0_snapMany : Int32) (h0_lowest : Int32) (h0_highest : Int32) (h0_agreed : Int32) (h0_jurors : Int32) (h0_panelled : Int32) (h0_inSets : Nat) (h0_surely : Int32) (h0_asked : Int32) (h0_frees : Nat) (h0_struck : Int32) (h0_beating : Int32) (h0_text : Nat) (h0_texts : Int32) (h0_seed : Int32) (h0_line : Nat) (h0_written : Nat) (h0_lineMany : Int32) (h0_hasWritten : Int32) (h0_node : Nat) (h0_nodes : Int32) (h0_onesMany : Int32) (h0_within : Int32) (h0_top : Int32) (F_h0_now : Nat → Int32) (i_h0_taped : rg 0 940 h0_taped) (i_h0_size : rg 0 940 h0_size) (i_h0_to : rg 0 940 h0_to) (i_h0_snapMany : rg 0 8 h0_snapMany) (i_h0_texts : rg 0 64 h0_texts) (i_h0_lineMany : rg 0 40 h0_lineMany) (i_h0_hasWritten : rg 0 1 h0_hasWritten) (s_h0_now_0 : sg 0 1 0 10 F_h0_now) (s_h0_now_1 : sg 1 2 0 4 F_h0_now) (s_h0_now_2 : sg 2 3 0 5 F_h0_now) (s_h0_now_3 : sg 35 36 0 1023 F_h0_now) (s_h0_now_4 : sg 44 49 0 3 F_h0_now) (s_h0_now_5 : sg 90 91 0 1023 F_h0_now) : oMet l yX12_verdict wsX12_verdict ({ frames := 4, cells := 0, slots := 0, locals := 95 } : Room) [.ref h0, .int a1] D ca sz [(h0, .inr (11, [.int h0_thrown, .ref h0_tape, .int h0_taped, .int h0_size, .int h0_limit, .int h0_to, .int h0_from, .int h0_kind, .int h0_number, .int h0_sign, .int h0_fault, .int h0_place, .long h0_word, .int h0_told, .ref h0_now, .ref h0_read, .ref h0_kept, .ref h0_snaps, .ref h0_aside, .ref h0_name, .ref h0_readName, .ref h0_keptName, .ref h0_isKept, .ref h0_onces, .int h0_snapMany, .int h0_lowest, .int h0_highest, .int h0_agreed, .int h0_jurors, .int h0_panelled, .ref h0_inSets, .int h0_surely, .int h0_asked, .ref h0_frees, .int h0_struck, .int h0_beating, .ref h0_text, .int h0_texts, .int h0_seed, .ref h0_line, .ref h0_written, .int h0_lineMany, .int h0_hasWritten, .ref h0_node, .int h0_nodes, .int h0_onesMany, .int h0_within, .int h0_top])), (aI ca h0_now 376 F_h0_now)] (oQi D (fun (r : Int32) (u : Int32 × Int32) => (rg (-1) 1 r)) (fun (u : Int32 × Int32) => [(h0, .inr (11, [.int 0, .ref h0_tape, .int h0_taped, .int h0_size, .int h0_limit, .int h0_to, .int h0_from, .int h0_kind, .int h0_number, .int h0_sign, .int h0_fault, .int h0_place, .long h0_word, .int h0_told, .ref h0_now, .ref h0_read, .ref h0_kept, .ref h0_snaps, .ref h0_aside, .ref h0_name, .ref h0_readName, .ref h0_keptName, .ref h0_isKept, .ref h0_onces, .int h0_snapMany, .int u.1, .int u.2, .int h0_agreed, .int h0_jurors, .int h0_panelled, .ref h0_inSets, .int h0_surely, .int h0_asked, .ref h0_frees, .int h0_struck, .int h0_beating, .ref h0_text, .int h0_texts, .int h0_seed, .ref h0_line, .ref h0_written, .int h0_lineMany, .int h0_hasWritten, .ref h0_node, .int h0_nodes, .int h0_onesMany, .int h0_within, .int h0_top])), (aI ca h0_now 376 F_h0_now)])) 0 0 := by
  refine oM (cc := cX12_verdict) (maxL := 2) (ret := (some .int)) (by decide) rfl (Nat.le_of_ble_eq_true rfl) [(0, .ref h0), (1, .int a1)] rfl ?_
  intro p e s m below meth c A H locs ls hx hb hr hml hts hown hlocks hin hK hP hD hA hS hl
  have hown : s.vm.findClass RX12 = some m.cls := hown
  have k1 := hts (.fieldLink RX12 1 "LidCourtModel" "thrown" "I") (by decide +kernel)
  have k2 : ∀ w ∈ wsX120, w ∈ wsX12_verdict := fun _ h => List.mem_cons_of_mem _ (List.mem_append_right _ h)
  refine lv_aload_n hx hb dX12_verdict_0 rfl (lv_at hl 0 rfl) ?_
  refine lv_iconst (v := 0) hx hb dX12_verdict_1 (by decide) ?_
  refine va_put (D := D) (ci := 11) (v := .int 0) (ty := .int) (C := RX12) (T := TX12) (N := 48) hx hb hts k2 tyX12 tyX12_ok nmX12 hown hK.1 hP hD hS 0 rfl rfl 0 (by decide) k1 (fun _ h9 => h9) rfl (by decide +kernel) rfl rfl (Nat.le_of_ble_eq_true rfl) dX12_verdict_2 (fun H locs hP hD hS => ?_)
  have hP : va_P D vwCl [(h0, .inr (11, [.int 0, .ref h0_tape, .int h0_taped, .int h0_size, .int h0_limit, .int h0_to, .int h0_from, .int h0_kind, .int h0_number, .int h0_sign, .int h0_fault, .int h0_place, .long h0_word, .int h0_told, .ref h0_now, .ref h0_read, .ref h0_kept, .ref h0_snaps, .ref h0_aside, .ref h0_name, .ref h0_readName, .ref h0_keptName, .ref h0_isKept, .ref h0_onces, .int h0_snapMany, .int h0_lowest, .int h0_highest, .int h0_agreed, .int h0_jurors, .int h0_panelled, .ref h0_inSets, .int h0_surely, .int h0_asked, .ref h0_frees, .int h0_struck, .int h0_beating, .ref h0_text, .int h0_texts, .int h0_seed, .ref h0_line, .ref h0_written, .int h0_lineMany, .int h0_hasWritten, .ref h0_node, .int h0_nodes, .int h0_onesMany, .int h0_within, .int h0_top])), (aI ca h0_now 376 F_h0_now)] H := hP
  have hD : va_D A [(h0, .inr (11, [.int 0, .ref h0_tape, .int h0_taped, .int h0_size, .int h0_limit, .int h0_to, .int h0_from, .int h0_kind, .int h0_number, .int h0_sign, .int h0_fault, .int h0_place, .long h0_word, .int h0_told, .ref h0_now, .ref h0_read, .ref h0_kept, .ref h0_snaps, .ref h0_aside, .ref h0_name, .ref h0_readName, .ref h0_keptName, .ref h0_isKept, .ref h0_onces, .int h0_snapMany, .int h0_lowest, .int h0_highest, .int h0_agreed, .int h0_jurors, .int h0_panelled, .ref h0_inSets, .int h0_surely, .int h0_asked, .ref h0_frees, .int h0_struck, .int h0_beating, .ref h0_text, .int h0_texts, .int h0_seed, .ref h0_line, .ref h0_written, .int h0_lineMany, .int h0_hasWritten, .ref h0_node, .int h0_nodes, .int h0_onesMany, .int h0_within, .int h0_top])), (aI ca h0_now 376 F_h0_now)] := hD
  refine lv_aload_n hx hb dX12_verdict_5 rfl (lv_at hl 0 rfl) ?_
  refine lv_iload_n hx hb dX12_verdict_6 rfl (lv_at hl 1 rfl) ?_
  refine oC_i (Wc := [(h0, .inr (11, [.int 0, .ref h0_tape, .int h0_taped, .int h0_size, .int h0_limit, .int h0_to, .int h0_from, .int h0_kind, .int h0_number, .int h0_sign, .int h0_fault, .int h0_place, .long h0_word, .int h0_told, .ref h0_now, .ref h0_read, .ref h0_kept, .ref h0_snaps, .ref h0_aside, .ref h0_name, .ref h0_readName, .ref h0_keptName, .ref h0_isKept, .ref h0_onces, .int h0_snapMany, .int h0_lowest, .int h0_highest, .int h0_agreed, .int h0_jurors, .int h0_panelled, .ref h0_inSets, .int h0_surely, .int h0_asked, .ref h0_frees, .int h0_struck, .int h0_beating, .ref h0_text, .int h0_texts, .int h0_seed, .ref h0_line, .ref h0_written, .int h0_lineMany, .int h0_hasWritten, .ref h0_node, .int h0_nodes, .int h0_onesMany, .int h0_within, .int h0_top])), (aI ca h0_now 376 F_h0_now)]) (Wr := []) (va_runV (As := [.int a1]) (rest := []) ⟨hx, hb, hml, hown, hts⟩ (s_X12_isCase l D ca H.size h0 a1 0 h0_tape h0_taped h0_size h0_limit h0_to h0_from h0_kind h0_number h0_sign h0_fault h0_place h0_word h0_told h0_now h0_read h0_kept h0_snaps h0_aside h0_name h0_readName h0_keptName h0_isKept h0_onces h0_snapMany h0_lowest h0_highest h0_agreed h0_jurors h0_panelled h0_inSets h0_surely h0_asked h0_frees h0_struck h0_beating h0_text h0_texts h0_seed h0_line h0_written h0_lineMany h0_hasWritten h0_node h0_nodes h0_onesMany h0_within h0_top F_h0_now i_h0_taped i_h0_size i_h0_to i_h0_snapMany i_h0_texts i_h0_lineMany i_h0_hasWritten s_h0_now_0 s_h0_now_1 s_h0_now_2 s_h0_now_3 s_h0_now_4 s_h0_now_5) (cwV 1 hts gX12_verdict_X12_isCase rfl rfl rfl (by decide +kernel) ⟨Nat.le_of_ble_eq_true rfl, Nat.le_of_ble_eq_true rfl⟩) (oPV (C := RX12) hK hP hD [0, 1] rfl (by decide) 0 rfl (ci := 11) rfl rfl) rfl rfl hl.1 rfl (lv_room (Nat.le_of_ble_eq_true rfl)) dX12_verdict_7 ⟨Nat.le_of_ble_eq_true rfl, Nat.le_of_ble_eq_true rfl⟩) hP hD hS hA [0, 1] [] rfl rfl (by decide) (by decide) (fun r_30 u H locs w_31 hP hD hS => ?_)
  obtain ⟨⟩ := u
  have hP : va_P D vwCl [(h0, .inr (11, [.int 0, .ref h0_tape, .int h0_taped, .int h0_size, .int h0_limit, .int h0_to, .int h0_from, .int h0_kind, .int h0_number, .int h0_sign, .int h0_fault, .int h0_place, .long h0_word, .int h0_told, .ref h0_now, .ref h0_read, .ref h0_kept, .ref h0_snaps, .ref h0_aside, .ref h0_name, .ref h0_readName, .ref h0_keptName, .ref h0_isKept, .ref h0_onces, .int h0_snapMany, .int h0_lowest, .int h0_highest, .int h0_agreed, .int h0_jurors, .int h0_panelled, .ref h0_inSets, .int h0_surely, .int h0_asked, .ref h0_frees, .int h0_struck, .int h0_beating, .ref h0_text, .int h0_texts, .int h0_seed, .ref h0_line, .ref h0_written, .int h0_lineMany, .int h0_hasWritten, .ref h0_node, .int h0_nodes, .int h0_onesMany, .int h0_within, .int h0_top])), (aI ca h0_now 376 F_h0_now)] H := hP
  have hD : va_D A [(h0, .inr (11, [.int 0, .ref h0_tape, .int h0_taped, .int h0_size, .int h0_limit, .int h0_to, .int h0_from, .int h0_kind, .int h0_number, .int h0_sign, .int h0_fault, .int h0_place, .long h0_word, .int h0_told, .ref h0_now, .ref h0_read, .ref h0_kept, .ref h0_snaps, .ref h0_aside, .ref h0_name, .ref h0_readName, .ref h0_keptName, .ref h0_isKept, .ref h0_onces, .int h0_snapMany, .int h0_lowest, .int h0_highest, .int h0_agreed, .int h0_jurors, .int h0_panelled, .ref h0_inSets, .int h0_surely, .int h0_asked, .ref h0_frees, .int h0_struck, .int h0_beating, .ref h0_text, .int h0_texts, .int h0_seed, .ref h0_line, .ref h0_written, .int h0_lineMany, .int h0_hasWritten, .ref h0_node, .int h0_nodes, .int h0_onesMany, .int h0_within, .int h0_top])), (aI ca h0_now 376 F_h0_now)] := hD
  try dsimp only at w_31
  rcases w_31 with h_32 | ⟨h_33, h_34⟩
  · skip
    subst h_32
    refine lv_if_eq (tgt := 20) hx hb dX12_verdict_10 (by decide) (fun _ => ?_) (fun c => absurd (by decide) c)
    refine lv_iconst (v := (-1)) hx hb dX12_verdict_20 (by decide) ?_
    exact oE_i hx hb hr rfl hlocks hP hD hS (h0_lowest, h0_highest) [0, 1] rfl (by decide) (⟨by decide, by decide⟩ : rg (-1) 1 ((-1) : Int32)) (Nat.le_of_ble_eq_true rfl) (Nat.le_of_ble_eq_true rfl) dX12_verdict_21
  · skip
    subst h_33
    refine lv_if_eq (tgt := 20) hx hb dX12_verdict_10 (by decide) (fun c => absurd c (by decide)) (fun _ => ?_)
    refine lv_aload_n hx hb dX12_verdict_13 rfl (lv_at hl 0 rfl) ?_
    refine oC_i (Wc := [(h0, .inr (11, [.int 0, .ref h0_tape, .int h0_taped, .int h0_size, .int h0_limit, .int h0_to, .int h0_from, .int h0_kind, .int h0_number, .int h0_sign, .int h0_fault, .int h0_place, .long h0_word, .int h0_told, .ref h0_now, .ref h0_read, .ref h0_kept, .ref h0_snaps, .ref h0_aside, .ref h0_name, .ref h0_readName, .ref h0_keptName, .ref h0_isKept, .ref h0_onces, .int h0_snapMany, .int h0_lowest, .int h0_highest, .int h0_agreed, .int h0_jurors, .int h0_panelled, .ref h0_inSets, .int h0_surely, .int h0_asked, .ref h0_frees, .int h0_struck, .int h0_beating, .ref h0_text, .int h0_texts, .int h0_seed, .ref h0_line, .ref h0_written, .int h0_lineMany, .int h0_hasWritten, .ref h0_node, .int h0_nodes, .int h0_onesMany, .int h0_within, .int h0_top])), (aI ca h0_now 376 F_h0_now)]) (Wr := []) (va_runV (As := []) (rest := []) ⟨hx, hb, hml, hown, hts⟩ (s_X12_droppers l D ca H.size h0 0 h0_tape h0_taped h0_size h0_limit h0_to h0_from h0_kind h0_number h0_sign h0_fault h0_place h0_word h0_told h0_now h0_read h0_kept h0_snaps h0_aside h0_name h0_readName h0_keptName h0_isKept h0_onces h0_snapMany h0_lowest h0_highest h0_agreed h0_jurors h0_panelled h0_inSets h0_surely h0_asked h0_frees h0_struck h0_beating h0_text h0_texts h0_seed h0_line h0_written h0_lineMany h0_hasWritten h0_node h0_nodes h0_onesMany h0_within h0_top F_h0_now i_h0_taped i_h0_size i_h0_to i_h0_snapMany i_h0_texts i_h0_lineMany i_h0_hasWritten s_h0_now_0 s_h0_now_1 s_h0_now_2 s_h0_now_3 s_h0_now_4 s_h0_now_5) (cwV 0 hts gX12_verdict_X12_droppers rfl rfl rfl (by decide +kernel) ⟨Nat.le_of_ble_eq_true rfl, Nat.le_of_ble_eq_true rfl⟩) (oPV (C := RX12) hK hP hD [0, 1] rfl (by decide) 0 rfl (ci := 11) rfl rfl) rfl rfl hl.1 rfl (lv_room (Nat.le_of_ble_eq_true rfl)) dX12_verdict_14 ⟨Nat.le_of_ble_eq_true rfl, Nat.le_of_ble_eq_true rfl⟩) hP hD hS hA [0, 1] [] rfl rfl (by decide) (by decide) (fun r_35 u H locs w_36 hP hD hS => ?_)
    obtain ⟨⟩ := u
    have hP : va_P D vwCl [(h0, .inr (11, [.int 0, .ref h0_tape, .int h0_taped, .int h0_size, .int h0_limit, .int h0_to, .int h0_from, .int h0_kind, .int h0_number, .int h0_sign, .int h0_fault, .int h0_place, .long h0_word, .int h0_told, .ref h0_now, .ref h0_read, .ref h0_kept, .ref h0_snaps, .ref h0_aside, .ref h0_name, .ref h0_readName, .ref h0_keptName, .ref h0_isKept, .ref h0_onces, .int h0_snapMany, .int h0_lowest, .int h0_highest, .int h0_agreed, .int h0_jurors, .int h0_panelled, .ref h0_inSets, .int h0_surely, .int h0_asked, .ref h0_frees, .int h0_struck, .int h0_beating, .ref h0_text, .int h0_texts, .int h0_seed, .ref h0_line, .ref h0_written, .int h0_lineMany, .int h0_hasWritten, .ref h0_node, .int h0_nodes, .int h0_onesMany, .int h0_within, .int h0_top])), (aI ca h0_now 376 F_h0_now)] H := hP
    have hD : va_D A [(h0, .inr (11, [.int 0, .ref h0_tape, .int h0_taped, .int h0_size, .int h0_limit, .int h0_to, .int h0_from, .int h0_kind, .int h0_number, .int h0_sign, .int h0_fault, .int h0_place, .long h0_word, .int h0_told, .ref h0_now, .ref h0_read, .ref h0_kept, .ref h0_snaps, .ref h0_aside, .ref h0_name, .ref h0_readName, .ref h0_keptName, .ref h0_isKept, .ref h0_onces, .int h0_snapMany, .int h0_lowest, .int h0_highest, .int h0_agreed, .int h0_jurors, .int h0_panelled, .ref h0_inSets, .int h0_surely, .int h0_asked, .ref h0_frees, .int h0_struck, .int h0_beating, .ref h0_text, .int h0_texts, .int h0_seed, .ref h0_line, .ref h0_written, .int h0_lineMany, .int h0_hasWritten, .ref h0_node, .int h0_nodes, .int h0_onesMany, .int h0_within, .int h0_top])), (aI ca h0_now 376 F_h0_now)] := hD
    try dsimp only at w_36
    have h_37 := w_36
    refine lv_if_ne (tgt := 22) hx hb dX12_verdict_17 (by decide) (fun c_38 => ?_) (fun c_38 => ?_)
    · skip
      have h_39 : rg 1 1023 r_35 := cl_nlo c_38 h_37 (show (0 : Int32).toInt = 0 by decide) (by decide) (by decide)
      refine lv_aload_n hx hb dX12_verdict_22 rfl (lv_at hl 0 rfl) ?_
      refine lv_aload_n hx hb dX12_verdict_23 rfl (lv_at hl 0 rfl) ?_
      refine oC_i (Wc := [(h0, .inr (11, [.int 0, .ref h0_tape, .int h0_taped, .int h0_size, .int h0_limit, .int h0_to, .int h0_from, .int h0_kind, .int h0_number, .int h0_sign, .int h0_fault, .int h0_place, .long h0_word, .int h0_told, .ref h0_now, .ref h0_read, .ref h0_kept, .ref h0_snaps, .ref h0_aside, .ref h0_name, .ref h0_readName, .ref h0_keptName, .ref h0_isKept, .ref h0_onces, .int h0_snapMany, .int h0_lowest, .int h0_highest, .int h0_agreed, .int h0_jurors, .int h0_panelled, .ref h0_inSets, .int h0_surely, .int h0_asked, .ref h0_frees, .int h0_struck, .int h0_beating, .ref h0_text, .int h0_texts, .int h0_seed, .ref h0_line, .ref h0_written, .int h0_lineMany, .int h0_hasWritten, .ref h0_node, .int h0_nodes, .int h0_onesMany, .int h0_within, .int h0_top])), (aI ca h0_now 376 F_h0_now)]) (Wr := []) (va_runV (As := []) (rest := [.ref h0]) ⟨hx, hb, hml, hown, hts⟩ (s_X12_droppers l D ca H.size h0 0 h0_tape h0_taped h0_size h0_limit h0_to h0_from h0_kind h0_number h0_sign h0_fault h0_place h0_word h0_told h0_now h0_read h0_kept h0_snaps h0_aside h0_name h0_readName h0_keptName h0_isKept h0_onces h0_snapMany h0_lowest h0_highest h0_agreed h0_jurors h0_panelled h0_inSets h0_surely h0_asked h0_frees h0_struck h0_beating h0_text h0_texts h0_seed h0_line h0_written h0_lineMany h0_hasWritten h0_node h0_nodes h0_onesMany h0_within h0_top F_h0_now i_h0_taped i_h0_size i_h0_to i_h0_snapMany i_h0_texts i_h0_lineMany i_h0_hasWritten s_h0_now_0 s_h0_now_1 s_h0_now_2 s_h0_now_3 s_h0_now_4 s_h0_now_5) (cwV 0 hts gX12_verdict_X12_droppers rfl rfl rfl (by decide +kernel) ⟨Nat.le_of_ble_eq_true rfl, Nat.le_of_ble_eq_true rfl⟩) (oPV (C := RX12) hK hP hD [0, 1] rfl (by decide) 0 rfl (ci := 11) rfl rfl) rfl rfl hl.1 rfl (lv_room (Nat.le_of_ble_eq_true rfl)) dX12_verdict_24 ⟨Nat.le_of_ble_eq_true rfl, Nat.le_of_ble_eq_true rfl⟩) hP hD hS hA [0, 1] [] rfl rfl (by decide) (by decide) (fun r_40 u H locs w_41 hP hD hS => ?_)
      obtain ⟨⟩ := u
      have hP : va_P D vwCl [(h0, .inr (11, [.int 0, .ref h0_tape, .int h0_taped, .int h0_size, .int h0_limit, .int h0_to, .int h0_from, .int h0_kind, .int h0_number, .int h0_sign, .int h0_fault, .int h0_place, .long h0_word, .int h0_told, .ref h0_now, .ref h0_read, .ref h0_kept, .ref h0_snaps, .ref h0_aside, .ref h0_name, .ref h0_readName, .ref h0_keptName, .ref h0_isKept, .ref h0_onces, .int h0_snapMany, .int h0_lowest, .int h0_highest, .int h0_agreed, .int h0_jurors, .int h0_panelled, .ref h0_inSets, .int h0_surely, .int h0_asked, .ref h0_frees, .int h0_struck, .int h0_beating, .ref h0_text, .int h0_texts, .int h0_seed, .ref h0_line, .ref h0_written, .int h0_lineMany, .int h0_hasWritten, .ref h0_node, .int h0_nodes, .int h0_onesMany, .int h0_within, .int h0_top])), (aI ca h0_now 376 F_h0_now)] H := hP
      have hD : va_D A [(h0, .inr (11, [.int 0, .ref h0_tape, .int h0_taped, .int h0_size, .int h0_limit, .int h0_to, .int h0_from, .int h0_kind, .int h0_number, .int h0_sign, .int h0_fault, .int h0_place, .long h0_word, .int h0_told, .ref h0_now, .ref h0_read, .ref h0_kept, .ref h0_snaps, .ref h0_aside, .ref h0_name, .ref h0_readName, .ref h0_keptName, .ref h0_isKept, .ref h0_onces, .int h0_snapMany, .int h0_lowest, .int h0_highest, .int h0_agreed, .int h0_jurors, .int h0_panelled, .ref h0_inSets, .int h0_surely, .int h0_asked, .ref h0_frees, .int h0_struck, .int h0_beating, .ref h0_text, .int h0_texts, .int h0_seed, .ref h0_line, .ref h0_written, .int h0_lineMany, .int h0_hasWritten, .ref h0_node, .int h0_nodes, .int h0_onesMany, .int h0_within, .int h0_top])), (aI ca h0_now 376 F_h0_now)] := hD
      try dsimp only at w_41
      have h_42 := w_41
      refine lv_aload_n hx hb dX12_verdict_27 rfl (lv_at hl 0 rfl) ?_
      refine lv_iload_n hx hb dX12_verdict_28 rfl (lv_at hl 1 rfl) ?_
      refine oC_i (Wc := [(h0, .inr (11, [.int 0, .ref h0_tape, .int h0_taped, .int h0_size, .int h0_limit, .int h0_to, .int h0_from, .int h0_kind, .int h0_number, .int h0_sign, .int h0_fault, .int h0_place, .long h0_word, .int h0_told, .ref h0_now, .ref h0_read, .ref h0_kept, .ref h0_snaps, .ref h0_aside, .ref h0_name, .ref h0_readName, .ref h0_keptName, .ref h0_isKept, .ref h0_onces, .int h0_snapMany, .int h0_lowest, .int h0_highest, .int h0_agreed, .int h0_jurors, .int h0_panelled, .ref h0_inSets, .int h0_surely, .int h0_asked, .ref h0_frees, .int h0_struck, .int h0_beating, .ref h0_text, .int h0_texts, .int h0_seed, .ref h0_line, .ref h0_written, .int h0_lineMany, .int h0_hasWritten, .ref h0_node, .int h0_nodes, .int h0_onesMany, .int h0_within, .int h0_top])), (aI ca h0_now 376 F_h0_now)]) (Wr := []) (va_runV (As := [.int a1]) (rest := [.int r_40, .ref h0]) ⟨hx, hb, hml, hown, hts⟩ (s_X12_floorOf l D ca H.size h0 a1 0 h0_tape h0_taped h0_size h0_limit h0_to h0_from h0_kind h0_number h0_sign h0_fault h0_place h0_word h0_told h0_now h0_read h0_kept h0_snaps h0_aside h0_name h0_readName h0_keptName h0_isKept h0_onces h0_snapMany h0_lowest h0_highest h0_agreed h0_jurors h0_panelled h0_inSets h0_surely h0_asked h0_frees h0_struck h0_beating h0_text h0_texts h0_seed h0_line h0_written h0_lineMany h0_hasWritten h0_node h0_nodes h0_onesMany h0_within h0_top F_h0_now h_34 i_h0_taped i_h0_size i_h0_to i_h0_snapMany i_h0_texts i_h0_lineMany i_h0_hasWritten s_h0_now_0 s_h0_now_1 s_h0_now_2 s_h0_now_3 s_h0_now_4 s_h0_now_5) (cwV 1 hts gX12_verdict_X12_floorOf rfl rfl rfl (by decide +kernel) ⟨Nat.le_of_ble_eq_true rfl, Nat.le_of_ble_eq_true rfl⟩) (oPV (C := RX12) hK hP hD [0, 1] rfl (by decide) 0 rfl (ci := 11) rfl rfl) rfl rfl hl.1 rfl (lv_room (Nat.le_of_ble_eq_true rfl)) dX12_verdict_29 ⟨Nat.le_of_ble_eq_true rfl, Nat.le_of_ble_eq_true rfl⟩) hP hD hS hA [0, 1] [] rfl rfl (by decide) (by decide) (fun r_43 u H locs w_44 hP hD hS => ?_)
      obtain ⟨⟩ := u
      have hP : va_P D vwCl [(h0, .inr (11, [.int 0, .ref h0_tape, .int h0_taped, .int h0_size, .int h0_limit, .int h0_to, .int h0_from, .int h0_kind, .int h0_number, .int h0_sign, .int h0_fault, .int h0_place, .long h0_word, .int h0_told, .ref h0_now, .ref h0_read, .ref h0_kept, .ref h0_snaps, .ref h0_aside, .ref h0_name, .ref h0_readName, .ref h0_keptName, .ref h0_isKept, .ref h0_onces, .int h0_snapMany, .int h0_lowest, .int h0_highest, .int h0_agreed, .int h0_jurors, .int h0_panelled, .ref h0_inSets, .int h0_surely, .int h0_asked, .ref h0_frees, .int h0_struck, .int h0_beating, .ref h0_text, .int h0_texts, .int h0_seed, .ref h0_line, .ref h0_written, .int h0_lineMany, .int h0_hasWritten, .ref h0_node, .int h0_nodes, .int h0_onesMany, .int h0_within, .int h0_top])), (aI ca h0_now 376 F_h0_now)] H := hP
      have hD : va_D A [(h0, .inr (11, [.int 0, .ref h0_tape, .int h0_taped, .int h0_size, .int h0_limit, .int h0_to, .int h0_from, .int h0_kind, .int h0_number, .int h0_sign, .int h0_fault, .int h0_place, .long h0_word, .int h0_told, .ref h0_now, .ref h0_read, .ref h0_kept, .ref h0_snaps, .ref h0_aside, .ref h0_name, .ref h0_readName, .ref h0_keptName, .ref h0_isKept, .ref h0_onces, .int h0_snapMany, .int h0_lowest, .int h0_highest, .int h0_agreed, .int h0_jurors, .int h0_panelled, .ref h0_inSets, .int h0_surely, .int h0_asked, .ref h0_frees, .int h0_struck, .int h0_beating, .ref h0_text, .int h0_texts, .int h0_seed, .ref h0_line, .ref h0_written, .int h0_lineMany, .int h0_hasWritten, .ref h0_node, .int h0_nodes, .int h0_onesMany, .int h0_within, .int h0_top])), (aI ca h0_now 376 F_h0_now)] := hD
      try dsimp only at w_44
      have h_45 := w_44
      refine oC_i (Wc := [(h0, .inr (11, [.int 0, .ref h0_tape, .int h0_taped, .int h0_size, .int h0_limit, .int h0_to, .int h0_from, .int h0_kind, .int h0_number, .int h0_sign, .int h0_fault, .int h0_place, .long h0_word, .int h0_told, .ref h0_now, .ref h0_read, .ref h0_kept, .ref h0_snaps, .ref h0_aside, .ref h0_name, .ref h0_readName, .ref h0_keptName, .ref h0_isKept, .ref h0_onces, .int h0_snapMany, .int h0_lowest, .int h0_highest, .int h0_agreed, .int h0_jurors, .int h0_panelled, .ref h0_inSets, .int h0_surely, .int h0_asked, .ref h0_frees, .int h0_struck, .int h0_beating, .ref h0_text, .int h0_texts, .int h0_seed, .ref h0_line, .ref h0_written, .int h0_lineMany, .int h0_hasWritten, .ref h0_node, .int h0_nodes, .int h0_onesMany, .int h0_within, .int h0_top])), (aI ca h0_now 376 F_h0_now)]) (Wr := []) (va_runV (As := [.int r_40, .int r_43]) (rest := []) ⟨hx, hb, hml, hown, hts⟩ (s_X12_isOneRing_ l D ca H.size h0 r_40 r_43 0 h0_tape h0_taped h0_size h0_limit h0_to h0_from h0_kind h0_number h0_sign h0_fault h0_place h0_word h0_told h0_now h0_read h0_kept h0_snaps h0_aside h0_name h0_readName h0_keptName h0_isKept h0_onces h0_snapMany h0_lowest h0_highest h0_agreed h0_jurors h0_panelled h0_inSets h0_surely h0_asked h0_frees h0_struck h0_beating h0_text h0_texts h0_seed h0_line h0_written h0_lineMany h0_hasWritten h0_node h0_nodes h0_onesMany h0_within h0_top F_h0_now h_45 i_h0_taped i_h0_size i_h0_to i_h0_snapMany i_h0_texts i_h0_lineMany i_h0_hasWritten s_h0_now_0 s_h0_now_1 s_h0_now_2 s_h0_now_3 s_h0_now_4 s_h0_now_5) (cwV 2 hts gX12_verdict_X12_isOneRing_ rfl rfl rfl (by decide +kernel) ⟨Nat.le_of_ble_eq_true rfl, Nat.le_of_ble_eq_true rfl⟩) (oPV (C := RX12) hK hP hD [0, 1] rfl (by decide) 0 rfl (ci := 11) rfl rfl) rfl rfl hl.1 rfl (lv_room (Nat.le_of_ble_eq_true rfl)) dX12_verdict_32 ⟨Nat.le_of_ble_eq_true rfl, Nat.le_of_ble_eq_true rfl⟩) hP hD hS hA [0, 1] [] rfl rfl (by decide) (by decide) (fun r_46 u H locs w_47 hP hD hS => ?_)
      obtain ⟨u_48, u_49⟩ := u
      have hP : va_P D vwCl [(h0, .inr (11, [.int 0, .ref h0_tape, .int h0_taped, .int h0_size, .int h0_limit, .int h0_to, .int h0_from, .int h0_kind, .int h0_number, .int h0_sign, .int h0_fault, .int h0_place, .long h0_word, .int h0_told, .ref h0_now, .ref h0_read, .ref h0_kept, .ref h0_snaps, .ref h0_aside, .ref h0_name, .ref h0_readName, .ref h0_keptName, .ref h0_isKept, .ref h0_onces, .int h0_snapMany, .int u_48, .int u_49, .int h0_agreed, .int h0_jurors, .int h0_panelled, .ref h0_inSets, .int h0_surely, .int h0_asked, .ref h0_frees, .int h0_struck, .int h0_beating, .ref h0_text, .int h0_texts, .int h0_seed, .ref h0_line, .ref h0_written, .int h0_lineMany, .int h0_hasWritten, .ref h0_node, .int h0_nodes, .int h0_onesMany, .int h0_within, .int h0_top])), (aI ca h0_now 376 F_h0_now)] H := hP
      have hD : va_D A [(h0, .inr (11, [.int 0, .ref h0_tape, .int h0_taped, .int h0_size, .int h0_limit, .int h0_to, .int h0_from, .int h0_kind, .int h0_number, .int h0_sign, .int h0_fault, .int h0_place, .long h0_word, .int h0_told, .ref h0_now, .ref h0_read, .ref h0_kept, .ref h0_snaps, .ref h0_aside, .ref h0_name, .ref h0_readName, .ref h0_keptName, .ref h0_isKept, .ref h0_onces, .int h0_snapMany, .int u_48, .int u_49, .int h0_agreed, .int h0_jurors, .int h0_panelled, .ref h0_inSets, .int h0_surely, .int h0_asked, .ref h0_frees, .int h0_struck, .int h0_beating, .ref h0_text, .int h0_texts, .int h0_seed, .ref h0_line, .ref h0_written, .int h0_lineMany, .int h0_hasWritten, .ref h0_node, .int h0_nodes, .int h0_onesMany, .int h0_within, .int h0_top])), (aI ca h0_now 376 F_h0_now)] := hD
      try dsimp only at w_47
      rcases w_47 with ⟨h_50, h_51, h_52⟩ | ⟨h_53, h_54, h_55⟩
      · skip
        subst h_50
        refine lv_if_eq (tgt := 42) hx hb dX12_verdict_35 (by decide) (fun _ => ?_) (fun c => absurd (by decide) c)
        refine lv_iconst (v := 0) hx hb dX12_verdict_42 (by decide) ?_
        exact oE_i hx hb hr rfl hlocks hP hD hS (u_48, u_49) [0, 1] rfl (by decide) (⟨by decide, by decide⟩ : rg (-1) 1 (0 : Int32)) (Nat.le_of_ble_eq_true rfl) (Nat.le_of_ble_eq_true rfl) dX12_verdict_43
      · skip
        subst h_53
        refine lv_if_eq (tgt := 42) hx hb dX12_verdict_35 (by decide) (fun c => absurd c (by decide)) (fun _ => ?_)
        refine lv_iconst (v := 1) hx hb dX12_verdict_38 (by decide) ?_
        refine lv_goto (tgt := 43) hx hb dX12_verdict_39 (by decide) ?_
        exact oE_i hx hb hr rfl hlocks hP hD hS (u_48, u_49) [0, 1] rfl (by decide) (⟨by decide, by decide⟩ : rg (-1) 1 (1 : Int32)) (Nat.le_of_ble_eq_true rfl) (Nat.le_of_ble_eq_true rfl) dX12_verdict_43
    · skip
      have o_56 : rl 0 r_35 0 := rl_eq c_38
      have h_57 : rg 0 0 r_35 := rl_x o_56 h_37 (⟨by decide, by decide⟩ : rg 0 0 (0 : Int32)) (by decide) (by decide)
      have o_58 : rl 0 0 r_35 := rl_eq c_38.symm
      refine lv_iconst (v := (-1)) hx hb dX12_verdict_20 (by decide) ?_
      exact oE_i hx hb hr rfl hlocks hP hD hS (h0_lowest, h0_highest) [0, 1] rfl (by decide) (⟨by decide, by decide⟩ : rg (-1) 1 ((-1) : Int32)) (Nat.le_of_ble_eq_true rfl) (Nat.le_of_ble_eq_true rfl) dX12_verdict_21
theorem dX12_spread_0 : decode cX12_spread 0 = .ok (.aload_n 0, 1) := by decide +kernel
theorem dX12_spread_1 : decode cX12_spread 1 = .ok (.iconst 0, 1) := by decide +kernel
theorem dX12_spread_2 : decode cX12_spread 2 = .ok (.putfield 1, 3) := by decide +kernel
theorem dX12_spread_5 : decode cX12_spread 5 = .ok (.aload_n 0, 1) := by decide +kernel
theorem dX12_spread_6 : decode cX12_spread 6 = .ok (.iload_n 1, 1) := by decide +kernel
theorem dX12_spread_7 : decode cX12_spread 7 = .ok (.invokevirtual 255, 3) := by decide +kernel
theorem dX12_spread_10 : decode cX12_spread 10 = .ok (.ifCond .eq 20, 3) := by decide +kernel
theorem dX12_spread_13 : decode cX12_spread 13 = .ok (.aload_n 0, 1) := by decide +kernel
theorem dX12_spread_14 : decode cX12_spread 14 = .ok (.aload_n 0, 1) := by decide +kernel
theorem dX12_spread_15 : decode cX12_spread 15 = .ok (.invokevirtual 274, 3) := by decide +kernel
theorem dX12_spread_18 : decode cX12_spread 18 = .ok (.aload_n 0, 1) := by decide +kernel
theorem dX12_spread_19 : decode cX12_spread 19 = .ok (.iload_n 1, 1) := by decide +kernel
theorem dX12_spread_20 : decode cX12_spread 20 = .ok (.invokevirtual 258, 3) := by decide +kernel
theorem dX12_spread_23 : decode cX12_spread 23 = .ok (.iconst 0, 1) := by decide +kernel
theorem dX12_spread_24 : decode cX12_spread 24 = .ok (.invokevirtual 243, 3) := by decide +kernel
theorem dX12_spread_27 : decode cX12_spread 27 = .ok (.ifCond .ne 5, 3) := by decide +kernel
theorem dX12_spread_30 : decode cX12_spread 30 = .ok (.iconst (-1), 1) := by decide +kernel
theorem dX12_spread_31 : decode cX12_spread 31 = .ok (.ireturn, 1) := by decide +kernel
theorem dX12_spread_32 : decode cX12_spread 32 = .ok (.aload_n 0, 1) := by decide +kernel
theorem dX12_spread_33 : decode cX12_spread 33 = .ok (.getfield 237, 3) := by decide +kernel
theorem dX12_spread_36 : decode cX12_spread 36 = .ok (.aload_n 0, 1) := by decide +kernel
theorem dX12_spread_37 : decode cX12_spread 37 = .ok (.getfield 234, 3) := by decide +kernel
theorem dX12_spread_40 : decode cX12_spread 40 = .ok (.isub, 1) := by decide +kernel
theorem dX12_spread_41 : decode cX12_spread 41 = .ok (.ireturn, 1) := by decide +kernel
set_option maxRecDepth 20000 in
theorem ggX12_spread_X12_isCase : GoodIn wsX12_spread wsX12_isCase := goodIn_r _ [8, 9, 10, 11, 7, 12, 32, 33, 34, 35, 36, 37, 38, 39, 40, 41, 42, 43, 44, 45, 46, 47, 48, 49, 50, 51, 52, 53, 54, 55, 56, 57, 58, 59, 60, 61, 62, 63, 64, 65, 66, 67, 68, 69, 70, 71, 72, 73, 74, 75, 76, 77, 78, 79] rfl (by decide +kernel)
set_option maxRecDepth 20000 in
theorem gX12_spread_X12_isCase : GoodIn wsX12_spread (wsV RX12 255 RX12 yX12_isCase wsX12_isCase) := goodIn_app (goodIn_of _ (by decide +kernel)) ggX12_spread_X12_isCase
set_option maxRecDepth 20000 in
theorem ggX12_spread_X12_droppers : GoodIn wsX12_spread wsX12_droppers := goodIn_r _ [16, 9, 32, 33, 34, 35, 36, 37, 38, 39, 40, 41, 42, 43, 44, 45, 46, 47, 48, 49, 50, 51, 52, 53, 54, 55, 56, 57, 58, 59, 60, 61, 62, 63, 64, 65, 66, 67, 68, 69, 70, 71, 72, 73, 74, 75, 76, 77, 78, 79] rfl (by decide +kernel)
set_option maxRecDepth 20000 in
theorem gX12_spread_X12_droppers : GoodIn wsX12_spread (wsV RX12 274 RX12 yX12_droppers wsX12_droppers) := goodIn_app (goodIn_of _ (by decide +kernel)) ggX12_spread_X12_droppers
set_option maxRecDepth 20000 in
theorem ggX12_spread_X12_floorOf : GoodIn wsX12_spread wsX12_floorOf := goodIn_r _ [20, 9, 32, 33, 34, 35, 36, 37, 38, 39, 40, 41, 42, 43, 44, 45, 46, 47, 48, 49, 50, 51, 52, 53, 54, 55, 56, 57, 58, 59, 60, 61, 62, 63, 64, 65, 66, 67, 68, 69, 70, 71, 72, 73, 74, 75, 76, 77, 78, 79] rfl (by decide +kernel)
set_option maxRecDepth 20000 in
theorem gX12_spread_X12_floorOf : GoodIn wsX12_spread (wsV RX12 258 RX12 yX12_floorOf wsX12_floorOf) := goodIn_app (goodIn_of _ (by decide +kernel)) ggX12_spread_X12_floorOf
set_option maxRecDepth 20000 in
theorem ggX12_spread_X12_layRings : GoodIn wsX12_spread wsX12_layRings := goodIn_r _ [24, 3, 2, 9, 25, 26, 7, 27, 28, 29, 30, 31, 32, 33, 34, 35, 36, 37, 38, 39, 40, 41, 42, 43, 44, 45, 46, 47, 48, 49, 50, 51, 52, 53, 54, 55, 56, 57, 58, 59, 60, 61, 62, 63, 64, 65, 66, 67, 68, 69, 70, 71, 72, 73, 74, 75, 76, 77, 78, 79] rfl (by decide +kernel)
set_option maxRecDepth 20000 in
theorem gX12_spread_X12_layRings : GoodIn wsX12_spread (wsV RX12 243 RX12 yX12_layRings wsX12_layRings) := goodIn_app (goodIn_of _ (by decide +kernel)) ggX12_spread_X12_layRings
set_option maxHeartbeats 4000000 in
set_option maxRecDepth 100000 in
theorem s_X12_spread (l : Launch) (D : va_G) (ca : Nat → ClassId) (sz : Nat) (h0 : Nat) (a1 : Int32) (h0_thrown : Int32) (h0_tape : Nat) (h0_taped : Int32) (h0_size : Int32) (h0_limit : Int32) (h0_to : Int32) (h0_from : Int32) (h0_kind : Int32) (h0_number : Int32) (h0_sign : Int32) (h0_fault : Int32) (h0_place : Int32) (h0_word : Int64) (h0_told : Int32) (h0_now : Nat) (h0_read : Nat) (h0_kept : Nat) (h0_snaps : Nat) (h0_aside : Nat) (h0_name : Nat) (h0_readName : Nat) (h0_keptName : Nat) (h0_isKept : Nat) (h0_onces : Nat) (h0_snapMany : Int32) (h0_lowest : Int32) (h0_highest : Int32) (h0_agreed : Int32) (h0_jurors : Int32) (h0_panelled : Int32) (h0_inSets : Nat) (h0_surely : Int32) (h0_asked : Int32) (h0_frees : Nat) (h0_struck : Int32) (h0_beating : Int32) (h0_text : Nat) (h0_texts : Int32) (h0_seed : Int32) (h0_line : Nat) (h0_written : Nat) (h0_lineMany : Int32) (h0_hasWritten : Int32) (h0_node : Nat) (h0_nodes : Int32) (h0_onesMany : Int32) (h0_within : Int32) (h0_top : Int32) (F_h0_now : Nat → Int32) (i_h0_taped : rg 0 940 h0_taped) (i_h0_size : rg 0 940 h0_size) (i_h0_to : rg 0 940 h0_to) (i_h0_snapMany : rg 0 8 h0_snapMany) (i_h0_texts : rg 0 64 h0_texts) (i_h0_lineMany : rg 0 40 h0_lineMany) (i_h0_hasWritten : rg 0 1 h0_hasWritten) (s_h0_now_0 : sg 0 1 0 10 F_h0_now) (s_h0_now_1 : sg 1 2 0 4 F_h0_now) (s_h0_now_2 : sg 2 3 0 5 F_h0_now) (s_h0_now_3 : sg 35 36 0 1023 F_h0_now) (s_h0_now_4 : sg 44 49 0 3 F_h0_now) (s_h0_now_5 : sg 90 91 0 1023 F_h0_now) : oMet l yX12_spread wsX12_spread ({ frames := 2, cells := 0, slots := 0, locals := 50 } : Room) [.ref h0, .int a1] D ca sz [(h0, .inr (11, [.int h0_thrown, .ref h0_tape, .int h0_taped, .int h0_size, .int h0_limit, .int h0_to, .int h0_from, .int h0_kind, .int h0_number, .int h0_sign, .int h0_fault, .int h0_place, .long h0_word, .int h0_told, .ref h0_now, .ref h0_read, .ref h0_kept, .ref h0_snaps, .ref h0_aside, .ref h0_name, .ref h0_readName, .ref h0_keptName, .ref h0_isKept, .ref h0_onces, .int h0_snapMany, .int h0_lowest, .int h0_highest, .int h0_agreed, .int h0_jurors, .int h0_panelled, .ref h0_inSets, .int h0_surely, .int h0_asked, .ref h0_frees, .int h0_struck, .int h0_beating, .ref h0_text, .int h0_texts, .int h0_seed, .ref h0_line, .ref h0_written, .int h0_lineMany, .int h0_hasWritten, .ref h0_node, .int h0_nodes, .int h0_onesMany, .int h0_within, .int h0_top])), (aI ca h0_now 376 F_h0_now)] (oQi D (fun (r : Int32) (u : Int32 × Int32) => (rg (-1001) 2147483647 r)) (fun (u : Int32 × Int32) => [(h0, .inr (11, [.int 0, .ref h0_tape, .int h0_taped, .int h0_size, .int h0_limit, .int h0_to, .int h0_from, .int h0_kind, .int h0_number, .int h0_sign, .int h0_fault, .int h0_place, .long h0_word, .int h0_told, .ref h0_now, .ref h0_read, .ref h0_kept, .ref h0_snaps, .ref h0_aside, .ref h0_name, .ref h0_readName, .ref h0_keptName, .ref h0_isKept, .ref h0_onces, .int h0_snapMany, .int u.1, .int u.2, .int h0_agreed, .int h0_jurors, .int h0_panelled, .ref h0_inSets, .int h0_surely, .int h0_asked, .ref h0_frees, .int h0_struck, .int h0_beating, .ref h0_text, .int h0_texts, .int h0_seed, .ref h0_line, .ref h0_written, .int h0_lineMany, .int h0_hasWritten, .ref h0_node, .int h0_nodes, .int h0_onesMany, .int h0_within, .int h0_top])), (aI ca h0_now 376 F_h0_now)])) 0 0 := by
  refine oM (cc := cX12_spread) (maxL := 2) (ret := (some .int)) (by decide) rfl (Nat.le_of_ble_eq_true rfl) [(0, .ref h0), (1, .int a1)] rfl ?_
  intro p e s m below meth c A H locs ls hx hb hr hml hts hown hlocks hin hK hP hD hA hS hl
  have hown : s.vm.findClass RX12 = some m.cls := hown
  have k1 := hts (.fieldLink RX12 1 "LidCourtModel" "thrown" "I") (by decide +kernel)
  have k2 : ∀ w ∈ wsX120, w ∈ wsX12_spread := fun _ h => List.mem_cons_of_mem _ (List.mem_append_right _ h)
  have k3 := hts (.fieldLink RX12 237 "LidCourtModel" "highest" "I") (by decide +kernel)
  have k4 := hts (.fieldLink RX12 234 "LidCourtModel" "lowest" "I") (by decide +kernel)
  refine lv_aload_n hx hb dX12_spread_0 rfl (lv_at hl 0 rfl) ?_
  refine lv_iconst (v := 0) hx hb dX12_spread_1 (by decide) ?_
  refine va_put (D := D) (ci := 11) (v := .int 0) (ty := .int) (C := RX12) (T := TX12) (N := 48) hx hb hts k2 tyX12 tyX12_ok nmX12 hown hK.1 hP hD hS 0 rfl rfl 0 (by decide) k1 (fun _ h9 => h9) rfl (by decide +kernel) rfl rfl (Nat.le_of_ble_eq_true rfl) dX12_spread_2 (fun H locs hP hD hS => ?_)
  have hP : va_P D vwCl [(h0, .inr (11, [.int 0, .ref h0_tape, .int h0_taped, .int h0_size, .int h0_limit, .int h0_to, .int h0_from, .int h0_kind, .int h0_number, .int h0_sign, .int h0_fault, .int h0_place, .long h0_word, .int h0_told, .ref h0_now, .ref h0_read, .ref h0_kept, .ref h0_snaps, .ref h0_aside, .ref h0_name, .ref h0_readName, .ref h0_keptName, .ref h0_isKept, .ref h0_onces, .int h0_snapMany, .int h0_lowest, .int h0_highest, .int h0_agreed, .int h0_jurors, .int h0_panelled, .ref h0_inSets, .int h0_surely, .int h0_asked, .ref h0_frees, .int h0_struck, .int h0_beating, .ref h0_text, .int h0_texts, .int h0_seed, .ref h0_line, .ref h0_written, .int h0_lineMany, .int h0_hasWritten, .ref h0_node, .int h0_nodes, .int h0_onesMany, .int h0_within, .int h0_top])), (aI ca h0_now 376 F_h0_now)] H := hP
  have hD : va_D A [(h0, .inr (11, [.int 0, .ref h0_tape, .int h0_taped, .int h0_size, .int h0_limit, .int h0_to, .int h0_from, .int h0_kind, .int h0_number, .int h0_sign, .int h0_fault, .int h0_place, .long h0_word, .int h0_told, .ref h0_now, .ref h0_read, .ref h0_kept, .ref h0_snaps, .ref h0_aside, .ref h0_name, .ref h0_readName, .ref h0_keptName, .ref h0_isKept, .ref h0_onces, .int h0_snapMany, .int h0_lowest, .int h0_highest, .int h0_agreed, .int h0_jurors, .int h0_panelled, .ref h0_inSets, .int h0_surely, .int h0_asked, .ref h0_frees, .int h0_struck, .int h0_beating, .ref h0_text, .int h0_texts, .int h0_seed, .ref h0_line, .ref h0_written, .int h0_lineMany, .int h0_hasWritten, .ref h0_node, .int h0_nodes, .int h0_onesMany, .int h0_within, .int h0_top])), (aI ca h0_now 376 F_h0_now)] := hD
  refine lv_aload_n hx hb dX12_spread_5 rfl (lv_at hl 0 rfl) ?_
  refine lv_iload_n hx hb dX12_spread_6 rfl (lv_at hl 1 rfl) ?_
  refine oC_i (Wc := [(h0, .inr (11, [.int 0, .ref h0_tape, .int h0_taped, .int h0_size, .int h0_limit, .int h0_to, .int h0_from, .int h0_kind, .int h0_number, .int h0_sign, .int h0_fault, .int h0_place, .long h0_word, .int h0_told, .ref h0_now, .ref h0_read, .ref h0_kept, .ref h0_snaps, .ref h0_aside, .ref h0_name, .ref h0_readName, .ref h0_keptName, .ref h0_isKept, .ref h0_onces, .int h0_snapMany, .int h0_lowest, .int h0_highest, .int h0_agreed, .int h0_jurors, .int h0_panelled, .ref h0_inSets, .int h0_surely, .int h0_asked, .ref h0_frees, .int h0_struck, .int h0_beating, .ref h0_text, .int h0_texts, .int h0_seed, .ref h0_line, .ref h0_written, .int h0_lineMany, .int h0_hasWritten, .ref h0_node, .int h0_nodes, .int h0_onesMany, .int h0_within, .int h0_top])), (aI ca h0_now 376 F_h0_now)]) (Wr := []) (va_runV (As := [.int a1]) (rest := []) ⟨hx, hb, hml, hown, hts⟩ (s_X12_isCase l D ca H.size h0 a1 0 h0_tape h0_taped h0_size h0_limit h0_to h0_from h0_kind h0_number h0_sign h0_fault h0_place h0_word h0_told h0_now h0_read h0_kept h0_snaps h0_aside h0_name h0_readName h0_keptName h0_isKept h0_onces h0_snapMany h0_lowest h0_highest h0_agreed h0_jurors h0_panelled h0_inSets h0_surely h0_asked h0_frees h0_struck h0_beating h0_text h0_texts h0_seed h0_line h0_written h0_lineMany h0_hasWritten h0_node h0_nodes h0_onesMany h0_within h0_top F_h0_now i_h0_taped i_h0_size i_h0_to i_h0_snapMany i_h0_texts i_h0_lineMany i_h0_hasWritten s_h0_now_0 s_h0_now_1 s_h0_now_2 s_h0_now_3 s_h0_now_4 s_h0_now_5) (cwV 1 hts gX12_spread_X12_isCase rfl rfl rfl (by decide +kernel) ⟨Nat.le_of_ble_eq_true rfl, Nat.le_of_ble_eq_true rfl⟩) (oPV (C := RX12) hK hP hD [0, 1] rfl (by decide) 0 rfl (ci := 11) rfl rfl) rfl rfl hl.1 rfl (lv_room (Nat.le_of_ble_eq_true rfl)) dX12_spread_7 ⟨Nat.le_of_ble_eq_true rfl, Nat.le_of_ble_eq_true rfl⟩) hP hD hS hA [0, 1] [] rfl rfl (by decide) (by decide) (fun r_26 u H locs w_27 hP hD hS => ?_)
  obtain ⟨⟩ := u
  have hP : va_P D vwCl [(h0, .inr (11, [.int 0, .ref h0_tape, .int h0_taped, .int h0_size, .int h0_limit, .int h0_to, .int h0_from, .int h0_kind, .int h0_number, .int h0_sign, .int h0_fault, .int h0_place, .long h0_word, .int h0_told, .ref h0_now, .ref h0_read, .ref h0_kept, .ref h0_snaps, .ref h0_aside, .ref h0_name, .ref h0_readName, .ref h0_keptName, .ref h0_isKept, .ref h0_onces, .int h0_snapMany, .int h0_lowest, .int h0_highest, .int h0_agreed, .int h0_jurors, .int h0_panelled, .ref h0_inSets, .int h0_surely, .int h0_asked, .ref h0_frees, .int h0_struck, .int h0_beating, .ref h0_text, .int h0_texts, .int h0_seed, .ref h0_line, .ref h0_written, .int h0_lineMany, .int h0_hasWritten, .ref h0_node, .int h0_nodes, .int h0_onesMany, .int h0_within, .int h0_top])), (aI ca h0_now 376 F_h0_now)] H := hP
  have hD : va_D A [(h0, .inr (11, [.int 0, .ref h0_tape, .int h0_taped, .int h0_size, .int h0_limit, .int h0_to, .int h0_from, .int h0_kind, .int h0_number, .int h0_sign, .int h0_fault, .int h0_place, .long h0_word, .int h0_told, .ref h0_now, .ref h0_read, .ref h0_kept, .ref h0_snaps, .ref h0_aside, .ref h0_name, .ref h0_readName, .ref h0_keptName, .ref h0_isKept, .ref h0_onces, .int h0_snapMany, .int h0_lowest, .int h0_highest, .int h0_agreed, .int h0_jurors, .int h0_panelled, .ref h0_inSets, .int h0_surely, .int h0_asked, .ref h0_frees, .int h0_struck, .int h0_beating, .ref h0_text, .int h0_texts, .int h0_seed, .ref h0_line, .ref h0_written, .int h0_lineMany, .int h0_hasWritten, .ref h0_node, .int h0_nodes, .int h0_onesMany, .int h0_within, .int h0_top])), (aI ca h0_now 376 F_h0_now)] := hD
  try dsimp only at w_27
  rcases w_27 with h_28 | ⟨h_29, h_30⟩
  · skip
    subst h_28
    refine lv_if_eq (tgt := 30) hx hb dX12_spread_10 (by decide) (fun _ => ?_) (fun c => absurd (by decide) c)
    refine lv_iconst (v := (-1)) hx hb dX12_spread_30 (by decide) ?_
    exact oE_i hx hb hr rfl hlocks hP hD hS (h0_lowest, h0_highest) [0, 1] rfl (by decide) (⟨by decide, by decide⟩ : rg (-1001) 2147483647 ((-1) : Int32)) (Nat.le_of_ble_eq_true rfl) (Nat.le_of_ble_eq_true rfl) dX12_spread_31
  · skip
    subst h_29
    refine lv_if_eq (tgt := 30) hx hb dX12_spread_10 (by decide) (fun c => absurd c (by decide)) (fun _ => ?_)
    refine lv_aload_n hx hb dX12_spread_13 rfl (lv_at hl 0 rfl) ?_
    refine lv_aload_n hx hb dX12_spread_14 rfl (lv_at hl 0 rfl) ?_
    refine oC_i (Wc := [(h0, .inr (11, [.int 0, .ref h0_tape, .int h0_taped, .int h0_size, .int h0_limit, .int h0_to, .int h0_from, .int h0_kind, .int h0_number, .int h0_sign, .int h0_fault, .int h0_place, .long h0_word, .int h0_told, .ref h0_now, .ref h0_read, .ref h0_kept, .ref h0_snaps, .ref h0_aside, .ref h0_name, .ref h0_readName, .ref h0_keptName, .ref h0_isKept, .ref h0_onces, .int h0_snapMany, .int h0_lowest, .int h0_highest, .int h0_agreed, .int h0_jurors, .int h0_panelled, .ref h0_inSets, .int h0_surely, .int h0_asked, .ref h0_frees, .int h0_struck, .int h0_beating, .ref h0_text, .int h0_texts, .int h0_seed, .ref h0_line, .ref h0_written, .int h0_lineMany, .int h0_hasWritten, .ref h0_node, .int h0_nodes, .int h0_onesMany, .int h0_within, .int h0_top])), (aI ca h0_now 376 F_h0_now)]) (Wr := []) (va_runV (As := []) (rest := [.ref h0]) ⟨hx, hb, hml, hown, hts⟩ (s_X12_droppers l D ca H.size h0 0 h0_tape h0_taped h0_size h0_limit h0_to h0_from h0_kind h0_number h0_sign h0_fault h0_place h0_word h0_told h0_now h0_read h0_kept h0_snaps h0_aside h0_name h0_readName h0_keptName h0_isKept h0_onces h0_snapMany h0_lowest h0_highest h0_agreed h0_jurors h0_panelled h0_inSets h0_surely h0_asked h0_frees h0_struck h0_beating h0_text h0_texts h0_seed h0_line h0_written h0_lineMany h0_hasWritten h0_node h0_nodes h0_onesMany h0_within h0_top F_h0_now i_h0_taped i_h0_size i_h0_to i_h0_snapMany i_h0_texts i_h0_lineMany i_h0_hasWritten s_h0_now_0 s_h0_now_1 s_h0_now_2 s_h0_now_3 s_h0_now_4 s_h0_now_5) (cwV 0 hts gX12_spread_X12_droppers rfl rfl rfl (by decide +kernel) ⟨Nat.le_of_ble_eq_true rfl, Nat.le_of_ble_eq_true rfl⟩) (oPV (C := RX12) hK hP hD [0, 1] rfl (by decide) 0 rfl (ci := 11) rfl rfl) rfl rfl hl.1 rfl (lv_room (Nat.le_of_ble_eq_true rfl)) dX12_spread_15 ⟨Nat.le_of_ble_eq_true rfl, Nat.le_of_ble_eq_true rfl⟩) hP hD hS hA [0, 1] [] rfl rfl (by decide) (by decide) (fun r_31 u H locs w_32 hP hD hS => ?_)
    obtain ⟨⟩ := u
    have hP : va_P D vwCl [(h0, .inr (11, [.int 0, .ref h0_tape, .int h0_taped, .int h0_size, .int h0_limit, .int h0_to, .int h0_from, .int h0_kind, .int h0_number, .int h0_sign, .int h0_fault, .int h0_place, .long h0_word, .int h0_told, .ref h0_now, .ref h0_read, .ref h0_kept, .ref h0_snaps, .ref h0_aside, .ref h0_name, .ref h0_readName, .ref h0_keptName, .ref h0_isKept, .ref h0_onces, .int h0_snapMany, .int h0_lowest, .int h0_highest, .int h0_agreed, .int h0_jurors, .int h0_panelled, .ref h0_inSets, .int h0_surely, .int h0_asked, .ref h0_frees, .int h0_struck, .int h0_beating, .ref h0_text, .int h0_texts, .int h0_seed, .ref h0_line, .ref h0_written, .int h0_lineMany, .int h0_hasWritten, .ref h0_node, .int h0_nodes, .int h0_onesMany, .int h0_within, .int h0_top])), (aI ca h0_now 376 F_h0_now)] H := hP
    have hD : va_D A [(h0, .inr (11, [.int 0, .ref h0_tape, .int h0_taped, .int h0_size, .int h0_limit, .int h0_to, .int h0_from, .int h0_kind, .int h0_number, .int h0_sign, .int h0_fault, .int h0_place, .long h0_word, .int h0_told, .ref h0_now, .ref h0_read, .ref h0_kept, .ref h0_snaps, .ref h0_aside, .ref h0_name, .ref h0_readName, .ref h0_keptName, .ref h0_isKept, .ref h0_onces, .int h0_snapMany, .int h0_lowest, .int h0_highest, .int h0_agreed, .int h0_jurors, .int h0_panelled, .ref h0_inSets, .int h0_surely, .int h0_asked, .ref h0_frees, .int h0_struck, .int h0_beating, .ref h0_text, .int h0_texts, .int h0_seed, .ref h0_line, .ref h0_written, .int h0_lineMany, .int h0_hasWritten, .ref h0_node, .int h0_nodes, .int h0_onesMany, .int h0_within, .int h0_top])), (aI ca h0_now 376 F_h0_now)] := hD
    try dsimp only at w_32
    have h_33 := w_32
    refine lv_aload_n hx hb dX12_spread_18 rfl (lv_at hl 0 rfl) ?_
    refine lv_iload_n hx hb dX12_spread_19 rfl (lv_at hl 1 rfl) ?_
    refine oC_i (Wc := [(h0, .inr (11, [.int 0, .ref h0_tape, .int h0_taped, .int h0_size, .int h0_limit, .int h0_to, .int h0_from, .int h0_kind, .int h0_number, .int h0_sign, .int h0_fault, .int h0_place, .long h0_word, .int h0_told, .ref h0_now, .ref h0_read, .ref h0_kept, .ref h0_snaps, .ref h0_aside, .ref h0_name, .ref h0_readName, .ref h0_keptName, .ref h0_isKept, .ref h0_onces, .int h0_snapMany, .int h0_lowest, .int h0_highest, .int h0_agreed, .int h0_jurors, .int h0_panelled, .ref h0_inSets, .int h0_surely, .int h0_asked, .ref h0_frees, .int h0_struck, .int h0_beating, .ref h0_text, .int h0_texts, .int h0_seed, .ref h0_line, .ref h0_written, .int h0_lineMany, .int h0_hasWritten, .ref h0_node, .int h0_nodes, .int h0_onesMany, .int h0_within, .int h0_top])), (aI ca h0_now 376 F_h0_now)]) (Wr := []) (va_runV (As := [.int a1]) (rest := [.int r_31, .ref h0]) ⟨hx, hb, hml, hown, hts⟩ (s_X12_floorOf l D ca H.size h0 a1 0 h0_tape h0_taped h0_size h0_limit h0_to h0_from h0_kind h0_number h0_sign h0_fault h0_place h0_word h0_told h0_now h0_read h0_kept h0_snaps h0_aside h0_name h0_readName h0_keptName h0_isKept h0_onces h0_snapMany h0_lowest h0_highest h0_agreed h0_jurors h0_panelled h0_inSets h0_surely h0_asked h0_frees h0_struck h0_beating h0_text h0_texts h0_seed h0_line h0_written h0_lineMany h0_hasWritten h0_node h0_nodes h0_onesMany h0_within h0_top F_h0_now h_30 i_h0_taped i_h0_size i_h0_to i_h0_snapMany i_h0_texts i_h0_lineMany i_h0_hasWritten s_h0_now_0 s_h0_now_1 s_h0_now_2 s_h0_now_3 s_h0_now_4 s_h0_now_5) (cwV 1 hts gX12_spread_X12_floorOf rfl rfl rfl (by decide +kernel) ⟨Nat.le_of_ble_eq_true rfl, Nat.le_of_ble_eq_true rfl⟩) (oPV (C := RX12) hK hP hD [0, 1] rfl (by decide) 0 rfl (ci := 11) rfl rfl) rfl rfl hl.1 rfl (lv_room (Nat.le_of_ble_eq_true rfl)) dX12_spread_20 ⟨Nat.le_of_ble_eq_true rfl, Nat.le_of_ble_eq_true rfl⟩) hP hD hS hA [0, 1] [] rfl rfl (by decide) (by decide) (fun r_34 u H locs w_35 hP hD hS => ?_)
    obtain ⟨⟩ := u
    have hP : va_P D vwCl [(h0, .inr (11, [.int 0, .ref h0_tape, .int h0_taped, .int h0_size, .int h0_limit, .int h0_to, .int h0_from, .int h0_kind, .int h0_number, .int h0_sign, .int h0_fault, .int h0_place, .long h0_word, .int h0_told, .ref h0_now, .ref h0_read, .ref h0_kept, .ref h0_snaps, .ref h0_aside, .ref h0_name, .ref h0_readName, .ref h0_keptName, .ref h0_isKept, .ref h0_onces, .int h0_snapMany, .int h0_lowest, .int h0_highest, .int h0_agreed, .int h0_jurors, .int h0_panelled, .ref h0_inSets, .int h0_surely, .int h0_asked, .ref h0_frees, .int h0_struck, .int h0_beating, .ref h0_text, .int h0_texts, .int h0_seed, .ref h0_line, .ref h0_written, .int h0_lineMany, .int h0_hasWritten, .ref h0_node, .int h0_nodes, .int h0_onesMany, .int h0_within, .int h0_top])), (aI ca h0_now 376 F_h0_now)] H := hP
    have hD : va_D A [(h0, .inr (11, [.int 0, .ref h0_tape, .int h0_taped, .int h0_size, .int h0_limit, .int h0_to, .int h0_from, .int h0_kind, .int h0_number, .int h0_sign, .int h0_fault, .int h0_place, .long h0_word, .int h0_told, .ref h0_now, .ref h0_read, .ref h0_kept, .ref h0_snaps, .ref h0_aside, .ref h0_name, .ref h0_readName, .ref h0_keptName, .ref h0_isKept, .ref h0_onces, .int h0_snapMany, .int h0_lowest, .int h0_highest, .int h0_agreed, .int h0_jurors, .int h0_panelled, .ref h0_inSets, .int h0_surely, .int h0_asked, .ref h0_frees, .int h0_struck, .int h0_beating, .ref h0_text, .int h0_texts, .int h0_seed, .ref h0_line, .ref h0_written, .int h0_lineMany, .int h0_hasWritten, .ref h0_node, .int h0_nodes, .int h0_onesMany, .int h0_within, .int h0_top])), (aI ca h0_now 376 F_h0_now)] := hD
    try dsimp only at w_35
    have h_36 := w_35
    refine lv_iconst (v := 0) hx hb dX12_spread_23 (by decide) ?_
    refine oC_i (Wc := [(h0, .inr (11, [.int 0, .ref h0_tape, .int h0_taped, .int h0_size, .int h0_limit, .int h0_to, .int h0_from, .int h0_kind, .int h0_number, .int h0_sign, .int h0_fault, .int h0_place, .long h0_word, .int h0_told, .ref h0_now, .ref h0_read, .ref h0_kept, .ref h0_snaps, .ref h0_aside, .ref h0_name, .ref h0_readName, .ref h0_keptName, .ref h0_isKept, .ref h0_onces, .int h0_snapMany, .int h0_lowest, .int h0_highest, .int h0_agreed, .int h0_jurors, .int h0_panelled, .ref h0_inSets, .int h0_surely, .int h0_asked, .ref h0_frees, .int h0_struck, .int h0_beating, .ref h0_text, .int h0_texts, .int h0_seed, .ref h0_line, .ref h0_written, .int h0_lineMany, .int h0_hasWritten, .ref h0_node, .int h0_nodes, .int h0_onesMany, .int h0_within, .int h0_top])), (aI ca h0_now 376 F_h0_now)]) (Wr := []) (va_runV (As := [.int r_31, .int r_34, .int 0]) (rest := []) ⟨hx, hb, hml, hown, hts⟩ (s_X12_layRings l D ca H.size h0 r_31 r_34 0 0 h0_tape h0_taped h0_size h0_limit h0_to h0_from h0_kind h0_number h0_sign h0_fault h0_place h0_word h0_told h0_now h0_read h0_kept h0_snaps h0_aside h0_name h0_readName h0_keptName h0_isKept h0_onces h0_snapMany h0_lowest h0_highest h0_agreed h0_jurors h0_panelled h0_inSets h0_surely h0_asked h0_frees h0_struck h0_beating h0_text h0_texts h0_seed h0_line h0_written h0_lineMany h0_hasWritten h0_node h0_nodes h0_onesMany h0_within h0_top F_h0_now h_36 i_h0_taped i_h0_size i_h0_to i_h0_snapMany i_h0_texts i_h0_lineMany i_h0_hasWritten s_h0_now_0 s_h0_now_1 s_h0_now_2 s_h0_now_3 s_h0_now_4 s_h0_now_5) (cwV 3 hts gX12_spread_X12_layRings rfl rfl rfl (by decide +kernel) ⟨Nat.le_of_ble_eq_true rfl, Nat.le_of_ble_eq_true rfl⟩) (oPV (C := RX12) hK hP hD [0, 1] rfl (by decide) 0 rfl (ci := 11) rfl rfl) rfl rfl hl.1 rfl (lv_room (Nat.le_of_ble_eq_true rfl)) dX12_spread_24 ⟨Nat.le_of_ble_eq_true rfl, Nat.le_of_ble_eq_true rfl⟩) hP hD hS hA [0, 1] [] rfl rfl (by decide) (by decide) (fun r_37 u H locs w_38 hP hD hS => ?_)
    obtain ⟨u_39, u_40⟩ := u
    have hP : va_P D vwCl [(h0, .inr (11, [.int 0, .ref h0_tape, .int h0_taped, .int h0_size, .int h0_limit, .int h0_to, .int h0_from, .int h0_kind, .int h0_number, .int h0_sign, .int h0_fault, .int h0_place, .long h0_word, .int h0_told, .ref h0_now, .ref h0_read, .ref h0_kept, .ref h0_snaps, .ref h0_aside, .ref h0_name, .ref h0_readName, .ref h0_keptName, .ref h0_isKept, .ref h0_onces, .int h0_snapMany, .int u_39, .int u_40, .int h0_agreed, .int h0_jurors, .int h0_panelled, .ref h0_inSets, .int h0_surely, .int h0_asked, .ref h0_frees, .int h0_struck, .int h0_beating, .ref h0_text, .int h0_texts, .int h0_seed, .ref h0_line, .ref h0_written, .int h0_lineMany, .int h0_hasWritten, .ref h0_node, .int h0_nodes, .int h0_onesMany, .int h0_within, .int h0_top])), (aI ca h0_now 376 F_h0_now)] H := hP
    have hD : va_D A [(h0, .inr (11, [.int 0, .ref h0_tape, .int h0_taped, .int h0_size, .int h0_limit, .int h0_to, .int h0_from, .int h0_kind, .int h0_number, .int h0_sign, .int h0_fault, .int h0_place, .long h0_word, .int h0_told, .ref h0_now, .ref h0_read, .ref h0_kept, .ref h0_snaps, .ref h0_aside, .ref h0_name, .ref h0_readName, .ref h0_keptName, .ref h0_isKept, .ref h0_onces, .int h0_snapMany, .int u_39, .int u_40, .int h0_agreed, .int h0_jurors, .int h0_panelled, .ref h0_inSets, .int h0_surely, .int h0_asked, .ref h0_frees, .int h0_struck, .int h0_beating, .ref h0_text, .int h0_texts, .int h0_seed, .ref h0_line, .ref h0_written, .int h0_lineMany, .int h0_hasWritten, .ref h0_node, .int h0_nodes, .int h0_onesMany, .int h0_within, .int h0_top])), (aI ca h0_now 376 F_h0_now)] := hD
    try dsimp only at w_38
    rcases w_38 with ⟨h_41, h_42, h_43, h_44⟩ | ⟨h_45, h_46, h_47⟩
    · skip
      subst h_41
      refine lv_if_ne (tgt := 32) hx hb dX12_spread_27 (by decide) (fun c => absurd (by decide) c) (fun _ => ?_)
      refine lv_iconst (v := (-1)) hx hb dX12_spread_30 (by decide) ?_
      exact oE_i hx hb hr rfl hlocks hP hD hS (u_39, u_40) [0, 1] rfl (by decide) (⟨by decide, by decide⟩ : rg (-1001) 2147483647 ((-1) : Int32)) (Nat.le_of_ble_eq_true rfl) (Nat.le_of_ble_eq_true rfl) dX12_spread_31
    · skip
      subst h_45
      refine lv_if_ne (tgt := 32) hx hb dX12_spread_27 (by decide) (fun _ => ?_) (fun c => absurd c (by decide))
      refine lv_aload_n hx hb dX12_spread_32 rfl (lv_at hl 0 rfl) ?_
      refine va_get (D := D) (ci := 11) (v := .int u_40) (C := RX12) (T := TX12) (N := 48) hx hb hts k2 hown hK.1 hP 0 rfl rfl 26 (by decide) k3 (fun _ h9 => h9) rfl dX12_spread_33 ?_
      refine lv_aload_n hx hb dX12_spread_36 rfl (lv_at hl 0 rfl) ?_
      refine va_get (D := D) (ci := 11) (v := .int u_39) (C := RX12) (T := TX12) (N := 48) hx hb hts k2 hown hK.1 hP 0 rfl rfl 25 (by decide) k4 (fun _ h9 => h9) rfl dX12_spread_37 ?_
      refine lv_isub hx hb dX12_spread_40 ?_
      refine lv_topi (fun x_48 ex_48 => ?_)
      have h_49 : rg (-1001) 2147483647 x_48 := by rw [ex_48]; exact rg_sub h_47 h_46 (by decide) (by decide) (by decide) (by decide)
      have l_50 : lq x_48.toInt ((-1) * u_39.toInt + u_40.toInt) := lqm (by rw [ex_48]; have q := tsub h_47 h_46 (by decide) (by decide); omega)
      exact oE_i hx hb hr rfl hlocks hP hD hS (u_39, u_40) [0, 1] rfl (by decide) h_49 (Nat.le_of_ble_eq_true rfl) (Nat.le_of_ble_eq_true rfl) dX12_spread_41
theorem dX12_longest_0 : decode cX12_longest 0 = .ok (.aload_n 0, 1) := by decide +kernel
theorem dX12_longest_1 : decode cX12_longest 1 = .ok (.iconst 0, 1) := by decide +kernel
theorem dX12_longest_2 : decode cX12_longest 2 = .ok (.putfield 1, 3) := by decide +kernel
theorem dX12_longest_5 : decode cX12_longest 5 = .ok (.aload_n 0, 1) := by decide +kernel
theorem dX12_longest_6 : decode cX12_longest 6 = .ok (.iload_n 1, 1) := by decide +kernel
theorem dX12_longest_7 : decode cX12_longest 7 = .ok (.invokevirtual 255, 3) := by decide +kernel
theorem dX12_longest_10 : decode cX12_longest 10 = .ok (.ifCond .ne 5, 3) := by decide +kernel
theorem dX12_longest_13 : decode cX12_longest 13 = .ok (.iconst (-1), 1) := by decide +kernel
theorem dX12_longest_14 : decode cX12_longest 14 = .ok (.ireturn, 1) := by decide +kernel
theorem dX12_longest_15 : decode cX12_longest 15 = .ok (.iconst (-1), 1) := by decide +kernel
theorem dX12_longest_16 : decode cX12_longest 16 = .ok (.istore_n 2, 1) := by decide +kernel
theorem dX12_longest_17 : decode cX12_longest 17 = .ok (.iconst 0, 1) := by decide +kernel
theorem dX12_longest_18 : decode cX12_longest 18 = .ok (.istore_n 3, 1) := by decide +kernel
theorem dX12_longest_19 : decode cX12_longest 19 = .ok (.iload_n 3, 1) := by decide +kernel
theorem dX12_longest_20 : decode cX12_longest 20 = .ok (.bipush 10, 2) := by decide +kernel
theorem dX12_longest_22 : decode cX12_longest 22 = .ok (.if_icmp .ge 45, 3) := by decide +kernel
theorem dX12_longest_25 : decode cX12_longest 25 = .ok (.aload_n 0, 1) := by decide +kernel
theorem dX12_longest_26 : decode cX12_longest 26 = .ok (.invokevirtual 274, 3) := by decide +kernel
theorem dX12_longest_29 : decode cX12_longest 29 = .ok (.iload_n 3, 1) := by decide +kernel
theorem dX12_longest_30 : decode cX12_longest 30 = .ok (.invokestatic 240, 3) := by decide +kernel
theorem dX12_longest_33 : decode cX12_longest 33 = .ok (.ifCond .eq 28, 3) := by decide +kernel
theorem dX12_longest_36 : decode cX12_longest 36 = .ok (.aload_n 0, 1) := by decide +kernel
theorem dX12_longest_37 : decode cX12_longest 37 = .ok (.iload_n 3, 1) := by decide +kernel
theorem dX12_longest_38 : decode cX12_longest 38 = .ok (.aload_n 0, 1) := by decide +kernel
theorem dX12_longest_39 : decode cX12_longest 39 = .ok (.iload_n 1, 1) := by decide +kernel
theorem dX12_longest_40 : decode cX12_longest 40 = .ok (.invokevirtual 258, 3) := by decide +kernel
theorem dX12_longest_43 : decode cX12_longest 43 = .ok (.invokevirtual 268, 3) := by decide +kernel
theorem dX12_longest_46 : decode cX12_longest 46 = .ok (.iload_n 2, 1) := by decide +kernel
theorem dX12_longest_47 : decode cX12_longest 47 = .ok (.if_icmp .le 14, 3) := by decide +kernel
theorem dX12_longest_50 : decode cX12_longest 50 = .ok (.aload_n 0, 1) := by decide +kernel
theorem dX12_longest_51 : decode cX12_longest 51 = .ok (.iload_n 3, 1) := by decide +kernel
theorem dX12_longest_52 : decode cX12_longest 52 = .ok (.aload_n 0, 1) := by decide +kernel
theorem dX12_longest_53 : decode cX12_longest 53 = .ok (.iload_n 1, 1) := by decide +kernel
theorem dX12_longest_54 : decode cX12_longest 54 = .ok (.invokevirtual 258, 3) := by decide +kernel
theorem dX12_longest_57 : decode cX12_longest 57 = .ok (.invokevirtual 268, 3) := by decide +kernel
theorem dX12_longest_60 : decode cX12_longest 60 = .ok (.istore_n 2, 1) := by decide +kernel
theorem dX12_longest_61 : decode cX12_longest 61 = .ok (.iinc 3 1, 3) := by decide +kernel
theorem dX12_longest_64 : decode cX12_longest 64 = .ok (.goto (-45), 3) := by decide +kernel
theorem dX12_longest_67 : decode cX12_longest 67 = .ok (.iload_n 2, 1) := by decide +kernel
theorem dX12_longest_68 : decode cX12_longest 68 = .ok (.ireturn, 1) := by decide +kernel
set_option maxRecDepth 20000 in
theorem ggX12_longest_X12_isCase : GoodIn wsX12_longest wsX12_isCase := goodIn_r _ [6, 7, 8, 9, 5, 10, 26, 27, 28, 29, 30, 31, 32, 33, 34, 35, 36, 37, 38, 39, 40, 41, 42, 43, 44, 45, 46, 47, 48, 49, 50, 51, 52, 53, 54, 55, 56, 57, 58, 59, 60, 61, 62, 63, 64, 65, 66, 67, 68, 69, 70, 71, 72, 73] rfl (by decide +kernel)
set_option maxRecDepth 20000 in
theorem gX12_longest_X12_isCase : GoodIn wsX12_longest (wsV RX12 255 RX12 yX12_isCase wsX12_isCase) := goodIn_app (goodIn_of _ (by decide +kernel)) ggX12_longest_X12_isCase
set_option maxRecDepth 20000 in
theorem ggX12_longest_X12_droppers : GoodIn wsX12_longest wsX12_droppers := goodIn_r _ [14, 7, 26, 27, 28, 29, 30, 31, 32, 33, 34, 35, 36, 37, 38, 39, 40, 41, 42, 43, 44, 45, 46, 47, 48, 49, 50, 51, 52, 53, 54, 55, 56, 57, 58, 59, 60, 61, 62, 63, 64, 65, 66, 67, 68, 69, 70, 71, 72, 73] rfl (by decide +kernel)
set_option maxRecDepth 20000 in
theorem gX12_longest_X12_droppers : GoodIn wsX12_longest (wsV RX12 274 RX12 yX12_droppers wsX12_droppers) := goodIn_app (goodIn_of _ (by decide +kernel)) ggX12_longest_X12_droppers
set_option maxRecDepth 20000 in
theorem ggX12_longest_X12_has : GoodIn wsX12_longest wsX12_has := goodIn_r _ [17] rfl (by decide +kernel)
set_option maxRecDepth 20000 in
theorem gX12_longest_X12_has : GoodIn wsX12_longest (va_wsS RX12 240 yX12_has wsX12_has) := goodIn_app (goodIn_of _ (by decide +kernel)) ggX12_longest_X12_has
set_option maxRecDepth 20000 in
theorem ggX12_longest_X12_floorOf : GoodIn wsX12_longest wsX12_floorOf := goodIn_r _ [21, 7, 26, 27, 28, 29, 30, 31, 32, 33, 34, 35, 36, 37, 38, 39, 40, 41, 42, 43, 44, 45, 46, 47, 48, 49, 50, 51, 52, 53, 54, 55, 56, 57, 58, 59, 60, 61, 62, 63, 64, 65, 66, 67, 68, 69, 70, 71, 72, 73] rfl (by decide +kernel)
set_option maxRecDepth 20000 in
theorem gX12_longest_X12_floorOf : GoodIn wsX12_longest (wsV RX12 258 RX12 yX12_floorOf wsX12_floorOf) := goodIn_app (goodIn_of _ (by decide +kernel)) ggX12_longest_X12_floorOf
set_option maxRecDepth 20000 in
theorem ggX12_longest_X12_lastsOf : GoodIn wsX12_longest wsX12_lastsOf := goodIn_r _ [25, 7, 26, 27, 28, 29, 30, 31, 32, 33, 34, 35, 36, 37, 38, 39, 40, 41, 42, 43, 44, 45, 46, 47, 48, 49, 50, 51, 52, 53, 54, 55, 56, 57, 58, 59, 60, 61, 62, 63, 64, 65, 66, 67, 68, 69, 70, 71, 72, 73] rfl (by decide +kernel)
set_option maxRecDepth 20000 in
theorem gX12_longest_X12_lastsOf : GoodIn wsX12_longest (wsV RX12 268 RX12 yX12_lastsOf wsX12_lastsOf) := goodIn_app (goodIn_of _ (by decide +kernel)) ggX12_longest_X12_lastsOf
set_option maxHeartbeats 4000000 in
set_option maxRecDepth 100000 in
theorem s_X12_longest (l : Launch) (D : va_G) (ca : Nat → ClassId) (sz : Nat) (h0 : Nat) (a1 : Int32) (h0_thrown : Int32) (h0_tape : Nat) (h0_taped : Int32) (h0_size : Int32) (h0_limit : Int32) (h0_to : Int32) (h0_from : Int32) (h0_kind : Int32) (h0_number : Int32) (h0_sign : Int32) (h0_fault : Int32) (h0_place : Int32) (h0_word : Int64) (h0_told : Int32) (h0_now : Nat) (h0_read : Nat) (h0_kept : Nat) (h0_snaps : Nat) (h0_aside : Nat) (h0_name : Nat) (h0_readName : Nat) (h0_keptName : Nat) (h0_isKept : Nat) (h0_onces : Nat) (h0_snapMany : Int32) (h0_lowest : Int32) (h0_highest : Int32) (h0_agreed : Int32) (h0_jurors : Int32) (h0_panelled : Int32) (h0_inSets : Nat) (h0_surely : Int32) (h0_asked : Int32) (h0_frees : Nat) (h0_struck : Int32) (h0_beating : Int32) (h0_text : Nat) (h0_texts : Int32) (h0_seed : Int32) (h0_line : Nat) (h0_written : Nat) (h0_lineMany : Int32) (h0_hasWritten : Int32) (h0_node : Nat) (h0_nodes : Int32) (h0_onesMany : Int32) (h0_within : Int32) (h0_top : Int32) (F_h0_now : Nat → Int32) (i_h0_taped : rg 0 940 h0_taped) (i_h0_size : rg 0 940 h0_size) (i_h0_to : rg 0 940 h0_to) (i_h0_snapMany : rg 0 8 h0_snapMany) (i_h0_texts : rg 0 64 h0_texts) (i_h0_lineMany : rg 0 40 h0_lineMany) (i_h0_hasWritten : rg 0 1 h0_hasWritten) (s_h0_now_0 : sg 0 1 0 10 F_h0_now) (s_h0_now_1 : sg 1 2 0 4 F_h0_now) (s_h0_now_2 : sg 2 3 0 5 F_h0_now) (s_h0_now_3 : sg 35 36 0 1023 F_h0_now) (s_h0_now_4 : sg 44 49 0 3 F_h0_now) (s_h0_now_5 : sg 90 91 0 1023 F_h0_now) : oMet l yX12_longest wsX12_longest ({ frames := 2, cells := 0, slots := 0, locals := 43 } : Room) [.ref h0, .int a1] D ca sz [(h0, .inr (11, [.int h0_thrown, .ref h0_tape, .int h0_taped, .int h0_size, .int h0_limit, .int h0_to, .int h0_from, .int h0_kind, .int h0_number, .int h0_sign, .int h0_fault, .int h0_place, .long h0_word, .int h0_told, .ref h0_now, .ref h0_read, .ref h0_kept, .ref h0_snaps, .ref h0_aside, .ref h0_name, .ref h0_readName, .ref h0_keptName, .ref h0_isKept, .ref h0_onces, .int h0_snapMany, .int h0_lowest, .int h0_highest, .int h0_agreed, .int h0_jurors, .int h0_panelled, .ref h0_inSets, .int h0_surely, .int h0_asked, .ref h0_frees, .int h0_struck, .int h0_beating, .ref h0_text, .int h0_texts, .int h0_seed, .ref h0_line, .ref h0_written, .int h0_lineMany, .int h0_hasWritten, .ref h0_node, .int h0_nodes, .int h0_onesMany, .int h0_within, .int h0_top])), (aI ca h0_now 376 F_h0_now)] (oQi D (fun (r : Int32) (u : Unit) => True) (fun (u : Unit) => [(h0, .inr (11, [.int 0, .ref h0_tape, .int h0_taped, .int h0_size, .int h0_limit, .int h0_to, .int h0_from, .int h0_kind, .int h0_number, .int h0_sign, .int h0_fault, .int h0_place, .long h0_word, .int h0_told, .ref h0_now, .ref h0_read, .ref h0_kept, .ref h0_snaps, .ref h0_aside, .ref h0_name, .ref h0_readName, .ref h0_keptName, .ref h0_isKept, .ref h0_onces, .int h0_snapMany, .int h0_lowest, .int h0_highest, .int h0_agreed, .int h0_jurors, .int h0_panelled, .ref h0_inSets, .int h0_surely, .int h0_asked, .ref h0_frees, .int h0_struck, .int h0_beating, .ref h0_text, .int h0_texts, .int h0_seed, .ref h0_line, .ref h0_written, .int h0_lineMany, .int h0_hasWritten, .ref h0_node, .int h0_nodes, .int h0_onesMany, .int h0_within, .int h0_top])), (aI ca h0_now 376 F_h0_now)])) 0 0 := by
  refine oM (cc := cX12_longest) (maxL := 4) (ret := (some .int)) (by decide) rfl (Nat.le_of_ble_eq_true rfl) [(0, .ref h0), (1, .int a1)] rfl ?_
  intro p e s m below meth c A H locs ls hx hb hr hml hts hown hlocks hin hK hP hD hA hS hl
  have hown : s.vm.findClass RX12 = some m.cls := hown
  have k1 := hts (.fieldLink RX12 1 "LidCourtModel" "thrown" "I") (by decide +kernel)
  have k2 : ∀ w ∈ wsX120, w ∈ wsX12_longest := fun _ h => List.mem_cons_of_mem _ (List.mem_append_right _ h)
  have J19_158 : ∀ (n : Nat) (y19_0 : Int32) (y19_1 : Int32), True → rg 0 10 y19_1 → rg 0 4 a1 → 10 < y19_1.toInt + (n : Int) → ∀ (H : Heap) (locs : List Loc) (ls : Array Slot), va_P D vwCl [(h0, .inr (11, [.int 0, .ref h0_tape, .int h0_taped, .int h0_size, .int h0_limit, .int h0_to, .int h0_from, .int h0_kind, .int h0_number, .int h0_sign, .int h0_fault, .int h0_place, .long h0_word, .int h0_told, .ref h0_now, .ref h0_read, .ref h0_kept, .ref h0_snaps, .ref h0_aside, .ref h0_name, .ref h0_readName, .ref h0_keptName, .ref h0_isKept, .ref h0_onces, .int h0_snapMany, .int h0_lowest, .int h0_highest, .int h0_agreed, .int h0_jurors, .int h0_panelled, .ref h0_inSets, .int h0_surely, .int h0_asked, .ref h0_frees, .int h0_struck, .int h0_beating, .ref h0_text, .int h0_texts, .int h0_seed, .ref h0_line, .ref h0_written, .int h0_lineMany, .int h0_hasWritten, .ref h0_node, .int h0_nodes, .int h0_onesMany, .int h0_within, .int h0_top])), (aI ca h0_now 376 F_h0_now)] H → va_D A [(h0, .inr (11, [.int 0, .ref h0_tape, .int h0_taped, .int h0_size, .int h0_limit, .int h0_to, .int h0_from, .int h0_kind, .int h0_number, .int h0_sign, .int h0_fault, .int h0_place, .long h0_word, .int h0_told, .ref h0_now, .ref h0_read, .ref h0_kept, .ref h0_snaps, .ref h0_aside, .ref h0_name, .ref h0_readName, .ref h0_keptName, .ref h0_isKept, .ref h0_onces, .int h0_snapMany, .int h0_lowest, .int h0_highest, .int h0_agreed, .int h0_jurors, .int h0_panelled, .ref h0_inSets, .int h0_surely, .int h0_asked, .ref h0_frees, .int h0_struck, .int h0_beating, .ref h0_text, .int h0_texts, .int h0_seed, .ref h0_line, .ref h0_written, .int h0_lineMany, .int h0_hasWritten, .ref h0_node, .int h0_nodes, .int h0_onesMany, .int h0_within, .int h0_top])), (aI ca h0_now 376 F_h0_now)] → va_S A s.heap H locs → lv_has ls 4 [(0, .ref h0), (1, .int a1), (2, .int y19_0), (3, .int y19_1)] → W p l e ({ frames := 2, cells := 0, slots := 0, locals := 43 } : Room) s m ([.ref h0, .int a1] : List Value).toArray below meth c H locs 0 0 (MQ below ((oQi D (fun (r : Int32) (u : Unit) => True) (fun (u : Unit) => [(h0, .inr (11, [.int 0, .ref h0_tape, .int h0_taped, .int h0_size, .int h0_limit, .int h0_to, .int h0_from, .int h0_kind, .int h0_number, .int h0_sign, .int h0_fault, .int h0_place, .long h0_word, .int h0_told, .ref h0_now, .ref h0_read, .ref h0_kept, .ref h0_snaps, .ref h0_aside, .ref h0_name, .ref h0_readName, .ref h0_keptName, .ref h0_isKept, .ref h0_onces, .int h0_snapMany, .int h0_lowest, .int h0_highest, .int h0_agreed, .int h0_jurors, .int h0_panelled, .ref h0_inSets, .int h0_surely, .int h0_asked, .ref h0_frees, .int h0_struck, .int h0_beating, .ref h0_text, .int h0_texts, .int h0_seed, .ref h0_line, .ref h0_written, .int h0_lineMany, .int h0_hasWritten, .ref h0_node, .int h0_nodes, .int h0_onesMany, .int h0_within, .int h0_top])), (aI ca h0_now 376 F_h0_now)])) A) ([.ref h0, .int a1] : List Value).toArray s 0 0 A) (F0 m 19 ls []) := by
    intro n
    induction n with
    | zero => intro y19_0 y19_1 _ hy19_1 t19_a1 hn; exact absurd hn (by have q9 := hy19_1.2; omega)
    | succ n ih =>
      intro y19_0 y19_1 _ hy19_1 t19_a1 hn H locs ls hP hD hS hl
      have J61_189 : ∀ (y61_0 : Int32), rg 0 9 y19_1 → ∀ (H : Heap) (locs : List Loc) (ls : Array Slot), va_P D vwCl [(h0, .inr (11, [.int 0, .ref h0_tape, .int h0_taped, .int h0_size, .int h0_limit, .int h0_to, .int h0_from, .int h0_kind, .int h0_number, .int h0_sign, .int h0_fault, .int h0_place, .long h0_word, .int h0_told, .ref h0_now, .ref h0_read, .ref h0_kept, .ref h0_snaps, .ref h0_aside, .ref h0_name, .ref h0_readName, .ref h0_keptName, .ref h0_isKept, .ref h0_onces, .int h0_snapMany, .int h0_lowest, .int h0_highest, .int h0_agreed, .int h0_jurors, .int h0_panelled, .ref h0_inSets, .int h0_surely, .int h0_asked, .ref h0_frees, .int h0_struck, .int h0_beating, .ref h0_text, .int h0_texts, .int h0_seed, .ref h0_line, .ref h0_written, .int h0_lineMany, .int h0_hasWritten, .ref h0_node, .int h0_nodes, .int h0_onesMany, .int h0_within, .int h0_top])), (aI ca h0_now 376 F_h0_now)] H → va_D A [(h0, .inr (11, [.int 0, .ref h0_tape, .int h0_taped, .int h0_size, .int h0_limit, .int h0_to, .int h0_from, .int h0_kind, .int h0_number, .int h0_sign, .int h0_fault, .int h0_place, .long h0_word, .int h0_told, .ref h0_now, .ref h0_read, .ref h0_kept, .ref h0_snaps, .ref h0_aside, .ref h0_name, .ref h0_readName, .ref h0_keptName, .ref h0_isKept, .ref h0_onces, .int h0_snapMany, .int h0_lowest, .int h0_highest, .int h0_agreed, .int h0_jurors, .int h0_panelled, .ref h0_inSets, .int h0_surely, .int h0_asked, .ref h0_frees, .int h0_struck, .int h0_beating, .ref h0_text, .int h0_texts, .int h0_seed, .ref h0_line, .ref h0_written, .int h0_lineMany, .int h0_hasWritten, .ref h0_node, .int h0_nodes, .int h0_onesMany, .int h0_within, .int h0_top])), (aI ca h0_now 376 F_h0_now)] → va_S A s.heap H locs → lv_has ls 4 [(0, .ref h0), (1, .int a1), (2, .int y61_0), (3, .int y19_1)] → W p l e ({ frames := 2, cells := 0, slots := 0, locals := 43 } : Room) s m ([.ref h0, .int a1] : List Value).toArray below meth c H locs 0 0 (MQ below ((oQi D (fun (r : Int32) (u : Unit) => True) (fun (u : Unit) => [(h0, .inr (11, [.int 0, .ref h0_tape, .int h0_taped, .int h0_size, .int h0_limit, .int h0_to, .int h0_from, .int h0_kind, .int h0_number, .int h0_sign, .int h0_fault, .int h0_place, .long h0_word, .int h0_told, .ref h0_now, .ref h0_read, .ref h0_kept, .ref h0_snaps, .ref h0_aside, .ref h0_name, .ref h0_readName, .ref h0_keptName, .ref h0_isKept, .ref h0_onces, .int h0_snapMany, .int h0_lowest, .int h0_highest, .int h0_agreed, .int h0_jurors, .int h0_panelled, .ref h0_inSets, .int h0_surely, .int h0_asked, .ref h0_frees, .int h0_struck, .int h0_beating, .ref h0_text, .int h0_texts, .int h0_seed, .ref h0_line, .ref h0_written, .int h0_lineMany, .int h0_hasWritten, .ref h0_node, .int h0_nodes, .int h0_onesMany, .int h0_within, .int h0_top])), (aI ca h0_now 376 F_h0_now)])) A) ([.ref h0, .int a1] : List Value).toArray s 0 0 A) (F0 m 61 ls []) := by
        intro y61_0 t61_y19_1 H locs ls hP hD hS hl
        obtain ⟨x_190, ex_190⟩ : ∃ y : Int32, y = y19_1 + 1 := ⟨_, rfl⟩
        have h_191 : rg 1 10 x_190 := by rw [ex_190]; exact rg_add t61_y19_1 (⟨by decide, by decide⟩ : rg 1 1 (1 : Int32)) (by decide) (by decide) (by decide) (by decide)
        have l_192 : lq x_190.toInt (y19_1.toInt + 1) := lqm (by rw [ex_190]; have q := tadd t61_y19_1 (⟨by decide, by decide⟩ : rg 1 1 (1 : Int32)) (by decide) (by decide); have r1 := lqe (lqm (by decide) : lq (1 : Int32).toInt 1); omega)
        refine lv_iinc (v := x_190) (lv' := [(3, .int x_190), (0, .ref h0), (1, .int a1), (2, .int y61_0)]) hx hb dX12_longest_61 hl (k := 3) rfl (by rw [ex_190]; rfl) (by decide) rfl (fun ls hl => ?_)
        refine lv_goto (tgt := 19) hx hb dX12_longest_64 (by decide) ?_
        exact ih y61_0 x_190 trivial (rgw (lo := 0) (hi := 10) h_191 (by decide) (by decide)) t19_a1 (by have q0 := lqe l_192; omega) H locs ls (oPsub hP [0, 1] rfl) (hD.sub [0, 1] (by decide) rfl) hS (lv_sub hl [1, 2, 3, 0] rfl)
      refine lv_iload_n hx hb dX12_longest_19 rfl (lv_at hl 3 rfl) ?_
      refine lv_bipush (v := 10) hx hb dX12_longest_20 (by decide) ?_
      refine lv_icmp_ge (tgt := 67) hx hb dX12_longest_22 (by decide) (fun c_193 => ?_) (fun c_193 => ?_)
      · skip
        have o_194 : rl 0 10 y19_1 := rl_le c_193
        have h_195 : rg 10 10 y19_1 := rl_y o_194 (⟨by decide, by decide⟩ : rg 10 10 (10 : Int32)) hy19_1 (by decide) (by decide)
        refine lv_iload_n hx hb dX12_longest_67 rfl (lv_at hl 2 rfl) ?_
        exact oE_i hx hb hr rfl hlocks hP hD hS () [0, 1] rfl (by decide) trivial (Nat.le_of_ble_eq_true rfl) (Nat.le_of_ble_eq_true rfl) dX12_longest_68
      · skip
        have o_196 : rl 1 y19_1 10 := rl_nle c_193
        have h_197 : rg 0 9 y19_1 := rl_x o_196 hy19_1 (⟨by decide, by decide⟩ : rg 10 10 (10 : Int32)) (by decide) (by decide)
        refine lv_aload_n hx hb dX12_longest_25 rfl (lv_at hl 0 rfl) ?_
        refine oC_i (Wc := [(h0, .inr (11, [.int 0, .ref h0_tape, .int h0_taped, .int h0_size, .int h0_limit, .int h0_to, .int h0_from, .int h0_kind, .int h0_number, .int h0_sign, .int h0_fault, .int h0_place, .long h0_word, .int h0_told, .ref h0_now, .ref h0_read, .ref h0_kept, .ref h0_snaps, .ref h0_aside, .ref h0_name, .ref h0_readName, .ref h0_keptName, .ref h0_isKept, .ref h0_onces, .int h0_snapMany, .int h0_lowest, .int h0_highest, .int h0_agreed, .int h0_jurors, .int h0_panelled, .ref h0_inSets, .int h0_surely, .int h0_asked, .ref h0_frees, .int h0_struck, .int h0_beating, .ref h0_text, .int h0_texts, .int h0_seed, .ref h0_line, .ref h0_written, .int h0_lineMany, .int h0_hasWritten, .ref h0_node, .int h0_nodes, .int h0_onesMany, .int h0_within, .int h0_top])), (aI ca h0_now 376 F_h0_now)]) (Wr := []) (va_runV (As := []) (rest := []) ⟨hx, hb, hml, hown, hts⟩ (s_X12_droppers l D ca H.size h0 0 h0_tape h0_taped h0_size h0_limit h0_to h0_from h0_kind h0_number h0_sign h0_fault h0_place h0_word h0_told h0_now h0_read h0_kept h0_snaps h0_aside h0_name h0_readName h0_keptName h0_isKept h0_onces h0_snapMany h0_lowest h0_highest h0_agreed h0_jurors h0_panelled h0_inSets h0_surely h0_asked h0_frees h0_struck h0_beating h0_text h0_texts h0_seed h0_line h0_written h0_lineMany h0_hasWritten h0_node h0_nodes h0_onesMany h0_within h0_top F_h0_now i_h0_taped i_h0_size i_h0_to i_h0_snapMany i_h0_texts i_h0_lineMany i_h0_hasWritten (sg_w (a' := 0) (b' := 1) (lo' := 0) (hi' := 10) s_h0_now_0 (by decide) (by decide) (by decide) (by decide)) (sg_w (a' := 1) (b' := 2) (lo' := 0) (hi' := 4) s_h0_now_1 (by decide) (by decide) (by decide) (by decide)) (sg_w (a' := 2) (b' := 3) (lo' := 0) (hi' := 5) s_h0_now_2 (by decide) (by decide) (by decide) (by decide)) (sg_w (a' := 35) (b' := 36) (lo' := 0) (hi' := 1023) s_h0_now_3 (by decide) (by decide) (by decide) (by decide)) (sg_w (a' := 44) (b' := 49) (lo' := 0) (hi' := 3) s_h0_now_4 (by decide) (by decide) (by decide) (by decide)) (sg_w (a' := 90) (b' := 91) (lo' := 0) (hi' := 1023) s_h0_now_5 (by decide) (by decide) (by decide) (by decide))) (cwV 0 hts gX12_longest_X12_droppers rfl rfl rfl (by decide +kernel) ⟨Nat.le_of_ble_eq_true rfl, Nat.le_of_ble_eq_true rfl⟩) (oPV (C := RX12) hK hP hD [0, 1] rfl (by decide) 0 rfl (ci := 11) rfl rfl) rfl rfl hl.1 rfl (lv_room (Nat.le_of_ble_eq_true rfl)) dX12_longest_26 ⟨Nat.le_of_ble_eq_true rfl, Nat.le_of_ble_eq_true rfl⟩) hP hD hS hA [0, 1] [] rfl rfl (by decide) (by decide) (fun r_198 u H locs w_199 hP hD hS => ?_)
        obtain ⟨⟩ := u
        have hP : va_P D vwCl [(h0, .inr (11, [.int 0, .ref h0_tape, .int h0_taped, .int h0_size, .int h0_limit, .int h0_to, .int h0_from, .int h0_kind, .int h0_number, .int h0_sign, .int h0_fault, .int h0_place, .long h0_word, .int h0_told, .ref h0_now, .ref h0_read, .ref h0_kept, .ref h0_snaps, .ref h0_aside, .ref h0_name, .ref h0_readName, .ref h0_keptName, .ref h0_isKept, .ref h0_onces, .int h0_snapMany, .int h0_lowest, .int h0_highest, .int h0_agreed, .int h0_jurors, .int h0_panelled, .ref h0_inSets, .int h0_surely, .int h0_asked, .ref h0_frees, .int h0_struck, .int h0_beating, .ref h0_text, .int h0_texts, .int h0_seed, .ref h0_line, .ref h0_written, .int h0_lineMany, .int h0_hasWritten, .ref h0_node, .int h0_nodes, .int h0_onesMany, .int h0_within, .int h0_top])), (aI ca h0_now 376 F_h0_now)] H := hP
        have hD : va_D A [(h0, .inr (11, [.int 0, .ref h0_tape, .int h0_taped, .int h0_size, .int h0_limit, .int h0_to, .int h0_from, .int h0_kind, .int h0_number, .int h0_sign, .int h0_fault, .int h0_place, .long h0_word, .int h0_told, .ref h0_now, .ref h0_read, .ref h0_kept, .ref h0_snaps, .ref h0_aside, .ref h0_name, .ref h0_readName, .ref h0_keptName, .ref h0_isKept, .ref h0_onces, .int h0_snapMany, .int h0_lowest, .int h0_highest, .int h0_agreed, .int h0_jurors, .int h0_panelled, .ref h0_inSets, .int h0_surely, .int h0_asked, .ref h0_frees, .int h0_struck, .int h0_beating, .ref h0_text, .int h0_texts, .int h0_seed, .ref h0_line, .ref h0_written, .int h0_lineMany, .int h0_hasWritten, .ref h0_node, .int h0_nodes, .int h0_onesMany, .int h0_within, .int h0_top])), (aI ca h0_now 376 F_h0_now)] := hD
        try dsimp only at w_199
        have h_200 := w_199
        refine lv_iload_n hx hb dX12_longest_29 rfl (lv_at hl 3 rfl) ?_
        refine oC_i (Wc := []) (Wr := [(h0, .inr (11, [.int 0, .ref h0_tape, .int h0_taped, .int h0_size, .int h0_limit, .int h0_to, .int h0_from, .int h0_kind, .int h0_number, .int h0_sign, .int h0_fault, .int h0_place, .long h0_word, .int h0_told, .ref h0_now, .ref h0_read, .ref h0_kept, .ref h0_snaps, .ref h0_aside, .ref h0_name, .ref h0_readName, .ref h0_keptName, .ref h0_isKept, .ref h0_onces, .int h0_snapMany, .int h0_lowest, .int h0_highest, .int h0_agreed, .int h0_jurors, .int h0_panelled, .ref h0_inSets, .int h0_surely, .int h0_asked, .ref h0_frees, .int h0_struck, .int h0_beating, .ref h0_text, .int h0_texts, .int h0_seed, .ref h0_line, .ref h0_written, .int h0_lineMany, .int h0_hasWritten, .ref h0_node, .int h0_nodes, .int h0_onesMany, .int h0_within, .int h0_top])), (aI ca h0_now 376 F_h0_now)]) (va_runS (As := [.int r_198, .int y19_1]) (rest := []) ⟨hx, hb, hml, hown, hts⟩ (s_X12_has l D ca H.size r_198 y19_1) (va_cwS 2 hts gX12_longest_X12_has rfl rfl rfl (by decide +kernel) ⟨Nat.le_of_ble_eq_true rfl, Nat.le_of_ble_eq_true rfl⟩) (oPS hK hP hD [] rfl (by decide)) rfl rfl hl.1 rfl (lv_room (Nat.le_of_ble_eq_true rfl)) dX12_longest_30 ⟨Nat.le_of_ble_eq_true rfl, Nat.le_of_ble_eq_true rfl⟩) hP hD hS hA [] [0, 1] rfl rfl (by decide) (by decide) (fun r_201 u H locs w_202 hP hD hS => ?_)
        obtain ⟨⟩ := u
        have hP : va_P D vwCl [(h0, .inr (11, [.int 0, .ref h0_tape, .int h0_taped, .int h0_size, .int h0_limit, .int h0_to, .int h0_from, .int h0_kind, .int h0_number, .int h0_sign, .int h0_fault, .int h0_place, .long h0_word, .int h0_told, .ref h0_now, .ref h0_read, .ref h0_kept, .ref h0_snaps, .ref h0_aside, .ref h0_name, .ref h0_readName, .ref h0_keptName, .ref h0_isKept, .ref h0_onces, .int h0_snapMany, .int h0_lowest, .int h0_highest, .int h0_agreed, .int h0_jurors, .int h0_panelled, .ref h0_inSets, .int h0_surely, .int h0_asked, .ref h0_frees, .int h0_struck, .int h0_beating, .ref h0_text, .int h0_texts, .int h0_seed, .ref h0_line, .ref h0_written, .int h0_lineMany, .int h0_hasWritten, .ref h0_node, .int h0_nodes, .int h0_onesMany, .int h0_within, .int h0_top])), (aI ca h0_now 376 F_h0_now)] H := hP
        have hD : va_D A [(h0, .inr (11, [.int 0, .ref h0_tape, .int h0_taped, .int h0_size, .int h0_limit, .int h0_to, .int h0_from, .int h0_kind, .int h0_number, .int h0_sign, .int h0_fault, .int h0_place, .long h0_word, .int h0_told, .ref h0_now, .ref h0_read, .ref h0_kept, .ref h0_snaps, .ref h0_aside, .ref h0_name, .ref h0_readName, .ref h0_keptName, .ref h0_isKept, .ref h0_onces, .int h0_snapMany, .int h0_lowest, .int h0_highest, .int h0_agreed, .int h0_jurors, .int h0_panelled, .ref h0_inSets, .int h0_surely, .int h0_asked, .ref h0_frees, .int h0_struck, .int h0_beating, .ref h0_text, .int h0_texts, .int h0_seed, .ref h0_line, .ref h0_written, .int h0_lineMany, .int h0_hasWritten, .ref h0_node, .int h0_nodes, .int h0_onesMany, .int h0_within, .int h0_top])), (aI ca h0_now 376 F_h0_now)] := hD
        try dsimp only at w_202
        rcases w_202 with h_203 | h_204
        · skip
          subst h_203
          refine lv_if_eq (tgt := 61) hx hb dX12_longest_33 (by decide) (fun _ => ?_) (fun c => absurd (by decide) c)
          exact J61_189 y19_0 h_197 H locs ls (oPsub hP [0, 1] rfl) (hD.sub [0, 1] (by decide) rfl) hS (lv_sub hl [0, 1, 2, 3] rfl)
        · skip
          subst h_204
          refine lv_if_eq (tgt := 61) hx hb dX12_longest_33 (by decide) (fun c => absurd c (by decide)) (fun _ => ?_)
          refine lv_aload_n hx hb dX12_longest_36 rfl (lv_at hl 0 rfl) ?_
          refine lv_iload_n hx hb dX12_longest_37 rfl (lv_at hl 3 rfl) ?_
          refine lv_aload_n hx hb dX12_longest_38 rfl (lv_at hl 0 rfl) ?_
          refine lv_iload_n hx hb dX12_longest_39 rfl (lv_at hl 1 rfl) ?_
          refine oC_i (Wc := [(h0, .inr (11, [.int 0, .ref h0_tape, .int h0_taped, .int h0_size, .int h0_limit, .int h0_to, .int h0_from, .int h0_kind, .int h0_number, .int h0_sign, .int h0_fault, .int h0_place, .long h0_word, .int h0_told, .ref h0_now, .ref h0_read, .ref h0_kept, .ref h0_snaps, .ref h0_aside, .ref h0_name, .ref h0_readName, .ref h0_keptName, .ref h0_isKept, .ref h0_onces, .int h0_snapMany, .int h0_lowest, .int h0_highest, .int h0_agreed, .int h0_jurors, .int h0_panelled, .ref h0_inSets, .int h0_surely, .int h0_asked, .ref h0_frees, .int h0_struck, .int h0_beating, .ref h0_text, .int h0_texts, .int h0_seed, .ref h0_line, .ref h0_written, .int h0_lineMany, .int h0_hasWritten, .ref h0_node, .int h0_nodes, .int h0_onesMany, .int h0_within, .int h0_top])), (aI ca h0_now 376 F_h0_now)]) (Wr := []) (va_runV (As := [.int a1]) (rest := [.int y19_1, .ref h0]) ⟨hx, hb, hml, hown, hts⟩ (s_X12_floorOf l D ca H.size h0 a1 0 h0_tape h0_taped h0_size h0_limit h0_to h0_from h0_kind h0_number h0_sign h0_fault h0_place h0_word h0_told h0_now h0_read h0_kept h0_snaps h0_aside h0_name h0_readName h0_keptName h0_isKept h0_onces h0_snapMany h0_lowest h0_highest h0_agreed h0_jurors h0_panelled h0_inSets h0_surely h0_asked h0_frees h0_struck h0_beating h0_text h0_texts h0_seed h0_line h0_written h0_lineMany h0_hasWritten h0_node h0_nodes h0_onesMany h0_within h0_top F_h0_now t19_a1 i_h0_taped i_h0_size i_h0_to i_h0_snapMany i_h0_texts i_h0_lineMany i_h0_hasWritten (sg_w (a' := 0) (b' := 1) (lo' := 0) (hi' := 10) s_h0_now_0 (by decide) (by decide) (by decide) (by decide)) (sg_w (a' := 1) (b' := 2) (lo' := 0) (hi' := 4) s_h0_now_1 (by decide) (by decide) (by decide) (by decide)) (sg_w (a' := 2) (b' := 3) (lo' := 0) (hi' := 5) s_h0_now_2 (by decide) (by decide) (by decide) (by decide)) (sg_w (a' := 35) (b' := 36) (lo' := 0) (hi' := 1023) s_h0_now_3 (by decide) (by decide) (by decide) (by decide)) (sg_w (a' := 44) (b' := 49) (lo' := 0) (hi' := 3) s_h0_now_4 (by decide) (by decide) (by decide) (by decide)) (sg_w (a' := 90) (b' := 91) (lo' := 0) (hi' := 1023) s_h0_now_5 (by decide) (by decide) (by decide) (by decide))) (cwV 1 hts gX12_longest_X12_floorOf rfl rfl rfl (by decide +kernel) ⟨Nat.le_of_ble_eq_true rfl, Nat.le_of_ble_eq_true rfl⟩) (oPV (C := RX12) hK hP hD [0, 1] rfl (by decide) 0 rfl (ci := 11) rfl rfl) rfl rfl hl.1 rfl (lv_room (Nat.le_of_ble_eq_true rfl)) dX12_longest_40 ⟨Nat.le_of_ble_eq_true rfl, Nat.le_of_ble_eq_true rfl⟩) hP hD hS hA [0, 1] [] rfl rfl (by decide) (by decide) (fun r_205 u H locs w_206 hP hD hS => ?_)
          obtain ⟨⟩ := u
          have hP : va_P D vwCl [(h0, .inr (11, [.int 0, .ref h0_tape, .int h0_taped, .int h0_size, .int h0_limit, .int h0_to, .int h0_from, .int h0_kind, .int h0_number, .int h0_sign, .int h0_fault, .int h0_place, .long h0_word, .int h0_told, .ref h0_now, .ref h0_read, .ref h0_kept, .ref h0_snaps, .ref h0_aside, .ref h0_name, .ref h0_readName, .ref h0_keptName, .ref h0_isKept, .ref h0_onces, .int h0_snapMany, .int h0_lowest, .int h0_highest, .int h0_agreed, .int h0_jurors, .int h0_panelled, .ref h0_inSets, .int h0_surely, .int h0_asked, .ref h0_frees, .int h0_struck, .int h0_beating, .ref h0_text, .int h0_texts, .int h0_seed, .ref h0_line, .ref h0_written, .int h0_lineMany, .int h0_hasWritten, .ref h0_node, .int h0_nodes, .int h0_onesMany, .int h0_within, .int h0_top])), (aI ca h0_now 376 F_h0_now)] H := hP
          have hD : va_D A [(h0, .inr (11, [.int 0, .ref h0_tape, .int h0_taped, .int h0_size, .int h0_limit, .int h0_to, .int h0_from, .int h0_kind, .int h0_number, .int h0_sign, .int h0_fault, .int h0_place, .long h0_word, .int h0_told, .ref h0_now, .ref h0_read, .ref h0_kept, .ref h0_snaps, .ref h0_aside, .ref h0_name, .ref h0_readName, .ref h0_keptName, .ref h0_isKept, .ref h0_onces, .int h0_snapMany, .int h0_lowest, .int h0_highest, .int h0_agreed, .int h0_jurors, .int h0_panelled, .ref h0_inSets, .int h0_surely, .int h0_asked, .ref h0_frees, .int h0_struck, .int h0_beating, .ref h0_text, .int h0_texts, .int h0_seed, .ref h0_line, .ref h0_written, .int h0_lineMany, .int h0_hasWritten, .ref h0_node, .int h0_nodes, .int h0_onesMany, .int h0_within, .int h0_top])), (aI ca h0_now 376 F_h0_now)] := hD
          try dsimp only at w_206
          have h_207 := w_206
          refine oC_i (Wc := [(h0, .inr (11, [.int 0, .ref h0_tape, .int h0_taped, .int h0_size, .int h0_limit, .int h0_to, .int h0_from, .int h0_kind, .int h0_number, .int h0_sign, .int h0_fault, .int h0_place, .long h0_word, .int h0_told, .ref h0_now, .ref h0_read, .ref h0_kept, .ref h0_snaps, .ref h0_aside, .ref h0_name, .ref h0_readName, .ref h0_keptName, .ref h0_isKept, .ref h0_onces, .int h0_snapMany, .int h0_lowest, .int h0_highest, .int h0_agreed, .int h0_jurors, .int h0_panelled, .ref h0_inSets, .int h0_surely, .int h0_asked, .ref h0_frees, .int h0_struck, .int h0_beating, .ref h0_text, .int h0_texts, .int h0_seed, .ref h0_line, .ref h0_written, .int h0_lineMany, .int h0_hasWritten, .ref h0_node, .int h0_nodes, .int h0_onesMany, .int h0_within, .int h0_top])), (aI ca h0_now 376 F_h0_now)]) (Wr := []) (va_runV (As := [.int y19_1, .int r_205]) (rest := []) ⟨hx, hb, hml, hown, hts⟩ (s_X12_lastsOf l D ca H.size h0 y19_1 r_205 0 h0_tape h0_taped h0_size h0_limit h0_to h0_from h0_kind h0_number h0_sign h0_fault h0_place h0_word h0_told h0_now h0_read h0_kept h0_snaps h0_aside h0_name h0_readName h0_keptName h0_isKept h0_onces h0_snapMany h0_lowest h0_highest h0_agreed h0_jurors h0_panelled h0_inSets h0_surely h0_asked h0_frees h0_struck h0_beating h0_text h0_texts h0_seed h0_line h0_written h0_lineMany h0_hasWritten h0_node h0_nodes h0_onesMany h0_within h0_top F_h0_now h_197 h_207 i_h0_taped i_h0_size i_h0_to i_h0_snapMany i_h0_texts i_h0_lineMany i_h0_hasWritten (sg_w (a' := 0) (b' := 1) (lo' := 0) (hi' := 10) s_h0_now_0 (by decide) (by decide) (by decide) (by decide)) (sg_w (a' := 1) (b' := 2) (lo' := 0) (hi' := 4) s_h0_now_1 (by decide) (by decide) (by decide) (by decide)) (sg_w (a' := 2) (b' := 3) (lo' := 0) (hi' := 5) s_h0_now_2 (by decide) (by decide) (by decide) (by decide)) (sg_w (a' := 35) (b' := 36) (lo' := 0) (hi' := 1023) s_h0_now_3 (by decide) (by decide) (by decide) (by decide)) (sg_w (a' := 44) (b' := 49) (lo' := 0) (hi' := 3) s_h0_now_4 (by decide) (by decide) (by decide) (by decide)) (sg_w (a' := 90) (b' := 91) (lo' := 0) (hi' := 1023) s_h0_now_5 (by decide) (by decide) (by decide) (by decide))) (cwV 2 hts gX12_longest_X12_lastsOf rfl rfl rfl (by decide +kernel) ⟨Nat.le_of_ble_eq_true rfl, Nat.le_of_ble_eq_true rfl⟩) (oPV (C := RX12) hK hP hD [0, 1] rfl (by decide) 0 rfl (ci := 11) rfl rfl) rfl rfl hl.1 rfl (lv_room (Nat.le_of_ble_eq_true rfl)) dX12_longest_43 ⟨Nat.le_of_ble_eq_true rfl, Nat.le_of_ble_eq_true rfl⟩) hP hD hS hA [0, 1] [] rfl rfl (by decide) (by decide) (fun r_208 u H locs w_209 hP hD hS => ?_)
          obtain ⟨⟩ := u
          have hP : va_P D vwCl [(h0, .inr (11, [.int 0, .ref h0_tape, .int h0_taped, .int h0_size, .int h0_limit, .int h0_to, .int h0_from, .int h0_kind, .int h0_number, .int h0_sign, .int h0_fault, .int h0_place, .long h0_word, .int h0_told, .ref h0_now, .ref h0_read, .ref h0_kept, .ref h0_snaps, .ref h0_aside, .ref h0_name, .ref h0_readName, .ref h0_keptName, .ref h0_isKept, .ref h0_onces, .int h0_snapMany, .int h0_lowest, .int h0_highest, .int h0_agreed, .int h0_jurors, .int h0_panelled, .ref h0_inSets, .int h0_surely, .int h0_asked, .ref h0_frees, .int h0_struck, .int h0_beating, .ref h0_text, .int h0_texts, .int h0_seed, .ref h0_line, .ref h0_written, .int h0_lineMany, .int h0_hasWritten, .ref h0_node, .int h0_nodes, .int h0_onesMany, .int h0_within, .int h0_top])), (aI ca h0_now 376 F_h0_now)] H := hP
          have hD : va_D A [(h0, .inr (11, [.int 0, .ref h0_tape, .int h0_taped, .int h0_size, .int h0_limit, .int h0_to, .int h0_from, .int h0_kind, .int h0_number, .int h0_sign, .int h0_fault, .int h0_place, .long h0_word, .int h0_told, .ref h0_now, .ref h0_read, .ref h0_kept, .ref h0_snaps, .ref h0_aside, .ref h0_name, .ref h0_readName, .ref h0_keptName, .ref h0_isKept, .ref h0_onces, .int h0_snapMany, .int h0_lowest, .int h0_highest, .int h0_agreed, .int h0_jurors, .int h0_panelled, .ref h0_inSets, .int h0_surely, .int h0_asked, .ref h0_frees, .int h0_struck, .int h0_beating, .ref h0_text, .int h0_texts, .int h0_seed, .ref h0_line, .ref h0_written, .int h0_lineMany, .int h0_hasWritten, .ref h0_node, .int h0_nodes, .int h0_onesMany, .int h0_within, .int h0_top])), (aI ca h0_now 376 F_h0_now)] := hD
          try dsimp only at w_209
          refine lv_iload_n hx hb dX12_longest_46 rfl (lv_at hl 2 rfl) ?_
          refine lv_icmp_le (tgt := 61) hx hb dX12_longest_47 (by decide) (fun c_210 => ?_) (fun c_210 => ?_)
          · skip
            have o_211 : rl 0 r_208 y19_0 := rl_le c_210
            exact J61_189 y19_0 h_197 H locs ls (oPsub hP [0, 1] rfl) (hD.sub [0, 1] (by decide) rfl) hS (lv_sub hl [0, 1, 2, 3] rfl)
          · skip
            have o_212 : rl 1 y19_0 r_208 := rl_nle c_210
            have h_213 : rg (-2147483648) 2147483646 y19_0 := rl_x o_212 (rga y19_0) (rga r_208) (by decide) (by decide)
            have h_214 : rg (-2147483647) 2147483647 r_208 := rl_y o_212 (rga y19_0) (rga r_208) (by decide) (by decide)
            refine lv_aload_n hx hb dX12_longest_50 rfl (lv_at hl 0 rfl) ?_
            refine lv_iload_n hx hb dX12_longest_51 rfl (lv_at hl 3 rfl) ?_
            refine lv_aload_n hx hb dX12_longest_52 rfl (lv_at hl 0 rfl) ?_
            refine lv_iload_n hx hb dX12_longest_53 rfl (lv_at hl 1 rfl) ?_
            refine oC_i (Wc := [(h0, .inr (11, [.int 0, .ref h0_tape, .int h0_taped, .int h0_size, .int h0_limit, .int h0_to, .int h0_from, .int h0_kind, .int h0_number, .int h0_sign, .int h0_fault, .int h0_place, .long h0_word, .int h0_told, .ref h0_now, .ref h0_read, .ref h0_kept, .ref h0_snaps, .ref h0_aside, .ref h0_name, .ref h0_readName, .ref h0_keptName, .ref h0_isKept, .ref h0_onces, .int h0_snapMany, .int h0_lowest, .int h0_highest, .int h0_agreed, .int h0_jurors, .int h0_panelled, .ref h0_inSets, .int h0_surely, .int h0_asked, .ref h0_frees, .int h0_struck, .int h0_beating, .ref h0_text, .int h0_texts, .int h0_seed, .ref h0_line, .ref h0_written, .int h0_lineMany, .int h0_hasWritten, .ref h0_node, .int h0_nodes, .int h0_onesMany, .int h0_within, .int h0_top])), (aI ca h0_now 376 F_h0_now)]) (Wr := []) (va_runV (As := [.int a1]) (rest := [.int y19_1, .ref h0]) ⟨hx, hb, hml, hown, hts⟩ (s_X12_floorOf l D ca H.size h0 a1 0 h0_tape h0_taped h0_size h0_limit h0_to h0_from h0_kind h0_number h0_sign h0_fault h0_place h0_word h0_told h0_now h0_read h0_kept h0_snaps h0_aside h0_name h0_readName h0_keptName h0_isKept h0_onces h0_snapMany h0_lowest h0_highest h0_agreed h0_jurors h0_panelled h0_inSets h0_surely h0_asked h0_frees h0_struck h0_beating h0_text h0_texts h0_seed h0_line h0_written h0_lineMany h0_hasWritten h0_node h0_nodes h0_onesMany h0_within h0_top F_h0_now t19_a1 i_h0_taped i_h0_size i_h0_to i_h0_snapMany i_h0_texts i_h0_lineMany i_h0_hasWritten (sg_w (a' := 0) (b' := 1) (lo' := 0) (hi' := 10) s_h0_now_0 (by decide) (by decide) (by decide) (by decide)) (sg_w (a' := 1) (b' := 2) (lo' := 0) (hi' := 4) s_h0_now_1 (by decide) (by decide) (by decide) (by decide)) (sg_w (a' := 2) (b' := 3) (lo' := 0) (hi' := 5) s_h0_now_2 (by decide) (by decide) (by decide) (by decide)) (sg_w (a' := 35) (b' := 36) (lo' := 0) (hi' := 1023) s_h0_now_3 (by decide) (by decide) (by decide) (by decide)) (sg_w (a' := 44) (b' := 49) (lo' := 0) (hi' := 3) s_h0_now_4 (by decide) (by decide) (by decide) (by decide)) (sg_w (a' := 90) (b' := 91) (lo' := 0) (hi' := 1023) s_h0_now_5 (by decide) (by decide) (by decide) (by decide))) (cwV 1 hts gX12_longest_X12_floorOf rfl rfl rfl (by decide +kernel) ⟨Nat.le_of_ble_eq_true rfl, Nat.le_of_ble_eq_true rfl⟩) (oPV (C := RX12) hK hP hD [0, 1] rfl (by decide) 0 rfl (ci := 11) rfl rfl) rfl rfl hl.1 rfl (lv_room (Nat.le_of_ble_eq_true rfl)) dX12_longest_54 ⟨Nat.le_of_ble_eq_true rfl, Nat.le_of_ble_eq_true rfl⟩) hP hD hS hA [0, 1] [] rfl rfl (by decide) (by decide) (fun r_215 u H locs w_216 hP hD hS => ?_)
            obtain ⟨⟩ := u
            have hP : va_P D vwCl [(h0, .inr (11, [.int 0, .ref h0_tape, .int h0_taped, .int h0_size, .int h0_limit, .int h0_to, .int h0_from, .int h0_kind, .int h0_number, .int h0_sign, .int h0_fault, .int h0_place, .long h0_word, .int h0_told, .ref h0_now, .ref h0_read, .ref h0_kept, .ref h0_snaps, .ref h0_aside, .ref h0_name, .ref h0_readName, .ref h0_keptName, .ref h0_isKept, .ref h0_onces, .int h0_snapMany, .int h0_lowest, .int h0_highest, .int h0_agreed, .int h0_jurors, .int h0_panelled, .ref h0_inSets, .int h0_surely, .int h0_asked, .ref h0_frees, .int h0_struck, .int h0_beating, .ref h0_text, .int h0_texts, .int h0_seed, .ref h0_line, .ref h0_written, .int h0_lineMany, .int h0_hasWritten, .ref h0_node, .int h0_nodes, .int h0_onesMany, .int h0_within, .int h0_top])), (aI ca h0_now 376 F_h0_now)] H := hP
            have hD : va_D A [(h0, .inr (11, [.int 0, .ref h0_tape, .int h0_taped, .int h0_size, .int h0_limit, .int h0_to, .int h0_from, .int h0_kind, .int h0_number, .int h0_sign, .int h0_fault, .int h0_place, .long h0_word, .int h0_told, .ref h0_now, .ref h0_read, .ref h0_kept, .ref h0_snaps, .ref h0_aside, .ref h0_name, .ref h0_readName, .ref h0_keptName, .ref h0_isKept, .ref h0_onces, .int h0_snapMany, .int h0_lowest, .int h0_highest, .int h0_agreed, .int h0_jurors, .int h0_panelled, .ref h0_inSets, .int h0_surely, .int h0_asked, .ref h0_frees, .int h0_struck, .int h0_beating, .ref h0_text, .int h0_texts, .int h0_seed, .ref h0_line, .ref h0_written, .int h0_lineMany, .int h0_hasWritten, .ref h0_node, .int h0_nodes, .int h0_onesMany, .int h0_within, .int h0_top])), (aI ca h0_now 376 F_h0_now)] := hD
            try dsimp only at w_216
            have h_217 := w_216
            refine oC_i (Wc := [(h0, .inr (11, [.int 0, .ref h0_tape, .int h0_taped, .int h0_size, .int h0_limit, .int h0_to, .int h0_from, .int h0_kind, .int h0_number, .int h0_sign, .int h0_fault, .int h0_place, .long h0_word, .int h0_told, .ref h0_now, .ref h0_read, .ref h0_kept, .ref h0_snaps, .ref h0_aside, .ref h0_name, .ref h0_readName, .ref h0_keptName, .ref h0_isKept, .ref h0_onces, .int h0_snapMany, .int h0_lowest, .int h0_highest, .int h0_agreed, .int h0_jurors, .int h0_panelled, .ref h0_inSets, .int h0_surely, .int h0_asked, .ref h0_frees, .int h0_struck, .int h0_beating, .ref h0_text, .int h0_texts, .int h0_seed, .ref h0_line, .ref h0_written, .int h0_lineMany, .int h0_hasWritten, .ref h0_node, .int h0_nodes, .int h0_onesMany, .int h0_within, .int h0_top])), (aI ca h0_now 376 F_h0_now)]) (Wr := []) (va_runV (As := [.int y19_1, .int r_215]) (rest := []) ⟨hx, hb, hml, hown, hts⟩ (s_X12_lastsOf l D ca H.size h0 y19_1 r_215 0 h0_tape h0_taped h0_size h0_limit h0_to h0_from h0_kind h0_number h0_sign h0_fault h0_place h0_word h0_told h0_now h0_read h0_kept h0_snaps h0_aside h0_name h0_readName h0_keptName h0_isKept h0_onces h0_snapMany h0_lowest h0_highest h0_agreed h0_jurors h0_panelled h0_inSets h0_surely h0_asked h0_frees h0_struck h0_beating h0_text h0_texts h0_seed h0_line h0_written h0_lineMany h0_hasWritten h0_node h0_nodes h0_onesMany h0_within h0_top F_h0_now h_197 h_217 i_h0_taped i_h0_size i_h0_to i_h0_snapMany i_h0_texts i_h0_lineMany i_h0_hasWritten (sg_w (a' := 0) (b' := 1) (lo' := 0) (hi' := 10) s_h0_now_0 (by decide) (by decide) (by decide) (by decide)) (sg_w (a' := 1) (b' := 2) (lo' := 0) (hi' := 4) s_h0_now_1 (by decide) (by decide) (by decide) (by decide)) (sg_w (a' := 2) (b' := 3) (lo' := 0) (hi' := 5) s_h0_now_2 (by decide) (by decide) (by decide) (by decide)) (sg_w (a' := 35) (b' := 36) (lo' := 0) (hi' := 1023) s_h0_now_3 (by decide) (by decide) (by decide) (by decide)) (sg_w (a' := 44) (b' := 49) (lo' := 0) (hi' := 3) s_h0_now_4 (by decide) (by decide) (by decide) (by decide)) (sg_w (a' := 90) (b' := 91) (lo' := 0) (hi' := 1023) s_h0_now_5 (by decide) (by decide) (by decide) (by decide))) (cwV 2 hts gX12_longest_X12_lastsOf rfl rfl rfl (by decide +kernel) ⟨Nat.le_of_ble_eq_true rfl, Nat.le_of_ble_eq_true rfl⟩) (oPV (C := RX12) hK hP hD [0, 1] rfl (by decide) 0 rfl (ci := 11) rfl rfl) rfl rfl hl.1 rfl (lv_room (Nat.le_of_ble_eq_true rfl)) dX12_longest_57 ⟨Nat.le_of_ble_eq_true rfl, Nat.le_of_ble_eq_true rfl⟩) hP hD hS hA [0, 1] [] rfl rfl (by decide) (by decide) (fun r_218 u H locs w_219 hP hD hS => ?_)
            obtain ⟨⟩ := u
            have hP : va_P D vwCl [(h0, .inr (11, [.int 0, .ref h0_tape, .int h0_taped, .int h0_size, .int h0_limit, .int h0_to, .int h0_from, .int h0_kind, .int h0_number, .int h0_sign, .int h0_fault, .int h0_place, .long h0_word, .int h0_told, .ref h0_now, .ref h0_read, .ref h0_kept, .ref h0_snaps, .ref h0_aside, .ref h0_name, .ref h0_readName, .ref h0_keptName, .ref h0_isKept, .ref h0_onces, .int h0_snapMany, .int h0_lowest, .int h0_highest, .int h0_agreed, .int h0_jurors, .int h0_panelled, .ref h0_inSets, .int h0_surely, .int h0_asked, .ref h0_frees, .int h0_struck, .int h0_beating, .ref h0_text, .int h0_texts, .int h0_seed, .ref h0_line, .ref h0_written, .int h0_lineMany, .int h0_hasWritten, .ref h0_node, .int h0_nodes, .int h0_onesMany, .int h0_within, .int h0_top])), (aI ca h0_now 376 F_h0_now)] H := hP
            have hD : va_D A [(h0, .inr (11, [.int 0, .ref h0_tape, .int h0_taped, .int h0_size, .int h0_limit, .int h0_to, .int h0_from, .int h0_kind, .int h0_number, .int h0_sign, .int h0_fault, .int h0_place, .long h0_word, .int h0_told, .ref h0_now, .ref h0_read, .ref h0_kept, .ref h0_snaps, .ref h0_aside, .ref h0_name, .ref h0_readName, .ref h0_keptName, .ref h0_isKept, .ref h0_onces, .int h0_snapMany, .int h0_lowest, .int h0_highest, .int h0_agreed, .int h0_jurors, .int h0_panelled, .ref h0_inSets, .int h0_surely, .int h0_asked, .ref h0_frees, .int h0_struck, .int h0_beating, .ref h0_text, .int h0_texts, .int h0_seed, .ref h0_line, .ref h0_written, .int h0_lineMany, .int h0_hasWritten, .ref h0_node, .int h0_nodes, .int h0_onesMany, .int h0_within, .int h0_top])), (aI ca h0_now 376 F_h0_now)] := hD
            try dsimp only at w_219
            refine lv_istore_n (lv' := [(2, .int r_218), (0, .ref h0), (1, .int a1), (3, .int y19_1)]) hx hb dX12_longest_60 rfl hl (by decide) rfl (fun ls hl => ?_)
            exact J61_189 r_218 h_197 H locs ls (oPsub hP [0, 1] rfl) (hD.sub [0, 1] (by decide) rfl) hS (lv_sub hl [1, 2, 0, 3] rfl)
  refine lv_aload_n hx hb dX12_longest_0 rfl (lv_at hl 0 rfl) ?_
  refine lv_iconst (v := 0) hx hb dX12_longest_1 (by decide) ?_
  refine va_put (D := D) (ci := 11) (v := .int 0) (ty := .int) (C := RX12) (T := TX12) (N := 48) hx hb hts k2 tyX12 tyX12_ok nmX12 hown hK.1 hP hD hS 0 rfl rfl 0 (by decide) k1 (fun _ h9 => h9) rfl (by decide +kernel) rfl rfl (Nat.le_of_ble_eq_true rfl) dX12_longest_2 (fun H locs hP hD hS => ?_)
  have hP : va_P D vwCl [(h0, .inr (11, [.int 0, .ref h0_tape, .int h0_taped, .int h0_size, .int h0_limit, .int h0_to, .int h0_from, .int h0_kind, .int h0_number, .int h0_sign, .int h0_fault, .int h0_place, .long h0_word, .int h0_told, .ref h0_now, .ref h0_read, .ref h0_kept, .ref h0_snaps, .ref h0_aside, .ref h0_name, .ref h0_readName, .ref h0_keptName, .ref h0_isKept, .ref h0_onces, .int h0_snapMany, .int h0_lowest, .int h0_highest, .int h0_agreed, .int h0_jurors, .int h0_panelled, .ref h0_inSets, .int h0_surely, .int h0_asked, .ref h0_frees, .int h0_struck, .int h0_beating, .ref h0_text, .int h0_texts, .int h0_seed, .ref h0_line, .ref h0_written, .int h0_lineMany, .int h0_hasWritten, .ref h0_node, .int h0_nodes, .int h0_onesMany, .int h0_within, .int h0_top])), (aI ca h0_now 376 F_h0_now)] H := hP
  have hD : va_D A [(h0, .inr (11, [.int 0, .ref h0_tape, .int h0_taped, .int h0_size, .int h0_limit, .int h0_to, .int h0_from, .int h0_kind, .int h0_number, .int h0_sign, .int h0_fault, .int h0_place, .long h0_word, .int h0_told, .ref h0_now, .ref h0_read, .ref h0_kept, .ref h0_snaps, .ref h0_aside, .ref h0_name, .ref h0_readName, .ref h0_keptName, .ref h0_isKept, .ref h0_onces, .int h0_snapMany, .int h0_lowest, .int h0_highest, .int h0_agreed, .int h0_jurors, .int h0_panelled, .ref h0_inSets, .int h0_surely, .int h0_asked, .ref h0_frees, .int h0_struck, .int h0_beating, .ref h0_text, .int h0_texts, .int h0_seed, .ref h0_line, .ref h0_written, .int h0_lineMany, .int h0_hasWritten, .ref h0_node, .int h0_nodes, .int h0_onesMany, .int h0_within, .int h0_top])), (aI ca h0_now 376 F_h0_now)] := hD
  refine lv_aload_n hx hb dX12_longest_5 rfl (lv_at hl 0 rfl) ?_
  refine lv_iload_n hx hb dX12_longest_6 rfl (lv_at hl 1 rfl) ?_
  refine oC_i (Wc := [(h0, .inr (11, [.int 0, .ref h0_tape, .int h0_taped, .int h0_size, .int h0_limit, .int h0_to, .int h0_from, .int h0_kind, .int h0_number, .int h0_sign, .int h0_fault, .int h0_place, .long h0_word, .int h0_told, .ref h0_now, .ref h0_read, .ref h0_kept, .ref h0_snaps, .ref h0_aside, .ref h0_name, .ref h0_readName, .ref h0_keptName, .ref h0_isKept, .ref h0_onces, .int h0_snapMany, .int h0_lowest, .int h0_highest, .int h0_agreed, .int h0_jurors, .int h0_panelled, .ref h0_inSets, .int h0_surely, .int h0_asked, .ref h0_frees, .int h0_struck, .int h0_beating, .ref h0_text, .int h0_texts, .int h0_seed, .ref h0_line, .ref h0_written, .int h0_lineMany, .int h0_hasWritten, .ref h0_node, .int h0_nodes, .int h0_onesMany, .int h0_within, .int h0_top])), (aI ca h0_now 376 F_h0_now)]) (Wr := []) (va_runV (As := [.int a1]) (rest := []) ⟨hx, hb, hml, hown, hts⟩ (s_X12_isCase l D ca H.size h0 a1 0 h0_tape h0_taped h0_size h0_limit h0_to h0_from h0_kind h0_number h0_sign h0_fault h0_place h0_word h0_told h0_now h0_read h0_kept h0_snaps h0_aside h0_name h0_readName h0_keptName h0_isKept h0_onces h0_snapMany h0_lowest h0_highest h0_agreed h0_jurors h0_panelled h0_inSets h0_surely h0_asked h0_frees h0_struck h0_beating h0_text h0_texts h0_seed h0_line h0_written h0_lineMany h0_hasWritten h0_node h0_nodes h0_onesMany h0_within h0_top F_h0_now i_h0_taped i_h0_size i_h0_to i_h0_snapMany i_h0_texts i_h0_lineMany i_h0_hasWritten s_h0_now_0 s_h0_now_1 s_h0_now_2 s_h0_now_3 s_h0_now_4 s_h0_now_5) (cwV 1 hts gX12_longest_X12_isCase rfl rfl rfl (by decide +kernel) ⟨Nat.le_of_ble_eq_true rfl, Nat.le_of_ble_eq_true rfl⟩) (oPV (C := RX12) hK hP hD [0, 1] rfl (by decide) 0 rfl (ci := 11) rfl rfl) rfl rfl hl.1 rfl (lv_room (Nat.le_of_ble_eq_true rfl)) dX12_longest_7 ⟨Nat.le_of_ble_eq_true rfl, Nat.le_of_ble_eq_true rfl⟩) hP hD hS hA [0, 1] [] rfl rfl (by decide) (by decide) (fun r_220 u H locs w_221 hP hD hS => ?_)
  obtain ⟨⟩ := u
  have hP : va_P D vwCl [(h0, .inr (11, [.int 0, .ref h0_tape, .int h0_taped, .int h0_size, .int h0_limit, .int h0_to, .int h0_from, .int h0_kind, .int h0_number, .int h0_sign, .int h0_fault, .int h0_place, .long h0_word, .int h0_told, .ref h0_now, .ref h0_read, .ref h0_kept, .ref h0_snaps, .ref h0_aside, .ref h0_name, .ref h0_readName, .ref h0_keptName, .ref h0_isKept, .ref h0_onces, .int h0_snapMany, .int h0_lowest, .int h0_highest, .int h0_agreed, .int h0_jurors, .int h0_panelled, .ref h0_inSets, .int h0_surely, .int h0_asked, .ref h0_frees, .int h0_struck, .int h0_beating, .ref h0_text, .int h0_texts, .int h0_seed, .ref h0_line, .ref h0_written, .int h0_lineMany, .int h0_hasWritten, .ref h0_node, .int h0_nodes, .int h0_onesMany, .int h0_within, .int h0_top])), (aI ca h0_now 376 F_h0_now)] H := hP
  have hD : va_D A [(h0, .inr (11, [.int 0, .ref h0_tape, .int h0_taped, .int h0_size, .int h0_limit, .int h0_to, .int h0_from, .int h0_kind, .int h0_number, .int h0_sign, .int h0_fault, .int h0_place, .long h0_word, .int h0_told, .ref h0_now, .ref h0_read, .ref h0_kept, .ref h0_snaps, .ref h0_aside, .ref h0_name, .ref h0_readName, .ref h0_keptName, .ref h0_isKept, .ref h0_onces, .int h0_snapMany, .int h0_lowest, .int h0_highest, .int h0_agreed, .int h0_jurors, .int h0_panelled, .ref h0_inSets, .int h0_surely, .int h0_asked, .ref h0_frees, .int h0_struck, .int h0_beating, .ref h0_text, .int h0_texts, .int h0_seed, .ref h0_line, .ref h0_written, .int h0_lineMany, .int h0_hasWritten, .ref h0_node, .int h0_nodes, .int h0_onesMany, .int h0_within, .int h0_top])), (aI ca h0_now 376 F_h0_now)] := hD
  try dsimp only at w_221
  rcases w_221 with h_222 | ⟨h_223, h_224⟩
  · skip
    subst h_222
    refine lv_if_ne (tgt := 15) hx hb dX12_longest_10 (by decide) (fun c => absurd (by decide) c) (fun _ => ?_)
    refine lv_iconst (v := (-1)) hx hb dX12_longest_13 (by decide) ?_
    exact oE_i hx hb hr rfl hlocks hP hD hS () [0, 1] rfl (by decide) trivial (Nat.le_of_ble_eq_true rfl) (Nat.le_of_ble_eq_true rfl) dX12_longest_14
  · skip
    subst h_223
    refine lv_if_ne (tgt := 15) hx hb dX12_longest_10 (by decide) (fun _ => ?_) (fun c => absurd c (by decide))
    refine lv_iconst (v := (-1)) hx hb dX12_longest_15 (by decide) ?_
    refine lv_istore_n (lv' := [(2, .int (-1)), (0, .ref h0), (1, .int a1)]) hx hb dX12_longest_16 rfl hl (by decide) rfl (fun ls hl => ?_)
    refine lv_iconst (v := 0) hx hb dX12_longest_17 (by decide) ?_
    refine lv_istore_n (lv' := [(3, .int 0), (2, .int (-1)), (0, .ref h0), (1, .int a1)]) hx hb dX12_longest_18 rfl hl (by decide) rfl (fun ls hl => ?_)
    exact J19_158 11 (-1) 0 trivial (⟨by decide, by decide⟩ : rg 0 10 (0 : Int32)) h_224 (by have q0 := (⟨by decide, by decide⟩ : rg 0 0 (0 : Int32)).1; omega) H locs ls (oPsub hP [0, 1] rfl) (hD.sub [0, 1] (by decide) rfl) hS (lv_sub hl [2, 3, 1, 0] rfl)
theorem dX12_agree_0 : decode cX12_agree 0 = .ok (.aload_n 0, 1) := by decide +kernel
theorem dX12_agree_1 : decode cX12_agree 1 = .ok (.iconst 0, 1) := by decide +kernel
theorem dX12_agree_2 : decode cX12_agree 2 = .ok (.putfield 1, 3) := by decide +kernel
theorem dX12_agree_5 : decode cX12_agree 5 = .ok (.aload_n 0, 1) := by decide +kernel
theorem dX12_agree_6 : decode cX12_agree 6 = .ok (.iload_n 1, 1) := by decide +kernel
theorem dX12_agree_7 : decode cX12_agree 7 = .ok (.invokevirtual 261, 3) := by decide +kernel
theorem dX12_agree_10 : decode cX12_agree 10 = .ok (.ifCond .eq 12, 3) := by decide +kernel
theorem dX12_agree_13 : decode cX12_agree 13 = .ok (.aload_n 0, 1) := by decide +kernel
theorem dX12_agree_14 : decode cX12_agree 14 = .ok (.getfield 98, 3) := by decide +kernel
theorem dX12_agree_17 : decode cX12_agree 17 = .ok (.iconst 0, 1) := by decide +kernel
theorem dX12_agree_18 : decode cX12_agree 18 = .ok (.iaload, 1) := by decide +kernel
theorem dX12_agree_19 : decode cX12_agree 19 = .ok (.ifCond .ne 5, 3) := by decide +kernel
theorem dX12_agree_22 : decode cX12_agree 22 = .ok (.iconst (-1), 1) := by decide +kernel
theorem dX12_agree_23 : decode cX12_agree 23 = .ok (.ireturn, 1) := by decide +kernel
theorem dX12_agree_24 : decode cX12_agree 24 = .ok (.aload_n 0, 1) := by decide +kernel
theorem dX12_agree_25 : decode cX12_agree 25 = .ok (.iconst 0, 1) := by decide +kernel
theorem dX12_agree_26 : decode cX12_agree 26 = .ok (.putfield 130, 3) := by decide +kernel
theorem dX12_agree_29 : decode cX12_agree 29 = .ok (.iconst 1, 1) := by decide +kernel
theorem dX12_agree_30 : decode cX12_agree 30 = .ok (.istore_n 2, 1) := by decide +kernel
theorem dX12_agree_31 : decode cX12_agree 31 = .ok (.iload_n 2, 1) := by decide +kernel
theorem dX12_agree_32 : decode cX12_agree 32 = .ok (.iconst 1, 1) := by decide +kernel
theorem dX12_agree_33 : decode cX12_agree 33 = .ok (.aload_n 0, 1) := by decide +kernel
theorem dX12_agree_34 : decode cX12_agree 34 = .ok (.getfield 98, 3) := by decide +kernel
theorem dX12_agree_37 : decode cX12_agree 37 = .ok (.iconst 0, 1) := by decide +kernel
theorem dX12_agree_38 : decode cX12_agree 38 = .ok (.iaload, 1) := by decide +kernel
theorem dX12_agree_39 : decode cX12_agree 39 = .ok (.ishl, 1) := by decide +kernel
theorem dX12_agree_40 : decode cX12_agree 40 = .ok (.if_icmp .ge 37, 3) := by decide +kernel
theorem dX12_agree_77 : decode cX12_agree 77 = .ok (.aload_n 0, 1) := by decide +kernel
theorem dX12_agree_78 : decode cX12_agree 78 = .ok (.getfield 130, 3) := by decide +kernel
theorem dX12_agree_81 : decode cX12_agree 81 = .ok (.invokestatic 302, 3) := by decide +kernel
theorem dX12_agreed_0 : decode cX12_agreed 0 = .ok (.aload_n 0, 1) := by decide +kernel
theorem dX12_agreed_1 : decode cX12_agreed 1 = .ok (.iconst 0, 1) := by decide +kernel
theorem dX12_agreed_2 : decode cX12_agreed 2 = .ok (.putfield 1, 3) := by decide +kernel
theorem dX12_agreed_5 : decode cX12_agreed 5 = .ok (.aload_n 0, 1) := by decide +kernel
theorem dX12_agreed_6 : decode cX12_agreed 6 = .ok (.getfield 130, 3) := by decide +kernel
theorem dX12_agreed_9 : decode cX12_agreed 9 = .ok (.ireturn, 1) := by decide +kernel
theorem dX12_bits_0 : decode cX12_bits 0 = .ok (.iconst 0, 1) := by decide +kernel
theorem dX12_bits_1 : decode cX12_bits 1 = .ok (.istore_n 1, 1) := by decide +kernel
theorem dX12_bits_2 : decode cX12_bits 2 = .ok (.iload_n 0, 1) := by decide +kernel
theorem dX12_bits_3 : decode cX12_bits 3 = .ok (.istore_n 2, 1) := by decide +kernel
theorem dX12_bits_4 : decode cX12_bits 4 = .ok (.iload_n 2, 1) := by decide +kernel
theorem dX12_bits_5 : decode cX12_bits 5 = .ok (.ifCond .eq 15, 3) := by decide +kernel
theorem dX12_bits_8 : decode cX12_bits 8 = .ok (.iinc 1 1, 3) := by decide +kernel
theorem dX12_bits_11 : decode cX12_bits 11 = .ok (.iload_n 2, 1) := by decide +kernel
theorem dX12_bits_12 : decode cX12_bits 12 = .ok (.iload_n 2, 1) := by decide +kernel
theorem dX12_bits_13 : decode cX12_bits 13 = .ok (.iconst 1, 1) := by decide +kernel
theorem dX12_bits_14 : decode cX12_bits 14 = .ok (.isub, 1) := by decide +kernel
theorem dX12_bits_15 : decode cX12_bits 15 = .ok (.iand, 1) := by decide +kernel
theorem dX12_bits_16 : decode cX12_bits 16 = .ok (.istore_n 2, 1) := by decide +kernel
theorem dX12_bits_17 : decode cX12_bits 17 = .ok (.goto (-13), 3) := by decide +kernel
theorem dX12_bits_20 : decode cX12_bits 20 = .ok (.iload_n 1, 1) := by decide +kernel
theorem dX12_bits_21 : decode cX12_bits 21 = .ok (.ireturn, 1) := by decide +kernel
set_option maxRecDepth 20000 in
theorem ggX12_agree_X12_isFloor : GoodIn wsX12_agree wsX12_isFloor := goodIn_r _ [8, 2, 9, 10, 7, 11, 36, 37, 38, 39, 40, 41, 42, 43, 44, 45, 46, 47, 48, 49, 50, 51, 52, 53, 54, 55, 56, 57, 58, 59, 60, 61, 62, 63, 64, 65, 66, 67, 68, 69, 70, 71, 72, 73, 74, 75, 76, 77, 78, 79, 80, 81, 82, 83] rfl (by decide +kernel)
set_option maxRecDepth 20000 in
theorem gX12_agree_X12_isFloor : GoodIn wsX12_agree (wsV RX12 261 RX12 yX12_isFloor wsX12_isFloor) := goodIn_app (goodIn_of _ (by decide +kernel)) ggX12_agree_X12_isFloor
set_option maxHeartbeats 4000000 in
set_option maxRecDepth 100000 in
theorem s_X12_agreed (l : Launch) (D : va_G) (ca : Nat → ClassId) (sz : Nat) (h0 : Nat) (h0_thrown : Int32) (h0_tape : Nat) (h0_taped : Int32) (h0_size : Int32) (h0_limit : Int32) (h0_to : Int32) (h0_from : Int32) (h0_kind : Int32) (h0_number : Int32) (h0_sign : Int32) (h0_fault : Int32) (h0_place : Int32) (h0_word : Int64) (h0_told : Int32) (h0_now : Nat) (h0_read : Nat) (h0_kept : Nat) (h0_snaps : Nat) (h0_aside : Nat) (h0_name : Nat) (h0_readName : Nat) (h0_keptName : Nat) (h0_isKept : Nat) (h0_onces : Nat) (h0_snapMany : Int32) (h0_lowest : Int32) (h0_highest : Int32) (h0_agreed : Int32) (h0_jurors : Int32) (h0_panelled : Int32) (h0_inSets : Nat) (h0_surely : Int32) (h0_asked : Int32) (h0_frees : Nat) (h0_struck : Int32) (h0_beating : Int32) (h0_text : Nat) (h0_texts : Int32) (h0_seed : Int32) (h0_line : Nat) (h0_written : Nat) (h0_lineMany : Int32) (h0_hasWritten : Int32) (h0_node : Nat) (h0_nodes : Int32) (h0_onesMany : Int32) (h0_within : Int32) (h0_top : Int32) (i_h0_taped : rg 0 940 h0_taped) (i_h0_size : rg 0 940 h0_size) (i_h0_to : rg 0 940 h0_to) (i_h0_snapMany : rg 0 8 h0_snapMany) (i_h0_texts : rg 0 64 h0_texts) (i_h0_lineMany : rg 0 40 h0_lineMany) (i_h0_hasWritten : rg 0 1 h0_hasWritten) : oMet l yX12_agreed wsX12_agreed ({ frames := 0, cells := 0, slots := 0, locals := 0 } : Room) [.ref h0] D ca sz [(h0, .inr (11, [.int h0_thrown, .ref h0_tape, .int h0_taped, .int h0_size, .int h0_limit, .int h0_to, .int h0_from, .int h0_kind, .int h0_number, .int h0_sign, .int h0_fault, .int h0_place, .long h0_word, .int h0_told, .ref h0_now, .ref h0_read, .ref h0_kept, .ref h0_snaps, .ref h0_aside, .ref h0_name, .ref h0_readName, .ref h0_keptName, .ref h0_isKept, .ref h0_onces, .int h0_snapMany, .int h0_lowest, .int h0_highest, .int h0_agreed, .int h0_jurors, .int h0_panelled, .ref h0_inSets, .int h0_surely, .int h0_asked, .ref h0_frees, .int h0_struck, .int h0_beating, .ref h0_text, .int h0_texts, .int h0_seed, .ref h0_line, .ref h0_written, .int h0_lineMany, .int h0_hasWritten, .ref h0_node, .int h0_nodes, .int h0_onesMany, .int h0_within, .int h0_top]))] (oQi D (fun (r : Int32) (u : Unit) => (r = h0_agreed)) (fun (u : Unit) => [(h0, .inr (11, [.int 0, .ref h0_tape, .int h0_taped, .int h0_size, .int h0_limit, .int h0_to, .int h0_from, .int h0_kind, .int h0_number, .int h0_sign, .int h0_fault, .int h0_place, .long h0_word, .int h0_told, .ref h0_now, .ref h0_read, .ref h0_kept, .ref h0_snaps, .ref h0_aside, .ref h0_name, .ref h0_readName, .ref h0_keptName, .ref h0_isKept, .ref h0_onces, .int h0_snapMany, .int h0_lowest, .int h0_highest, .int h0_agreed, .int h0_jurors, .int h0_panelled, .ref h0_inSets, .int h0_surely, .int h0_asked, .ref h0_frees, .int h0_struck, .int h0_beating, .ref h0_text, .int h0_texts, .int h0_seed, .ref h0_line, .ref h0_written, .int h0_lineMany, .int h0_hasWritten, .ref h0_node, .int h0_nodes, .int h0_onesMany, .int h0_within, .int h0_top]))])) 0 0 := by
  refine oM (cc := cX12_agreed) (maxL := 1) (ret := (some .int)) (by decide) rfl (Nat.le_of_ble_eq_true rfl) [(0, .ref h0)] rfl ?_
  intro p e s m below meth c A H locs ls hx hb hr hml hts hown hlocks hin hK hP hD hA hS hl
  have hown : s.vm.findClass RX12 = some m.cls := hown
  have k1 := hts (.fieldLink RX12 1 "LidCourtModel" "thrown" "I") (by decide +kernel)
  have k2 : ∀ w ∈ wsX120, w ∈ wsX12_agreed := fun _ h => List.mem_cons_of_mem _ (List.mem_append_right _ h)
  have k3 := hts (.fieldLink RX12 130 "LidCourtModel" "agreed" "I") (by decide +kernel)
  refine lv_aload_n hx hb dX12_agreed_0 rfl (lv_at hl 0 rfl) ?_
  refine lv_iconst (v := 0) hx hb dX12_agreed_1 (by decide) ?_
  refine va_put (D := D) (ci := 11) (v := .int 0) (ty := .int) (C := RX12) (T := TX12) (N := 48) hx hb hts k2 tyX12 tyX12_ok nmX12 hown hK.1 hP hD hS 0 rfl rfl 0 (by decide) k1 (fun _ h9 => h9) rfl (by decide +kernel) rfl rfl (Nat.le_of_ble_eq_true rfl) dX12_agreed_2 (fun H locs hP hD hS => ?_)
  have hP : va_P D vwCl [(h0, .inr (11, [.int 0, .ref h0_tape, .int h0_taped, .int h0_size, .int h0_limit, .int h0_to, .int h0_from, .int h0_kind, .int h0_number, .int h0_sign, .int h0_fault, .int h0_place, .long h0_word, .int h0_told, .ref h0_now, .ref h0_read, .ref h0_kept, .ref h0_snaps, .ref h0_aside, .ref h0_name, .ref h0_readName, .ref h0_keptName, .ref h0_isKept, .ref h0_onces, .int h0_snapMany, .int h0_lowest, .int h0_highest, .int h0_agreed, .int h0_jurors, .int h0_panelled, .ref h0_inSets, .int h0_surely, .int h0_asked, .ref h0_frees, .int h0_struck, .int h0_beating, .ref h0_text, .int h0_texts, .int h0_seed, .ref h0_line, .ref h0_written, .int h0_lineMany, .int h0_hasWritten, .ref h0_node, .int h0_nodes, .int h0_onesMany, .int h0_within, .int h0_top]))] H := hP
  have hD : va_D A [(h0, .inr (11, [.int 0, .ref h0_tape, .int h0_taped, .int h0_size, .int h0_limit, .int h0_to, .int h0_from, .int h0_kind, .int h0_number, .int h0_sign, .int h0_fault, .int h0_place, .long h0_word, .int h0_told, .ref h0_now, .ref h0_read, .ref h0_kept, .ref h0_snaps, .ref h0_aside, .ref h0_name, .ref h0_readName, .ref h0_keptName, .ref h0_isKept, .ref h0_onces, .int h0_snapMany, .int h0_lowest, .int h0_highest, .int h0_agreed, .int h0_jurors, .int h0_panelled, .ref h0_inSets, .int h0_surely, .int h0_asked, .ref h0_frees, .int h0_struck, .int h0_beating, .ref h0_text, .int h0_texts, .int h0_seed, .ref h0_line, .ref h0_written, .int h0_lineMany, .int h0_hasWritten, .ref h0_node, .int h0_nodes, .int h0_onesMany, .int h0_within, .int h0_top]))] := hD
  refine lv_aload_n hx hb dX12_agreed_5 rfl (lv_at hl 0 rfl) ?_
  refine va_get (D := D) (ci := 11) (v := .int h0_agreed) (C := RX12) (T := TX12) (N := 48) hx hb hts k2 hown hK.1 hP 0 rfl rfl 27 (by decide) k3 (fun _ h9 => h9) rfl dX12_agreed_6 ?_
  exact oE_i hx hb hr rfl hlocks hP hD hS () [0] rfl (by decide) rfl (Nat.le_of_ble_eq_true rfl) (Nat.le_of_ble_eq_true rfl) dX12_agreed_9
theorem dX12_jurors_0 : decode cX12_jurors 0 = .ok (.aload_n 0, 1) := by decide +kernel
theorem dX12_jurors_1 : decode cX12_jurors 1 = .ok (.iconst 0, 1) := by decide +kernel
theorem dX12_jurors_2 : decode cX12_jurors 2 = .ok (.putfield 1, 3) := by decide +kernel
theorem dX12_jurors_5 : decode cX12_jurors 5 = .ok (.aload_n 0, 1) := by decide +kernel
theorem dX12_jurors_6 : decode cX12_jurors 6 = .ok (.getfield 133, 3) := by decide +kernel
theorem dX12_jurors_9 : decode cX12_jurors 9 = .ok (.ireturn, 1) := by decide +kernel
theorem dX12_jury_0 : decode cX12_jury 0 = .ok (.aload_n 0, 1) := by decide +kernel
theorem dX12_jury_1 : decode cX12_jury 1 = .ok (.iconst 0, 1) := by decide +kernel
theorem dX12_jury_2 : decode cX12_jury 2 = .ok (.putfield 1, 3) := by decide +kernel
theorem dX12_jury_5 : decode cX12_jury 5 = .ok (.aload_n 0, 1) := by decide +kernel
theorem dX12_jury_6 : decode cX12_jury 6 = .ok (.iload_n 1, 1) := by decide +kernel
theorem dX12_jury_7 : decode cX12_jury 7 = .ok (.invokevirtual 255, 3) := by decide +kernel
theorem dX12_jury_10 : decode cX12_jury 10 = .ok (.ifCond .eq 17, 3) := by decide +kernel
theorem dX12_jury_13 : decode cX12_jury 13 = .ok (.iload_n 2, 1) := by decide +kernel
theorem dX12_jury_14 : decode cX12_jury 14 = .ok (.iconst 1, 1) := by decide +kernel
theorem dX12_jury_15 : decode cX12_jury 15 = .ok (.aload_n 0, 1) := by decide +kernel
theorem dX12_jury_16 : decode cX12_jury 16 = .ok (.getfield 98, 3) := by decide +kernel
theorem dX12_jury_19 : decode cX12_jury 19 = .ok (.iconst 0, 1) := by decide +kernel
theorem dX12_jury_20 : decode cX12_jury 20 = .ok (.iaload, 1) := by decide +kernel
theorem dX12_jury_21 : decode cX12_jury 21 = .ok (.invokestatic 75, 3) := by decide +kernel
theorem dX12_jury_24 : decode cX12_jury 24 = .ok (.ifCond .ne 5, 3) := by decide +kernel
theorem dX12_jury_27 : decode cX12_jury 27 = .ok (.iconst (-1), 1) := by decide +kernel
theorem dX12_jury_28 : decode cX12_jury 28 = .ok (.ireturn, 1) := by decide +kernel
theorem dX12_jury_29 : decode cX12_jury 29 = .ok (.sipush 1000, 3) := by decide +kernel
theorem dX12_jury_32 : decode cX12_jury 32 = .ok (.istore_n 3, 1) := by decide +kernel
theorem dX12_jury_33 : decode cX12_jury 33 = .ok (.iconst 1, 1) := by decide +kernel
theorem dX12_jury_34 : decode cX12_jury 34 = .ok (.istore 4, 2) := by decide +kernel
theorem dX12_jury_36 : decode cX12_jury 36 = .ok (.iload 4, 2) := by decide +kernel
theorem dX12_jury_38 : decode cX12_jury 38 = .ok (.iconst 1, 1) := by decide +kernel
theorem dX12_jury_39 : decode cX12_jury 39 = .ok (.aload_n 0, 1) := by decide +kernel
theorem dX12_jury_40 : decode cX12_jury 40 = .ok (.getfield 98, 3) := by decide +kernel
theorem dX12_jury_43 : decode cX12_jury 43 = .ok (.iconst 0, 1) := by decide +kernel
theorem dX12_jury_44 : decode cX12_jury 44 = .ok (.iaload, 1) := by decide +kernel
theorem dX12_jury_45 : decode cX12_jury 45 = .ok (.ishl, 1) := by decide +kernel
theorem dX12_jury_46 : decode cX12_jury 46 = .ok (.if_icmp .ge 66, 3) := by decide +kernel
theorem dX12_jury_49 : decode cX12_jury 49 = .ok (.iload 4, 2) := by decide +kernel
theorem dX12_jury_51 : decode cX12_jury 51 = .ok (.invokestatic 302, 3) := by decide +kernel
theorem dX12_jury_112 : decode cX12_jury 112 = .ok (.iload_n 3, 1) := by decide +kernel
theorem dX12_jury_113 : decode cX12_jury 113 = .ok (.ireturn, 1) := by decide +kernel
set_option maxRecDepth 20000 in
theorem ggX12_jury_X12_isCase : GoodIn wsX12_jury wsX12_isCase := goodIn_r _ [10, 2, 11, 12, 9, 13, 32, 33, 34, 35, 36, 37, 38, 39, 40, 41, 42, 43, 44, 45, 46, 47, 48, 49, 50, 51, 52, 53, 54, 55, 56, 57, 58, 59, 60, 61, 62, 63, 64, 65, 66, 67, 68, 69, 70, 71, 72, 73, 74, 75, 76, 77, 78, 79] rfl (by decide +kernel)
set_option maxRecDepth 20000 in
theorem gX12_jury_X12_isCase : GoodIn wsX12_jury (wsV RX12 255 RX12 yX12_isCase wsX12_isCase) := goodIn_app (goodIn_of _ (by decide +kernel)) ggX12_jury_X12_isCase
set_option maxRecDepth 20000 in
theorem ggX12_jury_X12_isIn : GoodIn wsX12_jury wsX12_isIn := goodIn_r _ [13] rfl (by decide +kernel)
set_option maxRecDepth 20000 in
theorem gX12_jury_X12_isIn : GoodIn wsX12_jury (va_wsS RX12 75 yX12_isIn wsX12_isIn) := goodIn_app (goodIn_of _ (by decide +kernel)) ggX12_jury_X12_isIn
set_option maxHeartbeats 4000000 in
set_option maxRecDepth 100000 in
theorem s_X12_jurors (l : Launch) (D : va_G) (ca : Nat → ClassId) (sz : Nat) (h0 : Nat) (h0_thrown : Int32) (h0_tape : Nat) (h0_taped : Int32) (h0_size : Int32) (h0_limit : Int32) (h0_to : Int32) (h0_from : Int32) (h0_kind : Int32) (h0_number : Int32) (h0_sign : Int32) (h0_fault : Int32) (h0_place : Int32) (h0_word : Int64) (h0_told : Int32) (h0_now : Nat) (h0_read : Nat) (h0_kept : Nat) (h0_snaps : Nat) (h0_aside : Nat) (h0_name : Nat) (h0_readName : Nat) (h0_keptName : Nat) (h0_isKept : Nat) (h0_onces : Nat) (h0_snapMany : Int32) (h0_lowest : Int32) (h0_highest : Int32) (h0_agreed : Int32) (h0_jurors : Int32) (h0_panelled : Int32) (h0_inSets : Nat) (h0_surely : Int32) (h0_asked : Int32) (h0_frees : Nat) (h0_struck : Int32) (h0_beating : Int32) (h0_text : Nat) (h0_texts : Int32) (h0_seed : Int32) (h0_line : Nat) (h0_written : Nat) (h0_lineMany : Int32) (h0_hasWritten : Int32) (h0_node : Nat) (h0_nodes : Int32) (h0_onesMany : Int32) (h0_within : Int32) (h0_top : Int32) (i_h0_taped : rg 0 940 h0_taped) (i_h0_size : rg 0 940 h0_size) (i_h0_to : rg 0 940 h0_to) (i_h0_snapMany : rg 0 8 h0_snapMany) (i_h0_texts : rg 0 64 h0_texts) (i_h0_lineMany : rg 0 40 h0_lineMany) (i_h0_hasWritten : rg 0 1 h0_hasWritten) : oMet l yX12_jurors wsX12_jurors ({ frames := 0, cells := 0, slots := 0, locals := 0 } : Room) [.ref h0] D ca sz [(h0, .inr (11, [.int h0_thrown, .ref h0_tape, .int h0_taped, .int h0_size, .int h0_limit, .int h0_to, .int h0_from, .int h0_kind, .int h0_number, .int h0_sign, .int h0_fault, .int h0_place, .long h0_word, .int h0_told, .ref h0_now, .ref h0_read, .ref h0_kept, .ref h0_snaps, .ref h0_aside, .ref h0_name, .ref h0_readName, .ref h0_keptName, .ref h0_isKept, .ref h0_onces, .int h0_snapMany, .int h0_lowest, .int h0_highest, .int h0_agreed, .int h0_jurors, .int h0_panelled, .ref h0_inSets, .int h0_surely, .int h0_asked, .ref h0_frees, .int h0_struck, .int h0_beating, .ref h0_text, .int h0_texts, .int h0_seed, .ref h0_line, .ref h0_written, .int h0_lineMany, .int h0_hasWritten, .ref h0_node, .int h0_nodes, .int h0_onesMany, .int h0_within, .int h0_top]))] (oQi D (fun (r : Int32) (u : Unit) => (r = h0_jurors)) (fun (u : Unit) => [(h0, .inr (11, [.int 0, .ref h0_tape, .int h0_taped, .int h0_size, .int h0_limit, .int h0_to, .int h0_from, .int h0_kind, .int h0_number, .int h0_sign, .int h0_fault, .int h0_place, .long h0_word, .int h0_told, .ref h0_now, .ref h0_read, .ref h0_kept, .ref h0_snaps, .ref h0_aside, .ref h0_name, .ref h0_readName, .ref h0_keptName, .ref h0_isKept, .ref h0_onces, .int h0_snapMany, .int h0_lowest, .int h0_highest, .int h0_agreed, .int h0_jurors, .int h0_panelled, .ref h0_inSets, .int h0_surely, .int h0_asked, .ref h0_frees, .int h0_struck, .int h0_beating, .ref h0_text, .int h0_texts, .int h0_seed, .ref h0_line, .ref h0_written, .int h0_lineMany, .int h0_hasWritten, .ref h0_node, .int h0_nodes, .int h0_onesMany, .int h0_within, .int h0_top]))])) 0 0 := by
  refine oM (cc := cX12_jurors) (maxL := 1) (ret := (some .int)) (by decide) rfl (Nat.le_of_ble_eq_true rfl) [(0, .ref h0)] rfl ?_
  intro p e s m below meth c A H locs ls hx hb hr hml hts hown hlocks hin hK hP hD hA hS hl
  have hown : s.vm.findClass RX12 = some m.cls := hown
  have k1 := hts (.fieldLink RX12 1 "LidCourtModel" "thrown" "I") (by decide +kernel)
  have k2 : ∀ w ∈ wsX120, w ∈ wsX12_jurors := fun _ h => List.mem_cons_of_mem _ (List.mem_append_right _ h)
  have k3 := hts (.fieldLink RX12 133 "LidCourtModel" "jurors" "I") (by decide +kernel)
  refine lv_aload_n hx hb dX12_jurors_0 rfl (lv_at hl 0 rfl) ?_
  refine lv_iconst (v := 0) hx hb dX12_jurors_1 (by decide) ?_
  refine va_put (D := D) (ci := 11) (v := .int 0) (ty := .int) (C := RX12) (T := TX12) (N := 48) hx hb hts k2 tyX12 tyX12_ok nmX12 hown hK.1 hP hD hS 0 rfl rfl 0 (by decide) k1 (fun _ h9 => h9) rfl (by decide +kernel) rfl rfl (Nat.le_of_ble_eq_true rfl) dX12_jurors_2 (fun H locs hP hD hS => ?_)
  have hP : va_P D vwCl [(h0, .inr (11, [.int 0, .ref h0_tape, .int h0_taped, .int h0_size, .int h0_limit, .int h0_to, .int h0_from, .int h0_kind, .int h0_number, .int h0_sign, .int h0_fault, .int h0_place, .long h0_word, .int h0_told, .ref h0_now, .ref h0_read, .ref h0_kept, .ref h0_snaps, .ref h0_aside, .ref h0_name, .ref h0_readName, .ref h0_keptName, .ref h0_isKept, .ref h0_onces, .int h0_snapMany, .int h0_lowest, .int h0_highest, .int h0_agreed, .int h0_jurors, .int h0_panelled, .ref h0_inSets, .int h0_surely, .int h0_asked, .ref h0_frees, .int h0_struck, .int h0_beating, .ref h0_text, .int h0_texts, .int h0_seed, .ref h0_line, .ref h0_written, .int h0_lineMany, .int h0_hasWritten, .ref h0_node, .int h0_nodes, .int h0_onesMany, .int h0_within, .int h0_top]))] H := hP
  have hD : va_D A [(h0, .inr (11, [.int 0, .ref h0_tape, .int h0_taped, .int h0_size, .int h0_limit, .int h0_to, .int h0_from, .int h0_kind, .int h0_number, .int h0_sign, .int h0_fault, .int h0_place, .long h0_word, .int h0_told, .ref h0_now, .ref h0_read, .ref h0_kept, .ref h0_snaps, .ref h0_aside, .ref h0_name, .ref h0_readName, .ref h0_keptName, .ref h0_isKept, .ref h0_onces, .int h0_snapMany, .int h0_lowest, .int h0_highest, .int h0_agreed, .int h0_jurors, .int h0_panelled, .ref h0_inSets, .int h0_surely, .int h0_asked, .ref h0_frees, .int h0_struck, .int h0_beating, .ref h0_text, .int h0_texts, .int h0_seed, .ref h0_line, .ref h0_written, .int h0_lineMany, .int h0_hasWritten, .ref h0_node, .int h0_nodes, .int h0_onesMany, .int h0_within, .int h0_top]))] := hD
  refine lv_aload_n hx hb dX12_jurors_5 rfl (lv_at hl 0 rfl) ?_
  refine va_get (D := D) (ci := 11) (v := .int h0_jurors) (C := RX12) (T := TX12) (N := 48) hx hb hts k2 hown hK.1 hP 0 rfl rfl 28 (by decide) k3 (fun _ h9 => h9) rfl dX12_jurors_6 ?_
  exact oE_i hx hb hr rfl hlocks hP hD hS () [0] rfl (by decide) rfl (Nat.le_of_ble_eq_true rfl) (Nat.le_of_ble_eq_true rfl) dX12_jurors_9
theorem dX12_commonLong_0 : decode cX12_commonLong 0 = .ok (.lload_n 0, 1) := by decide +kernel
theorem dX12_commonLong_1 : decode cX12_commonLong 1 = .ok (.lstore 4, 2) := by decide +kernel
theorem dX12_commonLong_3 : decode cX12_commonLong 3 = .ok (.lload_n 2, 1) := by decide +kernel
theorem dX12_commonLong_4 : decode cX12_commonLong 4 = .ok (.lstore 6, 2) := by decide +kernel
theorem dX12_commonLong_6 : decode cX12_commonLong 6 = .ok (.lload 6, 2) := by decide +kernel
theorem dX12_commonLong_8 : decode cX12_commonLong 8 = .ok (.lconst 0, 1) := by decide +kernel
theorem dX12_commonLong_9 : decode cX12_commonLong 9 = .ok (.lcmp, 1) := by decide +kernel
theorem dX12_commonLong_10 : decode cX12_commonLong 10 = .ok (.ifCond .eq 21, 3) := by decide +kernel
theorem dX12_commonLong_13 : decode cX12_commonLong 13 = .ok (.lload 4, 2) := by decide +kernel
theorem dX12_commonLong_15 : decode cX12_commonLong 15 = .ok (.lload 6, 2) := by decide +kernel
theorem dX12_commonLong_17 : decode cX12_commonLong 17 = .ok (.lrem, 1) := by decide +kernel
theorem dX12_commonLong_18 : decode cX12_commonLong 18 = .ok (.lstore 8, 2) := by decide +kernel
theorem dX12_commonLong_20 : decode cX12_commonLong 20 = .ok (.lload 6, 2) := by decide +kernel
theorem dX12_commonLong_22 : decode cX12_commonLong 22 = .ok (.lstore 4, 2) := by decide +kernel
theorem dX12_commonLong_24 : decode cX12_commonLong 24 = .ok (.lload 8, 2) := by decide +kernel
theorem dX12_commonLong_26 : decode cX12_commonLong 26 = .ok (.lstore 6, 2) := by decide +kernel
theorem dX12_commonLong_28 : decode cX12_commonLong 28 = .ok (.goto (-22), 3) := by decide +kernel
theorem dX12_commonLong_31 : decode cX12_commonLong 31 = .ok (.lload 4, 2) := by decide +kernel
theorem dX12_commonLong_33 : decode cX12_commonLong 33 = .ok (.lreturn, 1) := by decide +kernel
theorem dX12_likely_0 : decode cX12_likely 0 = .ok (.aload_n 0, 1) := by decide +kernel
theorem dX12_likely_1 : decode cX12_likely 1 = .ok (.iconst 0, 1) := by decide +kernel
theorem dX12_likely_2 : decode cX12_likely 2 = .ok (.putfield 1, 3) := by decide +kernel
theorem dX12_likely_5 : decode cX12_likely 5 = .ok (.aload_n 0, 1) := by decide +kernel
theorem dX12_likely_6 : decode cX12_likely 6 = .ok (.iload_n 1, 1) := by decide +kernel
theorem dX12_likely_7 : decode cX12_likely 7 = .ok (.invokevirtual 255, 3) := by decide +kernel
theorem dX12_likely_10 : decode cX12_likely 10 = .ok (.ifCond .eq 12, 3) := by decide +kernel
theorem dX12_likely_13 : decode cX12_likely 13 = .ok (.iload_n 2, 1) := by decide +kernel
theorem dX12_likely_14 : decode cX12_likely 14 = .ok (.iconst 0, 1) := by decide +kernel
theorem dX12_likely_15 : decode cX12_likely 15 = .ok (.iconst 1, 1) := by decide +kernel
theorem dX12_likely_16 : decode cX12_likely 16 = .ok (.invokestatic 75, 3) := by decide +kernel
theorem dX12_likely_19 : decode cX12_likely 19 = .ok (.ifCond .ne 9, 3) := by decide +kernel
theorem dX12_likely_28 : decode cX12_likely 28 = .ok (.aload_n 0, 1) := by decide +kernel
theorem dX12_likely_29 : decode cX12_likely 29 = .ok (.aload_n 0, 1) := by decide +kernel
theorem dX12_likely_30 : decode cX12_likely 30 = .ok (.iconst 0, 1) := by decide +kernel
theorem dX12_likely_31 : decode cX12_likely 31 = .ok (.aload_n 0, 1) := by decide +kernel
theorem dX12_likely_32 : decode cX12_likely 32 = .ok (.getfield 98, 3) := by decide +kernel
theorem dX12_likely_35 : decode cX12_likely 35 = .ok (.bipush 90, 2) := by decide +kernel
theorem dX12_likely_37 : decode cX12_likely 37 = .ok (.iaload, 1) := by decide +kernel
theorem dX12_likely_38 : decode cX12_likely 38 = .ok (.iconst 0, 1) := by decide +kernel
theorem dX12_likely_39 : decode cX12_likely 39 = .ok (.aload_n 0, 1) := by decide +kernel
theorem dX12_likely_40 : decode cX12_likely 40 = .ok (.iload_n 1, 1) := by decide +kernel
theorem dX12_likely_41 : decode cX12_likely 41 = .ok (.invokevirtual 258, 3) := by decide +kernel
theorem dX12_likely_44 : decode cX12_likely 44 = .ok (.invokevirtual 305, 3) := by decide +kernel
theorem dX12_likelyFrom_0 : decode cX12_likelyFrom 0 = .ok (.iload_n 2, 1) := by decide +kernel
theorem dX12_likelyFrom_1 : decode cX12_likelyFrom 1 = .ok (.iload_n 1, 1) := by decide +kernel
theorem dX12_likelyFrom_2 : decode cX12_likelyFrom 2 = .ok (.ishr, 1) := by decide +kernel
theorem dX12_likelyFrom_3 : decode cX12_likelyFrom 3 = .ok (.ifCond .ne 19, 3) := by decide +kernel
theorem dX12_likelyFrom_22 : decode cX12_likelyFrom 22 = .ok (.iload_n 2, 1) := by decide +kernel
theorem dX12_likelyFrom_23 : decode cX12_likelyFrom 23 = .ok (.iload_n 1, 1) := by decide +kernel
theorem dX12_likelyFrom_24 : decode cX12_likelyFrom 24 = .ok (.invokestatic 240, 3) := by decide +kernel
theorem dX12_likelyFrom_27 : decode cX12_likelyFrom 27 = .ok (.ifCond .ne 15, 3) := by decide +kernel
theorem dX12_likelyFrom_30 : decode cX12_likelyFrom 30 = .ok (.aload_n 0, 1) := by decide +kernel
theorem dX12_likelyFrom_31 : decode cX12_likelyFrom 31 = .ok (.iload_n 1, 1) := by decide +kernel
theorem dX12_likelyFrom_32 : decode cX12_likelyFrom 32 = .ok (.iconst 1, 1) := by decide +kernel
theorem dX12_likelyFrom_33 : decode cX12_likelyFrom 33 = .ok (.iadd, 1) := by decide +kernel
theorem dX12_likelyFrom_34 : decode cX12_likelyFrom 34 = .ok (.iload_n 2, 1) := by decide +kernel
theorem dX12_likelyFrom_35 : decode cX12_likelyFrom 35 = .ok (.iload_n 3, 1) := by decide +kernel
theorem dX12_likelyFrom_36 : decode cX12_likelyFrom 36 = .ok (.iload 4, 2) := by decide +kernel
theorem dX12_likelyFrom_38 : decode cX12_likelyFrom 38 = .ok (.invokevirtual 305, 3) := by decide +kernel
theorem dX12_panel_0 : decode cX12_panel 0 = .ok (.aload_n 0, 1) := by decide +kernel
theorem dX12_panel_1 : decode cX12_panel 1 = .ok (.iconst 0, 1) := by decide +kernel
theorem dX12_panel_2 : decode cX12_panel 2 = .ok (.putfield 1, 3) := by decide +kernel
theorem dX12_panel_5 : decode cX12_panel 5 = .ok (.aload_n 0, 1) := by decide +kernel
theorem dX12_panel_6 : decode cX12_panel 6 = .ok (.iload_n 1, 1) := by decide +kernel
theorem dX12_panel_7 : decode cX12_panel 7 = .ok (.invokevirtual 255, 3) := by decide +kernel
theorem dX12_panel_10 : decode cX12_panel 10 = .ok (.ifCond .eq 26, 3) := by decide +kernel
theorem dX12_panel_13 : decode cX12_panel 13 = .ok (.iload_n 2, 1) := by decide +kernel
theorem dX12_panel_14 : decode cX12_panel 14 = .ok (.iconst 1, 1) := by decide +kernel
theorem dX12_panel_15 : decode cX12_panel 15 = .ok (.aload_n 0, 1) := by decide +kernel
theorem dX12_panel_16 : decode cX12_panel 16 = .ok (.getfield 98, 3) := by decide +kernel
theorem dX12_panel_19 : decode cX12_panel 19 = .ok (.iconst 0, 1) := by decide +kernel
theorem dX12_panel_20 : decode cX12_panel 20 = .ok (.iaload, 1) := by decide +kernel
theorem dX12_panel_21 : decode cX12_panel 21 = .ok (.invokestatic 75, 3) := by decide +kernel
theorem dX12_panel_24 : decode cX12_panel 24 = .ok (.ifCond .eq 12, 3) := by decide +kernel
theorem dX12_panel_27 : decode cX12_panel 27 = .ok (.iload_n 3, 1) := by decide +kernel
theorem dX12_panel_28 : decode cX12_panel 28 = .ok (.iconst 0, 1) := by decide +kernel
theorem dX12_panel_29 : decode cX12_panel 29 = .ok (.iconst 1, 1) := by decide +kernel
theorem dX12_panel_30 : decode cX12_panel 30 = .ok (.invokestatic 75, 3) := by decide +kernel
theorem dX12_panel_33 : decode cX12_panel 33 = .ok (.ifCond .ne 9, 3) := by decide +kernel
theorem dX12_panel_42 : decode cX12_panel 42 = .ok (.ldc2_w 319, 3) := by decide +kernel
theorem dX12_panel_45 : decode cX12_panel 45 = .ok (.lstore 4, 2) := by decide +kernel
theorem dX12_panel_47 : decode cX12_panel 47 = .ok (.iconst 1, 1) := by decide +kernel
theorem dX12_panel_48 : decode cX12_panel 48 = .ok (.istore 6, 2) := by decide +kernel
theorem dX12_panel_50 : decode cX12_panel 50 = .ok (.iload 6, 2) := by decide +kernel
theorem dX12_panel_52 : decode cX12_panel 52 = .ok (.iconst 1, 1) := by decide +kernel
theorem dX12_panel_53 : decode cX12_panel 53 = .ok (.aload_n 0, 1) := by decide +kernel
theorem dX12_panel_54 : decode cX12_panel 54 = .ok (.getfield 98, 3) := by decide +kernel
theorem dX12_panel_57 : decode cX12_panel 57 = .ok (.iconst 0, 1) := by decide +kernel
theorem dX12_panel_58 : decode cX12_panel 58 = .ok (.iaload, 1) := by decide +kernel
theorem dX12_panel_59 : decode cX12_panel 59 = .ok (.ishl, 1) := by decide +kernel
theorem dX12_panel_60 : decode cX12_panel 60 = .ok (.if_icmp .ge 57, 3) := by decide +kernel
theorem dX12_panel_117 : decode cX12_panel 117 = .ok (.aload_n 0, 1) := by decide +kernel
theorem dX12_panel_118 : decode cX12_panel 118 = .ok (.lload 4, 2) := by decide +kernel
theorem dX12_panel_120 : decode cX12_panel 120 = .ok (.iload_n 2, 1) := by decide +kernel
theorem dX12_panel_121 : decode cX12_panel 121 = .ok (.iload_n 3, 1) := by decide +kernel
theorem dX12_panel_122 : decode cX12_panel 122 = .ok (.invokevirtual 315, 3) := by decide +kernel
theorem dX12_panelled_0 : decode cX12_panelled 0 = .ok (.aload_n 0, 1) := by decide +kernel
theorem dX12_panelled_1 : decode cX12_panelled 1 = .ok (.iconst 0, 1) := by decide +kernel
theorem dX12_panelled_2 : decode cX12_panelled 2 = .ok (.putfield 1, 3) := by decide +kernel
theorem dX12_panelled_5 : decode cX12_panelled 5 = .ok (.aload_n 0, 1) := by decide +kernel
theorem dX12_panelled_6 : decode cX12_panelled 6 = .ok (.getfield 136, 3) := by decide +kernel
theorem dX12_panelled_9 : decode cX12_panelled 9 = .ok (.ireturn, 1) := by decide +kernel
theorem dX12_tellPart_0 : decode cX12_tellPart 0 = .ok (.lconst 1, 1) := by decide +kernel
theorem dX12_tellPart_1 : decode cX12_tellPart 1 = .ok (.lstore 5, 2) := by decide +kernel
theorem dX12_tellPart_3 : decode cX12_tellPart 3 = .ok (.iconst 0, 1) := by decide +kernel
theorem dX12_tellPart_4 : decode cX12_tellPart 4 = .ok (.istore 7, 2) := by decide +kernel
theorem dX12_tellPart_6 : decode cX12_tellPart 6 = .ok (.iload 7, 2) := by decide +kernel
theorem dX12_tellPart_8 : decode cX12_tellPart 8 = .ok (.iload_n 3, 1) := by decide +kernel
theorem dX12_tellPart_9 : decode cX12_tellPart 9 = .ok (.if_icmp .ge 17, 3) := by decide +kernel
theorem dX12_tellPart_26 : decode cX12_tellPart 26 = .ok (.lload 5, 2) := by decide +kernel
theorem dX12_tellPart_28 : decode cX12_tellPart 28 = .ok (.lload_n 1, 1) := by decide +kernel
theorem dX12_tellPart_29 : decode cX12_tellPart 29 = .ok (.invokestatic 311, 3) := by decide +kernel
set_option maxRecDepth 20000 in
theorem ggX12_likelyFrom_X12_has : GoodIn wsX12_likelyFrom wsX12_has := goodIn_r _ [19] rfl (by decide +kernel)
set_option maxRecDepth 20000 in
theorem gX12_likelyFrom_X12_has : GoodIn wsX12_likelyFrom (va_wsS RX12 240 yX12_has wsX12_has) := goodIn_app (goodIn_of _ (by decide +kernel)) ggX12_likelyFrom_X12_has
set_option maxRecDepth 20000 in
theorem ggX12_likely_X12_isCase : GoodIn wsX12_likely wsX12_isCase := goodIn_r _ [7, 2, 8, 9, 6, 10, 55, 56, 57, 58, 59, 60, 61, 62, 63, 64, 65, 66, 67, 68, 69, 70, 71, 72, 73, 74, 75, 76, 77, 78, 79, 80, 81, 82, 83, 84, 85, 86, 87, 88, 89, 90, 91, 92, 93, 94, 95, 96, 97, 98, 99, 100, 101, 102] rfl (by decide +kernel)
set_option maxRecDepth 20000 in
theorem gX12_likely_X12_isCase : GoodIn wsX12_likely (wsV RX12 255 RX12 yX12_isCase wsX12_isCase) := goodIn_app (goodIn_of _ (by decide +kernel)) ggX12_likely_X12_isCase
set_option maxRecDepth 20000 in
theorem ggX12_likely_X12_isIn : GoodIn wsX12_likely wsX12_isIn := goodIn_r _ [10] rfl (by decide +kernel)
set_option maxRecDepth 20000 in
theorem gX12_likely_X12_isIn : GoodIn wsX12_likely (va_wsS RX12 75 yX12_isIn wsX12_isIn) := goodIn_app (goodIn_of _ (by decide +kernel)) ggX12_likely_X12_isIn
set_option maxRecDepth 20000 in
theorem ggX12_likely_X12_floorOf : GoodIn wsX12_likely wsX12_floorOf := goodIn_r _ [18, 2, 55, 56, 57, 58, 59, 60, 61, 62, 63, 64, 65, 66, 67, 68, 69, 70, 71, 72, 73, 74, 75, 76, 77, 78, 79, 80, 81, 82, 83, 84, 85, 86, 87, 88, 89, 90, 91, 92, 93, 94, 95, 96, 97, 98, 99, 100, 101, 102] rfl (by decide +kernel)
set_option maxRecDepth 20000 in
theorem gX12_likely_X12_floorOf : GoodIn wsX12_likely (wsV RX12 258 RX12 yX12_floorOf wsX12_floorOf) := goodIn_app (goodIn_of _ (by decide +kernel)) ggX12_likely_X12_floorOf
set_option maxRecDepth 20000 in
theorem ggX12_panel_X12_isCase : GoodIn wsX12_panel wsX12_isCase := goodIn_r _ [9, 2, 10, 11, 8, 12, 57, 58, 59, 60, 61, 62, 63, 64, 65, 66, 67, 68, 69, 70, 71, 72, 73, 74, 75, 76, 77, 78, 79, 80, 81, 82, 83, 84, 85, 86, 87, 88, 89, 90, 91, 92, 93, 94, 95, 96, 97, 98, 99, 100, 101, 102, 103, 104] rfl (by decide +kernel)
set_option maxRecDepth 20000 in
theorem gX12_panel_X12_isCase : GoodIn wsX12_panel (wsV RX12 255 RX12 yX12_isCase wsX12_isCase) := goodIn_app (goodIn_of _ (by decide +kernel)) ggX12_panel_X12_isCase
set_option maxRecDepth 20000 in
theorem ggX12_panel_X12_isIn : GoodIn wsX12_panel wsX12_isIn := goodIn_r _ [12] rfl (by decide +kernel)
set_option maxRecDepth 20000 in
theorem gX12_panel_X12_isIn : GoodIn wsX12_panel (va_wsS RX12 75 yX12_isIn wsX12_isIn) := goodIn_app (goodIn_of _ (by decide +kernel)) ggX12_panel_X12_isIn
set_option maxHeartbeats 4000000 in
set_option maxRecDepth 100000 in
theorem s_X12_panelled (l : Launch) (D : va_G) (ca : Nat → ClassId) (sz : Nat) (h0 : Nat) (h0_thrown : Int32) (h0_tape : Nat) (h0_taped : Int32) (h0_size : Int32) (h0_limit : Int32) (h0_to : Int32) (h0_from : Int32) (h0_kind : Int32) (h0_number : Int32) (h0_sign : Int32) (h0_fault : Int32) (h0_place : Int32) (h0_word : Int64) (h0_told : Int32) (h0_now : Nat) (h0_read : Nat) (h0_kept : Nat) (h0_snaps : Nat) (h0_aside : Nat) (h0_name : Nat) (h0_readName : Nat) (h0_keptName : Nat) (h0_isKept : Nat) (h0_onces : Nat) (h0_snapMany : Int32) (h0_lowest : Int32) (h0_highest : Int32) (h0_agreed : Int32) (h0_jurors : Int32) (h0_panelled : Int32) (h0_inSets : Nat) (h0_surely : Int32) (h0_asked : Int32) (h0_frees : Nat) (h0_struck : Int32) (h0_beating : Int32) (h0_text : Nat) (h0_texts : Int32) (h0_seed : Int32) (h0_line : Nat) (h0_written : Nat) (h0_lineMany : Int32) (h0_hasWritten : Int32) (h0_node : Nat) (h0_nodes : Int32) (h0_onesMany : Int32) (h0_within : Int32) (h0_top : Int32) (i_h0_taped : rg 0 940 h0_taped) (i_h0_size : rg 0 940 h0_size) (i_h0_to : rg 0 940 h0_to) (i_h0_snapMany : rg 0 8 h0_snapMany) (i_h0_texts : rg 0 64 h0_texts) (i_h0_lineMany : rg 0 40 h0_lineMany) (i_h0_hasWritten : rg 0 1 h0_hasWritten) : oMet l yX12_panelled wsX12_panelled ({ frames := 0, cells := 0, slots := 0, locals := 0 } : Room) [.ref h0] D ca sz [(h0, .inr (11, [.int h0_thrown, .ref h0_tape, .int h0_taped, .int h0_size, .int h0_limit, .int h0_to, .int h0_from, .int h0_kind, .int h0_number, .int h0_sign, .int h0_fault, .int h0_place, .long h0_word, .int h0_told, .ref h0_now, .ref h0_read, .ref h0_kept, .ref h0_snaps, .ref h0_aside, .ref h0_name, .ref h0_readName, .ref h0_keptName, .ref h0_isKept, .ref h0_onces, .int h0_snapMany, .int h0_lowest, .int h0_highest, .int h0_agreed, .int h0_jurors, .int h0_panelled, .ref h0_inSets, .int h0_surely, .int h0_asked, .ref h0_frees, .int h0_struck, .int h0_beating, .ref h0_text, .int h0_texts, .int h0_seed, .ref h0_line, .ref h0_written, .int h0_lineMany, .int h0_hasWritten, .ref h0_node, .int h0_nodes, .int h0_onesMany, .int h0_within, .int h0_top]))] (oQi D (fun (r : Int32) (u : Unit) => (r = h0_panelled)) (fun (u : Unit) => [(h0, .inr (11, [.int 0, .ref h0_tape, .int h0_taped, .int h0_size, .int h0_limit, .int h0_to, .int h0_from, .int h0_kind, .int h0_number, .int h0_sign, .int h0_fault, .int h0_place, .long h0_word, .int h0_told, .ref h0_now, .ref h0_read, .ref h0_kept, .ref h0_snaps, .ref h0_aside, .ref h0_name, .ref h0_readName, .ref h0_keptName, .ref h0_isKept, .ref h0_onces, .int h0_snapMany, .int h0_lowest, .int h0_highest, .int h0_agreed, .int h0_jurors, .int h0_panelled, .ref h0_inSets, .int h0_surely, .int h0_asked, .ref h0_frees, .int h0_struck, .int h0_beating, .ref h0_text, .int h0_texts, .int h0_seed, .ref h0_line, .ref h0_written, .int h0_lineMany, .int h0_hasWritten, .ref h0_node, .int h0_nodes, .int h0_onesMany, .int h0_within, .int h0_top]))])) 0 0 := by
  refine oM (cc := cX12_panelled) (maxL := 1) (ret := (some .int)) (by decide) rfl (Nat.le_of_ble_eq_true rfl) [(0, .ref h0)] rfl ?_
  intro p e s m below meth c A H locs ls hx hb hr hml hts hown hlocks hin hK hP hD hA hS hl
  have hown : s.vm.findClass RX12 = some m.cls := hown
  have k1 := hts (.fieldLink RX12 1 "LidCourtModel" "thrown" "I") (by decide +kernel)
  have k2 : ∀ w ∈ wsX120, w ∈ wsX12_panelled := fun _ h => List.mem_cons_of_mem _ (List.mem_append_right _ h)
  have k3 := hts (.fieldLink RX12 136 "LidCourtModel" "panelled" "I") (by decide +kernel)
  refine lv_aload_n hx hb dX12_panelled_0 rfl (lv_at hl 0 rfl) ?_
  refine lv_iconst (v := 0) hx hb dX12_panelled_1 (by decide) ?_
  refine va_put (D := D) (ci := 11) (v := .int 0) (ty := .int) (C := RX12) (T := TX12) (N := 48) hx hb hts k2 tyX12 tyX12_ok nmX12 hown hK.1 hP hD hS 0 rfl rfl 0 (by decide) k1 (fun _ h9 => h9) rfl (by decide +kernel) rfl rfl (Nat.le_of_ble_eq_true rfl) dX12_panelled_2 (fun H locs hP hD hS => ?_)
  have hP : va_P D vwCl [(h0, .inr (11, [.int 0, .ref h0_tape, .int h0_taped, .int h0_size, .int h0_limit, .int h0_to, .int h0_from, .int h0_kind, .int h0_number, .int h0_sign, .int h0_fault, .int h0_place, .long h0_word, .int h0_told, .ref h0_now, .ref h0_read, .ref h0_kept, .ref h0_snaps, .ref h0_aside, .ref h0_name, .ref h0_readName, .ref h0_keptName, .ref h0_isKept, .ref h0_onces, .int h0_snapMany, .int h0_lowest, .int h0_highest, .int h0_agreed, .int h0_jurors, .int h0_panelled, .ref h0_inSets, .int h0_surely, .int h0_asked, .ref h0_frees, .int h0_struck, .int h0_beating, .ref h0_text, .int h0_texts, .int h0_seed, .ref h0_line, .ref h0_written, .int h0_lineMany, .int h0_hasWritten, .ref h0_node, .int h0_nodes, .int h0_onesMany, .int h0_within, .int h0_top]))] H := hP
  have hD : va_D A [(h0, .inr (11, [.int 0, .ref h0_tape, .int h0_taped, .int h0_size, .int h0_limit, .int h0_to, .int h0_from, .int h0_kind, .int h0_number, .int h0_sign, .int h0_fault, .int h0_place, .long h0_word, .int h0_told, .ref h0_now, .ref h0_read, .ref h0_kept, .ref h0_snaps, .ref h0_aside, .ref h0_name, .ref h0_readName, .ref h0_keptName, .ref h0_isKept, .ref h0_onces, .int h0_snapMany, .int h0_lowest, .int h0_highest, .int h0_agreed, .int h0_jurors, .int h0_panelled, .ref h0_inSets, .int h0_surely, .int h0_asked, .ref h0_frees, .int h0_struck, .int h0_beating, .ref h0_text, .int h0_texts, .int h0_seed, .ref h0_line, .ref h0_written, .int h0_lineMany, .int h0_hasWritten, .ref h0_node, .int h0_nodes, .int h0_onesMany, .int h0_within, .int h0_top]))] := hD
  refine lv_aload_n hx hb dX12_panelled_5 rfl (lv_at hl 0 rfl) ?_
  refine va_get (D := D) (ci := 11) (v := .int h0_panelled) (C := RX12) (T := TX12) (N := 48) hx hb hts k2 hown hK.1 hP 0 rfl rfl 29 (by decide) k3 (fun _ h9 => h9) rfl dX12_panelled_6 ?_
  exact oE_i hx hb hr rfl hlocks hP hD hS () [0] rfl (by decide) rfl (Nat.le_of_ble_eq_true rfl) (Nat.le_of_ble_eq_true rfl) dX12_panelled_9
theorem dX12_size_0 : decode cX12_size 0 = .ok (.iload_n 0, 1) := by decide +kernel
theorem dX12_size_1 : decode cX12_size 1 = .ok (.ifCond .ge 8, 3) := by decide +kernel
theorem dX12_size_4 : decode cX12_size 4 = .ok (.iload_n 0, 1) := by decide +kernel
theorem dX12_size_5 : decode cX12_size 5 = .ok (.ineg, 1) := by decide +kernel
theorem dX12_size_6 : decode cX12_size 6 = .ok (.goto 4, 3) := by decide +kernel
theorem dX12_size_9 : decode cX12_size 9 = .ok (.iload_n 0, 1) := by decide +kernel
theorem dX12_size_10 : decode cX12_size 10 = .ok (.ireturn, 1) := by decide +kernel
set_option maxHeartbeats 4000000 in
set_option maxRecDepth 100000 in
theorem s_X12_size (l : Launch) (D : va_G) (ca : Nat → ClassId) (sz : Nat) (a1 : Int32)  : oMet l yX12_size wsX12_size ({ frames := 0, cells := 0, slots := 0, locals := 0 } : Room) [.int a1] D ca sz [] (oQi D (fun (r : Int32) (u : Unit) => True) (fun (u : Unit) => [])) 0 0 := by
  refine oM (cc := cX12_size) (maxL := 1) (ret := (some .int)) (by decide) rfl (Nat.le_of_ble_eq_true rfl) [(0, .int a1)] rfl ?_
  intro p e s m below meth c A H locs ls hx hb hr hml hts hown hlocks hin hK hP hD hA hS hl
  have hown : s.vm.findClass RX12 = some m.cls := hown
  refine lv_iload_n hx hb dX12_size_0 rfl (lv_at hl 0 rfl) ?_
  refine lv_if_ge (tgt := 9) hx hb dX12_size_1 (by decide) (fun c_7 => ?_) (fun c_7 => ?_)
  · skip
    have o_8 : rl 0 0 a1 := rl_le c_7
    have h_9 : rg 0 2147483647 a1 := rl_y o_8 (⟨by decide, by decide⟩ : rg 0 0 (0 : Int32)) (rga a1) (by decide) (by decide)
    refine lv_iload_n hx hb dX12_size_9 rfl (lv_at hl 0 rfl) ?_
    exact oE_i hx hb hr rfl hlocks hP hD hS () [] rfl (by decide) trivial (Nat.le_of_ble_eq_true rfl) (Nat.le_of_ble_eq_true rfl) dX12_size_10
  · skip
    have o_10 : rl 1 a1 0 := rl_nle c_7
    have h_11 : rg (-2147483648) (-1) a1 := rl_x o_10 (rga a1) (⟨by decide, by decide⟩ : rg 0 0 (0 : Int32)) (by decide) (by decide)
    refine lv_iload_n hx hb dX12_size_4 rfl (lv_at hl 0 rfl) ?_
    refine lv_ineg hx hb dX12_size_5 ?_
    refine lv_topi (fun x_12 ex_12 => ?_)
    refine lv_goto (tgt := 10) hx hb dX12_size_6 (by decide) ?_
    exact oE_i hx hb hr rfl hlocks hP hD hS () [] rfl (by decide) trivial (Nat.le_of_ble_eq_true rfl) (Nat.le_of_ble_eq_true rfl) dX12_size_10
theorem dX12_heard_0 : decode cX12_heard 0 = .ok (.aload_n 0, 1) := by decide +kernel
theorem dX12_heard_1 : decode cX12_heard 1 = .ok (.iconst 0, 1) := by decide +kernel
theorem dX12_heard_2 : decode cX12_heard 2 = .ok (.putfield 1, 3) := by decide +kernel
theorem dX12_heard_5 : decode cX12_heard 5 = .ok (.aload_n 0, 1) := by decide +kernel
theorem dX12_heard_6 : decode cX12_heard 6 = .ok (.invokevirtual 89, 3) := by decide +kernel
theorem dX12_heard_9 : decode cX12_heard 9 = .ok (.iconst 3, 1) := by decide +kernel
theorem dX12_heard_10 : decode cX12_heard 10 = .ok (.if_icmp .ne 16, 3) := by decide +kernel
theorem dX12_heard_13 : decode cX12_heard 13 = .ok (.aload_n 0, 1) := by decide +kernel
theorem dX12_heard_14 : decode cX12_heard 14 = .ok (.aload_n 0, 1) := by decide +kernel
theorem dX12_heard_15 : decode cX12_heard 15 = .ok (.getfield 7, 3) := by decide +kernel
theorem dX12_heard_18 : decode cX12_heard 18 = .ok (.iconst 0, 1) := by decide +kernel
theorem dX12_heard_19 : decode cX12_heard 19 = .ok (.iaload, 1) := by decide +kernel
theorem dX12_heard_20 : decode cX12_heard 20 = .ok (.invokevirtual 261, 3) := by decide +kernel
theorem dX12_heard_23 : decode cX12_heard 23 = .ok (.ifCond .ne 5, 3) := by decide +kernel
theorem dX12_heard_26 : decode cX12_heard 26 = .ok (.iconst (-1), 1) := by decide +kernel
theorem dX12_heard_27 : decode cX12_heard 27 = .ok (.ireturn, 1) := by decide +kernel
theorem dX12_heard_28 : decode cX12_heard 28 = .ok (.iconst 0, 1) := by decide +kernel
theorem dX12_heard_29 : decode cX12_heard 29 = .ok (.istore_n 1, 1) := by decide +kernel
theorem dX12_heard_30 : decode cX12_heard 30 = .ok (.iload_n 1, 1) := by decide +kernel
theorem dX12_heard_31 : decode cX12_heard 31 = .ok (.bipush 10, 2) := by decide +kernel
theorem dX12_heard_33 : decode cX12_heard 33 = .ok (.if_icmp .ge 16, 3) := by decide +kernel
theorem dX12_heard_36 : decode cX12_heard 36 = .ok (.aload_n 0, 1) := by decide +kernel
theorem dX12_heard_37 : decode cX12_heard 37 = .ok (.getfield 139, 3) := by decide +kernel
theorem dX12_heard_40 : decode cX12_heard 40 = .ok (.iload_n 1, 1) := by decide +kernel
theorem dX12_heard_41 : decode cX12_heard 41 = .ok (.iconst 0, 1) := by decide +kernel
theorem dX12_heard_42 : decode cX12_heard 42 = .ok (.iastore, 1) := by decide +kernel
theorem dX12_heard_43 : decode cX12_heard 43 = .ok (.iinc 1 1, 3) := by decide +kernel
theorem dX12_heard_46 : decode cX12_heard 46 = .ok (.goto (-16), 3) := by decide +kernel
theorem dX12_heard_49 : decode cX12_heard 49 = .ok (.iconst 0, 1) := by decide +kernel
theorem dX12_heard_50 : decode cX12_heard 50 = .ok (.istore_n 1, 1) := by decide +kernel
theorem dX12_heard_51 : decode cX12_heard 51 = .ok (.aload_n 0, 1) := by decide +kernel
theorem dX12_heard_52 : decode cX12_heard 52 = .ok (.getfield 98, 3) := by decide +kernel
theorem dX12_heard_55 : decode cX12_heard 55 = .ok (.bipush 90, 2) := by decide +kernel
theorem dX12_heard_57 : decode cX12_heard 57 = .ok (.iaload, 1) := by decide +kernel
theorem dX12_heard_58 : decode cX12_heard 58 = .ok (.istore_n 2, 1) := by decide +kernel
theorem dX12_heard_59 : decode cX12_heard 59 = .ok (.iconst 1, 1) := by decide +kernel
theorem dX12_heard_60 : decode cX12_heard 60 = .ok (.istore_n 3, 1) := by decide +kernel
theorem dX12_heard_61 : decode cX12_heard 61 = .ok (.iload_n 3, 1) := by decide +kernel
theorem dX12_heard_62 : decode cX12_heard 62 = .ok (.aload_n 0, 1) := by decide +kernel
theorem dX12_heard_63 : decode cX12_heard 63 = .ok (.getfield 98, 3) := by decide +kernel
theorem dX12_heard_66 : decode cX12_heard 66 = .ok (.bipush 90, 2) := by decide +kernel
theorem dX12_heard_68 : decode cX12_heard 68 = .ok (.iaload, 1) := by decide +kernel
theorem dX12_heard_69 : decode cX12_heard 69 = .ok (.if_icmp .gt 111, 3) := by decide +kernel
theorem dX12_heard_72 : decode cX12_heard 72 = .ok (.iload_n 3, 1) := by decide +kernel
theorem dX12_heard_73 : decode cX12_heard 73 = .ok (.aload_n 0, 1) := by decide +kernel
theorem dX12_heard_74 : decode cX12_heard 74 = .ok (.getfield 98, 3) := by decide +kernel
theorem dX12_heard_77 : decode cX12_heard 77 = .ok (.bipush 90, 2) := by decide +kernel
theorem dX12_heard_79 : decode cX12_heard 79 = .ok (.iaload, 1) := by decide +kernel
theorem dX12_heard_80 : decode cX12_heard 80 = .ok (.iconst (-1), 1) := by decide +kernel
theorem dX12_heard_81 : decode cX12_heard 81 = .ok (.ixor, 1) := by decide +kernel
theorem dX12_heard_82 : decode cX12_heard 82 = .ok (.iand, 1) := by decide +kernel
theorem dX12_heard_83 : decode cX12_heard 83 = .ok (.ifCond .eq 6, 3) := by decide +kernel
theorem dX12_heard_89 : decode cX12_heard 89 = .ok (.aload_n 0, 1) := by decide +kernel
theorem dX12_heard_90 : decode cX12_heard 90 = .ok (.iload_n 3, 1) := by decide +kernel
theorem dX12_heard_91 : decode cX12_heard 91 = .ok (.aload_n 0, 1) := by decide +kernel
theorem dX12_heard_92 : decode cX12_heard 92 = .ok (.getfield 7, 3) := by decide +kernel
theorem dX12_heard_95 : decode cX12_heard 95 = .ok (.iconst 0, 1) := by decide +kernel
theorem dX12_heard_96 : decode cX12_heard 96 = .ok (.iaload, 1) := by decide +kernel
theorem dX12_heard_97 : decode cX12_heard 97 = .ok (.iconst 0, 1) := by decide +kernel
theorem dX12_heard_98 : decode cX12_heard 98 = .ok (.invokevirtual 243, 3) := by decide +kernel
theorem dX12_heard_180 : decode cX12_heard 180 = .ok (.iload_n 1, 1) := by decide +kernel
theorem dX12_heard_181 : decode cX12_heard 181 = .ok (.ifCond .ne 5, 3) := by decide +kernel
theorem dX12_heard_184 : decode cX12_heard 184 = .ok (.iconst 0, 1) := by decide +kernel
theorem dX12_heard_185 : decode cX12_heard 185 = .ok (.ireturn, 1) := by decide +kernel
theorem dX12_surely_0 : decode cX12_surely 0 = .ok (.aload_n 0, 1) := by decide +kernel
theorem dX12_surely_1 : decode cX12_surely 1 = .ok (.iconst 0, 1) := by decide +kernel
theorem dX12_surely_2 : decode cX12_surely 2 = .ok (.putfield 1, 3) := by decide +kernel
theorem dX12_surely_5 : decode cX12_surely 5 = .ok (.aload_n 0, 1) := by decide +kernel
theorem dX12_surely_6 : decode cX12_surely 6 = .ok (.getfield 142, 3) := by decide +kernel
theorem dX12_surely_9 : decode cX12_surely 9 = .ok (.ireturn, 1) := by decide +kernel
set_option maxRecDepth 20000 in
theorem ggX12_heard_X12_take : GoodIn wsX12_heard wsX12_take := goodIn_r _ [13, 14, 36, 37, 38, 39, 40, 41, 42, 43, 44, 45, 46, 47, 48, 49, 50, 51, 52, 53, 54, 55, 56, 57, 58, 59, 60, 61, 62, 63, 64, 65, 66, 67, 68, 69, 70, 71, 72, 73, 74, 75, 76, 77, 78, 79, 80, 81, 82, 83] rfl (by decide +kernel)
set_option maxRecDepth 20000 in
theorem gX12_heard_X12_take : GoodIn wsX12_heard (wsV RX12 89 RX12 yX12_take wsX12_take) := goodIn_app (goodIn_of _ (by decide +kernel)) ggX12_heard_X12_take
set_option maxRecDepth 20000 in
theorem ggX12_heard_X12_isFloor : GoodIn wsX12_heard wsX12_isFloor := goodIn_r _ [18, 4, 19, 20, 12, 21, 36, 37, 38, 39, 40, 41, 42, 43, 44, 45, 46, 47, 48, 49, 50, 51, 52, 53, 54, 55, 56, 57, 58, 59, 60, 61, 62, 63, 64, 65, 66, 67, 68, 69, 70, 71, 72, 73, 74, 75, 76, 77, 78, 79, 80, 81, 82, 83] rfl (by decide +kernel)
set_option maxRecDepth 20000 in
theorem gX12_heard_X12_isFloor : GoodIn wsX12_heard (wsV RX12 261 RX12 yX12_isFloor wsX12_isFloor) := goodIn_app (goodIn_of _ (by decide +kernel)) ggX12_heard_X12_isFloor
set_option maxHeartbeats 4000000 in
set_option maxRecDepth 100000 in
theorem s_X12_surely (l : Launch) (D : va_G) (ca : Nat → ClassId) (sz : Nat) (h0 : Nat) (h0_thrown : Int32) (h0_tape : Nat) (h0_taped : Int32) (h0_size : Int32) (h0_limit : Int32) (h0_to : Int32) (h0_from : Int32) (h0_kind : Int32) (h0_number : Int32) (h0_sign : Int32) (h0_fault : Int32) (h0_place : Int32) (h0_word : Int64) (h0_told : Int32) (h0_now : Nat) (h0_read : Nat) (h0_kept : Nat) (h0_snaps : Nat) (h0_aside : Nat) (h0_name : Nat) (h0_readName : Nat) (h0_keptName : Nat) (h0_isKept : Nat) (h0_onces : Nat) (h0_snapMany : Int32) (h0_lowest : Int32) (h0_highest : Int32) (h0_agreed : Int32) (h0_jurors : Int32) (h0_panelled : Int32) (h0_inSets : Nat) (h0_surely : Int32) (h0_asked : Int32) (h0_frees : Nat) (h0_struck : Int32) (h0_beating : Int32) (h0_text : Nat) (h0_texts : Int32) (h0_seed : Int32) (h0_line : Nat) (h0_written : Nat) (h0_lineMany : Int32) (h0_hasWritten : Int32) (h0_node : Nat) (h0_nodes : Int32) (h0_onesMany : Int32) (h0_within : Int32) (h0_top : Int32) (i_h0_taped : rg 0 940 h0_taped) (i_h0_size : rg 0 940 h0_size) (i_h0_to : rg 0 940 h0_to) (i_h0_snapMany : rg 0 8 h0_snapMany) (i_h0_texts : rg 0 64 h0_texts) (i_h0_lineMany : rg 0 40 h0_lineMany) (i_h0_hasWritten : rg 0 1 h0_hasWritten) : oMet l yX12_surely wsX12_surely ({ frames := 0, cells := 0, slots := 0, locals := 0 } : Room) [.ref h0] D ca sz [(h0, .inr (11, [.int h0_thrown, .ref h0_tape, .int h0_taped, .int h0_size, .int h0_limit, .int h0_to, .int h0_from, .int h0_kind, .int h0_number, .int h0_sign, .int h0_fault, .int h0_place, .long h0_word, .int h0_told, .ref h0_now, .ref h0_read, .ref h0_kept, .ref h0_snaps, .ref h0_aside, .ref h0_name, .ref h0_readName, .ref h0_keptName, .ref h0_isKept, .ref h0_onces, .int h0_snapMany, .int h0_lowest, .int h0_highest, .int h0_agreed, .int h0_jurors, .int h0_panelled, .ref h0_inSets, .int h0_surely, .int h0_asked, .ref h0_frees, .int h0_struck, .int h0_beating, .ref h0_text, .int h0_texts, .int h0_seed, .ref h0_line, .ref h0_written, .int h0_lineMany, .int h0_hasWritten, .ref h0_node, .int h0_nodes, .int h0_onesMany, .int h0_within, .int h0_top]))] (oQi D (fun (r : Int32) (u : Unit) => (r = h0_surely)) (fun (u : Unit) => [(h0, .inr (11, [.int 0, .ref h0_tape, .int h0_taped, .int h0_size, .int h0_limit, .int h0_to, .int h0_from, .int h0_kind, .int h0_number, .int h0_sign, .int h0_fault, .int h0_place, .long h0_word, .int h0_told, .ref h0_now, .ref h0_read, .ref h0_kept, .ref h0_snaps, .ref h0_aside, .ref h0_name, .ref h0_readName, .ref h0_keptName, .ref h0_isKept, .ref h0_onces, .int h0_snapMany, .int h0_lowest, .int h0_highest, .int h0_agreed, .int h0_jurors, .int h0_panelled, .ref h0_inSets, .int h0_surely, .int h0_asked, .ref h0_frees, .int h0_struck, .int h0_beating, .ref h0_text, .int h0_texts, .int h0_seed, .ref h0_line, .ref h0_written, .int h0_lineMany, .int h0_hasWritten, .ref h0_node, .int h0_nodes, .int h0_onesMany, .int h0_within, .int h0_top]))])) 0 0 := by
  refine oM (cc := cX12_surely) (maxL := 1) (ret := (some .int)) (by decide) rfl (Nat.le_of_ble_eq_true rfl) [(0, .ref h0)] rfl ?_
  intro p e s m below meth c A H locs ls hx hb hr hml hts hown hlocks hin hK hP hD hA hS hl
  have hown : s.vm.findClass RX12 = some m.cls := hown
  have k1 := hts (.fieldLink RX12 1 "LidCourtModel" "thrown" "I") (by decide +kernel)
  have k2 : ∀ w ∈ wsX120, w ∈ wsX12_surely := fun _ h => List.mem_cons_of_mem _ (List.mem_append_right _ h)
  have k3 := hts (.fieldLink RX12 142 "LidCourtModel" "surely" "I") (by decide +kernel)
  refine lv_aload_n hx hb dX12_surely_0 rfl (lv_at hl 0 rfl) ?_
  refine lv_iconst (v := 0) hx hb dX12_surely_1 (by decide) ?_
  refine va_put (D := D) (ci := 11) (v := .int 0) (ty := .int) (C := RX12) (T := TX12) (N := 48) hx hb hts k2 tyX12 tyX12_ok nmX12 hown hK.1 hP hD hS 0 rfl rfl 0 (by decide) k1 (fun _ h9 => h9) rfl (by decide +kernel) rfl rfl (Nat.le_of_ble_eq_true rfl) dX12_surely_2 (fun H locs hP hD hS => ?_)
  have hP : va_P D vwCl [(h0, .inr (11, [.int 0, .ref h0_tape, .int h0_taped, .int h0_size, .int h0_limit, .int h0_to, .int h0_from, .int h0_kind, .int h0_number, .int h0_sign, .int h0_fault, .int h0_place, .long h0_word, .int h0_told, .ref h0_now, .ref h0_read, .ref h0_kept, .ref h0_snaps, .ref h0_aside, .ref h0_name, .ref h0_readName, .ref h0_keptName, .ref h0_isKept, .ref h0_onces, .int h0_snapMany, .int h0_lowest, .int h0_highest, .int h0_agreed, .int h0_jurors, .int h0_panelled, .ref h0_inSets, .int h0_surely, .int h0_asked, .ref h0_frees, .int h0_struck, .int h0_beating, .ref h0_text, .int h0_texts, .int h0_seed, .ref h0_line, .ref h0_written, .int h0_lineMany, .int h0_hasWritten, .ref h0_node, .int h0_nodes, .int h0_onesMany, .int h0_within, .int h0_top]))] H := hP
  have hD : va_D A [(h0, .inr (11, [.int 0, .ref h0_tape, .int h0_taped, .int h0_size, .int h0_limit, .int h0_to, .int h0_from, .int h0_kind, .int h0_number, .int h0_sign, .int h0_fault, .int h0_place, .long h0_word, .int h0_told, .ref h0_now, .ref h0_read, .ref h0_kept, .ref h0_snaps, .ref h0_aside, .ref h0_name, .ref h0_readName, .ref h0_keptName, .ref h0_isKept, .ref h0_onces, .int h0_snapMany, .int h0_lowest, .int h0_highest, .int h0_agreed, .int h0_jurors, .int h0_panelled, .ref h0_inSets, .int h0_surely, .int h0_asked, .ref h0_frees, .int h0_struck, .int h0_beating, .ref h0_text, .int h0_texts, .int h0_seed, .ref h0_line, .ref h0_written, .int h0_lineMany, .int h0_hasWritten, .ref h0_node, .int h0_nodes, .int h0_onesMany, .int h0_within, .int h0_top]))] := hD
  refine lv_aload_n hx hb dX12_surely_5 rfl (lv_at hl 0 rfl) ?_
  refine va_get (D := D) (ci := 11) (v := .int h0_surely) (C := RX12) (T := TX12) (N := 48) hx hb hts k2 hown hK.1 hP 0 rfl rfl 31 (by decide) k3 (fun _ h9 => h9) rfl dX12_surely_6 ?_
  exact oE_i hx hb hr rfl hlocks hP hD hS () [0] rfl (by decide) rfl (Nat.le_of_ble_eq_true rfl) (Nat.le_of_ble_eq_true rfl) dX12_surely_9
theorem dX12_ask_0 : decode cX12_ask 0 = .ok (.aload_n 0, 1) := by decide +kernel
theorem dX12_ask_1 : decode cX12_ask 1 = .ok (.iconst 0, 1) := by decide +kernel
theorem dX12_ask_2 : decode cX12_ask 2 = .ok (.putfield 1, 3) := by decide +kernel
theorem dX12_ask_5 : decode cX12_ask 5 = .ok (.aload_n 0, 1) := by decide +kernel
theorem dX12_ask_6 : decode cX12_ask 6 = .ok (.getfield 145, 3) := by decide +kernel
theorem dX12_ask_9 : decode cX12_ask 9 = .ok (.ireturn, 1) := by decide +kernel
set_option maxHeartbeats 4000000 in
set_option maxRecDepth 100000 in
theorem s_X12_ask (l : Launch) (D : va_G) (ca : Nat → ClassId) (sz : Nat) (h0 : Nat) (h0_thrown : Int32) (h0_tape : Nat) (h0_taped : Int32) (h0_size : Int32) (h0_limit : Int32) (h0_to : Int32) (h0_from : Int32) (h0_kind : Int32) (h0_number : Int32) (h0_sign : Int32) (h0_fault : Int32) (h0_place : Int32) (h0_word : Int64) (h0_told : Int32) (h0_now : Nat) (h0_read : Nat) (h0_kept : Nat) (h0_snaps : Nat) (h0_aside : Nat) (h0_name : Nat) (h0_readName : Nat) (h0_keptName : Nat) (h0_isKept : Nat) (h0_onces : Nat) (h0_snapMany : Int32) (h0_lowest : Int32) (h0_highest : Int32) (h0_agreed : Int32) (h0_jurors : Int32) (h0_panelled : Int32) (h0_inSets : Nat) (h0_surely : Int32) (h0_asked : Int32) (h0_frees : Nat) (h0_struck : Int32) (h0_beating : Int32) (h0_text : Nat) (h0_texts : Int32) (h0_seed : Int32) (h0_line : Nat) (h0_written : Nat) (h0_lineMany : Int32) (h0_hasWritten : Int32) (h0_node : Nat) (h0_nodes : Int32) (h0_onesMany : Int32) (h0_within : Int32) (h0_top : Int32) (i_h0_taped : rg 0 940 h0_taped) (i_h0_size : rg 0 940 h0_size) (i_h0_to : rg 0 940 h0_to) (i_h0_snapMany : rg 0 8 h0_snapMany) (i_h0_texts : rg 0 64 h0_texts) (i_h0_lineMany : rg 0 40 h0_lineMany) (i_h0_hasWritten : rg 0 1 h0_hasWritten) : oMet l yX12_ask wsX12_ask ({ frames := 0, cells := 0, slots := 0, locals := 0 } : Room) [.ref h0] D ca sz [(h0, .inr (11, [.int h0_thrown, .ref h0_tape, .int h0_taped, .int h0_size, .int h0_limit, .int h0_to, .int h0_from, .int h0_kind, .int h0_number, .int h0_sign, .int h0_fault, .int h0_place, .long h0_word, .int h0_told, .ref h0_now, .ref h0_read, .ref h0_kept, .ref h0_snaps, .ref h0_aside, .ref h0_name, .ref h0_readName, .ref h0_keptName, .ref h0_isKept, .ref h0_onces, .int h0_snapMany, .int h0_lowest, .int h0_highest, .int h0_agreed, .int h0_jurors, .int h0_panelled, .ref h0_inSets, .int h0_surely, .int h0_asked, .ref h0_frees, .int h0_struck, .int h0_beating, .ref h0_text, .int h0_texts, .int h0_seed, .ref h0_line, .ref h0_written, .int h0_lineMany, .int h0_hasWritten, .ref h0_node, .int h0_nodes, .int h0_onesMany, .int h0_within, .int h0_top]))] (oQi D (fun (r : Int32) (u : Unit) => (r = h0_asked)) (fun (u : Unit) => [(h0, .inr (11, [.int 0, .ref h0_tape, .int h0_taped, .int h0_size, .int h0_limit, .int h0_to, .int h0_from, .int h0_kind, .int h0_number, .int h0_sign, .int h0_fault, .int h0_place, .long h0_word, .int h0_told, .ref h0_now, .ref h0_read, .ref h0_kept, .ref h0_snaps, .ref h0_aside, .ref h0_name, .ref h0_readName, .ref h0_keptName, .ref h0_isKept, .ref h0_onces, .int h0_snapMany, .int h0_lowest, .int h0_highest, .int h0_agreed, .int h0_jurors, .int h0_panelled, .ref h0_inSets, .int h0_surely, .int h0_asked, .ref h0_frees, .int h0_struck, .int h0_beating, .ref h0_text, .int h0_texts, .int h0_seed, .ref h0_line, .ref h0_written, .int h0_lineMany, .int h0_hasWritten, .ref h0_node, .int h0_nodes, .int h0_onesMany, .int h0_within, .int h0_top]))])) 0 0 := by
  refine oM (cc := cX12_ask) (maxL := 1) (ret := (some .int)) (by decide) rfl (Nat.le_of_ble_eq_true rfl) [(0, .ref h0)] rfl ?_
  intro p e s m below meth c A H locs ls hx hb hr hml hts hown hlocks hin hK hP hD hA hS hl
  have hown : s.vm.findClass RX12 = some m.cls := hown
  have k1 := hts (.fieldLink RX12 1 "LidCourtModel" "thrown" "I") (by decide +kernel)
  have k2 : ∀ w ∈ wsX120, w ∈ wsX12_ask := fun _ h => List.mem_cons_of_mem _ (List.mem_append_right _ h)
  have k3 := hts (.fieldLink RX12 145 "LidCourtModel" "asked" "I") (by decide +kernel)
  refine lv_aload_n hx hb dX12_ask_0 rfl (lv_at hl 0 rfl) ?_
  refine lv_iconst (v := 0) hx hb dX12_ask_1 (by decide) ?_
  refine va_put (D := D) (ci := 11) (v := .int 0) (ty := .int) (C := RX12) (T := TX12) (N := 48) hx hb hts k2 tyX12 tyX12_ok nmX12 hown hK.1 hP hD hS 0 rfl rfl 0 (by decide) k1 (fun _ h9 => h9) rfl (by decide +kernel) rfl rfl (Nat.le_of_ble_eq_true rfl) dX12_ask_2 (fun H locs hP hD hS => ?_)
  have hP : va_P D vwCl [(h0, .inr (11, [.int 0, .ref h0_tape, .int h0_taped, .int h0_size, .int h0_limit, .int h0_to, .int h0_from, .int h0_kind, .int h0_number, .int h0_sign, .int h0_fault, .int h0_place, .long h0_word, .int h0_told, .ref h0_now, .ref h0_read, .ref h0_kept, .ref h0_snaps, .ref h0_aside, .ref h0_name, .ref h0_readName, .ref h0_keptName, .ref h0_isKept, .ref h0_onces, .int h0_snapMany, .int h0_lowest, .int h0_highest, .int h0_agreed, .int h0_jurors, .int h0_panelled, .ref h0_inSets, .int h0_surely, .int h0_asked, .ref h0_frees, .int h0_struck, .int h0_beating, .ref h0_text, .int h0_texts, .int h0_seed, .ref h0_line, .ref h0_written, .int h0_lineMany, .int h0_hasWritten, .ref h0_node, .int h0_nodes, .int h0_onesMany, .int h0_within, .int h0_top]))] H := hP
  have hD : va_D A [(h0, .inr (11, [.int 0, .ref h0_tape, .int h0_taped, .int h0_size, .int h0_limit, .int h0_to, .int h0_from, .int h0_kind, .int h0_number, .int h0_sign, .int h0_fault, .int h0_place, .long h0_word, .int h0_told, .ref h0_now, .ref h0_read, .ref h0_kept, .ref h0_snaps, .ref h0_aside, .ref h0_name, .ref h0_readName, .ref h0_keptName, .ref h0_isKept, .ref h0_onces, .int h0_snapMany, .int h0_lowest, .int h0_highest, .int h0_agreed, .int h0_jurors, .int h0_panelled, .ref h0_inSets, .int h0_surely, .int h0_asked, .ref h0_frees, .int h0_struck, .int h0_beating, .ref h0_text, .int h0_texts, .int h0_seed, .ref h0_line, .ref h0_written, .int h0_lineMany, .int h0_hasWritten, .ref h0_node, .int h0_nodes, .int h0_onesMany, .int h0_within, .int h0_top]))] := hD
  refine lv_aload_n hx hb dX12_ask_5 rfl (lv_at hl 0 rfl) ?_
  refine va_get (D := D) (ci := 11) (v := .int h0_asked) (C := RX12) (T := TX12) (N := 48) hx hb hts k2 hown hK.1 hP 0 rfl rfl 32 (by decide) k3 (fun _ h9 => h9) rfl dX12_ask_6 ?_
  exact oE_i hx hb hr rfl hlocks hP hD hS () [0] rfl (by decide) rfl (Nat.le_of_ble_eq_true rfl) (Nat.le_of_ble_eq_true rfl) dX12_ask_9
theorem dX12_layStrikes_0 : decode cX12_layStrikes 0 = .ok (.aload_n 0, 1) := by decide +kernel
theorem dX12_layStrikes_1 : decode cX12_layStrikes 1 = .ok (.getfield 98, 3) := by decide +kernel
theorem dX12_layStrikes_4 : decode cX12_layStrikes 4 = .ok (.bipush 90, 2) := by decide +kernel
theorem dX12_layStrikes_6 : decode cX12_layStrikes 6 = .ok (.iaload, 1) := by decide +kernel
theorem dX12_layStrikes_7 : decode cX12_layStrikes 7 = .ok (.istore_n 3, 1) := by decide +kernel
theorem dX12_layStrikes_8 : decode cX12_layStrikes 8 = .ok (.iconst 0, 1) := by decide +kernel
theorem dX12_layStrikes_9 : decode cX12_layStrikes 9 = .ok (.istore 4, 2) := by decide +kernel
theorem dX12_layStrikes_11 : decode cX12_layStrikes 11 = .ok (.iload 4, 2) := by decide +kernel
theorem dX12_layStrikes_13 : decode cX12_layStrikes 13 = .ok (.iload_n 3, 1) := by decide +kernel
theorem dX12_layStrikes_14 : decode cX12_layStrikes 14 = .ok (.if_icmp .gt 149, 3) := by decide +kernel
theorem dX12_layStrikes_17 : decode cX12_layStrikes 17 = .ok (.iload 4, 2) := by decide +kernel
theorem dX12_layStrikes_19 : decode cX12_layStrikes 19 = .ok (.iload_n 3, 1) := by decide +kernel
theorem dX12_layStrikes_20 : decode cX12_layStrikes 20 = .ok (.iconst (-1), 1) := by decide +kernel
theorem dX12_layStrikes_21 : decode cX12_layStrikes 21 = .ok (.ixor, 1) := by decide +kernel
theorem dX12_layStrikes_22 : decode cX12_layStrikes 22 = .ok (.iand, 1) := by decide +kernel
theorem dX12_layStrikes_23 : decode cX12_layStrikes 23 = .ok (.ifCond .ne 134, 3) := by decide +kernel
theorem dX12_layStrikes_26 : decode cX12_layStrikes 26 = .ok (.iload 4, 2) := by decide +kernel
theorem dX12_layStrikes_28 : decode cX12_layStrikes 28 = .ok (.invokestatic 302, 3) := by decide +kernel
theorem dX12_strikes_0 : decode cX12_strikes 0 = .ok (.aload_n 0, 1) := by decide +kernel
theorem dX12_strikes_1 : decode cX12_strikes 1 = .ok (.iconst 0, 1) := by decide +kernel
theorem dX12_strikes_2 : decode cX12_strikes 2 = .ok (.putfield 1, 3) := by decide +kernel
theorem dX12_strikes_5 : decode cX12_strikes 5 = .ok (.aload_n 0, 1) := by decide +kernel
theorem dX12_strikes_6 : decode cX12_strikes 6 = .ok (.iload_n 1, 1) := by decide +kernel
theorem dX12_strikes_7 : decode cX12_strikes 7 = .ok (.invokevirtual 255, 3) := by decide +kernel
theorem dX12_strikes_10 : decode cX12_strikes 10 = .ok (.ifCond .eq 23, 3) := by decide +kernel
theorem dX12_strikes_13 : decode cX12_strikes 13 = .ok (.iload_n 2, 1) := by decide +kernel
theorem dX12_strikes_14 : decode cX12_strikes 14 = .ok (.iconst 1, 1) := by decide +kernel
theorem dX12_strikes_15 : decode cX12_strikes 15 = .ok (.aload_n 0, 1) := by decide +kernel
theorem dX12_strikes_16 : decode cX12_strikes 16 = .ok (.getfield 98, 3) := by decide +kernel
theorem dX12_strikes_19 : decode cX12_strikes 19 = .ok (.bipush 90, 2) := by decide +kernel
theorem dX12_strikes_21 : decode cX12_strikes 21 = .ok (.iaload, 1) := by decide +kernel
theorem dX12_strikes_22 : decode cX12_strikes 22 = .ok (.invokestatic 302, 3) := by decide +kernel
theorem dX12_strikes_33 : decode cX12_strikes 33 = .ok (.iconst (-1), 1) := by decide +kernel
theorem dX12_strikes_34 : decode cX12_strikes 34 = .ok (.ireturn, 1) := by decide +kernel
theorem dX12_struck_0 : decode cX12_struck 0 = .ok (.aload_n 0, 1) := by decide +kernel
theorem dX12_struck_1 : decode cX12_struck 1 = .ok (.iconst 0, 1) := by decide +kernel
theorem dX12_struck_2 : decode cX12_struck 2 = .ok (.putfield 1, 3) := by decide +kernel
theorem dX12_struck_5 : decode cX12_struck 5 = .ok (.aload_n 0, 1) := by decide +kernel
theorem dX12_struck_6 : decode cX12_struck 6 = .ok (.getfield 151, 3) := by decide +kernel
theorem dX12_struck_9 : decode cX12_struck 9 = .ok (.ireturn, 1) := by decide +kernel
set_option maxRecDepth 20000 in
theorem ggX12_strikes_X12_isCase : GoodIn wsX12_strikes wsX12_isCase := goodIn_r _ [9, 2, 10, 11, 8, 12, 45, 46, 47, 48, 49, 50, 51, 52, 53, 54, 55, 56, 57, 58, 59, 60, 61, 62, 63, 64, 65, 66, 67, 68, 69, 70, 71, 72, 73, 74, 75, 76, 77, 78, 79, 80, 81, 82, 83, 84, 85, 86, 87, 88, 89, 90, 91, 92] rfl (by decide +kernel)
set_option maxRecDepth 20000 in
theorem gX12_strikes_X12_isCase : GoodIn wsX12_strikes (wsV RX12 255 RX12 yX12_isCase wsX12_isCase) := goodIn_app (goodIn_of _ (by decide +kernel)) ggX12_strikes_X12_isCase
set_option maxHeartbeats 4000000 in
set_option maxRecDepth 100000 in
theorem s_X12_struck (l : Launch) (D : va_G) (ca : Nat → ClassId) (sz : Nat) (h0 : Nat) (h0_thrown : Int32) (h0_tape : Nat) (h0_taped : Int32) (h0_size : Int32) (h0_limit : Int32) (h0_to : Int32) (h0_from : Int32) (h0_kind : Int32) (h0_number : Int32) (h0_sign : Int32) (h0_fault : Int32) (h0_place : Int32) (h0_word : Int64) (h0_told : Int32) (h0_now : Nat) (h0_read : Nat) (h0_kept : Nat) (h0_snaps : Nat) (h0_aside : Nat) (h0_name : Nat) (h0_readName : Nat) (h0_keptName : Nat) (h0_isKept : Nat) (h0_onces : Nat) (h0_snapMany : Int32) (h0_lowest : Int32) (h0_highest : Int32) (h0_agreed : Int32) (h0_jurors : Int32) (h0_panelled : Int32) (h0_inSets : Nat) (h0_surely : Int32) (h0_asked : Int32) (h0_frees : Nat) (h0_struck : Int32) (h0_beating : Int32) (h0_text : Nat) (h0_texts : Int32) (h0_seed : Int32) (h0_line : Nat) (h0_written : Nat) (h0_lineMany : Int32) (h0_hasWritten : Int32) (h0_node : Nat) (h0_nodes : Int32) (h0_onesMany : Int32) (h0_within : Int32) (h0_top : Int32) (i_h0_taped : rg 0 940 h0_taped) (i_h0_size : rg 0 940 h0_size) (i_h0_to : rg 0 940 h0_to) (i_h0_snapMany : rg 0 8 h0_snapMany) (i_h0_texts : rg 0 64 h0_texts) (i_h0_lineMany : rg 0 40 h0_lineMany) (i_h0_hasWritten : rg 0 1 h0_hasWritten) : oMet l yX12_struck wsX12_struck ({ frames := 0, cells := 0, slots := 0, locals := 0 } : Room) [.ref h0] D ca sz [(h0, .inr (11, [.int h0_thrown, .ref h0_tape, .int h0_taped, .int h0_size, .int h0_limit, .int h0_to, .int h0_from, .int h0_kind, .int h0_number, .int h0_sign, .int h0_fault, .int h0_place, .long h0_word, .int h0_told, .ref h0_now, .ref h0_read, .ref h0_kept, .ref h0_snaps, .ref h0_aside, .ref h0_name, .ref h0_readName, .ref h0_keptName, .ref h0_isKept, .ref h0_onces, .int h0_snapMany, .int h0_lowest, .int h0_highest, .int h0_agreed, .int h0_jurors, .int h0_panelled, .ref h0_inSets, .int h0_surely, .int h0_asked, .ref h0_frees, .int h0_struck, .int h0_beating, .ref h0_text, .int h0_texts, .int h0_seed, .ref h0_line, .ref h0_written, .int h0_lineMany, .int h0_hasWritten, .ref h0_node, .int h0_nodes, .int h0_onesMany, .int h0_within, .int h0_top]))] (oQi D (fun (r : Int32) (u : Unit) => (r = h0_struck)) (fun (u : Unit) => [(h0, .inr (11, [.int 0, .ref h0_tape, .int h0_taped, .int h0_size, .int h0_limit, .int h0_to, .int h0_from, .int h0_kind, .int h0_number, .int h0_sign, .int h0_fault, .int h0_place, .long h0_word, .int h0_told, .ref h0_now, .ref h0_read, .ref h0_kept, .ref h0_snaps, .ref h0_aside, .ref h0_name, .ref h0_readName, .ref h0_keptName, .ref h0_isKept, .ref h0_onces, .int h0_snapMany, .int h0_lowest, .int h0_highest, .int h0_agreed, .int h0_jurors, .int h0_panelled, .ref h0_inSets, .int h0_surely, .int h0_asked, .ref h0_frees, .int h0_struck, .int h0_beating, .ref h0_text, .int h0_texts, .int h0_seed, .ref h0_line, .ref h0_written, .int h0_lineMany, .int h0_hasWritten, .ref h0_node, .int h0_nodes, .int h0_onesMany, .int h0_within, .int h0_top]))])) 0 0 := by
  refine oM (cc := cX12_struck) (maxL := 1) (ret := (some .int)) (by decide) rfl (Nat.le_of_ble_eq_true rfl) [(0, .ref h0)] rfl ?_
  intro p e s m below meth c A H locs ls hx hb hr hml hts hown hlocks hin hK hP hD hA hS hl
  have hown : s.vm.findClass RX12 = some m.cls := hown
  have k1 := hts (.fieldLink RX12 1 "LidCourtModel" "thrown" "I") (by decide +kernel)
  have k2 : ∀ w ∈ wsX120, w ∈ wsX12_struck := fun _ h => List.mem_cons_of_mem _ (List.mem_append_right _ h)
  have k3 := hts (.fieldLink RX12 151 "LidCourtModel" "struck" "I") (by decide +kernel)
  refine lv_aload_n hx hb dX12_struck_0 rfl (lv_at hl 0 rfl) ?_
  refine lv_iconst (v := 0) hx hb dX12_struck_1 (by decide) ?_
  refine va_put (D := D) (ci := 11) (v := .int 0) (ty := .int) (C := RX12) (T := TX12) (N := 48) hx hb hts k2 tyX12 tyX12_ok nmX12 hown hK.1 hP hD hS 0 rfl rfl 0 (by decide) k1 (fun _ h9 => h9) rfl (by decide +kernel) rfl rfl (Nat.le_of_ble_eq_true rfl) dX12_struck_2 (fun H locs hP hD hS => ?_)
  have hP : va_P D vwCl [(h0, .inr (11, [.int 0, .ref h0_tape, .int h0_taped, .int h0_size, .int h0_limit, .int h0_to, .int h0_from, .int h0_kind, .int h0_number, .int h0_sign, .int h0_fault, .int h0_place, .long h0_word, .int h0_told, .ref h0_now, .ref h0_read, .ref h0_kept, .ref h0_snaps, .ref h0_aside, .ref h0_name, .ref h0_readName, .ref h0_keptName, .ref h0_isKept, .ref h0_onces, .int h0_snapMany, .int h0_lowest, .int h0_highest, .int h0_agreed, .int h0_jurors, .int h0_panelled, .ref h0_inSets, .int h0_surely, .int h0_asked, .ref h0_frees, .int h0_struck, .int h0_beating, .ref h0_text, .int h0_texts, .int h0_seed, .ref h0_line, .ref h0_written, .int h0_lineMany, .int h0_hasWritten, .ref h0_node, .int h0_nodes, .int h0_onesMany, .int h0_within, .int h0_top]))] H := hP
  have hD : va_D A [(h0, .inr (11, [.int 0, .ref h0_tape, .int h0_taped, .int h0_size, .int h0_limit, .int h0_to, .int h0_from, .int h0_kind, .int h0_number, .int h0_sign, .int h0_fault, .int h0_place, .long h0_word, .int h0_told, .ref h0_now, .ref h0_read, .ref h0_kept, .ref h0_snaps, .ref h0_aside, .ref h0_name, .ref h0_readName, .ref h0_keptName, .ref h0_isKept, .ref h0_onces, .int h0_snapMany, .int h0_lowest, .int h0_highest, .int h0_agreed, .int h0_jurors, .int h0_panelled, .ref h0_inSets, .int h0_surely, .int h0_asked, .ref h0_frees, .int h0_struck, .int h0_beating, .ref h0_text, .int h0_texts, .int h0_seed, .ref h0_line, .ref h0_written, .int h0_lineMany, .int h0_hasWritten, .ref h0_node, .int h0_nodes, .int h0_onesMany, .int h0_within, .int h0_top]))] := hD
  refine lv_aload_n hx hb dX12_struck_5 rfl (lv_at hl 0 rfl) ?_
  refine va_get (D := D) (ci := 11) (v := .int h0_struck) (C := RX12) (T := TX12) (N := 48) hx hb hts k2 hown hK.1 hP 0 rfl rfl 34 (by decide) k3 (fun _ h9 => h9) rfl dX12_struck_6 ?_
  exact oE_i hx hb hr rfl hlocks hP hD hS () [0] rfl (by decide) rfl (Nat.le_of_ble_eq_true rfl) (Nat.le_of_ble_eq_true rfl) dX12_struck_9
theorem dX12_beating_0 : decode cX12_beating 0 = .ok (.aload_n 0, 1) := by decide +kernel
theorem dX12_beating_1 : decode cX12_beating 1 = .ok (.iconst 0, 1) := by decide +kernel
theorem dX12_beating_2 : decode cX12_beating 2 = .ok (.putfield 1, 3) := by decide +kernel
theorem dX12_beating_5 : decode cX12_beating 5 = .ok (.aload_n 0, 1) := by decide +kernel
theorem dX12_beating_6 : decode cX12_beating 6 = .ok (.getfield 154, 3) := by decide +kernel
theorem dX12_beating_9 : decode cX12_beating 9 = .ok (.ireturn, 1) := by decide +kernel
theorem dX12_beats_0 : decode cX12_beats 0 = .ok (.aload_n 0, 1) := by decide +kernel
theorem dX12_beats_1 : decode cX12_beats 1 = .ok (.iconst 0, 1) := by decide +kernel
theorem dX12_beats_2 : decode cX12_beats 2 = .ok (.putfield 1, 3) := by decide +kernel
theorem dX12_beats_5 : decode cX12_beats 5 = .ok (.aload_n 0, 1) := by decide +kernel
theorem dX12_beats_6 : decode cX12_beats 6 = .ok (.iload_n 1, 1) := by decide +kernel
theorem dX12_beats_7 : decode cX12_beats 7 = .ok (.invokevirtual 255, 3) := by decide +kernel
theorem dX12_beats_10 : decode cX12_beats 10 = .ok (.ifCond .eq 10, 3) := by decide +kernel
theorem dX12_beats_13 : decode cX12_beats 13 = .ok (.aload_n 0, 1) := by decide +kernel
theorem dX12_beats_14 : decode cX12_beats 14 = .ok (.invokevirtual 274, 3) := by decide +kernel
theorem dX12_beats_17 : decode cX12_beats 17 = .ok (.ifCond .ne 5, 3) := by decide +kernel
theorem dX12_beats_20 : decode cX12_beats 20 = .ok (.iconst (-1), 1) := by decide +kernel
theorem dX12_beats_21 : decode cX12_beats 21 = .ok (.ireturn, 1) := by decide +kernel
theorem dX12_beats_22 : decode cX12_beats 22 = .ok (.iconst (-1), 1) := by decide +kernel
theorem dX12_beats_23 : decode cX12_beats 23 = .ok (.istore_n 2, 1) := by decide +kernel
theorem dX12_beats_24 : decode cX12_beats 24 = .ok (.iconst 0, 1) := by decide +kernel
theorem dX12_beats_25 : decode cX12_beats 25 = .ok (.istore_n 3, 1) := by decide +kernel
theorem dX12_beats_26 : decode cX12_beats 26 = .ok (.iload_n 3, 1) := by decide +kernel
theorem dX12_beats_27 : decode cX12_beats 27 = .ok (.aload_n 0, 1) := by decide +kernel
theorem dX12_beats_28 : decode cX12_beats 28 = .ok (.invokevirtual 274, 3) := by decide +kernel
theorem dX12_beats_31 : decode cX12_beats 31 = .ok (.if_icmp .gt 58, 3) := by decide +kernel
theorem dX12_beats_34 : decode cX12_beats 34 = .ok (.iload_n 3, 1) := by decide +kernel
theorem dX12_beats_35 : decode cX12_beats 35 = .ok (.aload_n 0, 1) := by decide +kernel
theorem dX12_beats_36 : decode cX12_beats 36 = .ok (.invokevirtual 274, 3) := by decide +kernel
theorem dX12_beats_39 : decode cX12_beats 39 = .ok (.iconst (-1), 1) := by decide +kernel
theorem dX12_beats_40 : decode cX12_beats 40 = .ok (.ixor, 1) := by decide +kernel
theorem dX12_beats_41 : decode cX12_beats 41 = .ok (.iand, 1) := by decide +kernel
theorem dX12_beats_42 : decode cX12_beats 42 = .ok (.ifCond .ne 41, 3) := by decide +kernel
theorem dX12_beats_45 : decode cX12_beats 45 = .ok (.iload_n 2, 1) := by decide +kernel
theorem dX12_beats_46 : decode cX12_beats 46 = .ok (.iconst (-1), 1) := by decide +kernel
theorem dX12_beats_47 : decode cX12_beats 47 = .ok (.if_icmp .eq 17, 3) := by decide +kernel
theorem dX12_beats_64 : decode cX12_beats 64 = .ok (.aload_n 0, 1) := by decide +kernel
theorem dX12_beats_65 : decode cX12_beats 65 = .ok (.aload_n 0, 1) := by decide +kernel
theorem dX12_beats_66 : decode cX12_beats 66 = .ok (.invokevirtual 274, 3) := by decide +kernel
theorem dX12_beats_69 : decode cX12_beats 69 = .ok (.aload_n 0, 1) := by decide +kernel
theorem dX12_beats_70 : decode cX12_beats 70 = .ok (.iload_n 1, 1) := by decide +kernel
theorem dX12_beats_71 : decode cX12_beats 71 = .ok (.invokevirtual 258, 3) := by decide +kernel
theorem dX12_beats_74 : decode cX12_beats 74 = .ok (.iload_n 3, 1) := by decide +kernel
theorem dX12_beats_75 : decode cX12_beats 75 = .ok (.invokevirtual 246, 3) := by decide +kernel
theorem dX12_beats_78 : decode cX12_beats 78 = .ok (.ifCond .eq 5, 3) := by decide +kernel
theorem dX12_beats_81 : decode cX12_beats 81 = .ok (.iload_n 3, 1) := by decide +kernel
theorem dX12_beats_82 : decode cX12_beats 82 = .ok (.istore_n 2, 1) := by decide +kernel
theorem dX12_beats_83 : decode cX12_beats 83 = .ok (.iinc 3 1, 3) := by decide +kernel
theorem dX12_beats_86 : decode cX12_beats 86 = .ok (.goto (-60), 3) := by decide +kernel
theorem dX12_beats_89 : decode cX12_beats 89 = .ok (.iload_n 2, 1) := by decide +kernel
theorem dX12_beats_90 : decode cX12_beats 90 = .ok (.iconst (-1), 1) := by decide +kernel
theorem dX12_beats_91 : decode cX12_beats 91 = .ok (.if_icmp .ne 5, 3) := by decide +kernel
theorem dX12_beats_96 : decode cX12_beats 96 = .ok (.aload_n 0, 1) := by decide +kernel
theorem dX12_beats_97 : decode cX12_beats 97 = .ok (.iload_n 2, 1) := by decide +kernel
theorem dX12_beats_98 : decode cX12_beats 98 = .ok (.putfield 154, 3) := by decide +kernel
theorem dX12_beats_101 : decode cX12_beats 101 = .ok (.iload_n 2, 1) := by decide +kernel
theorem dX12_beats_102 : decode cX12_beats 102 = .ok (.invokestatic 302, 3) := by decide +kernel
set_option maxRecDepth 20000 in
theorem ggX12_beats_X12_isCase : GoodIn wsX12_beats wsX12_isCase := goodIn_r _ [7, 8, 9, 10, 6, 11, 40, 41, 42, 43, 44, 45, 46, 47, 48, 49, 50, 51, 52, 53, 54, 55, 56, 57, 58, 59, 60, 61, 62, 63, 64, 65, 66, 67, 68, 69, 70, 71, 72, 73, 74, 75, 76, 77, 78, 79, 80, 81, 82, 83, 84, 85, 86, 87] rfl (by decide +kernel)
set_option maxRecDepth 20000 in
theorem gX12_beats_X12_isCase : GoodIn wsX12_beats (wsV RX12 255 RX12 yX12_isCase wsX12_isCase) := goodIn_app (goodIn_of _ (by decide +kernel)) ggX12_beats_X12_isCase
set_option maxRecDepth 20000 in
theorem ggX12_beats_X12_droppers : GoodIn wsX12_beats wsX12_droppers := goodIn_r _ [15, 8, 40, 41, 42, 43, 44, 45, 46, 47, 48, 49, 50, 51, 52, 53, 54, 55, 56, 57, 58, 59, 60, 61, 62, 63, 64, 65, 66, 67, 68, 69, 70, 71, 72, 73, 74, 75, 76, 77, 78, 79, 80, 81, 82, 83, 84, 85, 86, 87] rfl (by decide +kernel)
set_option maxRecDepth 20000 in
theorem gX12_beats_X12_droppers : GoodIn wsX12_beats (wsV RX12 274 RX12 yX12_droppers wsX12_droppers) := goodIn_app (goodIn_of _ (by decide +kernel)) ggX12_beats_X12_droppers
set_option maxRecDepth 20000 in
theorem ggX12_beats_X12_floorOf : GoodIn wsX12_beats wsX12_floorOf := goodIn_r _ [22, 8, 40, 41, 42, 43, 44, 45, 46, 47, 48, 49, 50, 51, 52, 53, 54, 55, 56, 57, 58, 59, 60, 61, 62, 63, 64, 65, 66, 67, 68, 69, 70, 71, 72, 73, 74, 75, 76, 77, 78, 79, 80, 81, 82, 83, 84, 85, 86, 87] rfl (by decide +kernel)
set_option maxRecDepth 20000 in
theorem gX12_beats_X12_floorOf : GoodIn wsX12_beats (wsV RX12 258 RX12 yX12_floorOf wsX12_floorOf) := goodIn_app (goodIn_of _ (by decide +kernel)) ggX12_beats_X12_floorOf
set_option maxRecDepth 20000 in
theorem ggX12_beats_X12_isOneRing : GoodIn wsX12_beats wsX12_isOneRing := goodIn_r _ [26, 27, 28, 8, 29, 30, 31, 6, 32, 33, 34, 35, 36, 37, 38, 39, 40, 41, 42, 43, 44, 45, 46, 47, 48, 49, 50, 51, 52, 53, 54, 55, 56, 57, 58, 59, 60, 61, 62, 63, 64, 65, 66, 67, 68, 69, 70, 71, 72, 73, 74, 75, 76, 77, 78, 79, 80, 81, 82, 83, 84, 85, 86, 87] rfl (by decide +kernel)
set_option maxRecDepth 20000 in
theorem gX12_beats_X12_isOneRing : GoodIn wsX12_beats (wsV RX12 246 RX12 yX12_isOneRing wsX12_isOneRing) := goodIn_app (goodIn_of _ (by decide +kernel)) ggX12_beats_X12_isOneRing
set_option maxHeartbeats 4000000 in
set_option maxRecDepth 100000 in
theorem s_X12_beating (l : Launch) (D : va_G) (ca : Nat → ClassId) (sz : Nat) (h0 : Nat) (h0_thrown : Int32) (h0_tape : Nat) (h0_taped : Int32) (h0_size : Int32) (h0_limit : Int32) (h0_to : Int32) (h0_from : Int32) (h0_kind : Int32) (h0_number : Int32) (h0_sign : Int32) (h0_fault : Int32) (h0_place : Int32) (h0_word : Int64) (h0_told : Int32) (h0_now : Nat) (h0_read : Nat) (h0_kept : Nat) (h0_snaps : Nat) (h0_aside : Nat) (h0_name : Nat) (h0_readName : Nat) (h0_keptName : Nat) (h0_isKept : Nat) (h0_onces : Nat) (h0_snapMany : Int32) (h0_lowest : Int32) (h0_highest : Int32) (h0_agreed : Int32) (h0_jurors : Int32) (h0_panelled : Int32) (h0_inSets : Nat) (h0_surely : Int32) (h0_asked : Int32) (h0_frees : Nat) (h0_struck : Int32) (h0_beating : Int32) (h0_text : Nat) (h0_texts : Int32) (h0_seed : Int32) (h0_line : Nat) (h0_written : Nat) (h0_lineMany : Int32) (h0_hasWritten : Int32) (h0_node : Nat) (h0_nodes : Int32) (h0_onesMany : Int32) (h0_within : Int32) (h0_top : Int32) (i_h0_taped : rg 0 940 h0_taped) (i_h0_size : rg 0 940 h0_size) (i_h0_to : rg 0 940 h0_to) (i_h0_snapMany : rg 0 8 h0_snapMany) (i_h0_texts : rg 0 64 h0_texts) (i_h0_lineMany : rg 0 40 h0_lineMany) (i_h0_hasWritten : rg 0 1 h0_hasWritten) : oMet l yX12_beating wsX12_beating ({ frames := 0, cells := 0, slots := 0, locals := 0 } : Room) [.ref h0] D ca sz [(h0, .inr (11, [.int h0_thrown, .ref h0_tape, .int h0_taped, .int h0_size, .int h0_limit, .int h0_to, .int h0_from, .int h0_kind, .int h0_number, .int h0_sign, .int h0_fault, .int h0_place, .long h0_word, .int h0_told, .ref h0_now, .ref h0_read, .ref h0_kept, .ref h0_snaps, .ref h0_aside, .ref h0_name, .ref h0_readName, .ref h0_keptName, .ref h0_isKept, .ref h0_onces, .int h0_snapMany, .int h0_lowest, .int h0_highest, .int h0_agreed, .int h0_jurors, .int h0_panelled, .ref h0_inSets, .int h0_surely, .int h0_asked, .ref h0_frees, .int h0_struck, .int h0_beating, .ref h0_text, .int h0_texts, .int h0_seed, .ref h0_line, .ref h0_written, .int h0_lineMany, .int h0_hasWritten, .ref h0_node, .int h0_nodes, .int h0_onesMany, .int h0_within, .int h0_top]))] (oQi D (fun (r : Int32) (u : Unit) => (r = h0_beating)) (fun (u : Unit) => [(h0, .inr (11, [.int 0, .ref h0_tape, .int h0_taped, .int h0_size, .int h0_limit, .int h0_to, .int h0_from, .int h0_kind, .int h0_number, .int h0_sign, .int h0_fault, .int h0_place, .long h0_word, .int h0_told, .ref h0_now, .ref h0_read, .ref h0_kept, .ref h0_snaps, .ref h0_aside, .ref h0_name, .ref h0_readName, .ref h0_keptName, .ref h0_isKept, .ref h0_onces, .int h0_snapMany, .int h0_lowest, .int h0_highest, .int h0_agreed, .int h0_jurors, .int h0_panelled, .ref h0_inSets, .int h0_surely, .int h0_asked, .ref h0_frees, .int h0_struck, .int h0_beating, .ref h0_text, .int h0_texts, .int h0_seed, .ref h0_line, .ref h0_written, .int h0_lineMany, .int h0_hasWritten, .ref h0_node, .int h0_nodes, .int h0_onesMany, .int h0_within, .int h0_top]))])) 0 0 := by
  refine oM (cc := cX12_beating) (maxL := 1) (ret := (some .int)) (by decide) rfl (Nat.le_of_ble_eq_true rfl) [(0, .ref h0)] rfl ?_
  intro p e s m below meth c A H locs ls hx hb hr hml hts hown hlocks hin hK hP hD hA hS hl
  have hown : s.vm.findClass RX12 = some m.cls := hown
  have k1 := hts (.fieldLink RX12 1 "LidCourtModel" "thrown" "I") (by decide +kernel)
  have k2 : ∀ w ∈ wsX120, w ∈ wsX12_beating := fun _ h => List.mem_cons_of_mem _ (List.mem_append_right _ h)
  have k3 := hts (.fieldLink RX12 154 "LidCourtModel" "beating" "I") (by decide +kernel)
  refine lv_aload_n hx hb dX12_beating_0 rfl (lv_at hl 0 rfl) ?_
  refine lv_iconst (v := 0) hx hb dX12_beating_1 (by decide) ?_
  refine va_put (D := D) (ci := 11) (v := .int 0) (ty := .int) (C := RX12) (T := TX12) (N := 48) hx hb hts k2 tyX12 tyX12_ok nmX12 hown hK.1 hP hD hS 0 rfl rfl 0 (by decide) k1 (fun _ h9 => h9) rfl (by decide +kernel) rfl rfl (Nat.le_of_ble_eq_true rfl) dX12_beating_2 (fun H locs hP hD hS => ?_)
  have hP : va_P D vwCl [(h0, .inr (11, [.int 0, .ref h0_tape, .int h0_taped, .int h0_size, .int h0_limit, .int h0_to, .int h0_from, .int h0_kind, .int h0_number, .int h0_sign, .int h0_fault, .int h0_place, .long h0_word, .int h0_told, .ref h0_now, .ref h0_read, .ref h0_kept, .ref h0_snaps, .ref h0_aside, .ref h0_name, .ref h0_readName, .ref h0_keptName, .ref h0_isKept, .ref h0_onces, .int h0_snapMany, .int h0_lowest, .int h0_highest, .int h0_agreed, .int h0_jurors, .int h0_panelled, .ref h0_inSets, .int h0_surely, .int h0_asked, .ref h0_frees, .int h0_struck, .int h0_beating, .ref h0_text, .int h0_texts, .int h0_seed, .ref h0_line, .ref h0_written, .int h0_lineMany, .int h0_hasWritten, .ref h0_node, .int h0_nodes, .int h0_onesMany, .int h0_within, .int h0_top]))] H := hP
  have hD : va_D A [(h0, .inr (11, [.int 0, .ref h0_tape, .int h0_taped, .int h0_size, .int h0_limit, .int h0_to, .int h0_from, .int h0_kind, .int h0_number, .int h0_sign, .int h0_fault, .int h0_place, .long h0_word, .int h0_told, .ref h0_now, .ref h0_read, .ref h0_kept, .ref h0_snaps, .ref h0_aside, .ref h0_name, .ref h0_readName, .ref h0_keptName, .ref h0_isKept, .ref h0_onces, .int h0_snapMany, .int h0_lowest, .int h0_highest, .int h0_agreed, .int h0_jurors, .int h0_panelled, .ref h0_inSets, .int h0_surely, .int h0_asked, .ref h0_frees, .int h0_struck, .int h0_beating, .ref h0_text, .int h0_texts, .int h0_seed, .ref h0_line, .ref h0_written, .int h0_lineMany, .int h0_hasWritten, .ref h0_node, .int h0_nodes, .int h0_onesMany, .int h0_within, .int h0_top]))] := hD
  refine lv_aload_n hx hb dX12_beating_5 rfl (lv_at hl 0 rfl) ?_
  refine va_get (D := D) (ci := 11) (v := .int h0_beating) (C := RX12) (T := TX12) (N := 48) hx hb hts k2 hown hK.1 hP 0 rfl rfl 35 (by decide) k3 (fun _ h9 => h9) rfl dX12_beating_6 ?_
  exact oE_i hx hb hr rfl hlocks hP hD hS () [0] rfl (by decide) rfl (Nat.le_of_ble_eq_true rfl) (Nat.le_of_ble_eq_true rfl) dX12_beating_9
theorem dX12_write_0 : decode cX12_write 0 = .ok (.aload_n 0, 1) := by decide +kernel
theorem dX12_write_1 : decode cX12_write 1 = .ok (.getfield 157, 3) := by decide +kernel
theorem dX12_write_4 : decode cX12_write 4 = .ok (.aload_n 0, 1) := by decide +kernel
theorem dX12_write_5 : decode cX12_write 5 = .ok (.getfield 326, 3) := by decide +kernel
theorem dX12_write_8 : decode cX12_write 8 = .ok (.iload_n 1, 1) := by decide +kernel
theorem dX12_write_9 : decode cX12_write 9 = .ok (.iastore, 1) := by decide +kernel
theorem dX12_write_10 : decode cX12_write 10 = .ok (.aload_n 0, 1) := by decide +kernel
theorem dX12_write_11 : decode cX12_write 11 = .ok (.dup, 1) := by decide +kernel
theorem dX12_write_12 : decode cX12_write 12 = .ok (.getfield 326, 3) := by decide +kernel
theorem dX12_write_15 : decode cX12_write 15 = .ok (.iconst 1, 1) := by decide +kernel
theorem dX12_write_16 : decode cX12_write 16 = .ok (.iadd, 1) := by decide +kernel
theorem dX12_write_17 : decode cX12_write 17 = .ok (.putfield 326, 3) := by decide +kernel
theorem dX12_write_20 : decode cX12_write 20 = .ok (.return_, 1) := by decide +kernel
set_option maxHeartbeats 4000000 in
set_option maxRecDepth 100000 in
theorem s_X12_write (l : Launch) (D : va_G) (ca : Nat → ClassId) (sz : Nat) (h0 : Nat) (a1 : Int32) (h0_thrown : Int32) (h0_tape : Nat) (h0_taped : Int32) (h0_size : Int32) (h0_limit : Int32) (h0_to : Int32) (h0_from : Int32) (h0_kind : Int32) (h0_number : Int32) (h0_sign : Int32) (h0_fault : Int32) (h0_place : Int32) (h0_word : Int64) (h0_told : Int32) (h0_now : Nat) (h0_read : Nat) (h0_kept : Nat) (h0_snaps : Nat) (h0_aside : Nat) (h0_name : Nat) (h0_readName : Nat) (h0_keptName : Nat) (h0_isKept : Nat) (h0_onces : Nat) (h0_snapMany : Int32) (h0_lowest : Int32) (h0_highest : Int32) (h0_agreed : Int32) (h0_jurors : Int32) (h0_panelled : Int32) (h0_inSets : Nat) (h0_surely : Int32) (h0_asked : Int32) (h0_frees : Nat) (h0_struck : Int32) (h0_beating : Int32) (h0_text : Nat) (h0_texts : Int32) (h0_seed : Int32) (h0_line : Nat) (h0_written : Nat) (h0_lineMany : Int32) (h0_hasWritten : Int32) (h0_node : Nat) (h0_nodes : Int32) (h0_onesMany : Int32) (h0_within : Int32) (h0_top : Int32) (F_h0_text : Nat → Int32) (i_h0_taped : rg 0 940 h0_taped) (i_h0_size : rg 0 940 h0_size) (i_h0_to : rg 0 940 h0_to) (i_h0_snapMany : rg 0 8 h0_snapMany) (i_h0_texts : rg 0 63 h0_texts) (i_h0_lineMany : rg 0 40 h0_lineMany) (i_h0_hasWritten : rg 0 1 h0_hasWritten) : oMet l yX12_write wsX12_write ({ frames := 0, cells := 0, slots := 0, locals := 0 } : Room) [.ref h0, .int a1] D ca sz [(h0, .inr (11, [.int h0_thrown, .ref h0_tape, .int h0_taped, .int h0_size, .int h0_limit, .int h0_to, .int h0_from, .int h0_kind, .int h0_number, .int h0_sign, .int h0_fault, .int h0_place, .long h0_word, .int h0_told, .ref h0_now, .ref h0_read, .ref h0_kept, .ref h0_snaps, .ref h0_aside, .ref h0_name, .ref h0_readName, .ref h0_keptName, .ref h0_isKept, .ref h0_onces, .int h0_snapMany, .int h0_lowest, .int h0_highest, .int h0_agreed, .int h0_jurors, .int h0_panelled, .ref h0_inSets, .int h0_surely, .int h0_asked, .ref h0_frees, .int h0_struck, .int h0_beating, .ref h0_text, .int h0_texts, .int h0_seed, .ref h0_line, .ref h0_written, .int h0_lineMany, .int h0_hasWritten, .ref h0_node, .int h0_nodes, .int h0_onesMany, .int h0_within, .int h0_top])), (aI ca h0_text 64 F_h0_text)] (oQv D (fun (u : Int32 × (Nat → Int32)) => (rg 1 64 u.1) ∧ (rl 1 h0_texts u.1) ∧ (rl (-1) u.1 h0_texts)) (fun (u : Int32 × (Nat → Int32)) => [(h0, .inr (11, [.int h0_thrown, .ref h0_tape, .int h0_taped, .int h0_size, .int h0_limit, .int h0_to, .int h0_from, .int h0_kind, .int h0_number, .int h0_sign, .int h0_fault, .int h0_place, .long h0_word, .int h0_told, .ref h0_now, .ref h0_read, .ref h0_kept, .ref h0_snaps, .ref h0_aside, .ref h0_name, .ref h0_readName, .ref h0_keptName, .ref h0_isKept, .ref h0_onces, .int h0_snapMany, .int h0_lowest, .int h0_highest, .int h0_agreed, .int h0_jurors, .int h0_panelled, .ref h0_inSets, .int h0_surely, .int h0_asked, .ref h0_frees, .int h0_struck, .int h0_beating, .ref h0_text, .int u.1, .int h0_seed, .ref h0_line, .ref h0_written, .int h0_lineMany, .int h0_hasWritten, .ref h0_node, .int h0_nodes, .int h0_onesMany, .int h0_within, .int h0_top])), (aI ca h0_text 64 u.2)])) 0 0 := by
  refine oM (cc := cX12_write) (maxL := 2) (ret := none) (by decide) rfl (Nat.le_of_ble_eq_true rfl) [(0, .ref h0), (1, .int a1)] rfl ?_
  intro p e s m below meth c A H locs ls hx hb hr hml hts hown hlocks hin hK hP hD hA hS hl
  have hown : s.vm.findClass RX12 = some m.cls := hown
  have k1 := hts (.fieldLink RX12 157 "LidCourtModel" "text" "[I") (by decide +kernel)
  have k2 : ∀ w ∈ wsX120, w ∈ wsX12_write := fun _ h => List.mem_cons_of_mem _ (List.mem_append_right _ h)
  have k3 := hts (.fieldLink RX12 326 "LidCourtModel" "texts" "I") (by decide +kernel)
  refine lv_aload_n hx hb dX12_write_0 rfl (lv_at hl 0 rfl) ?_
  refine va_get (D := D) (ci := 11) (v := .ref h0_text) (C := RX12) (T := TX12) (N := 48) hx hb hts k2 hown hK.1 hP 0 rfl rfl 36 (by decide) k1 (fun _ h9 => h9) rfl dX12_write_1 ?_
  refine lv_aload_n hx hb dX12_write_4 rfl (lv_at hl 0 rfl) ?_
  refine va_get (D := D) (ci := 11) (v := .int h0_texts) (C := RX12) (T := TX12) (N := 48) hx hb hts k2 hown hK.1 hP 0 rfl rfl 37 (by decide) k3 (fun _ h9 => h9) rfl dX12_write_5 ?_
  refine lv_iload_n hx hb dX12_write_8 rfl (lv_at hl 1 rfl) ?_
  refine va_iast hx hb hK.1 hP hD hS 1 0 rfl rfl (rg_in i_h0_texts (by decide) (by decide)) dX12_write_9 (fun H locs hP hD hS => ?_)
  obtain ⟨g_5, eg_5⟩ : ∃ y : Nat → Int32, y = upd F_h0_text (h0_texts : Int32).toNatClampNeg (a1 : Int32) := ⟨_, rfl⟩
  rw [← eg_5] at hP hD
  have hP : va_P D vwCl [(h0, .inr (11, [.int h0_thrown, .ref h0_tape, .int h0_taped, .int h0_size, .int h0_limit, .int h0_to, .int h0_from, .int h0_kind, .int h0_number, .int h0_sign, .int h0_fault, .int h0_place, .long h0_word, .int h0_told, .ref h0_now, .ref h0_read, .ref h0_kept, .ref h0_snaps, .ref h0_aside, .ref h0_name, .ref h0_readName, .ref h0_keptName, .ref h0_isKept, .ref h0_onces, .int h0_snapMany, .int h0_lowest, .int h0_highest, .int h0_agreed, .int h0_jurors, .int h0_panelled, .ref h0_inSets, .int h0_surely, .int h0_asked, .ref h0_frees, .int h0_struck, .int h0_beating, .ref h0_text, .int h0_texts, .int h0_seed, .ref h0_line, .ref h0_written, .int h0_lineMany, .int h0_hasWritten, .ref h0_node, .int h0_nodes, .int h0_onesMany, .int h0_within, .int h0_top])), (aI ca h0_text 64 g_5)] H := hP
  have hD : va_D A [(h0, .inr (11, [.int h0_thrown, .ref h0_tape, .int h0_taped, .int h0_size, .int h0_limit, .int h0_to, .int h0_from, .int h0_kind, .int h0_number, .int h0_sign, .int h0_fault, .int h0_place, .long h0_word, .int h0_told, .ref h0_now, .ref h0_read, .ref h0_kept, .ref h0_snaps, .ref h0_aside, .ref h0_name, .ref h0_readName, .ref h0_keptName, .ref h0_isKept, .ref h0_onces, .int h0_snapMany, .int h0_lowest, .int h0_highest, .int h0_agreed, .int h0_jurors, .int h0_panelled, .ref h0_inSets, .int h0_surely, .int h0_asked, .ref h0_frees, .int h0_struck, .int h0_beating, .ref h0_text, .int h0_texts, .int h0_seed, .ref h0_line, .ref h0_written, .int h0_lineMany, .int h0_hasWritten, .ref h0_node, .int h0_nodes, .int h0_onesMany, .int h0_within, .int h0_top])), (aI ca h0_text 64 g_5)] := hD
  refine lv_aload_n hx hb dX12_write_10 rfl (lv_at hl 0 rfl) ?_
  refine lv_dup hx hb dX12_write_11 rfl ?_
  refine va_get (D := D) (ci := 11) (v := .int h0_texts) (C := RX12) (T := TX12) (N := 48) hx hb hts k2 hown hK.1 hP 0 rfl rfl 37 (by decide) k3 (fun _ h9 => h9) rfl dX12_write_12 ?_
  refine lv_iconst (v := 1) hx hb dX12_write_15 (by decide) ?_
  refine lv_iadd hx hb dX12_write_16 ?_
  refine lv_topi (fun x_6 ex_6 => ?_)
  have h_7 : rg 1 64 x_6 := by rw [ex_6]; exact rg_add i_h0_texts (⟨by decide, by decide⟩ : rg 1 1 (1 : Int32)) (by decide) (by decide) (by decide) (by decide)
  have l_8 : lq x_6.toInt (h0_texts.toInt + 1) := lqm (by rw [ex_6]; have q := tadd i_h0_texts (⟨by decide, by decide⟩ : rg 1 1 (1 : Int32)) (by decide) (by decide); have r1 := lqe (lqm (by decide) : lq (1 : Int32).toInt 1); omega)
  refine va_put (D := D) (ci := 11) (v := .int x_6) (ty := .int) (C := RX12) (T := TX12) (N := 48) hx hb hts k2 tyX12 tyX12_ok nmX12 hown hK.1 hP hD hS 0 rfl rfl 37 (by decide) k3 (fun _ h9 => h9) rfl (by decide +kernel) rfl rfl (Nat.le_of_ble_eq_true rfl) dX12_write_17 (fun H locs hP hD hS => ?_)
  have hP : va_P D vwCl [(h0, .inr (11, [.int h0_thrown, .ref h0_tape, .int h0_taped, .int h0_size, .int h0_limit, .int h0_to, .int h0_from, .int h0_kind, .int h0_number, .int h0_sign, .int h0_fault, .int h0_place, .long h0_word, .int h0_told, .ref h0_now, .ref h0_read, .ref h0_kept, .ref h0_snaps, .ref h0_aside, .ref h0_name, .ref h0_readName, .ref h0_keptName, .ref h0_isKept, .ref h0_onces, .int h0_snapMany, .int h0_lowest, .int h0_highest, .int h0_agreed, .int h0_jurors, .int h0_panelled, .ref h0_inSets, .int h0_surely, .int h0_asked, .ref h0_frees, .int h0_struck, .int h0_beating, .ref h0_text, .int x_6, .int h0_seed, .ref h0_line, .ref h0_written, .int h0_lineMany, .int h0_hasWritten, .ref h0_node, .int h0_nodes, .int h0_onesMany, .int h0_within, .int h0_top])), (aI ca h0_text 64 g_5)] H := hP
  have hD : va_D A [(h0, .inr (11, [.int h0_thrown, .ref h0_tape, .int h0_taped, .int h0_size, .int h0_limit, .int h0_to, .int h0_from, .int h0_kind, .int h0_number, .int h0_sign, .int h0_fault, .int h0_place, .long h0_word, .int h0_told, .ref h0_now, .ref h0_read, .ref h0_kept, .ref h0_snaps, .ref h0_aside, .ref h0_name, .ref h0_readName, .ref h0_keptName, .ref h0_isKept, .ref h0_onces, .int h0_snapMany, .int h0_lowest, .int h0_highest, .int h0_agreed, .int h0_jurors, .int h0_panelled, .ref h0_inSets, .int h0_surely, .int h0_asked, .ref h0_frees, .int h0_struck, .int h0_beating, .ref h0_text, .int x_6, .int h0_seed, .ref h0_line, .ref h0_written, .int h0_lineMany, .int h0_hasWritten, .ref h0_node, .int h0_nodes, .int h0_onesMany, .int h0_within, .int h0_top])), (aI ca h0_text 64 g_5)] := hD
  exact oE_v hx hb hr hlocks hP hD hS (x_6, g_5) [0, 1] rfl (by decide) ⟨h_7, (show rl 1 h0_texts x_6 from rlm (by have q0 := lqe l_8; omega)), (show rl (-1) x_6 h0_texts from rlm (by have q0 := lqe l_8; omega))⟩ (Nat.le_of_ble_eq_true rfl) (Nat.le_of_ble_eq_true rfl) dX12_write_20
theorem dX12_byteAt_0 : decode cX12_byteAt 0 = .ok (.aload_n 0, 1) := by decide +kernel
theorem dX12_byteAt_1 : decode cX12_byteAt 1 = .ok (.iconst 0, 1) := by decide +kernel
theorem dX12_byteAt_2 : decode cX12_byteAt 2 = .ok (.putfield 1, 3) := by decide +kernel
theorem dX12_byteAt_5 : decode cX12_byteAt 5 = .ok (.iload_n 1, 1) := by decide +kernel
theorem dX12_byteAt_6 : decode cX12_byteAt 6 = .ok (.iconst 0, 1) := by decide +kernel
theorem dX12_byteAt_7 : decode cX12_byteAt 7 = .ok (.aload_n 0, 1) := by decide +kernel
theorem dX12_byteAt_8 : decode cX12_byteAt 8 = .ok (.getfield 326, 3) := by decide +kernel
theorem dX12_byteAt_11 : decode cX12_byteAt 11 = .ok (.iconst 1, 1) := by decide +kernel
theorem dX12_byteAt_12 : decode cX12_byteAt 12 = .ok (.isub, 1) := by decide +kernel
theorem dX12_byteAt_13 : decode cX12_byteAt 13 = .ok (.invokestatic 75, 3) := by decide +kernel
theorem dX12_byteAt_16 : decode cX12_byteAt 16 = .ok (.ifCond .eq 12, 3) := by decide +kernel
theorem dX12_byteAt_19 : decode cX12_byteAt 19 = .ok (.aload_n 0, 1) := by decide +kernel
theorem dX12_byteAt_20 : decode cX12_byteAt 20 = .ok (.getfield 157, 3) := by decide +kernel
theorem dX12_byteAt_23 : decode cX12_byteAt 23 = .ok (.iload_n 1, 1) := by decide +kernel
theorem dX12_byteAt_24 : decode cX12_byteAt 24 = .ok (.iaload, 1) := by decide +kernel
theorem dX12_byteAt_25 : decode cX12_byteAt 25 = .ok (.goto 4, 3) := by decide +kernel
theorem dX12_byteAt_28 : decode cX12_byteAt 28 = .ok (.iconst (-1), 1) := by decide +kernel
theorem dX12_byteAt_29 : decode cX12_byteAt 29 = .ok (.ireturn, 1) := by decide +kernel
theorem dX12_roll_0 : decode cX12_roll 0 = .ok (.aload_n 0, 1) := by decide +kernel
theorem dX12_roll_1 : decode cX12_roll 1 = .ok (.iconst 0, 1) := by decide +kernel
theorem dX12_roll_2 : decode cX12_roll 2 = .ok (.putfield 1, 3) := by decide +kernel
theorem dX12_roll_5 : decode cX12_roll 5 = .ok (.aload_n 0, 1) := by decide +kernel
theorem dX12_roll_6 : decode cX12_roll 6 = .ok (.iload_n 1, 1) := by decide +kernel
theorem dX12_roll_7 : decode cX12_roll 7 = .ok (.invokevirtual 255, 3) := by decide +kernel
theorem dX12_roll_10 : decode cX12_roll 10 = .ok (.ifCond .ne 5, 3) := by decide +kernel
theorem dX12_roll_13 : decode cX12_roll 13 = .ok (.iconst (-1), 1) := by decide +kernel
theorem dX12_roll_14 : decode cX12_roll 14 = .ok (.ireturn, 1) := by decide +kernel
theorem dX12_roll_15 : decode cX12_roll 15 = .ok (.aload_n 0, 1) := by decide +kernel
theorem dX12_roll_16 : decode cX12_roll 16 = .ok (.iconst 0, 1) := by decide +kernel
theorem dX12_roll_17 : decode cX12_roll 17 = .ok (.putfield 326, 3) := by decide +kernel
theorem dX12_roll_20 : decode cX12_roll 20 = .ok (.aload_n 0, 1) := by decide +kernel
theorem dX12_roll_21 : decode cX12_roll 21 = .ok (.aload_n 0, 1) := by decide +kernel
theorem dX12_roll_22 : decode cX12_roll 22 = .ok (.getfield 113, 3) := by decide +kernel
theorem dX12_roll_25 : decode cX12_roll 25 = .ok (.bipush 14, 2) := by decide +kernel
theorem dX12_roll_27 : decode cX12_roll 27 = .ok (.iload_n 1, 1) := by decide +kernel
theorem dX12_roll_28 : decode cX12_roll 28 = .ok (.iadd, 1) := by decide +kernel
theorem dX12_roll_29 : decode cX12_roll 29 = .ok (.laload, 1) := by decide +kernel
theorem dX12_roll_30 : decode cX12_roll 30 = .ok (.invokevirtual 329, 3) := by decide +kernel
theorem dX12_writeNext_0 : decode cX12_writeNext 0 = .ok (.aload_n 0, 1) := by decide +kernel
theorem dX12_writeNext_1 : decode cX12_writeNext 1 = .ok (.bipush 32, 2) := by decide +kernel
theorem dX12_writeNext_3 : decode cX12_writeNext 3 = .ok (.invokevirtual 333, 3) := by decide +kernel
theorem dX12_writeNumber_0 : decode cX12_writeNumber 0 = .ok (.iload_n 1, 1) := by decide +kernel
theorem dX12_writeNumber_1 : decode cX12_writeNumber 1 = .ok (.bipush 9, 2) := by decide +kernel
theorem dX12_writeNumber_3 : decode cX12_writeNumber 3 = .ok (.if_icmp .le 11, 3) := by decide +kernel
theorem dX12_writeNumber_6 : decode cX12_writeNumber 6 = .ok (.aload_n 0, 1) := by decide +kernel
theorem dX12_writeNumber_7 : decode cX12_writeNumber 7 = .ok (.iload_n 1, 1) := by decide +kernel
theorem dX12_writeNumber_8 : decode cX12_writeNumber 8 = .ok (.bipush 10, 2) := by decide +kernel
theorem dX12_writeNumber_10 : decode cX12_writeNumber 10 = .ok (.idiv, 1) := by decide +kernel
theorem dX12_writeNumber_11 : decode cX12_writeNumber 11 = .ok (.invokevirtual 336, 3) := by decide +kernel
theorem dX12_writeWord_0 : decode cX12_writeWord 0 = .ok (.lload_n 1, 1) := by decide +kernel
theorem dX12_writeWord_1 : decode cX12_writeWord 1 = .ok (.ldc2_w 54, 3) := by decide +kernel
theorem dX12_writeWord_4 : decode cX12_writeWord 4 = .ok (.lcmp, 1) := by decide +kernel
theorem dX12_writeWord_5 : decode cX12_writeWord 5 = .ok (.ifCond .lt 12, 3) := by decide +kernel
theorem dX12_writeWord_8 : decode cX12_writeWord 8 = .ok (.aload_n 0, 1) := by decide +kernel
theorem dX12_writeWord_9 : decode cX12_writeWord 9 = .ok (.lload_n 1, 1) := by decide +kernel
theorem dX12_writeWord_10 : decode cX12_writeWord 10 = .ok (.ldc2_w 54, 3) := by decide +kernel
theorem dX12_writeWord_13 : decode cX12_writeWord 13 = .ok (.ldiv, 1) := by decide +kernel
theorem dX12_writeWord_14 : decode cX12_writeWord 14 = .ok (.invokevirtual 329, 3) := by decide +kernel
set_option maxRecDepth 20000 in
theorem ggX12_roll_X12_isCase : GoodIn wsX12_roll wsX12_isCase := goodIn_r _ [9, 4, 10, 11, 8, 12, 38, 39, 40, 41, 42, 43, 44, 45, 46, 47, 48, 49, 50, 51, 52, 53, 54, 55, 56, 57, 58, 59, 60, 61, 62, 63, 64, 65, 66, 67, 68, 69, 70, 71, 72, 73, 74, 75, 76, 77, 78, 79, 80, 81, 82, 83, 84, 85] rfl (by decide +kernel)
set_option maxRecDepth 20000 in
theorem gX12_roll_X12_isCase : GoodIn wsX12_roll (wsV RX12 255 RX12 yX12_isCase wsX12_isCase) := goodIn_app (goodIn_of _ (by decide +kernel)) ggX12_roll_X12_isCase
set_option maxRecDepth 20000 in
theorem ggX12_byteAt_X12_isIn : GoodIn wsX12_byteAt wsX12_isIn := goodIn_r _ [7] rfl (by decide +kernel)
set_option maxRecDepth 20000 in
theorem gX12_byteAt_X12_isIn : GoodIn wsX12_byteAt (va_wsS RX12 75 yX12_isIn wsX12_isIn) := goodIn_app (goodIn_of _ (by decide +kernel)) ggX12_byteAt_X12_isIn
set_option maxHeartbeats 4000000 in
set_option maxRecDepth 100000 in
theorem s_X12_byteAt (l : Launch) (D : va_G) (ca : Nat → ClassId) (sz : Nat) (h0 : Nat) (a1 : Int32) (h0_thrown : Int32) (h0_tape : Nat) (h0_taped : Int32) (h0_size : Int32) (h0_limit : Int32) (h0_to : Int32) (h0_from : Int32) (h0_kind : Int32) (h0_number : Int32) (h0_sign : Int32) (h0_fault : Int32) (h0_place : Int32) (h0_word : Int64) (h0_told : Int32) (h0_now : Nat) (h0_read : Nat) (h0_kept : Nat) (h0_snaps : Nat) (h0_aside : Nat) (h0_name : Nat) (h0_readName : Nat) (h0_keptName : Nat) (h0_isKept : Nat) (h0_onces : Nat) (h0_snapMany : Int32) (h0_lowest : Int32) (h0_highest : Int32) (h0_agreed : Int32) (h0_jurors : Int32) (h0_panelled : Int32) (h0_inSets : Nat) (h0_surely : Int32) (h0_asked : Int32) (h0_frees : Nat) (h0_struck : Int32) (h0_beating : Int32) (h0_text : Nat) (h0_texts : Int32) (h0_seed : Int32) (h0_line : Nat) (h0_written : Nat) (h0_lineMany : Int32) (h0_hasWritten : Int32) (h0_node : Nat) (h0_nodes : Int32) (h0_onesMany : Int32) (h0_within : Int32) (h0_top : Int32) (F_h0_text : Nat → Int32) (i_h0_taped : rg 0 940 h0_taped) (i_h0_size : rg 0 940 h0_size) (i_h0_to : rg 0 940 h0_to) (i_h0_snapMany : rg 0 8 h0_snapMany) (i_h0_texts : rg 0 64 h0_texts) (i_h0_lineMany : rg 0 40 h0_lineMany) (i_h0_hasWritten : rg 0 1 h0_hasWritten) : oMet l yX12_byteAt wsX12_byteAt ({ frames := 1, cells := 0, slots := 0, locals := 22 } : Room) [.ref h0, .int a1] D ca sz [(h0, .inr (11, [.int h0_thrown, .ref h0_tape, .int h0_taped, .int h0_size, .int h0_limit, .int h0_to, .int h0_from, .int h0_kind, .int h0_number, .int h0_sign, .int h0_fault, .int h0_place, .long h0_word, .int h0_told, .ref h0_now, .ref h0_read, .ref h0_kept, .ref h0_snaps, .ref h0_aside, .ref h0_name, .ref h0_readName, .ref h0_keptName, .ref h0_isKept, .ref h0_onces, .int h0_snapMany, .int h0_lowest, .int h0_highest, .int h0_agreed, .int h0_jurors, .int h0_panelled, .ref h0_inSets, .int h0_surely, .int h0_asked, .ref h0_frees, .int h0_struck, .int h0_beating, .ref h0_text, .int h0_texts, .int h0_seed, .ref h0_line, .ref h0_written, .int h0_lineMany, .int h0_hasWritten, .ref h0_node, .int h0_nodes, .int h0_onesMany, .int h0_within, .int h0_top])), (aI ca h0_text 64 F_h0_text)] (oQi D (fun (r : Int32) (u : Unit) => True) (fun (u : Unit) => [(h0, .inr (11, [.int 0, .ref h0_tape, .int h0_taped, .int h0_size, .int h0_limit, .int h0_to, .int h0_from, .int h0_kind, .int h0_number, .int h0_sign, .int h0_fault, .int h0_place, .long h0_word, .int h0_told, .ref h0_now, .ref h0_read, .ref h0_kept, .ref h0_snaps, .ref h0_aside, .ref h0_name, .ref h0_readName, .ref h0_keptName, .ref h0_isKept, .ref h0_onces, .int h0_snapMany, .int h0_lowest, .int h0_highest, .int h0_agreed, .int h0_jurors, .int h0_panelled, .ref h0_inSets, .int h0_surely, .int h0_asked, .ref h0_frees, .int h0_struck, .int h0_beating, .ref h0_text, .int h0_texts, .int h0_seed, .ref h0_line, .ref h0_written, .int h0_lineMany, .int h0_hasWritten, .ref h0_node, .int h0_nodes, .int h0_onesMany, .int h0_within, .int h0_top])), (aI ca h0_text 64 F_h0_text)])) 0 0 := by
  refine oM (cc := cX12_byteAt) (maxL := 2) (ret := (some .int)) (by decide) rfl (Nat.le_of_ble_eq_true rfl) [(0, .ref h0), (1, .int a1)] rfl ?_
  intro p e s m below meth c A H locs ls hx hb hr hml hts hown hlocks hin hK hP hD hA hS hl
  have hown : s.vm.findClass RX12 = some m.cls := hown
  have k1 := hts (.fieldLink RX12 1 "LidCourtModel" "thrown" "I") (by decide +kernel)
  have k2 : ∀ w ∈ wsX120, w ∈ wsX12_byteAt := fun _ h => List.mem_cons_of_mem _ (List.mem_append_right _ h)
  have k3 := hts (.fieldLink RX12 326 "LidCourtModel" "texts" "I") (by decide +kernel)
  have k4 := hts (.fieldLink RX12 157 "LidCourtModel" "text" "[I") (by decide +kernel)
  refine lv_aload_n hx hb dX12_byteAt_0 rfl (lv_at hl 0 rfl) ?_
  refine lv_iconst (v := 0) hx hb dX12_byteAt_1 (by decide) ?_
  refine va_put (D := D) (ci := 11) (v := .int 0) (ty := .int) (C := RX12) (T := TX12) (N := 48) hx hb hts k2 tyX12 tyX12_ok nmX12 hown hK.1 hP hD hS 0 rfl rfl 0 (by decide) k1 (fun _ h9 => h9) rfl (by decide +kernel) rfl rfl (Nat.le_of_ble_eq_true rfl) dX12_byteAt_2 (fun H locs hP hD hS => ?_)
  have hP : va_P D vwCl [(h0, .inr (11, [.int 0, .ref h0_tape, .int h0_taped, .int h0_size, .int h0_limit, .int h0_to, .int h0_from, .int h0_kind, .int h0_number, .int h0_sign, .int h0_fault, .int h0_place, .long h0_word, .int h0_told, .ref h0_now, .ref h0_read, .ref h0_kept, .ref h0_snaps, .ref h0_aside, .ref h0_name, .ref h0_readName, .ref h0_keptName, .ref h0_isKept, .ref h0_onces, .int h0_snapMany, .int h0_lowest, .int h0_highest, .int h0_agreed, .int h0_jurors, .int h0_panelled, .ref h0_inSets, .int h0_surely, .int h0_asked, .ref h0_frees, .int h0_struck, .int h0_beating, .ref h0_text, .int h0_texts, .int h0_seed, .ref h0_line, .ref h0_written, .int h0_lineMany, .int h0_hasWritten, .ref h0_node, .int h0_nodes, .int h0_onesMany, .int h0_within, .int h0_top])), (aI ca h0_text 64 F_h0_text)] H := hP
  have hD : va_D A [(h0, .inr (11, [.int 0, .ref h0_tape, .int h0_taped, .int h0_size, .int h0_limit, .int h0_to, .int h0_from, .int h0_kind, .int h0_number, .int h0_sign, .int h0_fault, .int h0_place, .long h0_word, .int h0_told, .ref h0_now, .ref h0_read, .ref h0_kept, .ref h0_snaps, .ref h0_aside, .ref h0_name, .ref h0_readName, .ref h0_keptName, .ref h0_isKept, .ref h0_onces, .int h0_snapMany, .int h0_lowest, .int h0_highest, .int h0_agreed, .int h0_jurors, .int h0_panelled, .ref h0_inSets, .int h0_surely, .int h0_asked, .ref h0_frees, .int h0_struck, .int h0_beating, .ref h0_text, .int h0_texts, .int h0_seed, .ref h0_line, .ref h0_written, .int h0_lineMany, .int h0_hasWritten, .ref h0_node, .int h0_nodes, .int h0_onesMany, .int h0_within, .int h0_top])), (aI ca h0_text 64 F_h0_text)] := hD
  refine lv_iload_n hx hb dX12_byteAt_5 rfl (lv_at hl 1 rfl) ?_
  refine lv_iconst (v := 0) hx hb dX12_byteAt_6 (by decide) ?_
  refine lv_aload_n hx hb dX12_byteAt_7 rfl (lv_at hl 0 rfl) ?_
  refine va_get (D := D) (ci := 11) (v := .int h0_texts) (C := RX12) (T := TX12) (N := 48) hx hb hts k2 hown hK.1 hP 0 rfl rfl 37 (by decide) k3 (fun _ h9 => h9) rfl dX12_byteAt_8 ?_
  refine lv_iconst (v := 1) hx hb dX12_byteAt_11 (by decide) ?_
  refine lv_isub hx hb dX12_byteAt_12 ?_
  refine lv_topi (fun x_15 ex_15 => ?_)
  have h_16 : rg (-1) 63 x_15 := by rw [ex_15]; exact rg_sub i_h0_texts (⟨by decide, by decide⟩ : rg 1 1 (1 : Int32)) (by decide) (by decide) (by decide) (by decide)
  have l_17 : lq x_15.toInt (h0_texts.toInt + (-1)) := lqm (by rw [ex_15]; have q := tsub i_h0_texts (⟨by decide, by decide⟩ : rg 1 1 (1 : Int32)) (by decide) (by decide); have r1 := lqe (lqm (by decide) : lq (1 : Int32).toInt 1); omega)
  refine oC_i (Wc := []) (Wr := [(h0, .inr (11, [.int 0, .ref h0_tape, .int h0_taped, .int h0_size, .int h0_limit, .int h0_to, .int h0_from, .int h0_kind, .int h0_number, .int h0_sign, .int h0_fault, .int h0_place, .long h0_word, .int h0_told, .ref h0_now, .ref h0_read, .ref h0_kept, .ref h0_snaps, .ref h0_aside, .ref h0_name, .ref h0_readName, .ref h0_keptName, .ref h0_isKept, .ref h0_onces, .int h0_snapMany, .int h0_lowest, .int h0_highest, .int h0_agreed, .int h0_jurors, .int h0_panelled, .ref h0_inSets, .int h0_surely, .int h0_asked, .ref h0_frees, .int h0_struck, .int h0_beating, .ref h0_text, .int h0_texts, .int h0_seed, .ref h0_line, .ref h0_written, .int h0_lineMany, .int h0_hasWritten, .ref h0_node, .int h0_nodes, .int h0_onesMany, .int h0_within, .int h0_top])), (aI ca h0_text 64 F_h0_text)]) (va_runS (As := [.int a1, .int 0, .int x_15]) (rest := []) ⟨hx, hb, hml, hown, hts⟩ (s_X12_isIn l D ca H.size a1 0 x_15) (va_cwS 3 hts gX12_byteAt_X12_isIn rfl rfl rfl (by decide +kernel) ⟨Nat.le_of_ble_eq_true rfl, Nat.le_of_ble_eq_true rfl⟩) (oPS hK hP hD [] rfl (by decide)) rfl rfl hl.1 rfl (lv_room (Nat.le_of_ble_eq_true rfl)) dX12_byteAt_13 ⟨Nat.le_of_ble_eq_true rfl, Nat.le_of_ble_eq_true rfl⟩) hP hD hS hA [] [0, 1] rfl rfl (by decide) (by decide) (fun r_18 u H locs w_19 hP hD hS => ?_)
  obtain ⟨⟩ := u
  have hP : va_P D vwCl [(h0, .inr (11, [.int 0, .ref h0_tape, .int h0_taped, .int h0_size, .int h0_limit, .int h0_to, .int h0_from, .int h0_kind, .int h0_number, .int h0_sign, .int h0_fault, .int h0_place, .long h0_word, .int h0_told, .ref h0_now, .ref h0_read, .ref h0_kept, .ref h0_snaps, .ref h0_aside, .ref h0_name, .ref h0_readName, .ref h0_keptName, .ref h0_isKept, .ref h0_onces, .int h0_snapMany, .int h0_lowest, .int h0_highest, .int h0_agreed, .int h0_jurors, .int h0_panelled, .ref h0_inSets, .int h0_surely, .int h0_asked, .ref h0_frees, .int h0_struck, .int h0_beating, .ref h0_text, .int h0_texts, .int h0_seed, .ref h0_line, .ref h0_written, .int h0_lineMany, .int h0_hasWritten, .ref h0_node, .int h0_nodes, .int h0_onesMany, .int h0_within, .int h0_top])), (aI ca h0_text 64 F_h0_text)] H := hP
  have hD : va_D A [(h0, .inr (11, [.int 0, .ref h0_tape, .int h0_taped, .int h0_size, .int h0_limit, .int h0_to, .int h0_from, .int h0_kind, .int h0_number, .int h0_sign, .int h0_fault, .int h0_place, .long h0_word, .int h0_told, .ref h0_now, .ref h0_read, .ref h0_kept, .ref h0_snaps, .ref h0_aside, .ref h0_name, .ref h0_readName, .ref h0_keptName, .ref h0_isKept, .ref h0_onces, .int h0_snapMany, .int h0_lowest, .int h0_highest, .int h0_agreed, .int h0_jurors, .int h0_panelled, .ref h0_inSets, .int h0_surely, .int h0_asked, .ref h0_frees, .int h0_struck, .int h0_beating, .ref h0_text, .int h0_texts, .int h0_seed, .ref h0_line, .ref h0_written, .int h0_lineMany, .int h0_hasWritten, .ref h0_node, .int h0_nodes, .int h0_onesMany, .int h0_within, .int h0_top])), (aI ca h0_text 64 F_h0_text)] := hD
  try dsimp only at w_19
  rcases w_19 with h_20 | ⟨h_21, h_22, h_23⟩
  · skip
    subst h_20
    refine lv_if_eq (tgt := 28) hx hb dX12_byteAt_16 (by decide) (fun _ => ?_) (fun c => absurd (by decide) c)
    refine lv_iconst (v := (-1)) hx hb dX12_byteAt_28 (by decide) ?_
    exact oE_i hx hb hr rfl hlocks hP hD hS () [0, 1] rfl (by decide) trivial (Nat.le_of_ble_eq_true rfl) (Nat.le_of_ble_eq_true rfl) dX12_byteAt_29
  · skip
    subst h_21
    have h_24 : rg 0 2147483647 a1 := rl_y h_22 (⟨by decide, by decide⟩ : rg 0 0 (0 : Int32)) (rga a1) (by decide) (by decide)
    have h_25 : rg 0 63 a1 := rl_x h_23 h_24 h_16 (by decide) (by decide)
    have h_26 : rg 0 63 x_15 := rl_y h_23 h_24 h_16 (by decide) (by decide)
    have h_27 : rg 1 64 h0_texts := ⟨by have q := lqe l_17; have q1 := (h_26).1; have q2 := (i_h0_texts).1; omega, by have q := lqe l_17; have q1 := (h_26).2; have q2 := (i_h0_texts).2; omega⟩
    refine lv_if_eq (tgt := 28) hx hb dX12_byteAt_16 (by decide) (fun c => absurd c (by decide)) (fun _ => ?_)
    refine lv_aload_n hx hb dX12_byteAt_19 rfl (lv_at hl 0 rfl) ?_
    refine va_get (D := D) (ci := 11) (v := .ref h0_text) (C := RX12) (T := TX12) (N := 48) hx hb hts k2 hown hK.1 hP 0 rfl rfl 36 (by decide) k4 (fun _ h9 => h9) rfl dX12_byteAt_20 ?_
    refine lv_iload_n hx hb dX12_byteAt_23 rfl (lv_at hl 1 rfl) ?_
    refine va_iald hx hb hK.1 hP 1 0 rfl rfl (rg_in h_25 (by decide) (by decide)) dX12_byteAt_24 ?_
    refine lv_topi (fun x_28 ex_28 => ?_)
    refine lv_goto (tgt := 29) hx hb dX12_byteAt_25 (by decide) ?_
    exact oE_i hx hb hr rfl hlocks hP hD hS () [0, 1] rfl (by decide) trivial (Nat.le_of_ble_eq_true rfl) (Nat.le_of_ble_eq_true rfl) dX12_byteAt_29
theorem dX12_draw_0 : decode cX12_draw 0 = .ok (.aload_n 0, 1) := by decide +kernel
theorem dX12_draw_1 : decode cX12_draw 1 = .ok (.aload_n 0, 1) := by decide +kernel
theorem dX12_draw_2 : decode cX12_draw 2 = .ok (.getfield 342, 3) := by decide +kernel
theorem dX12_draw_5 : decode cX12_draw 5 = .ok (.ldc_w 345, 3) := by decide +kernel
theorem dX12_draw_8 : decode cX12_draw 8 = .ok (.imul, 1) := by decide +kernel
theorem dX12_draw_9 : decode cX12_draw 9 = .ok (.sipush 12345, 3) := by decide +kernel
theorem dX12_draw_12 : decode cX12_draw 12 = .ok (.iadd, 1) := by decide +kernel
theorem dX12_draw_13 : decode cX12_draw 13 = .ok (.putfield 342, 3) := by decide +kernel
theorem dX12_draw_16 : decode cX12_draw 16 = .ok (.aload_n 0, 1) := by decide +kernel
theorem dX12_draw_17 : decode cX12_draw 17 = .ok (.getfield 342, 3) := by decide +kernel
theorem dX12_draw_20 : decode cX12_draw 20 = .ok (.bipush 8, 2) := by decide +kernel
theorem dX12_draw_22 : decode cX12_draw 22 = .ok (.iushr, 1) := by decide +kernel
theorem dX12_draw_23 : decode cX12_draw 23 = .ok (.iload_n 1, 1) := by decide +kernel
theorem dX12_draw_24 : decode cX12_draw 24 = .ok (.irem, 1) := by decide +kernel
theorem dX12_draw_25 : decode cX12_draw 25 = .ok (.ireturn, 1) := by decide +kernel
set_option maxHeartbeats 4000000 in
set_option maxRecDepth 100000 in
theorem s_X12_draw (l : Launch) (D : va_G) (ca : Nat → ClassId) (sz : Nat) (h0 : Nat) (a1 : Int32) (h0_thrown : Int32) (h0_tape : Nat) (h0_taped : Int32) (h0_size : Int32) (h0_limit : Int32) (h0_to : Int32) (h0_from : Int32) (h0_kind : Int32) (h0_number : Int32) (h0_sign : Int32) (h0_fault : Int32) (h0_place : Int32) (h0_word : Int64) (h0_told : Int32) (h0_now : Nat) (h0_read : Nat) (h0_kept : Nat) (h0_snaps : Nat) (h0_aside : Nat) (h0_name : Nat) (h0_readName : Nat) (h0_keptName : Nat) (h0_isKept : Nat) (h0_onces : Nat) (h0_snapMany : Int32) (h0_lowest : Int32) (h0_highest : Int32) (h0_agreed : Int32) (h0_jurors : Int32) (h0_panelled : Int32) (h0_inSets : Nat) (h0_surely : Int32) (h0_asked : Int32) (h0_frees : Nat) (h0_struck : Int32) (h0_beating : Int32) (h0_text : Nat) (h0_texts : Int32) (h0_seed : Int32) (h0_line : Nat) (h0_written : Nat) (h0_lineMany : Int32) (h0_hasWritten : Int32) (h0_node : Nat) (h0_nodes : Int32) (h0_onesMany : Int32) (h0_within : Int32) (h0_top : Int32) (i_a1 : rg 1 12 a1) (i_h0_taped : rg 0 940 h0_taped) (i_h0_size : rg 0 940 h0_size) (i_h0_to : rg 0 940 h0_to) (i_h0_snapMany : rg 0 8 h0_snapMany) (i_h0_texts : rg 0 64 h0_texts) (i_h0_lineMany : rg 0 40 h0_lineMany) (i_h0_hasWritten : rg 0 1 h0_hasWritten) : oMet l yX12_draw wsX12_draw ({ frames := 0, cells := 0, slots := 0, locals := 0 } : Room) [.ref h0, .int a1] D ca sz [(h0, .inr (11, [.int h0_thrown, .ref h0_tape, .int h0_taped, .int h0_size, .int h0_limit, .int h0_to, .int h0_from, .int h0_kind, .int h0_number, .int h0_sign, .int h0_fault, .int h0_place, .long h0_word, .int h0_told, .ref h0_now, .ref h0_read, .ref h0_kept, .ref h0_snaps, .ref h0_aside, .ref h0_name, .ref h0_readName, .ref h0_keptName, .ref h0_isKept, .ref h0_onces, .int h0_snapMany, .int h0_lowest, .int h0_highest, .int h0_agreed, .int h0_jurors, .int h0_panelled, .ref h0_inSets, .int h0_surely, .int h0_asked, .ref h0_frees, .int h0_struck, .int h0_beating, .ref h0_text, .int h0_texts, .int h0_seed, .ref h0_line, .ref h0_written, .int h0_lineMany, .int h0_hasWritten, .ref h0_node, .int h0_nodes, .int h0_onesMany, .int h0_within, .int h0_top]))] (oQi D (fun (r : Int32) (u : Int32) => (rg 0 11 r) ∧ (rl 1 r a1)) (fun (u : Int32) => [(h0, .inr (11, [.int h0_thrown, .ref h0_tape, .int h0_taped, .int h0_size, .int h0_limit, .int h0_to, .int h0_from, .int h0_kind, .int h0_number, .int h0_sign, .int h0_fault, .int h0_place, .long h0_word, .int h0_told, .ref h0_now, .ref h0_read, .ref h0_kept, .ref h0_snaps, .ref h0_aside, .ref h0_name, .ref h0_readName, .ref h0_keptName, .ref h0_isKept, .ref h0_onces, .int h0_snapMany, .int h0_lowest, .int h0_highest, .int h0_agreed, .int h0_jurors, .int h0_panelled, .ref h0_inSets, .int h0_surely, .int h0_asked, .ref h0_frees, .int h0_struck, .int h0_beating, .ref h0_text, .int h0_texts, .int u, .ref h0_line, .ref h0_written, .int h0_lineMany, .int h0_hasWritten, .ref h0_node, .int h0_nodes, .int h0_onesMany, .int h0_within, .int h0_top]))])) 0 0 := by
  refine oM (cc := cX12_draw) (maxL := 2) (ret := (some .int)) (by decide) rfl (Nat.le_of_ble_eq_true rfl) [(0, .ref h0), (1, .int a1)] rfl ?_
  intro p e s m below meth c A H locs ls hx hb hr hml hts hown hlocks hin hK hP hD hA hS hl
  have hown : s.vm.findClass RX12 = some m.cls := hown
  have k1 := hts (.fieldLink RX12 342 "LidCourtModel" "seed" "I") (by decide +kernel)
  have k2 : ∀ w ∈ wsX120, w ∈ wsX12_draw := fun _ h => List.mem_cons_of_mem _ (List.mem_append_right _ h)
  have k3 := hts (.constant RX12 345 1103515245) (by decide +kernel)
  refine lv_aload_n hx hb dX12_draw_0 rfl (lv_at hl 0 rfl) ?_
  refine lv_aload_n hx hb dX12_draw_1 rfl (lv_at hl 0 rfl) ?_
  refine va_get (D := D) (ci := 11) (v := .int h0_seed) (C := RX12) (T := TX12) (N := 48) hx hb hts k2 hown hK.1 hP 0 rfl rfl 38 (by decide) k1 (fun _ h9 => h9) rfl dX12_draw_2 ?_
  refine lv_ldcw (v := 1103515245) hx hb hown k3 dX12_draw_5 ?_
  refine lv_imul hx hb dX12_draw_8 ?_
  refine lv_topi (fun x_8 ex_8 => ?_)
  refine lv_sipush (v := 12345) hx hb dX12_draw_9 (by decide) ?_
  refine lv_iadd hx hb dX12_draw_12 ?_
  refine lv_topi (fun x_9 ex_9 => ?_)
  refine va_put (D := D) (ci := 11) (v := .int x_9) (ty := .int) (C := RX12) (T := TX12) (N := 48) hx hb hts k2 tyX12 tyX12_ok nmX12 hown hK.1 hP hD hS 0 rfl rfl 38 (by decide) k1 (fun _ h9 => h9) rfl (by decide +kernel) rfl rfl (Nat.le_of_ble_eq_true rfl) dX12_draw_13 (fun H locs hP hD hS => ?_)
  have hP : va_P D vwCl [(h0, .inr (11, [.int h0_thrown, .ref h0_tape, .int h0_taped, .int h0_size, .int h0_limit, .int h0_to, .int h0_from, .int h0_kind, .int h0_number, .int h0_sign, .int h0_fault, .int h0_place, .long h0_word, .int h0_told, .ref h0_now, .ref h0_read, .ref h0_kept, .ref h0_snaps, .ref h0_aside, .ref h0_name, .ref h0_readName, .ref h0_keptName, .ref h0_isKept, .ref h0_onces, .int h0_snapMany, .int h0_lowest, .int h0_highest, .int h0_agreed, .int h0_jurors, .int h0_panelled, .ref h0_inSets, .int h0_surely, .int h0_asked, .ref h0_frees, .int h0_struck, .int h0_beating, .ref h0_text, .int h0_texts, .int x_9, .ref h0_line, .ref h0_written, .int h0_lineMany, .int h0_hasWritten, .ref h0_node, .int h0_nodes, .int h0_onesMany, .int h0_within, .int h0_top]))] H := hP
  have hD : va_D A [(h0, .inr (11, [.int h0_thrown, .ref h0_tape, .int h0_taped, .int h0_size, .int h0_limit, .int h0_to, .int h0_from, .int h0_kind, .int h0_number, .int h0_sign, .int h0_fault, .int h0_place, .long h0_word, .int h0_told, .ref h0_now, .ref h0_read, .ref h0_kept, .ref h0_snaps, .ref h0_aside, .ref h0_name, .ref h0_readName, .ref h0_keptName, .ref h0_isKept, .ref h0_onces, .int h0_snapMany, .int h0_lowest, .int h0_highest, .int h0_agreed, .int h0_jurors, .int h0_panelled, .ref h0_inSets, .int h0_surely, .int h0_asked, .ref h0_frees, .int h0_struck, .int h0_beating, .ref h0_text, .int h0_texts, .int x_9, .ref h0_line, .ref h0_written, .int h0_lineMany, .int h0_hasWritten, .ref h0_node, .int h0_nodes, .int h0_onesMany, .int h0_within, .int h0_top]))] := hD
  refine lv_aload_n hx hb dX12_draw_16 rfl (lv_at hl 0 rfl) ?_
  refine va_get (D := D) (ci := 11) (v := .int x_9) (C := RX12) (T := TX12) (N := 48) hx hb hts k2 hown hK.1 hP 0 rfl rfl 38 (by decide) k1 (fun _ h9 => h9) rfl dX12_draw_17 ?_
  refine lv_bipush (v := 8) hx hb dX12_draw_20 (by decide) ?_
  refine lv_iushr hx hb dX12_draw_22 rfl ?_
  refine lv_topi (fun x_10 ex_10 => ?_)
  have h_11 : rg 0 16777215 x_10 := by rw [ex_10]; exact ushr8 x_9
  refine lv_iload_n hx hb dX12_draw_23 rfl (lv_at hl 1 rfl) ?_
  refine lv_irem hx hb dX12_draw_24 (nz_rg i_a1 (by decide)) ?_
  refine lv_topi (fun x_12 ex_12 => ?_)
  have h_13 : rg 0 11 x_12 := by rw [ex_12]; exact rg_rem h_11 i_a1 (by decide) (by decide) (by decide) (by decide)
  have o_14 : rl 1 x_12 a1 := by rw [ex_12]; exact rl_rem h_11 i_a1 (by decide) (by decide)
  exact oE_i hx hb hr rfl hlocks hP hD hS x_9 [0] rfl (by decide) ⟨h_13, (show rl 1 x_12 a1 from rlm (by have q0 := rle o_14; omega))⟩ (Nat.le_of_ble_eq_true rfl) (Nat.le_of_ble_eq_true rfl) dX12_draw_25
theorem dX12_drawDays_0 : decode cX12_drawDays 0 = .ok (.aload_n 0, 1) := by decide +kernel
theorem dX12_drawDays_1 : decode cX12_drawDays 1 = .ok (.iload_n 2, 1) := by decide +kernel
theorem dX12_drawDays_2 : decode cX12_drawDays 2 = .ok (.putfield 342, 3) := by decide +kernel
theorem dX12_drawDays_5 : decode cX12_drawDays 5 = .ok (.iload_n 1, 1) := by decide +kernel
theorem dX12_drawDays_6 : decode cX12_drawDays 6 = .ok (.sipush 400, 3) := by decide +kernel
theorem dX12_drawDays_9 : decode cX12_drawDays 9 = .ok (.aload_n 0, 1) := by decide +kernel
theorem dX12_drawDays_10 : decode cX12_drawDays 10 = .ok (.getfield 98, 3) := by decide +kernel
theorem dX12_drawDays_13 : decode cX12_drawDays 13 = .ok (.bipush 89, 2) := by decide +kernel
theorem dX12_drawDays_15 : decode cX12_drawDays 15 = .ok (.iaload, 1) := by decide +kernel
theorem dX12_drawDays_16 : decode cX12_drawDays 16 = .ok (.isub, 1) := by decide +kernel
theorem dX12_drawDays_17 : decode cX12_drawDays 17 = .ok (.invokestatic 279, 3) := by decide +kernel
theorem dX12_drawDays_20 : decode cX12_drawDays 20 = .ok (.istore_n 3, 1) := by decide +kernel
theorem dX12_drawDays_21 : decode cX12_drawDays 21 = .ok (.iconst 0, 1) := by decide +kernel
theorem dX12_drawDays_22 : decode cX12_drawDays 22 = .ok (.istore 4, 2) := by decide +kernel
theorem dX12_drawDays_24 : decode cX12_drawDays 24 = .ok (.iload 4, 2) := by decide +kernel
theorem dX12_drawDays_26 : decode cX12_drawDays 26 = .ok (.iload_n 3, 1) := by decide +kernel
theorem dX12_drawDays_27 : decode cX12_drawDays 27 = .ok (.if_icmp .ge 142, 3) := by decide +kernel
theorem dX12_drawDays_30 : decode cX12_drawDays 30 = .ok (.aload_n 0, 1) := by decide +kernel
theorem dX12_drawDays_31 : decode cX12_drawDays 31 = .ok (.getfield 98, 3) := by decide +kernel
theorem dX12_drawDays_34 : decode cX12_drawDays 34 = .ok (.bipush 91, 2) := by decide +kernel
theorem dX12_drawDays_36 : decode cX12_drawDays 36 = .ok (.iconst 0, 1) := by decide +kernel
theorem dX12_drawDays_37 : decode cX12_drawDays 37 = .ok (.iastore, 1) := by decide +kernel
theorem dX12_drawDays_38 : decode cX12_drawDays 38 = .ok (.iconst 0, 1) := by decide +kernel
theorem dX12_drawDays_39 : decode cX12_drawDays 39 = .ok (.istore 5, 2) := by decide +kernel
theorem dX12_drawDays_41 : decode cX12_drawDays 41 = .ok (.iload 5, 2) := by decide +kernel
theorem dX12_drawDays_43 : decode cX12_drawDays 43 = .ok (.aload_n 0, 1) := by decide +kernel
theorem dX12_drawDays_44 : decode cX12_drawDays 44 = .ok (.getfield 98, 3) := by decide +kernel
theorem dX12_drawDays_47 : decode cX12_drawDays 47 = .ok (.iconst 0, 1) := by decide +kernel
theorem dX12_drawDays_48 : decode cX12_drawDays 48 = .ok (.iaload, 1) := by decide +kernel
theorem dX12_drawDays_49 : decode cX12_drawDays 49 = .ok (.if_icmp .ge 42, 3) := by decide +kernel
theorem dX12_drawDays_52 : decode cX12_drawDays 52 = .ok (.aload_n 0, 1) := by decide +kernel
theorem dX12_drawDays_53 : decode cX12_drawDays 53 = .ok (.bipush 12, 2) := by decide +kernel
theorem dX12_drawDays_55 : decode cX12_drawDays 55 = .ok (.invokevirtual 346, 3) := by decide +kernel
theorem dX12_drawDays_58 : decode cX12_drawDays 58 = .ok (.aload_n 0, 1) := by decide +kernel
theorem dX12_drawDays_59 : decode cX12_drawDays 59 = .ok (.getfield 98, 3) := by decide +kernel
theorem dX12_drawDays_62 : decode cX12_drawDays 62 = .ok (.bipush 25, 2) := by decide +kernel
theorem dX12_drawDays_64 : decode cX12_drawDays 64 = .ok (.iload 5, 2) := by decide +kernel
theorem dX12_drawDays_66 : decode cX12_drawDays 66 = .ok (.iadd, 1) := by decide +kernel
theorem dX12_drawDays_67 : decode cX12_drawDays 67 = .ok (.iaload, 1) := by decide +kernel
theorem dX12_drawDays_68 : decode cX12_drawDays 68 = .ok (.if_icmp .ge 17, 3) := by decide +kernel
theorem dX12_drawDays_71 : decode cX12_drawDays 71 = .ok (.aload_n 0, 1) := by decide +kernel
theorem dX12_drawDays_72 : decode cX12_drawDays 72 = .ok (.getfield 98, 3) := by decide +kernel
theorem dX12_drawDays_75 : decode cX12_drawDays 75 = .ok (.bipush 91, 2) := by decide +kernel
theorem dX12_drawDays_77 : decode cX12_drawDays 77 = .ok (.dup2, 1) := by decide +kernel
theorem dX12_drawDays_78 : decode cX12_drawDays 78 = .ok (.iaload, 1) := by decide +kernel
theorem dX12_drawDays_79 : decode cX12_drawDays 79 = .ok (.iconst 1, 1) := by decide +kernel
theorem dX12_drawDays_80 : decode cX12_drawDays 80 = .ok (.iload 5, 2) := by decide +kernel
theorem dX12_drawDays_82 : decode cX12_drawDays 82 = .ok (.ishl, 1) := by decide +kernel
theorem dX12_drawDays_83 : decode cX12_drawDays 83 = .ok (.ior, 1) := by decide +kernel
theorem dX12_drawDays_84 : decode cX12_drawDays 84 = .ok (.iastore, 1) := by decide +kernel
theorem dX12_drawDays_85 : decode cX12_drawDays 85 = .ok (.iinc 5 1, 3) := by decide +kernel
theorem dX12_drawDays_88 : decode cX12_drawDays 88 = .ok (.goto (-47), 3) := by decide +kernel
theorem dX12_drawDays_91 : decode cX12_drawDays 91 = .ok (.aload_n 0, 1) := by decide +kernel
theorem dX12_drawDays_92 : decode cX12_drawDays 92 = .ok (.getfield 98, 3) := by decide +kernel
theorem dX12_drawDays_95 : decode cX12_drawDays 95 = .ok (.iconst 2, 1) := by decide +kernel
theorem dX12_drawDays_96 : decode cX12_drawDays 96 = .ok (.iaload, 1) := by decide +kernel
theorem dX12_drawDays_97 : decode cX12_drawDays 97 = .ok (.ifCond .le 32, 3) := by decide +kernel
theorem dX12_drawDays_100 : decode cX12_drawDays 100 = .ok (.aload_n 0, 1) := by decide +kernel
theorem dX12_drawDays_101 : decode cX12_drawDays 101 = .ok (.aload_n 0, 1) := by decide +kernel
theorem dX12_drawDays_102 : decode cX12_drawDays 102 = .ok (.getfield 98, 3) := by decide +kernel
theorem dX12_drawDays_105 : decode cX12_drawDays 105 = .ok (.iconst 2, 1) := by decide +kernel
theorem dX12_drawDays_106 : decode cX12_drawDays 106 = .ok (.iaload, 1) := by decide +kernel
theorem dX12_drawDays_107 : decode cX12_drawDays 107 = .ok (.invokevirtual 346, 3) := by decide +kernel
theorem dX12_drawDays_110 : decode cX12_drawDays 110 = .ok (.istore 5, 2) := by decide +kernel
theorem dX12_drawDays_112 : decode cX12_drawDays 112 = .ok (.aload_n 0, 1) := by decide +kernel
theorem dX12_drawDays_113 : decode cX12_drawDays 113 = .ok (.iconst 5, 1) := by decide +kernel
theorem dX12_drawDays_114 : decode cX12_drawDays 114 = .ok (.iload 5, 2) := by decide +kernel
theorem dX12_drawDays_116 : decode cX12_drawDays 116 = .ok (.invokevirtual 285, 3) := by decide +kernel
theorem dX12_drawDays_119 : decode cX12_drawDays 119 = .ok (.ifCond .ne 10, 3) := by decide +kernel
theorem dX12_drawDays_122 : decode cX12_drawDays 122 = .ok (.aload_n 0, 1) := by decide +kernel
theorem dX12_drawDays_123 : decode cX12_drawDays 123 = .ok (.iconst 5, 1) := by decide +kernel
theorem dX12_drawDays_124 : decode cX12_drawDays 124 = .ok (.iload 5, 2) := by decide +kernel
theorem dX12_drawDays_126 : decode cX12_drawDays 126 = .ok (.invokevirtual 291, 3) := by decide +kernel
theorem dX12_drawDays_129 : decode cX12_drawDays 129 = .ok (.aload_n 0, 1) := by decide +kernel
theorem dX12_drawDays_130 : decode cX12_drawDays 130 = .ok (.bipush 6, 2) := by decide +kernel
theorem dX12_drawDays_132 : decode cX12_drawDays 132 = .ok (.invokevirtual 346, 3) := by decide +kernel
theorem dX12_drawDays_135 : decode cX12_drawDays 135 = .ok (.ifCond .ne 22, 3) := by decide +kernel
theorem dX12_drawDays_138 : decode cX12_drawDays 138 = .ok (.aload_n 0, 1) := by decide +kernel
theorem dX12_drawDays_139 : decode cX12_drawDays 139 = .ok (.getfield 98, 3) := by decide +kernel
theorem dX12_drawDays_142 : decode cX12_drawDays 142 = .ok (.bipush 94, 2) := by decide +kernel
theorem dX12_drawDays_144 : decode cX12_drawDays 144 = .ok (.aload_n 0, 1) := by decide +kernel
theorem dX12_drawDays_145 : decode cX12_drawDays 145 = .ok (.aload_n 0, 1) := by decide +kernel
theorem dX12_drawDays_146 : decode cX12_drawDays 146 = .ok (.getfield 98, 3) := by decide +kernel
theorem dX12_drawDays_149 : decode cX12_drawDays 149 = .ok (.iconst 0, 1) := by decide +kernel
theorem dX12_drawDays_150 : decode cX12_drawDays 150 = .ok (.iaload, 1) := by decide +kernel
theorem dX12_drawDays_151 : decode cX12_drawDays 151 = .ok (.invokevirtual 346, 3) := by decide +kernel
theorem dX12_drawDays_169 : decode cX12_drawDays 169 = .ok (.iload_n 3, 1) := by decide +kernel
theorem dX12_drawDays_170 : decode cX12_drawDays 170 = .ok (.ireturn, 1) := by decide +kernel
theorem dX12_drawn_0 : decode cX12_drawn 0 = .ok (.aload_n 0, 1) := by decide +kernel
theorem dX12_drawn_1 : decode cX12_drawn 1 = .ok (.iconst 0, 1) := by decide +kernel
theorem dX12_drawn_2 : decode cX12_drawn 2 = .ok (.putfield 1, 3) := by decide +kernel
theorem dX12_drawn_5 : decode cX12_drawn 5 = .ok (.iload_n 1, 1) := by decide +kernel
theorem dX12_drawn_6 : decode cX12_drawn 6 = .ok (.iconst 1, 1) := by decide +kernel
theorem dX12_drawn_7 : decode cX12_drawn 7 = .ok (.bipush 60, 2) := by decide +kernel
theorem dX12_drawn_9 : decode cX12_drawn 9 = .ok (.invokestatic 75, 3) := by decide +kernel
theorem dX12_drawn_12 : decode cX12_drawn 12 = .ok (.ifCond .eq 12, 3) := by decide +kernel
theorem dX12_drawn_15 : decode cX12_drawn 15 = .ok (.aload_n 0, 1) := by decide +kernel
theorem dX12_drawn_16 : decode cX12_drawn 16 = .ok (.getfield 98, 3) := by decide +kernel
theorem dX12_drawn_19 : decode cX12_drawn 19 = .ok (.iconst 0, 1) := by decide +kernel
theorem dX12_drawn_20 : decode cX12_drawn 20 = .ok (.iaload, 1) := by decide +kernel
theorem dX12_drawn_21 : decode cX12_drawn 21 = .ok (.ifCond .ne 5, 3) := by decide +kernel
theorem dX12_drawn_24 : decode cX12_drawn 24 = .ok (.iconst (-1), 1) := by decide +kernel
theorem dX12_drawn_25 : decode cX12_drawn 25 = .ok (.ireturn, 1) := by decide +kernel
theorem dX12_drawn_26 : decode cX12_drawn 26 = .ok (.aload_n 0, 1) := by decide +kernel
theorem dX12_drawn_27 : decode cX12_drawn 27 = .ok (.getfield 98, 3) := by decide +kernel
theorem dX12_drawn_30 : decode cX12_drawn 30 = .ok (.bipush 89, 2) := by decide +kernel
theorem dX12_drawn_32 : decode cX12_drawn 32 = .ok (.iaload, 1) := by decide +kernel
theorem dX12_drawn_33 : decode cX12_drawn 33 = .ok (.sipush 400, 3) := by decide +kernel
theorem dX12_drawn_36 : decode cX12_drawn 36 = .ok (.if_icmp .ne 5, 3) := by decide +kernel
theorem dX12_drawn_41 : decode cX12_drawn 41 = .ok (.aload_n 0, 1) := by decide +kernel
theorem dX12_drawn_42 : decode cX12_drawn 42 = .ok (.invokevirtual 288, 3) := by decide +kernel
theorem dX12_drawn_45 : decode cX12_drawn 45 = .ok (.aload_n 0, 1) := by decide +kernel
theorem dX12_drawn_46 : decode cX12_drawn 46 = .ok (.iload_n 1, 1) := by decide +kernel
theorem dX12_drawn_47 : decode cX12_drawn 47 = .ok (.iload_n 2, 1) := by decide +kernel
theorem dX12_drawn_48 : decode cX12_drawn 48 = .ok (.invokevirtual 349, 3) := by decide +kernel
theorem dX12_layAside_0 : decode cX12_layAside 0 = .ok (.iconst 0, 1) := by decide +kernel
theorem dX12_layAside_1 : decode cX12_layAside 1 = .ok (.istore_n 1, 1) := by decide +kernel
theorem dX12_layAside_2 : decode cX12_layAside 2 = .ok (.iload_n 1, 1) := by decide +kernel
theorem dX12_layAside_3 : decode cX12_layAside 3 = .ok (.bipush 45, 2) := by decide +kernel
theorem dX12_layAside_5 : decode cX12_layAside 5 = .ok (.if_icmp .ge 24, 3) := by decide +kernel
theorem dX12_layAside_8 : decode cX12_layAside 8 = .ok (.aload_n 0, 1) := by decide +kernel
theorem dX12_layAside_9 : decode cX12_layAside 9 = .ok (.getfield 110, 3) := by decide +kernel
theorem dX12_layAside_12 : decode cX12_layAside 12 = .ok (.iload_n 1, 1) := by decide +kernel
theorem dX12_layAside_13 : decode cX12_layAside 13 = .ok (.aload_n 0, 1) := by decide +kernel
theorem dX12_layAside_14 : decode cX12_layAside 14 = .ok (.getfield 98, 3) := by decide +kernel
theorem dX12_layAside_17 : decode cX12_layAside 17 = .ok (.bipush 89, 2) := by decide +kernel
theorem dX12_layAside_19 : decode cX12_layAside 19 = .ok (.iload_n 1, 1) := by decide +kernel
theorem dX12_layAside_20 : decode cX12_layAside 20 = .ok (.iadd, 1) := by decide +kernel
theorem dX12_layAside_21 : decode cX12_layAside 21 = .ok (.iaload, 1) := by decide +kernel
theorem dX12_layAside_22 : decode cX12_layAside 22 = .ok (.iastore, 1) := by decide +kernel
theorem dX12_layAside_23 : decode cX12_layAside 23 = .ok (.iinc 1 1, 3) := by decide +kernel
theorem dX12_layAside_26 : decode cX12_layAside 26 = .ok (.goto (-24), 3) := by decide +kernel
theorem dX12_layAside_29 : decode cX12_layAside 29 = .ok (.return_, 1) := by decide +kernel
set_option maxRecDepth 20000 in
theorem ggX12_drawDays_X12_least : GoodIn wsX12_drawDays wsX12_least := goodIn_r _ [6] rfl (by decide +kernel)
set_option maxRecDepth 20000 in
theorem gX12_drawDays_X12_least : GoodIn wsX12_drawDays (va_wsS RX12 279 yX12_least wsX12_least) := goodIn_app (goodIn_of _ (by decide +kernel)) ggX12_drawDays_X12_least
set_option maxRecDepth 20000 in
theorem ggX12_drawDays_X12_draw : GoodIn wsX12_drawDays wsX12_draw := goodIn_r _ [10, 1, 11, 57, 58, 59, 60, 61, 62, 63, 64, 65, 66, 67, 68, 69, 70, 71, 72, 73, 74, 75, 76, 77, 78, 79, 80, 81, 82, 83, 84, 85, 86, 87, 88, 89, 90, 91, 92, 93, 94, 95, 96, 97, 98, 99, 100, 101, 102, 103, 104] rfl (by decide +kernel)
set_option maxRecDepth 20000 in
theorem gX12_drawDays_X12_draw : GoodIn wsX12_drawDays (wsV RX12 346 RX12 yX12_draw wsX12_draw) := goodIn_app (goodIn_of _ (by decide +kernel)) ggX12_drawDays_X12_draw
set_option maxRecDepth 20000 in
theorem ggX12_drawDays_X12_why : GoodIn wsX12_drawDays wsX12_why := goodIn_r _ [15, 2, 16, 17, 5, 18, 19, 20, 21, 22, 57, 58, 59, 60, 61, 62, 63, 64, 65, 66, 67, 68, 69, 70, 71, 72, 73, 74, 75, 76, 77, 78, 79, 80, 81, 82, 83, 84, 85, 86, 87, 88, 89, 90, 91, 92, 93, 94, 95, 96, 97, 98, 99, 100, 101, 102, 103, 104] rfl (by decide +kernel)
set_option maxRecDepth 20000 in
theorem gX12_drawDays_X12_why : GoodIn wsX12_drawDays (wsV RX12 285 RX12 yX12_why wsX12_why) := goodIn_app (goodIn_of _ (by decide +kernel)) ggX12_drawDays_X12_why
set_option maxRecDepth 20000 in
theorem ggX12_drawDays_X12_live : GoodIn wsX12_drawDays wsX12_live := goodIn_r _ [26, 2, 27, 28, 29, 5, 30, 19, 20, 21, 22, 31, 32, 33, 34, 35, 36, 37, 38, 39, 40, 41, 42, 43, 44, 45, 46, 47, 48, 16, 17, 18, 49, 50, 51, 52, 3, 4, 6, 57, 58, 59, 60, 61, 62, 63, 64, 65, 66, 67, 68, 69, 70, 71, 72, 73, 74, 75, 76, 77, 78, 79, 80, 81, 82, 83, 84, 85, 86, 87, 88, 89, 90, 91, 92, 93, 94, 95, 96, 97, 98, 99, 100, 101, 102, 103, 104] rfl (by decide +kernel)
set_option maxRecDepth 20000 in
theorem gX12_drawDays_X12_live : GoodIn wsX12_drawDays (wsV RX12 291 RX12 yX12_live wsX12_live) := goodIn_app (goodIn_of _ (by decide +kernel)) ggX12_drawDays_X12_live
set_option maxRecDepth 20000 in
theorem ggX12_drawn_X12_isIn : GoodIn wsX12_drawn wsX12_isIn := goodIn_r _ [6] rfl (by decide +kernel)
set_option maxRecDepth 20000 in
theorem gX12_drawn_X12_isIn : GoodIn wsX12_drawn (va_wsS RX12 75 yX12_isIn wsX12_isIn) := goodIn_app (goodIn_of _ (by decide +kernel)) ggX12_drawn_X12_isIn
set_option maxRecDepth 20000 in
theorem ggX12_drawn_X12_snap : GoodIn wsX12_drawn wsX12_snap := goodIn_r _ [10, 11, 12, 2, 71, 72, 73, 74, 75, 76, 77, 78, 79, 80, 81, 82, 83, 84, 85, 86, 87, 88, 89, 90, 91, 92, 93, 94, 95, 96, 97, 98, 99, 100, 101, 102, 103, 104, 105, 106, 107, 108, 109, 110, 111, 112, 113, 114, 115, 116, 117, 118] rfl (by decide +kernel)
set_option maxRecDepth 20000 in
theorem gX12_drawn_X12_snap : GoodIn wsX12_drawn (wsV RX12 288 RX12 yX12_snap wsX12_snap) := goodIn_app (goodIn_of _ (by decide +kernel)) ggX12_drawn_X12_snap
set_option maxHeartbeats 4000000 in
set_option maxRecDepth 100000 in
theorem s_X12_layAside (l : Launch) (D : va_G) (ca : Nat → ClassId) (sz : Nat) (h0 : Nat) (h0_thrown : Int32) (h0_tape : Nat) (h0_taped : Int32) (h0_size : Int32) (h0_limit : Int32) (h0_to : Int32) (h0_from : Int32) (h0_kind : Int32) (h0_number : Int32) (h0_sign : Int32) (h0_fault : Int32) (h0_place : Int32) (h0_word : Int64) (h0_told : Int32) (h0_now : Nat) (h0_read : Nat) (h0_kept : Nat) (h0_snaps : Nat) (h0_aside : Nat) (h0_name : Nat) (h0_readName : Nat) (h0_keptName : Nat) (h0_isKept : Nat) (h0_onces : Nat) (h0_snapMany : Int32) (h0_lowest : Int32) (h0_highest : Int32) (h0_agreed : Int32) (h0_jurors : Int32) (h0_panelled : Int32) (h0_inSets : Nat) (h0_surely : Int32) (h0_asked : Int32) (h0_frees : Nat) (h0_struck : Int32) (h0_beating : Int32) (h0_text : Nat) (h0_texts : Int32) (h0_seed : Int32) (h0_line : Nat) (h0_written : Nat) (h0_lineMany : Int32) (h0_hasWritten : Int32) (h0_node : Nat) (h0_nodes : Int32) (h0_onesMany : Int32) (h0_within : Int32) (h0_top : Int32) (F_h0_now : Nat → Int32) (F_h0_aside : Nat → Int32) (i_h0_taped : rg 0 940 h0_taped) (i_h0_size : rg 0 940 h0_size) (i_h0_to : rg 0 940 h0_to) (i_h0_snapMany : rg 0 8 h0_snapMany) (i_h0_texts : rg 0 64 h0_texts) (i_h0_lineMany : rg 0 40 h0_lineMany) (i_h0_hasWritten : rg 0 1 h0_hasWritten) (s_h0_now_0 : sg 0 1 0 10 F_h0_now) (s_h0_now_1 : sg 1 2 0 4 F_h0_now) (s_h0_now_2 : sg 2 3 0 5 F_h0_now) (s_h0_now_3 : sg 35 36 0 1023 F_h0_now) (s_h0_now_4 : sg 44 49 0 3 F_h0_now) (s_h0_now_5 : sg 90 91 0 1023 F_h0_now) (s_h0_aside_0 : sg 1 2 0 1023 F_h0_aside) : oMet l yX12_layAside wsX12_layAside ({ frames := 0, cells := 0, slots := 0, locals := 0 } : Room) [.ref h0] D ca sz [(h0, .inr (11, [.int h0_thrown, .ref h0_tape, .int h0_taped, .int h0_size, .int h0_limit, .int h0_to, .int h0_from, .int h0_kind, .int h0_number, .int h0_sign, .int h0_fault, .int h0_place, .long h0_word, .int h0_told, .ref h0_now, .ref h0_read, .ref h0_kept, .ref h0_snaps, .ref h0_aside, .ref h0_name, .ref h0_readName, .ref h0_keptName, .ref h0_isKept, .ref h0_onces, .int h0_snapMany, .int h0_lowest, .int h0_highest, .int h0_agreed, .int h0_jurors, .int h0_panelled, .ref h0_inSets, .int h0_surely, .int h0_asked, .ref h0_frees, .int h0_struck, .int h0_beating, .ref h0_text, .int h0_texts, .int h0_seed, .ref h0_line, .ref h0_written, .int h0_lineMany, .int h0_hasWritten, .ref h0_node, .int h0_nodes, .int h0_onesMany, .int h0_within, .int h0_top])), (aI ca h0_now 376 F_h0_now), (aI ca h0_aside 45 F_h0_aside)] (oQv D (fun (u : (Nat → Int32)) => (sg 1 2 0 1023 u)) (fun (u : (Nat → Int32)) => [(h0, .inr (11, [.int h0_thrown, .ref h0_tape, .int h0_taped, .int h0_size, .int h0_limit, .int h0_to, .int h0_from, .int h0_kind, .int h0_number, .int h0_sign, .int h0_fault, .int h0_place, .long h0_word, .int h0_told, .ref h0_now, .ref h0_read, .ref h0_kept, .ref h0_snaps, .ref h0_aside, .ref h0_name, .ref h0_readName, .ref h0_keptName, .ref h0_isKept, .ref h0_onces, .int h0_snapMany, .int h0_lowest, .int h0_highest, .int h0_agreed, .int h0_jurors, .int h0_panelled, .ref h0_inSets, .int h0_surely, .int h0_asked, .ref h0_frees, .int h0_struck, .int h0_beating, .ref h0_text, .int h0_texts, .int h0_seed, .ref h0_line, .ref h0_written, .int h0_lineMany, .int h0_hasWritten, .ref h0_node, .int h0_nodes, .int h0_onesMany, .int h0_within, .int h0_top])), (aI ca h0_now 376 F_h0_now), (aI ca h0_aside 45 u)])) 0 0 := by
  refine oM (cc := cX12_layAside) (maxL := 2) (ret := none) (by decide) rfl (Nat.le_of_ble_eq_true rfl) [(0, .ref h0)] rfl ?_
  intro p e s m below meth c A H locs ls hx hb hr hml hts hown hlocks hin hK hP hD hA hS hl
  have hown : s.vm.findClass RX12 = some m.cls := hown
  have k1 := hts (.fieldLink RX12 110 "LidCourtModel" "aside" "[I") (by decide +kernel)
  have k2 : ∀ w ∈ wsX120, w ∈ wsX12_layAside := fun _ h => List.mem_cons_of_mem _ (List.mem_append_right _ h)
  have k3 := hts (.fieldLink RX12 98 "LidCourtModel" "now" "[I") (by decide +kernel)
  have J2_88 : ∀ (n : Nat) (y2_0 : Int32) (f2_1 : Nat → Int32), True → rg 0 45 y2_0 → sg 1 2 0 1023 f2_1 → 45 < y2_0.toInt + (n : Int) → ∀ (H : Heap) (locs : List Loc) (ls : Array Slot), va_P D vwCl [(h0, .inr (11, [.int h0_thrown, .ref h0_tape, .int h0_taped, .int h0_size, .int h0_limit, .int h0_to, .int h0_from, .int h0_kind, .int h0_number, .int h0_sign, .int h0_fault, .int h0_place, .long h0_word, .int h0_told, .ref h0_now, .ref h0_read, .ref h0_kept, .ref h0_snaps, .ref h0_aside, .ref h0_name, .ref h0_readName, .ref h0_keptName, .ref h0_isKept, .ref h0_onces, .int h0_snapMany, .int h0_lowest, .int h0_highest, .int h0_agreed, .int h0_jurors, .int h0_panelled, .ref h0_inSets, .int h0_surely, .int h0_asked, .ref h0_frees, .int h0_struck, .int h0_beating, .ref h0_text, .int h0_texts, .int h0_seed, .ref h0_line, .ref h0_written, .int h0_lineMany, .int h0_hasWritten, .ref h0_node, .int h0_nodes, .int h0_onesMany, .int h0_within, .int h0_top])), (aI ca h0_now 376 F_h0_now), (aI ca h0_aside 45 f2_1)] H → va_D A [(h0, .inr (11, [.int h0_thrown, .ref h0_tape, .int h0_taped, .int h0_size, .int h0_limit, .int h0_to, .int h0_from, .int h0_kind, .int h0_number, .int h0_sign, .int h0_fault, .int h0_place, .long h0_word, .int h0_told, .ref h0_now, .ref h0_read, .ref h0_kept, .ref h0_snaps, .ref h0_aside, .ref h0_name, .ref h0_readName, .ref h0_keptName, .ref h0_isKept, .ref h0_onces, .int h0_snapMany, .int h0_lowest, .int h0_highest, .int h0_agreed, .int h0_jurors, .int h0_panelled, .ref h0_inSets, .int h0_surely, .int h0_asked, .ref h0_frees, .int h0_struck, .int h0_beating, .ref h0_text, .int h0_texts, .int h0_seed, .ref h0_line, .ref h0_written, .int h0_lineMany, .int h0_hasWritten, .ref h0_node, .int h0_nodes, .int h0_onesMany, .int h0_within, .int h0_top])), (aI ca h0_now 376 F_h0_now), (aI ca h0_aside 45 f2_1)] → va_S A s.heap H locs → lv_has ls 2 [(0, .ref h0), (1, .int y2_0)] → W p l e ({ frames := 0, cells := 0, slots := 0, locals := 0 } : Room) s m ([.ref h0] : List Value).toArray below meth c H locs 0 0 (MQ below ((oQv D (fun (u : (Nat → Int32)) => (sg 1 2 0 1023 u)) (fun (u : (Nat → Int32)) => [(h0, .inr (11, [.int h0_thrown, .ref h0_tape, .int h0_taped, .int h0_size, .int h0_limit, .int h0_to, .int h0_from, .int h0_kind, .int h0_number, .int h0_sign, .int h0_fault, .int h0_place, .long h0_word, .int h0_told, .ref h0_now, .ref h0_read, .ref h0_kept, .ref h0_snaps, .ref h0_aside, .ref h0_name, .ref h0_readName, .ref h0_keptName, .ref h0_isKept, .ref h0_onces, .int h0_snapMany, .int h0_lowest, .int h0_highest, .int h0_agreed, .int h0_jurors, .int h0_panelled, .ref h0_inSets, .int h0_surely, .int h0_asked, .ref h0_frees, .int h0_struck, .int h0_beating, .ref h0_text, .int h0_texts, .int h0_seed, .ref h0_line, .ref h0_written, .int h0_lineMany, .int h0_hasWritten, .ref h0_node, .int h0_nodes, .int h0_onesMany, .int h0_within, .int h0_top])), (aI ca h0_now 376 F_h0_now), (aI ca h0_aside 45 u)])) A) ([.ref h0] : List Value).toArray s 0 0 A) (F0 m 2 ls []) := by
    intro n
    induction n with
    | zero => intro y2_0 f2_1 _ hy2_0 s2_2 hn; exact absurd hn (by have q9 := hy2_0.2; omega)
    | succ n ih =>
      intro y2_0 f2_1 _ hy2_0 s2_2 hn H locs ls hP hD hS hl
      refine lv_iload_n hx hb dX12_layAside_2 rfl (lv_at hl 1 rfl) ?_
      refine lv_bipush (v := 45) hx hb dX12_layAside_3 (by decide) ?_
      refine lv_icmp_ge (tgt := 29) hx hb dX12_layAside_5 (by decide) (fun c_103 => ?_) (fun c_103 => ?_)
      · skip
        have o_104 : rl 0 45 y2_0 := rl_le c_103
        have h_105 : rg 45 45 y2_0 := rl_y o_104 (⟨by decide, by decide⟩ : rg 45 45 (45 : Int32)) hy2_0 (by decide) (by decide)
        exact oE_v hx hb hr hlocks hP hD hS f2_1 [0, 1, 2] rfl (by decide) s2_2 (Nat.le_of_ble_eq_true rfl) (Nat.le_of_ble_eq_true rfl) dX12_layAside_29
      · skip
        have o_106 : rl 1 y2_0 45 := rl_nle c_103
        have h_107 : rg 0 44 y2_0 := rl_x o_106 hy2_0 (⟨by decide, by decide⟩ : rg 45 45 (45 : Int32)) (by decide) (by decide)
        refine lv_aload_n hx hb dX12_layAside_8 rfl (lv_at hl 0 rfl) ?_
        refine va_get (D := D) (ci := 11) (v := .ref h0_aside) (C := RX12) (T := TX12) (N := 48) hx hb hts k2 hown hK.1 hP 0 rfl rfl 18 (by decide) k1 (fun _ h9 => h9) rfl dX12_layAside_9 ?_
        refine lv_iload_n hx hb dX12_layAside_12 rfl (lv_at hl 1 rfl) ?_
        refine lv_aload_n hx hb dX12_layAside_13 rfl (lv_at hl 0 rfl) ?_
        refine va_get (D := D) (ci := 11) (v := .ref h0_now) (C := RX12) (T := TX12) (N := 48) hx hb hts k2 hown hK.1 hP 0 rfl rfl 14 (by decide) k3 (fun _ h9 => h9) rfl dX12_layAside_14 ?_
        refine lv_bipush (v := 89) hx hb dX12_layAside_17 (by decide) ?_
        refine lv_iload_n hx hb dX12_layAside_19 rfl (lv_at hl 1 rfl) ?_
        refine lv_iadd hx hb dX12_layAside_20 ?_
        refine lv_topi (fun x_108 ex_108 => ?_)
        have h_109 : rg 89 133 x_108 := by rw [ex_108]; exact rg_add (⟨by decide, by decide⟩ : rg 89 89 (89 : Int32)) h_107 (by decide) (by decide) (by decide) (by decide)
        have l_110 : lq x_108.toInt (y2_0.toInt + 89) := lqm (by rw [ex_108]; have q := tadd (⟨by decide, by decide⟩ : rg 89 89 (89 : Int32)) h_107 (by decide) (by decide); have r0 := lqe (lqm (by decide) : lq (89 : Int32).toInt 89); omega)
        refine va_iald hx hb hK.1 hP 1 0 rfl rfl (rg_in h_109 (by decide) (by decide)) dX12_layAside_21 ?_
        refine lv_topi (fun x_111 ex_111 => ?_)
        refine va_iast hx hb hK.1 hP hD hS 2 0 rfl rfl (rg_in h_107 (by decide) (by decide)) dX12_layAside_22 (fun H locs hP hD hS => ?_)
        obtain ⟨g_112, eg_112⟩ : ∃ y : Nat → Int32, y = upd f2_1 (y2_0 : Int32).toNatClampNeg (x_111 : Int32) := ⟨_, rfl⟩
        rw [← eg_112] at hP hD
        have s_113 : sg 1 2 0 1023 g_112 := sg_src (a2 := 90) (b2 := 91) s2_2 eg_112 h_107 (by decide) ex_111 h_109 (by decide) (sg_w (a' := 90) (b' := 91) (lo' := 0) (hi' := 1023) s_h0_now_5 (by decide) (by decide) (by decide) (by decide)) (fun z1 z2 => by have q0 := lqe l_110; have q1 := (h_107).1; have q2 := (h_107).2; constructor <;> omega)
        have hP : va_P D vwCl [(h0, .inr (11, [.int h0_thrown, .ref h0_tape, .int h0_taped, .int h0_size, .int h0_limit, .int h0_to, .int h0_from, .int h0_kind, .int h0_number, .int h0_sign, .int h0_fault, .int h0_place, .long h0_word, .int h0_told, .ref h0_now, .ref h0_read, .ref h0_kept, .ref h0_snaps, .ref h0_aside, .ref h0_name, .ref h0_readName, .ref h0_keptName, .ref h0_isKept, .ref h0_onces, .int h0_snapMany, .int h0_lowest, .int h0_highest, .int h0_agreed, .int h0_jurors, .int h0_panelled, .ref h0_inSets, .int h0_surely, .int h0_asked, .ref h0_frees, .int h0_struck, .int h0_beating, .ref h0_text, .int h0_texts, .int h0_seed, .ref h0_line, .ref h0_written, .int h0_lineMany, .int h0_hasWritten, .ref h0_node, .int h0_nodes, .int h0_onesMany, .int h0_within, .int h0_top])), (aI ca h0_now 376 F_h0_now), (aI ca h0_aside 45 g_112)] H := hP
        have hD : va_D A [(h0, .inr (11, [.int h0_thrown, .ref h0_tape, .int h0_taped, .int h0_size, .int h0_limit, .int h0_to, .int h0_from, .int h0_kind, .int h0_number, .int h0_sign, .int h0_fault, .int h0_place, .long h0_word, .int h0_told, .ref h0_now, .ref h0_read, .ref h0_kept, .ref h0_snaps, .ref h0_aside, .ref h0_name, .ref h0_readName, .ref h0_keptName, .ref h0_isKept, .ref h0_onces, .int h0_snapMany, .int h0_lowest, .int h0_highest, .int h0_agreed, .int h0_jurors, .int h0_panelled, .ref h0_inSets, .int h0_surely, .int h0_asked, .ref h0_frees, .int h0_struck, .int h0_beating, .ref h0_text, .int h0_texts, .int h0_seed, .ref h0_line, .ref h0_written, .int h0_lineMany, .int h0_hasWritten, .ref h0_node, .int h0_nodes, .int h0_onesMany, .int h0_within, .int h0_top])), (aI ca h0_now 376 F_h0_now), (aI ca h0_aside 45 g_112)] := hD
        obtain ⟨x_114, ex_114⟩ : ∃ y : Int32, y = y2_0 + 1 := ⟨_, rfl⟩
        have h_115 : rg 1 45 x_114 := by rw [ex_114]; exact rg_add h_107 (⟨by decide, by decide⟩ : rg 1 1 (1 : Int32)) (by decide) (by decide) (by decide) (by decide)
        have l_116 : lq x_114.toInt (y2_0.toInt + 1) := lqm (by rw [ex_114]; have q := tadd h_107 (⟨by decide, by decide⟩ : rg 1 1 (1 : Int32)) (by decide) (by decide); have r1 := lqe (lqm (by decide) : lq (1 : Int32).toInt 1); omega)
        refine lv_iinc (v := x_114) (lv' := [(1, .int x_114), (0, .ref h0)]) hx hb dX12_layAside_23 hl (k := 1) rfl (by rw [ex_114]; rfl) (by decide) rfl (fun ls hl => ?_)
        refine lv_goto (tgt := 2) hx hb dX12_layAside_26 (by decide) ?_
        exact ih x_114 g_112 trivial (rgw (lo := 0) (hi := 45) h_115 (by decide) (by decide)) s_113 (by have q0 := lqe l_116; omega) H locs ls (oPsub hP [0, 1, 2] rfl) (hD.sub [0, 1, 2] (by decide) rfl) hS (lv_sub hl [1, 0] rfl)
  refine lv_iconst (v := 0) hx hb dX12_layAside_0 (by decide) ?_
  refine lv_istore_n (lv' := [(1, .int 0), (0, .ref h0)]) hx hb dX12_layAside_1 rfl hl (by decide) rfl (fun ls hl => ?_)
  exact J2_88 46 0 F_h0_aside trivial (⟨by decide, by decide⟩ : rg 0 45 (0 : Int32)) s_h0_aside_0 (by have q0 := (⟨by decide, by decide⟩ : rg 0 0 (0 : Int32)).1; omega) H locs ls (oPsub hP [0, 1, 2] rfl) (hD.sub [0, 1, 2] (by decide) rfl) hS (lv_sub hl [1, 0] rfl)
theorem dX12_takeBack_0 : decode cX12_takeBack 0 = .ok (.iconst 0, 1) := by decide +kernel
theorem dX12_takeBack_1 : decode cX12_takeBack 1 = .ok (.istore_n 1, 1) := by decide +kernel
theorem dX12_takeBack_2 : decode cX12_takeBack 2 = .ok (.iload_n 1, 1) := by decide +kernel
theorem dX12_takeBack_3 : decode cX12_takeBack 3 = .ok (.bipush 45, 2) := by decide +kernel
theorem dX12_takeBack_5 : decode cX12_takeBack 5 = .ok (.if_icmp .ge 24, 3) := by decide +kernel
theorem dX12_takeBack_8 : decode cX12_takeBack 8 = .ok (.aload_n 0, 1) := by decide +kernel
theorem dX12_takeBack_9 : decode cX12_takeBack 9 = .ok (.getfield 98, 3) := by decide +kernel
theorem dX12_takeBack_12 : decode cX12_takeBack 12 = .ok (.bipush 89, 2) := by decide +kernel
theorem dX12_takeBack_14 : decode cX12_takeBack 14 = .ok (.iload_n 1, 1) := by decide +kernel
theorem dX12_takeBack_15 : decode cX12_takeBack 15 = .ok (.iadd, 1) := by decide +kernel
theorem dX12_takeBack_16 : decode cX12_takeBack 16 = .ok (.aload_n 0, 1) := by decide +kernel
theorem dX12_takeBack_17 : decode cX12_takeBack 17 = .ok (.getfield 110, 3) := by decide +kernel
theorem dX12_takeBack_20 : decode cX12_takeBack 20 = .ok (.iload_n 1, 1) := by decide +kernel
theorem dX12_takeBack_21 : decode cX12_takeBack 21 = .ok (.iaload, 1) := by decide +kernel
theorem dX12_takeBack_22 : decode cX12_takeBack 22 = .ok (.iastore, 1) := by decide +kernel
theorem dX12_takeBack_23 : decode cX12_takeBack 23 = .ok (.iinc 1 1, 3) := by decide +kernel
theorem dX12_takeBack_26 : decode cX12_takeBack 26 = .ok (.goto (-24), 3) := by decide +kernel
theorem dX12_takeBack_29 : decode cX12_takeBack 29 = .ok (.return_, 1) := by decide +kernel
set_option maxHeartbeats 4000000 in
set_option maxRecDepth 100000 in
theorem s_X12_takeBack (l : Launch) (D : va_G) (ca : Nat → ClassId) (sz : Nat) (h0 : Nat) (h0_thrown : Int32) (h0_tape : Nat) (h0_taped : Int32) (h0_size : Int32) (h0_limit : Int32) (h0_to : Int32) (h0_from : Int32) (h0_kind : Int32) (h0_number : Int32) (h0_sign : Int32) (h0_fault : Int32) (h0_place : Int32) (h0_word : Int64) (h0_told : Int32) (h0_now : Nat) (h0_read : Nat) (h0_kept : Nat) (h0_snaps : Nat) (h0_aside : Nat) (h0_name : Nat) (h0_readName : Nat) (h0_keptName : Nat) (h0_isKept : Nat) (h0_onces : Nat) (h0_snapMany : Int32) (h0_lowest : Int32) (h0_highest : Int32) (h0_agreed : Int32) (h0_jurors : Int32) (h0_panelled : Int32) (h0_inSets : Nat) (h0_surely : Int32) (h0_asked : Int32) (h0_frees : Nat) (h0_struck : Int32) (h0_beating : Int32) (h0_text : Nat) (h0_texts : Int32) (h0_seed : Int32) (h0_line : Nat) (h0_written : Nat) (h0_lineMany : Int32) (h0_hasWritten : Int32) (h0_node : Nat) (h0_nodes : Int32) (h0_onesMany : Int32) (h0_within : Int32) (h0_top : Int32) (F_h0_aside : Nat → Int32) (F_h0_now : Nat → Int32) (i_h0_taped : rg 0 940 h0_taped) (i_h0_size : rg 0 940 h0_size) (i_h0_to : rg 0 940 h0_to) (i_h0_snapMany : rg 0 8 h0_snapMany) (i_h0_texts : rg 0 64 h0_texts) (i_h0_lineMany : rg 0 40 h0_lineMany) (i_h0_hasWritten : rg 0 1 h0_hasWritten) (s_h0_aside_0 : sg 1 2 0 1023 F_h0_aside) (s_h0_now_0 : sg 0 1 0 10 F_h0_now) (s_h0_now_1 : sg 1 2 0 4 F_h0_now) (s_h0_now_2 : sg 2 3 0 5 F_h0_now) (s_h0_now_3 : sg 35 36 0 1023 F_h0_now) (s_h0_now_4 : sg 44 49 0 3 F_h0_now) (s_h0_now_5 : sg 90 91 0 1023 F_h0_now) : oMet l yX12_takeBack wsX12_takeBack ({ frames := 0, cells := 0, slots := 0, locals := 0 } : Room) [.ref h0] D ca sz [(h0, .inr (11, [.int h0_thrown, .ref h0_tape, .int h0_taped, .int h0_size, .int h0_limit, .int h0_to, .int h0_from, .int h0_kind, .int h0_number, .int h0_sign, .int h0_fault, .int h0_place, .long h0_word, .int h0_told, .ref h0_now, .ref h0_read, .ref h0_kept, .ref h0_snaps, .ref h0_aside, .ref h0_name, .ref h0_readName, .ref h0_keptName, .ref h0_isKept, .ref h0_onces, .int h0_snapMany, .int h0_lowest, .int h0_highest, .int h0_agreed, .int h0_jurors, .int h0_panelled, .ref h0_inSets, .int h0_surely, .int h0_asked, .ref h0_frees, .int h0_struck, .int h0_beating, .ref h0_text, .int h0_texts, .int h0_seed, .ref h0_line, .ref h0_written, .int h0_lineMany, .int h0_hasWritten, .ref h0_node, .int h0_nodes, .int h0_onesMany, .int h0_within, .int h0_top])), (aI ca h0_aside 45 F_h0_aside), (aI ca h0_now 376 F_h0_now)] (oQv D (fun (u : (Nat → Int32)) => (sg 0 1 0 10 u) ∧ (sg 1 2 0 4 u) ∧ (sg 2 3 0 5 u) ∧ (sg 35 36 0 1023 u) ∧ (sg 44 49 0 3 u) ∧ (sg 90 91 0 1023 u) ∧ (eqs 134 376 u F_h0_now)) (fun (u : (Nat → Int32)) => [(h0, .inr (11, [.int h0_thrown, .ref h0_tape, .int h0_taped, .int h0_size, .int h0_limit, .int h0_to, .int h0_from, .int h0_kind, .int h0_number, .int h0_sign, .int h0_fault, .int h0_place, .long h0_word, .int h0_told, .ref h0_now, .ref h0_read, .ref h0_kept, .ref h0_snaps, .ref h0_aside, .ref h0_name, .ref h0_readName, .ref h0_keptName, .ref h0_isKept, .ref h0_onces, .int h0_snapMany, .int h0_lowest, .int h0_highest, .int h0_agreed, .int h0_jurors, .int h0_panelled, .ref h0_inSets, .int h0_surely, .int h0_asked, .ref h0_frees, .int h0_struck, .int h0_beating, .ref h0_text, .int h0_texts, .int h0_seed, .ref h0_line, .ref h0_written, .int h0_lineMany, .int h0_hasWritten, .ref h0_node, .int h0_nodes, .int h0_onesMany, .int h0_within, .int h0_top])), (aI ca h0_aside 45 F_h0_aside), (aI ca h0_now 376 u)])) 0 0 := by
  refine oM (cc := cX12_takeBack) (maxL := 2) (ret := none) (by decide) rfl (Nat.le_of_ble_eq_true rfl) [(0, .ref h0)] rfl ?_
  intro p e s m below meth c A H locs ls hx hb hr hml hts hown hlocks hin hK hP hD hA hS hl
  have hown : s.vm.findClass RX12 = some m.cls := hown
  have k1 := hts (.fieldLink RX12 98 "LidCourtModel" "now" "[I") (by decide +kernel)
  have k2 : ∀ w ∈ wsX120, w ∈ wsX12_takeBack := fun _ h => List.mem_cons_of_mem _ (List.mem_append_right _ h)
  have k3 := hts (.fieldLink RX12 110 "LidCourtModel" "aside" "[I") (by decide +kernel)
  have J2_135 : ∀ (n : Nat) (y2_0 : Int32) (f2_1 : Nat → Int32), True → rg 0 45 y2_0 → sg 0 1 0 10 f2_1 → sg 1 2 0 4 f2_1 → sg 2 3 0 5 f2_1 → sg 35 36 0 1023 f2_1 → sg 44 49 0 3 f2_1 → sg 90 91 0 1023 f2_1 → eqs 134 376 f2_1 F_h0_now → 45 < y2_0.toInt + (n : Int) → ∀ (H : Heap) (locs : List Loc) (ls : Array Slot), va_P D vwCl [(h0, .inr (11, [.int h0_thrown, .ref h0_tape, .int h0_taped, .int h0_size, .int h0_limit, .int h0_to, .int h0_from, .int h0_kind, .int h0_number, .int h0_sign, .int h0_fault, .int h0_place, .long h0_word, .int h0_told, .ref h0_now, .ref h0_read, .ref h0_kept, .ref h0_snaps, .ref h0_aside, .ref h0_name, .ref h0_readName, .ref h0_keptName, .ref h0_isKept, .ref h0_onces, .int h0_snapMany, .int h0_lowest, .int h0_highest, .int h0_agreed, .int h0_jurors, .int h0_panelled, .ref h0_inSets, .int h0_surely, .int h0_asked, .ref h0_frees, .int h0_struck, .int h0_beating, .ref h0_text, .int h0_texts, .int h0_seed, .ref h0_line, .ref h0_written, .int h0_lineMany, .int h0_hasWritten, .ref h0_node, .int h0_nodes, .int h0_onesMany, .int h0_within, .int h0_top])), (aI ca h0_aside 45 F_h0_aside), (aI ca h0_now 376 f2_1)] H → va_D A [(h0, .inr (11, [.int h0_thrown, .ref h0_tape, .int h0_taped, .int h0_size, .int h0_limit, .int h0_to, .int h0_from, .int h0_kind, .int h0_number, .int h0_sign, .int h0_fault, .int h0_place, .long h0_word, .int h0_told, .ref h0_now, .ref h0_read, .ref h0_kept, .ref h0_snaps, .ref h0_aside, .ref h0_name, .ref h0_readName, .ref h0_keptName, .ref h0_isKept, .ref h0_onces, .int h0_snapMany, .int h0_lowest, .int h0_highest, .int h0_agreed, .int h0_jurors, .int h0_panelled, .ref h0_inSets, .int h0_surely, .int h0_asked, .ref h0_frees, .int h0_struck, .int h0_beating, .ref h0_text, .int h0_texts, .int h0_seed, .ref h0_line, .ref h0_written, .int h0_lineMany, .int h0_hasWritten, .ref h0_node, .int h0_nodes, .int h0_onesMany, .int h0_within, .int h0_top])), (aI ca h0_aside 45 F_h0_aside), (aI ca h0_now 376 f2_1)] → va_S A s.heap H locs → lv_has ls 2 [(0, .ref h0), (1, .int y2_0)] → W p l e ({ frames := 0, cells := 0, slots := 0, locals := 0 } : Room) s m ([.ref h0] : List Value).toArray below meth c H locs 0 0 (MQ below ((oQv D (fun (u : (Nat → Int32)) => (sg 0 1 0 10 u) ∧ (sg 1 2 0 4 u) ∧ (sg 2 3 0 5 u) ∧ (sg 35 36 0 1023 u) ∧ (sg 44 49 0 3 u) ∧ (sg 90 91 0 1023 u) ∧ (eqs 134 376 u F_h0_now)) (fun (u : (Nat → Int32)) => [(h0, .inr (11, [.int h0_thrown, .ref h0_tape, .int h0_taped, .int h0_size, .int h0_limit, .int h0_to, .int h0_from, .int h0_kind, .int h0_number, .int h0_sign, .int h0_fault, .int h0_place, .long h0_word, .int h0_told, .ref h0_now, .ref h0_read, .ref h0_kept, .ref h0_snaps, .ref h0_aside, .ref h0_name, .ref h0_readName, .ref h0_keptName, .ref h0_isKept, .ref h0_onces, .int h0_snapMany, .int h0_lowest, .int h0_highest, .int h0_agreed, .int h0_jurors, .int h0_panelled, .ref h0_inSets, .int h0_surely, .int h0_asked, .ref h0_frees, .int h0_struck, .int h0_beating, .ref h0_text, .int h0_texts, .int h0_seed, .ref h0_line, .ref h0_written, .int h0_lineMany, .int h0_hasWritten, .ref h0_node, .int h0_nodes, .int h0_onesMany, .int h0_within, .int h0_top])), (aI ca h0_aside 45 F_h0_aside), (aI ca h0_now 376 u)])) A) ([.ref h0] : List Value).toArray s 0 0 A) (F0 m 2 ls []) := by
    intro n
    induction n with
    | zero => intro y2_0 f2_1 _ hy2_0 s2_2 s2_3 s2_4 s2_5 s2_6 s2_7 e2_8 hn; exact absurd hn (by have q9 := hy2_0.2; omega)
    | succ n ih =>
      intro y2_0 f2_1 _ hy2_0 s2_2 s2_3 s2_4 s2_5 s2_6 s2_7 e2_8 hn H locs ls hP hD hS hl
      refine lv_iload_n hx hb dX12_takeBack_2 rfl (lv_at hl 1 rfl) ?_
      refine lv_bipush (v := 45) hx hb dX12_takeBack_3 (by decide) ?_
      refine lv_icmp_ge (tgt := 29) hx hb dX12_takeBack_5 (by decide) (fun c_156 => ?_) (fun c_156 => ?_)
      · skip
        have o_157 : rl 0 45 y2_0 := rl_le c_156
        have h_158 : rg 45 45 y2_0 := rl_y o_157 (⟨by decide, by decide⟩ : rg 45 45 (45 : Int32)) hy2_0 (by decide) (by decide)
        exact oE_v hx hb hr hlocks hP hD hS f2_1 [0, 1, 2] rfl (by decide) ⟨s2_2, s2_3, s2_4, s2_5, s2_6, s2_7, e2_8⟩ (Nat.le_of_ble_eq_true rfl) (Nat.le_of_ble_eq_true rfl) dX12_takeBack_29
      · skip
        have o_159 : rl 1 y2_0 45 := rl_nle c_156
        have h_160 : rg 0 44 y2_0 := rl_x o_159 hy2_0 (⟨by decide, by decide⟩ : rg 45 45 (45 : Int32)) (by decide) (by decide)
        refine lv_aload_n hx hb dX12_takeBack_8 rfl (lv_at hl 0 rfl) ?_
        refine va_get (D := D) (ci := 11) (v := .ref h0_now) (C := RX12) (T := TX12) (N := 48) hx hb hts k2 hown hK.1 hP 0 rfl rfl 14 (by decide) k1 (fun _ h9 => h9) rfl dX12_takeBack_9 ?_
        refine lv_bipush (v := 89) hx hb dX12_takeBack_12 (by decide) ?_
        refine lv_iload_n hx hb dX12_takeBack_14 rfl (lv_at hl 1 rfl) ?_
        refine lv_iadd hx hb dX12_takeBack_15 ?_
        refine lv_topi (fun x_161 ex_161 => ?_)
        have h_162 : rg 89 133 x_161 := by rw [ex_161]; exact rg_add (⟨by decide, by decide⟩ : rg 89 89 (89 : Int32)) h_160 (by decide) (by decide) (by decide) (by decide)
        have l_163 : lq x_161.toInt (y2_0.toInt + 89) := lqm (by rw [ex_161]; have q := tadd (⟨by decide, by decide⟩ : rg 89 89 (89 : Int32)) h_160 (by decide) (by decide); have r0 := lqe (lqm (by decide) : lq (89 : Int32).toInt 89); omega)
        refine lv_aload_n hx hb dX12_takeBack_16 rfl (lv_at hl 0 rfl) ?_
        refine va_get (D := D) (ci := 11) (v := .ref h0_aside) (C := RX12) (T := TX12) (N := 48) hx hb hts k2 hown hK.1 hP 0 rfl rfl 18 (by decide) k3 (fun _ h9 => h9) rfl dX12_takeBack_17 ?_
        refine lv_iload_n hx hb dX12_takeBack_20 rfl (lv_at hl 1 rfl) ?_
        refine va_iald hx hb hK.1 hP 1 0 rfl rfl (rg_in h_160 (by decide) (by decide)) dX12_takeBack_21 ?_
        refine lv_topi (fun x_164 ex_164 => ?_)
        refine va_iast hx hb hK.1 hP hD hS 2 0 rfl rfl (rg_in h_162 (by decide) (by decide)) dX12_takeBack_22 (fun H locs hP hD hS => ?_)
        obtain ⟨g_165, eg_165⟩ : ∃ y : Nat → Int32, y = upd f2_1 (x_161 : Int32).toNatClampNeg (x_164 : Int32) := ⟨_, rfl⟩
        rw [← eg_165] at hP hD
        have s_166 : sg 0 1 0 10 g_165 := sg_out s2_2 eg_165 h_162 (by decide) (by decide)
        have s_167 : sg 1 2 0 4 g_165 := sg_out s2_3 eg_165 h_162 (by decide) (by decide)
        have s_168 : sg 2 3 0 5 g_165 := sg_out s2_4 eg_165 h_162 (by decide) (by decide)
        have s_169 : sg 35 36 0 1023 g_165 := sg_out s2_5 eg_165 h_162 (by decide) (by decide)
        have s_170 : sg 44 49 0 3 g_165 := sg_out s2_6 eg_165 h_162 (by decide) (by decide)
        have s_171 : sg 90 91 0 1023 g_165 := sg_src (a2 := 1) (b2 := 2) s2_7 eg_165 h_162 (by decide) ex_164 h_160 (by decide) (sg_w (a' := 1) (b' := 2) (lo' := 0) (hi' := 1023) s_h0_aside_0 (by decide) (by decide) (by decide) (by decide)) (fun z1 z2 => by have q0 := lqe l_163; have q1 := (h_160).1; have q2 := (h_160).2; constructor <;> omega)
        have q_172 : eqs 134 376 g_165 F_h0_now := eqs_out e2_8 eg_165 h_162 (by decide) (by decide) (by decide) (by decide)
        have hP : va_P D vwCl [(h0, .inr (11, [.int h0_thrown, .ref h0_tape, .int h0_taped, .int h0_size, .int h0_limit, .int h0_to, .int h0_from, .int h0_kind, .int h0_number, .int h0_sign, .int h0_fault, .int h0_place, .long h0_word, .int h0_told, .ref h0_now, .ref h0_read, .ref h0_kept, .ref h0_snaps, .ref h0_aside, .ref h0_name, .ref h0_readName, .ref h0_keptName, .ref h0_isKept, .ref h0_onces, .int h0_snapMany, .int h0_lowest, .int h0_highest, .int h0_agreed, .int h0_jurors, .int h0_panelled, .ref h0_inSets, .int h0_surely, .int h0_asked, .ref h0_frees, .int h0_struck, .int h0_beating, .ref h0_text, .int h0_texts, .int h0_seed, .ref h0_line, .ref h0_written, .int h0_lineMany, .int h0_hasWritten, .ref h0_node, .int h0_nodes, .int h0_onesMany, .int h0_within, .int h0_top])), (aI ca h0_aside 45 F_h0_aside), (aI ca h0_now 376 g_165)] H := hP
        have hD : va_D A [(h0, .inr (11, [.int h0_thrown, .ref h0_tape, .int h0_taped, .int h0_size, .int h0_limit, .int h0_to, .int h0_from, .int h0_kind, .int h0_number, .int h0_sign, .int h0_fault, .int h0_place, .long h0_word, .int h0_told, .ref h0_now, .ref h0_read, .ref h0_kept, .ref h0_snaps, .ref h0_aside, .ref h0_name, .ref h0_readName, .ref h0_keptName, .ref h0_isKept, .ref h0_onces, .int h0_snapMany, .int h0_lowest, .int h0_highest, .int h0_agreed, .int h0_jurors, .int h0_panelled, .ref h0_inSets, .int h0_surely, .int h0_asked, .ref h0_frees, .int h0_struck, .int h0_beating, .ref h0_text, .int h0_texts, .int h0_seed, .ref h0_line, .ref h0_written, .int h0_lineMany, .int h0_hasWritten, .ref h0_node, .int h0_nodes, .int h0_onesMany, .int h0_within, .int h0_top])), (aI ca h0_aside 45 F_h0_aside), (aI ca h0_now 376 g_165)] := hD
        obtain ⟨x_173, ex_173⟩ : ∃ y : Int32, y = y2_0 + 1 := ⟨_, rfl⟩
        have h_174 : rg 1 45 x_173 := by rw [ex_173]; exact rg_add h_160 (⟨by decide, by decide⟩ : rg 1 1 (1 : Int32)) (by decide) (by decide) (by decide) (by decide)
        have l_175 : lq x_173.toInt (y2_0.toInt + 1) := lqm (by rw [ex_173]; have q := tadd h_160 (⟨by decide, by decide⟩ : rg 1 1 (1 : Int32)) (by decide) (by decide); have r1 := lqe (lqm (by decide) : lq (1 : Int32).toInt 1); omega)
        refine lv_iinc (v := x_173) (lv' := [(1, .int x_173), (0, .ref h0)]) hx hb dX12_takeBack_23 hl (k := 1) rfl (by rw [ex_173]; rfl) (by decide) rfl (fun ls hl => ?_)
        refine lv_goto (tgt := 2) hx hb dX12_takeBack_26 (by decide) ?_
        exact ih x_173 g_165 trivial (rgw (lo := 0) (hi := 45) h_174 (by decide) (by decide)) s_166 s_167 s_168 s_169 s_170 s_171 q_172 (by have q0 := lqe l_175; omega) H locs ls (oPsub hP [0, 1, 2] rfl) (hD.sub [0, 1, 2] (by decide) rfl) hS (lv_sub hl [1, 0] rfl)
  refine lv_iconst (v := 0) hx hb dX12_takeBack_0 (by decide) ?_
  refine lv_istore_n (lv' := [(1, .int 0), (0, .ref h0)]) hx hb dX12_takeBack_1 rfl hl (by decide) rfl (fun ls hl => ?_)
  exact J2_135 46 0 F_h0_now trivial (⟨by decide, by decide⟩ : rg 0 45 (0 : Int32)) s_h0_now_0 s_h0_now_1 s_h0_now_2 s_h0_now_3 s_h0_now_4 s_h0_now_5 (eqs_w (eqs_rf (a := 0) (b := 376) F_h0_now) (by decide) (by decide)) (by have q0 := (⟨by decide, by decide⟩ : rg 0 0 (0 : Int32)).1; omega) H locs ls (oPsub hP [0, 1, 2] rfl) (hD.sub [0, 1, 2] (by decide) rfl) hS (lv_sub hl [1, 0] rfl)
theorem dX12_odds_0 : decode cX12_odds 0 = .ok (.aload_n 0, 1) := by decide +kernel
theorem dX12_odds_1 : decode cX12_odds 1 = .ok (.iconst 0, 1) := by decide +kernel
theorem dX12_odds_2 : decode cX12_odds 2 = .ok (.putfield 1, 3) := by decide +kernel
theorem dX12_odds_5 : decode cX12_odds 5 = .ok (.aload_n 0, 1) := by decide +kernel
theorem dX12_odds_6 : decode cX12_odds 6 = .ok (.iload_n 1, 1) := by decide +kernel
theorem dX12_odds_7 : decode cX12_odds 7 = .ok (.invokevirtual 255, 3) := by decide +kernel
theorem dX12_odds_10 : decode cX12_odds 10 = .ok (.ifCond .eq 22, 3) := by decide +kernel
theorem dX12_odds_13 : decode cX12_odds 13 = .ok (.iload_n 2, 1) := by decide +kernel
theorem dX12_odds_14 : decode cX12_odds 14 = .ok (.iconst 1, 1) := by decide +kernel
theorem dX12_odds_15 : decode cX12_odds 15 = .ok (.bipush 30, 2) := by decide +kernel
theorem dX12_odds_17 : decode cX12_odds 17 = .ok (.invokestatic 75, 3) := by decide +kernel
theorem dX12_odds_20 : decode cX12_odds 20 = .ok (.ifCond .eq 12, 3) := by decide +kernel
theorem dX12_odds_23 : decode cX12_odds 23 = .ok (.aload_n 0, 1) := by decide +kernel
theorem dX12_odds_24 : decode cX12_odds 24 = .ok (.getfield 98, 3) := by decide +kernel
theorem dX12_odds_27 : decode cX12_odds 27 = .ok (.iconst 0, 1) := by decide +kernel
theorem dX12_odds_28 : decode cX12_odds 28 = .ok (.iaload, 1) := by decide +kernel
theorem dX12_odds_29 : decode cX12_odds 29 = .ok (.ifCond .ne 5, 3) := by decide +kernel
theorem dX12_odds_32 : decode cX12_odds 32 = .ok (.iconst (-1), 1) := by decide +kernel
theorem dX12_odds_33 : decode cX12_odds 33 = .ok (.ireturn, 1) := by decide +kernel
theorem dX12_odds_34 : decode cX12_odds 34 = .ok (.aload_n 0, 1) := by decide +kernel
theorem dX12_odds_35 : decode cX12_odds 35 = .ok (.invokevirtual 352, 3) := by decide +kernel
theorem dX12_odds_38 : decode cX12_odds 38 = .ok (.iconst 0, 1) := by decide +kernel
theorem dX12_odds_39 : decode cX12_odds 39 = .ok (.istore 4, 2) := by decide +kernel
theorem dX12_odds_41 : decode cX12_odds 41 = .ok (.iconst 0, 1) := by decide +kernel
theorem dX12_odds_42 : decode cX12_odds 42 = .ok (.istore 5, 2) := by decide +kernel
theorem dX12_odds_44 : decode cX12_odds 44 = .ok (.iload 5, 2) := by decide +kernel
theorem dX12_odds_46 : decode cX12_odds 46 = .ok (.iload_n 2, 1) := by decide +kernel
theorem dX12_odds_47 : decode cX12_odds 47 = .ok (.if_icmp .ge 40, 3) := by decide +kernel
theorem dX12_odds_50 : decode cX12_odds 50 = .ok (.aload_n 0, 1) := by decide +kernel
theorem dX12_odds_51 : decode cX12_odds 51 = .ok (.bipush 20, 2) := by decide +kernel
theorem dX12_odds_53 : decode cX12_odds 53 = .ok (.iload_n 3, 1) := by decide +kernel
theorem dX12_odds_54 : decode cX12_odds 54 = .ok (.iload 5, 2) := by decide +kernel
theorem dX12_odds_56 : decode cX12_odds 56 = .ok (.iadd, 1) := by decide +kernel
theorem dX12_odds_57 : decode cX12_odds 57 = .ok (.invokevirtual 349, 3) := by decide +kernel
theorem dX12_readDoes_0 : decode cX12_readDoes 0 = .ok (.bipush 7, 2) := by decide +kernel
theorem dX12_readDoes_2 : decode cX12_readDoes 2 = .ok (.istore_n 2, 1) := by decide +kernel
theorem dX12_readDoes_3 : decode cX12_readDoes 3 = .ok (.iload_n 2, 1) := by decide +kernel
theorem dX12_readDoes_4 : decode cX12_readDoes 4 = .ok (.bipush 11, 2) := by decide +kernel
theorem dX12_readDoes_6 : decode cX12_readDoes 6 = .ok (.if_icmp .gt 17, 3) := by decide +kernel
theorem dX12_readDoes_9 : decode cX12_readDoes 9 = .ok (.aload_n 0, 1) := by decide +kernel
theorem dX12_readDoes_10 : decode cX12_readDoes 10 = .ok (.iload_n 2, 1) := by decide +kernel
theorem dX12_readDoes_11 : decode cX12_readDoes 11 = .ok (.invokevirtual 197, 3) := by decide +kernel
theorem dX12_readDoes_14 : decode cX12_readDoes 14 = .ok (.ifCond .ne 9, 3) := by decide +kernel
theorem dX12_readDoes_17 : decode cX12_readDoes 17 = .ok (.iinc 2 1, 3) := by decide +kernel
theorem dX12_readDoes_20 : decode cX12_readDoes 20 = .ok (.goto (-17), 3) := by decide +kernel
theorem dX12_readDoes_23 : decode cX12_readDoes 23 = .ok (.iload_n 2, 1) := by decide +kernel
theorem dX12_readDoes_24 : decode cX12_readDoes 24 = .ok (.bipush 11, 2) := by decide +kernel
theorem dX12_readDoes_26 : decode cX12_readDoes 26 = .ok (.if_icmp .le 9, 3) := by decide +kernel
theorem dX12_readDoes_29 : decode cX12_readDoes 29 = .ok (.aload_n 0, 1) := by decide +kernel
theorem dX12_readDoes_30 : decode cX12_readDoes 30 = .ok (.iconst 1, 1) := by decide +kernel
theorem dX12_readDoes_31 : decode cX12_readDoes 31 = .ok (.invokevirtual 72, 3) := by decide +kernel
theorem dX12_readDoes_34 : decode cX12_readDoes 34 = .ok (.ireturn, 1) := by decide +kernel
theorem dX12_readDoes_35 : decode cX12_readDoes 35 = .ok (.aload_n 0, 1) := by decide +kernel
theorem dX12_readDoes_36 : decode cX12_readDoes 36 = .ok (.getfield 160, 3) := by decide +kernel
theorem dX12_readDoes_39 : decode cX12_readDoes 39 = .ok (.iload_n 1, 1) := by decide +kernel
theorem dX12_readDoes_40 : decode cX12_readDoes 40 = .ok (.iload_n 2, 1) := by decide +kernel
theorem dX12_readDoes_41 : decode cX12_readDoes 41 = .ok (.bipush 7, 2) := by decide +kernel
theorem dX12_readDoes_43 : decode cX12_readDoes 43 = .ok (.isub, 1) := by decide +kernel
theorem dX12_readDoes_44 : decode cX12_readDoes 44 = .ok (.iastore, 1) := by decide +kernel
theorem dX12_readDoes_45 : decode cX12_readDoes 45 = .ok (.aload_n 0, 1) := by decide +kernel
theorem dX12_readDoes_46 : decode cX12_readDoes 46 = .ok (.invokevirtual 82, 3) := by decide +kernel
theorem dX12_readDoes_49 : decode cX12_readDoes 49 = .ok (.iconst 1, 1) := by decide +kernel
theorem dX12_readDoes_50 : decode cX12_readDoes 50 = .ok (.ireturn, 1) := by decide +kernel
set_option maxRecDepth 20000 in
theorem ggX12_odds_X12_isCase : GoodIn wsX12_odds wsX12_isCase := goodIn_r _ [7, 2, 8, 9, 6, 10, 78, 79, 80, 81, 82, 83, 84, 85, 86, 87, 88, 89, 90, 91, 92, 93, 94, 95, 96, 97, 98, 99, 100, 101, 102, 103, 104, 105, 106, 107, 108, 109, 110, 111, 112, 113, 114, 115, 116, 117, 118, 119, 120, 121, 122, 123, 124, 125] rfl (by decide +kernel)
set_option maxRecDepth 20000 in
theorem gX12_odds_X12_isCase : GoodIn wsX12_odds (wsV RX12 255 RX12 yX12_isCase wsX12_isCase) := goodIn_app (goodIn_of _ (by decide +kernel)) ggX12_odds_X12_isCase
set_option maxRecDepth 20000 in
theorem ggX12_odds_X12_isIn : GoodIn wsX12_odds wsX12_isIn := goodIn_r _ [10] rfl (by decide +kernel)
set_option maxRecDepth 20000 in
theorem gX12_odds_X12_isIn : GoodIn wsX12_odds (va_wsS RX12 75 yX12_isIn wsX12_isIn) := goodIn_app (goodIn_of _ (by decide +kernel)) ggX12_odds_X12_isIn
set_option maxRecDepth 20000 in
theorem ggX12_odds_X12_layAside : GoodIn wsX12_odds wsX12_layAside := goodIn_r _ [14, 15, 2, 78, 79, 80, 81, 82, 83, 84, 85, 86, 87, 88, 89, 90, 91, 92, 93, 94, 95, 96, 97, 98, 99, 100, 101, 102, 103, 104, 105, 106, 107, 108, 109, 110, 111, 112, 113, 114, 115, 116, 117, 118, 119, 120, 121, 122, 123, 124, 125] rfl (by decide +kernel)
set_option maxRecDepth 20000 in
theorem gX12_odds_X12_layAside : GoodIn wsX12_odds (wsV RX12 352 RX12 yX12_layAside wsX12_layAside) := goodIn_app (goodIn_of _ (by decide +kernel)) ggX12_odds_X12_layAside
set_option maxRecDepth 20000 in
theorem ggX12_readDoes_X12_isWord : GoodIn wsX12_readDoes wsX12_isWord := goodIn_r _ [6, 7, 8, 9, 10, 5, 11, 12, 13, 14, 15, 16, 44, 45, 46, 47, 48, 49, 50, 51, 52, 53, 54, 55, 56, 57, 58, 59, 60, 61, 62, 63, 64, 65, 66, 67, 68, 69, 70, 71, 72, 73, 74, 75, 76, 77, 78, 79, 80, 81, 82, 83, 84, 85, 86, 87, 88, 89, 90, 91] rfl (by decide +kernel)
set_option maxRecDepth 20000 in
theorem gX12_readDoes_X12_isWord : GoodIn wsX12_readDoes (wsV RX12 197 RX12 yX12_isWord wsX12_isWord) := goodIn_app (goodIn_of _ (by decide +kernel)) ggX12_readDoes_X12_isWord
set_option maxRecDepth 20000 in
theorem ggX12_readDoes_X12_go : GoodIn wsX12_readDoes wsX12_go := goodIn_r _ [27, 28, 29, 30, 22, 31, 7, 32, 8, 33, 15, 16, 34, 35, 5, 36, 37, 38, 39, 40, 41, 42, 43, 44, 45, 46, 47, 48, 49, 50, 51, 52, 53, 54, 55, 56, 57, 58, 59, 60, 61, 62, 63, 64, 65, 66, 67, 68, 69, 70, 71, 72, 73, 74, 75, 76, 77, 78, 79, 80, 81, 82, 83, 84, 85, 86, 87, 88, 89, 90, 91] rfl (by decide +kernel)
set_option maxRecDepth 20000 in
theorem gX12_readDoes_X12_go : GoodIn wsX12_readDoes (wsV RX12 82 RX12 yX12_go wsX12_go) := goodIn_app (goodIn_of _ (by decide +kernel)) ggX12_readDoes_X12_go
set_option maxRecDepth 20000 in
theorem ggX12_readDoes_X12_bad : GoodIn wsX12_readDoes wsX12_bad := goodIn_r _ [20, 7, 21, 22, 23, 44, 45, 46, 47, 48, 49, 50, 51, 52, 53, 54, 55, 56, 57, 58, 59, 60, 61, 62, 63, 64, 65, 66, 67, 68, 69, 70, 71, 72, 73, 74, 75, 76, 77, 78, 79, 80, 81, 82, 83, 84, 85, 86, 87, 88, 89, 90, 91] rfl (by decide +kernel)
set_option maxRecDepth 20000 in
theorem gX12_readDoes_X12_bad : GoodIn wsX12_readDoes (wsV RX12 72 RX12 yX12_bad wsX12_bad) := goodIn_app (goodIn_of _ (by decide +kernel)) ggX12_readDoes_X12_bad
set_option maxHeartbeats 4000000 in
set_option maxRecDepth 100000 in
theorem s_X12_readDoes (l : Launch) (D : va_G) (ca : Nat → ClassId) (sz : Nat) (h0 : Nat) (a1 : Int32) (h0_thrown : Int32) (h0_tape : Nat) (h0_taped : Int32) (h0_size : Int32) (h0_limit : Int32) (h0_to : Int32) (h0_from : Int32) (h0_kind : Int32) (h0_number : Int32) (h0_sign : Int32) (h0_fault : Int32) (h0_place : Int32) (h0_word : Int64) (h0_told : Int32) (h0_now : Nat) (h0_read : Nat) (h0_kept : Nat) (h0_snaps : Nat) (h0_aside : Nat) (h0_name : Nat) (h0_readName : Nat) (h0_keptName : Nat) (h0_isKept : Nat) (h0_onces : Nat) (h0_snapMany : Int32) (h0_lowest : Int32) (h0_highest : Int32) (h0_agreed : Int32) (h0_jurors : Int32) (h0_panelled : Int32) (h0_inSets : Nat) (h0_surely : Int32) (h0_asked : Int32) (h0_frees : Nat) (h0_struck : Int32) (h0_beating : Int32) (h0_text : Nat) (h0_texts : Int32) (h0_seed : Int32) (h0_line : Nat) (h0_written : Nat) (h0_lineMany : Int32) (h0_hasWritten : Int32) (h0_node : Nat) (h0_nodes : Int32) (h0_onesMany : Int32) (h0_within : Int32) (h0_top : Int32) (F_h0_line : Nat → Int32) (F_h0_tape : Nat → Int32) (i_a1 : rg 0 78 a1) (i_h0_taped : rg 0 940 h0_taped) (i_h0_size : rg 0 940 h0_size) (i_h0_to : rg 0 940 h0_to) (i_h0_snapMany : rg 0 8 h0_snapMany) (i_h0_texts : rg 0 64 h0_texts) (i_h0_lineMany : rg 0 40 h0_lineMany) (i_h0_hasWritten : rg 0 1 h0_hasWritten) (s_h0_tape_0 : sg 0 940 0 255 F_h0_tape) : oMet l yX12_readDoes wsX12_readDoes ({ frames := 3, cells := 0, slots := 0, locals := 69 } : Room) [.ref h0, .int a1] D ca sz [(h0, .inr (11, [.int h0_thrown, .ref h0_tape, .int h0_taped, .int h0_size, .int h0_limit, .int h0_to, .int h0_from, .int h0_kind, .int h0_number, .int h0_sign, .int h0_fault, .int h0_place, .long h0_word, .int h0_told, .ref h0_now, .ref h0_read, .ref h0_kept, .ref h0_snaps, .ref h0_aside, .ref h0_name, .ref h0_readName, .ref h0_keptName, .ref h0_isKept, .ref h0_onces, .int h0_snapMany, .int h0_lowest, .int h0_highest, .int h0_agreed, .int h0_jurors, .int h0_panelled, .ref h0_inSets, .int h0_surely, .int h0_asked, .ref h0_frees, .int h0_struck, .int h0_beating, .ref h0_text, .int h0_texts, .int h0_seed, .ref h0_line, .ref h0_written, .int h0_lineMany, .int h0_hasWritten, .ref h0_node, .int h0_nodes, .int h0_onesMany, .int h0_within, .int h0_top])), (aI ca h0_line 80 F_h0_line), (aI ca h0_tape 940 F_h0_tape)] (oQi D (fun (r : Int32) (u : Int32 × Int32 × Int32 × Int32 × Int32 × Int32 × Int32 × Int64 × (Nat → Int32)) => ((r = 1) ∧ (rg 0 940 u.1) ∧ (rg (-2147483648) 940 u.2.1) ∧ (rg 0 4 u.2.2.1) ∧ (eqs 79 80 u.2.2.2.2.2.2.2.2 F_h0_line) ∧ (rl 0 h0_to u.1) ∧ (rl 0 h0_fault u.2.2.2.2.2.1) ∧ (rl 0 u.2.2.2.2.2.1 h0_fault) ∧ (rl 0 h0_place u.2.2.2.2.2.2.1) ∧ (rl 0 u.2.2.2.2.2.2.1 h0_place)) ∨ ((r = 0) ∧ (rg 0 940 u.1) ∧ (eqs 0 80 u.2.2.2.2.2.2.2.2 F_h0_line) ∧ (rl 0 h0_to u.1) ∧ (rl 0 u.1 h0_to) ∧ (rl 0 h0_from u.2.1) ∧ (rl 0 u.2.1 h0_from) ∧ (rl 0 h0_kind u.2.2.1) ∧ (rl 0 u.2.2.1 h0_kind) ∧ (rl 0 h0_number u.2.2.2.1) ∧ (rl 0 u.2.2.2.1 h0_number) ∧ (rl 0 h0_sign u.2.2.2.2.1) ∧ (rl 0 u.2.2.2.2.1 h0_sign))) (fun (u : Int32 × Int32 × Int32 × Int32 × Int32 × Int32 × Int32 × Int64 × (Nat → Int32)) => [(h0, .inr (11, [.int h0_thrown, .ref h0_tape, .int h0_taped, .int h0_size, .int h0_limit, .int u.1, .int u.2.1, .int u.2.2.1, .int u.2.2.2.1, .int u.2.2.2.2.1, .int u.2.2.2.2.2.1, .int u.2.2.2.2.2.2.1, .long u.2.2.2.2.2.2.2.1, .int h0_told, .ref h0_now, .ref h0_read, .ref h0_kept, .ref h0_snaps, .ref h0_aside, .ref h0_name, .ref h0_readName, .ref h0_keptName, .ref h0_isKept, .ref h0_onces, .int h0_snapMany, .int h0_lowest, .int h0_highest, .int h0_agreed, .int h0_jurors, .int h0_panelled, .ref h0_inSets, .int h0_surely, .int h0_asked, .ref h0_frees, .int h0_struck, .int h0_beating, .ref h0_text, .int h0_texts, .int h0_seed, .ref h0_line, .ref h0_written, .int h0_lineMany, .int h0_hasWritten, .ref h0_node, .int h0_nodes, .int h0_onesMany, .int h0_within, .int h0_top])), (aI ca h0_line 80 u.2.2.2.2.2.2.2.2), (aI ca h0_tape 940 F_h0_tape)])) 0 0 := by
  refine oM (cc := cX12_readDoes) (maxL := 3) (ret := (some .boolean)) (by decide) rfl (Nat.le_of_ble_eq_true rfl) [(0, .ref h0), (1, .int a1)] rfl ?_
  intro p e s m below meth c A H locs ls hx hb hr hml hts hown hlocks hin hK hP hD hA hS hl
  have hown : s.vm.findClass RX12 = some m.cls := hown
  have k1 := hts (.fieldLink RX12 160 "LidCourtModel" "line" "[I") (by decide +kernel)
  have k2 : ∀ w ∈ wsX120, w ∈ wsX12_readDoes := fun _ h => List.mem_cons_of_mem _ (List.mem_append_right _ h)
  have J23_77 : ∀ (y23_0 : Int32), rg 7 12 y23_0 → ∀ (H : Heap) (locs : List Loc) (ls : Array Slot), va_P D vwCl [(h0, .inr (11, [.int h0_thrown, .ref h0_tape, .int h0_taped, .int h0_size, .int h0_limit, .int h0_to, .int h0_from, .int h0_kind, .int h0_number, .int h0_sign, .int h0_fault, .int h0_place, .long h0_word, .int h0_told, .ref h0_now, .ref h0_read, .ref h0_kept, .ref h0_snaps, .ref h0_aside, .ref h0_name, .ref h0_readName, .ref h0_keptName, .ref h0_isKept, .ref h0_onces, .int h0_snapMany, .int h0_lowest, .int h0_highest, .int h0_agreed, .int h0_jurors, .int h0_panelled, .ref h0_inSets, .int h0_surely, .int h0_asked, .ref h0_frees, .int h0_struck, .int h0_beating, .ref h0_text, .int h0_texts, .int h0_seed, .ref h0_line, .ref h0_written, .int h0_lineMany, .int h0_hasWritten, .ref h0_node, .int h0_nodes, .int h0_onesMany, .int h0_within, .int h0_top])), (aI ca h0_line 80 F_h0_line), (aI ca h0_tape 940 F_h0_tape)] H → va_D A [(h0, .inr (11, [.int h0_thrown, .ref h0_tape, .int h0_taped, .int h0_size, .int h0_limit, .int h0_to, .int h0_from, .int h0_kind, .int h0_number, .int h0_sign, .int h0_fault, .int h0_place, .long h0_word, .int h0_told, .ref h0_now, .ref h0_read, .ref h0_kept, .ref h0_snaps, .ref h0_aside, .ref h0_name, .ref h0_readName, .ref h0_keptName, .ref h0_isKept, .ref h0_onces, .int h0_snapMany, .int h0_lowest, .int h0_highest, .int h0_agreed, .int h0_jurors, .int h0_panelled, .ref h0_inSets, .int h0_surely, .int h0_asked, .ref h0_frees, .int h0_struck, .int h0_beating, .ref h0_text, .int h0_texts, .int h0_seed, .ref h0_line, .ref h0_written, .int h0_lineMany, .int h0_hasWritten, .ref h0_node, .int h0_nodes, .int h0_onesMany, .int h0_within, .int h0_top])), (aI ca h0_line 80 F_h0_line), (aI ca h0_tape 940 F_h0_tape)] → va_S A s.heap H locs → lv_has ls 3 [(0, .ref h0), (1, .int a1), (2, .int y23_0)] → W p l e ({ frames := 3, cells := 0, slots := 0, locals := 69 } : Room) s m ([.ref h0, .int a1] : List Value).toArray below meth c H locs 0 0 (MQ below ((oQi D (fun (r : Int32) (u : Int32 × Int32 × Int32 × Int32 × Int32 × Int32 × Int32 × Int64 × (Nat → Int32)) => ((r = 1) ∧ (rg 0 940 u.1) ∧ (rg (-2147483648) 940 u.2.1) ∧ (rg 0 4 u.2.2.1) ∧ (eqs 79 80 u.2.2.2.2.2.2.2.2 F_h0_line) ∧ (rl 0 h0_to u.1) ∧ (rl 0 h0_fault u.2.2.2.2.2.1) ∧ (rl 0 u.2.2.2.2.2.1 h0_fault) ∧ (rl 0 h0_place u.2.2.2.2.2.2.1) ∧ (rl 0 u.2.2.2.2.2.2.1 h0_place)) ∨ ((r = 0) ∧ (rg 0 940 u.1) ∧ (eqs 0 80 u.2.2.2.2.2.2.2.2 F_h0_line) ∧ (rl 0 h0_to u.1) ∧ (rl 0 u.1 h0_to) ∧ (rl 0 h0_from u.2.1) ∧ (rl 0 u.2.1 h0_from) ∧ (rl 0 h0_kind u.2.2.1) ∧ (rl 0 u.2.2.1 h0_kind) ∧ (rl 0 h0_number u.2.2.2.1) ∧ (rl 0 u.2.2.2.1 h0_number) ∧ (rl 0 h0_sign u.2.2.2.2.1) ∧ (rl 0 u.2.2.2.2.1 h0_sign))) (fun (u : Int32 × Int32 × Int32 × Int32 × Int32 × Int32 × Int32 × Int64 × (Nat → Int32)) => [(h0, .inr (11, [.int h0_thrown, .ref h0_tape, .int h0_taped, .int h0_size, .int h0_limit, .int u.1, .int u.2.1, .int u.2.2.1, .int u.2.2.2.1, .int u.2.2.2.2.1, .int u.2.2.2.2.2.1, .int u.2.2.2.2.2.2.1, .long u.2.2.2.2.2.2.2.1, .int h0_told, .ref h0_now, .ref h0_read, .ref h0_kept, .ref h0_snaps, .ref h0_aside, .ref h0_name, .ref h0_readName, .ref h0_keptName, .ref h0_isKept, .ref h0_onces, .int h0_snapMany, .int h0_lowest, .int h0_highest, .int h0_agreed, .int h0_jurors, .int h0_panelled, .ref h0_inSets, .int h0_surely, .int h0_asked, .ref h0_frees, .int h0_struck, .int h0_beating, .ref h0_text, .int h0_texts, .int h0_seed, .ref h0_line, .ref h0_written, .int h0_lineMany, .int h0_hasWritten, .ref h0_node, .int h0_nodes, .int h0_onesMany, .int h0_within, .int h0_top])), (aI ca h0_line 80 u.2.2.2.2.2.2.2.2), (aI ca h0_tape 940 F_h0_tape)])) A) ([.ref h0, .int a1] : List Value).toArray s 0 0 A) (F0 m 23 ls []) := by
    intro y23_0 hy23_0 H locs ls hP hD hS hl
    refine lv_iload_n hx hb dX12_readDoes_23 rfl (lv_at hl 2 rfl) ?_
    refine lv_bipush (v := 11) hx hb dX12_readDoes_24 (by decide) ?_
    refine lv_icmp_le (tgt := 35) hx hb dX12_readDoes_26 (by decide) (fun c_78 => ?_) (fun c_78 => ?_)
    · skip
      have o_79 : rl 0 y23_0 11 := rl_le c_78
      have h_80 : rg 7 11 y23_0 := rl_x o_79 hy23_0 (⟨by decide, by decide⟩ : rg 11 11 (11 : Int32)) (by decide) (by decide)
      refine lv_aload_n hx hb dX12_readDoes_35 rfl (lv_at hl 0 rfl) ?_
      refine va_get (D := D) (ci := 11) (v := .ref h0_line) (C := RX12) (T := TX12) (N := 48) hx hb hts k2 hown hK.1 hP 0 rfl rfl 39 (by decide) k1 (fun _ h9 => h9) rfl dX12_readDoes_36 ?_
      refine lv_iload_n hx hb dX12_readDoes_39 rfl (lv_at hl 1 rfl) ?_
      refine lv_iload_n hx hb dX12_readDoes_40 rfl (lv_at hl 2 rfl) ?_
      refine lv_bipush (v := 7) hx hb dX12_readDoes_41 (by decide) ?_
      refine lv_isub hx hb dX12_readDoes_43 ?_
      refine lv_topi (fun x_81 ex_81 => ?_)
      have h_82 : rg 0 4 x_81 := by rw [ex_81]; exact rg_sub h_80 (⟨by decide, by decide⟩ : rg 7 7 (7 : Int32)) (by decide) (by decide) (by decide) (by decide)
      have l_83 : lq x_81.toInt (y23_0.toInt + (-7)) := lqm (by rw [ex_81]; have q := tsub h_80 (⟨by decide, by decide⟩ : rg 7 7 (7 : Int32)) (by decide) (by decide); have r1 := lqe (lqm (by decide) : lq (7 : Int32).toInt 7); omega)
      refine va_iast hx hb hK.1 hP hD hS 1 0 rfl rfl (rg_in i_a1 (by decide) (by decide)) dX12_readDoes_44 (fun H locs hP hD hS => ?_)
      obtain ⟨g_84, eg_84⟩ : ∃ y : Nat → Int32, y = upd F_h0_line (a1 : Int32).toNatClampNeg (x_81 : Int32) := ⟨_, rfl⟩
      rw [← eg_84] at hP hD
      have q_85 : eqs 79 80 g_84 F_h0_line := eqs_out (eqs_rf (a := 0) (b := 80) F_h0_line) eg_84 i_a1 (by decide) (by decide) (by decide) (by decide)
      have hP : va_P D vwCl [(h0, .inr (11, [.int h0_thrown, .ref h0_tape, .int h0_taped, .int h0_size, .int h0_limit, .int h0_to, .int h0_from, .int h0_kind, .int h0_number, .int h0_sign, .int h0_fault, .int h0_place, .long h0_word, .int h0_told, .ref h0_now, .ref h0_read, .ref h0_kept, .ref h0_snaps, .ref h0_aside, .ref h0_name, .ref h0_readName, .ref h0_keptName, .ref h0_isKept, .ref h0_onces, .int h0_snapMany, .int h0_lowest, .int h0_highest, .int h0_agreed, .int h0_jurors, .int h0_panelled, .ref h0_inSets, .int h0_surely, .int h0_asked, .ref h0_frees, .int h0_struck, .int h0_beating, .ref h0_text, .int h0_texts, .int h0_seed, .ref h0_line, .ref h0_written, .int h0_lineMany, .int h0_hasWritten, .ref h0_node, .int h0_nodes, .int h0_onesMany, .int h0_within, .int h0_top])), (aI ca h0_line 80 g_84), (aI ca h0_tape 940 F_h0_tape)] H := hP
      have hD : va_D A [(h0, .inr (11, [.int h0_thrown, .ref h0_tape, .int h0_taped, .int h0_size, .int h0_limit, .int h0_to, .int h0_from, .int h0_kind, .int h0_number, .int h0_sign, .int h0_fault, .int h0_place, .long h0_word, .int h0_told, .ref h0_now, .ref h0_read, .ref h0_kept, .ref h0_snaps, .ref h0_aside, .ref h0_name, .ref h0_readName, .ref h0_keptName, .ref h0_isKept, .ref h0_onces, .int h0_snapMany, .int h0_lowest, .int h0_highest, .int h0_agreed, .int h0_jurors, .int h0_panelled, .ref h0_inSets, .int h0_surely, .int h0_asked, .ref h0_frees, .int h0_struck, .int h0_beating, .ref h0_text, .int h0_texts, .int h0_seed, .ref h0_line, .ref h0_written, .int h0_lineMany, .int h0_hasWritten, .ref h0_node, .int h0_nodes, .int h0_onesMany, .int h0_within, .int h0_top])), (aI ca h0_line 80 g_84), (aI ca h0_tape 940 F_h0_tape)] := hD
      refine lv_aload_n hx hb dX12_readDoes_45 rfl (lv_at hl 0 rfl) ?_
      refine oC_v (Wc := [(h0, .inr (11, [.int h0_thrown, .ref h0_tape, .int h0_taped, .int h0_size, .int h0_limit, .int h0_to, .int h0_from, .int h0_kind, .int h0_number, .int h0_sign, .int h0_fault, .int h0_place, .long h0_word, .int h0_told, .ref h0_now, .ref h0_read, .ref h0_kept, .ref h0_snaps, .ref h0_aside, .ref h0_name, .ref h0_readName, .ref h0_keptName, .ref h0_isKept, .ref h0_onces, .int h0_snapMany, .int h0_lowest, .int h0_highest, .int h0_agreed, .int h0_jurors, .int h0_panelled, .ref h0_inSets, .int h0_surely, .int h0_asked, .ref h0_frees, .int h0_struck, .int h0_beating, .ref h0_text, .int h0_texts, .int h0_seed, .ref h0_line, .ref h0_written, .int h0_lineMany, .int h0_hasWritten, .ref h0_node, .int h0_nodes, .int h0_onesMany, .int h0_within, .int h0_top])), (aI ca h0_tape 940 F_h0_tape)]) (Wr := [(aI ca h0_line 80 g_84)]) (va_runV (As := []) (rest := []) ⟨hx, hb, hml, hown, hts⟩ (s_X12_go l D ca H.size h0 h0_thrown h0_tape h0_taped h0_size h0_limit h0_to h0_from h0_kind h0_number h0_sign h0_fault h0_place h0_word h0_told h0_now h0_read h0_kept h0_snaps h0_aside h0_name h0_readName h0_keptName h0_isKept h0_onces h0_snapMany h0_lowest h0_highest h0_agreed h0_jurors h0_panelled h0_inSets h0_surely h0_asked h0_frees h0_struck h0_beating h0_text h0_texts h0_seed h0_line h0_written h0_lineMany h0_hasWritten h0_node h0_nodes h0_onesMany h0_within h0_top F_h0_tape i_h0_taped i_h0_size i_h0_to i_h0_snapMany i_h0_texts i_h0_lineMany i_h0_hasWritten (sg_w (a' := 0) (b' := 940) (lo' := 0) (hi' := 255) s_h0_tape_0 (by decide) (by decide) (by decide) (by decide))) (cwV 0 hts gX12_readDoes_X12_go rfl rfl rfl (by decide +kernel) ⟨Nat.le_of_ble_eq_true rfl, Nat.le_of_ble_eq_true rfl⟩) (oPV (C := RX12) hK hP hD [0, 2] rfl (by decide) 0 rfl (ci := 11) rfl rfl) rfl rfl hl.1 rfl (lv_room (Nat.le_of_ble_eq_true rfl)) dX12_readDoes_46 ⟨Nat.le_of_ble_eq_true rfl, Nat.le_of_ble_eq_true rfl⟩) hP hD hS hA [0, 2] [1] rfl rfl (by decide) (by decide) (fun u H locs w_87 hP hD hS => ?_)
      obtain ⟨u_88, u_89, u_90, u_91, u_92, u_93⟩ := u
      have hP : va_P D vwCl [(aI ca h0_line 80 g_84), (h0, .inr (11, [.int h0_thrown, .ref h0_tape, .int h0_taped, .int h0_size, .int h0_limit, .int u_88, .int u_89, .int u_90, .int u_91, .int u_92, .int h0_fault, .int h0_place, .long u_93, .int h0_told, .ref h0_now, .ref h0_read, .ref h0_kept, .ref h0_snaps, .ref h0_aside, .ref h0_name, .ref h0_readName, .ref h0_keptName, .ref h0_isKept, .ref h0_onces, .int h0_snapMany, .int h0_lowest, .int h0_highest, .int h0_agreed, .int h0_jurors, .int h0_panelled, .ref h0_inSets, .int h0_surely, .int h0_asked, .ref h0_frees, .int h0_struck, .int h0_beating, .ref h0_text, .int h0_texts, .int h0_seed, .ref h0_line, .ref h0_written, .int h0_lineMany, .int h0_hasWritten, .ref h0_node, .int h0_nodes, .int h0_onesMany, .int h0_within, .int h0_top])), (aI ca h0_tape 940 F_h0_tape)] H := hP
      have hD : va_D A [(aI ca h0_line 80 g_84), (h0, .inr (11, [.int h0_thrown, .ref h0_tape, .int h0_taped, .int h0_size, .int h0_limit, .int u_88, .int u_89, .int u_90, .int u_91, .int u_92, .int h0_fault, .int h0_place, .long u_93, .int h0_told, .ref h0_now, .ref h0_read, .ref h0_kept, .ref h0_snaps, .ref h0_aside, .ref h0_name, .ref h0_readName, .ref h0_keptName, .ref h0_isKept, .ref h0_onces, .int h0_snapMany, .int h0_lowest, .int h0_highest, .int h0_agreed, .int h0_jurors, .int h0_panelled, .ref h0_inSets, .int h0_surely, .int h0_asked, .ref h0_frees, .int h0_struck, .int h0_beating, .ref h0_text, .int h0_texts, .int h0_seed, .ref h0_line, .ref h0_written, .int h0_lineMany, .int h0_hasWritten, .ref h0_node, .int h0_nodes, .int h0_onesMany, .int h0_within, .int h0_top])), (aI ca h0_tape 940 F_h0_tape)] := hD
      try dsimp only at w_87
      obtain ⟨h_94, h_95, h_96, h_97⟩ := w_87
      refine lv_iconst (v := 1) hx hb dX12_readDoes_49 (by decide) ?_
      exact oE_i hx hb hr (by decide) hlocks hP hD hS (u_88, u_89, u_90, u_91, u_92, h0_fault, h0_place, u_93, g_84) [1, 0, 2] rfl (by decide) (Or.inl ⟨rfl, h_94, h_95, h_96, q_85, (show rl 0 h0_to u_88 from rlm (by have q0 := rle h_97; omega)), (show rl 0 h0_fault h0_fault from rlm (by omega)), (show rl 0 h0_fault h0_fault from rlm (by omega)), (show rl 0 h0_place h0_place from rlm (by omega)), (show rl 0 h0_place h0_place from rlm (by omega))⟩) (Nat.le_of_ble_eq_true rfl) (Nat.le_of_ble_eq_true rfl) dX12_readDoes_50
    · skip
      have o_98 : rl 1 11 y23_0 := rl_nle c_78
      have h_99 : rg 12 12 y23_0 := rl_y o_98 (⟨by decide, by decide⟩ : rg 11 11 (11 : Int32)) hy23_0 (by decide) (by decide)
      refine lv_aload_n hx hb dX12_readDoes_29 rfl (lv_at hl 0 rfl) ?_
      refine lv_iconst (v := 1) hx hb dX12_readDoes_30 (by decide) ?_
      refine oC_i (Wc := [(h0, .inr (11, [.int h0_thrown, .ref h0_tape, .int h0_taped, .int h0_size, .int h0_limit, .int h0_to, .int h0_from, .int h0_kind, .int h0_number, .int h0_sign, .int h0_fault, .int h0_place, .long h0_word, .int h0_told, .ref h0_now, .ref h0_read, .ref h0_kept, .ref h0_snaps, .ref h0_aside, .ref h0_name, .ref h0_readName, .ref h0_keptName, .ref h0_isKept, .ref h0_onces, .int h0_snapMany, .int h0_lowest, .int h0_highest, .int h0_agreed, .int h0_jurors, .int h0_panelled, .ref h0_inSets, .int h0_surely, .int h0_asked, .ref h0_frees, .int h0_struck, .int h0_beating, .ref h0_text, .int h0_texts, .int h0_seed, .ref h0_line, .ref h0_written, .int h0_lineMany, .int h0_hasWritten, .ref h0_node, .int h0_nodes, .int h0_onesMany, .int h0_within, .int h0_top]))]) (Wr := [(aI ca h0_line 80 F_h0_line), (aI ca h0_tape 940 F_h0_tape)]) (va_runV (As := [.int 1]) (rest := []) ⟨hx, hb, hml, hown, hts⟩ (s_X12_bad l D ca H.size h0 1 h0_thrown h0_tape h0_taped h0_size h0_limit h0_to h0_from h0_kind h0_number h0_sign h0_fault h0_place h0_word h0_told h0_now h0_read h0_kept h0_snaps h0_aside h0_name h0_readName h0_keptName h0_isKept h0_onces h0_snapMany h0_lowest h0_highest h0_agreed h0_jurors h0_panelled h0_inSets h0_surely h0_asked h0_frees h0_struck h0_beating h0_text h0_texts h0_seed h0_line h0_written h0_lineMany h0_hasWritten h0_node h0_nodes h0_onesMany h0_within h0_top i_h0_taped i_h0_size i_h0_to i_h0_snapMany i_h0_texts i_h0_lineMany i_h0_hasWritten) (cwV 1 hts gX12_readDoes_X12_bad rfl rfl rfl (by decide +kernel) ⟨Nat.le_of_ble_eq_true rfl, Nat.le_of_ble_eq_true rfl⟩) (oPV (C := RX12) hK hP hD [0] rfl (by decide) 0 rfl (ci := 11) rfl rfl) rfl rfl hl.1 rfl (lv_room (Nat.le_of_ble_eq_true rfl)) dX12_readDoes_31 ⟨Nat.le_of_ble_eq_true rfl, Nat.le_of_ble_eq_true rfl⟩) hP hD hS hA [0] [1, 2] rfl rfl (by decide) (by decide) (fun r_100 u H locs w_101 hP hD hS => ?_)
      obtain ⟨u_102, rfl⟩ : ∃ z, z = u := ⟨_, rfl⟩
      have hP : va_P D vwCl [(aI ca h0_line 80 F_h0_line), (aI ca h0_tape 940 F_h0_tape), (h0, .inr (11, [.int h0_thrown, .ref h0_tape, .int h0_taped, .int h0_size, .int h0_limit, .int h0_to, .int h0_from, .int h0_kind, .int h0_number, .int h0_sign, .int u_102, .int h0_from, .long h0_word, .int h0_told, .ref h0_now, .ref h0_read, .ref h0_kept, .ref h0_snaps, .ref h0_aside, .ref h0_name, .ref h0_readName, .ref h0_keptName, .ref h0_isKept, .ref h0_onces, .int h0_snapMany, .int h0_lowest, .int h0_highest, .int h0_agreed, .int h0_jurors, .int h0_panelled, .ref h0_inSets, .int h0_surely, .int h0_asked, .ref h0_frees, .int h0_struck, .int h0_beating, .ref h0_text, .int h0_texts, .int h0_seed, .ref h0_line, .ref h0_written, .int h0_lineMany, .int h0_hasWritten, .ref h0_node, .int h0_nodes, .int h0_onesMany, .int h0_within, .int h0_top]))] H := hP
      have hD : va_D A [(aI ca h0_line 80 F_h0_line), (aI ca h0_tape 940 F_h0_tape), (h0, .inr (11, [.int h0_thrown, .ref h0_tape, .int h0_taped, .int h0_size, .int h0_limit, .int h0_to, .int h0_from, .int h0_kind, .int h0_number, .int h0_sign, .int u_102, .int h0_from, .long h0_word, .int h0_told, .ref h0_now, .ref h0_read, .ref h0_kept, .ref h0_snaps, .ref h0_aside, .ref h0_name, .ref h0_readName, .ref h0_keptName, .ref h0_isKept, .ref h0_onces, .int h0_snapMany, .int h0_lowest, .int h0_highest, .int h0_agreed, .int h0_jurors, .int h0_panelled, .ref h0_inSets, .int h0_surely, .int h0_asked, .ref h0_frees, .int h0_struck, .int h0_beating, .ref h0_text, .int h0_texts, .int h0_seed, .ref h0_line, .ref h0_written, .int h0_lineMany, .int h0_hasWritten, .ref h0_node, .int h0_nodes, .int h0_onesMany, .int h0_within, .int h0_top]))] := hD
      try dsimp only at w_101
      have h_103 := w_101
      subst h_103
      exact oE_i hx hb hr (by decide) hlocks hP hD hS (h0_to, h0_from, h0_kind, h0_number, h0_sign, u_102, h0_from, h0_word, F_h0_line) [2, 0, 1] rfl (by decide) (Or.inr (⟨rfl, i_h0_to, (eqs_rf (a := 0) (b := 80) F_h0_line), (show rl 0 h0_to h0_to from rlm (by omega)), (show rl 0 h0_to h0_to from rlm (by omega)), (show rl 0 h0_from h0_from from rlm (by omega)), (show rl 0 h0_from h0_from from rlm (by omega)), (show rl 0 h0_kind h0_kind from rlm (by omega)), (show rl 0 h0_kind h0_kind from rlm (by omega)), (show rl 0 h0_number h0_number from rlm (by omega)), (show rl 0 h0_number h0_number from rlm (by omega)), (show rl 0 h0_sign h0_sign from rlm (by omega)), (show rl 0 h0_sign h0_sign from rlm (by omega))⟩)) (Nat.le_of_ble_eq_true rfl) (Nat.le_of_ble_eq_true rfl) dX12_readDoes_34
  have J3_104 : ∀ (n : Nat) (y3_0 : Int32), True → rg 7 12 y3_0 → 12 < y3_0.toInt + (n : Int) → ∀ (H : Heap) (locs : List Loc) (ls : Array Slot), va_P D vwCl [(h0, .inr (11, [.int h0_thrown, .ref h0_tape, .int h0_taped, .int h0_size, .int h0_limit, .int h0_to, .int h0_from, .int h0_kind, .int h0_number, .int h0_sign, .int h0_fault, .int h0_place, .long h0_word, .int h0_told, .ref h0_now, .ref h0_read, .ref h0_kept, .ref h0_snaps, .ref h0_aside, .ref h0_name, .ref h0_readName, .ref h0_keptName, .ref h0_isKept, .ref h0_onces, .int h0_snapMany, .int h0_lowest, .int h0_highest, .int h0_agreed, .int h0_jurors, .int h0_panelled, .ref h0_inSets, .int h0_surely, .int h0_asked, .ref h0_frees, .int h0_struck, .int h0_beating, .ref h0_text, .int h0_texts, .int h0_seed, .ref h0_line, .ref h0_written, .int h0_lineMany, .int h0_hasWritten, .ref h0_node, .int h0_nodes, .int h0_onesMany, .int h0_within, .int h0_top])), (aI ca h0_line 80 F_h0_line), (aI ca h0_tape 940 F_h0_tape)] H → va_D A [(h0, .inr (11, [.int h0_thrown, .ref h0_tape, .int h0_taped, .int h0_size, .int h0_limit, .int h0_to, .int h0_from, .int h0_kind, .int h0_number, .int h0_sign, .int h0_fault, .int h0_place, .long h0_word, .int h0_told, .ref h0_now, .ref h0_read, .ref h0_kept, .ref h0_snaps, .ref h0_aside, .ref h0_name, .ref h0_readName, .ref h0_keptName, .ref h0_isKept, .ref h0_onces, .int h0_snapMany, .int h0_lowest, .int h0_highest, .int h0_agreed, .int h0_jurors, .int h0_panelled, .ref h0_inSets, .int h0_surely, .int h0_asked, .ref h0_frees, .int h0_struck, .int h0_beating, .ref h0_text, .int h0_texts, .int h0_seed, .ref h0_line, .ref h0_written, .int h0_lineMany, .int h0_hasWritten, .ref h0_node, .int h0_nodes, .int h0_onesMany, .int h0_within, .int h0_top])), (aI ca h0_line 80 F_h0_line), (aI ca h0_tape 940 F_h0_tape)] → va_S A s.heap H locs → lv_has ls 3 [(0, .ref h0), (1, .int a1), (2, .int y3_0)] → W p l e ({ frames := 3, cells := 0, slots := 0, locals := 69 } : Room) s m ([.ref h0, .int a1] : List Value).toArray below meth c H locs 0 0 (MQ below ((oQi D (fun (r : Int32) (u : Int32 × Int32 × Int32 × Int32 × Int32 × Int32 × Int32 × Int64 × (Nat → Int32)) => ((r = 1) ∧ (rg 0 940 u.1) ∧ (rg (-2147483648) 940 u.2.1) ∧ (rg 0 4 u.2.2.1) ∧ (eqs 79 80 u.2.2.2.2.2.2.2.2 F_h0_line) ∧ (rl 0 h0_to u.1) ∧ (rl 0 h0_fault u.2.2.2.2.2.1) ∧ (rl 0 u.2.2.2.2.2.1 h0_fault) ∧ (rl 0 h0_place u.2.2.2.2.2.2.1) ∧ (rl 0 u.2.2.2.2.2.2.1 h0_place)) ∨ ((r = 0) ∧ (rg 0 940 u.1) ∧ (eqs 0 80 u.2.2.2.2.2.2.2.2 F_h0_line) ∧ (rl 0 h0_to u.1) ∧ (rl 0 u.1 h0_to) ∧ (rl 0 h0_from u.2.1) ∧ (rl 0 u.2.1 h0_from) ∧ (rl 0 h0_kind u.2.2.1) ∧ (rl 0 u.2.2.1 h0_kind) ∧ (rl 0 h0_number u.2.2.2.1) ∧ (rl 0 u.2.2.2.1 h0_number) ∧ (rl 0 h0_sign u.2.2.2.2.1) ∧ (rl 0 u.2.2.2.2.1 h0_sign))) (fun (u : Int32 × Int32 × Int32 × Int32 × Int32 × Int32 × Int32 × Int64 × (Nat → Int32)) => [(h0, .inr (11, [.int h0_thrown, .ref h0_tape, .int h0_taped, .int h0_size, .int h0_limit, .int u.1, .int u.2.1, .int u.2.2.1, .int u.2.2.2.1, .int u.2.2.2.2.1, .int u.2.2.2.2.2.1, .int u.2.2.2.2.2.2.1, .long u.2.2.2.2.2.2.2.1, .int h0_told, .ref h0_now, .ref h0_read, .ref h0_kept, .ref h0_snaps, .ref h0_aside, .ref h0_name, .ref h0_readName, .ref h0_keptName, .ref h0_isKept, .ref h0_onces, .int h0_snapMany, .int h0_lowest, .int h0_highest, .int h0_agreed, .int h0_jurors, .int h0_panelled, .ref h0_inSets, .int h0_surely, .int h0_asked, .ref h0_frees, .int h0_struck, .int h0_beating, .ref h0_text, .int h0_texts, .int h0_seed, .ref h0_line, .ref h0_written, .int h0_lineMany, .int h0_hasWritten, .ref h0_node, .int h0_nodes, .int h0_onesMany, .int h0_within, .int h0_top])), (aI ca h0_line 80 u.2.2.2.2.2.2.2.2), (aI ca h0_tape 940 F_h0_tape)])) A) ([.ref h0, .int a1] : List Value).toArray s 0 0 A) (F0 m 3 ls []) := by
    intro n
    induction n with
    | zero => intro y3_0 _ hy3_0 hn; exact absurd hn (by have q9 := hy3_0.2; omega)
    | succ n ih =>
      intro y3_0 _ hy3_0 hn H locs ls hP hD hS hl
      refine lv_iload_n hx hb dX12_readDoes_3 rfl (lv_at hl 2 rfl) ?_
      refine lv_bipush (v := 11) hx hb dX12_readDoes_4 (by decide) ?_
      refine lv_icmp_gt (tgt := 23) hx hb dX12_readDoes_6 (by decide) (fun c_118 => ?_) (fun c_118 => ?_)
      · skip
        have o_119 : rl 1 11 y3_0 := rl_lt c_118
        have h_120 : rg 12 12 y3_0 := rl_y o_119 (⟨by decide, by decide⟩ : rg 11 11 (11 : Int32)) hy3_0 (by decide) (by decide)
        exact J23_77 y3_0 (rgw (lo := 7) (hi := 12) h_120 (by decide) (by decide)) H locs ls (oPsub hP [0, 1, 2] rfl) (hD.sub [0, 1, 2] (by decide) rfl) hS (lv_sub hl [0, 1, 2] rfl)
      · skip
        have o_121 : rl 0 y3_0 11 := rl_nlt c_118
        have h_122 : rg 7 11 y3_0 := rl_x o_121 hy3_0 (⟨by decide, by decide⟩ : rg 11 11 (11 : Int32)) (by decide) (by decide)
        refine lv_aload_n hx hb dX12_readDoes_9 rfl (lv_at hl 0 rfl) ?_
        refine lv_iload_n hx hb dX12_readDoes_10 rfl (lv_at hl 2 rfl) ?_
        refine oC_i (Wc := [(h0, .inr (11, [.int h0_thrown, .ref h0_tape, .int h0_taped, .int h0_size, .int h0_limit, .int h0_to, .int h0_from, .int h0_kind, .int h0_number, .int h0_sign, .int h0_fault, .int h0_place, .long h0_word, .int h0_told, .ref h0_now, .ref h0_read, .ref h0_kept, .ref h0_snaps, .ref h0_aside, .ref h0_name, .ref h0_readName, .ref h0_keptName, .ref h0_isKept, .ref h0_onces, .int h0_snapMany, .int h0_lowest, .int h0_highest, .int h0_agreed, .int h0_jurors, .int h0_panelled, .ref h0_inSets, .int h0_surely, .int h0_asked, .ref h0_frees, .int h0_struck, .int h0_beating, .ref h0_text, .int h0_texts, .int h0_seed, .ref h0_line, .ref h0_written, .int h0_lineMany, .int h0_hasWritten, .ref h0_node, .int h0_nodes, .int h0_onesMany, .int h0_within, .int h0_top]))]) (Wr := [(aI ca h0_line 80 F_h0_line), (aI ca h0_tape 940 F_h0_tape)]) (va_runV (As := [.int y3_0]) (rest := []) ⟨hx, hb, hml, hown, hts⟩ (s_X12_isWord l D ca H.size h0 y3_0 h0_thrown h0_tape h0_taped h0_size h0_limit h0_to h0_from h0_kind h0_number h0_sign h0_fault h0_place h0_word h0_told h0_now h0_read h0_kept h0_snaps h0_aside h0_name h0_readName h0_keptName h0_isKept h0_onces h0_snapMany h0_lowest h0_highest h0_agreed h0_jurors h0_panelled h0_inSets h0_surely h0_asked h0_frees h0_struck h0_beating h0_text h0_texts h0_seed h0_line h0_written h0_lineMany h0_hasWritten h0_node h0_nodes h0_onesMany h0_within h0_top i_h0_taped i_h0_size i_h0_to i_h0_snapMany i_h0_texts i_h0_lineMany i_h0_hasWritten) (cwV 1 hts gX12_readDoes_X12_isWord rfl rfl rfl (by decide +kernel) ⟨Nat.le_of_ble_eq_true rfl, Nat.le_of_ble_eq_true rfl⟩) (oPV (C := RX12) hK hP hD [0] rfl (by decide) 0 rfl (ci := 11) rfl rfl) rfl rfl hl.1 rfl (lv_room (Nat.le_of_ble_eq_true rfl)) dX12_readDoes_11 ⟨Nat.le_of_ble_eq_true rfl, Nat.le_of_ble_eq_true rfl⟩) hP hD hS hA [0] [1, 2] rfl rfl (by decide) (by decide) (fun r_123 u H locs w_124 hP hD hS => ?_)
        obtain ⟨⟩ := u
        have hP : va_P D vwCl [(aI ca h0_line 80 F_h0_line), (aI ca h0_tape 940 F_h0_tape), (h0, .inr (11, [.int h0_thrown, .ref h0_tape, .int h0_taped, .int h0_size, .int h0_limit, .int h0_to, .int h0_from, .int h0_kind, .int h0_number, .int h0_sign, .int h0_fault, .int h0_place, .long h0_word, .int h0_told, .ref h0_now, .ref h0_read, .ref h0_kept, .ref h0_snaps, .ref h0_aside, .ref h0_name, .ref h0_readName, .ref h0_keptName, .ref h0_isKept, .ref h0_onces, .int h0_snapMany, .int h0_lowest, .int h0_highest, .int h0_agreed, .int h0_jurors, .int h0_panelled, .ref h0_inSets, .int h0_surely, .int h0_asked, .ref h0_frees, .int h0_struck, .int h0_beating, .ref h0_text, .int h0_texts, .int h0_seed, .ref h0_line, .ref h0_written, .int h0_lineMany, .int h0_hasWritten, .ref h0_node, .int h0_nodes, .int h0_onesMany, .int h0_within, .int h0_top]))] H := hP
        have hD : va_D A [(aI ca h0_line 80 F_h0_line), (aI ca h0_tape 940 F_h0_tape), (h0, .inr (11, [.int h0_thrown, .ref h0_tape, .int h0_taped, .int h0_size, .int h0_limit, .int h0_to, .int h0_from, .int h0_kind, .int h0_number, .int h0_sign, .int h0_fault, .int h0_place, .long h0_word, .int h0_told, .ref h0_now, .ref h0_read, .ref h0_kept, .ref h0_snaps, .ref h0_aside, .ref h0_name, .ref h0_readName, .ref h0_keptName, .ref h0_isKept, .ref h0_onces, .int h0_snapMany, .int h0_lowest, .int h0_highest, .int h0_agreed, .int h0_jurors, .int h0_panelled, .ref h0_inSets, .int h0_surely, .int h0_asked, .ref h0_frees, .int h0_struck, .int h0_beating, .ref h0_text, .int h0_texts, .int h0_seed, .ref h0_line, .ref h0_written, .int h0_lineMany, .int h0_hasWritten, .ref h0_node, .int h0_nodes, .int h0_onesMany, .int h0_within, .int h0_top]))] := hD
        try dsimp only at w_124
        rcases w_124 with h_125 | ⟨h_126, h_127⟩
        · skip
          subst h_125
          refine lv_if_ne (tgt := 23) hx hb dX12_readDoes_14 (by decide) (fun c => absurd (by decide) c) (fun _ => ?_)
          obtain ⟨x_128, ex_128⟩ : ∃ y : Int32, y = y3_0 + 1 := ⟨_, rfl⟩
          have h_129 : rg 8 12 x_128 := by rw [ex_128]; exact rg_add h_122 (⟨by decide, by decide⟩ : rg 1 1 (1 : Int32)) (by decide) (by decide) (by decide) (by decide)
          have l_130 : lq x_128.toInt (y3_0.toInt + 1) := lqm (by rw [ex_128]; have q := tadd h_122 (⟨by decide, by decide⟩ : rg 1 1 (1 : Int32)) (by decide) (by decide); have r1 := lqe (lqm (by decide) : lq (1 : Int32).toInt 1); omega)
          refine lv_iinc (v := x_128) (lv' := [(2, .int x_128), (0, .ref h0), (1, .int a1)]) hx hb dX12_readDoes_17 hl (k := 2) rfl (by rw [ex_128]; rfl) (by decide) rfl (fun ls hl => ?_)
          refine lv_goto (tgt := 3) hx hb dX12_readDoes_20 (by decide) ?_
          exact ih x_128 trivial (rgw (lo := 7) (hi := 12) h_129 (by decide) (by decide)) (by have q0 := lqe l_130; omega) H locs ls (oPsub hP [2, 0, 1] rfl) (hD.sub [2, 0, 1] (by decide) rfl) hS (lv_sub hl [1, 2, 0] rfl)
        · skip
          subst h_126
          refine lv_if_ne (tgt := 23) hx hb dX12_readDoes_14 (by decide) (fun _ => ?_) (fun c => absurd c (by decide))
          exact J23_77 y3_0 (rgw (lo := 7) (hi := 12) h_122 (by decide) (by decide)) H locs ls (oPsub hP [2, 0, 1] rfl) (hD.sub [2, 0, 1] (by decide) rfl) hS (lv_sub hl [0, 1, 2] rfl)
  refine lv_bipush (v := 7) hx hb dX12_readDoes_0 (by decide) ?_
  refine lv_istore_n (lv' := [(2, .int 7), (0, .ref h0), (1, .int a1)]) hx hb dX12_readDoes_2 rfl hl (by decide) rfl (fun ls hl => ?_)
  exact J3_104 6 7 trivial (⟨by decide, by decide⟩ : rg 7 12 (7 : Int32)) (by have q0 := (⟨by decide, by decide⟩ : rg 7 7 (7 : Int32)).1; omega) H locs ls (oPsub hP [0, 1, 2] rfl) (hD.sub [0, 1, 2] (by decide) rfl) hS (lv_sub hl [1, 2, 0] rfl)
