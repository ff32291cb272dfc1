set_option maxHeartbeats 4000000 in
set_option maxRecDepth 100000 in
theorem s_X12_holds_30 (l : Launch) (D : va_G) (ca : Nat → ClassId) (sz : Nat) (h0 : Nat) (a1 : Int32) (a2 : Int32) (h0_thrown : Int32) (h0_tape : Nat) (h0_taped : Int32) (h0_size : Int32) (h0_limit : Int32) (h0_to : Int32) (h0_from : Int32) (h0_kind : Int32) (h0_number : Int32) (h0_sign : Int32) (h0_fault : Int32) (h0_place : Int32) (h0_word : Int64) (h0_told : Int32) (h0_now : Nat) (h0_read : Nat) (h0_kept : Nat) (h0_snaps : Nat) (h0_aside : Nat) (h0_name : Nat) (h0_readName : Nat) (h0_keptName : Nat) (h0_isKept : Nat) (h0_onces : Nat) (h0_snapMany : Int32) (h0_lowest : Int32) (h0_highest : Int32) (h0_agreed : Int32) (h0_jurors : Int32) (h0_panelled : Int32) (h0_inSets : Nat) (h0_surely : Int32) (h0_asked : Int32) (h0_frees : Nat) (h0_struck : Int32) (h0_beating : Int32) (h0_text : Nat) (h0_texts : Int32) (h0_seed : Int32) (h0_line : Nat) (h0_written : Nat) (h0_lineMany : Int32) (h0_hasWritten : Int32) (h0_node : Nat) (h0_nodes : Int32) (h0_onesMany : Int32) (h0_within : Int32) (h0_top : Int32) (F_h0_now : Nat → Int32) (i_a1 : rg 0 29 a1) (i_a2 : rg 0 9 a2) (i_h0_taped : rg 0 940 h0_taped) (i_h0_size : rg 0 940 h0_size) (i_h0_to : rg 0 940 h0_to) (i_h0_kind : rg 0 4 h0_kind) (i_h0_snapMany : rg 0 8 h0_snapMany) (i_h0_texts : rg 0 64 h0_texts) (i_h0_lineMany : rg 0 40 h0_lineMany) (i_h0_hasWritten : rg 0 1 h0_hasWritten) (i_h0_nodes : rg 0 60 h0_nodes) (i_h0_onesMany : rg 0 20 h0_onesMany) (s_h0_now_0 : sg 0 1 0 10 F_h0_now) (s_h0_now_1 : sg 1 2 0 4 F_h0_now) (s_h0_now_2 : sg 2 3 0 5 F_h0_now) (s_h0_now_3 : sg 35 36 0 1023 F_h0_now) (s_h0_now_4 : sg 44 49 0 3 F_h0_now) (s_h0_now_5 : sg 90 91 0 1023 F_h0_now) (s_h0_now_6 : sg 124 129 0 1023 F_h0_now) (s_h0_now_7 : sg 135 136 0 39 F_h0_now) (cu_tokw : tokb 136 F_h0_now) : oMet l yX12_holds wsX12_holds ({ frames := 34, cells := 0, slots := 0, locals := 900 } : Room) [.ref h0, .int a1, .int a2] D ca sz [(h0, .inr (11, [.int h0_thrown, .ref h0_tape, .int h0_taped, .int h0_size, .int h0_limit, .int h0_to, .int h0_from, .int h0_kind, .int h0_number, .int h0_sign, .int h0_fault, .int h0_place, .long h0_word, .int h0_told, .ref h0_now, .ref h0_read, .ref h0_kept, .ref h0_snaps, .ref h0_aside, .ref h0_name, .ref h0_readName, .ref h0_keptName, .ref h0_isKept, .ref h0_onces, .int h0_snapMany, .int h0_lowest, .int h0_highest, .int h0_agreed, .int h0_jurors, .int h0_panelled, .ref h0_inSets, .int h0_surely, .int h0_asked, .ref h0_frees, .int h0_struck, .int h0_beating, .ref h0_text, .int h0_texts, .int h0_seed, .ref h0_line, .ref h0_written, .int h0_lineMany, .int h0_hasWritten, .ref h0_node, .int h0_nodes, .int h0_onesMany, .int h0_within, .int h0_top])), (aI ca h0_now 376 F_h0_now)] (oQi D (fun (r : Int32) (u : Int32 × Int32) => ((r = 1)) ∨ ((r = 0))) (fun (u : Int32 × Int32) => [(h0, .inr (11, [.int h0_thrown, .ref h0_tape, .int h0_taped, .int h0_size, .int h0_limit, .int h0_to, .int h0_from, .int h0_kind, .int h0_number, .int h0_sign, .int h0_fault, .int h0_place, .long h0_word, .int h0_told, .ref h0_now, .ref h0_read, .ref h0_kept, .ref h0_snaps, .ref h0_aside, .ref h0_name, .ref h0_readName, .ref h0_keptName, .ref h0_isKept, .ref h0_onces, .int h0_snapMany, .int u.1, .int u.2, .int h0_agreed, .int h0_jurors, .int h0_panelled, .ref h0_inSets, .int h0_surely, .int h0_asked, .ref h0_frees, .int h0_struck, .int h0_beating, .ref h0_text, .int h0_texts, .int h0_seed, .ref h0_line, .ref h0_written, .int h0_lineMany, .int h0_hasWritten, .ref h0_node, .int h0_nodes, .int h0_onesMany, .int h0_within, .int h0_top])), (aI ca h0_now 376 F_h0_now)])) 0 0 := by
  refine oM (cc := cX12_holds) (maxL := 8) (ret := (some .boolean)) (by decide) rfl (Nat.le_of_ble_eq_true rfl) [(0, .ref h0), (1, .int a1), (2, .int a2)] rfl ?_
  intro p e s m below meth c A H locs ls hx hb hr hml hts hown hlocks hin hK hP hD hA hS hl
  have hown : s.vm.findClass RX12 = some m.cls := hown
  have k1 := hts (.fieldLink RX12 98 "LidCourtModel" "now" "[I") (by decide +kernel)
  have k2 : ∀ w ∈ wsX120, w ∈ wsX12_holds := fun _ h => List.mem_cons_of_mem _ (List.mem_append_right _ h)
  have J286_153 : ∀ (y286_0 : Int32) (y286_1 : Int32) (y286_2 : Int32), rg 136 252 y286_0 → ∀ (H : Heap) (locs : List Loc) (ls : Array Slot), va_P D vwCl [(h0, .inr (11, [.int h0_thrown, .ref h0_tape, .int h0_taped, .int h0_size, .int h0_limit, .int h0_to, .int h0_from, .int h0_kind, .int h0_number, .int h0_sign, .int h0_fault, .int h0_place, .long h0_word, .int h0_told, .ref h0_now, .ref h0_read, .ref h0_kept, .ref h0_snaps, .ref h0_aside, .ref h0_name, .ref h0_readName, .ref h0_keptName, .ref h0_isKept, .ref h0_onces, .int h0_snapMany, .int h0_lowest, .int h0_highest, .int h0_agreed, .int h0_jurors, .int h0_panelled, .ref h0_inSets, .int h0_surely, .int h0_asked, .ref h0_frees, .int h0_struck, .int h0_beating, .ref h0_text, .int h0_texts, .int h0_seed, .ref h0_line, .ref h0_written, .int h0_lineMany, .int h0_hasWritten, .ref h0_node, .int h0_nodes, .int h0_onesMany, .int h0_within, .int h0_top])), (aI ca h0_now 376 F_h0_now)] H → va_D A [(h0, .inr (11, [.int h0_thrown, .ref h0_tape, .int h0_taped, .int h0_size, .int h0_limit, .int h0_to, .int h0_from, .int h0_kind, .int h0_number, .int h0_sign, .int h0_fault, .int h0_place, .long h0_word, .int h0_told, .ref h0_now, .ref h0_read, .ref h0_kept, .ref h0_snaps, .ref h0_aside, .ref h0_name, .ref h0_readName, .ref h0_keptName, .ref h0_isKept, .ref h0_onces, .int h0_snapMany, .int h0_lowest, .int h0_highest, .int h0_agreed, .int h0_jurors, .int h0_panelled, .ref h0_inSets, .int h0_surely, .int h0_asked, .ref h0_frees, .int h0_struck, .int h0_beating, .ref h0_text, .int h0_texts, .int h0_seed, .ref h0_line, .ref h0_written, .int h0_lineMany, .int h0_hasWritten, .ref h0_node, .int h0_nodes, .int h0_onesMany, .int h0_within, .int h0_top])), (aI ca h0_now 376 F_h0_now)] → va_S A s.heap H locs → lv_has ls 8 [(0, .ref h0), (3, .int y286_0), (5, .int y286_1)] → W p l e ({ frames := 34, cells := 0, slots := 0, locals := 900 } : Room) s m ([.ref h0, .int a1, .int a2] : List Value).toArray below meth c H locs 0 0 (MQ below ((oQi D (fun (r : Int32) (u : Int32 × Int32) => ((r = 1)) ∨ ((r = 0))) (fun (u : Int32 × Int32) => [(h0, .inr (11, [.int h0_thrown, .ref h0_tape, .int h0_taped, .int h0_size, .int h0_limit, .int h0_to, .int h0_from, .int h0_kind, .int h0_number, .int h0_sign, .int h0_fault, .int h0_place, .long h0_word, .int h0_told, .ref h0_now, .ref h0_read, .ref h0_kept, .ref h0_snaps, .ref h0_aside, .ref h0_name, .ref h0_readName, .ref h0_keptName, .ref h0_isKept, .ref h0_onces, .int h0_snapMany, .int u.1, .int u.2, .int h0_agreed, .int h0_jurors, .int h0_panelled, .ref h0_inSets, .int h0_surely, .int h0_asked, .ref h0_frees, .int h0_struck, .int h0_beating, .ref h0_text, .int h0_texts, .int h0_seed, .ref h0_line, .ref h0_written, .int h0_lineMany, .int h0_hasWritten, .ref h0_node, .int h0_nodes, .int h0_onesMany, .int h0_within, .int h0_top])), (aI ca h0_now 376 F_h0_now)])) A) ([.ref h0, .int a1, .int a2] : List Value).toArray s 0 0 A) (F0 m 286 ls [.int y286_2]) := by
    intro y286_0 y286_1 y286_2 hy286_0 H locs ls hP hD hS hl
    refine lv_istore (lv' := [(7, .int y286_2), (0, .ref h0), (3, .int y286_0), (5, .int y286_1)]) hx hb dX12_holds_286 hl (by decide) rfl (fun ls hl => ?_)
    refine lv_aload_n hx hb dX12_holds_288 rfl (lv_at hl 1 rfl) ?_
    refine va_get (D := D) (ci := 11) (v := .ref h0_now) (C := RX12) (T := TX12) (N := 48) hx hb hts k2 hown hK.1 hP 0 rfl rfl 14 (by decide) k1 (fun _ h9 => h9) rfl dX12_holds_289 ?_
    refine lv_iload_n hx hb dX12_holds_292 rfl (lv_at hl 2 rfl) ?_
    refine lv_iconst (v := 3) hx hb dX12_holds_293 (by decide) ?_
    refine lv_iadd hx hb dX12_holds_294 ?_
    refine lv_topi (fun x_154 ex_154 => ?_)
    have h_155 : rg 139 255 x_154 := by rw [ex_154]; exact rg_add hy286_0 (⟨by decide, by decide⟩ : rg 3 3 (3 : Int32)) (by decide) (by decide) (by decide) (by decide)
    have l_156 : lq x_154.toInt (y286_0.toInt + 3) := lqm (by rw [ex_154]; have q := tadd hy286_0 (⟨by decide, by decide⟩ : rg 3 3 (3 : Int32)) (by decide) (by decide); have r1 := lqe (lqm (by decide) : lq (3 : Int32).toInt 3); omega)
    refine va_iald hx hb hK.1 hP 1 0 rfl rfl (rg_in h_155 (by decide) (by decide)) dX12_holds_295 ?_
    refine lv_topi (fun x_157 ex_157 => ?_)
    refine lv_bipush (v := 60) hx hb dX12_holds_296 (by decide) ?_
    refine lv_icmp_ne (tgt := 316) hx hb dX12_holds_298 (by decide) (fun c_158 => ?_) (fun c_158 => ?_)
    · skip
      refine lv_aload_n hx hb dX12_holds_316 rfl (lv_at hl 1 rfl) ?_
      refine va_get (D := D) (ci := 11) (v := .ref h0_now) (C := RX12) (T := TX12) (N := 48) hx hb hts k2 hown hK.1 hP 0 rfl rfl 14 (by decide) k1 (fun _ h9 => h9) rfl dX12_holds_317 ?_
      refine lv_iload_n hx hb dX12_holds_320 rfl (lv_at hl 2 rfl) ?_
      refine lv_iconst (v := 3) hx hb dX12_holds_321 (by decide) ?_
      refine lv_iadd hx hb dX12_holds_322 ?_
      refine lv_topi (fun x_159 ex_159 => ?_)
      have h_160 : rg 139 255 x_159 := by rw [ex_159]; exact rg_add hy286_0 (⟨by decide, by decide⟩ : rg 3 3 (3 : Int32)) (by decide) (by decide) (by decide) (by decide)
      have l_161 : lq x_159.toInt (y286_0.toInt + 3) := lqm (by rw [ex_159]; have q := tadd hy286_0 (⟨by decide, by decide⟩ : rg 3 3 (3 : Int32)) (by decide) (by decide); have r1 := lqe (lqm (by decide) : lq (3 : Int32).toInt 3); omega)
      refine va_iald hx hb hK.1 hP 1 0 rfl rfl (rg_in h_160 (by decide) (by decide)) dX12_holds_323 ?_
      refine lv_topi (fun x_162 ex_162 => ?_)
      refine lv_bipush (v := 61) hx hb dX12_holds_324 (by decide) ?_
      refine lv_icmp_ne (tgt := 344) hx hb dX12_holds_326 (by decide) (fun c_163 => ?_) (fun c_163 => ?_)
      · skip
        refine lv_iload hx hb dX12_holds_344 (lv_at hl 0 rfl) ?_
        refine lv_iload hx hb dX12_holds_346 (lv_at hl 3 rfl) ?_
        refine lv_icmp_le (tgt := 355) hx hb dX12_holds_348 (by decide) (fun c_164 => ?_) (fun c_164 => ?_)
        · skip
          have o_165 : rl 0 y286_2 y286_1 := rl_le c_164
          refine lv_iconst (v := 0) hx hb dX12_holds_355 (by decide) ?_
          exact oE_i hx hb hr (by decide) hlocks hP hD hS (h0_lowest, h0_highest) [0, 1] rfl (by decide) (Or.inr (rfl)) (Nat.le_of_ble_eq_true rfl) (Nat.le_of_ble_eq_true rfl) dX12_holds_356
        · skip
          have o_166 : rl 1 y286_1 y286_2 := rl_nle c_164
          have h_167 : rg (-2147483648) 2147483646 y286_1 := rl_x o_166 (rga y286_1) (rga y286_2) (by decide) (by decide)
          have h_168 : rg (-2147483647) 2147483647 y286_2 := rl_y o_166 (rga y286_1) (rga y286_2) (by decide) (by decide)
          refine lv_iconst (v := 1) hx hb dX12_holds_351 (by decide) ?_
          refine lv_goto (tgt := 356) hx hb dX12_holds_352 (by decide) ?_
          exact oE_i hx hb hr (by decide) hlocks hP hD hS (h0_lowest, h0_highest) [0, 1] rfl (by decide) (Or.inl rfl) (Nat.le_of_ble_eq_true rfl) (Nat.le_of_ble_eq_true rfl) dX12_holds_356
      · skip
        have o_169 : rl 0 x_162 61 := rl_eq c_163
        have h_170 : rg (-2147483648) 61 x_162 := rl_x o_169 (rga x_162) (⟨by decide, by decide⟩ : rg 61 61 (61 : Int32)) (by decide) (by decide)
        have o_171 : rl 0 61 x_162 := rl_eq c_163.symm
        have h_172 : rg 61 61 x_162 := rl_y o_171 (⟨by decide, by decide⟩ : rg 61 61 (61 : Int32)) h_170 (by decide) (by decide)
        refine lv_iload hx hb dX12_holds_329 (lv_at hl 0 rfl) ?_
        refine lv_iload hx hb dX12_holds_331 (lv_at hl 3 rfl) ?_
        refine lv_icmp_ne (tgt := 340) hx hb dX12_holds_333 (by decide) (fun c_173 => ?_) (fun c_173 => ?_)
        · skip
          refine lv_iconst (v := 0) hx hb dX12_holds_340 (by decide) ?_
          refine lv_goto (tgt := 356) hx hb dX12_holds_341 (by decide) ?_
          exact oE_i hx hb hr (by decide) hlocks hP hD hS (h0_lowest, h0_highest) [0, 1] rfl (by decide) (Or.inr (rfl)) (Nat.le_of_ble_eq_true rfl) (Nat.le_of_ble_eq_true rfl) dX12_holds_356
        · skip
          have o_174 : rl 0 y286_2 y286_1 := rl_eq c_173
          have o_175 : rl 0 y286_1 y286_2 := rl_eq c_173.symm
          refine lv_iconst (v := 1) hx hb dX12_holds_336 (by decide) ?_
          refine lv_goto (tgt := 356) hx hb dX12_holds_337 (by decide) ?_
          exact oE_i hx hb hr (by decide) hlocks hP hD hS (h0_lowest, h0_highest) [0, 1] rfl (by decide) (Or.inl rfl) (Nat.le_of_ble_eq_true rfl) (Nat.le_of_ble_eq_true rfl) dX12_holds_356
    · skip
      have o_176 : rl 0 x_157 60 := rl_eq c_158
      have h_177 : rg (-2147483648) 60 x_157 := rl_x o_176 (rga x_157) (⟨by decide, by decide⟩ : rg 60 60 (60 : Int32)) (by decide) (by decide)
      have o_178 : rl 0 60 x_157 := rl_eq c_158.symm
      have h_179 : rg 60 60 x_157 := rl_y o_178 (⟨by decide, by decide⟩ : rg 60 60 (60 : Int32)) h_177 (by decide) (by decide)
      refine lv_iload hx hb dX12_holds_301 (lv_at hl 0 rfl) ?_
      refine lv_iload hx hb dX12_holds_303 (lv_at hl 3 rfl) ?_
      refine lv_icmp_ge (tgt := 312) hx hb dX12_holds_305 (by decide) (fun c_180 => ?_) (fun c_180 => ?_)
      · skip
        have o_181 : rl 0 y286_1 y286_2 := rl_le c_180
        refine lv_iconst (v := 0) hx hb dX12_holds_312 (by decide) ?_
        refine lv_goto (tgt := 356) hx hb dX12_holds_313 (by decide) ?_
        exact oE_i hx hb hr (by decide) hlocks hP hD hS (h0_lowest, h0_highest) [0, 1] rfl (by decide) (Or.inr (rfl)) (Nat.le_of_ble_eq_true rfl) (Nat.le_of_ble_eq_true rfl) dX12_holds_356
      · skip
        have o_182 : rl 1 y286_2 y286_1 := rl_nle c_180
        have h_183 : rg (-2147483648) 2147483646 y286_2 := rl_x o_182 (rga y286_2) (rga y286_1) (by decide) (by decide)
        have h_184 : rg (-2147483647) 2147483647 y286_1 := rl_y o_182 (rga y286_2) (rga y286_1) (by decide) (by decide)
        refine lv_iconst (v := 1) hx hb dX12_holds_308 (by decide) ?_
        refine lv_goto (tgt := 356) hx hb dX12_holds_309 (by decide) ?_
        exact oE_i hx hb hr (by decide) hlocks hP hD hS (h0_lowest, h0_highest) [0, 1] rfl (by decide) (Or.inl rfl) (Nat.le_of_ble_eq_true rfl) (Nat.le_of_ble_eq_true rfl) dX12_holds_356
  refine lv_sipush (v := 136) hx hb dX12_holds_0 (by decide) ?_
  refine lv_iconst (v := 4) hx hb dX12_holds_3 (by decide) ?_
  refine lv_iload_n hx hb dX12_holds_4 rfl (lv_at hl 1 rfl) ?_
  refine lv_imul hx hb dX12_holds_5 ?_
  refine lv_topi (fun x_185 ex_185 => ?_)
  have h_186 : rg 0 116 x_185 := by rw [ex_185]; exact rg_mul' (k := 4) i_a1 (by decide) (by decide) (by decide) (by decide) (by decide) (by decide)
  have l_187 : lq x_185.toInt (4 * a1.toInt) := lqm (by rw [ex_185]; have q := tmul' (k := 4) (y := 4) i_a1 (by decide) (by decide) (by decide) (by decide); omega)
  refine lv_iadd hx hb dX12_holds_6 ?_
  refine lv_topi (fun x_188 ex_188 => ?_)
  have h_189 : rg 136 252 x_188 := by rw [ex_188]; exact rg_add (⟨by decide, by decide⟩ : rg 136 136 (136 : Int32)) h_186 (by decide) (by decide) (by decide) (by decide)
  have l_190 : lq x_188.toInt (4 * a1.toInt + 136) := lqm (by rw [ex_188]; have q := tadd (⟨by decide, by decide⟩ : rg 136 136 (136 : Int32)) h_186 (by decide) (by decide); have r0 := lqe (lqm (by decide) : lq (136 : Int32).toInt 136); have r1 := lqe l_187; omega)
  refine lv_istore_n (lv' := [(3, .int x_188), (0, .ref h0), (1, .int a1), (2, .int a2)]) hx hb dX12_holds_7 rfl hl (by decide) rfl (fun ls hl => ?_)
  refine lv_aload_n hx hb dX12_holds_8 rfl (lv_at hl 1 rfl) ?_
  refine va_get (D := D) (ci := 11) (v := .ref h0_now) (C := RX12) (T := TX12) (N := 48) hx hb hts k2 hown hK.1 hP 0 rfl rfl 14 (by decide) k1 (fun _ h9 => h9) rfl dX12_holds_9 ?_
  refine lv_iload_n hx hb dX12_holds_12 rfl (lv_at hl 0 rfl) ?_
  refine lv_iconst (v := 1) hx hb dX12_holds_13 (by decide) ?_
  refine lv_iadd hx hb dX12_holds_14 ?_
  refine lv_topi (fun x_191 ex_191 => ?_)
  have h_192 : rg 137 253 x_191 := by rw [ex_191]; exact rg_add h_189 (⟨by decide, by decide⟩ : rg 1 1 (1 : Int32)) (by decide) (by decide) (by decide) (by decide)
  have l_193 : lq x_191.toInt (4 * a1.toInt + 137) := lqm (by rw [ex_191]; have q := tadd h_189 (⟨by decide, by decide⟩ : rg 1 1 (1 : Int32)) (by decide) (by decide); have r0 := lqe l_190; have r1 := lqe (lqm (by decide) : lq (1 : Int32).toInt 1); omega)
  refine va_iald hx hb hK.1 hP 1 0 rfl rfl (rg_in h_192 (by decide) (by decide)) dX12_holds_15 ?_
  refine lv_topi (fun x_194 ex_194 => ?_)
  refine lv_istore (lv' := [(4, .int x_194), (3, .int x_188), (0, .ref h0), (1, .int a1), (2, .int a2)]) hx hb dX12_holds_16 hl (by decide) rfl (fun ls hl => ?_)
  refine lv_aload_n hx hb dX12_holds_18 rfl (lv_at hl 2 rfl) ?_
  refine va_get (D := D) (ci := 11) (v := .ref h0_now) (C := RX12) (T := TX12) (N := 48) hx hb hts k2 hown hK.1 hP 0 rfl rfl 14 (by decide) k1 (fun _ h9 => h9) rfl dX12_holds_19 ?_
  refine lv_iload_n hx hb dX12_holds_22 rfl (lv_at hl 1 rfl) ?_
  refine lv_iconst (v := 2) hx hb dX12_holds_23 (by decide) ?_
  refine lv_iadd hx hb dX12_holds_24 ?_
  refine lv_topi (fun x_195 ex_195 => ?_)
  have h_196 : rg 138 254 x_195 := by rw [ex_195]; exact rg_add h_189 (⟨by decide, by decide⟩ : rg 2 2 (2 : Int32)) (by decide) (by decide) (by decide) (by decide)
  have l_197 : lq x_195.toInt (4 * a1.toInt + 138) := lqm (by rw [ex_195]; have q := tadd h_189 (⟨by decide, by decide⟩ : rg 2 2 (2 : Int32)) (by decide) (by decide); have r0 := lqe l_190; have r1 := lqe (lqm (by decide) : lq (2 : Int32).toInt 2); omega)
  refine va_iald hx hb hK.1 hP 1 0 rfl rfl (rg_in h_196 (by decide) (by decide)) dX12_holds_25 ?_
  refine lv_topi (fun x_198 ex_198 => ?_)
  refine lv_istore (lv' := [(5, .int x_198), (4, .int x_194), (3, .int x_188), (0, .ref h0), (1, .int a1), (2, .int a2)]) hx hb dX12_holds_26 hl (by decide) rfl (fun ls hl => ?_)
  refine lv_aload_n hx hb dX12_holds_28 rfl (lv_at hl 3 rfl) ?_
  refine va_get (D := D) (ci := 11) (v := .ref h0_now) (C := RX12) (T := TX12) (N := 48) hx hb hts k2 hown hK.1 hP 0 rfl rfl 14 (by decide) k1 (fun _ h9 => h9) rfl dX12_holds_29 ?_
  refine lv_iload_n hx hb dX12_holds_32 rfl (lv_at hl 2 rfl) ?_
  refine va_iald hx hb hK.1 hP 1 0 rfl rfl (rg_in h_189 (by decide) (by decide)) dX12_holds_33 ?_
  refine lv_topi (fun x_199 ex_199 => ?_)
  have ht := tokb_at cu_tokw i_a1 (by decide) (by decide) ex_199 ex_194 ex_198 l_190 l_193 l_197
  by_cases c_200 : x_199 = 1
  · skip
    refine oti 1 c_200 ?_
    refine lv_lookup (off := 66) (tgt := 100) hx hb dX12_holds_34 (by decide) (by decide) (by decide) ?_
    have h_201 : rg 0 28 x_194 := by have q := rg_cl i_a1 (by decide); have q1 := i_a1.2; have q2 := ht.1 c_200; exact ⟨by omega, by omega⟩
    refine lv_aload_n hx hb dX12_holds_100 rfl (lv_at hl 3 rfl) ?_
    refine lv_iload hx hb dX12_holds_101 (lv_at hl 1 rfl) ?_
    refine lv_iload_n hx hb dX12_holds_103 rfl (lv_at hl 5 rfl) ?_
    refine oC_i (Wc := [(h0, .inr (11, [.int h0_thrown, .ref h0_tape, .int h0_taped, .int h0_size, .int h0_limit, .int h0_to, .int h0_from, .int h0_kind, .int h0_number, .int h0_sign, .int h0_fault, .int h0_place, .long h0_word, .int h0_told, .ref h0_now, .ref h0_read, .ref h0_kept, .ref h0_snaps, .ref h0_aside, .ref h0_name, .ref h0_readName, .ref h0_keptName, .ref h0_isKept, .ref h0_onces, .int h0_snapMany, .int h0_lowest, .int h0_highest, .int h0_agreed, .int h0_jurors, .int h0_panelled, .ref h0_inSets, .int h0_surely, .int h0_asked, .ref h0_frees, .int h0_struck, .int h0_beating, .ref h0_text, .int h0_texts, .int h0_seed, .ref h0_line, .ref h0_written, .int h0_lineMany, .int h0_hasWritten, .ref h0_node, .int h0_nodes, .int h0_onesMany, .int h0_within, .int h0_top])), (aI ca h0_now 376 F_h0_now)]) (Wr := []) (va_runV (As := [.int x_194, .int a2]) (rest := []) ⟨hx, hb, hml, hown, hts⟩ (s_X12_holds_29 l D ca H.size h0 x_194 a2 h0_thrown h0_tape h0_taped h0_size h0_limit h0_to h0_from h0_kind h0_number h0_sign h0_fault h0_place h0_word h0_told h0_now h0_read h0_kept h0_snaps h0_aside h0_name h0_readName h0_keptName h0_isKept h0_onces h0_snapMany h0_lowest h0_highest h0_agreed h0_jurors h0_panelled h0_inSets h0_surely h0_asked h0_frees h0_struck h0_beating h0_text h0_texts h0_seed h0_line h0_written h0_lineMany h0_hasWritten h0_node h0_nodes h0_onesMany h0_within h0_top F_h0_now h_201 i_a2 i_h0_taped i_h0_size i_h0_to i_h0_kind i_h0_snapMany i_h0_texts i_h0_lineMany i_h0_hasWritten i_h0_nodes i_h0_onesMany s_h0_now_0 s_h0_now_1 s_h0_now_2 s_h0_now_3 s_h0_now_4 s_h0_now_5 s_h0_now_6 s_h0_now_7 cu_tokw) (cwV 2 hts gX12_holds_X12_holds rfl rfl rfl (by decide +kernel) ⟨Nat.le_of_ble_eq_true rfl, Nat.le_of_ble_eq_true rfl⟩) (oPV (C := RX12) hK hP hD [0, 1] rfl (by decide) 0 rfl (ci := 11) rfl rfl) rfl rfl hl.1 rfl (lv_room (Nat.le_of_ble_eq_true rfl)) dX12_holds_104 ⟨Nat.le_of_ble_eq_true rfl, Nat.le_of_ble_eq_true rfl⟩) hP hD hS hA [0, 1] [] rfl rfl (by decide) (by decide) (fun r_202 u H locs w_203 hP hD hS => ?_)
    obtain ⟨u_204, u_205⟩ := u
    have hP : va_P D vwCl [(h0, .inr (11, [.int h0_thrown, .ref h0_tape, .int h0_taped, .int h0_size, .int h0_limit, .int h0_to, .int h0_from, .int h0_kind, .int h0_number, .int h0_sign, .int h0_fault, .int h0_place, .long h0_word, .int h0_told, .ref h0_now, .ref h0_read, .ref h0_kept, .ref h0_snaps, .ref h0_aside, .ref h0_name, .ref h0_readName, .ref h0_keptName, .ref h0_isKept, .ref h0_onces, .int h0_snapMany, .int u_204, .int u_205, .int h0_agreed, .int h0_jurors, .int h0_panelled, .ref h0_inSets, .int h0_surely, .int h0_asked, .ref h0_frees, .int h0_struck, .int h0_beating, .ref h0_text, .int h0_texts, .int h0_seed, .ref h0_line, .ref h0_written, .int h0_lineMany, .int h0_hasWritten, .ref h0_node, .int h0_nodes, .int h0_onesMany, .int h0_within, .int h0_top])), (aI ca h0_now 376 F_h0_now)] H := hP
    have hD : va_D A [(h0, .inr (11, [.int h0_thrown, .ref h0_tape, .int h0_taped, .int h0_size, .int h0_limit, .int h0_to, .int h0_from, .int h0_kind, .int h0_number, .int h0_sign, .int h0_fault, .int h0_place, .long h0_word, .int h0_told, .ref h0_now, .ref h0_read, .ref h0_kept, .ref h0_snaps, .ref h0_aside, .ref h0_name, .ref h0_readName, .ref h0_keptName, .ref h0_isKept, .ref h0_onces, .int h0_snapMany, .int u_204, .int u_205, .int h0_agreed, .int h0_jurors, .int h0_panelled, .ref h0_inSets, .int h0_surely, .int h0_asked, .ref h0_frees, .int h0_struck, .int h0_beating, .ref h0_text, .int h0_texts, .int h0_seed, .ref h0_line, .ref h0_written, .int h0_lineMany, .int h0_hasWritten, .ref h0_node, .int h0_nodes, .int h0_onesMany, .int h0_within, .int h0_top])), (aI ca h0_now 376 F_h0_now)] := hD
    try dsimp only at w_203
    rcases w_203 with h_206 | h_207
    · skip
      subst h_206
      refine lv_if_ne (tgt := 114) hx hb dX12_holds_107 (by decide) (fun c => absurd (by decide) c) (fun _ => ?_)
      refine lv_iconst (v := 1) hx hb dX12_holds_110 (by decide) ?_
      refine lv_goto (tgt := 115) hx hb dX12_holds_111 (by decide) ?_
      exact oE_i hx hb hr (by decide) hlocks hP hD hS (u_204, u_205) [0, 1] rfl (by decide) (Or.inl rfl) (Nat.le_of_ble_eq_true rfl) (Nat.le_of_ble_eq_true rfl) dX12_holds_115
    · skip
      subst h_207
      refine lv_if_ne (tgt := 114) hx hb dX12_holds_107 (by decide) (fun _ => ?_) (fun c => absurd c (by decide))
      refine lv_iconst (v := 0) hx hb dX12_holds_114 (by decide) ?_
      exact oE_i hx hb hr (by decide) hlocks hP hD hS (u_204, u_205) [0, 1] rfl (by decide) (Or.inr (rfl)) (Nat.le_of_ble_eq_true rfl) (Nat.le_of_ble_eq_true rfl) dX12_holds_115
  by_cases c_208 : x_199 = 2
  · skip
    refine oti 2 c_208 ?_
    refine lv_lookup (off := 82) (tgt := 116) hx hb dX12_holds_34 (by decide) (by decide) (by decide) ?_
    have h_209 : rg 0 28 x_194 := by have q := rg_cl i_a1 (by decide); have q1 := i_a1.2; have q2 := (ht.2.1 (Or.inl c_208)).1; exact ⟨by omega, by omega⟩
    have h_210 : rg 0 28 x_198 := by have q := rg_cl i_a1 (by decide); have q1 := i_a1.2; have q2 := (ht.2.1 (Or.inl c_208)).2; exact ⟨by omega, by omega⟩
    refine lv_aload_n hx hb dX12_holds_116 rfl (lv_at hl 3 rfl) ?_
    refine lv_iload hx hb dX12_holds_117 (lv_at hl 1 rfl) ?_
    refine lv_iload_n hx hb dX12_holds_119 rfl (lv_at hl 5 rfl) ?_
    refine oC_i (Wc := [(h0, .inr (11, [.int h0_thrown, .ref h0_tape, .int h0_taped, .int h0_size, .int h0_limit, .int h0_to, .int h0_from, .int h0_kind, .int h0_number, .int h0_sign, .int h0_fault, .int h0_place, .long h0_word, .int h0_told, .ref h0_now, .ref h0_read, .ref h0_kept, .ref h0_snaps, .ref h0_aside, .ref h0_name, .ref h0_readName, .ref h0_keptName, .ref h0_isKept, .ref h0_onces, .int h0_snapMany, .int h0_lowest, .int h0_highest, .int h0_agreed, .int h0_jurors, .int h0_panelled, .ref h0_inSets, .int h0_surely, .int h0_asked, .ref h0_frees, .int h0_struck, .int h0_beating, .ref h0_text, .int h0_texts, .int h0_seed, .ref h0_line, .ref h0_written, .int h0_lineMany, .int h0_hasWritten, .ref h0_node, .int h0_nodes, .int h0_onesMany, .int h0_within, .int h0_top])), (aI ca h0_now 376 F_h0_now)]) (Wr := []) (va_runV (As := [.int x_194, .int a2]) (rest := []) ⟨hx, hb, hml, hown, hts⟩ (s_X12_holds_29 l D ca H.size h0 x_194 a2 h0_thrown h0_tape h0_taped h0_size h0_limit h0_to h0_from h0_kind h0_number h0_sign h0_fault h0_place h0_word h0_told h0_now h0_read h0_kept h0_snaps h0_aside h0_name h0_readName h0_keptName h0_isKept h0_onces h0_snapMany h0_lowest h0_highest h0_agreed h0_jurors h0_panelled h0_inSets h0_surely h0_asked h0_frees h0_struck h0_beating h0_text h0_texts h0_seed h0_line h0_written h0_lineMany h0_hasWritten h0_node h0_nodes h0_onesMany h0_within h0_top F_h0_now h_209 i_a2 i_h0_taped i_h0_size i_h0_to i_h0_kind i_h0_snapMany i_h0_texts i_h0_lineMany i_h0_hasWritten i_h0_nodes i_h0_onesMany s_h0_now_0 s_h0_now_1 s_h0_now_2 s_h0_now_3 s_h0_now_4 s_h0_now_5 s_h0_now_6 s_h0_now_7 cu_tokw) (cwV 2 hts gX12_holds_X12_holds rfl rfl rfl (by decide +kernel) ⟨Nat.le_of_ble_eq_true rfl, Nat.le_of_ble_eq_true rfl⟩) (oPV (C := RX12) hK hP hD [0, 1] rfl (by decide) 0 rfl (ci := 11) rfl rfl) rfl rfl hl.1 rfl (lv_room (Nat.le_of_ble_eq_true rfl)) dX12_holds_120 ⟨Nat.le_of_ble_eq_true rfl, Nat.le_of_ble_eq_true rfl⟩) hP hD hS hA [0, 1] [] rfl rfl (by decide) (by decide) (fun r_211 u H locs w_212 hP hD hS => ?_)
    obtain ⟨u_213, u_214⟩ := u
    have hP : va_P D vwCl [(h0, .inr (11, [.int h0_thrown, .ref h0_tape, .int h0_taped, .int h0_size, .int h0_limit, .int h0_to, .int h0_from, .int h0_kind, .int h0_number, .int h0_sign, .int h0_fault, .int h0_place, .long h0_word, .int h0_told, .ref h0_now, .ref h0_read, .ref h0_kept, .ref h0_snaps, .ref h0_aside, .ref h0_name, .ref h0_readName, .ref h0_keptName, .ref h0_isKept, .ref h0_onces, .int h0_snapMany, .int u_213, .int u_214, .int h0_agreed, .int h0_jurors, .int h0_panelled, .ref h0_inSets, .int h0_surely, .int h0_asked, .ref h0_frees, .int h0_struck, .int h0_beating, .ref h0_text, .int h0_texts, .int h0_seed, .ref h0_line, .ref h0_written, .int h0_lineMany, .int h0_hasWritten, .ref h0_node, .int h0_nodes, .int h0_onesMany, .int h0_within, .int h0_top])), (aI ca h0_now 376 F_h0_now)] H := hP
    have hD : va_D A [(h0, .inr (11, [.int h0_thrown, .ref h0_tape, .int h0_taped, .int h0_size, .int h0_limit, .int h0_to, .int h0_from, .int h0_kind, .int h0_number, .int h0_sign, .int h0_fault, .int h0_place, .long h0_word, .int h0_told, .ref h0_now, .ref h0_read, .ref h0_kept, .ref h0_snaps, .ref h0_aside, .ref h0_name, .ref h0_readName, .ref h0_keptName, .ref h0_isKept, .ref h0_onces, .int h0_snapMany, .int u_213, .int u_214, .int h0_agreed, .int h0_jurors, .int h0_panelled, .ref h0_inSets, .int h0_surely, .int h0_asked, .ref h0_frees, .int h0_struck, .int h0_beating, .ref h0_text, .int h0_texts, .int h0_seed, .ref h0_line, .ref h0_written, .int h0_lineMany, .int h0_hasWritten, .ref h0_node, .int h0_nodes, .int h0_onesMany, .int h0_within, .int h0_top])), (aI ca h0_now 376 F_h0_now)] := hD
    try dsimp only at w_212
    rcases w_212 with h_215 | h_216
    · skip
      subst h_215
      refine lv_if_eq (tgt := 140) hx hb dX12_holds_123 (by decide) (fun _ => ?_) (fun c => absurd (by decide) c)
      refine lv_iconst (v := 0) hx hb dX12_holds_140 (by decide) ?_
      exact oE_i hx hb hr (by decide) hlocks hP hD hS (u_213, u_214) [0, 1] rfl (by decide) (Or.inr (rfl)) (Nat.le_of_ble_eq_true rfl) (Nat.le_of_ble_eq_true rfl) dX12_holds_141
    · skip
      subst h_216
      refine lv_if_eq (tgt := 140) hx hb dX12_holds_123 (by decide) (fun c => absurd c (by decide)) (fun _ => ?_)
      refine lv_aload_n hx hb dX12_holds_126 rfl (lv_at hl 3 rfl) ?_
      refine lv_iload hx hb dX12_holds_127 (lv_at hl 0 rfl) ?_
      refine lv_iload_n hx hb dX12_holds_129 rfl (lv_at hl 5 rfl) ?_
      refine oC_i (Wc := [(h0, .inr (11, [.int h0_thrown, .ref h0_tape, .int h0_taped, .int h0_size, .int h0_limit, .int h0_to, .int h0_from, .int h0_kind, .int h0_number, .int h0_sign, .int h0_fault, .int h0_place, .long h0_word, .int h0_told, .ref h0_now, .ref h0_read, .ref h0_kept, .ref h0_snaps, .ref h0_aside, .ref h0_name, .ref h0_readName, .ref h0_keptName, .ref h0_isKept, .ref h0_onces, .int h0_snapMany, .int u_213, .int u_214, .int h0_agreed, .int h0_jurors, .int h0_panelled, .ref h0_inSets, .int h0_surely, .int h0_asked, .ref h0_frees, .int h0_struck, .int h0_beating, .ref h0_text, .int h0_texts, .int h0_seed, .ref h0_line, .ref h0_written, .int h0_lineMany, .int h0_hasWritten, .ref h0_node, .int h0_nodes, .int h0_onesMany, .int h0_within, .int h0_top])), (aI ca h0_now 376 F_h0_now)]) (Wr := []) (va_runV (As := [.int x_198, .int a2]) (rest := []) ⟨hx, hb, hml, hown, hts⟩ (s_X12_holds_29 l D ca H.size h0 x_198 a2 h0_thrown h0_tape h0_taped h0_size h0_limit h0_to h0_from h0_kind h0_number h0_sign h0_fault h0_place h0_word h0_told h0_now h0_read h0_kept h0_snaps h0_aside h0_name h0_readName h0_keptName h0_isKept h0_onces h0_snapMany u_213 u_214 h0_agreed h0_jurors h0_panelled h0_inSets h0_surely h0_asked h0_frees h0_struck h0_beating h0_text h0_texts h0_seed h0_line h0_written h0_lineMany h0_hasWritten h0_node h0_nodes h0_onesMany h0_within h0_top F_h0_now h_210 i_a2 i_h0_taped i_h0_size i_h0_to i_h0_kind i_h0_snapMany i_h0_texts i_h0_lineMany i_h0_hasWritten i_h0_nodes i_h0_onesMany s_h0_now_0 s_h0_now_1 s_h0_now_2 s_h0_now_3 s_h0_now_4 s_h0_now_5 s_h0_now_6 s_h0_now_7 cu_tokw) (cwV 2 hts gX12_holds_X12_holds rfl rfl rfl (by decide +kernel) ⟨Nat.le_of_ble_eq_true rfl, Nat.le_of_ble_eq_true rfl⟩) (oPV (C := RX12) hK hP hD [0, 1] rfl (by decide) 0 rfl (ci := 11) rfl rfl) rfl rfl hl.1 rfl (lv_room (Nat.le_of_ble_eq_true rfl)) dX12_holds_130 ⟨Nat.le_of_ble_eq_true rfl, Nat.le_of_ble_eq_true rfl⟩) hP hD hS hA [0, 1] [] rfl rfl (by decide) (by decide) (fun r_217 u H locs w_218 hP hD hS => ?_)
      obtain ⟨u_219, u_220⟩ := u
      have hP : va_P D vwCl [(h0, .inr (11, [.int h0_thrown, .ref h0_tape, .int h0_taped, .int h0_size, .int h0_limit, .int h0_to, .int h0_from, .int h0_kind, .int h0_number, .int h0_sign, .int h0_fault, .int h0_place, .long h0_word, .int h0_told, .ref h0_now, .ref h0_read, .ref h0_kept, .ref h0_snaps, .ref h0_aside, .ref h0_name, .ref h0_readName, .ref h0_keptName, .ref h0_isKept, .ref h0_onces, .int h0_snapMany, .int u_219, .int u_220, .int h0_agreed, .int h0_jurors, .int h0_panelled, .ref h0_inSets, .int h0_surely, .int h0_asked, .ref h0_frees, .int h0_struck, .int h0_beating, .ref h0_text, .int h0_texts, .int h0_seed, .ref h0_line, .ref h0_written, .int h0_lineMany, .int h0_hasWritten, .ref h0_node, .int h0_nodes, .int h0_onesMany, .int h0_within, .int h0_top])), (aI ca h0_now 376 F_h0_now)] H := hP
      have hD : va_D A [(h0, .inr (11, [.int h0_thrown, .ref h0_tape, .int h0_taped, .int h0_size, .int h0_limit, .int h0_to, .int h0_from, .int h0_kind, .int h0_number, .int h0_sign, .int h0_fault, .int h0_place, .long h0_word, .int h0_told, .ref h0_now, .ref h0_read, .ref h0_kept, .ref h0_snaps, .ref h0_aside, .ref h0_name, .ref h0_readName, .ref h0_keptName, .ref h0_isKept, .ref h0_onces, .int h0_snapMany, .int u_219, .int u_220, .int h0_agreed, .int h0_jurors, .int h0_panelled, .ref h0_inSets, .int h0_surely, .int h0_asked, .ref h0_frees, .int h0_struck, .int h0_beating, .ref h0_text, .int h0_texts, .int h0_seed, .ref h0_line, .ref h0_written, .int h0_lineMany, .int h0_hasWritten, .ref h0_node, .int h0_nodes, .int h0_onesMany, .int h0_within, .int h0_top])), (aI ca h0_now 376 F_h0_now)] := hD
      try dsimp only at w_218
      rcases w_218 with h_221 | h_222
      · skip
        subst h_221
        refine lv_if_eq (tgt := 140) hx hb dX12_holds_133 (by decide) (fun _ => ?_) (fun c => absurd (by decide) c)
        refine lv_iconst (v := 0) hx hb dX12_holds_140 (by decide) ?_
        exact oE_i hx hb hr (by decide) hlocks hP hD hS (u_219, u_220) [0, 1] rfl (by decide) (Or.inr (rfl)) (Nat.le_of_ble_eq_true rfl) (Nat.le_of_ble_eq_true rfl) dX12_holds_141
      · skip
        subst h_222
        refine lv_if_eq (tgt := 140) hx hb dX12_holds_133 (by decide) (fun c => absurd c (by decide)) (fun _ => ?_)
        refine lv_iconst (v := 1) hx hb dX12_holds_136 (by decide) ?_
        refine lv_goto (tgt := 141) hx hb dX12_holds_137 (by decide) ?_
        exact oE_i hx hb hr (by decide) hlocks hP hD hS (u_219, u_220) [0, 1] rfl (by decide) (Or.inl rfl) (Nat.le_of_ble_eq_true rfl) (Nat.le_of_ble_eq_true rfl) dX12_holds_141
  by_cases c_223 : x_199 = 3
  · skip
    refine oti 3 c_223 ?_
    refine lv_lookup (off := 108) (tgt := 142) hx hb dX12_holds_34 (by decide) (by decide) (by decide) ?_
    have h_224 : rg 0 28 x_194 := by have q := rg_cl i_a1 (by decide); have q1 := i_a1.2; have q2 := (ht.2.1 (Or.inr c_223)).1; exact ⟨by omega, by omega⟩
    have h_225 : rg 0 28 x_198 := by have q := rg_cl i_a1 (by decide); have q1 := i_a1.2; have q2 := (ht.2.1 (Or.inr c_223)).2; exact ⟨by omega, by omega⟩
    refine lv_aload_n hx hb dX12_holds_142 rfl (lv_at hl 3 rfl) ?_
    refine lv_iload hx hb dX12_holds_143 (lv_at hl 1 rfl) ?_
    refine lv_iload_n hx hb dX12_holds_145 rfl (lv_at hl 5 rfl) ?_
    refine oC_i (Wc := [(h0, .inr (11, [.int h0_thrown, .ref h0_tape, .int h0_taped, .int h0_size, .int h0_limit, .int h0_to, .int h0_from, .int h0_kind, .int h0_number, .int h0_sign, .int h0_fault, .int h0_place, .long h0_word, .int h0_told, .ref h0_now, .ref h0_read, .ref h0_kept, .ref h0_snaps, .ref h0_aside, .ref h0_name, .ref h0_readName, .ref h0_keptName, .ref h0_isKept, .ref h0_onces, .int h0_snapMany, .int h0_lowest, .int h0_highest, .int h0_agreed, .int h0_jurors, .int h0_panelled, .ref h0_inSets, .int h0_surely, .int h0_asked, .ref h0_frees, .int h0_struck, .int h0_beating, .ref h0_text, .int h0_texts, .int h0_seed, .ref h0_line, .ref h0_written, .int h0_lineMany, .int h0_hasWritten, .ref h0_node, .int h0_nodes, .int h0_onesMany, .int h0_within, .int h0_top])), (aI ca h0_now 376 F_h0_now)]) (Wr := []) (va_runV (As := [.int x_194, .int a2]) (rest := []) ⟨hx, hb, hml, hown, hts⟩ (s_X12_holds_29 l D ca H.size h0 x_194 a2 h0_thrown h0_tape h0_taped h0_size h0_limit h0_to h0_from h0_kind h0_number h0_sign h0_fault h0_place h0_word h0_told h0_now h0_read h0_kept h0_snaps h0_aside h0_name h0_readName h0_keptName h0_isKept h0_onces h0_snapMany h0_lowest h0_highest h0_agreed h0_jurors h0_panelled h0_inSets h0_surely h0_asked h0_frees h0_struck h0_beating h0_text h0_texts h0_seed h0_line h0_written h0_lineMany h0_hasWritten h0_node h0_nodes h0_onesMany h0_within h0_top F_h0_now h_224 i_a2 i_h0_taped i_h0_size i_h0_to i_h0_kind i_h0_snapMany i_h0_texts i_h0_lineMany i_h0_hasWritten i_h0_nodes i_h0_onesMany s_h0_now_0 s_h0_now_1 s_h0_now_2 s_h0_now_3 s_h0_now_4 s_h0_now_5 s_h0_now_6 s_h0_now_7 cu_tokw) (cwV 2 hts gX12_holds_X12_holds rfl rfl rfl (by decide +kernel) ⟨Nat.le_of_ble_eq_true rfl, Nat.le_of_ble_eq_true rfl⟩) (oPV (C := RX12) hK hP hD [0, 1] rfl (by decide) 0 rfl (ci := 11) rfl rfl) rfl rfl hl.1 rfl (lv_room (Nat.le_of_ble_eq_true rfl)) dX12_holds_146 ⟨Nat.le_of_ble_eq_true rfl, Nat.le_of_ble_eq_true rfl⟩) hP hD hS hA [0, 1] [] rfl rfl (by decide) (by decide) (fun r_226 u H locs w_227 hP hD hS => ?_)
    obtain ⟨u_228, u_229⟩ := u
    have hP : va_P D vwCl [(h0, .inr (11, [.int h0_thrown, .ref h0_tape, .int h0_taped, .int h0_size, .int h0_limit, .int h0_to, .int h0_from, .int h0_kind, .int h0_number, .int h0_sign, .int h0_fault, .int h0_place, .long h0_word, .int h0_told, .ref h0_now, .ref h0_read, .ref h0_kept, .ref h0_snaps, .ref h0_aside, .ref h0_name, .ref h0_readName, .ref h0_keptName, .ref h0_isKept, .ref h0_onces, .int h0_snapMany, .int u_228, .int u_229, .int h0_agreed, .int h0_jurors, .int h0_panelled, .ref h0_inSets, .int h0_surely, .int h0_asked, .ref h0_frees, .int h0_struck, .int h0_beating, .ref h0_text, .int h0_texts, .int h0_seed, .ref h0_line, .ref h0_written, .int h0_lineMany, .int h0_hasWritten, .ref h0_node, .int h0_nodes, .int h0_onesMany, .int h0_within, .int h0_top])), (aI ca h0_now 376 F_h0_now)] H := hP
    have hD : va_D A [(h0, .inr (11, [.int h0_thrown, .ref h0_tape, .int h0_taped, .int h0_size, .int h0_limit, .int h0_to, .int h0_from, .int h0_kind, .int h0_number, .int h0_sign, .int h0_fault, .int h0_place, .long h0_word, .int h0_told, .ref h0_now, .ref h0_read, .ref h0_kept, .ref h0_snaps, .ref h0_aside, .ref h0_name, .ref h0_readName, .ref h0_keptName, .ref h0_isKept, .ref h0_onces, .int h0_snapMany, .int u_228, .int u_229, .int h0_agreed, .int h0_jurors, .int h0_panelled, .ref h0_inSets, .int h0_surely, .int h0_asked, .ref h0_frees, .int h0_struck, .int h0_beating, .ref h0_text, .int h0_texts, .int h0_seed, .ref h0_line, .ref h0_written, .int h0_lineMany, .int h0_hasWritten, .ref h0_node, .int h0_nodes, .int h0_onesMany, .int h0_within, .int h0_top])), (aI ca h0_now 376 F_h0_now)] := hD
    try dsimp only at w_227
    rcases w_227 with h_230 | h_231
    · skip
      subst h_230
      refine lv_if_ne (tgt := 162) hx hb dX12_holds_149 (by decide) (fun c => absurd (by decide) c) (fun _ => ?_)
      refine lv_aload_n hx hb dX12_holds_152 rfl (lv_at hl 3 rfl) ?_
      refine lv_iload hx hb dX12_holds_153 (lv_at hl 0 rfl) ?_
      refine lv_iload_n hx hb dX12_holds_155 rfl (lv_at hl 5 rfl) ?_
      refine oC_i (Wc := [(h0, .inr (11, [.int h0_thrown, .ref h0_tape, .int h0_taped, .int h0_size, .int h0_limit, .int h0_to, .int h0_from, .int h0_kind, .int h0_number, .int h0_sign, .int h0_fault, .int h0_place, .long h0_word, .int h0_told, .ref h0_now, .ref h0_read, .ref h0_kept, .ref h0_snaps, .ref h0_aside, .ref h0_name, .ref h0_readName, .ref h0_keptName, .ref h0_isKept, .ref h0_onces, .int h0_snapMany, .int u_228, .int u_229, .int h0_agreed, .int h0_jurors, .int h0_panelled, .ref h0_inSets, .int h0_surely, .int h0_asked, .ref h0_frees, .int h0_struck, .int h0_beating, .ref h0_text, .int h0_texts, .int h0_seed, .ref h0_line, .ref h0_written, .int h0_lineMany, .int h0_hasWritten, .ref h0_node, .int h0_nodes, .int h0_onesMany, .int h0_within, .int h0_top])), (aI ca h0_now 376 F_h0_now)]) (Wr := []) (va_runV (As := [.int x_198, .int a2]) (rest := []) ⟨hx, hb, hml, hown, hts⟩ (s_X12_holds_29 l D ca H.size h0 x_198 a2 h0_thrown h0_tape h0_taped h0_size h0_limit h0_to h0_from h0_kind h0_number h0_sign h0_fault h0_place h0_word h0_told h0_now h0_read h0_kept h0_snaps h0_aside h0_name h0_readName h0_keptName h0_isKept h0_onces h0_snapMany u_228 u_229 h0_agreed h0_jurors h0_panelled h0_inSets h0_surely h0_asked h0_frees h0_struck h0_beating h0_text h0_texts h0_seed h0_line h0_written h0_lineMany h0_hasWritten h0_node h0_nodes h0_onesMany h0_within h0_top F_h0_now h_225 i_a2 i_h0_taped i_h0_size i_h0_to i_h0_kind i_h0_snapMany i_h0_texts i_h0_lineMany i_h0_hasWritten i_h0_nodes i_h0_onesMany s_h0_now_0 s_h0_now_1 s_h0_now_2 s_h0_now_3 s_h0_now_4 s_h0_now_5 s_h0_now_6 s_h0_now_7 cu_tokw) (cwV 2 hts gX12_holds_X12_holds rfl rfl rfl (by decide +kernel) ⟨Nat.le_of_ble_eq_true rfl, Nat.le_of_ble_eq_true rfl⟩) (oPV (C := RX12) hK hP hD [0, 1] rfl (by decide) 0 rfl (ci := 11) rfl rfl) rfl rfl hl.1 rfl (lv_room (Nat.le_of_ble_eq_true rfl)) dX12_holds_156 ⟨Nat.le_of_ble_eq_true rfl, Nat.le_of_ble_eq_true rfl⟩) hP hD hS hA [0, 1] [] rfl rfl (by decide) (by decide) (fun r_232 u H locs w_233 hP hD hS => ?_)
      obtain ⟨u_234, u_235⟩ := u
      have hP : va_P D vwCl [(h0, .inr (11, [.int h0_thrown, .ref h0_tape, .int h0_taped, .int h0_size, .int h0_limit, .int h0_to, .int h0_from, .int h0_kind, .int h0_number, .int h0_sign, .int h0_fault, .int h0_place, .long h0_word, .int h0_told, .ref h0_now, .ref h0_read, .ref h0_kept, .ref h0_snaps, .ref h0_aside, .ref h0_name, .ref h0_readName, .ref h0_keptName, .ref h0_isKept, .ref h0_onces, .int h0_snapMany, .int u_234, .int u_235, .int h0_agreed, .int h0_jurors, .int h0_panelled, .ref h0_inSets, .int h0_surely, .int h0_asked, .ref h0_frees, .int h0_struck, .int h0_beating, .ref h0_text, .int h0_texts, .int h0_seed, .ref h0_line, .ref h0_written, .int h0_lineMany, .int h0_hasWritten, .ref h0_node, .int h0_nodes, .int h0_onesMany, .int h0_within, .int h0_top])), (aI ca h0_now 376 F_h0_now)] H := hP
      have hD : va_D A [(h0, .inr (11, [.int h0_thrown, .ref h0_tape, .int h0_taped, .int h0_size, .int h0_limit, .int h0_to, .int h0_from, .int h0_kind, .int h0_number, .int h0_sign, .int h0_fault, .int h0_place, .long h0_word, .int h0_told, .ref h0_now, .ref h0_read, .ref h0_kept, .ref h0_snaps, .ref h0_aside, .ref h0_name, .ref h0_readName, .ref h0_keptName, .ref h0_isKept, .ref h0_onces, .int h0_snapMany, .int u_234, .int u_235, .int h0_agreed, .int h0_jurors, .int h0_panelled, .ref h0_inSets, .int h0_surely, .int h0_asked, .ref h0_frees, .int h0_struck, .int h0_beating, .ref h0_text, .int h0_texts, .int h0_seed, .ref h0_line, .ref h0_written, .int h0_lineMany, .int h0_hasWritten, .ref h0_node, .int h0_nodes, .int h0_onesMany, .int h0_within, .int h0_top])), (aI ca h0_now 376 F_h0_now)] := hD
      try dsimp only at w_233
      rcases w_233 with h_236 | h_237
      · skip
        subst h_236
        refine lv_if_eq (tgt := 166) hx hb dX12_holds_159 (by decide) (fun _ => ?_) (fun c => absurd (by decide) c)
        refine lv_iconst (v := 0) hx hb dX12_holds_166 (by decide) ?_
        exact oE_i hx hb hr (by decide) hlocks hP hD hS (u_234, u_235) [0, 1] rfl (by decide) (Or.inr (rfl)) (Nat.le_of_ble_eq_true rfl) (Nat.le_of_ble_eq_true rfl) dX12_holds_167
      · skip
        subst h_237
        refine lv_if_eq (tgt := 166) hx hb dX12_holds_159 (by decide) (fun c => absurd c (by decide)) (fun _ => ?_)
        refine lv_iconst (v := 1) hx hb dX12_holds_162 (by decide) ?_
        refine lv_goto (tgt := 167) hx hb dX12_holds_163 (by decide) ?_
        exact oE_i hx hb hr (by decide) hlocks hP hD hS (u_234, u_235) [0, 1] rfl (by decide) (Or.inl rfl) (Nat.le_of_ble_eq_true rfl) (Nat.le_of_ble_eq_true rfl) dX12_holds_167
    · skip
      subst h_231
      refine lv_if_ne (tgt := 162) hx hb dX12_holds_149 (by decide) (fun _ => ?_) (fun c => absurd c (by decide))
      refine lv_iconst (v := 1) hx hb dX12_holds_162 (by decide) ?_
      refine lv_goto (tgt := 167) hx hb dX12_holds_163 (by decide) ?_
      exact oE_i hx hb hr (by decide) hlocks hP hD hS (u_228, u_229) [0, 1] rfl (by decide) (Or.inl rfl) (Nat.le_of_ble_eq_true rfl) (Nat.le_of_ble_eq_true rfl) dX12_holds_167
  by_cases c_238 : x_199 = 68
  · skip
    refine oti 68 c_238 ?_
    refine lv_lookup (off := 134) (tgt := 168) hx hb dX12_holds_34 (by decide) (by decide) (by decide) ?_
    refine lv_aload_n hx hb dX12_holds_168 rfl (lv_at hl 3 rfl) ?_
    refine va_get (D := D) (ci := 11) (v := .ref h0_now) (C := RX12) (T := TX12) (N := 48) hx hb hts k2 hown hK.1 hP 0 rfl rfl 14 (by decide) k1 (fun _ h9 => h9) rfl dX12_holds_169 ?_
    refine lv_bipush (v := 90) hx hb dX12_holds_172 (by decide) ?_
    refine va_iald hx hb hK.1 hP 1 0 rfl rfl (rg_in (⟨by decide, by decide⟩ : rg 90 90 (90 : Int32)) (by decide) (by decide)) dX12_holds_174 ?_
    refine lv_topi (fun x_239 ex_239 => ?_)
    have h_240 : rg 0 1023 x_239 := by rw [ex_239]; exact sg_at s_h0_now_5 (⟨by decide, by decide⟩ : rg 90 90 (90 : Int32)) (by decide) (by decide) (by decide)
    refine lv_iload_n hx hb dX12_holds_175 rfl (lv_at hl 5 rfl) ?_
    refine oC_i (Wc := []) (Wr := [(h0, .inr (11, [.int h0_thrown, .ref h0_tape, .int h0_taped, .int h0_size, .int h0_limit, .int h0_to, .int h0_from, .int h0_kind, .int h0_number, .int h0_sign, .int h0_fault, .int h0_place, .long h0_word, .int h0_told, .ref h0_now, .ref h0_read, .ref h0_kept, .ref h0_snaps, .ref h0_aside, .ref h0_name, .ref h0_readName, .ref h0_keptName, .ref h0_isKept, .ref h0_onces, .int h0_snapMany, .int h0_lowest, .int h0_highest, .int h0_agreed, .int h0_jurors, .int h0_panelled, .ref h0_inSets, .int h0_surely, .int h0_asked, .ref h0_frees, .int h0_struck, .int h0_beating, .ref h0_text, .int h0_texts, .int h0_seed, .ref h0_line, .ref h0_written, .int h0_lineMany, .int h0_hasWritten, .ref h0_node, .int h0_nodes, .int h0_onesMany, .int h0_within, .int h0_top])), (aI ca h0_now 376 F_h0_now)]) (va_runS (As := [.int x_239, .int a2]) (rest := []) ⟨hx, hb, hml, hown, hts⟩ (s_X12_has l D ca H.size x_239 a2) (va_cwS 2 hts gX12_holds_X12_has rfl rfl rfl (by decide +kernel) ⟨Nat.le_of_ble_eq_true rfl, Nat.le_of_ble_eq_true rfl⟩) (oPS hK hP hD [] rfl (by decide)) rfl rfl hl.1 rfl (lv_room (Nat.le_of_ble_eq_true rfl)) dX12_holds_176 ⟨Nat.le_of_ble_eq_true rfl, Nat.le_of_ble_eq_true rfl⟩) hP hD hS hA [] [0, 1] rfl rfl (by decide) (by decide) (fun r_241 u H locs w_242 hP hD hS => ?_)
    obtain ⟨⟩ := u
    have hP : va_P D vwCl [(h0, .inr (11, [.int h0_thrown, .ref h0_tape, .int h0_taped, .int h0_size, .int h0_limit, .int h0_to, .int h0_from, .int h0_kind, .int h0_number, .int h0_sign, .int h0_fault, .int h0_place, .long h0_word, .int h0_told, .ref h0_now, .ref h0_read, .ref h0_kept, .ref h0_snaps, .ref h0_aside, .ref h0_name, .ref h0_readName, .ref h0_keptName, .ref h0_isKept, .ref h0_onces, .int h0_snapMany, .int h0_lowest, .int h0_highest, .int h0_agreed, .int h0_jurors, .int h0_panelled, .ref h0_inSets, .int h0_surely, .int h0_asked, .ref h0_frees, .int h0_struck, .int h0_beating, .ref h0_text, .int h0_texts, .int h0_seed, .ref h0_line, .ref h0_written, .int h0_lineMany, .int h0_hasWritten, .ref h0_node, .int h0_nodes, .int h0_onesMany, .int h0_within, .int h0_top])), (aI ca h0_now 376 F_h0_now)] H := hP
    have hD : va_D A [(h0, .inr (11, [.int h0_thrown, .ref h0_tape, .int h0_taped, .int h0_size, .int h0_limit, .int h0_to, .int h0_from, .int h0_kind, .int h0_number, .int h0_sign, .int h0_fault, .int h0_place, .long h0_word, .int h0_told, .ref h0_now, .ref h0_read, .ref h0_kept, .ref h0_snaps, .ref h0_aside, .ref h0_name, .ref h0_readName, .ref h0_keptName, .ref h0_isKept, .ref h0_onces, .int h0_snapMany, .int h0_lowest, .int h0_highest, .int h0_agreed, .int h0_jurors, .int h0_panelled, .ref h0_inSets, .int h0_surely, .int h0_asked, .ref h0_frees, .int h0_struck, .int h0_beating, .ref h0_text, .int h0_texts, .int h0_seed, .ref h0_line, .ref h0_written, .int h0_lineMany, .int h0_hasWritten, .ref h0_node, .int h0_nodes, .int h0_onesMany, .int h0_within, .int h0_top])), (aI ca h0_now 376 F_h0_now)] := hD
    try dsimp only at w_242
    rcases w_242 with ⟨h_243, h_244⟩ | ⟨h_245, h_246⟩
    · skip
      subst h_243
      exact oE_i hx hb hr (by decide) hlocks hP hD hS (h0_lowest, h0_highest) [0, 1] rfl (by decide) (Or.inr (rfl)) (Nat.le_of_ble_eq_true rfl) (Nat.le_of_ble_eq_true rfl) dX12_holds_179
    · skip
      subst h_245
      exact oE_i hx hb hr (by decide) hlocks hP hD hS (h0_lowest, h0_highest) [0, 1] rfl (by decide) (Or.inl rfl) (Nat.le_of_ble_eq_true rfl) (Nat.le_of_ble_eq_true rfl) dX12_holds_179
  by_cases c_247 : x_199 = 69
  · skip
    refine oti 69 c_247 ?_
    refine lv_lookup (off := 146) (tgt := 180) hx hb dX12_holds_34 (by decide) (by decide) (by decide) ?_
    refine lv_aload_n hx hb dX12_holds_180 rfl (lv_at hl 3 rfl) ?_
    refine va_get (D := D) (ci := 11) (v := .ref h0_now) (C := RX12) (T := TX12) (N := 48) hx hb hts k2 hown hK.1 hP 0 rfl rfl 14 (by decide) k1 (fun _ h9 => h9) rfl dX12_holds_181 ?_
    refine lv_bipush (v := 91) hx hb dX12_holds_184 (by decide) ?_
    refine va_iald hx hb hK.1 hP 1 0 rfl rfl (rg_in (⟨by decide, by decide⟩ : rg 91 91 (91 : Int32)) (by decide) (by decide)) dX12_holds_186 ?_
    refine lv_topi (fun x_248 ex_248 => ?_)
    refine lv_iload_n hx hb dX12_holds_187 rfl (lv_at hl 5 rfl) ?_
    refine oC_i (Wc := []) (Wr := [(h0, .inr (11, [.int h0_thrown, .ref h0_tape, .int h0_taped, .int h0_size, .int h0_limit, .int h0_to, .int h0_from, .int h0_kind, .int h0_number, .int h0_sign, .int h0_fault, .int h0_place, .long h0_word, .int h0_told, .ref h0_now, .ref h0_read, .ref h0_kept, .ref h0_snaps, .ref h0_aside, .ref h0_name, .ref h0_readName, .ref h0_keptName, .ref h0_isKept, .ref h0_onces, .int h0_snapMany, .int h0_lowest, .int h0_highest, .int h0_agreed, .int h0_jurors, .int h0_panelled, .ref h0_inSets, .int h0_surely, .int h0_asked, .ref h0_frees, .int h0_struck, .int h0_beating, .ref h0_text, .int h0_texts, .int h0_seed, .ref h0_line, .ref h0_written, .int h0_lineMany, .int h0_hasWritten, .ref h0_node, .int h0_nodes, .int h0_onesMany, .int h0_within, .int h0_top])), (aI ca h0_now 376 F_h0_now)]) (va_runS (As := [.int x_248, .int a2]) (rest := []) ⟨hx, hb, hml, hown, hts⟩ (s_X12_has l D ca H.size x_248 a2) (va_cwS 2 hts gX12_holds_X12_has rfl rfl rfl (by decide +kernel) ⟨Nat.le_of_ble_eq_true rfl, Nat.le_of_ble_eq_true rfl⟩) (oPS hK hP hD [] rfl (by decide)) rfl rfl hl.1 rfl (lv_room (Nat.le_of_ble_eq_true rfl)) dX12_holds_188 ⟨Nat.le_of_ble_eq_true rfl, Nat.le_of_ble_eq_true rfl⟩) hP hD hS hA [] [0, 1] rfl rfl (by decide) (by decide) (fun r_249 u H locs w_250 hP hD hS => ?_)
    obtain ⟨⟩ := u
    have hP : va_P D vwCl [(h0, .inr (11, [.int h0_thrown, .ref h0_tape, .int h0_taped, .int h0_size, .int h0_limit, .int h0_to, .int h0_from, .int h0_kind, .int h0_number, .int h0_sign, .int h0_fault, .int h0_place, .long h0_word, .int h0_told, .ref h0_now, .ref h0_read, .ref h0_kept, .ref h0_snaps, .ref h0_aside, .ref h0_name, .ref h0_readName, .ref h0_keptName, .ref h0_isKept, .ref h0_onces, .int h0_snapMany, .int h0_lowest, .int h0_highest, .int h0_agreed, .int h0_jurors, .int h0_panelled, .ref h0_inSets, .int h0_surely, .int h0_asked, .ref h0_frees, .int h0_struck, .int h0_beating, .ref h0_text, .int h0_texts, .int h0_seed, .ref h0_line, .ref h0_written, .int h0_lineMany, .int h0_hasWritten, .ref h0_node, .int h0_nodes, .int h0_onesMany, .int h0_within, .int h0_top])), (aI ca h0_now 376 F_h0_now)] H := hP
    have hD : va_D A [(h0, .inr (11, [.int h0_thrown, .ref h0_tape, .int h0_taped, .int h0_size, .int h0_limit, .int h0_to, .int h0_from, .int h0_kind, .int h0_number, .int h0_sign, .int h0_fault, .int h0_place, .long h0_word, .int h0_told, .ref h0_now, .ref h0_read, .ref h0_kept, .ref h0_snaps, .ref h0_aside, .ref h0_name, .ref h0_readName, .ref h0_keptName, .ref h0_isKept, .ref h0_onces, .int h0_snapMany, .int h0_lowest, .int h0_highest, .int h0_agreed, .int h0_jurors, .int h0_panelled, .ref h0_inSets, .int h0_surely, .int h0_asked, .ref h0_frees, .int h0_struck, .int h0_beating, .ref h0_text, .int h0_texts, .int h0_seed, .ref h0_line, .ref h0_written, .int h0_lineMany, .int h0_hasWritten, .ref h0_node, .int h0_nodes, .int h0_onesMany, .int h0_within, .int h0_top])), (aI ca h0_now 376 F_h0_now)] := hD
    try dsimp only at w_250
    rcases w_250 with ⟨h_251, h_252⟩ | ⟨h_253, h_254⟩
    · skip
      subst h_251
      exact oE_i hx hb hr (by decide) hlocks hP hD hS (h0_lowest, h0_highest) [0, 1] rfl (by decide) (Or.inr (rfl)) (Nat.le_of_ble_eq_true rfl) (Nat.le_of_ble_eq_true rfl) dX12_holds_191
    · skip
      subst h_253
      exact oE_i hx hb hr (by decide) hlocks hP hD hS (h0_lowest, h0_highest) [0, 1] rfl (by decide) (Or.inl rfl) (Nat.le_of_ble_eq_true rfl) (Nat.le_of_ble_eq_true rfl) dX12_holds_191
  by_cases c_255 : x_199 = 70
  · skip
    refine oti 70 c_255 ?_
    refine lv_lookup (off := 158) (tgt := 192) hx hb dX12_holds_34 (by decide) (by decide) (by decide) ?_
    refine lv_aload_n hx hb dX12_holds_192 rfl (lv_at hl 3 rfl) ?_
    refine va_get (D := D) (ci := 11) (v := .ref h0_now) (C := RX12) (T := TX12) (N := 48) hx hb hts k2 hown hK.1 hP 0 rfl rfl 14 (by decide) k1 (fun _ h9 => h9) rfl dX12_holds_193 ?_
    refine lv_bipush (v := 94) hx hb dX12_holds_196 (by decide) ?_
    refine lv_iload_n hx hb dX12_holds_198 rfl (lv_at hl 5 rfl) ?_
    refine lv_iadd hx hb dX12_holds_199 ?_
    refine lv_topi (fun x_256 ex_256 => ?_)
    have h_257 : rg 94 103 x_256 := by rw [ex_256]; exact rg_add (⟨by decide, by decide⟩ : rg 94 94 (94 : Int32)) i_a2 (by decide) (by decide) (by decide) (by decide)
    have l_258 : lq x_256.toInt (a2.toInt + 94) := lqm (by rw [ex_256]; have q := tadd (⟨by decide, by decide⟩ : rg 94 94 (94 : Int32)) i_a2 (by decide) (by decide); have r0 := lqe (lqm (by decide) : lq (94 : Int32).toInt 94); omega)
    refine va_iald hx hb hK.1 hP 1 0 rfl rfl (rg_in h_257 (by decide) (by decide)) dX12_holds_200 ?_
    refine lv_topi (fun x_259 ex_259 => ?_)
    refine lv_if_le (tgt := 208) hx hb dX12_holds_201 (by decide) (fun c_260 => ?_) (fun c_260 => ?_)
    · skip
      have o_261 : rl 0 x_259 0 := rl_le c_260
      have h_262 : rg (-2147483648) 0 x_259 := rl_x o_261 (rga x_259) (⟨by decide, by decide⟩ : rg 0 0 (0 : Int32)) (by decide) (by decide)
      refine lv_iconst (v := 0) hx hb dX12_holds_208 (by decide) ?_
      exact oE_i hx hb hr (by decide) hlocks hP hD hS (h0_lowest, h0_highest) [0, 1] rfl (by decide) (Or.inr (rfl)) (Nat.le_of_ble_eq_true rfl) (Nat.le_of_ble_eq_true rfl) dX12_holds_209
    · skip
      have o_263 : rl 1 0 x_259 := rl_nle c_260
      have h_264 : rg 1 2147483647 x_259 := rl_y o_263 (⟨by decide, by decide⟩ : rg 0 0 (0 : Int32)) (rga x_259) (by decide) (by decide)
      refine lv_iconst (v := 1) hx hb dX12_holds_204 (by decide) ?_
      refine lv_goto (tgt := 209) hx hb dX12_holds_205 (by decide) ?_
      exact oE_i hx hb hr (by decide) hlocks hP hD hS (h0_lowest, h0_highest) [0, 1] rfl (by decide) (Or.inl rfl) (Nat.le_of_ble_eq_true rfl) (Nat.le_of_ble_eq_true rfl) dX12_holds_209
  by_cases c_265 : x_199 = 71
  · skip
    refine oti 71 c_265 ?_
    refine lv_lookup (off := 176) (tgt := 210) hx hb dX12_holds_34 (by decide) (by decide) (by decide) ?_
    have h_266 : rg 0 39 x_194 := ht.2.2 c_265
    refine lv_aload_n hx hb dX12_holds_210 rfl (lv_at hl 3 rfl) ?_
    refine lv_iload_n hx hb dX12_holds_211 rfl (lv_at hl 5 rfl) ?_
    refine lv_iload hx hb dX12_holds_212 (lv_at hl 1 rfl) ?_
    refine oC_i (Wc := [(h0, .inr (11, [.int h0_thrown, .ref h0_tape, .int h0_taped, .int h0_size, .int h0_limit, .int h0_to, .int h0_from, .int h0_kind, .int h0_number, .int h0_sign, .int h0_fault, .int h0_place, .long h0_word, .int h0_told, .ref h0_now, .ref h0_read, .ref h0_kept, .ref h0_snaps, .ref h0_aside, .ref h0_name, .ref h0_readName, .ref h0_keptName, .ref h0_isKept, .ref h0_onces, .int h0_snapMany, .int h0_lowest, .int h0_highest, .int h0_agreed, .int h0_jurors, .int h0_panelled, .ref h0_inSets, .int h0_surely, .int h0_asked, .ref h0_frees, .int h0_struck, .int h0_beating, .ref h0_text, .int h0_texts, .int h0_seed, .ref h0_line, .ref h0_written, .int h0_lineMany, .int h0_hasWritten, .ref h0_node, .int h0_nodes, .int h0_onesMany, .int h0_within, .int h0_top])), (aI ca h0_now 376 F_h0_now)]) (Wr := []) (va_runV (As := [.int a2, .int x_194]) (rest := []) ⟨hx, hb, hml, hown, hts⟩ (s_X12_areOneRing l D ca H.size h0 a2 x_194 h0_thrown h0_tape h0_taped h0_size h0_limit h0_to h0_from h0_kind h0_number h0_sign h0_fault h0_place h0_word h0_told h0_now h0_read h0_kept h0_snaps h0_aside h0_name h0_readName h0_keptName h0_isKept h0_onces h0_snapMany h0_lowest h0_highest h0_agreed h0_jurors h0_panelled h0_inSets h0_surely h0_asked h0_frees h0_struck h0_beating h0_text h0_texts h0_seed h0_line h0_written h0_lineMany h0_hasWritten h0_node h0_nodes h0_onesMany h0_within h0_top F_h0_now i_a2 h_266 i_h0_taped i_h0_size i_h0_to i_h0_kind i_h0_snapMany i_h0_texts i_h0_lineMany i_h0_hasWritten i_h0_nodes i_h0_onesMany s_h0_now_0 s_h0_now_1 s_h0_now_2 s_h0_now_3 s_h0_now_4 s_h0_now_5 s_h0_now_6 s_h0_now_7) (cwV 2 hts gX12_holds_X12_areOneRing rfl rfl rfl (by decide +kernel) ⟨Nat.le_of_ble_eq_true rfl, Nat.le_of_ble_eq_true rfl⟩) (oPV (C := RX12) hK hP hD [0, 1] rfl (by decide) 0 rfl (ci := 11) rfl rfl) rfl rfl hl.1 rfl (lv_room (Nat.le_of_ble_eq_true rfl)) dX12_holds_214 ⟨Nat.le_of_ble_eq_true rfl, Nat.le_of_ble_eq_true rfl⟩) hP hD hS hA [0, 1] [] rfl rfl (by decide) (by decide) (fun r_267 u H locs w_268 hP hD hS => ?_)
    obtain ⟨u_269, u_270⟩ := u
    have hP : va_P D vwCl [(h0, .inr (11, [.int h0_thrown, .ref h0_tape, .int h0_taped, .int h0_size, .int h0_limit, .int h0_to, .int h0_from, .int h0_kind, .int h0_number, .int h0_sign, .int h0_fault, .int h0_place, .long h0_word, .int h0_told, .ref h0_now, .ref h0_read, .ref h0_kept, .ref h0_snaps, .ref h0_aside, .ref h0_name, .ref h0_readName, .ref h0_keptName, .ref h0_isKept, .ref h0_onces, .int h0_snapMany, .int u_269, .int u_270, .int h0_agreed, .int h0_jurors, .int h0_panelled, .ref h0_inSets, .int h0_surely, .int h0_asked, .ref h0_frees, .int h0_struck, .int h0_beating, .ref h0_text, .int h0_texts, .int h0_seed, .ref h0_line, .ref h0_written, .int h0_lineMany, .int h0_hasWritten, .ref h0_node, .int h0_nodes, .int h0_onesMany, .int h0_within, .int h0_top])), (aI ca h0_now 376 F_h0_now)] H := hP
    have hD : va_D A [(h0, .inr (11, [.int h0_thrown, .ref h0_tape, .int h0_taped, .int h0_size, .int h0_limit, .int h0_to, .int h0_from, .int h0_kind, .int h0_number, .int h0_sign, .int h0_fault, .int h0_place, .long h0_word, .int h0_told, .ref h0_now, .ref h0_read, .ref h0_kept, .ref h0_snaps, .ref h0_aside, .ref h0_name, .ref h0_readName, .ref h0_keptName, .ref h0_isKept, .ref h0_onces, .int h0_snapMany, .int u_269, .int u_270, .int h0_agreed, .int h0_jurors, .int h0_panelled, .ref h0_inSets, .int h0_surely, .int h0_asked, .ref h0_frees, .int h0_struck, .int h0_beating, .ref h0_text, .int h0_texts, .int h0_seed, .ref h0_line, .ref h0_written, .int h0_lineMany, .int h0_hasWritten, .ref h0_node, .int h0_nodes, .int h0_onesMany, .int h0_within, .int h0_top])), (aI ca h0_now 376 F_h0_now)] := hD
    try dsimp only at w_268
    rcases w_268 with ⟨h_271, h_272, h_273⟩ | ⟨h_274, h_275, h_276, h_277⟩
    · skip
      subst h_271
      exact oE_i hx hb hr (by decide) hlocks hP hD hS (u_269, u_270) [0, 1] rfl (by decide) (Or.inr (rfl)) (Nat.le_of_ble_eq_true rfl) (Nat.le_of_ble_eq_true rfl) dX12_holds_217
    · skip
      subst h_274
      exact oE_i hx hb hr (by decide) hlocks hP hD hS (u_269, u_270) [0, 1] rfl (by decide) (Or.inl rfl) (Nat.le_of_ble_eq_true rfl) (Nat.le_of_ble_eq_true rfl) dX12_holds_217
  have t0 := lv_neT c_200 (show (1 : Int32).toInt = 1 by decide)
  have t1 := lv_neT c_208 (show (2 : Int32).toInt = 2 by decide)
  have t2 := lv_neT c_223 (show (3 : Int32).toInt = 3 by decide)
  have t3 := lv_neT c_238 (show (68 : Int32).toInt = 68 by decide)
  have t4 := lv_neT c_247 (show (69 : Int32).toInt = 69 by decide)
  have t5 := lv_neT c_255 (show (70 : Int32).toInt = 70 by decide)
  have t6 := lv_neT c_265 (show (71 : Int32).toInt = 71 by decide)
  refine lv_lookup (off := 184) (tgt := 218) hx hb dX12_holds_34 (by decide) (by simp [Op.lookupswitch.offset, show ¬ (1 : Int) = x_199.toInt from fun h9 => t0 h9.symm, show ¬ (2 : Int) = x_199.toInt from fun h9 => t1 h9.symm, show ¬ (3 : Int) = x_199.toInt from fun h9 => t2 h9.symm, show ¬ (68 : Int) = x_199.toInt from fun h9 => t3 h9.symm, show ¬ (69 : Int) = x_199.toInt from fun h9 => t4 h9.symm, show ¬ (70 : Int) = x_199.toInt from fun h9 => t5 h9.symm, show ¬ (71 : Int) = x_199.toInt from fun h9 => t6 h9.symm]) (by decide) ?_
  refine lv_aload_n hx hb dX12_holds_218 rfl (lv_at hl 3 rfl) ?_
  refine va_get (D := D) (ci := 11) (v := .ref h0_now) (C := RX12) (T := TX12) (N := 48) hx hb hts k2 hown hK.1 hP 0 rfl rfl 14 (by decide) k1 (fun _ h9 => h9) rfl dX12_holds_219 ?_
  refine lv_iload_n hx hb dX12_holds_222 rfl (lv_at hl 2 rfl) ?_
  refine va_iald hx hb hK.1 hP 1 0 rfl rfl (rg_in h_189 (by decide) (by decide)) dX12_holds_223 ?_
  refine oti x_199 ex_199.symm ?_
  refine lv_bipush (v := 50) hx hb dX12_holds_224 (by decide) ?_
  refine lv_isub hx hb dX12_holds_226 ?_
  refine lv_topi (fun x_278 ex_278 => ?_)
  refine lv_istore (lv' := [(6, .int x_278), (5, .int x_198), (4, .int x_194), (3, .int x_188), (0, .ref h0), (1, .int a1), (2, .int a2)]) hx hb dX12_holds_227 hl (by decide) rfl (fun ls hl => ?_)
  refine lv_iload hx hb dX12_holds_229 (lv_at hl 0 rfl) ?_
  refine lv_bipush (v := 22) hx hb dX12_holds_231 (by decide) ?_
  refine lv_icmp_ne (tgt := 247) hx hb dX12_holds_233 (by decide) (fun c_279 => ?_) (fun c_279 => ?_)
  · skip
    refine lv_iload hx hb dX12_holds_247 (lv_at hl 0 rfl) ?_
    refine lv_bipush (v := 23) hx hb dX12_holds_249 (by decide) ?_
    refine lv_icmp_ne (tgt := 266) hx hb dX12_holds_251 (by decide) (fun c_280 => ?_) (fun c_280 => ?_)
    · skip
      refine lv_iload hx hb dX12_holds_266 (lv_at hl 0 rfl) ?_
      refine lv_bipush (v := 24) hx hb dX12_holds_268 (by decide) ?_
      refine lv_icmp_ne (tgt := 285) hx hb dX12_holds_270 (by decide) (fun c_281 => ?_) (fun c_281 => ?_)
      · skip
        refine lv_iload_n hx hb dX12_holds_285 rfl (lv_at hl 6 rfl) ?_
        exact J286_153 x_188 x_198 a2 h_189 H locs ls (oPsub hP [0, 1] rfl) (hD.sub [0, 1] (by decide) rfl) hS (lv_sub hl [4, 3, 1] rfl)
      · skip
        have o_282 : rl 0 x_278 24 := rl_eq c_281
        have h_283 : rg (-2147483648) 24 x_278 := rl_x o_282 (rga x_278) (⟨by decide, by decide⟩ : rg 24 24 (24 : Int32)) (by decide) (by decide)
        have o_284 : rl 0 24 x_278 := rl_eq c_281.symm
        have h_285 : rg 24 24 x_278 := rl_y o_284 (⟨by decide, by decide⟩ : rg 24 24 (24 : Int32)) h_283 (by decide) (by decide)
        refine lv_aload_n hx hb dX12_holds_273 rfl (lv_at hl 4 rfl) ?_
        refine va_get (D := D) (ci := 11) (v := .ref h0_now) (C := RX12) (T := TX12) (N := 48) hx hb hts k2 hown hK.1 hP 0 rfl rfl 14 (by decide) k1 (fun _ h9 => h9) rfl dX12_holds_274 ?_
        refine lv_bipush (v := 94) hx hb dX12_holds_277 (by decide) ?_
        refine lv_iload_n hx hb dX12_holds_279 rfl (lv_at hl 6 rfl) ?_
        refine lv_iadd hx hb dX12_holds_280 ?_
        refine lv_topi (fun x_286 ex_286 => ?_)
        have h_287 : rg 94 103 x_286 := by rw [ex_286]; exact rg_add (⟨by decide, by decide⟩ : rg 94 94 (94 : Int32)) i_a2 (by decide) (by decide) (by decide) (by decide)
        have l_288 : lq x_286.toInt (a2.toInt + 94) := lqm (by rw [ex_286]; have q := tadd (⟨by decide, by decide⟩ : rg 94 94 (94 : Int32)) i_a2 (by decide) (by decide); have r0 := lqe (lqm (by decide) : lq (94 : Int32).toInt 94); omega)
        refine va_iald hx hb hK.1 hP 1 0 rfl rfl (rg_in h_287 (by decide) (by decide)) dX12_holds_281 ?_
        refine lv_topi (fun x_289 ex_289 => ?_)
        refine lv_goto (tgt := 286) hx hb dX12_holds_282 (by decide) ?_
        exact J286_153 x_188 x_198 x_289 h_189 H locs ls (oPsub hP [0, 1] rfl) (hD.sub [0, 1] (by decide) rfl) hS (lv_sub hl [4, 3, 1] rfl)
    · skip
      have o_290 : rl 0 x_278 23 := rl_eq c_280
      have h_291 : rg (-2147483648) 23 x_278 := rl_x o_290 (rga x_278) (⟨by decide, by decide⟩ : rg 23 23 (23 : Int32)) (by decide) (by decide)
      have o_292 : rl 0 23 x_278 := rl_eq c_280.symm
      have h_293 : rg 23 23 x_278 := rl_y o_292 (⟨by decide, by decide⟩ : rg 23 23 (23 : Int32)) h_291 (by decide) (by decide)
      refine lv_aload_n hx hb dX12_holds_254 rfl (lv_at hl 4 rfl) ?_
      refine va_get (D := D) (ci := 11) (v := .ref h0_now) (C := RX12) (T := TX12) (N := 48) hx hb hts k2 hown hK.1 hP 0 rfl rfl 14 (by decide) k1 (fun _ h9 => h9) rfl dX12_holds_255 ?_
      refine lv_bipush (v := 15) hx hb dX12_holds_258 (by decide) ?_
      refine lv_iload_n hx hb dX12_holds_260 rfl (lv_at hl 6 rfl) ?_
      refine lv_iadd hx hb dX12_holds_261 ?_
      refine lv_topi (fun x_294 ex_294 => ?_)
      have h_295 : rg 15 24 x_294 := by rw [ex_294]; exact rg_add (⟨by decide, by decide⟩ : rg 15 15 (15 : Int32)) i_a2 (by decide) (by decide) (by decide) (by decide)
      have l_296 : lq x_294.toInt (a2.toInt + 15) := lqm (by rw [ex_294]; have q := tadd (⟨by decide, by decide⟩ : rg 15 15 (15 : Int32)) i_a2 (by decide) (by decide); have r0 := lqe (lqm (by decide) : lq (15 : Int32).toInt 15); omega)
      refine va_iald hx hb hK.1 hP 1 0 rfl rfl (rg_in h_295 (by decide) (by decide)) dX12_holds_262 ?_
      refine lv_topi (fun x_297 ex_297 => ?_)
      refine lv_goto (tgt := 286) hx hb dX12_holds_263 (by decide) ?_
      exact J286_153 x_188 x_198 x_297 h_189 H locs ls (oPsub hP [0, 1] rfl) (hD.sub [0, 1] (by decide) rfl) hS (lv_sub hl [4, 3, 1] rfl)
  · skip
    have o_298 : rl 0 x_278 22 := rl_eq c_279
    have h_299 : rg (-2147483648) 22 x_278 := rl_x o_298 (rga x_278) (⟨by decide, by decide⟩ : rg 22 22 (22 : Int32)) (by decide) (by decide)
    have o_300 : rl 0 22 x_278 := rl_eq c_279.symm
    have h_301 : rg 22 22 x_278 := rl_y o_300 (⟨by decide, by decide⟩ : rg 22 22 (22 : Int32)) h_299 (by decide) (by decide)
    refine lv_aload_n hx hb dX12_holds_236 rfl (lv_at hl 4 rfl) ?_
    refine va_get (D := D) (ci := 11) (v := .ref h0_now) (C := RX12) (T := TX12) (N := 48) hx hb hts k2 hown hK.1 hP 0 rfl rfl 14 (by decide) k1 (fun _ h9 => h9) rfl dX12_holds_237 ?_
    refine lv_iconst (v := 5) hx hb dX12_holds_240 (by decide) ?_
    refine lv_iload_n hx hb dX12_holds_241 rfl (lv_at hl 6 rfl) ?_
    refine lv_iadd hx hb dX12_holds_242 ?_
    refine lv_topi (fun x_302 ex_302 => ?_)
    have h_303 : rg 5 14 x_302 := by rw [ex_302]; exact rg_add (⟨by decide, by decide⟩ : rg 5 5 (5 : Int32)) i_a2 (by decide) (by decide) (by decide) (by decide)
    have l_304 : lq x_302.toInt (a2.toInt + 5) := lqm (by rw [ex_302]; have q := tadd (⟨by decide, by decide⟩ : rg 5 5 (5 : Int32)) i_a2 (by decide) (by decide); have r0 := lqe (lqm (by decide) : lq (5 : Int32).toInt 5); omega)
    refine va_iald hx hb hK.1 hP 1 0 rfl rfl (rg_in h_303 (by decide) (by decide)) dX12_holds_243 ?_
    refine lv_topi (fun x_305 ex_305 => ?_)
    refine lv_goto (tgt := 286) hx hb dX12_holds_244 (by decide) ?_
    exact J286_153 x_188 x_198 x_305 h_189 H locs ls (oPsub hP [0, 1] rfl) (hD.sub [0, 1] (by decide) rfl) hS (lv_sub hl [4, 3, 1] rfl)
set_option maxHeartbeats 4000000 in
set_option maxRecDepth 100000 in
theorem s_X12_holds_31 (l : Launch) (D : va_G) (ca : Nat → ClassId) (sz : Nat) (h0 : Nat) (a1 : Int32) (a2 : Int32) (h0_thrown : Int32) (h0_tape : Nat) (h0_taped : Int32) (h0_size : Int32) (h0_limit : Int32) (h0_to : Int32) (h0_from : Int32) (h0_kind : Int32) (h0_number : Int32) (h0_sign : Int32) (h0_fault : Int32) (h0_place : Int32) (h0_word : Int64) (h0_told : Int32) (h0_now : Nat) (h0_read : Nat) (h0_kept : Nat) (h0_snaps : Nat) (h0_aside : Nat) (h0_name : Nat) (h0_readName : Nat) (h0_keptName : Nat) (h0_isKept : Nat) (h0_onces : Nat) (h0_snapMany : Int32) (h0_lowest : Int32) (h0_highest : Int32) (h0_agreed : Int32) (h0_jurors : Int32) (h0_panelled : Int32) (h0_inSets : Nat) (h0_surely : Int32) (h0_asked : Int32) (h0_frees : Nat) (h0_struck : Int32) (h0_beating : Int32) (h0_text : Nat) (h0_texts : Int32) (h0_seed : Int32) (h0_line : Nat) (h0_written : Nat) (h0_lineMany : Int32) (h0_hasWritten : Int32) (h0_node : Nat) (h0_nodes : Int32) (h0_onesMany : Int32) (h0_within : Int32) (h0_top : Int32) (F_h0_now : Nat → Int32) (i_a1 : rg 0 30 a1) (i_a2 : rg 0 9 a2) (i_h0_taped : rg 0 940 h0_taped) (i_h0_size : rg 0 940 h0_size) (i_h0_to : rg 0 940 h0_to) (i_h0_kind : rg 0 4 h0_kind) (i_h0_snapMany : rg 0 8 h0_snapMany) (i_h0_texts : rg 0 64 h0_texts) (i_h0_lineMany : rg 0 40 h0_lineMany) (i_h0_hasWritten : rg 0 1 h0_hasWritten) (i_h0_nodes : rg 0 60 h0_nodes) (i_h0_onesMany : rg 0 20 h0_onesMany) (s_h0_now_0 : sg 0 1 0 10 F_h0_now) (s_h0_now_1 : sg 1 2 0 4 F_h0_now) (s_h0_now_2 : sg 2 3 0 5 F_h0_now) (s_h0_now_3 : sg 35 36 0 1023 F_h0_now) (s_h0_now_4 : sg 44 49 0 3 F_h0_now) (s_h0_now_5 : sg 90 91 0 1023 F_h0_now) (s_h0_now_6 : sg 124 129 0 1023 F_h0_now) (s_h0_now_7 : sg 135 136 0 39 F_h0_now) (cu_tokw : tokb 136 F_h0_now) : oMet l yX12_holds wsX12_holds ({ frames := 35, cells := 0, slots := 0, locals := 927 } : Room) [.ref h0, .int a1, .int a2] D ca sz [(h0, .inr (11, [.int h0_thrown, .ref h0_tape, .int h0_taped, .int h0_size, .int h0_limit, .int h0_to, .int h0_from, .int h0_kind, .int h0_number, .int h0_sign, .int h0_fault, .int h0_place, .long h0_word, .int h0_told, .ref h0_now, .ref h0_read, .ref h0_kept, .ref h0_snaps, .ref h0_aside, .ref h0_name, .ref h0_readName, .ref h0_keptName, .ref h0_isKept, .ref h0_onces, .int h0_snapMany, .int h0_lowest, .int h0_highest, .int h0_agreed, .int h0_jurors, .int h0_panelled, .ref h0_inSets, .int h0_surely, .int h0_asked, .ref h0_frees, .int h0_struck, .int h0_beating, .ref h0_text, .int h0_texts, .int h0_seed, .ref h0_line, .ref h0_written, .int h0_lineMany, .int h0_hasWritten, .ref h0_node, .int h0_nodes, .int h0_onesMany, .int h0_within, .int h0_top])), (aI ca h0_now 376 F_h0_now)] (oQi D (fun (r : Int32) (u : Int32 × Int32) => ((r = 0)) ∨ ((r = 1))) (fun (u : Int32 × Int32) => [(h0, .inr (11, [.int h0_thrown, .ref h0_tape, .int h0_taped, .int h0_size, .int h0_limit, .int h0_to, .int h0_from, .int h0_kind, .int h0_number, .int h0_sign, .int h0_fault, .int h0_place, .long h0_word, .int h0_told, .ref h0_now, .ref h0_read, .ref h0_kept, .ref h0_snaps, .ref h0_aside, .ref h0_name, .ref h0_readName, .ref h0_keptName, .ref h0_isKept, .ref h0_onces, .int h0_snapMany, .int u.1, .int u.2, .int h0_agreed, .int h0_jurors, .int h0_panelled, .ref h0_inSets, .int h0_surely, .int h0_asked, .ref h0_frees, .int h0_struck, .int h0_beating, .ref h0_text, .int h0_texts, .int h0_seed, .ref h0_line, .ref h0_written, .int h0_lineMany, .int h0_hasWritten, .ref h0_node, .int h0_nodes, .int h0_onesMany, .int h0_within, .int h0_top])), (aI ca h0_now 376 F_h0_now)])) 0 0 := by
  refine oM (cc := cX12_holds) (maxL := 8) (ret := (some .boolean)) (by decide) rfl (Nat.le_of_ble_eq_true rfl) [(0, .ref h0), (1, .int a1), (2, .int a2)] rfl ?_
  intro p e s m below meth c A H locs ls hx hb hr hml hts hown hlocks hin hK hP hD hA hS hl
  have hown : s.vm.findClass RX12 = some m.cls := hown
  have k1 := hts (.fieldLink RX12 98 "LidCourtModel" "now" "[I") (by decide +kernel)
  have k2 : ∀ w ∈ wsX120, w ∈ wsX12_holds := fun _ h => List.mem_cons_of_mem _ (List.mem_append_right _ h)
  have J286_153 : ∀ (y286_0 : Int32) (y286_1 : Int32) (y286_2 : Int32), rg 136 256 y286_0 → ∀ (H : Heap) (locs : List Loc) (ls : Array Slot), va_P D vwCl [(h0, .inr (11, [.int h0_thrown, .ref h0_tape, .int h0_taped, .int h0_size, .int h0_limit, .int h0_to, .int h0_from, .int h0_kind, .int h0_number, .int h0_sign, .int h0_fault, .int h0_place, .long h0_word, .int h0_told, .ref h0_now, .ref h0_read, .ref h0_kept, .ref h0_snaps, .ref h0_aside, .ref h0_name, .ref h0_readName, .ref h0_keptName, .ref h0_isKept, .ref h0_onces, .int h0_snapMany, .int h0_lowest, .int h0_highest, .int h0_agreed, .int h0_jurors, .int h0_panelled, .ref h0_inSets, .int h0_surely, .int h0_asked, .ref h0_frees, .int h0_struck, .int h0_beating, .ref h0_text, .int h0_texts, .int h0_seed, .ref h0_line, .ref h0_written, .int h0_lineMany, .int h0_hasWritten, .ref h0_node, .int h0_nodes, .int h0_onesMany, .int h0_within, .int h0_top])), (aI ca h0_now 376 F_h0_now)] H → va_D A [(h0, .inr (11, [.int h0_thrown, .ref h0_tape, .int h0_taped, .int h0_size, .int h0_limit, .int h0_to, .int h0_from, .int h0_kind, .int h0_number, .int h0_sign, .int h0_fault, .int h0_place, .long h0_word, .int h0_told, .ref h0_now, .ref h0_read, .ref h0_kept, .ref h0_snaps, .ref h0_aside, .ref h0_name, .ref h0_readName, .ref h0_keptName, .ref h0_isKept, .ref h0_onces, .int h0_snapMany, .int h0_lowest, .int h0_highest, .int h0_agreed, .int h0_jurors, .int h0_panelled, .ref h0_inSets, .int h0_surely, .int h0_asked, .ref h0_frees, .int h0_struck, .int h0_beating, .ref h0_text, .int h0_texts, .int h0_seed, .ref h0_line, .ref h0_written, .int h0_lineMany, .int h0_hasWritten, .ref h0_node, .int h0_nodes, .int h0_onesMany, .int h0_within, .int h0_top])), (aI ca h0_now 376 F_h0_now)] → va_S A s.heap H locs → lv_has ls 8 [(0, .ref h0), (3, .int y286_0), (5, .int y286_1)] → W p l e ({ frames := 35, cells := 0, slots := 0, locals := 927 } : Room) s m ([.ref h0, .int a1, .int a2] : List Value).toArray below meth c H locs 0 0 (MQ below ((oQi D (fun (r : Int32) (u : Int32 × Int32) => ((r = 0)) ∨ ((r = 1))) (fun (u : Int32 × Int32) => [(h0, .inr (11, [.int h0_thrown, .ref h0_tape, .int h0_taped, .int h0_size, .int h0_limit, .int h0_to, .int h0_from, .int h0_kind, .int h0_number, .int h0_sign, .int h0_fault, .int h0_place, .long h0_word, .int h0_told, .ref h0_now, .ref h0_read, .ref h0_kept, .ref h0_snaps, .ref h0_aside, .ref h0_name, .ref h0_readName, .ref h0_keptName, .ref h0_isKept, .ref h0_onces, .int h0_snapMany, .int u.1, .int u.2, .int h0_agreed, .int h0_jurors, .int h0_panelled, .ref h0_inSets, .int h0_surely, .int h0_asked, .ref h0_frees, .int h0_struck, .int h0_beating, .ref h0_text, .int h0_texts, .int h0_seed, .ref h0_line, .ref h0_written, .int h0_lineMany, .int h0_hasWritten, .ref h0_node, .int h0_nodes, .int h0_onesMany, .int h0_within, .int h0_top])), (aI ca h0_now 376 F_h0_now)])) A) ([.ref h0, .int a1, .int a2] : List Value).toArray s 0 0 A) (F0 m 286 ls [.int y286_2]) := by
    intro y286_0 y286_1 y286_2 hy286_0 H locs ls hP hD hS hl
    refine lv_istore (lv' := [(7, .int y286_2), (0, .ref h0), (3, .int y286_0), (5, .int y286_1)]) hx hb dX12_holds_286 hl (by decide) rfl (fun ls hl => ?_)
    refine lv_aload_n hx hb dX12_holds_288 rfl (lv_at hl 1 rfl) ?_
    refine va_get (D := D) (ci := 11) (v := .ref h0_now) (C := RX12) (T := TX12) (N := 48) hx hb hts k2 hown hK.1 hP 0 rfl rfl 14 (by decide) k1 (fun _ h9 => h9) rfl dX12_holds_289 ?_
    refine lv_iload_n hx hb dX12_holds_292 rfl (lv_at hl 2 rfl) ?_
    refine lv_iconst (v := 3) hx hb dX12_holds_293 (by decide) ?_
    refine lv_iadd hx hb dX12_holds_294 ?_
    refine lv_topi (fun x_154 ex_154 => ?_)
    have h_155 : rg 139 259 x_154 := by rw [ex_154]; exact rg_add hy286_0 (⟨by decide, by decide⟩ : rg 3 3 (3 : Int32)) (by decide) (by decide) (by decide) (by decide)
    have l_156 : lq x_154.toInt (y286_0.toInt + 3) := lqm (by rw [ex_154]; have q := tadd hy286_0 (⟨by decide, by decide⟩ : rg 3 3 (3 : Int32)) (by decide) (by decide); have r1 := lqe (lqm (by decide) : lq (3 : Int32).toInt 3); omega)
    refine va_iald hx hb hK.1 hP 1 0 rfl rfl (rg_in h_155 (by decide) (by decide)) dX12_holds_295 ?_
    refine lv_topi (fun x_157 ex_157 => ?_)
    refine lv_bipush (v := 60) hx hb dX12_holds_296 (by decide) ?_
    refine lv_icmp_ne (tgt := 316) hx hb dX12_holds_298 (by decide) (fun c_158 => ?_) (fun c_158 => ?_)
    · skip
      refine lv_aload_n hx hb dX12_holds_316 rfl (lv_at hl 1 rfl) ?_
      refine va_get (D := D) (ci := 11) (v := .ref h0_now) (C := RX12) (T := TX12) (N := 48) hx hb hts k2 hown hK.1 hP 0 rfl rfl 14 (by decide) k1 (fun _ h9 => h9) rfl dX12_holds_317 ?_
      refine lv_iload_n hx hb dX12_holds_320 rfl (lv_at hl 2 rfl) ?_
      refine lv_iconst (v := 3) hx hb dX12_holds_321 (by decide) ?_
      refine lv_iadd hx hb dX12_holds_322 ?_
      refine lv_topi (fun x_159 ex_159 => ?_)
      have h_160 : rg 139 259 x_159 := by rw [ex_159]; exact rg_add hy286_0 (⟨by decide, by decide⟩ : rg 3 3 (3 : Int32)) (by decide) (by decide) (by decide) (by decide)
      have l_161 : lq x_159.toInt (y286_0.toInt + 3) := lqm (by rw [ex_159]; have q := tadd hy286_0 (⟨by decide, by decide⟩ : rg 3 3 (3 : Int32)) (by decide) (by decide); have r1 := lqe (lqm (by decide) : lq (3 : Int32).toInt 3); omega)
      refine va_iald hx hb hK.1 hP 1 0 rfl rfl (rg_in h_160 (by decide) (by decide)) dX12_holds_323 ?_
      refine lv_topi (fun x_162 ex_162 => ?_)
      refine lv_bipush (v := 61) hx hb dX12_holds_324 (by decide) ?_
      refine lv_icmp_ne (tgt := 344) hx hb dX12_holds_326 (by decide) (fun c_163 => ?_) (fun c_163 => ?_)
      · skip
        refine lv_iload hx hb dX12_holds_344 (lv_at hl 0 rfl) ?_
        refine lv_iload hx hb dX12_holds_346 (lv_at hl 3 rfl) ?_
        refine lv_icmp_le (tgt := 355) hx hb dX12_holds_348 (by decide) (fun c_164 => ?_) (fun c_164 => ?_)
        · skip
          have o_165 : rl 0 y286_2 y286_1 := rl_le c_164
          refine lv_iconst (v := 0) hx hb dX12_holds_355 (by decide) ?_
          exact oE_i hx hb hr (by decide) hlocks hP hD hS (h0_lowest, h0_highest) [0, 1] rfl (by decide) (Or.inl rfl) (Nat.le_of_ble_eq_true rfl) (Nat.le_of_ble_eq_true rfl) dX12_holds_356
        · skip
          have o_166 : rl 1 y286_1 y286_2 := rl_nle c_164
          have h_167 : rg (-2147483648) 2147483646 y286_1 := rl_x o_166 (rga y286_1) (rga y286_2) (by decide) (by decide)
          have h_168 : rg (-2147483647) 2147483647 y286_2 := rl_y o_166 (rga y286_1) (rga y286_2) (by decide) (by decide)
          refine lv_iconst (v := 1) hx hb dX12_holds_351 (by decide) ?_
          refine lv_goto (tgt := 356) hx hb dX12_holds_352 (by decide) ?_
          exact oE_i hx hb hr (by decide) hlocks hP hD hS (h0_lowest, h0_highest) [0, 1] rfl (by decide) (Or.inr (rfl)) (Nat.le_of_ble_eq_true rfl) (Nat.le_of_ble_eq_true rfl) dX12_holds_356
      · skip
        have o_169 : rl 0 x_162 61 := rl_eq c_163
        have h_170 : rg (-2147483648) 61 x_162 := rl_x o_169 (rga x_162) (⟨by decide, by decide⟩ : rg 61 61 (61 : Int32)) (by decide) (by decide)
        have o_171 : rl 0 61 x_162 := rl_eq c_163.symm
        have h_172 : rg 61 61 x_162 := rl_y o_171 (⟨by decide, by decide⟩ : rg 61 61 (61 : Int32)) h_170 (by decide) (by decide)
        refine lv_iload hx hb dX12_holds_329 (lv_at hl 0 rfl) ?_
        refine lv_iload hx hb dX12_holds_331 (lv_at hl 3 rfl) ?_
        refine lv_icmp_ne (tgt := 340) hx hb dX12_holds_333 (by decide) (fun c_173 => ?_) (fun c_173 => ?_)
        · skip
          refine lv_iconst (v := 0) hx hb dX12_holds_340 (by decide) ?_
          refine lv_goto (tgt := 356) hx hb dX12_holds_341 (by decide) ?_
          exact oE_i hx hb hr (by decide) hlocks hP hD hS (h0_lowest, h0_highest) [0, 1] rfl (by decide) (Or.inl rfl) (Nat.le_of_ble_eq_true rfl) (Nat.le_of_ble_eq_true rfl) dX12_holds_356
        · skip
          have o_174 : rl 0 y286_2 y286_1 := rl_eq c_173
          have o_175 : rl 0 y286_1 y286_2 := rl_eq c_173.symm
          refine lv_iconst (v := 1) hx hb dX12_holds_336 (by decide) ?_
          refine lv_goto (tgt := 356) hx hb dX12_holds_337 (by decide) ?_
          exact oE_i hx hb hr (by decide) hlocks hP hD hS (h0_lowest, h0_highest) [0, 1] rfl (by decide) (Or.inr (rfl)) (Nat.le_of_ble_eq_true rfl) (Nat.le_of_ble_eq_true rfl) dX12_holds_356
    · skip
      have o_176 : rl 0 x_157 60 := rl_eq c_158
      have h_177 : rg (-2147483648) 60 x_157 := rl_x o_176 (rga x_157) (⟨by decide, by decide⟩ : rg 60 60 (60 : Int32)) (by decide) (by decide)
      have o_178 : rl 0 60 x_157 := rl_eq c_158.symm
      have h_179 : rg 60 60 x_157 := rl_y o_178 (⟨by decide, by decide⟩ : rg 60 60 (60 : Int32)) h_177 (by decide) (by decide)
      refine lv_iload hx hb dX12_holds_301 (lv_at hl 0 rfl) ?_
      refine lv_iload hx hb dX12_holds_303 (lv_at hl 3 rfl) ?_
      refine lv_icmp_ge (tgt := 312) hx hb dX12_holds_305 (by decide) (fun c_180 => ?_) (fun c_180 => ?_)
      · skip
        have o_181 : rl 0 y286_1 y286_2 := rl_le c_180
        refine lv_iconst (v := 0) hx hb dX12_holds_312 (by decide) ?_
        refine lv_goto (tgt := 356) hx hb dX12_holds_313 (by decide) ?_
        exact oE_i hx hb hr (by decide) hlocks hP hD hS (h0_lowest, h0_highest) [0, 1] rfl (by decide) (Or.inl rfl) (Nat.le_of_ble_eq_true rfl) (Nat.le_of_ble_eq_true rfl) dX12_holds_356
      · skip
        have o_182 : rl 1 y286_2 y286_1 := rl_nle c_180
        have h_183 : rg (-2147483648) 2147483646 y286_2 := rl_x o_182 (rga y286_2) (rga y286_1) (by decide) (by decide)
        have h_184 : rg (-2147483647) 2147483647 y286_1 := rl_y o_182 (rga y286_2) (rga y286_1) (by decide) (by decide)
        refine lv_iconst (v := 1) hx hb dX12_holds_308 (by decide) ?_
        refine lv_goto (tgt := 356) hx hb dX12_holds_309 (by decide) ?_
        exact oE_i hx hb hr (by decide) hlocks hP hD hS (h0_lowest, h0_highest) [0, 1] rfl (by decide) (Or.inr (rfl)) (Nat.le_of_ble_eq_true rfl) (Nat.le_of_ble_eq_true rfl) dX12_holds_356
  refine lv_sipush (v := 136) hx hb dX12_holds_0 (by decide) ?_
  refine lv_iconst (v := 4) hx hb dX12_holds_3 (by decide) ?_
  refine lv_iload_n hx hb dX12_holds_4 rfl (lv_at hl 1 rfl) ?_
  refine lv_imul hx hb dX12_holds_5 ?_
  refine lv_topi (fun x_185 ex_185 => ?_)
  have h_186 : rg 0 120 x_185 := by rw [ex_185]; exact rg_mul' (k := 4) i_a1 (by decide) (by decide) (by decide) (by decide) (by decide) (by decide)
  have l_187 : lq x_185.toInt (4 * a1.toInt) := lqm (by rw [ex_185]; have q := tmul' (k := 4) (y := 4) i_a1 (by decide) (by decide) (by decide) (by decide); omega)
  refine lv_iadd hx hb dX12_holds_6 ?_
  refine lv_topi (fun x_188 ex_188 => ?_)
  have h_189 : rg 136 256 x_188 := by rw [ex_188]; exact rg_add (⟨by decide, by decide⟩ : rg 136 136 (136 : Int32)) h_186 (by decide) (by decide) (by decide) (by decide)
  have l_190 : lq x_188.toInt (4 * a1.toInt + 136) := lqm (by rw [ex_188]; have q := tadd (⟨by decide, by decide⟩ : rg 136 136 (136 : Int32)) h_186 (by decide) (by decide); have r0 := lqe (lqm (by decide) : lq (136 : Int32).toInt 136); have r1 := lqe l_187; omega)
  refine lv_istore_n (lv' := [(3, .int x_188), (0, .ref h0), (1, .int a1), (2, .int a2)]) hx hb dX12_holds_7 rfl hl (by decide) rfl (fun ls hl => ?_)
  refine lv_aload_n hx hb dX12_holds_8 rfl (lv_at hl 1 rfl) ?_
  refine va_get (D := D) (ci := 11) (v := .ref h0_now) (C := RX12) (T := TX12) (N := 48) hx hb hts k2 hown hK.1 hP 0 rfl rfl 14 (by decide) k1 (fun _ h9 => h9) rfl dX12_holds_9 ?_
  refine lv_iload_n hx hb dX12_holds_12 rfl (lv_at hl 0 rfl) ?_
  refine lv_iconst (v := 1) hx hb dX12_holds_13 (by decide) ?_
  refine lv_iadd hx hb dX12_holds_14 ?_
  refine lv_topi (fun x_191 ex_191 => ?_)
  have h_192 : rg 137 257 x_191 := by rw [ex_191]; exact rg_add h_189 (⟨by decide, by decide⟩ : rg 1 1 (1 : Int32)) (by decide) (by decide) (by decide) (by decide)
  have l_193 : lq x_191.toInt (4 * a1.toInt + 137) := lqm (by rw [ex_191]; have q := tadd h_189 (⟨by decide, by decide⟩ : rg 1 1 (1 : Int32)) (by decide) (by decide); have r0 := lqe l_190; have r1 := lqe (lqm (by decide) : lq (1 : Int32).toInt 1); omega)
  refine va_iald hx hb hK.1 hP 1 0 rfl rfl (rg_in h_192 (by decide) (by decide)) dX12_holds_15 ?_
  refine lv_topi (fun x_194 ex_194 => ?_)
  refine lv_istore (lv' := [(4, .int x_194), (3, .int x_188), (0, .ref h0), (1, .int a1), (2, .int a2)]) hx hb dX12_holds_16 hl (by decide) rfl (fun ls hl => ?_)
  refine lv_aload_n hx hb dX12_holds_18 rfl (lv_at hl 2 rfl) ?_
  refine va_get (D := D) (ci := 11) (v := .ref h0_now) (C := RX12) (T := TX12) (N := 48) hx hb hts k2 hown hK.1 hP 0 rfl rfl 14 (by decide) k1 (fun _ h9 => h9) rfl dX12_holds_19 ?_
  refine lv_iload_n hx hb dX12_holds_22 rfl (lv_at hl 1 rfl) ?_
  refine lv_iconst (v := 2) hx hb dX12_holds_23 (by decide) ?_
  refine lv_iadd hx hb dX12_holds_24 ?_
  refine lv_topi (fun x_195 ex_195 => ?_)
  have h_196 : rg 138 258 x_195 := by rw [ex_195]; exact rg_add h_189 (⟨by decide, by decide⟩ : rg 2 2 (2 : Int32)) (by decide) (by decide) (by decide) (by decide)
  have l_197 : lq x_195.toInt (4 * a1.toInt + 138) := lqm (by rw [ex_195]; have q := tadd h_189 (⟨by decide, by decide⟩ : rg 2 2 (2 : Int32)) (by decide) (by decide); have r0 := lqe l_190; have r1 := lqe (lqm (by decide) : lq (2 : Int32).toInt 2); omega)
  refine va_iald hx hb hK.1 hP 1 0 rfl rfl (rg_in h_196 (by decide) (by decide)) dX12_holds_25 ?_
  refine lv_topi (fun x_198 ex_198 => ?_)
  refine lv_istore (lv' := [(5, .int x_198), (4, .int x_194), (3, .int x_188), (0, .ref h0), (1, .int a1), (2, .int a2)]) hx hb dX12_holds_26 hl (by decide) rfl (fun ls hl => ?_)
  refine lv_aload_n hx hb dX12_holds_28 rfl (lv_at hl 3 rfl) ?_
  refine va_get (D := D) (ci := 11) (v := .ref h0_now) (C := RX12) (T := TX12) (N := 48) hx hb hts k2 hown hK.1 hP 0 rfl rfl 14 (by decide) k1 (fun _ h9 => h9) rfl dX12_holds_29 ?_
  refine lv_iload_n hx hb dX12_holds_32 rfl (lv_at hl 2 rfl) ?_
  refine va_iald hx hb hK.1 hP 1 0 rfl rfl (rg_in h_189 (by decide) (by decide)) dX12_holds_33 ?_
  refine lv_topi (fun x_199 ex_199 => ?_)
  have ht := tokb_at cu_tokw i_a1 (by decide) (by decide) ex_199 ex_194 ex_198 l_190 l_193 l_197
  by_cases c_200 : x_199 = 1
  · skip
    refine oti 1 c_200 ?_
    refine lv_lookup (off := 66) (tgt := 100) hx hb dX12_holds_34 (by decide) (by decide) (by decide) ?_
    have h_201 : rg 0 29 x_194 := by have q := rg_cl i_a1 (by decide); have q1 := i_a1.2; have q2 := ht.1 c_200; exact ⟨by omega, by omega⟩
    refine lv_aload_n hx hb dX12_holds_100 rfl (lv_at hl 3 rfl) ?_
    refine lv_iload hx hb dX12_holds_101 (lv_at hl 1 rfl) ?_
    refine lv_iload_n hx hb dX12_holds_103 rfl (lv_at hl 5 rfl) ?_
    refine oC_i (Wc := [(h0, .inr (11, [.int h0_thrown, .ref h0_tape, .int h0_taped, .int h0_size, .int h0_limit, .int h0_to, .int h0_from, .int h0_kind, .int h0_number, .int h0_sign, .int h0_fault, .int h0_place, .long h0_word, .int h0_told, .ref h0_now, .ref h0_read, .ref h0_kept, .ref h0_snaps, .ref h0_aside, .ref h0_name, .ref h0_readName, .ref h0_keptName, .ref h0_isKept, .ref h0_onces, .int h0_snapMany, .int h0_lowest, .int h0_highest, .int h0_agreed, .int h0_jurors, .int h0_panelled, .ref h0_inSets, .int h0_surely, .int h0_asked, .ref h0_frees, .int h0_struck, .int h0_beating, .ref h0_text, .int h0_texts, .int h0_seed, .ref h0_line, .ref h0_written, .int h0_lineMany, .int h0_hasWritten, .ref h0_node, .int h0_nodes, .int h0_onesMany, .int h0_within, .int h0_top])), (aI ca h0_now 376 F_h0_now)]) (Wr := []) (va_runV (As := [.int x_194, .int a2]) (rest := []) ⟨hx, hb, hml, hown, hts⟩ (s_X12_holds_30 l D ca H.size h0 x_194 a2 h0_thrown h0_tape h0_taped h0_size h0_limit h0_to h0_from h0_kind h0_number h0_sign h0_fault h0_place h0_word h0_told h0_now h0_read h0_kept h0_snaps h0_aside h0_name h0_readName h0_keptName h0_isKept h0_onces h0_snapMany h0_lowest h0_highest h0_agreed h0_jurors h0_panelled h0_inSets h0_surely h0_asked h0_frees h0_struck h0_beating h0_text h0_texts h0_seed h0_line h0_written h0_lineMany h0_hasWritten h0_node h0_nodes h0_onesMany h0_within h0_top F_h0_now h_201 i_a2 i_h0_taped i_h0_size i_h0_to i_h0_kind i_h0_snapMany i_h0_texts i_h0_lineMany i_h0_hasWritten i_h0_nodes i_h0_onesMany s_h0_now_0 s_h0_now_1 s_h0_now_2 s_h0_now_3 s_h0_now_4 s_h0_now_5 s_h0_now_6 s_h0_now_7 cu_tokw) (cwV 2 hts gX12_holds_X12_holds rfl rfl rfl (by decide +kernel) ⟨Nat.le_of_ble_eq_true rfl, Nat.le_of_ble_eq_true rfl⟩) (oPV (C := RX12) hK hP hD [0, 1] rfl (by decide) 0 rfl (ci := 11) rfl rfl) rfl rfl hl.1 rfl (lv_room (Nat.le_of_ble_eq_true rfl)) dX12_holds_104 ⟨Nat.le_of_ble_eq_true rfl, Nat.le_of_ble_eq_true rfl⟩) hP hD hS hA [0, 1] [] rfl rfl (by decide) (by decide) (fun r_202 u H locs w_203 hP hD hS => ?_)
    obtain ⟨u_204, u_205⟩ := u
    have hP : va_P D vwCl [(h0, .inr (11, [.int h0_thrown, .ref h0_tape, .int h0_taped, .int h0_size, .int h0_limit, .int h0_to, .int h0_from, .int h0_kind, .int h0_number, .int h0_sign, .int h0_fault, .int h0_place, .long h0_word, .int h0_told, .ref h0_now, .ref h0_read, .ref h0_kept, .ref h0_snaps, .ref h0_aside, .ref h0_name, .ref h0_readName, .ref h0_keptName, .ref h0_isKept, .ref h0_onces, .int h0_snapMany, .int u_204, .int u_205, .int h0_agreed, .int h0_jurors, .int h0_panelled, .ref h0_inSets, .int h0_surely, .int h0_asked, .ref h0_frees, .int h0_struck, .int h0_beating, .ref h0_text, .int h0_texts, .int h0_seed, .ref h0_line, .ref h0_written, .int h0_lineMany, .int h0_hasWritten, .ref h0_node, .int h0_nodes, .int h0_onesMany, .int h0_within, .int h0_top])), (aI ca h0_now 376 F_h0_now)] H := hP
    have hD : va_D A [(h0, .inr (11, [.int h0_thrown, .ref h0_tape, .int h0_taped, .int h0_size, .int h0_limit, .int h0_to, .int h0_from, .int h0_kind, .int h0_number, .int h0_sign, .int h0_fault, .int h0_place, .long h0_word, .int h0_told, .ref h0_now, .ref h0_read, .ref h0_kept, .ref h0_snaps, .ref h0_aside, .ref h0_name, .ref h0_readName, .ref h0_keptName, .ref h0_isKept, .ref h0_onces, .int h0_snapMany, .int u_204, .int u_205, .int h0_agreed, .int h0_jurors, .int h0_panelled, .ref h0_inSets, .int h0_surely, .int h0_asked, .ref h0_frees, .int h0_struck, .int h0_beating, .ref h0_text, .int h0_texts, .int h0_seed, .ref h0_line, .ref h0_written, .int h0_lineMany, .int h0_hasWritten, .ref h0_node, .int h0_nodes, .int h0_onesMany, .int h0_within, .int h0_top])), (aI ca h0_now 376 F_h0_now)] := hD
    try dsimp only at w_203
    rcases w_203 with h_206 | h_207
    · skip
      subst h_206
      refine lv_if_ne (tgt := 114) hx hb dX12_holds_107 (by decide) (fun _ => ?_) (fun c => absurd c (by decide))
      refine lv_iconst (v := 0) hx hb dX12_holds_114 (by decide) ?_
      exact oE_i hx hb hr (by decide) hlocks hP hD hS (u_204, u_205) [0, 1] rfl (by decide) (Or.inl rfl) (Nat.le_of_ble_eq_true rfl) (Nat.le_of_ble_eq_true rfl) dX12_holds_115
    · skip
      subst h_207
      refine lv_if_ne (tgt := 114) hx hb dX12_holds_107 (by decide) (fun c => absurd (by decide) c) (fun _ => ?_)
      refine lv_iconst (v := 1) hx hb dX12_holds_110 (by decide) ?_
      refine lv_goto (tgt := 115) hx hb dX12_holds_111 (by decide) ?_
      exact oE_i hx hb hr (by decide) hlocks hP hD hS (u_204, u_205) [0, 1] rfl (by decide) (Or.inr (rfl)) (Nat.le_of_ble_eq_true rfl) (Nat.le_of_ble_eq_true rfl) dX12_holds_115
  by_cases c_208 : x_199 = 2
  · skip
    refine oti 2 c_208 ?_
    refine lv_lookup (off := 82) (tgt := 116) hx hb dX12_holds_34 (by decide) (by decide) (by decide) ?_
    have h_209 : rg 0 29 x_194 := by have q := rg_cl i_a1 (by decide); have q1 := i_a1.2; have q2 := (ht.2.1 (Or.inl c_208)).1; exact ⟨by omega, by omega⟩
    have h_210 : rg 0 29 x_198 := by have q := rg_cl i_a1 (by decide); have q1 := i_a1.2; have q2 := (ht.2.1 (Or.inl c_208)).2; exact ⟨by omega, by omega⟩
    refine lv_aload_n hx hb dX12_holds_116 rfl (lv_at hl 3 rfl) ?_
    refine lv_iload hx hb dX12_holds_117 (lv_at hl 1 rfl) ?_
    refine lv_iload_n hx hb dX12_holds_119 rfl (lv_at hl 5 rfl) ?_
    refine oC_i (Wc := [(h0, .inr (11, [.int h0_thrown, .ref h0_tape, .int h0_taped, .int h0_size, .int h0_limit, .int h0_to, .int h0_from, .int h0_kind, .int h0_number, .int h0_sign, .int h0_fault, .int h0_place, .long h0_word, .int h0_told, .ref h0_now, .ref h0_read, .ref h0_kept, .ref h0_snaps, .ref h0_aside, .ref h0_name, .ref h0_readName, .ref h0_keptName, .ref h0_isKept, .ref h0_onces, .int h0_snapMany, .int h0_lowest, .int h0_highest, .int h0_agreed, .int h0_jurors, .int h0_panelled, .ref h0_inSets, .int h0_surely, .int h0_asked, .ref h0_frees, .int h0_struck, .int h0_beating, .ref h0_text, .int h0_texts, .int h0_seed, .ref h0_line, .ref h0_written, .int h0_lineMany, .int h0_hasWritten, .ref h0_node, .int h0_nodes, .int h0_onesMany, .int h0_within, .int h0_top])), (aI ca h0_now 376 F_h0_now)]) (Wr := []) (va_runV (As := [.int x_194, .int a2]) (rest := []) ⟨hx, hb, hml, hown, hts⟩ (s_X12_holds_30 l D ca H.size h0 x_194 a2 h0_thrown h0_tape h0_taped h0_size h0_limit h0_to h0_from h0_kind h0_number h0_sign h0_fault h0_place h0_word h0_told h0_now h0_read h0_kept h0_snaps h0_aside h0_name h0_readName h0_keptName h0_isKept h0_onces h0_snapMany h0_lowest h0_highest h0_agreed h0_jurors h0_panelled h0_inSets h0_surely h0_asked h0_frees h0_struck h0_beating h0_text h0_texts h0_seed h0_line h0_written h0_lineMany h0_hasWritten h0_node h0_nodes h0_onesMany h0_within h0_top F_h0_now h_209 i_a2 i_h0_taped i_h0_size i_h0_to i_h0_kind i_h0_snapMany i_h0_texts i_h0_lineMany i_h0_hasWritten i_h0_nodes i_h0_onesMany s_h0_now_0 s_h0_now_1 s_h0_now_2 s_h0_now_3 s_h0_now_4 s_h0_now_5 s_h0_now_6 s_h0_now_7 cu_tokw) (cwV 2 hts gX12_holds_X12_holds rfl rfl rfl (by decide +kernel) ⟨Nat.le_of_ble_eq_true rfl, Nat.le_of_ble_eq_true rfl⟩) (oPV (C := RX12) hK hP hD [0, 1] rfl (by decide) 0 rfl (ci := 11) rfl rfl) rfl rfl hl.1 rfl (lv_room (Nat.le_of_ble_eq_true rfl)) dX12_holds_120 ⟨Nat.le_of_ble_eq_true rfl, Nat.le_of_ble_eq_true rfl⟩) hP hD hS hA [0, 1] [] rfl rfl (by decide) (by decide) (fun r_211 u H locs w_212 hP hD hS => ?_)
    obtain ⟨u_213, u_214⟩ := u
    have hP : va_P D vwCl [(h0, .inr (11, [.int h0_thrown, .ref h0_tape, .int h0_taped, .int h0_size, .int h0_limit, .int h0_to, .int h0_from, .int h0_kind, .int h0_number, .int h0_sign, .int h0_fault, .int h0_place, .long h0_word, .int h0_told, .ref h0_now, .ref h0_read, .ref h0_kept, .ref h0_snaps, .ref h0_aside, .ref h0_name, .ref h0_readName, .ref h0_keptName, .ref h0_isKept, .ref h0_onces, .int h0_snapMany, .int u_213, .int u_214, .int h0_agreed, .int h0_jurors, .int h0_panelled, .ref h0_inSets, .int h0_surely, .int h0_asked, .ref h0_frees, .int h0_struck, .int h0_beating, .ref h0_text, .int h0_texts, .int h0_seed, .ref h0_line, .ref h0_written, .int h0_lineMany, .int h0_hasWritten, .ref h0_node, .int h0_nodes, .int h0_onesMany, .int h0_within, .int h0_top])), (aI ca h0_now 376 F_h0_now)] H := hP
    have hD : va_D A [(h0, .inr (11, [.int h0_thrown, .ref h0_tape, .int h0_taped, .int h0_size, .int h0_limit, .int h0_to, .int h0_from, .int h0_kind, .int h0_number, .int h0_sign, .int h0_fault, .int h0_place, .long h0_word, .int h0_told, .ref h0_now, .ref h0_read, .ref h0_kept, .ref h0_snaps, .ref h0_aside, .ref h0_name, .ref h0_readName, .ref h0_keptName, .ref h0_isKept, .ref h0_onces, .int h0_snapMany, .int u_213, .int u_214, .int h0_agreed, .int h0_jurors, .int h0_panelled, .ref h0_inSets, .int h0_surely, .int h0_asked, .ref h0_frees, .int h0_struck, .int h0_beating, .ref h0_text, .int h0_texts, .int h0_seed, .ref h0_line, .ref h0_written, .int h0_lineMany, .int h0_hasWritten, .ref h0_node, .int h0_nodes, .int h0_onesMany, .int h0_within, .int h0_top])), (aI ca h0_now 376 F_h0_now)] := hD
    try dsimp only at w_212
    rcases w_212 with h_215 | h_216
    · skip
      subst h_215
      refine lv_if_eq (tgt := 140) hx hb dX12_holds_123 (by decide) (fun c => absurd c (by decide)) (fun _ => ?_)
      refine lv_aload_n hx hb dX12_holds_126 rfl (lv_at hl 3 rfl) ?_
      refine lv_iload hx hb dX12_holds_127 (lv_at hl 0 rfl) ?_
      refine lv_iload_n hx hb dX12_holds_129 rfl (lv_at hl 5 rfl) ?_
      refine oC_i (Wc := [(h0, .inr (11, [.int h0_thrown, .ref h0_tape, .int h0_taped, .int h0_size, .int h0_limit, .int h0_to, .int h0_from, .int h0_kind, .int h0_number, .int h0_sign, .int h0_fault, .int h0_place, .long h0_word, .int h0_told, .ref h0_now, .ref h0_read, .ref h0_kept, .ref h0_snaps, .ref h0_aside, .ref h0_name, .ref h0_readName, .ref h0_keptName, .ref h0_isKept, .ref h0_onces, .int h0_snapMany, .int u_213, .int u_214, .int h0_agreed, .int h0_jurors, .int h0_panelled, .ref h0_inSets, .int h0_surely, .int h0_asked, .ref h0_frees, .int h0_struck, .int h0_beating, .ref h0_text, .int h0_texts, .int h0_seed, .ref h0_line, .ref h0_written, .int h0_lineMany, .int h0_hasWritten, .ref h0_node, .int h0_nodes, .int h0_onesMany, .int h0_within, .int h0_top])), (aI ca h0_now 376 F_h0_now)]) (Wr := []) (va_runV (As := [.int x_198, .int a2]) (rest := []) ⟨hx, hb, hml, hown, hts⟩ (s_X12_holds_30 l D ca H.size h0 x_198 a2 h0_thrown h0_tape h0_taped h0_size h0_limit h0_to h0_from h0_kind h0_number h0_sign h0_fault h0_place h0_word h0_told h0_now h0_read h0_kept h0_snaps h0_aside h0_name h0_readName h0_keptName h0_isKept h0_onces h0_snapMany u_213 u_214 h0_agreed h0_jurors h0_panelled h0_inSets h0_surely h0_asked h0_frees h0_struck h0_beating h0_text h0_texts h0_seed h0_line h0_written h0_lineMany h0_hasWritten h0_node h0_nodes h0_onesMany h0_within h0_top F_h0_now h_210 i_a2 i_h0_taped i_h0_size i_h0_to i_h0_kind i_h0_snapMany i_h0_texts i_h0_lineMany i_h0_hasWritten i_h0_nodes i_h0_onesMany s_h0_now_0 s_h0_now_1 s_h0_now_2 s_h0_now_3 s_h0_now_4 s_h0_now_5 s_h0_now_6 s_h0_now_7 cu_tokw) (cwV 2 hts gX12_holds_X12_holds rfl rfl rfl (by decide +kernel) ⟨Nat.le_of_ble_eq_true rfl, Nat.le_of_ble_eq_true rfl⟩) (oPV (C := RX12) hK hP hD [0, 1] rfl (by decide) 0 rfl (ci := 11) rfl rfl) rfl rfl hl.1 rfl (lv_room (Nat.le_of_ble_eq_true rfl)) dX12_holds_130 ⟨Nat.le_of_ble_eq_true rfl, Nat.le_of_ble_eq_true rfl⟩) hP hD hS hA [0, 1] [] rfl rfl (by decide) (by decide) (fun r_217 u H locs w_218 hP hD hS => ?_)
      obtain ⟨u_219, u_220⟩ := u
      have hP : va_P D vwCl [(h0, .inr (11, [.int h0_thrown, .ref h0_tape, .int h0_taped, .int h0_size, .int h0_limit, .int h0_to, .int h0_from, .int h0_kind, .int h0_number, .int h0_sign, .int h0_fault, .int h0_place, .long h0_word, .int h0_told, .ref h0_now, .ref h0_read, .ref h0_kept, .ref h0_snaps, .ref h0_aside, .ref h0_name, .ref h0_readName, .ref h0_keptName, .ref h0_isKept, .ref h0_onces, .int h0_snapMany, .int u_219, .int u_220, .int h0_agreed, .int h0_jurors, .int h0_panelled, .ref h0_inSets, .int h0_surely, .int h0_asked, .ref h0_frees, .int h0_struck, .int h0_beating, .ref h0_text, .int h0_texts, .int h0_seed, .ref h0_line, .ref h0_written, .int h0_lineMany, .int h0_hasWritten, .ref h0_node, .int h0_nodes, .int h0_onesMany, .int h0_within, .int h0_top])), (aI ca h0_now 376 F_h0_now)] H := hP
      have hD : va_D A [(h0, .inr (11, [.int h0_thrown, .ref h0_tape, .int h0_taped, .int h0_size, .int h0_limit, .int h0_to, .int h0_from, .int h0_kind, .int h0_number, .int h0_sign, .int h0_fault, .int h0_place, .long h0_word, .int h0_told, .ref h0_now, .ref h0_read, .ref h0_kept, .ref h0_snaps, .ref h0_aside, .ref h0_name, .ref h0_readName, .ref h0_keptName, .ref h0_isKept, .ref h0_onces, .int h0_snapMany, .int u_219, .int u_220, .int h0_agreed, .int h0_jurors, .int h0_panelled, .ref h0_inSets, .int h0_surely, .int h0_asked, .ref h0_frees, .int h0_struck, .int h0_beating, .ref h0_text, .int h0_texts, .int h0_seed, .ref h0_line, .ref h0_written, .int h0_lineMany, .int h0_hasWritten, .ref h0_node, .int h0_nodes, .int h0_onesMany, .int h0_within, .int h0_top])), (aI ca h0_now 376 F_h0_now)] := hD
      try dsimp only at w_218
      rcases w_218 with h_221 | h_222
      · skip
        subst h_221
        refine lv_if_eq (tgt := 140) hx hb dX12_holds_133 (by decide) (fun c => absurd c (by decide)) (fun _ => ?_)
        refine lv_iconst (v := 1) hx hb dX12_holds_136 (by decide) ?_
        refine lv_goto (tgt := 141) hx hb dX12_holds_137 (by decide) ?_
        exact oE_i hx hb hr (by decide) hlocks hP hD hS (u_219, u_220) [0, 1] rfl (by decide) (Or.inr (rfl)) (Nat.le_of_ble_eq_true rfl) (Nat.le_of_ble_eq_true rfl) dX12_holds_141
      · skip
        subst h_222
        refine lv_if_eq (tgt := 140) hx hb dX12_holds_133 (by decide) (fun _ => ?_) (fun c => absurd (by decide) c)
        refine lv_iconst (v := 0) hx hb dX12_holds_140 (by decide) ?_
        exact oE_i hx hb hr (by decide) hlocks hP hD hS (u_219, u_220) [0, 1] rfl (by decide) (Or.inl rfl) (Nat.le_of_ble_eq_true rfl) (Nat.le_of_ble_eq_true rfl) dX12_holds_141
    · skip
      subst h_216
      refine lv_if_eq (tgt := 140) hx hb dX12_holds_123 (by decide) (fun _ => ?_) (fun c => absurd (by decide) c)
      refine lv_iconst (v := 0) hx hb dX12_holds_140 (by decide) ?_
      exact oE_i hx hb hr (by decide) hlocks hP hD hS (u_213, u_214) [0, 1] rfl (by decide) (Or.inl rfl) (Nat.le_of_ble_eq_true rfl) (Nat.le_of_ble_eq_true rfl) dX12_holds_141
  by_cases c_223 : x_199 = 3
  · skip
    refine oti 3 c_223 ?_
    refine lv_lookup (off := 108) (tgt := 142) hx hb dX12_holds_34 (by decide) (by decide) (by decide) ?_
    have h_224 : rg 0 29 x_194 := by have q := rg_cl i_a1 (by decide); have q1 := i_a1.2; have q2 := (ht.2.1 (Or.inr c_223)).1; exact ⟨by omega, by omega⟩
    have h_225 : rg 0 29 x_198 := by have q := rg_cl i_a1 (by decide); have q1 := i_a1.2; have q2 := (ht.2.1 (Or.inr c_223)).2; exact ⟨by omega, by omega⟩
    refine lv_aload_n hx hb dX12_holds_142 rfl (lv_at hl 3 rfl) ?_
    refine lv_iload hx hb dX12_holds_143 (lv_at hl 1 rfl) ?_
    refine lv_iload_n hx hb dX12_holds_145 rfl (lv_at hl 5 rfl) ?_
    refine oC_i (Wc := [(h0, .inr (11, [.int h0_thrown, .ref h0_tape, .int h0_taped, .int h0_size, .int h0_limit, .int h0_to, .int h0_from, .int h0_kind, .int h0_number, .int h0_sign, .int h0_fault, .int h0_place, .long h0_word, .int h0_told, .ref h0_now, .ref h0_read, .ref h0_kept, .ref h0_snaps, .ref h0_aside, .ref h0_name, .ref h0_readName, .ref h0_keptName, .ref h0_isKept, .ref h0_onces, .int h0_snapMany, .int h0_lowest, .int h0_highest, .int h0_agreed, .int h0_jurors, .int h0_panelled, .ref h0_inSets, .int h0_surely, .int h0_asked, .ref h0_frees, .int h0_struck, .int h0_beating, .ref h0_text, .int h0_texts, .int h0_seed, .ref h0_line, .ref h0_written, .int h0_lineMany, .int h0_hasWritten, .ref h0_node, .int h0_nodes, .int h0_onesMany, .int h0_within, .int h0_top])), (aI ca h0_now 376 F_h0_now)]) (Wr := []) (va_runV (As := [.int x_194, .int a2]) (rest := []) ⟨hx, hb, hml, hown, hts⟩ (s_X12_holds_30 l D ca H.size h0 x_194 a2 h0_thrown h0_tape h0_taped h0_size h0_limit h0_to h0_from h0_kind h0_number h0_sign h0_fault h0_place h0_word h0_told h0_now h0_read h0_kept h0_snaps h0_aside h0_name h0_readName h0_keptName h0_isKept h0_onces h0_snapMany h0_lowest h0_highest h0_agreed h0_jurors h0_panelled h0_inSets h0_surely h0_asked h0_frees h0_struck h0_beating h0_text h0_texts h0_seed h0_line h0_written h0_lineMany h0_hasWritten h0_node h0_nodes h0_onesMany h0_within h0_top F_h0_now h_224 i_a2 i_h0_taped i_h0_size i_h0_to i_h0_kind i_h0_snapMany i_h0_texts i_h0_lineMany i_h0_hasWritten i_h0_nodes i_h0_onesMany s_h0_now_0 s_h0_now_1 s_h0_now_2 s_h0_now_3 s_h0_now_4 s_h0_now_5 s_h0_now_6 s_h0_now_7 cu_tokw) (cwV 2 hts gX12_holds_X12_holds rfl rfl rfl (by decide +kernel) ⟨Nat.le_of_ble_eq_true rfl, Nat.le_of_ble_eq_true rfl⟩) (oPV (C := RX12) hK hP hD [0, 1] rfl (by decide) 0 rfl (ci := 11) rfl rfl) rfl rfl hl.1 rfl (lv_room (Nat.le_of_ble_eq_true rfl)) dX12_holds_146 ⟨Nat.le_of_ble_eq_true rfl, Nat.le_of_ble_eq_true rfl⟩) hP hD hS hA [0, 1] [] rfl rfl (by decide) (by decide) (fun r_226 u H locs w_227 hP hD hS => ?_)
    obtain ⟨u_228, u_229⟩ := u
    have hP : va_P D vwCl [(h0, .inr (11, [.int h0_thrown, .ref h0_tape, .int h0_taped, .int h0_size, .int h0_limit, .int h0_to, .int h0_from, .int h0_kind, .int h0_number, .int h0_sign, .int h0_fault, .int h0_place, .long h0_word, .int h0_told, .ref h0_now, .ref h0_read, .ref h0_kept, .ref h0_snaps, .ref h0_aside, .ref h0_name, .ref h0_readName, .ref h0_keptName, .ref h0_isKept, .ref h0_onces, .int h0_snapMany, .int u_228, .int u_229, .int h0_agreed, .int h0_jurors, .int h0_panelled, .ref h0_inSets, .int h0_surely, .int h0_asked, .ref h0_frees, .int h0_struck, .int h0_beating, .ref h0_text, .int h0_texts, .int h0_seed, .ref h0_line, .ref h0_written, .int h0_lineMany, .int h0_hasWritten, .ref h0_node, .int h0_nodes, .int h0_onesMany, .int h0_within, .int h0_top])), (aI ca h0_now 376 F_h0_now)] H := hP
    have hD : va_D A [(h0, .inr (11, [.int h0_thrown, .ref h0_tape, .int h0_taped, .int h0_size, .int h0_limit, .int h0_to, .int h0_from, .int h0_kind, .int h0_number, .int h0_sign, .int h0_fault, .int h0_place, .long h0_word, .int h0_told, .ref h0_now, .ref h0_read, .ref h0_kept, .ref h0_snaps, .ref h0_aside, .ref h0_name, .ref h0_readName, .ref h0_keptName, .ref h0_isKept, .ref h0_onces, .int h0_snapMany, .int u_228, .int u_229, .int h0_agreed, .int h0_jurors, .int h0_panelled, .ref h0_inSets, .int h0_surely, .int h0_asked, .ref h0_frees, .int h0_struck, .int h0_beating, .ref h0_text, .int h0_texts, .int h0_seed, .ref h0_line, .ref h0_written, .int h0_lineMany, .int h0_hasWritten, .ref h0_node, .int h0_nodes, .int h0_onesMany, .int h0_within, .int h0_top])), (aI ca h0_now 376 F_h0_now)] := hD
    try dsimp only at w_227
    rcases w_227 with h_230 | h_231
    · skip
      subst h_230
      refine lv_if_ne (tgt := 162) hx hb dX12_holds_149 (by decide) (fun _ => ?_) (fun c => absurd c (by decide))
      refine lv_iconst (v := 1) hx hb dX12_holds_162 (by decide) ?_
      refine lv_goto (tgt := 167) hx hb dX12_holds_163 (by decide) ?_
      exact oE_i hx hb hr (by decide) hlocks hP hD hS (u_228, u_229) [0, 1] rfl (by decide) (Or.inr (rfl)) (Nat.le_of_ble_eq_true rfl) (Nat.le_of_ble_eq_true rfl) dX12_holds_167
    · skip
      subst h_231
      refine lv_if_ne (tgt := 162) hx hb dX12_holds_149 (by decide) (fun c => absurd (by decide) c) (fun _ => ?_)
      refine lv_aload_n hx hb dX12_holds_152 rfl (lv_at hl 3 rfl) ?_
      refine lv_iload hx hb dX12_holds_153 (lv_at hl 0 rfl) ?_
      refine lv_iload_n hx hb dX12_holds_155 rfl (lv_at hl 5 rfl) ?_
      refine oC_i (Wc := [(h0, .inr (11, [.int h0_thrown, .ref h0_tape, .int h0_taped, .int h0_size, .int h0_limit, .int h0_to, .int h0_from, .int h0_kind, .int h0_number, .int h0_sign, .int h0_fault, .int h0_place, .long h0_word, .int h0_told, .ref h0_now, .ref h0_read, .ref h0_kept, .ref h0_snaps, .ref h0_aside, .ref h0_name, .ref h0_readName, .ref h0_keptName, .ref h0_isKept, .ref h0_onces, .int h0_snapMany, .int u_228, .int u_229, .int h0_agreed, .int h0_jurors, .int h0_panelled, .ref h0_inSets, .int h0_surely, .int h0_asked, .ref h0_frees, .int h0_struck, .int h0_beating, .ref h0_text, .int h0_texts, .int h0_seed, .ref h0_line, .ref h0_written, .int h0_lineMany, .int h0_hasWritten, .ref h0_node, .int h0_nodes, .int h0_onesMany, .int h0_within, .int h0_top])), (aI ca h0_now 376 F_h0_now)]) (Wr := []) (va_runV (As := [.int x_198, .int a2]) (rest := []) ⟨hx, hb, hml, hown, hts⟩ (s_X12_holds_30 l D ca H.size h0 x_198 a2 h0_thrown h0_tape h0_taped h0_size h0_limit h0_to h0_from h0_kind h0_number h0_sign h0_fault h0_place h0_word h0_told h0_now h0_read h0_kept h0_snaps h0_aside h0_name h0_readName h0_keptName h0_isKept h0_onces h0_snapMany u_228 u_229 h0_agreed h0_jurors h0_panelled h0_inSets h0_surely h0_asked h0_frees h0_struck h0_beating h0_text h0_texts h0_seed h0_line h0_written h0_lineMany h0_hasWritten h0_node h0_nodes h0_onesMany h0_within h0_top F_h0_now h_225 i_a2 i_h0_taped i_h0_size i_h0_to i_h0_kind i_h0_snapMany i_h0_texts i_h0_lineMany i_h0_hasWritten i_h0_nodes i_h0_onesMany s_h0_now_0 s_h0_now_1 s_h0_now_2 s_h0_now_3 s_h0_now_4 s_h0_now_5 s_h0_now_6 s_h0_now_7 cu_tokw) (cwV 2 hts gX12_holds_X12_holds rfl rfl rfl (by decide +kernel) ⟨Nat.le_of_ble_eq_true rfl, Nat.le_of_ble_eq_true rfl⟩) (oPV (C := RX12) hK hP hD [0, 1] rfl (by decide) 0 rfl (ci := 11) rfl rfl) rfl rfl hl.1 rfl (lv_room (Nat.le_of_ble_eq_true rfl)) dX12_holds_156 ⟨Nat.le_of_ble_eq_true rfl, Nat.le_of_ble_eq_true rfl⟩) hP hD hS hA [0, 1] [] rfl rfl (by decide) (by decide) (fun r_232 u H locs w_233 hP hD hS => ?_)
      obtain ⟨u_234, u_235⟩ := u
      have hP : va_P D vwCl [(h0, .inr (11, [.int h0_thrown, .ref h0_tape, .int h0_taped, .int h0_size, .int h0_limit, .int h0_to, .int h0_from, .int h0_kind, .int h0_number, .int h0_sign, .int h0_fault, .int h0_place, .long h0_word, .int h0_told, .ref h0_now, .ref h0_read, .ref h0_kept, .ref h0_snaps, .ref h0_aside, .ref h0_name, .ref h0_readName, .ref h0_keptName, .ref h0_isKept, .ref h0_onces, .int h0_snapMany, .int u_234, .int u_235, .int h0_agreed, .int h0_jurors, .int h0_panelled, .ref h0_inSets, .int h0_surely, .int h0_asked, .ref h0_frees, .int h0_struck, .int h0_beating, .ref h0_text, .int h0_texts, .int h0_seed, .ref h0_line, .ref h0_written, .int h0_lineMany, .int h0_hasWritten, .ref h0_node, .int h0_nodes, .int h0_onesMany, .int h0_within, .int h0_top])), (aI ca h0_now 376 F_h0_now)] H := hP
      have hD : va_D A [(h0, .inr (11, [.int h0_thrown, .ref h0_tape, .int h0_taped, .int h0_size, .int h0_limit, .int h0_to, .int h0_from, .int h0_kind, .int h0_number, .int h0_sign, .int h0_fault, .int h0_place, .long h0_word, .int h0_told, .ref h0_now, .ref h0_read, .ref h0_kept, .ref h0_snaps, .ref h0_aside, .ref h0_name, .ref h0_readName, .ref h0_keptName, .ref h0_isKept, .ref h0_onces, .int h0_snapMany, .int u_234, .int u_235, .int h0_agreed, .int h0_jurors, .int h0_panelled, .ref h0_inSets, .int h0_surely, .int h0_asked, .ref h0_frees, .int h0_struck, .int h0_beating, .ref h0_text, .int h0_texts, .int h0_seed, .ref h0_line, .ref h0_written, .int h0_lineMany, .int h0_hasWritten, .ref h0_node, .int h0_nodes, .int h0_onesMany, .int h0_within, .int h0_top])), (aI ca h0_now 376 F_h0_now)] := hD
      try dsimp only at w_233
      rcases w_233 with h_236 | h_237
      · skip
        subst h_236
        refine lv_if_eq (tgt := 166) hx hb dX12_holds_159 (by decide) (fun c => absurd c (by decide)) (fun _ => ?_)
        refine lv_iconst (v := 1) hx hb dX12_holds_162 (by decide) ?_
        refine lv_goto (tgt := 167) hx hb dX12_holds_163 (by decide) ?_
        exact oE_i hx hb hr (by decide) hlocks hP hD hS (u_234, u_235) [0, 1] rfl (by decide) (Or.inr (rfl)) (Nat.le_of_ble_eq_true rfl) (Nat.le_of_ble_eq_true rfl) dX12_holds_167
      · skip
        subst h_237
        refine lv_if_eq (tgt := 166) hx hb dX12_holds_159 (by decide) (fun _ => ?_) (fun c => absurd (by decide) c)
        refine lv_iconst (v := 0) hx hb dX12_holds_166 (by decide) ?_
        exact oE_i hx hb hr (by decide) hlocks hP hD hS (u_234, u_235) [0, 1] rfl (by decide) (Or.inl rfl) (Nat.le_of_ble_eq_true rfl) (Nat.le_of_ble_eq_true rfl) dX12_holds_167
  by_cases c_238 : x_199 = 68
  · skip
    refine oti 68 c_238 ?_
    refine lv_lookup (off := 134) (tgt := 168) hx hb dX12_holds_34 (by decide) (by decide) (by decide) ?_
    refine lv_aload_n hx hb dX12_holds_168 rfl (lv_at hl 3 rfl) ?_
    refine va_get (D := D) (ci := 11) (v := .ref h0_now) (C := RX12) (T := TX12) (N := 48) hx hb hts k2 hown hK.1 hP 0 rfl rfl 14 (by decide) k1 (fun _ h9 => h9) rfl dX12_holds_169 ?_
    refine lv_bipush (v := 90) hx hb dX12_holds_172 (by decide) ?_
    refine va_iald hx hb hK.1 hP 1 0 rfl rfl (rg_in (⟨by decide, by decide⟩ : rg 90 90 (90 : Int32)) (by decide) (by decide)) dX12_holds_174 ?_
    refine lv_topi (fun x_239 ex_239 => ?_)
    have h_240 : rg 0 1023 x_239 := by rw [ex_239]; exact sg_at s_h0_now_5 (⟨by decide, by decide⟩ : rg 90 90 (90 : Int32)) (by decide) (by decide) (by decide)
    refine lv_iload_n hx hb dX12_holds_175 rfl (lv_at hl 5 rfl) ?_
    refine oC_i (Wc := []) (Wr := [(h0, .inr (11, [.int h0_thrown, .ref h0_tape, .int h0_taped, .int h0_size, .int h0_limit, .int h0_to, .int h0_from, .int h0_kind, .int h0_number, .int h0_sign, .int h0_fault, .int h0_place, .long h0_word, .int h0_told, .ref h0_now, .ref h0_read, .ref h0_kept, .ref h0_snaps, .ref h0_aside, .ref h0_name, .ref h0_readName, .ref h0_keptName, .ref h0_isKept, .ref h0_onces, .int h0_snapMany, .int h0_lowest, .int h0_highest, .int h0_agreed, .int h0_jurors, .int h0_panelled, .ref h0_inSets, .int h0_surely, .int h0_asked, .ref h0_frees, .int h0_struck, .int h0_beating, .ref h0_text, .int h0_texts, .int h0_seed, .ref h0_line, .ref h0_written, .int h0_lineMany, .int h0_hasWritten, .ref h0_node, .int h0_nodes, .int h0_onesMany, .int h0_within, .int h0_top])), (aI ca h0_now 376 F_h0_now)]) (va_runS (As := [.int x_239, .int a2]) (rest := []) ⟨hx, hb, hml, hown, hts⟩ (s_X12_has l D ca H.size x_239 a2) (va_cwS 2 hts gX12_holds_X12_has rfl rfl rfl (by decide +kernel) ⟨Nat.le_of_ble_eq_true rfl, Nat.le_of_ble_eq_true rfl⟩) (oPS hK hP hD [] rfl (by decide)) rfl rfl hl.1 rfl (lv_room (Nat.le_of_ble_eq_true rfl)) dX12_holds_176 ⟨Nat.le_of_ble_eq_true rfl, Nat.le_of_ble_eq_true rfl⟩) hP hD hS hA [] [0, 1] rfl rfl (by decide) (by decide) (fun r_241 u H locs w_242 hP hD hS => ?_)
    obtain ⟨⟩ := u
    have hP : va_P D vwCl [(h0, .inr (11, [.int h0_thrown, .ref h0_tape, .int h0_taped, .int h0_size, .int h0_limit, .int h0_to, .int h0_from, .int h0_kind, .int h0_number, .int h0_sign, .int h0_fault, .int h0_place, .long h0_word, .int h0_told, .ref h0_now, .ref h0_read, .ref h0_kept, .ref h0_snaps, .ref h0_aside, .ref h0_name, .ref h0_readName, .ref h0_keptName, .ref h0_isKept, .ref h0_onces, .int h0_snapMany, .int h0_lowest, .int h0_highest, .int h0_agreed, .int h0_jurors, .int h0_panelled, .ref h0_inSets, .int h0_surely, .int h0_asked, .ref h0_frees, .int h0_struck, .int h0_beating, .ref h0_text, .int h0_texts, .int h0_seed, .ref h0_line, .ref h0_written, .int h0_lineMany, .int h0_hasWritten, .ref h0_node, .int h0_nodes, .int h0_onesMany, .int h0_within, .int h0_top])), (aI ca h0_now 376 F_h0_now)] H := hP
    have hD : va_D A [(h0, .inr (11, [.int h0_thrown, .ref h0_tape, .int h0_taped, .int h0_size, .int h0_limit, .int h0_to, .int h0_from, .int h0_kind, .int h0_number, .int h0_sign, .int h0_fault, .int h0_place, .long h0_word, .int h0_told, .ref h0_now, .ref h0_read, .ref h0_kept, .ref h0_snaps, .ref h0_aside, .ref h0_name, .ref h0_readName, .ref h0_keptName, .ref h0_isKept, .ref h0_onces, .int h0_snapMany, .int h0_lowest, .int h0_highest, .int h0_agreed, .int h0_jurors, .int h0_panelled, .ref h0_inSets, .int h0_surely, .int h0_asked, .ref h0_frees, .int h0_struck, .int h0_beating, .ref h0_text, .int h0_texts, .int h0_seed, .ref h0_line, .ref h0_written, .int h0_lineMany, .int h0_hasWritten, .ref h0_node, .int h0_nodes, .int h0_onesMany, .int h0_within, .int h0_top])), (aI ca h0_now 376 F_h0_now)] := hD
    try dsimp only at w_242
    rcases w_242 with ⟨h_243, h_244⟩ | ⟨h_245, h_246⟩
    · skip
      subst h_243
      exact oE_i hx hb hr (by decide) hlocks hP hD hS (h0_lowest, h0_highest) [0, 1] rfl (by decide) (Or.inl rfl) (Nat.le_of_ble_eq_true rfl) (Nat.le_of_ble_eq_true rfl) dX12_holds_179
    · skip
      subst h_245
      exact oE_i hx hb hr (by decide) hlocks hP hD hS (h0_lowest, h0_highest) [0, 1] rfl (by decide) (Or.inr (rfl)) (Nat.le_of_ble_eq_true rfl) (Nat.le_of_ble_eq_true rfl) dX12_holds_179
  by_cases c_247 : x_199 = 69
  · skip
    refine oti 69 c_247 ?_
    refine lv_lookup (off := 146) (tgt := 180) hx hb dX12_holds_34 (by decide) (by decide) (by decide) ?_
    refine lv_aload_n hx hb dX12_holds_180 rfl (lv_at hl 3 rfl) ?_
    refine va_get (D := D) (ci := 11) (v := .ref h0_now) (C := RX12) (T := TX12) (N := 48) hx hb hts k2 hown hK.1 hP 0 rfl rfl 14 (by decide) k1 (fun _ h9 => h9) rfl dX12_holds_181 ?_
    refine lv_bipush (v := 91) hx hb dX12_holds_184 (by decide) ?_
    refine va_iald hx hb hK.1 hP 1 0 rfl rfl (rg_in (⟨by decide, by decide⟩ : rg 91 91 (91 : Int32)) (by decide) (by decide)) dX12_holds_186 ?_
    refine lv_topi (fun x_248 ex_248 => ?_)
    refine lv_iload_n hx hb dX12_holds_187 rfl (lv_at hl 5 rfl) ?_
    refine oC_i (Wc := []) (Wr := [(h0, .inr (11, [.int h0_thrown, .ref h0_tape, .int h0_taped, .int h0_size, .int h0_limit, .int h0_to, .int h0_from, .int h0_kind, .int h0_number, .int h0_sign, .int h0_fault, .int h0_place, .long h0_word, .int h0_told, .ref h0_now, .ref h0_read, .ref h0_kept, .ref h0_snaps, .ref h0_aside, .ref h0_name, .ref h0_readName, .ref h0_keptName, .ref h0_isKept, .ref h0_onces, .int h0_snapMany, .int h0_lowest, .int h0_highest, .int h0_agreed, .int h0_jurors, .int h0_panelled, .ref h0_inSets, .int h0_surely, .int h0_asked, .ref h0_frees, .int h0_struck, .int h0_beating, .ref h0_text, .int h0_texts, .int h0_seed, .ref h0_line, .ref h0_written, .int h0_lineMany, .int h0_hasWritten, .ref h0_node, .int h0_nodes, .int h0_onesMany, .int h0_within, .int h0_top])), (aI ca h0_now 376 F_h0_now)]) (va_runS (As := [.int x_248, .int a2]) (rest := []) ⟨hx, hb, hml, hown, hts⟩ (s_X12_has l D ca H.size x_248 a2) (va_cwS 2 hts gX12_holds_X12_has rfl rfl rfl (by decide +kernel) ⟨Nat.le_of_ble_eq_true rfl, Nat.le_of_ble_eq_true rfl⟩) (oPS hK hP hD [] rfl (by decide)) rfl rfl hl.1 rfl (lv_room (Nat.le_of_ble_eq_true rfl)) dX12_holds_188 ⟨Nat.le_of_ble_eq_true rfl, Nat.le_of_ble_eq_true rfl⟩) hP hD hS hA [] [0, 1] rfl rfl (by decide) (by decide) (fun r_249 u H locs w_250 hP hD hS => ?_)
    obtain ⟨⟩ := u
    have hP : va_P D vwCl [(h0, .inr (11, [.int h0_thrown, .ref h0_tape, .int h0_taped, .int h0_size, .int h0_limit, .int h0_to, .int h0_from, .int h0_kind, .int h0_number, .int h0_sign, .int h0_fault, .int h0_place, .long h0_word, .int h0_told, .ref h0_now, .ref h0_read, .ref h0_kept, .ref h0_snaps, .ref h0_aside, .ref h0_name, .ref h0_readName, .ref h0_keptName, .ref h0_isKept, .ref h0_onces, .int h0_snapMany, .int h0_lowest, .int h0_highest, .int h0_agreed, .int h0_jurors, .int h0_panelled, .ref h0_inSets, .int h0_surely, .int h0_asked, .ref h0_frees, .int h0_struck, .int h0_beating, .ref h0_text, .int h0_texts, .int h0_seed, .ref h0_line, .ref h0_written, .int h0_lineMany, .int h0_hasWritten, .ref h0_node, .int h0_nodes, .int h0_onesMany, .int h0_within, .int h0_top])), (aI ca h0_now 376 F_h0_now)] H := hP
    have hD : va_D A [(h0, .inr (11, [.int h0_thrown, .ref h0_tape, .int h0_taped, .int h0_size, .int h0_limit, .int h0_to, .int h0_from, .int h0_kind, .int h0_number, .int h0_sign, .int h0_fault, .int h0_place, .long h0_word, .int h0_told, .ref h0_now, .ref h0_read, .ref h0_kept, .ref h0_snaps, .ref h0_aside, .ref h0_name, .ref h0_readName, .ref h0_keptName, .ref h0_isKept, .ref h0_onces, .int h0_snapMany, .int h0_lowest, .int h0_highest, .int h0_agreed, .int h0_jurors, .int h0_panelled, .ref h0_inSets, .int h0_surely, .int h0_asked, .ref h0_frees, .int h0_struck, .int h0_beating, .ref h0_text, .int h0_texts, .int h0_seed, .ref h0_line, .ref h0_written, .int h0_lineMany, .int h0_hasWritten, .ref h0_node, .int h0_nodes, .int h0_onesMany, .int h0_within, .int h0_top])), (aI ca h0_now 376 F_h0_now)] := hD
    try dsimp only at w_250
    rcases w_250 with ⟨h_251, h_252⟩ | ⟨h_253, h_254⟩
    · skip
      subst h_251
      exact oE_i hx hb hr (by decide) hlocks hP hD hS (h0_lowest, h0_highest) [0, 1] rfl (by decide) (Or.inl rfl) (Nat.le_of_ble_eq_true rfl) (Nat.le_of_ble_eq_true rfl) dX12_holds_191
    · skip
      subst h_253
      exact oE_i hx hb hr (by decide) hlocks hP hD hS (h0_lowest, h0_highest) [0, 1] rfl (by decide) (Or.inr (rfl)) (Nat.le_of_ble_eq_true rfl) (Nat.le_of_ble_eq_true rfl) dX12_holds_191
  by_cases c_255 : x_199 = 70
  · skip
    refine oti 70 c_255 ?_
    refine lv_lookup (off := 158) (tgt := 192) hx hb dX12_holds_34 (by decide) (by decide) (by decide) ?_
    refine lv_aload_n hx hb dX12_holds_192 rfl (lv_at hl 3 rfl) ?_
    refine va_get (D := D) (ci := 11) (v := .ref h0_now) (C := RX12) (T := TX12) (N := 48) hx hb hts k2 hown hK.1 hP 0 rfl rfl 14 (by decide) k1 (fun _ h9 => h9) rfl dX12_holds_193 ?_
    refine lv_bipush (v := 94) hx hb dX12_holds_196 (by decide) ?_
    refine lv_iload_n hx hb dX12_holds_198 rfl (lv_at hl 5 rfl) ?_
    refine lv_iadd hx hb dX12_holds_199 ?_
    refine lv_topi (fun x_256 ex_256 => ?_)
    have h_257 : rg 94 103 x_256 := by rw [ex_256]; exact rg_add (⟨by decide, by decide⟩ : rg 94 94 (94 : Int32)) i_a2 (by decide) (by decide) (by decide) (by decide)
    have l_258 : lq x_256.toInt (a2.toInt + 94) := lqm (by rw [ex_256]; have q := tadd (⟨by decide, by decide⟩ : rg 94 94 (94 : Int32)) i_a2 (by decide) (by decide); have r0 := lqe (lqm (by decide) : lq (94 : Int32).toInt 94); omega)
    refine va_iald hx hb hK.1 hP 1 0 rfl rfl (rg_in h_257 (by decide) (by decide)) dX12_holds_200 ?_
    refine lv_topi (fun x_259 ex_259 => ?_)
    refine lv_if_le (tgt := 208) hx hb dX12_holds_201 (by decide) (fun c_260 => ?_) (fun c_260 => ?_)
    · skip
      have o_261 : rl 0 x_259 0 := rl_le c_260
      have h_262 : rg (-2147483648) 0 x_259 := rl_x o_261 (rga x_259) (⟨by decide, by decide⟩ : rg 0 0 (0 : Int32)) (by decide) (by decide)
      refine lv_iconst (v := 0) hx hb dX12_holds_208 (by decide) ?_
      exact oE_i hx hb hr (by decide) hlocks hP hD hS (h0_lowest, h0_highest) [0, 1] rfl (by decide) (Or.inl rfl) (Nat.le_of_ble_eq_true rfl) (Nat.le_of_ble_eq_true rfl) dX12_holds_209
    · skip
      have o_263 : rl 1 0 x_259 := rl_nle c_260
      have h_264 : rg 1 2147483647 x_259 := rl_y o_263 (⟨by decide, by decide⟩ : rg 0 0 (0 : Int32)) (rga x_259) (by decide) (by decide)
      refine lv_iconst (v := 1) hx hb dX12_holds_204 (by decide) ?_
      refine lv_goto (tgt := 209) hx hb dX12_holds_205 (by decide) ?_
      exact oE_i hx hb hr (by decide) hlocks hP hD hS (h0_lowest, h0_highest) [0, 1] rfl (by decide) (Or.inr (rfl)) (Nat.le_of_ble_eq_true rfl) (Nat.le_of_ble_eq_true rfl) dX12_holds_209
  by_cases c_265 : x_199 = 71
  · skip
    refine oti 71 c_265 ?_
    refine lv_lookup (off := 176) (tgt := 210) hx hb dX12_holds_34 (by decide) (by decide) (by decide) ?_
    have h_266 : rg 0 39 x_194 := ht.2.2 c_265
    refine lv_aload_n hx hb dX12_holds_210 rfl (lv_at hl 3 rfl) ?_
    refine lv_iload_n hx hb dX12_holds_211 rfl (lv_at hl 5 rfl) ?_
    refine lv_iload hx hb dX12_holds_212 (lv_at hl 1 rfl) ?_
    refine oC_i (Wc := [(h0, .inr (11, [.int h0_thrown, .ref h0_tape, .int h0_taped, .int h0_size, .int h0_limit, .int h0_to, .int h0_from, .int h0_kind, .int h0_number, .int h0_sign, .int h0_fault, .int h0_place, .long h0_word, .int h0_told, .ref h0_now, .ref h0_read, .ref h0_kept, .ref h0_snaps, .ref h0_aside, .ref h0_name, .ref h0_readName, .ref h0_keptName, .ref h0_isKept, .ref h0_onces, .int h0_snapMany, .int h0_lowest, .int h0_highest, .int h0_agreed, .int h0_jurors, .int h0_panelled, .ref h0_inSets, .int h0_surely, .int h0_asked, .ref h0_frees, .int h0_struck, .int h0_beating, .ref h0_text, .int h0_texts, .int h0_seed, .ref h0_line, .ref h0_written, .int h0_lineMany, .int h0_hasWritten, .ref h0_node, .int h0_nodes, .int h0_onesMany, .int h0_within, .int h0_top])), (aI ca h0_now 376 F_h0_now)]) (Wr := []) (va_runV (As := [.int a2, .int x_194]) (rest := []) ⟨hx, hb, hml, hown, hts⟩ (s_X12_areOneRing l D ca H.size h0 a2 x_194 h0_thrown h0_tape h0_taped h0_size h0_limit h0_to h0_from h0_kind h0_number h0_sign h0_fault h0_place h0_word h0_told h0_now h0_read h0_kept h0_snaps h0_aside h0_name h0_readName h0_keptName h0_isKept h0_onces h0_snapMany h0_lowest h0_highest h0_agreed h0_jurors h0_panelled h0_inSets h0_surely h0_asked h0_frees h0_struck h0_beating h0_text h0_texts h0_seed h0_line h0_written h0_lineMany h0_hasWritten h0_node h0_nodes h0_onesMany h0_within h0_top F_h0_now i_a2 h_266 i_h0_taped i_h0_size i_h0_to i_h0_kind i_h0_snapMany i_h0_texts i_h0_lineMany i_h0_hasWritten i_h0_nodes i_h0_onesMany s_h0_now_0 s_h0_now_1 s_h0_now_2 s_h0_now_3 s_h0_now_4 s_h0_now_5 s_h0_now_6 s_h0_now_7) (cwV 2 hts gX12_holds_X12_areOneRing rfl rfl rfl (by decide +kernel) ⟨Nat.le_of_ble_eq_true rfl, Nat.le_of_ble_eq_true rfl⟩) (oPV (C := RX12) hK hP hD [0, 1] rfl (by decide) 0 rfl (ci := 11) rfl rfl) rfl rfl hl.1 rfl (lv_room (Nat.le_of_ble_eq_true rfl)) dX12_holds_214 ⟨Nat.le_of_ble_eq_true rfl, Nat.le_of_ble_eq_true rfl⟩) hP hD hS hA [0, 1] [] rfl rfl (by decide) (by decide) (fun r_267 u H locs w_268 hP hD hS => ?_)
    obtain ⟨u_269, u_270⟩ := u
    have hP : va_P D vwCl [(h0, .inr (11, [.int h0_thrown, .ref h0_tape, .int h0_taped, .int h0_size, .int h0_limit, .int h0_to, .int h0_from, .int h0_kind, .int h0_number, .int h0_sign, .int h0_fault, .int h0_place, .long h0_word, .int h0_told, .ref h0_now, .ref h0_read, .ref h0_kept, .ref h0_snaps, .ref h0_aside, .ref h0_name, .ref h0_readName, .ref h0_keptName, .ref h0_isKept, .ref h0_onces, .int h0_snapMany, .int u_269, .int u_270, .int h0_agreed, .int h0_jurors, .int h0_panelled, .ref h0_inSets, .int h0_surely, .int h0_asked, .ref h0_frees, .int h0_struck, .int h0_beating, .ref h0_text, .int h0_texts, .int h0_seed, .ref h0_line, .ref h0_written, .int h0_lineMany, .int h0_hasWritten, .ref h0_node, .int h0_nodes, .int h0_onesMany, .int h0_within, .int h0_top])), (aI ca h0_now 376 F_h0_now)] H := hP
    have hD : va_D A [(h0, .inr (11, [.int h0_thrown, .ref h0_tape, .int h0_taped, .int h0_size, .int h0_limit, .int h0_to, .int h0_from, .int h0_kind, .int h0_number, .int h0_sign, .int h0_fault, .int h0_place, .long h0_word, .int h0_told, .ref h0_now, .ref h0_read, .ref h0_kept, .ref h0_snaps, .ref h0_aside, .ref h0_name, .ref h0_readName, .ref h0_keptName, .ref h0_isKept, .ref h0_onces, .int h0_snapMany, .int u_269, .int u_270, .int h0_agreed, .int h0_jurors, .int h0_panelled, .ref h0_inSets, .int h0_surely, .int h0_asked, .ref h0_frees, .int h0_struck, .int h0_beating, .ref h0_text, .int h0_texts, .int h0_seed, .ref h0_line, .ref h0_written, .int h0_lineMany, .int h0_hasWritten, .ref h0_node, .int h0_nodes, .int h0_onesMany, .int h0_within, .int h0_top])), (aI ca h0_now 376 F_h0_now)] := hD
    try dsimp only at w_268
    rcases w_268 with ⟨h_271, h_272, h_273⟩ | ⟨h_274, h_275, h_276, h_277⟩
    · skip
      subst h_271
      exact oE_i hx hb hr (by decide) hlocks hP hD hS (u_269, u_270) [0, 1] rfl (by decide) (Or.inl rfl) (Nat.le_of_ble_eq_true rfl) (Nat.le_of_ble_eq_true rfl) dX12_holds_217
    · skip
      subst h_274
      exact oE_i hx hb hr (by decide) hlocks hP hD hS (u_269, u_270) [0, 1] rfl (by decide) (Or.inr (rfl)) (Nat.le_of_ble_eq_true rfl) (Nat.le_of_ble_eq_true rfl) dX12_holds_217
  have t0 := lv_neT c_200 (show (1 : Int32).toInt = 1 by decide)
  have t1 := lv_neT c_208 (show (2 : Int32).toInt = 2 by decide)
  have t2 := lv_neT c_223 (show (3 : Int32).toInt = 3 by decide)
  have t3 := lv_neT c_238 (show (68 : Int32).toInt = 68 by decide)
  have t4 := lv_neT c_247 (show (69 : Int32).toInt = 69 by decide)
  have t5 := lv_neT c_255 (show (70 : Int32).toInt = 70 by decide)
  have t6 := lv_neT c_265 (show (71 : Int32).toInt = 71 by decide)
  refine lv_lookup (off := 184) (tgt := 218) hx hb dX12_holds_34 (by decide) (by simp [Op.lookupswitch.offset, show ¬ (1 : Int) = x_199.toInt from fun h9 => t0 h9.symm, show ¬ (2 : Int) = x_199.toInt from fun h9 => t1 h9.symm, show ¬ (3 : Int) = x_199.toInt from fun h9 => t2 h9.symm, show ¬ (68 : Int) = x_199.toInt from fun h9 => t3 h9.symm, show ¬ (69 : Int) = x_199.toInt from fun h9 => t4 h9.symm, show ¬ (70 : Int) = x_199.toInt from fun h9 => t5 h9.symm, show ¬ (71 : Int) = x_199.toInt from fun h9 => t6 h9.symm]) (by decide) ?_
  refine lv_aload_n hx hb dX12_holds_218 rfl (lv_at hl 3 rfl) ?_
  refine va_get (D := D) (ci := 11) (v := .ref h0_now) (C := RX12) (T := TX12) (N := 48) hx hb hts k2 hown hK.1 hP 0 rfl rfl 14 (by decide) k1 (fun _ h9 => h9) rfl dX12_holds_219 ?_
  refine lv_iload_n hx hb dX12_holds_222 rfl (lv_at hl 2 rfl) ?_
  refine va_iald hx hb hK.1 hP 1 0 rfl rfl (rg_in h_189 (by decide) (by decide)) dX12_holds_223 ?_
  refine oti x_199 ex_199.symm ?_
  refine lv_bipush (v := 50) hx hb dX12_holds_224 (by decide) ?_
  refine lv_isub hx hb dX12_holds_226 ?_
  refine lv_topi (fun x_278 ex_278 => ?_)
  refine lv_istore (lv' := [(6, .int x_278), (5, .int x_198), (4, .int x_194), (3, .int x_188), (0, .ref h0), (1, .int a1), (2, .int a2)]) hx hb dX12_holds_227 hl (by decide) rfl (fun ls hl => ?_)
  refine lv_iload hx hb dX12_holds_229 (lv_at hl 0 rfl) ?_
  refine lv_bipush (v := 22) hx hb dX12_holds_231 (by decide) ?_
  refine lv_icmp_ne (tgt := 247) hx hb dX12_holds_233 (by decide) (fun c_279 => ?_) (fun c_279 => ?_)
  · skip
    refine lv_iload hx hb dX12_holds_247 (lv_at hl 0 rfl) ?_
    refine lv_bipush (v := 23) hx hb dX12_holds_249 (by decide) ?_
    refine lv_icmp_ne (tgt := 266) hx hb dX12_holds_251 (by decide) (fun c_280 => ?_) (fun c_280 => ?_)
    · skip
      refine lv_iload hx hb dX12_holds_266 (lv_at hl 0 rfl) ?_
      refine lv_bipush (v := 24) hx hb dX12_holds_268 (by decide) ?_
      refine lv_icmp_ne (tgt := 285) hx hb dX12_holds_270 (by decide) (fun c_281 => ?_) (fun c_281 => ?_)
      · skip
        refine lv_iload_n hx hb dX12_holds_285 rfl (lv_at hl 6 rfl) ?_
        exact J286_153 x_188 x_198 a2 h_189 H locs ls (oPsub hP [0, 1] rfl) (hD.sub [0, 1] (by decide) rfl) hS (lv_sub hl [4, 3, 1] rfl)
      · skip
        have o_282 : rl 0 x_278 24 := rl_eq c_281
        have h_283 : rg (-2147483648) 24 x_278 := rl_x o_282 (rga x_278) (⟨by decide, by decide⟩ : rg 24 24 (24 : Int32)) (by decide) (by decide)
        have o_284 : rl 0 24 x_278 := rl_eq c_281.symm
        have h_285 : rg 24 24 x_278 := rl_y o_284 (⟨by decide, by decide⟩ : rg 24 24 (24 : Int32)) h_283 (by decide) (by decide)
        refine lv_aload_n hx hb dX12_holds_273 rfl (lv_at hl 4 rfl) ?_
        refine va_get (D := D) (ci := 11) (v := .ref h0_now) (C := RX12) (T := TX12) (N := 48) hx hb hts k2 hown hK.1 hP 0 rfl rfl 14 (by decide) k1 (fun _ h9 => h9) rfl dX12_holds_274 ?_
        refine lv_bipush (v := 94) hx hb dX12_holds_277 (by decide) ?_
        refine lv_iload_n hx hb dX12_holds_279 rfl (lv_at hl 6 rfl) ?_
        refine lv_iadd hx hb dX12_holds_280 ?_
        refine lv_topi (fun x_286 ex_286 => ?_)
        have h_287 : rg 94 103 x_286 := by rw [ex_286]; exact rg_add (⟨by decide, by decide⟩ : rg 94 94 (94 : Int32)) i_a2 (by decide) (by decide) (by decide) (by decide)
        have l_288 : lq x_286.toInt (a2.toInt + 94) := lqm (by rw [ex_286]; have q := tadd (⟨by decide, by decide⟩ : rg 94 94 (94 : Int32)) i_a2 (by decide) (by decide); have r0 := lqe (lqm (by decide) : lq (94 : Int32).toInt 94); omega)
        refine va_iald hx hb hK.1 hP 1 0 rfl rfl (rg_in h_287 (by decide) (by decide)) dX12_holds_281 ?_
        refine lv_topi (fun x_289 ex_289 => ?_)
        refine lv_goto (tgt := 286) hx hb dX12_holds_282 (by decide) ?_
        exact J286_153 x_188 x_198 x_289 h_189 H locs ls (oPsub hP [0, 1] rfl) (hD.sub [0, 1] (by decide) rfl) hS (lv_sub hl [4, 3, 1] rfl)
    · skip
      have o_290 : rl 0 x_278 23 := rl_eq c_280
      have h_291 : rg (-2147483648) 23 x_278 := rl_x o_290 (rga x_278) (⟨by decide, by decide⟩ : rg 23 23 (23 : Int32)) (by decide) (by decide)
      have o_292 : rl 0 23 x_278 := rl_eq c_280.symm
      have h_293 : rg 23 23 x_278 := rl_y o_292 (⟨by decide, by decide⟩ : rg 23 23 (23 : Int32)) h_291 (by decide) (by decide)
      refine lv_aload_n hx hb dX12_holds_254 rfl (lv_at hl 4 rfl) ?_
      refine va_get (D := D) (ci := 11) (v := .ref h0_now) (C := RX12) (T := TX12) (N := 48) hx hb hts k2 hown hK.1 hP 0 rfl rfl 14 (by decide) k1 (fun _ h9 => h9) rfl dX12_holds_255 ?_
      refine lv_bipush (v := 15) hx hb dX12_holds_258 (by decide) ?_
      refine lv_iload_n hx hb dX12_holds_260 rfl (lv_at hl 6 rfl) ?_
      refine lv_iadd hx hb dX12_holds_261 ?_
      refine lv_topi (fun x_294 ex_294 => ?_)
      have h_295 : rg 15 24 x_294 := by rw [ex_294]; exact rg_add (⟨by decide, by decide⟩ : rg 15 15 (15 : Int32)) i_a2 (by decide) (by decide) (by decide) (by decide)
      have l_296 : lq x_294.toInt (a2.toInt + 15) := lqm (by rw [ex_294]; have q := tadd (⟨by decide, by decide⟩ : rg 15 15 (15 : Int32)) i_a2 (by decide) (by decide); have r0 := lqe (lqm (by decide) : lq (15 : Int32).toInt 15); omega)
      refine va_iald hx hb hK.1 hP 1 0 rfl rfl (rg_in h_295 (by decide) (by decide)) dX12_holds_262 ?_
      refine lv_topi (fun x_297 ex_297 => ?_)
      refine lv_goto (tgt := 286) hx hb dX12_holds_263 (by decide) ?_
      exact J286_153 x_188 x_198 x_297 h_189 H locs ls (oPsub hP [0, 1] rfl) (hD.sub [0, 1] (by decide) rfl) hS (lv_sub hl [4, 3, 1] rfl)
  · skip
    have o_298 : rl 0 x_278 22 := rl_eq c_279
    have h_299 : rg (-2147483648) 22 x_278 := rl_x o_298 (rga x_278) (⟨by decide, by decide⟩ : rg 22 22 (22 : Int32)) (by decide) (by decide)
    have o_300 : rl 0 22 x_278 := rl_eq c_279.symm
    have h_301 : rg 22 22 x_278 := rl_y o_300 (⟨by decide, by decide⟩ : rg 22 22 (22 : Int32)) h_299 (by decide) (by decide)
    refine lv_aload_n hx hb dX12_holds_236 rfl (lv_at hl 4 rfl) ?_
    refine va_get (D := D) (ci := 11) (v := .ref h0_now) (C := RX12) (T := TX12) (N := 48) hx hb hts k2 hown hK.1 hP 0 rfl rfl 14 (by decide) k1 (fun _ h9 => h9) rfl dX12_holds_237 ?_
    refine lv_iconst (v := 5) hx hb dX12_holds_240 (by decide) ?_
    refine lv_iload_n hx hb dX12_holds_241 rfl (lv_at hl 6 rfl) ?_
    refine lv_iadd hx hb dX12_holds_242 ?_
    refine lv_topi (fun x_302 ex_302 => ?_)
    have h_303 : rg 5 14 x_302 := by rw [ex_302]; exact rg_add (⟨by decide, by decide⟩ : rg 5 5 (5 : Int32)) i_a2 (by decide) (by decide) (by decide) (by decide)
    have l_304 : lq x_302.toInt (a2.toInt + 5) := lqm (by rw [ex_302]; have q := tadd (⟨by decide, by decide⟩ : rg 5 5 (5 : Int32)) i_a2 (by decide) (by decide); have r0 := lqe (lqm (by decide) : lq (5 : Int32).toInt 5); omega)
    refine va_iald hx hb hK.1 hP 1 0 rfl rfl (rg_in h_303 (by decide) (by decide)) dX12_holds_243 ?_
    refine lv_topi (fun x_305 ex_305 => ?_)
    refine lv_goto (tgt := 286) hx hb dX12_holds_244 (by decide) ?_
    exact J286_153 x_188 x_198 x_305 h_189 H locs ls (oPsub hP [0, 1] rfl) (hD.sub [0, 1] (by decide) rfl) hS (lv_sub hl [4, 3, 1] rfl)
set_option maxHeartbeats 4000000 in
set_option maxRecDepth 100000 in
theorem s_X12_holds_32 (l : Launch) (D : va_G) (ca : Nat → ClassId) (sz : Nat) (h0 : Nat) (a1 : Int32) (a2 : Int32) (h0_thrown : Int32) (h0_tape : Nat) (h0_taped : Int32) (h0_size : Int32) (h0_limit : Int32) (h0_to : Int32) (h0_from : Int32) (h0_kind : Int32) (h0_number : Int32) (h0_sign : Int32) (h0_fault : Int32) (h0_place : Int32) (h0_word : Int64) (h0_told : Int32) (h0_now : Nat) (h0_read : Nat) (h0_kept : Nat) (h0_snaps : Nat) (h0_aside : Nat) (h0_name : Nat) (h0_readName : Nat) (h0_keptName : Nat) (h0_isKept : Nat) (h0_onces : Nat) (h0_snapMany : Int32) (h0_lowest : Int32) (h0_highest : Int32) (h0_agreed : Int32) (h0_jurors : Int32) (h0_panelled : Int32) (h0_inSets : Nat) (h0_surely : Int32) (h0_asked : Int32) (h0_frees : Nat) (h0_struck : Int32) (h0_beating : Int32) (h0_text : Nat) (h0_texts : Int32) (h0_seed : Int32) (h0_line : Nat) (h0_written : Nat) (h0_lineMany : Int32) (h0_hasWritten : Int32) (h0_node : Nat) (h0_nodes : Int32) (h0_onesMany : Int32) (h0_within : Int32) (h0_top : Int32) (F_h0_now : Nat → Int32) (i_a1 : rg 0 31 a1) (i_a2 : rg 0 9 a2) (i_h0_taped : rg 0 940 h0_taped) (i_h0_size : rg 0 940 h0_size) (i_h0_to : rg 0 940 h0_to) (i_h0_kind : rg 0 4 h0_kind) (i_h0_snapMany : rg 0 8 h0_snapMany) (i_h0_texts : rg 0 64 h0_texts) (i_h0_lineMany : rg 0 40 h0_lineMany) (i_h0_hasWritten : rg 0 1 h0_hasWritten) (i_h0_nodes : rg 0 60 h0_nodes) (i_h0_onesMany : rg 0 20 h0_onesMany) (s_h0_now_0 : sg 0 1 0 10 F_h0_now) (s_h0_now_1 : sg 1 2 0 4 F_h0_now) (s_h0_now_2 : sg 2 3 0 5 F_h0_now) (s_h0_now_3 : sg 35 36 0 1023 F_h0_now) (s_h0_now_4 : sg 44 49 0 3 F_h0_now) (s_h0_now_5 : sg 90 91 0 1023 F_h0_now) (s_h0_now_6 : sg 124 129 0 1023 F_h0_now) (s_h0_now_7 : sg 135 136 0 39 F_h0_now) (cu_tokw : tokb 136 F_h0_now) : oMet l yX12_holds wsX12_holds ({ frames := 36, cells := 0, slots := 0, locals := 954 } : Room) [.ref h0, .int a1, .int a2] D ca sz [(h0, .inr (11, [.int h0_thrown, .ref h0_tape, .int h0_taped, .int h0_size, .int h0_limit, .int h0_to, .int h0_from, .int h0_kind, .int h0_number, .int h0_sign, .int h0_fault, .int h0_place, .long h0_word, .int h0_told, .ref h0_now, .ref h0_read, .ref h0_kept, .ref h0_snaps, .ref h0_aside, .ref h0_name, .ref h0_readName, .ref h0_keptName, .ref h0_isKept, .ref h0_onces, .int h0_snapMany, .int h0_lowest, .int h0_highest, .int h0_agreed, .int h0_jurors, .int h0_panelled, .ref h0_inSets, .int h0_surely, .int h0_asked, .ref h0_frees, .int h0_struck, .int h0_beating, .ref h0_text, .int h0_texts, .int h0_seed, .ref h0_line, .ref h0_written, .int h0_lineMany, .int h0_hasWritten, .ref h0_node, .int h0_nodes, .int h0_onesMany, .int h0_within, .int h0_top])), (aI ca h0_now 376 F_h0_now)] (oQi D (fun (r : Int32) (u : Int32 × Int32) => ((r = 1)) ∨ ((r = 0))) (fun (u : Int32 × Int32) => [(h0, .inr (11, [.int h0_thrown, .ref h0_tape, .int h0_taped, .int h0_size, .int h0_limit, .int h0_to, .int h0_from, .int h0_kind, .int h0_number, .int h0_sign, .int h0_fault, .int h0_place, .long h0_word, .int h0_told, .ref h0_now, .ref h0_read, .ref h0_kept, .ref h0_snaps, .ref h0_aside, .ref h0_name, .ref h0_readName, .ref h0_keptName, .ref h0_isKept, .ref h0_onces, .int h0_snapMany, .int u.1, .int u.2, .int h0_agreed, .int h0_jurors, .int h0_panelled, .ref h0_inSets, .int h0_surely, .int h0_asked, .ref h0_frees, .int h0_struck, .int h0_beating, .ref h0_text, .int h0_texts, .int h0_seed, .ref h0_line, .ref h0_written, .int h0_lineMany, .int h0_hasWritten, .ref h0_node, .int h0_nodes, .int h0_onesMany, .int h0_within, .int h0_top])), (aI ca h0_now 376 F_h0_now)])) 0 0 := by
  refine oM (cc := cX12_holds) (maxL := 8) (ret := (some .boolean)) (by decide) rfl (Nat.le_of_ble_eq_true rfl) [(0, .ref h0), (1, .int a1), (2, .int a2)] rfl ?_
  intro p e s m below meth c A H locs ls hx hb hr hml hts hown hlocks hin hK hP hD hA hS hl
  have hown : s.vm.findClass RX12 = some m.cls := hown
  have k1 := hts (.fieldLink RX12 98 "LidCourtModel" "now" "[I") (by decide +kernel)
  have k2 : ∀ w ∈ wsX120, w ∈ wsX12_holds := fun _ h => List.mem_cons_of_mem _ (List.mem_append_right _ h)
  have J286_153 : ∀ (y286_0 : Int32) (y286_1 : Int32) (y286_2 : Int32), rg 136 260 y286_0 → ∀ (H : Heap) (locs : List Loc) (ls : Array Slot), va_P D vwCl [(h0, .inr (11, [.int h0_thrown, .ref h0_tape, .int h0_taped, .int h0_size, .int h0_limit, .int h0_to, .int h0_from, .int h0_kind, .int h0_number, .int h0_sign, .int h0_fault, .int h0_place, .long h0_word, .int h0_told, .ref h0_now, .ref h0_read, .ref h0_kept, .ref h0_snaps, .ref h0_aside, .ref h0_name, .ref h0_readName, .ref h0_keptName, .ref h0_isKept, .ref h0_onces, .int h0_snapMany, .int h0_lowest, .int h0_highest, .int h0_agreed, .int h0_jurors, .int h0_panelled, .ref h0_inSets, .int h0_surely, .int h0_asked, .ref h0_frees, .int h0_struck, .int h0_beating, .ref h0_text, .int h0_texts, .int h0_seed, .ref h0_line, .ref h0_written, .int h0_lineMany, .int h0_hasWritten, .ref h0_node, .int h0_nodes, .int h0_onesMany, .int h0_within, .int h0_top])), (aI ca h0_now 376 F_h0_now)] H → va_D A [(h0, .inr (11, [.int h0_thrown, .ref h0_tape, .int h0_taped, .int h0_size, .int h0_limit, .int h0_to, .int h0_from, .int h0_kind, .int h0_number, .int h0_sign, .int h0_fault, .int h0_place, .long h0_word, .int h0_told, .ref h0_now, .ref h0_read, .ref h0_kept, .ref h0_snaps, .ref h0_aside, .ref h0_name, .ref h0_readName, .ref h0_keptName, .ref h0_isKept, .ref h0_onces, .int h0_snapMany, .int h0_lowest, .int h0_highest, .int h0_agreed, .int h0_jurors, .int h0_panelled, .ref h0_inSets, .int h0_surely, .int h0_asked, .ref h0_frees, .int h0_struck, .int h0_beating, .ref h0_text, .int h0_texts, .int h0_seed, .ref h0_line, .ref h0_written, .int h0_lineMany, .int h0_hasWritten, .ref h0_node, .int h0_nodes, .int h0_onesMany, .int h0_within, .int h0_top])), (aI ca h0_now 376 F_h0_now)] → va_S A s.heap H locs → lv_has ls 8 [(0, .ref h0), (3, .int y286_0), (5, .int y286_1)] → W p l e ({ frames := 36, cells := 0, slots := 0, locals := 954 } : Room) s m ([.ref h0, .int a1, .int a2] : List Value).toArray below meth c H locs 0 0 (MQ below ((oQi D (fun (r : Int32) (u : Int32 × Int32) => ((r = 1)) ∨ ((r = 0))) (fun (u : Int32 × Int32) => [(h0, .inr (11, [.int h0_thrown, .ref h0_tape, .int h0_taped, .int h0_size, .int h0_limit, .int h0_to, .int h0_from, .int h0_kind, .int h0_number, .int h0_sign, .int h0_fault, .int h0_place, .long h0_word, .int h0_told, .ref h0_now, .ref h0_read, .ref h0_kept, .ref h0_snaps, .ref h0_aside, .ref h0_name, .ref h0_readName, .ref h0_keptName, .ref h0_isKept, .ref h0_onces, .int h0_snapMany, .int u.1, .int u.2, .int h0_agreed, .int h0_jurors, .int h0_panelled, .ref h0_inSets, .int h0_surely, .int h0_asked, .ref h0_frees, .int h0_struck, .int h0_beating, .ref h0_text, .int h0_texts, .int h0_seed, .ref h0_line, .ref h0_written, .int h0_lineMany, .int h0_hasWritten, .ref h0_node, .int h0_nodes, .int h0_onesMany, .int h0_within, .int h0_top])), (aI ca h0_now 376 F_h0_now)])) A) ([.ref h0, .int a1, .int a2] : List Value).toArray s 0 0 A) (F0 m 286 ls [.int y286_2]) := by
    intro y286_0 y286_1 y286_2 hy286_0 H locs ls hP hD hS hl
    refine lv_istore (lv' := [(7, .int y286_2), (0, .ref h0), (3, .int y286_0), (5, .int y286_1)]) hx hb dX12_holds_286 hl (by decide) rfl (fun ls hl => ?_)
    refine lv_aload_n hx hb dX12_holds_288 rfl (lv_at hl 1 rfl) ?_
    refine va_get (D := D) (ci := 11) (v := .ref h0_now) (C := RX12) (T := TX12) (N := 48) hx hb hts k2 hown hK.1 hP 0 rfl rfl 14 (by decide) k1 (fun _ h9 => h9) rfl dX12_holds_289 ?_
    refine lv_iload_n hx hb dX12_holds_292 rfl (lv_at hl 2 rfl) ?_
    refine lv_iconst (v := 3) hx hb dX12_holds_293 (by decide) ?_
    refine lv_iadd hx hb dX12_holds_294 ?_
    refine lv_topi (fun x_154 ex_154 => ?_)
    have h_155 : rg 139 263 x_154 := by rw [ex_154]; exact rg_add hy286_0 (⟨by decide, by decide⟩ : rg 3 3 (3 : Int32)) (by decide) (by decide) (by decide) (by decide)
    have l_156 : lq x_154.toInt (y286_0.toInt + 3) := lqm (by rw [ex_154]; have q := tadd hy286_0 (⟨by decide, by decide⟩ : rg 3 3 (3 : Int32)) (by decide) (by decide); have r1 := lqe (lqm (by decide) : lq (3 : Int32).toInt 3); omega)
    refine va_iald hx hb hK.1 hP 1 0 rfl rfl (rg_in h_155 (by decide) (by decide)) dX12_holds_295 ?_
    refine lv_topi (fun x_157 ex_157 => ?_)
    refine lv_bipush (v := 60) hx hb dX12_holds_296 (by decide) ?_
    refine lv_icmp_ne (tgt := 316) hx hb dX12_holds_298 (by decide) (fun c_158 => ?_) (fun c_158 => ?_)
    · skip
      refine lv_aload_n hx hb dX12_holds_316 rfl (lv_at hl 1 rfl) ?_
      refine va_get (D := D) (ci := 11) (v := .ref h0_now) (C := RX12) (T := TX12) (N := 48) hx hb hts k2 hown hK.1 hP 0 rfl rfl 14 (by decide) k1 (fun _ h9 => h9) rfl dX12_holds_317 ?_
      refine lv_iload_n hx hb dX12_holds_320 rfl (lv_at hl 2 rfl) ?_
      refine lv_iconst (v := 3) hx hb dX12_holds_321 (by decide) ?_
      refine lv_iadd hx hb dX12_holds_322 ?_
      refine lv_topi (fun x_159 ex_159 => ?_)
      have h_160 : rg 139 263 x_159 := by rw [ex_159]; exact rg_add hy286_0 (⟨by decide, by decide⟩ : rg 3 3 (3 : Int32)) (by decide) (by decide) (by decide) (by decide)
      have l_161 : lq x_159.toInt (y286_0.toInt + 3) := lqm (by rw [ex_159]; have q := tadd hy286_0 (⟨by decide, by decide⟩ : rg 3 3 (3 : Int32)) (by decide) (by decide); have r1 := lqe (lqm (by decide) : lq (3 : Int32).toInt 3); omega)
      refine va_iald hx hb hK.1 hP 1 0 rfl rfl (rg_in h_160 (by decide) (by decide)) dX12_holds_323 ?_
      refine lv_topi (fun x_162 ex_162 => ?_)
      refine lv_bipush (v := 61) hx hb dX12_holds_324 (by decide) ?_
      refine lv_icmp_ne (tgt := 344) hx hb dX12_holds_326 (by decide) (fun c_163 => ?_) (fun c_163 => ?_)
      · skip
        refine lv_iload hx hb dX12_holds_344 (lv_at hl 0 rfl) ?_
        refine lv_iload hx hb dX12_holds_346 (lv_at hl 3 rfl) ?_
        refine lv_icmp_le (tgt := 355) hx hb dX12_holds_348 (by decide) (fun c_164 => ?_) (fun c_164 => ?_)
        · skip
          have o_165 : rl 0 y286_2 y286_1 := rl_le c_164
          refine lv_iconst (v := 0) hx hb dX12_holds_355 (by decide) ?_
          exact oE_i hx hb hr (by decide) hlocks hP hD hS (h0_lowest, h0_highest) [0, 1] rfl (by decide) (Or.inr (rfl)) (Nat.le_of_ble_eq_true rfl) (Nat.le_of_ble_eq_true rfl) dX12_holds_356
        · skip
          have o_166 : rl 1 y286_1 y286_2 := rl_nle c_164
          have h_167 : rg (-2147483648) 2147483646 y286_1 := rl_x o_166 (rga y286_1) (rga y286_2) (by decide) (by decide)
          have h_168 : rg (-2147483647) 2147483647 y286_2 := rl_y o_166 (rga y286_1) (rga y286_2) (by decide) (by decide)
          refine lv_iconst (v := 1) hx hb dX12_holds_351 (by decide) ?_
          refine lv_goto (tgt := 356) hx hb dX12_holds_352 (by decide) ?_
          exact oE_i hx hb hr (by decide) hlocks hP hD hS (h0_lowest, h0_highest) [0, 1] rfl (by decide) (Or.inl rfl) (Nat.le_of_ble_eq_true rfl) (Nat.le_of_ble_eq_true rfl) dX12_holds_356
      · skip
        have o_169 : rl 0 x_162 61 := rl_eq c_163
        have h_170 : rg (-2147483648) 61 x_162 := rl_x o_169 (rga x_162) (⟨by decide, by decide⟩ : rg 61 61 (61 : Int32)) (by decide) (by decide)
        have o_171 : rl 0 61 x_162 := rl_eq c_163.symm
        have h_172 : rg 61 61 x_162 := rl_y o_171 (⟨by decide, by decide⟩ : rg 61 61 (61 : Int32)) h_170 (by decide) (by decide)
        refine lv_iload hx hb dX12_holds_329 (lv_at hl 0 rfl) ?_
        refine lv_iload hx hb dX12_holds_331 (lv_at hl 3 rfl) ?_
        refine lv_icmp_ne (tgt := 340) hx hb dX12_holds_333 (by decide) (fun c_173 => ?_) (fun c_173 => ?_)
        · skip
          refine lv_iconst (v := 0) hx hb dX12_holds_340 (by decide) ?_
          refine lv_goto (tgt := 356) hx hb dX12_holds_341 (by decide) ?_
          exact oE_i hx hb hr (by decide) hlocks hP hD hS (h0_lowest, h0_highest) [0, 1] rfl (by decide) (Or.inr (rfl)) (Nat.le_of_ble_eq_true rfl) (Nat.le_of_ble_eq_true rfl) dX12_holds_356
        · skip
          have o_174 : rl 0 y286_2 y286_1 := rl_eq c_173
          have o_175 : rl 0 y286_1 y286_2 := rl_eq c_173.symm
          refine lv_iconst (v := 1) hx hb dX12_holds_336 (by decide) ?_
          refine lv_goto (tgt := 356) hx hb dX12_holds_337 (by decide) ?_
          exact oE_i hx hb hr (by decide) hlocks hP hD hS (h0_lowest, h0_highest) [0, 1] rfl (by decide) (Or.inl rfl) (Nat.le_of_ble_eq_true rfl) (Nat.le_of_ble_eq_true rfl) dX12_holds_356
    · skip
      have o_176 : rl 0 x_157 60 := rl_eq c_158
      have h_177 : rg (-2147483648) 60 x_157 := rl_x o_176 (rga x_157) (⟨by decide, by decide⟩ : rg 60 60 (60 : Int32)) (by decide) (by decide)
      have o_178 : rl 0 60 x_157 := rl_eq c_158.symm
      have h_179 : rg 60 60 x_157 := rl_y o_178 (⟨by decide, by decide⟩ : rg 60 60 (60 : Int32)) h_177 (by decide) (by decide)
      refine lv_iload hx hb dX12_holds_301 (lv_at hl 0 rfl) ?_
      refine lv_iload hx hb dX12_holds_303 (lv_at hl 3 rfl) ?_
      refine lv_icmp_ge (tgt := 312) hx hb dX12_holds_305 (by decide) (fun c_180 => ?_) (fun c_180 => ?_)
      · skip
        have o_181 : rl 0 y286_1 y286_2 := rl_le c_180
        refine lv_iconst (v := 0) hx hb dX12_holds_312 (by decide) ?_
        refine lv_goto (tgt := 356) hx hb dX12_holds_313 (by decide) ?_
        exact oE_i hx hb hr (by decide) hlocks hP hD hS (h0_lowest, h0_highest) [0, 1] rfl (by decide) (Or.inr (rfl)) (Nat.le_of_ble_eq_true rfl) (Nat.le_of_ble_eq_true rfl) dX12_holds_356
      · skip
        have o_182 : rl 1 y286_2 y286_1 := rl_nle c_180
        have h_183 : rg (-2147483648) 2147483646 y286_2 := rl_x o_182 (rga y286_2) (rga y286_1) (by decide) (by decide)
        have h_184 : rg (-2147483647) 2147483647 y286_1 := rl_y o_182 (rga y286_2) (rga y286_1) (by decide) (by decide)
        refine lv_iconst (v := 1) hx hb dX12_holds_308 (by decide) ?_
        refine lv_goto (tgt := 356) hx hb dX12_holds_309 (by decide) ?_
        exact oE_i hx hb hr (by decide) hlocks hP hD hS (h0_lowest, h0_highest) [0, 1] rfl (by decide) (Or.inl rfl) (Nat.le_of_ble_eq_true rfl) (Nat.le_of_ble_eq_true rfl) dX12_holds_356
  refine lv_sipush (v := 136) hx hb dX12_holds_0 (by decide) ?_
  refine lv_iconst (v := 4) hx hb dX12_holds_3 (by decide) ?_
  refine lv_iload_n hx hb dX12_holds_4 rfl (lv_at hl 1 rfl) ?_
  refine lv_imul hx hb dX12_holds_5 ?_
  refine lv_topi (fun x_185 ex_185 => ?_)
  have h_186 : rg 0 124 x_185 := by rw [ex_185]; exact rg_mul' (k := 4) i_a1 (by decide) (by decide) (by decide) (by decide) (by decide) (by decide)
  have l_187 : lq x_185.toInt (4 * a1.toInt) := lqm (by rw [ex_185]; have q := tmul' (k := 4) (y := 4) i_a1 (by decide) (by decide) (by decide) (by decide); omega)
  refine lv_iadd hx hb dX12_holds_6 ?_
  refine lv_topi (fun x_188 ex_188 => ?_)
  have h_189 : rg 136 260 x_188 := by rw [ex_188]; exact rg_add (⟨by decide, by decide⟩ : rg 136 136 (136 : Int32)) h_186 (by decide) (by decide) (by decide) (by decide)
  have l_190 : lq x_188.toInt (4 * a1.toInt + 136) := lqm (by rw [ex_188]; have q := tadd (⟨by decide, by decide⟩ : rg 136 136 (136 : Int32)) h_186 (by decide) (by decide); have r0 := lqe (lqm (by decide) : lq (136 : Int32).toInt 136); have r1 := lqe l_187; omega)
  refine lv_istore_n (lv' := [(3, .int x_188), (0, .ref h0), (1, .int a1), (2, .int a2)]) hx hb dX12_holds_7 rfl hl (by decide) rfl (fun ls hl => ?_)
  refine lv_aload_n hx hb dX12_holds_8 rfl (lv_at hl 1 rfl) ?_
  refine va_get (D := D) (ci := 11) (v := .ref h0_now) (C := RX12) (T := TX12) (N := 48) hx hb hts k2 hown hK.1 hP 0 rfl rfl 14 (by decide) k1 (fun _ h9 => h9) rfl dX12_holds_9 ?_
  refine lv_iload_n hx hb dX12_holds_12 rfl (lv_at hl 0 rfl) ?_
  refine lv_iconst (v := 1) hx hb dX12_holds_13 (by decide) ?_
  refine lv_iadd hx hb dX12_holds_14 ?_
  refine lv_topi (fun x_191 ex_191 => ?_)
  have h_192 : rg 137 261 x_191 := by rw [ex_191]; exact rg_add h_189 (⟨by decide, by decide⟩ : rg 1 1 (1 : Int32)) (by decide) (by decide) (by decide) (by decide)
  have l_193 : lq x_191.toInt (4 * a1.toInt + 137) := lqm (by rw [ex_191]; have q := tadd h_189 (⟨by decide, by decide⟩ : rg 1 1 (1 : Int32)) (by decide) (by decide); have r0 := lqe l_190; have r1 := lqe (lqm (by decide) : lq (1 : Int32).toInt 1); omega)
  refine va_iald hx hb hK.1 hP 1 0 rfl rfl (rg_in h_192 (by decide) (by decide)) dX12_holds_15 ?_
  refine lv_topi (fun x_194 ex_194 => ?_)
  refine lv_istore (lv' := [(4, .int x_194), (3, .int x_188), (0, .ref h0), (1, .int a1), (2, .int a2)]) hx hb dX12_holds_16 hl (by decide) rfl (fun ls hl => ?_)
  refine lv_aload_n hx hb dX12_holds_18 rfl (lv_at hl 2 rfl) ?_
  refine va_get (D := D) (ci := 11) (v := .ref h0_now) (C := RX12) (T := TX12) (N := 48) hx hb hts k2 hown hK.1 hP 0 rfl rfl 14 (by decide) k1 (fun _ h9 => h9) rfl dX12_holds_19 ?_
  refine lv_iload_n hx hb dX12_holds_22 rfl (lv_at hl 1 rfl) ?_
  refine lv_iconst (v := 2) hx hb dX12_holds_23 (by decide) ?_
  refine lv_iadd hx hb dX12_holds_24 ?_
  refine lv_topi (fun x_195 ex_195 => ?_)
  have h_196 : rg 138 262 x_195 := by rw [ex_195]; exact rg_add h_189 (⟨by decide, by decide⟩ : rg 2 2 (2 : Int32)) (by decide) (by decide) (by decide) (by decide)
  have l_197 : lq x_195.toInt (4 * a1.toInt + 138) := lqm (by rw [ex_195]; have q := tadd h_189 (⟨by decide, by decide⟩ : rg 2 2 (2 : Int32)) (by decide) (by decide); have r0 := lqe l_190; have r1 := lqe (lqm (by decide) : lq (2 : Int32).toInt 2); omega)
  refine va_iald hx hb hK.1 hP 1 0 rfl rfl (rg_in h_196 (by decide) (by decide)) dX12_holds_25 ?_
  refine lv_topi (fun x_198 ex_198 => ?_)
  refine lv_istore (lv' := [(5, .int x_198), (4, .int x_194), (3, .int x_188), (0, .ref h0), (1, .int a1), (2, .int a2)]) hx hb dX12_holds_26 hl (by decide) rfl (fun ls hl => ?_)
  refine lv_aload_n hx hb dX12_holds_28 rfl (lv_at hl 3 rfl) ?_
  refine va_get (D := D) (ci := 11) (v := .ref h0_now) (C := RX12) (T := TX12) (N := 48) hx hb hts k2 hown hK.1 hP 0 rfl rfl 14 (by decide) k1 (fun _ h9 => h9) rfl dX12_holds_29 ?_
  refine lv_iload_n hx hb dX12_holds_32 rfl (lv_at hl 2 rfl) ?_
  refine va_iald hx hb hK.1 hP 1 0 rfl rfl (rg_in h_189 (by decide) (by decide)) dX12_holds_33 ?_
  refine lv_topi (fun x_199 ex_199 => ?_)
  have ht := tokb_at cu_tokw i_a1 (by decide) (by decide) ex_199 ex_194 ex_198 l_190 l_193 l_197
  by_cases c_200 : x_199 = 1
  · skip
    refine oti 1 c_200 ?_
    refine lv_lookup (off := 66) (tgt := 100) hx hb dX12_holds_34 (by decide) (by decide) (by decide) ?_
    have h_201 : rg 0 30 x_194 := by have q := rg_cl i_a1 (by decide); have q1 := i_a1.2; have q2 := ht.1 c_200; exact ⟨by omega, by omega⟩
    refine lv_aload_n hx hb dX12_holds_100 rfl (lv_at hl 3 rfl) ?_
    refine lv_iload hx hb dX12_holds_101 (lv_at hl 1 rfl) ?_
    refine lv_iload_n hx hb dX12_holds_103 rfl (lv_at hl 5 rfl) ?_
    refine oC_i (Wc := [(h0, .inr (11, [.int h0_thrown, .ref h0_tape, .int h0_taped, .int h0_size, .int h0_limit, .int h0_to, .int h0_from, .int h0_kind, .int h0_number, .int h0_sign, .int h0_fault, .int h0_place, .long h0_word, .int h0_told, .ref h0_now, .ref h0_read, .ref h0_kept, .ref h0_snaps, .ref h0_aside, .ref h0_name, .ref h0_readName, .ref h0_keptName, .ref h0_isKept, .ref h0_onces, .int h0_snapMany, .int h0_lowest, .int h0_highest, .int h0_agreed, .int h0_jurors, .int h0_panelled, .ref h0_inSets, .int h0_surely, .int h0_asked, .ref h0_frees, .int h0_struck, .int h0_beating, .ref h0_text, .int h0_texts, .int h0_seed, .ref h0_line, .ref h0_written, .int h0_lineMany, .int h0_hasWritten, .ref h0_node, .int h0_nodes, .int h0_onesMany, .int h0_within, .int h0_top])), (aI ca h0_now 376 F_h0_now)]) (Wr := []) (va_runV (As := [.int x_194, .int a2]) (rest := []) ⟨hx, hb, hml, hown, hts⟩ (s_X12_holds_31 l D ca H.size h0 x_194 a2 h0_thrown h0_tape h0_taped h0_size h0_limit h0_to h0_from h0_kind h0_number h0_sign h0_fault h0_place h0_word h0_told h0_now h0_read h0_kept h0_snaps h0_aside h0_name h0_readName h0_keptName h0_isKept h0_onces h0_snapMany h0_lowest h0_highest h0_agreed h0_jurors h0_panelled h0_inSets h0_surely h0_asked h0_frees h0_struck h0_beating h0_text h0_texts h0_seed h0_line h0_written h0_lineMany h0_hasWritten h0_node h0_nodes h0_onesMany h0_within h0_top F_h0_now h_201 i_a2 i_h0_taped i_h0_size i_h0_to i_h0_kind i_h0_snapMany i_h0_texts i_h0_lineMany i_h0_hasWritten i_h0_nodes i_h0_onesMany s_h0_now_0 s_h0_now_1 s_h0_now_2 s_h0_now_3 s_h0_now_4 s_h0_now_5 s_h0_now_6 s_h0_now_7 cu_tokw) (cwV 2 hts gX12_holds_X12_holds rfl rfl rfl (by decide +kernel) ⟨Nat.le_of_ble_eq_true rfl, Nat.le_of_ble_eq_true rfl⟩) (oPV (C := RX12) hK hP hD [0, 1] rfl (by decide) 0 rfl (ci := 11) rfl rfl) rfl rfl hl.1 rfl (lv_room (Nat.le_of_ble_eq_true rfl)) dX12_holds_104 ⟨Nat.le_of_ble_eq_true rfl, Nat.le_of_ble_eq_true rfl⟩) hP hD hS hA [0, 1] [] rfl rfl (by decide) (by decide) (fun r_202 u H locs w_203 hP hD hS => ?_)
    obtain ⟨u_204, u_205⟩ := u
    have hP : va_P D vwCl [(h0, .inr (11, [.int h0_thrown, .ref h0_tape, .int h0_taped, .int h0_size, .int h0_limit, .int h0_to, .int h0_from, .int h0_kind, .int h0_number, .int h0_sign, .int h0_fault, .int h0_place, .long h0_word, .int h0_told, .ref h0_now, .ref h0_read, .ref h0_kept, .ref h0_snaps, .ref h0_aside, .ref h0_name, .ref h0_readName, .ref h0_keptName, .ref h0_isKept, .ref h0_onces, .int h0_snapMany, .int u_204, .int u_205, .int h0_agreed, .int h0_jurors, .int h0_panelled, .ref h0_inSets, .int h0_surely, .int h0_asked, .ref h0_frees, .int h0_struck, .int h0_beating, .ref h0_text, .int h0_texts, .int h0_seed, .ref h0_line, .ref h0_written, .int h0_lineMany, .int h0_hasWritten, .ref h0_node, .int h0_nodes, .int h0_onesMany, .int h0_within, .int h0_top])), (aI ca h0_now 376 F_h0_now)] H := hP
    have hD : va_D A [(h0, .inr (11, [.int h0_thrown, .ref h0_tape, .int h0_taped, .int h0_size, .int h0_limit, .int h0_to, .int h0_from, .int h0_kind, .int h0_number, .int h0_sign, .int h0_fault, .int h0_place, .long h0_word, .int h0_told, .ref h0_now, .ref h0_read, .ref h0_kept, .ref h0_snaps, .ref h0_aside, .ref h0_name, .ref h0_readName, .ref h0_keptName, .ref h0_isKept, .ref h0_onces, .int h0_snapMany, .int u_204, .int u_205, .int h0_agreed, .int h0_jurors, .int h0_panelled, .ref h0_inSets, .int h0_surely, .int h0_asked, .ref h0_frees, .int h0_struck, .int h0_beating, .ref h0_text, .int h0_texts, .int h0_seed, .ref h0_line, .ref h0_written, .int h0_lineMany, .int h0_hasWritten, .ref h0_node, .int h0_nodes, .int h0_onesMany, .int h0_within, .int h0_top])), (aI ca h0_now 376 F_h0_now)] := hD
    try dsimp only at w_203
    rcases w_203 with h_206 | h_207
    · skip
      subst h_206
      refine lv_if_ne (tgt := 114) hx hb dX12_holds_107 (by decide) (fun c => absurd (by decide) c) (fun _ => ?_)
      refine lv_iconst (v := 1) hx hb dX12_holds_110 (by decide) ?_
      refine lv_goto (tgt := 115) hx hb dX12_holds_111 (by decide) ?_
      exact oE_i hx hb hr (by decide) hlocks hP hD hS (u_204, u_205) [0, 1] rfl (by decide) (Or.inl rfl) (Nat.le_of_ble_eq_true rfl) (Nat.le_of_ble_eq_true rfl) dX12_holds_115
    · skip
      subst h_207
      refine lv_if_ne (tgt := 114) hx hb dX12_holds_107 (by decide) (fun _ => ?_) (fun c => absurd c (by decide))
      refine lv_iconst (v := 0) hx hb dX12_holds_114 (by decide) ?_
      exact oE_i hx hb hr (by decide) hlocks hP hD hS (u_204, u_205) [0, 1] rfl (by decide) (Or.inr (rfl)) (Nat.le_of_ble_eq_true rfl) (Nat.le_of_ble_eq_true rfl) dX12_holds_115
  by_cases c_208 : x_199 = 2
  · skip
    refine oti 2 c_208 ?_
    refine lv_lookup (off := 82) (tgt := 116) hx hb dX12_holds_34 (by decide) (by decide) (by decide) ?_
    have h_209 : rg 0 30 x_194 := by have q := rg_cl i_a1 (by decide); have q1 := i_a1.2; have q2 := (ht.2.1 (Or.inl c_208)).1; exact ⟨by omega, by omega⟩
    have h_210 : rg 0 30 x_198 := by have q := rg_cl i_a1 (by decide); have q1 := i_a1.2; have q2 := (ht.2.1 (Or.inl c_208)).2; exact ⟨by omega, by omega⟩
    refine lv_aload_n hx hb dX12_holds_116 rfl (lv_at hl 3 rfl) ?_
    refine lv_iload hx hb dX12_holds_117 (lv_at hl 1 rfl) ?_
    refine lv_iload_n hx hb dX12_holds_119 rfl (lv_at hl 5 rfl) ?_
    refine oC_i (Wc := [(h0, .inr (11, [.int h0_thrown, .ref h0_tape, .int h0_taped, .int h0_size, .int h0_limit, .int h0_to, .int h0_from, .int h0_kind, .int h0_number, .int h0_sign, .int h0_fault, .int h0_place, .long h0_word, .int h0_told, .ref h0_now, .ref h0_read, .ref h0_kept, .ref h0_snaps, .ref h0_aside, .ref h0_name, .ref h0_readName, .ref h0_keptName, .ref h0_isKept, .ref h0_onces, .int h0_snapMany, .int h0_lowest, .int h0_highest, .int h0_agreed, .int h0_jurors, .int h0_panelled, .ref h0_inSets, .int h0_surely, .int h0_asked, .ref h0_frees, .int h0_struck, .int h0_beating, .ref h0_text, .int h0_texts, .int h0_seed, .ref h0_line, .ref h0_written, .int h0_lineMany, .int h0_hasWritten, .ref h0_node, .int h0_nodes, .int h0_onesMany, .int h0_within, .int h0_top])), (aI ca h0_now 376 F_h0_now)]) (Wr := []) (va_runV (As := [.int x_194, .int a2]) (rest := []) ⟨hx, hb, hml, hown, hts⟩ (s_X12_holds_31 l D ca H.size h0 x_194 a2 h0_thrown h0_tape h0_taped h0_size h0_limit h0_to h0_from h0_kind h0_number h0_sign h0_fault h0_place h0_word h0_told h0_now h0_read h0_kept h0_snaps h0_aside h0_name h0_readName h0_keptName h0_isKept h0_onces h0_snapMany h0_lowest h0_highest h0_agreed h0_jurors h0_panelled h0_inSets h0_surely h0_asked h0_frees h0_struck h0_beating h0_text h0_texts h0_seed h0_line h0_written h0_lineMany h0_hasWritten h0_node h0_nodes h0_onesMany h0_within h0_top F_h0_now h_209 i_a2 i_h0_taped i_h0_size i_h0_to i_h0_kind i_h0_snapMany i_h0_texts i_h0_lineMany i_h0_hasWritten i_h0_nodes i_h0_onesMany s_h0_now_0 s_h0_now_1 s_h0_now_2 s_h0_now_3 s_h0_now_4 s_h0_now_5 s_h0_now_6 s_h0_now_7 cu_tokw) (cwV 2 hts gX12_holds_X12_holds rfl rfl rfl (by decide +kernel) ⟨Nat.le_of_ble_eq_true rfl, Nat.le_of_ble_eq_true rfl⟩) (oPV (C := RX12) hK hP hD [0, 1] rfl (by decide) 0 rfl (ci := 11) rfl rfl) rfl rfl hl.1 rfl (lv_room (Nat.le_of_ble_eq_true rfl)) dX12_holds_120 ⟨Nat.le_of_ble_eq_true rfl, Nat.le_of_ble_eq_true rfl⟩) hP hD hS hA [0, 1] [] rfl rfl (by decide) (by decide) (fun r_211 u H locs w_212 hP hD hS => ?_)
    obtain ⟨u_213, u_214⟩ := u
    have hP : va_P D vwCl [(h0, .inr (11, [.int h0_thrown, .ref h0_tape, .int h0_taped, .int h0_size, .int h0_limit, .int h0_to, .int h0_from, .int h0_kind, .int h0_number, .int h0_sign, .int h0_fault, .int h0_place, .long h0_word, .int h0_told, .ref h0_now, .ref h0_read, .ref h0_kept, .ref h0_snaps, .ref h0_aside, .ref h0_name, .ref h0_readName, .ref h0_keptName, .ref h0_isKept, .ref h0_onces, .int h0_snapMany, .int u_213, .int u_214, .int h0_agreed, .int h0_jurors, .int h0_panelled, .ref h0_inSets, .int h0_surely, .int h0_asked, .ref h0_frees, .int h0_struck, .int h0_beating, .ref h0_text, .int h0_texts, .int h0_seed, .ref h0_line, .ref h0_written, .int h0_lineMany, .int h0_hasWritten, .ref h0_node, .int h0_nodes, .int h0_onesMany, .int h0_within, .int h0_top])), (aI ca h0_now 376 F_h0_now)] H := hP
    have hD : va_D A [(h0, .inr (11, [.int h0_thrown, .ref h0_tape, .int h0_taped, .int h0_size, .int h0_limit, .int h0_to, .int h0_from, .int h0_kind, .int h0_number, .int h0_sign, .int h0_fault, .int h0_place, .long h0_word, .int h0_told, .ref h0_now, .ref h0_read, .ref h0_kept, .ref h0_snaps, .ref h0_aside, .ref h0_name, .ref h0_readName, .ref h0_keptName, .ref h0_isKept, .ref h0_onces, .int h0_snapMany, .int u_213, .int u_214, .int h0_agreed, .int h0_jurors, .int h0_panelled, .ref h0_inSets, .int h0_surely, .int h0_asked, .ref h0_frees, .int h0_struck, .int h0_beating, .ref h0_text, .int h0_texts, .int h0_seed, .ref h0_line, .ref h0_written, .int h0_lineMany, .int h0_hasWritten, .ref h0_node, .int h0_nodes, .int h0_onesMany, .int h0_within, .int h0_top])), (aI ca h0_now 376 F_h0_now)] := hD
    try dsimp only at w_212
    rcases w_212 with h_215 | h_216
    · skip
      subst h_215
      refine lv_if_eq (tgt := 140) hx hb dX12_holds_123 (by decide) (fun _ => ?_) (fun c => absurd (by decide) c)
      refine lv_iconst (v := 0) hx hb dX12_holds_140 (by decide) ?_
      exact oE_i hx hb hr (by decide) hlocks hP hD hS (u_213, u_214) [0, 1] rfl (by decide) (Or.inr (rfl)) (Nat.le_of_ble_eq_true rfl) (Nat.le_of_ble_eq_true rfl) dX12_holds_141
    · skip
      subst h_216
      refine lv_if_eq (tgt := 140) hx hb dX12_holds_123 (by decide) (fun c => absurd c (by decide)) (fun _ => ?_)
      refine lv_aload_n hx hb dX12_holds_126 rfl (lv_at hl 3 rfl) ?_
      refine lv_iload hx hb dX12_holds_127 (lv_at hl 0 rfl) ?_
      refine lv_iload_n hx hb dX12_holds_129 rfl (lv_at hl 5 rfl) ?_
      refine oC_i (Wc := [(h0, .inr (11, [.int h0_thrown, .ref h0_tape, .int h0_taped, .int h0_size, .int h0_limit, .int h0_to, .int h0_from, .int h0_kind, .int h0_number, .int h0_sign, .int h0_fault, .int h0_place, .long h0_word, .int h0_told, .ref h0_now, .ref h0_read, .ref h0_kept, .ref h0_snaps, .ref h0_aside, .ref h0_name, .ref h0_readName, .ref h0_keptName, .ref h0_isKept, .ref h0_onces, .int h0_snapMany, .int u_213, .int u_214, .int h0_agreed, .int h0_jurors, .int h0_panelled, .ref h0_inSets, .int h0_surely, .int h0_asked, .ref h0_frees, .int h0_struck, .int h0_beating, .ref h0_text, .int h0_texts, .int h0_seed, .ref h0_line, .ref h0_written, .int h0_lineMany, .int h0_hasWritten, .ref h0_node, .int h0_nodes, .int h0_onesMany, .int h0_within, .int h0_top])), (aI ca h0_now 376 F_h0_now)]) (Wr := []) (va_runV (As := [.int x_198, .int a2]) (rest := []) ⟨hx, hb, hml, hown, hts⟩ (s_X12_holds_31 l D ca H.size h0 x_198 a2 h0_thrown h0_tape h0_taped h0_size h0_limit h0_to h0_from h0_kind h0_number h0_sign h0_fault h0_place h0_word h0_told h0_now h0_read h0_kept h0_snaps h0_aside h0_name h0_readName h0_keptName h0_isKept h0_onces h0_snapMany u_213 u_214 h0_agreed h0_jurors h0_panelled h0_inSets h0_surely h0_asked h0_frees h0_struck h0_beating h0_text h0_texts h0_seed h0_line h0_written h0_lineMany h0_hasWritten h0_node h0_nodes h0_onesMany h0_within h0_top F_h0_now h_210 i_a2 i_h0_taped i_h0_size i_h0_to i_h0_kind i_h0_snapMany i_h0_texts i_h0_lineMany i_h0_hasWritten i_h0_nodes i_h0_onesMany s_h0_now_0 s_h0_now_1 s_h0_now_2 s_h0_now_3 s_h0_now_4 s_h0_now_5 s_h0_now_6 s_h0_now_7 cu_tokw) (cwV 2 hts gX12_holds_X12_holds rfl rfl rfl (by decide +kernel) ⟨Nat.le_of_ble_eq_true rfl, Nat.le_of_ble_eq_true rfl⟩) (oPV (C := RX12) hK hP hD [0, 1] rfl (by decide) 0 rfl (ci := 11) rfl rfl) rfl rfl hl.1 rfl (lv_room (Nat.le_of_ble_eq_true rfl)) dX12_holds_130 ⟨Nat.le_of_ble_eq_true rfl, Nat.le_of_ble_eq_true rfl⟩) hP hD hS hA [0, 1] [] rfl rfl (by decide) (by decide) (fun r_217 u H locs w_218 hP hD hS => ?_)
      obtain ⟨u_219, u_220⟩ := u
      have hP : va_P D vwCl [(h0, .inr (11, [.int h0_thrown, .ref h0_tape, .int h0_taped, .int h0_size, .int h0_limit, .int h0_to, .int h0_from, .int h0_kind, .int h0_number, .int h0_sign, .int h0_fault, .int h0_place, .long h0_word, .int h0_told, .ref h0_now, .ref h0_read, .ref h0_kept, .ref h0_snaps, .ref h0_aside, .ref h0_name, .ref h0_readName, .ref h0_keptName, .ref h0_isKept, .ref h0_onces, .int h0_snapMany, .int u_219, .int u_220, .int h0_agreed, .int h0_jurors, .int h0_panelled, .ref h0_inSets, .int h0_surely, .int h0_asked, .ref h0_frees, .int h0_struck, .int h0_beating, .ref h0_text, .int h0_texts, .int h0_seed, .ref h0_line, .ref h0_written, .int h0_lineMany, .int h0_hasWritten, .ref h0_node, .int h0_nodes, .int h0_onesMany, .int h0_within, .int h0_top])), (aI ca h0_now 376 F_h0_now)] H := hP
      have hD : va_D A [(h0, .inr (11, [.int h0_thrown, .ref h0_tape, .int h0_taped, .int h0_size, .int h0_limit, .int h0_to, .int h0_from, .int h0_kind, .int h0_number, .int h0_sign, .int h0_fault, .int h0_place, .long h0_word, .int h0_told, .ref h0_now, .ref h0_read, .ref h0_kept, .ref h0_snaps, .ref h0_aside, .ref h0_name, .ref h0_readName, .ref h0_keptName, .ref h0_isKept, .ref h0_onces, .int h0_snapMany, .int u_219, .int u_220, .int h0_agreed, .int h0_jurors, .int h0_panelled, .ref h0_inSets, .int h0_surely, .int h0_asked, .ref h0_frees, .int h0_struck, .int h0_beating, .ref h0_text, .int h0_texts, .int h0_seed, .ref h0_line, .ref h0_written, .int h0_lineMany, .int h0_hasWritten, .ref h0_node, .int h0_nodes, .int h0_onesMany, .int h0_within, .int h0_top])), (aI ca h0_now 376 F_h0_now)] := hD
      try dsimp only at w_218
      rcases w_218 with h_221 | h_222
      · skip
        subst h_221
        refine lv_if_eq (tgt := 140) hx hb dX12_holds_133 (by decide) (fun _ => ?_) (fun c => absurd (by decide) c)
        refine lv_iconst (v := 0) hx hb dX12_holds_140 (by decide) ?_
        exact oE_i hx hb hr (by decide) hlocks hP hD hS (u_219, u_220) [0, 1] rfl (by decide) (Or.inr (rfl)) (Nat.le_of_ble_eq_true rfl) (Nat.le_of_ble_eq_true rfl) dX12_holds_141
      · skip
        subst h_222
        refine lv_if_eq (tgt := 140) hx hb dX12_holds_133 (by decide) (fun c => absurd c (by decide)) (fun _ => ?_)
        refine lv_iconst (v := 1) hx hb dX12_holds_136 (by decide) ?_
        refine lv_goto (tgt := 141) hx hb dX12_holds_137 (by decide) ?_
        exact oE_i hx hb hr (by decide) hlocks hP hD hS (u_219, u_220) [0, 1] rfl (by decide) (Or.inl rfl) (Nat.le_of_ble_eq_true rfl) (Nat.le_of_ble_eq_true rfl) dX12_holds_141
  by_cases c_223 : x_199 = 3
  · skip
    refine oti 3 c_223 ?_
    refine lv_lookup (off := 108) (tgt := 142) hx hb dX12_holds_34 (by decide) (by decide) (by decide) ?_
    have h_224 : rg 0 30 x_194 := by have q := rg_cl i_a1 (by decide); have q1 := i_a1.2; have q2 := (ht.2.1 (Or.inr c_223)).1; exact ⟨by omega, by omega⟩
    have h_225 : rg 0 30 x_198 := by have q := rg_cl i_a1 (by decide); have q1 := i_a1.2; have q2 := (ht.2.1 (Or.inr c_223)).2; exact ⟨by omega, by omega⟩
    refine lv_aload_n hx hb dX12_holds_142 rfl (lv_at hl 3 rfl) ?_
    refine lv_iload hx hb dX12_holds_143 (lv_at hl 1 rfl) ?_
    refine lv_iload_n hx hb dX12_holds_145 rfl (lv_at hl 5 rfl) ?_
    refine oC_i (Wc := [(h0, .inr (11, [.int h0_thrown, .ref h0_tape, .int h0_taped, .int h0_size, .int h0_limit, .int h0_to, .int h0_from, .int h0_kind, .int h0_number, .int h0_sign, .int h0_fault, .int h0_place, .long h0_word, .int h0_told, .ref h0_now, .ref h0_read, .ref h0_kept, .ref h0_snaps, .ref h0_aside, .ref h0_name, .ref h0_readName, .ref h0_keptName, .ref h0_isKept, .ref h0_onces, .int h0_snapMany, .int h0_lowest, .int h0_highest, .int h0_agreed, .int h0_jurors, .int h0_panelled, .ref h0_inSets, .int h0_surely, .int h0_asked, .ref h0_frees, .int h0_struck, .int h0_beating, .ref h0_text, .int h0_texts, .int h0_seed, .ref h0_line, .ref h0_written, .int h0_lineMany, .int h0_hasWritten, .ref h0_node, .int h0_nodes, .int h0_onesMany, .int h0_within, .int h0_top])), (aI ca h0_now 376 F_h0_now)]) (Wr := []) (va_runV (As := [.int x_194, .int a2]) (rest := []) ⟨hx, hb, hml, hown, hts⟩ (s_X12_holds_31 l D ca H.size h0 x_194 a2 h0_thrown h0_tape h0_taped h0_size h0_limit h0_to h0_from h0_kind h0_number h0_sign h0_fault h0_place h0_word h0_told h0_now h0_read h0_kept h0_snaps h0_aside h0_name h0_readName h0_keptName h0_isKept h0_onces h0_snapMany h0_lowest h0_highest h0_agreed h0_jurors h0_panelled h0_inSets h0_surely h0_asked h0_frees h0_struck h0_beating h0_text h0_texts h0_seed h0_line h0_written h0_lineMany h0_hasWritten h0_node h0_nodes h0_onesMany h0_within h0_top F_h0_now h_224 i_a2 i_h0_taped i_h0_size i_h0_to i_h0_kind i_h0_snapMany i_h0_texts i_h0_lineMany i_h0_hasWritten i_h0_nodes i_h0_onesMany s_h0_now_0 s_h0_now_1 s_h0_now_2 s_h0_now_3 s_h0_now_4 s_h0_now_5 s_h0_now_6 s_h0_now_7 cu_tokw) (cwV 2 hts gX12_holds_X12_holds rfl rfl rfl (by decide +kernel) ⟨Nat.le_of_ble_eq_true rfl, Nat.le_of_ble_eq_true rfl⟩) (oPV (C := RX12) hK hP hD [0, 1] rfl (by decide) 0 rfl (ci := 11) rfl rfl) rfl rfl hl.1 rfl (lv_room (Nat.le_of_ble_eq_true rfl)) dX12_holds_146 ⟨Nat.le_of_ble_eq_true rfl, Nat.le_of_ble_eq_true rfl⟩) hP hD hS hA [0, 1] [] rfl rfl (by decide) (by decide) (fun r_226 u H locs w_227 hP hD hS => ?_)
    obtain ⟨u_228, u_229⟩ := u
    have hP : va_P D vwCl [(h0, .inr (11, [.int h0_thrown, .ref h0_tape, .int h0_taped, .int h0_size, .int h0_limit, .int h0_to, .int h0_from, .int h0_kind, .int h0_number, .int h0_sign, .int h0_fault, .int h0_place, .long h0_word, .int h0_told, .ref h0_now, .ref h0_read, .ref h0_kept, .ref h0_snaps, .ref h0_aside, .ref h0_name, .ref h0_readName, .ref h0_keptName, .ref h0_isKept, .ref h0_onces, .int h0_snapMany, .int u_228, .int u_229, .int h0_agreed, .int h0_jurors, .int h0_panelled, .ref h0_inSets, .int h0_surely, .int h0_asked, .ref h0_frees, .int h0_struck, .int h0_beating, .ref h0_text, .int h0_texts, .int h0_seed, .ref h0_line, .ref h0_written, .int h0_lineMany, .int h0_hasWritten, .ref h0_node, .int h0_nodes, .int h0_onesMany, .int h0_within, .int h0_top])), (aI ca h0_now 376 F_h0_now)] H := hP
    have hD : va_D A [(h0, .inr (11, [.int h0_thrown, .ref h0_tape, .int h0_taped, .int h0_size, .int h0_limit, .int h0_to, .int h0_from, .int h0_kind, .int h0_number, .int h0_sign, .int h0_fault, .int h0_place, .long h0_word, .int h0_told, .ref h0_now, .ref h0_read, .ref h0_kept, .ref h0_snaps, .ref h0_aside, .ref h0_name, .ref h0_readName, .ref h0_keptName, .ref h0_isKept, .ref h0_onces, .int h0_snapMany, .int u_228, .int u_229, .int h0_agreed, .int h0_jurors, .int h0_panelled, .ref h0_inSets, .int h0_surely, .int h0_asked, .ref h0_frees, .int h0_struck, .int h0_beating, .ref h0_text, .int h0_texts, .int h0_seed, .ref h0_line, .ref h0_written, .int h0_lineMany, .int h0_hasWritten, .ref h0_node, .int h0_nodes, .int h0_onesMany, .int h0_within, .int h0_top])), (aI ca h0_now 376 F_h0_now)] := hD
    try dsimp only at w_227
    rcases w_227 with h_230 | h_231
    · skip
      subst h_230
      refine lv_if_ne (tgt := 162) hx hb dX12_holds_149 (by decide) (fun c => absurd (by decide) c) (fun _ => ?_)
      refine lv_aload_n hx hb dX12_holds_152 rfl (lv_at hl 3 rfl) ?_
      refine lv_iload hx hb dX12_holds_153 (lv_at hl 0 rfl) ?_
      refine lv_iload_n hx hb dX12_holds_155 rfl (lv_at hl 5 rfl) ?_
      refine oC_i (Wc := [(h0, .inr (11, [.int h0_thrown, .ref h0_tape, .int h0_taped, .int h0_size, .int h0_limit, .int h0_to, .int h0_from, .int h0_kind, .int h0_number, .int h0_sign, .int h0_fault, .int h0_place, .long h0_word, .int h0_told, .ref h0_now, .ref h0_read, .ref h0_kept, .ref h0_snaps, .ref h0_aside, .ref h0_name, .ref h0_readName, .ref h0_keptName, .ref h0_isKept, .ref h0_onces, .int h0_snapMany, .int u_228, .int u_229, .int h0_agreed, .int h0_jurors, .int h0_panelled, .ref h0_inSets, .int h0_surely, .int h0_asked, .ref h0_frees, .int h0_struck, .int h0_beating, .ref h0_text, .int h0_texts, .int h0_seed, .ref h0_line, .ref h0_written, .int h0_lineMany, .int h0_hasWritten, .ref h0_node, .int h0_nodes, .int h0_onesMany, .int h0_within, .int h0_top])), (aI ca h0_now 376 F_h0_now)]) (Wr := []) (va_runV (As := [.int x_198, .int a2]) (rest := []) ⟨hx, hb, hml, hown, hts⟩ (s_X12_holds_31 l D ca H.size h0 x_198 a2 h0_thrown h0_tape h0_taped h0_size h0_limit h0_to h0_from h0_kind h0_number h0_sign h0_fault h0_place h0_word h0_told h0_now h0_read h0_kept h0_snaps h0_aside h0_name h0_readName h0_keptName h0_isKept h0_onces h0_snapMany u_228 u_229 h0_agreed h0_jurors h0_panelled h0_inSets h0_surely h0_asked h0_frees h0_struck h0_beating h0_text h0_texts h0_seed h0_line h0_written h0_lineMany h0_hasWritten h0_node h0_nodes h0_onesMany h0_within h0_top F_h0_now h_225 i_a2 i_h0_taped i_h0_size i_h0_to i_h0_kind i_h0_snapMany i_h0_texts i_h0_lineMany i_h0_hasWritten i_h0_nodes i_h0_onesMany s_h0_now_0 s_h0_now_1 s_h0_now_2 s_h0_now_3 s_h0_now_4 s_h0_now_5 s_h0_now_6 s_h0_now_7 cu_tokw) (cwV 2 hts gX12_holds_X12_holds rfl rfl rfl (by decide +kernel) ⟨Nat.le_of_ble_eq_true rfl, Nat.le_of_ble_eq_true rfl⟩) (oPV (C := RX12) hK hP hD [0, 1] rfl (by decide) 0 rfl (ci := 11) rfl rfl) rfl rfl hl.1 rfl (lv_room (Nat.le_of_ble_eq_true rfl)) dX12_holds_156 ⟨Nat.le_of_ble_eq_true rfl, Nat.le_of_ble_eq_true rfl⟩) hP hD hS hA [0, 1] [] rfl rfl (by decide) (by decide) (fun r_232 u H locs w_233 hP hD hS => ?_)
      obtain ⟨u_234, u_235⟩ := u
      have hP : va_P D vwCl [(h0, .inr (11, [.int h0_thrown, .ref h0_tape, .int h0_taped, .int h0_size, .int h0_limit, .int h0_to, .int h0_from, .int h0_kind, .int h0_number, .int h0_sign, .int h0_fault, .int h0_place, .long h0_word, .int h0_told, .ref h0_now, .ref h0_read, .ref h0_kept, .ref h0_snaps, .ref h0_aside, .ref h0_name, .ref h0_readName, .ref h0_keptName, .ref h0_isKept, .ref h0_onces, .int h0_snapMany, .int u_234, .int u_235, .int h0_agreed, .int h0_jurors, .int h0_panelled, .ref h0_inSets, .int h0_surely, .int h0_asked, .ref h0_frees, .int h0_struck, .int h0_beating, .ref h0_text, .int h0_texts, .int h0_seed, .ref h0_line, .ref h0_written, .int h0_lineMany, .int h0_hasWritten, .ref h0_node, .int h0_nodes, .int h0_onesMany, .int h0_within, .int h0_top])), (aI ca h0_now 376 F_h0_now)] H := hP
      have hD : va_D A [(h0, .inr (11, [.int h0_thrown, .ref h0_tape, .int h0_taped, .int h0_size, .int h0_limit, .int h0_to, .int h0_from, .int h0_kind, .int h0_number, .int h0_sign, .int h0_fault, .int h0_place, .long h0_word, .int h0_told, .ref h0_now, .ref h0_read, .ref h0_kept, .ref h0_snaps, .ref h0_aside, .ref h0_name, .ref h0_readName, .ref h0_keptName, .ref h0_isKept, .ref h0_onces, .int h0_snapMany, .int u_234, .int u_235, .int h0_agreed, .int h0_jurors, .int h0_panelled, .ref h0_inSets, .int h0_surely, .int h0_asked, .ref h0_frees, .int h0_struck, .int h0_beating, .ref h0_text, .int h0_texts, .int h0_seed, .ref h0_line, .ref h0_written, .int h0_lineMany, .int h0_hasWritten, .ref h0_node, .int h0_nodes, .int h0_onesMany, .int h0_within, .int h0_top])), (aI ca h0_now 376 F_h0_now)] := hD
      try dsimp only at w_233
      rcases w_233 with h_236 | h_237
      · skip
        subst h_236
        refine lv_if_eq (tgt := 166) hx hb dX12_holds_159 (by decide) (fun _ => ?_) (fun c => absurd (by decide) c)
        refine lv_iconst (v := 0) hx hb dX12_holds_166 (by decide) ?_
        exact oE_i hx hb hr (by decide) hlocks hP hD hS (u_234, u_235) [0, 1] rfl (by decide) (Or.inr (rfl)) (Nat.le_of_ble_eq_true rfl) (Nat.le_of_ble_eq_true rfl) dX12_holds_167
      · skip
        subst h_237
        refine lv_if_eq (tgt := 166) hx hb dX12_holds_159 (by decide) (fun c => absurd c (by decide)) (fun _ => ?_)
        refine lv_iconst (v := 1) hx hb dX12_holds_162 (by decide) ?_
        refine lv_goto (tgt := 167) hx hb dX12_holds_163 (by decide) ?_
        exact oE_i hx hb hr (by decide) hlocks hP hD hS (u_234, u_235) [0, 1] rfl (by decide) (Or.inl rfl) (Nat.le_of_ble_eq_true rfl) (Nat.le_of_ble_eq_true rfl) dX12_holds_167
    · skip
      subst h_231
      refine lv_if_ne (tgt := 162) hx hb dX12_holds_149 (by decide) (fun _ => ?_) (fun c => absurd c (by decide))
      refine lv_iconst (v := 1) hx hb dX12_holds_162 (by decide) ?_
      refine lv_goto (tgt := 167) hx hb dX12_holds_163 (by decide) ?_
      exact oE_i hx hb hr (by decide) hlocks hP hD hS (u_228, u_229) [0, 1] rfl (by decide) (Or.inl rfl) (Nat.le_of_ble_eq_true rfl) (Nat.le_of_ble_eq_true rfl) dX12_holds_167
  by_cases c_238 : x_199 = 68
  · skip
    refine oti 68 c_238 ?_
    refine lv_lookup (off := 134) (tgt := 168) hx hb dX12_holds_34 (by decide) (by decide) (by decide) ?_
    refine lv_aload_n hx hb dX12_holds_168 rfl (lv_at hl 3 rfl) ?_
    refine va_get (D := D) (ci := 11) (v := .ref h0_now) (C := RX12) (T := TX12) (N := 48) hx hb hts k2 hown hK.1 hP 0 rfl rfl 14 (by decide) k1 (fun _ h9 => h9) rfl dX12_holds_169 ?_
    refine lv_bipush (v := 90) hx hb dX12_holds_172 (by decide) ?_
    refine va_iald hx hb hK.1 hP 1 0 rfl rfl (rg_in (⟨by decide, by decide⟩ : rg 90 90 (90 : Int32)) (by decide) (by decide)) dX12_holds_174 ?_
    refine lv_topi (fun x_239 ex_239 => ?_)
    have h_240 : rg 0 1023 x_239 := by rw [ex_239]; exact sg_at s_h0_now_5 (⟨by decide, by decide⟩ : rg 90 90 (90 : Int32)) (by decide) (by decide) (by decide)
    refine lv_iload_n hx hb dX12_holds_175 rfl (lv_at hl 5 rfl) ?_
    refine oC_i (Wc := []) (Wr := [(h0, .inr (11, [.int h0_thrown, .ref h0_tape, .int h0_taped, .int h0_size, .int h0_limit, .int h0_to, .int h0_from, .int h0_kind, .int h0_number, .int h0_sign, .int h0_fault, .int h0_place, .long h0_word, .int h0_told, .ref h0_now, .ref h0_read, .ref h0_kept, .ref h0_snaps, .ref h0_aside, .ref h0_name, .ref h0_readName, .ref h0_keptName, .ref h0_isKept, .ref h0_onces, .int h0_snapMany, .int h0_lowest, .int h0_highest, .int h0_agreed, .int h0_jurors, .int h0_panelled, .ref h0_inSets, .int h0_surely, .int h0_asked, .ref h0_frees, .int h0_struck, .int h0_beating, .ref h0_text, .int h0_texts, .int h0_seed, .ref h0_line, .ref h0_written, .int h0_lineMany, .int h0_hasWritten, .ref h0_node, .int h0_nodes, .int h0_onesMany, .int h0_within, .int h0_top])), (aI ca h0_now 376 F_h0_now)]) (va_runS (As := [.int x_239, .int a2]) (rest := []) ⟨hx, hb, hml, hown, hts⟩ (s_X12_has l D ca H.size x_239 a2) (va_cwS 2 hts gX12_holds_X12_has rfl rfl rfl (by decide +kernel) ⟨Nat.le_of_ble_eq_true rfl, Nat.le_of_ble_eq_true rfl⟩) (oPS hK hP hD [] rfl (by decide)) rfl rfl hl.1 rfl (lv_room (Nat.le_of_ble_eq_true rfl)) dX12_holds_176 ⟨Nat.le_of_ble_eq_true rfl, Nat.le_of_ble_eq_true rfl⟩) hP hD hS hA [] [0, 1] rfl rfl (by decide) (by decide) (fun r_241 u H locs w_242 hP hD hS => ?_)
    obtain ⟨⟩ := u
    have hP : va_P D vwCl [(h0, .inr (11, [.int h0_thrown, .ref h0_tape, .int h0_taped, .int h0_size, .int h0_limit, .int h0_to, .int h0_from, .int h0_kind, .int h0_number, .int h0_sign, .int h0_fault, .int h0_place, .long h0_word, .int h0_told, .ref h0_now, .ref h0_read, .ref h0_kept, .ref h0_snaps, .ref h0_aside, .ref h0_name, .ref h0_readName, .ref h0_keptName, .ref h0_isKept, .ref h0_onces, .int h0_snapMany, .int h0_lowest, .int h0_highest, .int h0_agreed, .int h0_jurors, .int h0_panelled, .ref h0_inSets, .int h0_surely, .int h0_asked, .ref h0_frees, .int h0_struck, .int h0_beating, .ref h0_text, .int h0_texts, .int h0_seed, .ref h0_line, .ref h0_written, .int h0_lineMany, .int h0_hasWritten, .ref h0_node, .int h0_nodes, .int h0_onesMany, .int h0_within, .int h0_top])), (aI ca h0_now 376 F_h0_now)] H := hP
    have hD : va_D A [(h0, .inr (11, [.int h0_thrown, .ref h0_tape, .int h0_taped, .int h0_size, .int h0_limit, .int h0_to, .int h0_from, .int h0_kind, .int h0_number, .int h0_sign, .int h0_fault, .int h0_place, .long h0_word, .int h0_told, .ref h0_now, .ref h0_read, .ref h0_kept, .ref h0_snaps, .ref h0_aside, .ref h0_name, .ref h0_readName, .ref h0_keptName, .ref h0_isKept, .ref h0_onces, .int h0_snapMany, .int h0_lowest, .int h0_highest, .int h0_agreed, .int h0_jurors, .int h0_panelled, .ref h0_inSets, .int h0_surely, .int h0_asked, .ref h0_frees, .int h0_struck, .int h0_beating, .ref h0_text, .int h0_texts, .int h0_seed, .ref h0_line, .ref h0_written, .int h0_lineMany, .int h0_hasWritten, .ref h0_node, .int h0_nodes, .int h0_onesMany, .int h0_within, .int h0_top])), (aI ca h0_now 376 F_h0_now)] := hD
    try dsimp only at w_242
    rcases w_242 with ⟨h_243, h_244⟩ | ⟨h_245, h_246⟩
    · skip
      subst h_243
      exact oE_i hx hb hr (by decide) hlocks hP hD hS (h0_lowest, h0_highest) [0, 1] rfl (by decide) (Or.inr (rfl)) (Nat.le_of_ble_eq_true rfl) (Nat.le_of_ble_eq_true rfl) dX12_holds_179
    · skip
      subst h_245
      exact oE_i hx hb hr (by decide) hlocks hP hD hS (h0_lowest, h0_highest) [0, 1] rfl (by decide) (Or.inl rfl) (Nat.le_of_ble_eq_true rfl) (Nat.le_of_ble_eq_true rfl) dX12_holds_179
  by_cases c_247 : x_199 = 69
  · skip
    refine oti 69 c_247 ?_
    refine lv_lookup (off := 146) (tgt := 180) hx hb dX12_holds_34 (by decide) (by decide) (by decide) ?_
    refine lv_aload_n hx hb dX12_holds_180 rfl (lv_at hl 3 rfl) ?_
    refine va_get (D := D) (ci := 11) (v := .ref h0_now) (C := RX12) (T := TX12) (N := 48) hx hb hts k2 hown hK.1 hP 0 rfl rfl 14 (by decide) k1 (fun _ h9 => h9) rfl dX12_holds_181 ?_
    refine lv_bipush (v := 91) hx hb dX12_holds_184 (by decide) ?_
    refine va_iald hx hb hK.1 hP 1 0 rfl rfl (rg_in (⟨by decide, by decide⟩ : rg 91 91 (91 : Int32)) (by decide) (by decide)) dX12_holds_186 ?_
    refine lv_topi (fun x_248 ex_248 => ?_)
    refine lv_iload_n hx hb dX12_holds_187 rfl (lv_at hl 5 rfl) ?_
    refine oC_i (Wc := []) (Wr := [(h0, .inr (11, [.int h0_thrown, .ref h0_tape, .int h0_taped, .int h0_size, .int h0_limit, .int h0_to, .int h0_from, .int h0_kind, .int h0_number, .int h0_sign, .int h0_fault, .int h0_place, .long h0_word, .int h0_told, .ref h0_now, .ref h0_read, .ref h0_kept, .ref h0_snaps, .ref h0_aside, .ref h0_name, .ref h0_readName, .ref h0_keptName, .ref h0_isKept, .ref h0_onces, .int h0_snapMany, .int h0_lowest, .int h0_highest, .int h0_agreed, .int h0_jurors, .int h0_panelled, .ref h0_inSets, .int h0_surely, .int h0_asked, .ref h0_frees, .int h0_struck, .int h0_beating, .ref h0_text, .int h0_texts, .int h0_seed, .ref h0_line, .ref h0_written, .int h0_lineMany, .int h0_hasWritten, .ref h0_node, .int h0_nodes, .int h0_onesMany, .int h0_within, .int h0_top])), (aI ca h0_now 376 F_h0_now)]) (va_runS (As := [.int x_248, .int a2]) (rest := []) ⟨hx, hb, hml, hown, hts⟩ (s_X12_has l D ca H.size x_248 a2) (va_cwS 2 hts gX12_holds_X12_has rfl rfl rfl (by decide +kernel) ⟨Nat.le_of_ble_eq_true rfl, Nat.le_of_ble_eq_true rfl⟩) (oPS hK hP hD [] rfl (by decide)) rfl rfl hl.1 rfl (lv_room (Nat.le_of_ble_eq_true rfl)) dX12_holds_188 ⟨Nat.le_of_ble_eq_true rfl, Nat.le_of_ble_eq_true rfl⟩) hP hD hS hA [] [0, 1] rfl rfl (by decide) (by decide) (fun r_249 u H locs w_250 hP hD hS => ?_)
    obtain ⟨⟩ := u
    have hP : va_P D vwCl [(h0, .inr (11, [.int h0_thrown, .ref h0_tape, .int h0_taped, .int h0_size, .int h0_limit, .int h0_to, .int h0_from, .int h0_kind, .int h0_number, .int h0_sign, .int h0_fault, .int h0_place, .long h0_word, .int h0_told, .ref h0_now, .ref h0_read, .ref h0_kept, .ref h0_snaps, .ref h0_aside, .ref h0_name, .ref h0_readName, .ref h0_keptName, .ref h0_isKept, .ref h0_onces, .int h0_snapMany, .int h0_lowest, .int h0_highest, .int h0_agreed, .int h0_jurors, .int h0_panelled, .ref h0_inSets, .int h0_surely, .int h0_asked, .ref h0_frees, .int h0_struck, .int h0_beating, .ref h0_text, .int h0_texts, .int h0_seed, .ref h0_line, .ref h0_written, .int h0_lineMany, .int h0_hasWritten, .ref h0_node, .int h0_nodes, .int h0_onesMany, .int h0_within, .int h0_top])), (aI ca h0_now 376 F_h0_now)] H := hP
    have hD : va_D A [(h0, .inr (11, [.int h0_thrown, .ref h0_tape, .int h0_taped, .int h0_size, .int h0_limit, .int h0_to, .int h0_from, .int h0_kind, .int h0_number, .int h0_sign, .int h0_fault, .int h0_place, .long h0_word, .int h0_told, .ref h0_now, .ref h0_read, .ref h0_kept, .ref h0_snaps, .ref h0_aside, .ref h0_name, .ref h0_readName, .ref h0_keptName, .ref h0_isKept, .ref h0_onces, .int h0_snapMany, .int h0_lowest, .int h0_highest, .int h0_agreed, .int h0_jurors, .int h0_panelled, .ref h0_inSets, .int h0_surely, .int h0_asked, .ref h0_frees, .int h0_struck, .int h0_beating, .ref h0_text, .int h0_texts, .int h0_seed, .ref h0_line, .ref h0_written, .int h0_lineMany, .int h0_hasWritten, .ref h0_node, .int h0_nodes, .int h0_onesMany, .int h0_within, .int h0_top])), (aI ca h0_now 376 F_h0_now)] := hD
    try dsimp only at w_250
    rcases w_250 with ⟨h_251, h_252⟩ | ⟨h_253, h_254⟩
    · skip
      subst h_251
      exact oE_i hx hb hr (by decide) hlocks hP hD hS (h0_lowest, h0_highest) [0, 1] rfl (by decide) (Or.inr (rfl)) (Nat.le_of_ble_eq_true rfl) (Nat.le_of_ble_eq_true rfl) dX12_holds_191
    · skip
      subst h_253
      exact oE_i hx hb hr (by decide) hlocks hP hD hS (h0_lowest, h0_highest) [0, 1] rfl (by decide) (Or.inl rfl) (Nat.le_of_ble_eq_true rfl) (Nat.le_of_ble_eq_true rfl) dX12_holds_191
  by_cases c_255 : x_199 = 70
  · skip
    refine oti 70 c_255 ?_
    refine lv_lookup (off := 158) (tgt := 192) hx hb dX12_holds_34 (by decide) (by decide) (by decide) ?_
    refine lv_aload_n hx hb dX12_holds_192 rfl (lv_at hl 3 rfl) ?_
    refine va_get (D := D) (ci := 11) (v := .ref h0_now) (C := RX12) (T := TX12) (N := 48) hx hb hts k2 hown hK.1 hP 0 rfl rfl 14 (by decide) k1 (fun _ h9 => h9) rfl dX12_holds_193 ?_
    refine lv_bipush (v := 94) hx hb dX12_holds_196 (by decide) ?_
    refine lv_iload_n hx hb dX12_holds_198 rfl (lv_at hl 5 rfl) ?_
    refine lv_iadd hx hb dX12_holds_199 ?_
    refine lv_topi (fun x_256 ex_256 => ?_)
    have h_257 : rg 94 103 x_256 := by rw [ex_256]; exact rg_add (⟨by decide, by decide⟩ : rg 94 94 (94 : Int32)) i_a2 (by decide) (by decide) (by decide) (by decide)
    have l_258 : lq x_256.toInt (a2.toInt + 94) := lqm (by rw [ex_256]; have q := tadd (⟨by decide, by decide⟩ : rg 94 94 (94 : Int32)) i_a2 (by decide) (by decide); have r0 := lqe (lqm (by decide) : lq (94 : Int32).toInt 94); omega)
    refine va_iald hx hb hK.1 hP 1 0 rfl rfl (rg_in h_257 (by decide) (by decide)) dX12_holds_200 ?_
    refine lv_topi (fun x_259 ex_259 => ?_)
    refine lv_if_le (tgt := 208) hx hb dX12_holds_201 (by decide) (fun c_260 => ?_) (fun c_260 => ?_)
    · skip
      have o_261 : rl 0 x_259 0 := rl_le c_260
      have h_262 : rg (-2147483648) 0 x_259 := rl_x o_261 (rga x_259) (⟨by decide, by decide⟩ : rg 0 0 (0 : Int32)) (by decide) (by decide)
      refine lv_iconst (v := 0) hx hb dX12_holds_208 (by decide) ?_
      exact oE_i hx hb hr (by decide) hlocks hP hD hS (h0_lowest, h0_highest) [0, 1] rfl (by decide) (Or.inr (rfl)) (Nat.le_of_ble_eq_true rfl) (Nat.le_of_ble_eq_true rfl) dX12_holds_209
    · skip
      have o_263 : rl 1 0 x_259 := rl_nle c_260
      have h_264 : rg 1 2147483647 x_259 := rl_y o_263 (⟨by decide, by decide⟩ : rg 0 0 (0 : Int32)) (rga x_259) (by decide) (by decide)
      refine lv_iconst (v := 1) hx hb dX12_holds_204 (by decide) ?_
      refine lv_goto (tgt := 209) hx hb dX12_holds_205 (by decide) ?_
      exact oE_i hx hb hr (by decide) hlocks hP hD hS (h0_lowest, h0_highest) [0, 1] rfl (by decide) (Or.inl rfl) (Nat.le_of_ble_eq_true rfl) (Nat.le_of_ble_eq_true rfl) dX12_holds_209
  by_cases c_265 : x_199 = 71
  · skip
    refine oti 71 c_265 ?_
    refine lv_lookup (off := 176) (tgt := 210) hx hb dX12_holds_34 (by decide) (by decide) (by decide) ?_
    have h_266 : rg 0 39 x_194 := ht.2.2 c_265
    refine lv_aload_n hx hb dX12_holds_210 rfl (lv_at hl 3 rfl) ?_
    refine lv_iload_n hx hb dX12_holds_211 rfl (lv_at hl 5 rfl) ?_
    refine lv_iload hx hb dX12_holds_212 (lv_at hl 1 rfl) ?_
    refine oC_i (Wc := [(h0, .inr (11, [.int h0_thrown, .ref h0_tape, .int h0_taped, .int h0_size, .int h0_limit, .int h0_to, .int h0_from, .int h0_kind, .int h0_number, .int h0_sign, .int h0_fault, .int h0_place, .long h0_word, .int h0_told, .ref h0_now, .ref h0_read, .ref h0_kept, .ref h0_snaps, .ref h0_aside, .ref h0_name, .ref h0_readName, .ref h0_keptName, .ref h0_isKept, .ref h0_onces, .int h0_snapMany, .int h0_lowest, .int h0_highest, .int h0_agreed, .int h0_jurors, .int h0_panelled, .ref h0_inSets, .int h0_surely, .int h0_asked, .ref h0_frees, .int h0_struck, .int h0_beating, .ref h0_text, .int h0_texts, .int h0_seed, .ref h0_line, .ref h0_written, .int h0_lineMany, .int h0_hasWritten, .ref h0_node, .int h0_nodes, .int h0_onesMany, .int h0_within, .int h0_top])), (aI ca h0_now 376 F_h0_now)]) (Wr := []) (va_runV (As := [.int a2, .int x_194]) (rest := []) ⟨hx, hb, hml, hown, hts⟩ (s_X12_areOneRing l D ca H.size h0 a2 x_194 h0_thrown h0_tape h0_taped h0_size h0_limit h0_to h0_from h0_kind h0_number h0_sign h0_fault h0_place h0_word h0_told h0_now h0_read h0_kept h0_snaps h0_aside h0_name h0_readName h0_keptName h0_isKept h0_onces h0_snapMany h0_lowest h0_highest h0_agreed h0_jurors h0_panelled h0_inSets h0_surely h0_asked h0_frees h0_struck h0_beating h0_text h0_texts h0_seed h0_line h0_written h0_lineMany h0_hasWritten h0_node h0_nodes h0_onesMany h0_within h0_top F_h0_now i_a2 h_266 i_h0_taped i_h0_size i_h0_to i_h0_kind i_h0_snapMany i_h0_texts i_h0_lineMany i_h0_hasWritten i_h0_nodes i_h0_onesMany s_h0_now_0 s_h0_now_1 s_h0_now_2 s_h0_now_3 s_h0_now_4 s_h0_now_5 s_h0_now_6 s_h0_now_7) (cwV 2 hts gX12_holds_X12_areOneRing rfl rfl rfl (by decide +kernel) ⟨Nat.le_of_ble_eq_true rfl, Nat.le_of_ble_eq_true rfl⟩) (oPV (C := RX12) hK hP hD [0, 1] rfl (by decide) 0 rfl (ci := 11) rfl rfl) rfl rfl hl.1 rfl (lv_room (Nat.le_of_ble_eq_true rfl)) dX12_holds_214 ⟨Nat.le_of_ble_eq_true rfl, Nat.le_of_ble_eq_true rfl⟩) hP hD hS hA [0, 1] [] rfl rfl (by decide) (by decide) (fun r_267 u H locs w_268 hP hD hS => ?_)
    obtain ⟨u_269, u_270⟩ := u
    have hP : va_P D vwCl [(h0, .inr (11, [.int h0_thrown, .ref h0_tape, .int h0_taped, .int h0_size, .int h0_limit, .int h0_to, .int h0_from, .int h0_kind, .int h0_number, .int h0_sign, .int h0_fault, .int h0_place, .long h0_word, .int h0_told, .ref h0_now, .ref h0_read, .ref h0_kept, .ref h0_snaps, .ref h0_aside, .ref h0_name, .ref h0_readName, .ref h0_keptName, .ref h0_isKept, .ref h0_onces, .int h0_snapMany, .int u_269, .int u_270, .int h0_agreed, .int h0_jurors, .int h0_panelled, .ref h0_inSets, .int h0_surely, .int h0_asked, .ref h0_frees, .int h0_struck, .int h0_beating, .ref h0_text, .int h0_texts, .int h0_seed, .ref h0_line, .ref h0_written, .int h0_lineMany, .int h0_hasWritten, .ref h0_node, .int h0_nodes, .int h0_onesMany, .int h0_within, .int h0_top])), (aI ca h0_now 376 F_h0_now)] H := hP
    have hD : va_D A [(h0, .inr (11, [.int h0_thrown, .ref h0_tape, .int h0_taped, .int h0_size, .int h0_limit, .int h0_to, .int h0_from, .int h0_kind, .int h0_number, .int h0_sign, .int h0_fault, .int h0_place, .long h0_word, .int h0_told, .ref h0_now, .ref h0_read, .ref h0_kept, .ref h0_snaps, .ref h0_aside, .ref h0_name, .ref h0_readName, .ref h0_keptName, .ref h0_isKept, .ref h0_onces, .int h0_snapMany, .int u_269, .int u_270, .int h0_agreed, .int h0_jurors, .int h0_panelled, .ref h0_inSets, .int h0_surely, .int h0_asked, .ref h0_frees, .int h0_struck, .int h0_beating, .ref h0_text, .int h0_texts, .int h0_seed, .ref h0_line, .ref h0_written, .int h0_lineMany, .int h0_hasWritten, .ref h0_node, .int h0_nodes, .int h0_onesMany, .int h0_within, .int h0_top])), (aI ca h0_now 376 F_h0_now)] := hD
    try dsimp only at w_268
    rcases w_268 with ⟨h_271, h_272, h_273⟩ | ⟨h_274, h_275, h_276, h_277⟩
    · skip
      subst h_271
      exact oE_i hx hb hr (by decide) hlocks hP hD hS (u_269, u_270) [0, 1] rfl (by decide) (Or.inr (rfl)) (Nat.le_of_ble_eq_true rfl) (Nat.le_of_ble_eq_true rfl) dX12_holds_217
    · skip
      subst h_274
      exact oE_i hx hb hr (by decide) hlocks hP hD hS (u_269, u_270) [0, 1] rfl (by decide) (Or.inl rfl) (Nat.le_of_ble_eq_true rfl) (Nat.le_of_ble_eq_true rfl) dX12_holds_217
  have t0 := lv_neT c_200 (show (1 : Int32).toInt = 1 by decide)
  have t1 := lv_neT c_208 (show (2 : Int32).toInt = 2 by decide)
  have t2 := lv_neT c_223 (show (3 : Int32).toInt = 3 by decide)
  have t3 := lv_neT c_238 (show (68 : Int32).toInt = 68 by decide)
  have t4 := lv_neT c_247 (show (69 : Int32).toInt = 69 by decide)
  have t5 := lv_neT c_255 (show (70 : Int32).toInt = 70 by decide)
  have t6 := lv_neT c_265 (show (71 : Int32).toInt = 71 by decide)
  refine lv_lookup (off := 184) (tgt := 218) hx hb dX12_holds_34 (by decide) (by simp [Op.lookupswitch.offset, show ¬ (1 : Int) = x_199.toInt from fun h9 => t0 h9.symm, show ¬ (2 : Int) = x_199.toInt from fun h9 => t1 h9.symm, show ¬ (3 : Int) = x_199.toInt from fun h9 => t2 h9.symm, show ¬ (68 : Int) = x_199.toInt from fun h9 => t3 h9.symm, show ¬ (69 : Int) = x_199.toInt from fun h9 => t4 h9.symm, show ¬ (70 : Int) = x_199.toInt from fun h9 => t5 h9.symm, show ¬ (71 : Int) = x_199.toInt from fun h9 => t6 h9.symm]) (by decide) ?_
  refine lv_aload_n hx hb dX12_holds_218 rfl (lv_at hl 3 rfl) ?_
  refine va_get (D := D) (ci := 11) (v := .ref h0_now) (C := RX12) (T := TX12) (N := 48) hx hb hts k2 hown hK.1 hP 0 rfl rfl 14 (by decide) k1 (fun _ h9 => h9) rfl dX12_holds_219 ?_
  refine lv_iload_n hx hb dX12_holds_222 rfl (lv_at hl 2 rfl) ?_
  refine va_iald hx hb hK.1 hP 1 0 rfl rfl (rg_in h_189 (by decide) (by decide)) dX12_holds_223 ?_
  refine oti x_199 ex_199.symm ?_
  refine lv_bipush (v := 50) hx hb dX12_holds_224 (by decide) ?_
  refine lv_isub hx hb dX12_holds_226 ?_
  refine lv_topi (fun x_278 ex_278 => ?_)
  refine lv_istore (lv' := [(6, .int x_278), (5, .int x_198), (4, .int x_194), (3, .int x_188), (0, .ref h0), (1, .int a1), (2, .int a2)]) hx hb dX12_holds_227 hl (by decide) rfl (fun ls hl => ?_)
  refine lv_iload hx hb dX12_holds_229 (lv_at hl 0 rfl) ?_
  refine lv_bipush (v := 22) hx hb dX12_holds_231 (by decide) ?_
  refine lv_icmp_ne (tgt := 247) hx hb dX12_holds_233 (by decide) (fun c_279 => ?_) (fun c_279 => ?_)
  · skip
    refine lv_iload hx hb dX12_holds_247 (lv_at hl 0 rfl) ?_
    refine lv_bipush (v := 23) hx hb dX12_holds_249 (by decide) ?_
    refine lv_icmp_ne (tgt := 266) hx hb dX12_holds_251 (by decide) (fun c_280 => ?_) (fun c_280 => ?_)
    · skip
      refine lv_iload hx hb dX12_holds_266 (lv_at hl 0 rfl) ?_
      refine lv_bipush (v := 24) hx hb dX12_holds_268 (by decide) ?_
      refine lv_icmp_ne (tgt := 285) hx hb dX12_holds_270 (by decide) (fun c_281 => ?_) (fun c_281 => ?_)
      · skip
        refine lv_iload_n hx hb dX12_holds_285 rfl (lv_at hl 6 rfl) ?_
        exact J286_153 x_188 x_198 a2 h_189 H locs ls (oPsub hP [0, 1] rfl) (hD.sub [0, 1] (by decide) rfl) hS (lv_sub hl [4, 3, 1] rfl)
      · skip
        have o_282 : rl 0 x_278 24 := rl_eq c_281
        have h_283 : rg (-2147483648) 24 x_278 := rl_x o_282 (rga x_278) (⟨by decide, by decide⟩ : rg 24 24 (24 : Int32)) (by decide) (by decide)
        have o_284 : rl 0 24 x_278 := rl_eq c_281.symm
        have h_285 : rg 24 24 x_278 := rl_y o_284 (⟨by decide, by decide⟩ : rg 24 24 (24 : Int32)) h_283 (by decide) (by decide)
        refine lv_aload_n hx hb dX12_holds_273 rfl (lv_at hl 4 rfl) ?_
        refine va_get (D := D) (ci := 11) (v := .ref h0_now) (C := RX12) (T := TX12) (N := 48) hx hb hts k2 hown hK.1 hP 0 rfl rfl 14 (by decide) k1 (fun _ h9 => h9) rfl dX12_holds_274 ?_
        refine lv_bipush (v := 94) hx hb dX12_holds_277 (by decide) ?_
        refine lv_iload_n hx hb dX12_holds_279 rfl (lv_at hl 6 rfl) ?_
        refine lv_iadd hx hb dX12_holds_280 ?_
        refine lv_topi (fun x_286 ex_286 => ?_)
        have h_287 : rg 94 103 x_286 := by rw [ex_286]; exact rg_add (⟨by decide, by decide⟩ : rg 94 94 (94 : Int32)) i_a2 (by decide) (by decide) (by decide) (by decide)
        have l_288 : lq x_286.toInt (a2.toInt + 94) := lqm (by rw [ex_286]; have q := tadd (⟨by decide, by decide⟩ : rg 94 94 (94 : Int32)) i_a2 (by decide) (by decide); have r0 := lqe (lqm (by decide) : lq (94 : Int32).toInt 94); omega)
        refine va_iald hx hb hK.1 hP 1 0 rfl rfl (rg_in h_287 (by decide) (by decide)) dX12_holds_281 ?_
        refine lv_topi (fun x_289 ex_289 => ?_)
        refine lv_goto (tgt := 286) hx hb dX12_holds_282 (by decide) ?_
        exact J286_153 x_188 x_198 x_289 h_189 H locs ls (oPsub hP [0, 1] rfl) (hD.sub [0, 1] (by decide) rfl) hS (lv_sub hl [4, 3, 1] rfl)
    · skip
      have o_290 : rl 0 x_278 23 := rl_eq c_280
      have h_291 : rg (-2147483648) 23 x_278 := rl_x o_290 (rga x_278) (⟨by decide, by decide⟩ : rg 23 23 (23 : Int32)) (by decide) (by decide)
      have o_292 : rl 0 23 x_278 := rl_eq c_280.symm
      have h_293 : rg 23 23 x_278 := rl_y o_292 (⟨by decide, by decide⟩ : rg 23 23 (23 : Int32)) h_291 (by decide) (by decide)
      refine lv_aload_n hx hb dX12_holds_254 rfl (lv_at hl 4 rfl) ?_
      refine va_get (D := D) (ci := 11) (v := .ref h0_now) (C := RX12) (T := TX12) (N := 48) hx hb hts k2 hown hK.1 hP 0 rfl rfl 14 (by decide) k1 (fun _ h9 => h9) rfl dX12_holds_255 ?_
      refine lv_bipush (v := 15) hx hb dX12_holds_258 (by decide) ?_
      refine lv_iload_n hx hb dX12_holds_260 rfl (lv_at hl 6 rfl) ?_
      refine lv_iadd hx hb dX12_holds_261 ?_
      refine lv_topi (fun x_294 ex_294 => ?_)
      have h_295 : rg 15 24 x_294 := by rw [ex_294]; exact rg_add (⟨by decide, by decide⟩ : rg 15 15 (15 : Int32)) i_a2 (by decide) (by decide) (by decide) (by decide)
      have l_296 : lq x_294.toInt (a2.toInt + 15) := lqm (by rw [ex_294]; have q := tadd (⟨by decide, by decide⟩ : rg 15 15 (15 : Int32)) i_a2 (by decide) (by decide); have r0 := lqe (lqm (by decide) : lq (15 : Int32).toInt 15); omega)
      refine va_iald hx hb hK.1 hP 1 0 rfl rfl (rg_in h_295 (by decide) (by decide)) dX12_holds_262 ?_
      refine lv_topi (fun x_297 ex_297 => ?_)
      refine lv_goto (tgt := 286) hx hb dX12_holds_263 (by decide) ?_
      exact J286_153 x_188 x_198 x_297 h_189 H locs ls (oPsub hP [0, 1] rfl) (hD.sub [0, 1] (by decide) rfl) hS (lv_sub hl [4, 3, 1] rfl)
  · skip
    have o_298 : rl 0 x_278 22 := rl_eq c_279
    have h_299 : rg (-2147483648) 22 x_278 := rl_x o_298 (rga x_278) (⟨by decide, by decide⟩ : rg 22 22 (22 : Int32)) (by decide) (by decide)
    have o_300 : rl 0 22 x_278 := rl_eq c_279.symm
    have h_301 : rg 22 22 x_278 := rl_y o_300 (⟨by decide, by decide⟩ : rg 22 22 (22 : Int32)) h_299 (by decide) (by decide)
    refine lv_aload_n hx hb dX12_holds_236 rfl (lv_at hl 4 rfl) ?_
    refine va_get (D := D) (ci := 11) (v := .ref h0_now) (C := RX12) (T := TX12) (N := 48) hx hb hts k2 hown hK.1 hP 0 rfl rfl 14 (by decide) k1 (fun _ h9 => h9) rfl dX12_holds_237 ?_
    refine lv_iconst (v := 5) hx hb dX12_holds_240 (by decide) ?_
    refine lv_iload_n hx hb dX12_holds_241 rfl (lv_at hl 6 rfl) ?_
    refine lv_iadd hx hb dX12_holds_242 ?_
    refine lv_topi (fun x_302 ex_302 => ?_)
    have h_303 : rg 5 14 x_302 := by rw [ex_302]; exact rg_add (⟨by decide, by decide⟩ : rg 5 5 (5 : Int32)) i_a2 (by decide) (by decide) (by decide) (by decide)
    have l_304 : lq x_302.toInt (a2.toInt + 5) := lqm (by rw [ex_302]; have q := tadd (⟨by decide, by decide⟩ : rg 5 5 (5 : Int32)) i_a2 (by decide) (by decide); have r0 := lqe (lqm (by decide) : lq (5 : Int32).toInt 5); omega)
    refine va_iald hx hb hK.1 hP 1 0 rfl rfl (rg_in h_303 (by decide) (by decide)) dX12_holds_243 ?_
    refine lv_topi (fun x_305 ex_305 => ?_)
    refine lv_goto (tgt := 286) hx hb dX12_holds_244 (by decide) ?_
    exact J286_153 x_188 x_198 x_305 h_189 H locs ls (oPsub hP [0, 1] rfl) (hD.sub [0, 1] (by decide) rfl) hS (lv_sub hl [4, 3, 1] rfl)
set_option maxHeartbeats 4000000 in
set_option maxRecDepth 100000 in
theorem s_X12_holds_33 (l : Launch) (D : va_G) (ca : Nat → ClassId) (sz : Nat) (h0 : Nat) (a1 : Int32) (a2 : Int32) (h0_thrown : Int32) (h0_tape : Nat) (h0_taped : Int32) (h0_size : Int32) (h0_limit : Int32) (h0_to : Int32) (h0_from : Int32) (h0_kind : Int32) (h0_number : Int32) (h0_sign : Int32) (h0_fault : Int32) (h0_place : Int32) (h0_word : Int64) (h0_told : Int32) (h0_now : Nat) (h0_read : Nat) (h0_kept : Nat) (h0_snaps : Nat) (h0_aside : Nat) (h0_name : Nat) (h0_readName : Nat) (h0_keptName : Nat) (h0_isKept : Nat) (h0_onces : Nat) (h0_snapMany : Int32) (h0_lowest : Int32) (h0_highest : Int32) (h0_agreed : Int32) (h0_jurors : Int32) (h0_panelled : Int32) (h0_inSets : Nat) (h0_surely : Int32) (h0_asked : Int32) (h0_frees : Nat) (h0_struck : Int32) (h0_beating : Int32) (h0_text : Nat) (h0_texts : Int32) (h0_seed : Int32) (h0_line : Nat) (h0_written : Nat) (h0_lineMany : Int32) (h0_hasWritten : Int32) (h0_node : Nat) (h0_nodes : Int32) (h0_onesMany : Int32) (h0_within : Int32) (h0_top : Int32) (F_h0_now : Nat → Int32) (i_a1 : rg 0 32 a1) (i_a2 : rg 0 9 a2) (i_h0_taped : rg 0 940 h0_taped) (i_h0_size : rg 0 940 h0_size) (i_h0_to : rg 0 940 h0_to) (i_h0_kind : rg 0 4 h0_kind) (i_h0_snapMany : rg 0 8 h0_snapMany) (i_h0_texts : rg 0 64 h0_texts) (i_h0_lineMany : rg 0 40 h0_lineMany) (i_h0_hasWritten : rg 0 1 h0_hasWritten) (i_h0_nodes : rg 0 60 h0_nodes) (i_h0_onesMany : rg 0 20 h0_onesMany) (s_h0_now_0 : sg 0 1 0 10 F_h0_now) (s_h0_now_1 : sg 1 2 0 4 F_h0_now) (s_h0_now_2 : sg 2 3 0 5 F_h0_now) (s_h0_now_3 : sg 35 36 0 1023 F_h0_now) (s_h0_now_4 : sg 44 49 0 3 F_h0_now) (s_h0_now_5 : sg 90 91 0 1023 F_h0_now) (s_h0_now_6 : sg 124 129 0 1023 F_h0_now) (s_h0_now_7 : sg 135 136 0 39 F_h0_now) (cu_tokw : tokb 136 F_h0_now) : oMet l yX12_holds wsX12_holds ({ frames := 37, cells := 0, slots := 0, locals := 981 } : Room) [.ref h0, .int a1, .int a2] D ca sz [(h0, .inr (11, [.int h0_thrown, .ref h0_tape, .int h0_taped, .int h0_size, .int h0_limit, .int h0_to, .int h0_from, .int h0_kind, .int h0_number, .int h0_sign, .int h0_fault, .int h0_place, .long h0_word, .int h0_told, .ref h0_now, .ref h0_read, .ref h0_kept, .ref h0_snaps, .ref h0_aside, .ref h0_name, .ref h0_readName, .ref h0_keptName, .ref h0_isKept, .ref h0_onces, .int h0_snapMany, .int h0_lowest, .int h0_highest, .int h0_agreed, .int h0_jurors, .int h0_panelled, .ref h0_inSets, .int h0_surely, .int h0_asked, .ref h0_frees, .int h0_struck, .int h0_beating, .ref h0_text, .int h0_texts, .int h0_seed, .ref h0_line, .ref h0_written, .int h0_lineMany, .int h0_hasWritten, .ref h0_node, .int h0_nodes, .int h0_onesMany, .int h0_within, .int h0_top])), (aI ca h0_now 376 F_h0_now)] (oQi D (fun (r : Int32) (u : Int32 × Int32) => ((r = 0)) ∨ ((r = 1))) (fun (u : Int32 × Int32) => [(h0, .inr (11, [.int h0_thrown, .ref h0_tape, .int h0_taped, .int h0_size, .int h0_limit, .int h0_to, .int h0_from, .int h0_kind, .int h0_number, .int h0_sign, .int h0_fault, .int h0_place, .long h0_word, .int h0_told, .ref h0_now, .ref h0_read, .ref h0_kept, .ref h0_snaps, .ref h0_aside, .ref h0_name, .ref h0_readName, .ref h0_keptName, .ref h0_isKept, .ref h0_onces, .int h0_snapMany, .int u.1, .int u.2, .int h0_agreed, .int h0_jurors, .int h0_panelled, .ref h0_inSets, .int h0_surely, .int h0_asked, .ref h0_frees, .int h0_struck, .int h0_beating, .ref h0_text, .int h0_texts, .int h0_seed, .ref h0_line, .ref h0_written, .int h0_lineMany, .int h0_hasWritten, .ref h0_node, .int h0_nodes, .int h0_onesMany, .int h0_within, .int h0_top])), (aI ca h0_now 376 F_h0_now)])) 0 0 := by
  refine oM (cc := cX12_holds) (maxL := 8) (ret := (some .boolean)) (by decide) rfl (Nat.le_of_ble_eq_true rfl) [(0, .ref h0), (1, .int a1), (2, .int a2)] rfl ?_
  intro p e s m below meth c A H locs ls hx hb hr hml hts hown hlocks hin hK hP hD hA hS hl
  have hown : s.vm.findClass RX12 = some m.cls := hown
  have k1 := hts (.fieldLink RX12 98 "LidCourtModel" "now" "[I") (by decide +kernel)
  have k2 : ∀ w ∈ wsX120, w ∈ wsX12_holds := fun _ h => List.mem_cons_of_mem _ (List.mem_append_right _ h)
  have J286_153 : ∀ (y286_0 : Int32) (y286_1 : Int32) (y286_2 : Int32), rg 136 264 y286_0 → ∀ (H : Heap) (locs : List Loc) (ls : Array Slot), va_P D vwCl [(h0, .inr (11, [.int h0_thrown, .ref h0_tape, .int h0_taped, .int h0_size, .int h0_limit, .int h0_to, .int h0_from, .int h0_kind, .int h0_number, .int h0_sign, .int h0_fault, .int h0_place, .long h0_word, .int h0_told, .ref h0_now, .ref h0_read, .ref h0_kept, .ref h0_snaps, .ref h0_aside, .ref h0_name, .ref h0_readName, .ref h0_keptName, .ref h0_isKept, .ref h0_onces, .int h0_snapMany, .int h0_lowest, .int h0_highest, .int h0_agreed, .int h0_jurors, .int h0_panelled, .ref h0_inSets, .int h0_surely, .int h0_asked, .ref h0_frees, .int h0_struck, .int h0_beating, .ref h0_text, .int h0_texts, .int h0_seed, .ref h0_line, .ref h0_written, .int h0_lineMany, .int h0_hasWritten, .ref h0_node, .int h0_nodes, .int h0_onesMany, .int h0_within, .int h0_top])), (aI ca h0_now 376 F_h0_now)] H → va_D A [(h0, .inr (11, [.int h0_thrown, .ref h0_tape, .int h0_taped, .int h0_size, .int h0_limit, .int h0_to, .int h0_from, .int h0_kind, .int h0_number, .int h0_sign, .int h0_fault, .int h0_place, .long h0_word, .int h0_told, .ref h0_now, .ref h0_read, .ref h0_kept, .ref h0_snaps, .ref h0_aside, .ref h0_name, .ref h0_readName, .ref h0_keptName, .ref h0_isKept, .ref h0_onces, .int h0_snapMany, .int h0_lowest, .int h0_highest, .int h0_agreed, .int h0_jurors, .int h0_panelled, .ref h0_inSets, .int h0_surely, .int h0_asked, .ref h0_frees, .int h0_struck, .int h0_beating, .ref h0_text, .int h0_texts, .int h0_seed, .ref h0_line, .ref h0_written, .int h0_lineMany, .int h0_hasWritten, .ref h0_node, .int h0_nodes, .int h0_onesMany, .int h0_within, .int h0_top])), (aI ca h0_now 376 F_h0_now)] → va_S A s.heap H locs → lv_has ls 8 [(0, .ref h0), (3, .int y286_0), (5, .int y286_1)] → W p l e ({ frames := 37, cells := 0, slots := 0, locals := 981 } : Room) s m ([.ref h0, .int a1, .int a2] : List Value).toArray below meth c H locs 0 0 (MQ below ((oQi D (fun (r : Int32) (u : Int32 × Int32) => ((r = 0)) ∨ ((r = 1))) (fun (u : Int32 × Int32) => [(h0, .inr (11, [.int h0_thrown, .ref h0_tape, .int h0_taped, .int h0_size, .int h0_limit, .int h0_to, .int h0_from, .int h0_kind, .int h0_number, .int h0_sign, .int h0_fault, .int h0_place, .long h0_word, .int h0_told, .ref h0_now, .ref h0_read, .ref h0_kept, .ref h0_snaps, .ref h0_aside, .ref h0_name, .ref h0_readName, .ref h0_keptName, .ref h0_isKept, .ref h0_onces, .int h0_snapMany, .int u.1, .int u.2, .int h0_agreed, .int h0_jurors, .int h0_panelled, .ref h0_inSets, .int h0_surely, .int h0_asked, .ref h0_frees, .int h0_struck, .int h0_beating, .ref h0_text, .int h0_texts, .int h0_seed, .ref h0_line, .ref h0_written, .int h0_lineMany, .int h0_hasWritten, .ref h0_node, .int h0_nodes, .int h0_onesMany, .int h0_within, .int h0_top])), (aI ca h0_now 376 F_h0_now)])) A) ([.ref h0, .int a1, .int a2] : List Value).toArray s 0 0 A) (F0 m 286 ls [.int y286_2]) := by
    intro y286_0 y286_1 y286_2 hy286_0 H locs ls hP hD hS hl
    refine lv_istore (lv' := [(7, .int y286_2), (0, .ref h0), (3, .int y286_0), (5, .int y286_1)]) hx hb dX12_holds_286 hl (by decide) rfl (fun ls hl => ?_)
    refine lv_aload_n hx hb dX12_holds_288 rfl (lv_at hl 1 rfl) ?_
    refine va_get (D := D) (ci := 11) (v := .ref h0_now) (C := RX12) (T := TX12) (N := 48) hx hb hts k2 hown hK.1 hP 0 rfl rfl 14 (by decide) k1 (fun _ h9 => h9) rfl dX12_holds_289 ?_
    refine lv_iload_n hx hb dX12_holds_292 rfl (lv_at hl 2 rfl) ?_
    refine lv_iconst (v := 3) hx hb dX12_holds_293 (by decide) ?_
    refine lv_iadd hx hb dX12_holds_294 ?_
    refine lv_topi (fun x_154 ex_154 => ?_)
    have h_155 : rg 139 267 x_154 := by rw [ex_154]; exact rg_add hy286_0 (⟨by decide, by decide⟩ : rg 3 3 (3 : Int32)) (by decide) (by decide) (by decide) (by decide)
    have l_156 : lq x_154.toInt (y286_0.toInt + 3) := lqm (by rw [ex_154]; have q := tadd hy286_0 (⟨by decide, by decide⟩ : rg 3 3 (3 : Int32)) (by decide) (by decide); have r1 := lqe (lqm (by decide) : lq (3 : Int32).toInt 3); omega)
    refine va_iald hx hb hK.1 hP 1 0 rfl rfl (rg_in h_155 (by decide) (by decide)) dX12_holds_295 ?_
    refine lv_topi (fun x_157 ex_157 => ?_)
    refine lv_bipush (v := 60) hx hb dX12_holds_296 (by decide) ?_
    refine lv_icmp_ne (tgt := 316) hx hb dX12_holds_298 (by decide) (fun c_158 => ?_) (fun c_158 => ?_)
    · skip
      refine lv_aload_n hx hb dX12_holds_316 rfl (lv_at hl 1 rfl) ?_
      refine va_get (D := D) (ci := 11) (v := .ref h0_now) (C := RX12) (T := TX12) (N := 48) hx hb hts k2 hown hK.1 hP 0 rfl rfl 14 (by decide) k1 (fun _ h9 => h9) rfl dX12_holds_317 ?_
      refine lv_iload_n hx hb dX12_holds_320 rfl (lv_at hl 2 rfl) ?_
      refine lv_iconst (v := 3) hx hb dX12_holds_321 (by decide) ?_
      refine lv_iadd hx hb dX12_holds_322 ?_
      refine lv_topi (fun x_159 ex_159 => ?_)
      have h_160 : rg 139 267 x_159 := by rw [ex_159]; exact rg_add hy286_0 (⟨by decide, by decide⟩ : rg 3 3 (3 : Int32)) (by decide) (by decide) (by decide) (by decide)
      have l_161 : lq x_159.toInt (y286_0.toInt + 3) := lqm (by rw [ex_159]; have q := tadd hy286_0 (⟨by decide, by decide⟩ : rg 3 3 (3 : Int32)) (by decide) (by decide); have r1 := lqe (lqm (by decide) : lq (3 : Int32).toInt 3); omega)
      refine va_iald hx hb hK.1 hP 1 0 rfl rfl (rg_in h_160 (by decide) (by decide)) dX12_holds_323 ?_
      refine lv_topi (fun x_162 ex_162 => ?_)
      refine lv_bipush (v := 61) hx hb dX12_holds_324 (by decide) ?_
      refine lv_icmp_ne (tgt := 344) hx hb dX12_holds_326 (by decide) (fun c_163 => ?_) (fun c_163 => ?_)
      · skip
        refine lv_iload hx hb dX12_holds_344 (lv_at hl 0 rfl) ?_
        refine lv_iload hx hb dX12_holds_346 (lv_at hl 3 rfl) ?_
        refine lv_icmp_le (tgt := 355) hx hb dX12_holds_348 (by decide) (fun c_164 => ?_) (fun c_164 => ?_)
        · skip
          have o_165 : rl 0 y286_2 y286_1 := rl_le c_164
          refine lv_iconst (v := 0) hx hb dX12_holds_355 (by decide) ?_
          exact oE_i hx hb hr (by decide) hlocks hP hD hS (h0_lowest, h0_highest) [0, 1] rfl (by decide) (Or.inl rfl) (Nat.le_of_ble_eq_true rfl) (Nat.le_of_ble_eq_true rfl) dX12_holds_356
        · skip
          have o_166 : rl 1 y286_1 y286_2 := rl_nle c_164
          have h_167 : rg (-2147483648) 2147483646 y286_1 := rl_x o_166 (rga y286_1) (rga y286_2) (by decide) (by decide)
          have h_168 : rg (-2147483647) 2147483647 y286_2 := rl_y o_166 (rga y286_1) (rga y286_2) (by decide) (by decide)
          refine lv_iconst (v := 1) hx hb dX12_holds_351 (by decide) ?_
          refine lv_goto (tgt := 356) hx hb dX12_holds_352 (by decide) ?_
          exact oE_i hx hb hr (by decide) hlocks hP hD hS (h0_lowest, h0_highest) [0, 1] rfl (by decide) (Or.inr (rfl)) (Nat.le_of_ble_eq_true rfl) (Nat.le_of_ble_eq_true rfl) dX12_holds_356
      · skip
        have o_169 : rl 0 x_162 61 := rl_eq c_163
        have h_170 : rg (-2147483648) 61 x_162 := rl_x o_169 (rga x_162) (⟨by decide, by decide⟩ : rg 61 61 (61 : Int32)) (by decide) (by decide)
        have o_171 : rl 0 61 x_162 := rl_eq c_163.symm
        have h_172 : rg 61 61 x_162 := rl_y o_171 (⟨by decide, by decide⟩ : rg 61 61 (61 : Int32)) h_170 (by decide) (by decide)
        refine lv_iload hx hb dX12_holds_329 (lv_at hl 0 rfl) ?_
        refine lv_iload hx hb dX12_holds_331 (lv_at hl 3 rfl) ?_
        refine lv_icmp_ne (tgt := 340) hx hb dX12_holds_333 (by decide) (fun c_173 => ?_) (fun c_173 => ?_)
        · skip
          refine lv_iconst (v := 0) hx hb dX12_holds_340 (by decide) ?_
          refine lv_goto (tgt := 356) hx hb dX12_holds_341 (by decide) ?_
          exact oE_i hx hb hr (by decide) hlocks hP hD hS (h0_lowest, h0_highest) [0, 1] rfl (by decide) (Or.inl rfl) (Nat.le_of_ble_eq_true rfl) (Nat.le_of_ble_eq_true rfl) dX12_holds_356
        · skip
          have o_174 : rl 0 y286_2 y286_1 := rl_eq c_173
          have o_175 : rl 0 y286_1 y286_2 := rl_eq c_173.symm
          refine lv_iconst (v := 1) hx hb dX12_holds_336 (by decide) ?_
          refine lv_goto (tgt := 356) hx hb dX12_holds_337 (by decide) ?_
          exact oE_i hx hb hr (by decide) hlocks hP hD hS (h0_lowest, h0_highest) [0, 1] rfl (by decide) (Or.inr (rfl)) (Nat.le_of_ble_eq_true rfl) (Nat.le_of_ble_eq_true rfl) dX12_holds_356
    · skip
      have o_176 : rl 0 x_157 60 := rl_eq c_158
      have h_177 : rg (-2147483648) 60 x_157 := rl_x o_176 (rga x_157) (⟨by decide, by decide⟩ : rg 60 60 (60 : Int32)) (by decide) (by decide)
      have o_178 : rl 0 60 x_157 := rl_eq c_158.symm
      have h_179 : rg 60 60 x_157 := rl_y o_178 (⟨by decide, by decide⟩ : rg 60 60 (60 : Int32)) h_177 (by decide) (by decide)
      refine lv_iload hx hb dX12_holds_301 (lv_at hl 0 rfl) ?_
      refine lv_iload hx hb dX12_holds_303 (lv_at hl 3 rfl) ?_
      refine lv_icmp_ge (tgt := 312) hx hb dX12_holds_305 (by decide) (fun c_180 => ?_) (fun c_180 => ?_)
      · skip
        have o_181 : rl 0 y286_1 y286_2 := rl_le c_180
        refine lv_iconst (v := 0) hx hb dX12_holds_312 (by decide) ?_
        refine lv_goto (tgt := 356) hx hb dX12_holds_313 (by decide) ?_
        exact oE_i hx hb hr (by decide) hlocks hP hD hS (h0_lowest, h0_highest) [0, 1] rfl (by decide) (Or.inl rfl) (Nat.le_of_ble_eq_true rfl) (Nat.le_of_ble_eq_true rfl) dX12_holds_356
      · skip
        have o_182 : rl 1 y286_2 y286_1 := rl_nle c_180
        have h_183 : rg (-2147483648) 2147483646 y286_2 := rl_x o_182 (rga y286_2) (rga y286_1) (by decide) (by decide)
        have h_184 : rg (-2147483647) 2147483647 y286_1 := rl_y o_182 (rga y286_2) (rga y286_1) (by decide) (by decide)
        refine lv_iconst (v := 1) hx hb dX12_holds_308 (by decide) ?_
        refine lv_goto (tgt := 356) hx hb dX12_holds_309 (by decide) ?_
        exact oE_i hx hb hr (by decide) hlocks hP hD hS (h0_lowest, h0_highest) [0, 1] rfl (by decide) (Or.inr (rfl)) (Nat.le_of_ble_eq_true rfl) (Nat.le_of_ble_eq_true rfl) dX12_holds_356
  refine lv_sipush (v := 136) hx hb dX12_holds_0 (by decide) ?_
  refine lv_iconst (v := 4) hx hb dX12_holds_3 (by decide) ?_
  refine lv_iload_n hx hb dX12_holds_4 rfl (lv_at hl 1 rfl) ?_
  refine lv_imul hx hb dX12_holds_5 ?_
  refine lv_topi (fun x_185 ex_185 => ?_)
  have h_186 : rg 0 128 x_185 := by rw [ex_185]; exact rg_mul' (k := 4) i_a1 (by decide) (by decide) (by decide) (by decide) (by decide) (by decide)
  have l_187 : lq x_185.toInt (4 * a1.toInt) := lqm (by rw [ex_185]; have q := tmul' (k := 4) (y := 4) i_a1 (by decide) (by decide) (by decide) (by decide); omega)
  refine lv_iadd hx hb dX12_holds_6 ?_
  refine lv_topi (fun x_188 ex_188 => ?_)
  have h_189 : rg 136 264 x_188 := by rw [ex_188]; exact rg_add (⟨by decide, by decide⟩ : rg 136 136 (136 : Int32)) h_186 (by decide) (by decide) (by decide) (by decide)
  have l_190 : lq x_188.toInt (4 * a1.toInt + 136) := lqm (by rw [ex_188]; have q := tadd (⟨by decide, by decide⟩ : rg 136 136 (136 : Int32)) h_186 (by decide) (by decide); have r0 := lqe (lqm (by decide) : lq (136 : Int32).toInt 136); have r1 := lqe l_187; omega)
  refine lv_istore_n (lv' := [(3, .int x_188), (0, .ref h0), (1, .int a1), (2, .int a2)]) hx hb dX12_holds_7 rfl hl (by decide) rfl (fun ls hl => ?_)
  refine lv_aload_n hx hb dX12_holds_8 rfl (lv_at hl 1 rfl) ?_
  refine va_get (D := D) (ci := 11) (v := .ref h0_now) (C := RX12) (T := TX12) (N := 48) hx hb hts k2 hown hK.1 hP 0 rfl rfl 14 (by decide) k1 (fun _ h9 => h9) rfl dX12_holds_9 ?_
  refine lv_iload_n hx hb dX12_holds_12 rfl (lv_at hl 0 rfl) ?_
  refine lv_iconst (v := 1) hx hb dX12_holds_13 (by decide) ?_
  refine lv_iadd hx hb dX12_holds_14 ?_
  refine lv_topi (fun x_191 ex_191 => ?_)
  have h_192 : rg 137 265 x_191 := by rw [ex_191]; exact rg_add h_189 (⟨by decide, by decide⟩ : rg 1 1 (1 : Int32)) (by decide) (by decide) (by decide) (by decide)
  have l_193 : lq x_191.toInt (4 * a1.toInt + 137) := lqm (by rw [ex_191]; have q := tadd h_189 (⟨by decide, by decide⟩ : rg 1 1 (1 : Int32)) (by decide) (by decide); have r0 := lqe l_190; have r1 := lqe (lqm (by decide) : lq (1 : Int32).toInt 1); omega)
  refine va_iald hx hb hK.1 hP 1 0 rfl rfl (rg_in h_192 (by decide) (by decide)) dX12_holds_15 ?_
  refine lv_topi (fun x_194 ex_194 => ?_)
  refine lv_istore (lv' := [(4, .int x_194), (3, .int x_188), (0, .ref h0), (1, .int a1), (2, .int a2)]) hx hb dX12_holds_16 hl (by decide) rfl (fun ls hl => ?_)
  refine lv_aload_n hx hb dX12_holds_18 rfl (lv_at hl 2 rfl) ?_
  refine va_get (D := D) (ci := 11) (v := .ref h0_now) (C := RX12) (T := TX12) (N := 48) hx hb hts k2 hown hK.1 hP 0 rfl rfl 14 (by decide) k1 (fun _ h9 => h9) rfl dX12_holds_19 ?_
  refine lv_iload_n hx hb dX12_holds_22 rfl (lv_at hl 1 rfl) ?_
  refine lv_iconst (v := 2) hx hb dX12_holds_23 (by decide) ?_
  refine lv_iadd hx hb dX12_holds_24 ?_
  refine lv_topi (fun x_195 ex_195 => ?_)
  have h_196 : rg 138 266 x_195 := by rw [ex_195]; exact rg_add h_189 (⟨by decide, by decide⟩ : rg 2 2 (2 : Int32)) (by decide) (by decide) (by decide) (by decide)
  have l_197 : lq x_195.toInt (4 * a1.toInt + 138) := lqm (by rw [ex_195]; have q := tadd h_189 (⟨by decide, by decide⟩ : rg 2 2 (2 : Int32)) (by decide) (by decide); have r0 := lqe l_190; have r1 := lqe (lqm (by decide) : lq (2 : Int32).toInt 2); omega)
  refine va_iald hx hb hK.1 hP 1 0 rfl rfl (rg_in h_196 (by decide) (by decide)) dX12_holds_25 ?_
  refine lv_topi (fun x_198 ex_198 => ?_)
  refine lv_istore (lv' := [(5, .int x_198), (4, .int x_194), (3, .int x_188), (0, .ref h0), (1, .int a1), (2, .int a2)]) hx hb dX12_holds_26 hl (by decide) rfl (fun ls hl => ?_)
  refine lv_aload_n hx hb dX12_holds_28 rfl (lv_at hl 3 rfl) ?_
  refine va_get (D := D) (ci := 11) (v := .ref h0_now) (C := RX12) (T := TX12) (N := 48) hx hb hts k2 hown hK.1 hP 0 rfl rfl 14 (by decide) k1 (fun _ h9 => h9) rfl dX12_holds_29 ?_
  refine lv_iload_n hx hb dX12_holds_32 rfl (lv_at hl 2 rfl) ?_
  refine va_iald hx hb hK.1 hP 1 0 rfl rfl (rg_in h_189 (by decide) (by decide)) dX12_holds_33 ?_
  refine lv_topi (fun x_199 ex_199 => ?_)
  have ht := tokb_at cu_tokw i_a1 (by decide) (by decide) ex_199 ex_194 ex_198 l_190 l_193 l_197
  by_cases c_200 : x_199 = 1
  · skip
    refine oti 1 c_200 ?_
    refine lv_lookup (off := 66) (tgt := 100) hx hb dX12_holds_34 (by decide) (by decide) (by decide) ?_
    have h_201 : rg 0 31 x_194 := by have q := rg_cl i_a1 (by decide); have q1 := i_a1.2; have q2 := ht.1 c_200; exact ⟨by omega, by omega⟩
    refine lv_aload_n hx hb dX12_holds_100 rfl (lv_at hl 3 rfl) ?_
    refine lv_iload hx hb dX12_holds_101 (lv_at hl 1 rfl) ?_
    refine lv_iload_n hx hb dX12_holds_103 rfl (lv_at hl 5 rfl) ?_
    refine oC_i (Wc := [(h0, .inr (11, [.int h0_thrown, .ref h0_tape, .int h0_taped, .int h0_size, .int h0_limit, .int h0_to, .int h0_from, .int h0_kind, .int h0_number, .int h0_sign, .int h0_fault, .int h0_place, .long h0_word, .int h0_told, .ref h0_now, .ref h0_read, .ref h0_kept, .ref h0_snaps, .ref h0_aside, .ref h0_name, .ref h0_readName, .ref h0_keptName, .ref h0_isKept, .ref h0_onces, .int h0_snapMany, .int h0_lowest, .int h0_highest, .int h0_agreed, .int h0_jurors, .int h0_panelled, .ref h0_inSets, .int h0_surely, .int h0_asked, .ref h0_frees, .int h0_struck, .int h0_beating, .ref h0_text, .int h0_texts, .int h0_seed, .ref h0_line, .ref h0_written, .int h0_lineMany, .int h0_hasWritten, .ref h0_node, .int h0_nodes, .int h0_onesMany, .int h0_within, .int h0_top])), (aI ca h0_now 376 F_h0_now)]) (Wr := []) (va_runV (As := [.int x_194, .int a2]) (rest := []) ⟨hx, hb, hml, hown, hts⟩ (s_X12_holds_32 l D ca H.size h0 x_194 a2 h0_thrown h0_tape h0_taped h0_size h0_limit h0_to h0_from h0_kind h0_number h0_sign h0_fault h0_place h0_word h0_told h0_now h0_read h0_kept h0_snaps h0_aside h0_name h0_readName h0_keptName h0_isKept h0_onces h0_snapMany h0_lowest h0_highest h0_agreed h0_jurors h0_panelled h0_inSets h0_surely h0_asked h0_frees h0_struck h0_beating h0_text h0_texts h0_seed h0_line h0_written h0_lineMany h0_hasWritten h0_node h0_nodes h0_onesMany h0_within h0_top F_h0_now h_201 i_a2 i_h0_taped i_h0_size i_h0_to i_h0_kind i_h0_snapMany i_h0_texts i_h0_lineMany i_h0_hasWritten i_h0_nodes i_h0_onesMany s_h0_now_0 s_h0_now_1 s_h0_now_2 s_h0_now_3 s_h0_now_4 s_h0_now_5 s_h0_now_6 s_h0_now_7 cu_tokw) (cwV 2 hts gX12_holds_X12_holds rfl rfl rfl (by decide +kernel) ⟨Nat.le_of_ble_eq_true rfl, Nat.le_of_ble_eq_true rfl⟩) (oPV (C := RX12) hK hP hD [0, 1] rfl (by decide) 0 rfl (ci := 11) rfl rfl) rfl rfl hl.1 rfl (lv_room (Nat.le_of_ble_eq_true rfl)) dX12_holds_104 ⟨Nat.le_of_ble_eq_true rfl, Nat.le_of_ble_eq_true rfl⟩) hP hD hS hA [0, 1] [] rfl rfl (by decide) (by decide) (fun r_202 u H locs w_203 hP hD hS => ?_)
    obtain ⟨u_204, u_205⟩ := u
    have hP : va_P D vwCl [(h0, .inr (11, [.int h0_thrown, .ref h0_tape, .int h0_taped, .int h0_size, .int h0_limit, .int h0_to, .int h0_from, .int h0_kind, .int h0_number, .int h0_sign, .int h0_fault, .int h0_place, .long h0_word, .int h0_told, .ref h0_now, .ref h0_read, .ref h0_kept, .ref h0_snaps, .ref h0_aside, .ref h0_name, .ref h0_readName, .ref h0_keptName, .ref h0_isKept, .ref h0_onces, .int h0_snapMany, .int u_204, .int u_205, .int h0_agreed, .int h0_jurors, .int h0_panelled, .ref h0_inSets, .int h0_surely, .int h0_asked, .ref h0_frees, .int h0_struck, .int h0_beating, .ref h0_text, .int h0_texts, .int h0_seed, .ref h0_line, .ref h0_written, .int h0_lineMany, .int h0_hasWritten, .ref h0_node, .int h0_nodes, .int h0_onesMany, .int h0_within, .int h0_top])), (aI ca h0_now 376 F_h0_now)] H := hP
    have hD : va_D A [(h0, .inr (11, [.int h0_thrown, .ref h0_tape, .int h0_taped, .int h0_size, .int h0_limit, .int h0_to, .int h0_from, .int h0_kind, .int h0_number, .int h0_sign, .int h0_fault, .int h0_place, .long h0_word, .int h0_told, .ref h0_now, .ref h0_read, .ref h0_kept, .ref h0_snaps, .ref h0_aside, .ref h0_name, .ref h0_readName, .ref h0_keptName, .ref h0_isKept, .ref h0_onces, .int h0_snapMany, .int u_204, .int u_205, .int h0_agreed, .int h0_jurors, .int h0_panelled, .ref h0_inSets, .int h0_surely, .int h0_asked, .ref h0_frees, .int h0_struck, .int h0_beating, .ref h0_text, .int h0_texts, .int h0_seed, .ref h0_line, .ref h0_written, .int h0_lineMany, .int h0_hasWritten, .ref h0_node, .int h0_nodes, .int h0_onesMany, .int h0_within, .int h0_top])), (aI ca h0_now 376 F_h0_now)] := hD
    try dsimp only at w_203
    rcases w_203 with h_206 | h_207
    · skip
      subst h_206
      refine lv_if_ne (tgt := 114) hx hb dX12_holds_107 (by decide) (fun _ => ?_) (fun c => absurd c (by decide))
      refine lv_iconst (v := 0) hx hb dX12_holds_114 (by decide) ?_
      exact oE_i hx hb hr (by decide) hlocks hP hD hS (u_204, u_205) [0, 1] rfl (by decide) (Or.inl rfl) (Nat.le_of_ble_eq_true rfl) (Nat.le_of_ble_eq_true rfl) dX12_holds_115
    · skip
      subst h_207
      refine lv_if_ne (tgt := 114) hx hb dX12_holds_107 (by decide) (fun c => absurd (by decide) c) (fun _ => ?_)
      refine lv_iconst (v := 1) hx hb dX12_holds_110 (by decide) ?_
      refine lv_goto (tgt := 115) hx hb dX12_holds_111 (by decide) ?_
      exact oE_i hx hb hr (by decide) hlocks hP hD hS (u_204, u_205) [0, 1] rfl (by decide) (Or.inr (rfl)) (Nat.le_of_ble_eq_true rfl) (Nat.le_of_ble_eq_true rfl) dX12_holds_115
  by_cases c_208 : x_199 = 2
  · skip
    refine oti 2 c_208 ?_
    refine lv_lookup (off := 82) (tgt := 116) hx hb dX12_holds_34 (by decide) (by decide) (by decide) ?_
    have h_209 : rg 0 31 x_194 := by have q := rg_cl i_a1 (by decide); have q1 := i_a1.2; have q2 := (ht.2.1 (Or.inl c_208)).1; exact ⟨by omega, by omega⟩
    have h_210 : rg 0 31 x_198 := by have q := rg_cl i_a1 (by decide); have q1 := i_a1.2; have q2 := (ht.2.1 (Or.inl c_208)).2; exact ⟨by omega, by omega⟩
    refine lv_aload_n hx hb dX12_holds_116 rfl (lv_at hl 3 rfl) ?_
    refine lv_iload hx hb dX12_holds_117 (lv_at hl 1 rfl) ?_
    refine lv_iload_n hx hb dX12_holds_119 rfl (lv_at hl 5 rfl) ?_
    refine oC_i (Wc := [(h0, .inr (11, [.int h0_thrown, .ref h0_tape, .int h0_taped, .int h0_size, .int h0_limit, .int h0_to, .int h0_from, .int h0_kind, .int h0_number, .int h0_sign, .int h0_fault, .int h0_place, .long h0_word, .int h0_told, .ref h0_now, .ref h0_read, .ref h0_kept, .ref h0_snaps, .ref h0_aside, .ref h0_name, .ref h0_readName, .ref h0_keptName, .ref h0_isKept, .ref h0_onces, .int h0_snapMany, .int h0_lowest, .int h0_highest, .int h0_agreed, .int h0_jurors, .int h0_panelled, .ref h0_inSets, .int h0_surely, .int h0_asked, .ref h0_frees, .int h0_struck, .int h0_beating, .ref h0_text, .int h0_texts, .int h0_seed, .ref h0_line, .ref h0_written, .int h0_lineMany, .int h0_hasWritten, .ref h0_node, .int h0_nodes, .int h0_onesMany, .int h0_within, .int h0_top])), (aI ca h0_now 376 F_h0_now)]) (Wr := []) (va_runV (As := [.int x_194, .int a2]) (rest := []) ⟨hx, hb, hml, hown, hts⟩ (s_X12_holds_32 l D ca H.size h0 x_194 a2 h0_thrown h0_tape h0_taped h0_size h0_limit h0_to h0_from h0_kind h0_number h0_sign h0_fault h0_place h0_word h0_told h0_now h0_read h0_kept h0_snaps h0_aside h0_name h0_readName h0_keptName h0_isKept h0_onces h0_snapMany h0_lowest h0_highest h0_agreed h0_jurors h0_panelled h0_inSets h0_surely h0_asked h0_frees h0_struck h0_beating h0_text h0_texts h0_seed h0_line h0_written h0_lineMany h0_hasWritten h0_node h0_nodes h0_onesMany h0_within h0_top F_h0_now h_209 i_a2 i_h0_taped i_h0_size i_h0_to i_h0_kind i_h0_snapMany i_h0_texts i_h0_lineMany i_h0_hasWritten i_h0_nodes i_h0_onesMany s_h0_now_0 s_h0_now_1 s_h0_now_2 s_h0_now_3 s_h0_now_4 s_h0_now_5 s_h0_now_6 s_h0_now_7 cu_tokw) (cwV 2 hts gX12_holds_X12_holds rfl rfl rfl (by decide +kernel) ⟨Nat.le_of_ble_eq_true rfl, Nat.le_of_ble_eq_true rfl⟩) (oPV (C := RX12) hK hP hD [0, 1] rfl (by decide) 0 rfl (ci := 11) rfl rfl) rfl rfl hl.1 rfl (lv_room (Nat.le_of_ble_eq_true rfl)) dX12_holds_120 ⟨Nat.le_of_ble_eq_true rfl, Nat.le_of_ble_eq_true rfl⟩) hP hD hS hA [0, 1] [] rfl rfl (by decide) (by decide) (fun r_211 u H locs w_212 hP hD hS => ?_)
    obtain ⟨u_213, u_214⟩ := u
    have hP : va_P D vwCl [(h0, .inr (11, [.int h0_thrown, .ref h0_tape, .int h0_taped, .int h0_size, .int h0_limit, .int h0_to, .int h0_from, .int h0_kind, .int h0_number, .int h0_sign, .int h0_fault, .int h0_place, .long h0_word, .int h0_told, .ref h0_now, .ref h0_read, .ref h0_kept, .ref h0_snaps, .ref h0_aside, .ref h0_name, .ref h0_readName, .ref h0_keptName, .ref h0_isKept, .ref h0_onces, .int h0_snapMany, .int u_213, .int u_214, .int h0_agreed, .int h0_jurors, .int h0_panelled, .ref h0_inSets, .int h0_surely, .int h0_asked, .ref h0_frees, .int h0_struck, .int h0_beating, .ref h0_text, .int h0_texts, .int h0_seed, .ref h0_line, .ref h0_written, .int h0_lineMany, .int h0_hasWritten, .ref h0_node, .int h0_nodes, .int h0_onesMany, .int h0_within, .int h0_top])), (aI ca h0_now 376 F_h0_now)] H := hP
    have hD : va_D A [(h0, .inr (11, [.int h0_thrown, .ref h0_tape, .int h0_taped, .int h0_size, .int h0_limit, .int h0_to, .int h0_from, .int h0_kind, .int h0_number, .int h0_sign, .int h0_fault, .int h0_place, .long h0_word, .int h0_told, .ref h0_now, .ref h0_read, .ref h0_kept, .ref h0_snaps, .ref h0_aside, .ref h0_name, .ref h0_readName, .ref h0_keptName, .ref h0_isKept, .ref h0_onces, .int h0_snapMany, .int u_213, .int u_214, .int h0_agreed, .int h0_jurors, .int h0_panelled, .ref h0_inSets, .int h0_surely, .int h0_asked, .ref h0_frees, .int h0_struck, .int h0_beating, .ref h0_text, .int h0_texts, .int h0_seed, .ref h0_line, .ref h0_written, .int h0_lineMany, .int h0_hasWritten, .ref h0_node, .int h0_nodes, .int h0_onesMany, .int h0_within, .int h0_top])), (aI ca h0_now 376 F_h0_now)] := hD
    try dsimp only at w_212
    rcases w_212 with h_215 | h_216
    · skip
      subst h_215
      refine lv_if_eq (tgt := 140) hx hb dX12_holds_123 (by decide) (fun c => absurd c (by decide)) (fun _ => ?_)
      refine lv_aload_n hx hb dX12_holds_126 rfl (lv_at hl 3 rfl) ?_
      refine lv_iload hx hb dX12_holds_127 (lv_at hl 0 rfl) ?_
      refine lv_iload_n hx hb dX12_holds_129 rfl (lv_at hl 5 rfl) ?_
      refine oC_i (Wc := [(h0, .inr (11, [.int h0_thrown, .ref h0_tape, .int h0_taped, .int h0_size, .int h0_limit, .int h0_to, .int h0_from, .int h0_kind, .int h0_number, .int h0_sign, .int h0_fault, .int h0_place, .long h0_word, .int h0_told, .ref h0_now, .ref h0_read, .ref h0_kept, .ref h0_snaps, .ref h0_aside, .ref h0_name, .ref h0_readName, .ref h0_keptName, .ref h0_isKept, .ref h0_onces, .int h0_snapMany, .int u_213, .int u_214, .int h0_agreed, .int h0_jurors, .int h0_panelled, .ref h0_inSets, .int h0_surely, .int h0_asked, .ref h0_frees, .int h0_struck, .int h0_beating, .ref h0_text, .int h0_texts, .int h0_seed, .ref h0_line, .ref h0_written, .int h0_lineMany, .int h0_hasWritten, .ref h0_node, .int h0_nodes, .int h0_onesMany, .int h0_within, .int h0_top])), (aI ca h0_now 376 F_h0_now)]) (Wr := []) (va_runV (As := [.int x_198, .int a2]) (rest := []) ⟨hx, hb, hml, hown, hts⟩ (s_X12_holds_32 l D ca H.size h0 x_198 a2 h0_thrown h0_tape h0_taped h0_size h0_limit h0_to h0_from h0_kind h0_number h0_sign h0_fault h0_place h0_word h0_told h0_now h0_read h0_kept h0_snaps h0_aside h0_name h0_readName h0_keptName h0_isKept h0_onces h0_snapMany u_213 u_214 h0_agreed h0_jurors h0_panelled h0_inSets h0_surely h0_asked h0_frees h0_struck h0_beating h0_text h0_texts h0_seed h0_line h0_written h0_lineMany h0_hasWritten h0_node h0_nodes h0_onesMany h0_within h0_top F_h0_now h_210 i_a2 i_h0_taped i_h0_size i_h0_to i_h0_kind i_h0_snapMany i_h0_texts i_h0_lineMany i_h0_hasWritten i_h0_nodes i_h0_onesMany s_h0_now_0 s_h0_now_1 s_h0_now_2 s_h0_now_3 s_h0_now_4 s_h0_now_5 s_h0_now_6 s_h0_now_7 cu_tokw) (cwV 2 hts gX12_holds_X12_holds rfl rfl rfl (by decide +kernel) ⟨Nat.le_of_ble_eq_true rfl, Nat.le_of_ble_eq_true rfl⟩) (oPV (C := RX12) hK hP hD [0, 1] rfl (by decide) 0 rfl (ci := 11) rfl rfl) rfl rfl hl.1 rfl (lv_room (Nat.le_of_ble_eq_true rfl)) dX12_holds_130 ⟨Nat.le_of_ble_eq_true rfl, Nat.le_of_ble_eq_true rfl⟩) hP hD hS hA [0, 1] [] rfl rfl (by decide) (by decide) (fun r_217 u H locs w_218 hP hD hS => ?_)
      obtain ⟨u_219, u_220⟩ := u
      have hP : va_P D vwCl [(h0, .inr (11, [.int h0_thrown, .ref h0_tape, .int h0_taped, .int h0_size, .int h0_limit, .int h0_to, .int h0_from, .int h0_kind, .int h0_number, .int h0_sign, .int h0_fault, .int h0_place, .long h0_word, .int h0_told, .ref h0_now, .ref h0_read, .ref h0_kept, .ref h0_snaps, .ref h0_aside, .ref h0_name, .ref h0_readName, .ref h0_keptName, .ref h0_isKept, .ref h0_onces, .int h0_snapMany, .int u_219, .int u_220, .int h0_agreed, .int h0_jurors, .int h0_panelled, .ref h0_inSets, .int h0_surely, .int h0_asked, .ref h0_frees, .int h0_struck, .int h0_beating, .ref h0_text, .int h0_texts, .int h0_seed, .ref h0_line, .ref h0_written, .int h0_lineMany, .int h0_hasWritten, .ref h0_node, .int h0_nodes, .int h0_onesMany, .int h0_within, .int h0_top])), (aI ca h0_now 376 F_h0_now)] H := hP
      have hD : va_D A [(h0, .inr (11, [.int h0_thrown, .ref h0_tape, .int h0_taped, .int h0_size, .int h0_limit, .int h0_to, .int h0_from, .int h0_kind, .int h0_number, .int h0_sign, .int h0_fault, .int h0_place, .long h0_word, .int h0_told, .ref h0_now, .ref h0_read, .ref h0_kept, .ref h0_snaps, .ref h0_aside, .ref h0_name, .ref h0_readName, .ref h0_keptName, .ref h0_isKept, .ref h0_onces, .int h0_snapMany, .int u_219, .int u_220, .int h0_agreed, .int h0_jurors, .int h0_panelled, .ref h0_inSets, .int h0_surely, .int h0_asked, .ref h0_frees, .int h0_struck, .int h0_beating, .ref h0_text, .int h0_texts, .int h0_seed, .ref h0_line, .ref h0_written, .int h0_lineMany, .int h0_hasWritten, .ref h0_node, .int h0_nodes, .int h0_onesMany, .int h0_within, .int h0_top])), (aI ca h0_now 376 F_h0_now)] := hD
      try dsimp only at w_218
      rcases w_218 with h_221 | h_222
      · skip
        subst h_221
        refine lv_if_eq (tgt := 140) hx hb dX12_holds_133 (by decide) (fun c => absurd c (by decide)) (fun _ => ?_)
        refine lv_iconst (v := 1) hx hb dX12_holds_136 (by decide) ?_
        refine lv_goto (tgt := 141) hx hb dX12_holds_137 (by decide) ?_
        exact oE_i hx hb hr (by decide) hlocks hP hD hS (u_219, u_220) [0, 1] rfl (by decide) (Or.inr (rfl)) (Nat.le_of_ble_eq_true rfl) (Nat.le_of_ble_eq_true rfl) dX12_holds_141
      · skip
        subst h_222
        refine lv_if_eq (tgt := 140) hx hb dX12_holds_133 (by decide) (fun _ => ?_) (fun c => absurd (by decide) c)
        refine lv_iconst (v := 0) hx hb dX12_holds_140 (by decide) ?_
        exact oE_i hx hb hr (by decide) hlocks hP hD hS (u_219, u_220) [0, 1] rfl (by decide) (Or.inl rfl) (Nat.le_of_ble_eq_true rfl) (Nat.le_of_ble_eq_true rfl) dX12_holds_141
    · skip
      subst h_216
      refine lv_if_eq (tgt := 140) hx hb dX12_holds_123 (by decide) (fun _ => ?_) (fun c => absurd (by decide) c)
      refine lv_iconst (v := 0) hx hb dX12_holds_140 (by decide) ?_
      exact oE_i hx hb hr (by decide) hlocks hP hD hS (u_213, u_214) [0, 1] rfl (by decide) (Or.inl rfl) (Nat.le_of_ble_eq_true rfl) (Nat.le_of_ble_eq_true rfl) dX12_holds_141
  by_cases c_223 : x_199 = 3
  · skip
    refine oti 3 c_223 ?_
    refine lv_lookup (off := 108) (tgt := 142) hx hb dX12_holds_34 (by decide) (by decide) (by decide) ?_
    have h_224 : rg 0 31 x_194 := by have q := rg_cl i_a1 (by decide); have q1 := i_a1.2; have q2 := (ht.2.1 (Or.inr c_223)).1; exact ⟨by omega, by omega⟩
    have h_225 : rg 0 31 x_198 := by have q := rg_cl i_a1 (by decide); have q1 := i_a1.2; have q2 := (ht.2.1 (Or.inr c_223)).2; exact ⟨by omega, by omega⟩
    refine lv_aload_n hx hb dX12_holds_142 rfl (lv_at hl 3 rfl) ?_
    refine lv_iload hx hb dX12_holds_143 (lv_at hl 1 rfl) ?_
    refine lv_iload_n hx hb dX12_holds_145 rfl (lv_at hl 5 rfl) ?_
    refine oC_i (Wc := [(h0, .inr (11, [.int h0_thrown, .ref h0_tape, .int h0_taped, .int h0_size, .int h0_limit, .int h0_to, .int h0_from, .int h0_kind, .int h0_number, .int h0_sign, .int h0_fault, .int h0_place, .long h0_word, .int h0_told, .ref h0_now, .ref h0_read, .ref h0_kept, .ref h0_snaps, .ref h0_aside, .ref h0_name, .ref h0_readName, .ref h0_keptName, .ref h0_isKept, .ref h0_onces, .int h0_snapMany, .int h0_lowest, .int h0_highest, .int h0_agreed, .int h0_jurors, .int h0_panelled, .ref h0_inSets, .int h0_surely, .int h0_asked, .ref h0_frees, .int h0_struck, .int h0_beating, .ref h0_text, .int h0_texts, .int h0_seed, .ref h0_line, .ref h0_written, .int h0_lineMany, .int h0_hasWritten, .ref h0_node, .int h0_nodes, .int h0_onesMany, .int h0_within, .int h0_top])), (aI ca h0_now 376 F_h0_now)]) (Wr := []) (va_runV (As := [.int x_194, .int a2]) (rest := []) ⟨hx, hb, hml, hown, hts⟩ (s_X12_holds_32 l D ca H.size h0 x_194 a2 h0_thrown h0_tape h0_taped h0_size h0_limit h0_to h0_from h0_kind h0_number h0_sign h0_fault h0_place h0_word h0_told h0_now h0_read h0_kept h0_snaps h0_aside h0_name h0_readName h0_keptName h0_isKept h0_onces h0_snapMany h0_lowest h0_highest h0_agreed h0_jurors h0_panelled h0_inSets h0_surely h0_asked h0_frees h0_struck h0_beating h0_text h0_texts h0_seed h0_line h0_written h0_lineMany h0_hasWritten h0_node h0_nodes h0_onesMany h0_within h0_top F_h0_now h_224 i_a2 i_h0_taped i_h0_size i_h0_to i_h0_kind i_h0_snapMany i_h0_texts i_h0_lineMany i_h0_hasWritten i_h0_nodes i_h0_onesMany s_h0_now_0 s_h0_now_1 s_h0_now_2 s_h0_now_3 s_h0_now_4 s_h0_now_5 s_h0_now_6 s_h0_now_7 cu_tokw) (cwV 2 hts gX12_holds_X12_holds rfl rfl rfl (by decide +kernel) ⟨Nat.le_of_ble_eq_true rfl, Nat.le_of_ble_eq_true rfl⟩) (oPV (C := RX12) hK hP hD [0, 1] rfl (by decide) 0 rfl (ci := 11) rfl rfl) rfl rfl hl.1 rfl (lv_room (Nat.le_of_ble_eq_true rfl)) dX12_holds_146 ⟨Nat.le_of_ble_eq_true rfl, Nat.le_of_ble_eq_true rfl⟩) hP hD hS hA [0, 1] [] rfl rfl (by decide) (by decide) (fun r_226 u H locs w_227 hP hD hS => ?_)
    obtain ⟨u_228, u_229⟩ := u
    have hP : va_P D vwCl [(h0, .inr (11, [.int h0_thrown, .ref h0_tape, .int h0_taped, .int h0_size, .int h0_limit, .int h0_to, .int h0_from, .int h0_kind, .int h0_number, .int h0_sign, .int h0_fault, .int h0_place, .long h0_word, .int h0_told, .ref h0_now, .ref h0_read, .ref h0_kept, .ref h0_snaps, .ref h0_aside, .ref h0_name, .ref h0_readName, .ref h0_keptName, .ref h0_isKept, .ref h0_onces, .int h0_snapMany, .int u_228, .int u_229, .int h0_agreed, .int h0_jurors, .int h0_panelled, .ref h0_inSets, .int h0_surely, .int h0_asked, .ref h0_frees, .int h0_struck, .int h0_beating, .ref h0_text, .int h0_texts, .int h0_seed, .ref h0_line, .ref h0_written, .int h0_lineMany, .int h0_hasWritten, .ref h0_node, .int h0_nodes, .int h0_onesMany, .int h0_within, .int h0_top])), (aI ca h0_now 376 F_h0_now)] H := hP
    have hD : va_D A [(h0, .inr (11, [.int h0_thrown, .ref h0_tape, .int h0_taped, .int h0_size, .int h0_limit, .int h0_to, .int h0_from, .int h0_kind, .int h0_number, .int h0_sign, .int h0_fault, .int h0_place, .long h0_word, .int h0_told, .ref h0_now, .ref h0_read, .ref h0_kept, .ref h0_snaps, .ref h0_aside, .ref h0_name, .ref h0_readName, .ref h0_keptName, .ref h0_isKept, .ref h0_onces, .int h0_snapMany, .int u_228, .int u_229, .int h0_agreed, .int h0_jurors, .int h0_panelled, .ref h0_inSets, .int h0_surely, .int h0_asked, .ref h0_frees, .int h0_struck, .int h0_beating, .ref h0_text, .int h0_texts, .int h0_seed, .ref h0_line, .ref h0_written, .int h0_lineMany, .int h0_hasWritten, .ref h0_node, .int h0_nodes, .int h0_onesMany, .int h0_within, .int h0_top])), (aI ca h0_now 376 F_h0_now)] := hD
    try dsimp only at w_227
    rcases w_227 with h_230 | h_231
    · skip
      subst h_230
      refine lv_if_ne (tgt := 162) hx hb dX12_holds_149 (by decide) (fun _ => ?_) (fun c => absurd c (by decide))
      refine lv_iconst (v := 1) hx hb dX12_holds_162 (by decide) ?_
      refine lv_goto (tgt := 167) hx hb dX12_holds_163 (by decide) ?_
      exact oE_i hx hb hr (by decide) hlocks hP hD hS (u_228, u_229) [0, 1] rfl (by decide) (Or.inr (rfl)) (Nat.le_of_ble_eq_true rfl) (Nat.le_of_ble_eq_true rfl) dX12_holds_167
    · skip
      subst h_231
      refine lv_if_ne (tgt := 162) hx hb dX12_holds_149 (by decide) (fun c => absurd (by decide) c) (fun _ => ?_)
      refine lv_aload_n hx hb dX12_holds_152 rfl (lv_at hl 3 rfl) ?_
      refine lv_iload hx hb dX12_holds_153 (lv_at hl 0 rfl) ?_
      refine lv_iload_n hx hb dX12_holds_155 rfl (lv_at hl 5 rfl) ?_
      refine oC_i (Wc := [(h0, .inr (11, [.int h0_thrown, .ref h0_tape, .int h0_taped, .int h0_size, .int h0_limit, .int h0_to, .int h0_from, .int h0_kind, .int h0_number, .int h0_sign, .int h0_fault, .int h0_place, .long h0_word, .int h0_told, .ref h0_now, .ref h0_read, .ref h0_kept, .ref h0_snaps, .ref h0_aside, .ref h0_name, .ref h0_readName, .ref h0_keptName, .ref h0_isKept, .ref h0_onces, .int h0_snapMany, .int u_228, .int u_229, .int h0_agreed, .int h0_jurors, .int h0_panelled, .ref h0_inSets, .int h0_surely, .int h0_asked, .ref h0_frees, .int h0_struck, .int h0_beating, .ref h0_text, .int h0_texts, .int h0_seed, .ref h0_line, .ref h0_written, .int h0_lineMany, .int h0_hasWritten, .ref h0_node, .int h0_nodes, .int h0_onesMany, .int h0_within, .int h0_top])), (aI ca h0_now 376 F_h0_now)]) (Wr := []) (va_runV (As := [.int x_198, .int a2]) (rest := []) ⟨hx, hb, hml, hown, hts⟩ (s_X12_holds_32 l D ca H.size h0 x_198 a2 h0_thrown h0_tape h0_taped h0_size h0_limit h0_to h0_from h0_kind h0_number h0_sign h0_fault h0_place h0_word h0_told h0_now h0_read h0_kept h0_snaps h0_aside h0_name h0_readName h0_keptName h0_isKept h0_onces h0_snapMany u_228 u_229 h0_agreed h0_jurors h0_panelled h0_inSets h0_surely h0_asked h0_frees h0_struck h0_beating h0_text h0_texts h0_seed h0_line h0_written h0_lineMany h0_hasWritten h0_node h0_nodes h0_onesMany h0_within h0_top F_h0_now h_225 i_a2 i_h0_taped i_h0_size i_h0_to i_h0_kind i_h0_snapMany i_h0_texts i_h0_lineMany i_h0_hasWritten i_h0_nodes i_h0_onesMany s_h0_now_0 s_h0_now_1 s_h0_now_2 s_h0_now_3 s_h0_now_4 s_h0_now_5 s_h0_now_6 s_h0_now_7 cu_tokw) (cwV 2 hts gX12_holds_X12_holds rfl rfl rfl (by decide +kernel) ⟨Nat.le_of_ble_eq_true rfl, Nat.le_of_ble_eq_true rfl⟩) (oPV (C := RX12) hK hP hD [0, 1] rfl (by decide) 0 rfl (ci := 11) rfl rfl) rfl rfl hl.1 rfl (lv_room (Nat.le_of_ble_eq_true rfl)) dX12_holds_156 ⟨Nat.le_of_ble_eq_true rfl, Nat.le_of_ble_eq_true rfl⟩) hP hD hS hA [0, 1] [] rfl rfl (by decide) (by decide) (fun r_232 u H locs w_233 hP hD hS => ?_)
      obtain ⟨u_234, u_235⟩ := u
      have hP : va_P D vwCl [(h0, .inr (11, [.int h0_thrown, .ref h0_tape, .int h0_taped, .int h0_size, .int h0_limit, .int h0_to, .int h0_from, .int h0_kind, .int h0_number, .int h0_sign, .int h0_fault, .int h0_place, .long h0_word, .int h0_told, .ref h0_now, .ref h0_read, .ref h0_kept, .ref h0_snaps, .ref h0_aside, .ref h0_name, .ref h0_readName, .ref h0_keptName, .ref h0_isKept, .ref h0_onces, .int h0_snapMany, .int u_234, .int u_235, .int h0_agreed, .int h0_jurors, .int h0_panelled, .ref h0_inSets, .int h0_surely, .int h0_asked, .ref h0_frees, .int h0_struck, .int h0_beating, .ref h0_text, .int h0_texts, .int h0_seed, .ref h0_line, .ref h0_written, .int h0_lineMany, .int h0_hasWritten, .ref h0_node, .int h0_nodes, .int h0_onesMany, .int h0_within, .int h0_top])), (aI ca h0_now 376 F_h0_now)] H := hP
      have hD : va_D A [(h0, .inr (11, [.int h0_thrown, .ref h0_tape, .int h0_taped, .int h0_size, .int h0_limit, .int h0_to, .int h0_from, .int h0_kind, .int h0_number, .int h0_sign, .int h0_fault, .int h0_place, .long h0_word, .int h0_told, .ref h0_now, .ref h0_read, .ref h0_kept, .ref h0_snaps, .ref h0_aside, .ref h0_name, .ref h0_readName, .ref h0_keptName, .ref h0_isKept, .ref h0_onces, .int h0_snapMany, .int u_234, .int u_235, .int h0_agreed, .int h0_jurors, .int h0_panelled, .ref h0_inSets, .int h0_surely, .int h0_asked, .ref h0_frees, .int h0_struck, .int h0_beating, .ref h0_text, .int h0_texts, .int h0_seed, .ref h0_line, .ref h0_written, .int h0_lineMany, .int h0_hasWritten, .ref h0_node, .int h0_nodes, .int h0_onesMany, .int h0_within, .int h0_top])), (aI ca h0_now 376 F_h0_now)] := hD
      try dsimp only at w_233
      rcases w_233 with h_236 | h_237
      · skip
        subst h_236
        refine lv_if_eq (tgt := 166) hx hb dX12_holds_159 (by decide) (fun c => absurd c (by decide)) (fun _ => ?_)
        refine lv_iconst (v := 1) hx hb dX12_holds_162 (by decide) ?_
        refine lv_goto (tgt := 167) hx hb dX12_holds_163 (by decide) ?_
        exact oE_i hx hb hr (by decide) hlocks hP hD hS (u_234, u_235) [0, 1] rfl (by decide) (Or.inr (rfl)) (Nat.le_of_ble_eq_true rfl) (Nat.le_of_ble_eq_true rfl) dX12_holds_167
      · skip
        subst h_237
        refine lv_if_eq (tgt := 166) hx hb dX12_holds_159 (by decide) (fun _ => ?_) (fun c => absurd (by decide) c)
        refine lv_iconst (v := 0) hx hb dX12_holds_166 (by decide) ?_
        exact oE_i hx hb hr (by decide) hlocks hP hD hS (u_234, u_235) [0, 1] rfl (by decide) (Or.inl rfl) (Nat.le_of_ble_eq_true rfl) (Nat.le_of_ble_eq_true rfl) dX12_holds_167
  by_cases c_238 : x_199 = 68
  · skip
    refine oti 68 c_238 ?_
    refine lv_lookup (off := 134) (tgt := 168) hx hb dX12_holds_34 (by decide) (by decide) (by decide) ?_
    refine lv_aload_n hx hb dX12_holds_168 rfl (lv_at hl 3 rfl) ?_
    refine va_get (D := D) (ci := 11) (v := .ref h0_now) (C := RX12) (T := TX12) (N := 48) hx hb hts k2 hown hK.1 hP 0 rfl rfl 14 (by decide) k1 (fun _ h9 => h9) rfl dX12_holds_169 ?_
    refine lv_bipush (v := 90) hx hb dX12_holds_172 (by decide) ?_
    refine va_iald hx hb hK.1 hP 1 0 rfl rfl (rg_in (⟨by decide, by decide⟩ : rg 90 90 (90 : Int32)) (by decide) (by decide)) dX12_holds_174 ?_
    refine lv_topi (fun x_239 ex_239 => ?_)
    have h_240 : rg 0 1023 x_239 := by rw [ex_239]; exact sg_at s_h0_now_5 (⟨by decide, by decide⟩ : rg 90 90 (90 : Int32)) (by decide) (by decide) (by decide)
    refine lv_iload_n hx hb dX12_holds_175 rfl (lv_at hl 5 rfl) ?_
    refine oC_i (Wc := []) (Wr := [(h0, .inr (11, [.int h0_thrown, .ref h0_tape, .int h0_taped, .int h0_size, .int h0_limit, .int h0_to, .int h0_from, .int h0_kind, .int h0_number, .int h0_sign, .int h0_fault, .int h0_place, .long h0_word, .int h0_told, .ref h0_now, .ref h0_read, .ref h0_kept, .ref h0_snaps, .ref h0_aside, .ref h0_name, .ref h0_readName, .ref h0_keptName, .ref h0_isKept, .ref h0_onces, .int h0_snapMany, .int h0_lowest, .int h0_highest, .int h0_agreed, .int h0_jurors, .int h0_panelled, .ref h0_inSets, .int h0_surely, .int h0_asked, .ref h0_frees, .int h0_struck, .int h0_beating, .ref h0_text, .int h0_texts, .int h0_seed, .ref h0_line, .ref h0_written, .int h0_lineMany, .int h0_hasWritten, .ref h0_node, .int h0_nodes, .int h0_onesMany, .int h0_within, .int h0_top])), (aI ca h0_now 376 F_h0_now)]) (va_runS (As := [.int x_239, .int a2]) (rest := []) ⟨hx, hb, hml, hown, hts⟩ (s_X12_has l D ca H.size x_239 a2) (va_cwS 2 hts gX12_holds_X12_has rfl rfl rfl (by decide +kernel) ⟨Nat.le_of_ble_eq_true rfl, Nat.le_of_ble_eq_true rfl⟩) (oPS hK hP hD [] rfl (by decide)) rfl rfl hl.1 rfl (lv_room (Nat.le_of_ble_eq_true rfl)) dX12_holds_176 ⟨Nat.le_of_ble_eq_true rfl, Nat.le_of_ble_eq_true rfl⟩) hP hD hS hA [] [0, 1] rfl rfl (by decide) (by decide) (fun r_241 u H locs w_242 hP hD hS => ?_)
    obtain ⟨⟩ := u
    have hP : va_P D vwCl [(h0, .inr (11, [.int h0_thrown, .ref h0_tape, .int h0_taped, .int h0_size, .int h0_limit, .int h0_to, .int h0_from, .int h0_kind, .int h0_number, .int h0_sign, .int h0_fault, .int h0_place, .long h0_word, .int h0_told, .ref h0_now, .ref h0_read, .ref h0_kept, .ref h0_snaps, .ref h0_aside, .ref h0_name, .ref h0_readName, .ref h0_keptName, .ref h0_isKept, .ref h0_onces, .int h0_snapMany, .int h0_lowest, .int h0_highest, .int h0_agreed, .int h0_jurors, .int h0_panelled, .ref h0_inSets, .int h0_surely, .int h0_asked, .ref h0_frees, .int h0_struck, .int h0_beating, .ref h0_text, .int h0_texts, .int h0_seed, .ref h0_line, .ref h0_written, .int h0_lineMany, .int h0_hasWritten, .ref h0_node, .int h0_nodes, .int h0_onesMany, .int h0_within, .int h0_top])), (aI ca h0_now 376 F_h0_now)] H := hP
    have hD : va_D A [(h0, .inr (11, [.int h0_thrown, .ref h0_tape, .int h0_taped, .int h0_size, .int h0_limit, .int h0_to, .int h0_from, .int h0_kind, .int h0_number, .int h0_sign, .int h0_fault, .int h0_place, .long h0_word, .int h0_told, .ref h0_now, .ref h0_read, .ref h0_kept, .ref h0_snaps, .ref h0_aside, .ref h0_name, .ref h0_readName, .ref h0_keptName, .ref h0_isKept, .ref h0_onces, .int h0_snapMany, .int h0_lowest, .int h0_highest, .int h0_agreed, .int h0_jurors, .int h0_panelled, .ref h0_inSets, .int h0_surely, .int h0_asked, .ref h0_frees, .int h0_struck, .int h0_beating, .ref h0_text, .int h0_texts, .int h0_seed, .ref h0_line, .ref h0_written, .int h0_lineMany, .int h0_hasWritten, .ref h0_node, .int h0_nodes, .int h0_onesMany, .int h0_within, .int h0_top])), (aI ca h0_now 376 F_h0_now)] := hD
    try dsimp only at w_242
    rcases w_242 with ⟨h_243, h_244⟩ | ⟨h_245, h_246⟩
    · skip
      subst h_243
      exact oE_i hx hb hr (by decide) hlocks hP hD hS (h0_lowest, h0_highest) [0, 1] rfl (by decide) (Or.inl rfl) (Nat.le_of_ble_eq_true rfl) (Nat.le_of_ble_eq_true rfl) dX12_holds_179
    · skip
      subst h_245
      exact oE_i hx hb hr (by decide) hlocks hP hD hS (h0_lowest, h0_highest) [0, 1] rfl (by decide) (Or.inr (rfl)) (Nat.le_of_ble_eq_true rfl) (Nat.le_of_ble_eq_true rfl) dX12_holds_179
  by_cases c_247 : x_199 = 69
  · skip
    refine oti 69 c_247 ?_
    refine lv_lookup (off := 146) (tgt := 180) hx hb dX12_holds_34 (by decide) (by decide) (by decide) ?_
    refine lv_aload_n hx hb dX12_holds_180 rfl (lv_at hl 3 rfl) ?_
    refine va_get (D := D) (ci := 11) (v := .ref h0_now) (C := RX12) (T := TX12) (N := 48) hx hb hts k2 hown hK.1 hP 0 rfl rfl 14 (by decide) k1 (fun _ h9 => h9) rfl dX12_holds_181 ?_
    refine lv_bipush (v := 91) hx hb dX12_holds_184 (by decide) ?_
    refine va_iald hx hb hK.1 hP 1 0 rfl rfl (rg_in (⟨by decide, by decide⟩ : rg 91 91 (91 : Int32)) (by decide) (by decide)) dX12_holds_186 ?_
    refine lv_topi (fun x_248 ex_248 => ?_)
    refine lv_iload_n hx hb dX12_holds_187 rfl (lv_at hl 5 rfl) ?_
    refine oC_i (Wc := []) (Wr := [(h0, .inr (11, [.int h0_thrown, .ref h0_tape, .int h0_taped, .int h0_size, .int h0_limit, .int h0_to, .int h0_from, .int h0_kind, .int h0_number, .int h0_sign, .int h0_fault, .int h0_place, .long h0_word, .int h0_told, .ref h0_now, .ref h0_read, .ref h0_kept, .ref h0_snaps, .ref h0_aside, .ref h0_name, .ref h0_readName, .ref h0_keptName, .ref h0_isKept, .ref h0_onces, .int h0_snapMany, .int h0_lowest, .int h0_highest, .int h0_agreed, .int h0_jurors, .int h0_panelled, .ref h0_inSets, .int h0_surely, .int h0_asked, .ref h0_frees, .int h0_struck, .int h0_beating, .ref h0_text, .int h0_texts, .int h0_seed, .ref h0_line, .ref h0_written, .int h0_lineMany, .int h0_hasWritten, .ref h0_node, .int h0_nodes, .int h0_onesMany, .int h0_within, .int h0_top])), (aI ca h0_now 376 F_h0_now)]) (va_runS (As := [.int x_248, .int a2]) (rest := []) ⟨hx, hb, hml, hown, hts⟩ (s_X12_has l D ca H.size x_248 a2) (va_cwS 2 hts gX12_holds_X12_has rfl rfl rfl (by decide +kernel) ⟨Nat.le_of_ble_eq_true rfl, Nat.le_of_ble_eq_true rfl⟩) (oPS hK hP hD [] rfl (by decide)) rfl rfl hl.1 rfl (lv_room (Nat.le_of_ble_eq_true rfl)) dX12_holds_188 ⟨Nat.le_of_ble_eq_true rfl, Nat.le_of_ble_eq_true rfl⟩) hP hD hS hA [] [0, 1] rfl rfl (by decide) (by decide) (fun r_249 u H locs w_250 hP hD hS => ?_)
    obtain ⟨⟩ := u
    have hP : va_P D vwCl [(h0, .inr (11, [.int h0_thrown, .ref h0_tape, .int h0_taped, .int h0_size, .int h0_limit, .int h0_to, .int h0_from, .int h0_kind, .int h0_number, .int h0_sign, .int h0_fault, .int h0_place, .long h0_word, .int h0_told, .ref h0_now, .ref h0_read, .ref h0_kept, .ref h0_snaps, .ref h0_aside, .ref h0_name, .ref h0_readName, .ref h0_keptName, .ref h0_isKept, .ref h0_onces, .int h0_snapMany, .int h0_lowest, .int h0_highest, .int h0_agreed, .int h0_jurors, .int h0_panelled, .ref h0_inSets, .int h0_surely, .int h0_asked, .ref h0_frees, .int h0_struck, .int h0_beating, .ref h0_text, .int h0_texts, .int h0_seed, .ref h0_line, .ref h0_written, .int h0_lineMany, .int h0_hasWritten, .ref h0_node, .int h0_nodes, .int h0_onesMany, .int h0_within, .int h0_top])), (aI ca h0_now 376 F_h0_now)] H := hP
    have hD : va_D A [(h0, .inr (11, [.int h0_thrown, .ref h0_tape, .int h0_taped, .int h0_size, .int h0_limit, .int h0_to, .int h0_from, .int h0_kind, .int h0_number, .int h0_sign, .int h0_fault, .int h0_place, .long h0_word, .int h0_told, .ref h0_now, .ref h0_read, .ref h0_kept, .ref h0_snaps, .ref h0_aside, .ref h0_name, .ref h0_readName, .ref h0_keptName, .ref h0_isKept, .ref h0_onces, .int h0_snapMany, .int h0_lowest, .int h0_highest, .int h0_agreed, .int h0_jurors, .int h0_panelled, .ref h0_inSets, .int h0_surely, .int h0_asked, .ref h0_frees, .int h0_struck, .int h0_beating, .ref h0_text, .int h0_texts, .int h0_seed, .ref h0_line, .ref h0_written, .int h0_lineMany, .int h0_hasWritten, .ref h0_node, .int h0_nodes, .int h0_onesMany, .int h0_within, .int h0_top])), (aI ca h0_now 376 F_h0_now)] := hD
    try dsimp only at w_250
    rcases w_250 with ⟨h_251, h_252⟩ | ⟨h_253, h_254⟩
    · skip
      subst h_251
      exact oE_i hx hb hr (by decide) hlocks hP hD hS (h0_lowest, h0_highest) [0, 1] rfl (by decide) (Or.inl rfl) (Nat.le_of_ble_eq_true rfl) (Nat.le_of_ble_eq_true rfl) dX12_holds_191
    · skip
      subst h_253
      exact oE_i hx hb hr (by decide) hlocks hP hD hS (h0_lowest, h0_highest) [0, 1] rfl (by decide) (Or.inr (rfl)) (Nat.le_of_ble_eq_true rfl) (Nat.le_of_ble_eq_true rfl) dX12_holds_191
  by_cases c_255 : x_199 = 70
  · skip
    refine oti 70 c_255 ?_
    refine lv_lookup (off := 158) (tgt := 192) hx hb dX12_holds_34 (by decide) (by decide) (by decide) ?_
    refine lv_aload_n hx hb dX12_holds_192 rfl (lv_at hl 3 rfl) ?_
    refine va_get (D := D) (ci := 11) (v := .ref h0_now) (C := RX12) (T := TX12) (N := 48) hx hb hts k2 hown hK.1 hP 0 rfl rfl 14 (by decide) k1 (fun _ h9 => h9) rfl dX12_holds_193 ?_
    refine lv_bipush (v := 94) hx hb dX12_holds_196 (by decide) ?_
    refine lv_iload_n hx hb dX12_holds_198 rfl (lv_at hl 5 rfl) ?_
    refine lv_iadd hx hb dX12_holds_199 ?_
    refine lv_topi (fun x_256 ex_256 => ?_)
    have h_257 : rg 94 103 x_256 := by rw [ex_256]; exact rg_add (⟨by decide, by decide⟩ : rg 94 94 (94 : Int32)) i_a2 (by decide) (by decide) (by decide) (by decide)
    have l_258 : lq x_256.toInt (a2.toInt + 94) := lqm (by rw [ex_256]; have q := tadd (⟨by decide, by decide⟩ : rg 94 94 (94 : Int32)) i_a2 (by decide) (by decide); have r0 := lqe (lqm (by decide) : lq (94 : Int32).toInt 94); omega)
    refine va_iald hx hb hK.1 hP 1 0 rfl rfl (rg_in h_257 (by decide) (by decide)) dX12_holds_200 ?_
    refine lv_topi (fun x_259 ex_259 => ?_)
    refine lv_if_le (tgt := 208) hx hb dX12_holds_201 (by decide) (fun c_260 => ?_) (fun c_260 => ?_)
    · skip
      have o_261 : rl 0 x_259 0 := rl_le c_260
      have h_262 : rg (-2147483648) 0 x_259 := rl_x o_261 (rga x_259) (⟨by decide, by decide⟩ : rg 0 0 (0 : Int32)) (by decide) (by decide)
      refine lv_iconst (v := 0) hx hb dX12_holds_208 (by decide) ?_
      exact oE_i hx hb hr (by decide) hlocks hP hD hS (h0_lowest, h0_highest) [0, 1] rfl (by decide) (Or.inl rfl) (Nat.le_of_ble_eq_true rfl) (Nat.le_of_ble_eq_true rfl) dX12_holds_209
    · skip
      have o_263 : rl 1 0 x_259 := rl_nle c_260
      have h_264 : rg 1 2147483647 x_259 := rl_y o_263 (⟨by decide, by decide⟩ : rg 0 0 (0 : Int32)) (rga x_259) (by decide) (by decide)
      refine lv_iconst (v := 1) hx hb dX12_holds_204 (by decide) ?_
      refine lv_goto (tgt := 209) hx hb dX12_holds_205 (by decide) ?_
      exact oE_i hx hb hr (by decide) hlocks hP hD hS (h0_lowest, h0_highest) [0, 1] rfl (by decide) (Or.inr (rfl)) (Nat.le_of_ble_eq_true rfl) (Nat.le_of_ble_eq_true rfl) dX12_holds_209
  by_cases c_265 : x_199 = 71
  · skip
    refine oti 71 c_265 ?_
    refine lv_lookup (off := 176) (tgt := 210) hx hb dX12_holds_34 (by decide) (by decide) (by decide) ?_
    have h_266 : rg 0 39 x_194 := ht.2.2 c_265
    refine lv_aload_n hx hb dX12_holds_210 rfl (lv_at hl 3 rfl) ?_
    refine lv_iload_n hx hb dX12_holds_211 rfl (lv_at hl 5 rfl) ?_
    refine lv_iload hx hb dX12_holds_212 (lv_at hl 1 rfl) ?_
    refine oC_i (Wc := [(h0, .inr (11, [.int h0_thrown, .ref h0_tape, .int h0_taped, .int h0_size, .int h0_limit, .int h0_to, .int h0_from, .int h0_kind, .int h0_number, .int h0_sign, .int h0_fault, .int h0_place, .long h0_word, .int h0_told, .ref h0_now, .ref h0_read, .ref h0_kept, .ref h0_snaps, .ref h0_aside, .ref h0_name, .ref h0_readName, .ref h0_keptName, .ref h0_isKept, .ref h0_onces, .int h0_snapMany, .int h0_lowest, .int h0_highest, .int h0_agreed, .int h0_jurors, .int h0_panelled, .ref h0_inSets, .int h0_surely, .int h0_asked, .ref h0_frees, .int h0_struck, .int h0_beating, .ref h0_text, .int h0_texts, .int h0_seed, .ref h0_line, .ref h0_written, .int h0_lineMany, .int h0_hasWritten, .ref h0_node, .int h0_nodes, .int h0_onesMany, .int h0_within, .int h0_top])), (aI ca h0_now 376 F_h0_now)]) (Wr := []) (va_runV (As := [.int a2, .int x_194]) (rest := []) ⟨hx, hb, hml, hown, hts⟩ (s_X12_areOneRing l D ca H.size h0 a2 x_194 h0_thrown h0_tape h0_taped h0_size h0_limit h0_to h0_from h0_kind h0_number h0_sign h0_fault h0_place h0_word h0_told h0_now h0_read h0_kept h0_snaps h0_aside h0_name h0_readName h0_keptName h0_isKept h0_onces h0_snapMany h0_lowest h0_highest h0_agreed h0_jurors h0_panelled h0_inSets h0_surely h0_asked h0_frees h0_struck h0_beating h0_text h0_texts h0_seed h0_line h0_written h0_lineMany h0_hasWritten h0_node h0_nodes h0_onesMany h0_within h0_top F_h0_now i_a2 h_266 i_h0_taped i_h0_size i_h0_to i_h0_kind i_h0_snapMany i_h0_texts i_h0_lineMany i_h0_hasWritten i_h0_nodes i_h0_onesMany s_h0_now_0 s_h0_now_1 s_h0_now_2 s_h0_now_3 s_h0_now_4 s_h0_now_5 s_h0_now_6 s_h0_now_7) (cwV 2 hts gX12_holds_X12_areOneRing rfl rfl rfl (by decide +kernel) ⟨Nat.le_of_ble_eq_true rfl, Nat.le_of_ble_eq_true rfl⟩) (oPV (C := RX12) hK hP hD [0, 1] rfl (by decide) 0 rfl (ci := 11) rfl rfl) rfl rfl hl.1 rfl (lv_room (Nat.le_of_ble_eq_true rfl)) dX12_holds_214 ⟨Nat.le_of_ble_eq_true rfl, Nat.le_of_ble_eq_true rfl⟩) hP hD hS hA [0, 1] [] rfl rfl (by decide) (by decide) (fun r_267 u H locs w_268 hP hD hS => ?_)
    obtain ⟨u_269, u_270⟩ := u
    have hP : va_P D vwCl [(h0, .inr (11, [.int h0_thrown, .ref h0_tape, .int h0_taped, .int h0_size, .int h0_limit, .int h0_to, .int h0_from, .int h0_kind, .int h0_number, .int h0_sign, .int h0_fault, .int h0_place, .long h0_word, .int h0_told, .ref h0_now, .ref h0_read, .ref h0_kept, .ref h0_snaps, .ref h0_aside, .ref h0_name, .ref h0_readName, .ref h0_keptName, .ref h0_isKept, .ref h0_onces, .int h0_snapMany, .int u_269, .int u_270, .int h0_agreed, .int h0_jurors, .int h0_panelled, .ref h0_inSets, .int h0_surely, .int h0_asked, .ref h0_frees, .int h0_struck, .int h0_beating, .ref h0_text, .int h0_texts, .int h0_seed, .ref h0_line, .ref h0_written, .int h0_lineMany, .int h0_hasWritten, .ref h0_node, .int h0_nodes, .int h0_onesMany, .int h0_within, .int h0_top])), (aI ca h0_now 376 F_h0_now)] H := hP
    have hD : va_D A [(h0, .inr (11, [.int h0_thrown, .ref h0_tape, .int h0_taped, .int h0_size, .int h0_limit, .int h0_to, .int h0_from, .int h0_kind, .int h0_number, .int h0_sign, .int h0_fault, .int h0_place, .long h0_word, .int h0_told, .ref h0_now, .ref h0_read, .ref h0_kept, .ref h0_snaps, .ref h0_aside, .ref h0_name, .ref h0_readName, .ref h0_keptName, .ref h0_isKept, .ref h0_onces, .int h0_snapMany, .int u_269, .int u_270, .int h0_agreed, .int h0_jurors, .int h0_panelled, .ref h0_inSets, .int h0_surely, .int h0_asked, .ref h0_frees, .int h0_struck, .int h0_beating, .ref h0_text, .int h0_texts, .int h0_seed, .ref h0_line, .ref h0_written, .int h0_lineMany, .int h0_hasWritten, .ref h0_node, .int h0_nodes, .int h0_onesMany, .int h0_within, .int h0_top])), (aI ca h0_now 376 F_h0_now)] := hD
    try dsimp only at w_268
    rcases w_268 with ⟨h_271, h_272, h_273⟩ | ⟨h_274, h_275, h_276, h_277⟩
    · skip
      subst h_271
      exact oE_i hx hb hr (by decide) hlocks hP hD hS (u_269, u_270) [0, 1] rfl (by decide) (Or.inl rfl) (Nat.le_of_ble_eq_true rfl) (Nat.le_of_ble_eq_true rfl) dX12_holds_217
    · skip
      subst h_274
      exact oE_i hx hb hr (by decide) hlocks hP hD hS (u_269, u_270) [0, 1] rfl (by decide) (Or.inr (rfl)) (Nat.le_of_ble_eq_true rfl) (Nat.le_of_ble_eq_true rfl) dX12_holds_217
  have t0 := lv_neT c_200 (show (1 : Int32).toInt = 1 by decide)
  have t1 := lv_neT c_208 (show (2 : Int32).toInt = 2 by decide)
  have t2 := lv_neT c_223 (show (3 : Int32).toInt = 3 by decide)
  have t3 := lv_neT c_238 (show (68 : Int32).toInt = 68 by decide)
  have t4 := lv_neT c_247 (show (69 : Int32).toInt = 69 by decide)
  have t5 := lv_neT c_255 (show (70 : Int32).toInt = 70 by decide)
  have t6 := lv_neT c_265 (show (71 : Int32).toInt = 71 by decide)
  refine lv_lookup (off := 184) (tgt := 218) hx hb dX12_holds_34 (by decide) (by simp [Op.lookupswitch.offset, show ¬ (1 : Int) = x_199.toInt from fun h9 => t0 h9.symm, show ¬ (2 : Int) = x_199.toInt from fun h9 => t1 h9.symm, show ¬ (3 : Int) = x_199.toInt from fun h9 => t2 h9.symm, show ¬ (68 : Int) = x_199.toInt from fun h9 => t3 h9.symm, show ¬ (69 : Int) = x_199.toInt from fun h9 => t4 h9.symm, show ¬ (70 : Int) = x_199.toInt from fun h9 => t5 h9.symm, show ¬ (71 : Int) = x_199.toInt from fun h9 => t6 h9.symm]) (by decide) ?_
  refine lv_aload_n hx hb dX12_holds_218 rfl (lv_at hl 3 rfl) ?_
  refine va_get (D := D) (ci := 11) (v := .ref h0_now) (C := RX12) (T := TX12) (N := 48) hx hb hts k2 hown hK.1 hP 0 rfl rfl 14 (by decide) k1 (fun _ h9 => h9) rfl dX12_holds_219 ?_
  refine lv_iload_n hx hb dX12_holds_222 rfl (lv_at hl 2 rfl) ?_
  refine va_iald hx hb hK.1 hP 1 0 rfl rfl (rg_in h_189 (by decide) (by decide)) dX12_holds_223 ?_
  refine oti x_199 ex_199.symm ?_
  refine lv_bipush (v := 50) hx hb dX12_holds_224 (by decide) ?_
  refine lv_isub hx hb dX12_holds_226 ?_
  refine lv_topi (fun x_278 ex_278 => ?_)
  refine lv_istore (lv' := [(6, .int x_278), (5, .int x_198), (4, .int x_194), (3, .int x_188), (0, .ref h0), (1, .int a1), (2, .int a2)]) hx hb dX12_holds_227 hl (by decide) rfl (fun ls hl => ?_)
  refine lv_iload hx hb dX12_holds_229 (lv_at hl 0 rfl) ?_
  refine lv_bipush (v := 22) hx hb dX12_holds_231 (by decide) ?_
  refine lv_icmp_ne (tgt := 247) hx hb dX12_holds_233 (by decide) (fun c_279 => ?_) (fun c_279 => ?_)
  · skip
    refine lv_iload hx hb dX12_holds_247 (lv_at hl 0 rfl) ?_
    refine lv_bipush (v := 23) hx hb dX12_holds_249 (by decide) ?_
    refine lv_icmp_ne (tgt := 266) hx hb dX12_holds_251 (by decide) (fun c_280 => ?_) (fun c_280 => ?_)
    · skip
      refine lv_iload hx hb dX12_holds_266 (lv_at hl 0 rfl) ?_
      refine lv_bipush (v := 24) hx hb dX12_holds_268 (by decide) ?_
      refine lv_icmp_ne (tgt := 285) hx hb dX12_holds_270 (by decide) (fun c_281 => ?_) (fun c_281 => ?_)
      · skip
        refine lv_iload_n hx hb dX12_holds_285 rfl (lv_at hl 6 rfl) ?_
        exact J286_153 x_188 x_198 a2 h_189 H locs ls (oPsub hP [0, 1] rfl) (hD.sub [0, 1] (by decide) rfl) hS (lv_sub hl [4, 3, 1] rfl)
      · skip
        have o_282 : rl 0 x_278 24 := rl_eq c_281
        have h_283 : rg (-2147483648) 24 x_278 := rl_x o_282 (rga x_278) (⟨by decide, by decide⟩ : rg 24 24 (24 : Int32)) (by decide) (by decide)
        have o_284 : rl 0 24 x_278 := rl_eq c_281.symm
        have h_285 : rg 24 24 x_278 := rl_y o_284 (⟨by decide, by decide⟩ : rg 24 24 (24 : Int32)) h_283 (by decide) (by decide)
        refine lv_aload_n hx hb dX12_holds_273 rfl (lv_at hl 4 rfl) ?_
        refine va_get (D := D) (ci := 11) (v := .ref h0_now) (C := RX12) (T := TX12) (N := 48) hx hb hts k2 hown hK.1 hP 0 rfl rfl 14 (by decide) k1 (fun _ h9 => h9) rfl dX12_holds_274 ?_
        refine lv_bipush (v := 94) hx hb dX12_holds_277 (by decide) ?_
        refine lv_iload_n hx hb dX12_holds_279 rfl (lv_at hl 6 rfl) ?_
        refine lv_iadd hx hb dX12_holds_280 ?_
        refine lv_topi (fun x_286 ex_286 => ?_)
        have h_287 : rg 94 103 x_286 := by rw [ex_286]; exact rg_add (⟨by decide, by decide⟩ : rg 94 94 (94 : Int32)) i_a2 (by decide) (by decide) (by decide) (by decide)
        have l_288 : lq x_286.toInt (a2.toInt + 94) := lqm (by rw [ex_286]; have q := tadd (⟨by decide, by decide⟩ : rg 94 94 (94 : Int32)) i_a2 (by decide) (by decide); have r0 := lqe (lqm (by decide) : lq (94 : Int32).toInt 94); omega)
        refine va_iald hx hb hK.1 hP 1 0 rfl rfl (rg_in h_287 (by decide) (by decide)) dX12_holds_281 ?_
        refine lv_topi (fun x_289 ex_289 => ?_)
        refine lv_goto (tgt := 286) hx hb dX12_holds_282 (by decide) ?_
        exact J286_153 x_188 x_198 x_289 h_189 H locs ls (oPsub hP [0, 1] rfl) (hD.sub [0, 1] (by decide) rfl) hS (lv_sub hl [4, 3, 1] rfl)
    · skip
      have o_290 : rl 0 x_278 23 := rl_eq c_280
      have h_291 : rg (-2147483648) 23 x_278 := rl_x o_290 (rga x_278) (⟨by decide, by decide⟩ : rg 23 23 (23 : Int32)) (by decide) (by decide)
      have o_292 : rl 0 23 x_278 := rl_eq c_280.symm
      have h_293 : rg 23 23 x_278 := rl_y o_292 (⟨by decide, by decide⟩ : rg 23 23 (23 : Int32)) h_291 (by decide) (by decide)
      refine lv_aload_n hx hb dX12_holds_254 rfl (lv_at hl 4 rfl) ?_
      refine va_get (D := D) (ci := 11) (v := .ref h0_now) (C := RX12) (T := TX12) (N := 48) hx hb hts k2 hown hK.1 hP 0 rfl rfl 14 (by decide) k1 (fun _ h9 => h9) rfl dX12_holds_255 ?_
      refine lv_bipush (v := 15) hx hb dX12_holds_258 (by decide) ?_
      refine lv_iload_n hx hb dX12_holds_260 rfl (lv_at hl 6 rfl) ?_
      refine lv_iadd hx hb dX12_holds_261 ?_
      refine lv_topi (fun x_294 ex_294 => ?_)
      have h_295 : rg 15 24 x_294 := by rw [ex_294]; exact rg_add (⟨by decide, by decide⟩ : rg 15 15 (15 : Int32)) i_a2 (by decide) (by decide) (by decide) (by decide)
      have l_296 : lq x_294.toInt (a2.toInt + 15) := lqm (by rw [ex_294]; have q := tadd (⟨by decide, by decide⟩ : rg 15 15 (15 : Int32)) i_a2 (by decide) (by decide); have r0 := lqe (lqm (by decide) : lq (15 : Int32).toInt 15); omega)
      refine va_iald hx hb hK.1 hP 1 0 rfl rfl (rg_in h_295 (by decide) (by decide)) dX12_holds_262 ?_
      refine lv_topi (fun x_297 ex_297 => ?_)
      refine lv_goto (tgt := 286) hx hb dX12_holds_263 (by decide) ?_
      exact J286_153 x_188 x_198 x_297 h_189 H locs ls (oPsub hP [0, 1] rfl) (hD.sub [0, 1] (by decide) rfl) hS (lv_sub hl [4, 3, 1] rfl)
  · skip
    have o_298 : rl 0 x_278 22 := rl_eq c_279
    have h_299 : rg (-2147483648) 22 x_278 := rl_x o_298 (rga x_278) (⟨by decide, by decide⟩ : rg 22 22 (22 : Int32)) (by decide) (by decide)
    have o_300 : rl 0 22 x_278 := rl_eq c_279.symm
    have h_301 : rg 22 22 x_278 := rl_y o_300 (⟨by decide, by decide⟩ : rg 22 22 (22 : Int32)) h_299 (by decide) (by decide)
    refine lv_aload_n hx hb dX12_holds_236 rfl (lv_at hl 4 rfl) ?_
    refine va_get (D := D) (ci := 11) (v := .ref h0_now) (C := RX12) (T := TX12) (N := 48) hx hb hts k2 hown hK.1 hP 0 rfl rfl 14 (by decide) k1 (fun _ h9 => h9) rfl dX12_holds_237 ?_
    refine lv_iconst (v := 5) hx hb dX12_holds_240 (by decide) ?_
    refine lv_iload_n hx hb dX12_holds_241 rfl (lv_at hl 6 rfl) ?_
    refine lv_iadd hx hb dX12_holds_242 ?_
    refine lv_topi (fun x_302 ex_302 => ?_)
    have h_303 : rg 5 14 x_302 := by rw [ex_302]; exact rg_add (⟨by decide, by decide⟩ : rg 5 5 (5 : Int32)) i_a2 (by decide) (by decide) (by decide) (by decide)
    have l_304 : lq x_302.toInt (a2.toInt + 5) := lqm (by rw [ex_302]; have q := tadd (⟨by decide, by decide⟩ : rg 5 5 (5 : Int32)) i_a2 (by decide) (by decide); have r0 := lqe (lqm (by decide) : lq (5 : Int32).toInt 5); omega)
    refine va_iald hx hb hK.1 hP 1 0 rfl rfl (rg_in h_303 (by decide) (by decide)) dX12_holds_243 ?_
    refine lv_topi (fun x_305 ex_305 => ?_)
    refine lv_goto (tgt := 286) hx hb dX12_holds_244 (by decide) ?_
    exact J286_153 x_188 x_198 x_305 h_189 H locs ls (oPsub hP [0, 1] rfl) (hD.sub [0, 1] (by decide) rfl) hS (lv_sub hl [4, 3, 1] rfl)
set_option maxHeartbeats 4000000 in
set_option maxRecDepth 100000 in
theorem s_X12_holds_34 (l : Launch) (D : va_G) (ca : Nat → ClassId) (sz : Nat) (h0 : Nat) (a1 : Int32) (a2 : Int32) (h0_thrown : Int32) (h0_tape : Nat) (h0_taped : Int32) (h0_size : Int32) (h0_limit : Int32) (h0_to : Int32) (h0_from : Int32) (h0_kind : Int32) (h0_number : Int32) (h0_sign : Int32) (h0_fault : Int32) (h0_place : Int32) (h0_word : Int64) (h0_told : Int32) (h0_now : Nat) (h0_read : Nat) (h0_kept : Nat) (h0_snaps : Nat) (h0_aside : Nat) (h0_name : Nat) (h0_readName : Nat) (h0_keptName : Nat) (h0_isKept : Nat) (h0_onces : Nat) (h0_snapMany : Int32) (h0_lowest : Int32) (h0_highest : Int32) (h0_agreed : Int32) (h0_jurors : Int32) (h0_panelled : Int32) (h0_inSets : Nat) (h0_surely : Int32) (h0_asked : Int32) (h0_frees : Nat) (h0_struck : Int32) (h0_beating : Int32) (h0_text : Nat) (h0_texts : Int32) (h0_seed : Int32) (h0_line : Nat) (h0_written : Nat) (h0_lineMany : Int32) (h0_hasWritten : Int32) (h0_node : Nat) (h0_nodes : Int32) (h0_onesMany : Int32) (h0_within : Int32) (h0_top : Int32) (F_h0_now : Nat → Int32) (i_a1 : rg 0 33 a1) (i_a2 : rg 0 9 a2) (i_h0_taped : rg 0 940 h0_taped) (i_h0_size : rg 0 940 h0_size) (i_h0_to : rg 0 940 h0_to) (i_h0_kind : rg 0 4 h0_kind) (i_h0_snapMany : rg 0 8 h0_snapMany) (i_h0_texts : rg 0 64 h0_texts) (i_h0_lineMany : rg 0 40 h0_lineMany) (i_h0_hasWritten : rg 0 1 h0_hasWritten) (i_h0_nodes : rg 0 60 h0_nodes) (i_h0_onesMany : rg 0 20 h0_onesMany) (s_h0_now_0 : sg 0 1 0 10 F_h0_now) (s_h0_now_1 : sg 1 2 0 4 F_h0_now) (s_h0_now_2 : sg 2 3 0 5 F_h0_now) (s_h0_now_3 : sg 35 36 0 1023 F_h0_now) (s_h0_now_4 : sg 44 49 0 3 F_h0_now) (s_h0_now_5 : sg 90 91 0 1023 F_h0_now) (s_h0_now_6 : sg 124 129 0 1023 F_h0_now) (s_h0_now_7 : sg 135 136 0 39 F_h0_now) (cu_tokw : tokb 136 F_h0_now) : oMet l yX12_holds wsX12_holds ({ frames := 38, cells := 0, slots := 0, locals := 1008 } : Room) [.ref h0, .int a1, .int a2] D ca sz [(h0, .inr (11, [.int h0_thrown, .ref h0_tape, .int h0_taped, .int h0_size, .int h0_limit, .int h0_to, .int h0_from, .int h0_kind, .int h0_number, .int h0_sign, .int h0_fault, .int h0_place, .long h0_word, .int h0_told, .ref h0_now, .ref h0_read, .ref h0_kept, .ref h0_snaps, .ref h0_aside, .ref h0_name, .ref h0_readName, .ref h0_keptName, .ref h0_isKept, .ref h0_onces, .int h0_snapMany, .int h0_lowest, .int h0_highest, .int h0_agreed, .int h0_jurors, .int h0_panelled, .ref h0_inSets, .int h0_surely, .int h0_asked, .ref h0_frees, .int h0_struck, .int h0_beating, .ref h0_text, .int h0_texts, .int h0_seed, .ref h0_line, .ref h0_written, .int h0_lineMany, .int h0_hasWritten, .ref h0_node, .int h0_nodes, .int h0_onesMany, .int h0_within, .int h0_top])), (aI ca h0_now 376 F_h0_now)] (oQi D (fun (r : Int32) (u : Int32 × Int32) => ((r = 1)) ∨ ((r = 0))) (fun (u : Int32 × Int32) => [(h0, .inr (11, [.int h0_thrown, .ref h0_tape, .int h0_taped, .int h0_size, .int h0_limit, .int h0_to, .int h0_from, .int h0_kind, .int h0_number, .int h0_sign, .int h0_fault, .int h0_place, .long h0_word, .int h0_told, .ref h0_now, .ref h0_read, .ref h0_kept, .ref h0_snaps, .ref h0_aside, .ref h0_name, .ref h0_readName, .ref h0_keptName, .ref h0_isKept, .ref h0_onces, .int h0_snapMany, .int u.1, .int u.2, .int h0_agreed, .int h0_jurors, .int h0_panelled, .ref h0_inSets, .int h0_surely, .int h0_asked, .ref h0_frees, .int h0_struck, .int h0_beating, .ref h0_text, .int h0_texts, .int h0_seed, .ref h0_line, .ref h0_written, .int h0_lineMany, .int h0_hasWritten, .ref h0_node, .int h0_nodes, .int h0_onesMany, .int h0_within, .int h0_top])), (aI ca h0_now 376 F_h0_now)])) 0 0 := by
  refine oM (cc := cX12_holds) (maxL := 8) (ret := (some .boolean)) (by decide) rfl (Nat.le_of_ble_eq_true rfl) [(0, .ref h0), (1, .int a1), (2, .int a2)] rfl ?_
  intro p e s m below meth c A H locs ls hx hb hr hml hts hown hlocks hin hK hP hD hA hS hl
  have hown : s.vm.findClass RX12 = some m.cls := hown
  have k1 := hts (.fieldLink RX12 98 "LidCourtModel" "now" "[I") (by decide +kernel)
  have k2 : ∀ w ∈ wsX120, w ∈ wsX12_holds := fun _ h => List.mem_cons_of_mem _ (List.mem_append_right _ h)
  have J286_153 : ∀ (y286_0 : Int32) (y286_1 : Int32) (y286_2 : Int32), rg 136 268 y286_0 → ∀ (H : Heap) (locs : List Loc) (ls : Array Slot), va_P D vwCl [(h0, .inr (11, [.int h0_thrown, .ref h0_tape, .int h0_taped, .int h0_size, .int h0_limit, .int h0_to, .int h0_from, .int h0_kind, .int h0_number, .int h0_sign, .int h0_fault, .int h0_place, .long h0_word, .int h0_told, .ref h0_now, .ref h0_read, .ref h0_kept, .ref h0_snaps, .ref h0_aside, .ref h0_name, .ref h0_readName, .ref h0_keptName, .ref h0_isKept, .ref h0_onces, .int h0_snapMany, .int h0_lowest, .int h0_highest, .int h0_agreed, .int h0_jurors, .int h0_panelled, .ref h0_inSets, .int h0_surely, .int h0_asked, .ref h0_frees, .int h0_struck, .int h0_beating, .ref h0_text, .int h0_texts, .int h0_seed, .ref h0_line, .ref h0_written, .int h0_lineMany, .int h0_hasWritten, .ref h0_node, .int h0_nodes, .int h0_onesMany, .int h0_within, .int h0_top])), (aI ca h0_now 376 F_h0_now)] H → va_D A [(h0, .inr (11, [.int h0_thrown, .ref h0_tape, .int h0_taped, .int h0_size, .int h0_limit, .int h0_to, .int h0_from, .int h0_kind, .int h0_number, .int h0_sign, .int h0_fault, .int h0_place, .long h0_word, .int h0_told, .ref h0_now, .ref h0_read, .ref h0_kept, .ref h0_snaps, .ref h0_aside, .ref h0_name, .ref h0_readName, .ref h0_keptName, .ref h0_isKept, .ref h0_onces, .int h0_snapMany, .int h0_lowest, .int h0_highest, .int h0_agreed, .int h0_jurors, .int h0_panelled, .ref h0_inSets, .int h0_surely, .int h0_asked, .ref h0_frees, .int h0_struck, .int h0_beating, .ref h0_text, .int h0_texts, .int h0_seed, .ref h0_line, .ref h0_written, .int h0_lineMany, .int h0_hasWritten, .ref h0_node, .int h0_nodes, .int h0_onesMany, .int h0_within, .int h0_top])), (aI ca h0_now 376 F_h0_now)] → va_S A s.heap H locs → lv_has ls 8 [(0, .ref h0), (3, .int y286_0), (5, .int y286_1)] → W p l e ({ frames := 38, cells := 0, slots := 0, locals := 1008 } : Room) s m ([.ref h0, .int a1, .int a2] : List Value).toArray below meth c H locs 0 0 (MQ below ((oQi D (fun (r : Int32) (u : Int32 × Int32) => ((r = 1)) ∨ ((r = 0))) (fun (u : Int32 × Int32) => [(h0, .inr (11, [.int h0_thrown, .ref h0_tape, .int h0_taped, .int h0_size, .int h0_limit, .int h0_to, .int h0_from, .int h0_kind, .int h0_number, .int h0_sign, .int h0_fault, .int h0_place, .long h0_word, .int h0_told, .ref h0_now, .ref h0_read, .ref h0_kept, .ref h0_snaps, .ref h0_aside, .ref h0_name, .ref h0_readName, .ref h0_keptName, .ref h0_isKept, .ref h0_onces, .int h0_snapMany, .int u.1, .int u.2, .int h0_agreed, .int h0_jurors, .int h0_panelled, .ref h0_inSets, .int h0_surely, .int h0_asked, .ref h0_frees, .int h0_struck, .int h0_beating, .ref h0_text, .int h0_texts, .int h0_seed, .ref h0_line, .ref h0_written, .int h0_lineMany, .int h0_hasWritten, .ref h0_node, .int h0_nodes, .int h0_onesMany, .int h0_within, .int h0_top])), (aI ca h0_now 376 F_h0_now)])) A) ([.ref h0, .int a1, .int a2] : List Value).toArray s 0 0 A) (F0 m 286 ls [.int y286_2]) := by
    intro y286_0 y286_1 y286_2 hy286_0 H locs ls hP hD hS hl
    refine lv_istore (lv' := [(7, .int y286_2), (0, .ref h0), (3, .int y286_0), (5, .int y286_1)]) hx hb dX12_holds_286 hl (by decide) rfl (fun ls hl => ?_)
    refine lv_aload_n hx hb dX12_holds_288 rfl (lv_at hl 1 rfl) ?_
    refine va_get (D := D) (ci := 11) (v := .ref h0_now) (C := RX12) (T := TX12) (N := 48) hx hb hts k2 hown hK.1 hP 0 rfl rfl 14 (by decide) k1 (fun _ h9 => h9) rfl dX12_holds_289 ?_
    refine lv_iload_n hx hb dX12_holds_292 rfl (lv_at hl 2 rfl) ?_
    refine lv_iconst (v := 3) hx hb dX12_holds_293 (by decide) ?_
    refine lv_iadd hx hb dX12_holds_294 ?_
    refine lv_topi (fun x_154 ex_154 => ?_)
    have h_155 : rg 139 271 x_154 := by rw [ex_154]; exact rg_add hy286_0 (⟨by decide, by decide⟩ : rg 3 3 (3 : Int32)) (by decide) (by decide) (by decide) (by decide)
    have l_156 : lq x_154.toInt (y286_0.toInt + 3) := lqm (by rw [ex_154]; have q := tadd hy286_0 (⟨by decide, by decide⟩ : rg 3 3 (3 : Int32)) (by decide) (by decide); have r1 := lqe (lqm (by decide) : lq (3 : Int32).toInt 3); omega)
    refine va_iald hx hb hK.1 hP 1 0 rfl rfl (rg_in h_155 (by decide) (by decide)) dX12_holds_295 ?_
    refine lv_topi (fun x_157 ex_157 => ?_)
    refine lv_bipush (v := 60) hx hb dX12_holds_296 (by decide) ?_
    refine lv_icmp_ne (tgt := 316) hx hb dX12_holds_298 (by decide) (fun c_158 => ?_) (fun c_158 => ?_)
    · skip
      refine lv_aload_n hx hb dX12_holds_316 rfl (lv_at hl 1 rfl) ?_
      refine va_get (D := D) (ci := 11) (v := .ref h0_now) (C := RX12) (T := TX12) (N := 48) hx hb hts k2 hown hK.1 hP 0 rfl rfl 14 (by decide) k1 (fun _ h9 => h9) rfl dX12_holds_317 ?_
      refine lv_iload_n hx hb dX12_holds_320 rfl (lv_at hl 2 rfl) ?_
      refine lv_iconst (v := 3) hx hb dX12_holds_321 (by decide) ?_
      refine lv_iadd hx hb dX12_holds_322 ?_
      refine lv_topi (fun x_159 ex_159 => ?_)
      have h_160 : rg 139 271 x_159 := by rw [ex_159]; exact rg_add hy286_0 (⟨by decide, by decide⟩ : rg 3 3 (3 : Int32)) (by decide) (by decide) (by decide) (by decide)
      have l_161 : lq x_159.toInt (y286_0.toInt + 3) := lqm (by rw [ex_159]; have q := tadd hy286_0 (⟨by decide, by decide⟩ : rg 3 3 (3 : Int32)) (by decide) (by decide); have r1 := lqe (lqm (by decide) : lq (3 : Int32).toInt 3); omega)
      refine va_iald hx hb hK.1 hP 1 0 rfl rfl (rg_in h_160 (by decide) (by decide)) dX12_holds_323 ?_
      refine lv_topi (fun x_162 ex_162 => ?_)
      refine lv_bipush (v := 61) hx hb dX12_holds_324 (by decide) ?_
      refine lv_icmp_ne (tgt := 344) hx hb dX12_holds_326 (by decide) (fun c_163 => ?_) (fun c_163 => ?_)
      · skip
        refine lv_iload hx hb dX12_holds_344 (lv_at hl 0 rfl) ?_
        refine lv_iload hx hb dX12_holds_346 (lv_at hl 3 rfl) ?_
        refine lv_icmp_le (tgt := 355) hx hb dX12_holds_348 (by decide) (fun c_164 => ?_) (fun c_164 => ?_)
        · skip
          have o_165 : rl 0 y286_2 y286_1 := rl_le c_164
          refine lv_iconst (v := 0) hx hb dX12_holds_355 (by decide) ?_
          exact oE_i hx hb hr (by decide) hlocks hP hD hS (h0_lowest, h0_highest) [0, 1] rfl (by decide) (Or.inr (rfl)) (Nat.le_of_ble_eq_true rfl) (Nat.le_of_ble_eq_true rfl) dX12_holds_356
        · skip
          have o_166 : rl 1 y286_1 y286_2 := rl_nle c_164
          have h_167 : rg (-2147483648) 2147483646 y286_1 := rl_x o_166 (rga y286_1) (rga y286_2) (by decide) (by decide)
          have h_168 : rg (-2147483647) 2147483647 y286_2 := rl_y o_166 (rga y286_1) (rga y286_2) (by decide) (by decide)
          refine lv_iconst (v := 1) hx hb dX12_holds_351 (by decide) ?_
          refine lv_goto (tgt := 356) hx hb dX12_holds_352 (by decide) ?_
          exact oE_i hx hb hr (by decide) hlocks hP hD hS (h0_lowest, h0_highest) [0, 1] rfl (by decide) (Or.inl rfl) (Nat.le_of_ble_eq_true rfl) (Nat.le_of_ble_eq_true rfl) dX12_holds_356
      · skip
        have o_169 : rl 0 x_162 61 := rl_eq c_163
        have h_170 : rg (-2147483648) 61 x_162 := rl_x o_169 (rga x_162) (⟨by decide, by decide⟩ : rg 61 61 (61 : Int32)) (by decide) (by decide)
        have o_171 : rl 0 61 x_162 := rl_eq c_163.symm
        have h_172 : rg 61 61 x_162 := rl_y o_171 (⟨by decide, by decide⟩ : rg 61 61 (61 : Int32)) h_170 (by decide) (by decide)
        refine lv_iload hx hb dX12_holds_329 (lv_at hl 0 rfl) ?_
        refine lv_iload hx hb dX12_holds_331 (lv_at hl 3 rfl) ?_
        refine lv_icmp_ne (tgt := 340) hx hb dX12_holds_333 (by decide) (fun c_173 => ?_) (fun c_173 => ?_)
        · skip
          refine lv_iconst (v := 0) hx hb dX12_holds_340 (by decide) ?_
          refine lv_goto (tgt := 356) hx hb dX12_holds_341 (by decide) ?_
          exact oE_i hx hb hr (by decide) hlocks hP hD hS (h0_lowest, h0_highest) [0, 1] rfl (by decide) (Or.inr (rfl)) (Nat.le_of_ble_eq_true rfl) (Nat.le_of_ble_eq_true rfl) dX12_holds_356
        · skip
          have o_174 : rl 0 y286_2 y286_1 := rl_eq c_173
          have o_175 : rl 0 y286_1 y286_2 := rl_eq c_173.symm
          refine lv_iconst (v := 1) hx hb dX12_holds_336 (by decide) ?_
          refine lv_goto (tgt := 356) hx hb dX12_holds_337 (by decide) ?_
          exact oE_i hx hb hr (by decide) hlocks hP hD hS (h0_lowest, h0_highest) [0, 1] rfl (by decide) (Or.inl rfl) (Nat.le_of_ble_eq_true rfl) (Nat.le_of_ble_eq_true rfl) dX12_holds_356
    · skip
      have o_176 : rl 0 x_157 60 := rl_eq c_158
      have h_177 : rg (-2147483648) 60 x_157 := rl_x o_176 (rga x_157) (⟨by decide, by decide⟩ : rg 60 60 (60 : Int32)) (by decide) (by decide)
      have o_178 : rl 0 60 x_157 := rl_eq c_158.symm
      have h_179 : rg 60 60 x_157 := rl_y o_178 (⟨by decide, by decide⟩ : rg 60 60 (60 : Int32)) h_177 (by decide) (by decide)
      refine lv_iload hx hb dX12_holds_301 (lv_at hl 0 rfl) ?_
      refine lv_iload hx hb dX12_holds_303 (lv_at hl 3 rfl) ?_
      refine lv_icmp_ge (tgt := 312) hx hb dX12_holds_305 (by decide) (fun c_180 => ?_) (fun c_180 => ?_)
      · skip
        have o_181 : rl 0 y286_1 y286_2 := rl_le c_180
        refine lv_iconst (v := 0) hx hb dX12_holds_312 (by decide) ?_
        refine lv_goto (tgt := 356) hx hb dX12_holds_313 (by decide) ?_
        exact oE_i hx hb hr (by decide) hlocks hP hD hS (h0_lowest, h0_highest) [0, 1] rfl (by decide) (Or.inr (rfl)) (Nat.le_of_ble_eq_true rfl) (Nat.le_of_ble_eq_true rfl) dX12_holds_356
      · skip
        have o_182 : rl 1 y286_2 y286_1 := rl_nle c_180
        have h_183 : rg (-2147483648) 2147483646 y286_2 := rl_x o_182 (rga y286_2) (rga y286_1) (by decide) (by decide)
        have h_184 : rg (-2147483647) 2147483647 y286_1 := rl_y o_182 (rga y286_2) (rga y286_1) (by decide) (by decide)
        refine lv_iconst (v := 1) hx hb dX12_holds_308 (by decide) ?_
        refine lv_goto (tgt := 356) hx hb dX12_holds_309 (by decide) ?_
        exact oE_i hx hb hr (by decide) hlocks hP hD hS (h0_lowest, h0_highest) [0, 1] rfl (by decide) (Or.inl rfl) (Nat.le_of_ble_eq_true rfl) (Nat.le_of_ble_eq_true rfl) dX12_holds_356
  refine lv_sipush (v := 136) hx hb dX12_holds_0 (by decide) ?_
  refine lv_iconst (v := 4) hx hb dX12_holds_3 (by decide) ?_
  refine lv_iload_n hx hb dX12_holds_4 rfl (lv_at hl 1 rfl) ?_
  refine lv_imul hx hb dX12_holds_5 ?_
  refine lv_topi (fun x_185 ex_185 => ?_)
  have h_186 : rg 0 132 x_185 := by rw [ex_185]; exact rg_mul' (k := 4) i_a1 (by decide) (by decide) (by decide) (by decide) (by decide) (by decide)
  have l_187 : lq x_185.toInt (4 * a1.toInt) := lqm (by rw [ex_185]; have q := tmul' (k := 4) (y := 4) i_a1 (by decide) (by decide) (by decide) (by decide); omega)
  refine lv_iadd hx hb dX12_holds_6 ?_
  refine lv_topi (fun x_188 ex_188 => ?_)
  have h_189 : rg 136 268 x_188 := by rw [ex_188]; exact rg_add (⟨by decide, by decide⟩ : rg 136 136 (136 : Int32)) h_186 (by decide) (by decide) (by decide) (by decide)
  have l_190 : lq x_188.toInt (4 * a1.toInt + 136) := lqm (by rw [ex_188]; have q := tadd (⟨by decide, by decide⟩ : rg 136 136 (136 : Int32)) h_186 (by decide) (by decide); have r0 := lqe (lqm (by decide) : lq (136 : Int32).toInt 136); have r1 := lqe l_187; omega)
  refine lv_istore_n (lv' := [(3, .int x_188), (0, .ref h0), (1, .int a1), (2, .int a2)]) hx hb dX12_holds_7 rfl hl (by decide) rfl (fun ls hl => ?_)
  refine lv_aload_n hx hb dX12_holds_8 rfl (lv_at hl 1 rfl) ?_
  refine va_get (D := D) (ci := 11) (v := .ref h0_now) (C := RX12) (T := TX12) (N := 48) hx hb hts k2 hown hK.1 hP 0 rfl rfl 14 (by decide) k1 (fun _ h9 => h9) rfl dX12_holds_9 ?_
  refine lv_iload_n hx hb dX12_holds_12 rfl (lv_at hl 0 rfl) ?_
  refine lv_iconst (v := 1) hx hb dX12_holds_13 (by decide) ?_
  refine lv_iadd hx hb dX12_holds_14 ?_
  refine lv_topi (fun x_191 ex_191 => ?_)
  have h_192 : rg 137 269 x_191 := by rw [ex_191]; exact rg_add h_189 (⟨by decide, by decide⟩ : rg 1 1 (1 : Int32)) (by decide) (by decide) (by decide) (by decide)
  have l_193 : lq x_191.toInt (4 * a1.toInt + 137) := lqm (by rw [ex_191]; have q := tadd h_189 (⟨by decide, by decide⟩ : rg 1 1 (1 : Int32)) (by decide) (by decide); have r0 := lqe l_190; have r1 := lqe (lqm (by decide) : lq (1 : Int32).toInt 1); omega)
  refine va_iald hx hb hK.1 hP 1 0 rfl rfl (rg_in h_192 (by decide) (by decide)) dX12_holds_15 ?_
  refine lv_topi (fun x_194 ex_194 => ?_)
  refine lv_istore (lv' := [(4, .int x_194), (3, .int x_188), (0, .ref h0), (1, .int a1), (2, .int a2)]) hx hb dX12_holds_16 hl (by decide) rfl (fun ls hl => ?_)
  refine lv_aload_n hx hb dX12_holds_18 rfl (lv_at hl 2 rfl) ?_
  refine va_get (D := D) (ci := 11) (v := .ref h0_now) (C := RX12) (T := TX12) (N := 48) hx hb hts k2 hown hK.1 hP 0 rfl rfl 14 (by decide) k1 (fun _ h9 => h9) rfl dX12_holds_19 ?_
  refine lv_iload_n hx hb dX12_holds_22 rfl (lv_at hl 1 rfl) ?_
  refine lv_iconst (v := 2) hx hb dX12_holds_23 (by decide) ?_
  refine lv_iadd hx hb dX12_holds_24 ?_
  refine lv_topi (fun x_195 ex_195 => ?_)
  have h_196 : rg 138 270 x_195 := by rw [ex_195]; exact rg_add h_189 (⟨by decide, by decide⟩ : rg 2 2 (2 : Int32)) (by decide) (by decide) (by decide) (by decide)
  have l_197 : lq x_195.toInt (4 * a1.toInt + 138) := lqm (by rw [ex_195]; have q := tadd h_189 (⟨by decide, by decide⟩ : rg 2 2 (2 : Int32)) (by decide) (by decide); have r0 := lqe l_190; have r1 := lqe (lqm (by decide) : lq (2 : Int32).toInt 2); omega)
  refine va_iald hx hb hK.1 hP 1 0 rfl rfl (rg_in h_196 (by decide) (by decide)) dX12_holds_25 ?_
  refine lv_topi (fun x_198 ex_198 => ?_)
  refine lv_istore (lv' := [(5, .int x_198), (4, .int x_194), (3, .int x_188), (0, .ref h0), (1, .int a1), (2, .int a2)]) hx hb dX12_holds_26 hl (by decide) rfl (fun ls hl => ?_)
  refine lv_aload_n hx hb dX12_holds_28 rfl (lv_at hl 3 rfl) ?_
  refine va_get (D := D) (ci := 11) (v := .ref h0_now) (C := RX12) (T := TX12) (N := 48) hx hb hts k2 hown hK.1 hP 0 rfl rfl 14 (by decide) k1 (fun _ h9 => h9) rfl dX12_holds_29 ?_
  refine lv_iload_n hx hb dX12_holds_32 rfl (lv_at hl 2 rfl) ?_
  refine va_iald hx hb hK.1 hP 1 0 rfl rfl (rg_in h_189 (by decide) (by decide)) dX12_holds_33 ?_
  refine lv_topi (fun x_199 ex_199 => ?_)
  have ht := tokb_at cu_tokw i_a1 (by decide) (by decide) ex_199 ex_194 ex_198 l_190 l_193 l_197
  by_cases c_200 : x_199 = 1
  · skip
    refine oti 1 c_200 ?_
    refine lv_lookup (off := 66) (tgt := 100) hx hb dX12_holds_34 (by decide) (by decide) (by decide) ?_
    have h_201 : rg 0 32 x_194 := by have q := rg_cl i_a1 (by decide); have q1 := i_a1.2; have q2 := ht.1 c_200; exact ⟨by omega, by omega⟩
    refine lv_aload_n hx hb dX12_holds_100 rfl (lv_at hl 3 rfl) ?_
    refine lv_iload hx hb dX12_holds_101 (lv_at hl 1 rfl) ?_
    refine lv_iload_n hx hb dX12_holds_103 rfl (lv_at hl 5 rfl) ?_
    refine oC_i (Wc := [(h0, .inr (11, [.int h0_thrown, .ref h0_tape, .int h0_taped, .int h0_size, .int h0_limit, .int h0_to, .int h0_from, .int h0_kind, .int h0_number, .int h0_sign, .int h0_fault, .int h0_place, .long h0_word, .int h0_told, .ref h0_now, .ref h0_read, .ref h0_kept, .ref h0_snaps, .ref h0_aside, .ref h0_name, .ref h0_readName, .ref h0_keptName, .ref h0_isKept, .ref h0_onces, .int h0_snapMany, .int h0_lowest, .int h0_highest, .int h0_agreed, .int h0_jurors, .int h0_panelled, .ref h0_inSets, .int h0_surely, .int h0_asked, .ref h0_frees, .int h0_struck, .int h0_beating, .ref h0_text, .int h0_texts, .int h0_seed, .ref h0_line, .ref h0_written, .int h0_lineMany, .int h0_hasWritten, .ref h0_node, .int h0_nodes, .int h0_onesMany, .int h0_within, .int h0_top])), (aI ca h0_now 376 F_h0_now)]) (Wr := []) (va_runV (As := [.int x_194, .int a2]) (rest := []) ⟨hx, hb, hml, hown, hts⟩ (s_X12_holds_33 l D ca H.size h0 x_194 a2 h0_thrown h0_tape h0_taped h0_size h0_limit h0_to h0_from h0_kind h0_number h0_sign h0_fault h0_place h0_word h0_told h0_now h0_read h0_kept h0_snaps h0_aside h0_name h0_readName h0_keptName h0_isKept h0_onces h0_snapMany h0_lowest h0_highest h0_agreed h0_jurors h0_panelled h0_inSets h0_surely h0_asked h0_frees h0_struck h0_beating h0_text h0_texts h0_seed h0_line h0_written h0_lineMany h0_hasWritten h0_node h0_nodes h0_onesMany h0_within h0_top F_h0_now h_201 i_a2 i_h0_taped i_h0_size i_h0_to i_h0_kind i_h0_snapMany i_h0_texts i_h0_lineMany i_h0_hasWritten i_h0_nodes i_h0_onesMany s_h0_now_0 s_h0_now_1 s_h0_now_2 s_h0_now_3 s_h0_now_4 s_h0_now_5 s_h0_now_6 s_h0_now_7 cu_tokw) (cwV 2 hts gX12_holds_X12_holds rfl rfl rfl (by decide +kernel) ⟨Nat.le_of_ble_eq_true rfl, Nat.le_of_ble_eq_true rfl⟩) (oPV (C := RX12) hK hP hD [0, 1] rfl (by decide) 0 rfl (ci := 11) rfl rfl) rfl rfl hl.1 rfl (lv_room (Nat.le_of_ble_eq_true rfl)) dX12_holds_104 ⟨Nat.le_of_ble_eq_true rfl, Nat.le_of_ble_eq_true rfl⟩) hP hD hS hA [0, 1] [] rfl rfl (by decide) (by decide) (fun r_202 u H locs w_203 hP hD hS => ?_)
    obtain ⟨u_204, u_205⟩ := u
    have hP : va_P D vwCl [(h0, .inr (11, [.int h0_thrown, .ref h0_tape, .int h0_taped, .int h0_size, .int h0_limit, .int h0_to, .int h0_from, .int h0_kind, .int h0_number, .int h0_sign, .int h0_fault, .int h0_place, .long h0_word, .int h0_told, .ref h0_now, .ref h0_read, .ref h0_kept, .ref h0_snaps, .ref h0_aside, .ref h0_name, .ref h0_readName, .ref h0_keptName, .ref h0_isKept, .ref h0_onces, .int h0_snapMany, .int u_204, .int u_205, .int h0_agreed, .int h0_jurors, .int h0_panelled, .ref h0_inSets, .int h0_surely, .int h0_asked, .ref h0_frees, .int h0_struck, .int h0_beating, .ref h0_text, .int h0_texts, .int h0_seed, .ref h0_line, .ref h0_written, .int h0_lineMany, .int h0_hasWritten, .ref h0_node, .int h0_nodes, .int h0_onesMany, .int h0_within, .int h0_top])), (aI ca h0_now 376 F_h0_now)] H := hP
    have hD : va_D A [(h0, .inr (11, [.int h0_thrown, .ref h0_tape, .int h0_taped, .int h0_size, .int h0_limit, .int h0_to, .int h0_from, .int h0_kind, .int h0_number, .int h0_sign, .int h0_fault, .int h0_place, .long h0_word, .int h0_told, .ref h0_now, .ref h0_read, .ref h0_kept, .ref h0_snaps, .ref h0_aside, .ref h0_name, .ref h0_readName, .ref h0_keptName, .ref h0_isKept, .ref h0_onces, .int h0_snapMany, .int u_204, .int u_205, .int h0_agreed, .int h0_jurors, .int h0_panelled, .ref h0_inSets, .int h0_surely, .int h0_asked, .ref h0_frees, .int h0_struck, .int h0_beating, .ref h0_text, .int h0_texts, .int h0_seed, .ref h0_line, .ref h0_written, .int h0_lineMany, .int h0_hasWritten, .ref h0_node, .int h0_nodes, .int h0_onesMany, .int h0_within, .int h0_top])), (aI ca h0_now 376 F_h0_now)] := hD
    try dsimp only at w_203
    rcases w_203 with h_206 | h_207
    · skip
      subst h_206
      refine lv_if_ne (tgt := 114) hx hb dX12_holds_107 (by decide) (fun c => absurd (by decide) c) (fun _ => ?_)
      refine lv_iconst (v := 1) hx hb dX12_holds_110 (by decide) ?_
      refine lv_goto (tgt := 115) hx hb dX12_holds_111 (by decide) ?_
      exact oE_i hx hb hr (by decide) hlocks hP hD hS (u_204, u_205) [0, 1] rfl (by decide) (Or.inl rfl) (Nat.le_of_ble_eq_true rfl) (Nat.le_of_ble_eq_true rfl) dX12_holds_115
    · skip
      subst h_207
      refine lv_if_ne (tgt := 114) hx hb dX12_holds_107 (by decide) (fun _ => ?_) (fun c => absurd c (by decide))
      refine lv_iconst (v := 0) hx hb dX12_holds_114 (by decide) ?_
      exact oE_i hx hb hr (by decide) hlocks hP hD hS (u_204, u_205) [0, 1] rfl (by decide) (Or.inr (rfl)) (Nat.le_of_ble_eq_true rfl) (Nat.le_of_ble_eq_true rfl) dX12_holds_115
  by_cases c_208 : x_199 = 2
  · skip
    refine oti 2 c_208 ?_
    refine lv_lookup (off := 82) (tgt := 116) hx hb dX12_holds_34 (by decide) (by decide) (by decide) ?_
    have h_209 : rg 0 32 x_194 := by have q := rg_cl i_a1 (by decide); have q1 := i_a1.2; have q2 := (ht.2.1 (Or.inl c_208)).1; exact ⟨by omega, by omega⟩
    have h_210 : rg 0 32 x_198 := by have q := rg_cl i_a1 (by decide); have q1 := i_a1.2; have q2 := (ht.2.1 (Or.inl c_208)).2; exact ⟨by omega, by omega⟩
    refine lv_aload_n hx hb dX12_holds_116 rfl (lv_at hl 3 rfl) ?_
    refine lv_iload hx hb dX12_holds_117 (lv_at hl 1 rfl) ?_
    refine lv_iload_n hx hb dX12_holds_119 rfl (lv_at hl 5 rfl) ?_
    refine oC_i (Wc := [(h0, .inr (11, [.int h0_thrown, .ref h0_tape, .int h0_taped, .int h0_size, .int h0_limit, .int h0_to, .int h0_from, .int h0_kind, .int h0_number, .int h0_sign, .int h0_fault, .int h0_place, .long h0_word, .int h0_told, .ref h0_now, .ref h0_read, .ref h0_kept, .ref h0_snaps, .ref h0_aside, .ref h0_name, .ref h0_readName, .ref h0_keptName, .ref h0_isKept, .ref h0_onces, .int h0_snapMany, .int h0_lowest, .int h0_highest, .int h0_agreed, .int h0_jurors, .int h0_panelled, .ref h0_inSets, .int h0_surely, .int h0_asked, .ref h0_frees, .int h0_struck, .int h0_beating, .ref h0_text, .int h0_texts, .int h0_seed, .ref h0_line, .ref h0_written, .int h0_lineMany, .int h0_hasWritten, .ref h0_node, .int h0_nodes, .int h0_onesMany, .int h0_within, .int h0_top])), (aI ca h0_now 376 F_h0_now)]) (Wr := []) (va_runV (As := [.int x_194, .int a2]) (rest := []) ⟨hx, hb, hml, hown, hts⟩ (s_X12_holds_33 l D ca H.size h0 x_194 a2 h0_thrown h0_tape h0_taped h0_size h0_limit h0_to h0_from h0_kind h0_number h0_sign h0_fault h0_place h0_word h0_told h0_now h0_read h0_kept h0_snaps h0_aside h0_name h0_readName h0_keptName h0_isKept h0_onces h0_snapMany h0_lowest h0_highest h0_agreed h0_jurors h0_panelled h0_inSets h0_surely h0_asked h0_frees h0_struck h0_beating h0_text h0_texts h0_seed h0_line h0_written h0_lineMany h0_hasWritten h0_node h0_nodes h0_onesMany h0_within h0_top F_h0_now h_209 i_a2 i_h0_taped i_h0_size i_h0_to i_h0_kind i_h0_snapMany i_h0_texts i_h0_lineMany i_h0_hasWritten i_h0_nodes i_h0_onesMany s_h0_now_0 s_h0_now_1 s_h0_now_2 s_h0_now_3 s_h0_now_4 s_h0_now_5 s_h0_now_6 s_h0_now_7 cu_tokw) (cwV 2 hts gX12_holds_X12_holds rfl rfl rfl (by decide +kernel) ⟨Nat.le_of_ble_eq_true rfl, Nat.le_of_ble_eq_true rfl⟩) (oPV (C := RX12) hK hP hD [0, 1] rfl (by decide) 0 rfl (ci := 11) rfl rfl) rfl rfl hl.1 rfl (lv_room (Nat.le_of_ble_eq_true rfl)) dX12_holds_120 ⟨Nat.le_of_ble_eq_true rfl, Nat.le_of_ble_eq_true rfl⟩) hP hD hS hA [0, 1] [] rfl rfl (by decide) (by decide) (fun r_211 u H locs w_212 hP hD hS => ?_)
    obtain ⟨u_213, u_214⟩ := u
    have hP : va_P D vwCl [(h0, .inr (11, [.int h0_thrown, .ref h0_tape, .int h0_taped, .int h0_size, .int h0_limit, .int h0_to, .int h0_from, .int h0_kind, .int h0_number, .int h0_sign, .int h0_fault, .int h0_place, .long h0_word, .int h0_told, .ref h0_now, .ref h0_read, .ref h0_kept, .ref h0_snaps, .ref h0_aside, .ref h0_name, .ref h0_readName, .ref h0_keptName, .ref h0_isKept, .ref h0_onces, .int h0_snapMany, .int u_213, .int u_214, .int h0_agreed, .int h0_jurors, .int h0_panelled, .ref h0_inSets, .int h0_surely, .int h0_asked, .ref h0_frees, .int h0_struck, .int h0_beating, .ref h0_text, .int h0_texts, .int h0_seed, .ref h0_line, .ref h0_written, .int h0_lineMany, .int h0_hasWritten, .ref h0_node, .int h0_nodes, .int h0_onesMany, .int h0_within, .int h0_top])), (aI ca h0_now 376 F_h0_now)] H := hP
    have hD : va_D A [(h0, .inr (11, [.int h0_thrown, .ref h0_tape, .int h0_taped, .int h0_size, .int h0_limit, .int h0_to, .int h0_from, .int h0_kind, .int h0_number, .int h0_sign, .int h0_fault, .int h0_place, .long h0_word, .int h0_told, .ref h0_now, .ref h0_read, .ref h0_kept, .ref h0_snaps, .ref h0_aside, .ref h0_name, .ref h0_readName, .ref h0_keptName, .ref h0_isKept, .ref h0_onces, .int h0_snapMany, .int u_213, .int u_214, .int h0_agreed, .int h0_jurors, .int h0_panelled, .ref h0_inSets, .int h0_surely, .int h0_asked, .ref h0_frees, .int h0_struck, .int h0_beating, .ref h0_text, .int h0_texts, .int h0_seed, .ref h0_line, .ref h0_written, .int h0_lineMany, .int h0_hasWritten, .ref h0_node, .int h0_nodes, .int h0_onesMany, .int h0_within, .int h0_top])), (aI ca h0_now 376 F_h0_now)] := hD
    try dsimp only at w_212
    rcases w_212 with h_215 | h_216
    · skip
      subst h_215
      refine lv_if_eq (tgt := 140) hx hb dX12_holds_123 (by decide) (fun _ => ?_) (fun c => absurd (by decide) c)
      refine lv_iconst (v := 0) hx hb dX12_holds_140 (by decide) ?_
      exact oE_i hx hb hr (by decide) hlocks hP hD hS (u_213, u_214) [0, 1] rfl (by decide) (Or.inr (rfl)) (Nat.le_of_ble_eq_true rfl) (Nat.le_of_ble_eq_true rfl) dX12_holds_141
    · skip
      subst h_216
      refine lv_if_eq (tgt := 140) hx hb dX12_holds_123 (by decide) (fun c => absurd c (by decide)) (fun _ => ?_)
      refine lv_aload_n hx hb dX12_holds_126 rfl (lv_at hl 3 rfl) ?_
      refine lv_iload hx hb dX12_holds_127 (lv_at hl 0 rfl) ?_
      refine lv_iload_n hx hb dX12_holds_129 rfl (lv_at hl 5 rfl) ?_
      refine oC_i (Wc := [(h0, .inr (11, [.int h0_thrown, .ref h0_tape, .int h0_taped, .int h0_size, .int h0_limit, .int h0_to, .int h0_from, .int h0_kind, .int h0_number, .int h0_sign, .int h0_fault, .int h0_place, .long h0_word, .int h0_told, .ref h0_now, .ref h0_read, .ref h0_kept, .ref h0_snaps, .ref h0_aside, .ref h0_name, .ref h0_readName, .ref h0_keptName, .ref h0_isKept, .ref h0_onces, .int h0_snapMany, .int u_213, .int u_214, .int h0_agreed, .int h0_jurors, .int h0_panelled, .ref h0_inSets, .int h0_surely, .int h0_asked, .ref h0_frees, .int h0_struck, .int h0_beating, .ref h0_text, .int h0_texts, .int h0_seed, .ref h0_line, .ref h0_written, .int h0_lineMany, .int h0_hasWritten, .ref h0_node, .int h0_nodes, .int h0_onesMany, .int h0_within, .int h0_top])), (aI ca h0_now 376 F_h0_now)]) (Wr := []) (va_runV (As := [.int x_198, .int a2]) (rest := []) ⟨hx, hb, hml, hown, hts⟩ (s_X12_holds_33 l D ca H.size h0 x_198 a2 h0_thrown h0_tape h0_taped h0_size h0_limit h0_to h0_from h0_kind h0_number h0_sign h0_fault h0_place h0_word h0_told h0_now h0_read h0_kept h0_snaps h0_aside h0_name h0_readName h0_keptName h0_isKept h0_onces h0_snapMany u_213 u_214 h0_agreed h0_jurors h0_panelled h0_inSets h0_surely h0_asked h0_frees h0_struck h0_beating h0_text h0_texts h0_seed h0_line h0_written h0_lineMany h0_hasWritten h0_node h0_nodes h0_onesMany h0_within h0_top F_h0_now h_210 i_a2 i_h0_taped i_h0_size i_h0_to i_h0_kind i_h0_snapMany i_h0_texts i_h0_lineMany i_h0_hasWritten i_h0_nodes i_h0_onesMany s_h0_now_0 s_h0_now_1 s_h0_now_2 s_h0_now_3 s_h0_now_4 s_h0_now_5 s_h0_now_6 s_h0_now_7 cu_tokw) (cwV 2 hts gX12_holds_X12_holds rfl rfl rfl (by decide +kernel) ⟨Nat.le_of_ble_eq_true rfl, Nat.le_of_ble_eq_true rfl⟩) (oPV (C := RX12) hK hP hD [0, 1] rfl (by decide) 0 rfl (ci := 11) rfl rfl) rfl rfl hl.1 rfl (lv_room (Nat.le_of_ble_eq_true rfl)) dX12_holds_130 ⟨Nat.le_of_ble_eq_true rfl, Nat.le_of_ble_eq_true rfl⟩) hP hD hS hA [0, 1] [] rfl rfl (by decide) (by decide) (fun r_217 u H locs w_218 hP hD hS => ?_)
      obtain ⟨u_219, u_220⟩ := u
      have hP : va_P D vwCl [(h0, .inr (11, [.int h0_thrown, .ref h0_tape, .int h0_taped, .int h0_size, .int h0_limit, .int h0_to, .int h0_from, .int h0_kind, .int h0_number, .int h0_sign, .int h0_fault, .int h0_place, .long h0_word, .int h0_told, .ref h0_now, .ref h0_read, .ref h0_kept, .ref h0_snaps, .ref h0_aside, .ref h0_name, .ref h0_readName, .ref h0_keptName, .ref h0_isKept, .ref h0_onces, .int h0_snapMany, .int u_219, .int u_220, .int h0_agreed, .int h0_jurors, .int h0_panelled, .ref h0_inSets, .int h0_surely, .int h0_asked, .ref h0_frees, .int h0_struck, .int h0_beating, .ref h0_text, .int h0_texts, .int h0_seed, .ref h0_line, .ref h0_written, .int h0_lineMany, .int h0_hasWritten, .ref h0_node, .int h0_nodes, .int h0_onesMany, .int h0_within, .int h0_top])), (aI ca h0_now 376 F_h0_now)] H := hP
      have hD : va_D A [(h0, .inr (11, [.int h0_thrown, .ref h0_tape, .int h0_taped, .int h0_size, .int h0_limit, .int h0_to, .int h0_from, .int h0_kind, .int h0_number, .int h0_sign, .int h0_fault, .int h0_place, .long h0_word, .int h0_told, .ref h0_now, .ref h0_read, .ref h0_kept, .ref h0_snaps, .ref h0_aside, .ref h0_name, .ref h0_readName, .ref h0_keptName, .ref h0_isKept, .ref h0_onces, .int h0_snapMany, .int u_219, .int u_220, .int h0_agreed, .int h0_jurors, .int h0_panelled, .ref h0_inSets, .int h0_surely, .int h0_asked, .ref h0_frees, .int h0_struck, .int h0_beating, .ref h0_text, .int h0_texts, .int h0_seed, .ref h0_line, .ref h0_written, .int h0_lineMany, .int h0_hasWritten, .ref h0_node, .int h0_nodes, .int h0_onesMany, .int h0_within, .int h0_top])), (aI ca h0_now 376 F_h0_now)] := hD
      try dsimp only at w_218
      rcases w_218 with h_221 | h_222
      · skip
        subst h_221
        refine lv_if_eq (tgt := 140) hx hb dX12_holds_133 (by decide) (fun _ => ?_) (fun c => absurd (by decide) c)
        refine lv_iconst (v := 0) hx hb dX12_holds_140 (by decide) ?_
        exact oE_i hx hb hr (by decide) hlocks hP hD hS (u_219, u_220) [0, 1] rfl (by decide) (Or.inr (rfl)) (Nat.le_of_ble_eq_true rfl) (Nat.le_of_ble_eq_true rfl) dX12_holds_141
      · skip
        subst h_222
        refine lv_if_eq (tgt := 140) hx hb dX12_holds_133 (by decide) (fun c => absurd c (by decide)) (fun _ => ?_)
        refine lv_iconst (v := 1) hx hb dX12_holds_136 (by decide) ?_
        refine lv_goto (tgt := 141) hx hb dX12_holds_137 (by decide) ?_
        exact oE_i hx hb hr (by decide) hlocks hP hD hS (u_219, u_220) [0, 1] rfl (by decide) (Or.inl rfl) (Nat.le_of_ble_eq_true rfl) (Nat.le_of_ble_eq_true rfl) dX12_holds_141
  by_cases c_223 : x_199 = 3
  · skip
    refine oti 3 c_223 ?_
    refine lv_lookup (off := 108) (tgt := 142) hx hb dX12_holds_34 (by decide) (by decide) (by decide) ?_
    have h_224 : rg 0 32 x_194 := by have q := rg_cl i_a1 (by decide); have q1 := i_a1.2; have q2 := (ht.2.1 (Or.inr c_223)).1; exact ⟨by omega, by omega⟩
    have h_225 : rg 0 32 x_198 := by have q := rg_cl i_a1 (by decide); have q1 := i_a1.2; have q2 := (ht.2.1 (Or.inr c_223)).2; exact ⟨by omega, by omega⟩
    refine lv_aload_n hx hb dX12_holds_142 rfl (lv_at hl 3 rfl) ?_
    refine lv_iload hx hb dX12_holds_143 (lv_at hl 1 rfl) ?_
    refine lv_iload_n hx hb dX12_holds_145 rfl (lv_at hl 5 rfl) ?_
    refine oC_i (Wc := [(h0, .inr (11, [.int h0_thrown, .ref h0_tape, .int h0_taped, .int h0_size, .int h0_limit, .int h0_to, .int h0_from, .int h0_kind, .int h0_number, .int h0_sign, .int h0_fault, .int h0_place, .long h0_word, .int h0_told, .ref h0_now, .ref h0_read, .ref h0_kept, .ref h0_snaps, .ref h0_aside, .ref h0_name, .ref h0_readName, .ref h0_keptName, .ref h0_isKept, .ref h0_onces, .int h0_snapMany, .int h0_lowest, .int h0_highest, .int h0_agreed, .int h0_jurors, .int h0_panelled, .ref h0_inSets, .int h0_surely, .int h0_asked, .ref h0_frees, .int h0_struck, .int h0_beating, .ref h0_text, .int h0_texts, .int h0_seed, .ref h0_line, .ref h0_written, .int h0_lineMany, .int h0_hasWritten, .ref h0_node, .int h0_nodes, .int h0_onesMany, .int h0_within, .int h0_top])), (aI ca h0_now 376 F_h0_now)]) (Wr := []) (va_runV (As := [.int x_194, .int a2]) (rest := []) ⟨hx, hb, hml, hown, hts⟩ (s_X12_holds_33 l D ca H.size h0 x_194 a2 h0_thrown h0_tape h0_taped h0_size h0_limit h0_to h0_from h0_kind h0_number h0_sign h0_fault h0_place h0_word h0_told h0_now h0_read h0_kept h0_snaps h0_aside h0_name h0_readName h0_keptName h0_isKept h0_onces h0_snapMany h0_lowest h0_highest h0_agreed h0_jurors h0_panelled h0_inSets h0_surely h0_asked h0_frees h0_struck h0_beating h0_text h0_texts h0_seed h0_line h0_written h0_lineMany h0_hasWritten h0_node h0_nodes h0_onesMany h0_within h0_top F_h0_now h_224 i_a2 i_h0_taped i_h0_size i_h0_to i_h0_kind i_h0_snapMany i_h0_texts i_h0_lineMany i_h0_hasWritten i_h0_nodes i_h0_onesMany s_h0_now_0 s_h0_now_1 s_h0_now_2 s_h0_now_3 s_h0_now_4 s_h0_now_5 s_h0_now_6 s_h0_now_7 cu_tokw) (cwV 2 hts gX12_holds_X12_holds rfl rfl rfl (by decide +kernel) ⟨Nat.le_of_ble_eq_true rfl, Nat.le_of_ble_eq_true rfl⟩) (oPV (C := RX12) hK hP hD [0, 1] rfl (by decide) 0 rfl (ci := 11) rfl rfl) rfl rfl hl.1 rfl (lv_room (Nat.le_of_ble_eq_true rfl)) dX12_holds_146 ⟨Nat.le_of_ble_eq_true rfl, Nat.le_of_ble_eq_true rfl⟩) hP hD hS hA [0, 1] [] rfl rfl (by decide) (by decide) (fun r_226 u H locs w_227 hP hD hS => ?_)
    obtain ⟨u_228, u_229⟩ := u
    have hP : va_P D vwCl [(h0, .inr (11, [.int h0_thrown, .ref h0_tape, .int h0_taped, .int h0_size, .int h0_limit, .int h0_to, .int h0_from, .int h0_kind, .int h0_number, .int h0_sign, .int h0_fault, .int h0_place, .long h0_word, .int h0_told, .ref h0_now, .ref h0_read, .ref h0_kept, .ref h0_snaps, .ref h0_aside, .ref h0_name, .ref h0_readName, .ref h0_keptName, .ref h0_isKept, .ref h0_onces, .int h0_snapMany, .int u_228, .int u_229, .int h0_agreed, .int h0_jurors, .int h0_panelled, .ref h0_inSets, .int h0_surely, .int h0_asked, .ref h0_frees, .int h0_struck, .int h0_beating, .ref h0_text, .int h0_texts, .int h0_seed, .ref h0_line, .ref h0_written, .int h0_lineMany, .int h0_hasWritten, .ref h0_node, .int h0_nodes, .int h0_onesMany, .int h0_within, .int h0_top])), (aI ca h0_now 376 F_h0_now)] H := hP
    have hD : va_D A [(h0, .inr (11, [.int h0_thrown, .ref h0_tape, .int h0_taped, .int h0_size, .int h0_limit, .int h0_to, .int h0_from, .int h0_kind, .int h0_number, .int h0_sign, .int h0_fault, .int h0_place, .long h0_word, .int h0_told, .ref h0_now, .ref h0_read, .ref h0_kept, .ref h0_snaps, .ref h0_aside, .ref h0_name, .ref h0_readName, .ref h0_keptName, .ref h0_isKept, .ref h0_onces, .int h0_snapMany, .int u_228, .int u_229, .int h0_agreed, .int h0_jurors, .int h0_panelled, .ref h0_inSets, .int h0_surely, .int h0_asked, .ref h0_frees, .int h0_struck, .int h0_beating, .ref h0_text, .int h0_texts, .int h0_seed, .ref h0_line, .ref h0_written, .int h0_lineMany, .int h0_hasWritten, .ref h0_node, .int h0_nodes, .int h0_onesMany, .int h0_within, .int h0_top])), (aI ca h0_now 376 F_h0_now)] := hD
    try dsimp only at w_227
    rcases w_227 with h_230 | h_231
    · skip
      subst h_230
      refine lv_if_ne (tgt := 162) hx hb dX12_holds_149 (by decide) (fun c => absurd (by decide) c) (fun _ => ?_)
      refine lv_aload_n hx hb dX12_holds_152 rfl (lv_at hl 3 rfl) ?_
      refine lv_iload hx hb dX12_holds_153 (lv_at hl 0 rfl) ?_
      refine lv_iload_n hx hb dX12_holds_155 rfl (lv_at hl 5 rfl) ?_
      refine oC_i (Wc := [(h0, .inr (11, [.int h0_thrown, .ref h0_tape, .int h0_taped, .int h0_size, .int h0_limit, .int h0_to, .int h0_from, .int h0_kind, .int h0_number, .int h0_sign, .int h0_fault, .int h0_place, .long h0_word, .int h0_told, .ref h0_now, .ref h0_read, .ref h0_kept, .ref h0_snaps, .ref h0_aside, .ref h0_name, .ref h0_readName, .ref h0_keptName, .ref h0_isKept, .ref h0_onces, .int h0_snapMany, .int u_228, .int u_229, .int h0_agreed, .int h0_jurors, .int h0_panelled, .ref h0_inSets, .int h0_surely, .int h0_asked, .ref h0_frees, .int h0_struck, .int h0_beating, .ref h0_text, .int h0_texts, .int h0_seed, .ref h0_line, .ref h0_written, .int h0_lineMany, .int h0_hasWritten, .ref h0_node, .int h0_nodes, .int h0_onesMany, .int h0_within, .int h0_top])), (aI ca h0_now 376 F_h0_now)]) (Wr := []) (va_runV (As := [.int x_198, .int a2]) (rest := []) ⟨hx, hb, hml, hown, hts⟩ (s_X12_holds_33 l D ca H.size h0 x_198 a2 h0_thrown h0_tape h0_taped h0_size h0_limit h0_to h0_from h0_kind h0_number h0_sign h0_fault h0_place h0_word h0_told h0_now h0_read h0_kept h0_snaps h0_aside h0_name h0_readName h0_keptName h0_isKept h0_onces h0_snapMany u_228 u_229 h0_agreed h0_jurors h0_panelled h0_inSets h0_surely h0_asked h0_frees h0_struck h0_beating h0_text h0_texts h0_seed h0_line h0_written h0_lineMany h0_hasWritten h0_node h0_nodes h0_onesMany h0_within h0_top F_h0_now h_225 i_a2 i_h0_taped i_h0_size i_h0_to i_h0_kind i_h0_snapMany i_h0_texts i_h0_lineMany i_h0_hasWritten i_h0_nodes i_h0_onesMany s_h0_now_0 s_h0_now_1 s_h0_now_2 s_h0_now_3 s_h0_now_4 s_h0_now_5 s_h0_now_6 s_h0_now_7 cu_tokw) (cwV 2 hts gX12_holds_X12_holds rfl rfl rfl (by decide +kernel) ⟨Nat.le_of_ble_eq_true rfl, Nat.le_of_ble_eq_true rfl⟩) (oPV (C := RX12) hK hP hD [0, 1] rfl (by decide) 0 rfl (ci := 11) rfl rfl) rfl rfl hl.1 rfl (lv_room (Nat.le_of_ble_eq_true rfl)) dX12_holds_156 ⟨Nat.le_of_ble_eq_true rfl, Nat.le_of_ble_eq_true rfl⟩) hP hD hS hA [0, 1] [] rfl rfl (by decide) (by decide) (fun r_232 u H locs w_233 hP hD hS => ?_)
      obtain ⟨u_234, u_235⟩ := u
      have hP : va_P D vwCl [(h0, .inr (11, [.int h0_thrown, .ref h0_tape, .int h0_taped, .int h0_size, .int h0_limit, .int h0_to, .int h0_from, .int h0_kind, .int h0_number, .int h0_sign, .int h0_fault, .int h0_place, .long h0_word, .int h0_told, .ref h0_now, .ref h0_read, .ref h0_kept, .ref h0_snaps, .ref h0_aside, .ref h0_name, .ref h0_readName, .ref h0_keptName, .ref h0_isKept, .ref h0_onces, .int h0_snapMany, .int u_234, .int u_235, .int h0_agreed, .int h0_jurors, .int h0_panelled, .ref h0_inSets, .int h0_surely, .int h0_asked, .ref h0_frees, .int h0_struck, .int h0_beating, .ref h0_text, .int h0_texts, .int h0_seed, .ref h0_line, .ref h0_written, .int h0_lineMany, .int h0_hasWritten, .ref h0_node, .int h0_nodes, .int h0_onesMany, .int h0_within, .int h0_top])), (aI ca h0_now 376 F_h0_now)] H := hP
      have hD : va_D A [(h0, .inr (11, [.int h0_thrown, .ref h0_tape, .int h0_taped, .int h0_size, .int h0_limit, .int h0_to, .int h0_from, .int h0_kind, .int h0_number, .int h0_sign, .int h0_fault, .int h0_place, .long h0_word, .int h0_told, .ref h0_now, .ref h0_read, .ref h0_kept, .ref h0_snaps, .ref h0_aside, .ref h0_name, .ref h0_readName, .ref h0_keptName, .ref h0_isKept, .ref h0_onces, .int h0_snapMany, .int u_234, .int u_235, .int h0_agreed, .int h0_jurors, .int h0_panelled, .ref h0_inSets, .int h0_surely, .int h0_asked, .ref h0_frees, .int h0_struck, .int h0_beating, .ref h0_text, .int h0_texts, .int h0_seed, .ref h0_line, .ref h0_written, .int h0_lineMany, .int h0_hasWritten, .ref h0_node, .int h0_nodes, .int h0_onesMany, .int h0_within, .int h0_top])), (aI ca h0_now 376 F_h0_now)] := hD
      try dsimp only at w_233
      rcases w_233 with h_236 | h_237
      · skip
        subst h_236
        refine lv_if_eq (tgt := 166) hx hb dX12_holds_159 (by decide) (fun _ => ?_) (fun c => absurd (by decide) c)
        refine lv_iconst (v := 0) hx hb dX12_holds_166 (by decide) ?_
        exact oE_i hx hb hr (by decide) hlocks hP hD hS (u_234, u_235) [0, 1] rfl (by decide) (Or.inr (rfl)) (Nat.le_of_ble_eq_true rfl) (Nat.le_of_ble_eq_true rfl) dX12_holds_167
      · skip
        subst h_237
        refine lv_if_eq (tgt := 166) hx hb dX12_holds_159 (by decide) (fun c => absurd c (by decide)) (fun _ => ?_)
        refine lv_iconst (v := 1) hx hb dX12_holds_162 (by decide) ?_
        refine lv_goto (tgt := 167) hx hb dX12_holds_163 (by decide) ?_
        exact oE_i hx hb hr (by decide) hlocks hP hD hS (u_234, u_235) [0, 1] rfl (by decide) (Or.inl rfl) (Nat.le_of_ble_eq_true rfl) (Nat.le_of_ble_eq_true rfl) dX12_holds_167
    · skip
      subst h_231
      refine lv_if_ne (tgt := 162) hx hb dX12_holds_149 (by decide) (fun _ => ?_) (fun c => absurd c (by decide))
      refine lv_iconst (v := 1) hx hb dX12_holds_162 (by decide) ?_
      refine lv_goto (tgt := 167) hx hb dX12_holds_163 (by decide) ?_
      exact oE_i hx hb hr (by decide) hlocks hP hD hS (u_228, u_229) [0, 1] rfl (by decide) (Or.inl rfl) (Nat.le_of_ble_eq_true rfl) (Nat.le_of_ble_eq_true rfl) dX12_holds_167
  by_cases c_238 : x_199 = 68
  · skip
    refine oti 68 c_238 ?_
    refine lv_lookup (off := 134) (tgt := 168) hx hb dX12_holds_34 (by decide) (by decide) (by decide) ?_
    refine lv_aload_n hx hb dX12_holds_168 rfl (lv_at hl 3 rfl) ?_
    refine va_get (D := D) (ci := 11) (v := .ref h0_now) (C := RX12) (T := TX12) (N := 48) hx hb hts k2 hown hK.1 hP 0 rfl rfl 14 (by decide) k1 (fun _ h9 => h9) rfl dX12_holds_169 ?_
    refine lv_bipush (v := 90) hx hb dX12_holds_172 (by decide) ?_
    refine va_iald hx hb hK.1 hP 1 0 rfl rfl (rg_in (⟨by decide, by decide⟩ : rg 90 90 (90 : Int32)) (by decide) (by decide)) dX12_holds_174 ?_
    refine lv_topi (fun x_239 ex_239 => ?_)
    have h_240 : rg 0 1023 x_239 := by rw [ex_239]; exact sg_at s_h0_now_5 (⟨by decide, by decide⟩ : rg 90 90 (90 : Int32)) (by decide) (by decide) (by decide)
    refine lv_iload_n hx hb dX12_holds_175 rfl (lv_at hl 5 rfl) ?_
    refine oC_i (Wc := []) (Wr := [(h0, .inr (11, [.int h0_thrown, .ref h0_tape, .int h0_taped, .int h0_size, .int h0_limit, .int h0_to, .int h0_from, .int h0_kind, .int h0_number, .int h0_sign, .int h0_fault, .int h0_place, .long h0_word, .int h0_told, .ref h0_now, .ref h0_read, .ref h0_kept, .ref h0_snaps, .ref h0_aside, .ref h0_name, .ref h0_readName, .ref h0_keptName, .ref h0_isKept, .ref h0_onces, .int h0_snapMany, .int h0_lowest, .int h0_highest, .int h0_agreed, .int h0_jurors, .int h0_panelled, .ref h0_inSets, .int h0_surely, .int h0_asked, .ref h0_frees, .int h0_struck, .int h0_beating, .ref h0_text, .int h0_texts, .int h0_seed, .ref h0_line, .ref h0_written, .int h0_lineMany, .int h0_hasWritten, .ref h0_node, .int h0_nodes, .int h0_onesMany, .int h0_within, .int h0_top])), (aI ca h0_now 376 F_h0_now)]) (va_runS (As := [.int x_239, .int a2]) (rest := []) ⟨hx, hb, hml, hown, hts⟩ (s_X12_has l D ca H.size x_239 a2) (va_cwS 2 hts gX12_holds_X12_has rfl rfl rfl (by decide +kernel) ⟨Nat.le_of_ble_eq_true rfl, Nat.le_of_ble_eq_true rfl⟩) (oPS hK hP hD [] rfl (by decide)) rfl rfl hl.1 rfl (lv_room (Nat.le_of_ble_eq_true rfl)) dX12_holds_176 ⟨Nat.le_of_ble_eq_true rfl, Nat.le_of_ble_eq_true rfl⟩) hP hD hS hA [] [0, 1] rfl rfl (by decide) (by decide) (fun r_241 u H locs w_242 hP hD hS => ?_)
    obtain ⟨⟩ := u
    have hP : va_P D vwCl [(h0, .inr (11, [.int h0_thrown, .ref h0_tape, .int h0_taped, .int h0_size, .int h0_limit, .int h0_to, .int h0_from, .int h0_kind, .int h0_number, .int h0_sign, .int h0_fault, .int h0_place, .long h0_word, .int h0_told, .ref h0_now, .ref h0_read, .ref h0_kept, .ref h0_snaps, .ref h0_aside, .ref h0_name, .ref h0_readName, .ref h0_keptName, .ref h0_isKept, .ref h0_onces, .int h0_snapMany, .int h0_lowest, .int h0_highest, .int h0_agreed, .int h0_jurors, .int h0_panelled, .ref h0_inSets, .int h0_surely, .int h0_asked, .ref h0_frees, .int h0_struck, .int h0_beating, .ref h0_text, .int h0_texts, .int h0_seed, .ref h0_line, .ref h0_written, .int h0_lineMany, .int h0_hasWritten, .ref h0_node, .int h0_nodes, .int h0_onesMany, .int h0_within, .int h0_top])), (aI ca h0_now 376 F_h0_now)] H := hP
    have hD : va_D A [(h0, .inr (11, [.int h0_thrown, .ref h0_tape, .int h0_taped, .int h0_size, .int h0_limit, .int h0_to, .int h0_from, .int h0_kind, .int h0_number, .int h0_sign, .int h0_fault, .int h0_place, .long h0_word, .int h0_told, .ref h0_now, .ref h0_read, .ref h0_kept, .ref h0_snaps, .ref h0_aside, .ref h0_name, .ref h0_readName, .ref h0_keptName, .ref h0_isKept, .ref h0_onces, .int h0_snapMany, .int h0_lowest, .int h0_highest, .int h0_agreed, .int h0_jurors, .int h0_panelled, .ref h0_inSets, .int h0_surely, .int h0_asked, .ref h0_frees, .int h0_struck, .int h0_beating, .ref h0_text, .int h0_texts, .int h0_seed, .ref h0_line, .ref h0_written, .int h0_lineMany, .int h0_hasWritten, .ref h0_node, .int h0_nodes, .int h0_onesMany, .int h0_within, .int h0_top])), (aI ca h0_now 376 F_h0_now)] := hD
    try dsimp only at w_242
    rcases w_242 with ⟨h_243, h_244⟩ | ⟨h_245, h_246⟩
    · skip
      subst h_243
      exact oE_i hx hb hr (by decide) hlocks hP hD hS (h0_lowest, h0_highest) [0, 1] rfl (by decide) (Or.inr (rfl)) (Nat.le_of_ble_eq_true rfl) (Nat.le_of_ble_eq_true rfl) dX12_holds_179
    · skip
      subst h_245
      exact oE_i hx hb hr (by decide) hlocks hP hD hS (h0_lowest, h0_highest) [0, 1] rfl (by decide) (Or.inl rfl) (Nat.le_of_ble_eq_true rfl) (Nat.le_of_ble_eq_true rfl) dX12_holds_179
  by_cases c_247 : x_199 = 69
  · skip
    refine oti 69 c_247 ?_
    refine lv_lookup (off := 146) (tgt := 180) hx hb dX12_holds_34 (by decide) (by decide) (by decide) ?_
    refine lv_aload_n hx hb dX12_holds_180 rfl (lv_at hl 3 rfl) ?_
    refine va_get (D := D) (ci := 11) (v := .ref h0_now) (C := RX12) (T := TX12) (N := 48) hx hb hts k2 hown hK.1 hP 0 rfl rfl 14 (by decide) k1 (fun _ h9 => h9) rfl dX12_holds_181 ?_
    refine lv_bipush (v := 91) hx hb dX12_holds_184 (by decide) ?_
    refine va_iald hx hb hK.1 hP 1 0 rfl rfl (rg_in (⟨by decide, by decide⟩ : rg 91 91 (91 : Int32)) (by decide) (by decide)) dX12_holds_186 ?_
    refine lv_topi (fun x_248 ex_248 => ?_)
    refine lv_iload_n hx hb dX12_holds_187 rfl (lv_at hl 5 rfl) ?_
    refine oC_i (Wc := []) (Wr := [(h0, .inr (11, [.int h0_thrown, .ref h0_tape, .int h0_taped, .int h0_size, .int h0_limit, .int h0_to, .int h0_from, .int h0_kind, .int h0_number, .int h0_sign, .int h0_fault, .int h0_place, .long h0_word, .int h0_told, .ref h0_now, .ref h0_read, .ref h0_kept, .ref h0_snaps, .ref h0_aside, .ref h0_name, .ref h0_readName, .ref h0_keptName, .ref h0_isKept, .ref h0_onces, .int h0_snapMany, .int h0_lowest, .int h0_highest, .int h0_agreed, .int h0_jurors, .int h0_panelled, .ref h0_inSets, .int h0_surely, .int h0_asked, .ref h0_frees, .int h0_struck, .int h0_beating, .ref h0_text, .int h0_texts, .int h0_seed, .ref h0_line, .ref h0_written, .int h0_lineMany, .int h0_hasWritten, .ref h0_node, .int h0_nodes, .int h0_onesMany, .int h0_within, .int h0_top])), (aI ca h0_now 376 F_h0_now)]) (va_runS (As := [.int x_248, .int a2]) (rest := []) ⟨hx, hb, hml, hown, hts⟩ (s_X12_has l D ca H.size x_248 a2) (va_cwS 2 hts gX12_holds_X12_has rfl rfl rfl (by decide +kernel) ⟨Nat.le_of_ble_eq_true rfl, Nat.le_of_ble_eq_true rfl⟩) (oPS hK hP hD [] rfl (by decide)) rfl rfl hl.1 rfl (lv_room (Nat.le_of_ble_eq_true rfl)) dX12_holds_188 ⟨Nat.le_of_ble_eq_true rfl, Nat.le_of_ble_eq_true rfl⟩) hP hD hS hA [] [0, 1] rfl rfl (by decide) (by decide) (fun r_249 u H locs w_250 hP hD hS => ?_)
    obtain ⟨⟩ := u
    have hP : va_P D vwCl [(h0, .inr (11, [.int h0_thrown, .ref h0_tape, .int h0_taped, .int h0_size, .int h0_limit, .int h0_to, .int h0_from, .int h0_kind, .int h0_number, .int h0_sign, .int h0_fault, .int h0_place, .long h0_word, .int h0_told, .ref h0_now, .ref h0_read, .ref h0_kept, .ref h0_snaps, .ref h0_aside, .ref h0_name, .ref h0_readName, .ref h0_keptName, .ref h0_isKept, .ref h0_onces, .int h0_snapMany, .int h0_lowest, .int h0_highest, .int h0_agreed, .int h0_jurors, .int h0_panelled, .ref h0_inSets, .int h0_surely, .int h0_asked, .ref h0_frees, .int h0_struck, .int h0_beating, .ref h0_text, .int h0_texts, .int h0_seed, .ref h0_line, .ref h0_written, .int h0_lineMany, .int h0_hasWritten, .ref h0_node, .int h0_nodes, .int h0_onesMany, .int h0_within, .int h0_top])), (aI ca h0_now 376 F_h0_now)] H := hP
    have hD : va_D A [(h0, .inr (11, [.int h0_thrown, .ref h0_tape, .int h0_taped, .int h0_size, .int h0_limit, .int h0_to, .int h0_from, .int h0_kind, .int h0_number, .int h0_sign, .int h0_fault, .int h0_place, .long h0_word, .int h0_told, .ref h0_now, .ref h0_read, .ref h0_kept, .ref h0_snaps, .ref h0_aside, .ref h0_name, .ref h0_readName, .ref h0_keptName, .ref h0_isKept, .ref h0_onces, .int h0_snapMany, .int h0_lowest, .int h0_highest, .int h0_agreed, .int h0_jurors, .int h0_panelled, .ref h0_inSets, .int h0_surely, .int h0_asked, .ref h0_frees, .int h0_struck, .int h0_beating, .ref h0_text, .int h0_texts, .int h0_seed, .ref h0_line, .ref h0_written, .int h0_lineMany, .int h0_hasWritten, .ref h0_node, .int h0_nodes, .int h0_onesMany, .int h0_within, .int h0_top])), (aI ca h0_now 376 F_h0_now)] := hD
    try dsimp only at w_250
    rcases w_250 with ⟨h_251, h_252⟩ | ⟨h_253, h_254⟩
    · skip
      subst h_251
      exact oE_i hx hb hr (by decide) hlocks hP hD hS (h0_lowest, h0_highest) [0, 1] rfl (by decide) (Or.inr (rfl)) (Nat.le_of_ble_eq_true rfl) (Nat.le_of_ble_eq_true rfl) dX12_holds_191
    · skip
      subst h_253
      exact oE_i hx hb hr (by decide) hlocks hP hD hS (h0_lowest, h0_highest) [0, 1] rfl (by decide) (Or.inl rfl) (Nat.le_of_ble_eq_true rfl) (Nat.le_of_ble_eq_true rfl) dX12_holds_191
  by_cases c_255 : x_199 = 70
  · skip
    refine oti 70 c_255 ?_
    refine lv_lookup (off := 158) (tgt := 192) hx hb dX12_holds_34 (by decide) (by decide) (by decide) ?_
    refine lv_aload_n hx hb dX12_holds_192 rfl (lv_at hl 3 rfl) ?_
    refine va_get (D := D) (ci := 11) (v := .ref h0_now) (C := RX12) (T := TX12) (N := 48) hx hb hts k2 hown hK.1 hP 0 rfl rfl 14 (by decide) k1 (fun _ h9 => h9) rfl dX12_holds_193 ?_
    refine lv_bipush (v := 94) hx hb dX12_holds_196 (by decide) ?_
    refine lv_iload_n hx hb dX12_holds_198 rfl (lv_at hl 5 rfl) ?_
    refine lv_iadd hx hb dX12_holds_199 ?_
    refine lv_topi (fun x_256 ex_256 => ?_)
    have h_257 : rg 94 103 x_256 := by rw [ex_256]; exact rg_add (⟨by decide, by decide⟩ : rg 94 94 (94 : Int32)) i_a2 (by decide) (by decide) (by decide) (by decide)
    have l_258 : lq x_256.toInt (a2.toInt + 94) := lqm (by rw [ex_256]; have q := tadd (⟨by decide, by decide⟩ : rg 94 94 (94 : Int32)) i_a2 (by decide) (by decide); have r0 := lqe (lqm (by decide) : lq (94 : Int32).toInt 94); omega)
    refine va_iald hx hb hK.1 hP 1 0 rfl rfl (rg_in h_257 (by decide) (by decide)) dX12_holds_200 ?_
    refine lv_topi (fun x_259 ex_259 => ?_)
    refine lv_if_le (tgt := 208) hx hb dX12_holds_201 (by decide) (fun c_260 => ?_) (fun c_260 => ?_)
    · skip
      have o_261 : rl 0 x_259 0 := rl_le c_260
      have h_262 : rg (-2147483648) 0 x_259 := rl_x o_261 (rga x_259) (⟨by decide, by decide⟩ : rg 0 0 (0 : Int32)) (by decide) (by decide)
      refine lv_iconst (v := 0) hx hb dX12_holds_208 (by decide) ?_
      exact oE_i hx hb hr (by decide) hlocks hP hD hS (h0_lowest, h0_highest) [0, 1] rfl (by decide) (Or.inr (rfl)) (Nat.le_of_ble_eq_true rfl) (Nat.le_of_ble_eq_true rfl) dX12_holds_209
    · skip
      have o_263 : rl 1 0 x_259 := rl_nle c_260
      have h_264 : rg 1 2147483647 x_259 := rl_y o_263 (⟨by decide, by decide⟩ : rg 0 0 (0 : Int32)) (rga x_259) (by decide) (by decide)
      refine lv_iconst (v := 1) hx hb dX12_holds_204 (by decide) ?_
      refine lv_goto (tgt := 209) hx hb dX12_holds_205 (by decide) ?_
      exact oE_i hx hb hr (by decide) hlocks hP hD hS (h0_lowest, h0_highest) [0, 1] rfl (by decide) (Or.inl rfl) (Nat.le_of_ble_eq_true rfl) (Nat.le_of_ble_eq_true rfl) dX12_holds_209
  by_cases c_265 : x_199 = 71
  · skip
    refine oti 71 c_265 ?_
    refine lv_lookup (off := 176) (tgt := 210) hx hb dX12_holds_34 (by decide) (by decide) (by decide) ?_
    have h_266 : rg 0 39 x_194 := ht.2.2 c_265
    refine lv_aload_n hx hb dX12_holds_210 rfl (lv_at hl 3 rfl) ?_
    refine lv_iload_n hx hb dX12_holds_211 rfl (lv_at hl 5 rfl) ?_
    refine lv_iload hx hb dX12_holds_212 (lv_at hl 1 rfl) ?_
    refine oC_i (Wc := [(h0, .inr (11, [.int h0_thrown, .ref h0_tape, .int h0_taped, .int h0_size, .int h0_limit, .int h0_to, .int h0_from, .int h0_kind, .int h0_number, .int h0_sign, .int h0_fault, .int h0_place, .long h0_word, .int h0_told, .ref h0_now, .ref h0_read, .ref h0_kept, .ref h0_snaps, .ref h0_aside, .ref h0_name, .ref h0_readName, .ref h0_keptName, .ref h0_isKept, .ref h0_onces, .int h0_snapMany, .int h0_lowest, .int h0_highest, .int h0_agreed, .int h0_jurors, .int h0_panelled, .ref h0_inSets, .int h0_surely, .int h0_asked, .ref h0_frees, .int h0_struck, .int h0_beating, .ref h0_text, .int h0_texts, .int h0_seed, .ref h0_line, .ref h0_written, .int h0_lineMany, .int h0_hasWritten, .ref h0_node, .int h0_nodes, .int h0_onesMany, .int h0_within, .int h0_top])), (aI ca h0_now 376 F_h0_now)]) (Wr := []) (va_runV (As := [.int a2, .int x_194]) (rest := []) ⟨hx, hb, hml, hown, hts⟩ (s_X12_areOneRing l D ca H.size h0 a2 x_194 h0_thrown h0_tape h0_taped h0_size h0_limit h0_to h0_from h0_kind h0_number h0_sign h0_fault h0_place h0_word h0_told h0_now h0_read h0_kept h0_snaps h0_aside h0_name h0_readName h0_keptName h0_isKept h0_onces h0_snapMany h0_lowest h0_highest h0_agreed h0_jurors h0_panelled h0_inSets h0_surely h0_asked h0_frees h0_struck h0_beating h0_text h0_texts h0_seed h0_line h0_written h0_lineMany h0_hasWritten h0_node h0_nodes h0_onesMany h0_within h0_top F_h0_now i_a2 h_266 i_h0_taped i_h0_size i_h0_to i_h0_kind i_h0_snapMany i_h0_texts i_h0_lineMany i_h0_hasWritten i_h0_nodes i_h0_onesMany s_h0_now_0 s_h0_now_1 s_h0_now_2 s_h0_now_3 s_h0_now_4 s_h0_now_5 s_h0_now_6 s_h0_now_7) (cwV 2 hts gX12_holds_X12_areOneRing rfl rfl rfl (by decide +kernel) ⟨Nat.le_of_ble_eq_true rfl, Nat.le_of_ble_eq_true rfl⟩) (oPV (C := RX12) hK hP hD [0, 1] rfl (by decide) 0 rfl (ci := 11) rfl rfl) rfl rfl hl.1 rfl (lv_room (Nat.le_of_ble_eq_true rfl)) dX12_holds_214 ⟨Nat.le_of_ble_eq_true rfl, Nat.le_of_ble_eq_true rfl⟩) hP hD hS hA [0, 1] [] rfl rfl (by decide) (by decide) (fun r_267 u H locs w_268 hP hD hS => ?_)
    obtain ⟨u_269, u_270⟩ := u
    have hP : va_P D vwCl [(h0, .inr (11, [.int h0_thrown, .ref h0_tape, .int h0_taped, .int h0_size, .int h0_limit, .int h0_to, .int h0_from, .int h0_kind, .int h0_number, .int h0_sign, .int h0_fault, .int h0_place, .long h0_word, .int h0_told, .ref h0_now, .ref h0_read, .ref h0_kept, .ref h0_snaps, .ref h0_aside, .ref h0_name, .ref h0_readName, .ref h0_keptName, .ref h0_isKept, .ref h0_onces, .int h0_snapMany, .int u_269, .int u_270, .int h0_agreed, .int h0_jurors, .int h0_panelled, .ref h0_inSets, .int h0_surely, .int h0_asked, .ref h0_frees, .int h0_struck, .int h0_beating, .ref h0_text, .int h0_texts, .int h0_seed, .ref h0_line, .ref h0_written, .int h0_lineMany, .int h0_hasWritten, .ref h0_node, .int h0_nodes, .int h0_onesMany, .int h0_within, .int h0_top])), (aI ca h0_now 376 F_h0_now)] H := hP
    have hD : va_D A [(h0, .inr (11, [.int h0_thrown, .ref h0_tape, .int h0_taped, .int h0_size, .int h0_limit, .int h0_to, .int h0_from, .int h0_kind, .int h0_number, .int h0_sign, .int h0_fault, .int h0_place, .long h0_word, .int h0_told, .ref h0_now, .ref h0_read, .ref h0_kept, .ref h0_snaps, .ref h0_aside, .ref h0_name, .ref h0_readName, .ref h0_keptName, .ref h0_isKept, .ref h0_onces, .int h0_snapMany, .int u_269, .int u_270, .int h0_agreed, .int h0_jurors, .int h0_panelled, .ref h0_inSets, .int h0_surely, .int h0_asked, .ref h0_frees, .int h0_struck, .int h0_beating, .ref h0_text, .int h0_texts, .int h0_seed, .ref h0_line, .ref h0_written, .int h0_lineMany, .int h0_hasWritten, .ref h0_node, .int h0_nodes, .int h0_onesMany, .int h0_within, .int h0_top])), (aI ca h0_now 376 F_h0_now)] := hD
    try dsimp only at w_268
    rcases w_268 with ⟨h_271, h_272, h_273⟩ | ⟨h_274, h_275, h_276, h_277⟩
    · skip
      subst h_271
      exact oE_i hx hb hr (by decide) hlocks hP hD hS (u_269, u_270) [0, 1] rfl (by decide) (Or.inr (rfl)) (Nat.le_of_ble_eq_true rfl) (Nat.le_of_ble_eq_true rfl) dX12_holds_217
    · skip
      subst h_274
      exact oE_i hx hb hr (by decide) hlocks hP hD hS (u_269, u_270) [0, 1] rfl (by decide) (Or.inl rfl) (Nat.le_of_ble_eq_true rfl) (Nat.le_of_ble_eq_true rfl) dX12_holds_217
  have t0 := lv_neT c_200 (show (1 : Int32).toInt = 1 by decide)
  have t1 := lv_neT c_208 (show (2 : Int32).toInt = 2 by decide)
  have t2 := lv_neT c_223 (show (3 : Int32).toInt = 3 by decide)
  have t3 := lv_neT c_238 (show (68 : Int32).toInt = 68 by decide)
  have t4 := lv_neT c_247 (show (69 : Int32).toInt = 69 by decide)
  have t5 := lv_neT c_255 (show (70 : Int32).toInt = 70 by decide)
  have t6 := lv_neT c_265 (show (71 : Int32).toInt = 71 by decide)
  refine lv_lookup (off := 184) (tgt := 218) hx hb dX12_holds_34 (by decide) (by simp [Op.lookupswitch.offset, show ¬ (1 : Int) = x_199.toInt from fun h9 => t0 h9.symm, show ¬ (2 : Int) = x_199.toInt from fun h9 => t1 h9.symm, show ¬ (3 : Int) = x_199.toInt from fun h9 => t2 h9.symm, show ¬ (68 : Int) = x_199.toInt from fun h9 => t3 h9.symm, show ¬ (69 : Int) = x_199.toInt from fun h9 => t4 h9.symm, show ¬ (70 : Int) = x_199.toInt from fun h9 => t5 h9.symm, show ¬ (71 : Int) = x_199.toInt from fun h9 => t6 h9.symm]) (by decide) ?_
  refine lv_aload_n hx hb dX12_holds_218 rfl (lv_at hl 3 rfl) ?_
  refine va_get (D := D) (ci := 11) (v := .ref h0_now) (C := RX12) (T := TX12) (N := 48) hx hb hts k2 hown hK.1 hP 0 rfl rfl 14 (by decide) k1 (fun _ h9 => h9) rfl dX12_holds_219 ?_
  refine lv_iload_n hx hb dX12_holds_222 rfl (lv_at hl 2 rfl) ?_
  refine va_iald hx hb hK.1 hP 1 0 rfl rfl (rg_in h_189 (by decide) (by decide)) dX12_holds_223 ?_
  refine oti x_199 ex_199.symm ?_
  refine lv_bipush (v := 50) hx hb dX12_holds_224 (by decide) ?_
  refine lv_isub hx hb dX12_holds_226 ?_
  refine lv_topi (fun x_278 ex_278 => ?_)
  refine lv_istore (lv' := [(6, .int x_278), (5, .int x_198), (4, .int x_194), (3, .int x_188), (0, .ref h0), (1, .int a1), (2, .int a2)]) hx hb dX12_holds_227 hl (by decide) rfl (fun ls hl => ?_)
  refine lv_iload hx hb dX12_holds_229 (lv_at hl 0 rfl) ?_
  refine lv_bipush (v := 22) hx hb dX12_holds_231 (by decide) ?_
  refine lv_icmp_ne (tgt := 247) hx hb dX12_holds_233 (by decide) (fun c_279 => ?_) (fun c_279 => ?_)
  · skip
    refine lv_iload hx hb dX12_holds_247 (lv_at hl 0 rfl) ?_
    refine lv_bipush (v := 23) hx hb dX12_holds_249 (by decide) ?_
    refine lv_icmp_ne (tgt := 266) hx hb dX12_holds_251 (by decide) (fun c_280 => ?_) (fun c_280 => ?_)
    · skip
      refine lv_iload hx hb dX12_holds_266 (lv_at hl 0 rfl) ?_
      refine lv_bipush (v := 24) hx hb dX12_holds_268 (by decide) ?_
      refine lv_icmp_ne (tgt := 285) hx hb dX12_holds_270 (by decide) (fun c_281 => ?_) (fun c_281 => ?_)
      · skip
        refine lv_iload_n hx hb dX12_holds_285 rfl (lv_at hl 6 rfl) ?_
        exact J286_153 x_188 x_198 a2 h_189 H locs ls (oPsub hP [0, 1] rfl) (hD.sub [0, 1] (by decide) rfl) hS (lv_sub hl [4, 3, 1] rfl)
      · skip
        have o_282 : rl 0 x_278 24 := rl_eq c_281
        have h_283 : rg (-2147483648) 24 x_278 := rl_x o_282 (rga x_278) (⟨by decide, by decide⟩ : rg 24 24 (24 : Int32)) (by decide) (by decide)
        have o_284 : rl 0 24 x_278 := rl_eq c_281.symm
        have h_285 : rg 24 24 x_278 := rl_y o_284 (⟨by decide, by decide⟩ : rg 24 24 (24 : Int32)) h_283 (by decide) (by decide)
        refine lv_aload_n hx hb dX12_holds_273 rfl (lv_at hl 4 rfl) ?_
        refine va_get (D := D) (ci := 11) (v := .ref h0_now) (C := RX12) (T := TX12) (N := 48) hx hb hts k2 hown hK.1 hP 0 rfl rfl 14 (by decide) k1 (fun _ h9 => h9) rfl dX12_holds_274 ?_
        refine lv_bipush (v := 94) hx hb dX12_holds_277 (by decide) ?_
        refine lv_iload_n hx hb dX12_holds_279 rfl (lv_at hl 6 rfl) ?_
        refine lv_iadd hx hb dX12_holds_280 ?_
        refine lv_topi (fun x_286 ex_286 => ?_)
        have h_287 : rg 94 103 x_286 := by rw [ex_286]; exact rg_add (⟨by decide, by decide⟩ : rg 94 94 (94 : Int32)) i_a2 (by decide) (by decide) (by decide) (by decide)
        have l_288 : lq x_286.toInt (a2.toInt + 94) := lqm (by rw [ex_286]; have q := tadd (⟨by decide, by decide⟩ : rg 94 94 (94 : Int32)) i_a2 (by decide) (by decide); have r0 := lqe (lqm (by decide) : lq (94 : Int32).toInt 94); omega)
        refine va_iald hx hb hK.1 hP 1 0 rfl rfl (rg_in h_287 (by decide) (by decide)) dX12_holds_281 ?_
        refine lv_topi (fun x_289 ex_289 => ?_)
        refine lv_goto (tgt := 286) hx hb dX12_holds_282 (by decide) ?_
        exact J286_153 x_188 x_198 x_289 h_189 H locs ls (oPsub hP [0, 1] rfl) (hD.sub [0, 1] (by decide) rfl) hS (lv_sub hl [4, 3, 1] rfl)
    · skip
      have o_290 : rl 0 x_278 23 := rl_eq c_280
      have h_291 : rg (-2147483648) 23 x_278 := rl_x o_290 (rga x_278) (⟨by decide, by decide⟩ : rg 23 23 (23 : Int32)) (by decide) (by decide)
      have o_292 : rl 0 23 x_278 := rl_eq c_280.symm
      have h_293 : rg 23 23 x_278 := rl_y o_292 (⟨by decide, by decide⟩ : rg 23 23 (23 : Int32)) h_291 (by decide) (by decide)
      refine lv_aload_n hx hb dX12_holds_254 rfl (lv_at hl 4 rfl) ?_
      refine va_get (D := D) (ci := 11) (v := .ref h0_now) (C := RX12) (T := TX12) (N := 48) hx hb hts k2 hown hK.1 hP 0 rfl rfl 14 (by decide) k1 (fun _ h9 => h9) rfl dX12_holds_255 ?_
      refine lv_bipush (v := 15) hx hb dX12_holds_258 (by decide) ?_
      refine lv_iload_n hx hb dX12_holds_260 rfl (lv_at hl 6 rfl) ?_
      refine lv_iadd hx hb dX12_holds_261 ?_
      refine lv_topi (fun x_294 ex_294 => ?_)
      have h_295 : rg 15 24 x_294 := by rw [ex_294]; exact rg_add (⟨by decide, by decide⟩ : rg 15 15 (15 : Int32)) i_a2 (by decide) (by decide) (by decide) (by decide)
      have l_296 : lq x_294.toInt (a2.toInt + 15) := lqm (by rw [ex_294]; have q := tadd (⟨by decide, by decide⟩ : rg 15 15 (15 : Int32)) i_a2 (by decide) (by decide); have r0 := lqe (lqm (by decide) : lq (15 : Int32).toInt 15); omega)
      refine va_iald hx hb hK.1 hP 1 0 rfl rfl (rg_in h_295 (by decide) (by decide)) dX12_holds_262 ?_
      refine lv_topi (fun x_297 ex_297 => ?_)
      refine lv_goto (tgt := 286) hx hb dX12_holds_263 (by decide) ?_
      exact J286_153 x_188 x_198 x_297 h_189 H locs ls (oPsub hP [0, 1] rfl) (hD.sub [0, 1] (by decide) rfl) hS (lv_sub hl [4, 3, 1] rfl)
  · skip
    have o_298 : rl 0 x_278 22 := rl_eq c_279
    have h_299 : rg (-2147483648) 22 x_278 := rl_x o_298 (rga x_278) (⟨by decide, by decide⟩ : rg 22 22 (22 : Int32)) (by decide) (by decide)
    have o_300 : rl 0 22 x_278 := rl_eq c_279.symm
    have h_301 : rg 22 22 x_278 := rl_y o_300 (⟨by decide, by decide⟩ : rg 22 22 (22 : Int32)) h_299 (by decide) (by decide)
    refine lv_aload_n hx hb dX12_holds_236 rfl (lv_at hl 4 rfl) ?_
    refine va_get (D := D) (ci := 11) (v := .ref h0_now) (C := RX12) (T := TX12) (N := 48) hx hb hts k2 hown hK.1 hP 0 rfl rfl 14 (by decide) k1 (fun _ h9 => h9) rfl dX12_holds_237 ?_
    refine lv_iconst (v := 5) hx hb dX12_holds_240 (by decide) ?_
    refine lv_iload_n hx hb dX12_holds_241 rfl (lv_at hl 6 rfl) ?_
    refine lv_iadd hx hb dX12_holds_242 ?_
    refine lv_topi (fun x_302 ex_302 => ?_)
    have h_303 : rg 5 14 x_302 := by rw [ex_302]; exact rg_add (⟨by decide, by decide⟩ : rg 5 5 (5 : Int32)) i_a2 (by decide) (by decide) (by decide) (by decide)
    have l_304 : lq x_302.toInt (a2.toInt + 5) := lqm (by rw [ex_302]; have q := tadd (⟨by decide, by decide⟩ : rg 5 5 (5 : Int32)) i_a2 (by decide) (by decide); have r0 := lqe (lqm (by decide) : lq (5 : Int32).toInt 5); omega)
    refine va_iald hx hb hK.1 hP 1 0 rfl rfl (rg_in h_303 (by decide) (by decide)) dX12_holds_243 ?_
    refine lv_topi (fun x_305 ex_305 => ?_)
    refine lv_goto (tgt := 286) hx hb dX12_holds_244 (by decide) ?_
    exact J286_153 x_188 x_198 x_305 h_189 H locs ls (oPsub hP [0, 1] rfl) (hD.sub [0, 1] (by decide) rfl) hS (lv_sub hl [4, 3, 1] rfl)
